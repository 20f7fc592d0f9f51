set_option maxRecDepth 20000 in
theorem s_X9_cellOf (g : GE) {sp : Nat → Nat → Bool} {σ : Iv} {iv : Iv} {lv : Lv} {a1 : Int32} {a2 : Int32} (ha1 : Ra 0 11 a1) (ha2 : Ra 0 5 a2) (hG : SI sp σ iv)  : ConI g yX9_cellOf cX9_cellOf 3 (some .int) 1 [rf g 551, .int a1, .int a2] iv lv (fun r iv' lv' => iv = iv' ∧ lv = lv' ∧ Ra 0 71 r ∧ r.toInt = 0 + 6 * a1.toInt + 1 * a2.toInt) := by
  refine con_intro (own := "RollingNetsModel") (by decide +kernel) rfl (Nat.le_of_ble_eq_true rfl) (L0 := [some (rf g 551), some (.int a1), some (.int a2)]) rfl (fun Z zh => ?_)
  refine z_bipush zh dX9_cellOf_0 kb_6 ?_
  refine z_iloadn zh dX9_cellOf_2 rfl ?_
  refine y_imul2 zh dX9_cellOf_3 ha1 rl_6 (by decide) (u := 0) (v := 66) rfl rfl (by decide) (by decide) (fun x1 hc1 hx1 => ?_)
  refine z_iloadn zh dX9_cellOf_4 rfl ?_
  refine y_iadd zh dX9_cellOf_5 hx1 ha2 (u := 0) (v := 71) rfl rfl (by decide) (by decide) (fun x2 hc2 hx2 => ?_)
  exact z_iret zh dX9_cellOf_6 ⟨_, rfl, rfl, rfl, hx2, (by have := rl_6.1; have := rl_6.2; have := ha1.1; have := ha1.2; have := ha2.1; have := ha2.2; omega)⟩
set_option maxRecDepth 20000 in
theorem s_X9_lotAt (g : GE) {sp : Nat → Nat → Bool} {σ : Iv} {iv : Iv} {lv : Lv} {a1 : Int32} {a2 : Int32} {a3 : Int32} (ha1 : Ra 0 11 a1) (ha2 : Ra 0 5 a2) (ha3 : Ra 0 101 a3) (hG : SI sp σ iv)  : ConI g yX9_lotAt cX9_lotAt 4 (some .int) 2 [rf g 551, .int a1, .int a2, .int a3] iv lv (fun r iv' lv' => iv = iv' ∧ lv = lv' ∧ Ra 0 7343 r ∧ r.toInt = 0 + 612 * a1.toInt + 102 * a2.toInt + 1 * a3.toInt) := by
  refine con_intro (own := "RollingNetsModel") (by decide +kernel) rfl (Nat.le_of_ble_eq_true rfl) (L0 := [some (rf g 551), some (.int a1), some (.int a2), some (.int a3)]) rfl (fun Z zh => ?_)
  refine z_bipush zh dX9_lotAt_0 kb_102 ?_
  refine z_aloadnR zh dX9_lotAt_2 rfl ?_
  refine z_iloadn zh dX9_lotAt_3 rfl ?_
  refine z_iloadn zh dX9_lotAt_4 rfl ?_
  refine z_callVI zh mv_Y_65 dX9_lotAt_5 ck_Y rfl (s_X9_cellOf g ha1 ha2 hG) ⟨Nat.le_of_ble_eq_true rfl, Nat.le_of_ble_eq_true rfl⟩ rfl rfl (Nat.le_of_ble_eq_true rfl) ?_
  rintro x1 _ _ ⟨rfl, rfl, hx1, hc1⟩
  refine y_imul2 zh dX9_lotAt_8 hx1 rl_102 (by decide) (u := 0) (v := 7242) rfl rfl (by decide) (by decide) (fun x2 hc2 hx2 => ?_)
  refine z_iloadn zh dX9_lotAt_9 rfl ?_
  refine y_iadd zh dX9_lotAt_10 hx2 ha3 (u := 0) (v := 7343) rfl rfl (by decide) (by decide) (fun x3 hc3 hx3 => ?_)
  exact z_iret zh dX9_lotAt_11 ⟨_, rfl, rfl, rfl, hx3, (by have := rl_102.1; have := rl_102.2; have := ha1.1; have := ha1.2; have := ha2.1; have := ha2.2; have := ha3.1; have := ha3.2; omega)⟩
set_option maxRecDepth 20000 in
theorem s_X9_dayOf (g : GE) {sp : Nat → Nat → Bool} {σ : Iv} {iv : Iv} {lv : Lv} {a1 : Int32} {a2 : Int32} {a3 : Int32} (ha1 : Ra 0 11 a1) (ha2 : Ra 0 5 a2) (ha3 : Ra 0 101 a3) (hG : SI sp σ iv)  : ConI g yX9_dayOf cX9_dayOf 4 (some .int) 3 [rf g 551, .int a1, .int a2, .int a3] iv lv (fun r iv' lv' => iv = iv' ∧ lv = lv' ∧ Ra 0 99 r ∧ ∃ z : Int32, z.toInt = 420 + 612 * a1.toInt + 102 * a2.toInt + a3.toInt ∧ iv 552 z.toNatClampNeg = r) := by
  refine con_intro (own := "RollingNetsModel") (by decide +kernel) rfl (Nat.le_of_ble_eq_true rfl) (L0 := [some (rf g 551), some (.int a1), some (.int a2), some (.int a3)]) rfl (fun Z zh => ?_)
  refine z_aloadnR zh dX9_dayOf_0 rfl ?_
  refine z_getf zh fl_Y_7 dX9_dayOf_1 ck_Y rfl rfl ?_
  refine z_sipush zh dX9_dayOf_4 ks_420 ?_
  refine z_aloadnR zh dX9_dayOf_7 rfl ?_
  refine z_iloadn zh dX9_dayOf_8 rfl ?_
  refine z_iloadn zh dX9_dayOf_9 rfl ?_
  refine z_iloadn zh dX9_dayOf_10 rfl ?_
  refine z_callVI zh mv_Y_106 dX9_dayOf_11 ck_Y rfl (s_X9_lotAt g ha1 ha2 ha3 hG) ⟨Nat.le_of_ble_eq_true rfl, Nat.le_of_ble_eq_true rfl⟩ rfl rfl (Nat.le_of_ble_eq_true rfl) ?_
  rintro x1 _ _ ⟨rfl, rfl, hx1, hc1⟩
  refine y_iadd zh dX9_dayOf_14 rl_420 hx1 (u := 420) (v := 7763) rfl rfl (by decide) (by decide) (fun x2 hc2 hx2 => ?_)
  refine y_iald zh ck_now dX9_dayOf_15 hx2 (by decide) (by decide) (fun x3 ex3 => ?_)
  have hx3 : Ra 0 99 x3 := ra_of ex3 (nr_ld hG (by have := rl_420.1; have := rl_420.2; have := ha1.1; have := ha1.2; have := ha2.1; have := ha2.2; have := ha3.1; have := ha3.2; omega) (by have := rl_420.1; have := rl_420.2; have := ha1.1; have := ha1.2; have := ha2.1; have := ha2.2; have := ha3.1; have := ha3.2; omega))
  exact z_iret zh dX9_dayOf_16 ⟨_, rfl, rfl, rfl, hx3, ⟨x2, (by have := rl_420.1; have := rl_420.2; have := ha1.1; have := ha1.2; have := ha2.1; have := ha2.2; have := ha3.1; have := ha3.2; omega), ex3⟩⟩
set_option maxRecDepth 20000 in
theorem s_X9_greater (g : GE) {sp : Nat → Nat → Bool} {σ : Iv} {iv : Iv} {lv : Lv} {a1 : Int32} {a2 : Int32}  (hG : SI sp σ iv)  : ConI g yX9_greater cX9_greater 3 (some .int) 1 [rf g 551, .int a1, .int a2] iv lv (fun r iv' lv' => iv = iv' ∧ lv = lv' ∧ True) := by
  refine con_intro (own := "RollingNetsModel") (by decide +kernel) rfl (Nat.le_of_ble_eq_true rfl) (L0 := [some (rf g 551), some (.int a1), some (.int a2)]) rfl (fun Z zh => ?_)
  refine z_iloadn zh dX9_greater_0 rfl ?_
  refine z_iloadn zh dX9_greater_1 rfl ?_
  refine z_icmp_le (tgt := 9) zh dX9_greater_2 rfl (fun q1 => ?_) (fun q1 => ?_)
  · refine z_iloadn zh dX9_greater_9 rfl ?_
    exact z_iret zh dX9_greater_10 ⟨_, rfl, rfl, rfl, trivial⟩
  · have r2 : Ra (-2147483648) 2147483646 a2 := rb_lt_l (ra_tt a1) (ra_tt a2) (rb_nle q1) (by decide)
    have r3 : Ra (-2147483647) 2147483647 a1 := rb_lt_r (ra_tt a2) (ra_tt a1) (rb_nle q1) (by decide)
    refine z_iloadn zh dX9_greater_5 rfl ?_
    refine z_goto (tgt := 10) zh dX9_greater_6 rfl ?_
    exact z_iret zh dX9_greater_10 ⟨_, rfl, rfl, rfl, trivial⟩
set_option maxRecDepth 20000 in
theorem s_X9_lotMany (g : GE) {sp : Nat → Nat → Bool} {σ : Iv} {iv : Iv} {lv : Lv} {a1 : Int32} {a2 : Int32} (ha1 : Ra 0 11 a1) (ha2 : Ra 0 5 a2) (hG : SI sp σ iv)  : ConI g yX9_lotMany cX9_lotMany 3 (some .int) 2 [rf g 551, .int a1, .int a2] iv lv (fun r iv' lv' => iv = iv' ∧ lv = lv' ∧ Ra 0 100 r ∧ ∃ z : Int32, z.toInt = 348 + 6 * a1.toInt + a2.toInt ∧ iv 552 z.toNatClampNeg = r) := by
  refine con_intro (own := "RollingNetsModel") (by decide +kernel) rfl (Nat.le_of_ble_eq_true rfl) (L0 := [some (rf g 551), some (.int a1), some (.int a2)]) rfl (fun Z zh => ?_)
  refine z_aloadnR zh dX9_lotMany_0 rfl ?_
  refine z_getf zh fl_Y_7 dX9_lotMany_1 ck_Y rfl rfl ?_
  refine z_sipush zh dX9_lotMany_4 ks_348 ?_
  refine z_aloadnR zh dX9_lotMany_7 rfl ?_
  refine z_iloadn zh dX9_lotMany_8 rfl ?_
  refine z_iloadn zh dX9_lotMany_9 rfl ?_
  refine z_callVI zh mv_Y_65 dX9_lotMany_10 ck_Y rfl (s_X9_cellOf g ha1 ha2 hG) ⟨Nat.le_of_ble_eq_true rfl, Nat.le_of_ble_eq_true rfl⟩ rfl rfl (Nat.le_of_ble_eq_true rfl) ?_
  rintro x1 _ _ ⟨rfl, rfl, hx1, hc1⟩
  refine y_iadd zh dX9_lotMany_13 rl_348 hx1 (u := 348) (v := 419) rfl rfl (by decide) (by decide) (fun x2 hc2 hx2 => ?_)
  refine y_iald zh ck_now dX9_lotMany_14 hx2 (by decide) (by decide) (fun x3 ex3 => ?_)
  have hx3 : Ra 0 100 x3 := ra_of ex3 (nr_lm hG (by have := rl_348.1; have := rl_348.2; have := ha1.1; have := ha1.2; have := ha2.1; have := ha2.2; omega) (by have := rl_348.1; have := rl_348.2; have := ha1.1; have := ha1.2; have := ha2.1; have := ha2.2; omega))
  exact z_iret zh dX9_lotMany_15 ⟨_, rfl, rfl, rfl, hx3, ⟨x2, (by have := rl_348.1; have := rl_348.2; have := ha1.1; have := ha1.2; have := ha2.1; have := ha2.2; omega), ex3⟩⟩
set_option maxRecDepth 20000 in
theorem s_X9_sharesOf (g : GE) {sp : Nat → Nat → Bool} {σ : Iv} {iv : Iv} {lv : Lv} {a1 : Int32} {a2 : Int32} {a3 : Int32} (ha1 : Ra 0 11 a1) (ha2 : Ra 0 5 a2) (ha3 : Ra 0 101 a3) (hG : SI sp σ iv)  : ConI g yX9_sharesOf cX9_sharesOf 4 (some .int) 3 [rf g 551, .int a1, .int a2, .int a3] iv lv (fun r iv' lv' => iv = iv' ∧ lv = lv' ∧ ∃ z : Int32, z.toInt = 7764 + 612 * a1.toInt + 102 * a2.toInt + a3.toInt ∧ iv 552 z.toNatClampNeg = r) := by
  refine con_intro (own := "RollingNetsModel") (by decide +kernel) rfl (Nat.le_of_ble_eq_true rfl) (L0 := [some (rf g 551), some (.int a1), some (.int a2), some (.int a3)]) rfl (fun Z zh => ?_)
  refine z_aloadnR zh dX9_sharesOf_0 rfl ?_
  refine z_getf zh fl_Y_7 dX9_sharesOf_1 ck_Y rfl rfl ?_
  refine z_sipush zh dX9_sharesOf_4 ks_7764 ?_
  refine z_aloadnR zh dX9_sharesOf_7 rfl ?_
  refine z_iloadn zh dX9_sharesOf_8 rfl ?_
  refine z_iloadn zh dX9_sharesOf_9 rfl ?_
  refine z_iloadn zh dX9_sharesOf_10 rfl ?_
  refine z_callVI zh mv_Y_106 dX9_sharesOf_11 ck_Y rfl (s_X9_lotAt g ha1 ha2 ha3 hG) ⟨Nat.le_of_ble_eq_true rfl, Nat.le_of_ble_eq_true rfl⟩ rfl rfl (Nat.le_of_ble_eq_true rfl) ?_
  rintro x1 _ _ ⟨rfl, rfl, hx1, hc1⟩
  refine y_iadd zh dX9_sharesOf_14 rl_7764 hx1 (u := 7764) (v := 15107) rfl rfl (by decide) (by decide) (fun x2 hc2 hx2 => ?_)
  refine y_iald zh ck_now dX9_sharesOf_15 hx2 (by decide) (by decide) (fun x3 ex3 => ?_)
  exact z_iret zh dX9_sharesOf_16 ⟨_, rfl, rfl, rfl, ⟨x2, (by have := rl_7764.1; have := rl_7764.2; have := ha1.1; have := ha1.2; have := ha2.1; have := ha2.2; have := ha3.1; have := ha3.2; omega), ex3⟩⟩
set_option maxRecDepth 20000 in
theorem s_X9_isLong (g : GE) {sp : Nat → Nat → Bool} {σ : Iv} {iv : Iv} {lv : Lv} {a1 : Int32} {a2 : Int32} (ha1 : Ra 0 11 a1) (ha2 : Ra 0 5 a2) (hG : SI sp σ iv)  : ConI g yX9_isLong cX9_isLong 3 (some .boolean) 4 [rf g 551, .int a1, .int a2] iv lv (fun r iv' lv' => iv = iv' ∧ lv = lv' ∧ Ra 0 1 r) := by
  refine con_intro (own := "RollingNetsModel") (by decide +kernel) rfl (Nat.le_of_ble_eq_true rfl) (L0 := [some (rf g 551), some (.int a1), some (.int a2)]) rfl (fun Z zh => ?_)
  refine z_aloadnR zh dX9_isLong_0 rfl ?_
  refine z_iloadn zh dX9_isLong_1 rfl ?_
  refine z_iloadn zh dX9_isLong_2 rfl ?_
  refine z_callVI zh mv_Y_110 dX9_isLong_3 ck_Y rfl (s_X9_lotMany g ha1 ha2 hG) ⟨Nat.le_of_ble_eq_true rfl, Nat.le_of_ble_eq_true rfl⟩ rfl rfl (Nat.le_of_ble_eq_true rfl) ?_
  rintro x1 _ _ ⟨rfl, rfl, hx1, _⟩
  refine z_if_le (tgt := 23) zh dX9_isLong_6 rfl (fun q2 => ?_) (fun q2 => ?_)
  · have r3 : Ra 0 0 x1 := rb_le_l ra_z hx1 q2 (by decide)
    refine z_iconst zh dX9_isLong_23 ki_0 ?_
    exact z_zret zh dX9_isLong_24 (ra_01 (ra_w rl_0 (by decide) (by decide))) ⟨_, rfl, rfl, rfl, (ra_w rl_0 (by decide) (by decide))⟩
  · have r4 : Ra 1 100 x1 := rb_lt_r ra_z hx1 (rb_nle q2) (by decide)
    refine z_aloadnR zh dX9_isLong_9 rfl ?_
    refine z_iloadn zh dX9_isLong_10 rfl ?_
    refine z_iloadn zh dX9_isLong_11 rfl ?_
    refine z_iconst zh dX9_isLong_12 ki_0 ?_
    refine z_callVI zh mv_Y_113 dX9_isLong_13 ck_Y rfl (s_X9_sharesOf g ha1 ha2 (ra_w rl_0 (by decide) (by decide)) hG) ⟨Nat.le_of_ble_eq_true rfl, Nat.le_of_ble_eq_true rfl⟩ rfl rfl (Nat.le_of_ble_eq_true rfl) ?_
    rintro x5 _ _ ⟨rfl, rfl, _⟩
    refine z_if_le (tgt := 23) zh dX9_isLong_16 rfl (fun q6 => ?_) (fun q6 => ?_)
    · have r7 : Ra (-2147483648) 0 x5 := rb_le_l ra_z (ra_tt x5) q6 (by decide)
      refine z_iconst zh dX9_isLong_23 ki_0 ?_
      exact z_zret zh dX9_isLong_24 (ra_01 (ra_w rl_0 (by decide) (by decide))) ⟨_, rfl, rfl, rfl, (ra_w rl_0 (by decide) (by decide))⟩
    · have r8 : Ra 1 2147483647 x5 := rb_lt_r ra_z (ra_tt x5) (rb_nle q6) (by decide)
      refine z_iconst zh dX9_isLong_19 ki_1 ?_
      refine z_goto (tgt := 24) zh dX9_isLong_20 rfl ?_
      exact z_zret zh dX9_isLong_24 (ra_01 (ra_w rl_1 (by decide) (by decide))) ⟨_, rfl, rfl, rfl, (ra_w rl_1 (by decide) (by decide))⟩
set_option maxRecDepth 20000 in
theorem s_X9_isShort (g : GE) {sp : Nat → Nat → Bool} {σ : Iv} {iv : Iv} {lv : Lv} {a1 : Int32} {a2 : Int32} (ha1 : Ra 0 11 a1) (ha2 : Ra 0 5 a2) (hG : SI sp σ iv)  : ConI g yX9_isShort cX9_isShort 3 (some .boolean) 4 [rf g 551, .int a1, .int a2] iv lv (fun r iv' lv' => iv = iv' ∧ lv = lv' ∧ Ra 0 1 r) := by
  refine con_intro (own := "RollingNetsModel") (by decide +kernel) rfl (Nat.le_of_ble_eq_true rfl) (L0 := [some (rf g 551), some (.int a1), some (.int a2)]) rfl (fun Z zh => ?_)
  refine z_aloadnR zh dX9_isShort_0 rfl ?_
  refine z_iloadn zh dX9_isShort_1 rfl ?_
  refine z_iloadn zh dX9_isShort_2 rfl ?_
  refine z_callVI zh mv_Y_110 dX9_isShort_3 ck_Y rfl (s_X9_lotMany g ha1 ha2 hG) ⟨Nat.le_of_ble_eq_true rfl, Nat.le_of_ble_eq_true rfl⟩ rfl rfl (Nat.le_of_ble_eq_true rfl) ?_
  rintro x1 _ _ ⟨rfl, rfl, hx1, _⟩
  refine z_if_le (tgt := 23) zh dX9_isShort_6 rfl (fun q2 => ?_) (fun q2 => ?_)
  · have r3 : Ra 0 0 x1 := rb_le_l ra_z hx1 q2 (by decide)
    refine z_iconst zh dX9_isShort_23 ki_0 ?_
    exact z_zret zh dX9_isShort_24 (ra_01 (ra_w rl_0 (by decide) (by decide))) ⟨_, rfl, rfl, rfl, (ra_w rl_0 (by decide) (by decide))⟩
  · have r4 : Ra 1 100 x1 := rb_lt_r ra_z hx1 (rb_nle q2) (by decide)
    refine z_aloadnR zh dX9_isShort_9 rfl ?_
    refine z_iloadn zh dX9_isShort_10 rfl ?_
    refine z_iloadn zh dX9_isShort_11 rfl ?_
    refine z_iconst zh dX9_isShort_12 ki_0 ?_
    refine z_callVI zh mv_Y_113 dX9_isShort_13 ck_Y rfl (s_X9_sharesOf g ha1 ha2 (ra_w rl_0 (by decide) (by decide)) hG) ⟨Nat.le_of_ble_eq_true rfl, Nat.le_of_ble_eq_true rfl⟩ rfl rfl (Nat.le_of_ble_eq_true rfl) ?_
    rintro x5 _ _ ⟨rfl, rfl, _⟩
    refine z_if_ge (tgt := 23) zh dX9_isShort_16 rfl (fun q6 => ?_) (fun q6 => ?_)
    · have r7 : Ra 0 2147483647 x5 := rb_le_r ra_z (ra_tt x5) q6 (by decide)
      refine z_iconst zh dX9_isShort_23 ki_0 ?_
      exact z_zret zh dX9_isShort_24 (ra_01 (ra_w rl_0 (by decide) (by decide))) ⟨_, rfl, rfl, rfl, (ra_w rl_0 (by decide) (by decide))⟩
    · have r8 : Ra (-2147483648) (-1) x5 := rb_lt_l ra_z (ra_tt x5) (rb_nle q6) (by decide)
      refine z_iconst zh dX9_isShort_19 ki_1 ?_
      refine z_goto (tgt := 24) zh dX9_isShort_20 rfl ?_
      exact z_zret zh dX9_isShort_24 (ra_01 (ra_w rl_1 (by decide) (by decide))) ⟨_, rfl, rfl, rfl, (ra_w rl_1 (by decide) (by decide))⟩
set_option maxRecDepth 20000 in
theorem s_X9_lesser (g : GE) {sp : Nat → Nat → Bool} {σ : Iv} {iv : Iv} {lv : Lv} {a1 : Int32} {a2 : Int32}  (hG : SI sp σ iv)  : ConI g yX9_lesser cX9_lesser 3 (some .int) 1 [rf g 551, .int a1, .int a2] iv lv (fun r iv' lv' => iv = iv' ∧ lv = lv' ∧ True) := by
  refine con_intro (own := "RollingNetsModel") (by decide +kernel) rfl (Nat.le_of_ble_eq_true rfl) (L0 := [some (rf g 551), some (.int a1), some (.int a2)]) rfl (fun Z zh => ?_)
  refine z_iloadn zh dX9_lesser_0 rfl ?_
  refine z_iloadn zh dX9_lesser_1 rfl ?_
  refine z_icmp_ge (tgt := 9) zh dX9_lesser_2 rfl (fun q1 => ?_) (fun q1 => ?_)
  · refine z_iloadn zh dX9_lesser_9 rfl ?_
    exact z_iret zh dX9_lesser_10 ⟨_, rfl, rfl, rfl, trivial⟩
  · have r2 : Ra (-2147483648) 2147483646 a1 := rb_lt_l (ra_tt a2) (ra_tt a1) (rb_nle q1) (by decide)
    have r3 : Ra (-2147483647) 2147483647 a2 := rb_lt_r (ra_tt a1) (ra_tt a2) (rb_nle q1) (by decide)
    refine z_iloadn zh dX9_lesser_5 rfl ?_
    refine z_goto (tgt := 10) zh dX9_lesser_6 rfl ?_
    exact z_iret zh dX9_lesser_10 ⟨_, rfl, rfl, rfl, trivial⟩
set_option maxRecDepth 20000 in
theorem s_X9_positionOf (g : GE) {sp : Nat → Nat → Bool} {σ : Iv} {iv : Iv} {lv : Lv} {a1 : Int32} {a2 : Int32} (ha1 : Ra 0 11 a1) (ha2 : Ra 0 5 a2) (hG : SI sp σ iv)  : ConI g yX9_positionOf cX9_positionOf 5 (some .int) 4 [rf g 551, .int a1, .int a2] iv lv (fun r iv' lv' => iv = iv' ∧ lv = lv' ∧ True) := by
  refine con_intro (own := "RollingNetsModel") (by decide +kernel) rfl (Nat.le_of_ble_eq_true rfl) (L0 := [some (rf g 551), some (.int a1), some (.int a2), none, none]) rfl (fun Z zh => ?_)
  refine z_iconst zh dX9_positionOf_0 ki_0 ?_
  refine z_istoren zh dX9_positionOf_1 (by decide) (L' := [some (rf g 551), some (.int a1), some (.int a2), some (.int (nI 0)), none]) rfl ?_
  refine z_iconst zh dX9_positionOf_2 ki_0 ?_
  refine z_istore zh dX9_positionOf_3 (by decide) (L' := [some (rf g 551), some (.int a1), some (.int a2), some (.int (nI 0)), some (.int (nI 0))]) rfl ?_
  have J5 : ∀ (n : Nat) (x1 : Int32) (x2 : Int32), Ra 0 100 x2 → 100 - x2.toInt < (n : Int) → Z 5 [some (rf g 551), some (.int a1), some (.int a2), some (.int x1), some (.int x2)] [] iv lv := by
    intro n
    induction n with
    | zero => intro x1 x2 hx2 hn5; exact (ms_uz hx2 hn5).elim
    | succ n ih5 =>
      intro x1 x2 hx2 hn5
      refine z_iload zh dX9_positionOf_5 rfl ?_
      refine z_aloadnR zh dX9_positionOf_7 rfl ?_
      refine z_iloadn zh dX9_positionOf_8 rfl ?_
      refine z_iloadn zh dX9_positionOf_9 rfl ?_
      refine z_callVI zh mv_Y_110 dX9_positionOf_10 ck_Y rfl (s_X9_lotMany g ha1 ha2 hG) ⟨Nat.le_of_ble_eq_true rfl, Nat.le_of_ble_eq_true rfl⟩ rfl rfl (Nat.le_of_ble_eq_true rfl) ?_
      rintro x3 _ _ ⟨rfl, rfl, hx3, _⟩
      refine z_icmp_ge (tgt := 33) zh dX9_positionOf_13 rfl (fun q4 => ?_) (fun q4 => ?_)
      · refine z_iloadn zh dX9_positionOf_33 rfl ?_
        exact z_iret zh dX9_positionOf_34 ⟨_, rfl, rfl, rfl, trivial⟩
      · have r5 : Ra 0 99 x2 := rb_lt_l hx3 hx2 (rb_nle q4) (by decide)
        have r6 : Ra 1 100 x3 := rb_lt_r hx2 hx3 (rb_nle q4) (by decide)
        refine z_iloadn zh dX9_positionOf_16 rfl ?_
        refine z_aloadnR zh dX9_positionOf_17 rfl ?_
        refine z_iloadn zh dX9_positionOf_18 rfl ?_
        refine z_iloadn zh dX9_positionOf_19 rfl ?_
        refine z_iload zh dX9_positionOf_20 rfl ?_
        refine z_callVI zh mv_Y_113 dX9_positionOf_22 ck_Y rfl (s_X9_sharesOf g ha1 ha2 (ra_w r5 (by decide) (by decide)) hG) ⟨Nat.le_of_ble_eq_true rfl, Nat.le_of_ble_eq_true rfl⟩ rfl rfl (Nat.le_of_ble_eq_true rfl) ?_
        rintro x7 _ _ ⟨rfl, rfl, _⟩
        refine y_iaddT zh dX9_positionOf_25 (fun x8 => ?_)
        refine z_istoren zh dX9_positionOf_26 (by decide) (L' := [some (rf g 551), some (.int a1), some (.int a2), some (.int x8), some (.int x2)]) rfl ?_
        refine y_iinc (L' := fun z => [some (rf g 551), some (.int a1), some (.int a2), some (.int x8), some (.int z)]) zh dX9_positionOf_27 (by decide) rfl (by decide +kernel) r5 (u := 1) (v := 100) rfl rfl (by decide) (by decide) (fun _ => rfl) (fun x9 hc9 hx9 => ?_)
        refine z_goto (tgt := 5) zh dX9_positionOf_30 rfl ?_
        exact ih5 x8 x9 (ra_w hx9 (by decide) (by decide)) (ms_up hc9 (by decide) hn5)
  exact J5 101 (nI 0) (nI 0) (ra_w rl_0 (by decide) (by decide)) (ms_u0 rl_0 (by decide))
set_option maxRecDepth 20000 in
theorem s_X9_isIssue (g : GE) {sp : Nat → Nat → Bool} {σ : Iv} {iv : Iv} {lv : Lv} {a1 : Int32}  (hG : SI sp σ iv)  : ConI g yX9_isIssue cX9_isIssue 2 (some .boolean) 1 [rf g 551, .int a1] iv lv (fun r iv' lv' => iv = iv' ∧ lv = lv' ∧ Ra 0 1 r ∧ (¬ r = 0 → Ra 0 5 a1)) := by
  refine con_intro (own := "RollingNetsModel") (by decide +kernel) rfl (Nat.le_of_ble_eq_true rfl) (L0 := [some (rf g 551), some (.int a1)]) rfl (fun Z zh => ?_)
  refine z_iloadn zh dX9_isIssue_0 rfl ?_
  refine z_if_lt (tgt := 14) zh dX9_isIssue_1 rfl (fun q1 => ?_) (fun q1 => ?_)
  · have r2 : Ra (-2147483648) (-1) a1 := rb_lt_l ra_z (ra_tt a1) q1 (by decide)
    refine z_iconst zh dX9_isIssue_14 ki_0 ?_
    exact z_zret zh dX9_isIssue_15 (ra_01 (ra_w rl_0 (by decide) (by decide))) ⟨_, rfl, rfl, rfl, (ra_w rl_0 (by decide) (by decide)), (fun q => absurd rfl q)⟩
  · have r3 : Ra 0 2147483647 a1 := rb_le_r ra_z (ra_tt a1) (rb_nlt q1) (by decide)
    refine z_iloadn zh dX9_isIssue_4 rfl ?_
    refine z_bipush zh dX9_isIssue_5 kb_6 ?_
    refine z_icmp_ge (tgt := 14) zh dX9_isIssue_7 rfl (fun q4 => ?_) (fun q4 => ?_)
    · have r5 : Ra 6 2147483647 a1 := rb_le_r rl_6 r3 q4 (by decide)
      refine z_iconst zh dX9_isIssue_14 ki_0 ?_
      exact z_zret zh dX9_isIssue_15 (ra_01 (ra_w rl_0 (by decide) (by decide))) ⟨_, rfl, rfl, rfl, (ra_w rl_0 (by decide) (by decide)), (fun q => absurd rfl q)⟩
    · have r6 : Ra 0 5 a1 := rb_lt_l rl_6 r3 (rb_nle q4) (by decide)
      refine z_iconst zh dX9_isIssue_10 ki_1 ?_
      refine z_goto (tgt := 15) zh dX9_isIssue_11 rfl ?_
      exact z_zret zh dX9_isIssue_15 (ra_01 (ra_w rl_1 (by decide) (by decide))) ⟨_, rfl, rfl, rfl, (ra_w rl_1 (by decide) (by decide)), (fun _ => r6)⟩
set_option maxRecDepth 20000 in
theorem s_X9_memberMany (g : GE) {sp : Nat → Nat → Bool} {σ : Iv} {iv : Iv} {lv : Lv}   (hG : SI sp σ iv)  : ConI g yX9_memberMany cX9_memberMany 1 (some .int) 1 [rf g 551] iv lv (fun r iv' lv' => iv = iv' ∧ lv = lv' ∧ Ra 2 12 r) := by
  refine con_intro (own := "RollingNetsModel") (by decide +kernel) rfl (Nat.le_of_ble_eq_true rfl) (L0 := [some (rf g 551)]) rfl (fun Z zh => ?_)
  refine z_aloadnR zh dX9_memberMany_0 rfl ?_
  refine z_getf zh fl_Y_7 dX9_memberMany_1 ck_Y rfl rfl ?_
  refine z_iconst zh dX9_memberMany_4 ki_0 ?_
  refine y_ialdN zh ck_now dX9_memberMany_5 (by decide) (fun x1 ex1 => ?_)
  have hx1 : Ra (-4) 6 x1 := ra_of ex1 (nr_l hG 0 rfl)
  refine z_bipush zh dX9_memberMany_6 kb_6 ?_
  refine y_iadd zh dX9_memberMany_8 hx1 rl_6 (u := 2) (v := 12) rfl rfl (by decide) (by decide) (fun x2 hc2 hx2 => ?_)
  exact z_iret zh dX9_memberMany_9 ⟨_, rfl, rfl, rfl, hx2⟩
set_option maxRecDepth 20000 in
theorem s_X9_aged (g : GE) {sp : Nat → Nat → Bool} {σ : Iv} {iv : Iv} {lv : Lv} {a1 : Int32} {a2 : Int32}  (hG : SI sp σ iv)  : ConI g yX9_aged cX9_aged 6 (some .int) 5 [rf g 551, .int a1, .int a2] iv lv (fun r iv lv => SI sp σ iv ∧ True) := by
  refine con_intro (own := "RollingNetsModel") (by decide +kernel) rfl (Nat.le_of_ble_eq_true rfl) (L0 := [some (rf g 551), some (.int a1), some (.int a2), none, none, none]) rfl (fun Z zh => ?_)
  refine z_aloadnR zh dX9_aged_0 rfl ?_
  refine z_iconst zh dX9_aged_1 ki_0 ?_
  refine z_putI zh fl_Y_58 dX9_aged_2 ck_Y rfl rfl (Nat.le_of_ble_eq_true rfl) (Or.inl rfl) ?_
  have hG : SI sp σ (upI iv 551 0 (nI 0)) := si_w (k := 551) (j := 0) hG (by decide) (by decide) (sp_no hG ((spc_Y (q := 0)).trans rfl)) (fun lo hi q => (rx_none rfl) lo hi ((rg_Y (q := 0)).symm.trans q))
  have em1 : upI iv 551 0 (nI 0) 551 0 = nI 0 := by rw [upI_at, if_pos ⟨rfl, rfl⟩]
  generalize upI iv 551 0 (nI 0) = iv at hG em1 ⊢
  refine z_aloadnR zh dX9_aged_5 rfl ?_
  refine z_iloadn zh dX9_aged_6 rfl ?_
  refine z_callVI zh mv_Y_94 dX9_aged_7 ck_Y rfl (s_X9_isIssue g  hG) ⟨Nat.le_of_ble_eq_true rfl, Nat.le_of_ble_eq_true rfl⟩ rfl rfl (Nat.le_of_ble_eq_true rfl) ?_
  rintro x2 _ _ ⟨rfl, rfl, hx2, hz3⟩
  refine z_if_eq (tgt := 24) zh dX9_aged_10 rfl (fun q4 => ?_) (fun q4 => ?_)
  · have r5 := rb_eq (u := 0) (v := 0) hx2 ra_z q4 (by decide) (by decide)
    refine z_iconst zh dX9_aged_24 ki_m1 ?_
    exact z_iret zh dX9_aged_25 ⟨_, rfl, hG, trivial⟩
  · have r6 : Ra 1 1 x2 := rb_ne_lo hx2 ra_z q4 (by decide)
    have r7 : Ra 0 5 a1 := (hz3 q4)
    refine z_aloadnR zh dX9_aged_13 rfl ?_
    refine z_iloadn zh dX9_aged_14 rfl ?_
    refine z_iconst zh dX9_aged_15 ki_0 ?_
    refine z_bipush zh dX9_aged_16 kb_99 ?_
    refine z_callVI zh mv_Y_79 dX9_aged_18 ck_Y rfl (s_X9_isIn g) ⟨Nat.le_of_ble_eq_true rfl, Nat.le_of_ble_eq_true rfl⟩ rfl rfl (Nat.le_of_ble_eq_true rfl) ?_
    rintro x8 _ _ ⟨rfl, rfl, hx8, hz9⟩
    refine z_if_ne (tgt := 26) zh dX9_aged_21 rfl (fun q10 => ?_) (fun q10 => ?_)
    · have r11 : Ra 1 1 x8 := rb_ne_lo hx8 ra_z q10 (by decide)
      have r12 : Ra 0 99 a2 := (rb_in rl_0 rl_99 (hz9 q10))
      refine z_iconst zh dX9_aged_26 ki_0 ?_
      refine z_istoren zh dX9_aged_27 (by decide) (L' := [some (rf g 551), some (.int a1), some (.int a2), some (.int (nI 0)), none, none]) rfl ?_
      refine z_iconst zh dX9_aged_28 ki_0 ?_
      refine z_istore zh dX9_aged_29 (by decide) (L' := [some (rf g 551), some (.int a1), some (.int a2), some (.int (nI 0)), some (.int (nI 0)), none]) rfl ?_
      have J31 : ∀ (n : Nat) (iv : Iv) (lv : Lv) (x13 : Int32) (x14 : Int32), SI sp σ iv → Ra 0 12 x14 → iv 551 0 = nI 0 → 12 - x14.toInt < (n : Int) → Z 31 [some (rf g 551), some (.int a1), some (.int a2), some (.int x13), some (.int x14), none] [] iv lv := by
        intro n
        induction n with
        | zero => intro iv lv x13 x14 hG hx14 em15 hn31; exact (ms_uz hx14 hn31).elim
        | succ n ih31 =>
          intro iv lv x13 x14 hG hx14 em15 hn31
          refine z_iload zh dX9_aged_31 rfl ?_
          refine z_aloadnR zh dX9_aged_33 rfl ?_
          refine z_callVI zh mv_Y_61 dX9_aged_34 ck_Y rfl (s_X9_memberMany g  hG) ⟨Nat.le_of_ble_eq_true rfl, Nat.le_of_ble_eq_true rfl⟩ rfl rfl (Nat.le_of_ble_eq_true rfl) ?_
          rintro x16 _ _ ⟨rfl, rfl, hx16⟩
          refine z_icmp_ge (tgt := 110) zh dX9_aged_37 rfl (fun q17 => ?_) (fun q17 => ?_)
          · have r18 : Ra 2 12 x14 := rb_le_r hx16 hx14 q17 (by decide)
            refine z_iloadn zh dX9_aged_110 rfl ?_
            exact z_iret zh dX9_aged_111 ⟨_, rfl, hG, trivial⟩
          · have r19 : Ra 0 11 x14 := rb_lt_l hx16 hx14 (rb_nle q17) (by decide)
            refine z_iconst zh dX9_aged_40 ki_0 ?_
            refine z_istore zh dX9_aged_41 (by decide) (L' := [some (rf g 551), some (.int a1), some (.int a2), some (.int x13), some (.int x14), some (.int (nI 0))]) rfl ?_
            have J43 : ∀ (n : Nat) (iv : Iv) (lv : Lv) (x20 : Int32) (x21 : Int32), SI sp σ iv → Ra 0 100 x21 → iv 551 0 = nI 0 → 100 - x21.toInt < (n : Int) → Z 43 [some (rf g 551), some (.int a1), some (.int a2), some (.int x20), some (.int x14), some (.int x21)] [] iv lv := by
              intro n
              induction n with
              | zero => intro iv lv x20 x21 hG hx21 em22 hn43; exact (ms_uz hx21 hn43).elim
              | succ n ih43 =>
                intro iv lv x20 x21 hG hx21 em22 hn43
                refine z_iload zh dX9_aged_43 rfl ?_
                refine z_aloadnR zh dX9_aged_45 rfl ?_
                refine z_iload zh dX9_aged_46 rfl ?_
                refine z_iloadn zh dX9_aged_48 rfl ?_
                refine z_callVI zh mv_Y_110 dX9_aged_49 ck_Y rfl (s_X9_lotMany g r19 r7 hG) ⟨Nat.le_of_ble_eq_true rfl, Nat.le_of_ble_eq_true rfl⟩ rfl rfl (Nat.le_of_ble_eq_true rfl) ?_
                rintro x23 _ _ ⟨rfl, rfl, hx23, _⟩
                have J104 : ∀ (iv : Iv) (lv : Lv), SI sp σ iv → iv 551 0 = nI 0 → Z 104 [some (rf g 551), some (.int a1), some (.int a2), some (.int x20), some (.int x14), some (.int x21)] [] iv lv := by
                  intro iv lv hG em24
                  refine y_iinc (L' := fun z => [some (rf g 551), some (.int a1), some (.int a2), some (.int x20), some (.int z), some (.int x21)]) zh dX9_aged_104 (by decide) rfl (by decide +kernel) r19 (u := 1) (v := 12) rfl rfl (by decide) (by decide) (fun _ => rfl) (fun x25 hc25 hx25 => ?_)
                  refine z_goto (tgt := 31) zh dX9_aged_107 rfl ?_
                  refine z_forget zh [true, true, true, true, true, false] (L2 := [some (rf g 551), some (.int a1), some (.int a2), some (.int x20), some (.int x25), none]) rfl ?_
                  exact ih31 iv lv x20 x25 hG (ra_w hx25 (by decide) (by decide)) em24 (ms_up hc25 (by decide) hn31)
                refine z_icmp_ge (tgt := 104) zh dX9_aged_52 rfl (fun q26 => ?_) (fun q26 => ?_)
                · exact J104 iv lv hG em22
                · have r27 : Ra 0 99 x21 := rb_lt_l hx23 hx21 (rb_nle q26) (by decide)
                  have r28 : Ra 1 100 x23 := rb_lt_r hx21 hx23 (rb_nle q26) (by decide)
                  refine z_aloadnR zh dX9_aged_55 rfl ?_
                  refine z_iload zh dX9_aged_56 rfl ?_
                  refine z_iloadn zh dX9_aged_58 rfl ?_
                  refine z_callVI zh mv_Y_116 dX9_aged_59 ck_Y rfl (s_X9_isShort g r19 r7 hG) ⟨Nat.le_of_ble_eq_true rfl, Nat.le_of_ble_eq_true rfl⟩ rfl rfl (Nat.le_of_ble_eq_true rfl) ?_
                  rintro x29 _ _ ⟨rfl, rfl, hx29⟩
                  refine z_if_eq (tgt := 104) zh dX9_aged_62 rfl (fun q30 => ?_) (fun q30 => ?_)
                  · have r31 := rb_eq (u := 0) (v := 0) hx29 ra_z q30 (by decide) (by decide)
                    exact J104 iv lv hG em22
                  · have r32 : Ra 1 1 x29 := rb_ne_lo hx29 ra_z q30 (by decide)
                    refine z_aloadnR zh dX9_aged_65 rfl ?_
                    refine z_getf zh fl_Y_7 dX9_aged_66 ck_Y rfl rfl ?_
                    refine z_bipush zh dX9_aged_69 kb_6 ?_
                    refine y_ialdN zh ck_now dX9_aged_71 (by decide) (fun x33 ex33 => ?_)
                    have hx33 : Ra 0 99 x33 := ra_of ex33 (nr_l hG 6 rfl)
                    refine z_aloadnR zh dX9_aged_72 rfl ?_
                    refine z_iload zh dX9_aged_73 rfl ?_
                    refine z_iloadn zh dX9_aged_75 rfl ?_
                    refine z_iload zh dX9_aged_76 rfl ?_
                    refine z_callVI zh mv_Y_125 dX9_aged_78 ck_Y rfl (s_X9_dayOf g r19 r7 (ra_w r27 (by decide) (by decide)) hG) ⟨Nat.le_of_ble_eq_true rfl, Nat.le_of_ble_eq_true rfl⟩ rfl rfl (Nat.le_of_ble_eq_true rfl) ?_
                    rintro x34 _ _ ⟨rfl, rfl, hx34, _⟩
                    refine y_isub zh dX9_aged_81 hx33 hx34 (u := (-99)) (v := 99) rfl rfl (by decide) (by decide) (fun x35 hc35 hx35 => ?_)
                    refine z_iloadn zh dX9_aged_82 rfl ?_
                    have J98 : ∀ (iv : Iv) (lv : Lv) (x36 : Int32), SI sp σ iv → iv 551 0 = nI 0 → iv 552 6 = x33 → Z 98 [some (rf g 551), some (.int a1), some (.int a2), some (.int x36), some (.int x14), some (.int x21)] [] iv lv := by
                      intro iv lv x36 hG em37 em38
                      refine y_iinc (L' := fun z => [some (rf g 551), some (.int a1), some (.int a2), some (.int x36), some (.int x14), some (.int z)]) zh dX9_aged_98 (by decide) rfl (by decide +kernel) r27 (u := 1) (v := 100) rfl rfl (by decide) (by decide) (fun _ => rfl) (fun x39 hc39 hx39 => ?_)
                      refine z_goto (tgt := 43) zh dX9_aged_101 rfl ?_
                      exact ih43 iv lv x36 x39 hG (ra_w hx39 (by decide) (by decide)) em37 (ms_up hc39 (by decide) hn43)
                    refine z_icmp_lt (tgt := 98) zh dX9_aged_83 rfl (fun q40 => ?_) (fun q40 => ?_)
                    · have r41 : Ra (-99) 98 x35 := rb_lt_l r12 hx35 q40 (by decide)
                      exact J98 iv lv x20 hG em22 ex33
                    · have r42 : Ra 0 99 x35 := rb_le_r r12 hx35 (rb_nlt q40) (by decide)
                      refine z_iloadn zh dX9_aged_86 rfl ?_
                      refine z_aloadnR zh dX9_aged_87 rfl ?_
                      refine z_iload zh dX9_aged_88 rfl ?_
                      refine z_iloadn zh dX9_aged_90 rfl ?_
                      refine z_iload zh dX9_aged_91 rfl ?_
                      refine z_callVI zh mv_Y_113 dX9_aged_93 ck_Y rfl (s_X9_sharesOf g r19 r7 (ra_w r27 (by decide) (by decide)) hG) ⟨Nat.le_of_ble_eq_true rfl, Nat.le_of_ble_eq_true rfl⟩ rfl rfl (Nat.le_of_ble_eq_true rfl) ?_
                      rintro x43 _ _ ⟨rfl, rfl, _⟩
                      refine y_isubT zh dX9_aged_96 (fun x44 => ?_)
                      refine z_istoren zh dX9_aged_97 (by decide) (L' := [some (rf g 551), some (.int a1), some (.int a2), some (.int x44), some (.int x14), some (.int x21)]) rfl ?_
                      exact J98 iv lv x44 hG em22 ex33
            exact J43 101 iv lv x13 (nI 0) hG (ra_w rl_0 (by decide) (by decide)) em15 (ms_u0 rl_0 (by decide))
      exact J31 13 iv lv (nI 0) (nI 0) hG (ra_w rl_0 (by decide) (by decide)) em1 (ms_u0 rl_0 (by decide))
    · have r45 := rb_eq (u := 0) (v := 0) hx8 ra_z q10 (by decide) (by decide)
      refine z_iconst zh dX9_aged_24 ki_m1 ?_
      exact z_iret zh dX9_aged_25 ⟨_, rfl, hG, trivial⟩
set_option maxRecDepth 20000 in
theorem s_X9_isMember (g : GE) {sp : Nat → Nat → Bool} {σ : Iv} {iv : Iv} {lv : Lv} {a1 : Int32}  (hG : SI sp σ iv)  : ConI g yX9_isMember cX9_isMember 2 (some .boolean) 2 [rf g 551, .int a1] iv lv (fun r iv' lv' => iv = iv' ∧ lv = lv' ∧ Ra 0 1 r ∧ (¬ r = 0 → Ra 0 11 a1)) := by
  refine con_intro (own := "RollingNetsModel") (by decide +kernel) rfl (Nat.le_of_ble_eq_true rfl) (L0 := [some (rf g 551), some (.int a1)]) rfl (fun Z zh => ?_)
  refine z_iloadn zh dX9_isMember_0 rfl ?_
  refine z_if_lt (tgt := 16) zh dX9_isMember_1 rfl (fun q1 => ?_) (fun q1 => ?_)
  · have r2 : Ra (-2147483648) (-1) a1 := rb_lt_l ra_z (ra_tt a1) q1 (by decide)
    refine z_iconst zh dX9_isMember_16 ki_0 ?_
    exact z_zret zh dX9_isMember_17 (ra_01 (ra_w rl_0 (by decide) (by decide))) ⟨_, rfl, rfl, rfl, (ra_w rl_0 (by decide) (by decide)), (fun q => absurd rfl q)⟩
  · have r3 : Ra 0 2147483647 a1 := rb_le_r ra_z (ra_tt a1) (rb_nlt q1) (by decide)
    refine z_iloadn zh dX9_isMember_4 rfl ?_
    refine z_aloadnR zh dX9_isMember_5 rfl ?_
    refine z_callVI zh mv_Y_61 dX9_isMember_6 ck_Y rfl (s_X9_memberMany g  hG) ⟨Nat.le_of_ble_eq_true rfl, Nat.le_of_ble_eq_true rfl⟩ rfl rfl (Nat.le_of_ble_eq_true rfl) ?_
    rintro x4 _ _ ⟨rfl, rfl, hx4⟩
    refine z_icmp_ge (tgt := 16) zh dX9_isMember_9 rfl (fun q5 => ?_) (fun q5 => ?_)
    · have r6 : Ra 2 2147483647 a1 := rb_le_r hx4 r3 q5 (by decide)
      refine z_iconst zh dX9_isMember_16 ki_0 ?_
      exact z_zret zh dX9_isMember_17 (ra_01 (ra_w rl_0 (by decide) (by decide))) ⟨_, rfl, rfl, rfl, (ra_w rl_0 (by decide) (by decide)), (fun q => absurd rfl q)⟩
    · have r7 : Ra 0 11 a1 := rb_lt_l hx4 r3 (rb_nle q5) (by decide)
      refine z_iconst zh dX9_isMember_12 ki_1 ?_
      refine z_goto (tgt := 17) zh dX9_isMember_13 rfl ?_
      exact z_zret zh dX9_isMember_17 (ra_01 (ra_w rl_1 (by decide) (by decide))) ⟨_, rfl, rfl, rfl, (ra_w rl_1 (by decide) (by decide)), (fun _ => r7)⟩
set_option maxRecDepth 20000 in
theorem s_X9_has (g : GE) {sp : Nat → Nat → Bool} {σ : Iv} {iv : Iv} {lv : Lv} {a1 : Int32} {a2 : Int32} (ha2 : Ra 0 11 a2) (hG : SI sp σ iv)  : ConI g yX9_has cX9_has 3 (some .boolean) 1 [rf g 551, .int a1, .int a2] iv lv (fun r iv' lv' => iv = iv' ∧ lv = lv' ∧ Ra 0 1 r) := by
  refine con_intro (own := "RollingNetsModel") (by decide +kernel) rfl (Nat.le_of_ble_eq_true rfl) (L0 := [some (rf g 551), some (.int a1), some (.int a2)]) rfl (fun Z zh => ?_)
  refine z_iloadn zh dX9_has_0 rfl ?_
  refine z_iloadn zh dX9_has_1 rfl ?_
  refine y_ishrT zh dX9_has_2 (fun x1 => ?_)
  refine z_iconst zh dX9_has_3 ki_1 ?_
  refine y_iandT zh dX9_has_4 (fun x2 => ?_)
  refine z_iconst zh dX9_has_5 ki_1 ?_
  refine z_icmp_ne (tgt := 13) zh dX9_has_6 rfl (fun q3 => ?_) (fun q3 => ?_)
  · refine z_iconst zh dX9_has_13 ki_0 ?_
    exact z_zret zh dX9_has_14 (ra_01 (ra_w rl_0 (by decide) (by decide))) ⟨_, rfl, rfl, rfl, (ra_w rl_0 (by decide) (by decide))⟩
  · have r4 := rb_eq (u := 1) (v := 1) (ra_tt x2) rl_1 q3 (by decide) (by decide)
    refine z_iconst zh dX9_has_9 ki_1 ?_
    refine z_goto (tgt := 14) zh dX9_has_10 rfl ?_
    exact z_zret zh dX9_has_14 (ra_01 (ra_w rl_1 (by decide) (by decide))) ⟨_, rfl, rfl, rfl, (ra_w rl_1 (by decide) (by decide))⟩
set_option maxRecDepth 20000 in
theorem s_X9_isOpenNet (g : GE) {sp : Nat → Nat → Bool} {σ : Iv} {iv : Iv} {lv : Lv} {a1 : Int32} {a2 : Int32} (ha1 : Ra 0 59 a1) (ha2 : Ra 0 5 a2) (hG : SI sp σ iv)  : ConI g yX9_isOpenNet cX9_isOpenNet 3 (some .boolean) 3 [rf g 551, .int a1, .int a2] iv lv (fun r iv' lv' => iv = iv' ∧ lv = lv' ∧ Ra 0 1 r) := by
  refine con_intro (own := "RollingNetsModel") (by decide +kernel) rfl (Nat.le_of_ble_eq_true rfl) (L0 := [some (rf g 551), some (.int a1), some (.int a2)]) rfl (fun Z zh => ?_)
  refine z_aloadnR zh dX9_isOpenNet_0 rfl ?_
  refine z_iloadn zh dX9_isOpenNet_1 rfl ?_
  refine z_iconst zh dX9_isOpenNet_2 ki_4 ?_
  refine z_callVI zh mv_Y_157 dX9_isOpenNet_3 ck_Y rfl (s_X9_noticeOf g ha1 (ra_w rl_4 (by decide) (by decide)) hG) ⟨Nat.le_of_ble_eq_true rfl, Nat.le_of_ble_eq_true rfl⟩ rfl rfl (Nat.le_of_ble_eq_true rfl) ?_
  rintro x1 _ _ ⟨rfl, rfl, z2, ez2, ex1⟩
  refine z_iconst zh dX9_isOpenNet_6 ki_1 ?_
  refine z_icmp_ne (tgt := 33) zh dX9_isOpenNet_7 rfl (fun q3 => ?_) (fun q3 => ?_)
  · refine z_iconst zh dX9_isOpenNet_33 ki_0 ?_
    exact z_zret zh dX9_isOpenNet_34 (ra_01 (ra_w rl_0 (by decide) (by decide))) ⟨_, rfl, rfl, rfl, (ra_w rl_0 (by decide) (by decide))⟩
  · have r4 := rb_eq (u := 1) (v := 1) (ra_tt x1) rl_1 q3 (by decide) (by decide)
    refine z_aloadnR zh dX9_isOpenNet_10 rfl ?_
    refine z_iloadn zh dX9_isOpenNet_11 rfl ?_
    refine z_iconst zh dX9_isOpenNet_12 ki_1 ?_
    refine z_callVI zh mv_Y_157 dX9_isOpenNet_13 ck_Y rfl (s_X9_noticeOf g ha1 (ra_w rl_1 (by decide) (by decide)) hG) ⟨Nat.le_of_ble_eq_true rfl, Nat.le_of_ble_eq_true rfl⟩ rfl rfl (Nat.le_of_ble_eq_true rfl) ?_
    rintro x5 _ _ ⟨rfl, rfl, z6, ez6, ex5⟩
    have hx5 : Ra 0 5 x5 := ra_of ex5 (nr_n1 hG a1.toInt (by have := ha1.1; have := ha1.2; have := rl_1.1; have := rl_1.2; omega) (by have := ha1.1; have := ha1.2; have := rl_1.1; have := rl_1.2; omega) (by have := ha1.1; have := ha1.2; have := rl_1.1; have := rl_1.2; omega))
    refine z_iloadn zh dX9_isOpenNet_16 rfl ?_
    refine z_icmp_ne (tgt := 33) zh dX9_isOpenNet_17 rfl (fun q7 => ?_) (fun q7 => ?_)
    · refine z_iconst zh dX9_isOpenNet_33 ki_0 ?_
      exact z_zret zh dX9_isOpenNet_34 (ra_01 (ra_w rl_0 (by decide) (by decide))) ⟨_, rfl, rfl, rfl, (ra_w rl_0 (by decide) (by decide))⟩
    · refine z_aloadnR zh dX9_isOpenNet_20 rfl ?_
      refine z_iloadn zh dX9_isOpenNet_21 rfl ?_
      refine z_iconst zh dX9_isOpenNet_22 ki_5 ?_
      refine z_callVI zh mv_Y_157 dX9_isOpenNet_23 ck_Y rfl (s_X9_noticeOf g ha1 (ra_w rl_5 (by decide) (by decide)) hG) ⟨Nat.le_of_ble_eq_true rfl, Nat.le_of_ble_eq_true rfl⟩ rfl rfl (Nat.le_of_ble_eq_true rfl) ?_
      rintro x9 _ _ ⟨rfl, rfl, z10, ez10, ex9⟩
      have hx9 : Ra 0 200 x9 := ra_of ex9 (nr_n5 hG a1.toInt (by have := ha1.1; have := ha1.2; have := rl_5.1; have := rl_5.2; omega) (by have := ha1.1; have := ha1.2; have := rl_5.1; have := rl_5.2; omega) (by have := ha1.1; have := ha1.2; have := rl_5.1; have := rl_5.2; omega))
      refine z_if_ne (tgt := 33) zh dX9_isOpenNet_26 rfl (fun q11 => ?_) (fun q11 => ?_)
      · have r12 : Ra 1 200 x9 := rb_ne_lo hx9 ra_z q11 (by decide)
        refine z_iconst zh dX9_isOpenNet_33 ki_0 ?_
        exact z_zret zh dX9_isOpenNet_34 (ra_01 (ra_w rl_0 (by decide) (by decide))) ⟨_, rfl, rfl, rfl, (ra_w rl_0 (by decide) (by decide))⟩
      · have r13 := rb_eq (u := 0) (v := 0) hx9 ra_z q11 (by decide) (by decide)
        refine z_iconst zh dX9_isOpenNet_29 ki_1 ?_
        refine z_goto (tgt := 34) zh dX9_isOpenNet_30 rfl ?_
        exact z_zret zh dX9_isOpenNet_34 (ra_01 (ra_w rl_1 (by decide) (by decide))) ⟨_, rfl, rfl, rfl, (ra_w rl_1 (by decide) (by decide))⟩
set_option maxRecDepth 20000 in
theorem s_X9_isNoticed (g : GE) {sp : Nat → Nat → Bool} {σ : Iv} {iv : Iv} {lv : Lv} {a1 : Int32} {a2 : Int32} (ha1 : Ra 0 11 a1) (ha2 : Ra 0 5 a2) (hG : SI sp σ iv)  : ConI g yX9_isNoticed cX9_isNoticed 4 (some .boolean) 4 [rf g 551, .int a1, .int a2] iv lv (fun r iv' lv' => iv = iv' ∧ lv = lv' ∧ Ra 0 1 r) := by
  refine con_intro (own := "RollingNetsModel") (by decide +kernel) rfl (Nat.le_of_ble_eq_true rfl) (L0 := [some (rf g 551), some (.int a1), some (.int a2), none]) rfl (fun Z zh => ?_)
  refine z_iconst zh dX9_isNoticed_0 ki_0 ?_
  refine z_istoren zh dX9_isNoticed_1 (by decide) (L' := [some (rf g 551), some (.int a1), some (.int a2), some (.int (nI 0))]) rfl ?_
  have J2 : ∀ (n : Nat) (x1 : Int32), Ra 0 60 x1 → 60 - x1.toInt < (n : Int) → Z 2 [some (rf g 551), some (.int a1), some (.int a2), some (.int x1)] [] iv lv := by
    intro n
    induction n with
    | zero => intro x1 hx1 hn2; exact (ms_uz hx1 hn2).elim
    | succ n ih2 =>
      intro x1 hx1 hn2
      refine z_iloadn zh dX9_isNoticed_2 rfl ?_
      refine z_aloadnR zh dX9_isNoticed_3 rfl ?_
      refine z_getf zh fl_Y_7 dX9_isNoticed_4 ck_Y rfl rfl ?_
      refine z_bipush zh dX9_isNoticed_7 kb_8 ?_
      refine y_ialdN zh ck_now dX9_isNoticed_9 (by decide) (fun x2 ex2 => ?_)
      have hx2 : Ra 0 60 x2 := ra_of ex2 (nr_l hG 8 rfl)
      refine z_icmp_ge (tgt := 40) zh dX9_isNoticed_10 rfl (fun q3 => ?_) (fun q3 => ?_)
      · refine z_iconst zh dX9_isNoticed_40 ki_0 ?_
        exact z_zret zh dX9_isNoticed_41 (ra_01 (ra_w rl_0 (by decide) (by decide))) ⟨_, rfl, rfl, rfl, (ra_w rl_0 (by decide) (by decide))⟩
      · have r4 : Ra 0 59 x1 := rb_lt_l hx2 hx1 (rb_nle q3) (by decide)
        have r5 : Ra 1 60 x2 := rb_lt_r hx1 hx2 (rb_nle q3) (by decide)
        refine z_aloadnR zh dX9_isNoticed_13 rfl ?_
        refine z_iloadn zh dX9_isNoticed_14 rfl ?_
        refine z_iloadn zh dX9_isNoticed_15 rfl ?_
        refine z_callVI zh mv_Y_160 dX9_isNoticed_16 ck_Y rfl (s_X9_isOpenNet g r4 ha2 hG) ⟨Nat.le_of_ble_eq_true rfl, Nat.le_of_ble_eq_true rfl⟩ rfl rfl (Nat.le_of_ble_eq_true rfl) ?_
        rintro x6 _ _ ⟨rfl, rfl, hx6⟩
        have J34 : Z 34 [some (rf g 551), some (.int a1), some (.int a2), some (.int x1)] [] iv lv := by
          refine y_iinc (L' := fun z => [some (rf g 551), some (.int a1), some (.int a2), some (.int z)]) zh dX9_isNoticed_34 (by decide) rfl (by decide +kernel) r4 (u := 1) (v := 60) rfl rfl (by decide) (by decide) (fun _ => rfl) (fun x7 hc7 hx7 => ?_)
          refine z_goto (tgt := 2) zh dX9_isNoticed_37 rfl ?_
          exact ih2 x7 (ra_w hx7 (by decide) (by decide)) (ms_up hc7 (by decide) hn2)
        refine z_if_eq (tgt := 34) zh dX9_isNoticed_19 rfl (fun q8 => ?_) (fun q8 => ?_)
        · have r9 := rb_eq (u := 0) (v := 0) hx6 ra_z q8 (by decide) (by decide)
          exact J34
        · have r10 : Ra 1 1 x6 := rb_ne_lo hx6 ra_z q8 (by decide)
          refine z_aloadnR zh dX9_isNoticed_22 rfl ?_
          refine z_iloadn zh dX9_isNoticed_23 rfl ?_
          refine z_iconst zh dX9_isNoticed_24 ki_0 ?_
          refine z_callVI zh mv_Y_157 dX9_isNoticed_25 ck_Y rfl (s_X9_noticeOf g r4 (ra_w rl_0 (by decide) (by decide)) hG) ⟨Nat.le_of_ble_eq_true rfl, Nat.le_of_ble_eq_true rfl⟩ rfl rfl (Nat.le_of_ble_eq_true rfl) ?_
          rintro x11 _ _ ⟨rfl, rfl, z12, ez12, ex11⟩
          have hx11 : Ra 0 11 x11 := ra_of ex11 (nr_n0 hG x1.toInt (by have := r4.1; have := r4.2; have := rl_0.1; have := rl_0.2; omega) (by have := r4.1; have := r4.2; have := rl_0.1; have := rl_0.2; omega) (by have := r4.1; have := r4.2; have := rl_0.1; have := rl_0.2; omega))
          refine z_iloadn zh dX9_isNoticed_28 rfl ?_
          refine z_icmp_ne (tgt := 34) zh dX9_isNoticed_29 rfl (fun q13 => ?_) (fun q13 => ?_)
          · exact J34
          · refine z_iconst zh dX9_isNoticed_32 ki_1 ?_
            exact z_zret zh dX9_isNoticed_33 (ra_01 (ra_w rl_1 (by decide) (by decide))) ⟨_, rfl, rfl, rfl, (ra_w rl_1 (by decide) (by decide))⟩
  exact J2 61 (nI 0) (ra_w rl_0 (by decide) (by decide)) (ms_u0 rl_0 (by decide))
set_option maxRecDepth 20000 in
theorem s_X9_goesAhead (g : GE) {sp : Nat → Nat → Bool} {σ : Iv} {iv : Iv} {lv : Lv} {a1 : Int32} {a2 : Int32} {a3 : Int32} {a4 : Int32} {a5 : Int32} (ha1 : Ra 0 5 a1) (ha2 : Ra 0 11 a2) (ha3 : Ra 0 99 a3) (ha4 : Ra 0 11 a4) (ha5 : Ra 0 99 a5) (hG : SI sp σ iv)  : ConI g yX9_goesAhead cX9_goesAhead 6 (some .boolean) 5 [rf g 551, .int a1, .int a2, .int a3, .int a4, .int a5] iv lv (fun r iv' lv' => iv = iv' ∧ lv = lv' ∧ Ra 0 1 r) := by
  refine con_intro (own := "RollingNetsModel") (by decide +kernel) rfl (Nat.le_of_ble_eq_true rfl) (L0 := [some (rf g 551), some (.int a1), some (.int a2), some (.int a3), some (.int a4), some (.int a5)]) rfl (fun Z zh => ?_)
  refine z_aloadnR zh dX9_goesAhead_0 rfl ?_
  refine z_aloadnR zh dX9_goesAhead_1 rfl ?_
  refine z_getf zh fl_Y_7 dX9_goesAhead_2 ck_Y rfl rfl ?_
  refine z_bipush zh dX9_goesAhead_5 kb_11 ?_
  refine y_ialdN zh ck_now dX9_goesAhead_7 (by decide) (fun x1 ex1 => ?_)
  refine z_iloadn zh dX9_goesAhead_8 rfl ?_
  refine z_callVI zh mv_Y_69 dX9_goesAhead_9 ck_Y rfl (s_X9_has g ha2 hG) ⟨Nat.le_of_ble_eq_true rfl, Nat.le_of_ble_eq_true rfl⟩ rfl rfl (Nat.le_of_ble_eq_true rfl) ?_
  rintro x2 _ _ ⟨rfl, rfl, hx2⟩
  refine z_aloadnR zh dX9_goesAhead_12 rfl ?_
  refine z_aloadnR zh dX9_goesAhead_13 rfl ?_
  refine z_getf zh fl_Y_7 dX9_goesAhead_14 ck_Y rfl rfl ?_
  refine z_bipush zh dX9_goesAhead_17 kb_11 ?_
  refine z_ialdE (x := x1) zh ck_now dX9_goesAhead_19 (by decide) ex1 ?_
  refine z_iload zh dX9_goesAhead_20 rfl ?_
  refine z_callVI zh mv_Y_69 dX9_goesAhead_22 ck_Y rfl (s_X9_has g ha4 hG) ⟨Nat.le_of_ble_eq_true rfl, Nat.le_of_ble_eq_true rfl⟩ rfl rfl (Nat.le_of_ble_eq_true rfl) ?_
  rintro x3 _ _ ⟨rfl, rfl, hx3⟩
  refine z_icmp_eq (tgt := 42) zh dX9_goesAhead_25 rfl (fun q4 => ?_) (fun q4 => ?_)
  · refine z_aloadnR zh dX9_goesAhead_42 rfl ?_
    refine z_iloadn zh dX9_goesAhead_43 rfl ?_
    refine z_iloadn zh dX9_goesAhead_44 rfl ?_
    refine z_callVI zh mv_Y_172 dX9_goesAhead_45 ck_Y rfl (s_X9_isNoticed g ha2 ha1 hG) ⟨Nat.le_of_ble_eq_true rfl, Nat.le_of_ble_eq_true rfl⟩ rfl rfl (Nat.le_of_ble_eq_true rfl) ?_
    rintro x6 _ _ ⟨rfl, rfl, hx6⟩
    refine z_aloadnR zh dX9_goesAhead_48 rfl ?_
    refine z_iload zh dX9_goesAhead_49 rfl ?_
    refine z_iloadn zh dX9_goesAhead_51 rfl ?_
    refine z_callVI zh mv_Y_172 dX9_goesAhead_52 ck_Y rfl (s_X9_isNoticed g ha4 ha1 hG) ⟨Nat.le_of_ble_eq_true rfl, Nat.le_of_ble_eq_true rfl⟩ rfl rfl (Nat.le_of_ble_eq_true rfl) ?_
    rintro x7 _ _ ⟨rfl, rfl, hx7⟩
    refine z_icmp_eq (tgt := 65) zh dX9_goesAhead_55 rfl (fun q8 => ?_) (fun q8 => ?_)
    · refine z_iloadn zh dX9_goesAhead_65 rfl ?_
      refine z_iload zh dX9_goesAhead_66 rfl ?_
      refine z_icmp_eq (tgt := 83) zh dX9_goesAhead_68 rfl (fun q10 => ?_) (fun q10 => ?_)
      · refine z_aloadnR zh dX9_goesAhead_83 rfl ?_
        refine z_getf zh fl_Y_7 dX9_goesAhead_84 ck_Y rfl rfl ?_
        refine z_bipush zh dX9_goesAhead_87 kb_34 ?_
        refine z_iloadn zh dX9_goesAhead_89 rfl ?_
        refine y_iadd zh dX9_goesAhead_90 rl_34 ha2 (u := 34) (v := 45) rfl rfl (by decide) (by decide) (fun x12 hc12 hx12 => ?_)
        refine y_iald zh ck_now dX9_goesAhead_91 hx12 (by decide) (by decide) (fun x13 ex13 => ?_)
        refine z_aloadnR zh dX9_goesAhead_92 rfl ?_
        refine z_getf zh fl_Y_7 dX9_goesAhead_93 ck_Y rfl rfl ?_
        refine z_bipush zh dX9_goesAhead_96 kb_34 ?_
        refine z_iload zh dX9_goesAhead_98 rfl ?_
        refine y_iadd zh dX9_goesAhead_100 rl_34 ha4 (u := 34) (v := 45) rfl rfl (by decide) (by decide) (fun x14 hc14 hx14 => ?_)
        refine y_iald zh ck_now dX9_goesAhead_101 hx14 (by decide) (by decide) (fun x15 ex15 => ?_)
        refine z_icmp_eq (tgt := 133) zh dX9_goesAhead_102 rfl (fun q16 => ?_) (fun q16 => ?_)
        · refine z_iloadn zh dX9_goesAhead_133 rfl ?_
          refine z_iload zh dX9_goesAhead_134 rfl ?_
          refine z_icmp_ge (tgt := 143) zh dX9_goesAhead_136 rfl (fun q18 => ?_) (fun q18 => ?_)
          · refine z_iconst zh dX9_goesAhead_143 ki_0 ?_
            exact z_zret zh dX9_goesAhead_144 (ra_01 (ra_w rl_0 (by decide) (by decide))) ⟨_, rfl, rfl, rfl, (ra_w rl_0 (by decide) (by decide))⟩
          · have r19 : Ra 0 10 a2 := rb_lt_l ha4 ha2 (rb_nle q18) (by decide)
            have r20 : Ra 1 11 a4 := rb_lt_r ha2 ha4 (rb_nle q18) (by decide)
            refine z_iconst zh dX9_goesAhead_139 ki_1 ?_
            refine z_goto (tgt := 144) zh dX9_goesAhead_140 rfl ?_
            exact z_zret zh dX9_goesAhead_144 (ra_01 (ra_w rl_1 (by decide) (by decide))) ⟨_, rfl, rfl, rfl, (ra_w rl_1 (by decide) (by decide))⟩
        · refine z_aloadnR zh dX9_goesAhead_105 rfl ?_
          refine z_getf zh fl_Y_7 dX9_goesAhead_106 ck_Y rfl rfl ?_
          refine z_bipush zh dX9_goesAhead_109 kb_34 ?_
          refine z_iloadn zh dX9_goesAhead_111 rfl ?_
          refine y_iadd zh dX9_goesAhead_112 rl_34 ha2 (u := 34) (v := 45) rfl rfl (by decide) (by decide) (fun x21 hc21 hx21 => ?_)
          refine y_iald zh ck_now dX9_goesAhead_113 hx21 (by decide) (by decide) (fun x22 ex22 => ?_)
          refine z_aloadnR zh dX9_goesAhead_114 rfl ?_
          refine z_getf zh fl_Y_7 dX9_goesAhead_115 ck_Y rfl rfl ?_
          refine z_bipush zh dX9_goesAhead_118 kb_34 ?_
          refine z_iload zh dX9_goesAhead_120 rfl ?_
          refine y_iadd zh dX9_goesAhead_122 rl_34 ha4 (u := 34) (v := 45) rfl rfl (by decide) (by decide) (fun x23 hc23 hx23 => ?_)
          refine y_iald zh ck_now dX9_goesAhead_123 hx23 (by decide) (by decide) (fun x24 ex24 => ?_)
          refine z_icmp_le (tgt := 131) zh dX9_goesAhead_124 rfl (fun q25 => ?_) (fun q25 => ?_)
          · refine z_iconst zh dX9_goesAhead_131 ki_0 ?_
            exact z_zret zh dX9_goesAhead_132 (ra_01 (ra_w rl_0 (by decide) (by decide))) ⟨_, rfl, rfl, rfl, (ra_w rl_0 (by decide) (by decide))⟩
          · have r26 : Ra (-2147483648) 2147483646 x24 := rb_lt_l (ra_tt x22) (ra_tt x24) (rb_nle q25) (by decide)
            have r27 : Ra (-2147483647) 2147483647 x22 := rb_lt_r (ra_tt x24) (ra_tt x22) (rb_nle q25) (by decide)
            refine z_iconst zh dX9_goesAhead_127 ki_1 ?_
            refine z_goto (tgt := 132) zh dX9_goesAhead_128 rfl ?_
            exact z_zret zh dX9_goesAhead_132 (ra_01 (ra_w rl_1 (by decide) (by decide))) ⟨_, rfl, rfl, rfl, (ra_w rl_1 (by decide) (by decide))⟩
      · refine z_iloadn zh dX9_goesAhead_71 rfl ?_
        refine z_iload zh dX9_goesAhead_72 rfl ?_
        refine z_icmp_ge (tgt := 81) zh dX9_goesAhead_74 rfl (fun q28 => ?_) (fun q28 => ?_)
        · refine z_iconst zh dX9_goesAhead_81 ki_0 ?_
          exact z_zret zh dX9_goesAhead_82 (ra_01 (ra_w rl_0 (by decide) (by decide))) ⟨_, rfl, rfl, rfl, (ra_w rl_0 (by decide) (by decide))⟩
        · have r29 : Ra 0 98 a3 := rb_lt_l ha5 ha3 (rb_nle q28) (by decide)
          have r30 : Ra 1 99 a5 := rb_lt_r ha3 ha5 (rb_nle q28) (by decide)
          refine z_iconst zh dX9_goesAhead_77 ki_1 ?_
          refine z_goto (tgt := 82) zh dX9_goesAhead_78 rfl ?_
          exact z_zret zh dX9_goesAhead_82 (ra_01 (ra_w rl_1 (by decide) (by decide))) ⟨_, rfl, rfl, rfl, (ra_w rl_1 (by decide) (by decide))⟩
    · refine z_aloadnR zh dX9_goesAhead_58 rfl ?_
      refine z_iloadn zh dX9_goesAhead_59 rfl ?_
      refine z_iloadn zh dX9_goesAhead_60 rfl ?_
      refine z_callVI zh mv_Y_172 dX9_goesAhead_61 ck_Y rfl (s_X9_isNoticed g ha2 ha1 hG) ⟨Nat.le_of_ble_eq_true rfl, Nat.le_of_ble_eq_true rfl⟩ rfl rfl (Nat.le_of_ble_eq_true rfl) ?_
      rintro x31 _ _ ⟨rfl, rfl, hx31⟩
      exact z_zret zh dX9_goesAhead_64 (ra_01 hx31) ⟨_, rfl, rfl, rfl, hx31⟩
  · refine z_aloadnR zh dX9_goesAhead_28 rfl ?_
    refine z_aloadnR zh dX9_goesAhead_29 rfl ?_
    refine z_getf zh fl_Y_7 dX9_goesAhead_30 ck_Y rfl rfl ?_
    refine z_bipush zh dX9_goesAhead_33 kb_11 ?_
    refine z_ialdE (x := x1) zh ck_now dX9_goesAhead_35 (by decide) ex1 ?_
    refine z_iload zh dX9_goesAhead_36 rfl ?_
    refine z_callVI zh mv_Y_69 dX9_goesAhead_38 ck_Y rfl (s_X9_has g ha4 hG) ⟨Nat.le_of_ble_eq_true rfl, Nat.le_of_ble_eq_true rfl⟩ rfl rfl (Nat.le_of_ble_eq_true rfl) ?_
    rintro x32 _ _ ⟨rfl, rfl, hx32⟩
    exact z_zret zh dX9_goesAhead_41 (ra_01 hx32) ⟨_, rfl, rfl, rfl, hx32⟩
set_option maxRecDepth 20000 in
theorem s_X9_laysQueue (g : GE) {sp : Nat → Nat → Bool} {σ : Iv} {iv : Iv} {lv : Lv} {a1 : Int32} {a2 : Int32} (ha1 : Ra 0 5 a1) (hG : SI sp σ iv)  : ConV g yX9_laysQueue cX9_laysQueue 7 none 6 [rf g 551, .int a1, .int a2] iv lv (fun iv lv => SI sp σ iv) := by
  refine con_intro (own := "RollingNetsModel") (by decide +kernel) rfl (Nat.le_of_ble_eq_true rfl) (L0 := [some (rf g 551), some (.int a1), some (.int a2), none, none, none, none]) rfl (fun Z zh => ?_)
  refine z_aloadnR zh dX9_laysQueue_0 rfl ?_
  refine z_iconst zh dX9_laysQueue_1 ki_0 ?_
  refine z_putI zh fl_Y_240 dX9_laysQueue_2 ck_Y rfl rfl (Nat.le_of_ble_eq_true rfl) (Or.inl rfl) ?_
  have hG : SI sp σ (upI iv 551 10 (nI 0)) := si_w (k := 551) (j := 10) hG (by decide) (by decide) (sp_no hG ((spc_Y (q := 0)).trans rfl)) (fun lo hi q => (rx_some (ra_w rl_0 (by decide) (by decide))) lo hi ((rg_Y (q := 0)).symm.trans q))
  have em1 : upI iv 551 10 (nI 0) 551 10 = nI 0 := by rw [upI_at, if_pos ⟨rfl, rfl⟩]
  generalize upI iv 551 10 (nI 0) = iv at hG em1 ⊢
  refine z_iconst zh dX9_laysQueue_5 ki_0 ?_
  refine z_istoren zh dX9_laysQueue_6 (by decide) (L' := [some (rf g 551), some (.int a1), some (.int a2), some (.int (nI 0)), none, none, none]) rfl ?_
  have J7 : ∀ (n : Nat) (iv : Iv) (lv : Lv) (x2 : Int32) (x3 : Int32), SI sp σ iv → Ra 0 12 x2 → iv 551 10 = x3 → Ra 0 1200 x3 → x3.toInt ≤ 100 * x2.toInt → 12 - x2.toInt < (n : Int) → Z 7 [some (rf g 551), some (.int a1), some (.int a2), some (.int x2), none, none, none] [] iv lv := by
    intro n
    induction n with
    | zero => intro iv lv x2 x3 hG hx2 em4 hx3 hr5 hn7; exact (ms_uz hx2 hn7).elim
    | succ n ih7 =>
      intro iv lv x2 x3 hG hx2 em4 hx3 hr5 hn7
      refine z_iloadn zh dX9_laysQueue_7 rfl ?_
      refine z_aloadnR zh dX9_laysQueue_8 rfl ?_
      refine z_callVI zh mv_Y_61 dX9_laysQueue_9 ck_Y rfl (s_X9_memberMany g  hG) ⟨Nat.le_of_ble_eq_true rfl, Nat.le_of_ble_eq_true rfl⟩ rfl rfl (Nat.le_of_ble_eq_true rfl) ?_
      rintro x6 _ _ ⟨rfl, rfl, hx6⟩
      refine z_icmp_ge (tgt := 208) zh dX9_laysQueue_12 rfl (fun q7 => ?_) (fun q7 => ?_)
      · have r8 : Ra 2 12 x2 := rb_le_r hx6 hx2 q7 (by decide)
        exact z_vret zh dX9_laysQueue_208 ⟨rfl, hG⟩
      · have r9 : Ra 0 11 x2 := rb_lt_l hx6 hx2 (rb_nle q7) (by decide)
        refine z_iconst zh dX9_laysQueue_15 ki_0 ?_
        refine z_istore zh dX9_laysQueue_16 (by decide) (L' := [some (rf g 551), some (.int a1), some (.int a2), some (.int x2), some (.int (nI 0)), none, none]) rfl ?_
        have J18 : ∀ (n : Nat) (iv : Iv) (lv : Lv) (x10 : Int32) (x11 : Int32), SI sp σ iv → Ra 0 100 x10 → iv 551 10 = x11 → Ra 0 1200 x11 → x11.toInt ≤ 100 * x2.toInt + x10.toInt → 100 - x10.toInt < (n : Int) → Z 18 [some (rf g 551), some (.int a1), some (.int a2), some (.int x2), some (.int x10), none, none] [] iv lv := by
          intro n
          induction n with
          | zero => intro iv lv x10 x11 hG hx10 em12 hx11 hr13 hn18; exact (ms_uz hx10 hn18).elim
          | succ n ih18 =>
            intro iv lv x10 x11 hG hx10 em12 hx11 hr13 hn18
            refine z_iload zh dX9_laysQueue_18 rfl ?_
            refine z_aloadnR zh dX9_laysQueue_20 rfl ?_
            refine z_iloadn zh dX9_laysQueue_21 rfl ?_
            refine z_iloadn zh dX9_laysQueue_22 rfl ?_
            refine z_callVI zh mv_Y_110 dX9_laysQueue_23 ck_Y rfl (s_X9_lotMany g r9 ha1 hG) ⟨Nat.le_of_ble_eq_true rfl, Nat.le_of_ble_eq_true rfl⟩ rfl rfl (Nat.le_of_ble_eq_true rfl) ?_
            rintro x14 _ _ ⟨rfl, rfl, hx14, _⟩
            have J202 : ∀ (iv : Iv) (lv : Lv) (x15 : Int32), SI sp σ iv → iv 551 10 = x15 → Ra 0 1200 x15 → x15.toInt ≤ 100 * x2.toInt + 100 → Z 202 [some (rf g 551), some (.int a1), some (.int a2), some (.int x2), some (.int x10), none, none] [] iv lv := by
              intro iv lv x15 hG em16 hx15 hr17
              refine y_iinc (L' := fun z => [some (rf g 551), some (.int a1), some (.int a2), some (.int z), some (.int x10), none, none]) zh dX9_laysQueue_202 (by decide) rfl (by decide +kernel) r9 (u := 1) (v := 12) rfl rfl (by decide) (by decide) (fun _ => rfl) (fun x18 hc18 hx18 => ?_)
              refine z_goto (tgt := 7) zh dX9_laysQueue_205 rfl ?_
              refine z_forget zh [true, true, true, true, false, false, false] (L2 := [some (rf g 551), some (.int a1), some (.int a2), some (.int x18), none, none, none]) rfl ?_
              exact ih7 iv lv x18 x15 hG (ra_w hx18 (by decide) (by decide)) em16 ⟨by have := hx15.1; have := hx15.2; have := ha1.1; have := ha1.2; have := r9.1; have := r9.2; have := hx10.1; have := hx10.2; omega, by have := hx15.1; have := hx15.2; have := ha1.1; have := ha1.2; have := r9.1; have := r9.2; have := hx10.1; have := hx10.2; omega⟩ (by have := hx15.1; have := hx15.2; have := ha1.1; have := ha1.2; have := r9.1; have := r9.2; have := hx10.1; have := hx10.2; omega) (ms_up hc18 (by decide) hn7)
            refine z_icmp_ge (tgt := 202) zh dX9_laysQueue_26 rfl (fun q19 => ?_) (fun q19 => ?_)
            · exact J202 iv lv x11 hG em12 ⟨by have := hx11.1; have := hx11.2; have := ha1.1; have := ha1.2; have := r9.1; have := r9.2; have := hx10.1; have := hx10.2; omega, by have := hx11.1; have := hx11.2; have := ha1.1; have := ha1.2; have := r9.1; have := r9.2; have := hx10.1; have := hx10.2; omega⟩ (by have := hx11.1; have := hx11.2; have := ha1.1; have := ha1.2; have := r9.1; have := r9.2; have := hx10.1; have := hx10.2; omega)
            · have r20 : Ra 0 99 x10 := rb_lt_l hx14 hx10 (rb_nle q19) (by decide)
              have r21 : Ra 1 100 x14 := rb_lt_r hx10 hx14 (rb_nle q19) (by decide)
              refine z_aloadnR zh dX9_laysQueue_29 rfl ?_
              refine z_iloadn zh dX9_laysQueue_30 rfl ?_
              refine z_iloadn zh dX9_laysQueue_31 rfl ?_
              refine z_callVI zh mv_Y_122 dX9_laysQueue_32 ck_Y rfl (s_X9_isLong g r9 ha1 hG) ⟨Nat.le_of_ble_eq_true rfl, Nat.le_of_ble_eq_true rfl⟩ rfl rfl (Nat.le_of_ble_eq_true rfl) ?_
              rintro x22 _ _ ⟨rfl, rfl, hx22⟩
              refine z_if_eq (tgt := 202) zh dX9_laysQueue_35 rfl (fun q23 => ?_) (fun q23 => ?_)
              · have r24 := rb_eq (u := 0) (v := 0) hx22 ra_z q23 (by decide) (by decide)
                exact J202 iv lv x11 hG em12 ⟨by have := hx11.1; have := hx11.2; have := ha1.1; have := ha1.2; have := r9.1; have := r9.2; have := r20.1; have := r20.2; omega, by have := hx11.1; have := hx11.2; have := ha1.1; have := ha1.2; have := r9.1; have := r9.2; have := r20.1; have := r20.2; omega⟩ (by have := hx11.1; have := hx11.2; have := ha1.1; have := ha1.2; have := r9.1; have := r9.2; have := r20.1; have := r20.2; omega)
              · have r25 : Ra 1 1 x22 := rb_ne_lo hx22 ra_z q23 (by decide)
                refine z_aloadnR zh dX9_laysQueue_38 rfl ?_
                refine z_iloadn zh dX9_laysQueue_39 rfl ?_
                refine z_iloadn zh dX9_laysQueue_40 rfl ?_
                refine z_iload zh dX9_laysQueue_41 rfl ?_
                refine z_callVI zh mv_Y_125 dX9_laysQueue_43 ck_Y rfl (s_X9_dayOf g r9 ha1 (ra_w r20 (by decide) (by decide)) hG) ⟨Nat.le_of_ble_eq_true rfl, Nat.le_of_ble_eq_true rfl⟩ rfl rfl (Nat.le_of_ble_eq_true rfl) ?_
                rintro x26 _ _ ⟨rfl, rfl, hx26, _⟩
                refine z_istore zh dX9_laysQueue_46 (by decide) (L' := [some (rf g 551), some (.int a1), some (.int a2), some (.int x2), some (.int x10), some (.int x26), none]) rfl ?_
                refine z_iload zh dX9_laysQueue_48 rfl ?_
                refine z_iloadn zh dX9_laysQueue_50 rfl ?_
                have J196 : ∀ (iv : Iv) (lv : Lv) (x27 : Int32), SI sp σ iv → iv 551 10 = x27 → Ra 0 1200 x27 → x27.toInt ≤ 100 * x2.toInt + x10.toInt + 1 → Z 196 [some (rf g 551), some (.int a1), some (.int a2), some (.int x2), some (.int x10), some (.int x26), none] [] iv lv := by
                  intro iv lv x27 hG em28 hx27 hr29
                  refine y_iinc (L' := fun z => [some (rf g 551), some (.int a1), some (.int a2), some (.int x2), some (.int z), some (.int x26), none]) zh dX9_laysQueue_196 (by decide) rfl (by decide +kernel) r20 (u := 1) (v := 100) rfl rfl (by decide) (by decide) (fun _ => rfl) (fun x30 hc30 hx30 => ?_)
                  refine z_goto (tgt := 18) zh dX9_laysQueue_199 rfl ?_
                  refine z_forget zh [true, true, true, true, true, false, false] (L2 := [some (rf g 551), some (.int a1), some (.int a2), some (.int x2), some (.int x30), none, none]) rfl ?_
                  exact ih18 iv lv x30 x27 hG (ra_w hx30 (by decide) (by decide)) em28 ⟨by have := hx27.1; have := hx27.2; have := ha1.1; have := ha1.2; have := r9.1; have := r9.2; have := r20.1; have := r20.2; have := hx26.1; have := hx26.2; omega, by have := hx27.1; have := hx27.2; have := ha1.1; have := ha1.2; have := r9.1; have := r9.2; have := r20.1; have := r20.2; have := hx26.1; have := hx26.2; omega⟩ (by have := hx27.1; have := hx27.2; have := ha1.1; have := ha1.2; have := r9.1; have := r9.2; have := r20.1; have := r20.2; have := hx26.1; have := hx26.2; omega) (ms_up hc30 (by decide) hn18)
                refine z_icmp_le (tgt := 57) zh dX9_laysQueue_51 rfl (fun q31 => ?_) (fun q31 => ?_)
                · have r32 : Ra 0 2147483647 a2 := rb_le_r hx26 (ra_tt a2) q31 (by decide)
                  refine z_aloadnR zh dX9_laysQueue_57 rfl ?_
                  refine z_getI (x := x11) zh fl_Y_240 dX9_laysQueue_58 ck_Y rfl rfl em12 ?_
                  refine z_istore zh dX9_laysQueue_61 (by decide) (L' := [some (rf g 551), some (.int a1), some (.int a2), some (.int x2), some (.int x10), some (.int x26), some (.int x11)]) rfl ?_
                  have J63 : ∀ (n : Nat) (iv : Iv) (lv : Lv) (x33 : Int32), SI sp σ iv → Ra 0 1200 x33 → iv 551 10 = x11 → x33.toInt - 0 < (n : Int) → Z 63 [some (rf g 551), some (.int a1), some (.int a2), some (.int x2), some (.int x10), some (.int x26), some (.int x33)] [] iv lv := by
                    intro n
                    induction n with
                    | zero => intro iv lv x33 hG hx33 em34 hn63; exact (ms_dz hx33 hn63).elim
                    | succ n ih63 =>
                      intro iv lv x33 hG hx33 em34 hn63
                      refine z_iload zh dX9_laysQueue_63 rfl ?_
                      have J154 : ∀ (iv : Iv) (lv : Lv), SI sp σ iv → iv 551 10 = x11 → Z 154 [some (rf g 551), some (.int a1), some (.int a2), some (.int x2), some (.int x10), some (.int x26), some (.int x33)] [] iv lv := by
                        intro iv lv hG em35
                        refine z_aloadnR zh dX9_laysQueue_154 rfl ?_
                        refine z_getf zh fl_Y_26 dX9_laysQueue_155 ck_Y rfl rfl ?_
                        refine z_iload zh dX9_laysQueue_158 rfl ?_
                        refine z_iloadn zh dX9_laysQueue_160 rfl ?_
                        refine z_iast zh ck_qM dX9_laysQueue_161 (ra_in hx33 (by decide) (by decide)) ?_
                        have hG : SI sp σ (upI iv 557 x33.toNatClampNeg x2) := si_wY hG 6 (by decide) (by decide) rfl (rx_some r9)
                        have em36 := (upI_ne (iv := iv) (k := 557) (j := x33.toNatClampNeg) (x := x2) (a := 551) (b := 10) (Or.inl (by decide))).trans em35
                        generalize upI iv 557 x33.toNatClampNeg x2 = iv at hG em36 ⊢
                        refine z_aloadnR zh dX9_laysQueue_162 rfl ?_
                        refine z_getf zh fl_Y_29 dX9_laysQueue_163 ck_Y rfl rfl ?_
                        refine z_iload zh dX9_laysQueue_166 rfl ?_
                        refine z_iload zh dX9_laysQueue_168 rfl ?_
                        refine z_iast zh ck_qD dX9_laysQueue_170 (ra_in hx33 (by decide) (by decide)) ?_
                        have hG : SI sp σ (upI iv 558 x33.toNatClampNeg x26) := si_wY hG 7 (by decide) (by decide) rfl (rx_some hx26)
                        have em37 := (upI_ne (iv := iv) (k := 558) (j := x33.toNatClampNeg) (x := x26) (a := 551) (b := 10) (Or.inl (by decide))).trans em36
                        generalize upI iv 558 x33.toNatClampNeg x26 = iv at hG em37 ⊢
                        refine z_aloadnR zh dX9_laysQueue_171 rfl ?_
                        refine z_getf zh fl_Y_32 dX9_laysQueue_172 ck_Y rfl rfl ?_
                        refine z_iload zh dX9_laysQueue_175 rfl ?_
                        refine z_aloadnR zh dX9_laysQueue_177 rfl ?_
                        refine z_iloadn zh dX9_laysQueue_178 rfl ?_
                        refine z_iloadn zh dX9_laysQueue_179 rfl ?_
                        refine z_iload zh dX9_laysQueue_180 rfl ?_
                        refine z_callVI zh mv_Y_113 dX9_laysQueue_182 ck_Y rfl (s_X9_sharesOf g r9 ha1 (ra_w r20 (by decide) (by decide)) hG) ⟨Nat.le_of_ble_eq_true rfl, Nat.le_of_ble_eq_true rfl⟩ rfl rfl (Nat.le_of_ble_eq_true rfl) ?_
                        rintro x38 _ _ ⟨rfl, rfl, _⟩
                        refine z_iast zh ck_qS dX9_laysQueue_185 (ra_in hx33 (by decide) (by decide)) ?_
                        have hG : SI sp σ (upI iv 559 x33.toNatClampNeg x38) := si_wY hG 8 (by decide) (by decide) rfl (rx_none rfl)
                        have em39 := (upI_ne (iv := iv) (k := 559) (j := x33.toNatClampNeg) (x := x38) (a := 551) (b := 10) (Or.inl (by decide))).trans em37
                        generalize upI iv 559 x33.toNatClampNeg x38 = iv at hG em39 ⊢
                        refine z_aloadnR zh dX9_laysQueue_186 rfl ?_
                        refine z_aloadnR zh dX9_laysQueue_187 rfl ?_
                        refine z_getI (x := x11) zh fl_Y_240 dX9_laysQueue_188 ck_Y rfl rfl em39 ?_
                        refine z_iconst zh dX9_laysQueue_191 ki_1 ?_
                        refine y_iadd zh dX9_laysQueue_192 hx11 rl_1 (u := 1) (v := 1201) rfl rfl (by decide) (by decide) (fun x40 hc40 hx40 => ?_)
                        refine z_putI zh fl_Y_240 dX9_laysQueue_193 ck_Y rfl rfl (Nat.le_of_ble_eq_true rfl) (Or.inl rfl) ?_
                        have hG : SI sp σ (upI iv 551 10 x40) := si_w (k := 551) (j := 10) hG (by decide) (by decide) (sp_no hG ((spc_Y (q := 0)).trans rfl)) (fun lo hi q => (rx_some (ra_w hx40 (by decide) (by decide))) lo hi ((rg_Y (q := 0)).symm.trans q))
                        have em41 : upI iv 551 10 x40 551 10 = x40 := by rw [upI_at, if_pos ⟨rfl, rfl⟩]
                        generalize upI iv 551 10 x40 = iv at hG em41 ⊢
                        refine z_forget zh [true, true, true, true, true, true, false] (L2 := [some (rf g 551), some (.int a1), some (.int a2), some (.int x2), some (.int x10), some (.int x26), none]) rfl ?_
                        exact J196 iv lv x40 hG em41 ⟨by have := hx11.1; have := hx11.2; have := rl_1.1; have := rl_1.2; have := ha1.1; have := ha1.2; have := r32.1; have := r32.2; have := r9.1; have := r9.2; have := r20.1; have := r20.2; have := hx26.1; have := hx26.2; have := hx33.1; have := hx33.2; omega, by have := hx11.1; have := hx11.2; have := rl_1.1; have := rl_1.2; have := ha1.1; have := ha1.2; have := r32.1; have := r32.2; have := r9.1; have := r9.2; have := r20.1; have := r20.2; have := hx26.1; have := hx26.2; have := hx33.1; have := hx33.2; omega⟩ (by have := hx11.1; have := hx11.2; have := rl_1.1; have := rl_1.2; have := ha1.1; have := ha1.2; have := r32.1; have := r32.2; have := r9.1; have := r9.2; have := r20.1; have := r20.2; have := hx26.1; have := hx26.2; have := hx33.1; have := hx33.2; omega)
                      refine z_if_le (tgt := 154) zh dX9_laysQueue_65 rfl (fun q42 => ?_) (fun q42 => ?_)
                      · have r43 : Ra 0 0 x33 := rb_le_l ra_z hx33 q42 (by decide)
                        exact J154 iv lv hG em34
                      · have r44 : Ra 1 1200 x33 := rb_lt_r ra_z hx33 (rb_nle q42) (by decide)
                        refine z_aloadnR zh dX9_laysQueue_68 rfl ?_
                        refine z_iloadn zh dX9_laysQueue_69 rfl ?_
                        refine z_iloadn zh dX9_laysQueue_70 rfl ?_
                        refine z_iload zh dX9_laysQueue_71 rfl ?_
                        refine z_aloadnR zh dX9_laysQueue_73 rfl ?_
                        refine z_getf zh fl_Y_26 dX9_laysQueue_74 ck_Y rfl rfl ?_
                        refine z_iload zh dX9_laysQueue_77 rfl ?_
                        refine z_iconst zh dX9_laysQueue_79 ki_1 ?_
                        refine y_isub zh dX9_laysQueue_80 r44 rl_1 (u := 0) (v := 1199) rfl rfl (by decide) (by decide) (fun x45 hc45 hx45 => ?_)
                        refine y_iald zh ck_qM dX9_laysQueue_81 hx45 (by decide) (by decide) (fun x46 ex46 => ?_)
                        have hx46 : Ra 0 11 x46 := ra_of ex46 (si_Y hG 6 rfl)
                        refine z_aloadnR zh dX9_laysQueue_82 rfl ?_
                        refine z_getf zh fl_Y_29 dX9_laysQueue_83 ck_Y rfl rfl ?_
                        refine z_iload zh dX9_laysQueue_86 rfl ?_
                        refine z_iconst zh dX9_laysQueue_88 ki_1 ?_
                        refine y_isub zh dX9_laysQueue_89 r44 rl_1 (u := 0) (v := 1199) rfl rfl (by decide) (by decide) (fun x47 hc47 hx47 => ?_)
                        refine y_iald zh ck_qD dX9_laysQueue_90 hx47 (by decide) (by decide) (fun x48 ex48 => ?_)
                        have hx48 : Ra 0 99 x48 := ra_of ex48 (si_Y hG 7 rfl)
                        refine z_callVI zh mv_Y_243 dX9_laysQueue_91 ck_Y rfl (s_X9_goesAhead g ha1 r9 hx26 hx46 hx48 hG) ⟨Nat.le_of_ble_eq_true rfl, Nat.le_of_ble_eq_true rfl⟩ rfl rfl (Nat.le_of_ble_eq_true rfl) ?_
                        rintro x49 _ _ ⟨rfl, rfl, hx49⟩
                        refine z_if_eq (tgt := 154) zh dX9_laysQueue_94 rfl (fun q50 => ?_) (fun q50 => ?_)
                        · have r51 := rb_eq (u := 0) (v := 0) hx49 ra_z q50 (by decide) (by decide)
                          exact J154 iv lv hG em34
                        · have r52 : Ra 1 1 x49 := rb_ne_lo hx49 ra_z q50 (by decide)
                          refine z_aloadnR zh dX9_laysQueue_97 rfl ?_
                          refine z_getf zh fl_Y_26 dX9_laysQueue_98 ck_Y rfl rfl ?_
                          refine z_iload zh dX9_laysQueue_101 rfl ?_
                          refine z_aloadnR zh dX9_laysQueue_103 rfl ?_
                          refine z_getf zh fl_Y_26 dX9_laysQueue_104 ck_Y rfl rfl ?_
                          refine z_iload zh dX9_laysQueue_107 rfl ?_
                          refine z_iconst zh dX9_laysQueue_109 ki_1 ?_
                          refine y_isub zh dX9_laysQueue_110 r44 rl_1 (u := 0) (v := 1199) rfl rfl (by decide) (by decide) (fun x53 hc53 hx53 => ?_)
                          refine y_iald zh ck_qM dX9_laysQueue_111 hx53 (by decide) (by decide) (fun x54 ex54 => ?_)
                          have hx54 : Ra 0 11 x54 := ra_of ex54 (si_Y hG 6 rfl)
                          refine z_iast zh ck_qM dX9_laysQueue_112 (ra_in r44 (by decide) (by decide)) ?_
                          have hG : SI sp σ (upI iv 557 x33.toNatClampNeg x54) := si_wY hG 6 (by decide) (by decide) rfl (rx_some hx54)
                          have em55 := (upI_ne (iv := iv) (k := 557) (j := x33.toNatClampNeg) (x := x54) (a := 551) (b := 10) (Or.inl (by decide))).trans em34
                          generalize upI iv 557 x33.toNatClampNeg x54 = iv at hG em55 ⊢
                          refine z_aloadnR zh dX9_laysQueue_113 rfl ?_
                          refine z_getf zh fl_Y_29 dX9_laysQueue_114 ck_Y rfl rfl ?_
                          refine z_iload zh dX9_laysQueue_117 rfl ?_
                          refine z_aloadnR zh dX9_laysQueue_119 rfl ?_
                          refine z_getf zh fl_Y_29 dX9_laysQueue_120 ck_Y rfl rfl ?_
                          refine z_iload zh dX9_laysQueue_123 rfl ?_
                          refine z_iconst zh dX9_laysQueue_125 ki_1 ?_
                          refine y_isub zh dX9_laysQueue_126 r44 rl_1 (u := 0) (v := 1199) rfl rfl (by decide) (by decide) (fun x56 hc56 hx56 => ?_)
                          refine y_iald zh ck_qD dX9_laysQueue_127 hx56 (by decide) (by decide) (fun x57 ex57 => ?_)
                          have hx57 : Ra 0 99 x57 := ra_of ex57 (si_Y hG 7 rfl)
                          refine z_iast zh ck_qD dX9_laysQueue_128 (ra_in r44 (by decide) (by decide)) ?_
                          have hG : SI sp σ (upI iv 558 x33.toNatClampNeg x57) := si_wY hG 7 (by decide) (by decide) rfl (rx_some hx57)
                          have em58 := (upI_ne (iv := iv) (k := 558) (j := x33.toNatClampNeg) (x := x57) (a := 551) (b := 10) (Or.inl (by decide))).trans em55
                          generalize upI iv 558 x33.toNatClampNeg x57 = iv at hG em58 ⊢
                          refine z_aloadnR zh dX9_laysQueue_129 rfl ?_
                          refine z_getf zh fl_Y_32 dX9_laysQueue_130 ck_Y rfl rfl ?_
                          refine z_iload zh dX9_laysQueue_133 rfl ?_
                          refine z_aloadnR zh dX9_laysQueue_135 rfl ?_
                          refine z_getf zh fl_Y_32 dX9_laysQueue_136 ck_Y rfl rfl ?_
                          refine z_iload zh dX9_laysQueue_139 rfl ?_
                          refine z_iconst zh dX9_laysQueue_141 ki_1 ?_
                          refine y_isub zh dX9_laysQueue_142 r44 rl_1 (u := 0) (v := 1199) rfl rfl (by decide) (by decide) (fun x59 hc59 hx59 => ?_)
                          refine y_iald zh ck_qS dX9_laysQueue_143 hx59 (by decide) (by decide) (fun x60 ex60 => ?_)
                          refine z_iast zh ck_qS dX9_laysQueue_144 (ra_in r44 (by decide) (by decide)) ?_
                          have hG : SI sp σ (upI iv 559 x33.toNatClampNeg x60) := si_wY hG 8 (by decide) (by decide) rfl (rx_none rfl)
                          have em61 := (upI_ne (iv := iv) (k := 559) (j := x33.toNatClampNeg) (x := x60) (a := 551) (b := 10) (Or.inl (by decide))).trans em58
                          generalize upI iv 559 x33.toNatClampNeg x60 = iv at hG em61 ⊢
                          refine z_iload zh dX9_laysQueue_145 rfl ?_
                          refine z_iconst zh dX9_laysQueue_147 ki_1 ?_
                          refine y_isub zh dX9_laysQueue_148 r44 rl_1 (u := 0) (v := 1199) rfl rfl (by decide) (by decide) (fun x62 hc62 hx62 => ?_)
                          refine z_istore zh dX9_laysQueue_149 (by decide) (L' := [some (rf g 551), some (.int a1), some (.int a2), some (.int x2), some (.int x10), some (.int x26), some (.int x62)]) rfl ?_
                          refine z_goto (tgt := 63) zh dX9_laysQueue_151 rfl ?_
                          exact ih63 iv lv x62 hG (ra_w hx62 (by decide) (by decide)) em61 (ms_dn (bs_sub hc62 rl_1) (by decide) hn63)
                  exact J63 1201 iv lv x11 hG hx11 em12 (ms_d0 hx11 (by decide))
                · have r63 : Ra (-2147483648) 98 a2 := rb_lt_l hx26 (ra_tt a2) (rb_nle q31) (by decide)
                  refine z_goto (tgt := 196) zh dX9_laysQueue_54 rfl ?_
                  exact J196 iv lv x11 hG em12 ⟨by have := hx11.1; have := hx11.2; have := ha1.1; have := ha1.2; have := r63.1; have := r63.2; have := r9.1; have := r9.2; have := r20.1; have := r20.2; have := hx26.1; have := hx26.2; omega, by have := hx11.1; have := hx11.2; have := ha1.1; have := ha1.2; have := r63.1; have := r63.2; have := r9.1; have := r9.2; have := r20.1; have := r20.2; have := hx26.1; have := hx26.2; omega⟩ (by have := hx11.1; have := hx11.2; have := ha1.1; have := ha1.2; have := r63.1; have := r63.2; have := r9.1; have := r9.2; have := r20.1; have := r20.2; have := hx26.1; have := hx26.2; omega)
        exact J18 101 iv lv (nI 0) x3 hG (ra_w rl_0 (by decide) (by decide)) em4 ⟨by have := hx3.1; have := hx3.2; have := ha1.1; have := ha1.2; have := r9.1; have := r9.2; have := rl_0.1; have := rl_0.2; omega, by have := hx3.1; have := hx3.2; have := ha1.1; have := ha1.2; have := r9.1; have := r9.2; have := rl_0.1; have := rl_0.2; omega⟩ (by have := hx3.1; have := hx3.2; have := ha1.1; have := ha1.2; have := r9.1; have := r9.2; have := rl_0.1; have := rl_0.2; omega) (ms_u0 rl_0 (by decide))
  exact J7 13 iv lv (nI 0) (nI 0) hG (ra_w rl_0 (by decide) (by decide)) em1 ⟨by have := rl_0.1; have := rl_0.2; have := ha1.1; have := ha1.2; omega, by have := rl_0.1; have := rl_0.2; have := ha1.1; have := ha1.2; omega⟩ (by have := rl_0.1; have := rl_0.2; have := ha1.1; have := ha1.2; omega) (ms_u0 rl_0 (by decide))
set_option maxRecDepth 20000 in
theorem s_X9_ahead (g : GE) {sp : Nat → Nat → Bool} {σ : Iv} {iv : Iv} {lv : Lv} {a1 : Int32} {a2 : Int32}  (hG : SI sp σ iv)  : ConI g yX9_ahead cX9_ahead 5 (some .int) 7 [rf g 551, .int a1, .int a2] iv lv (fun r iv lv => SI sp σ iv ∧ True) := by
  refine con_intro (own := "RollingNetsModel") (by decide +kernel) rfl (Nat.le_of_ble_eq_true rfl) (L0 := [some (rf g 551), some (.int a1), some (.int a2), none, none]) rfl (fun Z zh => ?_)
  refine z_aloadnR zh dX9_ahead_0 rfl ?_
  refine z_iconst zh dX9_ahead_1 ki_0 ?_
  refine z_putI zh fl_Y_58 dX9_ahead_2 ck_Y rfl rfl (Nat.le_of_ble_eq_true rfl) (Or.inl rfl) ?_
  have hG : SI sp σ (upI iv 551 0 (nI 0)) := si_w (k := 551) (j := 0) hG (by decide) (by decide) (sp_no hG ((spc_Y (q := 0)).trans rfl)) (fun lo hi q => (rx_none rfl) lo hi ((rg_Y (q := 0)).symm.trans q))
  have em1 : upI iv 551 0 (nI 0) 551 0 = nI 0 := by rw [upI_at, if_pos ⟨rfl, rfl⟩]
  generalize upI iv 551 0 (nI 0) = iv at hG em1 ⊢
  refine z_aloadnR zh dX9_ahead_5 rfl ?_
  refine z_iloadn zh dX9_ahead_6 rfl ?_
  refine z_callVI zh mv_Y_90 dX9_ahead_7 ck_Y rfl (s_X9_isMember g  hG) ⟨Nat.le_of_ble_eq_true rfl, Nat.le_of_ble_eq_true rfl⟩ rfl rfl (Nat.le_of_ble_eq_true rfl) ?_
  rintro x2 _ _ ⟨rfl, rfl, hx2, hz3⟩
  refine z_if_eq (tgt := 30) zh dX9_ahead_10 rfl (fun q4 => ?_) (fun q4 => ?_)
  · have r5 := rb_eq (u := 0) (v := 0) hx2 ra_z q4 (by decide) (by decide)
    refine z_iconst zh dX9_ahead_30 ki_m1 ?_
    exact z_iret zh dX9_ahead_31 ⟨_, rfl, hG, trivial⟩
  · have r6 : Ra 1 1 x2 := rb_ne_lo hx2 ra_z q4 (by decide)
    have r7 : Ra 0 11 a1 := (hz3 q4)
    refine z_aloadnR zh dX9_ahead_13 rfl ?_
    refine z_iloadn zh dX9_ahead_14 rfl ?_
    refine z_callVI zh mv_Y_94 dX9_ahead_15 ck_Y rfl (s_X9_isIssue g  hG) ⟨Nat.le_of_ble_eq_true rfl, Nat.le_of_ble_eq_true rfl⟩ rfl rfl (Nat.le_of_ble_eq_true rfl) ?_
    rintro x8 _ _ ⟨rfl, rfl, hx8, hz9⟩
    refine z_if_eq (tgt := 30) zh dX9_ahead_18 rfl (fun q10 => ?_) (fun q10 => ?_)
    · have r11 := rb_eq (u := 0) (v := 0) hx8 ra_z q10 (by decide) (by decide)
      refine z_iconst zh dX9_ahead_30 ki_m1 ?_
      exact z_iret zh dX9_ahead_31 ⟨_, rfl, hG, trivial⟩
    · have r12 : Ra 1 1 x8 := rb_ne_lo hx8 ra_z q10 (by decide)
      have r13 : Ra 0 5 a2 := (hz9 q10)
      refine z_aloadnR zh dX9_ahead_21 rfl ?_
      refine z_iloadn zh dX9_ahead_22 rfl ?_
      refine z_iloadn zh dX9_ahead_23 rfl ?_
      refine z_callVI zh mv_Y_122 dX9_ahead_24 ck_Y rfl (s_X9_isLong g r7 r13 hG) ⟨Nat.le_of_ble_eq_true rfl, Nat.le_of_ble_eq_true rfl⟩ rfl rfl (Nat.le_of_ble_eq_true rfl) ?_
      rintro x14 _ _ ⟨rfl, rfl, hx14⟩
      refine z_if_ne (tgt := 32) zh dX9_ahead_27 rfl (fun q15 => ?_) (fun q15 => ?_)
      · have r16 : Ra 1 1 x14 := rb_ne_lo hx14 ra_z q15 (by decide)
        refine z_aloadnR zh dX9_ahead_32 rfl ?_
        refine z_iloadn zh dX9_ahead_33 rfl ?_
        refine z_bipush zh dX9_ahead_34 kb_99 ?_
        refine z_callVV zh mv_Y_271 dX9_ahead_36 ck_Y rfl (s_X9_laysQueue g r13 hG) ⟨Nat.le_of_ble_eq_true rfl, Nat.le_of_ble_eq_true rfl⟩ rfl rfl (Nat.le_of_ble_eq_true rfl) ?_
        rintro iv lv hG
        refine z_iconst zh dX9_ahead_39 ki_0 ?_
        refine z_istoren zh dX9_ahead_40 (by decide) (L' := [some (rf g 551), some (.int a1), some (.int a2), some (.int (nI 0)), none]) rfl ?_
        refine z_iconst zh dX9_ahead_41 ki_0 ?_
        refine z_istore zh dX9_ahead_42 (by decide) (L' := [some (rf g 551), some (.int a1), some (.int a2), some (.int (nI 0)), some (.int (nI 0))]) rfl ?_
        have J44 : ∀ (n : Nat) (iv : Iv) (lv : Lv) (x17 : Int32) (x18 : Int32), SI sp σ iv → Ra 0 2147483646 x18 → 2147483646 - x18.toInt < (n : Int) → Z 44 [some (rf g 551), some (.int a1), some (.int a2), some (.int x17), some (.int x18)] [] iv lv := by
          intro n
          induction n with
          | zero => intro iv lv x17 x18 hG hx18 hn44; exact (ms_uz hx18 hn44).elim
          | succ n ih44 =>
            intro iv lv x17 x18 hG hx18 hn44
            refine z_iload zh dX9_ahead_44 rfl ?_
            refine z_aloadnR zh dX9_ahead_46 rfl ?_
            refine y_getI zh fl_Y_240 dX9_ahead_47 ck_Y rfl rfl (fun x19 ex19 => ?_)
            have hx19 : Ra 0 1224 x19 := ra_of ex19 (si_Y hG 0 (j := 10) rfl)
            refine z_icmp_ge (tgt := 80) zh dX9_ahead_50 rfl (fun q20 => ?_) (fun q20 => ?_)
            · refine z_iloadn zh dX9_ahead_80 rfl ?_
              exact z_iret zh dX9_ahead_81 ⟨_, rfl, hG, trivial⟩
            · have r21 : Ra 0 1223 x18 := rb_lt_l hx19 hx18 (rb_nle q20) (by decide)
              have r22 : Ra 1 1224 x19 := rb_lt_r hx18 hx19 (rb_nle q20) (by decide)
              refine z_aloadnR zh dX9_ahead_53 rfl ?_
              refine z_getf zh fl_Y_26 dX9_ahead_54 ck_Y rfl rfl ?_
              refine z_iload zh dX9_ahead_57 rfl ?_
              refine y_iald zh ck_qM dX9_ahead_59 r21 (by decide) (by decide) (fun x23 ex23 => ?_)
              have hx23 : Ra 0 11 x23 := ra_of ex23 (si_Y hG 6 rfl)
              refine z_iloadn zh dX9_ahead_60 rfl ?_
              refine z_icmp_eq (tgt := 80) zh dX9_ahead_61 rfl (fun q24 => ?_) (fun q24 => ?_)
              · refine z_iloadn zh dX9_ahead_80 rfl ?_
                exact z_iret zh dX9_ahead_81 ⟨_, rfl, hG, trivial⟩
              · refine z_iloadn zh dX9_ahead_64 rfl ?_
                refine z_aloadnR zh dX9_ahead_65 rfl ?_
                refine z_getf zh fl_Y_32 dX9_ahead_66 ck_Y rfl rfl ?_
                refine z_iload zh dX9_ahead_69 rfl ?_
                refine y_iald zh ck_qS dX9_ahead_71 r21 (by decide) (by decide) (fun x26 ex26 => ?_)
                refine y_iaddT zh dX9_ahead_72 (fun x27 => ?_)
                refine z_istoren zh dX9_ahead_73 (by decide) (L' := [some (rf g 551), some (.int a1), some (.int a2), some (.int x27), some (.int x18)]) rfl ?_
                refine y_iinc (L' := fun z => [some (rf g 551), some (.int a1), some (.int a2), some (.int x27), some (.int z)]) zh dX9_ahead_74 (by decide) rfl (by decide +kernel) r21 (u := 1) (v := 1224) rfl rfl (by decide) (by decide) (fun _ => rfl) (fun x28 hc28 hx28 => ?_)
                refine z_goto (tgt := 44) zh dX9_ahead_77 rfl ?_
                exact ih44 iv lv x27 x28 hG (ra_w hx28 (by decide) (by decide)) (ms_up hc28 (by decide) hn44)
        exact J44 2147483647 iv lv (nI 0) (nI 0) hG (ra_w rl_0 (by decide) (by decide)) (ms_u0 rl_0 (by decide))
      · have r29 := rb_eq (u := 0) (v := 0) hx14 ra_z q15 (by decide) (by decide)
        refine z_iconst zh dX9_ahead_30 ki_m1 ?_
        exact z_iret zh dX9_ahead_31 ⟨_, rfl, hG, trivial⟩
set_option maxRecDepth 20000 in
theorem s_X9_allCash (g : GE) {sp : Nat → Nat → Bool} {σ : Iv} {iv : Iv} {lv : Lv}   (hG : SI sp σ iv)  : ConI g yX9_allCash cX9_allCash 4 (some .int) 1 [rf g 551] iv lv (fun r iv' lv' => iv = iv' ∧ lv = lv' ∧ True) := by
  refine con_intro (own := "RollingNetsModel") (by decide +kernel) rfl (Nat.le_of_ble_eq_true rfl) (L0 := [some (rf g 551), none, none, none]) rfl (fun Z zh => ?_)
  refine z_lconst (v := 0) zh dX9_allCash_0 (by decide) ?_
  refine z_lstoren zh dX9_allCash_1 (by decide) (L' := [some (rf g 551), some (.long (0 : Int64)), none, none]) rfl ?_
  refine z_iconst zh dX9_allCash_2 ki_0 ?_
  refine z_istoren zh dX9_allCash_3 (by decide) (L' := [some (rf g 551), some (.long (0 : Int64)), none, some (.int (nI 0))]) rfl ?_
  have J4 : ∀ (n : Nat) (l1 : Int64) (x2 : Int32), Ra 0 12 x2 → 12 - x2.toInt < (n : Int) → Z 4 [some (rf g 551), some (.long l1), none, some (.int x2)] [] iv lv := by
    intro n
    induction n with
    | zero => intro l1 x2 hx2 hn4; exact (ms_uz hx2 hn4).elim
    | succ n ih4 =>
      intro l1 x2 hx2 hn4
      refine z_iloadn zh dX9_allCash_4 rfl ?_
      refine z_bipush zh dX9_allCash_5 kb_12 ?_
      refine z_icmp_ge (tgt := 25) zh dX9_allCash_7 rfl (fun q3 => ?_) (fun q3 => ?_)
      · have r4 : Ra 12 12 x2 := rb_le_r rl_12 hx2 q3 (by decide)
        refine z_lloadn zh dX9_allCash_25 rfl ?_
        refine y_l2i zh dX9_allCash_26 (fun x5 => ?_)
        exact z_iret zh dX9_allCash_27 ⟨_, rfl, rfl, rfl, trivial⟩
      · have r6 : Ra 0 11 x2 := rb_lt_l rl_12 hx2 (rb_nle q3) (by decide)
        refine z_lloadn zh dX9_allCash_10 rfl ?_
        refine z_aloadnR zh dX9_allCash_11 rfl ?_
        refine z_getf zh fl_Y_16 dX9_allCash_12 ck_Y rfl rfl ?_
        refine z_iloadn zh dX9_allCash_15 rfl ?_
        refine y_lald zh ck_coins dX9_allCash_16 r6 (by decide) (by decide) (fun l7 => ?_)
        refine y_ladd zh dX9_allCash_17 (fun l8 => ?_)
        refine z_lstoren zh dX9_allCash_18 (by decide) (L' := [some (rf g 551), some (.long l8), none, some (.int x2)]) rfl ?_
        refine y_iinc (L' := fun z => [some (rf g 551), some (.long l8), none, some (.int z)]) zh dX9_allCash_19 (by decide) rfl (by decide +kernel) r6 (u := 1) (v := 12) rfl rfl (by decide) (by decide) (fun _ => rfl) (fun x9 hc9 hx9 => ?_)
        refine z_goto (tgt := 4) zh dX9_allCash_22 rfl ?_
        exact ih4 l8 x9 (ra_w hx9 (by decide) (by decide)) (ms_up hc9 (by decide) hn4)
  exact J4 13 (0 : Int64) (nI 0) (ra_w rl_0 (by decide) (by decide)) (ms_u0 rl_0 (by decide))
set_option maxRecDepth 20000 in
theorem s_X9_cashMore (g : GE) {sp : Nat → Nat → Bool} {σ : Iv} {iv : Iv} {lv : Lv} {a1 : Int32} {b1 : Int64} (ha1 : Ra 0 11 a1) (hG : SI sp σ iv)  : ConV g yX9_cashMore cX9_cashMore 4 none 1 [rf g 551, .int a1, .long b1] iv lv (fun iv' lv' => SI sp σ iv' ∧ Fw 0 0 iv iv') := by
  refine con_intro (own := "RollingNetsModel") (by decide +kernel) rfl (Nat.le_of_ble_eq_true rfl) (L0 := [some (rf g 551), some (.int a1), some (.long b1), none]) rfl (fun Z zh => ?_)
  have hF : Fw 0 0 iv iv := fw_refl
  refine z_aloadnR zh dX9_cashMore_0 rfl ?_
  refine z_getf zh fl_Y_16 dX9_cashMore_1 ck_Y rfl rfl ?_
  refine z_iloadn zh dX9_cashMore_4 rfl ?_
  refine z_aloadnR zh dX9_cashMore_5 rfl ?_
  refine z_getf zh fl_Y_16 dX9_cashMore_6 ck_Y rfl rfl ?_
  refine z_iloadn zh dX9_cashMore_9 rfl ?_
  refine y_lald zh ck_coins dX9_cashMore_10 ha1 (by decide) (by decide) (fun l1 => ?_)
  refine z_lloadn zh dX9_cashMore_11 rfl ?_
  refine y_ladd zh dX9_cashMore_12 (fun l2 => ?_)
  refine z_last zh ck_coins dX9_cashMore_13 (ra_in ha1 (by decide) (by decide)) ?_
  generalize upL lv 554 a1.toNatClampNeg l2 = lv
  exact z_vret zh dX9_cashMore_14 ⟨rfl, hG, hF⟩
set_option maxRecDepth 20000 in
theorem s_X9_firstServed (g : GE) {sp : Nat → Nat → Bool} {σ : Iv} {iv : Iv} {lv : Lv} {a1 : Int32} (ha1 : Ra 0 5 a1) (hG : SI sp σ iv)  : ConI g yX9_firstServed cX9_firstServed 4 (some .int) 6 [rf g 551, .int a1] iv lv (fun r iv' lv' => iv = iv' ∧ lv = lv' ∧ Ra (-1) 11 r) := by
  refine con_intro (own := "RollingNetsModel") (by decide +kernel) rfl (Nat.le_of_ble_eq_true rfl) (L0 := [some (rf g 551), some (.int a1), none, none]) rfl (fun Z zh => ?_)
  refine z_iconst zh dX9_firstServed_0 ki_m1 ?_
  refine z_istoren zh dX9_firstServed_1 (by decide) (L' := [some (rf g 551), some (.int a1), some (.int (-1)), none]) rfl ?_
  refine z_iconst zh dX9_firstServed_2 ki_0 ?_
  refine z_istoren zh dX9_firstServed_3 (by decide) (L' := [some (rf g 551), some (.int a1), some (.int (-1)), some (.int (nI 0))]) rfl ?_
  have J4 : ∀ (n : Nat) (x1 : Int32) (x2 : Int32), Ra (-1) 11 x1 → Ra 0 12 x2 → 12 - x2.toInt < (n : Int) → Z 4 [some (rf g 551), some (.int a1), some (.int x1), some (.int x2)] [] iv lv := by
    intro n
    induction n with
    | zero => intro x1 x2 hx1 hx2 hn4; exact (ms_uz hx2 hn4).elim
    | succ n ih4 =>
      intro x1 x2 hx1 hx2 hn4
      refine z_iloadn zh dX9_firstServed_4 rfl ?_
      refine z_aloadnR zh dX9_firstServed_5 rfl ?_
      refine z_callVI zh mv_Y_61 dX9_firstServed_6 ck_Y rfl (s_X9_memberMany g  hG) ⟨Nat.le_of_ble_eq_true rfl, Nat.le_of_ble_eq_true rfl⟩ rfl rfl (Nat.le_of_ble_eq_true rfl) ?_
      rintro x3 _ _ ⟨rfl, rfl, hx3⟩
      refine z_icmp_ge (tgt := 58) zh dX9_firstServed_9 rfl (fun q4 => ?_) (fun q4 => ?_)
      · have r5 : Ra 2 12 x2 := rb_le_r hx3 hx2 q4 (by decide)
        refine z_iloadn zh dX9_firstServed_58 rfl ?_
        exact z_iret zh dX9_firstServed_59 ⟨_, rfl, rfl, rfl, hx1⟩
      · have r6 : Ra 0 11 x2 := rb_lt_l hx3 hx2 (rb_nle q4) (by decide)
        refine z_aloadnR zh dX9_firstServed_12 rfl ?_
        refine z_iloadn zh dX9_firstServed_13 rfl ?_
        refine z_iloadn zh dX9_firstServed_14 rfl ?_
        refine z_callVI zh mv_Y_122 dX9_firstServed_15 ck_Y rfl (s_X9_isLong g r6 ha1 hG) ⟨Nat.le_of_ble_eq_true rfl, Nat.le_of_ble_eq_true rfl⟩ rfl rfl (Nat.le_of_ble_eq_true rfl) ?_
        rintro x7 _ _ ⟨rfl, rfl, hx7⟩
        have J52 : ∀ (x8 : Int32), Ra (-1) 11 x8 → Z 52 [some (rf g 551), some (.int a1), some (.int x8), some (.int x2)] [] iv lv := by
          intro x8 hx8
          refine y_iinc (L' := fun z => [some (rf g 551), some (.int a1), some (.int x8), some (.int z)]) zh dX9_firstServed_52 (by decide) rfl (by decide +kernel) r6 (u := 1) (v := 12) rfl rfl (by decide) (by decide) (fun _ => rfl) (fun x9 hc9 hx9 => ?_)
          refine z_goto (tgt := 4) zh dX9_firstServed_55 rfl ?_
          exact ih4 x8 x9 hx8 (ra_w hx9 (by decide) (by decide)) (ms_up hc9 (by decide) hn4)
        refine z_if_eq (tgt := 52) zh dX9_firstServed_18 rfl (fun q10 => ?_) (fun q10 => ?_)
        · have r11 := rb_eq (u := 0) (v := 0) hx7 ra_z q10 (by decide) (by decide)
          exact J52 x1 hx1
        · have r12 : Ra 1 1 x7 := rb_ne_lo hx7 ra_z q10 (by decide)
          refine z_iloadn zh dX9_firstServed_21 rfl ?_
          refine z_iconst zh dX9_firstServed_22 ki_m1 ?_
          have J50 : Z 50 [some (rf g 551), some (.int a1), some (.int x1), some (.int x2)] [] iv lv := by
            refine z_iloadn zh dX9_firstServed_50 rfl ?_
            refine z_istoren zh dX9_firstServed_51 (by decide) (L' := [some (rf g 551), some (.int a1), some (.int x2), some (.int x2)]) rfl ?_
            exact J52 x2 (ra_w r6 (by decide) (by decide))
          refine z_icmp_eq (tgt := 50) zh dX9_firstServed_23 rfl (fun q13 => ?_) (fun q13 => ?_)
          · have r14 := rb_eq (u := (-1)) (v := (-1)) hx1 rl_n1 q13 (by decide) (by decide)
            exact J50
          · have r15 : Ra 0 11 x1 := rb_ne_lo hx1 rl_n1 q13 (by decide)
            refine z_aloadnR zh dX9_firstServed_26 rfl ?_
            refine z_iloadn zh dX9_firstServed_27 rfl ?_
            refine z_iloadn zh dX9_firstServed_28 rfl ?_
            refine z_aloadnR zh dX9_firstServed_29 rfl ?_
            refine z_iloadn zh dX9_firstServed_30 rfl ?_
            refine z_iloadn zh dX9_firstServed_31 rfl ?_
            refine z_iconst zh dX9_firstServed_32 ki_0 ?_
            refine z_callVI zh mv_Y_125 dX9_firstServed_33 ck_Y rfl (s_X9_dayOf g r6 ha1 (ra_w rl_0 (by decide) (by decide)) hG) ⟨Nat.le_of_ble_eq_true rfl, Nat.le_of_ble_eq_true rfl⟩ rfl rfl (Nat.le_of_ble_eq_true rfl) ?_
            rintro x16 _ _ ⟨rfl, rfl, hx16, _⟩
            refine z_iloadn zh dX9_firstServed_36 rfl ?_
            refine z_aloadnR zh dX9_firstServed_37 rfl ?_
            refine z_iloadn zh dX9_firstServed_38 rfl ?_
            refine z_iloadn zh dX9_firstServed_39 rfl ?_
            refine z_iconst zh dX9_firstServed_40 ki_0 ?_
            refine z_callVI zh mv_Y_125 dX9_firstServed_41 ck_Y rfl (s_X9_dayOf g r15 ha1 (ra_w rl_0 (by decide) (by decide)) hG) ⟨Nat.le_of_ble_eq_true rfl, Nat.le_of_ble_eq_true rfl⟩ rfl rfl (Nat.le_of_ble_eq_true rfl) ?_
            rintro x17 _ _ ⟨rfl, rfl, hx17, _⟩
            refine z_callVI zh mv_Y_243 dX9_firstServed_44 ck_Y rfl (s_X9_goesAhead g ha1 r6 hx16 r15 hx17 hG) ⟨Nat.le_of_ble_eq_true rfl, Nat.le_of_ble_eq_true rfl⟩ rfl rfl (Nat.le_of_ble_eq_true rfl) ?_
            rintro x18 _ _ ⟨rfl, rfl, hx18⟩
            refine z_if_eq (tgt := 52) zh dX9_firstServed_47 rfl (fun q19 => ?_) (fun q19 => ?_)
            · have r20 := rb_eq (u := 0) (v := 0) hx18 ra_z q19 (by decide) (by decide)
              exact J52 x1 (ra_w r15 (by decide) (by decide))
            · have r21 : Ra 1 1 x18 := rb_ne_lo hx18 ra_z q19 (by decide)
              exact J50
  exact J4 13 (-1) (nI 0) (ra_w rl_n1 (by decide) (by decide)) (ra_w rl_0 (by decide) (by decide)) (ms_u0 rl_0 (by decide))
set_option maxRecDepth 20000 in
theorem s_X9_markedOf (g : GE) {sp : Nat → Nat → Bool} {σ : Iv} {iv : Iv} {lv : Lv} {a1 : Int32} (ha1 : Ra 0 5 a1) (hG : SI sp σ iv)  : ConI g yX9_markedOf cX9_markedOf 2 (some .int) 1 [rf g 551, .int a1] iv lv (fun r iv' lv' => iv = iv' ∧ lv = lv' ∧ True) := by
  refine con_intro (own := "RollingNetsModel") (by decide +kernel) rfl (Nat.le_of_ble_eq_true rfl) (L0 := [some (rf g 551), some (.int a1)]) rfl (fun Z zh => ?_)
  refine z_aloadnR zh dX9_markedOf_0 rfl ?_
  refine z_getf zh fl_Y_7 dX9_markedOf_1 ck_Y rfl rfl ?_
  refine z_bipush zh dX9_markedOf_4 kb_22 ?_
  refine z_iloadn zh dX9_markedOf_6 rfl ?_
  refine y_iadd zh dX9_markedOf_7 rl_22 ha1 (u := 22) (v := 27) rfl rfl (by decide) (by decide) (fun x1 hc1 hx1 => ?_)
  refine y_iald zh ck_now dX9_markedOf_8 hx1 (by decide) (by decide) (fun x2 ex2 => ?_)
  refine z_bipush zh dX9_markedOf_9 kb_100 ?_
  refine y_iaddT zh dX9_markedOf_11 (fun x3 => ?_)
  exact z_iret zh dX9_markedOf_12 ⟨_, rfl, rfl, rfl, trivial⟩
set_option maxRecDepth 20000 in
theorem s_X9_stockMore (g : GE) {sp : Nat → Nat → Bool} {σ : Iv} {iv : Iv} {lv : Lv} {a1 : Int32} {a2 : Int32} {a3 : Int32} (ha1 : Ra 0 11 a1) (ha2 : Ra 0 5 a2) (hG : SI sp σ iv)  : ConV g yX9_stockMore cX9_stockMore 4 none 2 [rf g 551, .int a1, .int a2, .int a3] iv lv (fun iv' lv' => SI sp σ iv' ∧ Fw 60 132 iv iv') := by
  refine con_intro (own := "RollingNetsModel") (by decide +kernel) rfl (Nat.le_of_ble_eq_true rfl) (L0 := [some (rf g 551), some (.int a1), some (.int a2), some (.int a3)]) rfl (fun Z zh => ?_)
  have hF : Fw 60 132 iv iv := fw_refl
  refine z_aloadnR zh dX9_stockMore_0 rfl ?_
  refine z_getf zh fl_Y_7 dX9_stockMore_1 ck_Y rfl rfl ?_
  refine z_bipush zh dX9_stockMore_4 kb_60 ?_
  refine z_aloadnR zh dX9_stockMore_6 rfl ?_
  refine z_iloadn zh dX9_stockMore_7 rfl ?_
  refine z_iloadn zh dX9_stockMore_8 rfl ?_
  refine z_callVI zh mv_Y_65 dX9_stockMore_9 ck_Y rfl (s_X9_cellOf g ha1 ha2 hG) ⟨Nat.le_of_ble_eq_true rfl, Nat.le_of_ble_eq_true rfl⟩ rfl rfl (Nat.le_of_ble_eq_true rfl) ?_
  rintro x1 _ _ ⟨rfl, rfl, hx1, hc1⟩
  refine y_iadd zh dX9_stockMore_12 rl_60 hx1 (u := 60) (v := 131) rfl rfl (by decide) (by decide) (fun x2 hc2 hx2 => ?_)
  refine z_aloadnR zh dX9_stockMore_13 rfl ?_
  refine z_getf zh fl_Y_7 dX9_stockMore_14 ck_Y rfl rfl ?_
  refine z_bipush zh dX9_stockMore_17 kb_60 ?_
  refine z_aloadnR zh dX9_stockMore_19 rfl ?_
  refine z_iloadn zh dX9_stockMore_20 rfl ?_
  refine z_iloadn zh dX9_stockMore_21 rfl ?_
  refine z_callVI zh mv_Y_65 dX9_stockMore_22 ck_Y rfl (s_X9_cellOf g ha1 ha2 hG) ⟨Nat.le_of_ble_eq_true rfl, Nat.le_of_ble_eq_true rfl⟩ rfl rfl (Nat.le_of_ble_eq_true rfl) ?_
  rintro x3 _ _ ⟨rfl, rfl, hx3, hc3⟩
  refine y_iadd zh dX9_stockMore_25 rl_60 hx3 (u := 60) (v := 131) rfl rfl (by decide) (by decide) (fun x4 hc4 hx4 => ?_)
  refine y_iald zh ck_now dX9_stockMore_26 hx4 (by decide) (by decide) (fun x5 ex5 => ?_)
  refine z_iloadn zh dX9_stockMore_27 rfl ?_
  refine y_iaddT zh dX9_stockMore_28 (fun x6 => ?_)
  refine z_iast zh ck_now dX9_stockMore_29 (ra_in hx2 (by decide) (by decide)) ?_
  have hG : SI sp σ (upI iv 552 x2.toNatClampNeg x6) := (nw_free hG (by have := rl_60.1; have := rl_60.2; have := ha1.1; have := ha1.2; have := ha2.1; have := ha2.2; omega))
  have ej9 : ((x2.toNatClampNeg : Nat) : Int) = x2.toInt := ra_clamp hx2 (by decide)
  have hF := fw_w (k := 552) (j := x2.toNatClampNeg) (x := x6) hF (Or.inr (Or.inr ⟨by have := rl_60.1; have := rl_60.2; have := ha1.1; have := ha1.2; have := ha2.1; have := ha2.2; omega, by have := rl_60.1; have := rl_60.2; have := ha1.1; have := ha1.2; have := ha2.1; have := ha2.2; omega⟩))
  generalize upI iv 552 x2.toNatClampNeg x6 = iv at hG hF  ⊢
  exact z_vret zh dX9_stockMore_30 ⟨rfl, hG, hF⟩
set_option maxRecDepth 20000 in
theorem s_X9_writes (g : GE) {sp : Nat → Nat → Bool} {σ : Iv} {iv : Iv} {lv : Lv} {a1 : Int32} {a2 : Int32} {a3 : Int32} {a4 : Int32} {a5 : Int32} (ha1 : Ra 0 4 a1) (ha2 : Ra 0 5 a2) (ha3 : Ra (-1) 11 a3) (ha4 : Ra (-1) 11 a4) (hG : SI sp σ iv)  : ConV g yX9_writes cX9_writes 7 none 1 [rf g 551, .int a1, .int a2, .int a3, .int a4, .int a5] iv lv (fun iv' lv' => SI sp σ iv' ∧ Fw 17910 19710 iv iv') := by
  refine con_intro (own := "RollingNetsModel") (by decide +kernel) rfl (Nat.le_of_ble_eq_true rfl) (L0 := [some (rf g 551), some (.int a1), some (.int a2), some (.int a3), some (.int a4), some (.int a5), none]) rfl (fun Z zh => ?_)
  have hF : Fw 17910 19710 iv iv := fw_refl
  refine z_aloadnR zh dX9_writes_0 rfl ?_
  refine z_getf zh fl_Y_7 dX9_writes_1 ck_Y rfl rfl ?_
  refine z_bipush zh dX9_writes_4 kb_9 ?_
  refine y_ialdN zh ck_now dX9_writes_6 (by decide) (fun x1 ex1 => ?_)
  have hx1 : Ra 0 300 x1 := ra_of ex1 (nr_l hG 9 rfl)
  refine z_sipush zh dX9_writes_7 ks_300 ?_
  refine z_icmp_ne (tgt := 14) zh dX9_writes_10 rfl (fun q2 => ?_) (fun q2 => ?_)
  · have r3 : Ra 0 299 x1 := rb_ne_hi hx1 rl_300 q2 (by decide)
    refine z_sipush zh dX9_writes_14 ks_17910 ?_
    refine z_bipush zh dX9_writes_17 kb_6 ?_
    refine z_aloadnR zh dX9_writes_19 rfl ?_
    refine z_getf zh fl_Y_7 dX9_writes_20 ck_Y rfl rfl ?_
    refine z_bipush zh dX9_writes_23 kb_9 ?_
    refine z_ialdE (x := x1) zh ck_now dX9_writes_25 (by decide) ex1 ?_
    refine y_imul2 zh dX9_writes_26 r3 rl_6 (by decide) (u := 0) (v := 1794) rfl rfl (by decide) (by decide) (fun x4 hc4 hx4 => ?_)
    refine y_iadd zh dX9_writes_27 rl_17910 hx4 (u := 17910) (v := 19704) rfl rfl (by decide) (by decide) (fun x5 hc5 hx5 => ?_)
    refine z_istore zh dX9_writes_28 (by decide) (L' := [some (rf g 551), some (.int a1), some (.int a2), some (.int a3), some (.int a4), some (.int a5), some (.int x5)]) rfl ?_
    refine z_aloadnR zh dX9_writes_30 rfl ?_
    refine z_getf zh fl_Y_7 dX9_writes_31 ck_Y rfl rfl ?_
    refine z_iload zh dX9_writes_34 rfl ?_
    refine z_aloadnR zh dX9_writes_36 rfl ?_
    refine z_getf zh fl_Y_7 dX9_writes_37 ck_Y rfl rfl ?_
    refine z_bipush zh dX9_writes_40 kb_6 ?_
    refine y_ialdN zh ck_now dX9_writes_42 (by decide) (fun x6 ex6 => ?_)
    have hx6 : Ra 0 99 x6 := ra_of ex6 (nr_l hG 6 rfl)
    refine z_iast zh ck_now dX9_writes_43 (ra_in hx5 (by decide) (by decide)) ?_
    have hG : SI sp σ (upI iv 552 x5.toNatClampNeg x6) := (nw_free hG (by have := rl_17910.1; have := rl_17910.2; have := rl_6.1; have := rl_6.2; have := r3.1; have := r3.2; omega))
    have ej9 : ((x5.toNatClampNeg : Nat) : Int) = x5.toInt := ra_clamp hx5 (by decide)
    have hF := fw_w (k := 552) (j := x5.toNatClampNeg) (x := x6) hF (Or.inr (Or.inr ⟨by have := rl_17910.1; have := rl_17910.2; have := rl_6.1; have := rl_6.2; have := r3.1; have := r3.2; omega, by have := rl_17910.1; have := rl_17910.2; have := rl_6.1; have := rl_6.2; have := r3.1; have := r3.2; omega⟩))
    have em7 := (upI_ne (iv := iv) (k := 552) (j := x5.toNatClampNeg) (x := x6) (a := 552) (b := 9) (Or.inr (ne_cl hx5 (by decide) (Or.inl (by decide))))).trans ex1
    have em8 := (upI_ne (iv := iv) (k := 552) (j := x5.toNatClampNeg) (x := x6) (a := 552) (b := 6) (Or.inr (ne_cl hx5 (by decide) (Or.inl (by decide))))).trans ex6
    generalize upI iv 552 x5.toNatClampNeg x6 = iv at hG hF em7 em8 ⊢
    refine z_aloadnR zh dX9_writes_44 rfl ?_
    refine z_getf zh fl_Y_7 dX9_writes_45 ck_Y rfl rfl ?_
    refine z_iload zh dX9_writes_48 rfl ?_
    refine z_iconst zh dX9_writes_50 ki_1 ?_
    refine y_iadd zh dX9_writes_51 hx5 rl_1 (u := 17911) (v := 19705) rfl rfl (by decide) (by decide) (fun x9 hc9 hx9 => ?_)
    refine z_iloadn zh dX9_writes_52 rfl ?_
    refine z_iast zh ck_now dX9_writes_53 (ra_in hx9 (by decide) (by decide)) ?_
    have hG : SI sp σ (upI iv 552 x9.toNatClampNeg a1) := (nw_free hG (by have := rl_17910.1; have := rl_17910.2; have := rl_6.1; have := rl_6.2; have := r3.1; have := r3.2; have := rl_1.1; have := rl_1.2; omega))
    have ej9 : ((x9.toNatClampNeg : Nat) : Int) = x9.toInt := ra_clamp hx9 (by decide)
    have hF := fw_w (k := 552) (j := x9.toNatClampNeg) (x := a1) hF (Or.inr (Or.inr ⟨by have := rl_17910.1; have := rl_17910.2; have := rl_6.1; have := rl_6.2; have := r3.1; have := r3.2; have := rl_1.1; have := rl_1.2; omega, by have := rl_17910.1; have := rl_17910.2; have := rl_6.1; have := rl_6.2; have := r3.1; have := r3.2; have := rl_1.1; have := rl_1.2; omega⟩))
    have em10 := (upI_ne (iv := iv) (k := 552) (j := x9.toNatClampNeg) (x := a1) (a := 552) (b := 9) (Or.inr (ne_cl hx9 (by decide) (Or.inl (by decide))))).trans em7
    have em11 := (upI_ne (iv := iv) (k := 552) (j := x9.toNatClampNeg) (x := a1) (a := 552) (b := 6) (Or.inr (ne_cl hx9 (by decide) (Or.inl (by decide))))).trans em8
    generalize upI iv 552 x9.toNatClampNeg a1 = iv at hG hF em10 em11 ⊢
    refine z_aloadnR zh dX9_writes_54 rfl ?_
    refine z_getf zh fl_Y_7 dX9_writes_55 ck_Y rfl rfl ?_
    refine z_iload zh dX9_writes_58 rfl ?_
    refine z_iconst zh dX9_writes_60 ki_2 ?_
    refine y_iadd zh dX9_writes_61 hx5 rl_2 (u := 17912) (v := 19706) rfl rfl (by decide) (by decide) (fun x12 hc12 hx12 => ?_)
    refine z_iloadn zh dX9_writes_62 rfl ?_
    refine z_iast zh ck_now dX9_writes_63 (ra_in hx12 (by decide) (by decide)) ?_
    have hG : SI sp σ (upI iv 552 x12.toNatClampNeg a2) := (nw_free hG (by have := rl_17910.1; have := rl_17910.2; have := rl_6.1; have := rl_6.2; have := r3.1; have := r3.2; have := rl_2.1; have := rl_2.2; omega))
    have ej9 : ((x12.toNatClampNeg : Nat) : Int) = x12.toInt := ra_clamp hx12 (by decide)
    have hF := fw_w (k := 552) (j := x12.toNatClampNeg) (x := a2) hF (Or.inr (Or.inr ⟨by have := rl_17910.1; have := rl_17910.2; have := rl_6.1; have := rl_6.2; have := r3.1; have := r3.2; have := rl_2.1; have := rl_2.2; omega, by have := rl_17910.1; have := rl_17910.2; have := rl_6.1; have := rl_6.2; have := r3.1; have := r3.2; have := rl_2.1; have := rl_2.2; omega⟩))
    have em13 := (upI_ne (iv := iv) (k := 552) (j := x12.toNatClampNeg) (x := a2) (a := 552) (b := 9) (Or.inr (ne_cl hx12 (by decide) (Or.inl (by decide))))).trans em10
    have em14 := (upI_ne (iv := iv) (k := 552) (j := x12.toNatClampNeg) (x := a2) (a := 552) (b := 6) (Or.inr (ne_cl hx12 (by decide) (Or.inl (by decide))))).trans em11
    generalize upI iv 552 x12.toNatClampNeg a2 = iv at hG hF em13 em14 ⊢
    refine z_aloadnR zh dX9_writes_64 rfl ?_
    refine z_getf zh fl_Y_7 dX9_writes_65 ck_Y rfl rfl ?_
    refine z_iload zh dX9_writes_68 rfl ?_
    refine z_iconst zh dX9_writes_70 ki_3 ?_
    refine y_iadd zh dX9_writes_71 hx5 rl_3 (u := 17913) (v := 19707) rfl rfl (by decide) (by decide) (fun x15 hc15 hx15 => ?_)
    refine z_iloadn zh dX9_writes_72 rfl ?_
    refine z_iconst zh dX9_writes_73 ki_1 ?_
    refine y_iadd zh dX9_writes_74 ha3 rl_1 (u := 0) (v := 12) rfl rfl (by decide) (by decide) (fun x16 hc16 hx16 => ?_)
    refine z_iast zh ck_now dX9_writes_75 (ra_in hx15 (by decide) (by decide)) ?_
    have hG : SI sp σ (upI iv 552 x15.toNatClampNeg x16) := (nw_free hG (by have := rl_17910.1; have := rl_17910.2; have := rl_6.1; have := rl_6.2; have := r3.1; have := r3.2; have := rl_3.1; have := rl_3.2; omega))
    have ej9 : ((x15.toNatClampNeg : Nat) : Int) = x15.toInt := ra_clamp hx15 (by decide)
    have hF := fw_w (k := 552) (j := x15.toNatClampNeg) (x := x16) hF (Or.inr (Or.inr ⟨by have := rl_17910.1; have := rl_17910.2; have := rl_6.1; have := rl_6.2; have := r3.1; have := r3.2; have := rl_3.1; have := rl_3.2; omega, by have := rl_17910.1; have := rl_17910.2; have := rl_6.1; have := rl_6.2; have := r3.1; have := r3.2; have := rl_3.1; have := rl_3.2; omega⟩))
    have em17 := (upI_ne (iv := iv) (k := 552) (j := x15.toNatClampNeg) (x := x16) (a := 552) (b := 9) (Or.inr (ne_cl hx15 (by decide) (Or.inl (by decide))))).trans em13
    have em18 := (upI_ne (iv := iv) (k := 552) (j := x15.toNatClampNeg) (x := x16) (a := 552) (b := 6) (Or.inr (ne_cl hx15 (by decide) (Or.inl (by decide))))).trans em14
    generalize upI iv 552 x15.toNatClampNeg x16 = iv at hG hF em17 em18 ⊢
    refine z_aloadnR zh dX9_writes_76 rfl ?_
    refine z_getf zh fl_Y_7 dX9_writes_77 ck_Y rfl rfl ?_
    refine z_iload zh dX9_writes_80 rfl ?_
    refine z_iconst zh dX9_writes_82 ki_4 ?_
    refine y_iadd zh dX9_writes_83 hx5 rl_4 (u := 17914) (v := 19708) rfl rfl (by decide) (by decide) (fun x19 hc19 hx19 => ?_)
    refine z_iload zh dX9_writes_84 rfl ?_
    refine z_iconst zh dX9_writes_86 ki_1 ?_
    refine y_iadd zh dX9_writes_87 ha4 rl_1 (u := 0) (v := 12) rfl rfl (by decide) (by decide) (fun x20 hc20 hx20 => ?_)
    refine z_iast zh ck_now dX9_writes_88 (ra_in hx19 (by decide) (by decide)) ?_
    have hG : SI sp σ (upI iv 552 x19.toNatClampNeg x20) := (nw_free hG (by have := rl_17910.1; have := rl_17910.2; have := rl_6.1; have := rl_6.2; have := r3.1; have := r3.2; have := rl_4.1; have := rl_4.2; omega))
    have ej9 : ((x19.toNatClampNeg : Nat) : Int) = x19.toInt := ra_clamp hx19 (by decide)
    have hF := fw_w (k := 552) (j := x19.toNatClampNeg) (x := x20) hF (Or.inr (Or.inr ⟨by have := rl_17910.1; have := rl_17910.2; have := rl_6.1; have := rl_6.2; have := r3.1; have := r3.2; have := rl_4.1; have := rl_4.2; omega, by have := rl_17910.1; have := rl_17910.2; have := rl_6.1; have := rl_6.2; have := r3.1; have := r3.2; have := rl_4.1; have := rl_4.2; omega⟩))
    have em21 := (upI_ne (iv := iv) (k := 552) (j := x19.toNatClampNeg) (x := x20) (a := 552) (b := 9) (Or.inr (ne_cl hx19 (by decide) (Or.inl (by decide))))).trans em17
    have em22 := (upI_ne (iv := iv) (k := 552) (j := x19.toNatClampNeg) (x := x20) (a := 552) (b := 6) (Or.inr (ne_cl hx19 (by decide) (Or.inl (by decide))))).trans em18
    generalize upI iv 552 x19.toNatClampNeg x20 = iv at hG hF em21 em22 ⊢
    refine z_aloadnR zh dX9_writes_89 rfl ?_
    refine z_getf zh fl_Y_7 dX9_writes_90 ck_Y rfl rfl ?_
    refine z_iload zh dX9_writes_93 rfl ?_
    refine z_iconst zh dX9_writes_95 ki_5 ?_
    refine y_iadd zh dX9_writes_96 hx5 rl_5 (u := 17915) (v := 19709) rfl rfl (by decide) (by decide) (fun x23 hc23 hx23 => ?_)
    refine z_iload zh dX9_writes_97 rfl ?_
    refine z_iast zh ck_now dX9_writes_99 (ra_in hx23 (by decide) (by decide)) ?_
    have hG : SI sp σ (upI iv 552 x23.toNatClampNeg a5) := (nw_free hG (by have := rl_17910.1; have := rl_17910.2; have := rl_6.1; have := rl_6.2; have := r3.1; have := r3.2; have := rl_5.1; have := rl_5.2; omega))
    have ej9 : ((x23.toNatClampNeg : Nat) : Int) = x23.toInt := ra_clamp hx23 (by decide)
    have hF := fw_w (k := 552) (j := x23.toNatClampNeg) (x := a5) hF (Or.inr (Or.inr ⟨by have := rl_17910.1; have := rl_17910.2; have := rl_6.1; have := rl_6.2; have := r3.1; have := r3.2; have := rl_5.1; have := rl_5.2; omega, by have := rl_17910.1; have := rl_17910.2; have := rl_6.1; have := rl_6.2; have := r3.1; have := r3.2; have := rl_5.1; have := rl_5.2; omega⟩))
    have em24 := (upI_ne (iv := iv) (k := 552) (j := x23.toNatClampNeg) (x := a5) (a := 552) (b := 9) (Or.inr (ne_cl hx23 (by decide) (Or.inl (by decide))))).trans em21
    have em25 := (upI_ne (iv := iv) (k := 552) (j := x23.toNatClampNeg) (x := a5) (a := 552) (b := 6) (Or.inr (ne_cl hx23 (by decide) (Or.inl (by decide))))).trans em22
    generalize upI iv 552 x23.toNatClampNeg a5 = iv at hG hF em24 em25 ⊢
    refine z_aloadnR zh dX9_writes_100 rfl ?_
    refine z_getf zh fl_Y_7 dX9_writes_101 ck_Y rfl rfl ?_
    refine z_bipush zh dX9_writes_104 kb_9 ?_
    refine z_aloadnR zh dX9_writes_106 rfl ?_
    refine z_getf zh fl_Y_7 dX9_writes_107 ck_Y rfl rfl ?_
    refine z_bipush zh dX9_writes_110 kb_9 ?_
    refine z_ialdE (x := x1) zh ck_now dX9_writes_112 (by decide) em24 ?_
    refine z_iconst zh dX9_writes_113 ki_1 ?_
    refine y_iadd zh dX9_writes_114 r3 rl_1 (u := 1) (v := 300) rfl rfl (by decide) (by decide) (fun x26 hc26 hx26 => ?_)
    refine z_iastN (j := 9) zh ck_now dX9_writes_115 (by decide) ?_
    have hG : SI sp σ (upI iv 552 9 x26) := (nw_l9 hG (ra_w hx26 (by decide) (by decide)))
    have hF := fw_w (k := 552) (j := 9) (x := x26) hF (Or.inr (Or.inl rfl))
    have em27 := (upI_ne (iv := iv) (k := 552) (j := 9) (x := x26) (a := 552) (b := 6) (Or.inr (by decide))).trans em25
    have em28 : upI iv 552 9 x26 552 9 = x26 := by rw [upI_at, if_pos ⟨rfl, rfl⟩]
    generalize upI iv 552 9 x26 = iv at hG hF em27 em28 ⊢
    exact z_vret zh dX9_writes_116 ⟨rfl, hG, hF⟩
  · have r29 := rb_eq (u := 300) (v := 300) hx1 rl_300 q2 (by decide) (by decide)
    exact z_vret zh dX9_writes_13 ⟨rfl, hG, hF⟩
set_option maxRecDepth 20000 in
theorem s_X9_firstOf_0 (g : GE) {sp : Nat → Nat → Bool} {σ : Iv} {iv : Iv} {lv : Lv}   (hG : SI sp σ iv)  : ConI g yX9_firstOf cX9_firstOf 2 (some .int) 1 [rf g 551, .int (nI 0)] iv lv (fun r iv' lv' => iv = iv' ∧ lv = lv' ∧ Ra 6 6 r) := by
  refine con_intro (own := "RollingNetsModel") (by decide +kernel) rfl (Nat.le_of_ble_eq_true rfl) (L0 := [some (rf g 551), some (.int (nI 0))]) rfl (fun Z zh => ?_)
  refine z_iloadn zh dX9_firstOf_0 rfl ?_
  refine z_if_ne (tgt := 9) zh dX9_firstOf_1 rfl (fun q1 => ?_) (fun q1 => ?_)
  · exact (ra_no (rb_ne_lo ra_z rl_0 (fun e => q1 e.symm) (u := 1) (by decide)) (by decide)).elim
  · refine z_bipush zh dX9_firstOf_4 kb_6 ?_
    refine z_goto (tgt := 43) zh dX9_firstOf_6 rfl ?_
    exact z_iret zh dX9_firstOf_43 ⟨_, rfl, rfl, rfl, rl_6⟩
set_option maxRecDepth 20000 in
theorem s_X9_firstOf (g : GE) {sp : Nat → Nat → Bool} {σ : Iv} {iv : Iv} {lv : Lv} {a1 : Int32} (ha1 : Ra 0 5 a1) (hG : SI sp σ iv)  : ConI g yX9_firstOf cX9_firstOf 2 (some .int) 1 [rf g 551, .int a1] iv lv (fun r iv' lv' => iv = iv' ∧ lv = lv' ∧ Ra 1 10 r) := by
  refine con_intro (own := "RollingNetsModel") (by decide +kernel) rfl (Nat.le_of_ble_eq_true rfl) (L0 := [some (rf g 551), some (.int a1)]) rfl (fun Z zh => ?_)
  refine z_iloadn zh dX9_firstOf_0 rfl ?_
  refine z_if_ne (tgt := 9) zh dX9_firstOf_1 rfl (fun q1 => ?_) (fun q1 => ?_)
  · have r2 : Ra 1 5 a1 := rb_ne_lo ha1 ra_z q1 (by decide)
    refine z_iloadn zh dX9_firstOf_9 rfl ?_
    refine z_iconst zh dX9_firstOf_10 ki_1 ?_
    refine z_icmp_eq (tgt := 19) zh dX9_firstOf_11 rfl (fun q3 => ?_) (fun q3 => ?_)
    · have r4 := rb_eq (u := 1) (v := 1) r2 rl_1 q3 (by decide) (by decide)
      refine z_iconst zh dX9_firstOf_19 ki_2 ?_
      refine z_goto (tgt := 43) zh dX9_firstOf_20 rfl ?_
      exact z_iret zh dX9_firstOf_43 ⟨_, rfl, rfl, rfl, (ra_w rl_2 (by decide) (by decide))⟩
    · have r5 : Ra 2 5 a1 := rb_ne_lo r2 rl_1 q3 (by decide)
      refine z_iloadn zh dX9_firstOf_14 rfl ?_
      refine z_iconst zh dX9_firstOf_15 ki_2 ?_
      refine z_icmp_ne (tgt := 23) zh dX9_firstOf_16 rfl (fun q6 => ?_) (fun q6 => ?_)
      · have r7 : Ra 3 5 a1 := rb_ne_lo r5 rl_2 q6 (by decide)
        refine z_iloadn zh dX9_firstOf_23 rfl ?_
        refine z_iconst zh dX9_firstOf_24 ki_3 ?_
        refine z_icmp_ne (tgt := 32) zh dX9_firstOf_25 rfl (fun q8 => ?_) (fun q8 => ?_)
        · have r9 : Ra 4 5 a1 := rb_ne_lo r7 rl_3 q8 (by decide)
          refine z_iloadn zh dX9_firstOf_32 rfl ?_
          refine z_iconst zh dX9_firstOf_33 ki_4 ?_
          refine z_icmp_ne (tgt := 41) zh dX9_firstOf_34 rfl (fun q10 => ?_) (fun q10 => ?_)
          · have r11 : Ra 5 5 a1 := rb_ne_lo r9 rl_4 q10 (by decide)
            refine z_bipush zh dX9_firstOf_41 kb_10 ?_
            exact z_iret zh dX9_firstOf_43 ⟨_, rfl, rfl, rfl, (ra_w rl_10 (by decide) (by decide))⟩
          · have r12 := rb_eq (u := 4) (v := 4) r9 rl_4 q10 (by decide) (by decide)
            refine z_iconst zh dX9_firstOf_37 ki_1 ?_
            refine z_goto (tgt := 43) zh dX9_firstOf_38 rfl ?_
            exact z_iret zh dX9_firstOf_43 ⟨_, rfl, rfl, rfl, (ra_w rl_1 (by decide) (by decide))⟩
        · have r13 := rb_eq (u := 3) (v := 3) r7 rl_3 q8 (by decide) (by decide)
          refine z_iconst zh dX9_firstOf_28 ki_3 ?_
          refine z_goto (tgt := 43) zh dX9_firstOf_29 rfl ?_
          exact z_iret zh dX9_firstOf_43 ⟨_, rfl, rfl, rfl, (ra_w rl_3 (by decide) (by decide))⟩
      · have r14 := rb_eq (u := 2) (v := 2) r5 rl_2 q6 (by decide) (by decide)
        refine z_iconst zh dX9_firstOf_19 ki_2 ?_
        refine z_goto (tgt := 43) zh dX9_firstOf_20 rfl ?_
        exact z_iret zh dX9_firstOf_43 ⟨_, rfl, rfl, rfl, (ra_w rl_2 (by decide) (by decide))⟩
  · have r15 := rb_eq (u := 0) (v := 0) ha1 ra_z q1 (by decide) (by decide)
    refine z_bipush zh dX9_firstOf_4 kb_6 ?_
    refine z_goto (tgt := 43) zh dX9_firstOf_6 rfl ?_
    exact z_iret zh dX9_firstOf_43 ⟨_, rfl, rfl, rfl, (ra_w rl_6 (by decide) (by decide))⟩
set_option maxRecDepth 20000 in
theorem s_X9_settingOf (g : GE) {sp : Nat → Nat → Bool} {σ : Iv} {iv : Iv} {lv : Lv} {a1 : Int32} (ha1 : Ra 0 5 a1) (hG : SI sp σ iv)  : ConI g yX9_settingOf cX9_settingOf 2 (some .int) 2 [rf g 551, .int a1] iv lv (fun r iv' lv' => iv = iv' ∧ lv = lv' ∧ True) := by
  refine con_intro (own := "RollingNetsModel") (by decide +kernel) rfl (Nat.le_of_ble_eq_true rfl) (L0 := [some (rf g 551), some (.int a1)]) rfl (fun Z zh => ?_)
  refine z_aloadnR zh dX9_settingOf_0 rfl ?_
  refine z_getf zh fl_Y_7 dX9_settingOf_1 ck_Y rfl rfl ?_
  refine z_iloadn zh dX9_settingOf_4 rfl ?_
  refine y_iald zh ck_now dX9_settingOf_5 ha1 (by decide) (by decide) (fun x1 ex1 => ?_)
  refine z_aloadnR zh dX9_settingOf_6 rfl ?_
  refine z_iloadn zh dX9_settingOf_7 rfl ?_
  refine z_callVI zh mv_Y_83 dX9_settingOf_8 ck_Y rfl (s_X9_firstOf g ha1 hG) ⟨Nat.le_of_ble_eq_true rfl, Nat.le_of_ble_eq_true rfl⟩ rfl rfl (Nat.le_of_ble_eq_true rfl) ?_
  rintro x2 _ _ ⟨rfl, rfl, hx2⟩
  refine y_iaddT zh dX9_settingOf_11 (fun x3 => ?_)
  exact z_iret zh dX9_settingOf_12 ⟨_, rfl, rfl, rfl, trivial⟩
set_option maxRecDepth 20000 in
theorem s_X9_trades (g : GE) {sp : Nat → Nat → Bool} {σ : Iv} {iv : Iv} {lv : Lv} {a1 : Int32} {a2 : Int32} {a3 : Int32} {a4 : Int32} {a5 : Int32} {a6 : Int32} (ha6 : Ra (-2147483648) 1 a6) (hG : SI sp σ iv) (hq : Sq sp) : ConI g yX9_trades cX9_trades 8 (some .int) 3 [rf g 551, .int a1, .int a2, .int a3, .int a4, .int a5, .int a6] iv lv (fun r iv lv => SI sp σ iv ∧ Ra (-1) 199 r) := by
  refine con_intro (own := "RollingNetsModel") (by decide +kernel) rfl (Nat.le_of_ble_eq_true rfl) (L0 := [some (rf g 551), some (.int a1), some (.int a2), some (.int a3), some (.int a4), some (.int a5), some (.int a6), none]) rfl (fun Z zh => ?_)
  refine z_aloadnR zh dX9_trades_0 rfl ?_
  refine z_iloadn zh dX9_trades_1 rfl ?_
  refine z_callVI zh mv_Y_90 dX9_trades_2 ck_Y rfl (s_X9_isMember g  hG) ⟨Nat.le_of_ble_eq_true rfl, Nat.le_of_ble_eq_true rfl⟩ rfl rfl (Nat.le_of_ble_eq_true rfl) ?_
  rintro x1 _ _ ⟨rfl, rfl, hx1, hz2⟩
  refine z_if_eq (tgt := 68) zh dX9_trades_5 rfl (fun q3 => ?_) (fun q3 => ?_)
  · have r4 := rb_eq (u := 0) (v := 0) hx1 ra_z q3 (by decide) (by decide)
    refine z_iconst zh dX9_trades_68 ki_m1 ?_
    exact z_iret zh dX9_trades_69 ⟨_, rfl, hG, (ra_w rl_n1 (by decide) (by decide))⟩
  · have r5 : Ra 1 1 x1 := rb_ne_lo hx1 ra_z q3 (by decide)
    have r6 : Ra 0 11 a1 := (hz2 q3)
    refine z_aloadnR zh dX9_trades_8 rfl ?_
    refine z_iloadn zh dX9_trades_9 rfl ?_
    refine z_callVI zh mv_Y_90 dX9_trades_10 ck_Y rfl (s_X9_isMember g  hG) ⟨Nat.le_of_ble_eq_true rfl, Nat.le_of_ble_eq_true rfl⟩ rfl rfl (Nat.le_of_ble_eq_true rfl) ?_
    rintro x7 _ _ ⟨rfl, rfl, hx7, hz8⟩
    refine z_if_eq (tgt := 68) zh dX9_trades_13 rfl (fun q9 => ?_) (fun q9 => ?_)
    · have r10 := rb_eq (u := 0) (v := 0) hx7 ra_z q9 (by decide) (by decide)
      refine z_iconst zh dX9_trades_68 ki_m1 ?_
      exact z_iret zh dX9_trades_69 ⟨_, rfl, hG, (ra_w rl_n1 (by decide) (by decide))⟩
    · have r11 : Ra 1 1 x7 := rb_ne_lo hx7 ra_z q9 (by decide)
      have r12 : Ra 0 11 a2 := (hz8 q9)
      refine z_iloadn zh dX9_trades_16 rfl ?_
      refine z_iloadn zh dX9_trades_17 rfl ?_
      refine z_icmp_eq (tgt := 68) zh dX9_trades_18 rfl (fun q13 => ?_) (fun q13 => ?_)
      · refine z_iconst zh dX9_trades_68 ki_m1 ?_
        exact z_iret zh dX9_trades_69 ⟨_, rfl, hG, (ra_w rl_n1 (by decide) (by decide))⟩
      · refine z_aloadnR zh dX9_trades_21 rfl ?_
        refine z_iloadn zh dX9_trades_22 rfl ?_
        refine z_callVI zh mv_Y_94 dX9_trades_23 ck_Y rfl (s_X9_isIssue g  hG) ⟨Nat.le_of_ble_eq_true rfl, Nat.le_of_ble_eq_true rfl⟩ rfl rfl (Nat.le_of_ble_eq_true rfl) ?_
        rintro x15 _ _ ⟨rfl, rfl, hx15, hz16⟩
        refine z_if_eq (tgt := 68) zh dX9_trades_26 rfl (fun q17 => ?_) (fun q17 => ?_)
        · have r18 := rb_eq (u := 0) (v := 0) hx15 ra_z q17 (by decide) (by decide)
          refine z_iconst zh dX9_trades_68 ki_m1 ?_
          exact z_iret zh dX9_trades_69 ⟨_, rfl, hG, (ra_w rl_n1 (by decide) (by decide))⟩
        · have r19 : Ra 1 1 x15 := rb_ne_lo hx15 ra_z q17 (by decide)
          have r20 : Ra 0 5 a3 := (hz16 q17)
          refine z_aloadnR zh dX9_trades_29 rfl ?_
          refine z_iload zh dX9_trades_30 rfl ?_
          refine z_iconst zh dX9_trades_32 ki_1 ?_
          refine z_sipush zh dX9_trades_33 ks_9999 ?_
          refine z_callVI zh mv_Y_79 dX9_trades_36 ck_Y rfl (s_X9_isIn g) ⟨Nat.le_of_ble_eq_true rfl, Nat.le_of_ble_eq_true rfl⟩ rfl rfl (Nat.le_of_ble_eq_true rfl) ?_
          rintro x21 _ _ ⟨rfl, rfl, hx21, hz22⟩
          refine z_if_eq (tgt := 68) zh dX9_trades_39 rfl (fun q23 => ?_) (fun q23 => ?_)
          · have r24 := rb_eq (u := 0) (v := 0) hx21 ra_z q23 (by decide) (by decide)
            refine z_iconst zh dX9_trades_68 ki_m1 ?_
            exact z_iret zh dX9_trades_69 ⟨_, rfl, hG, (ra_w rl_n1 (by decide) (by decide))⟩
          · have r25 : Ra 1 1 x21 := rb_ne_lo hx21 ra_z q23 (by decide)
            have r26 : Ra 1 9999 a4 := (rb_in rl_1 rl_9999 (hz22 q23))
            refine z_aloadnR zh dX9_trades_42 rfl ?_
            refine z_iload zh dX9_trades_43 rfl ?_
            refine z_iconst zh dX9_trades_45 ki_1 ?_
            refine z_sipush zh dX9_trades_46 ks_9999 ?_
            refine z_callVI zh mv_Y_79 dX9_trades_49 ck_Y rfl (s_X9_isIn g) ⟨Nat.le_of_ble_eq_true rfl, Nat.le_of_ble_eq_true rfl⟩ rfl rfl (Nat.le_of_ble_eq_true rfl) ?_
            rintro x27 _ _ ⟨rfl, rfl, hx27, hz28⟩
            refine z_if_eq (tgt := 68) zh dX9_trades_52 rfl (fun q29 => ?_) (fun q29 => ?_)
            · have r30 := rb_eq (u := 0) (v := 0) hx27 ra_z q29 (by decide) (by decide)
              refine z_iconst zh dX9_trades_68 ki_m1 ?_
              exact z_iret zh dX9_trades_69 ⟨_, rfl, hG, (ra_w rl_n1 (by decide) (by decide))⟩
            · have r31 : Ra 1 1 x27 := rb_ne_lo hx27 ra_z q29 (by decide)
              have r32 : Ra 1 9999 a5 := (rb_in rl_1 rl_9999 (hz28 q29))
              refine z_aloadnR zh dX9_trades_55 rfl ?_
              refine z_getf zh fl_Y_7 dX9_trades_56 ck_Y rfl rfl ?_
              refine z_bipush zh dX9_trades_59 kb_7 ?_
              refine y_ialdN zh ck_now dX9_trades_61 (by decide) (fun x33 ex33 => ?_)
              have hx33 : Ra 0 200 x33 := ra_of ex33 (nr_l hG 7 rfl)
              refine z_sipush zh dX9_trades_62 ks_200 ?_
              refine z_icmp_ne (tgt := 70) zh dX9_trades_65 rfl (fun q34 => ?_) (fun q34 => ?_)
              · have r35 : Ra 0 199 x33 := rb_ne_hi hx33 rl_200 q34 (by decide)
                refine z_aloadnR zh dX9_trades_70 rfl ?_
                refine z_aloadnR zh dX9_trades_71 rfl ?_
                refine z_getf zh fl_Y_7 dX9_trades_72 ck_Y rfl rfl ?_
                refine z_bipush zh dX9_trades_75 kb_7 ?_
                refine z_ialdE (x := x33) zh ck_now dX9_trades_77 (by decide) ex33 ?_
                refine z_callVI zh mv_Y_141 dX9_trades_78 ck_Y rfl (s_X9_tradeAt g r35 hG) ⟨Nat.le_of_ble_eq_true rfl, Nat.le_of_ble_eq_true rfl⟩ rfl rfl (Nat.le_of_ble_eq_true rfl) ?_
                rintro x36 _ _ ⟨rfl, rfl, hx36, hc36⟩
                refine z_istore zh dX9_trades_81 (by decide) (L' := [some (rf g 551), some (.int a1), some (.int a2), some (.int a3), some (.int a4), some (.int a5), some (.int a6), some (.int x36)]) rfl ?_
                refine z_aloadnR zh dX9_trades_83 rfl ?_
                refine z_getf zh fl_Y_7 dX9_trades_84 ck_Y rfl rfl ?_
                refine z_iload zh dX9_trades_87 rfl ?_
                refine z_iconst zh dX9_trades_89 ki_0 ?_
                refine y_iadd zh dX9_trades_90 hx36 rl_0 (u := 15110) (v := 16702) rfl rfl (by decide) (by decide) (fun x37 hc37 hx37 => ?_)
                refine z_iloadn zh dX9_trades_91 rfl ?_
                refine z_iast zh ck_now dX9_trades_92 (ra_in hx37 (by decide) (by decide)) ?_
                have hG : SI sp σ (upI iv 552 x37.toNatClampNeg a1) := (nw_t01 hG (x33.toInt * 1) (by have := r35.1; have := r35.2; have := rl_0.1; have := rl_0.2; omega) (by have := r35.1; have := r35.2; have := rl_0.1; have := rl_0.2; omega) (by have := r35.1; have := r35.2; have := rl_0.1; have := rl_0.2; omega) r6)
                have em38 := (upI_ne (iv := iv) (k := 552) (j := x37.toNatClampNeg) (x := a1) (a := 552) (b := 7) (Or.inr (ne_cl hx37 (by decide) (Or.inl (by decide))))).trans ex33
                generalize upI iv 552 x37.toNatClampNeg a1 = iv at hG em38 ⊢
                refine z_aloadnR zh dX9_trades_93 rfl ?_
                refine z_getf zh fl_Y_7 dX9_trades_94 ck_Y rfl rfl ?_
                refine z_iload zh dX9_trades_97 rfl ?_
                refine z_iconst zh dX9_trades_99 ki_1 ?_
                refine y_iadd zh dX9_trades_100 hx36 rl_1 (u := 15111) (v := 16703) rfl rfl (by decide) (by decide) (fun x39 hc39 hx39 => ?_)
                refine z_iloadn zh dX9_trades_101 rfl ?_
                refine z_iast zh ck_now dX9_trades_102 (ra_in hx39 (by decide) (by decide)) ?_
                have hG : SI sp σ (upI iv 552 x39.toNatClampNeg a2) := (nw_t01 hG (x33.toInt * 1) (by have := r35.1; have := r35.2; have := rl_1.1; have := rl_1.2; omega) (by have := r35.1; have := r35.2; have := rl_1.1; have := rl_1.2; omega) (by have := r35.1; have := r35.2; have := rl_1.1; have := rl_1.2; omega) r12)
                have em40 := (upI_ne (iv := iv) (k := 552) (j := x39.toNatClampNeg) (x := a2) (a := 552) (b := 7) (Or.inr (ne_cl hx39 (by decide) (Or.inl (by decide))))).trans em38
                generalize upI iv 552 x39.toNatClampNeg a2 = iv at hG em40 ⊢
                refine z_aloadnR zh dX9_trades_103 rfl ?_
                refine z_getf zh fl_Y_7 dX9_trades_104 ck_Y rfl rfl ?_
                refine z_iload zh dX9_trades_107 rfl ?_
                refine z_iconst zh dX9_trades_109 ki_2 ?_
                refine y_iadd zh dX9_trades_110 hx36 rl_2 (u := 15112) (v := 16704) rfl rfl (by decide) (by decide) (fun x41 hc41 hx41 => ?_)
                refine z_iloadn zh dX9_trades_111 rfl ?_
                refine z_iast zh ck_now dX9_trades_112 (ra_in hx41 (by decide) (by decide)) ?_
                have hG : SI sp σ (upI iv 552 x41.toNatClampNeg a3) := (nw_t2 hG (x33.toInt * 1) (by have := r35.1; have := r35.2; have := rl_2.1; have := rl_2.2; omega) (by have := r35.1; have := r35.2; have := rl_2.1; have := rl_2.2; omega) (by have := r35.1; have := r35.2; have := rl_2.1; have := rl_2.2; omega) r20)
                have em42 := (upI_ne (iv := iv) (k := 552) (j := x41.toNatClampNeg) (x := a3) (a := 552) (b := 7) (Or.inr (ne_cl hx41 (by decide) (Or.inl (by decide))))).trans em40
                generalize upI iv 552 x41.toNatClampNeg a3 = iv at hG em42 ⊢
                refine z_aloadnR zh dX9_trades_113 rfl ?_
                refine z_getf zh fl_Y_7 dX9_trades_114 ck_Y rfl rfl ?_
                refine z_iload zh dX9_trades_117 rfl ?_
                refine z_iconst zh dX9_trades_119 ki_3 ?_
                refine y_iadd zh dX9_trades_120 hx36 rl_3 (u := 15113) (v := 16705) rfl rfl (by decide) (by decide) (fun x43 hc43 hx43 => ?_)
                refine z_iload zh dX9_trades_121 rfl ?_
                refine z_iast zh ck_now dX9_trades_123 (ra_in hx43 (by decide) (by decide)) ?_
                have hG : SI sp σ (upI iv 552 x43.toNatClampNeg a4) := (nw_t hG (x33.toInt * 1) (by have := r35.1; have := r35.2; have := rl_3.1; have := rl_3.2; omega) (by have := r35.1; have := r35.2; have := rl_3.1; have := rl_3.2; omega) (by have := r35.1; have := r35.2; have := rl_3.1; have := rl_3.2; omega))
                have em44 := (upI_ne (iv := iv) (k := 552) (j := x43.toNatClampNeg) (x := a4) (a := 552) (b := 7) (Or.inr (ne_cl hx43 (by decide) (Or.inl (by decide))))).trans em42
                generalize upI iv 552 x43.toNatClampNeg a4 = iv at hG em44 ⊢
                refine z_aloadnR zh dX9_trades_124 rfl ?_
                refine z_getf zh fl_Y_7 dX9_trades_125 ck_Y rfl rfl ?_
                refine z_iload zh dX9_trades_128 rfl ?_
                refine z_iconst zh dX9_trades_130 ki_4 ?_
                refine y_iadd zh dX9_trades_131 hx36 rl_4 (u := 15114) (v := 16706) rfl rfl (by decide) (by decide) (fun x45 hc45 hx45 => ?_)
                refine z_iload zh dX9_trades_132 rfl ?_
                refine z_iast zh ck_now dX9_trades_134 (ra_in hx45 (by decide) (by decide)) ?_
                have hG : SI sp σ (upI iv 552 x45.toNatClampNeg a5) := (nw_t hG (x33.toInt * 1) (by have := r35.1; have := r35.2; have := rl_4.1; have := rl_4.2; omega) (by have := r35.1; have := r35.2; have := rl_4.1; have := rl_4.2; omega) (by have := r35.1; have := r35.2; have := rl_4.1; have := rl_4.2; omega))
                have em46 := (upI_ne (iv := iv) (k := 552) (j := x45.toNatClampNeg) (x := a5) (a := 552) (b := 7) (Or.inr (ne_cl hx45 (by decide) (Or.inl (by decide))))).trans em44
                generalize upI iv 552 x45.toNatClampNeg a5 = iv at hG em46 ⊢
                refine z_aloadnR zh dX9_trades_135 rfl ?_
                refine z_getf zh fl_Y_7 dX9_trades_136 ck_Y rfl rfl ?_
                refine z_iload zh dX9_trades_139 rfl ?_
                refine z_iconst zh dX9_trades_141 ki_5 ?_
                refine y_iadd zh dX9_trades_142 hx36 rl_5 (u := 15115) (v := 16707) rfl rfl (by decide) (by decide) (fun x47 hc47 hx47 => ?_)
                refine z_iload zh dX9_trades_143 rfl ?_
                refine z_iast zh ck_now dX9_trades_145 (ra_in hx47 (by decide) (by decide)) ?_
                have hG : SI sp σ (upI iv 552 x47.toNatClampNeg a6) := (nw_t hG (x33.toInt * 1) (by have := r35.1; have := r35.2; have := rl_5.1; have := rl_5.2; omega) (by have := r35.1; have := r35.2; have := rl_5.1; have := rl_5.2; omega) (by have := r35.1; have := r35.2; have := rl_5.1; have := rl_5.2; omega))
                have em48 := (upI_ne (iv := iv) (k := 552) (j := x47.toNatClampNeg) (x := a6) (a := 552) (b := 7) (Or.inr (ne_cl hx47 (by decide) (Or.inl (by decide))))).trans em46
                generalize upI iv 552 x47.toNatClampNeg a6 = iv at hG em48 ⊢
                refine z_aloadnR zh dX9_trades_146 rfl ?_
                refine z_getf zh fl_Y_7 dX9_trades_147 ck_Y rfl rfl ?_
                refine z_iload zh dX9_trades_150 rfl ?_
                refine z_bipush zh dX9_trades_152 kb_6 ?_
                refine y_iadd zh dX9_trades_154 hx36 rl_6 (u := 15116) (v := 16708) rfl rfl (by decide) (by decide) (fun x49 hc49 hx49 => ?_)
                refine z_aloadnR zh dX9_trades_155 rfl ?_
                refine z_getf zh fl_Y_7 dX9_trades_156 ck_Y rfl rfl ?_
                refine z_bipush zh dX9_trades_159 kb_6 ?_
                refine y_ialdN zh ck_now dX9_trades_161 (by decide) (fun x50 ex50 => ?_)
                have hx50 : Ra 0 99 x50 := ra_of ex50 (nr_l hG 6 rfl)
                refine z_aloadnR zh dX9_trades_162 rfl ?_
                refine z_iconst zh dX9_trades_163 ki_1 ?_
                refine z_callVI zh mv_Y_144 dX9_trades_164 ck_Y rfl (s_X9_settingOf g (ra_w rl_1 (by decide) (by decide)) hG) ⟨Nat.le_of_ble_eq_true rfl, Nat.le_of_ble_eq_true rfl⟩ rfl rfl (Nat.le_of_ble_eq_true rfl) ?_
                rintro x51 _ _ ⟨rfl, rfl, _⟩
                refine y_iaddT zh dX9_trades_167 (fun x52 => ?_)
                refine z_iast zh ck_now dX9_trades_168 (ra_in hx49 (by decide) (by decide)) ?_
                have hG : SI sp σ (upI iv 552 x49.toNatClampNeg x52) := (nw_t hG (x33.toInt * 1) (by have := r35.1; have := r35.2; have := rl_6.1; have := rl_6.2; omega) (by have := r35.1; have := r35.2; have := rl_6.1; have := rl_6.2; omega) (by have := r35.1; have := r35.2; have := rl_6.1; have := rl_6.2; omega))
                have em53 := (upI_ne (iv := iv) (k := 552) (j := x49.toNatClampNeg) (x := x52) (a := 552) (b := 7) (Or.inr (ne_cl hx49 (by decide) (Or.inl (by decide))))).trans em48
                have em54 := (upI_ne (iv := iv) (k := 552) (j := x49.toNatClampNeg) (x := x52) (a := 552) (b := 6) (Or.inr (ne_cl hx49 (by decide) (Or.inl (by decide))))).trans ex50
                generalize upI iv 552 x49.toNatClampNeg x52 = iv at hG em53 em54 ⊢
                refine z_aloadnR zh dX9_trades_169 rfl ?_
                refine z_getf zh fl_Y_7 dX9_trades_170 ck_Y rfl rfl ?_
                refine z_iload zh dX9_trades_173 rfl ?_
                refine z_bipush zh dX9_trades_175 kb_7 ?_
                refine y_iadd zh dX9_trades_177 hx36 rl_7 (u := 15117) (v := 16709) rfl rfl (by decide) (by decide) (fun x55 hc55 hx55 => ?_)
                refine z_iload zh dX9_trades_178 rfl ?_
                refine z_iast zh ck_now dX9_trades_180 (ra_in hx55 (by decide) (by decide)) ?_
                have hG : SI sp σ (upI iv 552 x55.toNatClampNeg a4) := (nw_t hG (x33.toInt * 1) (by have := r35.1; have := r35.2; have := rl_7.1; have := rl_7.2; omega) (by have := r35.1; have := r35.2; have := rl_7.1; have := rl_7.2; omega) (by have := r35.1; have := r35.2; have := rl_7.1; have := rl_7.2; omega))
                have em56 := (upI_ne (iv := iv) (k := 552) (j := x55.toNatClampNeg) (x := a4) (a := 552) (b := 7) (Or.inr (ne_cl hx55 (by decide) (Or.inl (by decide))))).trans em53
                have em57 := (upI_ne (iv := iv) (k := 552) (j := x55.toNatClampNeg) (x := a4) (a := 552) (b := 6) (Or.inr (ne_cl hx55 (by decide) (Or.inl (by decide))))).trans em54
                generalize upI iv 552 x55.toNatClampNeg a4 = iv at hG em56 em57 ⊢
                refine z_aloadnR zh dX9_trades_181 rfl ?_
                refine z_getf zh fl_Y_7 dX9_trades_182 ck_Y rfl rfl ?_
                refine z_bipush zh dX9_trades_185 kb_7 ?_
                refine z_aloadnR zh dX9_trades_187 rfl ?_
                refine z_getf zh fl_Y_7 dX9_trades_188 ck_Y rfl rfl ?_
                refine z_bipush zh dX9_trades_191 kb_7 ?_
                refine z_ialdE (x := x33) zh ck_now dX9_trades_193 (by decide) em56 ?_
                refine z_iconst zh dX9_trades_194 ki_1 ?_
                refine y_iadd zh dX9_trades_195 r35 rl_1 (u := 1) (v := 200) rfl rfl (by decide) (by decide) (fun x58 hc58 hx58 => ?_)
                refine z_iastN (j := 7) zh ck_now dX9_trades_196 (by decide) ?_
                have hG : SI sp σ (upI iv 552 7 x58) := (nw_lq hG hq (j := 7) (by decide) (by decide) (by decide) (rx_some (ra_w hx58 (by decide) (by decide))))
                have em59 := (upI_ne (iv := iv) (k := 552) (j := 7) (x := x58) (a := 552) (b := 6) (Or.inr (by decide))).trans em57
                have em60 : upI iv 552 7 x58 552 7 = x58 := by rw [upI_at, if_pos ⟨rfl, rfl⟩]
                generalize upI iv 552 7 x58 = iv at hG em59 em60 ⊢
                refine z_aloadnR zh dX9_trades_197 rfl ?_
                refine z_getf zh fl_Y_7 dX9_trades_198 ck_Y rfl rfl ?_
                refine z_bipush zh dX9_trades_201 kb_7 ?_
                refine z_ialdE (x := x58) zh ck_now dX9_trades_203 (by decide) em60 ?_
                refine z_iconst zh dX9_trades_204 ki_1 ?_
                refine y_isub zh dX9_trades_205 hx58 rl_1 (u := 0) (v := 199) rfl rfl (by decide) (by decide) (fun x61 hc61 hx61 => ?_)
                exact z_iret zh dX9_trades_206 ⟨_, rfl, hG, (ra_w hx61 (by decide) (by decide))⟩
              · have r62 := rb_eq (u := 200) (v := 200) hx33 rl_200 q34 (by decide) (by decide)
                refine z_iconst zh dX9_trades_68 ki_m1 ?_
                exact z_iret zh dX9_trades_69 ⟨_, rfl, hG, (ra_w rl_n1 (by decide) (by decide))⟩
set_option maxRecDepth 20000 in
theorem s_X9_apart (g : GE) {sp : Nat → Nat → Bool} {σ : Iv} {iv : Iv} {lv : Lv} {a1 : Int32} {a2 : Int32} {a3 : Int32} {a4 : Int32} {a5 : Int32}  (hG : SI sp σ iv) (hq : Sq sp) : ConI g yX9_apart cX9_apart 6 (some .int) 4 [rf g 551, .int a1, .int a2, .int a3, .int a4, .int a5] iv lv (fun r iv lv => SI sp σ iv ∧ Ra (-1) 199 r) := by
  refine con_intro (own := "RollingNetsModel") (by decide +kernel) rfl (Nat.le_of_ble_eq_true rfl) (L0 := [some (rf g 551), some (.int a1), some (.int a2), some (.int a3), some (.int a4), some (.int a5)]) rfl (fun Z zh => ?_)
  refine z_aloadnR zh dX9_apart_0 rfl ?_
  refine z_iconst zh dX9_apart_1 ki_0 ?_
  refine z_putI zh fl_Y_58 dX9_apart_2 ck_Y rfl rfl (Nat.le_of_ble_eq_true rfl) (Or.inl rfl) ?_
  have hG : SI sp σ (upI iv 551 0 (nI 0)) := si_w (k := 551) (j := 0) hG (by decide) (by decide) (sp_no hG ((spc_Y (q := 0)).trans rfl)) (fun lo hi q => (rx_none rfl) lo hi ((rg_Y (q := 0)).symm.trans q))
  have em1 : upI iv 551 0 (nI 0) 551 0 = nI 0 := by rw [upI_at, if_pos ⟨rfl, rfl⟩]
  generalize upI iv 551 0 (nI 0) = iv at hG em1 ⊢
  refine z_aloadnR zh dX9_apart_5 rfl ?_
  refine z_iloadn zh dX9_apart_6 rfl ?_
  refine z_iloadn zh dX9_apart_7 rfl ?_
  refine z_iloadn zh dX9_apart_8 rfl ?_
  refine z_iload zh dX9_apart_9 rfl ?_
  refine z_iload zh dX9_apart_11 rfl ?_
  refine z_iconst zh dX9_apart_13 ki_1 ?_
  refine z_callVI zh mv_Y_147 dX9_apart_14 ck_Y rfl (s_X9_trades g (ra_w rl_1 (by decide) (by decide)) hG hq) ⟨Nat.le_of_ble_eq_true rfl, Nat.le_of_ble_eq_true rfl⟩ rfl rfl (Nat.le_of_ble_eq_true rfl) ?_
  rintro x2 iv lv ⟨hG, hx2⟩
  exact z_iret zh dX9_apart_17 ⟨_, rfl, hG, hx2⟩
set_option maxRecDepth 20000 in
theorem s_X9_assignedTo (g : GE) {sp : Nat → Nat → Bool} {σ : Iv} {iv : Iv} {lv : Lv} {a1 : Int32} {a2 : Int32} (ha1 : Ra 0 11 a1) (ha2 : Ra 0 5 a2) (hG : SI sp σ iv)  : ConI g yX9_assignedTo cX9_assignedTo 5 (some .int) 4 [rf g 551, .int a1, .int a2] iv lv (fun r iv' lv' => iv = iv' ∧ lv = lv' ∧ True) := by
  refine con_intro (own := "RollingNetsModel") (by decide +kernel) rfl (Nat.le_of_ble_eq_true rfl) (L0 := [some (rf g 551), some (.int a1), some (.int a2), none, none]) rfl (fun Z zh => ?_)
  refine z_iconst zh dX9_assignedTo_0 ki_0 ?_
  refine z_istoren zh dX9_assignedTo_1 (by decide) (L' := [some (rf g 551), some (.int a1), some (.int a2), some (.int (nI 0)), none]) rfl ?_
  refine z_iconst zh dX9_assignedTo_2 ki_0 ?_
  refine z_istore zh dX9_assignedTo_3 (by decide) (L' := [some (rf g 551), some (.int a1), some (.int a2), some (.int (nI 0)), some (.int (nI 0))]) rfl ?_
  have J5 : ∀ (n : Nat) (x1 : Int32) (x2 : Int32), Ra 0 60 x2 → 60 - x2.toInt < (n : Int) → Z 5 [some (rf g 551), some (.int a1), some (.int a2), some (.int x1), some (.int x2)] [] iv lv := by
    intro n
    induction n with
    | zero => intro x1 x2 hx2 hn5; exact (ms_uz hx2 hn5).elim
    | succ n ih5 =>
      intro x1 x2 hx2 hn5
      refine z_iload zh dX9_assignedTo_5 rfl ?_
      refine z_aloadnR zh dX9_assignedTo_7 rfl ?_
      refine z_getf zh fl_Y_7 dX9_assignedTo_8 ck_Y rfl rfl ?_
      refine z_bipush zh dX9_assignedTo_11 kb_8 ?_
      refine y_ialdN zh ck_now dX9_assignedTo_13 (by decide) (fun x3 ex3 => ?_)
      have hx3 : Ra 0 60 x3 := ra_of ex3 (nr_l hG 8 rfl)
      refine z_icmp_ge (tgt := 46) zh dX9_assignedTo_14 rfl (fun q4 => ?_) (fun q4 => ?_)
      · refine z_iloadn zh dX9_assignedTo_46 rfl ?_
        exact z_iret zh dX9_assignedTo_47 ⟨_, rfl, rfl, rfl, trivial⟩
      · have r5 : Ra 0 59 x2 := rb_lt_l hx3 hx2 (rb_nle q4) (by decide)
        have r6 : Ra 1 60 x3 := rb_lt_r hx2 hx3 (rb_nle q4) (by decide)
        refine z_aloadnR zh dX9_assignedTo_17 rfl ?_
        refine z_iload zh dX9_assignedTo_18 rfl ?_
        refine z_iloadn zh dX9_assignedTo_20 rfl ?_
        refine z_callVI zh mv_Y_160 dX9_assignedTo_21 ck_Y rfl (s_X9_isOpenNet g r5 ha2 hG) ⟨Nat.le_of_ble_eq_true rfl, Nat.le_of_ble_eq_true rfl⟩ rfl rfl (Nat.le_of_ble_eq_true rfl) ?_
        rintro x7 _ _ ⟨rfl, rfl, hx7⟩
        have J40 : ∀ (x8 : Int32), Z 40 [some (rf g 551), some (.int a1), some (.int a2), some (.int x8), some (.int x2)] [] iv lv := by
          intro x8
          refine y_iinc (L' := fun z => [some (rf g 551), some (.int a1), some (.int a2), some (.int x8), some (.int z)]) zh dX9_assignedTo_40 (by decide) rfl (by decide +kernel) r5 (u := 1) (v := 60) rfl rfl (by decide) (by decide) (fun _ => rfl) (fun x9 hc9 hx9 => ?_)
          refine z_goto (tgt := 5) zh dX9_assignedTo_43 rfl ?_
          exact ih5 x8 x9 (ra_w hx9 (by decide) (by decide)) (ms_up hc9 (by decide) hn5)
        refine z_if_eq (tgt := 40) zh dX9_assignedTo_24 rfl (fun q10 => ?_) (fun q10 => ?_)
        · have r11 := rb_eq (u := 0) (v := 0) hx7 ra_z q10 (by decide) (by decide)
          exact J40 x1
        · have r12 : Ra 1 1 x7 := rb_ne_lo hx7 ra_z q10 (by decide)
          refine z_iloadn zh dX9_assignedTo_27 rfl ?_
          refine z_aloadnR zh dX9_assignedTo_28 rfl ?_
          refine z_iload zh dX9_assignedTo_29 rfl ?_
          refine z_bipush zh dX9_assignedTo_31 kb_8 ?_
          refine z_iloadn zh dX9_assignedTo_33 rfl ?_
          refine y_iadd zh dX9_assignedTo_34 rl_8 ha1 (u := 8) (v := 19) rfl rfl (by decide) (by decide) (fun x13 hc13 hx13 => ?_)
          refine z_callVI zh mv_Y_157 dX9_assignedTo_35 ck_Y rfl (s_X9_noticeOf g r5 (ra_w hx13 (by decide) (by decide)) hG) ⟨Nat.le_of_ble_eq_true rfl, Nat.le_of_ble_eq_true rfl⟩ rfl rfl (Nat.le_of_ble_eq_true rfl) ?_
          rintro x14 _ _ ⟨rfl, rfl, z15, ez15, ex14⟩
          refine y_iaddT zh dX9_assignedTo_38 (fun x16 => ?_)
          refine z_istoren zh dX9_assignedTo_39 (by decide) (L' := [some (rf g 551), some (.int a1), some (.int a2), some (.int x16), some (.int x2)]) rfl ?_
          exact J40 x16
  exact J5 61 (nI 0) (nI 0) (ra_w rl_0 (by decide) (by decide)) (ms_u0 rl_0 (by decide))
set_option maxRecDepth 20000 in
theorem s_X9_stockOf (g : GE) {sp : Nat → Nat → Bool} {σ : Iv} {iv : Iv} {lv : Lv} {a1 : Int32} {a2 : Int32} (ha1 : Ra 0 11 a1) (ha2 : Ra 0 5 a2) (hG : SI sp σ iv)  : ConI g yX9_stockOf cX9_stockOf 3 (some .int) 2 [rf g 551, .int a1, .int a2] iv lv (fun r iv' lv' => iv = iv' ∧ lv = lv' ∧ True) := by
  refine con_intro (own := "RollingNetsModel") (by decide +kernel) rfl (Nat.le_of_ble_eq_true rfl) (L0 := [some (rf g 551), some (.int a1), some (.int a2)]) rfl (fun Z zh => ?_)
  refine z_aloadnR zh dX9_stockOf_0 rfl ?_
  refine z_getf zh fl_Y_7 dX9_stockOf_1 ck_Y rfl rfl ?_
  refine z_bipush zh dX9_stockOf_4 kb_60 ?_
  refine z_aloadnR zh dX9_stockOf_6 rfl ?_
  refine z_iloadn zh dX9_stockOf_7 rfl ?_
  refine z_iloadn zh dX9_stockOf_8 rfl ?_
  refine z_callVI zh mv_Y_65 dX9_stockOf_9 ck_Y rfl (s_X9_cellOf g ha1 ha2 hG) ⟨Nat.le_of_ble_eq_true rfl, Nat.le_of_ble_eq_true rfl⟩ rfl rfl (Nat.le_of_ble_eq_true rfl) ?_
  rintro x1 _ _ ⟨rfl, rfl, hx1, hc1⟩
  refine y_iadd zh dX9_stockOf_12 rl_60 hx1 (u := 60) (v := 131) rfl rfl (by decide) (by decide) (fun x2 hc2 hx2 => ?_)
  refine y_iald zh ck_now dX9_stockOf_13 hx2 (by decide) (by decide) (fun x3 ex3 => ?_)
  exact z_iret zh dX9_stockOf_14 ⟨_, rfl, rfl, rfl, trivial⟩
set_option maxRecDepth 20000 in
theorem s_X9_freeOf (g : GE) {sp : Nat → Nat → Bool} {σ : Iv} {iv : Iv} {lv : Lv} {a1 : Int32} {a2 : Int32} (ha1 : Ra 0 11 a1) (ha2 : Ra 0 5 a2) (hG : SI sp σ iv)  : ConI g yX9_freeOf cX9_freeOf 3 (some .int) 3 [rf g 551, .int a1, .int a2] iv lv (fun r iv' lv' => iv = iv' ∧ lv = lv' ∧ True) := by
  refine con_intro (own := "RollingNetsModel") (by decide +kernel) rfl (Nat.le_of_ble_eq_true rfl) (L0 := [some (rf g 551), some (.int a1), some (.int a2)]) rfl (fun Z zh => ?_)
  refine z_aloadnR zh dX9_freeOf_0 rfl ?_
  refine z_aloadnR zh dX9_freeOf_1 rfl ?_
  refine z_getf zh fl_Y_7 dX9_freeOf_2 ck_Y rfl rfl ?_
  refine z_bipush zh dX9_freeOf_5 kb_11 ?_
  refine y_ialdN zh ck_now dX9_freeOf_7 (by decide) (fun x1 ex1 => ?_)
  refine z_iloadn zh dX9_freeOf_8 rfl ?_
  refine z_callVI zh mv_Y_69 dX9_freeOf_9 ck_Y rfl (s_X9_has g ha1 hG) ⟨Nat.le_of_ble_eq_true rfl, Nat.le_of_ble_eq_true rfl⟩ rfl rfl (Nat.le_of_ble_eq_true rfl) ?_
  rintro x2 _ _ ⟨rfl, rfl, hx2⟩
  refine z_if_eq (tgt := 19) zh dX9_freeOf_12 rfl (fun q3 => ?_) (fun q3 => ?_)
  · have r4 := rb_eq (u := 0) (v := 0) hx2 ra_z q3 (by decide) (by decide)
    refine z_aloadnR zh dX9_freeOf_19 rfl ?_
    refine z_iconst zh dX9_freeOf_20 ki_0 ?_
    refine z_aloadnR zh dX9_freeOf_21 rfl ?_
    refine z_iloadn zh dX9_freeOf_22 rfl ?_
    refine z_iloadn zh dX9_freeOf_23 rfl ?_
    refine z_callVI zh mv_Y_73 dX9_freeOf_24 ck_Y rfl (s_X9_stockOf g ha1 ha2 hG) ⟨Nat.le_of_ble_eq_true rfl, Nat.le_of_ble_eq_true rfl⟩ rfl rfl (Nat.le_of_ble_eq_true rfl) ?_
    rintro x5 _ _ ⟨rfl, rfl, _⟩
    refine z_aloadnR zh dX9_freeOf_27 rfl ?_
    refine z_getf zh fl_Y_7 dX9_freeOf_28 ck_Y rfl rfl ?_
    refine z_sipush zh dX9_freeOf_31 ks_132 ?_
    refine z_aloadnR zh dX9_freeOf_34 rfl ?_
    refine z_iloadn zh dX9_freeOf_35 rfl ?_
    refine z_iloadn zh dX9_freeOf_36 rfl ?_
    refine z_callVI zh mv_Y_65 dX9_freeOf_37 ck_Y rfl (s_X9_cellOf g ha1 ha2 hG) ⟨Nat.le_of_ble_eq_true rfl, Nat.le_of_ble_eq_true rfl⟩ rfl rfl (Nat.le_of_ble_eq_true rfl) ?_
    rintro x6 _ _ ⟨rfl, rfl, hx6, hc6⟩
    refine y_iadd zh dX9_freeOf_40 rl_132 hx6 (u := 132) (v := 203) rfl rfl (by decide) (by decide) (fun x7 hc7 hx7 => ?_)
    refine y_iald zh ck_now dX9_freeOf_41 hx7 (by decide) (by decide) (fun x8 ex8 => ?_)
    refine y_isubT zh dX9_freeOf_42 (fun x9 => ?_)
    refine z_callVI zh mv_Y_76 dX9_freeOf_43 ck_Y rfl (s_X9_greater g  hG) ⟨Nat.le_of_ble_eq_true rfl, Nat.le_of_ble_eq_true rfl⟩ rfl rfl (Nat.le_of_ble_eq_true rfl) ?_
    rintro x10 _ _ ⟨rfl, rfl, _⟩
    exact z_iret zh dX9_freeOf_46 ⟨_, rfl, rfl, rfl, trivial⟩
  · have r11 : Ra 1 1 x2 := rb_ne_lo hx2 ra_z q3 (by decide)
    refine z_iconst zh dX9_freeOf_15 ki_0 ?_
    refine z_goto (tgt := 46) zh dX9_freeOf_16 rfl ?_
    exact z_iret zh dX9_freeOf_46 ⟨_, rfl, rfl, rfl, trivial⟩
set_option maxRecDepth 20000 in
theorem s_X9_canLend (g : GE) {sp : Nat → Nat → Bool} {σ : Iv} {iv : Iv} {lv : Lv} {a1 : Int32} {a2 : Int32} (ha1 : Ra 0 11 a1) (ha2 : Ra 0 5 a2) (hG : SI sp σ iv)  : ConI g yX9_canLend cX9_canLend 3 (some .int) 5 [rf g 551, .int a1, .int a2] iv lv (fun r iv' lv' => iv = iv' ∧ lv = lv' ∧ True) := by
  refine con_intro (own := "RollingNetsModel") (by decide +kernel) rfl (Nat.le_of_ble_eq_true rfl) (L0 := [some (rf g 551), some (.int a1), some (.int a2)]) rfl (fun Z zh => ?_)
  refine z_aloadnR zh dX9_canLend_0 rfl ?_
  refine z_iloadn zh dX9_canLend_1 rfl ?_
  refine z_iloadn zh dX9_canLend_2 rfl ?_
  refine z_callVI zh mv_Y_116 dX9_canLend_3 ck_Y rfl (s_X9_isShort g ha1 ha2 hG) ⟨Nat.le_of_ble_eq_true rfl, Nat.le_of_ble_eq_true rfl⟩ rfl rfl (Nat.le_of_ble_eq_true rfl) ?_
  rintro x1 _ _ ⟨rfl, rfl, hx1⟩
  refine z_if_eq (tgt := 13) zh dX9_canLend_6 rfl (fun q2 => ?_) (fun q2 => ?_)
  · have r3 := rb_eq (u := 0) (v := 0) hx1 ra_z q2 (by decide) (by decide)
    refine z_aloadnR zh dX9_canLend_13 rfl ?_
    refine z_iconst zh dX9_canLend_14 ki_0 ?_
    refine z_aloadnR zh dX9_canLend_15 rfl ?_
    refine z_aloadnR zh dX9_canLend_16 rfl ?_
    refine z_iloadn zh dX9_canLend_17 rfl ?_
    refine z_iloadn zh dX9_canLend_18 rfl ?_
    refine z_callVI zh mv_Y_98 dX9_canLend_19 ck_Y rfl (s_X9_freeOf g ha1 ha2 hG) ⟨Nat.le_of_ble_eq_true rfl, Nat.le_of_ble_eq_true rfl⟩ rfl rfl (Nat.le_of_ble_eq_true rfl) ?_
    rintro x4 _ _ ⟨rfl, rfl, _⟩
    refine z_aloadnR zh dX9_canLend_22 rfl ?_
    refine z_getf zh fl_Y_7 dX9_canLend_23 ck_Y rfl rfl ?_
    refine z_sipush zh dX9_canLend_26 ks_204 ?_
    refine z_aloadnR zh dX9_canLend_29 rfl ?_
    refine z_iloadn zh dX9_canLend_30 rfl ?_
    refine z_iloadn zh dX9_canLend_31 rfl ?_
    refine z_callVI zh mv_Y_65 dX9_canLend_32 ck_Y rfl (s_X9_cellOf g ha1 ha2 hG) ⟨Nat.le_of_ble_eq_true rfl, Nat.le_of_ble_eq_true rfl⟩ rfl rfl (Nat.le_of_ble_eq_true rfl) ?_
    rintro x5 _ _ ⟨rfl, rfl, hx5, hc5⟩
    refine y_iadd zh dX9_canLend_35 rl_204 hx5 (u := 204) (v := 275) rfl rfl (by decide) (by decide) (fun x6 hc6 hx6 => ?_)
    refine y_iald zh ck_now dX9_canLend_36 hx6 (by decide) (by decide) (fun x7 ex7 => ?_)
    refine z_aloadnR zh dX9_canLend_37 rfl ?_
    refine z_getf zh fl_Y_7 dX9_canLend_38 ck_Y rfl rfl ?_
    refine z_sipush zh dX9_canLend_41 ks_276 ?_
    refine z_aloadnR zh dX9_canLend_44 rfl ?_
    refine z_iloadn zh dX9_canLend_45 rfl ?_
    refine z_iloadn zh dX9_canLend_46 rfl ?_
    refine z_callVI zh mv_Y_65 dX9_canLend_47 ck_Y rfl (s_X9_cellOf g ha1 ha2 hG) ⟨Nat.le_of_ble_eq_true rfl, Nat.le_of_ble_eq_true rfl⟩ rfl rfl (Nat.le_of_ble_eq_true rfl) ?_
    rintro x8 _ _ ⟨rfl, rfl, hx8, hc8⟩
    refine y_iadd zh dX9_canLend_50 rl_276 hx8 (u := 276) (v := 347) rfl rfl (by decide) (by decide) (fun x9 hc9 hx9 => ?_)
    refine y_iald zh ck_now dX9_canLend_51 hx9 (by decide) (by decide) (fun x10 ex10 => ?_)
    refine y_isubT zh dX9_canLend_52 (fun x11 => ?_)
    refine z_callVI zh mv_Y_131 dX9_canLend_53 ck_Y rfl (s_X9_lesser g  hG) ⟨Nat.le_of_ble_eq_true rfl, Nat.le_of_ble_eq_true rfl⟩ rfl rfl (Nat.le_of_ble_eq_true rfl) ?_
    rintro x12 _ _ ⟨rfl, rfl, _⟩
    refine z_callVI zh mv_Y_76 dX9_canLend_56 ck_Y rfl (s_X9_greater g  hG) ⟨Nat.le_of_ble_eq_true rfl, Nat.le_of_ble_eq_true rfl⟩ rfl rfl (Nat.le_of_ble_eq_true rfl) ?_
    rintro x13 _ _ ⟨rfl, rfl, _⟩
    exact z_iret zh dX9_canLend_59 ⟨_, rfl, rfl, rfl, trivial⟩
  · have r14 : Ra 1 1 x1 := rb_ne_lo hx1 ra_z q2 (by decide)
    refine z_iconst zh dX9_canLend_9 ki_0 ?_
    refine z_goto (tgt := 59) zh dX9_canLend_10 rfl ?_
    exact z_iret zh dX9_canLend_59 ⟨_, rfl, rfl, rfl, trivial⟩
set_option maxRecDepth 20000 in
theorem s_X9_atOf (g : GE) {sp : Nat → Nat → Bool} {σ : Iv} {iv : Iv} {lv : Lv} {a1 : Int32} {a2 : Int32} {a3 : Int32} (ha1 : Ra 0 11 a1) (ha2 : Ra 0 5 a2) (hG : SI sp σ iv)  : ConI g yX9_atOf cX9_atOf 4 (some .int) 6 [rf g 551, .int a1, .int a2, .int a3] iv lv (fun r iv' lv' => iv = iv' ∧ lv = lv' ∧ True) := by
  refine con_intro (own := "RollingNetsModel") (by decide +kernel) rfl (Nat.le_of_ble_eq_true rfl) (L0 := [some (rf g 551), some (.int a1), some (.int a2), some (.int a3)]) rfl (fun Z zh => ?_)
  refine z_iloadn zh dX9_atOf_0 rfl ?_
  refine z_if_ne (tgt := 11) zh dX9_atOf_1 rfl (fun q1 => ?_) (fun q1 => ?_)
  · refine z_iloadn zh dX9_atOf_11 rfl ?_
    refine z_iconst zh dX9_atOf_12 ki_1 ?_
    refine z_icmp_ne (tgt := 23) zh dX9_atOf_13 rfl (fun q2 => ?_) (fun q2 => ?_)
    · refine z_iloadn zh dX9_atOf_23 rfl ?_
      refine z_iconst zh dX9_atOf_24 ki_2 ?_
      refine z_icmp_ne (tgt := 35) zh dX9_atOf_25 rfl (fun q3 => ?_) (fun q3 => ?_)
      · refine z_iloadn zh dX9_atOf_35 rfl ?_
        refine z_iconst zh dX9_atOf_36 ki_3 ?_
        refine z_icmp_ne (tgt := 56) zh dX9_atOf_37 rfl (fun q4 => ?_) (fun q4 => ?_)
        · refine z_iloadn zh dX9_atOf_56 rfl ?_
          refine z_iconst zh dX9_atOf_57 ki_4 ?_
          refine z_icmp_ne (tgt := 77) zh dX9_atOf_58 rfl (fun q5 => ?_) (fun q5 => ?_)
          · refine z_iloadn zh dX9_atOf_77 rfl ?_
            refine z_iconst zh dX9_atOf_78 ki_5 ?_
            refine z_icmp_ne (tgt := 98) zh dX9_atOf_79 rfl (fun q6 => ?_) (fun q6 => ?_)
            · refine z_iloadn zh dX9_atOf_98 rfl ?_
              refine z_bipush zh dX9_atOf_99 kb_6 ?_
              refine z_icmp_ne (tgt := 111) zh dX9_atOf_101 rfl (fun q7 => ?_) (fun q7 => ?_)
              · refine z_iloadn zh dX9_atOf_111 rfl ?_
                refine z_bipush zh dX9_atOf_112 kb_7 ?_
                refine z_icmp_ne (tgt := 138) zh dX9_atOf_114 rfl (fun q8 => ?_) (fun q8 => ?_)
                · refine z_iloadn zh dX9_atOf_138 rfl ?_
                  refine z_bipush zh dX9_atOf_139 kb_8 ?_
                  refine z_icmp_ne (tgt := 153) zh dX9_atOf_141 rfl (fun q9 => ?_) (fun q9 => ?_)
                  · refine z_aloadnR zh dX9_atOf_153 rfl ?_
                    refine z_getf zh fl_Y_7 dX9_atOf_154 ck_Y rfl rfl ?_
                    refine z_sipush zh dX9_atOf_157 ks_19710 ?_
                    refine z_aloadnR zh dX9_atOf_160 rfl ?_
                    refine z_iloadn zh dX9_atOf_161 rfl ?_
                    refine z_iloadn zh dX9_atOf_162 rfl ?_
                    refine z_callVI zh mv_Y_65 dX9_atOf_163 ck_Y rfl (s_X9_cellOf g ha1 ha2 hG) ⟨Nat.le_of_ble_eq_true rfl, Nat.le_of_ble_eq_true rfl⟩ rfl rfl (Nat.le_of_ble_eq_true rfl) ?_
                    rintro x10 _ _ ⟨rfl, rfl, hx10, hc10⟩
                    refine y_iadd zh dX9_atOf_166 rl_19710 hx10 (u := 19710) (v := 19781) rfl rfl (by decide) (by decide) (fun x11 hc11 hx11 => ?_)
                    refine y_iald zh ck_now dX9_atOf_167 hx11 (by decide) (by decide) (fun x12 ex12 => ?_)
                    exact z_iret zh dX9_atOf_168 ⟨_, rfl, rfl, rfl, trivial⟩
                  · have r13 := rb_eq (u := 8) (v := 8) (ra_tt a3) rl_8 q9 (by decide) (by decide)
                    refine z_aloadnR zh dX9_atOf_144 rfl ?_
                    refine z_iloadn zh dX9_atOf_145 rfl ?_
                    refine z_iloadn zh dX9_atOf_146 rfl ?_
                    refine z_callVI zh mv_Y_262 dX9_atOf_147 ck_Y rfl (s_X9_canLend g ha1 ha2 hG) ⟨Nat.le_of_ble_eq_true rfl, Nat.le_of_ble_eq_true rfl⟩ rfl rfl (Nat.le_of_ble_eq_true rfl) ?_
                    rintro x14 _ _ ⟨rfl, rfl, _⟩
                    refine z_goto (tgt := 168) zh dX9_atOf_150 rfl ?_
                    exact z_iret zh dX9_atOf_168 ⟨_, rfl, rfl, rfl, trivial⟩
                · have r15 := rb_eq (u := 7) (v := 7) (ra_tt a3) rl_7 q8 (by decide) (by decide)
                  refine z_aloadnR zh dX9_atOf_117 rfl ?_
                  refine z_iloadn zh dX9_atOf_118 rfl ?_
                  refine z_iloadn zh dX9_atOf_119 rfl ?_
                  refine z_callVI zh mv_Y_110 dX9_atOf_120 ck_Y rfl (s_X9_lotMany g ha1 ha2 hG) ⟨Nat.le_of_ble_eq_true rfl, Nat.le_of_ble_eq_true rfl⟩ rfl rfl (Nat.le_of_ble_eq_true rfl) ?_
                  rintro x16 _ _ ⟨rfl, rfl, hx16, _⟩
                  refine z_if_ne (tgt := 130) zh dX9_atOf_123 rfl (fun q17 => ?_) (fun q17 => ?_)
                  · have r18 : Ra 1 100 x16 := rb_ne_lo hx16 ra_z q17 (by decide)
                    refine z_aloadnR zh dX9_atOf_130 rfl ?_
                    refine z_iloadn zh dX9_atOf_131 rfl ?_
                    refine z_iloadn zh dX9_atOf_132 rfl ?_
                    refine z_iconst zh dX9_atOf_133 ki_0 ?_
                    refine z_callVI zh mv_Y_125 dX9_atOf_134 ck_Y rfl (s_X9_dayOf g ha1 ha2 (ra_w rl_0 (by decide) (by decide)) hG) ⟨Nat.le_of_ble_eq_true rfl, Nat.le_of_ble_eq_true rfl⟩ rfl rfl (Nat.le_of_ble_eq_true rfl) ?_
                    rintro x19 _ _ ⟨rfl, rfl, hx19, _⟩
                    exact z_iret zh dX9_atOf_137 ⟨_, rfl, rfl, rfl, trivial⟩
                  · have r20 := rb_eq (u := 0) (v := 0) hx16 ra_z q17 (by decide) (by decide)
                    refine z_iconst zh dX9_atOf_126 ki_m1 ?_
                    refine z_goto (tgt := 137) zh dX9_atOf_127 rfl ?_
                    exact z_iret zh dX9_atOf_137 ⟨_, rfl, rfl, rfl, trivial⟩
              · have r21 := rb_eq (u := 6) (v := 6) (ra_tt a3) rl_6 q7 (by decide) (by decide)
                refine z_aloadnR zh dX9_atOf_104 rfl ?_
                refine z_iloadn zh dX9_atOf_105 rfl ?_
                refine z_iloadn zh dX9_atOf_106 rfl ?_
                refine z_callVI zh mv_Y_110 dX9_atOf_107 ck_Y rfl (s_X9_lotMany g ha1 ha2 hG) ⟨Nat.le_of_ble_eq_true rfl, Nat.le_of_ble_eq_true rfl⟩ rfl rfl (Nat.le_of_ble_eq_true rfl) ?_
                rintro x22 _ _ ⟨rfl, rfl, hx22, _⟩
                exact z_iret zh dX9_atOf_110 ⟨_, rfl, rfl, rfl, trivial⟩
            · have r23 := rb_eq (u := 5) (v := 5) (ra_tt a3) rl_5 q6 (by decide) (by decide)
              refine z_aloadnR zh dX9_atOf_82 rfl ?_
              refine z_getf zh fl_Y_7 dX9_atOf_83 ck_Y rfl rfl ?_
              refine z_sipush zh dX9_atOf_86 ks_276 ?_
              refine z_aloadnR zh dX9_atOf_89 rfl ?_
              refine z_iloadn zh dX9_atOf_90 rfl ?_
              refine z_iloadn zh dX9_atOf_91 rfl ?_
              refine z_callVI zh mv_Y_65 dX9_atOf_92 ck_Y rfl (s_X9_cellOf g ha1 ha2 hG) ⟨Nat.le_of_ble_eq_true rfl, Nat.le_of_ble_eq_true rfl⟩ rfl rfl (Nat.le_of_ble_eq_true rfl) ?_
              rintro x24 _ _ ⟨rfl, rfl, hx24, hc24⟩
              refine y_iadd zh dX9_atOf_95 rl_276 hx24 (u := 276) (v := 347) rfl rfl (by decide) (by decide) (fun x25 hc25 hx25 => ?_)
              refine y_iald zh ck_now dX9_atOf_96 hx25 (by decide) (by decide) (fun x26 ex26 => ?_)
              exact z_iret zh dX9_atOf_97 ⟨_, rfl, rfl, rfl, trivial⟩
          · have r27 := rb_eq (u := 4) (v := 4) (ra_tt a3) rl_4 q5 (by decide) (by decide)
            refine z_aloadnR zh dX9_atOf_61 rfl ?_
            refine z_getf zh fl_Y_7 dX9_atOf_62 ck_Y rfl rfl ?_
            refine z_sipush zh dX9_atOf_65 ks_204 ?_
            refine z_aloadnR zh dX9_atOf_68 rfl ?_
            refine z_iloadn zh dX9_atOf_69 rfl ?_
            refine z_iloadn zh dX9_atOf_70 rfl ?_
            refine z_callVI zh mv_Y_65 dX9_atOf_71 ck_Y rfl (s_X9_cellOf g ha1 ha2 hG) ⟨Nat.le_of_ble_eq_true rfl, Nat.le_of_ble_eq_true rfl⟩ rfl rfl (Nat.le_of_ble_eq_true rfl) ?_
            rintro x28 _ _ ⟨rfl, rfl, hx28, hc28⟩
            refine y_iadd zh dX9_atOf_74 rl_204 hx28 (u := 204) (v := 275) rfl rfl (by decide) (by decide) (fun x29 hc29 hx29 => ?_)
            refine y_iald zh ck_now dX9_atOf_75 hx29 (by decide) (by decide) (fun x30 ex30 => ?_)
            exact z_iret zh dX9_atOf_76 ⟨_, rfl, rfl, rfl, trivial⟩
        · have r31 := rb_eq (u := 3) (v := 3) (ra_tt a3) rl_3 q4 (by decide) (by decide)
          refine z_aloadnR zh dX9_atOf_40 rfl ?_
          refine z_getf zh fl_Y_7 dX9_atOf_41 ck_Y rfl rfl ?_
          refine z_sipush zh dX9_atOf_44 ks_132 ?_
          refine z_aloadnR zh dX9_atOf_47 rfl ?_
          refine z_iloadn zh dX9_atOf_48 rfl ?_
          refine z_iloadn zh dX9_atOf_49 rfl ?_
          refine z_callVI zh mv_Y_65 dX9_atOf_50 ck_Y rfl (s_X9_cellOf g ha1 ha2 hG) ⟨Nat.le_of_ble_eq_true rfl, Nat.le_of_ble_eq_true rfl⟩ rfl rfl (Nat.le_of_ble_eq_true rfl) ?_
          rintro x32 _ _ ⟨rfl, rfl, hx32, hc32⟩
          refine y_iadd zh dX9_atOf_53 rl_132 hx32 (u := 132) (v := 203) rfl rfl (by decide) (by decide) (fun x33 hc33 hx33 => ?_)
          refine y_iald zh ck_now dX9_atOf_54 hx33 (by decide) (by decide) (fun x34 ex34 => ?_)
          exact z_iret zh dX9_atOf_55 ⟨_, rfl, rfl, rfl, trivial⟩
      · have r35 := rb_eq (u := 2) (v := 2) (ra_tt a3) rl_2 q3 (by decide) (by decide)
        refine z_aloadnR zh dX9_atOf_28 rfl ?_
        refine z_iloadn zh dX9_atOf_29 rfl ?_
        refine z_iloadn zh dX9_atOf_30 rfl ?_
        refine z_callVI zh mv_Y_98 dX9_atOf_31 ck_Y rfl (s_X9_freeOf g ha1 ha2 hG) ⟨Nat.le_of_ble_eq_true rfl, Nat.le_of_ble_eq_true rfl⟩ rfl rfl (Nat.le_of_ble_eq_true rfl) ?_
        rintro x36 _ _ ⟨rfl, rfl, _⟩
        exact z_iret zh dX9_atOf_34 ⟨_, rfl, rfl, rfl, trivial⟩
    · have r37 := rb_eq (u := 1) (v := 1) (ra_tt a3) rl_1 q2 (by decide) (by decide)
      refine z_aloadnR zh dX9_atOf_16 rfl ?_
      refine z_iloadn zh dX9_atOf_17 rfl ?_
      refine z_iloadn zh dX9_atOf_18 rfl ?_
      refine z_callVI zh mv_Y_73 dX9_atOf_19 ck_Y rfl (s_X9_stockOf g ha1 ha2 hG) ⟨Nat.le_of_ble_eq_true rfl, Nat.le_of_ble_eq_true rfl⟩ rfl rfl (Nat.le_of_ble_eq_true rfl) ?_
      rintro x38 _ _ ⟨rfl, rfl, _⟩
      exact z_iret zh dX9_atOf_22 ⟨_, rfl, rfl, rfl, trivial⟩
  · have r39 := rb_eq (u := 0) (v := 0) (ra_tt a3) ra_z q1 (by decide) (by decide)
    refine z_aloadnR zh dX9_atOf_4 rfl ?_
    refine z_iloadn zh dX9_atOf_5 rfl ?_
    refine z_iloadn zh dX9_atOf_6 rfl ?_
    refine z_callVI zh mv_Y_119 dX9_atOf_7 ck_Y rfl (s_X9_positionOf g ha1 ha2 hG) ⟨Nat.le_of_ble_eq_true rfl, Nat.le_of_ble_eq_true rfl⟩ rfl rfl (Nat.le_of_ble_eq_true rfl) ?_
    rintro x40 _ _ ⟨rfl, rfl, _⟩
    exact z_iret zh dX9_atOf_10 ⟨_, rfl, rfl, rfl, trivial⟩
set_option maxRecDepth 20000 in
theorem s_X9_at (g : GE) {sp : Nat → Nat → Bool} {σ : Iv} {iv : Iv} {lv : Lv} {a1 : Int32} {a2 : Int32} {a3 : Int32}  (hG : SI sp σ iv)  : ConI g yX9_at cX9_at 4 (some .int) 7 [rf g 551, .int a1, .int a2, .int a3] iv lv (fun r iv lv => SI sp σ iv ∧ True) := by
  refine con_intro (own := "RollingNetsModel") (by decide +kernel) rfl (Nat.le_of_ble_eq_true rfl) (L0 := [some (rf g 551), some (.int a1), some (.int a2), some (.int a3)]) rfl (fun Z zh => ?_)
  refine z_aloadnR zh dX9_at_0 rfl ?_
  refine z_iconst zh dX9_at_1 ki_0 ?_
  refine z_putI zh fl_Y_58 dX9_at_2 ck_Y rfl rfl (Nat.le_of_ble_eq_true rfl) (Or.inl rfl) ?_
  have hG : SI sp σ (upI iv 551 0 (nI 0)) := si_w (k := 551) (j := 0) hG (by decide) (by decide) (sp_no hG ((spc_Y (q := 0)).trans rfl)) (fun lo hi q => (rx_none rfl) lo hi ((rg_Y (q := 0)).symm.trans q))
  have em1 : upI iv 551 0 (nI 0) 551 0 = nI 0 := by rw [upI_at, if_pos ⟨rfl, rfl⟩]
  generalize upI iv 551 0 (nI 0) = iv at hG em1 ⊢
  refine z_aloadnR zh dX9_at_5 rfl ?_
  refine z_iloadn zh dX9_at_6 rfl ?_
  refine z_callVI zh mv_Y_90 dX9_at_7 ck_Y rfl (s_X9_isMember g  hG) ⟨Nat.le_of_ble_eq_true rfl, Nat.le_of_ble_eq_true rfl⟩ rfl rfl (Nat.le_of_ble_eq_true rfl) ?_
  rintro x2 _ _ ⟨rfl, rfl, hx2, hz3⟩
  have J42 : ∀ (iv : Iv) (lv : Lv), SI sp σ iv → iv 551 0 = nI 0 → Z 42 [some (rf g 551), some (.int a1), some (.int a2), some (.int a3)] [] iv lv := by
    intro iv lv hG em4
    refine z_ldcw zh dX9_at_42 kc_Y_330 ?_
    exact z_iret zh dX9_at_45 ⟨_, rfl, hG, trivial⟩
  refine z_if_eq (tgt := 42) zh dX9_at_10 rfl (fun q5 => ?_) (fun q5 => ?_)
  · have r6 := rb_eq (u := 0) (v := 0) hx2 ra_z q5 (by decide) (by decide)
    exact J42 iv lv hG em1
  · have r7 : Ra 1 1 x2 := rb_ne_lo hx2 ra_z q5 (by decide)
    have r8 : Ra 0 11 a1 := (hz3 q5)
    refine z_aloadnR zh dX9_at_13 rfl ?_
    refine z_iloadn zh dX9_at_14 rfl ?_
    refine z_callVI zh mv_Y_94 dX9_at_15 ck_Y rfl (s_X9_isIssue g  hG) ⟨Nat.le_of_ble_eq_true rfl, Nat.le_of_ble_eq_true rfl⟩ rfl rfl (Nat.le_of_ble_eq_true rfl) ?_
    rintro x9 _ _ ⟨rfl, rfl, hx9, hz10⟩
    refine z_if_eq (tgt := 42) zh dX9_at_18 rfl (fun q11 => ?_) (fun q11 => ?_)
    · have r12 := rb_eq (u := 0) (v := 0) hx9 ra_z q11 (by decide) (by decide)
      exact J42 iv lv hG em1
    · have r13 : Ra 1 1 x9 := rb_ne_lo hx9 ra_z q11 (by decide)
      have r14 : Ra 0 5 a2 := (hz10 q11)
      refine z_aloadnR zh dX9_at_21 rfl ?_
      refine z_iloadn zh dX9_at_22 rfl ?_
      refine z_iconst zh dX9_at_23 ki_0 ?_
      refine z_bipush zh dX9_at_24 kb_9 ?_
      refine z_callVI zh mv_Y_79 dX9_at_26 ck_Y rfl (s_X9_isIn g) ⟨Nat.le_of_ble_eq_true rfl, Nat.le_of_ble_eq_true rfl⟩ rfl rfl (Nat.le_of_ble_eq_true rfl) ?_
      rintro x15 _ _ ⟨rfl, rfl, hx15, hz16⟩
      refine z_if_eq (tgt := 42) zh dX9_at_29 rfl (fun q17 => ?_) (fun q17 => ?_)
      · have r18 := rb_eq (u := 0) (v := 0) hx15 ra_z q17 (by decide) (by decide)
        exact J42 iv lv hG em1
      · have r19 : Ra 1 1 x15 := rb_ne_lo hx15 ra_z q17 (by decide)
        have r20 : Ra 0 9 a3 := (rb_in rl_0 rl_9 (hz16 q17))
        refine z_aloadnR zh dX9_at_32 rfl ?_
        refine z_iloadn zh dX9_at_33 rfl ?_
        refine z_iloadn zh dX9_at_34 rfl ?_
        refine z_iloadn zh dX9_at_35 rfl ?_
        refine z_callVI zh mv_Y_327 dX9_at_36 ck_Y rfl (s_X9_atOf g r8 r14 hG) ⟨Nat.le_of_ble_eq_true rfl, Nat.le_of_ble_eq_true rfl⟩ rfl rfl (Nat.le_of_ble_eq_true rfl) ?_
        rintro x21 _ _ ⟨rfl, rfl, _⟩
        refine z_goto (tgt := 45) zh dX9_at_39 rfl ?_
        exact z_iret zh dX9_at_45 ⟨_, rfl, hG, trivial⟩
set_option maxRecDepth 20000 in
theorem s_X9_book (g : GE) {sp : Nat → Nat → Bool} {σ : Iv} {iv : Iv} {lv : Lv} {a1 : Int32} {a2 : Int32}  (hG : SI sp σ iv)  : ConI g yX9_book cX9_book 4 (some .int) 2 [rf g 551, .int a1, .int a2] iv lv (fun r iv lv => SI sp σ iv ∧ True) := by
  refine con_intro (own := "RollingNetsModel") (by decide +kernel) rfl (Nat.le_of_ble_eq_true rfl) (L0 := [some (rf g 551), some (.int a1), some (.int a2), none]) rfl (fun Z zh => ?_)
  refine z_aloadnR zh dX9_book_0 rfl ?_
  refine z_iconst zh dX9_book_1 ki_0 ?_
  refine z_putI zh fl_Y_58 dX9_book_2 ck_Y rfl rfl (Nat.le_of_ble_eq_true rfl) (Or.inl rfl) ?_
  have hG : SI sp σ (upI iv 551 0 (nI 0)) := si_w (k := 551) (j := 0) hG (by decide) (by decide) (sp_no hG ((spc_Y (q := 0)).trans rfl)) (fun lo hi q => (rx_none rfl) lo hi ((rg_Y (q := 0)).symm.trans q))
  have em1 : upI iv 551 0 (nI 0) 551 0 = nI 0 := by rw [upI_at, if_pos ⟨rfl, rfl⟩]
  generalize upI iv 551 0 (nI 0) = iv at hG em1 ⊢
  refine z_aloadnR zh dX9_book_5 rfl ?_
  refine z_iloadn zh dX9_book_6 rfl ?_
  refine z_iconst zh dX9_book_7 ki_0 ?_
  refine z_aloadnR zh dX9_book_8 rfl ?_
  refine z_getf zh fl_Y_7 dX9_book_9 ck_Y rfl rfl ?_
  refine z_bipush zh dX9_book_12 kb_9 ?_
  refine y_ialdN zh ck_now dX9_book_14 (by decide) (fun x2 ex2 => ?_)
  have hx2 : Ra 0 300 x2 := ra_of ex2 (nr_l hG 9 rfl)
  refine z_iconst zh dX9_book_15 ki_1 ?_
  refine y_isub zh dX9_book_16 hx2 rl_1 (u := (-1)) (v := 299) rfl rfl (by decide) (by decide) (fun x3 hc3 hx3 => ?_)
  refine z_callVI zh mv_Y_79 dX9_book_17 ck_Y rfl (s_X9_isIn g) ⟨Nat.le_of_ble_eq_true rfl, Nat.le_of_ble_eq_true rfl⟩ rfl rfl (Nat.le_of_ble_eq_true rfl) ?_
  rintro x4 _ _ ⟨rfl, rfl, hx4, hz5⟩
  refine z_if_eq (tgt := 33) zh dX9_book_20 rfl (fun q6 => ?_) (fun q6 => ?_)
  · have r7 := rb_eq (u := 0) (v := 0) hx4 ra_z q6 (by decide) (by decide)
    refine z_iconst zh dX9_book_33 ki_m1 ?_
    exact z_iret zh dX9_book_34 ⟨_, rfl, hG, trivial⟩
  · have r8 : Ra 1 1 x4 := rb_ne_lo hx4 ra_z q6 (by decide)
    have r9 : Ra 0 299 a1 := (rb_in rl_0 hx3 (hz5 q6))
    refine z_aloadnR zh dX9_book_23 rfl ?_
    refine z_iloadn zh dX9_book_24 rfl ?_
    refine z_iconst zh dX9_book_25 ki_0 ?_
    refine z_iconst zh dX9_book_26 ki_5 ?_
    refine z_callVI zh mv_Y_79 dX9_book_27 ck_Y rfl (s_X9_isIn g) ⟨Nat.le_of_ble_eq_true rfl, Nat.le_of_ble_eq_true rfl⟩ rfl rfl (Nat.le_of_ble_eq_true rfl) ?_
    rintro x10 _ _ ⟨rfl, rfl, hx10, hz11⟩
    refine z_if_ne (tgt := 35) zh dX9_book_30 rfl (fun q12 => ?_) (fun q12 => ?_)
    · have r13 : Ra 1 1 x10 := rb_ne_lo hx10 ra_z q12 (by decide)
      have r14 : Ra 0 5 a2 := (rb_in rl_0 rl_5 (hz11 q12))
      refine z_aloadnR zh dX9_book_35 rfl ?_
      refine z_getf zh fl_Y_7 dX9_book_36 ck_Y rfl rfl ?_
      refine z_sipush zh dX9_book_39 ks_17910 ?_
      refine z_bipush zh dX9_book_42 kb_6 ?_
      refine z_iloadn zh dX9_book_44 rfl ?_
      refine y_imul2 zh dX9_book_45 r9 rl_6 (by decide) (u := 0) (v := 1794) rfl rfl (by decide) (by decide) (fun x15 hc15 hx15 => ?_)
      refine y_iadd zh dX9_book_46 rl_17910 hx15 (u := 17910) (v := 19704) rfl rfl (by decide) (by decide) (fun x16 hc16 hx16 => ?_)
      refine z_iloadn zh dX9_book_47 rfl ?_
      refine y_iadd zh dX9_book_48 hx16 r14 (u := 17910) (v := 19709) rfl rfl (by decide) (by decide) (fun x17 hc17 hx17 => ?_)
      refine y_iald zh ck_now dX9_book_49 hx17 (by decide) (by decide) (fun x18 ex18 => ?_)
      refine z_istoren zh dX9_book_50 (by decide) (L' := [some (rf g 551), some (.int a1), some (.int a2), some (.int x18)]) rfl ?_
      refine z_iloadn zh dX9_book_51 rfl ?_
      refine z_iconst zh dX9_book_52 ki_3 ?_
      have J61 : ∀ (iv : Iv) (lv : Lv), SI sp σ iv → Ra 3 4 a2 → iv 551 0 = nI 0 → iv 552 9 = x2 → Z 61 [some (rf g 551), some (.int a1), some (.int a2), some (.int x18)] [] iv lv := by
        intro iv lv hG hp19 em20 em21
        refine z_iloadn zh dX9_book_61 rfl ?_
        refine z_iconst zh dX9_book_62 ki_1 ?_
        refine y_isubT zh dX9_book_63 (fun x22 => ?_)
        refine z_goto (tgt := 68) zh dX9_book_64 rfl ?_
        exact z_iret zh dX9_book_68 ⟨_, rfl, hG, trivial⟩
      refine z_icmp_eq (tgt := 61) zh dX9_book_53 rfl (fun q23 => ?_) (fun q23 => ?_)
      · have r24 := rb_eq (u := 3) (v := 3) r14 rl_3 q23 (by decide) (by decide)
        exact J61 iv lv hG (ra_w r24.1 (by decide) (by decide)) em1 ex2
      · refine z_iloadn zh dX9_book_56 rfl ?_
        refine z_iconst zh dX9_book_57 ki_4 ?_
        refine z_icmp_ne (tgt := 67) zh dX9_book_58 rfl (fun q25 => ?_) (fun q25 => ?_)
        · refine z_iloadn zh dX9_book_67 rfl ?_
          exact z_iret zh dX9_book_68 ⟨_, rfl, hG, trivial⟩
        · have r26 := rb_eq (u := 4) (v := 4) r14 rl_4 q25 (by decide) (by decide)
          exact J61 iv lv hG (ra_w r26.1 (by decide) (by decide)) em1 ex2
    · have r27 := rb_eq (u := 0) (v := 0) hx10 ra_z q12 (by decide) (by decide)
      refine z_iconst zh dX9_book_33 ki_m1 ?_
      exact z_iret zh dX9_book_34 ⟨_, rfl, hG, trivial⟩
set_option maxRecDepth 20000 in
theorem s_X9_priceOf (g : GE) {sp : Nat → Nat → Bool} {σ : Iv} {iv : Iv} {lv : Lv} {a1 : Int32} (ha1 : Ra 0 5 a1) (hG : SI sp σ iv)  : ConI g yX9_priceOf cX9_priceOf 2 (some .int) 1 [rf g 551, .int a1] iv lv (fun r iv' lv' => iv = iv' ∧ lv = lv' ∧ True) := by
  refine con_intro (own := "RollingNetsModel") (by decide +kernel) rfl (Nat.le_of_ble_eq_true rfl) (L0 := [some (rf g 551), some (.int a1)]) rfl (fun Z zh => ?_)
  refine z_aloadnR zh dX9_priceOf_0 rfl ?_
  refine z_getf zh fl_Y_7 dX9_priceOf_1 ck_Y rfl rfl ?_
  refine z_bipush zh dX9_priceOf_4 kb_16 ?_
  refine z_iloadn zh dX9_priceOf_6 rfl ?_
  refine y_iadd zh dX9_priceOf_7 rl_16 ha1 (u := 16) (v := 21) rfl rfl (by decide) (by decide) (fun x1 hc1 hx1 => ?_)
  refine y_iald zh ck_now dX9_priceOf_8 hx1 (by decide) (by decide) (fun x2 ex2 => ?_)
  refine z_bipush zh dX9_priceOf_9 kb_100 ?_
  refine y_iaddT zh dX9_priceOf_11 (fun x3 => ?_)
  exact z_iret zh dX9_priceOf_12 ⟨_, rfl, rfl, rfl, trivial⟩
set_option maxRecDepth 20000 in
theorem s_X9_buyPrice (g : GE) {sp : Nat → Nat → Bool} {σ : Iv} {iv : Iv} {lv : Lv} {a1 : Int32} (ha1 : Ra 0 5 a1) (hG : SI sp σ iv)  : ConI g yX9_buyPrice cX9_buyPrice 2 (some .int) 3 [rf g 551, .int a1] iv lv (fun r iv' lv' => iv = iv' ∧ lv = lv' ∧ True) := by
  refine con_intro (own := "RollingNetsModel") (by decide +kernel) rfl (Nat.le_of_ble_eq_true rfl) (L0 := [some (rf g 551), some (.int a1)]) rfl (fun Z zh => ?_)
  refine z_aloadnR zh dX9_buyPrice_0 rfl ?_
  refine z_iloadn zh dX9_buyPrice_1 rfl ?_
  refine z_callVI zh mv_Y_197 dX9_buyPrice_2 ck_Y rfl (s_X9_priceOf g ha1 hG) ⟨Nat.le_of_ble_eq_true rfl, Nat.le_of_ble_eq_true rfl⟩ rfl rfl (Nat.le_of_ble_eq_true rfl) ?_
  rintro x1 _ _ ⟨rfl, rfl, _⟩
  refine z_aloadnR zh dX9_buyPrice_5 rfl ?_
  refine z_iloadn zh dX9_buyPrice_6 rfl ?_
  refine z_callVI zh mv_Y_197 dX9_buyPrice_7 ck_Y rfl (s_X9_priceOf g ha1 hG) ⟨Nat.le_of_ble_eq_true rfl, Nat.le_of_ble_eq_true rfl⟩ rfl rfl (Nat.le_of_ble_eq_true rfl) ?_
  rintro x2 _ _ ⟨rfl, rfl, _⟩
  refine z_aloadnR zh dX9_buyPrice_10 rfl ?_
  refine z_iconst zh dX9_buyPrice_11 ki_5 ?_
  refine z_callVI zh mv_Y_144 dX9_buyPrice_12 ck_Y rfl (s_X9_settingOf g (ra_w rl_5 (by decide) (by decide)) hG) ⟨Nat.le_of_ble_eq_true rfl, Nat.le_of_ble_eq_true rfl⟩ rfl rfl (Nat.le_of_ble_eq_true rfl) ?_
  rintro x3 _ _ ⟨rfl, rfl, _⟩
  refine y_imulT zh dX9_buyPrice_15 (fun x4 => ?_)
  refine z_bipush zh dX9_buyPrice_16 kb_100 ?_
  refine y_idivT zh dX9_buyPrice_18 (ra_nz rl_100 (by decide)) (fun x5 => ?_)
  refine y_iaddT zh dX9_buyPrice_19 (fun x6 => ?_)
  exact z_iret zh dX9_buyPrice_20 ⟨_, rfl, rfl, rfl, trivial⟩
set_option maxRecDepth 20000 in
theorem s_X9_hasNotice (g : GE) {sp : Nat → Nat → Bool} {σ : Iv} {iv : Iv} {lv : Lv} {a1 : Int32} (ha1 : Ra 0 199 a1) (hG : SI sp σ iv)  : ConI g yX9_hasNotice cX9_hasNotice 3 (some .boolean) 3 [rf g 551, .int a1] iv lv (fun r iv' lv' => iv = iv' ∧ lv = lv' ∧ Ra 0 1 r) := by
  refine con_intro (own := "RollingNetsModel") (by decide +kernel) rfl (Nat.le_of_ble_eq_true rfl) (L0 := [some (rf g 551), some (.int a1), none]) rfl (fun Z zh => ?_)
  refine z_iconst zh dX9_hasNotice_0 ki_0 ?_
  refine z_istoren zh dX9_hasNotice_1 (by decide) (L' := [some (rf g 551), some (.int a1), some (.int (nI 0))]) rfl ?_
  have J2 : ∀ (n : Nat) (x1 : Int32), Ra 0 60 x1 → 60 - x1.toInt < (n : Int) → Z 2 [some (rf g 551), some (.int a1), some (.int x1)] [] iv lv := by
    intro n
    induction n with
    | zero => intro x1 hx1 hn2; exact (ms_uz hx1 hn2).elim
    | succ n ih2 =>
      intro x1 hx1 hn2
      refine z_iloadn zh dX9_hasNotice_2 rfl ?_
      refine z_aloadnR zh dX9_hasNotice_3 rfl ?_
      refine z_getf zh fl_Y_7 dX9_hasNotice_4 ck_Y rfl rfl ?_
      refine z_bipush zh dX9_hasNotice_7 kb_8 ?_
      refine y_ialdN zh ck_now dX9_hasNotice_9 (by decide) (fun x2 ex2 => ?_)
      have hx2 : Ra 0 60 x2 := ra_of ex2 (nr_l hG 8 rfl)
      refine z_icmp_ge (tgt := 43) zh dX9_hasNotice_10 rfl (fun q3 => ?_) (fun q3 => ?_)
      · refine z_iconst zh dX9_hasNotice_43 ki_0 ?_
        exact z_zret zh dX9_hasNotice_44 (ra_01 (ra_w rl_0 (by decide) (by decide))) ⟨_, rfl, rfl, rfl, (ra_w rl_0 (by decide) (by decide))⟩
      · have r4 : Ra 0 59 x1 := rb_lt_l hx2 hx1 (rb_nle q3) (by decide)
        have r5 : Ra 1 60 x2 := rb_lt_r hx1 hx2 (rb_nle q3) (by decide)
        refine z_aloadnR zh dX9_hasNotice_13 rfl ?_
        refine z_iloadn zh dX9_hasNotice_14 rfl ?_
        refine z_iconst zh dX9_hasNotice_15 ki_4 ?_
        refine z_callVI zh mv_Y_157 dX9_hasNotice_16 ck_Y rfl (s_X9_noticeOf g r4 (ra_w rl_4 (by decide) (by decide)) hG) ⟨Nat.le_of_ble_eq_true rfl, Nat.le_of_ble_eq_true rfl⟩ rfl rfl (Nat.le_of_ble_eq_true rfl) ?_
        rintro x6 _ _ ⟨rfl, rfl, z7, ez7, ex6⟩
        refine z_iconst zh dX9_hasNotice_19 ki_1 ?_
        have J37 : Z 37 [some (rf g 551), some (.int a1), some (.int x1)] [] iv lv := by
          refine y_iinc (L' := fun z => [some (rf g 551), some (.int a1), some (.int z)]) zh dX9_hasNotice_37 (by decide) rfl (by decide +kernel) r4 (u := 1) (v := 60) rfl rfl (by decide) (by decide) (fun _ => rfl) (fun x8 hc8 hx8 => ?_)
          refine z_goto (tgt := 2) zh dX9_hasNotice_40 rfl ?_
          exact ih2 x8 (ra_w hx8 (by decide) (by decide)) (ms_up hc8 (by decide) hn2)
        refine z_icmp_ne (tgt := 37) zh dX9_hasNotice_20 rfl (fun q9 => ?_) (fun q9 => ?_)
        · exact J37
        · have r10 := rb_eq (u := 1) (v := 1) (ra_tt x6) rl_1 q9 (by decide) (by decide)
          refine z_aloadnR zh dX9_hasNotice_23 rfl ?_
          refine z_iloadn zh dX9_hasNotice_24 rfl ?_
          refine z_iconst zh dX9_hasNotice_25 ki_5 ?_
          refine z_callVI zh mv_Y_157 dX9_hasNotice_26 ck_Y rfl (s_X9_noticeOf g r4 (ra_w rl_5 (by decide) (by decide)) hG) ⟨Nat.le_of_ble_eq_true rfl, Nat.le_of_ble_eq_true rfl⟩ rfl rfl (Nat.le_of_ble_eq_true rfl) ?_
          rintro x11 _ _ ⟨rfl, rfl, z12, ez12, ex11⟩
          have hx11 : Ra 0 200 x11 := ra_of ex11 (nr_n5 hG x1.toInt (by have := r4.1; have := r4.2; have := rl_5.1; have := rl_5.2; omega) (by have := r4.1; have := r4.2; have := rl_5.1; have := rl_5.2; omega) (by have := r4.1; have := r4.2; have := rl_5.1; have := rl_5.2; omega))
          refine z_iloadn zh dX9_hasNotice_29 rfl ?_
          refine z_iconst zh dX9_hasNotice_30 ki_1 ?_
          refine y_iadd zh dX9_hasNotice_31 ha1 rl_1 (u := 1) (v := 200) rfl rfl (by decide) (by decide) (fun x13 hc13 hx13 => ?_)
          refine z_icmp_ne (tgt := 37) zh dX9_hasNotice_32 rfl (fun q14 => ?_) (fun q14 => ?_)
          · exact J37
          · have r15 := rb_eq (u := 1) (v := 200) hx11 hx13 q14 (by decide) (by decide)
            refine z_iconst zh dX9_hasNotice_35 ki_1 ?_
            exact z_zret zh dX9_hasNotice_36 (ra_01 (ra_w rl_1 (by decide) (by decide))) ⟨_, rfl, rfl, rfl, (ra_w rl_1 (by decide) (by decide))⟩
  exact J2 61 (nI 0) (ra_w rl_0 (by decide) (by decide)) (ms_u0 rl_0 (by decide))
set_option maxRecDepth 20000 in
theorem s_X9_isTrade (g : GE) {sp : Nat → Nat → Bool} {σ : Iv} {iv : Iv} {lv : Lv} {a1 : Int32}  (hG : SI sp σ iv)  : ConI g yX9_isTrade cX9_isTrade 2 (some .boolean) 1 [rf g 551, .int a1] iv lv (fun r iv' lv' => iv = iv' ∧ lv = lv' ∧ Ra 0 1 r ∧ (¬ r = 0 → Ra 0 199 a1)) := by
  refine con_intro (own := "RollingNetsModel") (by decide +kernel) rfl (Nat.le_of_ble_eq_true rfl) (L0 := [some (rf g 551), some (.int a1)]) rfl (fun Z zh => ?_)
  refine z_iloadn zh dX9_isTrade_0 rfl ?_
  refine z_if_lt (tgt := 19) zh dX9_isTrade_1 rfl (fun q1 => ?_) (fun q1 => ?_)
  · have r2 : Ra (-2147483648) (-1) a1 := rb_lt_l ra_z (ra_tt a1) q1 (by decide)
    refine z_iconst zh dX9_isTrade_19 ki_0 ?_
    exact z_zret zh dX9_isTrade_20 (ra_01 (ra_w rl_0 (by decide) (by decide))) ⟨_, rfl, rfl, rfl, (ra_w rl_0 (by decide) (by decide)), (fun q => absurd rfl q)⟩
  · have r3 : Ra 0 2147483647 a1 := rb_le_r ra_z (ra_tt a1) (rb_nlt q1) (by decide)
    refine z_iloadn zh dX9_isTrade_4 rfl ?_
    refine z_aloadnR zh dX9_isTrade_5 rfl ?_
    refine z_getf zh fl_Y_7 dX9_isTrade_6 ck_Y rfl rfl ?_
    refine z_bipush zh dX9_isTrade_9 kb_7 ?_
    refine y_ialdN zh ck_now dX9_isTrade_11 (by decide) (fun x4 ex4 => ?_)
    have hx4 : Ra 0 200 x4 := ra_of ex4 (nr_l hG 7 rfl)
    refine z_icmp_ge (tgt := 19) zh dX9_isTrade_12 rfl (fun q5 => ?_) (fun q5 => ?_)
    · refine z_iconst zh dX9_isTrade_19 ki_0 ?_
      exact z_zret zh dX9_isTrade_20 (ra_01 (ra_w rl_0 (by decide) (by decide))) ⟨_, rfl, rfl, rfl, (ra_w rl_0 (by decide) (by decide)), (fun q => absurd rfl q)⟩
    · have r6 : Ra 0 199 a1 := rb_lt_l hx4 r3 (rb_nle q5) (by decide)
      have r7 : Ra 1 200 x4 := rb_lt_r r3 hx4 (rb_nle q5) (by decide)
      refine z_iconst zh dX9_isTrade_15 ki_1 ?_
      refine z_goto (tgt := 20) zh dX9_isTrade_16 rfl ?_
      exact z_zret zh dX9_isTrade_20 (ra_01 (ra_w rl_1 (by decide) (by decide))) ⟨_, rfl, rfl, rfl, (ra_w rl_1 (by decide) (by decide)), (fun _ => r6)⟩
set_option maxRecDepth 20000 in
theorem s_X9_isOpenApart (g : GE) {sp : Nat → Nat → Bool} {σ : Iv} {iv : Iv} {lv : Lv} {a1 : Int32}  (hG : SI sp σ iv)  : ConI g yX9_isOpenApart cX9_isOpenApart 2 (some .boolean) 3 [rf g 551, .int a1] iv lv (fun r iv' lv' => iv = iv' ∧ lv = lv' ∧ Ra 0 1 r ∧ (¬ r = 0 → Ra 0 199 a1)) := by
  refine con_intro (own := "RollingNetsModel") (by decide +kernel) rfl (Nat.le_of_ble_eq_true rfl) (L0 := [some (rf g 551), some (.int a1)]) rfl (fun Z zh => ?_)
  refine z_aloadnR zh dX9_isOpenApart_0 rfl ?_
  refine z_iloadn zh dX9_isOpenApart_1 rfl ?_
  refine z_callVI zh mv_Y_188 dX9_isOpenApart_2 ck_Y rfl (s_X9_isTrade g  hG) ⟨Nat.le_of_ble_eq_true rfl, Nat.le_of_ble_eq_true rfl⟩ rfl rfl (Nat.le_of_ble_eq_true rfl) ?_
  rintro x1 _ _ ⟨rfl, rfl, hx1, hz2⟩
  refine z_if_eq (tgt := 32) zh dX9_isOpenApart_5 rfl (fun q3 => ?_) (fun q3 => ?_)
  · have r4 := rb_eq (u := 0) (v := 0) hx1 ra_z q3 (by decide) (by decide)
    refine z_iconst zh dX9_isOpenApart_32 ki_0 ?_
    exact z_zret zh dX9_isOpenApart_33 (ra_01 (ra_w rl_0 (by decide) (by decide))) ⟨_, rfl, rfl, rfl, (ra_w rl_0 (by decide) (by decide)), (fun q => absurd rfl q)⟩
  · have r5 : Ra 1 1 x1 := rb_ne_lo hx1 ra_z q3 (by decide)
    have r6 : Ra 0 199 a1 := (hz2 q3)
    refine z_aloadnR zh dX9_isOpenApart_8 rfl ?_
    refine z_iloadn zh dX9_isOpenApart_9 rfl ?_
    refine z_iconst zh dX9_isOpenApart_10 ki_5 ?_
    refine z_callVI zh mv_Y_151 dX9_isOpenApart_11 ck_Y rfl (s_X9_tradeOf g r6 (ra_w rl_5 (by decide) (by decide)) hG) ⟨Nat.le_of_ble_eq_true rfl, Nat.le_of_ble_eq_true rfl⟩ rfl rfl (Nat.le_of_ble_eq_true rfl) ?_
    rintro x7 _ _ ⟨rfl, rfl, z8, ez8, ex7⟩
    refine z_iconst zh dX9_isOpenApart_14 ki_1 ?_
    refine z_icmp_ne (tgt := 32) zh dX9_isOpenApart_15 rfl (fun q9 => ?_) (fun q9 => ?_)
    · refine z_iconst zh dX9_isOpenApart_32 ki_0 ?_
      exact z_zret zh dX9_isOpenApart_33 (ra_01 (ra_w rl_0 (by decide) (by decide))) ⟨_, rfl, rfl, rfl, (ra_w rl_0 (by decide) (by decide)), (fun q => absurd rfl q)⟩
    · have r10 := rb_eq (u := 1) (v := 1) (ra_tt x7) rl_1 q9 (by decide) (by decide)
      refine z_aloadnR zh dX9_isOpenApart_18 rfl ?_
      refine z_iloadn zh dX9_isOpenApart_19 rfl ?_
      refine z_bipush zh dX9_isOpenApart_20 kb_7 ?_
      refine z_callVI zh mv_Y_151 dX9_isOpenApart_22 ck_Y rfl (s_X9_tradeOf g r6 (ra_w rl_7 (by decide) (by decide)) hG) ⟨Nat.le_of_ble_eq_true rfl, Nat.le_of_ble_eq_true rfl⟩ rfl rfl (Nat.le_of_ble_eq_true rfl) ?_
      rintro x11 _ _ ⟨rfl, rfl, z12, ez12, ex11⟩
      refine z_if_le (tgt := 32) zh dX9_isOpenApart_25 rfl (fun q13 => ?_) (fun q13 => ?_)
      · have r14 : Ra (-2147483648) 0 x11 := rb_le_l ra_z (ra_tt x11) q13 (by decide)
        refine z_iconst zh dX9_isOpenApart_32 ki_0 ?_
        exact z_zret zh dX9_isOpenApart_33 (ra_01 (ra_w rl_0 (by decide) (by decide))) ⟨_, rfl, rfl, rfl, (ra_w rl_0 (by decide) (by decide)), (fun q => absurd rfl q)⟩
      · have r15 : Ra 1 2147483647 x11 := rb_lt_r ra_z (ra_tt x11) (rb_nle q13) (by decide)
        refine z_iconst zh dX9_isOpenApart_28 ki_1 ?_
        refine z_goto (tgt := 33) zh dX9_isOpenApart_29 rfl ?_
        exact z_zret zh dX9_isOpenApart_33 (ra_01 (ra_w rl_1 (by decide) (by decide))) ⟨_, rfl, rfl, rfl, (ra_w rl_1 (by decide) (by decide)), (fun _ => r6)⟩
set_option maxRecDepth 20000 in
theorem s_X9_newNotice (g : GE) {sp : Nat → Nat → Bool} {σ : Iv} {iv : Iv} {lv : Lv} {a1 : Int32} {a2 : Int32} {a3 : Int32} {a4 : Int32} (ha1 : Ra 0 11 a1) (ha2 : Ra 0 5 a2) (ha4 : Ra (-1) 199 a4) (hG : SI sp σ iv) (hN : Ra 0 59 (iv 552 8)) : ConI g yX9_newNotice cX9_newNotice 7 (some .int) 3 [rf g 551, .int a1, .int a2, .int a3, .int a4] iv lv (fun r iv lv => SI sp σ iv ∧ Ra 16710 17890 r ∧ ∃ n9 : Int, (0 ≤ n9 ∧ n9 ≤ 59) ∧ r.toInt = 16710 + 20 * n9) := by
  refine con_intro (own := "RollingNetsModel") (by decide +kernel) rfl (Nat.le_of_ble_eq_true rfl) (L0 := [some (rf g 551), some (.int a1), some (.int a2), some (.int a3), some (.int a4), none, none]) rfl (fun Z zh => ?_)
  obtain ⟨y1, ey1⟩ : ∃ z, iv 552 8 = z := ⟨_, rfl⟩
  have hy1 : Ra 0 59 y1 := ra_of ey1 hN
  refine z_aloadnR zh dX9_newNotice_0 rfl ?_
  refine z_aloadnR zh dX9_newNotice_1 rfl ?_
  refine z_getf zh fl_Y_7 dX9_newNotice_2 ck_Y rfl rfl ?_
  refine z_bipush zh dX9_newNotice_5 kb_8 ?_
  refine z_ialdE (x := y1) zh ck_now dX9_newNotice_7 (by decide) ey1 ?_
  refine z_callVI zh mv_Y_154 dX9_newNotice_8 ck_Y rfl (s_X9_noticeAt g hy1 hG) ⟨Nat.le_of_ble_eq_true rfl, Nat.le_of_ble_eq_true rfl⟩ rfl rfl (Nat.le_of_ble_eq_true rfl) ?_
  rintro x1 _ _ ⟨rfl, rfl, hx1, hc1⟩
  refine z_istore zh dX9_newNotice_11 (by decide) (L' := [some (rf g 551), some (.int a1), some (.int a2), some (.int a3), some (.int a4), some (.int x1), none]) rfl ?_
  refine z_iconst zh dX9_newNotice_13 ki_0 ?_
  refine z_istore zh dX9_newNotice_14 (by decide) (L' := [some (rf g 551), some (.int a1), some (.int a2), some (.int a3), some (.int a4), some (.int x1), some (.int (nI 0))]) rfl ?_
  have J16 : ∀ (n : Nat) (iv : Iv) (lv : Lv) (x2 : Int32), SI sp σ iv → Ra 0 20 x2 → iv 552 8 = y1 → 20 - x2.toInt < (n : Int) → Z 16 [some (rf g 551), some (.int a1), some (.int a2), some (.int a3), some (.int a4), some (.int x1), some (.int x2)] [] iv lv := by
    intro n
    induction n with
    | zero => intro iv lv x2 hG hx2 em3 hn16; exact (ms_uz hx2 hn16).elim
    | succ n ih16 =>
      intro iv lv x2 hG hx2 em3 hn16
      refine z_iload zh dX9_newNotice_16 rfl ?_
      refine z_bipush zh dX9_newNotice_18 kb_20 ?_
      refine z_icmp_ge (tgt := 40) zh dX9_newNotice_20 rfl (fun q4 => ?_) (fun q4 => ?_)
      · have r5 : Ra 20 20 x2 := rb_le_r rl_20 hx2 q4 (by decide)
        refine z_aloadnR zh dX9_newNotice_40 rfl ?_
        refine z_getf zh fl_Y_7 dX9_newNotice_41 ck_Y rfl rfl ?_
        refine z_iload zh dX9_newNotice_44 rfl ?_
        refine z_iconst zh dX9_newNotice_46 ki_0 ?_
        refine y_iadd zh dX9_newNotice_47 hx1 rl_0 (u := 16710) (v := 17890) rfl rfl (by decide) (by decide) (fun x6 hc6 hx6 => ?_)
        refine z_iloadn zh dX9_newNotice_48 rfl ?_
        refine z_iast zh ck_now dX9_newNotice_49 (ra_in hx6 (by decide) (by decide)) ?_
        have hG : SI sp σ (upI iv 552 x6.toNatClampNeg a1) := (nw_n0 hG (y1.toInt * 1) (by have := hy1.1; have := hy1.2; have := rl_0.1; have := rl_0.2; omega) (by have := hy1.1; have := hy1.2; have := rl_0.1; have := rl_0.2; omega) (by have := hy1.1; have := hy1.2; have := rl_0.1; have := rl_0.2; omega) ha1)
        have em7 := (upI_ne (iv := iv) (k := 552) (j := x6.toNatClampNeg) (x := a1) (a := 552) (b := 8) (Or.inr (ne_cl hx6 (by decide) (Or.inl (by decide))))).trans em3
        generalize upI iv 552 x6.toNatClampNeg a1 = iv at hG em7 ⊢
        refine z_aloadnR zh dX9_newNotice_50 rfl ?_
        refine z_getf zh fl_Y_7 dX9_newNotice_51 ck_Y rfl rfl ?_
        refine z_iload zh dX9_newNotice_54 rfl ?_
        refine z_iconst zh dX9_newNotice_56 ki_1 ?_
        refine y_iadd zh dX9_newNotice_57 hx1 rl_1 (u := 16711) (v := 17891) rfl rfl (by decide) (by decide) (fun x8 hc8 hx8 => ?_)
        refine z_iloadn zh dX9_newNotice_58 rfl ?_
        refine z_iast zh ck_now dX9_newNotice_59 (ra_in hx8 (by decide) (by decide)) ?_
        have hG : SI sp σ (upI iv 552 x8.toNatClampNeg a2) := (nw_n1 hG (y1.toInt * 1) (by have := hy1.1; have := hy1.2; have := rl_1.1; have := rl_1.2; omega) (by have := hy1.1; have := hy1.2; have := rl_1.1; have := rl_1.2; omega) (by have := hy1.1; have := hy1.2; have := rl_1.1; have := rl_1.2; omega) ha2)
        have em9 := (upI_ne (iv := iv) (k := 552) (j := x8.toNatClampNeg) (x := a2) (a := 552) (b := 8) (Or.inr (ne_cl hx8 (by decide) (Or.inl (by decide))))).trans em7
        generalize upI iv 552 x8.toNatClampNeg a2 = iv at hG em9 ⊢
        refine z_aloadnR zh dX9_newNotice_60 rfl ?_
        refine z_getf zh fl_Y_7 dX9_newNotice_61 ck_Y rfl rfl ?_
        refine z_iload zh dX9_newNotice_64 rfl ?_
        refine z_iconst zh dX9_newNotice_66 ki_2 ?_
        refine y_iadd zh dX9_newNotice_67 hx1 rl_2 (u := 16712) (v := 17892) rfl rfl (by decide) (by decide) (fun x10 hc10 hx10 => ?_)
        refine z_iloadn zh dX9_newNotice_68 rfl ?_
        refine z_iast zh ck_now dX9_newNotice_69 (ra_in hx10 (by decide) (by decide)) ?_
        have hG : SI sp σ (upI iv 552 x10.toNatClampNeg a3) := (nw_nb hG (y1.toInt * 1) (by have := hy1.1; have := hy1.2; have := rl_2.1; have := rl_2.2; omega) (by have := hy1.1; have := hy1.2; have := rl_2.1; have := rl_2.2; omega) (by have := hy1.1; have := hy1.2; have := rl_2.1; have := rl_2.2; omega))
        have em11 := (upI_ne (iv := iv) (k := 552) (j := x10.toNatClampNeg) (x := a3) (a := 552) (b := 8) (Or.inr (ne_cl hx10 (by decide) (Or.inl (by decide))))).trans em9
        generalize upI iv 552 x10.toNatClampNeg a3 = iv at hG em11 ⊢
        refine z_aloadnR zh dX9_newNotice_70 rfl ?_
        refine z_getf zh fl_Y_7 dX9_newNotice_71 ck_Y rfl rfl ?_
        refine z_iload zh dX9_newNotice_74 rfl ?_
        refine z_iconst zh dX9_newNotice_76 ki_3 ?_
        refine y_iadd zh dX9_newNotice_77 hx1 rl_3 (u := 16713) (v := 17893) rfl rfl (by decide) (by decide) (fun x12 hc12 hx12 => ?_)
        refine z_aloadnR zh dX9_newNotice_78 rfl ?_
        refine z_getf zh fl_Y_7 dX9_newNotice_79 ck_Y rfl rfl ?_
        refine z_bipush zh dX9_newNotice_82 kb_6 ?_
        refine y_ialdN zh ck_now dX9_newNotice_84 (by decide) (fun x13 ex13 => ?_)
        have hx13 : Ra 0 99 x13 := ra_of ex13 (nr_l hG 6 rfl)
        refine z_aloadnR zh dX9_newNotice_85 rfl ?_
        refine z_iconst zh dX9_newNotice_86 ki_4 ?_
        refine z_callVI zh mv_Y_144 dX9_newNotice_87 ck_Y rfl (s_X9_settingOf g (ra_w rl_4 (by decide) (by decide)) hG) ⟨Nat.le_of_ble_eq_true rfl, Nat.le_of_ble_eq_true rfl⟩ rfl rfl (Nat.le_of_ble_eq_true rfl) ?_
        rintro x14 _ _ ⟨rfl, rfl, _⟩
        refine y_iaddT zh dX9_newNotice_90 (fun x15 => ?_)
        refine z_iast zh ck_now dX9_newNotice_91 (ra_in hx12 (by decide) (by decide)) ?_
        have hG : SI sp σ (upI iv 552 x12.toNatClampNeg x15) := (nw_nb hG (y1.toInt * 1) (by have := hy1.1; have := hy1.2; have := rl_3.1; have := rl_3.2; omega) (by have := hy1.1; have := hy1.2; have := rl_3.1; have := rl_3.2; omega) (by have := hy1.1; have := hy1.2; have := rl_3.1; have := rl_3.2; omega))
        have em16 := (upI_ne (iv := iv) (k := 552) (j := x12.toNatClampNeg) (x := x15) (a := 552) (b := 8) (Or.inr (ne_cl hx12 (by decide) (Or.inl (by decide))))).trans em11
        have em17 := (upI_ne (iv := iv) (k := 552) (j := x12.toNatClampNeg) (x := x15) (a := 552) (b := 6) (Or.inr (ne_cl hx12 (by decide) (Or.inl (by decide))))).trans ex13
        generalize upI iv 552 x12.toNatClampNeg x15 = iv at hG em16 em17 ⊢
        refine z_aloadnR zh dX9_newNotice_92 rfl ?_
        refine z_getf zh fl_Y_7 dX9_newNotice_93 ck_Y rfl rfl ?_
        refine z_iload zh dX9_newNotice_96 rfl ?_
        refine z_iconst zh dX9_newNotice_98 ki_4 ?_
        refine y_iadd zh dX9_newNotice_99 hx1 rl_4 (u := 16714) (v := 17894) rfl rfl (by decide) (by decide) (fun x18 hc18 hx18 => ?_)
        refine z_iconst zh dX9_newNotice_100 ki_1 ?_
        refine z_iast zh ck_now dX9_newNotice_101 (ra_in hx18 (by decide) (by decide)) ?_
        have hG : SI sp σ (upI iv 552 x18.toNatClampNeg (nI 1)) := (nw_nb hG (y1.toInt * 1) (by have := hy1.1; have := hy1.2; have := rl_4.1; have := rl_4.2; omega) (by have := hy1.1; have := hy1.2; have := rl_4.1; have := rl_4.2; omega) (by have := hy1.1; have := hy1.2; have := rl_4.1; have := rl_4.2; omega))
        have em19 := (upI_ne (iv := iv) (k := 552) (j := x18.toNatClampNeg) (x := nI 1) (a := 552) (b := 8) (Or.inr (ne_cl hx18 (by decide) (Or.inl (by decide))))).trans em16
        have em20 := (upI_ne (iv := iv) (k := 552) (j := x18.toNatClampNeg) (x := nI 1) (a := 552) (b := 6) (Or.inr (ne_cl hx18 (by decide) (Or.inl (by decide))))).trans em17
        generalize upI iv 552 x18.toNatClampNeg (nI 1) = iv at hG em19 em20 ⊢
        refine z_aloadnR zh dX9_newNotice_102 rfl ?_
        refine z_getf zh fl_Y_7 dX9_newNotice_103 ck_Y rfl rfl ?_
        refine z_iload zh dX9_newNotice_106 rfl ?_
        refine z_iconst zh dX9_newNotice_108 ki_5 ?_
        refine y_iadd zh dX9_newNotice_109 hx1 rl_5 (u := 16715) (v := 17895) rfl rfl (by decide) (by decide) (fun x21 hc21 hx21 => ?_)
        refine z_iload zh dX9_newNotice_110 rfl ?_
        refine z_iconst zh dX9_newNotice_112 ki_1 ?_
        refine y_iadd zh dX9_newNotice_113 ha4 rl_1 (u := 0) (v := 200) rfl rfl (by decide) (by decide) (fun x22 hc22 hx22 => ?_)
        refine z_iast zh ck_now dX9_newNotice_114 (ra_in hx21 (by decide) (by decide)) ?_
        have hG : SI sp σ (upI iv 552 x21.toNatClampNeg x22) := (nw_n5 hG (y1.toInt * 1) (by have := hy1.1; have := hy1.2; have := rl_5.1; have := rl_5.2; omega) (by have := hy1.1; have := hy1.2; have := rl_5.1; have := rl_5.2; omega) (by have := hy1.1; have := hy1.2; have := rl_5.1; have := rl_5.2; omega) hx22)
        have em23 := (upI_ne (iv := iv) (k := 552) (j := x21.toNatClampNeg) (x := x22) (a := 552) (b := 8) (Or.inr (ne_cl hx21 (by decide) (Or.inl (by decide))))).trans em19
        have em24 := (upI_ne (iv := iv) (k := 552) (j := x21.toNatClampNeg) (x := x22) (a := 552) (b := 6) (Or.inr (ne_cl hx21 (by decide) (Or.inl (by decide))))).trans em20
        generalize upI iv 552 x21.toNatClampNeg x22 = iv at hG em23 em24 ⊢
        refine z_iload zh dX9_newNotice_115 rfl ?_
        exact z_iret zh dX9_newNotice_117 ⟨_, rfl, hG, hx1, ⟨y1.toInt * 1, (by have := hy1.1; have := hy1.2; omega), (by have := hy1.1; have := hy1.2; omega)⟩⟩
      · have r25 : Ra 0 19 x2 := rb_lt_l rl_20 hx2 (rb_nle q4) (by decide)
        refine z_aloadnR zh dX9_newNotice_23 rfl ?_
        refine z_getf zh fl_Y_7 dX9_newNotice_24 ck_Y rfl rfl ?_
        refine z_iload zh dX9_newNotice_27 rfl ?_
        refine z_iload zh dX9_newNotice_29 rfl ?_
        refine y_iadd zh dX9_newNotice_31 hx1 r25 (u := 16710) (v := 17909) rfl rfl (by decide) (by decide) (fun x26 hc26 hx26 => ?_)
        refine z_iconst zh dX9_newNotice_32 ki_0 ?_
        refine z_iast zh ck_now dX9_newNotice_33 (ra_in hx26 (by decide) (by decide)) ?_
        have hG : SI sp σ (upI iv 552 x26.toNatClampNeg (nI 0)) := (nw_nz hG (y1.toInt * 1) (by have := hy1.1; have := hy1.2; have := r25.1; have := r25.2; omega) (by have := hy1.1; have := hy1.2; have := r25.1; have := r25.2; omega) (by have := hy1.1; have := hy1.2; have := r25.1; have := r25.2; omega) rl_0)
        have em27 := (upI_ne (iv := iv) (k := 552) (j := x26.toNatClampNeg) (x := nI 0) (a := 552) (b := 8) (Or.inr (ne_cl hx26 (by decide) (Or.inl (by decide))))).trans em3
        generalize upI iv 552 x26.toNatClampNeg (nI 0) = iv at hG em27 ⊢
        refine y_iinc (L' := fun z => [some (rf g 551), some (.int a1), some (.int a2), some (.int a3), some (.int a4), some (.int x1), some (.int z)]) zh dX9_newNotice_34 (by decide) rfl (by decide +kernel) r25 (u := 1) (v := 20) rfl rfl (by decide) (by decide) (fun _ => rfl) (fun x28 hc28 hx28 => ?_)
        refine z_goto (tgt := 16) zh dX9_newNotice_37 rfl ?_
        exact ih16 iv lv x28 hG (ra_w hx28 (by decide) (by decide)) em27 (ms_up hc28 (by decide) hn16)
  exact J16 21 iv lv (nI 0) hG (ra_w rl_0 (by decide) (by decide)) ey1 (ms_u0 rl_0 (by decide))
set_option maxRecDepth 20000 in
theorem s_X9_call (g : GE) {sp : Nat → Nat → Bool} {σ : Iv} {iv : Iv} {lv : Lv} {a1 : Int32}  (hG : SI sp σ iv) (hq : Sq sp) : ConI g yX9_call cX9_call 2 (some .int) 4 [rf g 551, .int a1] iv lv (fun r iv lv => SI sp σ iv ∧ Ra (-1) 59 r) := by
  refine con_intro (own := "RollingNetsModel") (by decide +kernel) rfl (Nat.le_of_ble_eq_true rfl) (L0 := [some (rf g 551), some (.int a1)]) rfl (fun Z zh => ?_)
  obtain ⟨iw1, eiw1⟩ : ∃ z, z = iv := ⟨_, rfl⟩
  have hS : SI sp σ iw1 := by rw [eiw1]; exact hG
  have hG : SI spc iw1 iv := by rw [eiw1]; exact si_full hG
  refine z_aloadnR zh dX9_call_0 rfl ?_
  refine z_iconst zh dX9_call_1 ki_0 ?_
  refine z_putI zh fl_Y_58 dX9_call_2 ck_Y rfl rfl (Nat.le_of_ble_eq_true rfl) (Or.inl rfl) ?_
  have hG : SI spc iw1 (upI iv 551 0 (nI 0)) := si_w (k := 551) (j := 0) hG (by decide) (by decide) (sp_no hG ((spc_Y (q := 0)).trans rfl)) (fun lo hi q => (rx_none rfl) lo hi ((rg_Y (q := 0)).symm.trans q))
  have em2 : upI iv 551 0 (nI 0) 551 0 = nI 0 := by rw [upI_at, if_pos ⟨rfl, rfl⟩]
  generalize upI iv 551 0 (nI 0) = iv at hG em2 ⊢
  refine z_aloadnR zh dX9_call_5 rfl ?_
  refine z_iloadn zh dX9_call_6 rfl ?_
  refine z_callVI zh mv_Y_191 dX9_call_7 ck_Y rfl (s_X9_isOpenApart g  hG) ⟨Nat.le_of_ble_eq_true rfl, Nat.le_of_ble_eq_true rfl⟩ rfl rfl (Nat.le_of_ble_eq_true rfl) ?_
  rintro x3 _ _ ⟨rfl, rfl, hx3, hz4⟩
  refine z_if_eq (tgt := 56) zh dX9_call_10 rfl (fun q5 => ?_) (fun q5 => ?_)
  · have r6 := rb_eq (u := 0) (v := 0) hx3 ra_z q5 (by decide) (by decide)
    refine z_iconst zh dX9_call_56 ki_m1 ?_
    have hG := si_back hS hG
    exact z_iret zh dX9_call_57 ⟨_, rfl, hG, (ra_w rl_n1 (by decide) (by decide))⟩
  · have r7 : Ra 1 1 x3 := rb_ne_lo hx3 ra_z q5 (by decide)
    have r8 : Ra 0 199 a1 := (hz4 q5)
    refine z_aloadnR zh dX9_call_13 rfl ?_
    refine z_iloadn zh dX9_call_14 rfl ?_
    refine z_bipush zh dX9_call_15 kb_6 ?_
    refine z_callVI zh mv_Y_151 dX9_call_17 ck_Y rfl (s_X9_tradeOf g r8 (ra_w rl_6 (by decide) (by decide)) hG) ⟨Nat.le_of_ble_eq_true rfl, Nat.le_of_ble_eq_true rfl⟩ rfl rfl (Nat.le_of_ble_eq_true rfl) ?_
    rintro x9 _ _ ⟨rfl, rfl, z10, ez10, ex9⟩
    refine z_aloadnR zh dX9_call_20 rfl ?_
    refine z_getf zh fl_Y_7 dX9_call_21 ck_Y rfl rfl ?_
    refine z_bipush zh dX9_call_24 kb_6 ?_
    refine y_ialdN zh ck_now dX9_call_26 (by decide) (fun x11 ex11 => ?_)
    have hx11 : Ra 0 99 x11 := ra_of ex11 (nr_l hG 6 rfl)
    have es12 := (si_s hG (spc_N.trans rfl)).symm.trans ex11
    refine z_aloadnR zh dX9_call_27 rfl ?_
    refine z_iconst zh dX9_call_28 ki_3 ?_
    refine z_callVI zh mv_Y_144 dX9_call_29 ck_Y rfl (s_X9_settingOf g (ra_w rl_3 (by decide) (by decide)) hG) ⟨Nat.le_of_ble_eq_true rfl, Nat.le_of_ble_eq_true rfl⟩ rfl rfl (Nat.le_of_ble_eq_true rfl) ?_
    rintro x13 _ _ ⟨rfl, rfl, _⟩
    refine y_isubT zh dX9_call_32 (fun x14 => ?_)
    refine z_icmp_gt (tgt := 56) zh dX9_call_33 rfl (fun q15 => ?_) (fun q15 => ?_)
    · have r16 : Ra (-2147483648) 2147483646 x14 := rb_lt_l (ra_tt x9) (ra_tt x14) q15 (by decide)
      have r17 : Ra (-2147483647) 2147483647 x9 := rb_lt_r (ra_tt x14) (ra_tt x9) q15 (by decide)
      refine z_iconst zh dX9_call_56 ki_m1 ?_
      have hG := si_back hS hG
      exact z_iret zh dX9_call_57 ⟨_, rfl, hG, (ra_w rl_n1 (by decide) (by decide))⟩
    · refine z_aloadnR zh dX9_call_36 rfl ?_
      refine z_iloadn zh dX9_call_37 rfl ?_
      refine z_callVI zh mv_Y_194 dX9_call_38 ck_Y rfl (s_X9_hasNotice g r8 hG) ⟨Nat.le_of_ble_eq_true rfl, Nat.le_of_ble_eq_true rfl⟩ rfl rfl (Nat.le_of_ble_eq_true rfl) ?_
      rintro x18 _ _ ⟨rfl, rfl, hx18⟩
      refine z_if_ne (tgt := 56) zh dX9_call_41 rfl (fun q19 => ?_) (fun q19 => ?_)
      · have r20 : Ra 1 1 x18 := rb_ne_lo hx18 ra_z q19 (by decide)
        refine z_iconst zh dX9_call_56 ki_m1 ?_
        have hG := si_back hS hG
        exact z_iret zh dX9_call_57 ⟨_, rfl, hG, (ra_w rl_n1 (by decide) (by decide))⟩
      · have r21 := rb_eq (u := 0) (v := 0) hx18 ra_z q19 (by decide) (by decide)
        refine z_aloadnR zh dX9_call_44 rfl ?_
        refine z_getf zh fl_Y_7 dX9_call_45 ck_Y rfl rfl ?_
        refine z_bipush zh dX9_call_48 kb_8 ?_
        refine y_ialdN zh ck_now dX9_call_50 (by decide) (fun x22 ex22 => ?_)
        have hx22 : Ra 0 60 x22 := ra_of ex22 (nr_l hG 8 rfl)
        have es23 := (si_s hG (spc_N.trans rfl)).symm.trans ex22
        refine z_bipush zh dX9_call_51 kb_60 ?_
        refine z_icmp_ne (tgt := 58) zh dX9_call_53 rfl (fun q24 => ?_) (fun q24 => ?_)
        · have r25 : Ra 0 59 x22 := rb_ne_hi hx22 rl_60 q24 (by decide)
          refine z_aloadnR zh dX9_call_58 rfl ?_
          refine z_aloadnR zh dX9_call_59 rfl ?_
          refine z_iloadn zh dX9_call_60 rfl ?_
          refine z_iconst zh dX9_call_61 ki_0 ?_
          refine z_callVI zh mv_Y_151 dX9_call_62 ck_Y rfl (s_X9_tradeOf g r8 (ra_w rl_0 (by decide) (by decide)) hG) ⟨Nat.le_of_ble_eq_true rfl, Nat.le_of_ble_eq_true rfl⟩ rfl rfl (Nat.le_of_ble_eq_true rfl) ?_
          rintro x26 _ _ ⟨rfl, rfl, z27, ez27, ex26⟩
          have hx26 : Ra 0 11 x26 := ra_of ex26 (nr_t01 hG a1.toInt (by have := r8.1; have := r8.2; have := rl_0.1; have := rl_0.2; omega) (by have := r8.1; have := r8.2; have := rl_0.1; have := rl_0.2; omega) (by have := r8.1; have := r8.2; have := rl_0.1; have := rl_0.2; omega))
          refine z_aloadnR zh dX9_call_65 rfl ?_
          refine z_iloadn zh dX9_call_66 rfl ?_
          refine z_iconst zh dX9_call_67 ki_2 ?_
          refine z_callVI zh mv_Y_151 dX9_call_68 ck_Y rfl (s_X9_tradeOf g r8 (ra_w rl_2 (by decide) (by decide)) hG) ⟨Nat.le_of_ble_eq_true rfl, Nat.le_of_ble_eq_true rfl⟩ rfl rfl (Nat.le_of_ble_eq_true rfl) ?_
          rintro x28 _ _ ⟨rfl, rfl, z29, ez29, ex28⟩
          have hx28 : Ra 0 5 x28 := ra_of ex28 (nr_t2 hG a1.toInt (by have := r8.1; have := r8.2; have := rl_2.1; have := rl_2.2; omega) (by have := r8.1; have := r8.2; have := rl_2.1; have := rl_2.2; omega) (by have := r8.1; have := r8.2; have := rl_2.1; have := rl_2.2; omega))
          refine z_aloadnR zh dX9_call_71 rfl ?_
          refine z_iloadn zh dX9_call_72 rfl ?_
          refine z_bipush zh dX9_call_73 kb_7 ?_
          refine z_callVI zh mv_Y_151 dX9_call_75 ck_Y rfl (s_X9_tradeOf g r8 (ra_w rl_7 (by decide) (by decide)) hG) ⟨Nat.le_of_ble_eq_true rfl, Nat.le_of_ble_eq_true rfl⟩ rfl rfl (Nat.le_of_ble_eq_true rfl) ?_
          rintro x30 _ _ ⟨rfl, rfl, z31, ez31, ex30⟩
          refine z_iloadn zh dX9_call_78 rfl ?_
          refine z_callVI zh mv_Y_175 dX9_call_79 ck_Y rfl (s_X9_newNotice g hx26 hx28 (ra_w r8 (by decide) (by decide)) hG (by rw [ex22]; exact r25)) ⟨Nat.le_of_ble_eq_true rfl, Nat.le_of_ble_eq_true rfl⟩ rfl rfl (Nat.le_of_ble_eq_true rfl) ?_
          rintro x32 iv lv ⟨hG, hx32, n33, hn33, en33⟩
          refine z_pop zh dX9_call_82 rfl ?_
          refine z_aloadnR zh dX9_call_83 rfl ?_
          refine z_getf zh fl_Y_7 dX9_call_84 ck_Y rfl rfl ?_
          refine z_bipush zh dX9_call_87 kb_8 ?_
          refine z_aloadnR zh dX9_call_89 rfl ?_
          refine z_getf zh fl_Y_7 dX9_call_90 ck_Y rfl rfl ?_
          refine z_bipush zh dX9_call_93 kb_8 ?_
          refine z_ialdE (x := x22) zh ck_now dX9_call_95 (by decide) ((si_s hG (spc_N.trans rfl)).trans es23) ?_
          refine z_iconst zh dX9_call_96 ki_1 ?_
          refine y_iadd zh dX9_call_97 r25 rl_1 (u := 1) (v := 60) rfl rfl (by decide) (by decide) (fun x34 hc34 hx34 => ?_)
          refine z_iastN (j := 8) zh ck_now dX9_call_98 (by decide) ?_
          have em35 : iv 552 6 = x11 := ((si_s hG (spc_N.trans rfl)).trans es12)
          have em36 : iv 552 8 = x22 := ((si_s hG (spc_N.trans rfl)).trans es23)
          have hG := si_back hS hG
          have hG : SI sp σ (upI iv 552 8 x34) := (nw_lq hG hq (j := 8) (by decide) (by decide) (by decide) (rx_some (ra_w hx34 (by decide) (by decide))))
          have em37 := (upI_ne (iv := iv) (k := 552) (j := 8) (x := x34) (a := 552) (b := 6) (Or.inr (by decide))).trans em35
          have em38 : upI iv 552 8 x34 552 8 = x34 := by rw [upI_at, if_pos ⟨rfl, rfl⟩]
          generalize upI iv 552 8 x34 = iv at hG em37 em38 ⊢
          refine z_aloadnR zh dX9_call_99 rfl ?_
          refine z_getf zh fl_Y_7 dX9_call_100 ck_Y rfl rfl ?_
          refine z_bipush zh dX9_call_103 kb_8 ?_
          refine z_ialdE (x := x34) zh ck_now dX9_call_105 (by decide) em38 ?_
          refine z_iconst zh dX9_call_106 ki_1 ?_
          refine y_isub zh dX9_call_107 hx34 rl_1 (u := 0) (v := 59) rfl rfl (by decide) (by decide) (fun x39 hc39 hx39 => ?_)
          exact z_iret zh dX9_call_108 ⟨_, rfl, hG, (ra_w hx39 (by decide) (by decide))⟩
        · have r40 := rb_eq (u := 60) (v := 60) hx22 rl_60 q24 (by decide) (by decide)
          refine z_iconst zh dX9_call_56 ki_m1 ?_
          have hG := si_back hS hG
          exact z_iret zh dX9_call_57 ⟨_, rfl, hG, (ra_w rl_n1 (by decide) (by decide))⟩
set_option maxRecDepth 20000 in
theorem s_X9_canGrow (g : GE) {sp : Nat → Nat → Bool} {σ : Iv} {iv : Iv} {lv : Lv} {a1 : Int32} {a2 : Int32} (ha2 : Ra 2 5 a2) (hG : SI sp σ iv)  : ConI g yX9_canGrow cX9_canGrow 3 (some .boolean) 2 [rf g 551, .int a1, .int a2] iv lv (fun r iv' lv' => iv = iv' ∧ lv = lv' ∧ Ra 0 1 r) := by
  refine con_intro (own := "RollingNetsModel") (by decide +kernel) rfl (Nat.le_of_ble_eq_true rfl) (L0 := [some (rf g 551), some (.int a1), some (.int a2)]) rfl (fun Z zh => ?_)
  refine z_aloadnR zh dX9_canGrow_0 rfl ?_
  refine z_iloadn zh dX9_canGrow_1 rfl ?_
  refine z_iloadn zh dX9_canGrow_2 rfl ?_
  refine y_inegT zh dX9_canGrow_3 (fun x1 => ?_)
  refine z_callVI zh mv_Y_76 dX9_canGrow_4 ck_Y rfl (s_X9_greater g  hG) ⟨Nat.le_of_ble_eq_true rfl, Nat.le_of_ble_eq_true rfl⟩ rfl rfl (Nat.le_of_ble_eq_true rfl) ?_
  rintro x2 _ _ ⟨rfl, rfl, _⟩
  refine z_ldcw zh dX9_canGrow_7 kc_Y_306 ?_
  refine z_iloadn zh dX9_canGrow_10 rfl ?_
  refine y_idivT zh dX9_canGrow_11 (ra_nz ha2 (by decide)) (fun x3 => ?_)
  refine z_icmp_gt (tgt := 19) zh dX9_canGrow_12 rfl (fun q4 => ?_) (fun q4 => ?_)
  · have r5 : Ra (-2147483648) 2147483646 x3 := rb_lt_l (ra_tt x2) (ra_tt x3) q4 (by decide)
    have r6 : Ra (-2147483647) 2147483647 x2 := rb_lt_r (ra_tt x3) (ra_tt x2) q4 (by decide)
    refine z_iconst zh dX9_canGrow_19 ki_0 ?_
    exact z_zret zh dX9_canGrow_20 (ra_01 (ra_w rl_0 (by decide) (by decide))) ⟨_, rfl, rfl, rfl, (ra_w rl_0 (by decide) (by decide))⟩
  · refine z_iconst zh dX9_canGrow_15 ki_1 ?_
    refine z_goto (tgt := 20) zh dX9_canGrow_16 rfl ?_
    exact z_zret zh dX9_canGrow_20 (ra_01 (ra_w rl_1 (by decide) (by decide))) ⟨_, rfl, rfl, rfl, (ra_w rl_1 (by decide) (by decide))⟩
set_option maxRecDepth 20000 in
theorem s_X9_canSet_0 (g : GE) {sp : Nat → Nat → Bool} {σ : Iv} {iv : Iv} {lv : Lv} {a2 : Int32}  (hG : SI sp σ iv)  : ConI g yX9_canSet cX9_canSet 3 (some .boolean) 2 [rf g 551, .int (nI 0), .int a2] iv lv (fun r iv' lv' => iv = iv' ∧ lv = lv' ∧ Ra 0 1 r ∧ (¬ r = 0 → Ra 2 12 a2)) := by
  refine con_intro (own := "RollingNetsModel") (by decide +kernel) rfl (Nat.le_of_ble_eq_true rfl) (L0 := [some (rf g 551), some (.int (nI 0)), some (.int a2)]) rfl (fun Z zh => ?_)
  refine z_iloadn zh dX9_canSet_0 rfl ?_
  refine z_if_ne (tgt := 31) zh dX9_canSet_1 rfl (fun q1 => ?_) (fun q1 => ?_)
  · exact (ra_no (rb_ne_lo ra_z rl_0 (fun e => q1 e.symm) (u := 1) (by decide)) (by decide)).elim
  · refine z_aloadnR zh dX9_canSet_4 rfl ?_
    refine z_iloadn zh dX9_canSet_5 rfl ?_
    refine z_iconst zh dX9_canSet_6 ki_2 ?_
    refine z_bipush zh dX9_canSet_7 kb_12 ?_
    refine z_callVI zh mv_Y_79 dX9_canSet_9 ck_Y rfl (s_X9_isIn g) ⟨Nat.le_of_ble_eq_true rfl, Nat.le_of_ble_eq_true rfl⟩ rfl rfl (Nat.le_of_ble_eq_true rfl) ?_
    rintro x3 _ _ ⟨rfl, rfl, hx3, hz4⟩
    refine z_if_eq (tgt := 29) zh dX9_canSet_12 rfl (fun q5 => ?_) (fun q5 => ?_)
    · have r6 := rb_eq (u := 0) (v := 0) hx3 ra_z q5 (by decide) (by decide)
      refine z_iconst zh dX9_canSet_29 ki_0 ?_
      exact z_zret zh dX9_canSet_30 (ra_01 (ra_w rl_0 (by decide) (by decide))) ⟨_, rfl, rfl, rfl, (ra_w rl_0 (by decide) (by decide)), (fun q => absurd rfl q)⟩
    · have r7 : Ra 1 1 x3 := rb_ne_lo hx3 ra_z q5 (by decide)
      have r8 : Ra 2 12 a2 := (rb_in rl_2 rl_12 (hz4 q5))
      refine z_aloadnR zh dX9_canSet_15 rfl ?_
      refine z_getf zh fl_Y_7 dX9_canSet_16 ck_Y rfl rfl ?_
      refine z_bipush zh dX9_canSet_19 kb_7 ?_
      refine y_ialdN zh ck_now dX9_canSet_21 (by decide) (fun x9 ex9 => ?_)
      have hx9 : Ra 0 200 x9 := ra_of ex9 (nr_l hG 7 rfl)
      refine z_if_ne (tgt := 29) zh dX9_canSet_22 rfl (fun q10 => ?_) (fun q10 => ?_)
      · have r11 : Ra 1 200 x9 := rb_ne_lo hx9 ra_z q10 (by decide)
        refine z_iconst zh dX9_canSet_29 ki_0 ?_
        exact z_zret zh dX9_canSet_30 (ra_01 (ra_w rl_0 (by decide) (by decide))) ⟨_, rfl, rfl, rfl, (ra_w rl_0 (by decide) (by decide)), (fun q => absurd rfl q)⟩
      · have r12 := rb_eq (u := 0) (v := 0) hx9 ra_z q10 (by decide) (by decide)
        refine z_iconst zh dX9_canSet_25 ki_1 ?_
        refine z_goto (tgt := 30) zh dX9_canSet_26 rfl ?_
        exact z_zret zh dX9_canSet_30 (ra_01 (ra_w rl_1 (by decide) (by decide))) ⟨_, rfl, rfl, rfl, (ra_w rl_1 (by decide) (by decide)), (fun _ => r8)⟩
set_option maxRecDepth 20000 in
theorem s_X9_canSet (g : GE) {sp : Nat → Nat → Bool} {σ : Iv} {iv : Iv} {lv : Lv} {a1 : Int32} {a2 : Int32}  (hG : SI sp σ iv)  : ConI g yX9_canSet cX9_canSet 3 (some .boolean) 2 [rf g 551, .int a1, .int a2] iv lv (fun r iv' lv' => iv = iv' ∧ lv = lv' ∧ Ra 0 1 r ∧ (¬ r = 0 → Ra 0 6 a1) ∧ (¬ r = 0 → Ra 0 100 a2)) := by
  refine con_intro (own := "RollingNetsModel") (by decide +kernel) rfl (Nat.le_of_ble_eq_true rfl) (L0 := [some (rf g 551), some (.int a1), some (.int a2)]) rfl (fun Z zh => ?_)
  refine z_iloadn zh dX9_canSet_0 rfl ?_
  refine z_if_ne (tgt := 31) zh dX9_canSet_1 rfl (fun q1 => ?_) (fun q1 => ?_)
  · refine z_iloadn zh dX9_canSet_31 rfl ?_
    refine z_iconst zh dX9_canSet_32 ki_1 ?_
    refine z_icmp_ne (tgt := 44) zh dX9_canSet_33 rfl (fun q2 => ?_) (fun q2 => ?_)
    · refine z_iloadn zh dX9_canSet_44 rfl ?_
      refine z_iconst zh dX9_canSet_45 ki_2 ?_
      have J54 : Ra 2 3 a1 → Z 54 [some (rf g 551), some (.int a1), some (.int a2)] [] iv lv := by
        intro hp3
        refine z_aloadnR zh dX9_canSet_54 rfl ?_
        refine z_iloadn zh dX9_canSet_55 rfl ?_
        refine z_iconst zh dX9_canSet_56 ki_1 ?_
        refine z_bipush zh dX9_canSet_57 kb_9 ?_
        refine z_callVI zh mv_Y_79 dX9_canSet_59 ck_Y rfl (s_X9_isIn g) ⟨Nat.le_of_ble_eq_true rfl, Nat.le_of_ble_eq_true rfl⟩ rfl rfl (Nat.le_of_ble_eq_true rfl) ?_
        rintro x4 _ _ ⟨rfl, rfl, hx4, hz5⟩
        exact z_zret zh dX9_canSet_62 (ra_01 hx4) ⟨_, rfl, rfl, rfl, hx4, (fun _ => (ra_w hp3 (by decide) (by decide))), (fun q => ra_w (rb_in rl_1 rl_9 (hz5 q)) (by decide) (by decide))⟩
      refine z_icmp_eq (tgt := 54) zh dX9_canSet_46 rfl (fun q6 => ?_) (fun q6 => ?_)
      · have r7 := rb_eq (u := 2) (v := 2) (ra_tt a1) rl_2 q6 (by decide) (by decide)
        exact J54 (ra_w r7.1 (by decide) (by decide))
      · refine z_iloadn zh dX9_canSet_49 rfl ?_
        refine z_iconst zh dX9_canSet_50 ki_3 ?_
        refine z_icmp_ne (tgt := 63) zh dX9_canSet_51 rfl (fun q8 => ?_) (fun q8 => ?_)
        · refine z_iloadn zh dX9_canSet_63 rfl ?_
          refine z_iconst zh dX9_canSet_64 ki_4 ?_
          refine z_icmp_ne (tgt := 78) zh dX9_canSet_65 rfl (fun q9 => ?_) (fun q9 => ?_)
          · refine z_iloadn zh dX9_canSet_78 rfl ?_
            refine z_iconst zh dX9_canSet_79 ki_5 ?_
            have J89 : Ra 5 6 a1 → Z 89 [some (rf g 551), some (.int a1), some (.int a2)] [] iv lv := by
              intro hp10
              refine z_aloadnR zh dX9_canSet_89 rfl ?_
              refine z_iloadn zh dX9_canSet_90 rfl ?_
              refine z_iconst zh dX9_canSet_91 ki_0 ?_
              refine z_bipush zh dX9_canSet_92 kb_100 ?_
              refine z_callVI zh mv_Y_79 dX9_canSet_94 ck_Y rfl (s_X9_isIn g) ⟨Nat.le_of_ble_eq_true rfl, Nat.le_of_ble_eq_true rfl⟩ rfl rfl (Nat.le_of_ble_eq_true rfl) ?_
              rintro x11 _ _ ⟨rfl, rfl, hx11, hz12⟩
              refine z_if_eq (tgt := 104) zh dX9_canSet_97 rfl (fun q13 => ?_) (fun q13 => ?_)
              · have r14 := rb_eq (u := 0) (v := 0) hx11 ra_z q13 (by decide) (by decide)
                refine z_iconst zh dX9_canSet_104 ki_0 ?_
                exact z_zret zh dX9_canSet_105 (ra_01 (ra_w rl_0 (by decide) (by decide))) ⟨_, rfl, rfl, rfl, (ra_w rl_0 (by decide) (by decide)), (fun q => absurd rfl q), (fun q => absurd rfl q)⟩
              · have r15 : Ra 1 1 x11 := rb_ne_lo hx11 ra_z q13 (by decide)
                have r16 : Ra 0 100 a2 := (rb_in rl_0 rl_100 (hz12 q13))
                refine z_iconst zh dX9_canSet_100 ki_1 ?_
                refine z_goto (tgt := 105) zh dX9_canSet_101 rfl ?_
                exact z_zret zh dX9_canSet_105 (ra_01 (ra_w rl_1 (by decide) (by decide))) ⟨_, rfl, rfl, rfl, (ra_w rl_1 (by decide) (by decide)), (fun _ => (ra_w hp10 (by decide) (by decide))), (fun _ => r16)⟩
            refine z_icmp_eq (tgt := 89) zh dX9_canSet_80 rfl (fun q17 => ?_) (fun q17 => ?_)
            · have r18 := rb_eq (u := 5) (v := 5) (ra_tt a1) rl_5 q17 (by decide) (by decide)
              exact J89 (ra_w r18.1 (by decide) (by decide))
            · refine z_iloadn zh dX9_canSet_83 rfl ?_
              refine z_bipush zh dX9_canSet_84 kb_6 ?_
              refine z_icmp_ne (tgt := 104) zh dX9_canSet_86 rfl (fun q19 => ?_) (fun q19 => ?_)
              · refine z_iconst zh dX9_canSet_104 ki_0 ?_
                exact z_zret zh dX9_canSet_105 (ra_01 (ra_w rl_0 (by decide) (by decide))) ⟨_, rfl, rfl, rfl, (ra_w rl_0 (by decide) (by decide)), (fun q => absurd rfl q), (fun q => absurd rfl q)⟩
              · have r20 := rb_eq (u := 6) (v := 6) (ra_tt a1) rl_6 q19 (by decide) (by decide)
                exact J89 (ra_w r20.1 (by decide) (by decide))
          · have r21 := rb_eq (u := 4) (v := 4) (ra_tt a1) rl_4 q9 (by decide) (by decide)
            refine z_aloadnR zh dX9_canSet_68 rfl ?_
            refine z_iloadn zh dX9_canSet_69 rfl ?_
            refine z_iconst zh dX9_canSet_70 ki_0 ?_
            refine z_iconst zh dX9_canSet_71 ki_5 ?_
            refine z_callVI zh mv_Y_79 dX9_canSet_72 ck_Y rfl (s_X9_isIn g) ⟨Nat.le_of_ble_eq_true rfl, Nat.le_of_ble_eq_true rfl⟩ rfl rfl (Nat.le_of_ble_eq_true rfl) ?_
            rintro x22 _ _ ⟨rfl, rfl, hx22, hz23⟩
            refine z_goto (tgt := 105) zh dX9_canSet_75 rfl ?_
            exact z_zret zh dX9_canSet_105 (ra_01 hx22) ⟨_, rfl, rfl, rfl, hx22, (fun _ => (ra_w r21.1 (by decide) (by decide))), (fun q => ra_w (rb_in rl_0 rl_5 (hz23 q)) (by decide) (by decide))⟩
        · have r24 := rb_eq (u := 3) (v := 3) (ra_tt a1) rl_3 q8 (by decide) (by decide)
          exact J54 (ra_w r24.1 (by decide) (by decide))
    · have r25 := rb_eq (u := 1) (v := 1) (ra_tt a1) rl_1 q2 (by decide) (by decide)
      refine z_aloadnR zh dX9_canSet_36 rfl ?_
      refine z_iloadn zh dX9_canSet_37 rfl ?_
      refine z_iconst zh dX9_canSet_38 ki_0 ?_
      refine z_iconst zh dX9_canSet_39 ki_3 ?_
      refine z_callVI zh mv_Y_79 dX9_canSet_40 ck_Y rfl (s_X9_isIn g) ⟨Nat.le_of_ble_eq_true rfl, Nat.le_of_ble_eq_true rfl⟩ rfl rfl (Nat.le_of_ble_eq_true rfl) ?_
      rintro x26 _ _ ⟨rfl, rfl, hx26, hz27⟩
      exact z_zret zh dX9_canSet_43 (ra_01 hx26) ⟨_, rfl, rfl, rfl, hx26, (fun _ => (ra_w r25.1 (by decide) (by decide))), (fun q => ra_w (rb_in rl_0 rl_3 (hz27 q)) (by decide) (by decide))⟩
  · have r28 := rb_eq (u := 0) (v := 0) (ra_tt a1) ra_z q1 (by decide) (by decide)
    refine z_aloadnR zh dX9_canSet_4 rfl ?_
    refine z_iloadn zh dX9_canSet_5 rfl ?_
    refine z_iconst zh dX9_canSet_6 ki_2 ?_
    refine z_bipush zh dX9_canSet_7 kb_12 ?_
    refine z_callVI zh mv_Y_79 dX9_canSet_9 ck_Y rfl (s_X9_isIn g) ⟨Nat.le_of_ble_eq_true rfl, Nat.le_of_ble_eq_true rfl⟩ rfl rfl (Nat.le_of_ble_eq_true rfl) ?_
    rintro x29 _ _ ⟨rfl, rfl, hx29, hz30⟩
    refine z_if_eq (tgt := 29) zh dX9_canSet_12 rfl (fun q31 => ?_) (fun q31 => ?_)
    · have r32 := rb_eq (u := 0) (v := 0) hx29 ra_z q31 (by decide) (by decide)
      refine z_iconst zh dX9_canSet_29 ki_0 ?_
      exact z_zret zh dX9_canSet_30 (ra_01 (ra_w rl_0 (by decide) (by decide))) ⟨_, rfl, rfl, rfl, (ra_w rl_0 (by decide) (by decide)), (fun q => absurd rfl q), (fun q => absurd rfl q)⟩
    · have r33 : Ra 1 1 x29 := rb_ne_lo hx29 ra_z q31 (by decide)
      have r34 : Ra 2 12 a2 := (rb_in rl_2 rl_12 (hz30 q31))
      refine z_aloadnR zh dX9_canSet_15 rfl ?_
      refine z_getf zh fl_Y_7 dX9_canSet_16 ck_Y rfl rfl ?_
      refine z_bipush zh dX9_canSet_19 kb_7 ?_
      refine y_ialdN zh ck_now dX9_canSet_21 (by decide) (fun x35 ex35 => ?_)
      have hx35 : Ra 0 200 x35 := ra_of ex35 (nr_l hG 7 rfl)
      refine z_if_ne (tgt := 29) zh dX9_canSet_22 rfl (fun q36 => ?_) (fun q36 => ?_)
      · have r37 : Ra 1 200 x35 := rb_ne_lo hx35 ra_z q36 (by decide)
        refine z_iconst zh dX9_canSet_29 ki_0 ?_
        exact z_zret zh dX9_canSet_30 (ra_01 (ra_w rl_0 (by decide) (by decide))) ⟨_, rfl, rfl, rfl, (ra_w rl_0 (by decide) (by decide)), (fun q => absurd rfl q), (fun q => absurd rfl q)⟩
      · have r38 := rb_eq (u := 0) (v := 0) hx35 ra_z q36 (by decide) (by decide)
        refine z_iconst zh dX9_canSet_25 ki_1 ?_
        refine z_goto (tgt := 30) zh dX9_canSet_26 rfl ?_
        exact z_zret zh dX9_canSet_30 (ra_01 (ra_w rl_1 (by decide) (by decide))) ⟨_, rfl, rfl, rfl, (ra_w rl_1 (by decide) (by decide)), (fun _ => (ra_w r28.1 (by decide) (by decide))), (fun _ => (ra_w r34 (by decide) (by decide)))⟩
set_option maxRecDepth 20000 in
theorem s_X9_canSplit (g : GE) {sp : Nat → Nat → Bool} {σ : Iv} {iv : Iv} {lv : Lv} {a1 : Int32} {a2 : Int32} (ha1 : Ra 0 5 a1) (ha2 : Ra 2 5 a2) (hG : SI sp σ iv)  : ConI g yX9_canSplit cX9_canSplit 5 (some .boolean) 5 [rf g 551, .int a1, .int a2] iv lv (fun r iv' lv' => iv = iv' ∧ lv = lv' ∧ Ra 0 1 r) := by
  refine con_intro (own := "RollingNetsModel") (by decide +kernel) rfl (Nat.le_of_ble_eq_true rfl) (L0 := [some (rf g 551), some (.int a1), some (.int a2), none, none]) rfl (fun Z zh => ?_)
  refine z_iconst zh dX9_canSplit_0 ki_0 ?_
  refine z_istoren zh dX9_canSplit_1 (by decide) (L' := [some (rf g 551), some (.int a1), some (.int a2), some (.int (nI 0)), none]) rfl ?_
  have J2 : ∀ (n : Nat) (x1 : Int32), Ra 0 12 x1 → 12 - x1.toInt < (n : Int) → Z 2 [some (rf g 551), some (.int a1), some (.int a2), some (.int x1), none] [] iv lv := by
    intro n
    induction n with
    | zero => intro x1 hx1 hn2; exact (ms_uz hx1 hn2).elim
    | succ n ih2 =>
      intro x1 hx1 hn2
      refine z_iloadn zh dX9_canSplit_2 rfl ?_
      refine z_aloadnR zh dX9_canSplit_3 rfl ?_
      refine z_callVI zh mv_Y_61 dX9_canSplit_4 ck_Y rfl (s_X9_memberMany g  hG) ⟨Nat.le_of_ble_eq_true rfl, Nat.le_of_ble_eq_true rfl⟩ rfl rfl (Nat.le_of_ble_eq_true rfl) ?_
      rintro x2 _ _ ⟨rfl, rfl, hx2⟩
      refine z_icmp_ge (tgt := 77) zh dX9_canSplit_7 rfl (fun q3 => ?_) (fun q3 => ?_)
      · have r4 : Ra 2 12 x1 := rb_le_r hx2 hx1 q3 (by decide)
        refine z_iconst zh dX9_canSplit_77 ki_1 ?_
        exact z_zret zh dX9_canSplit_78 (ra_01 (ra_w rl_1 (by decide) (by decide))) ⟨_, rfl, rfl, rfl, (ra_w rl_1 (by decide) (by decide))⟩
      · have r5 : Ra 0 11 x1 := rb_lt_l hx2 hx1 (rb_nle q3) (by decide)
        refine z_iconst zh dX9_canSplit_10 ki_0 ?_
        refine z_istore zh dX9_canSplit_11 (by decide) (L' := [some (rf g 551), some (.int a1), some (.int a2), some (.int x1), some (.int (nI 0))]) rfl ?_
        have J13 : ∀ (n : Nat) (x6 : Int32), Ra 0 4 x6 → 4 - x6.toInt < (n : Int) → Z 13 [some (rf g 551), some (.int a1), some (.int a2), some (.int x1), some (.int x6)] [] iv lv := by
          intro n
          induction n with
          | zero => intro x6 hx6 hn13; exact (ms_uz hx6 hn13).elim
          | succ n ih13 =>
            intro x6 hx6 hn13
            refine z_iload zh dX9_canSplit_13 rfl ?_
            refine z_iconst zh dX9_canSplit_15 ki_4 ?_
            refine z_icmp_ge (tgt := 55) zh dX9_canSplit_16 rfl (fun q7 => ?_) (fun q7 => ?_)
            · have r8 : Ra 4 4 x6 := rb_le_r rl_4 hx6 q7 (by decide)
              refine z_aloadnR zh dX9_canSplit_55 rfl ?_
              refine z_aloadnR zh dX9_canSplit_56 rfl ?_
              refine z_iloadn zh dX9_canSplit_57 rfl ?_
              refine z_iloadn zh dX9_canSplit_58 rfl ?_
              refine z_callVI zh mv_Y_119 dX9_canSplit_59 ck_Y rfl (s_X9_positionOf g r5 ha1 hG) ⟨Nat.le_of_ble_eq_true rfl, Nat.le_of_ble_eq_true rfl⟩ rfl rfl (Nat.le_of_ble_eq_true rfl) ?_
              rintro x9 _ _ ⟨rfl, rfl, _⟩
              refine z_iloadn zh dX9_canSplit_62 rfl ?_
              refine z_callVI zh mv_Y_307 dX9_canSplit_63 ck_Y rfl (s_X9_canGrow g ha2 hG) ⟨Nat.le_of_ble_eq_true rfl, Nat.le_of_ble_eq_true rfl⟩ rfl rfl (Nat.le_of_ble_eq_true rfl) ?_
              rintro x10 _ _ ⟨rfl, rfl, hx10⟩
              refine z_if_ne (tgt := 71) zh dX9_canSplit_66 rfl (fun q11 => ?_) (fun q11 => ?_)
              · have r12 : Ra 1 1 x10 := rb_ne_lo hx10 ra_z q11 (by decide)
                refine y_iinc (L' := fun z => [some (rf g 551), some (.int a1), some (.int a2), some (.int z), some (.int x6)]) zh dX9_canSplit_71 (by decide) rfl (by decide +kernel) r5 (u := 1) (v := 12) rfl rfl (by decide) (by decide) (fun _ => rfl) (fun x13 hc13 hx13 => ?_)
                refine z_goto (tgt := 2) zh dX9_canSplit_74 rfl ?_
                refine z_forget zh [true, true, true, true, false] (L2 := [some (rf g 551), some (.int a1), some (.int a2), some (.int x13), none]) rfl ?_
                exact ih2 x13 (ra_w hx13 (by decide) (by decide)) (ms_up hc13 (by decide) hn2)
              · have r14 := rb_eq (u := 0) (v := 0) hx10 ra_z q11 (by decide) (by decide)
                refine z_iconst zh dX9_canSplit_69 ki_0 ?_
                exact z_zret zh dX9_canSplit_70 (ra_01 (ra_w rl_0 (by decide) (by decide))) ⟨_, rfl, rfl, rfl, (ra_w rl_0 (by decide) (by decide))⟩
            · have r15 : Ra 0 3 x6 := rb_lt_l rl_4 hx6 (rb_nle q7) (by decide)
              refine z_aloadnR zh dX9_canSplit_19 rfl ?_
              refine z_aloadnR zh dX9_canSplit_20 rfl ?_
              refine z_getf zh fl_Y_7 dX9_canSplit_21 ck_Y rfl rfl ?_
              refine z_bipush zh dX9_canSplit_24 kb_60 ?_
              refine z_bipush zh dX9_canSplit_26 kb_72 ?_
              refine z_iload zh dX9_canSplit_28 rfl ?_
              refine y_imul2 zh dX9_canSplit_30 r15 rl_72 (by decide) (u := 0) (v := 216) rfl rfl (by decide) (by decide) (fun x16 hc16 hx16 => ?_)
              refine y_iadd zh dX9_canSplit_31 rl_60 hx16 (u := 60) (v := 276) rfl rfl (by decide) (by decide) (fun x17 hc17 hx17 => ?_)
              refine z_aloadnR zh dX9_canSplit_32 rfl ?_
              refine z_iloadn zh dX9_canSplit_33 rfl ?_
              refine z_iloadn zh dX9_canSplit_34 rfl ?_
              refine z_callVI zh mv_Y_65 dX9_canSplit_35 ck_Y rfl (s_X9_cellOf g r5 ha1 hG) ⟨Nat.le_of_ble_eq_true rfl, Nat.le_of_ble_eq_true rfl⟩ rfl rfl (Nat.le_of_ble_eq_true rfl) ?_
              rintro x18 _ _ ⟨rfl, rfl, hx18, hc18⟩
              refine y_iadd zh dX9_canSplit_38 hx17 hx18 (u := 60) (v := 347) rfl rfl (by decide) (by decide) (fun x19 hc19 hx19 => ?_)
              refine y_iald zh ck_now dX9_canSplit_39 hx19 (by decide) (by decide) (fun x20 ex20 => ?_)
              refine z_iloadn zh dX9_canSplit_40 rfl ?_
              refine z_callVI zh mv_Y_307 dX9_canSplit_41 ck_Y rfl (s_X9_canGrow g ha2 hG) ⟨Nat.le_of_ble_eq_true rfl, Nat.le_of_ble_eq_true rfl⟩ rfl rfl (Nat.le_of_ble_eq_true rfl) ?_
              rintro x21 _ _ ⟨rfl, rfl, hx21⟩
              refine z_if_ne (tgt := 49) zh dX9_canSplit_44 rfl (fun q22 => ?_) (fun q22 => ?_)
              · have r23 : Ra 1 1 x21 := rb_ne_lo hx21 ra_z q22 (by decide)
                refine y_iinc (L' := fun z => [some (rf g 551), some (.int a1), some (.int a2), some (.int x1), some (.int z)]) zh dX9_canSplit_49 (by decide) rfl (by decide +kernel) r15 (u := 1) (v := 4) rfl rfl (by decide) (by decide) (fun _ => rfl) (fun x24 hc24 hx24 => ?_)
                refine z_goto (tgt := 13) zh dX9_canSplit_52 rfl ?_
                exact ih13 x24 (ra_w hx24 (by decide) (by decide)) (ms_up hc24 (by decide) hn13)
              · have r25 := rb_eq (u := 0) (v := 0) hx21 ra_z q22 (by decide) (by decide)
                refine z_iconst zh dX9_canSplit_47 ki_0 ?_
                exact z_zret zh dX9_canSplit_48 (ra_01 (ra_w rl_0 (by decide) (by decide))) ⟨_, rfl, rfl, rfl, (ra_w rl_0 (by decide) (by decide))⟩
        exact J13 5 (nI 0) (ra_w rl_0 (by decide) (by decide)) (ms_u0 rl_0 (by decide))
  exact J2 13 (nI 0) (ra_w rl_0 (by decide) (by decide)) (ms_u0 rl_0 (by decide))
set_option maxRecDepth 20000 in
theorem s_X9_cash (g : GE) {sp : Nat → Nat → Bool} {σ : Iv} {iv : Iv} {lv : Lv} {a1 : Int32}  (hG : SI sp σ iv)  : ConL g yX9_cash cX9_cash 2 (some .long) 3 [rf g 551, .int a1] iv lv (fun r iv lv => SI sp σ iv ∧ True) := by
  refine con_intro (own := "RollingNetsModel") (by decide +kernel) rfl (Nat.le_of_ble_eq_true rfl) (L0 := [some (rf g 551), some (.int a1)]) rfl (fun Z zh => ?_)
  refine z_aloadnR zh dX9_cash_0 rfl ?_
  refine z_iconst zh dX9_cash_1 ki_0 ?_
  refine z_putI zh fl_Y_58 dX9_cash_2 ck_Y rfl rfl (Nat.le_of_ble_eq_true rfl) (Or.inl rfl) ?_
  have hG : SI sp σ (upI iv 551 0 (nI 0)) := si_w (k := 551) (j := 0) hG (by decide) (by decide) (sp_no hG ((spc_Y (q := 0)).trans rfl)) (fun lo hi q => (rx_none rfl) lo hi ((rg_Y (q := 0)).symm.trans q))
  have em1 : upI iv 551 0 (nI 0) 551 0 = nI 0 := by rw [upI_at, if_pos ⟨rfl, rfl⟩]
  generalize upI iv 551 0 (nI 0) = iv at hG em1 ⊢
  refine z_aloadnR zh dX9_cash_5 rfl ?_
  refine z_iloadn zh dX9_cash_6 rfl ?_
  refine z_callVI zh mv_Y_90 dX9_cash_7 ck_Y rfl (s_X9_isMember g  hG) ⟨Nat.le_of_ble_eq_true rfl, Nat.le_of_ble_eq_true rfl⟩ rfl rfl (Nat.le_of_ble_eq_true rfl) ?_
  rintro x2 _ _ ⟨rfl, rfl, hx2, hz3⟩
  refine z_if_eq (tgt := 22) zh dX9_cash_10 rfl (fun q4 => ?_) (fun q4 => ?_)
  · have r5 := rb_eq (u := 0) (v := 0) hx2 ra_z q4 (by decide) (by decide)
    refine z_lconst (v := 0) zh dX9_cash_22 (by decide) ?_
    exact z_lret zh dX9_cash_23 ⟨_, rfl, hG, trivial⟩
  · have r6 : Ra 1 1 x2 := rb_ne_lo hx2 ra_z q4 (by decide)
    have r7 : Ra 0 11 a1 := (hz3 q4)
    refine z_aloadnR zh dX9_cash_13 rfl ?_
    refine z_getf zh fl_Y_16 dX9_cash_14 ck_Y rfl rfl ?_
    refine z_iloadn zh dX9_cash_17 rfl ?_
    refine y_lald zh ck_coins dX9_cash_18 r7 (by decide) (by decide) (fun l8 => ?_)
    refine z_goto (tgt := 23) zh dX9_cash_19 rfl ?_
    exact z_lret zh dX9_cash_23 ⟨_, rfl, hG, trivial⟩
set_option maxRecDepth 20000 in
theorem s_X9_isRipe (g : GE) {sp : Nat → Nat → Bool} {σ : Iv} {iv : Iv} {lv : Lv} {a1 : Int32} {a2 : Int32} {a3 : Int32} (ha1 : Ra 0 199 a1) (ha2 : Ra 0 5 a2) (ha3 : Ra 0 1 a3) (hG : SI sp σ iv)  : ConI g yX9_isRipe cX9_isRipe 4 (some .boolean) 3 [rf g 551, .int a1, .int a2, .int a3] iv lv (fun r iv' lv' => iv = iv' ∧ lv = lv' ∧ Ra 0 1 r) := by
  refine con_intro (own := "RollingNetsModel") (by decide +kernel) rfl (Nat.le_of_ble_eq_true rfl) (L0 := [some (rf g 551), some (.int a1), some (.int a2), some (.int a3)]) rfl (fun Z zh => ?_)
  refine z_aloadnR zh dX9_isRipe_0 rfl ?_
  refine z_iloadn zh dX9_isRipe_1 rfl ?_
  refine z_iconst zh dX9_isRipe_2 ki_2 ?_
  refine z_callVI zh mv_Y_151 dX9_isRipe_3 ck_Y rfl (s_X9_tradeOf g ha1 (ra_w rl_2 (by decide) (by decide)) hG) ⟨Nat.le_of_ble_eq_true rfl, Nat.le_of_ble_eq_true rfl⟩ rfl rfl (Nat.le_of_ble_eq_true rfl) ?_
  rintro x1 _ _ ⟨rfl, rfl, z2, ez2, ex1⟩
  have hx1 : Ra 0 5 x1 := ra_of ex1 (nr_t2 hG a1.toInt (by have := ha1.1; have := ha1.2; have := rl_2.1; have := rl_2.2; omega) (by have := ha1.1; have := ha1.2; have := rl_2.1; have := rl_2.2; omega) (by have := ha1.1; have := ha1.2; have := rl_2.1; have := rl_2.2; omega))
  refine z_iloadn zh dX9_isRipe_6 rfl ?_
  refine z_icmp_ne (tgt := 51) zh dX9_isRipe_7 rfl (fun q3 => ?_) (fun q3 => ?_)
  · refine z_iconst zh dX9_isRipe_51 ki_0 ?_
    exact z_zret zh dX9_isRipe_52 (ra_01 (ra_w rl_0 (by decide) (by decide))) ⟨_, rfl, rfl, rfl, (ra_w rl_0 (by decide) (by decide))⟩
  · refine z_aloadnR zh dX9_isRipe_10 rfl ?_
    refine z_iloadn zh dX9_isRipe_11 rfl ?_
    refine z_iconst zh dX9_isRipe_12 ki_5 ?_
    refine z_callVI zh mv_Y_151 dX9_isRipe_13 ck_Y rfl (s_X9_tradeOf g ha1 (ra_w rl_5 (by decide) (by decide)) hG) ⟨Nat.le_of_ble_eq_true rfl, Nat.le_of_ble_eq_true rfl⟩ rfl rfl (Nat.le_of_ble_eq_true rfl) ?_
    rintro x5 _ _ ⟨rfl, rfl, z6, ez6, ex5⟩
    refine z_iloadn zh dX9_isRipe_16 rfl ?_
    refine z_icmp_ne (tgt := 51) zh dX9_isRipe_17 rfl (fun q7 => ?_) (fun q7 => ?_)
    · refine z_iconst zh dX9_isRipe_51 ki_0 ?_
      exact z_zret zh dX9_isRipe_52 (ra_01 (ra_w rl_0 (by decide) (by decide))) ⟨_, rfl, rfl, rfl, (ra_w rl_0 (by decide) (by decide))⟩
    · have r8 := rb_eq (u := 0) (v := 1) (ra_tt x5) ha3 q7 (by decide) (by decide)
      refine z_aloadnR zh dX9_isRipe_20 rfl ?_
      refine z_iloadn zh dX9_isRipe_21 rfl ?_
      refine z_bipush zh dX9_isRipe_22 kb_7 ?_
      refine z_callVI zh mv_Y_151 dX9_isRipe_24 ck_Y rfl (s_X9_tradeOf g ha1 (ra_w rl_7 (by decide) (by decide)) hG) ⟨Nat.le_of_ble_eq_true rfl, Nat.le_of_ble_eq_true rfl⟩ rfl rfl (Nat.le_of_ble_eq_true rfl) ?_
      rintro x9 _ _ ⟨rfl, rfl, z10, ez10, ex9⟩
      refine z_if_le (tgt := 51) zh dX9_isRipe_27 rfl (fun q11 => ?_) (fun q11 => ?_)
      · have r12 : Ra (-2147483648) 0 x9 := rb_le_l ra_z (ra_tt x9) q11 (by decide)
        refine z_iconst zh dX9_isRipe_51 ki_0 ?_
        exact z_zret zh dX9_isRipe_52 (ra_01 (ra_w rl_0 (by decide) (by decide))) ⟨_, rfl, rfl, rfl, (ra_w rl_0 (by decide) (by decide))⟩
      · have r13 : Ra 1 2147483647 x9 := rb_lt_r ra_z (ra_tt x9) (rb_nle q11) (by decide)
        refine z_aloadnR zh dX9_isRipe_30 rfl ?_
        refine z_iloadn zh dX9_isRipe_31 rfl ?_
        refine z_bipush zh dX9_isRipe_32 kb_6 ?_
        refine z_callVI zh mv_Y_151 dX9_isRipe_34 ck_Y rfl (s_X9_tradeOf g ha1 (ra_w rl_6 (by decide) (by decide)) hG) ⟨Nat.le_of_ble_eq_true rfl, Nat.le_of_ble_eq_true rfl⟩ rfl rfl (Nat.le_of_ble_eq_true rfl) ?_
        rintro x14 _ _ ⟨rfl, rfl, z15, ez15, ex14⟩
        refine z_aloadnR zh dX9_isRipe_37 rfl ?_
        refine z_getf zh fl_Y_7 dX9_isRipe_38 ck_Y rfl rfl ?_
        refine z_bipush zh dX9_isRipe_41 kb_6 ?_
        refine y_ialdN zh ck_now dX9_isRipe_43 (by decide) (fun x16 ex16 => ?_)
        have hx16 : Ra 0 99 x16 := ra_of ex16 (nr_l hG 6 rfl)
        refine z_icmp_gt (tgt := 51) zh dX9_isRipe_44 rfl (fun q17 => ?_) (fun q17 => ?_)
        · have r18 : Ra 1 2147483647 x14 := rb_lt_r hx16 (ra_tt x14) q17 (by decide)
          refine z_iconst zh dX9_isRipe_51 ki_0 ?_
          exact z_zret zh dX9_isRipe_52 (ra_01 (ra_w rl_0 (by decide) (by decide))) ⟨_, rfl, rfl, rfl, (ra_w rl_0 (by decide) (by decide))⟩
        · have r19 : Ra (-2147483648) 99 x14 := rb_le_l hx16 (ra_tt x14) (rb_nlt q17) (by decide)
          refine z_iconst zh dX9_isRipe_47 ki_1 ?_
          refine z_goto (tgt := 52) zh dX9_isRipe_48 rfl ?_
          exact z_zret zh dX9_isRipe_52 (ra_01 (ra_w rl_1 (by decide) (by decide))) ⟨_, rfl, rfl, rfl, (ra_w rl_1 (by decide) (by decide))⟩
set_option maxRecDepth 20000 in
theorem s_X9_nextOfChain (g : GE) {sp : Nat → Nat → Bool} {σ : Iv} {iv : Iv} {lv : Lv} {a1 : Int32} {a2 : Int32} {a3 : Int32} {a4 : Int32} (ha1 : Ra 0 11 a1) (ha2 : Ra 0 5 a2) (hG : SI sp σ iv)  : ConI g yX9_nextOfChain cX9_nextOfChain 7 (some .int) 4 [rf g 551, .int a1, .int a2, .int a3, .int a4] iv lv (fun r iv' lv' => iv = iv' ∧ lv = lv' ∧ Ra (-1) 199 r) := by
  refine con_intro (own := "RollingNetsModel") (by decide +kernel) rfl (Nat.le_of_ble_eq_true rfl) (L0 := [some (rf g 551), some (.int a1), some (.int a2), some (.int a3), some (.int a4), none, none]) rfl (fun Z zh => ?_)
  refine z_iconst zh dX9_nextOfChain_0 ki_m1 ?_
  refine z_istore zh dX9_nextOfChain_1 (by decide) (L' := [some (rf g 551), some (.int a1), some (.int a2), some (.int a3), some (.int a4), some (.int (-1)), none]) rfl ?_
  refine z_iconst zh dX9_nextOfChain_3 ki_0 ?_
  refine z_istore zh dX9_nextOfChain_4 (by decide) (L' := [some (rf g 551), some (.int a1), some (.int a2), some (.int a3), some (.int a4), some (.int (-1)), some (.int (nI 0))]) rfl ?_
  have J6 : ∀ (n : Nat) (x1 : Int32) (x2 : Int32), Ra (-1) 199 x1 → Ra 0 200 x2 → 200 - x2.toInt < (n : Int) → Z 6 [some (rf g 551), some (.int a1), some (.int a2), some (.int a3), some (.int a4), some (.int x1), some (.int x2)] [] iv lv := by
    intro n
    induction n with
    | zero => intro x1 x2 hx1 hx2 hn6; exact (ms_uz hx2 hn6).elim
    | succ n ih6 =>
      intro x1 x2 hx1 hx2 hn6
      refine z_iload zh dX9_nextOfChain_6 rfl ?_
      refine z_aloadnR zh dX9_nextOfChain_8 rfl ?_
      refine z_getf zh fl_Y_7 dX9_nextOfChain_9 ck_Y rfl rfl ?_
      refine z_bipush zh dX9_nextOfChain_12 kb_7 ?_
      refine y_ialdN zh ck_now dX9_nextOfChain_14 (by decide) (fun x3 ex3 => ?_)
      have hx3 : Ra 0 200 x3 := ra_of ex3 (nr_l hG 7 rfl)
      refine z_icmp_ge (tgt := 106) zh dX9_nextOfChain_15 rfl (fun q4 => ?_) (fun q4 => ?_)
      · refine z_iload zh dX9_nextOfChain_106 rfl ?_
        exact z_iret zh dX9_nextOfChain_108 ⟨_, rfl, rfl, rfl, hx1⟩
      · have r5 : Ra 0 199 x2 := rb_lt_l hx3 hx2 (rb_nle q4) (by decide)
        have r6 : Ra 1 200 x3 := rb_lt_r hx2 hx3 (rb_nle q4) (by decide)
        refine z_aloadnR zh dX9_nextOfChain_18 rfl ?_
        refine z_iload zh dX9_nextOfChain_19 rfl ?_
        refine z_iloadn zh dX9_nextOfChain_21 rfl ?_
        refine z_iconst zh dX9_nextOfChain_22 ki_1 ?_
        refine z_callVI zh mv_Y_217 dX9_nextOfChain_23 ck_Y rfl (s_X9_isRipe g r5 ha2 (ra_w rl_1 (by decide) (by decide)) hG) ⟨Nat.le_of_ble_eq_true rfl, Nat.le_of_ble_eq_true rfl⟩ rfl rfl (Nat.le_of_ble_eq_true rfl) ?_
        rintro x7 _ _ ⟨rfl, rfl, hx7⟩
        have J100 : ∀ (x8 : Int32), Ra (-1) 199 x8 → Z 100 [some (rf g 551), some (.int a1), some (.int a2), some (.int a3), some (.int a4), some (.int x8), some (.int x2)] [] iv lv := by
          intro x8 hx8
          refine y_iinc (L' := fun z => [some (rf g 551), some (.int a1), some (.int a2), some (.int a3), some (.int a4), some (.int x8), some (.int z)]) zh dX9_nextOfChain_100 (by decide) rfl (by decide +kernel) r5 (u := 1) (v := 200) rfl rfl (by decide) (by decide) (fun _ => rfl) (fun x9 hc9 hx9 => ?_)
          refine z_goto (tgt := 6) zh dX9_nextOfChain_103 rfl ?_
          exact ih6 x8 x9 hx8 (ra_w hx9 (by decide) (by decide)) (ms_up hc9 (by decide) hn6)
        refine z_if_eq (tgt := 100) zh dX9_nextOfChain_26 rfl (fun q10 => ?_) (fun q10 => ?_)
        · have r11 := rb_eq (u := 0) (v := 0) hx7 ra_z q10 (by decide) (by decide)
          exact J100 x1 hx1
        · have r12 : Ra 1 1 x7 := rb_ne_lo hx7 ra_z q10 (by decide)
          refine z_aloadnR zh dX9_nextOfChain_29 rfl ?_
          refine z_iload zh dX9_nextOfChain_30 rfl ?_
          refine z_iconst zh dX9_nextOfChain_32 ki_0 ?_
          refine z_callVI zh mv_Y_151 dX9_nextOfChain_33 ck_Y rfl (s_X9_tradeOf g r5 (ra_w rl_0 (by decide) (by decide)) hG) ⟨Nat.le_of_ble_eq_true rfl, Nat.le_of_ble_eq_true rfl⟩ rfl rfl (Nat.le_of_ble_eq_true rfl) ?_
          rintro x13 _ _ ⟨rfl, rfl, z14, ez14, ex13⟩
          have hx13 : Ra 0 11 x13 := ra_of ex13 (nr_t01 hG x2.toInt (by have := r5.1; have := r5.2; have := rl_0.1; have := rl_0.2; omega) (by have := r5.1; have := r5.2; have := rl_0.1; have := rl_0.2; omega) (by have := r5.1; have := r5.2; have := rl_0.1; have := rl_0.2; omega))
          refine z_iloadn zh dX9_nextOfChain_36 rfl ?_
          refine z_icmp_ne (tgt := 100) zh dX9_nextOfChain_37 rfl (fun q15 => ?_) (fun q15 => ?_)
          · exact J100 x1 hx1
          · refine z_aloadnR zh dX9_nextOfChain_40 rfl ?_
            refine z_iload zh dX9_nextOfChain_41 rfl ?_
            refine z_bipush zh dX9_nextOfChain_43 kb_7 ?_
            refine z_callVI zh mv_Y_151 dX9_nextOfChain_45 ck_Y rfl (s_X9_tradeOf g r5 (ra_w rl_7 (by decide) (by decide)) hG) ⟨Nat.le_of_ble_eq_true rfl, Nat.le_of_ble_eq_true rfl⟩ rfl rfl (Nat.le_of_ble_eq_true rfl) ?_
            rintro x17 _ _ ⟨rfl, rfl, z18, ez18, ex17⟩
            refine z_iloadn zh dX9_nextOfChain_48 rfl ?_
            refine z_icmp_lt (tgt := 100) zh dX9_nextOfChain_49 rfl (fun q19 => ?_) (fun q19 => ?_)
            · have r20 : Ra (-2147483648) 2147483646 x17 := rb_lt_l (ra_tt a3) (ra_tt x17) q19 (by decide)
              have r21 : Ra (-2147483647) 2147483647 a3 := rb_lt_r (ra_tt x17) (ra_tt a3) q19 (by decide)
              exact J100 x1 hx1
            · refine z_aloadnR zh dX9_nextOfChain_52 rfl ?_
              refine z_iload zh dX9_nextOfChain_53 rfl ?_
              refine z_aloadnR zh dX9_nextOfChain_55 rfl ?_
              refine z_iload zh dX9_nextOfChain_56 rfl ?_
              refine z_iconst zh dX9_nextOfChain_58 ki_1 ?_
              refine z_callVI zh mv_Y_151 dX9_nextOfChain_59 ck_Y rfl (s_X9_tradeOf g r5 (ra_w rl_1 (by decide) (by decide)) hG) ⟨Nat.le_of_ble_eq_true rfl, Nat.le_of_ble_eq_true rfl⟩ rfl rfl (Nat.le_of_ble_eq_true rfl) ?_
              rintro x22 _ _ ⟨rfl, rfl, z23, ez23, ex22⟩
              have hx22 : Ra 0 11 x22 := ra_of ex22 (nr_t01 hG x2.toInt (by have := r5.1; have := r5.2; have := rl_1.1; have := rl_1.2; omega) (by have := r5.1; have := r5.2; have := rl_1.1; have := rl_1.2; omega) (by have := r5.1; have := r5.2; have := rl_1.1; have := rl_1.2; omega))
              refine z_callVI zh mv_Y_69 dX9_nextOfChain_62 ck_Y rfl (s_X9_has g hx22 hG) ⟨Nat.le_of_ble_eq_true rfl, Nat.le_of_ble_eq_true rfl⟩ rfl rfl (Nat.le_of_ble_eq_true rfl) ?_
              rintro x24 _ _ ⟨rfl, rfl, hx24⟩
              refine z_if_eq (tgt := 71) zh dX9_nextOfChain_65 rfl (fun q25 => ?_) (fun q25 => ?_)
              · have r26 := rb_eq (u := 0) (v := 0) hx24 ra_z q25 (by decide) (by decide)
                refine z_iload zh dX9_nextOfChain_71 rfl ?_
                refine z_iconst zh dX9_nextOfChain_73 ki_m1 ?_
                have J96 : Z 96 [some (rf g 551), some (.int a1), some (.int a2), some (.int a3), some (.int a4), some (.int x1), some (.int x2)] [] iv lv := by
                  refine z_iload zh dX9_nextOfChain_96 rfl ?_
                  refine z_istore zh dX9_nextOfChain_98 (by decide) (L' := [some (rf g 551), some (.int a1), some (.int a2), some (.int a3), some (.int a4), some (.int x2), some (.int x2)]) rfl ?_
                  exact J100 x2 (ra_w r5 (by decide) (by decide))
                refine z_icmp_eq (tgt := 96) zh dX9_nextOfChain_74 rfl (fun q27 => ?_) (fun q27 => ?_)
                · have r28 := rb_eq (u := (-1)) (v := (-1)) hx1 rl_n1 q27 (by decide) (by decide)
                  exact J96
                · have r29 : Ra 0 199 x1 := rb_ne_lo hx1 rl_n1 q27 (by decide)
                  refine z_aloadnR zh dX9_nextOfChain_77 rfl ?_
                  refine z_iload zh dX9_nextOfChain_78 rfl ?_
                  refine z_bipush zh dX9_nextOfChain_80 kb_6 ?_
                  refine z_callVI zh mv_Y_151 dX9_nextOfChain_82 ck_Y rfl (s_X9_tradeOf g r5 (ra_w rl_6 (by decide) (by decide)) hG) ⟨Nat.le_of_ble_eq_true rfl, Nat.le_of_ble_eq_true rfl⟩ rfl rfl (Nat.le_of_ble_eq_true rfl) ?_
                  rintro x30 _ _ ⟨rfl, rfl, z31, ez31, ex30⟩
                  refine z_aloadnR zh dX9_nextOfChain_85 rfl ?_
                  refine z_iload zh dX9_nextOfChain_86 rfl ?_
                  refine z_bipush zh dX9_nextOfChain_88 kb_6 ?_
                  refine z_callVI zh mv_Y_151 dX9_nextOfChain_90 ck_Y rfl (s_X9_tradeOf g r29 (ra_w rl_6 (by decide) (by decide)) hG) ⟨Nat.le_of_ble_eq_true rfl, Nat.le_of_ble_eq_true rfl⟩ rfl rfl (Nat.le_of_ble_eq_true rfl) ?_
                  rintro x32 _ _ ⟨rfl, rfl, z33, ez33, ex32⟩
                  refine z_icmp_ge (tgt := 100) zh dX9_nextOfChain_93 rfl (fun q34 => ?_) (fun q34 => ?_)
                  · exact J100 x1 (ra_w r29 (by decide) (by decide))
                  · have r35 : Ra (-2147483648) 2147483646 x30 := rb_lt_l (ra_tt x32) (ra_tt x30) (rb_nle q34) (by decide)
                    have r36 : Ra (-2147483647) 2147483647 x32 := rb_lt_r (ra_tt x30) (ra_tt x32) (rb_nle q34) (by decide)
                    exact J96
              · have r37 : Ra 1 1 x24 := rb_ne_lo hx24 ra_z q25 (by decide)
                refine z_goto (tgt := 100) zh dX9_nextOfChain_68 rfl ?_
                exact J100 x1 hx1
  exact J6 201 (-1) (nI 0) (ra_w rl_n1 (by decide) (by decide)) (ra_w rl_0 (by decide) (by decide)) (ms_u0 rl_0 (by decide))
