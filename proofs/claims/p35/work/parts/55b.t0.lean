set_option maxRecDepth 20000 in
theorem t_X9_cellOf (g : GE) {iv : Iv} {lv : Lv} {a1 : Int32} {a2 : Int32} (ha1 : Ra 0 11 a1) (ha2 : Ra 0 5 a2) (hG : S0 iv)  : ConI g yX9_cellOf cX9_cellOf 3 (some .int) 1 [rf g 551, .int a1, .int a2] iv lv (fun r iv' lv' => iv = iv' ∧ lv = lv' ∧ Ra 0 71 r ∧ r.toInt = 0 + 6 * a1.toInt + 1 * a2.toInt) := by
  refine con_intro (own := "RollingNetsModel") (by decide +kernel) rfl (Nat.le_of_ble_eq_true rfl) (L0 := [some (rf g 551), some (.int a1), some (.int a2)]) rfl (fun Z zh => ?_)
  refine z_bipush zh dX9_cellOf_0 kb_6 ?_
  refine z_iloadn zh dX9_cellOf_2 rfl ?_
  refine y_imul2 zh dX9_cellOf_3 ha1 rl_6 (by decide) (u := 0) (v := 66) rfl rfl (by decide) (by decide) (fun x1 hc1 hx1 => ?_)
  refine z_iloadn zh dX9_cellOf_4 rfl ?_
  refine y_iadd zh dX9_cellOf_5 hx1 ha2 (u := 0) (v := 71) rfl rfl (by decide) (by decide) (fun x2 hc2 hx2 => ?_)
  exact z_iret zh dX9_cellOf_6 ⟨_, rfl, rfl, rfl, hx2, (by have := rl_6.1; have := rl_6.2; have := ha1.1; have := ha1.2; have := ha2.1; have := ha2.2; omega)⟩
set_option maxRecDepth 20000 in
theorem t_X9_lotAt (g : GE) {iv : Iv} {lv : Lv} {a1 : Int32} {a2 : Int32} {a3 : Int32} (ha1 : Ra 0 11 a1) (ha2 : Ra 0 5 a2) (ha3 : Ra 0 101 a3) (hG : S0 iv)  : ConI g yX9_lotAt cX9_lotAt 4 (some .int) 2 [rf g 551, .int a1, .int a2, .int a3] iv lv (fun r iv' lv' => iv = iv' ∧ lv = lv' ∧ Ra 0 7343 r ∧ r.toInt = 0 + 612 * a1.toInt + 102 * a2.toInt + 1 * a3.toInt) := by
  refine con_intro (own := "RollingNetsModel") (by decide +kernel) rfl (Nat.le_of_ble_eq_true rfl) (L0 := [some (rf g 551), some (.int a1), some (.int a2), some (.int a3)]) rfl (fun Z zh => ?_)
  refine z_bipush zh dX9_lotAt_0 kb_102 ?_
  refine z_aloadnR zh dX9_lotAt_2 rfl ?_
  refine z_iloadn zh dX9_lotAt_3 rfl ?_
  refine z_iloadn zh dX9_lotAt_4 rfl ?_
  refine z_callVI zh mv_Y_65 dX9_lotAt_5 ck_Y rfl (t_X9_cellOf g ha1 ha2 hG) ⟨Nat.le_of_ble_eq_true rfl, Nat.le_of_ble_eq_true rfl⟩ rfl rfl (Nat.le_of_ble_eq_true rfl) ?_
  rintro x1 _ _ ⟨rfl, rfl, hx1, hc1⟩
  refine y_imul2 zh dX9_lotAt_8 hx1 rl_102 (by decide) (u := 0) (v := 7242) rfl rfl (by decide) (by decide) (fun x2 hc2 hx2 => ?_)
  refine z_iloadn zh dX9_lotAt_9 rfl ?_
  refine y_iadd zh dX9_lotAt_10 hx2 ha3 (u := 0) (v := 7343) rfl rfl (by decide) (by decide) (fun x3 hc3 hx3 => ?_)
  exact z_iret zh dX9_lotAt_11 ⟨_, rfl, rfl, rfl, hx3, (by have := rl_102.1; have := rl_102.2; have := ha1.1; have := ha1.2; have := ha2.1; have := ha2.2; have := ha3.1; have := ha3.2; omega)⟩
set_option maxRecDepth 20000 in
theorem t_X9_dayOf (g : GE) {iv : Iv} {lv : Lv} {a1 : Int32} {a2 : Int32} {a3 : Int32} (ha1 : Ra 0 11 a1) (ha2 : Ra 0 5 a2) (ha3 : Ra 0 101 a3) (hG : S0 iv)  : ConI g yX9_dayOf cX9_dayOf 4 (some .int) 3 [rf g 551, .int a1, .int a2, .int a3] iv lv (fun r iv' lv' => iv = iv' ∧ lv = lv' ∧ Ra 0 99 r ∧ ∃ z : Int32, z.toInt = 420 + 612 * a1.toInt + 102 * a2.toInt + a3.toInt ∧ iv 552 z.toNatClampNeg = r) := by
  refine con_intro (own := "RollingNetsModel") (by decide +kernel) rfl (Nat.le_of_ble_eq_true rfl) (L0 := [some (rf g 551), some (.int a1), some (.int a2), some (.int a3)]) rfl (fun Z zh => ?_)
  refine z_aloadnR zh dX9_dayOf_0 rfl ?_
  refine z_getf zh fl_Y_7 dX9_dayOf_1 ck_Y rfl rfl ?_
  refine z_sipush zh dX9_dayOf_4 ks_420 ?_
  refine z_aloadnR zh dX9_dayOf_7 rfl ?_
  refine z_iloadn zh dX9_dayOf_8 rfl ?_
  refine z_iloadn zh dX9_dayOf_9 rfl ?_
  refine z_iloadn zh dX9_dayOf_10 rfl ?_
  refine z_callVI zh mv_Y_106 dX9_dayOf_11 ck_Y rfl (t_X9_lotAt g ha1 ha2 ha3 hG) ⟨Nat.le_of_ble_eq_true rfl, Nat.le_of_ble_eq_true rfl⟩ rfl rfl (Nat.le_of_ble_eq_true rfl) ?_
  rintro x1 _ _ ⟨rfl, rfl, hx1, hc1⟩
  refine y_iadd zh dX9_dayOf_14 rl_420 hx1 (u := 420) (v := 7763) rfl rfl (by decide) (by decide) (fun x2 hc2 hx2 => ?_)
  refine y_iald zh ck_now dX9_dayOf_15 hx2 (by decide) (by decide) (fun x3 ex3 => ?_)
  have hx3 : Ra 0 99 x3 := ra_of ex3 (nr_ld0 hG (by have := rl_420.1; have := rl_420.2; have := ha1.1; have := ha1.2; have := ha2.1; have := ha2.2; have := ha3.1; have := ha3.2; omega) (by have := rl_420.1; have := rl_420.2; have := ha1.1; have := ha1.2; have := ha2.1; have := ha2.2; have := ha3.1; have := ha3.2; omega))
  exact z_iret zh dX9_dayOf_16 ⟨_, rfl, rfl, rfl, hx3, ⟨x2, (by have := rl_420.1; have := rl_420.2; have := ha1.1; have := ha1.2; have := ha2.1; have := ha2.2; have := ha3.1; have := ha3.2; omega), ex3⟩⟩
set_option maxRecDepth 20000 in
theorem t_X9_lotMany (g : GE) {iv : Iv} {lv : Lv} {a1 : Int32} {a2 : Int32} (ha1 : Ra 0 11 a1) (ha2 : Ra 0 5 a2) (hG : S0 iv)  : ConI g yX9_lotMany cX9_lotMany 3 (some .int) 2 [rf g 551, .int a1, .int a2] iv lv (fun r iv' lv' => iv = iv' ∧ lv = lv' ∧ Ra 0 100 r ∧ ∃ z : Int32, z.toInt = 348 + 6 * a1.toInt + a2.toInt ∧ iv 552 z.toNatClampNeg = r) := by
  refine con_intro (own := "RollingNetsModel") (by decide +kernel) rfl (Nat.le_of_ble_eq_true rfl) (L0 := [some (rf g 551), some (.int a1), some (.int a2)]) rfl (fun Z zh => ?_)
  refine z_aloadnR zh dX9_lotMany_0 rfl ?_
  refine z_getf zh fl_Y_7 dX9_lotMany_1 ck_Y rfl rfl ?_
  refine z_sipush zh dX9_lotMany_4 ks_348 ?_
  refine z_aloadnR zh dX9_lotMany_7 rfl ?_
  refine z_iloadn zh dX9_lotMany_8 rfl ?_
  refine z_iloadn zh dX9_lotMany_9 rfl ?_
  refine z_callVI zh mv_Y_65 dX9_lotMany_10 ck_Y rfl (t_X9_cellOf g ha1 ha2 hG) ⟨Nat.le_of_ble_eq_true rfl, Nat.le_of_ble_eq_true rfl⟩ rfl rfl (Nat.le_of_ble_eq_true rfl) ?_
  rintro x1 _ _ ⟨rfl, rfl, hx1, hc1⟩
  refine y_iadd zh dX9_lotMany_13 rl_348 hx1 (u := 348) (v := 419) rfl rfl (by decide) (by decide) (fun x2 hc2 hx2 => ?_)
  refine y_iald zh ck_now dX9_lotMany_14 hx2 (by decide) (by decide) (fun x3 ex3 => ?_)
  have hx3 : Ra 0 100 x3 := ra_of ex3 (nr_lm0 hG (by have := rl_348.1; have := rl_348.2; have := ha1.1; have := ha1.2; have := ha2.1; have := ha2.2; omega) (by have := rl_348.1; have := rl_348.2; have := ha1.1; have := ha1.2; have := ha2.1; have := ha2.2; omega))
  exact z_iret zh dX9_lotMany_15 ⟨_, rfl, rfl, rfl, hx3, ⟨x2, (by have := rl_348.1; have := rl_348.2; have := ha1.1; have := ha1.2; have := ha2.1; have := ha2.2; omega), ex3⟩⟩
set_option maxRecDepth 20000 in
theorem t_X9_sharesOf (g : GE) {iv : Iv} {lv : Lv} {a1 : Int32} {a2 : Int32} {a3 : Int32} (ha1 : Ra 0 11 a1) (ha2 : Ra 0 5 a2) (ha3 : Ra 0 101 a3) (hG : S0 iv)  : ConI g yX9_sharesOf cX9_sharesOf 4 (some .int) 3 [rf g 551, .int a1, .int a2, .int a3] iv lv (fun r iv' lv' => iv = iv' ∧ lv = lv' ∧ ∃ z : Int32, z.toInt = 7764 + 612 * a1.toInt + 102 * a2.toInt + a3.toInt ∧ iv 552 z.toNatClampNeg = r) := by
  refine con_intro (own := "RollingNetsModel") (by decide +kernel) rfl (Nat.le_of_ble_eq_true rfl) (L0 := [some (rf g 551), some (.int a1), some (.int a2), some (.int a3)]) rfl (fun Z zh => ?_)
  refine z_aloadnR zh dX9_sharesOf_0 rfl ?_
  refine z_getf zh fl_Y_7 dX9_sharesOf_1 ck_Y rfl rfl ?_
  refine z_sipush zh dX9_sharesOf_4 ks_7764 ?_
  refine z_aloadnR zh dX9_sharesOf_7 rfl ?_
  refine z_iloadn zh dX9_sharesOf_8 rfl ?_
  refine z_iloadn zh dX9_sharesOf_9 rfl ?_
  refine z_iloadn zh dX9_sharesOf_10 rfl ?_
  refine z_callVI zh mv_Y_106 dX9_sharesOf_11 ck_Y rfl (t_X9_lotAt g ha1 ha2 ha3 hG) ⟨Nat.le_of_ble_eq_true rfl, Nat.le_of_ble_eq_true rfl⟩ rfl rfl (Nat.le_of_ble_eq_true rfl) ?_
  rintro x1 _ _ ⟨rfl, rfl, hx1, hc1⟩
  refine y_iadd zh dX9_sharesOf_14 rl_7764 hx1 (u := 7764) (v := 15107) rfl rfl (by decide) (by decide) (fun x2 hc2 hx2 => ?_)
  refine y_iald zh ck_now dX9_sharesOf_15 hx2 (by decide) (by decide) (fun x3 ex3 => ?_)
  exact z_iret zh dX9_sharesOf_16 ⟨_, rfl, rfl, rfl, ⟨x2, (by have := rl_7764.1; have := rl_7764.2; have := ha1.1; have := ha1.2; have := ha2.1; have := ha2.2; have := ha3.1; have := ha3.2; omega), ex3⟩⟩
