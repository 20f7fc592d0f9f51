set_option maxRecDepth 20000 in
theorem s_X3_takeOff (g : GE) {sp : Nat → Nat → Bool} {σ : Iv} {iv : Iv} {lv : Lv} {m : Nat} {a1 : Int32} {a2 : Int32} (hm : isM m) (ha1 : Ra 0 11 a1) (hG : SI sp σ iv)  : ConV g yX3_takeOff cX3_takeOff 7 none 2 [rf g m, .int a1, .int a2] iv lv (fun iv lv => SI sp σ iv) := by
  refine con_intro (own := "RollingNets$Market") (by decide +kernel) rfl (Nat.le_of_ble_eq_true rfl) (L0 := [some (rf g m), some (.int a1), some (.int a2), none, none, none, none]) rfl (fun Z zh => ?_)
  refine z_iloadn zh dX3_takeOff_0 rfl ?_
  refine z_istoren zh dX3_takeOff_1 (by decide) (L' := [some (rf g m), some (.int a1), some (.int a2), some (.int a2), none, none, none]) rfl ?_
  refine z_iconst zh dX3_takeOff_2 ki_0 ?_
  refine z_istore zh dX3_takeOff_3 (by decide) (L' := [some (rf g m), some (.int a1), some (.int a2), some (.int a2), some (.int (nI 0)), none, none]) rfl ?_
  have J5 : ∀ (n : Nat) (iv : Iv) (lv : Lv) (x1 : Int32) (x2 : Int32), SI sp σ iv → Ra 0 100 x2 → 100 - x2.toInt < (n : Int) → Z 5 [some (rf g m), some (.int a1), some (.int a2), some (.int x1), some (.int x2), none, none] [] iv lv := by
    intro n
    induction n with
    | zero => intro iv lv x1 x2 hG hx2 hn5; exact (ms_uz hx2 hn5).elim
    | succ n ih5 =>
      intro iv lv x1 x2 hG hx2 hn5
      refine z_iload zh dX3_takeOff_5 rfl ?_
      refine z_aloadnR zh dX3_takeOff_7 rfl ?_
      refine y_getI zh fl_Market_46 dX3_takeOff_8 (ck_M hm) rfl rfl (fun x3 ex3 => ?_)
      have hx3 : Ra 0 100 x3 := ra_of ex3 (si_M hG hm 0 (by decide) rfl)
      refine z_icmp_ge (tgt := 71) zh dX3_takeOff_11 rfl (fun q4 => ?_) (fun q4 => ?_)
      · exact z_vret zh dX3_takeOff_71 ⟨rfl, hG⟩
      · have r5 : Ra 0 99 x2 := rb_lt_l hx3 hx2 (rb_nle q4) (by decide)
        have r6 : Ra 1 100 x3 := rb_lt_r hx2 hx3 (rb_nle q4) (by decide)
        refine z_iloadn zh dX3_takeOff_14 rfl ?_
        refine z_if_le (tgt := 71) zh dX3_takeOff_15 rfl (fun q7 => ?_) (fun q7 => ?_)
        · have r8 : Ra (-2147483648) 0 x1 := rb_le_l ra_z (ra_tt x1) q7 (by decide)
          exact z_vret zh dX3_takeOff_71 ⟨rfl, hG⟩
        · have r9 : Ra 1 2147483647 x1 := rb_lt_r ra_z (ra_tt x1) (rb_nle q7) (by decide)
          refine z_aloadnR zh dX3_takeOff_18 rfl ?_
          refine z_getf zh fl_Market_33 dX3_takeOff_19 (ck_M hm) rfl rfl ?_
          refine z_iloadn zh dX3_takeOff_22 rfl ?_
          refine y_gald zh (ck_lots hm) dX3_takeOff_23 ha1 (by decide) (by decide) (fun j10 hj10 _ _ => ?_)
          refine z_iload zh dX3_takeOff_24 rfl ?_
          refine y_iald zh (ck_row hm hj10) dX3_takeOff_26 r5 (by decide) (by decide) (fun x11 ex11 => ?_)
          refine z_istore zh dX3_takeOff_27 (by decide) (L' := [some (rf g m), some (.int a1), some (.int a2), some (.int x1), some (.int x2), some (.int x11), none]) rfl ?_
          refine z_iloadn zh dX3_takeOff_29 rfl ?_
          refine z_iload zh dX3_takeOff_30 rfl ?_
          refine y_mabsT zh ma_Market_55 mc_abs dX3_takeOff_32 ⟨Nat.le_of_ble_eq_true rfl, Nat.le_of_ble_eq_true rfl⟩ (fun x12 => ?_)
          refine y_mmin zh ma_Market_59 mc_min dX3_takeOff_35 ⟨Nat.le_of_ble_eq_true rfl, Nat.le_of_ble_eq_true rfl⟩ r9 (ra_tt x12) (u := (-2147483648)) (v := 2147483647) (by decide) (by decide) (Or.inl (by decide)) (fun x13 hx13 => ?_)
          refine z_istore zh dX3_takeOff_38 (by decide) (L' := [some (rf g m), some (.int a1), some (.int a2), some (.int x1), some (.int x2), some (.int x11), some (.int x13)]) rfl ?_
          refine z_aloadnR zh dX3_takeOff_40 rfl ?_
          refine z_iloadn zh dX3_takeOff_41 rfl ?_
          refine z_iload zh dX3_takeOff_42 rfl ?_
          refine z_iload zh dX3_takeOff_44 rfl ?_
          have J57 : ∀ (iv : Iv) (lv : Lv) (x14 : Int32), SI sp σ iv → Z 57 [some (rf g m), some (.int a1), some (.int a2), some (.int x1), some (.int x2), some (.int x11), some (.int x13)] [.int x14, .int x2, .int a1, rf g m] iv lv := by
            intro iv lv x14 hG
            refine z_callVV zh mv_Market_62 dX3_takeOff_57 (ck_M hm) rfl (s_X3_changeLot g hm ha1 r5 hG) ⟨Nat.le_of_ble_eq_true rfl, Nat.le_of_ble_eq_true rfl⟩ rfl rfl (Nat.le_of_ble_eq_true rfl) ?_
            rintro iv lv hG
            refine z_iloadn zh dX3_takeOff_60 rfl ?_
            refine z_iload zh dX3_takeOff_61 rfl ?_
            refine y_isubT zh dX3_takeOff_63 (fun x15 => ?_)
            refine z_istoren zh dX3_takeOff_64 (by decide) (L' := [some (rf g m), some (.int a1), some (.int a2), some (.int x15), some (.int x2), some (.int x11), some (.int x13)]) rfl ?_
            refine y_iinc (L' := fun z => [some (rf g m), some (.int a1), some (.int a2), some (.int x15), some (.int z), some (.int x11), some (.int x13)]) zh dX3_takeOff_65 (by decide) rfl (by decide +kernel) r5 (u := 1) (v := 100) rfl rfl (by decide) (by decide) (fun _ => rfl) (fun x16 hc16 hx16 => ?_)
            refine z_goto (tgt := 5) zh dX3_takeOff_68 rfl ?_
            refine z_forget zh [true, true, true, true, true, false, false] (L2 := [some (rf g m), some (.int a1), some (.int a2), some (.int x15), some (.int x16), none, none]) rfl ?_
            exact ih5 iv lv x15 x16 hG (ra_w hx16 (by decide) (by decide)) (ms_up hc16 (by decide) hn5)
          refine z_if_le (tgt := 55) zh dX3_takeOff_46 rfl (fun q17 => ?_) (fun q17 => ?_)
          · have r18 : Ra (-2147483648) 0 x11 := rb_le_l ra_z (ra_tt x11) q17 (by decide)
            refine z_iload zh dX3_takeOff_55 rfl ?_
            exact J57 iv lv x13 hG
          · have r19 : Ra 1 2147483647 x11 := rb_lt_r ra_z (ra_tt x11) (rb_nle q17) (by decide)
            refine z_iload zh dX3_takeOff_49 rfl ?_
            refine y_inegT zh dX3_takeOff_51 (fun x20 => ?_)
            refine z_goto (tgt := 57) zh dX3_takeOff_52 rfl ?_
            exact J57 iv lv x20 hG
  exact J5 101 iv lv a2 (nI 0) hG (ra_w rl_0 (by decide) (by decide)) (ms_u0 rl_0 (by decide))
set_option maxRecDepth 20000 in
theorem s_X3_addLot (g : GE) {sp : Nat → Nat → Bool} {σ : Iv} {iv : Iv} {lv : Lv} {m : Nat} {a1 : Int32} {a2 : Int32} {a3 : Int32} (hm : isM m) (ha1 : Ra 0 11 a1) (ha3 : Ra 0 99 a3) (hG : SI sp σ iv)  : ConV g yX3_addLot cX3_addLot 5 none 3 [rf g m, .int a1, .int a2, .int a3] iv lv (fun iv lv => SI sp σ iv) := by
  refine con_intro (own := "RollingNets$Market") (by decide +kernel) rfl (Nat.le_of_ble_eq_true rfl) (L0 := [some (rf g m), some (.int a1), some (.int a2), some (.int a3), none]) rfl (fun Z zh => ?_)
  refine z_iloadn zh dX3_addLot_0 rfl ?_
  refine y_mabsT zh ma_Market_55 mc_abs dX3_addLot_1 ⟨Nat.le_of_ble_eq_true rfl, Nat.le_of_ble_eq_true rfl⟩ (fun x1 => ?_)
  refine z_iloadn zh dX3_addLot_4 rfl ?_
  have J21 : ∀ (iv : Iv) (lv : Lv) (x2 : Int32), SI sp σ iv → Ra 0 2147483647 x2 → Z 21 [some (rf g m), some (.int a1), some (.int a2), some (.int a3), none] [.int x2, .int x1] iv lv := by
    intro iv lv x2 hG hx2
    refine y_mmin zh ma_Market_59 mc_min dX3_addLot_21 ⟨Nat.le_of_ble_eq_true rfl, Nat.le_of_ble_eq_true rfl⟩ (ra_tt x1) hx2 (u := (-2147483648)) (v := 2147483647) (by decide) (by decide) (Or.inl (by decide)) (fun x3 hx3 => ?_)
    refine z_istore zh dX3_addLot_24 (by decide) (L' := [some (rf g m), some (.int a1), some (.int a2), some (.int a3), some (.int x3)]) rfl ?_
    refine z_aloadnR zh dX3_addLot_26 rfl ?_
    refine z_iloadn zh dX3_addLot_27 rfl ?_
    refine z_iload zh dX3_addLot_28 rfl ?_
    refine z_callVV zh mv_Market_72 dX3_addLot_30 (ck_M hm) rfl (s_X3_takeOff g hm ha1 hG) ⟨Nat.le_of_ble_eq_true rfl, Nat.le_of_ble_eq_true rfl⟩ rfl rfl (Nat.le_of_ble_eq_true rfl) ?_
    rintro iv lv hG
    refine z_aloadnR zh dX3_addLot_33 rfl ?_
    refine z_aloadnR zh dX3_addLot_34 rfl ?_
    refine y_getI zh fl_Market_46 dX3_addLot_35 (ck_M hm) rfl rfl (fun x4 ex4 => ?_)
    have hx4 : Ra 0 100 x4 := ra_of ex4 (si_M hG hm 0 (by decide) rfl)
    refine z_iloadn zh dX3_addLot_38 rfl ?_
    refine z_iconst zh dX3_addLot_39 ki_1 ?_
    refine y_iadd zh dX3_addLot_40 ha3 rl_1 (u := 1) (v := 100) rfl rfl (by decide) (by decide) (fun x5 hc5 hx5 => ?_)
    refine y_mmax zh ma_Market_49 mc_max dX3_addLot_41 ⟨Nat.le_of_ble_eq_true rfl, Nat.le_of_ble_eq_true rfl⟩ hx4 hx5 (u := 1) (v := 100) (Or.inr (by decide)) (by decide) (by decide) (fun x6 hx6 => ?_)
    refine z_putI zh fl_Market_46 dX3_addLot_44 (ck_M hm) rfl rfl (Nat.le_of_ble_eq_true rfl) (Or.inl rfl) ?_
    have hG : SI sp σ (upI iv m 10 x6) := si_wM hG hm 0 (by decide) (rx_some (ra_w hx6 (by decide) (by decide)))
    generalize upI iv m 10 x6 = iv at hG  ⊢
    refine z_aloadnR zh dX3_addLot_47 rfl ?_
    refine z_iloadn zh dX3_addLot_48 rfl ?_
    refine z_iloadn zh dX3_addLot_49 rfl ?_
    refine z_iloadn zh dX3_addLot_50 rfl ?_
    have J65 : ∀ (iv : Iv) (lv : Lv) (x7 : Int32), SI sp σ iv → Z 65 [some (rf g m), some (.int a1), some (.int a2), some (.int a3), some (.int x3)] [.int x7, .int a3, .int a1, rf g m] iv lv := by
      intro iv lv x7 hG
      refine z_callVV zh mv_Market_62 dX3_addLot_65 (ck_M hm) rfl (s_X3_changeLot g hm ha1 ha3 hG) ⟨Nat.le_of_ble_eq_true rfl, Nat.le_of_ble_eq_true rfl⟩ rfl rfl (Nat.le_of_ble_eq_true rfl) ?_
      rintro iv lv hG
      exact z_vret zh dX3_addLot_68 ⟨rfl, hG⟩
    refine z_if_le (tgt := 61) zh dX3_addLot_51 rfl (fun q8 => ?_) (fun q8 => ?_)
    · have r9 : Ra (-2147483648) 0 a2 := rb_le_l ra_z (ra_tt a2) q8 (by decide)
      refine z_iloadn zh dX3_addLot_61 rfl ?_
      refine z_iload zh dX3_addLot_62 rfl ?_
      refine y_iaddT zh dX3_addLot_64 (fun x10 => ?_)
      exact J65 iv lv x10 hG
    · have r11 : Ra 1 2147483647 a2 := rb_lt_r ra_z (ra_tt a2) (rb_nle q8) (by decide)
      refine z_iloadn zh dX3_addLot_54 rfl ?_
      refine z_iload zh dX3_addLot_55 rfl ?_
      refine y_isubT zh dX3_addLot_57 (fun x12 => ?_)
      refine z_goto (tgt := 65) zh dX3_addLot_58 rfl ?_
      exact J65 iv lv x12 hG
  refine z_if_le (tgt := 16) zh dX3_addLot_5 rfl (fun q13 => ?_) (fun q13 => ?_)
  · have r14 : Ra (-2147483648) 0 a2 := rb_le_l ra_z (ra_tt a2) q13 (by decide)
    refine z_aloadnR zh dX3_addLot_16 rfl ?_
    refine z_iloadn zh dX3_addLot_17 rfl ?_
    refine z_callVI zh mv_Market_69 dX3_addLot_18 (ck_M hm) rfl (s_X3_longOf g hm ha1 hG) ⟨Nat.le_of_ble_eq_true rfl, Nat.le_of_ble_eq_true rfl⟩ rfl rfl (Nat.le_of_ble_eq_true rfl) ?_
    rintro x15 _ _ ⟨rfl, rfl, hx15⟩
    exact J21 iv lv x15 hG hx15
  · have r16 : Ra 1 2147483647 a2 := rb_lt_r ra_z (ra_tt a2) (rb_nle q13) (by decide)
    refine z_aloadnR zh dX3_addLot_8 rfl ?_
    refine z_iloadn zh dX3_addLot_9 rfl ?_
    refine z_callVI zh mv_Market_66 dX3_addLot_10 (ck_M hm) rfl (s_X3_shortOf g hm ha1 hG) ⟨Nat.le_of_ble_eq_true rfl, Nat.le_of_ble_eq_true rfl⟩ rfl rfl (Nat.le_of_ble_eq_true rfl) ?_
    rintro x17 _ _ ⟨rfl, rfl, hx17⟩
    refine z_goto (tgt := 21) zh dX3_addLot_13 rfl ?_
    exact J21 iv lv x17 hG hx17
set_option maxRecDepth 20000 in
theorem s_X3_greatest (g : GE) {sp : Nat → Nat → Bool} {σ : Iv} {iv : Iv} {lv : Lv} {m : Nat} {a1 : Int32} (hm : isM m) (ha1 : Ra 0 11 a1) (hG : SI sp σ iv)  : ConL g yX3_greatest cX3_greatest 5 (some .long) 1 [rf g m, .int a1] iv lv (fun r iv' lv' => iv = iv' ∧ lv = lv' ∧ True) := by
  refine con_intro (own := "RollingNets$Market") (by decide +kernel) rfl (Nat.le_of_ble_eq_true rfl) (L0 := [some (rf g m), some (.int a1), none, none, none]) rfl (fun Z zh => ?_)
  refine z_aloadnR zh dX3_greatest_0 rfl ?_
  refine z_getf zh fl_Market_9 dX3_greatest_1 (ck_M hm) rfl rfl ?_
  refine z_iloadn zh dX3_greatest_4 rfl ?_
  refine y_lald zh (ck_stock hm) dX3_greatest_5 ha1 (by decide) (by decide) (fun l1 => ?_)
  refine z_aloadnR zh dX3_greatest_6 rfl ?_
  refine z_getf zh fl_Market_15 dX3_greatest_7 (ck_M hm) rfl rfl ?_
  refine z_iloadn zh dX3_greatest_10 rfl ?_
  refine y_iald zh (ck_mi 2 (by decide) hm) dX3_greatest_11 ha1 (by decide) (by decide) (fun x2 ex2 => ?_)
  refine y_i2l zh dX3_greatest_12 (fun l3 => ?_)
  refine y_mmax_longT zh ma_Market_84 mc_max_long dX3_greatest_13 ⟨Nat.le_of_ble_eq_true rfl, Nat.le_of_ble_eq_true rfl⟩ (fun l4 => ?_)
  refine z_lstoren zh dX3_greatest_16 (by decide) (L' := [some (rf g m), some (.int a1), some (.long l4), none, none]) rfl ?_
  refine z_aloadnR zh dX3_greatest_17 rfl ?_
  refine z_getf zh fl_Market_19 dX3_greatest_18 (ck_M hm) rfl rfl ?_
  refine z_iloadn zh dX3_greatest_21 rfl ?_
  refine y_iald zh (ck_mi 3 (by decide) hm) dX3_greatest_22 ha1 (by decide) (by decide) (fun x5 ex5 => ?_)
  refine z_aloadnR zh dX3_greatest_23 rfl ?_
  refine z_getf zh fl_Market_22 dX3_greatest_24 (ck_M hm) rfl rfl ?_
  refine z_iloadn zh dX3_greatest_27 rfl ?_
  refine y_iald zh (ck_mi 4 (by decide) hm) dX3_greatest_28 ha1 (by decide) (by decide) (fun x6 ex6 => ?_)
  refine y_mmax zh ma_Market_49 mc_max dX3_greatest_29 ⟨Nat.le_of_ble_eq_true rfl, Nat.le_of_ble_eq_true rfl⟩ (ra_tt x5) (ra_tt x6) (u := (-2147483648)) (v := 2147483647) (Or.inl (by decide)) (by decide) (by decide) (fun x7 hx7 => ?_)
  refine z_istore zh dX3_greatest_32 (by decide) (L' := [some (rf g m), some (.int a1), some (.long l4), none, some (.int x7)]) rfl ?_
  refine z_lloadn zh dX3_greatest_34 rfl ?_
  refine z_iload zh dX3_greatest_35 rfl ?_
  refine y_i2l zh dX3_greatest_37 (fun l8 => ?_)
  refine y_mmax_longT zh ma_Market_84 mc_max_long dX3_greatest_38 ⟨Nat.le_of_ble_eq_true rfl, Nat.le_of_ble_eq_true rfl⟩ (fun l9 => ?_)
  refine z_aloadnR zh dX3_greatest_41 rfl ?_
  refine z_getf zh fl_Market_28 dX3_greatest_42 (ck_M hm) rfl rfl ?_
  refine z_iloadn zh dX3_greatest_45 rfl ?_
  refine y_iald zh (ck_mi 6 (by decide) hm) dX3_greatest_46 ha1 (by decide) (by decide) (fun x10 ex10 => ?_)
  refine y_mabsT zh ma_Market_55 mc_abs dX3_greatest_47 ⟨Nat.le_of_ble_eq_true rfl, Nat.le_of_ble_eq_true rfl⟩ (fun x11 => ?_)
  refine y_i2l zh dX3_greatest_50 (fun l12 => ?_)
  refine y_mmax_longT zh ma_Market_84 mc_max_long dX3_greatest_51 ⟨Nat.le_of_ble_eq_true rfl, Nat.le_of_ble_eq_true rfl⟩ (fun l13 => ?_)
  exact z_lret zh dX3_greatest_54 ⟨_, rfl, rfl, rfl, trivial⟩
set_option maxRecDepth 20000 in
theorem s_X3_multiplyMember (g : GE) {sp : Nat → Nat → Bool} {σ : Iv} {iv : Iv} {lv : Lv} {m : Nat} {a1 : Int32} {a2 : Int32} (hm : isM m) (ha1 : Ra 0 11 a1) (ha2 : Ra 2 5 a2) (hG : SI sp σ iv)  : ConV g yX3_multiplyMember cX3_multiplyMember 4 none 1 [rf g m, .int a1, .int a2] iv lv (fun iv lv => SI sp σ iv) := by
  refine con_intro (own := "RollingNets$Market") (by decide +kernel) rfl (Nat.le_of_ble_eq_true rfl) (L0 := [some (rf g m), some (.int a1), some (.int a2), none]) rfl (fun Z zh => ?_)
  refine z_aloadnR zh dX3_multiplyMember_0 rfl ?_
  refine z_getf zh fl_Market_9 dX3_multiplyMember_1 (ck_M hm) rfl rfl ?_
  refine z_iloadn zh dX3_multiplyMember_4 rfl ?_
  refine z_dup2 zh dX3_multiplyMember_5 rfl rfl ?_
  refine y_lald zh (ck_stock hm) dX3_multiplyMember_6 ha1 (by decide) (by decide) (fun l1 => ?_)
  refine z_iloadn zh dX3_multiplyMember_7 rfl ?_
  refine y_i2l zh dX3_multiplyMember_8 (fun l2 => ?_)
  refine y_lmul zh dX3_multiplyMember_9 (fun l3 => ?_)
  refine z_last zh (ck_stock hm) dX3_multiplyMember_10 (ra_in ha1 (by decide) (by decide)) ?_
  generalize upL lv (m + 1) a1.toNatClampNeg l3 = lv
  refine z_aloadnR zh dX3_multiplyMember_11 rfl ?_
  refine z_getf zh fl_Market_15 dX3_multiplyMember_12 (ck_M hm) rfl rfl ?_
  refine z_iloadn zh dX3_multiplyMember_15 rfl ?_
  refine z_dup2 zh dX3_multiplyMember_16 rfl rfl ?_
  refine y_iald zh (ck_mi 2 (by decide) hm) dX3_multiplyMember_17 ha1 (by decide) (by decide) (fun x4 ex4 => ?_)
  refine z_iloadn zh dX3_multiplyMember_18 rfl ?_
  refine y_imulT zh dX3_multiplyMember_19 (fun x5 => ?_)
  refine z_iast zh (ck_mi 2 (by decide) hm) dX3_multiplyMember_20 (ra_in ha1 (by decide) (by decide)) ?_
  have hG : SI sp σ (upI iv (m + 2) a1.toNatClampNeg x5) := si_wM hG hm 2 (by decide) (rx_none rfl)
  generalize upI iv (m + 2) a1.toNatClampNeg x5 = iv at hG  ⊢
  refine z_aloadnR zh dX3_multiplyMember_21 rfl ?_
  refine z_getf zh fl_Market_19 dX3_multiplyMember_22 (ck_M hm) rfl rfl ?_
  refine z_iloadn zh dX3_multiplyMember_25 rfl ?_
  refine z_dup2 zh dX3_multiplyMember_26 rfl rfl ?_
  refine y_iald zh (ck_mi 3 (by decide) hm) dX3_multiplyMember_27 ha1 (by decide) (by decide) (fun x6 ex6 => ?_)
  refine z_iloadn zh dX3_multiplyMember_28 rfl ?_
  refine y_imulT zh dX3_multiplyMember_29 (fun x7 => ?_)
  refine z_iast zh (ck_mi 3 (by decide) hm) dX3_multiplyMember_30 (ra_in ha1 (by decide) (by decide)) ?_
  have hG : SI sp σ (upI iv (m + 3) a1.toNatClampNeg x7) := si_wM hG hm 3 (by decide) (rx_none rfl)
  generalize upI iv (m + 3) a1.toNatClampNeg x7 = iv at hG  ⊢
  refine z_aloadnR zh dX3_multiplyMember_31 rfl ?_
  refine z_getf zh fl_Market_22 dX3_multiplyMember_32 (ck_M hm) rfl rfl ?_
  refine z_iloadn zh dX3_multiplyMember_35 rfl ?_
  refine z_dup2 zh dX3_multiplyMember_36 rfl rfl ?_
  refine y_iald zh (ck_mi 4 (by decide) hm) dX3_multiplyMember_37 ha1 (by decide) (by decide) (fun x8 ex8 => ?_)
  refine z_iloadn zh dX3_multiplyMember_38 rfl ?_
  refine y_imulT zh dX3_multiplyMember_39 (fun x9 => ?_)
  refine z_iast zh (ck_mi 4 (by decide) hm) dX3_multiplyMember_40 (ra_in ha1 (by decide) (by decide)) ?_
  have hG : SI sp σ (upI iv (m + 4) a1.toNatClampNeg x9) := si_wM hG hm 4 (by decide) (rx_none rfl)
  generalize upI iv (m + 4) a1.toNatClampNeg x9 = iv at hG  ⊢
  refine z_aloadnR zh dX3_multiplyMember_41 rfl ?_
  refine z_getf zh fl_Market_28 dX3_multiplyMember_42 (ck_M hm) rfl rfl ?_
  refine z_iloadn zh dX3_multiplyMember_45 rfl ?_
  refine z_dup2 zh dX3_multiplyMember_46 rfl rfl ?_
  refine y_iald zh (ck_mi 6 (by decide) hm) dX3_multiplyMember_47 ha1 (by decide) (by decide) (fun x10 ex10 => ?_)
  refine z_iloadn zh dX3_multiplyMember_48 rfl ?_
  refine y_imulT zh dX3_multiplyMember_49 (fun x11 => ?_)
  refine z_iast zh (ck_mi 6 (by decide) hm) dX3_multiplyMember_50 (ra_in ha1 (by decide) (by decide)) ?_
  have hG : SI sp σ (upI iv (m + 6) a1.toNatClampNeg x11) := si_wM hG hm 6 (by decide) (rx_none rfl)
  generalize upI iv (m + 6) a1.toNatClampNeg x11 = iv at hG  ⊢
  refine z_iconst zh dX3_multiplyMember_51 ki_0 ?_
  refine z_istoren zh dX3_multiplyMember_52 (by decide) (L' := [some (rf g m), some (.int a1), some (.int a2), some (.int (nI 0))]) rfl ?_
  have J53 : ∀ (n : Nat) (iv : Iv) (lv : Lv) (x12 : Int32), SI sp σ iv → Ra 0 100 x12 → 100 - x12.toInt < (n : Int) → Z 53 [some (rf g m), some (.int a1), some (.int a2), some (.int x12)] [] iv lv := by
    intro n
    induction n with
    | zero => intro iv lv x12 hG hx12 hn53; exact (ms_uz hx12 hn53).elim
    | succ n ih53 =>
      intro iv lv x12 hG hx12 hn53
      refine z_iloadn zh dX3_multiplyMember_53 rfl ?_
      refine z_aloadnR zh dX3_multiplyMember_54 rfl ?_
      refine y_getI zh fl_Market_46 dX3_multiplyMember_55 (ck_M hm) rfl rfl (fun x13 ex13 => ?_)
      have hx13 : Ra 0 100 x13 := ra_of ex13 (si_M hG hm 0 (by decide) rfl)
      refine z_icmp_ge (tgt := 79) zh dX3_multiplyMember_58 rfl (fun q14 => ?_) (fun q14 => ?_)
      · exact z_vret zh dX3_multiplyMember_79 ⟨rfl, hG⟩
      · have r15 : Ra 0 99 x12 := rb_lt_l hx13 hx12 (rb_nle q14) (by decide)
        have r16 : Ra 1 100 x13 := rb_lt_r hx12 hx13 (rb_nle q14) (by decide)
        refine z_aloadnR zh dX3_multiplyMember_61 rfl ?_
        refine z_getf zh fl_Market_33 dX3_multiplyMember_62 (ck_M hm) rfl rfl ?_
        refine z_iloadn zh dX3_multiplyMember_65 rfl ?_
        refine y_gald zh (ck_lots hm) dX3_multiplyMember_66 ha1 (by decide) (by decide) (fun j17 hj17 _ _ => ?_)
        refine z_iloadn zh dX3_multiplyMember_67 rfl ?_
        refine z_dup2 zh dX3_multiplyMember_68 rfl rfl ?_
        refine y_iald zh (ck_row hm hj17) dX3_multiplyMember_69 r15 (by decide) (by decide) (fun x18 ex18 => ?_)
        refine z_iloadn zh dX3_multiplyMember_70 rfl ?_
        refine y_imulT zh dX3_multiplyMember_71 (fun x19 => ?_)
        refine z_iast zh (ck_row hm hj17) dX3_multiplyMember_72 (ra_in r15 (by decide) (by decide)) ?_
        have hG : SI sp σ (upI iv (m + 8 + j17) x12.toNatClampNeg x19) := si_wR hG hm hj17
        generalize upI iv (m + 8 + j17) x12.toNatClampNeg x19 = iv at hG  ⊢
        refine y_iinc (L' := fun z => [some (rf g m), some (.int a1), some (.int a2), some (.int z)]) zh dX3_multiplyMember_73 (by decide) rfl (by decide +kernel) r15 (u := 1) (v := 100) rfl rfl (by decide) (by decide) (fun _ => rfl) (fun x21 hc21 hx21 => ?_)
        refine z_goto (tgt := 53) zh dX3_multiplyMember_76 rfl ?_
        exact ih53 iv lv x21 hG (ra_w hx21 (by decide) (by decide)) (ms_up hc21 (by decide) hn53)
  exact J53 101 iv lv (nI 0) hG (ra_w rl_0 (by decide) (by decide)) (ms_u0 rl_0 (by decide))
set_option maxRecDepth 20000 in
theorem s_X3_multiply (g : GE) {sp : Nat → Nat → Bool} {σ : Iv} {iv : Iv} {lv : Lv} {m : Nat} {a1 : Int32} {a2 : Int32} (hm : isM m) (ha1 : Ra 2 5 a1) (ha2 : Ra 2 12 a2) (hG : SI sp σ iv)  : ConI g yX3_multiply cX3_multiply 5 (some .boolean) 2 [rf g m, .int a1, .int a2] iv lv (fun r iv lv => SI sp σ iv ∧ Ra 0 1 r) := by
  refine con_intro (own := "RollingNets$Market") (by decide +kernel) rfl (Nat.le_of_ble_eq_true rfl) (L0 := [some (rf g m), some (.int a1), some (.int a2), none, none]) rfl (fun Z zh => ?_)
  refine z_iloadn zh dX3_multiply_0 rfl ?_
  refine z_iconst zh dX3_multiply_1 ki_1 ?_
  refine z_icmp_lt (tgt := 23) zh dX3_multiply_2 rfl (fun q1 => ?_) (fun q1 => ?_)
  · exact (ra_no (rb_lt_l rl_1 ha1 q1 (u := 0) (by decide)) (by decide)).elim
  · refine z_aloadnR zh dX3_multiply_5 rfl ?_
    refine y_getI zh fl_Market_36 dX3_multiply_6 (ck_M hm) rfl rfl (fun x2 ex2 => ?_)
    refine z_iloadn zh dX3_multiply_9 rfl ?_
    refine y_iremT zh dX3_multiply_10 (ra_nz ha1 (by decide)) (fun x3 => ?_)
    refine z_if_ne (tgt := 23) zh dX3_multiply_11 rfl (fun q4 => ?_) (fun q4 => ?_)
    · refine z_iconst zh dX3_multiply_23 ki_0 ?_
      exact z_zret zh dX3_multiply_24 (ra_01 (ra_w rl_0 (by decide) (by decide))) ⟨_, rfl, hG, (ra_w rl_0 (by decide) (by decide))⟩
    · have r5 := rb_eq (u := 0) (v := 0) (ra_tt x3) ra_z q4 (by decide) (by decide)
      refine z_aloadnR zh dX3_multiply_14 rfl ?_
      refine y_getI zh fl_Market_40 dX3_multiply_15 (ck_M hm) rfl rfl (fun x6 ex6 => ?_)
      refine z_iloadn zh dX3_multiply_18 rfl ?_
      refine y_iremT zh dX3_multiply_19 (ra_nz ha1 (by decide)) (fun x7 => ?_)
      refine z_if_eq (tgt := 25) zh dX3_multiply_20 rfl (fun q8 => ?_) (fun q8 => ?_)
      · have r9 := rb_eq (u := 0) (v := 0) (ra_tt x7) ra_z q8 (by decide) (by decide)
        refine z_ldc zh dX3_multiply_25 kc_Market_76 ?_
        refine z_iloadn zh dX3_multiply_27 rfl ?_
        refine y_idivT zh dX3_multiply_28 (ra_nz ha1 (by decide)) (fun x10 => ?_)
        refine z_istoren zh dX3_multiply_29 (by decide) (L' := [some (rf g m), some (.int a1), some (.int a2), some (.int x10), none]) rfl ?_
        refine z_iconst zh dX3_multiply_30 ki_0 ?_
        refine z_istore zh dX3_multiply_31 (by decide) (L' := [some (rf g m), some (.int a1), some (.int a2), some (.int x10), some (.int (nI 0))]) rfl ?_
        have J33 : ∀ (n : Nat) (iv : Iv) (lv : Lv) (x11 : Int32), SI sp σ iv → Ra 0 12 x11 → 12 - x11.toInt < (n : Int) → Z 33 [some (rf g m), some (.int a1), some (.int a2), some (.int x10), some (.int x11)] [] iv lv := by
          intro n
          induction n with
          | zero => intro iv lv x11 hG hx11 hn33; exact (ms_uz hx11 hn33).elim
          | succ n ih33 =>
            intro iv lv x11 hG hx11 hn33
            refine z_iload zh dX3_multiply_33 rfl ?_
            refine z_iloadn zh dX3_multiply_35 rfl ?_
            refine z_icmp_ge (tgt := 59) zh dX3_multiply_36 rfl (fun q12 => ?_) (fun q12 => ?_)
            · have r13 : Ra 2 12 x11 := rb_le_r ha2 hx11 q12 (by decide)
              refine z_iconst zh dX3_multiply_59 ki_0 ?_
              refine z_istore zh dX3_multiply_60 (by decide) (L' := [some (rf g m), some (.int a1), some (.int a2), some (.int x10), some (.int (nI 0))]) rfl ?_
              have J62 : ∀ (n : Nat) (iv : Iv) (lv : Lv) (x14 : Int32), SI sp σ iv → Ra 0 12 x14 → 12 - x14.toInt < (n : Int) → Z 62 [some (rf g m), some (.int a1), some (.int a2), some (.int x10), some (.int x14)] [] iv lv := by
                intro n
                induction n with
                | zero => intro iv lv x14 hG hx14 hn62; exact (ms_uz hx14 hn62).elim
                | succ n ih62 =>
                  intro iv lv x14 hG hx14 hn62
                  refine z_iload zh dX3_multiply_62 rfl ?_
                  refine z_iloadn zh dX3_multiply_64 rfl ?_
                  refine z_icmp_ge (tgt := 81) zh dX3_multiply_65 rfl (fun q15 => ?_) (fun q15 => ?_)
                  · have r16 : Ra 2 12 x14 := rb_le_r ha2 hx14 q15 (by decide)
                    refine z_aloadnR zh dX3_multiply_81 rfl ?_
                    refine z_dup zh dX3_multiply_82 rfl ?_
                    refine y_getI zh fl_Market_36 dX3_multiply_83 (ck_M hm) rfl rfl (fun x17 ex17 => ?_)
                    refine z_iloadn zh dX3_multiply_86 rfl ?_
                    refine y_idivT zh dX3_multiply_87 (ra_nz ha1 (by decide)) (fun x18 => ?_)
                    refine z_putI zh fl_Market_36 dX3_multiply_88 (ck_M hm) rfl rfl (Nat.le_of_ble_eq_true rfl) (Or.inl rfl) ?_
                    have hG : SI sp σ (upI iv m 7 x18) := si_wM hG hm 0 (by decide) (rx_none rfl)
                    generalize upI iv m 7 x18 = iv at hG  ⊢
                    refine z_aloadnR zh dX3_multiply_91 rfl ?_
                    refine z_dup zh dX3_multiply_92 rfl ?_
                    refine y_getI zh fl_Market_40 dX3_multiply_93 (ck_M hm) rfl rfl (fun x19 ex19 => ?_)
                    refine z_iloadn zh dX3_multiply_96 rfl ?_
                    refine y_idivT zh dX3_multiply_97 (ra_nz ha1 (by decide)) (fun x20 => ?_)
                    refine z_putI zh fl_Market_40 dX3_multiply_98 (ck_M hm) rfl rfl (Nat.le_of_ble_eq_true rfl) (Or.inl rfl) ?_
                    have hG : SI sp σ (upI iv m 8 x20) := si_wM hG hm 0 (by decide) (rx_none rfl)
                    generalize upI iv m 8 x20 = iv at hG  ⊢
                    refine z_iconst zh dX3_multiply_101 ki_1 ?_
                    exact z_zret zh dX3_multiply_102 (ra_01 (ra_w rl_1 (by decide) (by decide))) ⟨_, rfl, hG, (ra_w rl_1 (by decide) (by decide))⟩
                  · have r21 : Ra 0 11 x14 := rb_lt_l ha2 hx14 (rb_nle q15) (by decide)
                    refine z_aloadnR zh dX3_multiply_68 rfl ?_
                    refine z_iload zh dX3_multiply_69 rfl ?_
                    refine z_iloadn zh dX3_multiply_71 rfl ?_
                    refine z_callVV zh mv_Market_81 dX3_multiply_72 (ck_M hm) rfl (s_X3_multiplyMember g hm r21 ha1 hG) ⟨Nat.le_of_ble_eq_true rfl, Nat.le_of_ble_eq_true rfl⟩ rfl rfl (Nat.le_of_ble_eq_true rfl) ?_
                    rintro iv lv hG
                    refine y_iinc (L' := fun z => [some (rf g m), some (.int a1), some (.int a2), some (.int x10), some (.int z)]) zh dX3_multiply_75 (by decide) rfl (by decide +kernel) r21 (u := 1) (v := 12) rfl rfl (by decide) (by decide) (fun _ => rfl) (fun x22 hc22 hx22 => ?_)
                    refine z_goto (tgt := 62) zh dX3_multiply_78 rfl ?_
                    exact ih62 iv lv x22 hG (ra_w hx22 (by decide) (by decide)) (ms_up hc22 (by decide) hn62)
              exact J62 13 iv lv (nI 0) hG (ra_w rl_0 (by decide) (by decide)) (ms_u0 rl_0 (by decide))
            · have r23 : Ra 0 11 x11 := rb_lt_l ha2 hx11 (rb_nle q12) (by decide)
              refine z_aloadnR zh dX3_multiply_39 rfl ?_
              refine z_iload zh dX3_multiply_40 rfl ?_
              refine z_callVL zh mv_Market_77 dX3_multiply_42 (ck_M hm) rfl (s_X3_greatest g hm r23 hG) ⟨Nat.le_of_ble_eq_true rfl, Nat.le_of_ble_eq_true rfl⟩ rfl rfl (Nat.le_of_ble_eq_true rfl) ?_
              rintro l24 _ _ ⟨rfl, rfl, _⟩
              refine z_iloadn zh dX3_multiply_45 rfl ?_
              refine y_i2l zh dX3_multiply_46 (fun l25 => ?_)
              refine y_lcmp zh dX3_multiply_47 (fun x26 hx26 => ?_)
              refine z_if_le (tgt := 53) zh dX3_multiply_48 rfl (fun q27 => ?_) (fun q27 => ?_)
              · have r28 : Ra (-1) 0 x26 := rb_le_l ra_z hx26 q27 (by decide)
                refine y_iinc (L' := fun z => [some (rf g m), some (.int a1), some (.int a2), some (.int x10), some (.int z)]) zh dX3_multiply_53 (by decide) rfl (by decide +kernel) r23 (u := 1) (v := 12) rfl rfl (by decide) (by decide) (fun _ => rfl) (fun x29 hc29 hx29 => ?_)
                refine z_goto (tgt := 33) zh dX3_multiply_56 rfl ?_
                exact ih33 iv lv x29 hG (ra_w hx29 (by decide) (by decide)) (ms_up hc29 (by decide) hn33)
              · have r30 : Ra 1 1 x26 := rb_lt_r ra_z hx26 (rb_nle q27) (by decide)
                refine z_iconst zh dX3_multiply_51 ki_0 ?_
                exact z_zret zh dX3_multiply_52 (ra_01 (ra_w rl_0 (by decide) (by decide))) ⟨_, rfl, hG, (ra_w rl_0 (by decide) (by decide))⟩
        exact J33 13 iv lv (nI 0) hG (ra_w rl_0 (by decide) (by decide)) (ms_u0 rl_0 (by decide))
      · refine z_iconst zh dX3_multiply_23 ki_0 ?_
        exact z_zret zh dX3_multiply_24 (ra_01 (ra_w rl_0 (by decide) (by decide))) ⟨_, rfl, hG, (ra_w rl_0 (by decide) (by decide))⟩
set_option maxRecDepth 20000 in
theorem s_X4_allot (g : GE) {sp : Nat → Nat → Bool} {σ : Iv} {iv : Iv} {lv : Lv} {h : Nat} {a1 : Int32} {a2 : Int32} (hh : isH h) (ha1 : Ra 0 5 a1) (hG : SI sp σ iv)  : ConV g yX4_allot cX4_allot 9 none 5 [rf g h, .int a1, .int a2] iv lv (fun iv lv => SI sp σ iv) := by
  refine con_intro (own := "RollingNets$Night") (by decide +kernel) rfl (Nat.le_of_ble_eq_true rfl) (L0 := [some (rf g h), some (.int a1), some (.int a2), none, none, none, none, none, none]) rfl (fun Z zh => ?_)
  refine z_iloadn zh dX4_allot_0 rfl ?_
  refine z_if_ne (tgt := 5) zh dX4_allot_1 rfl (fun q1 => ?_) (fun q1 => ?_)
  · refine z_aloadnR zh dX4_allot_5 rfl ?_
    refine z_getf zh fl_Night_57 dX4_allot_6 (ck_H hh) rfl rfl ?_
    refine z_iloadn zh dX4_allot_9 rfl ?_
    refine y_mald zh (ck_markets hh) dX4_allot_10 ha1 (by decide) (by decide) (fun j2 hj2 _ _ => ?_)
    refine z_astoren zh dX4_allot_11 (by decide) (L' := [some (rf g h), some (.int a1), some (.int a2), some (rf g (h + 60 + 20 * j2)), none, none, none, none, none]) rfl ?_
    refine z_aloadnR zh dX4_allot_12 rfl ?_
    refine z_getf zh fl_Night_141 dX4_allot_13 (ck_H hh) rfl rfl ?_
    refine z_astore zh dX4_allot_16 (by decide) (L' := [some (rf g h), some (.int a1), some (.int a2), some (rf g (h + 60 + 20 * j2)), some (rf g (h + 54)), none, none, none, none]) rfl ?_
    refine z_aloadR zh dX4_allot_18 rfl ?_
    refine z_aloadnR zh dX4_allot_20 rfl ?_
    refine z_iloadn zh dX4_allot_21 rfl ?_
    refine z_callVV zh mv_Night_145 dX4_allot_22 (ck_line hh) rfl (s_X2_form g hh hh ha1 hG) ⟨Nat.le_of_ble_eq_true rfl, Nat.le_of_ble_eq_true rfl⟩ rfl rfl (Nat.le_of_ble_eq_true rfl) ?_
    rintro iv lv hG
    refine z_iloadn zh dX4_allot_25 rfl ?_
    refine z_istore zh dX4_allot_26 (by decide) (L' := [some (rf g h), some (.int a1), some (.int a2), some (rf g (h + 60 + 20 * j2)), some (rf g (h + 54)), some (.int a2), none, none, none]) rfl ?_
    refine z_iconst zh dX4_allot_28 ki_0 ?_
    refine z_istore zh dX4_allot_29 (by decide) (L' := [some (rf g h), some (.int a1), some (.int a2), some (rf g (h + 60 + 20 * j2)), some (rf g (h + 54)), some (.int a2), some (.int (nI 0)), none, none]) rfl ?_
    have J31 : ∀ (n : Nat) (iv : Iv) (lv : Lv) (x3 : Int32) (x4 : Int32), SI sp σ iv → Ra 0 1200 x4 → 1200 - x4.toInt < (n : Int) → Z 31 [some (rf g h), some (.int a1), some (.int a2), some (rf g (h + 60 + 20 * j2)), some (rf g (h + 54)), some (.int x3), some (.int x4), none, none] [] iv lv := by
      intro n
      induction n with
      | zero => intro iv lv x3 x4 hG hx4 hn31; exact (ms_uz hx4 hn31).elim
      | succ n ih31 =>
        intro iv lv x3 x4 hG hx4 hn31
        refine z_iload zh dX4_allot_31 rfl ?_
        refine z_aloadR zh dX4_allot_33 rfl ?_
        refine y_getI zh fl_Night_150 dX4_allot_35 (ck_line hh) rfl rfl (fun x5 ex5 => ?_)
        have hx5 : Ra 0 1200 x5 := ra_of ex5 (si_H hG hh 54 (by decide) rfl)
        refine z_icmp_ge (tgt := 170) zh dX4_allot_38 rfl (fun q6 => ?_) (fun q6 => ?_)
        · exact z_vret zh dX4_allot_170 ⟨rfl, hG⟩
        · have r7 : Ra 0 1199 x4 := rb_lt_l hx5 hx4 (rb_nle q6) (by decide)
          have r8 : Ra 1 1200 x5 := rb_lt_r hx4 hx5 (rb_nle q6) (by decide)
          refine z_iload zh dX4_allot_41 rfl ?_
          refine z_if_le (tgt := 170) zh dX4_allot_43 rfl (fun q9 => ?_) (fun q9 => ?_)
          · have r10 : Ra (-2147483648) 0 x3 := rb_le_l ra_z (ra_tt x3) q9 (by decide)
            exact z_vret zh dX4_allot_170 ⟨rfl, hG⟩
          · have r11 : Ra 1 2147483647 x3 := rb_lt_r ra_z (ra_tt x3) (rb_nle q9) (by decide)
            refine z_aloadR zh dX4_allot_46 rfl ?_
            refine z_getf zh fl_Night_152 dX4_allot_48 (ck_line hh) rfl rfl ?_
            refine z_iload zh dX4_allot_51 rfl ?_
            refine y_iald zh (ck_lineM hh) dX4_allot_53 r7 (by decide) (by decide) (fun x12 ex12 => ?_)
            have hx12 : Ra 0 11 x12 := ra_of ex12 (si_H hG hh 55 (by decide) rfl)
            refine z_istore zh dX4_allot_54 (by decide) (L' := [some (rf g h), some (.int a1), some (.int a2), some (rf g (h + 60 + 20 * j2)), some (rf g (h + 54)), some (.int x3), some (.int x4), some (.int x12), none]) rfl ?_
            refine z_iload zh dX4_allot_56 rfl ?_
            refine z_aloadnR zh dX4_allot_58 rfl ?_
            refine z_getf zh fl_Night_96 dX4_allot_59 (ck_M (isM_of hh hj2)) rfl rfl ?_
            refine z_iload zh dX4_allot_62 rfl ?_
            refine y_gald zh (ck_lots (isM_of hh hj2)) dX4_allot_64 hx12 (by decide) (by decide) (fun j13 hj13 _ _ => ?_)
            refine z_aloadR zh dX4_allot_65 rfl ?_
            refine z_getf zh fl_Night_156 dX4_allot_67 (ck_line hh) rfl rfl ?_
            refine z_iload zh dX4_allot_70 rfl ?_
            refine y_iald zh (ck_lineD hh) dX4_allot_72 r7 (by decide) (by decide) (fun x14 ex14 => ?_)
            have hx14 : Ra 0 99 x14 := ra_of ex14 (si_H hG hh 56 (by decide) rfl)
            refine y_iald zh (ck_row (isM_of hh hj2) hj13) dX4_allot_73 hx14 (by decide) (by decide) (fun x15 ex15 => ?_)
            refine y_mmin zh ma_Night_158 mc_min dX4_allot_74 ⟨Nat.le_of_ble_eq_true rfl, Nat.le_of_ble_eq_true rfl⟩ r11 (ra_tt x15) (u := (-2147483648)) (v := 2147483647) (by decide) (by decide) (Or.inl (by decide)) (fun x16 hx16 => ?_)
            refine z_istore zh dX4_allot_77 (by decide) (L' := [some (rf g h), some (.int a1), some (.int a2), some (rf g (h + 60 + 20 * j2)), some (rf g (h + 54)), some (.int x3), some (.int x4), some (.int x12), some (.int x16)]) rfl ?_
            refine z_aloadnR zh dX4_allot_79 rfl ?_
            refine z_getf zh fl_Night_118 dX4_allot_80 (ck_M (isM_of hh hj2)) rfl rfl ?_
            refine z_iload zh dX4_allot_83 rfl ?_
            refine z_dup2 zh dX4_allot_85 rfl rfl ?_
            refine y_lald zh (ck_stock (isM_of hh hj2)) dX4_allot_86 hx12 (by decide) (by decide) (fun l17 => ?_)
            refine z_iload zh dX4_allot_87 rfl ?_
            refine y_i2l zh dX4_allot_89 (fun l18 => ?_)
            refine y_ladd zh dX4_allot_90 (fun l19 => ?_)
            refine z_last zh (ck_stock (isM_of hh hj2)) dX4_allot_91 (ra_in hx12 (by decide) (by decide)) ?_
            generalize upL lv (h + 60 + 20 * j2 + 1) x12.toNatClampNeg l19 = lv
            refine z_aloadnR zh dX4_allot_92 rfl ?_
            refine z_getf zh fl_Night_160 dX4_allot_93 (ck_M (isM_of hh hj2)) rfl rfl ?_
            refine z_iload zh dX4_allot_96 rfl ?_
            refine z_iconst zh dX4_allot_98 ki_0 ?_
            refine z_aloadnR zh dX4_allot_99 rfl ?_
            refine z_getf zh fl_Night_160 dX4_allot_100 (ck_M (isM_of hh hj2)) rfl rfl ?_
            refine z_iload zh dX4_allot_103 rfl ?_
            refine y_iald zh (ck_mi 4 (by decide) (isM_of hh hj2)) dX4_allot_105 hx12 (by decide) (by decide) (fun x20 ex20 => ?_)
            refine z_iload zh dX4_allot_106 rfl ?_
            refine y_isubT zh dX4_allot_108 (fun x21 => ?_)
            refine y_mmax zh ma_Night_163 mc_max dX4_allot_109 ⟨Nat.le_of_ble_eq_true rfl, Nat.le_of_ble_eq_true rfl⟩ rl_0 (ra_tt x21) (u := 0) (v := 2147483647) (Or.inl (by decide)) (by decide) (by decide) (fun x22 hx22 => ?_)
            refine z_iast zh (ck_mi 4 (by decide) (isM_of hh hj2)) dX4_allot_112 (ra_in hx12 (by decide) (by decide)) ?_
            have hG : SI sp σ (upI iv (h + 60 + 20 * j2 + 4) x12.toNatClampNeg x22) := si_wM hG (isM_of hh hj2) 4 (by decide) (rx_none rfl)
            generalize upI iv (h + 60 + 20 * j2 + 4) x12.toNatClampNeg x22 = iv at hG  ⊢
            refine z_aloadnR zh dX4_allot_113 rfl ?_
            refine z_getf zh fl_Night_122 dX4_allot_114 (ck_H hh) rfl rfl ?_
            refine z_iload zh dX4_allot_117 rfl ?_
            refine z_dup2 zh dX4_allot_119 rfl rfl ?_
            refine y_lald zh (ck_cash hh) dX4_allot_120 hx12 (by decide) (by decide) (fun l24 => ?_)
            refine z_aloadnR zh dX4_allot_121 rfl ?_
            refine z_iload zh dX4_allot_122 rfl ?_
            refine z_callVL zh mv_Night_125 dX4_allot_124 (ck_M (isM_of hh hj2)) rfl (s_X3_worth g (isM_of hh hj2) hG) ⟨Nat.le_of_ble_eq_true rfl, Nat.le_of_ble_eq_true rfl⟩ rfl rfl (Nat.le_of_ble_eq_true rfl) ?_
            rintro l25 _ _ ⟨rfl, rfl, _⟩
            refine y_lsub zh dX4_allot_127 (fun l26 => ?_)
            refine z_last zh (ck_cash hh) dX4_allot_128 (ra_in hx12 (by decide) (by decide)) ?_
            generalize upL lv (h + 2) x12.toNatClampNeg l26 = lv
            refine z_aloadnR zh dX4_allot_129 rfl ?_
            refine z_iload zh dX4_allot_130 rfl ?_
            refine z_aloadR zh dX4_allot_132 rfl ?_
            refine z_getf zh fl_Night_156 dX4_allot_134 (ck_line hh) rfl rfl ?_
            refine z_iload zh dX4_allot_137 rfl ?_
            refine y_iald zh (ck_lineD hh) dX4_allot_139 r7 (by decide) (by decide) (fun x27 ex27 => ?_)
            have hx27 : Ra 0 99 x27 := ra_of ex27 (si_H hG hh 56 (by decide) rfl)
            refine z_iload zh dX4_allot_140 rfl ?_
            refine y_inegT zh dX4_allot_142 (fun x28 => ?_)
            refine z_callVV zh mv_Night_166 dX4_allot_143 (ck_M (isM_of hh hj2)) rfl (s_X3_changeLot g (isM_of hh hj2) hx12 hx27 hG) ⟨Nat.le_of_ble_eq_true rfl, Nat.le_of_ble_eq_true rfl⟩ rfl rfl (Nat.le_of_ble_eq_true rfl) ?_
            rintro iv lv hG
            refine z_aloadnR zh dX4_allot_146 rfl ?_
            refine z_iconst zh dX4_allot_147 ki_1 ?_
            refine z_iloadn zh dX4_allot_148 rfl ?_
            refine z_iconst zh dX4_allot_149 ki_m1 ?_
            refine z_iload zh dX4_allot_150 rfl ?_
            refine z_iload zh dX4_allot_152 rfl ?_
            refine z_callVV zh mv_Night_133 dX4_allot_154 (ck_H hh) rfl (s_X1_write g hh (ra_w rl_1 (by decide) (by decide)) ha1 (ra_w rl_n1 (by decide) (by decide)) (ra_w hx12 (by decide) (by decide)) hG) ⟨Nat.le_of_ble_eq_true rfl, Nat.le_of_ble_eq_true rfl⟩ rfl rfl (Nat.le_of_ble_eq_true rfl) ?_
            rintro iv lv hG
            refine z_iload zh dX4_allot_157 rfl ?_
            refine z_iload zh dX4_allot_159 rfl ?_
            refine y_isubT zh dX4_allot_161 (fun x29 => ?_)
            refine z_istore zh dX4_allot_162 (by decide) (L' := [some (rf g h), some (.int a1), some (.int a2), some (rf g (h + 60 + 20 * j2)), some (rf g (h + 54)), some (.int x29), some (.int x4), some (.int x12), some (.int x16)]) rfl ?_
            refine y_iinc (L' := fun z => [some (rf g h), some (.int a1), some (.int a2), some (rf g (h + 60 + 20 * j2)), some (rf g (h + 54)), some (.int x29), some (.int z), some (.int x12), some (.int x16)]) zh dX4_allot_164 (by decide) rfl (by decide +kernel) r7 (u := 1) (v := 1200) rfl rfl (by decide) (by decide) (fun _ => rfl) (fun x30 hc30 hx30 => ?_)
            refine z_goto (tgt := 31) zh dX4_allot_167 rfl ?_
            refine z_forget zh [true, true, true, true, true, true, true, false, false] (L2 := [some (rf g h), some (.int a1), some (.int a2), some (rf g (h + 60 + 20 * j2)), some (rf g (h + 54)), some (.int x29), some (.int x30), none, none]) rfl ?_
            exact ih31 iv lv x29 x30 hG (ra_w hx30 (by decide) (by decide)) (ms_up hc30 (by decide) hn31)
    exact J31 1201 iv lv a2 (nI 0) hG (ra_w rl_0 (by decide) (by decide)) (ms_u0 rl_0 (by decide))
  · have r31 := rb_eq (u := 0) (v := 0) (ra_tt a2) ra_z q1 (by decide) (by decide)
    exact z_vret zh dX4_allot_4 ⟨rfl, hG⟩
set_option maxRecDepth 20000 in
theorem s_X4_bestLender (g : GE) {sp : Nat → Nat → Bool} {σ : Iv} {iv : Iv} {lv : Lv} {h : Nat} {a1 : Int32} {a2 : Int32} (hh : isH h) (ha1 : Ra 0 5 a1) (ha2 : Ra 0 11 a2) (hG : SI sp σ iv)  : ConI g yX4_bestLender cX4_bestLender 7 (some .int) 3 [rf g h, .int a1, .int a2] iv lv (fun r iv' lv' => iv = iv' ∧ lv = lv' ∧ Ra (-1) 11 r) := by
  refine con_intro (own := "RollingNets$Night") (by decide +kernel) rfl (Nat.le_of_ble_eq_true rfl) (L0 := [some (rf g h), some (.int a1), some (.int a2), none, none, none, none]) rfl (fun Z zh => ?_)
  refine z_iconst zh dX4_bestLender_0 ki_m1 ?_
  refine z_istoren zh dX4_bestLender_1 (by decide) (L' := [some (rf g h), some (.int a1), some (.int a2), some (.int (-1)), none, none, none]) rfl ?_
  refine z_iconst zh dX4_bestLender_2 ki_0 ?_
  refine z_istore zh dX4_bestLender_3 (by decide) (L' := [some (rf g h), some (.int a1), some (.int a2), some (.int (-1)), some (.int (nI 0)), none, none]) rfl ?_
  refine z_iconst zh dX4_bestLender_5 ki_0 ?_
  refine z_istore zh dX4_bestLender_6 (by decide) (L' := [some (rf g h), some (.int a1), some (.int a2), some (.int (-1)), some (.int (nI 0)), some (.int (nI 0)), none]) rfl ?_
  have J8 : ∀ (n : Nat) (x1 : Int32) (x2 : Int32) (x3 : Int32), Ra (-1) 11 x1 → Ra 0 2147483647 x2 → Ra 0 12 x3 → 12 - x3.toInt < (n : Int) → Z 8 [some (rf g h), some (.int a1), some (.int a2), some (.int x1), some (.int x2), some (.int x3), none] [] iv lv := by
    intro n
    induction n with
    | zero => intro x1 x2 x3 hx1 hx2 hx3 hn8; exact (ms_uz hx3 hn8).elim
    | succ n ih8 =>
      intro x1 x2 x3 hx1 hx2 hx3 hn8
      refine z_iload zh dX4_bestLender_8 rfl ?_
      refine z_aloadnR zh dX4_bestLender_10 rfl ?_
      refine z_callVI zh mv_Night_93 dX4_bestLender_11 (ck_H hh) rfl (s_X1_members g hh hG) ⟨Nat.le_of_ble_eq_true rfl, Nat.le_of_ble_eq_true rfl⟩ rfl rfl (Nat.le_of_ble_eq_true rfl) ?_
      rintro x4 _ _ ⟨rfl, rfl, hx4⟩
      refine z_icmp_ge (tgt := 56) zh dX4_bestLender_14 rfl (fun q5 => ?_) (fun q5 => ?_)
      · have r6 : Ra 2 12 x3 := rb_le_r hx4 hx3 q5 (by decide)
        refine z_iloadn zh dX4_bestLender_56 rfl ?_
        exact z_iret zh dX4_bestLender_57 ⟨_, rfl, rfl, rfl, hx1⟩
      · have r7 : Ra 0 11 x3 := rb_lt_l hx4 hx3 (rb_nle q5) (by decide)
        refine z_iload zh dX4_bestLender_17 rfl ?_
        refine z_iloadn zh dX4_bestLender_19 rfl ?_
        have J34 : ∀ (x8 : Int32), Z 34 [some (rf g h), some (.int a1), some (.int a2), some (.int x1), some (.int x2), some (.int x3), none] [.int x8] iv lv := by
          intro x8
          refine z_istore zh dX4_bestLender_34 (by decide) (L' := [some (rf g h), some (.int a1), some (.int a2), some (.int x1), some (.int x2), some (.int x3), some (.int x8)]) rfl ?_
          refine z_iload zh dX4_bestLender_36 rfl ?_
          refine z_iload zh dX4_bestLender_38 rfl ?_
          have J50 : ∀ (x9 : Int32) (x10 : Int32), Ra (-1) 11 x9 → Ra 0 2147483647 x10 → Z 50 [some (rf g h), some (.int a1), some (.int a2), some (.int x9), some (.int x10), some (.int x3), some (.int x8)] [] iv lv := by
            intro x9 x10 hx9 hx10
            refine y_iinc (L' := fun z => [some (rf g h), some (.int a1), some (.int a2), some (.int x9), some (.int x10), some (.int z), some (.int x8)]) zh dX4_bestLender_50 (by decide) rfl (by decide +kernel) r7 (u := 1) (v := 12) rfl rfl (by decide) (by decide) (fun _ => rfl) (fun x11 hc11 hx11 => ?_)
            refine z_goto (tgt := 8) zh dX4_bestLender_53 rfl ?_
            refine z_forget zh [true, true, true, true, true, true, false] (L2 := [some (rf g h), some (.int a1), some (.int a2), some (.int x9), some (.int x10), some (.int x11), none]) rfl ?_
            exact ih8 x9 x10 x11 hx9 hx10 (ra_w hx11 (by decide) (by decide)) (ms_up hc11 (by decide) hn8)
          refine z_icmp_le (tgt := 50) zh dX4_bestLender_40 rfl (fun q12 => ?_) (fun q12 => ?_)
          · exact J50 x1 x2 hx1 hx2
          · have r13 : Ra 0 2147483646 x2 := rb_lt_l (ra_tt x8) hx2 (rb_nle q12) (by decide)
            have r14 : Ra 1 2147483647 x8 := rb_lt_r hx2 (ra_tt x8) (rb_nle q12) (by decide)
            refine z_iload zh dX4_bestLender_43 rfl ?_
            refine z_istore zh dX4_bestLender_45 (by decide) (L' := [some (rf g h), some (.int a1), some (.int a2), some (.int x1), some (.int x8), some (.int x3), some (.int x8)]) rfl ?_
            refine z_iload zh dX4_bestLender_47 rfl ?_
            refine z_istoren zh dX4_bestLender_49 (by decide) (L' := [some (rf g h), some (.int a1), some (.int a2), some (.int x3), some (.int x8), some (.int x3), some (.int x8)]) rfl ?_
            exact J50 x3 x8 (ra_w r7 (by decide) (by decide)) (ra_w r14 (by decide) (by decide))
        refine z_icmp_ne (tgt := 27) zh dX4_bestLender_20 rfl (fun q15 => ?_) (fun q15 => ?_)
        · refine z_aloadnR zh dX4_bestLender_27 rfl ?_
          refine z_iloadn zh dX4_bestLender_28 rfl ?_
          refine z_iload zh dX4_bestLender_29 rfl ?_
          refine z_callVI zh mv_Night_178 dX4_bestLender_31 (ck_H hh) rfl (s_X1_canLend g hh ha1 r7 hG) ⟨Nat.le_of_ble_eq_true rfl, Nat.le_of_ble_eq_true rfl⟩ rfl rfl (Nat.le_of_ble_eq_true rfl) ?_
          rintro x16 _ _ ⟨rfl, rfl, _⟩
          exact J34 x16
        · refine z_iconst zh dX4_bestLender_23 ki_0 ?_
          refine z_goto (tgt := 34) zh dX4_bestLender_24 rfl ?_
          exact J34 (nI 0)
  exact J8 13 (-1) (nI 0) (nI 0) (ra_w rl_n1 (by decide) (by decide)) (ra_w rl_0 (by decide) (by decide)) (ra_w rl_0 (by decide) (by decide)) (ms_u0 rl_0 (by decide))
set_option maxRecDepth 20000 in
theorem s_X4_countFails (g : GE) {sp : Nat → Nat → Bool} {σ : Iv} {iv : Iv} {lv : Lv} {h : Nat} {a1 : Int32} (hh : isH h) (ha1 : Ra 0 5 a1) (hG : SI sp σ iv)  : ConV g yX4_countFails cX4_countFails 7 none 2 [rf g h, .int a1] iv lv (fun iv lv => SI sp σ iv) := by
  refine con_intro (own := "RollingNets$Night") (by decide +kernel) rfl (Nat.le_of_ble_eq_true rfl) (L0 := [some (rf g h), some (.int a1), none, none, none, none, none]) rfl (fun Z zh => ?_)
  refine z_aloadnR zh dX4_countFails_0 rfl ?_
  refine z_getf zh fl_Night_57 dX4_countFails_1 (ck_H hh) rfl rfl ?_
  refine z_iloadn zh dX4_countFails_4 rfl ?_
  refine y_mald zh (ck_markets hh) dX4_countFails_5 ha1 (by decide) (by decide) (fun j1 hj1 _ _ => ?_)
  refine z_astoren zh dX4_countFails_6 (by decide) (L' := [some (rf g h), some (.int a1), some (rf g (h + 60 + 20 * j1)), none, none, none, none]) rfl ?_
  refine z_iconst zh dX4_countFails_7 ki_0 ?_
  refine z_istoren zh dX4_countFails_8 (by decide) (L' := [some (rf g h), some (.int a1), some (rf g (h + 60 + 20 * j1)), some (.int (nI 0)), none, none, none]) rfl ?_
  have J9 : ∀ (n : Nat) (iv : Iv) (lv : Lv) (x2 : Int32), SI sp σ iv → Ra 0 12 x2 → 12 - x2.toInt < (n : Int) → Z 9 [some (rf g h), some (.int a1), some (rf g (h + 60 + 20 * j1)), some (.int x2), none, none, none] [] iv lv := by
    intro n
    induction n with
    | zero => intro iv lv x2 hG hx2 hn9; exact (ms_uz hx2 hn9).elim
    | succ n ih9 =>
      intro iv lv x2 hG hx2 hn9
      refine z_iloadn zh dX4_countFails_9 rfl ?_
      refine z_aloadnR zh dX4_countFails_10 rfl ?_
      refine z_callVI zh mv_Night_93 dX4_countFails_11 (ck_H hh) rfl (s_X1_members g hh hG) ⟨Nat.le_of_ble_eq_true rfl, Nat.le_of_ble_eq_true rfl⟩ rfl rfl (Nat.le_of_ble_eq_true rfl) ?_
      rintro x3 _ _ ⟨rfl, rfl, hx3⟩
      refine z_icmp_ge (tgt := 88) zh dX4_countFails_14 rfl (fun q4 => ?_) (fun q4 => ?_)
      · have r5 : Ra 2 12 x2 := rb_le_r hx3 hx2 q4 (by decide)
        exact z_vret zh dX4_countFails_88 ⟨rfl, hG⟩
      · have r6 : Ra 0 11 x2 := rb_lt_l hx3 hx2 (rb_nle q4) (by decide)
        refine z_aloadnR zh dX4_countFails_17 rfl ?_
        refine z_iloadn zh dX4_countFails_18 rfl ?_
        refine z_callVI zh mv_Night_104 dX4_countFails_19 (ck_M (isM_of hh hj1)) rfl (s_X3_shortOf g (isM_of hh hj1) r6 hG) ⟨Nat.le_of_ble_eq_true rfl, Nat.le_of_ble_eq_true rfl⟩ rfl rfl (Nat.le_of_ble_eq_true rfl) ?_
        rintro x7 _ _ ⟨rfl, rfl, hx7⟩
        refine z_istore zh dX4_countFails_22 (by decide) (L' := [some (rf g h), some (.int a1), some (rf g (h + 60 + 20 * j1)), some (.int x2), some (.int x7), none, none]) rfl ?_
        refine z_iload zh dX4_countFails_24 rfl ?_
        have J82 : ∀ (iv : Iv) (lv : Lv), SI sp σ iv → Z 82 [some (rf g h), some (.int a1), some (rf g (h + 60 + 20 * j1)), some (.int x2), some (.int x7), none, none] [] iv lv := by
          intro iv lv hG
          refine y_iinc (L' := fun z => [some (rf g h), some (.int a1), some (rf g (h + 60 + 20 * j1)), some (.int z), some (.int x7), none, none]) zh dX4_countFails_82 (by decide) rfl (by decide +kernel) r6 (u := 1) (v := 12) rfl rfl (by decide) (by decide) (fun _ => rfl) (fun x8 hc8 hx8 => ?_)
          refine z_goto (tgt := 9) zh dX4_countFails_85 rfl ?_
          refine z_forget zh [true, true, true, true, false, false, false] (L2 := [some (rf g h), some (.int a1), some (rf g (h + 60 + 20 * j1)), some (.int x8), none, none, none]) rfl ?_
          exact ih9 iv lv x8 hG (ra_w hx8 (by decide) (by decide)) (ms_up hc8 (by decide) hn9)
        refine z_if_le (tgt := 82) zh dX4_countFails_26 rfl (fun q9 => ?_) (fun q9 => ?_)
        · have r10 : Ra 0 0 x7 := rb_le_l ra_z hx7 q9 (by decide)
          exact J82 iv lv hG
        · have r11 : Ra 1 2147483647 x7 := rb_lt_r ra_z hx7 (rb_nle q9) (by decide)
          refine z_aloadnR zh dX4_countFails_29 rfl ?_
          refine z_iload zh dX4_countFails_30 rfl ?_
          refine z_callVL zh mv_Night_125 dX4_countFails_32 (ck_M (isM_of hh hj1)) rfl (s_X3_worth g (isM_of hh hj1) hG) ⟨Nat.le_of_ble_eq_true rfl, Nat.le_of_ble_eq_true rfl⟩ rfl rfl (Nat.le_of_ble_eq_true rfl) ?_
          rintro l12 _ _ ⟨rfl, rfl, _⟩
          refine z_aloadnR zh dX4_countFails_35 rfl ?_
          refine z_getf zh fl_Night_169 dX4_countFails_36 (ck_H hh) rfl rfl ?_
          refine z_bipush zh dX4_countFails_39 kb_6 ?_
          refine y_ialdN zh (ck_told hh) dX4_countFails_41 (by decide) (fun x13 ex13 => ?_)
          refine y_i2l zh dX4_countFails_42 (fun l14 => ?_)
          refine y_lmul zh dX4_countFails_43 (fun l15 => ?_)
          refine z_ldc2 zh dX4_countFails_44 kl_Night_194 ?_
          refine y_ldiv zh dX4_countFails_47 (by decide) (fun l16 => ?_)
          refine z_lstore zh dX4_countFails_48 (by decide) (L' := [some (rf g h), some (.int a1), some (rf g (h + 60 + 20 * j1)), some (.int x2), some (.int x7), some (.long l16), none]) rfl ?_
          refine z_aloadnR zh dX4_countFails_50 rfl ?_
          refine z_getf zh fl_Night_196 dX4_countFails_51 (ck_M (isM_of hh hj1)) rfl rfl ?_
          refine z_iloadn zh dX4_countFails_54 rfl ?_
          refine z_dup2 zh dX4_countFails_55 rfl rfl ?_
          refine y_iald zh (ck_mi 5 (by decide) (isM_of hh hj1)) dX4_countFails_56 r6 (by decide) (by decide) (fun x17 ex17 => ?_)
          refine z_iconst zh dX4_countFails_57 ki_1 ?_
          refine y_iaddT zh dX4_countFails_58 (fun x18 => ?_)
          refine z_iast zh (ck_mi 5 (by decide) (isM_of hh hj1)) dX4_countFails_59 (ra_in r6 (by decide) (by decide)) ?_
          have hG : SI sp σ (upI iv (h + 60 + 20 * j1 + 5) x2.toNatClampNeg x18) := si_wM hG (isM_of hh hj1) 5 (by decide) (rx_none rfl)
          generalize upI iv (h + 60 + 20 * j1 + 5) x2.toNatClampNeg x18 = iv at hG  ⊢
          refine z_aloadnR zh dX4_countFails_60 rfl ?_
          refine z_getf zh fl_Night_122 dX4_countFails_61 (ck_H hh) rfl rfl ?_
          refine z_iloadn zh dX4_countFails_64 rfl ?_
          refine z_dup2 zh dX4_countFails_65 rfl rfl ?_
          refine y_lald zh (ck_cash hh) dX4_countFails_66 r6 (by decide) (by decide) (fun l19 => ?_)
          refine z_lload zh dX4_countFails_67 rfl ?_
          refine y_lsub zh dX4_countFails_69 (fun l20 => ?_)
          refine z_last zh (ck_cash hh) dX4_countFails_70 (ra_in r6 (by decide) (by decide)) ?_
          generalize upL lv (h + 2) x2.toNatClampNeg l20 = lv
          refine z_aloadnR zh dX4_countFails_71 rfl ?_
          refine z_dup zh dX4_countFails_72 rfl ?_
          refine y_getL zh fl_Night_190 dX4_countFails_73 (ck_H hh) rfl rfl (fun l21 => ?_)
          refine z_lload zh dX4_countFails_76 rfl ?_
          refine y_ladd zh dX4_countFails_78 (fun l22 => ?_)
          refine z_putL zh fl_Night_190 dX4_countFails_79 (ck_H hh) rfl rfl (Nat.le_of_ble_eq_true rfl) rfl ?_
          generalize upL lv h 12 l22 = lv
          refine z_forget zh [true, true, true, true, true, false, false] (L2 := [some (rf g h), some (.int a1), some (rf g (h + 60 + 20 * j1)), some (.int x2), some (.int x7), none, none]) rfl ?_
          exact J82 iv lv hG
  exact J9 13 iv lv (nI 0) hG (ra_w rl_0 (by decide) (by decide)) (ms_u0 rl_0 (by decide))
set_option maxRecDepth 20000 in
theorem s_X5_takeAssigned (g : GE) {sp : Nat → Nat → Bool} {σ : Iv} {iv : Iv} {lv : Lv} {h : Nat} {a1 : Int32} {a2 : Int32} {a3 : Int32} (hh : isH h) (ha1 : Ra 0 5 a1) (ha2 : Ra 0 11 a2) (hG : SI sp σ iv)  : ConV g yX5_takeAssigned cX5_takeAssigned 8 none 3 [rf g h, .int a1, .int a2, .int a3] iv lv (fun iv lv => SI sp σ iv) := by
  refine con_intro (own := "RollingNets$Notices") (by decide +kernel) rfl (Nat.le_of_ble_eq_true rfl) (L0 := [some (rf g h), some (.int a1), some (.int a2), some (.int a3), none, none, none, none]) rfl (fun Z zh => ?_)
  refine z_aloadnR zh dX5_takeAssigned_0 rfl ?_
  refine z_getf zh fl_Notices_9 dX5_takeAssigned_1 (ck_H hh) rfl rfl ?_
  refine z_astore zh dX5_takeAssigned_4 (by decide) (L' := [some (rf g h), some (.int a1), some (.int a2), some (.int a3), some (rf g (h + 17)), none, none, none]) rfl ?_
  refine z_iloadn zh dX5_takeAssigned_6 rfl ?_
  refine z_istore zh dX5_takeAssigned_7 (by decide) (L' := [some (rf g h), some (.int a1), some (.int a2), some (.int a3), some (rf g (h + 17)), some (.int a3), none, none]) rfl ?_
  refine z_iconst zh dX5_takeAssigned_9 ki_0 ?_
  refine z_istore zh dX5_takeAssigned_10 (by decide) (L' := [some (rf g h), some (.int a1), some (.int a2), some (.int a3), some (rf g (h + 17)), some (.int a3), some (.int (nI 0)), none]) rfl ?_
  have J12 : ∀ (n : Nat) (iv : Iv) (lv : Lv) (x1 : Int32) (x2 : Int32), SI sp σ iv → Ra 0 60 x2 → 60 - x2.toInt < (n : Int) → Z 12 [some (rf g h), some (.int a1), some (.int a2), some (.int a3), some (rf g (h + 17)), some (.int x1), some (.int x2), none] [] iv lv := by
    intro n
    induction n with
    | zero => intro iv lv x1 x2 hG hx2 hn12; exact (ms_uz hx2 hn12).elim
    | succ n ih12 =>
      intro iv lv x1 x2 hG hx2 hn12
      refine z_iload zh dX5_takeAssigned_12 rfl ?_
      refine z_aloadR zh dX5_takeAssigned_14 rfl ?_
      obtain ⟨x3, ex3⟩ : ∃ z, iv (h + 17) 2 = z := ⟨_, rfl⟩
      have hx3 : Ra 0 60 x3 := ra_of ex3 (si_T hG (isT_n hh))
      refine z_callVIp zh mv_Notices_15 dX5_takeAssigned_16 (ck_T (isT_n hh)) rfl (s_X7_size g (isT_n hh) ex3) ⟨Nat.le_of_ble_eq_true rfl, Nat.le_of_ble_eq_true rfl⟩ rfl rfl (Nat.le_of_ble_eq_true rfl) ?_
      refine z_icmp_ge (tgt := 93) zh dX5_takeAssigned_19 rfl (fun q4 => ?_) (fun q4 => ?_)
      · exact z_vret zh dX5_takeAssigned_93 ⟨rfl, hG⟩
      · have r5 : Ra 0 59 x2 := rb_lt_l hx3 hx2 (rb_nle q4) (by decide)
        have r6 : Ra 1 60 x3 := rb_lt_r hx2 hx3 (rb_nle q4) (by decide)
        refine z_iload zh dX5_takeAssigned_22 rfl ?_
        refine z_if_le (tgt := 93) zh dX5_takeAssigned_24 rfl (fun q7 => ?_) (fun q7 => ?_)
        · have r8 : Ra (-2147483648) 0 x1 := rb_le_l ra_z (ra_tt x1) q7 (by decide)
          exact z_vret zh dX5_takeAssigned_93 ⟨rfl, hG⟩
        · have r9 : Ra 1 2147483647 x1 := rb_lt_r ra_z (ra_tt x1) (rb_nle q7) (by decide)
          refine z_aloadnR zh dX5_takeAssigned_27 rfl ?_
          refine z_iload zh dX5_takeAssigned_28 rfl ?_
          refine z_iloadn zh dX5_takeAssigned_30 rfl ?_
          refine z_callVI zh mv_Notices_21 dX5_takeAssigned_31 (ck_H hh) rfl (s_X1_isOpenNotice g hh r5 ha1 hG) ⟨Nat.le_of_ble_eq_true rfl, Nat.le_of_ble_eq_true rfl⟩ rfl rfl (Nat.le_of_ble_eq_true rfl) ?_
          rintro x10 _ _ ⟨rfl, rfl, hx10⟩
          have J87 : ∀ (iv : Iv) (lv : Lv) (x11 : Int32), SI sp σ iv → Z 87 [some (rf g h), some (.int a1), some (.int a2), some (.int a3), some (rf g (h + 17)), some (.int x11), some (.int x2), none] [] iv lv := by
            intro iv lv x11 hG
            refine y_iinc (L' := fun z => [some (rf g h), some (.int a1), some (.int a2), some (.int a3), some (rf g (h + 17)), some (.int x11), some (.int z), none]) zh dX5_takeAssigned_87 (by decide) rfl (by decide +kernel) r5 (u := 1) (v := 60) rfl rfl (by decide) (by decide) (fun _ => rfl) (fun x12 hc12 hx12 => ?_)
            refine z_goto (tgt := 12) zh dX5_takeAssigned_90 rfl ?_
            exact ih12 iv lv x11 x12 hG (ra_w hx12 (by decide) (by decide)) (ms_up hc12 (by decide) hn12)
          refine z_if_eq (tgt := 87) zh dX5_takeAssigned_34 rfl (fun q13 => ?_) (fun q13 => ?_)
          · have r14 := rb_eq (u := 0) (v := 0) hx10 ra_z q13 (by decide) (by decide)
            exact J87 iv lv x1 hG
          · have r15 : Ra 1 1 x10 := rb_ne_lo hx10 ra_z q13 (by decide)
            refine z_iload zh dX5_takeAssigned_37 rfl ?_
            refine z_aloadR zh dX5_takeAssigned_39 rfl ?_
            refine z_bipush zh dX5_takeAssigned_41 kb_7 ?_
            refine z_iloadn zh dX5_takeAssigned_43 rfl ?_
            refine y_iadd zh dX5_takeAssigned_44 rl_7 ha2 (u := 7) (v := 18) rfl rfl (by decide) (by decide) (fun x16 hc16 hx16 => ?_)
            refine z_iload zh dX5_takeAssigned_45 rfl ?_
            refine z_callVI zh mv_Notices_25 dX5_takeAssigned_47 (ck_T (isT_n hh)) rfl (s_X7_get g (isT_n hh) ex3 hx3) ⟨Nat.le_of_ble_eq_true rfl, Nat.le_of_ble_eq_true rfl⟩ rfl rfl (Nat.le_of_ble_eq_true rfl) ?_
            rintro x17 _ _ ⟨rfl, rfl, gx17⟩
            refine y_mmin zh ma_Notices_84 mc_min dX5_takeAssigned_50 ⟨Nat.le_of_ble_eq_true rfl, Nat.le_of_ble_eq_true rfl⟩ r9 (ra_tt x17) (u := (-2147483648)) (v := 2147483647) (by decide) (by decide) (Or.inl (by decide)) (fun x18 hx18 => ?_)
            refine z_istore zh dX5_takeAssigned_53 (by decide) (L' := [some (rf g h), some (.int a1), some (.int a2), some (.int a3), some (rf g (h + 17)), some (.int x1), some (.int x2), some (.int x18)]) rfl ?_
            refine z_aloadR zh dX5_takeAssigned_55 rfl ?_
            refine z_bipush zh dX5_takeAssigned_57 kb_7 ?_
            refine z_iloadn zh dX5_takeAssigned_59 rfl ?_
            refine y_iadd zh dX5_takeAssigned_60 rl_7 ha2 (u := 7) (v := 18) rfl rfl (by decide) (by decide) (fun x19 hc19 hx19 => ?_)
            refine z_iload zh dX5_takeAssigned_61 rfl ?_
            refine z_aloadR zh dX5_takeAssigned_63 rfl ?_
            refine z_bipush zh dX5_takeAssigned_65 kb_7 ?_
            refine z_iloadn zh dX5_takeAssigned_67 rfl ?_
            refine y_iadd zh dX5_takeAssigned_68 rl_7 ha2 (u := 7) (v := 18) rfl rfl (by decide) (by decide) (fun x20 hc20 hx20 => ?_)
            refine z_iload zh dX5_takeAssigned_69 rfl ?_
            refine z_callVI zh mv_Notices_25 dX5_takeAssigned_71 (ck_T (isT_n hh)) rfl (s_X7_get g (isT_n hh) ex3 hx3) ⟨Nat.le_of_ble_eq_true rfl, Nat.le_of_ble_eq_true rfl⟩ rfl rfl (Nat.le_of_ble_eq_true rfl) ?_
            rintro x21 _ _ ⟨rfl, rfl, gx21⟩
            refine z_iload zh dX5_takeAssigned_74 rfl ?_
            refine y_isubT zh dX5_takeAssigned_76 (fun x22 => ?_)
            refine z_callVV zh mv_Notices_64 dX5_takeAssigned_77 (ck_T (isT_n hh)) rfl (s_X7_put g (isT_n hh) hG (pn_f hG hh hx19 (by decide))) ⟨Nat.le_of_ble_eq_true rfl, Nat.le_of_ble_eq_true rfl⟩ rfl rfl (Nat.le_of_ble_eq_true rfl) ?_
            rintro iv lv hG
            refine z_iload zh dX5_takeAssigned_80 rfl ?_
            refine z_iload zh dX5_takeAssigned_82 rfl ?_
            refine y_isubT zh dX5_takeAssigned_84 (fun x23 => ?_)
            refine z_istore zh dX5_takeAssigned_85 (by decide) (L' := [some (rf g h), some (.int a1), some (.int a2), some (.int a3), some (rf g (h + 17)), some (.int x23), some (.int x2), some (.int x18)]) rfl ?_
            refine z_forget zh [true, true, true, true, true, true, true, false] (L2 := [some (rf g h), some (.int a1), some (.int a2), some (.int a3), some (rf g (h + 17)), some (.int x23), some (.int x2), none]) rfl ?_
            exact J87 iv lv x23 hG
  exact J12 61 iv lv a3 (nI 0) hG (ra_w rl_0 (by decide) (by decide)) (ms_u0 rl_0 (by decide))
set_option maxRecDepth 20000 in
theorem s_X4_deliver (g : GE) {sp : Nat → Nat → Bool} {σ : Iv} {iv : Iv} {lv : Lv} {h : Nat} {a1 : Int32} {a2 : Int32} (hh : isH h) (ha1 : Ra 0 5 a1) (ha2 : Ra 0 11 a2) (hG : SI sp σ iv)  : ConI g yX4_deliver cX4_deliver 5 (some .int) 4 [rf g h, .int a1, .int a2] iv lv (fun r iv lv => SI sp σ iv ∧ True) := by
  refine con_intro (own := "RollingNets$Night") (by decide +kernel) rfl (Nat.le_of_ble_eq_true rfl) (L0 := [some (rf g h), some (.int a1), some (.int a2), none, none]) rfl (fun Z zh => ?_)
  refine z_aloadnR zh dX4_deliver_0 rfl ?_
  refine z_getf zh fl_Night_57 dX4_deliver_1 (ck_H hh) rfl rfl ?_
  refine z_iloadn zh dX4_deliver_4 rfl ?_
  refine y_mald zh (ck_markets hh) dX4_deliver_5 ha1 (by decide) (by decide) (fun j1 hj1 _ _ => ?_)
  refine z_astoren zh dX4_deliver_6 (by decide) (L' := [some (rf g h), some (.int a1), some (.int a2), some (rf g (h + 60 + 20 * j1)), none]) rfl ?_
  refine z_aloadnR zh dX4_deliver_7 rfl ?_
  refine z_iloadn zh dX4_deliver_8 rfl ?_
  refine z_callVI zh mv_Night_104 dX4_deliver_9 (ck_M (isM_of hh hj1)) rfl (s_X3_shortOf g (isM_of hh hj1) ha2 hG) ⟨Nat.le_of_ble_eq_true rfl, Nat.le_of_ble_eq_true rfl⟩ rfl rfl (Nat.le_of_ble_eq_true rfl) ?_
  rintro x2 _ _ ⟨rfl, rfl, hx2⟩
  refine y_i2l zh dX4_deliver_12 (fun l3 => ?_)
  refine z_aloadnR zh dX4_deliver_13 rfl ?_
  refine z_iloadn zh dX4_deliver_14 rfl ?_
  refine z_iloadn zh dX4_deliver_15 rfl ?_
  refine z_callVL zh mv_Night_108 dX4_deliver_16 (ck_H hh) rfl (s_X1_freeOf g hh ha1 ha2 hG) ⟨Nat.le_of_ble_eq_true rfl, Nat.le_of_ble_eq_true rfl⟩ rfl rfl (Nat.le_of_ble_eq_true rfl) ?_
  rintro l4 _ _ ⟨rfl, rfl, _⟩
  refine y_mmin_longT zh ma_Night_112 mc_min_long dX4_deliver_19 ⟨Nat.le_of_ble_eq_true rfl, Nat.le_of_ble_eq_true rfl⟩ (fun l5 => ?_)
  refine y_l2i zh dX4_deliver_22 (fun x6 => ?_)
  refine z_istore zh dX4_deliver_23 (by decide) (L' := [some (rf g h), some (.int a1), some (.int a2), some (rf g (h + 60 + 20 * j1)), some (.int x6)]) rfl ?_
  refine z_iload zh dX4_deliver_25 rfl ?_
  refine z_if_ne (tgt := 32) zh dX4_deliver_27 rfl (fun q7 => ?_) (fun q7 => ?_)
  · refine z_aloadnR zh dX4_deliver_32 rfl ?_
    refine z_getf zh fl_Night_118 dX4_deliver_33 (ck_M (isM_of hh hj1)) rfl rfl ?_
    refine z_iloadn zh dX4_deliver_36 rfl ?_
    refine z_dup2 zh dX4_deliver_37 rfl rfl ?_
    refine y_lald zh (ck_stock (isM_of hh hj1)) dX4_deliver_38 ha2 (by decide) (by decide) (fun l8 => ?_)
    refine z_iload zh dX4_deliver_39 rfl ?_
    refine y_i2l zh dX4_deliver_41 (fun l9 => ?_)
    refine y_lsub zh dX4_deliver_42 (fun l10 => ?_)
    refine z_last zh (ck_stock (isM_of hh hj1)) dX4_deliver_43 (ra_in ha2 (by decide) (by decide)) ?_
    generalize upL lv (h + 60 + 20 * j1 + 1) a2.toNatClampNeg l10 = lv
    refine z_aloadnR zh dX4_deliver_44 rfl ?_
    refine z_getf zh fl_Night_122 dX4_deliver_45 (ck_H hh) rfl rfl ?_
    refine z_iloadn zh dX4_deliver_48 rfl ?_
    refine z_dup2 zh dX4_deliver_49 rfl rfl ?_
    refine y_lald zh (ck_cash hh) dX4_deliver_50 ha2 (by decide) (by decide) (fun l11 => ?_)
    refine z_aloadnR zh dX4_deliver_51 rfl ?_
    refine z_iload zh dX4_deliver_52 rfl ?_
    refine z_callVL zh mv_Night_125 dX4_deliver_54 (ck_M (isM_of hh hj1)) rfl (s_X3_worth g (isM_of hh hj1) hG) ⟨Nat.le_of_ble_eq_true rfl, Nat.le_of_ble_eq_true rfl⟩ rfl rfl (Nat.le_of_ble_eq_true rfl) ?_
    rintro l12 _ _ ⟨rfl, rfl, _⟩
    refine y_ladd zh dX4_deliver_57 (fun l13 => ?_)
    refine z_last zh (ck_cash hh) dX4_deliver_58 (ra_in ha2 (by decide) (by decide)) ?_
    generalize upL lv (h + 2) a2.toNatClampNeg l13 = lv
    refine z_aloadnR zh dX4_deliver_59 rfl ?_
    refine z_iloadn zh dX4_deliver_60 rfl ?_
    refine z_iload zh dX4_deliver_61 rfl ?_
    refine z_callVV zh mv_Night_129 dX4_deliver_63 (ck_M (isM_of hh hj1)) rfl (s_X3_takeOff g (isM_of hh hj1) ha2 hG) ⟨Nat.le_of_ble_eq_true rfl, Nat.le_of_ble_eq_true rfl⟩ rfl rfl (Nat.le_of_ble_eq_true rfl) ?_
    rintro iv lv hG
    refine z_aloadnR zh dX4_deliver_66 rfl ?_
    refine z_iconst zh dX4_deliver_67 ki_0 ?_
    refine z_iloadn zh dX4_deliver_68 rfl ?_
    refine z_iloadn zh dX4_deliver_69 rfl ?_
    refine z_iconst zh dX4_deliver_70 ki_m1 ?_
    refine z_iload zh dX4_deliver_71 rfl ?_
    refine z_callVV zh mv_Night_133 dX4_deliver_73 (ck_H hh) rfl (s_X1_write g hh (ra_w rl_0 (by decide) (by decide)) ha1 (ra_w ha2 (by decide) (by decide)) (ra_w rl_n1 (by decide) (by decide)) hG) ⟨Nat.le_of_ble_eq_true rfl, Nat.le_of_ble_eq_true rfl⟩ rfl rfl (Nat.le_of_ble_eq_true rfl) ?_
    rintro iv lv hG
    refine z_aloadnR zh dX4_deliver_76 rfl ?_
    refine z_iloadn zh dX4_deliver_77 rfl ?_
    refine z_iloadn zh dX4_deliver_78 rfl ?_
    refine z_iload zh dX4_deliver_79 rfl ?_
    refine z_callSV zh ms_Night_137 dX4_deliver_81 (s_X5_takeAssigned g hh ha1 ha2 hG) ⟨Nat.le_of_ble_eq_true rfl, Nat.le_of_ble_eq_true rfl⟩ rfl rfl (Nat.le_of_ble_eq_true rfl) ?_
    rintro iv lv hG
    refine z_iload zh dX4_deliver_84 rfl ?_
    exact z_iret zh dX4_deliver_86 ⟨_, rfl, hG, trivial⟩
  · have r14 := rb_eq (u := 0) (v := 0) (ra_tt x6) ra_z q7 (by decide) (by decide)
    refine z_iconst zh dX4_deliver_30 ki_0 ?_
    exact z_iret zh dX4_deliver_31 ⟨_, rfl, hG, trivial⟩
set_option maxRecDepth 20000 in
theorem s_X4_deliverAll (g : GE) {sp : Nat → Nat → Bool} {σ : Iv} {iv : Iv} {lv : Lv} {h : Nat} {a1 : Int32} (hh : isH h) (ha1 : Ra 0 5 a1) (hG : SI sp σ iv)  : ConI g yX4_deliverAll cX4_deliverAll 6 (some .int) 5 [rf g h, .int a1] iv lv (fun r iv lv => SI sp σ iv ∧ True) := by
  refine con_intro (own := "RollingNets$Night") (by decide +kernel) rfl (Nat.le_of_ble_eq_true rfl) (L0 := [some (rf g h), some (.int a1), none, none, none, none]) rfl (fun Z zh => ?_)
  refine z_aloadnR zh dX4_deliverAll_0 rfl ?_
  refine z_getf zh fl_Night_57 dX4_deliverAll_1 (ck_H hh) rfl rfl ?_
  refine z_iloadn zh dX4_deliverAll_4 rfl ?_
  refine y_mald zh (ck_markets hh) dX4_deliverAll_5 ha1 (by decide) (by decide) (fun j1 hj1 _ _ => ?_)
  refine z_astoren zh dX4_deliverAll_6 (by decide) (L' := [some (rf g h), some (.int a1), some (rf g (h + 60 + 20 * j1)), none, none, none]) rfl ?_
  refine z_iconst zh dX4_deliverAll_7 ki_0 ?_
  refine z_istoren zh dX4_deliverAll_8 (by decide) (L' := [some (rf g h), some (.int a1), some (rf g (h + 60 + 20 * j1)), some (.int (nI 0)), none, none]) rfl ?_
  refine z_iconst zh dX4_deliverAll_9 ki_0 ?_
  refine z_istore zh dX4_deliverAll_10 (by decide) (L' := [some (rf g h), some (.int a1), some (rf g (h + 60 + 20 * j1)), some (.int (nI 0)), some (.int (nI 0)), none]) rfl ?_
  have J12 : ∀ (n : Nat) (iv : Iv) (lv : Lv) (x2 : Int32) (x3 : Int32), SI sp σ iv → Ra 0 100 x3 → 100 - x3.toInt < (n : Int) → Z 12 [some (rf g h), some (.int a1), some (rf g (h + 60 + 20 * j1)), some (.int x2), some (.int x3), none] [] iv lv := by
    intro n
    induction n with
    | zero => intro iv lv x2 x3 hG hx3 hn12; exact (ms_uz hx3 hn12).elim
    | succ n ih12 =>
      intro iv lv x2 x3 hG hx3 hn12
      refine z_iload zh dX4_deliverAll_12 rfl ?_
      refine z_aloadnR zh dX4_deliverAll_14 rfl ?_
      refine y_getI zh fl_Night_90 dX4_deliverAll_15 (ck_M (isM_of hh hj1)) rfl rfl (fun x4 ex4 => ?_)
      have hx4 : Ra 0 100 x4 := ra_of ex4 (si_M hG (isM_of hh hj1) 0 (by decide) rfl)
      refine z_icmp_ge (tgt := 68) zh dX4_deliverAll_18 rfl (fun q5 => ?_) (fun q5 => ?_)
      · refine z_iloadn zh dX4_deliverAll_68 rfl ?_
        exact z_iret zh dX4_deliverAll_69 ⟨_, rfl, hG, trivial⟩
      · have r6 : Ra 0 99 x3 := rb_lt_l hx4 hx3 (rb_nle q5) (by decide)
        have r7 : Ra 1 100 x4 := rb_lt_r hx3 hx4 (rb_nle q5) (by decide)
        refine z_iconst zh dX4_deliverAll_21 ki_0 ?_
        refine z_istore zh dX4_deliverAll_22 (by decide) (L' := [some (rf g h), some (.int a1), some (rf g (h + 60 + 20 * j1)), some (.int x2), some (.int x3), some (.int (nI 0))]) rfl ?_
        have J24 : ∀ (n : Nat) (iv : Iv) (lv : Lv) (x8 : Int32) (x9 : Int32), SI sp σ iv → Ra 0 12 x9 → 12 - x9.toInt < (n : Int) → Z 24 [some (rf g h), some (.int a1), some (rf g (h + 60 + 20 * j1)), some (.int x8), some (.int x3), some (.int x9)] [] iv lv := by
          intro n
          induction n with
          | zero => intro iv lv x8 x9 hG hx9 hn24; exact (ms_uz hx9 hn24).elim
          | succ n ih24 =>
            intro iv lv x8 x9 hG hx9 hn24
            refine z_iload zh dX4_deliverAll_24 rfl ?_
            refine z_aloadnR zh dX4_deliverAll_26 rfl ?_
            refine z_callVI zh mv_Night_93 dX4_deliverAll_27 (ck_H hh) rfl (s_X1_members g hh hG) ⟨Nat.le_of_ble_eq_true rfl, Nat.le_of_ble_eq_true rfl⟩ rfl rfl (Nat.le_of_ble_eq_true rfl) ?_
            rintro x10 _ _ ⟨rfl, rfl, hx10⟩
            refine z_icmp_ge (tgt := 62) zh dX4_deliverAll_30 rfl (fun q11 => ?_) (fun q11 => ?_)
            · have r12 : Ra 2 12 x9 := rb_le_r hx10 hx9 q11 (by decide)
              refine y_iinc (L' := fun z => [some (rf g h), some (.int a1), some (rf g (h + 60 + 20 * j1)), some (.int x8), some (.int z), some (.int x9)]) zh dX4_deliverAll_62 (by decide) rfl (by decide +kernel) r6 (u := 1) (v := 100) rfl rfl (by decide) (by decide) (fun _ => rfl) (fun x13 hc13 hx13 => ?_)
              refine z_goto (tgt := 12) zh dX4_deliverAll_65 rfl ?_
              refine z_forget zh [true, true, true, true, true, false] (L2 := [some (rf g h), some (.int a1), some (rf g (h + 60 + 20 * j1)), some (.int x8), some (.int x13), none]) rfl ?_
              exact ih12 iv lv x8 x13 hG (ra_w hx13 (by decide) (by decide)) (ms_up hc13 (by decide) hn12)
            · have r14 : Ra 0 11 x9 := rb_lt_l hx10 hx9 (rb_nle q11) (by decide)
              refine z_aloadnR zh dX4_deliverAll_33 rfl ?_
              refine z_getf zh fl_Night_96 dX4_deliverAll_34 (ck_M (isM_of hh hj1)) rfl rfl ?_
              refine z_iload zh dX4_deliverAll_37 rfl ?_
              refine y_gald zh (ck_lots (isM_of hh hj1)) dX4_deliverAll_39 r14 (by decide) (by decide) (fun j15 hj15 _ _ => ?_)
              refine z_iload zh dX4_deliverAll_40 rfl ?_
              refine y_iald zh (ck_row (isM_of hh hj1) hj15) dX4_deliverAll_42 r6 (by decide) (by decide) (fun x16 ex16 => ?_)
              have J56 : ∀ (iv : Iv) (lv : Lv) (x17 : Int32), SI sp σ iv → Z 56 [some (rf g h), some (.int a1), some (rf g (h + 60 + 20 * j1)), some (.int x17), some (.int x3), some (.int x9)] [] iv lv := by
                intro iv lv x17 hG
                refine y_iinc (L' := fun z => [some (rf g h), some (.int a1), some (rf g (h + 60 + 20 * j1)), some (.int x17), some (.int x3), some (.int z)]) zh dX4_deliverAll_56 (by decide) rfl (by decide +kernel) r14 (u := 1) (v := 12) rfl rfl (by decide) (by decide) (fun _ => rfl) (fun x18 hc18 hx18 => ?_)
                refine z_goto (tgt := 24) zh dX4_deliverAll_59 rfl ?_
                exact ih24 iv lv x17 x18 hG (ra_w hx18 (by decide) (by decide)) (ms_up hc18 (by decide) hn24)
              refine z_if_ge (tgt := 56) zh dX4_deliverAll_43 rfl (fun q19 => ?_) (fun q19 => ?_)
              · have r20 : Ra 0 2147483647 x16 := rb_le_r ra_z (ra_tt x16) q19 (by decide)
                exact J56 iv lv x8 hG
              · have r21 : Ra (-2147483648) (-1) x16 := rb_lt_l ra_z (ra_tt x16) (rb_nle q19) (by decide)
                refine z_iloadn zh dX4_deliverAll_46 rfl ?_
                refine z_aloadnR zh dX4_deliverAll_47 rfl ?_
                refine z_iloadn zh dX4_deliverAll_48 rfl ?_
                refine z_iload zh dX4_deliverAll_49 rfl ?_
                refine z_callSI zh ms_Night_100 dX4_deliverAll_51 (s_X4_deliver g hh ha1 r14 hG) ⟨Nat.le_of_ble_eq_true rfl, Nat.le_of_ble_eq_true rfl⟩ rfl rfl (Nat.le_of_ble_eq_true rfl) ?_
                rintro x22 iv lv ⟨hG, _⟩
                refine y_iaddT zh dX4_deliverAll_54 (fun x23 => ?_)
                refine z_istoren zh dX4_deliverAll_55 (by decide) (L' := [some (rf g h), some (.int a1), some (rf g (h + 60 + 20 * j1)), some (.int x23), some (.int x3), some (.int x9)]) rfl ?_
                exact J56 iv lv x23 hG
        exact J24 13 iv lv x2 (nI 0) hG (ra_w rl_0 (by decide) (by decide)) (ms_u0 rl_0 (by decide))
  exact J12 101 iv lv (nI 0) (nI 0) hG (ra_w rl_0 (by decide) (by decide)) (ms_u0 rl_0 (by decide))
set_option maxRecDepth 20000 in
theorem s_X4_lendTo (g : GE) {sp : Nat → Nat → Bool} {σ : Iv} {iv : Iv} {lv : Lv} {h : Nat} {a1 : Int32} {a2 : Int32} {a3 : Int32} (hh : isH h) (ha1 : Ra 0 5 a1) (ha2 : Ra 0 11 a2) (ha3 : Ra 0 99 a3) (hG : SI sp σ iv)  : ConV g yX4_lendTo cX4_lendTo 8 none 4 [rf g h, .int a1, .int a2, .int a3] iv lv (fun iv lv => SI sp σ iv) := by
  refine con_intro (own := "RollingNets$Night") (by decide +kernel) rfl (Nat.le_of_ble_eq_true rfl) (L0 := [some (rf g h), some (.int a1), some (.int a2), some (.int a3), none, none, none, none]) rfl (fun Z zh => ?_)
  refine z_aloadnR zh dX4_lendTo_0 rfl ?_
  refine z_getf zh fl_Night_57 dX4_lendTo_1 (ck_H hh) rfl rfl ?_
  refine z_iloadn zh dX4_lendTo_4 rfl ?_
  refine y_mald zh (ck_markets hh) dX4_lendTo_5 ha1 (by decide) (by decide) (fun j1 hj1 _ _ => ?_)
  refine z_astore zh dX4_lendTo_6 (by decide) (L' := [some (rf g h), some (.int a1), some (.int a2), some (.int a3), some (rf g (h + 60 + 20 * j1)), none, none, none]) rfl ?_
  refine z_iconst zh dX4_lendTo_8 ki_0 ?_
  refine z_istore zh dX4_lendTo_9 (by decide) (L' := [some (rf g h), some (.int a1), some (.int a2), some (.int a3), some (rf g (h + 60 + 20 * j1)), some (.int (nI 0)), none, none]) rfl ?_
  have J11 : ∀ (n : Nat) (iv : Iv) (lv : Lv) (x2 : Int32), SI sp σ iv → Ra 0 12 x2 → 12 - x2.toInt < (n : Int) → Z 11 [some (rf g h), some (.int a1), some (.int a2), some (.int a3), some (rf g (h + 60 + 20 * j1)), some (.int x2), none, none] [] iv lv := by
    intro n
    induction n with
    | zero => intro iv lv x2 hG hx2 hn11; exact (ms_uz hx2 hn11).elim
    | succ n ih11 =>
      intro iv lv x2 hG hx2 hn11
      refine z_iload zh dX4_lendTo_11 rfl ?_
      refine z_aloadnR zh dX4_lendTo_13 rfl ?_
      refine z_callVI zh mv_Night_93 dX4_lendTo_14 (ck_H hh) rfl (s_X1_members g hh hG) ⟨Nat.le_of_ble_eq_true rfl, Nat.le_of_ble_eq_true rfl⟩ rfl rfl (Nat.le_of_ble_eq_true rfl) ?_
      rintro x3 _ _ ⟨rfl, rfl, hx3⟩
      refine z_icmp_ge (tgt := 162) zh dX4_lendTo_17 rfl (fun q4 => ?_) (fun q4 => ?_)
      · have r5 : Ra 2 12 x2 := rb_le_r hx3 hx2 q4 (by decide)
        exact z_vret zh dX4_lendTo_162 ⟨rfl, hG⟩
      · have r6 : Ra 0 11 x2 := rb_lt_l hx3 hx2 (rb_nle q4) (by decide)
        refine z_aloadR zh dX4_lendTo_20 rfl ?_
        refine z_getf zh fl_Night_96 dX4_lendTo_22 (ck_M (isM_of hh hj1)) rfl rfl ?_
        refine z_iloadn zh dX4_lendTo_25 rfl ?_
        refine y_gald zh (ck_lots (isM_of hh hj1)) dX4_lendTo_26 ha2 (by decide) (by decide) (fun j7 hj7 _ _ => ?_)
        refine z_iloadn zh dX4_lendTo_27 rfl ?_
        refine y_iald zh (ck_row (isM_of hh hj1) hj7) dX4_lendTo_28 ha3 (by decide) (by decide) (fun x8 ex8 => ?_)
        refine z_if_le (tgt := 162) zh dX4_lendTo_29 rfl (fun q9 => ?_) (fun q9 => ?_)
        · have r10 : Ra (-2147483648) 0 x8 := rb_le_l ra_z (ra_tt x8) q9 (by decide)
          exact z_vret zh dX4_lendTo_162 ⟨rfl, hG⟩
        · have r11 : Ra 1 2147483647 x8 := rb_lt_r ra_z (ra_tt x8) (rb_nle q9) (by decide)
          refine z_aloadnR zh dX4_lendTo_32 rfl ?_
          refine z_iloadn zh dX4_lendTo_33 rfl ?_
          refine z_iloadn zh dX4_lendTo_34 rfl ?_
          refine z_callSI zh ms_Night_175 dX4_lendTo_35 (s_X4_bestLender g hh ha1 ha2 hG) ⟨Nat.le_of_ble_eq_true rfl, Nat.le_of_ble_eq_true rfl⟩ rfl rfl (Nat.le_of_ble_eq_true rfl) ?_
          rintro x12 _ _ ⟨rfl, rfl, hx12⟩
          refine z_istore zh dX4_lendTo_38 (by decide) (L' := [some (rf g h), some (.int a1), some (.int a2), some (.int a3), some (rf g (h + 60 + 20 * j1)), some (.int x2), some (.int x12), none]) rfl ?_
          refine z_iload zh dX4_lendTo_40 rfl ?_
          refine z_iconst zh dX4_lendTo_42 ki_m1 ?_
          refine z_icmp_ne (tgt := 47) zh dX4_lendTo_43 rfl (fun q13 => ?_) (fun q13 => ?_)
          · have r14 : Ra 0 11 x12 := rb_ne_lo hx12 rl_n1 q13 (by decide)
            refine z_aloadR zh dX4_lendTo_47 rfl ?_
            refine z_getf zh fl_Night_96 dX4_lendTo_49 (ck_M (isM_of hh hj1)) rfl rfl ?_
            refine z_iloadn zh dX4_lendTo_52 rfl ?_
            refine y_gald zh (ck_lots (isM_of hh hj1)) dX4_lendTo_53 ha2 (by decide) (by decide) (fun j15 hj15 _ _ => ?_)
            refine z_iloadn zh dX4_lendTo_54 rfl ?_
            refine y_iald zh (ck_row (isM_of hh hj1) hj15) dX4_lendTo_55 ha3 (by decide) (by decide) (fun x16 ex16 => ?_)
            refine z_aloadnR zh dX4_lendTo_56 rfl ?_
            refine z_iloadn zh dX4_lendTo_57 rfl ?_
            refine z_iload zh dX4_lendTo_58 rfl ?_
            refine z_callVI zh mv_Night_178 dX4_lendTo_60 (ck_H hh) rfl (s_X1_canLend g hh ha1 r14 hG) ⟨Nat.le_of_ble_eq_true rfl, Nat.le_of_ble_eq_true rfl⟩ rfl rfl (Nat.le_of_ble_eq_true rfl) ?_
            rintro x17 _ _ ⟨rfl, rfl, _⟩
            refine y_mmin zh ma_Night_158 mc_min dX4_lendTo_63 ⟨Nat.le_of_ble_eq_true rfl, Nat.le_of_ble_eq_true rfl⟩ (ra_tt x16) (ra_tt x17) (u := (-2147483648)) (v := 2147483647) (by decide) (by decide) (Or.inl (by decide)) (fun x18 hx18 => ?_)
            refine z_istore zh dX4_lendTo_66 (by decide) (L' := [some (rf g h), some (.int a1), some (.int a2), some (.int a3), some (rf g (h + 60 + 20 * j1)), some (.int x2), some (.int x12), some (.int x18)]) rfl ?_
            refine z_aloadR zh dX4_lendTo_68 rfl ?_
            refine z_getf zh fl_Night_118 dX4_lendTo_70 (ck_M (isM_of hh hj1)) rfl rfl ?_
            refine z_iload zh dX4_lendTo_73 rfl ?_
            refine z_dup2 zh dX4_lendTo_75 rfl rfl ?_
            refine y_lald zh (ck_stock (isM_of hh hj1)) dX4_lendTo_76 r14 (by decide) (by decide) (fun l19 => ?_)
            refine z_iload zh dX4_lendTo_77 rfl ?_
            refine y_i2l zh dX4_lendTo_79 (fun l20 => ?_)
            refine y_lsub zh dX4_lendTo_80 (fun l21 => ?_)
            refine z_last zh (ck_stock (isM_of hh hj1)) dX4_lendTo_81 (ra_in r14 (by decide) (by decide)) ?_
            generalize upL lv (h + 60 + 20 * j1 + 1) x12.toNatClampNeg l21 = lv
            refine z_aloadR zh dX4_lendTo_82 rfl ?_
            refine z_getf zh fl_Night_160 dX4_lendTo_84 (ck_M (isM_of hh hj1)) rfl rfl ?_
            refine z_iload zh dX4_lendTo_87 rfl ?_
            refine z_dup2 zh dX4_lendTo_89 rfl rfl ?_
            refine y_iald zh (ck_mi 4 (by decide) (isM_of hh hj1)) dX4_lendTo_90 r14 (by decide) (by decide) (fun x22 ex22 => ?_)
            refine z_iload zh dX4_lendTo_91 rfl ?_
            refine y_iaddT zh dX4_lendTo_93 (fun x23 => ?_)
            refine z_iast zh (ck_mi 4 (by decide) (isM_of hh hj1)) dX4_lendTo_94 (ra_in r14 (by decide) (by decide)) ?_
            have hG : SI sp σ (upI iv (h + 60 + 20 * j1 + 4) x12.toNatClampNeg x23) := si_wM hG (isM_of hh hj1) 4 (by decide) (rx_none rfl)
            generalize upI iv (h + 60 + 20 * j1 + 4) x12.toNatClampNeg x23 = iv at hG  ⊢
            refine z_aloadR zh dX4_lendTo_95 rfl ?_
            refine z_iload zh dX4_lendTo_97 rfl ?_
            refine z_iload zh dX4_lendTo_99 rfl ?_
            refine z_aloadnR zh dX4_lendTo_101 rfl ?_
            refine y_getI zh fl_Night_13 dX4_lendTo_102 (ck_H hh) rfl rfl (fun x24 ex24 => ?_)
            have hx24 : Ra 0 99 x24 := ra_of ex24 (si_H hG hh 0 (by decide) rfl)
            refine z_callVV zh mv_Night_83 dX4_lendTo_105 (ck_M (isM_of hh hj1)) rfl (s_X3_addLot g (isM_of hh hj1) r14 hx24 hG) ⟨Nat.le_of_ble_eq_true rfl, Nat.le_of_ble_eq_true rfl⟩ rfl rfl (Nat.le_of_ble_eq_true rfl) ?_
            rintro iv lv hG
            refine z_aloadR zh dX4_lendTo_108 rfl ?_
            refine z_getf zh fl_Night_118 dX4_lendTo_110 (ck_M (isM_of hh hj1)) rfl rfl ?_
            refine z_iloadn zh dX4_lendTo_113 rfl ?_
            refine z_dup2 zh dX4_lendTo_114 rfl rfl ?_
            refine y_lald zh (ck_stock (isM_of hh hj1)) dX4_lendTo_115 ha2 (by decide) (by decide) (fun l25 => ?_)
            refine z_iload zh dX4_lendTo_116 rfl ?_
            refine y_i2l zh dX4_lendTo_118 (fun l26 => ?_)
            refine y_ladd zh dX4_lendTo_119 (fun l27 => ?_)
            refine z_last zh (ck_stock (isM_of hh hj1)) dX4_lendTo_120 (ra_in ha2 (by decide) (by decide)) ?_
            generalize upL lv (h + 60 + 20 * j1 + 1) a2.toNatClampNeg l27 = lv
            refine z_aloadR zh dX4_lendTo_121 rfl ?_
            refine z_iloadn zh dX4_lendTo_123 rfl ?_
            refine z_iloadn zh dX4_lendTo_124 rfl ?_
            refine z_iload zh dX4_lendTo_125 rfl ?_
            refine y_inegT zh dX4_lendTo_127 (fun x28 => ?_)
            refine z_callVV zh mv_Night_166 dX4_lendTo_128 (ck_M (isM_of hh hj1)) rfl (s_X3_changeLot g (isM_of hh hj1) ha2 ha3 hG) ⟨Nat.le_of_ble_eq_true rfl, Nat.le_of_ble_eq_true rfl⟩ rfl rfl (Nat.le_of_ble_eq_true rfl) ?_
            rintro iv lv hG
            refine z_aloadnR zh dX4_lendTo_131 rfl ?_
            refine z_iloadn zh dX4_lendTo_132 rfl ?_
            refine z_iload zh dX4_lendTo_133 rfl ?_
            refine z_aloadR zh dX4_lendTo_135 rfl ?_
            refine z_iload zh dX4_lendTo_137 rfl ?_
            refine z_callVL zh mv_Night_125 dX4_lendTo_139 (ck_M (isM_of hh hj1)) rfl (s_X3_worth g (isM_of hh hj1) hG) ⟨Nat.le_of_ble_eq_true rfl, Nat.le_of_ble_eq_true rfl⟩ rfl rfl (Nat.le_of_ble_eq_true rfl) ?_
            rintro l29 _ _ ⟨rfl, rfl, _⟩
            refine z_callVV zh mv_Night_79 dX4_lendTo_142 (ck_H hh) rfl (s_X1_pay g hh (ra_w ha2 (by decide) (by decide)) (ra_w r14 (by decide) (by decide)) hG) ⟨Nat.le_of_ble_eq_true rfl, Nat.le_of_ble_eq_true rfl⟩ rfl rfl (Nat.le_of_ble_eq_true rfl) ?_
            rintro iv lv hG
            refine z_aloadnR zh dX4_lendTo_145 rfl ?_
            refine z_iconst zh dX4_lendTo_146 ki_2 ?_
            refine z_iloadn zh dX4_lendTo_147 rfl ?_
            refine z_iload zh dX4_lendTo_148 rfl ?_
            refine z_iloadn zh dX4_lendTo_150 rfl ?_
            refine z_iload zh dX4_lendTo_151 rfl ?_
            refine z_callVV zh mv_Night_133 dX4_lendTo_153 (ck_H hh) rfl (s_X1_write g hh (ra_w rl_2 (by decide) (by decide)) ha1 (ra_w r14 (by decide) (by decide)) (ra_w ha2 (by decide) (by decide)) hG) ⟨Nat.le_of_ble_eq_true rfl, Nat.le_of_ble_eq_true rfl⟩ rfl rfl (Nat.le_of_ble_eq_true rfl) ?_
            rintro iv lv hG
            refine y_iinc (L' := fun z => [some (rf g h), some (.int a1), some (.int a2), some (.int a3), some (rf g (h + 60 + 20 * j1)), some (.int z), some (.int x12), some (.int x18)]) zh dX4_lendTo_156 (by decide) rfl (by decide +kernel) r6 (u := 1) (v := 12) rfl rfl (by decide) (by decide) (fun _ => rfl) (fun x30 hc30 hx30 => ?_)
            refine z_goto (tgt := 11) zh dX4_lendTo_159 rfl ?_
            refine z_forget zh [true, true, true, true, true, true, false, false] (L2 := [some (rf g h), some (.int a1), some (.int a2), some (.int a3), some (rf g (h + 60 + 20 * j1)), some (.int x30), none, none]) rfl ?_
            exact ih11 iv lv x30 hG (ra_w hx30 (by decide) (by decide)) (ms_up hc30 (by decide) hn11)
          · have r31 := rb_eq (u := (-1)) (v := (-1)) hx12 rl_n1 q13 (by decide) (by decide)
            exact z_vret zh dX4_lendTo_46 ⟨rfl, hG⟩
  exact J11 13 iv lv (nI 0) hG (ra_w rl_0 (by decide) (by decide)) (ms_u0 rl_0 (by decide))
set_option maxRecDepth 20000 in
theorem s_X4_lendToAged (g : GE) {sp : Nat → Nat → Bool} {σ : Iv} {iv : Iv} {lv : Lv} {h : Nat} {a1 : Int32} (hh : isH h) (ha1 : Ra 0 5 a1) (hG : SI sp σ iv)  : ConV g yX4_lendToAged cX4_lendToAged 5 none 5 [rf g h, .int a1] iv lv (fun iv lv => SI sp σ iv) := by
  refine con_intro (own := "RollingNets$Night") (by decide +kernel) rfl (Nat.le_of_ble_eq_true rfl) (L0 := [some (rf g h), some (.int a1), none, none, none]) rfl (fun Z zh => ?_)
  refine z_aloadnR zh dX4_lendToAged_0 rfl ?_
  refine y_getI zh fl_Night_13 dX4_lendToAged_1 (ck_H hh) rfl rfl (fun x1 ex1 => ?_)
  have hx1 : Ra 0 99 x1 := ra_of ex1 (si_H hG hh 0 (by decide) rfl)
  refine z_aloadnR zh dX4_lendToAged_4 rfl ?_
  refine z_getf zh fl_Night_169 dX4_lendToAged_5 (ck_H hh) rfl rfl ?_
  refine z_iconst zh dX4_lendToAged_8 ki_2 ?_
  refine y_ialdN zh (ck_told hh) dX4_lendToAged_9 (by decide) (fun x2 ex2 => ?_)
  refine y_isubT zh dX4_lendToAged_10 (fun x3 => ?_)
  refine z_istoren zh dX4_lendToAged_11 (by decide) (L' := [some (rf g h), some (.int a1), some (.int x3), none, none]) rfl ?_
  refine z_aloadnR zh dX4_lendToAged_12 rfl ?_
  refine z_getf zh fl_Night_141 dX4_lendToAged_13 (ck_H hh) rfl rfl ?_
  refine z_astoren zh dX4_lendToAged_16 (by decide) (L' := [some (rf g h), some (.int a1), some (.int x3), some (rf g (h + 54)), none]) rfl ?_
  refine z_aloadnR zh dX4_lendToAged_17 rfl ?_
  refine z_aloadnR zh dX4_lendToAged_18 rfl ?_
  refine z_iloadn zh dX4_lendToAged_19 rfl ?_
  refine z_callVV zh mv_Night_145 dX4_lendToAged_20 (ck_line hh) rfl (s_X2_form g hh hh ha1 hG) ⟨Nat.le_of_ble_eq_true rfl, Nat.le_of_ble_eq_true rfl⟩ rfl rfl (Nat.le_of_ble_eq_true rfl) ?_
  rintro iv lv hG
  refine z_iconst zh dX4_lendToAged_23 ki_0 ?_
  refine z_istore zh dX4_lendToAged_24 (by decide) (L' := [some (rf g h), some (.int a1), some (.int x3), some (rf g (h + 54)), some (.int (nI 0))]) rfl ?_
  have J26 : ∀ (n : Nat) (iv : Iv) (lv : Lv) (x4 : Int32), SI sp σ iv → Ra 0 1200 x4 → 1200 - x4.toInt < (n : Int) → Z 26 [some (rf g h), some (.int a1), some (.int x3), some (rf g (h + 54)), some (.int x4)] [] iv lv := by
    intro n
    induction n with
    | zero => intro iv lv x4 hG hx4 hn26; exact (ms_uz hx4 hn26).elim
    | succ n ih26 =>
      intro iv lv x4 hG hx4 hn26
      refine z_iload zh dX4_lendToAged_26 rfl ?_
      refine z_aloadnR zh dX4_lendToAged_28 rfl ?_
      refine y_getI zh fl_Night_150 dX4_lendToAged_29 (ck_line hh) rfl rfl (fun x5 ex5 => ?_)
      have hx5 : Ra 0 1200 x5 := ra_of ex5 (si_H hG hh 54 (by decide) rfl)
      refine z_icmp_ge (tgt := 71) zh dX4_lendToAged_32 rfl (fun q6 => ?_) (fun q6 => ?_)
      · exact z_vret zh dX4_lendToAged_71 ⟨rfl, hG⟩
      · have r7 : Ra 0 1199 x4 := rb_lt_l hx5 hx4 (rb_nle q6) (by decide)
        have r8 : Ra 1 1200 x5 := rb_lt_r hx4 hx5 (rb_nle q6) (by decide)
        refine z_aloadnR zh dX4_lendToAged_35 rfl ?_
        refine z_getf zh fl_Night_156 dX4_lendToAged_36 (ck_line hh) rfl rfl ?_
        refine z_iload zh dX4_lendToAged_39 rfl ?_
        refine y_iald zh (ck_lineD hh) dX4_lendToAged_41 r7 (by decide) (by decide) (fun x9 ex9 => ?_)
        have hx9 : Ra 0 99 x9 := ra_of ex9 (si_H hG hh 56 (by decide) rfl)
        refine z_iloadn zh dX4_lendToAged_42 rfl ?_
        have J65 : ∀ (iv : Iv) (lv : Lv), SI sp σ iv → Z 65 [some (rf g h), some (.int a1), some (.int x3), some (rf g (h + 54)), some (.int x4)] [] iv lv := by
          intro iv lv hG
          refine y_iinc (L' := fun z => [some (rf g h), some (.int a1), some (.int x3), some (rf g (h + 54)), some (.int z)]) zh dX4_lendToAged_65 (by decide) rfl (by decide +kernel) r7 (u := 1) (v := 1200) rfl rfl (by decide) (by decide) (fun _ => rfl) (fun x10 hc10 hx10 => ?_)
          refine z_goto (tgt := 26) zh dX4_lendToAged_68 rfl ?_
          exact ih26 iv lv x10 hG (ra_w hx10 (by decide) (by decide)) (ms_up hc10 (by decide) hn26)
        refine z_icmp_gt (tgt := 65) zh dX4_lendToAged_43 rfl (fun q11 => ?_) (fun q11 => ?_)
        · have r12 : Ra (-2147483648) 98 x3 := rb_lt_l hx9 (ra_tt x3) q11 (by decide)
          exact J65 iv lv hG
        · have r13 : Ra 0 2147483647 x3 := rb_le_r hx9 (ra_tt x3) (rb_nlt q11) (by decide)
          refine z_aloadnR zh dX4_lendToAged_46 rfl ?_
          refine z_iloadn zh dX4_lendToAged_47 rfl ?_
          refine z_aloadnR zh dX4_lendToAged_48 rfl ?_
          refine z_getf zh fl_Night_152 dX4_lendToAged_49 (ck_line hh) rfl rfl ?_
          refine z_iload zh dX4_lendToAged_52 rfl ?_
          refine y_iald zh (ck_lineM hh) dX4_lendToAged_54 r7 (by decide) (by decide) (fun x14 ex14 => ?_)
          have hx14 : Ra 0 11 x14 := ra_of ex14 (si_H hG hh 55 (by decide) rfl)
          refine z_aloadnR zh dX4_lendToAged_55 rfl ?_
          refine z_getf zh fl_Night_156 dX4_lendToAged_56 (ck_line hh) rfl rfl ?_
          refine z_iload zh dX4_lendToAged_59 rfl ?_
          refine y_iald zh (ck_lineD hh) dX4_lendToAged_61 r7 (by decide) (by decide) (fun x15 ex15 => ?_)
          have hx15 : Ra 0 99 x15 := ra_of ex15 (si_H hG hh 56 (by decide) rfl)
          refine z_callSV zh ms_Night_172 dX4_lendToAged_62 (s_X4_lendTo g hh ha1 hx14 hx15 hG) ⟨Nat.le_of_ble_eq_true rfl, Nat.le_of_ble_eq_true rfl⟩ rfl rfl (Nat.le_of_ble_eq_true rfl) ?_
          rintro iv lv hG
          exact J65 iv lv hG
  exact J26 1201 iv lv (nI 0) hG (ra_w rl_0 (by decide) (by decide)) (ms_u0 rl_0 (by decide))
set_option maxRecDepth 20000 in
theorem s_X4_mark (g : GE) {sp : Nat → Nat → Bool} {σ : Iv} {iv : Iv} {lv : Lv} {h : Nat} {a1 : Int32} (hh : isH h) (ha1 : Ra 0 5 a1) (hG : SI sp σ iv)  : ConV g yX4_mark cX4_mark 6 none 2 [rf g h, .int a1] iv lv (fun iv lv => SI sp σ iv) := by
  refine con_intro (own := "RollingNets$Night") (by decide +kernel) rfl (Nat.le_of_ble_eq_true rfl) (L0 := [some (rf g h), some (.int a1), none, none, none, none]) rfl (fun Z zh => ?_)
  refine z_aloadnR zh dX4_mark_0 rfl ?_
  refine z_getf zh fl_Night_57 dX4_mark_1 (ck_H hh) rfl rfl ?_
  refine z_iloadn zh dX4_mark_4 rfl ?_
  refine y_mald zh (ck_markets hh) dX4_mark_5 ha1 (by decide) (by decide) (fun j1 hj1 _ _ => ?_)
  refine z_astoren zh dX4_mark_6 (by decide) (L' := [some (rf g h), some (.int a1), some (rf g (h + 60 + 20 * j1)), none, none, none]) rfl ?_
  refine z_aloadnR zh dX4_mark_7 rfl ?_
  refine y_getI zh fl_Night_181 dX4_mark_8 (ck_M (isM_of hh hj1)) rfl rfl (fun x2 ex2 => ?_)
  refine z_aloadnR zh dX4_mark_11 rfl ?_
  refine y_getI zh fl_Night_74 dX4_mark_12 (ck_M (isM_of hh hj1)) rfl rfl (fun x3 ex3 => ?_)
  refine y_isubT zh dX4_mark_15 (fun x4 => ?_)
  refine y_i2l zh dX4_mark_16 (fun l5 => ?_)
  refine z_lstoren zh dX4_mark_17 (by decide) (L' := [some (rf g h), some (.int a1), some (rf g (h + 60 + 20 * j1)), some (.long l5), none, none]) rfl ?_
  refine z_iconst zh dX4_mark_18 ki_0 ?_
  refine z_istore zh dX4_mark_19 (by decide) (L' := [some (rf g h), some (.int a1), some (rf g (h + 60 + 20 * j1)), some (.long l5), none, some (.int (nI 0))]) rfl ?_
  have J21 : ∀ (n : Nat) (iv : Iv) (lv : Lv) (x6 : Int32), SI sp σ iv → Ra 0 12 x6 → 12 - x6.toInt < (n : Int) → Z 21 [some (rf g h), some (.int a1), some (rf g (h + 60 + 20 * j1)), some (.long l5), none, some (.int x6)] [] iv lv := by
    intro n
    induction n with
    | zero => intro iv lv x6 hG hx6 hn21; exact (ms_uz hx6 hn21).elim
    | succ n ih21 =>
      intro iv lv x6 hG hx6 hn21
      refine z_iload zh dX4_mark_21 rfl ?_
      refine z_aloadnR zh dX4_mark_23 rfl ?_
      refine z_callVI zh mv_Night_93 dX4_mark_24 (ck_H hh) rfl (s_X1_members g hh hG) ⟨Nat.le_of_ble_eq_true rfl, Nat.le_of_ble_eq_true rfl⟩ rfl rfl (Nat.le_of_ble_eq_true rfl) ?_
      rintro x7 _ _ ⟨rfl, rfl, hx7⟩
      refine z_icmp_ge (tgt := 56) zh dX4_mark_27 rfl (fun q8 => ?_) (fun q8 => ?_)
      · have r9 : Ra 2 12 x6 := rb_le_r hx7 hx6 q8 (by decide)
        refine z_aloadnR zh dX4_mark_56 rfl ?_
        refine z_aloadnR zh dX4_mark_57 rfl ?_
        refine y_getI zh fl_Night_181 dX4_mark_58 (ck_M (isM_of hh hj1)) rfl rfl (fun x10 ex10 => ?_)
        refine z_putI zh fl_Night_74 dX4_mark_61 (ck_M (isM_of hh hj1)) rfl rfl (Nat.le_of_ble_eq_true rfl) (Or.inl rfl) ?_
        have hG : SI sp σ (upI iv (h + 60 + 20 * j1) 8 x10) := si_wM hG (isM_of hh hj1) 0 (by decide) (rx_none rfl)
        have em11 := (upI_ne (iv := iv) (k := h + 60 + 20 * j1) (j := 8) (x := x10) (Or.inr (by decide))).trans ex10
        generalize upI iv (h + 60 + 20 * j1) 8 x10 = iv at hG em11 ⊢
        exact z_vret zh dX4_mark_64 ⟨rfl, hG⟩
      · have r12 : Ra 0 11 x6 := rb_lt_l hx7 hx6 (rb_nle q8) (by decide)
        refine z_aloadnR zh dX4_mark_30 rfl ?_
        refine z_getf zh fl_Night_122 dX4_mark_31 (ck_H hh) rfl rfl ?_
        refine z_iload zh dX4_mark_34 rfl ?_
        refine z_dup2 zh dX4_mark_36 rfl rfl ?_
        refine y_lald zh (ck_cash hh) dX4_mark_37 r12 (by decide) (by decide) (fun l13 => ?_)
        refine z_aloadnR zh dX4_mark_38 rfl ?_
        refine z_getf zh fl_Night_184 dX4_mark_39 (ck_M (isM_of hh hj1)) rfl rfl ?_
        refine z_iload zh dX4_mark_42 rfl ?_
        refine y_iald zh (ck_mi 6 (by decide) (isM_of hh hj1)) dX4_mark_44 r12 (by decide) (by decide) (fun x14 ex14 => ?_)
        refine y_i2l zh dX4_mark_45 (fun l15 => ?_)
        refine z_lloadn zh dX4_mark_46 rfl ?_
        refine y_lmul zh dX4_mark_47 (fun l16 => ?_)
        refine y_ladd zh dX4_mark_48 (fun l17 => ?_)
        refine z_last zh (ck_cash hh) dX4_mark_49 (ra_in r12 (by decide) (by decide)) ?_
        generalize upL lv (h + 2) x6.toNatClampNeg l17 = lv
        refine y_iinc (L' := fun z => [some (rf g h), some (.int a1), some (rf g (h + 60 + 20 * j1)), some (.long l5), none, some (.int z)]) zh dX4_mark_50 (by decide) rfl (by decide +kernel) r12 (u := 1) (v := 12) rfl rfl (by decide) (by decide) (fun _ => rfl) (fun x18 hc18 hx18 => ?_)
        refine z_goto (tgt := 21) zh dX4_mark_53 rfl ?_
        exact ih21 iv lv x18 hG (ra_w hx18 (by decide) (by decide)) (ms_up hc18 (by decide) hn21)
  exact J21 13 iv lv (nI 0) hG (ra_w rl_0 (by decide) (by decide)) (ms_u0 rl_0 (by decide))
set_option maxRecDepth 20000 in
theorem s_X4_netDue (g : GE) {σ : Iv} {iv : Iv} {lv : Lv} {h : Nat} {a1 : Int32} (hh : isH h) (ha1 : Ra 0 5 a1) (hG : SI spc σ iv)  : ConV g yX4_netDue cX4_netDue 8 none 4 [rf g h, .int a1] iv lv (fun iv lv => SI spc σ iv) := by
  refine con_intro (own := "RollingNets$Night") (by decide +kernel) rfl (Nat.le_of_ble_eq_true rfl) (L0 := [some (rf g h), some (.int a1), none, none, none, none, none, none]) rfl (fun Z zh => ?_)
  refine z_aloadnR zh dX4_netDue_0 rfl ?_
  refine z_getf zh fl_Night_53 dX4_netDue_1 (ck_H hh) rfl rfl ?_
  refine z_astoren zh dX4_netDue_4 (by decide) (L' := [some (rf g h), some (.int a1), some (rf g (h + 7)), none, none, none, none, none]) rfl ?_
  refine z_aloadnR zh dX4_netDue_5 rfl ?_
  refine z_getf zh fl_Night_57 dX4_netDue_6 (ck_H hh) rfl rfl ?_
  refine z_iloadn zh dX4_netDue_9 rfl ?_
  refine y_mald zh (ck_markets hh) dX4_netDue_10 ha1 (by decide) (by decide) (fun j1 hj1 _ _ => ?_)
  refine z_astoren zh dX4_netDue_11 (by decide) (L' := [some (rf g h), some (.int a1), some (rf g (h + 7)), some (rf g (h + 60 + 20 * j1)), none, none, none, none]) rfl ?_
  refine z_iconst zh dX4_netDue_12 ki_0 ?_
  refine z_istore zh dX4_netDue_13 (by decide) (L' := [some (rf g h), some (.int a1), some (rf g (h + 7)), some (rf g (h + 60 + 20 * j1)), some (.int (nI 0)), none, none, none]) rfl ?_
  have J15 : ∀ (n : Nat) (iv : Iv) (lv : Lv) (x2 : Int32), SI spc σ iv → Ra 0 200 x2 → 200 - x2.toInt < (n : Int) → Z 15 [some (rf g h), some (.int a1), some (rf g (h + 7)), some (rf g (h + 60 + 20 * j1)), some (.int x2), none, none, none] [] iv lv := by
    intro n
    induction n with
    | zero => intro iv lv x2 hG hx2 hn15; exact (ms_uz hx2 hn15).elim
    | succ n ih15 =>
      intro iv lv x2 hG hx2 hn15
      refine z_iload zh dX4_netDue_15 rfl ?_
      refine z_aloadnR zh dX4_netDue_17 rfl ?_
      obtain ⟨x3, ex3⟩ : ∃ z, iv (h + 7) 2 = z := ⟨_, rfl⟩
      have hx3 : Ra 0 200 x3 := ra_of ex3 (si_T hG (isT_d hh))
      have es4 := (si_s hG ((spc_H hh (r := 7) (by decide)).trans rfl)).symm.trans ex3
      refine z_callVIp zh mv_Night_61 dX4_netDue_18 (ck_T (isT_d hh)) rfl (s_X7_size g (isT_d hh) ex3) ⟨Nat.le_of_ble_eq_true rfl, Nat.le_of_ble_eq_true rfl⟩ rfl rfl (Nat.le_of_ble_eq_true rfl) ?_
      refine z_icmp_ge (tgt := 127) zh dX4_netDue_21 rfl (fun q5 => ?_) (fun q5 => ?_)
      · exact z_vret zh dX4_netDue_127 ⟨rfl, hG⟩
      · have r6 : Ra 0 199 x2 := rb_lt_l hx3 hx2 (rb_nle q5) (by decide)
        have r7 : Ra 1 200 x3 := rb_lt_r hx2 hx3 (rb_nle q5) (by decide)
        refine z_aloadnR zh dX4_netDue_24 rfl ?_
        refine z_iload zh dX4_netDue_25 rfl ?_
        refine z_iloadn zh dX4_netDue_27 rfl ?_
        refine z_iconst zh dX4_netDue_28 ki_0 ?_
        refine z_callVI zh mv_Night_67 dX4_netDue_29 (ck_H hh) rfl (s_X1_isDue g hh r6 ha1 (ra_w rl_0 (by decide) (by decide)) hG) ⟨Nat.le_of_ble_eq_true rfl, Nat.le_of_ble_eq_true rfl⟩ rfl rfl (Nat.le_of_ble_eq_true rfl) ?_
        rintro x8 _ _ ⟨rfl, rfl, hx8⟩
        have J121 : ∀ (iv : Iv) (lv : Lv), SI spc σ iv → Z 121 [some (rf g h), some (.int a1), some (rf g (h + 7)), some (rf g (h + 60 + 20 * j1)), some (.int x2), none, none, none] [] iv lv := by
          intro iv lv hG
          refine y_iinc (L' := fun z => [some (rf g h), some (.int a1), some (rf g (h + 7)), some (rf g (h + 60 + 20 * j1)), some (.int z), none, none, none]) zh dX4_netDue_121 (by decide) rfl (by decide +kernel) r6 (u := 1) (v := 200) rfl rfl (by decide) (by decide) (fun _ => rfl) (fun x9 hc9 hx9 => ?_)
          refine z_goto (tgt := 15) zh dX4_netDue_124 rfl ?_
          exact ih15 iv lv x9 hG (ra_w hx9 (by decide) (by decide)) (ms_up hc9 (by decide) hn15)
        refine z_if_eq (tgt := 121) zh dX4_netDue_32 rfl (fun q10 => ?_) (fun q10 => ?_)
        · have r11 := rb_eq (u := 0) (v := 0) hx8 ra_z q10 (by decide) (by decide)
          exact J121 iv lv hG
        · have r12 : Ra 1 1 x8 := rb_ne_lo hx8 ra_z q10 (by decide)
          refine z_aloadnR zh dX4_netDue_35 rfl ?_
          refine z_iconst zh dX4_netDue_36 ki_0 ?_
          refine z_iload zh dX4_netDue_37 rfl ?_
          refine z_callVI zh mv_Night_70 dX4_netDue_39 (ck_T (isT_d hh)) rfl (s_X7_get g (isT_d hh) ex3 hx3) ⟨Nat.le_of_ble_eq_true rfl, Nat.le_of_ble_eq_true rfl⟩ rfl rfl (Nat.le_of_ble_eq_true rfl) ?_
          rintro x13 _ _ ⟨rfl, rfl, gx13⟩
          have hx13 : Ra 0 11 x13 := get_in gx13 0 rfl (by decide) (by decide) ⟨Int.le_trans (by decide) r6.1, ltI.mp (rb_nle q5)⟩ (fun j => si_H hG hh 9 (by decide) rfl)
          refine z_istore zh dX4_netDue_42 (by decide) (L' := [some (rf g h), some (.int a1), some (rf g (h + 7)), some (rf g (h + 60 + 20 * j1)), some (.int x2), some (.int x13), none, none]) rfl ?_
          refine z_aloadnR zh dX4_netDue_44 rfl ?_
          refine z_iconst zh dX4_netDue_45 ki_1 ?_
          refine z_iload zh dX4_netDue_46 rfl ?_
          refine z_callVI zh mv_Night_70 dX4_netDue_48 (ck_T (isT_d hh)) rfl (s_X7_get g (isT_d hh) ex3 hx3) ⟨Nat.le_of_ble_eq_true rfl, Nat.le_of_ble_eq_true rfl⟩ rfl rfl (Nat.le_of_ble_eq_true rfl) ?_
          rintro x14 _ _ ⟨rfl, rfl, gx14⟩
          have hx14 : Ra 0 11 x14 := get_in gx14 1 rfl (by decide) (by decide) ⟨Int.le_trans (by decide) r6.1, ltI.mp (rb_nle q5)⟩ (fun j => si_H hG hh 10 (by decide) rfl)
          refine z_istore zh dX4_netDue_51 (by decide) (L' := [some (rf g h), some (.int a1), some (rf g (h + 7)), some (rf g (h + 60 + 20 * j1)), some (.int x2), some (.int x13), some (.int x14), none]) rfl ?_
          refine z_aloadnR zh dX4_netDue_53 rfl ?_
          refine z_iconst zh dX4_netDue_54 ki_3 ?_
          refine z_iload zh dX4_netDue_55 rfl ?_
          refine z_callVI zh mv_Night_70 dX4_netDue_57 (ck_T (isT_d hh)) rfl (s_X7_get g (isT_d hh) ex3 hx3) ⟨Nat.le_of_ble_eq_true rfl, Nat.le_of_ble_eq_true rfl⟩ rfl rfl (Nat.le_of_ble_eq_true rfl) ?_
          rintro x15 _ _ ⟨rfl, rfl, gx15⟩
          refine z_istore zh dX4_netDue_60 (by decide) (L' := [some (rf g h), some (.int a1), some (rf g (h + 7)), some (rf g (h + 60 + 20 * j1)), some (.int x2), some (.int x13), some (.int x14), some (.int x15)]) rfl ?_
          refine z_aloadnR zh dX4_netDue_62 rfl ?_
          refine z_iload zh dX4_netDue_63 rfl ?_
          refine z_iload zh dX4_netDue_65 rfl ?_
          refine z_iload zh dX4_netDue_67 rfl ?_
          refine y_i2l zh dX4_netDue_69 (fun l16 => ?_)
          refine z_aloadnR zh dX4_netDue_70 rfl ?_
          refine z_iconst zh dX4_netDue_71 ki_4 ?_
          refine z_iload zh dX4_netDue_72 rfl ?_
          refine z_callVI zh mv_Night_70 dX4_netDue_74 (ck_T (isT_d hh)) rfl (s_X7_get g (isT_d hh) ex3 hx3) ⟨Nat.le_of_ble_eq_true rfl, Nat.le_of_ble_eq_true rfl⟩ rfl rfl (Nat.le_of_ble_eq_true rfl) ?_
          rintro x17 _ _ ⟨rfl, rfl, gx17⟩
          refine z_aloadnR zh dX4_netDue_77 rfl ?_
          refine y_getI zh fl_Night_74 dX4_netDue_78 (ck_M (isM_of hh hj1)) rfl rfl (fun x18 ex18 => ?_)
          refine y_isubT zh dX4_netDue_81 (fun x19 => ?_)
          refine y_i2l zh dX4_netDue_82 (fun l20 => ?_)
          refine y_lmul zh dX4_netDue_83 (fun l21 => ?_)
          refine z_callVV zh mv_Night_79 dX4_netDue_84 (ck_H hh) rfl (s_X1_pay g hh (ra_w hx13 (by decide) (by decide)) (ra_w hx14 (by decide) (by decide)) hG) ⟨Nat.le_of_ble_eq_true rfl, Nat.le_of_ble_eq_true rfl⟩ rfl rfl (Nat.le_of_ble_eq_true rfl) ?_
          rintro iv lv hG
          refine z_aloadnR zh dX4_netDue_87 rfl ?_
          refine z_iload zh dX4_netDue_88 rfl ?_
          refine z_iload zh dX4_netDue_90 rfl ?_
          refine z_aloadnR zh dX4_netDue_92 rfl ?_
          refine y_getI zh fl_Night_13 dX4_netDue_93 (ck_H hh) rfl rfl (fun x22 ex22 => ?_)
          have hx22 : Ra 0 99 x22 := ra_of ex22 (si_H hG hh 0 (by decide) rfl)
          refine z_callVV zh mv_Night_83 dX4_netDue_96 (ck_M (isM_of hh hj1)) rfl (s_X3_addLot g (isM_of hh hj1) hx13 hx22 hG) ⟨Nat.le_of_ble_eq_true rfl, Nat.le_of_ble_eq_true rfl⟩ rfl rfl (Nat.le_of_ble_eq_true rfl) ?_
          rintro iv lv hG
          refine z_aloadnR zh dX4_netDue_99 rfl ?_
          refine z_iload zh dX4_netDue_100 rfl ?_
          refine z_iload zh dX4_netDue_102 rfl ?_
          refine y_inegT zh dX4_netDue_104 (fun x23 => ?_)
          refine z_aloadnR zh dX4_netDue_105 rfl ?_
          refine y_getI zh fl_Night_13 dX4_netDue_106 (ck_H hh) rfl rfl (fun x24 ex24 => ?_)
          have hx24 : Ra 0 99 x24 := ra_of ex24 (si_H hG hh 0 (by decide) rfl)
          refine z_callVV zh mv_Night_83 dX4_netDue_109 (ck_M (isM_of hh hj1)) rfl (s_X3_addLot g (isM_of hh hj1) hx14 hx24 hG) ⟨Nat.le_of_ble_eq_true rfl, Nat.le_of_ble_eq_true rfl⟩ rfl rfl (Nat.le_of_ble_eq_true rfl) ?_
          rintro iv lv hG
          refine z_aloadnR zh dX4_netDue_112 rfl ?_
          refine z_bipush zh dX4_netDue_113 kb_7 ?_
          refine z_iload zh dX4_netDue_115 rfl ?_
          refine z_iconst zh dX4_netDue_117 ki_0 ?_
          refine z_callVV zh mv_Night_87 dX4_netDue_118 (ck_T (isT_d hh)) rfl (s_X7_put g (isT_d hh) hG (pd_f hG hh rl_7 (by decide))) ⟨Nat.le_of_ble_eq_true rfl, Nat.le_of_ble_eq_true rfl⟩ rfl rfl (Nat.le_of_ble_eq_true rfl) ?_
          rintro iv lv hG
          refine z_forget zh [true, true, true, true, true, false, false, false] (L2 := [some (rf g h), some (.int a1), some (rf g (h + 7)), some (rf g (h + 60 + 20 * j1)), some (.int x2), none, none, none]) rfl ?_
          exact J121 iv lv hG
  exact J15 201 iv lv (nI 0) hG (ra_w rl_0 (by decide) (by decide)) (ms_u0 rl_0 (by decide))
set_option maxRecDepth 20000 in
theorem s_X4_passApart (g : GE) {σ : Iv} {iv : Iv} {lv : Lv} {h : Nat} {a1 : Int32} (hh : isH h) (ha1 : Ra 0 5 a1) (hG : SI spc σ iv)  : ConV g yX4_passApart cX4_passApart 8 none 4 [rf g h, .int a1] iv lv (fun iv lv => SI spc σ iv) := by
  refine con_intro (own := "RollingNets$Night") (by decide +kernel) rfl (Nat.le_of_ble_eq_true rfl) (L0 := [some (rf g h), some (.int a1), none, none, none, none, none, none]) rfl (fun Z zh => ?_)
  refine z_aloadnR zh dX4_passApart_0 rfl ?_
  refine z_getf zh fl_Night_53 dX4_passApart_1 (ck_H hh) rfl rfl ?_
  refine z_astoren zh dX4_passApart_4 (by decide) (L' := [some (rf g h), some (.int a1), some (rf g (h + 7)), none, none, none, none, none]) rfl ?_
  refine z_aloadnR zh dX4_passApart_5 rfl ?_
  refine z_getf zh fl_Night_57 dX4_passApart_6 (ck_H hh) rfl rfl ?_
  refine z_iloadn zh dX4_passApart_9 rfl ?_
  refine y_mald zh (ck_markets hh) dX4_passApart_10 ha1 (by decide) (by decide) (fun j1 hj1 _ _ => ?_)
  refine z_astoren zh dX4_passApart_11 (by decide) (L' := [some (rf g h), some (.int a1), some (rf g (h + 7)), some (rf g (h + 60 + 20 * j1)), none, none, none, none]) rfl ?_
  refine z_iconst zh dX4_passApart_12 ki_0 ?_
  refine z_istore zh dX4_passApart_13 (by decide) (L' := [some (rf g h), some (.int a1), some (rf g (h + 7)), some (rf g (h + 60 + 20 * j1)), some (.int (nI 0)), none, none, none]) rfl ?_
  have J15 : ∀ (n : Nat) (iv : Iv) (lv : Lv) (x2 : Int32), SI spc σ iv → Ra 0 200 x2 → 200 - x2.toInt < (n : Int) → Z 15 [some (rf g h), some (.int a1), some (rf g (h + 7)), some (rf g (h + 60 + 20 * j1)), some (.int x2), none, none, none] [] iv lv := by
    intro n
    induction n with
    | zero => intro iv lv x2 hG hx2 hn15; exact (ms_uz hx2 hn15).elim
    | succ n ih15 =>
      intro iv lv x2 hG hx2 hn15
      refine z_iload zh dX4_passApart_15 rfl ?_
      refine z_aloadnR zh dX4_passApart_17 rfl ?_
      obtain ⟨x3, ex3⟩ : ∃ z, iv (h + 7) 2 = z := ⟨_, rfl⟩
      have hx3 : Ra 0 200 x3 := ra_of ex3 (si_T hG (isT_d hh))
      have es4 := (si_s hG ((spc_H hh (r := 7) (by decide)).trans rfl)).symm.trans ex3
      refine z_callVIp zh mv_Night_61 dX4_passApart_18 (ck_T (isT_d hh)) rfl (s_X7_size g (isT_d hh) ex3) ⟨Nat.le_of_ble_eq_true rfl, Nat.le_of_ble_eq_true rfl⟩ rfl rfl (Nat.le_of_ble_eq_true rfl) ?_
      refine z_icmp_ge (tgt := 153) zh dX4_passApart_21 rfl (fun q5 => ?_) (fun q5 => ?_)
      · exact z_vret zh dX4_passApart_153 ⟨rfl, hG⟩
      · have r6 : Ra 0 199 x2 := rb_lt_l hx3 hx2 (rb_nle q5) (by decide)
        have r7 : Ra 1 200 x3 := rb_lt_r hx2 hx3 (rb_nle q5) (by decide)
        refine z_aloadnR zh dX4_passApart_24 rfl ?_
        refine z_iload zh dX4_passApart_25 rfl ?_
        refine z_iloadn zh dX4_passApart_27 rfl ?_
        refine z_iconst zh dX4_passApart_28 ki_1 ?_
        refine z_callVI zh mv_Night_67 dX4_passApart_29 (ck_H hh) rfl (s_X1_isDue g hh r6 ha1 (ra_w rl_1 (by decide) (by decide)) hG) ⟨Nat.le_of_ble_eq_true rfl, Nat.le_of_ble_eq_true rfl⟩ rfl rfl (Nat.le_of_ble_eq_true rfl) ?_
        rintro x8 _ _ ⟨rfl, rfl, hx8⟩
        have J147 : ∀ (iv : Iv) (lv : Lv), SI spc σ iv → Z 147 [some (rf g h), some (.int a1), some (rf g (h + 7)), some (rf g (h + 60 + 20 * j1)), some (.int x2), none, none, none] [] iv lv := by
          intro iv lv hG
          refine y_iinc (L' := fun z => [some (rf g h), some (.int a1), some (rf g (h + 7)), some (rf g (h + 60 + 20 * j1)), some (.int z), none, none, none]) zh dX4_passApart_147 (by decide) rfl (by decide +kernel) r6 (u := 1) (v := 200) rfl rfl (by decide) (by decide) (fun _ => rfl) (fun x9 hc9 hx9 => ?_)
          refine z_goto (tgt := 15) zh dX4_passApart_150 rfl ?_
          exact ih15 iv lv x9 hG (ra_w hx9 (by decide) (by decide)) (ms_up hc9 (by decide) hn15)
        refine z_if_ne (tgt := 38) zh dX4_passApart_32 rfl (fun q10 => ?_) (fun q10 => ?_)
        · have r11 : Ra 1 1 x8 := rb_ne_lo hx8 ra_z q10 (by decide)
          refine z_aloadnR zh dX4_passApart_38 rfl ?_
          refine z_iconst zh dX4_passApart_39 ki_0 ?_
          refine z_iload zh dX4_passApart_40 rfl ?_
          refine z_callVI zh mv_Night_70 dX4_passApart_42 (ck_T (isT_d hh)) rfl (s_X7_get g (isT_d hh) ex3 hx3) ⟨Nat.le_of_ble_eq_true rfl, Nat.le_of_ble_eq_true rfl⟩ rfl rfl (Nat.le_of_ble_eq_true rfl) ?_
          rintro x12 _ _ ⟨rfl, rfl, gx12⟩
          have hx12 : Ra 0 11 x12 := get_in gx12 0 rfl (by decide) (by decide) ⟨Int.le_trans (by decide) r6.1, ltI.mp (rb_nle q5)⟩ (fun j => si_H hG hh 9 (by decide) rfl)
          refine z_istore zh dX4_passApart_45 (by decide) (L' := [some (rf g h), some (.int a1), some (rf g (h + 7)), some (rf g (h + 60 + 20 * j1)), some (.int x2), some (.int x12), none, none]) rfl ?_
          refine z_aloadnR zh dX4_passApart_47 rfl ?_
          refine z_iconst zh dX4_passApart_48 ki_1 ?_
          refine z_iload zh dX4_passApart_49 rfl ?_
          refine z_callVI zh mv_Night_70 dX4_passApart_51 (ck_T (isT_d hh)) rfl (s_X7_get g (isT_d hh) ex3 hx3) ⟨Nat.le_of_ble_eq_true rfl, Nat.le_of_ble_eq_true rfl⟩ rfl rfl (Nat.le_of_ble_eq_true rfl) ?_
          rintro x13 _ _ ⟨rfl, rfl, gx13⟩
          have hx13 : Ra 0 11 x13 := get_in gx13 1 rfl (by decide) (by decide) ⟨Int.le_trans (by decide) r6.1, ltI.mp (rb_nle q5)⟩ (fun j => si_H hG hh 10 (by decide) rfl)
          refine z_istore zh dX4_passApart_54 (by decide) (L' := [some (rf g h), some (.int a1), some (rf g (h + 7)), some (rf g (h + 60 + 20 * j1)), some (.int x2), some (.int x12), some (.int x13), none]) rfl ?_
          refine z_aloadnR zh dX4_passApart_56 rfl ?_
          refine z_bipush zh dX4_passApart_57 kb_7 ?_
          refine z_iload zh dX4_passApart_59 rfl ?_
          refine z_callVI zh mv_Night_70 dX4_passApart_61 (ck_T (isT_d hh)) rfl (s_X7_get g (isT_d hh) ex3 hx3) ⟨Nat.le_of_ble_eq_true rfl, Nat.le_of_ble_eq_true rfl⟩ rfl rfl (Nat.le_of_ble_eq_true rfl) ?_
          rintro x14 _ _ ⟨rfl, rfl, gx14⟩
          refine z_istore zh dX4_passApart_64 (by decide) (L' := [some (rf g h), some (.int a1), some (rf g (h + 7)), some (rf g (h + 60 + 20 * j1)), some (.int x2), some (.int x12), some (.int x13), some (.int x14)]) rfl ?_
          refine z_aloadnR zh dX4_passApart_66 rfl ?_
          refine z_iloadn zh dX4_passApart_67 rfl ?_
          refine z_iload zh dX4_passApart_68 rfl ?_
          refine z_callVL zh mv_Night_108 dX4_passApart_70 (ck_H hh) rfl (s_X1_freeOf g hh ha1 hx13 hG) ⟨Nat.le_of_ble_eq_true rfl, Nat.le_of_ble_eq_true rfl⟩ rfl rfl (Nat.le_of_ble_eq_true rfl) ?_
          rintro l15 _ _ ⟨rfl, rfl, _⟩
          refine z_iload zh dX4_passApart_73 rfl ?_
          refine y_i2l zh dX4_passApart_75 (fun l16 => ?_)
          refine y_lcmp zh dX4_passApart_76 (fun x17 hx17 => ?_)
          refine z_if_lt (tgt := 147) zh dX4_passApart_77 rfl (fun q18 => ?_) (fun q18 => ?_)
          · have r19 : Ra (-1) (-1) x17 := rb_lt_l ra_z hx17 q18 (by decide)
            refine z_forget zh [true, true, true, true, true, false, false, false] (L2 := [some (rf g h), some (.int a1), some (rf g (h + 7)), some (rf g (h + 60 + 20 * j1)), some (.int x2), none, none, none]) rfl ?_
            exact J147 iv lv hG
          · have r20 : Ra 0 1 x17 := rb_le_r ra_z hx17 (rb_nlt q18) (by decide)
            refine z_aloadnR zh dX4_passApart_80 rfl ?_
            refine z_getf zh fl_Night_118 dX4_passApart_81 (ck_M (isM_of hh hj1)) rfl rfl ?_
            refine z_iload zh dX4_passApart_84 rfl ?_
            refine z_dup2 zh dX4_passApart_86 rfl rfl ?_
            refine y_lald zh (ck_stock (isM_of hh hj1)) dX4_passApart_87 hx13 (by decide) (by decide) (fun l21 => ?_)
            refine z_iload zh dX4_passApart_88 rfl ?_
            refine y_i2l zh dX4_passApart_90 (fun l22 => ?_)
            refine y_lsub zh dX4_passApart_91 (fun l23 => ?_)
            refine z_last zh (ck_stock (isM_of hh hj1)) dX4_passApart_92 (ra_in hx13 (by decide) (by decide)) ?_
            generalize upL lv (h + 60 + 20 * j1 + 1) x13.toNatClampNeg l23 = lv
            refine z_aloadnR zh dX4_passApart_93 rfl ?_
            refine z_getf zh fl_Night_118 dX4_passApart_94 (ck_M (isM_of hh hj1)) rfl rfl ?_
            refine z_iload zh dX4_passApart_97 rfl ?_
            refine z_dup2 zh dX4_passApart_99 rfl rfl ?_
            refine y_lald zh (ck_stock (isM_of hh hj1)) dX4_passApart_100 hx12 (by decide) (by decide) (fun l24 => ?_)
            refine z_iload zh dX4_passApart_101 rfl ?_
            refine y_i2l zh dX4_passApart_103 (fun l25 => ?_)
            refine y_ladd zh dX4_passApart_104 (fun l26 => ?_)
            refine z_last zh (ck_stock (isM_of hh hj1)) dX4_passApart_105 (ra_in hx12 (by decide) (by decide)) ?_
            generalize upL lv (h + 60 + 20 * j1 + 1) x12.toNatClampNeg l26 = lv
            refine z_aloadnR zh dX4_passApart_106 rfl ?_
            refine z_iload zh dX4_passApart_107 rfl ?_
            refine z_iload zh dX4_passApart_109 rfl ?_
            refine z_iload zh dX4_passApart_111 rfl ?_
            refine y_i2l zh dX4_passApart_113 (fun l27 => ?_)
            refine z_aloadnR zh dX4_passApart_114 rfl ?_
            refine z_iconst zh dX4_passApart_115 ki_4 ?_
            refine z_iload zh dX4_passApart_116 rfl ?_
            refine z_callVI zh mv_Night_70 dX4_passApart_118 (ck_T (isT_d hh)) rfl (s_X7_get g (isT_d hh) ex3 hx3) ⟨Nat.le_of_ble_eq_true rfl, Nat.le_of_ble_eq_true rfl⟩ rfl rfl (Nat.le_of_ble_eq_true rfl) ?_
            rintro x28 _ _ ⟨rfl, rfl, gx28⟩
            refine y_i2l zh dX4_passApart_121 (fun l29 => ?_)
            refine y_lmul zh dX4_passApart_122 (fun l30 => ?_)
            refine z_callVV zh mv_Night_79 dX4_passApart_123 (ck_H hh) rfl (s_X1_pay g hh (ra_w hx12 (by decide) (by decide)) (ra_w hx13 (by decide) (by decide)) hG) ⟨Nat.le_of_ble_eq_true rfl, Nat.le_of_ble_eq_true rfl⟩ rfl rfl (Nat.le_of_ble_eq_true rfl) ?_
            rintro iv lv hG
            refine z_aloadnR zh dX4_passApart_126 rfl ?_
            refine z_bipush zh dX4_passApart_127 kb_7 ?_
            refine z_iload zh dX4_passApart_129 rfl ?_
            refine z_iconst zh dX4_passApart_131 ki_0 ?_
            refine z_callVV zh mv_Night_87 dX4_passApart_132 (ck_T (isT_d hh)) rfl (s_X7_put g (isT_d hh) hG (pd_f hG hh rl_7 (by decide))) ⟨Nat.le_of_ble_eq_true rfl, Nat.le_of_ble_eq_true rfl⟩ rfl rfl (Nat.le_of_ble_eq_true rfl) ?_
            rintro iv lv hG
            refine z_aloadnR zh dX4_passApart_135 rfl ?_
            refine z_iconst zh dX4_passApart_136 ki_3 ?_
            refine z_iloadn zh dX4_passApart_137 rfl ?_
            refine z_iload zh dX4_passApart_138 rfl ?_
            refine z_iload zh dX4_passApart_140 rfl ?_
            refine z_iload zh dX4_passApart_142 rfl ?_
            refine z_callVV zh mv_Night_133 dX4_passApart_144 (ck_H hh) rfl (s_X1_write g hh (ra_w rl_3 (by decide) (by decide)) ha1 (ra_w hx13 (by decide) (by decide)) (ra_w hx12 (by decide) (by decide)) hG) ⟨Nat.le_of_ble_eq_true rfl, Nat.le_of_ble_eq_true rfl⟩ rfl rfl (Nat.le_of_ble_eq_true rfl) ?_
            rintro iv lv hG
            refine z_forget zh [true, true, true, true, true, false, false, false] (L2 := [some (rf g h), some (.int a1), some (rf g (h + 7)), some (rf g (h + 60 + 20 * j1)), some (.int x2), none, none, none]) rfl ?_
            exact J147 iv lv hG
        · have r31 := rb_eq (u := 0) (v := 0) hx8 ra_z q10 (by decide) (by decide)
          refine z_goto (tgt := 147) zh dX4_passApart_35 rfl ?_
          exact J147 iv lv hG
  exact J15 201 iv lv (nI 0) hG (ra_w rl_0 (by decide) (by decide)) (ms_u0 rl_0 (by decide))
set_option maxRecDepth 20000 in
theorem s_X4_payOut (g : GE) {sp : Nat → Nat → Bool} {σ : Iv} {iv : Iv} {lv : Lv} {h : Nat} {a1 : Int32} (hh : isH h) (ha1 : Ra 0 5 a1) (hG : SI sp σ iv)  : ConV g yX4_payOut cX4_payOut 8 none 2 [rf g h, .int a1] iv lv (fun iv lv => SI sp σ iv) := by
  refine con_intro (own := "RollingNets$Night") (by decide +kernel) rfl (Nat.le_of_ble_eq_true rfl) (L0 := [some (rf g h), some (.int a1), none, none, none, none, none, none]) rfl (fun Z zh => ?_)
  refine z_aloadnR zh dX4_payOut_0 rfl ?_
  refine z_getf zh fl_Night_57 dX4_payOut_1 (ck_H hh) rfl rfl ?_
  refine z_iloadn zh dX4_payOut_4 rfl ?_
  refine y_mald zh (ck_markets hh) dX4_payOut_5 ha1 (by decide) (by decide) (fun j1 hj1 _ _ => ?_)
  refine z_astoren zh dX4_payOut_6 (by decide) (L' := [some (rf g h), some (.int a1), some (rf g (h + 60 + 20 * j1)), none, none, none, none, none]) rfl ?_
  refine z_aloadnR zh dX4_payOut_7 rfl ?_
  refine y_getI zh fl_Night_187 dX4_payOut_8 (ck_M (isM_of hh hj1)) rfl rfl (fun x2 ex2 => ?_)
  refine y_i2l zh dX4_payOut_11 (fun l3 => ?_)
  refine z_lstoren zh dX4_payOut_12 (by decide) (L' := [some (rf g h), some (.int a1), some (rf g (h + 60 + 20 * j1)), some (.long l3), none, none, none, none]) rfl ?_
  refine z_iconst zh dX4_payOut_13 ki_0 ?_
  refine z_istore zh dX4_payOut_14 (by decide) (L' := [some (rf g h), some (.int a1), some (rf g (h + 60 + 20 * j1)), some (.long l3), none, some (.int (nI 0)), none, none]) rfl ?_
  have J16 : ∀ (n : Nat) (iv : Iv) (lv : Lv) (x4 : Int32), SI sp σ iv → Ra 0 12 x4 → 12 - x4.toInt < (n : Int) → Z 16 [some (rf g h), some (.int a1), some (rf g (h + 60 + 20 * j1)), some (.long l3), none, some (.int x4), none, none] [] iv lv := by
    intro n
    induction n with
    | zero => intro iv lv x4 hG hx4 hn16; exact (ms_uz hx4 hn16).elim
    | succ n ih16 =>
      intro iv lv x4 hG hx4 hn16
      refine z_iload zh dX4_payOut_16 rfl ?_
      refine z_aloadnR zh dX4_payOut_18 rfl ?_
      refine z_callVI zh mv_Night_93 dX4_payOut_19 (ck_H hh) rfl (s_X1_members g hh hG) ⟨Nat.le_of_ble_eq_true rfl, Nat.le_of_ble_eq_true rfl⟩ rfl rfl (Nat.le_of_ble_eq_true rfl) ?_
      rintro x5 _ _ ⟨rfl, rfl, hx5⟩
      refine z_icmp_ge (tgt := 76) zh dX4_payOut_22 rfl (fun q6 => ?_) (fun q6 => ?_)
      · have r7 : Ra 2 12 x4 := rb_le_r hx5 hx4 q6 (by decide)
        refine z_aloadnR zh dX4_payOut_76 rfl ?_
        refine z_iconst zh dX4_payOut_77 ki_0 ?_
        refine z_putI zh fl_Night_187 dX4_payOut_78 (ck_M (isM_of hh hj1)) rfl rfl (Nat.le_of_ble_eq_true rfl) (Or.inl rfl) ?_
        have hG : SI sp σ (upI iv (h + 60 + 20 * j1) 9 (nI 0)) := si_wM hG (isM_of hh hj1) 0 (by decide) (rx_none rfl)
        generalize upI iv (h + 60 + 20 * j1) 9 (nI 0) = iv at hG  ⊢
        exact z_vret zh dX4_payOut_81 ⟨rfl, hG⟩
      · have r8 : Ra 0 11 x4 := rb_lt_l hx5 hx4 (rb_nle q6) (by decide)
        refine z_aloadnR zh dX4_payOut_25 rfl ?_
        refine z_getf zh fl_Night_118 dX4_payOut_26 (ck_M (isM_of hh hj1)) rfl rfl ?_
        refine z_iload zh dX4_payOut_29 rfl ?_
        refine y_lald zh (ck_stock (isM_of hh hj1)) dX4_payOut_31 r8 (by decide) (by decide) (fun l9 => ?_)
        refine z_lstore zh dX4_payOut_32 (by decide) (L' := [some (rf g h), some (.int a1), some (rf g (h + 60 + 20 * j1)), some (.long l3), none, some (.int x4), some (.long l9), none]) rfl ?_
        refine z_aloadnR zh dX4_payOut_34 rfl ?_
        refine z_getf zh fl_Night_122 dX4_payOut_35 (ck_H hh) rfl rfl ?_
        refine z_iload zh dX4_payOut_38 rfl ?_
        refine z_dup2 zh dX4_payOut_40 rfl rfl ?_
        refine y_lald zh (ck_cash hh) dX4_payOut_41 r8 (by decide) (by decide) (fun l10 => ?_)
        refine z_lloadn zh dX4_payOut_42 rfl ?_
        refine z_lload zh dX4_payOut_43 rfl ?_
        refine z_aloadnR zh dX4_payOut_45 rfl ?_
        refine z_getf zh fl_Night_184 dX4_payOut_46 (ck_M (isM_of hh hj1)) rfl rfl ?_
        refine z_iload zh dX4_payOut_49 rfl ?_
        refine y_iald zh (ck_mi 6 (by decide) (isM_of hh hj1)) dX4_payOut_51 r8 (by decide) (by decide) (fun x11 ex11 => ?_)
        refine y_i2l zh dX4_payOut_52 (fun l12 => ?_)
        refine y_ladd zh dX4_payOut_53 (fun l13 => ?_)
        refine y_lmul zh dX4_payOut_54 (fun l14 => ?_)
        refine y_ladd zh dX4_payOut_55 (fun l15 => ?_)
        refine z_last zh (ck_cash hh) dX4_payOut_56 (ra_in r8 (by decide) (by decide)) ?_
        generalize upL lv (h + 2) x4.toNatClampNeg l15 = lv
        refine z_aloadnR zh dX4_payOut_57 rfl ?_
        refine z_dup zh dX4_payOut_58 rfl ?_
        refine y_getL zh fl_Night_190 dX4_payOut_59 (ck_H hh) rfl rfl (fun l16 => ?_)
        refine z_lloadn zh dX4_payOut_62 rfl ?_
        refine z_lload zh dX4_payOut_63 rfl ?_
        refine y_lmul zh dX4_payOut_65 (fun l17 => ?_)
        refine y_lsub zh dX4_payOut_66 (fun l18 => ?_)
        refine z_putL zh fl_Night_190 dX4_payOut_67 (ck_H hh) rfl rfl (Nat.le_of_ble_eq_true rfl) rfl ?_
        generalize upL lv h 12 l18 = lv
        refine y_iinc (L' := fun z => [some (rf g h), some (.int a1), some (rf g (h + 60 + 20 * j1)), some (.long l3), none, some (.int z), some (.long l9), none]) zh dX4_payOut_70 (by decide) rfl (by decide +kernel) r8 (u := 1) (v := 12) rfl rfl (by decide) (by decide) (fun _ => rfl) (fun x19 hc19 hx19 => ?_)
        refine z_goto (tgt := 16) zh dX4_payOut_73 rfl ?_
        refine z_forget zh [true, true, true, true, false, true, false, false] (L2 := [some (rf g h), some (.int a1), some (rf g (h + 60 + 20 * j1)), some (.long l3), none, some (.int x19), none, none]) rfl ?_
        exact ih16 iv lv x19 hG (ra_w hx19 (by decide) (by decide)) (ms_up hc19 (by decide) hn16)
  exact J16 13 iv lv (nI 0) hG (ra_w rl_0 (by decide) (by decide)) (ms_u0 rl_0 (by decide))
set_option maxRecDepth 20000 in
theorem s_X5_lastOfChain (g : GE) {sp : Nat → Nat → Bool} {σ : Iv} {iv : Iv} {lv : Lv} {h : Nat} (hh : isH h) (hG : SI sp σ iv)  : ConI g yX5_lastOfChain cX5_lastOfChain 2 (some .int) 2 [rf g h] iv lv (fun r iv' lv' => iv = iv' ∧ lv = lv' ∧ Ra (-1) 11 r) := by
  refine con_intro (own := "RollingNets$Notices") (by decide +kernel) rfl (Nat.le_of_ble_eq_true rfl) (L0 := [some (rf g h), none]) rfl (fun Z zh => ?_)
  refine z_aloadnR zh dX5_lastOfChain_0 rfl ?_
  refine y_getI zh fl_Notices_161 dX5_lastOfChain_1 (ck_H hh) rfl rfl (fun x1 ex1 => ?_)
  have hx1 : Ra 0 12 x1 := ra_of ex1 (si_H hG hh 0 (by decide) rfl)
  refine z_istoren zh dX5_lastOfChain_4 (by decide) (L' := [some (rf g h), some (.int x1)]) rfl ?_
  refine z_iloadn zh dX5_lastOfChain_5 rfl ?_
  refine z_iconst zh dX5_lastOfChain_6 ki_1 ?_
  refine z_icmp_lt (tgt := 19) zh dX5_lastOfChain_7 rfl (fun q2 => ?_) (fun q2 => ?_)
  · have r3 : Ra 0 0 x1 := rb_lt_l rl_1 hx1 q2 (by decide)
    refine z_iconst zh dX5_lastOfChain_19 ki_m1 ?_
    refine z_goto (tgt := 39) zh dX5_lastOfChain_20 rfl ?_
    exact z_iret zh dX5_lastOfChain_39 ⟨_, rfl, rfl, rfl, (ra_w rl_n1 (by decide) (by decide))⟩
  · have r4 : Ra 1 12 x1 := rb_le_r rl_1 hx1 (rb_nlt q2) (by decide)
    refine z_iloadn zh dX5_lastOfChain_10 rfl ?_
    refine z_aloadnR zh dX5_lastOfChain_11 rfl ?_
    refine z_getf zh fl_Notices_164 dX5_lastOfChain_12 (ck_H hh) rfl rfl ?_
    refine z_alenI zh (ck_chain hh) dX5_lastOfChain_15 ?_
    refine z_icmp_le (tgt := 23) zh dX5_lastOfChain_16 rfl (fun q5 => ?_) (fun q5 => ?_)
    · refine z_aloadnR zh dX5_lastOfChain_23 rfl ?_
      refine z_getf zh fl_Notices_106 dX5_lastOfChain_24 (ck_H hh) rfl rfl ?_
      refine z_iconst zh dX5_lastOfChain_27 ki_1 ?_
      refine z_aloadnR zh dX5_lastOfChain_28 rfl ?_
      refine z_getf zh fl_Notices_164 dX5_lastOfChain_29 (ck_H hh) rfl rfl ?_
      refine z_iloadn zh dX5_lastOfChain_32 rfl ?_
      refine z_iconst zh dX5_lastOfChain_33 ki_1 ?_
      refine y_isub zh dX5_lastOfChain_34 r4 rl_1 (u := 0) (v := 11) rfl rfl (by decide) (by decide) (fun x6 hc6 hx6 => ?_)
      refine y_iald zh (ck_chain hh) dX5_lastOfChain_35 hx6 (by decide) (by decide) (fun x7 ex7 => ?_)
      obtain ⟨x8, ex8⟩ : ∃ z, iv (h + 7) 2 = z := ⟨_, rfl⟩
      have hx8 : Ra 0 200 x8 := ra_of ex8 (si_T hG (isT_d hh))
      refine z_callVI zh mv_Notices_25 dX5_lastOfChain_36 (ck_T (isT_d hh)) rfl (s_X7_get g (isT_d hh) ex8 hx8) ⟨Nat.le_of_ble_eq_true rfl, Nat.le_of_ble_eq_true rfl⟩ rfl rfl (Nat.le_of_ble_eq_true rfl) ?_
      rintro x9 _ _ ⟨rfl, rfl, gx9⟩
      have hx9 : Ra (-1) 11 x9 := get_any gx9 1 rfl (by decide) (by decide) (fun j => si_H hG hh 10 (by decide) rfl)
      exact z_iret zh dX5_lastOfChain_39 ⟨_, rfl, rfl, rfl, hx9⟩
    · exact (ra_no (rb_lt_l r4 rl_12 (rb_nle q5) (u := 11) (by decide)) (by decide)).elim
set_option maxRecDepth 20000 in
theorem s_X5_nextLink (g : GE) {sp : Nat → Nat → Bool} {σ : Iv} {iv : Iv} {lv : Lv} {h : Nat} {a1 : Int32} {a2 : Int32} {a3 : Int32} {a4 : Int32} (hh : isH h) (ha2 : Ra (-1) 11 a2) (hG : SI sp σ iv)  : ConI g yX5_nextLink cX5_nextLink 10 (some .int) 2 [rf g h, .int a1, .int a2, .int a3, .int a4] iv lv (fun r iv' lv' => iv = iv' ∧ lv = lv' ∧ Ra (-1) 199 r) := by
  refine con_intro (own := "RollingNets$Notices") (by decide +kernel) rfl (Nat.le_of_ble_eq_true rfl) (L0 := [some (rf g h), some (.int a1), some (.int a2), some (.int a3), some (.int a4), none, none, none, none, none]) rfl (fun Z zh => ?_)
  refine z_aloadnR zh dX5_nextLink_0 rfl ?_
  refine z_getf zh fl_Notices_106 dX5_nextLink_1 (ck_H hh) rfl rfl ?_
  refine z_astore zh dX5_nextLink_4 (by decide) (L' := [some (rf g h), some (.int a1), some (.int a2), some (.int a3), some (.int a4), some (rf g (h + 7)), none, none, none, none]) rfl ?_
  refine z_iconst zh dX5_nextLink_6 ki_m1 ?_
  refine z_istore zh dX5_nextLink_7 (by decide) (L' := [some (rf g h), some (.int a1), some (.int a2), some (.int a3), some (.int a4), some (rf g (h + 7)), some (.int (-1)), none, none, none]) rfl ?_
  refine z_iconst zh dX5_nextLink_9 ki_0 ?_
  refine z_istore zh dX5_nextLink_10 (by decide) (L' := [some (rf g h), some (.int a1), some (.int a2), some (.int a3), some (.int a4), some (rf g (h + 7)), some (.int (-1)), some (.int (nI 0)), none, none]) rfl ?_
  have J12 : ∀ (n : Nat) (x1 : Int32) (x2 : Int32), Ra (-1) 199 x1 → Ra 0 200 x2 → 200 - x2.toInt < (n : Int) → Z 12 [some (rf g h), some (.int a1), some (.int a2), some (.int a3), some (.int a4), some (rf g (h + 7)), some (.int x1), some (.int x2), none, none] [] iv lv := by
    intro n
    induction n with
    | zero => intro x1 x2 hx1 hx2 hn12; exact (ms_uz hx2 hn12).elim
    | succ n ih12 =>
      intro x1 x2 hx1 hx2 hn12
      refine z_iload zh dX5_nextLink_12 rfl ?_
      refine z_aloadR zh dX5_nextLink_14 rfl ?_
      obtain ⟨x3, ex3⟩ : ∃ z, iv (h + 7) 2 = z := ⟨_, rfl⟩
      have hx3 : Ra 0 200 x3 := ra_of ex3 (si_T hG (isT_d hh))
      refine z_callVIp zh mv_Notices_15 dX5_nextLink_16 (ck_T (isT_d hh)) rfl (s_X7_size g (isT_d hh) ex3) ⟨Nat.le_of_ble_eq_true rfl, Nat.le_of_ble_eq_true rfl⟩ rfl rfl (Nat.le_of_ble_eq_true rfl) ?_
      refine z_icmp_ge (tgt := 164) zh dX5_nextLink_19 rfl (fun q4 => ?_) (fun q4 => ?_)
      · refine z_iload zh dX5_nextLink_164 rfl ?_
        exact z_iret zh dX5_nextLink_166 ⟨_, rfl, rfl, rfl, hx1⟩
      · have r5 : Ra 0 199 x2 := rb_lt_l hx3 hx2 (rb_nle q4) (by decide)
        have r6 : Ra 1 200 x3 := rb_lt_r hx2 hx3 (rb_nle q4) (by decide)
        refine z_aloadR zh dX5_nextLink_22 rfl ?_
        refine z_iconst zh dX5_nextLink_24 ki_0 ?_
        refine z_iload zh dX5_nextLink_25 rfl ?_
        refine z_callVI zh mv_Notices_25 dX5_nextLink_27 (ck_T (isT_d hh)) rfl (s_X7_get g (isT_d hh) ex3 hx3) ⟨Nat.le_of_ble_eq_true rfl, Nat.le_of_ble_eq_true rfl⟩ rfl rfl (Nat.le_of_ble_eq_true rfl) ?_
        rintro x7 _ _ ⟨rfl, rfl, gx7⟩
        have hx7 : Ra 0 11 x7 := get_in gx7 0 rfl (by decide) (by decide) ⟨Int.le_trans (by decide) r5.1, ltI.mp (rb_nle q4)⟩ (fun j => si_H hG hh 9 (by decide) rfl)
        refine z_iloadn zh dX5_nextLink_30 rfl ?_
        have J67 : ∀ (x8 : Int32), Ra 0 1 x8 → Z 67 [some (rf g h), some (.int a1), some (.int a2), some (.int a3), some (.int a4), some (rf g (h + 7)), some (.int x1), some (.int x2), none, none] [.int x8] iv lv := by
          intro x8 hx8
          refine z_istore zh dX5_nextLink_67 (by decide) (L' := [some (rf g h), some (.int a1), some (.int a2), some (.int a3), some (.int a4), some (rf g (h + 7)), some (.int x1), some (.int x2), some (.int x8), none]) rfl ?_
          refine z_aloadR zh dX5_nextLink_69 rfl ?_
          refine z_iconst zh dX5_nextLink_71 ki_5 ?_
          refine z_iload zh dX5_nextLink_72 rfl ?_
          obtain ⟨x9, ex9⟩ : ∃ z, iv (h + 7) 2 = z := ⟨_, rfl⟩
          have hx9 : Ra 0 200 x9 := ra_of ex9 (si_T hG (isT_d hh))
          refine z_callVI zh mv_Notices_25 dX5_nextLink_74 (ck_T (isT_d hh)) rfl (s_X7_get g (isT_d hh) ex9 hx9) ⟨Nat.le_of_ble_eq_true rfl, Nat.le_of_ble_eq_true rfl⟩ rfl rfl (Nat.le_of_ble_eq_true rfl) ?_
          rintro x10 _ _ ⟨rfl, rfl, gx10⟩
          refine z_iconst zh dX5_nextLink_77 ki_1 ?_
          have J115 : ∀ (x11 : Int32), Ra 0 1 x11 → Z 115 [some (rf g h), some (.int a1), some (.int a2), some (.int a3), some (.int a4), some (rf g (h + 7)), some (.int x1), some (.int x2), some (.int x8), none] [.int x11] iv lv := by
            intro x11 hx11
            refine z_istore zh dX5_nextLink_115 (by decide) (L' := [some (rf g h), some (.int a1), some (.int a2), some (.int a3), some (.int a4), some (rf g (h + 7)), some (.int x1), some (.int x2), some (.int x8), some (.int x11)]) rfl ?_
            refine z_iload zh dX5_nextLink_117 rfl ?_
            have J158 : ∀ (x12 : Int32), Ra (-1) 199 x12 → Z 158 [some (rf g h), some (.int a1), some (.int a2), some (.int a3), some (.int a4), some (rf g (h + 7)), some (.int x12), some (.int x2), some (.int x8), some (.int x11)] [] iv lv := by
              intro x12 hx12
              refine y_iinc (L' := fun z => [some (rf g h), some (.int a1), some (.int a2), some (.int a3), some (.int a4), some (rf g (h + 7)), some (.int x12), some (.int z), some (.int x8), some (.int x11)]) zh dX5_nextLink_158 (by decide) rfl (by decide +kernel) r5 (u := 1) (v := 200) rfl rfl (by decide) (by decide) (fun _ => rfl) (fun x13 hc13 hx13 => ?_)
              refine z_goto (tgt := 12) zh dX5_nextLink_161 rfl ?_
              refine z_forget zh [true, true, true, true, true, true, true, true, false, false] (L2 := [some (rf g h), some (.int a1), some (.int a2), some (.int a3), some (.int a4), some (rf g (h + 7)), some (.int x12), some (.int x13), none, none]) rfl ?_
              exact ih12 x12 x13 hx12 (ra_w hx13 (by decide) (by decide)) (ms_up hc13 (by decide) hn12)
            refine z_if_eq (tgt := 158) zh dX5_nextLink_119 rfl (fun q14 => ?_) (fun q14 => ?_)
            · have r15 := rb_eq (u := 0) (v := 0) hx8 ra_z q14 (by decide) (by decide)
              exact J158 x1 hx1
            · have r16 : Ra 1 1 x8 := rb_ne_lo hx8 ra_z q14 (by decide)
              refine z_iload zh dX5_nextLink_122 rfl ?_
              refine z_if_eq (tgt := 158) zh dX5_nextLink_124 rfl (fun q17 => ?_) (fun q17 => ?_)
              · have r18 := rb_eq (u := 0) (v := 0) hx11 ra_z q17 (by decide) (by decide)
                exact J158 x1 hx1
              · have r19 : Ra 1 1 x11 := rb_ne_lo hx11 ra_z q17 (by decide)
                refine z_iload zh dX5_nextLink_127 rfl ?_
                refine z_iconst zh dX5_nextLink_129 ki_m1 ?_
                have J154 : Z 154 [some (rf g h), some (.int a1), some (.int a2), some (.int a3), some (.int a4), some (rf g (h + 7)), some (.int x1), some (.int x2), some (.int x8), some (.int x11)] [] iv lv := by
                  refine z_iload zh dX5_nextLink_154 rfl ?_
                  refine z_istore zh dX5_nextLink_156 (by decide) (L' := [some (rf g h), some (.int a1), some (.int a2), some (.int a3), some (.int a4), some (rf g (h + 7)), some (.int x2), some (.int x2), some (.int x8), some (.int x11)]) rfl ?_
                  exact J158 x2 (ra_w r5 (by decide) (by decide))
                refine z_icmp_eq (tgt := 154) zh dX5_nextLink_130 rfl (fun q20 => ?_) (fun q20 => ?_)
                · have r21 := rb_eq (u := (-1)) (v := (-1)) hx1 rl_n1 q20 (by decide) (by decide)
                  exact J154
                · have r22 : Ra 0 199 x1 := rb_ne_lo hx1 rl_n1 q20 (by decide)
                  refine z_aloadR zh dX5_nextLink_133 rfl ?_
                  refine z_bipush zh dX5_nextLink_135 kb_6 ?_
                  refine z_iload zh dX5_nextLink_137 rfl ?_
                  obtain ⟨x23, ex23⟩ : ∃ z, iv (h + 7) 2 = z := ⟨_, rfl⟩
                  have hx23 : Ra 0 200 x23 := ra_of ex23 (si_T hG (isT_d hh))
                  refine z_callVI zh mv_Notices_25 dX5_nextLink_139 (ck_T (isT_d hh)) rfl (s_X7_get g (isT_d hh) ex23 hx23) ⟨Nat.le_of_ble_eq_true rfl, Nat.le_of_ble_eq_true rfl⟩ rfl rfl (Nat.le_of_ble_eq_true rfl) ?_
                  rintro x24 _ _ ⟨rfl, rfl, gx24⟩
                  refine z_aloadR zh dX5_nextLink_142 rfl ?_
                  refine z_bipush zh dX5_nextLink_144 kb_6 ?_
                  refine z_iload zh dX5_nextLink_146 rfl ?_
                  refine z_callVI zh mv_Notices_25 dX5_nextLink_148 (ck_T (isT_d hh)) rfl (s_X7_get g (isT_d hh) ex23 hx23) ⟨Nat.le_of_ble_eq_true rfl, Nat.le_of_ble_eq_true rfl⟩ rfl rfl (Nat.le_of_ble_eq_true rfl) ?_
                  rintro x25 _ _ ⟨rfl, rfl, gx25⟩
                  refine z_icmp_ge (tgt := 158) zh dX5_nextLink_151 rfl (fun q26 => ?_) (fun q26 => ?_)
                  · exact J158 x1 (ra_w r22 (by decide) (by decide))
                  · have r27 : Ra (-2147483648) 2147483646 x24 := rb_lt_l (ra_tt x25) (ra_tt x24) (rb_nle q26) (by decide)
                    have r28 : Ra (-2147483647) 2147483647 x25 := rb_lt_r (ra_tt x24) (ra_tt x25) (rb_nle q26) (by decide)
                    exact J154
          have J114 : Z 114 [some (rf g h), some (.int a1), some (.int a2), some (.int a3), some (.int a4), some (rf g (h + 7)), some (.int x1), some (.int x2), some (.int x8), none] [] iv lv := by
            refine z_iconst zh dX5_nextLink_114 ki_0 ?_
            exact J115 (nI 0) (ra_w rl_0 (by decide) (by decide))
          refine z_icmp_ne (tgt := 114) zh dX5_nextLink_78 rfl (fun q29 => ?_) (fun q29 => ?_)
          · exact J114
          · have r30 := rb_eq (u := 1) (v := 1) (ra_tt x10) rl_1 q29 (by decide) (by decide)
            refine z_aloadR zh dX5_nextLink_81 rfl ?_
            refine z_bipush zh dX5_nextLink_83 kb_7 ?_
            refine z_iload zh dX5_nextLink_85 rfl ?_
            refine z_callVI zh mv_Notices_25 dX5_nextLink_87 (ck_T (isT_d hh)) rfl (s_X7_get g (isT_d hh) ex9 hx9) ⟨Nat.le_of_ble_eq_true rfl, Nat.le_of_ble_eq_true rfl⟩ rfl rfl (Nat.le_of_ble_eq_true rfl) ?_
            rintro x31 _ _ ⟨rfl, rfl, gx31⟩
            refine z_iloadn zh dX5_nextLink_90 rfl ?_
            refine z_icmp_lt (tgt := 114) zh dX5_nextLink_91 rfl (fun q32 => ?_) (fun q32 => ?_)
            · have r33 : Ra (-2147483648) 2147483646 x31 := rb_lt_l (ra_tt a3) (ra_tt x31) q32 (by decide)
              have r34 : Ra (-2147483647) 2147483647 a3 := rb_lt_r (ra_tt x31) (ra_tt a3) q32 (by decide)
              exact J114
            · refine z_aloadR zh dX5_nextLink_94 rfl ?_
              refine z_bipush zh dX5_nextLink_96 kb_6 ?_
              refine z_iload zh dX5_nextLink_98 rfl ?_
              refine z_callVI zh mv_Notices_25 dX5_nextLink_100 (ck_T (isT_d hh)) rfl (s_X7_get g (isT_d hh) ex9 hx9) ⟨Nat.le_of_ble_eq_true rfl, Nat.le_of_ble_eq_true rfl⟩ rfl rfl (Nat.le_of_ble_eq_true rfl) ?_
              rintro x35 _ _ ⟨rfl, rfl, gx35⟩
              refine z_aloadnR zh dX5_nextLink_103 rfl ?_
              refine y_getI zh fl_Notices_78 dX5_nextLink_104 (ck_H hh) rfl rfl (fun x36 ex36 => ?_)
              have hx36 : Ra 0 99 x36 := ra_of ex36 (si_H hG hh 0 (by decide) rfl)
              refine z_icmp_gt (tgt := 114) zh dX5_nextLink_107 rfl (fun q37 => ?_) (fun q37 => ?_)
              · have r38 : Ra 1 2147483647 x35 := rb_lt_r hx36 (ra_tt x35) q37 (by decide)
                exact J114
              · have r39 : Ra (-2147483648) 99 x35 := rb_le_l hx36 (ra_tt x35) (rb_nlt q37) (by decide)
                refine z_iconst zh dX5_nextLink_110 ki_1 ?_
                refine z_goto (tgt := 115) zh dX5_nextLink_111 rfl ?_
                exact J115 (nI 1) (ra_w rl_1 (by decide) (by decide))
        have J66 : Z 66 [some (rf g h), some (.int a1), some (.int a2), some (.int a3), some (.int a4), some (rf g (h + 7)), some (.int x1), some (.int x2), none, none] [] iv lv := by
          refine z_iconst zh dX5_nextLink_66 ki_0 ?_
          exact J67 (nI 0) (ra_w rl_0 (by decide) (by decide))
        refine z_icmp_ne (tgt := 66) zh dX5_nextLink_31 rfl (fun q40 => ?_) (fun q40 => ?_)
        · exact J66
        · have r41 := rb_eq (u := 0) (v := 11) hx7 ha2 q40 (by decide) (by decide)
          refine z_aloadR zh dX5_nextLink_34 rfl ?_
          refine z_iconst zh dX5_nextLink_36 ki_2 ?_
          refine z_iload zh dX5_nextLink_37 rfl ?_
          refine z_callVI zh mv_Notices_25 dX5_nextLink_39 (ck_T (isT_d hh)) rfl (s_X7_get g (isT_d hh) ex3 hx3) ⟨Nat.le_of_ble_eq_true rfl, Nat.le_of_ble_eq_true rfl⟩ rfl rfl (Nat.le_of_ble_eq_true rfl) ?_
          rintro x42 _ _ ⟨rfl, rfl, gx42⟩
          refine z_iloadn zh dX5_nextLink_42 rfl ?_
          refine z_icmp_ne (tgt := 66) zh dX5_nextLink_43 rfl (fun q43 => ?_) (fun q43 => ?_)
          · exact J66
          · refine z_iload zh dX5_nextLink_46 rfl ?_
            refine z_aloadR zh dX5_nextLink_48 rfl ?_
            refine z_iconst zh dX5_nextLink_50 ki_1 ?_
            refine z_iload zh dX5_nextLink_51 rfl ?_
            refine z_callVI zh mv_Notices_25 dX5_nextLink_53 (ck_T (isT_d hh)) rfl (s_X7_get g (isT_d hh) ex3 hx3) ⟨Nat.le_of_ble_eq_true rfl, Nat.le_of_ble_eq_true rfl⟩ rfl rfl (Nat.le_of_ble_eq_true rfl) ?_
            rintro x45 _ _ ⟨rfl, rfl, gx45⟩
            have hx45 : Ra 0 11 x45 := get_in gx45 1 rfl (by decide) (by decide) ⟨Int.le_trans (by decide) r5.1, ltI.mp (rb_nle q4)⟩ (fun j => si_H hG hh 10 (by decide) rfl)
            refine y_ishrT zh dX5_nextLink_56 (fun x46 => ?_)
            refine z_iconst zh dX5_nextLink_57 ki_1 ?_
            refine y_iandT zh dX5_nextLink_58 (fun x47 => ?_)
            refine z_if_ne (tgt := 66) zh dX5_nextLink_59 rfl (fun q48 => ?_) (fun q48 => ?_)
            · exact J66
            · have r49 := rb_eq (u := 0) (v := 0) (ra_tt x47) ra_z q48 (by decide) (by decide)
              refine z_iconst zh dX5_nextLink_62 ki_1 ?_
              refine z_goto (tgt := 67) zh dX5_nextLink_63 rfl ?_
              exact J67 (nI 1) (ra_w rl_1 (by decide) (by decide))
  exact J12 201 (-1) (nI 0) (ra_w rl_n1 (by decide) (by decide)) (ra_w rl_0 (by decide) (by decide)) (ms_u0 rl_0 (by decide))
set_option maxRecDepth 20000 in
theorem s_X5_closeApart (g : GE) {sp : Nat → Nat → Bool} {σ : Iv} {iv : Iv} {lv : Lv} {h : Nat} {a1 : Int32} {a2 : Int32} {a3 : Int32} (hh : isH h) (ha1 : Ra 0 5 a1) (ha2 : Ra 0 11 a2) (ha3 : Ra 0 59 a3) (hG : SI sp σ iv)  : ConV g yX5_closeApart cX5_closeApart 14 none 4 [rf g h, .int a1, .int a2, .int a3] iv lv (fun iv lv => SI sp σ iv) := by
  refine con_intro (own := "RollingNets$Notices") (by decide +kernel) rfl (Nat.le_of_ble_eq_true rfl) (L0 := [some (rf g h), some (.int a1), some (.int a2), some (.int a3), none, none, none, none, none, none, none, none, none, none]) rfl (fun Z zh => ?_)
  refine z_aloadnR zh dX5_closeApart_0 rfl ?_
  refine z_getf zh fl_Notices_106 dX5_closeApart_1 (ck_H hh) rfl rfl ?_
  refine z_astore zh dX5_closeApart_4 (by decide) (L' := [some (rf g h), some (.int a1), some (.int a2), some (.int a3), some (rf g (h + 7)), none, none, none, none, none, none, none, none, none]) rfl ?_
  refine z_aloadnR zh dX5_closeApart_6 rfl ?_
  refine z_getf zh fl_Notices_9 dX5_closeApart_7 (ck_H hh) rfl rfl ?_
  refine z_iconst zh dX5_closeApart_10 ki_5 ?_
  refine z_iloadn zh dX5_closeApart_11 rfl ?_
  obtain ⟨x1, ex1⟩ : ∃ z, iv (h + 17) 2 = z := ⟨_, rfl⟩
  have hx1 : Ra 0 60 x1 := ra_of ex1 (si_T hG (isT_n hh))
  refine z_callVI zh mv_Notices_25 dX5_closeApart_12 (ck_T (isT_n hh)) rfl (s_X7_get g (isT_n hh) ex1 hx1) ⟨Nat.le_of_ble_eq_true rfl, Nat.le_of_ble_eq_true rfl⟩ rfl rfl (Nat.le_of_ble_eq_true rfl) ?_
  rintro x2 _ _ ⟨rfl, rfl, gx2⟩
  refine z_istore zh dX5_closeApart_15 (by decide) (L' := [some (rf g h), some (.int a1), some (.int a2), some (.int a3), some (rf g (h + 7)), some (.int x2), none, none, none, none, none, none, none, none]) rfl ?_
  refine z_aloadnR zh dX5_closeApart_17 rfl ?_
  refine z_getf zh fl_Notices_9 dX5_closeApart_18 (ck_H hh) rfl rfl ?_
  refine z_iconst zh dX5_closeApart_21 ki_2 ?_
  refine z_iloadn zh dX5_closeApart_22 rfl ?_
  refine z_callVI zh mv_Notices_25 dX5_closeApart_23 (ck_T (isT_n hh)) rfl (s_X7_get g (isT_n hh) ex1 hx1) ⟨Nat.le_of_ble_eq_true rfl, Nat.le_of_ble_eq_true rfl⟩ rfl rfl (Nat.le_of_ble_eq_true rfl) ?_
  rintro x3 _ _ ⟨rfl, rfl, gx3⟩
  refine z_istore zh dX5_closeApart_26 (by decide) (L' := [some (rf g h), some (.int a1), some (.int a2), some (.int a3), some (rf g (h + 7)), some (.int x2), some (.int x3), none, none, none, none, none, none, none]) rfl ?_
  refine z_aloadR zh dX5_closeApart_28 rfl ?_
  refine z_bipush zh dX5_closeApart_30 kb_7 ?_
  refine z_iload zh dX5_closeApart_32 rfl ?_
  obtain ⟨x4, ex4⟩ : ∃ z, iv (h + 7) 2 = z := ⟨_, rfl⟩
  have hx4 : Ra 0 200 x4 := ra_of ex4 (si_T hG (isT_d hh))
  refine z_callVI zh mv_Notices_25 dX5_closeApart_34 (ck_T (isT_d hh)) rfl (s_X7_get g (isT_d hh) ex4 hx4) ⟨Nat.le_of_ble_eq_true rfl, Nat.le_of_ble_eq_true rfl⟩ rfl rfl (Nat.le_of_ble_eq_true rfl) ?_
  rintro x5 _ _ ⟨rfl, rfl, gx5⟩
  refine z_iload zh dX5_closeApart_37 rfl ?_
  refine z_icmp_ge (tgt := 43) zh dX5_closeApart_39 rfl (fun q6 => ?_) (fun q6 => ?_)
  · refine z_aloadnR zh dX5_closeApart_43 rfl ?_
    refine z_iload zh dX5_closeApart_44 rfl ?_
    refine z_iload zh dX5_closeApart_46 rfl ?_
    refine z_callSV zh ms_Notices_153 dX5_closeApart_48 (s_X5_layChain g hh hG) ⟨Nat.le_of_ble_eq_true rfl, Nat.le_of_ble_eq_true rfl⟩ rfl rfl (Nat.le_of_ble_eq_true rfl) ?_
    rintro iv lv hG
    refine z_aloadnR zh dX5_closeApart_51 rfl ?_
    refine z_callSI zh ms_Notices_157 dX5_closeApart_52 (s_X5_lastOfChain g hh hG) ⟨Nat.le_of_ble_eq_true rfl, Nat.le_of_ble_eq_true rfl⟩ rfl rfl (Nat.le_of_ble_eq_true rfl) ?_
    rintro x7 _ _ ⟨rfl, rfl, hx7⟩
    refine z_istore zh dX5_closeApart_55 (by decide) (L' := [some (rf g h), some (.int a1), some (.int a2), some (.int a3), some (rf g (h + 7)), some (.int x2), some (.int x3), some (.int x7), none, none, none, none, none, none]) rfl ?_
    refine z_aloadnR zh dX5_closeApart_57 rfl ?_
    refine z_iload zh dX5_closeApart_58 rfl ?_
    refine z_callVI zh mv_Notices_29 dX5_closeApart_60 (ck_H hh) rfl (s_X1_hasMember g hh hG) ⟨Nat.le_of_ble_eq_true rfl, Nat.le_of_ble_eq_true rfl⟩ rfl rfl (Nat.le_of_ble_eq_true rfl) ?_
    rintro x8 _ _ ⟨rfl, rfl, hx8, hz9⟩
    refine z_if_ne (tgt := 67) zh dX5_closeApart_63 rfl (fun q10 => ?_) (fun q10 => ?_)
    · have r11 : Ra 1 1 x8 := rb_ne_lo hx8 ra_z q10 (by decide)
      have r12 : Ra 0 11 x7 := (hz9 q10)
      refine z_iload zh dX5_closeApart_67 rfl ?_
      refine y_i2l zh dX5_closeApart_69 (fun l13 => ?_)
      refine z_aloadnR zh dX5_closeApart_70 rfl ?_
      refine z_iloadn zh dX5_closeApart_71 rfl ?_
      refine z_callVI zh mv_Notices_123 dX5_closeApart_72 (ck_H hh) rfl (s_X1_buyPrice g hh ha1 hG) ⟨Nat.le_of_ble_eq_true rfl, Nat.le_of_ble_eq_true rfl⟩ rfl rfl (Nat.le_of_ble_eq_true rfl) ?_
      rintro x14 _ _ ⟨rfl, rfl, _⟩
      refine y_i2l zh dX5_closeApart_75 (fun l15 => ?_)
      refine y_lmul zh dX5_closeApart_76 (fun l16 => ?_)
      refine z_lstore zh dX5_closeApart_77 (by decide) (L' := [some (rf g h), some (.int a1), some (.int a2), some (.int a3), some (rf g (h + 7)), some (.int x2), some (.int x3), some (.int x7), some (.long l16), none, none, none, none, none]) rfl ?_
      refine z_aloadnR zh dX5_closeApart_79 rfl ?_
      refine z_getf zh fl_Notices_142 dX5_closeApart_80 (ck_H hh) rfl rfl ?_
      refine z_iload zh dX5_closeApart_83 rfl ?_
      refine z_dup2 zh dX5_closeApart_85 rfl rfl ?_
      refine y_lald zh (ck_cash hh) dX5_closeApart_86 r12 (by decide) (by decide) (fun l17 => ?_)
      refine z_lload zh dX5_closeApart_87 rfl ?_
      refine y_lsub zh dX5_closeApart_89 (fun l18 => ?_)
      refine z_last zh (ck_cash hh) dX5_closeApart_90 (ra_in r12 (by decide) (by decide)) ?_
      generalize upL lv (h + 2) x7.toNatClampNeg l18 = lv
      refine z_aloadnR zh dX5_closeApart_91 rfl ?_
      refine z_dup zh dX5_closeApart_92 rfl ?_
      refine y_getL zh fl_Notices_145 dX5_closeApart_93 (ck_H hh) rfl rfl (fun l19 => ?_)
      refine z_lload zh dX5_closeApart_96 rfl ?_
      refine y_ladd zh dX5_closeApart_98 (fun l20 => ?_)
      refine z_putL zh fl_Notices_145 dX5_closeApart_99 (ck_H hh) rfl rfl (Nat.le_of_ble_eq_true rfl) rfl ?_
      generalize upL lv h 12 l20 = lv
      refine z_aloadnR zh dX5_closeApart_102 rfl ?_
      refine z_getf zh fl_Notices_68 dX5_closeApart_103 (ck_H hh) rfl rfl ?_
      refine z_iloadn zh dX5_closeApart_106 rfl ?_
      refine y_mald zh (ck_markets hh) dX5_closeApart_107 ha1 (by decide) (by decide) (fun j21 hj21 _ _ => ?_)
      refine z_getf zh fl_Notices_126 dX5_closeApart_108 (ck_M (isM_of hh hj21)) rfl rfl ?_
      refine z_iloadn zh dX5_closeApart_111 rfl ?_
      refine z_dup2 zh dX5_closeApart_112 rfl rfl ?_
      refine y_lald zh (ck_stock (isM_of hh hj21)) dX5_closeApart_113 ha2 (by decide) (by decide) (fun l22 => ?_)
      refine z_iload zh dX5_closeApart_114 rfl ?_
      refine y_i2l zh dX5_closeApart_116 (fun l23 => ?_)
      refine y_ladd zh dX5_closeApart_117 (fun l24 => ?_)
      refine z_last zh (ck_stock (isM_of hh hj21)) dX5_closeApart_118 (ra_in ha2 (by decide) (by decide)) ?_
      generalize upL lv (h + 60 + 20 * j21 + 1) a2.toNatClampNeg l24 = lv
      refine z_iconst zh dX5_closeApart_119 ki_0 ?_
      refine z_istore zh dX5_closeApart_120 (by decide) (L' := [some (rf g h), some (.int a1), some (.int a2), some (.int a3), some (rf g (h + 7)), some (.int x2), some (.int x3), some (.int x7), some (.long l16), none, some (.int (nI 0)), none, none, none]) rfl ?_
      have J122 : ∀ (n : Nat) (iv : Iv) (lv : Lv) (x25 : Int32), SI sp σ iv → Ra 0 12 x25 → 12 - x25.toInt < (n : Int) → Z 122 [some (rf g h), some (.int a1), some (.int a2), some (.int a3), some (rf g (h + 7)), some (.int x2), some (.int x3), some (.int x7), some (.long l16), none, some (.int x25), none, none, none] [] iv lv := by
        intro n
        induction n with
        | zero => intro iv lv x25 hG hx25 hn122; exact (ms_uz hx25 hn122).elim
        | succ n ih122 =>
          intro iv lv x25 hG hx25 hn122
          refine z_iload zh dX5_closeApart_122 rfl ?_
          refine z_aloadnR zh dX5_closeApart_124 rfl ?_
          refine y_getI zh fl_Notices_161 dX5_closeApart_125 (ck_H hh) rfl rfl (fun x26 ex26 => ?_)
          have hx26 : Ra 0 12 x26 := ra_of ex26 (si_H hG hh 0 (by decide) rfl)
          refine z_icmp_ge (tgt := 204) zh dX5_closeApart_128 rfl (fun q27 => ?_) (fun q27 => ?_)
          · refine z_aloadnR zh dX5_closeApart_204 rfl ?_
            refine z_getf zh fl_Notices_9 dX5_closeApart_205 (ck_H hh) rfl rfl ?_
            refine z_bipush zh dX5_closeApart_208 kb_6 ?_
            refine z_iloadn zh dX5_closeApart_210 rfl ?_
            refine z_iload zh dX5_closeApart_211 rfl ?_
            refine z_callVV zh mv_Notices_64 dX5_closeApart_213 (ck_T (isT_n hh)) rfl (s_X7_put g (isT_n hh) hG (pn_f hG hh rl_6 (by decide))) ⟨Nat.le_of_ble_eq_true rfl, Nat.le_of_ble_eq_true rfl⟩ rfl rfl (Nat.le_of_ble_eq_true rfl) ?_
            rintro iv lv hG
            refine z_aloadnR zh dX5_closeApart_216 rfl ?_
            refine z_iconst zh dX5_closeApart_217 ki_4 ?_
            refine z_iloadn zh dX5_closeApart_218 rfl ?_
            refine z_iload zh dX5_closeApart_219 rfl ?_
            refine z_iloadn zh dX5_closeApart_221 rfl ?_
            refine z_iload zh dX5_closeApart_222 rfl ?_
            refine z_callVV zh mv_Notices_149 dX5_closeApart_224 (ck_H hh) rfl (s_X1_write g hh (ra_w rl_4 (by decide) (by decide)) ha1 (ra_w r12 (by decide) (by decide)) (ra_w ha2 (by decide) (by decide)) hG) ⟨Nat.le_of_ble_eq_true rfl, Nat.le_of_ble_eq_true rfl⟩ rfl rfl (Nat.le_of_ble_eq_true rfl) ?_
            rintro iv lv hG
            exact z_vret zh dX5_closeApart_227 ⟨rfl, hG⟩
          · have r28 : Ra 0 11 x25 := rb_lt_l hx26 hx25 (rb_nle q27) (by decide)
            have r29 : Ra 1 12 x26 := rb_lt_r hx25 hx26 (rb_nle q27) (by decide)
            refine z_aloadnR zh dX5_closeApart_131 rfl ?_
            refine z_getf zh fl_Notices_164 dX5_closeApart_132 (ck_H hh) rfl rfl ?_
            refine z_iload zh dX5_closeApart_135 rfl ?_
            refine y_iald zh (ck_chain hh) dX5_closeApart_137 r28 (by decide) (by decide) (fun x30 ex30 => ?_)
            refine z_istore zh dX5_closeApart_138 (by decide) (L' := [some (rf g h), some (.int a1), some (.int a2), some (.int a3), some (rf g (h + 7)), some (.int x2), some (.int x3), some (.int x7), some (.long l16), none, some (.int x25), some (.int x30), none, none]) rfl ?_
            refine z_iload zh dX5_closeApart_140 rfl ?_
            refine y_i2l zh dX5_closeApart_142 (fun l31 => ?_)
            refine z_aloadR zh dX5_closeApart_143 rfl ?_
            refine z_iconst zh dX5_closeApart_145 ki_4 ?_
            refine z_iload zh dX5_closeApart_146 rfl ?_
            obtain ⟨x32, ex32⟩ : ∃ z, iv (h + 7) 2 = z := ⟨_, rfl⟩
            have hx32 : Ra 0 200 x32 := ra_of ex32 (si_T hG (isT_d hh))
            refine z_callVI zh mv_Notices_25 dX5_closeApart_148 (ck_T (isT_d hh)) rfl (s_X7_get g (isT_d hh) ex32 hx32) ⟨Nat.le_of_ble_eq_true rfl, Nat.le_of_ble_eq_true rfl⟩ rfl rfl (Nat.le_of_ble_eq_true rfl) ?_
            rintro x33 _ _ ⟨rfl, rfl, gx33⟩
            refine y_i2l zh dX5_closeApart_151 (fun l34 => ?_)
            refine y_lmul zh dX5_closeApart_152 (fun l35 => ?_)
            refine z_lstore zh dX5_closeApart_153 (by decide) (L' := [some (rf g h), some (.int a1), some (.int a2), some (.int a3), some (rf g (h + 7)), some (.int x2), some (.int x3), some (.int x7), some (.long l16), none, some (.int x25), some (.int x30), some (.long l35), none]) rfl ?_
            refine z_aloadnR zh dX5_closeApart_155 rfl ?_
            refine z_aloadR zh dX5_closeApart_156 rfl ?_
            refine z_iconst zh dX5_closeApart_158 ki_0 ?_
            refine z_iload zh dX5_closeApart_159 rfl ?_
            refine z_callVI zh mv_Notices_25 dX5_closeApart_161 (ck_T (isT_d hh)) rfl (s_X7_get g (isT_d hh) ex32 hx32) ⟨Nat.le_of_ble_eq_true rfl, Nat.le_of_ble_eq_true rfl⟩ rfl rfl (Nat.le_of_ble_eq_true rfl) ?_
            rintro x36 _ _ ⟨rfl, rfl, gx36⟩
            have hx36 : Ra (-1) 11 x36 := get_any gx36 0 rfl (by decide) (by decide) (fun j => si_H hG hh 9 (by decide) rfl)
            refine z_aloadR zh dX5_closeApart_164 rfl ?_
            refine z_iconst zh dX5_closeApart_166 ki_1 ?_
            refine z_iload zh dX5_closeApart_167 rfl ?_
            refine z_callVI zh mv_Notices_25 dX5_closeApart_169 (ck_T (isT_d hh)) rfl (s_X7_get g (isT_d hh) ex32 hx32) ⟨Nat.le_of_ble_eq_true rfl, Nat.le_of_ble_eq_true rfl⟩ rfl rfl (Nat.le_of_ble_eq_true rfl) ?_
            rintro x37 _ _ ⟨rfl, rfl, gx37⟩
            have hx37 : Ra (-1) 11 x37 := get_any gx37 1 rfl (by decide) (by decide) (fun j => si_H hG hh 10 (by decide) rfl)
            refine z_lload zh dX5_closeApart_172 rfl ?_
            refine z_callVV zh mv_Notices_138 dX5_closeApart_174 (ck_H hh) rfl (s_X1_pay g hh hx36 hx37 hG) ⟨Nat.le_of_ble_eq_true rfl, Nat.le_of_ble_eq_true rfl⟩ rfl rfl (Nat.le_of_ble_eq_true rfl) ?_
            rintro iv lv hG
            refine z_aloadR zh dX5_closeApart_177 rfl ?_
            refine z_bipush zh dX5_closeApart_179 kb_7 ?_
            refine z_iload zh dX5_closeApart_181 rfl ?_
            refine z_aloadR zh dX5_closeApart_183 rfl ?_
            refine z_bipush zh dX5_closeApart_185 kb_7 ?_
            refine z_iload zh dX5_closeApart_187 rfl ?_
            obtain ⟨x38, ex38⟩ : ∃ z, iv (h + 7) 2 = z := ⟨_, rfl⟩
            have hx38 : Ra 0 200 x38 := ra_of ex38 (si_T hG (isT_d hh))
            refine z_callVI zh mv_Notices_25 dX5_closeApart_189 (ck_T (isT_d hh)) rfl (s_X7_get g (isT_d hh) ex38 hx38) ⟨Nat.le_of_ble_eq_true rfl, Nat.le_of_ble_eq_true rfl⟩ rfl rfl (Nat.le_of_ble_eq_true rfl) ?_
            rintro x39 _ _ ⟨rfl, rfl, gx39⟩
            refine z_iload zh dX5_closeApart_192 rfl ?_
            refine y_isubT zh dX5_closeApart_194 (fun x40 => ?_)
            refine z_callVV zh mv_Notices_64 dX5_closeApart_195 (ck_T (isT_d hh)) rfl (s_X7_put g (isT_d hh) hG (pd_f hG hh rl_7 (by decide))) ⟨Nat.le_of_ble_eq_true rfl, Nat.le_of_ble_eq_true rfl⟩ rfl rfl (Nat.le_of_ble_eq_true rfl) ?_
            rintro iv lv hG
            refine y_iinc (L' := fun z => [some (rf g h), some (.int a1), some (.int a2), some (.int a3), some (rf g (h + 7)), some (.int x2), some (.int x3), some (.int x7), some (.long l16), none, some (.int z), some (.int x30), some (.long l35), none]) zh dX5_closeApart_198 (by decide) rfl (by decide +kernel) r28 (u := 1) (v := 12) rfl rfl (by decide) (by decide) (fun _ => rfl) (fun x41 hc41 hx41 => ?_)
            refine z_goto (tgt := 122) zh dX5_closeApart_201 rfl ?_
            refine z_forget zh [true, true, true, true, true, true, true, true, true, false, true, false, false, false] (L2 := [some (rf g h), some (.int a1), some (.int a2), some (.int a3), some (rf g (h + 7)), some (.int x2), some (.int x3), some (.int x7), some (.long l16), none, some (.int x41), none, none, none]) rfl ?_
            exact ih122 iv lv x41 hG (ra_w hx41 (by decide) (by decide)) (ms_up hc41 (by decide) hn122)
      exact J122 13 iv lv (nI 0) hG (ra_w rl_0 (by decide) (by decide)) (ms_u0 rl_0 (by decide))
    · have r42 := rb_eq (u := 0) (v := 0) hx8 ra_z q10 (by decide) (by decide)
      exact z_vret zh dX5_closeApart_66 ⟨rfl, hG⟩
  · have r43 : Ra (-2147483648) 2147483646 x5 := rb_lt_l (ra_tt x3) (ra_tt x5) (rb_nle q6) (by decide)
    have r44 : Ra (-2147483647) 2147483647 x3 := rb_lt_r (ra_tt x5) (ra_tt x3) (rb_nle q6) (by decide)
    exact z_vret zh dX5_closeApart_42 ⟨rfl, hG⟩
set_option maxRecDepth 20000 in
theorem s_X5_closeNet (g : GE) {sp : Nat → Nat → Bool} {σ : Iv} {iv : Iv} {lv : Lv} {h : Nat} {a1 : Int32} {a2 : Int32} {a3 : Int32} (hh : isH h) (ha1 : Ra 0 5 a1) (ha2 : Ra 0 11 a2) (ha3 : Ra 0 59 a3) (hG : SI sp σ iv)  : ConV g yX5_closeNet cX5_closeNet 11 none 4 [rf g h, .int a1, .int a2, .int a3] iv lv (fun iv lv => SI sp σ iv) := by
  refine con_intro (own := "RollingNets$Notices") (by decide +kernel) rfl (Nat.le_of_ble_eq_true rfl) (L0 := [some (rf g h), some (.int a1), some (.int a2), some (.int a3), none, none, none, none, none, none, none]) rfl (fun Z zh => ?_)
  refine z_aloadnR zh dX5_closeNet_0 rfl ?_
  refine z_getf zh fl_Notices_9 dX5_closeNet_1 (ck_H hh) rfl rfl ?_
  refine z_astore zh dX5_closeNet_4 (by decide) (L' := [some (rf g h), some (.int a1), some (.int a2), some (.int a3), some (rf g (h + 17)), none, none, none, none, none, none]) rfl ?_
  refine z_aloadnR zh dX5_closeNet_6 rfl ?_
  refine z_getf zh fl_Notices_68 dX5_closeNet_7 (ck_H hh) rfl rfl ?_
  refine z_iloadn zh dX5_closeNet_10 rfl ?_
  refine y_mald zh (ck_markets hh) dX5_closeNet_11 ha1 (by decide) (by decide) (fun j1 hj1 _ _ => ?_)
  refine z_astore zh dX5_closeNet_12 (by decide) (L' := [some (rf g h), some (.int a1), some (.int a2), some (.int a3), some (rf g (h + 17)), some (rf g (h + 60 + 20 * j1)), none, none, none, none, none]) rfl ?_
  refine z_iconst zh dX5_closeNet_14 ki_0 ?_
  refine z_istore zh dX5_closeNet_15 (by decide) (L' := [some (rf g h), some (.int a1), some (.int a2), some (.int a3), some (rf g (h + 17)), some (rf g (h + 60 + 20 * j1)), some (.int (nI 0)), none, none, none, none]) rfl ?_
  have J17 : ∀ (n : Nat) (iv : Iv) (lv : Lv) (x2 : Int32), SI sp σ iv → Ra 0 12 x2 → 12 - x2.toInt < (n : Int) → Z 17 [some (rf g h), some (.int a1), some (.int a2), some (.int a3), some (rf g (h + 17)), some (rf g (h + 60 + 20 * j1)), some (.int x2), none, none, none, none] [] iv lv := by
    intro n
    induction n with
    | zero => intro iv lv x2 hG hx2 hn17; exact (ms_uz hx2 hn17).elim
    | succ n ih17 =>
      intro iv lv x2 hG hx2 hn17
      refine z_iload zh dX5_closeNet_17 rfl ?_
      refine z_aloadnR zh dX5_closeNet_19 rfl ?_
      refine z_callVI zh mv_Notices_57 dX5_closeNet_20 (ck_H hh) rfl (s_X1_members g hh hG) ⟨Nat.le_of_ble_eq_true rfl, Nat.le_of_ble_eq_true rfl⟩ rfl rfl (Nat.le_of_ble_eq_true rfl) ?_
      rintro x3 _ _ ⟨rfl, rfl, hx3⟩
      refine z_icmp_ge (tgt := 182) zh dX5_closeNet_23 rfl (fun q4 => ?_) (fun q4 => ?_)
      · have r5 : Ra 2 12 x2 := rb_le_r hx3 hx2 q4 (by decide)
        exact z_vret zh dX5_closeNet_182 ⟨rfl, hG⟩
      · have r6 : Ra 0 11 x2 := rb_lt_l hx3 hx2 (rb_nle q4) (by decide)
        refine z_aloadR zh dX5_closeNet_26 rfl ?_
        refine z_bipush zh dX5_closeNet_28 kb_7 ?_
        refine z_iload zh dX5_closeNet_30 rfl ?_
        refine y_iadd zh dX5_closeNet_32 rl_7 r6 (u := 7) (v := 18) rfl rfl (by decide) (by decide) (fun x7 hc7 hx7 => ?_)
        refine z_iloadn zh dX5_closeNet_33 rfl ?_
        obtain ⟨x8, ex8⟩ : ∃ z, iv (h + 17) 2 = z := ⟨_, rfl⟩
        have hx8 : Ra 0 60 x8 := ra_of ex8 (si_T hG (isT_n hh))
        refine z_callVI zh mv_Notices_25 dX5_closeNet_34 (ck_T (isT_n hh)) rfl (s_X7_get g (isT_n hh) ex8 hx8) ⟨Nat.le_of_ble_eq_true rfl, Nat.le_of_ble_eq_true rfl⟩ rfl rfl (Nat.le_of_ble_eq_true rfl) ?_
        rintro x9 _ _ ⟨rfl, rfl, gx9⟩
        refine z_aloadR zh dX5_closeNet_37 rfl ?_
        refine z_iload zh dX5_closeNet_39 rfl ?_
        refine z_callVI zh mv_Notices_96 dX5_closeNet_41 (ck_M (isM_of hh hj1)) rfl (s_X3_shortOf g (isM_of hh hj1) r6 hG) ⟨Nat.le_of_ble_eq_true rfl, Nat.le_of_ble_eq_true rfl⟩ rfl rfl (Nat.le_of_ble_eq_true rfl) ?_
        rintro x10 _ _ ⟨rfl, rfl, hx10⟩
        refine y_mmin zh ma_Notices_84 mc_min dX5_closeNet_44 ⟨Nat.le_of_ble_eq_true rfl, Nat.le_of_ble_eq_true rfl⟩ (ra_tt x9) hx10 (u := (-2147483648)) (v := 2147483647) (by decide) (by decide) (Or.inl (by decide)) (fun x11 hx11 => ?_)
        refine z_istore zh dX5_closeNet_47 (by decide) (L' := [some (rf g h), some (.int a1), some (.int a2), some (.int a3), some (rf g (h + 17)), some (rf g (h + 60 + 20 * j1)), some (.int x2), some (.int x11), none, none, none]) rfl ?_
        refine z_iload zh dX5_closeNet_49 rfl ?_
        refine z_aloadR zh dX5_closeNet_51 rfl ?_
        refine z_iloadn zh dX5_closeNet_53 rfl ?_
        refine z_callVI zh mv_Notices_120 dX5_closeNet_54 (ck_M (isM_of hh hj1)) rfl (s_X3_longOf g (isM_of hh hj1) ha2 hG) ⟨Nat.le_of_ble_eq_true rfl, Nat.le_of_ble_eq_true rfl⟩ rfl rfl (Nat.le_of_ble_eq_true rfl) ?_
        rintro x12 _ _ ⟨rfl, rfl, hx12⟩
        refine y_mmin zh ma_Notices_84 mc_min dX5_closeNet_57 ⟨Nat.le_of_ble_eq_true rfl, Nat.le_of_ble_eq_true rfl⟩ hx11 hx12 (u := (-2147483648)) (v := 2147483647) (by decide) (by decide) (Or.inl (by decide)) (fun x13 hx13 => ?_)
        refine z_istore zh dX5_closeNet_60 (by decide) (L' := [some (rf g h), some (.int a1), some (.int a2), some (.int a3), some (rf g (h + 17)), some (rf g (h + 60 + 20 * j1)), some (.int x2), some (.int x11), some (.int x13), none, none]) rfl ?_
        refine z_iload zh dX5_closeNet_62 rfl ?_
        have J176 : ∀ (iv : Iv) (lv : Lv), SI sp σ iv → Z 176 [some (rf g h), some (.int a1), some (.int a2), some (.int a3), some (rf g (h + 17)), some (rf g (h + 60 + 20 * j1)), some (.int x2), some (.int x11), some (.int x13), none, none] [] iv lv := by
          intro iv lv hG
          refine y_iinc (L' := fun z => [some (rf g h), some (.int a1), some (.int a2), some (.int a3), some (rf g (h + 17)), some (rf g (h + 60 + 20 * j1)), some (.int z), some (.int x11), some (.int x13), none, none]) zh dX5_closeNet_176 (by decide) rfl (by decide +kernel) r6 (u := 1) (v := 12) rfl rfl (by decide) (by decide) (fun _ => rfl) (fun x14 hc14 hx14 => ?_)
          refine z_goto (tgt := 17) zh dX5_closeNet_179 rfl ?_
          refine z_forget zh [true, true, true, true, true, true, true, false, false, false, false] (L2 := [some (rf g h), some (.int a1), some (.int a2), some (.int a3), some (rf g (h + 17)), some (rf g (h + 60 + 20 * j1)), some (.int x14), none, none, none, none]) rfl ?_
          exact ih17 iv lv x14 hG (ra_w hx14 (by decide) (by decide)) (ms_up hc14 (by decide) hn17)
        refine z_if_le (tgt := 176) zh dX5_closeNet_64 rfl (fun q15 => ?_) (fun q15 => ?_)
        · have r16 : Ra (-2147483648) 0 x13 := rb_le_l ra_z hx13 q15 (by decide)
          exact J176 iv lv hG
        · have r17 : Ra 1 2147483647 x13 := rb_lt_r ra_z hx13 (rb_nle q15) (by decide)
          refine z_iload zh dX5_closeNet_67 rfl ?_
          refine y_i2l zh dX5_closeNet_69 (fun l18 => ?_)
          refine z_aloadnR zh dX5_closeNet_70 rfl ?_
          refine z_iloadn zh dX5_closeNet_71 rfl ?_
          refine z_callVI zh mv_Notices_123 dX5_closeNet_72 (ck_H hh) rfl (s_X1_buyPrice g hh ha1 hG) ⟨Nat.le_of_ble_eq_true rfl, Nat.le_of_ble_eq_true rfl⟩ rfl rfl (Nat.le_of_ble_eq_true rfl) ?_
          rintro x19 _ _ ⟨rfl, rfl, _⟩
          refine y_i2l zh dX5_closeNet_75 (fun l20 => ?_)
          refine y_lmul zh dX5_closeNet_76 (fun l21 => ?_)
          refine z_lstore zh dX5_closeNet_77 (by decide) (L' := [some (rf g h), some (.int a1), some (.int a2), some (.int a3), some (rf g (h + 17)), some (rf g (h + 60 + 20 * j1)), some (.int x2), some (.int x11), some (.int x13), some (.long l21), none]) rfl ?_
          refine z_aloadR zh dX5_closeNet_79 rfl ?_
          refine z_getf zh fl_Notices_126 dX5_closeNet_81 (ck_M (isM_of hh hj1)) rfl rfl ?_
          refine z_iloadn zh dX5_closeNet_84 rfl ?_
          refine z_dup2 zh dX5_closeNet_85 rfl rfl ?_
          refine y_lald zh (ck_stock (isM_of hh hj1)) dX5_closeNet_86 ha2 (by decide) (by decide) (fun l22 => ?_)
          refine z_iload zh dX5_closeNet_87 rfl ?_
          refine y_i2l zh dX5_closeNet_89 (fun l23 => ?_)
          refine y_ladd zh dX5_closeNet_90 (fun l24 => ?_)
          refine z_last zh (ck_stock (isM_of hh hj1)) dX5_closeNet_91 (ra_in ha2 (by decide) (by decide)) ?_
          generalize upL lv (h + 60 + 20 * j1 + 1) a2.toNatClampNeg l24 = lv
          refine z_aloadR zh dX5_closeNet_92 rfl ?_
          refine z_iloadn zh dX5_closeNet_94 rfl ?_
          refine z_iload zh dX5_closeNet_95 rfl ?_
          refine z_callVV zh mv_Notices_130 dX5_closeNet_97 (ck_M (isM_of hh hj1)) rfl (s_X3_takeOff g (isM_of hh hj1) ha2 hG) ⟨Nat.le_of_ble_eq_true rfl, Nat.le_of_ble_eq_true rfl⟩ rfl rfl (Nat.le_of_ble_eq_true rfl) ?_
          rintro iv lv hG
          refine z_aloadR zh dX5_closeNet_100 rfl ?_
          refine z_iload zh dX5_closeNet_102 rfl ?_
          refine z_iload zh dX5_closeNet_104 rfl ?_
          refine z_callVV zh mv_Notices_130 dX5_closeNet_106 (ck_M (isM_of hh hj1)) rfl (s_X3_takeOff g (isM_of hh hj1) r6 hG) ⟨Nat.le_of_ble_eq_true rfl, Nat.le_of_ble_eq_true rfl⟩ rfl rfl (Nat.le_of_ble_eq_true rfl) ?_
          rintro iv lv hG
          refine z_aloadnR zh dX5_closeNet_109 rfl ?_
          refine z_iloadn zh dX5_closeNet_110 rfl ?_
          refine z_iload zh dX5_closeNet_111 rfl ?_
          refine z_aloadR zh dX5_closeNet_113 rfl ?_
          refine z_iload zh dX5_closeNet_115 rfl ?_
          refine z_callVL zh mv_Notices_134 dX5_closeNet_117 (ck_M (isM_of hh hj1)) rfl (s_X3_worth g (isM_of hh hj1) hG) ⟨Nat.le_of_ble_eq_true rfl, Nat.le_of_ble_eq_true rfl⟩ rfl rfl (Nat.le_of_ble_eq_true rfl) ?_
          rintro l25 _ _ ⟨rfl, rfl, _⟩
          refine z_callVV zh mv_Notices_138 dX5_closeNet_120 (ck_H hh) rfl (s_X1_pay g hh (ra_w ha2 (by decide) (by decide)) (ra_w r6 (by decide) (by decide)) hG) ⟨Nat.le_of_ble_eq_true rfl, Nat.le_of_ble_eq_true rfl⟩ rfl rfl (Nat.le_of_ble_eq_true rfl) ?_
          rintro iv lv hG
          refine z_aloadnR zh dX5_closeNet_123 rfl ?_
          refine z_getf zh fl_Notices_142 dX5_closeNet_124 (ck_H hh) rfl rfl ?_
          refine z_iload zh dX5_closeNet_127 rfl ?_
          refine z_dup2 zh dX5_closeNet_129 rfl rfl ?_
          refine y_lald zh (ck_cash hh) dX5_closeNet_130 r6 (by decide) (by decide) (fun l26 => ?_)
          refine z_lload zh dX5_closeNet_131 rfl ?_
          refine y_lsub zh dX5_closeNet_133 (fun l27 => ?_)
          refine z_last zh (ck_cash hh) dX5_closeNet_134 (ra_in r6 (by decide) (by decide)) ?_
          generalize upL lv (h + 2) x2.toNatClampNeg l27 = lv
          refine z_aloadnR zh dX5_closeNet_135 rfl ?_
          refine z_dup zh dX5_closeNet_136 rfl ?_
          refine y_getL zh fl_Notices_145 dX5_closeNet_137 (ck_H hh) rfl rfl (fun l28 => ?_)
          refine z_lload zh dX5_closeNet_140 rfl ?_
          refine y_ladd zh dX5_closeNet_142 (fun l29 => ?_)
          refine z_putL zh fl_Notices_145 dX5_closeNet_143 (ck_H hh) rfl rfl (Nat.le_of_ble_eq_true rfl) rfl ?_
          generalize upL lv h 12 l29 = lv
          refine z_aloadR zh dX5_closeNet_146 rfl ?_
          refine z_bipush zh dX5_closeNet_148 kb_6 ?_
          refine z_iloadn zh dX5_closeNet_150 rfl ?_
          refine z_aloadR zh dX5_closeNet_151 rfl ?_
          refine z_bipush zh dX5_closeNet_153 kb_6 ?_
          refine z_iloadn zh dX5_closeNet_155 rfl ?_
          obtain ⟨x30, ex30⟩ : ∃ z, iv (h + 17) 2 = z := ⟨_, rfl⟩
          have hx30 : Ra 0 60 x30 := ra_of ex30 (si_T hG (isT_n hh))
          refine z_callVI zh mv_Notices_25 dX5_closeNet_156 (ck_T (isT_n hh)) rfl (s_X7_get g (isT_n hh) ex30 hx30) ⟨Nat.le_of_ble_eq_true rfl, Nat.le_of_ble_eq_true rfl⟩ rfl rfl (Nat.le_of_ble_eq_true rfl) ?_
          rintro x31 _ _ ⟨rfl, rfl, gx31⟩
          refine z_iload zh dX5_closeNet_159 rfl ?_
          refine y_iaddT zh dX5_closeNet_161 (fun x32 => ?_)
          refine z_callVV zh mv_Notices_64 dX5_closeNet_162 (ck_T (isT_n hh)) rfl (s_X7_put g (isT_n hh) hG (pn_f hG hh rl_6 (by decide))) ⟨Nat.le_of_ble_eq_true rfl, Nat.le_of_ble_eq_true rfl⟩ rfl rfl (Nat.le_of_ble_eq_true rfl) ?_
          rintro iv lv hG
          refine z_aloadnR zh dX5_closeNet_165 rfl ?_
          refine z_iconst zh dX5_closeNet_166 ki_4 ?_
          refine z_iloadn zh dX5_closeNet_167 rfl ?_
          refine z_iload zh dX5_closeNet_168 rfl ?_
          refine z_iloadn zh dX5_closeNet_170 rfl ?_
          refine z_iload zh dX5_closeNet_171 rfl ?_
          refine z_callVV zh mv_Notices_149 dX5_closeNet_173 (ck_H hh) rfl (s_X1_write g hh (ra_w rl_4 (by decide) (by decide)) ha1 (ra_w r6 (by decide) (by decide)) (ra_w ha2 (by decide) (by decide)) hG) ⟨Nat.le_of_ble_eq_true rfl, Nat.le_of_ble_eq_true rfl⟩ rfl rfl (Nat.le_of_ble_eq_true rfl) ?_
          rintro iv lv hG
          refine z_forget zh [true, true, true, true, true, true, true, true, true, false, false] (L2 := [some (rf g h), some (.int a1), some (.int a2), some (.int a3), some (rf g (h + 17)), some (rf g (h + 60 + 20 * j1)), some (.int x2), some (.int x11), some (.int x13), none, none]) rfl ?_
          exact J176 iv lv hG
  exact J17 13 iv lv (nI 0) hG (ra_w rl_0 (by decide) (by decide)) (ms_u0 rl_0 (by decide))
set_option maxRecDepth 20000 in
theorem s_X5_closeDue (g : GE) {σ : Iv} {iv : Iv} {lv : Lv} {h : Nat} {a1 : Int32} (hh : isH h) (ha1 : Ra 0 5 a1) (hG : SI spc σ iv)  : ConV g yX5_closeDue cX5_closeDue 5 none 5 [rf g h, .int a1] iv lv (fun iv lv => SI spc σ iv) := by
  refine con_intro (own := "RollingNets$Notices") (by decide +kernel) rfl (Nat.le_of_ble_eq_true rfl) (L0 := [some (rf g h), some (.int a1), none, none, none]) rfl (fun Z zh => ?_)
  refine z_aloadnR zh dX5_closeDue_0 rfl ?_
  refine z_getf zh fl_Notices_9 dX5_closeDue_1 (ck_H hh) rfl rfl ?_
  refine z_astoren zh dX5_closeDue_4 (by decide) (L' := [some (rf g h), some (.int a1), some (rf g (h + 17)), none, none]) rfl ?_
  refine z_iconst zh dX5_closeDue_5 ki_0 ?_
  refine z_istoren zh dX5_closeDue_6 (by decide) (L' := [some (rf g h), some (.int a1), some (rf g (h + 17)), some (.int (nI 0)), none]) rfl ?_
  have J7 : ∀ (n : Nat) (iv : Iv) (lv : Lv) (x1 : Int32), SI spc σ iv → Ra 0 60 x1 → 60 - x1.toInt < (n : Int) → Z 7 [some (rf g h), some (.int a1), some (rf g (h + 17)), some (.int x1), none] [] iv lv := by
    intro n
    induction n with
    | zero => intro iv lv x1 hG hx1 hn7; exact (ms_uz hx1 hn7).elim
    | succ n ih7 =>
      intro iv lv x1 hG hx1 hn7
      refine z_iloadn zh dX5_closeDue_7 rfl ?_
      refine z_aloadnR zh dX5_closeDue_8 rfl ?_
      obtain ⟨x2, ex2⟩ : ∃ z, iv (h + 17) 2 = z := ⟨_, rfl⟩
      have hx2 : Ra 0 60 x2 := ra_of ex2 (si_T hG (isT_n hh))
      have es3 := (si_s hG ((spc_H hh (r := 17) (by decide)).trans rfl)).symm.trans ex2
      refine z_callVIp zh mv_Notices_15 dX5_closeDue_9 (ck_T (isT_n hh)) rfl (s_X7_size g (isT_n hh) ex2) ⟨Nat.le_of_ble_eq_true rfl, Nat.le_of_ble_eq_true rfl⟩ rfl rfl (Nat.le_of_ble_eq_true rfl) ?_
      refine z_icmp_ge (tgt := 105) zh dX5_closeDue_12 rfl (fun q4 => ?_) (fun q4 => ?_)
      · exact z_vret zh dX5_closeDue_105 ⟨rfl, hG⟩
      · have r5 : Ra 0 59 x1 := rb_lt_l hx2 hx1 (rb_nle q4) (by decide)
        have r6 : Ra 1 60 x2 := rb_lt_r hx1 hx2 (rb_nle q4) (by decide)
        refine z_aloadnR zh dX5_closeDue_15 rfl ?_
        refine z_iloadn zh dX5_closeDue_16 rfl ?_
        refine z_iloadn zh dX5_closeDue_17 rfl ?_
        refine z_callVI zh mv_Notices_21 dX5_closeDue_18 (ck_H hh) rfl (s_X1_isOpenNotice g hh r5 ha1 hG) ⟨Nat.le_of_ble_eq_true rfl, Nat.le_of_ble_eq_true rfl⟩ rfl rfl (Nat.le_of_ble_eq_true rfl) ?_
        rintro x7 _ _ ⟨rfl, rfl, hx7⟩
        have J99 : ∀ (iv : Iv) (lv : Lv), SI spc σ iv → Z 99 [some (rf g h), some (.int a1), some (rf g (h + 17)), some (.int x1), none] [] iv lv := by
          intro iv lv hG
          refine y_iinc (L' := fun z => [some (rf g h), some (.int a1), some (rf g (h + 17)), some (.int z), none]) zh dX5_closeDue_99 (by decide) rfl (by decide +kernel) r5 (u := 1) (v := 60) rfl rfl (by decide) (by decide) (fun _ => rfl) (fun x8 hc8 hx8 => ?_)
          refine z_goto (tgt := 7) zh dX5_closeDue_102 rfl ?_
          exact ih7 iv lv x8 hG (ra_w hx8 (by decide) (by decide)) (ms_up hc8 (by decide) hn7)
        refine z_if_eq (tgt := 99) zh dX5_closeDue_21 rfl (fun q9 => ?_) (fun q9 => ?_)
        · have r10 := rb_eq (u := 0) (v := 0) hx7 ra_z q9 (by decide) (by decide)
          exact J99 iv lv hG
        · have r11 : Ra 1 1 x7 := rb_ne_lo hx7 ra_z q9 (by decide)
          refine z_aloadnR zh dX5_closeDue_24 rfl ?_
          refine z_iconst zh dX5_closeDue_25 ki_3 ?_
          refine z_iloadn zh dX5_closeDue_26 rfl ?_
          refine z_callVI zh mv_Notices_25 dX5_closeDue_27 (ck_T (isT_n hh)) rfl (s_X7_get g (isT_n hh) ex2 hx2) ⟨Nat.le_of_ble_eq_true rfl, Nat.le_of_ble_eq_true rfl⟩ rfl rfl (Nat.le_of_ble_eq_true rfl) ?_
          rintro x12 _ _ ⟨rfl, rfl, gx12⟩
          refine z_aloadnR zh dX5_closeDue_30 rfl ?_
          refine y_getI zh fl_Notices_78 dX5_closeDue_31 (ck_H hh) rfl rfl (fun x13 ex13 => ?_)
          have hx13 : Ra 0 99 x13 := ra_of ex13 (si_H hG hh 0 (by decide) rfl)
          refine z_icmp_gt (tgt := 99) zh dX5_closeDue_34 rfl (fun q14 => ?_) (fun q14 => ?_)
          · have r15 : Ra 1 2147483647 x12 := rb_lt_r hx13 (ra_tt x12) q14 (by decide)
            exact J99 iv lv hG
          · have r16 : Ra (-2147483648) 99 x12 := rb_le_l hx13 (ra_tt x12) (rb_nlt q14) (by decide)
            refine z_aloadnR zh dX5_closeDue_37 rfl ?_
            refine z_iconst zh dX5_closeDue_38 ki_0 ?_
            refine z_iloadn zh dX5_closeDue_39 rfl ?_
            refine z_callVI zh mv_Notices_25 dX5_closeDue_40 (ck_T (isT_n hh)) rfl (s_X7_get g (isT_n hh) ex2 hx2) ⟨Nat.le_of_ble_eq_true rfl, Nat.le_of_ble_eq_true rfl⟩ rfl rfl (Nat.le_of_ble_eq_true rfl) ?_
            rintro x17 _ _ ⟨rfl, rfl, gx17⟩
            have hx17 : Ra 0 11 x17 := get_in gx17 0 rfl (by decide) (by decide) ⟨Int.le_trans (by decide) r5.1, ltI.mp (rb_nle q4)⟩ (fun j => si_H hG hh 19 (by decide) rfl)
            refine z_istore zh dX5_closeDue_43 (by decide) (L' := [some (rf g h), some (.int a1), some (rf g (h + 17)), some (.int x1), some (.int x17)]) rfl ?_
            refine z_aloadnR zh dX5_closeDue_45 rfl ?_
            refine z_iload zh dX5_closeDue_46 rfl ?_
            refine z_callVI zh mv_Notices_29 dX5_closeDue_48 (ck_H hh) rfl (s_X1_hasMember g hh hG) ⟨Nat.le_of_ble_eq_true rfl, Nat.le_of_ble_eq_true rfl⟩ rfl rfl (Nat.le_of_ble_eq_true rfl) ?_
            rintro x18 _ _ ⟨rfl, rfl, hx18, hz19⟩
            have J92 : ∀ (iv : Iv) (lv : Lv), SI spc σ iv → Z 92 [some (rf g h), some (.int a1), some (rf g (h + 17)), some (.int x1), some (.int x17)] [] iv lv := by
              intro iv lv hG
              refine z_aloadnR zh dX5_closeDue_92 rfl ?_
              refine z_iconst zh dX5_closeDue_93 ki_4 ?_
              refine z_iloadn zh dX5_closeDue_94 rfl ?_
              refine z_iconst zh dX5_closeDue_95 ki_0 ?_
              refine z_callVV zh mv_Notices_64 dX5_closeDue_96 (ck_T (isT_n hh)) rfl (s_X7_put g (isT_n hh) hG (pn_f hG hh rl_4 (by decide))) ⟨Nat.le_of_ble_eq_true rfl, Nat.le_of_ble_eq_true rfl⟩ rfl rfl (Nat.le_of_ble_eq_true rfl) ?_
              rintro iv lv hG
              refine z_forget zh [true, true, true, true, false] (L2 := [some (rf g h), some (.int a1), some (rf g (h + 17)), some (.int x1), none]) rfl ?_
              exact J99 iv lv hG
            have J75 : ∀ (iv : Iv) (lv : Lv), SI spc σ iv → Z 75 [some (rf g h), some (.int a1), some (rf g (h + 17)), some (.int x1), some (.int x17)] [] iv lv := by
              intro iv lv hG
              refine z_aloadnR zh dX5_closeDue_75 rfl ?_
              refine z_iload zh dX5_closeDue_76 rfl ?_
              refine z_callVI zh mv_Notices_29 dX5_closeDue_78 (ck_H hh) rfl (s_X1_hasMember g hh hG) ⟨Nat.le_of_ble_eq_true rfl, Nat.le_of_ble_eq_true rfl⟩ rfl rfl (Nat.le_of_ble_eq_true rfl) ?_
              rintro x20 _ _ ⟨rfl, rfl, hx20, hz21⟩
              refine z_if_eq (tgt := 92) zh dX5_closeDue_81 rfl (fun q22 => ?_) (fun q22 => ?_)
              · have r23 := rb_eq (u := 0) (v := 0) hx20 ra_z q22 (by decide) (by decide)
                exact J92 iv lv hG
              · have r24 : Ra 1 1 x20 := rb_ne_lo hx20 ra_z q22 (by decide)
                refine z_aloadnR zh dX5_closeDue_84 rfl ?_
                refine z_iloadn zh dX5_closeDue_85 rfl ?_
                refine z_iload zh dX5_closeDue_86 rfl ?_
                refine z_iloadn zh dX5_closeDue_88 rfl ?_
                refine z_callSV zh ms_Notices_117 dX5_closeDue_89 (s_X5_closeApart g hh ha1 hx17 r5 hG) ⟨Nat.le_of_ble_eq_true rfl, Nat.le_of_ble_eq_true rfl⟩ rfl rfl (Nat.le_of_ble_eq_true rfl) ?_
                rintro iv lv hG
                exact J92 iv lv hG
            refine z_if_eq (tgt := 75) zh dX5_closeDue_51 rfl (fun q25 => ?_) (fun q25 => ?_)
            · have r26 := rb_eq (u := 0) (v := 0) hx18 ra_z q25 (by decide) (by decide)
              exact J75 iv lv hG
            · have r27 : Ra 1 1 x18 := rb_ne_lo hx18 ra_z q25 (by decide)
              refine z_aloadnR zh dX5_closeDue_54 rfl ?_
              refine z_iconst zh dX5_closeDue_55 ki_5 ?_
              refine z_iloadn zh dX5_closeDue_56 rfl ?_
              refine z_callVI zh mv_Notices_25 dX5_closeDue_57 (ck_T (isT_n hh)) rfl (s_X7_get g (isT_n hh) ex2 hx2) ⟨Nat.le_of_ble_eq_true rfl, Nat.le_of_ble_eq_true rfl⟩ rfl rfl (Nat.le_of_ble_eq_true rfl) ?_
              rintro x28 _ _ ⟨rfl, rfl, gx28⟩
              refine z_iconst zh dX5_closeDue_60 ki_m1 ?_
              refine z_icmp_ne (tgt := 75) zh dX5_closeDue_61 rfl (fun q29 => ?_) (fun q29 => ?_)
              · exact J75 iv lv hG
              · have r30 := rb_eq (u := (-1)) (v := (-1)) (ra_tt x28) rl_n1 q29 (by decide) (by decide)
                refine z_aloadnR zh dX5_closeDue_64 rfl ?_
                refine z_iloadn zh dX5_closeDue_65 rfl ?_
                refine z_iload zh dX5_closeDue_66 rfl ?_
                refine z_iloadn zh dX5_closeDue_68 rfl ?_
                refine z_callSV zh ms_Notices_113 dX5_closeDue_69 (s_X5_closeNet g hh ha1 hx17 r5 hG) ⟨Nat.le_of_ble_eq_true rfl, Nat.le_of_ble_eq_true rfl⟩ rfl rfl (Nat.le_of_ble_eq_true rfl) ?_
                rintro iv lv hG
                refine z_goto (tgt := 92) zh dX5_closeDue_72 rfl ?_
                exact J92 iv lv hG
  exact J7 61 iv lv (nI 0) hG (ra_w rl_0 (by decide) (by decide)) (ms_u0 rl_0 (by decide))
set_option maxRecDepth 20000 in
theorem s_X5_addNotice (g : GE) {sp : Nat → Nat → Bool} {σ : Iv} {iv : Iv} {lv : Lv} {h : Nat} {a1 : Int32} {a2 : Int32} {a3 : Int32} {a4 : Int32} (hh : isH h) (ha1 : Ra 0 11 a1) (hG : SI sp σ iv) (hq : Sq sp) : ConI g yX5_addNotice cX5_addNotice 7 (some .int) 3 [rf g h, .int a1, .int a2, .int a3, .int a4] iv lv (fun r iv lv => SI sp σ iv ∧ Ra (-1) 59 r) := by
  refine con_intro (own := "RollingNets$Notices") (by decide +kernel) rfl (Nat.le_of_ble_eq_true rfl) (L0 := [some (rf g h), some (.int a1), some (.int a2), some (.int a3), some (.int a4), none, none]) rfl (fun Z zh => ?_)
  refine z_aloadnR zh dX5_addNotice_0 rfl ?_
  refine z_getf zh fl_Notices_9 dX5_addNotice_1 (ck_H hh) rfl rfl ?_
  refine z_astore zh dX5_addNotice_4 (by decide) (L' := [some (rf g h), some (.int a1), some (.int a2), some (.int a3), some (.int a4), some (rf g (h + 17)), none]) rfl ?_
  refine z_aloadR zh dX5_addNotice_6 rfl ?_
  refine z_callVI zh mv_Notices_103 dX5_addNotice_8 (ck_T (isT_n hh)) rfl (s_X7_addRow g (isT_n hh) hG (ar_n hG hq hh).1 (ar_n hG hq hh).2) ⟨Nat.le_of_ble_eq_true rfl, Nat.le_of_ble_eq_true rfl⟩ rfl rfl (Nat.le_of_ble_eq_true rfl) ?_
  rintro x1 iv lv ⟨hG, hx1⟩
  refine z_istore zh dX5_addNotice_11 (by decide) (L' := [some (rf g h), some (.int a1), some (.int a2), some (.int a3), some (.int a4), some (rf g (h + 17)), some (.int x1)]) rfl ?_
  refine z_aloadR zh dX5_addNotice_13 rfl ?_
  refine z_iconst zh dX5_addNotice_15 ki_0 ?_
  refine z_iload zh dX5_addNotice_16 rfl ?_
  refine z_iloadn zh dX5_addNotice_18 rfl ?_
  refine z_callVV zh mv_Notices_64 dX5_addNotice_19 (ck_T (isT_n hh)) rfl (s_X7_put g (isT_n hh) hG (pn_r hG hh rl_0 (by decide) ha1)) ⟨Nat.le_of_ble_eq_true rfl, Nat.le_of_ble_eq_true rfl⟩ rfl rfl (Nat.le_of_ble_eq_true rfl) ?_
  rintro iv lv hG
  refine z_aloadR zh dX5_addNotice_22 rfl ?_
  refine z_iconst zh dX5_addNotice_24 ki_1 ?_
  refine z_iload zh dX5_addNotice_25 rfl ?_
  refine z_iloadn zh dX5_addNotice_27 rfl ?_
  refine z_callVV zh mv_Notices_64 dX5_addNotice_28 (ck_T (isT_n hh)) rfl (s_X7_put g (isT_n hh) hG (pn_f hG hh rl_1 (by decide))) ⟨Nat.le_of_ble_eq_true rfl, Nat.le_of_ble_eq_true rfl⟩ rfl rfl (Nat.le_of_ble_eq_true rfl) ?_
  rintro iv lv hG
  refine z_aloadR zh dX5_addNotice_31 rfl ?_
  refine z_iconst zh dX5_addNotice_33 ki_2 ?_
  refine z_iload zh dX5_addNotice_34 rfl ?_
  refine z_iloadn zh dX5_addNotice_36 rfl ?_
  refine z_callVV zh mv_Notices_64 dX5_addNotice_37 (ck_T (isT_n hh)) rfl (s_X7_put g (isT_n hh) hG (pn_f hG hh rl_2 (by decide))) ⟨Nat.le_of_ble_eq_true rfl, Nat.le_of_ble_eq_true rfl⟩ rfl rfl (Nat.le_of_ble_eq_true rfl) ?_
  rintro iv lv hG
  refine z_aloadR zh dX5_addNotice_40 rfl ?_
  refine z_iconst zh dX5_addNotice_42 ki_3 ?_
  refine z_iload zh dX5_addNotice_43 rfl ?_
  refine z_aloadnR zh dX5_addNotice_45 rfl ?_
  refine y_getI zh fl_Notices_78 dX5_addNotice_46 (ck_H hh) rfl rfl (fun x2 ex2 => ?_)
  have hx2 : Ra 0 99 x2 := ra_of ex2 (si_H hG hh 0 (by decide) rfl)
  refine z_aloadnR zh dX5_addNotice_49 rfl ?_
  refine z_getf zh fl_Notices_81 dX5_addNotice_50 (ck_H hh) rfl rfl ?_
  refine z_iconst zh dX5_addNotice_53 ki_4 ?_
  refine y_ialdN zh (ck_told hh) dX5_addNotice_54 (by decide) (fun x3 ex3 => ?_)
  refine y_iaddT zh dX5_addNotice_55 (fun x4 => ?_)
  refine z_callVV zh mv_Notices_64 dX5_addNotice_56 (ck_T (isT_n hh)) rfl (s_X7_put g (isT_n hh) hG (pn_f hG hh rl_3 (by decide))) ⟨Nat.le_of_ble_eq_true rfl, Nat.le_of_ble_eq_true rfl⟩ rfl rfl (Nat.le_of_ble_eq_true rfl) ?_
  rintro iv lv hG
  refine z_aloadR zh dX5_addNotice_59 rfl ?_
  refine z_iconst zh dX5_addNotice_61 ki_4 ?_
  refine z_iload zh dX5_addNotice_62 rfl ?_
  refine z_iconst zh dX5_addNotice_64 ki_1 ?_
  refine z_callVV zh mv_Notices_64 dX5_addNotice_65 (ck_T (isT_n hh)) rfl (s_X7_put g (isT_n hh) hG (pn_f hG hh rl_4 (by decide))) ⟨Nat.le_of_ble_eq_true rfl, Nat.le_of_ble_eq_true rfl⟩ rfl rfl (Nat.le_of_ble_eq_true rfl) ?_
  rintro iv lv hG
  refine z_aloadR zh dX5_addNotice_68 rfl ?_
  refine z_iconst zh dX5_addNotice_70 ki_5 ?_
  refine z_iload zh dX5_addNotice_71 rfl ?_
  refine z_iload zh dX5_addNotice_73 rfl ?_
  refine z_callVV zh mv_Notices_64 dX5_addNotice_75 (ck_T (isT_n hh)) rfl (s_X7_put g (isT_n hh) hG (pn_f hG hh rl_5 (by decide))) ⟨Nat.le_of_ble_eq_true rfl, Nat.le_of_ble_eq_true rfl⟩ rfl rfl (Nat.le_of_ble_eq_true rfl) ?_
  rintro iv lv hG
  refine z_iload zh dX5_addNotice_78 rfl ?_
  exact z_iret zh dX5_addNotice_80 ⟨_, rfl, hG, hx1⟩
set_option maxRecDepth 20000 in
theorem s_X5_agedLong (g : GE) {sp : Nat → Nat → Bool} {σ : Iv} {iv : Iv} {lv : Lv} {h : Nat} {a1 : Int32} {a2 : Int32} (hh : isH h) (ha1 : Ra 0 11 a1) (ha2 : Ra 0 5 a2) (hG : SI sp σ iv)  : ConI g yX5_agedLong cX5_agedLong 7 (some .int) 1 [rf g h, .int a1, .int a2] iv lv (fun r iv' lv' => iv = iv' ∧ lv = lv' ∧ True) := by
  refine con_intro (own := "RollingNets$Notices") (by decide +kernel) rfl (Nat.le_of_ble_eq_true rfl) (L0 := [some (rf g h), some (.int a1), some (.int a2), none, none, none, none]) rfl (fun Z zh => ?_)
  refine z_aloadnR zh dX5_agedLong_0 rfl ?_
  refine z_getf zh fl_Notices_68 dX5_agedLong_1 (ck_H hh) rfl rfl ?_
  refine z_iloadn zh dX5_agedLong_4 rfl ?_
  refine y_mald zh (ck_markets hh) dX5_agedLong_5 ha2 (by decide) (by decide) (fun j1 hj1 _ _ => ?_)
  refine z_astoren zh dX5_agedLong_6 (by decide) (L' := [some (rf g h), some (.int a1), some (.int a2), some (rf g (h + 60 + 20 * j1)), none, none, none]) rfl ?_
  refine z_aloadnR zh dX5_agedLong_7 rfl ?_
  refine y_getI zh fl_Notices_72 dX5_agedLong_8 (ck_M (isM_of hh hj1)) rfl rfl (fun x2 ex2 => ?_)
  have hx2 : Ra 0 100 x2 := ra_of ex2 (si_M hG (isM_of hh hj1) 0 (by decide) rfl)
  refine z_aloadnR zh dX5_agedLong_11 rfl ?_
  refine y_getI zh fl_Notices_78 dX5_agedLong_12 (ck_H hh) rfl rfl (fun x3 ex3 => ?_)
  have hx3 : Ra 0 99 x3 := ra_of ex3 (si_H hG hh 0 (by decide) rfl)
  refine z_aloadnR zh dX5_agedLong_15 rfl ?_
  refine z_getf zh fl_Notices_81 dX5_agedLong_16 (ck_H hh) rfl rfl ?_
  refine z_iconst zh dX5_agedLong_19 ki_3 ?_
  refine y_ialdN zh (ck_told hh) dX5_agedLong_20 (by decide) (fun x4 ex4 => ?_)
  refine y_isubT zh dX5_agedLong_21 (fun x5 => ?_)
  refine z_iconst zh dX5_agedLong_22 ki_1 ?_
  refine y_iaddT zh dX5_agedLong_23 (fun x6 => ?_)
  refine y_mmin zh ma_Notices_84 mc_min dX5_agedLong_24 ⟨Nat.le_of_ble_eq_true rfl, Nat.le_of_ble_eq_true rfl⟩ hx2 (ra_tt x6) (u := (-2147483648)) (v := 100) (by decide) (by decide) (Or.inl (by decide)) (fun x7 hx7 => ?_)
  refine z_istore zh dX5_agedLong_27 (by decide) (L' := [some (rf g h), some (.int a1), some (.int a2), some (rf g (h + 60 + 20 * j1)), some (.int x7), none, none]) rfl ?_
  refine z_iconst zh dX5_agedLong_29 ki_0 ?_
  refine z_istore zh dX5_agedLong_30 (by decide) (L' := [some (rf g h), some (.int a1), some (.int a2), some (rf g (h + 60 + 20 * j1)), some (.int x7), some (.int (nI 0)), none]) rfl ?_
  refine z_iconst zh dX5_agedLong_32 ki_0 ?_
  refine z_istore zh dX5_agedLong_33 (by decide) (L' := [some (rf g h), some (.int a1), some (.int a2), some (rf g (h + 60 + 20 * j1)), some (.int x7), some (.int (nI 0)), some (.int (nI 0))]) rfl ?_
  have J35 : ∀ (n : Nat) (x8 : Int32) (x9 : Int32), Ra 0 100 x9 → 100 - x9.toInt < (n : Int) → Z 35 [some (rf g h), some (.int a1), some (.int a2), some (rf g (h + 60 + 20 * j1)), some (.int x7), some (.int x8), some (.int x9)] [] iv lv := by
    intro n
    induction n with
    | zero => intro x8 x9 hx9 hn35; exact (ms_uz hx9 hn35).elim
    | succ n ih35 =>
      intro x8 x9 hx9 hn35
      refine z_iload zh dX5_agedLong_35 rfl ?_
      refine z_iload zh dX5_agedLong_37 rfl ?_
      refine z_icmp_ge (tgt := 66) zh dX5_agedLong_39 rfl (fun q10 => ?_) (fun q10 => ?_)
      · refine z_iload zh dX5_agedLong_66 rfl ?_
        exact z_iret zh dX5_agedLong_68 ⟨_, rfl, rfl, rfl, trivial⟩
      · have r11 : Ra 0 99 x9 := rb_lt_l hx7 hx9 (rb_nle q10) (by decide)
        have r12 : Ra 1 100 x7 := rb_lt_r hx9 hx7 (rb_nle q10) (by decide)
        refine z_iload zh dX5_agedLong_42 rfl ?_
        refine z_iconst zh dX5_agedLong_44 ki_0 ?_
        refine z_aloadnR zh dX5_agedLong_45 rfl ?_
        refine z_getf zh fl_Notices_89 dX5_agedLong_46 (ck_M (isM_of hh hj1)) rfl rfl ?_
        refine z_iloadn zh dX5_agedLong_49 rfl ?_
        refine y_gald zh (ck_lots (isM_of hh hj1)) dX5_agedLong_50 ha1 (by decide) (by decide) (fun j13 hj13 _ _ => ?_)
        refine z_iload zh dX5_agedLong_51 rfl ?_
        refine y_iald zh (ck_row (isM_of hh hj1) hj13) dX5_agedLong_53 r11 (by decide) (by decide) (fun x14 ex14 => ?_)
        refine y_mmax zh ma_Notices_93 mc_max dX5_agedLong_54 ⟨Nat.le_of_ble_eq_true rfl, Nat.le_of_ble_eq_true rfl⟩ rl_0 (ra_tt x14) (u := 0) (v := 2147483647) (Or.inl (by decide)) (by decide) (by decide) (fun x15 hx15 => ?_)
        refine y_iaddT zh dX5_agedLong_57 (fun x16 => ?_)
        refine z_istore zh dX5_agedLong_58 (by decide) (L' := [some (rf g h), some (.int a1), some (.int a2), some (rf g (h + 60 + 20 * j1)), some (.int x7), some (.int x16), some (.int x9)]) rfl ?_
        refine y_iinc (L' := fun z => [some (rf g h), some (.int a1), some (.int a2), some (rf g (h + 60 + 20 * j1)), some (.int x7), some (.int x16), some (.int z)]) zh dX5_agedLong_60 (by decide) rfl (by decide +kernel) r11 (u := 1) (v := 100) rfl rfl (by decide) (by decide) (fun _ => rfl) (fun x17 hc17 hx17 => ?_)
        refine z_goto (tgt := 35) zh dX5_agedLong_63 rfl ?_
        exact ih35 x16 x17 (ra_w hx17 (by decide) (by decide)) (ms_up hc17 (by decide) hn35)
  exact J35 101 (nI 0) (nI 0) (ra_w rl_0 (by decide) (by decide)) (ms_u0 rl_0 (by decide))
set_option maxRecDepth 20000 in
theorem s_X5_assignedTo (g : GE) {sp : Nat → Nat → Bool} {σ : Iv} {iv : Iv} {lv : Lv} {h : Nat} {a1 : Int32} {a2 : Int32} (hh : isH h) (ha1 : Ra 0 5 a1) (ha2 : Ra 0 11 a2) (hG : SI sp σ iv)  : ConI g yX5_assignedTo cX5_assignedTo 5 (some .int) 3 [rf g h, .int a1, .int a2] iv lv (fun r iv' lv' => iv = iv' ∧ lv = lv' ∧ True) := by
  refine con_intro (own := "RollingNets$Notices") (by decide +kernel) rfl (Nat.le_of_ble_eq_true rfl) (L0 := [some (rf g h), some (.int a1), some (.int a2), none, none]) rfl (fun Z zh => ?_)
  refine z_iconst zh dX5_assignedTo_0 ki_0 ?_
  refine z_istoren zh dX5_assignedTo_1 (by decide) (L' := [some (rf g h), some (.int a1), some (.int a2), some (.int (nI 0)), none]) rfl ?_
  refine z_iconst zh dX5_assignedTo_2 ki_0 ?_
  refine z_istore zh dX5_assignedTo_3 (by decide) (L' := [some (rf g h), some (.int a1), some (.int a2), some (.int (nI 0)), some (.int (nI 0))]) rfl ?_
  have J5 : ∀ (n : Nat) (x1 : Int32) (x2 : Int32), Ra 0 60 x2 → 60 - x2.toInt < (n : Int) → Z 5 [some (rf g h), some (.int a1), some (.int a2), some (.int x1), some (.int x2)] [] iv lv := by
    intro n
    induction n with
    | zero => intro x1 x2 hx2 hn5; exact (ms_uz hx2 hn5).elim
    | succ n ih5 =>
      intro x1 x2 hx2 hn5
      refine z_iload zh dX5_assignedTo_5 rfl ?_
      refine z_aloadnR zh dX5_assignedTo_7 rfl ?_
      refine z_getf zh fl_Notices_9 dX5_assignedTo_8 (ck_H hh) rfl rfl ?_
      obtain ⟨x3, ex3⟩ : ∃ z, iv (h + 17) 2 = z := ⟨_, rfl⟩
      have hx3 : Ra 0 60 x3 := ra_of ex3 (si_T hG (isT_n hh))
      refine z_callVIp zh mv_Notices_15 dX5_assignedTo_11 (ck_T (isT_n hh)) rfl (s_X7_size g (isT_n hh) ex3) ⟨Nat.le_of_ble_eq_true rfl, Nat.le_of_ble_eq_true rfl⟩ rfl rfl (Nat.le_of_ble_eq_true rfl) ?_
      refine z_icmp_ge (tgt := 49) zh dX5_assignedTo_14 rfl (fun q4 => ?_) (fun q4 => ?_)
      · refine z_iloadn zh dX5_assignedTo_49 rfl ?_
        exact z_iret zh dX5_assignedTo_50 ⟨_, rfl, rfl, rfl, trivial⟩
      · have r5 : Ra 0 59 x2 := rb_lt_l hx3 hx2 (rb_nle q4) (by decide)
        have r6 : Ra 1 60 x3 := rb_lt_r hx2 hx3 (rb_nle q4) (by decide)
        refine z_aloadnR zh dX5_assignedTo_17 rfl ?_
        refine z_iload zh dX5_assignedTo_18 rfl ?_
        refine z_iloadn zh dX5_assignedTo_20 rfl ?_
        refine z_callVI zh mv_Notices_21 dX5_assignedTo_21 (ck_H hh) rfl (s_X1_isOpenNotice g hh r5 ha1 hG) ⟨Nat.le_of_ble_eq_true rfl, Nat.le_of_ble_eq_true rfl⟩ rfl rfl (Nat.le_of_ble_eq_true rfl) ?_
        rintro x7 _ _ ⟨rfl, rfl, hx7⟩
        have J43 : ∀ (x8 : Int32), Z 43 [some (rf g h), some (.int a1), some (.int a2), some (.int x8), some (.int x2)] [] iv lv := by
          intro x8
          refine y_iinc (L' := fun z => [some (rf g h), some (.int a1), some (.int a2), some (.int x8), some (.int z)]) zh dX5_assignedTo_43 (by decide) rfl (by decide +kernel) r5 (u := 1) (v := 60) rfl rfl (by decide) (by decide) (fun _ => rfl) (fun x9 hc9 hx9 => ?_)
          refine z_goto (tgt := 5) zh dX5_assignedTo_46 rfl ?_
          exact ih5 x8 x9 (ra_w hx9 (by decide) (by decide)) (ms_up hc9 (by decide) hn5)
        refine z_if_eq (tgt := 43) zh dX5_assignedTo_24 rfl (fun q10 => ?_) (fun q10 => ?_)
        · have r11 := rb_eq (u := 0) (v := 0) hx7 ra_z q10 (by decide) (by decide)
          exact J43 x1
        · have r12 : Ra 1 1 x7 := rb_ne_lo hx7 ra_z q10 (by decide)
          refine z_iloadn zh dX5_assignedTo_27 rfl ?_
          refine z_aloadnR zh dX5_assignedTo_28 rfl ?_
          refine z_getf zh fl_Notices_9 dX5_assignedTo_29 (ck_H hh) rfl rfl ?_
          refine z_bipush zh dX5_assignedTo_32 kb_7 ?_
          refine z_iloadn zh dX5_assignedTo_34 rfl ?_
          refine y_iadd zh dX5_assignedTo_35 rl_7 ha2 (u := 7) (v := 18) rfl rfl (by decide) (by decide) (fun x13 hc13 hx13 => ?_)
          refine z_iload zh dX5_assignedTo_36 rfl ?_
          refine z_callVI zh mv_Notices_25 dX5_assignedTo_38 (ck_T (isT_n hh)) rfl (s_X7_get g (isT_n hh) ex3 hx3) ⟨Nat.le_of_ble_eq_true rfl, Nat.le_of_ble_eq_true rfl⟩ rfl rfl (Nat.le_of_ble_eq_true rfl) ?_
          rintro x14 _ _ ⟨rfl, rfl, gx14⟩
          refine y_iaddT zh dX5_assignedTo_41 (fun x15 => ?_)
          refine z_istoren zh dX5_assignedTo_42 (by decide) (L' := [some (rf g h), some (.int a1), some (.int a2), some (.int x15), some (.int x2)]) rfl ?_
          exact J43 x15
  exact J5 61 (nI 0) (nI 0) (ra_w rl_0 (by decide) (by decide)) (ms_u0 rl_0 (by decide))
set_option maxRecDepth 20000 in
theorem s_X5_assign (g : GE) {sp : Nat → Nat → Bool} {σ : Iv} {iv : Iv} {lv : Lv} {h : Nat} {a1 : Int32} {a2 : Int32} (hh : isH h) (ha1 : Ra 0 5 a1) (ha2 : Ra 1 2147483647 a2) (hG : SI sp σ iv)  : ConI g yX5_assign cX5_assign 11 (some .int) 4 [rf g h, .int a1, .int a2] iv lv (fun r iv lv => SI sp σ iv ∧ True) := by
  refine con_intro (own := "RollingNets$Notices") (by decide +kernel) rfl (Nat.le_of_ble_eq_true rfl) (L0 := [some (rf g h), some (.int a1), some (.int a2), none, none, none, none, none, none, none, none]) rfl (fun Z zh => ?_)
  refine z_aloadnR zh dX5_assign_0 rfl ?_
  refine z_getf zh fl_Notices_68 dX5_assign_1 (ck_H hh) rfl rfl ?_
  refine z_iloadn zh dX5_assign_4 rfl ?_
  refine y_mald zh (ck_markets hh) dX5_assign_5 ha1 (by decide) (by decide) (fun j1 hj1 _ _ => ?_)
  refine z_astoren zh dX5_assign_6 (by decide) (L' := [some (rf g h), some (.int a1), some (.int a2), some (rf g (h + 60 + 20 * j1)), none, none, none, none, none, none, none]) rfl ?_
  refine z_aloadnR zh dX5_assign_7 rfl ?_
  refine z_getf zh fl_Notices_60 dX5_assign_8 (ck_H hh) rfl rfl ?_
  refine z_astore zh dX5_assign_11 (by decide) (L' := [some (rf g h), some (.int a1), some (.int a2), some (rf g (h + 60 + 20 * j1)), some (rf g (h + 59)), none, none, none, none, none, none]) rfl ?_
  refine z_iconst zh dX5_assign_13 ki_0 ?_
  refine z_istore zh dX5_assign_14 (by decide) (L' := [some (rf g h), some (.int a1), some (.int a2), some (rf g (h + 60 + 20 * j1)), some (rf g (h + 59)), some (.int (nI 0)), none, none, none, none, none]) rfl ?_
  have J16 : ∀ (n : Nat) (iv : Iv) (lv : Lv) (x2 : Int32), SI sp σ iv → Ra 0 12 x2 → 12 - x2.toInt < (n : Int) → Z 16 [some (rf g h), some (.int a1), some (.int a2), some (rf g (h + 60 + 20 * j1)), some (rf g (h + 59)), some (.int x2), none, none, none, none, none] [] iv lv := by
    intro n
    induction n with
    | zero => intro iv lv x2 hG hx2 hn16; exact (ms_uz hx2 hn16).elim
    | succ n ih16 =>
      intro iv lv x2 hG hx2 hn16
      refine z_iload zh dX5_assign_16 rfl ?_
      refine z_bipush zh dX5_assign_18 kb_12 ?_
      refine z_icmp_ge (tgt := 35) zh dX5_assign_20 rfl (fun q3 => ?_) (fun q3 => ?_)
      · have r4 : Ra 12 12 x2 := rb_le_r rl_12 hx2 q3 (by decide)
        refine z_iloadn zh dX5_assign_35 rfl ?_
        refine z_istore zh dX5_assign_36 (by decide) (L' := [some (rf g h), some (.int a1), some (.int a2), some (rf g (h + 60 + 20 * j1)), some (rf g (h + 59)), some (.int a2), none, none, none, none, none]) rfl ?_
        refine z_iconst zh dX5_assign_38 ki_0 ?_
        refine z_istore zh dX5_assign_39 (by decide) (L' := [some (rf g h), some (.int a1), some (.int a2), some (rf g (h + 60 + 20 * j1)), some (rf g (h + 59)), some (.int a2), some (.int (nI 0)), none, none, none, none]) rfl ?_
        have J41 : ∀ (n : Nat) (iv : Iv) (lv : Lv) (x5 : Int32) (x6 : Int32), SI sp σ iv → Ra (-2147483646) 2147483647 x5 → Ra 0 100 x6 → 100 - x6.toInt < (n : Int) → Z 41 [some (rf g h), some (.int a1), some (.int a2), some (rf g (h + 60 + 20 * j1)), some (rf g (h + 59)), some (.int x5), some (.int x6), none, none, none, none] [] iv lv := by
          intro n
          induction n with
          | zero => intro iv lv x5 x6 hG hx5 hx6 hn41; exact (ms_uz hx6 hn41).elim
          | succ n ih41 =>
            intro iv lv x5 x6 hG hx5 hx6 hn41
            refine z_iload zh dX5_assign_41 rfl ?_
            refine z_aloadnR zh dX5_assign_43 rfl ?_
            refine y_getI zh fl_Notices_72 dX5_assign_44 (ck_M (isM_of hh hj1)) rfl rfl (fun x7 ex7 => ?_)
            have hx7 : Ra 0 100 x7 := ra_of ex7 (si_M hG (isM_of hh hj1) 0 (by decide) rfl)
            refine z_icmp_ge (tgt := 154) zh dX5_assign_47 rfl (fun q8 => ?_) (fun q8 => ?_)
            · refine z_iloadn zh dX5_assign_154 rfl ?_
              refine z_iload zh dX5_assign_155 rfl ?_
              refine y_isubT zh dX5_assign_157 (fun x9 => ?_)
              exact z_iret zh dX5_assign_158 ⟨_, rfl, hG, trivial⟩
            · have r10 : Ra 0 99 x6 := rb_lt_l hx7 hx6 (rb_nle q8) (by decide)
              have r11 : Ra 1 100 x7 := rb_lt_r hx6 hx7 (rb_nle q8) (by decide)
              refine z_iconst zh dX5_assign_50 ki_0 ?_
              refine z_istore zh dX5_assign_51 (by decide) (L' := [some (rf g h), some (.int a1), some (.int a2), some (rf g (h + 60 + 20 * j1)), some (rf g (h + 59)), some (.int x5), some (.int x6), some (.int (nI 0)), none, none, none]) rfl ?_
              have J53 : ∀ (n : Nat) (iv : Iv) (lv : Lv) (x12 : Int32) (x13 : Int32), SI sp σ iv → Ra (-2147483646) 2147483647 x12 → Ra 0 12 x13 → 12 - x13.toInt < (n : Int) → Z 53 [some (rf g h), some (.int a1), some (.int a2), some (rf g (h + 60 + 20 * j1)), some (rf g (h + 59)), some (.int x12), some (.int x6), some (.int x13), none, none, none] [] iv lv := by
                intro n
                induction n with
                | zero => intro iv lv x12 x13 hG hx12 hx13 hn53; exact (ms_uz hx13 hn53).elim
                | succ n ih53 =>
                  intro iv lv x12 x13 hG hx12 hx13 hn53
                  refine z_iload zh dX5_assign_53 rfl ?_
                  refine z_aloadnR zh dX5_assign_55 rfl ?_
                  refine z_callVI zh mv_Notices_57 dX5_assign_56 (ck_H hh) rfl (s_X1_members g hh hG) ⟨Nat.le_of_ble_eq_true rfl, Nat.le_of_ble_eq_true rfl⟩ rfl rfl (Nat.le_of_ble_eq_true rfl) ?_
                  rintro x14 _ _ ⟨rfl, rfl, hx14⟩
                  refine z_icmp_ge (tgt := 148) zh dX5_assign_59 rfl (fun q15 => ?_) (fun q15 => ?_)
                  · have r16 : Ra 2 12 x13 := rb_le_r hx14 hx13 q15 (by decide)
                    refine y_iinc (L' := fun z => [some (rf g h), some (.int a1), some (.int a2), some (rf g (h + 60 + 20 * j1)), some (rf g (h + 59)), some (.int x12), some (.int z), some (.int x13), none, none, none]) zh dX5_assign_148 (by decide) rfl (by decide +kernel) r10 (u := 1) (v := 100) rfl rfl (by decide) (by decide) (fun _ => rfl) (fun x17 hc17 hx17 => ?_)
                    refine z_goto (tgt := 41) zh dX5_assign_151 rfl ?_
                    refine z_forget zh [true, true, true, true, true, true, true, false, false, false, false] (L2 := [some (rf g h), some (.int a1), some (.int a2), some (rf g (h + 60 + 20 * j1)), some (rf g (h + 59)), some (.int x12), some (.int x17), none, none, none, none]) rfl ?_
                    exact ih41 iv lv x12 x17 hG hx12 (ra_w hx17 (by decide) (by decide)) (ms_up hc17 (by decide) hn41)
                  · have r18 : Ra 0 11 x13 := rb_lt_l hx14 hx13 (rb_nle q15) (by decide)
                    refine z_aloadnR zh dX5_assign_62 rfl ?_
                    refine z_getf zh fl_Notices_89 dX5_assign_63 (ck_M (isM_of hh hj1)) rfl rfl ?_
                    refine z_iload zh dX5_assign_66 rfl ?_
                    refine y_gald zh (ck_lots (isM_of hh hj1)) dX5_assign_68 r18 (by decide) (by decide) (fun j19 hj19 _ _ => ?_)
                    refine z_iload zh dX5_assign_69 rfl ?_
                    refine y_iald zh (ck_row (isM_of hh hj1) hj19) dX5_assign_71 r10 (by decide) (by decide) (fun x20 ex20 => ?_)
                    refine y_inegT zh dX5_assign_72 (fun x21 => ?_)
                    refine z_istore zh dX5_assign_73 (by decide) (L' := [some (rf g h), some (.int a1), some (.int a2), some (rf g (h + 60 + 20 * j1)), some (rf g (h + 59)), some (.int x12), some (.int x6), some (.int x13), some (.int x21), none, none]) rfl ?_
                    refine z_iload zh dX5_assign_75 rfl ?_
                    have J142 : ∀ (iv : Iv) (lv : Lv) (x22 : Int32), SI sp σ iv → Ra (-2147483646) 2147483647 x22 → Z 142 [some (rf g h), some (.int a1), some (.int a2), some (rf g (h + 60 + 20 * j1)), some (rf g (h + 59)), some (.int x22), some (.int x6), some (.int x13), some (.int x21), none, none] [] iv lv := by
                      intro iv lv x22 hG hx22
                      refine y_iinc (L' := fun z => [some (rf g h), some (.int a1), some (.int a2), some (rf g (h + 60 + 20 * j1)), some (rf g (h + 59)), some (.int x22), some (.int x6), some (.int z), some (.int x21), none, none]) zh dX5_assign_142 (by decide) rfl (by decide +kernel) r18 (u := 1) (v := 12) rfl rfl (by decide) (by decide) (fun _ => rfl) (fun x23 hc23 hx23 => ?_)
                      refine z_goto (tgt := 53) zh dX5_assign_145 rfl ?_
                      refine z_forget zh [true, true, true, true, true, true, true, true, false, false, false] (L2 := [some (rf g h), some (.int a1), some (.int a2), some (rf g (h + 60 + 20 * j1)), some (rf g (h + 59)), some (.int x22), some (.int x6), some (.int x23), none, none, none]) rfl ?_
                      exact ih53 iv lv x22 x23 hG hx22 (ra_w hx23 (by decide) (by decide)) (ms_up hc23 (by decide) hn53)
                    refine z_if_le (tgt := 142) zh dX5_assign_77 rfl (fun q24 => ?_) (fun q24 => ?_)
                    · have r25 : Ra (-2147483648) 0 x21 := rb_le_l ra_z (ra_tt x21) q24 (by decide)
                      exact J142 iv lv x12 hG hx12
                    · have r26 : Ra 1 2147483647 x21 := rb_lt_r ra_z (ra_tt x21) (rb_nle q24) (by decide)
                      refine z_iload zh dX5_assign_80 rfl ?_
                      refine z_if_le (tgt := 142) zh dX5_assign_82 rfl (fun q27 => ?_) (fun q27 => ?_)
                      · have r28 : Ra (-2147483646) 0 x12 := rb_le_l ra_z hx12 q27 (by decide)
                        exact J142 iv lv x12 hG (ra_w r28 (by decide) (by decide))
                      · have r29 : Ra 1 2147483647 x12 := rb_lt_r ra_z hx12 (rb_nle q27) (by decide)
                        refine z_aloadnR zh dX5_assign_85 rfl ?_
                        refine z_iload zh dX5_assign_86 rfl ?_
                        refine z_callVI zh mv_Notices_96 dX5_assign_88 (ck_M (isM_of hh hj1)) rfl (s_X3_shortOf g (isM_of hh hj1) r18 hG) ⟨Nat.le_of_ble_eq_true rfl, Nat.le_of_ble_eq_true rfl⟩ rfl rfl (Nat.le_of_ble_eq_true rfl) ?_
                        rintro x30 _ _ ⟨rfl, rfl, hx30⟩
                        refine z_aloadnR zh dX5_assign_91 rfl ?_
                        refine z_iloadn zh dX5_assign_92 rfl ?_
                        refine z_iload zh dX5_assign_93 rfl ?_
                        refine z_callSI zh ms_Notices_100 dX5_assign_95 (s_X5_assignedTo g hh ha1 r18 hG) ⟨Nat.le_of_ble_eq_true rfl, Nat.le_of_ble_eq_true rfl⟩ rfl rfl (Nat.le_of_ble_eq_true rfl) ?_
                        rintro x31 _ _ ⟨rfl, rfl, _⟩
                        refine y_isubT zh dX5_assign_98 (fun x32 => ?_)
                        refine z_aloadR zh dX5_assign_99 rfl ?_
                        refine z_iload zh dX5_assign_101 rfl ?_
                        refine y_iald zh (ck_parts hh) dX5_assign_103 r18 (by decide) (by decide) (fun x33 ex33 => ?_)
                        refine y_isubT zh dX5_assign_104 (fun x34 => ?_)
                        refine z_istore zh dX5_assign_105 (by decide) (L' := [some (rf g h), some (.int a1), some (.int a2), some (rf g (h + 60 + 20 * j1)), some (rf g (h + 59)), some (.int x12), some (.int x6), some (.int x13), some (.int x21), some (.int x34), none]) rfl ?_
                        refine z_iconst zh dX5_assign_107 ki_0 ?_
                        refine z_iload zh dX5_assign_108 rfl ?_
                        refine z_iload zh dX5_assign_110 rfl ?_
                        refine z_iload zh dX5_assign_112 rfl ?_
                        refine y_mmin zh ma_Notices_84 mc_min dX5_assign_114 ⟨Nat.le_of_ble_eq_true rfl, Nat.le_of_ble_eq_true rfl⟩ r26 (ra_tt x34) (u := (-2147483648)) (v := 2147483647) (by decide) (by decide) (Or.inl (by decide)) (fun x35 hx35 => ?_)
                        refine y_mmin zh ma_Notices_84 mc_min dX5_assign_117 ⟨Nat.le_of_ble_eq_true rfl, Nat.le_of_ble_eq_true rfl⟩ r29 hx35 (u := (-2147483648)) (v := 2147483647) (by decide) (by decide) (Or.inl (by decide)) (fun x36 hx36 => ?_)
                        refine y_mmax zh ma_Notices_93 mc_max dX5_assign_120 ⟨Nat.le_of_ble_eq_true rfl, Nat.le_of_ble_eq_true rfl⟩ rl_0 hx36 (u := 0) (v := 2147483647) (Or.inl (by decide)) (by decide) (by decide) (fun x37 hx37 => ?_)
                        refine z_istore zh dX5_assign_123 (by decide) (L' := [some (rf g h), some (.int a1), some (.int a2), some (rf g (h + 60 + 20 * j1)), some (rf g (h + 59)), some (.int x12), some (.int x6), some (.int x13), some (.int x21), some (.int x34), some (.int x37)]) rfl ?_
                        refine z_aloadR zh dX5_assign_125 rfl ?_
                        refine z_iload zh dX5_assign_127 rfl ?_
                        refine z_dup2 zh dX5_assign_129 rfl rfl ?_
                        refine y_iald zh (ck_parts hh) dX5_assign_130 r18 (by decide) (by decide) (fun x38 ex38 => ?_)
                        refine z_iload zh dX5_assign_131 rfl ?_
                        refine y_iaddT zh dX5_assign_133 (fun x39 => ?_)
                        refine z_iast zh (ck_parts hh) dX5_assign_134 (ra_in r18 (by decide) (by decide)) ?_
                        have hG : SI sp σ (upI iv (h + 59) x13.toNatClampNeg x39) := si_wH hG hh 59 (by decide) rfl (rx_none rfl)
                        generalize upI iv (h + 59) x13.toNatClampNeg x39 = iv at hG  ⊢
                        refine z_iload zh dX5_assign_135 rfl ?_
                        refine z_iload zh dX5_assign_137 rfl ?_
                        refine y_isub zh dX5_assign_139 r29 hx37 (u := (-2147483646)) (v := 2147483647) rfl rfl (by decide) (by decide) (fun x40 hc40 hx40 => ?_)
                        refine z_istore zh dX5_assign_140 (by decide) (L' := [some (rf g h), some (.int a1), some (.int a2), some (rf g (h + 60 + 20 * j1)), some (rf g (h + 59)), some (.int x40), some (.int x6), some (.int x13), some (.int x21), some (.int x34), some (.int x37)]) rfl ?_
                        refine z_forget zh [true, true, true, true, true, true, true, true, true, false, false] (L2 := [some (rf g h), some (.int a1), some (.int a2), some (rf g (h + 60 + 20 * j1)), some (rf g (h + 59)), some (.int x40), some (.int x6), some (.int x13), some (.int x21), none, none]) rfl ?_
                        exact J142 iv lv x40 hG hx40
              exact J53 13 iv lv x5 (nI 0) hG hx5 (ra_w rl_0 (by decide) (by decide)) (ms_u0 rl_0 (by decide))
        exact J41 101 iv lv a2 (nI 0) hG (ra_w ha2 (by decide) (by decide)) (ra_w rl_0 (by decide) (by decide)) (ms_u0 rl_0 (by decide))
      · have r41 : Ra 0 11 x2 := rb_lt_l rl_12 hx2 (rb_nle q3) (by decide)
        refine z_aloadR zh dX5_assign_23 rfl ?_
        refine z_iload zh dX5_assign_25 rfl ?_
        refine z_iconst zh dX5_assign_27 ki_0 ?_
        refine z_iast zh (ck_parts hh) dX5_assign_28 (ra_in r41 (by decide) (by decide)) ?_
        have hG : SI sp σ (upI iv (h + 59) x2.toNatClampNeg (nI 0)) := si_wH hG hh 59 (by decide) rfl (rx_none rfl)
        generalize upI iv (h + 59) x2.toNatClampNeg (nI 0) = iv at hG  ⊢
        refine y_iinc (L' := fun z => [some (rf g h), some (.int a1), some (.int a2), some (rf g (h + 60 + 20 * j1)), some (rf g (h + 59)), some (.int z), none, none, none, none, none]) zh dX5_assign_29 (by decide) rfl (by decide +kernel) r41 (u := 1) (v := 12) rfl rfl (by decide) (by decide) (fun _ => rfl) (fun x42 hc42 hx42 => ?_)
        refine z_goto (tgt := 16) zh dX5_assign_32 rfl ?_
        exact ih16 iv lv x42 hG (ra_w hx42 (by decide) (by decide)) (ms_up hc42 (by decide) hn16)
  exact J16 13 iv lv (nI 0) hG (ra_w rl_0 (by decide) (by decide)) (ms_u0 rl_0 (by decide))
set_option maxRecDepth 20000 in
theorem s_X5_isCalled (g : GE) {sp : Nat → Nat → Bool} {σ : Iv} {iv : Iv} {lv : Lv} {h : Nat} {a1 : Int32} (hh : isH h) (hG : SI sp σ iv)  : ConI g yX5_isCalled cX5_isCalled 4 (some .boolean) 2 [rf g h, .int a1] iv lv (fun r iv' lv' => iv = iv' ∧ lv = lv' ∧ Ra 0 1 r) := by
  refine con_intro (own := "RollingNets$Notices") (by decide +kernel) rfl (Nat.le_of_ble_eq_true rfl) (L0 := [some (rf g h), some (.int a1), none, none]) rfl (fun Z zh => ?_)
  refine z_aloadnR zh dX5_isCalled_0 rfl ?_
  refine z_getf zh fl_Notices_9 dX5_isCalled_1 (ck_H hh) rfl rfl ?_
  refine z_astoren zh dX5_isCalled_4 (by decide) (L' := [some (rf g h), some (.int a1), some (rf g (h + 17)), none]) rfl ?_
  refine z_iconst zh dX5_isCalled_5 ki_0 ?_
  refine z_istoren zh dX5_isCalled_6 (by decide) (L' := [some (rf g h), some (.int a1), some (rf g (h + 17)), some (.int (nI 0))]) rfl ?_
  have J7 : ∀ (n : Nat) (x1 : Int32), Ra 0 60 x1 → 60 - x1.toInt < (n : Int) → Z 7 [some (rf g h), some (.int a1), some (rf g (h + 17)), some (.int x1)] [] iv lv := by
    intro n
    induction n with
    | zero => intro x1 hx1 hn7; exact (ms_uz hx1 hn7).elim
    | succ n ih7 =>
      intro x1 hx1 hn7
      refine z_iloadn zh dX5_isCalled_7 rfl ?_
      refine z_aloadnR zh dX5_isCalled_8 rfl ?_
      obtain ⟨x2, ex2⟩ : ∃ z, iv (h + 17) 2 = z := ⟨_, rfl⟩
      have hx2 : Ra 0 60 x2 := ra_of ex2 (si_T hG (isT_n hh))
      refine z_callVIp zh mv_Notices_15 dX5_isCalled_9 (ck_T (isT_n hh)) rfl (s_X7_size g (isT_n hh) ex2) ⟨Nat.le_of_ble_eq_true rfl, Nat.le_of_ble_eq_true rfl⟩ rfl rfl (Nat.le_of_ble_eq_true rfl) ?_
      refine z_icmp_ge (tgt := 43) zh dX5_isCalled_12 rfl (fun q3 => ?_) (fun q3 => ?_)
      · refine z_iconst zh dX5_isCalled_43 ki_0 ?_
        exact z_zret zh dX5_isCalled_44 (ra_01 (ra_w rl_0 (by decide) (by decide))) ⟨_, rfl, rfl, rfl, (ra_w rl_0 (by decide) (by decide))⟩
      · have r4 : Ra 0 59 x1 := rb_lt_l hx2 hx1 (rb_nle q3) (by decide)
        have r5 : Ra 1 60 x2 := rb_lt_r hx1 hx2 (rb_nle q3) (by decide)
        refine z_aloadnR zh dX5_isCalled_15 rfl ?_
        refine z_iconst zh dX5_isCalled_16 ki_4 ?_
        refine z_iloadn zh dX5_isCalled_17 rfl ?_
        refine z_callVI zh mv_Notices_25 dX5_isCalled_18 (ck_T (isT_n hh)) rfl (s_X7_get g (isT_n hh) ex2 hx2) ⟨Nat.le_of_ble_eq_true rfl, Nat.le_of_ble_eq_true rfl⟩ rfl rfl (Nat.le_of_ble_eq_true rfl) ?_
        rintro x6 _ _ ⟨rfl, rfl, gx6⟩
        refine z_iconst zh dX5_isCalled_21 ki_1 ?_
        have J37 : Z 37 [some (rf g h), some (.int a1), some (rf g (h + 17)), some (.int x1)] [] iv lv := by
          refine y_iinc (L' := fun z => [some (rf g h), some (.int a1), some (rf g (h + 17)), some (.int z)]) zh dX5_isCalled_37 (by decide) rfl (by decide +kernel) r4 (u := 1) (v := 60) rfl rfl (by decide) (by decide) (fun _ => rfl) (fun x7 hc7 hx7 => ?_)
          refine z_goto (tgt := 7) zh dX5_isCalled_40 rfl ?_
          exact ih7 x7 (ra_w hx7 (by decide) (by decide)) (ms_up hc7 (by decide) hn7)
        refine z_icmp_ne (tgt := 37) zh dX5_isCalled_22 rfl (fun q8 => ?_) (fun q8 => ?_)
        · exact J37
        · have r9 := rb_eq (u := 1) (v := 1) (ra_tt x6) rl_1 q8 (by decide) (by decide)
          refine z_aloadnR zh dX5_isCalled_25 rfl ?_
          refine z_iconst zh dX5_isCalled_26 ki_5 ?_
          refine z_iloadn zh dX5_isCalled_27 rfl ?_
          refine z_callVI zh mv_Notices_25 dX5_isCalled_28 (ck_T (isT_n hh)) rfl (s_X7_get g (isT_n hh) ex2 hx2) ⟨Nat.le_of_ble_eq_true rfl, Nat.le_of_ble_eq_true rfl⟩ rfl rfl (Nat.le_of_ble_eq_true rfl) ?_
          rintro x10 _ _ ⟨rfl, rfl, gx10⟩
          refine z_iloadn zh dX5_isCalled_31 rfl ?_
          refine z_icmp_ne (tgt := 37) zh dX5_isCalled_32 rfl (fun q11 => ?_) (fun q11 => ?_)
          · exact J37
          · refine z_iconst zh dX5_isCalled_35 ki_1 ?_
            exact z_zret zh dX5_isCalled_36 (ra_01 (ra_w rl_1 (by decide) (by decide))) ⟨_, rfl, rfl, rfl, (ra_w rl_1 (by decide) (by decide))⟩
  exact J7 61 (nI 0) (ra_w rl_0 (by decide) (by decide)) (ms_u0 rl_0 (by decide))
set_option maxRecDepth 20000 in
theorem s_X5_giveApart (g : GE) {sp : Nat → Nat → Bool} {σ : Iv} {iv : Iv} {lv : Lv} {h : Nat} {a1 : Int32} (hh : isH h) (hG : SI sp σ iv) (hq : Sq sp) : ConI g yX5_giveApart cX5_giveApart 4 (some .int) 4 [rf g h, .int a1] iv lv (fun r iv lv => SI sp σ iv ∧ Ra (-1) 59 r) := by
  refine con_intro (own := "RollingNets$Notices") (by decide +kernel) rfl (Nat.le_of_ble_eq_true rfl) (L0 := [some (rf g h), some (.int a1), none, none]) rfl (fun Z zh => ?_)
  refine z_aloadnR zh dX5_giveApart_0 rfl ?_
  refine z_getf zh fl_Notices_106 dX5_giveApart_1 (ck_H hh) rfl rfl ?_
  refine z_astoren zh dX5_giveApart_4 (by decide) (L' := [some (rf g h), some (.int a1), some (rf g (h + 7)), none]) rfl ?_
  refine z_aloadnR zh dX5_giveApart_5 rfl ?_
  refine z_bipush zh dX5_giveApart_6 kb_7 ?_
  refine z_iloadn zh dX5_giveApart_8 rfl ?_
  obtain ⟨x1, ex1⟩ : ∃ z, iv (h + 7) 2 = z := ⟨_, rfl⟩
  have hx1 : Ra 0 200 x1 := ra_of ex1 (si_T hG (isT_d hh))
  refine z_callVI zh mv_Notices_25 dX5_giveApart_9 (ck_T (isT_d hh)) rfl (s_X7_get g (isT_d hh) ex1 hx1) ⟨Nat.le_of_ble_eq_true rfl, Nat.le_of_ble_eq_true rfl⟩ rfl rfl (Nat.le_of_ble_eq_true rfl) ?_
  rintro x2 _ _ ⟨rfl, rfl, gx2⟩
  refine z_istoren zh dX5_giveApart_12 (by decide) (L' := [some (rf g h), some (.int a1), some (rf g (h + 7)), some (.int x2)]) rfl ?_
  refine z_aloadnR zh dX5_giveApart_13 rfl ?_
  refine z_iconst zh dX5_giveApart_14 ki_5 ?_
  refine z_iloadn zh dX5_giveApart_15 rfl ?_
  refine z_callVI zh mv_Notices_25 dX5_giveApart_16 (ck_T (isT_d hh)) rfl (s_X7_get g (isT_d hh) ex1 hx1) ⟨Nat.le_of_ble_eq_true rfl, Nat.le_of_ble_eq_true rfl⟩ rfl rfl (Nat.le_of_ble_eq_true rfl) ?_
  rintro x3 _ _ ⟨rfl, rfl, gx3⟩
  refine z_iconst zh dX5_giveApart_19 ki_1 ?_
  refine z_icmp_ne (tgt := 36) zh dX5_giveApart_20 rfl (fun q4 => ?_) (fun q4 => ?_)
  · refine z_iconst zh dX5_giveApart_36 ki_m1 ?_
    exact z_iret zh dX5_giveApart_37 ⟨_, rfl, hG, (ra_w rl_n1 (by decide) (by decide))⟩
  · have r5 := rb_eq (u := 1) (v := 1) (ra_tt x3) rl_1 q4 (by decide) (by decide)
    refine z_iloadn zh dX5_giveApart_23 rfl ?_
    refine z_iconst zh dX5_giveApart_24 ki_1 ?_
    refine z_icmp_lt (tgt := 36) zh dX5_giveApart_25 rfl (fun q6 => ?_) (fun q6 => ?_)
    · have r7 : Ra (-2147483648) 0 x2 := rb_lt_l rl_1 (ra_tt x2) q6 (by decide)
      refine z_iconst zh dX5_giveApart_36 ki_m1 ?_
      exact z_iret zh dX5_giveApart_37 ⟨_, rfl, hG, (ra_w rl_n1 (by decide) (by decide))⟩
    · have r8 : Ra 1 2147483647 x2 := rb_le_r rl_1 (ra_tt x2) (rb_nlt q6) (by decide)
      refine z_aloadnR zh dX5_giveApart_28 rfl ?_
      refine z_iloadn zh dX5_giveApart_29 rfl ?_
      refine z_callSI zh ms_Notices_109 dX5_giveApart_30 (s_X5_isCalled g hh hG) ⟨Nat.le_of_ble_eq_true rfl, Nat.le_of_ble_eq_true rfl⟩ rfl rfl (Nat.le_of_ble_eq_true rfl) ?_
      rintro x9 _ _ ⟨rfl, rfl, hx9⟩
      refine z_if_eq (tgt := 38) zh dX5_giveApart_33 rfl (fun q10 => ?_) (fun q10 => ?_)
      · have r11 := rb_eq (u := 0) (v := 0) hx9 ra_z q10 (by decide) (by decide)
        refine z_aloadnR zh dX5_giveApart_38 rfl ?_
        refine z_getf zh fl_Notices_9 dX5_giveApart_39 (ck_H hh) rfl rfl ?_
        obtain ⟨x12, ex12⟩ : ∃ z, iv (h + 17) 2 = z := ⟨_, rfl⟩
        have hx12 : Ra 0 60 x12 := ra_of ex12 (si_T hG (isT_n hh))
        refine z_callVI zh mv_Notices_36 dX5_giveApart_42 (ck_T (isT_n hh)) rfl (s_X7_isFull g (isT_n hh) ex12) ⟨Nat.le_of_ble_eq_true rfl, Nat.le_of_ble_eq_true rfl⟩ rfl rfl (Nat.le_of_ble_eq_true rfl) ?_
        rintro x13 _ _ ⟨rfl, rfl, hx13, _⟩
        refine z_if_ne (tgt := 69) zh dX5_giveApart_45 rfl (fun q14 => ?_) (fun q14 => ?_)
        · have r15 : Ra 1 1 x13 := rb_ne_lo hx13 ra_z q14 (by decide)
          refine z_iconst zh dX5_giveApart_69 ki_m1 ?_
          exact z_iret zh dX5_giveApart_70 ⟨_, rfl, hG, (ra_w rl_n1 (by decide) (by decide))⟩
        · have r16 := rb_eq (u := 0) (v := 0) hx13 ra_z q14 (by decide) (by decide)
          refine z_aloadnR zh dX5_giveApart_48 rfl ?_
          refine z_bipush zh dX5_giveApart_49 kb_6 ?_
          refine z_iloadn zh dX5_giveApart_51 rfl ?_
          refine z_callVI zh mv_Notices_25 dX5_giveApart_52 (ck_T (isT_d hh)) rfl (s_X7_get g (isT_d hh) ex1 hx1) ⟨Nat.le_of_ble_eq_true rfl, Nat.le_of_ble_eq_true rfl⟩ rfl rfl (Nat.le_of_ble_eq_true rfl) ?_
          rintro x17 _ _ ⟨rfl, rfl, gx17⟩
          refine z_aloadnR zh dX5_giveApart_55 rfl ?_
          refine y_getI zh fl_Notices_78 dX5_giveApart_56 (ck_H hh) rfl rfl (fun x18 ex18 => ?_)
          have hx18 : Ra 0 99 x18 := ra_of ex18 (si_H hG hh 0 (by decide) rfl)
          refine z_aloadnR zh dX5_giveApart_59 rfl ?_
          refine z_getf zh fl_Notices_81 dX5_giveApart_60 (ck_H hh) rfl rfl ?_
          refine z_iconst zh dX5_giveApart_63 ki_3 ?_
          refine y_ialdN zh (ck_told hh) dX5_giveApart_64 (by decide) (fun x19 ex19 => ?_)
          refine y_isubT zh dX5_giveApart_65 (fun x20 => ?_)
          refine z_icmp_le (tgt := 71) zh dX5_giveApart_66 rfl (fun q21 => ?_) (fun q21 => ?_)
          · refine z_aloadnR zh dX5_giveApart_71 rfl ?_
            refine z_aloadnR zh dX5_giveApart_72 rfl ?_
            refine z_iconst zh dX5_giveApart_73 ki_0 ?_
            refine z_iloadn zh dX5_giveApart_74 rfl ?_
            refine z_callVI zh mv_Notices_25 dX5_giveApart_75 (ck_T (isT_d hh)) rfl (s_X7_get g (isT_d hh) ex1 hx1) ⟨Nat.le_of_ble_eq_true rfl, Nat.le_of_ble_eq_true rfl⟩ rfl rfl (Nat.le_of_ble_eq_true rfl) ?_
            rintro x22 _ _ ⟨rfl, rfl, gx22⟩
            have hx22 : Ra 0 11 x22 := get_in gx22 0 rfl (by decide) (by decide) (get_ok gx3 r5.1 (by decide)) (fun j => si_H hG hh 9 (by decide) rfl)
            refine z_aloadnR zh dX5_giveApart_78 rfl ?_
            refine z_iconst zh dX5_giveApart_79 ki_2 ?_
            refine z_iloadn zh dX5_giveApart_80 rfl ?_
            refine z_callVI zh mv_Notices_25 dX5_giveApart_81 (ck_T (isT_d hh)) rfl (s_X7_get g (isT_d hh) ex1 hx1) ⟨Nat.le_of_ble_eq_true rfl, Nat.le_of_ble_eq_true rfl⟩ rfl rfl (Nat.le_of_ble_eq_true rfl) ?_
            rintro x23 _ _ ⟨rfl, rfl, gx23⟩
            refine z_iloadn zh dX5_giveApart_84 rfl ?_
            refine z_iloadn zh dX5_giveApart_85 rfl ?_
            refine z_callSI zh ms_Notices_53 dX5_giveApart_86 (s_X5_addNotice g hh hx22 hG hq) ⟨Nat.le_of_ble_eq_true rfl, Nat.le_of_ble_eq_true rfl⟩ rfl rfl (Nat.le_of_ble_eq_true rfl) ?_
            rintro x24 iv lv ⟨hG, hx24⟩
            exact z_iret zh dX5_giveApart_89 ⟨_, rfl, hG, hx24⟩
          · have r25 : Ra (-2147483648) 2147483646 x20 := rb_lt_l (ra_tt x17) (ra_tt x20) (rb_nle q21) (by decide)
            have r26 : Ra (-2147483647) 2147483647 x17 := rb_lt_r (ra_tt x20) (ra_tt x17) (rb_nle q21) (by decide)
            refine z_iconst zh dX5_giveApart_69 ki_m1 ?_
            exact z_iret zh dX5_giveApart_70 ⟨_, rfl, hG, (ra_w rl_n1 (by decide) (by decide))⟩
      · have r27 : Ra 1 1 x9 := rb_ne_lo hx9 ra_z q10 (by decide)
        refine z_iconst zh dX5_giveApart_36 ki_m1 ?_
        exact z_iret zh dX5_giveApart_37 ⟨_, rfl, hG, (ra_w rl_n1 (by decide) (by decide))⟩
set_option maxRecDepth 20000 in
theorem s_X5_giveNet (g : GE) {sp : Nat → Nat → Bool} {σ : Iv} {iv : Iv} {lv : Lv} {h : Nat} {a1 : Int32} {a2 : Int32} {a3 : Int32} (hh : isH h) (hG : SI sp σ iv) (hq : Sq sp) : ConI g yX5_giveNet cX5_giveNet 7 (some .int) 5 [rf g h, .int a1, .int a2, .int a3] iv lv (fun r iv lv => SI sp σ iv ∧ Ra (-1) 59 r) := by
  refine con_intro (own := "RollingNets$Notices") (by decide +kernel) rfl (Nat.le_of_ble_eq_true rfl) (L0 := [some (rf g h), some (.int a1), some (.int a2), some (.int a3), none, none, none]) rfl (fun Z zh => ?_)
  refine z_aloadnR zh dX5_giveNet_0 rfl ?_
  refine z_iloadn zh dX5_giveNet_1 rfl ?_
  refine z_callVI zh mv_Notices_29 dX5_giveNet_2 (ck_H hh) rfl (s_X1_hasMember g hh hG) ⟨Nat.le_of_ble_eq_true rfl, Nat.le_of_ble_eq_true rfl⟩ rfl rfl (Nat.le_of_ble_eq_true rfl) ?_
  rintro x1 _ _ ⟨rfl, rfl, hx1, hz2⟩
  refine z_if_eq (tgt := 25) zh dX5_giveNet_5 rfl (fun q3 => ?_) (fun q3 => ?_)
  · have r4 := rb_eq (u := 0) (v := 0) hx1 ra_z q3 (by decide) (by decide)
    refine z_iconst zh dX5_giveNet_25 ki_m1 ?_
    exact z_iret zh dX5_giveNet_26 ⟨_, rfl, hG, (ra_w rl_n1 (by decide) (by decide))⟩
  · have r5 : Ra 1 1 x1 := rb_ne_lo hx1 ra_z q3 (by decide)
    have r6 : Ra 0 11 a1 := (hz2 q3)
    refine z_iloadn zh dX5_giveNet_8 rfl ?_
    refine z_callSI zh ms_Notices_33 dX5_giveNet_9 (s_X8_isIssue g  hG) ⟨Nat.le_of_ble_eq_true rfl, Nat.le_of_ble_eq_true rfl⟩ rfl rfl (Nat.le_of_ble_eq_true rfl) ?_
    rintro x7 _ _ ⟨rfl, rfl, hx7, hz8⟩
    refine z_if_eq (tgt := 25) zh dX5_giveNet_12 rfl (fun q9 => ?_) (fun q9 => ?_)
    · have r10 := rb_eq (u := 0) (v := 0) hx7 ra_z q9 (by decide) (by decide)
      refine z_iconst zh dX5_giveNet_25 ki_m1 ?_
      exact z_iret zh dX5_giveNet_26 ⟨_, rfl, hG, (ra_w rl_n1 (by decide) (by decide))⟩
    · have r11 : Ra 1 1 x7 := rb_ne_lo hx7 ra_z q9 (by decide)
      have r12 : Ra 0 5 a2 := (hz8 q9)
      refine z_aloadnR zh dX5_giveNet_15 rfl ?_
      refine z_getf zh fl_Notices_9 dX5_giveNet_16 (ck_H hh) rfl rfl ?_
      obtain ⟨x13, ex13⟩ : ∃ z, iv (h + 17) 2 = z := ⟨_, rfl⟩
      have hx13 : Ra 0 60 x13 := ra_of ex13 (si_T hG (isT_n hh))
      refine z_callVI zh mv_Notices_36 dX5_giveNet_19 (ck_T (isT_n hh)) rfl (s_X7_isFull g (isT_n hh) ex13) ⟨Nat.le_of_ble_eq_true rfl, Nat.le_of_ble_eq_true rfl⟩ rfl rfl (Nat.le_of_ble_eq_true rfl) ?_
      rintro x14 _ _ ⟨rfl, rfl, hx14, _⟩
      refine z_if_eq (tgt := 27) zh dX5_giveNet_22 rfl (fun q15 => ?_) (fun q15 => ?_)
      · have r16 := rb_eq (u := 0) (v := 0) hx14 ra_z q15 (by decide) (by decide)
        refine z_iloadn zh dX5_giveNet_27 rfl ?_
        refine z_iconst zh dX5_giveNet_28 ki_1 ?_
        refine z_icmp_lt (tgt := 42) zh dX5_giveNet_29 rfl (fun q17 => ?_) (fun q17 => ?_)
        · have r18 : Ra (-2147483648) 0 a3 := rb_lt_l rl_1 (ra_tt a3) q17 (by decide)
          refine z_iconst zh dX5_giveNet_42 ki_m1 ?_
          exact z_iret zh dX5_giveNet_43 ⟨_, rfl, hG, (ra_w rl_n1 (by decide) (by decide))⟩
        · have r19 : Ra 1 2147483647 a3 := rb_le_r rl_1 (ra_tt a3) (rb_nlt q17) (by decide)
          refine z_iloadn zh dX5_giveNet_32 rfl ?_
          refine z_aloadnR zh dX5_giveNet_33 rfl ?_
          refine z_iloadn zh dX5_giveNet_34 rfl ?_
          refine z_iloadn zh dX5_giveNet_35 rfl ?_
          refine z_callSI zh ms_Notices_40 dX5_giveNet_36 (s_X5_agedLong g hh r6 r12 hG) ⟨Nat.le_of_ble_eq_true rfl, Nat.le_of_ble_eq_true rfl⟩ rfl rfl (Nat.le_of_ble_eq_true rfl) ?_
          rintro x20 _ _ ⟨rfl, rfl, _⟩
          refine z_icmp_le (tgt := 44) zh dX5_giveNet_39 rfl (fun q21 => ?_) (fun q21 => ?_)
          · have r22 : Ra 1 2147483647 x20 := rb_le_r r19 (ra_tt x20) q21 (by decide)
            refine z_aloadnR zh dX5_giveNet_44 rfl ?_
            refine z_iloadn zh dX5_giveNet_45 rfl ?_
            refine z_callSI zh ms_Notices_46 dX5_giveNet_46 (s_X5_givers g hh r12 hG) ⟨Nat.le_of_ble_eq_true rfl, Nat.le_of_ble_eq_true rfl⟩ rfl rfl (Nat.le_of_ble_eq_true rfl) ?_
            rintro x23 _ _ ⟨rfl, rfl, _⟩
            refine z_iloadn zh dX5_giveNet_49 rfl ?_
            refine y_ishrT zh dX5_giveNet_50 (fun x24 => ?_)
            refine z_iconst zh dX5_giveNet_51 ki_1 ?_
            refine y_iandT zh dX5_giveNet_52 (fun x25 => ?_)
            refine z_if_eq (tgt := 58) zh dX5_giveNet_53 rfl (fun q26 => ?_) (fun q26 => ?_)
            · have r27 := rb_eq (u := 0) (v := 0) (ra_tt x25) ra_z q26 (by decide) (by decide)
              refine z_aloadnR zh dX5_giveNet_58 rfl ?_
              refine z_iloadn zh dX5_giveNet_59 rfl ?_
              refine z_iloadn zh dX5_giveNet_60 rfl ?_
              refine z_callSI zh ms_Notices_50 dX5_giveNet_61 (s_X5_assign g hh r12 r19 hG) ⟨Nat.le_of_ble_eq_true rfl, Nat.le_of_ble_eq_true rfl⟩ rfl rfl (Nat.le_of_ble_eq_true rfl) ?_
              rintro x28 iv lv ⟨hG, _⟩
              refine z_istore zh dX5_giveNet_64 (by decide) (L' := [some (rf g h), some (.int a1), some (.int a2), some (.int a3), some (.int x28), none, none]) rfl ?_
              refine z_iload zh dX5_giveNet_66 rfl ?_
              refine z_if_ne (tgt := 73) zh dX5_giveNet_68 rfl (fun q29 => ?_) (fun q29 => ?_)
              · refine z_aloadnR zh dX5_giveNet_73 rfl ?_
                refine z_iloadn zh dX5_giveNet_74 rfl ?_
                refine z_iloadn zh dX5_giveNet_75 rfl ?_
                refine z_iload zh dX5_giveNet_76 rfl ?_
                refine z_iconst zh dX5_giveNet_78 ki_m1 ?_
                refine z_callSI zh ms_Notices_53 dX5_giveNet_79 (s_X5_addNotice g hh r6 hG hq) ⟨Nat.le_of_ble_eq_true rfl, Nat.le_of_ble_eq_true rfl⟩ rfl rfl (Nat.le_of_ble_eq_true rfl) ?_
                rintro x30 iv lv ⟨hG, hx30⟩
                refine z_istore zh dX5_giveNet_82 (by decide) (L' := [some (rf g h), some (.int a1), some (.int a2), some (.int a3), some (.int x28), some (.int x30), none]) rfl ?_
                refine z_iconst zh dX5_giveNet_84 ki_0 ?_
                refine z_istore zh dX5_giveNet_85 (by decide) (L' := [some (rf g h), some (.int a1), some (.int a2), some (.int a3), some (.int x28), some (.int x30), some (.int (nI 0))]) rfl ?_
                have J87 : ∀ (n : Nat) (iv : Iv) (lv : Lv) (x31 : Int32), SI sp σ iv → Ra 0 12 x31 → 12 - x31.toInt < (n : Int) → Z 87 [some (rf g h), some (.int a1), some (.int a2), some (.int a3), some (.int x28), some (.int x30), some (.int x31)] [] iv lv := by
                  intro n
                  induction n with
                  | zero => intro iv lv x31 hG hx31 hn87; exact (ms_uz hx31 hn87).elim
                  | succ n ih87 =>
                    intro iv lv x31 hG hx31 hn87
                    refine z_iload zh dX5_giveNet_87 rfl ?_
                    refine z_aloadnR zh dX5_giveNet_89 rfl ?_
                    refine z_callVI zh mv_Notices_57 dX5_giveNet_90 (ck_H hh) rfl (s_X1_members g hh hG) ⟨Nat.le_of_ble_eq_true rfl, Nat.le_of_ble_eq_true rfl⟩ rfl rfl (Nat.le_of_ble_eq_true rfl) ?_
                    rintro x32 _ _ ⟨rfl, rfl, hx32⟩
                    refine z_icmp_ge (tgt := 123) zh dX5_giveNet_93 rfl (fun q33 => ?_) (fun q33 => ?_)
                    · have r34 : Ra 2 12 x31 := rb_le_r hx32 hx31 q33 (by decide)
                      refine z_iload zh dX5_giveNet_123 rfl ?_
                      exact z_iret zh dX5_giveNet_125 ⟨_, rfl, hG, hx30⟩
                    · have r35 : Ra 0 11 x31 := rb_lt_l hx32 hx31 (rb_nle q33) (by decide)
                      refine z_aloadnR zh dX5_giveNet_96 rfl ?_
                      refine z_getf zh fl_Notices_9 dX5_giveNet_97 (ck_H hh) rfl rfl ?_
                      refine z_bipush zh dX5_giveNet_100 kb_7 ?_
                      refine z_iload zh dX5_giveNet_102 rfl ?_
                      refine y_iadd zh dX5_giveNet_104 rl_7 r35 (u := 7) (v := 18) rfl rfl (by decide) (by decide) (fun x36 hc36 hx36 => ?_)
                      refine z_iload zh dX5_giveNet_105 rfl ?_
                      refine z_aloadnR zh dX5_giveNet_107 rfl ?_
                      refine z_getf zh fl_Notices_60 dX5_giveNet_108 (ck_H hh) rfl rfl ?_
                      refine z_iload zh dX5_giveNet_111 rfl ?_
                      refine y_iald zh (ck_parts hh) dX5_giveNet_113 r35 (by decide) (by decide) (fun x37 ex37 => ?_)
                      refine z_callVV zh mv_Notices_64 dX5_giveNet_114 (ck_T (isT_n hh)) rfl (s_X7_put g (isT_n hh) hG (pn_f hG hh hx36 (by decide))) ⟨Nat.le_of_ble_eq_true rfl, Nat.le_of_ble_eq_true rfl⟩ rfl rfl (Nat.le_of_ble_eq_true rfl) ?_
                      rintro iv lv hG
                      refine y_iinc (L' := fun z => [some (rf g h), some (.int a1), some (.int a2), some (.int a3), some (.int x28), some (.int x30), some (.int z)]) zh dX5_giveNet_117 (by decide) rfl (by decide +kernel) r35 (u := 1) (v := 12) rfl rfl (by decide) (by decide) (fun _ => rfl) (fun x38 hc38 hx38 => ?_)
                      refine z_goto (tgt := 87) zh dX5_giveNet_120 rfl ?_
                      exact ih87 iv lv x38 hG (ra_w hx38 (by decide) (by decide)) (ms_up hc38 (by decide) hn87)
                exact J87 13 iv lv (nI 0) hG (ra_w rl_0 (by decide) (by decide)) (ms_u0 rl_0 (by decide))
              · have r39 := rb_eq (u := 0) (v := 0) (ra_tt x28) ra_z q29 (by decide) (by decide)
                refine z_iconst zh dX5_giveNet_71 ki_m1 ?_
                exact z_iret zh dX5_giveNet_72 ⟨_, rfl, hG, (ra_w rl_n1 (by decide) (by decide))⟩
            · refine z_iconst zh dX5_giveNet_56 ki_m1 ?_
              exact z_iret zh dX5_giveNet_57 ⟨_, rfl, hG, (ra_w rl_n1 (by decide) (by decide))⟩
          · have r40 : Ra (-2147483648) 2147483646 x20 := rb_lt_l r19 (ra_tt x20) (rb_nle q21) (by decide)
            refine z_iconst zh dX5_giveNet_42 ki_m1 ?_
            exact z_iret zh dX5_giveNet_43 ⟨_, rfl, hG, (ra_w rl_n1 (by decide) (by decide))⟩
      · have r41 : Ra 1 1 x14 := rb_ne_lo hx14 ra_z q15 (by decide)
        refine z_iconst zh dX5_giveNet_25 ki_m1 ?_
        exact z_iret zh dX5_giveNet_26 ⟨_, rfl, hG, (ra_w rl_n1 (by decide) (by decide))⟩
set_option maxRecDepth 20000 in
theorem s_X6_append (g : GE) {sp : Nat → Nat → Bool} {σ : Iv} {iv : Iv} {lv : Lv} {a1 : Int32}  (hG : SI sp σ iv) (hq : Sq sp) (hL : sp 541 1 = false) : ConV g yX6_append cX6_append 3 none 1 [rf g 541, .int a1] iv lv (fun iv lv => SI sp σ iv) := by
  refine con_intro (own := "RollingNets$Reader") (by decide +kernel) rfl (Nat.le_of_ble_eq_true rfl) (L0 := [some (rf g 541), some (.int a1), none]) rfl (fun Z zh => ?_)
  refine z_bipush zh dX6_append_0 kb_24 ?_
  refine z_istoren zh dX6_append_2 (by decide) (L' := [some (rf g 541), some (.int a1), some (.int (nI 24))]) rfl ?_
  have J3 : ∀ (n : Nat) (iv : Iv) (lv : Lv) (x1 : Int32), SI sp σ iv → Ra (-2147483648) 24 x1 → x1.toInt - (-2147483648) < (n : Int) → Z 3 [some (rf g 541), some (.int a1), some (.int x1)] [] iv lv := by
    intro n
    induction n with
    | zero => intro iv lv x1 hG hx1 hn3; exact (ms_dz hx1 hn3).elim
    | succ n ih3 =>
      intro iv lv x1 hG hx1 hn3
      refine z_iloadn zh dX6_append_3 rfl ?_
      refine z_if_lt (tgt := 49) zh dX6_append_4 rfl (fun q2 => ?_) (fun q2 => ?_)
      · have r3 : Ra (-2147483648) (-1) x1 := rb_lt_l ra_z hx1 q2 (by decide)
        exact z_vret zh dX6_append_49 ⟨rfl, hG⟩
      · have r4 : Ra 0 24 x1 := rb_le_r ra_z hx1 (rb_nlt q2) (by decide)
        refine z_aloadnR zh dX6_append_7 rfl ?_
        refine y_getI zh fl_Reader_15 dX6_append_8 ck_R rfl rfl (fun x5 ex5 => ?_)
        have hx5 : Ra 0 400 x5 := ra_of ex5 (si_c hG (k := 541) (j := 1) rfl)
        refine z_sipush zh dX6_append_11 ks_400 ?_
        refine z_icmp_ge (tgt := 49) zh dX6_append_14 rfl (fun q6 => ?_) (fun q6 => ?_)
        · have r7 : Ra 400 400 x5 := rb_le_r rl_400 hx5 q6 (by decide)
          exact z_vret zh dX6_append_49 ⟨rfl, hG⟩
        · have r8 : Ra 0 399 x5 := rb_lt_l rl_400 hx5 (rb_nle q6) (by decide)
          refine z_aloadnR zh dX6_append_17 rfl ?_
          refine z_getf zh fl_Reader_9 dX6_append_18 ck_R rfl rfl ?_
          refine z_aloadnR zh dX6_append_21 rfl ?_
          refine z_getI (x := x5) zh fl_Reader_15 dX6_append_22 ck_R rfl rfl ex5 ?_
          refine z_iloadn zh dX6_append_25 rfl ?_
          refine z_iloadn zh dX6_append_26 rfl ?_
          refine y_ishrT zh dX6_append_27 (fun x9 => ?_)
          refine z_sipush zh dX6_append_28 ks_255 ?_
          refine y_iandT zh dX6_append_31 (fun x10 => ?_)
          refine z_iast zh ck_tape dX6_append_32 (ra_in r8 (by decide) (by decide)) ?_
          have hG : SI sp σ (upI iv 542 x5.toNatClampNeg x10) := si_w (k := 542) hG (by decide) (by decide) (sq_n hq (by decide) (by decide) (by decide)) (rx_none rfl)
          have em11 := (upI_ne (iv := iv) (k := 542) (j := x5.toNatClampNeg) (x := x10) (Or.inl (by decide))).trans ex5
          generalize upI iv 542 x5.toNatClampNeg x10 = iv at hG em11 ⊢
          refine z_aloadnR zh dX6_append_33 rfl ?_
          refine z_dup zh dX6_append_34 rfl ?_
          refine z_getI (x := x5) zh fl_Reader_15 dX6_append_35 ck_R rfl rfl em11 ?_
          refine z_iconst zh dX6_append_38 ki_1 ?_
          refine y_iadd zh dX6_append_39 r8 rl_1 (u := 1) (v := 400) rfl rfl (by decide) (by decide) (fun x12 hc12 hx12 => ?_)
          refine z_putI zh fl_Reader_15 dX6_append_40 ck_R rfl rfl (Nat.le_of_ble_eq_true rfl) (Or.inl rfl) ?_
          have hG : SI sp σ (upI iv 541 1 x12) := si_w (k := 541) (j := 1) hG (by decide) (by decide) hL (rx_some (ra_w hx12 (by decide) (by decide)))
          generalize upI iv 541 1 x12 = iv at hG  ⊢
          refine y_iinc (L' := fun z => [some (rf g 541), some (.int a1), some (.int z)]) zh dX6_append_43 (by decide) rfl (by decide +kernel) r4 (u := (-8)) (v := 16) rfl rfl (by decide) (by decide) (fun _ => rfl) (fun x13 hc13 hx13 => ?_)
          refine z_goto (tgt := 3) zh dX6_append_46 rfl ?_
          exact ih3 iv lv x13 hG (ra_w hx13 (by decide) (by decide)) (ms_dn hc13 (by decide) hn3)
  exact J3 2147483673 iv lv (nI 24) hG (ra_w rl_24 (by decide) (by decide)) (ms_d0 rl_24 (by decide))
set_option maxRecDepth 20000 in
theorem s_X6_failHere (g : GE) {sp : Nat → Nat → Bool} {σ : Iv} {iv : Iv} {lv : Lv} {a1 : Int32} (ha1 : Ra 1 2 a1) (hG : SI sp σ iv) (hq : Sq sp) : ConV g yX6_failHere cX6_failHere 2 none 1 [rf g 541, .int a1] iv lv (fun iv lv => SI sp σ iv) := by
  refine con_intro (own := "RollingNets$Reader") (by decide +kernel) rfl (Nat.le_of_ble_eq_true rfl) (L0 := [some (rf g 541), some (.int a1)]) rfl (fun Z zh => ?_)
  refine z_aloadnR zh dX6_failHere_0 rfl ?_
  refine z_iloadn zh dX6_failHere_1 rfl ?_
  refine z_putI zh fl_Reader_31 dX6_failHere_2 ck_R rfl rfl (Nat.le_of_ble_eq_true rfl) (Or.inl rfl) ?_
  have hG : SI sp σ (upI iv 541 4 a1) := si_w (k := 541) (j := 4) hG (by decide) (by decide) (sq_no hq rfl) (rx_none rfl)
  generalize upI iv 541 4 a1 = iv at hG  ⊢
  refine z_aloadnR zh dX6_failHere_5 rfl ?_
  refine z_aloadnR zh dX6_failHere_6 rfl ?_
  refine y_getI zh fl_Reader_28 dX6_failHere_7 ck_R rfl rfl (fun x1 ex1 => ?_)
  have hx1 : Ra 0 401 x1 := ra_of ex1 (si_c hG (k := 541) (j := 3) rfl)
  refine z_putI zh fl_Reader_34 dX6_failHere_10 ck_R rfl rfl (Nat.le_of_ble_eq_true rfl) (Or.inl rfl) ?_
  have hG : SI sp σ (upI iv 541 5 x1) := si_w (k := 541) (j := 5) hG (by decide) (by decide) (sq_no hq rfl) (rx_none rfl)
  have em2 := (upI_ne (iv := iv) (k := 541) (j := 5) (x := x1) (Or.inr (by decide))).trans ex1
  generalize upI iv 541 5 x1 = iv at hG em2 ⊢
  exact z_vret zh dX6_failHere_13 ⟨rfl, hG⟩
set_option maxRecDepth 20000 in
theorem s_X6_hasRoom (g : GE) {sp : Nat → Nat → Bool} {σ : Iv} {iv : Iv} {lv : Lv}   (hG : SI sp σ iv)  : ConI g yX6_hasRoom cX6_hasRoom 1 (some .boolean) 1 [rf g 541] iv lv (fun r iv' lv' => iv = iv' ∧ lv = lv' ∧ Ra 0 1 r) := by
  refine con_intro (own := "RollingNets$Reader") (by decide +kernel) rfl (Nat.le_of_ble_eq_true rfl) (L0 := [some (rf g 541)]) rfl (fun Z zh => ?_)
  refine z_aloadnR zh dX6_hasRoom_0 rfl ?_
  refine y_getI zh fl_Reader_15 dX6_hasRoom_1 ck_R rfl rfl (fun x1 ex1 => ?_)
  have hx1 : Ra 0 400 x1 := ra_of ex1 (si_c hG (k := 541) (j := 1) rfl)
  refine z_bipush zh dX6_hasRoom_4 kb_20 ?_
  refine y_iadd zh dX6_hasRoom_6 hx1 rl_20 (u := 20) (v := 420) rfl rfl (by decide) (by decide) (fun x2 hc2 hx2 => ?_)
  refine z_sipush zh dX6_hasRoom_7 ks_400 ?_
  refine z_icmp_gt (tgt := 17) zh dX6_hasRoom_10 rfl (fun q3 => ?_) (fun q3 => ?_)
  · have r4 : Ra 401 420 x2 := rb_lt_r rl_400 hx2 q3 (by decide)
    refine z_iconst zh dX6_hasRoom_17 ki_0 ?_
    exact z_zret zh dX6_hasRoom_18 (ra_01 (ra_w rl_0 (by decide) (by decide))) ⟨_, rfl, rfl, rfl, (ra_w rl_0 (by decide) (by decide))⟩
  · have r5 : Ra 20 400 x2 := rb_le_l rl_400 hx2 (rb_nlt q3) (by decide)
    refine z_iconst zh dX6_hasRoom_13 ki_1 ?_
    refine z_goto (tgt := 18) zh dX6_hasRoom_14 rfl ?_
    exact z_zret zh dX6_hasRoom_18 (ra_01 (ra_w rl_1 (by decide) (by decide))) ⟨_, rfl, rfl, rfl, (ra_w rl_1 (by decide) (by decide))⟩
set_option maxRecDepth 20000 in
theorem s_X6_here (g : GE) {sp : Nat → Nat → Bool} {σ : Iv} {iv : Iv} {lv : Lv} {a1 : Int32}  (hG : SI sp σ iv)  : ConI g yX6_here cX6_here 2 (some .int) 1 [rf g 541, .int a1] iv lv (fun r iv' lv' => iv = iv' ∧ lv = lv' ∧ True) := by
  refine con_intro (own := "RollingNets$Reader") (by decide +kernel) rfl (Nat.le_of_ble_eq_true rfl) (L0 := [some (rf g 541), some (.int a1)]) rfl (fun Z zh => ?_)
  refine z_iloadn zh dX6_here_0 rfl ?_
  refine z_if_lt (tgt := 21) zh dX6_here_1 rfl (fun q1 => ?_) (fun q1 => ?_)
  · have r2 : Ra (-2147483648) (-1) a1 := rb_lt_l ra_z (ra_tt a1) q1 (by decide)
    refine z_iconst zh dX6_here_21 ki_m1 ?_
    exact z_iret zh dX6_here_22 ⟨_, rfl, rfl, rfl, trivial⟩
  · have r3 : Ra 0 2147483647 a1 := rb_le_r ra_z (ra_tt a1) (rb_nlt q1) (by decide)
    refine z_iloadn zh dX6_here_4 rfl ?_
    refine z_aloadnR zh dX6_here_5 rfl ?_
    refine y_getI zh fl_Reader_15 dX6_here_6 ck_R rfl rfl (fun x4 ex4 => ?_)
    have hx4 : Ra 0 400 x4 := ra_of ex4 (si_c hG (k := 541) (j := 1) rfl)
    refine z_icmp_ge (tgt := 21) zh dX6_here_9 rfl (fun q5 => ?_) (fun q5 => ?_)
    · refine z_iconst zh dX6_here_21 ki_m1 ?_
      exact z_iret zh dX6_here_22 ⟨_, rfl, rfl, rfl, trivial⟩
    · have r6 : Ra 0 399 a1 := rb_lt_l hx4 r3 (rb_nle q5) (by decide)
      have r7 : Ra 1 400 x4 := rb_lt_r r3 hx4 (rb_nle q5) (by decide)
      refine z_aloadnR zh dX6_here_12 rfl ?_
      refine z_getf zh fl_Reader_9 dX6_here_13 ck_R rfl rfl ?_
      refine z_iloadn zh dX6_here_16 rfl ?_
      refine y_iald zh ck_tape dX6_here_17 r6 (by decide) (by decide) (fun x8 ex8 => ?_)
      refine z_goto (tgt := 22) zh dX6_here_18 rfl ?_
      exact z_iret zh dX6_here_22 ⟨_, rfl, rfl, rfl, trivial⟩
set_option maxRecDepth 20000 in
theorem s_X6_isLetter (g : GE) {sp : Nat → Nat → Bool} {σ : Iv} {iv : Iv} {lv : Lv} {a1 : Int32}  (hG : SI sp σ iv)  : ConI g yX6_isLetter cX6_isLetter 1 (some .boolean) 2 [.int a1] iv lv (fun r iv' lv' => iv = iv' ∧ lv = lv' ∧ Ra 0 1 r ∧ (¬ r = 0 → Ra 65 122 a1)) := by
  refine con_intro (own := "RollingNets$Reader") (by decide +kernel) rfl (Nat.le_of_ble_eq_true rfl) (L0 := [some (.int a1)]) rfl (fun Z zh => ?_)
  refine z_iloadn zh dX6_isLetter_0 rfl ?_
  refine z_bipush zh dX6_isLetter_1 kb_97 ?_
  refine z_bipush zh dX6_isLetter_3 kb_122 ?_
  refine z_callSI zh ms_Reader_84 dX6_isLetter_5 (s_X8_within g) ⟨Nat.le_of_ble_eq_true rfl, Nat.le_of_ble_eq_true rfl⟩ rfl rfl (Nat.le_of_ble_eq_true rfl) ?_
  rintro x1 _ _ ⟨rfl, rfl, hx1, hz2⟩
  refine z_if_ne (tgt := 22) zh dX6_isLetter_8 rfl (fun q3 => ?_) (fun q3 => ?_)
  · have r4 : Ra 1 1 x1 := rb_ne_lo hx1 ra_z q3 (by decide)
    have r5 : Ra 97 122 a1 := (rb_in rl_97 rl_122 (hz2 q3))
    refine z_iconst zh dX6_isLetter_22 ki_1 ?_
    refine z_goto (tgt := 27) zh dX6_isLetter_23 rfl ?_
    exact z_zret zh dX6_isLetter_27 (ra_01 (ra_w rl_1 (by decide) (by decide))) ⟨_, rfl, rfl, rfl, (ra_w rl_1 (by decide) (by decide)), (fun _ => (ra_w r5 (by decide) (by decide)))⟩
  · have r6 := rb_eq (u := 0) (v := 0) hx1 ra_z q3 (by decide) (by decide)
    refine z_iloadn zh dX6_isLetter_11 rfl ?_
    refine z_bipush zh dX6_isLetter_12 kb_65 ?_
    refine z_bipush zh dX6_isLetter_14 kb_90 ?_
    refine z_callSI zh ms_Reader_84 dX6_isLetter_16 (s_X8_within g) ⟨Nat.le_of_ble_eq_true rfl, Nat.le_of_ble_eq_true rfl⟩ rfl rfl (Nat.le_of_ble_eq_true rfl) ?_
    rintro x7 _ _ ⟨rfl, rfl, hx7, hz8⟩
    refine z_if_eq (tgt := 26) zh dX6_isLetter_19 rfl (fun q9 => ?_) (fun q9 => ?_)
    · have r10 := rb_eq (u := 0) (v := 0) hx7 ra_z q9 (by decide) (by decide)
      refine z_iconst zh dX6_isLetter_26 ki_0 ?_
      exact z_zret zh dX6_isLetter_27 (ra_01 (ra_w rl_0 (by decide) (by decide))) ⟨_, rfl, rfl, rfl, (ra_w rl_0 (by decide) (by decide)), (fun q => absurd rfl q)⟩
    · have r11 : Ra 1 1 x7 := rb_ne_lo hx7 ra_z q9 (by decide)
      have r12 : Ra 65 90 a1 := (rb_in rl_65 rl_90 (hz8 q9))
      refine z_iconst zh dX6_isLetter_22 ki_1 ?_
      refine z_goto (tgt := 27) zh dX6_isLetter_23 rfl ?_
      exact z_zret zh dX6_isLetter_27 (ra_01 (ra_w rl_1 (by decide) (by decide))) ⟨_, rfl, rfl, rfl, (ra_w rl_1 (by decide) (by decide)), (fun _ => (ra_w r12 (by decide) (by decide)))⟩
set_option maxRecDepth 20000 in
theorem s_X6_leastOf (g : GE) {sp : Nat → Nat → Bool} {σ : Iv} {iv : Iv} {lv : Lv} {a1 : Int32}  (hG : SI sp σ iv)  : ConI g yX6_leastOf cX6_leastOf 1 (some .int) 1 [.int a1] iv lv (fun r iv' lv' => iv = iv' ∧ lv = lv' ∧ Ra 0 1 r) := by
  refine con_intro (own := "RollingNets$Reader") (by decide +kernel) rfl (Nat.le_of_ble_eq_true rfl) (L0 := [some (.int a1)]) rfl (fun Z zh => ?_)
  refine z_iloadn zh dX6_leastOf_0 rfl ?_
  refine z_bipush zh dX6_leastOf_1 kb_78 ?_
  refine z_icmp_eq (tgt := 18) zh dX6_leastOf_3 rfl (fun q1 => ?_) (fun q1 => ?_)
  · have r2 := rb_eq (u := 78) (v := 78) (ra_tt a1) rl_78 q1 (by decide) (by decide)
    refine z_iconst zh dX6_leastOf_18 ki_1 ?_
    refine z_goto (tgt := 23) zh dX6_leastOf_19 rfl ?_
    exact z_iret zh dX6_leastOf_23 ⟨_, rfl, rfl, rfl, (ra_w rl_1 (by decide) (by decide))⟩
  · refine z_iloadn zh dX6_leastOf_6 rfl ?_
    refine z_bipush zh dX6_leastOf_7 kb_80 ?_
    refine z_icmp_eq (tgt := 18) zh dX6_leastOf_9 rfl (fun q3 => ?_) (fun q3 => ?_)
    · have r4 := rb_eq (u := 80) (v := 80) (ra_tt a1) rl_80 q3 (by decide) (by decide)
      refine z_iconst zh dX6_leastOf_18 ki_1 ?_
      refine z_goto (tgt := 23) zh dX6_leastOf_19 rfl ?_
      exact z_iret zh dX6_leastOf_23 ⟨_, rfl, rfl, rfl, (ra_w rl_1 (by decide) (by decide))⟩
    · refine z_iloadn zh dX6_leastOf_12 rfl ?_
      refine z_bipush zh dX6_leastOf_13 kb_75 ?_
      refine z_icmp_ne (tgt := 22) zh dX6_leastOf_15 rfl (fun q5 => ?_) (fun q5 => ?_)
      · refine z_iconst zh dX6_leastOf_22 ki_0 ?_
        exact z_iret zh dX6_leastOf_23 ⟨_, rfl, rfl, rfl, (ra_w rl_0 (by decide) (by decide))⟩
      · have r6 := rb_eq (u := 75) (v := 75) (ra_tt a1) rl_75 q5 (by decide) (by decide)
        refine z_iconst zh dX6_leastOf_18 ki_1 ?_
        refine z_goto (tgt := 23) zh dX6_leastOf_19 rfl ?_
        exact z_iret zh dX6_leastOf_23 ⟨_, rfl, rfl, rfl, (ra_w rl_1 (by decide) (by decide))⟩
set_option maxRecDepth 20000 in
theorem s_X6_mostOf (g : GE) {sp : Nat → Nat → Bool} {σ : Iv} {iv : Iv} {lv : Lv} {a1 : Int32}  (hG : SI sp σ iv)  : ConI g yX6_mostOf cX6_mostOf 1 (some .int) 1 [.int a1] iv lv (fun r iv' lv' => iv = iv' ∧ lv = lv' ∧ Ra 5 9999 r) := by
  refine con_intro (own := "RollingNets$Reader") (by decide +kernel) rfl (Nat.le_of_ble_eq_true rfl) (L0 := [some (.int a1)]) rfl (fun Z zh => ?_)
  refine z_iloadn zh dX6_mostOf_0 rfl ?_
  by_cases q1 : 73 ≤ a1.toInt ∧ a1.toInt ≤ 84
  · obtain ⟨jw, hjw, hkw⟩ : ∃ jw : Nat, jw ≤ 11 ∧ a1.toInt = 73 + (jw : Int) := ⟨(a1.toInt - 73).toNat, by omega, by omega⟩
    rcases (by omega : jw = 0 ∨ jw = 1 ∨ jw = 2 ∨ jw = 3 ∨ jw = 4 ∨ jw = 5 ∨ jw = 6 ∨ jw = 7 ∨ jw = 8 ∨ jw = 9 ∨ jw = 10 ∨ jw = 11) with rfl | rfl | rfl | rfl | rfl | rfl | rfl | rfl | rfl | rfl | rfl | rfl
    · have r3 : Ra 73 73 a1 := sw_ra hkw rfl
      refine z_tabIn (off := 66) (tgt := 67) zh dX6_mostOf_1 (sw_lo r3 (by decide)) (sw_hi r3 (by decide)) (sw_at r3 (by decide)) rfl ?_
      refine z_iconst zh dX6_mostOf_67 ki_5 ?_
      exact z_iret zh dX6_mostOf_68 ⟨_, rfl, rfl, rfl, (ra_w rl_5 (by decide) (by decide))⟩
    · have r4 : Ra 74 74 a1 := sw_ra hkw rfl
      refine z_tabIn (off := 78) (tgt := 79) zh dX6_mostOf_1 (sw_lo r4 (by decide)) (sw_hi r4 (by decide)) (sw_at r4 (by decide)) rfl ?_
      refine z_sipush zh dX6_mostOf_79 ks_9999 ?_
      exact z_iret zh dX6_mostOf_82 ⟨_, rfl, rfl, rfl, (ra_w rl_9999 (by decide) (by decide))⟩
    · have r5 : Ra 75 75 a1 := sw_ra hkw rfl
      refine z_tabIn (off := 75) (tgt := 76) zh dX6_mostOf_1 (sw_lo r5 (by decide)) (sw_hi r5 (by decide)) (sw_at r5 (by decide)) rfl ?_
      refine z_bipush zh dX6_mostOf_76 kb_20 ?_
      exact z_iret zh dX6_mostOf_78 ⟨_, rfl, rfl, rfl, (ra_w rl_20 (by decide) (by decide))⟩
    · have r6 : Ra 76 76 a1 := sw_ra hkw rfl
      refine z_tabIn (off := 78) (tgt := 79) zh dX6_mostOf_1 (sw_lo r6 (by decide)) (sw_hi r6 (by decide)) (sw_at r6 (by decide)) rfl ?_
      refine z_sipush zh dX6_mostOf_79 ks_9999 ?_
      exact z_iret zh dX6_mostOf_82 ⟨_, rfl, rfl, rfl, (ra_w rl_9999 (by decide) (by decide))⟩
    · have r7 : Ra 77 77 a1 := sw_ra hkw rfl
      refine z_tabIn (off := 63) (tgt := 64) zh dX6_mostOf_1 (sw_lo r7 (by decide)) (sw_hi r7 (by decide)) (sw_at r7 (by decide)) rfl ?_
      refine z_bipush zh dX6_mostOf_64 kb_11 ?_
      exact z_iret zh dX6_mostOf_66 ⟨_, rfl, rfl, rfl, (ra_w rl_11 (by decide) (by decide))⟩
    · have r8 : Ra 78 78 a1 := sw_ra hkw rfl
      refine z_tabIn (off := 78) (tgt := 79) zh dX6_mostOf_1 (sw_lo r8 (by decide)) (sw_hi r8 (by decide)) (sw_at r8 (by decide)) rfl ?_
      refine z_sipush zh dX6_mostOf_79 ks_9999 ?_
      exact z_iret zh dX6_mostOf_82 ⟨_, rfl, rfl, rfl, (ra_w rl_9999 (by decide) (by decide))⟩
    · have r9 : Ra 79 79 a1 := sw_ra hkw rfl
      refine z_tabIn (off := 78) (tgt := 79) zh dX6_mostOf_1 (sw_lo r9 (by decide)) (sw_hi r9 (by decide)) (sw_at r9 (by decide)) rfl ?_
      refine z_sipush zh dX6_mostOf_79 ks_9999 ?_
      exact z_iret zh dX6_mostOf_82 ⟨_, rfl, rfl, rfl, (ra_w rl_9999 (by decide) (by decide))⟩
    · have r10 : Ra 80 80 a1 := sw_ra hkw rfl
      refine z_tabIn (off := 78) (tgt := 79) zh dX6_mostOf_1 (sw_lo r10 (by decide)) (sw_hi r10 (by decide)) (sw_at r10 (by decide)) rfl ?_
      refine z_sipush zh dX6_mostOf_79 ks_9999 ?_
      exact z_iret zh dX6_mostOf_82 ⟨_, rfl, rfl, rfl, (ra_w rl_9999 (by decide) (by decide))⟩
    · have r11 : Ra 81 81 a1 := sw_ra hkw rfl
      refine z_tabIn (off := 78) (tgt := 79) zh dX6_mostOf_1 (sw_lo r11 (by decide)) (sw_hi r11 (by decide)) (sw_at r11 (by decide)) rfl ?_
      refine z_sipush zh dX6_mostOf_79 ks_9999 ?_
      exact z_iret zh dX6_mostOf_82 ⟨_, rfl, rfl, rfl, (ra_w rl_9999 (by decide) (by decide))⟩
    · have r12 : Ra 82 82 a1 := sw_ra hkw rfl
      refine z_tabIn (off := 68) (tgt := 69) zh dX6_mostOf_1 (sw_lo r12 (by decide)) (sw_hi r12 (by decide)) (sw_at r12 (by decide)) rfl ?_
      refine z_bipush zh dX6_mostOf_69 kb_9 ?_
      exact z_iret zh dX6_mostOf_71 ⟨_, rfl, rfl, rfl, (ra_w rl_9 (by decide) (by decide))⟩
    · have r13 : Ra 83 83 a1 := sw_ra hkw rfl
      refine z_tabIn (off := 78) (tgt := 79) zh dX6_mostOf_1 (sw_lo r13 (by decide)) (sw_hi r13 (by decide)) (sw_at r13 (by decide)) rfl ?_
      refine z_sipush zh dX6_mostOf_79 ks_9999 ?_
      exact z_iret zh dX6_mostOf_82 ⟨_, rfl, rfl, rfl, (ra_w rl_9999 (by decide) (by decide))⟩
    · have r14 : Ra 84 84 a1 := sw_ra hkw rfl
      refine z_tabIn (off := 71) (tgt := 72) zh dX6_mostOf_1 (sw_lo r14 (by decide)) (sw_hi r14 (by decide)) (sw_at r14 (by decide)) rfl ?_
      refine z_sipush zh dX6_mostOf_72 ks_199 ?_
      exact z_iret zh dX6_mostOf_75 ⟨_, rfl, rfl, rfl, (ra_w rl_199 (by decide) (by decide))⟩
  · refine z_tabOut (tgt := 79) zh dX6_mostOf_1 (sw_out q1) rfl ?_
    refine z_sipush zh dX6_mostOf_79 ks_9999 ?_
    exact z_iret zh dX6_mostOf_82 ⟨_, rfl, rfl, rfl, (ra_w rl_9999 (by decide) (by decide))⟩
set_option maxRecDepth 20000 in
theorem s_X6_readNumber (g : GE) {sp : Nat → Nat → Bool} {σ : Iv} {iv : Iv} {lv : Lv} {a1 : Int32} {a2 : Int32} {a3 : Int32}  (hG : SI sp σ iv) (hq : Sq sp) : ConV g yX6_readNumber cX6_readNumber 6 none 3 [rf g 541, .int a1, .int a2, .int a3] iv lv (fun iv lv => SI sp σ iv) := by
  refine con_intro (own := "RollingNets$Reader") (by decide +kernel) rfl (Nat.le_of_ble_eq_true rfl) (L0 := [some (rf g 541), some (.int a1), some (.int a2), some (.int a3), none, none]) rfl (fun Z zh => ?_)
  refine z_aloadnR zh dX6_readNumber_0 rfl ?_
  refine z_callVV zh mv_Reader_40 dX6_readNumber_1 ck_R rfl (s_X6_skipBlanks g  hG hq) ⟨Nat.le_of_ble_eq_true rfl, Nat.le_of_ble_eq_true rfl⟩ rfl rfl (Nat.le_of_ble_eq_true rfl) ?_
  rintro iv lv hG
  refine z_aloadnR zh dX6_readNumber_4 rfl ?_
  refine y_getI zh fl_Reader_28 dX6_readNumber_5 ck_R rfl rfl (fun x1 ex1 => ?_)
  have hx1 : Ra 0 401 x1 := ra_of ex1 (si_c hG (k := 541) (j := 3) rfl)
  refine z_istore zh dX6_readNumber_8 (by decide) (L' := [some (rf g 541), some (.int a1), some (.int a2), some (.int a3), some (.int x1), none]) rfl ?_
  refine z_iconst zh dX6_readNumber_10 ki_0 ?_
  refine z_istore zh dX6_readNumber_11 (by decide) (L' := [some (rf g 541), some (.int a1), some (.int a2), some (.int a3), some (.int x1), some (.int (nI 0))]) rfl ?_
  have J13 : ∀ (n : Nat) (iv : Iv) (lv : Lv) (x2 : Int32) (x3 : Int32), SI sp σ iv → Ra 0 401 x2 → 401 - x2.toInt < (n : Int) → Z 13 [some (rf g 541), some (.int a1), some (.int a2), some (.int a3), some (.int x2), some (.int x3)] [] iv lv := by
    intro n
    induction n with
    | zero => intro iv lv x2 x3 hG hx2 hn13; exact (ms_uz hx2 hn13).elim
    | succ n ih13 =>
      intro iv lv x2 x3 hG hx2 hn13
      refine z_iload zh dX6_readNumber_13 rfl ?_
      refine z_aloadnR zh dX6_readNumber_15 rfl ?_
      refine y_getI zh fl_Reader_15 dX6_readNumber_16 ck_R rfl rfl (fun x4 ex4 => ?_)
      have hx4 : Ra 0 400 x4 := ra_of ex4 (si_c hG (k := 541) (j := 1) rfl)
      have J79 : ∀ (iv : Iv) (lv : Lv), SI sp σ iv → Z 79 [some (rf g 541), some (.int a1), some (.int a2), some (.int a3), some (.int x2), some (.int x3)] [] iv lv := by
        intro iv lv hG
        refine z_iload zh dX6_readNumber_79 rfl ?_
        refine z_aloadnR zh dX6_readNumber_81 rfl ?_
        refine y_getI zh fl_Reader_28 dX6_readNumber_82 ck_R rfl rfl (fun x5 ex5 => ?_)
        have hx5 : Ra 0 401 x5 := ra_of ex5 (si_c hG (k := 541) (j := 3) rfl)
        have J128 : ∀ (iv : Iv) (lv : Lv), SI sp σ iv → Z 128 [some (rf g 541), some (.int a1), some (.int a2), some (.int a3), some (.int x2), some (.int x3)] [] iv lv := by
          intro iv lv hG
          refine z_aloadnR zh dX6_readNumber_128 rfl ?_
          refine z_getf zh fl_Reader_24 dX6_readNumber_129 ck_R rfl rfl ?_
          refine z_iloadn zh dX6_readNumber_132 rfl ?_
          refine z_iloadn zh dX6_readNumber_133 rfl ?_
          refine z_iload zh dX6_readNumber_134 rfl ?_
          refine z_callVV zh mv_Reader_57 dX6_readNumber_136 (ck_T isT_r) rfl (s_X7_put g isT_r hG (pr_f hG hq)) ⟨Nat.le_of_ble_eq_true rfl, Nat.le_of_ble_eq_true rfl⟩ rfl rfl (Nat.le_of_ble_eq_true rfl) ?_
          rintro iv lv hG
          refine z_aloadnR zh dX6_readNumber_139 rfl ?_
          refine z_iload zh dX6_readNumber_140 rfl ?_
          refine z_putI zh fl_Reader_28 dX6_readNumber_142 ck_R rfl rfl (Nat.le_of_ble_eq_true rfl) (Or.inl rfl) ?_
          have hG : SI sp σ (upI iv 541 3 x2) := si_w (k := 541) (j := 3) hG (by decide) (by decide) (sq_no hq rfl) (rx_some hx2)
          generalize upI iv 541 3 x2 = iv at hG  ⊢
          exact z_vret zh dX6_readNumber_145 ⟨rfl, hG⟩
        have J99 : ∀ (iv : Iv) (lv : Lv), SI sp σ iv → Z 99 [some (rf g 541), some (.int a1), some (.int a2), some (.int a3), some (.int x2), some (.int x3)] [] iv lv := by
          intro iv lv hG
          refine z_aloadnR zh dX6_readNumber_99 rfl ?_
          refine z_iconst zh dX6_readNumber_100 ki_1 ?_
          refine z_callVV zh mv_Reader_50 dX6_readNumber_101 ck_R rfl (s_X6_failHere g (ra_w rl_1 (by decide) (by decide)) hG hq) ⟨Nat.le_of_ble_eq_true rfl, Nat.le_of_ble_eq_true rfl⟩ rfl rfl (Nat.le_of_ble_eq_true rfl) ?_
          rintro iv lv hG
          refine z_goto (tgt := 128) zh dX6_readNumber_104 rfl ?_
          exact J128 iv lv hG
        refine z_icmp_eq (tgt := 99) zh dX6_readNumber_85 rfl (fun q6 => ?_) (fun q6 => ?_)
        · exact J99 iv lv hG
        · refine z_iload zh dX6_readNumber_88 rfl ?_
          refine z_aloadnR zh dX6_readNumber_90 rfl ?_
          refine z_getI (x := x5) zh fl_Reader_28 dX6_readNumber_91 ck_R rfl rfl ex5 ?_
          refine y_isub zh dX6_readNumber_94 hx2 hx5 (u := (-401)) (v := 401) rfl rfl (by decide) (by decide) (fun x8 hc8 hx8 => ?_)
          refine z_iconst zh dX6_readNumber_95 ki_4 ?_
          refine z_icmp_le (tgt := 107) zh dX6_readNumber_96 rfl (fun q9 => ?_) (fun q9 => ?_)
          · have r10 : Ra (-401) 4 x8 := rb_le_l rl_4 hx8 q9 (by decide)
            refine z_iload zh dX6_readNumber_107 rfl ?_
            refine z_iloadn zh dX6_readNumber_109 rfl ?_
            refine z_callSI zh ms_Reader_88 dX6_readNumber_110 (s_X6_leastOf g  hG) ⟨Nat.le_of_ble_eq_true rfl, Nat.le_of_ble_eq_true rfl⟩ rfl rfl (Nat.le_of_ble_eq_true rfl) ?_
            rintro x11 _ _ ⟨rfl, rfl, hx11⟩
            refine z_iloadn zh dX6_readNumber_113 rfl ?_
            refine z_callSI zh ms_Reader_92 dX6_readNumber_114 (s_X6_mostOf g  hG) ⟨Nat.le_of_ble_eq_true rfl, Nat.le_of_ble_eq_true rfl⟩ rfl rfl (Nat.le_of_ble_eq_true rfl) ?_
            rintro x12 _ _ ⟨rfl, rfl, hx12⟩
            refine z_callSI zh ms_Reader_84 dX6_readNumber_117 (s_X8_within g) ⟨Nat.le_of_ble_eq_true rfl, Nat.le_of_ble_eq_true rfl⟩ rfl rfl (Nat.le_of_ble_eq_true rfl) ?_
            rintro x13 _ _ ⟨rfl, rfl, hx13, hz14⟩
            refine z_if_ne (tgt := 128) zh dX6_readNumber_120 rfl (fun q15 => ?_) (fun q15 => ?_)
            · have r16 : Ra 1 1 x13 := rb_ne_lo hx13 ra_z q15 (by decide)
              have r17 : Ra 0 9999 x3 := (rb_in hx11 hx12 (hz14 q15))
              exact J128 iv lv hG
            · have r18 := rb_eq (u := 0) (v := 0) hx13 ra_z q15 (by decide) (by decide)
              refine z_aloadnR zh dX6_readNumber_123 rfl ?_
              refine z_iconst zh dX6_readNumber_124 ki_2 ?_
              refine z_callVV zh mv_Reader_50 dX6_readNumber_125 ck_R rfl (s_X6_failHere g (ra_w rl_2 (by decide) (by decide)) hG hq) ⟨Nat.le_of_ble_eq_true rfl, Nat.le_of_ble_eq_true rfl⟩ rfl rfl (Nat.le_of_ble_eq_true rfl) ?_
              rintro iv lv hG
              exact J128 iv lv hG
          · have r19 : Ra 5 401 x8 := rb_lt_r rl_4 hx8 (rb_nle q9) (by decide)
            exact J99 iv lv hG
      refine z_icmp_ge (tgt := 79) zh dX6_readNumber_19 rfl (fun q20 => ?_) (fun q20 => ?_)
      · exact J79 iv lv hG
      · have r21 : Ra 0 399 x2 := rb_lt_l hx4 hx2 (rb_nle q20) (by decide)
        have r22 : Ra 1 400 x4 := rb_lt_r hx2 hx4 (rb_nle q20) (by decide)
        refine z_aloadnR zh dX6_readNumber_22 rfl ?_
        refine z_getf zh fl_Reader_9 dX6_readNumber_23 ck_R rfl rfl ?_
        refine z_iload zh dX6_readNumber_26 rfl ?_
        refine y_iald zh ck_tape dX6_readNumber_28 r21 (by decide) (by decide) (fun x23 ex23 => ?_)
        refine z_bipush zh dX6_readNumber_29 kb_48 ?_
        refine z_bipush zh dX6_readNumber_31 kb_57 ?_
        refine z_callSI zh ms_Reader_84 dX6_readNumber_33 (s_X8_within g) ⟨Nat.le_of_ble_eq_true rfl, Nat.le_of_ble_eq_true rfl⟩ rfl rfl (Nat.le_of_ble_eq_true rfl) ?_
        rintro x24 _ _ ⟨rfl, rfl, hx24, hz25⟩
        refine z_if_eq (tgt := 79) zh dX6_readNumber_36 rfl (fun q26 => ?_) (fun q26 => ?_)
        · have r27 := rb_eq (u := 0) (v := 0) hx24 ra_z q26 (by decide) (by decide)
          exact J79 iv lv hG
        · have r28 : Ra 1 1 x24 := rb_ne_lo hx24 ra_z q26 (by decide)
          have r29 : Ra 48 57 x23 := (rb_in rl_48 rl_57 (hz25 q26))
          refine z_iload zh dX6_readNumber_39 rfl ?_
          refine z_aloadnR zh dX6_readNumber_41 rfl ?_
          refine y_getI zh fl_Reader_28 dX6_readNumber_42 ck_R rfl rfl (fun x30 ex30 => ?_)
          have hx30 : Ra 0 401 x30 := ra_of ex30 (si_c hG (k := 541) (j := 3) rfl)
          refine y_isub zh dX6_readNumber_45 r21 hx30 (u := (-401)) (v := 399) rfl rfl (by decide) (by decide) (fun x31 hc31 hx31 => ?_)
          refine z_iconst zh dX6_readNumber_46 ki_4 ?_
          have J71 : ∀ (iv : Iv) (lv : Lv) (x32 : Int32), SI sp σ iv → Z 71 [some (rf g 541), some (.int a1), some (.int a2), some (.int a3), some (.int x2), some (.int x3)] [.int x32] iv lv := by
            intro iv lv x32 hG
            refine z_istore zh dX6_readNumber_71 (by decide) (L' := [some (rf g 541), some (.int a1), some (.int a2), some (.int a3), some (.int x2), some (.int x32)]) rfl ?_
            refine y_iinc (L' := fun z => [some (rf g 541), some (.int a1), some (.int a2), some (.int a3), some (.int z), some (.int x32)]) zh dX6_readNumber_73 (by decide) rfl (by decide +kernel) r21 (u := 1) (v := 400) rfl rfl (by decide) (by decide) (fun _ => rfl) (fun x33 hc33 hx33 => ?_)
            refine z_goto (tgt := 13) zh dX6_readNumber_76 rfl ?_
            exact ih13 iv lv x33 x32 hG (ra_w hx33 (by decide) (by decide)) (ms_up hc33 (by decide) hn13)
          refine z_icmp_ge (tgt := 69) zh dX6_readNumber_47 rfl (fun q34 => ?_) (fun q34 => ?_)
          · have r35 : Ra 4 399 x31 := rb_le_r rl_4 hx31 q34 (by decide)
            refine z_iload zh dX6_readNumber_69 rfl ?_
            exact J71 iv lv x3 hG
          · have r36 : Ra (-401) 3 x31 := rb_lt_l rl_4 hx31 (rb_nle q34) (by decide)
            refine z_iload zh dX6_readNumber_50 rfl ?_
            refine z_bipush zh dX6_readNumber_52 kb_10 ?_
            refine y_imulT zh dX6_readNumber_54 (fun x37 => ?_)
            refine z_aloadnR zh dX6_readNumber_55 rfl ?_
            refine z_getf zh fl_Reader_9 dX6_readNumber_56 ck_R rfl rfl ?_
            refine z_iload zh dX6_readNumber_59 rfl ?_
            refine y_iald zh ck_tape dX6_readNumber_61 r21 (by decide) (by decide) (fun x38 ex38 => ?_)
            refine y_iaddT zh dX6_readNumber_62 (fun x39 => ?_)
            refine z_bipush zh dX6_readNumber_63 kb_48 ?_
            refine y_isubT zh dX6_readNumber_65 (fun x40 => ?_)
            refine z_goto (tgt := 71) zh dX6_readNumber_66 rfl ?_
            exact J71 iv lv x40 hG
  exact J13 402 iv lv x1 (nI 0) hG hx1 (ms_u0 hx1 (by decide))
set_option maxRecDepth 20000 in
theorem s_X6_wordHere (g : GE) {sp : Nat → Nat → Bool} {σ : Iv} {iv : Iv} {lv : Lv}   (hG : SI sp σ iv)  : ConI g yX6_wordHere cX6_wordHere 2 (some .int) 4 [rf g 541] iv lv (fun r iv' lv' => iv = iv' ∧ lv = lv' ∧ Ra (-1) 9 r) := by
  refine con_intro (own := "RollingNets$Reader") (by decide +kernel) rfl (Nat.le_of_ble_eq_true rfl) (L0 := [some (rf g 541), none]) rfl (fun Z zh => ?_)
  refine z_iconst zh dX6_wordHere_0 ki_0 ?_
  refine z_istoren zh dX6_wordHere_1 (by decide) (L' := [some (rf g 541), some (.int (nI 0))]) rfl ?_
  have J2 : ∀ (n : Nat) (x1 : Int32), Ra 0 10 x1 → 10 - x1.toInt < (n : Int) → Z 2 [some (rf g 541), some (.int x1)] [] iv lv := by
    intro n
    induction n with
    | zero => intro x1 hx1 hn2; exact (ms_uz hx1 hn2).elim
    | succ n ih2 =>
      intro x1 hx1 hn2
      refine z_iloadn zh dX6_wordHere_2 rfl ?_
      refine z_bipush zh dX6_wordHere_3 kb_10 ?_
      refine z_icmp_ge (tgt := 27) zh dX6_wordHere_5 rfl (fun q2 => ?_) (fun q2 => ?_)
      · have r3 : Ra 10 10 x1 := rb_le_r rl_10 hx1 q2 (by decide)
        refine z_iconst zh dX6_wordHere_27 ki_m1 ?_
        exact z_iret zh dX6_wordHere_28 ⟨_, rfl, rfl, rfl, (ra_w rl_n1 (by decide) (by decide))⟩
      · have r4 : Ra 0 9 x1 := rb_lt_l rl_10 hx1 (rb_nle q2) (by decide)
        refine z_aloadnR zh dX6_wordHere_8 rfl ?_
        refine z_iloadn zh dX6_wordHere_9 rfl ?_
        refine z_callSI zh ms_Reader_61 dX6_wordHere_10 (s_X6_wordOf g r4 hG) ⟨Nat.le_of_ble_eq_true rfl, Nat.le_of_ble_eq_true rfl⟩ rfl rfl (Nat.le_of_ble_eq_true rfl) ?_
        rintro x5 _ _ ⟨rfl, rfl, _⟩
        refine z_callVI zh mv_Reader_95 dX6_wordHere_13 ck_R rfl (s_X6_isHere g  hG) ⟨Nat.le_of_ble_eq_true rfl, Nat.le_of_ble_eq_true rfl⟩ rfl rfl (Nat.le_of_ble_eq_true rfl) ?_
        rintro x6 _ _ ⟨rfl, rfl, hx6⟩
        refine z_if_eq (tgt := 21) zh dX6_wordHere_16 rfl (fun q7 => ?_) (fun q7 => ?_)
        · have r8 := rb_eq (u := 0) (v := 0) hx6 ra_z q7 (by decide) (by decide)
          refine y_iinc (L' := fun z => [some (rf g 541), some (.int z)]) zh dX6_wordHere_21 (by decide) rfl (by decide +kernel) r4 (u := 1) (v := 10) rfl rfl (by decide) (by decide) (fun _ => rfl) (fun x9 hc9 hx9 => ?_)
          refine z_goto (tgt := 2) zh dX6_wordHere_24 rfl ?_
          exact ih2 x9 (ra_w hx9 (by decide) (by decide)) (ms_up hc9 (by decide) hn2)
        · have r10 : Ra 1 1 x6 := rb_ne_lo hx6 ra_z q7 (by decide)
          refine z_iloadn zh dX6_wordHere_19 rfl ?_
          exact z_iret zh dX6_wordHere_20 ⟨_, rfl, rfl, rfl, (ra_w r4 (by decide) (by decide))⟩
  exact J2 11 (nI 0) (ra_w rl_0 (by decide) (by decide)) (ms_u0 rl_0 (by decide))
set_option maxRecDepth 20000 in
theorem s_X6_read (g : GE) {sp : Nat → Nat → Bool} {σ : Iv} {iv : Iv} {lv : Lv}   (hG : SI sp σ iv) (hq : Sq sp) (hL : sp 541 1 = false) : ConI g yX6_read cX6_read 2 (some .boolean) 6 [rf g 541] iv lv (fun r iv lv => SI sp σ iv ∧ Ra 0 1 r) := by
  refine con_intro (own := "RollingNets$Reader") (by decide +kernel) rfl (Nat.le_of_ble_eq_true rfl) (L0 := [some (rf g 541), none]) rfl (fun Z zh => ?_)
  refine z_aloadnR zh dX6_read_0 rfl ?_
  refine z_getf zh fl_Reader_24 dX6_read_1 ck_R rfl rfl ?_
  refine z_callVV zh mv_Reader_37 dX6_read_4 (ck_T isT_r) rfl (s_X7_clear g isT_r hG hq) ⟨Nat.le_of_ble_eq_true rfl, Nat.le_of_ble_eq_true rfl⟩ rfl rfl (Nat.le_of_ble_eq_true rfl) ?_
  rintro iv lv hG
  refine z_aloadnR zh dX6_read_7 rfl ?_
  refine z_iconst zh dX6_read_8 ki_0 ?_
  refine z_putI zh fl_Reader_28 dX6_read_9 ck_R rfl rfl (Nat.le_of_ble_eq_true rfl) (Or.inl rfl) ?_
  have hG : SI sp σ (upI iv 541 3 (nI 0)) := si_w (k := 541) (j := 3) hG (by decide) (by decide) (sq_no hq rfl) (rx_some (ra_w rl_0 (by decide) (by decide)))
  generalize upI iv 541 3 (nI 0) = iv at hG  ⊢
  refine z_aloadnR zh dX6_read_12 rfl ?_
  refine z_iconst zh dX6_read_13 ki_0 ?_
  refine z_putI zh fl_Reader_31 dX6_read_14 ck_R rfl rfl (Nat.le_of_ble_eq_true rfl) (Or.inl rfl) ?_
  have hG : SI sp σ (upI iv 541 4 (nI 0)) := si_w (k := 541) (j := 4) hG (by decide) (by decide) (sq_no hq rfl) (rx_none rfl)
  generalize upI iv 541 4 (nI 0) = iv at hG  ⊢
  refine z_aloadnR zh dX6_read_17 rfl ?_
  refine z_iconst zh dX6_read_18 ki_m1 ?_
  refine z_putI zh fl_Reader_34 dX6_read_19 ck_R rfl rfl (Nat.le_of_ble_eq_true rfl) (Or.inl rfl) ?_
  have hG : SI sp σ (upI iv 541 5 (-1)) := si_w (k := 541) (j := 5) hG (by decide) (by decide) (sq_no hq rfl) (rx_none rfl)
  generalize upI iv 541 5 (-1) = iv at hG  ⊢
  refine z_aloadnR zh dX6_read_22 rfl ?_
  refine z_callVV zh mv_Reader_40 dX6_read_23 ck_R rfl (s_X6_skipBlanks g  hG hq) ⟨Nat.le_of_ble_eq_true rfl, Nat.le_of_ble_eq_true rfl⟩ rfl rfl (Nat.le_of_ble_eq_true rfl) ?_
  rintro iv lv hG
  refine z_iconst zh dX6_read_26 ki_0 ?_
  refine z_istoren zh dX6_read_27 (by decide) (L' := [some (rf g 541), some (.int (nI 0))]) rfl ?_
  have J28 : ∀ (n : Nat) (iv : Iv) (lv : Lv) (x1 : Int32), SI sp σ iv → Ra 0 25 x1 → 25 - x1.toInt < (n : Int) → Z 28 [some (rf g 541), some (.int x1)] [] iv lv := by
    intro n
    induction n with
    | zero => intro iv lv x1 hG hx1 hn28; exact (ms_uz hx1 hn28).elim
    | succ n ih28 =>
      intro iv lv x1 hG hx1 hn28
      refine z_iloadn zh dX6_read_28 rfl ?_
      refine z_bipush zh dX6_read_29 kb_24 ?_
      have J66 : ∀ (iv : Iv) (lv : Lv), SI sp σ iv → Z 66 [some (rf g 541), some (.int x1)] [] iv lv := by
        intro iv lv hG
        refine z_aloadnR zh dX6_read_66 rfl ?_
        refine z_iconst zh dX6_read_67 ki_0 ?_
        refine z_putI zh fl_Reader_15 dX6_read_68 ck_R rfl rfl (Nat.le_of_ble_eq_true rfl) (Or.inl rfl) ?_
        have hG : SI sp σ (upI iv 541 1 (nI 0)) := si_w (k := 541) (j := 1) hG (by decide) (by decide) hL (rx_some (ra_w rl_0 (by decide) (by decide)))
        generalize upI iv 541 1 (nI 0) = iv at hG  ⊢
        refine z_aloadnR zh dX6_read_71 rfl ?_
        refine y_getI zh fl_Reader_31 dX6_read_72 ck_R rfl rfl (fun x2 ex2 => ?_)
        refine z_if_ne (tgt := 82) zh dX6_read_75 rfl (fun q3 => ?_) (fun q3 => ?_)
        · refine z_iconst zh dX6_read_82 ki_0 ?_
          exact z_zret zh dX6_read_83 (ra_01 (ra_w rl_0 (by decide) (by decide))) ⟨_, rfl, hG, (ra_w rl_0 (by decide) (by decide))⟩
        · have r4 := rb_eq (u := 0) (v := 0) (ra_tt x2) ra_z q3 (by decide) (by decide)
          refine z_iconst zh dX6_read_78 ki_1 ?_
          refine z_goto (tgt := 83) zh dX6_read_79 rfl ?_
          exact z_zret zh dX6_read_83 (ra_01 (ra_w rl_1 (by decide) (by decide))) ⟨_, rfl, hG, (ra_w rl_1 (by decide) (by decide))⟩
      refine z_icmp_gt (tgt := 66) zh dX6_read_31 rfl (fun q5 => ?_) (fun q5 => ?_)
      · have r6 : Ra 25 25 x1 := rb_lt_r rl_24 hx1 q5 (by decide)
        exact J66 iv lv hG
      · have r7 : Ra 0 24 x1 := rb_le_l rl_24 hx1 (rb_nlt q5) (by decide)
        refine z_aloadnR zh dX6_read_34 rfl ?_
        refine y_getI zh fl_Reader_28 dX6_read_35 ck_R rfl rfl (fun x8 ex8 => ?_)
        have hx8 : Ra 0 401 x8 := ra_of ex8 (si_c hG (k := 541) (j := 3) rfl)
        refine z_aloadnR zh dX6_read_38 rfl ?_
        refine y_getI zh fl_Reader_15 dX6_read_39 ck_R rfl rfl (fun x9 ex9 => ?_)
        have hx9 : Ra 0 400 x9 := ra_of ex9 (si_c hG (k := 541) (j := 1) rfl)
        refine z_icmp_ge (tgt := 66) zh dX6_read_42 rfl (fun q10 => ?_) (fun q10 => ?_)
        · exact J66 iv lv hG
        · have r11 : Ra 0 399 x8 := rb_lt_l hx9 hx8 (rb_nle q10) (by decide)
          have r12 : Ra 1 400 x9 := rb_lt_r hx8 hx9 (rb_nle q10) (by decide)
          refine z_aloadnR zh dX6_read_45 rfl ?_
          refine y_getI zh fl_Reader_31 dX6_read_46 ck_R rfl rfl (fun x13 ex13 => ?_)
          refine z_if_ne (tgt := 66) zh dX6_read_49 rfl (fun q14 => ?_) (fun q14 => ?_)
          · exact J66 iv lv hG
          · have r15 := rb_eq (u := 0) (v := 0) (ra_tt x13) ra_z q14 (by decide) (by decide)
            refine z_aloadnR zh dX6_read_52 rfl ?_
            refine z_callVV zh mv_Reader_43 dX6_read_53 ck_R rfl (s_X6_readLine g  hG hq) ⟨Nat.le_of_ble_eq_true rfl, Nat.le_of_ble_eq_true rfl⟩ rfl rfl (Nat.le_of_ble_eq_true rfl) ?_
            rintro iv lv hG
            refine z_aloadnR zh dX6_read_56 rfl ?_
            refine z_callVV zh mv_Reader_40 dX6_read_57 ck_R rfl (s_X6_skipBlanks g  hG hq) ⟨Nat.le_of_ble_eq_true rfl, Nat.le_of_ble_eq_true rfl⟩ rfl rfl (Nat.le_of_ble_eq_true rfl) ?_
            rintro iv lv hG
            refine y_iinc (L' := fun z => [some (rf g 541), some (.int z)]) zh dX6_read_60 (by decide) rfl (by decide +kernel) r7 (u := 1) (v := 25) rfl rfl (by decide) (by decide) (fun _ => rfl) (fun x16 hc16 hx16 => ?_)
            refine z_goto (tgt := 28) zh dX6_read_63 rfl ?_
            exact ih28 iv lv x16 hG (ra_w hx16 (by decide) (by decide)) (ms_up hc16 (by decide) hn28)
  exact J28 26 iv lv (nI 0) hG (ra_w rl_0 (by decide) (by decide)) (ms_u0 rl_0 (by decide))
