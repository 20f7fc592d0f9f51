/-! NOTICES: all that the left parts hang on is kept -/
set_option maxRecDepth 20000 in
theorem k_X5_addNotice (g : GE) {sp : Nat → Nat → Bool} {σ : Iv} {iv : Iv} {lv : Lv} {h : Nat} {a1 : Int32} {a2 : Int32} {a3 : Int32} {a4 : Int32} (hh : isH h) (ha1 : Ra 0 11 a1) (hG : SI sp σ iv) (hq : Sk sp) : ConI g yX5_addNotice cX5_addNotice 7 (some .int) 3 [rf g h, .int a1, .int a2, .int a3, .int a4] iv lv (fun r iv lv => SI sp σ iv ∧ Ra (-1) 59 r) := by
  refine con_intro (own := "RollingNets$Notices") (by decide +kernel) rfl (Nat.le_of_ble_eq_true rfl) (L0 := [some (rf g h), some (.int a1), some (.int a2), some (.int a3), some (.int a4), none, none]) rfl (fun Z zh => ?_)
  refine z_aloadnR zh dX5_addNotice_0 rfl ?_
  refine z_getf zh fl_Notices_9 dX5_addNotice_1 (ck_H hh) rfl rfl ?_
  refine z_astore zh dX5_addNotice_4 (by decide) (L' := [some (rf g h), some (.int a1), some (.int a2), some (.int a3), some (.int a4), some (rf g (h + 17)), none]) rfl ?_
  refine z_aloadR zh dX5_addNotice_6 rfl ?_
  refine z_callVI zh mv_Notices_103 dX5_addNotice_8 (ck_T (isT_n hh)) rfl (s_X7_addRow g (isT_n hh) hG (ark_n hG hq hh).1 (ark_n hG hq hh).2) ⟨Nat.le_of_ble_eq_true rfl, Nat.le_of_ble_eq_true rfl⟩ rfl rfl (Nat.le_of_ble_eq_true rfl) ?_
  rintro x1 iv lv ⟨hG, hx1⟩
  refine z_istore zh dX5_addNotice_11 (by decide) (L' := [some (rf g h), some (.int a1), some (.int a2), some (.int a3), some (.int a4), some (rf g (h + 17)), some (.int x1)]) rfl ?_
  refine z_aloadR zh dX5_addNotice_13 rfl ?_
  refine z_iconst zh dX5_addNotice_15 ki_0 ?_
  refine z_iload zh dX5_addNotice_16 rfl ?_
  refine z_iloadn zh dX5_addNotice_18 rfl ?_
  refine z_callVV zh mv_Notices_64 dX5_addNotice_19 (ck_T (isT_n hh)) rfl (s_X7_put g (isT_n hh) hG (pn_r hG hh rl_0 (by decide) ha1)) ⟨Nat.le_of_ble_eq_true rfl, Nat.le_of_ble_eq_true rfl⟩ rfl rfl (Nat.le_of_ble_eq_true rfl) ?_
  rintro iv lv hG
  refine z_aloadR zh dX5_addNotice_22 rfl ?_
  refine z_iconst zh dX5_addNotice_24 ki_1 ?_
  refine z_iload zh dX5_addNotice_25 rfl ?_
  refine z_iloadn zh dX5_addNotice_27 rfl ?_
  refine z_callVV zh mv_Notices_64 dX5_addNotice_28 (ck_T (isT_n hh)) rfl (s_X7_put g (isT_n hh) hG (pn_f hG hh rl_1 (by decide))) ⟨Nat.le_of_ble_eq_true rfl, Nat.le_of_ble_eq_true rfl⟩ rfl rfl (Nat.le_of_ble_eq_true rfl) ?_
  rintro iv lv hG
  refine z_aloadR zh dX5_addNotice_31 rfl ?_
  refine z_iconst zh dX5_addNotice_33 ki_2 ?_
  refine z_iload zh dX5_addNotice_34 rfl ?_
  refine z_iloadn zh dX5_addNotice_36 rfl ?_
  refine z_callVV zh mv_Notices_64 dX5_addNotice_37 (ck_T (isT_n hh)) rfl (s_X7_put g (isT_n hh) hG (pn_f hG hh rl_2 (by decide))) ⟨Nat.le_of_ble_eq_true rfl, Nat.le_of_ble_eq_true rfl⟩ rfl rfl (Nat.le_of_ble_eq_true rfl) ?_
  rintro iv lv hG
  refine z_aloadR zh dX5_addNotice_40 rfl ?_
  refine z_iconst zh dX5_addNotice_42 ki_3 ?_
  refine z_iload zh dX5_addNotice_43 rfl ?_
  refine z_aloadnR zh dX5_addNotice_45 rfl ?_
  refine y_getI zh fl_Notices_78 dX5_addNotice_46 (ck_H hh) rfl rfl (fun x2 ex2 => ?_)
  have hx2 : Ra 0 99 x2 := ra_of ex2 (si_H hG hh 0 (by decide) rfl)
  refine z_aloadnR zh dX5_addNotice_49 rfl ?_
  refine z_getf zh fl_Notices_81 dX5_addNotice_50 (ck_H hh) rfl rfl ?_
  refine z_iconst zh dX5_addNotice_53 ki_4 ?_
  refine y_ialdN zh (ck_told hh) dX5_addNotice_54 (by decide) (fun x3 ex3 => ?_)
  refine y_iaddT zh dX5_addNotice_55 (fun x4 => ?_)
  refine z_callVV zh mv_Notices_64 dX5_addNotice_56 (ck_T (isT_n hh)) rfl (s_X7_put g (isT_n hh) hG (pn_f hG hh rl_3 (by decide))) ⟨Nat.le_of_ble_eq_true rfl, Nat.le_of_ble_eq_true rfl⟩ rfl rfl (Nat.le_of_ble_eq_true rfl) ?_
  rintro iv lv hG
  refine z_aloadR zh dX5_addNotice_59 rfl ?_
  refine z_iconst zh dX5_addNotice_61 ki_4 ?_
  refine z_iload zh dX5_addNotice_62 rfl ?_
  refine z_iconst zh dX5_addNotice_64 ki_1 ?_
  refine z_callVV zh mv_Notices_64 dX5_addNotice_65 (ck_T (isT_n hh)) rfl (s_X7_put g (isT_n hh) hG (pn_f hG hh rl_4 (by decide))) ⟨Nat.le_of_ble_eq_true rfl, Nat.le_of_ble_eq_true rfl⟩ rfl rfl (Nat.le_of_ble_eq_true rfl) ?_
  rintro iv lv hG
  refine z_aloadR zh dX5_addNotice_68 rfl ?_
  refine z_iconst zh dX5_addNotice_70 ki_5 ?_
  refine z_iload zh dX5_addNotice_71 rfl ?_
  refine z_iload zh dX5_addNotice_73 rfl ?_
  refine z_callVV zh mv_Notices_64 dX5_addNotice_75 (ck_T (isT_n hh)) rfl (s_X7_put g (isT_n hh) hG (pn_f hG hh rl_5 (by decide))) ⟨Nat.le_of_ble_eq_true rfl, Nat.le_of_ble_eq_true rfl⟩ rfl rfl (Nat.le_of_ble_eq_true rfl) ?_
  rintro iv lv hG
  refine z_iload zh dX5_addNotice_78 rfl ?_
  exact z_iret zh dX5_addNotice_80 ⟨_, rfl, hG, hx1⟩
set_option maxRecDepth 20000 in
theorem k_X5_giveNet (g : GE) {sp : Nat → Nat → Bool} {σ : Iv} {iv : Iv} {lv : Lv} {h : Nat} {a1 : Int32} {a2 : Int32} {a3 : Int32} (hh : isH h) (hG : SI sp σ iv) (hq : Sk sp) : ConI g yX5_giveNet cX5_giveNet 7 (some .int) 5 [rf g h, .int a1, .int a2, .int a3] iv lv (fun r iv lv => SI sp σ iv ∧ Ra (-1) 59 r) := by
  refine con_intro (own := "RollingNets$Notices") (by decide +kernel) rfl (Nat.le_of_ble_eq_true rfl) (L0 := [some (rf g h), some (.int a1), some (.int a2), some (.int a3), none, none, none]) rfl (fun Z zh => ?_)
  refine z_aloadnR zh dX5_giveNet_0 rfl ?_
  refine z_iloadn zh dX5_giveNet_1 rfl ?_
  refine z_callVI zh mv_Notices_29 dX5_giveNet_2 (ck_H hh) rfl (s_X1_hasMember g hh hG) ⟨Nat.le_of_ble_eq_true rfl, Nat.le_of_ble_eq_true rfl⟩ rfl rfl (Nat.le_of_ble_eq_true rfl) ?_
  rintro x1 _ _ ⟨rfl, rfl, hx1, hz2⟩
  refine z_if_eq (tgt := 25) zh dX5_giveNet_5 rfl (fun q3 => ?_) (fun q3 => ?_)
  · have r4 := rb_eq (u := 0) (v := 0) hx1 ra_z q3 (by decide) (by decide)
    refine z_iconst zh dX5_giveNet_25 ki_m1 ?_
    exact z_iret zh dX5_giveNet_26 ⟨_, rfl, hG, (ra_w rl_n1 (by decide) (by decide))⟩
  · have r5 : Ra 1 1 x1 := rb_ne_lo hx1 ra_z q3 (by decide)
    have r6 : Ra 0 11 a1 := (hz2 q3)
    refine z_iloadn zh dX5_giveNet_8 rfl ?_
    refine z_callSI zh ms_Notices_33 dX5_giveNet_9 (s_X8_isIssue g  hG) ⟨Nat.le_of_ble_eq_true rfl, Nat.le_of_ble_eq_true rfl⟩ rfl rfl (Nat.le_of_ble_eq_true rfl) ?_
    rintro x7 _ _ ⟨rfl, rfl, hx7, hz8⟩
    refine z_if_eq (tgt := 25) zh dX5_giveNet_12 rfl (fun q9 => ?_) (fun q9 => ?_)
    · have r10 := rb_eq (u := 0) (v := 0) hx7 ra_z q9 (by decide) (by decide)
      refine z_iconst zh dX5_giveNet_25 ki_m1 ?_
      exact z_iret zh dX5_giveNet_26 ⟨_, rfl, hG, (ra_w rl_n1 (by decide) (by decide))⟩
    · have r11 : Ra 1 1 x7 := rb_ne_lo hx7 ra_z q9 (by decide)
      have r12 : Ra 0 5 a2 := (hz8 q9)
      refine z_aloadnR zh dX5_giveNet_15 rfl ?_
      refine z_getf zh fl_Notices_9 dX5_giveNet_16 (ck_H hh) rfl rfl ?_
      obtain ⟨x13, ex13⟩ : ∃ z, iv (h + 17) 2 = z := ⟨_, rfl⟩
      have hx13 : Ra 0 60 x13 := ra_of ex13 (si_T hG (isT_n hh))
      refine z_callVI zh mv_Notices_36 dX5_giveNet_19 (ck_T (isT_n hh)) rfl (s_X7_isFull g (isT_n hh) ex13) ⟨Nat.le_of_ble_eq_true rfl, Nat.le_of_ble_eq_true rfl⟩ rfl rfl (Nat.le_of_ble_eq_true rfl) ?_
      rintro x14 _ _ ⟨rfl, rfl, hx14, _⟩
      refine z_if_eq (tgt := 27) zh dX5_giveNet_22 rfl (fun q15 => ?_) (fun q15 => ?_)
      · have r16 := rb_eq (u := 0) (v := 0) hx14 ra_z q15 (by decide) (by decide)
        refine z_iloadn zh dX5_giveNet_27 rfl ?_
        refine z_iconst zh dX5_giveNet_28 ki_1 ?_
        refine z_icmp_lt (tgt := 42) zh dX5_giveNet_29 rfl (fun q17 => ?_) (fun q17 => ?_)
        · have r18 : Ra (-2147483648) 0 a3 := rb_lt_l rl_1 (ra_tt a3) q17 (by decide)
          refine z_iconst zh dX5_giveNet_42 ki_m1 ?_
          exact z_iret zh dX5_giveNet_43 ⟨_, rfl, hG, (ra_w rl_n1 (by decide) (by decide))⟩
        · have r19 : Ra 1 2147483647 a3 := rb_le_r rl_1 (ra_tt a3) (rb_nlt q17) (by decide)
          refine z_iloadn zh dX5_giveNet_32 rfl ?_
          refine z_aloadnR zh dX5_giveNet_33 rfl ?_
          refine z_iloadn zh dX5_giveNet_34 rfl ?_
          refine z_iloadn zh dX5_giveNet_35 rfl ?_
          refine z_callSI zh ms_Notices_40 dX5_giveNet_36 (s_X5_agedLong g hh r6 r12 hG) ⟨Nat.le_of_ble_eq_true rfl, Nat.le_of_ble_eq_true rfl⟩ rfl rfl (Nat.le_of_ble_eq_true rfl) ?_
          rintro x20 _ _ ⟨rfl, rfl, _⟩
          refine z_icmp_le (tgt := 44) zh dX5_giveNet_39 rfl (fun q21 => ?_) (fun q21 => ?_)
          · have r22 : Ra 1 2147483647 x20 := rb_le_r r19 (ra_tt x20) q21 (by decide)
            refine z_aloadnR zh dX5_giveNet_44 rfl ?_
            refine z_iloadn zh dX5_giveNet_45 rfl ?_
            refine z_callSI zh ms_Notices_46 dX5_giveNet_46 (s_X5_givers g hh r12 hG) ⟨Nat.le_of_ble_eq_true rfl, Nat.le_of_ble_eq_true rfl⟩ rfl rfl (Nat.le_of_ble_eq_true rfl) ?_
            rintro x23 _ _ ⟨rfl, rfl, _⟩
            refine z_iloadn zh dX5_giveNet_49 rfl ?_
            refine y_ishrT zh dX5_giveNet_50 (fun x24 => ?_)
            refine z_iconst zh dX5_giveNet_51 ki_1 ?_
            refine y_iandT zh dX5_giveNet_52 (fun x25 => ?_)
            refine z_if_eq (tgt := 58) zh dX5_giveNet_53 rfl (fun q26 => ?_) (fun q26 => ?_)
            · have r27 := rb_eq (u := 0) (v := 0) (ra_tt x25) ra_z q26 (by decide) (by decide)
              refine z_aloadnR zh dX5_giveNet_58 rfl ?_
              refine z_iloadn zh dX5_giveNet_59 rfl ?_
              refine z_iloadn zh dX5_giveNet_60 rfl ?_
              refine z_callSI zh ms_Notices_50 dX5_giveNet_61 (s_X5_assign g hh r12 r19 hG) ⟨Nat.le_of_ble_eq_true rfl, Nat.le_of_ble_eq_true rfl⟩ rfl rfl (Nat.le_of_ble_eq_true rfl) ?_
              rintro x28 iv lv ⟨hG, _⟩
              refine z_istore zh dX5_giveNet_64 (by decide) (L' := [some (rf g h), some (.int a1), some (.int a2), some (.int a3), some (.int x28), none, none]) rfl ?_
              refine z_iload zh dX5_giveNet_66 rfl ?_
              refine z_if_ne (tgt := 73) zh dX5_giveNet_68 rfl (fun q29 => ?_) (fun q29 => ?_)
              · refine z_aloadnR zh dX5_giveNet_73 rfl ?_
                refine z_iloadn zh dX5_giveNet_74 rfl ?_
                refine z_iloadn zh dX5_giveNet_75 rfl ?_
                refine z_iload zh dX5_giveNet_76 rfl ?_
                refine z_iconst zh dX5_giveNet_78 ki_m1 ?_
                refine z_callSI zh ms_Notices_53 dX5_giveNet_79 (k_X5_addNotice g hh r6 hG hq) ⟨Nat.le_of_ble_eq_true rfl, Nat.le_of_ble_eq_true rfl⟩ rfl rfl (Nat.le_of_ble_eq_true rfl) ?_
                rintro x30 iv lv ⟨hG, hx30⟩
                refine z_istore zh dX5_giveNet_82 (by decide) (L' := [some (rf g h), some (.int a1), some (.int a2), some (.int a3), some (.int x28), some (.int x30), none]) rfl ?_
                refine z_iconst zh dX5_giveNet_84 ki_0 ?_
                refine z_istore zh dX5_giveNet_85 (by decide) (L' := [some (rf g h), some (.int a1), some (.int a2), some (.int a3), some (.int x28), some (.int x30), some (.int (nI 0))]) rfl ?_
                have J87 : ∀ (n : Nat) (iv : Iv) (lv : Lv) (x31 : Int32), SI sp σ iv → Ra 0 12 x31 → 12 - x31.toInt < (n : Int) → Z 87 [some (rf g h), some (.int a1), some (.int a2), some (.int a3), some (.int x28), some (.int x30), some (.int x31)] [] iv lv := by
                  intro n
                  induction n with
                  | zero => intro iv lv x31 hG hx31 hn87; exact (ms_uz hx31 hn87).elim
                  | succ n ih87 =>
                    intro iv lv x31 hG hx31 hn87
                    refine z_iload zh dX5_giveNet_87 rfl ?_
                    refine z_aloadnR zh dX5_giveNet_89 rfl ?_
                    refine z_callVI zh mv_Notices_57 dX5_giveNet_90 (ck_H hh) rfl (s_X1_members g hh hG) ⟨Nat.le_of_ble_eq_true rfl, Nat.le_of_ble_eq_true rfl⟩ rfl rfl (Nat.le_of_ble_eq_true rfl) ?_
                    rintro x32 _ _ ⟨rfl, rfl, hx32⟩
                    refine z_icmp_ge (tgt := 123) zh dX5_giveNet_93 rfl (fun q33 => ?_) (fun q33 => ?_)
                    · have r34 : Ra 2 12 x31 := rb_le_r hx32 hx31 q33 (by decide)
                      refine z_iload zh dX5_giveNet_123 rfl ?_
                      exact z_iret zh dX5_giveNet_125 ⟨_, rfl, hG, hx30⟩
                    · have r35 : Ra 0 11 x31 := rb_lt_l hx32 hx31 (rb_nle q33) (by decide)
                      refine z_aloadnR zh dX5_giveNet_96 rfl ?_
                      refine z_getf zh fl_Notices_9 dX5_giveNet_97 (ck_H hh) rfl rfl ?_
                      refine z_bipush zh dX5_giveNet_100 kb_7 ?_
                      refine z_iload zh dX5_giveNet_102 rfl ?_
                      refine y_iadd zh dX5_giveNet_104 rl_7 r35 (u := 7) (v := 18) rfl rfl (by decide) (by decide) (fun x36 hc36 hx36 => ?_)
                      refine z_iload zh dX5_giveNet_105 rfl ?_
                      refine z_aloadnR zh dX5_giveNet_107 rfl ?_
                      refine z_getf zh fl_Notices_60 dX5_giveNet_108 (ck_H hh) rfl rfl ?_
                      refine z_iload zh dX5_giveNet_111 rfl ?_
                      refine y_iald zh (ck_parts hh) dX5_giveNet_113 r35 (by decide) (by decide) (fun x37 ex37 => ?_)
                      refine z_callVV zh mv_Notices_64 dX5_giveNet_114 (ck_T (isT_n hh)) rfl (s_X7_put g (isT_n hh) hG (pn_f hG hh hx36 (by decide))) ⟨Nat.le_of_ble_eq_true rfl, Nat.le_of_ble_eq_true rfl⟩ rfl rfl (Nat.le_of_ble_eq_true rfl) ?_
                      rintro iv lv hG
                      refine y_iinc (L' := fun z => [some (rf g h), some (.int a1), some (.int a2), some (.int a3), some (.int x28), some (.int x30), some (.int z)]) zh dX5_giveNet_117 (by decide) rfl (by decide +kernel) r35 (u := 1) (v := 12) rfl rfl (by decide) (by decide) (fun _ => rfl) (fun x38 hc38 hx38 => ?_)
                      refine z_goto (tgt := 87) zh dX5_giveNet_120 rfl ?_
                      exact ih87 iv lv x38 hG (ra_w hx38 (by decide) (by decide)) (ms_up hc38 (by decide) hn87)
                exact J87 13 iv lv (nI 0) hG (ra_w rl_0 (by decide) (by decide)) (ms_u0 rl_0 (by decide))
              · have r39 := rb_eq (u := 0) (v := 0) (ra_tt x28) ra_z q29 (by decide) (by decide)
                refine z_iconst zh dX5_giveNet_71 ki_m1 ?_
                exact z_iret zh dX5_giveNet_72 ⟨_, rfl, hG, (ra_w rl_n1 (by decide) (by decide))⟩
            · refine z_iconst zh dX5_giveNet_56 ki_m1 ?_
              exact z_iret zh dX5_giveNet_57 ⟨_, rfl, hG, (ra_w rl_n1 (by decide) (by decide))⟩
          · have r40 : Ra (-2147483648) 2147483646 x20 := rb_lt_l r19 (ra_tt x20) (rb_nle q21) (by decide)
            refine z_iconst zh dX5_giveNet_42 ki_m1 ?_
            exact z_iret zh dX5_giveNet_43 ⟨_, rfl, hG, (ra_w rl_n1 (by decide) (by decide))⟩
      · have r41 : Ra 1 1 x14 := rb_ne_lo hx14 ra_z q15 (by decide)
        refine z_iconst zh dX5_giveNet_25 ki_m1 ?_
        exact z_iret zh dX5_giveNet_26 ⟨_, rfl, hG, (ra_w rl_n1 (by decide) (by decide))⟩
set_option maxRecDepth 20000 in
theorem k_X5_giveApart (g : GE) {sp : Nat → Nat → Bool} {σ : Iv} {iv : Iv} {lv : Lv} {h : Nat} {a1 : Int32} (hh : isH h) (hG : SI sp σ iv) (hq : Sk sp) : ConI g yX5_giveApart cX5_giveApart 4 (some .int) 4 [rf g h, .int a1] iv lv (fun r iv lv => SI sp σ iv ∧ Ra (-1) 59 r) := by
  refine con_intro (own := "RollingNets$Notices") (by decide +kernel) rfl (Nat.le_of_ble_eq_true rfl) (L0 := [some (rf g h), some (.int a1), none, none]) rfl (fun Z zh => ?_)
  refine z_aloadnR zh dX5_giveApart_0 rfl ?_
  refine z_getf zh fl_Notices_106 dX5_giveApart_1 (ck_H hh) rfl rfl ?_
  refine z_astoren zh dX5_giveApart_4 (by decide) (L' := [some (rf g h), some (.int a1), some (rf g (h + 7)), none]) rfl ?_
  refine z_aloadnR zh dX5_giveApart_5 rfl ?_
  refine z_bipush zh dX5_giveApart_6 kb_7 ?_
  refine z_iloadn zh dX5_giveApart_8 rfl ?_
  obtain ⟨x1, ex1⟩ : ∃ z, iv (h + 7) 2 = z := ⟨_, rfl⟩
  have hx1 : Ra 0 200 x1 := ra_of ex1 (si_T hG (isT_d hh))
  refine z_callVI zh mv_Notices_25 dX5_giveApart_9 (ck_T (isT_d hh)) rfl (s_X7_get g (isT_d hh) ex1 hx1) ⟨Nat.le_of_ble_eq_true rfl, Nat.le_of_ble_eq_true rfl⟩ rfl rfl (Nat.le_of_ble_eq_true rfl) ?_
  rintro x2 _ _ ⟨rfl, rfl, gx2⟩
  refine z_istoren zh dX5_giveApart_12 (by decide) (L' := [some (rf g h), some (.int a1), some (rf g (h + 7)), some (.int x2)]) rfl ?_
  refine z_aloadnR zh dX5_giveApart_13 rfl ?_
  refine z_iconst zh dX5_giveApart_14 ki_5 ?_
  refine z_iloadn zh dX5_giveApart_15 rfl ?_
  refine z_callVI zh mv_Notices_25 dX5_giveApart_16 (ck_T (isT_d hh)) rfl (s_X7_get g (isT_d hh) ex1 hx1) ⟨Nat.le_of_ble_eq_true rfl, Nat.le_of_ble_eq_true rfl⟩ rfl rfl (Nat.le_of_ble_eq_true rfl) ?_
  rintro x3 _ _ ⟨rfl, rfl, gx3⟩
  refine z_iconst zh dX5_giveApart_19 ki_1 ?_
  refine z_icmp_ne (tgt := 36) zh dX5_giveApart_20 rfl (fun q4 => ?_) (fun q4 => ?_)
  · refine z_iconst zh dX5_giveApart_36 ki_m1 ?_
    exact z_iret zh dX5_giveApart_37 ⟨_, rfl, hG, (ra_w rl_n1 (by decide) (by decide))⟩
  · have r5 := rb_eq (u := 1) (v := 1) (ra_tt x3) rl_1 q4 (by decide) (by decide)
    refine z_iloadn zh dX5_giveApart_23 rfl ?_
    refine z_iconst zh dX5_giveApart_24 ki_1 ?_
    refine z_icmp_lt (tgt := 36) zh dX5_giveApart_25 rfl (fun q6 => ?_) (fun q6 => ?_)
    · have r7 : Ra (-2147483648) 0 x2 := rb_lt_l rl_1 (ra_tt x2) q6 (by decide)
      refine z_iconst zh dX5_giveApart_36 ki_m1 ?_
      exact z_iret zh dX5_giveApart_37 ⟨_, rfl, hG, (ra_w rl_n1 (by decide) (by decide))⟩
    · have r8 : Ra 1 2147483647 x2 := rb_le_r rl_1 (ra_tt x2) (rb_nlt q6) (by decide)
      refine z_aloadnR zh dX5_giveApart_28 rfl ?_
      refine z_iloadn zh dX5_giveApart_29 rfl ?_
      refine z_callSI zh ms_Notices_109 dX5_giveApart_30 (s_X5_isCalled g hh hG) ⟨Nat.le_of_ble_eq_true rfl, Nat.le_of_ble_eq_true rfl⟩ rfl rfl (Nat.le_of_ble_eq_true rfl) ?_
      rintro x9 _ _ ⟨rfl, rfl, hx9⟩
      refine z_if_eq (tgt := 38) zh dX5_giveApart_33 rfl (fun q10 => ?_) (fun q10 => ?_)
      · have r11 := rb_eq (u := 0) (v := 0) hx9 ra_z q10 (by decide) (by decide)
        refine z_aloadnR zh dX5_giveApart_38 rfl ?_
        refine z_getf zh fl_Notices_9 dX5_giveApart_39 (ck_H hh) rfl rfl ?_
        obtain ⟨x12, ex12⟩ : ∃ z, iv (h + 17) 2 = z := ⟨_, rfl⟩
        have hx12 : Ra 0 60 x12 := ra_of ex12 (si_T hG (isT_n hh))
        refine z_callVI zh mv_Notices_36 dX5_giveApart_42 (ck_T (isT_n hh)) rfl (s_X7_isFull g (isT_n hh) ex12) ⟨Nat.le_of_ble_eq_true rfl, Nat.le_of_ble_eq_true rfl⟩ rfl rfl (Nat.le_of_ble_eq_true rfl) ?_
        rintro x13 _ _ ⟨rfl, rfl, hx13, _⟩
        refine z_if_ne (tgt := 69) zh dX5_giveApart_45 rfl (fun q14 => ?_) (fun q14 => ?_)
        · have r15 : Ra 1 1 x13 := rb_ne_lo hx13 ra_z q14 (by decide)
          refine z_iconst zh dX5_giveApart_69 ki_m1 ?_
          exact z_iret zh dX5_giveApart_70 ⟨_, rfl, hG, (ra_w rl_n1 (by decide) (by decide))⟩
        · have r16 := rb_eq (u := 0) (v := 0) hx13 ra_z q14 (by decide) (by decide)
          refine z_aloadnR zh dX5_giveApart_48 rfl ?_
          refine z_bipush zh dX5_giveApart_49 kb_6 ?_
          refine z_iloadn zh dX5_giveApart_51 rfl ?_
          refine z_callVI zh mv_Notices_25 dX5_giveApart_52 (ck_T (isT_d hh)) rfl (s_X7_get g (isT_d hh) ex1 hx1) ⟨Nat.le_of_ble_eq_true rfl, Nat.le_of_ble_eq_true rfl⟩ rfl rfl (Nat.le_of_ble_eq_true rfl) ?_
          rintro x17 _ _ ⟨rfl, rfl, gx17⟩
          refine z_aloadnR zh dX5_giveApart_55 rfl ?_
          refine y_getI zh fl_Notices_78 dX5_giveApart_56 (ck_H hh) rfl rfl (fun x18 ex18 => ?_)
          have hx18 : Ra 0 99 x18 := ra_of ex18 (si_H hG hh 0 (by decide) rfl)
          refine z_aloadnR zh dX5_giveApart_59 rfl ?_
          refine z_getf zh fl_Notices_81 dX5_giveApart_60 (ck_H hh) rfl rfl ?_
          refine z_iconst zh dX5_giveApart_63 ki_3 ?_
          refine y_ialdN zh (ck_told hh) dX5_giveApart_64 (by decide) (fun x19 ex19 => ?_)
          refine y_isubT zh dX5_giveApart_65 (fun x20 => ?_)
          refine z_icmp_le (tgt := 71) zh dX5_giveApart_66 rfl (fun q21 => ?_) (fun q21 => ?_)
          · refine z_aloadnR zh dX5_giveApart_71 rfl ?_
            refine z_aloadnR zh dX5_giveApart_72 rfl ?_
            refine z_iconst zh dX5_giveApart_73 ki_0 ?_
            refine z_iloadn zh dX5_giveApart_74 rfl ?_
            refine z_callVI zh mv_Notices_25 dX5_giveApart_75 (ck_T (isT_d hh)) rfl (s_X7_get g (isT_d hh) ex1 hx1) ⟨Nat.le_of_ble_eq_true rfl, Nat.le_of_ble_eq_true rfl⟩ rfl rfl (Nat.le_of_ble_eq_true rfl) ?_
            rintro x22 _ _ ⟨rfl, rfl, gx22⟩
            have hx22 : Ra 0 11 x22 := get_in gx22 0 rfl (by decide) (by decide) (get_ok gx3 r5.1 (by decide)) (fun j => si_H hG hh 9 (by decide) rfl)
            refine z_aloadnR zh dX5_giveApart_78 rfl ?_
            refine z_iconst zh dX5_giveApart_79 ki_2 ?_
            refine z_iloadn zh dX5_giveApart_80 rfl ?_
            refine z_callVI zh mv_Notices_25 dX5_giveApart_81 (ck_T (isT_d hh)) rfl (s_X7_get g (isT_d hh) ex1 hx1) ⟨Nat.le_of_ble_eq_true rfl, Nat.le_of_ble_eq_true rfl⟩ rfl rfl (Nat.le_of_ble_eq_true rfl) ?_
            rintro x23 _ _ ⟨rfl, rfl, gx23⟩
            refine z_iloadn zh dX5_giveApart_84 rfl ?_
            refine z_iloadn zh dX5_giveApart_85 rfl ?_
            refine z_callSI zh ms_Notices_53 dX5_giveApart_86 (k_X5_addNotice g hh hx22 hG hq) ⟨Nat.le_of_ble_eq_true rfl, Nat.le_of_ble_eq_true rfl⟩ rfl rfl (Nat.le_of_ble_eq_true rfl) ?_
            rintro x24 iv lv ⟨hG, hx24⟩
            exact z_iret zh dX5_giveApart_89 ⟨_, rfl, hG, hx24⟩
          · have r25 : Ra (-2147483648) 2147483646 x20 := rb_lt_l (ra_tt x17) (ra_tt x20) (rb_nle q21) (by decide)
            have r26 : Ra (-2147483647) 2147483647 x17 := rb_lt_r (ra_tt x20) (ra_tt x17) (rb_nle q21) (by decide)
            refine z_iconst zh dX5_giveApart_69 ki_m1 ?_
            exact z_iret zh dX5_giveApart_70 ⟨_, rfl, hG, (ra_w rl_n1 (by decide) (by decide))⟩
      · have r27 : Ra 1 1 x9 := rb_ne_lo hx9 ra_z q10 (by decide)
        refine z_iconst zh dX5_giveApart_36 ki_m1 ?_
        exact z_iret zh dX5_giveApart_37 ⟨_, rfl, hG, (ra_w rl_n1 (by decide) (by decide))⟩
set_option maxRecDepth 20000 in
theorem k_X8_give (g : GE) {sp : Nat → Nat → Bool} {σ : Iv} {iv : Iv} {lv : Lv} {a1 : Int32} {a2 : Int32} {a3 : Int32}  (hG : SI sp σ iv) (hq : Sk sp) : ConI g yX8_give cX8_give 4 (some .int) 6 [rf g 0, .int a1, .int a2, .int a3] iv lv (fun r iv lv => SI sp σ iv ∧ Ra (-1) 59 r) := by
  refine con_intro (own := "RollingNets") (by decide +kernel) rfl (Nat.le_of_ble_eq_true rfl) (L0 := [some (rf g 0), some (.int a1), some (.int a2), some (.int a3)]) rfl (fun Z zh => ?_)
  refine z_aloadnR zh dX8_give_0 rfl ?_
  refine z_getf zh fl_RollingNets_12 dX8_give_1 ck_X rfl rfl ?_
  refine z_iloadn zh dX8_give_4 rfl ?_
  refine z_iloadn zh dX8_give_5 rfl ?_
  refine z_iloadn zh dX8_give_6 rfl ?_
  refine z_callSI zh ms_RollingNets_129 dX8_give_7 (k_X5_giveNet g isH_1 hG hq) ⟨Nat.le_of_ble_eq_true rfl, Nat.le_of_ble_eq_true rfl⟩ rfl rfl (Nat.le_of_ble_eq_true rfl) ?_
  rintro x1 iv lv ⟨hG, hx1⟩
  exact z_iret zh dX8_give_10 ⟨_, rfl, hG, hx1⟩
set_option maxRecDepth 20000 in
theorem k_X8_call (g : GE) {sp : Nat → Nat → Bool} {σ : Iv} {iv : Iv} {lv : Lv} {a1 : Int32}  (hG : SI sp σ iv) (hq : Sk sp) : ConI g yX8_call cX8_call 2 (some .int) 5 [rf g 0, .int a1] iv lv (fun r iv lv => SI sp σ iv ∧ Ra (-1) 59 r) := by
  refine con_intro (own := "RollingNets") (by decide +kernel) rfl (Nat.le_of_ble_eq_true rfl) (L0 := [some (rf g 0), some (.int a1)]) rfl (fun Z zh => ?_)
  refine z_aloadnR zh dX8_call_0 rfl ?_
  refine z_getf zh fl_RollingNets_12 dX8_call_1 ck_X rfl rfl ?_
  refine z_iloadn zh dX8_call_4 rfl ?_
  refine z_callSI zh ms_RollingNets_135 dX8_call_5 (k_X5_giveApart g isH_1 hG hq) ⟨Nat.le_of_ble_eq_true rfl, Nat.le_of_ble_eq_true rfl⟩ rfl rfl (Nat.le_of_ble_eq_true rfl) ?_
  rintro x1 iv lv ⟨hG, hx1⟩
  exact z_iret zh dX8_call_8 ⟨_, rfl, hG, hx1⟩
set_option maxRecDepth 20000 in
theorem k_X9_call (g : GE) {sp : Nat → Nat → Bool} {σ : Iv} {iv : Iv} {lv : Lv} {a1 : Int32}  (hG : SI sp σ iv) (hq : Sk sp) : ConI g yX9_call cX9_call 2 (some .int) 4 [rf g 551, .int a1] iv lv (fun r iv lv => SI sp σ iv ∧ Ra (-1) 59 r) := by
  refine con_intro (own := "RollingNetsModel") (by decide +kernel) rfl (Nat.le_of_ble_eq_true rfl) (L0 := [some (rf g 551), some (.int a1)]) rfl (fun Z zh => ?_)
  obtain ⟨iw1, eiw1⟩ : ∃ z, z = iv := ⟨_, rfl⟩
  have hS : SI sp σ iw1 := by rw [eiw1]; exact hG
  have hG : SI spc iw1 iv := by rw [eiw1]; exact si_full hG
  refine z_aloadnR zh dX9_call_0 rfl ?_
  refine z_iconst zh dX9_call_1 ki_0 ?_
  refine z_putI zh fl_Y_58 dX9_call_2 ck_Y rfl rfl (Nat.le_of_ble_eq_true rfl) (Or.inl rfl) ?_
  have hG : SI spc iw1 (upI iv 551 0 (nI 0)) := si_w (k := 551) (j := 0) hG (by decide) (by decide) (sp_no hG ((spc_Y (q := 0)).trans rfl)) (fun lo hi q => (rx_none rfl) lo hi ((rg_Y (q := 0)).symm.trans q))
  have em2 : upI iv 551 0 (nI 0) 551 0 = nI 0 := by rw [upI_at, if_pos ⟨rfl, rfl⟩]
  generalize upI iv 551 0 (nI 0) = iv at hG em2 ⊢
  refine z_aloadnR zh dX9_call_5 rfl ?_
  refine z_iloadn zh dX9_call_6 rfl ?_
  refine z_callVI zh mv_Y_191 dX9_call_7 ck_Y rfl (s_X9_isOpenApart g  hG) ⟨Nat.le_of_ble_eq_true rfl, Nat.le_of_ble_eq_true rfl⟩ rfl rfl (Nat.le_of_ble_eq_true rfl) ?_
  rintro x3 _ _ ⟨rfl, rfl, hx3, hz4⟩
  refine z_if_eq (tgt := 56) zh dX9_call_10 rfl (fun q5 => ?_) (fun q5 => ?_)
  · have r6 := rb_eq (u := 0) (v := 0) hx3 ra_z q5 (by decide) (by decide)
    refine z_iconst zh dX9_call_56 ki_m1 ?_
    have hG := si_back hS hG
    exact z_iret zh dX9_call_57 ⟨_, rfl, hG, (ra_w rl_n1 (by decide) (by decide))⟩
  · have r7 : Ra 1 1 x3 := rb_ne_lo hx3 ra_z q5 (by decide)
    have r8 : Ra 0 199 a1 := (hz4 q5)
    refine z_aloadnR zh dX9_call_13 rfl ?_
    refine z_iloadn zh dX9_call_14 rfl ?_
    refine z_bipush zh dX9_call_15 kb_6 ?_
    refine z_callVI zh mv_Y_151 dX9_call_17 ck_Y rfl (s_X9_tradeOf g r8 (ra_w rl_6 (by decide) (by decide)) hG) ⟨Nat.le_of_ble_eq_true rfl, Nat.le_of_ble_eq_true rfl⟩ rfl rfl (Nat.le_of_ble_eq_true rfl) ?_
    rintro x9 _ _ ⟨rfl, rfl, z10, ez10, ex9⟩
    refine z_aloadnR zh dX9_call_20 rfl ?_
    refine z_getf zh fl_Y_7 dX9_call_21 ck_Y rfl rfl ?_
    refine z_bipush zh dX9_call_24 kb_6 ?_
    refine y_ialdN zh ck_now dX9_call_26 (by decide) (fun x11 ex11 => ?_)
    have hx11 : Ra 0 99 x11 := ra_of ex11 (nr_l hG 6 rfl)
    have es12 := (si_s hG (spc_N.trans rfl)).symm.trans ex11
    refine z_aloadnR zh dX9_call_27 rfl ?_
    refine z_iconst zh dX9_call_28 ki_3 ?_
    refine z_callVI zh mv_Y_144 dX9_call_29 ck_Y rfl (s_X9_settingOf g (ra_w rl_3 (by decide) (by decide)) hG) ⟨Nat.le_of_ble_eq_true rfl, Nat.le_of_ble_eq_true rfl⟩ rfl rfl (Nat.le_of_ble_eq_true rfl) ?_
    rintro x13 _ _ ⟨rfl, rfl, _⟩
    refine y_isubT zh dX9_call_32 (fun x14 => ?_)
    refine z_icmp_gt (tgt := 56) zh dX9_call_33 rfl (fun q15 => ?_) (fun q15 => ?_)
    · have r16 : Ra (-2147483648) 2147483646 x14 := rb_lt_l (ra_tt x9) (ra_tt x14) q15 (by decide)
      have r17 : Ra (-2147483647) 2147483647 x9 := rb_lt_r (ra_tt x14) (ra_tt x9) q15 (by decide)
      refine z_iconst zh dX9_call_56 ki_m1 ?_
      have hG := si_back hS hG
      exact z_iret zh dX9_call_57 ⟨_, rfl, hG, (ra_w rl_n1 (by decide) (by decide))⟩
    · refine z_aloadnR zh dX9_call_36 rfl ?_
      refine z_iloadn zh dX9_call_37 rfl ?_
      refine z_callVI zh mv_Y_194 dX9_call_38 ck_Y rfl (s_X9_hasNotice g r8 hG) ⟨Nat.le_of_ble_eq_true rfl, Nat.le_of_ble_eq_true rfl⟩ rfl rfl (Nat.le_of_ble_eq_true rfl) ?_
      rintro x18 _ _ ⟨rfl, rfl, hx18⟩
      refine z_if_ne (tgt := 56) zh dX9_call_41 rfl (fun q19 => ?_) (fun q19 => ?_)
      · have r20 : Ra 1 1 x18 := rb_ne_lo hx18 ra_z q19 (by decide)
        refine z_iconst zh dX9_call_56 ki_m1 ?_
        have hG := si_back hS hG
        exact z_iret zh dX9_call_57 ⟨_, rfl, hG, (ra_w rl_n1 (by decide) (by decide))⟩
      · have r21 := rb_eq (u := 0) (v := 0) hx18 ra_z q19 (by decide) (by decide)
        refine z_aloadnR zh dX9_call_44 rfl ?_
        refine z_getf zh fl_Y_7 dX9_call_45 ck_Y rfl rfl ?_
        refine z_bipush zh dX9_call_48 kb_8 ?_
        refine y_ialdN zh ck_now dX9_call_50 (by decide) (fun x22 ex22 => ?_)
        have hx22 : Ra 0 60 x22 := ra_of ex22 (nr_l hG 8 rfl)
        have es23 := (si_s hG (spc_N.trans rfl)).symm.trans ex22
        refine z_bipush zh dX9_call_51 kb_60 ?_
        refine z_icmp_ne (tgt := 58) zh dX9_call_53 rfl (fun q24 => ?_) (fun q24 => ?_)
        · have r25 : Ra 0 59 x22 := rb_ne_hi hx22 rl_60 q24 (by decide)
          refine z_aloadnR zh dX9_call_58 rfl ?_
          refine z_aloadnR zh dX9_call_59 rfl ?_
          refine z_iloadn zh dX9_call_60 rfl ?_
          refine z_iconst zh dX9_call_61 ki_0 ?_
          refine z_callVI zh mv_Y_151 dX9_call_62 ck_Y rfl (s_X9_tradeOf g r8 (ra_w rl_0 (by decide) (by decide)) hG) ⟨Nat.le_of_ble_eq_true rfl, Nat.le_of_ble_eq_true rfl⟩ rfl rfl (Nat.le_of_ble_eq_true rfl) ?_
          rintro x26 _ _ ⟨rfl, rfl, z27, ez27, ex26⟩
          have hx26 : Ra 0 11 x26 := ra_of ex26 (nr_t01 hG a1.toInt (by have := r8.1; have := r8.2; have := rl_0.1; have := rl_0.2; omega) (by have := r8.1; have := r8.2; have := rl_0.1; have := rl_0.2; omega) (by have := r8.1; have := r8.2; have := rl_0.1; have := rl_0.2; omega))
          refine z_aloadnR zh dX9_call_65 rfl ?_
          refine z_iloadn zh dX9_call_66 rfl ?_
          refine z_iconst zh dX9_call_67 ki_2 ?_
          refine z_callVI zh mv_Y_151 dX9_call_68 ck_Y rfl (s_X9_tradeOf g r8 (ra_w rl_2 (by decide) (by decide)) hG) ⟨Nat.le_of_ble_eq_true rfl, Nat.le_of_ble_eq_true rfl⟩ rfl rfl (Nat.le_of_ble_eq_true rfl) ?_
          rintro x28 _ _ ⟨rfl, rfl, z29, ez29, ex28⟩
          have hx28 : Ra 0 5 x28 := ra_of ex28 (nr_t2 hG a1.toInt (by have := r8.1; have := r8.2; have := rl_2.1; have := rl_2.2; omega) (by have := r8.1; have := r8.2; have := rl_2.1; have := rl_2.2; omega) (by have := r8.1; have := r8.2; have := rl_2.1; have := rl_2.2; omega))
          refine z_aloadnR zh dX9_call_71 rfl ?_
          refine z_iloadn zh dX9_call_72 rfl ?_
          refine z_bipush zh dX9_call_73 kb_7 ?_
          refine z_callVI zh mv_Y_151 dX9_call_75 ck_Y rfl (s_X9_tradeOf g r8 (ra_w rl_7 (by decide) (by decide)) hG) ⟨Nat.le_of_ble_eq_true rfl, Nat.le_of_ble_eq_true rfl⟩ rfl rfl (Nat.le_of_ble_eq_true rfl) ?_
          rintro x30 _ _ ⟨rfl, rfl, z31, ez31, ex30⟩
          refine z_iloadn zh dX9_call_78 rfl ?_
          refine z_callVI zh mv_Y_175 dX9_call_79 ck_Y rfl (s_X9_newNotice g hx26 hx28 (ra_w r8 (by decide) (by decide)) hG (by rw [ex22]; exact r25)) ⟨Nat.le_of_ble_eq_true rfl, Nat.le_of_ble_eq_true rfl⟩ rfl rfl (Nat.le_of_ble_eq_true rfl) ?_
          rintro x32 iv lv ⟨hG, hx32, n33, hn33, en33⟩
          refine z_pop zh dX9_call_82 rfl ?_
          refine z_aloadnR zh dX9_call_83 rfl ?_
          refine z_getf zh fl_Y_7 dX9_call_84 ck_Y rfl rfl ?_
          refine z_bipush zh dX9_call_87 kb_8 ?_
          refine z_aloadnR zh dX9_call_89 rfl ?_
          refine z_getf zh fl_Y_7 dX9_call_90 ck_Y rfl rfl ?_
          refine z_bipush zh dX9_call_93 kb_8 ?_
          refine z_ialdE (x := x22) zh ck_now dX9_call_95 (by decide) ((si_s hG (spc_N.trans rfl)).trans es23) ?_
          refine z_iconst zh dX9_call_96 ki_1 ?_
          refine y_iadd zh dX9_call_97 r25 rl_1 (u := 1) (v := 60) rfl rfl (by decide) (by decide) (fun x34 hc34 hx34 => ?_)
          refine z_iastN (j := 8) zh ck_now dX9_call_98 (by decide) ?_
          have em35 : iv 552 6 = x11 := ((si_s hG (spc_N.trans rfl)).trans es12)
          have em36 : iv 552 8 = x22 := ((si_s hG (spc_N.trans rfl)).trans es23)
          have hG := si_back hS hG
          have hG : SI sp σ (upI iv 552 8 x34) := (nw_lk hG (j := 8) (by decide) (sk_no hq rfl) (by decide) (rx_some (ra_w hx34 (by decide) (by decide))))
          have em37 := (upI_ne (iv := iv) (k := 552) (j := 8) (x := x34) (a := 552) (b := 6) (Or.inr (by decide))).trans em35
          have em38 : upI iv 552 8 x34 552 8 = x34 := by rw [upI_at, if_pos ⟨rfl, rfl⟩]
          generalize upI iv 552 8 x34 = iv at hG em37 em38 ⊢
          refine z_aloadnR zh dX9_call_99 rfl ?_
          refine z_getf zh fl_Y_7 dX9_call_100 ck_Y rfl rfl ?_
          refine z_bipush zh dX9_call_103 kb_8 ?_
          refine z_ialdE (x := x34) zh ck_now dX9_call_105 (by decide) em38 ?_
          refine z_iconst zh dX9_call_106 ki_1 ?_
          refine y_isub zh dX9_call_107 hx34 rl_1 (u := 0) (v := 59) rfl rfl (by decide) (by decide) (fun x39 hc39 hx39 => ?_)
          exact z_iret zh dX9_call_108 ⟨_, rfl, hG, (ra_w hx39 (by decide) (by decide))⟩
        · have r40 := rb_eq (u := 60) (v := 60) hx22 rl_60 q24 (by decide) (by decide)
          refine z_iconst zh dX9_call_56 ki_m1 ?_
          have hG := si_back hS hG
          exact z_iret zh dX9_call_57 ⟨_, rfl, hG, (ra_w rl_n1 (by decide) (by decide))⟩
set_option maxHeartbeats 1000000 in
set_option maxRecDepth 20000 in
theorem k_X9_give (g : GE) {sp : Nat → Nat → Bool} {σ : Iv} {iv : Iv} {lv : Lv} {a1 a2 a3 : Int32} (hG : SI sp σ iv) (hq : Sk sp) : ConI g yX9_give cX9_give 10 (some .int) 6 [rf g 551, .int a1, .int a2, .int a3] iv lv (fun r iv lv => SI sp σ iv ∧ Ra (-1) 59 r) := by
  refine con_intro (own := "RollingNetsModel") (by decide +kernel) rfl (Nat.le_of_ble_eq_true rfl) (L0 := [some (rf g 551), some (.int a1), some (.int a2), some (.int a3), none, none, none, none, none, none]) rfl (fun Z zh => ?_)
  obtain ⟨iw1, eiw1⟩ : ∃ z, z = iv := ⟨_, rfl⟩
  have hS : SI sp σ iw1 := by rw [eiw1]; exact hG
  have hG : SI spc iw1 iv := by rw [eiw1]; exact si_full hG
  refine z_aloadnR zh dX9_give_0 rfl ?_
  refine z_iconst zh dX9_give_1 ki_0 ?_
  refine z_putI zh fl_Y_58 dX9_give_2 ck_Y rfl rfl (Nat.le_of_ble_eq_true rfl) (Or.inl rfl) ?_
  have hG : SI spc iw1 (upI iv 551 0 (nI 0)) := si_w (k := 551) (j := 0) hG (by decide) (by decide) (sp_no hG ((spc_Y (q := 0)).trans rfl)) (fun lo hi q => (rx_none rfl) lo hi ((rg_Y (q := 0)).symm.trans q))
  have em2 : upI iv 551 0 (nI 0) 551 0 = nI 0 := by rw [upI_at, if_pos ⟨rfl, rfl⟩]
  generalize upI iv 551 0 (nI 0) = iv at hG em2 ⊢
  refine z_aloadnR zh dX9_give_5 rfl ?_
  refine z_iloadn zh dX9_give_6 rfl ?_
  refine z_callVI zh mv_Y_90 dX9_give_7 ck_Y rfl (s_X9_isMember g  hG) ⟨Nat.le_of_ble_eq_true rfl, Nat.le_of_ble_eq_true rfl⟩ rfl rfl (Nat.le_of_ble_eq_true rfl) ?_
  rintro x3 _ _ ⟨rfl, rfl, hx3, hz4⟩
  have J57 : ∀ (iv : Iv) (lv : Lv), SI spc iw1 iv → Z 57 [some (rf g 551), some (.int a1), some (.int a2), some (.int a3), none, none, none, none, none, none] [] iv lv := by
    intro iv lv hG
    refine z_iconst zh dX9_give_57 ki_m1 ?_
    exact z_iret zh dX9_give_58 ⟨_, rfl, si_back hS hG, ra_w rl_n1 (by decide) (by decide)⟩
  refine z_if_eq (tgt := 57) zh dX9_give_10 rfl (fun _ => J57 iv lv hG) (fun q10 => ?_)
  have r5 : Ra 0 11 a1 := (hz4 q10)
  refine z_aloadnR zh dX9_give_13 rfl ?_
  refine z_iloadn zh dX9_give_14 rfl ?_
  refine z_callVI zh mv_Y_94 dX9_give_15 ck_Y rfl (s_X9_isIssue g  hG) ⟨Nat.le_of_ble_eq_true rfl, Nat.le_of_ble_eq_true rfl⟩ rfl rfl (Nat.le_of_ble_eq_true rfl) ?_
  rintro x6 _ _ ⟨rfl, rfl, hx6, hz7⟩
  refine z_if_eq (tgt := 57) zh dX9_give_18 rfl (fun _ => J57 iv lv hG) (fun q18 => ?_)
  have r8 : Ra 0 5 a2 := (hz7 q18)
  refine z_aloadnR zh dX9_give_21 rfl ?_
  refine z_iloadn zh dX9_give_22 rfl ?_
  refine z_iconst zh dX9_give_23 ki_1 ?_
  refine z_aloadnR zh dX9_give_24 rfl ?_
  refine z_iloadn zh dX9_give_25 rfl ?_
  refine z_iloadn zh dX9_give_26 rfl ?_
  refine z_callVI zh mv_Y_169 dX9_give_27 ck_Y rfl (s_X9_oldLong g r5 r8 hG) ⟨Nat.le_of_ble_eq_true rfl, Nat.le_of_ble_eq_true rfl⟩ rfl rfl (Nat.le_of_ble_eq_true rfl) ?_
  rintro x9 _ _ ⟨rfl, rfl, _⟩
  refine z_callVI zh mv_Y_79 dX9_give_30 ck_Y rfl (s_X9_isIn g) ⟨Nat.le_of_ble_eq_true rfl, Nat.le_of_ble_eq_true rfl⟩ rfl rfl (Nat.le_of_ble_eq_true rfl) ?_
  rintro x10 _ _ ⟨rfl, rfl, hx10, hz11⟩
  refine z_if_eq (tgt := 57) zh dX9_give_33 rfl (fun _ => J57 iv lv hG) (fun q33 => ?_)
  have r12 : Ra 1 2147483647 a3 := (rb_in rl_1 (ra_tt x9) (hz11 q33))
  refine z_aloadnR zh dX9_give_36 rfl ?_
  refine z_iloadn zh dX9_give_37 rfl ?_
  refine z_iloadn zh dX9_give_38 rfl ?_
  refine z_callVI zh mv_Y_172 dX9_give_39 ck_Y rfl (s_X9_isNoticed g r5 r8 hG) ⟨Nat.le_of_ble_eq_true rfl, Nat.le_of_ble_eq_true rfl⟩ rfl rfl (Nat.le_of_ble_eq_true rfl) ?_
  rintro x13 _ _ ⟨rfl, rfl, hx13⟩
  refine z_if_ne (tgt := 57) zh dX9_give_42 rfl (fun _ => J57 iv lv hG) (fun q42 => ?_)
  refine z_aloadnR zh dX9_give_45 rfl ?_
  refine z_getf zh fl_Y_7 dX9_give_46 ck_Y rfl rfl ?_
  refine z_bipush zh dX9_give_49 kb_8 ?_
  refine y_ialdN zh ck_now dX9_give_51 (by decide) (fun x14 ex14 => ?_)
  have hx14 : Ra 0 60 x14 := ra_of ex14 (nr_l hG 8 rfl)
  have es15 := (si_s hG (spc_N.trans rfl)).symm.trans ex14
  refine z_bipush zh dX9_give_52 kb_60 ?_
  refine z_icmp_ne (tgt := 59) zh dX9_give_54 rfl (fun q54 => ?_) (fun _ => J57 iv lv hG)
  have hN : Ra 0 59 x14 := rb_ne_hi hx14 rl_60 q54 (by decide)
  refine z_aloadnR zh dX9_give_59 rfl ?_
  refine z_iloadn zh dX9_give_60 rfl ?_
  refine z_iloadn zh dX9_give_61 rfl ?_
  refine z_iconst zh dX9_give_62 ki_0 ?_
  refine z_iconst zh dX9_give_63 ki_m1 ?_
  refine z_callVI zh mv_Y_175 dX9_give_64 ck_Y rfl (s_X9_newNotice g r5 r8 (ra_w rl_n1 (by decide) (by decide)) hG (by rw [ex14]; exact hN)) ⟨Nat.le_of_ble_eq_true rfl, Nat.le_of_ble_eq_true rfl⟩ rfl rfl (Nat.le_of_ble_eq_true rfl) ?_
  rintro x16 iv lv ⟨hG, hx16, n17, hn17, en17⟩
  refine z_istore zh dX9_give_67 (by decide) (L' := [some (rf g 551), some (.int a1), some (.int a2), some (.int a3), some (.int x16), none, none, none, none, none]) rfl ?_
  refine z_iloadn zh dX9_give_69 rfl ?_
  refine z_istore zh dX9_give_70 (by decide) (L' := [some (rf g 551), some (.int a1), some (.int a2), some (.int a3), some (.int x16), some (.int a3), none, none, none, none]) rfl ?_
  refine z_aloadnR zh dX9_give_72 rfl ?_
  refine z_iloadn zh dX9_give_73 rfl ?_
  refine z_iconst zh dX9_give_74 ki_m1 ?_
  refine z_iconst zh dX9_give_75 ki_m1 ?_
  refine z_callVI zh mv_Y_179 dX9_give_76 ck_Y rfl (e_X9_nextShort g r8 hG) ⟨Nat.le_of_ble_eq_true rfl, Nat.le_of_ble_eq_true rfl⟩ rfl rfl (Nat.le_of_ble_eq_true rfl) ?_
  rintro k iv lv ⟨hG, hk, hB⟩
  refine z_istore zh dX9_give_79 (by decide) (L' := [some (rf g 551), some (.int a1), some (.int a2), some (.int a3), some (.int x16), some (.int a3), some (.int k), none, none, none]) rfl ?_
  have J210 : ∀ (iv : Iv) (lv : Lv) (left x : Int32), SI spc iw1 iv → Z 210 [some (rf g 551), some (.int a1), some (.int a2), some (.int a3), some (.int x16), some (.int left), some (.int x), none, none, none] [] iv lv := by
    intro iv lv left x hG
    refine z_iload zh dX9_give_210 rfl ?_
    refine z_iloadn zh dX9_give_212 rfl ?_
    refine z_icmp_ne (tgt := 218) zh dX9_give_213 rfl (fun _ => ?_) (fun _ => ?_)
    · skip
      refine z_aloadnR zh dX9_give_218 rfl ?_
      refine z_getf zh fl_Y_7 dX9_give_219 ck_Y rfl rfl ?_
      refine z_iload zh dX9_give_222 rfl ?_
      refine z_iconst zh dX9_give_224 ki_2 ?_
      refine y_iadd zh dX9_give_225 hx16 rl_2 (u := 16712) (v := 17892) rfl rfl (by decide) (by decide) (fun x18 hc18 hx18 => ?_)
      refine z_iloadn zh dX9_give_226 rfl ?_
      refine z_iload zh dX9_give_227 rfl ?_
      refine y_isubT zh dX9_give_229 (fun x19 => ?_)
      refine z_iast zh ck_now dX9_give_230 (ra_in hx18 (by decide) (by decide)) ?_
      have em20 : iv 552 8 = x14 := ((si_s hG (spc_N.trans rfl)).trans es15)
      have hG : SI spc iw1 (upI iv 552 x18.toNatClampNeg x19) := (nw_nb hG (n17 * 1) (by have := rl_2.1; have := rl_2.2; omega) (by have := rl_2.1; have := rl_2.2; omega) (by have := rl_2.1; have := rl_2.2; omega))
      have em21 := (upI_ne (iv := iv) (k := 552) (j := x18.toNatClampNeg) (x := x19) (a := 552) (b := 8) (Or.inr (ne_cl hx18 (by decide) (Or.inl (by decide))))).trans em20
      generalize upI iv 552 x18.toNatClampNeg x19 = iv at hG em21 ⊢
      refine z_aloadnR zh dX9_give_231 rfl ?_
      refine z_getf zh fl_Y_7 dX9_give_232 ck_Y rfl rfl ?_
      refine z_bipush zh dX9_give_235 kb_8 ?_
      refine z_aloadnR zh dX9_give_237 rfl ?_
      refine z_getf zh fl_Y_7 dX9_give_238 ck_Y rfl rfl ?_
      refine z_bipush zh dX9_give_241 kb_8 ?_
      refine z_ialdE (x := x14) zh ck_now dX9_give_243 (by decide) em21 ?_
      refine z_iconst zh dX9_give_244 ki_1 ?_
      refine y_iadd zh dX9_give_245 hN rl_1 (u := 1) (v := 60) rfl rfl (by decide) (by decide) (fun x22 hc22 hx22 => ?_)
      refine z_iastN (j := 8) zh ck_now dX9_give_246 (by decide) ?_
      have hG := si_back hS hG
      have hG : SI sp σ (upI iv 552 8 x22) := (nw_lk hG (j := 8) (by decide) (sk_no hq rfl) (by decide) (rx_some (ra_w hx22 (by decide) (by decide))))
      have em23 : upI iv 552 8 x22 552 8 = x22 := by rw [upI_at, if_pos ⟨rfl, rfl⟩]
      generalize upI iv 552 8 x22 = iv at hG em23 ⊢
      refine z_aloadnR zh dX9_give_247 rfl ?_
      refine z_getf zh fl_Y_7 dX9_give_248 ck_Y rfl rfl ?_
      refine z_bipush zh dX9_give_251 kb_8 ?_
      refine z_ialdE (x := x22) zh ck_now dX9_give_253 (by decide) em23 ?_
      refine z_iconst zh dX9_give_254 ki_1 ?_
      refine y_isub zh dX9_give_255 hx22 rl_1 (u := 0) (v := 59) rfl rfl (by decide) (by decide) (fun x24 hc24 hx24 => ?_)
      exact z_iret zh dX9_give_256 ⟨_, rfl, hG, (ra_w hx24 (by decide) (by decide))⟩
    · refine z_iconst zh dX9_give_216 ki_m1 ?_
      exact z_iret zh dX9_give_217 ⟨_, rfl, si_back hS hG, ra_w rl_n1 (by decide) (by decide)⟩
  have J : ∀ (q : Nat) (iv : Iv) (lv : Lv) (left x : Int32), SI spc iw1 iv → Ra (-1) 11 x → (¬ x = -1 → 1200 - (12 * (iv 551 5).toInt + x.toInt) < (q : Int)) → Z 81 [some (rf g 551), some (.int a1), some (.int a2), some (.int a3), some (.int x16), some (.int left), some (.int x), none, none, none] [] iv lv := by
    intro q
    induction q with
    | zero =>
      intro iv lv left x hG hx hm
      refine z_iload zh dX9_give_81 rfl ?_
      refine z_iconst zh dX9_give_83 ki_m1 ?_
      refine z_icmp_eq (tgt := 210) zh dX9_give_84 rfl (fun _ => J210 iv lv left x hG) (fun q1 => ?_)
      have h1 := hm q1
      have h2 : (iv 551 5).toInt ≤ 99 := (si_Y hG 0 (j := 5) rfl).2
      have h3 := hx.2
      omega
    | succ q ih =>
      intro iv lv left x hG hx hm
      refine z_iload zh dX9_give_81 rfl ?_
      refine z_iconst zh dX9_give_83 ki_m1 ?_
      refine z_icmp_eq (tgt := 210) zh dX9_give_84 rfl (fun _ => J210 iv lv left x hG) (fun q1 => ?_)
      have hx1 : Ra 0 11 x := rb_ne_lo hx rl_n1 q1 (by decide)
      refine z_iload zh dX9_give_87 rfl ?_
      refine z_if_le (tgt := 210) zh dX9_give_89 rfl (fun _ => J210 iv lv left x hG) (fun _ => ?_)
      refine z_aloadnR zh dX9_give_92 rfl ?_
      refine y_getI zh fl_Y_163 dX9_give_93 ck_Y rfl rfl (fun x25 ex25 => ?_)
      have hx25 : Ra 0 99 x25 := ra_of ex25 (si_Y hG 0 (j := 5) rfl)
      have hm1 := hm q1
      rw [ex25] at hm1
      refine z_istore zh dX9_give_96 (by decide) (L' := [some (rf g 551), some (.int a1), some (.int a2), some (.int a3), some (.int x16), some (.int left), some (.int x), some (.int x25), none, none]) rfl ?_
      refine z_aloadnR zh dX9_give_98 rfl ?_
      refine z_iload zh dX9_give_99 rfl ?_
      refine z_iloadn zh dX9_give_101 rfl ?_
      refine z_callVI zh mv_Y_182 dX9_give_102 ck_Y rfl (s_X9_shortOf g hx1 r8 hG) ⟨Nat.le_of_ble_eq_true rfl, Nat.le_of_ble_eq_true rfl⟩ rfl rfl (Nat.le_of_ble_eq_true rfl) ?_
      rintro x26 _ _ ⟨rfl, rfl, _⟩
      refine z_aloadnR zh dX9_give_105 rfl ?_
      refine z_iload zh dX9_give_106 rfl ?_
      refine z_iloadn zh dX9_give_108 rfl ?_
      refine z_callVI zh mv_Y_185 dX9_give_109 ck_Y rfl (s_X9_assignedTo g hx1 r8 hG) ⟨Nat.le_of_ble_eq_true rfl, Nat.le_of_ble_eq_true rfl⟩ rfl rfl (Nat.le_of_ble_eq_true rfl) ?_
      rintro x27 _ _ ⟨rfl, rfl, _⟩
      refine y_isubT zh dX9_give_112 (fun x28 => ?_)
      refine z_aloadnR zh dX9_give_113 rfl ?_
      refine z_getf zh fl_Y_7 dX9_give_114 ck_Y rfl rfl ?_
      refine z_iload zh dX9_give_117 rfl ?_
      refine z_bipush zh dX9_give_119 kb_8 ?_
      refine y_iadd zh dX9_give_121 hx16 rl_8 (u := 16718) (v := 17898) rfl rfl (by decide) (by decide) (fun x29 hc29 hx29 => ?_)
      refine z_iload zh dX9_give_122 rfl ?_
      refine y_iadd zh dX9_give_124 hx29 hx1 (u := 16718) (v := 17909) rfl rfl (by decide) (by decide) (fun x30 hc30 hx30 => ?_)
      refine y_iald zh ck_now dX9_give_125 hx30 (by decide) (by decide) (fun x31 ex31 => ?_)
      refine y_isubT zh dX9_give_126 (fun x32 => ?_)
      refine z_istore zh dX9_give_127 (by decide) (L' := [some (rf g 551), some (.int a1), some (.int a2), some (.int a3), some (.int x16), some (.int left), some (.int x), some (.int x25), some (.int x32), none]) rfl ?_
      refine z_aloadnR zh dX9_give_129 rfl ?_
      refine z_iconst zh dX9_give_130 ki_0 ?_
      refine z_aloadnR zh dX9_give_131 rfl ?_
      refine z_aloadnR zh dX9_give_132 rfl ?_
      refine z_iload zh dX9_give_133 rfl ?_
      refine z_iload zh dX9_give_135 rfl ?_
      refine z_callVI zh mv_Y_131 dX9_give_137 ck_Y rfl (s_X9_lesser g  hG) ⟨Nat.le_of_ble_eq_true rfl, Nat.le_of_ble_eq_true rfl⟩ rfl rfl (Nat.le_of_ble_eq_true rfl) ?_
      rintro x33 _ _ ⟨rfl, rfl, _⟩
      refine z_aloadnR zh dX9_give_140 rfl ?_
      refine z_iload zh dX9_give_141 rfl ?_
      refine z_iloadn zh dX9_give_143 rfl ?_
      refine z_aloadnR zh dX9_give_144 rfl ?_
      refine y_getI zh fl_Y_166 dX9_give_145 ck_Y rfl rfl (fun x34 ex34 => ?_)
      have hx34 : Ra 0 101 x34 := ra_of ex34 (si_Y hG 0 (j := 6) rfl)
      refine z_callVI zh mv_Y_113 dX9_give_148 ck_Y rfl (s_X9_sharesOf g hx1 r8 hx34 hG) ⟨Nat.le_of_ble_eq_true rfl, Nat.le_of_ble_eq_true rfl⟩ rfl rfl (Nat.le_of_ble_eq_true rfl) ?_
      rintro x35 _ _ ⟨rfl, rfl, _⟩
      refine y_inegT zh dX9_give_151 (fun x36 => ?_)
      refine z_callVI zh mv_Y_131 dX9_give_152 ck_Y rfl (s_X9_lesser g  hG) ⟨Nat.le_of_ble_eq_true rfl, Nat.le_of_ble_eq_true rfl⟩ rfl rfl (Nat.le_of_ble_eq_true rfl) ?_
      rintro x37 _ _ ⟨rfl, rfl, _⟩
      refine z_callVI zh mv_Y_76 dX9_give_155 ck_Y rfl (s_X9_greater g  hG) ⟨Nat.le_of_ble_eq_true rfl, Nat.le_of_ble_eq_true rfl⟩ rfl rfl (Nat.le_of_ble_eq_true rfl) ?_
      rintro x38 _ _ ⟨rfl, rfl, _⟩
      refine z_istore zh dX9_give_158 (by decide) (L' := [some (rf g 551), some (.int a1), some (.int a2), some (.int a3), some (.int x16), some (.int left), some (.int x), some (.int x25), some (.int x32), some (.int x38)]) rfl ?_
      refine z_aloadnR zh dX9_give_160 rfl ?_
      refine z_getf zh fl_Y_7 dX9_give_161 ck_Y rfl rfl ?_
      refine z_iload zh dX9_give_164 rfl ?_
      refine z_bipush zh dX9_give_166 kb_8 ?_
      refine y_iadd zh dX9_give_168 hx16 rl_8 (u := 16718) (v := 17898) rfl rfl (by decide) (by decide) (fun x39 hc39 hx39 => ?_)
      refine z_iload zh dX9_give_169 rfl ?_
      refine y_iadd zh dX9_give_171 hx39 hx1 (u := 16718) (v := 17909) rfl rfl (by decide) (by decide) (fun x40 hc40 hx40 => ?_)
      refine z_aloadnR zh dX9_give_172 rfl ?_
      refine z_getf zh fl_Y_7 dX9_give_173 ck_Y rfl rfl ?_
      refine z_iload zh dX9_give_176 rfl ?_
      refine z_bipush zh dX9_give_178 kb_8 ?_
      refine y_iadd zh dX9_give_180 hx16 rl_8 (u := 16718) (v := 17898) rfl rfl (by decide) (by decide) (fun x41 hc41 hx41 => ?_)
      refine z_iload zh dX9_give_181 rfl ?_
      refine y_iadd zh dX9_give_183 hx41 hx1 (u := 16718) (v := 17909) rfl rfl (by decide) (by decide) (fun x42 hc42 hx42 => ?_)
      refine y_iald zh ck_now dX9_give_184 hx42 (by decide) (by decide) (fun x43 ex43 => ?_)
      refine z_iload zh dX9_give_185 rfl ?_
      refine y_iaddT zh dX9_give_187 (fun x44 => ?_)
      refine z_iast zh ck_now dX9_give_188 (ra_in hx40 (by decide) (by decide)) ?_
      have em45 : iv 552 8 = x14 := ((si_s hG (spc_N.trans rfl)).trans es15)
      have hG : SI spc iw1 (upI iv 552 x40.toNatClampNeg x44) := (nw_n hG (n17 * 1) (by have := rl_8.1; have := rl_8.2; have := hx1.1; have := hx1.2; omega) (by have := rl_8.1; have := rl_8.2; have := hx1.1; have := hx1.2; omega) (by have := rl_8.1; have := rl_8.2; have := hx1.1; have := hx1.2; omega))
      have em46 := (upI_ne (iv := iv) (k := 552) (j := x40.toNatClampNeg) (x := x44) (a := 552) (b := 8) (Or.inr (ne_cl hx40 (by decide) (Or.inl (by decide))))).trans em45
      have em47 := (upI_ne (iv := iv) (k := 552) (j := x40.toNatClampNeg) (x := x44) (a := 551) (b := 5) (Or.inl (by decide))).trans ex25
      have em48 := (upI_ne (iv := iv) (k := 552) (j := x40.toNatClampNeg) (x := x44) (a := 551) (b := 6) (Or.inl (by decide))).trans ex34
      generalize upI iv 552 x40.toNatClampNeg x44 = iv at hG em46 em47 em48 ⊢
      refine z_iload zh dX9_give_189 rfl ?_
      refine z_iload zh dX9_give_191 rfl ?_
      refine y_isubT zh dX9_give_193 (fun x49 => ?_)
      refine z_istore zh dX9_give_194 (by decide) (L' := [some (rf g 551), some (.int a1), some (.int a2), some (.int a3), some (.int x16), some (.int x49), some (.int x), some (.int x25), some (.int x32), some (.int x38)]) rfl ?_
      refine z_aloadnR zh dX9_give_196 rfl ?_
      refine z_iloadn zh dX9_give_197 rfl ?_
      refine z_iload zh dX9_give_198 rfl ?_
      refine z_iload zh dX9_give_200 rfl ?_
      refine z_callVI zh mv_Y_179 dX9_give_202 ck_Y rfl (e_X9_nextShort g r8 hG) ⟨Nat.le_of_ble_eq_true rfl, Nat.le_of_ble_eq_true rfl⟩ rfl rfl (Nat.le_of_ble_eq_true rfl) ?_
      rintro k2 iv lv ⟨hG, hk2, hB2⟩
      refine z_istore zh dX9_give_205 (by decide) (L' := [some (rf g 551), some (.int a1), some (.int a2), some (.int a3), some (.int x16), some (.int x49), some (.int k2), some (.int x25), some (.int x32), some (.int x38)]) rfl ?_
      refine z_goto (tgt := 81) zh dX9_give_207 rfl ?_
      refine z_forget zh [true, true, true, true, true, true, true, false, false, false] (L2 := [some (rf g 551), some (.int a1), some (.int a2), some (.int a3), some (.int x16), some (.int x49), some (.int k2), none, none, none]) rfl ?_
      refine ih iv lv x49 k2 hG hk2 (fun q9 => ?_)
      have d1 := (hx25).1; have d2 := (hx25).2; have x1 := hx1.1; have x2 := hx1.2
      have u1 := (rb_ne_lo hk2 rl_n1 q9 (by decide) : Ra 0 11 k2).1
      rcases hB2 q9 with w | ⟨w, w2⟩
      · omega
      · rw [w]; omega
  exact J 1300 iv lv a3 k hG hk (fun _ => by have h2 : 0 ≤ (iv 551 5).toInt := (si_Y hG 0 (j := 5) rfl).1; have h3 := hk.1; omega)
