set_option maxRecDepth 20000 in
theorem s_X5_nextLink (g : GE) {sp : Nat → Nat → Bool} {σ : Iv} {iv : Iv} {lv : Lv} {h : Nat} {a1 : Int32} {a2 : Int32} {a3 : Int32} {a4 : Int32} (hh : isH h) (ha2 : Ra (-1) 11 a2) (hG : SI sp σ iv)  : ConI g yX5_nextLink cX5_nextLink 10 (some .int) 2 [rf g h, .int a1, .int a2, .int a3, .int a4] iv lv (fun r iv' lv' => iv = iv' ∧ lv = lv' ∧ Ra (-1) 199 r) := by
  refine con_intro (own := "RollingNets$Notices") (by decide +kernel) rfl (Nat.le_of_ble_eq_true rfl) (L0 := [some (rf g h), some (.int a1), some (.int a2), some (.int a3), some (.int a4), none, none, none, none, none]) rfl (fun Z zh => ?_)
  refine z_aloadnR zh dX5_nextLink_0 rfl ?_
  refine z_getf zh fl_Notices_106 dX5_nextLink_1 (ck_H hh) rfl rfl ?_
  refine z_astore zh dX5_nextLink_4 (by decide) (L' := [some (rf g h), some (.int a1), some (.int a2), some (.int a3), some (.int a4), some (rf g (h + 7)), none, none, none, none]) rfl ?_
  refine z_iconst zh dX5_nextLink_6 ki_m1 ?_
  refine z_istore zh dX5_nextLink_7 (by decide) (L' := [some (rf g h), some (.int a1), some (.int a2), some (.int a3), some (.int a4), some (rf g (h + 7)), some (.int (-1)), none, none, none]) rfl ?_
  refine z_iconst zh dX5_nextLink_9 ki_0 ?_
  refine z_istore zh dX5_nextLink_10 (by decide) (L' := [some (rf g h), some (.int a1), some (.int a2), some (.int a3), some (.int a4), some (rf g (h + 7)), some (.int (-1)), some (.int (nI 0)), none, none]) rfl ?_
  have J12 : ∀ (n : Nat) (x1 : Int32) (x2 : Int32), Ra (-1) 199 x1 → Ra 0 200 x2 → 200 - x2.toInt < (n : Int) → Z 12 [some (rf g h), some (.int a1), some (.int a2), some (.int a3), some (.int a4), some (rf g (h + 7)), some (.int x1), some (.int x2), none, none] [] iv lv := by
    intro n
    induction n with
    | zero => intro x1 x2 hx1 hx2 hn12; exact (ms_uz hx2 hn12).elim
    | succ n ih12 =>
      intro x1 x2 hx1 hx2 hn12
      refine z_iload zh dX5_nextLink_12 rfl ?_
      refine z_aloadR zh dX5_nextLink_14 rfl ?_
      obtain ⟨x3, ex3⟩ : ∃ z, iv (h + 7) 2 = z := ⟨_, rfl⟩
      have hx3 : Ra 0 200 x3 := ra_of ex3 (si_T hG (isT_d hh))
      refine z_callVIp zh mv_Notices_15 dX5_nextLink_16 (ck_T (isT_d hh)) rfl (s_X7_size g (isT_d hh) ex3) ⟨Nat.le_of_ble_eq_true rfl, Nat.le_of_ble_eq_true rfl⟩ rfl rfl (Nat.le_of_ble_eq_true rfl) ?_
      refine z_icmp_ge (tgt := 164) zh dX5_nextLink_19 rfl (fun q4 => ?_) (fun q4 => ?_)
      · refine z_iload zh dX5_nextLink_164 rfl ?_
        exact z_iret zh dX5_nextLink_166 ⟨_, rfl, rfl, rfl, hx1⟩
      · have r5 : Ra 0 199 x2 := rb_lt_l hx3 hx2 (rb_nle q4) (by decide)
        have r6 : Ra 1 200 x3 := rb_lt_r hx2 hx3 (rb_nle q4) (by decide)
        refine z_aloadR zh dX5_nextLink_22 rfl ?_
        refine z_iconst zh dX5_nextLink_24 ki_0 ?_
        refine z_iload zh dX5_nextLink_25 rfl ?_
        refine z_callVI zh mv_Notices_25 dX5_nextLink_27 (ck_T (isT_d hh)) rfl (s_X7_get g (isT_d hh) ex3 hx3) ⟨Nat.le_of_ble_eq_true rfl, Nat.le_of_ble_eq_true rfl⟩ rfl rfl (Nat.le_of_ble_eq_true rfl) ?_
        rintro x7 _ _ ⟨rfl, rfl, gx7⟩
        have hx7 : Ra 0 11 x7 := get_in gx7 0 rfl (by decide) (by decide) ⟨Int.le_trans (by decide) r5.1, ltI.mp (rb_nle q4)⟩ (fun j => si_H hG hh 9 (by decide) rfl)
        refine z_iloadn zh dX5_nextLink_30 rfl ?_
        have J67 : ∀ (x8 : Int32), Ra 0 1 x8 → Z 67 [some (rf g h), some (.int a1), some (.int a2), some (.int a3), some (.int a4), some (rf g (h + 7)), some (.int x1), some (.int x2), none, none] [.int x8] iv lv := by
          intro x8 hx8
          refine z_istore zh dX5_nextLink_67 (by decide) (L' := [some (rf g h), some (.int a1), some (.int a2), some (.int a3), some (.int a4), some (rf g (h + 7)), some (.int x1), some (.int x2), some (.int x8), none]) rfl ?_
          refine z_aloadR zh dX5_nextLink_69 rfl ?_
          refine z_iconst zh dX5_nextLink_71 ki_5 ?_
          refine z_iload zh dX5_nextLink_72 rfl ?_
          refine z_callVI zh mv_Notices_25 dX5_nextLink_74 (ck_T (isT_d hh)) rfl (s_X7_get g (isT_d hh) ex3 hx3) ⟨Nat.le_of_ble_eq_true rfl, Nat.le_of_ble_eq_true rfl⟩ rfl rfl (Nat.le_of_ble_eq_true rfl) ?_
          rintro x9 _ _ ⟨rfl, rfl, gx9⟩
          refine z_iconst zh dX5_nextLink_77 ki_1 ?_
          have J115 : ∀ (x10 : Int32), Ra 0 1 x10 → Z 115 [some (rf g h), some (.int a1), some (.int a2), some (.int a3), some (.int a4), some (rf g (h + 7)), some (.int x1), some (.int x2), some (.int x8), none] [.int x10] iv lv := by
            intro x10 hx10
            refine z_istore zh dX5_nextLink_115 (by decide) (L' := [some (rf g h), some (.int a1), some (.int a2), some (.int a3), some (.int a4), some (rf g (h + 7)), some (.int x1), some (.int x2), some (.int x8), some (.int x10)]) rfl ?_
            refine z_iload zh dX5_nextLink_117 rfl ?_
            have J158 : ∀ (x11 : Int32), Ra (-1) 199 x11 → Z 158 [some (rf g h), some (.int a1), some (.int a2), some (.int a3), some (.int a4), some (rf g (h + 7)), some (.int x11), some (.int x2), some (.int x8), some (.int x10)] [] iv lv := by
              intro x11 hx11
              refine y_iinc (L' := fun z => [some (rf g h), some (.int a1), some (.int a2), some (.int a3), some (.int a4), some (rf g (h + 7)), some (.int x11), some (.int z), some (.int x8), some (.int x10)]) zh dX5_nextLink_158 (by decide) rfl (by decide +kernel) r5 (u := 1) (v := 200) rfl rfl (by decide) (by decide) (fun _ => rfl) (fun x12 hc12 hx12 => ?_)
              refine z_goto (tgt := 12) zh dX5_nextLink_161 rfl ?_
              refine z_forget zh [true, true, true, true, true, true, true, true, false, false] (L2 := [some (rf g h), some (.int a1), some (.int a2), some (.int a3), some (.int a4), some (rf g (h + 7)), some (.int x11), some (.int x12), none, none]) rfl ?_
              exact ih12 x11 x12 hx11 (ra_w hx12 (by decide) (by decide)) (ms_up hc12 (by decide) hn12)
            refine z_if_eq (tgt := 158) zh dX5_nextLink_119 rfl (fun q13 => ?_) (fun q13 => ?_)
            · have r14 := rb_eq (u := 0) (v := 0) hx8 ra_z q13 (by decide) (by decide)
              exact J158 x1 hx1
            · have r15 : Ra 1 1 x8 := rb_ne_lo hx8 ra_z q13 (by decide)
              refine z_iload zh dX5_nextLink_122 rfl ?_
              refine z_if_eq (tgt := 158) zh dX5_nextLink_124 rfl (fun q16 => ?_) (fun q16 => ?_)
              · have r17 := rb_eq (u := 0) (v := 0) hx10 ra_z q16 (by decide) (by decide)
                exact J158 x1 hx1
              · have r18 : Ra 1 1 x10 := rb_ne_lo hx10 ra_z q16 (by decide)
                refine z_iload zh dX5_nextLink_127 rfl ?_
                refine z_iconst zh dX5_nextLink_129 ki_m1 ?_
                have J154 : Z 154 [some (rf g h), some (.int a1), some (.int a2), some (.int a3), some (.int a4), some (rf g (h + 7)), some (.int x1), some (.int x2), some (.int x8), some (.int x10)] [] iv lv := by
                  refine z_iload zh dX5_nextLink_154 rfl ?_
                  refine z_istore zh dX5_nextLink_156 (by decide) (L' := [some (rf g h), some (.int a1), some (.int a2), some (.int a3), some (.int a4), some (rf g (h + 7)), some (.int x2), some (.int x2), some (.int x8), some (.int x10)]) rfl ?_
                  exact J158 x2 (ra_w r5 (by decide) (by decide))
                refine z_icmp_eq (tgt := 154) zh dX5_nextLink_130 rfl (fun q19 => ?_) (fun q19 => ?_)
                · have r20 := rb_eq (u := (-1)) (v := (-1)) hx1 rl_n1 q19 (by decide) (by decide)
                  exact J154
                · have r21 : Ra 0 199 x1 := rb_ne_lo hx1 rl_n1 q19 (by decide)
                  refine z_aloadR zh dX5_nextLink_133 rfl ?_
                  refine z_bipush zh dX5_nextLink_135 kb_6 ?_
                  refine z_iload zh dX5_nextLink_137 rfl ?_
                  refine z_callVI zh mv_Notices_25 dX5_nextLink_139 (ck_T (isT_d hh)) rfl (s_X7_get g (isT_d hh) ex3 hx3) ⟨Nat.le_of_ble_eq_true rfl, Nat.le_of_ble_eq_true rfl⟩ rfl rfl (Nat.le_of_ble_eq_true rfl) ?_
                  rintro x22 _ _ ⟨rfl, rfl, gx22⟩
                  refine z_aloadR zh dX5_nextLink_142 rfl ?_
                  refine z_bipush zh dX5_nextLink_144 kb_6 ?_
                  refine z_iload zh dX5_nextLink_146 rfl ?_
                  refine z_callVI zh mv_Notices_25 dX5_nextLink_148 (ck_T (isT_d hh)) rfl (s_X7_get g (isT_d hh) ex3 hx3) ⟨Nat.le_of_ble_eq_true rfl, Nat.le_of_ble_eq_true rfl⟩ rfl rfl (Nat.le_of_ble_eq_true rfl) ?_
                  rintro x23 _ _ ⟨rfl, rfl, gx23⟩
                  refine z_icmp_ge (tgt := 158) zh dX5_nextLink_151 rfl (fun q24 => ?_) (fun q24 => ?_)
                  · exact J158 x1 (ra_w r21 (by decide) (by decide))
                  · have r25 : Ra (-2147483648) 2147483646 x22 := rb_lt_l (ra_tt x23) (ra_tt x22) (rb_nle q24) (by decide)
                    have r26 : Ra (-2147483647) 2147483647 x23 := rb_lt_r (ra_tt x22) (ra_tt x23) (rb_nle q24) (by decide)
                    exact J154
          have J114 : Z 114 [some (rf g h), some (.int a1), some (.int a2), some (.int a3), some (.int a4), some (rf g (h + 7)), some (.int x1), some (.int x2), some (.int x8), none] [] iv lv := by
            refine z_iconst zh dX5_nextLink_114 ki_0 ?_
            exact J115 (nI 0) (ra_w rl_0 (by decide) (by decide))
          refine z_icmp_ne (tgt := 114) zh dX5_nextLink_78 rfl (fun q27 => ?_) (fun q27 => ?_)
          · exact J114
          · have r28 := rb_eq (u := 1) (v := 1) (ra_tt x9) rl_1 q27 (by decide) (by decide)
            refine z_aloadR zh dX5_nextLink_81 rfl ?_
            refine z_bipush zh dX5_nextLink_83 kb_7 ?_
            refine z_iload zh dX5_nextLink_85 rfl ?_
            refine z_callVI zh mv_Notices_25 dX5_nextLink_87 (ck_T (isT_d hh)) rfl (s_X7_get g (isT_d hh) ex3 hx3) ⟨Nat.le_of_ble_eq_true rfl, Nat.le_of_ble_eq_true rfl⟩ rfl rfl (Nat.le_of_ble_eq_true rfl) ?_
            rintro x29 _ _ ⟨rfl, rfl, gx29⟩
            refine z_iloadn zh dX5_nextLink_90 rfl ?_
            refine z_icmp_lt (tgt := 114) zh dX5_nextLink_91 rfl (fun q30 => ?_) (fun q30 => ?_)
            · have r31 : Ra (-2147483648) 2147483646 x29 := rb_lt_l (ra_tt a3) (ra_tt x29) q30 (by decide)
              have r32 : Ra (-2147483647) 2147483647 a3 := rb_lt_r (ra_tt x29) (ra_tt a3) q30 (by decide)
              exact J114
            · refine z_aloadR zh dX5_nextLink_94 rfl ?_
              refine z_bipush zh dX5_nextLink_96 kb_6 ?_
              refine z_iload zh dX5_nextLink_98 rfl ?_
              refine z_callVI zh mv_Notices_25 dX5_nextLink_100 (ck_T (isT_d hh)) rfl (s_X7_get g (isT_d hh) ex3 hx3) ⟨Nat.le_of_ble_eq_true rfl, Nat.le_of_ble_eq_true rfl⟩ rfl rfl (Nat.le_of_ble_eq_true rfl) ?_
              rintro x33 _ _ ⟨rfl, rfl, gx33⟩
              refine z_aloadnR zh dX5_nextLink_103 rfl ?_
              refine y_getI zh fl_Notices_78 dX5_nextLink_104 (ck_H hh) rfl rfl (fun x34 ex34 => ?_)
              have hx34 : Ra 0 99 x34 := ra_of ex34 (si_H hG hh 0 (by decide) rfl)
              refine z_icmp_gt (tgt := 114) zh dX5_nextLink_107 rfl (fun q35 => ?_) (fun q35 => ?_)
              · have r36 : Ra 1 2147483647 x33 := rb_lt_r hx34 (ra_tt x33) q35 (by decide)
                exact J114
              · have r37 : Ra (-2147483648) 99 x33 := rb_le_l hx34 (ra_tt x33) (rb_nlt q35) (by decide)
                refine z_iconst zh dX5_nextLink_110 ki_1 ?_
                refine z_goto (tgt := 115) zh dX5_nextLink_111 rfl ?_
                exact J115 (nI 1) (ra_w rl_1 (by decide) (by decide))
        have J66 : Z 66 [some (rf g h), some (.int a1), some (.int a2), some (.int a3), some (.int a4), some (rf g (h + 7)), some (.int x1), some (.int x2), none, none] [] iv lv := by
          refine z_iconst zh dX5_nextLink_66 ki_0 ?_
          exact J67 (nI 0) (ra_w rl_0 (by decide) (by decide))
        refine z_icmp_ne (tgt := 66) zh dX5_nextLink_31 rfl (fun q38 => ?_) (fun q38 => ?_)
        · exact J66
        · have r39 := rb_eq (u := 0) (v := 11) hx7 ha2 q38 (by decide) (by decide)
          refine z_aloadR zh dX5_nextLink_34 rfl ?_
          refine z_iconst zh dX5_nextLink_36 ki_2 ?_
          refine z_iload zh dX5_nextLink_37 rfl ?_
          refine z_callVI zh mv_Notices_25 dX5_nextLink_39 (ck_T (isT_d hh)) rfl (s_X7_get g (isT_d hh) ex3 hx3) ⟨Nat.le_of_ble_eq_true rfl, Nat.le_of_ble_eq_true rfl⟩ rfl rfl (Nat.le_of_ble_eq_true rfl) ?_
          rintro x40 _ _ ⟨rfl, rfl, gx40⟩
          refine z_iloadn zh dX5_nextLink_42 rfl ?_
          refine z_icmp_ne (tgt := 66) zh dX5_nextLink_43 rfl (fun q41 => ?_) (fun q41 => ?_)
          · exact J66
          · refine z_iload zh dX5_nextLink_46 rfl ?_
            refine z_aloadR zh dX5_nextLink_48 rfl ?_
            refine z_iconst zh dX5_nextLink_50 ki_1 ?_
            refine z_iload zh dX5_nextLink_51 rfl ?_
            refine z_callVI zh mv_Notices_25 dX5_nextLink_53 (ck_T (isT_d hh)) rfl (s_X7_get g (isT_d hh) ex3 hx3) ⟨Nat.le_of_ble_eq_true rfl, Nat.le_of_ble_eq_true rfl⟩ rfl rfl (Nat.le_of_ble_eq_true rfl) ?_
            rintro x43 _ _ ⟨rfl, rfl, gx43⟩
            have hx43 : Ra 0 11 x43 := get_in gx43 1 rfl (by decide) (by decide) ⟨Int.le_trans (by decide) r5.1, ltI.mp (rb_nle q4)⟩ (fun j => si_H hG hh 10 (by decide) rfl)
            refine y_ishrT zh dX5_nextLink_56 (fun x44 => ?_)
            refine z_iconst zh dX5_nextLink_57 ki_1 ?_
            refine y_iandT zh dX5_nextLink_58 (fun x45 => ?_)
            refine z_if_ne (tgt := 66) zh dX5_nextLink_59 rfl (fun q46 => ?_) (fun q46 => ?_)
            · exact J66
            · have r47 := rb_eq (u := 0) (v := 0) (ra_tt x45) ra_z q46 (by decide) (by decide)
              refine z_iconst zh dX5_nextLink_62 ki_1 ?_
              refine z_goto (tgt := 67) zh dX5_nextLink_63 rfl ?_
              exact J67 (nI 1) (ra_w rl_1 (by decide) (by decide))
  exact J12 201 (-1) (nI 0) (ra_w rl_n1 (by decide) (by decide)) (ra_w rl_0 (by decide) (by decide)) (ms_u0 rl_0 (by decide))
set_option maxRecDepth 20000 in
theorem s_X5_layChain (g : GE) {sp : Nat → Nat → Bool} {σ : Iv} {iv : Iv} {lv : Lv} {h : Nat} {a1 : Int32} {a2 : Int32} (hh : isH h) (hG : SI sp σ iv)  : ConV g yX5_layChain cX5_layChain 7 none 3 [rf g h, .int a1, .int a2] iv lv (fun iv lv => SI sp σ iv) := by
  refine con_intro (own := "RollingNets$Notices") (by decide +kernel) rfl (Nat.le_of_ble_eq_true rfl) (L0 := [some (rf g h), some (.int a1), some (.int a2), none, none, none, none]) rfl (fun Z zh => ?_)
  refine z_aloadnR zh dX5_layChain_0 rfl ?_
  refine z_getf zh fl_Notices_106 dX5_layChain_1 (ck_H hh) rfl rfl ?_
  refine z_astoren zh dX5_layChain_4 (by decide) (L' := [some (rf g h), some (.int a1), some (.int a2), some (rf g (h + 7)), none, none, none]) rfl ?_
  refine z_iconst zh dX5_layChain_5 ki_1 ?_
  refine z_aloadnR zh dX5_layChain_6 rfl ?_
  refine z_iconst zh dX5_layChain_7 ki_0 ?_
  refine z_iloadn zh dX5_layChain_8 rfl ?_
  obtain ⟨x1, ex1⟩ : ∃ z, iv (h + 7) 2 = z := ⟨_, rfl⟩
  have hx1 : Ra 0 200 x1 := ra_of ex1 (si_T hG (isT_d hh))
  refine z_callVI zh mv_Notices_25 dX5_layChain_9 (ck_T (isT_d hh)) rfl (s_X7_get g (isT_d hh) ex1 hx1) ⟨Nat.le_of_ble_eq_true rfl, Nat.le_of_ble_eq_true rfl⟩ rfl rfl (Nat.le_of_ble_eq_true rfl) ?_
  rintro x2 _ _ ⟨rfl, rfl, gx2⟩
  have hx2 : Ra (-1) 11 x2 := get_any gx2 0 rfl (by decide) (by decide) (fun j => si_H hG hh 9 (by decide) rfl)
  refine y_ishlT zh dX5_layChain_12 (fun x3 => ?_)
  refine z_istore zh dX5_layChain_13 (by decide) (L' := [some (rf g h), some (.int a1), some (.int a2), some (rf g (h + 7)), some (.int x3), none, none]) rfl ?_
  refine z_iloadn zh dX5_layChain_15 rfl ?_
  refine z_istore zh dX5_layChain_16 (by decide) (L' := [some (rf g h), some (.int a1), some (.int a2), some (rf g (h + 7)), some (.int x3), some (.int a1), none]) rfl ?_
  refine z_aloadnR zh dX5_layChain_18 rfl ?_
  refine z_iconst zh dX5_layChain_19 ki_0 ?_
  refine z_putI zh fl_Notices_161 dX5_layChain_20 (ck_H hh) rfl rfl (Nat.le_of_ble_eq_true rfl) (Or.inl rfl) ?_
  have hG : SI sp σ (upI iv h 15 (nI 0)) := si_wH hG hh 0 (by decide) rfl (rx_some (ra_w rl_0 (by decide) (by decide)))
  have em4 := (upI_ne (iv := iv) (k := h) (j := 15) (x := nI 0) (a := h + 7) (b := 2) (Or.inl (by omega))).trans ex1
  have em5 : upI iv h 15 (nI 0) h 15 = nI 0 := by rw [upI_at, if_pos ⟨rfl, rfl⟩]
  generalize upI iv h 15 (nI 0) = iv at hG em4 em5 ⊢
  have J23 : ∀ (n : Nat) (iv : Iv) (lv : Lv) (x6 : Int32) (x7 : Int32) (x9 : Int32), SI sp σ iv → iv (h + 7) 2 = x1 → iv h 15 = x9 → Ra 0 12 x9 → 12 - x9.toInt < (n : Int) → Z 23 [some (rf g h), some (.int a1), some (.int a2), some (rf g (h + 7)), some (.int x6), some (.int x7), none] [] iv lv := by
    intro n
    induction n with
    | zero => intro iv lv x6 x7 x9 hG em8 em10 hx9 hn23; exact (ms_uz hx9 hn23).elim
    | succ n ih23 =>
      intro iv lv x6 x7 x9 hG em8 em10 hx9 hn23
      refine z_iload zh dX5_layChain_23 rfl ?_
      refine z_iconst zh dX5_layChain_25 ki_m1 ?_
      refine z_icmp_eq (tgt := 100) zh dX5_layChain_26 rfl (fun q11 => ?_) (fun q11 => ?_)
      · have r12 := rb_eq (u := (-1)) (v := (-1)) (ra_tt x7) rl_n1 q11 (by decide) (by decide)
        exact z_vret zh dX5_layChain_100 ⟨rfl, hG⟩
      · refine z_aloadnR zh dX5_layChain_29 rfl ?_
        refine z_getI (x := x9) zh fl_Notices_161 dX5_layChain_30 (ck_H hh) rfl rfl em10 ?_
        refine z_aloadnR zh dX5_layChain_33 rfl ?_
        refine z_getf zh fl_Notices_164 dX5_layChain_34 (ck_H hh) rfl rfl ?_
        refine z_alenI zh (ck_chain hh) dX5_layChain_37 ?_
        refine z_icmp_ge (tgt := 100) zh dX5_layChain_38 rfl (fun q13 => ?_) (fun q13 => ?_)
        · have r14 : Ra 12 12 x9 := rb_le_r rl_12 hx9 q13 (by decide)
          exact z_vret zh dX5_layChain_100 ⟨rfl, hG⟩
        · have r15 : Ra 0 11 x9 := rb_lt_l rl_12 hx9 (rb_nle q13) (by decide)
          refine z_aloadnR zh dX5_layChain_41 rfl ?_
          refine z_getf zh fl_Notices_164 dX5_layChain_42 (ck_H hh) rfl rfl ?_
          refine z_aloadnR zh dX5_layChain_45 rfl ?_
          refine z_getI (x := x9) zh fl_Notices_161 dX5_layChain_46 (ck_H hh) rfl rfl em10 ?_
          refine z_iload zh dX5_layChain_49 rfl ?_
          refine z_iast zh (ck_chain hh) dX5_layChain_51 (ra_in r15 (by decide) (by decide)) ?_
          have hG : SI sp σ (upI iv (h + 58) x9.toNatClampNeg x7) := si_wH hG hh 58 (by decide) rfl (rx_none rfl)
          have em16 := (upI_ne (iv := iv) (k := h + 58) (j := x9.toNatClampNeg) (x := x7) (a := h + 7) (b := 2) (Or.inl (by omega))).trans em8
          have em17 := (upI_ne (iv := iv) (k := h + 58) (j := x9.toNatClampNeg) (x := x7) (a := h) (b := 15) (Or.inl (by omega))).trans em10
          generalize upI iv (h + 58) x9.toNatClampNeg x7 = iv at hG em16 em17 ⊢
          refine z_aloadnR zh dX5_layChain_52 rfl ?_
          refine z_dup zh dX5_layChain_53 rfl ?_
          refine z_getI (x := x9) zh fl_Notices_161 dX5_layChain_54 (ck_H hh) rfl rfl em17 ?_
          refine z_iconst zh dX5_layChain_57 ki_1 ?_
          refine y_iadd zh dX5_layChain_58 r15 rl_1 (u := 1) (v := 12) rfl rfl (by decide) (by decide) (fun x18 hc18 hx18 => ?_)
          refine z_putI zh fl_Notices_161 dX5_layChain_59 (ck_H hh) rfl rfl (Nat.le_of_ble_eq_true rfl) (Or.inl rfl) ?_
          have hG : SI sp σ (upI iv h 15 x18) := si_wH hG hh 0 (by decide) rfl (rx_some (ra_w hx18 (by decide) (by decide)))
          have em19 := (upI_ne (iv := iv) (k := h) (j := 15) (x := x18) (a := h + 7) (b := 2) (Or.inl (by omega))).trans em16
          have em20 : upI iv h 15 x18 h 15 = x18 := by rw [upI_at, if_pos ⟨rfl, rfl⟩]
          generalize upI iv h 15 x18 = iv at hG em19 em20 ⊢
          refine z_aloadnR zh dX5_layChain_62 rfl ?_
          refine z_iconst zh dX5_layChain_63 ki_1 ?_
          refine z_iload zh dX5_layChain_64 rfl ?_
          refine z_callVI zh mv_Notices_25 dX5_layChain_66 (ck_T (isT_d hh)) rfl (s_X7_get g (isT_d hh) em19 hx1) ⟨Nat.le_of_ble_eq_true rfl, Nat.le_of_ble_eq_true rfl⟩ rfl rfl (Nat.le_of_ble_eq_true rfl) ?_
          rintro x21 _ _ ⟨rfl, rfl, gx21⟩
          have hx21 : Ra (-1) 11 x21 := get_any gx21 1 rfl (by decide) (by decide) (fun j => si_H hG hh 10 (by decide) rfl)
          refine z_istore zh dX5_layChain_69 (by decide) (L' := [some (rf g h), some (.int a1), some (.int a2), some (rf g (h + 7)), some (.int x6), some (.int x7), some (.int x21)]) rfl ?_
          refine z_iload zh dX5_layChain_71 rfl ?_
          refine z_iconst zh dX5_layChain_73 ki_1 ?_
          refine z_iload zh dX5_layChain_74 rfl ?_
          refine y_ishlT zh dX5_layChain_76 (fun x22 => ?_)
          refine y_iorT zh dX5_layChain_77 (fun x23 => ?_)
          refine z_istore zh dX5_layChain_78 (by decide) (L' := [some (rf g h), some (.int a1), some (.int a2), some (rf g (h + 7)), some (.int x23), some (.int x7), some (.int x21)]) rfl ?_
          refine z_aloadnR zh dX5_layChain_80 rfl ?_
          refine z_aloadnR zh dX5_layChain_81 rfl ?_
          refine z_iconst zh dX5_layChain_82 ki_2 ?_
          refine z_iloadn zh dX5_layChain_83 rfl ?_
          refine z_callVI zh mv_Notices_25 dX5_layChain_84 (ck_T (isT_d hh)) rfl (s_X7_get g (isT_d hh) em19 hx1) ⟨Nat.le_of_ble_eq_true rfl, Nat.le_of_ble_eq_true rfl⟩ rfl rfl (Nat.le_of_ble_eq_true rfl) ?_
          rintro x24 _ _ ⟨rfl, rfl, gx24⟩
          refine z_iload zh dX5_layChain_87 rfl ?_
          refine z_iloadn zh dX5_layChain_89 rfl ?_
          refine z_iload zh dX5_layChain_90 rfl ?_
          refine z_callSI zh ms_Notices_167 dX5_layChain_92 (s_X5_nextLink g hh hx21 hG) ⟨Nat.le_of_ble_eq_true rfl, Nat.le_of_ble_eq_true rfl⟩ rfl rfl (Nat.le_of_ble_eq_true rfl) ?_
          rintro x25 _ _ ⟨rfl, rfl, hx25⟩
          refine z_istore zh dX5_layChain_95 (by decide) (L' := [some (rf g h), some (.int a1), some (.int a2), some (rf g (h + 7)), some (.int x23), some (.int x25), some (.int x21)]) rfl ?_
          refine z_goto (tgt := 23) zh dX5_layChain_97 rfl ?_
          refine z_forget zh [true, true, true, true, true, true, false] (L2 := [some (rf g h), some (.int a1), some (.int a2), some (rf g (h + 7)), some (.int x23), some (.int x25), none]) rfl ?_
          exact ih23 iv lv x23 x25 x18 hG em19 em20 (ra_w hx18 (by decide) (by decide)) (ms_up (bs_add hc18 rl_1) (by decide) hn23)
  exact J23 13 iv lv x3 a1 (nI 0) hG em4 em5 (ra_w rl_0 (by decide) (by decide)) (ms_u0 rl_0 (by decide))
set_option maxRecDepth 20000 in
theorem s_X5_closeApart (g : GE) {sp : Nat → Nat → Bool} {σ : Iv} {iv : Iv} {lv : Lv} {h : Nat} {a1 : Int32} {a2 : Int32} {a3 : Int32} (hh : isH h) (ha1 : Ra 0 5 a1) (ha2 : Ra 0 11 a2) (ha3 : Ra 0 59 a3) (hG : SI sp σ iv)  : ConV g yX5_closeApart cX5_closeApart 14 none 4 [rf g h, .int a1, .int a2, .int a3] iv lv (fun iv lv => SI sp σ iv) := by
  refine con_intro (own := "RollingNets$Notices") (by decide +kernel) rfl (Nat.le_of_ble_eq_true rfl) (L0 := [some (rf g h), some (.int a1), some (.int a2), some (.int a3), none, none, none, none, none, none, none, none, none, none]) rfl (fun Z zh => ?_)
  refine z_aloadnR zh dX5_closeApart_0 rfl ?_
  refine z_getf zh fl_Notices_106 dX5_closeApart_1 (ck_H hh) rfl rfl ?_
  refine z_astore zh dX5_closeApart_4 (by decide) (L' := [some (rf g h), some (.int a1), some (.int a2), some (.int a3), some (rf g (h + 7)), none, none, none, none, none, none, none, none, none]) rfl ?_
  refine z_aloadnR zh dX5_closeApart_6 rfl ?_
  refine z_getf zh fl_Notices_9 dX5_closeApart_7 (ck_H hh) rfl rfl ?_
  refine z_iconst zh dX5_closeApart_10 ki_5 ?_
  refine z_iloadn zh dX5_closeApart_11 rfl ?_
  obtain ⟨x1, ex1⟩ : ∃ z, iv (h + 17) 2 = z := ⟨_, rfl⟩
  have hx1 : Ra 0 60 x1 := ra_of ex1 (si_T hG (isT_n hh))
  refine z_callVI zh mv_Notices_25 dX5_closeApart_12 (ck_T (isT_n hh)) rfl (s_X7_get g (isT_n hh) ex1 hx1) ⟨Nat.le_of_ble_eq_true rfl, Nat.le_of_ble_eq_true rfl⟩ rfl rfl (Nat.le_of_ble_eq_true rfl) ?_
  rintro x2 _ _ ⟨rfl, rfl, gx2⟩
  refine z_istore zh dX5_closeApart_15 (by decide) (L' := [some (rf g h), some (.int a1), some (.int a2), some (.int a3), some (rf g (h + 7)), some (.int x2), none, none, none, none, none, none, none, none]) rfl ?_
  refine z_aloadnR zh dX5_closeApart_17 rfl ?_
  refine z_getf zh fl_Notices_9 dX5_closeApart_18 (ck_H hh) rfl rfl ?_
  refine z_iconst zh dX5_closeApart_21 ki_2 ?_
  refine z_iloadn zh dX5_closeApart_22 rfl ?_
  refine z_callVI zh mv_Notices_25 dX5_closeApart_23 (ck_T (isT_n hh)) rfl (s_X7_get g (isT_n hh) ex1 hx1) ⟨Nat.le_of_ble_eq_true rfl, Nat.le_of_ble_eq_true rfl⟩ rfl rfl (Nat.le_of_ble_eq_true rfl) ?_
  rintro x3 _ _ ⟨rfl, rfl, gx3⟩
  refine z_istore zh dX5_closeApart_26 (by decide) (L' := [some (rf g h), some (.int a1), some (.int a2), some (.int a3), some (rf g (h + 7)), some (.int x2), some (.int x3), none, none, none, none, none, none, none]) rfl ?_
  refine z_aloadR zh dX5_closeApart_28 rfl ?_
  refine z_bipush zh dX5_closeApart_30 kb_7 ?_
  refine z_iload zh dX5_closeApart_32 rfl ?_
  obtain ⟨x4, ex4⟩ : ∃ z, iv (h + 7) 2 = z := ⟨_, rfl⟩
  have hx4 : Ra 0 200 x4 := ra_of ex4 (si_T hG (isT_d hh))
  refine z_callVI zh mv_Notices_25 dX5_closeApart_34 (ck_T (isT_d hh)) rfl (s_X7_get g (isT_d hh) ex4 hx4) ⟨Nat.le_of_ble_eq_true rfl, Nat.le_of_ble_eq_true rfl⟩ rfl rfl (Nat.le_of_ble_eq_true rfl) ?_
  rintro x5 _ _ ⟨rfl, rfl, gx5⟩
  refine z_iload zh dX5_closeApart_37 rfl ?_
  refine z_icmp_ge (tgt := 43) zh dX5_closeApart_39 rfl (fun q6 => ?_) (fun q6 => ?_)
  · refine z_aloadnR zh dX5_closeApart_43 rfl ?_
    refine z_iload zh dX5_closeApart_44 rfl ?_
    refine z_iload zh dX5_closeApart_46 rfl ?_
    refine z_callSV zh ms_Notices_153 dX5_closeApart_48 (s_X5_layChain g hh hG) ⟨Nat.le_of_ble_eq_true rfl, Nat.le_of_ble_eq_true rfl⟩ rfl rfl (Nat.le_of_ble_eq_true rfl) ?_
    rintro iv lv hG
    refine z_aloadnR zh dX5_closeApart_51 rfl ?_
    refine z_callSI zh ms_Notices_157 dX5_closeApart_52 (s_X5_lastOfChain g hh hG) ⟨Nat.le_of_ble_eq_true rfl, Nat.le_of_ble_eq_true rfl⟩ rfl rfl (Nat.le_of_ble_eq_true rfl) ?_
    rintro x7 _ _ ⟨rfl, rfl, hx7⟩
    refine z_istore zh dX5_closeApart_55 (by decide) (L' := [some (rf g h), some (.int a1), some (.int a2), some (.int a3), some (rf g (h + 7)), some (.int x2), some (.int x3), some (.int x7), none, none, none, none, none, none]) rfl ?_
    refine z_aloadnR zh dX5_closeApart_57 rfl ?_
    refine z_iload zh dX5_closeApart_58 rfl ?_
    refine z_callVI zh mv_Notices_29 dX5_closeApart_60 (ck_H hh) rfl (s_X1_hasMember g hh hG) ⟨Nat.le_of_ble_eq_true rfl, Nat.le_of_ble_eq_true rfl⟩ rfl rfl (Nat.le_of_ble_eq_true rfl) ?_
    rintro x8 _ _ ⟨rfl, rfl, hx8, hz9⟩
    refine z_if_ne (tgt := 67) zh dX5_closeApart_63 rfl (fun q10 => ?_) (fun q10 => ?_)
    · have r11 : Ra 1 1 x8 := rb_ne_lo hx8 ra_z q10 (by decide)
      have r12 : Ra 0 11 x7 := (hz9 q10)
      refine z_iload zh dX5_closeApart_67 rfl ?_
      refine y_i2l zh dX5_closeApart_69 (fun l13 => ?_)
      refine z_aloadnR zh dX5_closeApart_70 rfl ?_
      refine z_iloadn zh dX5_closeApart_71 rfl ?_
      refine z_callVI zh mv_Notices_123 dX5_closeApart_72 (ck_H hh) rfl (s_X1_buyPrice g hh ha1 hG) ⟨Nat.le_of_ble_eq_true rfl, Nat.le_of_ble_eq_true rfl⟩ rfl rfl (Nat.le_of_ble_eq_true rfl) ?_
      rintro x14 _ _ ⟨rfl, rfl, _⟩
      refine y_i2l zh dX5_closeApart_75 (fun l15 => ?_)
      refine y_lmul zh dX5_closeApart_76 (fun l16 => ?_)
      refine z_lstore zh dX5_closeApart_77 (by decide) (L' := [some (rf g h), some (.int a1), some (.int a2), some (.int a3), some (rf g (h + 7)), some (.int x2), some (.int x3), some (.int x7), some (.long l16), none, none, none, none, none]) rfl ?_
      refine z_aloadnR zh dX5_closeApart_79 rfl ?_
      refine z_getf zh fl_Notices_142 dX5_closeApart_80 (ck_H hh) rfl rfl ?_
      refine z_iload zh dX5_closeApart_83 rfl ?_
      refine z_dup2 zh dX5_closeApart_85 rfl rfl ?_
      refine y_lald zh (ck_cash hh) dX5_closeApart_86 r12 (by decide) (by decide) (fun l17 => ?_)
      refine z_lload zh dX5_closeApart_87 rfl ?_
      refine y_lsub zh dX5_closeApart_89 (fun l18 => ?_)
      refine z_last zh (ck_cash hh) dX5_closeApart_90 (ra_in r12 (by decide) (by decide)) ?_
      generalize upL lv (h + 2) x7.toNatClampNeg l18 = lv
      refine z_aloadnR zh dX5_closeApart_91 rfl ?_
      refine z_dup zh dX5_closeApart_92 rfl ?_
      refine y_getL zh fl_Notices_145 dX5_closeApart_93 (ck_H hh) rfl rfl (fun l19 => ?_)
      refine z_lload zh dX5_closeApart_96 rfl ?_
      refine y_ladd zh dX5_closeApart_98 (fun l20 => ?_)
      refine z_putL zh fl_Notices_145 dX5_closeApart_99 (ck_H hh) rfl rfl (Nat.le_of_ble_eq_true rfl) rfl ?_
      generalize upL lv h 12 l20 = lv
      refine z_aloadnR zh dX5_closeApart_102 rfl ?_
      refine z_getf zh fl_Notices_68 dX5_closeApart_103 (ck_H hh) rfl rfl ?_
      refine z_iloadn zh dX5_closeApart_106 rfl ?_
      refine y_mald zh (ck_markets hh) dX5_closeApart_107 ha1 (by decide) (by decide) (fun j21 hj21 _ _ => ?_)
      refine z_getf zh fl_Notices_126 dX5_closeApart_108 (ck_M (isM_of hh hj21)) rfl rfl ?_
      refine z_iloadn zh dX5_closeApart_111 rfl ?_
      refine z_dup2 zh dX5_closeApart_112 rfl rfl ?_
      refine y_lald zh (ck_stock (isM_of hh hj21)) dX5_closeApart_113 ha2 (by decide) (by decide) (fun l22 => ?_)
      refine z_iload zh dX5_closeApart_114 rfl ?_
      refine y_i2l zh dX5_closeApart_116 (fun l23 => ?_)
      refine y_ladd zh dX5_closeApart_117 (fun l24 => ?_)
      refine z_last zh (ck_stock (isM_of hh hj21)) dX5_closeApart_118 (ra_in ha2 (by decide) (by decide)) ?_
      generalize upL lv (h + 60 + 20 * j21 + 1) a2.toNatClampNeg l24 = lv
      refine z_iconst zh dX5_closeApart_119 ki_0 ?_
      refine z_istore zh dX5_closeApart_120 (by decide) (L' := [some (rf g h), some (.int a1), some (.int a2), some (.int a3), some (rf g (h + 7)), some (.int x2), some (.int x3), some (.int x7), some (.long l16), none, some (.int (nI 0)), none, none, none]) rfl ?_
      have J122 : ∀ (n : Nat) (iv : Iv) (lv : Lv) (x25 : Int32), SI sp σ iv → Ra 0 12 x25 → 12 - x25.toInt < (n : Int) → Z 122 [some (rf g h), some (.int a1), some (.int a2), some (.int a3), some (rf g (h + 7)), some (.int x2), some (.int x3), some (.int x7), some (.long l16), none, some (.int x25), none, none, none] [] iv lv := by
        intro n
        induction n with
        | zero => intro iv lv x25 hG hx25 hn122; exact (ms_uz hx25 hn122).elim
        | succ n ih122 =>
          intro iv lv x25 hG hx25 hn122
          refine z_iload zh dX5_closeApart_122 rfl ?_
          refine z_aloadnR zh dX5_closeApart_124 rfl ?_
          refine y_getI zh fl_Notices_161 dX5_closeApart_125 (ck_H hh) rfl rfl (fun x26 ex26 => ?_)
          have hx26 : Ra 0 12 x26 := ra_of ex26 (si_H hG hh 0 (by decide) rfl)
          refine z_icmp_ge (tgt := 204) zh dX5_closeApart_128 rfl (fun q27 => ?_) (fun q27 => ?_)
          · refine z_aloadnR zh dX5_closeApart_204 rfl ?_
            refine z_getf zh fl_Notices_9 dX5_closeApart_205 (ck_H hh) rfl rfl ?_
            refine z_bipush zh dX5_closeApart_208 kb_6 ?_
            refine z_iloadn zh dX5_closeApart_210 rfl ?_
            refine z_iload zh dX5_closeApart_211 rfl ?_
            refine z_callVV zh mv_Notices_64 dX5_closeApart_213 (ck_T (isT_n hh)) rfl (s_X7_put g (isT_n hh) hG (pn_f hG hh rl_6 (by decide))) ⟨Nat.le_of_ble_eq_true rfl, Nat.le_of_ble_eq_true rfl⟩ rfl rfl (Nat.le_of_ble_eq_true rfl) ?_
            rintro iv lv hG
            refine z_aloadnR zh dX5_closeApart_216 rfl ?_
            refine z_iconst zh dX5_closeApart_217 ki_4 ?_
            refine z_iloadn zh dX5_closeApart_218 rfl ?_
            refine z_iload zh dX5_closeApart_219 rfl ?_
            refine z_iloadn zh dX5_closeApart_221 rfl ?_
            refine z_iload zh dX5_closeApart_222 rfl ?_
            refine z_callVV zh mv_Notices_149 dX5_closeApart_224 (ck_H hh) rfl (s_X1_write g hh (ra_w rl_4 (by decide) (by decide)) ha1 (ra_w r12 (by decide) (by decide)) (ra_w ha2 (by decide) (by decide)) hG) ⟨Nat.le_of_ble_eq_true rfl, Nat.le_of_ble_eq_true rfl⟩ rfl rfl (Nat.le_of_ble_eq_true rfl) ?_
            rintro iv lv hG
            exact z_vret zh dX5_closeApart_227 ⟨rfl, hG⟩
          · have r28 : Ra 0 11 x25 := rb_lt_l hx26 hx25 (rb_nle q27) (by decide)
            have r29 : Ra 1 12 x26 := rb_lt_r hx25 hx26 (rb_nle q27) (by decide)
            refine z_aloadnR zh dX5_closeApart_131 rfl ?_
            refine z_getf zh fl_Notices_164 dX5_closeApart_132 (ck_H hh) rfl rfl ?_
            refine z_iload zh dX5_closeApart_135 rfl ?_
            refine y_iald zh (ck_chain hh) dX5_closeApart_137 r28 (by decide) (by decide) (fun x30 ex30 => ?_)
            refine z_istore zh dX5_closeApart_138 (by decide) (L' := [some (rf g h), some (.int a1), some (.int a2), some (.int a3), some (rf g (h + 7)), some (.int x2), some (.int x3), some (.int x7), some (.long l16), none, some (.int x25), some (.int x30), none, none]) rfl ?_
            refine z_iload zh dX5_closeApart_140 rfl ?_
            refine y_i2l zh dX5_closeApart_142 (fun l31 => ?_)
            refine z_aloadR zh dX5_closeApart_143 rfl ?_
            refine z_iconst zh dX5_closeApart_145 ki_4 ?_
            refine z_iload zh dX5_closeApart_146 rfl ?_
            obtain ⟨x32, ex32⟩ : ∃ z, iv (h + 7) 2 = z := ⟨_, rfl⟩
            have hx32 : Ra 0 200 x32 := ra_of ex32 (si_T hG (isT_d hh))
            refine z_callVI zh mv_Notices_25 dX5_closeApart_148 (ck_T (isT_d hh)) rfl (s_X7_get g (isT_d hh) ex32 hx32) ⟨Nat.le_of_ble_eq_true rfl, Nat.le_of_ble_eq_true rfl⟩ rfl rfl (Nat.le_of_ble_eq_true rfl) ?_
            rintro x33 _ _ ⟨rfl, rfl, gx33⟩
            refine y_i2l zh dX5_closeApart_151 (fun l34 => ?_)
            refine y_lmul zh dX5_closeApart_152 (fun l35 => ?_)
            refine z_lstore zh dX5_closeApart_153 (by decide) (L' := [some (rf g h), some (.int a1), some (.int a2), some (.int a3), some (rf g (h + 7)), some (.int x2), some (.int x3), some (.int x7), some (.long l16), none, some (.int x25), some (.int x30), some (.long l35), none]) rfl ?_
            refine z_aloadnR zh dX5_closeApart_155 rfl ?_
            refine z_aloadR zh dX5_closeApart_156 rfl ?_
            refine z_iconst zh dX5_closeApart_158 ki_0 ?_
            refine z_iload zh dX5_closeApart_159 rfl ?_
            refine z_callVI zh mv_Notices_25 dX5_closeApart_161 (ck_T (isT_d hh)) rfl (s_X7_get g (isT_d hh) ex32 hx32) ⟨Nat.le_of_ble_eq_true rfl, Nat.le_of_ble_eq_true rfl⟩ rfl rfl (Nat.le_of_ble_eq_true rfl) ?_
            rintro x36 _ _ ⟨rfl, rfl, gx36⟩
            have hx36 : Ra (-1) 11 x36 := get_any gx36 0 rfl (by decide) (by decide) (fun j => si_H hG hh 9 (by decide) rfl)
            refine z_aloadR zh dX5_closeApart_164 rfl ?_
            refine z_iconst zh dX5_closeApart_166 ki_1 ?_
            refine z_iload zh dX5_closeApart_167 rfl ?_
            refine z_callVI zh mv_Notices_25 dX5_closeApart_169 (ck_T (isT_d hh)) rfl (s_X7_get g (isT_d hh) ex32 hx32) ⟨Nat.le_of_ble_eq_true rfl, Nat.le_of_ble_eq_true rfl⟩ rfl rfl (Nat.le_of_ble_eq_true rfl) ?_
            rintro x37 _ _ ⟨rfl, rfl, gx37⟩
            have hx37 : Ra (-1) 11 x37 := get_any gx37 1 rfl (by decide) (by decide) (fun j => si_H hG hh 10 (by decide) rfl)
            refine z_lload zh dX5_closeApart_172 rfl ?_
            refine z_callVV zh mv_Notices_138 dX5_closeApart_174 (ck_H hh) rfl (s_X1_pay g hh hx36 hx37 hG) ⟨Nat.le_of_ble_eq_true rfl, Nat.le_of_ble_eq_true rfl⟩ rfl rfl (Nat.le_of_ble_eq_true rfl) ?_
            rintro iv lv hG
            refine z_aloadR zh dX5_closeApart_177 rfl ?_
            refine z_bipush zh dX5_closeApart_179 kb_7 ?_
            refine z_iload zh dX5_closeApart_181 rfl ?_
            refine z_aloadR zh dX5_closeApart_183 rfl ?_
            refine z_bipush zh dX5_closeApart_185 kb_7 ?_
            refine z_iload zh dX5_closeApart_187 rfl ?_
            obtain ⟨x38, ex38⟩ : ∃ z, iv (h + 7) 2 = z := ⟨_, rfl⟩
            have hx38 : Ra 0 200 x38 := ra_of ex38 (si_T hG (isT_d hh))
            refine z_callVI zh mv_Notices_25 dX5_closeApart_189 (ck_T (isT_d hh)) rfl (s_X7_get g (isT_d hh) ex38 hx38) ⟨Nat.le_of_ble_eq_true rfl, Nat.le_of_ble_eq_true rfl⟩ rfl rfl (Nat.le_of_ble_eq_true rfl) ?_
            rintro x39 _ _ ⟨rfl, rfl, gx39⟩
            refine z_iload zh dX5_closeApart_192 rfl ?_
            refine y_isubT zh dX5_closeApart_194 (fun x40 => ?_)
            refine z_callVV zh mv_Notices_64 dX5_closeApart_195 (ck_T (isT_d hh)) rfl (s_X7_put g (isT_d hh) hG (pd_f hG hh rl_7 (by decide))) ⟨Nat.le_of_ble_eq_true rfl, Nat.le_of_ble_eq_true rfl⟩ rfl rfl (Nat.le_of_ble_eq_true rfl) ?_
            rintro iv lv hG
            refine y_iinc (L' := fun z => [some (rf g h), some (.int a1), some (.int a2), some (.int a3), some (rf g (h + 7)), some (.int x2), some (.int x3), some (.int x7), some (.long l16), none, some (.int z), some (.int x30), some (.long l35), none]) zh dX5_closeApart_198 (by decide) rfl (by decide +kernel) r28 (u := 1) (v := 12) rfl rfl (by decide) (by decide) (fun _ => rfl) (fun x41 hc41 hx41 => ?_)
            refine z_goto (tgt := 122) zh dX5_closeApart_201 rfl ?_
            refine z_forget zh [true, true, true, true, true, true, true, true, true, false, true, false, false, false] (L2 := [some (rf g h), some (.int a1), some (.int a2), some (.int a3), some (rf g (h + 7)), some (.int x2), some (.int x3), some (.int x7), some (.long l16), none, some (.int x41), none, none, none]) rfl ?_
            exact ih122 iv lv x41 hG (ra_w hx41 (by decide) (by decide)) (ms_up hc41 (by decide) hn122)
      exact J122 13 iv lv (nI 0) hG (ra_w rl_0 (by decide) (by decide)) (ms_u0 rl_0 (by decide))
    · have r42 := rb_eq (u := 0) (v := 0) hx8 ra_z q10 (by decide) (by decide)
      exact z_vret zh dX5_closeApart_66 ⟨rfl, hG⟩
  · have r43 : Ra (-2147483648) 2147483646 x5 := rb_lt_l (ra_tt x3) (ra_tt x5) (rb_nle q6) (by decide)
    have r44 : Ra (-2147483647) 2147483647 x3 := rb_lt_r (ra_tt x5) (ra_tt x3) (rb_nle q6) (by decide)
    exact z_vret zh dX5_closeApart_42 ⟨rfl, hG⟩
set_option maxRecDepth 20000 in
theorem s_X5_closeNet (g : GE) {sp : Nat → Nat → Bool} {σ : Iv} {iv : Iv} {lv : Lv} {h : Nat} {a1 : Int32} {a2 : Int32} {a3 : Int32} (hh : isH h) (ha1 : Ra 0 5 a1) (ha2 : Ra 0 11 a2) (ha3 : Ra 0 59 a3) (hG : SI sp σ iv)  : ConV g yX5_closeNet cX5_closeNet 11 none 4 [rf g h, .int a1, .int a2, .int a3] iv lv (fun iv lv => SI sp σ iv) := by
  refine con_intro (own := "RollingNets$Notices") (by decide +kernel) rfl (Nat.le_of_ble_eq_true rfl) (L0 := [some (rf g h), some (.int a1), some (.int a2), some (.int a3), none, none, none, none, none, none, none]) rfl (fun Z zh => ?_)
  refine z_aloadnR zh dX5_closeNet_0 rfl ?_
  refine z_getf zh fl_Notices_9 dX5_closeNet_1 (ck_H hh) rfl rfl ?_
  refine z_astore zh dX5_closeNet_4 (by decide) (L' := [some (rf g h), some (.int a1), some (.int a2), some (.int a3), some (rf g (h + 17)), none, none, none, none, none, none]) rfl ?_
  refine z_aloadnR zh dX5_closeNet_6 rfl ?_
  refine z_getf zh fl_Notices_68 dX5_closeNet_7 (ck_H hh) rfl rfl ?_
  refine z_iloadn zh dX5_closeNet_10 rfl ?_
  refine y_mald zh (ck_markets hh) dX5_closeNet_11 ha1 (by decide) (by decide) (fun j1 hj1 _ _ => ?_)
  refine z_astore zh dX5_closeNet_12 (by decide) (L' := [some (rf g h), some (.int a1), some (.int a2), some (.int a3), some (rf g (h + 17)), some (rf g (h + 60 + 20 * j1)), none, none, none, none, none]) rfl ?_
  refine z_iconst zh dX5_closeNet_14 ki_0 ?_
  refine z_istore zh dX5_closeNet_15 (by decide) (L' := [some (rf g h), some (.int a1), some (.int a2), some (.int a3), some (rf g (h + 17)), some (rf g (h + 60 + 20 * j1)), some (.int (nI 0)), none, none, none, none]) rfl ?_
  have J17 : ∀ (n : Nat) (iv : Iv) (lv : Lv) (x2 : Int32), SI sp σ iv → Ra 0 12 x2 → 12 - x2.toInt < (n : Int) → Z 17 [some (rf g h), some (.int a1), some (.int a2), some (.int a3), some (rf g (h + 17)), some (rf g (h + 60 + 20 * j1)), some (.int x2), none, none, none, none] [] iv lv := by
    intro n
    induction n with
    | zero => intro iv lv x2 hG hx2 hn17; exact (ms_uz hx2 hn17).elim
    | succ n ih17 =>
      intro iv lv x2 hG hx2 hn17
      refine z_iload zh dX5_closeNet_17 rfl ?_
      refine z_aloadnR zh dX5_closeNet_19 rfl ?_
      refine z_callVI zh mv_Notices_57 dX5_closeNet_20 (ck_H hh) rfl (s_X1_members g hh hG) ⟨Nat.le_of_ble_eq_true rfl, Nat.le_of_ble_eq_true rfl⟩ rfl rfl (Nat.le_of_ble_eq_true rfl) ?_
      rintro x3 _ _ ⟨rfl, rfl, hx3⟩
      refine z_icmp_ge (tgt := 182) zh dX5_closeNet_23 rfl (fun q4 => ?_) (fun q4 => ?_)
      · have r5 : Ra 2 12 x2 := rb_le_r hx3 hx2 q4 (by decide)
        exact z_vret zh dX5_closeNet_182 ⟨rfl, hG⟩
      · have r6 : Ra 0 11 x2 := rb_lt_l hx3 hx2 (rb_nle q4) (by decide)
        refine z_aloadR zh dX5_closeNet_26 rfl ?_
        refine z_bipush zh dX5_closeNet_28 kb_7 ?_
        refine z_iload zh dX5_closeNet_30 rfl ?_
        refine y_iadd zh dX5_closeNet_32 rl_7 r6 (u := 7) (v := 18) rfl rfl (by decide) (by decide) (fun x7 hc7 hx7 => ?_)
        refine z_iloadn zh dX5_closeNet_33 rfl ?_
        obtain ⟨x8, ex8⟩ : ∃ z, iv (h + 17) 2 = z := ⟨_, rfl⟩
        have hx8 : Ra 0 60 x8 := ra_of ex8 (si_T hG (isT_n hh))
        refine z_callVI zh mv_Notices_25 dX5_closeNet_34 (ck_T (isT_n hh)) rfl (s_X7_get g (isT_n hh) ex8 hx8) ⟨Nat.le_of_ble_eq_true rfl, Nat.le_of_ble_eq_true rfl⟩ rfl rfl (Nat.le_of_ble_eq_true rfl) ?_
        rintro x9 _ _ ⟨rfl, rfl, gx9⟩
        refine z_aloadR zh dX5_closeNet_37 rfl ?_
        refine z_iload zh dX5_closeNet_39 rfl ?_
        refine z_callVI zh mv_Notices_96 dX5_closeNet_41 (ck_M (isM_of hh hj1)) rfl (s_X3_shortOf g (isM_of hh hj1) r6 hG) ⟨Nat.le_of_ble_eq_true rfl, Nat.le_of_ble_eq_true rfl⟩ rfl rfl (Nat.le_of_ble_eq_true rfl) ?_
        rintro x10 _ _ ⟨rfl, rfl, hx10⟩
        refine y_mmin zh ma_Notices_84 mc_min dX5_closeNet_44 ⟨Nat.le_of_ble_eq_true rfl, Nat.le_of_ble_eq_true rfl⟩ (ra_tt x9) hx10 (u := (-2147483648)) (v := 2147483647) (by decide) (by decide) (Or.inl (by decide)) (fun x11 hx11 => ?_)
        refine z_istore zh dX5_closeNet_47 (by decide) (L' := [some (rf g h), some (.int a1), some (.int a2), some (.int a3), some (rf g (h + 17)), some (rf g (h + 60 + 20 * j1)), some (.int x2), some (.int x11), none, none, none]) rfl ?_
        refine z_iload zh dX5_closeNet_49 rfl ?_
        refine z_aloadR zh dX5_closeNet_51 rfl ?_
        refine z_iloadn zh dX5_closeNet_53 rfl ?_
        refine z_callVI zh mv_Notices_120 dX5_closeNet_54 (ck_M (isM_of hh hj1)) rfl (s_X3_longOf g (isM_of hh hj1) ha2 hG) ⟨Nat.le_of_ble_eq_true rfl, Nat.le_of_ble_eq_true rfl⟩ rfl rfl (Nat.le_of_ble_eq_true rfl) ?_
        rintro x12 _ _ ⟨rfl, rfl, hx12⟩
        refine y_mmin zh ma_Notices_84 mc_min dX5_closeNet_57 ⟨Nat.le_of_ble_eq_true rfl, Nat.le_of_ble_eq_true rfl⟩ hx11 hx12 (u := (-2147483648)) (v := 2147483647) (by decide) (by decide) (Or.inl (by decide)) (fun x13 hx13 => ?_)
        refine z_istore zh dX5_closeNet_60 (by decide) (L' := [some (rf g h), some (.int a1), some (.int a2), some (.int a3), some (rf g (h + 17)), some (rf g (h + 60 + 20 * j1)), some (.int x2), some (.int x11), some (.int x13), none, none]) rfl ?_
        refine z_iload zh dX5_closeNet_62 rfl ?_
        have J176 : ∀ (iv : Iv) (lv : Lv), SI sp σ iv → Z 176 [some (rf g h), some (.int a1), some (.int a2), some (.int a3), some (rf g (h + 17)), some (rf g (h + 60 + 20 * j1)), some (.int x2), some (.int x11), some (.int x13), none, none] [] iv lv := by
          intro iv lv hG
          refine y_iinc (L' := fun z => [some (rf g h), some (.int a1), some (.int a2), some (.int a3), some (rf g (h + 17)), some (rf g (h + 60 + 20 * j1)), some (.int z), some (.int x11), some (.int x13), none, none]) zh dX5_closeNet_176 (by decide) rfl (by decide +kernel) r6 (u := 1) (v := 12) rfl rfl (by decide) (by decide) (fun _ => rfl) (fun x14 hc14 hx14 => ?_)
          refine z_goto (tgt := 17) zh dX5_closeNet_179 rfl ?_
          refine z_forget zh [true, true, true, true, true, true, true, false, false, false, false] (L2 := [some (rf g h), some (.int a1), some (.int a2), some (.int a3), some (rf g (h + 17)), some (rf g (h + 60 + 20 * j1)), some (.int x14), none, none, none, none]) rfl ?_
          exact ih17 iv lv x14 hG (ra_w hx14 (by decide) (by decide)) (ms_up hc14 (by decide) hn17)
        refine z_if_le (tgt := 176) zh dX5_closeNet_64 rfl (fun q15 => ?_) (fun q15 => ?_)
        · have r16 : Ra (-2147483648) 0 x13 := rb_le_l ra_z hx13 q15 (by decide)
          exact J176 iv lv hG
        · have r17 : Ra 1 2147483647 x13 := rb_lt_r ra_z hx13 (rb_nle q15) (by decide)
          refine z_iload zh dX5_closeNet_67 rfl ?_
          refine y_i2l zh dX5_closeNet_69 (fun l18 => ?_)
          refine z_aloadnR zh dX5_closeNet_70 rfl ?_
          refine z_iloadn zh dX5_closeNet_71 rfl ?_
          refine z_callVI zh mv_Notices_123 dX5_closeNet_72 (ck_H hh) rfl (s_X1_buyPrice g hh ha1 hG) ⟨Nat.le_of_ble_eq_true rfl, Nat.le_of_ble_eq_true rfl⟩ rfl rfl (Nat.le_of_ble_eq_true rfl) ?_
          rintro x19 _ _ ⟨rfl, rfl, _⟩
          refine y_i2l zh dX5_closeNet_75 (fun l20 => ?_)
          refine y_lmul zh dX5_closeNet_76 (fun l21 => ?_)
          refine z_lstore zh dX5_closeNet_77 (by decide) (L' := [some (rf g h), some (.int a1), some (.int a2), some (.int a3), some (rf g (h + 17)), some (rf g (h + 60 + 20 * j1)), some (.int x2), some (.int x11), some (.int x13), some (.long l21), none]) rfl ?_
          refine z_aloadR zh dX5_closeNet_79 rfl ?_
          refine z_getf zh fl_Notices_126 dX5_closeNet_81 (ck_M (isM_of hh hj1)) rfl rfl ?_
          refine z_iloadn zh dX5_closeNet_84 rfl ?_
          refine z_dup2 zh dX5_closeNet_85 rfl rfl ?_
          refine y_lald zh (ck_stock (isM_of hh hj1)) dX5_closeNet_86 ha2 (by decide) (by decide) (fun l22 => ?_)
          refine z_iload zh dX5_closeNet_87 rfl ?_
          refine y_i2l zh dX5_closeNet_89 (fun l23 => ?_)
          refine y_ladd zh dX5_closeNet_90 (fun l24 => ?_)
          refine z_last zh (ck_stock (isM_of hh hj1)) dX5_closeNet_91 (ra_in ha2 (by decide) (by decide)) ?_
          generalize upL lv (h + 60 + 20 * j1 + 1) a2.toNatClampNeg l24 = lv
          refine z_aloadR zh dX5_closeNet_92 rfl ?_
          refine z_iloadn zh dX5_closeNet_94 rfl ?_
          refine z_iload zh dX5_closeNet_95 rfl ?_
          refine z_callVV zh mv_Notices_130 dX5_closeNet_97 (ck_M (isM_of hh hj1)) rfl (s_X3_takeOff g (isM_of hh hj1) ha2 hG) ⟨Nat.le_of_ble_eq_true rfl, Nat.le_of_ble_eq_true rfl⟩ rfl rfl (Nat.le_of_ble_eq_true rfl) ?_
          rintro iv lv hG
          refine z_aloadR zh dX5_closeNet_100 rfl ?_
          refine z_iload zh dX5_closeNet_102 rfl ?_
          refine z_iload zh dX5_closeNet_104 rfl ?_
          refine z_callVV zh mv_Notices_130 dX5_closeNet_106 (ck_M (isM_of hh hj1)) rfl (s_X3_takeOff g (isM_of hh hj1) r6 hG) ⟨Nat.le_of_ble_eq_true rfl, Nat.le_of_ble_eq_true rfl⟩ rfl rfl (Nat.le_of_ble_eq_true rfl) ?_
          rintro iv lv hG
          refine z_aloadnR zh dX5_closeNet_109 rfl ?_
          refine z_iloadn zh dX5_closeNet_110 rfl ?_
          refine z_iload zh dX5_closeNet_111 rfl ?_
          refine z_aloadR zh dX5_closeNet_113 rfl ?_
          refine z_iload zh dX5_closeNet_115 rfl ?_
          refine z_callVL zh mv_Notices_134 dX5_closeNet_117 (ck_M (isM_of hh hj1)) rfl (s_X3_worth g (isM_of hh hj1) hG) ⟨Nat.le_of_ble_eq_true rfl, Nat.le_of_ble_eq_true rfl⟩ rfl rfl (Nat.le_of_ble_eq_true rfl) ?_
          rintro l25 _ _ ⟨rfl, rfl, _⟩
          refine z_callVV zh mv_Notices_138 dX5_closeNet_120 (ck_H hh) rfl (s_X1_pay g hh (ra_w ha2 (by decide) (by decide)) (ra_w r6 (by decide) (by decide)) hG) ⟨Nat.le_of_ble_eq_true rfl, Nat.le_of_ble_eq_true rfl⟩ rfl rfl (Nat.le_of_ble_eq_true rfl) ?_
          rintro iv lv hG
          refine z_aloadnR zh dX5_closeNet_123 rfl ?_
          refine z_getf zh fl_Notices_142 dX5_closeNet_124 (ck_H hh) rfl rfl ?_
          refine z_iload zh dX5_closeNet_127 rfl ?_
          refine z_dup2 zh dX5_closeNet_129 rfl rfl ?_
          refine y_lald zh (ck_cash hh) dX5_closeNet_130 r6 (by decide) (by decide) (fun l26 => ?_)
          refine z_lload zh dX5_closeNet_131 rfl ?_
          refine y_lsub zh dX5_closeNet_133 (fun l27 => ?_)
          refine z_last zh (ck_cash hh) dX5_closeNet_134 (ra_in r6 (by decide) (by decide)) ?_
          generalize upL lv (h + 2) x2.toNatClampNeg l27 = lv
          refine z_aloadnR zh dX5_closeNet_135 rfl ?_
          refine z_dup zh dX5_closeNet_136 rfl ?_
          refine y_getL zh fl_Notices_145 dX5_closeNet_137 (ck_H hh) rfl rfl (fun l28 => ?_)
          refine z_lload zh dX5_closeNet_140 rfl ?_
          refine y_ladd zh dX5_closeNet_142 (fun l29 => ?_)
          refine z_putL zh fl_Notices_145 dX5_closeNet_143 (ck_H hh) rfl rfl (Nat.le_of_ble_eq_true rfl) rfl ?_
          generalize upL lv h 12 l29 = lv
          refine z_aloadR zh dX5_closeNet_146 rfl ?_
          refine z_bipush zh dX5_closeNet_148 kb_6 ?_
          refine z_iloadn zh dX5_closeNet_150 rfl ?_
          refine z_aloadR zh dX5_closeNet_151 rfl ?_
          refine z_bipush zh dX5_closeNet_153 kb_6 ?_
          refine z_iloadn zh dX5_closeNet_155 rfl ?_
          obtain ⟨x30, ex30⟩ : ∃ z, iv (h + 17) 2 = z := ⟨_, rfl⟩
          have hx30 : Ra 0 60 x30 := ra_of ex30 (si_T hG (isT_n hh))
          refine z_callVI zh mv_Notices_25 dX5_closeNet_156 (ck_T (isT_n hh)) rfl (s_X7_get g (isT_n hh) ex30 hx30) ⟨Nat.le_of_ble_eq_true rfl, Nat.le_of_ble_eq_true rfl⟩ rfl rfl (Nat.le_of_ble_eq_true rfl) ?_
          rintro x31 _ _ ⟨rfl, rfl, gx31⟩
          refine z_iload zh dX5_closeNet_159 rfl ?_
          refine y_iaddT zh dX5_closeNet_161 (fun x32 => ?_)
          refine z_callVV zh mv_Notices_64 dX5_closeNet_162 (ck_T (isT_n hh)) rfl (s_X7_put g (isT_n hh) hG (pn_f hG hh rl_6 (by decide))) ⟨Nat.le_of_ble_eq_true rfl, Nat.le_of_ble_eq_true rfl⟩ rfl rfl (Nat.le_of_ble_eq_true rfl) ?_
          rintro iv lv hG
          refine z_aloadnR zh dX5_closeNet_165 rfl ?_
          refine z_iconst zh dX5_closeNet_166 ki_4 ?_
          refine z_iloadn zh dX5_closeNet_167 rfl ?_
          refine z_iload zh dX5_closeNet_168 rfl ?_
          refine z_iloadn zh dX5_closeNet_170 rfl ?_
          refine z_iload zh dX5_closeNet_171 rfl ?_
          refine z_callVV zh mv_Notices_149 dX5_closeNet_173 (ck_H hh) rfl (s_X1_write g hh (ra_w rl_4 (by decide) (by decide)) ha1 (ra_w r6 (by decide) (by decide)) (ra_w ha2 (by decide) (by decide)) hG) ⟨Nat.le_of_ble_eq_true rfl, Nat.le_of_ble_eq_true rfl⟩ rfl rfl (Nat.le_of_ble_eq_true rfl) ?_
          rintro iv lv hG
          refine z_forget zh [true, true, true, true, true, true, true, true, true, false, false] (L2 := [some (rf g h), some (.int a1), some (.int a2), some (.int a3), some (rf g (h + 17)), some (rf g (h + 60 + 20 * j1)), some (.int x2), some (.int x11), some (.int x13), none, none]) rfl ?_
          exact J176 iv lv hG
  exact J17 13 iv lv (nI 0) hG (ra_w rl_0 (by decide) (by decide)) (ms_u0 rl_0 (by decide))
set_option maxRecDepth 20000 in
theorem s_X5_closeDue (g : GE) {sp : Nat → Nat → Bool} {σ : Iv} {iv : Iv} {lv : Lv} {h : Nat} {a1 : Int32} (hh : isH h) (ha1 : Ra 0 5 a1) (hG : SI sp σ iv)  : ConV g yX5_closeDue cX5_closeDue 5 none 5 [rf g h, .int a1] iv lv (fun iv lv => SI sp σ iv) := by
  refine con_intro (own := "RollingNets$Notices") (by decide +kernel) rfl (Nat.le_of_ble_eq_true rfl) (L0 := [some (rf g h), some (.int a1), none, none, none]) rfl (fun Z zh => ?_)
  obtain ⟨iw1, eiw1⟩ : ∃ z, z = iv := ⟨_, rfl⟩
  have hS : SI sp σ iw1 := by rw [eiw1]; exact hG
  have hG : SI spc iw1 iv := by rw [eiw1]; exact si_full hG
  refine z_aloadnR zh dX5_closeDue_0 rfl ?_
  refine z_getf zh fl_Notices_9 dX5_closeDue_1 (ck_H hh) rfl rfl ?_
  refine z_astoren zh dX5_closeDue_4 (by decide) (L' := [some (rf g h), some (.int a1), some (rf g (h + 17)), none, none]) rfl ?_
  refine z_iconst zh dX5_closeDue_5 ki_0 ?_
  refine z_istoren zh dX5_closeDue_6 (by decide) (L' := [some (rf g h), some (.int a1), some (rf g (h + 17)), some (.int (nI 0)), none]) rfl ?_
  have J7 : ∀ (n : Nat) (iv : Iv) (lv : Lv) (x2 : Int32), SI spc iw1 iv → Ra 0 60 x2 → 60 - x2.toInt < (n : Int) → Z 7 [some (rf g h), some (.int a1), some (rf g (h + 17)), some (.int x2), none] [] iv lv := by
    intro n
    induction n with
    | zero => intro iv lv x2 hG hx2 hn7; exact (ms_uz hx2 hn7).elim
    | succ n ih7 =>
      intro iv lv x2 hG hx2 hn7
      refine z_iloadn zh dX5_closeDue_7 rfl ?_
      refine z_aloadnR zh dX5_closeDue_8 rfl ?_
      obtain ⟨x3, ex3⟩ : ∃ z, iv (h + 17) 2 = z := ⟨_, rfl⟩
      have hx3 : Ra 0 60 x3 := ra_of ex3 (si_T hG (isT_n hh))
      have es4 := (si_s hG ((spc_H hh (r := 17) (by decide)).trans rfl)).symm.trans ex3
      refine z_callVIp zh mv_Notices_15 dX5_closeDue_9 (ck_T (isT_n hh)) rfl (s_X7_size g (isT_n hh) ex3) ⟨Nat.le_of_ble_eq_true rfl, Nat.le_of_ble_eq_true rfl⟩ rfl rfl (Nat.le_of_ble_eq_true rfl) ?_
      refine z_icmp_ge (tgt := 105) zh dX5_closeDue_12 rfl (fun q5 => ?_) (fun q5 => ?_)
      · have hG := si_back hS hG
        exact z_vret zh dX5_closeDue_105 ⟨rfl, hG⟩
      · have r6 : Ra 0 59 x2 := rb_lt_l hx3 hx2 (rb_nle q5) (by decide)
        have r7 : Ra 1 60 x3 := rb_lt_r hx2 hx3 (rb_nle q5) (by decide)
        refine z_aloadnR zh dX5_closeDue_15 rfl ?_
        refine z_iloadn zh dX5_closeDue_16 rfl ?_
        refine z_iloadn zh dX5_closeDue_17 rfl ?_
        refine z_callVI zh mv_Notices_21 dX5_closeDue_18 (ck_H hh) rfl (s_X1_isOpenNotice g hh r6 ha1 hG) ⟨Nat.le_of_ble_eq_true rfl, Nat.le_of_ble_eq_true rfl⟩ rfl rfl (Nat.le_of_ble_eq_true rfl) ?_
        rintro x8 _ _ ⟨rfl, rfl, hx8⟩
        have J99 : ∀ (iv : Iv) (lv : Lv), SI spc iw1 iv → Z 99 [some (rf g h), some (.int a1), some (rf g (h + 17)), some (.int x2), none] [] iv lv := by
          intro iv lv hG
          refine y_iinc (L' := fun z => [some (rf g h), some (.int a1), some (rf g (h + 17)), some (.int z), none]) zh dX5_closeDue_99 (by decide) rfl (by decide +kernel) r6 (u := 1) (v := 60) rfl rfl (by decide) (by decide) (fun _ => rfl) (fun x9 hc9 hx9 => ?_)
          refine z_goto (tgt := 7) zh dX5_closeDue_102 rfl ?_
          exact ih7 iv lv x9 hG (ra_w hx9 (by decide) (by decide)) (ms_up hc9 (by decide) hn7)
        refine z_if_eq (tgt := 99) zh dX5_closeDue_21 rfl (fun q10 => ?_) (fun q10 => ?_)
        · have r11 := rb_eq (u := 0) (v := 0) hx8 ra_z q10 (by decide) (by decide)
          exact J99 iv lv hG
        · have r12 : Ra 1 1 x8 := rb_ne_lo hx8 ra_z q10 (by decide)
          refine z_aloadnR zh dX5_closeDue_24 rfl ?_
          refine z_iconst zh dX5_closeDue_25 ki_3 ?_
          refine z_iloadn zh dX5_closeDue_26 rfl ?_
          refine z_callVI zh mv_Notices_25 dX5_closeDue_27 (ck_T (isT_n hh)) rfl (s_X7_get g (isT_n hh) ex3 hx3) ⟨Nat.le_of_ble_eq_true rfl, Nat.le_of_ble_eq_true rfl⟩ rfl rfl (Nat.le_of_ble_eq_true rfl) ?_
          rintro x13 _ _ ⟨rfl, rfl, gx13⟩
          refine z_aloadnR zh dX5_closeDue_30 rfl ?_
          refine y_getI zh fl_Notices_78 dX5_closeDue_31 (ck_H hh) rfl rfl (fun x14 ex14 => ?_)
          have hx14 : Ra 0 99 x14 := ra_of ex14 (si_H hG hh 0 (by decide) rfl)
          have es15 := (si_s hG ((spc_H hh (r := 0) (by decide)).trans rfl)).symm.trans ex14
          refine z_icmp_gt (tgt := 99) zh dX5_closeDue_34 rfl (fun q16 => ?_) (fun q16 => ?_)
          · have r17 : Ra 1 2147483647 x13 := rb_lt_r hx14 (ra_tt x13) q16 (by decide)
            exact J99 iv lv hG
          · have r18 : Ra (-2147483648) 99 x13 := rb_le_l hx14 (ra_tt x13) (rb_nlt q16) (by decide)
            refine z_aloadnR zh dX5_closeDue_37 rfl ?_
            refine z_iconst zh dX5_closeDue_38 ki_0 ?_
            refine z_iloadn zh dX5_closeDue_39 rfl ?_
            refine z_callVI zh mv_Notices_25 dX5_closeDue_40 (ck_T (isT_n hh)) rfl (s_X7_get g (isT_n hh) ex3 hx3) ⟨Nat.le_of_ble_eq_true rfl, Nat.le_of_ble_eq_true rfl⟩ rfl rfl (Nat.le_of_ble_eq_true rfl) ?_
            rintro x19 _ _ ⟨rfl, rfl, gx19⟩
            have hx19 : Ra 0 11 x19 := get_in gx19 0 rfl (by decide) (by decide) ⟨Int.le_trans (by decide) r6.1, ltI.mp (rb_nle q5)⟩ (fun j => si_H hG hh 19 (by decide) rfl)
            refine z_istore zh dX5_closeDue_43 (by decide) (L' := [some (rf g h), some (.int a1), some (rf g (h + 17)), some (.int x2), some (.int x19)]) rfl ?_
            refine z_aloadnR zh dX5_closeDue_45 rfl ?_
            refine z_iload zh dX5_closeDue_46 rfl ?_
            refine z_callVI zh mv_Notices_29 dX5_closeDue_48 (ck_H hh) rfl (s_X1_hasMember g hh hG) ⟨Nat.le_of_ble_eq_true rfl, Nat.le_of_ble_eq_true rfl⟩ rfl rfl (Nat.le_of_ble_eq_true rfl) ?_
            rintro x20 _ _ ⟨rfl, rfl, hx20, hz21⟩
            have J92 : ∀ (iv : Iv) (lv : Lv), SI spc iw1 iv → Z 92 [some (rf g h), some (.int a1), some (rf g (h + 17)), some (.int x2), some (.int x19)] [] iv lv := by
              intro iv lv hG
              refine z_aloadnR zh dX5_closeDue_92 rfl ?_
              refine z_iconst zh dX5_closeDue_93 ki_4 ?_
              refine z_iloadn zh dX5_closeDue_94 rfl ?_
              refine z_iconst zh dX5_closeDue_95 ki_0 ?_
              refine z_callVV zh mv_Notices_64 dX5_closeDue_96 (ck_T (isT_n hh)) rfl (s_X7_put g (isT_n hh) hG (pn_f hG hh rl_4 (by decide))) ⟨Nat.le_of_ble_eq_true rfl, Nat.le_of_ble_eq_true rfl⟩ rfl rfl (Nat.le_of_ble_eq_true rfl) ?_
              rintro iv lv hG
              refine z_forget zh [true, true, true, true, false] (L2 := [some (rf g h), some (.int a1), some (rf g (h + 17)), some (.int x2), none]) rfl ?_
              exact J99 iv lv hG
            have J75 : ∀ (iv : Iv) (lv : Lv), SI spc iw1 iv → Z 75 [some (rf g h), some (.int a1), some (rf g (h + 17)), some (.int x2), some (.int x19)] [] iv lv := by
              intro iv lv hG
              refine z_aloadnR zh dX5_closeDue_75 rfl ?_
              refine z_iload zh dX5_closeDue_76 rfl ?_
              refine z_callVI zh mv_Notices_29 dX5_closeDue_78 (ck_H hh) rfl (s_X1_hasMember g hh hG) ⟨Nat.le_of_ble_eq_true rfl, Nat.le_of_ble_eq_true rfl⟩ rfl rfl (Nat.le_of_ble_eq_true rfl) ?_
              rintro x22 _ _ ⟨rfl, rfl, hx22, hz23⟩
              refine z_if_eq (tgt := 92) zh dX5_closeDue_81 rfl (fun q24 => ?_) (fun q24 => ?_)
              · have r25 := rb_eq (u := 0) (v := 0) hx22 ra_z q24 (by decide) (by decide)
                exact J92 iv lv hG
              · have r26 : Ra 1 1 x22 := rb_ne_lo hx22 ra_z q24 (by decide)
                refine z_aloadnR zh dX5_closeDue_84 rfl ?_
                refine z_iloadn zh dX5_closeDue_85 rfl ?_
                refine z_iload zh dX5_closeDue_86 rfl ?_
                refine z_iloadn zh dX5_closeDue_88 rfl ?_
                refine z_callSV zh ms_Notices_117 dX5_closeDue_89 (s_X5_closeApart g hh ha1 hx19 r6 hG) ⟨Nat.le_of_ble_eq_true rfl, Nat.le_of_ble_eq_true rfl⟩ rfl rfl (Nat.le_of_ble_eq_true rfl) ?_
                rintro iv lv hG
                exact J92 iv lv hG
            refine z_if_eq (tgt := 75) zh dX5_closeDue_51 rfl (fun q27 => ?_) (fun q27 => ?_)
            · have r28 := rb_eq (u := 0) (v := 0) hx20 ra_z q27 (by decide) (by decide)
              exact J75 iv lv hG
            · have r29 : Ra 1 1 x20 := rb_ne_lo hx20 ra_z q27 (by decide)
              refine z_aloadnR zh dX5_closeDue_54 rfl ?_
              refine z_iconst zh dX5_closeDue_55 ki_5 ?_
              refine z_iloadn zh dX5_closeDue_56 rfl ?_
              refine z_callVI zh mv_Notices_25 dX5_closeDue_57 (ck_T (isT_n hh)) rfl (s_X7_get g (isT_n hh) ex3 hx3) ⟨Nat.le_of_ble_eq_true rfl, Nat.le_of_ble_eq_true rfl⟩ rfl rfl (Nat.le_of_ble_eq_true rfl) ?_
              rintro x30 _ _ ⟨rfl, rfl, gx30⟩
              refine z_iconst zh dX5_closeDue_60 ki_m1 ?_
              refine z_icmp_ne (tgt := 75) zh dX5_closeDue_61 rfl (fun q31 => ?_) (fun q31 => ?_)
              · exact J75 iv lv hG
              · have r32 := rb_eq (u := (-1)) (v := (-1)) (ra_tt x30) rl_n1 q31 (by decide) (by decide)
                refine z_aloadnR zh dX5_closeDue_64 rfl ?_
                refine z_iloadn zh dX5_closeDue_65 rfl ?_
                refine z_iload zh dX5_closeDue_66 rfl ?_
                refine z_iloadn zh dX5_closeDue_68 rfl ?_
                refine z_callSV zh ms_Notices_113 dX5_closeDue_69 (s_X5_closeNet g hh ha1 hx19 r6 hG) ⟨Nat.le_of_ble_eq_true rfl, Nat.le_of_ble_eq_true rfl⟩ rfl rfl (Nat.le_of_ble_eq_true rfl) ?_
                rintro iv lv hG
                refine z_goto (tgt := 92) zh dX5_closeDue_72 rfl ?_
                exact J92 iv lv hG
  exact J7 61 iv lv (nI 0) hG (ra_w rl_0 (by decide) (by decide)) (ms_u0 rl_0 (by decide))
set_option maxRecDepth 20000 in
theorem s_X4_pass (g : GE) {sp : Nat → Nat → Bool} {σ : Iv} {iv : Iv} {lv : Lv} {h : Nat} {a1 : Int32} (hh : isH h) (hG : SI sp σ iv) (hq : Sq sp) : ConI g yX4_pass cX4_pass 5 (some .int) 6 [rf g h, .int a1] iv lv (fun r iv lv => SI sp σ iv ∧ Ra (-1) 20 r) := by
  refine con_intro (own := "RollingNets$Night") (by decide +kernel) rfl (Nat.le_of_ble_eq_true rfl) (L0 := [some (rf g h), some (.int a1), none, none, none]) rfl (fun Z zh => ?_)
  refine z_iloadn zh dX4_pass_0 rfl ?_
  refine z_iconst zh dX4_pass_1 ki_1 ?_
  refine z_bipush zh dX4_pass_2 kb_20 ?_
  refine z_callSI zh ms_Night_9 dX4_pass_4 (s_X8_within g) ⟨Nat.le_of_ble_eq_true rfl, Nat.le_of_ble_eq_true rfl⟩ rfl rfl (Nat.le_of_ble_eq_true rfl) ?_
  rintro x1 _ _ ⟨rfl, rfl, hx1, hz2⟩
  refine z_if_eq (tgt := 19) zh dX4_pass_7 rfl (fun q3 => ?_) (fun q3 => ?_)
  · have r4 := rb_eq (u := 0) (v := 0) hx1 ra_z q3 (by decide) (by decide)
    refine z_iconst zh dX4_pass_19 ki_m1 ?_
    exact z_iret zh dX4_pass_20 ⟨_, rfl, hG, (ra_w rl_n1 (by decide) (by decide))⟩
  · have r5 : Ra 1 1 x1 := rb_ne_lo hx1 ra_z q3 (by decide)
    have r6 : Ra 1 20 a1 := (rb_in rl_1 rl_20 (hz2 q3))
    refine z_aloadnR zh dX4_pass_10 rfl ?_
    refine y_getI zh fl_Night_13 dX4_pass_11 (ck_H hh) rfl rfl (fun x7 ex7 => ?_)
    have hx7 : Ra 0 99 x7 := ra_of ex7 (si_H hG hh 0 (by decide) rfl)
    refine z_bipush zh dX4_pass_14 kb_99 ?_
    refine z_icmp_lt (tgt := 21) zh dX4_pass_16 rfl (fun q8 => ?_) (fun q8 => ?_)
    · have r9 : Ra 0 98 x7 := rb_lt_l rl_99 hx7 q8 (by decide)
      refine z_iconst zh dX4_pass_21 ki_0 ?_
      refine z_istoren zh dX4_pass_22 (by decide) (L' := [some (rf g h), some (.int a1), some (.int (nI 0)), none, none]) rfl ?_
      have J23 : ∀ (n : Nat) (iv : Iv) (lv : Lv) (x10 : Int32), SI sp σ iv → Ra 0 20 x10 → 20 - x10.toInt < (n : Int) → Z 23 [some (rf g h), some (.int a1), some (.int x10), none, none] [] iv lv := by
        intro n
        induction n with
        | zero => intro iv lv x10 hG hx10 hn23; exact (ms_uz hx10 hn23).elim
        | succ n ih23 =>
          intro iv lv x10 hG hx10 hn23
          refine z_iloadn zh dX4_pass_23 rfl ?_
          refine z_iloadn zh dX4_pass_24 rfl ?_
          refine z_icmp_ge (tgt := 116) zh dX4_pass_25 rfl (fun q11 => ?_) (fun q11 => ?_)
          · have r12 : Ra 1 20 x10 := rb_le_r r6 hx10 q11 (by decide)
            refine z_iloadn zh dX4_pass_116 rfl ?_
            exact z_iret zh dX4_pass_117 ⟨_, rfl, hG, (ra_w r12 (by decide) (by decide))⟩
          · have r13 : Ra 0 19 x10 := rb_lt_l r6 hx10 (rb_nle q11) (by decide)
            refine z_aloadnR zh dX4_pass_28 rfl ?_
            refine y_getI zh fl_Night_13 dX4_pass_29 (ck_H hh) rfl rfl (fun x14 ex14 => ?_)
            have hx14 : Ra 0 99 x14 := ra_of ex14 (si_H hG hh 0 (by decide) rfl)
            refine z_bipush zh dX4_pass_32 kb_99 ?_
            refine z_icmp_ge (tgt := 116) zh dX4_pass_34 rfl (fun q15 => ?_) (fun q15 => ?_)
            · have r16 : Ra 99 99 x14 := rb_le_r rl_99 hx14 q15 (by decide)
              refine z_iloadn zh dX4_pass_116 rfl ?_
              exact z_iret zh dX4_pass_117 ⟨_, rfl, hG, (ra_w r13 (by decide) (by decide))⟩
            · have r17 : Ra 0 98 x14 := rb_lt_l rl_99 hx14 (rb_nle q15) (by decide)
              obtain ⟨iw18, eiw18⟩ : ∃ z, z = iv := ⟨_, rfl⟩
              have hS : SI sp σ iw18 := by rw [eiw18]; exact hG
              have hG : SI spc iw18 iv := by rw [eiw18]; exact si_full hG
              have es19 := (si_s hG ((spc_H hh (r := 0) (by decide)).trans rfl)).symm.trans ex14
              refine z_iconst zh dX4_pass_37 ki_0 ?_
              refine z_istoren zh dX4_pass_38 (by decide) (L' := [some (rf g h), some (.int a1), some (.int x10), some (.int (nI 0)), none]) rfl ?_
              have J39 : ∀ (n : Nat) (iv : Iv) (lv : Lv) (x20 : Int32), SI spc iw18 iv → Ra 0 6 x20 → 6 - x20.toInt < (n : Int) → Z 39 [some (rf g h), some (.int a1), some (.int x10), some (.int x20), none] [] iv lv := by
                intro n
                induction n with
                | zero => intro iv lv x20 hG hx20 hn39; exact (ms_uz hx20 hn39).elim
                | succ n ih39 =>
                  intro iv lv x20 hG hx20 hn39
                  refine z_iloadn zh dX4_pass_39 rfl ?_
                  refine z_bipush zh dX4_pass_40 kb_6 ?_
                  refine z_icmp_ge (tgt := 100) zh dX4_pass_42 rfl (fun q21 => ?_) (fun q21 => ?_)
                  · have r22 : Ra 6 6 x20 := rb_le_r rl_6 hx20 q21 (by decide)
                    refine z_aloadnR zh dX4_pass_100 rfl ?_
                    refine z_dup zh dX4_pass_101 rfl ?_
                    refine z_getI (x := x14) zh fl_Night_13 dX4_pass_102 (ck_H hh) rfl rfl ((si_s hG ((spc_H hh (r := 0) (by decide)).trans rfl)).trans es19) ?_
                    refine z_iconst zh dX4_pass_105 ki_1 ?_
                    refine y_iadd zh dX4_pass_106 r17 rl_1 (u := 1) (v := 99) rfl rfl (by decide) (by decide) (fun x23 hc23 hx23 => ?_)
                    have em24 : iv h 11 = x14 := ((si_s hG ((spc_H hh (r := 0) (by decide)).trans rfl)).trans es19)
                    have hG := si_back hS hG
                    refine z_putI zh fl_Night_13 dX4_pass_107 (ck_H hh) rfl rfl (Nat.le_of_ble_eq_true rfl) (Or.inl rfl) ?_
                    have hG : SI sp σ (upI iv h 11 x23) := si_wHq hG hq hh 0 (by decide) (rx_some (ra_w hx23 (by decide) (by decide)))
                    have em25 : upI iv h 11 x23 h 11 = x23 := by rw [upI_at, if_pos ⟨rfl, rfl⟩]
                    generalize upI iv h 11 x23 = iv at hG em25 ⊢
                    refine y_iinc (L' := fun z => [some (rf g h), some (.int a1), some (.int z), some (.int x20), none]) zh dX4_pass_110 (by decide) rfl (by decide +kernel) r13 (u := 1) (v := 20) rfl rfl (by decide) (by decide) (fun _ => rfl) (fun x26 hc26 hx26 => ?_)
                    refine z_goto (tgt := 23) zh dX4_pass_113 rfl ?_
                    refine z_forget zh [true, true, true, false, false] (L2 := [some (rf g h), some (.int a1), some (.int x26), none, none]) rfl ?_
                    exact ih23 iv lv x26 hG (ra_w hx26 (by decide) (by decide)) (ms_up hc26 (by decide) hn23)
                  · have r27 : Ra 0 5 x20 := rb_lt_l rl_6 hx20 (rb_nle q21) (by decide)
                    refine z_aloadnR zh dX4_pass_45 rfl ?_
                    refine z_iloadn zh dX4_pass_46 rfl ?_
                    refine z_callSV zh ms_Night_19 dX4_pass_47 (s_X4_netDue g hh r27 hG) ⟨Nat.le_of_ble_eq_true rfl, Nat.le_of_ble_eq_true rfl⟩ rfl rfl (Nat.le_of_ble_eq_true rfl) ?_
                    rintro iv lv hG
                    refine z_aloadnR zh dX4_pass_50 rfl ?_
                    refine z_iloadn zh dX4_pass_51 rfl ?_
                    refine z_callSI zh ms_Night_25 dX4_pass_52 (s_X4_deliverAll g hh r27 hG) ⟨Nat.le_of_ble_eq_true rfl, Nat.le_of_ble_eq_true rfl⟩ rfl rfl (Nat.le_of_ble_eq_true rfl) ?_
                    rintro x28 iv lv ⟨hG, _⟩
                    refine z_istore zh dX4_pass_55 (by decide) (L' := [some (rf g h), some (.int a1), some (.int x10), some (.int x20), some (.int x28)]) rfl ?_
                    refine z_aloadnR zh dX4_pass_57 rfl ?_
                    refine z_iloadn zh dX4_pass_58 rfl ?_
                    refine z_iload zh dX4_pass_59 rfl ?_
                    refine z_callSV zh ms_Night_29 dX4_pass_61 (s_X4_allot g hh r27 hG) ⟨Nat.le_of_ble_eq_true rfl, Nat.le_of_ble_eq_true rfl⟩ rfl rfl (Nat.le_of_ble_eq_true rfl) ?_
                    rintro iv lv hG
                    refine z_aloadnR zh dX4_pass_64 rfl ?_
                    refine z_iloadn zh dX4_pass_65 rfl ?_
                    refine z_callSV zh ms_Night_33 dX4_pass_66 (s_X4_lendToAged g hh r27 hG) ⟨Nat.le_of_ble_eq_true rfl, Nat.le_of_ble_eq_true rfl⟩ rfl rfl (Nat.le_of_ble_eq_true rfl) ?_
                    rintro iv lv hG
                    refine z_aloadnR zh dX4_pass_69 rfl ?_
                    refine z_iloadn zh dX4_pass_70 rfl ?_
                    refine z_callSV zh ms_Night_36 dX4_pass_71 (s_X4_passApart g hh r27 hG) ⟨Nat.le_of_ble_eq_true rfl, Nat.le_of_ble_eq_true rfl⟩ rfl rfl (Nat.le_of_ble_eq_true rfl) ?_
                    rintro iv lv hG
                    refine z_aloadnR zh dX4_pass_74 rfl ?_
                    refine z_iloadn zh dX4_pass_75 rfl ?_
                    refine z_callSV zh ms_Night_39 dX4_pass_76 (s_X5_closeDue g hh r27 hG) ⟨Nat.le_of_ble_eq_true rfl, Nat.le_of_ble_eq_true rfl⟩ rfl rfl (Nat.le_of_ble_eq_true rfl) ?_
                    rintro iv lv hG
                    refine z_aloadnR zh dX4_pass_79 rfl ?_
                    refine z_iloadn zh dX4_pass_80 rfl ?_
                    refine z_callSV zh ms_Night_44 dX4_pass_81 (s_X4_mark g hh r27 hG) ⟨Nat.le_of_ble_eq_true rfl, Nat.le_of_ble_eq_true rfl⟩ rfl rfl (Nat.le_of_ble_eq_true rfl) ?_
                    rintro iv lv hG
                    refine z_aloadnR zh dX4_pass_84 rfl ?_
                    refine z_iloadn zh dX4_pass_85 rfl ?_
                    refine z_callSV zh ms_Night_47 dX4_pass_86 (s_X4_payOut g hh r27 hG) ⟨Nat.le_of_ble_eq_true rfl, Nat.le_of_ble_eq_true rfl⟩ rfl rfl (Nat.le_of_ble_eq_true rfl) ?_
                    rintro iv lv hG
                    refine z_aloadnR zh dX4_pass_89 rfl ?_
                    refine z_iloadn zh dX4_pass_90 rfl ?_
                    refine z_callSV zh ms_Night_50 dX4_pass_91 (s_X4_countFails g hh r27 hG) ⟨Nat.le_of_ble_eq_true rfl, Nat.le_of_ble_eq_true rfl⟩ rfl rfl (Nat.le_of_ble_eq_true rfl) ?_
                    rintro iv lv hG
                    refine y_iinc (L' := fun z => [some (rf g h), some (.int a1), some (.int x10), some (.int z), some (.int x28)]) zh dX4_pass_94 (by decide) rfl (by decide +kernel) r27 (u := 1) (v := 6) rfl rfl (by decide) (by decide) (fun _ => rfl) (fun x29 hc29 hx29 => ?_)
                    refine z_goto (tgt := 39) zh dX4_pass_97 rfl ?_
                    refine z_forget zh [true, true, true, true, false] (L2 := [some (rf g h), some (.int a1), some (.int x10), some (.int x29), none]) rfl ?_
                    exact ih39 iv lv x29 hG (ra_w hx29 (by decide) (by decide)) (ms_up hc29 (by decide) hn39)
              exact J39 7 iv lv (nI 0) hG (ra_w rl_0 (by decide) (by decide)) (ms_u0 rl_0 (by decide))
      exact J23 21 iv lv (nI 0) hG (ra_w rl_0 (by decide) (by decide)) (ms_u0 rl_0 (by decide))
    · have r30 : Ra 99 99 x7 := rb_le_r rl_99 hx7 (rb_nlt q8) (by decide)
      refine z_iconst zh dX4_pass_19 ki_m1 ?_
      exact z_iret zh dX4_pass_20 ⟨_, rfl, hG, (ra_w rl_n1 (by decide) (by decide))⟩
set_option maxRecDepth 20000 in
theorem s_X5_addNotice (g : GE) {sp : Nat → Nat → Bool} {σ : Iv} {iv : Iv} {lv : Lv} {h : Nat} {a1 : Int32} {a2 : Int32} {a3 : Int32} {a4 : Int32} (hh : isH h) (ha1 : Ra 0 11 a1) (hG : SI sp σ iv) (hq : Sq sp) : ConI g yX5_addNotice cX5_addNotice 7 (some .int) 3 [rf g h, .int a1, .int a2, .int a3, .int a4] iv lv (fun r iv lv => SI sp σ iv ∧ Ra (-1) 59 r) := by
  refine con_intro (own := "RollingNets$Notices") (by decide +kernel) rfl (Nat.le_of_ble_eq_true rfl) (L0 := [some (rf g h), some (.int a1), some (.int a2), some (.int a3), some (.int a4), none, none]) rfl (fun Z zh => ?_)
  refine z_aloadnR zh dX5_addNotice_0 rfl ?_
  refine z_getf zh fl_Notices_9 dX5_addNotice_1 (ck_H hh) rfl rfl ?_
  refine z_astore zh dX5_addNotice_4 (by decide) (L' := [some (rf g h), some (.int a1), some (.int a2), some (.int a3), some (.int a4), some (rf g (h + 17)), none]) rfl ?_
  refine z_aloadR zh dX5_addNotice_6 rfl ?_
  refine z_callVI zh mv_Notices_103 dX5_addNotice_8 (ck_T (isT_n hh)) rfl (s_X7_addRow g (isT_n hh) hG (ar_n hG hq hh).1 (ar_n hG hq hh).2) ⟨Nat.le_of_ble_eq_true rfl, Nat.le_of_ble_eq_true rfl⟩ rfl rfl (Nat.le_of_ble_eq_true rfl) ?_
  rintro x1 iv lv ⟨hG, hx1⟩
  refine z_istore zh dX5_addNotice_11 (by decide) (L' := [some (rf g h), some (.int a1), some (.int a2), some (.int a3), some (.int a4), some (rf g (h + 17)), some (.int x1)]) rfl ?_
  refine z_aloadR zh dX5_addNotice_13 rfl ?_
  refine z_iconst zh dX5_addNotice_15 ki_0 ?_
  refine z_iload zh dX5_addNotice_16 rfl ?_
  refine z_iloadn zh dX5_addNotice_18 rfl ?_
  refine z_callVV zh mv_Notices_64 dX5_addNotice_19 (ck_T (isT_n hh)) rfl (s_X7_put g (isT_n hh) hG (pn_r hG hh rl_0 (by decide) ha1)) ⟨Nat.le_of_ble_eq_true rfl, Nat.le_of_ble_eq_true rfl⟩ rfl rfl (Nat.le_of_ble_eq_true rfl) ?_
  rintro iv lv hG
  refine z_aloadR zh dX5_addNotice_22 rfl ?_
  refine z_iconst zh dX5_addNotice_24 ki_1 ?_
  refine z_iload zh dX5_addNotice_25 rfl ?_
  refine z_iloadn zh dX5_addNotice_27 rfl ?_
  refine z_callVV zh mv_Notices_64 dX5_addNotice_28 (ck_T (isT_n hh)) rfl (s_X7_put g (isT_n hh) hG (pn_f hG hh rl_1 (by decide))) ⟨Nat.le_of_ble_eq_true rfl, Nat.le_of_ble_eq_true rfl⟩ rfl rfl (Nat.le_of_ble_eq_true rfl) ?_
  rintro iv lv hG
  refine z_aloadR zh dX5_addNotice_31 rfl ?_
  refine z_iconst zh dX5_addNotice_33 ki_2 ?_
  refine z_iload zh dX5_addNotice_34 rfl ?_
  refine z_iloadn zh dX5_addNotice_36 rfl ?_
  refine z_callVV zh mv_Notices_64 dX5_addNotice_37 (ck_T (isT_n hh)) rfl (s_X7_put g (isT_n hh) hG (pn_f hG hh rl_2 (by decide))) ⟨Nat.le_of_ble_eq_true rfl, Nat.le_of_ble_eq_true rfl⟩ rfl rfl (Nat.le_of_ble_eq_true rfl) ?_
  rintro iv lv hG
  refine z_aloadR zh dX5_addNotice_40 rfl ?_
  refine z_iconst zh dX5_addNotice_42 ki_3 ?_
  refine z_iload zh dX5_addNotice_43 rfl ?_
  refine z_aloadnR zh dX5_addNotice_45 rfl ?_
  refine y_getI zh fl_Notices_78 dX5_addNotice_46 (ck_H hh) rfl rfl (fun x2 ex2 => ?_)
  have hx2 : Ra 0 99 x2 := ra_of ex2 (si_H hG hh 0 (by decide) rfl)
  refine z_aloadnR zh dX5_addNotice_49 rfl ?_
  refine z_getf zh fl_Notices_81 dX5_addNotice_50 (ck_H hh) rfl rfl ?_
  refine z_iconst zh dX5_addNotice_53 ki_4 ?_
  refine y_ialdN zh (ck_told hh) dX5_addNotice_54 (by decide) (fun x3 ex3 => ?_)
  refine y_iaddT zh dX5_addNotice_55 (fun x4 => ?_)
  refine z_callVV zh mv_Notices_64 dX5_addNotice_56 (ck_T (isT_n hh)) rfl (s_X7_put g (isT_n hh) hG (pn_f hG hh rl_3 (by decide))) ⟨Nat.le_of_ble_eq_true rfl, Nat.le_of_ble_eq_true rfl⟩ rfl rfl (Nat.le_of_ble_eq_true rfl) ?_
  rintro iv lv hG
  refine z_aloadR zh dX5_addNotice_59 rfl ?_
  refine z_iconst zh dX5_addNotice_61 ki_4 ?_
  refine z_iload zh dX5_addNotice_62 rfl ?_
  refine z_iconst zh dX5_addNotice_64 ki_1 ?_
  refine z_callVV zh mv_Notices_64 dX5_addNotice_65 (ck_T (isT_n hh)) rfl (s_X7_put g (isT_n hh) hG (pn_f hG hh rl_4 (by decide))) ⟨Nat.le_of_ble_eq_true rfl, Nat.le_of_ble_eq_true rfl⟩ rfl rfl (Nat.le_of_ble_eq_true rfl) ?_
  rintro iv lv hG
  refine z_aloadR zh dX5_addNotice_68 rfl ?_
  refine z_iconst zh dX5_addNotice_70 ki_5 ?_
  refine z_iload zh dX5_addNotice_71 rfl ?_
  refine z_iload zh dX5_addNotice_73 rfl ?_
  refine z_callVV zh mv_Notices_64 dX5_addNotice_75 (ck_T (isT_n hh)) rfl (s_X7_put g (isT_n hh) hG (pn_f hG hh rl_5 (by decide))) ⟨Nat.le_of_ble_eq_true rfl, Nat.le_of_ble_eq_true rfl⟩ rfl rfl (Nat.le_of_ble_eq_true rfl) ?_
  rintro iv lv hG
  refine z_iload zh dX5_addNotice_78 rfl ?_
  exact z_iret zh dX5_addNotice_80 ⟨_, rfl, hG, hx1⟩
set_option maxRecDepth 20000 in
theorem s_X5_agedLong (g : GE) {sp : Nat → Nat → Bool} {σ : Iv} {iv : Iv} {lv : Lv} {h : Nat} {a1 : Int32} {a2 : Int32} (hh : isH h) (ha1 : Ra 0 11 a1) (ha2 : Ra 0 5 a2) (hG : SI sp σ iv)  : ConI g yX5_agedLong cX5_agedLong 7 (some .int) 1 [rf g h, .int a1, .int a2] iv lv (fun r iv' lv' => iv = iv' ∧ lv = lv' ∧ True) := by
  refine con_intro (own := "RollingNets$Notices") (by decide +kernel) rfl (Nat.le_of_ble_eq_true rfl) (L0 := [some (rf g h), some (.int a1), some (.int a2), none, none, none, none]) rfl (fun Z zh => ?_)
  refine z_aloadnR zh dX5_agedLong_0 rfl ?_
  refine z_getf zh fl_Notices_68 dX5_agedLong_1 (ck_H hh) rfl rfl ?_
  refine z_iloadn zh dX5_agedLong_4 rfl ?_
  refine y_mald zh (ck_markets hh) dX5_agedLong_5 ha2 (by decide) (by decide) (fun j1 hj1 _ _ => ?_)
  refine z_astoren zh dX5_agedLong_6 (by decide) (L' := [some (rf g h), some (.int a1), some (.int a2), some (rf g (h + 60 + 20 * j1)), none, none, none]) rfl ?_
  refine z_aloadnR zh dX5_agedLong_7 rfl ?_
  refine y_getI zh fl_Notices_72 dX5_agedLong_8 (ck_M (isM_of hh hj1)) rfl rfl (fun x2 ex2 => ?_)
  have hx2 : Ra 0 100 x2 := ra_of ex2 (si_M hG (isM_of hh hj1) 0 (by decide) rfl)
  refine z_aloadnR zh dX5_agedLong_11 rfl ?_
  refine y_getI zh fl_Notices_78 dX5_agedLong_12 (ck_H hh) rfl rfl (fun x3 ex3 => ?_)
  have hx3 : Ra 0 99 x3 := ra_of ex3 (si_H hG hh 0 (by decide) rfl)
  refine z_aloadnR zh dX5_agedLong_15 rfl ?_
  refine z_getf zh fl_Notices_81 dX5_agedLong_16 (ck_H hh) rfl rfl ?_
  refine z_iconst zh dX5_agedLong_19 ki_3 ?_
  refine y_ialdN zh (ck_told hh) dX5_agedLong_20 (by decide) (fun x4 ex4 => ?_)
  refine y_isubT zh dX5_agedLong_21 (fun x5 => ?_)
  refine z_iconst zh dX5_agedLong_22 ki_1 ?_
  refine y_iaddT zh dX5_agedLong_23 (fun x6 => ?_)
  refine y_mmin zh ma_Notices_84 mc_min dX5_agedLong_24 ⟨Nat.le_of_ble_eq_true rfl, Nat.le_of_ble_eq_true rfl⟩ hx2 (ra_tt x6) (u := (-2147483648)) (v := 100) (by decide) (by decide) (Or.inl (by decide)) (fun x7 hx7 => ?_)
  refine z_istore zh dX5_agedLong_27 (by decide) (L' := [some (rf g h), some (.int a1), some (.int a2), some (rf g (h + 60 + 20 * j1)), some (.int x7), none, none]) rfl ?_
  refine z_iconst zh dX5_agedLong_29 ki_0 ?_
  refine z_istore zh dX5_agedLong_30 (by decide) (L' := [some (rf g h), some (.int a1), some (.int a2), some (rf g (h + 60 + 20 * j1)), some (.int x7), some (.int (nI 0)), none]) rfl ?_
  refine z_iconst zh dX5_agedLong_32 ki_0 ?_
  refine z_istore zh dX5_agedLong_33 (by decide) (L' := [some (rf g h), some (.int a1), some (.int a2), some (rf g (h + 60 + 20 * j1)), some (.int x7), some (.int (nI 0)), some (.int (nI 0))]) rfl ?_
  have J35 : ∀ (n : Nat) (x8 : Int32) (x9 : Int32), Ra 0 100 x9 → 100 - x9.toInt < (n : Int) → Z 35 [some (rf g h), some (.int a1), some (.int a2), some (rf g (h + 60 + 20 * j1)), some (.int x7), some (.int x8), some (.int x9)] [] iv lv := by
    intro n
    induction n with
    | zero => intro x8 x9 hx9 hn35; exact (ms_uz hx9 hn35).elim
    | succ n ih35 =>
      intro x8 x9 hx9 hn35
      refine z_iload zh dX5_agedLong_35 rfl ?_
      refine z_iload zh dX5_agedLong_37 rfl ?_
      refine z_icmp_ge (tgt := 66) zh dX5_agedLong_39 rfl (fun q10 => ?_) (fun q10 => ?_)
      · refine z_iload zh dX5_agedLong_66 rfl ?_
        exact z_iret zh dX5_agedLong_68 ⟨_, rfl, rfl, rfl, trivial⟩
      · have r11 : Ra 0 99 x9 := rb_lt_l hx7 hx9 (rb_nle q10) (by decide)
        have r12 : Ra 1 100 x7 := rb_lt_r hx9 hx7 (rb_nle q10) (by decide)
        refine z_iload zh dX5_agedLong_42 rfl ?_
        refine z_iconst zh dX5_agedLong_44 ki_0 ?_
        refine z_aloadnR zh dX5_agedLong_45 rfl ?_
        refine z_getf zh fl_Notices_89 dX5_agedLong_46 (ck_M (isM_of hh hj1)) rfl rfl ?_
        refine z_iloadn zh dX5_agedLong_49 rfl ?_
        refine y_gald zh (ck_lots (isM_of hh hj1)) dX5_agedLong_50 ha1 (by decide) (by decide) (fun j13 hj13 _ _ => ?_)
        refine z_iload zh dX5_agedLong_51 rfl ?_
        refine y_iald zh (ck_row (isM_of hh hj1) hj13) dX5_agedLong_53 r11 (by decide) (by decide) (fun x14 ex14 => ?_)
        refine y_mmax zh ma_Notices_93 mc_max dX5_agedLong_54 ⟨Nat.le_of_ble_eq_true rfl, Nat.le_of_ble_eq_true rfl⟩ rl_0 (ra_tt x14) (u := 0) (v := 2147483647) (Or.inl (by decide)) (by decide) (by decide) (fun x15 hx15 => ?_)
        refine y_iaddT zh dX5_agedLong_57 (fun x16 => ?_)
        refine z_istore zh dX5_agedLong_58 (by decide) (L' := [some (rf g h), some (.int a1), some (.int a2), some (rf g (h + 60 + 20 * j1)), some (.int x7), some (.int x16), some (.int x9)]) rfl ?_
        refine y_iinc (L' := fun z => [some (rf g h), some (.int a1), some (.int a2), some (rf g (h + 60 + 20 * j1)), some (.int x7), some (.int x16), some (.int z)]) zh dX5_agedLong_60 (by decide) rfl (by decide +kernel) r11 (u := 1) (v := 100) rfl rfl (by decide) (by decide) (fun _ => rfl) (fun x17 hc17 hx17 => ?_)
        refine z_goto (tgt := 35) zh dX5_agedLong_63 rfl ?_
        exact ih35 x16 x17 (ra_w hx17 (by decide) (by decide)) (ms_up hc17 (by decide) hn35)
  exact J35 101 (nI 0) (nI 0) (ra_w rl_0 (by decide) (by decide)) (ms_u0 rl_0 (by decide))
set_option maxRecDepth 20000 in
theorem s_X5_assignedTo (g : GE) {sp : Nat → Nat → Bool} {σ : Iv} {iv : Iv} {lv : Lv} {h : Nat} {a1 : Int32} {a2 : Int32} (hh : isH h) (ha1 : Ra 0 5 a1) (ha2 : Ra 0 11 a2) (hG : SI sp σ iv)  : ConI g yX5_assignedTo cX5_assignedTo 5 (some .int) 3 [rf g h, .int a1, .int a2] iv lv (fun r iv' lv' => iv = iv' ∧ lv = lv' ∧ True) := by
  refine con_intro (own := "RollingNets$Notices") (by decide +kernel) rfl (Nat.le_of_ble_eq_true rfl) (L0 := [some (rf g h), some (.int a1), some (.int a2), none, none]) rfl (fun Z zh => ?_)
  refine z_iconst zh dX5_assignedTo_0 ki_0 ?_
  refine z_istoren zh dX5_assignedTo_1 (by decide) (L' := [some (rf g h), some (.int a1), some (.int a2), some (.int (nI 0)), none]) rfl ?_
  refine z_iconst zh dX5_assignedTo_2 ki_0 ?_
  refine z_istore zh dX5_assignedTo_3 (by decide) (L' := [some (rf g h), some (.int a1), some (.int a2), some (.int (nI 0)), some (.int (nI 0))]) rfl ?_
  have J5 : ∀ (n : Nat) (x1 : Int32) (x2 : Int32), Ra 0 60 x2 → 60 - x2.toInt < (n : Int) → Z 5 [some (rf g h), some (.int a1), some (.int a2), some (.int x1), some (.int x2)] [] iv lv := by
    intro n
    induction n with
    | zero => intro x1 x2 hx2 hn5; exact (ms_uz hx2 hn5).elim
    | succ n ih5 =>
      intro x1 x2 hx2 hn5
      refine z_iload zh dX5_assignedTo_5 rfl ?_
      refine z_aloadnR zh dX5_assignedTo_7 rfl ?_
      refine z_getf zh fl_Notices_9 dX5_assignedTo_8 (ck_H hh) rfl rfl ?_
      obtain ⟨x3, ex3⟩ : ∃ z, iv (h + 17) 2 = z := ⟨_, rfl⟩
      have hx3 : Ra 0 60 x3 := ra_of ex3 (si_T hG (isT_n hh))
      refine z_callVIp zh mv_Notices_15 dX5_assignedTo_11 (ck_T (isT_n hh)) rfl (s_X7_size g (isT_n hh) ex3) ⟨Nat.le_of_ble_eq_true rfl, Nat.le_of_ble_eq_true rfl⟩ rfl rfl (Nat.le_of_ble_eq_true rfl) ?_
      refine z_icmp_ge (tgt := 49) zh dX5_assignedTo_14 rfl (fun q4 => ?_) (fun q4 => ?_)
      · refine z_iloadn zh dX5_assignedTo_49 rfl ?_
        exact z_iret zh dX5_assignedTo_50 ⟨_, rfl, rfl, rfl, trivial⟩
      · have r5 : Ra 0 59 x2 := rb_lt_l hx3 hx2 (rb_nle q4) (by decide)
        have r6 : Ra 1 60 x3 := rb_lt_r hx2 hx3 (rb_nle q4) (by decide)
        refine z_aloadnR zh dX5_assignedTo_17 rfl ?_
        refine z_iload zh dX5_assignedTo_18 rfl ?_
        refine z_iloadn zh dX5_assignedTo_20 rfl ?_
        refine z_callVI zh mv_Notices_21 dX5_assignedTo_21 (ck_H hh) rfl (s_X1_isOpenNotice g hh r5 ha1 hG) ⟨Nat.le_of_ble_eq_true rfl, Nat.le_of_ble_eq_true rfl⟩ rfl rfl (Nat.le_of_ble_eq_true rfl) ?_
        rintro x7 _ _ ⟨rfl, rfl, hx7⟩
        have J43 : ∀ (x8 : Int32), Z 43 [some (rf g h), some (.int a1), some (.int a2), some (.int x8), some (.int x2)] [] iv lv := by
          intro x8
          refine y_iinc (L' := fun z => [some (rf g h), some (.int a1), some (.int a2), some (.int x8), some (.int z)]) zh dX5_assignedTo_43 (by decide) rfl (by decide +kernel) r5 (u := 1) (v := 60) rfl rfl (by decide) (by decide) (fun _ => rfl) (fun x9 hc9 hx9 => ?_)
          refine z_goto (tgt := 5) zh dX5_assignedTo_46 rfl ?_
          exact ih5 x8 x9 (ra_w hx9 (by decide) (by decide)) (ms_up hc9 (by decide) hn5)
        refine z_if_eq (tgt := 43) zh dX5_assignedTo_24 rfl (fun q10 => ?_) (fun q10 => ?_)
        · have r11 := rb_eq (u := 0) (v := 0) hx7 ra_z q10 (by decide) (by decide)
          exact J43 x1
        · have r12 : Ra 1 1 x7 := rb_ne_lo hx7 ra_z q10 (by decide)
          refine z_iloadn zh dX5_assignedTo_27 rfl ?_
          refine z_aloadnR zh dX5_assignedTo_28 rfl ?_
          refine z_getf zh fl_Notices_9 dX5_assignedTo_29 (ck_H hh) rfl rfl ?_
          refine z_bipush zh dX5_assignedTo_32 kb_7 ?_
          refine z_iloadn zh dX5_assignedTo_34 rfl ?_
          refine y_iadd zh dX5_assignedTo_35 rl_7 ha2 (u := 7) (v := 18) rfl rfl (by decide) (by decide) (fun x13 hc13 hx13 => ?_)
          refine z_iload zh dX5_assignedTo_36 rfl ?_
          refine z_callVI zh mv_Notices_25 dX5_assignedTo_38 (ck_T (isT_n hh)) rfl (s_X7_get g (isT_n hh) ex3 hx3) ⟨Nat.le_of_ble_eq_true rfl, Nat.le_of_ble_eq_true rfl⟩ rfl rfl (Nat.le_of_ble_eq_true rfl) ?_
          rintro x14 _ _ ⟨rfl, rfl, gx14⟩
          refine y_iaddT zh dX5_assignedTo_41 (fun x15 => ?_)
          refine z_istoren zh dX5_assignedTo_42 (by decide) (L' := [some (rf g h), some (.int a1), some (.int a2), some (.int x15), some (.int x2)]) rfl ?_
          exact J43 x15
  exact J5 61 (nI 0) (nI 0) (ra_w rl_0 (by decide) (by decide)) (ms_u0 rl_0 (by decide))
set_option maxRecDepth 20000 in
theorem s_X5_assign (g : GE) {sp : Nat → Nat → Bool} {σ : Iv} {iv : Iv} {lv : Lv} {h : Nat} {a1 : Int32} {a2 : Int32} (hh : isH h) (ha1 : Ra 0 5 a1) (ha2 : Ra 1 2147483647 a2) (hG : SI sp σ iv)  : ConI g yX5_assign cX5_assign 11 (some .int) 4 [rf g h, .int a1, .int a2] iv lv (fun r iv lv => SI sp σ iv ∧ True) := by
  refine con_intro (own := "RollingNets$Notices") (by decide +kernel) rfl (Nat.le_of_ble_eq_true rfl) (L0 := [some (rf g h), some (.int a1), some (.int a2), none, none, none, none, none, none, none, none]) rfl (fun Z zh => ?_)
  refine z_aloadnR zh dX5_assign_0 rfl ?_
  refine z_getf zh fl_Notices_68 dX5_assign_1 (ck_H hh) rfl rfl ?_
  refine z_iloadn zh dX5_assign_4 rfl ?_
  refine y_mald zh (ck_markets hh) dX5_assign_5 ha1 (by decide) (by decide) (fun j1 hj1 _ _ => ?_)
  refine z_astoren zh dX5_assign_6 (by decide) (L' := [some (rf g h), some (.int a1), some (.int a2), some (rf g (h + 60 + 20 * j1)), none, none, none, none, none, none, none]) rfl ?_
  refine z_aloadnR zh dX5_assign_7 rfl ?_
  refine z_getf zh fl_Notices_60 dX5_assign_8 (ck_H hh) rfl rfl ?_
  refine z_astore zh dX5_assign_11 (by decide) (L' := [some (rf g h), some (.int a1), some (.int a2), some (rf g (h + 60 + 20 * j1)), some (rf g (h + 59)), none, none, none, none, none, none]) rfl ?_
  refine z_iconst zh dX5_assign_13 ki_0 ?_
  refine z_istore zh dX5_assign_14 (by decide) (L' := [some (rf g h), some (.int a1), some (.int a2), some (rf g (h + 60 + 20 * j1)), some (rf g (h + 59)), some (.int (nI 0)), none, none, none, none, none]) rfl ?_
  have J16 : ∀ (n : Nat) (iv : Iv) (lv : Lv) (x2 : Int32), SI sp σ iv → Ra 0 12 x2 → 12 - x2.toInt < (n : Int) → Z 16 [some (rf g h), some (.int a1), some (.int a2), some (rf g (h + 60 + 20 * j1)), some (rf g (h + 59)), some (.int x2), none, none, none, none, none] [] iv lv := by
    intro n
    induction n with
    | zero => intro iv lv x2 hG hx2 hn16; exact (ms_uz hx2 hn16).elim
    | succ n ih16 =>
      intro iv lv x2 hG hx2 hn16
      refine z_iload zh dX5_assign_16 rfl ?_
      refine z_bipush zh dX5_assign_18 kb_12 ?_
      refine z_icmp_ge (tgt := 35) zh dX5_assign_20 rfl (fun q3 => ?_) (fun q3 => ?_)
      · have r4 : Ra 12 12 x2 := rb_le_r rl_12 hx2 q3 (by decide)
        refine z_iloadn zh dX5_assign_35 rfl ?_
        refine z_istore zh dX5_assign_36 (by decide) (L' := [some (rf g h), some (.int a1), some (.int a2), some (rf g (h + 60 + 20 * j1)), some (rf g (h + 59)), some (.int a2), none, none, none, none, none]) rfl ?_
        refine z_iconst zh dX5_assign_38 ki_0 ?_
        refine z_istore zh dX5_assign_39 (by decide) (L' := [some (rf g h), some (.int a1), some (.int a2), some (rf g (h + 60 + 20 * j1)), some (rf g (h + 59)), some (.int a2), some (.int (nI 0)), none, none, none, none]) rfl ?_
        have J41 : ∀ (n : Nat) (iv : Iv) (lv : Lv) (x5 : Int32) (x6 : Int32), SI sp σ iv → Ra (-2147483646) 2147483647 x5 → Ra 0 100 x6 → 100 - x6.toInt < (n : Int) → Z 41 [some (rf g h), some (.int a1), some (.int a2), some (rf g (h + 60 + 20 * j1)), some (rf g (h + 59)), some (.int x5), some (.int x6), none, none, none, none] [] iv lv := by
          intro n
          induction n with
          | zero => intro iv lv x5 x6 hG hx5 hx6 hn41; exact (ms_uz hx6 hn41).elim
          | succ n ih41 =>
            intro iv lv x5 x6 hG hx5 hx6 hn41
            refine z_iload zh dX5_assign_41 rfl ?_
            refine z_aloadnR zh dX5_assign_43 rfl ?_
            refine y_getI zh fl_Notices_72 dX5_assign_44 (ck_M (isM_of hh hj1)) rfl rfl (fun x7 ex7 => ?_)
            have hx7 : Ra 0 100 x7 := ra_of ex7 (si_M hG (isM_of hh hj1) 0 (by decide) rfl)
            refine z_icmp_ge (tgt := 154) zh dX5_assign_47 rfl (fun q8 => ?_) (fun q8 => ?_)
            · refine z_iloadn zh dX5_assign_154 rfl ?_
              refine z_iload zh dX5_assign_155 rfl ?_
              refine y_isubT zh dX5_assign_157 (fun x9 => ?_)
              exact z_iret zh dX5_assign_158 ⟨_, rfl, hG, trivial⟩
            · have r10 : Ra 0 99 x6 := rb_lt_l hx7 hx6 (rb_nle q8) (by decide)
              have r11 : Ra 1 100 x7 := rb_lt_r hx6 hx7 (rb_nle q8) (by decide)
              refine z_iconst zh dX5_assign_50 ki_0 ?_
              refine z_istore zh dX5_assign_51 (by decide) (L' := [some (rf g h), some (.int a1), some (.int a2), some (rf g (h + 60 + 20 * j1)), some (rf g (h + 59)), some (.int x5), some (.int x6), some (.int (nI 0)), none, none, none]) rfl ?_
              have J53 : ∀ (n : Nat) (iv : Iv) (lv : Lv) (x12 : Int32) (x13 : Int32), SI sp σ iv → Ra (-2147483646) 2147483647 x12 → Ra 0 12 x13 → 12 - x13.toInt < (n : Int) → Z 53 [some (rf g h), some (.int a1), some (.int a2), some (rf g (h + 60 + 20 * j1)), some (rf g (h + 59)), some (.int x12), some (.int x6), some (.int x13), none, none, none] [] iv lv := by
                intro n
                induction n with
                | zero => intro iv lv x12 x13 hG hx12 hx13 hn53; exact (ms_uz hx13 hn53).elim
                | succ n ih53 =>
                  intro iv lv x12 x13 hG hx12 hx13 hn53
                  refine z_iload zh dX5_assign_53 rfl ?_
                  refine z_aloadnR zh dX5_assign_55 rfl ?_
                  refine z_callVI zh mv_Notices_57 dX5_assign_56 (ck_H hh) rfl (s_X1_members g hh hG) ⟨Nat.le_of_ble_eq_true rfl, Nat.le_of_ble_eq_true rfl⟩ rfl rfl (Nat.le_of_ble_eq_true rfl) ?_
                  rintro x14 _ _ ⟨rfl, rfl, hx14⟩
                  refine z_icmp_ge (tgt := 148) zh dX5_assign_59 rfl (fun q15 => ?_) (fun q15 => ?_)
                  · have r16 : Ra 2 12 x13 := rb_le_r hx14 hx13 q15 (by decide)
                    refine y_iinc (L' := fun z => [some (rf g h), some (.int a1), some (.int a2), some (rf g (h + 60 + 20 * j1)), some (rf g (h + 59)), some (.int x12), some (.int z), some (.int x13), none, none, none]) zh dX5_assign_148 (by decide) rfl (by decide +kernel) r10 (u := 1) (v := 100) rfl rfl (by decide) (by decide) (fun _ => rfl) (fun x17 hc17 hx17 => ?_)
                    refine z_goto (tgt := 41) zh dX5_assign_151 rfl ?_
                    refine z_forget zh [true, true, true, true, true, true, true, false, false, false, false] (L2 := [some (rf g h), some (.int a1), some (.int a2), some (rf g (h + 60 + 20 * j1)), some (rf g (h + 59)), some (.int x12), some (.int x17), none, none, none, none]) rfl ?_
                    exact ih41 iv lv x12 x17 hG hx12 (ra_w hx17 (by decide) (by decide)) (ms_up hc17 (by decide) hn41)
                  · have r18 : Ra 0 11 x13 := rb_lt_l hx14 hx13 (rb_nle q15) (by decide)
                    refine z_aloadnR zh dX5_assign_62 rfl ?_
                    refine z_getf zh fl_Notices_89 dX5_assign_63 (ck_M (isM_of hh hj1)) rfl rfl ?_
                    refine z_iload zh dX5_assign_66 rfl ?_
                    refine y_gald zh (ck_lots (isM_of hh hj1)) dX5_assign_68 r18 (by decide) (by decide) (fun j19 hj19 _ _ => ?_)
                    refine z_iload zh dX5_assign_69 rfl ?_
                    refine y_iald zh (ck_row (isM_of hh hj1) hj19) dX5_assign_71 r10 (by decide) (by decide) (fun x20 ex20 => ?_)
                    refine y_inegT zh dX5_assign_72 (fun x21 => ?_)
                    refine z_istore zh dX5_assign_73 (by decide) (L' := [some (rf g h), some (.int a1), some (.int a2), some (rf g (h + 60 + 20 * j1)), some (rf g (h + 59)), some (.int x12), some (.int x6), some (.int x13), some (.int x21), none, none]) rfl ?_
                    refine z_iload zh dX5_assign_75 rfl ?_
                    have J142 : ∀ (iv : Iv) (lv : Lv) (x22 : Int32), SI sp σ iv → Ra (-2147483646) 2147483647 x22 → Z 142 [some (rf g h), some (.int a1), some (.int a2), some (rf g (h + 60 + 20 * j1)), some (rf g (h + 59)), some (.int x22), some (.int x6), some (.int x13), some (.int x21), none, none] [] iv lv := by
                      intro iv lv x22 hG hx22
                      refine y_iinc (L' := fun z => [some (rf g h), some (.int a1), some (.int a2), some (rf g (h + 60 + 20 * j1)), some (rf g (h + 59)), some (.int x22), some (.int x6), some (.int z), some (.int x21), none, none]) zh dX5_assign_142 (by decide) rfl (by decide +kernel) r18 (u := 1) (v := 12) rfl rfl (by decide) (by decide) (fun _ => rfl) (fun x23 hc23 hx23 => ?_)
                      refine z_goto (tgt := 53) zh dX5_assign_145 rfl ?_
                      refine z_forget zh [true, true, true, true, true, true, true, true, false, false, false] (L2 := [some (rf g h), some (.int a1), some (.int a2), some (rf g (h + 60 + 20 * j1)), some (rf g (h + 59)), some (.int x22), some (.int x6), some (.int x23), none, none, none]) rfl ?_
                      exact ih53 iv lv x22 x23 hG hx22 (ra_w hx23 (by decide) (by decide)) (ms_up hc23 (by decide) hn53)
                    refine z_if_le (tgt := 142) zh dX5_assign_77 rfl (fun q24 => ?_) (fun q24 => ?_)
                    · have r25 : Ra (-2147483648) 0 x21 := rb_le_l ra_z (ra_tt x21) q24 (by decide)
                      exact J142 iv lv x12 hG hx12
                    · have r26 : Ra 1 2147483647 x21 := rb_lt_r ra_z (ra_tt x21) (rb_nle q24) (by decide)
                      refine z_iload zh dX5_assign_80 rfl ?_
                      refine z_if_le (tgt := 142) zh dX5_assign_82 rfl (fun q27 => ?_) (fun q27 => ?_)
                      · have r28 : Ra (-2147483646) 0 x12 := rb_le_l ra_z hx12 q27 (by decide)
                        exact J142 iv lv x12 hG (ra_w r28 (by decide) (by decide))
                      · have r29 : Ra 1 2147483647 x12 := rb_lt_r ra_z hx12 (rb_nle q27) (by decide)
                        refine z_aloadnR zh dX5_assign_85 rfl ?_
                        refine z_iload zh dX5_assign_86 rfl ?_
                        refine z_callVI zh mv_Notices_96 dX5_assign_88 (ck_M (isM_of hh hj1)) rfl (s_X3_shortOf g (isM_of hh hj1) r18 hG) ⟨Nat.le_of_ble_eq_true rfl, Nat.le_of_ble_eq_true rfl⟩ rfl rfl (Nat.le_of_ble_eq_true rfl) ?_
                        rintro x30 _ _ ⟨rfl, rfl, hx30⟩
                        refine z_aloadnR zh dX5_assign_91 rfl ?_
                        refine z_iloadn zh dX5_assign_92 rfl ?_
                        refine z_iload zh dX5_assign_93 rfl ?_
                        refine z_callSI zh ms_Notices_100 dX5_assign_95 (s_X5_assignedTo g hh ha1 r18 hG) ⟨Nat.le_of_ble_eq_true rfl, Nat.le_of_ble_eq_true rfl⟩ rfl rfl (Nat.le_of_ble_eq_true rfl) ?_
                        rintro x31 _ _ ⟨rfl, rfl, _⟩
                        refine y_isubT zh dX5_assign_98 (fun x32 => ?_)
                        refine z_aloadR zh dX5_assign_99 rfl ?_
                        refine z_iload zh dX5_assign_101 rfl ?_
                        refine y_iald zh (ck_parts hh) dX5_assign_103 r18 (by decide) (by decide) (fun x33 ex33 => ?_)
                        refine y_isubT zh dX5_assign_104 (fun x34 => ?_)
                        refine z_istore zh dX5_assign_105 (by decide) (L' := [some (rf g h), some (.int a1), some (.int a2), some (rf g (h + 60 + 20 * j1)), some (rf g (h + 59)), some (.int x12), some (.int x6), some (.int x13), some (.int x21), some (.int x34), none]) rfl ?_
                        refine z_iconst zh dX5_assign_107 ki_0 ?_
                        refine z_iload zh dX5_assign_108 rfl ?_
                        refine z_iload zh dX5_assign_110 rfl ?_
                        refine z_iload zh dX5_assign_112 rfl ?_
                        refine y_mmin zh ma_Notices_84 mc_min dX5_assign_114 ⟨Nat.le_of_ble_eq_true rfl, Nat.le_of_ble_eq_true rfl⟩ r26 (ra_tt x34) (u := (-2147483648)) (v := 2147483647) (by decide) (by decide) (Or.inl (by decide)) (fun x35 hx35 => ?_)
                        refine y_mmin zh ma_Notices_84 mc_min dX5_assign_117 ⟨Nat.le_of_ble_eq_true rfl, Nat.le_of_ble_eq_true rfl⟩ r29 hx35 (u := (-2147483648)) (v := 2147483647) (by decide) (by decide) (Or.inl (by decide)) (fun x36 hx36 => ?_)
                        refine y_mmax zh ma_Notices_93 mc_max dX5_assign_120 ⟨Nat.le_of_ble_eq_true rfl, Nat.le_of_ble_eq_true rfl⟩ rl_0 hx36 (u := 0) (v := 2147483647) (Or.inl (by decide)) (by decide) (by decide) (fun x37 hx37 => ?_)
                        refine z_istore zh dX5_assign_123 (by decide) (L' := [some (rf g h), some (.int a1), some (.int a2), some (rf g (h + 60 + 20 * j1)), some (rf g (h + 59)), some (.int x12), some (.int x6), some (.int x13), some (.int x21), some (.int x34), some (.int x37)]) rfl ?_
                        refine z_aloadR zh dX5_assign_125 rfl ?_
                        refine z_iload zh dX5_assign_127 rfl ?_
                        refine z_dup2 zh dX5_assign_129 rfl rfl ?_
                        refine y_iald zh (ck_parts hh) dX5_assign_130 r18 (by decide) (by decide) (fun x38 ex38 => ?_)
                        refine z_iload zh dX5_assign_131 rfl ?_
                        refine y_iaddT zh dX5_assign_133 (fun x39 => ?_)
                        refine z_iast zh (ck_parts hh) dX5_assign_134 (ra_in r18 (by decide) (by decide)) ?_
                        have hG : SI sp σ (upI iv (h + 59) x13.toNatClampNeg x39) := si_wH hG hh 59 (by decide) rfl (rx_none rfl)
                        generalize upI iv (h + 59) x13.toNatClampNeg x39 = iv at hG  ⊢
                        refine z_iload zh dX5_assign_135 rfl ?_
                        refine z_iload zh dX5_assign_137 rfl ?_
                        refine y_isub zh dX5_assign_139 r29 hx37 (u := (-2147483646)) (v := 2147483647) rfl rfl (by decide) (by decide) (fun x40 hc40 hx40 => ?_)
                        refine z_istore zh dX5_assign_140 (by decide) (L' := [some (rf g h), some (.int a1), some (.int a2), some (rf g (h + 60 + 20 * j1)), some (rf g (h + 59)), some (.int x40), some (.int x6), some (.int x13), some (.int x21), some (.int x34), some (.int x37)]) rfl ?_
                        refine z_forget zh [true, true, true, true, true, true, true, true, true, false, false] (L2 := [some (rf g h), some (.int a1), some (.int a2), some (rf g (h + 60 + 20 * j1)), some (rf g (h + 59)), some (.int x40), some (.int x6), some (.int x13), some (.int x21), none, none]) rfl ?_
                        exact J142 iv lv x40 hG hx40
              exact J53 13 iv lv x5 (nI 0) hG hx5 (ra_w rl_0 (by decide) (by decide)) (ms_u0 rl_0 (by decide))
        exact J41 101 iv lv a2 (nI 0) hG (ra_w ha2 (by decide) (by decide)) (ra_w rl_0 (by decide) (by decide)) (ms_u0 rl_0 (by decide))
      · have r41 : Ra 0 11 x2 := rb_lt_l rl_12 hx2 (rb_nle q3) (by decide)
        refine z_aloadR zh dX5_assign_23 rfl ?_
        refine z_iload zh dX5_assign_25 rfl ?_
        refine z_iconst zh dX5_assign_27 ki_0 ?_
        refine z_iast zh (ck_parts hh) dX5_assign_28 (ra_in r41 (by decide) (by decide)) ?_
        have hG : SI sp σ (upI iv (h + 59) x2.toNatClampNeg (nI 0)) := si_wH hG hh 59 (by decide) rfl (rx_none rfl)
        generalize upI iv (h + 59) x2.toNatClampNeg (nI 0) = iv at hG  ⊢
        refine y_iinc (L' := fun z => [some (rf g h), some (.int a1), some (.int a2), some (rf g (h + 60 + 20 * j1)), some (rf g (h + 59)), some (.int z), none, none, none, none, none]) zh dX5_assign_29 (by decide) rfl (by decide +kernel) r41 (u := 1) (v := 12) rfl rfl (by decide) (by decide) (fun _ => rfl) (fun x42 hc42 hx42 => ?_)
        refine z_goto (tgt := 16) zh dX5_assign_32 rfl ?_
        exact ih16 iv lv x42 hG (ra_w hx42 (by decide) (by decide)) (ms_up hc42 (by decide) hn16)
  exact J16 13 iv lv (nI 0) hG (ra_w rl_0 (by decide) (by decide)) (ms_u0 rl_0 (by decide))
set_option maxRecDepth 20000 in
theorem s_X5_isCalled (g : GE) {sp : Nat → Nat → Bool} {σ : Iv} {iv : Iv} {lv : Lv} {h : Nat} {a1 : Int32} (hh : isH h) (hG : SI sp σ iv)  : ConI g yX5_isCalled cX5_isCalled 4 (some .boolean) 2 [rf g h, .int a1] iv lv (fun r iv' lv' => iv = iv' ∧ lv = lv' ∧ Ra 0 1 r) := by
  refine con_intro (own := "RollingNets$Notices") (by decide +kernel) rfl (Nat.le_of_ble_eq_true rfl) (L0 := [some (rf g h), some (.int a1), none, none]) rfl (fun Z zh => ?_)
  refine z_aloadnR zh dX5_isCalled_0 rfl ?_
  refine z_getf zh fl_Notices_9 dX5_isCalled_1 (ck_H hh) rfl rfl ?_
  refine z_astoren zh dX5_isCalled_4 (by decide) (L' := [some (rf g h), some (.int a1), some (rf g (h + 17)), none]) rfl ?_
  refine z_iconst zh dX5_isCalled_5 ki_0 ?_
  refine z_istoren zh dX5_isCalled_6 (by decide) (L' := [some (rf g h), some (.int a1), some (rf g (h + 17)), some (.int (nI 0))]) rfl ?_
  have J7 : ∀ (n : Nat) (x1 : Int32), Ra 0 60 x1 → 60 - x1.toInt < (n : Int) → Z 7 [some (rf g h), some (.int a1), some (rf g (h + 17)), some (.int x1)] [] iv lv := by
    intro n
    induction n with
    | zero => intro x1 hx1 hn7; exact (ms_uz hx1 hn7).elim
    | succ n ih7 =>
      intro x1 hx1 hn7
      refine z_iloadn zh dX5_isCalled_7 rfl ?_
      refine z_aloadnR zh dX5_isCalled_8 rfl ?_
      obtain ⟨x2, ex2⟩ : ∃ z, iv (h + 17) 2 = z := ⟨_, rfl⟩
      have hx2 : Ra 0 60 x2 := ra_of ex2 (si_T hG (isT_n hh))
      refine z_callVIp zh mv_Notices_15 dX5_isCalled_9 (ck_T (isT_n hh)) rfl (s_X7_size g (isT_n hh) ex2) ⟨Nat.le_of_ble_eq_true rfl, Nat.le_of_ble_eq_true rfl⟩ rfl rfl (Nat.le_of_ble_eq_true rfl) ?_
      refine z_icmp_ge (tgt := 43) zh dX5_isCalled_12 rfl (fun q3 => ?_) (fun q3 => ?_)
      · refine z_iconst zh dX5_isCalled_43 ki_0 ?_
        exact z_zret zh dX5_isCalled_44 (ra_01 (ra_w rl_0 (by decide) (by decide))) ⟨_, rfl, rfl, rfl, (ra_w rl_0 (by decide) (by decide))⟩
      · have r4 : Ra 0 59 x1 := rb_lt_l hx2 hx1 (rb_nle q3) (by decide)
        have r5 : Ra 1 60 x2 := rb_lt_r hx1 hx2 (rb_nle q3) (by decide)
        refine z_aloadnR zh dX5_isCalled_15 rfl ?_
        refine z_iconst zh dX5_isCalled_16 ki_4 ?_
        refine z_iloadn zh dX5_isCalled_17 rfl ?_
        refine z_callVI zh mv_Notices_25 dX5_isCalled_18 (ck_T (isT_n hh)) rfl (s_X7_get g (isT_n hh) ex2 hx2) ⟨Nat.le_of_ble_eq_true rfl, Nat.le_of_ble_eq_true rfl⟩ rfl rfl (Nat.le_of_ble_eq_true rfl) ?_
        rintro x6 _ _ ⟨rfl, rfl, gx6⟩
        refine z_iconst zh dX5_isCalled_21 ki_1 ?_
        have J37 : Z 37 [some (rf g h), some (.int a1), some (rf g (h + 17)), some (.int x1)] [] iv lv := by
          refine y_iinc (L' := fun z => [some (rf g h), some (.int a1), some (rf g (h + 17)), some (.int z)]) zh dX5_isCalled_37 (by decide) rfl (by decide +kernel) r4 (u := 1) (v := 60) rfl rfl (by decide) (by decide) (fun _ => rfl) (fun x7 hc7 hx7 => ?_)
          refine z_goto (tgt := 7) zh dX5_isCalled_40 rfl ?_
          exact ih7 x7 (ra_w hx7 (by decide) (by decide)) (ms_up hc7 (by decide) hn7)
        refine z_icmp_ne (tgt := 37) zh dX5_isCalled_22 rfl (fun q8 => ?_) (fun q8 => ?_)
        · exact J37
        · have r9 := rb_eq (u := 1) (v := 1) (ra_tt x6) rl_1 q8 (by decide) (by decide)
          refine z_aloadnR zh dX5_isCalled_25 rfl ?_
          refine z_iconst zh dX5_isCalled_26 ki_5 ?_
          refine z_iloadn zh dX5_isCalled_27 rfl ?_
          refine z_callVI zh mv_Notices_25 dX5_isCalled_28 (ck_T (isT_n hh)) rfl (s_X7_get g (isT_n hh) ex2 hx2) ⟨Nat.le_of_ble_eq_true rfl, Nat.le_of_ble_eq_true rfl⟩ rfl rfl (Nat.le_of_ble_eq_true rfl) ?_
          rintro x10 _ _ ⟨rfl, rfl, gx10⟩
          refine z_iloadn zh dX5_isCalled_31 rfl ?_
          refine z_icmp_ne (tgt := 37) zh dX5_isCalled_32 rfl (fun q11 => ?_) (fun q11 => ?_)
          · exact J37
          · refine z_iconst zh dX5_isCalled_35 ki_1 ?_
            exact z_zret zh dX5_isCalled_36 (ra_01 (ra_w rl_1 (by decide) (by decide))) ⟨_, rfl, rfl, rfl, (ra_w rl_1 (by decide) (by decide))⟩
  exact J7 61 (nI 0) (ra_w rl_0 (by decide) (by decide)) (ms_u0 rl_0 (by decide))
set_option maxRecDepth 20000 in
theorem s_X5_giveApart (g : GE) {sp : Nat → Nat → Bool} {σ : Iv} {iv : Iv} {lv : Lv} {h : Nat} {a1 : Int32} (hh : isH h) (hG : SI sp σ iv) (hq : Sq sp) : ConI g yX5_giveApart cX5_giveApart 4 (some .int) 4 [rf g h, .int a1] iv lv (fun r iv lv => SI sp σ iv ∧ Ra (-1) 59 r) := by
  refine con_intro (own := "RollingNets$Notices") (by decide +kernel) rfl (Nat.le_of_ble_eq_true rfl) (L0 := [some (rf g h), some (.int a1), none, none]) rfl (fun Z zh => ?_)
  refine z_aloadnR zh dX5_giveApart_0 rfl ?_
  refine z_getf zh fl_Notices_106 dX5_giveApart_1 (ck_H hh) rfl rfl ?_
  refine z_astoren zh dX5_giveApart_4 (by decide) (L' := [some (rf g h), some (.int a1), some (rf g (h + 7)), none]) rfl ?_
  refine z_aloadnR zh dX5_giveApart_5 rfl ?_
  refine z_bipush zh dX5_giveApart_6 kb_7 ?_
  refine z_iloadn zh dX5_giveApart_8 rfl ?_
  obtain ⟨x1, ex1⟩ : ∃ z, iv (h + 7) 2 = z := ⟨_, rfl⟩
  have hx1 : Ra 0 200 x1 := ra_of ex1 (si_T hG (isT_d hh))
  refine z_callVI zh mv_Notices_25 dX5_giveApart_9 (ck_T (isT_d hh)) rfl (s_X7_get g (isT_d hh) ex1 hx1) ⟨Nat.le_of_ble_eq_true rfl, Nat.le_of_ble_eq_true rfl⟩ rfl rfl (Nat.le_of_ble_eq_true rfl) ?_
  rintro x2 _ _ ⟨rfl, rfl, gx2⟩
  refine z_istoren zh dX5_giveApart_12 (by decide) (L' := [some (rf g h), some (.int a1), some (rf g (h + 7)), some (.int x2)]) rfl ?_
  refine z_aloadnR zh dX5_giveApart_13 rfl ?_
  refine z_iconst zh dX5_giveApart_14 ki_5 ?_
  refine z_iloadn zh dX5_giveApart_15 rfl ?_
  refine z_callVI zh mv_Notices_25 dX5_giveApart_16 (ck_T (isT_d hh)) rfl (s_X7_get g (isT_d hh) ex1 hx1) ⟨Nat.le_of_ble_eq_true rfl, Nat.le_of_ble_eq_true rfl⟩ rfl rfl (Nat.le_of_ble_eq_true rfl) ?_
  rintro x3 _ _ ⟨rfl, rfl, gx3⟩
  refine z_iconst zh dX5_giveApart_19 ki_1 ?_
  refine z_icmp_ne (tgt := 36) zh dX5_giveApart_20 rfl (fun q4 => ?_) (fun q4 => ?_)
  · refine z_iconst zh dX5_giveApart_36 ki_m1 ?_
    exact z_iret zh dX5_giveApart_37 ⟨_, rfl, hG, (ra_w rl_n1 (by decide) (by decide))⟩
  · have r5 := rb_eq (u := 1) (v := 1) (ra_tt x3) rl_1 q4 (by decide) (by decide)
    refine z_iloadn zh dX5_giveApart_23 rfl ?_
    refine z_iconst zh dX5_giveApart_24 ki_1 ?_
    refine z_icmp_lt (tgt := 36) zh dX5_giveApart_25 rfl (fun q6 => ?_) (fun q6 => ?_)
    · have r7 : Ra (-2147483648) 0 x2 := rb_lt_l rl_1 (ra_tt x2) q6 (by decide)
      refine z_iconst zh dX5_giveApart_36 ki_m1 ?_
      exact z_iret zh dX5_giveApart_37 ⟨_, rfl, hG, (ra_w rl_n1 (by decide) (by decide))⟩
    · have r8 : Ra 1 2147483647 x2 := rb_le_r rl_1 (ra_tt x2) (rb_nlt q6) (by decide)
      refine z_aloadnR zh dX5_giveApart_28 rfl ?_
      refine z_iloadn zh dX5_giveApart_29 rfl ?_
      refine z_callSI zh ms_Notices_109 dX5_giveApart_30 (s_X5_isCalled g hh hG) ⟨Nat.le_of_ble_eq_true rfl, Nat.le_of_ble_eq_true rfl⟩ rfl rfl (Nat.le_of_ble_eq_true rfl) ?_
      rintro x9 _ _ ⟨rfl, rfl, hx9⟩
      refine z_if_eq (tgt := 38) zh dX5_giveApart_33 rfl (fun q10 => ?_) (fun q10 => ?_)
      · have r11 := rb_eq (u := 0) (v := 0) hx9 ra_z q10 (by decide) (by decide)
        refine z_aloadnR zh dX5_giveApart_38 rfl ?_
        refine z_getf zh fl_Notices_9 dX5_giveApart_39 (ck_H hh) rfl rfl ?_
        obtain ⟨x12, ex12⟩ : ∃ z, iv (h + 17) 2 = z := ⟨_, rfl⟩
        have hx12 : Ra 0 60 x12 := ra_of ex12 (si_T hG (isT_n hh))
        refine z_callVI zh mv_Notices_36 dX5_giveApart_42 (ck_T (isT_n hh)) rfl (s_X7_isFull g (isT_n hh) ex12) ⟨Nat.le_of_ble_eq_true rfl, Nat.le_of_ble_eq_true rfl⟩ rfl rfl (Nat.le_of_ble_eq_true rfl) ?_
        rintro x13 _ _ ⟨rfl, rfl, hx13, _⟩
        refine z_if_ne (tgt := 69) zh dX5_giveApart_45 rfl (fun q14 => ?_) (fun q14 => ?_)
        · have r15 : Ra 1 1 x13 := rb_ne_lo hx13 ra_z q14 (by decide)
          refine z_iconst zh dX5_giveApart_69 ki_m1 ?_
          exact z_iret zh dX5_giveApart_70 ⟨_, rfl, hG, (ra_w rl_n1 (by decide) (by decide))⟩
        · have r16 := rb_eq (u := 0) (v := 0) hx13 ra_z q14 (by decide) (by decide)
          refine z_aloadnR zh dX5_giveApart_48 rfl ?_
          refine z_bipush zh dX5_giveApart_49 kb_6 ?_
          refine z_iloadn zh dX5_giveApart_51 rfl ?_
          refine z_callVI zh mv_Notices_25 dX5_giveApart_52 (ck_T (isT_d hh)) rfl (s_X7_get g (isT_d hh) ex1 hx1) ⟨Nat.le_of_ble_eq_true rfl, Nat.le_of_ble_eq_true rfl⟩ rfl rfl (Nat.le_of_ble_eq_true rfl) ?_
          rintro x17 _ _ ⟨rfl, rfl, gx17⟩
          refine z_aloadnR zh dX5_giveApart_55 rfl ?_
          refine y_getI zh fl_Notices_78 dX5_giveApart_56 (ck_H hh) rfl rfl (fun x18 ex18 => ?_)
          have hx18 : Ra 0 99 x18 := ra_of ex18 (si_H hG hh 0 (by decide) rfl)
          refine z_aloadnR zh dX5_giveApart_59 rfl ?_
          refine z_getf zh fl_Notices_81 dX5_giveApart_60 (ck_H hh) rfl rfl ?_
          refine z_iconst zh dX5_giveApart_63 ki_3 ?_
          refine y_ialdN zh (ck_told hh) dX5_giveApart_64 (by decide) (fun x19 ex19 => ?_)
          refine y_isubT zh dX5_giveApart_65 (fun x20 => ?_)
          refine z_icmp_le (tgt := 71) zh dX5_giveApart_66 rfl (fun q21 => ?_) (fun q21 => ?_)
          · refine z_aloadnR zh dX5_giveApart_71 rfl ?_
            refine z_aloadnR zh dX5_giveApart_72 rfl ?_
            refine z_iconst zh dX5_giveApart_73 ki_0 ?_
            refine z_iloadn zh dX5_giveApart_74 rfl ?_
            refine z_callVI zh mv_Notices_25 dX5_giveApart_75 (ck_T (isT_d hh)) rfl (s_X7_get g (isT_d hh) ex1 hx1) ⟨Nat.le_of_ble_eq_true rfl, Nat.le_of_ble_eq_true rfl⟩ rfl rfl (Nat.le_of_ble_eq_true rfl) ?_
            rintro x22 _ _ ⟨rfl, rfl, gx22⟩
            have hx22 : Ra 0 11 x22 := get_in gx22 0 rfl (by decide) (by decide) (get_ok gx3 r5.1 (by decide)) (fun j => si_H hG hh 9 (by decide) rfl)
            refine z_aloadnR zh dX5_giveApart_78 rfl ?_
            refine z_iconst zh dX5_giveApart_79 ki_2 ?_
            refine z_iloadn zh dX5_giveApart_80 rfl ?_
            refine z_callVI zh mv_Notices_25 dX5_giveApart_81 (ck_T (isT_d hh)) rfl (s_X7_get g (isT_d hh) ex1 hx1) ⟨Nat.le_of_ble_eq_true rfl, Nat.le_of_ble_eq_true rfl⟩ rfl rfl (Nat.le_of_ble_eq_true rfl) ?_
            rintro x23 _ _ ⟨rfl, rfl, gx23⟩
            refine z_iloadn zh dX5_giveApart_84 rfl ?_
            refine z_iloadn zh dX5_giveApart_85 rfl ?_
            refine z_callSI zh ms_Notices_53 dX5_giveApart_86 (s_X5_addNotice g hh hx22 hG hq) ⟨Nat.le_of_ble_eq_true rfl, Nat.le_of_ble_eq_true rfl⟩ rfl rfl (Nat.le_of_ble_eq_true rfl) ?_
            rintro x24 iv lv ⟨hG, hx24⟩
            exact z_iret zh dX5_giveApart_89 ⟨_, rfl, hG, hx24⟩
          · have r25 : Ra (-2147483648) 2147483646 x20 := rb_lt_l (ra_tt x17) (ra_tt x20) (rb_nle q21) (by decide)
            have r26 : Ra (-2147483647) 2147483647 x17 := rb_lt_r (ra_tt x20) (ra_tt x17) (rb_nle q21) (by decide)
            refine z_iconst zh dX5_giveApart_69 ki_m1 ?_
            exact z_iret zh dX5_giveApart_70 ⟨_, rfl, hG, (ra_w rl_n1 (by decide) (by decide))⟩
      · have r27 : Ra 1 1 x9 := rb_ne_lo hx9 ra_z q10 (by decide)
        refine z_iconst zh dX5_giveApart_36 ki_m1 ?_
        exact z_iret zh dX5_giveApart_37 ⟨_, rfl, hG, (ra_w rl_n1 (by decide) (by decide))⟩
set_option maxRecDepth 20000 in
theorem s_X5_giveNet (g : GE) {sp : Nat → Nat → Bool} {σ : Iv} {iv : Iv} {lv : Lv} {h : Nat} {a1 : Int32} {a2 : Int32} {a3 : Int32} (hh : isH h) (hG : SI sp σ iv) (hq : Sq sp) : ConI g yX5_giveNet cX5_giveNet 7 (some .int) 5 [rf g h, .int a1, .int a2, .int a3] iv lv (fun r iv lv => SI sp σ iv ∧ Ra (-1) 59 r) := by
  refine con_intro (own := "RollingNets$Notices") (by decide +kernel) rfl (Nat.le_of_ble_eq_true rfl) (L0 := [some (rf g h), some (.int a1), some (.int a2), some (.int a3), none, none, none]) rfl (fun Z zh => ?_)
  refine z_aloadnR zh dX5_giveNet_0 rfl ?_
  refine z_iloadn zh dX5_giveNet_1 rfl ?_
  refine z_callVI zh mv_Notices_29 dX5_giveNet_2 (ck_H hh) rfl (s_X1_hasMember g hh hG) ⟨Nat.le_of_ble_eq_true rfl, Nat.le_of_ble_eq_true rfl⟩ rfl rfl (Nat.le_of_ble_eq_true rfl) ?_
  rintro x1 _ _ ⟨rfl, rfl, hx1, hz2⟩
  refine z_if_eq (tgt := 25) zh dX5_giveNet_5 rfl (fun q3 => ?_) (fun q3 => ?_)
  · have r4 := rb_eq (u := 0) (v := 0) hx1 ra_z q3 (by decide) (by decide)
    refine z_iconst zh dX5_giveNet_25 ki_m1 ?_
    exact z_iret zh dX5_giveNet_26 ⟨_, rfl, hG, (ra_w rl_n1 (by decide) (by decide))⟩
  · have r5 : Ra 1 1 x1 := rb_ne_lo hx1 ra_z q3 (by decide)
    have r6 : Ra 0 11 a1 := (hz2 q3)
    refine z_iloadn zh dX5_giveNet_8 rfl ?_
    refine z_callSI zh ms_Notices_33 dX5_giveNet_9 (s_X8_isIssue g  hG) ⟨Nat.le_of_ble_eq_true rfl, Nat.le_of_ble_eq_true rfl⟩ rfl rfl (Nat.le_of_ble_eq_true rfl) ?_
    rintro x7 _ _ ⟨rfl, rfl, hx7, hz8⟩
    refine z_if_eq (tgt := 25) zh dX5_giveNet_12 rfl (fun q9 => ?_) (fun q9 => ?_)
    · have r10 := rb_eq (u := 0) (v := 0) hx7 ra_z q9 (by decide) (by decide)
      refine z_iconst zh dX5_giveNet_25 ki_m1 ?_
      exact z_iret zh dX5_giveNet_26 ⟨_, rfl, hG, (ra_w rl_n1 (by decide) (by decide))⟩
    · have r11 : Ra 1 1 x7 := rb_ne_lo hx7 ra_z q9 (by decide)
      have r12 : Ra 0 5 a2 := (hz8 q9)
      refine z_aloadnR zh dX5_giveNet_15 rfl ?_
      refine z_getf zh fl_Notices_9 dX5_giveNet_16 (ck_H hh) rfl rfl ?_
      obtain ⟨x13, ex13⟩ : ∃ z, iv (h + 17) 2 = z := ⟨_, rfl⟩
      have hx13 : Ra 0 60 x13 := ra_of ex13 (si_T hG (isT_n hh))
      refine z_callVI zh mv_Notices_36 dX5_giveNet_19 (ck_T (isT_n hh)) rfl (s_X7_isFull g (isT_n hh) ex13) ⟨Nat.le_of_ble_eq_true rfl, Nat.le_of_ble_eq_true rfl⟩ rfl rfl (Nat.le_of_ble_eq_true rfl) ?_
      rintro x14 _ _ ⟨rfl, rfl, hx14, _⟩
      refine z_if_eq (tgt := 27) zh dX5_giveNet_22 rfl (fun q15 => ?_) (fun q15 => ?_)
      · have r16 := rb_eq (u := 0) (v := 0) hx14 ra_z q15 (by decide) (by decide)
        refine z_iloadn zh dX5_giveNet_27 rfl ?_
        refine z_iconst zh dX5_giveNet_28 ki_1 ?_
        refine z_icmp_lt (tgt := 42) zh dX5_giveNet_29 rfl (fun q17 => ?_) (fun q17 => ?_)
        · have r18 : Ra (-2147483648) 0 a3 := rb_lt_l rl_1 (ra_tt a3) q17 (by decide)
          refine z_iconst zh dX5_giveNet_42 ki_m1 ?_
          exact z_iret zh dX5_giveNet_43 ⟨_, rfl, hG, (ra_w rl_n1 (by decide) (by decide))⟩
        · have r19 : Ra 1 2147483647 a3 := rb_le_r rl_1 (ra_tt a3) (rb_nlt q17) (by decide)
          refine z_iloadn zh dX5_giveNet_32 rfl ?_
          refine z_aloadnR zh dX5_giveNet_33 rfl ?_
          refine z_iloadn zh dX5_giveNet_34 rfl ?_
          refine z_iloadn zh dX5_giveNet_35 rfl ?_
          refine z_callSI zh ms_Notices_40 dX5_giveNet_36 (s_X5_agedLong g hh r6 r12 hG) ⟨Nat.le_of_ble_eq_true rfl, Nat.le_of_ble_eq_true rfl⟩ rfl rfl (Nat.le_of_ble_eq_true rfl) ?_
          rintro x20 _ _ ⟨rfl, rfl, _⟩
          refine z_icmp_le (tgt := 44) zh dX5_giveNet_39 rfl (fun q21 => ?_) (fun q21 => ?_)
          · have r22 : Ra 1 2147483647 x20 := rb_le_r r19 (ra_tt x20) q21 (by decide)
            refine z_aloadnR zh dX5_giveNet_44 rfl ?_
            refine z_iloadn zh dX5_giveNet_45 rfl ?_
            refine z_callSI zh ms_Notices_46 dX5_giveNet_46 (s_X5_givers g hh r12 hG) ⟨Nat.le_of_ble_eq_true rfl, Nat.le_of_ble_eq_true rfl⟩ rfl rfl (Nat.le_of_ble_eq_true rfl) ?_
            rintro x23 _ _ ⟨rfl, rfl, _⟩
            refine z_iloadn zh dX5_giveNet_49 rfl ?_
            refine y_ishrT zh dX5_giveNet_50 (fun x24 => ?_)
            refine z_iconst zh dX5_giveNet_51 ki_1 ?_
            refine y_iandT zh dX5_giveNet_52 (fun x25 => ?_)
            refine z_if_eq (tgt := 58) zh dX5_giveNet_53 rfl (fun q26 => ?_) (fun q26 => ?_)
            · have r27 := rb_eq (u := 0) (v := 0) (ra_tt x25) ra_z q26 (by decide) (by decide)
              refine z_aloadnR zh dX5_giveNet_58 rfl ?_
              refine z_iloadn zh dX5_giveNet_59 rfl ?_
              refine z_iloadn zh dX5_giveNet_60 rfl ?_
              refine z_callSI zh ms_Notices_50 dX5_giveNet_61 (s_X5_assign g hh r12 r19 hG) ⟨Nat.le_of_ble_eq_true rfl, Nat.le_of_ble_eq_true rfl⟩ rfl rfl (Nat.le_of_ble_eq_true rfl) ?_
              rintro x28 iv lv ⟨hG, _⟩
              refine z_istore zh dX5_giveNet_64 (by decide) (L' := [some (rf g h), some (.int a1), some (.int a2), some (.int a3), some (.int x28), none, none]) rfl ?_
              refine z_iload zh dX5_giveNet_66 rfl ?_
              refine z_if_ne (tgt := 73) zh dX5_giveNet_68 rfl (fun q29 => ?_) (fun q29 => ?_)
              · refine z_aloadnR zh dX5_giveNet_73 rfl ?_
                refine z_iloadn zh dX5_giveNet_74 rfl ?_
                refine z_iloadn zh dX5_giveNet_75 rfl ?_
                refine z_iload zh dX5_giveNet_76 rfl ?_
                refine z_iconst zh dX5_giveNet_78 ki_m1 ?_
                refine z_callSI zh ms_Notices_53 dX5_giveNet_79 (s_X5_addNotice g hh r6 hG hq) ⟨Nat.le_of_ble_eq_true rfl, Nat.le_of_ble_eq_true rfl⟩ rfl rfl (Nat.le_of_ble_eq_true rfl) ?_
                rintro x30 iv lv ⟨hG, hx30⟩
                refine z_istore zh dX5_giveNet_82 (by decide) (L' := [some (rf g h), some (.int a1), some (.int a2), some (.int a3), some (.int x28), some (.int x30), none]) rfl ?_
                refine z_iconst zh dX5_giveNet_84 ki_0 ?_
                refine z_istore zh dX5_giveNet_85 (by decide) (L' := [some (rf g h), some (.int a1), some (.int a2), some (.int a3), some (.int x28), some (.int x30), some (.int (nI 0))]) rfl ?_
                have J87 : ∀ (n : Nat) (iv : Iv) (lv : Lv) (x31 : Int32), SI sp σ iv → Ra 0 12 x31 → 12 - x31.toInt < (n : Int) → Z 87 [some (rf g h), some (.int a1), some (.int a2), some (.int a3), some (.int x28), some (.int x30), some (.int x31)] [] iv lv := by
                  intro n
                  induction n with
                  | zero => intro iv lv x31 hG hx31 hn87; exact (ms_uz hx31 hn87).elim
                  | succ n ih87 =>
                    intro iv lv x31 hG hx31 hn87
                    refine z_iload zh dX5_giveNet_87 rfl ?_
                    refine z_aloadnR zh dX5_giveNet_89 rfl ?_
                    refine z_callVI zh mv_Notices_57 dX5_giveNet_90 (ck_H hh) rfl (s_X1_members g hh hG) ⟨Nat.le_of_ble_eq_true rfl, Nat.le_of_ble_eq_true rfl⟩ rfl rfl (Nat.le_of_ble_eq_true rfl) ?_
                    rintro x32 _ _ ⟨rfl, rfl, hx32⟩
                    refine z_icmp_ge (tgt := 123) zh dX5_giveNet_93 rfl (fun q33 => ?_) (fun q33 => ?_)
                    · have r34 : Ra 2 12 x31 := rb_le_r hx32 hx31 q33 (by decide)
                      refine z_iload zh dX5_giveNet_123 rfl ?_
                      exact z_iret zh dX5_giveNet_125 ⟨_, rfl, hG, hx30⟩
                    · have r35 : Ra 0 11 x31 := rb_lt_l hx32 hx31 (rb_nle q33) (by decide)
                      refine z_aloadnR zh dX5_giveNet_96 rfl ?_
                      refine z_getf zh fl_Notices_9 dX5_giveNet_97 (ck_H hh) rfl rfl ?_
                      refine z_bipush zh dX5_giveNet_100 kb_7 ?_
                      refine z_iload zh dX5_giveNet_102 rfl ?_
                      refine y_iadd zh dX5_giveNet_104 rl_7 r35 (u := 7) (v := 18) rfl rfl (by decide) (by decide) (fun x36 hc36 hx36 => ?_)
                      refine z_iload zh dX5_giveNet_105 rfl ?_
                      refine z_aloadnR zh dX5_giveNet_107 rfl ?_
                      refine z_getf zh fl_Notices_60 dX5_giveNet_108 (ck_H hh) rfl rfl ?_
                      refine z_iload zh dX5_giveNet_111 rfl ?_
                      refine y_iald zh (ck_parts hh) dX5_giveNet_113 r35 (by decide) (by decide) (fun x37 ex37 => ?_)
                      refine z_callVV zh mv_Notices_64 dX5_giveNet_114 (ck_T (isT_n hh)) rfl (s_X7_put g (isT_n hh) hG (pn_f hG hh hx36 (by decide))) ⟨Nat.le_of_ble_eq_true rfl, Nat.le_of_ble_eq_true rfl⟩ rfl rfl (Nat.le_of_ble_eq_true rfl) ?_
                      rintro iv lv hG
                      refine y_iinc (L' := fun z => [some (rf g h), some (.int a1), some (.int a2), some (.int a3), some (.int x28), some (.int x30), some (.int z)]) zh dX5_giveNet_117 (by decide) rfl (by decide +kernel) r35 (u := 1) (v := 12) rfl rfl (by decide) (by decide) (fun _ => rfl) (fun x38 hc38 hx38 => ?_)
                      refine z_goto (tgt := 87) zh dX5_giveNet_120 rfl ?_
                      exact ih87 iv lv x38 hG (ra_w hx38 (by decide) (by decide)) (ms_up hc38 (by decide) hn87)
                exact J87 13 iv lv (nI 0) hG (ra_w rl_0 (by decide) (by decide)) (ms_u0 rl_0 (by decide))
              · have r39 := rb_eq (u := 0) (v := 0) (ra_tt x28) ra_z q29 (by decide) (by decide)
                refine z_iconst zh dX5_giveNet_71 ki_m1 ?_
                exact z_iret zh dX5_giveNet_72 ⟨_, rfl, hG, (ra_w rl_n1 (by decide) (by decide))⟩
            · refine z_iconst zh dX5_giveNet_56 ki_m1 ?_
              exact z_iret zh dX5_giveNet_57 ⟨_, rfl, hG, (ra_w rl_n1 (by decide) (by decide))⟩
          · have r40 : Ra (-2147483648) 2147483646 x20 := rb_lt_l r19 (ra_tt x20) (rb_nle q21) (by decide)
            refine z_iconst zh dX5_giveNet_42 ki_m1 ?_
            exact z_iret zh dX5_giveNet_43 ⟨_, rfl, hG, (ra_w rl_n1 (by decide) (by decide))⟩
      · have r41 : Ra 1 1 x14 := rb_ne_lo hx14 ra_z q15 (by decide)
        refine z_iconst zh dX5_giveNet_25 ki_m1 ?_
        exact z_iret zh dX5_giveNet_26 ⟨_, rfl, hG, (ra_w rl_n1 (by decide) (by decide))⟩
set_option maxRecDepth 20000 in
theorem s_X6_append (g : GE) {sp : Nat → Nat → Bool} {σ : Iv} {iv : Iv} {lv : Lv} {a1 : Int32}  (hG : SI sp σ iv) (hq : Sq sp) (hL : sp 541 1 = false) : ConV g yX6_append cX6_append 3 none 1 [rf g 541, .int a1] iv lv (fun iv lv => SI sp σ iv) := by
  refine con_intro (own := "RollingNets$Reader") (by decide +kernel) rfl (Nat.le_of_ble_eq_true rfl) (L0 := [some (rf g 541), some (.int a1), none]) rfl (fun Z zh => ?_)
  refine z_bipush zh dX6_append_0 kb_24 ?_
  refine z_istoren zh dX6_append_2 (by decide) (L' := [some (rf g 541), some (.int a1), some (.int (nI 24))]) rfl ?_
  have J3 : ∀ (n : Nat) (iv : Iv) (lv : Lv) (x1 : Int32), SI sp σ iv → Ra (-2147483648) 24 x1 → x1.toInt - (-2147483648) < (n : Int) → Z 3 [some (rf g 541), some (.int a1), some (.int x1)] [] iv lv := by
    intro n
    induction n with
    | zero => intro iv lv x1 hG hx1 hn3; exact (ms_dz hx1 hn3).elim
    | succ n ih3 =>
      intro iv lv x1 hG hx1 hn3
      refine z_iloadn zh dX6_append_3 rfl ?_
      refine z_if_lt (tgt := 49) zh dX6_append_4 rfl (fun q2 => ?_) (fun q2 => ?_)
      · have r3 : Ra (-2147483648) (-1) x1 := rb_lt_l ra_z hx1 q2 (by decide)
        exact z_vret zh dX6_append_49 ⟨rfl, hG⟩
      · have r4 : Ra 0 24 x1 := rb_le_r ra_z hx1 (rb_nlt q2) (by decide)
        refine z_aloadnR zh dX6_append_7 rfl ?_
        refine y_getI zh fl_Reader_15 dX6_append_8 ck_R rfl rfl (fun x5 ex5 => ?_)
        have hx5 : Ra 0 400 x5 := ra_of ex5 (si_c hG (k := 541) (j := 1) rfl)
        refine z_sipush zh dX6_append_11 ks_400 ?_
        refine z_icmp_ge (tgt := 49) zh dX6_append_14 rfl (fun q6 => ?_) (fun q6 => ?_)
        · have r7 : Ra 400 400 x5 := rb_le_r rl_400 hx5 q6 (by decide)
          exact z_vret zh dX6_append_49 ⟨rfl, hG⟩
        · have r8 : Ra 0 399 x5 := rb_lt_l rl_400 hx5 (rb_nle q6) (by decide)
          refine z_aloadnR zh dX6_append_17 rfl ?_
          refine z_getf zh fl_Reader_9 dX6_append_18 ck_R rfl rfl ?_
          refine z_aloadnR zh dX6_append_21 rfl ?_
          refine z_getI (x := x5) zh fl_Reader_15 dX6_append_22 ck_R rfl rfl ex5 ?_
          refine z_iloadn zh dX6_append_25 rfl ?_
          refine z_iloadn zh dX6_append_26 rfl ?_
          refine y_ishrT zh dX6_append_27 (fun x9 => ?_)
          refine z_sipush zh dX6_append_28 ks_255 ?_
          refine y_iandT zh dX6_append_31 (fun x10 => ?_)
          refine z_iast zh ck_tape dX6_append_32 (ra_in r8 (by decide) (by decide)) ?_
          have hG : SI sp σ (upI iv 542 x5.toNatClampNeg x10) := si_w (k := 542) hG (by decide) (by decide) (sq_n hq (by decide) (by decide) (by decide)) (rx_none rfl)
          have em11 := (upI_ne (iv := iv) (k := 542) (j := x5.toNatClampNeg) (x := x10) (a := 541) (b := 1) (Or.inl (by decide))).trans ex5
          generalize upI iv 542 x5.toNatClampNeg x10 = iv at hG em11 ⊢
          refine z_aloadnR zh dX6_append_33 rfl ?_
          refine z_dup zh dX6_append_34 rfl ?_
          refine z_getI (x := x5) zh fl_Reader_15 dX6_append_35 ck_R rfl rfl em11 ?_
          refine z_iconst zh dX6_append_38 ki_1 ?_
          refine y_iadd zh dX6_append_39 r8 rl_1 (u := 1) (v := 400) rfl rfl (by decide) (by decide) (fun x12 hc12 hx12 => ?_)
          refine z_putI zh fl_Reader_15 dX6_append_40 ck_R rfl rfl (Nat.le_of_ble_eq_true rfl) (Or.inl rfl) ?_
          have hG : SI sp σ (upI iv 541 1 x12) := si_w (k := 541) (j := 1) hG (by decide) (by decide) hL (rx_some (ra_w hx12 (by decide) (by decide)))
          have em13 : upI iv 541 1 x12 541 1 = x12 := by rw [upI_at, if_pos ⟨rfl, rfl⟩]
          generalize upI iv 541 1 x12 = iv at hG em13 ⊢
          refine y_iinc (L' := fun z => [some (rf g 541), some (.int a1), some (.int z)]) zh dX6_append_43 (by decide) rfl (by decide +kernel) r4 (u := (-8)) (v := 16) rfl rfl (by decide) (by decide) (fun _ => rfl) (fun x14 hc14 hx14 => ?_)
          refine z_goto (tgt := 3) zh dX6_append_46 rfl ?_
          exact ih3 iv lv x14 hG (ra_w hx14 (by decide) (by decide)) (ms_dn hc14 (by decide) hn3)
  exact J3 2147483673 iv lv (nI 24) hG (ra_w rl_24 (by decide) (by decide)) (ms_d0 rl_24 (by decide))
set_option maxRecDepth 20000 in
theorem s_X6_failHere (g : GE) {sp : Nat → Nat → Bool} {σ : Iv} {iv : Iv} {lv : Lv} {a1 : Int32} (ha1 : Ra 1 3 a1) (hG : SI sp σ iv) (hq : Sq sp) : ConV g yX6_failHere cX6_failHere 2 none 1 [rf g 541, .int a1] iv lv (fun iv lv => SI sp σ iv) := by
  refine con_intro (own := "RollingNets$Reader") (by decide +kernel) rfl (Nat.le_of_ble_eq_true rfl) (L0 := [some (rf g 541), some (.int a1)]) rfl (fun Z zh => ?_)
  refine z_aloadnR zh dX6_failHere_0 rfl ?_
  refine z_iloadn zh dX6_failHere_1 rfl ?_
  refine z_putI zh fl_Reader_31 dX6_failHere_2 ck_R rfl rfl (Nat.le_of_ble_eq_true rfl) (Or.inl rfl) ?_
  have hG : SI sp σ (upI iv 541 4 a1) := si_w (k := 541) (j := 4) hG (by decide) (by decide) (sq_no hq rfl) (rx_none rfl)
  have em1 : upI iv 541 4 a1 541 4 = a1 := by rw [upI_at, if_pos ⟨rfl, rfl⟩]
  generalize upI iv 541 4 a1 = iv at hG em1 ⊢
  refine z_aloadnR zh dX6_failHere_5 rfl ?_
  refine z_aloadnR zh dX6_failHere_6 rfl ?_
  refine y_getI zh fl_Reader_28 dX6_failHere_7 ck_R rfl rfl (fun x2 ex2 => ?_)
  have hx2 : Ra 0 401 x2 := ra_of ex2 (si_c hG (k := 541) (j := 3) rfl)
  refine z_putI zh fl_Reader_34 dX6_failHere_10 ck_R rfl rfl (Nat.le_of_ble_eq_true rfl) (Or.inl rfl) ?_
  have hG : SI sp σ (upI iv 541 5 x2) := si_w (k := 541) (j := 5) hG (by decide) (by decide) (sq_no hq rfl) (rx_none rfl)
  have em3 := (upI_ne (iv := iv) (k := 541) (j := 5) (x := x2) (a := 541) (b := 4) (Or.inr (by decide))).trans em1
  have em4 := (upI_ne (iv := iv) (k := 541) (j := 5) (x := x2) (a := 541) (b := 3) (Or.inr (by decide))).trans ex2
  have em5 : upI iv 541 5 x2 541 5 = x2 := by rw [upI_at, if_pos ⟨rfl, rfl⟩]
  generalize upI iv 541 5 x2 = iv at hG em3 em4 em5 ⊢
  exact z_vret zh dX6_failHere_13 ⟨rfl, hG⟩
set_option maxRecDepth 20000 in
theorem s_X6_hasRoom (g : GE) {sp : Nat → Nat → Bool} {σ : Iv} {iv : Iv} {lv : Lv}   (hG : SI sp σ iv)  : ConI g yX6_hasRoom cX6_hasRoom 1 (some .boolean) 1 [rf g 541] iv lv (fun r iv' lv' => iv = iv' ∧ lv = lv' ∧ Ra 0 1 r) := by
  refine con_intro (own := "RollingNets$Reader") (by decide +kernel) rfl (Nat.le_of_ble_eq_true rfl) (L0 := [some (rf g 541)]) rfl (fun Z zh => ?_)
  refine z_aloadnR zh dX6_hasRoom_0 rfl ?_
  refine y_getI zh fl_Reader_15 dX6_hasRoom_1 ck_R rfl rfl (fun x1 ex1 => ?_)
  have hx1 : Ra 0 400 x1 := ra_of ex1 (si_c hG (k := 541) (j := 1) rfl)
  refine z_bipush zh dX6_hasRoom_4 kb_20 ?_
  refine y_iadd zh dX6_hasRoom_6 hx1 rl_20 (u := 20) (v := 420) rfl rfl (by decide) (by decide) (fun x2 hc2 hx2 => ?_)
  refine z_sipush zh dX6_hasRoom_7 ks_400 ?_
  refine z_icmp_gt (tgt := 17) zh dX6_hasRoom_10 rfl (fun q3 => ?_) (fun q3 => ?_)
  · have r4 : Ra 401 420 x2 := rb_lt_r rl_400 hx2 q3 (by decide)
    refine z_iconst zh dX6_hasRoom_17 ki_0 ?_
    exact z_zret zh dX6_hasRoom_18 (ra_01 (ra_w rl_0 (by decide) (by decide))) ⟨_, rfl, rfl, rfl, (ra_w rl_0 (by decide) (by decide))⟩
  · have r5 : Ra 20 400 x2 := rb_le_l rl_400 hx2 (rb_nlt q3) (by decide)
    refine z_iconst zh dX6_hasRoom_13 ki_1 ?_
    refine z_goto (tgt := 18) zh dX6_hasRoom_14 rfl ?_
    exact z_zret zh dX6_hasRoom_18 (ra_01 (ra_w rl_1 (by decide) (by decide))) ⟨_, rfl, rfl, rfl, (ra_w rl_1 (by decide) (by decide))⟩
set_option maxRecDepth 20000 in
theorem s_X6_here (g : GE) {sp : Nat → Nat → Bool} {σ : Iv} {iv : Iv} {lv : Lv} {a1 : Int32}  (hG : SI sp σ iv)  : ConI g yX6_here cX6_here 2 (some .int) 1 [rf g 541, .int a1] iv lv (fun r iv' lv' => iv = iv' ∧ lv = lv' ∧ True) := by
  refine con_intro (own := "RollingNets$Reader") (by decide +kernel) rfl (Nat.le_of_ble_eq_true rfl) (L0 := [some (rf g 541), some (.int a1)]) rfl (fun Z zh => ?_)
  refine z_iloadn zh dX6_here_0 rfl ?_
  refine z_if_lt (tgt := 21) zh dX6_here_1 rfl (fun q1 => ?_) (fun q1 => ?_)
  · have r2 : Ra (-2147483648) (-1) a1 := rb_lt_l ra_z (ra_tt a1) q1 (by decide)
    refine z_iconst zh dX6_here_21 ki_m1 ?_
    exact z_iret zh dX6_here_22 ⟨_, rfl, rfl, rfl, trivial⟩
  · have r3 : Ra 0 2147483647 a1 := rb_le_r ra_z (ra_tt a1) (rb_nlt q1) (by decide)
    refine z_iloadn zh dX6_here_4 rfl ?_
    refine z_aloadnR zh dX6_here_5 rfl ?_
    refine y_getI zh fl_Reader_15 dX6_here_6 ck_R rfl rfl (fun x4 ex4 => ?_)
    have hx4 : Ra 0 400 x4 := ra_of ex4 (si_c hG (k := 541) (j := 1) rfl)
    refine z_icmp_ge (tgt := 21) zh dX6_here_9 rfl (fun q5 => ?_) (fun q5 => ?_)
    · refine z_iconst zh dX6_here_21 ki_m1 ?_
      exact z_iret zh dX6_here_22 ⟨_, rfl, rfl, rfl, trivial⟩
    · have r6 : Ra 0 399 a1 := rb_lt_l hx4 r3 (rb_nle q5) (by decide)
      have r7 : Ra 1 400 x4 := rb_lt_r r3 hx4 (rb_nle q5) (by decide)
      refine z_aloadnR zh dX6_here_12 rfl ?_
      refine z_getf zh fl_Reader_9 dX6_here_13 ck_R rfl rfl ?_
      refine z_iloadn zh dX6_here_16 rfl ?_
      refine y_iald zh ck_tape dX6_here_17 r6 (by decide) (by decide) (fun x8 ex8 => ?_)
      refine z_goto (tgt := 22) zh dX6_here_18 rfl ?_
      exact z_iret zh dX6_here_22 ⟨_, rfl, rfl, rfl, trivial⟩
set_option maxRecDepth 20000 in
theorem s_X6_isLetter (g : GE) {sp : Nat → Nat → Bool} {σ : Iv} {iv : Iv} {lv : Lv} {a1 : Int32}  (hG : SI sp σ iv)  : ConI g yX6_isLetter cX6_isLetter 1 (some .boolean) 2 [.int a1] iv lv (fun r iv' lv' => iv = iv' ∧ lv = lv' ∧ Ra 0 1 r ∧ (¬ r = 0 → Ra 65 122 a1)) := by
  refine con_intro (own := "RollingNets$Reader") (by decide +kernel) rfl (Nat.le_of_ble_eq_true rfl) (L0 := [some (.int a1)]) rfl (fun Z zh => ?_)
  refine z_iloadn zh dX6_isLetter_0 rfl ?_
  refine z_bipush zh dX6_isLetter_1 kb_97 ?_
  refine z_bipush zh dX6_isLetter_3 kb_122 ?_
  refine z_callSI zh ms_Reader_84 dX6_isLetter_5 (s_X8_within g) ⟨Nat.le_of_ble_eq_true rfl, Nat.le_of_ble_eq_true rfl⟩ rfl rfl (Nat.le_of_ble_eq_true rfl) ?_
  rintro x1 _ _ ⟨rfl, rfl, hx1, hz2⟩
  refine z_if_ne (tgt := 22) zh dX6_isLetter_8 rfl (fun q3 => ?_) (fun q3 => ?_)
  · have r4 : Ra 1 1 x1 := rb_ne_lo hx1 ra_z q3 (by decide)
    have r5 : Ra 97 122 a1 := (rb_in rl_97 rl_122 (hz2 q3))
    refine z_iconst zh dX6_isLetter_22 ki_1 ?_
    refine z_goto (tgt := 27) zh dX6_isLetter_23 rfl ?_
    exact z_zret zh dX6_isLetter_27 (ra_01 (ra_w rl_1 (by decide) (by decide))) ⟨_, rfl, rfl, rfl, (ra_w rl_1 (by decide) (by decide)), (fun _ => (ra_w r5 (by decide) (by decide)))⟩
  · have r6 := rb_eq (u := 0) (v := 0) hx1 ra_z q3 (by decide) (by decide)
    refine z_iloadn zh dX6_isLetter_11 rfl ?_
    refine z_bipush zh dX6_isLetter_12 kb_65 ?_
    refine z_bipush zh dX6_isLetter_14 kb_90 ?_
    refine z_callSI zh ms_Reader_84 dX6_isLetter_16 (s_X8_within g) ⟨Nat.le_of_ble_eq_true rfl, Nat.le_of_ble_eq_true rfl⟩ rfl rfl (Nat.le_of_ble_eq_true rfl) ?_
    rintro x7 _ _ ⟨rfl, rfl, hx7, hz8⟩
    refine z_if_eq (tgt := 26) zh dX6_isLetter_19 rfl (fun q9 => ?_) (fun q9 => ?_)
    · have r10 := rb_eq (u := 0) (v := 0) hx7 ra_z q9 (by decide) (by decide)
      refine z_iconst zh dX6_isLetter_26 ki_0 ?_
      exact z_zret zh dX6_isLetter_27 (ra_01 (ra_w rl_0 (by decide) (by decide))) ⟨_, rfl, rfl, rfl, (ra_w rl_0 (by decide) (by decide)), (fun q => absurd rfl q)⟩
    · have r11 : Ra 1 1 x7 := rb_ne_lo hx7 ra_z q9 (by decide)
      have r12 : Ra 65 90 a1 := (rb_in rl_65 rl_90 (hz8 q9))
      refine z_iconst zh dX6_isLetter_22 ki_1 ?_
      refine z_goto (tgt := 27) zh dX6_isLetter_23 rfl ?_
      exact z_zret zh dX6_isLetter_27 (ra_01 (ra_w rl_1 (by decide) (by decide))) ⟨_, rfl, rfl, rfl, (ra_w rl_1 (by decide) (by decide)), (fun _ => (ra_w r12 (by decide) (by decide)))⟩
set_option maxRecDepth 20000 in
theorem s_X6_leastOf (g : GE) {sp : Nat → Nat → Bool} {σ : Iv} {iv : Iv} {lv : Lv} {a1 : Int32}  (hG : SI sp σ iv)  : ConI g yX6_leastOf cX6_leastOf 1 (some .int) 1 [.int a1] iv lv (fun r iv' lv' => iv = iv' ∧ lv = lv' ∧ Ra 0 1 r) := by
  refine con_intro (own := "RollingNets$Reader") (by decide +kernel) rfl (Nat.le_of_ble_eq_true rfl) (L0 := [some (.int a1)]) rfl (fun Z zh => ?_)
  refine z_iloadn zh dX6_leastOf_0 rfl ?_
  refine z_bipush zh dX6_leastOf_1 kb_78 ?_
  refine z_icmp_eq (tgt := 18) zh dX6_leastOf_3 rfl (fun q1 => ?_) (fun q1 => ?_)
  · have r2 := rb_eq (u := 78) (v := 78) (ra_tt a1) rl_78 q1 (by decide) (by decide)
    refine z_iconst zh dX6_leastOf_18 ki_1 ?_
    refine z_goto (tgt := 23) zh dX6_leastOf_19 rfl ?_
    exact z_iret zh dX6_leastOf_23 ⟨_, rfl, rfl, rfl, (ra_w rl_1 (by decide) (by decide))⟩
  · refine z_iloadn zh dX6_leastOf_6 rfl ?_
    refine z_bipush zh dX6_leastOf_7 kb_80 ?_
    refine z_icmp_eq (tgt := 18) zh dX6_leastOf_9 rfl (fun q3 => ?_) (fun q3 => ?_)
    · have r4 := rb_eq (u := 80) (v := 80) (ra_tt a1) rl_80 q3 (by decide) (by decide)
      refine z_iconst zh dX6_leastOf_18 ki_1 ?_
      refine z_goto (tgt := 23) zh dX6_leastOf_19 rfl ?_
      exact z_iret zh dX6_leastOf_23 ⟨_, rfl, rfl, rfl, (ra_w rl_1 (by decide) (by decide))⟩
    · refine z_iloadn zh dX6_leastOf_12 rfl ?_
      refine z_bipush zh dX6_leastOf_13 kb_75 ?_
      refine z_icmp_ne (tgt := 22) zh dX6_leastOf_15 rfl (fun q5 => ?_) (fun q5 => ?_)
      · refine z_iconst zh dX6_leastOf_22 ki_0 ?_
        exact z_iret zh dX6_leastOf_23 ⟨_, rfl, rfl, rfl, (ra_w rl_0 (by decide) (by decide))⟩
      · have r6 := rb_eq (u := 75) (v := 75) (ra_tt a1) rl_75 q5 (by decide) (by decide)
        refine z_iconst zh dX6_leastOf_18 ki_1 ?_
        refine z_goto (tgt := 23) zh dX6_leastOf_19 rfl ?_
        exact z_iret zh dX6_leastOf_23 ⟨_, rfl, rfl, rfl, (ra_w rl_1 (by decide) (by decide))⟩
set_option maxRecDepth 20000 in
theorem s_X6_mostOf (g : GE) {sp : Nat → Nat → Bool} {σ : Iv} {iv : Iv} {lv : Lv} {a1 : Int32}  (hG : SI sp σ iv)  : ConI g yX6_mostOf cX6_mostOf 1 (some .int) 1 [.int a1] iv lv (fun r iv' lv' => iv = iv' ∧ lv = lv' ∧ Ra 5 9999 r) := by
  refine con_intro (own := "RollingNets$Reader") (by decide +kernel) rfl (Nat.le_of_ble_eq_true rfl) (L0 := [some (.int a1)]) rfl (fun Z zh => ?_)
  refine z_iloadn zh dX6_mostOf_0 rfl ?_
  by_cases q1 : 73 ≤ a1.toInt ∧ a1.toInt ≤ 84
  · obtain ⟨jw, hjw, hkw⟩ : ∃ jw : Nat, jw ≤ 11 ∧ a1.toInt = 73 + (jw : Int) := ⟨(a1.toInt - 73).toNat, by omega, by omega⟩
    rcases (by omega : jw = 0 ∨ jw = 1 ∨ jw = 2 ∨ jw = 3 ∨ jw = 4 ∨ jw = 5 ∨ jw = 6 ∨ jw = 7 ∨ jw = 8 ∨ jw = 9 ∨ jw = 10 ∨ jw = 11) with rfl | rfl | rfl | rfl | rfl | rfl | rfl | rfl | rfl | rfl | rfl | rfl
    · have r3 : Ra 73 73 a1 := sw_ra hkw rfl
      refine z_tabIn (off := 66) (tgt := 67) zh dX6_mostOf_1 (sw_lo r3 (by decide)) (sw_hi r3 (by decide)) (sw_at r3 (by decide)) rfl ?_
      refine z_iconst zh dX6_mostOf_67 ki_5 ?_
      exact z_iret zh dX6_mostOf_68 ⟨_, rfl, rfl, rfl, (ra_w rl_5 (by decide) (by decide))⟩
    · have r4 : Ra 74 74 a1 := sw_ra hkw rfl
      refine z_tabIn (off := 78) (tgt := 79) zh dX6_mostOf_1 (sw_lo r4 (by decide)) (sw_hi r4 (by decide)) (sw_at r4 (by decide)) rfl ?_
      refine z_sipush zh dX6_mostOf_79 ks_9999 ?_
      exact z_iret zh dX6_mostOf_82 ⟨_, rfl, rfl, rfl, (ra_w rl_9999 (by decide) (by decide))⟩
    · have r5 : Ra 75 75 a1 := sw_ra hkw rfl
      refine z_tabIn (off := 75) (tgt := 76) zh dX6_mostOf_1 (sw_lo r5 (by decide)) (sw_hi r5 (by decide)) (sw_at r5 (by decide)) rfl ?_
      refine z_bipush zh dX6_mostOf_76 kb_20 ?_
      exact z_iret zh dX6_mostOf_78 ⟨_, rfl, rfl, rfl, (ra_w rl_20 (by decide) (by decide))⟩
    · have r6 : Ra 76 76 a1 := sw_ra hkw rfl
      refine z_tabIn (off := 78) (tgt := 79) zh dX6_mostOf_1 (sw_lo r6 (by decide)) (sw_hi r6 (by decide)) (sw_at r6 (by decide)) rfl ?_
      refine z_sipush zh dX6_mostOf_79 ks_9999 ?_
      exact z_iret zh dX6_mostOf_82 ⟨_, rfl, rfl, rfl, (ra_w rl_9999 (by decide) (by decide))⟩
    · have r7 : Ra 77 77 a1 := sw_ra hkw rfl
      refine z_tabIn (off := 63) (tgt := 64) zh dX6_mostOf_1 (sw_lo r7 (by decide)) (sw_hi r7 (by decide)) (sw_at r7 (by decide)) rfl ?_
      refine z_bipush zh dX6_mostOf_64 kb_11 ?_
      exact z_iret zh dX6_mostOf_66 ⟨_, rfl, rfl, rfl, (ra_w rl_11 (by decide) (by decide))⟩
    · have r8 : Ra 78 78 a1 := sw_ra hkw rfl
      refine z_tabIn (off := 78) (tgt := 79) zh dX6_mostOf_1 (sw_lo r8 (by decide)) (sw_hi r8 (by decide)) (sw_at r8 (by decide)) rfl ?_
      refine z_sipush zh dX6_mostOf_79 ks_9999 ?_
      exact z_iret zh dX6_mostOf_82 ⟨_, rfl, rfl, rfl, (ra_w rl_9999 (by decide) (by decide))⟩
    · have r9 : Ra 79 79 a1 := sw_ra hkw rfl
      refine z_tabIn (off := 78) (tgt := 79) zh dX6_mostOf_1 (sw_lo r9 (by decide)) (sw_hi r9 (by decide)) (sw_at r9 (by decide)) rfl ?_
      refine z_sipush zh dX6_mostOf_79 ks_9999 ?_
      exact z_iret zh dX6_mostOf_82 ⟨_, rfl, rfl, rfl, (ra_w rl_9999 (by decide) (by decide))⟩
    · have r10 : Ra 80 80 a1 := sw_ra hkw rfl
      refine z_tabIn (off := 78) (tgt := 79) zh dX6_mostOf_1 (sw_lo r10 (by decide)) (sw_hi r10 (by decide)) (sw_at r10 (by decide)) rfl ?_
      refine z_sipush zh dX6_mostOf_79 ks_9999 ?_
      exact z_iret zh dX6_mostOf_82 ⟨_, rfl, rfl, rfl, (ra_w rl_9999 (by decide) (by decide))⟩
    · have r11 : Ra 81 81 a1 := sw_ra hkw rfl
      refine z_tabIn (off := 78) (tgt := 79) zh dX6_mostOf_1 (sw_lo r11 (by decide)) (sw_hi r11 (by decide)) (sw_at r11 (by decide)) rfl ?_
      refine z_sipush zh dX6_mostOf_79 ks_9999 ?_
      exact z_iret zh dX6_mostOf_82 ⟨_, rfl, rfl, rfl, (ra_w rl_9999 (by decide) (by decide))⟩
    · have r12 : Ra 82 82 a1 := sw_ra hkw rfl
      refine z_tabIn (off := 68) (tgt := 69) zh dX6_mostOf_1 (sw_lo r12 (by decide)) (sw_hi r12 (by decide)) (sw_at r12 (by decide)) rfl ?_
      refine z_bipush zh dX6_mostOf_69 kb_9 ?_
      exact z_iret zh dX6_mostOf_71 ⟨_, rfl, rfl, rfl, (ra_w rl_9 (by decide) (by decide))⟩
    · have r13 : Ra 83 83 a1 := sw_ra hkw rfl
      refine z_tabIn (off := 78) (tgt := 79) zh dX6_mostOf_1 (sw_lo r13 (by decide)) (sw_hi r13 (by decide)) (sw_at r13 (by decide)) rfl ?_
      refine z_sipush zh dX6_mostOf_79 ks_9999 ?_
      exact z_iret zh dX6_mostOf_82 ⟨_, rfl, rfl, rfl, (ra_w rl_9999 (by decide) (by decide))⟩
    · have r14 : Ra 84 84 a1 := sw_ra hkw rfl
      refine z_tabIn (off := 71) (tgt := 72) zh dX6_mostOf_1 (sw_lo r14 (by decide)) (sw_hi r14 (by decide)) (sw_at r14 (by decide)) rfl ?_
      refine z_sipush zh dX6_mostOf_72 ks_199 ?_
      exact z_iret zh dX6_mostOf_75 ⟨_, rfl, rfl, rfl, (ra_w rl_199 (by decide) (by decide))⟩
  · refine z_tabOut (tgt := 79) zh dX6_mostOf_1 (sw_out q1) rfl ?_
    refine z_sipush zh dX6_mostOf_79 ks_9999 ?_
    exact z_iret zh dX6_mostOf_82 ⟨_, rfl, rfl, rfl, (ra_w rl_9999 (by decide) (by decide))⟩
set_option maxRecDepth 20000 in
theorem s_X6_skipBlanks (g : GE) {sp : Nat → Nat → Bool} {σ : Iv} {iv : Iv} {lv : Lv}   (hG : SI sp σ iv) (hq : Sq sp) : ConV g yX6_skipBlanks cX6_skipBlanks 1 none 2 [rf g 541] iv lv (fun iv lv => SI sp σ iv) := by
  refine con_intro (own := "RollingNets$Reader") (by decide +kernel) rfl (Nat.le_of_ble_eq_true rfl) (L0 := [some (rf g 541)]) rfl (fun Z zh => ?_)
  have J0 : ∀ (n : Nat) (iv : Iv) (lv : Lv) (x1 : Int32), SI sp σ iv → iv 541 3 = x1 → Ra 0 401 x1 → 401 - x1.toInt < (n : Int) → Z 0 [some (rf g 541)] [] iv lv := by
    intro n
    induction n with
    | zero => intro iv lv x1 hG em2 hx1 hn0; exact (ms_uz hx1 hn0).elim
    | succ n ih0 =>
      intro iv lv x1 hG em2 hx1 hn0
      refine z_aloadnR zh dX6_skipBlanks_0 rfl ?_
      refine z_getI (x := x1) zh fl_Reader_28 dX6_skipBlanks_1 ck_R rfl rfl em2 ?_
      refine z_aloadnR zh dX6_skipBlanks_4 rfl ?_
      refine y_getI zh fl_Reader_15 dX6_skipBlanks_5 ck_R rfl rfl (fun x3 ex3 => ?_)
      have hx3 : Ra 0 400 x3 := ra_of ex3 (si_c hG (k := 541) (j := 1) rfl)
      refine z_icmp_ge (tgt := 50) zh dX6_skipBlanks_8 rfl (fun q4 => ?_) (fun q4 => ?_)
      · exact z_vret zh dX6_skipBlanks_50 ⟨rfl, hG⟩
      · have r5 : Ra 0 399 x1 := rb_lt_l hx3 hx1 (rb_nle q4) (by decide)
        have r6 : Ra 1 400 x3 := rb_lt_r hx1 hx3 (rb_nle q4) (by decide)
        refine z_aloadnR zh dX6_skipBlanks_11 rfl ?_
        refine z_aloadnR zh dX6_skipBlanks_12 rfl ?_
        refine z_getI (x := x1) zh fl_Reader_28 dX6_skipBlanks_13 ck_R rfl rfl em2 ?_
        refine z_callVI zh mv_Reader_80 dX6_skipBlanks_16 ck_R rfl (s_X6_here g  hG) ⟨Nat.le_of_ble_eq_true rfl, Nat.le_of_ble_eq_true rfl⟩ rfl rfl (Nat.le_of_ble_eq_true rfl) ?_
        rintro x7 _ _ ⟨rfl, rfl, _⟩
        refine z_bipush zh dX6_skipBlanks_19 kb_32 ?_
        have J37 : ∀ (iv : Iv) (lv : Lv), SI sp σ iv → iv 541 3 = x1 → iv 541 1 = x3 → Z 37 [some (rf g 541)] [] iv lv := by
          intro iv lv hG em8 em9
          refine z_aloadnR zh dX6_skipBlanks_37 rfl ?_
          refine z_dup zh dX6_skipBlanks_38 rfl ?_
          refine z_getI (x := x1) zh fl_Reader_28 dX6_skipBlanks_39 ck_R rfl rfl em8 ?_
          refine z_iconst zh dX6_skipBlanks_42 ki_1 ?_
          refine y_iadd zh dX6_skipBlanks_43 r5 rl_1 (u := 1) (v := 400) rfl rfl (by decide) (by decide) (fun x10 hc10 hx10 => ?_)
          refine z_putI zh fl_Reader_28 dX6_skipBlanks_44 ck_R rfl rfl (Nat.le_of_ble_eq_true rfl) (Or.inl rfl) ?_
          have hG : SI sp σ (upI iv 541 3 x10) := si_w (k := 541) (j := 3) hG (by decide) (by decide) (sq_no hq rfl) (rx_some (ra_w hx10 (by decide) (by decide)))
          have em11 := (upI_ne (iv := iv) (k := 541) (j := 3) (x := x10) (a := 541) (b := 1) (Or.inr (by decide))).trans em9
          have em12 : upI iv 541 3 x10 541 3 = x10 := by rw [upI_at, if_pos ⟨rfl, rfl⟩]
          generalize upI iv 541 3 x10 = iv at hG em11 em12 ⊢
          refine z_goto (tgt := 0) zh dX6_skipBlanks_47 rfl ?_
          exact ih0 iv lv x10 hG em12 (ra_w hx10 (by decide) (by decide)) (ms_up (bs_add hc10 rl_1) (by decide) hn0)
        refine z_icmp_eq (tgt := 37) zh dX6_skipBlanks_21 rfl (fun q13 => ?_) (fun q13 => ?_)
        · have r14 := rb_eq (u := 32) (v := 32) (ra_tt x7) rl_32 q13 (by decide) (by decide)
          exact J37 iv lv hG em2 ex3
        · refine z_aloadnR zh dX6_skipBlanks_24 rfl ?_
          refine z_aloadnR zh dX6_skipBlanks_25 rfl ?_
          refine z_getI (x := x1) zh fl_Reader_28 dX6_skipBlanks_26 ck_R rfl rfl em2 ?_
          refine z_callVI zh mv_Reader_80 dX6_skipBlanks_29 ck_R rfl (s_X6_here g  hG) ⟨Nat.le_of_ble_eq_true rfl, Nat.le_of_ble_eq_true rfl⟩ rfl rfl (Nat.le_of_ble_eq_true rfl) ?_
          rintro x15 _ _ ⟨rfl, rfl, _⟩
          refine z_bipush zh dX6_skipBlanks_32 kb_10 ?_
          refine z_icmp_ne (tgt := 50) zh dX6_skipBlanks_34 rfl (fun q16 => ?_) (fun q16 => ?_)
          · exact z_vret zh dX6_skipBlanks_50 ⟨rfl, hG⟩
          · have r17 := rb_eq (u := 10) (v := 10) (ra_tt x15) rl_10 q16 (by decide) (by decide)
            exact J37 iv lv hG em2 ex3
  obtain ⟨x18, ex18⟩ : ∃ z, iv 541 3 = z := ⟨_, rfl⟩
  have hx18 : Ra 0 401 x18 := ra_of ex18 (si_c hG (k := 541) (j := 3) rfl)
  exact J0 402 iv lv x18 hG ex18 hx18 (ms_u0 hx18 (by decide))
set_option maxRecDepth 20000 in
theorem s_X6_readNumber (g : GE) {sp : Nat → Nat → Bool} {σ : Iv} {iv : Iv} {lv : Lv} {a1 : Int32} {a2 : Int32} {a3 : Int32}  (hG : SI sp σ iv) (hq : Sq sp) : ConV g yX6_readNumber cX6_readNumber 6 none 3 [rf g 541, .int a1, .int a2, .int a3] iv lv (fun iv lv => SI sp σ iv) := by
  refine con_intro (own := "RollingNets$Reader") (by decide +kernel) rfl (Nat.le_of_ble_eq_true rfl) (L0 := [some (rf g 541), some (.int a1), some (.int a2), some (.int a3), none, none]) rfl (fun Z zh => ?_)
  refine z_aloadnR zh dX6_readNumber_0 rfl ?_
  refine z_callVV zh mv_Reader_40 dX6_readNumber_1 ck_R rfl (s_X6_skipBlanks g  hG hq) ⟨Nat.le_of_ble_eq_true rfl, Nat.le_of_ble_eq_true rfl⟩ rfl rfl (Nat.le_of_ble_eq_true rfl) ?_
  rintro iv lv hG
  refine z_aloadnR zh dX6_readNumber_4 rfl ?_
  refine y_getI zh fl_Reader_28 dX6_readNumber_5 ck_R rfl rfl (fun x1 ex1 => ?_)
  have hx1 : Ra 0 401 x1 := ra_of ex1 (si_c hG (k := 541) (j := 3) rfl)
  refine z_istore zh dX6_readNumber_8 (by decide) (L' := [some (rf g 541), some (.int a1), some (.int a2), some (.int a3), some (.int x1), none]) rfl ?_
  refine z_iconst zh dX6_readNumber_10 ki_0 ?_
  refine z_istore zh dX6_readNumber_11 (by decide) (L' := [some (rf g 541), some (.int a1), some (.int a2), some (.int a3), some (.int x1), some (.int (nI 0))]) rfl ?_
  have J13 : ∀ (n : Nat) (iv : Iv) (lv : Lv) (x2 : Int32) (x3 : Int32), SI sp σ iv → Ra 0 401 x2 → iv 541 3 = x1 → 401 - x2.toInt < (n : Int) → Z 13 [some (rf g 541), some (.int a1), some (.int a2), some (.int a3), some (.int x2), some (.int x3)] [] iv lv := by
    intro n
    induction n with
    | zero => intro iv lv x2 x3 hG hx2 em4 hn13; exact (ms_uz hx2 hn13).elim
    | succ n ih13 =>
      intro iv lv x2 x3 hG hx2 em4 hn13
      refine z_iload zh dX6_readNumber_13 rfl ?_
      refine z_aloadnR zh dX6_readNumber_15 rfl ?_
      refine y_getI zh fl_Reader_15 dX6_readNumber_16 ck_R rfl rfl (fun x5 ex5 => ?_)
      have hx5 : Ra 0 400 x5 := ra_of ex5 (si_c hG (k := 541) (j := 1) rfl)
      have J79 : ∀ (iv : Iv) (lv : Lv), SI sp σ iv → iv 541 3 = x1 → iv 541 1 = x5 → Z 79 [some (rf g 541), some (.int a1), some (.int a2), some (.int a3), some (.int x2), some (.int x3)] [] iv lv := by
        intro iv lv hG em6 em7
        refine z_iload zh dX6_readNumber_79 rfl ?_
        refine z_aloadnR zh dX6_readNumber_81 rfl ?_
        refine z_getI (x := x1) zh fl_Reader_28 dX6_readNumber_82 ck_R rfl rfl em6 ?_
        have J128 : ∀ (iv : Iv) (lv : Lv), SI sp σ iv → Z 128 [some (rf g 541), some (.int a1), some (.int a2), some (.int a3), some (.int x2), some (.int x3)] [] iv lv := by
          intro iv lv hG
          refine z_aloadnR zh dX6_readNumber_128 rfl ?_
          refine z_getf zh fl_Reader_24 dX6_readNumber_129 ck_R rfl rfl ?_
          refine z_iloadn zh dX6_readNumber_132 rfl ?_
          refine z_iloadn zh dX6_readNumber_133 rfl ?_
          refine z_iload zh dX6_readNumber_134 rfl ?_
          refine z_callVV zh mv_Reader_57 dX6_readNumber_136 (ck_T isT_r) rfl (s_X7_put g isT_r hG (pr_f hq)) ⟨Nat.le_of_ble_eq_true rfl, Nat.le_of_ble_eq_true rfl⟩ rfl rfl (Nat.le_of_ble_eq_true rfl) ?_
          rintro iv lv hG
          refine z_aloadnR zh dX6_readNumber_139 rfl ?_
          refine z_iload zh dX6_readNumber_140 rfl ?_
          refine z_putI zh fl_Reader_28 dX6_readNumber_142 ck_R rfl rfl (Nat.le_of_ble_eq_true rfl) (Or.inl rfl) ?_
          have hG : SI sp σ (upI iv 541 3 x2) := si_w (k := 541) (j := 3) hG (by decide) (by decide) (sq_no hq rfl) (rx_some hx2)
          have em8 : upI iv 541 3 x2 541 3 = x2 := by rw [upI_at, if_pos ⟨rfl, rfl⟩]
          generalize upI iv 541 3 x2 = iv at hG em8 ⊢
          exact z_vret zh dX6_readNumber_145 ⟨rfl, hG⟩
        have J99 : ∀ (iv : Iv) (lv : Lv), SI sp σ iv → iv 541 3 = x1 → iv 541 1 = x5 → Z 99 [some (rf g 541), some (.int a1), some (.int a2), some (.int a3), some (.int x2), some (.int x3)] [] iv lv := by
          intro iv lv hG em9 em10
          refine z_aloadnR zh dX6_readNumber_99 rfl ?_
          refine z_iconst zh dX6_readNumber_100 ki_1 ?_
          refine z_callVV zh mv_Reader_50 dX6_readNumber_101 ck_R rfl (s_X6_failHere g (ra_w rl_1 (by decide) (by decide)) hG hq) ⟨Nat.le_of_ble_eq_true rfl, Nat.le_of_ble_eq_true rfl⟩ rfl rfl (Nat.le_of_ble_eq_true rfl) ?_
          rintro iv lv hG
          refine z_goto (tgt := 128) zh dX6_readNumber_104 rfl ?_
          exact J128 iv lv hG
        refine z_icmp_eq (tgt := 99) zh dX6_readNumber_85 rfl (fun q11 => ?_) (fun q11 => ?_)
        · exact J99 iv lv hG em6 em7
        · refine z_iload zh dX6_readNumber_88 rfl ?_
          refine z_aloadnR zh dX6_readNumber_90 rfl ?_
          refine z_getI (x := x1) zh fl_Reader_28 dX6_readNumber_91 ck_R rfl rfl em6 ?_
          refine y_isub zh dX6_readNumber_94 hx2 hx1 (u := (-401)) (v := 401) rfl rfl (by decide) (by decide) (fun x13 hc13 hx13 => ?_)
          refine z_iconst zh dX6_readNumber_95 ki_4 ?_
          refine z_icmp_le (tgt := 107) zh dX6_readNumber_96 rfl (fun q14 => ?_) (fun q14 => ?_)
          · have r15 : Ra (-401) 4 x13 := rb_le_l rl_4 hx13 q14 (by decide)
            refine z_iload zh dX6_readNumber_107 rfl ?_
            refine z_iloadn zh dX6_readNumber_109 rfl ?_
            refine z_callSI zh ms_Reader_88 dX6_readNumber_110 (s_X6_leastOf g  hG) ⟨Nat.le_of_ble_eq_true rfl, Nat.le_of_ble_eq_true rfl⟩ rfl rfl (Nat.le_of_ble_eq_true rfl) ?_
            rintro x16 _ _ ⟨rfl, rfl, hx16⟩
            refine z_iloadn zh dX6_readNumber_113 rfl ?_
            refine z_callSI zh ms_Reader_92 dX6_readNumber_114 (s_X6_mostOf g  hG) ⟨Nat.le_of_ble_eq_true rfl, Nat.le_of_ble_eq_true rfl⟩ rfl rfl (Nat.le_of_ble_eq_true rfl) ?_
            rintro x17 _ _ ⟨rfl, rfl, hx17⟩
            refine z_callSI zh ms_Reader_84 dX6_readNumber_117 (s_X8_within g) ⟨Nat.le_of_ble_eq_true rfl, Nat.le_of_ble_eq_true rfl⟩ rfl rfl (Nat.le_of_ble_eq_true rfl) ?_
            rintro x18 _ _ ⟨rfl, rfl, hx18, hz19⟩
            refine z_if_ne (tgt := 128) zh dX6_readNumber_120 rfl (fun q20 => ?_) (fun q20 => ?_)
            · have r21 : Ra 1 1 x18 := rb_ne_lo hx18 ra_z q20 (by decide)
              have r22 : Ra 0 9999 x3 := (rb_in hx16 hx17 (hz19 q20))
              exact J128 iv lv hG
            · have r23 := rb_eq (u := 0) (v := 0) hx18 ra_z q20 (by decide) (by decide)
              refine z_aloadnR zh dX6_readNumber_123 rfl ?_
              refine z_iconst zh dX6_readNumber_124 ki_2 ?_
              refine z_callVV zh mv_Reader_50 dX6_readNumber_125 ck_R rfl (s_X6_failHere g (ra_w rl_2 (by decide) (by decide)) hG hq) ⟨Nat.le_of_ble_eq_true rfl, Nat.le_of_ble_eq_true rfl⟩ rfl rfl (Nat.le_of_ble_eq_true rfl) ?_
              rintro iv lv hG
              exact J128 iv lv hG
          · have r24 : Ra 5 401 x13 := rb_lt_r rl_4 hx13 (rb_nle q14) (by decide)
            exact J99 iv lv hG em6 em7
      refine z_icmp_ge (tgt := 79) zh dX6_readNumber_19 rfl (fun q25 => ?_) (fun q25 => ?_)
      · exact J79 iv lv hG em4 ex5
      · have r26 : Ra 0 399 x2 := rb_lt_l hx5 hx2 (rb_nle q25) (by decide)
        have r27 : Ra 1 400 x5 := rb_lt_r hx2 hx5 (rb_nle q25) (by decide)
        refine z_aloadnR zh dX6_readNumber_22 rfl ?_
        refine z_getf zh fl_Reader_9 dX6_readNumber_23 ck_R rfl rfl ?_
        refine z_iload zh dX6_readNumber_26 rfl ?_
        refine y_iald zh ck_tape dX6_readNumber_28 r26 (by decide) (by decide) (fun x28 ex28 => ?_)
        refine z_bipush zh dX6_readNumber_29 kb_48 ?_
        refine z_bipush zh dX6_readNumber_31 kb_57 ?_
        refine z_callSI zh ms_Reader_84 dX6_readNumber_33 (s_X8_within g) ⟨Nat.le_of_ble_eq_true rfl, Nat.le_of_ble_eq_true rfl⟩ rfl rfl (Nat.le_of_ble_eq_true rfl) ?_
        rintro x29 _ _ ⟨rfl, rfl, hx29, hz30⟩
        refine z_if_eq (tgt := 79) zh dX6_readNumber_36 rfl (fun q31 => ?_) (fun q31 => ?_)
        · have r32 := rb_eq (u := 0) (v := 0) hx29 ra_z q31 (by decide) (by decide)
          exact J79 iv lv hG em4 ex5
        · have r33 : Ra 1 1 x29 := rb_ne_lo hx29 ra_z q31 (by decide)
          have r34 : Ra 48 57 x28 := (rb_in rl_48 rl_57 (hz30 q31))
          refine z_iload zh dX6_readNumber_39 rfl ?_
          refine z_aloadnR zh dX6_readNumber_41 rfl ?_
          refine z_getI (x := x1) zh fl_Reader_28 dX6_readNumber_42 ck_R rfl rfl em4 ?_
          refine y_isub zh dX6_readNumber_45 r26 hx1 (u := (-401)) (v := 399) rfl rfl (by decide) (by decide) (fun x35 hc35 hx35 => ?_)
          refine z_iconst zh dX6_readNumber_46 ki_4 ?_
          have J71 : ∀ (iv : Iv) (lv : Lv) (x36 : Int32), SI sp σ iv → iv 541 3 = x1 → iv 541 1 = x5 → Z 71 [some (rf g 541), some (.int a1), some (.int a2), some (.int a3), some (.int x2), some (.int x3)] [.int x36] iv lv := by
            intro iv lv x36 hG em37 em38
            refine z_istore zh dX6_readNumber_71 (by decide) (L' := [some (rf g 541), some (.int a1), some (.int a2), some (.int a3), some (.int x2), some (.int x36)]) rfl ?_
            refine y_iinc (L' := fun z => [some (rf g 541), some (.int a1), some (.int a2), some (.int a3), some (.int z), some (.int x36)]) zh dX6_readNumber_73 (by decide) rfl (by decide +kernel) r26 (u := 1) (v := 400) rfl rfl (by decide) (by decide) (fun _ => rfl) (fun x39 hc39 hx39 => ?_)
            refine z_goto (tgt := 13) zh dX6_readNumber_76 rfl ?_
            exact ih13 iv lv x39 x36 hG (ra_w hx39 (by decide) (by decide)) em37 (ms_up hc39 (by decide) hn13)
          refine z_icmp_ge (tgt := 69) zh dX6_readNumber_47 rfl (fun q40 => ?_) (fun q40 => ?_)
          · have r41 : Ra 4 399 x35 := rb_le_r rl_4 hx35 q40 (by decide)
            refine z_iload zh dX6_readNumber_69 rfl ?_
            exact J71 iv lv x3 hG em4 ex5
          · have r42 : Ra (-401) 3 x35 := rb_lt_l rl_4 hx35 (rb_nle q40) (by decide)
            refine z_iload zh dX6_readNumber_50 rfl ?_
            refine z_bipush zh dX6_readNumber_52 kb_10 ?_
            refine y_imulT zh dX6_readNumber_54 (fun x43 => ?_)
            refine z_aloadnR zh dX6_readNumber_55 rfl ?_
            refine z_getf zh fl_Reader_9 dX6_readNumber_56 ck_R rfl rfl ?_
            refine z_iload zh dX6_readNumber_59 rfl ?_
            refine y_iald zh ck_tape dX6_readNumber_61 r26 (by decide) (by decide) (fun x44 ex44 => ?_)
            refine y_iaddT zh dX6_readNumber_62 (fun x45 => ?_)
            refine z_bipush zh dX6_readNumber_63 kb_48 ?_
            refine y_isubT zh dX6_readNumber_65 (fun x46 => ?_)
            refine z_goto (tgt := 71) zh dX6_readNumber_66 rfl ?_
            exact J71 iv lv x46 hG em4 ex5
  exact J13 402 iv lv x1 (nI 0) hG hx1 ex1 (ms_u0 hx1 (by decide))
set_option maxRecDepth 20000 in
theorem s_X8_aged (g : GE) {sp : Nat → Nat → Bool} {σ : Iv} {iv : Iv} {lv : Lv} {a1 : Int32} {a2 : Int32}  (hG : SI sp σ iv)  : ConI g yX8_aged cX8_aged 3 (some .int) 3 [rf g 0, .int a1, .int a2] iv lv (fun r iv' lv' => iv = iv' ∧ lv = lv' ∧ True) := by
  refine con_intro (own := "RollingNets") (by decide +kernel) rfl (Nat.le_of_ble_eq_true rfl) (L0 := [some (rf g 0), some (.int a1), some (.int a2)]) rfl (fun Z zh => ?_)
  refine z_iloadn zh dX8_aged_0 rfl ?_
  refine z_callSI zh ms_RollingNets_68 dX8_aged_1 (s_X8_isIssue g  hG) ⟨Nat.le_of_ble_eq_true rfl, Nat.le_of_ble_eq_true rfl⟩ rfl rfl (Nat.le_of_ble_eq_true rfl) ?_
  rintro x1 _ _ ⟨rfl, rfl, hx1, hz2⟩
  refine z_if_eq (tgt := 17) zh dX8_aged_4 rfl (fun q3 => ?_) (fun q3 => ?_)
  · have r4 := rb_eq (u := 0) (v := 0) hx1 ra_z q3 (by decide) (by decide)
    refine z_iconst zh dX8_aged_17 ki_m1 ?_
    exact z_iret zh dX8_aged_18 ⟨_, rfl, rfl, rfl, trivial⟩
  · have r5 : Ra 1 1 x1 := rb_ne_lo hx1 ra_z q3 (by decide)
    have r6 : Ra 0 5 a1 := (hz2 q3)
    refine z_iloadn zh dX8_aged_7 rfl ?_
    refine z_iconst zh dX8_aged_8 ki_0 ?_
    refine z_bipush zh dX8_aged_9 kb_99 ?_
    refine z_callSI zh ms_RollingNets_43 dX8_aged_11 (s_X8_within g) ⟨Nat.le_of_ble_eq_true rfl, Nat.le_of_ble_eq_true rfl⟩ rfl rfl (Nat.le_of_ble_eq_true rfl) ?_
    rintro x7 _ _ ⟨rfl, rfl, hx7, hz8⟩
    refine z_if_ne (tgt := 19) zh dX8_aged_14 rfl (fun q9 => ?_) (fun q9 => ?_)
    · have r10 : Ra 1 1 x7 := rb_ne_lo hx7 ra_z q9 (by decide)
      have r11 : Ra 0 99 a2 := (rb_in rl_0 rl_99 (hz8 q9))
      refine z_aloadnR zh dX8_aged_19 rfl ?_
      refine z_getf zh fl_RollingNets_12 dX8_aged_20 ck_X rfl rfl ?_
      refine z_iloadn zh dX8_aged_23 rfl ?_
      refine z_iloadn zh dX8_aged_24 rfl ?_
      refine z_callSI zh ms_RollingNets_254 dX8_aged_25 (s_X0_agedShort g isH_1 r6 r11 hG) ⟨Nat.le_of_ble_eq_true rfl, Nat.le_of_ble_eq_true rfl⟩ rfl rfl (Nat.le_of_ble_eq_true rfl) ?_
      rintro x12 _ _ ⟨rfl, rfl, _⟩
      exact z_iret zh dX8_aged_28 ⟨_, rfl, rfl, rfl, trivial⟩
    · have r13 := rb_eq (u := 0) (v := 0) hx7 ra_z q9 (by decide) (by decide)
      refine z_iconst zh dX8_aged_17 ki_m1 ?_
      exact z_iret zh dX8_aged_18 ⟨_, rfl, rfl, rfl, trivial⟩
set_option maxRecDepth 20000 in
theorem s_X8_ahead (g : GE) {sp : Nat → Nat → Bool} {σ : Iv} {iv : Iv} {lv : Lv} {a1 : Int32} {a2 : Int32}  (hG : SI sp σ iv)  : ConI g yX8_ahead cX8_ahead 3 (some .int) 6 [rf g 0, .int a1, .int a2] iv lv (fun r iv lv => SI sp σ iv ∧ True) := by
  refine con_intro (own := "RollingNets") (by decide +kernel) rfl (Nat.le_of_ble_eq_true rfl) (L0 := [some (rf g 0), some (.int a1), some (.int a2)]) rfl (fun Z zh => ?_)
  refine z_aloadnR zh dX8_ahead_0 rfl ?_
  refine z_getf zh fl_RollingNets_12 dX8_ahead_1 ck_X rfl rfl ?_
  refine z_iloadn zh dX8_ahead_4 rfl ?_
  refine z_callVI zh mv_RollingNets_60 dX8_ahead_5 (ck_H isH_1) rfl (s_X1_hasMember g isH_1 hG) ⟨Nat.le_of_ble_eq_true rfl, Nat.le_of_ble_eq_true rfl⟩ rfl rfl (Nat.le_of_ble_eq_true rfl) ?_
  rintro x1 _ _ ⟨rfl, rfl, hx1, hz2⟩
  refine z_if_eq (tgt := 34) zh dX8_ahead_8 rfl (fun q3 => ?_) (fun q3 => ?_)
  · have r4 := rb_eq (u := 0) (v := 0) hx1 ra_z q3 (by decide) (by decide)
    refine z_iconst zh dX8_ahead_34 ki_m1 ?_
    exact z_iret zh dX8_ahead_35 ⟨_, rfl, hG, trivial⟩
  · have r5 : Ra 1 1 x1 := rb_ne_lo hx1 ra_z q3 (by decide)
    have r6 : Ra 0 11 a1 := (hz2 q3)
    refine z_iloadn zh dX8_ahead_11 rfl ?_
    refine z_callSI zh ms_RollingNets_68 dX8_ahead_12 (s_X8_isIssue g  hG) ⟨Nat.le_of_ble_eq_true rfl, Nat.le_of_ble_eq_true rfl⟩ rfl rfl (Nat.le_of_ble_eq_true rfl) ?_
    rintro x7 _ _ ⟨rfl, rfl, hx7, hz8⟩
    refine z_if_eq (tgt := 34) zh dX8_ahead_15 rfl (fun q9 => ?_) (fun q9 => ?_)
    · have r10 := rb_eq (u := 0) (v := 0) hx7 ra_z q9 (by decide) (by decide)
      refine z_iconst zh dX8_ahead_34 ki_m1 ?_
      exact z_iret zh dX8_ahead_35 ⟨_, rfl, hG, trivial⟩
    · have r11 : Ra 1 1 x7 := rb_ne_lo hx7 ra_z q9 (by decide)
      have r12 : Ra 0 5 a2 := (hz8 q9)
      refine z_aloadnR zh dX8_ahead_18 rfl ?_
      refine z_getf zh fl_RollingNets_12 dX8_ahead_19 ck_X rfl rfl ?_
      refine z_getf zh fl_RollingNets_72 dX8_ahead_22 (ck_H isH_1) rfl rfl ?_
      refine z_iloadn zh dX8_ahead_25 rfl ?_
      refine y_mald zh (ck_markets isH_1) dX8_ahead_26 r12 (by decide) (by decide) (fun j13 hj13 _ _ => ?_)
      refine z_iloadn zh dX8_ahead_27 rfl ?_
      refine z_callVI zh mv_RollingNets_263 dX8_ahead_28 (ck_M (isM_of isH_1 hj13)) rfl (s_X3_longOf g (isM_of isH_1 hj13) r6 hG) ⟨Nat.le_of_ble_eq_true rfl, Nat.le_of_ble_eq_true rfl⟩ rfl rfl (Nat.le_of_ble_eq_true rfl) ?_
      rintro x14 _ _ ⟨rfl, rfl, hx14⟩
      refine z_if_ne (tgt := 36) zh dX8_ahead_31 rfl (fun q15 => ?_) (fun q15 => ?_)
      · have r16 : Ra 1 2147483647 x14 := rb_ne_lo hx14 ra_z q15 (by decide)
        refine z_aloadnR zh dX8_ahead_36 rfl ?_
        refine z_getf zh fl_RollingNets_12 dX8_ahead_37 ck_X rfl rfl ?_
        refine z_iloadn zh dX8_ahead_40 rfl ?_
        refine z_iloadn zh dX8_ahead_41 rfl ?_
        refine z_callSI zh ms_RollingNets_267 dX8_ahead_42 (s_X0_aheadOf g isH_1 r6 r12 hG) ⟨Nat.le_of_ble_eq_true rfl, Nat.le_of_ble_eq_true rfl⟩ rfl rfl (Nat.le_of_ble_eq_true rfl) ?_
        rintro x17 iv lv ⟨hG, _⟩
        exact z_iret zh dX8_ahead_45 ⟨_, rfl, hG, trivial⟩
      · have r18 := rb_eq (u := 0) (v := 0) hx14 ra_z q15 (by decide) (by decide)
        refine z_iconst zh dX8_ahead_34 ki_m1 ?_
        exact z_iret zh dX8_ahead_35 ⟨_, rfl, hG, trivial⟩
set_option maxRecDepth 20000 in
theorem s_X8_apart (g : GE) {sp : Nat → Nat → Bool} {σ : Iv} {iv : Iv} {lv : Lv} {a1 : Int32} {a2 : Int32} {a3 : Int32} {a4 : Int32} {a5 : Int32}  (hG : SI sp σ iv) (hq : Sq sp) : ConI g yX8_apart cX8_apart 6 (some .int) 4 [rf g 0, .int a1, .int a2, .int a3, .int a4, .int a5] iv lv (fun r iv lv => SI sp σ iv ∧ Ra (-1) 199 r) := by
  refine con_intro (own := "RollingNets") (by decide +kernel) rfl (Nat.le_of_ble_eq_true rfl) (L0 := [some (rf g 0), some (.int a1), some (.int a2), some (.int a3), some (.int a4), some (.int a5)]) rfl (fun Z zh => ?_)
  refine z_aloadnR zh dX8_apart_0 rfl ?_
  refine z_getf zh fl_RollingNets_12 dX8_apart_1 ck_X rfl rfl ?_
  refine z_iloadn zh dX8_apart_4 rfl ?_
  refine z_iloadn zh dX8_apart_5 rfl ?_
  refine z_iloadn zh dX8_apart_6 rfl ?_
  refine z_iload zh dX8_apart_7 rfl ?_
  refine z_iload zh dX8_apart_9 rfl ?_
  refine z_iconst zh dX8_apart_11 ki_1 ?_
  refine z_callVI zh mv_RollingNets_95 dX8_apart_12 (ck_H isH_1) rfl (s_X1_addDeal g isH_1 (ra_w rl_1 (by decide) (by decide)) hG hq) ⟨Nat.le_of_ble_eq_true rfl, Nat.le_of_ble_eq_true rfl⟩ rfl rfl (Nat.le_of_ble_eq_true rfl) ?_
  rintro x1 iv lv ⟨hG, hx1⟩
  exact z_iret zh dX8_apart_15 ⟨_, rfl, hG, hx1⟩
set_option maxRecDepth 20000 in
theorem s_X8_at (g : GE) {sp : Nat → Nat → Bool} {σ : Iv} {iv : Iv} {lv : Lv} {a1 : Int32} {a2 : Int32} {a3 : Int32}  (hG : SI sp σ iv)  : ConI g yX8_at cX8_at 4 (some .int) 4 [rf g 0, .int a1, .int a2, .int a3] iv lv (fun r iv' lv' => iv = iv' ∧ lv = lv' ∧ True) := by
  refine con_intro (own := "RollingNets") (by decide +kernel) rfl (Nat.le_of_ble_eq_true rfl) (L0 := [some (rf g 0), some (.int a1), some (.int a2), some (.int a3)]) rfl (fun Z zh => ?_)
  refine z_aloadnR zh dX8_at_0 rfl ?_
  refine z_getf zh fl_RollingNets_12 dX8_at_1 ck_X rfl rfl ?_
  refine z_iloadn zh dX8_at_4 rfl ?_
  refine z_callVI zh mv_RollingNets_60 dX8_at_5 (ck_H isH_1) rfl (s_X1_hasMember g isH_1 hG) ⟨Nat.le_of_ble_eq_true rfl, Nat.le_of_ble_eq_true rfl⟩ rfl rfl (Nat.le_of_ble_eq_true rfl) ?_
  rintro x1 _ _ ⟨rfl, rfl, hx1, hz2⟩
  refine z_if_eq (tgt := 18) zh dX8_at_8 rfl (fun q3 => ?_) (fun q3 => ?_)
  · have r4 := rb_eq (u := 0) (v := 0) hx1 ra_z q3 (by decide) (by decide)
    refine z_ldc zh dX8_at_18 kc_RollingNets_194 ?_
    exact z_iret zh dX8_at_20 ⟨_, rfl, rfl, rfl, trivial⟩
  · have r5 : Ra 1 1 x1 := rb_ne_lo hx1 ra_z q3 (by decide)
    have r6 : Ra 0 11 a1 := (hz2 q3)
    refine z_iloadn zh dX8_at_11 rfl ?_
    refine z_callSI zh ms_RollingNets_68 dX8_at_12 (s_X8_isIssue g  hG) ⟨Nat.le_of_ble_eq_true rfl, Nat.le_of_ble_eq_true rfl⟩ rfl rfl (Nat.le_of_ble_eq_true rfl) ?_
    rintro x7 _ _ ⟨rfl, rfl, hx7, hz8⟩
    refine z_if_ne (tgt := 21) zh dX8_at_15 rfl (fun q9 => ?_) (fun q9 => ?_)
    · have r10 : Ra 1 1 x7 := rb_ne_lo hx7 ra_z q9 (by decide)
      have r11 : Ra 0 5 a2 := (hz8 q9)
      refine z_iloadn zh dX8_at_21 rfl ?_
      refine z_bipush zh dX8_at_22 kb_9 ?_
      refine z_icmp_ne (tgt := 44) zh dX8_at_24 rfl (fun q12 => ?_) (fun q12 => ?_)
      · refine z_aloadnR zh dX8_at_44 rfl ?_
        refine z_getf zh fl_RollingNets_12 dX8_at_45 ck_X rfl rfl ?_
        refine z_iloadn zh dX8_at_48 rfl ?_
        refine z_iloadn zh dX8_at_49 rfl ?_
        refine z_iloadn zh dX8_at_50 rfl ?_
        refine z_callVI zh mv_RollingNets_198 dX8_at_51 (ck_H isH_1) rfl (s_X1_holding g isH_1 r6 r11 hG) ⟨Nat.le_of_ble_eq_true rfl, Nat.le_of_ble_eq_true rfl⟩ rfl rfl (Nat.le_of_ble_eq_true rfl) ?_
        rintro x13 _ _ ⟨rfl, rfl, _⟩
        exact z_iret zh dX8_at_54 ⟨_, rfl, rfl, rfl, trivial⟩
      · have r14 := rb_eq (u := 9) (v := 9) (ra_tt a3) rl_9 q12 (by decide) (by decide)
        refine z_aloadnR zh dX8_at_27 rfl ?_
        refine z_getf zh fl_RollingNets_12 dX8_at_28 ck_X rfl rfl ?_
        refine z_getf zh fl_RollingNets_72 dX8_at_31 (ck_H isH_1) rfl rfl ?_
        refine z_iloadn zh dX8_at_34 rfl ?_
        refine y_mald zh (ck_markets isH_1) dX8_at_35 r11 (by decide) (by decide) (fun j15 hj15 _ _ => ?_)
        refine z_getf zh fl_RollingNets_195 dX8_at_36 (ck_M (isM_of isH_1 hj15)) rfl rfl ?_
        refine z_iloadn zh dX8_at_39 rfl ?_
        refine y_iald zh (ck_mi 5 (by decide) (isM_of isH_1 hj15)) dX8_at_40 r6 (by decide) (by decide) (fun x16 ex16 => ?_)
        refine z_goto (tgt := 54) zh dX8_at_41 rfl ?_
        exact z_iret zh dX8_at_54 ⟨_, rfl, rfl, rfl, trivial⟩
    · have r17 := rb_eq (u := 0) (v := 0) hx7 ra_z q9 (by decide) (by decide)
      refine z_ldc zh dX8_at_18 kc_RollingNets_194 ?_
      exact z_iret zh dX8_at_20 ⟨_, rfl, rfl, rfl, trivial⟩
set_option maxRecDepth 20000 in
theorem s_X8_book (g : GE) {sp : Nat → Nat → Bool} {σ : Iv} {iv : Iv} {lv : Lv} {a1 : Int32} {a2 : Int32}  (hG : SI sp σ iv)  : ConI g yX8_book cX8_book 3 (some .int) 2 [rf g 0, .int a1, .int a2] iv lv (fun r iv' lv' => iv = iv' ∧ lv = lv' ∧ True) := by
  refine con_intro (own := "RollingNets") (by decide +kernel) rfl (Nat.le_of_ble_eq_true rfl) (L0 := [some (rf g 0), some (.int a1), some (.int a2)]) rfl (fun Z zh => ?_)
  refine z_aloadnR zh dX8_book_0 rfl ?_
  refine z_getf zh fl_RollingNets_12 dX8_book_1 ck_X rfl rfl ?_
  refine z_getf zh fl_RollingNets_221 dX8_book_4 (ck_H isH_1) rfl rfl ?_
  refine z_iloadn zh dX8_book_7 rfl ?_
  refine z_iloadn zh dX8_book_8 rfl ?_
  obtain ⟨x1, ex1⟩ : ∃ z, iv (1 + 38) 2 = z := ⟨_, rfl⟩
  have hx1 : Ra 0 300 x1 := ra_of ex1 (si_T hG (isT_b isH_1))
  refine z_callVI zh mv_RollingNets_171 dX8_book_9 (ck_T (isT_b isH_1)) rfl (s_X7_get g (isT_b isH_1) ex1 hx1) ⟨Nat.le_of_ble_eq_true rfl, Nat.le_of_ble_eq_true rfl⟩ rfl rfl (Nat.le_of_ble_eq_true rfl) ?_
  rintro x2 _ _ ⟨rfl, rfl, gx2⟩
  exact z_iret zh dX8_book_12 ⟨_, rfl, rfl, rfl, trivial⟩
set_option maxRecDepth 20000 in
theorem s_X8_call (g : GE) {sp : Nat → Nat → Bool} {σ : Iv} {iv : Iv} {lv : Lv} {a1 : Int32}  (hG : SI sp σ iv) (hq : Sq sp) : ConI g yX8_call cX8_call 2 (some .int) 5 [rf g 0, .int a1] iv lv (fun r iv lv => SI sp σ iv ∧ Ra (-1) 59 r) := by
  refine con_intro (own := "RollingNets") (by decide +kernel) rfl (Nat.le_of_ble_eq_true rfl) (L0 := [some (rf g 0), some (.int a1)]) rfl (fun Z zh => ?_)
  refine z_aloadnR zh dX8_call_0 rfl ?_
  refine z_getf zh fl_RollingNets_12 dX8_call_1 ck_X rfl rfl ?_
  refine z_iloadn zh dX8_call_4 rfl ?_
  refine z_callSI zh ms_RollingNets_135 dX8_call_5 (s_X5_giveApart g isH_1 hG hq) ⟨Nat.le_of_ble_eq_true rfl, Nat.le_of_ble_eq_true rfl⟩ rfl rfl (Nat.le_of_ble_eq_true rfl) ?_
  rintro x1 iv lv ⟨hG, hx1⟩
  exact z_iret zh dX8_call_8 ⟨_, rfl, hG, hx1⟩
set_option maxRecDepth 20000 in
theorem s_X8_cash (g : GE) {sp : Nat → Nat → Bool} {σ : Iv} {iv : Iv} {lv : Lv} {a1 : Int32}  (hG : SI sp σ iv)  : ConL g yX8_cash cX8_cash 2 (some .long) 2 [rf g 0, .int a1] iv lv (fun r iv' lv' => iv = iv' ∧ lv = lv' ∧ True) := by
  refine con_intro (own := "RollingNets") (by decide +kernel) rfl (Nat.le_of_ble_eq_true rfl) (L0 := [some (rf g 0), some (.int a1)]) rfl (fun Z zh => ?_)
  refine z_aloadnR zh dX8_cash_0 rfl ?_
  refine z_getf zh fl_RollingNets_12 dX8_cash_1 ck_X rfl rfl ?_
  refine z_iloadn zh dX8_cash_4 rfl ?_
  refine z_callVI zh mv_RollingNets_60 dX8_cash_5 (ck_H isH_1) rfl (s_X1_hasMember g isH_1 hG) ⟨Nat.le_of_ble_eq_true rfl, Nat.le_of_ble_eq_true rfl⟩ rfl rfl (Nat.le_of_ble_eq_true rfl) ?_
  rintro x1 _ _ ⟨rfl, rfl, hx1, hz2⟩
  refine z_if_eq (tgt := 23) zh dX8_cash_8 rfl (fun q3 => ?_) (fun q3 => ?_)
  · have r4 := rb_eq (u := 0) (v := 0) hx1 ra_z q3 (by decide) (by decide)
    refine z_lconst (v := 0) zh dX8_cash_23 (by decide) ?_
    exact z_lret zh dX8_cash_24 ⟨_, rfl, rfl, rfl, trivial⟩
  · have r5 : Ra 1 1 x1 := rb_ne_lo hx1 ra_z q3 (by decide)
    have r6 : Ra 0 11 a1 := (hz2 q3)
    refine z_aloadnR zh dX8_cash_11 rfl ?_
    refine z_getf zh fl_RollingNets_12 dX8_cash_12 ck_X rfl rfl ?_
    refine z_getf zh fl_RollingNets_209 dX8_cash_15 (ck_H isH_1) rfl rfl ?_
    refine z_iloadn zh dX8_cash_18 rfl ?_
    refine y_lald zh (ck_cash isH_1) dX8_cash_19 r6 (by decide) (by decide) (fun l7 => ?_)
    refine z_goto (tgt := 24) zh dX8_cash_20 rfl ?_
    exact z_lret zh dX8_cash_24 ⟨_, rfl, rfl, rfl, trivial⟩
set_option maxRecDepth 20000 in
theorem s_X8_collateral (g : GE) {sp : Nat → Nat → Bool} {σ : Iv} {iv : Iv} {lv : Lv} {a1 : Int32} {a2 : Int32}  (hG : SI sp σ iv)  : ConI g yX8_collateral cX8_collateral 3 (some .boolean) 2 [rf g 0, .int a1, .int a2] iv lv (fun r iv lv => SI sp σ iv ∧ Ra 0 1 r ∧ (¬ r = 0 → Ra 0 11 a1) ∧ (¬ r = 0 → Ra 0 9999999 a2)) := by
  refine con_intro (own := "RollingNets") (by decide +kernel) rfl (Nat.le_of_ble_eq_true rfl) (L0 := [some (rf g 0), some (.int a1), some (.int a2)]) rfl (fun Z zh => ?_)
  refine z_aloadnR zh dX8_collateral_0 rfl ?_
  refine z_getf zh fl_RollingNets_12 dX8_collateral_1 ck_X rfl rfl ?_
  refine z_iloadn zh dX8_collateral_4 rfl ?_
  refine z_callVI zh mv_RollingNets_60 dX8_collateral_5 (ck_H isH_1) rfl (s_X1_hasMember g isH_1 hG) ⟨Nat.le_of_ble_eq_true rfl, Nat.le_of_ble_eq_true rfl⟩ rfl rfl (Nat.le_of_ble_eq_true rfl) ?_
  rintro x1 _ _ ⟨rfl, rfl, hx1, hz2⟩
  refine z_if_eq (tgt := 21) zh dX8_collateral_8 rfl (fun q3 => ?_) (fun q3 => ?_)
  · have r4 := rb_eq (u := 0) (v := 0) hx1 ra_z q3 (by decide) (by decide)
    refine z_iconst zh dX8_collateral_21 ki_0 ?_
    exact z_zret zh dX8_collateral_22 (ra_01 (ra_w rl_0 (by decide) (by decide))) ⟨_, rfl, hG, (ra_w rl_0 (by decide) (by decide)), (fun q => absurd rfl q), (fun q => absurd rfl q)⟩
  · have r5 : Ra 1 1 x1 := rb_ne_lo hx1 ra_z q3 (by decide)
    have r6 : Ra 0 11 a1 := (hz2 q3)
    refine z_iloadn zh dX8_collateral_11 rfl ?_
    refine z_iconst zh dX8_collateral_12 ki_0 ?_
    refine z_ldc zh dX8_collateral_13 kc_RollingNets_119 ?_
    refine z_callSI zh ms_RollingNets_43 dX8_collateral_15 (s_X8_within g) ⟨Nat.le_of_ble_eq_true rfl, Nat.le_of_ble_eq_true rfl⟩ rfl rfl (Nat.le_of_ble_eq_true rfl) ?_
    rintro x7 _ _ ⟨rfl, rfl, hx7, hz8⟩
    refine z_if_ne (tgt := 23) zh dX8_collateral_18 rfl (fun q9 => ?_) (fun q9 => ?_)
    · have r10 : Ra 1 1 x7 := rb_ne_lo hx7 ra_z q9 (by decide)
      have r11 : Ra 0 9999999 a2 := (rb_in rl_0 rl_9999999 (hz8 q9))
      refine z_aloadnR zh dX8_collateral_23 rfl ?_
      refine z_getf zh fl_RollingNets_12 dX8_collateral_24 ck_X rfl rfl ?_
      refine z_getf zh fl_RollingNets_120 dX8_collateral_27 (ck_H isH_1) rfl rfl ?_
      refine z_iloadn zh dX8_collateral_30 rfl ?_
      refine z_iloadn zh dX8_collateral_31 rfl ?_
      refine z_iast zh (ck_pledged isH_1) dX8_collateral_32 (ra_in r6 (by decide) (by decide)) ?_
      have hG : SI sp σ (upI iv (1 + 4) a1.toNatClampNeg a2) := si_wH hG isH_1 4 (by decide) rfl (rx_none rfl)
      generalize upI iv (1 + 4) a1.toNatClampNeg a2 = iv at hG  ⊢
      refine z_iconst zh dX8_collateral_33 ki_1 ?_
      exact z_zret zh dX8_collateral_34 (ra_01 (ra_w rl_1 (by decide) (by decide))) ⟨_, rfl, hG, (ra_w rl_1 (by decide) (by decide)), (fun _ => r6), (fun _ => r11)⟩
    · have r12 := rb_eq (u := 0) (v := 0) hx7 ra_z q9 (by decide) (by decide)
      refine z_iconst zh dX8_collateral_21 ki_0 ?_
      exact z_zret zh dX8_collateral_22 (ra_01 (ra_w rl_0 (by decide) (by decide))) ⟨_, rfl, hG, (ra_w rl_0 (by decide) (by decide)), (fun q => absurd rfl q), (fun q => absurd rfl q)⟩
set_option maxRecDepth 20000 in
theorem s_X8_deal (g : GE) {sp : Nat → Nat → Bool} {σ : Iv} {iv : Iv} {lv : Lv} {a1 : Int32} {a2 : Int32}  (hG : SI sp σ iv)  : ConI g yX8_deal cX8_deal 3 (some .int) 2 [rf g 0, .int a1, .int a2] iv lv (fun r iv' lv' => iv = iv' ∧ lv = lv' ∧ True) := by
  refine con_intro (own := "RollingNets") (by decide +kernel) rfl (Nat.le_of_ble_eq_true rfl) (L0 := [some (rf g 0), some (.int a1), some (.int a2)]) rfl (fun Z zh => ?_)
  refine z_aloadnR zh dX8_deal_0 rfl ?_
  refine z_getf zh fl_RollingNets_12 dX8_deal_1 ck_X rfl rfl ?_
  refine z_getf zh fl_RollingNets_47 dX8_deal_4 (ck_H isH_1) rfl rfl ?_
  refine z_iloadn zh dX8_deal_7 rfl ?_
  refine z_iloadn zh dX8_deal_8 rfl ?_
  obtain ⟨x1, ex1⟩ : ∃ z, iv (1 + 7) 2 = z := ⟨_, rfl⟩
  have hx1 : Ra 0 200 x1 := ra_of ex1 (si_T hG (isT_d isH_1))
  refine z_callVI zh mv_RollingNets_171 dX8_deal_9 (ck_T (isT_d isH_1)) rfl (s_X7_get g (isT_d isH_1) ex1 hx1) ⟨Nat.le_of_ble_eq_true rfl, Nat.le_of_ble_eq_true rfl⟩ rfl rfl (Nat.le_of_ble_eq_true rfl) ?_
  rintro x2 _ _ ⟨rfl, rfl, gx2⟩
  exact z_iret zh dX8_deal_12 ⟨_, rfl, rfl, rfl, trivial⟩
set_option maxRecDepth 20000 in
theorem s_X8_dividend (g : GE) {sp : Nat → Nat → Bool} {σ : Iv} {iv : Iv} {lv : Lv} {a1 : Int32} {a2 : Int32}  (hG : SI sp σ iv)  : ConI g yX8_dividend cX8_dividend 3 (some .boolean) 2 [rf g 0, .int a1, .int a2] iv lv (fun r iv lv => SI sp σ iv ∧ Ra 0 1 r ∧ (¬ r = 0 → Ra 0 5 a1) ∧ (¬ r = 0 → Ra 0 99 a2)) := by
  refine con_intro (own := "RollingNets") (by decide +kernel) rfl (Nat.le_of_ble_eq_true rfl) (L0 := [some (rf g 0), some (.int a1), some (.int a2)]) rfl (fun Z zh => ?_)
  refine z_iloadn zh dX8_dividend_0 rfl ?_
  refine z_callSI zh ms_RollingNets_68 dX8_dividend_1 (s_X8_isIssue g  hG) ⟨Nat.le_of_ble_eq_true rfl, Nat.le_of_ble_eq_true rfl⟩ rfl rfl (Nat.le_of_ble_eq_true rfl) ?_
  rintro x1 _ _ ⟨rfl, rfl, hx1, hz2⟩
  refine z_if_eq (tgt := 17) zh dX8_dividend_4 rfl (fun q3 => ?_) (fun q3 => ?_)
  · have r4 := rb_eq (u := 0) (v := 0) hx1 ra_z q3 (by decide) (by decide)
    refine z_iconst zh dX8_dividend_17 ki_0 ?_
    exact z_zret zh dX8_dividend_18 (ra_01 (ra_w rl_0 (by decide) (by decide))) ⟨_, rfl, hG, (ra_w rl_0 (by decide) (by decide)), (fun q => absurd rfl q), (fun q => absurd rfl q)⟩
  · have r5 : Ra 1 1 x1 := rb_ne_lo hx1 ra_z q3 (by decide)
    have r6 : Ra 0 5 a1 := (hz2 q3)
    refine z_iloadn zh dX8_dividend_7 rfl ?_
    refine z_iconst zh dX8_dividend_8 ki_0 ?_
    refine z_bipush zh dX8_dividend_9 kb_99 ?_
    refine z_callSI zh ms_RollingNets_43 dX8_dividend_11 (s_X8_within g) ⟨Nat.le_of_ble_eq_true rfl, Nat.le_of_ble_eq_true rfl⟩ rfl rfl (Nat.le_of_ble_eq_true rfl) ?_
    rintro x7 _ _ ⟨rfl, rfl, hx7, hz8⟩
    refine z_if_ne (tgt := 19) zh dX8_dividend_14 rfl (fun q9 => ?_) (fun q9 => ?_)
    · have r10 : Ra 1 1 x7 := rb_ne_lo hx7 ra_z q9 (by decide)
      have r11 : Ra 0 99 a2 := (rb_in rl_0 rl_99 (hz8 q9))
      refine z_aloadnR zh dX8_dividend_19 rfl ?_
      refine z_getf zh fl_RollingNets_12 dX8_dividend_20 ck_X rfl rfl ?_
      refine z_getf zh fl_RollingNets_72 dX8_dividend_23 (ck_H isH_1) rfl rfl ?_
      refine z_iloadn zh dX8_dividend_26 rfl ?_
      refine y_mald zh (ck_markets isH_1) dX8_dividend_27 r6 (by decide) (by decide) (fun j12 hj12 _ _ => ?_)
      refine z_iloadn zh dX8_dividend_28 rfl ?_
      refine z_putI zh fl_RollingNets_99 dX8_dividend_29 (ck_M (isM_of isH_1 hj12)) rfl rfl (Nat.le_of_ble_eq_true rfl) (Or.inl rfl) ?_
      have hG : SI sp σ (upI iv (1 + 60 + 20 * j12) 9 a2) := si_wM hG (isM_of isH_1 hj12) 0 (by decide) (rx_none rfl)
      have em13 : upI iv (1 + 60 + 20 * j12) 9 a2 (1 + 60 + 20 * j12) 9 = a2 := by rw [upI_at, if_pos ⟨rfl, rfl⟩]
      generalize upI iv (1 + 60 + 20 * j12) 9 a2 = iv at hG em13 ⊢
      refine z_iconst zh dX8_dividend_32 ki_1 ?_
      exact z_zret zh dX8_dividend_33 (ra_01 (ra_w rl_1 (by decide) (by decide))) ⟨_, rfl, hG, (ra_w rl_1 (by decide) (by decide)), (fun _ => r6), (fun _ => r11)⟩
    · have r14 := rb_eq (u := 0) (v := 0) hx7 ra_z q9 (by decide) (by decide)
      refine z_iconst zh dX8_dividend_17 ki_0 ?_
      exact z_zret zh dX8_dividend_18 (ra_01 (ra_w rl_0 (by decide) (by decide))) ⟨_, rfl, hG, (ra_w rl_0 (by decide) (by decide)), (fun q => absurd rfl q), (fun q => absurd rfl q)⟩
set_option maxRecDepth 20000 in
theorem s_X8_end (g : GE) {sp : Nat → Nat → Bool} {σ : Iv} {iv : Iv} {lv : Lv} {a1 : Int32}  (hG : SI sp σ iv) (hq : Sq sp) (hL : sp 541 1 = false) : ConI g yX8_end cX8_end 2 (some .boolean) 1 [rf g 0, .int a1] iv lv (fun r iv lv => SI sp σ iv ∧ Ra 0 1 r ∧ (¬ r = 0 → Ra 0 400 a1)) := by
  refine con_intro (own := "RollingNets") (by decide +kernel) rfl (Nat.le_of_ble_eq_true rfl) (L0 := [some (rf g 0), some (.int a1)]) rfl (fun Z zh => ?_)
  refine z_iloadn zh dX8_end_0 rfl ?_
  refine z_if_lt (tgt := 15) zh dX8_end_1 rfl (fun q1 => ?_) (fun q1 => ?_)
  · have r2 : Ra (-2147483648) (-1) a1 := rb_lt_l ra_z (ra_tt a1) q1 (by decide)
    refine z_iconst zh dX8_end_15 ki_0 ?_
    exact z_zret zh dX8_end_16 (ra_01 (ra_w rl_0 (by decide) (by decide))) ⟨_, rfl, hG, (ra_w rl_0 (by decide) (by decide)), (fun q => absurd rfl q)⟩
  · have r3 : Ra 0 2147483647 a1 := rb_le_r ra_z (ra_tt a1) (rb_nlt q1) (by decide)
    refine z_iloadn zh dX8_end_4 rfl ?_
    refine z_aloadnR zh dX8_end_5 rfl ?_
    refine z_getf zh fl_RollingNets_25 dX8_end_6 ck_X rfl rfl ?_
    refine y_getI zh fl_RollingNets_146 dX8_end_9 ck_R rfl rfl (fun x4 ex4 => ?_)
    have hx4 : Ra 0 400 x4 := ra_of ex4 (si_c hG (k := 541) (j := 1) rfl)
    refine z_icmp_le (tgt := 17) zh dX8_end_12 rfl (fun q5 => ?_) (fun q5 => ?_)
    · have r6 : Ra 0 400 a1 := rb_le_l hx4 r3 q5 (by decide)
      refine z_aloadnR zh dX8_end_17 rfl ?_
      refine z_getf zh fl_RollingNets_25 dX8_end_18 ck_X rfl rfl ?_
      refine z_iloadn zh dX8_end_21 rfl ?_
      refine z_putI zh fl_RollingNets_146 dX8_end_22 ck_R rfl rfl (Nat.le_of_ble_eq_true rfl) (Or.inl rfl) ?_
      have hG : SI sp σ (upI iv 541 1 a1) := si_w (k := 541) (j := 1) hG (by decide) (by decide) hL (rx_some r6)
      have em7 : upI iv 541 1 a1 541 1 = a1 := by rw [upI_at, if_pos ⟨rfl, rfl⟩]
      generalize upI iv 541 1 a1 = iv at hG em7 ⊢
      refine z_iconst zh dX8_end_25 ki_1 ?_
      exact z_zret zh dX8_end_26 (ra_01 (ra_w rl_1 (by decide) (by decide))) ⟨_, rfl, hG, (ra_w rl_1 (by decide) (by decide)), (fun _ => r6)⟩
    · have r8 : Ra 1 2147483647 a1 := rb_lt_r hx4 r3 (rb_nle q5) (by decide)
      refine z_iconst zh dX8_end_15 ki_0 ?_
      exact z_zret zh dX8_end_16 (ra_01 (ra_w rl_0 (by decide) (by decide))) ⟨_, rfl, hG, (ra_w rl_0 (by decide) (by decide)), (fun q => absurd rfl q)⟩
set_option maxRecDepth 20000 in
theorem s_X8_fault (g : GE) {sp : Nat → Nat → Bool} {σ : Iv} {iv : Iv} {lv : Lv} {a1 : Int32}  (hG : SI sp σ iv)  : ConI g yX8_fault cX8_fault 2 (some .int) 1 [rf g 0, .int a1] iv lv (fun r iv' lv' => iv = iv' ∧ lv = lv' ∧ True) := by
  refine con_intro (own := "RollingNets") (by decide +kernel) rfl (Nat.le_of_ble_eq_true rfl) (L0 := [some (rf g 0), some (.int a1)]) rfl (fun Z zh => ?_)
  refine z_iloadn zh dX8_fault_0 rfl ?_
  by_cases lq0 : a1.toInt = 0
  · have r1 : Ra 0 0 a1 := ⟨Int.le_of_eq lq0.symm, Int.le_of_eq lq0⟩
    refine z_lookup (off := 27) (tgt := 28) zh dX8_fault_1 (by decide) (by rw [lq0]; rfl) rfl ?_
    refine z_aloadnR zh dX8_fault_28 rfl ?_
    refine z_getf zh fl_RollingNets_25 dX8_fault_29 ck_X rfl rfl ?_
    refine y_getI zh fl_RollingNets_165 dX8_fault_32 ck_R rfl rfl (fun x2 ex2 => ?_)
    exact z_iret zh dX8_fault_35 ⟨_, rfl, rfl, rfl, trivial⟩
  · by_cases lq1 : a1.toInt = 1
    · have r3 : Ra 1 1 a1 := ⟨Int.le_of_eq lq1.symm, Int.le_of_eq lq1⟩
      refine z_lookup (off := 35) (tgt := 36) zh dX8_fault_1 (by decide) (by rw [lq1]; rfl) rfl ?_
      refine z_aloadnR zh dX8_fault_36 rfl ?_
      refine z_getf zh fl_RollingNets_25 dX8_fault_37 ck_X rfl rfl ?_
      refine y_getI zh fl_RollingNets_168 dX8_fault_40 ck_R rfl rfl (fun x4 ex4 => ?_)
      exact z_iret zh dX8_fault_43 ⟨_, rfl, rfl, rfl, trivial⟩
    · refine z_lookup (off := 43) (tgt := 44) zh dX8_fault_1 (by decide) (by simp [Op.lookupswitch.offset]; rw [if_neg (fun e => lq0 e.symm), if_neg (fun e => lq1 e.symm)]) rfl ?_
      refine z_iconst zh dX8_fault_44 ki_m1 ?_
      exact z_iret zh dX8_fault_45 ⟨_, rfl, rfl, rfl, trivial⟩
set_option maxRecDepth 20000 in
theorem s_X8_feed (g : GE) {sp : Nat → Nat → Bool} {σ : Iv} {iv : Iv} {lv : Lv} {a1 : Int32} {a2 : Int32} {a3 : Int32} {a4 : Int32} {a5 : Int32}  (hG : SI sp σ iv) (hq : Sq sp) (hL : sp 541 1 = false) : ConI g yX8_feed cX8_feed 6 (some .int) 2 [rf g 0, .int a1, .int a2, .int a3, .int a4, .int a5] iv lv (fun r iv lv => SI sp σ iv ∧ Ra (-1) 400 r) := by
  refine con_intro (own := "RollingNets") (by decide +kernel) rfl (Nat.le_of_ble_eq_true rfl) (L0 := [some (rf g 0), some (.int a1), some (.int a2), some (.int a3), some (.int a4), some (.int a5)]) rfl (fun Z zh => ?_)
  refine z_aloadnR zh dX8_feed_0 rfl ?_
  refine z_getf zh fl_RollingNets_25 dX8_feed_1 ck_X rfl rfl ?_
  refine z_callVI zh mv_RollingNets_138 dX8_feed_4 ck_R rfl (s_X6_hasRoom g  hG) ⟨Nat.le_of_ble_eq_true rfl, Nat.le_of_ble_eq_true rfl⟩ rfl rfl (Nat.le_of_ble_eq_true rfl) ?_
  rintro x1 _ _ ⟨rfl, rfl, hx1⟩
  refine z_if_ne (tgt := 12) zh dX8_feed_7 rfl (fun q2 => ?_) (fun q2 => ?_)
  · have r3 : Ra 1 1 x1 := rb_ne_lo hx1 ra_z q2 (by decide)
    refine z_aloadnR zh dX8_feed_12 rfl ?_
    refine z_getf zh fl_RollingNets_25 dX8_feed_13 ck_X rfl rfl ?_
    refine z_iloadn zh dX8_feed_16 rfl ?_
    refine z_callVV zh mv_RollingNets_142 dX8_feed_17 ck_R rfl (s_X6_append g  hG hq hL) ⟨Nat.le_of_ble_eq_true rfl, Nat.le_of_ble_eq_true rfl⟩ rfl rfl (Nat.le_of_ble_eq_true rfl) ?_
    rintro iv lv hG
    refine z_aloadnR zh dX8_feed_20 rfl ?_
    refine z_getf zh fl_RollingNets_25 dX8_feed_21 ck_X rfl rfl ?_
    refine z_iloadn zh dX8_feed_24 rfl ?_
    refine z_callVV zh mv_RollingNets_142 dX8_feed_25 ck_R rfl (s_X6_append g  hG hq hL) ⟨Nat.le_of_ble_eq_true rfl, Nat.le_of_ble_eq_true rfl⟩ rfl rfl (Nat.le_of_ble_eq_true rfl) ?_
    rintro iv lv hG
    refine z_aloadnR zh dX8_feed_28 rfl ?_
    refine z_getf zh fl_RollingNets_25 dX8_feed_29 ck_X rfl rfl ?_
    refine z_iloadn zh dX8_feed_32 rfl ?_
    refine z_callVV zh mv_RollingNets_142 dX8_feed_33 ck_R rfl (s_X6_append g  hG hq hL) ⟨Nat.le_of_ble_eq_true rfl, Nat.le_of_ble_eq_true rfl⟩ rfl rfl (Nat.le_of_ble_eq_true rfl) ?_
    rintro iv lv hG
    refine z_aloadnR zh dX8_feed_36 rfl ?_
    refine z_getf zh fl_RollingNets_25 dX8_feed_37 ck_X rfl rfl ?_
    refine z_iload zh dX8_feed_40 rfl ?_
    refine z_callVV zh mv_RollingNets_142 dX8_feed_42 ck_R rfl (s_X6_append g  hG hq hL) ⟨Nat.le_of_ble_eq_true rfl, Nat.le_of_ble_eq_true rfl⟩ rfl rfl (Nat.le_of_ble_eq_true rfl) ?_
    rintro iv lv hG
    refine z_aloadnR zh dX8_feed_45 rfl ?_
    refine z_getf zh fl_RollingNets_25 dX8_feed_46 ck_X rfl rfl ?_
    refine z_iload zh dX8_feed_49 rfl ?_
    refine z_callVV zh mv_RollingNets_142 dX8_feed_51 ck_R rfl (s_X6_append g  hG hq hL) ⟨Nat.le_of_ble_eq_true rfl, Nat.le_of_ble_eq_true rfl⟩ rfl rfl (Nat.le_of_ble_eq_true rfl) ?_
    rintro iv lv hG
    refine z_aloadnR zh dX8_feed_54 rfl ?_
    refine z_getf zh fl_RollingNets_25 dX8_feed_55 ck_X rfl rfl ?_
    refine y_getI zh fl_RollingNets_146 dX8_feed_58 ck_R rfl rfl (fun x4 ex4 => ?_)
    have hx4 : Ra 0 400 x4 := ra_of ex4 (si_c hG (k := 541) (j := 1) rfl)
    exact z_iret zh dX8_feed_61 ⟨_, rfl, hG, (ra_w hx4 (by decide) (by decide))⟩
  · have r5 := rb_eq (u := 0) (v := 0) hx1 ra_z q2 (by decide) (by decide)
    refine z_iconst zh dX8_feed_10 ki_m1 ?_
    exact z_iret zh dX8_feed_11 ⟨_, rfl, hG, (ra_w rl_n1 (by decide) (by decide))⟩
set_option maxRecDepth 20000 in
theorem s_X8_give (g : GE) {sp : Nat → Nat → Bool} {σ : Iv} {iv : Iv} {lv : Lv} {a1 : Int32} {a2 : Int32} {a3 : Int32}  (hG : SI sp σ iv) (hq : Sq sp) : ConI g yX8_give cX8_give 4 (some .int) 6 [rf g 0, .int a1, .int a2, .int a3] iv lv (fun r iv lv => SI sp σ iv ∧ Ra (-1) 59 r) := by
  refine con_intro (own := "RollingNets") (by decide +kernel) rfl (Nat.le_of_ble_eq_true rfl) (L0 := [some (rf g 0), some (.int a1), some (.int a2), some (.int a3)]) rfl (fun Z zh => ?_)
  refine z_aloadnR zh dX8_give_0 rfl ?_
  refine z_getf zh fl_RollingNets_12 dX8_give_1 ck_X rfl rfl ?_
  refine z_iloadn zh dX8_give_4 rfl ?_
  refine z_iloadn zh dX8_give_5 rfl ?_
  refine z_iloadn zh dX8_give_6 rfl ?_
  refine z_callSI zh ms_RollingNets_129 dX8_give_7 (s_X5_giveNet g isH_1 hG hq) ⟨Nat.le_of_ble_eq_true rfl, Nat.le_of_ble_eq_true rfl⟩ rfl rfl (Nat.le_of_ble_eq_true rfl) ?_
  rintro x1 iv lv ⟨hG, hx1⟩
  exact z_iret zh dX8_give_10 ⟨_, rfl, hG, hx1⟩
set_option maxRecDepth 20000 in
theorem s_X8_issue (g : GE) {sp : Nat → Nat → Bool} {σ : Iv} {iv : Iv} {lv : Lv} {a1 : Int32} {a2 : Int32}  (hG : SI sp σ iv)  : ConI g yX8_issue cX8_issue 3 (some .int) 4 [rf g 0, .int a1, .int a2] iv lv (fun r iv' lv' => iv = iv' ∧ lv = lv' ∧ True) := by
  refine con_intro (own := "RollingNets") (by decide +kernel) rfl (Nat.le_of_ble_eq_true rfl) (L0 := [some (rf g 0), some (.int a1), some (.int a2)]) rfl (fun Z zh => ?_)
  refine z_iloadn zh dX8_issue_0 rfl ?_
  refine z_callSI zh ms_RollingNets_68 dX8_issue_1 (s_X8_isIssue g  hG) ⟨Nat.le_of_ble_eq_true rfl, Nat.le_of_ble_eq_true rfl⟩ rfl rfl (Nat.le_of_ble_eq_true rfl) ?_
  rintro x1 _ _ ⟨rfl, rfl, hx1, hz2⟩
  refine z_if_eq (tgt := 19) zh dX8_issue_4 rfl (fun q3 => ?_) (fun q3 => ?_)
  · have r4 := rb_eq (u := 0) (v := 0) hx1 ra_z q3 (by decide) (by decide)
    refine z_iconst zh dX8_issue_19 ki_m1 ?_
    exact z_iret zh dX8_issue_20 ⟨_, rfl, rfl, rfl, trivial⟩
  · have r5 : Ra 1 1 x1 := rb_ne_lo hx1 ra_z q3 (by decide)
    have r6 : Ra 0 5 a1 := (hz2 q3)
    refine z_aloadnR zh dX8_issue_7 rfl ?_
    refine z_getf zh fl_RollingNets_12 dX8_issue_8 ck_X rfl rfl ?_
    refine z_iloadn zh dX8_issue_11 rfl ?_
    refine z_iloadn zh dX8_issue_12 rfl ?_
    refine z_callSI zh ms_RollingNets_215 dX8_issue_13 (s_X0_ofIssue g isH_1 r6 hG) ⟨Nat.le_of_ble_eq_true rfl, Nat.le_of_ble_eq_true rfl⟩ rfl rfl (Nat.le_of_ble_eq_true rfl) ?_
    rintro x7 _ _ ⟨rfl, rfl, _⟩
    refine z_goto (tgt := 20) zh dX8_issue_16 rfl ?_
    exact z_iret zh dX8_issue_20 ⟨_, rfl, rfl, rfl, trivial⟩
set_option maxRecDepth 20000 in
theorem s_X8_look (g : GE) {sp : Nat → Nat → Bool} {σ : Iv} {iv : Iv} {lv : Lv} {a1 : Int32}  (hG : SI sp σ iv)  : ConI g yX8_look cX8_look 2 (some .int) 5 [rf g 0, .int a1] iv lv (fun r iv' lv' => iv = iv' ∧ lv = lv' ∧ True) := by
  refine con_intro (own := "RollingNets") (by decide +kernel) rfl (Nat.le_of_ble_eq_true rfl) (L0 := [some (rf g 0), some (.int a1)]) rfl (fun Z zh => ?_)
  refine z_iloadn zh dX8_look_0 rfl ?_
  have J19 : Z 19 [some (rf g 0), some (.int a1)] [] iv lv := by
    refine z_iloadn zh dX8_look_19 rfl ?_
    by_cases q1 : 6 ≤ a1.toInt ∧ a1.toInt ≤ 19
    · obtain ⟨jw, hjw, hkw⟩ : ∃ jw : Nat, jw ≤ 13 ∧ a1.toInt = 6 + (jw : Int) := ⟨(a1.toInt - 6).toNat, by omega, by omega⟩
      rcases (by omega : jw = 0 ∨ jw = 1 ∨ jw = 2 ∨ jw = 3 ∨ jw = 4 ∨ jw = 5 ∨ jw = 6 ∨ jw = 7 ∨ jw = 8 ∨ jw = 9 ∨ jw = 10 ∨ jw = 11 ∨ jw = 12 ∨ jw = 13) with rfl | rfl | rfl | rfl | rfl | rfl | rfl | rfl | rfl | rfl | rfl | rfl | rfl | rfl
      · have r3 : Ra 6 6 a1 := sw_ra hkw rfl
        refine z_tabIn (off := 72) (tgt := 92) zh dX8_look_20 (sw_lo r3 (by decide)) (sw_hi r3 (by decide)) (sw_at r3 (by decide)) rfl ?_
        refine z_aloadnR zh dX8_look_92 rfl ?_
        refine z_getf zh fl_RollingNets_12 dX8_look_93 ck_X rfl rfl ?_
        refine y_getI zh fl_RollingNets_261 dX8_look_96 (ck_H isH_1) rfl rfl (fun x4 ex4 => ?_)
        have hx4 : Ra 0 99 x4 := ra_of ex4 (si_H hG isH_1 0 (by decide) rfl)
        exact z_iret zh dX8_look_99 ⟨_, rfl, rfl, rfl, trivial⟩
      · have r5 : Ra 7 7 a1 := sw_ra hkw rfl
        refine z_tabIn (off := 80) (tgt := 100) zh dX8_look_20 (sw_lo r5 (by decide)) (sw_hi r5 (by decide)) (sw_at r5 (by decide)) rfl ?_
        refine z_aloadnR zh dX8_look_100 rfl ?_
        refine z_getf zh fl_RollingNets_12 dX8_look_101 ck_X rfl rfl ?_
        refine z_getf zh fl_RollingNets_47 dX8_look_104 (ck_H isH_1) rfl rfl ?_
        obtain ⟨x6, ex6⟩ : ∃ z, iv (1 + 7) 2 = z := ⟨_, rfl⟩
        have hx6 : Ra 0 200 x6 := ra_of ex6 (si_T hG (isT_d isH_1))
        refine z_callVIp zh mv_RollingNets_51 dX8_look_107 (ck_T (isT_d isH_1)) rfl (s_X7_size g (isT_d isH_1) ex6) ⟨Nat.le_of_ble_eq_true rfl, Nat.le_of_ble_eq_true rfl⟩ rfl rfl (Nat.le_of_ble_eq_true rfl) ?_
        exact z_iret zh dX8_look_110 ⟨_, rfl, rfl, rfl, trivial⟩
      · have r7 : Ra 8 8 a1 := sw_ra hkw rfl
        refine z_tabIn (off := 91) (tgt := 111) zh dX8_look_20 (sw_lo r7 (by decide)) (sw_hi r7 (by decide)) (sw_at r7 (by decide)) rfl ?_
        refine z_aloadnR zh dX8_look_111 rfl ?_
        refine z_getf zh fl_RollingNets_12 dX8_look_112 ck_X rfl rfl ?_
        refine z_getf zh fl_RollingNets_212 dX8_look_115 (ck_H isH_1) rfl rfl ?_
        obtain ⟨x8, ex8⟩ : ∃ z, iv (1 + 17) 2 = z := ⟨_, rfl⟩
        have hx8 : Ra 0 60 x8 := ra_of ex8 (si_T hG (isT_n isH_1))
        refine z_callVIp zh mv_RollingNets_51 dX8_look_118 (ck_T (isT_n isH_1)) rfl (s_X7_size g (isT_n isH_1) ex8) ⟨Nat.le_of_ble_eq_true rfl, Nat.le_of_ble_eq_true rfl⟩ rfl rfl (Nat.le_of_ble_eq_true rfl) ?_
        exact z_iret zh dX8_look_121 ⟨_, rfl, rfl, rfl, trivial⟩
      · have r9 : Ra 9 9 a1 := sw_ra hkw rfl
        refine z_tabIn (off := 102) (tgt := 122) zh dX8_look_20 (sw_lo r9 (by decide)) (sw_hi r9 (by decide)) (sw_at r9 (by decide)) rfl ?_
        refine z_aloadnR zh dX8_look_122 rfl ?_
        refine z_getf zh fl_RollingNets_12 dX8_look_123 ck_X rfl rfl ?_
        refine z_callSI zh ms_RollingNets_281 dX8_look_126 (s_X0_openNotices g isH_1 hG) ⟨Nat.le_of_ble_eq_true rfl, Nat.le_of_ble_eq_true rfl⟩ rfl rfl (Nat.le_of_ble_eq_true rfl) ?_
        rintro x10 _ _ ⟨rfl, rfl, _⟩
        exact z_iret zh dX8_look_129 ⟨_, rfl, rfl, rfl, trivial⟩
      · have r11 : Ra 10 10 a1 := sw_ra hkw rfl
        refine z_tabIn (off := 110) (tgt := 130) zh dX8_look_20 (sw_lo r11 (by decide)) (sw_hi r11 (by decide)) (sw_at r11 (by decide)) rfl ?_
        refine z_aloadnR zh dX8_look_130 rfl ?_
        refine z_getf zh fl_RollingNets_12 dX8_look_131 ck_X rfl rfl ?_
        refine z_getf zh fl_RollingNets_221 dX8_look_134 (ck_H isH_1) rfl rfl ?_
        obtain ⟨x12, ex12⟩ : ∃ z, iv (1 + 38) 2 = z := ⟨_, rfl⟩
        have hx12 : Ra 0 300 x12 := ra_of ex12 (si_T hG (isT_b isH_1))
        refine z_callVIp zh mv_RollingNets_51 dX8_look_137 (ck_T (isT_b isH_1)) rfl (s_X7_size g (isT_b isH_1) ex12) ⟨Nat.le_of_ble_eq_true rfl, Nat.le_of_ble_eq_true rfl⟩ rfl rfl (Nat.le_of_ble_eq_true rfl) ?_
        exact z_iret zh dX8_look_140 ⟨_, rfl, rfl, rfl, trivial⟩
      · have r13 : Ra 11 11 a1 := sw_ra hkw rfl
        refine z_tabIn (off := 121) (tgt := 141) zh dX8_look_20 (sw_lo r13 (by decide)) (sw_hi r13 (by decide)) (sw_at r13 (by decide)) rfl ?_
        refine z_aloadnR zh dX8_look_141 rfl ?_
        refine z_getf zh fl_RollingNets_12 dX8_look_142 ck_X rfl rfl ?_
        refine y_getL zh fl_RollingNets_284 dX8_look_145 (ck_H isH_1) rfl rfl (fun l14 => ?_)
        refine y_l2i zh dX8_look_148 (fun x15 => ?_)
        exact z_iret zh dX8_look_149 ⟨_, rfl, rfl, rfl, trivial⟩
      · have r16 : Ra 12 12 a1 := sw_ra hkw rfl
        refine z_tabIn (off := 130) (tgt := 150) zh dX8_look_20 (sw_lo r16 (by decide)) (sw_hi r16 (by decide)) (sw_at r16 (by decide)) rfl ?_
        refine z_aloadnR zh dX8_look_150 rfl ?_
        refine z_getf zh fl_RollingNets_12 dX8_look_151 ck_X rfl rfl ?_
        refine z_callSL zh ms_RollingNets_288 dX8_look_154 (s_X0_allCash g isH_1 hG) ⟨Nat.le_of_ble_eq_true rfl, Nat.le_of_ble_eq_true rfl⟩ rfl rfl (Nat.le_of_ble_eq_true rfl) ?_
        rintro l17 _ _ ⟨rfl, rfl, _⟩
        refine y_l2i zh dX8_look_157 (fun x18 => ?_)
        exact z_iret zh dX8_look_158 ⟨_, rfl, rfl, rfl, trivial⟩
      · have r19 : Ra 13 13 a1 := sw_ra hkw rfl
        refine z_tabIn (off := 139) (tgt := 159) zh dX8_look_20 (sw_lo r19 (by decide)) (sw_hi r19 (by decide)) (sw_at r19 (by decide)) rfl ?_
        refine z_aloadnR zh dX8_look_159 rfl ?_
        refine z_getf zh fl_RollingNets_12 dX8_look_160 ck_X rfl rfl ?_
        refine z_getf zh fl_RollingNets_152 dX8_look_163 (ck_H isH_1) rfl rfl ?_
        obtain ⟨x20, ex20⟩ : ∃ z, iv (1 + 46) 2 = z := ⟨_, rfl⟩
        have hx20 : Ra 0 24 x20 := ra_of ex20 (si_T hG (isT_p isH_1))
        refine z_callVIp zh mv_RollingNets_51 dX8_look_166 (ck_T (isT_p isH_1)) rfl (s_X7_size g (isT_p isH_1) ex20) ⟨Nat.le_of_ble_eq_true rfl, Nat.le_of_ble_eq_true rfl⟩ rfl rfl (Nat.le_of_ble_eq_true rfl) ?_
        exact z_iret zh dX8_look_169 ⟨_, rfl, rfl, rfl, trivial⟩
      · have r21 : Ra 14 14 a1 := sw_ra hkw rfl
        refine z_tabIn (off := 150) (tgt := 170) zh dX8_look_20 (sw_lo r21 (by decide)) (sw_hi r21 (by decide)) (sw_at r21 (by decide)) rfl ?_
        refine z_aloadnR zh dX8_look_170 rfl ?_
        refine z_getf zh fl_RollingNets_12 dX8_look_171 ck_X rfl rfl ?_
        refine y_getI zh fl_RollingNets_162 dX8_look_174 (ck_H isH_1) rfl rfl (fun x22 ex22 => ?_)
        exact z_iret zh dX8_look_177 ⟨_, rfl, rfl, rfl, trivial⟩
      · have r23 : Ra 15 15 a1 := sw_ra hkw rfl
        refine z_tabIn (off := 158) (tgt := 178) zh dX8_look_20 (sw_lo r23 (by decide)) (sw_hi r23 (by decide)) (sw_at r23 (by decide)) rfl ?_
        refine z_aloadnR zh dX8_look_178 rfl ?_
        refine z_getf zh fl_RollingNets_12 dX8_look_179 ck_X rfl rfl ?_
        refine z_iconst zh dX8_look_182 ki_m1 ?_
        refine z_iconst zh dX8_look_183 ki_0 ?_
        refine z_bipush zh dX8_look_184 kb_7 ?_
        refine z_callSI zh ms_RollingNets_292 dX8_look_186 (s_X0_overDeals g isH_1 (ra_w rl_n1 (by decide) (by decide)) (ra_w rl_0 (by decide) (by decide)) (ra_w rl_7 (by decide) (by decide)) hG) ⟨Nat.le_of_ble_eq_true rfl, Nat.le_of_ble_eq_true rfl⟩ rfl rfl (Nat.le_of_ble_eq_true rfl) ?_
        rintro x24 _ _ ⟨rfl, rfl, _⟩
        exact z_iret zh dX8_look_189 ⟨_, rfl, rfl, rfl, trivial⟩
      · have r25 : Ra 16 16 a1 := sw_ra hkw rfl
        refine z_tabIn (off := 170) (tgt := 190) zh dX8_look_20 (sw_lo r25 (by decide)) (sw_hi r25 (by decide)) (sw_at r25 (by decide)) rfl ?_
        refine z_aloadnR zh dX8_look_190 rfl ?_
        refine z_getf zh fl_RollingNets_12 dX8_look_191 ck_X rfl rfl ?_
        refine z_callSI zh ms_RollingNets_295 dX8_look_194 (s_X0_lacking g isH_1 hG) ⟨Nat.le_of_ble_eq_true rfl, Nat.le_of_ble_eq_true rfl⟩ rfl rfl (Nat.le_of_ble_eq_true rfl) ?_
        rintro x26 _ _ ⟨rfl, rfl, _⟩
        exact z_iret zh dX8_look_197 ⟨_, rfl, rfl, rfl, trivial⟩
      · have r27 : Ra 17 17 a1 := sw_ra hkw rfl
        refine z_tabIn (off := 178) (tgt := 198) zh dX8_look_20 (sw_lo r27 (by decide)) (sw_hi r27 (by decide)) (sw_at r27 (by decide)) rfl ?_
        refine z_aloadnR zh dX8_look_198 rfl ?_
        refine z_getf zh fl_RollingNets_12 dX8_look_199 ck_X rfl rfl ?_
        refine z_callSI zh ms_RollingNets_298 dX8_look_202 (s_X0_suspendedSet g isH_1 hG) ⟨Nat.le_of_ble_eq_true rfl, Nat.le_of_ble_eq_true rfl⟩ rfl rfl (Nat.le_of_ble_eq_true rfl) ?_
        rintro x28 _ _ ⟨rfl, rfl, _⟩
        exact z_iret zh dX8_look_205 ⟨_, rfl, rfl, rfl, trivial⟩
      · have r29 : Ra 18 18 a1 := sw_ra hkw rfl
        refine z_tabIn (off := 186) (tgt := 206) zh dX8_look_20 (sw_lo r29 (by decide)) (sw_hi r29 (by decide)) (sw_at r29 (by decide)) rfl ?_
        refine z_aloadnR zh dX8_look_206 rfl ?_
        refine z_getf zh fl_RollingNets_12 dX8_look_207 ck_X rfl rfl ?_
        refine z_callSI zh ms_RollingNets_301 dX8_look_210 (s_X0_shortSet g isH_1 hG) ⟨Nat.le_of_ble_eq_true rfl, Nat.le_of_ble_eq_true rfl⟩ rfl rfl (Nat.le_of_ble_eq_true rfl) ?_
        rintro x30 _ _ ⟨rfl, rfl, _⟩
        exact z_iret zh dX8_look_213 ⟨_, rfl, rfl, rfl, trivial⟩
      · have r31 : Ra 19 19 a1 := sw_ra hkw rfl
        refine z_tabIn (off := 194) (tgt := 214) zh dX8_look_20 (sw_lo r31 (by decide)) (sw_hi r31 (by decide)) (sw_at r31 (by decide)) rfl ?_
        refine z_aloadnR zh dX8_look_214 rfl ?_
        refine z_getf zh fl_RollingNets_12 dX8_look_215 ck_X rfl rfl ?_
        refine z_getf zh fl_RollingNets_57 dX8_look_218 (ck_H isH_1) rfl rfl ?_
        refine z_bipush zh dX8_look_221 kb_6 ?_
        refine y_ialdN zh (ck_told isH_1) dX8_look_223 (by decide) (fun x32 ex32 => ?_)
        exact z_iret zh dX8_look_224 ⟨_, rfl, rfl, rfl, trivial⟩
    · refine z_tabOut (tgt := 225) zh dX8_look_20 (sw_out q1) rfl ?_
      refine z_ldc zh dX8_look_225 kc_RollingNets_194 ?_
      exact z_iret zh dX8_look_227 ⟨_, rfl, rfl, rfl, trivial⟩
  refine z_if_lt (tgt := 19) zh dX8_look_1 rfl (fun q33 => ?_) (fun q33 => ?_)
  · have r34 : Ra (-2147483648) (-1) a1 := rb_lt_l ra_z (ra_tt a1) q33 (by decide)
    exact J19
  · have r35 : Ra 0 2147483647 a1 := rb_le_r ra_z (ra_tt a1) (rb_nlt q33) (by decide)
    refine z_iloadn zh dX8_look_4 rfl ?_
    refine z_iconst zh dX8_look_5 ki_5 ?_
    refine z_icmp_gt (tgt := 19) zh dX8_look_6 rfl (fun q36 => ?_) (fun q36 => ?_)
    · have r37 : Ra 6 2147483647 a1 := rb_lt_r rl_5 r35 q36 (by decide)
      exact J19
    · have r38 : Ra 0 5 a1 := rb_le_l rl_5 r35 (rb_nlt q36) (by decide)
      refine z_aloadnR zh dX8_look_9 rfl ?_
      refine z_getf zh fl_RollingNets_12 dX8_look_10 ck_X rfl rfl ?_
      refine z_getf zh fl_RollingNets_57 dX8_look_13 (ck_H isH_1) rfl rfl ?_
      refine z_iloadn zh dX8_look_16 rfl ?_
      refine y_iald zh (ck_told isH_1) dX8_look_17 r38 (by decide) (by decide) (fun x39 ex39 => ?_)
      exact z_iret zh dX8_look_18 ⟨_, rfl, rfl, rfl, trivial⟩
set_option maxRecDepth 20000 in
theorem s_X8_lot (g : GE) {sp : Nat → Nat → Bool} {σ : Iv} {iv : Iv} {lv : Lv} {a1 : Int32} {a2 : Int32} {a3 : Int32} {a4 : Int32}  (hG : SI sp σ iv)  : ConI g yX8_lot cX8_lot 7 (some .int) 2 [rf g 0, .int a1, .int a2, .int a3, .int a4] iv lv (fun r iv' lv' => iv = iv' ∧ lv = lv' ∧ True) := by
  refine con_intro (own := "RollingNets") (by decide +kernel) rfl (Nat.le_of_ble_eq_true rfl) (L0 := [some (rf g 0), some (.int a1), some (.int a2), some (.int a3), some (.int a4), none, none]) rfl (fun Z zh => ?_)
  refine z_aloadnR zh dX8_lot_0 rfl ?_
  refine z_getf zh fl_RollingNets_12 dX8_lot_1 ck_X rfl rfl ?_
  refine z_iloadn zh dX8_lot_4 rfl ?_
  refine z_callVI zh mv_RollingNets_60 dX8_lot_5 (ck_H isH_1) rfl (s_X1_hasMember g isH_1 hG) ⟨Nat.le_of_ble_eq_true rfl, Nat.le_of_ble_eq_true rfl⟩ rfl rfl (Nat.le_of_ble_eq_true rfl) ?_
  rintro x1 _ _ ⟨rfl, rfl, hx1, hz2⟩
  refine z_if_eq (tgt := 18) zh dX8_lot_8 rfl (fun q3 => ?_) (fun q3 => ?_)
  · have r4 := rb_eq (u := 0) (v := 0) hx1 ra_z q3 (by decide) (by decide)
    refine z_iconst zh dX8_lot_18 ki_m1 ?_
    exact z_iret zh dX8_lot_19 ⟨_, rfl, rfl, rfl, trivial⟩
  · have r5 : Ra 1 1 x1 := rb_ne_lo hx1 ra_z q3 (by decide)
    have r6 : Ra 0 11 a1 := (hz2 q3)
    refine z_iloadn zh dX8_lot_11 rfl ?_
    refine z_callSI zh ms_RollingNets_68 dX8_lot_12 (s_X8_isIssue g  hG) ⟨Nat.le_of_ble_eq_true rfl, Nat.le_of_ble_eq_true rfl⟩ rfl rfl (Nat.le_of_ble_eq_true rfl) ?_
    rintro x7 _ _ ⟨rfl, rfl, hx7, hz8⟩
    refine z_if_ne (tgt := 20) zh dX8_lot_15 rfl (fun q9 => ?_) (fun q9 => ?_)
    · have r10 : Ra 1 1 x7 := rb_ne_lo hx7 ra_z q9 (by decide)
      have r11 : Ra 0 5 a2 := (hz8 q9)
      refine z_aloadnR zh dX8_lot_20 rfl ?_
      refine z_getf zh fl_RollingNets_12 dX8_lot_21 ck_X rfl rfl ?_
      refine z_getf zh fl_RollingNets_72 dX8_lot_24 (ck_H isH_1) rfl rfl ?_
      refine z_iloadn zh dX8_lot_27 rfl ?_
      refine y_mald zh (ck_markets isH_1) dX8_lot_28 r11 (by decide) (by decide) (fun j12 hj12 _ _ => ?_)
      refine z_astore zh dX8_lot_29 (by decide) (L' := [some (rf g 0), some (.int a1), some (.int a2), some (.int a3), some (.int a4), some (rf g (1 + 60 + 20 * j12)), none]) rfl ?_
      refine z_aloadR zh dX8_lot_31 rfl ?_
      refine z_iloadn zh dX8_lot_33 rfl ?_
      refine z_iloadn zh dX8_lot_34 rfl ?_
      refine z_callVI zh mv_RollingNets_202 dX8_lot_35 (ck_M (isM_of isH_1 hj12)) rfl (s_X3_dayOfLot g (isM_of isH_1 hj12) r6 hG) ⟨Nat.le_of_ble_eq_true rfl, Nat.le_of_ble_eq_true rfl⟩ rfl rfl (Nat.le_of_ble_eq_true rfl) ?_
      rintro x13 _ _ ⟨rfl, rfl, hx13⟩
      refine z_istore zh dX8_lot_38 (by decide) (L' := [some (rf g 0), some (.int a1), some (.int a2), some (.int a3), some (.int a4), some (rf g (1 + 60 + 20 * j12)), some (.int x13)]) rfl ?_
      refine z_iload zh dX8_lot_40 rfl ?_
      refine z_iconst zh dX8_lot_42 ki_m1 ?_
      refine z_icmp_ne (tgt := 48) zh dX8_lot_43 rfl (fun q14 => ?_) (fun q14 => ?_)
      · have r15 : Ra 0 99 x13 := rb_ne_lo hx13 rl_n1 q14 (by decide)
        refine z_iload zh dX8_lot_48 rfl ?_
        by_cases lq0 : a4.toInt = 0
        · have r16 : Ra 0 0 a4 := ⟨Int.le_of_eq lq0.symm, Int.le_of_eq lq0⟩
          refine z_lookup (off := 26) (tgt := 76) zh dX8_lot_50 (by decide) (by rw [lq0]; rfl) rfl ?_
          refine z_iload zh dX8_lot_76 rfl ?_
          exact z_iret zh dX8_lot_78 ⟨_, rfl, rfl, rfl, trivial⟩
        · by_cases lq1 : a4.toInt = 1
          · have r17 : Ra 1 1 a4 := ⟨Int.le_of_eq lq1.symm, Int.le_of_eq lq1⟩
            refine z_lookup (off := 29) (tgt := 79) zh dX8_lot_50 (by decide) (by rw [lq1]; rfl) rfl ?_
            refine z_aloadR zh dX8_lot_79 rfl ?_
            refine z_getf zh fl_RollingNets_205 dX8_lot_81 (ck_M (isM_of isH_1 hj12)) rfl rfl ?_
            refine z_iloadn zh dX8_lot_84 rfl ?_
            refine y_gald zh (ck_lots (isM_of isH_1 hj12)) dX8_lot_85 r6 (by decide) (by decide) (fun j18 hj18 _ _ => ?_)
            refine z_iload zh dX8_lot_86 rfl ?_
            refine y_iald zh (ck_row (isM_of isH_1 hj12) hj18) dX8_lot_88 r15 (by decide) (by decide) (fun x19 ex19 => ?_)
            exact z_iret zh dX8_lot_89 ⟨_, rfl, rfl, rfl, trivial⟩
          · refine z_lookup (off := 40) (tgt := 90) zh dX8_lot_50 (by decide) (by simp [Op.lookupswitch.offset]; rw [if_neg (fun e => lq0 e.symm), if_neg (fun e => lq1 e.symm)]) rfl ?_
            refine z_iconst zh dX8_lot_90 ki_m1 ?_
            exact z_iret zh dX8_lot_91 ⟨_, rfl, rfl, rfl, trivial⟩
      · have r20 := rb_eq (u := (-1)) (v := (-1)) hx13 rl_n1 q14 (by decide) (by decide)
        refine z_iconst zh dX8_lot_46 ki_m1 ?_
        exact z_iret zh dX8_lot_47 ⟨_, rfl, rfl, rfl, trivial⟩
    · have r21 := rb_eq (u := 0) (v := 0) hx7 ra_z q9 (by decide) (by decide)
      refine z_iconst zh dX8_lot_18 ki_m1 ?_
      exact z_iret zh dX8_lot_19 ⟨_, rfl, rfl, rfl, trivial⟩
set_option maxRecDepth 20000 in
theorem s_X8_margin (g : GE) {sp : Nat → Nat → Bool} {σ : Iv} {iv : Iv} {lv : Lv} {a1 : Int32} {a2 : Int32}  (hG : SI sp σ iv)  : ConL g yX8_margin cX8_margin 3 (some .long) 4 [rf g 0, .int a1, .int a2] iv lv (fun r iv' lv' => iv = iv' ∧ lv = lv' ∧ True) := by
  refine con_intro (own := "RollingNets") (by decide +kernel) rfl (Nat.le_of_ble_eq_true rfl) (L0 := [some (rf g 0), some (.int a1), some (.int a2)]) rfl (fun Z zh => ?_)
  refine z_aloadnR zh dX8_margin_0 rfl ?_
  refine z_getf zh fl_RollingNets_12 dX8_margin_1 ck_X rfl rfl ?_
  refine z_iloadn zh dX8_margin_4 rfl ?_
  refine z_callVI zh mv_RollingNets_60 dX8_margin_5 (ck_H isH_1) rfl (s_X1_hasMember g isH_1 hG) ⟨Nat.le_of_ble_eq_true rfl, Nat.le_of_ble_eq_true rfl⟩ rfl rfl (Nat.le_of_ble_eq_true rfl) ?_
  rintro x1 _ _ ⟨rfl, rfl, hx1, hz2⟩
  refine z_if_ne (tgt := 15) zh dX8_margin_8 rfl (fun q3 => ?_) (fun q3 => ?_)
  · have r4 : Ra 1 1 x1 := rb_ne_lo hx1 ra_z q3 (by decide)
    have r5 : Ra 0 11 a1 := (hz2 q3)
    refine z_iloadn zh dX8_margin_15 rfl ?_
    by_cases q6 : 0 ≤ a2.toInt ∧ a2.toInt ≤ 2
    · obtain ⟨jw, hjw, hkw⟩ : ∃ jw : Nat, jw ≤ 2 ∧ a2.toInt = 0 + (jw : Int) := ⟨(a2.toInt - 0).toNat, by omega, by omega⟩
      rcases (by omega : jw = 0 ∨ jw = 1 ∨ jw = 2) with rfl | rfl | rfl
      · have r8 : Ra 0 0 a2 := sw_ra hkw rfl
        refine z_tabIn (off := 28) (tgt := 44) zh dX8_margin_16 (sw_lo r8 (by decide)) (sw_hi r8 (by decide)) (sw_at r8 (by decide)) rfl ?_
        refine z_aloadnR zh dX8_margin_44 rfl ?_
        refine z_getf zh fl_RollingNets_12 dX8_margin_45 ck_X rfl rfl ?_
        refine z_iloadn zh dX8_margin_48 rfl ?_
        refine z_callSL zh ms_RollingNets_226 dX8_margin_49 (s_X0_demand g isH_1 r5 hG) ⟨Nat.le_of_ble_eq_true rfl, Nat.le_of_ble_eq_true rfl⟩ rfl rfl (Nat.le_of_ble_eq_true rfl) ?_
        rintro l9 _ _ ⟨rfl, rfl, _⟩
        exact z_lret zh dX8_margin_52 ⟨_, rfl, rfl, rfl, trivial⟩
      · have r10 : Ra 1 1 a2 := sw_ra hkw rfl
        refine z_tabIn (off := 37) (tgt := 53) zh dX8_margin_16 (sw_lo r10 (by decide)) (sw_hi r10 (by decide)) (sw_at r10 (by decide)) rfl ?_
        refine z_aloadnR zh dX8_margin_53 rfl ?_
        refine z_getf zh fl_RollingNets_12 dX8_margin_54 ck_X rfl rfl ?_
        refine z_getf zh fl_RollingNets_120 dX8_margin_57 (ck_H isH_1) rfl rfl ?_
        refine z_iloadn zh dX8_margin_60 rfl ?_
        refine y_iald zh (ck_pledged isH_1) dX8_margin_61 r5 (by decide) (by decide) (fun x11 ex11 => ?_)
        refine y_i2l zh dX8_margin_62 (fun l12 => ?_)
        exact z_lret zh dX8_margin_63 ⟨_, rfl, rfl, rfl, trivial⟩
      · have r13 : Ra 2 2 a2 := sw_ra hkw rfl
        refine z_tabIn (off := 48) (tgt := 64) zh dX8_margin_16 (sw_lo r13 (by decide)) (sw_hi r13 (by decide)) (sw_at r13 (by decide)) rfl ?_
        refine z_aloadnR zh dX8_margin_64 rfl ?_
        refine z_getf zh fl_RollingNets_12 dX8_margin_65 ck_X rfl rfl ?_
        refine z_iloadn zh dX8_margin_68 rfl ?_
        refine z_callSL zh ms_RollingNets_230 dX8_margin_69 (s_X0_lacks g isH_1 r5 hG) ⟨Nat.le_of_ble_eq_true rfl, Nat.le_of_ble_eq_true rfl⟩ rfl rfl (Nat.le_of_ble_eq_true rfl) ?_
        rintro l14 _ _ ⟨rfl, rfl, _⟩
        exact z_lret zh dX8_margin_72 ⟨_, rfl, rfl, rfl, trivial⟩
    · refine z_tabOut (tgt := 73) zh dX8_margin_16 (sw_out q6) rfl ?_
      refine z_ldc2 zh dX8_margin_73 kl_RollingNets_224 ?_
      exact z_lret zh dX8_margin_76 ⟨_, rfl, rfl, rfl, trivial⟩
  · have r15 := rb_eq (u := 0) (v := 0) hx1 ra_z q3 (by decide) (by decide)
    refine z_ldc2 zh dX8_margin_11 kl_RollingNets_224 ?_
    exact z_lret zh dX8_margin_14 ⟨_, rfl, rfl, rfl, trivial⟩
set_option maxRecDepth 20000 in
theorem s_X8_move (g : GE) {sp : Nat → Nat → Bool} {σ : Iv} {iv : Iv} {lv : Lv} {a1 : Int32} {a2 : Int32} {a3 : Int32} {a4 : Int32}  (hG : SI sp σ iv)  : ConI g yX8_move cX8_move 6 (some .boolean) 2 [rf g 0, .int a1, .int a2, .int a3, .int a4] iv lv (fun r iv lv => SI sp σ iv ∧ Ra 0 1 r ∧ (¬ r = 0 → Ra 0 11 a1) ∧ (¬ r = 0 → Ra 0 11 a2) ∧ (¬ r = 0 → Ra 0 5 a3) ∧ (¬ r = 0 → Ra 1 2147483647 a4)) := by
  refine con_intro (own := "RollingNets") (by decide +kernel) rfl (Nat.le_of_ble_eq_true rfl) (L0 := [some (rf g 0), some (.int a1), some (.int a2), some (.int a3), some (.int a4), none]) rfl (fun Z zh => ?_)
  refine z_aloadnR zh dX8_move_0 rfl ?_
  refine z_getf zh fl_RollingNets_12 dX8_move_1 ck_X rfl rfl ?_
  refine z_iloadn zh dX8_move_4 rfl ?_
  refine z_callVI zh mv_RollingNets_60 dX8_move_5 (ck_H isH_1) rfl (s_X1_hasMember g isH_1 hG) ⟨Nat.le_of_ble_eq_true rfl, Nat.le_of_ble_eq_true rfl⟩ rfl rfl (Nat.le_of_ble_eq_true rfl) ?_
  rintro x1 _ _ ⟨rfl, rfl, hx1, hz2⟩
  refine z_if_eq (tgt := 34) zh dX8_move_8 rfl (fun q3 => ?_) (fun q3 => ?_)
  · have r4 := rb_eq (u := 0) (v := 0) hx1 ra_z q3 (by decide) (by decide)
    refine z_iconst zh dX8_move_34 ki_0 ?_
    exact z_zret zh dX8_move_35 (ra_01 (ra_w rl_0 (by decide) (by decide))) ⟨_, rfl, hG, (ra_w rl_0 (by decide) (by decide)), (fun q => absurd rfl q), (fun q => absurd rfl q), (fun q => absurd rfl q), (fun q => absurd rfl q)⟩
  · have r5 : Ra 1 1 x1 := rb_ne_lo hx1 ra_z q3 (by decide)
    have r6 : Ra 0 11 a1 := (hz2 q3)
    refine z_aloadnR zh dX8_move_11 rfl ?_
    refine z_getf zh fl_RollingNets_12 dX8_move_12 ck_X rfl rfl ?_
    refine z_iloadn zh dX8_move_15 rfl ?_
    refine z_callVI zh mv_RollingNets_60 dX8_move_16 (ck_H isH_1) rfl (s_X1_hasMember g isH_1 hG) ⟨Nat.le_of_ble_eq_true rfl, Nat.le_of_ble_eq_true rfl⟩ rfl rfl (Nat.le_of_ble_eq_true rfl) ?_
    rintro x7 _ _ ⟨rfl, rfl, hx7, hz8⟩
    refine z_if_eq (tgt := 34) zh dX8_move_19 rfl (fun q9 => ?_) (fun q9 => ?_)
    · have r10 := rb_eq (u := 0) (v := 0) hx7 ra_z q9 (by decide) (by decide)
      refine z_iconst zh dX8_move_34 ki_0 ?_
      exact z_zret zh dX8_move_35 (ra_01 (ra_w rl_0 (by decide) (by decide))) ⟨_, rfl, hG, (ra_w rl_0 (by decide) (by decide)), (fun q => absurd rfl q), (fun q => absurd rfl q), (fun q => absurd rfl q), (fun q => absurd rfl q)⟩
    · have r11 : Ra 1 1 x7 := rb_ne_lo hx7 ra_z q9 (by decide)
      have r12 : Ra 0 11 a2 := (hz8 q9)
      refine z_iloadn zh dX8_move_22 rfl ?_
      refine z_iloadn zh dX8_move_23 rfl ?_
      refine z_icmp_eq (tgt := 34) zh dX8_move_24 rfl (fun q13 => ?_) (fun q13 => ?_)
      · refine z_iconst zh dX8_move_34 ki_0 ?_
        exact z_zret zh dX8_move_35 (ra_01 (ra_w rl_0 (by decide) (by decide))) ⟨_, rfl, hG, (ra_w rl_0 (by decide) (by decide)), (fun q => absurd rfl q), (fun q => absurd rfl q), (fun q => absurd rfl q), (fun q => absurd rfl q)⟩
      · refine z_iloadn zh dX8_move_27 rfl ?_
        refine z_callSI zh ms_RollingNets_68 dX8_move_28 (s_X8_isIssue g  hG) ⟨Nat.le_of_ble_eq_true rfl, Nat.le_of_ble_eq_true rfl⟩ rfl rfl (Nat.le_of_ble_eq_true rfl) ?_
        rintro x15 _ _ ⟨rfl, rfl, hx15, hz16⟩
        refine z_if_ne (tgt := 36) zh dX8_move_31 rfl (fun q17 => ?_) (fun q17 => ?_)
        · have r18 : Ra 1 1 x15 := rb_ne_lo hx15 ra_z q17 (by decide)
          have r19 : Ra 0 5 a3 := (hz16 q17)
          refine z_iload zh dX8_move_36 rfl ?_
          refine z_iconst zh dX8_move_38 ki_1 ?_
          refine z_icmp_lt (tgt := 58) zh dX8_move_39 rfl (fun q20 => ?_) (fun q20 => ?_)
          · have r21 : Ra (-2147483648) 0 a4 := rb_lt_l rl_1 (ra_tt a4) q20 (by decide)
            refine z_iconst zh dX8_move_58 ki_0 ?_
            exact z_zret zh dX8_move_59 (ra_01 (ra_w rl_0 (by decide) (by decide))) ⟨_, rfl, hG, (ra_w rl_0 (by decide) (by decide)), (fun q => absurd rfl q), (fun q => absurd rfl q), (fun q => absurd rfl q), (fun q => absurd rfl q)⟩
          · have r22 : Ra 1 2147483647 a4 := rb_le_r rl_1 (ra_tt a4) (rb_nlt q20) (by decide)
            refine z_iload zh dX8_move_42 rfl ?_
            refine y_i2l zh dX8_move_44 (fun l23 => ?_)
            refine z_aloadnR zh dX8_move_45 rfl ?_
            refine z_getf zh fl_RollingNets_12 dX8_move_46 ck_X rfl rfl ?_
            refine z_iloadn zh dX8_move_49 rfl ?_
            refine z_iloadn zh dX8_move_50 rfl ?_
            refine z_callVL zh mv_RollingNets_102 dX8_move_51 (ck_H isH_1) rfl (s_X1_freeOf g isH_1 r19 r6 hG) ⟨Nat.le_of_ble_eq_true rfl, Nat.le_of_ble_eq_true rfl⟩ rfl rfl (Nat.le_of_ble_eq_true rfl) ?_
            rintro l24 _ _ ⟨rfl, rfl, _⟩
            refine y_lcmp zh dX8_move_54 (fun x25 hx25 => ?_)
            refine z_if_le (tgt := 60) zh dX8_move_55 rfl (fun q26 => ?_) (fun q26 => ?_)
            · have r27 : Ra (-1) 0 x25 := rb_le_l ra_z hx25 q26 (by decide)
              refine z_aloadnR zh dX8_move_60 rfl ?_
              refine z_getf zh fl_RollingNets_12 dX8_move_61 ck_X rfl rfl ?_
              refine z_getf zh fl_RollingNets_72 dX8_move_64 (ck_H isH_1) rfl rfl ?_
              refine z_iloadn zh dX8_move_67 rfl ?_
              refine y_mald zh (ck_markets isH_1) dX8_move_68 r19 (by decide) (by decide) (fun j28 hj28 _ _ => ?_)
              refine z_astore zh dX8_move_69 (by decide) (L' := [some (rf g 0), some (.int a1), some (.int a2), some (.int a3), some (.int a4), some (rf g (1 + 60 + 20 * j28))]) rfl ?_
              refine z_aloadR zh dX8_move_71 rfl ?_
              refine z_getf zh fl_RollingNets_76 dX8_move_73 (ck_M (isM_of isH_1 hj28)) rfl rfl ?_
              refine z_iloadn zh dX8_move_76 rfl ?_
              refine z_dup2 zh dX8_move_77 rfl rfl ?_
              refine y_lald zh (ck_stock (isM_of isH_1 hj28)) dX8_move_78 r6 (by decide) (by decide) (fun l29 => ?_)
              refine z_iload zh dX8_move_79 rfl ?_
              refine y_i2l zh dX8_move_81 (fun l30 => ?_)
              refine y_lsub zh dX8_move_82 (fun l31 => ?_)
              refine z_last zh (ck_stock (isM_of isH_1 hj28)) dX8_move_83 (ra_in r6 (by decide) (by decide)) ?_
              generalize upL lv (1 + 60 + 20 * j28 + 1) a1.toNatClampNeg l31 = lv
              refine z_aloadR zh dX8_move_84 rfl ?_
              refine z_getf zh fl_RollingNets_76 dX8_move_86 (ck_M (isM_of isH_1 hj28)) rfl rfl ?_
              refine z_iloadn zh dX8_move_89 rfl ?_
              refine z_dup2 zh dX8_move_90 rfl rfl ?_
              refine y_lald zh (ck_stock (isM_of isH_1 hj28)) dX8_move_91 r12 (by decide) (by decide) (fun l32 => ?_)
              refine z_iload zh dX8_move_92 rfl ?_
              refine y_i2l zh dX8_move_94 (fun l33 => ?_)
              refine y_ladd zh dX8_move_95 (fun l34 => ?_)
              refine z_last zh (ck_stock (isM_of isH_1 hj28)) dX8_move_96 (ra_in r12 (by decide) (by decide)) ?_
              generalize upL lv (1 + 60 + 20 * j28 + 1) a2.toNatClampNeg l34 = lv
              refine z_iconst zh dX8_move_97 ki_1 ?_
              exact z_zret zh dX8_move_98 (ra_01 (ra_w rl_1 (by decide) (by decide))) ⟨_, rfl, hG, (ra_w rl_1 (by decide) (by decide)), (fun _ => r6), (fun _ => r12), (fun _ => r19), (fun _ => r22)⟩
            · have r35 : Ra 1 1 x25 := rb_lt_r ra_z hx25 (rb_nle q26) (by decide)
              refine z_iconst zh dX8_move_58 ki_0 ?_
              exact z_zret zh dX8_move_59 (ra_01 (ra_w rl_0 (by decide) (by decide))) ⟨_, rfl, hG, (ra_w rl_0 (by decide) (by decide)), (fun q => absurd rfl q), (fun q => absurd rfl q), (fun q => absurd rfl q), (fun q => absurd rfl q)⟩
        · have r36 := rb_eq (u := 0) (v := 0) hx15 ra_z q17 (by decide) (by decide)
          refine z_iconst zh dX8_move_34 ki_0 ?_
          exact z_zret zh dX8_move_35 (ra_01 (ra_w rl_0 (by decide) (by decide))) ⟨_, rfl, hG, (ra_w rl_0 (by decide) (by decide)), (fun q => absurd rfl q), (fun q => absurd rfl q), (fun q => absurd rfl q), (fun q => absurd rfl q)⟩
set_option maxRecDepth 20000 in
theorem s_X8_night (g : GE) {sp : Nat → Nat → Bool} {σ : Iv} {iv : Iv} {lv : Lv} {a1 : Int32}  (hG : SI sp σ iv) (hq : Sq sp) : ConI g yX8_night cX8_night 2 (some .int) 7 [rf g 0, .int a1] iv lv (fun r iv lv => SI sp σ iv ∧ Ra (-1) 20 r) := by
  refine con_intro (own := "RollingNets") (by decide +kernel) rfl (Nat.le_of_ble_eq_true rfl) (L0 := [some (rf g 0), some (.int a1)]) rfl (fun Z zh => ?_)
  refine z_aloadnR zh dX8_night_0 rfl ?_
  refine z_getf zh fl_RollingNets_12 dX8_night_1 ck_X rfl rfl ?_
  refine z_iloadn zh dX8_night_4 rfl ?_
  refine z_callSI zh ms_RollingNets_123 dX8_night_5 (s_X4_pass g isH_1 hG hq) ⟨Nat.le_of_ble_eq_true rfl, Nat.le_of_ble_eq_true rfl⟩ rfl rfl (Nat.le_of_ble_eq_true rfl) ?_
  rintro x1 iv lv ⟨hG, hx1⟩
  exact z_iret zh dX8_night_8 ⟨_, rfl, hG, hx1⟩
set_option maxRecDepth 20000 in
theorem s_X8_notice (g : GE) {sp : Nat → Nat → Bool} {σ : Iv} {iv : Iv} {lv : Lv} {a1 : Int32} {a2 : Int32}  (hG : SI sp σ iv)  : ConI g yX8_notice cX8_notice 3 (some .int) 2 [rf g 0, .int a1, .int a2] iv lv (fun r iv' lv' => iv = iv' ∧ lv = lv' ∧ True) := by
  refine con_intro (own := "RollingNets") (by decide +kernel) rfl (Nat.le_of_ble_eq_true rfl) (L0 := [some (rf g 0), some (.int a1), some (.int a2)]) rfl (fun Z zh => ?_)
  refine z_iloadn zh dX8_notice_0 rfl ?_
  have J23 : Z 23 [some (rf g 0), some (.int a1), some (.int a2)] [] iv lv := by
    refine z_iloadn zh dX8_notice_23 rfl ?_
    refine z_bipush zh dX8_notice_24 kb_10 ?_
    refine z_icmp_lt (tgt := 43) zh dX8_notice_26 rfl (fun q1 => ?_) (fun q1 => ?_)
    · have r2 : Ra (-2147483648) 9 a2 := rb_lt_l rl_10 (ra_tt a2) q1 (by decide)
      refine z_iconst zh dX8_notice_43 ki_m1 ?_
      exact z_iret zh dX8_notice_44 ⟨_, rfl, rfl, rfl, trivial⟩
    · have r3 : Ra 10 2147483647 a2 := rb_le_r rl_10 (ra_tt a2) (rb_nlt q1) (by decide)
      refine z_aloadnR zh dX8_notice_29 rfl ?_
      refine z_getf zh fl_RollingNets_12 dX8_notice_30 ck_X rfl rfl ?_
      refine z_iloadn zh dX8_notice_33 rfl ?_
      refine z_bipush zh dX8_notice_34 kb_10 ?_
      refine y_isub zh dX8_notice_36 r3 rl_10 (u := 0) (v := 2147483637) rfl rfl (by decide) (by decide) (fun x4 hc4 hx4 => ?_)
      refine z_callVI zh mv_RollingNets_60 dX8_notice_37 (ck_H isH_1) rfl (s_X1_hasMember g isH_1 hG) ⟨Nat.le_of_ble_eq_true rfl, Nat.le_of_ble_eq_true rfl⟩ rfl rfl (Nat.le_of_ble_eq_true rfl) ?_
      rintro x5 _ _ ⟨rfl, rfl, hx5, hz6⟩
      refine z_if_ne (tgt := 45) zh dX8_notice_40 rfl (fun q7 => ?_) (fun q7 => ?_)
      · have r8 : Ra 1 1 x5 := rb_ne_lo hx5 ra_z q7 (by decide)
        have r9 : Ra 0 11 x4 := (hz6 q7)
        refine z_aloadnR zh dX8_notice_45 rfl ?_
        refine z_getf zh fl_RollingNets_12 dX8_notice_46 ck_X rfl rfl ?_
        refine z_getf zh fl_RollingNets_212 dX8_notice_49 (ck_H isH_1) rfl rfl ?_
        refine z_bipush zh dX8_notice_52 kb_7 ?_
        refine z_iloadn zh dX8_notice_54 rfl ?_
        refine y_iaddT zh dX8_notice_55 (fun x10 => ?_)
        refine z_bipush zh dX8_notice_56 kb_10 ?_
        refine y_isubT zh dX8_notice_58 (fun x11 => ?_)
        refine z_iloadn zh dX8_notice_59 rfl ?_
        obtain ⟨x12, ex12⟩ : ∃ z, iv (1 + 17) 2 = z := ⟨_, rfl⟩
        have hx12 : Ra 0 60 x12 := ra_of ex12 (si_T hG (isT_n isH_1))
        refine z_callVI zh mv_RollingNets_171 dX8_notice_60 (ck_T (isT_n isH_1)) rfl (s_X7_get g (isT_n isH_1) ex12 hx12) ⟨Nat.le_of_ble_eq_true rfl, Nat.le_of_ble_eq_true rfl⟩ rfl rfl (Nat.le_of_ble_eq_true rfl) ?_
        rintro x13 _ _ ⟨rfl, rfl, gx13⟩
        exact z_iret zh dX8_notice_63 ⟨_, rfl, rfl, rfl, trivial⟩
      · have r14 := rb_eq (u := 0) (v := 0) hx5 ra_z q7 (by decide) (by decide)
        refine z_iconst zh dX8_notice_43 ki_m1 ?_
        exact z_iret zh dX8_notice_44 ⟨_, rfl, rfl, rfl, trivial⟩
  refine z_if_lt (tgt := 23) zh dX8_notice_1 rfl (fun q15 => ?_) (fun q15 => ?_)
  · have r16 : Ra (-2147483648) (-1) a2 := rb_lt_l ra_z (ra_tt a2) q15 (by decide)
    exact J23
  · have r17 : Ra 0 2147483647 a2 := rb_le_r ra_z (ra_tt a2) (rb_nlt q15) (by decide)
    refine z_iloadn zh dX8_notice_4 rfl ?_
    refine z_bipush zh dX8_notice_5 kb_6 ?_
    refine z_icmp_gt (tgt := 23) zh dX8_notice_7 rfl (fun q18 => ?_) (fun q18 => ?_)
    · have r19 : Ra 7 2147483647 a2 := rb_lt_r rl_6 r17 q18 (by decide)
      exact J23
    · have r20 : Ra 0 6 a2 := rb_le_l rl_6 r17 (rb_nlt q18) (by decide)
      refine z_aloadnR zh dX8_notice_10 rfl ?_
      refine z_getf zh fl_RollingNets_12 dX8_notice_11 ck_X rfl rfl ?_
      refine z_getf zh fl_RollingNets_212 dX8_notice_14 (ck_H isH_1) rfl rfl ?_
      refine z_iloadn zh dX8_notice_17 rfl ?_
      refine z_iloadn zh dX8_notice_18 rfl ?_
      obtain ⟨x21, ex21⟩ : ∃ z, iv (1 + 17) 2 = z := ⟨_, rfl⟩
      have hx21 : Ra 0 60 x21 := ra_of ex21 (si_T hG (isT_n isH_1))
      refine z_callVI zh mv_RollingNets_171 dX8_notice_19 (ck_T (isT_n isH_1)) rfl (s_X7_get g (isT_n isH_1) ex21 hx21) ⟨Nat.le_of_ble_eq_true rfl, Nat.le_of_ble_eq_true rfl⟩ rfl rfl (Nat.le_of_ble_eq_true rfl) ?_
      rintro x22 _ _ ⟨rfl, rfl, gx22⟩
      exact z_iret zh dX8_notice_22 ⟨_, rfl, rfl, rfl, trivial⟩
set_option maxRecDepth 20000 in
theorem s_X8_price (g : GE) {sp : Nat → Nat → Bool} {σ : Iv} {iv : Iv} {lv : Lv} {a1 : Int32} {a2 : Int32}  (hG : SI sp σ iv)  : ConI g yX8_price cX8_price 3 (some .boolean) 2 [rf g 0, .int a1, .int a2] iv lv (fun r iv lv => SI sp σ iv ∧ Ra 0 1 r ∧ (¬ r = 0 → Ra 0 5 a1) ∧ (¬ r = 0 → Ra 1 9999 a2)) := by
  refine con_intro (own := "RollingNets") (by decide +kernel) rfl (Nat.le_of_ble_eq_true rfl) (L0 := [some (rf g 0), some (.int a1), some (.int a2)]) rfl (fun Z zh => ?_)
  refine z_iloadn zh dX8_price_0 rfl ?_
  refine z_callSI zh ms_RollingNets_68 dX8_price_1 (s_X8_isIssue g  hG) ⟨Nat.le_of_ble_eq_true rfl, Nat.le_of_ble_eq_true rfl⟩ rfl rfl (Nat.le_of_ble_eq_true rfl) ?_
  rintro x1 _ _ ⟨rfl, rfl, hx1, hz2⟩
  refine z_if_eq (tgt := 18) zh dX8_price_4 rfl (fun q3 => ?_) (fun q3 => ?_)
  · have r4 := rb_eq (u := 0) (v := 0) hx1 ra_z q3 (by decide) (by decide)
    refine z_iconst zh dX8_price_18 ki_0 ?_
    exact z_zret zh dX8_price_19 (ra_01 (ra_w rl_0 (by decide) (by decide))) ⟨_, rfl, hG, (ra_w rl_0 (by decide) (by decide)), (fun q => absurd rfl q), (fun q => absurd rfl q)⟩
  · have r5 : Ra 1 1 x1 := rb_ne_lo hx1 ra_z q3 (by decide)
    have r6 : Ra 0 5 a1 := (hz2 q3)
    refine z_iloadn zh dX8_price_7 rfl ?_
    refine z_iconst zh dX8_price_8 ki_1 ?_
    refine z_sipush zh dX8_price_9 ks_9999 ?_
    refine z_callSI zh ms_RollingNets_43 dX8_price_12 (s_X8_within g) ⟨Nat.le_of_ble_eq_true rfl, Nat.le_of_ble_eq_true rfl⟩ rfl rfl (Nat.le_of_ble_eq_true rfl) ?_
    rintro x7 _ _ ⟨rfl, rfl, hx7, hz8⟩
    refine z_if_ne (tgt := 20) zh dX8_price_15 rfl (fun q9 => ?_) (fun q9 => ?_)
    · have r10 : Ra 1 1 x7 := rb_ne_lo hx7 ra_z q9 (by decide)
      have r11 : Ra 1 9999 a2 := (rb_in rl_1 rl_9999 (hz8 q9))
      refine z_aloadnR zh dX8_price_20 rfl ?_
      refine z_getf zh fl_RollingNets_12 dX8_price_21 ck_X rfl rfl ?_
      refine z_getf zh fl_RollingNets_72 dX8_price_24 (ck_H isH_1) rfl rfl ?_
      refine z_iloadn zh dX8_price_27 rfl ?_
      refine y_mald zh (ck_markets isH_1) dX8_price_28 r6 (by decide) (by decide) (fun j12 hj12 _ _ => ?_)
      refine z_iloadn zh dX8_price_29 rfl ?_
      refine z_putI zh fl_RollingNets_91 dX8_price_30 (ck_M (isM_of isH_1 hj12)) rfl rfl (Nat.le_of_ble_eq_true rfl) (Or.inl rfl) ?_
      have hG : SI sp σ (upI iv (1 + 60 + 20 * j12) 7 a2) := si_wM hG (isM_of isH_1 hj12) 0 (by decide) (rx_none rfl)
      have em13 : upI iv (1 + 60 + 20 * j12) 7 a2 (1 + 60 + 20 * j12) 7 = a2 := by rw [upI_at, if_pos ⟨rfl, rfl⟩]
      generalize upI iv (1 + 60 + 20 * j12) 7 a2 = iv at hG em13 ⊢
      refine z_iconst zh dX8_price_33 ki_1 ?_
      exact z_zret zh dX8_price_34 (ra_01 (ra_w rl_1 (by decide) (by decide))) ⟨_, rfl, hG, (ra_w rl_1 (by decide) (by decide)), (fun _ => r6), (fun _ => r11)⟩
    · have r14 := rb_eq (u := 0) (v := 0) hx7 ra_z q9 (by decide) (by decide)
      refine z_iconst zh dX8_price_18 ki_0 ?_
      exact z_zret zh dX8_price_19 (ra_01 (ra_w rl_0 (by decide) (by decide))) ⟨_, rfl, hG, (ra_w rl_0 (by decide) (by decide)), (fun q => absurd rfl q), (fun q => absurd rfl q)⟩
set_option maxRecDepth 20000 in
theorem s_X8_tellRank (g : GE) {sp : Nat → Nat → Bool} {σ : Iv} {iv : Iv} {lv : Lv} {a1 : Int32} {a2 : Int32} (ha1 : Ra 0 11 a1) (hG : SI sp σ iv)  : ConI g yX8_tellRank cX8_tellRank 3 (some .boolean) 2 [rf g 0, .int a1, .int a2] iv lv (fun r iv lv => SI sp σ iv ∧ Ra 0 1 r ∧ (¬ r = 0 → Ra 0 9 a2)) := by
  refine con_intro (own := "RollingNets") (by decide +kernel) rfl (Nat.le_of_ble_eq_true rfl) (L0 := [some (rf g 0), some (.int a1), some (.int a2)]) rfl (fun Z zh => ?_)
  refine z_iloadn zh dX8_tellRank_0 rfl ?_
  refine z_iconst zh dX8_tellRank_1 ki_0 ?_
  refine z_bipush zh dX8_tellRank_2 kb_9 ?_
  refine z_callSI zh ms_RollingNets_43 dX8_tellRank_4 (s_X8_within g) ⟨Nat.le_of_ble_eq_true rfl, Nat.le_of_ble_eq_true rfl⟩ rfl rfl (Nat.le_of_ble_eq_true rfl) ?_
  rintro x1 _ _ ⟨rfl, rfl, hx1, hz2⟩
  refine z_if_ne (tgt := 12) zh dX8_tellRank_7 rfl (fun q3 => ?_) (fun q3 => ?_)
  · have r4 : Ra 1 1 x1 := rb_ne_lo hx1 ra_z q3 (by decide)
    have r5 : Ra 0 9 a2 := (rb_in rl_0 rl_9 (hz2 q3))
    refine z_aloadnR zh dX8_tellRank_12 rfl ?_
    refine z_getf zh fl_RollingNets_12 dX8_tellRank_13 ck_X rfl rfl ?_
    refine z_getf zh fl_RollingNets_88 dX8_tellRank_16 (ck_H isH_1) rfl rfl ?_
    refine z_iloadn zh dX8_tellRank_19 rfl ?_
    refine z_iloadn zh dX8_tellRank_20 rfl ?_
    refine z_iast zh (ck_rank isH_1) dX8_tellRank_21 (ra_in ha1 (by decide) (by decide)) ?_
    have hG : SI sp σ (upI iv (1 + 3) a1.toNatClampNeg a2) := si_wH hG isH_1 3 (by decide) rfl (rx_none rfl)
    generalize upI iv (1 + 3) a1.toNatClampNeg a2 = iv at hG  ⊢
    refine z_iconst zh dX8_tellRank_22 ki_1 ?_
    exact z_zret zh dX8_tellRank_23 (ra_01 (ra_w rl_1 (by decide) (by decide))) ⟨_, rfl, hG, (ra_w rl_1 (by decide) (by decide)), (fun _ => r5)⟩
  · have r6 := rb_eq (u := 0) (v := 0) hx1 ra_z q3 (by decide) (by decide)
    refine z_iconst zh dX8_tellRank_10 ki_0 ?_
    exact z_zret zh dX8_tellRank_11 (ra_01 (ra_w rl_0 (by decide) (by decide))) ⟨_, rfl, hG, (ra_w rl_0 (by decide) (by decide)), (fun q => absurd rfl q)⟩
set_option maxRecDepth 20000 in
theorem s_X8_tell (g : GE) {sp : Nat → Nat → Bool} {σ : Iv} {iv : Iv} {lv : Lv} {a1 : Int32} {a2 : Int32} {a3 : Int32} {a4 : Int32}  (hG : SI sp σ iv)  : ConI g yX8_tell cX8_tell 6 (some .boolean) 3 [rf g 0, .int a1, .int a2, .int a3, .int a4] iv lv (fun r iv lv => SI sp σ iv ∧ Ra 0 1 r ∧ (¬ r = 0 → Ra 0 11 a1) ∧ (¬ r = 0 → Ra 0 3 a3) ∧ (¬ r = 0 → Ra 0 99999 a4)) := by
  refine con_intro (own := "RollingNets") (by decide +kernel) rfl (Nat.le_of_ble_eq_true rfl) (L0 := [some (rf g 0), some (.int a1), some (.int a2), some (.int a3), some (.int a4), none]) rfl (fun Z zh => ?_)
  refine z_aloadnR zh dX8_tell_0 rfl ?_
  refine z_getf zh fl_RollingNets_12 dX8_tell_1 ck_X rfl rfl ?_
  refine z_iloadn zh dX8_tell_4 rfl ?_
  refine z_callVI zh mv_RollingNets_60 dX8_tell_5 (ck_H isH_1) rfl (s_X1_hasMember g isH_1 hG) ⟨Nat.le_of_ble_eq_true rfl, Nat.le_of_ble_eq_true rfl⟩ rfl rfl (Nat.le_of_ble_eq_true rfl) ?_
  rintro x1 _ _ ⟨rfl, rfl, hx1, hz2⟩
  refine z_if_ne (tgt := 13) zh dX8_tell_8 rfl (fun q3 => ?_) (fun q3 => ?_)
  · have r4 : Ra 1 1 x1 := rb_ne_lo hx1 ra_z q3 (by decide)
    have r5 : Ra 0 11 a1 := (hz2 q3)
    refine z_iloadn zh dX8_tell_13 rfl ?_
    refine z_iconst zh dX8_tell_14 ki_3 ?_
    refine z_icmp_ne (tgt := 26) zh dX8_tell_15 rfl (fun q6 => ?_) (fun q6 => ?_)
    · refine z_iloadn zh dX8_tell_26 rfl ?_
      refine z_callSI zh ms_RollingNets_68 dX8_tell_27 (s_X8_isIssue g  hG) ⟨Nat.le_of_ble_eq_true rfl, Nat.le_of_ble_eq_true rfl⟩ rfl rfl (Nat.le_of_ble_eq_true rfl) ?_
      rintro x7 _ _ ⟨rfl, rfl, hx7, hz8⟩
      refine z_if_eq (tgt := 44) zh dX8_tell_30 rfl (fun q9 => ?_) (fun q9 => ?_)
      · have r10 := rb_eq (u := 0) (v := 0) hx7 ra_z q9 (by decide) (by decide)
        refine z_iconst zh dX8_tell_44 ki_0 ?_
        exact z_zret zh dX8_tell_45 (ra_01 (ra_w rl_0 (by decide) (by decide))) ⟨_, rfl, hG, (ra_w rl_0 (by decide) (by decide)), (fun q => absurd rfl q), (fun q => absurd rfl q), (fun q => absurd rfl q)⟩
      · have r11 : Ra 1 1 x7 := rb_ne_lo hx7 ra_z q9 (by decide)
        have r12 : Ra 0 5 a2 := (hz8 q9)
        refine z_iload zh dX8_tell_33 rfl ?_
        refine z_iconst zh dX8_tell_35 ki_0 ?_
        refine z_ldc zh dX8_tell_36 kc_RollingNets_71 ?_
        refine z_callSI zh ms_RollingNets_43 dX8_tell_38 (s_X8_within g) ⟨Nat.le_of_ble_eq_true rfl, Nat.le_of_ble_eq_true rfl⟩ rfl rfl (Nat.le_of_ble_eq_true rfl) ?_
        rintro x13 _ _ ⟨rfl, rfl, hx13, hz14⟩
        refine z_if_ne (tgt := 46) zh dX8_tell_41 rfl (fun q15 => ?_) (fun q15 => ?_)
        · have r16 : Ra 1 1 x13 := rb_ne_lo hx13 ra_z q15 (by decide)
          have r17 : Ra 0 99999 a4 := (rb_in rl_0 rl_99999 (hz14 q15))
          refine z_aloadnR zh dX8_tell_46 rfl ?_
          refine z_getf zh fl_RollingNets_12 dX8_tell_47 ck_X rfl rfl ?_
          refine z_getf zh fl_RollingNets_72 dX8_tell_50 (ck_H isH_1) rfl rfl ?_
          refine z_iloadn zh dX8_tell_53 rfl ?_
          refine y_mald zh (ck_markets isH_1) dX8_tell_54 r12 (by decide) (by decide) (fun j18 hj18 _ _ => ?_)
          refine z_astore zh dX8_tell_55 (by decide) (L' := [some (rf g 0), some (.int a1), some (.int a2), some (.int a3), some (.int a4), some (rf g (1 + 60 + 20 * j18))]) rfl ?_
          refine z_iloadn zh dX8_tell_57 rfl ?_
          by_cases q19 : 0 ≤ a3.toInt ∧ a3.toInt ≤ 2
          · obtain ⟨jw, hjw, hkw⟩ : ∃ jw : Nat, jw ≤ 2 ∧ a3.toInt = 0 + (jw : Int) := ⟨(a3.toInt - 0).toNat, by omega, by omega⟩
            rcases (by omega : jw = 0 ∨ jw = 1 ∨ jw = 2) with rfl | rfl | rfl
            · have r21 : Ra 0 0 a3 := sw_ra hkw rfl
              refine z_tabIn (off := 26) (tgt := 84) zh dX8_tell_58 (sw_lo r21 (by decide)) (sw_hi r21 (by decide)) (sw_at r21 (by decide)) rfl ?_
              refine z_aloadR zh dX8_tell_84 rfl ?_
              refine z_getf zh fl_RollingNets_76 dX8_tell_86 (ck_M (isM_of isH_1 hj18)) rfl rfl ?_
              refine z_iloadn zh dX8_tell_89 rfl ?_
              refine z_iload zh dX8_tell_90 rfl ?_
              refine y_i2l zh dX8_tell_92 (fun l22 => ?_)
              refine z_last zh (ck_stock (isM_of isH_1 hj18)) dX8_tell_93 (ra_in r5 (by decide) (by decide)) ?_
              generalize upL lv (1 + 60 + 20 * j18 + 1) a1.toNatClampNeg l22 = lv
              refine z_iconst zh dX8_tell_94 ki_1 ?_
              exact z_zret zh dX8_tell_95 (ra_01 (ra_w rl_1 (by decide) (by decide))) ⟨_, rfl, hG, (ra_w rl_1 (by decide) (by decide)), (fun _ => r5), (fun _ => (ra_w r21 (by decide) (by decide))), (fun _ => r17)⟩
            · have r23 : Ra 1 1 a3 := sw_ra hkw rfl
              refine z_tabIn (off := 38) (tgt := 96) zh dX8_tell_58 (sw_lo r23 (by decide)) (sw_hi r23 (by decide)) (sw_at r23 (by decide)) rfl ?_
              refine z_aloadR zh dX8_tell_96 rfl ?_
              refine z_getf zh fl_RollingNets_82 dX8_tell_98 (ck_M (isM_of isH_1 hj18)) rfl rfl ?_
              refine z_iloadn zh dX8_tell_101 rfl ?_
              refine z_iload zh dX8_tell_102 rfl ?_
              refine z_iast zh (ck_mi 2 (by decide) (isM_of isH_1 hj18)) dX8_tell_104 (ra_in r5 (by decide) (by decide)) ?_
              have hG : SI sp σ (upI iv (1 + 60 + 20 * j18 + 2) a1.toNatClampNeg a4) := si_wM hG (isM_of isH_1 hj18) 2 (by decide) (rx_none rfl)
              generalize upI iv (1 + 60 + 20 * j18 + 2) a1.toNatClampNeg a4 = iv at hG  ⊢
              refine z_iconst zh dX8_tell_105 ki_1 ?_
              exact z_zret zh dX8_tell_106 (ra_01 (ra_w rl_1 (by decide) (by decide))) ⟨_, rfl, hG, (ra_w rl_1 (by decide) (by decide)), (fun _ => r5), (fun _ => (ra_w r23 (by decide) (by decide))), (fun _ => r17)⟩
            · have r24 : Ra 2 2 a3 := sw_ra hkw rfl
              refine z_tabIn (off := 49) (tgt := 107) zh dX8_tell_58 (sw_lo r24 (by decide)) (sw_hi r24 (by decide)) (sw_at r24 (by decide)) rfl ?_
              refine z_aloadR zh dX8_tell_107 rfl ?_
              refine z_getf zh fl_RollingNets_85 dX8_tell_109 (ck_M (isM_of isH_1 hj18)) rfl rfl ?_
              refine z_iloadn zh dX8_tell_112 rfl ?_
              refine z_iload zh dX8_tell_113 rfl ?_
              refine z_iast zh (ck_mi 3 (by decide) (isM_of isH_1 hj18)) dX8_tell_115 (ra_in r5 (by decide) (by decide)) ?_
              have hG : SI sp σ (upI iv (1 + 60 + 20 * j18 + 3) a1.toNatClampNeg a4) := si_wM hG (isM_of isH_1 hj18) 3 (by decide) (rx_none rfl)
              generalize upI iv (1 + 60 + 20 * j18 + 3) a1.toNatClampNeg a4 = iv at hG  ⊢
              refine z_iconst zh dX8_tell_116 ki_1 ?_
              exact z_zret zh dX8_tell_117 (ra_01 (ra_w rl_1 (by decide) (by decide))) ⟨_, rfl, hG, (ra_w rl_1 (by decide) (by decide)), (fun _ => r5), (fun _ => (ra_w r24 (by decide) (by decide))), (fun _ => r17)⟩
          · refine z_tabOut (tgt := 118) zh dX8_tell_58 (sw_out q19) rfl ?_
            refine z_iconst zh dX8_tell_118 ki_0 ?_
            exact z_zret zh dX8_tell_119 (ra_01 (ra_w rl_0 (by decide) (by decide))) ⟨_, rfl, hG, (ra_w rl_0 (by decide) (by decide)), (fun q => absurd rfl q), (fun q => absurd rfl q), (fun q => absurd rfl q)⟩
        · have r25 := rb_eq (u := 0) (v := 0) hx13 ra_z q15 (by decide) (by decide)
          refine z_iconst zh dX8_tell_44 ki_0 ?_
          exact z_zret zh dX8_tell_45 (ra_01 (ra_w rl_0 (by decide) (by decide))) ⟨_, rfl, hG, (ra_w rl_0 (by decide) (by decide)), (fun q => absurd rfl q), (fun q => absurd rfl q), (fun q => absurd rfl q)⟩
    · have r26 := rb_eq (u := 3) (v := 3) (ra_tt a3) rl_3 q6 (by decide) (by decide)
      refine z_aloadnR zh dX8_tell_18 rfl ?_
      refine z_iloadn zh dX8_tell_19 rfl ?_
      refine z_iload zh dX8_tell_20 rfl ?_
      refine z_callVI zh mv_RollingNets_64 dX8_tell_22 ck_X rfl (s_X8_tellRank g r5 hG) ⟨Nat.le_of_ble_eq_true rfl, Nat.le_of_ble_eq_true rfl⟩ rfl rfl (Nat.le_of_ble_eq_true rfl) ?_
      rintro x27 iv lv ⟨hG, hx27, hz28⟩
      exact z_zret zh dX8_tell_25 (ra_01 hx27) ⟨_, rfl, hG, hx27, (fun _ => r5), (fun _ => (ra_w r26.1 (by decide) (by decide))), (fun q => ra_w (hz28 q) (by decide) (by decide))⟩
  · have r29 := rb_eq (u := 0) (v := 0) hx1 ra_z q3 (by decide) (by decide)
    refine z_iconst zh dX8_tell_11 ki_0 ?_
    exact z_zret zh dX8_tell_12 (ra_01 (ra_w rl_0 (by decide) (by decide))) ⟨_, rfl, hG, (ra_w rl_0 (by decide) (by decide)), (fun q => absurd rfl q), (fun q => absurd rfl q), (fun q => absurd rfl q)⟩
set_option maxRecDepth 20000 in
theorem s_X8_trade (g : GE) {sp : Nat → Nat → Bool} {σ : Iv} {iv : Iv} {lv : Lv} {a1 : Int32} {a2 : Int32} {a3 : Int32} {a4 : Int32} {a5 : Int32}  (hG : SI sp σ iv) (hq : Sq sp) : ConI g yX8_trade cX8_trade 6 (some .int) 4 [rf g 0, .int a1, .int a2, .int a3, .int a4, .int a5] iv lv (fun r iv lv => SI sp σ iv ∧ Ra (-1) 199 r) := by
  refine con_intro (own := "RollingNets") (by decide +kernel) rfl (Nat.le_of_ble_eq_true rfl) (L0 := [some (rf g 0), some (.int a1), some (.int a2), some (.int a3), some (.int a4), some (.int a5)]) rfl (fun Z zh => ?_)
  refine z_aloadnR zh dX8_trade_0 rfl ?_
  refine z_getf zh fl_RollingNets_12 dX8_trade_1 ck_X rfl rfl ?_
  refine z_iloadn zh dX8_trade_4 rfl ?_
  refine z_iloadn zh dX8_trade_5 rfl ?_
  refine z_iloadn zh dX8_trade_6 rfl ?_
  refine z_iload zh dX8_trade_7 rfl ?_
  refine z_iload zh dX8_trade_9 rfl ?_
  refine z_iconst zh dX8_trade_11 ki_0 ?_
  refine z_callVI zh mv_RollingNets_95 dX8_trade_12 (ck_H isH_1) rfl (s_X1_addDeal g isH_1 (ra_w rl_0 (by decide) (by decide)) hG hq) ⟨Nat.le_of_ble_eq_true rfl, Nat.le_of_ble_eq_true rfl⟩ rfl rfl (Nat.le_of_ble_eq_true rfl) ?_
  rintro x1 iv lv ⟨hG, hx1⟩
  exact z_iret zh dX8_trade_15 ⟨_, rfl, hG, hx1⟩
set_option maxRecDepth 20000 in
theorem s_X8_perform (g : GE) {sp : Nat → Nat → Bool} {σ : Iv} {iv : Iv} {lv : Lv} {a1 : Int32} (ha1 : Ra (-2147483648) 23 a1) (hG : SI sp σ iv) (hq : Sq sp) : ConI g yX8_perform cX8_perform 6 (some .boolean) 6 [rf g 0, .int a1] iv lv (fun r iv lv => SI sp σ iv ∧ Ra 0 1 r) := by
  refine con_intro (own := "RollingNets") (by decide +kernel) rfl (Nat.le_of_ble_eq_true rfl) (L0 := [some (rf g 0), some (.int a1), none, none, none, none]) rfl (fun Z zh => ?_)
  refine z_aloadnR zh dX8_perform_0 rfl ?_
  refine z_getf zh fl_RollingNets_12 dX8_perform_1 ck_X rfl rfl ?_
  refine z_getf zh fl_RollingNets_152 dX8_perform_4 (ck_H isH_1) rfl rfl ?_
  refine z_astoren zh dX8_perform_7 (by decide) (L' := [some (rf g 0), some (.int a1), some (rf g (1 + 46)), none, none, none]) rfl ?_
  refine z_aloadnR zh dX8_perform_8 rfl ?_
  refine z_iconst zh dX8_perform_9 ki_1 ?_
  refine z_iloadn zh dX8_perform_10 rfl ?_
  obtain ⟨x1, ex1⟩ : ∃ z, iv (1 + 46) 2 = z := ⟨_, rfl⟩
  have hx1 : Ra 0 24 x1 := ra_of ex1 (si_T hG (isT_p isH_1))
  refine z_callVI zh mv_RollingNets_171 dX8_perform_11 (ck_T (isT_p isH_1)) rfl (s_X7_get g (isT_p isH_1) ex1 hx1) ⟨Nat.le_of_ble_eq_true rfl, Nat.le_of_ble_eq_true rfl⟩ rfl rfl (Nat.le_of_ble_eq_true rfl) ?_
  rintro x2 _ _ ⟨rfl, rfl, gx2⟩
  refine z_istoren zh dX8_perform_14 (by decide) (L' := [some (rf g 0), some (.int a1), some (rf g (1 + 46)), some (.int x2), none, none]) rfl ?_
  refine z_aloadnR zh dX8_perform_15 rfl ?_
  refine z_iconst zh dX8_perform_16 ki_2 ?_
  refine z_iloadn zh dX8_perform_17 rfl ?_
  refine z_callVI zh mv_RollingNets_171 dX8_perform_18 (ck_T (isT_p isH_1)) rfl (s_X7_get g (isT_p isH_1) ex1 hx1) ⟨Nat.le_of_ble_eq_true rfl, Nat.le_of_ble_eq_true rfl⟩ rfl rfl (Nat.le_of_ble_eq_true rfl) ?_
  rintro x3 _ _ ⟨rfl, rfl, gx3⟩
  refine z_istore zh dX8_perform_21 (by decide) (L' := [some (rf g 0), some (.int a1), some (rf g (1 + 46)), some (.int x2), some (.int x3), none]) rfl ?_
  refine z_aloadnR zh dX8_perform_23 rfl ?_
  refine z_iconst zh dX8_perform_24 ki_3 ?_
  refine z_iloadn zh dX8_perform_25 rfl ?_
  refine z_callVI zh mv_RollingNets_171 dX8_perform_26 (ck_T (isT_p isH_1)) rfl (s_X7_get g (isT_p isH_1) ex1 hx1) ⟨Nat.le_of_ble_eq_true rfl, Nat.le_of_ble_eq_true rfl⟩ rfl rfl (Nat.le_of_ble_eq_true rfl) ?_
  rintro x4 _ _ ⟨rfl, rfl, gx4⟩
  refine z_istore zh dX8_perform_29 (by decide) (L' := [some (rf g 0), some (.int a1), some (rf g (1 + 46)), some (.int x2), some (.int x3), some (.int x4)]) rfl ?_
  refine z_aloadnR zh dX8_perform_31 rfl ?_
  refine z_iconst zh dX8_perform_32 ki_0 ?_
  refine z_iloadn zh dX8_perform_33 rfl ?_
  refine z_callVI zh mv_RollingNets_171 dX8_perform_34 (ck_T (isT_p isH_1)) rfl (s_X7_get g (isT_p isH_1) ex1 hx1) ⟨Nat.le_of_ble_eq_true rfl, Nat.le_of_ble_eq_true rfl⟩ rfl rfl (Nat.le_of_ble_eq_true rfl) ?_
  rintro x5 _ _ ⟨rfl, rfl, gx5⟩
  by_cases q6 : 0 ≤ x5.toInt ∧ x5.toInt ≤ 8
  · obtain ⟨jw, hjw, hkw⟩ : ∃ jw : Nat, jw ≤ 8 ∧ x5.toInt = 0 + (jw : Int) := ⟨(x5.toInt - 0).toNat, by omega, by omega⟩
    rcases (by omega : jw = 0 ∨ jw = 1 ∨ jw = 2 ∨ jw = 3 ∨ jw = 4 ∨ jw = 5 ∨ jw = 6 ∨ jw = 7 ∨ jw = 8) with rfl | rfl | rfl | rfl | rfl | rfl | rfl | rfl | rfl
    · have r8 : Ra 0 0 x5 := sw_ra hkw rfl
      refine z_tabIn (off := 51) (tgt := 88) zh dX8_perform_37 (sw_lo r8 (by decide)) (sw_hi r8 (by decide)) (sw_at r8 (by decide)) rfl ?_
      refine z_aloadnR zh dX8_perform_88 rfl ?_
      refine z_iloadn zh dX8_perform_89 rfl ?_
      refine z_iload zh dX8_perform_90 rfl ?_
      refine z_iload zh dX8_perform_92 rfl ?_
      refine z_aloadnR zh dX8_perform_94 rfl ?_
      refine z_iconst zh dX8_perform_95 ki_4 ?_
      refine z_iloadn zh dX8_perform_96 rfl ?_
      refine z_callVI zh mv_RollingNets_171 dX8_perform_97 (ck_T (isT_p isH_1)) rfl (s_X7_get g (isT_p isH_1) ex1 hx1) ⟨Nat.le_of_ble_eq_true rfl, Nat.le_of_ble_eq_true rfl⟩ rfl rfl (Nat.le_of_ble_eq_true rfl) ?_
      rintro x9 _ _ ⟨rfl, rfl, gx9⟩
      refine z_aloadnR zh dX8_perform_100 rfl ?_
      refine z_iconst zh dX8_perform_101 ki_5 ?_
      refine z_iloadn zh dX8_perform_102 rfl ?_
      refine z_callVI zh mv_RollingNets_171 dX8_perform_103 (ck_T (isT_p isH_1)) rfl (s_X7_get g (isT_p isH_1) ex1 hx1) ⟨Nat.le_of_ble_eq_true rfl, Nat.le_of_ble_eq_true rfl⟩ rfl rfl (Nat.le_of_ble_eq_true rfl) ?_
      rintro x10 _ _ ⟨rfl, rfl, gx10⟩
      refine z_callVI zh mv_RollingNets_178 dX8_perform_106 ck_X rfl (s_X8_trade g  hG hq) ⟨Nat.le_of_ble_eq_true rfl, Nat.le_of_ble_eq_true rfl⟩ rfl rfl (Nat.le_of_ble_eq_true rfl) ?_
      rintro x11 iv lv ⟨hG, hx11⟩
      refine z_iconst zh dX8_perform_109 ki_m1 ?_
      refine z_icmp_eq (tgt := 117) zh dX8_perform_110 rfl (fun q12 => ?_) (fun q12 => ?_)
      · have r13 := rb_eq (u := (-1)) (v := (-1)) hx11 rl_n1 q12 (by decide) (by decide)
        refine z_iconst zh dX8_perform_117 ki_0 ?_
        exact z_zret zh dX8_perform_118 (ra_01 (ra_w rl_0 (by decide) (by decide))) ⟨_, rfl, hG, (ra_w rl_0 (by decide) (by decide))⟩
      · have r14 : Ra 0 199 x11 := rb_ne_lo hx11 rl_n1 q12 (by decide)
        refine z_iconst zh dX8_perform_113 ki_1 ?_
        refine z_goto (tgt := 118) zh dX8_perform_114 rfl ?_
        exact z_zret zh dX8_perform_118 (ra_01 (ra_w rl_1 (by decide) (by decide))) ⟨_, rfl, hG, (ra_w rl_1 (by decide) (by decide))⟩
    · have r15 : Ra 1 1 x5 := sw_ra hkw rfl
      refine z_tabIn (off := 82) (tgt := 119) zh dX8_perform_37 (sw_lo r15 (by decide)) (sw_hi r15 (by decide)) (sw_at r15 (by decide)) rfl ?_
      refine z_aloadnR zh dX8_perform_119 rfl ?_
      refine z_iloadn zh dX8_perform_120 rfl ?_
      refine z_iload zh dX8_perform_121 rfl ?_
      refine z_iload zh dX8_perform_123 rfl ?_
      refine z_aloadnR zh dX8_perform_125 rfl ?_
      refine z_iconst zh dX8_perform_126 ki_4 ?_
      refine z_iloadn zh dX8_perform_127 rfl ?_
      refine z_callVI zh mv_RollingNets_171 dX8_perform_128 (ck_T (isT_p isH_1)) rfl (s_X7_get g (isT_p isH_1) ex1 hx1) ⟨Nat.le_of_ble_eq_true rfl, Nat.le_of_ble_eq_true rfl⟩ rfl rfl (Nat.le_of_ble_eq_true rfl) ?_
      rintro x16 _ _ ⟨rfl, rfl, gx16⟩
      refine z_aloadnR zh dX8_perform_131 rfl ?_
      refine z_iconst zh dX8_perform_132 ki_5 ?_
      refine z_iloadn zh dX8_perform_133 rfl ?_
      refine z_callVI zh mv_RollingNets_171 dX8_perform_134 (ck_T (isT_p isH_1)) rfl (s_X7_get g (isT_p isH_1) ex1 hx1) ⟨Nat.le_of_ble_eq_true rfl, Nat.le_of_ble_eq_true rfl⟩ rfl rfl (Nat.le_of_ble_eq_true rfl) ?_
      rintro x17 _ _ ⟨rfl, rfl, gx17⟩
      refine z_callVI zh mv_RollingNets_182 dX8_perform_137 ck_X rfl (s_X8_apart g  hG hq) ⟨Nat.le_of_ble_eq_true rfl, Nat.le_of_ble_eq_true rfl⟩ rfl rfl (Nat.le_of_ble_eq_true rfl) ?_
      rintro x18 iv lv ⟨hG, hx18⟩
      refine z_iconst zh dX8_perform_140 ki_m1 ?_
      refine z_icmp_eq (tgt := 148) zh dX8_perform_141 rfl (fun q19 => ?_) (fun q19 => ?_)
      · have r20 := rb_eq (u := (-1)) (v := (-1)) hx18 rl_n1 q19 (by decide) (by decide)
        refine z_iconst zh dX8_perform_148 ki_0 ?_
        exact z_zret zh dX8_perform_149 (ra_01 (ra_w rl_0 (by decide) (by decide))) ⟨_, rfl, hG, (ra_w rl_0 (by decide) (by decide))⟩
      · have r21 : Ra 0 199 x18 := rb_ne_lo hx18 rl_n1 q19 (by decide)
        refine z_iconst zh dX8_perform_144 ki_1 ?_
        refine z_goto (tgt := 149) zh dX8_perform_145 rfl ?_
        exact z_zret zh dX8_perform_149 (ra_01 (ra_w rl_1 (by decide) (by decide))) ⟨_, rfl, hG, (ra_w rl_1 (by decide) (by decide))⟩
    · have r22 : Ra 2 2 x5 := sw_ra hkw rfl
      refine z_tabIn (off := 113) (tgt := 150) zh dX8_perform_37 (sw_lo r22 (by decide)) (sw_hi r22 (by decide)) (sw_at r22 (by decide)) rfl ?_
      refine z_aloadnR zh dX8_perform_150 rfl ?_
      refine z_iloadn zh dX8_perform_151 rfl ?_
      refine z_iload zh dX8_perform_152 rfl ?_
      refine z_iconst zh dX8_perform_154 ki_0 ?_
      refine z_iload zh dX8_perform_155 rfl ?_
      refine z_callVI zh mv_RollingNets_185 dX8_perform_157 ck_X rfl (s_X8_tell g  hG) ⟨Nat.le_of_ble_eq_true rfl, Nat.le_of_ble_eq_true rfl⟩ rfl rfl (Nat.le_of_ble_eq_true rfl) ?_
      rintro x23 iv lv ⟨hG, hx23, hz24, hz25, hz26⟩
      exact z_zret zh dX8_perform_160 (ra_01 hx23) ⟨_, rfl, hG, hx23⟩
    · have r27 : Ra 3 3 x5 := sw_ra hkw rfl
      refine z_tabIn (off := 124) (tgt := 161) zh dX8_perform_37 (sw_lo r27 (by decide)) (sw_hi r27 (by decide)) (sw_at r27 (by decide)) rfl ?_
      refine z_aloadnR zh dX8_perform_161 rfl ?_
      refine z_iloadn zh dX8_perform_162 rfl ?_
      refine z_iload zh dX8_perform_163 rfl ?_
      refine z_iconst zh dX8_perform_165 ki_1 ?_
      refine z_iload zh dX8_perform_166 rfl ?_
      refine z_callVI zh mv_RollingNets_185 dX8_perform_168 ck_X rfl (s_X8_tell g  hG) ⟨Nat.le_of_ble_eq_true rfl, Nat.le_of_ble_eq_true rfl⟩ rfl rfl (Nat.le_of_ble_eq_true rfl) ?_
      rintro x28 iv lv ⟨hG, hx28, hz29, hz30, hz31⟩
      exact z_zret zh dX8_perform_171 (ra_01 hx28) ⟨_, rfl, hG, hx28⟩
    · have r32 : Ra 4 4 x5 := sw_ra hkw rfl
      refine z_tabIn (off := 135) (tgt := 172) zh dX8_perform_37 (sw_lo r32 (by decide)) (sw_hi r32 (by decide)) (sw_at r32 (by decide)) rfl ?_
      refine z_aloadnR zh dX8_perform_172 rfl ?_
      refine z_iloadn zh dX8_perform_173 rfl ?_
      refine z_iload zh dX8_perform_174 rfl ?_
      refine z_iconst zh dX8_perform_176 ki_2 ?_
      refine z_iload zh dX8_perform_177 rfl ?_
      refine z_callVI zh mv_RollingNets_185 dX8_perform_179 ck_X rfl (s_X8_tell g  hG) ⟨Nat.le_of_ble_eq_true rfl, Nat.le_of_ble_eq_true rfl⟩ rfl rfl (Nat.le_of_ble_eq_true rfl) ?_
      rintro x33 iv lv ⟨hG, hx33, hz34, hz35, hz36⟩
      exact z_zret zh dX8_perform_182 (ra_01 hx33) ⟨_, rfl, hG, hx33⟩
    · have r37 : Ra 5 5 x5 := sw_ra hkw rfl
      refine z_tabIn (off := 146) (tgt := 183) zh dX8_perform_37 (sw_lo r37 (by decide)) (sw_hi r37 (by decide)) (sw_at r37 (by decide)) rfl ?_
      refine z_aloadnR zh dX8_perform_183 rfl ?_
      refine z_iloadn zh dX8_perform_184 rfl ?_
      refine z_iconst zh dX8_perform_185 ki_0 ?_
      refine z_iconst zh dX8_perform_186 ki_3 ?_
      refine z_iload zh dX8_perform_187 rfl ?_
      refine z_callVI zh mv_RollingNets_185 dX8_perform_189 ck_X rfl (s_X8_tell g  hG) ⟨Nat.le_of_ble_eq_true rfl, Nat.le_of_ble_eq_true rfl⟩ rfl rfl (Nat.le_of_ble_eq_true rfl) ?_
      rintro x38 iv lv ⟨hG, hx38, hz39, hz40, hz41⟩
      exact z_zret zh dX8_perform_192 (ra_01 hx38) ⟨_, rfl, hG, hx38⟩
    · have r42 : Ra 6 6 x5 := sw_ra hkw rfl
      refine z_tabIn (off := 156) (tgt := 193) zh dX8_perform_37 (sw_lo r42 (by decide)) (sw_hi r42 (by decide)) (sw_at r42 (by decide)) rfl ?_
      refine z_aloadnR zh dX8_perform_193 rfl ?_
      refine z_iloadn zh dX8_perform_194 rfl ?_
      refine z_iload zh dX8_perform_195 rfl ?_
      refine z_callVI zh mv_RollingNets_189 dX8_perform_197 ck_X rfl (s_X8_price g  hG) ⟨Nat.le_of_ble_eq_true rfl, Nat.le_of_ble_eq_true rfl⟩ rfl rfl (Nat.le_of_ble_eq_true rfl) ?_
      rintro x43 iv lv ⟨hG, hx43, hz44, hz45⟩
      exact z_zret zh dX8_perform_200 (ra_01 hx43) ⟨_, rfl, hG, hx43⟩
    · have r46 : Ra 7 7 x5 := sw_ra hkw rfl
      refine z_tabIn (off := 164) (tgt := 201) zh dX8_perform_37 (sw_lo r46 (by decide)) (sw_hi r46 (by decide)) (sw_at r46 (by decide)) rfl ?_
      refine z_aloadnR zh dX8_perform_201 rfl ?_
      refine z_getf zh fl_RollingNets_12 dX8_perform_202 ck_X rfl rfl ?_
      refine z_iloadn zh dX8_perform_205 rfl ?_
      refine z_iload zh dX8_perform_206 rfl ?_
      refine z_iload zh dX8_perform_208 rfl ?_
      refine z_callSI zh ms_RollingNets_129 dX8_perform_210 (s_X5_giveNet g isH_1 hG hq) ⟨Nat.le_of_ble_eq_true rfl, Nat.le_of_ble_eq_true rfl⟩ rfl rfl (Nat.le_of_ble_eq_true rfl) ?_
      rintro x47 iv lv ⟨hG, hx47⟩
      refine z_iconst zh dX8_perform_213 ki_m1 ?_
      refine z_icmp_eq (tgt := 221) zh dX8_perform_214 rfl (fun q48 => ?_) (fun q48 => ?_)
      · have r49 := rb_eq (u := (-1)) (v := (-1)) hx47 rl_n1 q48 (by decide) (by decide)
        refine z_iconst zh dX8_perform_221 ki_0 ?_
        exact z_zret zh dX8_perform_222 (ra_01 (ra_w rl_0 (by decide) (by decide))) ⟨_, rfl, hG, (ra_w rl_0 (by decide) (by decide))⟩
      · have r50 : Ra 0 59 x47 := rb_ne_lo hx47 rl_n1 q48 (by decide)
        refine z_iconst zh dX8_perform_217 ki_1 ?_
        refine z_goto (tgt := 222) zh dX8_perform_218 rfl ?_
        exact z_zret zh dX8_perform_222 (ra_01 (ra_w rl_1 (by decide) (by decide))) ⟨_, rfl, hG, (ra_w rl_1 (by decide) (by decide))⟩
    · have r51 : Ra 8 8 x5 := sw_ra hkw rfl
      refine z_tabIn (off := 186) (tgt := 223) zh dX8_perform_37 (sw_lo r51 (by decide)) (sw_hi r51 (by decide)) (sw_at r51 (by decide)) rfl ?_
      refine z_aloadnR zh dX8_perform_223 rfl ?_
      refine z_getf zh fl_RollingNets_12 dX8_perform_224 ck_X rfl rfl ?_
      refine z_iloadn zh dX8_perform_227 rfl ?_
      refine z_callSI zh ms_RollingNets_135 dX8_perform_228 (s_X5_giveApart g isH_1 hG hq) ⟨Nat.le_of_ble_eq_true rfl, Nat.le_of_ble_eq_true rfl⟩ rfl rfl (Nat.le_of_ble_eq_true rfl) ?_
      rintro x52 iv lv ⟨hG, hx52⟩
      refine z_iconst zh dX8_perform_231 ki_m1 ?_
      refine z_icmp_eq (tgt := 239) zh dX8_perform_232 rfl (fun q53 => ?_) (fun q53 => ?_)
      · have r54 := rb_eq (u := (-1)) (v := (-1)) hx52 rl_n1 q53 (by decide) (by decide)
        refine z_iconst zh dX8_perform_239 ki_0 ?_
        exact z_zret zh dX8_perform_240 (ra_01 (ra_w rl_0 (by decide) (by decide))) ⟨_, rfl, hG, (ra_w rl_0 (by decide) (by decide))⟩
      · have r55 : Ra 0 59 x52 := rb_ne_lo hx52 rl_n1 q53 (by decide)
        refine z_iconst zh dX8_perform_235 ki_1 ?_
        refine z_goto (tgt := 240) zh dX8_perform_236 rfl ?_
        exact z_zret zh dX8_perform_240 (ra_01 (ra_w rl_1 (by decide) (by decide))) ⟨_, rfl, hG, (ra_w rl_1 (by decide) (by decide))⟩
  · refine z_tabOut (tgt := 241) zh dX8_perform_37 (sw_out q6) rfl ?_
    refine z_iconst zh dX8_perform_241 ki_0 ?_
    exact z_zret zh dX8_perform_242 (ra_01 (ra_w rl_0 (by decide) (by decide))) ⟨_, rfl, hG, (ra_w rl_0 (by decide) (by decide))⟩
set_option maxRecDepth 20000 in
theorem s_X8_queue (g : GE) {sp : Nat → Nat → Bool} {σ : Iv} {iv : Iv} {lv : Lv} {a1 : Int32} {a2 : Int32} {a3 : Int32}  (hG : SI sp σ iv)  : ConI g yX8_queue cX8_queue 5 (some .int) 5 [rf g 0, .int a1, .int a2, .int a3] iv lv (fun r iv lv => SI sp σ iv ∧ True) := by
  refine con_intro (own := "RollingNets") (by decide +kernel) rfl (Nat.le_of_ble_eq_true rfl) (L0 := [some (rf g 0), some (.int a1), some (.int a2), some (.int a3), none]) rfl (fun Z zh => ?_)
  refine z_iloadn zh dX8_queue_0 rfl ?_
  refine z_callSI zh ms_RollingNets_68 dX8_queue_1 (s_X8_isIssue g  hG) ⟨Nat.le_of_ble_eq_true rfl, Nat.le_of_ble_eq_true rfl⟩ rfl rfl (Nat.le_of_ble_eq_true rfl) ?_
  rintro x1 _ _ ⟨rfl, rfl, hx1, hz2⟩
  refine z_if_ne (tgt := 9) zh dX8_queue_4 rfl (fun q3 => ?_) (fun q3 => ?_)
  · have r4 : Ra 1 1 x1 := rb_ne_lo hx1 ra_z q3 (by decide)
    have r5 : Ra 0 5 a1 := (hz2 q3)
    refine z_aloadnR zh dX8_queue_9 rfl ?_
    refine z_getf zh fl_RollingNets_12 dX8_queue_10 ck_X rfl rfl ?_
    refine z_getf zh fl_RollingNets_236 dX8_queue_13 (ck_H isH_1) rfl rfl ?_
    refine z_astore zh dX8_queue_16 (by decide) (L' := [some (rf g 0), some (.int a1), some (.int a2), some (.int a3), some (rf g (1 + 54))]) rfl ?_
    refine z_aloadR zh dX8_queue_18 rfl ?_
    refine z_aloadnR zh dX8_queue_20 rfl ?_
    refine z_getf zh fl_RollingNets_12 dX8_queue_21 ck_X rfl rfl ?_
    refine z_iloadn zh dX8_queue_24 rfl ?_
    refine z_callVV zh mv_RollingNets_240 dX8_queue_25 (ck_line isH_1) rfl (s_X2_form g isH_1 isH_1 r5 hG) ⟨Nat.le_of_ble_eq_true rfl, Nat.le_of_ble_eq_true rfl⟩ rfl rfl (Nat.le_of_ble_eq_true rfl) ?_
    rintro iv lv hG
    refine z_iloadn zh dX8_queue_28 rfl ?_
    refine z_iconst zh dX8_queue_29 ki_m1 ?_
    refine z_icmp_ne (tgt := 39) zh dX8_queue_30 rfl (fun q6 => ?_) (fun q6 => ?_)
    · refine z_iloadn zh dX8_queue_39 rfl ?_
      refine z_if_lt (tgt := 52) zh dX8_queue_40 rfl (fun q7 => ?_) (fun q7 => ?_)
      · have r8 : Ra (-2147483648) (-1) a2 := rb_lt_l ra_z (ra_tt a2) q7 (by decide)
        refine z_iconst zh dX8_queue_52 ki_m1 ?_
        exact z_iret zh dX8_queue_53 ⟨_, rfl, hG, trivial⟩
      · have r9 : Ra 0 2147483647 a2 := rb_le_r ra_z (ra_tt a2) (rb_nlt q7) (by decide)
        refine z_iloadn zh dX8_queue_43 rfl ?_
        refine z_aloadR zh dX8_queue_44 rfl ?_
        refine y_getI zh fl_RollingNets_246 dX8_queue_46 (ck_line isH_1) rfl rfl (fun x10 ex10 => ?_)
        have hx10 : Ra 0 1200 x10 := ra_of ex10 (si_H hG isH_1 54 (by decide) rfl)
        refine z_icmp_lt (tgt := 54) zh dX8_queue_49 rfl (fun q11 => ?_) (fun q11 => ?_)
        · have r12 : Ra 0 1199 a2 := rb_lt_l hx10 r9 q11 (by decide)
          have r13 : Ra 1 1200 x10 := rb_lt_r r9 hx10 q11 (by decide)
          refine z_iloadn zh dX8_queue_54 rfl ?_
          by_cases q14 : 0 ≤ a3.toInt ∧ a3.toInt ≤ 2
          · obtain ⟨jw, hjw, hkw⟩ : ∃ jw : Nat, jw ≤ 2 ∧ a3.toInt = 0 + (jw : Int) := ⟨(a3.toInt - 0).toNat, by omega, by omega⟩
            rcases (by omega : jw = 0 ∨ jw = 1 ∨ jw = 2) with rfl | rfl | rfl
            · have r16 : Ra 0 0 a3 := sw_ra hkw rfl
              refine z_tabIn (off := 25) (tgt := 80) zh dX8_queue_55 (sw_lo r16 (by decide)) (sw_hi r16 (by decide)) (sw_at r16 (by decide)) rfl ?_
              refine z_aloadR zh dX8_queue_80 rfl ?_
              refine z_getf zh fl_RollingNets_248 dX8_queue_82 (ck_line isH_1) rfl rfl ?_
              refine z_iloadn zh dX8_queue_85 rfl ?_
              refine y_iald zh (ck_lineM isH_1) dX8_queue_86 r12 (by decide) (by decide) (fun x17 ex17 => ?_)
              have hx17 : Ra 0 11 x17 := ra_of ex17 (si_H hG isH_1 55 (by decide) rfl)
              exact z_iret zh dX8_queue_87 ⟨_, rfl, hG, trivial⟩
            · have r18 : Ra 1 1 a3 := sw_ra hkw rfl
              refine z_tabIn (off := 33) (tgt := 88) zh dX8_queue_55 (sw_lo r18 (by decide)) (sw_hi r18 (by decide)) (sw_at r18 (by decide)) rfl ?_
              refine z_aloadR zh dX8_queue_88 rfl ?_
              refine z_getf zh fl_RollingNets_251 dX8_queue_90 (ck_line isH_1) rfl rfl ?_
              refine z_iloadn zh dX8_queue_93 rfl ?_
              refine y_iald zh (ck_lineD isH_1) dX8_queue_94 r12 (by decide) (by decide) (fun x19 ex19 => ?_)
              have hx19 : Ra 0 99 x19 := ra_of ex19 (si_H hG isH_1 56 (by decide) rfl)
              exact z_iret zh dX8_queue_95 ⟨_, rfl, hG, trivial⟩
            · have r20 : Ra 2 2 a3 := sw_ra hkw rfl
              refine z_tabIn (off := 41) (tgt := 96) zh dX8_queue_55 (sw_lo r20 (by decide)) (sw_hi r20 (by decide)) (sw_at r20 (by decide)) rfl ?_
              refine z_aloadnR zh dX8_queue_96 rfl ?_
              refine z_getf zh fl_RollingNets_12 dX8_queue_97 ck_X rfl rfl ?_
              refine z_getf zh fl_RollingNets_72 dX8_queue_100 (ck_H isH_1) rfl rfl ?_
              refine z_iloadn zh dX8_queue_103 rfl ?_
              refine y_mald zh (ck_markets isH_1) dX8_queue_104 r5 (by decide) (by decide) (fun j21 hj21 _ _ => ?_)
              refine z_getf zh fl_RollingNets_205 dX8_queue_105 (ck_M (isM_of isH_1 hj21)) rfl rfl ?_
              refine z_aloadR zh dX8_queue_108 rfl ?_
              refine z_getf zh fl_RollingNets_248 dX8_queue_110 (ck_line isH_1) rfl rfl ?_
              refine z_iloadn zh dX8_queue_113 rfl ?_
              refine y_iald zh (ck_lineM isH_1) dX8_queue_114 r12 (by decide) (by decide) (fun x22 ex22 => ?_)
              have hx22 : Ra 0 11 x22 := ra_of ex22 (si_H hG isH_1 55 (by decide) rfl)
              refine y_gald zh (ck_lots (isM_of isH_1 hj21)) dX8_queue_115 hx22 (by decide) (by decide) (fun j23 hj23 _ _ => ?_)
              refine z_aloadR zh dX8_queue_116 rfl ?_
              refine z_getf zh fl_RollingNets_251 dX8_queue_118 (ck_line isH_1) rfl rfl ?_
              refine z_iloadn zh dX8_queue_121 rfl ?_
              refine y_iald zh (ck_lineD isH_1) dX8_queue_122 r12 (by decide) (by decide) (fun x24 ex24 => ?_)
              have hx24 : Ra 0 99 x24 := ra_of ex24 (si_H hG isH_1 56 (by decide) rfl)
              refine y_iald zh (ck_row (isM_of isH_1 hj21) hj23) dX8_queue_123 hx24 (by decide) (by decide) (fun x25 ex25 => ?_)
              exact z_iret zh dX8_queue_124 ⟨_, rfl, hG, trivial⟩
          · refine z_tabOut (tgt := 125) zh dX8_queue_55 (sw_out q14) rfl ?_
            refine z_iconst zh dX8_queue_125 ki_m1 ?_
            exact z_iret zh dX8_queue_126 ⟨_, rfl, hG, trivial⟩
        · refine z_iconst zh dX8_queue_52 ki_m1 ?_
          exact z_iret zh dX8_queue_53 ⟨_, rfl, hG, trivial⟩
    · have r26 := rb_eq (u := (-1)) (v := (-1)) (ra_tt a2) rl_n1 q6 (by decide) (by decide)
      refine z_aloadR zh dX8_queue_33 rfl ?_
      refine y_getI zh fl_RollingNets_246 dX8_queue_35 (ck_line isH_1) rfl rfl (fun x27 ex27 => ?_)
      have hx27 : Ra 0 1200 x27 := ra_of ex27 (si_H hG isH_1 54 (by decide) rfl)
      exact z_iret zh dX8_queue_38 ⟨_, rfl, hG, trivial⟩
  · have r28 := rb_eq (u := 0) (v := 0) hx1 ra_z q3 (by decide) (by decide)
    refine z_iconst zh dX8_queue_7 ki_m1 ?_
    exact z_iret zh dX8_queue_8 ⟨_, rfl, hG, trivial⟩
set_option maxRecDepth 20000 in
theorem s_X8_reached (g : GE) {sp : Nat → Nat → Bool} {σ : Iv} {iv : Iv} {lv : Lv} {a1 : Int32} {a2 : Int32}  (hG : SI sp σ iv)  : ConI g yX8_reached cX8_reached 4 (some .int) 4 [rf g 0, .int a1, .int a2] iv lv (fun r iv lv => SI sp σ iv ∧ Ra (-1) 12 r) := by
  refine con_intro (own := "RollingNets") (by decide +kernel) rfl (Nat.le_of_ble_eq_true rfl) (L0 := [some (rf g 0), some (.int a1), some (.int a2), none]) rfl (fun Z zh => ?_)
  refine z_aloadnR zh dX8_reached_0 rfl ?_
  refine z_getf zh fl_RollingNets_12 dX8_reached_1 ck_X rfl rfl ?_
  refine z_getf zh fl_RollingNets_47 dX8_reached_4 (ck_H isH_1) rfl rfl ?_
  refine z_astoren zh dX8_reached_7 (by decide) (L' := [some (rf g 0), some (.int a1), some (.int a2), some (rf g (1 + 7))]) rfl ?_
  refine z_aloadnR zh dX8_reached_8 rfl ?_
  refine z_iconst zh dX8_reached_9 ki_5 ?_
  refine z_iloadn zh dX8_reached_10 rfl ?_
  obtain ⟨x1, ex1⟩ : ∃ z, iv (1 + 7) 2 = z := ⟨_, rfl⟩
  have hx1 : Ra 0 200 x1 := ra_of ex1 (si_T hG (isT_d isH_1))
  refine z_callVI zh mv_RollingNets_171 dX8_reached_11 (ck_T (isT_d isH_1)) rfl (s_X7_get g (isT_d isH_1) ex1 hx1) ⟨Nat.le_of_ble_eq_true rfl, Nat.le_of_ble_eq_true rfl⟩ rfl rfl (Nat.le_of_ble_eq_true rfl) ?_
  rintro x2 _ _ ⟨rfl, rfl, gx2⟩
  refine z_iconst zh dX8_reached_14 ki_1 ?_
  refine z_icmp_ne (tgt := 29) zh dX8_reached_15 rfl (fun q3 => ?_) (fun q3 => ?_)
  · refine z_iconst zh dX8_reached_29 ki_m1 ?_
    exact z_iret zh dX8_reached_30 ⟨_, rfl, hG, (ra_w rl_n1 (by decide) (by decide))⟩
  · have r4 := rb_eq (u := 1) (v := 1) (ra_tt x2) rl_1 q3 (by decide) (by decide)
    refine z_aloadnR zh dX8_reached_18 rfl ?_
    refine z_bipush zh dX8_reached_19 kb_7 ?_
    refine z_iloadn zh dX8_reached_21 rfl ?_
    refine z_callVI zh mv_RollingNets_171 dX8_reached_22 (ck_T (isT_d isH_1)) rfl (s_X7_get g (isT_d isH_1) ex1 hx1) ⟨Nat.le_of_ble_eq_true rfl, Nat.le_of_ble_eq_true rfl⟩ rfl rfl (Nat.le_of_ble_eq_true rfl) ?_
    rintro x5 _ _ ⟨rfl, rfl, gx5⟩
    refine z_iconst zh dX8_reached_25 ki_1 ?_
    refine z_icmp_ge (tgt := 31) zh dX8_reached_26 rfl (fun q6 => ?_) (fun q6 => ?_)
    · have r7 : Ra 1 2147483647 x5 := rb_le_r rl_1 (ra_tt x5) q6 (by decide)
      refine z_aloadnR zh dX8_reached_31 rfl ?_
      refine z_getf zh fl_RollingNets_12 dX8_reached_32 ck_X rfl rfl ?_
      refine z_iloadn zh dX8_reached_35 rfl ?_
      refine z_aloadnR zh dX8_reached_36 rfl ?_
      refine z_bipush zh dX8_reached_37 kb_7 ?_
      refine z_iloadn zh dX8_reached_39 rfl ?_
      refine z_callVI zh mv_RollingNets_171 dX8_reached_40 (ck_T (isT_d isH_1)) rfl (s_X7_get g (isT_d isH_1) ex1 hx1) ⟨Nat.le_of_ble_eq_true rfl, Nat.le_of_ble_eq_true rfl⟩ rfl rfl (Nat.le_of_ble_eq_true rfl) ?_
      rintro x8 _ _ ⟨rfl, rfl, gx8⟩
      refine z_callSV zh ms_RollingNets_270 dX8_reached_43 (s_X5_layChain g isH_1 hG) ⟨Nat.le_of_ble_eq_true rfl, Nat.le_of_ble_eq_true rfl⟩ rfl rfl (Nat.le_of_ble_eq_true rfl) ?_
      rintro iv lv hG
      refine z_iloadn zh dX8_reached_46 rfl ?_
      by_cases lq0 : a2.toInt = 0
      · have r9 : Ra 0 0 a2 := ⟨Int.le_of_eq lq0.symm, Int.le_of_eq lq0⟩
        refine z_lookup (off := 25) (tgt := 72) zh dX8_reached_47 (by decide) (by rw [lq0]; rfl) rfl ?_
        refine z_aloadnR zh dX8_reached_72 rfl ?_
        refine z_getf zh fl_RollingNets_12 dX8_reached_73 ck_X rfl rfl ?_
        refine z_callSI zh ms_RollingNets_274 dX8_reached_76 (s_X5_lastOfChain g isH_1 hG) ⟨Nat.le_of_ble_eq_true rfl, Nat.le_of_ble_eq_true rfl⟩ rfl rfl (Nat.le_of_ble_eq_true rfl) ?_
        rintro x10 _ _ ⟨rfl, rfl, hx10⟩
        exact z_iret zh dX8_reached_79 ⟨_, rfl, hG, (ra_w hx10 (by decide) (by decide))⟩
      · by_cases lq1 : a2.toInt = 1
        · have r11 : Ra 1 1 a2 := ⟨Int.le_of_eq lq1.symm, Int.le_of_eq lq1⟩
          refine z_lookup (off := 33) (tgt := 80) zh dX8_reached_47 (by decide) (by rw [lq1]; rfl) rfl ?_
          refine z_aloadnR zh dX8_reached_80 rfl ?_
          refine z_getf zh fl_RollingNets_12 dX8_reached_81 ck_X rfl rfl ?_
          refine y_getI zh fl_RollingNets_278 dX8_reached_84 (ck_H isH_1) rfl rfl (fun x12 ex12 => ?_)
          have hx12 : Ra 0 12 x12 := ra_of ex12 (si_H hG isH_1 0 (by decide) rfl)
          exact z_iret zh dX8_reached_87 ⟨_, rfl, hG, (ra_w hx12 (by decide) (by decide))⟩
        · refine z_lookup (off := 41) (tgt := 88) zh dX8_reached_47 (by decide) (by simp [Op.lookupswitch.offset]; rw [if_neg (fun e => lq0 e.symm), if_neg (fun e => lq1 e.symm)]) rfl ?_
          refine z_iconst zh dX8_reached_88 ki_m1 ?_
          exact z_iret zh dX8_reached_89 ⟨_, rfl, hG, (ra_w rl_n1 (by decide) (by decide))⟩
    · have r13 : Ra (-2147483648) 0 x5 := rb_lt_l rl_1 (ra_tt x5) (rb_nle q6) (by decide)
      refine z_iconst zh dX8_reached_29 ki_m1 ?_
      exact z_iret zh dX8_reached_30 ⟨_, rfl, hG, (ra_w rl_n1 (by decide) (by decide))⟩
set_option maxRecDepth 20000 in
theorem s_X8_run (g : GE) {sp : Nat → Nat → Bool} {σ : Iv} {iv : Iv} {lv : Lv} {a1 : Int32}  (hG : SI sp σ iv) (hq : Sq sp) : ConI g yX8_run cX8_run 6 (some .int) 7 [rf g 0, .int a1] iv lv (fun r iv lv => SI sp σ iv ∧ True) := by
  refine con_intro (own := "RollingNets") (by decide +kernel) rfl (Nat.le_of_ble_eq_true rfl) (L0 := [some (rf g 0), some (.int a1), none, none, none, none]) rfl (fun Z zh => ?_)
  refine z_iloadn zh dX8_run_0 rfl ?_
  refine z_iconst zh dX8_run_1 ki_1 ?_
  refine z_bipush zh dX8_run_2 kb_24 ?_
  refine z_callSI zh ms_RollingNets_43 dX8_run_4 (s_X8_within g) ⟨Nat.le_of_ble_eq_true rfl, Nat.le_of_ble_eq_true rfl⟩ rfl rfl (Nat.le_of_ble_eq_true rfl) ?_
  rintro x1 _ _ ⟨rfl, rfl, hx1, hz2⟩
  refine z_if_ne (tgt := 12) zh dX8_run_7 rfl (fun q3 => ?_) (fun q3 => ?_)
  · have r4 : Ra 1 1 x1 := rb_ne_lo hx1 ra_z q3 (by decide)
    have r5 : Ra 1 24 a1 := (rb_in rl_1 rl_24 (hz2 q3))
    refine z_iconst zh dX8_run_12 ki_0 ?_
    refine z_istoren zh dX8_run_13 (by decide) (L' := [some (rf g 0), some (.int a1), some (.int (nI 0)), none, none, none]) rfl ?_
    refine z_iconst zh dX8_run_14 ki_0 ?_
    refine z_istoren zh dX8_run_15 (by decide) (L' := [some (rf g 0), some (.int a1), some (.int (nI 0)), some (.int (nI 0)), none, none]) rfl ?_
    have J16 : ∀ (n : Nat) (iv : Iv) (lv : Lv) (x6 : Int32) (x7 : Int32), SI sp σ iv → Ra 0 24 x7 → 24 - x7.toInt < (n : Int) → Z 16 [some (rf g 0), some (.int a1), some (.int x6), some (.int x7), none, none] [] iv lv := by
      intro n
      induction n with
      | zero => intro iv lv x6 x7 hG hx7 hn16; exact (ms_uz hx7 hn16).elim
      | succ n ih16 =>
        intro iv lv x6 x7 hG hx7 hn16
        refine z_iloadn zh dX8_run_16 rfl ?_
        refine z_iloadn zh dX8_run_17 rfl ?_
        refine z_icmp_ge (tgt := 138) zh dX8_run_18 rfl (fun q8 => ?_) (fun q8 => ?_)
        · have r9 : Ra 1 24 x7 := rb_le_r r5 hx7 q8 (by decide)
          refine z_iloadn zh dX8_run_138 rfl ?_
          exact z_iret zh dX8_run_139 ⟨_, rfl, hG, trivial⟩
        · have r10 : Ra 0 23 x7 := rb_lt_l r5 hx7 (rb_nle q8) (by decide)
          refine z_aloadnR zh dX8_run_21 rfl ?_
          refine z_getf zh fl_RollingNets_12 dX8_run_22 ck_X rfl rfl ?_
          refine y_getI zh fl_RollingNets_162 dX8_run_25 (ck_H isH_1) rfl rfl (fun x11 ex11 => ?_)
          refine z_aloadnR zh dX8_run_28 rfl ?_
          refine z_getf zh fl_RollingNets_12 dX8_run_29 ck_X rfl rfl ?_
          refine z_getf zh fl_RollingNets_152 dX8_run_32 (ck_H isH_1) rfl rfl ?_
          obtain ⟨x12, ex12⟩ : ∃ z, iv (1 + 46) 2 = z := ⟨_, rfl⟩
          have hx12 : Ra 0 24 x12 := ra_of ex12 (si_T hG (isT_p isH_1))
          refine z_callVIp zh mv_RollingNets_51 dX8_run_35 (ck_T (isT_p isH_1)) rfl (s_X7_size g (isT_p isH_1) ex12) ⟨Nat.le_of_ble_eq_true rfl, Nat.le_of_ble_eq_true rfl⟩ rfl rfl (Nat.le_of_ble_eq_true rfl) ?_
          refine z_icmp_ge (tgt := 138) zh dX8_run_38 rfl (fun q13 => ?_) (fun q13 => ?_)
          · have r14 : Ra 0 2147483647 x11 := rb_le_r hx12 (ra_tt x11) q13 (by decide)
            refine z_iloadn zh dX8_run_138 rfl ?_
            exact z_iret zh dX8_run_139 ⟨_, rfl, hG, trivial⟩
          · have r15 : Ra (-2147483648) 23 x11 := rb_lt_l hx12 (ra_tt x11) (rb_nle q13) (by decide)
            refine z_aloadnR zh dX8_run_41 rfl ?_
            refine z_getf zh fl_RollingNets_12 dX8_run_42 ck_X rfl rfl ?_
            refine z_getI (x := x11) zh fl_RollingNets_162 dX8_run_45 (ck_H isH_1) rfl rfl ex11 ?_
            refine z_istore zh dX8_run_48 (by decide) (L' := [some (rf g 0), some (.int a1), some (.int x6), some (.int x7), some (.int x11), none]) rfl ?_
            refine z_aloadnR zh dX8_run_50 rfl ?_
            refine z_getf zh fl_RollingNets_12 dX8_run_51 ck_X rfl rfl ?_
            refine z_dup zh dX8_run_54 rfl ?_
            refine z_getI (x := x11) zh fl_RollingNets_162 dX8_run_55 (ck_H isH_1) rfl rfl ex11 ?_
            refine z_iconst zh dX8_run_58 ki_1 ?_
            refine y_iadd zh dX8_run_59 r15 rl_1 (u := (-2147483647)) (v := 24) rfl rfl (by decide) (by decide) (fun x16 hc16 hx16 => ?_)
            refine z_putI zh fl_RollingNets_162 dX8_run_60 (ck_H isH_1) rfl rfl (Nat.le_of_ble_eq_true rfl) (Or.inl rfl) ?_
            have hG : SI sp σ (upI iv 1 10 x16) := si_wHq hG hq isH_1 0 (by decide) (rx_none rfl)
            have em17 := (upI_ne (iv := iv) (k := 1) (j := 10) (x := x16) (a := 1 + 46) (b := 2) (Or.inl (by omega))).trans ex12
            have em18 : upI iv 1 10 x16 1 10 = x16 := by rw [upI_at, if_pos ⟨rfl, rfl⟩]
            generalize upI iv 1 10 x16 = iv at hG em17 em18 ⊢
            refine z_aloadnR zh dX8_run_63 rfl ?_
            refine z_getf zh fl_RollingNets_12 dX8_run_64 ck_X rfl rfl ?_
            refine z_getf zh fl_RollingNets_152 dX8_run_67 (ck_H isH_1) rfl rfl ?_
            refine z_iconst zh dX8_run_70 ki_0 ?_
            refine z_iload zh dX8_run_71 rfl ?_
            refine z_callVI zh mv_RollingNets_171 dX8_run_73 (ck_T (isT_p isH_1)) rfl (s_X7_get g (isT_p isH_1) em17 hx12) ⟨Nat.le_of_ble_eq_true rfl, Nat.le_of_ble_eq_true rfl⟩ rfl rfl (Nat.le_of_ble_eq_true rfl) ?_
            rintro x19 _ _ ⟨rfl, rfl, gx19⟩
            refine z_bipush zh dX8_run_76 kb_9 ?_
            have J86 : ∀ (iv : Iv) (lv : Lv) (x20 : Int32), SI sp σ iv → Ra 0 1 x20 → iv (1 + 46) 2 = x12 → iv 1 10 = x16 → Z 86 [some (rf g 0), some (.int a1), some (.int x6), some (.int x7), some (.int x11), none] [.int x20] iv lv := by
              intro iv lv x20 hG hx20 em21 em22
              refine z_istore zh dX8_run_86 (by decide) (L' := [some (rf g 0), some (.int a1), some (.int x6), some (.int x7), some (.int x11), some (.int x20)]) rfl ?_
              refine z_iload zh dX8_run_88 rfl ?_
              have J132 : ∀ (iv : Iv) (lv : Lv) (x23 : Int32), SI sp σ iv → Z 132 [some (rf g 0), some (.int a1), some (.int x23), some (.int x7), some (.int x11), some (.int x20)] [] iv lv := by
                intro iv lv x23 hG
                refine y_iinc (L' := fun z => [some (rf g 0), some (.int a1), some (.int x23), some (.int z), some (.int x11), some (.int x20)]) zh dX8_run_132 (by decide) rfl (by decide +kernel) r10 (u := 1) (v := 24) rfl rfl (by decide) (by decide) (fun _ => rfl) (fun x24 hc24 hx24 => ?_)
                refine z_goto (tgt := 16) zh dX8_run_135 rfl ?_
                refine z_forget zh [true, true, true, true, false, false] (L2 := [some (rf g 0), some (.int a1), some (.int x23), some (.int x24), none, none]) rfl ?_
                exact ih16 iv lv x23 x24 hG (ra_w hx24 (by decide) (by decide)) (ms_up hc24 (by decide) hn16)
              have J129 : ∀ (iv : Iv) (lv : Lv), SI sp σ iv → Z 129 [some (rf g 0), some (.int a1), some (.int x6), some (.int x7), some (.int x11), some (.int x20)] [] iv lv := by
                intro iv lv hG
                refine y_iincT (L' := fun z => [some (rf g 0), some (.int a1), some (.int z), some (.int x7), some (.int x11), some (.int x20)]) zh dX8_run_129 (by decide) rfl (fun _ => rfl) (fun x25 => ?_)
                exact J132 iv lv x25 hG
              refine z_if_eq (tgt := 120) zh dX8_run_90 rfl (fun q26 => ?_) (fun q26 => ?_)
              · have r27 := rb_eq (u := 0) (v := 0) hx20 ra_z q26 (by decide) (by decide)
                refine z_aloadnR zh dX8_run_120 rfl ?_
                refine z_iload zh dX8_run_121 rfl ?_
                refine z_callVI zh mv_RollingNets_175 dX8_run_123 ck_X rfl (s_X8_perform g r15 hG hq) ⟨Nat.le_of_ble_eq_true rfl, Nat.le_of_ble_eq_true rfl⟩ rfl rfl (Nat.le_of_ble_eq_true rfl) ?_
                rintro x28 iv lv ⟨hG, hx28⟩
                refine z_if_eq (tgt := 132) zh dX8_run_126 rfl (fun q29 => ?_) (fun q29 => ?_)
                · have r30 := rb_eq (u := 0) (v := 0) hx28 ra_z q29 (by decide) (by decide)
                  exact J132 iv lv x6 hG
                · have r31 : Ra 1 1 x28 := rb_ne_lo hx28 ra_z q29 (by decide)
                  exact J129 iv lv hG
              · have r32 : Ra 1 1 x20 := rb_ne_lo hx20 ra_z q26 (by decide)
                refine z_aloadnR zh dX8_run_93 rfl ?_
                refine z_getf zh fl_RollingNets_12 dX8_run_94 ck_X rfl rfl ?_
                refine z_aloadnR zh dX8_run_97 rfl ?_
                refine z_getf zh fl_RollingNets_12 dX8_run_98 ck_X rfl rfl ?_
                refine z_getf zh fl_RollingNets_152 dX8_run_101 (ck_H isH_1) rfl rfl ?_
                refine z_iconst zh dX8_run_104 ki_1 ?_
                refine z_iload zh dX8_run_105 rfl ?_
                refine z_callVI zh mv_RollingNets_171 dX8_run_107 (ck_T (isT_p isH_1)) rfl (s_X7_get g (isT_p isH_1) em21 hx12) ⟨Nat.le_of_ble_eq_true rfl, Nat.le_of_ble_eq_true rfl⟩ rfl rfl (Nat.le_of_ble_eq_true rfl) ?_
                rintro x33 _ _ ⟨rfl, rfl, gx33⟩
                refine z_callSI zh ms_RollingNets_123 dX8_run_110 (s_X4_pass g isH_1 hG hq) ⟨Nat.le_of_ble_eq_true rfl, Nat.le_of_ble_eq_true rfl⟩ rfl rfl (Nat.le_of_ble_eq_true rfl) ?_
                rintro x34 iv lv ⟨hG, hx34⟩
                refine z_iconst zh dX8_run_113 ki_m1 ?_
                refine z_icmp_eq (tgt := 132) zh dX8_run_114 rfl (fun q35 => ?_) (fun q35 => ?_)
                · have r36 := rb_eq (u := (-1)) (v := (-1)) hx34 rl_n1 q35 (by decide) (by decide)
                  exact J132 iv lv x6 hG
                · have r37 : Ra 0 20 x34 := rb_ne_lo hx34 rl_n1 q35 (by decide)
                  refine z_goto (tgt := 129) zh dX8_run_117 rfl ?_
                  exact J129 iv lv hG
            refine z_icmp_ne (tgt := 85) zh dX8_run_78 rfl (fun q38 => ?_) (fun q38 => ?_)
            · refine z_iconst zh dX8_run_85 ki_0 ?_
              exact J86 iv lv (nI 0) hG (ra_w rl_0 (by decide) (by decide)) em17 em18
            · have r39 := rb_eq (u := 9) (v := 9) (ra_tt x19) rl_9 q38 (by decide) (by decide)
              refine z_iconst zh dX8_run_81 ki_1 ?_
              refine z_goto (tgt := 86) zh dX8_run_82 rfl ?_
              exact J86 iv lv (nI 1) hG (ra_w rl_1 (by decide) (by decide)) em17 em18
    exact J16 25 iv lv (nI 0) (nI 0) hG (ra_w rl_0 (by decide) (by decide)) (ms_u0 rl_0 (by decide))
  · have r40 := rb_eq (u := 0) (v := 0) hx1 ra_z q3 (by decide) (by decide)
    refine z_iconst zh dX8_run_10 ki_m1 ?_
    exact z_iret zh dX8_run_11 ⟨_, rfl, hG, trivial⟩
set_option maxRecDepth 20000 in
theorem s_X8_split (g : GE) {sp : Nat → Nat → Bool} {σ : Iv} {iv : Iv} {lv : Lv} {a1 : Int32} {a2 : Int32}  (hG : SI sp σ iv)  : ConI g yX8_split cX8_split 3 (some .boolean) 4 [rf g 0, .int a1, .int a2] iv lv (fun r iv lv => SI sp σ iv ∧ Ra 0 1 r ∧ (¬ r = 0 → Ra 0 5 a1) ∧ (¬ r = 0 → Ra 2 5 a2)) := by
  refine con_intro (own := "RollingNets") (by decide +kernel) rfl (Nat.le_of_ble_eq_true rfl) (L0 := [some (rf g 0), some (.int a1), some (.int a2)]) rfl (fun Z zh => ?_)
  refine z_iloadn zh dX8_split_0 rfl ?_
  refine z_callSI zh ms_RollingNets_68 dX8_split_1 (s_X8_isIssue g  hG) ⟨Nat.le_of_ble_eq_true rfl, Nat.le_of_ble_eq_true rfl⟩ rfl rfl (Nat.le_of_ble_eq_true rfl) ?_
  rintro x1 _ _ ⟨rfl, rfl, hx1, hz2⟩
  refine z_if_eq (tgt := 27) zh dX8_split_4 rfl (fun q3 => ?_) (fun q3 => ?_)
  · have r4 := rb_eq (u := 0) (v := 0) hx1 ra_z q3 (by decide) (by decide)
    refine z_iconst zh dX8_split_27 ki_0 ?_
    exact z_zret zh dX8_split_28 (ra_01 (ra_w rl_0 (by decide) (by decide))) ⟨_, rfl, hG, (ra_w rl_0 (by decide) (by decide)), (fun q => absurd rfl q), (fun q => absurd rfl q)⟩
  · have r5 : Ra 1 1 x1 := rb_ne_lo hx1 ra_z q3 (by decide)
    have r6 : Ra 0 5 a1 := (hz2 q3)
    refine z_iloadn zh dX8_split_7 rfl ?_
    refine z_iconst zh dX8_split_8 ki_2 ?_
    refine z_iconst zh dX8_split_9 ki_5 ?_
    refine z_callSI zh ms_RollingNets_43 dX8_split_10 (s_X8_within g) ⟨Nat.le_of_ble_eq_true rfl, Nat.le_of_ble_eq_true rfl⟩ rfl rfl (Nat.le_of_ble_eq_true rfl) ?_
    rintro x7 _ _ ⟨rfl, rfl, hx7, hz8⟩
    refine z_if_eq (tgt := 27) zh dX8_split_13 rfl (fun q9 => ?_) (fun q9 => ?_)
    · have r10 := rb_eq (u := 0) (v := 0) hx7 ra_z q9 (by decide) (by decide)
      refine z_iconst zh dX8_split_27 ki_0 ?_
      exact z_zret zh dX8_split_28 (ra_01 (ra_w rl_0 (by decide) (by decide))) ⟨_, rfl, hG, (ra_w rl_0 (by decide) (by decide)), (fun q => absurd rfl q), (fun q => absurd rfl q)⟩
    · have r11 : Ra 1 1 x7 := rb_ne_lo hx7 ra_z q9 (by decide)
      have r12 : Ra 2 5 a2 := (rb_in rl_2 rl_5 (hz8 q9))
      refine z_aloadnR zh dX8_split_16 rfl ?_
      refine z_getf zh fl_RollingNets_12 dX8_split_17 ck_X rfl rfl ?_
      refine z_iloadn zh dX8_split_20 rfl ?_
      refine z_callVI zh mv_RollingNets_106 dX8_split_21 (ck_H isH_1) rfl (s_X1_hasOpen g isH_1 r6 hG) ⟨Nat.le_of_ble_eq_true rfl, Nat.le_of_ble_eq_true rfl⟩ rfl rfl (Nat.le_of_ble_eq_true rfl) ?_
      rintro x13 _ _ ⟨rfl, rfl, hx13⟩
      refine z_if_eq (tgt := 29) zh dX8_split_24 rfl (fun q14 => ?_) (fun q14 => ?_)
      · have r15 := rb_eq (u := 0) (v := 0) hx13 ra_z q14 (by decide) (by decide)
        refine z_aloadnR zh dX8_split_29 rfl ?_
        refine z_getf zh fl_RollingNets_12 dX8_split_30 ck_X rfl rfl ?_
        refine z_getf zh fl_RollingNets_72 dX8_split_33 (ck_H isH_1) rfl rfl ?_
        refine z_iloadn zh dX8_split_36 rfl ?_
        refine y_mald zh (ck_markets isH_1) dX8_split_37 r6 (by decide) (by decide) (fun j16 hj16 _ _ => ?_)
        refine z_iloadn zh dX8_split_38 rfl ?_
        refine z_aloadnR zh dX8_split_39 rfl ?_
        refine z_getf zh fl_RollingNets_12 dX8_split_40 ck_X rfl rfl ?_
        refine z_callVI zh mv_RollingNets_109 dX8_split_43 (ck_H isH_1) rfl (s_X1_members g isH_1 hG) ⟨Nat.le_of_ble_eq_true rfl, Nat.le_of_ble_eq_true rfl⟩ rfl rfl (Nat.le_of_ble_eq_true rfl) ?_
        rintro x17 _ _ ⟨rfl, rfl, hx17⟩
        refine z_callVI zh mv_RollingNets_112 dX8_split_46 (ck_M (isM_of isH_1 hj16)) rfl (s_X3_multiply g (isM_of isH_1 hj16) r12 hx17 hG) ⟨Nat.le_of_ble_eq_true rfl, Nat.le_of_ble_eq_true rfl⟩ rfl rfl (Nat.le_of_ble_eq_true rfl) ?_
        rintro x18 iv lv ⟨hG, hx18⟩
        exact z_zret zh dX8_split_49 (ra_01 hx18) ⟨_, rfl, hG, hx18, (fun _ => r6), (fun _ => r12)⟩
      · have r19 : Ra 1 1 x13 := rb_ne_lo hx13 ra_z q14 (by decide)
        refine z_iconst zh dX8_split_27 ki_0 ?_
        exact z_zret zh dX8_split_28 (ra_01 (ra_w rl_0 (by decide) (by decide))) ⟨_, rfl, hG, (ra_w rl_0 (by decide) (by decide)), (fun q => absurd rfl q), (fun q => absurd rfl q)⟩
set_option maxRecDepth 20000 in
theorem s_X8_statement (g : GE) {sp : Nat → Nat → Bool} {σ : Iv} {iv : Iv} {lv : Lv} {a1 : Int32} {a2 : Int32} {a3 : Int32}  (hG : SI sp σ iv)  : ConI g yX8_statement cX8_statement 4 (some .int) 3 [rf g 0, .int a1, .int a2, .int a3] iv lv (fun r iv' lv' => iv = iv' ∧ lv = lv' ∧ True) := by
  refine con_intro (own := "RollingNets") (by decide +kernel) rfl (Nat.le_of_ble_eq_true rfl) (L0 := [some (rf g 0), some (.int a1), some (.int a2), some (.int a3)]) rfl (fun Z zh => ?_)
  refine z_aloadnR zh dX8_statement_0 rfl ?_
  refine z_getf zh fl_RollingNets_12 dX8_statement_1 ck_X rfl rfl ?_
  refine z_iloadn zh dX8_statement_4 rfl ?_
  refine z_callVI zh mv_RollingNets_60 dX8_statement_5 (ck_H isH_1) rfl (s_X1_hasMember g isH_1 hG) ⟨Nat.le_of_ble_eq_true rfl, Nat.le_of_ble_eq_true rfl⟩ rfl rfl (Nat.le_of_ble_eq_true rfl) ?_
  rintro x1 _ _ ⟨rfl, rfl, hx1, hz2⟩
  refine z_if_eq (tgt := 20) zh dX8_statement_8 rfl (fun q3 => ?_) (fun q3 => ?_)
  · have r4 := rb_eq (u := 0) (v := 0) hx1 ra_z q3 (by decide) (by decide)
    refine z_iconst zh dX8_statement_20 ki_m1 ?_
    exact z_iret zh dX8_statement_21 ⟨_, rfl, rfl, rfl, trivial⟩
  · have r5 : Ra 1 1 x1 := rb_ne_lo hx1 ra_z q3 (by decide)
    have r6 : Ra 0 11 a1 := (hz2 q3)
    refine z_iloadn zh dX8_statement_11 rfl ?_
    refine z_iconst zh dX8_statement_12 ki_0 ?_
    refine z_iconst zh dX8_statement_13 ki_4 ?_
    refine z_callSI zh ms_RollingNets_43 dX8_statement_14 (s_X8_within g) ⟨Nat.le_of_ble_eq_true rfl, Nat.le_of_ble_eq_true rfl⟩ rfl rfl (Nat.le_of_ble_eq_true rfl) ?_
    rintro x7 _ _ ⟨rfl, rfl, hx7, hz8⟩
    refine z_if_ne (tgt := 22) zh dX8_statement_17 rfl (fun q9 => ?_) (fun q9 => ?_)
    · have r10 : Ra 1 1 x7 := rb_ne_lo hx7 ra_z q9 (by decide)
      have r11 : Ra 0 4 a2 := (rb_in rl_0 rl_4 (hz8 q9))
      refine z_aloadnR zh dX8_statement_22 rfl ?_
      refine z_getf zh fl_RollingNets_12 dX8_statement_23 ck_X rfl rfl ?_
      refine z_getf zh fl_RollingNets_221 dX8_statement_26 (ck_H isH_1) rfl rfl ?_
      refine z_iloadn zh dX8_statement_29 rfl ?_
      refine z_iloadn zh dX8_statement_30 rfl ?_
      refine z_iloadn zh dX8_statement_31 rfl ?_
      have J40 : ∀ (x12 : Int32), Ra 3 4 x12 → Z 40 [some (rf g 0), some (.int a1), some (.int a2), some (.int a3)] [.int x12, .int a2, .int a1, rf g (1 + 38)] iv lv := by
        intro x12 hx12
        refine z_callSI zh ms_RollingNets_257 dX8_statement_40 (s_X0_booked g (isT_b isH_1) r6 r11 hx12 hG) ⟨Nat.le_of_ble_eq_true rfl, Nat.le_of_ble_eq_true rfl⟩ rfl rfl (Nat.le_of_ble_eq_true rfl) ?_
        rintro x13 _ _ ⟨rfl, rfl, _⟩
        exact z_iret zh dX8_statement_43 ⟨_, rfl, rfl, rfl, trivial⟩
      refine z_if_eq (tgt := 39) zh dX8_statement_32 rfl (fun q14 => ?_) (fun q14 => ?_)
      · have r15 := rb_eq (u := 0) (v := 0) (ra_tt a3) ra_z q14 (by decide) (by decide)
        refine z_iconst zh dX8_statement_39 ki_3 ?_
        exact J40 (nI 3) (ra_w rl_3 (by decide) (by decide))
      · refine z_iconst zh dX8_statement_35 ki_4 ?_
        refine z_goto (tgt := 40) zh dX8_statement_36 rfl ?_
        exact J40 (nI 4) (ra_w rl_4 (by decide) (by decide))
    · have r16 := rb_eq (u := 0) (v := 0) hx7 ra_z q9 (by decide) (by decide)
      refine z_iconst zh dX8_statement_20 ki_m1 ?_
      exact z_iret zh dX8_statement_21 ⟨_, rfl, rfl, rfl, trivial⟩
set_option maxRecDepth 20000 in
theorem s_X8_stress (g : GE) {sp : Nat → Nat → Bool} {σ : Iv} {iv : Iv} {lv : Lv} {a1 : Int32}  (hG : SI sp σ iv)  : ConI g yX8_stress cX8_stress 2 (some .int) 3 [rf g 0, .int a1] iv lv (fun r iv' lv' => iv = iv' ∧ lv = lv' ∧ True) := by
  refine con_intro (own := "RollingNets") (by decide +kernel) rfl (Nat.le_of_ble_eq_true rfl) (L0 := [some (rf g 0), some (.int a1)]) rfl (fun Z zh => ?_)
  refine z_iloadn zh dX8_stress_0 rfl ?_
  refine z_bipush zh dX8_stress_1 kb_n99 ?_
  refine z_bipush zh dX8_stress_3 kb_99 ?_
  refine z_callSI zh ms_RollingNets_43 dX8_stress_5 (s_X8_within g) ⟨Nat.le_of_ble_eq_true rfl, Nat.le_of_ble_eq_true rfl⟩ rfl rfl (Nat.le_of_ble_eq_true rfl) ?_
  rintro x1 _ _ ⟨rfl, rfl, hx1, hz2⟩
  refine z_if_eq (tgt := 22) zh dX8_stress_8 rfl (fun q3 => ?_) (fun q3 => ?_)
  · have r4 := rb_eq (u := 0) (v := 0) hx1 ra_z q3 (by decide) (by decide)
    refine z_iconst zh dX8_stress_22 ki_m1 ?_
    exact z_iret zh dX8_stress_23 ⟨_, rfl, rfl, rfl, trivial⟩
  · have r5 : Ra 1 1 x1 := rb_ne_lo hx1 ra_z q3 (by decide)
    have r6 : Ra (-99) 99 a1 := (rb_in rl_n99 rl_99 (hz2 q3))
    refine z_aloadnR zh dX8_stress_11 rfl ?_
    refine z_getf zh fl_RollingNets_12 dX8_stress_12 ck_X rfl rfl ?_
    refine z_iloadn zh dX8_stress_15 rfl ?_
    refine z_callSI zh ms_RollingNets_233 dX8_stress_16 (s_X0_sunk g isH_1 r6 hG) ⟨Nat.le_of_ble_eq_true rfl, Nat.le_of_ble_eq_true rfl⟩ rfl rfl (Nat.le_of_ble_eq_true rfl) ?_
    rintro x7 _ _ ⟨rfl, rfl, _⟩
    refine z_goto (tgt := 23) zh dX8_stress_19 rfl ?_
    exact z_iret zh dX8_stress_23 ⟨_, rfl, rfl, rfl, trivial⟩
set_option maxRecDepth 20000 in
theorem s_X8_suspend (g : GE) {sp : Nat → Nat → Bool} {σ : Iv} {iv : Iv} {lv : Lv} {a1 : Int32} {a2 : Int32}  (hG : SI sp σ iv)  : ConI g yX8_suspend cX8_suspend 3 (some .boolean) 2 [rf g 0, .int a1, .int a2] iv lv (fun r iv lv => SI sp σ iv ∧ Ra 0 1 r ∧ (¬ r = 0 → Ra 0 11 a1)) := by
  refine con_intro (own := "RollingNets") (by decide +kernel) rfl (Nat.le_of_ble_eq_true rfl) (L0 := [some (rf g 0), some (.int a1), some (.int a2)]) rfl (fun Z zh => ?_)
  refine z_aloadnR zh dX8_suspend_0 rfl ?_
  refine z_getf zh fl_RollingNets_12 dX8_suspend_1 ck_X rfl rfl ?_
  refine z_iloadn zh dX8_suspend_4 rfl ?_
  refine z_callVI zh mv_RollingNets_60 dX8_suspend_5 (ck_H isH_1) rfl (s_X1_hasMember g isH_1 hG) ⟨Nat.le_of_ble_eq_true rfl, Nat.le_of_ble_eq_true rfl⟩ rfl rfl (Nat.le_of_ble_eq_true rfl) ?_
  rintro x1 _ _ ⟨rfl, rfl, hx1, hz2⟩
  refine z_if_ne (tgt := 13) zh dX8_suspend_8 rfl (fun q3 => ?_) (fun q3 => ?_)
  · have r4 : Ra 1 1 x1 := rb_ne_lo hx1 ra_z q3 (by decide)
    have r5 : Ra 0 11 a1 := (hz2 q3)
    refine z_aloadnR zh dX8_suspend_13 rfl ?_
    refine z_getf zh fl_RollingNets_12 dX8_suspend_14 ck_X rfl rfl ?_
    refine z_getf zh fl_RollingNets_115 dX8_suspend_17 (ck_H isH_1) rfl rfl ?_
    refine z_iloadn zh dX8_suspend_20 rfl ?_
    refine z_iloadn zh dX8_suspend_21 rfl ?_
    refine z_zast zh (ck_susp isH_1) dX8_suspend_22 (ra_in r5 (by decide) (by decide)) ?_
    have hG : SI sp σ (upI iv (1 + 5) a1.toNatClampNeg (vp_nar .boolean a2)) := si_wH hG isH_1 5 (by decide) rfl (rx_none rfl)
    generalize upI iv (1 + 5) a1.toNatClampNeg (vp_nar .boolean a2) = iv at hG  ⊢
    refine z_iconst zh dX8_suspend_23 ki_1 ?_
    exact z_zret zh dX8_suspend_24 (ra_01 (ra_w rl_1 (by decide) (by decide))) ⟨_, rfl, hG, (ra_w rl_1 (by decide) (by decide)), (fun _ => r5)⟩
  · have r6 := rb_eq (u := 0) (v := 0) hx1 ra_z q3 (by decide) (by decide)
    refine z_iconst zh dX8_suspend_11 ki_0 ?_
    exact z_zret zh dX8_suspend_12 (ra_01 (ra_w rl_0 (by decide) (by decide))) ⟨_, rfl, hG, (ra_w rl_0 (by decide) (by decide)), (fun q => absurd rfl q)⟩
