/-! TELL, SUSPEND, COLLATERAL, SET: what they answer -/
theorem rg_of {a b : Nat} {l u : Int} {x : Int32} (h : Ra l u x) (ha : a < 2 ^ 31) (hb : b < 2 ^ 31) (h1 : (a : Int) ≤ l) (h2 : u ≤ (b : Int)) : Rg (nI a) (nI b) x := by
  have := h.1; have := h.2
  exact ⟨leI.mpr (by rw [nI_toInt ha]; omega), leI.mpr (by rw [nI_toInt hb]; omega)⟩
theorem n3_02 : ¬ Ra 0 2 (nI 3) := fun h => absurd h.2 (by decide)
def TlOk (m a b c d : Int32) : Prop := Mb m a ∧ ((c = nI 3 ∧ Rg (nI 0) (nI 9) d) ∨ (Rg (nI 0) (nI 2) c ∧ InN 6 b ∧ Rg (nI 0) (nI 99999) d))
set_option maxRecDepth 20000 in
theorem e_X8_tellRank (g : GE) {sp : Nat → Nat → Bool} {σ : Iv} {iv : Iv} {lv : Lv} {a1 : Int32} {a2 : Int32} (ha1 : Ra 0 11 a1) (hG : SI sp σ iv)  : ConI g yX8_tellRank cX8_tellRank 3 (some .boolean) 2 [rf g 0, .int a1, .int a2] iv lv (fun r iv lv => SI sp σ iv ∧ Ra 0 1 r ∧ (¬ r = 0 → Ra 0 9 a2) ∧ r = bi (Rg (nI 0) (nI 9) a2)) := by
  refine con_intro (own := "RollingNets") (by decide +kernel) rfl (Nat.le_of_ble_eq_true rfl) (L0 := [some (rf g 0), some (.int a1), some (.int a2)]) rfl (fun Z zh => ?_)
  refine z_iloadn zh dX8_tellRank_0 rfl ?_
  refine z_iconst zh dX8_tellRank_1 ki_0 ?_
  refine z_bipush zh dX8_tellRank_2 kb_9 ?_
  refine z_callSI zh ms_RollingNets_43 dX8_tellRank_4 (t_X8_within g) ⟨Nat.le_of_ble_eq_true rfl, Nat.le_of_ble_eq_true rfl⟩ rfl rfl (Nat.le_of_ble_eq_true rfl) ?_
  rintro x1 _ _ ⟨rfl, rfl, hx1, hz2, hw1⟩
  refine z_if_ne (tgt := 12) zh dX8_tellRank_7 rfl (fun q3 => ?_) (fun q3 => ?_)
  · have r4 : Ra 1 1 x1 := rb_ne_lo hx1 ra_z q3 (by decide)
    have r5 : Ra 0 9 a2 := (rb_in rl_0 rl_9 (hz2 q3))
    refine z_aloadnR zh dX8_tellRank_12 rfl ?_
    refine z_getf zh fl_RollingNets_12 dX8_tellRank_13 ck_X rfl rfl ?_
    refine z_getf zh fl_RollingNets_88 dX8_tellRank_16 (ck_H isH_1) rfl rfl ?_
    refine z_iloadn zh dX8_tellRank_19 rfl ?_
    refine z_iloadn zh dX8_tellRank_20 rfl ?_
    refine z_iast zh (ck_rank isH_1) dX8_tellRank_21 (ra_in ha1 (by decide) (by decide)) ?_
    have hG : SI sp σ (upI iv (1 + 3) a1.toNatClampNeg a2) := si_wH hG isH_1 3 (by decide) rfl (rx_none rfl)
    generalize upI iv (1 + 3) a1.toNatClampNeg a2 = iv at hG  ⊢
    refine z_iconst zh dX8_tellRank_22 ki_1 ?_
    exact z_zret zh dX8_tellRank_23 (ra_01 (ra_w rl_1 (by decide) (by decide))) ⟨_, rfl, hG, (ra_w rl_1 (by decide) (by decide)), (fun _ => r5), (bi_p (byc (mt hw1.mpr q3))).symm⟩
  · have r6 := rb_eq (u := 0) (v := 0) hx1 ra_z q3 (by decide) (by decide)
    refine z_iconst zh dX8_tellRank_10 ki_0 ?_
    exact z_zret zh dX8_tellRank_11 (ra_01 (ra_w rl_0 (by decide) (by decide))) ⟨_, rfl, hG, (ra_w rl_0 (by decide) (by decide)), (fun q => absurd rfl q), (bi_n (hw1.mp q3)).symm⟩
set_option maxRecDepth 20000 in
theorem e_X8_tell (g : GE) {sp : Nat → Nat → Bool} {σ : Iv} {iv : Iv} {lv : Lv} {a1 : Int32} {a2 : Int32} {a3 : Int32} {a4 : Int32}  {m : Int32} (hG : SI sp σ iv) (em : iv 2 0 = m)  : ConI g yX8_tell cX8_tell 6 (some .boolean) 3 [rf g 0, .int a1, .int a2, .int a3, .int a4] iv lv (fun r iv lv => SI sp σ iv ∧ Ra 0 1 r ∧ (¬ r = 0 → Ra 0 11 a1) ∧ (¬ r = 0 → Ra 0 3 a3) ∧ (¬ r = 0 → Ra 0 99999 a4) ∧ r = bi (TlOk m a1 a2 a3 a4)) := by
  have hm : Ra 2 12 m := ra_of em (si_H hG isH_1 1 (by decide) rfl)
  refine con_intro (own := "RollingNets") (by decide +kernel) rfl (Nat.le_of_ble_eq_true rfl) (L0 := [some (rf g 0), some (.int a1), some (.int a2), some (.int a3), some (.int a4), none]) rfl (fun Z zh => ?_)
  refine z_aloadnR zh dX8_tell_0 rfl ?_
  refine z_getf zh fl_RollingNets_12 dX8_tell_1 ck_X rfl rfl ?_
  refine z_iloadn zh dX8_tell_4 rfl ?_
  refine z_callVI zh mv_RollingNets_60 dX8_tell_5 (ck_H isH_1) rfl (t_X1_hasMember g isH_1 hm em) ⟨Nat.le_of_ble_eq_true rfl, Nat.le_of_ble_eq_true rfl⟩ rfl rfl (Nat.le_of_ble_eq_true rfl) ?_
  rintro x1 _ _ ⟨rfl, rfl, hx1, hz2, hw1⟩
  refine z_if_ne (tgt := 13) zh dX8_tell_8 rfl (fun q3 => ?_) (fun q3 => ?_)
  · have r4 : Ra 1 1 x1 := rb_ne_lo hx1 ra_z q3 (by decide)
    have r5 : Ra 0 11 a1 := (hz2 q3)
    refine z_iloadn zh dX8_tell_13 rfl ?_
    refine z_iconst zh dX8_tell_14 ki_3 ?_
    refine z_icmp_ne (tgt := 26) zh dX8_tell_15 rfl (fun q6 => ?_) (fun q6 => ?_)
    · refine z_iloadn zh dX8_tell_26 rfl ?_
      refine z_callSI zh ms_RollingNets_68 dX8_tell_27 (t_X8_isIssue g) ⟨Nat.le_of_ble_eq_true rfl, Nat.le_of_ble_eq_true rfl⟩ rfl rfl (Nat.le_of_ble_eq_true rfl) ?_
      rintro x7 _ _ ⟨rfl, rfl, hx7, hz8, hw7⟩
      refine z_if_eq (tgt := 44) zh dX8_tell_30 rfl (fun q9 => ?_) (fun q9 => ?_)
      · have r10 := rb_eq (u := 0) (v := 0) hx7 ra_z q9 (by decide) (by decide)
        refine z_iconst zh dX8_tell_44 ki_0 ?_
        exact z_zret zh dX8_tell_45 (ra_01 (ra_w rl_0 (by decide) (by decide))) ⟨_, rfl, hG, (ra_w rl_0 (by decide) (by decide)), (fun q => absurd rfl q), (fun q => absurd rfl q), (fun q => absurd rfl q), (bi_n (fun w => w.2.elim (fun z => q6 z.1) (fun z => hw7.mp q9 z.2.1))).symm⟩
      · have r11 : Ra 1 1 x7 := rb_ne_lo hx7 ra_z q9 (by decide)
        have r12 : Ra 0 5 a2 := (hz8 q9)
        refine z_iload zh dX8_tell_33 rfl ?_
        refine z_iconst zh dX8_tell_35 ki_0 ?_
        refine z_ldc zh dX8_tell_36 kc_RollingNets_71 ?_
        refine z_callSI zh ms_RollingNets_43 dX8_tell_38 (t_X8_within g) ⟨Nat.le_of_ble_eq_true rfl, Nat.le_of_ble_eq_true rfl⟩ rfl rfl (Nat.le_of_ble_eq_true rfl) ?_
        rintro x13 _ _ ⟨rfl, rfl, hx13, hz14, hw13⟩
        refine z_if_ne (tgt := 46) zh dX8_tell_41 rfl (fun q15 => ?_) (fun q15 => ?_)
        · have r16 : Ra 1 1 x13 := rb_ne_lo hx13 ra_z q15 (by decide)
          have r17 : Ra 0 99999 a4 := (rb_in rl_0 rl_99999 (hz14 q15))
          refine z_aloadnR zh dX8_tell_46 rfl ?_
          refine z_getf zh fl_RollingNets_12 dX8_tell_47 ck_X rfl rfl ?_
          refine z_getf zh fl_RollingNets_72 dX8_tell_50 (ck_H isH_1) rfl rfl ?_
          refine z_iloadn zh dX8_tell_53 rfl ?_
          refine y_mald zh (ck_markets isH_1) dX8_tell_54 r12 (by decide) (by decide) (fun j18 hj18 _ _ => ?_)
          refine z_astore zh dX8_tell_55 (by decide) (L' := [some (rf g 0), some (.int a1), some (.int a2), some (.int a3), some (.int a4), some (rf g (1 + 60 + 20 * j18))]) rfl ?_
          refine z_iloadn zh dX8_tell_57 rfl ?_
          by_cases q19 : 0 ≤ a3.toInt ∧ a3.toInt ≤ 2
          · obtain ⟨jw, hjw, hkw⟩ : ∃ jw : Nat, jw ≤ 2 ∧ a3.toInt = 0 + (jw : Int) := ⟨(a3.toInt - 0).toNat, by omega, by omega⟩
            rcases (by omega : jw = 0 ∨ jw = 1 ∨ jw = 2) with rfl | rfl | rfl
            · have r21 : Ra 0 0 a3 := sw_ra hkw rfl
              refine z_tabIn (off := 26) (tgt := 84) zh dX8_tell_58 (sw_lo r21 (by decide)) (sw_hi r21 (by decide)) (sw_at r21 (by decide)) rfl ?_
              refine z_aloadR zh dX8_tell_84 rfl ?_
              refine z_getf zh fl_RollingNets_76 dX8_tell_86 (ck_M (isM_of isH_1 hj18)) rfl rfl ?_
              refine z_iloadn zh dX8_tell_89 rfl ?_
              refine z_iload zh dX8_tell_90 rfl ?_
              refine y_i2l zh dX8_tell_92 (fun l22 => ?_)
              refine z_last zh (ck_stock (isM_of isH_1 hj18)) dX8_tell_93 (ra_in r5 (by decide) (by decide)) ?_
              generalize upL lv (1 + 60 + 20 * j18 + 1) a1.toNatClampNeg l22 = lv
              refine z_iconst zh dX8_tell_94 ki_1 ?_
              exact z_zret zh dX8_tell_95 (ra_01 (ra_w rl_1 (by decide) (by decide))) ⟨_, rfl, hG, (ra_w rl_1 (by decide) (by decide)), (fun _ => r5), (fun _ => (ra_w r21 (by decide) (by decide))), (fun _ => r17), (bi_p ⟨byc (mt hw1.mpr q3), Or.inr ⟨rg_of r21 (by decide) (by decide) (by decide) (by decide), byc (mt hw7.mpr q9), byc (mt hw13.mpr q15)⟩⟩).symm⟩
            · have r23 : Ra 1 1 a3 := sw_ra hkw rfl
              refine z_tabIn (off := 38) (tgt := 96) zh dX8_tell_58 (sw_lo r23 (by decide)) (sw_hi r23 (by decide)) (sw_at r23 (by decide)) rfl ?_
              refine z_aloadR zh dX8_tell_96 rfl ?_
              refine z_getf zh fl_RollingNets_82 dX8_tell_98 (ck_M (isM_of isH_1 hj18)) rfl rfl ?_
              refine z_iloadn zh dX8_tell_101 rfl ?_
              refine z_iload zh dX8_tell_102 rfl ?_
              refine z_iast zh (ck_mi 2 (by decide) (isM_of isH_1 hj18)) dX8_tell_104 (ra_in r5 (by decide) (by decide)) ?_
              have hG : SI sp σ (upI iv (1 + 60 + 20 * j18 + 2) a1.toNatClampNeg a4) := si_wM hG (isM_of isH_1 hj18) 2 (by decide) (rx_none rfl)
              generalize upI iv (1 + 60 + 20 * j18 + 2) a1.toNatClampNeg a4 = iv at hG  ⊢
              refine z_iconst zh dX8_tell_105 ki_1 ?_
              exact z_zret zh dX8_tell_106 (ra_01 (ra_w rl_1 (by decide) (by decide))) ⟨_, rfl, hG, (ra_w rl_1 (by decide) (by decide)), (fun _ => r5), (fun _ => (ra_w r23 (by decide) (by decide))), (fun _ => r17), (bi_p ⟨byc (mt hw1.mpr q3), Or.inr ⟨rg_of r23 (by decide) (by decide) (by decide) (by decide), byc (mt hw7.mpr q9), byc (mt hw13.mpr q15)⟩⟩).symm⟩
            · have r24 : Ra 2 2 a3 := sw_ra hkw rfl
              refine z_tabIn (off := 49) (tgt := 107) zh dX8_tell_58 (sw_lo r24 (by decide)) (sw_hi r24 (by decide)) (sw_at r24 (by decide)) rfl ?_
              refine z_aloadR zh dX8_tell_107 rfl ?_
              refine z_getf zh fl_RollingNets_85 dX8_tell_109 (ck_M (isM_of isH_1 hj18)) rfl rfl ?_
              refine z_iloadn zh dX8_tell_112 rfl ?_
              refine z_iload zh dX8_tell_113 rfl ?_
              refine z_iast zh (ck_mi 3 (by decide) (isM_of isH_1 hj18)) dX8_tell_115 (ra_in r5 (by decide) (by decide)) ?_
              have hG : SI sp σ (upI iv (1 + 60 + 20 * j18 + 3) a1.toNatClampNeg a4) := si_wM hG (isM_of isH_1 hj18) 3 (by decide) (rx_none rfl)
              generalize upI iv (1 + 60 + 20 * j18 + 3) a1.toNatClampNeg a4 = iv at hG  ⊢
              refine z_iconst zh dX8_tell_116 ki_1 ?_
              exact z_zret zh dX8_tell_117 (ra_01 (ra_w rl_1 (by decide) (by decide))) ⟨_, rfl, hG, (ra_w rl_1 (by decide) (by decide)), (fun _ => r5), (fun _ => (ra_w r24 (by decide) (by decide))), (fun _ => r17), (bi_p ⟨byc (mt hw1.mpr q3), Or.inr ⟨rg_of r24 (by decide) (by decide) (by decide) (by decide), byc (mt hw7.mpr q9), byc (mt hw13.mpr q15)⟩⟩).symm⟩
          · refine z_tabOut (tgt := 118) zh dX8_tell_58 (sw_out q19) rfl ?_
            refine z_iconst zh dX8_tell_118 ki_0 ?_
            exact z_zret zh dX8_tell_119 (ra_01 (ra_w rl_0 (by decide) (by decide))) ⟨_, rfl, hG, (ra_w rl_0 (by decide) (by decide)), (fun q => absurd rfl q), (fun q => absurd rfl q), (fun q => absurd rfl q), (bi_n (fun w => w.2.elim (fun z => q6 z.1) (fun z => q19 (rgRa z.1 (by decide) (by decide))))).symm⟩
        · have r25 := rb_eq (u := 0) (v := 0) hx13 ra_z q15 (by decide) (by decide)
          refine z_iconst zh dX8_tell_44 ki_0 ?_
          exact z_zret zh dX8_tell_45 (ra_01 (ra_w rl_0 (by decide) (by decide))) ⟨_, rfl, hG, (ra_w rl_0 (by decide) (by decide)), (fun q => absurd rfl q), (fun q => absurd rfl q), (fun q => absurd rfl q), (bi_n (fun w => w.2.elim (fun z => q6 z.1) (fun z => hw13.mp q15 z.2.2))).symm⟩
    · have r26 := rb_eq (u := 3) (v := 3) (ra_tt a3) rl_3 q6 (by decide) (by decide)
      refine z_aloadnR zh dX8_tell_18 rfl ?_
      refine z_iloadn zh dX8_tell_19 rfl ?_
      refine z_iload zh dX8_tell_20 rfl ?_
      refine z_callVI zh mv_RollingNets_64 dX8_tell_22 ck_X rfl (e_X8_tellRank g r5 hG) ⟨Nat.le_of_ble_eq_true rfl, Nat.le_of_ble_eq_true rfl⟩ rfl rfl (Nat.le_of_ble_eq_true rfl) ?_
      rintro x27 iv lv ⟨hG, hx27, hz28, hb27⟩
      exact z_zret zh dX8_tell_25 (ra_01 hx27) ⟨_, rfl, hG, hx27, (fun _ => r5), (fun _ => (ra_w r26.1 (by decide) (by decide))), (fun q => ra_w (hz28 q) (by decide) (by decide)), (hb27.trans (bi_iff ⟨fun w => ⟨byc (mt hw1.mpr q3), Or.inl ⟨q6, w⟩⟩, fun w => w.2.elim (fun z => z.2) (fun z => absurd (rgRa (l := 0) (u := 2) z.1 (by decide) (by decide)) (by rw [q6]; exact n3_02))⟩))⟩
  · have r29 := rb_eq (u := 0) (v := 0) hx1 ra_z q3 (by decide) (by decide)
    refine z_iconst zh dX8_tell_11 ki_0 ?_
    exact z_zret zh dX8_tell_12 (ra_01 (ra_w rl_0 (by decide) (by decide))) ⟨_, rfl, hG, (ra_w rl_0 (by decide) (by decide)), (fun q => absurd rfl q), (fun q => absurd rfl q), (fun q => absurd rfl q), (bi_n (fun w => hw1.mp q3 w.1)).symm⟩
set_option maxRecDepth 20000 in
theorem e_X9_tell (g : GE) {sp : Nat → Nat → Bool} {σ : Iv} {iv : Iv} {lv : Lv} {a1 : Int32} {a2 : Int32} {a3 : Int32} {a4 : Int32}  {m : Int32} (hG : SI sp σ iv) (hm : Ra 2 12 m) (em : (iv 552 0).toInt + 6 = m.toInt)  : ConI g yX9_tell cX9_tell 5 (some .boolean) 3 [rf g 551, .int a1, .int a2, .int a3, .int a4] iv lv (fun r iv lv => SI sp σ iv ∧ Ra 0 1 r ∧ (¬ r = 0 → Ra 0 11 a1) ∧ (¬ r = 0 → Ra 0 3 a3) ∧ (¬ r = 0 → Ra 0 99999 a4) ∧ r = bi (TlOk m a1 a2 a3 a4)) := by
  refine con_intro (own := "RollingNetsModel") (by decide +kernel) rfl (Nat.le_of_ble_eq_true rfl) (L0 := [some (rf g 551), some (.int a1), some (.int a2), some (.int a3), some (.int a4)]) rfl (fun Z zh => ?_)
  refine z_aloadnR zh dX9_tell_0 rfl ?_
  refine z_iconst zh dX9_tell_1 ki_0 ?_
  refine z_putI zh fl_Y_58 dX9_tell_2 ck_Y rfl rfl (Nat.le_of_ble_eq_true rfl) (Or.inl rfl) ?_
  have hG : SI sp σ (upI iv 551 0 (nI 0)) := si_w (k := 551) (j := 0) hG (by decide) (by decide) (sp_no hG ((spc_Y (q := 0)).trans rfl)) (fun lo hi q => (rx_none rfl) lo hi ((rg_Y (q := 0)).symm.trans q))
  have em1 : upI iv 551 0 (nI 0) 551 0 = nI 0 := by rw [upI_at, if_pos ⟨rfl, rfl⟩]
  have em : (upI iv 551 0 (nI 0) 552 0).toInt + 6 = m.toInt := by rw [upI_ne (Or.inl (by decide))]; exact em
  generalize upI iv 551 0 (nI 0) = iv at hG em1 em ⊢
  refine z_aloadnR zh dX9_tell_5 rfl ?_
  refine z_iloadn zh dX9_tell_6 rfl ?_
  refine z_callVI zh mv_Y_90 dX9_tell_7 ck_Y rfl (t_X9_isMember g hm em) ⟨Nat.le_of_ble_eq_true rfl, Nat.le_of_ble_eq_true rfl⟩ rfl rfl (Nat.le_of_ble_eq_true rfl) ?_
  rintro x2 _ _ ⟨rfl, rfl, hx2, hz3, hw2⟩
  refine z_if_eq (tgt := 23) zh dX9_tell_10 rfl (fun q4 => ?_) (fun q4 => ?_)
  · have r5 := rb_eq (u := 0) (v := 0) hx2 ra_z q4 (by decide) (by decide)
    refine z_iconst zh dX9_tell_23 ki_0 ?_
    exact z_zret zh dX9_tell_24 (ra_01 (ra_w rl_0 (by decide) (by decide))) ⟨_, rfl, hG, (ra_w rl_0 (by decide) (by decide)), (fun q => absurd rfl q), (fun q => absurd rfl q), (fun q => absurd rfl q), (bi_n (fun w => hw2.mp q4 w.1)).symm⟩
  · have r6 : Ra 1 1 x2 := rb_ne_lo hx2 ra_z q4 (by decide)
    have r7 : Ra 0 11 a1 := (hz3 q4)
    refine z_aloadnR zh dX9_tell_13 rfl ?_
    refine z_iloadn zh dX9_tell_14 rfl ?_
    refine z_iconst zh dX9_tell_15 ki_0 ?_
    refine z_iconst zh dX9_tell_16 ki_3 ?_
    refine z_callVI zh mv_Y_79 dX9_tell_17 ck_Y rfl (t_X9_isIn g) ⟨Nat.le_of_ble_eq_true rfl, Nat.le_of_ble_eq_true rfl⟩ rfl rfl (Nat.le_of_ble_eq_true rfl) ?_
    rintro x8 _ _ ⟨rfl, rfl, hx8, hz9, hw8⟩
    refine z_if_ne (tgt := 25) zh dX9_tell_20 rfl (fun q10 => ?_) (fun q10 => ?_)
    · have r11 : Ra 1 1 x8 := rb_ne_lo hx8 ra_z q10 (by decide)
      have r12 : Ra 0 3 a3 := (rb_in rl_0 rl_3 (hz9 q10))
      refine z_iloadn zh dX9_tell_25 rfl ?_
      refine z_iconst zh dX9_tell_26 ki_3 ?_
      refine z_icmp_ne (tgt := 57) zh dX9_tell_27 rfl (fun q13 => ?_) (fun q13 => ?_)
      · have r14 : Ra 0 2 a3 := rb_ne_hi r12 rl_3 q13 (by decide)
        refine z_aloadnR zh dX9_tell_57 rfl ?_
        refine z_iloadn zh dX9_tell_58 rfl ?_
        refine z_callVI zh mv_Y_94 dX9_tell_59 ck_Y rfl (t_X9_isIssue g) ⟨Nat.le_of_ble_eq_true rfl, Nat.le_of_ble_eq_true rfl⟩ rfl rfl (Nat.le_of_ble_eq_true rfl) ?_
        rintro x15 _ _ ⟨rfl, rfl, hx15, hz16, hw15⟩
        refine z_if_eq (tgt := 77) zh dX9_tell_62 rfl (fun q17 => ?_) (fun q17 => ?_)
        · have r18 := rb_eq (u := 0) (v := 0) hx15 ra_z q17 (by decide) (by decide)
          refine z_iconst zh dX9_tell_77 ki_0 ?_
          exact z_zret zh dX9_tell_78 (ra_01 (ra_w rl_0 (by decide) (by decide))) ⟨_, rfl, hG, (ra_w rl_0 (by decide) (by decide)), (fun q => absurd rfl q), (fun q => absurd rfl q), (fun q => absurd rfl q), (bi_n (fun w => w.2.elim (fun z => q13 z.1) (fun z => hw15.mp q17 z.2.1))).symm⟩
        · have r19 : Ra 1 1 x15 := rb_ne_lo hx15 ra_z q17 (by decide)
          have r20 : Ra 0 5 a2 := (hz16 q17)
          refine z_aloadnR zh dX9_tell_65 rfl ?_
          refine z_iload zh dX9_tell_66 rfl ?_
          refine z_iconst zh dX9_tell_68 ki_0 ?_
          refine z_ldc zh dX9_tell_69 kc_Y_97 ?_
          refine z_callVI zh mv_Y_79 dX9_tell_71 ck_Y rfl (t_X9_isIn g) ⟨Nat.le_of_ble_eq_true rfl, Nat.le_of_ble_eq_true rfl⟩ rfl rfl (Nat.le_of_ble_eq_true rfl) ?_
          rintro x21 _ _ ⟨rfl, rfl, hx21, hz22, hw21⟩
          refine z_if_ne (tgt := 79) zh dX9_tell_74 rfl (fun q23 => ?_) (fun q23 => ?_)
          · have r24 : Ra 1 1 x21 := rb_ne_lo hx21 ra_z q23 (by decide)
            have r25 : Ra 0 99999 a4 := (rb_in rl_0 rl_99999 (hz22 q23))
            refine z_aloadnR zh dX9_tell_79 rfl ?_
            refine z_getf zh fl_Y_7 dX9_tell_80 ck_Y rfl rfl ?_
            refine z_bipush zh dX9_tell_83 kb_60 ?_
            refine z_bipush zh dX9_tell_85 kb_72 ?_
            refine z_iloadn zh dX9_tell_87 rfl ?_
            refine y_imul2 zh dX9_tell_88 r14 rl_72 (by decide) (u := 0) (v := 144) rfl rfl (by decide) (by decide) (fun x26 hc26 hx26 => ?_)
            refine y_iadd zh dX9_tell_89 rl_60 hx26 (u := 60) (v := 204) rfl rfl (by decide) (by decide) (fun x27 hc27 hx27 => ?_)
            refine z_aloadnR zh dX9_tell_90 rfl ?_
            refine z_iloadn zh dX9_tell_91 rfl ?_
            refine z_iloadn zh dX9_tell_92 rfl ?_
            refine z_callVI zh mv_Y_65 dX9_tell_93 ck_Y rfl (s_X9_cellOf g r7 r20 hG) ⟨Nat.le_of_ble_eq_true rfl, Nat.le_of_ble_eq_true rfl⟩ rfl rfl (Nat.le_of_ble_eq_true rfl) ?_
            rintro x28 _ _ ⟨rfl, rfl, hx28, hc28⟩
            refine y_iadd zh dX9_tell_96 hx27 hx28 (u := 60) (v := 275) rfl rfl (by decide) (by decide) (fun x29 hc29 hx29 => ?_)
            refine z_iload zh dX9_tell_97 rfl ?_
            refine z_iast zh ck_now dX9_tell_99 (ra_in hx29 (by decide) (by decide)) ?_
            have hG : SI sp σ (upI iv 552 x29.toNatClampNeg a4) := (nw_free hG (by have := rl_60.1; have := rl_60.2; have := rl_72.1; have := rl_72.2; have := r14.1; have := r14.2; have := r7.1; have := r7.2; have := r20.1; have := r20.2; omega))
            have em30 := (upI_ne (iv := iv) (k := 552) (j := x29.toNatClampNeg) (x := a4) (a := 551) (b := 0) (Or.inl (by decide))).trans em1
            generalize upI iv 552 x29.toNatClampNeg a4 = iv at hG em30 ⊢
            refine z_iconst zh dX9_tell_100 ki_1 ?_
            exact z_zret zh dX9_tell_101 (ra_01 (ra_w rl_1 (by decide) (by decide))) ⟨_, rfl, hG, (ra_w rl_1 (by decide) (by decide)), (fun _ => r7), (fun _ => (ra_w r14 (by decide) (by decide))), (fun _ => r25), (bi_p ⟨byc (mt hw2.mpr q4), Or.inr ⟨rg_of r14 (by decide) (by decide) (by decide) (by decide), byc (mt hw15.mpr q17), byc (mt hw21.mpr q23)⟩⟩).symm⟩
          · have r31 := rb_eq (u := 0) (v := 0) hx21 ra_z q23 (by decide) (by decide)
            refine z_iconst zh dX9_tell_77 ki_0 ?_
            exact z_zret zh dX9_tell_78 (ra_01 (ra_w rl_0 (by decide) (by decide))) ⟨_, rfl, hG, (ra_w rl_0 (by decide) (by decide)), (fun q => absurd rfl q), (fun q => absurd rfl q), (fun q => absurd rfl q), (bi_n (fun w => w.2.elim (fun z => q13 z.1) (fun z => hw21.mp q23 z.2.2))).symm⟩
      · have r32 := rb_eq (u := 3) (v := 3) r12 rl_3 q13 (by decide) (by decide)
        refine z_aloadnR zh dX9_tell_30 rfl ?_
        refine z_iload zh dX9_tell_31 rfl ?_
        refine z_iconst zh dX9_tell_33 ki_0 ?_
        refine z_bipush zh dX9_tell_34 kb_9 ?_
        refine z_callVI zh mv_Y_79 dX9_tell_36 ck_Y rfl (t_X9_isIn g) ⟨Nat.le_of_ble_eq_true rfl, Nat.le_of_ble_eq_true rfl⟩ rfl rfl (Nat.le_of_ble_eq_true rfl) ?_
        rintro x33 _ _ ⟨rfl, rfl, hx33, hz34, hw33⟩
        refine z_if_ne (tgt := 44) zh dX9_tell_39 rfl (fun q35 => ?_) (fun q35 => ?_)
        · have r36 : Ra 1 1 x33 := rb_ne_lo hx33 ra_z q35 (by decide)
          have r37 : Ra 0 9 a4 := (rb_in rl_0 rl_9 (hz34 q35))
          refine z_aloadnR zh dX9_tell_44 rfl ?_
          refine z_getf zh fl_Y_7 dX9_tell_45 ck_Y rfl rfl ?_
          refine z_bipush zh dX9_tell_48 kb_34 ?_
          refine z_iloadn zh dX9_tell_50 rfl ?_
          refine y_iadd zh dX9_tell_51 rl_34 r7 (u := 34) (v := 45) rfl rfl (by decide) (by decide) (fun x38 hc38 hx38 => ?_)
          refine z_iload zh dX9_tell_52 rfl ?_
          refine z_iast zh ck_now dX9_tell_54 (ra_in hx38 (by decide) (by decide)) ?_
          have hG : SI sp σ (upI iv 552 x38.toNatClampNeg a4) := (nw_free hG (by have := rl_34.1; have := rl_34.2; have := r7.1; have := r7.2; omega))
          have em39 := (upI_ne (iv := iv) (k := 552) (j := x38.toNatClampNeg) (x := a4) (a := 551) (b := 0) (Or.inl (by decide))).trans em1
          generalize upI iv 552 x38.toNatClampNeg a4 = iv at hG em39 ⊢
          refine z_iconst zh dX9_tell_55 ki_1 ?_
          exact z_zret zh dX9_tell_56 (ra_01 (ra_w rl_1 (by decide) (by decide))) ⟨_, rfl, hG, (ra_w rl_1 (by decide) (by decide)), (fun _ => r7), (fun _ => (ra_w r32.1 (by decide) (by decide))), (fun _ => (ra_w r37 (by decide) (by decide))), (bi_p ⟨byc (mt hw2.mpr q4), Or.inl ⟨q13, byc (mt hw33.mpr q35)⟩⟩).symm⟩
        · have r40 := rb_eq (u := 0) (v := 0) hx33 ra_z q35 (by decide) (by decide)
          refine z_iconst zh dX9_tell_42 ki_0 ?_
          exact z_zret zh dX9_tell_43 (ra_01 (ra_w rl_0 (by decide) (by decide))) ⟨_, rfl, hG, (ra_w rl_0 (by decide) (by decide)), (fun q => absurd rfl q), (fun q => absurd rfl q), (fun q => absurd rfl q), (bi_n (fun w => w.2.elim (fun z => hw33.mp q35 z.2) (fun z => absurd (rgRa (l := 0) (u := 2) z.1 (by decide) (by decide)) (by rw [q13]; exact n3_02)))).symm⟩
    · have r41 := rb_eq (u := 0) (v := 0) hx8 ra_z q10 (by decide) (by decide)
      refine z_iconst zh dX9_tell_23 ki_0 ?_
      exact z_zret zh dX9_tell_24 (ra_01 (ra_w rl_0 (by decide) (by decide))) ⟨_, rfl, hG, (ra_w rl_0 (by decide) (by decide)), (fun q => absurd rfl q), (fun q => absurd rfl q), (fun q => absurd rfl q), (bi_n (fun w => hw8.mp q10 (w.2.elim (fun z => by rw [z.1]; exact ⟨by decide, by decide⟩) (fun z => ⟨z.1.1, leI.mpr (Int.le_trans (leI.mp z.1.2) (by decide))⟩)))).symm⟩
set_option maxRecDepth 20000 in
theorem e_X8_suspend (g : GE) {sp : Nat → Nat → Bool} {σ : Iv} {iv : Iv} {lv : Lv} {a1 : Int32} {a2 : Int32}  {m : Int32} (hG : SI sp σ iv) (em : iv 2 0 = m)  : ConI g yX8_suspend cX8_suspend 3 (some .boolean) 2 [rf g 0, .int a1, .int a2] iv lv (fun r iv lv => SI sp σ iv ∧ Ra 0 1 r ∧ (¬ r = 0 → Ra 0 11 a1) ∧ r = bi (Mb m a1)) := by
  have hm : Ra 2 12 m := ra_of em (si_H hG isH_1 1 (by decide) rfl)
  refine con_intro (own := "RollingNets") (by decide +kernel) rfl (Nat.le_of_ble_eq_true rfl) (L0 := [some (rf g 0), some (.int a1), some (.int a2)]) rfl (fun Z zh => ?_)
  refine z_aloadnR zh dX8_suspend_0 rfl ?_
  refine z_getf zh fl_RollingNets_12 dX8_suspend_1 ck_X rfl rfl ?_
  refine z_iloadn zh dX8_suspend_4 rfl ?_
  refine z_callVI zh mv_RollingNets_60 dX8_suspend_5 (ck_H isH_1) rfl (t_X1_hasMember g isH_1 hm em) ⟨Nat.le_of_ble_eq_true rfl, Nat.le_of_ble_eq_true rfl⟩ rfl rfl (Nat.le_of_ble_eq_true rfl) ?_
  rintro x1 _ _ ⟨rfl, rfl, hx1, hz2, hw1⟩
  refine z_if_ne (tgt := 13) zh dX8_suspend_8 rfl (fun q3 => ?_) (fun q3 => ?_)
  · have r4 : Ra 1 1 x1 := rb_ne_lo hx1 ra_z q3 (by decide)
    have r5 : Ra 0 11 a1 := (hz2 q3)
    refine z_aloadnR zh dX8_suspend_13 rfl ?_
    refine z_getf zh fl_RollingNets_12 dX8_suspend_14 ck_X rfl rfl ?_
    refine z_getf zh fl_RollingNets_115 dX8_suspend_17 (ck_H isH_1) rfl rfl ?_
    refine z_iloadn zh dX8_suspend_20 rfl ?_
    refine z_iloadn zh dX8_suspend_21 rfl ?_
    refine z_zast zh (ck_susp isH_1) dX8_suspend_22 (ra_in r5 (by decide) (by decide)) ?_
    have hG : SI sp σ (upI iv (1 + 5) a1.toNatClampNeg (vp_nar .boolean a2)) := si_wH hG isH_1 5 (by decide) rfl (rx_none rfl)
    generalize upI iv (1 + 5) a1.toNatClampNeg (vp_nar .boolean a2) = iv at hG  ⊢
    refine z_iconst zh dX8_suspend_23 ki_1 ?_
    exact z_zret zh dX8_suspend_24 (ra_01 (ra_w rl_1 (by decide) (by decide))) ⟨_, rfl, hG, (ra_w rl_1 (by decide) (by decide)), (fun _ => r5), (bi_p (byc (mt hw1.mpr q3))).symm⟩
  · have r6 := rb_eq (u := 0) (v := 0) hx1 ra_z q3 (by decide) (by decide)
    refine z_iconst zh dX8_suspend_11 ki_0 ?_
    exact z_zret zh dX8_suspend_12 (ra_01 (ra_w rl_0 (by decide) (by decide))) ⟨_, rfl, hG, (ra_w rl_0 (by decide) (by decide)), (fun q => absurd rfl q), (bi_n (hw1.mp q3)).symm⟩
set_option maxRecDepth 20000 in
theorem e_X9_suspend (g : GE) {sp : Nat → Nat → Bool} {σ : Iv} {iv : Iv} {lv : Lv} {a1 : Int32} {a2 : Int32}  {m : Int32} (hG : SI sp σ iv) (hm : Ra 2 12 m) (em : (iv 552 0).toInt + 6 = m.toInt)  : ConI g yX9_suspend cX9_suspend 3 (some .boolean) 3 [rf g 551, .int a1, .int a2] iv lv (fun r iv lv => SI sp σ iv ∧ Ra 0 1 r ∧ (¬ r = 0 → Ra 0 11 a1) ∧ r = bi (Mb m a1)) := by
  refine con_intro (own := "RollingNetsModel") (by decide +kernel) rfl (Nat.le_of_ble_eq_true rfl) (L0 := [some (rf g 551), some (.int a1), some (.int a2)]) rfl (fun Z zh => ?_)
  refine z_aloadnR zh dX9_suspend_0 rfl ?_
  refine z_iconst zh dX9_suspend_1 ki_0 ?_
  refine z_putI zh fl_Y_58 dX9_suspend_2 ck_Y rfl rfl (Nat.le_of_ble_eq_true rfl) (Or.inl rfl) ?_
  have hG : SI sp σ (upI iv 551 0 (nI 0)) := si_w (k := 551) (j := 0) hG (by decide) (by decide) (sp_no hG ((spc_Y (q := 0)).trans rfl)) (fun lo hi q => (rx_none rfl) lo hi ((rg_Y (q := 0)).symm.trans q))
  have em1 : upI iv 551 0 (nI 0) 551 0 = nI 0 := by rw [upI_at, if_pos ⟨rfl, rfl⟩]
  have em : (upI iv 551 0 (nI 0) 552 0).toInt + 6 = m.toInt := by rw [upI_ne (Or.inl (by decide))]; exact em
  generalize upI iv 551 0 (nI 0) = iv at hG em1 em ⊢
  refine z_aloadnR zh dX9_suspend_5 rfl ?_
  refine z_iloadn zh dX9_suspend_6 rfl ?_
  refine z_callVI zh mv_Y_90 dX9_suspend_7 ck_Y rfl (t_X9_isMember g hm em) ⟨Nat.le_of_ble_eq_true rfl, Nat.le_of_ble_eq_true rfl⟩ rfl rfl (Nat.le_of_ble_eq_true rfl) ?_
  rintro x2 _ _ ⟨rfl, rfl, hx2, hz3, hw2⟩
  refine z_if_ne (tgt := 15) zh dX9_suspend_10 rfl (fun q4 => ?_) (fun q4 => ?_)
  · have r5 : Ra 1 1 x2 := rb_ne_lo hx2 ra_z q4 (by decide)
    have r6 : Ra 0 11 a1 := (hz3 q4)
    refine z_aloadnR zh dX9_suspend_15 rfl ?_
    refine z_getf zh fl_Y_7 dX9_suspend_16 ck_Y rfl rfl ?_
    refine z_bipush zh dX9_suspend_19 kb_11 ?_
    refine z_iloadn zh dX9_suspend_21 rfl ?_
    have J52 : ∀ (iv : Iv) (lv : Lv) (x7 : Int32), SI sp σ iv → iv 551 0 = nI 0 → Z 52 [some (rf g 551), some (.int a1), some (.int a2)] [.int x7, .int (nI 11), rf g 552] iv lv := by
      intro iv lv x7 hG em8
      refine z_iastN (j := 11) zh ck_now dX9_suspend_52 (by decide) ?_
      have hG : SI sp σ (upI iv 552 11 x7) := (nw_l hG (j := 11) (by decide) rfl rfl)
      have em9 := (upI_ne (iv := iv) (k := 552) (j := 11) (x := x7) (a := 551) (b := 0) (Or.inl (by decide))).trans em8
      have em10 : upI iv 552 11 x7 552 11 = x7 := by rw [upI_at, if_pos ⟨rfl, rfl⟩]
      generalize upI iv 552 11 x7 = iv at hG em9 em10 ⊢
      refine z_iconst zh dX9_suspend_53 ki_1 ?_
      exact z_zret zh dX9_suspend_54 (ra_01 (ra_w rl_1 (by decide) (by decide))) ⟨_, rfl, hG, (ra_w rl_1 (by decide) (by decide)), (fun _ => r6), (bi_p (byc (mt hw2.mpr q4))).symm⟩
    refine z_if_eq (tgt := 39) zh dX9_suspend_22 rfl (fun q11 => ?_) (fun q11 => ?_)
    · have r12 := rb_eq (u := 0) (v := 0) (ra_tt a2) ra_z q11 (by decide) (by decide)
      refine z_aloadnR zh dX9_suspend_39 rfl ?_
      refine z_getf zh fl_Y_7 dX9_suspend_40 ck_Y rfl rfl ?_
      refine z_bipush zh dX9_suspend_43 kb_11 ?_
      refine y_ialdN zh ck_now dX9_suspend_45 (by decide) (fun x13 ex13 => ?_)
      refine z_iconst zh dX9_suspend_46 ki_1 ?_
      refine z_iloadn zh dX9_suspend_47 rfl ?_
      refine y_ishlT zh dX9_suspend_48 (fun x14 => ?_)
      refine z_iconst zh dX9_suspend_49 ki_m1 ?_
      refine y_ixorT zh dX9_suspend_50 (fun x15 => ?_)
      refine y_iandT zh dX9_suspend_51 (fun x16 => ?_)
      exact J52 iv lv x16 hG em1
    · refine z_aloadnR zh dX9_suspend_25 rfl ?_
      refine z_getf zh fl_Y_7 dX9_suspend_26 ck_Y rfl rfl ?_
      refine z_bipush zh dX9_suspend_29 kb_11 ?_
      refine y_ialdN zh ck_now dX9_suspend_31 (by decide) (fun x17 ex17 => ?_)
      refine z_iconst zh dX9_suspend_32 ki_1 ?_
      refine z_iloadn zh dX9_suspend_33 rfl ?_
      refine y_ishlT zh dX9_suspend_34 (fun x18 => ?_)
      refine y_iorT zh dX9_suspend_35 (fun x19 => ?_)
      refine z_goto (tgt := 52) zh dX9_suspend_36 rfl ?_
      exact J52 iv lv x19 hG em1
  · have r20 := rb_eq (u := 0) (v := 0) hx2 ra_z q4 (by decide) (by decide)
    refine z_iconst zh dX9_suspend_13 ki_0 ?_
    exact z_zret zh dX9_suspend_14 (ra_01 (ra_w rl_0 (by decide) (by decide))) ⟨_, rfl, hG, (ra_w rl_0 (by decide) (by decide)), (fun q => absurd rfl q), (bi_n (hw2.mp q4)).symm⟩
def CoOk (m a v : Int32) : Prop := Mb m a ∧ Rg (nI 0) (nI 9999999) v
set_option maxRecDepth 20000 in
theorem e_X8_collateral (g : GE) {sp : Nat → Nat → Bool} {σ : Iv} {iv : Iv} {lv : Lv} {a1 : Int32} {a2 : Int32}  {m : Int32} (hG : SI sp σ iv) (em : iv 2 0 = m)  : ConI g yX8_collateral cX8_collateral 3 (some .boolean) 2 [rf g 0, .int a1, .int a2] iv lv (fun r iv lv => SI sp σ iv ∧ Ra 0 1 r ∧ (¬ r = 0 → Ra 0 11 a1) ∧ (¬ r = 0 → Ra 0 9999999 a2) ∧ r = bi (CoOk m a1 a2)) := by
  have hm : Ra 2 12 m := ra_of em (si_H hG isH_1 1 (by decide) rfl)
  refine con_intro (own := "RollingNets") (by decide +kernel) rfl (Nat.le_of_ble_eq_true rfl) (L0 := [some (rf g 0), some (.int a1), some (.int a2)]) rfl (fun Z zh => ?_)
  refine z_aloadnR zh dX8_collateral_0 rfl ?_
  refine z_getf zh fl_RollingNets_12 dX8_collateral_1 ck_X rfl rfl ?_
  refine z_iloadn zh dX8_collateral_4 rfl ?_
  refine z_callVI zh mv_RollingNets_60 dX8_collateral_5 (ck_H isH_1) rfl (t_X1_hasMember g isH_1 hm em) ⟨Nat.le_of_ble_eq_true rfl, Nat.le_of_ble_eq_true rfl⟩ rfl rfl (Nat.le_of_ble_eq_true rfl) ?_
  rintro x1 _ _ ⟨rfl, rfl, hx1, hz2, hw1⟩
  refine z_if_eq (tgt := 21) zh dX8_collateral_8 rfl (fun q3 => ?_) (fun q3 => ?_)
  · have r4 := rb_eq (u := 0) (v := 0) hx1 ra_z q3 (by decide) (by decide)
    refine z_iconst zh dX8_collateral_21 ki_0 ?_
    exact z_zret zh dX8_collateral_22 (ra_01 (ra_w rl_0 (by decide) (by decide))) ⟨_, rfl, hG, (ra_w rl_0 (by decide) (by decide)), (fun q => absurd rfl q), (fun q => absurd rfl q), (bi_n (fun w => hw1.mp q3 w.1)).symm⟩
  · have r5 : Ra 1 1 x1 := rb_ne_lo hx1 ra_z q3 (by decide)
    have r6 : Ra 0 11 a1 := (hz2 q3)
    refine z_iloadn zh dX8_collateral_11 rfl ?_
    refine z_iconst zh dX8_collateral_12 ki_0 ?_
    refine z_ldc zh dX8_collateral_13 kc_RollingNets_119 ?_
    refine z_callSI zh ms_RollingNets_43 dX8_collateral_15 (t_X8_within g) ⟨Nat.le_of_ble_eq_true rfl, Nat.le_of_ble_eq_true rfl⟩ rfl rfl (Nat.le_of_ble_eq_true rfl) ?_
    rintro x7 _ _ ⟨rfl, rfl, hx7, hz8, hw7⟩
    refine z_if_ne (tgt := 23) zh dX8_collateral_18 rfl (fun q9 => ?_) (fun q9 => ?_)
    · have r10 : Ra 1 1 x7 := rb_ne_lo hx7 ra_z q9 (by decide)
      have r11 : Ra 0 9999999 a2 := (rb_in rl_0 rl_9999999 (hz8 q9))
      refine z_aloadnR zh dX8_collateral_23 rfl ?_
      refine z_getf zh fl_RollingNets_12 dX8_collateral_24 ck_X rfl rfl ?_
      refine z_getf zh fl_RollingNets_120 dX8_collateral_27 (ck_H isH_1) rfl rfl ?_
      refine z_iloadn zh dX8_collateral_30 rfl ?_
      refine z_iloadn zh dX8_collateral_31 rfl ?_
      refine z_iast zh (ck_pledged isH_1) dX8_collateral_32 (ra_in r6 (by decide) (by decide)) ?_
      have hG : SI sp σ (upI iv (1 + 4) a1.toNatClampNeg a2) := si_wH hG isH_1 4 (by decide) rfl (rx_none rfl)
      generalize upI iv (1 + 4) a1.toNatClampNeg a2 = iv at hG  ⊢
      refine z_iconst zh dX8_collateral_33 ki_1 ?_
      exact z_zret zh dX8_collateral_34 (ra_01 (ra_w rl_1 (by decide) (by decide))) ⟨_, rfl, hG, (ra_w rl_1 (by decide) (by decide)), (fun _ => r6), (fun _ => r11), (bi_p ⟨byc (mt hw1.mpr q3), byc (mt hw7.mpr q9)⟩).symm⟩
    · have r12 := rb_eq (u := 0) (v := 0) hx7 ra_z q9 (by decide) (by decide)
      refine z_iconst zh dX8_collateral_21 ki_0 ?_
      exact z_zret zh dX8_collateral_22 (ra_01 (ra_w rl_0 (by decide) (by decide))) ⟨_, rfl, hG, (ra_w rl_0 (by decide) (by decide)), (fun q => absurd rfl q), (fun q => absurd rfl q), (bi_n (fun w => hw7.mp q9 w.2)).symm⟩
set_option maxRecDepth 20000 in
theorem e_X9_collateral (g : GE) {sp : Nat → Nat → Bool} {σ : Iv} {iv : Iv} {lv : Lv} {a1 : Int32} {a2 : Int32}  {m : Int32} (hG : SI sp σ iv) (hm : Ra 2 12 m) (em : (iv 552 0).toInt + 6 = m.toInt)  : ConI g yX9_collateral cX9_collateral 3 (some .boolean) 3 [rf g 551, .int a1, .int a2] iv lv (fun r iv lv => SI sp σ iv ∧ Ra 0 1 r ∧ (¬ r = 0 → Ra 0 11 a1) ∧ (¬ r = 0 → Ra 0 9999999 a2) ∧ r = bi (CoOk m a1 a2)) := by
  refine con_intro (own := "RollingNetsModel") (by decide +kernel) rfl (Nat.le_of_ble_eq_true rfl) (L0 := [some (rf g 551), some (.int a1), some (.int a2)]) rfl (fun Z zh => ?_)
  refine z_aloadnR zh dX9_collateral_0 rfl ?_
  refine z_iconst zh dX9_collateral_1 ki_0 ?_
  refine z_putI zh fl_Y_58 dX9_collateral_2 ck_Y rfl rfl (Nat.le_of_ble_eq_true rfl) (Or.inl rfl) ?_
  have hG : SI sp σ (upI iv 551 0 (nI 0)) := si_w (k := 551) (j := 0) hG (by decide) (by decide) (sp_no hG ((spc_Y (q := 0)).trans rfl)) (fun lo hi q => (rx_none rfl) lo hi ((rg_Y (q := 0)).symm.trans q))
  have em1 : upI iv 551 0 (nI 0) 551 0 = nI 0 := by rw [upI_at, if_pos ⟨rfl, rfl⟩]
  have em : (upI iv 551 0 (nI 0) 552 0).toInt + 6 = m.toInt := by rw [upI_ne (Or.inl (by decide))]; exact em
  generalize upI iv 551 0 (nI 0) = iv at hG em1 em ⊢
  refine z_aloadnR zh dX9_collateral_5 rfl ?_
  refine z_iloadn zh dX9_collateral_6 rfl ?_
  refine z_callVI zh mv_Y_90 dX9_collateral_7 ck_Y rfl (t_X9_isMember g hm em) ⟨Nat.le_of_ble_eq_true rfl, Nat.le_of_ble_eq_true rfl⟩ rfl rfl (Nat.le_of_ble_eq_true rfl) ?_
  rintro x2 _ _ ⟨rfl, rfl, hx2, hz3, hw2⟩
  refine z_if_eq (tgt := 24) zh dX9_collateral_10 rfl (fun q4 => ?_) (fun q4 => ?_)
  · have r5 := rb_eq (u := 0) (v := 0) hx2 ra_z q4 (by decide) (by decide)
    refine z_iconst zh dX9_collateral_24 ki_0 ?_
    exact z_zret zh dX9_collateral_25 (ra_01 (ra_w rl_0 (by decide) (by decide))) ⟨_, rfl, hG, (ra_w rl_0 (by decide) (by decide)), (fun q => absurd rfl q), (fun q => absurd rfl q), (bi_n (fun w => hw2.mp q4 w.1)).symm⟩
  · have r6 : Ra 1 1 x2 := rb_ne_lo hx2 ra_z q4 (by decide)
    have r7 : Ra 0 11 a1 := (hz3 q4)
    refine z_aloadnR zh dX9_collateral_13 rfl ?_
    refine z_iloadn zh dX9_collateral_14 rfl ?_
    refine z_iconst zh dX9_collateral_15 ki_0 ?_
    refine z_ldc zh dX9_collateral_16 kc_Y_105 ?_
    refine z_callVI zh mv_Y_79 dX9_collateral_18 ck_Y rfl (t_X9_isIn g) ⟨Nat.le_of_ble_eq_true rfl, Nat.le_of_ble_eq_true rfl⟩ rfl rfl (Nat.le_of_ble_eq_true rfl) ?_
    rintro x8 _ _ ⟨rfl, rfl, hx8, hz9, hw8⟩
    refine z_if_ne (tgt := 26) zh dX9_collateral_21 rfl (fun q10 => ?_) (fun q10 => ?_)
    · have r11 : Ra 1 1 x8 := rb_ne_lo hx8 ra_z q10 (by decide)
      have r12 : Ra 0 9999999 a2 := (rb_in rl_0 rl_9999999 (hz9 q10))
      refine z_aloadnR zh dX9_collateral_26 rfl ?_
      refine z_getf zh fl_Y_7 dX9_collateral_27 ck_Y rfl rfl ?_
      refine z_bipush zh dX9_collateral_30 kb_46 ?_
      refine z_iloadn zh dX9_collateral_32 rfl ?_
      refine y_iadd zh dX9_collateral_33 rl_46 r7 (u := 46) (v := 57) rfl rfl (by decide) (by decide) (fun x13 hc13 hx13 => ?_)
      refine z_iloadn zh dX9_collateral_34 rfl ?_
      refine z_iast zh ck_now dX9_collateral_35 (ra_in hx13 (by decide) (by decide)) ?_
      have hG : SI sp σ (upI iv 552 x13.toNatClampNeg a2) := (nw_free hG (by have := rl_46.1; have := rl_46.2; have := r7.1; have := r7.2; omega))
      have em14 := (upI_ne (iv := iv) (k := 552) (j := x13.toNatClampNeg) (x := a2) (a := 551) (b := 0) (Or.inl (by decide))).trans em1
      generalize upI iv 552 x13.toNatClampNeg a2 = iv at hG em14 ⊢
      refine z_iconst zh dX9_collateral_36 ki_1 ?_
      exact z_zret zh dX9_collateral_37 (ra_01 (ra_w rl_1 (by decide) (by decide))) ⟨_, rfl, hG, (ra_w rl_1 (by decide) (by decide)), (fun _ => r7), (fun _ => r12), (bi_p ⟨byc (mt hw2.mpr q4), byc (mt hw8.mpr q10)⟩).symm⟩
    · have r15 := rb_eq (u := 0) (v := 0) hx8 ra_z q10 (by decide) (by decide)
      refine z_iconst zh dX9_collateral_24 ki_0 ?_
      exact z_zret zh dX9_collateral_25 (ra_01 (ra_w rl_0 (by decide) (by decide))) ⟨_, rfl, hG, (ra_w rl_0 (by decide) (by decide)), (fun q => absurd rfl q), (fun q => absurd rfl q), (bi_n (fun w => hw8.mp q10 w.2)).symm⟩
def SeOk (n w v : Int32) : Prop := (w = nI 0 ∧ Rg (nI 2) (nI 12) v ∧ n.toInt ≤ 0) ∨ (w = nI 1 ∧ Rg (nI 0) (nI 3) v) ∨ (w = nI 2 ∧ Rg (nI 1) (nI 9) v) ∨ (w = nI 3 ∧ Rg (nI 1) (nI 9) v) ∨ (w = nI 4 ∧ Rg (nI 0) (nI 5) v) ∨ (w = nI 5 ∧ Rg (nI 0) (nI 100) v) ∨ (w = nI 6 ∧ Rg (nI 0) (nI 100) v)
theorem se_out {n w v : Int32} (h : w.toInt < 0 ∨ 7 ≤ w.toInt) : ¬ SeOk n w v := by
  rintro (⟨rfl, _⟩ | ⟨rfl, _⟩ | ⟨rfl, _⟩ | ⟨rfl, _⟩ | ⟨rfl, _⟩ | ⟨rfl, _⟩ | ⟨rfl, _⟩)
  · have : (nI 0).toInt = 0 := by decide
    omega
  · have : (nI 1).toInt = 1 := by decide
    omega
  · have : (nI 2).toInt = 2 := by decide
    omega
  · have : (nI 3).toInt = 3 := by decide
    omega
  · have : (nI 4).toInt = 4 := by decide
    omega
  · have : (nI 5).toInt = 5 := by decide
    omega
  · have : (nI 6).toInt = 6 := by decide
    omega
theorem se_in {n v : Int32} {j : Nat} (hj : j < 7) : SeOk n (nI j) v ↔ Rg (sV 1 j) (sV 2 j) v ∧ (j = 0 → n.toInt ≤ 0) := by
  rcases (by omega : j = 0 ∨ j = 1 ∨ j = 2 ∨ j = 3 ∨ j = 4 ∨ j = 5 ∨ j = 6) with rfl | rfl | rfl | rfl | rfl | rfl | rfl
  · rw [show sV 1 0 = nI 2 from by decide +kernel, show sV 2 0 = nI 12 from by decide +kernel]
    constructor
    · rintro (⟨e, h⟩ | ⟨e, h⟩ | ⟨e, h⟩ | ⟨e, h⟩ | ⟨e, h⟩ | ⟨e, h⟩ | ⟨e, h⟩)
      · exact ⟨h.1, fun _ => h.2⟩
      · exact absurd e (by decide)
      · exact absurd e (by decide)
      · exact absurd e (by decide)
      · exact absurd e (by decide)
      · exact absurd e (by decide)
      · exact absurd e (by decide)
    · intro h; exact Or.inl (⟨rfl, h.1, h.2 rfl⟩)
  · rw [show sV 1 1 = nI 0 from by decide +kernel, show sV 2 1 = nI 3 from by decide +kernel]
    constructor
    · rintro (⟨e, h⟩ | ⟨e, h⟩ | ⟨e, h⟩ | ⟨e, h⟩ | ⟨e, h⟩ | ⟨e, h⟩ | ⟨e, h⟩)
      · exact absurd e (by decide)
      · exact ⟨h, fun z => absurd z (by decide)⟩
      · exact absurd e (by decide)
      · exact absurd e (by decide)
      · exact absurd e (by decide)
      · exact absurd e (by decide)
      · exact absurd e (by decide)
    · intro h; exact Or.inr (Or.inl (⟨rfl, h.1⟩))
  · rw [show sV 1 2 = nI 1 from by decide +kernel, show sV 2 2 = nI 9 from by decide +kernel]
    constructor
    · rintro (⟨e, h⟩ | ⟨e, h⟩ | ⟨e, h⟩ | ⟨e, h⟩ | ⟨e, h⟩ | ⟨e, h⟩ | ⟨e, h⟩)
      · exact absurd e (by decide)
      · exact absurd e (by decide)
      · exact ⟨h, fun z => absurd z (by decide)⟩
      · exact absurd e (by decide)
      · exact absurd e (by decide)
      · exact absurd e (by decide)
      · exact absurd e (by decide)
    · intro h; exact Or.inr (Or.inr (Or.inl (⟨rfl, h.1⟩)))
  · rw [show sV 1 3 = nI 1 from by decide +kernel, show sV 2 3 = nI 9 from by decide +kernel]
    constructor
    · rintro (⟨e, h⟩ | ⟨e, h⟩ | ⟨e, h⟩ | ⟨e, h⟩ | ⟨e, h⟩ | ⟨e, h⟩ | ⟨e, h⟩)
      · exact absurd e (by decide)
      · exact absurd e (by decide)
      · exact absurd e (by decide)
      · exact ⟨h, fun z => absurd z (by decide)⟩
      · exact absurd e (by decide)
      · exact absurd e (by decide)
      · exact absurd e (by decide)
    · intro h; exact Or.inr (Or.inr (Or.inr (Or.inl (⟨rfl, h.1⟩))))
  · rw [show sV 1 4 = nI 0 from by decide +kernel, show sV 2 4 = nI 5 from by decide +kernel]
    constructor
    · rintro (⟨e, h⟩ | ⟨e, h⟩ | ⟨e, h⟩ | ⟨e, h⟩ | ⟨e, h⟩ | ⟨e, h⟩ | ⟨e, h⟩)
      · exact absurd e (by decide)
      · exact absurd e (by decide)
      · exact absurd e (by decide)
      · exact absurd e (by decide)
      · exact ⟨h, fun z => absurd z (by decide)⟩
      · exact absurd e (by decide)
      · exact absurd e (by decide)
    · intro h; exact Or.inr (Or.inr (Or.inr (Or.inr (Or.inl (⟨rfl, h.1⟩)))))
  · rw [show sV 1 5 = nI 0 from by decide +kernel, show sV 2 5 = nI 100 from by decide +kernel]
    constructor
    · rintro (⟨e, h⟩ | ⟨e, h⟩ | ⟨e, h⟩ | ⟨e, h⟩ | ⟨e, h⟩ | ⟨e, h⟩ | ⟨e, h⟩)
      · exact absurd e (by decide)
      · exact absurd e (by decide)
      · exact absurd e (by decide)
      · exact absurd e (by decide)
      · exact absurd e (by decide)
      · exact ⟨h, fun z => absurd z (by decide)⟩
      · exact absurd e (by decide)
    · intro h; exact Or.inr (Or.inr (Or.inr (Or.inr (Or.inr (Or.inl (⟨rfl, h.1⟩))))))
  · rw [show sV 1 6 = nI 0 from by decide +kernel, show sV 2 6 = nI 100 from by decide +kernel]
    constructor
    · rintro (⟨e, h⟩ | ⟨e, h⟩ | ⟨e, h⟩ | ⟨e, h⟩ | ⟨e, h⟩ | ⟨e, h⟩ | ⟨e, h⟩)
      · exact absurd e (by decide)
      · exact absurd e (by decide)
      · exact absurd e (by decide)
      · exact absurd e (by decide)
      · exact absurd e (by decide)
      · exact absurd e (by decide)
      · exact ⟨h, fun z => absurd z (by decide)⟩
    · intro h; exact Or.inr (Or.inr (Or.inr (Or.inr (Or.inr (Or.inr (⟨rfl, h.1⟩))))))
set_option maxHeartbeats 1000000 in
set_option maxRecDepth 20000 in
theorem e_X8_set (g : GE) {sp : Nat → Nat → Bool} {σ : Iv} {iv : Iv} {lv : Lv} {a1 a2 m n : Int32} (hG : SI sp σ iv) (hq : Sk sp) (hM : sp 2 0 = false) (em : iv 2 0 = m) (en : iv 8 2 = n) : ConI g yX8_set cX8_set 3 (some .boolean) 2 [rf g 0, .int a1, .int a2] iv lv (fun r iv lv => SI sp σ iv ∧ r = bi (SeOk n a1 a2) ∧ iv 2 0 = sel (SeOk n a1 a2 ∧ a1 = nI 0) a2 m) := by
  refine con_intro (own := "RollingNets") (by decide +kernel) rfl (Nat.le_of_ble_eq_true rfl) (L0 := [some (rf g 0), some (.int a1), some (.int a2)]) rfl (fun Z zh => ?_)
  have J29 : ¬ SeOk n a1 a2 → Z 29 [some (rf g 0), some (.int a1), some (.int a2)] [] iv lv := by
    intro hno
    refine z_iconst zh dX8_set_29 ki_0 ?_
    exact z_zret zh dX8_set_30 (Or.inl rfl) ⟨_, rfl, hG, (bi_n hno).symm, em.trans (sel_f (fun w => hno w.1)).symm⟩
  refine z_iloadn zh dX8_set_0 rfl ?_
  refine z_if_lt (tgt := 29) zh dX8_set_1 rfl (fun q => J29 (se_out (Or.inl (lt0.mp q)))) (fun q1 => ?_)
  rw [lt0] at q1
  refine z_iloadn zh dX8_set_4 rfl ?_
  refine z_gets (i := 0) zh dX8_set_5 (by decide) gs_RollingNets_33 ?_
  refine z_tlen zh dX8_set_8 (by decide) ?_
  have e7 : (nI 7).toInt = 7 := by decide
  refine z_icmp_ge (tgt := 29) zh dX8_set_9 rfl (fun q => J29 (se_out (Or.inr (by have := leI.mp q; omega)))) (fun q2 => ?_)
  rw [leI] at q2
  obtain ⟨j, hj, rfl, e, f⟩ := ra_nat (lo := 0) (hi := 6) (x := a1) ⟨by omega, by omega⟩ (by decide)
  have hj7 : j < 7 := by omega
  refine z_iloadn zh dX8_set_12 rfl ?_
  refine z_gets (i := 1) zh dX8_set_13 (by decide) gs_RollingNets_37 ?_
  refine z_iloadn zh dX8_set_16 rfl ?_
  refine z_tald zh dX8_set_17 (by decide) hj7 ?_
  refine z_gets (i := 2) zh dX8_set_18 (by decide) gs_RollingNets_40 ?_
  refine z_iloadn zh dX8_set_21 rfl ?_
  refine z_tald zh dX8_set_22 (by decide) hj7 ?_
  refine z_callSI zh ms_RollingNets_43 dX8_set_23 (t_X8_within g) ⟨Nat.le_of_ble_eq_true rfl, Nat.le_of_ble_eq_true rfl⟩ rfl rfl (Nat.le_of_ble_eq_true rfl) ?_
  rintro x _ _ ⟨rfl, rfl, hx, hw, hwi⟩
  refine z_if_ne (tgt := 31) zh dX8_set_26 rfl (fun q3 => ?_) (fun q3 => J29 (fun w => hwi.mp q3 ((se_in hj7).mp w).1))
  have hw := hw q3
  have hx9 : ∀ lo hi, rH 1 (nI j).toNatClampNeg = some (lo, hi) → Ra lo hi a2 := by
    intro lo hi e
    rw [nI_clamp (by omega)] at e
    unfold rH at e
    rw [if_neg (by decide), if_pos rfl] at e
    by_cases ej : j = 0
    · subst ej
      rw [if_pos rfl] at e
      cases e
      have h1 := leI.mp hw.1; have h2 := leI.mp hw.2
      have e1 : (sV 1 0).toInt = 2 := by decide +kernel
      have e2 : (sV 2 0).toInt = 12 := by decide +kernel
      exact ⟨by omega, by omega⟩
    · rw [if_neg ej] at e; cases e
  have J50 : (j = 0 → n.toInt ≤ 0) → Z 50 [some (rf g 0), some (.int (nI j)), some (.int a2)] [] iv lv := by
    intro hn9
    have hok : SeOk n (nI j) a2 := (se_in hj7).mpr ⟨hw, hn9⟩
    refine z_aloadnR zh dX8_set_50 rfl ?_
    refine z_getf zh fl_RollingNets_12 dX8_set_51 ck_X rfl rfl ?_
    refine z_getf zh fl_RollingNets_57 dX8_set_54 (ck_H isH_1) rfl rfl ?_
    refine z_iloadn zh dX8_set_57 rfl ?_
    refine z_iloadn zh dX8_set_58 rfl ?_
    refine z_iast zh (ck_told isH_1) dX8_set_59 (ra_in (lo := 0) (hi := 6) ⟨by omega, by omega⟩ (by decide) (by decide)) ?_
    have hs : sp (1 + 1) (nI j).toNatClampNeg = false := by
      rw [nI_clamp (by omega)]
      by_cases ej : j = 0
      · subst ej; exact hM
      · exact sk_nH hq isH_1 (by decide) (by unfold kH; rw [if_neg (by decide), if_pos rfl]; exact beq_false_of_ne ej)
    have hG1 : SI sp σ (upI iv (1 + 1) (nI j).toNatClampNeg a2) := si_wHk hG isH_1 1 (by decide) hs hx9
    have hv : upI iv (1 + 1) (nI j).toNatClampNeg a2 2 0 = sel (SeOk n (nI j) a2 ∧ nI j = nI 0) a2 m := by
      rw [nI_clamp (by omega), upI_at]
      by_cases ej : j = 0
      · subst ej
        rw [if_pos ⟨rfl, rfl⟩, sel_t ⟨hok, rfl⟩]
      · rw [if_neg (fun w => ej w.2.symm), sel_f (fun w => ej ((nI_eq (by omega) (by omega)).mp w.2))]
        exact em
    revert hG1 hv; generalize upI iv (1 + 1) (nI j).toNatClampNeg a2 = iv; intro hG hv
    refine z_iconst zh dX8_set_60 ki_1 ?_
    exact z_zret zh dX8_set_61 (Or.inr rfl) ⟨_, rfl, hG, (bi_p hok).symm, hv⟩
  refine z_iloadn zh dX8_set_31 rfl ?_
  refine z_if_ne (tgt := 50) zh dX8_set_32 rfl (fun q => J50 (fun ej => absurd (by rw [ej]; rfl) q)) (fun q4 => ?_)
  refine z_aloadnR zh dX8_set_35 rfl ?_
  refine z_getf zh fl_RollingNets_12 dX8_set_36 ck_X rfl rfl ?_
  refine z_getf zh fl_RollingNets_47 dX8_set_39 (ck_H isH_1) rfl rfl ?_
  refine z_callVIp zh mv_RollingNets_51 dX8_set_42 (ck_T (isT_d isH_1)) rfl (s_X7_size g (isT_d isH_1) en) ⟨Nat.le_of_ble_eq_true rfl, Nat.le_of_ble_eq_true rfl⟩ rfl rfl (Nat.le_of_ble_eq_true rfl) ?_
  refine z_if_le (tgt := 50) zh dX8_set_45 rfl (fun q => J50 (fun _ => by have := leI.mp q; rwa [Int32.toInt_zero] at this)) (fun q5 => ?_)
  have hno : ¬ SeOk n (nI j) a2 := fun w => q5 (leI.mpr (by rw [Int32.toInt_zero]; exact ((se_in hj7).mp w).2 ((nI_eq (by omega) (by omega)).mp (q4.trans nI_0.symm))))
  refine z_iconst zh dX8_set_48 ki_0 ?_
  exact z_zret zh dX8_set_49 (Or.inl rfl) ⟨_, rfl, hG, (bi_n hno).symm, em.trans (sel_f (fun w => hno w.1)).symm⟩
set_option maxRecDepth 20000 in
theorem e_X9_canSet (g : GE) {sp : Nat → Nat → Bool} {σ : Iv} {iv : Iv} {lv : Lv} {a1 a2 n : Int32} (hG : SI sp σ iv) (en : iv 552 7 = n) : ConI g yX9_canSet cX9_canSet 3 (some .boolean) 2 [rf g 551, .int a1, .int a2] iv lv (fun r iv' lv' => iv = iv' ∧ lv = lv' ∧ Ra 0 1 r ∧ r = bi (SeOk n a1 a2)) := by
  refine con_intro (own := "RollingNetsModel") (by decide +kernel) rfl (Nat.le_of_ble_eq_true rfl) (L0 := [some (rf g 551), some (.int a1), some (.int a2)]) rfl (fun Z zh => ?_)
  have hn : Ra 0 200 n := ra_of en (nr_l hG 7 rfl)
  have hn1 := hn.1
  have b01 : ∀ p : Prop, Ra 0 1 (bi p) := fun p => by rcases bi_01 p with q | q <;> rw [q] <;> exact ⟨by decide, by decide⟩
  have K0 : ¬ SeOk n a1 a2 → ∀ v : Int32, v = nI 0 → (∃ r, some (Value.int v) = some (.int r) ∧ iv = iv ∧ lv = lv ∧ Ra 0 1 r ∧ r = bi (SeOk n a1 a2)) := fun h v e => ⟨v, rfl, rfl, rfl, by rw [e]; exact ⟨by decide, by decide⟩, by rw [e, bi_n h]⟩
  have K1 : SeOk n a1 a2 → ∀ v : Int32, v = nI 1 → (∃ r, some (Value.int v) = some (.int r) ∧ iv = iv ∧ lv = lv ∧ Ra 0 1 r ∧ r = bi (SeOk n a1 a2)) := fun h v e => ⟨v, rfl, rfl, rfl, by rw [e]; exact ⟨by decide, by decide⟩, by rw [e, bi_p h]⟩
  have KB : ∀ P : Prop, (P ↔ SeOk n a1 a2) → (∃ r, some (Value.int (bi P)) = some (.int r) ∧ iv = iv ∧ lv = lv ∧ Ra 0 1 r ∧ r = bi (SeOk n a1 a2)) := fun P h => ⟨_, rfl, rfl, rfl, b01 P, bi_iff h⟩
  have hj : ∀ j : Nat, j < 7 → ∀ x : Int32, x = nI j → (SeOk n x a2 ↔ Rg (sV 1 j) (sV 2 j) a2 ∧ (j = 0 → n.toInt ≤ 0)) := fun j hj x e => by rw [e]; exact se_in hj
  have sj : ∀ j : Nat, 0 < j → j < 7 → ∀ (x a b : Int32), x = nI j → sV 1 j = a → sV 2 j = b → (Rg a b a2 ↔ SeOk n x a2) := fun j h0 h7 x a b e ea eb => by
    rw [hj j h7 x e, ea, eb]
    exact ⟨fun w => ⟨w, fun z => absurd z (by omega)⟩, fun w => w.1⟩
  refine z_iloadn zh dX9_canSet_0 rfl ?_
  refine z_if_ne (tgt := 31) zh dX9_canSet_1 rfl (fun q0 => ?_) (fun q0 => ?_)
  · have f0 : ¬ a1 = nI 0 := fun e => q0 (e.trans nI_0)
    refine z_iloadn zh dX9_canSet_31 rfl ?_
    refine z_iconst zh dX9_canSet_32 ki_1 ?_
    refine z_icmp_ne (tgt := 44) zh dX9_canSet_33 rfl (fun q1 => ?_) (fun q1 => ?_)
    · have J54 : (a1 = nI 2 ∨ a1 = nI 3) → Z 54 [some (rf g 551), some (.int a1), some (.int a2)] [] iv lv := by
        intro e
        refine z_aloadnR zh dX9_canSet_54 rfl ?_
        refine z_iloadn zh dX9_canSet_55 rfl ?_
        refine z_iconst zh dX9_canSet_56 ki_1 ?_
        refine z_bipush zh dX9_canSet_57 kb_9 ?_
        refine z_callVIp zh mv_Y_79 dX9_canSet_59 ck_Y rfl (c_y_isIn g) ⟨Nat.le_of_ble_eq_true rfl, Nat.le_of_ble_eq_true rfl⟩ rfl rfl (Nat.le_of_ble_eq_true rfl) ?_
        refine z_zret zh dX9_canSet_62 (bi_01 _) (KB _ ?_)
        rcases e with e | e
        · exact sj 2 (by decide) (by decide) _ _ _ e (by decide +kernel) (by decide +kernel)
        · exact sj 3 (by decide) (by decide) _ _ _ e (by decide +kernel) (by decide +kernel)
      refine z_iloadn zh dX9_canSet_44 rfl ?_
      refine z_iconst zh dX9_canSet_45 ki_2 ?_
      refine z_icmp_eq (tgt := 54) zh dX9_canSet_46 rfl (fun q2 => J54 (Or.inl q2)) (fun q2 => ?_)
      refine z_iloadn zh dX9_canSet_49 rfl ?_
      refine z_iconst zh dX9_canSet_50 ki_3 ?_
      refine z_icmp_ne (tgt := 63) zh dX9_canSet_51 rfl (fun q3 => ?_) (fun q3 => J54 (Or.inr q3))
      refine z_iloadn zh dX9_canSet_63 rfl ?_
      refine z_iconst zh dX9_canSet_64 ki_4 ?_
      refine z_icmp_ne (tgt := 78) zh dX9_canSet_65 rfl (fun q4 => ?_) (fun q4 => ?_)
      · have J104 : ¬ SeOk n a1 a2 → Z 104 [some (rf g 551), some (.int a1), some (.int a2)] [] iv lv := by
          intro h
          refine z_iconst zh dX9_canSet_104 ki_0 ?_
          exact z_zret zh dX9_canSet_105 (Or.inl rfl) (K0 h _ rfl)
        have J89 : (a1 = nI 5 ∨ a1 = nI 6) → Z 89 [some (rf g 551), some (.int a1), some (.int a2)] [] iv lv := by
          intro e
          have hh : Rg (nI 0) (nI 100) a2 ↔ SeOk n a1 a2 := by
            rcases e with e | e
            · exact sj 5 (by decide) (by decide) _ _ _ e (by decide +kernel) (by decide +kernel)
            · exact sj 6 (by decide) (by decide) _ _ _ e (by decide +kernel) (by decide +kernel)
          refine z_aloadnR zh dX9_canSet_89 rfl ?_
          refine z_iloadn zh dX9_canSet_90 rfl ?_
          refine z_iconst zh dX9_canSet_91 ki_0 ?_
          refine z_bipush zh dX9_canSet_92 kb_100 ?_
          refine z_callVIp zh mv_Y_79 dX9_canSet_94 ck_Y rfl (c_y_isIn g) ⟨Nat.le_of_ble_eq_true rfl, Nat.le_of_ble_eq_true rfl⟩ rfl rfl (Nat.le_of_ble_eq_true rfl) ?_
          refine z_if_eq_B (tgt := 104) zh dX9_canSet_97 rfl (fun q => J104 (fun w => q (hh.mpr w))) (fun q => ?_)
          refine z_iconst zh dX9_canSet_100 ki_1 ?_
          refine z_goto (tgt := 105) zh dX9_canSet_101 rfl ?_
          exact z_zret zh dX9_canSet_105 (Or.inr rfl) (K1 (hh.mp q) _ rfl)
        refine z_iloadn zh dX9_canSet_78 rfl ?_
        refine z_iconst zh dX9_canSet_79 ki_5 ?_
        refine z_icmp_eq (tgt := 89) zh dX9_canSet_80 rfl (fun q5 => J89 (Or.inl q5)) (fun q5 => ?_)
        refine z_iloadn zh dX9_canSet_83 rfl ?_
        refine z_bipush zh dX9_canSet_84 kb_6 ?_
        refine z_icmp_ne (tgt := 104) zh dX9_canSet_86 rfl (fun q6 => J104 ?_) (fun q6 => J89 (Or.inr q6))
        rintro (⟨e, _⟩ | ⟨e, _⟩ | ⟨e, _⟩ | ⟨e, _⟩ | ⟨e, _⟩ | ⟨e, _⟩ | ⟨e, _⟩)
        · exact f0 e
        · exact q1 e
        · exact q2 e
        · exact q3 e
        · exact q4 e
        · exact q5 e
        · exact q6 e
      · refine z_aloadnR zh dX9_canSet_68 rfl ?_
        refine z_iloadn zh dX9_canSet_69 rfl ?_
        refine z_iconst zh dX9_canSet_70 ki_0 ?_
        refine z_iconst zh dX9_canSet_71 ki_5 ?_
        refine z_callVIp zh mv_Y_79 dX9_canSet_72 ck_Y rfl (c_y_isIn g) ⟨Nat.le_of_ble_eq_true rfl, Nat.le_of_ble_eq_true rfl⟩ rfl rfl (Nat.le_of_ble_eq_true rfl) ?_
        refine z_goto (tgt := 105) zh dX9_canSet_75 rfl ?_
        exact z_zret zh dX9_canSet_105 (bi_01 _) (KB _ (sj 4 (by decide) (by decide) _ _ _ q4 (by decide +kernel) (by decide +kernel)))
    · refine z_aloadnR zh dX9_canSet_36 rfl ?_
      refine z_iloadn zh dX9_canSet_37 rfl ?_
      refine z_iconst zh dX9_canSet_38 ki_0 ?_
      refine z_iconst zh dX9_canSet_39 ki_3 ?_
      refine z_callVIp zh mv_Y_79 dX9_canSet_40 ck_Y rfl (c_y_isIn g) ⟨Nat.le_of_ble_eq_true rfl, Nat.le_of_ble_eq_true rfl⟩ rfl rfl (Nat.le_of_ble_eq_true rfl) ?_
      exact z_zret zh dX9_canSet_43 (bi_01 _) (KB _ (sj 1 (by decide) (by decide) _ _ _ q1 (by decide +kernel) (by decide +kernel)))
  · have e0 : a1 = nI 0 := q0.trans nI_0.symm
    have hh : SeOk n a1 a2 ↔ Rg (nI 2) (nI 12) a2 ∧ n.toInt ≤ 0 := by
      rw [hj 0 (by decide) a1 e0, show sV 1 0 = nI 2 from by decide +kernel, show sV 2 0 = nI 12 from by decide +kernel]
      exact ⟨fun w => ⟨w.1, w.2 rfl⟩, fun w => ⟨w.1, fun _ => w.2⟩⟩
    have J29 : ¬ SeOk n a1 a2 → Z 29 [some (rf g 551), some (.int a1), some (.int a2)] [] iv lv := by
      intro h
      refine z_iconst zh dX9_canSet_29 ki_0 ?_
      exact z_zret zh dX9_canSet_30 (Or.inl rfl) (K0 h _ rfl)
    refine z_aloadnR zh dX9_canSet_4 rfl ?_
    refine z_iloadn zh dX9_canSet_5 rfl ?_
    refine z_iconst zh dX9_canSet_6 ki_2 ?_
    refine z_bipush zh dX9_canSet_7 kb_12 ?_
    refine z_callVIp zh mv_Y_79 dX9_canSet_9 ck_Y rfl (c_y_isIn g) ⟨Nat.le_of_ble_eq_true rfl, Nat.le_of_ble_eq_true rfl⟩ rfl rfl (Nat.le_of_ble_eq_true rfl) ?_
    refine z_if_eq_B (tgt := 29) zh dX9_canSet_12 rfl (fun q => J29 (fun w => q (hh.mp w).1)) (fun qr => ?_)
    refine z_aloadnR zh dX9_canSet_15 rfl ?_
    refine z_getf zh fl_Y_7 dX9_canSet_16 ck_Y rfl rfl ?_
    refine z_bipush zh dX9_canSet_19 kb_7 ?_
    refine z_ialdE (x := n) zh ck_now dX9_canSet_21 (by decide) en ?_
    refine z_if_ne (tgt := 29) zh dX9_canSet_22 rfl (fun q => J29 (fun w => q (Int32.toInt_inj.mp (by rw [Int32.toInt_zero]; have := (hh.mp w).2; omega)))) (fun qz => ?_)
    refine z_iconst zh dX9_canSet_25 ki_1 ?_
    refine z_goto (tgt := 30) zh dX9_canSet_26 rfl ?_
    exact z_zret zh dX9_canSet_30 (Or.inr rfl) (K1 (hh.mpr ⟨qr, by rw [qz, Int32.toInt_zero]; decide⟩) _ rfl)
theorem e_X9_set2 (g : GE) {sp : Nat → Nat → Bool} {σ : Iv} {iv : Iv} {lv : Lv} {a1 a2 m n : Int32} (hG : SI sp σ iv) (hq : Sk sp) (hM : sp 552 0 = false) (hm : Ra 2 12 m) (em : (iv 552 0).toInt + 6 = m.toInt) (en : iv 552 7 = n) : ConI g yX9_set cX9_set 3 (some .boolean) 3 [rf g 551, .int a1, .int a2] iv lv (fun r iv lv => SI sp σ iv ∧ r = bi (SeOk n a1 a2) ∧ (iv 552 0).toInt + 6 = (sel (SeOk n a1 a2 ∧ a1 = nI 0) a2 m).toInt) := by
  refine con_intro (own := "RollingNetsModel") (by decide +kernel) rfl (Nat.le_of_ble_eq_true rfl) (L0 := [some (rf g 551), some (.int a1), some (.int a2)]) rfl (fun Z zh => ?_)
  refine z_aloadnR zh dX9_set_0 rfl ?_
  refine z_iconst zh dX9_set_1 ki_0 ?_
  refine z_putI zh fl_Y_58 dX9_set_2 ck_Y rfl rfl (Nat.le_of_ble_eq_true rfl) (Or.inl rfl) ?_
  have hG : SI sp σ (upI iv 551 0 (nI 0)) := si_w (k := 551) (j := 0) hG (by decide) (by decide) (sp_no hG ((spc_Y (q := 0)).trans rfl)) (fun lo hi q => (rx_none rfl) lo hi ((rg_Y (q := 0)).symm.trans q))
  have em : (upI iv 551 0 (nI 0) 552 0).toInt + 6 = m.toInt := by rw [upI_ne (Or.inl (by decide))]; exact em
  have en : upI iv 551 0 (nI 0) 552 7 = n := (upI_ne (Or.inl (by decide))).trans en
  generalize upI iv 551 0 (nI 0) = iv at hG em en ⊢
  refine z_aloadnR zh dX9_set_5 rfl ?_
  refine z_iloadn zh dX9_set_6 rfl ?_
  refine z_iloadn zh dX9_set_7 rfl ?_
  refine z_callVI zh mv_Y_87 dX9_set_8 ck_Y rfl (e_X9_canSet g hG en) ⟨Nat.le_of_ble_eq_true rfl, Nat.le_of_ble_eq_true rfl⟩ rfl rfl (Nat.le_of_ble_eq_true rfl) ?_
  rintro x _ _ ⟨rfl, rfl, _, rfl⟩
  refine z_if_ne_B (tgt := 16) zh dX9_set_11 rfl (fun hok => ?_) (fun hno => ?_)
  · have hJ : ∀ (iv : Iv) (lv : Lv), SI sp σ iv → (iv 552 0).toInt + 6 = (sel (SeOk n a1 a2 ∧ a1 = nI 0) a2 m).toInt → Z 46 [some (rf g 551), some (.int a1), some (.int a2)] [] iv lv := by
      intro iv lv hG hv
      refine z_iconst zh dX9_set_46 ki_1 ?_
      exact z_zret zh dX9_set_47 (Or.inr rfl) ⟨_, rfl, hG, (bi_p hok).symm, hv⟩
    refine z_iloadn zh dX9_set_16 rfl ?_
    refine z_bipush zh dX9_set_17 kb_6 ?_
    refine z_icmp_ne (tgt := 33) zh dX9_set_19 rfl (fun q6 => ?_) (fun q6 => ?_)
    · obtain ⟨j, hj6, rfl⟩ : ∃ j : Nat, j < 6 ∧ a1 = nI j := by
        rcases hok with ⟨e, _⟩ | ⟨e, _⟩ | ⟨e, _⟩ | ⟨e, _⟩ | ⟨e, _⟩ | ⟨e, _⟩ | ⟨e, _⟩
        · exact ⟨0, by decide, e⟩
        · exact ⟨1, by decide, e⟩
        · exact ⟨2, by decide, e⟩
        · exact ⟨3, by decide, e⟩
        · exact ⟨4, by decide, e⟩
        · exact ⟨5, by decide, e⟩
        · exact absurd e q6
      have hin := (se_in (by omega : j < 7)).mp hok
      refine z_aloadnR zh dX9_set_33 rfl ?_
      refine z_getf zh fl_Y_7 dX9_set_34 ck_Y rfl rfl ?_
      refine z_iloadn zh dX9_set_37 rfl ?_
      refine z_iloadn zh dX9_set_38 rfl ?_
      refine z_aloadnR zh dX9_set_39 rfl ?_
      refine z_iloadn zh dX9_set_40 rfl ?_
      by_cases ej : j = 0
      · subst ej
        refine z_callVI zh mv_Y_83 dX9_set_41 ck_Y rfl (s_X9_firstOf_0 g hG) ⟨Nat.le_of_ble_eq_true rfl, Nat.le_of_ble_eq_true rfl⟩ rfl rfl (Nat.le_of_ble_eq_true rfl) ?_
        rintro z _ _ ⟨rfl, rfl, hz⟩
        have h2 : Ra 2 12 a2 := rgRa hin.1 (by decide +kernel) (by decide +kernel)
        refine y_isub zh dX9_set_44 h2 hz (u := -4) (v := 6) rfl rfl (by decide) (by decide) (fun w hw hwr => ?_)
        refine z_iastN (j := 0) zh ck_now dX9_set_45 (by decide) ?_
        refine hJ _ _ (nw_lk hG (j := 0) (by decide) hM (by decide) (rx_some hwr)) ?_
        rw [upI_at, if_pos ⟨rfl, rfl⟩, sel_t ⟨hok, rfl⟩]
        have h61 := hz.1; have h62 := hz.2
        omega
      · have hj1 : Ra 1 5 (nI j) := by have e9 : (nI j).toInt = (j : Nat) := nI_toInt (by omega); exact ⟨by omega, by omega⟩
        refine z_callVI zh mv_Y_83 dX9_set_41 ck_Y rfl (s_X9_firstOf g (ra_w hj1 (by decide) (by decide)) hG) ⟨Nat.le_of_ble_eq_true rfl, Nat.le_of_ble_eq_true rfl⟩ rfl rfl (Nat.le_of_ble_eq_true rfl) ?_
        rintro z _ _ ⟨rfl, rfl, hz⟩
        refine y_isubT zh dX9_set_44 (fun w => ?_)
        refine z_iast zh ck_now dX9_set_45 (ra_in hj1 (by decide) (by decide)) ?_
        have ec : (nI j).toNatClampNeg = j := nI_clamp (by omega)
        rw [ec]
        refine hJ _ _ (nw_lk hG (by omega) (sk_no hq (by rcases (by omega : j = 1 ∨ j = 2 ∨ j = 3 ∨ j = 4 ∨ j = 5) with rfl | rfl | rfl | rfl | rfl <;> rfl)) (by omega) (by rcases (by omega : j = 1 ∨ j = 2 ∨ j = 3 ∨ j = 4 ∨ j = 5) with rfl | rfl | rfl | rfl | rfl <;> exact rx_none rfl)) ?_
        rw [upI_at, if_neg (fun w => ej w.2.symm), sel_f (fun w => ej ((nI_eq (by omega) (by omega)).mp w.2))]
        exact em
    · refine z_aloadnR zh dX9_set_22 rfl ?_
      refine z_getf zh fl_Y_7 dX9_set_23 ck_Y rfl rfl ?_
      refine z_bipush zh dX9_set_26 kb_12 ?_
      refine z_iloadn zh dX9_set_28 rfl ?_
      refine z_iastN (j := 12) zh ck_now dX9_set_29 (by decide) ?_
      refine z_goto (tgt := 46) zh dX9_set_30 rfl ?_
      refine hJ _ _ (nw_lk hG (j := 12) (by decide) (sk_no hq rfl) (by decide) (rx_none rfl)) ?_
      rw [upI_ne (Or.inr (by decide)), sel_f (fun w => absurd (q6.symm.trans w.2) (by decide))]
      exact em
  · refine z_iconst zh dX9_set_14 ki_0 ?_
    refine z_zret zh dX9_set_15 (Or.inl rfl) ⟨_, rfl, hG, (bi_n hno).symm, ?_⟩
    rw [sel_f (fun w => hno w.1)]
    exact em
