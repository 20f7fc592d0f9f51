set_option maxRecDepth 20000 in
theorem s_X9_closesApart (g : GE) {sp : Nat → Nat → Bool} {σ : Iv} {iv : Iv} {lv : Lv} {a1 : Int32} (ha1 : Ra 16710 17890 a1) (hG : SI sp σ iv) (hat : ∃ n1 : Int, (0 ≤ n1 ∧ n1 ≤ 59) ∧ a1.toInt = 16710 + 20 * n1) (hup : ∀ z : Int32, z.toInt = a1.toInt + 5 → Ra 1 200 (iv 552 z.toNatClampNeg)) : ConV g yX9_closesApart cX9_closesApart 9 none 6 [rf g 551, .int a1] iv lv (fun iv lv => SI sp σ iv) := by
  refine con_intro (own := "RollingNetsModel") (by decide +kernel) rfl (Nat.le_of_ble_eq_true rfl) (L0 := [some (rf g 551), some (.int a1), none, none, none, none, none, none, none]) rfl (fun Z zh => ?_)
  obtain ⟨n1, hn1, en1⟩ := hat
  refine z_aloadnR zh dX9_closesApart_0 rfl ?_
  refine z_getf zh fl_Y_7 dX9_closesApart_1 ck_Y rfl rfl ?_
  refine z_iloadn zh dX9_closesApart_4 rfl ?_
  refine z_iconst zh dX9_closesApart_5 ki_5 ?_
  refine y_iadd zh dX9_closesApart_6 ha1 rl_5 (u := 16715) (v := 17895) rfl rfl (by decide) (by decide) (fun x1 hc1 hx1 => ?_)
  refine y_iald zh ck_now dX9_closesApart_7 hx1 (by decide) (by decide) (fun x2 ex2 => ?_)
  have hx2 : Ra 1 200 x2 := ra_of ex2 (hup x1 (by have := ha1.1; have := ha1.2; have := rl_5.1; have := rl_5.2; omega))
  refine z_iconst zh dX9_closesApart_8 ki_1 ?_
  refine y_isub zh dX9_closesApart_9 hx2 rl_1 (u := 0) (v := 199) rfl rfl (by decide) (by decide) (fun x3 hc3 hx3 => ?_)
  refine z_istoren zh dX9_closesApart_10 (by decide) (L' := [some (rf g 551), some (.int a1), some (.int x3), none, none, none, none, none, none]) rfl ?_
  refine z_aloadnR zh dX9_closesApart_11 rfl ?_
  refine z_getf zh fl_Y_7 dX9_closesApart_12 ck_Y rfl rfl ?_
  refine z_iloadn zh dX9_closesApart_15 rfl ?_
  refine z_iconst zh dX9_closesApart_16 ki_2 ?_
  refine y_iadd zh dX9_closesApart_17 ha1 rl_2 (u := 16712) (v := 17892) rfl rfl (by decide) (by decide) (fun x4 hc4 hx4 => ?_)
  refine y_iald zh ck_now dX9_closesApart_18 hx4 (by decide) (by decide) (fun x5 ex5 => ?_)
  refine z_istoren zh dX9_closesApart_19 (by decide) (L' := [some (rf g 551), some (.int a1), some (.int x3), some (.int x5), none, none, none, none, none]) rfl ?_
  refine z_aloadnR zh dX9_closesApart_20 rfl ?_
  refine z_iloadn zh dX9_closesApart_21 rfl ?_
  refine z_bipush zh dX9_closesApart_22 kb_7 ?_
  refine z_callVI zh mv_Y_151 dX9_closesApart_24 ck_Y rfl (s_X9_tradeOf g hx3 (ra_w rl_7 (by decide) (by decide)) hG) ⟨Nat.le_of_ble_eq_true rfl, Nat.le_of_ble_eq_true rfl⟩ rfl rfl (Nat.le_of_ble_eq_true rfl) ?_
  rintro x6 _ _ ⟨rfl, rfl, z7, ez7, ex6⟩
  refine z_iloadn zh dX9_closesApart_27 rfl ?_
  refine z_icmp_ge (tgt := 32) zh dX9_closesApart_28 rfl (fun q8 => ?_) (fun q8 => ?_)
  · refine z_aloadnR zh dX9_closesApart_32 rfl ?_
    refine z_iloadn zh dX9_closesApart_33 rfl ?_
    refine z_iconst zh dX9_closesApart_34 ki_2 ?_
    refine z_callVI zh mv_Y_151 dX9_closesApart_35 ck_Y rfl (s_X9_tradeOf g hx3 (ra_w rl_2 (by decide) (by decide)) hG) ⟨Nat.le_of_ble_eq_true rfl, Nat.le_of_ble_eq_true rfl⟩ rfl rfl (Nat.le_of_ble_eq_true rfl) ?_
    rintro x9 _ _ ⟨rfl, rfl, z10, ez10, ex9⟩
    have hx9 : Ra 0 5 x9 := ra_of ex9 (nr_t2 hG x3.toInt (by have := hx2.1; have := hx2.2; have := rl_1.1; have := rl_1.2; have := rl_2.1; have := rl_2.2; omega) (by have := hx2.1; have := hx2.2; have := rl_1.1; have := rl_1.2; have := rl_2.1; have := rl_2.2; omega) (by have := hx2.1; have := hx2.2; have := rl_1.1; have := rl_1.2; have := rl_2.1; have := rl_2.2; omega))
    refine z_istore zh dX9_closesApart_38 (by decide) (L' := [some (rf g 551), some (.int a1), some (.int x3), some (.int x5), some (.int x9), none, none, none, none]) rfl ?_
    refine z_aloadnR zh dX9_closesApart_40 rfl ?_
    refine z_iloadn zh dX9_closesApart_41 rfl ?_
    refine z_iloadn zh dX9_closesApart_42 rfl ?_
    refine z_callVV zh mv_Y_229 dX9_closesApart_43 ck_Y rfl (s_X9_laysChain g hx3 hG) ⟨Nat.le_of_ble_eq_true rfl, Nat.le_of_ble_eq_true rfl⟩ rfl rfl (Nat.le_of_ble_eq_true rfl) ?_
    rintro iv lv hG
    refine z_iloadn zh dX9_closesApart_46 rfl ?_
    refine y_i2l zh dX9_closesApart_47 (fun l11 => ?_)
    refine z_aloadnR zh dX9_closesApart_48 rfl ?_
    refine z_iload zh dX9_closesApart_49 rfl ?_
    refine z_callVI zh mv_Y_210 dX9_closesApart_51 ck_Y rfl (s_X9_buyPrice g hx9 hG) ⟨Nat.le_of_ble_eq_true rfl, Nat.le_of_ble_eq_true rfl⟩ rfl rfl (Nat.le_of_ble_eq_true rfl) ?_
    rintro x12 _ _ ⟨rfl, rfl, _⟩
    refine y_i2l zh dX9_closesApart_54 (fun l13 => ?_)
    refine y_lmul zh dX9_closesApart_55 (fun l14 => ?_)
    refine z_lstore zh dX9_closesApart_56 (by decide) (L' := [some (rf g 551), some (.int a1), some (.int x3), some (.int x5), some (.int x9), some (.long l14), none, none, none]) rfl ?_
    refine z_aloadnR zh dX9_closesApart_58 rfl ?_
    refine z_aloadnR zh dX9_closesApart_59 rfl ?_
    refine y_getI zh fl_Y_223 dX9_closesApart_60 ck_Y rfl rfl (fun x15 ex15 => ?_)
    have hx15 : Ra 0 11 x15 := ra_of ex15 (si_Y hG 0 (j := 9) rfl)
    refine z_lload zh dX9_closesApart_63 rfl ?_
    refine y_lneg zh dX9_closesApart_65 (fun l16 => ?_)
    refine z_callVV zh mv_Y_206 dX9_closesApart_66 ck_Y rfl (s_X9_cashMore g hx15 hG) ⟨Nat.le_of_ble_eq_true rfl, Nat.le_of_ble_eq_true rfl⟩ rfl rfl (Nat.le_of_ble_eq_true rfl) ?_
    rintro iv lv ⟨hG, _⟩
    refine z_aloadnR zh dX9_closesApart_69 rfl ?_
    refine z_getf zh fl_Y_16 dX9_closesApart_70 ck_Y rfl rfl ?_
    refine z_bipush zh dX9_closesApart_73 kb_12 ?_
    refine z_aloadnR zh dX9_closesApart_75 rfl ?_
    refine z_getf zh fl_Y_16 dX9_closesApart_76 ck_Y rfl rfl ?_
    refine z_bipush zh dX9_closesApart_79 kb_12 ?_
    refine y_lald zh ck_coins dX9_closesApart_81 rl_12 (by decide) (by decide) (fun l17 => ?_)
    refine z_lload zh dX9_closesApart_82 rfl ?_
    refine y_ladd zh dX9_closesApart_84 (fun l18 => ?_)
    refine z_last zh ck_coins dX9_closesApart_85 (ra_in rl_12 (by decide) (by decide)) ?_
    generalize upL lv 554 (nI 12).toNatClampNeg l18 = lv
    refine z_aloadnR zh dX9_closesApart_86 rfl ?_
    refine z_aloadnR zh dX9_closesApart_87 rfl ?_
    refine z_iloadn zh dX9_closesApart_88 rfl ?_
    refine z_iconst zh dX9_closesApart_89 ki_0 ?_
    refine z_callVI zh mv_Y_151 dX9_closesApart_90 ck_Y rfl (s_X9_tradeOf g hx3 (ra_w rl_0 (by decide) (by decide)) hG) ⟨Nat.le_of_ble_eq_true rfl, Nat.le_of_ble_eq_true rfl⟩ rfl rfl (Nat.le_of_ble_eq_true rfl) ?_
    rintro x19 _ _ ⟨rfl, rfl, z20, ez20, ex19⟩
    have hx19 : Ra 0 11 x19 := ra_of ex19 (nr_t01 hG x3.toInt (by have := hx2.1; have := hx2.2; have := rl_1.1; have := rl_1.2; have := rl_0.1; have := rl_0.2; omega) (by have := hx2.1; have := hx2.2; have := rl_1.1; have := rl_1.2; have := rl_0.1; have := rl_0.2; omega) (by have := hx2.1; have := hx2.2; have := rl_1.1; have := rl_1.2; have := rl_0.1; have := rl_0.2; omega))
    refine z_iload zh dX9_closesApart_93 rfl ?_
    refine z_iloadn zh dX9_closesApart_95 rfl ?_
    refine z_callVV zh mv_Y_101 dX9_closesApart_96 ck_Y rfl (s_X9_stockMore g hx19 hx9 hG) ⟨Nat.le_of_ble_eq_true rfl, Nat.le_of_ble_eq_true rfl⟩ rfl rfl (Nat.le_of_ble_eq_true rfl) ?_
    rintro iv lv ⟨hG, _⟩
    refine z_iconst zh dX9_closesApart_99 ki_0 ?_
    refine z_istore zh dX9_closesApart_100 (by decide) (L' := [some (rf g 551), some (.int a1), some (.int x3), some (.int x5), some (.int x9), some (.long l14), none, some (.int (nI 0)), none]) rfl ?_
    have J102 : ∀ (n : Nat) (iv : Iv) (lv : Lv) (x21 : Int32), SI sp σ iv → Ra 0 12 x21 → 12 - x21.toInt < (n : Int) → Z 102 [some (rf g 551), some (.int a1), some (.int x3), some (.int x5), some (.int x9), some (.long l14), none, some (.int x21), none] [] iv lv := by
      intro n
      induction n with
      | zero => intro iv lv x21 hG hx21 hn102; exact (ms_uz hx21 hn102).elim
      | succ n ih102 =>
        intro iv lv x21 hG hx21 hn102
        refine z_iload zh dX9_closesApart_102 rfl ?_
        refine z_aloadnR zh dX9_closesApart_104 rfl ?_
        refine y_getI zh fl_Y_220 dX9_closesApart_105 ck_Y rfl rfl (fun x22 ex22 => ?_)
        have hx22 : Ra 0 12 x22 := ra_of ex22 (si_Y hG 0 (j := 7) rfl)
        refine z_icmp_ge (tgt := 195) zh dX9_closesApart_108 rfl (fun q23 => ?_) (fun q23 => ?_)
        · refine z_aloadnR zh dX9_closesApart_195 rfl ?_
          refine z_getf zh fl_Y_7 dX9_closesApart_196 ck_Y rfl rfl ?_
          refine z_iloadn zh dX9_closesApart_199 rfl ?_
          refine z_bipush zh dX9_closesApart_200 kb_6 ?_
          refine y_iadd zh dX9_closesApart_202 ha1 rl_6 (u := 16716) (v := 17896) rfl rfl (by decide) (by decide) (fun x24 hc24 hx24 => ?_)
          refine z_iloadn zh dX9_closesApart_203 rfl ?_
          refine z_iast zh ck_now dX9_closesApart_204 (ra_in hx24 (by decide) (by decide)) ?_
          have hG : SI sp σ (upI iv 552 x24.toNatClampNeg x5) := (nw_n hG (n1 * 1) (by have := ha1.1; have := ha1.2; have := rl_6.1; have := rl_6.2; omega) (by have := ha1.1; have := ha1.2; have := rl_6.1; have := rl_6.2; omega) (by have := ha1.1; have := ha1.2; have := rl_6.1; have := rl_6.2; omega))
          have em25 := (upI_ne (iv := iv) (k := 552) (j := x24.toNatClampNeg) (x := x5) (a := 551) (b := 7) (Or.inl (by decide))).trans ex22
          generalize upI iv 552 x24.toNatClampNeg x5 = iv at hG em25 ⊢
          refine z_aloadnR zh dX9_closesApart_205 rfl ?_
          refine z_iconst zh dX9_closesApart_206 ki_4 ?_
          refine z_iload zh dX9_closesApart_207 rfl ?_
          refine z_aloadnR zh dX9_closesApart_209 rfl ?_
          refine y_getI zh fl_Y_223 dX9_closesApart_210 ck_Y rfl rfl (fun x26 ex26 => ?_)
          have hx26 : Ra 0 11 x26 := ra_of ex26 (si_Y hG 0 (j := 9) rfl)
          refine z_aloadnR zh dX9_closesApart_213 rfl ?_
          refine z_iloadn zh dX9_closesApart_214 rfl ?_
          refine z_iconst zh dX9_closesApart_215 ki_0 ?_
          refine z_callVI zh mv_Y_151 dX9_closesApart_216 ck_Y rfl (s_X9_tradeOf g hx3 (ra_w rl_0 (by decide) (by decide)) hG) ⟨Nat.le_of_ble_eq_true rfl, Nat.le_of_ble_eq_true rfl⟩ rfl rfl (Nat.le_of_ble_eq_true rfl) ?_
          rintro x27 _ _ ⟨rfl, rfl, z28, ez28, ex27⟩
          have hx27 : Ra 0 11 x27 := ra_of ex27 (nr_t01 hG x3.toInt (by have := hx2.1; have := hx2.2; have := rl_1.1; have := rl_1.2; have := rl_0.1; have := rl_0.2; omega) (by have := hx2.1; have := hx2.2; have := rl_1.1; have := rl_1.2; have := rl_0.1; have := rl_0.2; omega) (by have := hx2.1; have := hx2.2; have := rl_1.1; have := rl_1.2; have := rl_0.1; have := rl_0.2; omega))
          refine z_iloadn zh dX9_closesApart_219 rfl ?_
          refine z_callVV zh mv_Y_213 dX9_closesApart_220 ck_Y rfl (s_X9_writes g (ra_w rl_4 (by decide) (by decide)) hx9 (ra_w hx26 (by decide) (by decide)) (ra_w hx27 (by decide) (by decide)) hG) ⟨Nat.le_of_ble_eq_true rfl, Nat.le_of_ble_eq_true rfl⟩ rfl rfl (Nat.le_of_ble_eq_true rfl) ?_
          rintro iv lv ⟨hG, _⟩
          exact z_vret zh dX9_closesApart_223 ⟨rfl, hG⟩
        · have r29 : Ra 0 11 x21 := rb_lt_l hx22 hx21 (rb_nle q23) (by decide)
          have r30 : Ra 1 12 x22 := rb_lt_r hx21 hx22 (rb_nle q23) (by decide)
          refine z_aloadnR zh dX9_closesApart_111 rfl ?_
          refine z_getf zh fl_Y_23 dX9_closesApart_112 ck_Y rfl rfl ?_
          refine z_iload zh dX9_closesApart_115 rfl ?_
          refine y_iald zh ck_ychain dX9_closesApart_117 r29 (by decide) (by decide) (fun x31 ex31 => ?_)
          have hx31 : Ra 0 199 x31 := ra_of ex31 (si_Y hG 5 rfl)
          refine z_istore zh dX9_closesApart_118 (by decide) (L' := [some (rf g 551), some (.int a1), some (.int x3), some (.int x5), some (.int x9), some (.long l14), none, some (.int x21), some (.int x31)]) rfl ?_
          refine z_aloadnR zh dX9_closesApart_120 rfl ?_
          refine z_aloadnR zh dX9_closesApart_121 rfl ?_
          refine z_iload zh dX9_closesApart_122 rfl ?_
          refine z_iconst zh dX9_closesApart_124 ki_0 ?_
          refine z_callVI zh mv_Y_151 dX9_closesApart_125 ck_Y rfl (s_X9_tradeOf g hx31 (ra_w rl_0 (by decide) (by decide)) hG) ⟨Nat.le_of_ble_eq_true rfl, Nat.le_of_ble_eq_true rfl⟩ rfl rfl (Nat.le_of_ble_eq_true rfl) ?_
          rintro x32 _ _ ⟨rfl, rfl, z33, ez33, ex32⟩
          have hx32 : Ra 0 11 x32 := ra_of ex32 (nr_t01 hG x31.toInt (by have := hx31.1; have := hx31.2; have := rl_0.1; have := rl_0.2; omega) (by have := hx31.1; have := hx31.2; have := rl_0.1; have := rl_0.2; omega) (by have := hx31.1; have := hx31.2; have := rl_0.1; have := rl_0.2; omega))
          refine z_iloadn zh dX9_closesApart_128 rfl ?_
          refine y_i2l zh dX9_closesApart_129 (fun l34 => ?_)
          refine y_lneg zh dX9_closesApart_130 (fun l35 => ?_)
          refine z_aloadnR zh dX9_closesApart_131 rfl ?_
          refine z_iload zh dX9_closesApart_132 rfl ?_
          refine z_iconst zh dX9_closesApart_134 ki_4 ?_
          refine z_callVI zh mv_Y_151 dX9_closesApart_135 ck_Y rfl (s_X9_tradeOf g hx31 (ra_w rl_4 (by decide) (by decide)) hG) ⟨Nat.le_of_ble_eq_true rfl, Nat.le_of_ble_eq_true rfl⟩ rfl rfl (Nat.le_of_ble_eq_true rfl) ?_
          rintro x36 _ _ ⟨rfl, rfl, z37, ez37, ex36⟩
          refine y_i2l zh dX9_closesApart_138 (fun l38 => ?_)
          refine y_lmul zh dX9_closesApart_139 (fun l39 => ?_)
          refine z_callVV zh mv_Y_206 dX9_closesApart_140 ck_Y rfl (s_X9_cashMore g hx32 hG) ⟨Nat.le_of_ble_eq_true rfl, Nat.le_of_ble_eq_true rfl⟩ rfl rfl (Nat.le_of_ble_eq_true rfl) ?_
          rintro iv lv ⟨hG, _⟩
          refine z_aloadnR zh dX9_closesApart_143 rfl ?_
          refine z_aloadnR zh dX9_closesApart_144 rfl ?_
          refine z_iload zh dX9_closesApart_145 rfl ?_
          refine z_iconst zh dX9_closesApart_147 ki_1 ?_
          refine z_callVI zh mv_Y_151 dX9_closesApart_148 ck_Y rfl (s_X9_tradeOf g hx31 (ra_w rl_1 (by decide) (by decide)) hG) ⟨Nat.le_of_ble_eq_true rfl, Nat.le_of_ble_eq_true rfl⟩ rfl rfl (Nat.le_of_ble_eq_true rfl) ?_
          rintro x40 _ _ ⟨rfl, rfl, z41, ez41, ex40⟩
          have hx40 : Ra 0 11 x40 := ra_of ex40 (nr_t01 hG x31.toInt (by have := hx31.1; have := hx31.2; have := rl_1.1; have := rl_1.2; omega) (by have := hx31.1; have := hx31.2; have := rl_1.1; have := rl_1.2; omega) (by have := hx31.1; have := hx31.2; have := rl_1.1; have := rl_1.2; omega))
          refine z_iloadn zh dX9_closesApart_151 rfl ?_
          refine y_i2l zh dX9_closesApart_152 (fun l42 => ?_)
          refine z_aloadnR zh dX9_closesApart_153 rfl ?_
          refine z_iload zh dX9_closesApart_154 rfl ?_
          refine z_iconst zh dX9_closesApart_156 ki_4 ?_
          refine z_callVI zh mv_Y_151 dX9_closesApart_157 ck_Y rfl (s_X9_tradeOf g hx31 (ra_w rl_4 (by decide) (by decide)) hG) ⟨Nat.le_of_ble_eq_true rfl, Nat.le_of_ble_eq_true rfl⟩ rfl rfl (Nat.le_of_ble_eq_true rfl) ?_
          rintro x43 _ _ ⟨rfl, rfl, z44, ez44, ex43⟩
          refine y_i2l zh dX9_closesApart_160 (fun l45 => ?_)
          refine y_lmul zh dX9_closesApart_161 (fun l46 => ?_)
          refine z_callVV zh mv_Y_206 dX9_closesApart_162 ck_Y rfl (s_X9_cashMore g hx40 hG) ⟨Nat.le_of_ble_eq_true rfl, Nat.le_of_ble_eq_true rfl⟩ rfl rfl (Nat.le_of_ble_eq_true rfl) ?_
          rintro iv lv ⟨hG, _⟩
          refine z_aloadnR zh dX9_closesApart_165 rfl ?_
          refine z_getf zh fl_Y_7 dX9_closesApart_166 ck_Y rfl rfl ?_
          refine z_aloadnR zh dX9_closesApart_169 rfl ?_
          refine z_iload zh dX9_closesApart_170 rfl ?_
          refine z_callVI zh mv_Y_141 dX9_closesApart_172 ck_Y rfl (s_X9_tradeAt g hx31 hG) ⟨Nat.le_of_ble_eq_true rfl, Nat.le_of_ble_eq_true rfl⟩ rfl rfl (Nat.le_of_ble_eq_true rfl) ?_
          rintro x47 _ _ ⟨rfl, rfl, hx47, hc47⟩
          refine z_bipush zh dX9_closesApart_175 kb_7 ?_
          refine y_iadd zh dX9_closesApart_177 hx47 rl_7 (u := 15117) (v := 16709) rfl rfl (by decide) (by decide) (fun x48 hc48 hx48 => ?_)
          refine z_aloadnR zh dX9_closesApart_178 rfl ?_
          refine z_iload zh dX9_closesApart_179 rfl ?_
          refine z_bipush zh dX9_closesApart_181 kb_7 ?_
          refine z_callVI zh mv_Y_151 dX9_closesApart_183 ck_Y rfl (s_X9_tradeOf g hx31 (ra_w rl_7 (by decide) (by decide)) hG) ⟨Nat.le_of_ble_eq_true rfl, Nat.le_of_ble_eq_true rfl⟩ rfl rfl (Nat.le_of_ble_eq_true rfl) ?_
          rintro x49 _ _ ⟨rfl, rfl, z50, ez50, ex49⟩
          refine z_iloadn zh dX9_closesApart_186 rfl ?_
          refine y_isubT zh dX9_closesApart_187 (fun x51 => ?_)
          refine z_iast zh ck_now dX9_closesApart_188 (ra_in hx48 (by decide) (by decide)) ?_
          have hG : SI sp σ (upI iv 552 x48.toNatClampNeg x51) := (nw_t hG (x31.toInt * 1) (by have := hx31.1; have := hx31.2; have := rl_7.1; have := rl_7.2; omega) (by have := hx31.1; have := hx31.2; have := rl_7.1; have := rl_7.2; omega) (by have := hx31.1; have := hx31.2; have := rl_7.1; have := rl_7.2; omega))
          generalize upI iv 552 x48.toNatClampNeg x51 = iv at hG  ⊢
          refine y_iinc (L' := fun z => [some (rf g 551), some (.int a1), some (.int x3), some (.int x5), some (.int x9), some (.long l14), none, some (.int z), some (.int x31)]) zh dX9_closesApart_189 (by decide) rfl (by decide +kernel) r29 (u := 1) (v := 12) rfl rfl (by decide) (by decide) (fun _ => rfl) (fun x52 hc52 hx52 => ?_)
          refine z_goto (tgt := 102) zh dX9_closesApart_192 rfl ?_
          refine z_forget zh [true, true, true, true, true, true, false, true, false] (L2 := [some (rf g 551), some (.int a1), some (.int x3), some (.int x5), some (.int x9), some (.long l14), none, some (.int x52), none]) rfl ?_
          exact ih102 iv lv x52 hG (ra_w hx52 (by decide) (by decide)) (ms_up hc52 (by decide) hn102)
    exact J102 13 iv lv (nI 0) hG (ra_w rl_0 (by decide) (by decide)) (ms_u0 rl_0 (by decide))
  · have r53 : Ra (-2147483648) 2147483646 x6 := rb_lt_l (ra_tt x5) (ra_tt x6) (rb_nle q8) (by decide)
    have r54 : Ra (-2147483647) 2147483647 x5 := rb_lt_r (ra_tt x6) (ra_tt x5) (rb_nle q8) (by decide)
    exact z_vret zh dX9_closesApart_31 ⟨rfl, hG⟩
set_option maxRecDepth 20000 in
theorem s_X9_closes (g : GE) {sp : Nat → Nat → Bool} {σ : Iv} {iv : Iv} {lv : Lv} {a1 : Int32} (ha1 : Ra 0 59 a1) (hG : SI sp σ iv)  : ConV g yX9_closes cX9_closes 4 none 8 [rf g 551, .int a1] iv lv (fun iv lv => SI sp σ iv) := by
  refine con_intro (own := "RollingNetsModel") (by decide +kernel) rfl (Nat.le_of_ble_eq_true rfl) (L0 := [some (rf g 551), some (.int a1), none, none]) rfl (fun Z zh => ?_)
  refine z_aloadnR zh dX9_closes_0 rfl ?_
  refine z_iloadn zh dX9_closes_1 rfl ?_
  refine z_callVI zh mv_Y_154 dX9_closes_2 ck_Y rfl (s_X9_noticeAt g ha1 hG) ⟨Nat.le_of_ble_eq_true rfl, Nat.le_of_ble_eq_true rfl⟩ rfl rfl (Nat.le_of_ble_eq_true rfl) ?_
  rintro x1 _ _ ⟨rfl, rfl, hx1, hc1⟩
  refine z_istoren zh dX9_closes_5 (by decide) (L' := [some (rf g 551), some (.int a1), some (.int x1), none]) rfl ?_
  refine z_aloadnR zh dX9_closes_6 rfl ?_
  refine z_getf zh fl_Y_7 dX9_closes_7 ck_Y rfl rfl ?_
  refine z_iloadn zh dX9_closes_10 rfl ?_
  refine z_iconst zh dX9_closes_11 ki_5 ?_
  refine y_iadd zh dX9_closes_12 hx1 rl_5 (u := 16715) (v := 17895) rfl rfl (by decide) (by decide) (fun x2 hc2 hx2 => ?_)
  refine y_iald zh ck_now dX9_closes_13 hx2 (by decide) (by decide) (fun x3 ex3 => ?_)
  have hx3 : Ra 0 200 x3 := ra_of ex3 (nr_n5 hG (a1.toInt * 1) (by have := ha1.1; have := ha1.2; have := rl_5.1; have := rl_5.2; omega) (by have := ha1.1; have := ha1.2; have := rl_5.1; have := rl_5.2; omega) (by have := ha1.1; have := ha1.2; have := rl_5.1; have := rl_5.2; omega))
  have J47 : ∀ (iv : Iv) (lv : Lv), SI sp σ iv → Z 47 [some (rf g 551), some (.int a1), some (.int x1), none] [] iv lv := by
    intro iv lv hG
    refine z_aloadnR zh dX9_closes_47 rfl ?_
    refine z_getf zh fl_Y_7 dX9_closes_48 ck_Y rfl rfl ?_
    refine z_iloadn zh dX9_closes_51 rfl ?_
    refine z_iconst zh dX9_closes_52 ki_4 ?_
    refine y_iadd zh dX9_closes_53 hx1 rl_4 (u := 16714) (v := 17894) rfl rfl (by decide) (by decide) (fun x4 hc4 hx4 => ?_)
    refine z_iconst zh dX9_closes_54 ki_0 ?_
    refine z_iast zh ck_now dX9_closes_55 (ra_in hx4 (by decide) (by decide)) ?_
    have hG : SI sp σ (upI iv 552 x4.toNatClampNeg (nI 0)) := (nw_nb hG (a1.toInt * 1) (by have := ha1.1; have := ha1.2; have := rl_4.1; have := rl_4.2; omega) (by have := ha1.1; have := ha1.2; have := rl_4.1; have := rl_4.2; omega) (by have := ha1.1; have := ha1.2; have := rl_4.1; have := rl_4.2; omega))
    generalize upI iv 552 x4.toNatClampNeg (nI 0) = iv at hG  ⊢
    exact z_vret zh dX9_closes_56 ⟨rfl, hG⟩
  refine z_if_le (tgt := 25) zh dX9_closes_14 rfl (fun q5 => ?_) (fun q5 => ?_)
  · have r6 : Ra 0 0 x3 := rb_le_l ra_z hx3 q5 (by decide)
    refine z_iconst zh dX9_closes_25 ki_0 ?_
    refine z_istoren zh dX9_closes_26 (by decide) (L' := [some (rf g 551), some (.int a1), some (.int x1), some (.int (nI 0))]) rfl ?_
    have J27 : ∀ (n : Nat) (iv : Iv) (lv : Lv) (x7 : Int32), SI sp σ iv → Ra 0 12 x7 → 12 - x7.toInt < (n : Int) → Z 27 [some (rf g 551), some (.int a1), some (.int x1), some (.int x7)] [] iv lv := by
      intro n
      induction n with
      | zero => intro iv lv x7 hG hx7 hn27; exact (ms_uz hx7 hn27).elim
      | succ n ih27 =>
        intro iv lv x7 hG hx7 hn27
        refine z_iloadn zh dX9_closes_27 rfl ?_
        refine z_aloadnR zh dX9_closes_28 rfl ?_
        refine z_callVI zh mv_Y_61 dX9_closes_29 ck_Y rfl (s_X9_memberMany g  hG) ⟨Nat.le_of_ble_eq_true rfl, Nat.le_of_ble_eq_true rfl⟩ rfl rfl (Nat.le_of_ble_eq_true rfl) ?_
        rintro x8 _ _ ⟨rfl, rfl, hx8⟩
        refine z_icmp_ge (tgt := 47) zh dX9_closes_32 rfl (fun q9 => ?_) (fun q9 => ?_)
        · have r10 : Ra 2 12 x7 := rb_le_r hx8 hx7 q9 (by decide)
          refine z_forget zh [true, true, true, false] (L2 := [some (rf g 551), some (.int a1), some (.int x1), none]) rfl ?_
          exact J47 iv lv hG
        · have r11 : Ra 0 11 x7 := rb_lt_l hx8 hx7 (rb_nle q9) (by decide)
          refine z_aloadnR zh dX9_closes_35 rfl ?_
          refine z_iloadn zh dX9_closes_36 rfl ?_
          refine z_iloadn zh dX9_closes_37 rfl ?_
          refine z_callVV zh mv_Y_237 dX9_closes_38 ck_Y rfl (s_X9_closesFrom g hx1 r11 hG ⟨a1.toInt * 1, (by have := ha1.1; have := ha1.2; omega), (by have := ha1.1; have := ha1.2; omega)⟩) ⟨Nat.le_of_ble_eq_true rfl, Nat.le_of_ble_eq_true rfl⟩ rfl rfl (Nat.le_of_ble_eq_true rfl) ?_
          rintro iv lv hG
          refine y_iinc (L' := fun z => [some (rf g 551), some (.int a1), some (.int x1), some (.int z)]) zh dX9_closes_41 (by decide) rfl (by decide +kernel) r11 (u := 1) (v := 12) rfl rfl (by decide) (by decide) (fun _ => rfl) (fun x12 hc12 hx12 => ?_)
          refine z_goto (tgt := 27) zh dX9_closes_44 rfl ?_
          exact ih27 iv lv x12 hG (ra_w hx12 (by decide) (by decide)) (ms_up hc12 (by decide) hn27)
    exact J27 13 iv lv (nI 0) hG (ra_w rl_0 (by decide) (by decide)) (ms_u0 rl_0 (by decide))
  · have r13 : Ra 1 200 x3 := rb_lt_r ra_z hx3 (rb_nle q5) (by decide)
    refine z_aloadnR zh dX9_closes_17 rfl ?_
    refine z_iloadn zh dX9_closes_18 rfl ?_
    refine z_callVV zh mv_Y_233 dX9_closes_19 ck_Y rfl (s_X9_closesApart g hx1 hG ⟨a1.toInt * 1, (by have := ha1.1; have := ha1.2; omega), (by have := ha1.1; have := ha1.2; omega)⟩ (fun z ez => by have e9 : z = x2 := Int32.toInt_inj.mp (by have := ha1.1; have := ha1.2; have := rl_5.1; have := rl_5.2; omega); rw [e9]; exact ra_of ex3.symm r13)) ⟨Nat.le_of_ble_eq_true rfl, Nat.le_of_ble_eq_true rfl⟩ rfl rfl (Nat.le_of_ble_eq_true rfl) ?_
    rintro iv lv hG
    refine z_goto (tgt := 47) zh dX9_closes_22 rfl ?_
    exact J47 iv lv hG
set_option maxRecDepth 20000 in
theorem s_X9_lends (g : GE) {sp : Nat → Nat → Bool} {σ : Iv} {iv : Iv} {lv : Lv} {a1 : Int32} (ha1 : Ra 0 5 a1) (hG : SI sp σ iv)  : ConV g yX9_lends cX9_lends 3 none 9 [rf g 551, .int a1] iv lv (fun iv lv => SI sp σ iv) := by
  refine con_intro (own := "RollingNetsModel") (by decide +kernel) rfl (Nat.le_of_ble_eq_true rfl) (L0 := [some (rf g 551), some (.int a1), none]) rfl (fun Z zh => ?_)
  refine z_aloadnR zh dX9_lends_0 rfl ?_
  refine z_iloadn zh dX9_lends_1 rfl ?_
  refine z_aloadnR zh dX9_lends_2 rfl ?_
  refine z_getf zh fl_Y_7 dX9_lends_3 ck_Y rfl rfl ?_
  refine z_bipush zh dX9_lends_6 kb_6 ?_
  refine y_ialdN zh ck_now dX9_lends_8 (by decide) (fun x1 ex1 => ?_)
  have hx1 : Ra 0 99 x1 := ra_of ex1 (nr_l hG 6 rfl)
  refine z_aloadnR zh dX9_lends_9 rfl ?_
  refine z_iconst zh dX9_lends_10 ki_2 ?_
  refine z_callVI zh mv_Y_144 dX9_lends_11 ck_Y rfl (s_X9_settingOf g (ra_w rl_2 (by decide) (by decide)) hG) ⟨Nat.le_of_ble_eq_true rfl, Nat.le_of_ble_eq_true rfl⟩ rfl rfl (Nat.le_of_ble_eq_true rfl) ?_
  rintro x2 _ _ ⟨rfl, rfl, _⟩
  refine y_isubT zh dX9_lends_14 (fun x3 => ?_)
  refine z_callVV zh mv_Y_271 dX9_lends_15 ck_Y rfl (s_X9_laysQueue g ha1 hG) ⟨Nat.le_of_ble_eq_true rfl, Nat.le_of_ble_eq_true rfl⟩ rfl rfl (Nat.le_of_ble_eq_true rfl) ?_
  rintro iv lv hG
  refine z_iconst zh dX9_lends_18 ki_0 ?_
  refine z_istoren zh dX9_lends_19 (by decide) (L' := [some (rf g 551), some (.int a1), some (.int (nI 0))]) rfl ?_
  have J20 : ∀ (n : Nat) (iv : Iv) (lv : Lv) (x4 : Int32), SI sp σ iv → Ra 0 2147483646 x4 → 2147483646 - x4.toInt < (n : Int) → Z 20 [some (rf g 551), some (.int a1), some (.int x4)] [] iv lv := by
    intro n
    induction n with
    | zero => intro iv lv x4 hG hx4 hn20; exact (ms_uz hx4 hn20).elim
    | succ n ih20 =>
      intro iv lv x4 hG hx4 hn20
      refine z_iloadn zh dX9_lends_20 rfl ?_
      refine z_aloadnR zh dX9_lends_21 rfl ?_
      refine y_getI zh fl_Y_240 dX9_lends_22 ck_Y rfl rfl (fun x5 ex5 => ?_)
      have hx5 : Ra 0 1224 x5 := ra_of ex5 (si_Y hG 0 (j := 10) rfl)
      refine z_icmp_ge (tgt := 51) zh dX9_lends_25 rfl (fun q6 => ?_) (fun q6 => ?_)
      · exact z_vret zh dX9_lends_51 ⟨rfl, hG⟩
      · have r7 : Ra 0 1223 x4 := rb_lt_l hx5 hx4 (rb_nle q6) (by decide)
        have r8 : Ra 1 1224 x5 := rb_lt_r hx4 hx5 (rb_nle q6) (by decide)
        refine z_aloadnR zh dX9_lends_28 rfl ?_
        refine z_aloadnR zh dX9_lends_29 rfl ?_
        refine z_getf zh fl_Y_26 dX9_lends_30 ck_Y rfl rfl ?_
        refine z_iloadn zh dX9_lends_33 rfl ?_
        refine y_iald zh ck_qM dX9_lends_34 r7 (by decide) (by decide) (fun x9 ex9 => ?_)
        have hx9 : Ra 0 11 x9 := ra_of ex9 (si_Y hG 6 rfl)
        refine z_iloadn zh dX9_lends_35 rfl ?_
        refine z_aloadnR zh dX9_lends_36 rfl ?_
        refine z_getf zh fl_Y_29 dX9_lends_37 ck_Y rfl rfl ?_
        refine z_iloadn zh dX9_lends_40 rfl ?_
        refine y_iald zh ck_qD dX9_lends_41 r7 (by decide) (by decide) (fun x10 ex10 => ?_)
        have hx10 : Ra 0 99 x10 := ra_of ex10 (si_Y hG 7 rfl)
        refine z_callVV zh mv_Y_274 dX9_lends_42 ck_Y rfl (s_X9_lendsTo g hx9 ha1 hx10 hG) ⟨Nat.le_of_ble_eq_true rfl, Nat.le_of_ble_eq_true rfl⟩ rfl rfl (Nat.le_of_ble_eq_true rfl) ?_
        rintro iv lv hG
        refine y_iinc (L' := fun z => [some (rf g 551), some (.int a1), some (.int z)]) zh dX9_lends_45 (by decide) rfl (by decide +kernel) r7 (u := 1) (v := 1224) rfl rfl (by decide) (by decide) (fun _ => rfl) (fun x11 hc11 hx11 => ?_)
        refine z_goto (tgt := 20) zh dX9_lends_48 rfl ?_
        exact ih20 iv lv x11 hG (ra_w hx11 (by decide) (by decide)) (ms_up hc11 (by decide) hn20)
  exact J20 2147483647 iv lv (nI 0) hG (ra_w rl_0 (by decide) (by decide)) (ms_u0 rl_0 (by decide))
set_option maxRecDepth 20000 in
theorem s_X9_goesNight (g : GE) {sp : Nat → Nat → Bool} {σ : Iv} {iv : Iv} {lv : Lv}   (hG : SI sp σ iv) (hq : Sq sp) (hN : Ra 0 98 (iv 552 6)) : ConV g yX9_goesNight cX9_goesNight 3 none 10 [rf g 551] iv lv (fun iv lv => SI sp σ iv) := by
  refine con_intro (own := "RollingNetsModel") (by decide +kernel) rfl (Nat.le_of_ble_eq_true rfl) (L0 := [some (rf g 551), none, none]) rfl (fun Z zh => ?_)
  obtain ⟨y1, ey1⟩ : ∃ z, iv 552 6 = z := ⟨_, rfl⟩
  have hy1 : Ra 0 98 y1 := ra_of ey1 hN
  obtain ⟨iw1, eiw1⟩ : ∃ z, z = iv := ⟨_, rfl⟩
  have hS : SI sp σ iw1 := by rw [eiw1]; exact hG
  have hG : SI spd iw1 iv := by rw [eiw1]; exact si_fulld hG
  have es2 := (si_s hG (spd_N (spc_N.trans rfl))).symm.trans ey1
  refine z_iconst zh dX9_goesNight_0 ki_0 ?_
  refine z_istoren zh dX9_goesNight_1 (by decide) (L' := [some (rf g 551), some (.int (nI 0)), none]) rfl ?_
  have J2 : ∀ (n : Nat) (iv : Iv) (lv : Lv) (x3 : Int32), SI spd iw1 iv → Ra 0 6 x3 → 6 - x3.toInt < (n : Int) → Z 2 [some (rf g 551), some (.int x3), none] [] iv lv := by
    intro n
    induction n with
    | zero => intro iv lv x3 hG hx3 hn2; exact (ms_uz hx3 hn2).elim
    | succ n ih2 =>
      intro iv lv x3 hG hx3 hn2
      refine z_iloadn zh dX9_goesNight_2 rfl ?_
      refine z_bipush zh dX9_goesNight_3 kb_6 ?_
      refine z_icmp_ge (tgt := 104) zh dX9_goesNight_5 rfl (fun q4 => ?_) (fun q4 => ?_)
      · have r5 : Ra 6 6 x3 := rb_le_r rl_6 hx3 q4 (by decide)
        refine z_aloadnR zh dX9_goesNight_104 rfl ?_
        refine z_getf zh fl_Y_7 dX9_goesNight_105 ck_Y rfl rfl ?_
        refine z_bipush zh dX9_goesNight_108 kb_6 ?_
        refine z_aloadnR zh dX9_goesNight_110 rfl ?_
        refine z_getf zh fl_Y_7 dX9_goesNight_111 ck_Y rfl rfl ?_
        refine z_bipush zh dX9_goesNight_114 kb_6 ?_
        refine z_ialdE (x := y1) zh ck_now dX9_goesNight_116 (by decide) ((si_s hG (spd_N (spc_N.trans rfl))).trans es2) ?_
        refine z_iconst zh dX9_goesNight_117 ki_1 ?_
        refine y_iadd zh dX9_goesNight_118 hy1 rl_1 (u := 1) (v := 99) rfl rfl (by decide) (by decide) (fun x6 hc6 hx6 => ?_)
        refine z_iastN (j := 6) zh ck_now dX9_goesNight_119 (by decide) ?_
        have em7 : iv 552 6 = y1 := ((si_s hG (spd_N (spc_N.trans rfl))).trans es2)
        have hG := si_backd hq hS hG
        have hG : SI sp σ (upI iv 552 6 x6) := (nw_day hG (sq_no hq rfl) em7 (by rw [hc6]; have := rl_1.1; omega) (ra_w hx6 (by decide) (by decide)))
        have em8 : upI iv 552 6 x6 552 6 = x6 := by rw [upI_at, if_pos ⟨rfl, rfl⟩]
        generalize upI iv 552 6 x6 = iv at hG em8 ⊢
        exact z_vret zh dX9_goesNight_120 ⟨rfl, hG⟩
      · have r9 : Ra 0 5 x3 := rb_lt_l rl_6 hx3 (rb_nle q4) (by decide)
        refine z_aloadnR zh dX9_goesNight_8 rfl ?_
        refine z_iloadn zh dX9_goesNight_9 rfl ?_
        refine z_callVV zh mv_Y_282 dX9_goesNight_10 ck_Y rfl (s_X9_nets g r9 hG) ⟨Nat.le_of_ble_eq_true rfl, Nat.le_of_ble_eq_true rfl⟩ rfl rfl (Nat.le_of_ble_eq_true rfl) ?_
        rintro iv lv hG
        refine z_aloadnR zh dX9_goesNight_13 rfl ?_
        refine z_iloadn zh dX9_goesNight_14 rfl ?_
        refine z_callVV zh mv_Y_285 dX9_goesNight_15 ck_Y rfl (s_X9_delivers g r9 hG rfl (fun _ => rfl)) ⟨Nat.le_of_ble_eq_true rfl, Nat.le_of_ble_eq_true rfl⟩ rfl rfl (Nat.le_of_ble_eq_true rfl) ?_
        rintro iv lv hG
        refine z_aloadnR zh dX9_goesNight_18 rfl ?_
        refine z_iloadn zh dX9_goesNight_19 rfl ?_
        refine z_callVV zh mv_Y_288 dX9_goesNight_20 ck_Y rfl (s_X9_allots g r9 hG rfl) ⟨Nat.le_of_ble_eq_true rfl, Nat.le_of_ble_eq_true rfl⟩ rfl rfl (Nat.le_of_ble_eq_true rfl) ?_
        rintro iv lv hG
        refine z_aloadnR zh dX9_goesNight_23 rfl ?_
        refine z_iloadn zh dX9_goesNight_24 rfl ?_
        refine z_callVV zh mv_Y_291 dX9_goesNight_25 ck_Y rfl (s_X9_lends g r9 hG) ⟨Nat.le_of_ble_eq_true rfl, Nat.le_of_ble_eq_true rfl⟩ rfl rfl (Nat.le_of_ble_eq_true rfl) ?_
        rintro iv lv hG
        refine z_aloadnR zh dX9_goesNight_28 rfl ?_
        refine z_iloadn zh dX9_goesNight_29 rfl ?_
        refine z_callVV zh mv_Y_294 dX9_goesNight_30 ck_Y rfl (s_X9_doesApart g r9 hG) ⟨Nat.le_of_ble_eq_true rfl, Nat.le_of_ble_eq_true rfl⟩ rfl rfl (Nat.le_of_ble_eq_true rfl) ?_
        rintro iv lv hG
        refine z_iconst zh dX9_goesNight_33 ki_0 ?_
        refine z_istoren zh dX9_goesNight_34 (by decide) (L' := [some (rf g 551), some (.int x3), some (.int (nI 0))]) rfl ?_
        have J35 : ∀ (n : Nat) (iv : Iv) (lv : Lv) (x10 : Int32), SI spd iw1 iv → Ra 0 60 x10 → 60 - x10.toInt < (n : Int) → Z 35 [some (rf g 551), some (.int x3), some (.int x10)] [] iv lv := by
          intro n
          induction n with
          | zero => intro iv lv x10 hG hx10 hn35; exact (ms_uz hx10 hn35).elim
          | succ n ih35 =>
            intro iv lv x10 hG hx10 hn35
            refine z_iloadn zh dX9_goesNight_35 rfl ?_
            refine z_aloadnR zh dX9_goesNight_36 rfl ?_
            refine z_getf zh fl_Y_7 dX9_goesNight_37 ck_Y rfl rfl ?_
            refine z_bipush zh dX9_goesNight_40 kb_8 ?_
            refine y_ialdN zh ck_now dX9_goesNight_42 (by decide) (fun x11 ex11 => ?_)
            have hx11 : Ra 0 60 x11 := ra_of ex11 (nr_l hG 8 rfl)
            have es12 := (si_s hG (spd_N (spc_N.trans rfl))).symm.trans ex11
            refine z_icmp_ge (tgt := 93) zh dX9_goesNight_43 rfl (fun q13 => ?_) (fun q13 => ?_)
            · refine z_aloadnR zh dX9_goesNight_93 rfl ?_
              refine z_iloadn zh dX9_goesNight_94 rfl ?_
              refine z_callVV zh mv_Y_300 dX9_goesNight_95 ck_Y rfl (s_X9_marks g r9 hG) ⟨Nat.le_of_ble_eq_true rfl, Nat.le_of_ble_eq_true rfl⟩ rfl rfl (Nat.le_of_ble_eq_true rfl) ?_
              rintro iv lv hG
              refine y_iinc (L' := fun z => [some (rf g 551), some (.int z), some (.int x10)]) zh dX9_goesNight_98 (by decide) rfl (by decide +kernel) r9 (u := 1) (v := 6) rfl rfl (by decide) (by decide) (fun _ => rfl) (fun x14 hc14 hx14 => ?_)
              refine z_goto (tgt := 2) zh dX9_goesNight_101 rfl ?_
              refine z_forget zh [true, true, false] (L2 := [some (rf g 551), some (.int x14), none]) rfl ?_
              exact ih2 iv lv x14 hG (ra_w hx14 (by decide) (by decide)) (ms_up hc14 (by decide) hn2)
            · have r15 : Ra 0 59 x10 := rb_lt_l hx11 hx10 (rb_nle q13) (by decide)
              have r16 : Ra 1 60 x11 := rb_lt_r hx10 hx11 (rb_nle q13) (by decide)
              refine z_aloadnR zh dX9_goesNight_46 rfl ?_
              refine z_iloadn zh dX9_goesNight_47 rfl ?_
              refine z_iconst zh dX9_goesNight_48 ki_4 ?_
              refine z_callVI zh mv_Y_157 dX9_goesNight_49 ck_Y rfl (s_X9_noticeOf g r15 (ra_w rl_4 (by decide) (by decide)) hG) ⟨Nat.le_of_ble_eq_true rfl, Nat.le_of_ble_eq_true rfl⟩ rfl rfl (Nat.le_of_ble_eq_true rfl) ?_
              rintro x17 _ _ ⟨rfl, rfl, z18, ez18, ex17⟩
              refine z_iconst zh dX9_goesNight_52 ki_1 ?_
              have J87 : ∀ (iv : Iv) (lv : Lv), SI spd iw1 iv → Z 87 [some (rf g 551), some (.int x3), some (.int x10)] [] iv lv := by
                intro iv lv hG
                refine y_iinc (L' := fun z => [some (rf g 551), some (.int x3), some (.int z)]) zh dX9_goesNight_87 (by decide) rfl (by decide +kernel) r15 (u := 1) (v := 60) rfl rfl (by decide) (by decide) (fun _ => rfl) (fun x19 hc19 hx19 => ?_)
                refine z_goto (tgt := 35) zh dX9_goesNight_90 rfl ?_
                exact ih35 iv lv x19 hG (ra_w hx19 (by decide) (by decide)) (ms_up hc19 (by decide) hn35)
              refine z_icmp_ne (tgt := 87) zh dX9_goesNight_53 rfl (fun q20 => ?_) (fun q20 => ?_)
              · exact J87 iv lv hG
              · have r21 := rb_eq (u := 1) (v := 1) (ra_tt x17) rl_1 q20 (by decide) (by decide)
                refine z_aloadnR zh dX9_goesNight_56 rfl ?_
                refine z_iloadn zh dX9_goesNight_57 rfl ?_
                refine z_iconst zh dX9_goesNight_58 ki_1 ?_
                refine z_callVI zh mv_Y_157 dX9_goesNight_59 ck_Y rfl (s_X9_noticeOf g r15 (ra_w rl_1 (by decide) (by decide)) hG) ⟨Nat.le_of_ble_eq_true rfl, Nat.le_of_ble_eq_true rfl⟩ rfl rfl (Nat.le_of_ble_eq_true rfl) ?_
                rintro x22 _ _ ⟨rfl, rfl, z23, ez23, ex22⟩
                have hx22 : Ra 0 5 x22 := ra_of ex22 (nr_n1 hG x10.toInt (by have := r15.1; have := r15.2; have := rl_1.1; have := rl_1.2; omega) (by have := r15.1; have := r15.2; have := rl_1.1; have := rl_1.2; omega) (by have := r15.1; have := r15.2; have := rl_1.1; have := rl_1.2; omega))
                refine z_iloadn zh dX9_goesNight_62 rfl ?_
                refine z_icmp_ne (tgt := 87) zh dX9_goesNight_63 rfl (fun q24 => ?_) (fun q24 => ?_)
                · exact J87 iv lv hG
                · refine z_aloadnR zh dX9_goesNight_66 rfl ?_
                  refine z_iloadn zh dX9_goesNight_67 rfl ?_
                  refine z_iconst zh dX9_goesNight_68 ki_3 ?_
                  refine z_callVI zh mv_Y_157 dX9_goesNight_69 ck_Y rfl (s_X9_noticeOf g r15 (ra_w rl_3 (by decide) (by decide)) hG) ⟨Nat.le_of_ble_eq_true rfl, Nat.le_of_ble_eq_true rfl⟩ rfl rfl (Nat.le_of_ble_eq_true rfl) ?_
                  rintro x26 _ _ ⟨rfl, rfl, z27, ez27, ex26⟩
                  refine z_aloadnR zh dX9_goesNight_72 rfl ?_
                  refine z_getf zh fl_Y_7 dX9_goesNight_73 ck_Y rfl rfl ?_
                  refine z_bipush zh dX9_goesNight_76 kb_6 ?_
                  refine z_ialdE (x := y1) zh ck_now dX9_goesNight_78 (by decide) ((si_s hG (spd_N (spc_N.trans rfl))).trans es2) ?_
                  refine z_icmp_gt (tgt := 87) zh dX9_goesNight_79 rfl (fun q28 => ?_) (fun q28 => ?_)
                  · have r29 : Ra 1 2147483647 x26 := rb_lt_r hy1 (ra_tt x26) q28 (by decide)
                    exact J87 iv lv hG
                  · have r30 : Ra (-2147483648) 98 x26 := rb_le_l hy1 (ra_tt x26) (rb_nlt q28) (by decide)
                    refine z_aloadnR zh dX9_goesNight_82 rfl ?_
                    refine z_iloadn zh dX9_goesNight_83 rfl ?_
                    refine z_callVV zh mv_Y_297 dX9_goesNight_84 ck_Y rfl (s_X9_closes g r15 hG) ⟨Nat.le_of_ble_eq_true rfl, Nat.le_of_ble_eq_true rfl⟩ rfl rfl (Nat.le_of_ble_eq_true rfl) ?_
                    rintro iv lv hG
                    exact J87 iv lv hG
        exact J35 61 iv lv (nI 0) hG (ra_w rl_0 (by decide) (by decide)) (ms_u0 rl_0 (by decide))
  exact J2 7 iv lv (nI 0) hG (ra_w rl_0 (by decide) (by decide)) (ms_u0 rl_0 (by decide))
set_option maxRecDepth 20000 in
theorem s_X9_night (g : GE) {sp : Nat → Nat → Bool} {σ : Iv} {iv : Iv} {lv : Lv} {a1 : Int32}  (hG : SI sp σ iv) (hq : Sq sp) : ConI g yX9_night cX9_night 3 (some .int) 11 [rf g 551, .int a1] iv lv (fun r iv lv => SI sp σ iv ∧ Ra (-1) 20 r) := by
  refine con_intro (own := "RollingNetsModel") (by decide +kernel) rfl (Nat.le_of_ble_eq_true rfl) (L0 := [some (rf g 551), some (.int a1), none]) rfl (fun Z zh => ?_)
  refine z_aloadnR zh dX9_night_0 rfl ?_
  refine z_iconst zh dX9_night_1 ki_0 ?_
  refine z_putI zh fl_Y_58 dX9_night_2 ck_Y rfl rfl (Nat.le_of_ble_eq_true rfl) (Or.inl rfl) ?_
  have hG : SI sp σ (upI iv 551 0 (nI 0)) := si_w (k := 551) (j := 0) hG (by decide) (by decide) (sp_no hG ((spc_Y (q := 0)).trans rfl)) (fun lo hi q => (rx_none rfl) lo hi ((rg_Y (q := 0)).symm.trans q))
  have em1 : upI iv 551 0 (nI 0) 551 0 = nI 0 := by rw [upI_at, if_pos ⟨rfl, rfl⟩]
  generalize upI iv 551 0 (nI 0) = iv at hG em1 ⊢
  refine z_aloadnR zh dX9_night_5 rfl ?_
  refine z_iloadn zh dX9_night_6 rfl ?_
  refine z_iconst zh dX9_night_7 ki_1 ?_
  refine z_bipush zh dX9_night_8 kb_20 ?_
  refine z_callVI zh mv_Y_79 dX9_night_10 ck_Y rfl (s_X9_isIn g) ⟨Nat.le_of_ble_eq_true rfl, Nat.le_of_ble_eq_true rfl⟩ rfl rfl (Nat.le_of_ble_eq_true rfl) ?_
  rintro x2 _ _ ⟨rfl, rfl, hx2, hz3⟩
  refine z_if_eq (tgt := 28) zh dX9_night_13 rfl (fun q4 => ?_) (fun q4 => ?_)
  · have r5 := rb_eq (u := 0) (v := 0) hx2 ra_z q4 (by decide) (by decide)
    refine z_iconst zh dX9_night_28 ki_m1 ?_
    exact z_iret zh dX9_night_29 ⟨_, rfl, hG, (ra_w rl_n1 (by decide) (by decide))⟩
  · have r6 : Ra 1 1 x2 := rb_ne_lo hx2 ra_z q4 (by decide)
    have r7 : Ra 1 20 a1 := (rb_in rl_1 rl_20 (hz3 q4))
    refine z_aloadnR zh dX9_night_16 rfl ?_
    refine z_getf zh fl_Y_7 dX9_night_17 ck_Y rfl rfl ?_
    refine z_bipush zh dX9_night_20 kb_6 ?_
    refine y_ialdN zh ck_now dX9_night_22 (by decide) (fun x8 ex8 => ?_)
    have hx8 : Ra 0 99 x8 := ra_of ex8 (nr_l hG 6 rfl)
    refine z_bipush zh dX9_night_23 kb_99 ?_
    refine z_icmp_ne (tgt := 30) zh dX9_night_25 rfl (fun q9 => ?_) (fun q9 => ?_)
    · have r10 : Ra 0 98 x8 := rb_ne_hi hx8 rl_99 q9 (by decide)
      refine z_iconst zh dX9_night_30 ki_0 ?_
      refine z_istoren zh dX9_night_31 (by decide) (L' := [some (rf g 551), some (.int a1), some (.int (nI 0))]) rfl ?_
      have J32 : ∀ (n : Nat) (iv : Iv) (lv : Lv) (x11 : Int32), SI sp σ iv → Ra 0 20 x11 → 20 - x11.toInt < (n : Int) → Z 32 [some (rf g 551), some (.int a1), some (.int x11)] [] iv lv := by
        intro n
        induction n with
        | zero => intro iv lv x11 hG hx11 hn32; exact (ms_uz hx11 hn32).elim
        | succ n ih32 =>
          intro iv lv x11 hG hx11 hn32
          refine z_iloadn zh dX9_night_32 rfl ?_
          refine z_iloadn zh dX9_night_33 rfl ?_
          refine z_icmp_ge (tgt := 60) zh dX9_night_34 rfl (fun q12 => ?_) (fun q12 => ?_)
          · have r13 : Ra 1 20 x11 := rb_le_r r7 hx11 q12 (by decide)
            refine z_iloadn zh dX9_night_60 rfl ?_
            exact z_iret zh dX9_night_61 ⟨_, rfl, hG, (ra_w r13 (by decide) (by decide))⟩
          · have r14 : Ra 0 19 x11 := rb_lt_l r7 hx11 (rb_nle q12) (by decide)
            refine z_aloadnR zh dX9_night_37 rfl ?_
            refine z_getf zh fl_Y_7 dX9_night_38 ck_Y rfl rfl ?_
            refine z_bipush zh dX9_night_41 kb_6 ?_
            refine y_ialdN zh ck_now dX9_night_43 (by decide) (fun x15 ex15 => ?_)
            have hx15 : Ra 0 99 x15 := ra_of ex15 (nr_l hG 6 rfl)
            refine z_bipush zh dX9_night_44 kb_99 ?_
            refine z_icmp_ge (tgt := 60) zh dX9_night_46 rfl (fun q16 => ?_) (fun q16 => ?_)
            · have r17 : Ra 99 99 x15 := rb_le_r rl_99 hx15 q16 (by decide)
              refine z_iloadn zh dX9_night_60 rfl ?_
              exact z_iret zh dX9_night_61 ⟨_, rfl, hG, (ra_w r14 (by decide) (by decide))⟩
            · have r18 : Ra 0 98 x15 := rb_lt_l rl_99 hx15 (rb_nle q16) (by decide)
              refine z_aloadnR zh dX9_night_49 rfl ?_
              refine z_callVV zh mv_Y_303 dX9_night_50 ck_Y rfl (s_X9_goesNight g  hG hq (by rw [ex15]; exact r18)) ⟨Nat.le_of_ble_eq_true rfl, Nat.le_of_ble_eq_true rfl⟩ rfl rfl (Nat.le_of_ble_eq_true rfl) ?_
              rintro iv lv hG
              refine z_iloadn zh dX9_night_53 rfl ?_
              refine z_iconst zh dX9_night_54 ki_1 ?_
              refine y_iadd zh dX9_night_55 r14 rl_1 (u := 1) (v := 20) rfl rfl (by decide) (by decide) (fun x19 hc19 hx19 => ?_)
              refine z_istoren zh dX9_night_56 (by decide) (L' := [some (rf g 551), some (.int a1), some (.int x19)]) rfl ?_
              refine z_goto (tgt := 32) zh dX9_night_57 rfl ?_
              exact ih32 iv lv x19 hG (ra_w hx19 (by decide) (by decide)) (ms_up (bs_add hc19 rl_1) (by decide) hn32)
      exact J32 21 iv lv (nI 0) hG (ra_w rl_0 (by decide) (by decide)) (ms_u0 rl_0 (by decide))
    · have r20 := rb_eq (u := 99) (v := 99) hx8 rl_99 q9 (by decide) (by decide)
      refine z_iconst zh dX9_night_28 ki_m1 ?_
      exact z_iret zh dX9_night_29 ⟨_, rfl, hG, (ra_w rl_n1 (by decide) (by decide))⟩
set_option maxRecDepth 20000 in
theorem s_X9_readNumber (g : GE) {sp : Nat → Nat → Bool} {σ : Iv} {iv : Iv} {lv : Lv} {a1 : Int32} {a2 : Int32} (ha1 : Ra 0 4 a1) (ha2 : Ra 5 9999 a2) (hG : SI sp σ iv)  : ConI g yX9_readNumber cX9_readNumber 4 (some .int) 4 [rf g 551, .int a1, .int a2] iv lv (fun r iv lv => SI sp σ iv ∧ Ra (-1) 9999 r) := by
  refine con_intro (own := "RollingNetsModel") (by decide +kernel) rfl (Nat.le_of_ble_eq_true rfl) (L0 := [some (rf g 551), some (.int a1), some (.int a2), none]) rfl (fun Z zh => ?_)
  refine z_aloadnR zh dX9_readNumber_0 rfl ?_
  refine y_getI zh fl_Y_359 dX9_readNumber_1 ck_Y rfl rfl (fun x1 ex1 => ?_)
  refine z_iconst zh dX9_readNumber_4 ki_3 ?_
  refine z_icmp_eq (tgt := 14) zh dX9_readNumber_5 rfl (fun q2 => ?_) (fun q2 => ?_)
  · have r3 := rb_eq (u := 3) (v := 3) (ra_tt x1) rl_3 q2 (by decide) (by decide)
    refine z_aloadnR zh dX9_readNumber_14 rfl ?_
    refine z_aloadnR zh dX9_readNumber_15 rfl ?_
    refine y_getI zh fl_Y_362 dX9_readNumber_16 ck_Y rfl rfl (fun x4 ex4 => ?_)
    refine z_iloadn zh dX9_readNumber_19 rfl ?_
    refine z_iloadn zh dX9_readNumber_20 rfl ?_
    refine z_callVI zh mv_Y_79 dX9_readNumber_21 ck_Y rfl (s_X9_isIn g) ⟨Nat.le_of_ble_eq_true rfl, Nat.le_of_ble_eq_true rfl⟩ rfl rfl (Nat.le_of_ble_eq_true rfl) ?_
    rintro x5 _ _ ⟨rfl, rfl, hx5, hz6⟩
    refine z_if_ne (tgt := 33) zh dX9_readNumber_24 rfl (fun q7 => ?_) (fun q7 => ?_)
    · have r8 : Ra 1 1 x5 := rb_ne_lo hx5 ra_z q7 (by decide)
      have r9 : Ra 0 9999 x4 := (rb_in ha1 ha2 (hz6 q7))
      refine z_aloadnR zh dX9_readNumber_33 rfl ?_
      refine z_getI (x := x4) zh fl_Y_362 dX9_readNumber_34 ck_Y rfl rfl ex4 ?_
      refine z_istoren zh dX9_readNumber_37 (by decide) (L' := [some (rf g 551), some (.int a1), some (.int a2), some (.int x4)]) rfl ?_
      refine z_aloadnR zh dX9_readNumber_38 rfl ?_
      refine z_callVV zh mv_Y_383 dX9_readNumber_39 ck_Y rfl (s_X9_reads g  hG) ⟨Nat.le_of_ble_eq_true rfl, Nat.le_of_ble_eq_true rfl⟩ rfl rfl (Nat.le_of_ble_eq_true rfl) ?_
      rintro iv lv hG
      refine z_iloadn zh dX9_readNumber_42 rfl ?_
      exact z_iret zh dX9_readNumber_43 ⟨_, rfl, hG, (ra_w r9 (by decide) (by decide))⟩
    · have r10 := rb_eq (u := 0) (v := 0) hx5 ra_z q7 (by decide) (by decide)
      refine z_aloadnR zh dX9_readNumber_27 rfl ?_
      refine z_iconst zh dX9_readNumber_28 ki_2 ?_
      refine z_callVI zh mv_Y_380 dX9_readNumber_29 ck_Y rfl (s_X9_errs g (ra_w rl_2 (by decide) (by decide)) hG) ⟨Nat.le_of_ble_eq_true rfl, Nat.le_of_ble_eq_true rfl⟩ rfl rfl (Nat.le_of_ble_eq_true rfl) ?_
      rintro x11 iv lv ⟨hG, hx11⟩
      exact z_iret zh dX9_readNumber_32 ⟨_, rfl, hG, (ra_w hx11 (by decide) (by decide))⟩
  · refine z_aloadnR zh dX9_readNumber_8 rfl ?_
    refine z_iconst zh dX9_readNumber_9 ki_1 ?_
    refine z_callVI zh mv_Y_380 dX9_readNumber_10 ck_Y rfl (s_X9_errs g (ra_w rl_1 (by decide) (by decide)) hG) ⟨Nat.le_of_ble_eq_true rfl, Nat.le_of_ble_eq_true rfl⟩ rfl rfl (Nat.le_of_ble_eq_true rfl) ?_
    rintro x12 iv lv ⟨hG, hx12⟩
    exact z_iret zh dX9_readNumber_13 ⟨_, rfl, hG, (ra_w hx12 (by decide) (by decide))⟩
set_option maxRecDepth 20000 in
theorem s_X9_readLine (g : GE) {sp : Nat → Nat → Bool} {σ : Iv} {iv : Iv} {lv : Lv} {a1 : Int32} (ha1 : Ra 0 24 a1) (hG : SI sp σ iv) (hq : Sq sp) : ConI g yX9_readLine cX9_readLine 5 (some .int) 5 [rf g 551, .int a1] iv lv (fun r iv lv => SI sp σ iv ∧ Ra (-1) 0 r ∧ (¬ r = (-1) → Ra 0 23 a1)) := by
  refine con_intro (own := "RollingNetsModel") (by decide +kernel) rfl (Nat.le_of_ble_eq_true rfl) (L0 := [some (rf g 551), some (.int a1), none, none, none]) rfl (fun Z zh => ?_)
  refine z_aloadnR zh dX9_readLine_0 rfl ?_
  refine y_getI zh fl_Y_359 dX9_readLine_1 ck_Y rfl rfl (fun x1 ex1 => ?_)
  refine z_iconst zh dX9_readLine_4 ki_2 ?_
  refine z_icmp_eq (tgt := 14) zh dX9_readLine_5 rfl (fun q2 => ?_) (fun q2 => ?_)
  · have r3 := rb_eq (u := 2) (v := 2) (ra_tt x1) rl_2 q2 (by decide) (by decide)
    refine z_iloadn zh dX9_readLine_14 rfl ?_
    refine z_bipush zh dX9_readLine_15 kb_24 ?_
    refine z_icmp_ne (tgt := 26) zh dX9_readLine_17 rfl (fun q4 => ?_) (fun q4 => ?_)
    · have r5 : Ra 0 23 a1 := rb_ne_hi ha1 rl_24 q4 (by decide)
      refine z_sipush zh dX9_readLine_26 ks_144 ?_
      refine z_bipush zh dX9_readLine_29 kb_6 ?_
      refine z_iloadn zh dX9_readLine_31 rfl ?_
      refine y_imul2 zh dX9_readLine_32 r5 rl_6 (by decide) (u := 0) (v := 138) rfl rfl (by decide) (by decide) (fun x6 hc6 hx6 => ?_)
      refine y_iadd zh dX9_readLine_33 rl_144 hx6 (u := 144) (v := 282) rfl rfl (by decide) (by decide) (fun x7 hc7 hx7 => ?_)
      refine z_istoren zh dX9_readLine_34 (by decide) (L' := [some (rf g 551), some (.int a1), some (.int x7), none, none]) rfl ?_
      refine z_aloadnR zh dX9_readLine_35 rfl ?_
      refine y_getI zh fl_Y_362 dX9_readLine_36 ck_Y rfl rfl (fun x8 ex8 => ?_)
      refine z_istoren zh dX9_readLine_39 (by decide) (L' := [some (rf g 551), some (.int a1), some (.int x7), some (.int x8), none]) rfl ?_
      refine z_aloadnR zh dX9_readLine_40 rfl ?_
      refine z_getf zh fl_Y_49 dX9_readLine_41 ck_Y rfl rfl ?_
      refine z_iloadn zh dX9_readLine_44 rfl ?_
      refine z_iloadn zh dX9_readLine_45 rfl ?_
      refine z_iast zh ck_plans dX9_readLine_46 (ra_in hx7 (by decide) (by decide)) ?_
      have hG : SI sp σ (upI iv 563 x7.toNatClampNeg x8) := si_w (k := 563) hG (by decide) (by decide) (sq_n hq (by decide) (by decide) (by decide)) (rx_none rfl)
      have em9 := (upI_ne (iv := iv) (k := 563) (j := x7.toNatClampNeg) (x := x8) (a := 551) (b := 20) (Or.inl (by decide))).trans ex1
      have em10 := (upI_ne (iv := iv) (k := 563) (j := x7.toNatClampNeg) (x := x8) (a := 551) (b := 21) (Or.inl (by decide))).trans ex8
      generalize upI iv 563 x7.toNatClampNeg x8 = iv at hG em9 em10 ⊢
      refine z_aloadnR zh dX9_readLine_47 rfl ?_
      refine z_callVV zh mv_Y_383 dX9_readLine_48 ck_Y rfl (s_X9_reads g  hG) ⟨Nat.le_of_ble_eq_true rfl, Nat.le_of_ble_eq_true rfl⟩ rfl rfl (Nat.le_of_ble_eq_true rfl) ?_
      rintro iv lv hG
      refine z_iconst zh dX9_readLine_51 ki_0 ?_
      refine z_istore zh dX9_readLine_52 (by decide) (L' := [some (rf g 551), some (.int a1), some (.int x7), some (.int x8), some (.int (nI 0))]) rfl ?_
      have J54 : ∀ (n : Nat) (iv : Iv) (lv : Lv) (x11 : Int32), SI sp σ iv → Ra 0 5 x11 → 5 - x11.toInt < (n : Int) → Z 54 [some (rf g 551), some (.int a1), some (.int x7), some (.int x8), some (.int x11)] [] iv lv := by
        intro n
        induction n with
        | zero => intro iv lv x11 hG hx11 hn54; exact (ms_uz hx11 hn54).elim
        | succ n ih54 =>
          intro iv lv x11 hG hx11 hn54
          refine z_iload zh dX9_readLine_54 rfl ?_
          refine z_aloadnR zh dX9_readLine_56 rfl ?_
          refine z_iloadn zh dX9_readLine_57 rfl ?_
          refine z_callVI zh mv_Y_386 dX9_readLine_58 ck_Y rfl (s_X9_manyOf g  hG) ⟨Nat.le_of_ble_eq_true rfl, Nat.le_of_ble_eq_true rfl⟩ rfl rfl (Nat.le_of_ble_eq_true rfl) ?_
          rintro x12 _ _ ⟨rfl, rfl, hx12⟩
          refine z_icmp_ge (tgt := 116) zh dX9_readLine_61 rfl (fun q13 => ?_) (fun q13 => ?_)
          · have r14 : Ra 1 5 x11 := rb_le_r hx12 hx11 q13 (by decide)
            refine z_aloadnR zh dX9_readLine_116 rfl ?_
            refine y_getI zh fl_Y_359 dX9_readLine_117 ck_Y rfl rfl (fun x15 ex15 => ?_)
            refine z_iconst zh dX9_readLine_120 ki_4 ?_
            refine z_icmp_eq (tgt := 130) zh dX9_readLine_121 rfl (fun q16 => ?_) (fun q16 => ?_)
            · have r17 := rb_eq (u := 4) (v := 4) (ra_tt x15) rl_4 q16 (by decide) (by decide)
              refine z_aloadnR zh dX9_readLine_130 rfl ?_
              refine z_callVV zh mv_Y_383 dX9_readLine_131 ck_Y rfl (s_X9_reads g  hG) ⟨Nat.le_of_ble_eq_true rfl, Nat.le_of_ble_eq_true rfl⟩ rfl rfl (Nat.le_of_ble_eq_true rfl) ?_
              rintro iv lv hG
              refine z_iconst zh dX9_readLine_134 ki_0 ?_
              exact z_iret zh dX9_readLine_135 ⟨_, rfl, hG, (ra_w rl_0 (by decide) (by decide)), (fun _ => r5)⟩
            · refine z_aloadnR zh dX9_readLine_124 rfl ?_
              refine z_iconst zh dX9_readLine_125 ki_1 ?_
              refine z_callVI zh mv_Y_380 dX9_readLine_126 ck_Y rfl (s_X9_errs g (ra_w rl_1 (by decide) (by decide)) hG) ⟨Nat.le_of_ble_eq_true rfl, Nat.le_of_ble_eq_true rfl⟩ rfl rfl (Nat.le_of_ble_eq_true rfl) ?_
              rintro x18 iv lv ⟨hG, hx18⟩
              exact z_iret zh dX9_readLine_129 ⟨_, rfl, hG, (ra_w hx18 (by decide) (by decide)), (fun q => absurd (ra_eqq hx18 rl_n1) q)⟩
          · have r19 : Ra 0 4 x11 := rb_lt_l hx12 hx11 (rb_nle q13) (by decide)
            refine z_aloadnR zh dX9_readLine_64 rfl ?_
            refine z_getf zh fl_Y_49 dX9_readLine_65 ck_Y rfl rfl ?_
            refine z_iloadn zh dX9_readLine_68 rfl ?_
            refine z_iconst zh dX9_readLine_69 ki_1 ?_
            refine y_iadd zh dX9_readLine_70 hx7 rl_1 (u := 145) (v := 283) rfl rfl (by decide) (by decide) (fun x20 hc20 hx20 => ?_)
            refine z_iload zh dX9_readLine_71 rfl ?_
            refine y_iadd zh dX9_readLine_73 hx20 r19 (u := 145) (v := 287) rfl rfl (by decide) (by decide) (fun x21 hc21 hx21 => ?_)
            refine z_aloadnR zh dX9_readLine_74 rfl ?_
            refine z_aloadnR zh dX9_readLine_75 rfl ?_
            refine z_iloadn zh dX9_readLine_76 rfl ?_
            refine z_iload zh dX9_readLine_77 rfl ?_
            refine z_callVI zh mv_Y_389 dX9_readLine_79 ck_Y rfl (s_X9_lowOf g r19 hG) ⟨Nat.le_of_ble_eq_true rfl, Nat.le_of_ble_eq_true rfl⟩ rfl rfl (Nat.le_of_ble_eq_true rfl) ?_
            rintro x22 _ _ ⟨rfl, rfl, hx22⟩
            refine z_aloadnR zh dX9_readLine_82 rfl ?_
            refine z_iloadn zh dX9_readLine_83 rfl ?_
            refine z_iload zh dX9_readLine_84 rfl ?_
            refine z_callVI zh mv_Y_392 dX9_readLine_86 ck_Y rfl (s_X9_highOf g r19 hG) ⟨Nat.le_of_ble_eq_true rfl, Nat.le_of_ble_eq_true rfl⟩ rfl rfl (Nat.le_of_ble_eq_true rfl) ?_
            rintro x23 _ _ ⟨rfl, rfl, hx23⟩
            refine z_callVI zh mv_Y_395 dX9_readLine_89 ck_Y rfl (s_X9_readNumber g hx22 hx23 hG) ⟨Nat.le_of_ble_eq_true rfl, Nat.le_of_ble_eq_true rfl⟩ rfl rfl (Nat.le_of_ble_eq_true rfl) ?_
            rintro x24 iv lv ⟨hG, hx24⟩
            refine z_iast zh ck_plans dX9_readLine_92 (ra_in hx21 (by decide) (by decide)) ?_
            have hG : SI sp σ (upI iv 563 x21.toNatClampNeg x24) := si_w (k := 563) hG (by decide) (by decide) (sq_n hq (by decide) (by decide) (by decide)) (rx_none rfl)
            generalize upI iv 563 x21.toNatClampNeg x24 = iv at hG  ⊢
            refine z_aloadnR zh dX9_readLine_93 rfl ?_
            refine z_getf zh fl_Y_49 dX9_readLine_94 ck_Y rfl rfl ?_
            refine z_iloadn zh dX9_readLine_97 rfl ?_
            refine z_iconst zh dX9_readLine_98 ki_1 ?_
            refine y_iadd zh dX9_readLine_99 hx7 rl_1 (u := 145) (v := 283) rfl rfl (by decide) (by decide) (fun x25 hc25 hx25 => ?_)
            refine z_iload zh dX9_readLine_100 rfl ?_
            refine y_iadd zh dX9_readLine_102 hx25 r19 (u := 145) (v := 287) rfl rfl (by decide) (by decide) (fun x26 hc26 hx26 => ?_)
            refine y_iald zh ck_plans dX9_readLine_103 hx26 (by decide) (by decide) (fun x27 ex27 => ?_)
            refine z_iconst zh dX9_readLine_104 ki_m1 ?_
            refine z_icmp_ne (tgt := 110) zh dX9_readLine_105 rfl (fun q28 => ?_) (fun q28 => ?_)
            · refine y_iinc (L' := fun z => [some (rf g 551), some (.int a1), some (.int x7), some (.int x8), some (.int z)]) zh dX9_readLine_110 (by decide) rfl (by decide +kernel) r19 (u := 1) (v := 5) rfl rfl (by decide) (by decide) (fun _ => rfl) (fun x29 hc29 hx29 => ?_)
              refine z_goto (tgt := 54) zh dX9_readLine_113 rfl ?_
              exact ih54 iv lv x29 hG (ra_w hx29 (by decide) (by decide)) (ms_up hc29 (by decide) hn54)
            · have r30 := rb_eq (u := (-1)) (v := (-1)) (ra_tt x27) rl_n1 q28 (by decide) (by decide)
              refine z_iconst zh dX9_readLine_108 ki_m1 ?_
              exact z_iret zh dX9_readLine_109 ⟨_, rfl, hG, (ra_w rl_n1 (by decide) (by decide)), (fun q => absurd rfl q)⟩
      exact J54 6 iv lv (nI 0) hG (ra_w rl_0 (by decide) (by decide)) (ms_u0 rl_0 (by decide))
    · have r31 := rb_eq (u := 24) (v := 24) ha1 rl_24 q4 (by decide) (by decide)
      refine z_aloadnR zh dX9_readLine_20 rfl ?_
      refine z_iconst zh dX9_readLine_21 ki_3 ?_
      refine z_callVI zh mv_Y_380 dX9_readLine_22 ck_Y rfl (s_X9_errs g (ra_w rl_3 (by decide) (by decide)) hG) ⟨Nat.le_of_ble_eq_true rfl, Nat.le_of_ble_eq_true rfl⟩ rfl rfl (Nat.le_of_ble_eq_true rfl) ?_
      rintro x32 iv lv ⟨hG, hx32⟩
      exact z_iret zh dX9_readLine_25 ⟨_, rfl, hG, (ra_w hx32 (by decide) (by decide)), (fun q => absurd (ra_eqq hx32 rl_n1) q)⟩
  · refine z_aloadnR zh dX9_readLine_8 rfl ?_
    refine z_iconst zh dX9_readLine_9 ki_1 ?_
    refine z_callVI zh mv_Y_380 dX9_readLine_10 ck_Y rfl (s_X9_errs g (ra_w rl_1 (by decide) (by decide)) hG) ⟨Nat.le_of_ble_eq_true rfl, Nat.le_of_ble_eq_true rfl⟩ rfl rfl (Nat.le_of_ble_eq_true rfl) ?_
    rintro x33 iv lv ⟨hG, hx33⟩
    exact z_iret zh dX9_readLine_13 ⟨_, rfl, hG, (ra_w hx33 (by decide) (by decide)), (fun q => absurd (ra_eqq hx33 rl_n1) q)⟩
set_option maxRecDepth 20000 in
theorem s_X9_readPlan (g : GE) {sp : Nat → Nat → Bool} {σ : Iv} {iv : Iv} {lv : Lv}   (hG : SI sp σ iv) (hq : Sq sp) : ConI g yX9_readPlan cX9_readPlan 2 (some .int) 6 [rf g 551] iv lv (fun r iv lv => SI sp σ iv ∧ Ra (-1) 24 r) := by
  refine con_intro (own := "RollingNetsModel") (by decide +kernel) rfl (Nat.le_of_ble_eq_true rfl) (L0 := [some (rf g 551), none]) rfl (fun Z zh => ?_)
  refine z_iconst zh dX9_readPlan_0 ki_0 ?_
  refine z_istoren zh dX9_readPlan_1 (by decide) (L' := [some (rf g 551), some (.int (nI 0))]) rfl ?_
  refine z_aloadnR zh dX9_readPlan_2 rfl ?_
  refine z_iconst zh dX9_readPlan_3 ki_0 ?_
  refine z_putI zh fl_Y_350 dX9_readPlan_4 ck_Y rfl rfl (Nat.le_of_ble_eq_true rfl) (Or.inl rfl) ?_
  have hG : SI sp σ (upI iv 551 18 (nI 0)) := si_w (k := 551) (j := 18) hG (by decide) (by decide) (sp_no hG ((spc_Y (q := 0)).trans rfl)) (fun lo hi q => (rx_some (ra_w rl_0 (by decide) (by decide))) lo hi ((rg_Y (q := 0)).symm.trans q))
  have em1 : upI iv 551 18 (nI 0) 551 18 = nI 0 := by rw [upI_at, if_pos ⟨rfl, rfl⟩]
  generalize upI iv 551 18 (nI 0) = iv at hG em1 ⊢
  refine z_aloadnR zh dX9_readPlan_7 rfl ?_
  refine z_callVV zh mv_Y_383 dX9_readPlan_8 ck_Y rfl (s_X9_reads g  hG) ⟨Nat.le_of_ble_eq_true rfl, Nat.le_of_ble_eq_true rfl⟩ rfl rfl (Nat.le_of_ble_eq_true rfl) ?_
  rintro iv lv hG
  have J11 : ∀ (n : Nat) (iv : Iv) (lv : Lv) (x2 : Int32), SI sp σ iv → Ra 0 24 x2 → 24 - x2.toInt < (n : Int) → Z 11 [some (rf g 551), some (.int x2)] [] iv lv := by
    intro n
    induction n with
    | zero => intro iv lv x2 hG hx2 hn11; exact (ms_uz hx2 hn11).elim
    | succ n ih11 =>
      intro iv lv x2 hG hx2 hn11
      refine z_aloadnR zh dX9_readPlan_11 rfl ?_
      refine y_getI zh fl_Y_359 dX9_readPlan_12 ck_Y rfl rfl (fun x3 ex3 => ?_)
      refine z_if_eq (tgt := 36) zh dX9_readPlan_15 rfl (fun q4 => ?_) (fun q4 => ?_)
      · have r5 := rb_eq (u := 0) (v := 0) (ra_tt x3) ra_z q4 (by decide) (by decide)
        refine z_iloadn zh dX9_readPlan_36 rfl ?_
        exact z_iret zh dX9_readPlan_37 ⟨_, rfl, hG, (ra_w hx2 (by decide) (by decide))⟩
      · refine z_aloadnR zh dX9_readPlan_18 rfl ?_
        refine z_iloadn zh dX9_readPlan_19 rfl ?_
        refine z_callVI zh mv_Y_398 dX9_readPlan_20 ck_Y rfl (s_X9_readLine g hx2 hG hq) ⟨Nat.le_of_ble_eq_true rfl, Nat.le_of_ble_eq_true rfl⟩ rfl rfl (Nat.le_of_ble_eq_true rfl) ?_
        rintro x6 iv lv ⟨hG, hx6, hz7⟩
        refine z_iconst zh dX9_readPlan_23 ki_m1 ?_
        refine z_icmp_ne (tgt := 29) zh dX9_readPlan_24 rfl (fun q8 => ?_) (fun q8 => ?_)
        · have r9 : Ra 0 23 x2 := (hz7 q8)
          have r10 : Ra 0 0 x6 := rb_ne_lo hx6 rl_n1 q8 (by decide)
          refine z_iloadn zh dX9_readPlan_29 rfl ?_
          refine z_iconst zh dX9_readPlan_30 ki_1 ?_
          refine y_iadd zh dX9_readPlan_31 r9 rl_1 (u := 1) (v := 24) rfl rfl (by decide) (by decide) (fun x11 hc11 hx11 => ?_)
          refine z_istoren zh dX9_readPlan_32 (by decide) (L' := [some (rf g 551), some (.int x11)]) rfl ?_
          refine z_goto (tgt := 11) zh dX9_readPlan_33 rfl ?_
          exact ih11 iv lv x11 hG (ra_w hx11 (by decide) (by decide)) (ms_up (bs_add hc11 rl_1) (by decide) hn11)
        · have r12 := rb_eq (u := (-1)) (v := (-1)) hx6 rl_n1 q8 (by decide) (by decide)
          refine z_iconst zh dX9_readPlan_27 ki_m1 ?_
          exact z_iret zh dX9_readPlan_28 ⟨_, rfl, hG, (ra_w rl_n1 (by decide) (by decide))⟩
  exact J11 25 iv lv (nI 0) hG (ra_w rl_0 (by decide) (by decide)) (ms_u0 rl_0 (by decide))
set_option maxRecDepth 20000 in
theorem s_X9_plan (g : GE) {sp : Nat → Nat → Bool} {σ : Iv} {iv : Iv} {lv : Lv}   (hG : SI sp σ iv) (hq : Sq sp) (hL : sp 551 17 = false) (hP : sp 552 10 = false) : ConI g yX9_plan cX9_plan 3 (some .int) 7 [rf g 551] iv lv (fun r iv lv => SI sp σ iv ∧ Ra (-1) 24 r) := by
  refine con_intro (own := "RollingNetsModel") (by decide +kernel) rfl (Nat.le_of_ble_eq_true rfl) (L0 := [some (rf g 551), none, none]) rfl (fun Z zh => ?_)
  refine z_aloadnR zh dX9_plan_0 rfl ?_
  refine z_iconst zh dX9_plan_1 ki_0 ?_
  refine z_putI zh fl_Y_58 dX9_plan_2 ck_Y rfl rfl (Nat.le_of_ble_eq_true rfl) (Or.inl rfl) ?_
  have hG : SI sp σ (upI iv 551 0 (nI 0)) := si_w (k := 551) (j := 0) hG (by decide) (by decide) (sp_no hG ((spc_Y (q := 0)).trans rfl)) (fun lo hi q => (rx_none rfl) lo hi ((rg_Y (q := 0)).symm.trans q))
  have em1 : upI iv 551 0 (nI 0) 551 0 = nI 0 := by rw [upI_at, if_pos ⟨rfl, rfl⟩]
  generalize upI iv 551 0 (nI 0) = iv at hG em1 ⊢
  refine z_aloadnR zh dX9_plan_5 rfl ?_
  refine z_iconst zh dX9_plan_6 ki_0 ?_
  refine z_putI zh fl_Y_401 dX9_plan_7 ck_Y rfl rfl (Nat.le_of_ble_eq_true rfl) (Or.inl rfl) ?_
  have hG : SI sp σ (upI iv 551 25 (nI 0)) := si_w (k := 551) (j := 25) hG (by decide) (by decide) (sq_no hq rfl) (fun lo hi q => (rx_none rfl) lo hi ((rg_Y (q := 0)).symm.trans q))
  have em2 := (upI_ne (iv := iv) (k := 551) (j := 25) (x := nI 0) (a := 551) (b := 0) (Or.inr (by decide))).trans em1
  have em3 : upI iv 551 25 (nI 0) 551 25 = nI 0 := by rw [upI_at, if_pos ⟨rfl, rfl⟩]
  generalize upI iv 551 25 (nI 0) = iv at hG em2 em3 ⊢
  refine z_aloadnR zh dX9_plan_10 rfl ?_
  refine z_iconst zh dX9_plan_11 ki_m1 ?_
  refine z_putI zh fl_Y_45 dX9_plan_12 ck_Y rfl rfl (Nat.le_of_ble_eq_true rfl) (Or.inl rfl) ?_
  have hG : SI sp σ (upI iv 551 26 (-1)) := si_w (k := 551) (j := 26) hG (by decide) (by decide) (sq_no hq rfl) (fun lo hi q => (rx_none rfl) lo hi ((rg_Y (q := 0)).symm.trans q))
  have em4 := (upI_ne (iv := iv) (k := 551) (j := 26) (x := (-1)) (a := 551) (b := 0) (Or.inr (by decide))).trans em2
  have em5 := (upI_ne (iv := iv) (k := 551) (j := 26) (x := (-1)) (a := 551) (b := 25) (Or.inr (by decide))).trans em3
  have em6 : upI iv 551 26 (-1) 551 26 = (-1) := by rw [upI_at, if_pos ⟨rfl, rfl⟩]
  generalize upI iv 551 26 (-1) = iv at hG em4 em5 em6 ⊢
  refine z_aloadnR zh dX9_plan_15 rfl ?_
  refine z_callVI zh mv_Y_404 dX9_plan_16 ck_Y rfl (s_X9_readPlan g  hG hq) ⟨Nat.le_of_ble_eq_true rfl, Nat.le_of_ble_eq_true rfl⟩ rfl rfl (Nat.le_of_ble_eq_true rfl) ?_
  rintro x7 iv lv ⟨hG, hx7⟩
  refine z_istoren zh dX9_plan_19 (by decide) (L' := [some (rf g 551), some (.int x7), none]) rfl ?_
  refine z_iloadn zh dX9_plan_20 rfl ?_
  refine z_iconst zh dX9_plan_21 ki_m1 ?_
  have J41 : ∀ (iv : Iv) (lv : Lv), SI sp σ iv → Z 41 [some (rf g 551), some (.int x7), none] [] iv lv := by
    intro iv lv hG
    refine z_aloadnR zh dX9_plan_41 rfl ?_
    refine z_iconst zh dX9_plan_42 ki_0 ?_
    refine z_putI zh fl_Y_344 dX9_plan_43 ck_Y rfl rfl (Nat.le_of_ble_eq_true rfl) (Or.inl rfl) ?_
    have hG : SI sp σ (upI iv 551 17 (nI 0)) := si_w (k := 551) (j := 17) hG (by decide) (by decide) hL (fun lo hi q => (rx_some (ra_w rl_0 (by decide) (by decide))) lo hi ((rg_Y (q := 0)).symm.trans q))
    have em8 : upI iv 551 17 (nI 0) 551 17 = nI 0 := by rw [upI_at, if_pos ⟨rfl, rfl⟩]
    generalize upI iv 551 17 (nI 0) = iv at hG em8 ⊢
    refine z_iloadn zh dX9_plan_46 rfl ?_
    refine z_iconst zh dX9_plan_47 ki_m1 ?_
    refine z_icmp_ne (tgt := 53) zh dX9_plan_48 rfl (fun q9 => ?_) (fun q9 => ?_)
    · have r10 : Ra 0 24 x7 := rb_ne_lo hx7 rl_n1 q9 (by decide)
      refine z_iconst zh dX9_plan_53 ki_0 ?_
      refine z_istoren zh dX9_plan_54 (by decide) (L' := [some (rf g 551), some (.int x7), some (.int (nI 0))]) rfl ?_
      have J55 : ∀ (n : Nat) (iv : Iv) (lv : Lv) (x11 : Int32), SI sp σ iv → Ra 0 144 x11 → iv 551 17 = nI 0 → 144 - x11.toInt < (n : Int) → Z 55 [some (rf g 551), some (.int x7), some (.int x11)] [] iv lv := by
        intro n
        induction n with
        | zero => intro iv lv x11 hG hx11 em12 hn55; exact (ms_uz hx11 hn55).elim
        | succ n ih55 =>
          intro iv lv x11 hG hx11 em12 hn55
          refine z_iloadn zh dX9_plan_55 rfl ?_
          refine z_bipush zh dX9_plan_56 kb_6 ?_
          refine z_iloadn zh dX9_plan_58 rfl ?_
          refine y_imul2 zh dX9_plan_59 r10 rl_6 (by decide) (u := 0) (v := 144) rfl rfl (by decide) (by decide) (fun x13 hc13 hx13 => ?_)
          refine z_icmp_ge (tgt := 85) zh dX9_plan_60 rfl (fun q14 => ?_) (fun q14 => ?_)
          · refine z_aloadnR zh dX9_plan_85 rfl ?_
            refine z_iloadn zh dX9_plan_86 rfl ?_
            refine z_putI zh fl_Y_407 dX9_plan_87 ck_Y rfl rfl (Nat.le_of_ble_eq_true rfl) (Or.inl rfl) ?_
            have hG : SI sp σ (upI iv 551 27 x7) := si_w (k := 551) (j := 27) hG (by decide) (by decide) (sq_no hq rfl) (fun lo hi q => (rx_some r10) lo hi ((rg_Y (q := 0)).symm.trans q))
            have em15 := (upI_ne (iv := iv) (k := 551) (j := 27) (x := x7) (a := 551) (b := 17) (Or.inr (by decide))).trans em12
            have em16 : upI iv 551 27 x7 551 27 = x7 := by rw [upI_at, if_pos ⟨rfl, rfl⟩]
            generalize upI iv 551 27 x7 = iv at hG em15 em16 ⊢
            refine z_aloadnR zh dX9_plan_90 rfl ?_
            refine z_getf zh fl_Y_7 dX9_plan_91 ck_Y rfl rfl ?_
            refine z_bipush zh dX9_plan_94 kb_10 ?_
            refine z_iconst zh dX9_plan_96 ki_0 ?_
            refine z_iastN (j := 10) zh ck_now dX9_plan_97 (by decide) ?_
            have hG : SI sp σ (upI iv 552 10 (nI 0)) := (nw_10 hG hP (ra_w rl_0 (by decide) (by decide)))
            have em17 := (upI_ne (iv := iv) (k := 552) (j := 10) (x := nI 0) (a := 551) (b := 17) (Or.inl (by decide))).trans em15
            have em18 := (upI_ne (iv := iv) (k := 552) (j := 10) (x := nI 0) (a := 551) (b := 27) (Or.inl (by decide))).trans em16
            have em19 : upI iv 552 10 (nI 0) 552 10 = nI 0 := by rw [upI_at, if_pos ⟨rfl, rfl⟩]
            generalize upI iv 552 10 (nI 0) = iv at hG em17 em18 em19 ⊢
            refine z_iloadn zh dX9_plan_98 rfl ?_
            exact z_iret zh dX9_plan_99 ⟨_, rfl, hG, (ra_w r10 (by decide) (by decide))⟩
          · have r20 : Ra 0 143 x11 := rb_lt_l hx13 hx11 (rb_nle q14) (by decide)
            have r21 : Ra 1 144 x13 := rb_lt_r hx11 hx13 (rb_nle q14) (by decide)
            refine z_aloadnR zh dX9_plan_63 rfl ?_
            refine z_getf zh fl_Y_49 dX9_plan_64 ck_Y rfl rfl ?_
            refine z_iloadn zh dX9_plan_67 rfl ?_
            refine z_aloadnR zh dX9_plan_68 rfl ?_
            refine z_getf zh fl_Y_49 dX9_plan_69 ck_Y rfl rfl ?_
            refine z_sipush zh dX9_plan_72 ks_144 ?_
            refine z_iloadn zh dX9_plan_75 rfl ?_
            refine y_iadd zh dX9_plan_76 rl_144 r20 (u := 144) (v := 287) rfl rfl (by decide) (by decide) (fun x22 hc22 hx22 => ?_)
            refine y_iald zh ck_plans dX9_plan_77 hx22 (by decide) (by decide) (fun x23 ex23 => ?_)
            refine z_iast zh ck_plans dX9_plan_78 (ra_in r20 (by decide) (by decide)) ?_
            have hG : SI sp σ (upI iv 563 x11.toNatClampNeg x23) := si_w (k := 563) hG (by decide) (by decide) (sq_n hq (by decide) (by decide) (by decide)) (rx_none rfl)
            have em24 := (upI_ne (iv := iv) (k := 563) (j := x11.toNatClampNeg) (x := x23) (a := 551) (b := 17) (Or.inl (by decide))).trans em12
            generalize upI iv 563 x11.toNatClampNeg x23 = iv at hG em24 ⊢
            refine y_iinc (L' := fun z => [some (rf g 551), some (.int x7), some (.int z)]) zh dX9_plan_79 (by decide) rfl (by decide +kernel) r20 (u := 1) (v := 144) rfl rfl (by decide) (by decide) (fun _ => rfl) (fun x25 hc25 hx25 => ?_)
            refine z_goto (tgt := 55) zh dX9_plan_82 rfl ?_
            exact ih55 iv lv x25 hG (ra_w hx25 (by decide) (by decide)) em24 (ms_up hc25 (by decide) hn55)
      exact J55 145 iv lv (nI 0) hG (ra_w rl_0 (by decide) (by decide)) em8 (ms_u0 rl_0 (by decide))
    · have r26 := rb_eq (u := (-1)) (v := (-1)) hx7 rl_n1 q9 (by decide) (by decide)
      refine z_iconst zh dX9_plan_51 ki_m1 ?_
      exact z_iret zh dX9_plan_52 ⟨_, rfl, hG, (ra_w rl_n1 (by decide) (by decide))⟩
  refine z_icmp_ne (tgt := 41) zh dX9_plan_22 rfl (fun q27 => ?_) (fun q27 => ?_)
  · have r28 : Ra 0 24 x7 := rb_ne_lo hx7 rl_n1 q27 (by decide)
    exact J41 iv lv hG
  · have r29 := rb_eq (u := (-1)) (v := (-1)) hx7 rl_n1 q27 (by decide) (by decide)
    refine z_aloadnR zh dX9_plan_25 rfl ?_
    refine z_aloadnR zh dX9_plan_26 rfl ?_
    refine y_getI zh fl_Y_374 dX9_plan_27 ck_Y rfl rfl (fun x30 ex30 => ?_)
    refine z_putI zh fl_Y_401 dX9_plan_30 ck_Y rfl rfl (Nat.le_of_ble_eq_true rfl) (Or.inl rfl) ?_
    have hG : SI sp σ (upI iv 551 25 x30) := si_w (k := 551) (j := 25) hG (by decide) (by decide) (sq_no hq rfl) (fun lo hi q => (rx_none rfl) lo hi ((rg_Y (q := 0)).symm.trans q))
    have em31 := (upI_ne (iv := iv) (k := 551) (j := 25) (x := x30) (a := 551) (b := 23) (Or.inr (by decide))).trans ex30
    have em32 : upI iv 551 25 x30 551 25 = x30 := by rw [upI_at, if_pos ⟨rfl, rfl⟩]
    generalize upI iv 551 25 x30 = iv at hG em31 em32 ⊢
    refine z_aloadnR zh dX9_plan_33 rfl ?_
    refine z_aloadnR zh dX9_plan_34 rfl ?_
    refine y_getI zh fl_Y_377 dX9_plan_35 ck_Y rfl rfl (fun x33 ex33 => ?_)
    refine z_putI zh fl_Y_45 dX9_plan_38 ck_Y rfl rfl (Nat.le_of_ble_eq_true rfl) (Or.inl rfl) ?_
    have hG : SI sp σ (upI iv 551 26 x33) := si_w (k := 551) (j := 26) hG (by decide) (by decide) (sq_no hq rfl) (fun lo hi q => (rx_none rfl) lo hi ((rg_Y (q := 0)).symm.trans q))
    have em34 := (upI_ne (iv := iv) (k := 551) (j := 26) (x := x33) (a := 551) (b := 23) (Or.inr (by decide))).trans em31
    have em35 := (upI_ne (iv := iv) (k := 551) (j := 26) (x := x33) (a := 551) (b := 25) (Or.inr (by decide))).trans em32
    have em36 := (upI_ne (iv := iv) (k := 551) (j := 26) (x := x33) (a := 551) (b := 24) (Or.inr (by decide))).trans ex33
    have em37 : upI iv 551 26 x33 551 26 = x33 := by rw [upI_at, if_pos ⟨rfl, rfl⟩]
    generalize upI iv 551 26 x33 = iv at hG em34 em35 em36 em37 ⊢
    exact J41 iv lv hG
set_option maxRecDepth 20000 in
theorem s_X9_reached (g : GE) {sp : Nat → Nat → Bool} {σ : Iv} {iv : Iv} {lv : Lv} {a1 : Int32} {a2 : Int32}  (hG : SI sp σ iv)  : ConI g yX9_reached cX9_reached 3 (some .int) 6 [rf g 551, .int a1, .int a2] iv lv (fun r iv lv => SI sp σ iv ∧ Ra (-1) 12 r) := by
  refine con_intro (own := "RollingNetsModel") (by decide +kernel) rfl (Nat.le_of_ble_eq_true rfl) (L0 := [some (rf g 551), some (.int a1), some (.int a2)]) rfl (fun Z zh => ?_)
  refine z_aloadnR zh dX9_reached_0 rfl ?_
  refine z_iconst zh dX9_reached_1 ki_0 ?_
  refine z_putI zh fl_Y_58 dX9_reached_2 ck_Y rfl rfl (Nat.le_of_ble_eq_true rfl) (Or.inl rfl) ?_
  have hG : SI sp σ (upI iv 551 0 (nI 0)) := si_w (k := 551) (j := 0) hG (by decide) (by decide) (sp_no hG ((spc_Y (q := 0)).trans rfl)) (fun lo hi q => (rx_none rfl) lo hi ((rg_Y (q := 0)).symm.trans q))
  have em1 : upI iv 551 0 (nI 0) 551 0 = nI 0 := by rw [upI_at, if_pos ⟨rfl, rfl⟩]
  generalize upI iv 551 0 (nI 0) = iv at hG em1 ⊢
  refine z_aloadnR zh dX9_reached_5 rfl ?_
  refine z_iloadn zh dX9_reached_6 rfl ?_
  refine z_callVI zh mv_Y_191 dX9_reached_7 ck_Y rfl (s_X9_isOpenApart g  hG) ⟨Nat.le_of_ble_eq_true rfl, Nat.le_of_ble_eq_true rfl⟩ rfl rfl (Nat.le_of_ble_eq_true rfl) ?_
  rintro x2 _ _ ⟨rfl, rfl, hx2, hz3⟩
  refine z_if_eq (tgt := 23) zh dX9_reached_10 rfl (fun q4 => ?_) (fun q4 => ?_)
  · have r5 := rb_eq (u := 0) (v := 0) hx2 ra_z q4 (by decide) (by decide)
    refine z_iconst zh dX9_reached_23 ki_m1 ?_
    exact z_iret zh dX9_reached_24 ⟨_, rfl, hG, (ra_w rl_n1 (by decide) (by decide))⟩
  · have r6 : Ra 1 1 x2 := rb_ne_lo hx2 ra_z q4 (by decide)
    have r7 : Ra 0 199 a1 := (hz3 q4)
    refine z_aloadnR zh dX9_reached_13 rfl ?_
    refine z_iloadn zh dX9_reached_14 rfl ?_
    refine z_iconst zh dX9_reached_15 ki_0 ?_
    refine z_iconst zh dX9_reached_16 ki_1 ?_
    refine z_callVI zh mv_Y_79 dX9_reached_17 ck_Y rfl (s_X9_isIn g) ⟨Nat.le_of_ble_eq_true rfl, Nat.le_of_ble_eq_true rfl⟩ rfl rfl (Nat.le_of_ble_eq_true rfl) ?_
    rintro x8 _ _ ⟨rfl, rfl, hx8, hz9⟩
    refine z_if_ne (tgt := 25) zh dX9_reached_20 rfl (fun q10 => ?_) (fun q10 => ?_)
    · have r11 : Ra 1 1 x8 := rb_ne_lo hx8 ra_z q10 (by decide)
      have r12 : Ra 0 1 a2 := (rb_in rl_0 rl_1 (hz9 q10))
      refine z_aloadnR zh dX9_reached_25 rfl ?_
      refine z_iloadn zh dX9_reached_26 rfl ?_
      refine z_aloadnR zh dX9_reached_27 rfl ?_
      refine z_iloadn zh dX9_reached_28 rfl ?_
      refine z_bipush zh dX9_reached_29 kb_7 ?_
      refine z_callVI zh mv_Y_151 dX9_reached_31 ck_Y rfl (s_X9_tradeOf g r7 (ra_w rl_7 (by decide) (by decide)) hG) ⟨Nat.le_of_ble_eq_true rfl, Nat.le_of_ble_eq_true rfl⟩ rfl rfl (Nat.le_of_ble_eq_true rfl) ?_
      rintro x13 _ _ ⟨rfl, rfl, z14, ez14, ex13⟩
      refine z_callVV zh mv_Y_229 dX9_reached_34 ck_Y rfl (s_X9_laysChain g r7 hG) ⟨Nat.le_of_ble_eq_true rfl, Nat.le_of_ble_eq_true rfl⟩ rfl rfl (Nat.le_of_ble_eq_true rfl) ?_
      rintro iv lv hG
      refine z_iloadn zh dX9_reached_37 rfl ?_
      refine z_if_ne (tgt := 48) zh dX9_reached_38 rfl (fun q15 => ?_) (fun q15 => ?_)
      · have r16 : Ra 1 1 a2 := rb_ne_lo r12 ra_z q15 (by decide)
        refine z_aloadnR zh dX9_reached_48 rfl ?_
        refine y_getI zh fl_Y_220 dX9_reached_49 ck_Y rfl rfl (fun x17 ex17 => ?_)
        have hx17 : Ra 0 12 x17 := ra_of ex17 (si_Y hG 0 (j := 7) rfl)
        exact z_iret zh dX9_reached_52 ⟨_, rfl, hG, (ra_w hx17 (by decide) (by decide))⟩
      · have r18 := rb_eq (u := 0) (v := 0) r12 ra_z q15 (by decide) (by decide)
        refine z_aloadnR zh dX9_reached_41 rfl ?_
        refine y_getI zh fl_Y_223 dX9_reached_42 ck_Y rfl rfl (fun x19 ex19 => ?_)
        have hx19 : Ra 0 11 x19 := ra_of ex19 (si_Y hG 0 (j := 9) rfl)
        refine z_goto (tgt := 52) zh dX9_reached_45 rfl ?_
        exact z_iret zh dX9_reached_52 ⟨_, rfl, hG, (ra_w hx19 (by decide) (by decide))⟩
    · have r20 := rb_eq (u := 0) (v := 0) hx8 ra_z q10 (by decide) (by decide)
      refine z_iconst zh dX9_reached_23 ki_m1 ?_
      exact z_iret zh dX9_reached_24 ⟨_, rfl, hG, (ra_w rl_n1 (by decide) (by decide))⟩
set_option maxRecDepth 20000 in
theorem s_X9_runsLine (g : GE) {sp : Nat → Nat → Bool} {σ : Iv} {iv : Iv} {lv : Lv} {a1 : Int32} (ha1 : Ra 0 138 a1) (hG : SI sp σ iv) (hq : Sq sp) : ConI g yX9_runsLine cX9_runsLine 6 (some .boolean) 12 [rf g 551, .int a1] iv lv (fun r iv lv => SI sp σ iv ∧ Ra 0 1 r) := by
  refine con_intro (own := "RollingNetsModel") (by decide +kernel) rfl (Nat.le_of_ble_eq_true rfl) (L0 := [some (rf g 551), some (.int a1), none, none, none, none]) rfl (fun Z zh => ?_)
  refine z_aloadnR zh dX9_runsLine_0 rfl ?_
  refine z_getf zh fl_Y_49 dX9_runsLine_1 ck_Y rfl rfl ?_
  refine z_iloadn zh dX9_runsLine_4 rfl ?_
  refine y_iald zh ck_plans dX9_runsLine_5 ha1 (by decide) (by decide) (fun x1 ex1 => ?_)
  refine z_istoren zh dX9_runsLine_6 (by decide) (L' := [some (rf g 551), some (.int a1), some (.int x1), none, none, none]) rfl ?_
  refine z_aloadnR zh dX9_runsLine_7 rfl ?_
  refine z_getf zh fl_Y_49 dX9_runsLine_8 ck_Y rfl rfl ?_
  refine z_iloadn zh dX9_runsLine_11 rfl ?_
  refine z_iconst zh dX9_runsLine_12 ki_1 ?_
  refine y_iadd zh dX9_runsLine_13 ha1 rl_1 (u := 1) (v := 139) rfl rfl (by decide) (by decide) (fun x2 hc2 hx2 => ?_)
  refine y_iald zh ck_plans dX9_runsLine_14 hx2 (by decide) (by decide) (fun x3 ex3 => ?_)
  refine z_istoren zh dX9_runsLine_15 (by decide) (L' := [some (rf g 551), some (.int a1), some (.int x1), some (.int x3), none, none]) rfl ?_
  refine z_aloadnR zh dX9_runsLine_16 rfl ?_
  refine z_getf zh fl_Y_49 dX9_runsLine_17 ck_Y rfl rfl ?_
  refine z_iloadn zh dX9_runsLine_20 rfl ?_
  refine z_iconst zh dX9_runsLine_21 ki_2 ?_
  refine y_iadd zh dX9_runsLine_22 ha1 rl_2 (u := 2) (v := 140) rfl rfl (by decide) (by decide) (fun x4 hc4 hx4 => ?_)
  refine y_iald zh ck_plans dX9_runsLine_23 hx4 (by decide) (by decide) (fun x5 ex5 => ?_)
  refine z_istore zh dX9_runsLine_24 (by decide) (L' := [some (rf g 551), some (.int a1), some (.int x1), some (.int x3), some (.int x5), none]) rfl ?_
  refine z_aloadnR zh dX9_runsLine_26 rfl ?_
  refine z_getf zh fl_Y_49 dX9_runsLine_27 ck_Y rfl rfl ?_
  refine z_iloadn zh dX9_runsLine_30 rfl ?_
  refine z_iconst zh dX9_runsLine_31 ki_3 ?_
  refine y_iadd zh dX9_runsLine_32 ha1 rl_3 (u := 3) (v := 141) rfl rfl (by decide) (by decide) (fun x6 hc6 hx6 => ?_)
  refine y_iald zh ck_plans dX9_runsLine_33 hx6 (by decide) (by decide) (fun x7 ex7 => ?_)
  refine z_istore zh dX9_runsLine_34 (by decide) (L' := [some (rf g 551), some (.int a1), some (.int x1), some (.int x3), some (.int x5), some (.int x7)]) rfl ?_
  refine z_iloadn zh dX9_runsLine_36 rfl ?_
  refine z_iconst zh dX9_runsLine_37 ki_2 ?_
  refine z_icmp_ge (tgt := 77) zh dX9_runsLine_38 rfl (fun q8 => ?_) (fun q8 => ?_)
  · have r9 : Ra 2 2147483647 x1 := rb_le_r rl_2 (ra_tt x1) q8 (by decide)
    refine z_iloadn zh dX9_runsLine_77 rfl ?_
    refine z_iconst zh dX9_runsLine_78 ki_4 ?_
    refine z_icmp_gt (tgt := 95) zh dX9_runsLine_79 rfl (fun q10 => ?_) (fun q10 => ?_)
    · have r11 : Ra 5 2147483647 x1 := rb_lt_r rl_4 r9 q10 (by decide)
      refine z_iloadn zh dX9_runsLine_95 rfl ?_
      refine z_iconst zh dX9_runsLine_96 ki_5 ?_
      refine z_icmp_ne (tgt := 110) zh dX9_runsLine_97 rfl (fun q12 => ?_) (fun q12 => ?_)
      · have r13 : Ra 6 2147483647 x1 := rb_ne_lo r11 rl_5 q12 (by decide)
        refine z_iloadn zh dX9_runsLine_110 rfl ?_
        refine z_bipush zh dX9_runsLine_111 kb_6 ?_
        refine z_icmp_ne (tgt := 124) zh dX9_runsLine_113 rfl (fun q14 => ?_) (fun q14 => ?_)
        · have r15 : Ra 7 2147483647 x1 := rb_ne_lo r13 rl_6 q14 (by decide)
          refine z_iloadn zh dX9_runsLine_124 rfl ?_
          refine z_bipush zh dX9_runsLine_125 kb_7 ?_
          refine z_icmp_ne (tgt := 149) zh dX9_runsLine_127 rfl (fun q16 => ?_) (fun q16 => ?_)
          · have r17 : Ra 8 2147483647 x1 := rb_ne_lo r15 rl_7 q16 (by decide)
            refine z_iloadn zh dX9_runsLine_149 rfl ?_
            refine z_bipush zh dX9_runsLine_150 kb_8 ?_
            refine z_icmp_ne (tgt := 172) zh dX9_runsLine_152 rfl (fun q18 => ?_) (fun q18 => ?_)
            · have r19 : Ra 9 2147483647 x1 := rb_ne_lo r17 rl_8 q18 (by decide)
              refine z_aloadnR zh dX9_runsLine_172 rfl ?_
              refine z_iloadn zh dX9_runsLine_173 rfl ?_
              refine z_callVI zh mv_Y_423 dX9_runsLine_174 ck_Y rfl (s_X9_night g  hG hq) ⟨Nat.le_of_ble_eq_true rfl, Nat.le_of_ble_eq_true rfl⟩ rfl rfl (Nat.le_of_ble_eq_true rfl) ?_
              rintro x20 iv lv ⟨hG, hx20⟩
              refine z_iconst zh dX9_runsLine_177 ki_m1 ?_
              refine z_icmp_eq (tgt := 185) zh dX9_runsLine_178 rfl (fun q21 => ?_) (fun q21 => ?_)
              · have r22 := rb_eq (u := (-1)) (v := (-1)) hx20 rl_n1 q21 (by decide) (by decide)
                refine z_iconst zh dX9_runsLine_185 ki_0 ?_
                exact z_zret zh dX9_runsLine_186 (ra_01 (ra_w rl_0 (by decide) (by decide))) ⟨_, rfl, hG, (ra_w rl_0 (by decide) (by decide))⟩
              · have r23 : Ra 0 20 x20 := rb_ne_lo hx20 rl_n1 q21 (by decide)
                refine z_iconst zh dX9_runsLine_181 ki_1 ?_
                refine z_goto (tgt := 186) zh dX9_runsLine_182 rfl ?_
                exact z_zret zh dX9_runsLine_186 (ra_01 (ra_w rl_1 (by decide) (by decide))) ⟨_, rfl, hG, (ra_w rl_1 (by decide) (by decide))⟩
            · have r24 := rb_eq (u := 8) (v := 8) r17 rl_8 q18 (by decide) (by decide)
              refine z_aloadnR zh dX9_runsLine_155 rfl ?_
              refine z_iloadn zh dX9_runsLine_156 rfl ?_
              refine z_callVI zh mv_Y_420 dX9_runsLine_157 ck_Y rfl (s_X9_call g  hG hq) ⟨Nat.le_of_ble_eq_true rfl, Nat.le_of_ble_eq_true rfl⟩ rfl rfl (Nat.le_of_ble_eq_true rfl) ?_
              rintro x25 iv lv ⟨hG, hx25⟩
              refine z_iconst zh dX9_runsLine_160 ki_m1 ?_
              refine z_icmp_eq (tgt := 168) zh dX9_runsLine_161 rfl (fun q26 => ?_) (fun q26 => ?_)
              · have r27 := rb_eq (u := (-1)) (v := (-1)) hx25 rl_n1 q26 (by decide) (by decide)
                refine z_iconst zh dX9_runsLine_168 ki_0 ?_
                refine z_goto (tgt := 186) zh dX9_runsLine_169 rfl ?_
                exact z_zret zh dX9_runsLine_186 (ra_01 (ra_w rl_0 (by decide) (by decide))) ⟨_, rfl, hG, (ra_w rl_0 (by decide) (by decide))⟩
              · have r28 : Ra 0 59 x25 := rb_ne_lo hx25 rl_n1 q26 (by decide)
                refine z_iconst zh dX9_runsLine_164 ki_1 ?_
                refine z_goto (tgt := 186) zh dX9_runsLine_165 rfl ?_
                exact z_zret zh dX9_runsLine_186 (ra_01 (ra_w rl_1 (by decide) (by decide))) ⟨_, rfl, hG, (ra_w rl_1 (by decide) (by decide))⟩
          · have r29 := rb_eq (u := 7) (v := 7) r15 rl_7 q16 (by decide) (by decide)
            refine z_aloadnR zh dX9_runsLine_130 rfl ?_
            refine z_iloadn zh dX9_runsLine_131 rfl ?_
            refine z_iload zh dX9_runsLine_132 rfl ?_
            refine z_iload zh dX9_runsLine_134 rfl ?_
            refine z_callVI zh mv_Y_417 dX9_runsLine_136 ck_Y rfl (s_X9_give g  hG hq) ⟨Nat.le_of_ble_eq_true rfl, Nat.le_of_ble_eq_true rfl⟩ rfl rfl (Nat.le_of_ble_eq_true rfl) ?_
            rintro x30 iv lv ⟨hG, hx30⟩
            refine z_iconst zh dX9_runsLine_139 ki_m1 ?_
            refine z_icmp_eq (tgt := 147) zh dX9_runsLine_140 rfl (fun q31 => ?_) (fun q31 => ?_)
            · have r32 := rb_eq (u := (-1)) (v := (-1)) hx30 rl_n1 q31 (by decide) (by decide)
              refine z_iconst zh dX9_runsLine_147 ki_0 ?_
              exact z_zret zh dX9_runsLine_148 (ra_01 (ra_w rl_0 (by decide) (by decide))) ⟨_, rfl, hG, (ra_w rl_0 (by decide) (by decide))⟩
            · have r33 : Ra 0 59 x30 := rb_ne_lo hx30 rl_n1 q31 (by decide)
              refine z_iconst zh dX9_runsLine_143 ki_1 ?_
              refine z_goto (tgt := 148) zh dX9_runsLine_144 rfl ?_
              exact z_zret zh dX9_runsLine_148 (ra_01 (ra_w rl_1 (by decide) (by decide))) ⟨_, rfl, hG, (ra_w rl_1 (by decide) (by decide))⟩
        · have r34 := rb_eq (u := 6) (v := 6) r13 rl_6 q14 (by decide) (by decide)
          refine z_aloadnR zh dX9_runsLine_116 rfl ?_
          refine z_iloadn zh dX9_runsLine_117 rfl ?_
          refine z_iload zh dX9_runsLine_118 rfl ?_
          refine z_callVI zh mv_Y_414 dX9_runsLine_120 ck_Y rfl (s_X9_price g  hG) ⟨Nat.le_of_ble_eq_true rfl, Nat.le_of_ble_eq_true rfl⟩ rfl rfl (Nat.le_of_ble_eq_true rfl) ?_
          rintro x35 iv lv ⟨hG, hx35, hz36, hz37⟩
          exact z_zret zh dX9_runsLine_123 (ra_01 hx35) ⟨_, rfl, hG, hx35⟩
      · have r38 := rb_eq (u := 5) (v := 5) r11 rl_5 q12 (by decide) (by decide)
        refine z_aloadnR zh dX9_runsLine_100 rfl ?_
        refine z_iloadn zh dX9_runsLine_101 rfl ?_
        refine z_iconst zh dX9_runsLine_102 ki_0 ?_
        refine z_iconst zh dX9_runsLine_103 ki_3 ?_
        refine z_iload zh dX9_runsLine_104 rfl ?_
        refine z_callVI zh mv_Y_410 dX9_runsLine_106 ck_Y rfl (s_X9_tell g  hG) ⟨Nat.le_of_ble_eq_true rfl, Nat.le_of_ble_eq_true rfl⟩ rfl rfl (Nat.le_of_ble_eq_true rfl) ?_
        rintro x39 iv lv ⟨hG, hx39, hz40, hz41, hz42⟩
        exact z_zret zh dX9_runsLine_109 (ra_01 hx39) ⟨_, rfl, hG, hx39⟩
    · have r43 : Ra 2 4 x1 := rb_le_l rl_4 r9 (rb_nlt q10) (by decide)
      refine z_aloadnR zh dX9_runsLine_82 rfl ?_
      refine z_iloadn zh dX9_runsLine_83 rfl ?_
      refine z_iload zh dX9_runsLine_84 rfl ?_
      refine z_iloadn zh dX9_runsLine_86 rfl ?_
      refine z_iconst zh dX9_runsLine_87 ki_2 ?_
      refine y_isub zh dX9_runsLine_88 r43 rl_2 (u := 0) (v := 2) rfl rfl (by decide) (by decide) (fun x44 hc44 hx44 => ?_)
      refine z_iload zh dX9_runsLine_89 rfl ?_
      refine z_callVI zh mv_Y_410 dX9_runsLine_91 ck_Y rfl (s_X9_tell g  hG) ⟨Nat.le_of_ble_eq_true rfl, Nat.le_of_ble_eq_true rfl⟩ rfl rfl (Nat.le_of_ble_eq_true rfl) ?_
      rintro x45 iv lv ⟨hG, hx45, hz46, hz47, hz48⟩
      exact z_zret zh dX9_runsLine_94 (ra_01 hx45) ⟨_, rfl, hG, hx45⟩
  · have r49 : Ra (-2147483648) 1 x1 := rb_lt_l rl_2 (ra_tt x1) (rb_nle q8) (by decide)
    refine z_aloadnR zh dX9_runsLine_41 rfl ?_
    refine z_iloadn zh dX9_runsLine_42 rfl ?_
    refine z_iload zh dX9_runsLine_43 rfl ?_
    refine z_iload zh dX9_runsLine_45 rfl ?_
    refine z_aloadnR zh dX9_runsLine_47 rfl ?_
    refine z_getf zh fl_Y_49 dX9_runsLine_48 ck_Y rfl rfl ?_
    refine z_iloadn zh dX9_runsLine_51 rfl ?_
    refine z_iconst zh dX9_runsLine_52 ki_4 ?_
    refine y_iadd zh dX9_runsLine_53 ha1 rl_4 (u := 4) (v := 142) rfl rfl (by decide) (by decide) (fun x50 hc50 hx50 => ?_)
    refine y_iald zh ck_plans dX9_runsLine_54 hx50 (by decide) (by decide) (fun x51 ex51 => ?_)
    refine z_aloadnR zh dX9_runsLine_55 rfl ?_
    refine z_getf zh fl_Y_49 dX9_runsLine_56 ck_Y rfl rfl ?_
    refine z_iloadn zh dX9_runsLine_59 rfl ?_
    refine z_iconst zh dX9_runsLine_60 ki_5 ?_
    refine y_iadd zh dX9_runsLine_61 ha1 rl_5 (u := 5) (v := 143) rfl rfl (by decide) (by decide) (fun x52 hc52 hx52 => ?_)
    refine y_iald zh ck_plans dX9_runsLine_62 hx52 (by decide) (by decide) (fun x53 ex53 => ?_)
    refine z_iloadn zh dX9_runsLine_63 rfl ?_
    refine z_callVI zh mv_Y_147 dX9_runsLine_64 ck_Y rfl (s_X9_trades g r49 hG hq) ⟨Nat.le_of_ble_eq_true rfl, Nat.le_of_ble_eq_true rfl⟩ rfl rfl (Nat.le_of_ble_eq_true rfl) ?_
    rintro x54 iv lv ⟨hG, hx54⟩
    refine z_iconst zh dX9_runsLine_67 ki_m1 ?_
    refine z_icmp_eq (tgt := 75) zh dX9_runsLine_68 rfl (fun q55 => ?_) (fun q55 => ?_)
    · have r56 := rb_eq (u := (-1)) (v := (-1)) hx54 rl_n1 q55 (by decide) (by decide)
      refine z_iconst zh dX9_runsLine_75 ki_0 ?_
      exact z_zret zh dX9_runsLine_76 (ra_01 (ra_w rl_0 (by decide) (by decide))) ⟨_, rfl, hG, (ra_w rl_0 (by decide) (by decide))⟩
    · have r57 : Ra 0 199 x54 := rb_ne_lo hx54 rl_n1 q55 (by decide)
      refine z_iconst zh dX9_runsLine_71 ki_1 ?_
      refine z_goto (tgt := 76) zh dX9_runsLine_72 rfl ?_
      exact z_zret zh dX9_runsLine_76 (ra_01 (ra_w rl_1 (by decide) (by decide))) ⟨_, rfl, hG, (ra_w rl_1 (by decide) (by decide))⟩
set_option maxRecDepth 20000 in
theorem s_X9_run (g : GE) {sp : Nat → Nat → Bool} {σ : Iv} {iv : Iv} {lv : Lv} {a1 : Int32}  (hG : SI sp σ iv) (hq : Sq sp) (hP : sp 552 10 = false) : ConI g yX9_run cX9_run 4 (some .int) 13 [rf g 551, .int a1] iv lv (fun r iv lv => SI sp σ iv ∧ True) := by
  refine con_intro (own := "RollingNetsModel") (by decide +kernel) rfl (Nat.le_of_ble_eq_true rfl) (L0 := [some (rf g 551), some (.int a1), none, none]) rfl (fun Z zh => ?_)
  refine z_aloadnR zh dX9_run_0 rfl ?_
  refine z_iconst zh dX9_run_1 ki_0 ?_
  refine z_putI zh fl_Y_58 dX9_run_2 ck_Y rfl rfl (Nat.le_of_ble_eq_true rfl) (Or.inl rfl) ?_
  have hG : SI sp σ (upI iv 551 0 (nI 0)) := si_w (k := 551) (j := 0) hG (by decide) (by decide) (sp_no hG ((spc_Y (q := 0)).trans rfl)) (fun lo hi q => (rx_none rfl) lo hi ((rg_Y (q := 0)).symm.trans q))
  have em1 : upI iv 551 0 (nI 0) 551 0 = nI 0 := by rw [upI_at, if_pos ⟨rfl, rfl⟩]
  generalize upI iv 551 0 (nI 0) = iv at hG em1 ⊢
  refine z_aloadnR zh dX9_run_5 rfl ?_
  refine z_iloadn zh dX9_run_6 rfl ?_
  refine z_iconst zh dX9_run_7 ki_1 ?_
  refine z_bipush zh dX9_run_8 kb_24 ?_
  refine z_callVI zh mv_Y_79 dX9_run_10 ck_Y rfl (s_X9_isIn g) ⟨Nat.le_of_ble_eq_true rfl, Nat.le_of_ble_eq_true rfl⟩ rfl rfl (Nat.le_of_ble_eq_true rfl) ?_
  rintro x2 _ _ ⟨rfl, rfl, hx2, hz3⟩
  refine z_if_ne (tgt := 18) zh dX9_run_13 rfl (fun q4 => ?_) (fun q4 => ?_)
  · have r5 : Ra 1 1 x2 := rb_ne_lo hx2 ra_z q4 (by decide)
    have r6 : Ra 1 24 a1 := (rb_in rl_1 rl_24 (hz3 q4))
    refine z_iconst zh dX9_run_18 ki_0 ?_
    refine z_istoren zh dX9_run_19 (by decide) (L' := [some (rf g 551), some (.int a1), some (.int (nI 0)), none]) rfl ?_
    refine z_iconst zh dX9_run_20 ki_0 ?_
    refine z_istoren zh dX9_run_21 (by decide) (L' := [some (rf g 551), some (.int a1), some (.int (nI 0)), some (.int (nI 0))]) rfl ?_
    have J22 : ∀ (n : Nat) (iv : Iv) (lv : Lv) (x7 : Int32) (x8 : Int32), SI sp σ iv → Ra 0 24 x8 → 24 - x8.toInt < (n : Int) → Z 22 [some (rf g 551), some (.int a1), some (.int x7), some (.int x8)] [] iv lv := by
      intro n
      induction n with
      | zero => intro iv lv x7 x8 hG hx8 hn22; exact (ms_uz hx8 hn22).elim
      | succ n ih22 =>
        intro iv lv x7 x8 hG hx8 hn22
        refine z_iloadn zh dX9_run_22 rfl ?_
        refine z_iloadn zh dX9_run_23 rfl ?_
        refine z_icmp_ge (tgt := 84) zh dX9_run_24 rfl (fun q9 => ?_) (fun q9 => ?_)
        · have r10 : Ra 1 24 x8 := rb_le_r r6 hx8 q9 (by decide)
          refine z_iloadn zh dX9_run_84 rfl ?_
          exact z_iret zh dX9_run_85 ⟨_, rfl, hG, trivial⟩
        · have r11 : Ra 0 23 x8 := rb_lt_l r6 hx8 (rb_nle q9) (by decide)
          refine z_aloadnR zh dX9_run_27 rfl ?_
          refine z_getf zh fl_Y_7 dX9_run_28 ck_Y rfl rfl ?_
          refine z_bipush zh dX9_run_31 kb_10 ?_
          obtain ⟨iw12, eiw12⟩ : ∃ z, z = iv := ⟨_, rfl⟩
          have hS : SI sp σ iw12 := by rw [eiw12]; exact hG
          have hG : SI (spP sp) iw12 iv := by rw [eiw12]; exact si_fullP hG
          refine y_ialdN zh ck_now dX9_run_33 (by decide) (fun x13 ex13 => ?_)
          have hx13 : Ra 0 24 x13 := ra_of ex13 (nr_l hG 10 rfl)
          have es14 := (si_s hG spP_10).symm.trans ex13
          refine z_aloadnR zh dX9_run_34 rfl ?_
          refine y_getI zh fl_Y_407 dX9_run_35 ck_Y rfl rfl (fun x15 ex15 => ?_)
          have hx15 : Ra 0 24 x15 := ra_of ex15 (si_Y hG 0 (j := 27) rfl)
          refine z_icmp_ge (tgt := 84) zh dX9_run_38 rfl (fun q16 => ?_) (fun q16 => ?_)
          · refine z_iloadn zh dX9_run_84 rfl ?_
            have hG := si_backP hS hG
            exact z_iret zh dX9_run_85 ⟨_, rfl, hG, trivial⟩
          · have r17 : Ra 0 23 x13 := rb_lt_l hx15 hx13 (rb_nle q16) (by decide)
            have r18 : Ra 1 24 x15 := rb_lt_r hx13 hx15 (rb_nle q16) (by decide)
            refine z_aloadnR zh dX9_run_41 rfl ?_
            refine z_bipush zh dX9_run_42 kb_6 ?_
            refine z_aloadnR zh dX9_run_44 rfl ?_
            refine z_getf zh fl_Y_7 dX9_run_45 ck_Y rfl rfl ?_
            refine z_bipush zh dX9_run_48 kb_10 ?_
            refine z_ialdE (x := x13) zh ck_now dX9_run_50 (by decide) ex13 ?_
            refine y_imul2 zh dX9_run_51 r17 rl_6 (by decide) (u := 0) (v := 138) rfl rfl (by decide) (by decide) (fun x19 hc19 hx19 => ?_)
            refine z_callVI zh mv_Y_426 dX9_run_52 ck_Y rfl (s_X9_runsLine g hx19 hG (sqP hq)) ⟨Nat.le_of_ble_eq_true rfl, Nat.le_of_ble_eq_true rfl⟩ rfl rfl (Nat.le_of_ble_eq_true rfl) ?_
            rintro x20 iv lv ⟨hG, hx20⟩
            have J62 : ∀ (iv : Iv) (lv : Lv) (x21 : Int32), SI (spP sp) iw12 iv → Z 62 [some (rf g 551), some (.int a1), some (.int x21), some (.int x8)] [] iv lv := by
              intro iv lv x21 hG
              refine z_aloadnR zh dX9_run_62 rfl ?_
              refine z_getf zh fl_Y_7 dX9_run_63 ck_Y rfl rfl ?_
              refine z_bipush zh dX9_run_66 kb_10 ?_
              refine z_aloadnR zh dX9_run_68 rfl ?_
              refine z_getf zh fl_Y_7 dX9_run_69 ck_Y rfl rfl ?_
              refine z_bipush zh dX9_run_72 kb_10 ?_
              refine z_ialdE (x := x13) zh ck_now dX9_run_74 (by decide) ((si_s hG spP_10).trans es14) ?_
              refine z_iconst zh dX9_run_75 ki_1 ?_
              refine y_iadd zh dX9_run_76 r17 rl_1 (u := 1) (v := 24) rfl rfl (by decide) (by decide) (fun x22 hc22 hx22 => ?_)
              refine z_iastN (j := 10) zh ck_now dX9_run_77 (by decide) ?_
              have em23 : iv 552 10 = x13 := ((si_s hG spP_10).trans es14)
              have hG := si_backP hS hG
              have hG : SI sp σ (upI iv 552 10 x22) := (nw_10 hG hP (ra_w hx22 (by decide) (by decide)))
              have em24 : upI iv 552 10 x22 552 10 = x22 := by rw [upI_at, if_pos ⟨rfl, rfl⟩]
              generalize upI iv 552 10 x22 = iv at hG em24 ⊢
              refine y_iinc (L' := fun z => [some (rf g 551), some (.int a1), some (.int x21), some (.int z)]) zh dX9_run_78 (by decide) rfl (by decide +kernel) r11 (u := 1) (v := 24) rfl rfl (by decide) (by decide) (fun _ => rfl) (fun x25 hc25 hx25 => ?_)
              refine z_goto (tgt := 22) zh dX9_run_81 rfl ?_
              exact ih22 iv lv x21 x25 hG (ra_w hx25 (by decide) (by decide)) (ms_up hc25 (by decide) hn22)
            refine z_if_eq (tgt := 62) zh dX9_run_55 rfl (fun q26 => ?_) (fun q26 => ?_)
            · have r27 := rb_eq (u := 0) (v := 0) hx20 ra_z q26 (by decide) (by decide)
              exact J62 iv lv x7 hG
            · have r28 : Ra 1 1 x20 := rb_ne_lo hx20 ra_z q26 (by decide)
              refine z_iloadn zh dX9_run_58 rfl ?_
              refine z_iconst zh dX9_run_59 ki_1 ?_
              refine y_iaddT zh dX9_run_60 (fun x29 => ?_)
              refine z_istoren zh dX9_run_61 (by decide) (L' := [some (rf g 551), some (.int a1), some (.int x29), some (.int x8)]) rfl ?_
              exact J62 iv lv x29 hG
    exact J22 25 iv lv (nI 0) (nI 0) hG (ra_w rl_0 (by decide) (by decide)) (ms_u0 rl_0 (by decide))
  · have r30 := rb_eq (u := 0) (v := 0) hx2 ra_z q4 (by decide) (by decide)
    refine z_iconst zh dX9_run_16 ki_m1 ?_
    exact z_iret zh dX9_run_17 ⟨_, rfl, hG, trivial⟩
