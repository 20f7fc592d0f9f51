set_option maxRecDepth 20000 in
theorem s_X9_closesFrom (g : GE) {sp : Nat → Nat → Bool} {σ : Iv} {iv : Iv} {lv : Lv} {a1 : Int32} {a2 : Int32} (ha1 : Ra 16710 17890 a1) (ha2 : Ra 0 11 a2) (hG : SI sp σ iv) (hat : ∃ n1 : Int, (0 ≤ n1 ∧ n1 ≤ 59) ∧ a1.toInt = 16710 + 20 * n1) : ConV g yX9_closesFrom cX9_closesFrom 6 none 7 [rf g 551, .int a1, .int a2] iv lv (fun iv lv => SI sp σ iv) := by
  refine con_intro (own := "RollingNetsModel") (by decide +kernel) rfl (Nat.le_of_ble_eq_true rfl) (L0 := [some (rf g 551), some (.int a1), some (.int a2), none, none, none]) rfl (fun Z zh => ?_)
  obtain ⟨n1, hn1, en1⟩ := hat
  refine z_aloadnR zh dX9_closesFrom_0 rfl ?_
  refine z_getf zh fl_Y_7 dX9_closesFrom_1 ck_Y rfl rfl ?_
  refine z_iloadn zh dX9_closesFrom_4 rfl ?_
  refine z_iconst zh dX9_closesFrom_5 ki_0 ?_
  refine y_iadd zh dX9_closesFrom_6 ha1 rl_0 (u := 16710) (v := 17890) rfl rfl (by decide) (by decide) (fun x1 hc1 hx1 => ?_)
  refine y_iald zh ck_now dX9_closesFrom_7 hx1 (by decide) (by decide) (fun x2 ex2 => ?_)
  have hx2 : Ra 0 11 x2 := ra_of ex2 (nr_n0 hG (n1 * 1) (by have := ha1.1; have := ha1.2; have := rl_0.1; have := rl_0.2; omega) (by have := ha1.1; have := ha1.2; have := rl_0.1; have := rl_0.2; omega) (by have := ha1.1; have := ha1.2; have := rl_0.1; have := rl_0.2; omega))
  refine z_istoren zh dX9_closesFrom_8 (by decide) (L' := [some (rf g 551), some (.int a1), some (.int a2), some (.int x2), none, none]) rfl ?_
  refine z_aloadnR zh dX9_closesFrom_9 rfl ?_
  refine z_getf zh fl_Y_7 dX9_closesFrom_10 ck_Y rfl rfl ?_
  refine z_iloadn zh dX9_closesFrom_13 rfl ?_
  refine z_iconst zh dX9_closesFrom_14 ki_1 ?_
  refine y_iadd zh dX9_closesFrom_15 ha1 rl_1 (u := 16711) (v := 17891) rfl rfl (by decide) (by decide) (fun x3 hc3 hx3 => ?_)
  refine y_iald zh ck_now dX9_closesFrom_16 hx3 (by decide) (by decide) (fun x4 ex4 => ?_)
  have hx4 : Ra 0 5 x4 := ra_of ex4 (nr_n1 hG (n1 * 1) (by have := ha1.1; have := ha1.2; have := rl_1.1; have := rl_1.2; omega) (by have := ha1.1; have := ha1.2; have := rl_1.1; have := rl_1.2; omega) (by have := ha1.1; have := ha1.2; have := rl_1.1; have := rl_1.2; omega))
  refine z_istore zh dX9_closesFrom_17 (by decide) (L' := [some (rf g 551), some (.int a1), some (.int a2), some (.int x2), some (.int x4), none]) rfl ?_
  refine z_aloadnR zh dX9_closesFrom_19 rfl ?_
  refine z_aloadnR zh dX9_closesFrom_20 rfl ?_
  refine z_aloadnR zh dX9_closesFrom_21 rfl ?_
  refine z_getf zh fl_Y_7 dX9_closesFrom_22 ck_Y rfl rfl ?_
  refine z_iloadn zh dX9_closesFrom_25 rfl ?_
  refine z_bipush zh dX9_closesFrom_26 kb_8 ?_
  refine y_iadd zh dX9_closesFrom_28 ha1 rl_8 (u := 16718) (v := 17898) rfl rfl (by decide) (by decide) (fun x5 hc5 hx5 => ?_)
  refine z_iloadn zh dX9_closesFrom_29 rfl ?_
  refine y_iadd zh dX9_closesFrom_30 hx5 ha2 (u := 16718) (v := 17909) rfl rfl (by decide) (by decide) (fun x6 hc6 hx6 => ?_)
  refine y_iald zh ck_now dX9_closesFrom_31 hx6 (by decide) (by decide) (fun x7 ex7 => ?_)
  refine z_aloadnR zh dX9_closesFrom_32 rfl ?_
  refine z_iloadn zh dX9_closesFrom_33 rfl ?_
  refine z_iload zh dX9_closesFrom_34 rfl ?_
  refine z_callVI zh mv_Y_182 dX9_closesFrom_36 ck_Y rfl (s_X9_shortOf g ha2 hx4 hG) ⟨Nat.le_of_ble_eq_true rfl, Nat.le_of_ble_eq_true rfl⟩ rfl rfl (Nat.le_of_ble_eq_true rfl) ?_
  rintro x8 _ _ ⟨rfl, rfl, _⟩
  refine z_callVI zh mv_Y_131 dX9_closesFrom_39 ck_Y rfl (s_X9_lesser g  hG) ⟨Nat.le_of_ble_eq_true rfl, Nat.le_of_ble_eq_true rfl⟩ rfl rfl (Nat.le_of_ble_eq_true rfl) ?_
  rintro x9 _ _ ⟨rfl, rfl, _⟩
  refine z_aloadnR zh dX9_closesFrom_42 rfl ?_
  refine z_iloadn zh dX9_closesFrom_43 rfl ?_
  refine z_iload zh dX9_closesFrom_44 rfl ?_
  refine z_callVI zh mv_Y_200 dX9_closesFrom_46 ck_Y rfl (s_X9_longOf g hx2 hx4 hG) ⟨Nat.le_of_ble_eq_true rfl, Nat.le_of_ble_eq_true rfl⟩ rfl rfl (Nat.le_of_ble_eq_true rfl) ?_
  rintro x10 _ _ ⟨rfl, rfl, _⟩
  refine z_callVI zh mv_Y_131 dX9_closesFrom_49 ck_Y rfl (s_X9_lesser g  hG) ⟨Nat.le_of_ble_eq_true rfl, Nat.le_of_ble_eq_true rfl⟩ rfl rfl (Nat.le_of_ble_eq_true rfl) ?_
  rintro x11 _ _ ⟨rfl, rfl, _⟩
  refine z_istore zh dX9_closesFrom_52 (by decide) (L' := [some (rf g 551), some (.int a1), some (.int a2), some (.int x2), some (.int x4), some (.int x11)]) rfl ?_
  refine z_iload zh dX9_closesFrom_54 rfl ?_
  refine z_if_ne (tgt := 60) zh dX9_closesFrom_56 rfl (fun q12 => ?_) (fun q12 => ?_)
  · refine z_aloadnR zh dX9_closesFrom_60 rfl ?_
    refine z_iloadn zh dX9_closesFrom_61 rfl ?_
    refine z_iload zh dX9_closesFrom_62 rfl ?_
    refine z_iload zh dX9_closesFrom_64 rfl ?_
    refine z_callVV zh mv_Y_101 dX9_closesFrom_66 ck_Y rfl (s_X9_stockMore g hx2 hx4 hG) ⟨Nat.le_of_ble_eq_true rfl, Nat.le_of_ble_eq_true rfl⟩ rfl rfl (Nat.le_of_ble_eq_true rfl) ?_
    rintro iv lv ⟨hG, _⟩
    refine z_aloadnR zh dX9_closesFrom_69 rfl ?_
    refine z_iloadn zh dX9_closesFrom_70 rfl ?_
    refine z_iload zh dX9_closesFrom_71 rfl ?_
    refine z_iload zh dX9_closesFrom_73 rfl ?_
    refine z_callVV zh mv_Y_138 dX9_closesFrom_75 ck_Y rfl (s_X9_takesOff g hx2 hx4 hG (c := (6 * x2.toInt + x4.toInt).toNat) (by have := hx2.1; have := hx2.2; have := hx4.1; have := hx4.2; omega)) ⟨Nat.le_of_ble_eq_true rfl, Nat.le_of_ble_eq_true rfl⟩ rfl rfl (Nat.le_of_ble_eq_true rfl) ?_
    rintro iv lv ⟨hG, _⟩
    refine z_aloadnR zh dX9_closesFrom_78 rfl ?_
    refine z_iloadn zh dX9_closesFrom_79 rfl ?_
    refine z_iload zh dX9_closesFrom_80 rfl ?_
    refine y_i2l zh dX9_closesFrom_82 (fun l13 => ?_)
    refine y_lneg zh dX9_closesFrom_83 (fun l14 => ?_)
    refine z_aloadnR zh dX9_closesFrom_84 rfl ?_
    refine z_iload zh dX9_closesFrom_85 rfl ?_
    refine z_callVI zh mv_Y_203 dX9_closesFrom_87 ck_Y rfl (s_X9_markedOf g hx4 hG) ⟨Nat.le_of_ble_eq_true rfl, Nat.le_of_ble_eq_true rfl⟩ rfl rfl (Nat.le_of_ble_eq_true rfl) ?_
    rintro x15 _ _ ⟨rfl, rfl, _⟩
    refine y_i2l zh dX9_closesFrom_90 (fun l16 => ?_)
    refine y_lmul zh dX9_closesFrom_91 (fun l17 => ?_)
    refine z_callVV zh mv_Y_206 dX9_closesFrom_92 ck_Y rfl (s_X9_cashMore g hx2 hG) ⟨Nat.le_of_ble_eq_true rfl, Nat.le_of_ble_eq_true rfl⟩ rfl rfl (Nat.le_of_ble_eq_true rfl) ?_
    rintro iv lv ⟨hG, _⟩
    refine z_aloadnR zh dX9_closesFrom_95 rfl ?_
    refine z_iloadn zh dX9_closesFrom_96 rfl ?_
    refine z_iload zh dX9_closesFrom_97 rfl ?_
    refine z_iload zh dX9_closesFrom_99 rfl ?_
    refine z_callVV zh mv_Y_138 dX9_closesFrom_101 ck_Y rfl (s_X9_takesOff g ha2 hx4 hG (c := (6 * a2.toInt + x4.toInt).toNat) (by have := ha2.1; have := ha2.2; have := hx4.1; have := hx4.2; omega)) ⟨Nat.le_of_ble_eq_true rfl, Nat.le_of_ble_eq_true rfl⟩ rfl rfl (Nat.le_of_ble_eq_true rfl) ?_
    rintro iv lv ⟨hG, _⟩
    refine z_aloadnR zh dX9_closesFrom_104 rfl ?_
    refine z_iloadn zh dX9_closesFrom_105 rfl ?_
    refine z_iload zh dX9_closesFrom_106 rfl ?_
    refine y_i2l zh dX9_closesFrom_108 (fun l18 => ?_)
    refine z_aloadnR zh dX9_closesFrom_109 rfl ?_
    refine z_iload zh dX9_closesFrom_110 rfl ?_
    refine z_callVI zh mv_Y_203 dX9_closesFrom_112 ck_Y rfl (s_X9_markedOf g hx4 hG) ⟨Nat.le_of_ble_eq_true rfl, Nat.le_of_ble_eq_true rfl⟩ rfl rfl (Nat.le_of_ble_eq_true rfl) ?_
    rintro x19 _ _ ⟨rfl, rfl, _⟩
    refine y_i2l zh dX9_closesFrom_115 (fun l20 => ?_)
    refine y_lmul zh dX9_closesFrom_116 (fun l21 => ?_)
    refine z_iload zh dX9_closesFrom_117 rfl ?_
    refine y_i2l zh dX9_closesFrom_119 (fun l22 => ?_)
    refine z_aloadnR zh dX9_closesFrom_120 rfl ?_
    refine z_iload zh dX9_closesFrom_121 rfl ?_
    refine z_callVI zh mv_Y_210 dX9_closesFrom_123 ck_Y rfl (s_X9_buyPrice g hx4 hG) ⟨Nat.le_of_ble_eq_true rfl, Nat.le_of_ble_eq_true rfl⟩ rfl rfl (Nat.le_of_ble_eq_true rfl) ?_
    rintro x23 _ _ ⟨rfl, rfl, _⟩
    refine y_i2l zh dX9_closesFrom_126 (fun l24 => ?_)
    refine y_lmul zh dX9_closesFrom_127 (fun l25 => ?_)
    refine y_lsub zh dX9_closesFrom_128 (fun l26 => ?_)
    refine z_callVV zh mv_Y_206 dX9_closesFrom_129 ck_Y rfl (s_X9_cashMore g ha2 hG) ⟨Nat.le_of_ble_eq_true rfl, Nat.le_of_ble_eq_true rfl⟩ rfl rfl (Nat.le_of_ble_eq_true rfl) ?_
    rintro iv lv ⟨hG, _⟩
    refine z_aloadnR zh dX9_closesFrom_132 rfl ?_
    refine z_getf zh fl_Y_16 dX9_closesFrom_133 ck_Y rfl rfl ?_
    refine z_bipush zh dX9_closesFrom_136 kb_12 ?_
    refine z_aloadnR zh dX9_closesFrom_138 rfl ?_
    refine z_getf zh fl_Y_16 dX9_closesFrom_139 ck_Y rfl rfl ?_
    refine z_bipush zh dX9_closesFrom_142 kb_12 ?_
    refine y_lald zh ck_coins dX9_closesFrom_144 rl_12 (by decide) (by decide) (fun l27 => ?_)
    refine z_iload zh dX9_closesFrom_145 rfl ?_
    refine y_i2l zh dX9_closesFrom_147 (fun l28 => ?_)
    refine z_aloadnR zh dX9_closesFrom_148 rfl ?_
    refine z_iload zh dX9_closesFrom_149 rfl ?_
    refine z_callVI zh mv_Y_210 dX9_closesFrom_151 ck_Y rfl (s_X9_buyPrice g hx4 hG) ⟨Nat.le_of_ble_eq_true rfl, Nat.le_of_ble_eq_true rfl⟩ rfl rfl (Nat.le_of_ble_eq_true rfl) ?_
    rintro x29 _ _ ⟨rfl, rfl, _⟩
    refine y_i2l zh dX9_closesFrom_154 (fun l30 => ?_)
    refine y_lmul zh dX9_closesFrom_155 (fun l31 => ?_)
    refine y_ladd zh dX9_closesFrom_156 (fun l32 => ?_)
    refine z_last zh ck_coins dX9_closesFrom_157 (ra_in rl_12 (by decide) (by decide)) ?_
    generalize upL lv 554 (nI 12).toNatClampNeg l32 = lv
    refine z_aloadnR zh dX9_closesFrom_158 rfl ?_
    refine z_getf zh fl_Y_7 dX9_closesFrom_159 ck_Y rfl rfl ?_
    refine z_iloadn zh dX9_closesFrom_162 rfl ?_
    refine z_bipush zh dX9_closesFrom_163 kb_6 ?_
    refine y_iadd zh dX9_closesFrom_165 ha1 rl_6 (u := 16716) (v := 17896) rfl rfl (by decide) (by decide) (fun x33 hc33 hx33 => ?_)
    refine z_aloadnR zh dX9_closesFrom_166 rfl ?_
    refine z_getf zh fl_Y_7 dX9_closesFrom_167 ck_Y rfl rfl ?_
    refine z_iloadn zh dX9_closesFrom_170 rfl ?_
    refine z_bipush zh dX9_closesFrom_171 kb_6 ?_
    refine y_iadd zh dX9_closesFrom_173 ha1 rl_6 (u := 16716) (v := 17896) rfl rfl (by decide) (by decide) (fun x34 hc34 hx34 => ?_)
    refine y_iald zh ck_now dX9_closesFrom_174 hx34 (by decide) (by decide) (fun x35 ex35 => ?_)
    refine z_iload zh dX9_closesFrom_175 rfl ?_
    refine y_iaddT zh dX9_closesFrom_177 (fun x36 => ?_)
    refine z_iast zh ck_now dX9_closesFrom_178 (ra_in hx33 (by decide) (by decide)) ?_
    have hG : SI sp σ (upI iv 552 x33.toNatClampNeg x36) := (nw_n hG (n1 * 1) (by have := ha1.1; have := ha1.2; have := rl_6.1; have := rl_6.2; omega) (by have := ha1.1; have := ha1.2; have := rl_6.1; have := rl_6.2; omega) (by have := ha1.1; have := ha1.2; have := rl_6.1; have := rl_6.2; omega))
    generalize upI iv 552 x33.toNatClampNeg x36 = iv at hG  ⊢
    refine z_aloadnR zh dX9_closesFrom_179 rfl ?_
    refine z_iconst zh dX9_closesFrom_180 ki_4 ?_
    refine z_iload zh dX9_closesFrom_181 rfl ?_
    refine z_iloadn zh dX9_closesFrom_183 rfl ?_
    refine z_iloadn zh dX9_closesFrom_184 rfl ?_
    refine z_iload zh dX9_closesFrom_185 rfl ?_
    refine z_callVV zh mv_Y_213 dX9_closesFrom_187 ck_Y rfl (s_X9_writes g (ra_w rl_4 (by decide) (by decide)) hx4 (ra_w ha2 (by decide) (by decide)) (ra_w hx2 (by decide) (by decide)) hG) ⟨Nat.le_of_ble_eq_true rfl, Nat.le_of_ble_eq_true rfl⟩ rfl rfl (Nat.le_of_ble_eq_true rfl) ?_
    rintro iv lv ⟨hG, _⟩
    exact z_vret zh dX9_closesFrom_190 ⟨rfl, hG⟩
  · have r37 := rb_eq (u := 0) (v := 0) (ra_tt x11) ra_z q12 (by decide) (by decide)
    exact z_vret zh dX9_closesFrom_59 ⟨rfl, hG⟩
set_option maxRecDepth 20000 in
theorem s_X9_deliversOf (g : GE) {sp : Nat → Nat → Bool} {σ : Iv} {iv : Iv} {lv : Lv} {a1 : Int32} {a2 : Int32} (ha1 : Ra 0 11 a1) (ha2 : Ra 0 5 a2) (hG : SI sp σ iv) (hO : sp 551 14 = false) : ConV g yX9_deliversOf cX9_deliversOf 4 none 7 [rf g 551, .int a1, .int a2] iv lv (fun iv lv => SI sp σ iv) := by
  refine con_intro (own := "RollingNetsModel") (by decide +kernel) rfl (Nat.le_of_ble_eq_true rfl) (L0 := [some (rf g 551), some (.int a1), some (.int a2), none]) rfl (fun Z zh => ?_)
  refine z_aloadnR zh dX9_deliversOf_0 rfl ?_
  refine z_aloadnR zh dX9_deliversOf_1 rfl ?_
  refine z_iloadn zh dX9_deliversOf_2 rfl ?_
  refine z_iloadn zh dX9_deliversOf_3 rfl ?_
  refine z_callVI zh mv_Y_182 dX9_deliversOf_4 ck_Y rfl (s_X9_shortOf g ha1 ha2 hG) ⟨Nat.le_of_ble_eq_true rfl, Nat.le_of_ble_eq_true rfl⟩ rfl rfl (Nat.le_of_ble_eq_true rfl) ?_
  rintro x1 _ _ ⟨rfl, rfl, _⟩
  refine z_aloadnR zh dX9_deliversOf_7 rfl ?_
  refine z_iloadn zh dX9_deliversOf_8 rfl ?_
  refine z_iloadn zh dX9_deliversOf_9 rfl ?_
  refine z_callVI zh mv_Y_98 dX9_deliversOf_10 ck_Y rfl (s_X9_freeOf g ha1 ha2 hG) ⟨Nat.le_of_ble_eq_true rfl, Nat.le_of_ble_eq_true rfl⟩ rfl rfl (Nat.le_of_ble_eq_true rfl) ?_
  rintro x2 _ _ ⟨rfl, rfl, _⟩
  refine z_callVI zh mv_Y_131 dX9_deliversOf_13 ck_Y rfl (s_X9_lesser g  hG) ⟨Nat.le_of_ble_eq_true rfl, Nat.le_of_ble_eq_true rfl⟩ rfl rfl (Nat.le_of_ble_eq_true rfl) ?_
  rintro x3 _ _ ⟨rfl, rfl, _⟩
  refine z_istoren zh dX9_deliversOf_16 (by decide) (L' := [some (rf g 551), some (.int a1), some (.int a2), some (.int x3)]) rfl ?_
  refine z_iloadn zh dX9_deliversOf_17 rfl ?_
  refine z_if_ne (tgt := 22) zh dX9_deliversOf_18 rfl (fun q4 => ?_) (fun q4 => ?_)
  · refine z_aloadnR zh dX9_deliversOf_22 rfl ?_
    refine z_iloadn zh dX9_deliversOf_23 rfl ?_
    refine z_iloadn zh dX9_deliversOf_24 rfl ?_
    refine z_iloadn zh dX9_deliversOf_25 rfl ?_
    refine y_inegT zh dX9_deliversOf_26 (fun x5 => ?_)
    refine z_callVV zh mv_Y_101 dX9_deliversOf_27 ck_Y rfl (s_X9_stockMore g ha1 ha2 hG) ⟨Nat.le_of_ble_eq_true rfl, Nat.le_of_ble_eq_true rfl⟩ rfl rfl (Nat.le_of_ble_eq_true rfl) ?_
    rintro iv lv ⟨hG, _⟩
    refine z_aloadnR zh dX9_deliversOf_30 rfl ?_
    refine z_iloadn zh dX9_deliversOf_31 rfl ?_
    refine z_iloadn zh dX9_deliversOf_32 rfl ?_
    refine y_i2l zh dX9_deliversOf_33 (fun l6 => ?_)
    refine z_aloadnR zh dX9_deliversOf_34 rfl ?_
    refine z_iloadn zh dX9_deliversOf_35 rfl ?_
    refine z_callVI zh mv_Y_203 dX9_deliversOf_36 ck_Y rfl (s_X9_markedOf g ha2 hG) ⟨Nat.le_of_ble_eq_true rfl, Nat.le_of_ble_eq_true rfl⟩ rfl rfl (Nat.le_of_ble_eq_true rfl) ?_
    rintro x7 _ _ ⟨rfl, rfl, _⟩
    refine y_i2l zh dX9_deliversOf_39 (fun l8 => ?_)
    refine y_lmul zh dX9_deliversOf_40 (fun l9 => ?_)
    refine z_callVV zh mv_Y_206 dX9_deliversOf_41 ck_Y rfl (s_X9_cashMore g ha1 hG) ⟨Nat.le_of_ble_eq_true rfl, Nat.le_of_ble_eq_true rfl⟩ rfl rfl (Nat.le_of_ble_eq_true rfl) ?_
    rintro iv lv ⟨hG, _⟩
    refine z_aloadnR zh dX9_deliversOf_44 rfl ?_
    refine z_iloadn zh dX9_deliversOf_45 rfl ?_
    refine z_iloadn zh dX9_deliversOf_46 rfl ?_
    refine z_iloadn zh dX9_deliversOf_47 rfl ?_
    refine z_callVV zh mv_Y_138 dX9_deliversOf_48 ck_Y rfl (s_X9_takesOff g ha1 ha2 hG (c := (6 * a1.toInt + a2.toInt).toNat) (by have := ha1.1; have := ha1.2; have := ha2.1; have := ha2.2; omega)) ⟨Nat.le_of_ble_eq_true rfl, Nat.le_of_ble_eq_true rfl⟩ rfl rfl (Nat.le_of_ble_eq_true rfl) ?_
    rintro iv lv ⟨hG, _⟩
    refine z_aloadnR zh dX9_deliversOf_51 rfl ?_
    refine z_aloadnR zh dX9_deliversOf_52 rfl ?_
    refine y_getI zh fl_Y_250 dX9_deliversOf_53 ck_Y rfl rfl (fun x10 ex10 => ?_)
    refine z_iloadn zh dX9_deliversOf_56 rfl ?_
    refine y_iaddT zh dX9_deliversOf_57 (fun x11 => ?_)
    refine z_putI zh fl_Y_250 dX9_deliversOf_58 ck_Y rfl rfl (Nat.le_of_ble_eq_true rfl) (Or.inl rfl) ?_
    have hG : SI sp σ (upI iv 551 14 x11) := si_w (k := 551) (j := 14) hG (by decide) (by decide) hO (fun lo hi q => (rx_none rfl) lo hi ((rg_Y (q := 0)).symm.trans q))
    have em12 : upI iv 551 14 x11 551 14 = x11 := by rw [upI_at, if_pos ⟨rfl, rfl⟩]
    generalize upI iv 551 14 x11 = iv at hG em12 ⊢
    refine z_aloadnR zh dX9_deliversOf_61 rfl ?_
    refine z_iconst zh dX9_deliversOf_62 ki_0 ?_
    refine z_iloadn zh dX9_deliversOf_63 rfl ?_
    refine z_iloadn zh dX9_deliversOf_64 rfl ?_
    refine z_iconst zh dX9_deliversOf_65 ki_m1 ?_
    refine z_iloadn zh dX9_deliversOf_66 rfl ?_
    refine z_callVV zh mv_Y_213 dX9_deliversOf_67 ck_Y rfl (s_X9_writes g (ra_w rl_0 (by decide) (by decide)) ha2 (ra_w ha1 (by decide) (by decide)) (ra_w rl_n1 (by decide) (by decide)) hG) ⟨Nat.le_of_ble_eq_true rfl, Nat.le_of_ble_eq_true rfl⟩ rfl rfl (Nat.le_of_ble_eq_true rfl) ?_
    rintro iv lv ⟨hG, _⟩
    refine z_aloadnR zh dX9_deliversOf_70 rfl ?_
    refine z_iloadn zh dX9_deliversOf_71 rfl ?_
    refine z_iloadn zh dX9_deliversOf_72 rfl ?_
    refine z_iloadn zh dX9_deliversOf_73 rfl ?_
    refine z_callVV zh mv_Y_253 dX9_deliversOf_74 ck_Y rfl (s_X9_takesAssigned g ha1 ha2 hG) ⟨Nat.le_of_ble_eq_true rfl, Nat.le_of_ble_eq_true rfl⟩ rfl rfl (Nat.le_of_ble_eq_true rfl) ?_
    rintro iv lv hG
    exact z_vret zh dX9_deliversOf_77 ⟨rfl, hG⟩
  · have r13 := rb_eq (u := 0) (v := 0) (ra_tt x3) ra_z q4 (by decide) (by decide)
    exact z_vret zh dX9_deliversOf_21 ⟨rfl, hG⟩
set_option maxRecDepth 20000 in
theorem s_X9_nets (g : GE) {sp : Nat → Nat → Bool} {σ : Iv} {iv : Iv} {lv : Lv} {a1 : Int32} (ha1 : Ra 0 5 a1) (hG : SI sp σ iv)  : ConV g yX9_nets cX9_nets 6 none 8 [rf g 551, .int a1] iv lv (fun iv lv => SI sp σ iv) := by
  refine con_intro (own := "RollingNetsModel") (by decide +kernel) rfl (Nat.le_of_ble_eq_true rfl) (L0 := [some (rf g 551), some (.int a1), none, none, none, none]) rfl (fun Z zh => ?_)
  refine z_iconst zh dX9_nets_0 ki_0 ?_
  refine z_istoren zh dX9_nets_1 (by decide) (L' := [some (rf g 551), some (.int a1), some (.int (nI 0)), none, none, none]) rfl ?_
  have J2 : ∀ (n : Nat) (iv : Iv) (lv : Lv) (x1 : Int32), SI sp σ iv → Ra 0 200 x1 → 200 - x1.toInt < (n : Int) → Z 2 [some (rf g 551), some (.int a1), some (.int x1), none, none, none] [] iv lv := by
    intro n
    induction n with
    | zero => intro iv lv x1 hG hx1 hn2; exact (ms_uz hx1 hn2).elim
    | succ n ih2 =>
      intro iv lv x1 hG hx1 hn2
      refine z_iloadn zh dX9_nets_2 rfl ?_
      refine z_aloadnR zh dX9_nets_3 rfl ?_
      refine z_getf zh fl_Y_7 dX9_nets_4 ck_Y rfl rfl ?_
      refine z_bipush zh dX9_nets_7 kb_7 ?_
      refine y_ialdN zh ck_now dX9_nets_9 (by decide) (fun x2 ex2 => ?_)
      have hx2 : Ra 0 200 x2 := ra_of ex2 (nr_l hG 7 rfl)
      refine z_icmp_ge (tgt := 136) zh dX9_nets_10 rfl (fun q3 => ?_) (fun q3 => ?_)
      · exact z_vret zh dX9_nets_136 ⟨rfl, hG⟩
      · have r4 : Ra 0 199 x1 := rb_lt_l hx2 hx1 (rb_nle q3) (by decide)
        have r5 : Ra 1 200 x2 := rb_lt_r hx1 hx2 (rb_nle q3) (by decide)
        refine z_aloadnR zh dX9_nets_13 rfl ?_
        refine z_iloadn zh dX9_nets_14 rfl ?_
        refine z_iloadn zh dX9_nets_15 rfl ?_
        refine z_iconst zh dX9_nets_16 ki_0 ?_
        refine z_callVI zh mv_Y_217 dX9_nets_17 ck_Y rfl (s_X9_isRipe g r4 ha1 (ra_w rl_0 (by decide) (by decide)) hG) ⟨Nat.le_of_ble_eq_true rfl, Nat.le_of_ble_eq_true rfl⟩ rfl rfl (Nat.le_of_ble_eq_true rfl) ?_
        rintro x6 _ _ ⟨rfl, rfl, hx6⟩
        have J130 : ∀ (iv : Iv) (lv : Lv), SI sp σ iv → Z 130 [some (rf g 551), some (.int a1), some (.int x1), none, none, none] [] iv lv := by
          intro iv lv hG
          refine y_iinc (L' := fun z => [some (rf g 551), some (.int a1), some (.int z), none, none, none]) zh dX9_nets_130 (by decide) rfl (by decide +kernel) r4 (u := 1) (v := 200) rfl rfl (by decide) (by decide) (fun _ => rfl) (fun x7 hc7 hx7 => ?_)
          refine z_goto (tgt := 2) zh dX9_nets_133 rfl ?_
          exact ih2 iv lv x7 hG (ra_w hx7 (by decide) (by decide)) (ms_up hc7 (by decide) hn2)
        refine z_if_ne (tgt := 26) zh dX9_nets_20 rfl (fun q8 => ?_) (fun q8 => ?_)
        · have r9 : Ra 1 1 x6 := rb_ne_lo hx6 ra_z q8 (by decide)
          refine z_aloadnR zh dX9_nets_26 rfl ?_
          refine z_iloadn zh dX9_nets_27 rfl ?_
          refine z_bipush zh dX9_nets_28 kb_7 ?_
          refine z_callVI zh mv_Y_151 dX9_nets_30 ck_Y rfl (s_X9_tradeOf g r4 (ra_w rl_7 (by decide) (by decide)) hG) ⟨Nat.le_of_ble_eq_true rfl, Nat.le_of_ble_eq_true rfl⟩ rfl rfl (Nat.le_of_ble_eq_true rfl) ?_
          rintro x10 _ _ ⟨rfl, rfl, z11, ez11, ex10⟩
          refine z_istoren zh dX9_nets_33 (by decide) (L' := [some (rf g 551), some (.int a1), some (.int x1), some (.int x10), none, none]) rfl ?_
          refine z_iloadn zh dX9_nets_34 rfl ?_
          refine y_i2l zh dX9_nets_35 (fun l12 => ?_)
          refine z_aloadnR zh dX9_nets_36 rfl ?_
          refine z_iloadn zh dX9_nets_37 rfl ?_
          refine z_iconst zh dX9_nets_38 ki_4 ?_
          refine z_callVI zh mv_Y_151 dX9_nets_39 ck_Y rfl (s_X9_tradeOf g r4 (ra_w rl_4 (by decide) (by decide)) hG) ⟨Nat.le_of_ble_eq_true rfl, Nat.le_of_ble_eq_true rfl⟩ rfl rfl (Nat.le_of_ble_eq_true rfl) ?_
          rintro x13 _ _ ⟨rfl, rfl, z14, ez14, ex13⟩
          refine z_aloadnR zh dX9_nets_42 rfl ?_
          refine z_iloadn zh dX9_nets_43 rfl ?_
          refine z_callVI zh mv_Y_203 dX9_nets_44 ck_Y rfl (s_X9_markedOf g ha1 hG) ⟨Nat.le_of_ble_eq_true rfl, Nat.le_of_ble_eq_true rfl⟩ rfl rfl (Nat.le_of_ble_eq_true rfl) ?_
          rintro x15 _ _ ⟨rfl, rfl, _⟩
          refine y_isubT zh dX9_nets_47 (fun x16 => ?_)
          refine y_i2l zh dX9_nets_48 (fun l17 => ?_)
          refine y_lmul zh dX9_nets_49 (fun l18 => ?_)
          refine z_lstore zh dX9_nets_50 (by decide) (L' := [some (rf g 551), some (.int a1), some (.int x1), some (.int x10), some (.long l18), none]) rfl ?_
          refine z_aloadnR zh dX9_nets_52 rfl ?_
          refine z_aloadnR zh dX9_nets_53 rfl ?_
          refine z_iloadn zh dX9_nets_54 rfl ?_
          refine z_iconst zh dX9_nets_55 ki_0 ?_
          refine z_callVI zh mv_Y_151 dX9_nets_56 ck_Y rfl (s_X9_tradeOf g r4 (ra_w rl_0 (by decide) (by decide)) hG) ⟨Nat.le_of_ble_eq_true rfl, Nat.le_of_ble_eq_true rfl⟩ rfl rfl (Nat.le_of_ble_eq_true rfl) ?_
          rintro x19 _ _ ⟨rfl, rfl, z20, ez20, ex19⟩
          have hx19 : Ra 0 11 x19 := ra_of ex19 (nr_t01 hG x1.toInt (by have := r4.1; have := r4.2; have := rl_0.1; have := rl_0.2; omega) (by have := r4.1; have := r4.2; have := rl_0.1; have := rl_0.2; omega) (by have := r4.1; have := r4.2; have := rl_0.1; have := rl_0.2; omega))
          refine z_lload zh dX9_nets_59 rfl ?_
          refine y_lneg zh dX9_nets_61 (fun l21 => ?_)
          refine z_callVV zh mv_Y_206 dX9_nets_62 ck_Y rfl (s_X9_cashMore g hx19 hG) ⟨Nat.le_of_ble_eq_true rfl, Nat.le_of_ble_eq_true rfl⟩ rfl rfl (Nat.le_of_ble_eq_true rfl) ?_
          rintro iv lv ⟨hG, _⟩
          refine z_aloadnR zh dX9_nets_65 rfl ?_
          refine z_aloadnR zh dX9_nets_66 rfl ?_
          refine z_iloadn zh dX9_nets_67 rfl ?_
          refine z_iconst zh dX9_nets_68 ki_1 ?_
          refine z_callVI zh mv_Y_151 dX9_nets_69 ck_Y rfl (s_X9_tradeOf g r4 (ra_w rl_1 (by decide) (by decide)) hG) ⟨Nat.le_of_ble_eq_true rfl, Nat.le_of_ble_eq_true rfl⟩ rfl rfl (Nat.le_of_ble_eq_true rfl) ?_
          rintro x22 _ _ ⟨rfl, rfl, z23, ez23, ex22⟩
          have hx22 : Ra 0 11 x22 := ra_of ex22 (nr_t01 hG x1.toInt (by have := r4.1; have := r4.2; have := rl_1.1; have := rl_1.2; omega) (by have := r4.1; have := r4.2; have := rl_1.1; have := rl_1.2; omega) (by have := r4.1; have := r4.2; have := rl_1.1; have := rl_1.2; omega))
          refine z_lload zh dX9_nets_72 rfl ?_
          refine z_callVV zh mv_Y_206 dX9_nets_74 ck_Y rfl (s_X9_cashMore g hx22 hG) ⟨Nat.le_of_ble_eq_true rfl, Nat.le_of_ble_eq_true rfl⟩ rfl rfl (Nat.le_of_ble_eq_true rfl) ?_
          rintro iv lv ⟨hG, _⟩
          refine z_aloadnR zh dX9_nets_77 rfl ?_
          refine z_aloadnR zh dX9_nets_78 rfl ?_
          refine z_iloadn zh dX9_nets_79 rfl ?_
          refine z_iconst zh dX9_nets_80 ki_0 ?_
          refine z_callVI zh mv_Y_151 dX9_nets_81 ck_Y rfl (s_X9_tradeOf g r4 (ra_w rl_0 (by decide) (by decide)) hG) ⟨Nat.le_of_ble_eq_true rfl, Nat.le_of_ble_eq_true rfl⟩ rfl rfl (Nat.le_of_ble_eq_true rfl) ?_
          rintro x24 _ _ ⟨rfl, rfl, z25, ez25, ex24⟩
          have hx24 : Ra 0 11 x24 := ra_of ex24 (nr_t01 hG x1.toInt (by have := r4.1; have := r4.2; have := rl_0.1; have := rl_0.2; omega) (by have := r4.1; have := r4.2; have := rl_0.1; have := rl_0.2; omega) (by have := r4.1; have := r4.2; have := rl_0.1; have := rl_0.2; omega))
          refine z_iloadn zh dX9_nets_84 rfl ?_
          refine z_iloadn zh dX9_nets_85 rfl ?_
          refine z_aloadnR zh dX9_nets_86 rfl ?_
          refine z_getf zh fl_Y_7 dX9_nets_87 ck_Y rfl rfl ?_
          refine z_bipush zh dX9_nets_90 kb_6 ?_
          refine y_ialdN zh ck_now dX9_nets_92 (by decide) (fun x26 ex26 => ?_)
          have hx26 : Ra 0 99 x26 := ra_of ex26 (nr_l hG 6 rfl)
          refine z_callVV zh mv_Y_247 dX9_nets_93 ck_Y rfl (s_X9_adds g hx24 ha1 hx26 hG ex26 (c := (6 * x24.toInt + a1.toInt).toNat) (by have := hx24.1; have := hx24.2; have := ha1.1; have := ha1.2; omega)) ⟨Nat.le_of_ble_eq_true rfl, Nat.le_of_ble_eq_true rfl⟩ rfl rfl (Nat.le_of_ble_eq_true rfl) ?_
          rintro iv lv ⟨hG, _⟩
          refine z_aloadnR zh dX9_nets_96 rfl ?_
          refine z_aloadnR zh dX9_nets_97 rfl ?_
          refine z_iloadn zh dX9_nets_98 rfl ?_
          refine z_iconst zh dX9_nets_99 ki_1 ?_
          refine z_callVI zh mv_Y_151 dX9_nets_100 ck_Y rfl (s_X9_tradeOf g r4 (ra_w rl_1 (by decide) (by decide)) hG) ⟨Nat.le_of_ble_eq_true rfl, Nat.le_of_ble_eq_true rfl⟩ rfl rfl (Nat.le_of_ble_eq_true rfl) ?_
          rintro x27 _ _ ⟨rfl, rfl, z28, ez28, ex27⟩
          have hx27 : Ra 0 11 x27 := ra_of ex27 (nr_t01 hG x1.toInt (by have := r4.1; have := r4.2; have := rl_1.1; have := rl_1.2; omega) (by have := r4.1; have := r4.2; have := rl_1.1; have := rl_1.2; omega) (by have := r4.1; have := r4.2; have := rl_1.1; have := rl_1.2; omega))
          refine z_iloadn zh dX9_nets_103 rfl ?_
          refine z_iloadn zh dX9_nets_104 rfl ?_
          refine y_inegT zh dX9_nets_105 (fun x29 => ?_)
          refine z_aloadnR zh dX9_nets_106 rfl ?_
          refine z_getf zh fl_Y_7 dX9_nets_107 ck_Y rfl rfl ?_
          refine z_bipush zh dX9_nets_110 kb_6 ?_
          refine y_ialdN zh ck_now dX9_nets_112 (by decide) (fun x30 ex30 => ?_)
          have hx30 : Ra 0 99 x30 := ra_of ex30 (nr_l hG 6 rfl)
          refine z_callVV zh mv_Y_247 dX9_nets_113 ck_Y rfl (s_X9_adds g hx27 ha1 hx30 hG ex30 (c := (6 * x27.toInt + a1.toInt).toNat) (by have := hx27.1; have := hx27.2; have := ha1.1; have := ha1.2; omega)) ⟨Nat.le_of_ble_eq_true rfl, Nat.le_of_ble_eq_true rfl⟩ rfl rfl (Nat.le_of_ble_eq_true rfl) ?_
          rintro iv lv ⟨hG, _⟩
          refine z_aloadnR zh dX9_nets_116 rfl ?_
          refine z_getf zh fl_Y_7 dX9_nets_117 ck_Y rfl rfl ?_
          refine z_aloadnR zh dX9_nets_120 rfl ?_
          refine z_iloadn zh dX9_nets_121 rfl ?_
          refine z_callVI zh mv_Y_141 dX9_nets_122 ck_Y rfl (s_X9_tradeAt g r4 hG) ⟨Nat.le_of_ble_eq_true rfl, Nat.le_of_ble_eq_true rfl⟩ rfl rfl (Nat.le_of_ble_eq_true rfl) ?_
          rintro x31 _ _ ⟨rfl, rfl, hx31, hc31⟩
          refine z_bipush zh dX9_nets_125 kb_7 ?_
          refine y_iadd zh dX9_nets_127 hx31 rl_7 (u := 15117) (v := 16709) rfl rfl (by decide) (by decide) (fun x32 hc32 hx32 => ?_)
          refine z_iconst zh dX9_nets_128 ki_0 ?_
          refine z_iast zh ck_now dX9_nets_129 (ra_in hx32 (by decide) (by decide)) ?_
          have hG : SI sp σ (upI iv 552 x32.toNatClampNeg (nI 0)) := (nw_t hG (x1.toInt * 1) (by have := r4.1; have := r4.2; have := rl_7.1; have := rl_7.2; omega) (by have := r4.1; have := r4.2; have := rl_7.1; have := rl_7.2; omega) (by have := r4.1; have := r4.2; have := rl_7.1; have := rl_7.2; omega))
          generalize upI iv 552 x32.toNatClampNeg (nI 0) = iv at hG  ⊢
          refine z_forget zh [true, true, true, false, false, false] (L2 := [some (rf g 551), some (.int a1), some (.int x1), none, none, none]) rfl ?_
          exact J130 iv lv hG
        · have r33 := rb_eq (u := 0) (v := 0) hx6 ra_z q8 (by decide) (by decide)
          refine z_goto (tgt := 130) zh dX9_nets_23 rfl ?_
          exact J130 iv lv hG
  exact J2 201 iv lv (nI 0) hG (ra_w rl_0 (by decide) (by decide)) (ms_u0 rl_0 (by decide))
