theorem did_w {iv : Iv} {k j : Nat} (h : ∀ j, j < k → iv 560 j = nI 1) (hj : j < k + 1) : upI iv 560 k (vp_nar .boolean (nI 1)) 560 j = nI 1 := by
  rw [upI_at]
  by_cases e : j = k
  · rw [if_pos ⟨rfl, e⟩]
    decide
  · rw [if_neg (fun q => e q.2)]
    exact h j (by omega)
theorem okR_DAY {dd : Nat → Nat} {dm : Nat} {iv : Iv} {lv : Lv} (hG : OkR dd dm iv lv) : OkR dd (dm + 1) (upI iv 552 6 (nI (dm + 1))) lv := by
  refine ⟨fun a b x h551 hx => ?_, hG.2⟩
  rw [upI_at]
  by_cases hc : a = 552 ∧ b = 6
  · obtain ⟨rfl, rfl⟩ := hc
    rw [if_pos ⟨rfl, rfl⟩]
    exact Option.some.inj hx
  · rw [if_neg hc]
    refine hG.1 a b x h551 ?_
    rw [← hx]
    unfold s1I
    by_cases h0 : a = 0
    · rw [if_pos h0, if_pos h0]
    · rw [if_neg h0, if_neg h0]
      by_cases h1 : a < 541
      · rw [if_pos h1, if_pos h1]
      · rw [if_neg h1, if_neg h1]
        by_cases h2 : a = 541
        · rw [if_pos h2, if_pos h2]
        · rw [if_neg h2, if_neg h2]
          by_cases h3 : a = 543
          · rw [if_pos h3, if_pos h3]
          · rw [if_neg h3, if_neg h3]
            by_cases h4 : a < 551
            · rw [if_pos h4, if_pos h4]
            · rw [if_neg h4, if_neg h4]
              unfold s1Y
              by_cases h5 : a - 551 = 0
              · rw [if_pos h5, if_pos h5]
              · rw [if_neg h5, if_neg h5]
                by_cases h6 : a - 551 = 1
                · rw [if_pos h6, if_pos h6]
                  by_cases h7 : b = 6
                  · exact absurd ⟨by omega, h7⟩ hc
                  · rw [if_neg h7, if_neg h7]
                · rw [if_neg h6, if_neg h6]
set_option maxRecDepth 20000 in
theorem c_y_tradeAt0 (g : GE)  {iv : Iv} {lv : Lv}    : ConIp g yX9_tradeAt cX9_tradeAt 2 (some .int) 1 [rf g 551, .int (nI 0)] iv lv (nI 15110) := by
  refine con_intro (own := "RollingNetsModel") (by decide +kernel) rfl (Nat.le_of_ble_eq_true rfl) (L0 := [some (rf g 551), some (.int (nI 0))]) rfl (fun Z zh => ?_)
  refine z_sipush zh dX9_tradeAt_0 ks_15110 ?_
  refine z_bipush zh dX9_tradeAt_3 kb_8 ?_
  refine z_iloadn zh dX9_tradeAt_5 rfl ?_
  refine z_imulN zh dX9_tradeAt_6 ?_
  refine z_iaddN zh dX9_tradeAt_7 ?_
  exact z_iret zh dX9_tradeAt_8 (qI rfl)
set_option maxRecDepth 20000 in
theorem c_y_trades (g : GE) {b s i n p a : Int32} {iv : Iv} {lv : Lv} {dd : Nat → Nat} {dm : Nat}  (hG : OkR dd dm iv lv) : ConI g yX9_trades cX9_trades 8 (some .int) 3 [rf g 551, .int b, .int s, .int i, .int n, .int p, .int a] iv lv (fun r _ _ => r = sp_trade b s i n p) := by
  refine con_intro (own := "RollingNetsModel") (by decide +kernel) rfl (Nat.le_of_ble_eq_true rfl) (L0 := [some (rf g 551), some (.int b), some (.int s), some (.int i), some (.int n), some (.int p), some (.int a), none]) rfl (fun Z zh => ?_)
  refine z_aloadnR zh dX9_trades_0 rfl ?_
  refine z_iloadn zh dX9_trades_1 rfl ?_
  refine z_callVIp zh mv_Y_90 dX9_trades_2 ck_Y rfl (c_y_isMember g  hG) ⟨Nat.le_of_ble_eq_true rfl, Nat.le_of_ble_eq_true rfl⟩ rfl rfl (Nat.le_of_ble_eq_true rfl) ?_
  refine z_if_eq_B (tgt := 68) zh dX9_trades_5 rfl (fun hp1 => ?_) (fun hp1 => ?_)
  · refine z_iconst zh dX9_trades_68 ki_m1 ?_
    exact z_iret zh dX9_trades_69 (⟨_, rfl, (by first | rfl | simp (decide := true) only [sp_trade, sel_t, sel_f, selL_t, selL_f, bi_t, bi_f, sel_same, selL_same, eq_self, hp1])⟩)
  · obtain ⟨jb, hjb, rfl⟩ := id hp1
    refine z_aloadnR zh dX9_trades_8 rfl ?_
    refine z_iloadn zh dX9_trades_9 rfl ?_
    refine z_callVIp zh mv_Y_90 dX9_trades_10 ck_Y rfl (c_y_isMember g  hG) ⟨Nat.le_of_ble_eq_true rfl, Nat.le_of_ble_eq_true rfl⟩ rfl rfl (Nat.le_of_ble_eq_true rfl) ?_
    refine z_if_eq_B (tgt := 68) zh dX9_trades_13 rfl (fun hp2 => ?_) (fun hp2 => ?_)
    · refine z_iconst zh dX9_trades_68 ki_m1 ?_
      exact z_iret zh dX9_trades_69 (⟨_, rfl, (by first | rfl | simp (decide := true) only [sp_trade, sel_t, sel_f, selL_t, selL_f, bi_t, bi_f, sel_same, selL_same, eq_self, hp1, hp2])⟩)
    · obtain ⟨js, hjs, rfl⟩ := id hp2
      refine z_iloadn zh dX9_trades_16 rfl ?_
      refine z_iloadn zh dX9_trades_17 rfl ?_
      refine z_icmp_eq_N (tgt := 68) zh (by omega) (by omega) dX9_trades_18 rfl (fun hb3 => ?_) (fun hb3 => ?_)
      · have hb3N : nI jb = nI js := by rw [hb3]
        refine z_iconst zh dX9_trades_68 ki_m1 ?_
        exact z_iret zh dX9_trades_69 (⟨_, rfl, (by first | rfl | simp (decide := true) only [sp_trade, sel_t, sel_f, selL_t, selL_f, bi_t, bi_f, sel_same, selL_same, eq_self, hp1, hp2, hb3, hb3N])⟩)
      · have hb3N : ¬ nI jb = nI js := fun e => hb3 ((nI_eq (by omega) (by omega)).mp e)
        refine z_aloadnR zh dX9_trades_21 rfl ?_
        refine z_iloadn zh dX9_trades_22 rfl ?_
        refine z_callVIp zh mv_Y_94 dX9_trades_23 ck_Y rfl (c_y_isIssue g) ⟨Nat.le_of_ble_eq_true rfl, Nat.le_of_ble_eq_true rfl⟩ rfl rfl (Nat.le_of_ble_eq_true rfl) ?_
        refine z_if_eq_B (tgt := 68) zh dX9_trades_26 rfl (fun hp4 => ?_) (fun hp4 => ?_)
        · refine z_iconst zh dX9_trades_68 ki_m1 ?_
          exact z_iret zh dX9_trades_69 (⟨_, rfl, (by first | rfl | simp (decide := true) only [sp_trade, sel_t, sel_f, selL_t, selL_f, bi_t, bi_f, sel_same, selL_same, eq_self, hp1, hp2, hb3, hb3N, hp4])⟩)
        · obtain ⟨ji, hji, rfl⟩ := id hp4
          refine z_aloadnR zh dX9_trades_29 rfl ?_
          refine z_iload zh dX9_trades_30 rfl ?_
          refine z_iconst zh dX9_trades_32 ki_1 ?_
          refine z_sipush zh dX9_trades_33 ks_9999 ?_
          refine z_callVIp zh mv_Y_79 dX9_trades_36 ck_Y rfl (c_y_isIn g) ⟨Nat.le_of_ble_eq_true rfl, Nat.le_of_ble_eq_true rfl⟩ rfl rfl (Nat.le_of_ble_eq_true rfl) ?_
          refine z_if_eq_B (tgt := 68) zh dX9_trades_39 rfl (fun hp5 => ?_) (fun hp5 => ?_)
          · refine z_iconst zh dX9_trades_68 ki_m1 ?_
            exact z_iret zh dX9_trades_69 (⟨_, rfl, (by first | rfl | simp (decide := true) only [sp_trade, sel_t, sel_f, selL_t, selL_f, bi_t, bi_f, sel_same, selL_same, eq_self, hp1, hp2, hb3, hb3N, hp4, hp5])⟩)
          · refine z_aloadnR zh dX9_trades_42 rfl ?_
            refine z_iload zh dX9_trades_43 rfl ?_
            refine z_iconst zh dX9_trades_45 ki_1 ?_
            refine z_sipush zh dX9_trades_46 ks_9999 ?_
            refine z_callVIp zh mv_Y_79 dX9_trades_49 ck_Y rfl (c_y_isIn g) ⟨Nat.le_of_ble_eq_true rfl, Nat.le_of_ble_eq_true rfl⟩ rfl rfl (Nat.le_of_ble_eq_true rfl) ?_
            refine z_if_eq_B (tgt := 68) zh dX9_trades_52 rfl (fun hp6 => ?_) (fun hp6 => ?_)
            · refine z_iconst zh dX9_trades_68 ki_m1 ?_
              exact z_iret zh dX9_trades_69 (⟨_, rfl, (by first | rfl | simp (decide := true) only [sp_trade, sel_t, sel_f, selL_t, selL_f, bi_t, bi_f, sel_same, selL_same, eq_self, hp1, hp2, hb3, hb3N, hp4, hp5, hp6])⟩)
            · refine z_aloadnR zh dX9_trades_55 rfl ?_
              refine z_getf zh fl_Y_7 dX9_trades_56 ck_Y rfl rfl ?_
              refine z_bipush zh dX9_trades_59 kb_7 ?_
              refine z_ialdE (x := nI 0) zh ck_now dX9_trades_61 (by decide) (r1_now hG (by decide)) ?_
              refine z_sipush zh dX9_trades_62 ks_200 ?_
              refine z_icmp_ne_N (tgt := 70) zh (by decide) (by decide) dX9_trades_65 rfl (fun _ => ?_) (fun q => absurd q (by decide))
              refine z_aloadnR zh dX9_trades_70 rfl ?_
              refine z_aloadnR zh dX9_trades_71 rfl ?_
              refine z_getf zh fl_Y_7 dX9_trades_72 ck_Y rfl rfl ?_
              refine z_bipush zh dX9_trades_75 kb_7 ?_
              refine z_ialdE (x := nI 0) zh ck_now dX9_trades_77 (by decide) (r1_now hG (by decide)) ?_
              refine z_callVIp zh mv_Y_141 dX9_trades_78 ck_Y rfl (c_y_tradeAt0 g) ⟨Nat.le_of_ble_eq_true rfl, Nat.le_of_ble_eq_true rfl⟩ rfl rfl (Nat.le_of_ble_eq_true rfl) ?_
              refine z_istore zh dX9_trades_81 (by decide) (L' := [some (rf g 551), some (.int (nI jb)), some (.int (nI js)), some (.int (nI ji)), some (.int n), some (.int p), some (.int a), some (.int (nI 15110))]) rfl ?_
              refine z_aloadnR zh dX9_trades_83 rfl ?_
              refine z_getf zh fl_Y_7 dX9_trades_84 ck_Y rfl rfl ?_
              refine z_iload zh dX9_trades_87 rfl ?_
              refine z_iconst zh dX9_trades_89 ki_0 ?_
              refine z_iaddN zh dX9_trades_90 ?_
              refine z_iloadn zh dX9_trades_91 rfl ?_
              refine z_iastN zh ck_now dX9_trades_92 (by decide) ?_
              have hF : ∀ j, j < 15110 → iv 552 j = iv 552 j := fun _ _ => rfl
              have hF := fun (j9 : Nat) (h9 : j9 < 15110) => (show upI iv 552 (15110) (nI jb) 552 j9 = iv 552 j9 from by rw [upI_at, if_neg (by omega)]).trans (hF j9 h9)
              generalize upI iv 552 (15110) (nI jb) = iv at hF ⊢
              refine z_aloadnR zh dX9_trades_93 rfl ?_
              refine z_getf zh fl_Y_7 dX9_trades_94 ck_Y rfl rfl ?_
              refine z_iload zh dX9_trades_97 rfl ?_
              refine z_iconst zh dX9_trades_99 ki_1 ?_
              refine z_iaddN zh dX9_trades_100 ?_
              refine z_iloadn zh dX9_trades_101 rfl ?_
              refine z_iastN zh ck_now dX9_trades_102 (by decide) ?_
              have hF := fun (j9 : Nat) (h9 : j9 < 15110) => (show upI iv 552 (15111) (nI js) 552 j9 = iv 552 j9 from by rw [upI_at, if_neg (by omega)]).trans (hF j9 h9)
              generalize upI iv 552 (15111) (nI js) = iv at hF ⊢
              refine z_aloadnR zh dX9_trades_103 rfl ?_
              refine z_getf zh fl_Y_7 dX9_trades_104 ck_Y rfl rfl ?_
              refine z_iload zh dX9_trades_107 rfl ?_
              refine z_iconst zh dX9_trades_109 ki_2 ?_
              refine z_iaddN zh dX9_trades_110 ?_
              refine z_iloadn zh dX9_trades_111 rfl ?_
              refine z_iastN zh ck_now dX9_trades_112 (by decide) ?_
              have hF := fun (j9 : Nat) (h9 : j9 < 15110) => (show upI iv 552 (15112) (nI ji) 552 j9 = iv 552 j9 from by rw [upI_at, if_neg (by omega)]).trans (hF j9 h9)
              generalize upI iv 552 (15112) (nI ji) = iv at hF ⊢
              refine z_aloadnR zh dX9_trades_113 rfl ?_
              refine z_getf zh fl_Y_7 dX9_trades_114 ck_Y rfl rfl ?_
              refine z_iload zh dX9_trades_117 rfl ?_
              refine z_iconst zh dX9_trades_119 ki_3 ?_
              refine z_iaddN zh dX9_trades_120 ?_
              refine z_iload zh dX9_trades_121 rfl ?_
              refine z_iastN zh ck_now dX9_trades_123 (by decide) ?_
              have hF := fun (j9 : Nat) (h9 : j9 < 15110) => (show upI iv 552 (15113) (n) 552 j9 = iv 552 j9 from by rw [upI_at, if_neg (by omega)]).trans (hF j9 h9)
              generalize upI iv 552 (15113) (n) = iv at hF ⊢
              refine z_aloadnR zh dX9_trades_124 rfl ?_
              refine z_getf zh fl_Y_7 dX9_trades_125 ck_Y rfl rfl ?_
              refine z_iload zh dX9_trades_128 rfl ?_
              refine z_iconst zh dX9_trades_130 ki_4 ?_
              refine z_iaddN zh dX9_trades_131 ?_
              refine z_iload zh dX9_trades_132 rfl ?_
              refine z_iastN zh ck_now dX9_trades_134 (by decide) ?_
              have hF := fun (j9 : Nat) (h9 : j9 < 15110) => (show upI iv 552 (15114) (p) 552 j9 = iv 552 j9 from by rw [upI_at, if_neg (by omega)]).trans (hF j9 h9)
              generalize upI iv 552 (15114) (p) = iv at hF ⊢
              refine z_aloadnR zh dX9_trades_135 rfl ?_
              refine z_getf zh fl_Y_7 dX9_trades_136 ck_Y rfl rfl ?_
              refine z_iload zh dX9_trades_139 rfl ?_
              refine z_iconst zh dX9_trades_141 ki_5 ?_
              refine z_iaddN zh dX9_trades_142 ?_
              refine z_iload zh dX9_trades_143 rfl ?_
              refine z_iastN zh ck_now dX9_trades_145 (by decide) ?_
              have hF := fun (j9 : Nat) (h9 : j9 < 15110) => (show upI iv 552 (15115) (a) 552 j9 = iv 552 j9 from by rw [upI_at, if_neg (by omega)]).trans (hF j9 h9)
              generalize upI iv 552 (15115) (a) = iv at hF ⊢
              refine z_aloadnR zh dX9_trades_146 rfl ?_
              refine z_getf zh fl_Y_7 dX9_trades_147 ck_Y rfl rfl ?_
              refine z_iload zh dX9_trades_150 rfl ?_
              refine z_bipush zh dX9_trades_152 kb_6 ?_
              refine z_iaddN zh dX9_trades_154 ?_
              refine z_aloadnR zh dX9_trades_155 rfl ?_
              refine z_getf zh fl_Y_7 dX9_trades_156 ck_Y rfl rfl ?_
              refine z_bipush zh dX9_trades_159 kb_6 ?_
              refine z_ialdE (x := nI dm) zh ck_now dX9_trades_161 (by decide) ((hF 6 (by omega)).trans (r1_DAY hG)) ?_
              refine z_aloadnR zh dX9_trades_162 rfl ?_
              refine z_iconst zh dX9_trades_163 ki_1 ?_
              refine z_callVIp zh mv_Y_144 dX9_trades_164 ck_Y rfl (c_y_settingOf1 g ((hF 1 (by omega)).trans (r1_now hG (by omega)))) ⟨Nat.le_of_ble_eq_true rfl, Nat.le_of_ble_eq_true rfl⟩ rfl rfl (Nat.le_of_ble_eq_true rfl) ?_
              refine z_iaddN zh dX9_trades_167 ?_
              refine z_iastN zh ck_now dX9_trades_168 (by decide) ?_
              have hF := fun (j9 : Nat) (h9 : j9 < 15110) => (show upI iv 552 (15116) (nI (dm + 2)) 552 j9 = iv 552 j9 from by rw [upI_at, if_neg (by omega)]).trans (hF j9 h9)
              generalize upI iv 552 (15116) (nI (dm + 2)) = iv at hF ⊢
              refine z_aloadnR zh dX9_trades_169 rfl ?_
              refine z_getf zh fl_Y_7 dX9_trades_170 ck_Y rfl rfl ?_
              refine z_iload zh dX9_trades_173 rfl ?_
              refine z_bipush zh dX9_trades_175 kb_7 ?_
              refine z_iaddN zh dX9_trades_177 ?_
              refine z_iload zh dX9_trades_178 rfl ?_
              refine z_iastN zh ck_now dX9_trades_180 (by decide) ?_
              have hF := fun (j9 : Nat) (h9 : j9 < 15110) => (show upI iv 552 (15117) (n) 552 j9 = iv 552 j9 from by rw [upI_at, if_neg (by omega)]).trans (hF j9 h9)
              generalize upI iv 552 (15117) (n) = iv at hF ⊢
              refine z_aloadnR zh dX9_trades_181 rfl ?_
              refine z_getf zh fl_Y_7 dX9_trades_182 ck_Y rfl rfl ?_
              refine z_bipush zh dX9_trades_185 kb_7 ?_
              refine z_aloadnR zh dX9_trades_187 rfl ?_
              refine z_getf zh fl_Y_7 dX9_trades_188 ck_Y rfl rfl ?_
              refine z_bipush zh dX9_trades_191 kb_7 ?_
              refine z_ialdE (x := nI 0) zh ck_now dX9_trades_193 (by decide) ((hF 7 (by omega)).trans (r1_now hG (by omega))) ?_
              refine z_iconst zh dX9_trades_194 ki_1 ?_
              refine z_iaddN zh dX9_trades_195 ?_
              refine z_iastN zh ck_now dX9_trades_196 (by decide) ?_
              have hT : upI iv 552 7 (nI 1) 552 7 = nI 1 := by rw [upI_at, if_pos ⟨rfl, rfl⟩]
              generalize upI iv 552 7 (nI 1) = iv at hT ⊢
              refine z_aloadnR zh dX9_trades_197 rfl ?_
              refine z_getf zh fl_Y_7 dX9_trades_198 ck_Y rfl rfl ?_
              refine z_bipush zh dX9_trades_201 kb_7 ?_
              refine z_ialdE (x := nI 1) zh ck_now dX9_trades_203 (by decide) hT ?_
              refine z_iconst zh dX9_trades_204 ki_1 ?_
              refine z_isubN zh (by omega) dX9_trades_205 ?_
              exact z_iret zh dX9_trades_206 (⟨_, rfl, (by first | rfl | simp (decide := true) only [sp_trade, sel_t, sel_f, selL_t, selL_f, bi_t, bi_f, sel_same, selL_same, eq_self, hp1, hp2, hb3, hb3N, hp4, hp5, hp6])⟩)
set_option maxRecDepth 20000 in
theorem c_Y_trade (g : GE) {b s i n p : Int32} {iv : Iv} {lv : Lv} {dd : Nat → Nat} {dm : Nat}  (hG : OkR dd dm iv lv) : ConI g yX9_trade cX9_trade 6 (some .int) 4 [rf g 551, .int b, .int s, .int i, .int n, .int p] iv lv (fun r _ _ => r = sp_trade b s i n p) := by
  refine con_intro (own := "RollingNetsModel") (by decide +kernel) rfl (Nat.le_of_ble_eq_true rfl) (L0 := [some (rf g 551), some (.int b), some (.int s), some (.int i), some (.int n), some (.int p)]) rfl (fun Z zh => ?_)
  refine z_aloadnR zh dX9_trade_0 rfl ?_
  refine z_iconst zh dX9_trade_1 ki_0 ?_
  refine z_putI zh fl_Y_58 dX9_trade_2 ck_Y rfl rfl (Nat.le_of_ble_eq_true rfl) (Or.inl rfl) ?_
  have hG := okR_wI (k := 551) (j := 0) (x := nI 0) hG (w1_no rfl)
  generalize upI iv (551) (0) (nI 0) = iv at hG ⊢
  refine z_aloadnR zh dX9_trade_5 rfl ?_
  refine z_iloadn zh dX9_trade_6 rfl ?_
  refine z_iloadn zh dX9_trade_7 rfl ?_
  refine z_iloadn zh dX9_trade_8 rfl ?_
  refine z_iload zh dX9_trade_9 rfl ?_
  refine z_iload zh dX9_trade_11 rfl ?_
  refine z_iconst zh dX9_trade_13 ki_0 ?_
  refine z_callVI zh mv_Y_147 dX9_trade_14 ck_Y rfl (c_y_trades g hG) ⟨Nat.le_of_ble_eq_true rfl, Nat.le_of_ble_eq_true rfl⟩ rfl rfl (Nat.le_of_ble_eq_true rfl) ?_
  rintro _ iv lv rfl
  exact z_iret zh dX9_trade_17 (⟨_, rfl, rfl⟩)
set_option maxRecDepth 20000 in
theorem c_Y_apart (g : GE) {b s i n p : Int32} {iv : Iv} {lv : Lv} {dd : Nat → Nat} {dm : Nat}  (hG : OkR dd dm iv lv) : ConI g yX9_apart cX9_apart 6 (some .int) 4 [rf g 551, .int b, .int s, .int i, .int n, .int p] iv lv (fun r _ _ => r = sp_trade b s i n p) := by
  refine con_intro (own := "RollingNetsModel") (by decide +kernel) rfl (Nat.le_of_ble_eq_true rfl) (L0 := [some (rf g 551), some (.int b), some (.int s), some (.int i), some (.int n), some (.int p)]) rfl (fun Z zh => ?_)
  refine z_aloadnR zh dX9_apart_0 rfl ?_
  refine z_iconst zh dX9_apart_1 ki_0 ?_
  refine z_putI zh fl_Y_58 dX9_apart_2 ck_Y rfl rfl (Nat.le_of_ble_eq_true rfl) (Or.inl rfl) ?_
  have hG := okR_wI (k := 551) (j := 0) (x := nI 0) hG (w1_no rfl)
  generalize upI iv (551) (0) (nI 0) = iv at hG ⊢
  refine z_aloadnR zh dX9_apart_5 rfl ?_
  refine z_iloadn zh dX9_apart_6 rfl ?_
  refine z_iloadn zh dX9_apart_7 rfl ?_
  refine z_iloadn zh dX9_apart_8 rfl ?_
  refine z_iload zh dX9_apart_9 rfl ?_
  refine z_iload zh dX9_apart_11 rfl ?_
  refine z_iconst zh dX9_apart_13 ki_1 ?_
  refine z_callVI zh mv_Y_147 dX9_apart_14 ck_Y rfl (c_y_trades g hG) ⟨Nat.le_of_ble_eq_true rfl, Nat.le_of_ble_eq_true rfl⟩ rfl rfl (Nat.le_of_ble_eq_true rfl) ?_
  rintro _ iv lv rfl
  exact z_iret zh dX9_apart_17 (⟨_, rfl, rfl⟩)
set_option maxRecDepth 20000 in
theorem c_Y_tell (g : GE) {x y w v : Int32} {iv : Iv} {lv : Lv} {dd : Nat → Nat} {dm : Nat}  (hG : OkR dd dm iv lv) : ConI g yX9_tell cX9_tell 5 (some .boolean) 3 [rf g 551, .int x, .int y, .int w, .int v] iv lv (fun r _ _ => r = sp_tell x y w v) := by
  refine con_intro (own := "RollingNetsModel") (by decide +kernel) rfl (Nat.le_of_ble_eq_true rfl) (L0 := [some (rf g 551), some (.int x), some (.int y), some (.int w), some (.int v)]) rfl (fun Z zh => ?_)
  refine z_aloadnR zh dX9_tell_0 rfl ?_
  refine z_iconst zh dX9_tell_1 ki_0 ?_
  refine z_putI zh fl_Y_58 dX9_tell_2 ck_Y rfl rfl (Nat.le_of_ble_eq_true rfl) (Or.inl rfl) ?_
  have hG := okR_wI (k := 551) (j := 0) (x := nI 0) hG (w1_no rfl)
  generalize upI iv (551) (0) (nI 0) = iv at hG ⊢
  refine z_aloadnR zh dX9_tell_5 rfl ?_
  refine z_iloadn zh dX9_tell_6 rfl ?_
  refine z_callVIp zh mv_Y_90 dX9_tell_7 ck_Y rfl (c_y_isMember g  hG) ⟨Nat.le_of_ble_eq_true rfl, Nat.le_of_ble_eq_true rfl⟩ rfl rfl (Nat.le_of_ble_eq_true rfl) ?_
  refine z_if_eq_B (tgt := 23) zh dX9_tell_10 rfl (fun hp1 => ?_) (fun hp1 => ?_)
  · refine z_iconst zh dX9_tell_23 ki_0 ?_
    exact z_zret zh dX9_tell_24 (Or.inl rfl) (⟨_, rfl, (by first | rfl | (simp (decide := true) only [sp_tell, sel_t, sel_f, bi_t, bi_f, sel_same, eq_self, hp1]; done) | (have hz : ∀ k, k < 3 → ¬ w = nI k := fun k hk e => hp2 ⟨k, by omega, e⟩; have h3 : ¬ w = nI 3 := fun e => hp2 ⟨3, by omega, e⟩; have hb3 : ¬ InN 3 w := fun q => hp2 (by obtain ⟨j, hj, e⟩ := q; exact ⟨j, by omega, e⟩); simp (decide := true) only [sp_tell, sel_t, sel_f, bi_t, bi_f, sel_same, hp1, h3, hb3]) | (have hb3 : InN 3 (nI jw) := ⟨jw, by omega, rfl⟩; have h3 : ¬ nI jw = nI 3 := fun e => absurd ((nI_eq (by omega) (by omega)).mp e) (by omega); simp (decide := true) only [sp_tell, sel_t, sel_f, bi_t, bi_f, sel_same, eq_self, hp1, hb3, h3]))⟩)
  · obtain ⟨jx, hjx, rfl⟩ := id hp1
    refine z_aloadnR zh dX9_tell_13 rfl ?_
    refine z_iloadn zh dX9_tell_14 rfl ?_
    refine z_iconst zh dX9_tell_15 ki_0 ?_
    refine z_iconst zh dX9_tell_16 ki_3 ?_
    refine z_callVIp zh mv_Y_79 dX9_tell_17 ck_Y rfl (c_y_isIn0 g) ⟨Nat.le_of_ble_eq_true rfl, Nat.le_of_ble_eq_true rfl⟩ rfl rfl (Nat.le_of_ble_eq_true rfl) ?_
    refine z_if_ne_B (tgt := 25) zh dX9_tell_20 rfl (fun hp2 => ?_) (fun hp2 => ?_)
    · obtain ⟨jw, hjw, rfl⟩ := id hp2
      refine z_iloadn zh dX9_tell_25 rfl ?_
      refine z_iconst zh dX9_tell_26 ki_3 ?_
      refine z_icmp_ne_N (tgt := 57) zh (by omega) (by decide) dX9_tell_27 rfl (fun hb3 => ?_) (fun hb3 => ?_)
      · refine z_aloadnR zh dX9_tell_57 rfl ?_
        refine z_iloadn zh dX9_tell_58 rfl ?_
        refine z_callVIp zh mv_Y_94 dX9_tell_59 ck_Y rfl (c_y_isIssue g) ⟨Nat.le_of_ble_eq_true rfl, Nat.le_of_ble_eq_true rfl⟩ rfl rfl (Nat.le_of_ble_eq_true rfl) ?_
        refine z_if_eq_B (tgt := 77) zh dX9_tell_62 rfl (fun hp4 => ?_) (fun hp4 => ?_)
        · refine z_iconst zh dX9_tell_77 ki_0 ?_
          exact z_zret zh dX9_tell_78 (Or.inl rfl) (⟨_, rfl, (by first | rfl | (simp (decide := true) only [sp_tell, sel_t, sel_f, bi_t, bi_f, sel_same, eq_self, hp1, hp2, hb3, hp4]; done) | (have hz : ∀ k, k < 3 → ¬ w = nI k := fun k hk e => hp2 ⟨k, by omega, e⟩; have h3 : ¬ w = nI 3 := fun e => hp2 ⟨3, by omega, e⟩; have hb3 : ¬ InN 3 w := fun q => hp2 (by obtain ⟨j, hj, e⟩ := q; exact ⟨j, by omega, e⟩); simp (decide := true) only [sp_tell, sel_t, sel_f, bi_t, bi_f, sel_same, hp1, h3, hb3]) | (have hb3 : InN 3 (nI jw) := ⟨jw, by omega, rfl⟩; have h3 : ¬ nI jw = nI 3 := fun e => absurd ((nI_eq (by omega) (by omega)).mp e) (by omega); simp (decide := true) only [sp_tell, sel_t, sel_f, bi_t, bi_f, sel_same, eq_self, hp1, hp2, hb3, hp4, hb3, h3]))⟩)
        · obtain ⟨jy, hjy, rfl⟩ := id hp4
          refine z_aloadnR zh dX9_tell_65 rfl ?_
          refine z_iload zh dX9_tell_66 rfl ?_
          refine z_iconst zh dX9_tell_68 ki_0 ?_
          refine z_ldc zh dX9_tell_69 kc_Y_97 ?_
          refine z_callVIp zh mv_Y_79 dX9_tell_71 ck_Y rfl (c_y_isIn0 g) ⟨Nat.le_of_ble_eq_true rfl, Nat.le_of_ble_eq_true rfl⟩ rfl rfl (Nat.le_of_ble_eq_true rfl) ?_
          refine z_if_ne_B (tgt := 79) zh dX9_tell_74 rfl (fun hp5 => ?_) (fun hp5 => ?_)
          · obtain ⟨jv, hjv, rfl⟩ := id hp5
            refine z_aloadnR zh dX9_tell_79 rfl ?_
            refine z_getf zh fl_Y_7 dX9_tell_80 ck_Y rfl rfl ?_
            refine z_bipush zh dX9_tell_83 kb_60 ?_
            refine z_bipush zh dX9_tell_85 kb_72 ?_
            refine z_iloadn zh dX9_tell_87 rfl ?_
            refine z_imulN zh dX9_tell_88 ?_
            refine z_iaddN zh dX9_tell_89 ?_
            refine z_aloadnR zh dX9_tell_90 rfl ?_
            refine z_iloadn zh dX9_tell_91 rfl ?_
            refine z_iloadn zh dX9_tell_92 rfl ?_
            refine z_callVIp zh mv_Y_65 dX9_tell_93 ck_Y rfl (c_y_cellOf g) ⟨Nat.le_of_ble_eq_true rfl, Nat.le_of_ble_eq_true rfl⟩ rfl rfl (Nat.le_of_ble_eq_true rfl) ?_
            refine z_iaddN zh dX9_tell_96 ?_
            refine z_iload zh dX9_tell_97 rfl ?_
            refine z_iastN zh ck_now dX9_tell_99 (by omega) ?_
            refine z_iconst zh dX9_tell_100 ki_1 ?_
            exact z_zret zh dX9_tell_101 (Or.inr rfl) (⟨_, rfl, (by first | rfl | (simp (decide := true) only [sp_tell, sel_t, sel_f, bi_t, bi_f, sel_same, eq_self, hp1, hp2, hb3, hp4, hp5]; done) | (have hz : ∀ k, k < 3 → ¬ w = nI k := fun k hk e => hp2 ⟨k, by omega, e⟩; have h3 : ¬ w = nI 3 := fun e => hp2 ⟨3, by omega, e⟩; have hb3 : ¬ InN 3 w := fun q => hp2 (by obtain ⟨j, hj, e⟩ := q; exact ⟨j, by omega, e⟩); simp (decide := true) only [sp_tell, sel_t, sel_f, bi_t, bi_f, sel_same, hp1, h3, hb3]) | (have hb3 : InN 3 (nI jw) := ⟨jw, by omega, rfl⟩; have h3 : ¬ nI jw = nI 3 := fun e => absurd ((nI_eq (by omega) (by omega)).mp e) (by omega); simp (decide := true) only [sp_tell, sel_t, sel_f, bi_t, bi_f, sel_same, eq_self, hp1, hp2, hb3, hp4, hp5, hb3, h3]))⟩)
          · refine z_iconst zh dX9_tell_77 ki_0 ?_
            exact z_zret zh dX9_tell_78 (Or.inl rfl) (⟨_, rfl, (by first | rfl | (simp (decide := true) only [sp_tell, sel_t, sel_f, bi_t, bi_f, sel_same, eq_self, hp1, hp2, hb3, hp4, hp5]; done) | (have hz : ∀ k, k < 3 → ¬ w = nI k := fun k hk e => hp2 ⟨k, by omega, e⟩; have h3 : ¬ w = nI 3 := fun e => hp2 ⟨3, by omega, e⟩; have hb3 : ¬ InN 3 w := fun q => hp2 (by obtain ⟨j, hj, e⟩ := q; exact ⟨j, by omega, e⟩); simp (decide := true) only [sp_tell, sel_t, sel_f, bi_t, bi_f, sel_same, hp1, h3, hb3]) | (have hb3 : InN 3 (nI jw) := ⟨jw, by omega, rfl⟩; have h3 : ¬ nI jw = nI 3 := fun e => absurd ((nI_eq (by omega) (by omega)).mp e) (by omega); simp (decide := true) only [sp_tell, sel_t, sel_f, bi_t, bi_f, sel_same, eq_self, hp1, hp2, hb3, hp4, hp5, hb3, h3]))⟩)
      · refine z_aloadnR zh dX9_tell_30 rfl ?_
        refine z_iload zh dX9_tell_31 rfl ?_
        refine z_iconst zh dX9_tell_33 ki_0 ?_
        refine z_bipush zh dX9_tell_34 kb_9 ?_
        refine z_callVIp zh mv_Y_79 dX9_tell_36 ck_Y rfl (c_y_isIn0 g) ⟨Nat.le_of_ble_eq_true rfl, Nat.le_of_ble_eq_true rfl⟩ rfl rfl (Nat.le_of_ble_eq_true rfl) ?_
        refine z_if_ne_B (tgt := 44) zh dX9_tell_39 rfl (fun hp6 => ?_) (fun hp6 => ?_)
        · obtain ⟨jv, hjv, rfl⟩ := id hp6
          refine z_aloadnR zh dX9_tell_44 rfl ?_
          refine z_getf zh fl_Y_7 dX9_tell_45 ck_Y rfl rfl ?_
          refine z_bipush zh dX9_tell_48 kb_34 ?_
          refine z_iloadn zh dX9_tell_50 rfl ?_
          refine z_iaddN zh dX9_tell_51 ?_
          refine z_iload zh dX9_tell_52 rfl ?_
          refine z_iastN zh ck_now dX9_tell_54 (by omega) ?_
          refine z_iconst zh dX9_tell_55 ki_1 ?_
          exact z_zret zh dX9_tell_56 (Or.inr rfl) (⟨_, rfl, (by first | rfl | (simp (decide := true) only [sp_tell, sel_t, sel_f, bi_t, bi_f, sel_same, eq_self, hp1, hp2, hb3, hp6]; done) | (have hz : ∀ k, k < 3 → ¬ w = nI k := fun k hk e => hp2 ⟨k, by omega, e⟩; have h3 : ¬ w = nI 3 := fun e => hp2 ⟨3, by omega, e⟩; have hb3 : ¬ InN 3 w := fun q => hp2 (by obtain ⟨j, hj, e⟩ := q; exact ⟨j, by omega, e⟩); simp (decide := true) only [sp_tell, sel_t, sel_f, bi_t, bi_f, sel_same, hp1, h3, hb3]) | (have hb3 : InN 3 (nI jw) := ⟨jw, by omega, rfl⟩; have h3 : ¬ nI jw = nI 3 := fun e => absurd ((nI_eq (by omega) (by omega)).mp e) (by omega); simp (decide := true) only [sp_tell, sel_t, sel_f, bi_t, bi_f, sel_same, eq_self, hp1, hp2, hb3, hp6, hb3, h3]))⟩)
        · refine z_iconst zh dX9_tell_42 ki_0 ?_
          exact z_zret zh dX9_tell_43 (Or.inl rfl) (⟨_, rfl, (by first | rfl | (simp (decide := true) only [sp_tell, sel_t, sel_f, bi_t, bi_f, sel_same, eq_self, hp1, hp2, hb3, hp6]; done) | (have hz : ∀ k, k < 3 → ¬ w = nI k := fun k hk e => hp2 ⟨k, by omega, e⟩; have h3 : ¬ w = nI 3 := fun e => hp2 ⟨3, by omega, e⟩; have hb3 : ¬ InN 3 w := fun q => hp2 (by obtain ⟨j, hj, e⟩ := q; exact ⟨j, by omega, e⟩); simp (decide := true) only [sp_tell, sel_t, sel_f, bi_t, bi_f, sel_same, hp1, h3, hb3]) | (have hb3 : InN 3 (nI jw) := ⟨jw, by omega, rfl⟩; have h3 : ¬ nI jw = nI 3 := fun e => absurd ((nI_eq (by omega) (by omega)).mp e) (by omega); simp (decide := true) only [sp_tell, sel_t, sel_f, bi_t, bi_f, sel_same, eq_self, hp1, hp2, hb3, hp6, hb3, h3]))⟩)
    · refine z_iconst zh dX9_tell_23 ki_0 ?_
      exact z_zret zh dX9_tell_24 (Or.inl rfl) (⟨_, rfl, (by first | rfl | (simp (decide := true) only [sp_tell, sel_t, sel_f, bi_t, bi_f, sel_same, eq_self, hp1, hp2]; done) | (have hz : ∀ k, k < 3 → ¬ w = nI k := fun k hk e => hp2 ⟨k, by omega, e⟩; have h3 : ¬ w = nI 3 := fun e => hp2 ⟨3, by omega, e⟩; have hb3 : ¬ InN 3 w := fun q => hp2 (by obtain ⟨j, hj, e⟩ := q; exact ⟨j, by omega, e⟩); simp (decide := true) only [sp_tell, sel_t, sel_f, bi_t, bi_f, sel_same, hp1, h3, hb3]) | (have hb3 : InN 3 (nI jw) := ⟨jw, by omega, rfl⟩; have h3 : ¬ nI jw = nI 3 := fun e => absurd ((nI_eq (by omega) (by omega)).mp e) (by omega); simp (decide := true) only [sp_tell, sel_t, sel_f, bi_t, bi_f, sel_same, eq_self, hp1, hp2, hb3, h3]))⟩)
set_option maxRecDepth 20000 in
theorem c_Y_price (g : GE) {x v : Int32} {iv : Iv} {lv : Lv} {dd : Nat → Nat} {dm : Nat}  (hG : OkR dd dm iv lv) : ConI g yX9_price cX9_price 3 (some .boolean) 2 [rf g 551, .int x, .int v] iv lv (fun r _ _ => r = sp2 (InN 6 x) (Rg (nI 1) (nI 9999) v) (nI 1) (nI 0)) := by
  refine con_intro (own := "RollingNetsModel") (by decide +kernel) rfl (Nat.le_of_ble_eq_true rfl) (L0 := [some (rf g 551), some (.int x), some (.int v)]) rfl (fun Z zh => ?_)
  refine z_aloadnR zh dX9_price_0 rfl ?_
  refine z_iconst zh dX9_price_1 ki_0 ?_
  refine z_putI zh fl_Y_58 dX9_price_2 ck_Y rfl rfl (Nat.le_of_ble_eq_true rfl) (Or.inl rfl) ?_
  have hG := okR_wI (k := 551) (j := 0) (x := nI 0) hG (w1_no rfl)
  generalize upI iv (551) (0) (nI 0) = iv at hG ⊢
  refine z_aloadnR zh dX9_price_5 rfl ?_
  refine z_iloadn zh dX9_price_6 rfl ?_
  refine z_callVIp zh mv_Y_94 dX9_price_7 ck_Y rfl (c_y_isIssue g) ⟨Nat.le_of_ble_eq_true rfl, Nat.le_of_ble_eq_true rfl⟩ rfl rfl (Nat.le_of_ble_eq_true rfl) ?_
  refine z_if_eq_B (tgt := 25) zh dX9_price_10 rfl (fun hp1 => ?_) (fun hp1 => ?_)
  · refine z_iconst zh dX9_price_25 ki_0 ?_
    exact z_zret zh dX9_price_26 (Or.inl rfl) (⟨_, rfl, (by first | rfl | simp (decide := true) only [sp2, sel_t, sel_f, selL_t, selL_f, bi_t, bi_f, sel_same, selL_same, eq_self, hp1])⟩)
  · obtain ⟨jx, hjx, rfl⟩ := id hp1
    refine z_aloadnR zh dX9_price_13 rfl ?_
    refine z_iloadn zh dX9_price_14 rfl ?_
    refine z_iconst zh dX9_price_15 ki_1 ?_
    refine z_sipush zh dX9_price_16 ks_9999 ?_
    refine z_callVIp zh mv_Y_79 dX9_price_19 ck_Y rfl (c_y_isIn g) ⟨Nat.le_of_ble_eq_true rfl, Nat.le_of_ble_eq_true rfl⟩ rfl rfl (Nat.le_of_ble_eq_true rfl) ?_
    refine z_if_ne_B (tgt := 27) zh dX9_price_22 rfl (fun hp2 => ?_) (fun hp2 => ?_)
    · obtain ⟨jv, hljv, hhjv, rfl⟩ := Rg_nat (a := 1) (b := 9999) (by omega) (by omega) hp2
      refine z_aloadnR zh dX9_price_27 rfl ?_
      refine z_getf zh fl_Y_7 dX9_price_28 ck_Y rfl rfl ?_
      refine z_bipush zh dX9_price_31 kb_16 ?_
      refine z_iloadn zh dX9_price_33 rfl ?_
      refine z_iaddN zh dX9_price_34 ?_
      refine z_iloadn zh dX9_price_35 rfl ?_
      refine z_bipush zh dX9_price_36 kb_100 ?_
      refine z_isub zh dX9_price_38 ?_
      refine z_iastN zh ck_now dX9_price_39 (by omega) ?_
      refine z_iconst zh dX9_price_40 ki_1 ?_
      exact z_zret zh dX9_price_41 (Or.inr rfl) (⟨_, rfl, (by first | rfl | simp (decide := true) only [sp2, sel_t, sel_f, selL_t, selL_f, bi_t, bi_f, sel_same, selL_same, eq_self, hp1, hp2])⟩)
    · refine z_iconst zh dX9_price_25 ki_0 ?_
      exact z_zret zh dX9_price_26 (Or.inl rfl) (⟨_, rfl, (by first | rfl | simp (decide := true) only [sp2, sel_t, sel_f, selL_t, selL_f, bi_t, bi_f, sel_same, selL_same, eq_self, hp1, hp2])⟩)
set_option maxRecDepth 20000 in
theorem c_Y_dividend (g : GE) {x v : Int32} {iv : Iv} {lv : Lv} {dd : Nat → Nat} {dm : Nat}  (hG : OkR dd dm iv lv) : ConI g yX9_dividend cX9_dividend 3 (some .boolean) 2 [rf g 551, .int x, .int v] iv lv (fun r _ _ => r = sp2 (InN 6 x) (InN 100 v) (nI 1) (nI 0)) := by
  refine con_intro (own := "RollingNetsModel") (by decide +kernel) rfl (Nat.le_of_ble_eq_true rfl) (L0 := [some (rf g 551), some (.int x), some (.int v)]) rfl (fun Z zh => ?_)
  refine z_aloadnR zh dX9_dividend_0 rfl ?_
  refine z_iconst zh dX9_dividend_1 ki_0 ?_
  refine z_putI zh fl_Y_58 dX9_dividend_2 ck_Y rfl rfl (Nat.le_of_ble_eq_true rfl) (Or.inl rfl) ?_
  have hG := okR_wI (k := 551) (j := 0) (x := nI 0) hG (w1_no rfl)
  generalize upI iv (551) (0) (nI 0) = iv at hG ⊢
  refine z_aloadnR zh dX9_dividend_5 rfl ?_
  refine z_iloadn zh dX9_dividend_6 rfl ?_
  refine z_callVIp zh mv_Y_94 dX9_dividend_7 ck_Y rfl (c_y_isIssue g) ⟨Nat.le_of_ble_eq_true rfl, Nat.le_of_ble_eq_true rfl⟩ rfl rfl (Nat.le_of_ble_eq_true rfl) ?_
  refine z_if_eq_B (tgt := 24) zh dX9_dividend_10 rfl (fun hp1 => ?_) (fun hp1 => ?_)
  · refine z_iconst zh dX9_dividend_24 ki_0 ?_
    exact z_zret zh dX9_dividend_25 (Or.inl rfl) (⟨_, rfl, (by first | rfl | simp (decide := true) only [sp2, sel_t, sel_f, selL_t, selL_f, bi_t, bi_f, sel_same, selL_same, eq_self, hp1])⟩)
  · obtain ⟨jx, hjx, rfl⟩ := id hp1
    refine z_aloadnR zh dX9_dividend_13 rfl ?_
    refine z_iloadn zh dX9_dividend_14 rfl ?_
    refine z_iconst zh dX9_dividend_15 ki_0 ?_
    refine z_bipush zh dX9_dividend_16 kb_99 ?_
    refine z_callVIp zh mv_Y_79 dX9_dividend_18 ck_Y rfl (c_y_isIn0 g) ⟨Nat.le_of_ble_eq_true rfl, Nat.le_of_ble_eq_true rfl⟩ rfl rfl (Nat.le_of_ble_eq_true rfl) ?_
    refine z_if_ne_B (tgt := 26) zh dX9_dividend_21 rfl (fun hp2 => ?_) (fun hp2 => ?_)
    · obtain ⟨jv, hjv, rfl⟩ := id hp2
      refine z_aloadnR zh dX9_dividend_26 rfl ?_
      refine z_getf zh fl_Y_7 dX9_dividend_27 ck_Y rfl rfl ?_
      refine z_bipush zh dX9_dividend_30 kb_28 ?_
      refine z_iloadn zh dX9_dividend_32 rfl ?_
      refine z_iaddN zh dX9_dividend_33 ?_
      refine z_iloadn zh dX9_dividend_34 rfl ?_
      refine z_iastN zh ck_now dX9_dividend_35 (by omega) ?_
      refine z_iconst zh dX9_dividend_36 ki_1 ?_
      exact z_zret zh dX9_dividend_37 (Or.inr rfl) (⟨_, rfl, (by first | rfl | simp (decide := true) only [sp2, sel_t, sel_f, selL_t, selL_f, bi_t, bi_f, sel_same, selL_same, eq_self, hp1, hp2])⟩)
    · refine z_iconst zh dX9_dividend_24 ki_0 ?_
      exact z_zret zh dX9_dividend_25 (Or.inl rfl) (⟨_, rfl, (by first | rfl | simp (decide := true) only [sp2, sel_t, sel_f, selL_t, selL_f, bi_t, bi_f, sel_same, selL_same, eq_self, hp1, hp2])⟩)
set_option maxRecDepth 20000 in
theorem c_Y_collateral (g : GE) {x v : Int32} {iv : Iv} {lv : Lv} {dd : Nat → Nat} {dm : Nat}  (hG : OkR dd dm iv lv) : ConI g yX9_collateral cX9_collateral 3 (some .boolean) 3 [rf g 551, .int x, .int v] iv lv (fun r _ _ => r = sp2 (InN 6 x) (InN 10000000 v) (nI 1) (nI 0)) := by
  refine con_intro (own := "RollingNetsModel") (by decide +kernel) rfl (Nat.le_of_ble_eq_true rfl) (L0 := [some (rf g 551), some (.int x), some (.int v)]) rfl (fun Z zh => ?_)
  refine z_aloadnR zh dX9_collateral_0 rfl ?_
  refine z_iconst zh dX9_collateral_1 ki_0 ?_
  refine z_putI zh fl_Y_58 dX9_collateral_2 ck_Y rfl rfl (Nat.le_of_ble_eq_true rfl) (Or.inl rfl) ?_
  have hG := okR_wI (k := 551) (j := 0) (x := nI 0) hG (w1_no rfl)
  generalize upI iv (551) (0) (nI 0) = iv at hG ⊢
  refine z_aloadnR zh dX9_collateral_5 rfl ?_
  refine z_iloadn zh dX9_collateral_6 rfl ?_
  refine z_callVIp zh mv_Y_90 dX9_collateral_7 ck_Y rfl (c_y_isMember g  hG) ⟨Nat.le_of_ble_eq_true rfl, Nat.le_of_ble_eq_true rfl⟩ rfl rfl (Nat.le_of_ble_eq_true rfl) ?_
  refine z_if_eq_B (tgt := 24) zh dX9_collateral_10 rfl (fun hp1 => ?_) (fun hp1 => ?_)
  · refine z_iconst zh dX9_collateral_24 ki_0 ?_
    exact z_zret zh dX9_collateral_25 (Or.inl rfl) (⟨_, rfl, (by first | rfl | simp (decide := true) only [sp2, sel_t, sel_f, selL_t, selL_f, bi_t, bi_f, sel_same, selL_same, eq_self, hp1])⟩)
  · obtain ⟨jx, hjx, rfl⟩ := id hp1
    refine z_aloadnR zh dX9_collateral_13 rfl ?_
    refine z_iloadn zh dX9_collateral_14 rfl ?_
    refine z_iconst zh dX9_collateral_15 ki_0 ?_
    refine z_ldc zh dX9_collateral_16 kc_Y_105 ?_
    refine z_callVIp zh mv_Y_79 dX9_collateral_18 ck_Y rfl (c_y_isIn0 g) ⟨Nat.le_of_ble_eq_true rfl, Nat.le_of_ble_eq_true rfl⟩ rfl rfl (Nat.le_of_ble_eq_true rfl) ?_
    refine z_if_ne_B (tgt := 26) zh dX9_collateral_21 rfl (fun hp2 => ?_) (fun hp2 => ?_)
    · obtain ⟨jv, hjv, rfl⟩ := id hp2
      refine z_aloadnR zh dX9_collateral_26 rfl ?_
      refine z_getf zh fl_Y_7 dX9_collateral_27 ck_Y rfl rfl ?_
      refine z_bipush zh dX9_collateral_30 kb_46 ?_
      refine z_iloadn zh dX9_collateral_32 rfl ?_
      refine z_iaddN zh dX9_collateral_33 ?_
      refine z_iloadn zh dX9_collateral_34 rfl ?_
      refine z_iastN zh ck_now dX9_collateral_35 (by omega) ?_
      refine z_iconst zh dX9_collateral_36 ki_1 ?_
      exact z_zret zh dX9_collateral_37 (Or.inr rfl) (⟨_, rfl, (by first | rfl | simp (decide := true) only [sp2, sel_t, sel_f, selL_t, selL_f, bi_t, bi_f, sel_same, selL_same, eq_self, hp1, hp2])⟩)
    · refine z_iconst zh dX9_collateral_24 ki_0 ?_
      exact z_zret zh dX9_collateral_25 (Or.inl rfl) (⟨_, rfl, (by first | rfl | simp (decide := true) only [sp2, sel_t, sel_f, selL_t, selL_f, bi_t, bi_f, sel_same, selL_same, eq_self, hp1, hp2])⟩)
set_option maxRecDepth 20000 in
theorem c_Y_suspend (g : GE) {x z : Int32} {iv : Iv} {lv : Lv} {dd : Nat → Nat} {dm : Nat}  (hG : OkR dd dm iv lv) : ConI g yX9_suspend cX9_suspend 3 (some .boolean) 3 [rf g 551, .int x, .int z] iv lv (fun r _ _ => r = bi (InN 6 x)) := by
  refine con_intro (own := "RollingNetsModel") (by decide +kernel) rfl (Nat.le_of_ble_eq_true rfl) (L0 := [some (rf g 551), some (.int x), some (.int z)]) rfl (fun Z zh => ?_)
  refine z_aloadnR zh dX9_suspend_0 rfl ?_
  refine z_iconst zh dX9_suspend_1 ki_0 ?_
  refine z_putI zh fl_Y_58 dX9_suspend_2 ck_Y rfl rfl (Nat.le_of_ble_eq_true rfl) (Or.inl rfl) ?_
  have hG := okR_wI (k := 551) (j := 0) (x := nI 0) hG (w1_no rfl)
  generalize upI iv (551) (0) (nI 0) = iv at hG ⊢
  refine z_aloadnR zh dX9_suspend_5 rfl ?_
  refine z_iloadn zh dX9_suspend_6 rfl ?_
  refine z_callVIp zh mv_Y_90 dX9_suspend_7 ck_Y rfl (c_y_isMember g  hG) ⟨Nat.le_of_ble_eq_true rfl, Nat.le_of_ble_eq_true rfl⟩ rfl rfl (Nat.le_of_ble_eq_true rfl) ?_
  refine z_if_ne_B (tgt := 15) zh dX9_suspend_10 rfl (fun hp1 => ?_) (fun hp1 => ?_)
  · obtain ⟨jx, hjx, rfl⟩ := id hp1
    refine z_aloadnR zh dX9_suspend_15 rfl ?_
    refine z_getf zh fl_Y_7 dX9_suspend_16 ck_Y rfl rfl ?_
    refine z_bipush zh dX9_suspend_19 kb_11 ?_
    refine z_iloadn zh dX9_suspend_21 rfl ?_
    refine z_if_eq (tgt := 39) zh dX9_suspend_22 rfl (fun hb2 => ?_) (fun hb2 => ?_)
    · refine z_aloadnR zh dX9_suspend_39 rfl ?_
      refine z_getf zh fl_Y_7 dX9_suspend_40 ck_Y rfl rfl ?_
      refine z_bipush zh dX9_suspend_43 kb_11 ?_
      refine z_ialdE (x := nI 0) zh ck_now dX9_suspend_45 (by decide) (r1_now hG (by decide)) ?_
      refine z_iconst zh dX9_suspend_46 ki_1 ?_
      refine z_iloadn zh dX9_suspend_47 rfl ?_
      refine z_ishl zh dX9_suspend_48 ?_
      refine z_iconst zh dX9_suspend_49 ki_m1 ?_
      refine z_ixor zh dX9_suspend_50 ?_
      refine z_iand zh dX9_suspend_51 ?_
      refine z_iastN zh ck_now dX9_suspend_52 (by decide) ?_
      refine z_iconst zh dX9_suspend_53 ki_1 ?_
      exact z_zret zh dX9_suspend_54 (Or.inr rfl) (⟨_, rfl, (by first | rfl | simp (decide := true) only [sel_t, sel_f, selL_t, selL_f, bi_t, bi_f, sel_same, selL_same, eq_self, hp1, hb2])⟩)
    · refine z_aloadnR zh dX9_suspend_25 rfl ?_
      refine z_getf zh fl_Y_7 dX9_suspend_26 ck_Y rfl rfl ?_
      refine z_bipush zh dX9_suspend_29 kb_11 ?_
      refine z_ialdE (x := nI 0) zh ck_now dX9_suspend_31 (by decide) (r1_now hG (by decide)) ?_
      refine z_iconst zh dX9_suspend_32 ki_1 ?_
      refine z_iloadn zh dX9_suspend_33 rfl ?_
      refine z_ishl zh dX9_suspend_34 ?_
      refine z_ior zh dX9_suspend_35 ?_
      refine z_goto (tgt := 52) zh dX9_suspend_36 rfl ?_
      refine z_iastN zh ck_now dX9_suspend_52 (by decide) ?_
      refine z_iconst zh dX9_suspend_53 ki_1 ?_
      exact z_zret zh dX9_suspend_54 (Or.inr rfl) (⟨_, rfl, (by first | rfl | simp (decide := true) only [sel_t, sel_f, selL_t, selL_f, bi_t, bi_f, sel_same, selL_same, eq_self, hp1, hb2])⟩)
  · refine z_iconst zh dX9_suspend_13 ki_0 ?_
    exact z_zret zh dX9_suspend_14 (Or.inl rfl) (⟨_, rfl, (by first | rfl | simp (decide := true) only [sel_t, sel_f, selL_t, selL_f, bi_t, bi_f, sel_same, selL_same, eq_self, hp1])⟩)
set_option maxRecDepth 20000 in
theorem c_Y_move (g : GE) {x y z n : Int32} {iv : Iv} {lv : Lv} {dd : Nat → Nat} {dm : Nat}  (hG : OkR dd dm iv lv) : ConI g yX9_move cX9_move 5 (some .boolean) 4 [rf g 551, .int x, .int y, .int z, .int n] iv lv (fun r _ _ => r = nI 0) := by
  refine con_intro (own := "RollingNetsModel") (by decide +kernel) rfl (Nat.le_of_ble_eq_true rfl) (L0 := [some (rf g 551), some (.int x), some (.int y), some (.int z), some (.int n)]) rfl (fun Z zh => ?_)
  refine z_aloadnR zh dX9_move_0 rfl ?_
  refine z_iconst zh dX9_move_1 ki_0 ?_
  refine z_putI zh fl_Y_58 dX9_move_2 ck_Y rfl rfl (Nat.le_of_ble_eq_true rfl) (Or.inl rfl) ?_
  have hG := okR_wI (k := 551) (j := 0) (x := nI 0) hG (w1_no rfl)
  generalize upI iv (551) (0) (nI 0) = iv at hG ⊢
  refine z_aloadnR zh dX9_move_5 rfl ?_
  refine z_iloadn zh dX9_move_6 rfl ?_
  refine z_callVIp zh mv_Y_90 dX9_move_7 ck_Y rfl (c_y_isMember g  hG) ⟨Nat.le_of_ble_eq_true rfl, Nat.le_of_ble_eq_true rfl⟩ rfl rfl (Nat.le_of_ble_eq_true rfl) ?_
  refine z_if_eq_B (tgt := 51) zh dX9_move_10 rfl (fun hp1 => ?_) (fun hp1 => ?_)
  · refine z_iconst zh dX9_move_51 ki_0 ?_
    exact z_zret zh dX9_move_52 (Or.inl rfl) (⟨_, rfl, rfl⟩)
  · obtain ⟨jx, hjx, rfl⟩ := id hp1
    refine z_aloadnR zh dX9_move_13 rfl ?_
    refine z_iloadn zh dX9_move_14 rfl ?_
    refine z_callVIp zh mv_Y_90 dX9_move_15 ck_Y rfl (c_y_isMember g  hG) ⟨Nat.le_of_ble_eq_true rfl, Nat.le_of_ble_eq_true rfl⟩ rfl rfl (Nat.le_of_ble_eq_true rfl) ?_
    refine z_if_eq_B (tgt := 51) zh dX9_move_18 rfl (fun hp2 => ?_) (fun hp2 => ?_)
    · refine z_iconst zh dX9_move_51 ki_0 ?_
      exact z_zret zh dX9_move_52 (Or.inl rfl) (⟨_, rfl, rfl⟩)
    · obtain ⟨jy, hjy, rfl⟩ := id hp2
      refine z_iloadn zh dX9_move_21 rfl ?_
      refine z_iloadn zh dX9_move_22 rfl ?_
      refine z_icmp_eq_N (tgt := 51) zh (by omega) (by omega) dX9_move_23 rfl (fun hb3 => ?_) (fun hb3 => ?_)
      · have hb3N : nI jx = nI jy := by rw [hb3]
        refine z_iconst zh dX9_move_51 ki_0 ?_
        exact z_zret zh dX9_move_52 (Or.inl rfl) (⟨_, rfl, rfl⟩)
      · have hb3N : ¬ nI jx = nI jy := fun e => hb3 ((nI_eq (by omega) (by omega)).mp e)
        refine z_aloadnR zh dX9_move_26 rfl ?_
        refine z_iloadn zh dX9_move_27 rfl ?_
        refine z_callVIp zh mv_Y_94 dX9_move_28 ck_Y rfl (c_y_isIssue g) ⟨Nat.le_of_ble_eq_true rfl, Nat.le_of_ble_eq_true rfl⟩ rfl rfl (Nat.le_of_ble_eq_true rfl) ?_
        refine z_if_eq_B (tgt := 51) zh dX9_move_31 rfl (fun hp4 => ?_) (fun hp4 => ?_)
        · refine z_iconst zh dX9_move_51 ki_0 ?_
          exact z_zret zh dX9_move_52 (Or.inl rfl) (⟨_, rfl, rfl⟩)
        · obtain ⟨jz, hjz, rfl⟩ := id hp4
          refine z_iload zh dX9_move_34 rfl ?_
          refine z_iconst zh dX9_move_36 ki_1 ?_
          refine z_icmp_lt (tgt := 51) zh dX9_move_37 rfl (fun hb5 => ?_) (fun hb5 => ?_)
          · refine z_iconst zh dX9_move_51 ki_0 ?_
            exact z_zret zh dX9_move_52 (Or.inl rfl) (⟨_, rfl, rfl⟩)
          · refine z_iload zh dX9_move_40 rfl ?_
            refine z_aloadnR zh dX9_move_42 rfl ?_
            refine z_iloadn zh dX9_move_43 rfl ?_
            refine z_iloadn zh dX9_move_44 rfl ?_
            refine z_callVIp zh mv_Y_98 dX9_move_45 ck_Y rfl (c_y_freeOf g (by omega) hjz hG) ⟨Nat.le_of_ble_eq_true rfl, Nat.le_of_ble_eq_true rfl⟩ rfl rfl (Nat.le_of_ble_eq_true rfl) ?_
            refine z_icmp_le (tgt := 53) zh dX9_move_48 rfl (fun q => absurd q (by rw [Int32.le_iff_toInt_le]; rw [Int32.lt_iff_toInt_lt] at hb5; have e0 : (nI 0).toInt = 0 := (by decide); have e1 : (nI 1).toInt = 1 := (by decide); omega)) (fun _ => ?_)
            refine z_iconst zh dX9_move_51 ki_0 ?_
            exact z_zret zh dX9_move_52 (Or.inl rfl) (⟨_, rfl, rfl⟩)
set_option maxRecDepth 20000 in
theorem c_Y_give (g : GE) {x y z : Int32} {iv : Iv} {lv : Lv} {dd : Nat → Nat} {dm : Nat}  (hG : OkR dd dm iv lv) : ConI g yX9_give cX9_give 10 (some .int) 4 [rf g 551, .int x, .int y, .int z] iv lv (fun r _ _ => r = (-1)) := by
  refine con_intro (own := "RollingNetsModel") (by decide +kernel) rfl (Nat.le_of_ble_eq_true rfl) (L0 := [some (rf g 551), some (.int x), some (.int y), some (.int z), none, none, none, none, none, none]) rfl (fun Z zh => ?_)
  refine z_aloadnR zh dX9_give_0 rfl ?_
  refine z_iconst zh dX9_give_1 ki_0 ?_
  refine z_putI zh fl_Y_58 dX9_give_2 ck_Y rfl rfl (Nat.le_of_ble_eq_true rfl) (Or.inl rfl) ?_
  have hG := okR_wI (k := 551) (j := 0) (x := nI 0) hG (w1_no rfl)
  generalize upI iv (551) (0) (nI 0) = iv at hG ⊢
  refine z_aloadnR zh dX9_give_5 rfl ?_
  refine z_iloadn zh dX9_give_6 rfl ?_
  refine z_callVIp zh mv_Y_90 dX9_give_7 ck_Y rfl (c_y_isMember g  hG) ⟨Nat.le_of_ble_eq_true rfl, Nat.le_of_ble_eq_true rfl⟩ rfl rfl (Nat.le_of_ble_eq_true rfl) ?_
  refine z_if_eq_B (tgt := 57) zh dX9_give_10 rfl (fun hp1 => ?_) (fun hp1 => ?_)
  · refine z_iconst zh dX9_give_57 ki_m1 ?_
    exact z_iret zh dX9_give_58 (⟨_, rfl, rfl⟩)
  · obtain ⟨jx, hjx, rfl⟩ := id hp1
    refine z_aloadnR zh dX9_give_13 rfl ?_
    refine z_iloadn zh dX9_give_14 rfl ?_
    refine z_callVIp zh mv_Y_94 dX9_give_15 ck_Y rfl (c_y_isIssue g) ⟨Nat.le_of_ble_eq_true rfl, Nat.le_of_ble_eq_true rfl⟩ rfl rfl (Nat.le_of_ble_eq_true rfl) ?_
    refine z_if_eq_B (tgt := 57) zh dX9_give_18 rfl (fun hp2 => ?_) (fun hp2 => ?_)
    · refine z_iconst zh dX9_give_57 ki_m1 ?_
      exact z_iret zh dX9_give_58 (⟨_, rfl, rfl⟩)
    · obtain ⟨jy, hjy, rfl⟩ := id hp2
      refine z_aloadnR zh dX9_give_21 rfl ?_
      refine z_iloadn zh dX9_give_22 rfl ?_
      refine z_iconst zh dX9_give_23 ki_1 ?_
      refine z_aloadnR zh dX9_give_24 rfl ?_
      refine z_iloadn zh dX9_give_25 rfl ?_
      refine z_iloadn zh dX9_give_26 rfl ?_
      refine z_callVIp zh mv_Y_169 dX9_give_27 ck_Y rfl (c_y_oldLong g (by omega) hjy hG) ⟨Nat.le_of_ble_eq_true rfl, Nat.le_of_ble_eq_true rfl⟩ rfl rfl (Nat.le_of_ble_eq_true rfl) ?_
      refine z_callVIp zh mv_Y_79 dX9_give_30 ck_Y rfl (c_y_isInE g) ⟨Nat.le_of_ble_eq_true rfl, Nat.le_of_ble_eq_true rfl⟩ rfl rfl (Nat.le_of_ble_eq_true rfl) ?_
      refine z_if_eq_N (tgt := 57) zh (by decide) dX9_give_33 rfl (fun _ => ?_) (fun q => absurd q (by decide))
      refine z_iconst zh dX9_give_57 ki_m1 ?_
      exact z_iret zh dX9_give_58 (⟨_, rfl, rfl⟩)
set_option maxRecDepth 20000 in
theorem c_Y_call (g : GE) {x : Int32} {iv : Iv} {lv : Lv} {dd : Nat → Nat} {dm : Nat}  (hG : OkR dd dm iv lv) : ConI g yX9_call cX9_call 2 (some .int) 3 [rf g 551, .int x] iv lv (fun r _ _ => r = (-1)) := by
  refine con_intro (own := "RollingNetsModel") (by decide +kernel) rfl (Nat.le_of_ble_eq_true rfl) (L0 := [some (rf g 551), some (.int x)]) rfl (fun Z zh => ?_)
  refine z_aloadnR zh dX9_call_0 rfl ?_
  refine z_iconst zh dX9_call_1 ki_0 ?_
  refine z_putI zh fl_Y_58 dX9_call_2 ck_Y rfl rfl (Nat.le_of_ble_eq_true rfl) (Or.inl rfl) ?_
  have hG := okR_wI (k := 551) (j := 0) (x := nI 0) hG (w1_no rfl)
  generalize upI iv (551) (0) (nI 0) = iv at hG ⊢
  refine z_aloadnR zh dX9_call_5 rfl ?_
  refine z_iloadn zh dX9_call_6 rfl ?_
  refine z_callVIp zh mv_Y_191 dX9_call_7 ck_Y rfl (c_y_isOpenApart g  hG) ⟨Nat.le_of_ble_eq_true rfl, Nat.le_of_ble_eq_true rfl⟩ rfl rfl (Nat.le_of_ble_eq_true rfl) ?_
  refine z_if_eq_N (tgt := 56) zh (by decide) dX9_call_10 rfl (fun _ => ?_) (fun q => absurd q (by decide))
  refine z_iconst zh dX9_call_56 ki_m1 ?_
  exact z_iret zh dX9_call_57 (⟨_, rfl, rfl⟩)
set_option maxRecDepth 20000 in
theorem c_Y_reached (g : GE) {x w : Int32} {iv : Iv} {lv : Lv} {dd : Nat → Nat} {dm : Nat}  (hG : OkR dd dm iv lv) : ConI g yX9_reached cX9_reached 3 (some .int) 3 [rf g 551, .int x, .int w] iv lv (fun r _ _ => r = (-1)) := by
  refine con_intro (own := "RollingNetsModel") (by decide +kernel) rfl (Nat.le_of_ble_eq_true rfl) (L0 := [some (rf g 551), some (.int x), some (.int w)]) rfl (fun Z zh => ?_)
  refine z_aloadnR zh dX9_reached_0 rfl ?_
  refine z_iconst zh dX9_reached_1 ki_0 ?_
  refine z_putI zh fl_Y_58 dX9_reached_2 ck_Y rfl rfl (Nat.le_of_ble_eq_true rfl) (Or.inl rfl) ?_
  have hG := okR_wI (k := 551) (j := 0) (x := nI 0) hG (w1_no rfl)
  generalize upI iv (551) (0) (nI 0) = iv at hG ⊢
  refine z_aloadnR zh dX9_reached_5 rfl ?_
  refine z_iloadn zh dX9_reached_6 rfl ?_
  refine z_callVIp zh mv_Y_191 dX9_reached_7 ck_Y rfl (c_y_isOpenApart g  hG) ⟨Nat.le_of_ble_eq_true rfl, Nat.le_of_ble_eq_true rfl⟩ rfl rfl (Nat.le_of_ble_eq_true rfl) ?_
  refine z_if_eq_N (tgt := 23) zh (by decide) dX9_reached_10 rfl (fun _ => ?_) (fun q => absurd q (by decide))
  refine z_iconst zh dX9_reached_23 ki_m1 ?_
  exact z_iret zh dX9_reached_24 (⟨_, rfl, rfl⟩)
set_option maxRecDepth 20000 in
theorem c_y_delivers (g : GE) {i : Nat} {iv : Iv} {lv : Lv} {dd : Nat → Nat} {dm : Nat} (hi : i < 6) (hG : OkR dd dm iv lv) : ConV g yX9_delivers cX9_delivers 4 none 4 [rf g 551, .int (nI i)] iv lv (fun iv lv => OkR dd dm iv lv) := by
  refine con_intro (own := "RollingNetsModel") (by decide +kernel) rfl (Nat.le_of_ble_eq_true rfl) (L0 := [some (rf g 551), some (.int (nI i)), none, none]) rfl (fun Z zh => ?_)
  refine z_aloadnR zh dX9_delivers_0 rfl ?_
  refine z_iconst zh dX9_delivers_1 ki_0 ?_
  refine z_putI zh fl_Y_250 dX9_delivers_2 ck_Y rfl rfl (Nat.le_of_ble_eq_true rfl) (Or.inl rfl) ?_
  have hG := okR_wI (k := 551) (j := 14) (x := nI 0) hG (w1_eq rfl)
  generalize upI iv (551) (14) (nI 0) = iv at hG ⊢
  refine z_iconst zh dX9_delivers_5 ki_0 ?_
  refine z_istoren zh dX9_delivers_6 (by decide) (L' := [some (rf g 551), some (.int (nI i)), some (.int (nI 0)), none]) rfl ?_
  have hl7 : ∀ (n k7 : Nat) (iv : Iv) (lv : Lv), OkR dd dm iv lv → (∀ j, j < k7 → iv 560 j = nI 1) → k7 ≤ 12 → 12 - k7 < n → Z 7 [some (rf g 551), some (.int (nI i)), some (.int (nI k7)), none] [] iv lv := by
    intro n
    induction n with
    | zero => intro k7 iv lv _ _ _ hn; exact absurd hn (Nat.not_lt_zero _)
    | succ n ih7 =>
      intro k7 iv lv hG hD hk7 hn7
      refine z_iloadn zh dX9_delivers_7 rfl ?_
      refine z_bipush zh dX9_delivers_8 kb_12 ?_
      refine z_icmp_ge_N (tgt := 47) zh (by omega) (by decide) dX9_delivers_10 rfl (fun hb1 => ?_) (fun hb1 => ?_)
      · refine z_iconst zh dX9_delivers_47 ki_0 ?_
        refine z_istoren zh dX9_delivers_48 (by decide) (L' := [some (rf g 551), some (.int (nI i)), some (.int (nI 0)), none]) rfl ?_
        refine z_iloadn zh dX9_delivers_49 rfl ?_
        refine z_iconst zh dX9_delivers_50 ki_m1 ?_
        refine z_icmp_eq (tgt := 127) zh dX9_delivers_51 rfl (fun q => absurd q (nI_nm1 (by decide))) (fun _ => ?_)
        refine z_iconst zh dX9_delivers_54 ki_m1 ?_
        refine z_istoren zh dX9_delivers_55 (by decide) (L' := [some (rf g 551), some (.int (nI i)), some (.int (-1)), none]) rfl ?_
        refine z_iconst zh dX9_delivers_56 ki_0 ?_
        refine z_istoren zh dX9_delivers_57 (by decide) (L' := [some (rf g 551), some (.int (nI i)), some (.int (-1)), some (.int (nI 0))]) rfl ?_
        have hl58 : ∀ (n k58 : Nat), k58 ≤ 6 → 6 - k58 < n → Z 58 [some (rf g 551), some (.int (nI i)), some (.int (-1)), some (.int (nI k58))] [] iv lv := by
          intro n
          induction n with
          | zero => intro k58 _ hn; exact absurd hn (Nat.not_lt_zero _)
          | succ n ih58 =>
            intro k58 hk58 hn58
            refine z_iloadn zh dX9_delivers_58 rfl ?_
            refine z_aloadnR zh dX9_delivers_59 rfl ?_
            refine z_callVIp zh mv_Y_61 dX9_delivers_60 ck_Y rfl (c_y_memberMany g  hG) ⟨Nat.le_of_ble_eq_true rfl, Nat.le_of_ble_eq_true rfl⟩ rfl rfl (Nat.le_of_ble_eq_true rfl) ?_
            refine z_icmp_ge_N (tgt := 105) zh (by omega) (by decide) dX9_delivers_63 rfl (fun hb2 => ?_) (fun hb2 => ?_)
            · refine z_iloadn zh dX9_delivers_105 rfl ?_
              refine z_iconst zh dX9_delivers_106 ki_m1 ?_
              refine z_icmp_ne (tgt := 111) zh dX9_delivers_107 rfl (fun q => absurd rfl q) (fun _ => ?_)
              exact z_vret zh dX9_delivers_110 (⟨rfl, hG⟩)
            · refine z_aloadnR zh dX9_delivers_66 rfl ?_
              refine z_getf zh fl_Y_35 dX9_delivers_67 ck_Y rfl rfl ?_
              refine z_iloadn zh dX9_delivers_70 rfl ?_
              refine z_zaldE (x := nI 1) zh ck_did dX9_delivers_71 (by omega) (hD k58 (by omega)) ?_
              refine z_if_ne_N (tgt := 99) zh (by decide) dX9_delivers_72 rfl (fun _ => ?_) (fun q => absurd q (by decide))
              refine z_iincN zh dX9_delivers_99 ki_1 (by decide) rfl (L' := [some (rf g 551), some (.int (nI i)), some (.int (-1)), some (.int (nI (k58 + 1)))]) rfl ?_
              refine z_goto (tgt := 58) zh dX9_delivers_102 rfl ?_
              exact ih58 (k58 + 1) (by omega) (by omega)
        exact hl58 7 0 (by omega) (by omega)
      · refine z_aloadnR zh dX9_delivers_13 rfl ?_
        refine z_getf zh fl_Y_35 dX9_delivers_14 ck_Y rfl rfl ?_
        refine z_iloadn zh dX9_delivers_17 rfl ?_
        refine z_iloadn zh dX9_delivers_18 rfl ?_
        refine z_aloadnR zh dX9_delivers_19 rfl ?_
        refine z_callVIp zh mv_Y_61 dX9_delivers_20 ck_Y rfl (c_y_memberMany g  hG) ⟨Nat.le_of_ble_eq_true rfl, Nat.le_of_ble_eq_true rfl⟩ rfl rfl (Nat.le_of_ble_eq_true rfl) ?_
        refine z_icmp_ge_N (tgt := 35) zh (by omega) (by decide) dX9_delivers_23 rfl (fun hb3 => ?_) (fun hb3 => ?_)
        · refine z_iconst zh dX9_delivers_35 ki_1 ?_
          refine z_goto (tgt := 40) zh dX9_delivers_36 rfl ?_
          refine z_zastN zh ck_did dX9_delivers_40 (by omega) ?_
          have hD : ∀ j, j < k7 + 1 → upI iv 560 k7 (vp_nar .boolean (nI 1)) 560 j = nI 1 := fun j hj => did_w hD hj
          have hG := okR_wI (k := 560) (j := k7) (x := vp_nar .boolean (nI 1)) hG (w1_no rfl)
          generalize upI iv (560) (k7) (vp_nar .boolean (nI 1)) = iv at hG hD ⊢
          refine z_iincN zh dX9_delivers_41 ki_1 (by decide) rfl (L' := [some (rf g 551), some (.int (nI i)), some (.int (nI (k7 + 1))), none]) rfl ?_
          refine z_goto (tgt := 7) zh dX9_delivers_44 rfl ?_
          exact ih7 (k7 + 1) iv lv hG hD (by omega) (by omega)
        · refine z_aloadnR zh dX9_delivers_26 rfl ?_
          refine z_iloadn zh dX9_delivers_27 rfl ?_
          refine z_iloadn zh dX9_delivers_28 rfl ?_
          refine z_callVIp zh mv_Y_116 dX9_delivers_29 ck_Y rfl (c_y_isShort g (by omega) hi hG) ⟨Nat.le_of_ble_eq_true rfl, Nat.le_of_ble_eq_true rfl⟩ rfl rfl (Nat.le_of_ble_eq_true rfl) ?_
          refine z_if_ne_N (tgt := 39) zh (by decide) dX9_delivers_32 rfl (fun q => absurd q (by decide)) (fun _ => ?_)
          refine z_iconst zh dX9_delivers_35 ki_1 ?_
          refine z_goto (tgt := 40) zh dX9_delivers_36 rfl ?_
          refine z_zastN zh ck_did dX9_delivers_40 (by omega) ?_
          have hD : ∀ j, j < k7 + 1 → upI iv 560 k7 (vp_nar .boolean (nI 1)) 560 j = nI 1 := fun j hj => did_w hD hj
          have hG := okR_wI (k := 560) (j := k7) (x := vp_nar .boolean (nI 1)) hG (w1_no rfl)
          generalize upI iv (560) (k7) (vp_nar .boolean (nI 1)) = iv at hG hD ⊢
          refine z_iincN zh dX9_delivers_41 ki_1 (by decide) rfl (L' := [some (rf g 551), some (.int (nI i)), some (.int (nI (k7 + 1))), none]) rfl ?_
          refine z_goto (tgt := 7) zh dX9_delivers_44 rfl ?_
          exact ih7 (k7 + 1) iv lv hG hD (by omega) (by omega)
  exact hl7 13 0 iv lv hG (fun j hj => absurd hj (Nat.not_lt_zero _)) (by omega) (by omega)
set_option maxRecDepth 20000 in
theorem c_y_goesNight (g : GE)  {iv : Iv} {lv : Lv} {dd : Nat → Nat} {dm : Nat}  (hG : OkR dd dm iv lv) : ConV g yX9_goesNight cX9_goesNight 3 none 6 [rf g 551] iv lv (fun iv lv => OkR dd (dm + 1) iv lv) := by
  refine con_intro (own := "RollingNetsModel") (by decide +kernel) rfl (Nat.le_of_ble_eq_true rfl) (L0 := [some (rf g 551), none, none]) rfl (fun Z zh => ?_)
  refine z_iconst zh dX9_goesNight_0 ki_0 ?_
  refine z_istoren zh dX9_goesNight_1 (by decide) (L' := [some (rf g 551), some (.int (nI 0)), none]) rfl ?_
  have hl2 : ∀ (n k2 : Nat) (iv : Iv) (lv : Lv), OkR dd dm iv lv → k2 ≤ 6 → 6 - k2 < n → Z 2 [some (rf g 551), some (.int (nI k2)), none] [] iv lv := by
    intro n
    induction n with
    | zero => intro k2 iv lv _ _ hn; exact absurd hn (Nat.not_lt_zero _)
    | succ n ih2 =>
      intro k2 iv lv hG hk2 hn2
      refine z_iloadn zh dX9_goesNight_2 rfl ?_
      refine z_bipush zh dX9_goesNight_3 kb_6 ?_
      refine z_icmp_ge_N (tgt := 104) zh (by omega) (by decide) dX9_goesNight_5 rfl (fun hb1 => ?_) (fun hb1 => ?_)
      · refine z_aloadnR zh dX9_goesNight_104 rfl ?_
        refine z_getf zh fl_Y_7 dX9_goesNight_105 ck_Y rfl rfl ?_
        refine z_bipush zh dX9_goesNight_108 kb_6 ?_
        refine z_aloadnR zh dX9_goesNight_110 rfl ?_
        refine z_getf zh fl_Y_7 dX9_goesNight_111 ck_Y rfl rfl ?_
        refine z_bipush zh dX9_goesNight_114 kb_6 ?_
        refine z_ialdE (x := nI dm) zh ck_now dX9_goesNight_116 (by decide) (r1_DAY hG) ?_
        refine z_iconst zh dX9_goesNight_117 ki_1 ?_
        refine z_iaddN zh dX9_goesNight_118 ?_
        refine z_iastN zh ck_now dX9_goesNight_119 (by decide) ?_
        have hG := okR_DAY hG
        generalize upI iv 552 6 (nI (dm + 1)) = iv at hG ⊢
        exact z_vret zh dX9_goesNight_120 (⟨rfl, hG⟩)
      · refine z_aloadnR zh dX9_goesNight_8 rfl ?_
        refine z_iloadn zh dX9_goesNight_9 rfl ?_
        refine z_callVV zh mv_Y_282 dX9_goesNight_10 ck_Y rfl (c_y_nets g (by omega) hG) ⟨Nat.le_of_ble_eq_true rfl, Nat.le_of_ble_eq_true rfl⟩ rfl rfl (Nat.le_of_ble_eq_true rfl) ?_
        rintro iv lv hG
        refine z_aloadnR zh dX9_goesNight_13 rfl ?_
        refine z_iloadn zh dX9_goesNight_14 rfl ?_
        refine z_callVV zh mv_Y_285 dX9_goesNight_15 ck_Y rfl (c_y_delivers g (by omega) hG) ⟨Nat.le_of_ble_eq_true rfl, Nat.le_of_ble_eq_true rfl⟩ rfl rfl (Nat.le_of_ble_eq_true rfl) ?_
        rintro iv lv hG
        refine z_aloadnR zh dX9_goesNight_18 rfl ?_
        refine z_iloadn zh dX9_goesNight_19 rfl ?_
        refine z_callVV zh mv_Y_288 dX9_goesNight_20 ck_Y rfl (c_y_allots g (by omega) hG) ⟨Nat.le_of_ble_eq_true rfl, Nat.le_of_ble_eq_true rfl⟩ rfl rfl (Nat.le_of_ble_eq_true rfl) ?_
        rintro iv lv hG
        refine z_aloadnR zh dX9_goesNight_23 rfl ?_
        refine z_iloadn zh dX9_goesNight_24 rfl ?_
        refine z_callVV zh mv_Y_291 dX9_goesNight_25 ck_Y rfl (c_y_lends g (by omega) hG) ⟨Nat.le_of_ble_eq_true rfl, Nat.le_of_ble_eq_true rfl⟩ rfl rfl (Nat.le_of_ble_eq_true rfl) ?_
        rintro iv lv hG
        refine z_aloadnR zh dX9_goesNight_28 rfl ?_
        refine z_iloadn zh dX9_goesNight_29 rfl ?_
        refine z_callVV zh mv_Y_294 dX9_goesNight_30 ck_Y rfl (c_y_doesApart g (by omega) hG) ⟨Nat.le_of_ble_eq_true rfl, Nat.le_of_ble_eq_true rfl⟩ rfl rfl (Nat.le_of_ble_eq_true rfl) ?_
        rintro iv lv hG
        refine z_iconst zh dX9_goesNight_33 ki_0 ?_
        refine z_istoren zh dX9_goesNight_34 (by decide) (L' := [some (rf g 551), some (.int (nI k2)), some (.int (nI 0))]) rfl ?_
        refine z_iloadn zh dX9_goesNight_35 rfl ?_
        refine z_aloadnR zh dX9_goesNight_36 rfl ?_
        refine z_getf zh fl_Y_7 dX9_goesNight_37 ck_Y rfl rfl ?_
        refine z_bipush zh dX9_goesNight_40 kb_8 ?_
        refine z_ialdE (x := nI 0) zh ck_now dX9_goesNight_42 (by decide) (r1_now hG (by decide)) ?_
        refine z_icmp_ge_N (tgt := 93) zh (by decide) (by decide) dX9_goesNight_43 rfl (fun _ => ?_) (fun q => absurd q (by decide))
        refine z_aloadnR zh dX9_goesNight_93 rfl ?_
        refine z_iloadn zh dX9_goesNight_94 rfl ?_
        refine z_callVV zh mv_Y_300 dX9_goesNight_95 ck_Y rfl (c_y_marks g (by omega) hG) ⟨Nat.le_of_ble_eq_true rfl, Nat.le_of_ble_eq_true rfl⟩ rfl rfl (Nat.le_of_ble_eq_true rfl) ?_
        rintro iv lv hG
        refine z_iincN zh dX9_goesNight_98 ki_1 (by decide) rfl (L' := [some (rf g 551), some (.int (nI (k2 + 1))), some (.int (nI 0))]) rfl ?_
        refine z_goto (tgt := 2) zh dX9_goesNight_101 rfl ?_
        refine z_forget zh [true, true, false] (L2 := [some (rf g 551), some (.int (nI (k2 + 1))), none]) rfl ?_; exact ih2 (k2 + 1) iv lv hG (by omega) (by omega)
  exact hl2 7 0 iv lv hG (by omega) (by omega)
set_option maxRecDepth 20000 in
theorem c_Y_night (g : GE) {x : Int32} {iv : Iv} {lv : Lv} {dd : Nat → Nat} {dm : Nat}  (hG : OkR dd 0 iv lv) : ConI g yX9_night cX9_night 3 (some .int) 7 [rf g 551, .int x] iv lv (fun r _ _ => r = sel (Rg (nI 1) (nI 20) x) x (-1)) := by
  refine con_intro (own := "RollingNetsModel") (by decide +kernel) rfl (Nat.le_of_ble_eq_true rfl) (L0 := [some (rf g 551), some (.int x), none]) rfl (fun Z zh => ?_)
  refine z_aloadnR zh dX9_night_0 rfl ?_
  refine z_iconst zh dX9_night_1 ki_0 ?_
  refine z_putI zh fl_Y_58 dX9_night_2 ck_Y rfl rfl (Nat.le_of_ble_eq_true rfl) (Or.inl rfl) ?_
  have hG := okR_wI (k := 551) (j := 0) (x := nI 0) hG (w1_no rfl)
  generalize upI iv (551) (0) (nI 0) = iv at hG ⊢
  refine z_aloadnR zh dX9_night_5 rfl ?_
  refine z_iloadn zh dX9_night_6 rfl ?_
  refine z_iconst zh dX9_night_7 ki_1 ?_
  refine z_bipush zh dX9_night_8 kb_20 ?_
  refine z_callVIp zh mv_Y_79 dX9_night_10 ck_Y rfl (c_y_isIn g) ⟨Nat.le_of_ble_eq_true rfl, Nat.le_of_ble_eq_true rfl⟩ rfl rfl (Nat.le_of_ble_eq_true rfl) ?_
  refine z_if_eq_B (tgt := 28) zh dX9_night_13 rfl (fun hp1 => ?_) (fun hp1 => ?_)
  · refine z_iconst zh dX9_night_28 ki_m1 ?_
    exact z_iret zh dX9_night_29 (⟨_, rfl, (by rw [sel_f hp1])⟩)
  · obtain ⟨jx, hljx, hhjx, rfl⟩ := Rg_nat (a := 1) (b := 20) (by omega) (by omega) hp1
    refine z_aloadnR zh dX9_night_16 rfl ?_
    refine z_getf zh fl_Y_7 dX9_night_17 ck_Y rfl rfl ?_
    refine z_bipush zh dX9_night_20 kb_6 ?_
    refine z_ialdE (x := nI 0) zh ck_now dX9_night_22 (by decide) (r1_DAY hG) ?_
    refine z_bipush zh dX9_night_23 kb_99 ?_
    refine z_icmp_ne_N (tgt := 30) zh (by decide) (by decide) dX9_night_25 rfl (fun _ => ?_) (fun q => absurd q (by decide))
    refine z_iconst zh dX9_night_30 ki_0 ?_
    refine z_istoren zh dX9_night_31 (by decide) (L' := [some (rf g 551), some (.int (nI jx)), some (.int (nI 0))]) rfl ?_
    have hl32 : ∀ (q k32 : Nat) (iv : Iv) (lv : Lv), OkR dd k32 iv lv → k32 ≤ jx → jx - k32 < q → Z 32 [some (rf g 551), some (.int (nI jx)), some (.int (nI k32))] [] iv lv := by
      intro q
      induction q with
      | zero => intro k32 iv lv _ _ hn; exact absurd hn (Nat.not_lt_zero _)
      | succ q ih32 =>
        intro k32 iv lv hG hk32 hn32
        refine z_iloadn zh dX9_night_32 rfl ?_
        refine z_iloadn zh dX9_night_33 rfl ?_
        refine z_icmp_ge_N (tgt := 60) zh (by omega) (by omega) dX9_night_34 rfl (fun hb2 => ?_) (fun hb2 => ?_)
        · refine z_iloadn zh dX9_night_60 rfl ?_
          exact z_iret zh dX9_night_61 (⟨_, rfl, (by rw [sel_t hp1, show k32 = jx by omega])⟩)
        · refine z_aloadnR zh dX9_night_37 rfl ?_
          refine z_getf zh fl_Y_7 dX9_night_38 ck_Y rfl rfl ?_
          refine z_bipush zh dX9_night_41 kb_6 ?_
          refine z_ialdE (x := nI k32) zh ck_now dX9_night_43 (by decide) (r1_DAY hG) ?_
          refine z_bipush zh dX9_night_44 kb_99 ?_
          refine z_icmp_ge_N (tgt := 60) zh (by omega) (by decide) dX9_night_46 rfl (fun q => absurd q (by omega)) (fun _ => ?_)
          refine z_aloadnR zh dX9_night_49 rfl ?_
          refine z_callVV zh mv_Y_303 dX9_night_50 ck_Y rfl (c_y_goesNight g hG) ⟨Nat.le_of_ble_eq_true rfl, Nat.le_of_ble_eq_true rfl⟩ rfl rfl (Nat.le_of_ble_eq_true rfl) ?_
          rintro iv lv hG
          refine z_iloadn zh dX9_night_53 rfl ?_
          refine z_iconst zh dX9_night_54 ki_1 ?_
          refine z_iaddN zh dX9_night_55 ?_
          refine z_istoren zh dX9_night_56 (by decide) (L' := [some (rf g 551), some (.int (nI jx)), some (.int (nI (k32 + 1)))]) rfl ?_
          refine z_goto (tgt := 32) zh dX9_night_57 rfl ?_
          exact ih32 (k32 + 1) iv lv hG (by omega) (by omega)
    exact hl32 21 0 iv lv hG (by omega) (by omega)
set_option maxRecDepth 20000 in
theorem c_y_isFinished (g : GE) {x : Int32} {iv : Iv} {lv : Lv} {dd : Nat → Nat} {dm : Nat}  (hG : OkR dd dm iv lv) : ConIp g yX9_isFinished cX9_isFinished 3 (some .boolean) 1 [rf g 551, .int x] iv lv (nI 1) := by
  refine con_intro (own := "RollingNetsModel") (by decide +kernel) rfl (Nat.le_of_ble_eq_true rfl) (L0 := [some (rf g 551), some (.int x), none]) rfl (fun Z zh => ?_)
  refine z_iconst zh dX9_isFinished_0 ki_0 ?_
  refine z_istoren zh dX9_isFinished_1 (by decide) (L' := [some (rf g 551), some (.int x), some (.int (nI 0))]) rfl ?_
  refine z_iloadn zh dX9_isFinished_2 rfl ?_
  refine z_aloadnR zh dX9_isFinished_3 rfl ?_
  refine z_getf zh fl_Y_7 dX9_isFinished_4 ck_Y rfl rfl ?_
  refine z_bipush zh dX9_isFinished_7 kb_7 ?_
  refine z_ialdE (x := nI 0) zh ck_now dX9_isFinished_9 (by decide) (r1_now hG (by decide)) ?_
  refine z_icmp_ge_N (tgt := 41) zh (by decide) (by decide) dX9_isFinished_10 rfl (fun _ => ?_) (fun q => absurd q (by decide))
  refine z_iconst zh dX9_isFinished_41 ki_0 ?_
  refine z_istoren zh dX9_isFinished_42 (by decide) (L' := [some (rf g 551), some (.int x), some (.int (nI 0))]) rfl ?_
  refine z_iloadn zh dX9_isFinished_43 rfl ?_
  refine z_aloadnR zh dX9_isFinished_44 rfl ?_
  refine z_getf zh fl_Y_7 dX9_isFinished_45 ck_Y rfl rfl ?_
  refine z_bipush zh dX9_isFinished_48 kb_8 ?_
  refine z_ialdE (x := nI 0) zh ck_now dX9_isFinished_50 (by decide) (r1_now hG (by decide)) ?_
  refine z_icmp_ge_N (tgt := 82) zh (by decide) (by decide) dX9_isFinished_51 rfl (fun _ => ?_) (fun q => absurd q (by decide))
  refine z_iconst zh dX9_isFinished_82 ki_1 ?_
  exact z_zret zh dX9_isFinished_83 (Or.inr rfl) (qI rfl)
set_option maxRecDepth 20000 in
theorem c_y_canGrow2 (g : GE)  {iv : Iv} {lv : Lv}    : ConIp g yX9_canGrow cX9_canGrow 3 (some .boolean) 2 [rf g 551, .int (nI 0), .int (nI 2)] iv lv (nI 1) := by
  refine con_intro (own := "RollingNetsModel") (by decide +kernel) rfl (Nat.le_of_ble_eq_true rfl) (L0 := [some (rf g 551), some (.int (nI 0)), some (.int (nI 2))]) rfl (fun Z zh => ?_)
  refine z_aloadnR zh dX9_canGrow_0 rfl ?_
  refine z_iloadn zh dX9_canGrow_1 rfl ?_
  refine z_iloadn zh dX9_canGrow_2 rfl ?_
  refine z_ineg zh dX9_canGrow_3 ?_
  rw [show -(nI 0) = nI 0 from by decide]
  refine z_callVIp zh mv_Y_76 dX9_canGrow_4 ck_Y rfl (c_y_greater0 g) ⟨Nat.le_of_ble_eq_true rfl, Nat.le_of_ble_eq_true rfl⟩ rfl rfl (Nat.le_of_ble_eq_true rfl) ?_
  refine z_ldcw zh dX9_canGrow_7 kc_Y_306 ?_
  refine z_iloadn zh dX9_canGrow_10 rfl ?_
  refine z_idiv zh dX9_canGrow_11 (by decide) ?_
  rw [show (nI 99999999) / (nI 2) = nI 49999999 from by decide]
  refine z_icmp_gt_N (tgt := 19) zh (by decide) (by decide) dX9_canGrow_12 rfl (fun q => absurd q (by decide)) (fun _ => ?_)
  refine z_iconst zh dX9_canGrow_15 ki_1 ?_
  refine z_goto (tgt := 20) zh dX9_canGrow_16 rfl ?_
  exact z_zret zh dX9_canGrow_20 (Or.inr rfl) (qI rfl)
set_option maxRecDepth 20000 in
theorem c_y_canGrow3 (g : GE)  {iv : Iv} {lv : Lv}    : ConIp g yX9_canGrow cX9_canGrow 3 (some .boolean) 2 [rf g 551, .int (nI 0), .int (nI 3)] iv lv (nI 1) := by
  refine con_intro (own := "RollingNetsModel") (by decide +kernel) rfl (Nat.le_of_ble_eq_true rfl) (L0 := [some (rf g 551), some (.int (nI 0)), some (.int (nI 3))]) rfl (fun Z zh => ?_)
  refine z_aloadnR zh dX9_canGrow_0 rfl ?_
  refine z_iloadn zh dX9_canGrow_1 rfl ?_
  refine z_iloadn zh dX9_canGrow_2 rfl ?_
  refine z_ineg zh dX9_canGrow_3 ?_
  rw [show -(nI 0) = nI 0 from by decide]
  refine z_callVIp zh mv_Y_76 dX9_canGrow_4 ck_Y rfl (c_y_greater0 g) ⟨Nat.le_of_ble_eq_true rfl, Nat.le_of_ble_eq_true rfl⟩ rfl rfl (Nat.le_of_ble_eq_true rfl) ?_
  refine z_ldcw zh dX9_canGrow_7 kc_Y_306 ?_
  refine z_iloadn zh dX9_canGrow_10 rfl ?_
  refine z_idiv zh dX9_canGrow_11 (by decide) ?_
  rw [show (nI 99999999) / (nI 3) = nI 33333333 from by decide]
  refine z_icmp_gt_N (tgt := 19) zh (by decide) (by decide) dX9_canGrow_12 rfl (fun q => absurd q (by decide)) (fun _ => ?_)
  refine z_iconst zh dX9_canGrow_15 ki_1 ?_
  refine z_goto (tgt := 20) zh dX9_canGrow_16 rfl ?_
  exact z_zret zh dX9_canGrow_20 (Or.inr rfl) (qI rfl)
set_option maxRecDepth 20000 in
theorem c_y_canGrow4 (g : GE)  {iv : Iv} {lv : Lv}    : ConIp g yX9_canGrow cX9_canGrow 3 (some .boolean) 2 [rf g 551, .int (nI 0), .int (nI 4)] iv lv (nI 1) := by
  refine con_intro (own := "RollingNetsModel") (by decide +kernel) rfl (Nat.le_of_ble_eq_true rfl) (L0 := [some (rf g 551), some (.int (nI 0)), some (.int (nI 4))]) rfl (fun Z zh => ?_)
  refine z_aloadnR zh dX9_canGrow_0 rfl ?_
  refine z_iloadn zh dX9_canGrow_1 rfl ?_
  refine z_iloadn zh dX9_canGrow_2 rfl ?_
  refine z_ineg zh dX9_canGrow_3 ?_
  rw [show -(nI 0) = nI 0 from by decide]
  refine z_callVIp zh mv_Y_76 dX9_canGrow_4 ck_Y rfl (c_y_greater0 g) ⟨Nat.le_of_ble_eq_true rfl, Nat.le_of_ble_eq_true rfl⟩ rfl rfl (Nat.le_of_ble_eq_true rfl) ?_
  refine z_ldcw zh dX9_canGrow_7 kc_Y_306 ?_
  refine z_iloadn zh dX9_canGrow_10 rfl ?_
  refine z_idiv zh dX9_canGrow_11 (by decide) ?_
  rw [show (nI 99999999) / (nI 4) = nI 24999999 from by decide]
  refine z_icmp_gt_N (tgt := 19) zh (by decide) (by decide) dX9_canGrow_12 rfl (fun q => absurd q (by decide)) (fun _ => ?_)
  refine z_iconst zh dX9_canGrow_15 ki_1 ?_
  refine z_goto (tgt := 20) zh dX9_canGrow_16 rfl ?_
  exact z_zret zh dX9_canGrow_20 (Or.inr rfl) (qI rfl)
set_option maxRecDepth 20000 in
theorem c_y_canGrow5 (g : GE)  {iv : Iv} {lv : Lv}    : ConIp g yX9_canGrow cX9_canGrow 3 (some .boolean) 2 [rf g 551, .int (nI 0), .int (nI 5)] iv lv (nI 1) := by
  refine con_intro (own := "RollingNetsModel") (by decide +kernel) rfl (Nat.le_of_ble_eq_true rfl) (L0 := [some (rf g 551), some (.int (nI 0)), some (.int (nI 5))]) rfl (fun Z zh => ?_)
  refine z_aloadnR zh dX9_canGrow_0 rfl ?_
  refine z_iloadn zh dX9_canGrow_1 rfl ?_
  refine z_iloadn zh dX9_canGrow_2 rfl ?_
  refine z_ineg zh dX9_canGrow_3 ?_
  rw [show -(nI 0) = nI 0 from by decide]
  refine z_callVIp zh mv_Y_76 dX9_canGrow_4 ck_Y rfl (c_y_greater0 g) ⟨Nat.le_of_ble_eq_true rfl, Nat.le_of_ble_eq_true rfl⟩ rfl rfl (Nat.le_of_ble_eq_true rfl) ?_
  refine z_ldcw zh dX9_canGrow_7 kc_Y_306 ?_
  refine z_iloadn zh dX9_canGrow_10 rfl ?_
  refine z_idiv zh dX9_canGrow_11 (by decide) ?_
  rw [show (nI 99999999) / (nI 5) = nI 19999999 from by decide]
  refine z_icmp_gt_N (tgt := 19) zh (by decide) (by decide) dX9_canGrow_12 rfl (fun q => absurd q (by decide)) (fun _ => ?_)
  refine z_iconst zh dX9_canGrow_15 ki_1 ?_
  refine z_goto (tgt := 20) zh dX9_canGrow_16 rfl ?_
  exact z_zret zh dX9_canGrow_20 (Or.inr rfl) (qI rfl)
set_option maxRecDepth 20000 in
theorem c_y_canSplit2 (g : GE) {i : Nat} {iv : Iv} {lv : Lv} {dd : Nat → Nat} {dm : Nat} (hi : i < 6) (hG : OkR dd dm iv lv) : ConIp g yX9_canSplit cX9_canSplit 5 (some .boolean) 4 [rf g 551, .int (nI i), .int (nI 2)] iv lv (nI 1) := by
  refine con_intro (own := "RollingNetsModel") (by decide +kernel) rfl (Nat.le_of_ble_eq_true rfl) (L0 := [some (rf g 551), some (.int (nI i)), some (.int (nI 2)), none, none]) rfl (fun Z zh => ?_)
  refine z_iconst zh dX9_canSplit_0 ki_0 ?_
  refine z_istoren zh dX9_canSplit_1 (by decide) (L' := [some (rf g 551), some (.int (nI i)), some (.int (nI 2)), some (.int (nI 0)), none]) rfl ?_
  have hl2 : ∀ (n k2 : Nat), k2 ≤ 6 → 6 - k2 < n → Z 2 [some (rf g 551), some (.int (nI i)), some (.int (nI 2)), some (.int (nI k2)), none] [] iv lv := by
    intro n
    induction n with
    | zero => intro k2 _ hn; exact absurd hn (Nat.not_lt_zero _)
    | succ n ih2 =>
      intro k2 hk2 hn2
      refine z_iloadn zh dX9_canSplit_2 rfl ?_
      refine z_aloadnR zh dX9_canSplit_3 rfl ?_
      refine z_callVIp zh mv_Y_61 dX9_canSplit_4 ck_Y rfl (c_y_memberMany g  hG) ⟨Nat.le_of_ble_eq_true rfl, Nat.le_of_ble_eq_true rfl⟩ rfl rfl (Nat.le_of_ble_eq_true rfl) ?_
      refine z_icmp_ge_N (tgt := 77) zh (by omega) (by decide) dX9_canSplit_7 rfl (fun hb1 => ?_) (fun hb1 => ?_)
      · refine z_iconst zh dX9_canSplit_77 ki_1 ?_
        exact z_zret zh dX9_canSplit_78 (Or.inr rfl) (qI rfl)
      · refine z_iconst zh dX9_canSplit_10 ki_0 ?_
        refine z_istore zh dX9_canSplit_11 (by decide) (L' := [some (rf g 551), some (.int (nI i)), some (.int (nI 2)), some (.int (nI k2)), some (.int (nI 0))]) rfl ?_
        have hl13 : ∀ (n k13 : Nat), k13 ≤ 4 → 4 - k13 < n → Z 13 [some (rf g 551), some (.int (nI i)), some (.int (nI 2)), some (.int (nI k2)), some (.int (nI k13))] [] iv lv := by
          intro n
          induction n with
          | zero => intro k13 _ hn; exact absurd hn (Nat.not_lt_zero _)
          | succ n ih13 =>
            intro k13 hk13 hn13
            refine z_iload zh dX9_canSplit_13 rfl ?_
            refine z_iconst zh dX9_canSplit_15 ki_4 ?_
            refine z_icmp_ge_N (tgt := 55) zh (by omega) (by decide) dX9_canSplit_16 rfl (fun hb2 => ?_) (fun hb2 => ?_)
            · refine z_aloadnR zh dX9_canSplit_55 rfl ?_
              refine z_aloadnR zh dX9_canSplit_56 rfl ?_
              refine z_iloadn zh dX9_canSplit_57 rfl ?_
              refine z_iloadn zh dX9_canSplit_58 rfl ?_
              refine z_callVIp zh mv_Y_119 dX9_canSplit_59 ck_Y rfl (c_y_positionOf g (by omega) hi hG) ⟨Nat.le_of_ble_eq_true rfl, Nat.le_of_ble_eq_true rfl⟩ rfl rfl (Nat.le_of_ble_eq_true rfl) ?_
              refine z_iloadn zh dX9_canSplit_62 rfl ?_
              refine z_callVIp zh mv_Y_307 dX9_canSplit_63 ck_Y rfl (c_y_canGrow2 g) ⟨Nat.le_of_ble_eq_true rfl, Nat.le_of_ble_eq_true rfl⟩ rfl rfl (Nat.le_of_ble_eq_true rfl) ?_
              refine z_if_ne_N (tgt := 71) zh (by decide) dX9_canSplit_66 rfl (fun _ => ?_) (fun q => absurd q (by decide))
              refine z_iincN zh dX9_canSplit_71 ki_1 (by decide) rfl (L' := [some (rf g 551), some (.int (nI i)), some (.int (nI 2)), some (.int (nI (k2 + 1))), some (.int (nI k13))]) rfl ?_
              refine z_goto (tgt := 2) zh dX9_canSplit_74 rfl ?_
              refine z_forget zh [true, true, true, true, false] (L2 := [some (rf g 551), some (.int (nI i)), some (.int (nI 2)), some (.int (nI (k2 + 1))), none]) rfl ?_; exact ih2 (k2 + 1) (by omega) (by omega)
            · refine z_aloadnR zh dX9_canSplit_19 rfl ?_
              refine z_aloadnR zh dX9_canSplit_20 rfl ?_
              refine z_getf zh fl_Y_7 dX9_canSplit_21 ck_Y rfl rfl ?_
              refine z_bipush zh dX9_canSplit_24 kb_60 ?_
              refine z_bipush zh dX9_canSplit_26 kb_72 ?_
              refine z_iload zh dX9_canSplit_28 rfl ?_
              refine z_imulN zh dX9_canSplit_30 ?_
              refine z_iaddN zh dX9_canSplit_31 ?_
              refine z_aloadnR zh dX9_canSplit_32 rfl ?_
              refine z_iloadn zh dX9_canSplit_33 rfl ?_
              refine z_iloadn zh dX9_canSplit_34 rfl ?_
              refine z_callVIp zh mv_Y_65 dX9_canSplit_35 ck_Y rfl (c_y_cellOf g) ⟨Nat.le_of_ble_eq_true rfl, Nat.le_of_ble_eq_true rfl⟩ rfl rfl (Nat.le_of_ble_eq_true rfl) ?_
              refine z_iaddN zh dX9_canSplit_38 ?_
              refine z_ialdE (x := nI 0) zh ck_now dX9_canSplit_39 (by omega) (r1_now hG (by omega)) ?_
              refine z_iloadn zh dX9_canSplit_40 rfl ?_
              refine z_callVIp zh mv_Y_307 dX9_canSplit_41 ck_Y rfl (c_y_canGrow2 g) ⟨Nat.le_of_ble_eq_true rfl, Nat.le_of_ble_eq_true rfl⟩ rfl rfl (Nat.le_of_ble_eq_true rfl) ?_
              refine z_if_ne_N (tgt := 49) zh (by decide) dX9_canSplit_44 rfl (fun _ => ?_) (fun q => absurd q (by decide))
              refine z_iincN zh dX9_canSplit_49 ki_1 (by decide) rfl (L' := [some (rf g 551), some (.int (nI i)), some (.int (nI 2)), some (.int (nI k2)), some (.int (nI (k13 + 1)))]) rfl ?_
              refine z_goto (tgt := 13) zh dX9_canSplit_52 rfl ?_
              exact ih13 (k13 + 1) (by omega) (by omega)
        exact hl13 5 0 (by omega) (by omega)
  exact hl2 7 0 (by omega) (by omega)
set_option maxRecDepth 20000 in
theorem c_y_canSplit3 (g : GE) {i : Nat} {iv : Iv} {lv : Lv} {dd : Nat → Nat} {dm : Nat} (hi : i < 6) (hG : OkR dd dm iv lv) : ConIp g yX9_canSplit cX9_canSplit 5 (some .boolean) 4 [rf g 551, .int (nI i), .int (nI 3)] iv lv (nI 1) := by
  refine con_intro (own := "RollingNetsModel") (by decide +kernel) rfl (Nat.le_of_ble_eq_true rfl) (L0 := [some (rf g 551), some (.int (nI i)), some (.int (nI 3)), none, none]) rfl (fun Z zh => ?_)
  refine z_iconst zh dX9_canSplit_0 ki_0 ?_
  refine z_istoren zh dX9_canSplit_1 (by decide) (L' := [some (rf g 551), some (.int (nI i)), some (.int (nI 3)), some (.int (nI 0)), none]) rfl ?_
  have hl2 : ∀ (n k2 : Nat), k2 ≤ 6 → 6 - k2 < n → Z 2 [some (rf g 551), some (.int (nI i)), some (.int (nI 3)), some (.int (nI k2)), none] [] iv lv := by
    intro n
    induction n with
    | zero => intro k2 _ hn; exact absurd hn (Nat.not_lt_zero _)
    | succ n ih2 =>
      intro k2 hk2 hn2
      refine z_iloadn zh dX9_canSplit_2 rfl ?_
      refine z_aloadnR zh dX9_canSplit_3 rfl ?_
      refine z_callVIp zh mv_Y_61 dX9_canSplit_4 ck_Y rfl (c_y_memberMany g  hG) ⟨Nat.le_of_ble_eq_true rfl, Nat.le_of_ble_eq_true rfl⟩ rfl rfl (Nat.le_of_ble_eq_true rfl) ?_
      refine z_icmp_ge_N (tgt := 77) zh (by omega) (by decide) dX9_canSplit_7 rfl (fun hb1 => ?_) (fun hb1 => ?_)
      · refine z_iconst zh dX9_canSplit_77 ki_1 ?_
        exact z_zret zh dX9_canSplit_78 (Or.inr rfl) (qI rfl)
      · refine z_iconst zh dX9_canSplit_10 ki_0 ?_
        refine z_istore zh dX9_canSplit_11 (by decide) (L' := [some (rf g 551), some (.int (nI i)), some (.int (nI 3)), some (.int (nI k2)), some (.int (nI 0))]) rfl ?_
        have hl13 : ∀ (n k13 : Nat), k13 ≤ 4 → 4 - k13 < n → Z 13 [some (rf g 551), some (.int (nI i)), some (.int (nI 3)), some (.int (nI k2)), some (.int (nI k13))] [] iv lv := by
          intro n
          induction n with
          | zero => intro k13 _ hn; exact absurd hn (Nat.not_lt_zero _)
          | succ n ih13 =>
            intro k13 hk13 hn13
            refine z_iload zh dX9_canSplit_13 rfl ?_
            refine z_iconst zh dX9_canSplit_15 ki_4 ?_
            refine z_icmp_ge_N (tgt := 55) zh (by omega) (by decide) dX9_canSplit_16 rfl (fun hb2 => ?_) (fun hb2 => ?_)
            · refine z_aloadnR zh dX9_canSplit_55 rfl ?_
              refine z_aloadnR zh dX9_canSplit_56 rfl ?_
              refine z_iloadn zh dX9_canSplit_57 rfl ?_
              refine z_iloadn zh dX9_canSplit_58 rfl ?_
              refine z_callVIp zh mv_Y_119 dX9_canSplit_59 ck_Y rfl (c_y_positionOf g (by omega) hi hG) ⟨Nat.le_of_ble_eq_true rfl, Nat.le_of_ble_eq_true rfl⟩ rfl rfl (Nat.le_of_ble_eq_true rfl) ?_
              refine z_iloadn zh dX9_canSplit_62 rfl ?_
              refine z_callVIp zh mv_Y_307 dX9_canSplit_63 ck_Y rfl (c_y_canGrow3 g) ⟨Nat.le_of_ble_eq_true rfl, Nat.le_of_ble_eq_true rfl⟩ rfl rfl (Nat.le_of_ble_eq_true rfl) ?_
              refine z_if_ne_N (tgt := 71) zh (by decide) dX9_canSplit_66 rfl (fun _ => ?_) (fun q => absurd q (by decide))
              refine z_iincN zh dX9_canSplit_71 ki_1 (by decide) rfl (L' := [some (rf g 551), some (.int (nI i)), some (.int (nI 3)), some (.int (nI (k2 + 1))), some (.int (nI k13))]) rfl ?_
              refine z_goto (tgt := 2) zh dX9_canSplit_74 rfl ?_
              refine z_forget zh [true, true, true, true, false] (L2 := [some (rf g 551), some (.int (nI i)), some (.int (nI 3)), some (.int (nI (k2 + 1))), none]) rfl ?_; exact ih2 (k2 + 1) (by omega) (by omega)
            · refine z_aloadnR zh dX9_canSplit_19 rfl ?_
              refine z_aloadnR zh dX9_canSplit_20 rfl ?_
              refine z_getf zh fl_Y_7 dX9_canSplit_21 ck_Y rfl rfl ?_
              refine z_bipush zh dX9_canSplit_24 kb_60 ?_
              refine z_bipush zh dX9_canSplit_26 kb_72 ?_
              refine z_iload zh dX9_canSplit_28 rfl ?_
              refine z_imulN zh dX9_canSplit_30 ?_
              refine z_iaddN zh dX9_canSplit_31 ?_
              refine z_aloadnR zh dX9_canSplit_32 rfl ?_
              refine z_iloadn zh dX9_canSplit_33 rfl ?_
              refine z_iloadn zh dX9_canSplit_34 rfl ?_
              refine z_callVIp zh mv_Y_65 dX9_canSplit_35 ck_Y rfl (c_y_cellOf g) ⟨Nat.le_of_ble_eq_true rfl, Nat.le_of_ble_eq_true rfl⟩ rfl rfl (Nat.le_of_ble_eq_true rfl) ?_
              refine z_iaddN zh dX9_canSplit_38 ?_
              refine z_ialdE (x := nI 0) zh ck_now dX9_canSplit_39 (by omega) (r1_now hG (by omega)) ?_
              refine z_iloadn zh dX9_canSplit_40 rfl ?_
              refine z_callVIp zh mv_Y_307 dX9_canSplit_41 ck_Y rfl (c_y_canGrow3 g) ⟨Nat.le_of_ble_eq_true rfl, Nat.le_of_ble_eq_true rfl⟩ rfl rfl (Nat.le_of_ble_eq_true rfl) ?_
              refine z_if_ne_N (tgt := 49) zh (by decide) dX9_canSplit_44 rfl (fun _ => ?_) (fun q => absurd q (by decide))
              refine z_iincN zh dX9_canSplit_49 ki_1 (by decide) rfl (L' := [some (rf g 551), some (.int (nI i)), some (.int (nI 3)), some (.int (nI k2)), some (.int (nI (k13 + 1)))]) rfl ?_
              refine z_goto (tgt := 13) zh dX9_canSplit_52 rfl ?_
              exact ih13 (k13 + 1) (by omega) (by omega)
        exact hl13 5 0 (by omega) (by omega)
  exact hl2 7 0 (by omega) (by omega)
set_option maxRecDepth 20000 in
theorem c_y_canSplit4 (g : GE) {i : Nat} {iv : Iv} {lv : Lv} {dd : Nat → Nat} {dm : Nat} (hi : i < 6) (hG : OkR dd dm iv lv) : ConIp g yX9_canSplit cX9_canSplit 5 (some .boolean) 4 [rf g 551, .int (nI i), .int (nI 4)] iv lv (nI 1) := by
  refine con_intro (own := "RollingNetsModel") (by decide +kernel) rfl (Nat.le_of_ble_eq_true rfl) (L0 := [some (rf g 551), some (.int (nI i)), some (.int (nI 4)), none, none]) rfl (fun Z zh => ?_)
  refine z_iconst zh dX9_canSplit_0 ki_0 ?_
  refine z_istoren zh dX9_canSplit_1 (by decide) (L' := [some (rf g 551), some (.int (nI i)), some (.int (nI 4)), some (.int (nI 0)), none]) rfl ?_
  have hl2 : ∀ (n k2 : Nat), k2 ≤ 6 → 6 - k2 < n → Z 2 [some (rf g 551), some (.int (nI i)), some (.int (nI 4)), some (.int (nI k2)), none] [] iv lv := by
    intro n
    induction n with
    | zero => intro k2 _ hn; exact absurd hn (Nat.not_lt_zero _)
    | succ n ih2 =>
      intro k2 hk2 hn2
      refine z_iloadn zh dX9_canSplit_2 rfl ?_
      refine z_aloadnR zh dX9_canSplit_3 rfl ?_
      refine z_callVIp zh mv_Y_61 dX9_canSplit_4 ck_Y rfl (c_y_memberMany g  hG) ⟨Nat.le_of_ble_eq_true rfl, Nat.le_of_ble_eq_true rfl⟩ rfl rfl (Nat.le_of_ble_eq_true rfl) ?_
      refine z_icmp_ge_N (tgt := 77) zh (by omega) (by decide) dX9_canSplit_7 rfl (fun hb1 => ?_) (fun hb1 => ?_)
      · refine z_iconst zh dX9_canSplit_77 ki_1 ?_
        exact z_zret zh dX9_canSplit_78 (Or.inr rfl) (qI rfl)
      · refine z_iconst zh dX9_canSplit_10 ki_0 ?_
        refine z_istore zh dX9_canSplit_11 (by decide) (L' := [some (rf g 551), some (.int (nI i)), some (.int (nI 4)), some (.int (nI k2)), some (.int (nI 0))]) rfl ?_
        have hl13 : ∀ (n k13 : Nat), k13 ≤ 4 → 4 - k13 < n → Z 13 [some (rf g 551), some (.int (nI i)), some (.int (nI 4)), some (.int (nI k2)), some (.int (nI k13))] [] iv lv := by
          intro n
          induction n with
          | zero => intro k13 _ hn; exact absurd hn (Nat.not_lt_zero _)
          | succ n ih13 =>
            intro k13 hk13 hn13
            refine z_iload zh dX9_canSplit_13 rfl ?_
            refine z_iconst zh dX9_canSplit_15 ki_4 ?_
            refine z_icmp_ge_N (tgt := 55) zh (by omega) (by decide) dX9_canSplit_16 rfl (fun hb2 => ?_) (fun hb2 => ?_)
            · refine z_aloadnR zh dX9_canSplit_55 rfl ?_
              refine z_aloadnR zh dX9_canSplit_56 rfl ?_
              refine z_iloadn zh dX9_canSplit_57 rfl ?_
              refine z_iloadn zh dX9_canSplit_58 rfl ?_
              refine z_callVIp zh mv_Y_119 dX9_canSplit_59 ck_Y rfl (c_y_positionOf g (by omega) hi hG) ⟨Nat.le_of_ble_eq_true rfl, Nat.le_of_ble_eq_true rfl⟩ rfl rfl (Nat.le_of_ble_eq_true rfl) ?_
              refine z_iloadn zh dX9_canSplit_62 rfl ?_
              refine z_callVIp zh mv_Y_307 dX9_canSplit_63 ck_Y rfl (c_y_canGrow4 g) ⟨Nat.le_of_ble_eq_true rfl, Nat.le_of_ble_eq_true rfl⟩ rfl rfl (Nat.le_of_ble_eq_true rfl) ?_
              refine z_if_ne_N (tgt := 71) zh (by decide) dX9_canSplit_66 rfl (fun _ => ?_) (fun q => absurd q (by decide))
              refine z_iincN zh dX9_canSplit_71 ki_1 (by decide) rfl (L' := [some (rf g 551), some (.int (nI i)), some (.int (nI 4)), some (.int (nI (k2 + 1))), some (.int (nI k13))]) rfl ?_
              refine z_goto (tgt := 2) zh dX9_canSplit_74 rfl ?_
              refine z_forget zh [true, true, true, true, false] (L2 := [some (rf g 551), some (.int (nI i)), some (.int (nI 4)), some (.int (nI (k2 + 1))), none]) rfl ?_; exact ih2 (k2 + 1) (by omega) (by omega)
            · refine z_aloadnR zh dX9_canSplit_19 rfl ?_
              refine z_aloadnR zh dX9_canSplit_20 rfl ?_
              refine z_getf zh fl_Y_7 dX9_canSplit_21 ck_Y rfl rfl ?_
              refine z_bipush zh dX9_canSplit_24 kb_60 ?_
              refine z_bipush zh dX9_canSplit_26 kb_72 ?_
              refine z_iload zh dX9_canSplit_28 rfl ?_
              refine z_imulN zh dX9_canSplit_30 ?_
              refine z_iaddN zh dX9_canSplit_31 ?_
              refine z_aloadnR zh dX9_canSplit_32 rfl ?_
              refine z_iloadn zh dX9_canSplit_33 rfl ?_
              refine z_iloadn zh dX9_canSplit_34 rfl ?_
              refine z_callVIp zh mv_Y_65 dX9_canSplit_35 ck_Y rfl (c_y_cellOf g) ⟨Nat.le_of_ble_eq_true rfl, Nat.le_of_ble_eq_true rfl⟩ rfl rfl (Nat.le_of_ble_eq_true rfl) ?_
              refine z_iaddN zh dX9_canSplit_38 ?_
              refine z_ialdE (x := nI 0) zh ck_now dX9_canSplit_39 (by omega) (r1_now hG (by omega)) ?_
              refine z_iloadn zh dX9_canSplit_40 rfl ?_
              refine z_callVIp zh mv_Y_307 dX9_canSplit_41 ck_Y rfl (c_y_canGrow4 g) ⟨Nat.le_of_ble_eq_true rfl, Nat.le_of_ble_eq_true rfl⟩ rfl rfl (Nat.le_of_ble_eq_true rfl) ?_
              refine z_if_ne_N (tgt := 49) zh (by decide) dX9_canSplit_44 rfl (fun _ => ?_) (fun q => absurd q (by decide))
              refine z_iincN zh dX9_canSplit_49 ki_1 (by decide) rfl (L' := [some (rf g 551), some (.int (nI i)), some (.int (nI 4)), some (.int (nI k2)), some (.int (nI (k13 + 1)))]) rfl ?_
              refine z_goto (tgt := 13) zh dX9_canSplit_52 rfl ?_
              exact ih13 (k13 + 1) (by omega) (by omega)
        exact hl13 5 0 (by omega) (by omega)
  exact hl2 7 0 (by omega) (by omega)
set_option maxRecDepth 20000 in
theorem c_y_canSplit5 (g : GE) {i : Nat} {iv : Iv} {lv : Lv} {dd : Nat → Nat} {dm : Nat} (hi : i < 6) (hG : OkR dd dm iv lv) : ConIp g yX9_canSplit cX9_canSplit 5 (some .boolean) 4 [rf g 551, .int (nI i), .int (nI 5)] iv lv (nI 1) := by
  refine con_intro (own := "RollingNetsModel") (by decide +kernel) rfl (Nat.le_of_ble_eq_true rfl) (L0 := [some (rf g 551), some (.int (nI i)), some (.int (nI 5)), none, none]) rfl (fun Z zh => ?_)
  refine z_iconst zh dX9_canSplit_0 ki_0 ?_
  refine z_istoren zh dX9_canSplit_1 (by decide) (L' := [some (rf g 551), some (.int (nI i)), some (.int (nI 5)), some (.int (nI 0)), none]) rfl ?_
  have hl2 : ∀ (n k2 : Nat), k2 ≤ 6 → 6 - k2 < n → Z 2 [some (rf g 551), some (.int (nI i)), some (.int (nI 5)), some (.int (nI k2)), none] [] iv lv := by
    intro n
    induction n with
    | zero => intro k2 _ hn; exact absurd hn (Nat.not_lt_zero _)
    | succ n ih2 =>
      intro k2 hk2 hn2
      refine z_iloadn zh dX9_canSplit_2 rfl ?_
      refine z_aloadnR zh dX9_canSplit_3 rfl ?_
      refine z_callVIp zh mv_Y_61 dX9_canSplit_4 ck_Y rfl (c_y_memberMany g  hG) ⟨Nat.le_of_ble_eq_true rfl, Nat.le_of_ble_eq_true rfl⟩ rfl rfl (Nat.le_of_ble_eq_true rfl) ?_
      refine z_icmp_ge_N (tgt := 77) zh (by omega) (by decide) dX9_canSplit_7 rfl (fun hb1 => ?_) (fun hb1 => ?_)
      · refine z_iconst zh dX9_canSplit_77 ki_1 ?_
        exact z_zret zh dX9_canSplit_78 (Or.inr rfl) (qI rfl)
      · refine z_iconst zh dX9_canSplit_10 ki_0 ?_
        refine z_istore zh dX9_canSplit_11 (by decide) (L' := [some (rf g 551), some (.int (nI i)), some (.int (nI 5)), some (.int (nI k2)), some (.int (nI 0))]) rfl ?_
        have hl13 : ∀ (n k13 : Nat), k13 ≤ 4 → 4 - k13 < n → Z 13 [some (rf g 551), some (.int (nI i)), some (.int (nI 5)), some (.int (nI k2)), some (.int (nI k13))] [] iv lv := by
          intro n
          induction n with
          | zero => intro k13 _ hn; exact absurd hn (Nat.not_lt_zero _)
          | succ n ih13 =>
            intro k13 hk13 hn13
            refine z_iload zh dX9_canSplit_13 rfl ?_
            refine z_iconst zh dX9_canSplit_15 ki_4 ?_
            refine z_icmp_ge_N (tgt := 55) zh (by omega) (by decide) dX9_canSplit_16 rfl (fun hb2 => ?_) (fun hb2 => ?_)
            · refine z_aloadnR zh dX9_canSplit_55 rfl ?_
              refine z_aloadnR zh dX9_canSplit_56 rfl ?_
              refine z_iloadn zh dX9_canSplit_57 rfl ?_
              refine z_iloadn zh dX9_canSplit_58 rfl ?_
              refine z_callVIp zh mv_Y_119 dX9_canSplit_59 ck_Y rfl (c_y_positionOf g (by omega) hi hG) ⟨Nat.le_of_ble_eq_true rfl, Nat.le_of_ble_eq_true rfl⟩ rfl rfl (Nat.le_of_ble_eq_true rfl) ?_
              refine z_iloadn zh dX9_canSplit_62 rfl ?_
              refine z_callVIp zh mv_Y_307 dX9_canSplit_63 ck_Y rfl (c_y_canGrow5 g) ⟨Nat.le_of_ble_eq_true rfl, Nat.le_of_ble_eq_true rfl⟩ rfl rfl (Nat.le_of_ble_eq_true rfl) ?_
              refine z_if_ne_N (tgt := 71) zh (by decide) dX9_canSplit_66 rfl (fun _ => ?_) (fun q => absurd q (by decide))
              refine z_iincN zh dX9_canSplit_71 ki_1 (by decide) rfl (L' := [some (rf g 551), some (.int (nI i)), some (.int (nI 5)), some (.int (nI (k2 + 1))), some (.int (nI k13))]) rfl ?_
              refine z_goto (tgt := 2) zh dX9_canSplit_74 rfl ?_
              refine z_forget zh [true, true, true, true, false] (L2 := [some (rf g 551), some (.int (nI i)), some (.int (nI 5)), some (.int (nI (k2 + 1))), none]) rfl ?_; exact ih2 (k2 + 1) (by omega) (by omega)
            · refine z_aloadnR zh dX9_canSplit_19 rfl ?_
              refine z_aloadnR zh dX9_canSplit_20 rfl ?_
              refine z_getf zh fl_Y_7 dX9_canSplit_21 ck_Y rfl rfl ?_
              refine z_bipush zh dX9_canSplit_24 kb_60 ?_
              refine z_bipush zh dX9_canSplit_26 kb_72 ?_
              refine z_iload zh dX9_canSplit_28 rfl ?_
              refine z_imulN zh dX9_canSplit_30 ?_
              refine z_iaddN zh dX9_canSplit_31 ?_
              refine z_aloadnR zh dX9_canSplit_32 rfl ?_
              refine z_iloadn zh dX9_canSplit_33 rfl ?_
              refine z_iloadn zh dX9_canSplit_34 rfl ?_
              refine z_callVIp zh mv_Y_65 dX9_canSplit_35 ck_Y rfl (c_y_cellOf g) ⟨Nat.le_of_ble_eq_true rfl, Nat.le_of_ble_eq_true rfl⟩ rfl rfl (Nat.le_of_ble_eq_true rfl) ?_
              refine z_iaddN zh dX9_canSplit_38 ?_
              refine z_ialdE (x := nI 0) zh ck_now dX9_canSplit_39 (by omega) (r1_now hG (by omega)) ?_
              refine z_iloadn zh dX9_canSplit_40 rfl ?_
              refine z_callVIp zh mv_Y_307 dX9_canSplit_41 ck_Y rfl (c_y_canGrow5 g) ⟨Nat.le_of_ble_eq_true rfl, Nat.le_of_ble_eq_true rfl⟩ rfl rfl (Nat.le_of_ble_eq_true rfl) ?_
              refine z_if_ne_N (tgt := 49) zh (by decide) dX9_canSplit_44 rfl (fun _ => ?_) (fun q => absurd q (by decide))
              refine z_iincN zh dX9_canSplit_49 ki_1 (by decide) rfl (L' := [some (rf g 551), some (.int (nI i)), some (.int (nI 5)), some (.int (nI k2)), some (.int (nI (k13 + 1)))]) rfl ?_
              refine z_goto (tgt := 13) zh dX9_canSplit_52 rfl ?_
              exact ih13 (k13 + 1) (by omega) (by omega)
        exact hl13 5 0 (by omega) (by omega)
  exact hl2 7 0 (by omega) (by omega)
set_option maxRecDepth 20000 in
theorem c_y_demandOf (g : GE) {k : Nat} {iv : Iv} {lv : Lv} {dd : Nat → Nat} {dm : Nat} (hk : k < 12) (hG : OkR dd dm iv lv) : ConLp g yX9_demandOf cX9_demandOf 8 (some .long) 3 [rf g 551, .int (nI k)] iv lv ((0 : Int64)) := by
  refine con_intro (own := "RollingNetsModel") (by decide +kernel) rfl (Nat.le_of_ble_eq_true rfl) (L0 := [some (rf g 551), some (.int (nI k)), none, none, none, none, none, none]) rfl (fun Z zh => ?_)
  refine z_lconst (v := 0) zh dX9_demandOf_0 (by decide) ?_
  refine z_lstoren zh dX9_demandOf_1 (by decide) (L' := [some (rf g 551), some (.int (nI k)), some (.long (0 : Int64)), none, none, none, none, none]) rfl ?_
  refine z_iconst zh dX9_demandOf_2 ki_0 ?_
  refine z_istore zh dX9_demandOf_3 (by decide) (L' := [some (rf g 551), some (.int (nI k)), some (.long (0 : Int64)), none, some (.int (nI 0)), none, none, none]) rfl ?_
  have hl5 : ∀ (n k5 : Nat), k5 ≤ 6 → 6 - k5 < n → Z 5 [some (rf g 551), some (.int (nI k)), some (.long (0 : Int64)), none, some (.int (nI k5)), none, none, none] [] iv lv := by
    intro n
    induction n with
    | zero => intro k5 _ hn; exact absurd hn (Nat.not_lt_zero _)
    | succ n ih5 =>
      intro k5 hk5 hn5
      refine z_iload zh dX9_demandOf_5 rfl ?_
      refine z_bipush zh dX9_demandOf_7 kb_6 ?_
      refine z_icmp_ge_N (tgt := 118) zh (by omega) (by decide) dX9_demandOf_9 rfl (fun hb1 => ?_) (fun hb1 => ?_)
      · refine z_lloadn zh dX9_demandOf_118 rfl ?_
        exact z_lret zh dX9_demandOf_119 (qL rfl)
      · refine z_iconst zh dX9_demandOf_12 ki_0 ?_
        refine z_istore zh dX9_demandOf_13 (by decide) (L' := [some (rf g 551), some (.int (nI k)), some (.long (0 : Int64)), none, some (.int (nI k5)), some (.int (nI 0)), none, none]) rfl ?_
        refine z_iload zh dX9_demandOf_15 rfl ?_
        refine z_aloadnR zh dX9_demandOf_17 rfl ?_
        refine z_iloadn zh dX9_demandOf_18 rfl ?_
        refine z_iload zh dX9_demandOf_19 rfl ?_
        refine z_callVIp zh mv_Y_110 dX9_demandOf_21 ck_Y rfl (c_y_lotMany g hk (by omega) hG) ⟨Nat.le_of_ble_eq_true rfl, Nat.le_of_ble_eq_true rfl⟩ rfl rfl (Nat.le_of_ble_eq_true rfl) ?_
        refine z_icmp_ge_N (tgt := 112) zh (by decide) (by decide) dX9_demandOf_24 rfl (fun _ => ?_) (fun q => absurd q (by decide))
        refine z_iincN zh dX9_demandOf_112 ki_1 (by decide) rfl (L' := [some (rf g 551), some (.int (nI k)), some (.long (0 : Int64)), none, some (.int (nI (k5 + 1))), some (.int (nI 0)), none, none]) rfl ?_
        refine z_goto (tgt := 5) zh dX9_demandOf_115 rfl ?_
        refine z_forget zh [true, true, true, false, true, false, false, false] (L2 := [some (rf g 551), some (.int (nI k)), some (.long (0 : Int64)), none, some (.int (nI (k5 + 1))), none, none, none]) rfl ?_; exact ih5 (k5 + 1) (by omega) (by omega)
  exact hl5 7 0 (by omega) (by omega)
set_option maxRecDepth 20000 in
theorem c_y_lacksOf (g : GE) {k : Nat} {iv : Iv} {lv : Lv} {dd : Nat → Nat} {dm : Nat} (hk : k < 12) (hG : OkR dd dm iv lv) : ConLp g yX9_lacksOf cX9_lacksOf 4 (some .long) 4 [rf g 551, .int (nI k)] iv lv ((0 : Int64)) := by
  refine con_intro (own := "RollingNetsModel") (by decide +kernel) rfl (Nat.le_of_ble_eq_true rfl) (L0 := [some (rf g 551), some (.int (nI k)), none, none]) rfl (fun Z zh => ?_)
  refine z_aloadnR zh dX9_lacksOf_0 rfl ?_
  refine z_iloadn zh dX9_lacksOf_1 rfl ?_
  refine z_callVLp zh mv_Y_318 dX9_lacksOf_2 ck_Y rfl (c_y_demandOf g hk hG) ⟨Nat.le_of_ble_eq_true rfl, Nat.le_of_ble_eq_true rfl⟩ rfl rfl (Nat.le_of_ble_eq_true rfl) ?_
  refine z_aloadnR zh dX9_lacksOf_5 rfl ?_
  refine z_getf zh fl_Y_7 dX9_lacksOf_6 ck_Y rfl rfl ?_
  refine z_bipush zh dX9_lacksOf_9 kb_46 ?_
  refine z_iloadn zh dX9_lacksOf_11 rfl ?_
  refine z_iaddN zh dX9_lacksOf_12 ?_
  refine z_ialdE (x := nI 0) zh ck_now dX9_lacksOf_13 (by omega) (r1_now hG (by omega)) ?_
  refine z_i2l zh dX9_lacksOf_14 ?_
  rw [show (nI 0).toInt64 = (0 : Int64) from by decide]
  refine z_lsub zh dX9_lacksOf_15 ?_
  rw [show (0 : Int64) - (0 : Int64) = (0 : Int64) from by decide]
  refine z_lstoren zh dX9_lacksOf_16 (by decide) (L' := [some (rf g 551), some (.int (nI k)), some (.long (0 : Int64)), none]) rfl ?_
  refine z_lloadn zh dX9_lacksOf_17 rfl ?_
  refine z_lconst (v := 0) zh dX9_lacksOf_18 (by decide) ?_
  refine z_lcmp zh dX9_lacksOf_19 ?_
  rw [show lg_cmp (0 : Int64) (0 : Int64) = nI 0 from by decide]
  refine z_if_ge_N (tgt := 27) zh (by decide) dX9_lacksOf_20 rfl ?_
  refine z_lloadn zh dX9_lacksOf_27 rfl ?_
  exact z_lret zh dX9_lacksOf_28 (qL rfl)
set_option maxRecDepth 20000 in
theorem c_Y_margin (g : GE) {x w : Int32} {iv : Iv} {lv : Lv} {dd : Nat → Nat} {dm : Nat}  (hG : OkR dd dm iv lv) : ConL g yX9_margin cX9_margin 3 (some .long) 5 [rf g 551, .int x, .int w] iv lv (fun r _ _ => r = sp_marg x w) := by
  refine con_intro (own := "RollingNetsModel") (by decide +kernel) rfl (Nat.le_of_ble_eq_true rfl) (L0 := [some (rf g 551), some (.int x), some (.int w)]) rfl (fun Z zh => ?_)
  refine z_aloadnR zh dX9_margin_0 rfl ?_
  refine z_iconst zh dX9_margin_1 ki_0 ?_
  refine z_putI zh fl_Y_58 dX9_margin_2 ck_Y rfl rfl (Nat.le_of_ble_eq_true rfl) (Or.inl rfl) ?_
  have hG := okR_wI (k := 551) (j := 0) (x := nI 0) hG (w1_no rfl)
  generalize upI iv (551) (0) (nI 0) = iv at hG ⊢
  refine z_aloadnR zh dX9_margin_5 rfl ?_
  refine z_iloadn zh dX9_margin_6 rfl ?_
  refine z_callVIp zh mv_Y_90 dX9_margin_7 ck_Y rfl (c_y_isMember g  hG) ⟨Nat.le_of_ble_eq_true rfl, Nat.le_of_ble_eq_true rfl⟩ rfl rfl (Nat.le_of_ble_eq_true rfl) ?_
  refine z_if_eq_B (tgt := 23) zh dX9_margin_10 rfl (fun hp1 => ?_) (fun hp1 => ?_)
  · refine z_ldc2 zh dX9_margin_23 kl_Y_322 ?_
    exact z_lret zh dX9_margin_26 (⟨_, rfl, (by unfold sp_marg; first | exact (selL_f hp1).symm | exact ((selL_t hp1).trans (selL_f hp2)).symm | exact ((selL_t hp1).trans (selL_t hp2)).symm)⟩)
  · obtain ⟨jx, hjx, rfl⟩ := id hp1
    refine z_aloadnR zh dX9_margin_13 rfl ?_
    refine z_iloadn zh dX9_margin_14 rfl ?_
    refine z_iconst zh dX9_margin_15 ki_0 ?_
    refine z_iconst zh dX9_margin_16 ki_2 ?_
    refine z_callVIp zh mv_Y_79 dX9_margin_17 ck_Y rfl (c_y_isIn0 g) ⟨Nat.le_of_ble_eq_true rfl, Nat.le_of_ble_eq_true rfl⟩ rfl rfl (Nat.le_of_ble_eq_true rfl) ?_
    refine z_if_ne_B (tgt := 27) zh dX9_margin_20 rfl (fun hp2 => ?_) (fun hp2 => ?_)
    · obtain ⟨jw, hjw, rfl⟩ := id hp2
      refine z_iloadn zh dX9_margin_27 rfl ?_
      refine z_if_ne_N (tgt := 39) zh (by omega) dX9_margin_28 rfl (fun hb3 => ?_) (fun hb3 => ?_)
      · refine z_iloadn zh dX9_margin_39 rfl ?_
        refine z_iconst zh dX9_margin_40 ki_1 ?_
        refine z_icmp_ne_N (tgt := 57) zh (by omega) (by decide) dX9_margin_41 rfl (fun hb4 => ?_) (fun hb4 => ?_)
        · refine z_aloadnR zh dX9_margin_57 rfl ?_
          refine z_iloadn zh dX9_margin_58 rfl ?_
          refine z_callVLp zh mv_Y_324 dX9_margin_59 ck_Y rfl (c_y_lacksOf g (by omega) hG) ⟨Nat.le_of_ble_eq_true rfl, Nat.le_of_ble_eq_true rfl⟩ rfl rfl (Nat.le_of_ble_eq_true rfl) ?_
          exact z_lret zh dX9_margin_62 (⟨_, rfl, (by unfold sp_marg; first | exact (selL_f hp1).symm | exact ((selL_t hp1).trans (selL_f hp2)).symm | exact ((selL_t hp1).trans (selL_t hp2)).symm)⟩)
        · refine z_aloadnR zh dX9_margin_44 rfl ?_
          refine z_getf zh fl_Y_7 dX9_margin_45 ck_Y rfl rfl ?_
          refine z_bipush zh dX9_margin_48 kb_46 ?_
          refine z_iloadn zh dX9_margin_50 rfl ?_
          refine z_iaddN zh dX9_margin_51 ?_
          refine z_ialdE (x := nI 0) zh ck_now dX9_margin_52 (by omega) (r1_now hG (by omega)) ?_
          refine z_i2l zh dX9_margin_53 ?_
          rw [show (nI 0).toInt64 = (0 : Int64) from by decide]
          refine z_goto (tgt := 62) zh dX9_margin_54 rfl ?_
          exact z_lret zh dX9_margin_62 (⟨_, rfl, (by unfold sp_marg; first | exact (selL_f hp1).symm | exact ((selL_t hp1).trans (selL_f hp2)).symm | exact ((selL_t hp1).trans (selL_t hp2)).symm)⟩)
      · refine z_aloadnR zh dX9_margin_31 rfl ?_
        refine z_iloadn zh dX9_margin_32 rfl ?_
        refine z_callVLp zh mv_Y_318 dX9_margin_33 ck_Y rfl (c_y_demandOf g (by omega) hG) ⟨Nat.le_of_ble_eq_true rfl, Nat.le_of_ble_eq_true rfl⟩ rfl rfl (Nat.le_of_ble_eq_true rfl) ?_
        refine z_goto (tgt := 62) zh dX9_margin_36 rfl ?_
        exact z_lret zh dX9_margin_62 (⟨_, rfl, (by unfold sp_marg; first | exact (selL_f hp1).symm | exact ((selL_t hp1).trans (selL_f hp2)).symm | exact ((selL_t hp1).trans (selL_t hp2)).symm)⟩)
    · refine z_ldc2 zh dX9_margin_23 kl_Y_322 ?_
      exact z_lret zh dX9_margin_26 (⟨_, rfl, (by unfold sp_marg; first | exact (selL_f hp1).symm | exact ((selL_t hp1).trans (selL_f hp2)).symm | exact ((selL_t hp1).trans (selL_t hp2)).symm)⟩)
set_option maxRecDepth 20000 in
theorem c_Y_stress (g : GE) {x : Int32} {iv : Iv} {lv : Lv} {dd : Nat → Nat} {dm : Nat}  (hG : OkR dd dm iv lv) : ConI g yX9_stress cX9_stress 7 (some .int) 4 [rf g 551, .int x] iv lv (fun r _ _ => r = sel (Rg (-99) (nI 99) x) (nI 0) (-1)) := by
  refine con_intro (own := "RollingNetsModel") (by decide +kernel) rfl (Nat.le_of_ble_eq_true rfl) (L0 := [some (rf g 551), some (.int x), none, none, none, none, none]) rfl (fun Z zh => ?_)
  refine z_aloadnR zh dX9_stress_0 rfl ?_
  refine z_iconst zh dX9_stress_1 ki_0 ?_
  refine z_putI zh fl_Y_58 dX9_stress_2 ck_Y rfl rfl (Nat.le_of_ble_eq_true rfl) (Or.inl rfl) ?_
  have hG := okR_wI (k := 551) (j := 0) (x := nI 0) hG (w1_no rfl)
  generalize upI iv (551) (0) (nI 0) = iv at hG ⊢
  refine z_aloadnR zh dX9_stress_5 rfl ?_
  refine z_iloadn zh dX9_stress_6 rfl ?_
  refine z_bipush zh dX9_stress_7 kb_n99 ?_
  refine z_bipush zh dX9_stress_9 kb_99 ?_
  refine z_callVIp zh mv_Y_79 dX9_stress_11 ck_Y rfl (c_y_isIn g) ⟨Nat.le_of_ble_eq_true rfl, Nat.le_of_ble_eq_true rfl⟩ rfl rfl (Nat.le_of_ble_eq_true rfl) ?_
  refine z_if_ne_B (tgt := 19) zh dX9_stress_14 rfl (fun hp1 => ?_) (fun hp1 => ?_)
  · refine z_iconst zh dX9_stress_19 ki_0 ?_
    refine z_istoren zh dX9_stress_20 (by decide) (L' := [some (rf g 551), some (.int x), some (.int (nI 0)), none, none, none, none]) rfl ?_
    refine z_iconst zh dX9_stress_21 ki_0 ?_
    refine z_istoren zh dX9_stress_22 (by decide) (L' := [some (rf g 551), some (.int x), some (.int (nI 0)), some (.int (nI 0)), none, none, none]) rfl ?_
    have hl23 : ∀ (n k23 : Nat) (iv : Iv) (lv : Lv), OkR dd dm iv lv → k23 ≤ 6 → 6 - k23 < n → Z 23 [some (rf g 551), some (.int x), some (.int (nI 0)), some (.int (nI k23)), none, none, none] [] iv lv := by
      intro n
      induction n with
      | zero => intro k23 iv lv _ _ hn; exact absurd hn (Nat.not_lt_zero _)
      | succ n ih23 =>
        intro k23 iv lv hG hk23 hn23
        refine z_iloadn zh dX9_stress_23 rfl ?_
        refine z_aloadnR zh dX9_stress_24 rfl ?_
        refine z_callVIp zh mv_Y_61 dX9_stress_25 ck_Y rfl (c_y_memberMany g  hG) ⟨Nat.le_of_ble_eq_true rfl, Nat.le_of_ble_eq_true rfl⟩ rfl rfl (Nat.le_of_ble_eq_true rfl) ?_
        refine z_icmp_ge_N (tgt := 113) zh (by omega) (by decide) dX9_stress_28 rfl (fun hb2 => ?_) (fun hb2 => ?_)
        · refine z_iloadn zh dX9_stress_113 rfl ?_
          exact z_iret zh dX9_stress_114 (⟨_, rfl, (by first | rfl | simp (decide := true) only [sel_t, sel_f, selL_t, selL_f, bi_t, bi_f, sel_same, selL_same, eq_self, hp1, hb2])⟩)
        · refine z_aloadnR zh dX9_stress_31 rfl ?_
          refine z_getf zh fl_Y_16 dX9_stress_32 ck_Y rfl rfl ?_
          refine z_iloadn zh dX9_stress_35 rfl ?_
          refine z_laldE (x := (0 : Int64)) zh ck_coins dX9_stress_36 (by omega) (r1_coins hG) ?_
          refine z_aloadnR zh dX9_stress_37 rfl ?_
          refine z_getf zh fl_Y_7 dX9_stress_38 ck_Y rfl rfl ?_
          refine z_bipush zh dX9_stress_41 kb_46 ?_
          refine z_iloadn zh dX9_stress_43 rfl ?_
          refine z_iaddN zh dX9_stress_44 ?_
          refine z_ialdE (x := nI 0) zh ck_now dX9_stress_45 (by omega) (r1_now hG (by omega)) ?_
          refine z_i2l zh dX9_stress_46 ?_
          rw [show (nI 0).toInt64 = (0 : Int64) from by decide]
          refine z_ladd zh dX9_stress_47 ?_
          rw [show (0 : Int64) + (0 : Int64) = (0 : Int64) from by decide]
          refine z_lstore zh dX9_stress_48 (by decide) (L' := [some (rf g 551), some (.int x), some (.int (nI 0)), some (.int (nI k23)), some (.long (0 : Int64)), none, none]) rfl ?_
          refine z_iconst zh dX9_stress_50 ki_0 ?_
          refine z_istore zh dX9_stress_51 (by decide) (L' := [some (rf g 551), some (.int x), some (.int (nI 0)), some (.int (nI k23)), some (.long (0 : Int64)), none, some (.int (nI 0))]) rfl ?_
          have hl53 : ∀ (n k53 : Nat) (iv : Iv) (lv : Lv), OkR dd dm iv lv → k53 ≤ 6 → 6 - k53 < n → Z 53 [some (rf g 551), some (.int x), some (.int (nI 0)), some (.int (nI k23)), some (.long (0 : Int64)), none, some (.int (nI k53))] [] iv lv := by
            intro n
            induction n with
            | zero => intro k53 iv lv _ _ hn; exact absurd hn (Nat.not_lt_zero _)
            | succ n ih53 =>
              intro k53 iv lv hG hk53 hn53
              refine z_iload zh dX9_stress_53 rfl ?_
              refine z_bipush zh dX9_stress_55 kb_6 ?_
              refine z_icmp_ge_N (tgt := 94) zh (by omega) (by decide) dX9_stress_57 rfl (fun hb3 => ?_) (fun hb3 => ?_)
              · refine z_lload zh dX9_stress_94 rfl ?_
                refine z_lconst (v := 0) zh dX9_stress_96 (by decide) ?_
                refine z_lcmp zh dX9_stress_97 ?_
                rw [show lg_cmp (0 : Int64) (0 : Int64) = nI 0 from by decide]
                refine z_if_ge_N (tgt := 107) zh (by decide) dX9_stress_98 rfl ?_
                refine z_iincN zh dX9_stress_107 ki_1 (by decide) rfl (L' := [some (rf g 551), some (.int x), some (.int (nI 0)), some (.int (nI (k23 + 1))), some (.long (0 : Int64)), none, some (.int (nI k53))]) rfl ?_
                refine z_goto (tgt := 23) zh dX9_stress_110 rfl ?_
                refine z_forget zh [true, true, true, true, false, false, false] (L2 := [some (rf g 551), some (.int x), some (.int (nI 0)), some (.int (nI (k23 + 1))), none, none, none]) rfl ?_; exact ih23 (k23 + 1) iv lv hG (by omega) (by omega)
              · refine z_lload zh dX9_stress_60 rfl ?_
                refine z_aloadnR zh dX9_stress_62 rfl ?_
                refine z_iloadn zh dX9_stress_63 rfl ?_
                refine z_iload zh dX9_stress_64 rfl ?_
                refine z_callVIp zh mv_Y_119 dX9_stress_66 ck_Y rfl (c_y_positionOf g (by omega) (by omega) hG) ⟨Nat.le_of_ble_eq_true rfl, Nat.le_of_ble_eq_true rfl⟩ rfl rfl (Nat.le_of_ble_eq_true rfl) ?_
                refine z_i2l zh dX9_stress_69 ?_
                rw [show (nI 0).toInt64 = (0 : Int64) from by decide]
                refine z_aloadnR zh dX9_stress_70 rfl ?_
                refine z_iload zh dX9_stress_71 rfl ?_
                refine z_callVIp zh mv_Y_203 dX9_stress_73 ck_Y rfl (c_y_markedOf g (by omega) hG) ⟨Nat.le_of_ble_eq_true rfl, Nat.le_of_ble_eq_true rfl⟩ rfl rfl (Nat.le_of_ble_eq_true rfl) ?_
                refine z_i2l zh dX9_stress_76 ?_
                rw [show (nI 100).toInt64 = (100 : Int64) from by decide]
                refine z_lmul zh dX9_stress_77 ?_
                rw [show (0 : Int64) * (100 : Int64) = (0 : Int64) from by decide]
                refine z_iloadn zh dX9_stress_78 rfl ?_
                refine z_i2l zh dX9_stress_79 ?_
                refine z_lmul zh dX9_stress_80 ?_
                rw [show (0 : Int64) * x.toInt64 = (0 : Int64) from Int64.zero_mul]
                refine z_ldc2 zh dX9_stress_81 kl_Y_316 ?_
                refine z_ldiv zh dX9_stress_84 (by decide) ?_
                rw [show (0 : Int64) / (100 : Int64) = (0 : Int64) from by decide]
                refine z_ladd zh dX9_stress_85 ?_
                rw [show (0 : Int64) + (0 : Int64) = (0 : Int64) from by decide]
                refine z_lstore zh dX9_stress_86 (by decide) (L' := [some (rf g 551), some (.int x), some (.int (nI 0)), some (.int (nI k23)), some (.long (0 : Int64)), none, some (.int (nI k53))]) rfl ?_
                refine z_iincN zh dX9_stress_88 ki_1 (by decide) rfl (L' := [some (rf g 551), some (.int x), some (.int (nI 0)), some (.int (nI k23)), some (.long (0 : Int64)), none, some (.int (nI (k53 + 1)))]) rfl ?_
                refine z_goto (tgt := 53) zh dX9_stress_91 rfl ?_
                exact ih53 (k53 + 1) iv lv hG (by omega) (by omega)
          exact hl53 7 0 iv lv hG (by omega) (by omega)
    exact hl23 7 0 iv lv hG (by omega) (by omega)
  · refine z_iconst zh dX9_stress_17 ki_m1 ?_
    exact z_iret zh dX9_stress_18 (⟨_, rfl, (by first | rfl | simp (decide := true) only [sel_t, sel_f, selL_t, selL_f, bi_t, bi_f, sel_same, selL_same, eq_self, hp1])⟩)
