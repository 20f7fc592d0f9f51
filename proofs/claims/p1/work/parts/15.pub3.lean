theorem okR_fr {t c : Nat} {dd : Nat → Nat} {dm : Nat} {iv iv2 : Iv} {lv : Lv} (hF : Fr t c iv iv2) (h : t + 2 + c ≤ 551) (hR : OkR dd dm iv lv) : OkR dd dm iv2 lv := ⟨fun k j x hk hx => (hF k j (Or.inr (by omega))).trans (hR.1 k j x hk hx), hR.2⟩
set_option maxRecDepth 20000 in
theorem c_addDeal (g : GE) {h : Nat} {b s i n p a : Int32} {iv : Iv} {lv : Lv} {dd : Nat → Nat} {dm : Nat} (hh : isH h) (hG : Ok1 dd dm iv lv) : ConI g yX1_addDeal cX1_addDeal 8 (some .int) 3 [rf g h, .int b, .int s, .int i, .int n, .int p, .int a] iv lv (fun r iv' lv' => r = sp_trade b s i n p ∧ OkR (fun _ => 0) dm iv' lv') := by
  refine con_intro (own := "RollingNets$House") (by decide +kernel) rfl (Nat.le_of_ble_eq_true rfl) (L0 := [some (rf g h), some (.int b), some (.int s), some (.int i), some (.int n), some (.int p), some (.int a), none]) rfl (fun Z zh => ?_)
  refine z_aloadnR zh dX1_addDeal_0 rfl ?_
  refine z_iloadn zh dX1_addDeal_1 rfl ?_
  refine z_callVIp zh mv_House_122 dX1_addDeal_2 (ck_H hh) rfl (c_hasMember g hh hG) ⟨Nat.le_of_ble_eq_true rfl, Nat.le_of_ble_eq_true rfl⟩ rfl rfl (Nat.le_of_ble_eq_true rfl) ?_
  refine z_if_eq_B (tgt := 28) zh dX1_addDeal_5 rfl (fun hp1 => ?_) (fun hp1 => ?_)
  · refine z_iconst zh dX1_addDeal_28 ki_m1 ?_
    exact z_iret zh dX1_addDeal_29 (⟨_, rfl, (by first | rfl | simp (decide := true) only [sp_trade, sel_t, sel_f, selL_t, selL_f, bi_t, bi_f, sel_same, selL_same, eq_self, hp1]), (by repeat (first | assumption | exact okR_fr hF (by rcases hh with rfl | rfl | rfl <;> omega) (okR_of (by assumption)) | exact okR_of (by assumption) | refine okR_lI (by first | omega | (have := isM_lt (by assumption); omega) | (have := isH_lt (by assumption); omega)) ?_ | refine okR_lL (by first | omega | (have := isM_lt (by assumption); omega) | (have := isH_lt (by assumption); omega)) ?_))⟩)
  · obtain ⟨jb, hjb, rfl⟩ := id hp1
    refine z_aloadnR zh dX1_addDeal_8 rfl ?_
    refine z_iloadn zh dX1_addDeal_9 rfl ?_
    refine z_callVIp zh mv_House_122 dX1_addDeal_10 (ck_H hh) rfl (c_hasMember g hh hG) ⟨Nat.le_of_ble_eq_true rfl, Nat.le_of_ble_eq_true rfl⟩ rfl rfl (Nat.le_of_ble_eq_true rfl) ?_
    refine z_if_eq_B (tgt := 28) zh dX1_addDeal_13 rfl (fun hp2 => ?_) (fun hp2 => ?_)
    · refine z_iconst zh dX1_addDeal_28 ki_m1 ?_
      exact z_iret zh dX1_addDeal_29 (⟨_, rfl, (by first | rfl | simp (decide := true) only [sp_trade, sel_t, sel_f, selL_t, selL_f, bi_t, bi_f, sel_same, selL_same, eq_self, hp1, hp2]), (by repeat (first | assumption | exact okR_fr hF (by rcases hh with rfl | rfl | rfl <;> omega) (okR_of (by assumption)) | exact okR_of (by assumption) | refine okR_lI (by first | omega | (have := isM_lt (by assumption); omega) | (have := isH_lt (by assumption); omega)) ?_ | refine okR_lL (by first | omega | (have := isM_lt (by assumption); omega) | (have := isH_lt (by assumption); omega)) ?_))⟩)
    · obtain ⟨js, hjs, rfl⟩ := id hp2
      refine z_iloadn zh dX1_addDeal_16 rfl ?_
      refine z_iloadn zh dX1_addDeal_17 rfl ?_
      refine z_icmp_eq_N (tgt := 28) zh (by omega) (by omega) dX1_addDeal_18 rfl (fun hb3 => ?_) (fun hb3 => ?_)
      · have hb3N : nI jb = nI js := by rw [hb3]
        refine z_iconst zh dX1_addDeal_28 ki_m1 ?_
        exact z_iret zh dX1_addDeal_29 (⟨_, rfl, (by first | rfl | simp (decide := true) only [sp_trade, sel_t, sel_f, selL_t, selL_f, bi_t, bi_f, sel_same, selL_same, eq_self, hp1, hp2, hb3, hb3N]), (by repeat (first | assumption | exact okR_fr hF (by rcases hh with rfl | rfl | rfl <;> omega) (okR_of (by assumption)) | exact okR_of (by assumption) | refine okR_lI (by first | omega | (have := isM_lt (by assumption); omega) | (have := isH_lt (by assumption); omega)) ?_ | refine okR_lL (by first | omega | (have := isM_lt (by assumption); omega) | (have := isH_lt (by assumption); omega)) ?_))⟩)
      · have hb3N : ¬ nI jb = nI js := fun e => hb3 ((nI_eq (by omega) (by omega)).mp e)
        refine z_iloadn zh dX1_addDeal_21 rfl ?_
        refine z_callSIp zh ms_House_134 dX1_addDeal_22 (c_isIssue g) ⟨Nat.le_of_ble_eq_true rfl, Nat.le_of_ble_eq_true rfl⟩ rfl rfl (Nat.le_of_ble_eq_true rfl) ?_
        refine z_if_ne_B (tgt := 30) zh dX1_addDeal_25 rfl (fun hp4 => ?_) (fun hp4 => ?_)
        · obtain ⟨ji, hji, rfl⟩ := id hp4
          refine z_iload zh dX1_addDeal_30 rfl ?_
          refine z_iconst zh dX1_addDeal_32 ki_1 ?_
          refine z_sipush zh dX1_addDeal_33 ks_9999 ?_
          refine z_callSIp zh ms_House_137 dX1_addDeal_36 (c_within g) ⟨Nat.le_of_ble_eq_true rfl, Nat.le_of_ble_eq_true rfl⟩ rfl rfl (Nat.le_of_ble_eq_true rfl) ?_
          refine z_if_eq_B (tgt := 54) zh dX1_addDeal_39 rfl (fun hp5 => ?_) (fun hp5 => ?_)
          · refine z_iconst zh dX1_addDeal_54 ki_m1 ?_
            exact z_iret zh dX1_addDeal_55 (⟨_, rfl, (by first | rfl | simp (decide := true) only [sp_trade, sel_t, sel_f, selL_t, selL_f, bi_t, bi_f, sel_same, selL_same, eq_self, hp1, hp2, hb3, hb3N, hp4, hp5]), (by repeat (first | assumption | exact okR_fr hF (by rcases hh with rfl | rfl | rfl <;> omega) (okR_of (by assumption)) | exact okR_of (by assumption) | refine okR_lI (by first | omega | (have := isM_lt (by assumption); omega) | (have := isH_lt (by assumption); omega)) ?_ | refine okR_lL (by first | omega | (have := isM_lt (by assumption); omega) | (have := isH_lt (by assumption); omega)) ?_))⟩)
          · refine z_iload zh dX1_addDeal_42 rfl ?_
            refine z_iconst zh dX1_addDeal_44 ki_1 ?_
            refine z_sipush zh dX1_addDeal_45 ks_9999 ?_
            refine z_callSIp zh ms_House_137 dX1_addDeal_48 (c_within g) ⟨Nat.le_of_ble_eq_true rfl, Nat.le_of_ble_eq_true rfl⟩ rfl rfl (Nat.le_of_ble_eq_true rfl) ?_
            refine z_if_ne_B (tgt := 56) zh dX1_addDeal_51 rfl (fun hp6 => ?_) (fun hp6 => ?_)
            · refine z_aloadnR zh dX1_addDeal_56 rfl ?_
              refine z_getf zh fl_House_43 dX1_addDeal_57 (ck_H hh) rfl rfl ?_
              refine z_callVI zh mv_House_126 dX1_addDeal_60 (ck_T (isT_d hh)) rfl (c_addRow g (isT_d hh) (a1_cd hG hh) (by omega) (by omega) (by omega)) ⟨Nat.le_of_ble_eq_true rfl, Nat.le_of_ble_eq_true rfl⟩ rfl rfl (Nat.le_of_ble_eq_true rfl) ?_
              rintro _ iv lv ⟨rfl, rfl, hc, hF⟩
              refine z_istore zh dX1_addDeal_63 (by decide) (L' := [some (rf g h), some (.int (nI jb)), some (.int (nI js)), some (.int (nI ji)), some (.int n), some (.int p), some (.int a), some (.int (nI 0))]) rfl ?_
              refine z_aloadnR zh dX1_addDeal_65 rfl ?_
              refine z_getf zh fl_House_43 dX1_addDeal_66 (ck_H hh) rfl rfl ?_
              refine z_iconst zh dX1_addDeal_69 ki_0 ?_
              refine z_iload zh dX1_addDeal_70 rfl ?_
              refine z_iloadn zh dX1_addDeal_72 rfl ?_
              refine z_callVV zh mv_House_130 dX1_addDeal_73 (ck_T (isT_d hh)) rfl (c_put g (isT_d hh) hc (by omega) (by omega) (by omega) (by omega) (by omega)) ⟨Nat.le_of_ble_eq_true rfl, Nat.le_of_ble_eq_true rfl⟩ rfl rfl (Nat.le_of_ble_eq_true rfl) ?_
              rintro iv lv ⟨rfl, hc, hF2⟩
              replace hF := hF.trans hF2
              refine z_aloadnR zh dX1_addDeal_76 rfl ?_
              refine z_getf zh fl_House_43 dX1_addDeal_77 (ck_H hh) rfl rfl ?_
              refine z_iconst zh dX1_addDeal_80 ki_1 ?_
              refine z_iload zh dX1_addDeal_81 rfl ?_
              refine z_iloadn zh dX1_addDeal_83 rfl ?_
              refine z_callVV zh mv_House_130 dX1_addDeal_84 (ck_T (isT_d hh)) rfl (c_put g (isT_d hh) hc (by omega) (by omega) (by omega) (by omega) (by omega)) ⟨Nat.le_of_ble_eq_true rfl, Nat.le_of_ble_eq_true rfl⟩ rfl rfl (Nat.le_of_ble_eq_true rfl) ?_
              rintro iv lv ⟨rfl, hc, hF2⟩
              replace hF := hF.trans hF2
              refine z_aloadnR zh dX1_addDeal_87 rfl ?_
              refine z_getf zh fl_House_43 dX1_addDeal_88 (ck_H hh) rfl rfl ?_
              refine z_iconst zh dX1_addDeal_91 ki_2 ?_
              refine z_iload zh dX1_addDeal_92 rfl ?_
              refine z_iloadn zh dX1_addDeal_94 rfl ?_
              refine z_callVV zh mv_House_130 dX1_addDeal_95 (ck_T (isT_d hh)) rfl (c_put g (isT_d hh) hc (by omega) (by omega) (by omega) (by omega) (by omega)) ⟨Nat.le_of_ble_eq_true rfl, Nat.le_of_ble_eq_true rfl⟩ rfl rfl (Nat.le_of_ble_eq_true rfl) ?_
              rintro iv lv ⟨rfl, hc, hF2⟩
              replace hF := hF.trans hF2
              refine z_aloadnR zh dX1_addDeal_98 rfl ?_
              refine z_getf zh fl_House_43 dX1_addDeal_99 (ck_H hh) rfl rfl ?_
              refine z_iconst zh dX1_addDeal_102 ki_3 ?_
              refine z_iload zh dX1_addDeal_103 rfl ?_
              refine z_iload zh dX1_addDeal_105 rfl ?_
              refine z_callVV zh mv_House_130 dX1_addDeal_107 (ck_T (isT_d hh)) rfl (c_put g (isT_d hh) hc (by omega) (by omega) (by omega) (by omega) (by omega)) ⟨Nat.le_of_ble_eq_true rfl, Nat.le_of_ble_eq_true rfl⟩ rfl rfl (Nat.le_of_ble_eq_true rfl) ?_
              rintro iv lv ⟨rfl, hc, hF2⟩
              replace hF := hF.trans hF2
              refine z_aloadnR zh dX1_addDeal_110 rfl ?_
              refine z_getf zh fl_House_43 dX1_addDeal_111 (ck_H hh) rfl rfl ?_
              refine z_iconst zh dX1_addDeal_114 ki_4 ?_
              refine z_iload zh dX1_addDeal_115 rfl ?_
              refine z_iload zh dX1_addDeal_117 rfl ?_
              refine z_callVV zh mv_House_130 dX1_addDeal_119 (ck_T (isT_d hh)) rfl (c_put g (isT_d hh) hc (by omega) (by omega) (by omega) (by omega) (by omega)) ⟨Nat.le_of_ble_eq_true rfl, Nat.le_of_ble_eq_true rfl⟩ rfl rfl (Nat.le_of_ble_eq_true rfl) ?_
              rintro iv lv ⟨rfl, hc, hF2⟩
              replace hF := hF.trans hF2
              refine z_aloadnR zh dX1_addDeal_122 rfl ?_
              refine z_getf zh fl_House_43 dX1_addDeal_123 (ck_H hh) rfl rfl ?_
              refine z_iconst zh dX1_addDeal_126 ki_5 ?_
              refine z_iload zh dX1_addDeal_127 rfl ?_
              refine z_iload zh dX1_addDeal_129 rfl ?_
              refine z_callVV zh mv_House_130 dX1_addDeal_131 (ck_T (isT_d hh)) rfl (c_put g (isT_d hh) hc (by omega) (by omega) (by omega) (by omega) (by omega)) ⟨Nat.le_of_ble_eq_true rfl, Nat.le_of_ble_eq_true rfl⟩ rfl rfl (Nat.le_of_ble_eq_true rfl) ?_
              rintro iv lv ⟨rfl, hc, hF2⟩
              replace hF := hF.trans hF2
              refine z_aloadnR zh dX1_addDeal_134 rfl ?_
              refine z_getf zh fl_House_43 dX1_addDeal_135 (ck_H hh) rfl rfl ?_
              refine z_bipush zh dX1_addDeal_138 kb_6 ?_
              refine z_iload zh dX1_addDeal_140 rfl ?_
              refine z_aloadnR zh dX1_addDeal_142 rfl ?_
              refine z_getI (x := nI (dd h)) zh fl_House_60 dX1_addDeal_143 (ck_H hh) rfl rfl ((hF _ _ (by omega)).trans (a1_day hG hh)) ?_
              refine z_aloadnR zh dX1_addDeal_146 rfl ?_
              refine z_getf zh fl_House_13 dX1_addDeal_147 (ck_H hh) rfl rfl ?_
              refine z_iconst zh dX1_addDeal_150 ki_1 ?_
              refine z_ialdE (x := nI 2) zh (ck_told hh) dX1_addDeal_151 (by decide) ((hF _ _ (by omega)).trans (a1_told hG hh 1)) ?_
              refine z_iaddN zh dX1_addDeal_152 ?_
              refine z_callVV zh mv_House_130 dX1_addDeal_153 (ck_T (isT_d hh)) rfl (c_put g (isT_d hh) hc (by omega) (by omega) (by omega) (by omega) (by omega)) ⟨Nat.le_of_ble_eq_true rfl, Nat.le_of_ble_eq_true rfl⟩ rfl rfl (Nat.le_of_ble_eq_true rfl) ?_
              rintro iv lv ⟨rfl, hc, hF2⟩
              replace hF := hF.trans hF2
              refine z_aloadnR zh dX1_addDeal_156 rfl ?_
              refine z_getf zh fl_House_43 dX1_addDeal_157 (ck_H hh) rfl rfl ?_
              refine z_bipush zh dX1_addDeal_160 kb_7 ?_
              refine z_iload zh dX1_addDeal_162 rfl ?_
              refine z_iload zh dX1_addDeal_164 rfl ?_
              refine z_callVV zh mv_House_130 dX1_addDeal_166 (ck_T (isT_d hh)) rfl (c_put g (isT_d hh) hc (by omega) (by omega) (by omega) (by omega) (by omega)) ⟨Nat.le_of_ble_eq_true rfl, Nat.le_of_ble_eq_true rfl⟩ rfl rfl (Nat.le_of_ble_eq_true rfl) ?_
              rintro iv lv ⟨rfl, hc, hF2⟩
              replace hF := hF.trans hF2
              refine z_iload zh dX1_addDeal_169 rfl ?_
              exact z_iret zh dX1_addDeal_171 (⟨_, rfl, (by first | rfl | simp (decide := true) only [sp_trade, sel_t, sel_f, selL_t, selL_f, bi_t, bi_f, sel_same, selL_same, eq_self, hp1, hp2, hb3, hb3N, hp4, hp5, hp6]), (by repeat (first | assumption | exact okR_fr hF (by rcases hh with rfl | rfl | rfl <;> omega) (okR_of (by assumption)) | exact okR_of (by assumption) | refine okR_lI (by first | omega | (have := isM_lt (by assumption); omega) | (have := isH_lt (by assumption); omega)) ?_ | refine okR_lL (by first | omega | (have := isM_lt (by assumption); omega) | (have := isH_lt (by assumption); omega)) ?_))⟩)
            · refine z_iconst zh dX1_addDeal_54 ki_m1 ?_
              exact z_iret zh dX1_addDeal_55 (⟨_, rfl, (by first | rfl | simp (decide := true) only [sp_trade, sel_t, sel_f, selL_t, selL_f, bi_t, bi_f, sel_same, selL_same, eq_self, hp1, hp2, hb3, hb3N, hp4, hp5, hp6]), (by repeat (first | assumption | exact okR_fr hF (by rcases hh with rfl | rfl | rfl <;> omega) (okR_of (by assumption)) | exact okR_of (by assumption) | refine okR_lI (by first | omega | (have := isM_lt (by assumption); omega) | (have := isH_lt (by assumption); omega)) ?_ | refine okR_lL (by first | omega | (have := isM_lt (by assumption); omega) | (have := isH_lt (by assumption); omega)) ?_))⟩)
        · refine z_iconst zh dX1_addDeal_28 ki_m1 ?_
          exact z_iret zh dX1_addDeal_29 (⟨_, rfl, (by first | rfl | simp (decide := true) only [sp_trade, sel_t, sel_f, selL_t, selL_f, bi_t, bi_f, sel_same, selL_same, eq_self, hp1, hp2, hb3, hb3N, hp4]), (by repeat (first | assumption | exact okR_fr hF (by rcases hh with rfl | rfl | rfl <;> omega) (okR_of (by assumption)) | exact okR_of (by assumption) | refine okR_lI (by first | omega | (have := isM_lt (by assumption); omega) | (have := isH_lt (by assumption); omega)) ?_ | refine okR_lL (by first | omega | (have := isM_lt (by assumption); omega) | (have := isH_lt (by assumption); omega)) ?_))⟩)
set_option maxRecDepth 20000 in
theorem c_X_trade (g : GE) {b s i n p : Int32} {iv : Iv} {lv : Lv} {dd : Nat → Nat} {dm : Nat}  (hG : Ok1 dd dm iv lv) : ConI g yX8_trade cX8_trade 6 (some .int) 4 [rf g 0, .int b, .int s, .int i, .int n, .int p] iv lv (fun r iv' lv' => r = sp_trade b s i n p ∧ OkR (fun _ => 0) dm iv' lv') := by
  refine con_intro (own := "RollingNets") (by decide +kernel) rfl (Nat.le_of_ble_eq_true rfl) (L0 := [some (rf g 0), some (.int b), some (.int s), some (.int i), some (.int n), some (.int p)]) rfl (fun Z zh => ?_)
  refine z_aloadnR zh dX8_trade_0 rfl ?_
  refine z_getf zh fl_RollingNets_12 dX8_trade_1 ck_X rfl rfl ?_
  refine z_iloadn zh dX8_trade_4 rfl ?_
  refine z_iloadn zh dX8_trade_5 rfl ?_
  refine z_iloadn zh dX8_trade_6 rfl ?_
  refine z_iload zh dX8_trade_7 rfl ?_
  refine z_iload zh dX8_trade_9 rfl ?_
  refine z_iconst zh dX8_trade_11 ki_0 ?_
  refine z_callVI zh mv_RollingNets_95 dX8_trade_12 (ck_H isH_1) rfl (c_addDeal g isH_1 hG) ⟨Nat.le_of_ble_eq_true rfl, Nat.le_of_ble_eq_true rfl⟩ rfl rfl (Nat.le_of_ble_eq_true rfl) ?_
  rintro _ iv lv ⟨rfl, hR⟩
  exact z_iret zh dX8_trade_15 (⟨_, rfl, rfl, (by repeat (first | assumption | exact okR_of (by assumption) | refine okR_lI (by first | omega | (have := isM_lt (by assumption); omega) | (have := isH_lt (by assumption); omega)) ?_ | refine okR_lL (by first | omega | (have := isM_lt (by assumption); omega) | (have := isH_lt (by assumption); omega)) ?_))⟩)
set_option maxRecDepth 20000 in
theorem c_X_apart (g : GE) {b s i n p : Int32} {iv : Iv} {lv : Lv} {dd : Nat → Nat} {dm : Nat}  (hG : Ok1 dd dm iv lv) : ConI g yX8_apart cX8_apart 6 (some .int) 4 [rf g 0, .int b, .int s, .int i, .int n, .int p] iv lv (fun r iv' lv' => r = sp_trade b s i n p ∧ OkR (fun _ => 0) dm iv' lv') := by
  refine con_intro (own := "RollingNets") (by decide +kernel) rfl (Nat.le_of_ble_eq_true rfl) (L0 := [some (rf g 0), some (.int b), some (.int s), some (.int i), some (.int n), some (.int p)]) rfl (fun Z zh => ?_)
  refine z_aloadnR zh dX8_apart_0 rfl ?_
  refine z_getf zh fl_RollingNets_12 dX8_apart_1 ck_X rfl rfl ?_
  refine z_iloadn zh dX8_apart_4 rfl ?_
  refine z_iloadn zh dX8_apart_5 rfl ?_
  refine z_iloadn zh dX8_apart_6 rfl ?_
  refine z_iload zh dX8_apart_7 rfl ?_
  refine z_iload zh dX8_apart_9 rfl ?_
  refine z_iconst zh dX8_apart_11 ki_1 ?_
  refine z_callVI zh mv_RollingNets_95 dX8_apart_12 (ck_H isH_1) rfl (c_addDeal g isH_1 hG) ⟨Nat.le_of_ble_eq_true rfl, Nat.le_of_ble_eq_true rfl⟩ rfl rfl (Nat.le_of_ble_eq_true rfl) ?_
  rintro _ iv lv ⟨rfl, hR⟩
  exact z_iret zh dX8_apart_15 (⟨_, rfl, rfl, (by repeat (first | assumption | exact okR_of (by assumption) | refine okR_lI (by first | omega | (have := isM_lt (by assumption); omega) | (have := isH_lt (by assumption); omega)) ?_ | refine okR_lL (by first | omega | (have := isM_lt (by assumption); omega) | (have := isH_lt (by assumption); omega)) ?_))⟩)
set_option maxRecDepth 20000 in
theorem c_append (g : GE) {l dm : Nat} {x : Int32} {iv : Iv} {lv : Lv}  (hl : iv 541 1 = nI l) (hl4 : l + 4 ≤ 400) (hR : OkR (fun _ => 0) dm iv lv)  : ConV g yX6_append cX6_append 3 none 1 [rf g 541, .int x] iv lv (fun iv' lv' => iv' 541 1 = nI (l + 1 + 1 + 1 + 1) ∧ OkR (fun _ => 0) dm iv' lv') := by
  refine con_intro (own := "RollingNets$Reader") (by decide +kernel) rfl (Nat.le_of_ble_eq_true rfl) (L0 := [some (rf g 541), some (.int x), none]) rfl (fun Z zh => ?_)
  refine z_bipush zh dX6_append_0 kb_24 ?_
  refine z_istoren zh dX6_append_2 (by decide) (L' := [some (rf g 541), some (.int x), some (.int (nI 24))]) rfl ?_
  refine z_iloadn zh dX6_append_3 rfl ?_
  refine z_if_lt_N (tgt := 49) zh (by decide) dX6_append_4 rfl ?_
  refine z_aloadnR zh dX6_append_7 rfl ?_
  refine z_getI (x := nI l) zh fl_Reader_15 dX6_append_8 ck_R rfl rfl hl ?_
  refine z_sipush zh dX6_append_11 ks_400 ?_
  refine z_icmp_ge_N (tgt := 49) zh (by omega) (by decide) dX6_append_14 rfl (fun q => absurd q (by omega)) (fun _ => ?_)
  refine z_aloadnR zh dX6_append_17 rfl ?_
  refine z_getf zh fl_Reader_9 dX6_append_18 ck_R rfl rfl ?_
  refine z_aloadnR zh dX6_append_21 rfl ?_
  refine z_getI (x := nI l) zh fl_Reader_15 dX6_append_22 ck_R rfl rfl hl ?_
  refine z_iloadn zh dX6_append_25 rfl ?_
  refine z_iloadn zh dX6_append_26 rfl ?_
  refine z_ishr zh dX6_append_27 ?_
  refine z_sipush zh dX6_append_28 ks_255 ?_
  refine z_iand zh dX6_append_31 ?_
  refine z_iastN zh ck_tape dX6_append_32 (by omega) ?_
  have hl : upI iv 542 (l) ((x >>> (nI 24 &&& 31)) &&& (nI 255)) 541 1 = nI l := by rw [upI_at, if_neg (by omega)]; exact hl
  have hR := okR_lI (k := 542) (j := l) (x := (x >>> (nI 24 &&& 31)) &&& (nI 255)) (by omega) hR
  generalize upI iv 542 (l) ((x >>> (nI 24 &&& 31)) &&& (nI 255)) = iv at hl hR ⊢
  refine z_aloadnR zh dX6_append_33 rfl ?_
  refine z_dup zh dX6_append_34 rfl ?_
  refine z_getI (x := nI l) zh fl_Reader_15 dX6_append_35 ck_R rfl rfl hl ?_
  refine z_iconst zh dX6_append_38 ki_1 ?_
  refine z_iaddN zh dX6_append_39 ?_
  refine z_putI zh fl_Reader_15 dX6_append_40 ck_R rfl rfl (Nat.le_of_ble_eq_true rfl) (Or.inl rfl) ?_
  have hl : upI iv 541 1 (nI (l + 1)) 541 1 = nI (l + 1) := by rw [upI_at, if_pos ⟨rfl, rfl⟩]
  have hR := okR_lI (k := 541) (j := 1) (x := nI (l + 1)) (by omega) hR
  generalize upI iv 541 1 (nI (l + 1)) = iv at hl hR ⊢
  refine z_iinc zh dX6_append_43 (by decide) rfl (v := nI 16) (by decide) (L' := [some (rf g 541), some (.int x), some (.int (nI 16))]) rfl ?_
  refine z_goto (tgt := 3) zh dX6_append_46 rfl ?_
  refine z_iloadn zh dX6_append_3 rfl ?_
  refine z_if_lt_N (tgt := 49) zh (by decide) dX6_append_4 rfl ?_
  refine z_aloadnR zh dX6_append_7 rfl ?_
  refine z_getI (x := nI (l + 1)) zh fl_Reader_15 dX6_append_8 ck_R rfl rfl hl ?_
  refine z_sipush zh dX6_append_11 ks_400 ?_
  refine z_icmp_ge_N (tgt := 49) zh (by omega) (by decide) dX6_append_14 rfl (fun q => absurd q (by omega)) (fun _ => ?_)
  refine z_aloadnR zh dX6_append_17 rfl ?_
  refine z_getf zh fl_Reader_9 dX6_append_18 ck_R rfl rfl ?_
  refine z_aloadnR zh dX6_append_21 rfl ?_
  refine z_getI (x := nI (l + 1)) zh fl_Reader_15 dX6_append_22 ck_R rfl rfl hl ?_
  refine z_iloadn zh dX6_append_25 rfl ?_
  refine z_iloadn zh dX6_append_26 rfl ?_
  refine z_ishr zh dX6_append_27 ?_
  refine z_sipush zh dX6_append_28 ks_255 ?_
  refine z_iand zh dX6_append_31 ?_
  refine z_iastN zh ck_tape dX6_append_32 (by omega) ?_
  have hl : upI iv 542 (l + 1) ((x >>> (nI 16 &&& 31)) &&& (nI 255)) 541 1 = nI (l + 1) := by rw [upI_at, if_neg (by omega)]; exact hl
  have hR := okR_lI (k := 542) (j := l + 1) (x := (x >>> (nI 16 &&& 31)) &&& (nI 255)) (by omega) hR
  generalize upI iv 542 (l + 1) ((x >>> (nI 16 &&& 31)) &&& (nI 255)) = iv at hl hR ⊢
  refine z_aloadnR zh dX6_append_33 rfl ?_
  refine z_dup zh dX6_append_34 rfl ?_
  refine z_getI (x := nI (l + 1)) zh fl_Reader_15 dX6_append_35 ck_R rfl rfl hl ?_
  refine z_iconst zh dX6_append_38 ki_1 ?_
  refine z_iaddN zh dX6_append_39 ?_
  refine z_putI zh fl_Reader_15 dX6_append_40 ck_R rfl rfl (Nat.le_of_ble_eq_true rfl) (Or.inl rfl) ?_
  have hl : upI iv 541 1 (nI ((l + 1) + 1)) 541 1 = nI ((l + 1) + 1) := by rw [upI_at, if_pos ⟨rfl, rfl⟩]
  have hR := okR_lI (k := 541) (j := 1) (x := nI ((l + 1) + 1)) (by omega) hR
  generalize upI iv 541 1 (nI ((l + 1) + 1)) = iv at hl hR ⊢
  refine z_iinc zh dX6_append_43 (by decide) rfl (v := nI 8) (by decide) (L' := [some (rf g 541), some (.int x), some (.int (nI 8))]) rfl ?_
  refine z_goto (tgt := 3) zh dX6_append_46 rfl ?_
  refine z_iloadn zh dX6_append_3 rfl ?_
  refine z_if_lt_N (tgt := 49) zh (by decide) dX6_append_4 rfl ?_
  refine z_aloadnR zh dX6_append_7 rfl ?_
  refine z_getI (x := nI ((l + 1) + 1)) zh fl_Reader_15 dX6_append_8 ck_R rfl rfl hl ?_
  refine z_sipush zh dX6_append_11 ks_400 ?_
  refine z_icmp_ge_N (tgt := 49) zh (by omega) (by decide) dX6_append_14 rfl (fun q => absurd q (by omega)) (fun _ => ?_)
  refine z_aloadnR zh dX6_append_17 rfl ?_
  refine z_getf zh fl_Reader_9 dX6_append_18 ck_R rfl rfl ?_
  refine z_aloadnR zh dX6_append_21 rfl ?_
  refine z_getI (x := nI ((l + 1) + 1)) zh fl_Reader_15 dX6_append_22 ck_R rfl rfl hl ?_
  refine z_iloadn zh dX6_append_25 rfl ?_
  refine z_iloadn zh dX6_append_26 rfl ?_
  refine z_ishr zh dX6_append_27 ?_
  refine z_sipush zh dX6_append_28 ks_255 ?_
  refine z_iand zh dX6_append_31 ?_
  refine z_iastN zh ck_tape dX6_append_32 (by omega) ?_
  have hl : upI iv 542 ((l + 1) + 1) ((x >>> (nI 8 &&& 31)) &&& (nI 255)) 541 1 = nI ((l + 1) + 1) := by rw [upI_at, if_neg (by omega)]; exact hl
  have hR := okR_lI (k := 542) (j := (l + 1) + 1) (x := (x >>> (nI 8 &&& 31)) &&& (nI 255)) (by omega) hR
  generalize upI iv 542 ((l + 1) + 1) ((x >>> (nI 8 &&& 31)) &&& (nI 255)) = iv at hl hR ⊢
  refine z_aloadnR zh dX6_append_33 rfl ?_
  refine z_dup zh dX6_append_34 rfl ?_
  refine z_getI (x := nI ((l + 1) + 1)) zh fl_Reader_15 dX6_append_35 ck_R rfl rfl hl ?_
  refine z_iconst zh dX6_append_38 ki_1 ?_
  refine z_iaddN zh dX6_append_39 ?_
  refine z_putI zh fl_Reader_15 dX6_append_40 ck_R rfl rfl (Nat.le_of_ble_eq_true rfl) (Or.inl rfl) ?_
  have hl : upI iv 541 1 (nI (((l + 1) + 1) + 1)) 541 1 = nI (((l + 1) + 1) + 1) := by rw [upI_at, if_pos ⟨rfl, rfl⟩]
  have hR := okR_lI (k := 541) (j := 1) (x := nI (((l + 1) + 1) + 1)) (by omega) hR
  generalize upI iv 541 1 (nI (((l + 1) + 1) + 1)) = iv at hl hR ⊢
  refine z_iinc zh dX6_append_43 (by decide) rfl (v := nI 0) (by decide) (L' := [some (rf g 541), some (.int x), some (.int (nI 0))]) rfl ?_
  refine z_goto (tgt := 3) zh dX6_append_46 rfl ?_
  refine z_iloadn zh dX6_append_3 rfl ?_
  refine z_if_lt_N (tgt := 49) zh (by decide) dX6_append_4 rfl ?_
  refine z_aloadnR zh dX6_append_7 rfl ?_
  refine z_getI (x := nI (((l + 1) + 1) + 1)) zh fl_Reader_15 dX6_append_8 ck_R rfl rfl hl ?_
  refine z_sipush zh dX6_append_11 ks_400 ?_
  refine z_icmp_ge_N (tgt := 49) zh (by omega) (by decide) dX6_append_14 rfl (fun q => absurd q (by omega)) (fun _ => ?_)
  refine z_aloadnR zh dX6_append_17 rfl ?_
  refine z_getf zh fl_Reader_9 dX6_append_18 ck_R rfl rfl ?_
  refine z_aloadnR zh dX6_append_21 rfl ?_
  refine z_getI (x := nI (((l + 1) + 1) + 1)) zh fl_Reader_15 dX6_append_22 ck_R rfl rfl hl ?_
  refine z_iloadn zh dX6_append_25 rfl ?_
  refine z_iloadn zh dX6_append_26 rfl ?_
  refine z_ishr zh dX6_append_27 ?_
  refine z_sipush zh dX6_append_28 ks_255 ?_
  refine z_iand zh dX6_append_31 ?_
  refine z_iastN zh ck_tape dX6_append_32 (by omega) ?_
  have hl : upI iv 542 (((l + 1) + 1) + 1) ((x >>> (nI 0 &&& 31)) &&& (nI 255)) 541 1 = nI (((l + 1) + 1) + 1) := by rw [upI_at, if_neg (by omega)]; exact hl
  have hR := okR_lI (k := 542) (j := ((l + 1) + 1) + 1) (x := (x >>> (nI 0 &&& 31)) &&& (nI 255)) (by omega) hR
  generalize upI iv 542 (((l + 1) + 1) + 1) ((x >>> (nI 0 &&& 31)) &&& (nI 255)) = iv at hl hR ⊢
  refine z_aloadnR zh dX6_append_33 rfl ?_
  refine z_dup zh dX6_append_34 rfl ?_
  refine z_getI (x := nI (((l + 1) + 1) + 1)) zh fl_Reader_15 dX6_append_35 ck_R rfl rfl hl ?_
  refine z_iconst zh dX6_append_38 ki_1 ?_
  refine z_iaddN zh dX6_append_39 ?_
  refine z_putI zh fl_Reader_15 dX6_append_40 ck_R rfl rfl (Nat.le_of_ble_eq_true rfl) (Or.inl rfl) ?_
  have hl : upI iv 541 1 (nI ((((l + 1) + 1) + 1) + 1)) 541 1 = nI ((((l + 1) + 1) + 1) + 1) := by rw [upI_at, if_pos ⟨rfl, rfl⟩]
  have hR := okR_lI (k := 541) (j := 1) (x := nI ((((l + 1) + 1) + 1) + 1)) (by omega) hR
  generalize upI iv 541 1 (nI ((((l + 1) + 1) + 1) + 1)) = iv at hl hR ⊢
  refine z_iinc zh dX6_append_43 (by decide) rfl (v := (-8)) (by decide) (L' := [some (rf g 541), some (.int x), some (.int (-8))]) rfl ?_
  refine z_goto (tgt := 3) zh dX6_append_46 rfl ?_
  refine z_iloadn zh dX6_append_3 rfl ?_
  refine z_if_lt (tgt := 49) zh dX6_append_4 rfl (fun _ => ?_) (fun q => absurd q (by decide))
  exact z_vret zh dX6_append_49 (⟨rfl, hl, hR⟩)
set_option maxRecDepth 20000 in
theorem c_hasRoom (g : GE)  {iv : Iv} {lv : Lv} {dd : Nat → Nat} {dm : Nat}  (hG : Ok1 dd dm iv lv) : ConIp g yX6_hasRoom cX6_hasRoom 1 (some .boolean) 1 [rf g 541] iv lv (nI 1) := by
  refine con_intro (own := "RollingNets$Reader") (by decide +kernel) rfl (Nat.le_of_ble_eq_true rfl) (L0 := [some (rf g 541)]) rfl (fun Z zh => ?_)
  refine z_aloadnR zh dX6_hasRoom_0 rfl ?_
  refine z_getI (x := nI 0) zh fl_Reader_15 dX6_hasRoom_1 ck_R rfl rfl (a1_length hG) ?_
  refine z_bipush zh dX6_hasRoom_4 kb_20 ?_
  refine z_iaddN zh dX6_hasRoom_6 ?_
  refine z_sipush zh dX6_hasRoom_7 ks_400 ?_
  refine z_icmp_gt_N (tgt := 17) zh (by decide) (by decide) dX6_hasRoom_10 rfl (fun q => absurd q (by decide)) (fun _ => ?_)
  refine z_iconst zh dX6_hasRoom_13 ki_1 ?_
  refine z_goto (tgt := 18) zh dX6_hasRoom_14 rfl ?_
  exact z_zret zh dX6_hasRoom_18 (Or.inr rfl) (qI rfl)
set_option maxRecDepth 20000 in
theorem c_X_feed (g : GE) {a b c d e : Int32} {iv : Iv} {lv : Lv} {dd : Nat → Nat} {dm : Nat}  (hG : Ok1 dd dm iv lv) : ConI g yX8_feed cX8_feed 6 (some .int) 2 [rf g 0, .int a, .int b, .int c, .int d, .int e] iv lv (fun r iv' lv' => r = nI 20 ∧ OkR (fun _ => 0) dm iv' lv') := by
  refine con_intro (own := "RollingNets") (by decide +kernel) rfl (Nat.le_of_ble_eq_true rfl) (L0 := [some (rf g 0), some (.int a), some (.int b), some (.int c), some (.int d), some (.int e)]) rfl (fun Z zh => ?_)
  refine z_aloadnR zh dX8_feed_0 rfl ?_
  refine z_getf zh fl_RollingNets_25 dX8_feed_1 ck_X rfl rfl ?_
  refine z_callVIp zh mv_RollingNets_138 dX8_feed_4 ck_R rfl (c_hasRoom g hG) ⟨Nat.le_of_ble_eq_true rfl, Nat.le_of_ble_eq_true rfl⟩ rfl rfl (Nat.le_of_ble_eq_true rfl) ?_
  refine z_if_ne_N (tgt := 12) zh (by decide) dX8_feed_7 rfl (fun _ => ?_) (fun q => absurd q (by decide))
  refine z_aloadnR zh dX8_feed_12 rfl ?_
  refine z_getf zh fl_RollingNets_25 dX8_feed_13 ck_X rfl rfl ?_
  refine z_iloadn zh dX8_feed_16 rfl ?_
  refine z_callVV zh mv_RollingNets_142 dX8_feed_17 ck_R rfl (c_append g (a1_length hG) (by decide) (okR_of hG)) ⟨Nat.le_of_ble_eq_true rfl, Nat.le_of_ble_eq_true rfl⟩ rfl rfl (Nat.le_of_ble_eq_true rfl) ?_
  rintro iv lv ⟨hl, hR⟩
  refine z_aloadnR zh dX8_feed_20 rfl ?_
  refine z_getf zh fl_RollingNets_25 dX8_feed_21 ck_X rfl rfl ?_
  refine z_iloadn zh dX8_feed_24 rfl ?_
  refine z_callVV zh mv_RollingNets_142 dX8_feed_25 ck_R rfl (c_append g hl (by decide) hR) ⟨Nat.le_of_ble_eq_true rfl, Nat.le_of_ble_eq_true rfl⟩ rfl rfl (Nat.le_of_ble_eq_true rfl) ?_
  rintro iv lv ⟨hl, hR⟩
  refine z_aloadnR zh dX8_feed_28 rfl ?_
  refine z_getf zh fl_RollingNets_25 dX8_feed_29 ck_X rfl rfl ?_
  refine z_iloadn zh dX8_feed_32 rfl ?_
  refine z_callVV zh mv_RollingNets_142 dX8_feed_33 ck_R rfl (c_append g hl (by decide) hR) ⟨Nat.le_of_ble_eq_true rfl, Nat.le_of_ble_eq_true rfl⟩ rfl rfl (Nat.le_of_ble_eq_true rfl) ?_
  rintro iv lv ⟨hl, hR⟩
  refine z_aloadnR zh dX8_feed_36 rfl ?_
  refine z_getf zh fl_RollingNets_25 dX8_feed_37 ck_X rfl rfl ?_
  refine z_iload zh dX8_feed_40 rfl ?_
  refine z_callVV zh mv_RollingNets_142 dX8_feed_42 ck_R rfl (c_append g hl (by decide) hR) ⟨Nat.le_of_ble_eq_true rfl, Nat.le_of_ble_eq_true rfl⟩ rfl rfl (Nat.le_of_ble_eq_true rfl) ?_
  rintro iv lv ⟨hl, hR⟩
  refine z_aloadnR zh dX8_feed_45 rfl ?_
  refine z_getf zh fl_RollingNets_25 dX8_feed_46 ck_X rfl rfl ?_
  refine z_iload zh dX8_feed_49 rfl ?_
  refine z_callVV zh mv_RollingNets_142 dX8_feed_51 ck_R rfl (c_append g hl (by decide) hR) ⟨Nat.le_of_ble_eq_true rfl, Nat.le_of_ble_eq_true rfl⟩ rfl rfl (Nat.le_of_ble_eq_true rfl) ?_
  rintro iv lv ⟨hl, hR⟩
  refine z_aloadnR zh dX8_feed_54 rfl ?_
  refine z_getf zh fl_RollingNets_25 dX8_feed_55 ck_X rfl rfl ?_
  refine z_getI (x := nI 20) zh fl_RollingNets_146 dX8_feed_58 ck_R rfl rfl hl ?_
  exact z_iret zh dX8_feed_61 (⟨_, rfl, rfl, (by repeat (first | assumption | exact okR_of (by assumption) | refine okR_lI (by first | omega | (have := isM_lt (by assumption); omega) | (have := isH_lt (by assumption); omega)) ?_ | refine okR_lL (by first | omega | (have := isM_lt (by assumption); omega) | (have := isH_lt (by assumption); omega)) ?_))⟩)
set_option maxRecDepth 20000 in
theorem c_skipBlanks (g : GE)  {iv : Iv} {lv : Lv} {dd : Nat → Nat} {dm : Nat}  (hG : Ok1 dd dm iv lv) : ConV g yX6_skipBlanks cX6_skipBlanks 1 none 1 [rf g 541] iv lv (fun iv lv => Ok1 dd dm iv lv) := by
  refine con_intro (own := "RollingNets$Reader") (by decide +kernel) rfl (Nat.le_of_ble_eq_true rfl) (L0 := [some (rf g 541)]) rfl (fun Z zh => ?_)
  refine z_aloadnR zh dX6_skipBlanks_0 rfl ?_
  refine z_getI (x := nI 0) zh fl_Reader_28 dX6_skipBlanks_1 ck_R rfl rfl (a1_place hG) ?_
  refine z_aloadnR zh dX6_skipBlanks_4 rfl ?_
  refine z_getI (x := nI 0) zh fl_Reader_15 dX6_skipBlanks_5 ck_R rfl rfl (a1_length hG) ?_
  refine z_icmp_ge_N (tgt := 50) zh (by decide) (by decide) dX6_skipBlanks_8 rfl (fun _ => ?_) (fun q => absurd q (by decide))
  exact z_vret zh dX6_skipBlanks_50 (⟨rfl, hG⟩)
set_option maxRecDepth 20000 in
theorem c_clear (g : GE)  {iv : Iv} {lv : Lv} {dd : Nat → Nat} {dm : Nat}  (hG : Ok1 dd dm iv lv) : ConV g yX7_clear cX7_clear 1 none 1 [rf g 543] iv lv (fun iv lv => Ok1 dd dm iv lv) := by
  refine con_intro (own := "RollingNets$Table") (by decide +kernel) rfl (Nat.le_of_ble_eq_true rfl) (L0 := [some (rf g 543)]) rfl (fun Z zh => ?_)
  refine z_aloadnR zh dX7_clear_0 rfl ?_
  refine z_iconst zh dX7_clear_1 ki_0 ?_
  refine z_putI zh fl_Table_20 dX7_clear_2 (ck_T isT_r) rfl rfl (Nat.le_of_ble_eq_true rfl) (Or.inl rfl) ?_
  have hG := ok1_wI (k := 543) (j := 2) (x := nI 0) hG (w1_eq rfl)
  generalize upI iv (543) (2) (nI 0) = iv at hG ⊢
  exact z_vret zh dX7_clear_5 (⟨rfl, hG⟩)
set_option maxRecDepth 20000 in
theorem c_read (g : GE)  {iv : Iv} {lv : Lv} {dd : Nat → Nat} {dm : Nat}  (hG : Ok1 dd dm iv lv) : ConI g yX6_read cX6_read 2 (some .boolean) 2 [rf g 541] iv lv (fun r iv lv => Ok1 dd dm iv lv ∧ r = nI 1) := by
  refine con_intro (own := "RollingNets$Reader") (by decide +kernel) rfl (Nat.le_of_ble_eq_true rfl) (L0 := [some (rf g 541), none]) rfl (fun Z zh => ?_)
  refine z_aloadnR zh dX6_read_0 rfl ?_
  refine z_getf zh fl_Reader_24 dX6_read_1 ck_R rfl rfl ?_
  refine z_callVV zh mv_Reader_37 dX6_read_4 (ck_T isT_r) rfl (c_clear g hG) ⟨Nat.le_of_ble_eq_true rfl, Nat.le_of_ble_eq_true rfl⟩ rfl rfl (Nat.le_of_ble_eq_true rfl) ?_
  rintro iv lv hG
  refine z_aloadnR zh dX6_read_7 rfl ?_
  refine z_iconst zh dX6_read_8 ki_0 ?_
  refine z_putI zh fl_Reader_28 dX6_read_9 ck_R rfl rfl (Nat.le_of_ble_eq_true rfl) (Or.inl rfl) ?_
  have hG := ok1_wI (k := 541) (j := 3) (x := nI 0) hG (w1_eq rfl)
  generalize upI iv (541) (3) (nI 0) = iv at hG ⊢
  refine z_aloadnR zh dX6_read_12 rfl ?_
  refine z_iconst zh dX6_read_13 ki_0 ?_
  refine z_putI zh fl_Reader_31 dX6_read_14 ck_R rfl rfl (Nat.le_of_ble_eq_true rfl) (Or.inl rfl) ?_
  have hG := ok1_wI (k := 541) (j := 4) (x := nI 0) hG (w1_eq rfl)
  generalize upI iv (541) (4) (nI 0) = iv at hG ⊢
  refine z_aloadnR zh dX6_read_17 rfl ?_
  refine z_iconst zh dX6_read_18 ki_m1 ?_
  refine z_putI zh fl_Reader_34 dX6_read_19 ck_R rfl rfl (Nat.le_of_ble_eq_true rfl) (Or.inl rfl) ?_
  have hG := ok1_wI (k := 541) (j := 5) (x := (-1)) hG (w1_eq rfl)
  generalize upI iv (541) (5) ((-1)) = iv at hG ⊢
  refine z_aloadnR zh dX6_read_22 rfl ?_
  refine z_callVV zh mv_Reader_40 dX6_read_23 ck_R rfl (c_skipBlanks g hG) ⟨Nat.le_of_ble_eq_true rfl, Nat.le_of_ble_eq_true rfl⟩ rfl rfl (Nat.le_of_ble_eq_true rfl) ?_
  rintro iv lv hG
  refine z_iconst zh dX6_read_26 ki_0 ?_
  refine z_istoren zh dX6_read_27 (by decide) (L' := [some (rf g 541), some (.int (nI 0))]) rfl ?_
  refine z_iloadn zh dX6_read_28 rfl ?_
  refine z_bipush zh dX6_read_29 kb_24 ?_
  refine z_icmp_gt_N (tgt := 66) zh (by decide) (by decide) dX6_read_31 rfl (fun q => absurd q (by decide)) (fun _ => ?_)
  refine z_aloadnR zh dX6_read_34 rfl ?_
  refine z_getI (x := nI 0) zh fl_Reader_28 dX6_read_35 ck_R rfl rfl (a1_place hG) ?_
  refine z_aloadnR zh dX6_read_38 rfl ?_
  refine z_getI (x := nI 0) zh fl_Reader_15 dX6_read_39 ck_R rfl rfl (a1_length hG) ?_
  refine z_icmp_ge_N (tgt := 66) zh (by decide) (by decide) dX6_read_42 rfl (fun _ => ?_) (fun q => absurd q (by decide))
  refine z_aloadnR zh dX6_read_66 rfl ?_
  refine z_iconst zh dX6_read_67 ki_0 ?_
  refine z_putI zh fl_Reader_15 dX6_read_68 ck_R rfl rfl (Nat.le_of_ble_eq_true rfl) (Or.inl rfl) ?_
  have hG := ok1_wI (k := 541) (j := 1) (x := nI 0) hG (w1_eq rfl)
  generalize upI iv (541) (1) (nI 0) = iv at hG ⊢
  refine z_aloadnR zh dX6_read_71 rfl ?_
  refine z_getI (x := nI 0) zh fl_Reader_31 dX6_read_72 ck_R rfl rfl (a1_fault hG) ?_
  refine z_if_ne_N (tgt := 82) zh (by decide) dX6_read_75 rfl (fun q => absurd q (by decide)) (fun _ => ?_)
  refine z_iconst zh dX6_read_78 ki_1 ?_
  refine z_goto (tgt := 83) zh dX6_read_79 rfl ?_
  exact z_zret zh dX6_read_83 (Or.inr rfl) (⟨_, rfl, hG, rfl⟩)
set_option maxRecDepth 20000 in
theorem c_X_plan (g : GE)  {iv : Iv} {lv : Lv} {dd : Nat → Nat} {dm : Nat}  (hG : Ok1 dd dm iv lv) : ConI g yX8_plan cX8_plan 1 (some .int) 4 [rf g 0] iv lv (fun r iv' lv' => r = nI 0 ∧ OkR (fun _ => 0) dm iv' lv') := by
  refine con_intro (own := "RollingNets") (by decide +kernel) rfl (Nat.le_of_ble_eq_true rfl) (L0 := [some (rf g 0)]) rfl (fun Z zh => ?_)
  refine z_aloadnR zh dX8_plan_0 rfl ?_
  refine z_getf zh fl_RollingNets_25 dX8_plan_1 ck_X rfl rfl ?_
  refine z_callVI zh mv_RollingNets_149 dX8_plan_4 ck_R rfl (c_read g hG) ⟨Nat.le_of_ble_eq_true rfl, Nat.le_of_ble_eq_true rfl⟩ rfl rfl (Nat.le_of_ble_eq_true rfl) ?_
  rintro _ iv lv ⟨hG, rfl⟩
  refine z_if_ne_N (tgt := 12) zh (by decide) dX8_plan_7 rfl (fun _ => ?_) (fun q => absurd q (by decide))
  refine z_aloadnR zh dX8_plan_12 rfl ?_
  refine z_getf zh fl_RollingNets_12 dX8_plan_13 ck_X rfl rfl ?_
  refine z_getf zh fl_RollingNets_152 dX8_plan_16 (ck_H isH_1) rfl rfl ?_
  refine z_aloadnR zh dX8_plan_19 rfl ?_
  refine z_getf zh fl_RollingNets_25 dX8_plan_20 ck_X rfl rfl ?_
  refine z_getf zh fl_RollingNets_155 dX8_plan_23 ck_R rfl rfl ?_
  refine z_callVV zh mv_RollingNets_158 dX8_plan_26 (ck_T (isT_p isH_1)) rfl (c_tcopy g (isT_p isH_1) isT_r (a1_cp hG isH_1) (a1_draft hG) (by decide) (by decide) (w1_H isH_1 46 (by omega) (Or.inr rfl)) hG) ⟨Nat.le_of_ble_eq_true rfl, Nat.le_of_ble_eq_true rfl⟩ rfl rfl (Nat.le_of_ble_eq_true rfl) ?_
  rintro iv lv hG
  refine z_aloadnR zh dX8_plan_29 rfl ?_
  refine z_getf zh fl_RollingNets_12 dX8_plan_30 ck_X rfl rfl ?_
  refine z_iconst zh dX8_plan_33 ki_0 ?_
  refine z_putI zh fl_RollingNets_162 dX8_plan_34 (ck_H isH_1) rfl rfl (Nat.le_of_ble_eq_true rfl) (Or.inl rfl) ?_
  have hG := ok1_wI (k := 1) (j := 10) (x := nI 0) hG (w1_H isH_1 0 (by omega) (Or.inr rfl))
  generalize upI iv (1) (10) (nI 0) = iv at hG ⊢
  refine z_aloadnR zh dX8_plan_37 rfl ?_
  refine z_getf zh fl_RollingNets_12 dX8_plan_38 ck_X rfl rfl ?_
  refine z_getf zh fl_RollingNets_152 dX8_plan_41 (ck_H isH_1) rfl rfl ?_
  refine z_callVIp zh mv_RollingNets_51 dX8_plan_44 (ck_T (isT_p isH_1)) rfl (c_size g (isT_p isH_1) (a1_cp hG isH_1)) ⟨Nat.le_of_ble_eq_true rfl, Nat.le_of_ble_eq_true rfl⟩ rfl rfl (Nat.le_of_ble_eq_true rfl) ?_
  exact z_iret zh dX8_plan_47 (⟨_, rfl, rfl, (by repeat (first | assumption | exact okR_of (by assumption) | refine okR_lI (by first | omega | (have := isM_lt (by assumption); omega) | (have := isH_lt (by assumption); omega)) ?_ | refine okR_lL (by first | omega | (have := isM_lt (by assumption); omega) | (have := isH_lt (by assumption); omega)) ?_))⟩)
set_option maxRecDepth 20000 in
theorem c_X_look (g : GE) {w : Int32} {iv : Iv} {lv : Lv} {dd : Nat → Nat} {dm : Nat}  (hG : Ok1 (fun _ => 0) dm iv lv) : ConI g yX8_look cX8_look 2 (some .int) 6 [rf g 0, .int w] iv lv (fun r iv' lv' => r = sp_look w ∧ OkR (fun _ => 0) dm iv' lv') := by
  refine con_intro (own := "RollingNets") (by decide +kernel) rfl (Nat.le_of_ble_eq_true rfl) (L0 := [some (rf g 0), some (.int w)]) rfl (fun Z zh => ?_)
  refine z_iloadn zh dX8_look_0 rfl ?_
  refine z_if_lt (tgt := 19) zh dX8_look_1 rfl (fun hb1 => ?_) (fun hb1 => ?_)
  · refine z_iloadn zh dX8_look_19 rfl ?_
    by_cases hp2 : Rg (nI 6) (nI 19) w
    · obtain ⟨jw, hlw, hjw, rfl⟩ := Rg_nat (by omega) (by omega) hp2
      rcases (by omega : jw = 6 ∨ jw = 7 ∨ jw = 8 ∨ jw = 9 ∨ jw = 10 ∨ jw = 11 ∨ jw = 12 ∨ jw = 13 ∨ jw = 14 ∨ jw = 15 ∨ jw = 16 ∨ jw = 17 ∨ jw = 18 ∨ jw = 19) with rfl | rfl | rfl | rfl | rfl | rfl | rfl | rfl | rfl | rfl | rfl | rfl | rfl | rfl
      · refine z_tabIn (off := 72) (tgt := 92) zh dX8_look_20 (by decide) (by decide) (by decide) rfl ?_
        refine z_aloadnR zh dX8_look_92 rfl ?_
        refine z_getf zh fl_RollingNets_12 dX8_look_93 ck_X rfl rfl ?_
        refine z_getI (x := nI 0) zh fl_RollingNets_261 dX8_look_96 (ck_H isH_1) rfl rfl ((a1_day hG isH_1).trans rfl) ?_
        exact z_iret zh dX8_look_99 (⟨_, rfl, (by first | rfl | (simp (decide := true) only [sp_look, sel_t, sel_f, hb1, hp2]; first | done | rfl)), (by repeat (first | assumption | exact okR_of (by assumption) | refine okR_lI (by first | omega | (have := isM_lt (by assumption); omega) | (have := isH_lt (by assumption); omega)) ?_ | refine okR_lL (by first | omega | (have := isM_lt (by assumption); omega) | (have := isH_lt (by assumption); omega)) ?_))⟩)
      · refine z_tabIn (off := 80) (tgt := 100) zh dX8_look_20 (by decide) (by decide) (by decide) rfl ?_
        refine z_aloadnR zh dX8_look_100 rfl ?_
        refine z_getf zh fl_RollingNets_12 dX8_look_101 ck_X rfl rfl ?_
        refine z_getf zh fl_RollingNets_47 dX8_look_104 (ck_H isH_1) rfl rfl ?_
        refine z_callVIp zh mv_RollingNets_51 dX8_look_107 (ck_T (isT_d isH_1)) rfl (c_size g (isT_d isH_1) (a1_cd hG isH_1)) ⟨Nat.le_of_ble_eq_true rfl, Nat.le_of_ble_eq_true rfl⟩ rfl rfl (Nat.le_of_ble_eq_true rfl) ?_
        exact z_iret zh dX8_look_110 (⟨_, rfl, (by first | rfl | (simp (decide := true) only [sp_look, sel_t, sel_f, hb1, hp2]; first | done | rfl)), (by repeat (first | assumption | exact okR_of (by assumption) | refine okR_lI (by first | omega | (have := isM_lt (by assumption); omega) | (have := isH_lt (by assumption); omega)) ?_ | refine okR_lL (by first | omega | (have := isM_lt (by assumption); omega) | (have := isH_lt (by assumption); omega)) ?_))⟩)
      · refine z_tabIn (off := 91) (tgt := 111) zh dX8_look_20 (by decide) (by decide) (by decide) rfl ?_
        refine z_aloadnR zh dX8_look_111 rfl ?_
        refine z_getf zh fl_RollingNets_12 dX8_look_112 ck_X rfl rfl ?_
        refine z_getf zh fl_RollingNets_212 dX8_look_115 (ck_H isH_1) rfl rfl ?_
        refine z_callVIp zh mv_RollingNets_51 dX8_look_118 (ck_T (isT_n isH_1)) rfl (c_size g (isT_n isH_1) (a1_cn hG isH_1)) ⟨Nat.le_of_ble_eq_true rfl, Nat.le_of_ble_eq_true rfl⟩ rfl rfl (Nat.le_of_ble_eq_true rfl) ?_
        exact z_iret zh dX8_look_121 (⟨_, rfl, (by first | rfl | (simp (decide := true) only [sp_look, sel_t, sel_f, hb1, hp2]; first | done | rfl)), (by repeat (first | assumption | exact okR_of (by assumption) | refine okR_lI (by first | omega | (have := isM_lt (by assumption); omega) | (have := isH_lt (by assumption); omega)) ?_ | refine okR_lL (by first | omega | (have := isM_lt (by assumption); omega) | (have := isH_lt (by assumption); omega)) ?_))⟩)
      · refine z_tabIn (off := 102) (tgt := 122) zh dX8_look_20 (by decide) (by decide) (by decide) rfl ?_
        refine z_aloadnR zh dX8_look_122 rfl ?_
        refine z_getf zh fl_RollingNets_12 dX8_look_123 ck_X rfl rfl ?_
        refine z_callSIp zh ms_RollingNets_281 dX8_look_126 (c_openNotices g isH_1 hG) ⟨Nat.le_of_ble_eq_true rfl, Nat.le_of_ble_eq_true rfl⟩ rfl rfl (Nat.le_of_ble_eq_true rfl) ?_
        exact z_iret zh dX8_look_129 (⟨_, rfl, (by first | rfl | (simp (decide := true) only [sp_look, sel_t, sel_f, hb1, hp2]; first | done | rfl)), (by repeat (first | assumption | exact okR_of (by assumption) | refine okR_lI (by first | omega | (have := isM_lt (by assumption); omega) | (have := isH_lt (by assumption); omega)) ?_ | refine okR_lL (by first | omega | (have := isM_lt (by assumption); omega) | (have := isH_lt (by assumption); omega)) ?_))⟩)
      · refine z_tabIn (off := 110) (tgt := 130) zh dX8_look_20 (by decide) (by decide) (by decide) rfl ?_
        refine z_aloadnR zh dX8_look_130 rfl ?_
        refine z_getf zh fl_RollingNets_12 dX8_look_131 ck_X rfl rfl ?_
        refine z_getf zh fl_RollingNets_221 dX8_look_134 (ck_H isH_1) rfl rfl ?_
        refine z_callVIp zh mv_RollingNets_51 dX8_look_137 (ck_T (isT_b isH_1)) rfl (c_size g (isT_b isH_1) (a1_cb hG isH_1)) ⟨Nat.le_of_ble_eq_true rfl, Nat.le_of_ble_eq_true rfl⟩ rfl rfl (Nat.le_of_ble_eq_true rfl) ?_
        exact z_iret zh dX8_look_140 (⟨_, rfl, (by first | rfl | (simp (decide := true) only [sp_look, sel_t, sel_f, hb1, hp2]; first | done | rfl)), (by repeat (first | assumption | exact okR_of (by assumption) | refine okR_lI (by first | omega | (have := isM_lt (by assumption); omega) | (have := isH_lt (by assumption); omega)) ?_ | refine okR_lL (by first | omega | (have := isM_lt (by assumption); omega) | (have := isH_lt (by assumption); omega)) ?_))⟩)
      · refine z_tabIn (off := 121) (tgt := 141) zh dX8_look_20 (by decide) (by decide) (by decide) rfl ?_
        refine z_aloadnR zh dX8_look_141 rfl ?_
        refine z_getf zh fl_RollingNets_12 dX8_look_142 ck_X rfl rfl ?_
        refine z_getL (x := (0 : Int64)) zh fl_RollingNets_284 dX8_look_145 (ck_H isH_1) rfl rfl (a1_outside hG isH_1) ?_
        refine z_l2i zh dX8_look_148 ?_
        rw [show ((0 : Int64)).toInt32 = nI 0 from by decide]
        exact z_iret zh dX8_look_149 (⟨_, rfl, (by first | rfl | (simp (decide := true) only [sp_look, sel_t, sel_f, hb1, hp2]; first | done | rfl)), (by repeat (first | assumption | exact okR_of (by assumption) | refine okR_lI (by first | omega | (have := isM_lt (by assumption); omega) | (have := isH_lt (by assumption); omega)) ?_ | refine okR_lL (by first | omega | (have := isM_lt (by assumption); omega) | (have := isH_lt (by assumption); omega)) ?_))⟩)
      · refine z_tabIn (off := 130) (tgt := 150) zh dX8_look_20 (by decide) (by decide) (by decide) rfl ?_
        refine z_aloadnR zh dX8_look_150 rfl ?_
        refine z_getf zh fl_RollingNets_12 dX8_look_151 ck_X rfl rfl ?_
        refine z_callSLp zh ms_RollingNets_288 dX8_look_154 (c_allCash g isH_1 hG) ⟨Nat.le_of_ble_eq_true rfl, Nat.le_of_ble_eq_true rfl⟩ rfl rfl (Nat.le_of_ble_eq_true rfl) ?_
        refine z_l2i zh dX8_look_157 ?_
        rw [show ((0 : Int64)).toInt32 = nI 0 from by decide]
        exact z_iret zh dX8_look_158 (⟨_, rfl, (by first | rfl | (simp (decide := true) only [sp_look, sel_t, sel_f, hb1, hp2]; first | done | rfl)), (by repeat (first | assumption | exact okR_of (by assumption) | refine okR_lI (by first | omega | (have := isM_lt (by assumption); omega) | (have := isH_lt (by assumption); omega)) ?_ | refine okR_lL (by first | omega | (have := isM_lt (by assumption); omega) | (have := isH_lt (by assumption); omega)) ?_))⟩)
      · refine z_tabIn (off := 139) (tgt := 159) zh dX8_look_20 (by decide) (by decide) (by decide) rfl ?_
        refine z_aloadnR zh dX8_look_159 rfl ?_
        refine z_getf zh fl_RollingNets_12 dX8_look_160 ck_X rfl rfl ?_
        refine z_getf zh fl_RollingNets_152 dX8_look_163 (ck_H isH_1) rfl rfl ?_
        refine z_callVIp zh mv_RollingNets_51 dX8_look_166 (ck_T (isT_p isH_1)) rfl (c_size g (isT_p isH_1) (a1_cp hG isH_1)) ⟨Nat.le_of_ble_eq_true rfl, Nat.le_of_ble_eq_true rfl⟩ rfl rfl (Nat.le_of_ble_eq_true rfl) ?_
        exact z_iret zh dX8_look_169 (⟨_, rfl, (by first | rfl | (simp (decide := true) only [sp_look, sel_t, sel_f, hb1, hp2]; first | done | rfl)), (by repeat (first | assumption | exact okR_of (by assumption) | refine okR_lI (by first | omega | (have := isM_lt (by assumption); omega) | (have := isH_lt (by assumption); omega)) ?_ | refine okR_lL (by first | omega | (have := isM_lt (by assumption); omega) | (have := isH_lt (by assumption); omega)) ?_))⟩)
      · refine z_tabIn (off := 150) (tgt := 170) zh dX8_look_20 (by decide) (by decide) (by decide) rfl ?_
        refine z_aloadnR zh dX8_look_170 rfl ?_
        refine z_getf zh fl_RollingNets_12 dX8_look_171 ck_X rfl rfl ?_
        refine z_getI (x := nI 0) zh fl_RollingNets_162 dX8_look_174 (ck_H isH_1) rfl rfl (a1_planDone hG isH_1) ?_
        exact z_iret zh dX8_look_177 (⟨_, rfl, (by first | rfl | (simp (decide := true) only [sp_look, sel_t, sel_f, hb1, hp2]; first | done | rfl)), (by repeat (first | assumption | exact okR_of (by assumption) | refine okR_lI (by first | omega | (have := isM_lt (by assumption); omega) | (have := isH_lt (by assumption); omega)) ?_ | refine okR_lL (by first | omega | (have := isM_lt (by assumption); omega) | (have := isH_lt (by assumption); omega)) ?_))⟩)
      · refine z_tabIn (off := 158) (tgt := 178) zh dX8_look_20 (by decide) (by decide) (by decide) rfl ?_
        refine z_aloadnR zh dX8_look_178 rfl ?_
        refine z_getf zh fl_RollingNets_12 dX8_look_179 ck_X rfl rfl ?_
        refine z_iconst zh dX8_look_182 ki_m1 ?_
        refine z_iconst zh dX8_look_183 ki_0 ?_
        refine z_bipush zh dX8_look_184 kb_7 ?_
        refine z_callSIp zh ms_RollingNets_292 dX8_look_186 (c_overDeals g isH_1 hG) ⟨Nat.le_of_ble_eq_true rfl, Nat.le_of_ble_eq_true rfl⟩ rfl rfl (Nat.le_of_ble_eq_true rfl) ?_
        exact z_iret zh dX8_look_189 (⟨_, rfl, (by first | rfl | (simp (decide := true) only [sp_look, sel_t, sel_f, hb1, hp2]; first | done | rfl)), (by repeat (first | assumption | exact okR_of (by assumption) | refine okR_lI (by first | omega | (have := isM_lt (by assumption); omega) | (have := isH_lt (by assumption); omega)) ?_ | refine okR_lL (by first | omega | (have := isM_lt (by assumption); omega) | (have := isH_lt (by assumption); omega)) ?_))⟩)
      · refine z_tabIn (off := 170) (tgt := 190) zh dX8_look_20 (by decide) (by decide) (by decide) rfl ?_
        refine z_aloadnR zh dX8_look_190 rfl ?_
        refine z_getf zh fl_RollingNets_12 dX8_look_191 ck_X rfl rfl ?_
        refine z_callSIp zh ms_RollingNets_295 dX8_look_194 (c_lacking g isH_1 hG) ⟨Nat.le_of_ble_eq_true rfl, Nat.le_of_ble_eq_true rfl⟩ rfl rfl (Nat.le_of_ble_eq_true rfl) ?_
        exact z_iret zh dX8_look_197 (⟨_, rfl, (by first | rfl | (simp (decide := true) only [sp_look, sel_t, sel_f, hb1, hp2]; first | done | rfl)), (by repeat (first | assumption | exact okR_of (by assumption) | refine okR_lI (by first | omega | (have := isM_lt (by assumption); omega) | (have := isH_lt (by assumption); omega)) ?_ | refine okR_lL (by first | omega | (have := isM_lt (by assumption); omega) | (have := isH_lt (by assumption); omega)) ?_))⟩)
      · refine z_tabIn (off := 178) (tgt := 198) zh dX8_look_20 (by decide) (by decide) (by decide) rfl ?_
        refine z_aloadnR zh dX8_look_198 rfl ?_
        refine z_getf zh fl_RollingNets_12 dX8_look_199 ck_X rfl rfl ?_
        refine z_callSIp zh ms_RollingNets_298 dX8_look_202 (c_suspendedSet g isH_1 hG) ⟨Nat.le_of_ble_eq_true rfl, Nat.le_of_ble_eq_true rfl⟩ rfl rfl (Nat.le_of_ble_eq_true rfl) ?_
        exact z_iret zh dX8_look_205 (⟨_, rfl, (by first | rfl | (simp (decide := true) only [sp_look, sel_t, sel_f, hb1, hp2]; first | done | rfl)), (by repeat (first | assumption | exact okR_of (by assumption) | refine okR_lI (by first | omega | (have := isM_lt (by assumption); omega) | (have := isH_lt (by assumption); omega)) ?_ | refine okR_lL (by first | omega | (have := isM_lt (by assumption); omega) | (have := isH_lt (by assumption); omega)) ?_))⟩)
      · refine z_tabIn (off := 186) (tgt := 206) zh dX8_look_20 (by decide) (by decide) (by decide) rfl ?_
        refine z_aloadnR zh dX8_look_206 rfl ?_
        refine z_getf zh fl_RollingNets_12 dX8_look_207 ck_X rfl rfl ?_
        refine z_callSIp zh ms_RollingNets_301 dX8_look_210 (c_shortSet g isH_1 hG) ⟨Nat.le_of_ble_eq_true rfl, Nat.le_of_ble_eq_true rfl⟩ rfl rfl (Nat.le_of_ble_eq_true rfl) ?_
        exact z_iret zh dX8_look_213 (⟨_, rfl, (by first | rfl | (simp (decide := true) only [sp_look, sel_t, sel_f, hb1, hp2]; first | done | rfl)), (by repeat (first | assumption | exact okR_of (by assumption) | refine okR_lI (by first | omega | (have := isM_lt (by assumption); omega) | (have := isH_lt (by assumption); omega)) ?_ | refine okR_lL (by first | omega | (have := isM_lt (by assumption); omega) | (have := isH_lt (by assumption); omega)) ?_))⟩)
      · refine z_tabIn (off := 194) (tgt := 214) zh dX8_look_20 (by decide) (by decide) (by decide) rfl ?_
        refine z_aloadnR zh dX8_look_214 rfl ?_
        refine z_getf zh fl_RollingNets_12 dX8_look_215 ck_X rfl rfl ?_
        refine z_getf zh fl_RollingNets_57 dX8_look_218 (ck_H isH_1) rfl rfl ?_
        refine z_bipush zh dX8_look_221 kb_6 ?_
        refine z_ialdE (x := nI 0) zh (ck_told isH_1) dX8_look_223 (by decide) (show iv (1 + 1) 6 = nI 0 from a1_told hG isH_1 6) ?_
        exact z_iret zh dX8_look_224 (⟨_, rfl, (by first | rfl | (simp (decide := true) only [sp_look, sel_t, sel_f, hb1, hp2]; first | done | rfl)), (by repeat (first | assumption | exact okR_of (by assumption) | refine okR_lI (by first | omega | (have := isM_lt (by assumption); omega) | (have := isH_lt (by assumption); omega)) ?_ | refine okR_lL (by first | omega | (have := isM_lt (by assumption); omega) | (have := isH_lt (by assumption); omega)) ?_))⟩)
    · have hp2r : ¬ (6 ≤ w.toInt ∧ w.toInt ≤ 19) := fun z => hp2 ((Rg_toInt (by omega) (by omega)).mpr z)
      have hp2n6 : ¬ w = nI 6 := fun e => hp2 (by rw [e]; exact (Rg_nn (by omega) (by omega) (by omega)).mpr (by omega))
      have hp2n7 : ¬ w = nI 7 := fun e => hp2 (by rw [e]; exact (Rg_nn (by omega) (by omega) (by omega)).mpr (by omega))
      have hp2n8 : ¬ w = nI 8 := fun e => hp2 (by rw [e]; exact (Rg_nn (by omega) (by omega) (by omega)).mpr (by omega))
      have hp2n9 : ¬ w = nI 9 := fun e => hp2 (by rw [e]; exact (Rg_nn (by omega) (by omega) (by omega)).mpr (by omega))
      have hp2n10 : ¬ w = nI 10 := fun e => hp2 (by rw [e]; exact (Rg_nn (by omega) (by omega) (by omega)).mpr (by omega))
      have hp2n11 : ¬ w = nI 11 := fun e => hp2 (by rw [e]; exact (Rg_nn (by omega) (by omega) (by omega)).mpr (by omega))
      have hp2n12 : ¬ w = nI 12 := fun e => hp2 (by rw [e]; exact (Rg_nn (by omega) (by omega) (by omega)).mpr (by omega))
      have hp2n13 : ¬ w = nI 13 := fun e => hp2 (by rw [e]; exact (Rg_nn (by omega) (by omega) (by omega)).mpr (by omega))
      have hp2n14 : ¬ w = nI 14 := fun e => hp2 (by rw [e]; exact (Rg_nn (by omega) (by omega) (by omega)).mpr (by omega))
      have hp2n15 : ¬ w = nI 15 := fun e => hp2 (by rw [e]; exact (Rg_nn (by omega) (by omega) (by omega)).mpr (by omega))
      have hp2n16 : ¬ w = nI 16 := fun e => hp2 (by rw [e]; exact (Rg_nn (by omega) (by omega) (by omega)).mpr (by omega))
      have hp2n17 : ¬ w = nI 17 := fun e => hp2 (by rw [e]; exact (Rg_nn (by omega) (by omega) (by omega)).mpr (by omega))
      have hp2n18 : ¬ w = nI 18 := fun e => hp2 (by rw [e]; exact (Rg_nn (by omega) (by omega) (by omega)).mpr (by omega))
      have hp2n19 : ¬ w = nI 19 := fun e => hp2 (by rw [e]; exact (Rg_nn (by omega) (by omega) (by omega)).mpr (by omega))
      refine z_tabOut (tgt := 225) zh dX8_look_20 (by omega) rfl ?_
      refine z_ldc zh dX8_look_225 kc_RollingNets_194 ?_
      exact z_iret zh dX8_look_227 (⟨_, rfl, (by
      have e5 : (nI 5).toInt = 5 := by decide
      have e0 : (nI 0).toInt = 0 := by decide
      have hn : ∀ k, k < 6 → ¬ w = nI k := fun k hk e => by subst e; have := nI_toInt (n := k) (by omega); simp only [Int32.le_iff_toInt_le, Int32.lt_iff_toInt_lt, Int32.toInt_zero] at *; omega
      have n0 := hn 0 (by omega); have n1 := hn 1 (by omega); have n2 := hn 2 (by omega); have n3 := hn 3 (by omega); have n4 := hn 4 (by omega); have n5 := hn 5 (by omega)
      simp only [sp_look, sel_f n0, sel_f n1, sel_f n2, sel_f n3, sel_f n4, sel_f n5, sel_f hp2]), (by repeat (first | assumption | exact okR_of (by assumption) | refine okR_lI (by first | omega | (have := isM_lt (by assumption); omega) | (have := isH_lt (by assumption); omega)) ?_ | refine okR_lL (by first | omega | (have := isM_lt (by assumption); omega) | (have := isH_lt (by assumption); omega)) ?_))⟩)
  · refine z_iloadn zh dX8_look_4 rfl ?_
    refine z_iconst zh dX8_look_5 ki_5 ?_
    refine z_icmp_gt (tgt := 19) zh dX8_look_6 rfl (fun hb3 => ?_) (fun hb3 => ?_)
    · refine z_iloadn zh dX8_look_19 rfl ?_
      by_cases hp4 : Rg (nI 6) (nI 19) w
      · obtain ⟨jw, hlw, hjw, rfl⟩ := Rg_nat (by omega) (by omega) hp4
        rcases (by omega : jw = 6 ∨ jw = 7 ∨ jw = 8 ∨ jw = 9 ∨ jw = 10 ∨ jw = 11 ∨ jw = 12 ∨ jw = 13 ∨ jw = 14 ∨ jw = 15 ∨ jw = 16 ∨ jw = 17 ∨ jw = 18 ∨ jw = 19) with rfl | rfl | rfl | rfl | rfl | rfl | rfl | rfl | rfl | rfl | rfl | rfl | rfl | rfl
        · refine z_tabIn (off := 72) (tgt := 92) zh dX8_look_20 (by decide) (by decide) (by decide) rfl ?_
          refine z_aloadnR zh dX8_look_92 rfl ?_
          refine z_getf zh fl_RollingNets_12 dX8_look_93 ck_X rfl rfl ?_
          refine z_getI (x := nI 0) zh fl_RollingNets_261 dX8_look_96 (ck_H isH_1) rfl rfl ((a1_day hG isH_1).trans rfl) ?_
          exact z_iret zh dX8_look_99 (⟨_, rfl, (by first | rfl | (simp (decide := true) only [sp_look, sel_t, sel_f, hb1, hb3, hp4]; first | done | rfl)), (by repeat (first | assumption | exact okR_of (by assumption) | refine okR_lI (by first | omega | (have := isM_lt (by assumption); omega) | (have := isH_lt (by assumption); omega)) ?_ | refine okR_lL (by first | omega | (have := isM_lt (by assumption); omega) | (have := isH_lt (by assumption); omega)) ?_))⟩)
        · refine z_tabIn (off := 80) (tgt := 100) zh dX8_look_20 (by decide) (by decide) (by decide) rfl ?_
          refine z_aloadnR zh dX8_look_100 rfl ?_
          refine z_getf zh fl_RollingNets_12 dX8_look_101 ck_X rfl rfl ?_
          refine z_getf zh fl_RollingNets_47 dX8_look_104 (ck_H isH_1) rfl rfl ?_
          refine z_callVIp zh mv_RollingNets_51 dX8_look_107 (ck_T (isT_d isH_1)) rfl (c_size g (isT_d isH_1) (a1_cd hG isH_1)) ⟨Nat.le_of_ble_eq_true rfl, Nat.le_of_ble_eq_true rfl⟩ rfl rfl (Nat.le_of_ble_eq_true rfl) ?_
          exact z_iret zh dX8_look_110 (⟨_, rfl, (by first | rfl | (simp (decide := true) only [sp_look, sel_t, sel_f, hb1, hb3, hp4]; first | done | rfl)), (by repeat (first | assumption | exact okR_of (by assumption) | refine okR_lI (by first | omega | (have := isM_lt (by assumption); omega) | (have := isH_lt (by assumption); omega)) ?_ | refine okR_lL (by first | omega | (have := isM_lt (by assumption); omega) | (have := isH_lt (by assumption); omega)) ?_))⟩)
        · refine z_tabIn (off := 91) (tgt := 111) zh dX8_look_20 (by decide) (by decide) (by decide) rfl ?_
          refine z_aloadnR zh dX8_look_111 rfl ?_
          refine z_getf zh fl_RollingNets_12 dX8_look_112 ck_X rfl rfl ?_
          refine z_getf zh fl_RollingNets_212 dX8_look_115 (ck_H isH_1) rfl rfl ?_
          refine z_callVIp zh mv_RollingNets_51 dX8_look_118 (ck_T (isT_n isH_1)) rfl (c_size g (isT_n isH_1) (a1_cn hG isH_1)) ⟨Nat.le_of_ble_eq_true rfl, Nat.le_of_ble_eq_true rfl⟩ rfl rfl (Nat.le_of_ble_eq_true rfl) ?_
          exact z_iret zh dX8_look_121 (⟨_, rfl, (by first | rfl | (simp (decide := true) only [sp_look, sel_t, sel_f, hb1, hb3, hp4]; first | done | rfl)), (by repeat (first | assumption | exact okR_of (by assumption) | refine okR_lI (by first | omega | (have := isM_lt (by assumption); omega) | (have := isH_lt (by assumption); omega)) ?_ | refine okR_lL (by first | omega | (have := isM_lt (by assumption); omega) | (have := isH_lt (by assumption); omega)) ?_))⟩)
        · refine z_tabIn (off := 102) (tgt := 122) zh dX8_look_20 (by decide) (by decide) (by decide) rfl ?_
          refine z_aloadnR zh dX8_look_122 rfl ?_
          refine z_getf zh fl_RollingNets_12 dX8_look_123 ck_X rfl rfl ?_
          refine z_callSIp zh ms_RollingNets_281 dX8_look_126 (c_openNotices g isH_1 hG) ⟨Nat.le_of_ble_eq_true rfl, Nat.le_of_ble_eq_true rfl⟩ rfl rfl (Nat.le_of_ble_eq_true rfl) ?_
          exact z_iret zh dX8_look_129 (⟨_, rfl, (by first | rfl | (simp (decide := true) only [sp_look, sel_t, sel_f, hb1, hb3, hp4]; first | done | rfl)), (by repeat (first | assumption | exact okR_of (by assumption) | refine okR_lI (by first | omega | (have := isM_lt (by assumption); omega) | (have := isH_lt (by assumption); omega)) ?_ | refine okR_lL (by first | omega | (have := isM_lt (by assumption); omega) | (have := isH_lt (by assumption); omega)) ?_))⟩)
        · refine z_tabIn (off := 110) (tgt := 130) zh dX8_look_20 (by decide) (by decide) (by decide) rfl ?_
          refine z_aloadnR zh dX8_look_130 rfl ?_
          refine z_getf zh fl_RollingNets_12 dX8_look_131 ck_X rfl rfl ?_
          refine z_getf zh fl_RollingNets_221 dX8_look_134 (ck_H isH_1) rfl rfl ?_
          refine z_callVIp zh mv_RollingNets_51 dX8_look_137 (ck_T (isT_b isH_1)) rfl (c_size g (isT_b isH_1) (a1_cb hG isH_1)) ⟨Nat.le_of_ble_eq_true rfl, Nat.le_of_ble_eq_true rfl⟩ rfl rfl (Nat.le_of_ble_eq_true rfl) ?_
          exact z_iret zh dX8_look_140 (⟨_, rfl, (by first | rfl | (simp (decide := true) only [sp_look, sel_t, sel_f, hb1, hb3, hp4]; first | done | rfl)), (by repeat (first | assumption | exact okR_of (by assumption) | refine okR_lI (by first | omega | (have := isM_lt (by assumption); omega) | (have := isH_lt (by assumption); omega)) ?_ | refine okR_lL (by first | omega | (have := isM_lt (by assumption); omega) | (have := isH_lt (by assumption); omega)) ?_))⟩)
        · refine z_tabIn (off := 121) (tgt := 141) zh dX8_look_20 (by decide) (by decide) (by decide) rfl ?_
          refine z_aloadnR zh dX8_look_141 rfl ?_
          refine z_getf zh fl_RollingNets_12 dX8_look_142 ck_X rfl rfl ?_
          refine z_getL (x := (0 : Int64)) zh fl_RollingNets_284 dX8_look_145 (ck_H isH_1) rfl rfl (a1_outside hG isH_1) ?_
          refine z_l2i zh dX8_look_148 ?_
          rw [show ((0 : Int64)).toInt32 = nI 0 from by decide]
          exact z_iret zh dX8_look_149 (⟨_, rfl, (by first | rfl | (simp (decide := true) only [sp_look, sel_t, sel_f, hb1, hb3, hp4]; first | done | rfl)), (by repeat (first | assumption | exact okR_of (by assumption) | refine okR_lI (by first | omega | (have := isM_lt (by assumption); omega) | (have := isH_lt (by assumption); omega)) ?_ | refine okR_lL (by first | omega | (have := isM_lt (by assumption); omega) | (have := isH_lt (by assumption); omega)) ?_))⟩)
        · refine z_tabIn (off := 130) (tgt := 150) zh dX8_look_20 (by decide) (by decide) (by decide) rfl ?_
          refine z_aloadnR zh dX8_look_150 rfl ?_
          refine z_getf zh fl_RollingNets_12 dX8_look_151 ck_X rfl rfl ?_
          refine z_callSLp zh ms_RollingNets_288 dX8_look_154 (c_allCash g isH_1 hG) ⟨Nat.le_of_ble_eq_true rfl, Nat.le_of_ble_eq_true rfl⟩ rfl rfl (Nat.le_of_ble_eq_true rfl) ?_
          refine z_l2i zh dX8_look_157 ?_
          rw [show ((0 : Int64)).toInt32 = nI 0 from by decide]
          exact z_iret zh dX8_look_158 (⟨_, rfl, (by first | rfl | (simp (decide := true) only [sp_look, sel_t, sel_f, hb1, hb3, hp4]; first | done | rfl)), (by repeat (first | assumption | exact okR_of (by assumption) | refine okR_lI (by first | omega | (have := isM_lt (by assumption); omega) | (have := isH_lt (by assumption); omega)) ?_ | refine okR_lL (by first | omega | (have := isM_lt (by assumption); omega) | (have := isH_lt (by assumption); omega)) ?_))⟩)
        · refine z_tabIn (off := 139) (tgt := 159) zh dX8_look_20 (by decide) (by decide) (by decide) rfl ?_
          refine z_aloadnR zh dX8_look_159 rfl ?_
          refine z_getf zh fl_RollingNets_12 dX8_look_160 ck_X rfl rfl ?_
          refine z_getf zh fl_RollingNets_152 dX8_look_163 (ck_H isH_1) rfl rfl ?_
          refine z_callVIp zh mv_RollingNets_51 dX8_look_166 (ck_T (isT_p isH_1)) rfl (c_size g (isT_p isH_1) (a1_cp hG isH_1)) ⟨Nat.le_of_ble_eq_true rfl, Nat.le_of_ble_eq_true rfl⟩ rfl rfl (Nat.le_of_ble_eq_true rfl) ?_
          exact z_iret zh dX8_look_169 (⟨_, rfl, (by first | rfl | (simp (decide := true) only [sp_look, sel_t, sel_f, hb1, hb3, hp4]; first | done | rfl)), (by repeat (first | assumption | exact okR_of (by assumption) | refine okR_lI (by first | omega | (have := isM_lt (by assumption); omega) | (have := isH_lt (by assumption); omega)) ?_ | refine okR_lL (by first | omega | (have := isM_lt (by assumption); omega) | (have := isH_lt (by assumption); omega)) ?_))⟩)
        · refine z_tabIn (off := 150) (tgt := 170) zh dX8_look_20 (by decide) (by decide) (by decide) rfl ?_
          refine z_aloadnR zh dX8_look_170 rfl ?_
          refine z_getf zh fl_RollingNets_12 dX8_look_171 ck_X rfl rfl ?_
          refine z_getI (x := nI 0) zh fl_RollingNets_162 dX8_look_174 (ck_H isH_1) rfl rfl (a1_planDone hG isH_1) ?_
          exact z_iret zh dX8_look_177 (⟨_, rfl, (by first | rfl | (simp (decide := true) only [sp_look, sel_t, sel_f, hb1, hb3, hp4]; first | done | rfl)), (by repeat (first | assumption | exact okR_of (by assumption) | refine okR_lI (by first | omega | (have := isM_lt (by assumption); omega) | (have := isH_lt (by assumption); omega)) ?_ | refine okR_lL (by first | omega | (have := isM_lt (by assumption); omega) | (have := isH_lt (by assumption); omega)) ?_))⟩)
        · refine z_tabIn (off := 158) (tgt := 178) zh dX8_look_20 (by decide) (by decide) (by decide) rfl ?_
          refine z_aloadnR zh dX8_look_178 rfl ?_
          refine z_getf zh fl_RollingNets_12 dX8_look_179 ck_X rfl rfl ?_
          refine z_iconst zh dX8_look_182 ki_m1 ?_
          refine z_iconst zh dX8_look_183 ki_0 ?_
          refine z_bipush zh dX8_look_184 kb_7 ?_
          refine z_callSIp zh ms_RollingNets_292 dX8_look_186 (c_overDeals g isH_1 hG) ⟨Nat.le_of_ble_eq_true rfl, Nat.le_of_ble_eq_true rfl⟩ rfl rfl (Nat.le_of_ble_eq_true rfl) ?_
          exact z_iret zh dX8_look_189 (⟨_, rfl, (by first | rfl | (simp (decide := true) only [sp_look, sel_t, sel_f, hb1, hb3, hp4]; first | done | rfl)), (by repeat (first | assumption | exact okR_of (by assumption) | refine okR_lI (by first | omega | (have := isM_lt (by assumption); omega) | (have := isH_lt (by assumption); omega)) ?_ | refine okR_lL (by first | omega | (have := isM_lt (by assumption); omega) | (have := isH_lt (by assumption); omega)) ?_))⟩)
        · refine z_tabIn (off := 170) (tgt := 190) zh dX8_look_20 (by decide) (by decide) (by decide) rfl ?_
          refine z_aloadnR zh dX8_look_190 rfl ?_
          refine z_getf zh fl_RollingNets_12 dX8_look_191 ck_X rfl rfl ?_
          refine z_callSIp zh ms_RollingNets_295 dX8_look_194 (c_lacking g isH_1 hG) ⟨Nat.le_of_ble_eq_true rfl, Nat.le_of_ble_eq_true rfl⟩ rfl rfl (Nat.le_of_ble_eq_true rfl) ?_
          exact z_iret zh dX8_look_197 (⟨_, rfl, (by first | rfl | (simp (decide := true) only [sp_look, sel_t, sel_f, hb1, hb3, hp4]; first | done | rfl)), (by repeat (first | assumption | exact okR_of (by assumption) | refine okR_lI (by first | omega | (have := isM_lt (by assumption); omega) | (have := isH_lt (by assumption); omega)) ?_ | refine okR_lL (by first | omega | (have := isM_lt (by assumption); omega) | (have := isH_lt (by assumption); omega)) ?_))⟩)
        · refine z_tabIn (off := 178) (tgt := 198) zh dX8_look_20 (by decide) (by decide) (by decide) rfl ?_
          refine z_aloadnR zh dX8_look_198 rfl ?_
          refine z_getf zh fl_RollingNets_12 dX8_look_199 ck_X rfl rfl ?_
          refine z_callSIp zh ms_RollingNets_298 dX8_look_202 (c_suspendedSet g isH_1 hG) ⟨Nat.le_of_ble_eq_true rfl, Nat.le_of_ble_eq_true rfl⟩ rfl rfl (Nat.le_of_ble_eq_true rfl) ?_
          exact z_iret zh dX8_look_205 (⟨_, rfl, (by first | rfl | (simp (decide := true) only [sp_look, sel_t, sel_f, hb1, hb3, hp4]; first | done | rfl)), (by repeat (first | assumption | exact okR_of (by assumption) | refine okR_lI (by first | omega | (have := isM_lt (by assumption); omega) | (have := isH_lt (by assumption); omega)) ?_ | refine okR_lL (by first | omega | (have := isM_lt (by assumption); omega) | (have := isH_lt (by assumption); omega)) ?_))⟩)
        · refine z_tabIn (off := 186) (tgt := 206) zh dX8_look_20 (by decide) (by decide) (by decide) rfl ?_
          refine z_aloadnR zh dX8_look_206 rfl ?_
          refine z_getf zh fl_RollingNets_12 dX8_look_207 ck_X rfl rfl ?_
          refine z_callSIp zh ms_RollingNets_301 dX8_look_210 (c_shortSet g isH_1 hG) ⟨Nat.le_of_ble_eq_true rfl, Nat.le_of_ble_eq_true rfl⟩ rfl rfl (Nat.le_of_ble_eq_true rfl) ?_
          exact z_iret zh dX8_look_213 (⟨_, rfl, (by first | rfl | (simp (decide := true) only [sp_look, sel_t, sel_f, hb1, hb3, hp4]; first | done | rfl)), (by repeat (first | assumption | exact okR_of (by assumption) | refine okR_lI (by first | omega | (have := isM_lt (by assumption); omega) | (have := isH_lt (by assumption); omega)) ?_ | refine okR_lL (by first | omega | (have := isM_lt (by assumption); omega) | (have := isH_lt (by assumption); omega)) ?_))⟩)
        · refine z_tabIn (off := 194) (tgt := 214) zh dX8_look_20 (by decide) (by decide) (by decide) rfl ?_
          refine z_aloadnR zh dX8_look_214 rfl ?_
          refine z_getf zh fl_RollingNets_12 dX8_look_215 ck_X rfl rfl ?_
          refine z_getf zh fl_RollingNets_57 dX8_look_218 (ck_H isH_1) rfl rfl ?_
          refine z_bipush zh dX8_look_221 kb_6 ?_
          refine z_ialdE (x := nI 0) zh (ck_told isH_1) dX8_look_223 (by decide) (show iv (1 + 1) 6 = nI 0 from a1_told hG isH_1 6) ?_
          exact z_iret zh dX8_look_224 (⟨_, rfl, (by first | rfl | (simp (decide := true) only [sp_look, sel_t, sel_f, hb1, hb3, hp4]; first | done | rfl)), (by repeat (first | assumption | exact okR_of (by assumption) | refine okR_lI (by first | omega | (have := isM_lt (by assumption); omega) | (have := isH_lt (by assumption); omega)) ?_ | refine okR_lL (by first | omega | (have := isM_lt (by assumption); omega) | (have := isH_lt (by assumption); omega)) ?_))⟩)
      · have hp4r : ¬ (6 ≤ w.toInt ∧ w.toInt ≤ 19) := fun z => hp4 ((Rg_toInt (by omega) (by omega)).mpr z)
        have hp4n6 : ¬ w = nI 6 := fun e => hp4 (by rw [e]; exact (Rg_nn (by omega) (by omega) (by omega)).mpr (by omega))
        have hp4n7 : ¬ w = nI 7 := fun e => hp4 (by rw [e]; exact (Rg_nn (by omega) (by omega) (by omega)).mpr (by omega))
        have hp4n8 : ¬ w = nI 8 := fun e => hp4 (by rw [e]; exact (Rg_nn (by omega) (by omega) (by omega)).mpr (by omega))
        have hp4n9 : ¬ w = nI 9 := fun e => hp4 (by rw [e]; exact (Rg_nn (by omega) (by omega) (by omega)).mpr (by omega))
        have hp4n10 : ¬ w = nI 10 := fun e => hp4 (by rw [e]; exact (Rg_nn (by omega) (by omega) (by omega)).mpr (by omega))
        have hp4n11 : ¬ w = nI 11 := fun e => hp4 (by rw [e]; exact (Rg_nn (by omega) (by omega) (by omega)).mpr (by omega))
        have hp4n12 : ¬ w = nI 12 := fun e => hp4 (by rw [e]; exact (Rg_nn (by omega) (by omega) (by omega)).mpr (by omega))
        have hp4n13 : ¬ w = nI 13 := fun e => hp4 (by rw [e]; exact (Rg_nn (by omega) (by omega) (by omega)).mpr (by omega))
        have hp4n14 : ¬ w = nI 14 := fun e => hp4 (by rw [e]; exact (Rg_nn (by omega) (by omega) (by omega)).mpr (by omega))
        have hp4n15 : ¬ w = nI 15 := fun e => hp4 (by rw [e]; exact (Rg_nn (by omega) (by omega) (by omega)).mpr (by omega))
        have hp4n16 : ¬ w = nI 16 := fun e => hp4 (by rw [e]; exact (Rg_nn (by omega) (by omega) (by omega)).mpr (by omega))
        have hp4n17 : ¬ w = nI 17 := fun e => hp4 (by rw [e]; exact (Rg_nn (by omega) (by omega) (by omega)).mpr (by omega))
        have hp4n18 : ¬ w = nI 18 := fun e => hp4 (by rw [e]; exact (Rg_nn (by omega) (by omega) (by omega)).mpr (by omega))
        have hp4n19 : ¬ w = nI 19 := fun e => hp4 (by rw [e]; exact (Rg_nn (by omega) (by omega) (by omega)).mpr (by omega))
        refine z_tabOut (tgt := 225) zh dX8_look_20 (by omega) rfl ?_
        refine z_ldc zh dX8_look_225 kc_RollingNets_194 ?_
        exact z_iret zh dX8_look_227 (⟨_, rfl, (by
      have e5 : (nI 5).toInt = 5 := by decide
      have e0 : (nI 0).toInt = 0 := by decide
      have hn : ∀ k, k < 6 → ¬ w = nI k := fun k hk e => by subst e; have := nI_toInt (n := k) (by omega); simp only [Int32.le_iff_toInt_le, Int32.lt_iff_toInt_lt, Int32.toInt_zero] at *; omega
      have n0 := hn 0 (by omega); have n1 := hn 1 (by omega); have n2 := hn 2 (by omega); have n3 := hn 3 (by omega); have n4 := hn 4 (by omega); have n5 := hn 5 (by omega)
      simp only [sp_look, sel_f n0, sel_f n1, sel_f n2, sel_f n3, sel_f n4, sel_f n5, sel_f hp4]), (by repeat (first | assumption | exact okR_of (by assumption) | refine okR_lI (by first | omega | (have := isM_lt (by assumption); omega) | (have := isH_lt (by assumption); omega)) ?_ | refine okR_lL (by first | omega | (have := isM_lt (by assumption); omega) | (have := isH_lt (by assumption); omega)) ?_))⟩)
    · obtain ⟨jw, hjw, rfl⟩ := (InN_lt (n := 6) (by omega)).mpr ⟨Int32.not_lt.mp hb1, by rw [Int32.lt_iff_toInt_lt]; have h5 := Int32.not_lt.mp hb3; rw [Int32.le_iff_toInt_le] at h5; have e5 : (nI 5).toInt = 5 := (by decide); have e6 : (nI 6).toInt = 6 := (by decide); omega⟩
      refine z_aloadnR zh dX8_look_9 rfl ?_
      refine z_getf zh fl_RollingNets_12 dX8_look_10 ck_X rfl rfl ?_
      refine z_getf zh fl_RollingNets_57 dX8_look_13 (ck_H isH_1) rfl rfl ?_
      refine z_iloadn zh dX8_look_16 rfl ?_
      refine z_ialdE (x := nI (tfN jw)) zh (ck_told isH_1) dX8_look_17 (by omega) (a1_told hG isH_1 _) ?_
      exact z_iret zh dX8_look_18 (⟨_, rfl, (by rcases (by omega : jw = 0 ∨ jw = 1 ∨ jw = 2 ∨ jw = 3 ∨ jw = 4 ∨ jw = 5) with rfl | rfl | rfl | rfl | rfl | rfl <;> (simp (decide := true) only [sp_look, sel_t, sel_f]; first | done | rfl)), (by repeat (first | assumption | exact okR_of (by assumption) | refine okR_lI (by first | omega | (have := isM_lt (by assumption); omega) | (have := isH_lt (by assumption); omega)) ?_ | refine okR_lL (by first | omega | (have := isM_lt (by assumption); omega) | (have := isH_lt (by assumption); omega)) ?_))⟩)
set_option maxRecDepth 20000 in
theorem c_X_queue (g : GE) {x i w : Int32} {iv : Iv} {lv : Lv} {dd : Nat → Nat} {dm : Nat}  (hG : Ok1 dd dm iv lv) : ConI g yX8_queue cX8_queue 5 (some .int) 5 [rf g 0, .int x, .int i, .int w] iv lv (fun r iv' lv' => r = sp_queue x i ∧ OkR (fun _ => 0) dm iv' lv') := by
  refine con_intro (own := "RollingNets") (by decide +kernel) rfl (Nat.le_of_ble_eq_true rfl) (L0 := [some (rf g 0), some (.int x), some (.int i), some (.int w), none]) rfl (fun Z zh => ?_)
  refine z_iloadn zh dX8_queue_0 rfl ?_
  refine z_callSIp zh ms_RollingNets_68 dX8_queue_1 (c_isIssue g) ⟨Nat.le_of_ble_eq_true rfl, Nat.le_of_ble_eq_true rfl⟩ rfl rfl (Nat.le_of_ble_eq_true rfl) ?_
  refine z_if_ne_B (tgt := 9) zh dX8_queue_4 rfl (fun hp1 => ?_) (fun hp1 => ?_)
  · obtain ⟨jx, hjx, rfl⟩ := id hp1
    refine z_aloadnR zh dX8_queue_9 rfl ?_
    refine z_getf zh fl_RollingNets_12 dX8_queue_10 ck_X rfl rfl ?_
    refine z_getf zh fl_RollingNets_236 dX8_queue_13 (ck_H isH_1) rfl rfl ?_
    refine z_astore zh dX8_queue_16 (by decide) (L' := [some (rf g 0), some (.int (nI jx)), some (.int i), some (.int w), some (rf g (1 + 54))]) rfl ?_
    refine z_aloadR zh dX8_queue_18 rfl ?_
    refine z_aloadnR zh dX8_queue_20 rfl ?_
    refine z_getf zh fl_RollingNets_12 dX8_queue_21 ck_X rfl rfl ?_
    refine z_iloadn zh dX8_queue_24 rfl ?_
    refine z_callVV zh mv_RollingNets_240 dX8_queue_25 (ck_line isH_1) rfl (c_form g isH_1 hjx hG) ⟨Nat.le_of_ble_eq_true rfl, Nat.le_of_ble_eq_true rfl⟩ rfl rfl (Nat.le_of_ble_eq_true rfl) ?_
    rintro iv lv hG
    refine z_iloadn zh dX8_queue_28 rfl ?_
    refine z_iconst zh dX8_queue_29 ki_m1 ?_
    refine z_icmp_ne (tgt := 39) zh dX8_queue_30 rfl (fun hb2 => ?_) (fun hb2 => ?_)
    · refine z_iloadn zh dX8_queue_39 rfl ?_
      refine z_if_lt (tgt := 52) zh dX8_queue_40 rfl (fun hb3 => ?_) (fun hb3 => ?_)
      · refine z_iconst zh dX8_queue_52 ki_m1 ?_
        exact z_iret zh dX8_queue_53 (⟨_, rfl, (by first | rfl | simp (decide := true) only [sp_queue, sel_t, sel_f, selL_t, selL_f, bi_t, bi_f, sel_same, selL_same, eq_self, hp1, hb2, hb3]), (by repeat (first | assumption | exact okR_of (by assumption) | refine okR_lI (by first | omega | (have := isM_lt (by assumption); omega) | (have := isH_lt (by assumption); omega)) ?_ | refine okR_lL (by first | omega | (have := isM_lt (by assumption); omega) | (have := isH_lt (by assumption); omega)) ?_))⟩)
      · refine z_iloadn zh dX8_queue_43 rfl ?_
        refine z_aloadR zh dX8_queue_44 rfl ?_
        refine z_getI (x := nI 0) zh fl_RollingNets_246 dX8_queue_46 (ck_line isH_1) rfl rfl (a1_ln hG isH_1) ?_
        refine z_icmp_lt (tgt := 54) zh dX8_queue_49 rfl (fun q => absurd q (show ¬ i < nI 0 from hb3)) (fun _ => ?_)
        refine z_iconst zh dX8_queue_52 ki_m1 ?_
        exact z_iret zh dX8_queue_53 (⟨_, rfl, (by first | rfl | simp (decide := true) only [sp_queue, sel_t, sel_f, selL_t, selL_f, bi_t, bi_f, sel_same, selL_same, eq_self, hp1, hb2, hb3]), (by repeat (first | assumption | exact okR_of (by assumption) | refine okR_lI (by first | omega | (have := isM_lt (by assumption); omega) | (have := isH_lt (by assumption); omega)) ?_ | refine okR_lL (by first | omega | (have := isM_lt (by assumption); omega) | (have := isH_lt (by assumption); omega)) ?_))⟩)
    · refine z_aloadR zh dX8_queue_33 rfl ?_
      refine z_getI (x := nI 0) zh fl_RollingNets_246 dX8_queue_35 (ck_line isH_1) rfl rfl (a1_ln hG isH_1) ?_
      exact z_iret zh dX8_queue_38 (⟨_, rfl, (by first | rfl | simp (decide := true) only [sp_queue, sel_t, sel_f, selL_t, selL_f, bi_t, bi_f, sel_same, selL_same, eq_self, hp1, hb2]), (by repeat (first | assumption | exact okR_of (by assumption) | refine okR_lI (by first | omega | (have := isM_lt (by assumption); omega) | (have := isH_lt (by assumption); omega)) ?_ | refine okR_lL (by first | omega | (have := isM_lt (by assumption); omega) | (have := isH_lt (by assumption); omega)) ?_))⟩)
  · refine z_iconst zh dX8_queue_7 ki_m1 ?_
    exact z_iret zh dX8_queue_8 (⟨_, rfl, (by first | rfl | simp (decide := true) only [sp_queue, sel_t, sel_f, selL_t, selL_f, bi_t, bi_f, sel_same, selL_same, eq_self, hp1]), (by repeat (first | assumption | exact okR_of (by assumption) | refine okR_lI (by first | omega | (have := isM_lt (by assumption); omega) | (have := isH_lt (by assumption); omega)) ?_ | refine okR_lL (by first | omega | (have := isM_lt (by assumption); omega) | (have := isH_lt (by assumption); omega)) ?_))⟩)
set_option maxRecDepth 20000 in
theorem c_X_tomorrow (g : GE) {x y w : Int32} {iv : Iv} {lv : Lv} {dd : Nat → Nat} {dm : Nat}  (hG : Ok1 (fun _ => 0) dm iv lv) : ConI g yX8_tomorrow cX8_tomorrow 4 (some .int) 7 [rf g 0, .int x, .int y, .int w] iv lv (fun r iv' lv' => r = sp_at x y w ∧ OkR (fun _ => 0) dm iv' lv') := by
  refine con_intro (own := "RollingNets") (by decide +kernel) rfl (Nat.le_of_ble_eq_true rfl) (L0 := [some (rf g 0), some (.int x), some (.int y), some (.int w)]) rfl (fun Z zh => ?_)
  refine z_aloadnR zh dX8_tomorrow_0 rfl ?_
  refine z_getf zh fl_RollingNets_12 dX8_tomorrow_1 ck_X rfl rfl ?_
  refine z_iloadn zh dX8_tomorrow_4 rfl ?_
  refine z_callVIp zh mv_RollingNets_60 dX8_tomorrow_5 (ck_H isH_1) rfl (c_hasMember g isH_1 hG) ⟨Nat.le_of_ble_eq_true rfl, Nat.le_of_ble_eq_true rfl⟩ rfl rfl (Nat.le_of_ble_eq_true rfl) ?_
  refine z_if_eq_B (tgt := 30) zh dX8_tomorrow_8 rfl (fun hp1 => ?_) (fun hp1 => ?_)
  · refine z_ldc zh dX8_tomorrow_30 kc_RollingNets_194 ?_
    exact z_iret zh dX8_tomorrow_32 (⟨_, rfl, (by first | rfl | simp (decide := true) only [sp_at, sel_t, sel_f, selL_t, selL_f, bi_t, bi_f, sel_same, selL_same, eq_self, hp1]), (by repeat (first | assumption | exact okR_of (by assumption) | refine okR_lI (by first | omega | (have := isM_lt (by assumption); omega) | (have := isH_lt (by assumption); omega)) ?_ | refine okR_lL (by first | omega | (have := isM_lt (by assumption); omega) | (have := isH_lt (by assumption); omega)) ?_))⟩)
  · obtain ⟨jx, hjx, rfl⟩ := id hp1
    refine z_iloadn zh dX8_tomorrow_11 rfl ?_
    refine z_callSIp zh ms_RollingNets_68 dX8_tomorrow_12 (c_isIssue g) ⟨Nat.le_of_ble_eq_true rfl, Nat.le_of_ble_eq_true rfl⟩ rfl rfl (Nat.le_of_ble_eq_true rfl) ?_
    refine z_if_eq_B (tgt := 30) zh dX8_tomorrow_15 rfl (fun hp2 => ?_) (fun hp2 => ?_)
    · refine z_ldc zh dX8_tomorrow_30 kc_RollingNets_194 ?_
      exact z_iret zh dX8_tomorrow_32 (⟨_, rfl, (by first | rfl | simp (decide := true) only [sp_at, sel_t, sel_f, selL_t, selL_f, bi_t, bi_f, sel_same, selL_same, eq_self, hp1, hp2]), (by repeat (first | assumption | exact okR_of (by assumption) | refine okR_lI (by first | omega | (have := isM_lt (by assumption); omega) | (have := isH_lt (by assumption); omega)) ?_ | refine okR_lL (by first | omega | (have := isM_lt (by assumption); omega) | (have := isH_lt (by assumption); omega)) ?_))⟩)
    · obtain ⟨jy, hjy, rfl⟩ := id hp2
      refine z_aloadnR zh dX8_tomorrow_18 rfl ?_
      refine z_getf zh fl_RollingNets_12 dX8_tomorrow_19 ck_X rfl rfl ?_
      refine z_getI (x := nI 0) zh fl_RollingNets_261 dX8_tomorrow_22 (ck_H isH_1) rfl rfl ((a1_day hG isH_1).trans rfl) ?_
      refine z_bipush zh dX8_tomorrow_25 kb_99 ?_
      refine z_icmp_lt_N (tgt := 33) zh (by decide) (by decide) dX8_tomorrow_27 rfl (fun _ => ?_) (fun q => absurd q (by decide))
      refine z_aloadnR zh dX8_tomorrow_33 rfl ?_
      refine z_getf zh fl_RollingNets_19 dX8_tomorrow_34 ck_X rfl rfl ?_
      refine z_aloadnR zh dX8_tomorrow_37 rfl ?_
      refine z_getf zh fl_RollingNets_12 dX8_tomorrow_38 ck_X rfl rfl ?_
      refine z_callVV zh mv_RollingNets_191 dX8_tomorrow_41 (ck_H isH_3) rfl (c_hcopy g isH_3 isH_1 rfl hG) ⟨Nat.le_of_ble_eq_true rfl, Nat.le_of_ble_eq_true rfl⟩ rfl rfl (Nat.le_of_ble_eq_true rfl) ?_
      rintro iv lv hG
      refine z_aloadnR zh dX8_tomorrow_44 rfl ?_
      refine z_getf zh fl_RollingNets_19 dX8_tomorrow_45 ck_X rfl rfl ?_
      refine z_iconst zh dX8_tomorrow_48 ki_1 ?_
      refine z_callSI zh ms_RollingNets_123 dX8_tomorrow_49 (c_pass g isH_3 rfl hG) ⟨Nat.le_of_ble_eq_true rfl, Nat.le_of_ble_eq_true rfl⟩ rfl rfl (Nat.le_of_ble_eq_true rfl) ?_
      rintro _ iv lv (⟨hnR, rfl, hG⟩ | ⟨n, hln, hhn, hxn, rfl, hG⟩)
      · skip
        exact absurd ((Rg_nn (by omega) (by omega) (by omega)).mpr (by omega)) hnR
      · skip
        obtain rfl : 1 = n := (nI_eq (by omega) (by omega)).mp hxn
        refine z_pop zh dX8_tomorrow_52 rfl ?_
        refine z_iloadn zh dX8_tomorrow_53 rfl ?_
        refine z_bipush zh dX8_tomorrow_54 kb_9 ?_
        refine z_icmp_ne (tgt := 80) zh dX8_tomorrow_56 rfl (fun hb3 => ?_) (fun hb3 => ?_)
        · refine z_aloadnR zh dX8_tomorrow_80 rfl ?_
          refine z_getf zh fl_RollingNets_19 dX8_tomorrow_81 ck_X rfl rfl ?_
          refine z_iloadn zh dX8_tomorrow_84 rfl ?_
          refine z_iloadn zh dX8_tomorrow_85 rfl ?_
          refine z_iloadn zh dX8_tomorrow_86 rfl ?_
          refine z_callVIp zh mv_RollingNets_198 dX8_tomorrow_87 (ck_H isH_3) rfl (c_holding g isH_3 hjy (by omega) hG) ⟨Nat.le_of_ble_eq_true rfl, Nat.le_of_ble_eq_true rfl⟩ rfl rfl (Nat.le_of_ble_eq_true rfl) ?_
          exact z_iret zh dX8_tomorrow_90 (⟨_, rfl, (by first | rfl | simp (decide := true) only [sp_at, sel_t, sel_f, selL_t, selL_f, bi_t, bi_f, sel_same, selL_same, eq_self, hp1, hp2, hb3]), (by repeat (first | assumption | exact okR_of (by assumption) | refine okR_lI (by first | omega | (have := isM_lt (by assumption); omega) | (have := isH_lt (by assumption); omega)) ?_ | refine okR_lL (by first | omega | (have := isM_lt (by assumption); omega) | (have := isH_lt (by assumption); omega)) ?_))⟩)
        · refine z_aloadnR zh dX8_tomorrow_59 rfl ?_
          refine z_getf zh fl_RollingNets_19 dX8_tomorrow_60 ck_X rfl rfl ?_
          refine z_getf zh fl_RollingNets_209 dX8_tomorrow_63 (ck_H isH_3) rfl rfl ?_
          refine z_iloadn zh dX8_tomorrow_66 rfl ?_
          refine z_laldE (x := (0 : Int64)) zh (ck_cash isH_3) dX8_tomorrow_67 (by omega) (a1_cash hG isH_3) ?_
          refine z_aloadnR zh dX8_tomorrow_68 rfl ?_
          refine z_getf zh fl_RollingNets_12 dX8_tomorrow_69 ck_X rfl rfl ?_
          refine z_getf zh fl_RollingNets_209 dX8_tomorrow_72 (ck_H isH_1) rfl rfl ?_
          refine z_iloadn zh dX8_tomorrow_75 rfl ?_
          refine z_laldE (x := (0 : Int64)) zh (ck_cash isH_1) dX8_tomorrow_76 (by omega) (a1_cash hG isH_1) ?_
          refine z_lsub zh dX8_tomorrow_77 ?_
          rw [show (0 : Int64) - (0 : Int64) = (0 : Int64) from by decide]
          refine z_l2i zh dX8_tomorrow_78 ?_
          rw [show ((0 : Int64)).toInt32 = nI 0 from by decide]
          exact z_iret zh dX8_tomorrow_79 (⟨_, rfl, (by first | rfl | simp (decide := true) only [sp_at, sel_t, sel_f, selL_t, selL_f, bi_t, bi_f, sel_same, selL_same, eq_self, hp1, hp2, hb3]), (by repeat (first | assumption | exact okR_of (by assumption) | refine okR_lI (by first | omega | (have := isM_lt (by assumption); omega) | (have := isH_lt (by assumption); omega)) ?_ | refine okR_lL (by first | omega | (have := isM_lt (by assumption); omega) | (have := isH_lt (by assumption); omega)) ?_))⟩)
set_option maxRecDepth 20000 in
theorem c_X_image (g : GE) {z : Int32} {iv : Iv} {lv : Lv} {dd : Nat → Nat} {dm : Nat}  (hG : Ok1 (fun _ => 0) dm iv lv) : ConI g yX8_image cX8_image 2 (some .boolean) 5 [rf g 0, .int z] iv lv (fun r iv' lv' => r = sel (z = 0) (nI 0) (nI 1) ∧ OkR (fun _ => 0) dm iv' lv') := by
  refine con_intro (own := "RollingNets") (by decide +kernel) rfl (Nat.le_of_ble_eq_true rfl) (L0 := [some (rf g 0), some (.int z)]) rfl (fun Z zh => ?_)
  refine z_iloadn zh dX8_image_0 rfl ?_
  refine z_if_eq (tgt := 22) zh dX8_image_1 rfl (fun hb1 => ?_) (fun hb1 => ?_)
  · refine z_aloadnR zh dX8_image_22 rfl ?_
    refine z_getI (x := nI 0) zh fl_RollingNets_29 dX8_image_23 ck_X rfl rfl (a1_isKept hG) ?_
    refine z_if_ne_N (tgt := 31) zh (by decide) dX8_image_26 rfl (fun q => absurd q (by decide)) (fun _ => ?_)
    refine z_iconst zh dX8_image_29 ki_0 ?_
    exact z_zret zh dX8_image_30 (Or.inl rfl) (⟨_, rfl, (by first | rfl | simp (decide := true) only [sel_t, sel_f, selL_t, selL_f, bi_t, bi_f, sel_same, selL_same, eq_self, hb1]), (by repeat (first | assumption | exact okR_of (by assumption) | refine okR_lI (by first | omega | (have := isM_lt (by assumption); omega) | (have := isH_lt (by assumption); omega)) ?_ | refine okR_lL (by first | omega | (have := isM_lt (by assumption); omega) | (have := isH_lt (by assumption); omega)) ?_))⟩)
  · refine z_aloadnR zh dX8_image_4 rfl ?_
    refine z_getf zh fl_RollingNets_16 dX8_image_5 ck_X rfl rfl ?_
    refine z_aloadnR zh dX8_image_8 rfl ?_
    refine z_getf zh fl_RollingNets_12 dX8_image_9 ck_X rfl rfl ?_
    refine z_callVV zh mv_RollingNets_191 dX8_image_12 (ck_H isH_2) rfl (c_hcopy g isH_2 isH_1 rfl hG) ⟨Nat.le_of_ble_eq_true rfl, Nat.le_of_ble_eq_true rfl⟩ rfl rfl (Nat.le_of_ble_eq_true rfl) ?_
    rintro iv lv hG
    refine z_aloadnR zh dX8_image_15 rfl ?_
    refine z_iconst zh dX8_image_16 ki_1 ?_
    refine z_putI zh fl_RollingNets_29 dX8_image_17 ck_X rfl rfl (Nat.le_of_ble_eq_true rfl) (Or.inr ⟨rfl, Or.inr rfl⟩) ?_
    refine z_iconst zh dX8_image_20 ki_1 ?_
    exact z_zret zh dX8_image_21 (Or.inr rfl) (⟨_, rfl, (by first | rfl | simp (decide := true) only [sel_t, sel_f, selL_t, selL_f, bi_t, bi_f, sel_same, selL_same, eq_self, hb1]), (by repeat (first | assumption | exact okR_of (by assumption) | refine okR_lI (by first | omega | (have := isM_lt (by assumption); omega) | (have := isH_lt (by assumption); omega)) ?_ | refine okR_lL (by first | omega | (have := isM_lt (by assumption); omega) | (have := isH_lt (by assumption); omega)) ?_))⟩)
theorem c_X_set (g : GE) {x v : Int32} {iv : Iv} {lv : Lv} {dd : Nat → Nat} {dm : Nat} (hG : Ok1 dd dm iv lv) : ConI g yX8_set cX8_set 3 (some .boolean) 2 [rf g 0, .int x, .int v] iv lv (fun r iv' lv' => r = sp_set x v ∧ OkR (fun _ => 0) dm iv' lv') := by
  by_cases hx : InN 7 x
  · obtain ⟨j, hj, rfl⟩ := hx
    have b4 : bi (InN 4 v) = bi (Rg (nI 0) (nI 3) v) := bi_iff (InN_le (by decide))
    have b6 : bi (InN 6 v) = bi (Rg (nI 0) (nI 5) v) := bi_iff (InN_le (by decide))
    have b1 : bi (InN 101 v) = bi (Rg (nI 0) (nI 100) v) := bi_iff (InN_le (by decide))
    rcases (by omega : j = 0 ∨ j = 1 ∨ j = 2 ∨ j = 3 ∨ j = 4 ∨ j = 5 ∨ j = 6) with rfl | rfl | rfl | rfl | rfl | rfl | rfl
    · rw [show sp_set (nI 0) v = bi (Rg (nI 2) (nI 12) v) from by simp (decide := true) only [sp_set, sel_t]]; exact c_set0 g hG
    · rw [show sp_set (nI 1) v = bi (Rg (nI 0) (nI 3) v) from by simp (decide := true) only [sp_set, sel_t, sel_f, b4]]; exact c_set1 g hG
    · rw [show sp_set (nI 2) v = bi (Rg (nI 1) (nI 9) v) from by simp (decide := true) only [sp_set, sel_t, sel_f]]; exact c_set2 g hG
    · rw [show sp_set (nI 3) v = bi (Rg (nI 1) (nI 9) v) from by simp (decide := true) only [sp_set, sel_t, sel_f]]; exact c_set3 g hG
    · rw [show sp_set (nI 4) v = bi (Rg (nI 0) (nI 5) v) from by simp (decide := true) only [sp_set, sel_t, sel_f, b6]]; exact c_set4 g hG
    · rw [show sp_set (nI 5) v = bi (Rg (nI 0) (nI 100) v) from by simp (decide := true) only [sp_set, sel_t, sel_f, b1]]; exact c_set5 g hG
    · rw [show sp_set (nI 6) v = bi (Rg (nI 0) (nI 100) v) from by simp (decide := true) only [sp_set, sel_t, sel_f, b1]]; exact c_set6 g hG
  · rw [show sp_set x v = nI 0 from by simp only [sp_set, sel_f (InN_no hx (j := 0) (by omega)), sel_f (InN_no hx (j := 1) (by omega)), sel_f (InN_no hx (j := 2) (by omega)), sel_f (InN_no hx (j := 3) (by omega)), sel_f (InN_no hx (j := 4) (by omega)), sel_f (InN_no hx (j := 5) (by omega)), sel_f (InN_no hx (j := 6) (by omega))]]; exact c_setno g hx hG
