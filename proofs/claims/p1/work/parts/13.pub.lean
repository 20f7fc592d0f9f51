noncomputable def sp_at (x y w : Int32) : Int32 := sel (InN 6 x) (sel (InN 6 y) (sel (w = nI 9) (nI 0) (sp_hold w)) (-1000000)) (-1000000)
noncomputable def sp_trade (b s i n p : Int32) : Int32 := sel (InN 6 b) (sel (InN 6 s) (sel (b = s) (-1) (sel (InN 6 i) (sel (Rg (nI 1) (nI 9999) n) (sel (Rg (nI 1) (nI 9999) p) (nI 0) (-1)) (-1)) (-1))) (-1)) (-1)
noncomputable def sp_iss0 (x w : Int32) : Int32 := sel (InN 6 x) (sp_iss w) (-1)
noncomputable def sp_fault (w : Int32) : Int32 := sel (w = nI 0) (nI 0) (-1)
noncomputable def sp_marg (x w : Int32) : Int64 := selL (InN 6 x) (selL (InN 3 w) 0 (-1)) (-1)
noncomputable def sp_look (w : Int32) : Int32 := sel (w = nI 0) (nI 6) (sel (w = nI 1) (nI 2) (sel (w = nI 2) (nI 2) (sel (w = nI 3) (nI 3) (sel (w = nI 4) (nI 1) (sel (w = nI 5) (nI 10) (sel (Rg (nI 6) (nI 19) w) (nI 0) (-1000000)))))))
noncomputable def sp_tell (x y w v : Int32) : Int32 := sel (InN 6 x) (sel (w = nI 3) (bi (InN 10 v)) (sel (InN 6 y) (sel (InN 100000 v) (bi (InN 3 w)) (nI 0)) (nI 0))) (nI 0)
noncomputable def sp_set (w v : Int32) : Int32 := sel (w = nI 0) (bi (Rg (nI 2) (nI 12) v)) (sel (w = nI 1) (bi (InN 4 v)) (sel (w = nI 2) (bi (Rg (nI 1) (nI 9) v)) (sel (w = nI 3) (bi (Rg (nI 1) (nI 9) v)) (sel (w = nI 4) (bi (InN 6 v)) (sel (w = nI 5) (bi (InN 101 v)) (sel (w = nI 6) (bi (InN 101 v)) (nI 0)))))))
noncomputable def sp_split (x n : Int32) : Int32 := sel (InN 6 x) (sel (Rg (nI 2) (nI 5) n) (sel (n = nI 3) (nI 0) (nI 1)) (nI 0)) (nI 0)
noncomputable def sp_queue (x i : Int32) : Int32 := sel (InN 6 x) (sel (i = -1) (nI 0) (-1)) (-1)
noncomputable def sp2 (a b : Prop) (t f : Int32) : Int32 := sel a (sel b t f) f
set_option maxRecDepth 20000 in
theorem c_X_at (g : GE) {x y w : Int32} {iv : Iv} {lv : Lv} {dd : Nat → Nat} {dm : Nat}  (hG : Ok1 dd dm iv lv) : ConI g yX8_at cX8_at 4 (some .int) 5 [rf g 0, .int x, .int y, .int w] iv lv (fun r iv' lv' => r = sp_at x y w ∧ OkR (fun _ => 0) dm iv' lv') := by
  refine con_intro (own := "RollingNets") (by decide +kernel) rfl (Nat.le_of_ble_eq_true rfl) (L0 := [some (rf g 0), some (.int x), some (.int y), some (.int w)]) rfl (fun Z zh => ?_)
  refine z_aloadnR zh dX8_at_0 rfl ?_
  refine z_getf zh fl_RollingNets_12 dX8_at_1 ck_X rfl rfl ?_
  refine z_iloadn zh dX8_at_4 rfl ?_
  refine z_callVIp zh mv_RollingNets_60 dX8_at_5 (ck_H isH_1) rfl (c_hasMember g isH_1 hG) ⟨Nat.le_of_ble_eq_true rfl, Nat.le_of_ble_eq_true rfl⟩ rfl rfl (Nat.le_of_ble_eq_true rfl) ?_
  refine z_if_eq_B (tgt := 18) zh dX8_at_8 rfl (fun hp1 => ?_) (fun hp1 => ?_)
  · refine z_ldc zh dX8_at_18 kc_RollingNets_194 ?_
    exact z_iret zh dX8_at_20 (⟨_, rfl, (by first | rfl | simp (decide := true) only [sp_at, sel_t, sel_f, selL_t, selL_f, bi_t, bi_f, sel_same, selL_same, eq_self, hp1]), (by repeat (first | assumption | exact okR_of (by assumption) | refine okR_lI (by first | omega | (have := isM_lt (by assumption); omega) | (have := isH_lt (by assumption); omega)) ?_ | refine okR_lL (by first | omega | (have := isM_lt (by assumption); omega) | (have := isH_lt (by assumption); omega)) ?_))⟩)
  · obtain ⟨jx, hjx, rfl⟩ := id hp1
    refine z_iloadn zh dX8_at_11 rfl ?_
    refine z_callSIp zh ms_RollingNets_68 dX8_at_12 (c_isIssue g) ⟨Nat.le_of_ble_eq_true rfl, Nat.le_of_ble_eq_true rfl⟩ rfl rfl (Nat.le_of_ble_eq_true rfl) ?_
    refine z_if_ne_B (tgt := 21) zh dX8_at_15 rfl (fun hp2 => ?_) (fun hp2 => ?_)
    · obtain ⟨jy, hjy, rfl⟩ := id hp2
      refine z_iloadn zh dX8_at_21 rfl ?_
      refine z_bipush zh dX8_at_22 kb_9 ?_
      refine z_icmp_ne (tgt := 44) zh dX8_at_24 rfl (fun hb3 => ?_) (fun hb3 => ?_)
      · refine z_aloadnR zh dX8_at_44 rfl ?_
        refine z_getf zh fl_RollingNets_12 dX8_at_45 ck_X rfl rfl ?_
        refine z_iloadn zh dX8_at_48 rfl ?_
        refine z_iloadn zh dX8_at_49 rfl ?_
        refine z_iloadn zh dX8_at_50 rfl ?_
        refine z_callVIp zh mv_RollingNets_198 dX8_at_51 (ck_H isH_1) rfl (c_holding g isH_1 hjy (by omega) hG) ⟨Nat.le_of_ble_eq_true rfl, Nat.le_of_ble_eq_true rfl⟩ rfl rfl (Nat.le_of_ble_eq_true rfl) ?_
        exact z_iret zh dX8_at_54 (⟨_, rfl, (by first | rfl | simp (decide := true) only [sp_at, sel_t, sel_f, selL_t, selL_f, bi_t, bi_f, sel_same, selL_same, eq_self, hp1, hp2, hb3]), (by repeat (first | assumption | exact okR_of (by assumption) | refine okR_lI (by first | omega | (have := isM_lt (by assumption); omega) | (have := isH_lt (by assumption); omega)) ?_ | refine okR_lL (by first | omega | (have := isM_lt (by assumption); omega) | (have := isH_lt (by assumption); omega)) ?_))⟩)
      · refine z_aloadnR zh dX8_at_27 rfl ?_
        refine z_getf zh fl_RollingNets_12 dX8_at_28 ck_X rfl rfl ?_
        refine z_getf zh fl_RollingNets_72 dX8_at_31 (ck_H isH_1) rfl rfl ?_
        refine z_iloadn zh dX8_at_34 rfl ?_
        refine z_maldN zh (ck_markets isH_1) dX8_at_35 hjy ?_
        refine z_getf zh fl_RollingNets_195 dX8_at_36 (ck_M (isM_of isH_1 hjy)) rfl rfl ?_
        refine z_iloadn zh dX8_at_39 rfl ?_
        refine z_ialdE (x := nI 0) zh (ck_mi 5 (by decide) (isM_of isH_1 hjy)) dX8_at_40 (by omega) (a1_mi hG (isM_of isH_1 hjy) 5 (by decide)) ?_
        refine z_goto (tgt := 54) zh dX8_at_41 rfl ?_
        exact z_iret zh dX8_at_54 (⟨_, rfl, (by first | rfl | simp (decide := true) only [sp_at, sel_t, sel_f, selL_t, selL_f, bi_t, bi_f, sel_same, selL_same, eq_self, hp1, hp2, hb3]), (by repeat (first | assumption | exact okR_of (by assumption) | refine okR_lI (by first | omega | (have := isM_lt (by assumption); omega) | (have := isH_lt (by assumption); omega)) ?_ | refine okR_lL (by first | omega | (have := isM_lt (by assumption); omega) | (have := isH_lt (by assumption); omega)) ?_))⟩)
    · refine z_ldc zh dX8_at_18 kc_RollingNets_194 ?_
      exact z_iret zh dX8_at_20 (⟨_, rfl, (by first | rfl | simp (decide := true) only [sp_at, sel_t, sel_f, selL_t, selL_f, bi_t, bi_f, sel_same, selL_same, eq_self, hp1, hp2]), (by repeat (first | assumption | exact okR_of (by assumption) | refine okR_lI (by first | omega | (have := isM_lt (by assumption); omega) | (have := isH_lt (by assumption); omega)) ?_ | refine okR_lL (by first | omega | (have := isM_lt (by assumption); omega) | (have := isH_lt (by assumption); omega)) ?_))⟩)
set_option maxRecDepth 20000 in
theorem c_X_lot (g : GE) {x y i w : Int32} {iv : Iv} {lv : Lv} {dd : Nat → Nat} {dm : Nat}  (hG : Ok1 dd dm iv lv) : ConI g yX8_lot cX8_lot 7 (some .int) 3 [rf g 0, .int x, .int y, .int i, .int w] iv lv (fun r iv' lv' => r = (-1) ∧ OkR (fun _ => 0) dm iv' lv') := by
  refine con_intro (own := "RollingNets") (by decide +kernel) rfl (Nat.le_of_ble_eq_true rfl) (L0 := [some (rf g 0), some (.int x), some (.int y), some (.int i), some (.int w), none, none]) rfl (fun Z zh => ?_)
  refine z_aloadnR zh dX8_lot_0 rfl ?_
  refine z_getf zh fl_RollingNets_12 dX8_lot_1 ck_X rfl rfl ?_
  refine z_iloadn zh dX8_lot_4 rfl ?_
  refine z_callVIp zh mv_RollingNets_60 dX8_lot_5 (ck_H isH_1) rfl (c_hasMember g isH_1 hG) ⟨Nat.le_of_ble_eq_true rfl, Nat.le_of_ble_eq_true rfl⟩ rfl rfl (Nat.le_of_ble_eq_true rfl) ?_
  refine z_if_eq_B (tgt := 18) zh dX8_lot_8 rfl (fun hp1 => ?_) (fun hp1 => ?_)
  · refine z_iconst zh dX8_lot_18 ki_m1 ?_
    exact z_iret zh dX8_lot_19 (⟨_, rfl, rfl, (by repeat (first | assumption | exact okR_of (by assumption) | refine okR_lI (by first | omega | (have := isM_lt (by assumption); omega) | (have := isH_lt (by assumption); omega)) ?_ | refine okR_lL (by first | omega | (have := isM_lt (by assumption); omega) | (have := isH_lt (by assumption); omega)) ?_))⟩)
  · obtain ⟨jx, hjx, rfl⟩ := id hp1
    refine z_iloadn zh dX8_lot_11 rfl ?_
    refine z_callSIp zh ms_RollingNets_68 dX8_lot_12 (c_isIssue g) ⟨Nat.le_of_ble_eq_true rfl, Nat.le_of_ble_eq_true rfl⟩ rfl rfl (Nat.le_of_ble_eq_true rfl) ?_
    refine z_if_ne_B (tgt := 20) zh dX8_lot_15 rfl (fun hp2 => ?_) (fun hp2 => ?_)
    · obtain ⟨jy, hjy, rfl⟩ := id hp2
      refine z_aloadnR zh dX8_lot_20 rfl ?_
      refine z_getf zh fl_RollingNets_12 dX8_lot_21 ck_X rfl rfl ?_
      refine z_getf zh fl_RollingNets_72 dX8_lot_24 (ck_H isH_1) rfl rfl ?_
      refine z_iloadn zh dX8_lot_27 rfl ?_
      refine z_maldN zh (ck_markets isH_1) dX8_lot_28 hjy ?_
      refine z_astore zh dX8_lot_29 (by decide) (L' := [some (rf g 0), some (.int (nI jx)), some (.int (nI jy)), some (.int i), some (.int w), some (rf g (1 + 60 + 20 * jy)), none]) rfl ?_
      refine z_aloadR zh dX8_lot_31 rfl ?_
      refine z_iloadn zh dX8_lot_33 rfl ?_
      refine z_iloadn zh dX8_lot_34 rfl ?_
      refine z_callVIp zh mv_RollingNets_202 dX8_lot_35 (ck_M (isM_of isH_1 hjy)) rfl (c_dayOfLot g (isM_of isH_1 hjy) hG) ⟨Nat.le_of_ble_eq_true rfl, Nat.le_of_ble_eq_true rfl⟩ rfl rfl (Nat.le_of_ble_eq_true rfl) ?_
      refine z_istore zh dX8_lot_38 (by decide) (L' := [some (rf g 0), some (.int (nI jx)), some (.int (nI jy)), some (.int i), some (.int w), some (rf g (1 + 60 + 20 * jy)), some (.int (-1))]) rfl ?_
      refine z_iload zh dX8_lot_40 rfl ?_
      refine z_iconst zh dX8_lot_42 ki_m1 ?_
      refine z_icmp_ne (tgt := 48) zh dX8_lot_43 rfl (fun q => absurd rfl q) (fun _ => ?_)
      refine z_iconst zh dX8_lot_46 ki_m1 ?_
      exact z_iret zh dX8_lot_47 (⟨_, rfl, rfl, (by repeat (first | assumption | exact okR_of (by assumption) | refine okR_lI (by first | omega | (have := isM_lt (by assumption); omega) | (have := isH_lt (by assumption); omega)) ?_ | refine okR_lL (by first | omega | (have := isM_lt (by assumption); omega) | (have := isH_lt (by assumption); omega)) ?_))⟩)
    · refine z_iconst zh dX8_lot_18 ki_m1 ?_
      exact z_iret zh dX8_lot_19 (⟨_, rfl, rfl, (by repeat (first | assumption | exact okR_of (by assumption) | refine okR_lI (by first | omega | (have := isM_lt (by assumption); omega) | (have := isH_lt (by assumption); omega)) ?_ | refine okR_lL (by first | omega | (have := isM_lt (by assumption); omega) | (have := isH_lt (by assumption); omega)) ?_))⟩)
set_option maxRecDepth 20000 in
theorem c_X_cash (g : GE) {x : Int32} {iv : Iv} {lv : Lv} {dd : Nat → Nat} {dm : Nat}  (hG : Ok1 dd dm iv lv) : ConL g yX8_cash cX8_cash 2 (some .long) 2 [rf g 0, .int x] iv lv (fun r iv' lv' => r = (0 : Int64) ∧ OkR (fun _ => 0) dm iv' lv') := by
  refine con_intro (own := "RollingNets") (by decide +kernel) rfl (Nat.le_of_ble_eq_true rfl) (L0 := [some (rf g 0), some (.int x)]) rfl (fun Z zh => ?_)
  refine z_aloadnR zh dX8_cash_0 rfl ?_
  refine z_getf zh fl_RollingNets_12 dX8_cash_1 ck_X rfl rfl ?_
  refine z_iloadn zh dX8_cash_4 rfl ?_
  refine z_callVIp zh mv_RollingNets_60 dX8_cash_5 (ck_H isH_1) rfl (c_hasMember g isH_1 hG) ⟨Nat.le_of_ble_eq_true rfl, Nat.le_of_ble_eq_true rfl⟩ rfl rfl (Nat.le_of_ble_eq_true rfl) ?_
  refine z_if_eq_B (tgt := 23) zh dX8_cash_8 rfl (fun hp1 => ?_) (fun hp1 => ?_)
  · refine z_lconst (v := 0) zh dX8_cash_23 (by decide) ?_
    exact z_lret zh dX8_cash_24 (⟨_, rfl, rfl, (by repeat (first | assumption | exact okR_of (by assumption) | refine okR_lI (by first | omega | (have := isM_lt (by assumption); omega) | (have := isH_lt (by assumption); omega)) ?_ | refine okR_lL (by first | omega | (have := isM_lt (by assumption); omega) | (have := isH_lt (by assumption); omega)) ?_))⟩)
  · obtain ⟨jx, hjx, rfl⟩ := id hp1
    refine z_aloadnR zh dX8_cash_11 rfl ?_
    refine z_getf zh fl_RollingNets_12 dX8_cash_12 ck_X rfl rfl ?_
    refine z_getf zh fl_RollingNets_209 dX8_cash_15 (ck_H isH_1) rfl rfl ?_
    refine z_iloadn zh dX8_cash_18 rfl ?_
    refine z_laldE (x := (0 : Int64)) zh (ck_cash isH_1) dX8_cash_19 (by omega) (a1_cash hG isH_1) ?_
    refine z_goto (tgt := 24) zh dX8_cash_20 rfl ?_
    exact z_lret zh dX8_cash_24 (⟨_, rfl, rfl, (by repeat (first | assumption | exact okR_of (by assumption) | refine okR_lI (by first | omega | (have := isM_lt (by assumption); omega) | (have := isH_lt (by assumption); omega)) ?_ | refine okR_lL (by first | omega | (have := isM_lt (by assumption); omega) | (have := isH_lt (by assumption); omega)) ?_))⟩)
set_option maxRecDepth 20000 in
theorem c_X_deal (g : GE) {x w : Int32} {iv : Iv} {lv : Lv} {dd : Nat → Nat} {dm : Nat}  (hG : Ok1 dd dm iv lv) : ConI g yX8_deal cX8_deal 3 (some .int) 2 [rf g 0, .int x, .int w] iv lv (fun r iv' lv' => r = (-1) ∧ OkR (fun _ => 0) dm iv' lv') := by
  refine con_intro (own := "RollingNets") (by decide +kernel) rfl (Nat.le_of_ble_eq_true rfl) (L0 := [some (rf g 0), some (.int x), some (.int w)]) rfl (fun Z zh => ?_)
  refine z_aloadnR zh dX8_deal_0 rfl ?_
  refine z_getf zh fl_RollingNets_12 dX8_deal_1 ck_X rfl rfl ?_
  refine z_getf zh fl_RollingNets_47 dX8_deal_4 (ck_H isH_1) rfl rfl ?_
  refine z_iloadn zh dX8_deal_7 rfl ?_
  refine z_iloadn zh dX8_deal_8 rfl ?_
  refine z_callVIp zh mv_RollingNets_171 dX8_deal_9 (ck_T (isT_d isH_1)) rfl (c_get0 g (isT_d isH_1) (a1_cd hG isH_1) (by decide)) ⟨Nat.le_of_ble_eq_true rfl, Nat.le_of_ble_eq_true rfl⟩ rfl rfl (Nat.le_of_ble_eq_true rfl) ?_
  exact z_iret zh dX8_deal_12 (⟨_, rfl, rfl, (by repeat (first | assumption | exact okR_of (by assumption) | refine okR_lI (by first | omega | (have := isM_lt (by assumption); omega) | (have := isH_lt (by assumption); omega)) ?_ | refine okR_lL (by first | omega | (have := isM_lt (by assumption); omega) | (have := isH_lt (by assumption); omega)) ?_))⟩)
set_option maxRecDepth 20000 in
theorem c_X_notice (g : GE) {x w : Int32} {iv : Iv} {lv : Lv} {dd : Nat → Nat} {dm : Nat}  (hG : Ok1 dd dm iv lv) : ConI g yX8_notice cX8_notice 3 (some .int) 2 [rf g 0, .int x, .int w] iv lv (fun r iv' lv' => r = (-1) ∧ OkR (fun _ => 0) dm iv' lv') := by
  refine con_intro (own := "RollingNets") (by decide +kernel) rfl (Nat.le_of_ble_eq_true rfl) (L0 := [some (rf g 0), some (.int x), some (.int w)]) rfl (fun Z zh => ?_)
  refine z_iloadn zh dX8_notice_0 rfl ?_
  refine z_if_lt (tgt := 23) zh dX8_notice_1 rfl (fun hb1 => ?_) (fun hb1 => ?_)
  · refine z_iloadn zh dX8_notice_23 rfl ?_
    refine z_bipush zh dX8_notice_24 kb_10 ?_
    refine z_icmp_lt (tgt := 43) zh dX8_notice_26 rfl (fun hb2 => ?_) (fun hb2 => ?_)
    · refine z_iconst zh dX8_notice_43 ki_m1 ?_
      exact z_iret zh dX8_notice_44 (⟨_, rfl, rfl, (by repeat (first | assumption | exact okR_of (by assumption) | refine okR_lI (by first | omega | (have := isM_lt (by assumption); omega) | (have := isH_lt (by assumption); omega)) ?_ | refine okR_lL (by first | omega | (have := isM_lt (by assumption); omega) | (have := isH_lt (by assumption); omega)) ?_))⟩)
    · refine z_aloadnR zh dX8_notice_29 rfl ?_
      refine z_getf zh fl_RollingNets_12 dX8_notice_30 ck_X rfl rfl ?_
      refine z_iloadn zh dX8_notice_33 rfl ?_
      refine z_bipush zh dX8_notice_34 kb_10 ?_
      refine z_isub zh dX8_notice_36 ?_
      refine z_callVIp zh mv_RollingNets_60 dX8_notice_37 (ck_H isH_1) rfl (c_hasMember g isH_1 hG) ⟨Nat.le_of_ble_eq_true rfl, Nat.le_of_ble_eq_true rfl⟩ rfl rfl (Nat.le_of_ble_eq_true rfl) ?_
      refine z_if_ne_B (tgt := 45) zh dX8_notice_40 rfl (fun hp3 => ?_) (fun hp3 => ?_)
      · refine z_aloadnR zh dX8_notice_45 rfl ?_
        refine z_getf zh fl_RollingNets_12 dX8_notice_46 ck_X rfl rfl ?_
        refine z_getf zh fl_RollingNets_212 dX8_notice_49 (ck_H isH_1) rfl rfl ?_
        refine z_bipush zh dX8_notice_52 kb_7 ?_
        refine z_iloadn zh dX8_notice_54 rfl ?_
        refine z_iadd zh dX8_notice_55 ?_
        refine z_bipush zh dX8_notice_56 kb_10 ?_
        refine z_isub zh dX8_notice_58 ?_
        refine z_iloadn zh dX8_notice_59 rfl ?_
        refine z_callVIp zh mv_RollingNets_171 dX8_notice_60 (ck_T (isT_n isH_1)) rfl (c_get0 g (isT_n isH_1) (a1_cn hG isH_1) (by decide)) ⟨Nat.le_of_ble_eq_true rfl, Nat.le_of_ble_eq_true rfl⟩ rfl rfl (Nat.le_of_ble_eq_true rfl) ?_
        exact z_iret zh dX8_notice_63 (⟨_, rfl, rfl, (by repeat (first | assumption | exact okR_of (by assumption) | refine okR_lI (by first | omega | (have := isM_lt (by assumption); omega) | (have := isH_lt (by assumption); omega)) ?_ | refine okR_lL (by first | omega | (have := isM_lt (by assumption); omega) | (have := isH_lt (by assumption); omega)) ?_))⟩)
      · refine z_iconst zh dX8_notice_43 ki_m1 ?_
        exact z_iret zh dX8_notice_44 (⟨_, rfl, rfl, (by repeat (first | assumption | exact okR_of (by assumption) | refine okR_lI (by first | omega | (have := isM_lt (by assumption); omega) | (have := isH_lt (by assumption); omega)) ?_ | refine okR_lL (by first | omega | (have := isM_lt (by assumption); omega) | (have := isH_lt (by assumption); omega)) ?_))⟩)
  · refine z_iloadn zh dX8_notice_4 rfl ?_
    refine z_bipush zh dX8_notice_5 kb_6 ?_
    refine z_icmp_gt (tgt := 23) zh dX8_notice_7 rfl (fun hb4 => ?_) (fun hb4 => ?_)
    · refine z_iloadn zh dX8_notice_23 rfl ?_
      refine z_bipush zh dX8_notice_24 kb_10 ?_
      refine z_icmp_lt (tgt := 43) zh dX8_notice_26 rfl (fun hb5 => ?_) (fun hb5 => ?_)
      · refine z_iconst zh dX8_notice_43 ki_m1 ?_
        exact z_iret zh dX8_notice_44 (⟨_, rfl, rfl, (by repeat (first | assumption | exact okR_of (by assumption) | refine okR_lI (by first | omega | (have := isM_lt (by assumption); omega) | (have := isH_lt (by assumption); omega)) ?_ | refine okR_lL (by first | omega | (have := isM_lt (by assumption); omega) | (have := isH_lt (by assumption); omega)) ?_))⟩)
      · refine z_aloadnR zh dX8_notice_29 rfl ?_
        refine z_getf zh fl_RollingNets_12 dX8_notice_30 ck_X rfl rfl ?_
        refine z_iloadn zh dX8_notice_33 rfl ?_
        refine z_bipush zh dX8_notice_34 kb_10 ?_
        refine z_isub zh dX8_notice_36 ?_
        refine z_callVIp zh mv_RollingNets_60 dX8_notice_37 (ck_H isH_1) rfl (c_hasMember g isH_1 hG) ⟨Nat.le_of_ble_eq_true rfl, Nat.le_of_ble_eq_true rfl⟩ rfl rfl (Nat.le_of_ble_eq_true rfl) ?_
        refine z_if_ne_B (tgt := 45) zh dX8_notice_40 rfl (fun hp6 => ?_) (fun hp6 => ?_)
        · refine z_aloadnR zh dX8_notice_45 rfl ?_
          refine z_getf zh fl_RollingNets_12 dX8_notice_46 ck_X rfl rfl ?_
          refine z_getf zh fl_RollingNets_212 dX8_notice_49 (ck_H isH_1) rfl rfl ?_
          refine z_bipush zh dX8_notice_52 kb_7 ?_
          refine z_iloadn zh dX8_notice_54 rfl ?_
          refine z_iadd zh dX8_notice_55 ?_
          refine z_bipush zh dX8_notice_56 kb_10 ?_
          refine z_isub zh dX8_notice_58 ?_
          refine z_iloadn zh dX8_notice_59 rfl ?_
          refine z_callVIp zh mv_RollingNets_171 dX8_notice_60 (ck_T (isT_n isH_1)) rfl (c_get0 g (isT_n isH_1) (a1_cn hG isH_1) (by decide)) ⟨Nat.le_of_ble_eq_true rfl, Nat.le_of_ble_eq_true rfl⟩ rfl rfl (Nat.le_of_ble_eq_true rfl) ?_
          exact z_iret zh dX8_notice_63 (⟨_, rfl, rfl, (by repeat (first | assumption | exact okR_of (by assumption) | refine okR_lI (by first | omega | (have := isM_lt (by assumption); omega) | (have := isH_lt (by assumption); omega)) ?_ | refine okR_lL (by first | omega | (have := isM_lt (by assumption); omega) | (have := isH_lt (by assumption); omega)) ?_))⟩)
        · refine z_iconst zh dX8_notice_43 ki_m1 ?_
          exact z_iret zh dX8_notice_44 (⟨_, rfl, rfl, (by repeat (first | assumption | exact okR_of (by assumption) | refine okR_lI (by first | omega | (have := isM_lt (by assumption); omega) | (have := isH_lt (by assumption); omega)) ?_ | refine okR_lL (by first | omega | (have := isM_lt (by assumption); omega) | (have := isH_lt (by assumption); omega)) ?_))⟩)
    · refine z_aloadnR zh dX8_notice_10 rfl ?_
      refine z_getf zh fl_RollingNets_12 dX8_notice_11 ck_X rfl rfl ?_
      refine z_getf zh fl_RollingNets_212 dX8_notice_14 (ck_H isH_1) rfl rfl ?_
      refine z_iloadn zh dX8_notice_17 rfl ?_
      refine z_iloadn zh dX8_notice_18 rfl ?_
      refine z_callVIp zh mv_RollingNets_171 dX8_notice_19 (ck_T (isT_n isH_1)) rfl (c_get0 g (isT_n isH_1) (a1_cn hG isH_1) (by decide)) ⟨Nat.le_of_ble_eq_true rfl, Nat.le_of_ble_eq_true rfl⟩ rfl rfl (Nat.le_of_ble_eq_true rfl) ?_
      exact z_iret zh dX8_notice_22 (⟨_, rfl, rfl, (by repeat (first | assumption | exact okR_of (by assumption) | refine okR_lI (by first | omega | (have := isM_lt (by assumption); omega) | (have := isH_lt (by assumption); omega)) ?_ | refine okR_lL (by first | omega | (have := isM_lt (by assumption); omega) | (have := isH_lt (by assumption); omega)) ?_))⟩)
set_option maxRecDepth 20000 in
theorem c_X_book (g : GE) {x w : Int32} {iv : Iv} {lv : Lv} {dd : Nat → Nat} {dm : Nat}  (hG : Ok1 dd dm iv lv) : ConI g yX8_book cX8_book 3 (some .int) 2 [rf g 0, .int x, .int w] iv lv (fun r iv' lv' => r = (-1) ∧ OkR (fun _ => 0) dm iv' lv') := by
  refine con_intro (own := "RollingNets") (by decide +kernel) rfl (Nat.le_of_ble_eq_true rfl) (L0 := [some (rf g 0), some (.int x), some (.int w)]) rfl (fun Z zh => ?_)
  refine z_aloadnR zh dX8_book_0 rfl ?_
  refine z_getf zh fl_RollingNets_12 dX8_book_1 ck_X rfl rfl ?_
  refine z_getf zh fl_RollingNets_221 dX8_book_4 (ck_H isH_1) rfl rfl ?_
  refine z_iloadn zh dX8_book_7 rfl ?_
  refine z_iloadn zh dX8_book_8 rfl ?_
  refine z_callVIp zh mv_RollingNets_171 dX8_book_9 (ck_T (isT_b isH_1)) rfl (c_get0 g (isT_b isH_1) (a1_cb hG isH_1) (by decide)) ⟨Nat.le_of_ble_eq_true rfl, Nat.le_of_ble_eq_true rfl⟩ rfl rfl (Nat.le_of_ble_eq_true rfl) ?_
  exact z_iret zh dX8_book_12 (⟨_, rfl, rfl, (by repeat (first | assumption | exact okR_of (by assumption) | refine okR_lI (by first | omega | (have := isM_lt (by assumption); omega) | (have := isH_lt (by assumption); omega)) ?_ | refine okR_lL (by first | omega | (have := isM_lt (by assumption); omega) | (have := isH_lt (by assumption); omega)) ?_))⟩)
set_option maxRecDepth 20000 in
theorem c_X_issue (g : GE) {x w : Int32} {iv : Iv} {lv : Lv} {dd : Nat → Nat} {dm : Nat}  (hG : Ok1 dd dm iv lv) : ConI g yX8_issue cX8_issue 3 (some .int) 5 [rf g 0, .int x, .int w] iv lv (fun r iv' lv' => r = sp_iss0 x w ∧ OkR (fun _ => 0) dm iv' lv') := by
  refine con_intro (own := "RollingNets") (by decide +kernel) rfl (Nat.le_of_ble_eq_true rfl) (L0 := [some (rf g 0), some (.int x), some (.int w)]) rfl (fun Z zh => ?_)
  refine z_iloadn zh dX8_issue_0 rfl ?_
  refine z_callSIp zh ms_RollingNets_68 dX8_issue_1 (c_isIssue g) ⟨Nat.le_of_ble_eq_true rfl, Nat.le_of_ble_eq_true rfl⟩ rfl rfl (Nat.le_of_ble_eq_true rfl) ?_
  refine z_if_eq_B (tgt := 19) zh dX8_issue_4 rfl (fun hp1 => ?_) (fun hp1 => ?_)
  · refine z_iconst zh dX8_issue_19 ki_m1 ?_
    exact z_iret zh dX8_issue_20 (⟨_, rfl, (by first | rfl | simp (decide := true) only [sp_iss0, sel_t, sel_f, selL_t, selL_f, bi_t, bi_f, sel_same, selL_same, eq_self, hp1]), (by repeat (first | assumption | exact okR_of (by assumption) | refine okR_lI (by first | omega | (have := isM_lt (by assumption); omega) | (have := isH_lt (by assumption); omega)) ?_ | refine okR_lL (by first | omega | (have := isM_lt (by assumption); omega) | (have := isH_lt (by assumption); omega)) ?_))⟩)
  · obtain ⟨jx, hjx, rfl⟩ := id hp1
    refine z_aloadnR zh dX8_issue_7 rfl ?_
    refine z_getf zh fl_RollingNets_12 dX8_issue_8 ck_X rfl rfl ?_
    refine z_iloadn zh dX8_issue_11 rfl ?_
    refine z_iloadn zh dX8_issue_12 rfl ?_
    refine z_callSIp zh ms_RollingNets_215 dX8_issue_13 (c_ofIssue g isH_1 hjx hG) ⟨Nat.le_of_ble_eq_true rfl, Nat.le_of_ble_eq_true rfl⟩ rfl rfl (Nat.le_of_ble_eq_true rfl) ?_
    refine z_goto (tgt := 20) zh dX8_issue_16 rfl ?_
    exact z_iret zh dX8_issue_20 (⟨_, rfl, (by first | rfl | simp (decide := true) only [sp_iss0, sel_t, sel_f, selL_t, selL_f, bi_t, bi_f, sel_same, selL_same, eq_self, hp1]), (by repeat (first | assumption | exact okR_of (by assumption) | refine okR_lI (by first | omega | (have := isM_lt (by assumption); omega) | (have := isH_lt (by assumption); omega)) ?_ | refine okR_lL (by first | omega | (have := isM_lt (by assumption); omega) | (have := isH_lt (by assumption); omega)) ?_))⟩)
set_option maxRecDepth 20000 in
theorem c_X_margin (g : GE) {x w : Int32} {iv : Iv} {lv : Lv} {dd : Nat → Nat} {dm : Nat}  (hG : Ok1 dd dm iv lv) : ConL g yX8_margin cX8_margin 3 (some .long) 5 [rf g 0, .int x, .int w] iv lv (fun r iv' lv' => r = sp_marg x w ∧ OkR (fun _ => 0) dm iv' lv') := by
  refine con_intro (own := "RollingNets") (by decide +kernel) rfl (Nat.le_of_ble_eq_true rfl) (L0 := [some (rf g 0), some (.int x), some (.int w)]) rfl (fun Z zh => ?_)
  refine z_aloadnR zh dX8_margin_0 rfl ?_
  refine z_getf zh fl_RollingNets_12 dX8_margin_1 ck_X rfl rfl ?_
  refine z_iloadn zh dX8_margin_4 rfl ?_
  refine z_callVIp zh mv_RollingNets_60 dX8_margin_5 (ck_H isH_1) rfl (c_hasMember g isH_1 hG) ⟨Nat.le_of_ble_eq_true rfl, Nat.le_of_ble_eq_true rfl⟩ rfl rfl (Nat.le_of_ble_eq_true rfl) ?_
  refine z_if_ne_B (tgt := 15) zh dX8_margin_8 rfl (fun hp1 => ?_) (fun hp1 => ?_)
  · obtain ⟨jx, hjx, rfl⟩ := id hp1
    refine z_iloadn zh dX8_margin_15 rfl ?_
    by_cases hp2 : InN 3 w
    · obtain ⟨jw, hjw, rfl⟩ := id hp2
      rcases (by omega : jw = 0 ∨ jw = 1 ∨ jw = 2) with rfl | rfl | rfl
      · refine z_tabIn (off := 28) (tgt := 44) zh dX8_margin_16 (by decide) (by decide) (by decide) rfl ?_
        refine z_aloadnR zh dX8_margin_44 rfl ?_
        refine z_getf zh fl_RollingNets_12 dX8_margin_45 ck_X rfl rfl ?_
        refine z_iloadn zh dX8_margin_48 rfl ?_
        refine z_callSLp zh ms_RollingNets_226 dX8_margin_49 (c_demand g isH_1 hG) ⟨Nat.le_of_ble_eq_true rfl, Nat.le_of_ble_eq_true rfl⟩ rfl rfl (Nat.le_of_ble_eq_true rfl) ?_
        exact z_lret zh dX8_margin_52 (⟨_, rfl, (by first | rfl | simp (decide := true) only [sp_marg, sel_t, sel_f, selL_t, selL_f, bi_t, bi_f, sel_same, selL_same, eq_self, hp1, hp2]), (by repeat (first | assumption | exact okR_of (by assumption) | refine okR_lI (by first | omega | (have := isM_lt (by assumption); omega) | (have := isH_lt (by assumption); omega)) ?_ | refine okR_lL (by first | omega | (have := isM_lt (by assumption); omega) | (have := isH_lt (by assumption); omega)) ?_))⟩)
      · refine z_tabIn (off := 37) (tgt := 53) zh dX8_margin_16 (by decide) (by decide) (by decide) rfl ?_
        refine z_aloadnR zh dX8_margin_53 rfl ?_
        refine z_getf zh fl_RollingNets_12 dX8_margin_54 ck_X rfl rfl ?_
        refine z_getf zh fl_RollingNets_120 dX8_margin_57 (ck_H isH_1) rfl rfl ?_
        refine z_iloadn zh dX8_margin_60 rfl ?_
        refine z_ialdE (x := nI 0) zh (ck_pledged isH_1) dX8_margin_61 (by omega) (a1_pledged hG isH_1) ?_
        refine z_i2l zh dX8_margin_62 ?_
        rw [show (nI 0).toInt64 = (0 : Int64) from by decide]
        exact z_lret zh dX8_margin_63 (⟨_, rfl, (by first | rfl | simp (decide := true) only [sp_marg, sel_t, sel_f, selL_t, selL_f, bi_t, bi_f, sel_same, selL_same, eq_self, hp1, hp2]), (by repeat (first | assumption | exact okR_of (by assumption) | refine okR_lI (by first | omega | (have := isM_lt (by assumption); omega) | (have := isH_lt (by assumption); omega)) ?_ | refine okR_lL (by first | omega | (have := isM_lt (by assumption); omega) | (have := isH_lt (by assumption); omega)) ?_))⟩)
      · refine z_tabIn (off := 48) (tgt := 64) zh dX8_margin_16 (by decide) (by decide) (by decide) rfl ?_
        refine z_aloadnR zh dX8_margin_64 rfl ?_
        refine z_getf zh fl_RollingNets_12 dX8_margin_65 ck_X rfl rfl ?_
        refine z_iloadn zh dX8_margin_68 rfl ?_
        refine z_callSLp zh ms_RollingNets_230 dX8_margin_69 (c_lacks g isH_1 (by omega) hG) ⟨Nat.le_of_ble_eq_true rfl, Nat.le_of_ble_eq_true rfl⟩ rfl rfl (Nat.le_of_ble_eq_true rfl) ?_
        exact z_lret zh dX8_margin_72 (⟨_, rfl, (by first | rfl | simp (decide := true) only [sp_marg, sel_t, sel_f, selL_t, selL_f, bi_t, bi_f, sel_same, selL_same, eq_self, hp1, hp2]), (by repeat (first | assumption | exact okR_of (by assumption) | refine okR_lI (by first | omega | (have := isM_lt (by assumption); omega) | (have := isH_lt (by assumption); omega)) ?_ | refine okR_lL (by first | omega | (have := isM_lt (by assumption); omega) | (have := isH_lt (by assumption); omega)) ?_))⟩)
    · have hp2r := mt (InN_toInt (by omega)).mpr hp2
      have hp2n0 := InN_no hp2 (j := 0) (by omega)
      have hp2n1 := InN_no hp2 (j := 1) (by omega)
      have hp2n2 := InN_no hp2 (j := 2) (by omega)
      refine z_tabOut (tgt := 73) zh dX8_margin_16 (by omega) rfl ?_
      refine z_ldc2 zh dX8_margin_73 kl_RollingNets_224 ?_
      exact z_lret zh dX8_margin_76 (⟨_, rfl, (by first | rfl | simp (decide := true) only [sp_marg, sel_t, sel_f, selL_t, selL_f, bi_t, bi_f, sel_same, selL_same, eq_self, hp1, hp2, hp2n0, hp2n1, hp2n2]), (by repeat (first | assumption | exact okR_of (by assumption) | refine okR_lI (by first | omega | (have := isM_lt (by assumption); omega) | (have := isH_lt (by assumption); omega)) ?_ | refine okR_lL (by first | omega | (have := isM_lt (by assumption); omega) | (have := isH_lt (by assumption); omega)) ?_))⟩)
  · refine z_ldc2 zh dX8_margin_11 kl_RollingNets_224 ?_
    exact z_lret zh dX8_margin_14 (⟨_, rfl, (by first | rfl | simp (decide := true) only [sp_marg, sel_t, sel_f, selL_t, selL_f, bi_t, bi_f, sel_same, selL_same, eq_self, hp1]), (by repeat (first | assumption | exact okR_of (by assumption) | refine okR_lI (by first | omega | (have := isM_lt (by assumption); omega) | (have := isH_lt (by assumption); omega)) ?_ | refine okR_lL (by first | omega | (have := isM_lt (by assumption); omega) | (have := isH_lt (by assumption); omega)) ?_))⟩)
set_option maxRecDepth 20000 in
theorem c_X_stress (g : GE) {x : Int32} {iv : Iv} {lv : Lv} {dd : Nat → Nat} {dm : Nat}  (hG : Ok1 dd dm iv lv) : ConI g yX8_stress cX8_stress 2 (some .int) 4 [rf g 0, .int x] iv lv (fun r iv' lv' => r = sel (Rg (-99) (nI 99) x) (nI 0) (-1) ∧ OkR (fun _ => 0) dm iv' lv') := by
  refine con_intro (own := "RollingNets") (by decide +kernel) rfl (Nat.le_of_ble_eq_true rfl) (L0 := [some (rf g 0), some (.int x)]) rfl (fun Z zh => ?_)
  refine z_iloadn zh dX8_stress_0 rfl ?_
  refine z_bipush zh dX8_stress_1 kb_n99 ?_
  refine z_bipush zh dX8_stress_3 kb_99 ?_
  refine z_callSIp zh ms_RollingNets_43 dX8_stress_5 (c_within g) ⟨Nat.le_of_ble_eq_true rfl, Nat.le_of_ble_eq_true rfl⟩ rfl rfl (Nat.le_of_ble_eq_true rfl) ?_
  refine z_if_eq_B (tgt := 22) zh dX8_stress_8 rfl (fun hp1 => ?_) (fun hp1 => ?_)
  · refine z_iconst zh dX8_stress_22 ki_m1 ?_
    exact z_iret zh dX8_stress_23 (⟨_, rfl, (by first | rfl | simp (decide := true) only [sel_t, sel_f, selL_t, selL_f, bi_t, bi_f, sel_same, selL_same, eq_self, hp1]), (by repeat (first | assumption | exact okR_of (by assumption) | refine okR_lI (by first | omega | (have := isM_lt (by assumption); omega) | (have := isH_lt (by assumption); omega)) ?_ | refine okR_lL (by first | omega | (have := isM_lt (by assumption); omega) | (have := isH_lt (by assumption); omega)) ?_))⟩)
  · refine z_aloadnR zh dX8_stress_11 rfl ?_
    refine z_getf zh fl_RollingNets_12 dX8_stress_12 ck_X rfl rfl ?_
    refine z_iloadn zh dX8_stress_15 rfl ?_
    refine z_callSIp zh ms_RollingNets_233 dX8_stress_16 (c_sunk g isH_1 hG) ⟨Nat.le_of_ble_eq_true rfl, Nat.le_of_ble_eq_true rfl⟩ rfl rfl (Nat.le_of_ble_eq_true rfl) ?_
    refine z_goto (tgt := 23) zh dX8_stress_19 rfl ?_
    exact z_iret zh dX8_stress_23 (⟨_, rfl, (by first | rfl | simp (decide := true) only [sel_t, sel_f, selL_t, selL_f, bi_t, bi_f, sel_same, selL_same, eq_self, hp1]), (by repeat (first | assumption | exact okR_of (by assumption) | refine okR_lI (by first | omega | (have := isM_lt (by assumption); omega) | (have := isH_lt (by assumption); omega)) ?_ | refine okR_lL (by first | omega | (have := isM_lt (by assumption); omega) | (have := isH_lt (by assumption); omega)) ?_))⟩)
set_option maxRecDepth 20000 in
theorem c_X_aged (g : GE) {x w : Int32} {iv : Iv} {lv : Lv} {dd : Nat → Nat} {dm : Nat}  (hG : Ok1 dd dm iv lv) : ConI g yX8_aged cX8_aged 3 (some .int) 4 [rf g 0, .int x, .int w] iv lv (fun r iv' lv' => r = sp2 (InN 6 x) (InN 100 w) (nI 0) (-1) ∧ OkR (fun _ => 0) dm iv' lv') := by
  refine con_intro (own := "RollingNets") (by decide +kernel) rfl (Nat.le_of_ble_eq_true rfl) (L0 := [some (rf g 0), some (.int x), some (.int w)]) rfl (fun Z zh => ?_)
  refine z_iloadn zh dX8_aged_0 rfl ?_
  refine z_callSIp zh ms_RollingNets_68 dX8_aged_1 (c_isIssue g) ⟨Nat.le_of_ble_eq_true rfl, Nat.le_of_ble_eq_true rfl⟩ rfl rfl (Nat.le_of_ble_eq_true rfl) ?_
  refine z_if_eq_B (tgt := 17) zh dX8_aged_4 rfl (fun hp1 => ?_) (fun hp1 => ?_)
  · refine z_iconst zh dX8_aged_17 ki_m1 ?_
    exact z_iret zh dX8_aged_18 (⟨_, rfl, (by first | rfl | simp (decide := true) only [sp2, sel_t, sel_f, selL_t, selL_f, bi_t, bi_f, sel_same, selL_same, eq_self, hp1]), (by repeat (first | assumption | exact okR_of (by assumption) | refine okR_lI (by first | omega | (have := isM_lt (by assumption); omega) | (have := isH_lt (by assumption); omega)) ?_ | refine okR_lL (by first | omega | (have := isM_lt (by assumption); omega) | (have := isH_lt (by assumption); omega)) ?_))⟩)
  · obtain ⟨jx, hjx, rfl⟩ := id hp1
    refine z_iloadn zh dX8_aged_7 rfl ?_
    refine z_iconst zh dX8_aged_8 ki_0 ?_
    refine z_bipush zh dX8_aged_9 kb_99 ?_
    refine z_callSIp zh ms_RollingNets_43 dX8_aged_11 (c_within0 g) ⟨Nat.le_of_ble_eq_true rfl, Nat.le_of_ble_eq_true rfl⟩ rfl rfl (Nat.le_of_ble_eq_true rfl) ?_
    refine z_if_ne_B (tgt := 19) zh dX8_aged_14 rfl (fun hp2 => ?_) (fun hp2 => ?_)
    · obtain ⟨jw, hjw, rfl⟩ := id hp2
      refine z_aloadnR zh dX8_aged_19 rfl ?_
      refine z_getf zh fl_RollingNets_12 dX8_aged_20 ck_X rfl rfl ?_
      refine z_iloadn zh dX8_aged_23 rfl ?_
      refine z_iloadn zh dX8_aged_24 rfl ?_
      refine z_callSIp zh ms_RollingNets_254 dX8_aged_25 (c_agedShort g isH_1 hjx hG) ⟨Nat.le_of_ble_eq_true rfl, Nat.le_of_ble_eq_true rfl⟩ rfl rfl (Nat.le_of_ble_eq_true rfl) ?_
      exact z_iret zh dX8_aged_28 (⟨_, rfl, (by first | rfl | simp (decide := true) only [sp2, sel_t, sel_f, selL_t, selL_f, bi_t, bi_f, sel_same, selL_same, eq_self, hp1, hp2]), (by repeat (first | assumption | exact okR_of (by assumption) | refine okR_lI (by first | omega | (have := isM_lt (by assumption); omega) | (have := isH_lt (by assumption); omega)) ?_ | refine okR_lL (by first | omega | (have := isM_lt (by assumption); omega) | (have := isH_lt (by assumption); omega)) ?_))⟩)
    · refine z_iconst zh dX8_aged_17 ki_m1 ?_
      exact z_iret zh dX8_aged_18 (⟨_, rfl, (by first | rfl | simp (decide := true) only [sp2, sel_t, sel_f, selL_t, selL_f, bi_t, bi_f, sel_same, selL_same, eq_self, hp1, hp2]), (by repeat (first | assumption | exact okR_of (by assumption) | refine okR_lI (by first | omega | (have := isM_lt (by assumption); omega) | (have := isH_lt (by assumption); omega)) ?_ | refine okR_lL (by first | omega | (have := isM_lt (by assumption); omega) | (have := isH_lt (by assumption); omega)) ?_))⟩)
set_option maxRecDepth 20000 in
theorem c_X_statement (g : GE) {x w z : Int32} {iv : Iv} {lv : Lv} {dd : Nat → Nat} {dm : Nat}  (hG : Ok1 dd dm iv lv) : ConI g yX8_statement cX8_statement 4 (some .int) 4 [rf g 0, .int x, .int w, .int z] iv lv (fun r iv' lv' => r = sp2 (InN 6 x) (InN 5 w) (nI 0) (-1) ∧ OkR (fun _ => 0) dm iv' lv') := by
  refine con_intro (own := "RollingNets") (by decide +kernel) rfl (Nat.le_of_ble_eq_true rfl) (L0 := [some (rf g 0), some (.int x), some (.int w), some (.int z)]) rfl (fun Z zh => ?_)
  refine z_aloadnR zh dX8_statement_0 rfl ?_
  refine z_getf zh fl_RollingNets_12 dX8_statement_1 ck_X rfl rfl ?_
  refine z_iloadn zh dX8_statement_4 rfl ?_
  refine z_callVIp zh mv_RollingNets_60 dX8_statement_5 (ck_H isH_1) rfl (c_hasMember g isH_1 hG) ⟨Nat.le_of_ble_eq_true rfl, Nat.le_of_ble_eq_true rfl⟩ rfl rfl (Nat.le_of_ble_eq_true rfl) ?_
  refine z_if_eq_B (tgt := 20) zh dX8_statement_8 rfl (fun hp1 => ?_) (fun hp1 => ?_)
  · refine z_iconst zh dX8_statement_20 ki_m1 ?_
    exact z_iret zh dX8_statement_21 (⟨_, rfl, (by first | rfl | simp (decide := true) only [sp2, sel_t, sel_f, selL_t, selL_f, bi_t, bi_f, sel_same, selL_same, eq_self, hp1]), (by repeat (first | assumption | exact okR_of (by assumption) | refine okR_lI (by first | omega | (have := isM_lt (by assumption); omega) | (have := isH_lt (by assumption); omega)) ?_ | refine okR_lL (by first | omega | (have := isM_lt (by assumption); omega) | (have := isH_lt (by assumption); omega)) ?_))⟩)
  · obtain ⟨jx, hjx, rfl⟩ := id hp1
    refine z_iloadn zh dX8_statement_11 rfl ?_
    refine z_iconst zh dX8_statement_12 ki_0 ?_
    refine z_iconst zh dX8_statement_13 ki_4 ?_
    refine z_callSIp zh ms_RollingNets_43 dX8_statement_14 (c_within0 g) ⟨Nat.le_of_ble_eq_true rfl, Nat.le_of_ble_eq_true rfl⟩ rfl rfl (Nat.le_of_ble_eq_true rfl) ?_
    refine z_if_ne_B (tgt := 22) zh dX8_statement_17 rfl (fun hp2 => ?_) (fun hp2 => ?_)
    · obtain ⟨jw, hjw, rfl⟩ := id hp2
      refine z_aloadnR zh dX8_statement_22 rfl ?_
      refine z_getf zh fl_RollingNets_12 dX8_statement_23 ck_X rfl rfl ?_
      refine z_getf zh fl_RollingNets_221 dX8_statement_26 (ck_H isH_1) rfl rfl ?_
      refine z_iloadn zh dX8_statement_29 rfl ?_
      refine z_iloadn zh dX8_statement_30 rfl ?_
      refine z_iloadn zh dX8_statement_31 rfl ?_
      refine z_if_eq (tgt := 39) zh dX8_statement_32 rfl (fun hb3 => ?_) (fun hb3 => ?_)
      · refine z_iconst zh dX8_statement_39 ki_3 ?_
        refine z_callSIp zh ms_RollingNets_257 dX8_statement_40 (c_booked g isH_1 hG) ⟨Nat.le_of_ble_eq_true rfl, Nat.le_of_ble_eq_true rfl⟩ rfl rfl (Nat.le_of_ble_eq_true rfl) ?_
        exact z_iret zh dX8_statement_43 (⟨_, rfl, (by first | rfl | simp (decide := true) only [sp2, sel_t, sel_f, selL_t, selL_f, bi_t, bi_f, sel_same, selL_same, eq_self, hp1, hp2, hb3]), (by repeat (first | assumption | exact okR_of (by assumption) | refine okR_lI (by first | omega | (have := isM_lt (by assumption); omega) | (have := isH_lt (by assumption); omega)) ?_ | refine okR_lL (by first | omega | (have := isM_lt (by assumption); omega) | (have := isH_lt (by assumption); omega)) ?_))⟩)
      · refine z_iconst zh dX8_statement_35 ki_4 ?_
        refine z_goto (tgt := 40) zh dX8_statement_36 rfl ?_
        refine z_callSIp zh ms_RollingNets_257 dX8_statement_40 (c_booked g isH_1 hG) ⟨Nat.le_of_ble_eq_true rfl, Nat.le_of_ble_eq_true rfl⟩ rfl rfl (Nat.le_of_ble_eq_true rfl) ?_
        exact z_iret zh dX8_statement_43 (⟨_, rfl, (by first | rfl | simp (decide := true) only [sp2, sel_t, sel_f, selL_t, selL_f, bi_t, bi_f, sel_same, selL_same, eq_self, hp1, hp2, hb3]), (by repeat (first | assumption | exact okR_of (by assumption) | refine okR_lI (by first | omega | (have := isM_lt (by assumption); omega) | (have := isH_lt (by assumption); omega)) ?_ | refine okR_lL (by first | omega | (have := isM_lt (by assumption); omega) | (have := isH_lt (by assumption); omega)) ?_))⟩)
    · refine z_iconst zh dX8_statement_20 ki_m1 ?_
      exact z_iret zh dX8_statement_21 (⟨_, rfl, (by first | rfl | simp (decide := true) only [sp2, sel_t, sel_f, selL_t, selL_f, bi_t, bi_f, sel_same, selL_same, eq_self, hp1, hp2]), (by repeat (first | assumption | exact okR_of (by assumption) | refine okR_lI (by first | omega | (have := isM_lt (by assumption); omega) | (have := isH_lt (by assumption); omega)) ?_ | refine okR_lL (by first | omega | (have := isM_lt (by assumption); omega) | (have := isH_lt (by assumption); omega)) ?_))⟩)
set_option maxRecDepth 20000 in
theorem c_X_ahead (g : GE) {x y : Int32} {iv : Iv} {lv : Lv} {dd : Nat → Nat} {dm : Nat}  (hG : Ok1 dd dm iv lv) : ConI g yX8_ahead cX8_ahead 3 (some .int) 3 [rf g 0, .int x, .int y] iv lv (fun r iv' lv' => r = (-1) ∧ OkR (fun _ => 0) dm iv' lv') := by
  refine con_intro (own := "RollingNets") (by decide +kernel) rfl (Nat.le_of_ble_eq_true rfl) (L0 := [some (rf g 0), some (.int x), some (.int y)]) rfl (fun Z zh => ?_)
  refine z_aloadnR zh dX8_ahead_0 rfl ?_
  refine z_getf zh fl_RollingNets_12 dX8_ahead_1 ck_X rfl rfl ?_
  refine z_iloadn zh dX8_ahead_4 rfl ?_
  refine z_callVIp zh mv_RollingNets_60 dX8_ahead_5 (ck_H isH_1) rfl (c_hasMember g isH_1 hG) ⟨Nat.le_of_ble_eq_true rfl, Nat.le_of_ble_eq_true rfl⟩ rfl rfl (Nat.le_of_ble_eq_true rfl) ?_
  refine z_if_eq_B (tgt := 34) zh dX8_ahead_8 rfl (fun hp1 => ?_) (fun hp1 => ?_)
  · refine z_iconst zh dX8_ahead_34 ki_m1 ?_
    exact z_iret zh dX8_ahead_35 (⟨_, rfl, rfl, (by repeat (first | assumption | exact okR_of (by assumption) | refine okR_lI (by first | omega | (have := isM_lt (by assumption); omega) | (have := isH_lt (by assumption); omega)) ?_ | refine okR_lL (by first | omega | (have := isM_lt (by assumption); omega) | (have := isH_lt (by assumption); omega)) ?_))⟩)
  · obtain ⟨jx, hjx, rfl⟩ := id hp1
    refine z_iloadn zh dX8_ahead_11 rfl ?_
    refine z_callSIp zh ms_RollingNets_68 dX8_ahead_12 (c_isIssue g) ⟨Nat.le_of_ble_eq_true rfl, Nat.le_of_ble_eq_true rfl⟩ rfl rfl (Nat.le_of_ble_eq_true rfl) ?_
    refine z_if_eq_B (tgt := 34) zh dX8_ahead_15 rfl (fun hp2 => ?_) (fun hp2 => ?_)
    · refine z_iconst zh dX8_ahead_34 ki_m1 ?_
      exact z_iret zh dX8_ahead_35 (⟨_, rfl, rfl, (by repeat (first | assumption | exact okR_of (by assumption) | refine okR_lI (by first | omega | (have := isM_lt (by assumption); omega) | (have := isH_lt (by assumption); omega)) ?_ | refine okR_lL (by first | omega | (have := isM_lt (by assumption); omega) | (have := isH_lt (by assumption); omega)) ?_))⟩)
    · obtain ⟨jy, hjy, rfl⟩ := id hp2
      refine z_aloadnR zh dX8_ahead_18 rfl ?_
      refine z_getf zh fl_RollingNets_12 dX8_ahead_19 ck_X rfl rfl ?_
      refine z_getf zh fl_RollingNets_72 dX8_ahead_22 (ck_H isH_1) rfl rfl ?_
      refine z_iloadn zh dX8_ahead_25 rfl ?_
      refine z_maldN zh (ck_markets isH_1) dX8_ahead_26 hjy ?_
      refine z_iloadn zh dX8_ahead_27 rfl ?_
      refine z_callVIp zh mv_RollingNets_263 dX8_ahead_28 (ck_M (isM_of isH_1 hjy)) rfl (c_longOf g (isM_of isH_1 hjy) (by omega) hG) ⟨Nat.le_of_ble_eq_true rfl, Nat.le_of_ble_eq_true rfl⟩ rfl rfl (Nat.le_of_ble_eq_true rfl) ?_
      refine z_if_ne_N (tgt := 36) zh (by decide) dX8_ahead_31 rfl (fun q => absurd q (by decide)) (fun _ => ?_)
      refine z_iconst zh dX8_ahead_34 ki_m1 ?_
      exact z_iret zh dX8_ahead_35 (⟨_, rfl, rfl, (by repeat (first | assumption | exact okR_of (by assumption) | refine okR_lI (by first | omega | (have := isM_lt (by assumption); omega) | (have := isH_lt (by assumption); omega)) ?_ | refine okR_lL (by first | omega | (have := isM_lt (by assumption); omega) | (have := isH_lt (by assumption); omega)) ?_))⟩)
set_option maxRecDepth 20000 in
theorem c_X_reached (g : GE) {x w : Int32} {iv : Iv} {lv : Lv} {dd : Nat → Nat} {dm : Nat}  (hG : Ok1 dd dm iv lv) : ConI g yX8_reached cX8_reached 4 (some .int) 2 [rf g 0, .int x, .int w] iv lv (fun r iv' lv' => r = (-1) ∧ OkR (fun _ => 0) dm iv' lv') := by
  refine con_intro (own := "RollingNets") (by decide +kernel) rfl (Nat.le_of_ble_eq_true rfl) (L0 := [some (rf g 0), some (.int x), some (.int w), none]) rfl (fun Z zh => ?_)
  refine z_aloadnR zh dX8_reached_0 rfl ?_
  refine z_getf zh fl_RollingNets_12 dX8_reached_1 ck_X rfl rfl ?_
  refine z_getf zh fl_RollingNets_47 dX8_reached_4 (ck_H isH_1) rfl rfl ?_
  refine z_astoren zh dX8_reached_7 (by decide) (L' := [some (rf g 0), some (.int x), some (.int w), some (rf g (1 + 7))]) rfl ?_
  refine z_aloadnR zh dX8_reached_8 rfl ?_
  refine z_iconst zh dX8_reached_9 ki_5 ?_
  refine z_iloadn zh dX8_reached_10 rfl ?_
  refine z_callVIp zh mv_RollingNets_171 dX8_reached_11 (ck_T (isT_d isH_1)) rfl (c_get0 g (isT_d isH_1) (a1_cd hG isH_1) (by decide)) ⟨Nat.le_of_ble_eq_true rfl, Nat.le_of_ble_eq_true rfl⟩ rfl rfl (Nat.le_of_ble_eq_true rfl) ?_
  refine z_iconst zh dX8_reached_14 ki_1 ?_
  refine z_icmp_ne (tgt := 29) zh dX8_reached_15 rfl (fun _ => ?_) (fun q => absurd q.symm (nI_nm1 (by decide)))
  refine z_iconst zh dX8_reached_29 ki_m1 ?_
  exact z_iret zh dX8_reached_30 (⟨_, rfl, rfl, (by repeat (first | assumption | exact okR_of (by assumption) | refine okR_lI (by first | omega | (have := isM_lt (by assumption); omega) | (have := isH_lt (by assumption); omega)) ?_ | refine okR_lL (by first | omega | (have := isM_lt (by assumption); omega) | (have := isH_lt (by assumption); omega)) ?_))⟩)
set_option maxRecDepth 20000 in
theorem c_X_fault (g : GE) {w : Int32} {iv : Iv} {lv : Lv} {dd : Nat → Nat} {dm : Nat}  (hG : Ok1 dd dm iv lv) : ConI g yX8_fault cX8_fault 2 (some .int) 1 [rf g 0, .int w] iv lv (fun r iv' lv' => r = sp_fault w ∧ OkR (fun _ => 0) dm iv' lv') := by
  refine con_intro (own := "RollingNets") (by decide +kernel) rfl (Nat.le_of_ble_eq_true rfl) (L0 := [some (rf g 0), some (.int w)]) rfl (fun Z zh => ?_)
  refine z_iloadn zh dX8_fault_0 rfl ?_
  by_cases hp1 : InN 2 w
  · obtain ⟨jw, hjw, rfl⟩ := id hp1
    rcases (by omega : jw = 0 ∨ jw = 1) with rfl | rfl
    · refine z_lookup (off := 27) (tgt := 28) zh dX8_fault_1 (by decide) (by decide) rfl ?_
      refine z_aloadnR zh dX8_fault_28 rfl ?_
      refine z_getf zh fl_RollingNets_25 dX8_fault_29 ck_X rfl rfl ?_
      refine z_getI (x := nI 0) zh fl_RollingNets_165 dX8_fault_32 ck_R rfl rfl (a1_fault hG) ?_
      exact z_iret zh dX8_fault_35 (⟨_, rfl, (by first | rfl | simp (decide := true) only [sp_fault, sel_t, sel_f, selL_t, selL_f, bi_t, bi_f, sel_same, selL_same, eq_self, hp1]), (by repeat (first | assumption | exact okR_of (by assumption) | refine okR_lI (by first | omega | (have := isM_lt (by assumption); omega) | (have := isH_lt (by assumption); omega)) ?_ | refine okR_lL (by first | omega | (have := isM_lt (by assumption); omega) | (have := isH_lt (by assumption); omega)) ?_))⟩)
    · refine z_lookup (off := 35) (tgt := 36) zh dX8_fault_1 (by decide) (by decide) rfl ?_
      refine z_aloadnR zh dX8_fault_36 rfl ?_
      refine z_getf zh fl_RollingNets_25 dX8_fault_37 ck_X rfl rfl ?_
      refine z_getI (x := (-1)) zh fl_RollingNets_168 dX8_fault_40 ck_R rfl rfl (a1_faultP hG) ?_
      exact z_iret zh dX8_fault_43 (⟨_, rfl, (by first | rfl | simp (decide := true) only [sp_fault, sel_t, sel_f, selL_t, selL_f, bi_t, bi_f, sel_same, selL_same, eq_self, hp1]), (by repeat (first | assumption | exact okR_of (by assumption) | refine okR_lI (by first | omega | (have := isM_lt (by assumption); omega) | (have := isH_lt (by assumption); omega)) ?_ | refine okR_lL (by first | omega | (have := isM_lt (by assumption); omega) | (have := isH_lt (by assumption); omega)) ?_))⟩)
  · have hp1r := mt (InN_toInt (by omega)).mpr hp1
    have hp1n0 := InN_no hp1 (j := 0) (by omega)
    have hp1n1 := InN_no hp1 (j := 1) (by omega)
    refine z_lookup (off := 43) (tgt := 44) zh dX8_fault_1 (by decide) (lk2 (by omega)) rfl ?_
    refine z_iconst zh dX8_fault_44 ki_m1 ?_
    exact z_iret zh dX8_fault_45 (⟨_, rfl, (by first | rfl | simp (decide := true) only [sp_fault, sel_t, sel_f, selL_t, selL_f, bi_t, bi_f, sel_same, selL_same, eq_self, hp1, hp1n0, hp1n1]), (by repeat (first | assumption | exact okR_of (by assumption) | refine okR_lI (by first | omega | (have := isM_lt (by assumption); omega) | (have := isH_lt (by assumption); omega)) ?_ | refine okR_lL (by first | omega | (have := isM_lt (by assumption); omega) | (have := isH_lt (by assumption); omega)) ?_))⟩)
set_option maxRecDepth 20000 in
theorem c_X_night (g : GE) {x : Int32} {iv : Iv} {lv : Lv} {dd : Nat → Nat} {dm : Nat}  (hG : Ok1 (fun _ => 0) dm iv lv) : ConI g yX8_night cX8_night 2 (some .int) 7 [rf g 0, .int x] iv lv (fun r iv' lv' => r = sel (Rg (nI 1) (nI 20) x) x (-1) ∧ OkR (fun _ => 0) dm iv' lv') := by
  refine con_intro (own := "RollingNets") (by decide +kernel) rfl (Nat.le_of_ble_eq_true rfl) (L0 := [some (rf g 0), some (.int x)]) rfl (fun Z zh => ?_)
  refine z_aloadnR zh dX8_night_0 rfl ?_
  refine z_getf zh fl_RollingNets_12 dX8_night_1 ck_X rfl rfl ?_
  refine z_iloadn zh dX8_night_4 rfl ?_
  refine z_callSI zh ms_RollingNets_123 dX8_night_5 (c_pass g isH_1 rfl hG) ⟨Nat.le_of_ble_eq_true rfl, Nat.le_of_ble_eq_true rfl⟩ rfl rfl (Nat.le_of_ble_eq_true rfl) ?_
  rintro _ iv lv (⟨hnR, rfl, hG⟩ | ⟨n, hln, hhn, rfl, rfl, hG⟩)
  · skip
    exact z_iret zh dX8_night_8 (⟨_, rfl, (by first | rfl | simp (decide := true) only [sel_t, sel_f, selL_t, selL_f, bi_t, bi_f, sel_same, selL_same, eq_self, hnR]), (by repeat (first | assumption | exact okR_of (by assumption) | refine okR_lI (by first | omega | (have := isM_lt (by assumption); omega) | (have := isH_lt (by assumption); omega)) ?_ | refine okR_lL (by first | omega | (have := isM_lt (by assumption); omega) | (have := isH_lt (by assumption); omega)) ?_))⟩)
  · skip
    have hRn := (Rg_nn (a := 1) (b := 20) (j := n) (by omega) (by omega) (by omega)).mpr (by omega)
    exact z_iret zh dX8_night_8 (⟨_, rfl, (by first | rfl | simp (decide := true) only [sel_t, sel_f, selL_t, selL_f, bi_t, bi_f, sel_same, selL_same, eq_self, hRn]), (by repeat (first | assumption | exact okR_of (by assumption) | refine okR_lI (by first | omega | (have := isM_lt (by assumption); omega) | (have := isH_lt (by assumption); omega)) ?_ | refine okR_lL (by first | omega | (have := isM_lt (by assumption); omega) | (have := isH_lt (by assumption); omega)) ?_))⟩)
set_option maxRecDepth 20000 in
theorem c_X_give (g : GE) {x y z : Int32} {iv : Iv} {lv : Lv} {dd : Nat → Nat} {dm : Nat}  (hG : Ok1 dd dm iv lv) : ConI g yX8_give cX8_give 4 (some .int) 5 [rf g 0, .int x, .int y, .int z] iv lv (fun r iv' lv' => r = (-1) ∧ OkR (fun _ => 0) dm iv' lv') := by
  refine con_intro (own := "RollingNets") (by decide +kernel) rfl (Nat.le_of_ble_eq_true rfl) (L0 := [some (rf g 0), some (.int x), some (.int y), some (.int z)]) rfl (fun Z zh => ?_)
  refine z_aloadnR zh dX8_give_0 rfl ?_
  refine z_getf zh fl_RollingNets_12 dX8_give_1 ck_X rfl rfl ?_
  refine z_iloadn zh dX8_give_4 rfl ?_
  refine z_iloadn zh dX8_give_5 rfl ?_
  refine z_iloadn zh dX8_give_6 rfl ?_
  refine z_callSIp zh ms_RollingNets_129 dX8_give_7 (c_giveNet g isH_1 hG) ⟨Nat.le_of_ble_eq_true rfl, Nat.le_of_ble_eq_true rfl⟩ rfl rfl (Nat.le_of_ble_eq_true rfl) ?_
  exact z_iret zh dX8_give_10 (⟨_, rfl, rfl, (by repeat (first | assumption | exact okR_of (by assumption) | refine okR_lI (by first | omega | (have := isM_lt (by assumption); omega) | (have := isH_lt (by assumption); omega)) ?_ | refine okR_lL (by first | omega | (have := isM_lt (by assumption); omega) | (have := isH_lt (by assumption); omega)) ?_))⟩)
set_option maxRecDepth 20000 in
theorem c_X_call (g : GE) {x : Int32} {iv : Iv} {lv : Lv} {dd : Nat → Nat} {dm : Nat}  (hG : Ok1 dd dm iv lv) : ConI g yX8_call cX8_call 2 (some .int) 4 [rf g 0, .int x] iv lv (fun r iv' lv' => r = (-1) ∧ OkR (fun _ => 0) dm iv' lv') := by
  refine con_intro (own := "RollingNets") (by decide +kernel) rfl (Nat.le_of_ble_eq_true rfl) (L0 := [some (rf g 0), some (.int x)]) rfl (fun Z zh => ?_)
  refine z_aloadnR zh dX8_call_0 rfl ?_
  refine z_getf zh fl_RollingNets_12 dX8_call_1 ck_X rfl rfl ?_
  refine z_iloadn zh dX8_call_4 rfl ?_
  refine z_callSIp zh ms_RollingNets_135 dX8_call_5 (c_giveApart g isH_1 hG) ⟨Nat.le_of_ble_eq_true rfl, Nat.le_of_ble_eq_true rfl⟩ rfl rfl (Nat.le_of_ble_eq_true rfl) ?_
  exact z_iret zh dX8_call_8 (⟨_, rfl, rfl, (by repeat (first | assumption | exact okR_of (by assumption) | refine okR_lI (by first | omega | (have := isM_lt (by assumption); omega) | (have := isH_lt (by assumption); omega)) ?_ | refine okR_lL (by first | omega | (have := isM_lt (by assumption); omega) | (have := isH_lt (by assumption); omega)) ?_))⟩)
set_option maxRecDepth 20000 in
theorem c_X_end (g : GE) {x : Int32} {iv : Iv} {lv : Lv} {dd : Nat → Nat} {dm : Nat}  (hG : Ok1 dd dm iv lv) : ConI g yX8_end cX8_end 2 (some .boolean) 1 [rf g 0, .int x] iv lv (fun r iv' lv' => r = bi (InN 1 x) ∧ OkR (fun _ => 0) dm iv' lv') := by
  refine con_intro (own := "RollingNets") (by decide +kernel) rfl (Nat.le_of_ble_eq_true rfl) (L0 := [some (rf g 0), some (.int x)]) rfl (fun Z zh => ?_)
  refine z_iloadn zh dX8_end_0 rfl ?_
  refine z_if_lt (tgt := 15) zh dX8_end_1 rfl (fun hb1 => ?_) (fun hb1 => ?_)
  · refine z_iconst zh dX8_end_15 ki_0 ?_
    exact z_zret zh dX8_end_16 (Or.inl rfl) (⟨_, rfl, (by first | exact in_t3 (by omega) (by assumption) (by assumption) | exact in_f1 (by omega) (by assumption) | exact in_f4 (by omega) (by assumption)), (by repeat (first | assumption | exact okR_of (by assumption) | refine okR_lI (by first | omega | (have := isM_lt (by assumption); omega) | (have := isH_lt (by assumption); omega)) ?_ | refine okR_lL (by first | omega | (have := isM_lt (by assumption); omega) | (have := isH_lt (by assumption); omega)) ?_))⟩)
  · refine z_iloadn zh dX8_end_4 rfl ?_
    refine z_aloadnR zh dX8_end_5 rfl ?_
    refine z_getf zh fl_RollingNets_25 dX8_end_6 ck_X rfl rfl ?_
    refine z_getI (x := nI 0) zh fl_RollingNets_146 dX8_end_9 ck_R rfl rfl (a1_length hG) ?_
    refine z_icmp_le (tgt := 17) zh dX8_end_12 rfl (fun hb2 => ?_) (fun hb2 => ?_)
    · refine z_aloadnR zh dX8_end_17 rfl ?_
      refine z_getf zh fl_RollingNets_25 dX8_end_18 ck_X rfl rfl ?_
      refine z_iloadn zh dX8_end_21 rfl ?_
      refine z_putI zh fl_RollingNets_146 dX8_end_22 ck_R rfl rfl (Nat.le_of_ble_eq_true rfl) (Or.inl rfl) ?_
      refine z_iconst zh dX8_end_25 ki_1 ?_
      exact z_zret zh dX8_end_26 (Or.inr rfl) (⟨_, rfl, (by first | exact in_t3 (by omega) (by assumption) (by assumption) | exact in_f1 (by omega) (by assumption) | exact in_f4 (by omega) (by assumption)), (by repeat (first | assumption | exact okR_of (by assumption) | refine okR_lI (by first | omega | (have := isM_lt (by assumption); omega) | (have := isH_lt (by assumption); omega)) ?_ | refine okR_lL (by first | omega | (have := isM_lt (by assumption); omega) | (have := isH_lt (by assumption); omega)) ?_))⟩)
    · refine z_iconst zh dX8_end_15 ki_0 ?_
      exact z_zret zh dX8_end_16 (Or.inl rfl) (⟨_, rfl, (by first | exact in_t3 (by omega) (by assumption) (by assumption) | exact in_f1 (by omega) (by assumption) | exact in_f4 (by omega) (by assumption)), (by repeat (first | assumption | exact okR_of (by assumption) | refine okR_lI (by first | omega | (have := isM_lt (by assumption); omega) | (have := isH_lt (by assumption); omega)) ?_ | refine okR_lL (by first | omega | (have := isM_lt (by assumption); omega) | (have := isH_lt (by assumption); omega)) ?_))⟩)
set_option maxRecDepth 20000 in
theorem c_X_price (g : GE) {x v : Int32} {iv : Iv} {lv : Lv} {dd : Nat → Nat} {dm : Nat}  (hG : Ok1 dd dm iv lv) : ConI g yX8_price cX8_price 3 (some .boolean) 2 [rf g 0, .int x, .int v] iv lv (fun r iv' lv' => r = sp2 (InN 6 x) (Rg (nI 1) (nI 9999) v) (nI 1) (nI 0) ∧ OkR (fun _ => 0) dm iv' lv') := by
  refine con_intro (own := "RollingNets") (by decide +kernel) rfl (Nat.le_of_ble_eq_true rfl) (L0 := [some (rf g 0), some (.int x), some (.int v)]) rfl (fun Z zh => ?_)
  refine z_iloadn zh dX8_price_0 rfl ?_
  refine z_callSIp zh ms_RollingNets_68 dX8_price_1 (c_isIssue g) ⟨Nat.le_of_ble_eq_true rfl, Nat.le_of_ble_eq_true rfl⟩ rfl rfl (Nat.le_of_ble_eq_true rfl) ?_
  refine z_if_eq_B (tgt := 18) zh dX8_price_4 rfl (fun hp1 => ?_) (fun hp1 => ?_)
  · refine z_iconst zh dX8_price_18 ki_0 ?_
    exact z_zret zh dX8_price_19 (Or.inl rfl) (⟨_, rfl, (by first | rfl | simp (decide := true) only [sp2, sel_t, sel_f, selL_t, selL_f, bi_t, bi_f, sel_same, selL_same, eq_self, hp1]), (by repeat (first | assumption | exact okR_of (by assumption) | refine okR_lI (by first | omega | (have := isM_lt (by assumption); omega) | (have := isH_lt (by assumption); omega)) ?_ | refine okR_lL (by first | omega | (have := isM_lt (by assumption); omega) | (have := isH_lt (by assumption); omega)) ?_))⟩)
  · obtain ⟨jx, hjx, rfl⟩ := id hp1
    refine z_iloadn zh dX8_price_7 rfl ?_
    refine z_iconst zh dX8_price_8 ki_1 ?_
    refine z_sipush zh dX8_price_9 ks_9999 ?_
    refine z_callSIp zh ms_RollingNets_43 dX8_price_12 (c_within g) ⟨Nat.le_of_ble_eq_true rfl, Nat.le_of_ble_eq_true rfl⟩ rfl rfl (Nat.le_of_ble_eq_true rfl) ?_
    refine z_if_ne_B (tgt := 20) zh dX8_price_15 rfl (fun hp2 => ?_) (fun hp2 => ?_)
    · obtain ⟨jv, hljv, hhjv, rfl⟩ := Rg_nat (a := 1) (b := 9999) (by omega) (by omega) hp2
      refine z_aloadnR zh dX8_price_20 rfl ?_
      refine z_getf zh fl_RollingNets_12 dX8_price_21 ck_X rfl rfl ?_
      refine z_getf zh fl_RollingNets_72 dX8_price_24 (ck_H isH_1) rfl rfl ?_
      refine z_iloadn zh dX8_price_27 rfl ?_
      refine z_maldN zh (ck_markets isH_1) dX8_price_28 hjx ?_
      refine z_iloadn zh dX8_price_29 rfl ?_
      refine z_putI zh fl_RollingNets_91 dX8_price_30 (ck_M (isM_of isH_1 hjx)) rfl rfl (Nat.le_of_ble_eq_true rfl) (Or.inl rfl) ?_
      refine z_iconst zh dX8_price_33 ki_1 ?_
      exact z_zret zh dX8_price_34 (Or.inr rfl) (⟨_, rfl, (by first | rfl | simp (decide := true) only [sp2, sel_t, sel_f, selL_t, selL_f, bi_t, bi_f, sel_same, selL_same, eq_self, hp1, hp2]), (by repeat (first | assumption | exact okR_of (by assumption) | refine okR_lI (by first | omega | (have := isM_lt (by assumption); omega) | (have := isH_lt (by assumption); omega)) ?_ | refine okR_lL (by first | omega | (have := isM_lt (by assumption); omega) | (have := isH_lt (by assumption); omega)) ?_))⟩)
    · refine z_iconst zh dX8_price_18 ki_0 ?_
      exact z_zret zh dX8_price_19 (Or.inl rfl) (⟨_, rfl, (by first | rfl | simp (decide := true) only [sp2, sel_t, sel_f, selL_t, selL_f, bi_t, bi_f, sel_same, selL_same, eq_self, hp1, hp2]), (by repeat (first | assumption | exact okR_of (by assumption) | refine okR_lI (by first | omega | (have := isM_lt (by assumption); omega) | (have := isH_lt (by assumption); omega)) ?_ | refine okR_lL (by first | omega | (have := isM_lt (by assumption); omega) | (have := isH_lt (by assumption); omega)) ?_))⟩)
set_option maxRecDepth 20000 in
theorem c_X_dividend (g : GE) {x v : Int32} {iv : Iv} {lv : Lv} {dd : Nat → Nat} {dm : Nat}  (hG : Ok1 dd dm iv lv) : ConI g yX8_dividend cX8_dividend 3 (some .boolean) 2 [rf g 0, .int x, .int v] iv lv (fun r iv' lv' => r = sp2 (InN 6 x) (InN 100 v) (nI 1) (nI 0) ∧ OkR (fun _ => 0) dm iv' lv') := by
  refine con_intro (own := "RollingNets") (by decide +kernel) rfl (Nat.le_of_ble_eq_true rfl) (L0 := [some (rf g 0), some (.int x), some (.int v)]) rfl (fun Z zh => ?_)
  refine z_iloadn zh dX8_dividend_0 rfl ?_
  refine z_callSIp zh ms_RollingNets_68 dX8_dividend_1 (c_isIssue g) ⟨Nat.le_of_ble_eq_true rfl, Nat.le_of_ble_eq_true rfl⟩ rfl rfl (Nat.le_of_ble_eq_true rfl) ?_
  refine z_if_eq_B (tgt := 17) zh dX8_dividend_4 rfl (fun hp1 => ?_) (fun hp1 => ?_)
  · refine z_iconst zh dX8_dividend_17 ki_0 ?_
    exact z_zret zh dX8_dividend_18 (Or.inl rfl) (⟨_, rfl, (by first | rfl | simp (decide := true) only [sp2, sel_t, sel_f, selL_t, selL_f, bi_t, bi_f, sel_same, selL_same, eq_self, hp1]), (by repeat (first | assumption | exact okR_of (by assumption) | refine okR_lI (by first | omega | (have := isM_lt (by assumption); omega) | (have := isH_lt (by assumption); omega)) ?_ | refine okR_lL (by first | omega | (have := isM_lt (by assumption); omega) | (have := isH_lt (by assumption); omega)) ?_))⟩)
  · obtain ⟨jx, hjx, rfl⟩ := id hp1
    refine z_iloadn zh dX8_dividend_7 rfl ?_
    refine z_iconst zh dX8_dividend_8 ki_0 ?_
    refine z_bipush zh dX8_dividend_9 kb_99 ?_
    refine z_callSIp zh ms_RollingNets_43 dX8_dividend_11 (c_within0 g) ⟨Nat.le_of_ble_eq_true rfl, Nat.le_of_ble_eq_true rfl⟩ rfl rfl (Nat.le_of_ble_eq_true rfl) ?_
    refine z_if_ne_B (tgt := 19) zh dX8_dividend_14 rfl (fun hp2 => ?_) (fun hp2 => ?_)
    · obtain ⟨jv, hjv, rfl⟩ := id hp2
      refine z_aloadnR zh dX8_dividend_19 rfl ?_
      refine z_getf zh fl_RollingNets_12 dX8_dividend_20 ck_X rfl rfl ?_
      refine z_getf zh fl_RollingNets_72 dX8_dividend_23 (ck_H isH_1) rfl rfl ?_
      refine z_iloadn zh dX8_dividend_26 rfl ?_
      refine z_maldN zh (ck_markets isH_1) dX8_dividend_27 hjx ?_
      refine z_iloadn zh dX8_dividend_28 rfl ?_
      refine z_putI zh fl_RollingNets_99 dX8_dividend_29 (ck_M (isM_of isH_1 hjx)) rfl rfl (Nat.le_of_ble_eq_true rfl) (Or.inl rfl) ?_
      refine z_iconst zh dX8_dividend_32 ki_1 ?_
      exact z_zret zh dX8_dividend_33 (Or.inr rfl) (⟨_, rfl, (by first | rfl | simp (decide := true) only [sp2, sel_t, sel_f, selL_t, selL_f, bi_t, bi_f, sel_same, selL_same, eq_self, hp1, hp2]), (by repeat (first | assumption | exact okR_of (by assumption) | refine okR_lI (by first | omega | (have := isM_lt (by assumption); omega) | (have := isH_lt (by assumption); omega)) ?_ | refine okR_lL (by first | omega | (have := isM_lt (by assumption); omega) | (have := isH_lt (by assumption); omega)) ?_))⟩)
    · refine z_iconst zh dX8_dividend_17 ki_0 ?_
      exact z_zret zh dX8_dividend_18 (Or.inl rfl) (⟨_, rfl, (by first | rfl | simp (decide := true) only [sp2, sel_t, sel_f, selL_t, selL_f, bi_t, bi_f, sel_same, selL_same, eq_self, hp1, hp2]), (by repeat (first | assumption | exact okR_of (by assumption) | refine okR_lI (by first | omega | (have := isM_lt (by assumption); omega) | (have := isH_lt (by assumption); omega)) ?_ | refine okR_lL (by first | omega | (have := isM_lt (by assumption); omega) | (have := isH_lt (by assumption); omega)) ?_))⟩)
set_option maxRecDepth 20000 in
theorem c_X_collateral (g : GE) {x v : Int32} {iv : Iv} {lv : Lv} {dd : Nat → Nat} {dm : Nat}  (hG : Ok1 dd dm iv lv) : ConI g yX8_collateral cX8_collateral 3 (some .boolean) 2 [rf g 0, .int x, .int v] iv lv (fun r iv' lv' => r = sp2 (InN 6 x) (InN 10000000 v) (nI 1) (nI 0) ∧ OkR (fun _ => 0) dm iv' lv') := by
  refine con_intro (own := "RollingNets") (by decide +kernel) rfl (Nat.le_of_ble_eq_true rfl) (L0 := [some (rf g 0), some (.int x), some (.int v)]) rfl (fun Z zh => ?_)
  refine z_aloadnR zh dX8_collateral_0 rfl ?_
  refine z_getf zh fl_RollingNets_12 dX8_collateral_1 ck_X rfl rfl ?_
  refine z_iloadn zh dX8_collateral_4 rfl ?_
  refine z_callVIp zh mv_RollingNets_60 dX8_collateral_5 (ck_H isH_1) rfl (c_hasMember g isH_1 hG) ⟨Nat.le_of_ble_eq_true rfl, Nat.le_of_ble_eq_true rfl⟩ rfl rfl (Nat.le_of_ble_eq_true rfl) ?_
  refine z_if_eq_B (tgt := 21) zh dX8_collateral_8 rfl (fun hp1 => ?_) (fun hp1 => ?_)
  · refine z_iconst zh dX8_collateral_21 ki_0 ?_
    exact z_zret zh dX8_collateral_22 (Or.inl rfl) (⟨_, rfl, (by first | rfl | simp (decide := true) only [sp2, sel_t, sel_f, selL_t, selL_f, bi_t, bi_f, sel_same, selL_same, eq_self, hp1]), (by repeat (first | assumption | exact okR_of (by assumption) | refine okR_lI (by first | omega | (have := isM_lt (by assumption); omega) | (have := isH_lt (by assumption); omega)) ?_ | refine okR_lL (by first | omega | (have := isM_lt (by assumption); omega) | (have := isH_lt (by assumption); omega)) ?_))⟩)
  · obtain ⟨jx, hjx, rfl⟩ := id hp1
    refine z_iloadn zh dX8_collateral_11 rfl ?_
    refine z_iconst zh dX8_collateral_12 ki_0 ?_
    refine z_ldc zh dX8_collateral_13 kc_RollingNets_119 ?_
    refine z_callSIp zh ms_RollingNets_43 dX8_collateral_15 (c_within0 g) ⟨Nat.le_of_ble_eq_true rfl, Nat.le_of_ble_eq_true rfl⟩ rfl rfl (Nat.le_of_ble_eq_true rfl) ?_
    refine z_if_ne_B (tgt := 23) zh dX8_collateral_18 rfl (fun hp2 => ?_) (fun hp2 => ?_)
    · obtain ⟨jv, hjv, rfl⟩ := id hp2
      refine z_aloadnR zh dX8_collateral_23 rfl ?_
      refine z_getf zh fl_RollingNets_12 dX8_collateral_24 ck_X rfl rfl ?_
      refine z_getf zh fl_RollingNets_120 dX8_collateral_27 (ck_H isH_1) rfl rfl ?_
      refine z_iloadn zh dX8_collateral_30 rfl ?_
      refine z_iloadn zh dX8_collateral_31 rfl ?_
      refine z_iastN zh (ck_pledged isH_1) dX8_collateral_32 (by omega) ?_
      refine z_iconst zh dX8_collateral_33 ki_1 ?_
      exact z_zret zh dX8_collateral_34 (Or.inr rfl) (⟨_, rfl, (by first | rfl | simp (decide := true) only [sp2, sel_t, sel_f, selL_t, selL_f, bi_t, bi_f, sel_same, selL_same, eq_self, hp1, hp2]), (by repeat (first | assumption | exact okR_of (by assumption) | refine okR_lI (by first | omega | (have := isM_lt (by assumption); omega) | (have := isH_lt (by assumption); omega)) ?_ | refine okR_lL (by first | omega | (have := isM_lt (by assumption); omega) | (have := isH_lt (by assumption); omega)) ?_))⟩)
    · refine z_iconst zh dX8_collateral_21 ki_0 ?_
      exact z_zret zh dX8_collateral_22 (Or.inl rfl) (⟨_, rfl, (by first | rfl | simp (decide := true) only [sp2, sel_t, sel_f, selL_t, selL_f, bi_t, bi_f, sel_same, selL_same, eq_self, hp1, hp2]), (by repeat (first | assumption | exact okR_of (by assumption) | refine okR_lI (by first | omega | (have := isM_lt (by assumption); omega) | (have := isH_lt (by assumption); omega)) ?_ | refine okR_lL (by first | omega | (have := isM_lt (by assumption); omega) | (have := isH_lt (by assumption); omega)) ?_))⟩)
set_option maxRecDepth 20000 in
theorem c_X_run (g : GE) {x : Int32} {iv : Iv} {lv : Lv} {dd : Nat → Nat} {dm : Nat}  (hG : Ok1 dd dm iv lv) : ConI g yX8_run cX8_run 6 (some .int) 4 [rf g 0, .int x] iv lv (fun r iv' lv' => r = sel (Rg (nI 1) (nI 24) x) (nI 0) (-1) ∧ OkR (fun _ => 0) dm iv' lv') := by
  refine con_intro (own := "RollingNets") (by decide +kernel) rfl (Nat.le_of_ble_eq_true rfl) (L0 := [some (rf g 0), some (.int x), none, none, none, none]) rfl (fun Z zh => ?_)
  refine z_iloadn zh dX8_run_0 rfl ?_
  refine z_iconst zh dX8_run_1 ki_1 ?_
  refine z_bipush zh dX8_run_2 kb_24 ?_
  refine z_callSIp zh ms_RollingNets_43 dX8_run_4 (c_within g) ⟨Nat.le_of_ble_eq_true rfl, Nat.le_of_ble_eq_true rfl⟩ rfl rfl (Nat.le_of_ble_eq_true rfl) ?_
  refine z_if_ne_B (tgt := 12) zh dX8_run_7 rfl (fun hp1 => ?_) (fun hp1 => ?_)
  · obtain ⟨jx, hljx, hhjx, rfl⟩ := Rg_nat (a := 1) (b := 24) (by omega) (by omega) hp1
    refine z_iconst zh dX8_run_12 ki_0 ?_
    refine z_istoren zh dX8_run_13 (by decide) (L' := [some (rf g 0), some (.int (nI jx)), some (.int (nI 0)), none, none, none]) rfl ?_
    refine z_iconst zh dX8_run_14 ki_0 ?_
    refine z_istoren zh dX8_run_15 (by decide) (L' := [some (rf g 0), some (.int (nI jx)), some (.int (nI 0)), some (.int (nI 0)), none, none]) rfl ?_
    refine z_iloadn zh dX8_run_16 rfl ?_
    refine z_iloadn zh dX8_run_17 rfl ?_
    refine z_icmp_ge_N (tgt := 138) zh (by decide) (by omega) dX8_run_18 rfl (fun q => absurd q (by omega)) (fun _ => ?_)
    refine z_aloadnR zh dX8_run_21 rfl ?_
    refine z_getf zh fl_RollingNets_12 dX8_run_22 ck_X rfl rfl ?_
    refine z_getI (x := nI 0) zh fl_RollingNets_162 dX8_run_25 (ck_H isH_1) rfl rfl (a1_planDone hG isH_1) ?_
    refine z_aloadnR zh dX8_run_28 rfl ?_
    refine z_getf zh fl_RollingNets_12 dX8_run_29 ck_X rfl rfl ?_
    refine z_getf zh fl_RollingNets_152 dX8_run_32 (ck_H isH_1) rfl rfl ?_
    refine z_callVIp zh mv_RollingNets_51 dX8_run_35 (ck_T (isT_p isH_1)) rfl (c_size g (isT_p isH_1) (a1_cp hG isH_1)) ⟨Nat.le_of_ble_eq_true rfl, Nat.le_of_ble_eq_true rfl⟩ rfl rfl (Nat.le_of_ble_eq_true rfl) ?_
    refine z_icmp_ge_N (tgt := 138) zh (by decide) (by decide) dX8_run_38 rfl (fun _ => ?_) (fun q => absurd q (by decide))
    refine z_iloadn zh dX8_run_138 rfl ?_
    exact z_iret zh dX8_run_139 (⟨_, rfl, (by first | rfl | simp (decide := true) only [sel_t, sel_f, selL_t, selL_f, bi_t, bi_f, sel_same, selL_same, eq_self, hp1]), (by repeat (first | assumption | exact okR_of (by assumption) | refine okR_lI (by first | omega | (have := isM_lt (by assumption); omega) | (have := isH_lt (by assumption); omega)) ?_ | refine okR_lL (by first | omega | (have := isM_lt (by assumption); omega) | (have := isH_lt (by assumption); omega)) ?_))⟩)
  · refine z_iconst zh dX8_run_10 ki_m1 ?_
    exact z_iret zh dX8_run_11 (⟨_, rfl, (by first | rfl | simp (decide := true) only [sel_t, sel_f, selL_t, selL_f, bi_t, bi_f, sel_same, selL_same, eq_self, hp1]), (by repeat (first | assumption | exact okR_of (by assumption) | refine okR_lI (by first | omega | (have := isM_lt (by assumption); omega) | (have := isH_lt (by assumption); omega)) ?_ | refine okR_lL (by first | omega | (have := isM_lt (by assumption); omega) | (have := isH_lt (by assumption); omega)) ?_))⟩)
