noncomputable def sp_hold (w : Int32) : Int32 := sel (InN 9 w) (sel (w = nI 7) (-1) (nI 0)) (-1000000)
set_option maxRecDepth 20000 in
theorem c_within (g : GE) {v a b : Int32} {iv : Iv} {lv : Lv}    : ConIp g yX8_within cX8_within 3 (some .boolean) 1 [.int v, .int a, .int b] iv lv (bi (Rg a b v)) := by
  refine con_intro (own := "RollingNets") (by decide +kernel) rfl (Nat.le_of_ble_eq_true rfl) (L0 := [some (.int v), some (.int a), some (.int b)]) rfl (fun Z zh => ?_)
  refine z_iloadn zh dX8_within_0 rfl ?_
  refine z_iloadn zh dX8_within_1 rfl ?_
  refine z_icmp_lt (tgt := 14) zh dX8_within_2 rfl (fun hb1 => ?_) (fun hb1 => ?_)
  · refine z_iconst zh dX8_within_14 ki_0 ?_
    exact z_zret zh dX8_within_15 (Or.inl rfl) (qI (by first | rfl | exact (bi_t (by first | assumption | (unfold Rg; simp only [Int32.le_iff_toInt_le, Int32.lt_iff_toInt_lt] at *; omega))).symm | exact (bi_f (by first | assumption | (unfold Rg; simp only [Int32.le_iff_toInt_le, Int32.lt_iff_toInt_lt] at *; omega))).symm))
  · refine z_iloadn zh dX8_within_5 rfl ?_
    refine z_iloadn zh dX8_within_6 rfl ?_
    refine z_icmp_gt (tgt := 14) zh dX8_within_7 rfl (fun hb2 => ?_) (fun hb2 => ?_)
    · refine z_iconst zh dX8_within_14 ki_0 ?_
      exact z_zret zh dX8_within_15 (Or.inl rfl) (qI (by first | rfl | exact (bi_t (by first | assumption | (unfold Rg; simp only [Int32.le_iff_toInt_le, Int32.lt_iff_toInt_lt] at *; omega))).symm | exact (bi_f (by first | assumption | (unfold Rg; simp only [Int32.le_iff_toInt_le, Int32.lt_iff_toInt_lt] at *; omega))).symm))
    · refine z_iconst zh dX8_within_10 ki_1 ?_
      refine z_goto (tgt := 15) zh dX8_within_11 rfl ?_
      exact z_zret zh dX8_within_15 (Or.inr rfl) (qI (by first | rfl | exact (bi_t (by first | assumption | (unfold Rg; simp only [Int32.le_iff_toInt_le, Int32.lt_iff_toInt_lt] at *; omega))).symm | exact (bi_f (by first | assumption | (unfold Rg; simp only [Int32.le_iff_toInt_le, Int32.lt_iff_toInt_lt] at *; omega))).symm))
theorem c_within0 (g : GE) {n : Nat} {v : Int32} {iv : Iv} {lv : Lv} (hn : n < 2 ^ 31 := by decide) : ConIp g yX8_within cX8_within 3 (some .boolean) 1 [.int v, .int (nI 0), .int (nI n)] iv lv (bi (InN (n + 1) v)) := by
  rw [bi_iff (InN_le hn)]
  exact c_within g
set_option maxRecDepth 20000 in
theorem c_isIssue (g : GE) {x : Int32} {iv : Iv} {lv : Lv}    : ConIp g yX8_isIssue cX8_isIssue 1 (some .boolean) 1 [.int x] iv lv (bi (InN 6 x)) := by
  refine con_intro (own := "RollingNets") (by decide +kernel) rfl (Nat.le_of_ble_eq_true rfl) (L0 := [some (.int x)]) rfl (fun Z zh => ?_)
  refine z_iloadn zh dX8_isIssue_0 rfl ?_
  refine z_if_lt (tgt := 14) zh dX8_isIssue_1 rfl (fun hb1 => ?_) (fun hb1 => ?_)
  · refine z_iconst zh dX8_isIssue_14 ki_0 ?_
    exact z_zret zh dX8_isIssue_15 (Or.inl rfl) (qI (by first | exact in_t (by omega) (by assumption) (by assumption) | exact in_t2 (by omega) (by assumption) (by assumption) | exact in_f1 (by omega) (by assumption) | exact in_f2 (by omega) (by assumption) | exact in_f3 (by omega) (by assumption)))
  · refine z_iloadn zh dX8_isIssue_4 rfl ?_
    refine z_bipush zh dX8_isIssue_5 kb_6 ?_
    refine z_icmp_ge (tgt := 14) zh dX8_isIssue_7 rfl (fun hb2 => ?_) (fun hb2 => ?_)
    · refine z_iconst zh dX8_isIssue_14 ki_0 ?_
      exact z_zret zh dX8_isIssue_15 (Or.inl rfl) (qI (by first | exact in_t (by omega) (by assumption) (by assumption) | exact in_t2 (by omega) (by assumption) (by assumption) | exact in_f1 (by omega) (by assumption) | exact in_f2 (by omega) (by assumption) | exact in_f3 (by omega) (by assumption)))
    · refine z_iconst zh dX8_isIssue_10 ki_1 ?_
      refine z_goto (tgt := 15) zh dX8_isIssue_11 rfl ?_
      exact z_zret zh dX8_isIssue_15 (Or.inr rfl) (qI (by first | exact in_t (by omega) (by assumption) (by assumption) | exact in_t2 (by omega) (by assumption) (by assumption) | exact in_f1 (by omega) (by assumption) | exact in_f2 (by omega) (by assumption) | exact in_f3 (by omega) (by assumption)))
set_option maxRecDepth 20000 in
theorem c_members (g : GE) {h : Nat} {iv : Iv} {lv : Lv} {dd : Nat → Nat} {dm : Nat} (hh : isH h) (hG : Ok1 dd dm iv lv) : ConIp g yX1_members cX1_members 1 (some .int) 1 [rf g h] iv lv (nI 6) := by
  refine con_intro (own := "RollingNets$House") (by decide +kernel) rfl (Nat.le_of_ble_eq_true rfl) (L0 := [some (rf g h)]) rfl (fun Z zh => ?_)
  refine z_aloadnR zh dX1_members_0 rfl ?_
  refine z_getf zh fl_House_13 dX1_members_1 (ck_H hh) rfl rfl ?_
  refine z_iconst zh dX1_members_4 ki_0 ?_
  refine z_ialdE (x := nI 6) zh (ck_told hh) dX1_members_5 (by decide) (show iv (h + 1) 0 = nI 6 from a1_told hG hh 0) ?_
  exact z_iret zh dX1_members_6 (qI rfl)
set_option maxRecDepth 20000 in
theorem c_hasMember (g : GE) {h : Nat} {x : Int32} {iv : Iv} {lv : Lv} {dd : Nat → Nat} {dm : Nat} (hh : isH h) (hG : Ok1 dd dm iv lv) : ConIp g yX1_hasMember cX1_hasMember 2 (some .boolean) 1 [rf g h, .int x] iv lv (bi (InN 6 x)) := by
  refine con_intro (own := "RollingNets$House") (by decide +kernel) rfl (Nat.le_of_ble_eq_true rfl) (L0 := [some (rf g h), some (.int x)]) rfl (fun Z zh => ?_)
  refine z_iloadn zh dX1_hasMember_0 rfl ?_
  refine z_if_lt (tgt := 18) zh dX1_hasMember_1 rfl (fun hb1 => ?_) (fun hb1 => ?_)
  · refine z_iconst zh dX1_hasMember_18 ki_0 ?_
    exact z_zret zh dX1_hasMember_19 (Or.inl rfl) (qI (by first | exact in_t (by omega) (by assumption) (by assumption) | exact in_t2 (by omega) (by assumption) (by assumption) | exact in_f1 (by omega) (by assumption) | exact in_f2 (by omega) (by assumption) | exact in_f3 (by omega) (by assumption)))
  · refine z_iloadn zh dX1_hasMember_4 rfl ?_
    refine z_aloadnR zh dX1_hasMember_5 rfl ?_
    refine z_getf zh fl_House_13 dX1_hasMember_6 (ck_H hh) rfl rfl ?_
    refine z_iconst zh dX1_hasMember_9 ki_0 ?_
    refine z_ialdE (x := nI 6) zh (ck_told hh) dX1_hasMember_10 (by decide) (show iv (h + 1) 0 = nI 6 from a1_told hG hh 0) ?_
    refine z_icmp_ge (tgt := 18) zh dX1_hasMember_11 rfl (fun hb2 => ?_) (fun hb2 => ?_)
    · refine z_iconst zh dX1_hasMember_18 ki_0 ?_
      exact z_zret zh dX1_hasMember_19 (Or.inl rfl) (qI (by first | exact in_t (by omega) (by assumption) (by assumption) | exact in_t2 (by omega) (by assumption) (by assumption) | exact in_f1 (by omega) (by assumption) | exact in_f2 (by omega) (by assumption) | exact in_f3 (by omega) (by assumption)))
    · refine z_iconst zh dX1_hasMember_14 ki_1 ?_
      refine z_goto (tgt := 19) zh dX1_hasMember_15 rfl ?_
      exact z_zret zh dX1_hasMember_19 (Or.inr rfl) (qI (by first | exact in_t (by omega) (by assumption) (by assumption) | exact in_t2 (by omega) (by assumption) (by assumption) | exact in_f1 (by omega) (by assumption) | exact in_f2 (by omega) (by assumption) | exact in_f3 (by omega) (by assumption)))
set_option maxRecDepth 20000 in
theorem c_size (g : GE) {t cc nn : Nat} {c : Nat} {iv : Iv} {lv : Lv}  (ht : isT t cc nn) (hc : iv t 2 = nI c)  : ConIp g yX7_size cX7_size 1 (some .int) 1 [rf g t] iv lv (nI c) := by
  refine con_intro (own := "RollingNets$Table") (by decide +kernel) rfl (Nat.le_of_ble_eq_true rfl) (L0 := [some (rf g t)]) rfl (fun Z zh => ?_)
  refine z_aloadnR zh dX7_size_0 rfl ?_
  refine z_getI (x := nI c) zh fl_Table_20 dX7_size_1 (ck_T ht) rfl rfl hc ?_
  exact z_iret zh dX7_size_4 (qI rfl)
set_option maxRecDepth 20000 in
theorem c_isFull0 (g : GE) {t cc nn : Nat} {iv : Iv} {lv : Lv}  (ht : isT t cc nn) (hc : iv t 2 = nI 0) (hn0 : 0 < nn) (hn1 : nn < 2 ^ 31)  : ConIp g yX7_isFull cX7_isFull 1 (some .boolean) 1 [rf g t] iv lv (nI 0) := by
  refine con_intro (own := "RollingNets$Table") (by decide +kernel) rfl (Nat.le_of_ble_eq_true rfl) (L0 := [some (rf g t)]) rfl (fun Z zh => ?_)
  refine z_aloadnR zh dX7_isFull_0 rfl ?_
  refine z_getI (x := nI 0) zh fl_Table_20 dX7_isFull_1 (ck_T ht) rfl rfl hc ?_
  refine z_aloadnR zh dX7_isFull_4 rfl ?_
  refine z_getI (x := nI nn) zh fl_Table_16 dX7_isFull_5 (ck_T ht) rfl rfl rfl ?_
  refine z_icmp_lt_N (tgt := 15) zh (by decide) (by omega) dX7_isFull_8 rfl (fun _ => ?_) (fun q => absurd q (by omega))
  refine z_iconst zh dX7_isFull_15 ki_0 ?_
  exact z_zret zh dX7_isFull_16 (Or.inl rfl) (qI rfl)
set_option maxRecDepth 20000 in
theorem c_get0 (g : GE) {t cc nn : Nat} {a b : Int32} {iv : Iv} {lv : Lv}  (ht : isT t cc nn) (hc : iv t 2 = nI 0) (hc9 : cc < 2 ^ 31)  : ConIp g yX7_get cX7_get 3 (some .int) 1 [rf g t, .int a, .int b] iv lv ((-1)) := by
  refine con_intro (own := "RollingNets$Table") (by decide +kernel) rfl (Nat.le_of_ble_eq_true rfl) (L0 := [some (rf g t), some (.int a), some (.int b)]) rfl (fun Z zh => ?_)
  refine z_iloadn zh dX7_get_0 rfl ?_
  refine z_if_lt (tgt := 25) zh dX7_get_1 rfl (fun hb1 => ?_) (fun hb1 => ?_)
  · refine z_iconst zh dX7_get_25 ki_m1 ?_
    exact z_iret zh dX7_get_26 (qI rfl)
  · refine z_iloadn zh dX7_get_4 rfl ?_
    refine z_aloadnR zh dX7_get_5 rfl ?_
    refine z_getf zh fl_Table_11 dX7_get_6 (ck_T ht) rfl rfl ?_
    refine z_alenG zh (ck_Tc ht) dX7_get_9 ?_
    refine z_icmp_ge (tgt := 25) zh dX7_get_10 rfl (fun hb2 => ?_) (fun hb2 => ?_)
    · refine z_iconst zh dX7_get_25 ki_m1 ?_
      exact z_iret zh dX7_get_26 (qI rfl)
    · refine z_iloadn zh dX7_get_13 rfl ?_
      refine z_if_lt (tgt := 25) zh dX7_get_14 rfl (fun hb3 => ?_) (fun hb3 => ?_)
      · refine z_iconst zh dX7_get_25 ki_m1 ?_
        exact z_iret zh dX7_get_26 (qI rfl)
      · refine z_iloadn zh dX7_get_17 rfl ?_
        refine z_aloadnR zh dX7_get_18 rfl ?_
        refine z_getI (x := nI 0) zh fl_Table_20 dX7_get_19 (ck_T ht) rfl rfl hc ?_
        refine z_icmp_lt (tgt := 27) zh dX7_get_22 rfl (fun q => absurd (show b < 0 from q) hb3) (fun _ => ?_)
        refine z_iconst zh dX7_get_25 ki_m1 ?_
        exact z_iret zh dX7_get_26 (qI rfl)
set_option maxRecDepth 20000 in
theorem c_longOf (g : GE) {m j : Nat} {iv : Iv} {lv : Lv} {dd : Nat → Nat} {dm : Nat} (hm : isM m) (hj : j < 12) (hG : Ok1 dd dm iv lv) : ConIp g yX3_longOf cX3_longOf 2 (some .int) 2 [rf g m, .int (nI j)] iv lv (nI 0) := by
  refine con_intro (own := "RollingNets$Market") (by decide +kernel) rfl (Nat.le_of_ble_eq_true rfl) (L0 := [some (rf g m), some (.int (nI j))]) rfl (fun Z zh => ?_)
  refine z_iconst zh dX3_longOf_0 ki_0 ?_
  refine z_aloadnR zh dX3_longOf_1 rfl ?_
  refine z_getf zh fl_Market_28 dX3_longOf_2 (ck_M hm) rfl rfl ?_
  refine z_iloadn zh dX3_longOf_5 rfl ?_
  refine z_ialdE (x := nI 0) zh (ck_mi 6 (by decide) hm) dX3_longOf_6 hj (a1_mi hG hm 6 (by decide)) ?_
  refine z_mmaxE (r := nI 0) zh ma_Market_49 mc_max dX3_longOf_7 ⟨Nat.le_of_ble_eq_true rfl, Nat.le_of_ble_eq_true rfl⟩ (by decide) ?_
  exact z_iret zh dX3_longOf_10 (qI rfl)
set_option maxRecDepth 20000 in
theorem c_shortOf (g : GE) {m j : Nat} {iv : Iv} {lv : Lv} {dd : Nat → Nat} {dm : Nat} (hm : isM m) (hj : j < 12) (hG : Ok1 dd dm iv lv) : ConIp g yX3_shortOf cX3_shortOf 2 (some .int) 2 [rf g m, .int (nI j)] iv lv (nI 0) := by
  refine con_intro (own := "RollingNets$Market") (by decide +kernel) rfl (Nat.le_of_ble_eq_true rfl) (L0 := [some (rf g m), some (.int (nI j))]) rfl (fun Z zh => ?_)
  refine z_iconst zh dX3_shortOf_0 ki_0 ?_
  refine z_aloadnR zh dX3_shortOf_1 rfl ?_
  refine z_getf zh fl_Market_28 dX3_shortOf_2 (ck_M hm) rfl rfl ?_
  refine z_iloadn zh dX3_shortOf_5 rfl ?_
  refine z_ialdE (x := nI 0) zh (ck_mi 6 (by decide) hm) dX3_shortOf_6 hj (a1_mi hG hm 6 (by decide)) ?_
  refine z_ineg zh dX3_shortOf_7 ?_
  rw [show -(nI 0) = nI 0 from by decide]
  refine z_mmaxE (r := nI 0) zh ma_Market_49 mc_max dX3_shortOf_8 ⟨Nat.le_of_ble_eq_true rfl, Nat.le_of_ble_eq_true rfl⟩ (by decide) ?_
  exact z_iret zh dX3_shortOf_11 (qI rfl)
set_option maxRecDepth 20000 in
theorem c_worth0 (g : GE) {m : Nat} {iv : Iv} {lv : Lv} {dd : Nat → Nat} {dm : Nat} (hm : isM m) (hG : Ok1 dd dm iv lv) : ConLp g yX3_worth cX3_worth 2 (some .long) 1 [rf g m, .int (nI 0)] iv lv ((0 : Int64)) := by
  refine con_intro (own := "RollingNets$Market") (by decide +kernel) rfl (Nat.le_of_ble_eq_true rfl) (L0 := [some (rf g m), some (.int (nI 0))]) rfl (fun Z zh => ?_)
  refine z_iloadn zh dX3_worth_0 rfl ?_
  refine z_i2l zh dX3_worth_1 ?_
  rw [show (nI 0).toInt64 = (0 : Int64) from by decide]
  refine z_aloadnR zh dX3_worth_2 rfl ?_
  refine z_getI (x := nI 100) zh fl_Market_40 dX3_worth_3 (ck_M hm) rfl rfl (a1_marked hG hm) ?_
  refine z_i2l zh dX3_worth_6 ?_
  rw [show (nI 100).toInt64 = (100 : Int64) from by decide]
  refine z_lmul zh dX3_worth_7 ?_
  rw [show (0 : Int64) * (100 : Int64) = (0 : Int64) from by decide]
  exact z_lret zh dX3_worth_8 (qL (by decide))
set_option maxRecDepth 20000 in
theorem c_dayOfLot (g : GE) {m : Nat} {a b : Int32} {iv : Iv} {lv : Lv} {dd : Nat → Nat} {dm : Nat} (hm : isM m) (hG : Ok1 dd dm iv lv) : ConIp g yX3_dayOfLot cX3_dayOfLot 5 (some .int) 1 [rf g m, .int a, .int b] iv lv ((-1)) := by
  refine con_intro (own := "RollingNets$Market") (by decide +kernel) rfl (Nat.le_of_ble_eq_true rfl) (L0 := [some (rf g m), some (.int a), some (.int b), none, none]) rfl (fun Z zh => ?_)
  refine z_iconst zh dX3_dayOfLot_0 ki_0 ?_
  refine z_istoren zh dX3_dayOfLot_1 (by decide) (L' := [some (rf g m), some (.int a), some (.int b), some (.int (nI 0)), none]) rfl ?_
  refine z_iconst zh dX3_dayOfLot_2 ki_0 ?_
  refine z_istore zh dX3_dayOfLot_3 (by decide) (L' := [some (rf g m), some (.int a), some (.int b), some (.int (nI 0)), some (.int (nI 0))]) rfl ?_
  refine z_iload zh dX3_dayOfLot_5 rfl ?_
  refine z_aloadnR zh dX3_dayOfLot_7 rfl ?_
  refine z_getI (x := nI 0) zh fl_Market_46 dX3_dayOfLot_8 (ck_M hm) rfl rfl (a1_endDay hG hm) ?_
  refine z_icmp_ge_N (tgt := 43) zh (by decide) (by decide) dX3_dayOfLot_11 rfl (fun _ => ?_) (fun q => absurd q (by decide))
  refine z_iconst zh dX3_dayOfLot_43 ki_m1 ?_
  exact z_iret zh dX3_dayOfLot_44 (qI rfl)
set_option maxRecDepth 20000 in
theorem c_countLots (g : GE) {m : Nat} {a : Int32} {iv : Iv} {lv : Lv} {dd : Nat → Nat} {dm : Nat} (hm : isM m) (hG : Ok1 dd dm iv lv) : ConIp g yX3_countLots cX3_countLots 4 (some .int) 1 [rf g m, .int a] iv lv (nI 0) := by
  refine con_intro (own := "RollingNets$Market") (by decide +kernel) rfl (Nat.le_of_ble_eq_true rfl) (L0 := [some (rf g m), some (.int a), none, none]) rfl (fun Z zh => ?_)
  refine z_iconst zh dX3_countLots_0 ki_0 ?_
  refine z_istoren zh dX3_countLots_1 (by decide) (L' := [some (rf g m), some (.int a), some (.int (nI 0)), none]) rfl ?_
  refine z_iconst zh dX3_countLots_2 ki_0 ?_
  refine z_istoren zh dX3_countLots_3 (by decide) (L' := [some (rf g m), some (.int a), some (.int (nI 0)), some (.int (nI 0))]) rfl ?_
  refine z_iloadn zh dX3_countLots_4 rfl ?_
  refine z_aloadnR zh dX3_countLots_5 rfl ?_
  refine z_getI (x := nI 0) zh fl_Market_46 dX3_countLots_6 (ck_M hm) rfl rfl (a1_endDay hG hm) ?_
  refine z_icmp_ge_N (tgt := 32) zh (by decide) (by decide) dX3_countLots_9 rfl (fun _ => ?_) (fun q => absurd q (by decide))
  refine z_iloadn zh dX3_countLots_32 rfl ?_
  exact z_iret zh dX3_countLots_33 (qI rfl)
set_option maxRecDepth 20000 in
theorem c_freeOf (g : GE) {h i j : Nat} {iv : Iv} {lv : Lv} {dd : Nat → Nat} {dm : Nat} (hh : isH h) (hi : i < 6) (hj : j < 12) (hG : Ok1 dd dm iv lv) : ConLp g yX1_freeOf cX1_freeOf 4 (some .long) 2 [rf g h, .int (nI i), .int (nI j)] iv lv ((0 : Int64)) := by
  refine con_intro (own := "RollingNets$House") (by decide +kernel) rfl (Nat.le_of_ble_eq_true rfl) (L0 := [some (rf g h), some (.int (nI i)), some (.int (nI j)), none]) rfl (fun Z zh => ?_)
  refine z_aloadnR zh dX1_freeOf_0 rfl ?_
  refine z_getf zh fl_House_34 dX1_freeOf_1 (ck_H hh) rfl rfl ?_
  refine z_iloadn zh dX1_freeOf_4 rfl ?_
  refine z_maldN zh (ck_markets hh) dX1_freeOf_5 hi ?_
  refine z_astoren zh dX1_freeOf_6 (by decide) (L' := [some (rf g h), some (.int (nI i)), some (.int (nI j)), some (rf g (h + 60 + 20 * i))]) rfl ?_
  refine z_aloadnR zh dX1_freeOf_7 rfl ?_
  refine z_getf zh fl_House_28 dX1_freeOf_8 (ck_H hh) rfl rfl ?_
  refine z_iloadn zh dX1_freeOf_11 rfl ?_
  refine z_zaldE (x := nI 0) zh (ck_susp hh) dX1_freeOf_12 hj (a1_susp hG hh) ?_
  refine z_if_eq_N (tgt := 20) zh (by decide) dX1_freeOf_13 rfl (fun _ => ?_) (fun q => absurd q (by decide))
  refine z_lconst (v := 0) zh dX1_freeOf_20 (by decide) ?_
  refine z_aloadnR zh dX1_freeOf_21 rfl ?_
  refine z_getf zh fl_House_90 dX1_freeOf_22 (ck_M (isM_of hh hi)) rfl rfl ?_
  refine z_iloadn zh dX1_freeOf_25 rfl ?_
  refine z_laldE (x := (0 : Int64)) zh (ck_stock (isM_of hh hi)) dX1_freeOf_26 hj (a1_stock hG (isM_of hh hi)) ?_
  refine z_aloadnR zh dX1_freeOf_27 rfl ?_
  refine z_getf zh fl_House_93 dX1_freeOf_28 (ck_M (isM_of hh hi)) rfl rfl ?_
  refine z_iloadn zh dX1_freeOf_31 rfl ?_
  refine z_ialdE (x := nI 0) zh (ck_mi 2 (by decide) (isM_of hh hi)) dX1_freeOf_32 hj (a1_mi hG (isM_of hh hi) 2 (by decide)) ?_
  refine z_i2l zh dX1_freeOf_33 ?_
  rw [show (nI 0).toInt64 = (0 : Int64) from by decide]
  refine z_lsub zh dX1_freeOf_34 ?_
  rw [show (0 : Int64) - (0 : Int64) = (0 : Int64) from by decide]
  refine z_mmax_longE (r := (0 : Int64)) zh ma_House_96 mc_max_long dX1_freeOf_35 ⟨Nat.le_of_ble_eq_true rfl, Nat.le_of_ble_eq_true rfl⟩ (by decide) ?_
  exact z_lret zh dX1_freeOf_38 (qL (by decide))
set_option maxRecDepth 20000 in
theorem c_canLend (g : GE) {h i j : Nat} {iv : Iv} {lv : Lv} {dd : Nat → Nat} {dm : Nat} (hh : isH h) (hi : i < 6) (hj : j < 12) (hG : Ok1 dd dm iv lv) : ConIp g yX1_canLend cX1_canLend 6 (some .int) 3 [rf g h, .int (nI i), .int (nI j)] iv lv (nI 0) := by
  refine con_intro (own := "RollingNets$House") (by decide +kernel) rfl (Nat.le_of_ble_eq_true rfl) (L0 := [some (rf g h), some (.int (nI i)), some (.int (nI j)), none, none, none]) rfl (fun Z zh => ?_)
  refine z_aloadnR zh dX1_canLend_0 rfl ?_
  refine z_getf zh fl_House_34 dX1_canLend_1 (ck_H hh) rfl rfl ?_
  refine z_iloadn zh dX1_canLend_4 rfl ?_
  refine z_maldN zh (ck_markets hh) dX1_canLend_5 hi ?_
  refine z_astoren zh dX1_canLend_6 (by decide) (L' := [some (rf g h), some (.int (nI i)), some (.int (nI j)), some (rf g (h + 60 + 20 * i)), none, none]) rfl ?_
  refine z_aloadnR zh dX1_canLend_7 rfl ?_
  refine z_iloadn zh dX1_canLend_8 rfl ?_
  refine z_callVIp zh mv_House_102 dX1_canLend_9 (ck_M (isM_of hh hi)) rfl (c_shortOf g (isM_of hh hi) hj hG) ⟨Nat.le_of_ble_eq_true rfl, Nat.le_of_ble_eq_true rfl⟩ rfl rfl (Nat.le_of_ble_eq_true rfl) ?_
  refine z_if_le_N (tgt := 17) zh (by decide) dX1_canLend_12 rfl (fun _ => ?_) (fun q => absurd q (by decide))
  refine z_aloadnR zh dX1_canLend_17 rfl ?_
  refine z_getf zh fl_House_106 dX1_canLend_18 (ck_M (isM_of hh hi)) rfl rfl ?_
  refine z_iloadn zh dX1_canLend_21 rfl ?_
  refine z_ialdE (x := nI 0) zh (ck_mi 3 (by decide) (isM_of hh hi)) dX1_canLend_22 hj (a1_mi hG (isM_of hh hi) 3 (by decide)) ?_
  refine z_aloadnR zh dX1_canLend_23 rfl ?_
  refine z_getf zh fl_House_109 dX1_canLend_24 (ck_M (isM_of hh hi)) rfl rfl ?_
  refine z_iloadn zh dX1_canLend_27 rfl ?_
  refine z_ialdE (x := nI 0) zh (ck_mi 4 (by decide) (isM_of hh hi)) dX1_canLend_28 hj (a1_mi hG (isM_of hh hi) 4 (by decide)) ?_
  refine z_isubN zh (by omega) dX1_canLend_29 ?_
  refine z_i2l zh dX1_canLend_30 ?_
  rw [show (nI 0).toInt64 = (0 : Int64) from by decide]
  refine z_lstore zh dX1_canLend_31 (by decide) (L' := [some (rf g h), some (.int (nI i)), some (.int (nI j)), some (rf g (h + 60 + 20 * i)), some (.long (0 : Int64)), none]) rfl ?_
  refine z_lconst (v := 0) zh dX1_canLend_33 (by decide) ?_
  refine z_aloadnR zh dX1_canLend_34 rfl ?_
  refine z_iloadn zh dX1_canLend_35 rfl ?_
  refine z_iloadn zh dX1_canLend_36 rfl ?_
  refine z_callVLp zh mv_House_112 dX1_canLend_37 (ck_H hh) rfl (c_freeOf g hh hi hj hG) ⟨Nat.le_of_ble_eq_true rfl, Nat.le_of_ble_eq_true rfl⟩ rfl rfl (Nat.le_of_ble_eq_true rfl) ?_
  refine z_lload zh dX1_canLend_40 rfl ?_
  refine z_mmin_longE (r := (0 : Int64)) zh ma_House_116 mc_min_long dX1_canLend_42 ⟨Nat.le_of_ble_eq_true rfl, Nat.le_of_ble_eq_true rfl⟩ (by decide) ?_
  refine z_mmax_longE (r := (0 : Int64)) zh ma_House_96 mc_max_long dX1_canLend_45 ⟨Nat.le_of_ble_eq_true rfl, Nat.le_of_ble_eq_true rfl⟩ (by decide) ?_
  refine z_l2i zh dX1_canLend_48 ?_
  rw [show ((0 : Int64)).toInt32 = nI 0 from by decide]
  exact z_iret zh dX1_canLend_49 (qI (by decide))
set_option maxRecDepth 20000 in
theorem c_holding (g : GE) {h i j : Nat} {w : Int32} {iv : Iv} {lv : Lv} {dd : Nat → Nat} {dm : Nat} (hh : isH h) (hi : i < 6) (hj : j < 12) (hG : Ok1 dd dm iv lv) : ConIp g yX1_holding cX1_holding 5 (some .int) 4 [rf g h, .int (nI j), .int (nI i), .int w] iv lv (sp_hold w) := by
  refine con_intro (own := "RollingNets$House") (by decide +kernel) rfl (Nat.le_of_ble_eq_true rfl) (L0 := [some (rf g h), some (.int (nI j)), some (.int (nI i)), some (.int w), none]) rfl (fun Z zh => ?_)
  refine z_aloadnR zh dX1_holding_0 rfl ?_
  refine z_getf zh fl_House_34 dX1_holding_1 (ck_H hh) rfl rfl ?_
  refine z_iloadn zh dX1_holding_4 rfl ?_
  refine z_maldN zh (ck_markets hh) dX1_holding_5 hi ?_
  refine z_astore zh dX1_holding_6 (by decide) (L' := [some (rf g h), some (.int (nI j)), some (.int (nI i)), some (.int w), some (rf g (h + 60 + 20 * i))]) rfl ?_
  refine z_iloadn zh dX1_holding_8 rfl ?_
  by_cases hp1 : InN 9 w
  · obtain ⟨jw, hjw, rfl⟩ := id hp1
    rcases (by omega : jw = 0 ∨ jw = 1 ∨ jw = 2 ∨ jw = 3 ∨ jw = 4 ∨ jw = 5 ∨ jw = 6 ∨ jw = 7 ∨ jw = 8) with rfl | rfl | rfl | rfl | rfl | rfl | rfl | rfl | rfl
    · refine z_tabIn (off := 51) (tgt := 60) zh dX1_holding_9 (by decide) (by decide) (by decide) rfl ?_
      refine z_aloadR zh dX1_holding_60 rfl ?_
      refine z_getf zh fl_House_152 dX1_holding_62 (ck_M (isM_of hh hi)) rfl rfl ?_
      refine z_iloadn zh dX1_holding_65 rfl ?_
      refine z_ialdE (x := nI 0) zh (ck_mi 6 (by decide) (isM_of hh hi)) dX1_holding_66 hj (a1_mi hG (isM_of hh hi) 6 (by decide)) ?_
      exact z_iret zh dX1_holding_67 (qI (by first | rfl | simp (decide := true) only [sp_hold, sel_t, sel_f, selL_t, selL_f, bi_t, bi_f, sel_same, selL_same, eq_self, hp1]))
    · refine z_tabIn (off := 59) (tgt := 68) zh dX1_holding_9 (by decide) (by decide) (by decide) rfl ?_
      refine z_aloadR zh dX1_holding_68 rfl ?_
      refine z_getf zh fl_House_90 dX1_holding_70 (ck_M (isM_of hh hi)) rfl rfl ?_
      refine z_iloadn zh dX1_holding_73 rfl ?_
      refine z_laldE (x := (0 : Int64)) zh (ck_stock (isM_of hh hi)) dX1_holding_74 hj (a1_stock hG (isM_of hh hi)) ?_
      refine z_l2i zh dX1_holding_75 ?_
      rw [show ((0 : Int64)).toInt32 = nI 0 from by decide]
      exact z_iret zh dX1_holding_76 (qI (by first | rfl | simp (decide := true) only [sp_hold, sel_t, sel_f, selL_t, selL_f, bi_t, bi_f, sel_same, selL_same, eq_self, hp1]))
    · refine z_tabIn (off := 68) (tgt := 77) zh dX1_holding_9 (by decide) (by decide) (by decide) rfl ?_
      refine z_aloadnR zh dX1_holding_77 rfl ?_
      refine z_iloadn zh dX1_holding_78 rfl ?_
      refine z_iloadn zh dX1_holding_79 rfl ?_
      refine z_callVLp zh mv_House_112 dX1_holding_80 (ck_H hh) rfl (c_freeOf g hh hi hj hG) ⟨Nat.le_of_ble_eq_true rfl, Nat.le_of_ble_eq_true rfl⟩ rfl rfl (Nat.le_of_ble_eq_true rfl) ?_
      refine z_l2i zh dX1_holding_83 ?_
      rw [show ((0 : Int64)).toInt32 = nI 0 from by decide]
      exact z_iret zh dX1_holding_84 (qI (by first | rfl | simp (decide := true) only [sp_hold, sel_t, sel_f, selL_t, selL_f, bi_t, bi_f, sel_same, selL_same, eq_self, hp1]))
    · refine z_tabIn (off := 76) (tgt := 85) zh dX1_holding_9 (by decide) (by decide) (by decide) rfl ?_
      refine z_aloadR zh dX1_holding_85 rfl ?_
      refine z_getf zh fl_House_93 dX1_holding_87 (ck_M (isM_of hh hi)) rfl rfl ?_
      refine z_iloadn zh dX1_holding_90 rfl ?_
      refine z_ialdE (x := nI 0) zh (ck_mi 2 (by decide) (isM_of hh hi)) dX1_holding_91 hj (a1_mi hG (isM_of hh hi) 2 (by decide)) ?_
      exact z_iret zh dX1_holding_92 (qI (by first | rfl | simp (decide := true) only [sp_hold, sel_t, sel_f, selL_t, selL_f, bi_t, bi_f, sel_same, selL_same, eq_self, hp1]))
    · refine z_tabIn (off := 84) (tgt := 93) zh dX1_holding_9 (by decide) (by decide) (by decide) rfl ?_
      refine z_aloadR zh dX1_holding_93 rfl ?_
      refine z_getf zh fl_House_106 dX1_holding_95 (ck_M (isM_of hh hi)) rfl rfl ?_
      refine z_iloadn zh dX1_holding_98 rfl ?_
      refine z_ialdE (x := nI 0) zh (ck_mi 3 (by decide) (isM_of hh hi)) dX1_holding_99 hj (a1_mi hG (isM_of hh hi) 3 (by decide)) ?_
      exact z_iret zh dX1_holding_100 (qI (by first | rfl | simp (decide := true) only [sp_hold, sel_t, sel_f, selL_t, selL_f, bi_t, bi_f, sel_same, selL_same, eq_self, hp1]))
    · refine z_tabIn (off := 92) (tgt := 101) zh dX1_holding_9 (by decide) (by decide) (by decide) rfl ?_
      refine z_aloadR zh dX1_holding_101 rfl ?_
      refine z_getf zh fl_House_109 dX1_holding_103 (ck_M (isM_of hh hi)) rfl rfl ?_
      refine z_iloadn zh dX1_holding_106 rfl ?_
      refine z_ialdE (x := nI 0) zh (ck_mi 4 (by decide) (isM_of hh hi)) dX1_holding_107 hj (a1_mi hG (isM_of hh hi) 4 (by decide)) ?_
      exact z_iret zh dX1_holding_108 (qI (by first | rfl | simp (decide := true) only [sp_hold, sel_t, sel_f, selL_t, selL_f, bi_t, bi_f, sel_same, selL_same, eq_self, hp1]))
    · refine z_tabIn (off := 100) (tgt := 109) zh dX1_holding_9 (by decide) (by decide) (by decide) rfl ?_
      refine z_aloadR zh dX1_holding_109 rfl ?_
      refine z_iloadn zh dX1_holding_111 rfl ?_
      refine z_callVIp zh mv_House_155 dX1_holding_112 (ck_M (isM_of hh hi)) rfl (c_countLots g (isM_of hh hi) hG) ⟨Nat.le_of_ble_eq_true rfl, Nat.le_of_ble_eq_true rfl⟩ rfl rfl (Nat.le_of_ble_eq_true rfl) ?_
      exact z_iret zh dX1_holding_115 (qI (by first | rfl | simp (decide := true) only [sp_hold, sel_t, sel_f, selL_t, selL_f, bi_t, bi_f, sel_same, selL_same, eq_self, hp1]))
    · refine z_tabIn (off := 107) (tgt := 116) zh dX1_holding_9 (by decide) (by decide) (by decide) rfl ?_
      refine z_aloadR zh dX1_holding_116 rfl ?_
      refine z_iloadn zh dX1_holding_118 rfl ?_
      refine z_iconst zh dX1_holding_119 ki_0 ?_
      refine z_callVIp zh mv_House_158 dX1_holding_120 (ck_M (isM_of hh hi)) rfl (c_dayOfLot g (isM_of hh hi) hG) ⟨Nat.le_of_ble_eq_true rfl, Nat.le_of_ble_eq_true rfl⟩ rfl rfl (Nat.le_of_ble_eq_true rfl) ?_
      exact z_iret zh dX1_holding_123 (qI (by first | rfl | simp (decide := true) only [sp_hold, sel_t, sel_f, selL_t, selL_f, bi_t, bi_f, sel_same, selL_same, eq_self, hp1]))
    · refine z_tabIn (off := 115) (tgt := 124) zh dX1_holding_9 (by decide) (by decide) (by decide) rfl ?_
      refine z_aloadnR zh dX1_holding_124 rfl ?_
      refine z_iloadn zh dX1_holding_125 rfl ?_
      refine z_iloadn zh dX1_holding_126 rfl ?_
      refine z_callVIp zh mv_House_161 dX1_holding_127 (ck_H hh) rfl (c_canLend g hh hi hj hG) ⟨Nat.le_of_ble_eq_true rfl, Nat.le_of_ble_eq_true rfl⟩ rfl rfl (Nat.le_of_ble_eq_true rfl) ?_
      exact z_iret zh dX1_holding_130 (qI (by first | rfl | simp (decide := true) only [sp_hold, sel_t, sel_f, selL_t, selL_f, bi_t, bi_f, sel_same, selL_same, eq_self, hp1]))
  · have hp1r := mt (InN_toInt (by omega)).mpr hp1
    have hp1n0 := InN_no hp1 (j := 0) (by omega)
    have hp1n1 := InN_no hp1 (j := 1) (by omega)
    have hp1n2 := InN_no hp1 (j := 2) (by omega)
    have hp1n3 := InN_no hp1 (j := 3) (by omega)
    have hp1n4 := InN_no hp1 (j := 4) (by omega)
    have hp1n5 := InN_no hp1 (j := 5) (by omega)
    have hp1n6 := InN_no hp1 (j := 6) (by omega)
    have hp1n7 := InN_no hp1 (j := 7) (by omega)
    have hp1n8 := InN_no hp1 (j := 8) (by omega)
    refine z_tabOut (tgt := 131) zh dX1_holding_9 (by omega) rfl ?_
    refine z_ldc zh dX1_holding_131 kc_House_164 ?_
    exact z_iret zh dX1_holding_133 (qI (by first | rfl | simp (decide := true) only [sp_hold, sel_t, sel_f, selL_t, selL_f, bi_t, bi_f, sel_same, selL_same, eq_self, hp1, hp1n0, hp1n1, hp1n2, hp1n3, hp1n4, hp1n5, hp1n6, hp1n7, hp1n8]))
