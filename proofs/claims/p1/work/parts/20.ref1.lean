theorem z0shr {x : Int32} : nI 0 >>> (x &&& 31) = nI 0 := by
  rw [show nI 0 = 0 from rfl]
  exact Int32.zero_shiftRight
set_option maxRecDepth 20000 in
theorem c_y_isIn (g : GE) {v a b : Int32} {iv : Iv} {lv : Lv}    : ConIp g yX9_isIn cX9_isIn 4 (some .boolean) 1 [rf g 551, .int v, .int a, .int b] iv lv (bi (Rg a b v)) := by
  refine con_intro (own := "RollingNetsModel") (by decide +kernel) rfl (Nat.le_of_ble_eq_true rfl) (L0 := [some (rf g 551), some (.int v), some (.int a), some (.int b)]) rfl (fun Z zh => ?_)
  refine z_iloadn zh dX9_isIn_0 rfl ?_
  refine z_iloadn zh dX9_isIn_1 rfl ?_
  refine z_icmp_lt (tgt := 14) zh dX9_isIn_2 rfl (fun hb1 => ?_) (fun hb1 => ?_)
  · refine z_iconst zh dX9_isIn_14 ki_0 ?_
    exact z_zret zh dX9_isIn_15 (Or.inl rfl) (qI (by first | rfl | exact (bi_t (by first | assumption | (unfold Rg; simp only [Int32.le_iff_toInt_le, Int32.lt_iff_toInt_lt] at *; omega))).symm | exact (bi_f (by first | assumption | (unfold Rg; simp only [Int32.le_iff_toInt_le, Int32.lt_iff_toInt_lt] at *; omega))).symm))
  · refine z_iloadn zh dX9_isIn_5 rfl ?_
    refine z_iloadn zh dX9_isIn_6 rfl ?_
    refine z_icmp_gt (tgt := 14) zh dX9_isIn_7 rfl (fun hb2 => ?_) (fun hb2 => ?_)
    · refine z_iconst zh dX9_isIn_14 ki_0 ?_
      exact z_zret zh dX9_isIn_15 (Or.inl rfl) (qI (by first | rfl | exact (bi_t (by first | assumption | (unfold Rg; simp only [Int32.le_iff_toInt_le, Int32.lt_iff_toInt_lt] at *; omega))).symm | exact (bi_f (by first | assumption | (unfold Rg; simp only [Int32.le_iff_toInt_le, Int32.lt_iff_toInt_lt] at *; omega))).symm))
    · refine z_iconst zh dX9_isIn_10 ki_1 ?_
      refine z_goto (tgt := 15) zh dX9_isIn_11 rfl ?_
      exact z_zret zh dX9_isIn_15 (Or.inr rfl) (qI (by first | rfl | exact (bi_t (by first | assumption | (unfold Rg; simp only [Int32.le_iff_toInt_le, Int32.lt_iff_toInt_lt] at *; omega))).symm | exact (bi_f (by first | assumption | (unfold Rg; simp only [Int32.le_iff_toInt_le, Int32.lt_iff_toInt_lt] at *; omega))).symm))
theorem c_y_isIn0 (g : GE) {n : Nat} {v : Int32} {iv : Iv} {lv : Lv} (hn : n < 2 ^ 31 := by decide) : ConIp g yX9_isIn cX9_isIn 4 (some .boolean) 1 [rf g 551, .int v, .int (nI 0), .int (nI n)] iv lv (bi (InN (n + 1) v)) := by
  rw [bi_iff (InN_le hn)]
  exact c_y_isIn g
theorem c_y_isInE (g : GE) {a b v : Int32} {iv : Iv} {lv : Lv} (hn : b < a := by decide) : ConIp g yX9_isIn cX9_isIn 4 (some .boolean) 1 [rf g 551, .int v, .int a, .int b] iv lv (nI 0) := by
  rw [← bi_f (p := Rg a b v) (fun q => by
    have h1 := q.1
    have h2 := q.2
    rw [Int32.le_iff_toInt_le] at h1 h2
    rw [Int32.lt_iff_toInt_lt] at hn
    omega)]
  exact c_y_isIn g
set_option maxRecDepth 20000 in
theorem c_y_greater0 (g : GE)  {iv : Iv} {lv : Lv}    : ConIp g yX9_greater cX9_greater 3 (some .int) 1 [rf g 551, .int (nI 0), .int (nI 0)] iv lv (nI 0) := by
  refine con_intro (own := "RollingNetsModel") (by decide +kernel) rfl (Nat.le_of_ble_eq_true rfl) (L0 := [some (rf g 551), some (.int (nI 0)), some (.int (nI 0))]) rfl (fun Z zh => ?_)
  refine z_iloadn zh dX9_greater_0 rfl ?_
  refine z_iloadn zh dX9_greater_1 rfl ?_
  refine z_icmp_le_N (tgt := 9) zh (by decide) (by decide) dX9_greater_2 rfl (fun _ => ?_) (fun q => absurd q (by decide))
  refine z_iloadn zh dX9_greater_9 rfl ?_
  exact z_iret zh dX9_greater_10 (qI rfl)
set_option maxRecDepth 20000 in
theorem c_y_lesser0 (g : GE)  {iv : Iv} {lv : Lv}    : ConIp g yX9_lesser cX9_lesser 3 (some .int) 1 [rf g 551, .int (nI 0), .int (nI 0)] iv lv (nI 0) := by
  refine con_intro (own := "RollingNetsModel") (by decide +kernel) rfl (Nat.le_of_ble_eq_true rfl) (L0 := [some (rf g 551), some (.int (nI 0)), some (.int (nI 0))]) rfl (fun Z zh => ?_)
  refine z_iloadn zh dX9_lesser_0 rfl ?_
  refine z_iloadn zh dX9_lesser_1 rfl ?_
  refine z_icmp_ge_N (tgt := 9) zh (by decide) (by decide) dX9_lesser_2 rfl (fun _ => ?_) (fun q => absurd q (by decide))
  refine z_iloadn zh dX9_lesser_9 rfl ?_
  exact z_iret zh dX9_lesser_10 (qI rfl)
set_option maxRecDepth 20000 in
theorem c_y_has0 (g : GE) {x : Int32} {iv : Iv} {lv : Lv}    : ConIp g yX9_has cX9_has 3 (some .boolean) 1 [rf g 551, .int (nI 0), .int x] iv lv (nI 0) := by
  refine con_intro (own := "RollingNetsModel") (by decide +kernel) rfl (Nat.le_of_ble_eq_true rfl) (L0 := [some (rf g 551), some (.int (nI 0)), some (.int x)]) rfl (fun Z zh => ?_)
  refine z_iloadn zh dX9_has_0 rfl ?_
  refine z_iloadn zh dX9_has_1 rfl ?_
  refine z_ishr zh dX9_has_2 ?_
  rw [show ((nI 0) >>> (x &&& 31) : Int32) = nI 0 from z0shr]
  refine z_iconst zh dX9_has_3 ki_1 ?_
  refine z_iand zh dX9_has_4 ?_
  rw [show ((nI 0) &&& (nI 1) : Int32) = nI 0 from by decide]
  refine z_iconst zh dX9_has_5 ki_1 ?_
  refine z_icmp_ne_N (tgt := 13) zh (by decide) (by decide) dX9_has_6 rfl (fun _ => ?_) (fun q => absurd q (by decide))
  refine z_iconst zh dX9_has_13 ki_0 ?_
  exact z_zret zh dX9_has_14 (Or.inl rfl) (qI rfl)
set_option maxRecDepth 20000 in
theorem c_y_memberMany (g : GE)  {iv : Iv} {lv : Lv} {dd : Nat → Nat} {dm : Nat}  (hG : OkR dd dm iv lv) : ConIp g yX9_memberMany cX9_memberMany 1 (some .int) 1 [rf g 551] iv lv (nI 6) := by
  refine con_intro (own := "RollingNetsModel") (by decide +kernel) rfl (Nat.le_of_ble_eq_true rfl) (L0 := [some (rf g 551)]) rfl (fun Z zh => ?_)
  refine z_aloadnR zh dX9_memberMany_0 rfl ?_
  refine z_getf zh fl_Y_7 dX9_memberMany_1 ck_Y rfl rfl ?_
  refine z_iconst zh dX9_memberMany_4 ki_0 ?_
  refine z_ialdE (x := nI 0) zh ck_now dX9_memberMany_5 (by decide) (r1_now hG (by decide)) ?_
  refine z_bipush zh dX9_memberMany_6 kb_6 ?_
  refine z_iaddN zh dX9_memberMany_8 ?_
  exact z_iret zh dX9_memberMany_9 (qI rfl)
set_option maxRecDepth 20000 in
theorem c_y_isMember (g : GE) {x : Int32} {iv : Iv} {lv : Lv} {dd : Nat → Nat} {dm : Nat}  (hG : OkR dd dm iv lv) : ConIp g yX9_isMember cX9_isMember 2 (some .boolean) 2 [rf g 551, .int x] iv lv (bi (InN 6 x)) := by
  refine con_intro (own := "RollingNetsModel") (by decide +kernel) rfl (Nat.le_of_ble_eq_true rfl) (L0 := [some (rf g 551), some (.int x)]) rfl (fun Z zh => ?_)
  refine z_iloadn zh dX9_isMember_0 rfl ?_
  refine z_if_lt (tgt := 16) zh dX9_isMember_1 rfl (fun hb1 => ?_) (fun hb1 => ?_)
  · refine z_iconst zh dX9_isMember_16 ki_0 ?_
    exact z_zret zh dX9_isMember_17 (Or.inl rfl) (qI (by first | exact in_t (by omega) (by assumption) (by assumption) | exact in_t2 (by omega) (by assumption) (by assumption) | exact in_f1 (by omega) (by assumption) | exact in_f2 (by omega) (by assumption) | exact in_f3 (by omega) (by assumption)))
  · refine z_iloadn zh dX9_isMember_4 rfl ?_
    refine z_aloadnR zh dX9_isMember_5 rfl ?_
    refine z_callVIp zh mv_Y_61 dX9_isMember_6 ck_Y rfl (c_y_memberMany g  hG) ⟨Nat.le_of_ble_eq_true rfl, Nat.le_of_ble_eq_true rfl⟩ rfl rfl (Nat.le_of_ble_eq_true rfl) ?_
    refine z_icmp_ge (tgt := 16) zh dX9_isMember_9 rfl (fun hb2 => ?_) (fun hb2 => ?_)
    · refine z_iconst zh dX9_isMember_16 ki_0 ?_
      exact z_zret zh dX9_isMember_17 (Or.inl rfl) (qI (by first | exact in_t (by omega) (by assumption) (by assumption) | exact in_t2 (by omega) (by assumption) (by assumption) | exact in_f1 (by omega) (by assumption) | exact in_f2 (by omega) (by assumption) | exact in_f3 (by omega) (by assumption)))
    · refine z_iconst zh dX9_isMember_12 ki_1 ?_
      refine z_goto (tgt := 17) zh dX9_isMember_13 rfl ?_
      exact z_zret zh dX9_isMember_17 (Or.inr rfl) (qI (by first | exact in_t (by omega) (by assumption) (by assumption) | exact in_t2 (by omega) (by assumption) (by assumption) | exact in_f1 (by omega) (by assumption) | exact in_f2 (by omega) (by assumption) | exact in_f3 (by omega) (by assumption)))
set_option maxRecDepth 20000 in
theorem c_y_isIssue (g : GE) {x : Int32} {iv : Iv} {lv : Lv}    : ConIp g yX9_isIssue cX9_isIssue 2 (some .boolean) 1 [rf g 551, .int x] iv lv (bi (InN 6 x)) := by
  refine con_intro (own := "RollingNetsModel") (by decide +kernel) rfl (Nat.le_of_ble_eq_true rfl) (L0 := [some (rf g 551), some (.int x)]) rfl (fun Z zh => ?_)
  refine z_iloadn zh dX9_isIssue_0 rfl ?_
  refine z_if_lt (tgt := 14) zh dX9_isIssue_1 rfl (fun hb1 => ?_) (fun hb1 => ?_)
  · refine z_iconst zh dX9_isIssue_14 ki_0 ?_
    exact z_zret zh dX9_isIssue_15 (Or.inl rfl) (qI (by first | exact in_t (by omega) (by assumption) (by assumption) | exact in_t2 (by omega) (by assumption) (by assumption) | exact in_f1 (by omega) (by assumption) | exact in_f2 (by omega) (by assumption) | exact in_f3 (by omega) (by assumption)))
  · refine z_iloadn zh dX9_isIssue_4 rfl ?_
    refine z_bipush zh dX9_isIssue_5 kb_6 ?_
    refine z_icmp_ge (tgt := 14) zh dX9_isIssue_7 rfl (fun hb2 => ?_) (fun hb2 => ?_)
    · refine z_iconst zh dX9_isIssue_14 ki_0 ?_
      exact z_zret zh dX9_isIssue_15 (Or.inl rfl) (qI (by first | exact in_t (by omega) (by assumption) (by assumption) | exact in_t2 (by omega) (by assumption) (by assumption) | exact in_f1 (by omega) (by assumption) | exact in_f2 (by omega) (by assumption) | exact in_f3 (by omega) (by assumption)))
    · refine z_iconst zh dX9_isIssue_10 ki_1 ?_
      refine z_goto (tgt := 15) zh dX9_isIssue_11 rfl ?_
      exact z_zret zh dX9_isIssue_15 (Or.inr rfl) (qI (by first | exact in_t (by omega) (by assumption) (by assumption) | exact in_t2 (by omega) (by assumption) (by assumption) | exact in_f1 (by omega) (by assumption) | exact in_f2 (by omega) (by assumption) | exact in_f3 (by omega) (by assumption)))
set_option maxRecDepth 20000 in
theorem c_y_priceOf (g : GE) {i : Nat} {iv : Iv} {lv : Lv} {dd : Nat → Nat} {dm : Nat} (hi : i < 6) (hG : OkR dd dm iv lv) : ConIp g yX9_priceOf cX9_priceOf 2 (some .int) 1 [rf g 551, .int (nI i)] iv lv (nI 100) := by
  refine con_intro (own := "RollingNetsModel") (by decide +kernel) rfl (Nat.le_of_ble_eq_true rfl) (L0 := [some (rf g 551), some (.int (nI i))]) rfl (fun Z zh => ?_)
  refine z_aloadnR zh dX9_priceOf_0 rfl ?_
  refine z_getf zh fl_Y_7 dX9_priceOf_1 ck_Y rfl rfl ?_
  refine z_bipush zh dX9_priceOf_4 kb_16 ?_
  refine z_iloadn zh dX9_priceOf_6 rfl ?_
  refine z_iaddN zh dX9_priceOf_7 ?_
  refine z_ialdE (x := nI 0) zh ck_now dX9_priceOf_8 (by omega) (r1_now hG (by omega)) ?_
  refine z_bipush zh dX9_priceOf_9 kb_100 ?_
  refine z_iaddN zh dX9_priceOf_11 ?_
  exact z_iret zh dX9_priceOf_12 (qI rfl)
set_option maxRecDepth 20000 in
theorem c_y_markedOf (g : GE) {i : Nat} {iv : Iv} {lv : Lv} {dd : Nat → Nat} {dm : Nat} (hi : i < 6) (hG : OkR dd dm iv lv) : ConIp g yX9_markedOf cX9_markedOf 2 (some .int) 1 [rf g 551, .int (nI i)] iv lv (nI 100) := by
  refine con_intro (own := "RollingNetsModel") (by decide +kernel) rfl (Nat.le_of_ble_eq_true rfl) (L0 := [some (rf g 551), some (.int (nI i))]) rfl (fun Z zh => ?_)
  refine z_aloadnR zh dX9_markedOf_0 rfl ?_
  refine z_getf zh fl_Y_7 dX9_markedOf_1 ck_Y rfl rfl ?_
  refine z_bipush zh dX9_markedOf_4 kb_22 ?_
  refine z_iloadn zh dX9_markedOf_6 rfl ?_
  refine z_iaddN zh dX9_markedOf_7 ?_
  refine z_ialdE (x := nI 0) zh ck_now dX9_markedOf_8 (by omega) (r1_now hG (by omega)) ?_
  refine z_bipush zh dX9_markedOf_9 kb_100 ?_
  refine z_iaddN zh dX9_markedOf_11 ?_
  exact z_iret zh dX9_markedOf_12 (qI rfl)
set_option maxRecDepth 20000 in
theorem c_y_cellOf (g : GE) {k i : Nat} {iv : Iv} {lv : Lv}    : ConIp g yX9_cellOf cX9_cellOf 3 (some .int) 1 [rf g 551, .int (nI k), .int (nI i)] iv lv (nI (6 * k + i)) := by
  refine con_intro (own := "RollingNetsModel") (by decide +kernel) rfl (Nat.le_of_ble_eq_true rfl) (L0 := [some (rf g 551), some (.int (nI k)), some (.int (nI i))]) rfl (fun Z zh => ?_)
  refine z_bipush zh dX9_cellOf_0 kb_6 ?_
  refine z_iloadn zh dX9_cellOf_2 rfl ?_
  refine z_imulN zh dX9_cellOf_3 ?_
  refine z_iloadn zh dX9_cellOf_4 rfl ?_
  refine z_iaddN zh dX9_cellOf_5 ?_
  exact z_iret zh dX9_cellOf_6 (qI (by first | rfl | simp (decide := true) only [sel_t, sel_f, selL_t, selL_f, bi_t, bi_f, sel_same, selL_same, eq_self]))
set_option maxRecDepth 20000 in
theorem c_y_stockOf (g : GE) {k i : Nat} {iv : Iv} {lv : Lv} {dd : Nat → Nat} {dm : Nat} (hk : k < 12) (hi : i < 6) (hG : OkR dd dm iv lv) : ConIp g yX9_stockOf cX9_stockOf 3 (some .int) 2 [rf g 551, .int (nI k), .int (nI i)] iv lv (nI 0) := by
  refine con_intro (own := "RollingNetsModel") (by decide +kernel) rfl (Nat.le_of_ble_eq_true rfl) (L0 := [some (rf g 551), some (.int (nI k)), some (.int (nI i))]) rfl (fun Z zh => ?_)
  refine z_aloadnR zh dX9_stockOf_0 rfl ?_
  refine z_getf zh fl_Y_7 dX9_stockOf_1 ck_Y rfl rfl ?_
  refine z_bipush zh dX9_stockOf_4 kb_60 ?_
  refine z_aloadnR zh dX9_stockOf_6 rfl ?_
  refine z_iloadn zh dX9_stockOf_7 rfl ?_
  refine z_iloadn zh dX9_stockOf_8 rfl ?_
  refine z_callVIp zh mv_Y_65 dX9_stockOf_9 ck_Y rfl (c_y_cellOf g) ⟨Nat.le_of_ble_eq_true rfl, Nat.le_of_ble_eq_true rfl⟩ rfl rfl (Nat.le_of_ble_eq_true rfl) ?_
  refine z_iaddN zh dX9_stockOf_12 ?_
  refine z_ialdE (x := nI 0) zh ck_now dX9_stockOf_13 (by omega) (r1_now hG (by omega)) ?_
  exact z_iret zh dX9_stockOf_14 (qI rfl)
set_option maxRecDepth 20000 in
theorem c_y_freeOf (g : GE) {k i : Nat} {iv : Iv} {lv : Lv} {dd : Nat → Nat} {dm : Nat} (hk : k < 12) (hi : i < 6) (hG : OkR dd dm iv lv) : ConIp g yX9_freeOf cX9_freeOf 3 (some .int) 3 [rf g 551, .int (nI k), .int (nI i)] iv lv (nI 0) := by
  refine con_intro (own := "RollingNetsModel") (by decide +kernel) rfl (Nat.le_of_ble_eq_true rfl) (L0 := [some (rf g 551), some (.int (nI k)), some (.int (nI i))]) rfl (fun Z zh => ?_)
  refine z_aloadnR zh dX9_freeOf_0 rfl ?_
  refine z_aloadnR zh dX9_freeOf_1 rfl ?_
  refine z_getf zh fl_Y_7 dX9_freeOf_2 ck_Y rfl rfl ?_
  refine z_bipush zh dX9_freeOf_5 kb_11 ?_
  refine z_ialdE (x := nI 0) zh ck_now dX9_freeOf_7 (by decide) (r1_now hG (by decide)) ?_
  refine z_iloadn zh dX9_freeOf_8 rfl ?_
  refine z_callVIp zh mv_Y_69 dX9_freeOf_9 ck_Y rfl (c_y_has0 g) ⟨Nat.le_of_ble_eq_true rfl, Nat.le_of_ble_eq_true rfl⟩ rfl rfl (Nat.le_of_ble_eq_true rfl) ?_
  refine z_if_eq_N (tgt := 19) zh (by decide) dX9_freeOf_12 rfl (fun _ => ?_) (fun q => absurd q (by decide))
  refine z_aloadnR zh dX9_freeOf_19 rfl ?_
  refine z_iconst zh dX9_freeOf_20 ki_0 ?_
  refine z_aloadnR zh dX9_freeOf_21 rfl ?_
  refine z_iloadn zh dX9_freeOf_22 rfl ?_
  refine z_iloadn zh dX9_freeOf_23 rfl ?_
  refine z_callVIp zh mv_Y_73 dX9_freeOf_24 ck_Y rfl (c_y_stockOf g hk hi hG) ⟨Nat.le_of_ble_eq_true rfl, Nat.le_of_ble_eq_true rfl⟩ rfl rfl (Nat.le_of_ble_eq_true rfl) ?_
  refine z_aloadnR zh dX9_freeOf_27 rfl ?_
  refine z_getf zh fl_Y_7 dX9_freeOf_28 ck_Y rfl rfl ?_
  refine z_sipush zh dX9_freeOf_31 ks_132 ?_
  refine z_aloadnR zh dX9_freeOf_34 rfl ?_
  refine z_iloadn zh dX9_freeOf_35 rfl ?_
  refine z_iloadn zh dX9_freeOf_36 rfl ?_
  refine z_callVIp zh mv_Y_65 dX9_freeOf_37 ck_Y rfl (c_y_cellOf g) ⟨Nat.le_of_ble_eq_true rfl, Nat.le_of_ble_eq_true rfl⟩ rfl rfl (Nat.le_of_ble_eq_true rfl) ?_
  refine z_iaddN zh dX9_freeOf_40 ?_
  refine z_ialdE (x := nI 0) zh ck_now dX9_freeOf_41 (by omega) (r1_now hG (by omega)) ?_
  refine z_isubN zh (by omega) dX9_freeOf_42 ?_
  refine z_callVIp zh mv_Y_76 dX9_freeOf_43 ck_Y rfl (c_y_greater0 g) ⟨Nat.le_of_ble_eq_true rfl, Nat.le_of_ble_eq_true rfl⟩ rfl rfl (Nat.le_of_ble_eq_true rfl) ?_
  exact z_iret zh dX9_freeOf_46 (qI rfl)
set_option maxRecDepth 20000 in
theorem c_y_cashMore (g : GE) {k : Nat} {iv : Iv} {lv : Lv} {dd : Nat → Nat} {dm : Nat} (hk : k < 12) (hG : OkR dd dm iv lv) : ConV g yX9_cashMore cX9_cashMore 4 none 1 [rf g 551, .int (nI k), .long (0 : Int64)] iv lv (fun iv lv => OkR dd dm iv lv) := by
  refine con_intro (own := "RollingNetsModel") (by decide +kernel) rfl (Nat.le_of_ble_eq_true rfl) (L0 := [some (rf g 551), some (.int (nI k)), some (.long (0 : Int64)), none]) rfl (fun Z zh => ?_)
  refine z_aloadnR zh dX9_cashMore_0 rfl ?_
  refine z_getf zh fl_Y_16 dX9_cashMore_1 ck_Y rfl rfl ?_
  refine z_iloadn zh dX9_cashMore_4 rfl ?_
  refine z_aloadnR zh dX9_cashMore_5 rfl ?_
  refine z_getf zh fl_Y_16 dX9_cashMore_6 ck_Y rfl rfl ?_
  refine z_iloadn zh dX9_cashMore_9 rfl ?_
  refine z_laldE (x := (0 : Int64)) zh ck_coins dX9_cashMore_10 (by omega) (r1_coins hG) ?_
  refine z_lloadn zh dX9_cashMore_11 rfl ?_
  refine z_ladd zh dX9_cashMore_12 ?_
  rw [show (0 : Int64) + (0 : Int64) = (0 : Int64) from by decide]
  refine z_lastN zh ck_coins dX9_cashMore_13 (by omega) ?_
  have hG := okR_wL (k := 554) (j := k) (x := (0 : Int64)) hG (w1_eqL rfl)
  generalize upL lv (554) (k) ((0 : Int64)) = lv at hG ⊢
  exact z_vret zh dX9_cashMore_14 (⟨rfl, hG⟩)
set_option maxRecDepth 20000 in
theorem c_y_canSet0 (g : GE) {v : Int32} {iv : Iv} {lv : Lv} {dd : Nat → Nat} {dm : Nat}  (hG : OkR dd dm iv lv) : ConIp g yX9_canSet cX9_canSet 3 (some .boolean) 2 [rf g 551, .int (nI 0), .int v] iv lv (bi (Rg (nI 2) (nI 12) v)) := by
  refine con_intro (own := "RollingNetsModel") (by decide +kernel) rfl (Nat.le_of_ble_eq_true rfl) (L0 := [some (rf g 551), some (.int (nI 0)), some (.int v)]) rfl (fun Z zh => ?_)
  refine z_iloadn zh dX9_canSet_0 rfl ?_
  refine z_if_ne_N (tgt := 31) zh (by decide) dX9_canSet_1 rfl (fun q => absurd q (by decide)) (fun _ => ?_)
  refine z_aloadnR zh dX9_canSet_4 rfl ?_
  refine z_iloadn zh dX9_canSet_5 rfl ?_
  refine z_iconst zh dX9_canSet_6 ki_2 ?_
  refine z_bipush zh dX9_canSet_7 kb_12 ?_
  refine z_callVIp zh mv_Y_79 dX9_canSet_9 ck_Y rfl (c_y_isIn g) ⟨Nat.le_of_ble_eq_true rfl, Nat.le_of_ble_eq_true rfl⟩ rfl rfl (Nat.le_of_ble_eq_true rfl) ?_
  refine z_if_eq_B (tgt := 29) zh dX9_canSet_12 rfl (fun hp1 => ?_) (fun hp1 => ?_)
  · refine z_iconst zh dX9_canSet_29 ki_0 ?_
    exact z_zret zh dX9_canSet_30 (Or.inl rfl) (qI (by first | rfl | simp (decide := true) only [sel_t, sel_f, selL_t, selL_f, bi_t, bi_f, sel_same, selL_same, eq_self, hp1]))
  · refine z_aloadnR zh dX9_canSet_15 rfl ?_
    refine z_getf zh fl_Y_7 dX9_canSet_16 ck_Y rfl rfl ?_
    refine z_bipush zh dX9_canSet_19 kb_7 ?_
    refine z_ialdE (x := nI 0) zh ck_now dX9_canSet_21 (by decide) (r1_now hG (by decide)) ?_
    refine z_if_ne_N (tgt := 29) zh (by decide) dX9_canSet_22 rfl (fun q => absurd q (by decide)) (fun _ => ?_)
    refine z_iconst zh dX9_canSet_25 ki_1 ?_
    refine z_goto (tgt := 30) zh dX9_canSet_26 rfl ?_
    exact z_zret zh dX9_canSet_30 (Or.inr rfl) (qI (by first | rfl | simp (decide := true) only [sel_t, sel_f, selL_t, selL_f, bi_t, bi_f, sel_same, selL_same, eq_self, hp1]))
set_option maxRecDepth 20000 in
theorem c_y_firstOf0 (g : GE)  {iv : Iv} {lv : Lv}    : ConIp g yX9_firstOf cX9_firstOf 2 (some .int) 1 [rf g 551, .int (nI 0)] iv lv (nI 6) := by
  refine con_intro (own := "RollingNetsModel") (by decide +kernel) rfl (Nat.le_of_ble_eq_true rfl) (L0 := [some (rf g 551), some (.int (nI 0))]) rfl (fun Z zh => ?_)
  refine z_iloadn zh dX9_firstOf_0 rfl ?_
  refine z_if_ne_N (tgt := 9) zh (by decide) dX9_firstOf_1 rfl (fun q => absurd q (by decide)) (fun _ => ?_)
  refine z_bipush zh dX9_firstOf_4 kb_6 ?_
  refine z_goto (tgt := 43) zh dX9_firstOf_6 rfl ?_
  exact z_iret zh dX9_firstOf_43 (qI rfl)
set_option maxRecDepth 20000 in
theorem c_y_settingOf0 (g : GE)  {iv : Iv} {lv : Lv}  (hv : iv 552 0 = nI 0)  : ConIp g yX9_settingOf cX9_settingOf 2 (some .int) 2 [rf g 551, .int (nI 0)] iv lv (nI 6) := by
  refine con_intro (own := "RollingNetsModel") (by decide +kernel) rfl (Nat.le_of_ble_eq_true rfl) (L0 := [some (rf g 551), some (.int (nI 0))]) rfl (fun Z zh => ?_)
  refine z_aloadnR zh dX9_settingOf_0 rfl ?_
  refine z_getf zh fl_Y_7 dX9_settingOf_1 ck_Y rfl rfl ?_
  refine z_iloadn zh dX9_settingOf_4 rfl ?_
  refine z_ialdE (x := nI 0) zh ck_now dX9_settingOf_5 (by decide) hv ?_
  refine z_aloadnR zh dX9_settingOf_6 rfl ?_
  refine z_iloadn zh dX9_settingOf_7 rfl ?_
  refine z_callVIp zh mv_Y_83 dX9_settingOf_8 ck_Y rfl (c_y_firstOf0 g) ⟨Nat.le_of_ble_eq_true rfl, Nat.le_of_ble_eq_true rfl⟩ rfl rfl (Nat.le_of_ble_eq_true rfl) ?_
  refine z_iaddN zh dX9_settingOf_11 ?_
  exact z_iret zh dX9_settingOf_12 (qI rfl)
set_option maxRecDepth 20000 in
theorem c_y_set0 (g : GE) {v : Int32} {iv : Iv} {lv : Lv} {dd : Nat → Nat} {dm : Nat}  (hG : OkR dd dm iv lv) : ConI g yX9_set cX9_set 3 (some .boolean) 3 [rf g 551, .int (nI 0), .int v] iv lv (fun r _ _ => r = bi (Rg (nI 2) (nI 12) v)) := by
  refine con_intro (own := "RollingNetsModel") (by decide +kernel) rfl (Nat.le_of_ble_eq_true rfl) (L0 := [some (rf g 551), some (.int (nI 0)), some (.int v)]) rfl (fun Z zh => ?_)
  refine z_aloadnR zh dX9_set_0 rfl ?_
  refine z_iconst zh dX9_set_1 ki_0 ?_
  refine z_putI zh fl_Y_58 dX9_set_2 ck_Y rfl rfl (Nat.le_of_ble_eq_true rfl) (Or.inl rfl) ?_
  have hG := okR_wI (k := 551) (j := 0) (x := nI 0) hG (w1_no rfl)
  generalize upI iv (551) (0) (nI 0) = iv at hG ⊢
  refine z_aloadnR zh dX9_set_5 rfl ?_
  refine z_iloadn zh dX9_set_6 rfl ?_
  refine z_iloadn zh dX9_set_7 rfl ?_
  refine z_callVIp zh mv_Y_87 dX9_set_8 ck_Y rfl (c_y_canSet0 g hG) ⟨Nat.le_of_ble_eq_true rfl, Nat.le_of_ble_eq_true rfl⟩ rfl rfl (Nat.le_of_ble_eq_true rfl) ?_
  refine z_if_ne_B (tgt := 16) zh dX9_set_11 rfl (fun hp1 => ?_) (fun hp1 => ?_)
  · refine z_iloadn zh dX9_set_16 rfl ?_
    refine z_bipush zh dX9_set_17 kb_6 ?_
    refine z_icmp_ne_N (tgt := 33) zh (by decide) (by decide) dX9_set_19 rfl (fun _ => ?_) (fun q => absurd q (by decide))
    refine z_aloadnR zh dX9_set_33 rfl ?_
    refine z_getf zh fl_Y_7 dX9_set_34 ck_Y rfl rfl ?_
    refine z_iloadn zh dX9_set_37 rfl ?_
    refine z_iloadn zh dX9_set_38 rfl ?_
    refine z_aloadnR zh dX9_set_39 rfl ?_
    refine z_iloadn zh dX9_set_40 rfl ?_
    refine z_callVIp zh mv_Y_83 dX9_set_41 ck_Y rfl (c_y_firstOf0 g) ⟨Nat.le_of_ble_eq_true rfl, Nat.le_of_ble_eq_true rfl⟩ rfl rfl (Nat.le_of_ble_eq_true rfl) ?_
    refine z_isub zh dX9_set_44 ?_
    refine z_iastN zh ck_now dX9_set_45 (by decide) ?_
    refine z_iconst zh dX9_set_46 ki_1 ?_
    exact z_zret zh dX9_set_47 (Or.inr rfl) (⟨_, rfl, (by first | rfl | simp (decide := true) only [sel_t, sel_f, selL_t, selL_f, bi_t, bi_f, sel_same, selL_same, eq_self, hp1])⟩)
  · refine z_iconst zh dX9_set_14 ki_0 ?_
    exact z_zret zh dX9_set_15 (Or.inl rfl) (⟨_, rfl, (by first | rfl | simp (decide := true) only [sel_t, sel_f, selL_t, selL_f, bi_t, bi_f, sel_same, selL_same, eq_self, hp1])⟩)
set_option maxRecDepth 20000 in
theorem c_y_canSet1 (g : GE) {v : Int32} {iv : Iv} {lv : Lv} {dd : Nat → Nat} {dm : Nat}  (hG : OkR dd dm iv lv) : ConIp g yX9_canSet cX9_canSet 3 (some .boolean) 2 [rf g 551, .int (nI 1), .int v] iv lv (bi (Rg (nI 0) (nI 3) v)) := by
  refine con_intro (own := "RollingNetsModel") (by decide +kernel) rfl (Nat.le_of_ble_eq_true rfl) (L0 := [some (rf g 551), some (.int (nI 1)), some (.int v)]) rfl (fun Z zh => ?_)
  refine z_iloadn zh dX9_canSet_0 rfl ?_
  refine z_if_ne_N (tgt := 31) zh (by decide) dX9_canSet_1 rfl (fun _ => ?_) (fun q => absurd q (by decide))
  refine z_iloadn zh dX9_canSet_31 rfl ?_
  refine z_iconst zh dX9_canSet_32 ki_1 ?_
  refine z_icmp_ne_N (tgt := 44) zh (by decide) (by decide) dX9_canSet_33 rfl (fun q => absurd q (by decide)) (fun _ => ?_)
  refine z_aloadnR zh dX9_canSet_36 rfl ?_
  refine z_iloadn zh dX9_canSet_37 rfl ?_
  refine z_iconst zh dX9_canSet_38 ki_0 ?_
  refine z_iconst zh dX9_canSet_39 ki_3 ?_
  refine z_callVIp zh mv_Y_79 dX9_canSet_40 ck_Y rfl (c_y_isIn g) ⟨Nat.le_of_ble_eq_true rfl, Nat.le_of_ble_eq_true rfl⟩ rfl rfl (Nat.le_of_ble_eq_true rfl) ?_
  exact z_zret zh dX9_canSet_43 (bi_01 _) (qI rfl)
set_option maxRecDepth 20000 in
theorem c_y_firstOf1 (g : GE)  {iv : Iv} {lv : Lv}    : ConIp g yX9_firstOf cX9_firstOf 2 (some .int) 1 [rf g 551, .int (nI 1)] iv lv (nI 2) := by
  refine con_intro (own := "RollingNetsModel") (by decide +kernel) rfl (Nat.le_of_ble_eq_true rfl) (L0 := [some (rf g 551), some (.int (nI 1))]) rfl (fun Z zh => ?_)
  refine z_iloadn zh dX9_firstOf_0 rfl ?_
  refine z_if_ne_N (tgt := 9) zh (by decide) dX9_firstOf_1 rfl (fun _ => ?_) (fun q => absurd q (by decide))
  refine z_iloadn zh dX9_firstOf_9 rfl ?_
  refine z_iconst zh dX9_firstOf_10 ki_1 ?_
  refine z_icmp_eq_N (tgt := 19) zh (by decide) (by decide) dX9_firstOf_11 rfl (fun _ => ?_) (fun q => absurd q (by decide))
  refine z_iconst zh dX9_firstOf_19 ki_2 ?_
  refine z_goto (tgt := 43) zh dX9_firstOf_20 rfl ?_
  exact z_iret zh dX9_firstOf_43 (qI rfl)
set_option maxRecDepth 20000 in
theorem c_y_settingOf1 (g : GE)  {iv : Iv} {lv : Lv}  (hv : iv 552 1 = nI 0)  : ConIp g yX9_settingOf cX9_settingOf 2 (some .int) 2 [rf g 551, .int (nI 1)] iv lv (nI 2) := by
  refine con_intro (own := "RollingNetsModel") (by decide +kernel) rfl (Nat.le_of_ble_eq_true rfl) (L0 := [some (rf g 551), some (.int (nI 1))]) rfl (fun Z zh => ?_)
  refine z_aloadnR zh dX9_settingOf_0 rfl ?_
  refine z_getf zh fl_Y_7 dX9_settingOf_1 ck_Y rfl rfl ?_
  refine z_iloadn zh dX9_settingOf_4 rfl ?_
  refine z_ialdE (x := nI 0) zh ck_now dX9_settingOf_5 (by decide) hv ?_
  refine z_aloadnR zh dX9_settingOf_6 rfl ?_
  refine z_iloadn zh dX9_settingOf_7 rfl ?_
  refine z_callVIp zh mv_Y_83 dX9_settingOf_8 ck_Y rfl (c_y_firstOf1 g) ⟨Nat.le_of_ble_eq_true rfl, Nat.le_of_ble_eq_true rfl⟩ rfl rfl (Nat.le_of_ble_eq_true rfl) ?_
  refine z_iaddN zh dX9_settingOf_11 ?_
  exact z_iret zh dX9_settingOf_12 (qI rfl)
set_option maxRecDepth 20000 in
theorem c_y_set1 (g : GE) {v : Int32} {iv : Iv} {lv : Lv} {dd : Nat → Nat} {dm : Nat}  (hG : OkR dd dm iv lv) : ConI g yX9_set cX9_set 3 (some .boolean) 3 [rf g 551, .int (nI 1), .int v] iv lv (fun r _ _ => r = bi (Rg (nI 0) (nI 3) v)) := by
  refine con_intro (own := "RollingNetsModel") (by decide +kernel) rfl (Nat.le_of_ble_eq_true rfl) (L0 := [some (rf g 551), some (.int (nI 1)), some (.int v)]) rfl (fun Z zh => ?_)
  refine z_aloadnR zh dX9_set_0 rfl ?_
  refine z_iconst zh dX9_set_1 ki_0 ?_
  refine z_putI zh fl_Y_58 dX9_set_2 ck_Y rfl rfl (Nat.le_of_ble_eq_true rfl) (Or.inl rfl) ?_
  have hG := okR_wI (k := 551) (j := 0) (x := nI 0) hG (w1_no rfl)
  generalize upI iv (551) (0) (nI 0) = iv at hG ⊢
  refine z_aloadnR zh dX9_set_5 rfl ?_
  refine z_iloadn zh dX9_set_6 rfl ?_
  refine z_iloadn zh dX9_set_7 rfl ?_
  refine z_callVIp zh mv_Y_87 dX9_set_8 ck_Y rfl (c_y_canSet1 g hG) ⟨Nat.le_of_ble_eq_true rfl, Nat.le_of_ble_eq_true rfl⟩ rfl rfl (Nat.le_of_ble_eq_true rfl) ?_
  refine z_if_ne_B (tgt := 16) zh dX9_set_11 rfl (fun hp1 => ?_) (fun hp1 => ?_)
  · refine z_iloadn zh dX9_set_16 rfl ?_
    refine z_bipush zh dX9_set_17 kb_6 ?_
    refine z_icmp_ne_N (tgt := 33) zh (by decide) (by decide) dX9_set_19 rfl (fun _ => ?_) (fun q => absurd q (by decide))
    refine z_aloadnR zh dX9_set_33 rfl ?_
    refine z_getf zh fl_Y_7 dX9_set_34 ck_Y rfl rfl ?_
    refine z_iloadn zh dX9_set_37 rfl ?_
    refine z_iloadn zh dX9_set_38 rfl ?_
    refine z_aloadnR zh dX9_set_39 rfl ?_
    refine z_iloadn zh dX9_set_40 rfl ?_
    refine z_callVIp zh mv_Y_83 dX9_set_41 ck_Y rfl (c_y_firstOf1 g) ⟨Nat.le_of_ble_eq_true rfl, Nat.le_of_ble_eq_true rfl⟩ rfl rfl (Nat.le_of_ble_eq_true rfl) ?_
    refine z_isub zh dX9_set_44 ?_
    refine z_iastN zh ck_now dX9_set_45 (by decide) ?_
    refine z_iconst zh dX9_set_46 ki_1 ?_
    exact z_zret zh dX9_set_47 (Or.inr rfl) (⟨_, rfl, (by first | rfl | simp (decide := true) only [sel_t, sel_f, selL_t, selL_f, bi_t, bi_f, sel_same, selL_same, eq_self, hp1])⟩)
  · refine z_iconst zh dX9_set_14 ki_0 ?_
    exact z_zret zh dX9_set_15 (Or.inl rfl) (⟨_, rfl, (by first | rfl | simp (decide := true) only [sel_t, sel_f, selL_t, selL_f, bi_t, bi_f, sel_same, selL_same, eq_self, hp1])⟩)
set_option maxRecDepth 20000 in
theorem c_y_canSet2 (g : GE) {v : Int32} {iv : Iv} {lv : Lv} {dd : Nat → Nat} {dm : Nat}  (hG : OkR dd dm iv lv) : ConIp g yX9_canSet cX9_canSet 3 (some .boolean) 2 [rf g 551, .int (nI 2), .int v] iv lv (bi (Rg (nI 1) (nI 9) v)) := by
  refine con_intro (own := "RollingNetsModel") (by decide +kernel) rfl (Nat.le_of_ble_eq_true rfl) (L0 := [some (rf g 551), some (.int (nI 2)), some (.int v)]) rfl (fun Z zh => ?_)
  refine z_iloadn zh dX9_canSet_0 rfl ?_
  refine z_if_ne_N (tgt := 31) zh (by decide) dX9_canSet_1 rfl (fun _ => ?_) (fun q => absurd q (by decide))
  refine z_iloadn zh dX9_canSet_31 rfl ?_
  refine z_iconst zh dX9_canSet_32 ki_1 ?_
  refine z_icmp_ne_N (tgt := 44) zh (by decide) (by decide) dX9_canSet_33 rfl (fun _ => ?_) (fun q => absurd q (by decide))
  refine z_iloadn zh dX9_canSet_44 rfl ?_
  refine z_iconst zh dX9_canSet_45 ki_2 ?_
  refine z_icmp_eq_N (tgt := 54) zh (by decide) (by decide) dX9_canSet_46 rfl (fun _ => ?_) (fun q => absurd q (by decide))
  refine z_aloadnR zh dX9_canSet_54 rfl ?_
  refine z_iloadn zh dX9_canSet_55 rfl ?_
  refine z_iconst zh dX9_canSet_56 ki_1 ?_
  refine z_bipush zh dX9_canSet_57 kb_9 ?_
  refine z_callVIp zh mv_Y_79 dX9_canSet_59 ck_Y rfl (c_y_isIn g) ⟨Nat.le_of_ble_eq_true rfl, Nat.le_of_ble_eq_true rfl⟩ rfl rfl (Nat.le_of_ble_eq_true rfl) ?_
  exact z_zret zh dX9_canSet_62 (bi_01 _) (qI rfl)
set_option maxRecDepth 20000 in
theorem c_y_firstOf2 (g : GE)  {iv : Iv} {lv : Lv}    : ConIp g yX9_firstOf cX9_firstOf 2 (some .int) 1 [rf g 551, .int (nI 2)] iv lv (nI 2) := by
  refine con_intro (own := "RollingNetsModel") (by decide +kernel) rfl (Nat.le_of_ble_eq_true rfl) (L0 := [some (rf g 551), some (.int (nI 2))]) rfl (fun Z zh => ?_)
  refine z_iloadn zh dX9_firstOf_0 rfl ?_
  refine z_if_ne_N (tgt := 9) zh (by decide) dX9_firstOf_1 rfl (fun _ => ?_) (fun q => absurd q (by decide))
  refine z_iloadn zh dX9_firstOf_9 rfl ?_
  refine z_iconst zh dX9_firstOf_10 ki_1 ?_
  refine z_icmp_eq_N (tgt := 19) zh (by decide) (by decide) dX9_firstOf_11 rfl (fun q => absurd q (by decide)) (fun _ => ?_)
  refine z_iloadn zh dX9_firstOf_14 rfl ?_
  refine z_iconst zh dX9_firstOf_15 ki_2 ?_
  refine z_icmp_ne_N (tgt := 23) zh (by decide) (by decide) dX9_firstOf_16 rfl (fun q => absurd q (by decide)) (fun _ => ?_)
  refine z_iconst zh dX9_firstOf_19 ki_2 ?_
  refine z_goto (tgt := 43) zh dX9_firstOf_20 rfl ?_
  exact z_iret zh dX9_firstOf_43 (qI rfl)
set_option maxRecDepth 20000 in
theorem c_y_settingOf2 (g : GE)  {iv : Iv} {lv : Lv}  (hv : iv 552 2 = nI 0)  : ConIp g yX9_settingOf cX9_settingOf 2 (some .int) 2 [rf g 551, .int (nI 2)] iv lv (nI 2) := by
  refine con_intro (own := "RollingNetsModel") (by decide +kernel) rfl (Nat.le_of_ble_eq_true rfl) (L0 := [some (rf g 551), some (.int (nI 2))]) rfl (fun Z zh => ?_)
  refine z_aloadnR zh dX9_settingOf_0 rfl ?_
  refine z_getf zh fl_Y_7 dX9_settingOf_1 ck_Y rfl rfl ?_
  refine z_iloadn zh dX9_settingOf_4 rfl ?_
  refine z_ialdE (x := nI 0) zh ck_now dX9_settingOf_5 (by decide) hv ?_
  refine z_aloadnR zh dX9_settingOf_6 rfl ?_
  refine z_iloadn zh dX9_settingOf_7 rfl ?_
  refine z_callVIp zh mv_Y_83 dX9_settingOf_8 ck_Y rfl (c_y_firstOf2 g) ⟨Nat.le_of_ble_eq_true rfl, Nat.le_of_ble_eq_true rfl⟩ rfl rfl (Nat.le_of_ble_eq_true rfl) ?_
  refine z_iaddN zh dX9_settingOf_11 ?_
  exact z_iret zh dX9_settingOf_12 (qI rfl)
set_option maxRecDepth 20000 in
theorem c_y_set2 (g : GE) {v : Int32} {iv : Iv} {lv : Lv} {dd : Nat → Nat} {dm : Nat}  (hG : OkR dd dm iv lv) : ConI g yX9_set cX9_set 3 (some .boolean) 3 [rf g 551, .int (nI 2), .int v] iv lv (fun r _ _ => r = bi (Rg (nI 1) (nI 9) v)) := by
  refine con_intro (own := "RollingNetsModel") (by decide +kernel) rfl (Nat.le_of_ble_eq_true rfl) (L0 := [some (rf g 551), some (.int (nI 2)), some (.int v)]) rfl (fun Z zh => ?_)
  refine z_aloadnR zh dX9_set_0 rfl ?_
  refine z_iconst zh dX9_set_1 ki_0 ?_
  refine z_putI zh fl_Y_58 dX9_set_2 ck_Y rfl rfl (Nat.le_of_ble_eq_true rfl) (Or.inl rfl) ?_
  have hG := okR_wI (k := 551) (j := 0) (x := nI 0) hG (w1_no rfl)
  generalize upI iv (551) (0) (nI 0) = iv at hG ⊢
  refine z_aloadnR zh dX9_set_5 rfl ?_
  refine z_iloadn zh dX9_set_6 rfl ?_
  refine z_iloadn zh dX9_set_7 rfl ?_
  refine z_callVIp zh mv_Y_87 dX9_set_8 ck_Y rfl (c_y_canSet2 g hG) ⟨Nat.le_of_ble_eq_true rfl, Nat.le_of_ble_eq_true rfl⟩ rfl rfl (Nat.le_of_ble_eq_true rfl) ?_
  refine z_if_ne_B (tgt := 16) zh dX9_set_11 rfl (fun hp1 => ?_) (fun hp1 => ?_)
  · refine z_iloadn zh dX9_set_16 rfl ?_
    refine z_bipush zh dX9_set_17 kb_6 ?_
    refine z_icmp_ne_N (tgt := 33) zh (by decide) (by decide) dX9_set_19 rfl (fun _ => ?_) (fun q => absurd q (by decide))
    refine z_aloadnR zh dX9_set_33 rfl ?_
    refine z_getf zh fl_Y_7 dX9_set_34 ck_Y rfl rfl ?_
    refine z_iloadn zh dX9_set_37 rfl ?_
    refine z_iloadn zh dX9_set_38 rfl ?_
    refine z_aloadnR zh dX9_set_39 rfl ?_
    refine z_iloadn zh dX9_set_40 rfl ?_
    refine z_callVIp zh mv_Y_83 dX9_set_41 ck_Y rfl (c_y_firstOf2 g) ⟨Nat.le_of_ble_eq_true rfl, Nat.le_of_ble_eq_true rfl⟩ rfl rfl (Nat.le_of_ble_eq_true rfl) ?_
    refine z_isub zh dX9_set_44 ?_
    refine z_iastN zh ck_now dX9_set_45 (by decide) ?_
    refine z_iconst zh dX9_set_46 ki_1 ?_
    exact z_zret zh dX9_set_47 (Or.inr rfl) (⟨_, rfl, (by first | rfl | simp (decide := true) only [sel_t, sel_f, selL_t, selL_f, bi_t, bi_f, sel_same, selL_same, eq_self, hp1])⟩)
  · refine z_iconst zh dX9_set_14 ki_0 ?_
    exact z_zret zh dX9_set_15 (Or.inl rfl) (⟨_, rfl, (by first | rfl | simp (decide := true) only [sel_t, sel_f, selL_t, selL_f, bi_t, bi_f, sel_same, selL_same, eq_self, hp1])⟩)
set_option maxRecDepth 20000 in
theorem c_y_canSet3 (g : GE) {v : Int32} {iv : Iv} {lv : Lv} {dd : Nat → Nat} {dm : Nat}  (hG : OkR dd dm iv lv) : ConIp g yX9_canSet cX9_canSet 3 (some .boolean) 2 [rf g 551, .int (nI 3), .int v] iv lv (bi (Rg (nI 1) (nI 9) v)) := by
  refine con_intro (own := "RollingNetsModel") (by decide +kernel) rfl (Nat.le_of_ble_eq_true rfl) (L0 := [some (rf g 551), some (.int (nI 3)), some (.int v)]) rfl (fun Z zh => ?_)
  refine z_iloadn zh dX9_canSet_0 rfl ?_
  refine z_if_ne_N (tgt := 31) zh (by decide) dX9_canSet_1 rfl (fun _ => ?_) (fun q => absurd q (by decide))
  refine z_iloadn zh dX9_canSet_31 rfl ?_
  refine z_iconst zh dX9_canSet_32 ki_1 ?_
  refine z_icmp_ne_N (tgt := 44) zh (by decide) (by decide) dX9_canSet_33 rfl (fun _ => ?_) (fun q => absurd q (by decide))
  refine z_iloadn zh dX9_canSet_44 rfl ?_
  refine z_iconst zh dX9_canSet_45 ki_2 ?_
  refine z_icmp_eq_N (tgt := 54) zh (by decide) (by decide) dX9_canSet_46 rfl (fun q => absurd q (by decide)) (fun _ => ?_)
  refine z_iloadn zh dX9_canSet_49 rfl ?_
  refine z_iconst zh dX9_canSet_50 ki_3 ?_
  refine z_icmp_ne_N (tgt := 63) zh (by decide) (by decide) dX9_canSet_51 rfl (fun q => absurd q (by decide)) (fun _ => ?_)
  refine z_aloadnR zh dX9_canSet_54 rfl ?_
  refine z_iloadn zh dX9_canSet_55 rfl ?_
  refine z_iconst zh dX9_canSet_56 ki_1 ?_
  refine z_bipush zh dX9_canSet_57 kb_9 ?_
  refine z_callVIp zh mv_Y_79 dX9_canSet_59 ck_Y rfl (c_y_isIn g) ⟨Nat.le_of_ble_eq_true rfl, Nat.le_of_ble_eq_true rfl⟩ rfl rfl (Nat.le_of_ble_eq_true rfl) ?_
  exact z_zret zh dX9_canSet_62 (bi_01 _) (qI rfl)
set_option maxRecDepth 20000 in
theorem c_y_firstOf3 (g : GE)  {iv : Iv} {lv : Lv}    : ConIp g yX9_firstOf cX9_firstOf 2 (some .int) 1 [rf g 551, .int (nI 3)] iv lv (nI 3) := by
  refine con_intro (own := "RollingNetsModel") (by decide +kernel) rfl (Nat.le_of_ble_eq_true rfl) (L0 := [some (rf g 551), some (.int (nI 3))]) rfl (fun Z zh => ?_)
  refine z_iloadn zh dX9_firstOf_0 rfl ?_
  refine z_if_ne_N (tgt := 9) zh (by decide) dX9_firstOf_1 rfl (fun _ => ?_) (fun q => absurd q (by decide))
  refine z_iloadn zh dX9_firstOf_9 rfl ?_
  refine z_iconst zh dX9_firstOf_10 ki_1 ?_
  refine z_icmp_eq_N (tgt := 19) zh (by decide) (by decide) dX9_firstOf_11 rfl (fun q => absurd q (by decide)) (fun _ => ?_)
  refine z_iloadn zh dX9_firstOf_14 rfl ?_
  refine z_iconst zh dX9_firstOf_15 ki_2 ?_
  refine z_icmp_ne_N (tgt := 23) zh (by decide) (by decide) dX9_firstOf_16 rfl (fun _ => ?_) (fun q => absurd q (by decide))
  refine z_iloadn zh dX9_firstOf_23 rfl ?_
  refine z_iconst zh dX9_firstOf_24 ki_3 ?_
  refine z_icmp_ne_N (tgt := 32) zh (by decide) (by decide) dX9_firstOf_25 rfl (fun q => absurd q (by decide)) (fun _ => ?_)
  refine z_iconst zh dX9_firstOf_28 ki_3 ?_
  refine z_goto (tgt := 43) zh dX9_firstOf_29 rfl ?_
  exact z_iret zh dX9_firstOf_43 (qI rfl)
set_option maxRecDepth 20000 in
theorem c_y_settingOf3 (g : GE)  {iv : Iv} {lv : Lv}  (hv : iv 552 3 = nI 0)  : ConIp g yX9_settingOf cX9_settingOf 2 (some .int) 2 [rf g 551, .int (nI 3)] iv lv (nI 3) := by
  refine con_intro (own := "RollingNetsModel") (by decide +kernel) rfl (Nat.le_of_ble_eq_true rfl) (L0 := [some (rf g 551), some (.int (nI 3))]) rfl (fun Z zh => ?_)
  refine z_aloadnR zh dX9_settingOf_0 rfl ?_
  refine z_getf zh fl_Y_7 dX9_settingOf_1 ck_Y rfl rfl ?_
  refine z_iloadn zh dX9_settingOf_4 rfl ?_
  refine z_ialdE (x := nI 0) zh ck_now dX9_settingOf_5 (by decide) hv ?_
  refine z_aloadnR zh dX9_settingOf_6 rfl ?_
  refine z_iloadn zh dX9_settingOf_7 rfl ?_
  refine z_callVIp zh mv_Y_83 dX9_settingOf_8 ck_Y rfl (c_y_firstOf3 g) ⟨Nat.le_of_ble_eq_true rfl, Nat.le_of_ble_eq_true rfl⟩ rfl rfl (Nat.le_of_ble_eq_true rfl) ?_
  refine z_iaddN zh dX9_settingOf_11 ?_
  exact z_iret zh dX9_settingOf_12 (qI rfl)
set_option maxRecDepth 20000 in
theorem c_y_set3 (g : GE) {v : Int32} {iv : Iv} {lv : Lv} {dd : Nat → Nat} {dm : Nat}  (hG : OkR dd dm iv lv) : ConI g yX9_set cX9_set 3 (some .boolean) 3 [rf g 551, .int (nI 3), .int v] iv lv (fun r _ _ => r = bi (Rg (nI 1) (nI 9) v)) := by
  refine con_intro (own := "RollingNetsModel") (by decide +kernel) rfl (Nat.le_of_ble_eq_true rfl) (L0 := [some (rf g 551), some (.int (nI 3)), some (.int v)]) rfl (fun Z zh => ?_)
  refine z_aloadnR zh dX9_set_0 rfl ?_
  refine z_iconst zh dX9_set_1 ki_0 ?_
  refine z_putI zh fl_Y_58 dX9_set_2 ck_Y rfl rfl (Nat.le_of_ble_eq_true rfl) (Or.inl rfl) ?_
  have hG := okR_wI (k := 551) (j := 0) (x := nI 0) hG (w1_no rfl)
  generalize upI iv (551) (0) (nI 0) = iv at hG ⊢
  refine z_aloadnR zh dX9_set_5 rfl ?_
  refine z_iloadn zh dX9_set_6 rfl ?_
  refine z_iloadn zh dX9_set_7 rfl ?_
  refine z_callVIp zh mv_Y_87 dX9_set_8 ck_Y rfl (c_y_canSet3 g hG) ⟨Nat.le_of_ble_eq_true rfl, Nat.le_of_ble_eq_true rfl⟩ rfl rfl (Nat.le_of_ble_eq_true rfl) ?_
  refine z_if_ne_B (tgt := 16) zh dX9_set_11 rfl (fun hp1 => ?_) (fun hp1 => ?_)
  · refine z_iloadn zh dX9_set_16 rfl ?_
    refine z_bipush zh dX9_set_17 kb_6 ?_
    refine z_icmp_ne_N (tgt := 33) zh (by decide) (by decide) dX9_set_19 rfl (fun _ => ?_) (fun q => absurd q (by decide))
    refine z_aloadnR zh dX9_set_33 rfl ?_
    refine z_getf zh fl_Y_7 dX9_set_34 ck_Y rfl rfl ?_
    refine z_iloadn zh dX9_set_37 rfl ?_
    refine z_iloadn zh dX9_set_38 rfl ?_
    refine z_aloadnR zh dX9_set_39 rfl ?_
    refine z_iloadn zh dX9_set_40 rfl ?_
    refine z_callVIp zh mv_Y_83 dX9_set_41 ck_Y rfl (c_y_firstOf3 g) ⟨Nat.le_of_ble_eq_true rfl, Nat.le_of_ble_eq_true rfl⟩ rfl rfl (Nat.le_of_ble_eq_true rfl) ?_
    refine z_isub zh dX9_set_44 ?_
    refine z_iastN zh ck_now dX9_set_45 (by decide) ?_
    refine z_iconst zh dX9_set_46 ki_1 ?_
    exact z_zret zh dX9_set_47 (Or.inr rfl) (⟨_, rfl, (by first | rfl | simp (decide := true) only [sel_t, sel_f, selL_t, selL_f, bi_t, bi_f, sel_same, selL_same, eq_self, hp1])⟩)
  · refine z_iconst zh dX9_set_14 ki_0 ?_
    exact z_zret zh dX9_set_15 (Or.inl rfl) (⟨_, rfl, (by first | rfl | simp (decide := true) only [sel_t, sel_f, selL_t, selL_f, bi_t, bi_f, sel_same, selL_same, eq_self, hp1])⟩)
set_option maxRecDepth 20000 in
theorem c_y_canSet4 (g : GE) {v : Int32} {iv : Iv} {lv : Lv} {dd : Nat → Nat} {dm : Nat}  (hG : OkR dd dm iv lv) : ConIp g yX9_canSet cX9_canSet 3 (some .boolean) 2 [rf g 551, .int (nI 4), .int v] iv lv (bi (Rg (nI 0) (nI 5) v)) := by
  refine con_intro (own := "RollingNetsModel") (by decide +kernel) rfl (Nat.le_of_ble_eq_true rfl) (L0 := [some (rf g 551), some (.int (nI 4)), some (.int v)]) rfl (fun Z zh => ?_)
  refine z_iloadn zh dX9_canSet_0 rfl ?_
  refine z_if_ne_N (tgt := 31) zh (by decide) dX9_canSet_1 rfl (fun _ => ?_) (fun q => absurd q (by decide))
  refine z_iloadn zh dX9_canSet_31 rfl ?_
  refine z_iconst zh dX9_canSet_32 ki_1 ?_
  refine z_icmp_ne_N (tgt := 44) zh (by decide) (by decide) dX9_canSet_33 rfl (fun _ => ?_) (fun q => absurd q (by decide))
  refine z_iloadn zh dX9_canSet_44 rfl ?_
  refine z_iconst zh dX9_canSet_45 ki_2 ?_
  refine z_icmp_eq_N (tgt := 54) zh (by decide) (by decide) dX9_canSet_46 rfl (fun q => absurd q (by decide)) (fun _ => ?_)
  refine z_iloadn zh dX9_canSet_49 rfl ?_
  refine z_iconst zh dX9_canSet_50 ki_3 ?_
  refine z_icmp_ne_N (tgt := 63) zh (by decide) (by decide) dX9_canSet_51 rfl (fun _ => ?_) (fun q => absurd q (by decide))
  refine z_iloadn zh dX9_canSet_63 rfl ?_
  refine z_iconst zh dX9_canSet_64 ki_4 ?_
  refine z_icmp_ne_N (tgt := 78) zh (by decide) (by decide) dX9_canSet_65 rfl (fun q => absurd q (by decide)) (fun _ => ?_)
  refine z_aloadnR zh dX9_canSet_68 rfl ?_
  refine z_iloadn zh dX9_canSet_69 rfl ?_
  refine z_iconst zh dX9_canSet_70 ki_0 ?_
  refine z_iconst zh dX9_canSet_71 ki_5 ?_
  refine z_callVIp zh mv_Y_79 dX9_canSet_72 ck_Y rfl (c_y_isIn g) ⟨Nat.le_of_ble_eq_true rfl, Nat.le_of_ble_eq_true rfl⟩ rfl rfl (Nat.le_of_ble_eq_true rfl) ?_
  refine z_goto (tgt := 105) zh dX9_canSet_75 rfl ?_
  exact z_zret zh dX9_canSet_105 (bi_01 _) (qI rfl)
set_option maxRecDepth 20000 in
theorem c_y_firstOf4 (g : GE)  {iv : Iv} {lv : Lv}    : ConIp g yX9_firstOf cX9_firstOf 2 (some .int) 1 [rf g 551, .int (nI 4)] iv lv (nI 1) := by
  refine con_intro (own := "RollingNetsModel") (by decide +kernel) rfl (Nat.le_of_ble_eq_true rfl) (L0 := [some (rf g 551), some (.int (nI 4))]) rfl (fun Z zh => ?_)
  refine z_iloadn zh dX9_firstOf_0 rfl ?_
  refine z_if_ne_N (tgt := 9) zh (by decide) dX9_firstOf_1 rfl (fun _ => ?_) (fun q => absurd q (by decide))
  refine z_iloadn zh dX9_firstOf_9 rfl ?_
  refine z_iconst zh dX9_firstOf_10 ki_1 ?_
  refine z_icmp_eq_N (tgt := 19) zh (by decide) (by decide) dX9_firstOf_11 rfl (fun q => absurd q (by decide)) (fun _ => ?_)
  refine z_iloadn zh dX9_firstOf_14 rfl ?_
  refine z_iconst zh dX9_firstOf_15 ki_2 ?_
  refine z_icmp_ne_N (tgt := 23) zh (by decide) (by decide) dX9_firstOf_16 rfl (fun _ => ?_) (fun q => absurd q (by decide))
  refine z_iloadn zh dX9_firstOf_23 rfl ?_
  refine z_iconst zh dX9_firstOf_24 ki_3 ?_
  refine z_icmp_ne_N (tgt := 32) zh (by decide) (by decide) dX9_firstOf_25 rfl (fun _ => ?_) (fun q => absurd q (by decide))
  refine z_iloadn zh dX9_firstOf_32 rfl ?_
  refine z_iconst zh dX9_firstOf_33 ki_4 ?_
  refine z_icmp_ne_N (tgt := 41) zh (by decide) (by decide) dX9_firstOf_34 rfl (fun q => absurd q (by decide)) (fun _ => ?_)
  refine z_iconst zh dX9_firstOf_37 ki_1 ?_
  refine z_goto (tgt := 43) zh dX9_firstOf_38 rfl ?_
  exact z_iret zh dX9_firstOf_43 (qI rfl)
set_option maxRecDepth 20000 in
theorem c_y_settingOf4 (g : GE)  {iv : Iv} {lv : Lv}  (hv : iv 552 4 = nI 0)  : ConIp g yX9_settingOf cX9_settingOf 2 (some .int) 2 [rf g 551, .int (nI 4)] iv lv (nI 1) := by
  refine con_intro (own := "RollingNetsModel") (by decide +kernel) rfl (Nat.le_of_ble_eq_true rfl) (L0 := [some (rf g 551), some (.int (nI 4))]) rfl (fun Z zh => ?_)
  refine z_aloadnR zh dX9_settingOf_0 rfl ?_
  refine z_getf zh fl_Y_7 dX9_settingOf_1 ck_Y rfl rfl ?_
  refine z_iloadn zh dX9_settingOf_4 rfl ?_
  refine z_ialdE (x := nI 0) zh ck_now dX9_settingOf_5 (by decide) hv ?_
  refine z_aloadnR zh dX9_settingOf_6 rfl ?_
  refine z_iloadn zh dX9_settingOf_7 rfl ?_
  refine z_callVIp zh mv_Y_83 dX9_settingOf_8 ck_Y rfl (c_y_firstOf4 g) ⟨Nat.le_of_ble_eq_true rfl, Nat.le_of_ble_eq_true rfl⟩ rfl rfl (Nat.le_of_ble_eq_true rfl) ?_
  refine z_iaddN zh dX9_settingOf_11 ?_
  exact z_iret zh dX9_settingOf_12 (qI rfl)
set_option maxRecDepth 20000 in
theorem c_y_set4 (g : GE) {v : Int32} {iv : Iv} {lv : Lv} {dd : Nat → Nat} {dm : Nat}  (hG : OkR dd dm iv lv) : ConI g yX9_set cX9_set 3 (some .boolean) 3 [rf g 551, .int (nI 4), .int v] iv lv (fun r _ _ => r = bi (Rg (nI 0) (nI 5) v)) := by
  refine con_intro (own := "RollingNetsModel") (by decide +kernel) rfl (Nat.le_of_ble_eq_true rfl) (L0 := [some (rf g 551), some (.int (nI 4)), some (.int v)]) rfl (fun Z zh => ?_)
  refine z_aloadnR zh dX9_set_0 rfl ?_
  refine z_iconst zh dX9_set_1 ki_0 ?_
  refine z_putI zh fl_Y_58 dX9_set_2 ck_Y rfl rfl (Nat.le_of_ble_eq_true rfl) (Or.inl rfl) ?_
  have hG := okR_wI (k := 551) (j := 0) (x := nI 0) hG (w1_no rfl)
  generalize upI iv (551) (0) (nI 0) = iv at hG ⊢
  refine z_aloadnR zh dX9_set_5 rfl ?_
  refine z_iloadn zh dX9_set_6 rfl ?_
  refine z_iloadn zh dX9_set_7 rfl ?_
  refine z_callVIp zh mv_Y_87 dX9_set_8 ck_Y rfl (c_y_canSet4 g hG) ⟨Nat.le_of_ble_eq_true rfl, Nat.le_of_ble_eq_true rfl⟩ rfl rfl (Nat.le_of_ble_eq_true rfl) ?_
  refine z_if_ne_B (tgt := 16) zh dX9_set_11 rfl (fun hp1 => ?_) (fun hp1 => ?_)
  · refine z_iloadn zh dX9_set_16 rfl ?_
    refine z_bipush zh dX9_set_17 kb_6 ?_
    refine z_icmp_ne_N (tgt := 33) zh (by decide) (by decide) dX9_set_19 rfl (fun _ => ?_) (fun q => absurd q (by decide))
    refine z_aloadnR zh dX9_set_33 rfl ?_
    refine z_getf zh fl_Y_7 dX9_set_34 ck_Y rfl rfl ?_
    refine z_iloadn zh dX9_set_37 rfl ?_
    refine z_iloadn zh dX9_set_38 rfl ?_
    refine z_aloadnR zh dX9_set_39 rfl ?_
    refine z_iloadn zh dX9_set_40 rfl ?_
    refine z_callVIp zh mv_Y_83 dX9_set_41 ck_Y rfl (c_y_firstOf4 g) ⟨Nat.le_of_ble_eq_true rfl, Nat.le_of_ble_eq_true rfl⟩ rfl rfl (Nat.le_of_ble_eq_true rfl) ?_
    refine z_isub zh dX9_set_44 ?_
    refine z_iastN zh ck_now dX9_set_45 (by decide) ?_
    refine z_iconst zh dX9_set_46 ki_1 ?_
    exact z_zret zh dX9_set_47 (Or.inr rfl) (⟨_, rfl, (by first | rfl | simp (decide := true) only [sel_t, sel_f, selL_t, selL_f, bi_t, bi_f, sel_same, selL_same, eq_self, hp1])⟩)
  · refine z_iconst zh dX9_set_14 ki_0 ?_
    exact z_zret zh dX9_set_15 (Or.inl rfl) (⟨_, rfl, (by first | rfl | simp (decide := true) only [sel_t, sel_f, selL_t, selL_f, bi_t, bi_f, sel_same, selL_same, eq_self, hp1])⟩)
set_option maxRecDepth 20000 in
theorem c_y_canSet5 (g : GE) {v : Int32} {iv : Iv} {lv : Lv} {dd : Nat → Nat} {dm : Nat}  (hG : OkR dd dm iv lv) : ConIp g yX9_canSet cX9_canSet 3 (some .boolean) 2 [rf g 551, .int (nI 5), .int v] iv lv (bi (Rg (nI 0) (nI 100) v)) := by
  refine con_intro (own := "RollingNetsModel") (by decide +kernel) rfl (Nat.le_of_ble_eq_true rfl) (L0 := [some (rf g 551), some (.int (nI 5)), some (.int v)]) rfl (fun Z zh => ?_)
  refine z_iloadn zh dX9_canSet_0 rfl ?_
  refine z_if_ne_N (tgt := 31) zh (by decide) dX9_canSet_1 rfl (fun _ => ?_) (fun q => absurd q (by decide))
  refine z_iloadn zh dX9_canSet_31 rfl ?_
  refine z_iconst zh dX9_canSet_32 ki_1 ?_
  refine z_icmp_ne_N (tgt := 44) zh (by decide) (by decide) dX9_canSet_33 rfl (fun _ => ?_) (fun q => absurd q (by decide))
  refine z_iloadn zh dX9_canSet_44 rfl ?_
  refine z_iconst zh dX9_canSet_45 ki_2 ?_
  refine z_icmp_eq_N (tgt := 54) zh (by decide) (by decide) dX9_canSet_46 rfl (fun q => absurd q (by decide)) (fun _ => ?_)
  refine z_iloadn zh dX9_canSet_49 rfl ?_
  refine z_iconst zh dX9_canSet_50 ki_3 ?_
  refine z_icmp_ne_N (tgt := 63) zh (by decide) (by decide) dX9_canSet_51 rfl (fun _ => ?_) (fun q => absurd q (by decide))
  refine z_iloadn zh dX9_canSet_63 rfl ?_
  refine z_iconst zh dX9_canSet_64 ki_4 ?_
  refine z_icmp_ne_N (tgt := 78) zh (by decide) (by decide) dX9_canSet_65 rfl (fun _ => ?_) (fun q => absurd q (by decide))
  refine z_iloadn zh dX9_canSet_78 rfl ?_
  refine z_iconst zh dX9_canSet_79 ki_5 ?_
  refine z_icmp_eq_N (tgt := 89) zh (by decide) (by decide) dX9_canSet_80 rfl (fun _ => ?_) (fun q => absurd q (by decide))
  refine z_aloadnR zh dX9_canSet_89 rfl ?_
  refine z_iloadn zh dX9_canSet_90 rfl ?_
  refine z_iconst zh dX9_canSet_91 ki_0 ?_
  refine z_bipush zh dX9_canSet_92 kb_100 ?_
  refine z_callVIp zh mv_Y_79 dX9_canSet_94 ck_Y rfl (c_y_isIn g) ⟨Nat.le_of_ble_eq_true rfl, Nat.le_of_ble_eq_true rfl⟩ rfl rfl (Nat.le_of_ble_eq_true rfl) ?_
  refine z_if_eq_B (tgt := 104) zh dX9_canSet_97 rfl (fun hp1 => ?_) (fun hp1 => ?_)
  · refine z_iconst zh dX9_canSet_104 ki_0 ?_
    exact z_zret zh dX9_canSet_105 (Or.inl rfl) (qI (by first | rfl | simp (decide := true) only [sel_t, sel_f, selL_t, selL_f, bi_t, bi_f, sel_same, selL_same, eq_self, hp1]))
  · refine z_iconst zh dX9_canSet_100 ki_1 ?_
    refine z_goto (tgt := 105) zh dX9_canSet_101 rfl ?_
    exact z_zret zh dX9_canSet_105 (Or.inr rfl) (qI (by first | rfl | simp (decide := true) only [sel_t, sel_f, selL_t, selL_f, bi_t, bi_f, sel_same, selL_same, eq_self, hp1]))
set_option maxRecDepth 20000 in
theorem c_y_firstOf5 (g : GE)  {iv : Iv} {lv : Lv}    : ConIp g yX9_firstOf cX9_firstOf 2 (some .int) 1 [rf g 551, .int (nI 5)] iv lv (nI 10) := by
  refine con_intro (own := "RollingNetsModel") (by decide +kernel) rfl (Nat.le_of_ble_eq_true rfl) (L0 := [some (rf g 551), some (.int (nI 5))]) rfl (fun Z zh => ?_)
  refine z_iloadn zh dX9_firstOf_0 rfl ?_
  refine z_if_ne_N (tgt := 9) zh (by decide) dX9_firstOf_1 rfl (fun _ => ?_) (fun q => absurd q (by decide))
  refine z_iloadn zh dX9_firstOf_9 rfl ?_
  refine z_iconst zh dX9_firstOf_10 ki_1 ?_
  refine z_icmp_eq_N (tgt := 19) zh (by decide) (by decide) dX9_firstOf_11 rfl (fun q => absurd q (by decide)) (fun _ => ?_)
  refine z_iloadn zh dX9_firstOf_14 rfl ?_
  refine z_iconst zh dX9_firstOf_15 ki_2 ?_
  refine z_icmp_ne_N (tgt := 23) zh (by decide) (by decide) dX9_firstOf_16 rfl (fun _ => ?_) (fun q => absurd q (by decide))
  refine z_iloadn zh dX9_firstOf_23 rfl ?_
  refine z_iconst zh dX9_firstOf_24 ki_3 ?_
  refine z_icmp_ne_N (tgt := 32) zh (by decide) (by decide) dX9_firstOf_25 rfl (fun _ => ?_) (fun q => absurd q (by decide))
  refine z_iloadn zh dX9_firstOf_32 rfl ?_
  refine z_iconst zh dX9_firstOf_33 ki_4 ?_
  refine z_icmp_ne_N (tgt := 41) zh (by decide) (by decide) dX9_firstOf_34 rfl (fun _ => ?_) (fun q => absurd q (by decide))
  refine z_bipush zh dX9_firstOf_41 kb_10 ?_
  exact z_iret zh dX9_firstOf_43 (qI rfl)
set_option maxRecDepth 20000 in
theorem c_y_settingOf5 (g : GE)  {iv : Iv} {lv : Lv}  (hv : iv 552 5 = nI 0)  : ConIp g yX9_settingOf cX9_settingOf 2 (some .int) 2 [rf g 551, .int (nI 5)] iv lv (nI 10) := by
  refine con_intro (own := "RollingNetsModel") (by decide +kernel) rfl (Nat.le_of_ble_eq_true rfl) (L0 := [some (rf g 551), some (.int (nI 5))]) rfl (fun Z zh => ?_)
  refine z_aloadnR zh dX9_settingOf_0 rfl ?_
  refine z_getf zh fl_Y_7 dX9_settingOf_1 ck_Y rfl rfl ?_
  refine z_iloadn zh dX9_settingOf_4 rfl ?_
  refine z_ialdE (x := nI 0) zh ck_now dX9_settingOf_5 (by decide) hv ?_
  refine z_aloadnR zh dX9_settingOf_6 rfl ?_
  refine z_iloadn zh dX9_settingOf_7 rfl ?_
  refine z_callVIp zh mv_Y_83 dX9_settingOf_8 ck_Y rfl (c_y_firstOf5 g) ⟨Nat.le_of_ble_eq_true rfl, Nat.le_of_ble_eq_true rfl⟩ rfl rfl (Nat.le_of_ble_eq_true rfl) ?_
  refine z_iaddN zh dX9_settingOf_11 ?_
  exact z_iret zh dX9_settingOf_12 (qI rfl)
set_option maxRecDepth 20000 in
theorem c_y_set5 (g : GE) {v : Int32} {iv : Iv} {lv : Lv} {dd : Nat → Nat} {dm : Nat}  (hG : OkR dd dm iv lv) : ConI g yX9_set cX9_set 3 (some .boolean) 3 [rf g 551, .int (nI 5), .int v] iv lv (fun r _ _ => r = bi (Rg (nI 0) (nI 100) v)) := by
  refine con_intro (own := "RollingNetsModel") (by decide +kernel) rfl (Nat.le_of_ble_eq_true rfl) (L0 := [some (rf g 551), some (.int (nI 5)), some (.int v)]) rfl (fun Z zh => ?_)
  refine z_aloadnR zh dX9_set_0 rfl ?_
  refine z_iconst zh dX9_set_1 ki_0 ?_
  refine z_putI zh fl_Y_58 dX9_set_2 ck_Y rfl rfl (Nat.le_of_ble_eq_true rfl) (Or.inl rfl) ?_
  have hG := okR_wI (k := 551) (j := 0) (x := nI 0) hG (w1_no rfl)
  generalize upI iv (551) (0) (nI 0) = iv at hG ⊢
  refine z_aloadnR zh dX9_set_5 rfl ?_
  refine z_iloadn zh dX9_set_6 rfl ?_
  refine z_iloadn zh dX9_set_7 rfl ?_
  refine z_callVIp zh mv_Y_87 dX9_set_8 ck_Y rfl (c_y_canSet5 g hG) ⟨Nat.le_of_ble_eq_true rfl, Nat.le_of_ble_eq_true rfl⟩ rfl rfl (Nat.le_of_ble_eq_true rfl) ?_
  refine z_if_ne_B (tgt := 16) zh dX9_set_11 rfl (fun hp1 => ?_) (fun hp1 => ?_)
  · refine z_iloadn zh dX9_set_16 rfl ?_
    refine z_bipush zh dX9_set_17 kb_6 ?_
    refine z_icmp_ne_N (tgt := 33) zh (by decide) (by decide) dX9_set_19 rfl (fun _ => ?_) (fun q => absurd q (by decide))
    refine z_aloadnR zh dX9_set_33 rfl ?_
    refine z_getf zh fl_Y_7 dX9_set_34 ck_Y rfl rfl ?_
    refine z_iloadn zh dX9_set_37 rfl ?_
    refine z_iloadn zh dX9_set_38 rfl ?_
    refine z_aloadnR zh dX9_set_39 rfl ?_
    refine z_iloadn zh dX9_set_40 rfl ?_
    refine z_callVIp zh mv_Y_83 dX9_set_41 ck_Y rfl (c_y_firstOf5 g) ⟨Nat.le_of_ble_eq_true rfl, Nat.le_of_ble_eq_true rfl⟩ rfl rfl (Nat.le_of_ble_eq_true rfl) ?_
    refine z_isub zh dX9_set_44 ?_
    refine z_iastN zh ck_now dX9_set_45 (by decide) ?_
    refine z_iconst zh dX9_set_46 ki_1 ?_
    exact z_zret zh dX9_set_47 (Or.inr rfl) (⟨_, rfl, (by first | rfl | simp (decide := true) only [sel_t, sel_f, selL_t, selL_f, bi_t, bi_f, sel_same, selL_same, eq_self, hp1])⟩)
  · refine z_iconst zh dX9_set_14 ki_0 ?_
    exact z_zret zh dX9_set_15 (Or.inl rfl) (⟨_, rfl, (by first | rfl | simp (decide := true) only [sel_t, sel_f, selL_t, selL_f, bi_t, bi_f, sel_same, selL_same, eq_self, hp1])⟩)
set_option maxRecDepth 20000 in
theorem c_y_canSet6 (g : GE) {v : Int32} {iv : Iv} {lv : Lv} {dd : Nat → Nat} {dm : Nat}  (hG : OkR dd dm iv lv) : ConIp g yX9_canSet cX9_canSet 3 (some .boolean) 2 [rf g 551, .int (nI 6), .int v] iv lv (bi (Rg (nI 0) (nI 100) v)) := by
  refine con_intro (own := "RollingNetsModel") (by decide +kernel) rfl (Nat.le_of_ble_eq_true rfl) (L0 := [some (rf g 551), some (.int (nI 6)), some (.int v)]) rfl (fun Z zh => ?_)
  refine z_iloadn zh dX9_canSet_0 rfl ?_
  refine z_if_ne_N (tgt := 31) zh (by decide) dX9_canSet_1 rfl (fun _ => ?_) (fun q => absurd q (by decide))
  refine z_iloadn zh dX9_canSet_31 rfl ?_
  refine z_iconst zh dX9_canSet_32 ki_1 ?_
  refine z_icmp_ne_N (tgt := 44) zh (by decide) (by decide) dX9_canSet_33 rfl (fun _ => ?_) (fun q => absurd q (by decide))
  refine z_iloadn zh dX9_canSet_44 rfl ?_
  refine z_iconst zh dX9_canSet_45 ki_2 ?_
  refine z_icmp_eq_N (tgt := 54) zh (by decide) (by decide) dX9_canSet_46 rfl (fun q => absurd q (by decide)) (fun _ => ?_)
  refine z_iloadn zh dX9_canSet_49 rfl ?_
  refine z_iconst zh dX9_canSet_50 ki_3 ?_
  refine z_icmp_ne_N (tgt := 63) zh (by decide) (by decide) dX9_canSet_51 rfl (fun _ => ?_) (fun q => absurd q (by decide))
  refine z_iloadn zh dX9_canSet_63 rfl ?_
  refine z_iconst zh dX9_canSet_64 ki_4 ?_
  refine z_icmp_ne_N (tgt := 78) zh (by decide) (by decide) dX9_canSet_65 rfl (fun _ => ?_) (fun q => absurd q (by decide))
  refine z_iloadn zh dX9_canSet_78 rfl ?_
  refine z_iconst zh dX9_canSet_79 ki_5 ?_
  refine z_icmp_eq_N (tgt := 89) zh (by decide) (by decide) dX9_canSet_80 rfl (fun q => absurd q (by decide)) (fun _ => ?_)
  refine z_iloadn zh dX9_canSet_83 rfl ?_
  refine z_bipush zh dX9_canSet_84 kb_6 ?_
  refine z_icmp_ne_N (tgt := 104) zh (by decide) (by decide) dX9_canSet_86 rfl (fun q => absurd q (by decide)) (fun _ => ?_)
  refine z_aloadnR zh dX9_canSet_89 rfl ?_
  refine z_iloadn zh dX9_canSet_90 rfl ?_
  refine z_iconst zh dX9_canSet_91 ki_0 ?_
  refine z_bipush zh dX9_canSet_92 kb_100 ?_
  refine z_callVIp zh mv_Y_79 dX9_canSet_94 ck_Y rfl (c_y_isIn g) ⟨Nat.le_of_ble_eq_true rfl, Nat.le_of_ble_eq_true rfl⟩ rfl rfl (Nat.le_of_ble_eq_true rfl) ?_
  refine z_if_eq_B (tgt := 104) zh dX9_canSet_97 rfl (fun hp1 => ?_) (fun hp1 => ?_)
  · refine z_iconst zh dX9_canSet_104 ki_0 ?_
    exact z_zret zh dX9_canSet_105 (Or.inl rfl) (qI (by first | rfl | simp (decide := true) only [sel_t, sel_f, selL_t, selL_f, bi_t, bi_f, sel_same, selL_same, eq_self, hp1]))
  · refine z_iconst zh dX9_canSet_100 ki_1 ?_
    refine z_goto (tgt := 105) zh dX9_canSet_101 rfl ?_
    exact z_zret zh dX9_canSet_105 (Or.inr rfl) (qI (by first | rfl | simp (decide := true) only [sel_t, sel_f, selL_t, selL_f, bi_t, bi_f, sel_same, selL_same, eq_self, hp1]))
set_option maxRecDepth 20000 in
theorem c_y_firstOf6 (g : GE)  {iv : Iv} {lv : Lv}    : ConIp g yX9_firstOf cX9_firstOf 2 (some .int) 1 [rf g 551, .int (nI 6)] iv lv (nI 10) := by
  refine con_intro (own := "RollingNetsModel") (by decide +kernel) rfl (Nat.le_of_ble_eq_true rfl) (L0 := [some (rf g 551), some (.int (nI 6))]) rfl (fun Z zh => ?_)
  refine z_iloadn zh dX9_firstOf_0 rfl ?_
  refine z_if_ne_N (tgt := 9) zh (by decide) dX9_firstOf_1 rfl (fun _ => ?_) (fun q => absurd q (by decide))
  refine z_iloadn zh dX9_firstOf_9 rfl ?_
  refine z_iconst zh dX9_firstOf_10 ki_1 ?_
  refine z_icmp_eq_N (tgt := 19) zh (by decide) (by decide) dX9_firstOf_11 rfl (fun q => absurd q (by decide)) (fun _ => ?_)
  refine z_iloadn zh dX9_firstOf_14 rfl ?_
  refine z_iconst zh dX9_firstOf_15 ki_2 ?_
  refine z_icmp_ne_N (tgt := 23) zh (by decide) (by decide) dX9_firstOf_16 rfl (fun _ => ?_) (fun q => absurd q (by decide))
  refine z_iloadn zh dX9_firstOf_23 rfl ?_
  refine z_iconst zh dX9_firstOf_24 ki_3 ?_
  refine z_icmp_ne_N (tgt := 32) zh (by decide) (by decide) dX9_firstOf_25 rfl (fun _ => ?_) (fun q => absurd q (by decide))
  refine z_iloadn zh dX9_firstOf_32 rfl ?_
  refine z_iconst zh dX9_firstOf_33 ki_4 ?_
  refine z_icmp_ne_N (tgt := 41) zh (by decide) (by decide) dX9_firstOf_34 rfl (fun _ => ?_) (fun q => absurd q (by decide))
  refine z_bipush zh dX9_firstOf_41 kb_10 ?_
  exact z_iret zh dX9_firstOf_43 (qI rfl)
set_option maxRecDepth 20000 in
theorem c_y_settingOf6 (g : GE)  {iv : Iv} {lv : Lv}  (hv : iv 552 6 = nI 0)  : ConIp g yX9_settingOf cX9_settingOf 2 (some .int) 2 [rf g 551, .int (nI 6)] iv lv (nI 10) := by
  refine con_intro (own := "RollingNetsModel") (by decide +kernel) rfl (Nat.le_of_ble_eq_true rfl) (L0 := [some (rf g 551), some (.int (nI 6))]) rfl (fun Z zh => ?_)
  refine z_aloadnR zh dX9_settingOf_0 rfl ?_
  refine z_getf zh fl_Y_7 dX9_settingOf_1 ck_Y rfl rfl ?_
  refine z_iloadn zh dX9_settingOf_4 rfl ?_
  refine z_ialdE (x := nI 0) zh ck_now dX9_settingOf_5 (by decide) hv ?_
  refine z_aloadnR zh dX9_settingOf_6 rfl ?_
  refine z_iloadn zh dX9_settingOf_7 rfl ?_
  refine z_callVIp zh mv_Y_83 dX9_settingOf_8 ck_Y rfl (c_y_firstOf6 g) ⟨Nat.le_of_ble_eq_true rfl, Nat.le_of_ble_eq_true rfl⟩ rfl rfl (Nat.le_of_ble_eq_true rfl) ?_
  refine z_iaddN zh dX9_settingOf_11 ?_
  exact z_iret zh dX9_settingOf_12 (qI rfl)
set_option maxRecDepth 20000 in
theorem c_y_set6 (g : GE) {v : Int32} {iv : Iv} {lv : Lv} {dd : Nat → Nat} {dm : Nat}  (hG : OkR dd dm iv lv) : ConI g yX9_set cX9_set 3 (some .boolean) 3 [rf g 551, .int (nI 6), .int v] iv lv (fun r _ _ => r = bi (Rg (nI 0) (nI 100) v)) := by
  refine con_intro (own := "RollingNetsModel") (by decide +kernel) rfl (Nat.le_of_ble_eq_true rfl) (L0 := [some (rf g 551), some (.int (nI 6)), some (.int v)]) rfl (fun Z zh => ?_)
  refine z_aloadnR zh dX9_set_0 rfl ?_
  refine z_iconst zh dX9_set_1 ki_0 ?_
  refine z_putI zh fl_Y_58 dX9_set_2 ck_Y rfl rfl (Nat.le_of_ble_eq_true rfl) (Or.inl rfl) ?_
  have hG := okR_wI (k := 551) (j := 0) (x := nI 0) hG (w1_no rfl)
  generalize upI iv (551) (0) (nI 0) = iv at hG ⊢
  refine z_aloadnR zh dX9_set_5 rfl ?_
  refine z_iloadn zh dX9_set_6 rfl ?_
  refine z_iloadn zh dX9_set_7 rfl ?_
  refine z_callVIp zh mv_Y_87 dX9_set_8 ck_Y rfl (c_y_canSet6 g hG) ⟨Nat.le_of_ble_eq_true rfl, Nat.le_of_ble_eq_true rfl⟩ rfl rfl (Nat.le_of_ble_eq_true rfl) ?_
  refine z_if_ne_B (tgt := 16) zh dX9_set_11 rfl (fun hp1 => ?_) (fun hp1 => ?_)
  · refine z_iloadn zh dX9_set_16 rfl ?_
    refine z_bipush zh dX9_set_17 kb_6 ?_
    refine z_icmp_ne_N (tgt := 33) zh (by decide) (by decide) dX9_set_19 rfl (fun q => absurd q (by decide)) (fun _ => ?_)
    refine z_aloadnR zh dX9_set_22 rfl ?_
    refine z_getf zh fl_Y_7 dX9_set_23 ck_Y rfl rfl ?_
    refine z_bipush zh dX9_set_26 kb_12 ?_
    refine z_iloadn zh dX9_set_28 rfl ?_
    refine z_iastN zh ck_now dX9_set_29 (by decide) ?_
    refine z_goto (tgt := 46) zh dX9_set_30 rfl ?_
    refine z_iconst zh dX9_set_46 ki_1 ?_
    exact z_zret zh dX9_set_47 (Or.inr rfl) (⟨_, rfl, (by first | rfl | simp (decide := true) only [sel_t, sel_f, selL_t, selL_f, bi_t, bi_f, sel_same, selL_same, eq_self, hp1])⟩)
  · refine z_iconst zh dX9_set_14 ki_0 ?_
    exact z_zret zh dX9_set_15 (Or.inl rfl) (⟨_, rfl, (by first | rfl | simp (decide := true) only [sel_t, sel_f, selL_t, selL_f, bi_t, bi_f, sel_same, selL_same, eq_self, hp1])⟩)
set_option maxRecDepth 20000 in
theorem c_y_canSetN (g : GE) {x v : Int32} {iv : Iv} {lv : Lv} {dd : Nat → Nat} {dm : Nat} (hx : ¬ InN 7 x) (hG : OkR dd dm iv lv) : ConIp g yX9_canSet cX9_canSet 3 (some .boolean) 2 [rf g 551, .int x, .int v] iv lv (nI 0) := by
  refine con_intro (own := "RollingNetsModel") (by decide +kernel) rfl (Nat.le_of_ble_eq_true rfl) (L0 := [some (rf g 551), some (.int x), some (.int v)]) rfl (fun Z zh => ?_)
  refine z_iloadn zh dX9_canSet_0 rfl ?_
  refine z_if_ne (tgt := 31) zh dX9_canSet_1 rfl (fun _ => ?_) (fun q => absurd (show x = nI 0 from q) (InN_no hx (by decide)))
  refine z_iloadn zh dX9_canSet_31 rfl ?_
  refine z_iconst zh dX9_canSet_32 ki_1 ?_
  refine z_icmp_ne (tgt := 44) zh dX9_canSet_33 rfl (fun _ => ?_) (fun q => absurd (show x = nI 1 from q) (InN_no hx (by decide)))
  refine z_iloadn zh dX9_canSet_44 rfl ?_
  refine z_iconst zh dX9_canSet_45 ki_2 ?_
  refine z_icmp_eq (tgt := 54) zh dX9_canSet_46 rfl (fun q => absurd (show x = nI 2 from q) (InN_no hx (by decide))) (fun _ => ?_)
  refine z_iloadn zh dX9_canSet_49 rfl ?_
  refine z_iconst zh dX9_canSet_50 ki_3 ?_
  refine z_icmp_ne (tgt := 63) zh dX9_canSet_51 rfl (fun _ => ?_) (fun q => absurd (show x = nI 3 from q) (InN_no hx (by decide)))
  refine z_iloadn zh dX9_canSet_63 rfl ?_
  refine z_iconst zh dX9_canSet_64 ki_4 ?_
  refine z_icmp_ne (tgt := 78) zh dX9_canSet_65 rfl (fun _ => ?_) (fun q => absurd (show x = nI 4 from q) (InN_no hx (by decide)))
  refine z_iloadn zh dX9_canSet_78 rfl ?_
  refine z_iconst zh dX9_canSet_79 ki_5 ?_
  refine z_icmp_eq (tgt := 89) zh dX9_canSet_80 rfl (fun q => absurd (show x = nI 5 from q) (InN_no hx (by decide))) (fun _ => ?_)
  refine z_iloadn zh dX9_canSet_83 rfl ?_
  refine z_bipush zh dX9_canSet_84 kb_6 ?_
  refine z_icmp_ne (tgt := 104) zh dX9_canSet_86 rfl (fun _ => ?_) (fun q => absurd (show x = nI 6 from q) (InN_no hx (by decide)))
  refine z_iconst zh dX9_canSet_104 ki_0 ?_
  exact z_zret zh dX9_canSet_105 (Or.inl rfl) (qI rfl)
set_option maxRecDepth 20000 in
theorem c_y_setno (g : GE) {x v : Int32} {iv : Iv} {lv : Lv} {dd : Nat → Nat} {dm : Nat} (hx : ¬ InN 7 x) (hG : OkR dd dm iv lv) : ConI g yX9_set cX9_set 3 (some .boolean) 3 [rf g 551, .int x, .int v] iv lv (fun r _ _ => r = nI 0) := by
  refine con_intro (own := "RollingNetsModel") (by decide +kernel) rfl (Nat.le_of_ble_eq_true rfl) (L0 := [some (rf g 551), some (.int x), some (.int v)]) rfl (fun Z zh => ?_)
  refine z_aloadnR zh dX9_set_0 rfl ?_
  refine z_iconst zh dX9_set_1 ki_0 ?_
  refine z_putI zh fl_Y_58 dX9_set_2 ck_Y rfl rfl (Nat.le_of_ble_eq_true rfl) (Or.inl rfl) ?_
  have hG := okR_wI (k := 551) (j := 0) (x := nI 0) hG (w1_no rfl)
  generalize upI iv (551) (0) (nI 0) = iv at hG ⊢
  refine z_aloadnR zh dX9_set_5 rfl ?_
  refine z_iloadn zh dX9_set_6 rfl ?_
  refine z_iloadn zh dX9_set_7 rfl ?_
  refine z_callVIp zh mv_Y_87 dX9_set_8 ck_Y rfl (c_y_canSetN g hx hG) ⟨Nat.le_of_ble_eq_true rfl, Nat.le_of_ble_eq_true rfl⟩ rfl rfl (Nat.le_of_ble_eq_true rfl) ?_
  refine z_if_ne_N (tgt := 16) zh (by decide) dX9_set_11 rfl (fun q => absurd q (by decide)) (fun _ => ?_)
  refine z_iconst zh dX9_set_14 ki_0 ?_
  exact z_zret zh dX9_set_15 (Or.inl rfl) (⟨_, rfl, rfl⟩)
set_option maxRecDepth 20000 in
theorem c_y_lotMany (g : GE) {k i : Nat} {iv : Iv} {lv : Lv} {dd : Nat → Nat} {dm : Nat} (hk : k < 12) (hi : i < 6) (hG : OkR dd dm iv lv) : ConIp g yX9_lotMany cX9_lotMany 3 (some .int) 2 [rf g 551, .int (nI k), .int (nI i)] iv lv (nI 0) := by
  refine con_intro (own := "RollingNetsModel") (by decide +kernel) rfl (Nat.le_of_ble_eq_true rfl) (L0 := [some (rf g 551), some (.int (nI k)), some (.int (nI i))]) rfl (fun Z zh => ?_)
  refine z_aloadnR zh dX9_lotMany_0 rfl ?_
  refine z_getf zh fl_Y_7 dX9_lotMany_1 ck_Y rfl rfl ?_
  refine z_sipush zh dX9_lotMany_4 ks_348 ?_
  refine z_aloadnR zh dX9_lotMany_7 rfl ?_
  refine z_iloadn zh dX9_lotMany_8 rfl ?_
  refine z_iloadn zh dX9_lotMany_9 rfl ?_
  refine z_callVIp zh mv_Y_65 dX9_lotMany_10 ck_Y rfl (c_y_cellOf g) ⟨Nat.le_of_ble_eq_true rfl, Nat.le_of_ble_eq_true rfl⟩ rfl rfl (Nat.le_of_ble_eq_true rfl) ?_
  refine z_iaddN zh dX9_lotMany_13 ?_
  refine z_ialdE (x := nI 0) zh ck_now dX9_lotMany_14 (by omega) (r1_now hG (by omega)) ?_
  exact z_iret zh dX9_lotMany_15 (qI rfl)
set_option maxRecDepth 20000 in
theorem c_y_isShort (g : GE) {k i : Nat} {iv : Iv} {lv : Lv} {dd : Nat → Nat} {dm : Nat} (hk : k < 12) (hi : i < 6) (hG : OkR dd dm iv lv) : ConIp g yX9_isShort cX9_isShort 3 (some .boolean) 3 [rf g 551, .int (nI k), .int (nI i)] iv lv (nI 0) := by
  refine con_intro (own := "RollingNetsModel") (by decide +kernel) rfl (Nat.le_of_ble_eq_true rfl) (L0 := [some (rf g 551), some (.int (nI k)), some (.int (nI i))]) rfl (fun Z zh => ?_)
  refine z_aloadnR zh dX9_isShort_0 rfl ?_
  refine z_iloadn zh dX9_isShort_1 rfl ?_
  refine z_iloadn zh dX9_isShort_2 rfl ?_
  refine z_callVIp zh mv_Y_110 dX9_isShort_3 ck_Y rfl (c_y_lotMany g hk hi hG) ⟨Nat.le_of_ble_eq_true rfl, Nat.le_of_ble_eq_true rfl⟩ rfl rfl (Nat.le_of_ble_eq_true rfl) ?_
  refine z_if_le_N (tgt := 23) zh (by decide) dX9_isShort_6 rfl (fun _ => ?_) (fun q => absurd q (by decide))
  refine z_iconst zh dX9_isShort_23 ki_0 ?_
  exact z_zret zh dX9_isShort_24 (Or.inl rfl) (qI rfl)
set_option maxRecDepth 20000 in
theorem c_y_isLong (g : GE) {k i : Nat} {iv : Iv} {lv : Lv} {dd : Nat → Nat} {dm : Nat} (hk : k < 12) (hi : i < 6) (hG : OkR dd dm iv lv) : ConIp g yX9_isLong cX9_isLong 3 (some .boolean) 3 [rf g 551, .int (nI k), .int (nI i)] iv lv (nI 0) := by
  refine con_intro (own := "RollingNetsModel") (by decide +kernel) rfl (Nat.le_of_ble_eq_true rfl) (L0 := [some (rf g 551), some (.int (nI k)), some (.int (nI i))]) rfl (fun Z zh => ?_)
  refine z_aloadnR zh dX9_isLong_0 rfl ?_
  refine z_iloadn zh dX9_isLong_1 rfl ?_
  refine z_iloadn zh dX9_isLong_2 rfl ?_
  refine z_callVIp zh mv_Y_110 dX9_isLong_3 ck_Y rfl (c_y_lotMany g hk hi hG) ⟨Nat.le_of_ble_eq_true rfl, Nat.le_of_ble_eq_true rfl⟩ rfl rfl (Nat.le_of_ble_eq_true rfl) ?_
  refine z_if_le_N (tgt := 23) zh (by decide) dX9_isLong_6 rfl (fun _ => ?_) (fun q => absurd q (by decide))
  refine z_iconst zh dX9_isLong_23 ki_0 ?_
  exact z_zret zh dX9_isLong_24 (Or.inl rfl) (qI rfl)
set_option maxRecDepth 20000 in
theorem c_y_shortOf (g : GE) {k i : Nat} {iv : Iv} {lv : Lv} {dd : Nat → Nat} {dm : Nat} (hk : k < 12) (hi : i < 6) (hG : OkR dd dm iv lv) : ConIp g yX9_shortOf cX9_shortOf 3 (some .int) 4 [rf g 551, .int (nI k), .int (nI i)] iv lv (nI 0) := by
  refine con_intro (own := "RollingNetsModel") (by decide +kernel) rfl (Nat.le_of_ble_eq_true rfl) (L0 := [some (rf g 551), some (.int (nI k)), some (.int (nI i))]) rfl (fun Z zh => ?_)
  refine z_aloadnR zh dX9_shortOf_0 rfl ?_
  refine z_iloadn zh dX9_shortOf_1 rfl ?_
  refine z_iloadn zh dX9_shortOf_2 rfl ?_
  refine z_callVIp zh mv_Y_116 dX9_shortOf_3 ck_Y rfl (c_y_isShort g hk hi hG) ⟨Nat.le_of_ble_eq_true rfl, Nat.le_of_ble_eq_true rfl⟩ rfl rfl (Nat.le_of_ble_eq_true rfl) ?_
  refine z_if_eq_N (tgt := 19) zh (by decide) dX9_shortOf_6 rfl (fun _ => ?_) (fun q => absurd q (by decide))
  refine z_iconst zh dX9_shortOf_19 ki_0 ?_
  exact z_iret zh dX9_shortOf_20 (qI rfl)
set_option maxRecDepth 20000 in
theorem c_y_longOf (g : GE) {k i : Nat} {iv : Iv} {lv : Lv} {dd : Nat → Nat} {dm : Nat} (hk : k < 12) (hi : i < 6) (hG : OkR dd dm iv lv) : ConIp g yX9_longOf cX9_longOf 3 (some .int) 4 [rf g 551, .int (nI k), .int (nI i)] iv lv (nI 0) := by
  refine con_intro (own := "RollingNetsModel") (by decide +kernel) rfl (Nat.le_of_ble_eq_true rfl) (L0 := [some (rf g 551), some (.int (nI k)), some (.int (nI i))]) rfl (fun Z zh => ?_)
  refine z_aloadnR zh dX9_longOf_0 rfl ?_
  refine z_iloadn zh dX9_longOf_1 rfl ?_
  refine z_iloadn zh dX9_longOf_2 rfl ?_
  refine z_callVIp zh mv_Y_122 dX9_longOf_3 ck_Y rfl (c_y_isLong g hk hi hG) ⟨Nat.le_of_ble_eq_true rfl, Nat.le_of_ble_eq_true rfl⟩ rfl rfl (Nat.le_of_ble_eq_true rfl) ?_
  refine z_if_eq_N (tgt := 18) zh (by decide) dX9_longOf_6 rfl (fun _ => ?_) (fun q => absurd q (by decide))
  refine z_iconst zh dX9_longOf_18 ki_0 ?_
  exact z_iret zh dX9_longOf_19 (qI rfl)
set_option maxRecDepth 20000 in
theorem c_y_positionOf (g : GE) {k i : Nat} {iv : Iv} {lv : Lv} {dd : Nat → Nat} {dm : Nat} (hk : k < 12) (hi : i < 6) (hG : OkR dd dm iv lv) : ConIp g yX9_positionOf cX9_positionOf 5 (some .int) 3 [rf g 551, .int (nI k), .int (nI i)] iv lv (nI 0) := by
  refine con_intro (own := "RollingNetsModel") (by decide +kernel) rfl (Nat.le_of_ble_eq_true rfl) (L0 := [some (rf g 551), some (.int (nI k)), some (.int (nI i)), none, none]) rfl (fun Z zh => ?_)
  refine z_iconst zh dX9_positionOf_0 ki_0 ?_
  refine z_istoren zh dX9_positionOf_1 (by decide) (L' := [some (rf g 551), some (.int (nI k)), some (.int (nI i)), some (.int (nI 0)), none]) rfl ?_
  refine z_iconst zh dX9_positionOf_2 ki_0 ?_
  refine z_istore zh dX9_positionOf_3 (by decide) (L' := [some (rf g 551), some (.int (nI k)), some (.int (nI i)), some (.int (nI 0)), some (.int (nI 0))]) rfl ?_
  refine z_iload zh dX9_positionOf_5 rfl ?_
  refine z_aloadnR zh dX9_positionOf_7 rfl ?_
  refine z_iloadn zh dX9_positionOf_8 rfl ?_
  refine z_iloadn zh dX9_positionOf_9 rfl ?_
  refine z_callVIp zh mv_Y_110 dX9_positionOf_10 ck_Y rfl (c_y_lotMany g hk hi hG) ⟨Nat.le_of_ble_eq_true rfl, Nat.le_of_ble_eq_true rfl⟩ rfl rfl (Nat.le_of_ble_eq_true rfl) ?_
  refine z_icmp_ge_N (tgt := 33) zh (by decide) (by decide) dX9_positionOf_13 rfl (fun _ => ?_) (fun q => absurd q (by decide))
  refine z_iloadn zh dX9_positionOf_33 rfl ?_
  exact z_iret zh dX9_positionOf_34 (qI rfl)
set_option maxRecDepth 20000 in
theorem c_y_canLend (g : GE) {k i : Nat} {iv : Iv} {lv : Lv} {dd : Nat → Nat} {dm : Nat} (hk : k < 12) (hi : i < 6) (hG : OkR dd dm iv lv) : ConIp g yX9_canLend cX9_canLend 3 (some .int) 4 [rf g 551, .int (nI k), .int (nI i)] iv lv (nI 0) := by
  refine con_intro (own := "RollingNetsModel") (by decide +kernel) rfl (Nat.le_of_ble_eq_true rfl) (L0 := [some (rf g 551), some (.int (nI k)), some (.int (nI i))]) rfl (fun Z zh => ?_)
  refine z_aloadnR zh dX9_canLend_0 rfl ?_
  refine z_iloadn zh dX9_canLend_1 rfl ?_
  refine z_iloadn zh dX9_canLend_2 rfl ?_
  refine z_callVIp zh mv_Y_116 dX9_canLend_3 ck_Y rfl (c_y_isShort g hk hi hG) ⟨Nat.le_of_ble_eq_true rfl, Nat.le_of_ble_eq_true rfl⟩ rfl rfl (Nat.le_of_ble_eq_true rfl) ?_
  refine z_if_eq_N (tgt := 13) zh (by decide) dX9_canLend_6 rfl (fun _ => ?_) (fun q => absurd q (by decide))
  refine z_aloadnR zh dX9_canLend_13 rfl ?_
  refine z_iconst zh dX9_canLend_14 ki_0 ?_
  refine z_aloadnR zh dX9_canLend_15 rfl ?_
  refine z_aloadnR zh dX9_canLend_16 rfl ?_
  refine z_iloadn zh dX9_canLend_17 rfl ?_
  refine z_iloadn zh dX9_canLend_18 rfl ?_
  refine z_callVIp zh mv_Y_98 dX9_canLend_19 ck_Y rfl (c_y_freeOf g hk hi hG) ⟨Nat.le_of_ble_eq_true rfl, Nat.le_of_ble_eq_true rfl⟩ rfl rfl (Nat.le_of_ble_eq_true rfl) ?_
  refine z_aloadnR zh dX9_canLend_22 rfl ?_
  refine z_getf zh fl_Y_7 dX9_canLend_23 ck_Y rfl rfl ?_
  refine z_sipush zh dX9_canLend_26 ks_204 ?_
  refine z_aloadnR zh dX9_canLend_29 rfl ?_
  refine z_iloadn zh dX9_canLend_30 rfl ?_
  refine z_iloadn zh dX9_canLend_31 rfl ?_
  refine z_callVIp zh mv_Y_65 dX9_canLend_32 ck_Y rfl (c_y_cellOf g) ⟨Nat.le_of_ble_eq_true rfl, Nat.le_of_ble_eq_true rfl⟩ rfl rfl (Nat.le_of_ble_eq_true rfl) ?_
  refine z_iaddN zh dX9_canLend_35 ?_
  refine z_ialdE (x := nI 0) zh ck_now dX9_canLend_36 (by omega) (r1_now hG (by omega)) ?_
  refine z_aloadnR zh dX9_canLend_37 rfl ?_
  refine z_getf zh fl_Y_7 dX9_canLend_38 ck_Y rfl rfl ?_
  refine z_sipush zh dX9_canLend_41 ks_276 ?_
  refine z_aloadnR zh dX9_canLend_44 rfl ?_
  refine z_iloadn zh dX9_canLend_45 rfl ?_
  refine z_iloadn zh dX9_canLend_46 rfl ?_
  refine z_callVIp zh mv_Y_65 dX9_canLend_47 ck_Y rfl (c_y_cellOf g) ⟨Nat.le_of_ble_eq_true rfl, Nat.le_of_ble_eq_true rfl⟩ rfl rfl (Nat.le_of_ble_eq_true rfl) ?_
  refine z_iaddN zh dX9_canLend_50 ?_
  refine z_ialdE (x := nI 0) zh ck_now dX9_canLend_51 (by omega) (r1_now hG (by omega)) ?_
  refine z_isubN zh (by omega) dX9_canLend_52 ?_
  refine z_callVIp zh mv_Y_131 dX9_canLend_53 ck_Y rfl (c_y_lesser0 g) ⟨Nat.le_of_ble_eq_true rfl, Nat.le_of_ble_eq_true rfl⟩ rfl rfl (Nat.le_of_ble_eq_true rfl) ?_
  refine z_callVIp zh mv_Y_76 dX9_canLend_56 ck_Y rfl (c_y_greater0 g) ⟨Nat.le_of_ble_eq_true rfl, Nat.le_of_ble_eq_true rfl⟩ rfl rfl (Nat.le_of_ble_eq_true rfl) ?_
  exact z_iret zh dX9_canLend_59 (qI rfl)
set_option maxRecDepth 20000 in
theorem c_y_oldLong (g : GE) {k i : Nat} {iv : Iv} {lv : Lv} {dd : Nat → Nat} {dm : Nat} (hk : k < 12) (hi : i < 6) (hG : OkR dd dm iv lv) : ConIp g yX9_oldLong cX9_oldLong 5 (some .int) 3 [rf g 551, .int (nI k), .int (nI i)] iv lv (nI 0) := by
  refine con_intro (own := "RollingNetsModel") (by decide +kernel) rfl (Nat.le_of_ble_eq_true rfl) (L0 := [some (rf g 551), some (.int (nI k)), some (.int (nI i)), none, none]) rfl (fun Z zh => ?_)
  refine z_iconst zh dX9_oldLong_0 ki_0 ?_
  refine z_istoren zh dX9_oldLong_1 (by decide) (L' := [some (rf g 551), some (.int (nI k)), some (.int (nI i)), some (.int (nI 0)), none]) rfl ?_
  refine z_iconst zh dX9_oldLong_2 ki_0 ?_
  refine z_istore zh dX9_oldLong_3 (by decide) (L' := [some (rf g 551), some (.int (nI k)), some (.int (nI i)), some (.int (nI 0)), some (.int (nI 0))]) rfl ?_
  refine z_iload zh dX9_oldLong_5 rfl ?_
  refine z_aloadnR zh dX9_oldLong_7 rfl ?_
  refine z_iloadn zh dX9_oldLong_8 rfl ?_
  refine z_iloadn zh dX9_oldLong_9 rfl ?_
  refine z_callVIp zh mv_Y_110 dX9_oldLong_10 ck_Y rfl (c_y_lotMany g hk hi hG) ⟨Nat.le_of_ble_eq_true rfl, Nat.le_of_ble_eq_true rfl⟩ rfl rfl (Nat.le_of_ble_eq_true rfl) ?_
  refine z_icmp_ge_N (tgt := 66) zh (by decide) (by decide) dX9_oldLong_13 rfl (fun _ => ?_) (fun q => absurd q (by decide))
  refine z_iloadn zh dX9_oldLong_66 rfl ?_
  exact z_iret zh dX9_oldLong_67 (qI rfl)
set_option maxRecDepth 20000 in
theorem c_y_isTrade (g : GE) {x : Int32} {iv : Iv} {lv : Lv} {dd : Nat → Nat} {dm : Nat}  (hG : OkR dd dm iv lv) : ConIp g yX9_isTrade cX9_isTrade 2 (some .boolean) 1 [rf g 551, .int x] iv lv (nI 0) := by
  refine con_intro (own := "RollingNetsModel") (by decide +kernel) rfl (Nat.le_of_ble_eq_true rfl) (L0 := [some (rf g 551), some (.int x)]) rfl (fun Z zh => ?_)
  refine z_iloadn zh dX9_isTrade_0 rfl ?_
  refine z_if_lt (tgt := 19) zh dX9_isTrade_1 rfl (fun hb1 => ?_) (fun hb1 => ?_)
  · refine z_iconst zh dX9_isTrade_19 ki_0 ?_
    exact z_zret zh dX9_isTrade_20 (Or.inl rfl) (qI rfl)
  · refine z_iloadn zh dX9_isTrade_4 rfl ?_
    refine z_aloadnR zh dX9_isTrade_5 rfl ?_
    refine z_getf zh fl_Y_7 dX9_isTrade_6 ck_Y rfl rfl ?_
    refine z_bipush zh dX9_isTrade_9 kb_7 ?_
    refine z_ialdE (x := nI 0) zh ck_now dX9_isTrade_11 (by decide) (r1_now hG (by decide)) ?_
    refine z_icmp_ge (tgt := 19) zh dX9_isTrade_12 rfl (fun _ => ?_) (fun q => absurd (Int32.not_lt.mp (show ¬ x < nI 0 from hb1)) q)
    refine z_iconst zh dX9_isTrade_19 ki_0 ?_
    exact z_zret zh dX9_isTrade_20 (Or.inl rfl) (qI rfl)
set_option maxRecDepth 20000 in
theorem c_y_isOpenApart (g : GE) {x : Int32} {iv : Iv} {lv : Lv} {dd : Nat → Nat} {dm : Nat}  (hG : OkR dd dm iv lv) : ConIp g yX9_isOpenApart cX9_isOpenApart 2 (some .boolean) 2 [rf g 551, .int x] iv lv (nI 0) := by
  refine con_intro (own := "RollingNetsModel") (by decide +kernel) rfl (Nat.le_of_ble_eq_true rfl) (L0 := [some (rf g 551), some (.int x)]) rfl (fun Z zh => ?_)
  refine z_aloadnR zh dX9_isOpenApart_0 rfl ?_
  refine z_iloadn zh dX9_isOpenApart_1 rfl ?_
  refine z_callVIp zh mv_Y_188 dX9_isOpenApart_2 ck_Y rfl (c_y_isTrade g  hG) ⟨Nat.le_of_ble_eq_true rfl, Nat.le_of_ble_eq_true rfl⟩ rfl rfl (Nat.le_of_ble_eq_true rfl) ?_
  refine z_if_eq_N (tgt := 32) zh (by decide) dX9_isOpenApart_5 rfl (fun _ => ?_) (fun q => absurd q (by decide))
  refine z_iconst zh dX9_isOpenApart_32 ki_0 ?_
  exact z_zret zh dX9_isOpenApart_33 (Or.inl rfl) (qI rfl)
set_option maxRecDepth 20000 in
theorem c_y_isNoticed (g : GE) {x y : Int32} {iv : Iv} {lv : Lv} {dd : Nat → Nat} {dm : Nat}  (hG : OkR dd dm iv lv) : ConIp g yX9_isNoticed cX9_isNoticed 4 (some .boolean) 1 [rf g 551, .int x, .int y] iv lv (nI 0) := by
  refine con_intro (own := "RollingNetsModel") (by decide +kernel) rfl (Nat.le_of_ble_eq_true rfl) (L0 := [some (rf g 551), some (.int x), some (.int y), none]) rfl (fun Z zh => ?_)
  refine z_iconst zh dX9_isNoticed_0 ki_0 ?_
  refine z_istoren zh dX9_isNoticed_1 (by decide) (L' := [some (rf g 551), some (.int x), some (.int y), some (.int (nI 0))]) rfl ?_
  refine z_iloadn zh dX9_isNoticed_2 rfl ?_
  refine z_aloadnR zh dX9_isNoticed_3 rfl ?_
  refine z_getf zh fl_Y_7 dX9_isNoticed_4 ck_Y rfl rfl ?_
  refine z_bipush zh dX9_isNoticed_7 kb_8 ?_
  refine z_ialdE (x := nI 0) zh ck_now dX9_isNoticed_9 (by decide) (r1_now hG (by decide)) ?_
  refine z_icmp_ge_N (tgt := 40) zh (by decide) (by decide) dX9_isNoticed_10 rfl (fun _ => ?_) (fun q => absurd q (by decide))
  refine z_iconst zh dX9_isNoticed_40 ki_0 ?_
  exact z_zret zh dX9_isNoticed_41 (Or.inl rfl) (qI rfl)
set_option maxRecDepth 20000 in
theorem c_y_laysQueue (g : GE) {i : Nat} {x : Int32} {iv : Iv} {lv : Lv} {dd : Nat → Nat} {dm : Nat} (hi : i < 6) (hG : OkR dd dm iv lv) : ConV g yX9_laysQueue cX9_laysQueue 7 none 3 [rf g 551, .int (nI i), .int x] iv lv (fun iv lv => OkR dd dm iv lv) := by
  refine con_intro (own := "RollingNetsModel") (by decide +kernel) rfl (Nat.le_of_ble_eq_true rfl) (L0 := [some (rf g 551), some (.int (nI i)), some (.int x), none, none, none, none]) rfl (fun Z zh => ?_)
  refine z_aloadnR zh dX9_laysQueue_0 rfl ?_
  refine z_iconst zh dX9_laysQueue_1 ki_0 ?_
  refine z_putI zh fl_Y_240 dX9_laysQueue_2 ck_Y rfl rfl (Nat.le_of_ble_eq_true rfl) (Or.inl rfl) ?_
  have hG := okR_wI (k := 551) (j := 10) (x := nI 0) hG (w1_eq rfl)
  generalize upI iv (551) (10) (nI 0) = iv at hG ⊢
  refine z_iconst zh dX9_laysQueue_5 ki_0 ?_
  refine z_istoren zh dX9_laysQueue_6 (by decide) (L' := [some (rf g 551), some (.int (nI i)), some (.int x), some (.int (nI 0)), none, none, none]) rfl ?_
  have hl7 : ∀ (n k7 : Nat) (iv : Iv) (lv : Lv), OkR dd dm iv lv → k7 ≤ 6 → 6 - k7 < n → Z 7 [some (rf g 551), some (.int (nI i)), some (.int x), some (.int (nI k7)), none, none, none] [] iv lv := by
    intro n
    induction n with
    | zero => intro k7 iv lv _ _ hn; exact absurd hn (Nat.not_lt_zero _)
    | succ n ih7 =>
      intro k7 iv lv hG hk7 hn7
      refine z_iloadn zh dX9_laysQueue_7 rfl ?_
      refine z_aloadnR zh dX9_laysQueue_8 rfl ?_
      refine z_callVIp zh mv_Y_61 dX9_laysQueue_9 ck_Y rfl (c_y_memberMany g  hG) ⟨Nat.le_of_ble_eq_true rfl, Nat.le_of_ble_eq_true rfl⟩ rfl rfl (Nat.le_of_ble_eq_true rfl) ?_
      refine z_icmp_ge_N (tgt := 208) zh (by omega) (by decide) dX9_laysQueue_12 rfl (fun hb1 => ?_) (fun hb1 => ?_)
      · exact z_vret zh dX9_laysQueue_208 (⟨rfl, hG⟩)
      · refine z_iconst zh dX9_laysQueue_15 ki_0 ?_
        refine z_istore zh dX9_laysQueue_16 (by decide) (L' := [some (rf g 551), some (.int (nI i)), some (.int x), some (.int (nI k7)), some (.int (nI 0)), none, none]) rfl ?_
        refine z_iload zh dX9_laysQueue_18 rfl ?_
        refine z_aloadnR zh dX9_laysQueue_20 rfl ?_
        refine z_iloadn zh dX9_laysQueue_21 rfl ?_
        refine z_iloadn zh dX9_laysQueue_22 rfl ?_
        refine z_callVIp zh mv_Y_110 dX9_laysQueue_23 ck_Y rfl (c_y_lotMany g (by omega) hi hG) ⟨Nat.le_of_ble_eq_true rfl, Nat.le_of_ble_eq_true rfl⟩ rfl rfl (Nat.le_of_ble_eq_true rfl) ?_
        refine z_icmp_ge_N (tgt := 202) zh (by decide) (by decide) dX9_laysQueue_26 rfl (fun _ => ?_) (fun q => absurd q (by decide))
        refine z_iincN zh dX9_laysQueue_202 ki_1 (by decide) rfl (L' := [some (rf g 551), some (.int (nI i)), some (.int x), some (.int (nI (k7 + 1))), some (.int (nI 0)), none, none]) rfl ?_
        refine z_goto (tgt := 7) zh dX9_laysQueue_205 rfl ?_
        refine z_forget zh [true, true, true, true, false, false, false] (L2 := [some (rf g 551), some (.int (nI i)), some (.int x), some (.int (nI (k7 + 1))), none, none, none]) rfl ?_; exact ih7 (k7 + 1) iv lv hG (by omega) (by omega)
  exact hl7 7 0 iv lv hG (by omega) (by omega)
set_option maxRecDepth 20000 in
theorem c_y_nets (g : GE) {i : Nat} {iv : Iv} {lv : Lv} {dd : Nat → Nat} {dm : Nat} (hi : i < 6) (hG : OkR dd dm iv lv) : ConV g yX9_nets cX9_nets 6 none 2 [rf g 551, .int (nI i)] iv lv (fun iv lv => OkR dd dm iv lv) := by
  refine con_intro (own := "RollingNetsModel") (by decide +kernel) rfl (Nat.le_of_ble_eq_true rfl) (L0 := [some (rf g 551), some (.int (nI i)), none, none, none, none]) rfl (fun Z zh => ?_)
  refine z_iconst zh dX9_nets_0 ki_0 ?_
  refine z_istoren zh dX9_nets_1 (by decide) (L' := [some (rf g 551), some (.int (nI i)), some (.int (nI 0)), none, none, none]) rfl ?_
  refine z_iloadn zh dX9_nets_2 rfl ?_
  refine z_aloadnR zh dX9_nets_3 rfl ?_
  refine z_getf zh fl_Y_7 dX9_nets_4 ck_Y rfl rfl ?_
  refine z_bipush zh dX9_nets_7 kb_7 ?_
  refine z_ialdE (x := nI 0) zh ck_now dX9_nets_9 (by decide) (r1_now hG (by decide)) ?_
  refine z_icmp_ge_N (tgt := 136) zh (by decide) (by decide) dX9_nets_10 rfl (fun _ => ?_) (fun q => absurd q (by decide))
  exact z_vret zh dX9_nets_136 (⟨rfl, hG⟩)
set_option maxRecDepth 20000 in
theorem c_y_allots (g : GE) {i : Nat} {iv : Iv} {lv : Lv} {dd : Nat → Nat} {dm : Nat} (hi : i < 6) (hG : OkR dd dm iv lv) : ConV g yX9_allots cX9_allots 4 none 2 [rf g 551, .int (nI i)] iv lv (fun iv lv => OkR dd dm iv lv) := by
  refine con_intro (own := "RollingNetsModel") (by decide +kernel) rfl (Nat.le_of_ble_eq_true rfl) (L0 := [some (rf g 551), some (.int (nI i)), none, none]) rfl (fun Z zh => ?_)
  refine z_aloadnR zh dX9_allots_0 rfl ?_
  refine z_getI (x := nI 0) zh fl_Y_250 dX9_allots_1 ck_Y rfl rfl (r1_pool hG) ?_
  refine z_if_le_N (tgt := 124) zh (by decide) dX9_allots_4 rfl (fun _ => ?_) (fun q => absurd q (by decide))
  exact z_vret zh dX9_allots_124 (⟨rfl, hG⟩)
set_option maxRecDepth 20000 in
theorem c_y_lends (g : GE) {i : Nat} {iv : Iv} {lv : Lv} {dd : Nat → Nat} {dm : Nat} (hi : i < 6) (hG : OkR dd dm iv lv) : ConV g yX9_lends cX9_lends 3 none 4 [rf g 551, .int (nI i)] iv lv (fun iv lv => OkR dd dm iv lv) := by
  refine con_intro (own := "RollingNetsModel") (by decide +kernel) rfl (Nat.le_of_ble_eq_true rfl) (L0 := [some (rf g 551), some (.int (nI i)), none]) rfl (fun Z zh => ?_)
  refine z_aloadnR zh dX9_lends_0 rfl ?_
  refine z_iloadn zh dX9_lends_1 rfl ?_
  refine z_aloadnR zh dX9_lends_2 rfl ?_
  refine z_getf zh fl_Y_7 dX9_lends_3 ck_Y rfl rfl ?_
  refine z_bipush zh dX9_lends_6 kb_6 ?_
  refine z_ialdE (x := nI dm) zh ck_now dX9_lends_8 (by decide) (r1_DAY hG) ?_
  refine z_aloadnR zh dX9_lends_9 rfl ?_
  refine z_iconst zh dX9_lends_10 ki_2 ?_
  refine z_callVIp zh mv_Y_144 dX9_lends_11 ck_Y rfl (c_y_settingOf2 g (r1_now hG (by decide))) ⟨Nat.le_of_ble_eq_true rfl, Nat.le_of_ble_eq_true rfl⟩ rfl rfl (Nat.le_of_ble_eq_true rfl) ?_
  refine z_isub zh dX9_lends_14 ?_
  refine z_callVV zh mv_Y_271 dX9_lends_15 ck_Y rfl (c_y_laysQueue g hi hG) ⟨Nat.le_of_ble_eq_true rfl, Nat.le_of_ble_eq_true rfl⟩ rfl rfl (Nat.le_of_ble_eq_true rfl) ?_
  rintro iv lv hG
  refine z_iconst zh dX9_lends_18 ki_0 ?_
  refine z_istoren zh dX9_lends_19 (by decide) (L' := [some (rf g 551), some (.int (nI i)), some (.int (nI 0))]) rfl ?_
  refine z_iloadn zh dX9_lends_20 rfl ?_
  refine z_aloadnR zh dX9_lends_21 rfl ?_
  refine z_getI (x := nI 0) zh fl_Y_240 dX9_lends_22 ck_Y rfl rfl (r1_qMany hG) ?_
  refine z_icmp_ge_N (tgt := 51) zh (by decide) (by decide) dX9_lends_25 rfl (fun _ => ?_) (fun q => absurd q (by decide))
  exact z_vret zh dX9_lends_51 (⟨rfl, hG⟩)
set_option maxRecDepth 20000 in
theorem c_y_doesApart (g : GE) {i : Nat} {iv : Iv} {lv : Lv} {dd : Nat → Nat} {dm : Nat} (hi : i < 6) (hG : OkR dd dm iv lv) : ConV g yX9_doesApart cX9_doesApart 6 none 2 [rf g 551, .int (nI i)] iv lv (fun iv lv => OkR dd dm iv lv) := by
  refine con_intro (own := "RollingNetsModel") (by decide +kernel) rfl (Nat.le_of_ble_eq_true rfl) (L0 := [some (rf g 551), some (.int (nI i)), none, none, none, none]) rfl (fun Z zh => ?_)
  refine z_iconst zh dX9_doesApart_0 ki_0 ?_
  refine z_istoren zh dX9_doesApart_1 (by decide) (L' := [some (rf g 551), some (.int (nI i)), some (.int (nI 0)), none, none, none]) rfl ?_
  refine z_iloadn zh dX9_doesApart_2 rfl ?_
  refine z_aloadnR zh dX9_doesApart_3 rfl ?_
  refine z_getf zh fl_Y_7 dX9_doesApart_4 ck_Y rfl rfl ?_
  refine z_bipush zh dX9_doesApart_7 kb_7 ?_
  refine z_ialdE (x := nI 0) zh ck_now dX9_doesApart_9 (by decide) (r1_now hG (by decide)) ?_
  refine z_icmp_ge_N (tgt := 145) zh (by decide) (by decide) dX9_doesApart_10 rfl (fun _ => ?_) (fun q => absurd q (by decide))
  exact z_vret zh dX9_doesApart_145 (⟨rfl, hG⟩)
set_option maxRecDepth 20000 in
theorem c_y_fails (g : GE) {k i : Nat} {iv : Iv} {lv : Lv} {dd : Nat → Nat} {dm : Nat} (hk : k < 12) (hi : i < 6) (hG : OkR dd dm iv lv) : ConV g yX9_fails cX9_fails 5 none 4 [rf g 551, .int (nI k), .int (nI i)] iv lv (fun iv lv => OkR dd dm iv lv) := by
  refine con_intro (own := "RollingNetsModel") (by decide +kernel) rfl (Nat.le_of_ble_eq_true rfl) (L0 := [some (rf g 551), some (.int (nI k)), some (.int (nI i)), none, none]) rfl (fun Z zh => ?_)
  refine z_aloadnR zh dX9_fails_0 rfl ?_
  refine z_iloadn zh dX9_fails_1 rfl ?_
  refine z_iloadn zh dX9_fails_2 rfl ?_
  refine z_callVIp zh mv_Y_116 dX9_fails_3 ck_Y rfl (c_y_isShort g hk hi hG) ⟨Nat.le_of_ble_eq_true rfl, Nat.le_of_ble_eq_true rfl⟩ rfl rfl (Nat.le_of_ble_eq_true rfl) ?_
  refine z_if_ne_N (tgt := 10) zh (by decide) dX9_fails_6 rfl (fun q => absurd q (by decide)) (fun _ => ?_)
  exact z_vret zh dX9_fails_9 (⟨rfl, hG⟩)
set_option maxRecDepth 20000 in
theorem c_y_marks (g : GE) {i : Nat} {iv : Iv} {lv : Lv} {dd : Nat → Nat} {dm : Nat} (hi : i < 6) (hG : OkR dd dm iv lv) : ConV g yX9_marks cX9_marks 4 none 5 [rf g 551, .int (nI i)] iv lv (fun iv lv => OkR dd dm iv lv) := by
  refine con_intro (own := "RollingNetsModel") (by decide +kernel) rfl (Nat.le_of_ble_eq_true rfl) (L0 := [some (rf g 551), some (.int (nI i)), none, none]) rfl (fun Z zh => ?_)
  refine z_iconst zh dX9_marks_0 ki_0 ?_
  refine z_istoren zh dX9_marks_1 (by decide) (L' := [some (rf g 551), some (.int (nI i)), some (.int (nI 0)), none]) rfl ?_
  have hl2 : ∀ (n k2 : Nat) (iv : Iv) (lv : Lv), OkR dd dm iv lv → k2 ≤ 6 → 6 - k2 < n → Z 2 [some (rf g 551), some (.int (nI i)), some (.int (nI k2)), none] [] iv lv := by
    intro n
    induction n with
    | zero => intro k2 iv lv _ _ hn; exact absurd hn (Nat.not_lt_zero _)
    | succ n ih2 =>
      intro k2 iv lv hG hk2 hn2
      refine z_iloadn zh dX9_marks_2 rfl ?_
      refine z_aloadnR zh dX9_marks_3 rfl ?_
      refine z_callVIp zh mv_Y_61 dX9_marks_4 ck_Y rfl (c_y_memberMany g  hG) ⟨Nat.le_of_ble_eq_true rfl, Nat.le_of_ble_eq_true rfl⟩ rfl rfl (Nat.le_of_ble_eq_true rfl) ?_
      refine z_icmp_ge_N (tgt := 41) zh (by omega) (by decide) dX9_marks_7 rfl (fun hb1 => ?_) (fun hb1 => ?_)
      · refine z_aloadnR zh dX9_marks_41 rfl ?_
        refine z_getf zh fl_Y_7 dX9_marks_42 ck_Y rfl rfl ?_
        refine z_bipush zh dX9_marks_45 kb_22 ?_
        refine z_iloadn zh dX9_marks_47 rfl ?_
        refine z_iaddN zh dX9_marks_48 ?_
        refine z_aloadnR zh dX9_marks_49 rfl ?_
        refine z_getf zh fl_Y_7 dX9_marks_50 ck_Y rfl rfl ?_
        refine z_bipush zh dX9_marks_53 kb_16 ?_
        refine z_iloadn zh dX9_marks_55 rfl ?_
        refine z_iaddN zh dX9_marks_56 ?_
        refine z_ialdE (x := nI 0) zh ck_now dX9_marks_57 (by omega) (r1_now hG (by omega)) ?_
        refine z_iastN zh ck_now dX9_marks_58 (by omega) ?_
        have hG := okR_wI (k := 552) (j := 22 + i) (x := nI 0) hG (w1_now (by omega) rfl)
        generalize upI iv (552) (22 + i) (nI 0) = iv at hG ⊢
        refine z_aloadnR zh dX9_marks_59 rfl ?_
        refine z_getf zh fl_Y_7 dX9_marks_60 ck_Y rfl rfl ?_
        refine z_bipush zh dX9_marks_63 kb_28 ?_
        refine z_iloadn zh dX9_marks_65 rfl ?_
        refine z_iaddN zh dX9_marks_66 ?_
        refine z_ialdE (x := nI 0) zh ck_now dX9_marks_67 (by omega) (r1_now hG (by omega)) ?_
        refine z_istoren zh dX9_marks_68 (by decide) (L' := [some (rf g 551), some (.int (nI i)), some (.int (nI 0)), none]) rfl ?_
        refine z_iconst zh dX9_marks_69 ki_0 ?_
        refine z_istoren zh dX9_marks_70 (by decide) (L' := [some (rf g 551), some (.int (nI i)), some (.int (nI 0)), some (.int (nI 0))]) rfl ?_
        have hl71 : ∀ (n k71 : Nat) (iv : Iv) (lv : Lv), OkR dd dm iv lv → k71 ≤ 6 → 6 - k71 < n → Z 71 [some (rf g 551), some (.int (nI i)), some (.int (nI 0)), some (.int (nI k71))] [] iv lv := by
          intro n
          induction n with
          | zero => intro k71 iv lv _ _ hn; exact absurd hn (Nat.not_lt_zero _)
          | succ n ih71 =>
            intro k71 iv lv hG hk71 hn71
            refine z_iloadn zh dX9_marks_71 rfl ?_
            refine z_aloadnR zh dX9_marks_72 rfl ?_
            refine z_callVIp zh mv_Y_61 dX9_marks_73 ck_Y rfl (c_y_memberMany g  hG) ⟨Nat.le_of_ble_eq_true rfl, Nat.le_of_ble_eq_true rfl⟩ rfl rfl (Nat.le_of_ble_eq_true rfl) ?_
            refine z_icmp_ge_N (tgt := 132) zh (by omega) (by decide) dX9_marks_76 rfl (fun hb2 => ?_) (fun hb2 => ?_)
            · refine z_aloadnR zh dX9_marks_132 rfl ?_
              refine z_getf zh fl_Y_7 dX9_marks_133 ck_Y rfl rfl ?_
              refine z_bipush zh dX9_marks_136 kb_28 ?_
              refine z_iloadn zh dX9_marks_138 rfl ?_
              refine z_iaddN zh dX9_marks_139 ?_
              refine z_iconst zh dX9_marks_140 ki_0 ?_
              refine z_iastN zh ck_now dX9_marks_141 (by omega) ?_
              have hG := okR_wI (k := 552) (j := 28 + i) (x := nI 0) hG (w1_now (by omega) rfl)
              generalize upI iv (552) (28 + i) (nI 0) = iv at hG ⊢
              refine z_iconst zh dX9_marks_142 ki_0 ?_
              refine z_istoren zh dX9_marks_143 (by decide) (L' := [some (rf g 551), some (.int (nI i)), some (.int (nI 0)), some (.int (nI 0))]) rfl ?_
              have hl144 : ∀ (n k144 : Nat) (iv : Iv) (lv : Lv), OkR dd dm iv lv → k144 ≤ 6 → 6 - k144 < n → Z 144 [some (rf g 551), some (.int (nI i)), some (.int (nI 0)), some (.int (nI k144))] [] iv lv := by
                intro n
                induction n with
                | zero => intro k144 iv lv _ _ hn; exact absurd hn (Nat.not_lt_zero _)
                | succ n ih144 =>
                  intro k144 iv lv hG hk144 hn144
                  refine z_iloadn zh dX9_marks_144 rfl ?_
                  refine z_aloadnR zh dX9_marks_145 rfl ?_
                  refine z_callVIp zh mv_Y_61 dX9_marks_146 ck_Y rfl (c_y_memberMany g  hG) ⟨Nat.le_of_ble_eq_true rfl, Nat.le_of_ble_eq_true rfl⟩ rfl rfl (Nat.le_of_ble_eq_true rfl) ?_
                  refine z_icmp_ge_N (tgt := 164) zh (by omega) (by decide) dX9_marks_149 rfl (fun hb3 => ?_) (fun hb3 => ?_)
                  · exact z_vret zh dX9_marks_164 (⟨rfl, hG⟩)
                  · refine z_aloadnR zh dX9_marks_152 rfl ?_
                    refine z_iloadn zh dX9_marks_153 rfl ?_
                    refine z_iloadn zh dX9_marks_154 rfl ?_
                    refine z_callVV zh mv_Y_279 dX9_marks_155 ck_Y rfl (c_y_fails g (by omega) hi hG) ⟨Nat.le_of_ble_eq_true rfl, Nat.le_of_ble_eq_true rfl⟩ rfl rfl (Nat.le_of_ble_eq_true rfl) ?_
                    rintro iv lv hG
                    refine z_iincN zh dX9_marks_158 ki_1 (by decide) rfl (L' := [some (rf g 551), some (.int (nI i)), some (.int (nI 0)), some (.int (nI (k144 + 1)))]) rfl ?_
                    refine z_goto (tgt := 144) zh dX9_marks_161 rfl ?_
                    exact ih144 (k144 + 1) iv lv hG (by omega) (by omega)
              exact hl144 7 0 iv lv hG (by omega) (by omega)
            · refine z_aloadnR zh dX9_marks_79 rfl ?_
              refine z_iloadn zh dX9_marks_80 rfl ?_
              refine z_iloadn zh dX9_marks_81 rfl ?_
              refine z_i2l zh dX9_marks_82 ?_
              rw [show (nI 0).toInt64 = (0 : Int64) from by decide]
              refine z_aloadnR zh dX9_marks_83 rfl ?_
              refine z_iloadn zh dX9_marks_84 rfl ?_
              refine z_iloadn zh dX9_marks_85 rfl ?_
              refine z_callVIp zh mv_Y_73 dX9_marks_86 ck_Y rfl (c_y_stockOf g (by omega) hi hG) ⟨Nat.le_of_ble_eq_true rfl, Nat.le_of_ble_eq_true rfl⟩ rfl rfl (Nat.le_of_ble_eq_true rfl) ?_
              refine z_aloadnR zh dX9_marks_89 rfl ?_
              refine z_iloadn zh dX9_marks_90 rfl ?_
              refine z_iloadn zh dX9_marks_91 rfl ?_
              refine z_callVIp zh mv_Y_119 dX9_marks_92 ck_Y rfl (c_y_positionOf g (by omega) hi hG) ⟨Nat.le_of_ble_eq_true rfl, Nat.le_of_ble_eq_true rfl⟩ rfl rfl (Nat.le_of_ble_eq_true rfl) ?_
              refine z_iaddN zh dX9_marks_95 ?_
              refine z_i2l zh dX9_marks_96 ?_
              rw [show (nI 0).toInt64 = (0 : Int64) from by decide]
              refine z_lmul zh dX9_marks_97 ?_
              rw [show (0 : Int64) * (0 : Int64) = (0 : Int64) from by decide]
              refine z_callVV zh mv_Y_206 dX9_marks_98 ck_Y rfl (c_y_cashMore g (by omega) hG) ⟨Nat.le_of_ble_eq_true rfl, Nat.le_of_ble_eq_true rfl⟩ rfl rfl (Nat.le_of_ble_eq_true rfl) ?_
              rintro iv lv hG
              refine z_aloadnR zh dX9_marks_101 rfl ?_
              refine z_getf zh fl_Y_16 dX9_marks_102 ck_Y rfl rfl ?_
              refine z_bipush zh dX9_marks_105 kb_12 ?_
              refine z_aloadnR zh dX9_marks_107 rfl ?_
              refine z_getf zh fl_Y_16 dX9_marks_108 ck_Y rfl rfl ?_
              refine z_bipush zh dX9_marks_111 kb_12 ?_
              refine z_laldE (x := (0 : Int64)) zh ck_coins dX9_marks_113 (by decide) (r1_coins hG) ?_
              refine z_iloadn zh dX9_marks_114 rfl ?_
              refine z_i2l zh dX9_marks_115 ?_
              rw [show (nI 0).toInt64 = (0 : Int64) from by decide]
              refine z_aloadnR zh dX9_marks_116 rfl ?_
              refine z_iloadn zh dX9_marks_117 rfl ?_
              refine z_iloadn zh dX9_marks_118 rfl ?_
              refine z_callVIp zh mv_Y_73 dX9_marks_119 ck_Y rfl (c_y_stockOf g (by omega) hi hG) ⟨Nat.le_of_ble_eq_true rfl, Nat.le_of_ble_eq_true rfl⟩ rfl rfl (Nat.le_of_ble_eq_true rfl) ?_
              refine z_i2l zh dX9_marks_122 ?_
              rw [show (nI 0).toInt64 = (0 : Int64) from by decide]
              refine z_lmul zh dX9_marks_123 ?_
              rw [show (0 : Int64) * (0 : Int64) = (0 : Int64) from by decide]
              refine z_lsub zh dX9_marks_124 ?_
              rw [show (0 : Int64) - (0 : Int64) = (0 : Int64) from by decide]
              refine z_lastN zh ck_coins dX9_marks_125 (by decide) ?_
              have hG := okR_wL (k := 554) (j := 12) (x := (0 : Int64)) hG (w1_eqL rfl)
              generalize upL lv (554) (12) ((0 : Int64)) = lv at hG ⊢
              refine z_iincN zh dX9_marks_126 ki_1 (by decide) rfl (L' := [some (rf g 551), some (.int (nI i)), some (.int (nI 0)), some (.int (nI (k71 + 1)))]) rfl ?_
              refine z_goto (tgt := 71) zh dX9_marks_129 rfl ?_
              exact ih71 (k71 + 1) iv lv hG (by omega) (by omega)
        exact hl71 7 0 iv lv hG (by omega) (by omega)
      · refine z_aloadnR zh dX9_marks_10 rfl ?_
        refine z_iloadn zh dX9_marks_11 rfl ?_
        refine z_aloadnR zh dX9_marks_12 rfl ?_
        refine z_iloadn zh dX9_marks_13 rfl ?_
        refine z_iloadn zh dX9_marks_14 rfl ?_
        refine z_callVIp zh mv_Y_119 dX9_marks_15 ck_Y rfl (c_y_positionOf g (by omega) hi hG) ⟨Nat.le_of_ble_eq_true rfl, Nat.le_of_ble_eq_true rfl⟩ rfl rfl (Nat.le_of_ble_eq_true rfl) ?_
        refine z_i2l zh dX9_marks_18 ?_
        rw [show (nI 0).toInt64 = (0 : Int64) from by decide]
        refine z_aloadnR zh dX9_marks_19 rfl ?_
        refine z_iloadn zh dX9_marks_20 rfl ?_
        refine z_callVIp zh mv_Y_197 dX9_marks_21 ck_Y rfl (c_y_priceOf g hi hG) ⟨Nat.le_of_ble_eq_true rfl, Nat.le_of_ble_eq_true rfl⟩ rfl rfl (Nat.le_of_ble_eq_true rfl) ?_
        refine z_aloadnR zh dX9_marks_24 rfl ?_
        refine z_iloadn zh dX9_marks_25 rfl ?_
        refine z_callVIp zh mv_Y_203 dX9_marks_26 ck_Y rfl (c_y_markedOf g hi hG) ⟨Nat.le_of_ble_eq_true rfl, Nat.le_of_ble_eq_true rfl⟩ rfl rfl (Nat.le_of_ble_eq_true rfl) ?_
        refine z_isubN zh (by omega) dX9_marks_29 ?_
        refine z_i2l zh dX9_marks_30 ?_
        rw [show (nI 0).toInt64 = (0 : Int64) from by decide]
        refine z_lmul zh dX9_marks_31 ?_
        rw [show (0 : Int64) * (0 : Int64) = (0 : Int64) from by decide]
        refine z_callVV zh mv_Y_206 dX9_marks_32 ck_Y rfl (c_y_cashMore g (by omega) hG) ⟨Nat.le_of_ble_eq_true rfl, Nat.le_of_ble_eq_true rfl⟩ rfl rfl (Nat.le_of_ble_eq_true rfl) ?_
        rintro iv lv hG
        refine z_iincN zh dX9_marks_35 ki_1 (by decide) rfl (L' := [some (rf g 551), some (.int (nI i)), some (.int (nI (k2 + 1))), none]) rfl ?_
        refine z_goto (tgt := 2) zh dX9_marks_38 rfl ?_
        exact ih2 (k2 + 1) iv lv hG (by omega) (by omega)
  exact hl2 7 0 iv lv hG (by omega) (by omega)
