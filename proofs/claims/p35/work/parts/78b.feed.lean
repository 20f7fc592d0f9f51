def tf_x (t : Nat → Int32) (n : Nat) (a b c d e : Int32) : Nat → Int32 := ta_x (ta_x (ta_x (ta_x (ta_x t n a) (n + 4) b) (n + 8) c) (n + 12) d) (n + 16) e
theorem ts_lt {t : Nat → Int32} {n j : Nat} {x : Int32} (h : j < n) : ts_x t n x j = t j := if_pos h
theorem ts_P {P : Int32 → Prop} {t : Nat → Int32} {n : Nat} {x : Int32} (h : ∀ j, j < n → P (t j)) (hx : P x) : ∀ j, j < n + 1 → P (ts_x t n x j) := fun j hj => by
  unfold ts_x
  by_cases e : j < n
  · rw [if_pos e]; exact h j e
  · rw [if_neg e]; exact hx
theorem ta_P {t : Nat → Int32} {n : Nat} {a : Int32} (h : ∀ j, j < n → ¬ t j = -1) : ∀ j, j < n + 4 → ¬ ta_x t n a j = -1 := ts_P (P := fun z => ¬ z = -1) (ts_P (P := fun z => ¬ z = -1) (ts_P (P := fun z => ¬ z = -1) (ts_P (P := fun z => ¬ z = -1) h sb_m) sb_m) sb_m) sb_m
theorem tf_P {t : Nat → Int32} {n : Nat} {a b c d e : Int32} (h : ∀ j, j < n → ¬ t j = -1) : ∀ j, j < n + 20 → ¬ tf_x t n a b c d e j = -1 := ta_P (ta_P (ta_P (ta_P (ta_P h))))
theorem e_X6_hasRoom (g : GE) {iv : Iv} {lv : Lv} {n : Nat} (en : iv 541 1 = nI n) (hn : n ≤ 400) : ConI g yX6_hasRoom cX6_hasRoom 1 (some .boolean) 1 [rf g 541] iv lv (fun r iv' lv' => iv = iv' ∧ lv = lv' ∧ Ra 0 1 r ∧ (r = 0 ↔ ¬ n ≤ 380)) := by
  refine con_intro (own := "RollingNets$Reader") (by decide +kernel) rfl (Nat.le_of_ble_eq_true rfl) (L0 := [some (rf g 541)]) rfl (fun Z zh => ?_)
  refine z_aloadnR zh dX6_hasRoom_0 rfl ?_
  refine z_getI (x := nI n) zh fl_Reader_15 dX6_hasRoom_1 ck_R rfl rfl en ?_
  refine z_bipush zh dX6_hasRoom_4 kb_20 ?_
  refine z_iaddN zh dX6_hasRoom_6 ?_
  refine z_sipush zh dX6_hasRoom_7 ks_400 ?_
  refine z_icmp_gt_N (tgt := 17) zh (by omega) (by omega) dX6_hasRoom_10 rfl (fun q => ?_) (fun q => ?_)
  · refine z_iconst zh dX6_hasRoom_17 ki_0 ?_
    exact z_zret zh dX6_hasRoom_18 (Or.inl rfl) ⟨_, rfl, rfl, rfl, ⟨by decide, by decide⟩, ⟨fun _ => by omega, fun _ => rfl⟩⟩
  · refine z_iconst zh dX6_hasRoom_13 ki_1 ?_
    refine z_goto (tgt := 18) zh dX6_hasRoom_14 rfl ?_
    exact z_zret zh dX6_hasRoom_18 (Or.inr rfl) ⟨_, rfl, rfl, rfl, ⟨by decide, by decide⟩, ⟨fun w => absurd w (by decide), fun w => absurd q (by omega)⟩⟩
set_option maxRecDepth 20000 in
theorem e_X8_feed (g : GE) {sp : Nat → Nat → Bool} {σ : Iv} {iv : Iv} {lv : Lv} {a1 : Int32} {a2 : Int32} {a3 : Int32} {a4 : Int32} {a5 : Int32}  {n : Nat} {t : Nat → Int32} (hG : SI sp σ iv) (hL : sp 541 1 = false) (hT : ∀ j, sp 542 j = false) (ht : Tp 541 1 542 n t iv) (hn : n ≤ 400) : ConI g yX8_feed cX8_feed 6 (some .int) 2 [rf g 0, .int a1, .int a2, .int a3, .int a4, .int a5] iv lv (fun r iv lv => SI sp σ iv ∧ (n ≤ 380 → r = nI (n + 20) ∧ Tp 541 1 542 (n + 20) (tf_x t n a1 a2 a3 a4 a5) iv) ∧ (¬ n ≤ 380 → r = -1 ∧ Tp 541 1 542 n t iv)) := by
  refine con_intro (own := "RollingNets") (by decide +kernel) rfl (Nat.le_of_ble_eq_true rfl) (L0 := [some (rf g 0), some (.int a1), some (.int a2), some (.int a3), some (.int a4), some (.int a5)]) rfl (fun Z zh => ?_)
  refine z_aloadnR zh dX8_feed_0 rfl ?_
  refine z_getf zh fl_RollingNets_25 dX8_feed_1 ck_X rfl rfl ?_
  refine z_callVI zh mv_RollingNets_138 dX8_feed_4 ck_R rfl (e_X6_hasRoom g ht.1 hn) ⟨Nat.le_of_ble_eq_true rfl, Nat.le_of_ble_eq_true rfl⟩ rfl rfl (Nat.le_of_ble_eq_true rfl) ?_
  rintro x1 _ _ ⟨rfl, rfl, hx1, hw1⟩
  refine z_if_ne (tgt := 12) zh dX8_feed_7 rfl (fun q2 => ?_) (fun q2 => ?_)
  · have h20 : n ≤ 380 := byc (mt hw1.mpr q2)
    have r3 : Ra 1 1 x1 := rb_ne_lo hx1 ra_z q2 (by decide)
    refine z_aloadnR zh dX8_feed_12 rfl ?_
    refine z_getf zh fl_RollingNets_25 dX8_feed_13 ck_X rfl rfl ?_
    refine z_iloadn zh dX8_feed_16 rfl ?_
    refine z_callVV zh mv_RollingNets_142 dX8_feed_17 ck_R rfl (e_X6_append g hG hL hT ht (by omega)) ⟨Nat.le_of_ble_eq_true rfl, Nat.le_of_ble_eq_true rfl⟩ rfl rfl (Nat.le_of_ble_eq_true rfl) ?_
    rintro iv lv ⟨hG, ht⟩
    refine z_aloadnR zh dX8_feed_20 rfl ?_
    refine z_getf zh fl_RollingNets_25 dX8_feed_21 ck_X rfl rfl ?_
    refine z_iloadn zh dX8_feed_24 rfl ?_
    refine z_callVV zh mv_RollingNets_142 dX8_feed_25 ck_R rfl (e_X6_append g hG hL hT ht (by omega)) ⟨Nat.le_of_ble_eq_true rfl, Nat.le_of_ble_eq_true rfl⟩ rfl rfl (Nat.le_of_ble_eq_true rfl) ?_
    rintro iv lv ⟨hG, ht⟩
    refine z_aloadnR zh dX8_feed_28 rfl ?_
    refine z_getf zh fl_RollingNets_25 dX8_feed_29 ck_X rfl rfl ?_
    refine z_iloadn zh dX8_feed_32 rfl ?_
    refine z_callVV zh mv_RollingNets_142 dX8_feed_33 ck_R rfl (e_X6_append g hG hL hT ht (by omega)) ⟨Nat.le_of_ble_eq_true rfl, Nat.le_of_ble_eq_true rfl⟩ rfl rfl (Nat.le_of_ble_eq_true rfl) ?_
    rintro iv lv ⟨hG, ht⟩
    refine z_aloadnR zh dX8_feed_36 rfl ?_
    refine z_getf zh fl_RollingNets_25 dX8_feed_37 ck_X rfl rfl ?_
    refine z_iload zh dX8_feed_40 rfl ?_
    refine z_callVV zh mv_RollingNets_142 dX8_feed_42 ck_R rfl (e_X6_append g hG hL hT ht (by omega)) ⟨Nat.le_of_ble_eq_true rfl, Nat.le_of_ble_eq_true rfl⟩ rfl rfl (Nat.le_of_ble_eq_true rfl) ?_
    rintro iv lv ⟨hG, ht⟩
    refine z_aloadnR zh dX8_feed_45 rfl ?_
    refine z_getf zh fl_RollingNets_25 dX8_feed_46 ck_X rfl rfl ?_
    refine z_iload zh dX8_feed_49 rfl ?_
    refine z_callVV zh mv_RollingNets_142 dX8_feed_51 ck_R rfl (e_X6_append g hG hL hT ht (by omega)) ⟨Nat.le_of_ble_eq_true rfl, Nat.le_of_ble_eq_true rfl⟩ rfl rfl (Nat.le_of_ble_eq_true rfl) ?_
    rintro iv lv ⟨hG, ht⟩
    refine z_aloadnR zh dX8_feed_54 rfl ?_
    refine z_getf zh fl_RollingNets_25 dX8_feed_55 ck_X rfl rfl ?_
    refine z_getI (x := nI (n + 20)) zh fl_RollingNets_146 dX8_feed_58 ck_R rfl rfl ht.1 ?_
    exact z_iret zh dX8_feed_61 ⟨_, rfl, hG, fun _ => ⟨rfl, ht⟩, fun w => absurd h20 w⟩
  · have r5 := rb_eq (u := 0) (v := 0) hx1 ra_z q2 (by decide) (by decide)
    refine z_iconst zh dX8_feed_10 ki_m1 ?_
    exact z_iret zh dX8_feed_11 ⟨_, rfl, hG, fun w => absurd w (hw1.mp q2), fun _ => ⟨rfl, ht⟩⟩
set_option maxRecDepth 20000 in
theorem e_X9_feed (g : GE) {sp : Nat → Nat → Bool} {σ : Iv} {iv : Iv} {lv : Lv} {a1 : Int32} {a2 : Int32} {a3 : Int32} {a4 : Int32} {a5 : Int32}  {n : Nat} {t : Nat → Int32} (hG : SI sp σ iv) (hL : sp 551 17 = false) (hT : ∀ j, sp 561 j = false) (ht : Tp 551 17 561 n t iv) (hn : n ≤ 400) : ConI g yX9_feed cX9_feed 6 (some .int) 2 [rf g 551, .int a1, .int a2, .int a3, .int a4, .int a5] iv lv (fun r iv lv => SI sp σ iv ∧ (n ≤ 380 → r = nI (n + 20) ∧ Tp 551 17 561 (n + 20) (tf_x t n a1 a2 a3 a4 a5) iv) ∧ (¬ n ≤ 380 → r = -1 ∧ Tp 551 17 561 n t iv)) := by
  refine con_intro (own := "RollingNetsModel") (by decide +kernel) rfl (Nat.le_of_ble_eq_true rfl) (L0 := [some (rf g 551), some (.int a1), some (.int a2), some (.int a3), some (.int a4), some (.int a5)]) rfl (fun Z zh => ?_)
  refine z_aloadnR zh dX9_feed_0 rfl ?_
  refine z_iconst zh dX9_feed_1 ki_0 ?_
  refine z_putI zh fl_Y_58 dX9_feed_2 ck_Y rfl rfl (Nat.le_of_ble_eq_true rfl) (Or.inl rfl) ?_
  have hG : SI sp σ (upI iv 551 0 (nI 0)) := si_w (k := 551) (j := 0) hG (by decide) (by decide) (sp_no hG ((spc_Y (q := 0)).trans rfl)) (fun lo hi q => (rx_none rfl) lo hi ((rg_Y (q := 0)).symm.trans q))
  have em1 : upI iv 551 0 (nI 0) 551 0 = nI 0 := by rw [upI_at, if_pos ⟨rfl, rfl⟩]
  have ht : Tp 551 17 561 n t (upI iv 551 0 (nI 0)) := tp_c ht (upI_ne (Or.inr (by decide))) (fun j => upI_ne (Or.inl (by decide)))
  generalize upI iv 551 0 (nI 0) = iv at hG em1 ht ⊢
  refine z_aloadnR zh dX9_feed_5 rfl ?_
  refine z_getI (x := nI n) zh fl_Y_344 dX9_feed_6 ck_Y rfl rfl ht.1 ?_
  refine z_sipush zh dX9_feed_9 ks_380 ?_
  refine z_icmp_le_N (tgt := 17) zh (by omega) (by omega) dX9_feed_12 rfl (fun q3 => ?_) (fun q3 => ?_)
  · refine z_aloadnR zh dX9_feed_17 rfl ?_
    refine z_iloadn zh dX9_feed_18 rfl ?_
    refine z_callVV zh mv_Y_347 dX9_feed_19 ck_Y rfl (e_X9_types g hG hL hT ht (by omega)) ⟨Nat.le_of_ble_eq_true rfl, Nat.le_of_ble_eq_true rfl⟩ rfl rfl (Nat.le_of_ble_eq_true rfl) ?_
    rintro iv lv ⟨hG, ht⟩
    refine z_aloadnR zh dX9_feed_22 rfl ?_
    refine z_iloadn zh dX9_feed_23 rfl ?_
    refine z_callVV zh mv_Y_347 dX9_feed_24 ck_Y rfl (e_X9_types g hG hL hT ht (by omega)) ⟨Nat.le_of_ble_eq_true rfl, Nat.le_of_ble_eq_true rfl⟩ rfl rfl (Nat.le_of_ble_eq_true rfl) ?_
    rintro iv lv ⟨hG, ht⟩
    refine z_aloadnR zh dX9_feed_27 rfl ?_
    refine z_iloadn zh dX9_feed_28 rfl ?_
    refine z_callVV zh mv_Y_347 dX9_feed_29 ck_Y rfl (e_X9_types g hG hL hT ht (by omega)) ⟨Nat.le_of_ble_eq_true rfl, Nat.le_of_ble_eq_true rfl⟩ rfl rfl (Nat.le_of_ble_eq_true rfl) ?_
    rintro iv lv ⟨hG, ht⟩
    refine z_aloadnR zh dX9_feed_32 rfl ?_
    refine z_iload zh dX9_feed_33 rfl ?_
    refine z_callVV zh mv_Y_347 dX9_feed_35 ck_Y rfl (e_X9_types g hG hL hT ht (by omega)) ⟨Nat.le_of_ble_eq_true rfl, Nat.le_of_ble_eq_true rfl⟩ rfl rfl (Nat.le_of_ble_eq_true rfl) ?_
    rintro iv lv ⟨hG, ht⟩
    refine z_aloadnR zh dX9_feed_38 rfl ?_
    refine z_iload zh dX9_feed_39 rfl ?_
    refine z_callVV zh mv_Y_347 dX9_feed_41 ck_Y rfl (e_X9_types g hG hL hT ht (by omega)) ⟨Nat.le_of_ble_eq_true rfl, Nat.le_of_ble_eq_true rfl⟩ rfl rfl (Nat.le_of_ble_eq_true rfl) ?_
    rintro iv lv ⟨hG, ht⟩
    refine z_aloadnR zh dX9_feed_44 rfl ?_
    refine z_getI (x := nI (n + 20)) zh fl_Y_344 dX9_feed_45 ck_Y rfl rfl ht.1 ?_
    exact z_iret zh dX9_feed_48 ⟨_, rfl, hG, fun _ => ⟨rfl, ht⟩, fun w => absurd q3 w⟩
  · refine z_iconst zh dX9_feed_15 ki_m1 ?_
    exact z_iret zh dX9_feed_16 ⟨_, rfl, hG, fun w => absurd w (by omega), fun _ => ⟨rfl, ht⟩⟩
set_option maxRecDepth 20000 in
theorem e_X8_end (g : GE) {sp : Nat → Nat → Bool} {σ : Iv} {iv : Iv} {lv : Lv} {a1 : Int32}  {x : Int32} (hG : SI sp σ iv) (hL : sp 541 1 = false) (ex : iv 541 1 = x) : ConI g yX8_end cX8_end 2 (some .boolean) 1 [rf g 0, .int a1] iv lv (fun r iv lv => SI sp σ iv ∧ (Rg (nI 0) x a1 → r = nI 1 ∧ iv 541 1 = a1) ∧ (¬ Rg (nI 0) x a1 → r = nI 0 ∧ iv 541 1 = x)) := by
  refine con_intro (own := "RollingNets") (by decide +kernel) rfl (Nat.le_of_ble_eq_true rfl) (L0 := [some (rf g 0), some (.int a1)]) rfl (fun Z zh => ?_)
  refine z_iloadn zh dX8_end_0 rfl ?_
  refine z_if_lt (tgt := 15) zh dX8_end_1 rfl (fun q1 => ?_) (fun q1 => ?_)
  · have r2 : Ra (-2147483648) (-1) a1 := rb_lt_l ra_z (ra_tt a1) q1 (by decide)
    refine z_iconst zh dX8_end_15 ki_0 ?_
    exact z_zret zh dX8_end_16 (ra_01 (ra_w rl_0 (by decide) (by decide))) ⟨_, rfl, hG, fun w => absurd (leI.mp w.1) (by have h5 := r2.2; have e0 : (nI 0).toInt = 0 := (by decide); omega), fun _ => ⟨rfl, ex⟩⟩
  · have r3 : Ra 0 2147483647 a1 := rb_le_r ra_z (ra_tt a1) (rb_nlt q1) (by decide)
    refine z_iloadn zh dX8_end_4 rfl ?_
    refine z_aloadnR zh dX8_end_5 rfl ?_
    refine z_getf zh fl_RollingNets_25 dX8_end_6 ck_X rfl rfl ?_
    refine y_getI zh fl_RollingNets_146 dX8_end_9 ck_R rfl rfl (fun x4 ex4 => ?_)
    have hxx : x4 = x := ex4.symm.trans ex
    have hx4 : Ra 0 400 x4 := ra_of ex4 (si_c hG (k := 541) (j := 1) rfl)
    refine z_icmp_le (tgt := 17) zh dX8_end_12 rfl (fun q5 => ?_) (fun q5 => ?_)
    · have r6 : Ra 0 400 a1 := rb_le_l hx4 r3 q5 (by decide)
      refine z_aloadnR zh dX8_end_17 rfl ?_
      refine z_getf zh fl_RollingNets_25 dX8_end_18 ck_X rfl rfl ?_
      refine z_iloadn zh dX8_end_21 rfl ?_
      refine z_putI zh fl_RollingNets_146 dX8_end_22 ck_R rfl rfl (Nat.le_of_ble_eq_true rfl) (Or.inl rfl) ?_
      have hG : SI sp σ (upI iv 541 1 a1) := si_w (k := 541) (j := 1) hG (by decide) (by decide) hL (rx_some r6)
      have em7 : upI iv 541 1 a1 541 1 = a1 := by rw [upI_at, if_pos ⟨rfl, rfl⟩]
      generalize upI iv 541 1 a1 = iv at hG em7 ⊢
      refine z_iconst zh dX8_end_25 ki_1 ?_
      exact z_zret zh dX8_end_26 (ra_01 (ra_w rl_1 (by decide) (by decide))) ⟨_, rfl, hG, fun _ => ⟨rfl, em7⟩, fun w => absurd ⟨leI.mpr (by have := r3.1; exact this), by rw [← hxx]; exact q5⟩ w⟩
    · have r8 : Ra 1 2147483647 a1 := rb_lt_r hx4 r3 (rb_nle q5) (by decide)
      refine z_iconst zh dX8_end_15 ki_0 ?_
      exact z_zret zh dX8_end_16 (ra_01 (ra_w rl_0 (by decide) (by decide))) ⟨_, rfl, hG, fun w => absurd w.2 (by rw [← hxx]; exact q5), fun _ => ⟨rfl, ex⟩⟩
set_option maxRecDepth 20000 in
theorem e_X9_end (g : GE) {sp : Nat → Nat → Bool} {σ : Iv} {iv : Iv} {lv : Lv} {a1 : Int32}  {x : Int32} (hG : SI sp σ iv) (hL : sp 551 17 = false) (ex : iv 551 17 = x) : ConI g yX9_end cX9_end 2 (some .boolean) 2 [rf g 551, .int a1] iv lv (fun r iv lv => SI sp σ iv ∧ (Rg (nI 0) x a1 → r = nI 1 ∧ iv 551 17 = a1) ∧ (¬ Rg (nI 0) x a1 → r = nI 0 ∧ iv 551 17 = x)) := by
  refine con_intro (own := "RollingNetsModel") (by decide +kernel) rfl (Nat.le_of_ble_eq_true rfl) (L0 := [some (rf g 551), some (.int a1)]) rfl (fun Z zh => ?_)
  refine z_aloadnR zh dX9_end_0 rfl ?_
  refine z_iconst zh dX9_end_1 ki_0 ?_
  refine z_putI zh fl_Y_58 dX9_end_2 ck_Y rfl rfl (Nat.le_of_ble_eq_true rfl) (Or.inl rfl) ?_
  have hG : SI sp σ (upI iv 551 0 (nI 0)) := si_w (k := 551) (j := 0) hG (by decide) (by decide) (sp_no hG ((spc_Y (q := 0)).trans rfl)) (fun lo hi q => (rx_none rfl) lo hi ((rg_Y (q := 0)).symm.trans q))
  have em1 : upI iv 551 0 (nI 0) 551 0 = nI 0 := by rw [upI_at, if_pos ⟨rfl, rfl⟩]
  have ex : upI iv 551 0 (nI 0) 551 17 = x := (upI_ne (Or.inr (by decide))).trans ex
  generalize upI iv 551 0 (nI 0) = iv at hG em1 ex ⊢
  refine z_aloadnR zh dX9_end_5 rfl ?_
  refine z_iloadn zh dX9_end_6 rfl ?_
  refine z_iconst zh dX9_end_7 ki_0 ?_
  refine z_aloadnR zh dX9_end_8 rfl ?_
  refine y_getI zh fl_Y_344 dX9_end_9 ck_Y rfl rfl (fun x2 ex2 => ?_)
  have hx2 : Ra 0 400 x2 := ra_of ex2 (si_Y hG 0 (j := 17) rfl)
  refine z_callVI zh mv_Y_79 dX9_end_12 ck_Y rfl (t_X9_isIn g) ⟨Nat.le_of_ble_eq_true rfl, Nat.le_of_ble_eq_true rfl⟩ rfl rfl (Nat.le_of_ble_eq_true rfl) ?_
  have hxx : x2 = x := ex2.symm.trans ex
  rintro x3 _ _ ⟨rfl, rfl, hx3, hz4, hw3⟩
  refine z_if_ne (tgt := 20) zh dX9_end_15 rfl (fun q5 => ?_) (fun q5 => ?_)
  · have r6 : Ra 1 1 x3 := rb_ne_lo hx3 ra_z q5 (by decide)
    have r7 : Ra 0 400 a1 := (rb_in rl_0 hx2 (hz4 q5))
    refine z_aloadnR zh dX9_end_20 rfl ?_
    refine z_iloadn zh dX9_end_21 rfl ?_
    refine z_putI zh fl_Y_344 dX9_end_22 ck_Y rfl rfl (Nat.le_of_ble_eq_true rfl) (Or.inl rfl) ?_
    have hG : SI sp σ (upI iv 551 17 a1) := si_w (k := 551) (j := 17) hG (by decide) (by decide) hL (fun lo hi q => (rx_some r7) lo hi ((rg_Y (q := 0)).symm.trans q))
    have em8 := (upI_ne (iv := iv) (k := 551) (j := 17) (x := a1) (a := 551) (b := 0) (Or.inr (by decide))).trans em1
    have em9 : upI iv 551 17 a1 551 17 = a1 := by rw [upI_at, if_pos ⟨rfl, rfl⟩]
    generalize upI iv 551 17 a1 = iv at hG em8 em9 ⊢
    refine z_iconst zh dX9_end_25 ki_1 ?_
    exact z_zret zh dX9_end_26 (ra_01 (ra_w rl_1 (by decide) (by decide))) ⟨_, rfl, hG, fun _ => ⟨rfl, em9⟩, fun w => absurd (byc (mt hw3.mpr q5)) (by rw [hxx]; exact w)⟩
  · have r10 := rb_eq (u := 0) (v := 0) hx3 ra_z q5 (by decide) (by decide)
    refine z_iconst zh dX9_end_18 ki_0 ?_
    exact z_zret zh dX9_end_19 (ra_01 (ra_w rl_0 (by decide) (by decide))) ⟨_, rfl, hG, fun w => absurd (by rw [hxx]; exact w) (hw3.mp q5), fun _ => ⟨rfl, ex⟩⟩
