noncomputable def sp_iss (w : Int32) : Int32 := sel (InN 9 w) (sel (w = nI 0) (nI 100) (sel (w = nI 1) (nI 100) (sel (w = nI 5) (-1) (nI 0)))) (-1)
set_option maxRecDepth 20000 in
theorem c_overMembers (g : GE) {h i : Nat} {w : Int32} {iv : Iv} {lv : Lv} {dd : Nat → Nat} {dm : Nat} (hh : isH h) (hi : i < 6) (hG : Ok1 dd dm iv lv) : ConIp g yX0_overMembers cX0_overMembers 6 (some .int) 3 [rf g h, rf g (h + 60 + 20 * i), .int w] iv lv (nI 0) := by
  refine con_intro (own := "RollingNets$Figures") (by decide +kernel) rfl (Nat.le_of_ble_eq_true rfl) (L0 := [some (rf g h), some (rf g (h + 60 + 20 * i)), some (.int w), none, none, none]) rfl (fun Z zh => ?_)
  refine z_lconst (v := 0) zh dX0_overMembers_0 (by decide) ?_
  refine z_lstoren zh dX0_overMembers_1 (by decide) (L' := [some (rf g h), some (rf g (h + 60 + 20 * i)), some (.int w), some (.long (0 : Int64)), none, none]) rfl ?_
  refine z_iconst zh dX0_overMembers_2 ki_0 ?_
  refine z_istore zh dX0_overMembers_3 (by decide) (L' := [some (rf g h), some (rf g (h + 60 + 20 * i)), some (.int w), some (.long (0 : Int64)), none, some (.int (nI 0))]) rfl ?_
  have hl5 : ∀ (n k5 : Nat), k5 ≤ 6 → 6 - k5 < n → Z 5 [some (rf g h), some (rf g (h + 60 + 20 * i)), some (.int w), some (.long (0 : Int64)), none, some (.int (nI k5))] [] iv lv := by
    intro n
    induction n with
    | zero => intro k5 _ hn; exact absurd hn (Nat.not_lt_zero _)
    | succ n ih5 =>
      intro k5 hk5 hn5
      refine z_iload zh dX0_overMembers_5 rfl ?_
      refine z_aloadnR zh dX0_overMembers_7 rfl ?_
      refine z_callVIp zh mv_Figures_42 dX0_overMembers_8 (ck_H hh) rfl (c_members g hh hG) ⟨Nat.le_of_ble_eq_true rfl, Nat.le_of_ble_eq_true rfl⟩ rfl rfl (Nat.le_of_ble_eq_true rfl) ?_
      refine z_icmp_ge_N (tgt := 63) zh (by omega) (by decide) dX0_overMembers_11 rfl (fun hb1 => ?_) (fun hb1 => ?_)
      · refine z_lloadn zh dX0_overMembers_63 rfl ?_
        refine z_l2i zh dX0_overMembers_64 ?_
        rw [show ((0 : Int64)).toInt32 = nI 0 from by decide]
        exact z_iret zh dX0_overMembers_65 (qI rfl)
      · refine z_iloadn zh dX0_overMembers_14 rfl ?_
        refine z_iconst zh dX0_overMembers_15 ki_4 ?_
        refine z_icmp_ne (tgt := 32) zh dX0_overMembers_16 rfl (fun hb2 => ?_) (fun hb2 => ?_)
        · refine z_lloadn zh dX0_overMembers_32 rfl ?_
          refine z_iloadn zh dX0_overMembers_33 rfl ?_
          refine z_iconst zh dX0_overMembers_34 ki_2 ?_
          refine z_icmp_ne (tgt := 48) zh dX0_overMembers_35 rfl (fun hb3 => ?_) (fun hb3 => ?_)
          · refine z_aloadnR zh dX0_overMembers_48 rfl ?_
            refine z_iload zh dX0_overMembers_49 rfl ?_
            refine z_callVIp zh mv_Figures_54 dX0_overMembers_51 (ck_M (isM_of hh hi)) rfl (c_shortOf g (isM_of hh hi) (by omega) hG) ⟨Nat.le_of_ble_eq_true rfl, Nat.le_of_ble_eq_true rfl⟩ rfl rfl (Nat.le_of_ble_eq_true rfl) ?_
            refine z_i2l zh dX0_overMembers_54 ?_
            rw [show (nI 0).toInt64 = (0 : Int64) from by decide]
            refine z_ladd zh dX0_overMembers_55 ?_
            rw [show (0 : Int64) + (0 : Int64) = (0 : Int64) from by decide]
            refine z_lstoren zh dX0_overMembers_56 (by decide) (L' := [some (rf g h), some (rf g (h + 60 + 20 * i)), some (.int w), some (.long (0 : Int64)), none, some (.int (nI k5))]) rfl ?_
            refine z_iincN zh dX0_overMembers_57 ki_1 (by decide) rfl (L' := [some (rf g h), some (rf g (h + 60 + 20 * i)), some (.int w), some (.long (0 : Int64)), none, some (.int (nI (k5 + 1)))]) rfl ?_
            refine z_goto (tgt := 5) zh dX0_overMembers_60 rfl ?_
            exact ih5 (k5 + 1) (by omega) (by omega)
          · refine z_aloadnR zh dX0_overMembers_38 rfl ?_
            refine z_iload zh dX0_overMembers_39 rfl ?_
            refine z_callVIp zh mv_Figures_50 dX0_overMembers_41 (ck_M (isM_of hh hi)) rfl (c_longOf g (isM_of hh hi) (by omega) hG) ⟨Nat.le_of_ble_eq_true rfl, Nat.le_of_ble_eq_true rfl⟩ rfl rfl (Nat.le_of_ble_eq_true rfl) ?_
            refine z_i2l zh dX0_overMembers_44 ?_
            rw [show (nI 0).toInt64 = (0 : Int64) from by decide]
            refine z_goto (tgt := 55) zh dX0_overMembers_45 rfl ?_
            refine z_ladd zh dX0_overMembers_55 ?_
            rw [show (0 : Int64) + (0 : Int64) = (0 : Int64) from by decide]
            refine z_lstoren zh dX0_overMembers_56 (by decide) (L' := [some (rf g h), some (rf g (h + 60 + 20 * i)), some (.int w), some (.long (0 : Int64)), none, some (.int (nI k5))]) rfl ?_
            refine z_iincN zh dX0_overMembers_57 ki_1 (by decide) rfl (L' := [some (rf g h), some (rf g (h + 60 + 20 * i)), some (.int w), some (.long (0 : Int64)), none, some (.int (nI (k5 + 1)))]) rfl ?_
            refine z_goto (tgt := 5) zh dX0_overMembers_60 rfl ?_
            exact ih5 (k5 + 1) (by omega) (by omega)
        · refine z_lloadn zh dX0_overMembers_19 rfl ?_
          refine z_aloadnR zh dX0_overMembers_20 rfl ?_
          refine z_getf zh fl_Figures_46 dX0_overMembers_21 (ck_M (isM_of hh hi)) rfl rfl ?_
          refine z_iload zh dX0_overMembers_24 rfl ?_
          refine z_laldE (x := (0 : Int64)) zh (ck_stock (isM_of hh hi)) dX0_overMembers_26 (by omega) (a1_stock hG (isM_of hh hi)) ?_
          refine z_ladd zh dX0_overMembers_27 ?_
          rw [show (0 : Int64) + (0 : Int64) = (0 : Int64) from by decide]
          refine z_lstoren zh dX0_overMembers_28 (by decide) (L' := [some (rf g h), some (rf g (h + 60 + 20 * i)), some (.int w), some (.long (0 : Int64)), none, some (.int (nI k5))]) rfl ?_
          refine z_goto (tgt := 57) zh dX0_overMembers_29 rfl ?_
          refine z_iincN zh dX0_overMembers_57 ki_1 (by decide) rfl (L' := [some (rf g h), some (rf g (h + 60 + 20 * i)), some (.int w), some (.long (0 : Int64)), none, some (.int (nI (k5 + 1)))]) rfl ?_
          refine z_goto (tgt := 5) zh dX0_overMembers_60 rfl ?_
          exact ih5 (k5 + 1) (by omega) (by omega)
  exact hl5 7 0 (by omega) (by omega)
set_option maxRecDepth 20000 in
theorem c_eldestDay (g : GE) {h i : Nat} {iv : Iv} {lv : Lv} {dd : Nat → Nat} {dm : Nat} (hh : isH h) (hi : i < 6) (hG : Ok1 dd dm iv lv) : ConIp g yX0_eldestDay cX0_eldestDay 5 (some .int) 3 [rf g h, rf g (h + 60 + 20 * i)] iv lv ((-1)) := by
  refine con_intro (own := "RollingNets$Figures") (by decide +kernel) rfl (Nat.le_of_ble_eq_true rfl) (L0 := [some (rf g h), some (rf g (h + 60 + 20 * i)), none, none, none]) rfl (fun Z zh => ?_)
  refine z_iconst zh dX0_eldestDay_0 ki_m1 ?_
  refine z_istoren zh dX0_eldestDay_1 (by decide) (L' := [some (rf g h), some (rf g (h + 60 + 20 * i)), some (.int (-1)), none, none]) rfl ?_
  refine z_iconst zh dX0_eldestDay_2 ki_0 ?_
  refine z_istoren zh dX0_eldestDay_3 (by decide) (L' := [some (rf g h), some (rf g (h + 60 + 20 * i)), some (.int (-1)), some (.int (nI 0)), none]) rfl ?_
  have hl4 : ∀ (n k4 : Nat), k4 ≤ 6 → 6 - k4 < n → Z 4 [some (rf g h), some (rf g (h + 60 + 20 * i)), some (.int (-1)), some (.int (nI k4)), none] [] iv lv := by
    intro n
    induction n with
    | zero => intro k4 _ hn; exact absurd hn (Nat.not_lt_zero _)
    | succ n ih4 =>
      intro k4 hk4 hn4
      refine z_iloadn zh dX0_eldestDay_4 rfl ?_
      refine z_aloadnR zh dX0_eldestDay_5 rfl ?_
      refine z_callVIp zh mv_Figures_42 dX0_eldestDay_6 (ck_H hh) rfl (c_members g hh hG) ⟨Nat.le_of_ble_eq_true rfl, Nat.le_of_ble_eq_true rfl⟩ rfl rfl (Nat.le_of_ble_eq_true rfl) ?_
      refine z_icmp_ge_N (tgt := 46) zh (by omega) (by decide) dX0_eldestDay_9 rfl (fun hb1 => ?_) (fun hb1 => ?_)
      · refine z_iloadn zh dX0_eldestDay_46 rfl ?_
        exact z_iret zh dX0_eldestDay_47 (qI rfl)
      · refine z_aloadnR zh dX0_eldestDay_12 rfl ?_
        refine z_iloadn zh dX0_eldestDay_13 rfl ?_
        refine z_iconst zh dX0_eldestDay_14 ki_0 ?_
        refine z_callVIp zh mv_Figures_57 dX0_eldestDay_15 (ck_M (isM_of hh hi)) rfl (c_dayOfLot g (isM_of hh hi) hG) ⟨Nat.le_of_ble_eq_true rfl, Nat.le_of_ble_eq_true rfl⟩ rfl rfl (Nat.le_of_ble_eq_true rfl) ?_
        refine z_istore zh dX0_eldestDay_18 (by decide) (L' := [some (rf g h), some (rf g (h + 60 + 20 * i)), some (.int (-1)), some (.int (nI k4)), some (.int (-1))]) rfl ?_
        refine z_iload zh dX0_eldestDay_20 rfl ?_
        refine z_iconst zh dX0_eldestDay_22 ki_m1 ?_
        refine z_icmp_eq (tgt := 40) zh dX0_eldestDay_23 rfl (fun _ => ?_) (fun q => absurd rfl q)
        refine z_iincN zh dX0_eldestDay_40 ki_1 (by decide) rfl (L' := [some (rf g h), some (rf g (h + 60 + 20 * i)), some (.int (-1)), some (.int (nI (k4 + 1))), some (.int (-1))]) rfl ?_
        refine z_goto (tgt := 4) zh dX0_eldestDay_43 rfl ?_
        refine z_forget zh [true, true, true, true, false] (L2 := [some (rf g h), some (rf g (h + 60 + 20 * i)), some (.int (-1)), some (.int (nI (k4 + 1))), none]) rfl ?_; exact ih4 (k4 + 1) (by omega) (by omega)
  exact hl4 7 0 (by omega) (by omega)
set_option maxRecDepth 20000 in
theorem c_overDeals (g : GE) {h : Nat} {a b c : Int32} {iv : Iv} {lv : Lv} {dd : Nat → Nat} {dm : Nat} (hh : isH h) (hG : Ok1 dd dm iv lv) : ConIp g yX0_overDeals cX0_overDeals 8 (some .int) 3 [rf g h, .int a, .int b, .int c] iv lv (nI 0) := by
  refine con_intro (own := "RollingNets$Figures") (by decide +kernel) rfl (Nat.le_of_ble_eq_true rfl) (L0 := [some (rf g h), some (.int a), some (.int b), some (.int c), none, none, none, none]) rfl (fun Z zh => ?_)
  refine z_aloadnR zh dX0_overDeals_0 rfl ?_
  refine z_getf zh fl_Figures_61 dX0_overDeals_1 (ck_H hh) rfl rfl ?_
  refine z_astore zh dX0_overDeals_4 (by decide) (L' := [some (rf g h), some (.int a), some (.int b), some (.int c), some (rf g (h + 7)), none, none, none]) rfl ?_
  refine z_iconst zh dX0_overDeals_6 ki_0 ?_
  refine z_istore zh dX0_overDeals_7 (by decide) (L' := [some (rf g h), some (.int a), some (.int b), some (.int c), some (rf g (h + 7)), some (.int (nI 0)), none, none]) rfl ?_
  refine z_iconst zh dX0_overDeals_9 ki_0 ?_
  refine z_istore zh dX0_overDeals_10 (by decide) (L' := [some (rf g h), some (.int a), some (.int b), some (.int c), some (rf g (h + 7)), some (.int (nI 0)), some (.int (nI 0)), none]) rfl ?_
  refine z_iload zh dX0_overDeals_12 rfl ?_
  refine z_aloadR zh dX0_overDeals_14 rfl ?_
  refine z_callVIp zh mv_Figures_65 dX0_overDeals_16 (ck_T (isT_d hh)) rfl (c_size g (isT_d hh) (a1_cd hG hh)) ⟨Nat.le_of_ble_eq_true rfl, Nat.le_of_ble_eq_true rfl⟩ rfl rfl (Nat.le_of_ble_eq_true rfl) ?_
  refine z_icmp_ge_N (tgt := 87) zh (by decide) (by decide) dX0_overDeals_19 rfl (fun _ => ?_) (fun q => absurd q (by decide))
  refine z_iload zh dX0_overDeals_87 rfl ?_
  exact z_iret zh dX0_overDeals_89 (qI rfl)
set_option maxRecDepth 20000 in
theorem c_countDeals (g : GE) {h : Nat} {a : Int32} {iv : Iv} {lv : Lv} {dd : Nat → Nat} {dm : Nat} (hh : isH h) (hG : Ok1 dd dm iv lv) : ConIp g yX0_countDeals cX0_countDeals 4 (some .int) 3 [rf g h, .int a] iv lv (nI 0) := by
  refine con_intro (own := "RollingNets$Figures") (by decide +kernel) rfl (Nat.le_of_ble_eq_true rfl) (L0 := [some (rf g h), some (.int a), none, none]) rfl (fun Z zh => ?_)
  refine z_iconst zh dX0_countDeals_0 ki_0 ?_
  refine z_istoren zh dX0_countDeals_1 (by decide) (L' := [some (rf g h), some (.int a), some (.int (nI 0)), none]) rfl ?_
  refine z_iconst zh dX0_countDeals_2 ki_0 ?_
  refine z_istoren zh dX0_countDeals_3 (by decide) (L' := [some (rf g h), some (.int a), some (.int (nI 0)), some (.int (nI 0))]) rfl ?_
  refine z_iloadn zh dX0_countDeals_4 rfl ?_
  refine z_aloadnR zh dX0_countDeals_5 rfl ?_
  refine z_getf zh fl_Figures_61 dX0_countDeals_6 (ck_H hh) rfl rfl ?_
  refine z_callVIp zh mv_Figures_65 dX0_countDeals_9 (ck_T (isT_d hh)) rfl (c_size g (isT_d hh) (a1_cd hG hh)) ⟨Nat.le_of_ble_eq_true rfl, Nat.le_of_ble_eq_true rfl⟩ rfl rfl (Nat.le_of_ble_eq_true rfl) ?_
  refine z_icmp_ge_N (tgt := 37) zh (by decide) (by decide) dX0_countDeals_12 rfl (fun _ => ?_) (fun q => absurd q (by decide))
  refine z_iloadn zh dX0_countDeals_37 rfl ?_
  exact z_iret zh dX0_countDeals_38 (qI rfl)
set_option maxRecDepth 20000 in
theorem c_openNotices (g : GE) {h : Nat} {iv : Iv} {lv : Lv} {dd : Nat → Nat} {dm : Nat} (hh : isH h) (hG : Ok1 dd dm iv lv) : ConIp g yX0_openNotices cX0_openNotices 3 (some .int) 3 [rf g h] iv lv (nI 0) := by
  refine con_intro (own := "RollingNets$Figures") (by decide +kernel) rfl (Nat.le_of_ble_eq_true rfl) (L0 := [some (rf g h), none, none]) rfl (fun Z zh => ?_)
  refine z_iconst zh dX0_openNotices_0 ki_0 ?_
  refine z_istoren zh dX0_openNotices_1 (by decide) (L' := [some (rf g h), some (.int (nI 0)), none]) rfl ?_
  refine z_iconst zh dX0_openNotices_2 ki_0 ?_
  refine z_istoren zh dX0_openNotices_3 (by decide) (L' := [some (rf g h), some (.int (nI 0)), some (.int (nI 0))]) rfl ?_
  refine z_iloadn zh dX0_openNotices_4 rfl ?_
  refine z_aloadnR zh dX0_openNotices_5 rfl ?_
  refine z_getf zh fl_Figures_73 dX0_openNotices_6 (ck_H hh) rfl rfl ?_
  refine z_callVIp zh mv_Figures_65 dX0_openNotices_9 (ck_T (isT_n hh)) rfl (c_size g (isT_n hh) (a1_cn hG hh)) ⟨Nat.le_of_ble_eq_true rfl, Nat.le_of_ble_eq_true rfl⟩ rfl rfl (Nat.le_of_ble_eq_true rfl) ?_
  refine z_icmp_ge_N (tgt := 33) zh (by decide) (by decide) dX0_openNotices_12 rfl (fun _ => ?_) (fun q => absurd q (by decide))
  refine z_iloadn zh dX0_openNotices_33 rfl ?_
  exact z_iret zh dX0_openNotices_34 (qI rfl)
set_option maxRecDepth 20000 in
theorem c_allCash (g : GE) {h : Nat} {iv : Iv} {lv : Lv} {dd : Nat → Nat} {dm : Nat} (hh : isH h) (hG : Ok1 dd dm iv lv) : ConLp g yX0_allCash cX0_allCash 4 (some .long) 3 [rf g h] iv lv ((0 : Int64)) := by
  refine con_intro (own := "RollingNets$Figures") (by decide +kernel) rfl (Nat.le_of_ble_eq_true rfl) (L0 := [some (rf g h), none, none, none]) rfl (fun Z zh => ?_)
  refine z_lconst (v := 0) zh dX0_allCash_0 (by decide) ?_
  refine z_lstoren zh dX0_allCash_1 (by decide) (L' := [some (rf g h), some (.long (0 : Int64)), none, none]) rfl ?_
  refine z_iconst zh dX0_allCash_2 ki_0 ?_
  refine z_istoren zh dX0_allCash_3 (by decide) (L' := [some (rf g h), some (.long (0 : Int64)), none, some (.int (nI 0))]) rfl ?_
  have hl4 : ∀ (n k4 : Nat), k4 ≤ 12 → 12 - k4 < n → Z 4 [some (rf g h), some (.long (0 : Int64)), none, some (.int (nI k4))] [] iv lv := by
    intro n
    induction n with
    | zero => intro k4 _ hn; exact absurd hn (Nat.not_lt_zero _)
    | succ n ih4 =>
      intro k4 hk4 hn4
      refine z_iloadn zh dX0_allCash_4 rfl ?_
      refine z_bipush zh dX0_allCash_5 kb_12 ?_
      refine z_icmp_ge_N (tgt := 25) zh (by omega) (by decide) dX0_allCash_7 rfl (fun hb1 => ?_) (fun hb1 => ?_)
      · refine z_lloadn zh dX0_allCash_25 rfl ?_
        exact z_lret zh dX0_allCash_26 (qL rfl)
      · refine z_lloadn zh dX0_allCash_10 rfl ?_
        refine z_aloadnR zh dX0_allCash_11 rfl ?_
        refine z_getf zh fl_Figures_76 dX0_allCash_12 (ck_H hh) rfl rfl ?_
        refine z_iloadn zh dX0_allCash_15 rfl ?_
        refine z_laldE (x := (0 : Int64)) zh (ck_cash hh) dX0_allCash_16 (by omega) (a1_cash hG hh) ?_
        refine z_ladd zh dX0_allCash_17 ?_
        rw [show (0 : Int64) + (0 : Int64) = (0 : Int64) from by decide]
        refine z_lstoren zh dX0_allCash_18 (by decide) (L' := [some (rf g h), some (.long (0 : Int64)), none, some (.int (nI k4))]) rfl ?_
        refine z_iincN zh dX0_allCash_19 ki_1 (by decide) rfl (L' := [some (rf g h), some (.long (0 : Int64)), none, some (.int (nI (k4 + 1)))]) rfl ?_
        refine z_goto (tgt := 4) zh dX0_allCash_22 rfl ?_
        exact ih4 (k4 + 1) (by omega) (by omega)
  exact hl4 13 0 (by omega) (by omega)
set_option maxRecDepth 20000 in
theorem c_suspendedSet (g : GE) {h : Nat} {iv : Iv} {lv : Lv} {dd : Nat → Nat} {dm : Nat} (hh : isH h) (hG : Ok1 dd dm iv lv) : ConIp g yX0_suspendedSet cX0_suspendedSet 3 (some .int) 3 [rf g h] iv lv (nI 0) := by
  refine con_intro (own := "RollingNets$Figures") (by decide +kernel) rfl (Nat.le_of_ble_eq_true rfl) (L0 := [some (rf g h), none, none]) rfl (fun Z zh => ?_)
  refine z_iconst zh dX0_suspendedSet_0 ki_0 ?_
  refine z_istoren zh dX0_suspendedSet_1 (by decide) (L' := [some (rf g h), some (.int (nI 0)), none]) rfl ?_
  refine z_iconst zh dX0_suspendedSet_2 ki_0 ?_
  refine z_istoren zh dX0_suspendedSet_3 (by decide) (L' := [some (rf g h), some (.int (nI 0)), some (.int (nI 0))]) rfl ?_
  have hl4 : ∀ (n k4 : Nat), k4 ≤ 6 → 6 - k4 < n → Z 4 [some (rf g h), some (.int (nI 0)), some (.int (nI k4))] [] iv lv := by
    intro n
    induction n with
    | zero => intro k4 _ hn; exact absurd hn (Nat.not_lt_zero _)
    | succ n ih4 =>
      intro k4 hk4 hn4
      refine z_iloadn zh dX0_suspendedSet_4 rfl ?_
      refine z_aloadnR zh dX0_suspendedSet_5 rfl ?_
      refine z_callVIp zh mv_Figures_42 dX0_suspendedSet_6 (ck_H hh) rfl (c_members g hh hG) ⟨Nat.le_of_ble_eq_true rfl, Nat.le_of_ble_eq_true rfl⟩ rfl rfl (Nat.le_of_ble_eq_true rfl) ?_
      refine z_icmp_ge_N (tgt := 33) zh (by omega) (by decide) dX0_suspendedSet_9 rfl (fun hb1 => ?_) (fun hb1 => ?_)
      · refine z_iloadn zh dX0_suspendedSet_33 rfl ?_
        exact z_iret zh dX0_suspendedSet_34 (qI rfl)
      · refine z_aloadnR zh dX0_suspendedSet_12 rfl ?_
        refine z_getf zh fl_Figures_79 dX0_suspendedSet_13 (ck_H hh) rfl rfl ?_
        refine z_iloadn zh dX0_suspendedSet_16 rfl ?_
        refine z_zaldE (x := nI 0) zh (ck_susp hh) dX0_suspendedSet_17 (by omega) (a1_susp hG hh) ?_
        refine z_if_eq_N (tgt := 27) zh (by decide) dX0_suspendedSet_18 rfl (fun _ => ?_) (fun q => absurd q (by decide))
        refine z_iincN zh dX0_suspendedSet_27 ki_1 (by decide) rfl (L' := [some (rf g h), some (.int (nI 0)), some (.int (nI (k4 + 1)))]) rfl ?_
        refine z_goto (tgt := 4) zh dX0_suspendedSet_30 rfl ?_
        exact ih4 (k4 + 1) (by omega) (by omega)
  exact hl4 7 0 (by omega) (by omega)
set_option maxRecDepth 20000 in
theorem c_shortSet (g : GE) {h : Nat} {iv : Iv} {lv : Lv} {dd : Nat → Nat} {dm : Nat} (hh : isH h) (hG : Ok1 dd dm iv lv) : ConIp g yX0_shortSet cX0_shortSet 4 (some .int) 3 [rf g h] iv lv (nI 0) := by
  refine con_intro (own := "RollingNets$Figures") (by decide +kernel) rfl (Nat.le_of_ble_eq_true rfl) (L0 := [some (rf g h), none, none, none]) rfl (fun Z zh => ?_)
  refine z_iconst zh dX0_shortSet_0 ki_0 ?_
  refine z_istoren zh dX0_shortSet_1 (by decide) (L' := [some (rf g h), some (.int (nI 0)), none, none]) rfl ?_
  refine z_iconst zh dX0_shortSet_2 ki_0 ?_
  refine z_istoren zh dX0_shortSet_3 (by decide) (L' := [some (rf g h), some (.int (nI 0)), some (.int (nI 0)), none]) rfl ?_
  have hl4 : ∀ (n k4 : Nat), k4 ≤ 6 → 6 - k4 < n → Z 4 [some (rf g h), some (.int (nI 0)), some (.int (nI k4)), none] [] iv lv := by
    intro n
    induction n with
    | zero => intro k4 _ hn; exact absurd hn (Nat.not_lt_zero _)
    | succ n ih4 =>
      intro k4 hk4 hn4
      refine z_iloadn zh dX0_shortSet_4 rfl ?_
      refine z_bipush zh dX0_shortSet_5 kb_6 ?_
      refine z_icmp_ge_N (tgt := 51) zh (by omega) (by decide) dX0_shortSet_7 rfl (fun hb1 => ?_) (fun hb1 => ?_)
      · refine z_iloadn zh dX0_shortSet_51 rfl ?_
        exact z_iret zh dX0_shortSet_52 (qI rfl)
      · refine z_iconst zh dX0_shortSet_10 ki_0 ?_
        refine z_istoren zh dX0_shortSet_11 (by decide) (L' := [some (rf g h), some (.int (nI 0)), some (.int (nI k4)), some (.int (nI 0))]) rfl ?_
        have hl12 : ∀ (n k12 : Nat), k12 ≤ 6 → 6 - k12 < n → Z 12 [some (rf g h), some (.int (nI 0)), some (.int (nI k4)), some (.int (nI k12))] [] iv lv := by
          intro n
          induction n with
          | zero => intro k12 _ hn; exact absurd hn (Nat.not_lt_zero _)
          | succ n ih12 =>
            intro k12 hk12 hn12
            refine z_iloadn zh dX0_shortSet_12 rfl ?_
            refine z_aloadnR zh dX0_shortSet_13 rfl ?_
            refine z_callVIp zh mv_Figures_42 dX0_shortSet_14 (ck_H hh) rfl (c_members g hh hG) ⟨Nat.le_of_ble_eq_true rfl, Nat.le_of_ble_eq_true rfl⟩ rfl rfl (Nat.le_of_ble_eq_true rfl) ?_
            refine z_icmp_ge_N (tgt := 45) zh (by omega) (by decide) dX0_shortSet_17 rfl (fun hb2 => ?_) (fun hb2 => ?_)
            · refine z_iincN zh dX0_shortSet_45 ki_1 (by decide) rfl (L' := [some (rf g h), some (.int (nI 0)), some (.int (nI (k4 + 1))), some (.int (nI k12))]) rfl ?_
              refine z_goto (tgt := 4) zh dX0_shortSet_48 rfl ?_
              refine z_forget zh [true, true, true, false] (L2 := [some (rf g h), some (.int (nI 0)), some (.int (nI (k4 + 1))), none]) rfl ?_; exact ih4 (k4 + 1) (by omega) (by omega)
            · refine z_aloadnR zh dX0_shortSet_20 rfl ?_
              refine z_getf zh fl_Figures_9 dX0_shortSet_21 (ck_H hh) rfl rfl ?_
              refine z_iloadn zh dX0_shortSet_24 rfl ?_
              refine z_maldN zh (ck_markets hh) dX0_shortSet_25 (by omega) ?_
              refine z_iloadn zh dX0_shortSet_26 rfl ?_
              refine z_callVIp zh mv_Figures_54 dX0_shortSet_27 (ck_M (isM_of hh (by omega))) rfl (c_shortOf g (isM_of hh (by omega)) (by omega) hG) ⟨Nat.le_of_ble_eq_true rfl, Nat.le_of_ble_eq_true rfl⟩ rfl rfl (Nat.le_of_ble_eq_true rfl) ?_
              refine z_if_le_N (tgt := 39) zh (by decide) dX0_shortSet_30 rfl (fun _ => ?_) (fun q => absurd q (by decide))
              refine z_iincN zh dX0_shortSet_39 ki_1 (by decide) rfl (L' := [some (rf g h), some (.int (nI 0)), some (.int (nI k4)), some (.int (nI (k12 + 1)))]) rfl ?_
              refine z_goto (tgt := 12) zh dX0_shortSet_42 rfl ?_
              exact ih12 (k12 + 1) (by omega) (by omega)
        exact hl12 7 0 (by omega) (by omega)
  exact hl4 7 0 (by omega) (by omega)
set_option maxRecDepth 20000 in
theorem c_demand (g : GE) {h : Nat} {a : Int32} {iv : Iv} {lv : Lv} {dd : Nat → Nat} {dm : Nat} (hh : isH h) (hG : Ok1 dd dm iv lv) : ConLp g yX0_demand cX0_demand 10 (some .long) 3 [rf g h, .int a] iv lv ((0 : Int64)) := by
  refine con_intro (own := "RollingNets$Figures") (by decide +kernel) rfl (Nat.le_of_ble_eq_true rfl) (L0 := [some (rf g h), some (.int a), none, none, none, none, none, none, none, none]) rfl (fun Z zh => ?_)
  refine z_lconst (v := 0) zh dX0_demand_0 (by decide) ?_
  refine z_lstoren zh dX0_demand_1 (by decide) (L' := [some (rf g h), some (.int a), some (.long (0 : Int64)), none, none, none, none, none, none, none]) rfl ?_
  refine z_iconst zh dX0_demand_2 ki_0 ?_
  refine z_istore zh dX0_demand_3 (by decide) (L' := [some (rf g h), some (.int a), some (.long (0 : Int64)), none, some (.int (nI 0)), none, none, none, none, none]) rfl ?_
  have hl5 : ∀ (n k5 : Nat), k5 ≤ 6 → 6 - k5 < n → Z 5 [some (rf g h), some (.int a), some (.long (0 : Int64)), none, some (.int (nI k5)), none, none, none, none, none] [] iv lv := by
    intro n
    induction n with
    | zero => intro k5 _ hn; exact absurd hn (Nat.not_lt_zero _)
    | succ n ih5 =>
      intro k5 hk5 hn5
      refine z_iload zh dX0_demand_5 rfl ?_
      refine z_bipush zh dX0_demand_7 kb_6 ?_
      refine z_icmp_ge_N (tgt := 111) zh (by omega) (by decide) dX0_demand_9 rfl (fun hb1 => ?_) (fun hb1 => ?_)
      · refine z_lloadn zh dX0_demand_111 rfl ?_
        exact z_lret zh dX0_demand_112 (qL rfl)
      · refine z_aloadnR zh dX0_demand_12 rfl ?_
        refine z_getf zh fl_Figures_9 dX0_demand_13 (ck_H hh) rfl rfl ?_
        refine z_iload zh dX0_demand_16 rfl ?_
        refine z_maldN zh (ck_markets hh) dX0_demand_18 (by omega) ?_
        refine z_astore zh dX0_demand_19 (by decide) (L' := [some (rf g h), some (.int a), some (.long (0 : Int64)), none, some (.int (nI k5)), some (rf g (h + 60 + 20 * k5)), none, none, none, none]) rfl ?_
        refine z_iconst zh dX0_demand_21 ki_0 ?_
        refine z_istore zh dX0_demand_22 (by decide) (L' := [some (rf g h), some (.int a), some (.long (0 : Int64)), none, some (.int (nI k5)), some (rf g (h + 60 + 20 * k5)), some (.int (nI 0)), none, none, none]) rfl ?_
        refine z_iload zh dX0_demand_24 rfl ?_
        refine z_aloadR zh dX0_demand_26 rfl ?_
        refine z_getI (x := nI 0) zh fl_Figures_83 dX0_demand_28 (ck_M (isM_of hh (by omega))) rfl rfl (a1_endDay hG (isM_of hh (by omega))) ?_
        refine z_icmp_ge_N (tgt := 105) zh (by decide) (by decide) dX0_demand_31 rfl (fun _ => ?_) (fun q => absurd q (by decide))
        refine z_iincN zh dX0_demand_105 ki_1 (by decide) rfl (L' := [some (rf g h), some (.int a), some (.long (0 : Int64)), none, some (.int (nI (k5 + 1))), some (rf g (h + 60 + 20 * k5)), some (.int (nI 0)), none, none, none]) rfl ?_
        refine z_goto (tgt := 5) zh dX0_demand_108 rfl ?_
        refine z_forget zh [true, true, true, false, true, false, false, false, false, false] (L2 := [some (rf g h), some (.int a), some (.long (0 : Int64)), none, some (.int (nI (k5 + 1))), none, none, none, none, none]) rfl ?_; exact ih5 (k5 + 1) (by omega) (by omega)
  exact hl5 7 0 (by omega) (by omega)
set_option maxRecDepth 20000 in
theorem c_lacks (g : GE) {h j : Nat} {iv : Iv} {lv : Lv} {dd : Nat → Nat} {dm : Nat} (hh : isH h) (hj : j < 12) (hG : Ok1 dd dm iv lv) : ConLp g yX0_lacks cX0_lacks 2 (some .long) 4 [rf g h, .int (nI j)] iv lv ((0 : Int64)) := by
  refine con_intro (own := "RollingNets$Figures") (by decide +kernel) rfl (Nat.le_of_ble_eq_true rfl) (L0 := [some (rf g h), some (.int (nI j))]) rfl (fun Z zh => ?_)
  refine z_lconst (v := 0) zh dX0_lacks_0 (by decide) ?_
  refine z_aloadnR zh dX0_lacks_1 rfl ?_
  refine z_iloadn zh dX0_lacks_2 rfl ?_
  refine z_callSLp zh ms_Figures_107 dX0_lacks_3 (c_demand g hh hG) ⟨Nat.le_of_ble_eq_true rfl, Nat.le_of_ble_eq_true rfl⟩ rfl rfl (Nat.le_of_ble_eq_true rfl) ?_
  refine z_aloadnR zh dX0_lacks_6 rfl ?_
  refine z_getf zh fl_Figures_111 dX0_lacks_7 (ck_H hh) rfl rfl ?_
  refine z_iloadn zh dX0_lacks_10 rfl ?_
  refine z_ialdE (x := nI 0) zh (ck_pledged hh) dX0_lacks_11 hj (a1_pledged hG hh) ?_
  refine z_i2l zh dX0_lacks_12 ?_
  rw [show (nI 0).toInt64 = (0 : Int64) from by decide]
  refine z_lsub zh dX0_lacks_13 ?_
  rw [show (0 : Int64) - (0 : Int64) = (0 : Int64) from by decide]
  refine z_mmax_longE (r := (0 : Int64)) zh ma_Figures_115 mc_max_long dX0_lacks_14 ⟨Nat.le_of_ble_eq_true rfl, Nat.le_of_ble_eq_true rfl⟩ (by decide) ?_
  exact z_lret zh dX0_lacks_17 (qL rfl)
set_option maxRecDepth 20000 in
theorem c_lacking (g : GE) {h : Nat} {iv : Iv} {lv : Lv} {dd : Nat → Nat} {dm : Nat} (hh : isH h) (hG : Ok1 dd dm iv lv) : ConIp g yX0_lacking cX0_lacking 3 (some .int) 5 [rf g h] iv lv (nI 0) := by
  refine con_intro (own := "RollingNets$Figures") (by decide +kernel) rfl (Nat.le_of_ble_eq_true rfl) (L0 := [some (rf g h), none, none]) rfl (fun Z zh => ?_)
  refine z_iconst zh dX0_lacking_0 ki_0 ?_
  refine z_istoren zh dX0_lacking_1 (by decide) (L' := [some (rf g h), some (.int (nI 0)), none]) rfl ?_
  refine z_iconst zh dX0_lacking_2 ki_0 ?_
  refine z_istoren zh dX0_lacking_3 (by decide) (L' := [some (rf g h), some (.int (nI 0)), some (.int (nI 0))]) rfl ?_
  have hl4 : ∀ (n k4 : Nat), k4 ≤ 6 → 6 - k4 < n → Z 4 [some (rf g h), some (.int (nI 0)), some (.int (nI k4))] [] iv lv := by
    intro n
    induction n with
    | zero => intro k4 _ hn; exact absurd hn (Nat.not_lt_zero _)
    | succ n ih4 =>
      intro k4 hk4 hn4
      refine z_iloadn zh dX0_lacking_4 rfl ?_
      refine z_aloadnR zh dX0_lacking_5 rfl ?_
      refine z_callVIp zh mv_Figures_42 dX0_lacking_6 (ck_H hh) rfl (c_members g hh hG) ⟨Nat.le_of_ble_eq_true rfl, Nat.le_of_ble_eq_true rfl⟩ rfl rfl (Nat.le_of_ble_eq_true rfl) ?_
      refine z_icmp_ge_N (tgt := 31) zh (by omega) (by decide) dX0_lacking_9 rfl (fun hb1 => ?_) (fun hb1 => ?_)
      · refine z_iloadn zh dX0_lacking_31 rfl ?_
        exact z_iret zh dX0_lacking_32 (qI rfl)
      · refine z_aloadnR zh dX0_lacking_12 rfl ?_
        refine z_iloadn zh dX0_lacking_13 rfl ?_
        refine z_callSLp zh ms_Figures_119 dX0_lacking_14 (c_lacks g hh (by omega) hG) ⟨Nat.le_of_ble_eq_true rfl, Nat.le_of_ble_eq_true rfl⟩ rfl rfl (Nat.le_of_ble_eq_true rfl) ?_
        refine z_lconst (v := 0) zh dX0_lacking_17 (by decide) ?_
        refine z_lcmp zh dX0_lacking_18 ?_
        rw [show lg_cmp (0 : Int64) (0 : Int64) = nI 0 from by decide]
        refine z_if_le_N (tgt := 25) zh (by decide) dX0_lacking_19 rfl (fun _ => ?_) (fun q => absurd q (by decide))
        refine z_iincN zh dX0_lacking_25 ki_1 (by decide) rfl (L' := [some (rf g h), some (.int (nI 0)), some (.int (nI (k4 + 1)))]) rfl ?_
        refine z_goto (tgt := 4) zh dX0_lacking_28 rfl ?_
        exact ih4 (k4 + 1) (by omega) (by omega)
  exact hl4 7 0 (by omega) (by omega)
set_option maxRecDepth 20000 in
theorem c_sunk (g : GE) {h : Nat} {x : Int32} {iv : Iv} {lv : Lv} {dd : Nat → Nat} {dm : Nat} (hh : isH h) (hG : Ok1 dd dm iv lv) : ConIp g yX0_sunk cX0_sunk 8 (some .int) 3 [rf g h, .int x] iv lv (nI 0) := by
  refine con_intro (own := "RollingNets$Figures") (by decide +kernel) rfl (Nat.le_of_ble_eq_true rfl) (L0 := [some (rf g h), some (.int x), none, none, none, none, none, none]) rfl (fun Z zh => ?_)
  refine z_iconst zh dX0_sunk_0 ki_0 ?_
  refine z_istoren zh dX0_sunk_1 (by decide) (L' := [some (rf g h), some (.int x), some (.int (nI 0)), none, none, none, none, none]) rfl ?_
  refine z_iconst zh dX0_sunk_2 ki_0 ?_
  refine z_istoren zh dX0_sunk_3 (by decide) (L' := [some (rf g h), some (.int x), some (.int (nI 0)), some (.int (nI 0)), none, none, none, none]) rfl ?_
  have hl4 : ∀ (n k4 : Nat), k4 ≤ 6 → 6 - k4 < n → Z 4 [some (rf g h), some (.int x), some (.int (nI 0)), some (.int (nI k4)), none, none, none, none] [] iv lv := by
    intro n
    induction n with
    | zero => intro k4 _ hn; exact absurd hn (Nat.not_lt_zero _)
    | succ n ih4 =>
      intro k4 hk4 hn4
      refine z_iloadn zh dX0_sunk_4 rfl ?_
      refine z_aloadnR zh dX0_sunk_5 rfl ?_
      refine z_callVIp zh mv_Figures_42 dX0_sunk_6 (ck_H hh) rfl (c_members g hh hG) ⟨Nat.le_of_ble_eq_true rfl, Nat.le_of_ble_eq_true rfl⟩ rfl rfl (Nat.le_of_ble_eq_true rfl) ?_
      refine z_icmp_ge_N (tgt := 96) zh (by omega) (by decide) dX0_sunk_9 rfl (fun hb1 => ?_) (fun hb1 => ?_)
      · refine z_iloadn zh dX0_sunk_96 rfl ?_
        exact z_iret zh dX0_sunk_97 (qI rfl)
      · refine z_aloadnR zh dX0_sunk_12 rfl ?_
        refine z_getf zh fl_Figures_76 dX0_sunk_13 (ck_H hh) rfl rfl ?_
        refine z_iloadn zh dX0_sunk_16 rfl ?_
        refine z_laldE (x := (0 : Int64)) zh (ck_cash hh) dX0_sunk_17 (by omega) (a1_cash hG hh) ?_
        refine z_aloadnR zh dX0_sunk_18 rfl ?_
        refine z_getf zh fl_Figures_111 dX0_sunk_19 (ck_H hh) rfl rfl ?_
        refine z_iloadn zh dX0_sunk_22 rfl ?_
        refine z_ialdE (x := nI 0) zh (ck_pledged hh) dX0_sunk_23 (by omega) (a1_pledged hG hh) ?_
        refine z_i2l zh dX0_sunk_24 ?_
        rw [show (nI 0).toInt64 = (0 : Int64) from by decide]
        refine z_ladd zh dX0_sunk_25 ?_
        rw [show (0 : Int64) + (0 : Int64) = (0 : Int64) from by decide]
        refine z_lstore zh dX0_sunk_26 (by decide) (L' := [some (rf g h), some (.int x), some (.int (nI 0)), some (.int (nI k4)), some (.long (0 : Int64)), none, none, none]) rfl ?_
        refine z_iconst zh dX0_sunk_28 ki_0 ?_
        refine z_istore zh dX0_sunk_29 (by decide) (L' := [some (rf g h), some (.int x), some (.int (nI 0)), some (.int (nI k4)), some (.long (0 : Int64)), none, some (.int (nI 0)), none]) rfl ?_
        have hl31 : ∀ (n k31 : Nat), k31 ≤ 6 → 6 - k31 < n → Z 31 [some (rf g h), some (.int x), some (.int (nI 0)), some (.int (nI k4)), some (.long (0 : Int64)), none, some (.int (nI k31)), none] [] iv lv := by
          intro n
          induction n with
          | zero => intro k31 _ hn; exact absurd hn (Nat.not_lt_zero _)
          | succ n ih31 =>
            intro k31 hk31 hn31
            refine z_iload zh dX0_sunk_31 rfl ?_
            refine z_bipush zh dX0_sunk_33 kb_6 ?_
            refine z_icmp_ge_N (tgt := 77) zh (by omega) (by decide) dX0_sunk_35 rfl (fun hb2 => ?_) (fun hb2 => ?_)
            · refine z_lload zh dX0_sunk_77 rfl ?_
              refine z_lconst (v := 0) zh dX0_sunk_79 (by decide) ?_
              refine z_lcmp zh dX0_sunk_80 ?_
              rw [show lg_cmp (0 : Int64) (0 : Int64) = nI 0 from by decide]
              refine z_if_ge_N (tgt := 90) zh (by decide) dX0_sunk_81 rfl ?_
              refine z_iincN zh dX0_sunk_90 ki_1 (by decide) rfl (L' := [some (rf g h), some (.int x), some (.int (nI 0)), some (.int (nI (k4 + 1))), some (.long (0 : Int64)), none, some (.int (nI k31)), none]) rfl ?_
              refine z_goto (tgt := 4) zh dX0_sunk_93 rfl ?_
              refine z_forget zh [true, true, true, true, false, false, false, false] (L2 := [some (rf g h), some (.int x), some (.int (nI 0)), some (.int (nI (k4 + 1))), none, none, none, none]) rfl ?_; exact ih4 (k4 + 1) (by omega) (by omega)
            · refine z_aloadnR zh dX0_sunk_38 rfl ?_
              refine z_getf zh fl_Figures_9 dX0_sunk_39 (ck_H hh) rfl rfl ?_
              refine z_iload zh dX0_sunk_42 rfl ?_
              refine z_maldN zh (ck_markets hh) dX0_sunk_44 (by omega) ?_
              refine z_astore zh dX0_sunk_45 (by decide) (L' := [some (rf g h), some (.int x), some (.int (nI 0)), some (.int (nI k4)), some (.long (0 : Int64)), none, some (.int (nI k31)), some (rf g (h + 60 + 20 * k31))]) rfl ?_
              refine z_lload zh dX0_sunk_47 rfl ?_
              refine z_aloadR zh dX0_sunk_49 rfl ?_
              refine z_aloadR zh dX0_sunk_51 rfl ?_
              refine z_getf zh fl_Figures_122 dX0_sunk_53 (ck_M (isM_of hh (by omega))) rfl rfl ?_
              refine z_iloadn zh dX0_sunk_56 rfl ?_
              refine z_ialdE (x := nI 0) zh (ck_mi 6 (by decide) (isM_of hh (by omega))) dX0_sunk_57 (by omega) (a1_mi hG (isM_of hh (by omega)) 6 (by decide)) ?_
              refine z_callVLp zh mv_Figures_101 dX0_sunk_58 (ck_M (isM_of hh (by omega))) rfl (c_worth0 g (isM_of hh (by omega)) hG) ⟨Nat.le_of_ble_eq_true rfl, Nat.le_of_ble_eq_true rfl⟩ rfl rfl (Nat.le_of_ble_eq_true rfl) ?_
              refine z_iloadn zh dX0_sunk_61 rfl ?_
              refine z_i2l zh dX0_sunk_62 ?_
              refine z_lmul zh dX0_sunk_63 ?_
              rw [show (0 : Int64) * x.toInt64 = (0 : Int64) from Int64.zero_mul]
              refine z_ldc2 zh dX0_sunk_64 kl_Figures_105 ?_
              refine z_ldiv zh dX0_sunk_67 (by decide) ?_
              rw [show (0 : Int64) / (100 : Int64) = (0 : Int64) from by decide]
              refine z_ladd zh dX0_sunk_68 ?_
              rw [show (0 : Int64) + (0 : Int64) = (0 : Int64) from by decide]
              refine z_lstore zh dX0_sunk_69 (by decide) (L' := [some (rf g h), some (.int x), some (.int (nI 0)), some (.int (nI k4)), some (.long (0 : Int64)), none, some (.int (nI k31)), some (rf g (h + 60 + 20 * k31))]) rfl ?_
              refine z_iincN zh dX0_sunk_71 ki_1 (by decide) rfl (L' := [some (rf g h), some (.int x), some (.int (nI 0)), some (.int (nI k4)), some (.long (0 : Int64)), none, some (.int (nI (k31 + 1))), some (rf g (h + 60 + 20 * k31))]) rfl ?_
              refine z_goto (tgt := 31) zh dX0_sunk_74 rfl ?_
              refine z_forget zh [true, true, true, true, true, false, true, false] (L2 := [some (rf g h), some (.int x), some (.int (nI 0)), some (.int (nI k4)), some (.long (0 : Int64)), none, some (.int (nI (k31 + 1))), none]) rfl ?_; exact ih31 (k31 + 1) (by omega) (by omega)
        exact hl31 7 0 (by omega) (by omega)
  exact hl4 7 0 (by omega) (by omega)
set_option maxRecDepth 20000 in
theorem c_agedShort (g : GE) {h i : Nat} {x : Int32} {iv : Iv} {lv : Lv} {dd : Nat → Nat} {dm : Nat} (hh : isH h) (hi : i < 6) (hG : Ok1 dd dm iv lv) : ConIp g yX0_agedShort cX0_agedShort 8 (some .int) 3 [rf g h, .int (nI i), .int x] iv lv (nI 0) := by
  refine con_intro (own := "RollingNets$Figures") (by decide +kernel) rfl (Nat.le_of_ble_eq_true rfl) (L0 := [some (rf g h), some (.int (nI i)), some (.int x), none, none, none, none, none]) rfl (fun Z zh => ?_)
  refine z_aloadnR zh dX0_agedShort_0 rfl ?_
  refine z_getf zh fl_Figures_9 dX0_agedShort_1 (ck_H hh) rfl rfl ?_
  refine z_iloadn zh dX0_agedShort_4 rfl ?_
  refine z_maldN zh (ck_markets hh) dX0_agedShort_5 hi ?_
  refine z_astoren zh dX0_agedShort_6 (by decide) (L' := [some (rf g h), some (.int (nI i)), some (.int x), some (rf g (h + 60 + 20 * i)), none, none, none, none]) rfl ?_
  refine z_aloadnR zh dX0_agedShort_7 rfl ?_
  refine z_getI (x := nI 0) zh fl_Figures_83 dX0_agedShort_8 (ck_M (isM_of hh hi)) rfl rfl (a1_endDay hG (isM_of hh hi)) ?_
  refine z_aloadnR zh dX0_agedShort_11 rfl ?_
  refine z_getI (x := nI (dd h)) zh fl_Figures_90 dX0_agedShort_12 (ck_H hh) rfl rfl (a1_day hG hh) ?_
  refine z_iloadn zh dX0_agedShort_15 rfl ?_
  refine z_isub zh dX0_agedShort_16 ?_
  refine z_iconst zh dX0_agedShort_17 ki_1 ?_
  refine z_iadd zh dX0_agedShort_18 ?_
  obtain ⟨em, hem, hle⟩ : ∃ z, (if ((nI (dd h)) - x) + (nI 1) < nI 0 then ((nI (dd h)) - x) + (nI 1) else nI 0) = z ∧ z ≤ nI 0 := ⟨_, rfl, min0 _⟩
  refine z_mminE (r := em) zh ma_Figures_93 mc_min dX0_agedShort_19 ⟨Nat.le_of_ble_eq_true rfl, Nat.le_of_ble_eq_true rfl⟩ hem ?_
  refine z_istore zh dX0_agedShort_22 (by decide) (L' := [some (rf g h), some (.int (nI i)), some (.int x), some (rf g (h + 60 + 20 * i)), some (.int em), none, none, none]) rfl ?_
  refine z_iconst zh dX0_agedShort_24 ki_0 ?_
  refine z_istore zh dX0_agedShort_25 (by decide) (L' := [some (rf g h), some (.int (nI i)), some (.int x), some (rf g (h + 60 + 20 * i)), some (.int em), some (.int (nI 0)), none, none]) rfl ?_
  refine z_iconst zh dX0_agedShort_27 ki_0 ?_
  refine z_istore zh dX0_agedShort_28 (by decide) (L' := [some (rf g h), some (.int (nI i)), some (.int x), some (rf g (h + 60 + 20 * i)), some (.int em), some (.int (nI 0)), some (.int (nI 0)), none]) rfl ?_
  refine z_iload zh dX0_agedShort_30 rfl ?_
  refine z_iload zh dX0_agedShort_32 rfl ?_
  refine z_icmp_ge (tgt := 81) zh dX0_agedShort_34 rfl (fun _ => ?_) (fun q => absurd hle q)
  refine z_iload zh dX0_agedShort_81 rfl ?_
  exact z_iret zh dX0_agedShort_83 (qI rfl)
set_option maxRecDepth 20000 in
theorem c_booked (g : GE) {h : Nat} {a b c : Int32} {iv : Iv} {lv : Lv} {dd : Nat → Nat} {dm : Nat} (hh : isH h) (hG : Ok1 dd dm iv lv) : ConIp g yX0_booked cX0_booked 6 (some .int) 3 [rf g (h + 38), .int a, .int b, .int c] iv lv (nI 0) := by
  refine con_intro (own := "RollingNets$Figures") (by decide +kernel) rfl (Nat.le_of_ble_eq_true rfl) (L0 := [some (rf g (h + 38)), some (.int a), some (.int b), some (.int c), none, none]) rfl (fun Z zh => ?_)
  refine z_iconst zh dX0_booked_0 ki_0 ?_
  refine z_istore zh dX0_booked_1 (by decide) (L' := [some (rf g (h + 38)), some (.int a), some (.int b), some (.int c), some (.int (nI 0)), none]) rfl ?_
  refine z_iconst zh dX0_booked_3 ki_0 ?_
  refine z_istore zh dX0_booked_4 (by decide) (L' := [some (rf g (h + 38)), some (.int a), some (.int b), some (.int c), some (.int (nI 0)), some (.int (nI 0))]) rfl ?_
  refine z_iload zh dX0_booked_6 rfl ?_
  refine z_aloadnR zh dX0_booked_8 rfl ?_
  refine z_callVIp zh mv_Figures_65 dX0_booked_9 (ck_T (isT_b hh)) rfl (c_size g (isT_b hh) (a1_cb hG hh)) ⟨Nat.le_of_ble_eq_true rfl, Nat.le_of_ble_eq_true rfl⟩ rfl rfl (Nat.le_of_ble_eq_true rfl) ?_
  refine z_icmp_ge_N (tgt := 55) zh (by decide) (by decide) dX0_booked_12 rfl (fun _ => ?_) (fun q => absurd q (by decide))
  refine z_iload zh dX0_booked_55 rfl ?_
  exact z_iret zh dX0_booked_57 (qI rfl)
set_option maxRecDepth 20000 in
theorem c_ofIssue (g : GE) {h i : Nat} {w : Int32} {iv : Iv} {lv : Lv} {dd : Nat → Nat} {dm : Nat} (hh : isH h) (hi : i < 6) (hG : Ok1 dd dm iv lv) : ConIp g yX0_ofIssue cX0_ofIssue 4 (some .int) 4 [rf g h, .int (nI i), .int w] iv lv (sp_iss w) := by
  refine con_intro (own := "RollingNets$Figures") (by decide +kernel) rfl (Nat.le_of_ble_eq_true rfl) (L0 := [some (rf g h), some (.int (nI i)), some (.int w), none]) rfl (fun Z zh => ?_)
  refine z_aloadnR zh dX0_ofIssue_0 rfl ?_
  refine z_getf zh fl_Figures_9 dX0_ofIssue_1 (ck_H hh) rfl rfl ?_
  refine z_iloadn zh dX0_ofIssue_4 rfl ?_
  refine z_maldN zh (ck_markets hh) dX0_ofIssue_5 hi ?_
  refine z_astoren zh dX0_ofIssue_6 (by decide) (L' := [some (rf g h), some (.int (nI i)), some (.int w), some (rf g (h + 60 + 20 * i))]) rfl ?_
  refine z_iloadn zh dX0_ofIssue_7 rfl ?_
  by_cases hp1 : InN 9 w
  · obtain ⟨jw, hjw, rfl⟩ := id hp1
    rcases (by omega : jw = 0 ∨ jw = 1 ∨ jw = 2 ∨ jw = 3 ∨ jw = 4 ∨ jw = 5 ∨ jw = 6 ∨ jw = 7 ∨ jw = 8) with rfl | rfl | rfl | rfl | rfl | rfl | rfl | rfl | rfl
    · refine z_tabIn (off := 52) (tgt := 60) zh dX0_ofIssue_8 (by decide) (by decide) (by decide) rfl ?_
      refine z_aloadnR zh dX0_ofIssue_60 rfl ?_
      refine z_getI (x := nI 100) zh fl_Figures_15 dX0_ofIssue_61 (ck_M (isM_of hh hi)) rfl rfl (a1_price hG (isM_of hh hi)) ?_
      exact z_iret zh dX0_ofIssue_64 (qI (by first | rfl | simp (decide := true) only [sp_iss, sel_t, sel_f, selL_t, selL_f, bi_t, bi_f, sel_same, selL_same, eq_self, hp1]))
    · refine z_tabIn (off := 57) (tgt := 65) zh dX0_ofIssue_8 (by decide) (by decide) (by decide) rfl ?_
      refine z_aloadnR zh dX0_ofIssue_65 rfl ?_
      refine z_getI (x := nI 100) zh fl_Figures_21 dX0_ofIssue_66 (ck_M (isM_of hh hi)) rfl rfl (a1_marked hG (isM_of hh hi)) ?_
      exact z_iret zh dX0_ofIssue_69 (qI (by first | rfl | simp (decide := true) only [sp_iss, sel_t, sel_f, selL_t, selL_f, bi_t, bi_f, sel_same, selL_same, eq_self, hp1]))
    · refine z_tabIn (off := 62) (tgt := 70) zh dX0_ofIssue_8 (by decide) (by decide) (by decide) rfl ?_
      refine z_aloadnR zh dX0_ofIssue_70 rfl ?_
      refine z_aloadnR zh dX0_ofIssue_71 rfl ?_
      refine z_iloadn zh dX0_ofIssue_72 rfl ?_
      refine z_callSIp zh ms_Figures_24 dX0_ofIssue_73 (c_overMembers g hh hi hG) ⟨Nat.le_of_ble_eq_true rfl, Nat.le_of_ble_eq_true rfl⟩ rfl rfl (Nat.le_of_ble_eq_true rfl) ?_
      exact z_iret zh dX0_ofIssue_76 (qI (by first | rfl | simp (decide := true) only [sp_iss, sel_t, sel_f, selL_t, selL_f, bi_t, bi_f, sel_same, selL_same, eq_self, hp1]))
    · refine z_tabIn (off := 62) (tgt := 70) zh dX0_ofIssue_8 (by decide) (by decide) (by decide) rfl ?_
      refine z_aloadnR zh dX0_ofIssue_70 rfl ?_
      refine z_aloadnR zh dX0_ofIssue_71 rfl ?_
      refine z_iloadn zh dX0_ofIssue_72 rfl ?_
      refine z_callSIp zh ms_Figures_24 dX0_ofIssue_73 (c_overMembers g hh hi hG) ⟨Nat.le_of_ble_eq_true rfl, Nat.le_of_ble_eq_true rfl⟩ rfl rfl (Nat.le_of_ble_eq_true rfl) ?_
      exact z_iret zh dX0_ofIssue_76 (qI (by first | rfl | simp (decide := true) only [sp_iss, sel_t, sel_f, selL_t, selL_f, bi_t, bi_f, sel_same, selL_same, eq_self, hp1]))
    · refine z_tabIn (off := 62) (tgt := 70) zh dX0_ofIssue_8 (by decide) (by decide) (by decide) rfl ?_
      refine z_aloadnR zh dX0_ofIssue_70 rfl ?_
      refine z_aloadnR zh dX0_ofIssue_71 rfl ?_
      refine z_iloadn zh dX0_ofIssue_72 rfl ?_
      refine z_callSIp zh ms_Figures_24 dX0_ofIssue_73 (c_overMembers g hh hi hG) ⟨Nat.le_of_ble_eq_true rfl, Nat.le_of_ble_eq_true rfl⟩ rfl rfl (Nat.le_of_ble_eq_true rfl) ?_
      exact z_iret zh dX0_ofIssue_76 (qI (by first | rfl | simp (decide := true) only [sp_iss, sel_t, sel_f, selL_t, selL_f, bi_t, bi_f, sel_same, selL_same, eq_self, hp1]))
    · refine z_tabIn (off := 69) (tgt := 77) zh dX0_ofIssue_8 (by decide) (by decide) (by decide) rfl ?_
      refine z_aloadnR zh dX0_ofIssue_77 rfl ?_
      refine z_aloadnR zh dX0_ofIssue_78 rfl ?_
      refine z_callSIp zh ms_Figures_30 dX0_ofIssue_79 (c_eldestDay g hh hi hG) ⟨Nat.le_of_ble_eq_true rfl, Nat.le_of_ble_eq_true rfl⟩ rfl rfl (Nat.le_of_ble_eq_true rfl) ?_
      exact z_iret zh dX0_ofIssue_82 (qI (by first | rfl | simp (decide := true) only [sp_iss, sel_t, sel_f, selL_t, selL_f, bi_t, bi_f, sel_same, selL_same, eq_self, hp1]))
    · refine z_tabIn (off := 75) (tgt := 83) zh dX0_ofIssue_8 (by decide) (by decide) (by decide) rfl ?_
      refine z_aloadnR zh dX0_ofIssue_83 rfl ?_
      refine z_iloadn zh dX0_ofIssue_84 rfl ?_
      refine z_iconst zh dX0_ofIssue_85 ki_1 ?_
      refine z_bipush zh dX0_ofIssue_86 kb_7 ?_
      refine z_callSIp zh ms_Figures_34 dX0_ofIssue_88 (c_overDeals g hh hG) ⟨Nat.le_of_ble_eq_true rfl, Nat.le_of_ble_eq_true rfl⟩ rfl rfl (Nat.le_of_ble_eq_true rfl) ?_
      exact z_iret zh dX0_ofIssue_91 (qI (by first | rfl | simp (decide := true) only [sp_iss, sel_t, sel_f, selL_t, selL_f, bi_t, bi_f, sel_same, selL_same, eq_self, hp1]))
    · refine z_tabIn (off := 84) (tgt := 92) zh dX0_ofIssue_8 (by decide) (by decide) (by decide) rfl ?_
      refine z_aloadnR zh dX0_ofIssue_92 rfl ?_
      refine z_iloadn zh dX0_ofIssue_93 rfl ?_
      refine z_callSIp zh ms_Figures_38 dX0_ofIssue_94 (c_countDeals g hh hG) ⟨Nat.le_of_ble_eq_true rfl, Nat.le_of_ble_eq_true rfl⟩ rfl rfl (Nat.le_of_ble_eq_true rfl) ?_
      exact z_iret zh dX0_ofIssue_97 (qI (by first | rfl | simp (decide := true) only [sp_iss, sel_t, sel_f, selL_t, selL_f, bi_t, bi_f, sel_same, selL_same, eq_self, hp1]))
    · refine z_tabIn (off := 90) (tgt := 98) zh dX0_ofIssue_8 (by decide) (by decide) (by decide) rfl ?_
      refine z_aloadnR zh dX0_ofIssue_98 rfl ?_
      refine z_iloadn zh dX0_ofIssue_99 rfl ?_
      refine z_iconst zh dX0_ofIssue_100 ki_m1 ?_
      refine z_iconst zh dX0_ofIssue_101 ki_3 ?_
      refine z_callSIp zh ms_Figures_34 dX0_ofIssue_102 (c_overDeals g hh hG) ⟨Nat.le_of_ble_eq_true rfl, Nat.le_of_ble_eq_true rfl⟩ rfl rfl (Nat.le_of_ble_eq_true rfl) ?_
      exact z_iret zh dX0_ofIssue_105 (qI (by first | rfl | simp (decide := true) only [sp_iss, sel_t, sel_f, selL_t, selL_f, bi_t, bi_f, sel_same, selL_same, eq_self, hp1]))
  · have hp1r := mt (InN_toInt (by omega)).mpr hp1
    have hp1n0 := InN_no hp1 (j := 0) (by omega)
    have hp1n1 := InN_no hp1 (j := 1) (by omega)
    have hp1n2 := InN_no hp1 (j := 2) (by omega)
    have hp1n3 := InN_no hp1 (j := 3) (by omega)
    have hp1n4 := InN_no hp1 (j := 4) (by omega)
    have hp1n5 := InN_no hp1 (j := 5) (by omega)
    have hp1n6 := InN_no hp1 (j := 6) (by omega)
    have hp1n7 := InN_no hp1 (j := 7) (by omega)
    have hp1n8 := InN_no hp1 (j := 8) (by omega)
    refine z_tabOut (tgt := 106) zh dX0_ofIssue_8 (by omega) rfl ?_
    refine z_iconst zh dX0_ofIssue_106 ki_m1 ?_
    exact z_iret zh dX0_ofIssue_107 (qI (by first | rfl | simp (decide := true) only [sp_iss, sel_t, sel_f, selL_t, selL_f, bi_t, bi_f, sel_same, selL_same, eq_self, hp1, hp1n0, hp1n1, hp1n2, hp1n3, hp1n4, hp1n5, hp1n6, hp1n7, hp1n8]))
set_option maxRecDepth 20000 in
theorem c_givers (g : GE) {h : Nat} {a : Int32} {iv : Iv} {lv : Lv} {dd : Nat → Nat} {dm : Nat} (hh : isH h) (hG : Ok1 dd dm iv lv) : ConIp g yX5_givers cX5_givers 5 (some .int) 3 [rf g h, .int a] iv lv (nI 0) := by
  refine con_intro (own := "RollingNets$Notices") (by decide +kernel) rfl (Nat.le_of_ble_eq_true rfl) (L0 := [some (rf g h), some (.int a), none, none, none]) rfl (fun Z zh => ?_)
  refine z_aloadnR zh dX5_givers_0 rfl ?_
  refine z_getf zh fl_Notices_9 dX5_givers_1 (ck_H hh) rfl rfl ?_
  refine z_astoren zh dX5_givers_4 (by decide) (L' := [some (rf g h), some (.int a), some (rf g (h + 17)), none, none]) rfl ?_
  refine z_iconst zh dX5_givers_5 ki_0 ?_
  refine z_istoren zh dX5_givers_6 (by decide) (L' := [some (rf g h), some (.int a), some (rf g (h + 17)), some (.int (nI 0)), none]) rfl ?_
  refine z_iconst zh dX5_givers_7 ki_0 ?_
  refine z_istore zh dX5_givers_8 (by decide) (L' := [some (rf g h), some (.int a), some (rf g (h + 17)), some (.int (nI 0)), some (.int (nI 0))]) rfl ?_
  refine z_iload zh dX5_givers_10 rfl ?_
  refine z_aloadnR zh dX5_givers_12 rfl ?_
  refine z_callVIp zh mv_Notices_15 dX5_givers_13 (ck_T (isT_n hh)) rfl (c_size g (isT_n hh) (a1_cn hG hh)) ⟨Nat.le_of_ble_eq_true rfl, Nat.le_of_ble_eq_true rfl⟩ rfl rfl (Nat.le_of_ble_eq_true rfl) ?_
  refine z_icmp_ge_N (tgt := 58) zh (by decide) (by decide) dX5_givers_16 rfl (fun _ => ?_) (fun q => absurd q (by decide))
  refine z_iloadn zh dX5_givers_58 rfl ?_
  exact z_iret zh dX5_givers_59 (qI rfl)
set_option maxRecDepth 20000 in
theorem c_agedLong (g : GE) {h i : Nat} {a : Int32} {iv : Iv} {lv : Lv} {dd : Nat → Nat} {dm : Nat} (hh : isH h) (hi : i < 6) (hG : Ok1 dd dm iv lv) : ConIp g yX5_agedLong cX5_agedLong 7 (some .int) 3 [rf g h, .int a, .int (nI i)] iv lv (nI 0) := by
  refine con_intro (own := "RollingNets$Notices") (by decide +kernel) rfl (Nat.le_of_ble_eq_true rfl) (L0 := [some (rf g h), some (.int a), some (.int (nI i)), none, none, none, none]) rfl (fun Z zh => ?_)
  refine z_aloadnR zh dX5_agedLong_0 rfl ?_
  refine z_getf zh fl_Notices_68 dX5_agedLong_1 (ck_H hh) rfl rfl ?_
  refine z_iloadn zh dX5_agedLong_4 rfl ?_
  refine z_maldN zh (ck_markets hh) dX5_agedLong_5 hi ?_
  refine z_astoren zh dX5_agedLong_6 (by decide) (L' := [some (rf g h), some (.int a), some (.int (nI i)), some (rf g (h + 60 + 20 * i)), none, none, none]) rfl ?_
  refine z_aloadnR zh dX5_agedLong_7 rfl ?_
  refine z_getI (x := nI 0) zh fl_Notices_72 dX5_agedLong_8 (ck_M (isM_of hh hi)) rfl rfl (a1_endDay hG (isM_of hh hi)) ?_
  refine z_aloadnR zh dX5_agedLong_11 rfl ?_
  refine z_getI (x := nI (dd h)) zh fl_Notices_78 dX5_agedLong_12 (ck_H hh) rfl rfl (a1_day hG hh) ?_
  refine z_aloadnR zh dX5_agedLong_15 rfl ?_
  refine z_getf zh fl_Notices_81 dX5_agedLong_16 (ck_H hh) rfl rfl ?_
  refine z_iconst zh dX5_agedLong_19 ki_3 ?_
  refine z_ialdE (x := nI 3) zh (ck_told hh) dX5_agedLong_20 (by decide) (show iv (h + 1) 3 = nI 3 from a1_told hG hh 3) ?_
  refine z_isub zh dX5_agedLong_21 ?_
  refine z_iconst zh dX5_agedLong_22 ki_1 ?_
  refine z_iadd zh dX5_agedLong_23 ?_
  obtain ⟨em, hem, hle⟩ : ∃ z, (if ((nI (dd h)) - (nI 3)) + (nI 1) < nI 0 then ((nI (dd h)) - (nI 3)) + (nI 1) else nI 0) = z ∧ z ≤ nI 0 := ⟨_, rfl, min0 _⟩
  refine z_mminE (r := em) zh ma_Notices_84 mc_min dX5_agedLong_24 ⟨Nat.le_of_ble_eq_true rfl, Nat.le_of_ble_eq_true rfl⟩ hem ?_
  refine z_istore zh dX5_agedLong_27 (by decide) (L' := [some (rf g h), some (.int a), some (.int (nI i)), some (rf g (h + 60 + 20 * i)), some (.int em), none, none]) rfl ?_
  refine z_iconst zh dX5_agedLong_29 ki_0 ?_
  refine z_istore zh dX5_agedLong_30 (by decide) (L' := [some (rf g h), some (.int a), some (.int (nI i)), some (rf g (h + 60 + 20 * i)), some (.int em), some (.int (nI 0)), none]) rfl ?_
  refine z_iconst zh dX5_agedLong_32 ki_0 ?_
  refine z_istore zh dX5_agedLong_33 (by decide) (L' := [some (rf g h), some (.int a), some (.int (nI i)), some (rf g (h + 60 + 20 * i)), some (.int em), some (.int (nI 0)), some (.int (nI 0))]) rfl ?_
  refine z_iload zh dX5_agedLong_35 rfl ?_
  refine z_iload zh dX5_agedLong_37 rfl ?_
  refine z_icmp_ge (tgt := 66) zh dX5_agedLong_39 rfl (fun _ => ?_) (fun q => absurd hle q)
  refine z_iload zh dX5_agedLong_66 rfl ?_
  exact z_iret zh dX5_agedLong_68 (qI rfl)
set_option maxRecDepth 20000 in
theorem c_giveNet (g : GE) {h : Nat} {x y z : Int32} {iv : Iv} {lv : Lv} {dd : Nat → Nat} {dm : Nat} (hh : isH h) (hG : Ok1 dd dm iv lv) : ConIp g yX5_giveNet cX5_giveNet 7 (some .int) 4 [rf g h, .int x, .int y, .int z] iv lv ((-1)) := by
  refine con_intro (own := "RollingNets$Notices") (by decide +kernel) rfl (Nat.le_of_ble_eq_true rfl) (L0 := [some (rf g h), some (.int x), some (.int y), some (.int z), none, none, none]) rfl (fun Z zh => ?_)
  refine z_aloadnR zh dX5_giveNet_0 rfl ?_
  refine z_iloadn zh dX5_giveNet_1 rfl ?_
  refine z_callVIp zh mv_Notices_29 dX5_giveNet_2 (ck_H hh) rfl (c_hasMember g hh hG) ⟨Nat.le_of_ble_eq_true rfl, Nat.le_of_ble_eq_true rfl⟩ rfl rfl (Nat.le_of_ble_eq_true rfl) ?_
  refine z_if_eq_B (tgt := 25) zh dX5_giveNet_5 rfl (fun hp1 => ?_) (fun hp1 => ?_)
  · refine z_iconst zh dX5_giveNet_25 ki_m1 ?_
    exact z_iret zh dX5_giveNet_26 (qI rfl)
  · obtain ⟨jx, hjx, rfl⟩ := id hp1
    refine z_iloadn zh dX5_giveNet_8 rfl ?_
    refine z_callSIp zh ms_Notices_33 dX5_giveNet_9 (c_isIssue g) ⟨Nat.le_of_ble_eq_true rfl, Nat.le_of_ble_eq_true rfl⟩ rfl rfl (Nat.le_of_ble_eq_true rfl) ?_
    refine z_if_eq_B (tgt := 25) zh dX5_giveNet_12 rfl (fun hp2 => ?_) (fun hp2 => ?_)
    · refine z_iconst zh dX5_giveNet_25 ki_m1 ?_
      exact z_iret zh dX5_giveNet_26 (qI rfl)
    · obtain ⟨jy, hjy, rfl⟩ := id hp2
      refine z_aloadnR zh dX5_giveNet_15 rfl ?_
      refine z_getf zh fl_Notices_9 dX5_giveNet_16 (ck_H hh) rfl rfl ?_
      refine z_callVIp zh mv_Notices_36 dX5_giveNet_19 (ck_T (isT_n hh)) rfl (c_isFull0 g (isT_n hh) (a1_cn hG hh) (by decide) (by decide)) ⟨Nat.le_of_ble_eq_true rfl, Nat.le_of_ble_eq_true rfl⟩ rfl rfl (Nat.le_of_ble_eq_true rfl) ?_
      refine z_if_eq_N (tgt := 27) zh (by decide) dX5_giveNet_22 rfl (fun _ => ?_) (fun q => absurd q (by decide))
      refine z_iloadn zh dX5_giveNet_27 rfl ?_
      refine z_iconst zh dX5_giveNet_28 ki_1 ?_
      refine z_icmp_lt (tgt := 42) zh dX5_giveNet_29 rfl (fun hb3 => ?_) (fun hb3 => ?_)
      · refine z_iconst zh dX5_giveNet_42 ki_m1 ?_
        exact z_iret zh dX5_giveNet_43 (qI rfl)
      · refine z_iloadn zh dX5_giveNet_32 rfl ?_
        refine z_aloadnR zh dX5_giveNet_33 rfl ?_
        refine z_iloadn zh dX5_giveNet_34 rfl ?_
        refine z_iloadn zh dX5_giveNet_35 rfl ?_
        refine z_callSIp zh ms_Notices_40 dX5_giveNet_36 (c_agedLong g hh hjy hG) ⟨Nat.le_of_ble_eq_true rfl, Nat.le_of_ble_eq_true rfl⟩ rfl rfl (Nat.le_of_ble_eq_true rfl) ?_
        refine z_icmp_le (tgt := 44) zh dX5_giveNet_39 rfl (fun q => absurd q (by rw [Int32.le_iff_toInt_le]; rw [Int32.lt_iff_toInt_lt] at hb3; have e0 : (nI 0).toInt = 0 := (by decide); have e1 : (nI 1).toInt = 1 := (by decide); omega)) (fun _ => ?_)
        refine z_iconst zh dX5_giveNet_42 ki_m1 ?_
        exact z_iret zh dX5_giveNet_43 (qI rfl)
set_option maxRecDepth 20000 in
theorem c_isCalled (g : GE) {h : Nat} {a : Int32} {iv : Iv} {lv : Lv} {dd : Nat → Nat} {dm : Nat} (hh : isH h) (hG : Ok1 dd dm iv lv) : ConIp g yX5_isCalled cX5_isCalled 4 (some .boolean) 3 [rf g h, .int a] iv lv (nI 0) := by
  refine con_intro (own := "RollingNets$Notices") (by decide +kernel) rfl (Nat.le_of_ble_eq_true rfl) (L0 := [some (rf g h), some (.int a), none, none]) rfl (fun Z zh => ?_)
  refine z_aloadnR zh dX5_isCalled_0 rfl ?_
  refine z_getf zh fl_Notices_9 dX5_isCalled_1 (ck_H hh) rfl rfl ?_
  refine z_astoren zh dX5_isCalled_4 (by decide) (L' := [some (rf g h), some (.int a), some (rf g (h + 17)), none]) rfl ?_
  refine z_iconst zh dX5_isCalled_5 ki_0 ?_
  refine z_istoren zh dX5_isCalled_6 (by decide) (L' := [some (rf g h), some (.int a), some (rf g (h + 17)), some (.int (nI 0))]) rfl ?_
  refine z_iloadn zh dX5_isCalled_7 rfl ?_
  refine z_aloadnR zh dX5_isCalled_8 rfl ?_
  refine z_callVIp zh mv_Notices_15 dX5_isCalled_9 (ck_T (isT_n hh)) rfl (c_size g (isT_n hh) (a1_cn hG hh)) ⟨Nat.le_of_ble_eq_true rfl, Nat.le_of_ble_eq_true rfl⟩ rfl rfl (Nat.le_of_ble_eq_true rfl) ?_
  refine z_icmp_ge_N (tgt := 43) zh (by decide) (by decide) dX5_isCalled_12 rfl (fun _ => ?_) (fun q => absurd q (by decide))
  refine z_iconst zh dX5_isCalled_43 ki_0 ?_
  exact z_zret zh dX5_isCalled_44 (Or.inl rfl) (qI rfl)
set_option maxRecDepth 20000 in
theorem c_giveApart (g : GE) {h : Nat} {a : Int32} {iv : Iv} {lv : Lv} {dd : Nat → Nat} {dm : Nat} (hh : isH h) (hG : Ok1 dd dm iv lv) : ConIp g yX5_giveApart cX5_giveApart 4 (some .int) 3 [rf g h, .int a] iv lv ((-1)) := by
  refine con_intro (own := "RollingNets$Notices") (by decide +kernel) rfl (Nat.le_of_ble_eq_true rfl) (L0 := [some (rf g h), some (.int a), none, none]) rfl (fun Z zh => ?_)
  refine z_aloadnR zh dX5_giveApart_0 rfl ?_
  refine z_getf zh fl_Notices_106 dX5_giveApart_1 (ck_H hh) rfl rfl ?_
  refine z_astoren zh dX5_giveApart_4 (by decide) (L' := [some (rf g h), some (.int a), some (rf g (h + 7)), none]) rfl ?_
  refine z_aloadnR zh dX5_giveApart_5 rfl ?_
  refine z_bipush zh dX5_giveApart_6 kb_7 ?_
  refine z_iloadn zh dX5_giveApart_8 rfl ?_
  refine z_callVIp zh mv_Notices_25 dX5_giveApart_9 (ck_T (isT_d hh)) rfl (c_get0 g (isT_d hh) (a1_cd hG hh) (by decide)) ⟨Nat.le_of_ble_eq_true rfl, Nat.le_of_ble_eq_true rfl⟩ rfl rfl (Nat.le_of_ble_eq_true rfl) ?_
  refine z_istoren zh dX5_giveApart_12 (by decide) (L' := [some (rf g h), some (.int a), some (rf g (h + 7)), some (.int (-1))]) rfl ?_
  refine z_aloadnR zh dX5_giveApart_13 rfl ?_
  refine z_iconst zh dX5_giveApart_14 ki_5 ?_
  refine z_iloadn zh dX5_giveApart_15 rfl ?_
  refine z_callVIp zh mv_Notices_25 dX5_giveApart_16 (ck_T (isT_d hh)) rfl (c_get0 g (isT_d hh) (a1_cd hG hh) (by decide)) ⟨Nat.le_of_ble_eq_true rfl, Nat.le_of_ble_eq_true rfl⟩ rfl rfl (Nat.le_of_ble_eq_true rfl) ?_
  refine z_iconst zh dX5_giveApart_19 ki_1 ?_
  refine z_icmp_ne (tgt := 36) zh dX5_giveApart_20 rfl (fun _ => ?_) (fun q => absurd q.symm (nI_nm1 (by decide)))
  refine z_iconst zh dX5_giveApart_36 ki_m1 ?_
  exact z_iret zh dX5_giveApart_37 (qI rfl)
set_option maxRecDepth 20000 in
theorem c_hasOpen (g : GE) {h : Nat} {a : Int32} {iv : Iv} {lv : Lv} {dd : Nat → Nat} {dm : Nat} (hh : isH h) (hG : Ok1 dd dm iv lv) : ConIp g yX1_hasOpen cX1_hasOpen 3 (some .boolean) 3 [rf g h, .int a] iv lv (nI 0) := by
  refine con_intro (own := "RollingNets$House") (by decide +kernel) rfl (Nat.le_of_ble_eq_true rfl) (L0 := [some (rf g h), some (.int a), none]) rfl (fun Z zh => ?_)
  refine z_iconst zh dX1_hasOpen_0 ki_0 ?_
  refine z_istoren zh dX1_hasOpen_1 (by decide) (L' := [some (rf g h), some (.int a), some (.int (nI 0))]) rfl ?_
  refine z_iloadn zh dX1_hasOpen_2 rfl ?_
  refine z_aloadnR zh dX1_hasOpen_3 rfl ?_
  refine z_getf zh fl_House_43 dX1_hasOpen_4 (ck_H hh) rfl rfl ?_
  refine z_callVIp zh mv_House_145 dX1_hasOpen_7 (ck_T (isT_d hh)) rfl (c_size g (isT_d hh) (a1_cd hG hh)) ⟨Nat.le_of_ble_eq_true rfl, Nat.le_of_ble_eq_true rfl⟩ rfl rfl (Nat.le_of_ble_eq_true rfl) ?_
  refine z_icmp_ge_N (tgt := 47) zh (by decide) (by decide) dX1_hasOpen_10 rfl (fun _ => ?_) (fun q => absurd q (by decide))
  refine z_iconst zh dX1_hasOpen_47 ki_0 ?_
  refine z_istoren zh dX1_hasOpen_48 (by decide) (L' := [some (rf g h), some (.int a), some (.int (nI 0))]) rfl ?_
  refine z_iloadn zh dX1_hasOpen_49 rfl ?_
  refine z_aloadnR zh dX1_hasOpen_50 rfl ?_
  refine z_getf zh fl_House_47 dX1_hasOpen_51 (ck_H hh) rfl rfl ?_
  refine z_callVIp zh mv_House_145 dX1_hasOpen_54 (ck_T (isT_n hh)) rfl (c_size g (isT_n hh) (a1_cn hG hh)) ⟨Nat.le_of_ble_eq_true rfl, Nat.le_of_ble_eq_true rfl⟩ rfl rfl (Nat.le_of_ble_eq_true rfl) ?_
  refine z_icmp_ge_N (tgt := 77) zh (by decide) (by decide) dX1_hasOpen_57 rfl (fun _ => ?_) (fun q => absurd q (by decide))
  refine z_iconst zh dX1_hasOpen_77 ki_0 ?_
  exact z_zret zh dX1_hasOpen_78 (Or.inl rfl) (qI rfl)
set_option maxRecDepth 20000 in
theorem c_addGroup (g : GE) {h i : Nat} {a : Int32} {iv : Iv} {lv : Lv} {dd : Nat → Nat} {dm : Nat} (hh : isH h) (hi : i < 6) (hG : Ok1 dd dm iv lv) : ConV g yX2_addGroup cX2_addGroup 6 none 3 [rf g (h + 54), rf g (h + 60 + 20 * i), .int a] iv lv (fun iv lv => Ok1 dd dm iv lv) := by
  refine con_intro (own := "RollingNets$Line") (by decide +kernel) rfl (Nat.le_of_ble_eq_true rfl) (L0 := [some (rf g (h + 54)), some (rf g (h + 60 + 20 * i)), some (.int a), none, none, none]) rfl (fun Z zh => ?_)
  refine z_iloadn zh dX2_addGroup_0 rfl ?_
  refine z_if_ne (tgt := 5) zh dX2_addGroup_1 rfl (fun hb1 => ?_) (fun hb1 => ?_)
  · refine z_iconst zh dX2_addGroup_5 ki_0 ?_
    refine z_istoren zh dX2_addGroup_6 (by decide) (L' := [some (rf g (h + 54)), some (rf g (h + 60 + 20 * i)), some (.int a), some (.int (nI 0)), none, none]) rfl ?_
    refine z_iloadn zh dX2_addGroup_7 rfl ?_
    refine z_aloadnR zh dX2_addGroup_8 rfl ?_
    refine z_getI (x := nI 0) zh fl_Line_58 dX2_addGroup_9 (ck_M (isM_of hh hi)) rfl rfl (a1_endDay hG (isM_of hh hi)) ?_
    refine z_icmp_ge_N (tgt := 110) zh (by decide) (by decide) dX2_addGroup_12 rfl (fun _ => ?_) (fun q => absurd q (by decide))
    exact z_vret zh dX2_addGroup_110 (⟨rfl, hG⟩)
  · exact z_vret zh dX2_addGroup_4 (⟨rfl, hG⟩)
set_option maxRecDepth 20000 in
theorem c_sortByRank (g : GE) {h : Nat} {iv : Iv} {lv : Lv} {dd : Nat → Nat} {dm : Nat} (hh : isH h) (hG : Ok1 dd dm iv lv) : ConV g yX2_sortByRank cX2_sortByRank 5 none 3 [rf g (h + 54), rf g h] iv lv (fun iv lv => Ok1 dd dm iv lv) := by
  refine con_intro (own := "RollingNets$Line") (by decide +kernel) rfl (Nat.le_of_ble_eq_true rfl) (L0 := [some (rf g (h + 54)), some (rf g h), none, none, none]) rfl (fun Z zh => ?_)
  refine z_iconst zh dX2_sortByRank_0 ki_0 ?_
  refine z_istoren zh dX2_sortByRank_1 (by decide) (L' := [some (rf g (h + 54)), some (rf g h), some (.int (nI 0)), none, none]) rfl ?_
  refine z_bipush zh dX2_sortByRank_2 kb_9 ?_
  refine z_istoren zh dX2_sortByRank_4 (by decide) (L' := [some (rf g (h + 54)), some (rf g h), some (.int (nI 0)), some (.int (nI 9)), none]) rfl ?_
  have hl5 : ∀ (q5 : Nat), q5 ≤ 10 → ∀ (s5 : Nat) (iv : Iv) (lv : Lv), Ok1 dd dm iv lv → s5 ≤ 12 → Z 5 [some (rf g (h + 54)), some (rf g h), some (.int (nI s5)), some (.int (rkv q5)), none] [] iv lv := by
    intro q5
    induction q5 with
    | zero =>
      intro _ s5 iv lv hG hs5
      rw [rkv_0]
      refine z_iloadn zh dX2_sortByRank_5 rfl ?_
      refine z_if_lt (tgt := 61) zh dX2_sortByRank_6 rfl (fun _ => ?_) (fun q => absurd q (by decide))
      refine z_iloadn zh dX2_sortByRank_61 rfl ?_
      refine z_istoren zh dX2_sortByRank_62 (by decide) (L' := [some (rf g (h + 54)), some (rf g h), some (.int (nI s5)), some (.int (nI s5)), none]) rfl ?_
      have hl63 : ∀ (n k63 : Nat) (iv : Iv) (lv : Lv), Ok1 dd dm iv lv → k63 ≤ 12 → 12 - k63 < n → Z 63 [some (rf g (h + 54)), some (rf g h), some (.int (nI s5)), some (.int (nI k63)), none] [] iv lv := by
        intro n
        induction n with
        | zero => intro k63 iv lv _ _ hn; exact absurd hn (Nat.not_lt_zero _)
        | succ n ih63 =>
          intro k63 iv lv hG hk63 hn63
          refine z_iloadn zh dX2_sortByRank_63 rfl ?_
          refine z_bipush zh dX2_sortByRank_64 kb_12 ?_
          refine z_icmp_ge_N (tgt := 82) zh (by omega) (by decide) dX2_sortByRank_66 rfl (fun hb1 => ?_) (fun hb1 => ?_)
          · exact z_vret zh dX2_sortByRank_82 (⟨rfl, hG⟩)
          · refine z_aloadnR zh dX2_sortByRank_69 rfl ?_
            refine z_getf zh fl_Line_22 dX2_sortByRank_70 (ck_line hh) rfl rfl ?_
            refine z_iloadn zh dX2_sortByRank_73 rfl ?_
            refine z_iloadn zh dX2_sortByRank_74 rfl ?_
            refine z_iastN zh (ck_lineR hh) dX2_sortByRank_75 (by omega) ?_
            have hG := ok1_wI (k := h + 54 + 3) (j := k63) (x := nI k63) hG (w1_H hh 57 (by omega) (Or.inl rfl))
            generalize upI iv (h + 54 + 3) (k63) (nI k63) = iv at hG ⊢
            refine z_iincN zh dX2_sortByRank_76 ki_1 (by decide) rfl (L' := [some (rf g (h + 54)), some (rf g h), some (.int (nI s5)), some (.int (nI (k63 + 1))), none]) rfl ?_
            refine z_goto (tgt := 63) zh dX2_sortByRank_79 rfl ?_
            exact ih63 (k63 + 1) iv lv hG (by omega) (by omega)
      exact hl63 13 s5 iv lv hG (by omega) (by omega)
    | succ q5 ih5 =>
      intro hq5 s5 iv lv hG hs5
      rw [rkv_s]
      refine z_iloadn zh dX2_sortByRank_5 rfl ?_
      refine z_if_lt_N (tgt := 61) zh (by omega) dX2_sortByRank_6 rfl ?_
      refine z_iconst zh dX2_sortByRank_9 ki_0 ?_
      refine z_istore zh dX2_sortByRank_10 (by decide) (L' := [some (rf g (h + 54)), some (rf g h), some (.int (nI s5)), some (.int (nI q5)), some (.int (nI 0))]) rfl ?_
      have hl12 : ∀ (n k12 s12 : Nat) (iv : Iv) (lv : Lv), Ok1 dd dm iv lv → s12 ≤ 12 → k12 ≤ 6 → 6 - k12 < n → Z 12 [some (rf g (h + 54)), some (rf g h), some (.int (nI s12)), some (.int (nI q5)), some (.int (nI k12))] [] iv lv := by
        intro n
        induction n with
        | zero => intro k12 s12 iv lv _ _ _ hn; exact absurd hn (Nat.not_lt_zero _)
        | succ n ih12 =>
          intro k12 s12 iv lv hG hs12 hk12 hn12
          refine z_iload zh dX2_sortByRank_12 rfl ?_
          refine z_aloadnR zh dX2_sortByRank_14 rfl ?_
          refine z_callVIp zh mv_Line_35 dX2_sortByRank_15 (ck_H hh) rfl (c_members g hh hG) ⟨Nat.le_of_ble_eq_true rfl, Nat.le_of_ble_eq_true rfl⟩ rfl rfl (Nat.le_of_ble_eq_true rfl) ?_
          refine z_icmp_ge_N (tgt := 55) zh (by omega) (by decide) dX2_sortByRank_18 rfl (fun hb2 => ?_) (fun hb2 => ?_)
          · refine z_iinc zh dX2_sortByRank_55 (by decide) rfl rfl (L' := [some (rf g (h + 54)), some (rf g h), some (.int (nI s12)), some (.int ((nI q5) + Int32.ofInt (-1))), some (.int (nI k12))]) rfl ?_
            refine z_goto (tgt := 5) zh dX2_sortByRank_58 rfl ?_
            refine z_forget zh [true, true, true, true, false] (L2 := [some (rf g (h + 54)), some (rf g h), some (.int (nI s12)), some (.int ((nI q5) + Int32.ofInt (-1))), none]) rfl ?_; rw [nI_addm1]; exact ih5 (by omega) s12 iv lv hG (by omega)
          · refine z_iloadn zh dX2_sortByRank_21 rfl ?_
            refine z_bipush zh dX2_sortByRank_22 kb_12 ?_
            refine z_icmp_ge_N (tgt := 55) zh (by omega) (by decide) dX2_sortByRank_24 rfl (fun hb3 => ?_) (fun hb3 => ?_)
            · refine z_iinc zh dX2_sortByRank_55 (by decide) rfl rfl (L' := [some (rf g (h + 54)), some (rf g h), some (.int (nI s12)), some (.int ((nI q5) + Int32.ofInt (-1))), some (.int (nI k12))]) rfl ?_
              refine z_goto (tgt := 5) zh dX2_sortByRank_58 rfl ?_
              refine z_forget zh [true, true, true, true, false] (L2 := [some (rf g (h + 54)), some (rf g h), some (.int (nI s12)), some (.int ((nI q5) + Int32.ofInt (-1))), none]) rfl ?_; rw [nI_addm1]; exact ih5 (by omega) s12 iv lv hG (by omega)
            · refine z_aloadnR zh dX2_sortByRank_27 rfl ?_
              refine z_getf zh fl_Line_55 dX2_sortByRank_28 (ck_H hh) rfl rfl ?_
              refine z_iload zh dX2_sortByRank_31 rfl ?_
              refine z_ialdE (x := nI 0) zh (ck_rank hh) dX2_sortByRank_33 (by omega) (a1_rank hG hh) ?_
              refine z_iloadn zh dX2_sortByRank_34 rfl ?_
              refine z_icmp_ne_N (tgt := 49) zh (by decide) (by omega) dX2_sortByRank_35 rfl (fun hb4 => ?_) (fun hb4 => ?_)
              · refine z_iincN zh dX2_sortByRank_49 ki_1 (by decide) rfl (L' := [some (rf g (h + 54)), some (rf g h), some (.int (nI s12)), some (.int (nI q5)), some (.int (nI (k12 + 1)))]) rfl ?_
                refine z_goto (tgt := 12) zh dX2_sortByRank_52 rfl ?_
                exact ih12 (k12 + 1) s12 iv lv hG (by omega) (by omega) (by omega)
              · refine z_aloadnR zh dX2_sortByRank_38 rfl ?_
                refine z_getf zh fl_Line_22 dX2_sortByRank_39 (ck_line hh) rfl rfl ?_
                refine z_iloadn zh dX2_sortByRank_42 rfl ?_
                refine z_iload zh dX2_sortByRank_43 rfl ?_
                refine z_iastN zh (ck_lineR hh) dX2_sortByRank_45 (by omega) ?_
                have hG := ok1_wI (k := h + 54 + 3) (j := s12) (x := nI k12) hG (w1_H hh 57 (by omega) (Or.inl rfl))
                generalize upI iv (h + 54 + 3) (s12) (nI k12) = iv at hG ⊢
                refine z_iincN zh dX2_sortByRank_46 ki_1 (by decide) rfl (L' := [some (rf g (h + 54)), some (rf g h), some (.int (nI (s12 + 1))), some (.int (nI q5)), some (.int (nI k12))]) rfl ?_
                refine z_iincN zh dX2_sortByRank_49 ki_1 (by decide) rfl (L' := [some (rf g (h + 54)), some (rf g h), some (.int (nI (s12 + 1))), some (.int (nI q5)), some (.int (nI (k12 + 1)))]) rfl ?_
                refine z_goto (tgt := 12) zh dX2_sortByRank_52 rfl ?_
                exact ih12 (k12 + 1) (s12 + 1) iv lv hG (by omega) (by omega) (by omega)
      exact hl12 7 0 s5 iv lv hG (by omega) (by omega) (by omega)
  exact hl5 10 (by omega) 0 iv lv hG (by omega)
set_option maxRecDepth 20000 in
theorem c_form (g : GE) {h i : Nat} {iv : Iv} {lv : Lv} {dd : Nat → Nat} {dm : Nat} (hh : isH h) (hi : i < 6) (hG : Ok1 dd dm iv lv) : ConV g yX2_form cX2_form 7 none 4 [rf g (h + 54), rf g h, .int (nI i)] iv lv (fun iv lv => Ok1 dd dm iv lv) := by
  refine con_intro (own := "RollingNets$Line") (by decide +kernel) rfl (Nat.le_of_ble_eq_true rfl) (L0 := [some (rf g (h + 54)), some (rf g h), some (.int (nI i)), none, none, none, none]) rfl (fun Z zh => ?_)
  refine z_aloadnR zh dX2_form_0 rfl ?_
  refine z_iconst zh dX2_form_1 ki_0 ?_
  refine z_putI zh fl_Line_18 dX2_form_2 (ck_line hh) rfl rfl (Nat.le_of_ble_eq_true rfl) (Or.inl rfl) ?_
  have hG := ok1_wI (k := h + 54) (j := 2) (x := nI 0) hG (w1_H hh 54 (by omega) (Or.inr rfl))
  generalize upI iv (h + 54) (2) (nI 0) = iv at hG ⊢
  refine z_aloadnR zh dX2_form_5 rfl ?_
  refine z_aloadnR zh dX2_form_6 rfl ?_
  refine z_callVV zh mv_Line_25 dX2_form_7 (ck_line hh) rfl (c_sortByRank g hh hG) ⟨Nat.le_of_ble_eq_true rfl, Nat.le_of_ble_eq_true rfl⟩ rfl rfl (Nat.le_of_ble_eq_true rfl) ?_
  rintro iv lv hG
  refine z_aloadnR zh dX2_form_10 rfl ?_
  refine z_getf zh fl_Line_29 dX2_form_11 (ck_H hh) rfl rfl ?_
  refine z_iloadn zh dX2_form_14 rfl ?_
  refine z_maldN zh (ck_markets hh) dX2_form_15 hi ?_
  refine z_astoren zh dX2_form_16 (by decide) (L' := [some (rf g (h + 54)), some (rf g h), some (.int (nI i)), some (rf g (h + 60 + 20 * i)), none, none, none]) rfl ?_
  refine z_iconst zh dX2_form_17 ki_1 ?_
  refine z_aloadnR zh dX2_form_18 rfl ?_
  refine z_callVIp zh mv_Line_35 dX2_form_19 (ck_H hh) rfl (c_members g hh hG) ⟨Nat.le_of_ble_eq_true rfl, Nat.le_of_ble_eq_true rfl⟩ rfl rfl (Nat.le_of_ble_eq_true rfl) ?_
  refine z_ishl zh dX2_form_22 ?_
  refine z_iconst zh dX2_form_23 ki_1 ?_
  refine z_isub zh dX2_form_24 ?_
  refine z_istore zh dX2_form_25 (by decide) (L' := [some (rf g (h + 54)), some (rf g h), some (.int (nI i)), some (rf g (h + 60 + 20 * i)), some (.int (((nI 1) <<< (nI 6 &&& 31)) - (nI 1))), none, none]) rfl ?_
  refine z_aloadnR zh dX2_form_27 rfl ?_
  refine z_callSIp zh ms_Line_39 dX2_form_28 (c_suspendedSet g hh hG) ⟨Nat.le_of_ble_eq_true rfl, Nat.le_of_ble_eq_true rfl⟩ rfl rfl (Nat.le_of_ble_eq_true rfl) ?_
  refine z_istore zh dX2_form_31 (by decide) (L' := [some (rf g (h + 54)), some (rf g h), some (.int (nI i)), some (rf g (h + 60 + 20 * i)), some (.int (((nI 1) <<< (nI 6 &&& 31)) - (nI 1))), some (.int (nI 0)), none]) rfl ?_
  refine z_aloadnR zh dX2_form_33 rfl ?_
  refine z_iloadn zh dX2_form_34 rfl ?_
  refine z_callSIp zh ms_Line_45 dX2_form_35 (c_givers g hh hG) ⟨Nat.le_of_ble_eq_true rfl, Nat.le_of_ble_eq_true rfl⟩ rfl rfl (Nat.le_of_ble_eq_true rfl) ?_
  refine z_istore zh dX2_form_38 (by decide) (L' := [some (rf g (h + 54)), some (rf g h), some (.int (nI i)), some (rf g (h + 60 + 20 * i)), some (.int (((nI 1) <<< (nI 6 &&& 31)) - (nI 1))), some (.int (nI 0)), some (.int (nI 0))]) rfl ?_
  refine z_aloadnR zh dX2_form_40 rfl ?_
  refine z_aloadnR zh dX2_form_41 rfl ?_
  refine z_iload zh dX2_form_42 rfl ?_
  refine z_iload zh dX2_form_44 rfl ?_
  refine z_iconst zh dX2_form_46 ki_m1 ?_
  refine z_ixor zh dX2_form_47 ?_
  refine z_iand zh dX2_form_48 ?_
  refine z_iload zh dX2_form_49 rfl ?_
  refine z_iand zh dX2_form_51 ?_
  refine z_callVV zh mv_Line_51 dX2_form_52 (ck_line hh) rfl (c_addGroup g hh hi hG) ⟨Nat.le_of_ble_eq_true rfl, Nat.le_of_ble_eq_true rfl⟩ rfl rfl (Nat.le_of_ble_eq_true rfl) ?_
  rintro iv lv hG
  refine z_aloadnR zh dX2_form_55 rfl ?_
  refine z_aloadnR zh dX2_form_56 rfl ?_
  refine z_iload zh dX2_form_57 rfl ?_
  refine z_iload zh dX2_form_59 rfl ?_
  refine z_iconst zh dX2_form_61 ki_m1 ?_
  refine z_ixor zh dX2_form_62 ?_
  refine z_iand zh dX2_form_63 ?_
  refine z_iload zh dX2_form_64 rfl ?_
  refine z_iconst zh dX2_form_66 ki_m1 ?_
  refine z_ixor zh dX2_form_67 ?_
  refine z_iand zh dX2_form_68 ?_
  refine z_callVV zh mv_Line_51 dX2_form_69 (ck_line hh) rfl (c_addGroup g hh hi hG) ⟨Nat.le_of_ble_eq_true rfl, Nat.le_of_ble_eq_true rfl⟩ rfl rfl (Nat.le_of_ble_eq_true rfl) ?_
  rintro iv lv hG
  refine z_aloadnR zh dX2_form_72 rfl ?_
  refine z_aloadnR zh dX2_form_73 rfl ?_
  refine z_iload zh dX2_form_74 rfl ?_
  refine z_iload zh dX2_form_76 rfl ?_
  refine z_iand zh dX2_form_78 ?_
  refine z_callVV zh mv_Line_51 dX2_form_79 (ck_line hh) rfl (c_addGroup g hh hi hG) ⟨Nat.le_of_ble_eq_true rfl, Nat.le_of_ble_eq_true rfl⟩ rfl rfl (Nat.le_of_ble_eq_true rfl) ?_
  rintro iv lv hG
  refine z_aloadnR zh dX2_form_82 rfl ?_
  refine z_aloadnR zh dX2_form_83 rfl ?_
  refine z_iload zh dX2_form_84 rfl ?_
  refine z_iload zh dX2_form_86 rfl ?_
  refine z_iconst zh dX2_form_88 ki_m1 ?_
  refine z_ixor zh dX2_form_89 ?_
  refine z_iand zh dX2_form_90 ?_
  refine z_callVV zh mv_Line_51 dX2_form_91 (ck_line hh) rfl (c_addGroup g hh hi hG) ⟨Nat.le_of_ble_eq_true rfl, Nat.le_of_ble_eq_true rfl⟩ rfl rfl (Nat.le_of_ble_eq_true rfl) ?_
  rintro iv lv hG
  exact z_vret zh dX2_form_94 (⟨rfl, hG⟩)
