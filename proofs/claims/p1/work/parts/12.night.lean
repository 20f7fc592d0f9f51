theorem ok1_day {dd : Nat → Nat} {dm h k : Nat} {iv : Iv} {lv : Lv} (hh : isH h) (hG : Ok1 (va_up dd h k) dm iv lv) : Ok1 (va_up dd h (k + 1)) dm (upI iv h 11 (nI (k + 1))) lv := by
  refine ⟨fun a b x hx => ?_, hG.2⟩
  rw [upI_at]
  by_cases hc : a = h ∧ b = 11
  · obtain ⟨rfl, rfl⟩ := hc
    rw [if_pos ⟨rfl, rfl⟩]
    have := (s1_H (dd := va_up dd a (k + 1)) (dm := dm) (j := 11) (r := 0) hh (by omega)).symm.trans hx
    rw [show s1H (va_up dd a (k + 1) a) 0 11 = some (nI (va_up dd a (k + 1) a)) from rfl, vau_s] at this
    exact Option.some.inj this
  · rw [if_neg hc]
    refine hG.1 a b x ?_
    rw [← hx]
    unfold s1I
    by_cases h0 : a = 0
    · rw [if_pos h0, if_pos h0]
    · rw [if_neg h0, if_neg h0]
      by_cases h1 : a < 541
      · rw [if_pos h1, if_pos h1]
        unfold s1H
        by_cases h2 : (a - 1) % 180 = 0
        · rw [if_pos h2, if_pos h2]
          by_cases h3 : b = 10
          · rw [if_pos h3, if_pos h3]
          · rw [if_neg h3, if_neg h3]
            by_cases h4 : b = 11
            · rw [if_pos h4, if_pos h4]
              have h5 : 1 + 180 * ((a - 1) / 180) ≠ h := fun e => hc ⟨by rcases hh with rfl | rfl | rfl <;> omega, h4⟩
              rw [show va_up dd h k (1 + 180 * ((a - 1) / 180)) = va_up dd h (k + 1) (1 + 180 * ((a - 1) / 180)) from by unfold va_up; rw [if_neg h5, if_neg h5]]
            · rw [if_neg h4, if_neg h4]
        · rw [if_neg h2, if_neg h2]
      · rw [if_neg h1, if_neg h1]
set_option maxRecDepth 20000 in
theorem c_netDue (g : GE) {h i : Nat} {iv : Iv} {lv : Lv} {dd : Nat → Nat} {dm : Nat} (hh : isH h) (hi : i < 6) (hG : Ok1 dd dm iv lv) : ConV g yX4_netDue cX4_netDue 8 none 3 [rf g h, .int (nI i)] iv lv (fun iv lv => Ok1 dd dm iv lv) := by
  refine con_intro (own := "RollingNets$Night") (by decide +kernel) rfl (Nat.le_of_ble_eq_true rfl) (L0 := [some (rf g h), some (.int (nI i)), none, none, none, none, none, none]) rfl (fun Z zh => ?_)
  refine z_aloadnR zh dX4_netDue_0 rfl ?_
  refine z_getf zh fl_Night_53 dX4_netDue_1 (ck_H hh) rfl rfl ?_
  refine z_astoren zh dX4_netDue_4 (by decide) (L' := [some (rf g h), some (.int (nI i)), some (rf g (h + 7)), none, none, none, none, none]) rfl ?_
  refine z_aloadnR zh dX4_netDue_5 rfl ?_
  refine z_getf zh fl_Night_57 dX4_netDue_6 (ck_H hh) rfl rfl ?_
  refine z_iloadn zh dX4_netDue_9 rfl ?_
  refine z_maldN zh (ck_markets hh) dX4_netDue_10 hi ?_
  refine z_astoren zh dX4_netDue_11 (by decide) (L' := [some (rf g h), some (.int (nI i)), some (rf g (h + 7)), some (rf g (h + 60 + 20 * i)), none, none, none, none]) rfl ?_
  refine z_iconst zh dX4_netDue_12 ki_0 ?_
  refine z_istore zh dX4_netDue_13 (by decide) (L' := [some (rf g h), some (.int (nI i)), some (rf g (h + 7)), some (rf g (h + 60 + 20 * i)), some (.int (nI 0)), none, none, none]) rfl ?_
  refine z_iload zh dX4_netDue_15 rfl ?_
  refine z_aloadnR zh dX4_netDue_17 rfl ?_
  refine z_callVIp zh mv_Night_61 dX4_netDue_18 (ck_T (isT_d hh)) rfl (c_size g (isT_d hh) (a1_cd hG hh)) ⟨Nat.le_of_ble_eq_true rfl, Nat.le_of_ble_eq_true rfl⟩ rfl rfl (Nat.le_of_ble_eq_true rfl) ?_
  refine z_icmp_ge_N (tgt := 127) zh (by decide) (by decide) dX4_netDue_21 rfl (fun _ => ?_) (fun q => absurd q (by decide))
  exact z_vret zh dX4_netDue_127 (⟨rfl, hG⟩)
set_option maxRecDepth 20000 in
theorem c_lendToAged (g : GE) {h i : Nat} {iv : Iv} {lv : Lv} {dd : Nat → Nat} {dm : Nat} (hh : isH h) (hi : i < 6) (hG : Ok1 dd dm iv lv) : ConV g yX4_lendToAged cX4_lendToAged 5 none 5 [rf g h, .int (nI i)] iv lv (fun iv lv => Ok1 dd dm iv lv) := by
  refine con_intro (own := "RollingNets$Night") (by decide +kernel) rfl (Nat.le_of_ble_eq_true rfl) (L0 := [some (rf g h), some (.int (nI i)), none, none, none]) rfl (fun Z zh => ?_)
  refine z_aloadnR zh dX4_lendToAged_0 rfl ?_
  refine z_getI (x := nI (dd h)) zh fl_Night_13 dX4_lendToAged_1 (ck_H hh) rfl rfl (a1_day hG hh) ?_
  refine z_aloadnR zh dX4_lendToAged_4 rfl ?_
  refine z_getf zh fl_Night_169 dX4_lendToAged_5 (ck_H hh) rfl rfl ?_
  refine z_iconst zh dX4_lendToAged_8 ki_2 ?_
  refine z_ialdE (x := nI 2) zh (ck_told hh) dX4_lendToAged_9 (by decide) (show iv (h + 1) 2 = nI 2 from a1_told hG hh 2) ?_
  refine z_isub zh dX4_lendToAged_10 ?_
  refine z_istoren zh dX4_lendToAged_11 (by decide) (L' := [some (rf g h), some (.int (nI i)), some (.int ((nI (dd h)) - (nI 2))), none, none]) rfl ?_
  refine z_aloadnR zh dX4_lendToAged_12 rfl ?_
  refine z_getf zh fl_Night_141 dX4_lendToAged_13 (ck_H hh) rfl rfl ?_
  refine z_astoren zh dX4_lendToAged_16 (by decide) (L' := [some (rf g h), some (.int (nI i)), some (.int ((nI (dd h)) - (nI 2))), some (rf g (h + 54)), none]) rfl ?_
  refine z_aloadnR zh dX4_lendToAged_17 rfl ?_
  refine z_aloadnR zh dX4_lendToAged_18 rfl ?_
  refine z_iloadn zh dX4_lendToAged_19 rfl ?_
  refine z_callVV zh mv_Night_145 dX4_lendToAged_20 (ck_line hh) rfl (c_form g hh hi hG) ⟨Nat.le_of_ble_eq_true rfl, Nat.le_of_ble_eq_true rfl⟩ rfl rfl (Nat.le_of_ble_eq_true rfl) ?_
  rintro iv lv hG
  refine z_iconst zh dX4_lendToAged_23 ki_0 ?_
  refine z_istore zh dX4_lendToAged_24 (by decide) (L' := [some (rf g h), some (.int (nI i)), some (.int ((nI (dd h)) - (nI 2))), some (rf g (h + 54)), some (.int (nI 0))]) rfl ?_
  refine z_iload zh dX4_lendToAged_26 rfl ?_
  refine z_aloadnR zh dX4_lendToAged_28 rfl ?_
  refine z_getI (x := nI 0) zh fl_Night_150 dX4_lendToAged_29 (ck_line hh) rfl rfl (a1_ln hG hh) ?_
  refine z_icmp_ge_N (tgt := 71) zh (by decide) (by decide) dX4_lendToAged_32 rfl (fun _ => ?_) (fun q => absurd q (by decide))
  exact z_vret zh dX4_lendToAged_71 (⟨rfl, hG⟩)
set_option maxRecDepth 20000 in
theorem c_passApart (g : GE) {h i : Nat} {iv : Iv} {lv : Lv} {dd : Nat → Nat} {dm : Nat} (hh : isH h) (hi : i < 6) (hG : Ok1 dd dm iv lv) : ConV g yX4_passApart cX4_passApart 8 none 3 [rf g h, .int (nI i)] iv lv (fun iv lv => Ok1 dd dm iv lv) := by
  refine con_intro (own := "RollingNets$Night") (by decide +kernel) rfl (Nat.le_of_ble_eq_true rfl) (L0 := [some (rf g h), some (.int (nI i)), none, none, none, none, none, none]) rfl (fun Z zh => ?_)
  refine z_aloadnR zh dX4_passApart_0 rfl ?_
  refine z_getf zh fl_Night_53 dX4_passApart_1 (ck_H hh) rfl rfl ?_
  refine z_astoren zh dX4_passApart_4 (by decide) (L' := [some (rf g h), some (.int (nI i)), some (rf g (h + 7)), none, none, none, none, none]) rfl ?_
  refine z_aloadnR zh dX4_passApart_5 rfl ?_
  refine z_getf zh fl_Night_57 dX4_passApart_6 (ck_H hh) rfl rfl ?_
  refine z_iloadn zh dX4_passApart_9 rfl ?_
  refine z_maldN zh (ck_markets hh) dX4_passApart_10 hi ?_
  refine z_astoren zh dX4_passApart_11 (by decide) (L' := [some (rf g h), some (.int (nI i)), some (rf g (h + 7)), some (rf g (h + 60 + 20 * i)), none, none, none, none]) rfl ?_
  refine z_iconst zh dX4_passApart_12 ki_0 ?_
  refine z_istore zh dX4_passApart_13 (by decide) (L' := [some (rf g h), some (.int (nI i)), some (rf g (h + 7)), some (rf g (h + 60 + 20 * i)), some (.int (nI 0)), none, none, none]) rfl ?_
  refine z_iload zh dX4_passApart_15 rfl ?_
  refine z_aloadnR zh dX4_passApart_17 rfl ?_
  refine z_callVIp zh mv_Night_61 dX4_passApart_18 (ck_T (isT_d hh)) rfl (c_size g (isT_d hh) (a1_cd hG hh)) ⟨Nat.le_of_ble_eq_true rfl, Nat.le_of_ble_eq_true rfl⟩ rfl rfl (Nat.le_of_ble_eq_true rfl) ?_
  refine z_icmp_ge_N (tgt := 153) zh (by decide) (by decide) dX4_passApart_21 rfl (fun _ => ?_) (fun q => absurd q (by decide))
  exact z_vret zh dX4_passApart_153 (⟨rfl, hG⟩)
set_option maxRecDepth 20000 in
theorem c_mark (g : GE) {h i : Nat} {iv : Iv} {lv : Lv} {dd : Nat → Nat} {dm : Nat} (hh : isH h) (hi : i < 6) (hG : Ok1 dd dm iv lv) : ConV g yX4_mark cX4_mark 6 none 3 [rf g h, .int (nI i)] iv lv (fun iv lv => Ok1 dd dm iv lv) := by
  refine con_intro (own := "RollingNets$Night") (by decide +kernel) rfl (Nat.le_of_ble_eq_true rfl) (L0 := [some (rf g h), some (.int (nI i)), none, none, none, none]) rfl (fun Z zh => ?_)
  refine z_aloadnR zh dX4_mark_0 rfl ?_
  refine z_getf zh fl_Night_57 dX4_mark_1 (ck_H hh) rfl rfl ?_
  refine z_iloadn zh dX4_mark_4 rfl ?_
  refine z_maldN zh (ck_markets hh) dX4_mark_5 hi ?_
  refine z_astoren zh dX4_mark_6 (by decide) (L' := [some (rf g h), some (.int (nI i)), some (rf g (h + 60 + 20 * i)), none, none, none]) rfl ?_
  refine z_aloadnR zh dX4_mark_7 rfl ?_
  refine z_getI (x := nI 100) zh fl_Night_181 dX4_mark_8 (ck_M (isM_of hh hi)) rfl rfl (a1_price hG (isM_of hh hi)) ?_
  refine z_aloadnR zh dX4_mark_11 rfl ?_
  refine z_getI (x := nI 100) zh fl_Night_74 dX4_mark_12 (ck_M (isM_of hh hi)) rfl rfl (a1_marked hG (isM_of hh hi)) ?_
  refine z_isubN zh (by omega) dX4_mark_15 ?_
  refine z_i2l zh dX4_mark_16 ?_
  rw [show (nI 0).toInt64 = (0 : Int64) from by decide]
  refine z_lstoren zh dX4_mark_17 (by decide) (L' := [some (rf g h), some (.int (nI i)), some (rf g (h + 60 + 20 * i)), some (.long (0 : Int64)), none, none]) rfl ?_
  refine z_iconst zh dX4_mark_18 ki_0 ?_
  refine z_istore zh dX4_mark_19 (by decide) (L' := [some (rf g h), some (.int (nI i)), some (rf g (h + 60 + 20 * i)), some (.long (0 : Int64)), none, some (.int (nI 0))]) rfl ?_
  have hl21 : ∀ (n k21 : Nat) (iv : Iv) (lv : Lv), Ok1 dd dm iv lv → k21 ≤ 6 → 6 - k21 < n → Z 21 [some (rf g h), some (.int (nI i)), some (rf g (h + 60 + 20 * i)), some (.long (0 : Int64)), none, some (.int (nI k21))] [] iv lv := by
    intro n
    induction n with
    | zero => intro k21 iv lv _ _ hn; exact absurd hn (Nat.not_lt_zero _)
    | succ n ih21 =>
      intro k21 iv lv hG hk21 hn21
      refine z_iload zh dX4_mark_21 rfl ?_
      refine z_aloadnR zh dX4_mark_23 rfl ?_
      refine z_callVIp zh mv_Night_93 dX4_mark_24 (ck_H hh) rfl (c_members g hh hG) ⟨Nat.le_of_ble_eq_true rfl, Nat.le_of_ble_eq_true rfl⟩ rfl rfl (Nat.le_of_ble_eq_true rfl) ?_
      refine z_icmp_ge_N (tgt := 56) zh (by omega) (by decide) dX4_mark_27 rfl (fun hb1 => ?_) (fun hb1 => ?_)
      · refine z_aloadnR zh dX4_mark_56 rfl ?_
        refine z_aloadnR zh dX4_mark_57 rfl ?_
        refine z_getI (x := nI 100) zh fl_Night_181 dX4_mark_58 (ck_M (isM_of hh hi)) rfl rfl (a1_price hG (isM_of hh hi)) ?_
        refine z_putI zh fl_Night_74 dX4_mark_61 (ck_M (isM_of hh hi)) rfl rfl (Nat.le_of_ble_eq_true rfl) (Or.inl rfl) ?_
        have hG := ok1_wI (k := h + 60 + 20 * i) (j := 8) (x := nI 100) hG (w1_M (isM_of hh hi) 0 (by omega) (Or.inr rfl))
        generalize upI iv (h + 60 + 20 * i) (8) (nI 100) = iv at hG ⊢
        exact z_vret zh dX4_mark_64 (⟨rfl, hG⟩)
      · refine z_aloadnR zh dX4_mark_30 rfl ?_
        refine z_getf zh fl_Night_122 dX4_mark_31 (ck_H hh) rfl rfl ?_
        refine z_iload zh dX4_mark_34 rfl ?_
        refine z_dup2 zh dX4_mark_36 rfl rfl ?_
        refine z_laldE (x := (0 : Int64)) zh (ck_cash hh) dX4_mark_37 (by omega) (a1_cash hG hh) ?_
        refine z_aloadnR zh dX4_mark_38 rfl ?_
        refine z_getf zh fl_Night_184 dX4_mark_39 (ck_M (isM_of hh hi)) rfl rfl ?_
        refine z_iload zh dX4_mark_42 rfl ?_
        refine z_ialdE (x := nI 0) zh (ck_mi 6 (by decide) (isM_of hh hi)) dX4_mark_44 (by omega) (a1_mi hG (isM_of hh hi) 6 (by decide)) ?_
        refine z_i2l zh dX4_mark_45 ?_
        rw [show (nI 0).toInt64 = (0 : Int64) from by decide]
        refine z_lloadn zh dX4_mark_46 rfl ?_
        refine z_lmul zh dX4_mark_47 ?_
        rw [show (0 : Int64) * (0 : Int64) = (0 : Int64) from by decide]
        refine z_ladd zh dX4_mark_48 ?_
        rw [show (0 : Int64) + (0 : Int64) = (0 : Int64) from by decide]
        refine z_lastN zh (ck_cash hh) dX4_mark_49 (by omega) ?_
        have hG := ok1_wL (k := h + 2) (j := k21) (x := (0 : Int64)) hG (w1_HL hh 2 (by omega) (Or.inr rfl))
        generalize upL lv (h + 2) (k21) ((0 : Int64)) = lv at hG ⊢
        refine z_iincN zh dX4_mark_50 ki_1 (by decide) rfl (L' := [some (rf g h), some (.int (nI i)), some (rf g (h + 60 + 20 * i)), some (.long (0 : Int64)), none, some (.int (nI (k21 + 1)))]) rfl ?_
        refine z_goto (tgt := 21) zh dX4_mark_53 rfl ?_
        exact ih21 (k21 + 1) iv lv hG (by omega) (by omega)
  exact hl21 7 0 iv lv hG (by omega) (by omega)
set_option maxRecDepth 20000 in
theorem c_payOut (g : GE) {h i : Nat} {iv : Iv} {lv : Lv} {dd : Nat → Nat} {dm : Nat} (hh : isH h) (hi : i < 6) (hG : Ok1 dd dm iv lv) : ConV g yX4_payOut cX4_payOut 8 none 3 [rf g h, .int (nI i)] iv lv (fun iv lv => Ok1 dd dm iv lv) := by
  refine con_intro (own := "RollingNets$Night") (by decide +kernel) rfl (Nat.le_of_ble_eq_true rfl) (L0 := [some (rf g h), some (.int (nI i)), none, none, none, none, none, none]) rfl (fun Z zh => ?_)
  refine z_aloadnR zh dX4_payOut_0 rfl ?_
  refine z_getf zh fl_Night_57 dX4_payOut_1 (ck_H hh) rfl rfl ?_
  refine z_iloadn zh dX4_payOut_4 rfl ?_
  refine z_maldN zh (ck_markets hh) dX4_payOut_5 hi ?_
  refine z_astoren zh dX4_payOut_6 (by decide) (L' := [some (rf g h), some (.int (nI i)), some (rf g (h + 60 + 20 * i)), none, none, none, none, none]) rfl ?_
  refine z_aloadnR zh dX4_payOut_7 rfl ?_
  refine z_getI (x := nI 0) zh fl_Night_187 dX4_payOut_8 (ck_M (isM_of hh hi)) rfl rfl (a1_payout hG (isM_of hh hi)) ?_
  refine z_i2l zh dX4_payOut_11 ?_
  rw [show (nI 0).toInt64 = (0 : Int64) from by decide]
  refine z_lstoren zh dX4_payOut_12 (by decide) (L' := [some (rf g h), some (.int (nI i)), some (rf g (h + 60 + 20 * i)), some (.long (0 : Int64)), none, none, none, none]) rfl ?_
  refine z_iconst zh dX4_payOut_13 ki_0 ?_
  refine z_istore zh dX4_payOut_14 (by decide) (L' := [some (rf g h), some (.int (nI i)), some (rf g (h + 60 + 20 * i)), some (.long (0 : Int64)), none, some (.int (nI 0)), none, none]) rfl ?_
  have hl16 : ∀ (n k16 : Nat) (iv : Iv) (lv : Lv), Ok1 dd dm iv lv → k16 ≤ 6 → 6 - k16 < n → Z 16 [some (rf g h), some (.int (nI i)), some (rf g (h + 60 + 20 * i)), some (.long (0 : Int64)), none, some (.int (nI k16)), none, none] [] iv lv := by
    intro n
    induction n with
    | zero => intro k16 iv lv _ _ hn; exact absurd hn (Nat.not_lt_zero _)
    | succ n ih16 =>
      intro k16 iv lv hG hk16 hn16
      refine z_iload zh dX4_payOut_16 rfl ?_
      refine z_aloadnR zh dX4_payOut_18 rfl ?_
      refine z_callVIp zh mv_Night_93 dX4_payOut_19 (ck_H hh) rfl (c_members g hh hG) ⟨Nat.le_of_ble_eq_true rfl, Nat.le_of_ble_eq_true rfl⟩ rfl rfl (Nat.le_of_ble_eq_true rfl) ?_
      refine z_icmp_ge_N (tgt := 76) zh (by omega) (by decide) dX4_payOut_22 rfl (fun hb1 => ?_) (fun hb1 => ?_)
      · refine z_aloadnR zh dX4_payOut_76 rfl ?_
        refine z_iconst zh dX4_payOut_77 ki_0 ?_
        refine z_putI zh fl_Night_187 dX4_payOut_78 (ck_M (isM_of hh hi)) rfl rfl (Nat.le_of_ble_eq_true rfl) (Or.inl rfl) ?_
        have hG := ok1_wI (k := h + 60 + 20 * i) (j := 9) (x := nI 0) hG (w1_M (isM_of hh hi) 0 (by omega) (Or.inr rfl))
        generalize upI iv (h + 60 + 20 * i) (9) (nI 0) = iv at hG ⊢
        exact z_vret zh dX4_payOut_81 (⟨rfl, hG⟩)
      · refine z_aloadnR zh dX4_payOut_25 rfl ?_
        refine z_getf zh fl_Night_118 dX4_payOut_26 (ck_M (isM_of hh hi)) rfl rfl ?_
        refine z_iload zh dX4_payOut_29 rfl ?_
        refine z_laldE (x := (0 : Int64)) zh (ck_stock (isM_of hh hi)) dX4_payOut_31 (by omega) (a1_stock hG (isM_of hh hi)) ?_
        refine z_lstore zh dX4_payOut_32 (by decide) (L' := [some (rf g h), some (.int (nI i)), some (rf g (h + 60 + 20 * i)), some (.long (0 : Int64)), none, some (.int (nI k16)), some (.long (0 : Int64)), none]) rfl ?_
        refine z_aloadnR zh dX4_payOut_34 rfl ?_
        refine z_getf zh fl_Night_122 dX4_payOut_35 (ck_H hh) rfl rfl ?_
        refine z_iload zh dX4_payOut_38 rfl ?_
        refine z_dup2 zh dX4_payOut_40 rfl rfl ?_
        refine z_laldE (x := (0 : Int64)) zh (ck_cash hh) dX4_payOut_41 (by omega) (a1_cash hG hh) ?_
        refine z_lloadn zh dX4_payOut_42 rfl ?_
        refine z_lload zh dX4_payOut_43 rfl ?_
        refine z_aloadnR zh dX4_payOut_45 rfl ?_
        refine z_getf zh fl_Night_184 dX4_payOut_46 (ck_M (isM_of hh hi)) rfl rfl ?_
        refine z_iload zh dX4_payOut_49 rfl ?_
        refine z_ialdE (x := nI 0) zh (ck_mi 6 (by decide) (isM_of hh hi)) dX4_payOut_51 (by omega) (a1_mi hG (isM_of hh hi) 6 (by decide)) ?_
        refine z_i2l zh dX4_payOut_52 ?_
        rw [show (nI 0).toInt64 = (0 : Int64) from by decide]
        refine z_ladd zh dX4_payOut_53 ?_
        rw [show (0 : Int64) + (0 : Int64) = (0 : Int64) from by decide]
        refine z_lmul zh dX4_payOut_54 ?_
        rw [show (0 : Int64) * (0 : Int64) = (0 : Int64) from by decide]
        refine z_ladd zh dX4_payOut_55 ?_
        rw [show (0 : Int64) + (0 : Int64) = (0 : Int64) from by decide]
        refine z_lastN zh (ck_cash hh) dX4_payOut_56 (by omega) ?_
        have hG := ok1_wL (k := h + 2) (j := k16) (x := (0 : Int64)) hG (w1_HL hh 2 (by omega) (Or.inr rfl))
        generalize upL lv (h + 2) (k16) ((0 : Int64)) = lv at hG ⊢
        refine z_aloadnR zh dX4_payOut_57 rfl ?_
        refine z_dup zh dX4_payOut_58 rfl ?_
        refine z_getL (x := (0 : Int64)) zh fl_Night_190 dX4_payOut_59 (ck_H hh) rfl rfl (a1_outside hG hh) ?_
        refine z_lloadn zh dX4_payOut_62 rfl ?_
        refine z_lload zh dX4_payOut_63 rfl ?_
        refine z_lmul zh dX4_payOut_65 ?_
        rw [show (0 : Int64) * (0 : Int64) = (0 : Int64) from by decide]
        refine z_lsub zh dX4_payOut_66 ?_
        rw [show (0 : Int64) - (0 : Int64) = (0 : Int64) from by decide]
        refine z_putL zh fl_Night_190 dX4_payOut_67 (ck_H hh) rfl rfl (Nat.le_of_ble_eq_true rfl) rfl ?_
        have hG := ok1_wL (k := h) (j := 12) (x := (0 : Int64)) hG (w1_HL hh 0 (by omega) (Or.inr rfl))
        generalize upL lv (h) (12) ((0 : Int64)) = lv at hG ⊢
        refine z_iincN zh dX4_payOut_70 ki_1 (by decide) rfl (L' := [some (rf g h), some (.int (nI i)), some (rf g (h + 60 + 20 * i)), some (.long (0 : Int64)), none, some (.int (nI (k16 + 1))), some (.long (0 : Int64)), none]) rfl ?_
        refine z_goto (tgt := 16) zh dX4_payOut_73 rfl ?_
        refine z_forget zh [true, true, true, true, false, true, false, false] (L2 := [some (rf g h), some (.int (nI i)), some (rf g (h + 60 + 20 * i)), some (.long (0 : Int64)), none, some (.int (nI (k16 + 1))), none, none]) rfl ?_; exact ih16 (k16 + 1) iv lv hG (by omega) (by omega)
  exact hl16 7 0 iv lv hG (by omega) (by omega)
set_option maxRecDepth 20000 in
theorem c_countFails (g : GE) {h i : Nat} {iv : Iv} {lv : Lv} {dd : Nat → Nat} {dm : Nat} (hh : isH h) (hi : i < 6) (hG : Ok1 dd dm iv lv) : ConV g yX4_countFails cX4_countFails 7 none 3 [rf g h, .int (nI i)] iv lv (fun iv lv => Ok1 dd dm iv lv) := by
  refine con_intro (own := "RollingNets$Night") (by decide +kernel) rfl (Nat.le_of_ble_eq_true rfl) (L0 := [some (rf g h), some (.int (nI i)), none, none, none, none, none]) rfl (fun Z zh => ?_)
  refine z_aloadnR zh dX4_countFails_0 rfl ?_
  refine z_getf zh fl_Night_57 dX4_countFails_1 (ck_H hh) rfl rfl ?_
  refine z_iloadn zh dX4_countFails_4 rfl ?_
  refine z_maldN zh (ck_markets hh) dX4_countFails_5 hi ?_
  refine z_astoren zh dX4_countFails_6 (by decide) (L' := [some (rf g h), some (.int (nI i)), some (rf g (h + 60 + 20 * i)), none, none, none, none]) rfl ?_
  refine z_iconst zh dX4_countFails_7 ki_0 ?_
  refine z_istoren zh dX4_countFails_8 (by decide) (L' := [some (rf g h), some (.int (nI i)), some (rf g (h + 60 + 20 * i)), some (.int (nI 0)), none, none, none]) rfl ?_
  have hl9 : ∀ (n k9 : Nat) (iv : Iv) (lv : Lv), Ok1 dd dm iv lv → k9 ≤ 6 → 6 - k9 < n → Z 9 [some (rf g h), some (.int (nI i)), some (rf g (h + 60 + 20 * i)), some (.int (nI k9)), none, none, none] [] iv lv := by
    intro n
    induction n with
    | zero => intro k9 iv lv _ _ hn; exact absurd hn (Nat.not_lt_zero _)
    | succ n ih9 =>
      intro k9 iv lv hG hk9 hn9
      refine z_iloadn zh dX4_countFails_9 rfl ?_
      refine z_aloadnR zh dX4_countFails_10 rfl ?_
      refine z_callVIp zh mv_Night_93 dX4_countFails_11 (ck_H hh) rfl (c_members g hh hG) ⟨Nat.le_of_ble_eq_true rfl, Nat.le_of_ble_eq_true rfl⟩ rfl rfl (Nat.le_of_ble_eq_true rfl) ?_
      refine z_icmp_ge_N (tgt := 88) zh (by omega) (by decide) dX4_countFails_14 rfl (fun hb1 => ?_) (fun hb1 => ?_)
      · exact z_vret zh dX4_countFails_88 (⟨rfl, hG⟩)
      · refine z_aloadnR zh dX4_countFails_17 rfl ?_
        refine z_iloadn zh dX4_countFails_18 rfl ?_
        refine z_callVIp zh mv_Night_104 dX4_countFails_19 (ck_M (isM_of hh hi)) rfl (c_shortOf g (isM_of hh hi) (by omega) hG) ⟨Nat.le_of_ble_eq_true rfl, Nat.le_of_ble_eq_true rfl⟩ rfl rfl (Nat.le_of_ble_eq_true rfl) ?_
        refine z_istore zh dX4_countFails_22 (by decide) (L' := [some (rf g h), some (.int (nI i)), some (rf g (h + 60 + 20 * i)), some (.int (nI k9)), some (.int (nI 0)), none, none]) rfl ?_
        refine z_iload zh dX4_countFails_24 rfl ?_
        refine z_if_le_N (tgt := 82) zh (by decide) dX4_countFails_26 rfl (fun _ => ?_) (fun q => absurd q (by decide))
        refine z_iincN zh dX4_countFails_82 ki_1 (by decide) rfl (L' := [some (rf g h), some (.int (nI i)), some (rf g (h + 60 + 20 * i)), some (.int (nI (k9 + 1))), some (.int (nI 0)), none, none]) rfl ?_
        refine z_goto (tgt := 9) zh dX4_countFails_85 rfl ?_
        refine z_forget zh [true, true, true, true, false, false, false] (L2 := [some (rf g h), some (.int (nI i)), some (rf g (h + 60 + 20 * i)), some (.int (nI (k9 + 1))), none, none, none]) rfl ?_; exact ih9 (k9 + 1) iv lv hG (by omega) (by omega)
  exact hl9 7 0 iv lv hG (by omega) (by omega)
set_option maxRecDepth 20000 in
theorem c_closeDue (g : GE) {h i : Nat} {iv : Iv} {lv : Lv} {dd : Nat → Nat} {dm : Nat} (hh : isH h) (hi : i < 6) (hG : Ok1 dd dm iv lv) : ConV g yX5_closeDue cX5_closeDue 5 none 3 [rf g h, .int (nI i)] iv lv (fun iv lv => Ok1 dd dm iv lv) := by
  refine con_intro (own := "RollingNets$Notices") (by decide +kernel) rfl (Nat.le_of_ble_eq_true rfl) (L0 := [some (rf g h), some (.int (nI i)), none, none, none]) rfl (fun Z zh => ?_)
  refine z_aloadnR zh dX5_closeDue_0 rfl ?_
  refine z_getf zh fl_Notices_9 dX5_closeDue_1 (ck_H hh) rfl rfl ?_
  refine z_astoren zh dX5_closeDue_4 (by decide) (L' := [some (rf g h), some (.int (nI i)), some (rf g (h + 17)), none, none]) rfl ?_
  refine z_iconst zh dX5_closeDue_5 ki_0 ?_
  refine z_istoren zh dX5_closeDue_6 (by decide) (L' := [some (rf g h), some (.int (nI i)), some (rf g (h + 17)), some (.int (nI 0)), none]) rfl ?_
  refine z_iloadn zh dX5_closeDue_7 rfl ?_
  refine z_aloadnR zh dX5_closeDue_8 rfl ?_
  refine z_callVIp zh mv_Notices_15 dX5_closeDue_9 (ck_T (isT_n hh)) rfl (c_size g (isT_n hh) (a1_cn hG hh)) ⟨Nat.le_of_ble_eq_true rfl, Nat.le_of_ble_eq_true rfl⟩ rfl rfl (Nat.le_of_ble_eq_true rfl) ?_
  refine z_icmp_ge_N (tgt := 105) zh (by decide) (by decide) dX5_closeDue_12 rfl (fun _ => ?_) (fun q => absurd q (by decide))
  exact z_vret zh dX5_closeDue_105 (⟨rfl, hG⟩)
set_option maxRecDepth 20000 in
theorem c_deliverAll (g : GE) {h i : Nat} {iv : Iv} {lv : Lv} {dd : Nat → Nat} {dm : Nat} (hh : isH h) (hi : i < 6) (hG : Ok1 dd dm iv lv) : ConIp g yX4_deliverAll cX4_deliverAll 6 (some .int) 3 [rf g h, .int (nI i)] iv lv (nI 0) := by
  refine con_intro (own := "RollingNets$Night") (by decide +kernel) rfl (Nat.le_of_ble_eq_true rfl) (L0 := [some (rf g h), some (.int (nI i)), none, none, none, none]) rfl (fun Z zh => ?_)
  refine z_aloadnR zh dX4_deliverAll_0 rfl ?_
  refine z_getf zh fl_Night_57 dX4_deliverAll_1 (ck_H hh) rfl rfl ?_
  refine z_iloadn zh dX4_deliverAll_4 rfl ?_
  refine z_maldN zh (ck_markets hh) dX4_deliverAll_5 hi ?_
  refine z_astoren zh dX4_deliverAll_6 (by decide) (L' := [some (rf g h), some (.int (nI i)), some (rf g (h + 60 + 20 * i)), none, none, none]) rfl ?_
  refine z_iconst zh dX4_deliverAll_7 ki_0 ?_
  refine z_istoren zh dX4_deliverAll_8 (by decide) (L' := [some (rf g h), some (.int (nI i)), some (rf g (h + 60 + 20 * i)), some (.int (nI 0)), none, none]) rfl ?_
  refine z_iconst zh dX4_deliverAll_9 ki_0 ?_
  refine z_istore zh dX4_deliverAll_10 (by decide) (L' := [some (rf g h), some (.int (nI i)), some (rf g (h + 60 + 20 * i)), some (.int (nI 0)), some (.int (nI 0)), none]) rfl ?_
  refine z_iload zh dX4_deliverAll_12 rfl ?_
  refine z_aloadnR zh dX4_deliverAll_14 rfl ?_
  refine z_getI (x := nI 0) zh fl_Night_90 dX4_deliverAll_15 (ck_M (isM_of hh hi)) rfl rfl (a1_endDay hG (isM_of hh hi)) ?_
  refine z_icmp_ge_N (tgt := 68) zh (by decide) (by decide) dX4_deliverAll_18 rfl (fun _ => ?_) (fun q => absurd q (by decide))
  refine z_iloadn zh dX4_deliverAll_68 rfl ?_
  exact z_iret zh dX4_deliverAll_69 (qI rfl)
set_option maxRecDepth 20000 in
theorem c_allot (g : GE) {h i : Nat} {iv : Iv} {lv : Lv} {dd : Nat → Nat} {dm : Nat} (hh : isH h) (hi : i < 6) (hG : Ok1 dd dm iv lv) : ConV g yX4_allot cX4_allot 9 none 3 [rf g h, .int (nI i), .int (nI 0)] iv lv (fun iv lv => Ok1 dd dm iv lv) := by
  refine con_intro (own := "RollingNets$Night") (by decide +kernel) rfl (Nat.le_of_ble_eq_true rfl) (L0 := [some (rf g h), some (.int (nI i)), some (.int (nI 0)), none, none, none, none, none, none]) rfl (fun Z zh => ?_)
  refine z_iloadn zh dX4_allot_0 rfl ?_
  refine z_if_ne_N (tgt := 5) zh (by decide) dX4_allot_1 rfl (fun q => absurd q (by decide)) (fun _ => ?_)
  exact z_vret zh dX4_allot_4 (⟨rfl, hG⟩)
set_option maxRecDepth 20000 in
theorem c_pass (g : GE) {h : Nat} {x : Int32} {iv : Iv} {lv : Lv} {dd : Nat → Nat} {dm : Nat} (hh : isH h) (hd : dd h = 0) (hG : Ok1 dd dm iv lv) : ConI g yX4_pass cX4_pass 5 (some .int) 6 [rf g h, .int x] iv lv (fun r iv lv => (¬ Rg (nI 1) (nI 20) x ∧ r = -1 ∧ Ok1 dd dm iv lv) ∨ ∃ n, 1 ≤ n ∧ n ≤ 20 ∧ x = nI n ∧ r = nI n ∧ Ok1 (va_up dd h n) dm iv lv) := by
  refine con_intro (own := "RollingNets$Night") (by decide +kernel) rfl (Nat.le_of_ble_eq_true rfl) (L0 := [some (rf g h), some (.int x), none, none, none]) rfl (fun Z zh => ?_)
  refine z_iloadn zh dX4_pass_0 rfl ?_
  refine z_iconst zh dX4_pass_1 ki_1 ?_
  refine z_bipush zh dX4_pass_2 kb_20 ?_
  refine z_callSIp zh ms_Night_9 dX4_pass_4 (c_within g) ⟨Nat.le_of_ble_eq_true rfl, Nat.le_of_ble_eq_true rfl⟩ rfl rfl (Nat.le_of_ble_eq_true rfl) ?_
  refine z_if_eq_B (tgt := 19) zh dX4_pass_7 rfl (fun hp1 => ?_) (fun hp1 => ?_)
  · refine z_iconst zh dX4_pass_19 ki_m1 ?_
    exact z_iret zh dX4_pass_20 (⟨_, rfl, Or.inl ⟨hp1, rfl, hG⟩⟩)
  · obtain ⟨n, hln, hhn, rfl⟩ := Rg_nat (by omega) (by omega) hp1
    refine z_aloadnR zh dX4_pass_10 rfl ?_
    refine z_getI (x := nI 0) zh fl_Night_13 dX4_pass_11 (ck_H hh) rfl rfl ((a1_day hG hh).trans (by rw [hd])) ?_
    refine z_bipush zh dX4_pass_14 kb_99 ?_
    refine z_icmp_lt_N (tgt := 21) zh (by decide) (by decide) dX4_pass_16 rfl (fun _ => ?_) (fun q => absurd q (by decide))
    refine z_iconst zh dX4_pass_21 ki_0 ?_
    refine z_istoren zh dX4_pass_22 (by decide) (L' := [some (rf g h), some (.int (nI n)), some (.int (nI 0)), none, none]) rfl ?_
    have hl23 : ∀ (q k23 : Nat) (iv : Iv) (lv : Lv), Ok1 (va_up dd h k23) dm iv lv → k23 ≤ n → n - k23 < q → Z 23 [some (rf g h), some (.int (nI n)), some (.int (nI k23)), none, none] [] iv lv := by
      intro q
      induction q with
      | zero => intro k23 iv lv _ _ hn; exact absurd hn (Nat.not_lt_zero _)
      | succ q ih23 =>
        intro k23 iv lv hG hk23 hn23
        refine z_iloadn zh dX4_pass_23 rfl ?_
        refine z_iloadn zh dX4_pass_24 rfl ?_
        refine z_icmp_ge_N (tgt := 116) zh (by omega) (by omega) dX4_pass_25 rfl (fun hb2 => ?_) (fun hb2 => ?_)
        · refine z_iloadn zh dX4_pass_116 rfl ?_
          exact z_iret zh dX4_pass_117 (⟨_, rfl, Or.inr ⟨n, hln, hhn, rfl, by rw [show k23 = n by omega], by rw [← show k23 = n by omega]; exact hG⟩⟩)
        · refine z_aloadnR zh dX4_pass_28 rfl ?_
          refine z_getI (x := nI k23) zh fl_Night_13 dX4_pass_29 (ck_H hh) rfl rfl ((a1_day hG hh).trans (by rw [vau_s])) ?_
          refine z_bipush zh dX4_pass_32 kb_99 ?_
          refine z_icmp_ge_N (tgt := 116) zh (by omega) (by decide) dX4_pass_34 rfl (fun q => absurd q (by omega)) (fun _ => ?_)
          refine z_iconst zh dX4_pass_37 ki_0 ?_
          refine z_istoren zh dX4_pass_38 (by decide) (L' := [some (rf g h), some (.int (nI n)), some (.int (nI k23)), some (.int (nI 0)), none]) rfl ?_
          have hl39 : ∀ (q2 k39 : Nat) (iv : Iv) (lv : Lv), Ok1 (va_up dd h k23) dm iv lv → k39 ≤ 6 → 6 - k39 < q2 → Z 39 [some (rf g h), some (.int (nI n)), some (.int (nI k23)), some (.int (nI k39)), none] [] iv lv := by
            intro q2
            induction q2 with
            | zero => intro k39 iv lv _ _ hn; exact absurd hn (Nat.not_lt_zero _)
            | succ q2 ih39 =>
              intro k39 iv lv hG hk39 hn39
              refine z_iloadn zh dX4_pass_39 rfl ?_
              refine z_bipush zh dX4_pass_40 kb_6 ?_
              refine z_icmp_ge_N (tgt := 100) zh (by omega) (by decide) dX4_pass_42 rfl (fun hb3 => ?_) (fun hb3 => ?_)
              · refine z_aloadnR zh dX4_pass_100 rfl ?_
                refine z_dup zh dX4_pass_101 rfl ?_
                refine z_getI (x := nI k23) zh fl_Night_13 dX4_pass_102 (ck_H hh) rfl rfl ((a1_day hG hh).trans (by rw [vau_s])) ?_
                refine z_iconst zh dX4_pass_105 ki_1 ?_
                refine z_iaddN zh dX4_pass_106 ?_
                refine z_putI zh fl_Night_13 dX4_pass_107 (ck_H hh) rfl rfl (Nat.le_of_ble_eq_true rfl) (Or.inl rfl) ?_
                have hG := ok1_day hh hG
                generalize upI iv (h) (11) (nI (k23 + 1)) = iv at hG ⊢
                refine z_iincN zh dX4_pass_110 ki_1 (by decide) rfl (L' := [some (rf g h), some (.int (nI n)), some (.int (nI (k23 + 1))), some (.int (nI k39)), none]) rfl ?_
                refine z_goto (tgt := 23) zh dX4_pass_113 rfl ?_
                refine z_forget zh [true, true, true, false, false] (L2 := [some (rf g h), some (.int (nI n)), some (.int (nI (k23 + 1))), none, none]) rfl ?_; exact ih23 (k23 + 1) iv lv hG (by omega) (by omega)
              · refine z_aloadnR zh dX4_pass_45 rfl ?_
                refine z_iloadn zh dX4_pass_46 rfl ?_
                refine z_callSV zh ms_Night_19 dX4_pass_47 (c_netDue g hh (by omega) hG) ⟨Nat.le_of_ble_eq_true rfl, Nat.le_of_ble_eq_true rfl⟩ rfl rfl (Nat.le_of_ble_eq_true rfl) ?_
                rintro iv lv hG
                refine z_aloadnR zh dX4_pass_50 rfl ?_
                refine z_iloadn zh dX4_pass_51 rfl ?_
                refine z_callSIp zh ms_Night_25 dX4_pass_52 (c_deliverAll g hh (by omega) hG) ⟨Nat.le_of_ble_eq_true rfl, Nat.le_of_ble_eq_true rfl⟩ rfl rfl (Nat.le_of_ble_eq_true rfl) ?_
                refine z_istore zh dX4_pass_55 (by decide) (L' := [some (rf g h), some (.int (nI n)), some (.int (nI k23)), some (.int (nI k39)), some (.int (nI 0))]) rfl ?_
                refine z_aloadnR zh dX4_pass_57 rfl ?_
                refine z_iloadn zh dX4_pass_58 rfl ?_
                refine z_iload zh dX4_pass_59 rfl ?_
                refine z_callSV zh ms_Night_29 dX4_pass_61 (c_allot g hh (by omega) hG) ⟨Nat.le_of_ble_eq_true rfl, Nat.le_of_ble_eq_true rfl⟩ rfl rfl (Nat.le_of_ble_eq_true rfl) ?_
                rintro iv lv hG
                refine z_aloadnR zh dX4_pass_64 rfl ?_
                refine z_iloadn zh dX4_pass_65 rfl ?_
                refine z_callSV zh ms_Night_33 dX4_pass_66 (c_lendToAged g hh (by omega) hG) ⟨Nat.le_of_ble_eq_true rfl, Nat.le_of_ble_eq_true rfl⟩ rfl rfl (Nat.le_of_ble_eq_true rfl) ?_
                rintro iv lv hG
                refine z_aloadnR zh dX4_pass_69 rfl ?_
                refine z_iloadn zh dX4_pass_70 rfl ?_
                refine z_callSV zh ms_Night_36 dX4_pass_71 (c_passApart g hh (by omega) hG) ⟨Nat.le_of_ble_eq_true rfl, Nat.le_of_ble_eq_true rfl⟩ rfl rfl (Nat.le_of_ble_eq_true rfl) ?_
                rintro iv lv hG
                refine z_aloadnR zh dX4_pass_74 rfl ?_
                refine z_iloadn zh dX4_pass_75 rfl ?_
                refine z_callSV zh ms_Night_39 dX4_pass_76 (c_closeDue g hh (by omega) hG) ⟨Nat.le_of_ble_eq_true rfl, Nat.le_of_ble_eq_true rfl⟩ rfl rfl (Nat.le_of_ble_eq_true rfl) ?_
                rintro iv lv hG
                refine z_aloadnR zh dX4_pass_79 rfl ?_
                refine z_iloadn zh dX4_pass_80 rfl ?_
                refine z_callSV zh ms_Night_44 dX4_pass_81 (c_mark g hh (by omega) hG) ⟨Nat.le_of_ble_eq_true rfl, Nat.le_of_ble_eq_true rfl⟩ rfl rfl (Nat.le_of_ble_eq_true rfl) ?_
                rintro iv lv hG
                refine z_aloadnR zh dX4_pass_84 rfl ?_
                refine z_iloadn zh dX4_pass_85 rfl ?_
                refine z_callSV zh ms_Night_47 dX4_pass_86 (c_payOut g hh (by omega) hG) ⟨Nat.le_of_ble_eq_true rfl, Nat.le_of_ble_eq_true rfl⟩ rfl rfl (Nat.le_of_ble_eq_true rfl) ?_
                rintro iv lv hG
                refine z_aloadnR zh dX4_pass_89 rfl ?_
                refine z_iloadn zh dX4_pass_90 rfl ?_
                refine z_callSV zh ms_Night_50 dX4_pass_91 (c_countFails g hh (by omega) hG) ⟨Nat.le_of_ble_eq_true rfl, Nat.le_of_ble_eq_true rfl⟩ rfl rfl (Nat.le_of_ble_eq_true rfl) ?_
                rintro iv lv hG
                refine z_iincN zh dX4_pass_94 ki_1 (by decide) rfl (L' := [some (rf g h), some (.int (nI n)), some (.int (nI k23)), some (.int (nI (k39 + 1))), some (.int (nI 0))]) rfl ?_
                refine z_goto (tgt := 39) zh dX4_pass_97 rfl ?_
                refine z_forget zh [true, true, true, true, false] (L2 := [some (rf g h), some (.int (nI n)), some (.int (nI k23)), some (.int (nI (k39 + 1))), none]) rfl ?_; exact ih39 (k39 + 1) iv lv hG (by omega) (by omega)
          exact hl39 7 0 iv lv hG (by omega) (by omega)
    refine hl23 21 0 iv lv ?_ (by omega) (by omega)
    rw [show va_up dd h 0 = dd from funext fun a => by unfold va_up; by_cases e : a = h <;> simp [e, hd]]
    exact hG
set_option maxRecDepth 20000 in
theorem c_tcopy (g : GE) {t t2 cc nn : Nat} {iv : Iv} {lv : Lv} {dd : Nat → Nat} {dm : Nat} (ht : isT t cc nn) (ht2 : isT t2 cc nn) (hc1 : iv t 2 = nI 0) (hc2 : iv t2 2 = nI 0) (hn1 : nn < 2 ^ 31) (hn2 : cc < 20) (hwc : ∀ y, s1I dd dm t 2 = some y → y = nI 0) (hG : Ok1 dd dm iv lv) : ConV g yX7_copyFrom cX7_copyFrom 4 none 3 [rf g t, rf g t2] iv lv (fun iv lv => Ok1 dd dm iv lv) := by
  refine con_intro (own := "RollingNets$Table") (by decide +kernel) rfl (Nat.le_of_ble_eq_true rfl) (L0 := [some (rf g t), some (rf g t2), none, none]) rfl (fun Z zh => ?_)
  refine z_aloadnR zh dX7_copyFrom_0 rfl ?_
  refine z_getf zh fl_Table_11 dX7_copyFrom_1 (ck_T ht) rfl rfl ?_
  refine z_alenG zh (ck_Tc ht) dX7_copyFrom_4 ?_
  refine z_aloadnR zh dX7_copyFrom_5 rfl ?_
  refine z_getf zh fl_Table_11 dX7_copyFrom_6 (ck_T ht2) rfl rfl ?_
  refine z_alenG zh (ck_Tc ht2) dX7_copyFrom_9 ?_
  refine z_mminE (r := nI cc) zh ma_Table_27 mc_min dX7_copyFrom_10 ⟨Nat.le_of_ble_eq_true rfl, Nat.le_of_ble_eq_true rfl⟩ (ite_self _) ?_
  refine z_istoren zh dX7_copyFrom_13 (by decide) (L' := [some (rf g t), some (rf g t2), some (.int (nI cc)), none]) rfl ?_
  refine z_aloadnR zh dX7_copyFrom_14 rfl ?_
  refine z_aloadnR zh dX7_copyFrom_15 rfl ?_
  refine z_getI (x := nI 0) zh fl_Table_20 dX7_copyFrom_16 (ck_T ht2) rfl rfl hc2 ?_
  refine z_aloadnR zh dX7_copyFrom_19 rfl ?_
  refine z_getI (x := nI nn) zh fl_Table_16 dX7_copyFrom_20 (ck_T ht) rfl rfl rfl ?_
  refine z_mminE (r := nI 0) zh ma_Table_27 mc_min dX7_copyFrom_23 ⟨Nat.le_of_ble_eq_true rfl, Nat.le_of_ble_eq_true rfl⟩ (by rw [if_neg (by rw [nI_ltI (by omega) (by omega)]; omega)]) ?_
  refine z_putI zh fl_Table_20 dX7_copyFrom_26 (ck_T ht) rfl rfl (Nat.le_of_ble_eq_true rfl) (Or.inl rfl) ?_
  have hG := ok1_wI (k := t) (j := 2) (x := nI 0) hG hwc
  have hc1 : upI iv t 2 (nI 0) t 2 = nI 0 := by rw [upI_at, if_pos ⟨rfl, rfl⟩]
  generalize upI iv (t) (2) (nI 0) = iv at hG hc1 ⊢
  refine z_iconst zh dX7_copyFrom_29 ki_0 ?_
  refine z_istoren zh dX7_copyFrom_30 (by decide) (L' := [some (rf g t), some (rf g t2), some (.int (nI cc)), some (.int (nI 0))]) rfl ?_
  have hl31 : ∀ (q k31 : Nat) (iv : Iv) (lv : Lv), Ok1 dd dm iv lv → iv t 2 = nI 0 → k31 ≤ cc → cc - k31 < q → Z 31 [some (rf g t), some (rf g t2), some (.int (nI cc)), some (.int (nI k31))] [] iv lv := by
    intro q
    induction q with
    | zero => intro k31 iv lv _ _ _ hn; exact absurd hn (Nat.not_lt_zero _)
    | succ q ih31 =>
      intro k31 iv lv hG hc1 hk31 hn31
      refine z_iloadn zh dX7_copyFrom_31 rfl ?_
      refine z_iloadn zh dX7_copyFrom_32 rfl ?_
      refine z_icmp_ge_N (tgt := 63) zh (by omega) (by omega) dX7_copyFrom_33 rfl (fun hb1 => ?_) (fun hb1 => ?_)
      · exact z_vret zh dX7_copyFrom_63 (⟨rfl, hG⟩)
      · refine z_aloadnR zh dX7_copyFrom_36 rfl ?_
        refine z_getf zh fl_Table_11 dX7_copyFrom_37 (ck_T ht2) rfl rfl ?_
        refine z_iloadn zh dX7_copyFrom_40 rfl ?_
        refine z_galdN zh (ck_Tc ht2) dX7_copyFrom_41 (by omega) ?_
        refine z_iconst zh dX7_copyFrom_42 ki_0 ?_
        refine z_aloadnR zh dX7_copyFrom_43 rfl ?_
        refine z_getf zh fl_Table_11 dX7_copyFrom_44 (ck_T ht) rfl rfl ?_
        refine z_iloadn zh dX7_copyFrom_47 rfl ?_
        refine z_galdN zh (ck_Tc ht) dX7_copyFrom_48 (by omega) ?_
        refine z_iconst zh dX7_copyFrom_49 ki_0 ?_
        refine z_aloadnR zh dX7_copyFrom_50 rfl ?_
        refine z_getI (x := nI 0) zh fl_Table_20 dX7_copyFrom_51 (ck_T ht) rfl rfl hc1 ?_
        refine z_acopy zh ac_Table_33 dX7_copyFrom_54 (ck_Tr ht2 (by omega)) (ck_Tr ht (by omega)) (by omega) (by omega) ⟨Nat.le_of_ble_eq_true rfl, Nat.le_of_ble_eq_true rfl⟩ ?_
        have hc1 : cpI iv (t + 2 + k31) (t2 + 2 + k31) (0) t 2 = nI 0 := by rw [cpI_at, if_neg (by omega)]; exact hc1
        have hG := ok1_cp (k0 := t2 + 2 + k31) (k1 := t + 2 + k31) (cn := 0) hG (fun j x hj _ => absurd hj (Nat.not_lt_zero _))
        generalize cpI iv (t + 2 + k31) (t2 + 2 + k31) (0) = iv at hG hc1 ⊢
        refine z_iincN zh dX7_copyFrom_57 ki_1 (by decide) rfl (L' := [some (rf g t), some (rf g t2), some (.int (nI cc)), some (.int (nI (k31 + 1)))]) rfl ?_
        refine z_goto (tgt := 31) zh dX7_copyFrom_60 rfl ?_
        exact ih31 (k31 + 1) iv lv hG hc1 (by omega) (by omega)
  exact hl31 (cc + 1) 0 iv lv hG hc1 (by omega) (by omega)
set_option maxRecDepth 20000 in
theorem c_mcopy (g : GE) {m m2 : Nat} {iv : Iv} {lv : Lv} {dd : Nat → Nat} {dm : Nat} (hm : isM m) (hm2 : isM m2) (hG : Ok1 dd dm iv lv) : ConV g yX3_copyFrom cX3_copyFrom 4 none 3 [rf g m, rf g m2] iv lv (fun iv lv => Ok1 dd dm iv lv) := by
  refine con_intro (own := "RollingNets$Market") (by decide +kernel) rfl (Nat.le_of_ble_eq_true rfl) (L0 := [some (rf g m), some (rf g m2), none, none]) rfl (fun Z zh => ?_)
  refine z_aloadnR zh dX3_copyFrom_0 rfl ?_
  refine z_getI (x := nI 0) zh fl_Market_46 dX3_copyFrom_1 (ck_M hm) rfl rfl (a1_endDay hG hm) ?_
  refine z_aloadnR zh dX3_copyFrom_4 rfl ?_
  refine z_getI (x := nI 0) zh fl_Market_46 dX3_copyFrom_5 (ck_M hm2) rfl rfl (a1_endDay hG hm2) ?_
  refine z_mmaxE (r := nI 0) zh ma_Market_49 mc_max dX3_copyFrom_8 ⟨Nat.le_of_ble_eq_true rfl, Nat.le_of_ble_eq_true rfl⟩ (by decide) ?_
  refine z_istoren zh dX3_copyFrom_11 (by decide) (L' := [some (rf g m), some (rf g m2), some (.int (nI 0)), none]) rfl ?_
  refine z_iconst zh dX3_copyFrom_12 ki_0 ?_
  refine z_istoren zh dX3_copyFrom_13 (by decide) (L' := [some (rf g m), some (rf g m2), some (.int (nI 0)), some (.int (nI 0))]) rfl ?_
  have hl14 : ∀ (n k14 : Nat) (iv : Iv) (lv : Lv), Ok1 dd dm iv lv → k14 ≤ 12 → 12 - k14 < n → Z 14 [some (rf g m), some (rf g m2), some (.int (nI 0)), some (.int (nI k14))] [] iv lv := by
    intro n
    induction n with
    | zero => intro k14 iv lv _ _ hn; exact absurd hn (Nat.not_lt_zero _)
    | succ n ih14 =>
      intro k14 iv lv hG hk14 hn14
      refine z_iloadn zh dX3_copyFrom_14 rfl ?_
      refine z_bipush zh dX3_copyFrom_15 kb_12 ?_
      refine z_icmp_ge_N (tgt := 116) zh (by omega) (by decide) dX3_copyFrom_17 rfl (fun hb1 => ?_) (fun hb1 => ?_)
      · refine z_aloadnR zh dX3_copyFrom_116 rfl ?_
        refine z_aloadnR zh dX3_copyFrom_117 rfl ?_
        refine z_getI (x := nI 100) zh fl_Market_36 dX3_copyFrom_118 (ck_M hm2) rfl rfl (a1_price hG hm2) ?_
        refine z_putI zh fl_Market_36 dX3_copyFrom_121 (ck_M hm) rfl rfl (Nat.le_of_ble_eq_true rfl) (Or.inl rfl) ?_
        have hG := ok1_wI (k := m) (j := 7) (x := nI 100) hG (w1_M hm 0 (by omega) (Or.inr rfl))
        generalize upI iv (m) (7) (nI 100) = iv at hG ⊢
        refine z_aloadnR zh dX3_copyFrom_124 rfl ?_
        refine z_aloadnR zh dX3_copyFrom_125 rfl ?_
        refine z_getI (x := nI 100) zh fl_Market_40 dX3_copyFrom_126 (ck_M hm2) rfl rfl (a1_marked hG hm2) ?_
        refine z_putI zh fl_Market_40 dX3_copyFrom_129 (ck_M hm) rfl rfl (Nat.le_of_ble_eq_true rfl) (Or.inl rfl) ?_
        have hG := ok1_wI (k := m) (j := 8) (x := nI 100) hG (w1_M hm 0 (by omega) (Or.inr rfl))
        generalize upI iv (m) (8) (nI 100) = iv at hG ⊢
        refine z_aloadnR zh dX3_copyFrom_132 rfl ?_
        refine z_aloadnR zh dX3_copyFrom_133 rfl ?_
        refine z_getI (x := nI 0) zh fl_Market_43 dX3_copyFrom_134 (ck_M hm2) rfl rfl (a1_payout hG hm2) ?_
        refine z_putI zh fl_Market_43 dX3_copyFrom_137 (ck_M hm) rfl rfl (Nat.le_of_ble_eq_true rfl) (Or.inl rfl) ?_
        have hG := ok1_wI (k := m) (j := 9) (x := nI 0) hG (w1_M hm 0 (by omega) (Or.inr rfl))
        generalize upI iv (m) (9) (nI 0) = iv at hG ⊢
        refine z_aloadnR zh dX3_copyFrom_140 rfl ?_
        refine z_aloadnR zh dX3_copyFrom_141 rfl ?_
        refine z_getI (x := nI 0) zh fl_Market_46 dX3_copyFrom_142 (ck_M hm2) rfl rfl (a1_endDay hG hm2) ?_
        refine z_putI zh fl_Market_46 dX3_copyFrom_145 (ck_M hm) rfl rfl (Nat.le_of_ble_eq_true rfl) (Or.inl rfl) ?_
        have hG := ok1_wI (k := m) (j := 10) (x := nI 0) hG (w1_M hm 0 (by omega) (Or.inr rfl))
        generalize upI iv (m) (10) (nI 0) = iv at hG ⊢
        exact z_vret zh dX3_copyFrom_148 (⟨rfl, hG⟩)
      · refine z_aloadnR zh dX3_copyFrom_20 rfl ?_
        refine z_getf zh fl_Market_9 dX3_copyFrom_21 (ck_M hm) rfl rfl ?_
        refine z_iloadn zh dX3_copyFrom_24 rfl ?_
        refine z_aloadnR zh dX3_copyFrom_25 rfl ?_
        refine z_getf zh fl_Market_9 dX3_copyFrom_26 (ck_M hm2) rfl rfl ?_
        refine z_iloadn zh dX3_copyFrom_29 rfl ?_
        refine z_laldE (x := (0 : Int64)) zh (ck_stock hm2) dX3_copyFrom_30 (by omega) (a1_stock hG hm2) ?_
        refine z_lastN zh (ck_stock hm) dX3_copyFrom_31 (by omega) ?_
        have hG := ok1_wL (k := m + 1) (j := k14) (x := (0 : Int64)) hG (w1_stock hm rfl)
        generalize upL lv (m + 1) (k14) ((0 : Int64)) = lv at hG ⊢
        refine z_aloadnR zh dX3_copyFrom_32 rfl ?_
        refine z_getf zh fl_Market_15 dX3_copyFrom_33 (ck_M hm) rfl rfl ?_
        refine z_iloadn zh dX3_copyFrom_36 rfl ?_
        refine z_aloadnR zh dX3_copyFrom_37 rfl ?_
        refine z_getf zh fl_Market_15 dX3_copyFrom_38 (ck_M hm2) rfl rfl ?_
        refine z_iloadn zh dX3_copyFrom_41 rfl ?_
        refine z_ialdE (x := nI 0) zh (ck_mi 2 (by decide) hm2) dX3_copyFrom_42 (by omega) (a1_mi hG hm2 2 (by decide)) ?_
        refine z_iastN zh (ck_mi 2 (by decide) hm) dX3_copyFrom_43 (by omega) ?_
        have hG := ok1_wI (k := m + 2) (j := k14) (x := nI 0) hG (w1_mi hm 2 (by decide) rfl)
        generalize upI iv (m + 2) (k14) (nI 0) = iv at hG ⊢
        refine z_aloadnR zh dX3_copyFrom_44 rfl ?_
        refine z_getf zh fl_Market_19 dX3_copyFrom_45 (ck_M hm) rfl rfl ?_
        refine z_iloadn zh dX3_copyFrom_48 rfl ?_
        refine z_aloadnR zh dX3_copyFrom_49 rfl ?_
        refine z_getf zh fl_Market_19 dX3_copyFrom_50 (ck_M hm2) rfl rfl ?_
        refine z_iloadn zh dX3_copyFrom_53 rfl ?_
        refine z_ialdE (x := nI 0) zh (ck_mi 3 (by decide) hm2) dX3_copyFrom_54 (by omega) (a1_mi hG hm2 3 (by decide)) ?_
        refine z_iastN zh (ck_mi 3 (by decide) hm) dX3_copyFrom_55 (by omega) ?_
        have hG := ok1_wI (k := m + 3) (j := k14) (x := nI 0) hG (w1_mi hm 3 (by decide) rfl)
        generalize upI iv (m + 3) (k14) (nI 0) = iv at hG ⊢
        refine z_aloadnR zh dX3_copyFrom_56 rfl ?_
        refine z_getf zh fl_Market_22 dX3_copyFrom_57 (ck_M hm) rfl rfl ?_
        refine z_iloadn zh dX3_copyFrom_60 rfl ?_
        refine z_aloadnR zh dX3_copyFrom_61 rfl ?_
        refine z_getf zh fl_Market_22 dX3_copyFrom_62 (ck_M hm2) rfl rfl ?_
        refine z_iloadn zh dX3_copyFrom_65 rfl ?_
        refine z_ialdE (x := nI 0) zh (ck_mi 4 (by decide) hm2) dX3_copyFrom_66 (by omega) (a1_mi hG hm2 4 (by decide)) ?_
        refine z_iastN zh (ck_mi 4 (by decide) hm) dX3_copyFrom_67 (by omega) ?_
        have hG := ok1_wI (k := m + 4) (j := k14) (x := nI 0) hG (w1_mi hm 4 (by decide) rfl)
        generalize upI iv (m + 4) (k14) (nI 0) = iv at hG ⊢
        refine z_aloadnR zh dX3_copyFrom_68 rfl ?_
        refine z_getf zh fl_Market_25 dX3_copyFrom_69 (ck_M hm) rfl rfl ?_
        refine z_iloadn zh dX3_copyFrom_72 rfl ?_
        refine z_aloadnR zh dX3_copyFrom_73 rfl ?_
        refine z_getf zh fl_Market_25 dX3_copyFrom_74 (ck_M hm2) rfl rfl ?_
        refine z_iloadn zh dX3_copyFrom_77 rfl ?_
        refine z_ialdE (x := nI 0) zh (ck_mi 5 (by decide) hm2) dX3_copyFrom_78 (by omega) (a1_mi hG hm2 5 (by decide)) ?_
        refine z_iastN zh (ck_mi 5 (by decide) hm) dX3_copyFrom_79 (by omega) ?_
        have hG := ok1_wI (k := m + 5) (j := k14) (x := nI 0) hG (w1_mi hm 5 (by decide) rfl)
        generalize upI iv (m + 5) (k14) (nI 0) = iv at hG ⊢
        refine z_aloadnR zh dX3_copyFrom_80 rfl ?_
        refine z_getf zh fl_Market_28 dX3_copyFrom_81 (ck_M hm) rfl rfl ?_
        refine z_iloadn zh dX3_copyFrom_84 rfl ?_
        refine z_aloadnR zh dX3_copyFrom_85 rfl ?_
        refine z_getf zh fl_Market_28 dX3_copyFrom_86 (ck_M hm2) rfl rfl ?_
        refine z_iloadn zh dX3_copyFrom_89 rfl ?_
        refine z_ialdE (x := nI 0) zh (ck_mi 6 (by decide) hm2) dX3_copyFrom_90 (by omega) (a1_mi hG hm2 6 (by decide)) ?_
        refine z_iastN zh (ck_mi 6 (by decide) hm) dX3_copyFrom_91 (by omega) ?_
        have hG := ok1_wI (k := m + 6) (j := k14) (x := nI 0) hG (w1_mi hm 6 (by decide) rfl)
        generalize upI iv (m + 6) (k14) (nI 0) = iv at hG ⊢
        refine z_aloadnR zh dX3_copyFrom_92 rfl ?_
        refine z_getf zh fl_Market_33 dX3_copyFrom_93 (ck_M hm2) rfl rfl ?_
        refine z_iloadn zh dX3_copyFrom_96 rfl ?_
        refine z_galdN zh (ck_lots hm2) dX3_copyFrom_97 (by omega) ?_
        refine z_iconst zh dX3_copyFrom_98 ki_0 ?_
        refine z_aloadnR zh dX3_copyFrom_99 rfl ?_
        refine z_getf zh fl_Market_33 dX3_copyFrom_100 (ck_M hm) rfl rfl ?_
        refine z_iloadn zh dX3_copyFrom_103 rfl ?_
        refine z_galdN zh (ck_lots hm) dX3_copyFrom_104 (by omega) ?_
        refine z_iconst zh dX3_copyFrom_105 ki_0 ?_
        refine z_iloadn zh dX3_copyFrom_106 rfl ?_
        refine z_acopy zh ac_Market_87 dX3_copyFrom_107 (ck_row hm2 (by omega)) (ck_row hm (by omega)) (by decide) (by decide) ⟨Nat.le_of_ble_eq_true rfl, Nat.le_of_ble_eq_true rfl⟩ ?_
        have hG := ok1_cp (k0 := m2 + 8 + k14) (k1 := m + 8 + k14) (cn := 0) hG (fun j x hj _ => absurd hj (Nat.not_lt_zero _))
        generalize cpI iv (m + 8 + k14) (m2 + 8 + k14) (0) = iv at hG ⊢
        refine z_iincN zh dX3_copyFrom_110 ki_1 (by decide) rfl (L' := [some (rf g m), some (rf g m2), some (.int (nI 0)), some (.int (nI (k14 + 1)))]) rfl ?_
        refine z_goto (tgt := 14) zh dX3_copyFrom_113 rfl ?_
        exact ih14 (k14 + 1) iv lv hG (by omega) (by omega)
  exact hl14 13 0 iv lv hG (by omega) (by omega)
set_option maxRecDepth 20000 in
theorem c_hcopy (g : GE) {h h2 : Nat} {iv : Iv} {lv : Lv} {dd : Nat → Nat} {dm : Nat} (hh : isH h) (hh2 : isH h2) (hd : dd h = dd h2) (hG : Ok1 dd dm iv lv) : ConV g yX1_copyFrom cX1_copyFrom 3 none 4 [rf g h, rf g h2] iv lv (fun iv lv => Ok1 dd dm iv lv) := by
  refine con_intro (own := "RollingNets$House") (by decide +kernel) rfl (Nat.le_of_ble_eq_true rfl) (L0 := [some (rf g h), some (rf g h2), none]) rfl (fun Z zh => ?_)
  refine z_aloadnR zh dX1_copyFrom_0 rfl ?_
  refine z_getf zh fl_House_13 dX1_copyFrom_1 (ck_H hh2) rfl rfl ?_
  refine z_iconst zh dX1_copyFrom_4 ki_0 ?_
  refine z_aloadnR zh dX1_copyFrom_5 rfl ?_
  refine z_getf zh fl_House_13 dX1_copyFrom_6 (ck_H hh) rfl rfl ?_
  refine z_iconst zh dX1_copyFrom_9 ki_0 ?_
  refine z_aloadnR zh dX1_copyFrom_10 rfl ?_
  refine z_getf zh fl_House_13 dX1_copyFrom_11 (ck_H hh) rfl rfl ?_
  refine z_alenI zh (ck_told hh) dX1_copyFrom_14 ?_
  refine z_acopy zh ac_House_83 dX1_copyFrom_15 (ck_told hh2) (ck_told hh) (by decide) (by decide) ⟨Nat.le_of_ble_eq_true rfl, Nat.le_of_ble_eq_true rfl⟩ ?_
  have hG := ok1_cp (k0 := h2 + 1) (k1 := h + 1) (cn := 7) hG (fun j x _ hx => (s1_H hh2 (by omega)).trans ((s1_H hh (by omega)).symm.trans hx))
  generalize cpI iv (h + 1) (h2 + 1) (7) = iv at hG ⊢
  refine z_iconst zh dX1_copyFrom_18 ki_0 ?_
  refine z_istoren zh dX1_copyFrom_19 (by decide) (L' := [some (rf g h), some (rf g h2), some (.int (nI 0))]) rfl ?_
  have hl20 : ∀ (n k20 : Nat) (iv : Iv) (lv : Lv), Ok1 dd dm iv lv → k20 ≤ 12 → 12 - k20 < n → Z 20 [some (rf g h), some (rf g h2), some (.int (nI k20))] [] iv lv := by
    intro n
    induction n with
    | zero => intro k20 iv lv _ _ hn; exact absurd hn (Nat.not_lt_zero _)
    | succ n ih20 =>
      intro k20 iv lv hG hk20 hn20
      refine z_iloadn zh dX1_copyFrom_20 rfl ?_
      refine z_bipush zh dX1_copyFrom_21 kb_12 ?_
      refine z_icmp_ge_N (tgt := 80) zh (by omega) (by decide) dX1_copyFrom_23 rfl (fun hb1 => ?_) (fun hb1 => ?_)
      · refine z_iconst zh dX1_copyFrom_80 ki_0 ?_
        refine z_istoren zh dX1_copyFrom_81 (by decide) (L' := [some (rf g h), some (rf g h2), some (.int (nI 0))]) rfl ?_
        have hl82 : ∀ (n k82 : Nat) (iv : Iv) (lv : Lv), Ok1 dd dm iv lv → k82 ≤ 6 → 6 - k82 < n → Z 82 [some (rf g h), some (rf g h2), some (.int (nI k82))] [] iv lv := by
          intro n
          induction n with
          | zero => intro k82 iv lv _ _ hn; exact absurd hn (Nat.not_lt_zero _)
          | succ n ih82 =>
            intro k82 iv lv hG hk82 hn82
            refine z_iloadn zh dX1_copyFrom_82 rfl ?_
            refine z_bipush zh dX1_copyFrom_83 kb_6 ?_
            refine z_icmp_ge_N (tgt := 109) zh (by omega) (by decide) dX1_copyFrom_85 rfl (fun hb2 => ?_) (fun hb2 => ?_)
            · refine z_aloadnR zh dX1_copyFrom_109 rfl ?_
              refine z_getf zh fl_House_43 dX1_copyFrom_110 (ck_H hh) rfl rfl ?_
              refine z_aloadnR zh dX1_copyFrom_113 rfl ?_
              refine z_getf zh fl_House_43 dX1_copyFrom_114 (ck_H hh2) rfl rfl ?_
              refine z_callVV zh mv_House_169 dX1_copyFrom_117 (ck_T (isT_d hh)) rfl (c_tcopy g (isT_d hh) (isT_d hh2) (a1_cd hG hh) (a1_cd hG hh2) (by decide) (by decide) (w1_H hh 7 (by omega) (Or.inr rfl)) hG) ⟨Nat.le_of_ble_eq_true rfl, Nat.le_of_ble_eq_true rfl⟩ rfl rfl (Nat.le_of_ble_eq_true rfl) ?_
              rintro iv lv hG
              refine z_aloadnR zh dX1_copyFrom_120 rfl ?_
              refine z_getf zh fl_House_47 dX1_copyFrom_121 (ck_H hh) rfl rfl ?_
              refine z_aloadnR zh dX1_copyFrom_124 rfl ?_
              refine z_getf zh fl_House_47 dX1_copyFrom_125 (ck_H hh2) rfl rfl ?_
              refine z_callVV zh mv_House_169 dX1_copyFrom_128 (ck_T (isT_n hh)) rfl (c_tcopy g (isT_n hh) (isT_n hh2) (a1_cn hG hh) (a1_cn hG hh2) (by decide) (by decide) (w1_H hh 17 (by omega) (Or.inr rfl)) hG) ⟨Nat.le_of_ble_eq_true rfl, Nat.le_of_ble_eq_true rfl⟩ rfl rfl (Nat.le_of_ble_eq_true rfl) ?_
              rintro iv lv hG
              refine z_aloadnR zh dX1_copyFrom_131 rfl ?_
              refine z_getf zh fl_House_50 dX1_copyFrom_132 (ck_H hh) rfl rfl ?_
              refine z_aloadnR zh dX1_copyFrom_135 rfl ?_
              refine z_getf zh fl_House_50 dX1_copyFrom_136 (ck_H hh2) rfl rfl ?_
              refine z_callVV zh mv_House_169 dX1_copyFrom_139 (ck_T (isT_b hh)) rfl (c_tcopy g (isT_b hh) (isT_b hh2) (a1_cb hG hh) (a1_cb hG hh2) (by decide) (by decide) (w1_H hh 38 (by omega) (Or.inr rfl)) hG) ⟨Nat.le_of_ble_eq_true rfl, Nat.le_of_ble_eq_true rfl⟩ rfl rfl (Nat.le_of_ble_eq_true rfl) ?_
              rintro iv lv hG
              refine z_aloadnR zh dX1_copyFrom_142 rfl ?_
              refine z_getf zh fl_House_53 dX1_copyFrom_143 (ck_H hh) rfl rfl ?_
              refine z_aloadnR zh dX1_copyFrom_146 rfl ?_
              refine z_getf zh fl_House_53 dX1_copyFrom_147 (ck_H hh2) rfl rfl ?_
              refine z_callVV zh mv_House_169 dX1_copyFrom_150 (ck_T (isT_p hh)) rfl (c_tcopy g (isT_p hh) (isT_p hh2) (a1_cp hG hh) (a1_cp hG hh2) (by decide) (by decide) (w1_H hh 46 (by omega) (Or.inr rfl)) hG) ⟨Nat.le_of_ble_eq_true rfl, Nat.le_of_ble_eq_true rfl⟩ rfl rfl (Nat.le_of_ble_eq_true rfl) ?_
              rintro iv lv hG
              refine z_aloadnR zh dX1_copyFrom_153 rfl ?_
              refine z_aloadnR zh dX1_copyFrom_154 rfl ?_
              refine z_getI (x := nI 0) zh fl_House_56 dX1_copyFrom_155 (ck_H hh2) rfl rfl (a1_planDone hG hh2) ?_
              refine z_putI zh fl_House_56 dX1_copyFrom_158 (ck_H hh) rfl rfl (Nat.le_of_ble_eq_true rfl) (Or.inl rfl) ?_
              have hG := ok1_wI (k := h) (j := 10) (x := nI 0) hG (w1_H hh 0 (by omega) (Or.inr rfl))
              generalize upI iv (h) (10) (nI 0) = iv at hG ⊢
              refine z_aloadnR zh dX1_copyFrom_161 rfl ?_
              refine z_aloadnR zh dX1_copyFrom_162 rfl ?_
              refine z_getI (x := nI (dd h2)) zh fl_House_60 dX1_copyFrom_163 (ck_H hh2) rfl rfl (a1_day hG hh2) ?_
              refine z_putI zh fl_House_60 dX1_copyFrom_166 (ck_H hh) rfl rfl (Nat.le_of_ble_eq_true rfl) (Or.inl rfl) ?_
              have hG := ok1_wI (k := h) (j := 11) (x := nI (dd h2)) hG (w1_H hh 0 (by omega) (Or.inr (by rw [← hd]; rfl)))
              generalize upI iv (h) (11) (nI (dd h2)) = iv at hG ⊢
              refine z_aloadnR zh dX1_copyFrom_169 rfl ?_
              refine z_aloadnR zh dX1_copyFrom_170 rfl ?_
              refine z_getL (x := (0 : Int64)) zh fl_House_63 dX1_copyFrom_171 (ck_H hh2) rfl rfl (a1_outside hG hh2) ?_
              refine z_putL zh fl_House_63 dX1_copyFrom_174 (ck_H hh) rfl rfl (Nat.le_of_ble_eq_true rfl) rfl ?_
              have hG := ok1_wL (k := h) (j := 12) (x := (0 : Int64)) hG (w1_HL hh 0 (by omega) (Or.inr rfl))
              generalize upL lv (h) (12) ((0 : Int64)) = lv at hG ⊢
              exact z_vret zh dX1_copyFrom_177 (⟨rfl, hG⟩)
            · refine z_aloadnR zh dX1_copyFrom_88 rfl ?_
              refine z_getf zh fl_House_34 dX1_copyFrom_89 (ck_H hh) rfl rfl ?_
              refine z_iloadn zh dX1_copyFrom_92 rfl ?_
              refine z_maldN zh (ck_markets hh) dX1_copyFrom_93 (by omega) ?_
              refine z_aloadnR zh dX1_copyFrom_94 rfl ?_
              refine z_getf zh fl_House_34 dX1_copyFrom_95 (ck_H hh2) rfl rfl ?_
              refine z_iloadn zh dX1_copyFrom_98 rfl ?_
              refine z_maldN zh (ck_markets hh2) dX1_copyFrom_99 (by omega) ?_
              refine z_callVV zh mv_House_165 dX1_copyFrom_100 (ck_M (isM_of hh (by omega))) rfl (c_mcopy g (isM_of hh (by omega)) (isM_of hh2 (by omega)) hG) ⟨Nat.le_of_ble_eq_true rfl, Nat.le_of_ble_eq_true rfl⟩ rfl rfl (Nat.le_of_ble_eq_true rfl) ?_
              rintro iv lv hG
              refine z_iincN zh dX1_copyFrom_103 ki_1 (by decide) rfl (L' := [some (rf g h), some (rf g h2), some (.int (nI (k82 + 1)))]) rfl ?_
              refine z_goto (tgt := 82) zh dX1_copyFrom_106 rfl ?_
              exact ih82 (k82 + 1) iv lv hG (by omega) (by omega)
        exact hl82 7 0 iv lv hG (by omega) (by omega)
      · refine z_aloadnR zh dX1_copyFrom_26 rfl ?_
        refine z_getf zh fl_House_18 dX1_copyFrom_27 (ck_H hh) rfl rfl ?_
        refine z_iloadn zh dX1_copyFrom_30 rfl ?_
        refine z_aloadnR zh dX1_copyFrom_31 rfl ?_
        refine z_getf zh fl_House_18 dX1_copyFrom_32 (ck_H hh2) rfl rfl ?_
        refine z_iloadn zh dX1_copyFrom_35 rfl ?_
        refine z_laldE (x := (0 : Int64)) zh (ck_cash hh2) dX1_copyFrom_36 (by omega) (a1_cash hG hh2) ?_
        refine z_lastN zh (ck_cash hh) dX1_copyFrom_37 (by omega) ?_
        have hG := ok1_wL (k := h + 2) (j := k20) (x := (0 : Int64)) hG (w1_HL hh 2 (by omega) (Or.inr rfl))
        generalize upL lv (h + 2) (k20) ((0 : Int64)) = lv at hG ⊢
        refine z_aloadnR zh dX1_copyFrom_38 rfl ?_
        refine z_getf zh fl_House_22 dX1_copyFrom_39 (ck_H hh) rfl rfl ?_
        refine z_iloadn zh dX1_copyFrom_42 rfl ?_
        refine z_aloadnR zh dX1_copyFrom_43 rfl ?_
        refine z_getf zh fl_House_22 dX1_copyFrom_44 (ck_H hh2) rfl rfl ?_
        refine z_iloadn zh dX1_copyFrom_47 rfl ?_
        refine z_ialdE (x := nI 0) zh (ck_rank hh2) dX1_copyFrom_48 (by omega) (a1_rank hG hh2) ?_
        refine z_iastN zh (ck_rank hh) dX1_copyFrom_49 (by omega) ?_
        have hG := ok1_wI (k := h + 3) (j := k20) (x := nI 0) hG (w1_H hh 3 (by omega) (Or.inr rfl))
        generalize upI iv (h + 3) (k20) (nI 0) = iv at hG ⊢
        refine z_aloadnR zh dX1_copyFrom_50 rfl ?_
        refine z_getf zh fl_House_25 dX1_copyFrom_51 (ck_H hh) rfl rfl ?_
        refine z_iloadn zh dX1_copyFrom_54 rfl ?_
        refine z_aloadnR zh dX1_copyFrom_55 rfl ?_
        refine z_getf zh fl_House_25 dX1_copyFrom_56 (ck_H hh2) rfl rfl ?_
        refine z_iloadn zh dX1_copyFrom_59 rfl ?_
        refine z_ialdE (x := nI 0) zh (ck_pledged hh2) dX1_copyFrom_60 (by omega) (a1_pledged hG hh2) ?_
        refine z_iastN zh (ck_pledged hh) dX1_copyFrom_61 (by omega) ?_
        have hG := ok1_wI (k := h + 4) (j := k20) (x := nI 0) hG (w1_H hh 4 (by omega) (Or.inr rfl))
        generalize upI iv (h + 4) (k20) (nI 0) = iv at hG ⊢
        refine z_aloadnR zh dX1_copyFrom_62 rfl ?_
        refine z_getf zh fl_House_28 dX1_copyFrom_63 (ck_H hh) rfl rfl ?_
        refine z_iloadn zh dX1_copyFrom_66 rfl ?_
        refine z_aloadnR zh dX1_copyFrom_67 rfl ?_
        refine z_getf zh fl_House_28 dX1_copyFrom_68 (ck_H hh2) rfl rfl ?_
        refine z_iloadn zh dX1_copyFrom_71 rfl ?_
        refine z_zaldE (x := nI 0) zh (ck_susp hh2) dX1_copyFrom_72 (by omega) (a1_susp hG hh2) ?_
        refine z_zastN zh (ck_susp hh) dX1_copyFrom_73 (by omega) ?_
        have hG := ok1_wI (k := h + 5) (j := k20) (x := vp_nar .boolean (nI 0)) hG (w1_H hh 5 (by omega) (Or.inr rfl))
        generalize upI iv (h + 5) (k20) (vp_nar .boolean (nI 0)) = iv at hG ⊢
        refine z_iincN zh dX1_copyFrom_74 ki_1 (by decide) rfl (L' := [some (rf g h), some (rf g h2), some (.int (nI (k20 + 1)))]) rfl ?_
        refine z_goto (tgt := 20) zh dX1_copyFrom_77 rfl ?_
        exact ih20 (k20 + 1) iv lv hG (by omega) (by omega)
  exact hl20 13 0 iv lv hG (by omega) (by omega)
