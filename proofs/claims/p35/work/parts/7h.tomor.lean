/-! WHAT WOULD BE TOMORROW, with all told cells kept -/
def Sd (sp : Nat → Nat → Bool) : Prop := ∀ k j, sp k j = true → spc k j = true → spd k j = true
theorem sk_Sd {sp : Nat → Nat → Bool} (hq : Sk sp) : Sd sp := fun _ _ h hc => sk_d hq h hc
theorem si_backe {sp : Nat → Nat → Bool} {σ iv i0 : Iv} (hq : Sd sp) (hG : SI sp σ i0) (h : SI spd i0 iv) : SI sp σ iv := ⟨hG.1, fun k j q => (h.2.1 k j (hq k j q (hG.1 k j q))).trans (hG.2.1 k j q), h.2.2⟩
theorem sd_W {sp : Nat → Nat → Bool} (hq : Sd sp) : Sd (spW sp) := fun k j h hc => by
  unfold spW at h
  rcases Bool.or_eq_true_iff.mp h with h | h
  · exact hq k j h hc
  · have e := eq_of_beq h
    subst e
    unfold spd
    rw [hc]
    rfl
set_option maxRecDepth 20000 in
theorem e_X9_goesNight2 (g : GE) {sp : Nat → Nat → Bool} {σ : Iv} {iv : Iv} {lv : Lv}   (hG : SI sp σ iv) (hq : Sd sp) (hY : sp 552 6 = false) (hN : Ra 0 98 (iv 552 6)) : ConV g yX9_goesNight cX9_goesNight 3 none 10 [rf g 551] iv lv (fun iv' lv' => SI sp σ iv' ∧ (iv' 552 6).toInt = (iv 552 6).toInt + 1) := by
  refine con_intro (own := "RollingNetsModel") (by decide +kernel) rfl (Nat.le_of_ble_eq_true rfl) (L0 := [some (rf g 551), none, none]) rfl (fun Z zh => ?_)
  obtain ⟨y1, ey1⟩ : ∃ z, iv 552 6 = z := ⟨_, rfl⟩
  have hy1 : Ra 0 98 y1 := ra_of ey1 hN
  have hj9 : (iv 552 6).toInt = y1.toInt := by rw [ey1]
  obtain ⟨iw1, eiw1⟩ : ∃ z, z = iv := ⟨_, rfl⟩
  have hS : SI sp σ iw1 := by rw [eiw1]; exact hG
  have hG : SI spd iw1 iv := by rw [eiw1]; exact si_fulld hG
  have es2 := (si_s hG (spd_N (spc_N.trans rfl))).symm.trans ey1
  refine z_iconst zh dX9_goesNight_0 ki_0 ?_
  refine z_istoren zh dX9_goesNight_1 (by decide) (L' := [some (rf g 551), some (.int (nI 0)), none]) rfl ?_
  have J2 : ∀ (n : Nat) (iv : Iv) (lv : Lv) (x3 : Int32), SI spd iw1 iv → Ra 0 6 x3 → 6 - x3.toInt < (n : Int) → Z 2 [some (rf g 551), some (.int x3), none] [] iv lv := by
    intro n
    induction n with
    | zero => intro iv lv x3 hG hx3 hn2; exact (ms_uz hx3 hn2).elim
    | succ n ih2 =>
      intro iv lv x3 hG hx3 hn2
      refine z_iloadn zh dX9_goesNight_2 rfl ?_
      refine z_bipush zh dX9_goesNight_3 kb_6 ?_
      refine z_icmp_ge (tgt := 104) zh dX9_goesNight_5 rfl (fun q4 => ?_) (fun q4 => ?_)
      · have r5 : Ra 6 6 x3 := rb_le_r rl_6 hx3 q4 (by decide)
        refine z_aloadnR zh dX9_goesNight_104 rfl ?_
        refine z_getf zh fl_Y_7 dX9_goesNight_105 ck_Y rfl rfl ?_
        refine z_bipush zh dX9_goesNight_108 kb_6 ?_
        refine z_aloadnR zh dX9_goesNight_110 rfl ?_
        refine z_getf zh fl_Y_7 dX9_goesNight_111 ck_Y rfl rfl ?_
        refine z_bipush zh dX9_goesNight_114 kb_6 ?_
        refine z_ialdE (x := y1) zh ck_now dX9_goesNight_116 (by decide) ((si_s hG (spd_N (spc_N.trans rfl))).trans es2) ?_
        refine z_iconst zh dX9_goesNight_117 ki_1 ?_
        refine y_iadd zh dX9_goesNight_118 hy1 rl_1 (u := 1) (v := 99) rfl rfl (by decide) (by decide) (fun x6 hc6 hx6 => ?_)
        refine z_iastN (j := 6) zh ck_now dX9_goesNight_119 (by decide) ?_
        have em7 : iv 552 6 = y1 := ((si_s hG (spd_N (spc_N.trans rfl))).trans es2)
        have hG := si_backe hq hS hG
        have hG : SI sp σ (upI iv 552 6 x6) := (nw_day hG hY em7 (by rw [hc6]; have := rl_1.1; omega) (ra_w hx6 (by decide) (by decide)))
        have em8 : upI iv 552 6 x6 552 6 = x6 := by rw [upI_at, if_pos ⟨rfl, rfl⟩]
        generalize upI iv 552 6 x6 = iv at hG em8 ⊢
        exact z_vret zh dX9_goesNight_120 ⟨rfl, hG, by rw [em8, hj9]; have := n1I; omega⟩
      · have r9 : Ra 0 5 x3 := rb_lt_l rl_6 hx3 (rb_nle q4) (by decide)
        refine z_aloadnR zh dX9_goesNight_8 rfl ?_
        refine z_iloadn zh dX9_goesNight_9 rfl ?_
        refine z_callVV zh mv_Y_282 dX9_goesNight_10 ck_Y rfl (s_X9_nets g r9 hG) ⟨Nat.le_of_ble_eq_true rfl, Nat.le_of_ble_eq_true rfl⟩ rfl rfl (Nat.le_of_ble_eq_true rfl) ?_
        rintro iv lv hG
        refine z_aloadnR zh dX9_goesNight_13 rfl ?_
        refine z_iloadn zh dX9_goesNight_14 rfl ?_
        refine z_callVV zh mv_Y_285 dX9_goesNight_15 ck_Y rfl (s_X9_delivers g r9 hG rfl (fun _ => rfl)) ⟨Nat.le_of_ble_eq_true rfl, Nat.le_of_ble_eq_true rfl⟩ rfl rfl (Nat.le_of_ble_eq_true rfl) ?_
        rintro iv lv hG
        refine z_aloadnR zh dX9_goesNight_18 rfl ?_
        refine z_iloadn zh dX9_goesNight_19 rfl ?_
        refine z_callVV zh mv_Y_288 dX9_goesNight_20 ck_Y rfl (s_X9_allots g r9 hG rfl) ⟨Nat.le_of_ble_eq_true rfl, Nat.le_of_ble_eq_true rfl⟩ rfl rfl (Nat.le_of_ble_eq_true rfl) ?_
        rintro iv lv hG
        refine z_aloadnR zh dX9_goesNight_23 rfl ?_
        refine z_iloadn zh dX9_goesNight_24 rfl ?_
        refine z_callVV zh mv_Y_291 dX9_goesNight_25 ck_Y rfl (s_X9_lends g r9 hG) ⟨Nat.le_of_ble_eq_true rfl, Nat.le_of_ble_eq_true rfl⟩ rfl rfl (Nat.le_of_ble_eq_true rfl) ?_
        rintro iv lv hG
        refine z_aloadnR zh dX9_goesNight_28 rfl ?_
        refine z_iloadn zh dX9_goesNight_29 rfl ?_
        refine z_callVV zh mv_Y_294 dX9_goesNight_30 ck_Y rfl (s_X9_doesApart g r9 hG) ⟨Nat.le_of_ble_eq_true rfl, Nat.le_of_ble_eq_true rfl⟩ rfl rfl (Nat.le_of_ble_eq_true rfl) ?_
        rintro iv lv hG
        refine z_iconst zh dX9_goesNight_33 ki_0 ?_
        refine z_istoren zh dX9_goesNight_34 (by decide) (L' := [some (rf g 551), some (.int x3), some (.int (nI 0))]) rfl ?_
        have J35 : ∀ (n : Nat) (iv : Iv) (lv : Lv) (x10 : Int32), SI spd iw1 iv → Ra 0 60 x10 → 60 - x10.toInt < (n : Int) → Z 35 [some (rf g 551), some (.int x3), some (.int x10)] [] iv lv := by
          intro n
          induction n with
          | zero => intro iv lv x10 hG hx10 hn35; exact (ms_uz hx10 hn35).elim
          | succ n ih35 =>
            intro iv lv x10 hG hx10 hn35
            refine z_iloadn zh dX9_goesNight_35 rfl ?_
            refine z_aloadnR zh dX9_goesNight_36 rfl ?_
            refine z_getf zh fl_Y_7 dX9_goesNight_37 ck_Y rfl rfl ?_
            refine z_bipush zh dX9_goesNight_40 kb_8 ?_
            refine y_ialdN zh ck_now dX9_goesNight_42 (by decide) (fun x11 ex11 => ?_)
            have hx11 : Ra 0 60 x11 := ra_of ex11 (nr_l hG 8 rfl)
            have es12 := (si_s hG (spd_N (spc_N.trans rfl))).symm.trans ex11
            refine z_icmp_ge (tgt := 93) zh dX9_goesNight_43 rfl (fun q13 => ?_) (fun q13 => ?_)
            · refine z_aloadnR zh dX9_goesNight_93 rfl ?_
              refine z_iloadn zh dX9_goesNight_94 rfl ?_
              refine z_callVV zh mv_Y_300 dX9_goesNight_95 ck_Y rfl (s_X9_marks g r9 hG) ⟨Nat.le_of_ble_eq_true rfl, Nat.le_of_ble_eq_true rfl⟩ rfl rfl (Nat.le_of_ble_eq_true rfl) ?_
              rintro iv lv hG
              refine y_iinc (L' := fun z => [some (rf g 551), some (.int z), some (.int x10)]) zh dX9_goesNight_98 (by decide) rfl (by decide +kernel) r9 (u := 1) (v := 6) rfl rfl (by decide) (by decide) (fun _ => rfl) (fun x14 hc14 hx14 => ?_)
              refine z_goto (tgt := 2) zh dX9_goesNight_101 rfl ?_
              refine z_forget zh [true, true, false] (L2 := [some (rf g 551), some (.int x14), none]) rfl ?_
              exact ih2 iv lv x14 hG (ra_w hx14 (by decide) (by decide)) (ms_up hc14 (by decide) hn2)
            · have r15 : Ra 0 59 x10 := rb_lt_l hx11 hx10 (rb_nle q13) (by decide)
              have r16 : Ra 1 60 x11 := rb_lt_r hx10 hx11 (rb_nle q13) (by decide)
              refine z_aloadnR zh dX9_goesNight_46 rfl ?_
              refine z_iloadn zh dX9_goesNight_47 rfl ?_
              refine z_iconst zh dX9_goesNight_48 ki_4 ?_
              refine z_callVI zh mv_Y_157 dX9_goesNight_49 ck_Y rfl (s_X9_noticeOf g r15 (ra_w rl_4 (by decide) (by decide)) hG) ⟨Nat.le_of_ble_eq_true rfl, Nat.le_of_ble_eq_true rfl⟩ rfl rfl (Nat.le_of_ble_eq_true rfl) ?_
              rintro x17 _ _ ⟨rfl, rfl, z18, ez18, ex17⟩
              refine z_iconst zh dX9_goesNight_52 ki_1 ?_
              have J87 : ∀ (iv : Iv) (lv : Lv), SI spd iw1 iv → Z 87 [some (rf g 551), some (.int x3), some (.int x10)] [] iv lv := by
                intro iv lv hG
                refine y_iinc (L' := fun z => [some (rf g 551), some (.int x3), some (.int z)]) zh dX9_goesNight_87 (by decide) rfl (by decide +kernel) r15 (u := 1) (v := 60) rfl rfl (by decide) (by decide) (fun _ => rfl) (fun x19 hc19 hx19 => ?_)
                refine z_goto (tgt := 35) zh dX9_goesNight_90 rfl ?_
                exact ih35 iv lv x19 hG (ra_w hx19 (by decide) (by decide)) (ms_up hc19 (by decide) hn35)
              refine z_icmp_ne (tgt := 87) zh dX9_goesNight_53 rfl (fun q20 => ?_) (fun q20 => ?_)
              · exact J87 iv lv hG
              · have r21 := rb_eq (u := 1) (v := 1) (ra_tt x17) rl_1 q20 (by decide) (by decide)
                refine z_aloadnR zh dX9_goesNight_56 rfl ?_
                refine z_iloadn zh dX9_goesNight_57 rfl ?_
                refine z_iconst zh dX9_goesNight_58 ki_1 ?_
                refine z_callVI zh mv_Y_157 dX9_goesNight_59 ck_Y rfl (s_X9_noticeOf g r15 (ra_w rl_1 (by decide) (by decide)) hG) ⟨Nat.le_of_ble_eq_true rfl, Nat.le_of_ble_eq_true rfl⟩ rfl rfl (Nat.le_of_ble_eq_true rfl) ?_
                rintro x22 _ _ ⟨rfl, rfl, z23, ez23, ex22⟩
                have hx22 : Ra 0 5 x22 := ra_of ex22 (nr_n1 hG x10.toInt (by have := r15.1; have := r15.2; have := rl_1.1; have := rl_1.2; omega) (by have := r15.1; have := r15.2; have := rl_1.1; have := rl_1.2; omega) (by have := r15.1; have := r15.2; have := rl_1.1; have := rl_1.2; omega))
                refine z_iloadn zh dX9_goesNight_62 rfl ?_
                refine z_icmp_ne (tgt := 87) zh dX9_goesNight_63 rfl (fun q24 => ?_) (fun q24 => ?_)
                · exact J87 iv lv hG
                · refine z_aloadnR zh dX9_goesNight_66 rfl ?_
                  refine z_iloadn zh dX9_goesNight_67 rfl ?_
                  refine z_iconst zh dX9_goesNight_68 ki_3 ?_
                  refine z_callVI zh mv_Y_157 dX9_goesNight_69 ck_Y rfl (s_X9_noticeOf g r15 (ra_w rl_3 (by decide) (by decide)) hG) ⟨Nat.le_of_ble_eq_true rfl, Nat.le_of_ble_eq_true rfl⟩ rfl rfl (Nat.le_of_ble_eq_true rfl) ?_
                  rintro x26 _ _ ⟨rfl, rfl, z27, ez27, ex26⟩
                  refine z_aloadnR zh dX9_goesNight_72 rfl ?_
                  refine z_getf zh fl_Y_7 dX9_goesNight_73 ck_Y rfl rfl ?_
                  refine z_bipush zh dX9_goesNight_76 kb_6 ?_
                  refine z_ialdE (x := y1) zh ck_now dX9_goesNight_78 (by decide) ((si_s hG (spd_N (spc_N.trans rfl))).trans es2) ?_
                  refine z_icmp_gt (tgt := 87) zh dX9_goesNight_79 rfl (fun q28 => ?_) (fun q28 => ?_)
                  · have r29 : Ra 1 2147483647 x26 := rb_lt_r hy1 (ra_tt x26) q28 (by decide)
                    exact J87 iv lv hG
                  · have r30 : Ra (-2147483648) 98 x26 := rb_le_l hy1 (ra_tt x26) (rb_nlt q28) (by decide)
                    refine z_aloadnR zh dX9_goesNight_82 rfl ?_
                    refine z_iloadn zh dX9_goesNight_83 rfl ?_
                    refine z_callVV zh mv_Y_297 dX9_goesNight_84 ck_Y rfl (s_X9_closes g r15 hG) ⟨Nat.le_of_ble_eq_true rfl, Nat.le_of_ble_eq_true rfl⟩ rfl rfl (Nat.le_of_ble_eq_true rfl) ?_
                    rintro iv lv hG
                    exact J87 iv lv hG
        exact J35 61 iv lv (nI 0) hG (ra_w rl_0 (by decide) (by decide)) (ms_u0 rl_0 (by decide))
  exact J2 7 iv lv (nI 0) hG (ra_w rl_0 (by decide) (by decide)) (ms_u0 rl_0 (by decide))
set_option maxHeartbeats 1000000 in
set_option maxRecDepth 20000 in
theorem e_X9_tomorrow (g : GE) {sp : Nat → Nat → Bool} {σ : Iv} {iv : Iv} {lv : Lv} {a1 a2 a3 : Int32} (hG : SI sp σ iv) (hq : Sd sp) (hs52 : ∀ j, sp 552 j = false) {n0 : Nat → Int32} (en0 : iv 552 = n0) (hT : ∀ j, sp 553 j = false) : ConI g yX9_tomorrow cX9_tomorrow 6 (some .int) 11 [rf g 551, .int a1, .int a2, .int a3] iv lv (fun r iv lv => SI sp σ iv ∧ ∀ j : Nat, j < 19782 → iv 552 j = n0 j) := by
  refine con_intro (own := "RollingNetsModel") (by decide +kernel) rfl (Nat.le_of_ble_eq_true rfl) (L0 := [some (rf g 551), some (.int a1), some (.int a2), some (.int a3), none, none]) rfl (fun Z zh => ?_)
  have J44 : ∀ (iv : Iv) (lv : Lv), SI sp σ iv → (∀ j : Nat, j < 19782 → iv 552 j = n0 j) → Z 44 [some (rf g 551), some (.int a1), some (.int a2), some (.int a3), none, none] [] iv lv := by
    intro iv lv hG hC
    refine z_ldcw zh dX9_tomorrow_44 kc_Y_330 ?_
    exact z_iret zh dX9_tomorrow_47 ⟨_, rfl, hG, hC⟩
  refine z_aloadnR zh dX9_tomorrow_0 rfl ?_
  refine z_iconst zh dX9_tomorrow_1 ki_0 ?_
  refine z_putI zh fl_Y_58 dX9_tomorrow_2 ck_Y rfl rfl (Nat.le_of_ble_eq_true rfl) (Or.inl rfl) ?_
  have hG : SI sp σ (upI iv 551 0 (nI 0)) := si_w (k := 551) (j := 0) hG (by decide) (by decide) (sp_no hG ((spc_Y (q := 0)).trans rfl)) (fun lo hi q => (rx_none rfl) lo hi ((rg_Y (q := 0)).symm.trans q))
  have em1 : upI iv 551 0 (nI 0) 551 0 = nI 0 := by rw [upI_at, if_pos ⟨rfl, rfl⟩]
  have en0 : upI iv 551 0 (nI 0) 552 = n0 := (upI_n (by decide)).trans en0
  generalize upI iv 551 0 (nI 0) = iv at hG em1 en0 ⊢
  refine z_aloadnR zh dX9_tomorrow_5 rfl ?_
  refine z_iloadn zh dX9_tomorrow_6 rfl ?_
  refine z_callVI zh mv_Y_90 dX9_tomorrow_7 ck_Y rfl (s_X9_isMember g  hG) ⟨Nat.le_of_ble_eq_true rfl, Nat.le_of_ble_eq_true rfl⟩ rfl rfl (Nat.le_of_ble_eq_true rfl) ?_
  rintro x2 _ _ ⟨rfl, rfl, hx2, hz3⟩
  refine z_if_eq (tgt := 44) zh dX9_tomorrow_10 rfl (fun _ => J44 iv lv hG (fun j _ => by rw [en0])) (fun q10 => ?_)
  have r4 : Ra 0 11 a1 := (hz3 q10)
  refine z_aloadnR zh dX9_tomorrow_13 rfl ?_
  refine z_iloadn zh dX9_tomorrow_14 rfl ?_
  refine z_callVI zh mv_Y_94 dX9_tomorrow_15 ck_Y rfl (s_X9_isIssue g  hG) ⟨Nat.le_of_ble_eq_true rfl, Nat.le_of_ble_eq_true rfl⟩ rfl rfl (Nat.le_of_ble_eq_true rfl) ?_
  rintro x5 _ _ ⟨rfl, rfl, hx5, hz6⟩
  refine z_if_eq (tgt := 44) zh dX9_tomorrow_18 rfl (fun _ => J44 iv lv hG (fun j _ => by rw [en0])) (fun q18 => ?_)
  have r7 : Ra 0 5 a2 := (hz6 q18)
  refine z_aloadnR zh dX9_tomorrow_21 rfl ?_
  refine z_iloadn zh dX9_tomorrow_22 rfl ?_
  refine z_iconst zh dX9_tomorrow_23 ki_0 ?_
  refine z_bipush zh dX9_tomorrow_24 kb_9 ?_
  refine z_callVI zh mv_Y_79 dX9_tomorrow_26 ck_Y rfl (s_X9_isIn g) ⟨Nat.le_of_ble_eq_true rfl, Nat.le_of_ble_eq_true rfl⟩ rfl rfl (Nat.le_of_ble_eq_true rfl) ?_
  rintro x8 _ _ ⟨rfl, rfl, hx8, hz9⟩
  refine z_if_eq (tgt := 44) zh dX9_tomorrow_29 rfl (fun _ => J44 iv lv hG (fun j _ => by rw [en0])) (fun q29 => ?_)
  have r10 : Ra 0 9 a3 := (rb_in rl_0 rl_9 (hz9 q29))
  refine z_aloadnR zh dX9_tomorrow_32 rfl ?_
  refine z_getf zh fl_Y_7 dX9_tomorrow_33 ck_Y rfl rfl ?_
  refine z_bipush zh dX9_tomorrow_36 kb_6 ?_
  refine y_ialdN zh ck_now dX9_tomorrow_38 (by decide) (fun x11 ex11 => ?_)
  have hx11 : Ra 0 99 x11 := ra_of ex11 (nr_l hG 6 rfl)
  refine z_bipush zh dX9_tomorrow_39 kb_99 ?_
  refine z_icmp_ne (tgt := 48) zh dX9_tomorrow_41 rfl (fun q41 => ?_) (fun _ => J44 iv lv hG (fun j _ => by rw [en0]))
  have hN : Ra 0 98 (iv 552 6) := by rw [ex11]; exact rb_ne_hi hx11 rl_99 q41 (by decide)
  have n0R : ∀ j lo hi, rN j = some (lo, hi) → Ra lo hi (n0 j) := fun j lo hi e => by rw [← en0]; exact nr_j hG e
  have n0L : Lots n0 := by rw [← en0]; exact hG.2.2.2.1
  have hN0 : Ra 0 98 (n0 6) := by rw [← en0]; exact hN
  have J206 : ∀ (iv : Iv) (lv : Lv) (r k : Int32), SI sp σ iv → (∀ j : Nat, j < 19782 → iv 552 j = n0 j) → Z 206 [some (rf g 551), some (.int a1), some (.int a2), some (.int a3), some (.int r), some (.int k)] [] iv lv := by
    intro iv lv r k hG hC
    refine z_iload zh dX9_tomorrow_206 rfl ?_
    exact z_iret zh dX9_tomorrow_208 ⟨_, rfl, hG, hC⟩
  have J179 : ∀ (q : Nat) (iv : Iv) (lv : Lv) (r : Int32) (k : Int32), SI sp σ iv → (∀ j : Nat, j < 19782 → iv 552 j = n0 j) → Ra 0 13 k → 13 - k.toInt < (q : Int) → Z 179 [some (rf g 551), some (.int a1), some (.int a2), some (.int a3), some (.int r), some (.int k)] [] iv lv := by
    intro q
    induction q with
    | zero => intro iv lv r k _ _ hk hn; exact (ms_uz hk hn).elim
    | succ q ih =>
      intro iv lv r k hG hC hk hn
      refine z_iload zh dX9_tomorrow_179 rfl ?_
      refine z_bipush zh dX9_tomorrow_181 kb_13 ?_
      refine z_icmp_ge (tgt := 206) zh dX9_tomorrow_183 rfl (fun _ => J206 iv lv r k hG hC) (fun q => ?_)
      have hk1 : Ra 0 12 k := rb_lt_l rl_13 hk (rb_nle q) (by decide)
      refine z_aloadnR zh dX9_tomorrow_186 rfl ?_
      refine z_getf zh fl_Y_16 dX9_tomorrow_187 ck_Y rfl rfl ?_
      refine z_iload zh dX9_tomorrow_190 rfl ?_
      refine z_aloadnR zh dX9_tomorrow_192 rfl ?_
      refine z_getf zh fl_Y_20 dX9_tomorrow_193 ck_Y rfl rfl ?_
      refine z_iload zh dX9_tomorrow_196 rfl ?_
      refine y_lald zh ck_coinsW dX9_tomorrow_198 hk1 (by decide) (by decide) (fun l12 => ?_)
      refine z_last zh ck_coins dX9_tomorrow_199 (ra_in hk1 (by decide) (by decide)) ?_
      generalize upL lv 554 k.toNatClampNeg l12 = lv
      refine y_iinc (L' := fun z => [some (rf g 551), some (.int a1), some (.int a2), some (.int a3), some (.int r), some (.int z)]) zh dX9_tomorrow_200 (by decide) rfl (by decide +kernel) hk1 (u := 1) (v := 13) rfl rfl (by decide) (by decide) (fun _ => rfl) (fun x13 hc13 hx13 => ?_)
      refine z_goto (tgt := 179) zh dX9_tomorrow_203 rfl ?_
      exact ih iv _ r x13 hG hC (ra_w hx13 (by decide) (by decide)) (ms_up hc13 (by decide) hn)
  have J148 : ∀ (q : Nat) (iv : Iv) (lv : Lv) (r k : Int32), SA 552 sp σ iv → (∀ j : Nat, j < 19782 → iv 553 j = n0 j) → (∀ j : Nat, (j : Int) < k.toInt → iv 552 j = n0 j) → Ra 0 19782 k → 19782 - k.toInt < (q : Int) → Z 148 [some (rf g 551), some (.int a1), some (.int a2), some (.int a3), some (.int r), some (.int k)] [] iv lv := by
    intro q
    induction q with
    | zero => intro iv lv r k _ _ _ hk hn; exact (ms_uz hk hn).elim
    | succ q ih =>
      intro iv lv r k hG hB hC hk hn
      refine z_iload zh dX9_tomorrow_148 rfl ?_
      refine z_sipush zh dX9_tomorrow_150 ks_19782 ?_
      refine z_icmp_ge (tgt := 176) zh dX9_tomorrow_153 rfl (fun q => ?_) (fun q => ?_)
      · have q0 := leI.mp q
        have o9 := rl_19782.1
        have hG1 : SI sp σ iv := ⟨hG.1, hG.2.1, hG.2.2.1, lots_cong n0L (fun j hj => hC j (by omega)), hG.2.2.2.2.resolve_left (by decide)⟩
        refine z_iconst zh dX9_tomorrow_176 ki_0 ?_
        refine z_istore zh dX9_tomorrow_177 (by decide) (L' := [some (rf g 551), some (.int a1), some (.int a2), some (.int a3), some (.int r), some (.int (nI 0))]) rfl ?_
        exact J179 14 iv lv r (nI 0) hG1 (fun j hj => hC j (by omega)) (ra_w rl_0 (by decide) (by decide)) (ms_u0 rl_0 (by decide))
      · have hk1 : Ra 0 19781 k := rb_lt_l rl_19782 hk (rb_nle q) (by decide)
        refine z_aloadnR zh dX9_tomorrow_156 rfl ?_
        refine z_getf zh fl_Y_7 dX9_tomorrow_157 ck_Y rfl rfl ?_
        refine z_iload zh dX9_tomorrow_160 rfl ?_
        refine z_aloadnR zh dX9_tomorrow_162 rfl ?_
        refine z_getf zh fl_Y_13 dX9_tomorrow_163 ck_Y rfl rfl ?_
        refine z_iload zh dX9_tomorrow_166 rfl ?_
        have ec := ra_clamp hk1 (by decide)
        have k1 := hk1.1; have k2 := hk1.2
        refine y_iald zh ck_waiting dX9_tomorrow_168 hk1 (by decide) (by decide) (fun v ev => ?_)
        have ev0 : v = n0 k.toNatClampNeg := ev.symm.trans (hB _ (by omega))
        refine z_iast zh ck_now dX9_tomorrow_169 (ra_in hk1 (by decide) (by decide)) ?_
        have hG1 : SA 552 sp σ (upI iv 552 k.toNatClampNeg v) := sa_w hG (Or.inl rfl) (fun q => by rw [hs52] at q; cases q) (fun lo hi e => by rw [ev0]; exact n0R _ _ _ (rg_N.symm.trans e))
        have hC1 : ∀ j : Nat, (j : Int) < k.toInt + 1 → upI iv 552 k.toNatClampNeg v 552 j = n0 j := fun j hj => by
          by_cases e : j = k.toNatClampNeg
          · subst e; rw [upI_at, if_pos ⟨rfl, rfl⟩]; exact ev0
          · rw [upI_ne (Or.inr e)]; exact hC j (by omega)
        have hB1 : ∀ j : Nat, j < 19782 → upI iv 552 k.toNatClampNeg v 553 j = n0 j := fun j hj => by rw [upI_ne (Or.inl (by decide))]; exact hB j hj
        revert hG1 hC1 hB1; generalize upI iv 552 k.toNatClampNeg v = iv; intro hG hC hB
        refine y_iinc (L' := fun z => [some (rf g 551), some (.int a1), some (.int a2), some (.int a3), some (.int r), some (.int z)]) zh dX9_tomorrow_170 (by decide) rfl (by decide +kernel) hk1 (u := 1) (v := 19782) rfl rfl (by decide) (by decide) (fun _ => rfl) (fun x14 hc14 hx14 => ?_)
        refine z_goto (tgt := 148) zh dX9_tomorrow_173 rfl ?_
        rw [← hc14] at hC
        exact ih iv lv r x14 hG hB hC (ra_w hx14 (by decide) (by decide)) (ms_up hc14 (by decide) hn)
  have J143 : ∀ (iv : Iv) (lv : Lv) (r k : Int32), SI sp σ iv → (∀ j : Nat, j < 19782 → iv 553 j = n0 j) → Z 143 [some (rf g 551), some (.int a1), some (.int a2), some (.int a3), some (.int k), none] [.int r] iv lv := by
    intro iv lv r k hG hB
    refine z_istore zh dX9_tomorrow_143 (by decide) (L' := [some (rf g 551), some (.int a1), some (.int a2), some (.int a3), some (.int r), none]) rfl ?_
    refine z_iconst zh dX9_tomorrow_145 ki_0 ?_
    refine z_istore zh dX9_tomorrow_146 (by decide) (L' := [some (rf g 551), some (.int a1), some (.int a2), some (.int a3), some (.int r), some (.int (nI 0))]) rfl ?_
    exact J148 19783 iv lv r (nI 0) ⟨hG.1, hG.2.1, hG.2.2.1, Or.inl rfl, Or.inr hG.2.2.2.2⟩ hB (fun j hj => by have := rl_0.2; omega) (ra_w rl_0 (by decide) (by decide)) (ms_u0 rl_0 (by decide))
  have J109 : ∀ (iv : Iv) (lv : Lv) (k : Int32), SI sp σ iv → (∀ j : Nat, j < 19782 → iv 552 j = n0 j) → (∀ j : Nat, j < 19782 → iv 553 j = n0 j) → Z 109 [some (rf g 551), some (.int a1), some (.int a2), some (.int a3), some (.int k), none] [] iv lv := by
    intro iv lv k hG hA hB
    refine z_aloadnR zh dX9_tomorrow_109 rfl ?_
    refine z_callVV zh mv_Y_303 dX9_tomorrow_110 ck_Y rfl (e_X9_goesNight2 g (si_W hG) (sd_W hq) (by unfold spW; rw [hs52]; rfl) (by rw [hA _ (by decide)]; exact hN0)) ⟨Nat.le_of_ble_eq_true rfl, Nat.le_of_ble_eq_true rfl⟩ rfl rfl (Nat.le_of_ble_eq_true rfl) ?_
    rintro iw lw ⟨hW, _⟩
    have hG1 : SI sp σ iw := si_Wb hG hW
    have hB1 : ∀ j : Nat, j < 19782 → iw 553 j = n0 j := fun j hj => (hW.2.1 553 j spW_5).trans (hB j hj)
    clear hW hG hA hB
    revert hG1 hB1; generalize iw = iv; generalize lw = lv; intro hG hB
    refine z_iloadn zh dX9_tomorrow_113 rfl ?_
    refine z_bipush zh dX9_tomorrow_114 kb_9 ?_
    refine z_icmp_ne (tgt := 136) zh dX9_tomorrow_116 rfl (fun _ => ?_) (fun _ => ?_)
    · refine z_aloadnR zh dX9_tomorrow_136 rfl ?_
      refine z_iloadn zh dX9_tomorrow_137 rfl ?_
      refine z_iloadn zh dX9_tomorrow_138 rfl ?_
      refine z_iloadn zh dX9_tomorrow_139 rfl ?_
      refine z_callVI zh mv_Y_327 dX9_tomorrow_140 ck_Y rfl (s_X9_atOf g r4 r7 hG) ⟨Nat.le_of_ble_eq_true rfl, Nat.le_of_ble_eq_true rfl⟩ rfl rfl (Nat.le_of_ble_eq_true rfl) ?_
      rintro x15 _ _ ⟨rfl, rfl, _⟩
      exact J143 iv lv x15 k hG hB
    · refine z_aloadnR zh dX9_tomorrow_119 rfl ?_
      refine z_getf zh fl_Y_16 dX9_tomorrow_120 ck_Y rfl rfl ?_
      refine z_iloadn zh dX9_tomorrow_123 rfl ?_
      refine y_lald zh ck_coins dX9_tomorrow_124 r4 (by decide) (by decide) (fun l16 => ?_)
      refine z_aloadnR zh dX9_tomorrow_125 rfl ?_
      refine z_getf zh fl_Y_20 dX9_tomorrow_126 ck_Y rfl rfl ?_
      refine z_iloadn zh dX9_tomorrow_129 rfl ?_
      refine y_lald zh ck_coinsW dX9_tomorrow_130 r4 (by decide) (by decide) (fun l17 => ?_)
      refine y_lsub zh dX9_tomorrow_131 (fun l18 => ?_)
      refine y_l2i zh dX9_tomorrow_132 (fun x19 => ?_)
      exact z_goto (tgt := 143) zh dX9_tomorrow_133 rfl (J143 iv lv x19 k hG hB)
  have J82 : ∀ (q : Nat) (iv : Iv) (lv : Lv) (k : Int32), SI sp σ iv → (∀ j : Nat, j < 19782 → iv 552 j = n0 j) → (∀ j : Nat, j < 19782 → iv 553 j = n0 j) → Ra 0 13 k → 13 - k.toInt < (q : Int) → Z 82 [some (rf g 551), some (.int a1), some (.int a2), some (.int a3), some (.int k), none] [] iv lv := by
    intro q
    induction q with
    | zero => intro iv lv k _ _ _ hk hn; exact (ms_uz hk hn).elim
    | succ q ih =>
      intro iv lv k hG hA hB hk hn
      refine z_iload zh dX9_tomorrow_82 rfl ?_
      refine z_bipush zh dX9_tomorrow_84 kb_13 ?_
      refine z_icmp_ge (tgt := 109) zh dX9_tomorrow_86 rfl (fun _ => J109 iv lv k hG hA hB) (fun q => ?_)
      have hk1 : Ra 0 12 k := rb_lt_l rl_13 hk (rb_nle q) (by decide)
      refine z_aloadnR zh dX9_tomorrow_89 rfl ?_
      refine z_getf zh fl_Y_20 dX9_tomorrow_90 ck_Y rfl rfl ?_
      refine z_iload zh dX9_tomorrow_93 rfl ?_
      refine z_aloadnR zh dX9_tomorrow_95 rfl ?_
      refine z_getf zh fl_Y_16 dX9_tomorrow_96 ck_Y rfl rfl ?_
      refine z_iload zh dX9_tomorrow_99 rfl ?_
      refine y_lald zh ck_coins dX9_tomorrow_101 hk1 (by decide) (by decide) (fun l20 => ?_)
      refine z_last zh ck_coinsW dX9_tomorrow_102 (ra_in hk1 (by decide) (by decide)) ?_
      generalize upL lv 555 k.toNatClampNeg l20 = lv
      refine y_iinc (L' := fun z => [some (rf g 551), some (.int a1), some (.int a2), some (.int a3), some (.int z), none]) zh dX9_tomorrow_103 (by decide) rfl (by decide +kernel) hk1 (u := 1) (v := 13) rfl rfl (by decide) (by decide) (fun _ => rfl) (fun x21 hc21 hx21 => ?_)
      refine z_goto (tgt := 82) zh dX9_tomorrow_106 rfl ?_
      exact ih iv _ x21 hG hA hB (ra_w hx21 (by decide) (by decide)) (ms_up hc21 (by decide) hn)
  have J51 : ∀ (q : Nat) (iv : Iv) (lv : Lv) (k : Int32), SI sp σ iv → (∀ j : Nat, j < 19782 → iv 552 j = n0 j) → (∀ j : Nat, (j : Int) < k.toInt → iv 553 j = n0 j) → Ra 0 19782 k → 19782 - k.toInt < (q : Int) → Z 51 [some (rf g 551), some (.int a1), some (.int a2), some (.int a3), some (.int k), none] [] iv lv := by
    intro q
    induction q with
    | zero => intro iv lv k _ _ _ hk hn; exact (ms_uz hk hn).elim
    | succ q ih =>
      intro iv lv k hG hA hC hk hn
      refine z_iload zh dX9_tomorrow_51 rfl ?_
      refine z_sipush zh dX9_tomorrow_53 ks_19782 ?_
      refine z_icmp_ge (tgt := 79) zh dX9_tomorrow_56 rfl (fun q => ?_) (fun q => ?_)
      · have q0 := leI.mp q
        have o9 := rl_19782.1
        refine z_iconst zh dX9_tomorrow_79 ki_0 ?_
        refine z_istore zh dX9_tomorrow_80 (by decide) (L' := [some (rf g 551), some (.int a1), some (.int a2), some (.int a3), some (.int (nI 0)), none]) rfl ?_
        exact J82 14 iv lv (nI 0) hG hA (fun j hj => hC j (by omega)) (ra_w rl_0 (by decide) (by decide)) (ms_u0 rl_0 (by decide))
      · have hk1 : Ra 0 19781 k := rb_lt_l rl_19782 hk (rb_nle q) (by decide)
        refine z_aloadnR zh dX9_tomorrow_59 rfl ?_
        refine z_getf zh fl_Y_13 dX9_tomorrow_60 ck_Y rfl rfl ?_
        refine z_iload zh dX9_tomorrow_63 rfl ?_
        refine z_aloadnR zh dX9_tomorrow_65 rfl ?_
        refine z_getf zh fl_Y_7 dX9_tomorrow_66 ck_Y rfl rfl ?_
        refine z_iload zh dX9_tomorrow_69 rfl ?_
        have ec := ra_clamp hk1 (by decide)
        have k1 := hk1.1; have k2 := hk1.2
        refine y_iald zh ck_now dX9_tomorrow_71 hk1 (by decide) (by decide) (fun v ev => ?_)
        have ev0 : v = n0 k.toNatClampNeg := ev.symm.trans (hA _ (by omega))
        refine z_iast zh ck_waiting dX9_tomorrow_72 (ra_in hk1 (by decide) (by decide)) ?_
        have hG1 : SI sp σ (upI iv 553 k.toNatClampNeg v) := si_w hG (by decide) (by decide) (hT _) (rx_none rfl)
        have hC1 : ∀ j : Nat, (j : Int) < k.toInt + 1 → upI iv 553 k.toNatClampNeg v 553 j = n0 j := fun j hj => by
          by_cases e : j = k.toNatClampNeg
          · subst e; rw [upI_at, if_pos ⟨rfl, rfl⟩]; exact ev0
          · rw [upI_ne (Or.inr e)]; exact hC j (by omega)
        have hA1 : ∀ j : Nat, j < 19782 → upI iv 553 k.toNatClampNeg v 552 j = n0 j := fun j hj => by rw [upI_ne (Or.inl (by decide))]; exact hA j hj
        revert hG1 hC1 hA1; generalize upI iv 553 k.toNatClampNeg v = iv; intro hG hC hA
        refine y_iinc (L' := fun z => [some (rf g 551), some (.int a1), some (.int a2), some (.int a3), some (.int z), none]) zh dX9_tomorrow_73 (by decide) rfl (by decide +kernel) hk1 (u := 1) (v := 19782) rfl rfl (by decide) (by decide) (fun _ => rfl) (fun x22 hc22 hx22 => ?_)
        refine z_goto (tgt := 51) zh dX9_tomorrow_76 rfl ?_
        rw [← hc22] at hC
        exact ih iv lv x22 hG hA hC (ra_w hx22 (by decide) (by decide)) (ms_up hc22 (by decide) hn)
  refine z_iconst zh dX9_tomorrow_48 ki_0 ?_
  refine z_istore zh dX9_tomorrow_49 (by decide) (L' := [some (rf g 551), some (.int a1), some (.int a2), some (.int a3), some (.int (nI 0)), none]) rfl ?_
  exact J51 19783 iv lv (nI 0) hG (fun j hj => by rw [en0]) (fun j hj => by have := rl_0.2; omega) (ra_w rl_0 (by decide) (by decide)) (ms_u0 rl_0 (by decide))
set_option maxRecDepth 20000 in
theorem k_X8_tomorrow (g : GE) {sp : Nat → Nat → Bool} {σ : Iv} {iv : Iv} {lv : Lv} {a1 : Int32} {a2 : Int32} {a3 : Int32}  (hG : SI sp σ iv) (hq : Sk sp) : ConI g yX8_tomorrow cX8_tomorrow 4 (some .int) 7 [rf g 0, .int a1, .int a2, .int a3] iv lv (fun r iv lv => SI sp σ iv ∧ True) := by
  refine con_intro (own := "RollingNets") (by decide +kernel) rfl (Nat.le_of_ble_eq_true rfl) (L0 := [some (rf g 0), some (.int a1), some (.int a2), some (.int a3)]) rfl (fun Z zh => ?_)
  refine z_aloadnR zh dX8_tomorrow_0 rfl ?_
  refine z_getf zh fl_RollingNets_12 dX8_tomorrow_1 ck_X rfl rfl ?_
  refine z_iloadn zh dX8_tomorrow_4 rfl ?_
  refine z_callVI zh mv_RollingNets_60 dX8_tomorrow_5 (ck_H isH_1) rfl (s_X1_hasMember g isH_1 hG) ⟨Nat.le_of_ble_eq_true rfl, Nat.le_of_ble_eq_true rfl⟩ rfl rfl (Nat.le_of_ble_eq_true rfl) ?_
  rintro x1 _ _ ⟨rfl, rfl, hx1, hz2⟩
  refine z_if_eq (tgt := 30) zh dX8_tomorrow_8 rfl (fun q3 => ?_) (fun q3 => ?_)
  · have r4 := rb_eq (u := 0) (v := 0) hx1 ra_z q3 (by decide) (by decide)
    refine z_ldc zh dX8_tomorrow_30 kc_RollingNets_194 ?_
    exact z_iret zh dX8_tomorrow_32 ⟨_, rfl, hG, trivial⟩
  · have r5 : Ra 1 1 x1 := rb_ne_lo hx1 ra_z q3 (by decide)
    have r6 : Ra 0 11 a1 := (hz2 q3)
    refine z_iloadn zh dX8_tomorrow_11 rfl ?_
    refine z_callSI zh ms_RollingNets_68 dX8_tomorrow_12 (s_X8_isIssue g  hG) ⟨Nat.le_of_ble_eq_true rfl, Nat.le_of_ble_eq_true rfl⟩ rfl rfl (Nat.le_of_ble_eq_true rfl) ?_
    rintro x7 _ _ ⟨rfl, rfl, hx7, hz8⟩
    refine z_if_eq (tgt := 30) zh dX8_tomorrow_15 rfl (fun q9 => ?_) (fun q9 => ?_)
    · have r10 := rb_eq (u := 0) (v := 0) hx7 ra_z q9 (by decide) (by decide)
      refine z_ldc zh dX8_tomorrow_30 kc_RollingNets_194 ?_
      exact z_iret zh dX8_tomorrow_32 ⟨_, rfl, hG, trivial⟩
    · have r11 : Ra 1 1 x7 := rb_ne_lo hx7 ra_z q9 (by decide)
      have r12 : Ra 0 5 a2 := (hz8 q9)
      refine z_aloadnR zh dX8_tomorrow_18 rfl ?_
      refine z_getf zh fl_RollingNets_12 dX8_tomorrow_19 ck_X rfl rfl ?_
      refine y_getI zh fl_RollingNets_261 dX8_tomorrow_22 (ck_H isH_1) rfl rfl (fun x13 ex13 => ?_)
      have hx13 : Ra 0 99 x13 := ra_of ex13 (si_H hG isH_1 0 (by decide) rfl)
      refine z_bipush zh dX8_tomorrow_25 kb_99 ?_
      refine z_icmp_lt (tgt := 33) zh dX8_tomorrow_27 rfl (fun q14 => ?_) (fun q14 => ?_)
      · have r15 : Ra 0 98 x13 := rb_lt_l rl_99 hx13 q14 (by decide)
        refine z_aloadnR zh dX8_tomorrow_33 rfl ?_
        refine z_getf zh fl_RollingNets_19 dX8_tomorrow_34 ck_X rfl rfl ?_
        refine z_aloadnR zh dX8_tomorrow_37 rfl ?_
        refine z_getf zh fl_RollingNets_12 dX8_tomorrow_38 ck_X rfl rfl ?_
        refine z_callVV zh mv_RollingNets_191 dX8_tomorrow_41 (ck_H isH_3) rfl (k_X1_copyFrom g isH_3 isH_1 hG (fun r j hr => sk_n3 hq hr)) ⟨Nat.le_of_ble_eq_true rfl, Nat.le_of_ble_eq_true rfl⟩ rfl rfl (Nat.le_of_ble_eq_true rfl) ?_
        rintro iv lv hG
        refine z_aloadnR zh dX8_tomorrow_44 rfl ?_
        refine z_getf zh fl_RollingNets_19 dX8_tomorrow_45 ck_X rfl rfl ?_
        refine z_iconst zh dX8_tomorrow_48 ki_1 ?_
        refine z_callSI zh ms_RollingNets_123 dX8_tomorrow_49 (e_X4_pass g isH_3 hG (sk_n3 (r := 0) hq (by decide)) rfl) ⟨Nat.le_of_ble_eq_true rfl, Nat.le_of_ble_eq_true rfl⟩ rfl rfl (Nat.le_of_ble_eq_true rfl) ?_
        rintro x16 iv lv ⟨hG, hx16, _⟩
        refine z_pop zh dX8_tomorrow_52 rfl ?_
        refine z_iloadn zh dX8_tomorrow_53 rfl ?_
        refine z_bipush zh dX8_tomorrow_54 kb_9 ?_
        refine z_icmp_ne (tgt := 80) zh dX8_tomorrow_56 rfl (fun q17 => ?_) (fun q17 => ?_)
        · refine z_aloadnR zh dX8_tomorrow_80 rfl ?_
          refine z_getf zh fl_RollingNets_19 dX8_tomorrow_81 ck_X rfl rfl ?_
          refine z_iloadn zh dX8_tomorrow_84 rfl ?_
          refine z_iloadn zh dX8_tomorrow_85 rfl ?_
          refine z_iloadn zh dX8_tomorrow_86 rfl ?_
          refine z_callVI zh mv_RollingNets_198 dX8_tomorrow_87 (ck_H isH_3) rfl (s_X1_holding g isH_3 r6 r12 hG) ⟨Nat.le_of_ble_eq_true rfl, Nat.le_of_ble_eq_true rfl⟩ rfl rfl (Nat.le_of_ble_eq_true rfl) ?_
          rintro x18 _ _ ⟨rfl, rfl, _⟩
          exact z_iret zh dX8_tomorrow_90 ⟨_, rfl, hG, trivial⟩
        · have r19 := rb_eq (u := 9) (v := 9) (ra_tt a3) rl_9 q17 (by decide) (by decide)
          refine z_aloadnR zh dX8_tomorrow_59 rfl ?_
          refine z_getf zh fl_RollingNets_19 dX8_tomorrow_60 ck_X rfl rfl ?_
          refine z_getf zh fl_RollingNets_209 dX8_tomorrow_63 (ck_H isH_3) rfl rfl ?_
          refine z_iloadn zh dX8_tomorrow_66 rfl ?_
          refine y_lald zh (ck_cash isH_3) dX8_tomorrow_67 r6 (by decide) (by decide) (fun l20 => ?_)
          refine z_aloadnR zh dX8_tomorrow_68 rfl ?_
          refine z_getf zh fl_RollingNets_12 dX8_tomorrow_69 ck_X rfl rfl ?_
          refine z_getf zh fl_RollingNets_209 dX8_tomorrow_72 (ck_H isH_1) rfl rfl ?_
          refine z_iloadn zh dX8_tomorrow_75 rfl ?_
          refine y_lald zh (ck_cash isH_1) dX8_tomorrow_76 r6 (by decide) (by decide) (fun l21 => ?_)
          refine y_lsub zh dX8_tomorrow_77 (fun l22 => ?_)
          refine y_l2i zh dX8_tomorrow_78 (fun x23 => ?_)
          exact z_iret zh dX8_tomorrow_79 ⟨_, rfl, hG, trivial⟩
      · have r24 : Ra 99 99 x13 := rb_le_r rl_99 hx13 (rb_nlt q14) (by decide)
        refine z_ldc zh dX8_tomorrow_30 kc_RollingNets_194 ?_
        exact z_iret zh dX8_tomorrow_32 ⟨_, rfl, hG, trivial⟩
