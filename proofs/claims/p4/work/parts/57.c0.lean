set_option maxRecDepth 20000 in
theorem s_X6_wordHere (g : GE) {sp : Nat → Nat → Bool} {σ : Iv} {iv : Iv} {lv : Lv}   (hG : SI sp σ iv)  : ConI g yX6_wordHere cX6_wordHere 2 (some .int) 4 [rf g 541] iv lv (fun r iv' lv' => iv = iv' ∧ lv = lv' ∧ Ra (-1) 9 r) := by
  refine con_intro (own := "RollingNets$Reader") (by decide +kernel) rfl (Nat.le_of_ble_eq_true rfl) (L0 := [some (rf g 541), none]) rfl (fun Z zh => ?_)
  refine z_iconst zh dX6_wordHere_0 ki_0 ?_
  refine z_istoren zh dX6_wordHere_1 (by decide) (L' := [some (rf g 541), some (.int (nI 0))]) rfl ?_
  have J2 : ∀ (n : Nat) (x1 : Int32), Ra 0 10 x1 → 10 - x1.toInt < (n : Int) → Z 2 [some (rf g 541), some (.int x1)] [] iv lv := by
    intro n
    induction n with
    | zero => intro x1 hx1 hn2; exact (ms_uz hx1 hn2).elim
    | succ n ih2 =>
      intro x1 hx1 hn2
      refine z_iloadn zh dX6_wordHere_2 rfl ?_
      refine z_bipush zh dX6_wordHere_3 kb_10 ?_
      refine z_icmp_ge (tgt := 27) zh dX6_wordHere_5 rfl (fun q2 => ?_) (fun q2 => ?_)
      · have r3 : Ra 10 10 x1 := rb_le_r rl_10 hx1 q2 (by decide)
        refine z_iconst zh dX6_wordHere_27 ki_m1 ?_
        exact z_iret zh dX6_wordHere_28 ⟨_, rfl, rfl, rfl, (ra_w rl_n1 (by decide) (by decide))⟩
      · have r4 : Ra 0 9 x1 := rb_lt_l rl_10 hx1 (rb_nle q2) (by decide)
        refine z_aloadnR zh dX6_wordHere_8 rfl ?_
        refine z_iloadn zh dX6_wordHere_9 rfl ?_
        refine z_callSI zh ms_Reader_61 dX6_wordHere_10 (s_X6_wordOf g r4 hG) ⟨Nat.le_of_ble_eq_true rfl, Nat.le_of_ble_eq_true rfl⟩ rfl rfl (Nat.le_of_ble_eq_true rfl) ?_
        rintro x5 _ _ ⟨rfl, rfl, _⟩
        refine z_callVI zh mv_Reader_95 dX6_wordHere_13 ck_R rfl (s_X6_isHere g  hG) ⟨Nat.le_of_ble_eq_true rfl, Nat.le_of_ble_eq_true rfl⟩ rfl rfl (Nat.le_of_ble_eq_true rfl) ?_
        rintro x6 _ _ ⟨rfl, rfl, hx6⟩
        refine z_if_eq (tgt := 21) zh dX6_wordHere_16 rfl (fun q7 => ?_) (fun q7 => ?_)
        · have r8 := rb_eq (u := 0) (v := 0) hx6 ra_z q7 (by decide) (by decide)
          refine y_iinc (L' := fun z => [some (rf g 541), some (.int z)]) zh dX6_wordHere_21 (by decide) rfl (by decide +kernel) r4 (u := 1) (v := 10) rfl rfl (by decide) (by decide) (fun _ => rfl) (fun x9 hc9 hx9 => ?_)
          refine z_goto (tgt := 2) zh dX6_wordHere_24 rfl ?_
          exact ih2 x9 (ra_w hx9 (by decide) (by decide)) (ms_up hc9 (by decide) hn2)
        · have r10 : Ra 1 1 x6 := rb_ne_lo hx6 ra_z q7 (by decide)
          refine z_iloadn zh dX6_wordHere_19 rfl ?_
          exact z_iret zh dX6_wordHere_20 ⟨_, rfl, rfl, rfl, (ra_w r4 (by decide) (by decide))⟩
  exact J2 11 (nI 0) (ra_w rl_0 (by decide) (by decide)) (ms_u0 rl_0 (by decide))
set_option maxRecDepth 20000 in
theorem s_X8_night (g : GE) {sp : Nat → Nat → Bool} {σ : Iv} {iv : Iv} {lv : Lv} {a1 : Int32}  (hG : SI sp σ iv)  : ConI g yX8_night cX8_night 2 (some .int) 7 [rf g 0, .int a1] iv lv (fun r iv lv => SI sp σ iv ∧ True) := by
  refine con_intro (own := "RollingNets") (by decide +kernel) rfl (Nat.le_of_ble_eq_true rfl) (L0 := [some (rf g 0), some (.int a1)]) rfl (fun Z zh => ?_)
  refine z_aloadnR zh dX8_night_0 rfl ?_
  refine z_getf zh fl_RollingNets_12 dX8_night_1 ck_X rfl rfl ?_
  refine z_iloadn zh dX8_night_4 rfl ?_
  refine z_callSI zh ms_RollingNets_123 dX8_night_5 (s_X4_pass g isH_1 hG) ⟨Nat.le_of_ble_eq_true rfl, Nat.le_of_ble_eq_true rfl⟩ rfl rfl (Nat.le_of_ble_eq_true rfl) ?_
  rintro x1 iv lv ⟨hG, _⟩
  exact z_iret zh dX8_night_8 ⟨_, rfl, hG, trivial⟩
set_option maxRecDepth 20000 in
theorem s_X8_run (g : GE) {sp : Nat → Nat → Bool} {σ : Iv} {iv : Iv} {lv : Lv} {a1 : Int32}  (hG : SI sp σ iv) (hq : Sq sp) : ConI g yX8_run cX8_run 6 (some .int) 7 [rf g 0, .int a1] iv lv (fun r iv lv => SI sp σ iv ∧ True) := by
  refine con_intro (own := "RollingNets") (by decide +kernel) rfl (Nat.le_of_ble_eq_true rfl) (L0 := [some (rf g 0), some (.int a1), none, none, none, none]) rfl (fun Z zh => ?_)
  refine z_iloadn zh dX8_run_0 rfl ?_
  refine z_iconst zh dX8_run_1 ki_1 ?_
  refine z_bipush zh dX8_run_2 kb_24 ?_
  refine z_callSI zh ms_RollingNets_43 dX8_run_4 (s_X8_within g) ⟨Nat.le_of_ble_eq_true rfl, Nat.le_of_ble_eq_true rfl⟩ rfl rfl (Nat.le_of_ble_eq_true rfl) ?_
  rintro x1 _ _ ⟨rfl, rfl, hx1, hz2⟩
  refine z_if_ne (tgt := 12) zh dX8_run_7 rfl (fun q3 => ?_) (fun q3 => ?_)
  · have r4 : Ra 1 1 x1 := rb_ne_lo hx1 ra_z q3 (by decide)
    have r5 : Ra 1 24 a1 := (rb_in rl_1 rl_24 (hz2 q3))
    refine z_iconst zh dX8_run_12 ki_0 ?_
    refine z_istoren zh dX8_run_13 (by decide) (L' := [some (rf g 0), some (.int a1), some (.int (nI 0)), none, none, none]) rfl ?_
    refine z_iconst zh dX8_run_14 ki_0 ?_
    refine z_istoren zh dX8_run_15 (by decide) (L' := [some (rf g 0), some (.int a1), some (.int (nI 0)), some (.int (nI 0)), none, none]) rfl ?_
    have J16 : ∀ (n : Nat) (iv : Iv) (lv : Lv) (x6 : Int32) (x7 : Int32), SI sp σ iv → Ra 0 24 x7 → 24 - x7.toInt < (n : Int) → Z 16 [some (rf g 0), some (.int a1), some (.int x6), some (.int x7), none, none] [] iv lv := by
      intro n
      induction n with
      | zero => intro iv lv x6 x7 hG hx7 hn16; exact (ms_uz hx7 hn16).elim
      | succ n ih16 =>
        intro iv lv x6 x7 hG hx7 hn16
        refine z_iloadn zh dX8_run_16 rfl ?_
        refine z_iloadn zh dX8_run_17 rfl ?_
        refine z_icmp_ge (tgt := 138) zh dX8_run_18 rfl (fun q8 => ?_) (fun q8 => ?_)
        · have r9 : Ra 1 24 x7 := rb_le_r r5 hx7 q8 (by decide)
          refine z_iloadn zh dX8_run_138 rfl ?_
          exact z_iret zh dX8_run_139 ⟨_, rfl, hG, trivial⟩
        · have r10 : Ra 0 23 x7 := rb_lt_l r5 hx7 (rb_nle q8) (by decide)
          refine z_aloadnR zh dX8_run_21 rfl ?_
          refine z_getf zh fl_RollingNets_12 dX8_run_22 ck_X rfl rfl ?_
          refine y_getI zh fl_RollingNets_162 dX8_run_25 (ck_H isH_1) rfl rfl (fun x11 ex11 => ?_)
          refine z_aloadnR zh dX8_run_28 rfl ?_
          refine z_getf zh fl_RollingNets_12 dX8_run_29 ck_X rfl rfl ?_
          refine z_getf zh fl_RollingNets_152 dX8_run_32 (ck_H isH_1) rfl rfl ?_
          obtain ⟨x12, ex12⟩ : ∃ z, iv (1 + 46) 2 = z := ⟨_, rfl⟩
          have hx12 : Ra 0 24 x12 := ra_of ex12 (si_T hG (isT_p isH_1))
          refine z_callVIp zh mv_RollingNets_51 dX8_run_35 (ck_T (isT_p isH_1)) rfl (s_X7_size g (isT_p isH_1) ex12) ⟨Nat.le_of_ble_eq_true rfl, Nat.le_of_ble_eq_true rfl⟩ rfl rfl (Nat.le_of_ble_eq_true rfl) ?_
          refine z_icmp_ge (tgt := 138) zh dX8_run_38 rfl (fun q13 => ?_) (fun q13 => ?_)
          · have r14 : Ra 0 2147483647 x11 := rb_le_r hx12 (ra_tt x11) q13 (by decide)
            refine z_iloadn zh dX8_run_138 rfl ?_
            exact z_iret zh dX8_run_139 ⟨_, rfl, hG, trivial⟩
          · have r15 : Ra (-2147483648) 23 x11 := rb_lt_l hx12 (ra_tt x11) (rb_nle q13) (by decide)
            refine z_aloadnR zh dX8_run_41 rfl ?_
            refine z_getf zh fl_RollingNets_12 dX8_run_42 ck_X rfl rfl ?_
            refine z_getI (x := x11) zh fl_RollingNets_162 dX8_run_45 (ck_H isH_1) rfl rfl ex11 ?_
            refine z_istore zh dX8_run_48 (by decide) (L' := [some (rf g 0), some (.int a1), some (.int x6), some (.int x7), some (.int x11), none]) rfl ?_
            refine z_aloadnR zh dX8_run_50 rfl ?_
            refine z_getf zh fl_RollingNets_12 dX8_run_51 ck_X rfl rfl ?_
            refine z_dup zh dX8_run_54 rfl ?_
            refine z_getI (x := x11) zh fl_RollingNets_162 dX8_run_55 (ck_H isH_1) rfl rfl ex11 ?_
            refine z_iconst zh dX8_run_58 ki_1 ?_
            refine y_iadd zh dX8_run_59 r15 rl_1 (u := (-2147483647)) (v := 24) rfl rfl (by decide) (by decide) (fun x16 hc16 hx16 => ?_)
            refine z_putI zh fl_RollingNets_162 dX8_run_60 (ck_H isH_1) rfl rfl (Nat.le_of_ble_eq_true rfl) (Or.inl rfl) ?_
            have hG : SI sp σ (upI iv 1 10 x16) := si_wH hG isH_1 0 (by decide) hsp (rx_none rfl)
            have em17 := (upI_ne (iv := iv) (k := 1) (j := 10) (x := x16) (Or.inl (by omega))).trans ex12
            have em18 : upI iv 1 10 x16 1 10 = x16 := by rw [upI_at, if_pos ⟨rfl, rfl⟩]
            generalize upI iv 1 10 x16 = iv at hG em17 em18 ⊢
            refine z_aloadnR zh dX8_run_63 rfl ?_
            refine z_getf zh fl_RollingNets_12 dX8_run_64 ck_X rfl rfl ?_
            refine z_getf zh fl_RollingNets_152 dX8_run_67 (ck_H isH_1) rfl rfl ?_
            refine z_iconst zh dX8_run_70 ki_0 ?_
            refine z_iload zh dX8_run_71 rfl ?_
            refine z_callVI zh mv_RollingNets_171 dX8_run_73 (ck_T (isT_p isH_1)) rfl (s_X7_get g (isT_p isH_1) em17 hx12) ⟨Nat.le_of_ble_eq_true rfl, Nat.le_of_ble_eq_true rfl⟩ rfl rfl (Nat.le_of_ble_eq_true rfl) ?_
            rintro x19 _ _ ⟨rfl, rfl, gx19⟩
            refine z_bipush zh dX8_run_76 kb_9 ?_
            have J86 : ∀ (iv : Iv) (lv : Lv) (x20 : Int32), SI sp σ iv → Ra 0 1 x20 → iv (1 + 46) 2 = x12 → iv 1 10 = x16 → Z 86 [some (rf g 0), some (.int a1), some (.int x6), some (.int x7), some (.int x11), none] [.int x20] iv lv := by
              intro iv lv x20 hG hx20 em21 em22
              refine z_istore zh dX8_run_86 (by decide) (L' := [some (rf g 0), some (.int a1), some (.int x6), some (.int x7), some (.int x11), some (.int x20)]) rfl ?_
              refine z_iload zh dX8_run_88 rfl ?_
              have J132 : ∀ (iv : Iv) (lv : Lv) (x23 : Int32), SI sp σ iv → Z 132 [some (rf g 0), some (.int a1), some (.int x23), some (.int x7), some (.int x11), some (.int x20)] [] iv lv := by
                intro iv lv x23 hG
                refine y_iinc (L' := fun z => [some (rf g 0), some (.int a1), some (.int x23), some (.int z), some (.int x11), some (.int x20)]) zh dX8_run_132 (by decide) rfl (by decide +kernel) r10 (u := 1) (v := 24) rfl rfl (by decide) (by decide) (fun _ => rfl) (fun x24 hc24 hx24 => ?_)
                refine z_goto (tgt := 16) zh dX8_run_135 rfl ?_
                refine z_forget zh [true, true, true, true, false, false] (L2 := [some (rf g 0), some (.int a1), some (.int x23), some (.int x24), none, none]) rfl ?_
                exact ih16 iv lv x23 x24 hG (ra_w hx24 (by decide) (by decide)) (ms_up hc24 (by decide) hn16)
              have J129 : ∀ (iv : Iv) (lv : Lv), SI sp σ iv → Z 129 [some (rf g 0), some (.int a1), some (.int x6), some (.int x7), some (.int x11), some (.int x20)] [] iv lv := by
                intro iv lv hG
                refine y_iincT (L' := fun z => [some (rf g 0), some (.int a1), some (.int z), some (.int x7), some (.int x11), some (.int x20)]) zh dX8_run_129 (by decide) rfl (fun _ => rfl) (fun x25 => ?_)
                exact J132 iv lv x25 hG
              refine z_if_eq (tgt := 120) zh dX8_run_90 rfl (fun q26 => ?_) (fun q26 => ?_)
              · have r27 := rb_eq (u := 0) (v := 0) hx20 ra_z q26 (by decide) (by decide)
                refine z_aloadnR zh dX8_run_120 rfl ?_
                refine z_iload zh dX8_run_121 rfl ?_
                refine z_callVI zh mv_RollingNets_175 dX8_run_123 ck_X rfl (s_X8_perform g r15 hG hq) ⟨Nat.le_of_ble_eq_true rfl, Nat.le_of_ble_eq_true rfl⟩ rfl rfl (Nat.le_of_ble_eq_true rfl) ?_
                rintro x28 iv lv ⟨hG, hx28⟩
                refine z_if_eq (tgt := 132) zh dX8_run_126 rfl (fun q29 => ?_) (fun q29 => ?_)
                · have r30 := rb_eq (u := 0) (v := 0) hx28 ra_z q29 (by decide) (by decide)
                  exact J132 iv lv x6 hG
                · have r31 : Ra 1 1 x28 := rb_ne_lo hx28 ra_z q29 (by decide)
                  exact J129 iv lv hG
              · have r32 : Ra 1 1 x20 := rb_ne_lo hx20 ra_z q26 (by decide)
                refine z_aloadnR zh dX8_run_93 rfl ?_
                refine z_getf zh fl_RollingNets_12 dX8_run_94 ck_X rfl rfl ?_
                refine z_aloadnR zh dX8_run_97 rfl ?_
                refine z_getf zh fl_RollingNets_12 dX8_run_98 ck_X rfl rfl ?_
                refine z_getf zh fl_RollingNets_152 dX8_run_101 (ck_H isH_1) rfl rfl ?_
                refine z_iconst zh dX8_run_104 ki_1 ?_
                refine z_iload zh dX8_run_105 rfl ?_
                refine z_callVI zh mv_RollingNets_171 dX8_run_107 (ck_T (isT_p isH_1)) rfl (s_X7_get g (isT_p isH_1) em21 hx12) ⟨Nat.le_of_ble_eq_true rfl, Nat.le_of_ble_eq_true rfl⟩ rfl rfl (Nat.le_of_ble_eq_true rfl) ?_
                rintro x33 _ _ ⟨rfl, rfl, gx33⟩
                refine z_callSI zh ms_RollingNets_123 dX8_run_110 (s_X4_pass g isH_1 hG) ⟨Nat.le_of_ble_eq_true rfl, Nat.le_of_ble_eq_true rfl⟩ rfl rfl (Nat.le_of_ble_eq_true rfl) ?_
                rintro x34 iv lv ⟨hG, _⟩
                refine z_iconst zh dX8_run_113 ki_m1 ?_
                refine z_icmp_eq (tgt := 132) zh dX8_run_114 rfl (fun q35 => ?_) (fun q35 => ?_)
                · have r36 := rb_eq (u := (-1)) (v := (-1)) (ra_tt x34) rl_n1 q35 (by decide) (by decide)
                  exact J132 iv lv x6 hG
                · refine z_goto (tgt := 129) zh dX8_run_117 rfl ?_
                  exact J129 iv lv hG
            refine z_icmp_ne (tgt := 85) zh dX8_run_78 rfl (fun q37 => ?_) (fun q37 => ?_)
            · refine z_iconst zh dX8_run_85 ki_0 ?_
              exact J86 iv lv (nI 0) hG (ra_w rl_0 (by decide) (by decide)) em17 em18
            · have r38 := rb_eq (u := 9) (v := 9) (ra_tt x19) rl_9 q37 (by decide) (by decide)
              refine z_iconst zh dX8_run_81 ki_1 ?_
              refine z_goto (tgt := 86) zh dX8_run_82 rfl ?_
              exact J86 iv lv (nI 1) hG (ra_w rl_1 (by decide) (by decide)) em17 em18
    exact J16 25 iv lv (nI 0) (nI 0) hG (ra_w rl_0 (by decide) (by decide)) (ms_u0 rl_0 (by decide))
  · have r39 := rb_eq (u := 0) (v := 0) hx1 ra_z q3 (by decide) (by decide)
    refine z_iconst zh dX8_run_10 ki_m1 ?_
    exact z_iret zh dX8_run_11 ⟨_, rfl, hG, trivial⟩
