set_option maxRecDepth 20000 in
theorem s_X1_members (g : GE) {sp : Nat → Nat → Bool} {σ : Iv} {iv : Iv} {lv : Lv} {h : Nat} (hh : isH h) (hG : SI sp σ iv)  : ConI g yX1_members cX1_members 1 (some .int) 1 [rf g h] iv lv (fun r iv' lv' => iv = iv' ∧ lv = lv' ∧ Ra 2 12 r) := by
  refine con_intro (own := "RollingNets$House") (by decide +kernel) rfl (Nat.le_of_ble_eq_true rfl) (L0 := [some (rf g h)]) rfl (fun Z zh => ?_)
  refine z_aloadnR zh dX1_members_0 rfl ?_
  refine z_getf zh fl_House_13 dX1_members_1 (ck_H hh) rfl rfl ?_
  refine z_iconst zh dX1_members_4 ki_0 ?_
  refine y_ialdN zh (ck_told hh) dX1_members_5 (by decide) (fun x1 ex1 => ?_)
  have hx1 : Ra 2 12 x1 := ra_of ex1 (si_H hG hh 1 (by decide) rfl)
  exact z_iret zh dX1_members_6 ⟨_, rfl, rfl, rfl, hx1⟩
set_option maxRecDepth 20000 in
theorem s_X0_agedShort (g : GE) {sp : Nat → Nat → Bool} {σ : Iv} {iv : Iv} {lv : Lv} {h : Nat} {a1 : Int32} {a2 : Int32} (hh : isH h) (ha1 : Ra 0 5 a1) (ha2 : Ra 0 99 a2) (hG : SI sp σ iv)  : ConI g yX0_agedShort cX0_agedShort 8 (some .int) 2 [rf g h, .int a1, .int a2] iv lv (fun r iv' lv' => iv = iv' ∧ lv = lv' ∧ True) := by
  refine con_intro (own := "RollingNets$Figures") (by decide +kernel) rfl (Nat.le_of_ble_eq_true rfl) (L0 := [some (rf g h), some (.int a1), some (.int a2), none, none, none, none, none]) rfl (fun Z zh => ?_)
  refine z_aloadnR zh dX0_agedShort_0 rfl ?_
  refine z_getf zh fl_Figures_9 dX0_agedShort_1 (ck_H hh) rfl rfl ?_
  refine z_iloadn zh dX0_agedShort_4 rfl ?_
  refine y_mald zh (ck_markets hh) dX0_agedShort_5 ha1 (by decide) (by decide) (fun j1 hj1 _ _ => ?_)
  refine z_astoren zh dX0_agedShort_6 (by decide) (L' := [some (rf g h), some (.int a1), some (.int a2), some (rf g (h + 60 + 20 * j1)), none, none, none, none]) rfl ?_
  refine z_aloadnR zh dX0_agedShort_7 rfl ?_
  refine y_getI zh fl_Figures_83 dX0_agedShort_8 (ck_M (isM_of hh hj1)) rfl rfl (fun x2 ex2 => ?_)
  have hx2 : Ra 0 100 x2 := ra_of ex2 (si_M hG (isM_of hh hj1) 0 (by decide) rfl)
  refine z_aloadnR zh dX0_agedShort_11 rfl ?_
  refine y_getI zh fl_Figures_90 dX0_agedShort_12 (ck_H hh) rfl rfl (fun x3 ex3 => ?_)
  have hx3 : Ra 0 99 x3 := ra_of ex3 (si_H hG hh 0 (by decide) rfl)
  refine z_iloadn zh dX0_agedShort_15 rfl ?_
  refine y_isub zh dX0_agedShort_16 hx3 ha2 (u := (-99)) (v := 99) rfl rfl (by decide) (by decide) (fun x4 hc4 hx4 => ?_)
  refine z_iconst zh dX0_agedShort_17 ki_1 ?_
  refine y_iadd zh dX0_agedShort_18 hx4 rl_1 (u := (-98)) (v := 100) rfl rfl (by decide) (by decide) (fun x5 hc5 hx5 => ?_)
  refine y_mmin zh ma_Figures_93 mc_min dX0_agedShort_19 ⟨Nat.le_of_ble_eq_true rfl, Nat.le_of_ble_eq_true rfl⟩ hx2 hx5 (u := (-98)) (v := 100) (by decide) (by decide) (Or.inl (by decide)) (fun x6 hx6 => ?_)
  refine z_istore zh dX0_agedShort_22 (by decide) (L' := [some (rf g h), some (.int a1), some (.int a2), some (rf g (h + 60 + 20 * j1)), some (.int x6), none, none, none]) rfl ?_
  refine z_iconst zh dX0_agedShort_24 ki_0 ?_
  refine z_istore zh dX0_agedShort_25 (by decide) (L' := [some (rf g h), some (.int a1), some (.int a2), some (rf g (h + 60 + 20 * j1)), some (.int x6), some (.int (nI 0)), none, none]) rfl ?_
  refine z_iconst zh dX0_agedShort_27 ki_0 ?_
  refine z_istore zh dX0_agedShort_28 (by decide) (L' := [some (rf g h), some (.int a1), some (.int a2), some (rf g (h + 60 + 20 * j1)), some (.int x6), some (.int (nI 0)), some (.int (nI 0)), none]) rfl ?_
  have J30 : ∀ (n : Nat) (x7 : Int32) (x8 : Int32), Ra 0 100 x8 → 100 - x8.toInt < (n : Int) → Z 30 [some (rf g h), some (.int a1), some (.int a2), some (rf g (h + 60 + 20 * j1)), some (.int x6), some (.int x7), some (.int x8), none] [] iv lv := by
    intro n
    induction n with
    | zero => intro x7 x8 hx8 hn30; exact (ms_uz hx8 hn30).elim
    | succ n ih30 =>
      intro x7 x8 hx8 hn30
      refine z_iload zh dX0_agedShort_30 rfl ?_
      refine z_iload zh dX0_agedShort_32 rfl ?_
      refine z_icmp_ge (tgt := 81) zh dX0_agedShort_34 rfl (fun q9 => ?_) (fun q9 => ?_)
      · refine z_iload zh dX0_agedShort_81 rfl ?_
        exact z_iret zh dX0_agedShort_83 ⟨_, rfl, rfl, rfl, trivial⟩
      · have r10 : Ra 0 99 x8 := rb_lt_l hx6 hx8 (rb_nle q9) (by decide)
        have r11 : Ra 1 100 x6 := rb_lt_r hx8 hx6 (rb_nle q9) (by decide)
        refine z_iconst zh dX0_agedShort_37 ki_0 ?_
        refine z_istore zh dX0_agedShort_38 (by decide) (L' := [some (rf g h), some (.int a1), some (.int a2), some (rf g (h + 60 + 20 * j1)), some (.int x6), some (.int x7), some (.int x8), some (.int (nI 0))]) rfl ?_
        have J40 : ∀ (n : Nat) (x12 : Int32) (x13 : Int32), Ra 0 12 x13 → 12 - x13.toInt < (n : Int) → Z 40 [some (rf g h), some (.int a1), some (.int a2), some (rf g (h + 60 + 20 * j1)), some (.int x6), some (.int x12), some (.int x8), some (.int x13)] [] iv lv := by
          intro n
          induction n with
          | zero => intro x12 x13 hx13 hn40; exact (ms_uz hx13 hn40).elim
          | succ n ih40 =>
            intro x12 x13 hx13 hn40
            refine z_iload zh dX0_agedShort_40 rfl ?_
            refine z_aloadnR zh dX0_agedShort_42 rfl ?_
            refine z_callVI zh mv_Figures_42 dX0_agedShort_43 (ck_H hh) rfl (s_X1_members g hh hG) ⟨Nat.le_of_ble_eq_true rfl, Nat.le_of_ble_eq_true rfl⟩ rfl rfl (Nat.le_of_ble_eq_true rfl) ?_
            rintro x14 _ _ ⟨rfl, rfl, hx14⟩
            refine z_icmp_ge (tgt := 75) zh dX0_agedShort_46 rfl (fun q15 => ?_) (fun q15 => ?_)
            · have r16 : Ra 2 12 x13 := rb_le_r hx14 hx13 q15 (by decide)
              refine y_iinc (L' := fun z => [some (rf g h), some (.int a1), some (.int a2), some (rf g (h + 60 + 20 * j1)), some (.int x6), some (.int x12), some (.int z), some (.int x13)]) zh dX0_agedShort_75 (by decide) rfl (by decide +kernel) r10 (u := 1) (v := 100) rfl rfl (by decide) (by decide) (fun _ => rfl) (fun x17 hc17 hx17 => ?_)
              refine z_goto (tgt := 30) zh dX0_agedShort_78 rfl ?_
              refine z_forget zh [true, true, true, true, true, true, true, false] (L2 := [some (rf g h), some (.int a1), some (.int a2), some (rf g (h + 60 + 20 * j1)), some (.int x6), some (.int x12), some (.int x17), none]) rfl ?_
              exact ih30 x12 x17 (ra_w hx17 (by decide) (by decide)) (ms_up hc17 (by decide) hn30)
            · have r18 : Ra 0 11 x13 := rb_lt_l hx14 hx13 (rb_nle q15) (by decide)
              refine z_iload zh dX0_agedShort_49 rfl ?_
              refine z_iconst zh dX0_agedShort_51 ki_0 ?_
              refine z_aloadnR zh dX0_agedShort_52 rfl ?_
              refine z_getf zh fl_Figures_86 dX0_agedShort_53 (ck_M (isM_of hh hj1)) rfl rfl ?_
              refine z_iload zh dX0_agedShort_56 rfl ?_
              refine y_gald zh (ck_lots (isM_of hh hj1)) dX0_agedShort_58 r18 (by decide) (by decide) (fun j19 hj19 _ _ => ?_)
              refine z_iload zh dX0_agedShort_59 rfl ?_
              refine y_iald zh (ck_row (isM_of hh hj1) hj19) dX0_agedShort_61 r10 (by decide) (by decide) (fun x20 ex20 => ?_)
              refine y_inegT zh dX0_agedShort_62 (fun x21 => ?_)
              refine y_mmax zh ma_Figures_125 mc_max dX0_agedShort_63 ⟨Nat.le_of_ble_eq_true rfl, Nat.le_of_ble_eq_true rfl⟩ rl_0 (ra_tt x21) (u := 0) (v := 2147483647) (Or.inl (by decide)) (by decide) (by decide) (fun x22 hx22 => ?_)
              refine y_iaddT zh dX0_agedShort_66 (fun x23 => ?_)
              refine z_istore zh dX0_agedShort_67 (by decide) (L' := [some (rf g h), some (.int a1), some (.int a2), some (rf g (h + 60 + 20 * j1)), some (.int x6), some (.int x23), some (.int x8), some (.int x13)]) rfl ?_
              refine y_iinc (L' := fun z => [some (rf g h), some (.int a1), some (.int a2), some (rf g (h + 60 + 20 * j1)), some (.int x6), some (.int x23), some (.int x8), some (.int z)]) zh dX0_agedShort_69 (by decide) rfl (by decide +kernel) r18 (u := 1) (v := 12) rfl rfl (by decide) (by decide) (fun _ => rfl) (fun x24 hc24 hx24 => ?_)
              refine z_goto (tgt := 40) zh dX0_agedShort_72 rfl ?_
              exact ih40 x23 x24 (ra_w hx24 (by decide) (by decide)) (ms_up hc24 (by decide) hn40)
        exact J40 13 x7 (nI 0) (ra_w rl_0 (by decide) (by decide)) (ms_u0 rl_0 (by decide))
  exact J30 101 (nI 0) (nI 0) (ra_w rl_0 (by decide) (by decide)) (ms_u0 rl_0 (by decide))
set_option maxRecDepth 20000 in
theorem s_X0_suspendedSet (g : GE) {sp : Nat → Nat → Bool} {σ : Iv} {iv : Iv} {lv : Lv} {h : Nat} (hh : isH h) (hG : SI sp σ iv)  : ConI g yX0_suspendedSet cX0_suspendedSet 3 (some .int) 2 [rf g h] iv lv (fun r iv' lv' => iv = iv' ∧ lv = lv' ∧ True) := by
  refine con_intro (own := "RollingNets$Figures") (by decide +kernel) rfl (Nat.le_of_ble_eq_true rfl) (L0 := [some (rf g h), none, none]) rfl (fun Z zh => ?_)
  refine z_iconst zh dX0_suspendedSet_0 ki_0 ?_
  refine z_istoren zh dX0_suspendedSet_1 (by decide) (L' := [some (rf g h), some (.int (nI 0)), none]) rfl ?_
  refine z_iconst zh dX0_suspendedSet_2 ki_0 ?_
  refine z_istoren zh dX0_suspendedSet_3 (by decide) (L' := [some (rf g h), some (.int (nI 0)), some (.int (nI 0))]) rfl ?_
  have J4 : ∀ (n : Nat) (x1 : Int32) (x2 : Int32), Ra 0 12 x2 → 12 - x2.toInt < (n : Int) → Z 4 [some (rf g h), some (.int x1), some (.int x2)] [] iv lv := by
    intro n
    induction n with
    | zero => intro x1 x2 hx2 hn4; exact (ms_uz hx2 hn4).elim
    | succ n ih4 =>
      intro x1 x2 hx2 hn4
      refine z_iloadn zh dX0_suspendedSet_4 rfl ?_
      refine z_aloadnR zh dX0_suspendedSet_5 rfl ?_
      refine z_callVI zh mv_Figures_42 dX0_suspendedSet_6 (ck_H hh) rfl (s_X1_members g hh hG) ⟨Nat.le_of_ble_eq_true rfl, Nat.le_of_ble_eq_true rfl⟩ rfl rfl (Nat.le_of_ble_eq_true rfl) ?_
      rintro x3 _ _ ⟨rfl, rfl, hx3⟩
      refine z_icmp_ge (tgt := 33) zh dX0_suspendedSet_9 rfl (fun q4 => ?_) (fun q4 => ?_)
      · have r5 : Ra 2 12 x2 := rb_le_r hx3 hx2 q4 (by decide)
        refine z_iloadn zh dX0_suspendedSet_33 rfl ?_
        exact z_iret zh dX0_suspendedSet_34 ⟨_, rfl, rfl, rfl, trivial⟩
      · have r6 : Ra 0 11 x2 := rb_lt_l hx3 hx2 (rb_nle q4) (by decide)
        refine z_aloadnR zh dX0_suspendedSet_12 rfl ?_
        refine z_getf zh fl_Figures_79 dX0_suspendedSet_13 (ck_H hh) rfl rfl ?_
        refine z_iloadn zh dX0_suspendedSet_16 rfl ?_
        refine y_zald zh (ck_susp hh) dX0_suspendedSet_17 r6 (by decide) (by decide) (fun x7 ex7 => ?_)
        have J27 : ∀ (x8 : Int32), Z 27 [some (rf g h), some (.int x8), some (.int x2)] [] iv lv := by
          intro x8
          refine y_iinc (L' := fun z => [some (rf g h), some (.int x8), some (.int z)]) zh dX0_suspendedSet_27 (by decide) rfl (by decide +kernel) r6 (u := 1) (v := 12) rfl rfl (by decide) (by decide) (fun _ => rfl) (fun x9 hc9 hx9 => ?_)
          refine z_goto (tgt := 4) zh dX0_suspendedSet_30 rfl ?_
          exact ih4 x8 x9 (ra_w hx9 (by decide) (by decide)) (ms_up hc9 (by decide) hn4)
        refine z_if_eq (tgt := 27) zh dX0_suspendedSet_18 rfl (fun q10 => ?_) (fun q10 => ?_)
        · have r11 := rb_eq (u := 0) (v := 0) (ra_tt x7) ra_z q10 (by decide) (by decide)
          exact J27 x1
        · refine z_iloadn zh dX0_suspendedSet_21 rfl ?_
          refine z_iconst zh dX0_suspendedSet_22 ki_1 ?_
          refine z_iloadn zh dX0_suspendedSet_23 rfl ?_
          refine y_ishlT zh dX0_suspendedSet_24 (fun x12 => ?_)
          refine y_iorT zh dX0_suspendedSet_25 (fun x13 => ?_)
          refine z_istoren zh dX0_suspendedSet_26 (by decide) (L' := [some (rf g h), some (.int x13), some (.int x2)]) rfl ?_
          exact J27 x13
  exact J4 13 (nI 0) (nI 0) (ra_w rl_0 (by decide) (by decide)) (ms_u0 rl_0 (by decide))
set_option maxRecDepth 20000 in
theorem s_X2_addGroup (g : GE) {sp : Nat → Nat → Bool} {σ : Iv} {iv : Iv} {lv : Lv} {h : Nat} {m : Nat} {a1 : Int32} (hh : isH h) (hm : isM m) (hG : SI sp σ iv)  : ConV g yX2_addGroup cX2_addGroup 6 none 1 [rf g (h + 54), rf g m, .int a1] iv lv (fun iv lv => SI sp σ iv) := by
  refine con_intro (own := "RollingNets$Line") (by decide +kernel) rfl (Nat.le_of_ble_eq_true rfl) (L0 := [some (rf g (h + 54)), some (rf g m), some (.int a1), none, none, none]) rfl (fun Z zh => ?_)
  refine z_iloadn zh dX2_addGroup_0 rfl ?_
  refine z_if_ne (tgt := 5) zh dX2_addGroup_1 rfl (fun q1 => ?_) (fun q1 => ?_)
  · refine z_iconst zh dX2_addGroup_5 ki_0 ?_
    refine z_istoren zh dX2_addGroup_6 (by decide) (L' := [some (rf g (h + 54)), some (rf g m), some (.int a1), some (.int (nI 0)), none, none]) rfl ?_
    have J7 : ∀ (n : Nat) (iv : Iv) (lv : Lv) (x2 : Int32), SI sp σ iv → Ra 0 100 x2 → 100 - x2.toInt < (n : Int) → Z 7 [some (rf g (h + 54)), some (rf g m), some (.int a1), some (.int x2), none, none] [] iv lv := by
      intro n
      induction n with
      | zero => intro iv lv x2 hG hx2 hn7; exact (ms_uz hx2 hn7).elim
      | succ n ih7 =>
        intro iv lv x2 hG hx2 hn7
        refine z_iloadn zh dX2_addGroup_7 rfl ?_
        refine z_aloadnR zh dX2_addGroup_8 rfl ?_
        refine y_getI zh fl_Line_58 dX2_addGroup_9 (ck_M hm) rfl rfl (fun x3 ex3 => ?_)
        have hx3 : Ra 0 100 x3 := ra_of ex3 (si_M hG hm 0 (by decide) rfl)
        refine z_icmp_ge (tgt := 110) zh dX2_addGroup_12 rfl (fun q4 => ?_) (fun q4 => ?_)
        · exact z_vret zh dX2_addGroup_110 ⟨rfl, hG⟩
        · have r5 : Ra 0 99 x2 := rb_lt_l hx3 hx2 (rb_nle q4) (by decide)
          have r6 : Ra 1 100 x3 := rb_lt_r hx2 hx3 (rb_nle q4) (by decide)
          refine z_iconst zh dX2_addGroup_15 ki_0 ?_
          refine z_istore zh dX2_addGroup_16 (by decide) (L' := [some (rf g (h + 54)), some (rf g m), some (.int a1), some (.int x2), some (.int (nI 0)), none]) rfl ?_
          have J18 : ∀ (n : Nat) (iv : Iv) (lv : Lv) (x7 : Int32), SI sp σ iv → Ra 0 12 x7 → 12 - x7.toInt < (n : Int) → Z 18 [some (rf g (h + 54)), some (rf g m), some (.int a1), some (.int x2), some (.int x7), none] [] iv lv := by
            intro n
            induction n with
            | zero => intro iv lv x7 hG hx7 hn18; exact (ms_uz hx7 hn18).elim
            | succ n ih18 =>
              intro iv lv x7 hG hx7 hn18
              refine z_iload zh dX2_addGroup_18 rfl ?_
              refine z_bipush zh dX2_addGroup_20 kb_12 ?_
              refine z_icmp_ge (tgt := 104) zh dX2_addGroup_22 rfl (fun q8 => ?_) (fun q8 => ?_)
              · have r9 : Ra 12 12 x7 := rb_le_r rl_12 hx7 q8 (by decide)
                refine y_iinc (L' := fun z => [some (rf g (h + 54)), some (rf g m), some (.int a1), some (.int z), some (.int x7), none]) zh dX2_addGroup_104 (by decide) rfl (by decide +kernel) r5 (u := 1) (v := 100) rfl rfl (by decide) (by decide) (fun _ => rfl) (fun x10 hc10 hx10 => ?_)
                refine z_goto (tgt := 7) zh dX2_addGroup_107 rfl ?_
                refine z_forget zh [true, true, true, true, false, false] (L2 := [some (rf g (h + 54)), some (rf g m), some (.int a1), some (.int x10), none, none]) rfl ?_
                exact ih7 iv lv x10 hG (ra_w hx10 (by decide) (by decide)) (ms_up hc10 (by decide) hn7)
              · have r11 : Ra 0 11 x7 := rb_lt_l rl_12 hx7 (rb_nle q8) (by decide)
                refine z_aloadnR zh dX2_addGroup_25 rfl ?_
                refine z_getf zh fl_Line_22 dX2_addGroup_26 (ck_line hh) rfl rfl ?_
                refine z_iload zh dX2_addGroup_29 rfl ?_
                refine y_iald zh (ck_lineR hh) dX2_addGroup_31 r11 (by decide) (by decide) (fun x12 ex12 => ?_)
                have hx12 : Ra 0 11 x12 := ra_of ex12 (si_H hG hh 57 (by decide) rfl)
                refine z_istore zh dX2_addGroup_32 (by decide) (L' := [some (rf g (h + 54)), some (rf g m), some (.int a1), some (.int x2), some (.int x7), some (.int x12)]) rfl ?_
                refine z_iloadn zh dX2_addGroup_34 rfl ?_
                refine z_iload zh dX2_addGroup_35 rfl ?_
                refine y_ishrT zh dX2_addGroup_37 (fun x13 => ?_)
                refine z_iconst zh dX2_addGroup_38 ki_1 ?_
                refine y_iandT zh dX2_addGroup_39 (fun x14 => ?_)
                have J98 : ∀ (iv : Iv) (lv : Lv), SI sp σ iv → Z 98 [some (rf g (h + 54)), some (rf g m), some (.int a1), some (.int x2), some (.int x7), some (.int x12)] [] iv lv := by
                  intro iv lv hG
                  refine y_iinc (L' := fun z => [some (rf g (h + 54)), some (rf g m), some (.int a1), some (.int x2), some (.int z), some (.int x12)]) zh dX2_addGroup_98 (by decide) rfl (by decide +kernel) r11 (u := 1) (v := 12) rfl rfl (by decide) (by decide) (fun _ => rfl) (fun x15 hc15 hx15 => ?_)
                  refine z_goto (tgt := 18) zh dX2_addGroup_101 rfl ?_
                  refine z_forget zh [true, true, true, true, true, false] (L2 := [some (rf g (h + 54)), some (rf g m), some (.int a1), some (.int x2), some (.int x15), none]) rfl ?_
                  exact ih18 iv lv x15 hG (ra_w hx15 (by decide) (by decide)) (ms_up hc15 (by decide) hn18)
                refine z_if_eq (tgt := 98) zh dX2_addGroup_40 rfl (fun q16 => ?_) (fun q16 => ?_)
                · have r17 := rb_eq (u := 0) (v := 0) (ra_tt x14) ra_z q16 (by decide) (by decide)
                  exact J98 iv lv hG
                · refine z_aloadnR zh dX2_addGroup_43 rfl ?_
                  refine z_getf zh fl_Line_63 dX2_addGroup_44 (ck_M hm) rfl rfl ?_
                  refine z_iload zh dX2_addGroup_47 rfl ?_
                  refine y_gald zh (ck_lots hm) dX2_addGroup_49 hx12 (by decide) (by decide) (fun j18 hj18 _ _ => ?_)
                  refine z_iloadn zh dX2_addGroup_50 rfl ?_
                  refine y_iald zh (ck_row hm hj18) dX2_addGroup_51 r5 (by decide) (by decide) (fun x19 ex19 => ?_)
                  refine z_if_le (tgt := 98) zh dX2_addGroup_52 rfl (fun q20 => ?_) (fun q20 => ?_)
                  · have r21 : Ra (-2147483648) 0 x19 := rb_le_l ra_z (ra_tt x19) q20 (by decide)
                    exact J98 iv lv hG
                  · have r22 : Ra 1 2147483647 x19 := rb_lt_r ra_z (ra_tt x19) (rb_nle q20) (by decide)
                    refine z_aloadnR zh dX2_addGroup_55 rfl ?_
                    refine y_getI zh fl_Line_18 dX2_addGroup_56 (ck_line hh) rfl rfl (fun x23 ex23 => ?_)
                    have hx23 : Ra 0 1200 x23 := ra_of ex23 (si_H hG hh 54 (by decide) rfl)
                    refine z_aloadnR zh dX2_addGroup_59 rfl ?_
                    refine z_getf zh fl_Line_9 dX2_addGroup_60 (ck_line hh) rfl rfl ?_
                    refine z_alenI zh (ck_lineM hh) dX2_addGroup_63 ?_
                    refine z_icmp_ge (tgt := 98) zh dX2_addGroup_64 rfl (fun q24 => ?_) (fun q24 => ?_)
                    · have r25 : Ra 1200 1200 x23 := rb_le_r rl_1200 hx23 q24 (by decide)
                      exact J98 iv lv hG
                    · have r26 : Ra 0 1199 x23 := rb_lt_l rl_1200 hx23 (rb_nle q24) (by decide)
                      refine z_aloadnR zh dX2_addGroup_67 rfl ?_
                      refine z_getf zh fl_Line_9 dX2_addGroup_68 (ck_line hh) rfl rfl ?_
                      refine z_aloadnR zh dX2_addGroup_71 rfl ?_
                      refine z_getI (x := x23) zh fl_Line_18 dX2_addGroup_72 (ck_line hh) rfl rfl ex23 ?_
                      refine z_iload zh dX2_addGroup_75 rfl ?_
                      refine z_iast zh (ck_lineM hh) dX2_addGroup_77 (ra_in r26 (by decide) (by decide)) ?_
                      have hG : SI sp σ (upI iv (h + 54 + 1) x23.toNatClampNeg x12) := si_wH hG hh 55 (by decide) rfl (rx_some hx12)
                      have em27 := (upI_ne (iv := iv) (k := h + 54 + 1) (j := x23.toNatClampNeg) (x := x12) (a := h + 54) (b := 2) (Or.inl (by omega))).trans ex23
                      generalize upI iv (h + 54 + 1) x23.toNatClampNeg x12 = iv at hG em27 ⊢
                      refine z_aloadnR zh dX2_addGroup_78 rfl ?_
                      refine z_getf zh fl_Line_15 dX2_addGroup_79 (ck_line hh) rfl rfl ?_
                      refine z_aloadnR zh dX2_addGroup_82 rfl ?_
                      refine z_getI (x := x23) zh fl_Line_18 dX2_addGroup_83 (ck_line hh) rfl rfl em27 ?_
                      refine z_iloadn zh dX2_addGroup_86 rfl ?_
                      refine z_iast zh (ck_lineD hh) dX2_addGroup_87 (ra_in r26 (by decide) (by decide)) ?_
                      have hG : SI sp σ (upI iv (h + 54 + 2) x23.toNatClampNeg x2) := si_wH hG hh 56 (by decide) rfl (rx_some r5)
                      have em28 := (upI_ne (iv := iv) (k := h + 54 + 2) (j := x23.toNatClampNeg) (x := x2) (a := h + 54) (b := 2) (Or.inl (by omega))).trans em27
                      generalize upI iv (h + 54 + 2) x23.toNatClampNeg x2 = iv at hG em28 ⊢
                      refine z_aloadnR zh dX2_addGroup_88 rfl ?_
                      refine z_dup zh dX2_addGroup_89 rfl ?_
                      refine z_getI (x := x23) zh fl_Line_18 dX2_addGroup_90 (ck_line hh) rfl rfl em28 ?_
                      refine z_iconst zh dX2_addGroup_93 ki_1 ?_
                      refine y_iadd zh dX2_addGroup_94 r26 rl_1 (u := 1) (v := 1200) rfl rfl (by decide) (by decide) (fun x29 hc29 hx29 => ?_)
                      refine z_putI zh fl_Line_18 dX2_addGroup_95 (ck_line hh) rfl rfl (Nat.le_of_ble_eq_true rfl) (Or.inl rfl) ?_
                      have hG : SI sp σ (upI iv (h + 54) 2 x29) := si_wH hG hh 54 (by decide) rfl (rx_some (ra_w hx29 (by decide) (by decide)))
                      have em30 : upI iv (h + 54) 2 x29 (h + 54) 2 = x29 := by rw [upI_at, if_pos ⟨rfl, rfl⟩]
                      generalize upI iv (h + 54) 2 x29 = iv at hG em30 ⊢
                      exact J98 iv lv hG
          exact J18 13 iv lv (nI 0) hG (ra_w rl_0 (by decide) (by decide)) (ms_u0 rl_0 (by decide))
    exact J7 101 iv lv (nI 0) hG (ra_w rl_0 (by decide) (by decide)) (ms_u0 rl_0 (by decide))
  · have r31 := rb_eq (u := 0) (v := 0) (ra_tt a1) ra_z q1 (by decide) (by decide)
    exact z_vret zh dX2_addGroup_4 ⟨rfl, hG⟩
set_option maxRecDepth 20000 in
theorem s_X2_sortByRank (g : GE) {sp : Nat → Nat → Bool} {σ : Iv} {iv : Iv} {lv : Lv} {h : Nat} {h2 : Nat} (hh : isH h) (hh2 : isH h2) (hG : SI sp σ iv)  : ConV g yX2_sortByRank cX2_sortByRank 5 none 2 [rf g (h + 54), rf g h2] iv lv (fun iv lv => SI sp σ iv) := by
  refine con_intro (own := "RollingNets$Line") (by decide +kernel) rfl (Nat.le_of_ble_eq_true rfl) (L0 := [some (rf g (h + 54)), some (rf g h2), none, none, none]) rfl (fun Z zh => ?_)
  refine z_iconst zh dX2_sortByRank_0 ki_0 ?_
  refine z_istoren zh dX2_sortByRank_1 (by decide) (L' := [some (rf g (h + 54)), some (rf g h2), some (.int (nI 0)), none, none]) rfl ?_
  refine z_bipush zh dX2_sortByRank_2 kb_9 ?_
  refine z_istoren zh dX2_sortByRank_4 (by decide) (L' := [some (rf g (h + 54)), some (rf g h2), some (.int (nI 0)), some (.int (nI 9)), none]) rfl ?_
  have J5 : ∀ (n : Nat) (iv : Iv) (lv : Lv) (x1 : Int32) (x2 : Int32), SI sp σ iv → Ra 0 12 x1 → Ra (-1) 9 x2 → x2.toInt - (-1) < (n : Int) → Z 5 [some (rf g (h + 54)), some (rf g h2), some (.int x1), some (.int x2), none] [] iv lv := by
    intro n
    induction n with
    | zero => intro iv lv x1 x2 hG hx1 hx2 hn5; exact (ms_dz hx2 hn5).elim
    | succ n ih5 =>
      intro iv lv x1 x2 hG hx1 hx2 hn5
      refine z_iloadn zh dX2_sortByRank_5 rfl ?_
      refine z_if_lt (tgt := 61) zh dX2_sortByRank_6 rfl (fun q3 => ?_) (fun q3 => ?_)
      · have r4 : Ra (-1) (-1) x2 := rb_lt_l ra_z hx2 q3 (by decide)
        refine z_iloadn zh dX2_sortByRank_61 rfl ?_
        refine z_istoren zh dX2_sortByRank_62 (by decide) (L' := [some (rf g (h + 54)), some (rf g h2), some (.int x1), some (.int x1), none]) rfl ?_
        have J63 : ∀ (n : Nat) (iv : Iv) (lv : Lv) (x5 : Int32), SI sp σ iv → Ra 0 12 x5 → 12 - x5.toInt < (n : Int) → Z 63 [some (rf g (h + 54)), some (rf g h2), some (.int x1), some (.int x5), none] [] iv lv := by
          intro n
          induction n with
          | zero => intro iv lv x5 hG hx5 hn63; exact (ms_uz hx5 hn63).elim
          | succ n ih63 =>
            intro iv lv x5 hG hx5 hn63
            refine z_iloadn zh dX2_sortByRank_63 rfl ?_
            refine z_bipush zh dX2_sortByRank_64 kb_12 ?_
            refine z_icmp_ge (tgt := 82) zh dX2_sortByRank_66 rfl (fun q6 => ?_) (fun q6 => ?_)
            · have r7 : Ra 12 12 x5 := rb_le_r rl_12 hx5 q6 (by decide)
              exact z_vret zh dX2_sortByRank_82 ⟨rfl, hG⟩
            · have r8 : Ra 0 11 x5 := rb_lt_l rl_12 hx5 (rb_nle q6) (by decide)
              refine z_aloadnR zh dX2_sortByRank_69 rfl ?_
              refine z_getf zh fl_Line_22 dX2_sortByRank_70 (ck_line hh) rfl rfl ?_
              refine z_iloadn zh dX2_sortByRank_73 rfl ?_
              refine z_iloadn zh dX2_sortByRank_74 rfl ?_
              refine z_iast zh (ck_lineR hh) dX2_sortByRank_75 (ra_in r8 (by decide) (by decide)) ?_
              have hG : SI sp σ (upI iv (h + 54 + 3) x5.toNatClampNeg x5) := si_wH hG hh 57 (by decide) rfl (rx_some r8)
              generalize upI iv (h + 54 + 3) x5.toNatClampNeg x5 = iv at hG  ⊢
              refine y_iinc (L' := fun z => [some (rf g (h + 54)), some (rf g h2), some (.int x1), some (.int z), none]) zh dX2_sortByRank_76 (by decide) rfl (by decide +kernel) r8 (u := 1) (v := 12) rfl rfl (by decide) (by decide) (fun _ => rfl) (fun x9 hc9 hx9 => ?_)
              refine z_goto (tgt := 63) zh dX2_sortByRank_79 rfl ?_
              exact ih63 iv lv x9 hG (ra_w hx9 (by decide) (by decide)) (ms_up hc9 (by decide) hn63)
        exact J63 13 iv lv x1 hG hx1 (ms_u0 hx1 (by decide))
      · have r10 : Ra 0 9 x2 := rb_le_r ra_z hx2 (rb_nlt q3) (by decide)
        refine z_iconst zh dX2_sortByRank_9 ki_0 ?_
        refine z_istore zh dX2_sortByRank_10 (by decide) (L' := [some (rf g (h + 54)), some (rf g h2), some (.int x1), some (.int x2), some (.int (nI 0))]) rfl ?_
        have J12 : ∀ (n : Nat) (iv : Iv) (lv : Lv) (x11 : Int32) (x12 : Int32), SI sp σ iv → Ra 0 12 x11 → Ra 0 12 x12 → 12 - x12.toInt < (n : Int) → Z 12 [some (rf g (h + 54)), some (rf g h2), some (.int x11), some (.int x2), some (.int x12)] [] iv lv := by
          intro n
          induction n with
          | zero => intro iv lv x11 x12 hG hx11 hx12 hn12; exact (ms_uz hx12 hn12).elim
          | succ n ih12 =>
            intro iv lv x11 x12 hG hx11 hx12 hn12
            refine z_iload zh dX2_sortByRank_12 rfl ?_
            refine z_aloadnR zh dX2_sortByRank_14 rfl ?_
            refine z_callVI zh mv_Line_35 dX2_sortByRank_15 (ck_H hh2) rfl (s_X1_members g hh2 hG) ⟨Nat.le_of_ble_eq_true rfl, Nat.le_of_ble_eq_true rfl⟩ rfl rfl (Nat.le_of_ble_eq_true rfl) ?_
            rintro x13 _ _ ⟨rfl, rfl, hx13⟩
            have J55 : ∀ (iv : Iv) (lv : Lv), SI sp σ iv → Z 55 [some (rf g (h + 54)), some (rf g h2), some (.int x11), some (.int x2), some (.int x12)] [] iv lv := by
              intro iv lv hG
              refine y_iinc (L' := fun z => [some (rf g (h + 54)), some (rf g h2), some (.int x11), some (.int z), some (.int x12)]) zh dX2_sortByRank_55 (by decide) rfl (by decide +kernel) r10 (u := (-1)) (v := 8) rfl rfl (by decide) (by decide) (fun _ => rfl) (fun x14 hc14 hx14 => ?_)
              refine z_goto (tgt := 5) zh dX2_sortByRank_58 rfl ?_
              refine z_forget zh [true, true, true, true, false] (L2 := [some (rf g (h + 54)), some (rf g h2), some (.int x11), some (.int x14), none]) rfl ?_
              exact ih5 iv lv x11 x14 hG hx11 (ra_w hx14 (by decide) (by decide)) (ms_dn hc14 (by decide) hn5)
            refine z_icmp_ge (tgt := 55) zh dX2_sortByRank_18 rfl (fun q15 => ?_) (fun q15 => ?_)
            · have r16 : Ra 2 12 x12 := rb_le_r hx13 hx12 q15 (by decide)
              exact J55 iv lv hG
            · have r17 : Ra 0 11 x12 := rb_lt_l hx13 hx12 (rb_nle q15) (by decide)
              refine z_iloadn zh dX2_sortByRank_21 rfl ?_
              refine z_bipush zh dX2_sortByRank_22 kb_12 ?_
              refine z_icmp_ge (tgt := 55) zh dX2_sortByRank_24 rfl (fun q18 => ?_) (fun q18 => ?_)
              · have r19 : Ra 12 12 x11 := rb_le_r rl_12 hx11 q18 (by decide)
                exact J55 iv lv hG
              · have r20 : Ra 0 11 x11 := rb_lt_l rl_12 hx11 (rb_nle q18) (by decide)
                refine z_aloadnR zh dX2_sortByRank_27 rfl ?_
                refine z_getf zh fl_Line_55 dX2_sortByRank_28 (ck_H hh2) rfl rfl ?_
                refine z_iload zh dX2_sortByRank_31 rfl ?_
                refine y_iald zh (ck_rank hh2) dX2_sortByRank_33 r17 (by decide) (by decide) (fun x21 ex21 => ?_)
                refine z_iloadn zh dX2_sortByRank_34 rfl ?_
                have J49 : ∀ (iv : Iv) (lv : Lv) (x22 : Int32), SI sp σ iv → Ra 0 12 x22 → Z 49 [some (rf g (h + 54)), some (rf g h2), some (.int x22), some (.int x2), some (.int x12)] [] iv lv := by
                  intro iv lv x22 hG hx22
                  refine y_iinc (L' := fun z => [some (rf g (h + 54)), some (rf g h2), some (.int x22), some (.int x2), some (.int z)]) zh dX2_sortByRank_49 (by decide) rfl (by decide +kernel) r17 (u := 1) (v := 12) rfl rfl (by decide) (by decide) (fun _ => rfl) (fun x23 hc23 hx23 => ?_)
                  refine z_goto (tgt := 12) zh dX2_sortByRank_52 rfl ?_
                  exact ih12 iv lv x22 x23 hG hx22 (ra_w hx23 (by decide) (by decide)) (ms_up hc23 (by decide) hn12)
                refine z_icmp_ne (tgt := 49) zh dX2_sortByRank_35 rfl (fun q24 => ?_) (fun q24 => ?_)
                · exact J49 iv lv x11 hG (ra_w r20 (by decide) (by decide))
                · have r25 := rb_eq (u := 0) (v := 9) (ra_tt x21) r10 q24 (by decide) (by decide)
                  refine z_aloadnR zh dX2_sortByRank_38 rfl ?_
                  refine z_getf zh fl_Line_22 dX2_sortByRank_39 (ck_line hh) rfl rfl ?_
                  refine z_iloadn zh dX2_sortByRank_42 rfl ?_
                  refine z_iload zh dX2_sortByRank_43 rfl ?_
                  refine z_iast zh (ck_lineR hh) dX2_sortByRank_45 (ra_in r20 (by decide) (by decide)) ?_
                  have hG : SI sp σ (upI iv (h + 54 + 3) x11.toNatClampNeg x12) := si_wH hG hh 57 (by decide) rfl (rx_some r17)
                  generalize upI iv (h + 54 + 3) x11.toNatClampNeg x12 = iv at hG  ⊢
                  refine y_iinc (L' := fun z => [some (rf g (h + 54)), some (rf g h2), some (.int z), some (.int x2), some (.int x12)]) zh dX2_sortByRank_46 (by decide) rfl (by decide +kernel) r20 (u := 1) (v := 12) rfl rfl (by decide) (by decide) (fun _ => rfl) (fun x26 hc26 hx26 => ?_)
                  exact J49 iv lv x26 hG (ra_w hx26 (by decide) (by decide))
        exact J12 13 iv lv x1 (nI 0) hG hx1 (ra_w rl_0 (by decide) (by decide)) (ms_u0 rl_0 (by decide))
  exact J5 11 iv lv (nI 0) (nI 9) hG (ra_w rl_0 (by decide) (by decide)) (ra_w rl_9 (by decide) (by decide)) (ms_d0 rl_9 (by decide))
set_option maxRecDepth 20000 in
theorem s_X1_isOpenNotice (g : GE) {sp : Nat → Nat → Bool} {σ : Iv} {iv : Iv} {lv : Lv} {h : Nat} {a1 : Int32} {a2 : Int32} (hh : isH h) (ha1 : Ra 0 59 a1) (ha2 : Ra 0 5 a2) (hG : SI sp σ iv)  : ConI g yX1_isOpenNotice cX1_isOpenNotice 3 (some .boolean) 2 [rf g h, .int a1, .int a2] iv lv (fun r iv' lv' => iv = iv' ∧ lv = lv' ∧ Ra 0 1 r) := by
  refine con_intro (own := "RollingNets$House") (by decide +kernel) rfl (Nat.le_of_ble_eq_true rfl) (L0 := [some (rf g h), some (.int a1), some (.int a2)]) rfl (fun Z zh => ?_)
  refine z_aloadnR zh dX1_isOpenNotice_0 rfl ?_
  refine z_getf zh fl_House_47 dX1_isOpenNotice_1 (ck_H hh) rfl rfl ?_
  refine z_iconst zh dX1_isOpenNotice_4 ki_4 ?_
  refine z_iloadn zh dX1_isOpenNotice_5 rfl ?_
  obtain ⟨x1, ex1⟩ : ∃ z, iv (h + 17) 2 = z := ⟨_, rfl⟩
  have hx1 : Ra 0 60 x1 := ra_of ex1 (si_T hG (isT_n hh))
  refine z_callVI zh mv_House_141 dX1_isOpenNotice_6 (ck_T (isT_n hh)) rfl (s_X7_get g (isT_n hh) ex1 hx1) ⟨Nat.le_of_ble_eq_true rfl, Nat.le_of_ble_eq_true rfl⟩ rfl rfl (Nat.le_of_ble_eq_true rfl) ?_
  rintro x2 _ _ ⟨rfl, rfl, gx2⟩
  refine z_iconst zh dX1_isOpenNotice_9 ki_1 ?_
  refine z_icmp_ne (tgt := 30) zh dX1_isOpenNotice_10 rfl (fun q3 => ?_) (fun q3 => ?_)
  · refine z_iconst zh dX1_isOpenNotice_30 ki_0 ?_
    exact z_zret zh dX1_isOpenNotice_31 (ra_01 (ra_w rl_0 (by decide) (by decide))) ⟨_, rfl, rfl, rfl, (ra_w rl_0 (by decide) (by decide))⟩
  · have r4 := rb_eq (u := 1) (v := 1) (ra_tt x2) rl_1 q3 (by decide) (by decide)
    refine z_aloadnR zh dX1_isOpenNotice_13 rfl ?_
    refine z_getf zh fl_House_47 dX1_isOpenNotice_14 (ck_H hh) rfl rfl ?_
    refine z_iconst zh dX1_isOpenNotice_17 ki_1 ?_
    refine z_iloadn zh dX1_isOpenNotice_18 rfl ?_
    refine z_callVI zh mv_House_141 dX1_isOpenNotice_19 (ck_T (isT_n hh)) rfl (s_X7_get g (isT_n hh) ex1 hx1) ⟨Nat.le_of_ble_eq_true rfl, Nat.le_of_ble_eq_true rfl⟩ rfl rfl (Nat.le_of_ble_eq_true rfl) ?_
    rintro x5 _ _ ⟨rfl, rfl, gx5⟩
    refine z_iloadn zh dX1_isOpenNotice_22 rfl ?_
    refine z_icmp_ne (tgt := 30) zh dX1_isOpenNotice_23 rfl (fun q6 => ?_) (fun q6 => ?_)
    · refine z_iconst zh dX1_isOpenNotice_30 ki_0 ?_
      exact z_zret zh dX1_isOpenNotice_31 (ra_01 (ra_w rl_0 (by decide) (by decide))) ⟨_, rfl, rfl, rfl, (ra_w rl_0 (by decide) (by decide))⟩
    · have r7 := rb_eq (u := 0) (v := 5) (ra_tt x5) ha2 q6 (by decide) (by decide)
      refine z_iconst zh dX1_isOpenNotice_26 ki_1 ?_
      refine z_goto (tgt := 31) zh dX1_isOpenNotice_27 rfl ?_
      exact z_zret zh dX1_isOpenNotice_31 (ra_01 (ra_w rl_1 (by decide) (by decide))) ⟨_, rfl, rfl, rfl, (ra_w rl_1 (by decide) (by decide))⟩
set_option maxRecDepth 20000 in
theorem s_X5_givers (g : GE) {sp : Nat → Nat → Bool} {σ : Iv} {iv : Iv} {lv : Lv} {h : Nat} {a1 : Int32} (hh : isH h) (ha1 : Ra 0 5 a1) (hG : SI sp σ iv)  : ConI g yX5_givers cX5_givers 5 (some .int) 3 [rf g h, .int a1] iv lv (fun r iv' lv' => iv = iv' ∧ lv = lv' ∧ True) := by
  refine con_intro (own := "RollingNets$Notices") (by decide +kernel) rfl (Nat.le_of_ble_eq_true rfl) (L0 := [some (rf g h), some (.int a1), none, none, none]) rfl (fun Z zh => ?_)
  refine z_aloadnR zh dX5_givers_0 rfl ?_
  refine z_getf zh fl_Notices_9 dX5_givers_1 (ck_H hh) rfl rfl ?_
  refine z_astoren zh dX5_givers_4 (by decide) (L' := [some (rf g h), some (.int a1), some (rf g (h + 17)), none, none]) rfl ?_
  refine z_iconst zh dX5_givers_5 ki_0 ?_
  refine z_istoren zh dX5_givers_6 (by decide) (L' := [some (rf g h), some (.int a1), some (rf g (h + 17)), some (.int (nI 0)), none]) rfl ?_
  refine z_iconst zh dX5_givers_7 ki_0 ?_
  refine z_istore zh dX5_givers_8 (by decide) (L' := [some (rf g h), some (.int a1), some (rf g (h + 17)), some (.int (nI 0)), some (.int (nI 0))]) rfl ?_
  have J10 : ∀ (n : Nat) (x1 : Int32) (x2 : Int32), Ra 0 60 x2 → 60 - x2.toInt < (n : Int) → Z 10 [some (rf g h), some (.int a1), some (rf g (h + 17)), some (.int x1), some (.int x2)] [] iv lv := by
    intro n
    induction n with
    | zero => intro x1 x2 hx2 hn10; exact (ms_uz hx2 hn10).elim
    | succ n ih10 =>
      intro x1 x2 hx2 hn10
      refine z_iload zh dX5_givers_10 rfl ?_
      refine z_aloadnR zh dX5_givers_12 rfl ?_
      obtain ⟨x3, ex3⟩ : ∃ z, iv (h + 17) 2 = z := ⟨_, rfl⟩
      have hx3 : Ra 0 60 x3 := ra_of ex3 (si_T hG (isT_n hh))
      refine z_callVIp zh mv_Notices_15 dX5_givers_13 (ck_T (isT_n hh)) rfl (s_X7_size g (isT_n hh) ex3) ⟨Nat.le_of_ble_eq_true rfl, Nat.le_of_ble_eq_true rfl⟩ rfl rfl (Nat.le_of_ble_eq_true rfl) ?_
      refine z_icmp_ge (tgt := 58) zh dX5_givers_16 rfl (fun q4 => ?_) (fun q4 => ?_)
      · refine z_iloadn zh dX5_givers_58 rfl ?_
        exact z_iret zh dX5_givers_59 ⟨_, rfl, rfl, rfl, trivial⟩
      · have r5 : Ra 0 59 x2 := rb_lt_l hx3 hx2 (rb_nle q4) (by decide)
        have r6 : Ra 1 60 x3 := rb_lt_r hx2 hx3 (rb_nle q4) (by decide)
        refine z_aloadnR zh dX5_givers_19 rfl ?_
        refine z_iload zh dX5_givers_20 rfl ?_
        refine z_iloadn zh dX5_givers_22 rfl ?_
        refine z_callVI zh mv_Notices_21 dX5_givers_23 (ck_H hh) rfl (s_X1_isOpenNotice g hh r5 ha1 hG) ⟨Nat.le_of_ble_eq_true rfl, Nat.le_of_ble_eq_true rfl⟩ rfl rfl (Nat.le_of_ble_eq_true rfl) ?_
        rintro x7 _ _ ⟨rfl, rfl, hx7⟩
        have J52 : ∀ (x8 : Int32), Z 52 [some (rf g h), some (.int a1), some (rf g (h + 17)), some (.int x8), some (.int x2)] [] iv lv := by
          intro x8
          refine y_iinc (L' := fun z => [some (rf g h), some (.int a1), some (rf g (h + 17)), some (.int x8), some (.int z)]) zh dX5_givers_52 (by decide) rfl (by decide +kernel) r5 (u := 1) (v := 60) rfl rfl (by decide) (by decide) (fun _ => rfl) (fun x9 hc9 hx9 => ?_)
          refine z_goto (tgt := 10) zh dX5_givers_55 rfl ?_
          exact ih10 x8 x9 (ra_w hx9 (by decide) (by decide)) (ms_up hc9 (by decide) hn10)
        refine z_if_eq (tgt := 52) zh dX5_givers_26 rfl (fun q10 => ?_) (fun q10 => ?_)
        · have r11 := rb_eq (u := 0) (v := 0) hx7 ra_z q10 (by decide) (by decide)
          exact J52 x1
        · have r12 : Ra 1 1 x7 := rb_ne_lo hx7 ra_z q10 (by decide)
          refine z_aloadnR zh dX5_givers_29 rfl ?_
          refine z_iconst zh dX5_givers_30 ki_5 ?_
          refine z_iload zh dX5_givers_31 rfl ?_
          refine z_callVI zh mv_Notices_25 dX5_givers_33 (ck_T (isT_n hh)) rfl (s_X7_get g (isT_n hh) ex3 hx3) ⟨Nat.le_of_ble_eq_true rfl, Nat.le_of_ble_eq_true rfl⟩ rfl rfl (Nat.le_of_ble_eq_true rfl) ?_
          rintro x13 _ _ ⟨rfl, rfl, gx13⟩
          refine z_iconst zh dX5_givers_36 ki_m1 ?_
          refine z_icmp_ne (tgt := 52) zh dX5_givers_37 rfl (fun q14 => ?_) (fun q14 => ?_)
          · exact J52 x1
          · have r15 := rb_eq (u := (-1)) (v := (-1)) (ra_tt x13) rl_n1 q14 (by decide) (by decide)
            refine z_iloadn zh dX5_givers_40 rfl ?_
            refine z_iconst zh dX5_givers_41 ki_1 ?_
            refine z_aloadnR zh dX5_givers_42 rfl ?_
            refine z_iconst zh dX5_givers_43 ki_0 ?_
            refine z_iload zh dX5_givers_44 rfl ?_
            refine z_callVI zh mv_Notices_25 dX5_givers_46 (ck_T (isT_n hh)) rfl (s_X7_get g (isT_n hh) ex3 hx3) ⟨Nat.le_of_ble_eq_true rfl, Nat.le_of_ble_eq_true rfl⟩ rfl rfl (Nat.le_of_ble_eq_true rfl) ?_
            rintro x16 _ _ ⟨rfl, rfl, gx16⟩
            have hx16 : Ra 0 11 x16 := get_in gx16 0 rfl (by decide) (by decide) ⟨Int.le_trans (by decide) r5.1, ltI.mp (rb_nle q4)⟩ (fun j => si_H hG hh 19 (by decide) rfl)
            refine y_ishlT zh dX5_givers_49 (fun x17 => ?_)
            refine y_iorT zh dX5_givers_50 (fun x18 => ?_)
            refine z_istoren zh dX5_givers_51 (by decide) (L' := [some (rf g h), some (.int a1), some (rf g (h + 17)), some (.int x18), some (.int x2)]) rfl ?_
            exact J52 x18
  exact J10 61 (nI 0) (nI 0) (ra_w rl_0 (by decide) (by decide)) (ms_u0 rl_0 (by decide))
set_option maxRecDepth 20000 in
theorem s_X2_form (g : GE) {sp : Nat → Nat → Bool} {σ : Iv} {iv : Iv} {lv : Lv} {h : Nat} {h2 : Nat} {a1 : Int32} (hh : isH h) (hh2 : isH h2) (ha1 : Ra 0 5 a1) (hG : SI sp σ iv)  : ConV g yX2_form cX2_form 7 none 4 [rf g (h + 54), rf g h2, .int a1] iv lv (fun iv lv => SI sp σ iv) := by
  refine con_intro (own := "RollingNets$Line") (by decide +kernel) rfl (Nat.le_of_ble_eq_true rfl) (L0 := [some (rf g (h + 54)), some (rf g h2), some (.int a1), none, none, none, none]) rfl (fun Z zh => ?_)
  refine z_aloadnR zh dX2_form_0 rfl ?_
  refine z_iconst zh dX2_form_1 ki_0 ?_
  refine z_putI zh fl_Line_18 dX2_form_2 (ck_line hh) rfl rfl (Nat.le_of_ble_eq_true rfl) (Or.inl rfl) ?_
  have hG : SI sp σ (upI iv (h + 54) 2 (nI 0)) := si_wH hG hh 54 (by decide) rfl (rx_some (ra_w rl_0 (by decide) (by decide)))
  have em1 : upI iv (h + 54) 2 (nI 0) (h + 54) 2 = nI 0 := by rw [upI_at, if_pos ⟨rfl, rfl⟩]
  generalize upI iv (h + 54) 2 (nI 0) = iv at hG em1 ⊢
  refine z_aloadnR zh dX2_form_5 rfl ?_
  refine z_aloadnR zh dX2_form_6 rfl ?_
  refine z_callVV zh mv_Line_25 dX2_form_7 (ck_line hh) rfl (s_X2_sortByRank g hh hh2 hG) ⟨Nat.le_of_ble_eq_true rfl, Nat.le_of_ble_eq_true rfl⟩ rfl rfl (Nat.le_of_ble_eq_true rfl) ?_
  rintro iv lv hG
  refine z_aloadnR zh dX2_form_10 rfl ?_
  refine z_getf zh fl_Line_29 dX2_form_11 (ck_H hh2) rfl rfl ?_
  refine z_iloadn zh dX2_form_14 rfl ?_
  refine y_mald zh (ck_markets hh2) dX2_form_15 ha1 (by decide) (by decide) (fun j2 hj2 _ _ => ?_)
  refine z_astoren zh dX2_form_16 (by decide) (L' := [some (rf g (h + 54)), some (rf g h2), some (.int a1), some (rf g (h2 + 60 + 20 * j2)), none, none, none]) rfl ?_
  refine z_iconst zh dX2_form_17 ki_1 ?_
  refine z_aloadnR zh dX2_form_18 rfl ?_
  refine z_callVI zh mv_Line_35 dX2_form_19 (ck_H hh2) rfl (s_X1_members g hh2 hG) ⟨Nat.le_of_ble_eq_true rfl, Nat.le_of_ble_eq_true rfl⟩ rfl rfl (Nat.le_of_ble_eq_true rfl) ?_
  rintro x3 _ _ ⟨rfl, rfl, hx3⟩
  refine y_ishlT zh dX2_form_22 (fun x4 => ?_)
  refine z_iconst zh dX2_form_23 ki_1 ?_
  refine y_isubT zh dX2_form_24 (fun x5 => ?_)
  refine z_istore zh dX2_form_25 (by decide) (L' := [some (rf g (h + 54)), some (rf g h2), some (.int a1), some (rf g (h2 + 60 + 20 * j2)), some (.int x5), none, none]) rfl ?_
  refine z_aloadnR zh dX2_form_27 rfl ?_
  refine z_callSI zh ms_Line_39 dX2_form_28 (s_X0_suspendedSet g hh2 hG) ⟨Nat.le_of_ble_eq_true rfl, Nat.le_of_ble_eq_true rfl⟩ rfl rfl (Nat.le_of_ble_eq_true rfl) ?_
  rintro x6 _ _ ⟨rfl, rfl, _⟩
  refine z_istore zh dX2_form_31 (by decide) (L' := [some (rf g (h + 54)), some (rf g h2), some (.int a1), some (rf g (h2 + 60 + 20 * j2)), some (.int x5), some (.int x6), none]) rfl ?_
  refine z_aloadnR zh dX2_form_33 rfl ?_
  refine z_iloadn zh dX2_form_34 rfl ?_
  refine z_callSI zh ms_Line_45 dX2_form_35 (s_X5_givers g hh2 ha1 hG) ⟨Nat.le_of_ble_eq_true rfl, Nat.le_of_ble_eq_true rfl⟩ rfl rfl (Nat.le_of_ble_eq_true rfl) ?_
  rintro x7 _ _ ⟨rfl, rfl, _⟩
  refine z_istore zh dX2_form_38 (by decide) (L' := [some (rf g (h + 54)), some (rf g h2), some (.int a1), some (rf g (h2 + 60 + 20 * j2)), some (.int x5), some (.int x6), some (.int x7)]) rfl ?_
  refine z_aloadnR zh dX2_form_40 rfl ?_
  refine z_aloadnR zh dX2_form_41 rfl ?_
  refine z_iload zh dX2_form_42 rfl ?_
  refine z_iload zh dX2_form_44 rfl ?_
  refine z_iconst zh dX2_form_46 ki_m1 ?_
  refine y_ixorT zh dX2_form_47 (fun x8 => ?_)
  refine y_iandT zh dX2_form_48 (fun x9 => ?_)
  refine z_iload zh dX2_form_49 rfl ?_
  refine y_iandT zh dX2_form_51 (fun x10 => ?_)
  refine z_callVV zh mv_Line_51 dX2_form_52 (ck_line hh) rfl (s_X2_addGroup g hh (isM_of hh2 hj2) hG) ⟨Nat.le_of_ble_eq_true rfl, Nat.le_of_ble_eq_true rfl⟩ rfl rfl (Nat.le_of_ble_eq_true rfl) ?_
  rintro iv lv hG
  refine z_aloadnR zh dX2_form_55 rfl ?_
  refine z_aloadnR zh dX2_form_56 rfl ?_
  refine z_iload zh dX2_form_57 rfl ?_
  refine z_iload zh dX2_form_59 rfl ?_
  refine z_iconst zh dX2_form_61 ki_m1 ?_
  refine y_ixorT zh dX2_form_62 (fun x11 => ?_)
  refine y_iandT zh dX2_form_63 (fun x12 => ?_)
  refine z_iload zh dX2_form_64 rfl ?_
  refine z_iconst zh dX2_form_66 ki_m1 ?_
  refine y_ixorT zh dX2_form_67 (fun x13 => ?_)
  refine y_iandT zh dX2_form_68 (fun x14 => ?_)
  refine z_callVV zh mv_Line_51 dX2_form_69 (ck_line hh) rfl (s_X2_addGroup g hh (isM_of hh2 hj2) hG) ⟨Nat.le_of_ble_eq_true rfl, Nat.le_of_ble_eq_true rfl⟩ rfl rfl (Nat.le_of_ble_eq_true rfl) ?_
  rintro iv lv hG
  refine z_aloadnR zh dX2_form_72 rfl ?_
  refine z_aloadnR zh dX2_form_73 rfl ?_
  refine z_iload zh dX2_form_74 rfl ?_
  refine z_iload zh dX2_form_76 rfl ?_
  refine y_iandT zh dX2_form_78 (fun x15 => ?_)
  refine z_callVV zh mv_Line_51 dX2_form_79 (ck_line hh) rfl (s_X2_addGroup g hh (isM_of hh2 hj2) hG) ⟨Nat.le_of_ble_eq_true rfl, Nat.le_of_ble_eq_true rfl⟩ rfl rfl (Nat.le_of_ble_eq_true rfl) ?_
  rintro iv lv hG
  refine z_aloadnR zh dX2_form_82 rfl ?_
  refine z_aloadnR zh dX2_form_83 rfl ?_
  refine z_iload zh dX2_form_84 rfl ?_
  refine z_iload zh dX2_form_86 rfl ?_
  refine z_iconst zh dX2_form_88 ki_m1 ?_
  refine y_ixorT zh dX2_form_89 (fun x16 => ?_)
  refine y_iandT zh dX2_form_90 (fun x17 => ?_)
  refine z_callVV zh mv_Line_51 dX2_form_91 (ck_line hh) rfl (s_X2_addGroup g hh (isM_of hh2 hj2) hG) ⟨Nat.le_of_ble_eq_true rfl, Nat.le_of_ble_eq_true rfl⟩ rfl rfl (Nat.le_of_ble_eq_true rfl) ?_
  rintro iv lv hG
  exact z_vret zh dX2_form_94 ⟨rfl, hG⟩
set_option maxRecDepth 20000 in
theorem s_X0_aheadOf (g : GE) {sp : Nat → Nat → Bool} {σ : Iv} {iv : Iv} {lv : Lv} {h : Nat} {a1 : Int32} {a2 : Int32} (hh : isH h) (ha1 : Ra 0 11 a1) (ha2 : Ra 0 5 a2) (hG : SI sp σ iv)  : ConI g yX0_aheadOf cX0_aheadOf 6 (some .int) 5 [rf g h, .int a1, .int a2] iv lv (fun r iv lv => SI sp σ iv ∧ True) := by
  refine con_intro (own := "RollingNets$Figures") (by decide +kernel) rfl (Nat.le_of_ble_eq_true rfl) (L0 := [some (rf g h), some (.int a1), some (.int a2), none, none, none]) rfl (fun Z zh => ?_)
  refine z_aloadnR zh dX0_aheadOf_0 rfl ?_
  refine z_getf zh fl_Figures_127 dX0_aheadOf_1 (ck_H hh) rfl rfl ?_
  refine z_astoren zh dX0_aheadOf_4 (by decide) (L' := [some (rf g h), some (.int a1), some (.int a2), some (rf g (h + 54)), none, none]) rfl ?_
  refine z_aloadnR zh dX0_aheadOf_5 rfl ?_
  refine z_aloadnR zh dX0_aheadOf_6 rfl ?_
  refine z_iloadn zh dX0_aheadOf_7 rfl ?_
  refine z_callVV zh mv_Figures_131 dX0_aheadOf_8 (ck_line hh) rfl (s_X2_form g hh hh ha2 hG) ⟨Nat.le_of_ble_eq_true rfl, Nat.le_of_ble_eq_true rfl⟩ rfl rfl (Nat.le_of_ble_eq_true rfl) ?_
  rintro iv lv hG
  refine z_iconst zh dX0_aheadOf_11 ki_0 ?_
  refine z_istore zh dX0_aheadOf_12 (by decide) (L' := [some (rf g h), some (.int a1), some (.int a2), some (rf g (h + 54)), some (.int (nI 0)), none]) rfl ?_
  refine z_iconst zh dX0_aheadOf_14 ki_0 ?_
  refine z_istore zh dX0_aheadOf_15 (by decide) (L' := [some (rf g h), some (.int a1), some (.int a2), some (rf g (h + 54)), some (.int (nI 0)), some (.int (nI 0))]) rfl ?_
  have J17 : ∀ (n : Nat) (iv : Iv) (lv : Lv) (x1 : Int32) (x2 : Int32), SI sp σ iv → Ra 0 1200 x2 → 1200 - x2.toInt < (n : Int) → Z 17 [some (rf g h), some (.int a1), some (.int a2), some (rf g (h + 54)), some (.int x1), some (.int x2)] [] iv lv := by
    intro n
    induction n with
    | zero => intro iv lv x1 x2 hG hx2 hn17; exact (ms_uz hx2 hn17).elim
    | succ n ih17 =>
      intro iv lv x1 x2 hG hx2 hn17
      refine z_iload zh dX0_aheadOf_17 rfl ?_
      refine z_aloadnR zh dX0_aheadOf_19 rfl ?_
      refine y_getI zh fl_Figures_137 dX0_aheadOf_20 (ck_line hh) rfl rfl (fun x3 ex3 => ?_)
      have hx3 : Ra 0 1200 x3 := ra_of ex3 (si_H hG hh 54 (by decide) rfl)
      refine z_icmp_ge (tgt := 73) zh dX0_aheadOf_23 rfl (fun q4 => ?_) (fun q4 => ?_)
      · refine z_iload zh dX0_aheadOf_73 rfl ?_
        exact z_iret zh dX0_aheadOf_75 ⟨_, rfl, hG, trivial⟩
      · have r5 : Ra 0 1199 x2 := rb_lt_l hx3 hx2 (rb_nle q4) (by decide)
        have r6 : Ra 1 1200 x3 := rb_lt_r hx2 hx3 (rb_nle q4) (by decide)
        refine z_aloadnR zh dX0_aheadOf_26 rfl ?_
        refine z_getf zh fl_Figures_139 dX0_aheadOf_27 (ck_line hh) rfl rfl ?_
        refine z_iload zh dX0_aheadOf_30 rfl ?_
        refine y_iald zh (ck_lineM hh) dX0_aheadOf_32 r5 (by decide) (by decide) (fun x7 ex7 => ?_)
        have hx7 : Ra 0 11 x7 := ra_of ex7 (si_H hG hh 55 (by decide) rfl)
        refine z_iloadn zh dX0_aheadOf_33 rfl ?_
        refine z_icmp_eq (tgt := 73) zh dX0_aheadOf_34 rfl (fun q8 => ?_) (fun q8 => ?_)
        · refine z_iload zh dX0_aheadOf_73 rfl ?_
          exact z_iret zh dX0_aheadOf_75 ⟨_, rfl, hG, trivial⟩
        · refine z_iload zh dX0_aheadOf_37 rfl ?_
          refine z_aloadnR zh dX0_aheadOf_39 rfl ?_
          refine z_getf zh fl_Figures_9 dX0_aheadOf_40 (ck_H hh) rfl rfl ?_
          refine z_iloadn zh dX0_aheadOf_43 rfl ?_
          refine y_mald zh (ck_markets hh) dX0_aheadOf_44 ha2 (by decide) (by decide) (fun j10 hj10 _ _ => ?_)
          refine z_getf zh fl_Figures_86 dX0_aheadOf_45 (ck_M (isM_of hh hj10)) rfl rfl ?_
          refine z_aloadnR zh dX0_aheadOf_48 rfl ?_
          refine z_getf zh fl_Figures_139 dX0_aheadOf_49 (ck_line hh) rfl rfl ?_
          refine z_iload zh dX0_aheadOf_52 rfl ?_
          refine y_iald zh (ck_lineM hh) dX0_aheadOf_54 r5 (by decide) (by decide) (fun x11 ex11 => ?_)
          have hx11 : Ra 0 11 x11 := ra_of ex11 (si_H hG hh 55 (by decide) rfl)
          refine y_gald zh (ck_lots (isM_of hh hj10)) dX0_aheadOf_55 hx11 (by decide) (by decide) (fun j12 hj12 _ _ => ?_)
          refine z_aloadnR zh dX0_aheadOf_56 rfl ?_
          refine z_getf zh fl_Figures_142 dX0_aheadOf_57 (ck_line hh) rfl rfl ?_
          refine z_iload zh dX0_aheadOf_60 rfl ?_
          refine y_iald zh (ck_lineD hh) dX0_aheadOf_62 r5 (by decide) (by decide) (fun x13 ex13 => ?_)
          have hx13 : Ra 0 99 x13 := ra_of ex13 (si_H hG hh 56 (by decide) rfl)
          refine y_iald zh (ck_row (isM_of hh hj10) hj12) dX0_aheadOf_63 hx13 (by decide) (by decide) (fun x14 ex14 => ?_)
          refine y_iaddT zh dX0_aheadOf_64 (fun x15 => ?_)
          refine z_istore zh dX0_aheadOf_65 (by decide) (L' := [some (rf g h), some (.int a1), some (.int a2), some (rf g (h + 54)), some (.int x15), some (.int x2)]) rfl ?_
          refine y_iinc (L' := fun z => [some (rf g h), some (.int a1), some (.int a2), some (rf g (h + 54)), some (.int x15), some (.int z)]) zh dX0_aheadOf_67 (by decide) rfl (by decide +kernel) r5 (u := 1) (v := 1200) rfl rfl (by decide) (by decide) (fun _ => rfl) (fun x16 hc16 hx16 => ?_)
          refine z_goto (tgt := 17) zh dX0_aheadOf_70 rfl ?_
          exact ih17 iv lv x15 x16 hG (ra_w hx16 (by decide) (by decide)) (ms_up hc16 (by decide) hn17)
  exact J17 1201 iv lv (nI 0) (nI 0) hG (ra_w rl_0 (by decide) (by decide)) (ms_u0 rl_0 (by decide))
set_option maxRecDepth 20000 in
theorem s_X0_allCash (g : GE) {sp : Nat → Nat → Bool} {σ : Iv} {iv : Iv} {lv : Lv} {h : Nat} (hh : isH h) (hG : SI sp σ iv)  : ConL g yX0_allCash cX0_allCash 4 (some .long) 1 [rf g h] iv lv (fun r iv' lv' => iv = iv' ∧ lv = lv' ∧ True) := by
  refine con_intro (own := "RollingNets$Figures") (by decide +kernel) rfl (Nat.le_of_ble_eq_true rfl) (L0 := [some (rf g h), none, none, none]) rfl (fun Z zh => ?_)
  refine z_lconst (v := 0) zh dX0_allCash_0 (by decide) ?_
  refine z_lstoren zh dX0_allCash_1 (by decide) (L' := [some (rf g h), some (.long (0 : Int64)), none, none]) rfl ?_
  refine z_iconst zh dX0_allCash_2 ki_0 ?_
  refine z_istoren zh dX0_allCash_3 (by decide) (L' := [some (rf g h), some (.long (0 : Int64)), none, some (.int (nI 0))]) rfl ?_
  have J4 : ∀ (n : Nat) (l1 : Int64) (x2 : Int32), Ra 0 12 x2 → 12 - x2.toInt < (n : Int) → Z 4 [some (rf g h), some (.long l1), none, some (.int x2)] [] iv lv := by
    intro n
    induction n with
    | zero => intro l1 x2 hx2 hn4; exact (ms_uz hx2 hn4).elim
    | succ n ih4 =>
      intro l1 x2 hx2 hn4
      refine z_iloadn zh dX0_allCash_4 rfl ?_
      refine z_bipush zh dX0_allCash_5 kb_12 ?_
      refine z_icmp_ge (tgt := 25) zh dX0_allCash_7 rfl (fun q3 => ?_) (fun q3 => ?_)
      · have r4 : Ra 12 12 x2 := rb_le_r rl_12 hx2 q3 (by decide)
        refine z_lloadn zh dX0_allCash_25 rfl ?_
        exact z_lret zh dX0_allCash_26 ⟨_, rfl, rfl, rfl, trivial⟩
      · have r5 : Ra 0 11 x2 := rb_lt_l rl_12 hx2 (rb_nle q3) (by decide)
        refine z_lloadn zh dX0_allCash_10 rfl ?_
        refine z_aloadnR zh dX0_allCash_11 rfl ?_
        refine z_getf zh fl_Figures_76 dX0_allCash_12 (ck_H hh) rfl rfl ?_
        refine z_iloadn zh dX0_allCash_15 rfl ?_
        refine y_lald zh (ck_cash hh) dX0_allCash_16 r5 (by decide) (by decide) (fun l6 => ?_)
        refine y_ladd zh dX0_allCash_17 (fun l7 => ?_)
        refine z_lstoren zh dX0_allCash_18 (by decide) (L' := [some (rf g h), some (.long l7), none, some (.int x2)]) rfl ?_
        refine y_iinc (L' := fun z => [some (rf g h), some (.long l7), none, some (.int z)]) zh dX0_allCash_19 (by decide) rfl (by decide +kernel) r5 (u := 1) (v := 12) rfl rfl (by decide) (by decide) (fun _ => rfl) (fun x8 hc8 hx8 => ?_)
        refine z_goto (tgt := 4) zh dX0_allCash_22 rfl ?_
        exact ih4 l7 x8 (ra_w hx8 (by decide) (by decide)) (ms_up hc8 (by decide) hn4)
  exact J4 13 (0 : Int64) (nI 0) (ra_w rl_0 (by decide) (by decide)) (ms_u0 rl_0 (by decide))
set_option maxRecDepth 20000 in
theorem s_X0_booked (g : GE) {sp : Nat → Nat → Bool} {σ : Iv} {iv : Iv} {lv : Lv} {t ct rt : Nat} {a1 : Int32} {a2 : Int32} {a3 : Int32} (ht : isT t ct rt) (ha1 : Ra 0 11 a1) (ha2 : Ra 0 4 a2) (ha3 : Ra 3 4 a3) (hG : SI sp σ iv)  : ConI g yX0_booked cX0_booked 6 (some .int) 2 [rf g t, .int a1, .int a2, .int a3] iv lv (fun r iv' lv' => iv = iv' ∧ lv = lv' ∧ True) := by
  refine con_intro (own := "RollingNets$Figures") (by decide +kernel) rfl (Nat.le_of_ble_eq_true rfl) (L0 := [some (rf g t), some (.int a1), some (.int a2), some (.int a3), none, none]) rfl (fun Z zh => ?_)
  refine z_iconst zh dX0_booked_0 ki_0 ?_
  refine z_istore zh dX0_booked_1 (by decide) (L' := [some (rf g t), some (.int a1), some (.int a2), some (.int a3), some (.int (nI 0)), none]) rfl ?_
  refine z_iconst zh dX0_booked_3 ki_0 ?_
  refine z_istore zh dX0_booked_4 (by decide) (L' := [some (rf g t), some (.int a1), some (.int a2), some (.int a3), some (.int (nI 0)), some (.int (nI 0))]) rfl ?_
  have J6 : ∀ (n : Nat) (x1 : Int32) (x2 : Int32), Ra 0 2147483647 x2 → 2147483647 - x2.toInt < (n : Int) → Z 6 [some (rf g t), some (.int a1), some (.int a2), some (.int a3), some (.int x1), some (.int x2)] [] iv lv := by
    intro n
    induction n with
    | zero => intro x1 x2 hx2 hn6; exact (ms_uz hx2 hn6).elim
    | succ n ih6 =>
      intro x1 x2 hx2 hn6
      refine z_iload zh dX0_booked_6 rfl ?_
      refine z_aloadnR zh dX0_booked_8 rfl ?_
      obtain ⟨x3, ex3⟩ : ∃ z, iv t 2 = z := ⟨_, rfl⟩
      have hx3 : Ra 0 rt x3 := ra_of ex3 (si_T hG ht)
      refine z_callVIp zh mv_Figures_65 dX0_booked_9 (ck_T ht) rfl (s_X7_size g ht ex3) ⟨Nat.le_of_ble_eq_true rfl, Nat.le_of_ble_eq_true rfl⟩ rfl rfl (Nat.le_of_ble_eq_true rfl) ?_
      refine z_icmp_ge (tgt := 55) zh dX0_booked_12 rfl (fun q4 => ?_) (fun q4 => ?_)
      · refine z_iload zh dX0_booked_55 rfl ?_
        exact z_iret zh dX0_booked_57 ⟨_, rfl, rfl, rfl, trivial⟩
      · have r5 : Ra 0 2147483646 x2 := rb_lt_l (ra_tt x3) hx2 (rb_nle q4) (by decide)
        have r6 : Ra 1 2147483647 x3 := rb_lt_r hx2 (ra_tt x3) (rb_nle q4) (by decide)
        refine z_aloadnR zh dX0_booked_15 rfl ?_
        refine z_iconst zh dX0_booked_16 ki_1 ?_
        refine z_iload zh dX0_booked_17 rfl ?_
        refine z_callVI zh mv_Figures_70 dX0_booked_19 (ck_T ht) rfl (s_X7_get g ht ex3 hx3) ⟨Nat.le_of_ble_eq_true rfl, Nat.le_of_ble_eq_true rfl⟩ rfl rfl (Nat.le_of_ble_eq_true rfl) ?_
        rintro x7 _ _ ⟨rfl, rfl, gx7⟩
        refine z_iloadn zh dX0_booked_22 rfl ?_
        have J49 : ∀ (x8 : Int32), Z 49 [some (rf g t), some (.int a1), some (.int a2), some (.int a3), some (.int x8), some (.int x2)] [] iv lv := by
          intro x8
          refine y_iinc (L' := fun z => [some (rf g t), some (.int a1), some (.int a2), some (.int a3), some (.int x8), some (.int z)]) zh dX0_booked_49 (by decide) rfl (by decide +kernel) r5 (u := 1) (v := 2147483647) rfl rfl (by decide) (by decide) (fun _ => rfl) (fun x9 hc9 hx9 => ?_)
          refine z_goto (tgt := 6) zh dX0_booked_52 rfl ?_
          exact ih6 x8 x9 (ra_w hx9 (by decide) (by decide)) (ms_up hc9 (by decide) hn6)
        refine z_icmp_ne (tgt := 49) zh dX0_booked_23 rfl (fun q10 => ?_) (fun q10 => ?_)
        · exact J49 x1
        · have r11 := rb_eq (u := 0) (v := 4) (ra_tt x7) ha2 q10 (by decide) (by decide)
          refine z_aloadnR zh dX0_booked_26 rfl ?_
          refine z_iloadn zh dX0_booked_27 rfl ?_
          refine z_iload zh dX0_booked_28 rfl ?_
          refine z_callVI zh mv_Figures_70 dX0_booked_30 (ck_T ht) rfl (s_X7_get g ht ex3 hx3) ⟨Nat.le_of_ble_eq_true rfl, Nat.le_of_ble_eq_true rfl⟩ rfl rfl (Nat.le_of_ble_eq_true rfl) ?_
          rintro x12 _ _ ⟨rfl, rfl, gx12⟩
          refine z_iloadn zh dX0_booked_33 rfl ?_
          refine z_icmp_ne (tgt := 49) zh dX0_booked_34 rfl (fun q13 => ?_) (fun q13 => ?_)
          · exact J49 x1
          · have r14 := rb_eq (u := 0) (v := 11) (ra_tt x12) ha1 q13 (by decide) (by decide)
            refine z_iload zh dX0_booked_37 rfl ?_
            refine z_aloadnR zh dX0_booked_39 rfl ?_
            refine z_iconst zh dX0_booked_40 ki_5 ?_
            refine z_iload zh dX0_booked_41 rfl ?_
            refine z_callVI zh mv_Figures_70 dX0_booked_43 (ck_T ht) rfl (s_X7_get g ht ex3 hx3) ⟨Nat.le_of_ble_eq_true rfl, Nat.le_of_ble_eq_true rfl⟩ rfl rfl (Nat.le_of_ble_eq_true rfl) ?_
            rintro x15 _ _ ⟨rfl, rfl, gx15⟩
            refine y_iaddT zh dX0_booked_46 (fun x16 => ?_)
            refine z_istore zh dX0_booked_47 (by decide) (L' := [some (rf g t), some (.int a1), some (.int a2), some (.int a3), some (.int x16), some (.int x2)]) rfl ?_
            exact J49 x16
  exact J6 2147483648 (nI 0) (nI 0) (ra_w rl_0 (by decide) (by decide)) (ms_u0 rl_0 (by decide))
set_option maxRecDepth 20000 in
theorem s_X0_countDeals (g : GE) {sp : Nat → Nat → Bool} {σ : Iv} {iv : Iv} {lv : Lv} {h : Nat} {a1 : Int32} (hh : isH h) (ha1 : Ra 0 5 a1) (hG : SI sp σ iv)  : ConI g yX0_countDeals cX0_countDeals 4 (some .int) 2 [rf g h, .int a1] iv lv (fun r iv' lv' => iv = iv' ∧ lv = lv' ∧ True) := by
  refine con_intro (own := "RollingNets$Figures") (by decide +kernel) rfl (Nat.le_of_ble_eq_true rfl) (L0 := [some (rf g h), some (.int a1), none, none]) rfl (fun Z zh => ?_)
  refine z_iconst zh dX0_countDeals_0 ki_0 ?_
  refine z_istoren zh dX0_countDeals_1 (by decide) (L' := [some (rf g h), some (.int a1), some (.int (nI 0)), none]) rfl ?_
  refine z_iconst zh dX0_countDeals_2 ki_0 ?_
  refine z_istoren zh dX0_countDeals_3 (by decide) (L' := [some (rf g h), some (.int a1), some (.int (nI 0)), some (.int (nI 0))]) rfl ?_
  have J4 : ∀ (n : Nat) (x1 : Int32) (x2 : Int32), Ra 0 200 x2 → 200 - x2.toInt < (n : Int) → Z 4 [some (rf g h), some (.int a1), some (.int x1), some (.int x2)] [] iv lv := by
    intro n
    induction n with
    | zero => intro x1 x2 hx2 hn4; exact (ms_uz hx2 hn4).elim
    | succ n ih4 =>
      intro x1 x2 hx2 hn4
      refine z_iloadn zh dX0_countDeals_4 rfl ?_
      refine z_aloadnR zh dX0_countDeals_5 rfl ?_
      refine z_getf zh fl_Figures_61 dX0_countDeals_6 (ck_H hh) rfl rfl ?_
      obtain ⟨x3, ex3⟩ : ∃ z, iv (h + 7) 2 = z := ⟨_, rfl⟩
      have hx3 : Ra 0 200 x3 := ra_of ex3 (si_T hG (isT_d hh))
      refine z_callVIp zh mv_Figures_65 dX0_countDeals_9 (ck_T (isT_d hh)) rfl (s_X7_size g (isT_d hh) ex3) ⟨Nat.le_of_ble_eq_true rfl, Nat.le_of_ble_eq_true rfl⟩ rfl rfl (Nat.le_of_ble_eq_true rfl) ?_
      refine z_icmp_ge (tgt := 37) zh dX0_countDeals_12 rfl (fun q4 => ?_) (fun q4 => ?_)
      · refine z_iloadn zh dX0_countDeals_37 rfl ?_
        exact z_iret zh dX0_countDeals_38 ⟨_, rfl, rfl, rfl, trivial⟩
      · have r5 : Ra 0 199 x2 := rb_lt_l hx3 hx2 (rb_nle q4) (by decide)
        have r6 : Ra 1 200 x3 := rb_lt_r hx2 hx3 (rb_nle q4) (by decide)
        refine z_aloadnR zh dX0_countDeals_15 rfl ?_
        refine z_getf zh fl_Figures_61 dX0_countDeals_16 (ck_H hh) rfl rfl ?_
        refine z_iconst zh dX0_countDeals_19 ki_2 ?_
        refine z_iloadn zh dX0_countDeals_20 rfl ?_
        refine z_callVI zh mv_Figures_70 dX0_countDeals_21 (ck_T (isT_d hh)) rfl (s_X7_get g (isT_d hh) ex3 hx3) ⟨Nat.le_of_ble_eq_true rfl, Nat.le_of_ble_eq_true rfl⟩ rfl rfl (Nat.le_of_ble_eq_true rfl) ?_
        rintro x7 _ _ ⟨rfl, rfl, gx7⟩
        refine z_iloadn zh dX0_countDeals_24 rfl ?_
        have J31 : ∀ (x8 : Int32), Z 31 [some (rf g h), some (.int a1), some (.int x8), some (.int x2)] [] iv lv := by
          intro x8
          refine y_iinc (L' := fun z => [some (rf g h), some (.int a1), some (.int x8), some (.int z)]) zh dX0_countDeals_31 (by decide) rfl (by decide +kernel) r5 (u := 1) (v := 200) rfl rfl (by decide) (by decide) (fun _ => rfl) (fun x9 hc9 hx9 => ?_)
          refine z_goto (tgt := 4) zh dX0_countDeals_34 rfl ?_
          exact ih4 x8 x9 (ra_w hx9 (by decide) (by decide)) (ms_up hc9 (by decide) hn4)
        refine z_icmp_ne (tgt := 31) zh dX0_countDeals_25 rfl (fun q10 => ?_) (fun q10 => ?_)
        · exact J31 x1
        · have r11 := rb_eq (u := 0) (v := 5) (ra_tt x7) ha1 q10 (by decide) (by decide)
          refine y_iincT (L' := fun z => [some (rf g h), some (.int a1), some (.int z), some (.int x2)]) zh dX0_countDeals_28 (by decide) rfl (fun _ => rfl) (fun x12 => ?_)
          exact J31 x12
  exact J4 201 (nI 0) (nI 0) (ra_w rl_0 (by decide) (by decide)) (ms_u0 rl_0 (by decide))
set_option maxRecDepth 20000 in
theorem s_X3_worth (g : GE) {sp : Nat → Nat → Bool} {σ : Iv} {iv : Iv} {lv : Lv} {m : Nat} {a1 : Int32} (hm : isM m) (hG : SI sp σ iv)  : ConL g yX3_worth cX3_worth 2 (some .long) 1 [rf g m, .int a1] iv lv (fun r iv' lv' => iv = iv' ∧ lv = lv' ∧ True) := by
  refine con_intro (own := "RollingNets$Market") (by decide +kernel) rfl (Nat.le_of_ble_eq_true rfl) (L0 := [some (rf g m), some (.int a1)]) rfl (fun Z zh => ?_)
  refine z_iloadn zh dX3_worth_0 rfl ?_
  refine y_i2l zh dX3_worth_1 (fun l1 => ?_)
  refine z_aloadnR zh dX3_worth_2 rfl ?_
  refine y_getI zh fl_Market_40 dX3_worth_3 (ck_M hm) rfl rfl (fun x2 ex2 => ?_)
  refine y_i2l zh dX3_worth_6 (fun l3 => ?_)
  refine y_lmul zh dX3_worth_7 (fun l4 => ?_)
  exact z_lret zh dX3_worth_8 ⟨_, rfl, rfl, rfl, trivial⟩
set_option maxRecDepth 20000 in
theorem s_X0_demand (g : GE) {sp : Nat → Nat → Bool} {σ : Iv} {iv : Iv} {lv : Lv} {h : Nat} {a1 : Int32} (hh : isH h) (ha1 : Ra 0 11 a1) (hG : SI sp σ iv)  : ConL g yX0_demand cX0_demand 10 (some .long) 2 [rf g h, .int a1] iv lv (fun r iv' lv' => iv = iv' ∧ lv = lv' ∧ True) := by
  refine con_intro (own := "RollingNets$Figures") (by decide +kernel) rfl (Nat.le_of_ble_eq_true rfl) (L0 := [some (rf g h), some (.int a1), none, none, none, none, none, none, none, none]) rfl (fun Z zh => ?_)
  refine z_lconst (v := 0) zh dX0_demand_0 (by decide) ?_
  refine z_lstoren zh dX0_demand_1 (by decide) (L' := [some (rf g h), some (.int a1), some (.long (0 : Int64)), none, none, none, none, none, none, none]) rfl ?_
  refine z_iconst zh dX0_demand_2 ki_0 ?_
  refine z_istore zh dX0_demand_3 (by decide) (L' := [some (rf g h), some (.int a1), some (.long (0 : Int64)), none, some (.int (nI 0)), none, none, none, none, none]) rfl ?_
  have J5 : ∀ (n : Nat) (l1 : Int64) (x2 : Int32), Ra 0 6 x2 → 6 - x2.toInt < (n : Int) → Z 5 [some (rf g h), some (.int a1), some (.long l1), none, some (.int x2), none, none, none, none, none] [] iv lv := by
    intro n
    induction n with
    | zero => intro l1 x2 hx2 hn5; exact (ms_uz hx2 hn5).elim
    | succ n ih5 =>
      intro l1 x2 hx2 hn5
      refine z_iload zh dX0_demand_5 rfl ?_
      refine z_bipush zh dX0_demand_7 kb_6 ?_
      refine z_icmp_ge (tgt := 111) zh dX0_demand_9 rfl (fun q3 => ?_) (fun q3 => ?_)
      · have r4 : Ra 6 6 x2 := rb_le_r rl_6 hx2 q3 (by decide)
        refine z_lloadn zh dX0_demand_111 rfl ?_
        exact z_lret zh dX0_demand_112 ⟨_, rfl, rfl, rfl, trivial⟩
      · have r5 : Ra 0 5 x2 := rb_lt_l rl_6 hx2 (rb_nle q3) (by decide)
        refine z_aloadnR zh dX0_demand_12 rfl ?_
        refine z_getf zh fl_Figures_9 dX0_demand_13 (ck_H hh) rfl rfl ?_
        refine z_iload zh dX0_demand_16 rfl ?_
        refine y_mald zh (ck_markets hh) dX0_demand_18 r5 (by decide) (by decide) (fun j6 hj6 _ _ => ?_)
        refine z_astore zh dX0_demand_19 (by decide) (L' := [some (rf g h), some (.int a1), some (.long l1), none, some (.int x2), some (rf g (h + 60 + 20 * j6)), none, none, none, none]) rfl ?_
        refine z_iconst zh dX0_demand_21 ki_0 ?_
        refine z_istore zh dX0_demand_22 (by decide) (L' := [some (rf g h), some (.int a1), some (.long l1), none, some (.int x2), some (rf g (h + 60 + 20 * j6)), some (.int (nI 0)), none, none, none]) rfl ?_
        have J24 : ∀ (n : Nat) (l7 : Int64) (x8 : Int32), Ra 0 100 x8 → 100 - x8.toInt < (n : Int) → Z 24 [some (rf g h), some (.int a1), some (.long l7), none, some (.int x2), some (rf g (h + 60 + 20 * j6)), some (.int x8), none, none, none] [] iv lv := by
          intro n
          induction n with
          | zero => intro l7 x8 hx8 hn24; exact (ms_uz hx8 hn24).elim
          | succ n ih24 =>
            intro l7 x8 hx8 hn24
            refine z_iload zh dX0_demand_24 rfl ?_
            refine z_aloadR zh dX0_demand_26 rfl ?_
            refine y_getI zh fl_Figures_83 dX0_demand_28 (ck_M (isM_of hh hj6)) rfl rfl (fun x9 ex9 => ?_)
            have hx9 : Ra 0 100 x9 := ra_of ex9 (si_M hG (isM_of hh hj6) 0 (by decide) rfl)
            refine z_icmp_ge (tgt := 105) zh dX0_demand_31 rfl (fun q10 => ?_) (fun q10 => ?_)
            · refine y_iinc (L' := fun z => [some (rf g h), some (.int a1), some (.long l7), none, some (.int z), some (rf g (h + 60 + 20 * j6)), some (.int x8), none, none, none]) zh dX0_demand_105 (by decide) rfl (by decide +kernel) r5 (u := 1) (v := 6) rfl rfl (by decide) (by decide) (fun _ => rfl) (fun x11 hc11 hx11 => ?_)
              refine z_goto (tgt := 5) zh dX0_demand_108 rfl ?_
              refine z_forget zh [true, true, true, false, true, false, false, false, false, false] (L2 := [some (rf g h), some (.int a1), some (.long l7), none, some (.int x11), none, none, none, none, none]) rfl ?_
              exact ih5 l7 x11 (ra_w hx11 (by decide) (by decide)) (ms_up hc11 (by decide) hn5)
            · have r12 : Ra 0 99 x8 := rb_lt_l hx9 hx8 (rb_nle q10) (by decide)
              have r13 : Ra 1 100 x9 := rb_lt_r hx8 hx9 (rb_nle q10) (by decide)
              refine z_aloadR zh dX0_demand_34 rfl ?_
              refine z_getf zh fl_Figures_86 dX0_demand_36 (ck_M (isM_of hh hj6)) rfl rfl ?_
              refine z_iloadn zh dX0_demand_39 rfl ?_
              refine y_gald zh (ck_lots (isM_of hh hj6)) dX0_demand_40 ha1 (by decide) (by decide) (fun j14 hj14 _ _ => ?_)
              refine z_iload zh dX0_demand_41 rfl ?_
              refine y_iald zh (ck_row (isM_of hh hj6) hj14) dX0_demand_43 r12 (by decide) (by decide) (fun x15 ex15 => ?_)
              refine z_istore zh dX0_demand_44 (by decide) (L' := [some (rf g h), some (.int a1), some (.long l7), none, some (.int x2), some (rf g (h + 60 + 20 * j6)), some (.int x8), some (.int x15), none, none]) rfl ?_
              refine z_iload zh dX0_demand_46 rfl ?_
              have J64 : ∀ (x16 : Int32), Ra (-495) 495 x16 → Z 64 [some (rf g h), some (.int a1), some (.long l7), none, some (.int x2), some (rf g (h + 60 + 20 * j6)), some (.int x8), some (.int x15), none, none] [.int x16] iv lv := by
                intro x16 hx16
                refine z_istore zh dX0_demand_64 (by decide) (L' := [some (rf g h), some (.int a1), some (.long l7), none, some (.int x2), some (rf g (h + 60 + 20 * j6)), some (.int x8), some (.int x15), some (.int x16), none]) rfl ?_
                refine z_bipush zh dX0_demand_66 kb_100 ?_
                refine z_bipush zh dX0_demand_68 kb_10 ?_
                refine z_iload zh dX0_demand_70 rfl ?_
                refine y_iadd zh dX0_demand_72 rl_10 hx16 (u := (-485)) (v := 505) rfl rfl (by decide) (by decide) (fun x17 hc17 hx17 => ?_)
                refine y_mmin zh ma_Figures_93 mc_min dX0_demand_73 ⟨Nat.le_of_ble_eq_true rfl, Nat.le_of_ble_eq_true rfl⟩ rl_100 hx17 (u := (-485)) (v := 100) (by decide) (by decide) (Or.inl (by decide)) (fun x18 hx18 => ?_)
                refine z_istore zh dX0_demand_76 (by decide) (L' := [some (rf g h), some (.int a1), some (.long l7), none, some (.int x2), some (rf g (h + 60 + 20 * j6)), some (.int x8), some (.int x15), some (.int x16), some (.int x18)]) rfl ?_
                refine z_lloadn zh dX0_demand_78 rfl ?_
                refine z_aloadR zh dX0_demand_79 rfl ?_
                refine z_iload zh dX0_demand_81 rfl ?_
                refine y_mabsT zh ma_Figures_98 mc_abs dX0_demand_83 ⟨Nat.le_of_ble_eq_true rfl, Nat.le_of_ble_eq_true rfl⟩ (fun x19 => ?_)
                refine z_callVL zh mv_Figures_101 dX0_demand_86 (ck_M (isM_of hh hj6)) rfl (s_X3_worth g (isM_of hh hj6) hG) ⟨Nat.le_of_ble_eq_true rfl, Nat.le_of_ble_eq_true rfl⟩ rfl rfl (Nat.le_of_ble_eq_true rfl) ?_
                rintro l20 _ _ ⟨rfl, rfl, _⟩
                refine z_iload zh dX0_demand_89 rfl ?_
                refine y_i2l zh dX0_demand_91 (fun l21 => ?_)
                refine y_lmul zh dX0_demand_92 (fun l22 => ?_)
                refine z_ldc2 zh dX0_demand_93 kl_Figures_105 ?_
                refine y_ldiv zh dX0_demand_96 (by decide) (fun l23 => ?_)
                refine y_ladd zh dX0_demand_97 (fun l24 => ?_)
                refine z_lstoren zh dX0_demand_98 (by decide) (L' := [some (rf g h), some (.int a1), some (.long l24), none, some (.int x2), some (rf g (h + 60 + 20 * j6)), some (.int x8), some (.int x15), some (.int x16), some (.int x18)]) rfl ?_
                refine y_iinc (L' := fun z => [some (rf g h), some (.int a1), some (.long l24), none, some (.int x2), some (rf g (h + 60 + 20 * j6)), some (.int z), some (.int x15), some (.int x16), some (.int x18)]) zh dX0_demand_99 (by decide) rfl (by decide +kernel) r12 (u := 1) (v := 100) rfl rfl (by decide) (by decide) (fun _ => rfl) (fun x25 hc25 hx25 => ?_)
                refine z_goto (tgt := 24) zh dX0_demand_102 rfl ?_
                refine z_forget zh [true, true, true, false, true, true, true, false, false, false] (L2 := [some (rf g h), some (.int a1), some (.long l24), none, some (.int x2), some (rf g (h + 60 + 20 * j6)), some (.int x25), none, none, none]) rfl ?_
                exact ih24 l24 x25 (ra_w hx25 (by decide) (by decide)) (ms_up hc25 (by decide) hn24)
              refine z_if_ge (tgt := 63) zh dX0_demand_48 rfl (fun q26 => ?_) (fun q26 => ?_)
              · have r27 : Ra 0 2147483647 x15 := rb_le_r ra_z (ra_tt x15) q26 (by decide)
                refine z_iconst zh dX0_demand_63 ki_0 ?_
                exact J64 (nI 0) (ra_w rl_0 (by decide) (by decide))
              · have r28 : Ra (-2147483648) (-1) x15 := rb_lt_l ra_z (ra_tt x15) (rb_nle q26) (by decide)
                refine z_iconst zh dX0_demand_51 ki_5 ?_
                refine z_aloadnR zh dX0_demand_52 rfl ?_
                refine y_getI zh fl_Figures_90 dX0_demand_53 (ck_H hh) rfl rfl (fun x29 ex29 => ?_)
                have hx29 : Ra 0 99 x29 := ra_of ex29 (si_H hG hh 0 (by decide) rfl)
                refine z_iload zh dX0_demand_56 rfl ?_
                refine y_isub zh dX0_demand_58 hx29 r12 (u := (-99)) (v := 99) rfl rfl (by decide) (by decide) (fun x30 hc30 hx30 => ?_)
                refine y_imul2 zh dX0_demand_59 hx30 rl_5 (by decide) (u := (-495)) (v := 495) rfl rfl (by decide) (by decide) (fun x31 hc31 hx31 => ?_)
                refine z_goto (tgt := 64) zh dX0_demand_60 rfl ?_
                exact J64 x31 hx31
        exact J24 101 l1 (nI 0) (ra_w rl_0 (by decide) (by decide)) (ms_u0 rl_0 (by decide))
  exact J5 7 (0 : Int64) (nI 0) (ra_w rl_0 (by decide) (by decide)) (ms_u0 rl_0 (by decide))
set_option maxRecDepth 20000 in
theorem s_X3_dayOfLot (g : GE) {sp : Nat → Nat → Bool} {σ : Iv} {iv : Iv} {lv : Lv} {m : Nat} {a1 : Int32} {a2 : Int32} (hm : isM m) (ha1 : Ra 0 11 a1) (hG : SI sp σ iv)  : ConI g yX3_dayOfLot cX3_dayOfLot 5 (some .int) 1 [rf g m, .int a1, .int a2] iv lv (fun r iv' lv' => iv = iv' ∧ lv = lv' ∧ Ra (-1) 99 r) := by
  refine con_intro (own := "RollingNets$Market") (by decide +kernel) rfl (Nat.le_of_ble_eq_true rfl) (L0 := [some (rf g m), some (.int a1), some (.int a2), none, none]) rfl (fun Z zh => ?_)
  refine z_iconst zh dX3_dayOfLot_0 ki_0 ?_
  refine z_istoren zh dX3_dayOfLot_1 (by decide) (L' := [some (rf g m), some (.int a1), some (.int a2), some (.int (nI 0)), none]) rfl ?_
  refine z_iconst zh dX3_dayOfLot_2 ki_0 ?_
  refine z_istore zh dX3_dayOfLot_3 (by decide) (L' := [some (rf g m), some (.int a1), some (.int a2), some (.int (nI 0)), some (.int (nI 0))]) rfl ?_
  have J5 : ∀ (n : Nat) (x1 : Int32) (x2 : Int32), Ra 0 100 x2 → 100 - x2.toInt < (n : Int) → Z 5 [some (rf g m), some (.int a1), some (.int a2), some (.int x1), some (.int x2)] [] iv lv := by
    intro n
    induction n with
    | zero => intro x1 x2 hx2 hn5; exact (ms_uz hx2 hn5).elim
    | succ n ih5 =>
      intro x1 x2 hx2 hn5
      refine z_iload zh dX3_dayOfLot_5 rfl ?_
      refine z_aloadnR zh dX3_dayOfLot_7 rfl ?_
      refine y_getI zh fl_Market_46 dX3_dayOfLot_8 (ck_M hm) rfl rfl (fun x3 ex3 => ?_)
      have hx3 : Ra 0 100 x3 := ra_of ex3 (si_M hG hm 0 (by decide) rfl)
      refine z_icmp_ge (tgt := 43) zh dX3_dayOfLot_11 rfl (fun q4 => ?_) (fun q4 => ?_)
      · refine z_iconst zh dX3_dayOfLot_43 ki_m1 ?_
        exact z_iret zh dX3_dayOfLot_44 ⟨_, rfl, rfl, rfl, (ra_w rl_n1 (by decide) (by decide))⟩
      · have r5 : Ra 0 99 x2 := rb_lt_l hx3 hx2 (rb_nle q4) (by decide)
        have r6 : Ra 1 100 x3 := rb_lt_r hx2 hx3 (rb_nle q4) (by decide)
        refine z_aloadnR zh dX3_dayOfLot_14 rfl ?_
        refine z_getf zh fl_Market_33 dX3_dayOfLot_15 (ck_M hm) rfl rfl ?_
        refine z_iloadn zh dX3_dayOfLot_18 rfl ?_
        refine y_gald zh (ck_lots hm) dX3_dayOfLot_19 ha1 (by decide) (by decide) (fun j7 hj7 _ _ => ?_)
        refine z_iload zh dX3_dayOfLot_20 rfl ?_
        refine y_iald zh (ck_row hm hj7) dX3_dayOfLot_22 r5 (by decide) (by decide) (fun x8 ex8 => ?_)
        have J37 : ∀ (x9 : Int32), Z 37 [some (rf g m), some (.int a1), some (.int a2), some (.int x9), some (.int x2)] [] iv lv := by
          intro x9
          refine y_iinc (L' := fun z => [some (rf g m), some (.int a1), some (.int a2), some (.int x9), some (.int z)]) zh dX3_dayOfLot_37 (by decide) rfl (by decide +kernel) r5 (u := 1) (v := 100) rfl rfl (by decide) (by decide) (fun _ => rfl) (fun x10 hc10 hx10 => ?_)
          refine z_goto (tgt := 5) zh dX3_dayOfLot_40 rfl ?_
          exact ih5 x9 x10 (ra_w hx10 (by decide) (by decide)) (ms_up hc10 (by decide) hn5)
        refine z_if_eq (tgt := 37) zh dX3_dayOfLot_23 rfl (fun q11 => ?_) (fun q11 => ?_)
        · have r12 := rb_eq (u := 0) (v := 0) (ra_tt x8) ra_z q11 (by decide) (by decide)
          exact J37 x1
        · refine z_iloadn zh dX3_dayOfLot_26 rfl ?_
          refine z_iloadn zh dX3_dayOfLot_27 rfl ?_
          refine z_icmp_ne (tgt := 34) zh dX3_dayOfLot_28 rfl (fun q13 => ?_) (fun q13 => ?_)
          · refine y_iincT (L' := fun z => [some (rf g m), some (.int a1), some (.int a2), some (.int z), some (.int x2)]) zh dX3_dayOfLot_34 (by decide) rfl (fun _ => rfl) (fun x14 => ?_)
            exact J37 x14
          · refine z_iload zh dX3_dayOfLot_31 rfl ?_
            exact z_iret zh dX3_dayOfLot_33 ⟨_, rfl, rfl, rfl, (ra_w r5 (by decide) (by decide))⟩
  exact J5 101 (nI 0) (nI 0) (ra_w rl_0 (by decide) (by decide)) (ms_u0 rl_0 (by decide))
set_option maxRecDepth 20000 in
theorem s_X0_eldestDay (g : GE) {sp : Nat → Nat → Bool} {σ : Iv} {iv : Iv} {lv : Lv} {h : Nat} {m : Nat} (hh : isH h) (hm : isM m) (hG : SI sp σ iv)  : ConI g yX0_eldestDay cX0_eldestDay 5 (some .int) 2 [rf g h, rf g m] iv lv (fun r iv' lv' => iv = iv' ∧ lv = lv' ∧ Ra (-1) 99 r) := by
  refine con_intro (own := "RollingNets$Figures") (by decide +kernel) rfl (Nat.le_of_ble_eq_true rfl) (L0 := [some (rf g h), some (rf g m), none, none, none]) rfl (fun Z zh => ?_)
  refine z_iconst zh dX0_eldestDay_0 ki_m1 ?_
  refine z_istoren zh dX0_eldestDay_1 (by decide) (L' := [some (rf g h), some (rf g m), some (.int (-1)), none, none]) rfl ?_
  refine z_iconst zh dX0_eldestDay_2 ki_0 ?_
  refine z_istoren zh dX0_eldestDay_3 (by decide) (L' := [some (rf g h), some (rf g m), some (.int (-1)), some (.int (nI 0)), none]) rfl ?_
  have J4 : ∀ (n : Nat) (x1 : Int32) (x2 : Int32), Ra (-1) 99 x1 → Ra 0 12 x2 → 12 - x2.toInt < (n : Int) → Z 4 [some (rf g h), some (rf g m), some (.int x1), some (.int x2), none] [] iv lv := by
    intro n
    induction n with
    | zero => intro x1 x2 hx1 hx2 hn4; exact (ms_uz hx2 hn4).elim
    | succ n ih4 =>
      intro x1 x2 hx1 hx2 hn4
      refine z_iloadn zh dX0_eldestDay_4 rfl ?_
      refine z_aloadnR zh dX0_eldestDay_5 rfl ?_
      refine z_callVI zh mv_Figures_42 dX0_eldestDay_6 (ck_H hh) rfl (s_X1_members g hh hG) ⟨Nat.le_of_ble_eq_true rfl, Nat.le_of_ble_eq_true rfl⟩ rfl rfl (Nat.le_of_ble_eq_true rfl) ?_
      rintro x3 _ _ ⟨rfl, rfl, hx3⟩
      refine z_icmp_ge (tgt := 46) zh dX0_eldestDay_9 rfl (fun q4 => ?_) (fun q4 => ?_)
      · have r5 : Ra 2 12 x2 := rb_le_r hx3 hx2 q4 (by decide)
        refine z_iloadn zh dX0_eldestDay_46 rfl ?_
        exact z_iret zh dX0_eldestDay_47 ⟨_, rfl, rfl, rfl, hx1⟩
      · have r6 : Ra 0 11 x2 := rb_lt_l hx3 hx2 (rb_nle q4) (by decide)
        refine z_aloadnR zh dX0_eldestDay_12 rfl ?_
        refine z_iloadn zh dX0_eldestDay_13 rfl ?_
        refine z_iconst zh dX0_eldestDay_14 ki_0 ?_
        refine z_callVI zh mv_Figures_57 dX0_eldestDay_15 (ck_M hm) rfl (s_X3_dayOfLot g hm r6 hG) ⟨Nat.le_of_ble_eq_true rfl, Nat.le_of_ble_eq_true rfl⟩ rfl rfl (Nat.le_of_ble_eq_true rfl) ?_
        rintro x7 _ _ ⟨rfl, rfl, hx7⟩
        refine z_istore zh dX0_eldestDay_18 (by decide) (L' := [some (rf g h), some (rf g m), some (.int x1), some (.int x2), some (.int x7)]) rfl ?_
        refine z_iload zh dX0_eldestDay_20 rfl ?_
        refine z_iconst zh dX0_eldestDay_22 ki_m1 ?_
        have J40 : ∀ (x8 : Int32), Ra (-1) 99 x8 → Z 40 [some (rf g h), some (rf g m), some (.int x8), some (.int x2), some (.int x7)] [] iv lv := by
          intro x8 hx8
          refine y_iinc (L' := fun z => [some (rf g h), some (rf g m), some (.int x8), some (.int z), some (.int x7)]) zh dX0_eldestDay_40 (by decide) rfl (by decide +kernel) r6 (u := 1) (v := 12) rfl rfl (by decide) (by decide) (fun _ => rfl) (fun x9 hc9 hx9 => ?_)
          refine z_goto (tgt := 4) zh dX0_eldestDay_43 rfl ?_
          refine z_forget zh [true, true, true, true, false] (L2 := [some (rf g h), some (rf g m), some (.int x8), some (.int x9), none]) rfl ?_
          exact ih4 x8 x9 hx8 (ra_w hx9 (by decide) (by decide)) (ms_up hc9 (by decide) hn4)
        refine z_icmp_eq (tgt := 40) zh dX0_eldestDay_23 rfl (fun q10 => ?_) (fun q10 => ?_)
        · have r11 := rb_eq (u := (-1)) (v := (-1)) hx7 rl_n1 q10 (by decide) (by decide)
          exact J40 x1 hx1
        · have r12 : Ra 0 99 x7 := rb_ne_lo hx7 rl_n1 q10 (by decide)
          refine z_iloadn zh dX0_eldestDay_26 rfl ?_
          refine z_iconst zh dX0_eldestDay_27 ki_m1 ?_
          have J37 : Z 37 [some (rf g h), some (rf g m), some (.int x1), some (.int x2), some (.int x7)] [] iv lv := by
            refine z_iload zh dX0_eldestDay_37 rfl ?_
            refine z_istoren zh dX0_eldestDay_39 (by decide) (L' := [some (rf g h), some (rf g m), some (.int x7), some (.int x2), some (.int x7)]) rfl ?_
            exact J40 x7 (ra_w r12 (by decide) (by decide))
          refine z_icmp_eq (tgt := 37) zh dX0_eldestDay_28 rfl (fun q13 => ?_) (fun q13 => ?_)
          · have r14 := rb_eq (u := (-1)) (v := (-1)) hx1 rl_n1 q13 (by decide) (by decide)
            exact J37
          · have r15 : Ra 0 99 x1 := rb_ne_lo hx1 rl_n1 q13 (by decide)
            refine z_iload zh dX0_eldestDay_31 rfl ?_
            refine z_iloadn zh dX0_eldestDay_33 rfl ?_
            refine z_icmp_ge (tgt := 40) zh dX0_eldestDay_34 rfl (fun q16 => ?_) (fun q16 => ?_)
            · exact J40 x1 (ra_w r15 (by decide) (by decide))
            · have r17 : Ra 0 98 x7 := rb_lt_l r15 r12 (rb_nle q16) (by decide)
              have r18 : Ra 1 99 x1 := rb_lt_r r12 r15 (rb_nle q16) (by decide)
              exact J37
  exact J4 13 (-1) (nI 0) (ra_w rl_n1 (by decide) (by decide)) (ra_w rl_0 (by decide) (by decide)) (ms_u0 rl_0 (by decide))
set_option maxRecDepth 20000 in
theorem s_X0_lacks (g : GE) {sp : Nat → Nat → Bool} {σ : Iv} {iv : Iv} {lv : Lv} {h : Nat} {a1 : Int32} (hh : isH h) (ha1 : Ra 0 11 a1) (hG : SI sp σ iv)  : ConL g yX0_lacks cX0_lacks 2 (some .long) 3 [rf g h, .int a1] iv lv (fun r iv' lv' => iv = iv' ∧ lv = lv' ∧ True) := by
  refine con_intro (own := "RollingNets$Figures") (by decide +kernel) rfl (Nat.le_of_ble_eq_true rfl) (L0 := [some (rf g h), some (.int a1)]) rfl (fun Z zh => ?_)
  refine z_lconst (v := 0) zh dX0_lacks_0 (by decide) ?_
  refine z_aloadnR zh dX0_lacks_1 rfl ?_
  refine z_iloadn zh dX0_lacks_2 rfl ?_
  refine z_callSL zh ms_Figures_107 dX0_lacks_3 (s_X0_demand g hh ha1 hG) ⟨Nat.le_of_ble_eq_true rfl, Nat.le_of_ble_eq_true rfl⟩ rfl rfl (Nat.le_of_ble_eq_true rfl) ?_
  rintro l1 _ _ ⟨rfl, rfl, _⟩
  refine z_aloadnR zh dX0_lacks_6 rfl ?_
  refine z_getf zh fl_Figures_111 dX0_lacks_7 (ck_H hh) rfl rfl ?_
  refine z_iloadn zh dX0_lacks_10 rfl ?_
  refine y_iald zh (ck_pledged hh) dX0_lacks_11 ha1 (by decide) (by decide) (fun x2 ex2 => ?_)
  refine y_i2l zh dX0_lacks_12 (fun l3 => ?_)
  refine y_lsub zh dX0_lacks_13 (fun l4 => ?_)
  refine y_mmax_longT zh ma_Figures_115 mc_max_long dX0_lacks_14 ⟨Nat.le_of_ble_eq_true rfl, Nat.le_of_ble_eq_true rfl⟩ (fun l5 => ?_)
  exact z_lret zh dX0_lacks_17 ⟨_, rfl, rfl, rfl, trivial⟩
set_option maxRecDepth 20000 in
theorem s_X0_lacking (g : GE) {sp : Nat → Nat → Bool} {σ : Iv} {iv : Iv} {lv : Lv} {h : Nat} (hh : isH h) (hG : SI sp σ iv)  : ConI g yX0_lacking cX0_lacking 3 (some .int) 4 [rf g h] iv lv (fun r iv' lv' => iv = iv' ∧ lv = lv' ∧ True) := by
  refine con_intro (own := "RollingNets$Figures") (by decide +kernel) rfl (Nat.le_of_ble_eq_true rfl) (L0 := [some (rf g h), none, none]) rfl (fun Z zh => ?_)
  refine z_iconst zh dX0_lacking_0 ki_0 ?_
  refine z_istoren zh dX0_lacking_1 (by decide) (L' := [some (rf g h), some (.int (nI 0)), none]) rfl ?_
  refine z_iconst zh dX0_lacking_2 ki_0 ?_
  refine z_istoren zh dX0_lacking_3 (by decide) (L' := [some (rf g h), some (.int (nI 0)), some (.int (nI 0))]) rfl ?_
  have J4 : ∀ (n : Nat) (x1 : Int32) (x2 : Int32), Ra 0 12 x2 → 12 - x2.toInt < (n : Int) → Z 4 [some (rf g h), some (.int x1), some (.int x2)] [] iv lv := by
    intro n
    induction n with
    | zero => intro x1 x2 hx2 hn4; exact (ms_uz hx2 hn4).elim
    | succ n ih4 =>
      intro x1 x2 hx2 hn4
      refine z_iloadn zh dX0_lacking_4 rfl ?_
      refine z_aloadnR zh dX0_lacking_5 rfl ?_
      refine z_callVI zh mv_Figures_42 dX0_lacking_6 (ck_H hh) rfl (s_X1_members g hh hG) ⟨Nat.le_of_ble_eq_true rfl, Nat.le_of_ble_eq_true rfl⟩ rfl rfl (Nat.le_of_ble_eq_true rfl) ?_
      rintro x3 _ _ ⟨rfl, rfl, hx3⟩
      refine z_icmp_ge (tgt := 31) zh dX0_lacking_9 rfl (fun q4 => ?_) (fun q4 => ?_)
      · have r5 : Ra 2 12 x2 := rb_le_r hx3 hx2 q4 (by decide)
        refine z_iloadn zh dX0_lacking_31 rfl ?_
        exact z_iret zh dX0_lacking_32 ⟨_, rfl, rfl, rfl, trivial⟩
      · have r6 : Ra 0 11 x2 := rb_lt_l hx3 hx2 (rb_nle q4) (by decide)
        refine z_aloadnR zh dX0_lacking_12 rfl ?_
        refine z_iloadn zh dX0_lacking_13 rfl ?_
        refine z_callSL zh ms_Figures_119 dX0_lacking_14 (s_X0_lacks g hh r6 hG) ⟨Nat.le_of_ble_eq_true rfl, Nat.le_of_ble_eq_true rfl⟩ rfl rfl (Nat.le_of_ble_eq_true rfl) ?_
        rintro l7 _ _ ⟨rfl, rfl, _⟩
        refine z_lconst (v := 0) zh dX0_lacking_17 (by decide) ?_
        refine y_lcmp zh dX0_lacking_18 (fun x8 hx8 => ?_)
        have J25 : ∀ (x9 : Int32), Z 25 [some (rf g h), some (.int x9), some (.int x2)] [] iv lv := by
          intro x9
          refine y_iinc (L' := fun z => [some (rf g h), some (.int x9), some (.int z)]) zh dX0_lacking_25 (by decide) rfl (by decide +kernel) r6 (u := 1) (v := 12) rfl rfl (by decide) (by decide) (fun _ => rfl) (fun x10 hc10 hx10 => ?_)
          refine z_goto (tgt := 4) zh dX0_lacking_28 rfl ?_
          exact ih4 x9 x10 (ra_w hx10 (by decide) (by decide)) (ms_up hc10 (by decide) hn4)
        refine z_if_le (tgt := 25) zh dX0_lacking_19 rfl (fun q11 => ?_) (fun q11 => ?_)
        · have r12 : Ra (-1) 0 x8 := rb_le_l ra_z hx8 q11 (by decide)
          exact J25 x1
        · have r13 : Ra 1 1 x8 := rb_lt_r ra_z hx8 (rb_nle q11) (by decide)
          refine y_iincT (L' := fun z => [some (rf g h), some (.int z), some (.int x2)]) zh dX0_lacking_22 (by decide) rfl (fun _ => rfl) (fun x14 => ?_)
          exact J25 x14
  exact J4 13 (nI 0) (nI 0) (ra_w rl_0 (by decide) (by decide)) (ms_u0 rl_0 (by decide))
set_option maxRecDepth 20000 in
theorem s_X0_overDeals (g : GE) {sp : Nat → Nat → Bool} {σ : Iv} {iv : Iv} {lv : Lv} {h : Nat} {a1 : Int32} {a2 : Int32} {a3 : Int32} (hh : isH h) (ha1 : Ra (-1) 5 a1) (ha2 : Ra (-1) 1 a2) (ha3 : Ra 3 7 a3) (hG : SI sp σ iv)  : ConI g yX0_overDeals cX0_overDeals 8 (some .int) 2 [rf g h, .int a1, .int a2, .int a3] iv lv (fun r iv' lv' => iv = iv' ∧ lv = lv' ∧ True) := by
  refine con_intro (own := "RollingNets$Figures") (by decide +kernel) rfl (Nat.le_of_ble_eq_true rfl) (L0 := [some (rf g h), some (.int a1), some (.int a2), some (.int a3), none, none, none, none]) rfl (fun Z zh => ?_)
  refine z_aloadnR zh dX0_overDeals_0 rfl ?_
  refine z_getf zh fl_Figures_61 dX0_overDeals_1 (ck_H hh) rfl rfl ?_
  refine z_astore zh dX0_overDeals_4 (by decide) (L' := [some (rf g h), some (.int a1), some (.int a2), some (.int a3), some (rf g (h + 7)), none, none, none]) rfl ?_
  refine z_iconst zh dX0_overDeals_6 ki_0 ?_
  refine z_istore zh dX0_overDeals_7 (by decide) (L' := [some (rf g h), some (.int a1), some (.int a2), some (.int a3), some (rf g (h + 7)), some (.int (nI 0)), none, none]) rfl ?_
  refine z_iconst zh dX0_overDeals_9 ki_0 ?_
  refine z_istore zh dX0_overDeals_10 (by decide) (L' := [some (rf g h), some (.int a1), some (.int a2), some (.int a3), some (rf g (h + 7)), some (.int (nI 0)), some (.int (nI 0)), none]) rfl ?_
  have J12 : ∀ (n : Nat) (x1 : Int32) (x2 : Int32), Ra 0 200 x2 → 200 - x2.toInt < (n : Int) → Z 12 [some (rf g h), some (.int a1), some (.int a2), some (.int a3), some (rf g (h + 7)), some (.int x1), some (.int x2), none] [] iv lv := by
    intro n
    induction n with
    | zero => intro x1 x2 hx2 hn12; exact (ms_uz hx2 hn12).elim
    | succ n ih12 =>
      intro x1 x2 hx2 hn12
      refine z_iload zh dX0_overDeals_12 rfl ?_
      refine z_aloadR zh dX0_overDeals_14 rfl ?_
      obtain ⟨x3, ex3⟩ : ∃ z, iv (h + 7) 2 = z := ⟨_, rfl⟩
      have hx3 : Ra 0 200 x3 := ra_of ex3 (si_T hG (isT_d hh))
      refine z_callVIp zh mv_Figures_65 dX0_overDeals_16 (ck_T (isT_d hh)) rfl (s_X7_size g (isT_d hh) ex3) ⟨Nat.le_of_ble_eq_true rfl, Nat.le_of_ble_eq_true rfl⟩ rfl rfl (Nat.le_of_ble_eq_true rfl) ?_
      refine z_icmp_ge (tgt := 87) zh dX0_overDeals_19 rfl (fun q4 => ?_) (fun q4 => ?_)
      · refine z_iload zh dX0_overDeals_87 rfl ?_
        exact z_iret zh dX0_overDeals_89 ⟨_, rfl, rfl, rfl, trivial⟩
      · have r5 : Ra 0 199 x2 := rb_lt_l hx3 hx2 (rb_nle q4) (by decide)
        have r6 : Ra 1 200 x3 := rb_lt_r hx2 hx3 (rb_nle q4) (by decide)
        refine z_iloadn zh dX0_overDeals_22 rfl ?_
        refine z_iconst zh dX0_overDeals_23 ki_m1 ?_
        have J44 : ∀ (x7 : Int32), Ra 0 1 x7 → Z 44 [some (rf g h), some (.int a1), some (.int a2), some (.int a3), some (rf g (h + 7)), some (.int x1), some (.int x2), none] [.int x7] iv lv := by
          intro x7 hx7
          refine z_istore zh dX0_overDeals_44 (by decide) (L' := [some (rf g h), some (.int a1), some (.int a2), some (.int a3), some (rf g (h + 7)), some (.int x1), some (.int x2), some (.int x7)]) rfl ?_
          refine z_iload zh dX0_overDeals_46 rfl ?_
          have J81 : ∀ (x8 : Int32), Z 81 [some (rf g h), some (.int a1), some (.int a2), some (.int a3), some (rf g (h + 7)), some (.int x8), some (.int x2), some (.int x7)] [] iv lv := by
            intro x8
            refine y_iinc (L' := fun z => [some (rf g h), some (.int a1), some (.int a2), some (.int a3), some (rf g (h + 7)), some (.int x8), some (.int z), some (.int x7)]) zh dX0_overDeals_81 (by decide) rfl (by decide +kernel) r5 (u := 1) (v := 200) rfl rfl (by decide) (by decide) (fun _ => rfl) (fun x9 hc9 hx9 => ?_)
            refine z_goto (tgt := 12) zh dX0_overDeals_84 rfl ?_
            refine z_forget zh [true, true, true, true, true, true, true, false] (L2 := [some (rf g h), some (.int a1), some (.int a2), some (.int a3), some (rf g (h + 7)), some (.int x8), some (.int x9), none]) rfl ?_
            exact ih12 x8 x9 (ra_w hx9 (by decide) (by decide)) (ms_up hc9 (by decide) hn12)
          refine z_if_eq (tgt := 81) zh dX0_overDeals_48 rfl (fun q10 => ?_) (fun q10 => ?_)
          · have r11 := rb_eq (u := 0) (v := 0) hx7 ra_z q10 (by decide) (by decide)
            exact J81 x1
          · have r12 : Ra 1 1 x7 := rb_ne_lo hx7 ra_z q10 (by decide)
            refine z_iloadn zh dX0_overDeals_51 rfl ?_
            refine z_iconst zh dX0_overDeals_52 ki_m1 ?_
            have J68 : Z 68 [some (rf g h), some (.int a1), some (.int a2), some (.int a3), some (rf g (h + 7)), some (.int x1), some (.int x2), some (.int x7)] [] iv lv := by
              refine z_iload zh dX0_overDeals_68 rfl ?_
              refine z_aloadR zh dX0_overDeals_70 rfl ?_
              refine z_iloadn zh dX0_overDeals_72 rfl ?_
              refine z_iload zh dX0_overDeals_73 rfl ?_
              refine z_callVI zh mv_Figures_70 dX0_overDeals_75 (ck_T (isT_d hh)) rfl (s_X7_get g (isT_d hh) ex3 hx3) ⟨Nat.le_of_ble_eq_true rfl, Nat.le_of_ble_eq_true rfl⟩ rfl rfl (Nat.le_of_ble_eq_true rfl) ?_
              rintro x13 _ _ ⟨rfl, rfl, gx13⟩
              refine y_iaddT zh dX0_overDeals_78 (fun x14 => ?_)
              refine z_istore zh dX0_overDeals_79 (by decide) (L' := [some (rf g h), some (.int a1), some (.int a2), some (.int a3), some (rf g (h + 7)), some (.int x14), some (.int x2), some (.int x7)]) rfl ?_
              exact J81 x14
            refine z_icmp_eq (tgt := 68) zh dX0_overDeals_53 rfl (fun q15 => ?_) (fun q15 => ?_)
            · have r16 := rb_eq (u := (-1)) (v := (-1)) ha2 rl_n1 q15 (by decide) (by decide)
              exact J68
            · have r17 : Ra 0 1 a2 := rb_ne_lo ha2 rl_n1 q15 (by decide)
              refine z_aloadR zh dX0_overDeals_56 rfl ?_
              refine z_iconst zh dX0_overDeals_58 ki_5 ?_
              refine z_iload zh dX0_overDeals_59 rfl ?_
              refine z_callVI zh mv_Figures_70 dX0_overDeals_61 (ck_T (isT_d hh)) rfl (s_X7_get g (isT_d hh) ex3 hx3) ⟨Nat.le_of_ble_eq_true rfl, Nat.le_of_ble_eq_true rfl⟩ rfl rfl (Nat.le_of_ble_eq_true rfl) ?_
              rintro x18 _ _ ⟨rfl, rfl, gx18⟩
              refine z_iloadn zh dX0_overDeals_64 rfl ?_
              refine z_icmp_ne (tgt := 81) zh dX0_overDeals_65 rfl (fun q19 => ?_) (fun q19 => ?_)
              · exact J81 x1
              · have r20 := rb_eq (u := 0) (v := 1) (ra_tt x18) r17 q19 (by decide) (by decide)
                exact J68
        have J39 : Z 39 [some (rf g h), some (.int a1), some (.int a2), some (.int a3), some (rf g (h + 7)), some (.int x1), some (.int x2), none] [] iv lv := by
          refine z_iconst zh dX0_overDeals_39 ki_1 ?_
          refine z_goto (tgt := 44) zh dX0_overDeals_40 rfl ?_
          exact J44 (nI 1) (ra_w rl_1 (by decide) (by decide))
        refine z_icmp_eq (tgt := 39) zh dX0_overDeals_24 rfl (fun q21 => ?_) (fun q21 => ?_)
        · have r22 := rb_eq (u := (-1)) (v := (-1)) ha1 rl_n1 q21 (by decide) (by decide)
          exact J39
        · have r23 : Ra 0 5 a1 := rb_ne_lo ha1 rl_n1 q21 (by decide)
          refine z_aloadR zh dX0_overDeals_27 rfl ?_
          refine z_iconst zh dX0_overDeals_29 ki_2 ?_
          refine z_iload zh dX0_overDeals_30 rfl ?_
          refine z_callVI zh mv_Figures_70 dX0_overDeals_32 (ck_T (isT_d hh)) rfl (s_X7_get g (isT_d hh) ex3 hx3) ⟨Nat.le_of_ble_eq_true rfl, Nat.le_of_ble_eq_true rfl⟩ rfl rfl (Nat.le_of_ble_eq_true rfl) ?_
          rintro x24 _ _ ⟨rfl, rfl, gx24⟩
          refine z_iloadn zh dX0_overDeals_35 rfl ?_
          refine z_icmp_ne (tgt := 43) zh dX0_overDeals_36 rfl (fun q25 => ?_) (fun q25 => ?_)
          · refine z_iconst zh dX0_overDeals_43 ki_0 ?_
            exact J44 (nI 0) (ra_w rl_0 (by decide) (by decide))
          · have r26 := rb_eq (u := 0) (v := 5) (ra_tt x24) r23 q25 (by decide) (by decide)
            exact J39
  exact J12 201 (nI 0) (nI 0) (ra_w rl_0 (by decide) (by decide)) (ms_u0 rl_0 (by decide))
set_option maxRecDepth 20000 in
theorem s_X3_longOf (g : GE) {sp : Nat → Nat → Bool} {σ : Iv} {iv : Iv} {lv : Lv} {m : Nat} {a1 : Int32} (hm : isM m) (ha1 : Ra 0 11 a1) (hG : SI sp σ iv)  : ConI g yX3_longOf cX3_longOf 2 (some .int) 1 [rf g m, .int a1] iv lv (fun r iv' lv' => iv = iv' ∧ lv = lv' ∧ Ra 0 2147483647 r) := by
  refine con_intro (own := "RollingNets$Market") (by decide +kernel) rfl (Nat.le_of_ble_eq_true rfl) (L0 := [some (rf g m), some (.int a1)]) rfl (fun Z zh => ?_)
  refine z_iconst zh dX3_longOf_0 ki_0 ?_
  refine z_aloadnR zh dX3_longOf_1 rfl ?_
  refine z_getf zh fl_Market_28 dX3_longOf_2 (ck_M hm) rfl rfl ?_
  refine z_iloadn zh dX3_longOf_5 rfl ?_
  refine y_iald zh (ck_mi 6 (by decide) hm) dX3_longOf_6 ha1 (by decide) (by decide) (fun x1 ex1 => ?_)
  refine y_mmax zh ma_Market_49 mc_max dX3_longOf_7 ⟨Nat.le_of_ble_eq_true rfl, Nat.le_of_ble_eq_true rfl⟩ rl_0 (ra_tt x1) (u := 0) (v := 2147483647) (Or.inl (by decide)) (by decide) (by decide) (fun x2 hx2 => ?_)
  exact z_iret zh dX3_longOf_10 ⟨_, rfl, rfl, rfl, hx2⟩
set_option maxRecDepth 20000 in
theorem s_X3_shortOf (g : GE) {sp : Nat → Nat → Bool} {σ : Iv} {iv : Iv} {lv : Lv} {m : Nat} {a1 : Int32} (hm : isM m) (ha1 : Ra 0 11 a1) (hG : SI sp σ iv)  : ConI g yX3_shortOf cX3_shortOf 2 (some .int) 1 [rf g m, .int a1] iv lv (fun r iv' lv' => iv = iv' ∧ lv = lv' ∧ Ra 0 2147483647 r) := by
  refine con_intro (own := "RollingNets$Market") (by decide +kernel) rfl (Nat.le_of_ble_eq_true rfl) (L0 := [some (rf g m), some (.int a1)]) rfl (fun Z zh => ?_)
  refine z_iconst zh dX3_shortOf_0 ki_0 ?_
  refine z_aloadnR zh dX3_shortOf_1 rfl ?_
  refine z_getf zh fl_Market_28 dX3_shortOf_2 (ck_M hm) rfl rfl ?_
  refine z_iloadn zh dX3_shortOf_5 rfl ?_
  refine y_iald zh (ck_mi 6 (by decide) hm) dX3_shortOf_6 ha1 (by decide) (by decide) (fun x1 ex1 => ?_)
  refine y_inegT zh dX3_shortOf_7 (fun x2 => ?_)
  refine y_mmax zh ma_Market_49 mc_max dX3_shortOf_8 ⟨Nat.le_of_ble_eq_true rfl, Nat.le_of_ble_eq_true rfl⟩ rl_0 (ra_tt x2) (u := 0) (v := 2147483647) (Or.inl (by decide)) (by decide) (by decide) (fun x3 hx3 => ?_)
  exact z_iret zh dX3_shortOf_11 ⟨_, rfl, rfl, rfl, hx3⟩
set_option maxRecDepth 20000 in
theorem s_X0_overMembers (g : GE) {sp : Nat → Nat → Bool} {σ : Iv} {iv : Iv} {lv : Lv} {h : Nat} {m : Nat} {a1 : Int32} (hh : isH h) (hm : isM m) (ha1 : Ra 2 4 a1) (hG : SI sp σ iv)  : ConI g yX0_overMembers cX0_overMembers 6 (some .int) 2 [rf g h, rf g m, .int a1] iv lv (fun r iv' lv' => iv = iv' ∧ lv = lv' ∧ True) := by
  refine con_intro (own := "RollingNets$Figures") (by decide +kernel) rfl (Nat.le_of_ble_eq_true rfl) (L0 := [some (rf g h), some (rf g m), some (.int a1), none, none, none]) rfl (fun Z zh => ?_)
  refine z_lconst (v := 0) zh dX0_overMembers_0 (by decide) ?_
  refine z_lstoren zh dX0_overMembers_1 (by decide) (L' := [some (rf g h), some (rf g m), some (.int a1), some (.long (0 : Int64)), none, none]) rfl ?_
  refine z_iconst zh dX0_overMembers_2 ki_0 ?_
  refine z_istore zh dX0_overMembers_3 (by decide) (L' := [some (rf g h), some (rf g m), some (.int a1), some (.long (0 : Int64)), none, some (.int (nI 0))]) rfl ?_
  have J5 : ∀ (n : Nat) (l1 : Int64) (x2 : Int32), Ra 0 12 x2 → 12 - x2.toInt < (n : Int) → Z 5 [some (rf g h), some (rf g m), some (.int a1), some (.long l1), none, some (.int x2)] [] iv lv := by
    intro n
    induction n with
    | zero => intro l1 x2 hx2 hn5; exact (ms_uz hx2 hn5).elim
    | succ n ih5 =>
      intro l1 x2 hx2 hn5
      refine z_iload zh dX0_overMembers_5 rfl ?_
      refine z_aloadnR zh dX0_overMembers_7 rfl ?_
      refine z_callVI zh mv_Figures_42 dX0_overMembers_8 (ck_H hh) rfl (s_X1_members g hh hG) ⟨Nat.le_of_ble_eq_true rfl, Nat.le_of_ble_eq_true rfl⟩ rfl rfl (Nat.le_of_ble_eq_true rfl) ?_
      rintro x3 _ _ ⟨rfl, rfl, hx3⟩
      refine z_icmp_ge (tgt := 63) zh dX0_overMembers_11 rfl (fun q4 => ?_) (fun q4 => ?_)
      · have r5 : Ra 2 12 x2 := rb_le_r hx3 hx2 q4 (by decide)
        refine z_lloadn zh dX0_overMembers_63 rfl ?_
        refine y_l2i zh dX0_overMembers_64 (fun x6 => ?_)
        exact z_iret zh dX0_overMembers_65 ⟨_, rfl, rfl, rfl, trivial⟩
      · have r7 : Ra 0 11 x2 := rb_lt_l hx3 hx2 (rb_nle q4) (by decide)
        refine z_iloadn zh dX0_overMembers_14 rfl ?_
        refine z_iconst zh dX0_overMembers_15 ki_4 ?_
        have J57 : ∀ (l8 : Int64), Z 57 [some (rf g h), some (rf g m), some (.int a1), some (.long l8), none, some (.int x2)] [] iv lv := by
          intro l8
          refine y_iinc (L' := fun z => [some (rf g h), some (rf g m), some (.int a1), some (.long l8), none, some (.int z)]) zh dX0_overMembers_57 (by decide) rfl (by decide +kernel) r7 (u := 1) (v := 12) rfl rfl (by decide) (by decide) (fun _ => rfl) (fun x9 hc9 hx9 => ?_)
          refine z_goto (tgt := 5) zh dX0_overMembers_60 rfl ?_
          exact ih5 l8 x9 (ra_w hx9 (by decide) (by decide)) (ms_up hc9 (by decide) hn5)
        refine z_icmp_ne (tgt := 32) zh dX0_overMembers_16 rfl (fun q10 => ?_) (fun q10 => ?_)
        · have r11 : Ra 2 3 a1 := rb_ne_hi ha1 rl_4 q10 (by decide)
          refine z_lloadn zh dX0_overMembers_32 rfl ?_
          refine z_iloadn zh dX0_overMembers_33 rfl ?_
          refine z_iconst zh dX0_overMembers_34 ki_2 ?_
          have J55 : ∀ (l12 : Int64), Z 55 [some (rf g h), some (rf g m), some (.int a1), some (.long l1), none, some (.int x2)] [.long l12, .long l1] iv lv := by
            intro l12
            refine y_ladd zh dX0_overMembers_55 (fun l13 => ?_)
            refine z_lstoren zh dX0_overMembers_56 (by decide) (L' := [some (rf g h), some (rf g m), some (.int a1), some (.long l13), none, some (.int x2)]) rfl ?_
            exact J57 l13
          refine z_icmp_ne (tgt := 48) zh dX0_overMembers_35 rfl (fun q14 => ?_) (fun q14 => ?_)
          · have r15 : Ra 3 3 a1 := rb_ne_lo r11 rl_2 q14 (by decide)
            refine z_aloadnR zh dX0_overMembers_48 rfl ?_
            refine z_iload zh dX0_overMembers_49 rfl ?_
            refine z_callVI zh mv_Figures_54 dX0_overMembers_51 (ck_M hm) rfl (s_X3_shortOf g hm r7 hG) ⟨Nat.le_of_ble_eq_true rfl, Nat.le_of_ble_eq_true rfl⟩ rfl rfl (Nat.le_of_ble_eq_true rfl) ?_
            rintro x16 _ _ ⟨rfl, rfl, hx16⟩
            refine y_i2l zh dX0_overMembers_54 (fun l17 => ?_)
            exact J55 l17
          · have r18 := rb_eq (u := 2) (v := 2) r11 rl_2 q14 (by decide) (by decide)
            refine z_aloadnR zh dX0_overMembers_38 rfl ?_
            refine z_iload zh dX0_overMembers_39 rfl ?_
            refine z_callVI zh mv_Figures_50 dX0_overMembers_41 (ck_M hm) rfl (s_X3_longOf g hm r7 hG) ⟨Nat.le_of_ble_eq_true rfl, Nat.le_of_ble_eq_true rfl⟩ rfl rfl (Nat.le_of_ble_eq_true rfl) ?_
            rintro x19 _ _ ⟨rfl, rfl, hx19⟩
            refine y_i2l zh dX0_overMembers_44 (fun l20 => ?_)
            refine z_goto (tgt := 55) zh dX0_overMembers_45 rfl ?_
            exact J55 l20
        · have r21 := rb_eq (u := 4) (v := 4) ha1 rl_4 q10 (by decide) (by decide)
          refine z_lloadn zh dX0_overMembers_19 rfl ?_
          refine z_aloadnR zh dX0_overMembers_20 rfl ?_
          refine z_getf zh fl_Figures_46 dX0_overMembers_21 (ck_M hm) rfl rfl ?_
          refine z_iload zh dX0_overMembers_24 rfl ?_
          refine y_lald zh (ck_stock hm) dX0_overMembers_26 r7 (by decide) (by decide) (fun l22 => ?_)
          refine y_ladd zh dX0_overMembers_27 (fun l23 => ?_)
          refine z_lstoren zh dX0_overMembers_28 (by decide) (L' := [some (rf g h), some (rf g m), some (.int a1), some (.long l23), none, some (.int x2)]) rfl ?_
          refine z_goto (tgt := 57) zh dX0_overMembers_29 rfl ?_
          exact J57 l23
  exact J5 13 (0 : Int64) (nI 0) (ra_w rl_0 (by decide) (by decide)) (ms_u0 rl_0 (by decide))
set_option maxRecDepth 20000 in
theorem s_X0_ofIssue (g : GE) {sp : Nat → Nat → Bool} {σ : Iv} {iv : Iv} {lv : Lv} {h : Nat} {a1 : Int32} {a2 : Int32} (hh : isH h) (ha1 : Ra 0 5 a1) (hG : SI sp σ iv)  : ConI g yX0_ofIssue cX0_ofIssue 4 (some .int) 3 [rf g h, .int a1, .int a2] iv lv (fun r iv' lv' => iv = iv' ∧ lv = lv' ∧ True) := by
  refine con_intro (own := "RollingNets$Figures") (by decide +kernel) rfl (Nat.le_of_ble_eq_true rfl) (L0 := [some (rf g h), some (.int a1), some (.int a2), none]) rfl (fun Z zh => ?_)
  refine z_aloadnR zh dX0_ofIssue_0 rfl ?_
  refine z_getf zh fl_Figures_9 dX0_ofIssue_1 (ck_H hh) rfl rfl ?_
  refine z_iloadn zh dX0_ofIssue_4 rfl ?_
  refine y_mald zh (ck_markets hh) dX0_ofIssue_5 ha1 (by decide) (by decide) (fun j1 hj1 _ _ => ?_)
  refine z_astoren zh dX0_ofIssue_6 (by decide) (L' := [some (rf g h), some (.int a1), some (.int a2), some (rf g (h + 60 + 20 * j1))]) rfl ?_
  refine z_iloadn zh dX0_ofIssue_7 rfl ?_
  by_cases q2 : 0 ≤ a2.toInt ∧ a2.toInt ≤ 8
  · obtain ⟨jw, hjw, hkw⟩ : ∃ jw : Nat, jw ≤ 8 ∧ a2.toInt = 0 + (jw : Int) := ⟨(a2.toInt - 0).toNat, by omega, by omega⟩
    rcases (by omega : jw = 0 ∨ jw = 1 ∨ jw = 2 ∨ jw = 3 ∨ jw = 4 ∨ jw = 5 ∨ jw = 6 ∨ jw = 7 ∨ jw = 8) with rfl | rfl | rfl | rfl | rfl | rfl | rfl | rfl | rfl
    · have r4 : Ra 0 0 a2 := sw_ra hkw rfl
      refine z_tabIn (off := 52) (tgt := 60) zh dX0_ofIssue_8 (sw_lo r4 (by decide)) (sw_hi r4 (by decide)) (sw_at r4 (by decide)) rfl ?_
      refine z_aloadnR zh dX0_ofIssue_60 rfl ?_
      refine y_getI zh fl_Figures_15 dX0_ofIssue_61 (ck_M (isM_of hh hj1)) rfl rfl (fun x5 ex5 => ?_)
      exact z_iret zh dX0_ofIssue_64 ⟨_, rfl, rfl, rfl, trivial⟩
    · have r6 : Ra 1 1 a2 := sw_ra hkw rfl
      refine z_tabIn (off := 57) (tgt := 65) zh dX0_ofIssue_8 (sw_lo r6 (by decide)) (sw_hi r6 (by decide)) (sw_at r6 (by decide)) rfl ?_
      refine z_aloadnR zh dX0_ofIssue_65 rfl ?_
      refine y_getI zh fl_Figures_21 dX0_ofIssue_66 (ck_M (isM_of hh hj1)) rfl rfl (fun x7 ex7 => ?_)
      exact z_iret zh dX0_ofIssue_69 ⟨_, rfl, rfl, rfl, trivial⟩
    · have r8 : Ra 2 2 a2 := sw_ra hkw rfl
      refine z_tabIn (off := 62) (tgt := 70) zh dX0_ofIssue_8 (sw_lo r8 (by decide)) (sw_hi r8 (by decide)) (sw_at r8 (by decide)) rfl ?_
      refine z_aloadnR zh dX0_ofIssue_70 rfl ?_
      refine z_aloadnR zh dX0_ofIssue_71 rfl ?_
      refine z_iloadn zh dX0_ofIssue_72 rfl ?_
      refine z_callSI zh ms_Figures_24 dX0_ofIssue_73 (s_X0_overMembers g hh (isM_of hh hj1) (ra_w r8 (by decide) (by decide)) hG) ⟨Nat.le_of_ble_eq_true rfl, Nat.le_of_ble_eq_true rfl⟩ rfl rfl (Nat.le_of_ble_eq_true rfl) ?_
      rintro x9 _ _ ⟨rfl, rfl, _⟩
      exact z_iret zh dX0_ofIssue_76 ⟨_, rfl, rfl, rfl, trivial⟩
    · have r10 : Ra 3 3 a2 := sw_ra hkw rfl
      refine z_tabIn (off := 62) (tgt := 70) zh dX0_ofIssue_8 (sw_lo r10 (by decide)) (sw_hi r10 (by decide)) (sw_at r10 (by decide)) rfl ?_
      refine z_aloadnR zh dX0_ofIssue_70 rfl ?_
      refine z_aloadnR zh dX0_ofIssue_71 rfl ?_
      refine z_iloadn zh dX0_ofIssue_72 rfl ?_
      refine z_callSI zh ms_Figures_24 dX0_ofIssue_73 (s_X0_overMembers g hh (isM_of hh hj1) (ra_w r10 (by decide) (by decide)) hG) ⟨Nat.le_of_ble_eq_true rfl, Nat.le_of_ble_eq_true rfl⟩ rfl rfl (Nat.le_of_ble_eq_true rfl) ?_
      rintro x11 _ _ ⟨rfl, rfl, _⟩
      exact z_iret zh dX0_ofIssue_76 ⟨_, rfl, rfl, rfl, trivial⟩
    · have r12 : Ra 4 4 a2 := sw_ra hkw rfl
      refine z_tabIn (off := 62) (tgt := 70) zh dX0_ofIssue_8 (sw_lo r12 (by decide)) (sw_hi r12 (by decide)) (sw_at r12 (by decide)) rfl ?_
      refine z_aloadnR zh dX0_ofIssue_70 rfl ?_
      refine z_aloadnR zh dX0_ofIssue_71 rfl ?_
      refine z_iloadn zh dX0_ofIssue_72 rfl ?_
      refine z_callSI zh ms_Figures_24 dX0_ofIssue_73 (s_X0_overMembers g hh (isM_of hh hj1) (ra_w r12 (by decide) (by decide)) hG) ⟨Nat.le_of_ble_eq_true rfl, Nat.le_of_ble_eq_true rfl⟩ rfl rfl (Nat.le_of_ble_eq_true rfl) ?_
      rintro x13 _ _ ⟨rfl, rfl, _⟩
      exact z_iret zh dX0_ofIssue_76 ⟨_, rfl, rfl, rfl, trivial⟩
    · have r14 : Ra 5 5 a2 := sw_ra hkw rfl
      refine z_tabIn (off := 69) (tgt := 77) zh dX0_ofIssue_8 (sw_lo r14 (by decide)) (sw_hi r14 (by decide)) (sw_at r14 (by decide)) rfl ?_
      refine z_aloadnR zh dX0_ofIssue_77 rfl ?_
      refine z_aloadnR zh dX0_ofIssue_78 rfl ?_
      refine z_callSI zh ms_Figures_30 dX0_ofIssue_79 (s_X0_eldestDay g hh (isM_of hh hj1) hG) ⟨Nat.le_of_ble_eq_true rfl, Nat.le_of_ble_eq_true rfl⟩ rfl rfl (Nat.le_of_ble_eq_true rfl) ?_
      rintro x15 _ _ ⟨rfl, rfl, hx15⟩
      exact z_iret zh dX0_ofIssue_82 ⟨_, rfl, rfl, rfl, trivial⟩
    · have r16 : Ra 6 6 a2 := sw_ra hkw rfl
      refine z_tabIn (off := 75) (tgt := 83) zh dX0_ofIssue_8 (sw_lo r16 (by decide)) (sw_hi r16 (by decide)) (sw_at r16 (by decide)) rfl ?_
      refine z_aloadnR zh dX0_ofIssue_83 rfl ?_
      refine z_iloadn zh dX0_ofIssue_84 rfl ?_
      refine z_iconst zh dX0_ofIssue_85 ki_1 ?_
      refine z_bipush zh dX0_ofIssue_86 kb_7 ?_
      refine z_callSI zh ms_Figures_34 dX0_ofIssue_88 (s_X0_overDeals g hh (ra_w ha1 (by decide) (by decide)) (ra_w rl_1 (by decide) (by decide)) (ra_w rl_7 (by decide) (by decide)) hG) ⟨Nat.le_of_ble_eq_true rfl, Nat.le_of_ble_eq_true rfl⟩ rfl rfl (Nat.le_of_ble_eq_true rfl) ?_
      rintro x17 _ _ ⟨rfl, rfl, _⟩
      exact z_iret zh dX0_ofIssue_91 ⟨_, rfl, rfl, rfl, trivial⟩
    · have r18 : Ra 7 7 a2 := sw_ra hkw rfl
      refine z_tabIn (off := 84) (tgt := 92) zh dX0_ofIssue_8 (sw_lo r18 (by decide)) (sw_hi r18 (by decide)) (sw_at r18 (by decide)) rfl ?_
      refine z_aloadnR zh dX0_ofIssue_92 rfl ?_
      refine z_iloadn zh dX0_ofIssue_93 rfl ?_
      refine z_callSI zh ms_Figures_38 dX0_ofIssue_94 (s_X0_countDeals g hh ha1 hG) ⟨Nat.le_of_ble_eq_true rfl, Nat.le_of_ble_eq_true rfl⟩ rfl rfl (Nat.le_of_ble_eq_true rfl) ?_
      rintro x19 _ _ ⟨rfl, rfl, _⟩
      exact z_iret zh dX0_ofIssue_97 ⟨_, rfl, rfl, rfl, trivial⟩
    · have r20 : Ra 8 8 a2 := sw_ra hkw rfl
      refine z_tabIn (off := 90) (tgt := 98) zh dX0_ofIssue_8 (sw_lo r20 (by decide)) (sw_hi r20 (by decide)) (sw_at r20 (by decide)) rfl ?_
      refine z_aloadnR zh dX0_ofIssue_98 rfl ?_
      refine z_iloadn zh dX0_ofIssue_99 rfl ?_
      refine z_iconst zh dX0_ofIssue_100 ki_m1 ?_
      refine z_iconst zh dX0_ofIssue_101 ki_3 ?_
      refine z_callSI zh ms_Figures_34 dX0_ofIssue_102 (s_X0_overDeals g hh (ra_w ha1 (by decide) (by decide)) (ra_w rl_n1 (by decide) (by decide)) (ra_w rl_3 (by decide) (by decide)) hG) ⟨Nat.le_of_ble_eq_true rfl, Nat.le_of_ble_eq_true rfl⟩ rfl rfl (Nat.le_of_ble_eq_true rfl) ?_
      rintro x21 _ _ ⟨rfl, rfl, _⟩
      exact z_iret zh dX0_ofIssue_105 ⟨_, rfl, rfl, rfl, trivial⟩
  · refine z_tabOut (tgt := 106) zh dX0_ofIssue_8 (sw_out q2) rfl ?_
    refine z_iconst zh dX0_ofIssue_106 ki_m1 ?_
    exact z_iret zh dX0_ofIssue_107 ⟨_, rfl, rfl, rfl, trivial⟩
set_option maxRecDepth 20000 in
theorem s_X0_openNotices (g : GE) {sp : Nat → Nat → Bool} {σ : Iv} {iv : Iv} {lv : Lv} {h : Nat} (hh : isH h) (hG : SI sp σ iv)  : ConI g yX0_openNotices cX0_openNotices 3 (some .int) 2 [rf g h] iv lv (fun r iv' lv' => iv = iv' ∧ lv = lv' ∧ True) := by
  refine con_intro (own := "RollingNets$Figures") (by decide +kernel) rfl (Nat.le_of_ble_eq_true rfl) (L0 := [some (rf g h), none, none]) rfl (fun Z zh => ?_)
  refine z_iconst zh dX0_openNotices_0 ki_0 ?_
  refine z_istoren zh dX0_openNotices_1 (by decide) (L' := [some (rf g h), some (.int (nI 0)), none]) rfl ?_
  refine z_iconst zh dX0_openNotices_2 ki_0 ?_
  refine z_istoren zh dX0_openNotices_3 (by decide) (L' := [some (rf g h), some (.int (nI 0)), some (.int (nI 0))]) rfl ?_
  have J4 : ∀ (n : Nat) (x1 : Int32) (x2 : Int32), Ra 0 60 x2 → 60 - x2.toInt < (n : Int) → Z 4 [some (rf g h), some (.int x1), some (.int x2)] [] iv lv := by
    intro n
    induction n with
    | zero => intro x1 x2 hx2 hn4; exact (ms_uz hx2 hn4).elim
    | succ n ih4 =>
      intro x1 x2 hx2 hn4
      refine z_iloadn zh dX0_openNotices_4 rfl ?_
      refine z_aloadnR zh dX0_openNotices_5 rfl ?_
      refine z_getf zh fl_Figures_73 dX0_openNotices_6 (ck_H hh) rfl rfl ?_
      obtain ⟨x3, ex3⟩ : ∃ z, iv (h + 17) 2 = z := ⟨_, rfl⟩
      have hx3 : Ra 0 60 x3 := ra_of ex3 (si_T hG (isT_n hh))
      refine z_callVIp zh mv_Figures_65 dX0_openNotices_9 (ck_T (isT_n hh)) rfl (s_X7_size g (isT_n hh) ex3) ⟨Nat.le_of_ble_eq_true rfl, Nat.le_of_ble_eq_true rfl⟩ rfl rfl (Nat.le_of_ble_eq_true rfl) ?_
      refine z_icmp_ge (tgt := 33) zh dX0_openNotices_12 rfl (fun q4 => ?_) (fun q4 => ?_)
      · refine z_iloadn zh dX0_openNotices_33 rfl ?_
        exact z_iret zh dX0_openNotices_34 ⟨_, rfl, rfl, rfl, trivial⟩
      · have r5 : Ra 0 59 x2 := rb_lt_l hx3 hx2 (rb_nle q4) (by decide)
        have r6 : Ra 1 60 x3 := rb_lt_r hx2 hx3 (rb_nle q4) (by decide)
        refine z_iloadn zh dX0_openNotices_15 rfl ?_
        refine z_aloadnR zh dX0_openNotices_16 rfl ?_
        refine z_getf zh fl_Figures_73 dX0_openNotices_17 (ck_H hh) rfl rfl ?_
        refine z_iconst zh dX0_openNotices_20 ki_4 ?_
        refine z_iloadn zh dX0_openNotices_21 rfl ?_
        refine z_callVI zh mv_Figures_70 dX0_openNotices_22 (ck_T (isT_n hh)) rfl (s_X7_get g (isT_n hh) ex3 hx3) ⟨Nat.le_of_ble_eq_true rfl, Nat.le_of_ble_eq_true rfl⟩ rfl rfl (Nat.le_of_ble_eq_true rfl) ?_
        rintro x7 _ _ ⟨rfl, rfl, gx7⟩
        refine y_iaddT zh dX0_openNotices_25 (fun x8 => ?_)
        refine z_istoren zh dX0_openNotices_26 (by decide) (L' := [some (rf g h), some (.int x8), some (.int x2)]) rfl ?_
        refine y_iinc (L' := fun z => [some (rf g h), some (.int x8), some (.int z)]) zh dX0_openNotices_27 (by decide) rfl (by decide +kernel) r5 (u := 1) (v := 60) rfl rfl (by decide) (by decide) (fun _ => rfl) (fun x9 hc9 hx9 => ?_)
        refine z_goto (tgt := 4) zh dX0_openNotices_30 rfl ?_
        exact ih4 x8 x9 (ra_w hx9 (by decide) (by decide)) (ms_up hc9 (by decide) hn4)
  exact J4 61 (nI 0) (nI 0) (ra_w rl_0 (by decide) (by decide)) (ms_u0 rl_0 (by decide))
set_option maxRecDepth 20000 in
theorem s_X0_shortSet (g : GE) {sp : Nat → Nat → Bool} {σ : Iv} {iv : Iv} {lv : Lv} {h : Nat} (hh : isH h) (hG : SI sp σ iv)  : ConI g yX0_shortSet cX0_shortSet 4 (some .int) 2 [rf g h] iv lv (fun r iv' lv' => iv = iv' ∧ lv = lv' ∧ True) := by
  refine con_intro (own := "RollingNets$Figures") (by decide +kernel) rfl (Nat.le_of_ble_eq_true rfl) (L0 := [some (rf g h), none, none, none]) rfl (fun Z zh => ?_)
  refine z_iconst zh dX0_shortSet_0 ki_0 ?_
  refine z_istoren zh dX0_shortSet_1 (by decide) (L' := [some (rf g h), some (.int (nI 0)), none, none]) rfl ?_
  refine z_iconst zh dX0_shortSet_2 ki_0 ?_
  refine z_istoren zh dX0_shortSet_3 (by decide) (L' := [some (rf g h), some (.int (nI 0)), some (.int (nI 0)), none]) rfl ?_
  have J4 : ∀ (n : Nat) (x1 : Int32) (x2 : Int32), Ra 0 6 x2 → 6 - x2.toInt < (n : Int) → Z 4 [some (rf g h), some (.int x1), some (.int x2), none] [] iv lv := by
    intro n
    induction n with
    | zero => intro x1 x2 hx2 hn4; exact (ms_uz hx2 hn4).elim
    | succ n ih4 =>
      intro x1 x2 hx2 hn4
      refine z_iloadn zh dX0_shortSet_4 rfl ?_
      refine z_bipush zh dX0_shortSet_5 kb_6 ?_
      refine z_icmp_ge (tgt := 51) zh dX0_shortSet_7 rfl (fun q3 => ?_) (fun q3 => ?_)
      · have r4 : Ra 6 6 x2 := rb_le_r rl_6 hx2 q3 (by decide)
        refine z_iloadn zh dX0_shortSet_51 rfl ?_
        exact z_iret zh dX0_shortSet_52 ⟨_, rfl, rfl, rfl, trivial⟩
      · have r5 : Ra 0 5 x2 := rb_lt_l rl_6 hx2 (rb_nle q3) (by decide)
        refine z_iconst zh dX0_shortSet_10 ki_0 ?_
        refine z_istoren zh dX0_shortSet_11 (by decide) (L' := [some (rf g h), some (.int x1), some (.int x2), some (.int (nI 0))]) rfl ?_
        have J12 : ∀ (n : Nat) (x6 : Int32) (x7 : Int32), Ra 0 12 x7 → 12 - x7.toInt < (n : Int) → Z 12 [some (rf g h), some (.int x6), some (.int x2), some (.int x7)] [] iv lv := by
          intro n
          induction n with
          | zero => intro x6 x7 hx7 hn12; exact (ms_uz hx7 hn12).elim
          | succ n ih12 =>
            intro x6 x7 hx7 hn12
            refine z_iloadn zh dX0_shortSet_12 rfl ?_
            refine z_aloadnR zh dX0_shortSet_13 rfl ?_
            refine z_callVI zh mv_Figures_42 dX0_shortSet_14 (ck_H hh) rfl (s_X1_members g hh hG) ⟨Nat.le_of_ble_eq_true rfl, Nat.le_of_ble_eq_true rfl⟩ rfl rfl (Nat.le_of_ble_eq_true rfl) ?_
            rintro x8 _ _ ⟨rfl, rfl, hx8⟩
            refine z_icmp_ge (tgt := 45) zh dX0_shortSet_17 rfl (fun q9 => ?_) (fun q9 => ?_)
            · have r10 : Ra 2 12 x7 := rb_le_r hx8 hx7 q9 (by decide)
              refine y_iinc (L' := fun z => [some (rf g h), some (.int x6), some (.int z), some (.int x7)]) zh dX0_shortSet_45 (by decide) rfl (by decide +kernel) r5 (u := 1) (v := 6) rfl rfl (by decide) (by decide) (fun _ => rfl) (fun x11 hc11 hx11 => ?_)
              refine z_goto (tgt := 4) zh dX0_shortSet_48 rfl ?_
              refine z_forget zh [true, true, true, false] (L2 := [some (rf g h), some (.int x6), some (.int x11), none]) rfl ?_
              exact ih4 x6 x11 (ra_w hx11 (by decide) (by decide)) (ms_up hc11 (by decide) hn4)
            · have r12 : Ra 0 11 x7 := rb_lt_l hx8 hx7 (rb_nle q9) (by decide)
              refine z_aloadnR zh dX0_shortSet_20 rfl ?_
              refine z_getf zh fl_Figures_9 dX0_shortSet_21 (ck_H hh) rfl rfl ?_
              refine z_iloadn zh dX0_shortSet_24 rfl ?_
              refine y_mald zh (ck_markets hh) dX0_shortSet_25 r5 (by decide) (by decide) (fun j13 hj13 _ _ => ?_)
              refine z_iloadn zh dX0_shortSet_26 rfl ?_
              refine z_callVI zh mv_Figures_54 dX0_shortSet_27 (ck_M (isM_of hh hj13)) rfl (s_X3_shortOf g (isM_of hh hj13) r12 hG) ⟨Nat.le_of_ble_eq_true rfl, Nat.le_of_ble_eq_true rfl⟩ rfl rfl (Nat.le_of_ble_eq_true rfl) ?_
              rintro x14 _ _ ⟨rfl, rfl, hx14⟩
              have J39 : ∀ (x15 : Int32), Z 39 [some (rf g h), some (.int x15), some (.int x2), some (.int x7)] [] iv lv := by
                intro x15
                refine y_iinc (L' := fun z => [some (rf g h), some (.int x15), some (.int x2), some (.int z)]) zh dX0_shortSet_39 (by decide) rfl (by decide +kernel) r12 (u := 1) (v := 12) rfl rfl (by decide) (by decide) (fun _ => rfl) (fun x16 hc16 hx16 => ?_)
                refine z_goto (tgt := 12) zh dX0_shortSet_42 rfl ?_
                exact ih12 x15 x16 (ra_w hx16 (by decide) (by decide)) (ms_up hc16 (by decide) hn12)
              refine z_if_le (tgt := 39) zh dX0_shortSet_30 rfl (fun q17 => ?_) (fun q17 => ?_)
              · have r18 : Ra 0 0 x14 := rb_le_l ra_z hx14 q17 (by decide)
                exact J39 x6
              · have r19 : Ra 1 2147483647 x14 := rb_lt_r ra_z hx14 (rb_nle q17) (by decide)
                refine z_iloadn zh dX0_shortSet_33 rfl ?_
                refine z_iconst zh dX0_shortSet_34 ki_1 ?_
                refine z_iloadn zh dX0_shortSet_35 rfl ?_
                refine y_ishlT zh dX0_shortSet_36 (fun x20 => ?_)
                refine y_iorT zh dX0_shortSet_37 (fun x21 => ?_)
                refine z_istoren zh dX0_shortSet_38 (by decide) (L' := [some (rf g h), some (.int x21), some (.int x2), some (.int x7)]) rfl ?_
                exact J39 x21
        exact J12 13 x1 (nI 0) (ra_w rl_0 (by decide) (by decide)) (ms_u0 rl_0 (by decide))
  exact J4 7 (nI 0) (nI 0) (ra_w rl_0 (by decide) (by decide)) (ms_u0 rl_0 (by decide))
set_option maxRecDepth 20000 in
theorem s_X0_sunk (g : GE) {sp : Nat → Nat → Bool} {σ : Iv} {iv : Iv} {lv : Lv} {h : Nat} {a1 : Int32} (hh : isH h) (ha1 : Ra (-99) 99 a1) (hG : SI sp σ iv)  : ConI g yX0_sunk cX0_sunk 8 (some .int) 2 [rf g h, .int a1] iv lv (fun r iv' lv' => iv = iv' ∧ lv = lv' ∧ True) := by
  refine con_intro (own := "RollingNets$Figures") (by decide +kernel) rfl (Nat.le_of_ble_eq_true rfl) (L0 := [some (rf g h), some (.int a1), none, none, none, none, none, none]) rfl (fun Z zh => ?_)
  refine z_iconst zh dX0_sunk_0 ki_0 ?_
  refine z_istoren zh dX0_sunk_1 (by decide) (L' := [some (rf g h), some (.int a1), some (.int (nI 0)), none, none, none, none, none]) rfl ?_
  refine z_iconst zh dX0_sunk_2 ki_0 ?_
  refine z_istoren zh dX0_sunk_3 (by decide) (L' := [some (rf g h), some (.int a1), some (.int (nI 0)), some (.int (nI 0)), none, none, none, none]) rfl ?_
  have J4 : ∀ (n : Nat) (x1 : Int32) (x2 : Int32), Ra 0 12 x2 → 12 - x2.toInt < (n : Int) → Z 4 [some (rf g h), some (.int a1), some (.int x1), some (.int x2), none, none, none, none] [] iv lv := by
    intro n
    induction n with
    | zero => intro x1 x2 hx2 hn4; exact (ms_uz hx2 hn4).elim
    | succ n ih4 =>
      intro x1 x2 hx2 hn4
      refine z_iloadn zh dX0_sunk_4 rfl ?_
      refine z_aloadnR zh dX0_sunk_5 rfl ?_
      refine z_callVI zh mv_Figures_42 dX0_sunk_6 (ck_H hh) rfl (s_X1_members g hh hG) ⟨Nat.le_of_ble_eq_true rfl, Nat.le_of_ble_eq_true rfl⟩ rfl rfl (Nat.le_of_ble_eq_true rfl) ?_
      rintro x3 _ _ ⟨rfl, rfl, hx3⟩
      refine z_icmp_ge (tgt := 96) zh dX0_sunk_9 rfl (fun q4 => ?_) (fun q4 => ?_)
      · have r5 : Ra 2 12 x2 := rb_le_r hx3 hx2 q4 (by decide)
        refine z_iloadn zh dX0_sunk_96 rfl ?_
        exact z_iret zh dX0_sunk_97 ⟨_, rfl, rfl, rfl, trivial⟩
      · have r6 : Ra 0 11 x2 := rb_lt_l hx3 hx2 (rb_nle q4) (by decide)
        refine z_aloadnR zh dX0_sunk_12 rfl ?_
        refine z_getf zh fl_Figures_76 dX0_sunk_13 (ck_H hh) rfl rfl ?_
        refine z_iloadn zh dX0_sunk_16 rfl ?_
        refine y_lald zh (ck_cash hh) dX0_sunk_17 r6 (by decide) (by decide) (fun l7 => ?_)
        refine z_aloadnR zh dX0_sunk_18 rfl ?_
        refine z_getf zh fl_Figures_111 dX0_sunk_19 (ck_H hh) rfl rfl ?_
        refine z_iloadn zh dX0_sunk_22 rfl ?_
        refine y_iald zh (ck_pledged hh) dX0_sunk_23 r6 (by decide) (by decide) (fun x8 ex8 => ?_)
        refine y_i2l zh dX0_sunk_24 (fun l9 => ?_)
        refine y_ladd zh dX0_sunk_25 (fun l10 => ?_)
        refine z_lstore zh dX0_sunk_26 (by decide) (L' := [some (rf g h), some (.int a1), some (.int x1), some (.int x2), some (.long l10), none, none, none]) rfl ?_
        refine z_iconst zh dX0_sunk_28 ki_0 ?_
        refine z_istore zh dX0_sunk_29 (by decide) (L' := [some (rf g h), some (.int a1), some (.int x1), some (.int x2), some (.long l10), none, some (.int (nI 0)), none]) rfl ?_
        have J31 : ∀ (n : Nat) (l11 : Int64) (x12 : Int32), Ra 0 6 x12 → 6 - x12.toInt < (n : Int) → Z 31 [some (rf g h), some (.int a1), some (.int x1), some (.int x2), some (.long l11), none, some (.int x12), none] [] iv lv := by
          intro n
          induction n with
          | zero => intro l11 x12 hx12 hn31; exact (ms_uz hx12 hn31).elim
          | succ n ih31 =>
            intro l11 x12 hx12 hn31
            refine z_iload zh dX0_sunk_31 rfl ?_
            refine z_bipush zh dX0_sunk_33 kb_6 ?_
            refine z_icmp_ge (tgt := 77) zh dX0_sunk_35 rfl (fun q13 => ?_) (fun q13 => ?_)
            · have r14 : Ra 6 6 x12 := rb_le_r rl_6 hx12 q13 (by decide)
              refine z_lload zh dX0_sunk_77 rfl ?_
              refine z_lconst (v := 0) zh dX0_sunk_79 (by decide) ?_
              refine y_lcmp zh dX0_sunk_80 (fun x15 hx15 => ?_)
              have J90 : ∀ (x16 : Int32), Z 90 [some (rf g h), some (.int a1), some (.int x16), some (.int x2), some (.long l11), none, some (.int x12), none] [] iv lv := by
                intro x16
                refine y_iinc (L' := fun z => [some (rf g h), some (.int a1), some (.int x16), some (.int z), some (.long l11), none, some (.int x12), none]) zh dX0_sunk_90 (by decide) rfl (by decide +kernel) r6 (u := 1) (v := 12) rfl rfl (by decide) (by decide) (fun _ => rfl) (fun x17 hc17 hx17 => ?_)
                refine z_goto (tgt := 4) zh dX0_sunk_93 rfl ?_
                refine z_forget zh [true, true, true, true, false, false, false, false] (L2 := [some (rf g h), some (.int a1), some (.int x16), some (.int x17), none, none, none, none]) rfl ?_
                exact ih4 x16 x17 (ra_w hx17 (by decide) (by decide)) (ms_up hc17 (by decide) hn4)
              refine z_if_ge (tgt := 90) zh dX0_sunk_81 rfl (fun q18 => ?_) (fun q18 => ?_)
              · have r19 : Ra 0 1 x15 := rb_le_r ra_z hx15 q18 (by decide)
                exact J90 x1
              · have r20 : Ra (-1) (-1) x15 := rb_lt_l ra_z hx15 (rb_nle q18) (by decide)
                refine z_iloadn zh dX0_sunk_84 rfl ?_
                refine z_iconst zh dX0_sunk_85 ki_1 ?_
                refine z_iloadn zh dX0_sunk_86 rfl ?_
                refine y_ishlT zh dX0_sunk_87 (fun x21 => ?_)
                refine y_iorT zh dX0_sunk_88 (fun x22 => ?_)
                refine z_istoren zh dX0_sunk_89 (by decide) (L' := [some (rf g h), some (.int a1), some (.int x22), some (.int x2), some (.long l11), none, some (.int x12), none]) rfl ?_
                exact J90 x22
            · have r23 : Ra 0 5 x12 := rb_lt_l rl_6 hx12 (rb_nle q13) (by decide)
              refine z_aloadnR zh dX0_sunk_38 rfl ?_
              refine z_getf zh fl_Figures_9 dX0_sunk_39 (ck_H hh) rfl rfl ?_
              refine z_iload zh dX0_sunk_42 rfl ?_
              refine y_mald zh (ck_markets hh) dX0_sunk_44 r23 (by decide) (by decide) (fun j24 hj24 _ _ => ?_)
              refine z_astore zh dX0_sunk_45 (by decide) (L' := [some (rf g h), some (.int a1), some (.int x1), some (.int x2), some (.long l11), none, some (.int x12), some (rf g (h + 60 + 20 * j24))]) rfl ?_
              refine z_lload zh dX0_sunk_47 rfl ?_
              refine z_aloadR zh dX0_sunk_49 rfl ?_
              refine z_aloadR zh dX0_sunk_51 rfl ?_
              refine z_getf zh fl_Figures_122 dX0_sunk_53 (ck_M (isM_of hh hj24)) rfl rfl ?_
              refine z_iloadn zh dX0_sunk_56 rfl ?_
              refine y_iald zh (ck_mi 6 (by decide) (isM_of hh hj24)) dX0_sunk_57 r6 (by decide) (by decide) (fun x25 ex25 => ?_)
              refine z_callVL zh mv_Figures_101 dX0_sunk_58 (ck_M (isM_of hh hj24)) rfl (s_X3_worth g (isM_of hh hj24) hG) ⟨Nat.le_of_ble_eq_true rfl, Nat.le_of_ble_eq_true rfl⟩ rfl rfl (Nat.le_of_ble_eq_true rfl) ?_
              rintro l26 _ _ ⟨rfl, rfl, _⟩
              refine z_iloadn zh dX0_sunk_61 rfl ?_
              refine y_i2l zh dX0_sunk_62 (fun l27 => ?_)
              refine y_lmul zh dX0_sunk_63 (fun l28 => ?_)
              refine z_ldc2 zh dX0_sunk_64 kl_Figures_105 ?_
              refine y_ldiv zh dX0_sunk_67 (by decide) (fun l29 => ?_)
              refine y_ladd zh dX0_sunk_68 (fun l30 => ?_)
              refine z_lstore zh dX0_sunk_69 (by decide) (L' := [some (rf g h), some (.int a1), some (.int x1), some (.int x2), some (.long l30), none, some (.int x12), some (rf g (h + 60 + 20 * j24))]) rfl ?_
              refine y_iinc (L' := fun z => [some (rf g h), some (.int a1), some (.int x1), some (.int x2), some (.long l30), none, some (.int z), some (rf g (h + 60 + 20 * j24))]) zh dX0_sunk_71 (by decide) rfl (by decide +kernel) r23 (u := 1) (v := 6) rfl rfl (by decide) (by decide) (fun _ => rfl) (fun x31 hc31 hx31 => ?_)
              refine z_goto (tgt := 31) zh dX0_sunk_74 rfl ?_
              refine z_forget zh [true, true, true, true, true, false, true, false] (L2 := [some (rf g h), some (.int a1), some (.int x1), some (.int x2), some (.long l30), none, some (.int x31), none]) rfl ?_
              exact ih31 l30 x31 (ra_w hx31 (by decide) (by decide)) (ms_up hc31 (by decide) hn31)
        exact J31 7 l10 (nI 0) (ra_w rl_0 (by decide) (by decide)) (ms_u0 rl_0 (by decide))
  exact J4 13 (nI 0) (nI 0) (ra_w rl_0 (by decide) (by decide)) (ms_u0 rl_0 (by decide))
set_option maxRecDepth 20000 in
theorem s_X1_hasMember (g : GE) {sp : Nat → Nat → Bool} {σ : Iv} {iv : Iv} {lv : Lv} {h : Nat} {a1 : Int32} (hh : isH h) (hG : SI sp σ iv)  : ConI g yX1_hasMember cX1_hasMember 2 (some .boolean) 1 [rf g h, .int a1] iv lv (fun r iv' lv' => iv = iv' ∧ lv = lv' ∧ Ra 0 1 r ∧ (¬ r = 0 → Ra 0 11 a1)) := by
  refine con_intro (own := "RollingNets$House") (by decide +kernel) rfl (Nat.le_of_ble_eq_true rfl) (L0 := [some (rf g h), some (.int a1)]) rfl (fun Z zh => ?_)
  refine z_iloadn zh dX1_hasMember_0 rfl ?_
  refine z_if_lt (tgt := 18) zh dX1_hasMember_1 rfl (fun q1 => ?_) (fun q1 => ?_)
  · have r2 : Ra (-2147483648) (-1) a1 := rb_lt_l ra_z (ra_tt a1) q1 (by decide)
    refine z_iconst zh dX1_hasMember_18 ki_0 ?_
    exact z_zret zh dX1_hasMember_19 (ra_01 (ra_w rl_0 (by decide) (by decide))) ⟨_, rfl, rfl, rfl, (ra_w rl_0 (by decide) (by decide)), (fun q => absurd rfl q)⟩
  · have r3 : Ra 0 2147483647 a1 := rb_le_r ra_z (ra_tt a1) (rb_nlt q1) (by decide)
    refine z_iloadn zh dX1_hasMember_4 rfl ?_
    refine z_aloadnR zh dX1_hasMember_5 rfl ?_
    refine z_getf zh fl_House_13 dX1_hasMember_6 (ck_H hh) rfl rfl ?_
    refine z_iconst zh dX1_hasMember_9 ki_0 ?_
    refine y_ialdN zh (ck_told hh) dX1_hasMember_10 (by decide) (fun x4 ex4 => ?_)
    have hx4 : Ra 2 12 x4 := ra_of ex4 (si_H hG hh 1 (by decide) rfl)
    refine z_icmp_ge (tgt := 18) zh dX1_hasMember_11 rfl (fun q5 => ?_) (fun q5 => ?_)
    · have r6 : Ra 2 2147483647 a1 := rb_le_r hx4 r3 q5 (by decide)
      refine z_iconst zh dX1_hasMember_18 ki_0 ?_
      exact z_zret zh dX1_hasMember_19 (ra_01 (ra_w rl_0 (by decide) (by decide))) ⟨_, rfl, rfl, rfl, (ra_w rl_0 (by decide) (by decide)), (fun q => absurd rfl q)⟩
    · have r7 : Ra 0 11 a1 := rb_lt_l hx4 r3 (rb_nle q5) (by decide)
      refine z_iconst zh dX1_hasMember_14 ki_1 ?_
      refine z_goto (tgt := 19) zh dX1_hasMember_15 rfl ?_
      exact z_zret zh dX1_hasMember_19 (ra_01 (ra_w rl_1 (by decide) (by decide))) ⟨_, rfl, rfl, rfl, (ra_w rl_1 (by decide) (by decide)), (fun _ => r7)⟩
set_option maxRecDepth 20000 in
theorem s_X8_isIssue (g : GE) {sp : Nat → Nat → Bool} {σ : Iv} {iv : Iv} {lv : Lv} {a1 : Int32}  (hG : SI sp σ iv)  : ConI g yX8_isIssue cX8_isIssue 1 (some .boolean) 1 [.int a1] iv lv (fun r iv' lv' => iv = iv' ∧ lv = lv' ∧ Ra 0 1 r ∧ (¬ r = 0 → Ra 0 5 a1)) := by
  refine con_intro (own := "RollingNets") (by decide +kernel) rfl (Nat.le_of_ble_eq_true rfl) (L0 := [some (.int a1)]) rfl (fun Z zh => ?_)
  refine z_iloadn zh dX8_isIssue_0 rfl ?_
  refine z_if_lt (tgt := 14) zh dX8_isIssue_1 rfl (fun q1 => ?_) (fun q1 => ?_)
  · have r2 : Ra (-2147483648) (-1) a1 := rb_lt_l ra_z (ra_tt a1) q1 (by decide)
    refine z_iconst zh dX8_isIssue_14 ki_0 ?_
    exact z_zret zh dX8_isIssue_15 (ra_01 (ra_w rl_0 (by decide) (by decide))) ⟨_, rfl, rfl, rfl, (ra_w rl_0 (by decide) (by decide)), (fun q => absurd rfl q)⟩
  · have r3 : Ra 0 2147483647 a1 := rb_le_r ra_z (ra_tt a1) (rb_nlt q1) (by decide)
    refine z_iloadn zh dX8_isIssue_4 rfl ?_
    refine z_bipush zh dX8_isIssue_5 kb_6 ?_
    refine z_icmp_ge (tgt := 14) zh dX8_isIssue_7 rfl (fun q4 => ?_) (fun q4 => ?_)
    · have r5 : Ra 6 2147483647 a1 := rb_le_r rl_6 r3 q4 (by decide)
      refine z_iconst zh dX8_isIssue_14 ki_0 ?_
      exact z_zret zh dX8_isIssue_15 (ra_01 (ra_w rl_0 (by decide) (by decide))) ⟨_, rfl, rfl, rfl, (ra_w rl_0 (by decide) (by decide)), (fun q => absurd rfl q)⟩
    · have r6 : Ra 0 5 a1 := rb_lt_l rl_6 r3 (rb_nle q4) (by decide)
      refine z_iconst zh dX8_isIssue_10 ki_1 ?_
      refine z_goto (tgt := 15) zh dX8_isIssue_11 rfl ?_
      exact z_zret zh dX8_isIssue_15 (ra_01 (ra_w rl_1 (by decide) (by decide))) ⟨_, rfl, rfl, rfl, (ra_w rl_1 (by decide) (by decide)), (fun _ => r6)⟩
set_option maxRecDepth 20000 in
theorem s_X1_addDeal (g : GE) {sp : Nat → Nat → Bool} {σ : Iv} {iv : Iv} {lv : Lv} {h : Nat} {a1 : Int32} {a2 : Int32} {a3 : Int32} {a4 : Int32} {a5 : Int32} {a6 : Int32} (hh : isH h) (ha6 : Ra 0 1 a6) (hG : SI sp σ iv) (hq : Sq sp) : ConI g yX1_addDeal cX1_addDeal 8 (some .int) 3 [rf g h, .int a1, .int a2, .int a3, .int a4, .int a5, .int a6] iv lv (fun r iv lv => SI sp σ iv ∧ Ra (-1) 199 r) := by
  refine con_intro (own := "RollingNets$House") (by decide +kernel) rfl (Nat.le_of_ble_eq_true rfl) (L0 := [some (rf g h), some (.int a1), some (.int a2), some (.int a3), some (.int a4), some (.int a5), some (.int a6), none]) rfl (fun Z zh => ?_)
  refine z_aloadnR zh dX1_addDeal_0 rfl ?_
  refine z_iloadn zh dX1_addDeal_1 rfl ?_
  refine z_callVI zh mv_House_122 dX1_addDeal_2 (ck_H hh) rfl (s_X1_hasMember g hh hG) ⟨Nat.le_of_ble_eq_true rfl, Nat.le_of_ble_eq_true rfl⟩ rfl rfl (Nat.le_of_ble_eq_true rfl) ?_
  rintro x1 _ _ ⟨rfl, rfl, hx1, hz2⟩
  refine z_if_eq (tgt := 28) zh dX1_addDeal_5 rfl (fun q3 => ?_) (fun q3 => ?_)
  · have r4 := rb_eq (u := 0) (v := 0) hx1 ra_z q3 (by decide) (by decide)
    refine z_iconst zh dX1_addDeal_28 ki_m1 ?_
    exact z_iret zh dX1_addDeal_29 ⟨_, rfl, hG, (ra_w rl_n1 (by decide) (by decide))⟩
  · have r5 : Ra 1 1 x1 := rb_ne_lo hx1 ra_z q3 (by decide)
    have r6 : Ra 0 11 a1 := (hz2 q3)
    refine z_aloadnR zh dX1_addDeal_8 rfl ?_
    refine z_iloadn zh dX1_addDeal_9 rfl ?_
    refine z_callVI zh mv_House_122 dX1_addDeal_10 (ck_H hh) rfl (s_X1_hasMember g hh hG) ⟨Nat.le_of_ble_eq_true rfl, Nat.le_of_ble_eq_true rfl⟩ rfl rfl (Nat.le_of_ble_eq_true rfl) ?_
    rintro x7 _ _ ⟨rfl, rfl, hx7, hz8⟩
    refine z_if_eq (tgt := 28) zh dX1_addDeal_13 rfl (fun q9 => ?_) (fun q9 => ?_)
    · have r10 := rb_eq (u := 0) (v := 0) hx7 ra_z q9 (by decide) (by decide)
      refine z_iconst zh dX1_addDeal_28 ki_m1 ?_
      exact z_iret zh dX1_addDeal_29 ⟨_, rfl, hG, (ra_w rl_n1 (by decide) (by decide))⟩
    · have r11 : Ra 1 1 x7 := rb_ne_lo hx7 ra_z q9 (by decide)
      have r12 : Ra 0 11 a2 := (hz8 q9)
      refine z_iloadn zh dX1_addDeal_16 rfl ?_
      refine z_iloadn zh dX1_addDeal_17 rfl ?_
      refine z_icmp_eq (tgt := 28) zh dX1_addDeal_18 rfl (fun q13 => ?_) (fun q13 => ?_)
      · refine z_iconst zh dX1_addDeal_28 ki_m1 ?_
        exact z_iret zh dX1_addDeal_29 ⟨_, rfl, hG, (ra_w rl_n1 (by decide) (by decide))⟩
      · refine z_iloadn zh dX1_addDeal_21 rfl ?_
        refine z_callSI zh ms_House_134 dX1_addDeal_22 (s_X8_isIssue g  hG) ⟨Nat.le_of_ble_eq_true rfl, Nat.le_of_ble_eq_true rfl⟩ rfl rfl (Nat.le_of_ble_eq_true rfl) ?_
        rintro x15 _ _ ⟨rfl, rfl, hx15, hz16⟩
        refine z_if_ne (tgt := 30) zh dX1_addDeal_25 rfl (fun q17 => ?_) (fun q17 => ?_)
        · have r18 : Ra 1 1 x15 := rb_ne_lo hx15 ra_z q17 (by decide)
          have r19 : Ra 0 5 a3 := (hz16 q17)
          refine z_iload zh dX1_addDeal_30 rfl ?_
          refine z_iconst zh dX1_addDeal_32 ki_1 ?_
          refine z_sipush zh dX1_addDeal_33 ks_9999 ?_
          refine z_callSI zh ms_House_137 dX1_addDeal_36 (s_X8_within g) ⟨Nat.le_of_ble_eq_true rfl, Nat.le_of_ble_eq_true rfl⟩ rfl rfl (Nat.le_of_ble_eq_true rfl) ?_
          rintro x20 _ _ ⟨rfl, rfl, hx20, hz21⟩
          refine z_if_eq (tgt := 54) zh dX1_addDeal_39 rfl (fun q22 => ?_) (fun q22 => ?_)
          · have r23 := rb_eq (u := 0) (v := 0) hx20 ra_z q22 (by decide) (by decide)
            refine z_iconst zh dX1_addDeal_54 ki_m1 ?_
            exact z_iret zh dX1_addDeal_55 ⟨_, rfl, hG, (ra_w rl_n1 (by decide) (by decide))⟩
          · have r24 : Ra 1 1 x20 := rb_ne_lo hx20 ra_z q22 (by decide)
            have r25 : Ra 1 9999 a4 := (rb_in rl_1 rl_9999 (hz21 q22))
            refine z_iload zh dX1_addDeal_42 rfl ?_
            refine z_iconst zh dX1_addDeal_44 ki_1 ?_
            refine z_sipush zh dX1_addDeal_45 ks_9999 ?_
            refine z_callSI zh ms_House_137 dX1_addDeal_48 (s_X8_within g) ⟨Nat.le_of_ble_eq_true rfl, Nat.le_of_ble_eq_true rfl⟩ rfl rfl (Nat.le_of_ble_eq_true rfl) ?_
            rintro x26 _ _ ⟨rfl, rfl, hx26, hz27⟩
            refine z_if_ne (tgt := 56) zh dX1_addDeal_51 rfl (fun q28 => ?_) (fun q28 => ?_)
            · have r29 : Ra 1 1 x26 := rb_ne_lo hx26 ra_z q28 (by decide)
              have r30 : Ra 1 9999 a5 := (rb_in rl_1 rl_9999 (hz27 q28))
              refine z_aloadnR zh dX1_addDeal_56 rfl ?_
              refine z_getf zh fl_House_43 dX1_addDeal_57 (ck_H hh) rfl rfl ?_
              refine z_callVI zh mv_House_126 dX1_addDeal_60 (ck_T (isT_d hh)) rfl (s_X7_addRow g (isT_d hh) hG (ar_d hG hq hh).1 (ar_d hG hq hh).2) ⟨Nat.le_of_ble_eq_true rfl, Nat.le_of_ble_eq_true rfl⟩ rfl rfl (Nat.le_of_ble_eq_true rfl) ?_
              rintro x31 iv lv ⟨hG, hx31⟩
              refine z_istore zh dX1_addDeal_63 (by decide) (L' := [some (rf g h), some (.int a1), some (.int a2), some (.int a3), some (.int a4), some (.int a5), some (.int a6), some (.int x31)]) rfl ?_
              refine z_aloadnR zh dX1_addDeal_65 rfl ?_
              refine z_getf zh fl_House_43 dX1_addDeal_66 (ck_H hh) rfl rfl ?_
              refine z_iconst zh dX1_addDeal_69 ki_0 ?_
              refine z_iload zh dX1_addDeal_70 rfl ?_
              refine z_iloadn zh dX1_addDeal_72 rfl ?_
              refine z_callVV zh mv_House_130 dX1_addDeal_73 (ck_T (isT_d hh)) rfl (s_X7_put g (isT_d hh) hG (pd_r hG hh rl_0 (by decide) (by decide) r6)) ⟨Nat.le_of_ble_eq_true rfl, Nat.le_of_ble_eq_true rfl⟩ rfl rfl (Nat.le_of_ble_eq_true rfl) ?_
              rintro iv lv hG
              refine z_aloadnR zh dX1_addDeal_76 rfl ?_
              refine z_getf zh fl_House_43 dX1_addDeal_77 (ck_H hh) rfl rfl ?_
              refine z_iconst zh dX1_addDeal_80 ki_1 ?_
              refine z_iload zh dX1_addDeal_81 rfl ?_
              refine z_iloadn zh dX1_addDeal_83 rfl ?_
              refine z_callVV zh mv_House_130 dX1_addDeal_84 (ck_T (isT_d hh)) rfl (s_X7_put g (isT_d hh) hG (pd_r hG hh rl_1 (by decide) (by decide) r12)) ⟨Nat.le_of_ble_eq_true rfl, Nat.le_of_ble_eq_true rfl⟩ rfl rfl (Nat.le_of_ble_eq_true rfl) ?_
              rintro iv lv hG
              refine z_aloadnR zh dX1_addDeal_87 rfl ?_
              refine z_getf zh fl_House_43 dX1_addDeal_88 (ck_H hh) rfl rfl ?_
              refine z_iconst zh dX1_addDeal_91 ki_2 ?_
              refine z_iload zh dX1_addDeal_92 rfl ?_
              refine z_iloadn zh dX1_addDeal_94 rfl ?_
              refine z_callVV zh mv_House_130 dX1_addDeal_95 (ck_T (isT_d hh)) rfl (s_X7_put g (isT_d hh) hG (pd_f hG hh rl_2 (by decide))) ⟨Nat.le_of_ble_eq_true rfl, Nat.le_of_ble_eq_true rfl⟩ rfl rfl (Nat.le_of_ble_eq_true rfl) ?_
              rintro iv lv hG
              refine z_aloadnR zh dX1_addDeal_98 rfl ?_
              refine z_getf zh fl_House_43 dX1_addDeal_99 (ck_H hh) rfl rfl ?_
              refine z_iconst zh dX1_addDeal_102 ki_3 ?_
              refine z_iload zh dX1_addDeal_103 rfl ?_
              refine z_iload zh dX1_addDeal_105 rfl ?_
              refine z_callVV zh mv_House_130 dX1_addDeal_107 (ck_T (isT_d hh)) rfl (s_X7_put g (isT_d hh) hG (pd_f hG hh rl_3 (by decide))) ⟨Nat.le_of_ble_eq_true rfl, Nat.le_of_ble_eq_true rfl⟩ rfl rfl (Nat.le_of_ble_eq_true rfl) ?_
              rintro iv lv hG
              refine z_aloadnR zh dX1_addDeal_110 rfl ?_
              refine z_getf zh fl_House_43 dX1_addDeal_111 (ck_H hh) rfl rfl ?_
              refine z_iconst zh dX1_addDeal_114 ki_4 ?_
              refine z_iload zh dX1_addDeal_115 rfl ?_
              refine z_iload zh dX1_addDeal_117 rfl ?_
              refine z_callVV zh mv_House_130 dX1_addDeal_119 (ck_T (isT_d hh)) rfl (s_X7_put g (isT_d hh) hG (pd_f hG hh rl_4 (by decide))) ⟨Nat.le_of_ble_eq_true rfl, Nat.le_of_ble_eq_true rfl⟩ rfl rfl (Nat.le_of_ble_eq_true rfl) ?_
              rintro iv lv hG
              refine z_aloadnR zh dX1_addDeal_122 rfl ?_
              refine z_getf zh fl_House_43 dX1_addDeal_123 (ck_H hh) rfl rfl ?_
              refine z_iconst zh dX1_addDeal_126 ki_5 ?_
              refine z_iload zh dX1_addDeal_127 rfl ?_
              refine z_iload zh dX1_addDeal_129 rfl ?_
              refine z_callVV zh mv_House_130 dX1_addDeal_131 (ck_T (isT_d hh)) rfl (s_X7_put g (isT_d hh) hG (pd_f hG hh rl_5 (by decide))) ⟨Nat.le_of_ble_eq_true rfl, Nat.le_of_ble_eq_true rfl⟩ rfl rfl (Nat.le_of_ble_eq_true rfl) ?_
              rintro iv lv hG
              refine z_aloadnR zh dX1_addDeal_134 rfl ?_
              refine z_getf zh fl_House_43 dX1_addDeal_135 (ck_H hh) rfl rfl ?_
              refine z_bipush zh dX1_addDeal_138 kb_6 ?_
              refine z_iload zh dX1_addDeal_140 rfl ?_
              refine z_aloadnR zh dX1_addDeal_142 rfl ?_
              refine y_getI zh fl_House_60 dX1_addDeal_143 (ck_H hh) rfl rfl (fun x32 ex32 => ?_)
              have hx32 : Ra 0 99 x32 := ra_of ex32 (si_H hG hh 0 (by decide) rfl)
              refine z_aloadnR zh dX1_addDeal_146 rfl ?_
              refine z_getf zh fl_House_13 dX1_addDeal_147 (ck_H hh) rfl rfl ?_
              refine z_iconst zh dX1_addDeal_150 ki_1 ?_
              refine y_ialdN zh (ck_told hh) dX1_addDeal_151 (by decide) (fun x33 ex33 => ?_)
              refine y_iaddT zh dX1_addDeal_152 (fun x34 => ?_)
              refine z_callVV zh mv_House_130 dX1_addDeal_153 (ck_T (isT_d hh)) rfl (s_X7_put g (isT_d hh) hG (pd_f hG hh rl_6 (by decide))) ⟨Nat.le_of_ble_eq_true rfl, Nat.le_of_ble_eq_true rfl⟩ rfl rfl (Nat.le_of_ble_eq_true rfl) ?_
              rintro iv lv hG
              refine z_aloadnR zh dX1_addDeal_156 rfl ?_
              refine z_getf zh fl_House_43 dX1_addDeal_157 (ck_H hh) rfl rfl ?_
              refine z_bipush zh dX1_addDeal_160 kb_7 ?_
              refine z_iload zh dX1_addDeal_162 rfl ?_
              refine z_iload zh dX1_addDeal_164 rfl ?_
              refine z_callVV zh mv_House_130 dX1_addDeal_166 (ck_T (isT_d hh)) rfl (s_X7_put g (isT_d hh) hG (pd_f hG hh rl_7 (by decide))) ⟨Nat.le_of_ble_eq_true rfl, Nat.le_of_ble_eq_true rfl⟩ rfl rfl (Nat.le_of_ble_eq_true rfl) ?_
              rintro iv lv hG
              refine z_iload zh dX1_addDeal_169 rfl ?_
              exact z_iret zh dX1_addDeal_171 ⟨_, rfl, hG, hx31⟩
            · have r35 := rb_eq (u := 0) (v := 0) hx26 ra_z q28 (by decide) (by decide)
              refine z_iconst zh dX1_addDeal_54 ki_m1 ?_
              exact z_iret zh dX1_addDeal_55 ⟨_, rfl, hG, (ra_w rl_n1 (by decide) (by decide))⟩
        · have r36 := rb_eq (u := 0) (v := 0) hx15 ra_z q17 (by decide) (by decide)
          refine z_iconst zh dX1_addDeal_28 ki_m1 ?_
          exact z_iret zh dX1_addDeal_29 ⟨_, rfl, hG, (ra_w rl_n1 (by decide) (by decide))⟩
set_option maxRecDepth 20000 in
theorem s_X1_buyPrice (g : GE) {sp : Nat → Nat → Bool} {σ : Iv} {iv : Iv} {lv : Lv} {h : Nat} {a1 : Int32} (hh : isH h) (ha1 : Ra 0 5 a1) (hG : SI sp σ iv)  : ConI g yX1_buyPrice cX1_buyPrice 3 (some .int) 1 [rf g h, .int a1] iv lv (fun r iv' lv' => iv = iv' ∧ lv = lv' ∧ True) := by
  refine con_intro (own := "RollingNets$House") (by decide +kernel) rfl (Nat.le_of_ble_eq_true rfl) (L0 := [some (rf g h), some (.int a1), none]) rfl (fun Z zh => ?_)
  refine z_aloadnR zh dX1_buyPrice_0 rfl ?_
  refine z_getf zh fl_House_34 dX1_buyPrice_1 (ck_H hh) rfl rfl ?_
  refine z_iloadn zh dX1_buyPrice_4 rfl ?_
  refine y_mald zh (ck_markets hh) dX1_buyPrice_5 ha1 (by decide) (by decide) (fun j1 hj1 _ _ => ?_)
  refine y_getI zh fl_House_119 dX1_buyPrice_6 (ck_M (isM_of hh hj1)) rfl rfl (fun x2 ex2 => ?_)
  refine z_istoren zh dX1_buyPrice_9 (by decide) (L' := [some (rf g h), some (.int a1), some (.int x2)]) rfl ?_
  refine z_iloadn zh dX1_buyPrice_10 rfl ?_
  refine z_iloadn zh dX1_buyPrice_11 rfl ?_
  refine z_aloadnR zh dX1_buyPrice_12 rfl ?_
  refine z_getf zh fl_House_13 dX1_buyPrice_13 (ck_H hh) rfl rfl ?_
  refine z_iconst zh dX1_buyPrice_16 ki_5 ?_
  refine y_ialdN zh (ck_told hh) dX1_buyPrice_17 (by decide) (fun x3 ex3 => ?_)
  refine y_imulT zh dX1_buyPrice_18 (fun x4 => ?_)
  refine z_bipush zh dX1_buyPrice_19 kb_100 ?_
  refine y_idivT zh dX1_buyPrice_21 (ra_nz rl_100 (by decide)) (fun x5 => ?_)
  refine y_iaddT zh dX1_buyPrice_22 (fun x6 => ?_)
  exact z_iret zh dX1_buyPrice_23 ⟨_, rfl, rfl, rfl, trivial⟩
set_option maxRecDepth 20000 in
theorem s_X1_freeOf (g : GE) {sp : Nat → Nat → Bool} {σ : Iv} {iv : Iv} {lv : Lv} {h : Nat} {a1 : Int32} {a2 : Int32} (hh : isH h) (ha1 : Ra 0 5 a1) (ha2 : Ra 0 11 a2) (hG : SI sp σ iv)  : ConL g yX1_freeOf cX1_freeOf 4 (some .long) 1 [rf g h, .int a1, .int a2] iv lv (fun r iv' lv' => iv = iv' ∧ lv = lv' ∧ True) := by
  refine con_intro (own := "RollingNets$House") (by decide +kernel) rfl (Nat.le_of_ble_eq_true rfl) (L0 := [some (rf g h), some (.int a1), some (.int a2), none]) rfl (fun Z zh => ?_)
  refine z_aloadnR zh dX1_freeOf_0 rfl ?_
  refine z_getf zh fl_House_34 dX1_freeOf_1 (ck_H hh) rfl rfl ?_
  refine z_iloadn zh dX1_freeOf_4 rfl ?_
  refine y_mald zh (ck_markets hh) dX1_freeOf_5 ha1 (by decide) (by decide) (fun j1 hj1 _ _ => ?_)
  refine z_astoren zh dX1_freeOf_6 (by decide) (L' := [some (rf g h), some (.int a1), some (.int a2), some (rf g (h + 60 + 20 * j1))]) rfl ?_
  refine z_aloadnR zh dX1_freeOf_7 rfl ?_
  refine z_getf zh fl_House_28 dX1_freeOf_8 (ck_H hh) rfl rfl ?_
  refine z_iloadn zh dX1_freeOf_11 rfl ?_
  refine y_zald zh (ck_susp hh) dX1_freeOf_12 ha2 (by decide) (by decide) (fun x2 ex2 => ?_)
  refine z_if_eq (tgt := 20) zh dX1_freeOf_13 rfl (fun q3 => ?_) (fun q3 => ?_)
  · have r4 := rb_eq (u := 0) (v := 0) (ra_tt x2) ra_z q3 (by decide) (by decide)
    refine z_lconst (v := 0) zh dX1_freeOf_20 (by decide) ?_
    refine z_aloadnR zh dX1_freeOf_21 rfl ?_
    refine z_getf zh fl_House_90 dX1_freeOf_22 (ck_M (isM_of hh hj1)) rfl rfl ?_
    refine z_iloadn zh dX1_freeOf_25 rfl ?_
    refine y_lald zh (ck_stock (isM_of hh hj1)) dX1_freeOf_26 ha2 (by decide) (by decide) (fun l5 => ?_)
    refine z_aloadnR zh dX1_freeOf_27 rfl ?_
    refine z_getf zh fl_House_93 dX1_freeOf_28 (ck_M (isM_of hh hj1)) rfl rfl ?_
    refine z_iloadn zh dX1_freeOf_31 rfl ?_
    refine y_iald zh (ck_mi 2 (by decide) (isM_of hh hj1)) dX1_freeOf_32 ha2 (by decide) (by decide) (fun x6 ex6 => ?_)
    refine y_i2l zh dX1_freeOf_33 (fun l7 => ?_)
    refine y_lsub zh dX1_freeOf_34 (fun l8 => ?_)
    refine y_mmax_longT zh ma_House_96 mc_max_long dX1_freeOf_35 ⟨Nat.le_of_ble_eq_true rfl, Nat.le_of_ble_eq_true rfl⟩ (fun l9 => ?_)
    exact z_lret zh dX1_freeOf_38 ⟨_, rfl, rfl, rfl, trivial⟩
  · refine z_lconst (v := 0) zh dX1_freeOf_16 (by decide) ?_
    refine z_goto (tgt := 38) zh dX1_freeOf_17 rfl ?_
    exact z_lret zh dX1_freeOf_38 ⟨_, rfl, rfl, rfl, trivial⟩
set_option maxRecDepth 20000 in
theorem s_X1_canLend (g : GE) {sp : Nat → Nat → Bool} {σ : Iv} {iv : Iv} {lv : Lv} {h : Nat} {a1 : Int32} {a2 : Int32} (hh : isH h) (ha1 : Ra 0 5 a1) (ha2 : Ra 0 11 a2) (hG : SI sp σ iv)  : ConI g yX1_canLend cX1_canLend 6 (some .int) 2 [rf g h, .int a1, .int a2] iv lv (fun r iv' lv' => iv = iv' ∧ lv = lv' ∧ True) := by
  refine con_intro (own := "RollingNets$House") (by decide +kernel) rfl (Nat.le_of_ble_eq_true rfl) (L0 := [some (rf g h), some (.int a1), some (.int a2), none, none, none]) rfl (fun Z zh => ?_)
  refine z_aloadnR zh dX1_canLend_0 rfl ?_
  refine z_getf zh fl_House_34 dX1_canLend_1 (ck_H hh) rfl rfl ?_
  refine z_iloadn zh dX1_canLend_4 rfl ?_
  refine y_mald zh (ck_markets hh) dX1_canLend_5 ha1 (by decide) (by decide) (fun j1 hj1 _ _ => ?_)
  refine z_astoren zh dX1_canLend_6 (by decide) (L' := [some (rf g h), some (.int a1), some (.int a2), some (rf g (h + 60 + 20 * j1)), none, none]) rfl ?_
  refine z_aloadnR zh dX1_canLend_7 rfl ?_
  refine z_iloadn zh dX1_canLend_8 rfl ?_
  refine z_callVI zh mv_House_102 dX1_canLend_9 (ck_M (isM_of hh hj1)) rfl (s_X3_shortOf g (isM_of hh hj1) ha2 hG) ⟨Nat.le_of_ble_eq_true rfl, Nat.le_of_ble_eq_true rfl⟩ rfl rfl (Nat.le_of_ble_eq_true rfl) ?_
  rintro x2 _ _ ⟨rfl, rfl, hx2⟩
  refine z_if_le (tgt := 17) zh dX1_canLend_12 rfl (fun q3 => ?_) (fun q3 => ?_)
  · have r4 : Ra 0 0 x2 := rb_le_l ra_z hx2 q3 (by decide)
    refine z_aloadnR zh dX1_canLend_17 rfl ?_
    refine z_getf zh fl_House_106 dX1_canLend_18 (ck_M (isM_of hh hj1)) rfl rfl ?_
    refine z_iloadn zh dX1_canLend_21 rfl ?_
    refine y_iald zh (ck_mi 3 (by decide) (isM_of hh hj1)) dX1_canLend_22 ha2 (by decide) (by decide) (fun x5 ex5 => ?_)
    refine z_aloadnR zh dX1_canLend_23 rfl ?_
    refine z_getf zh fl_House_109 dX1_canLend_24 (ck_M (isM_of hh hj1)) rfl rfl ?_
    refine z_iloadn zh dX1_canLend_27 rfl ?_
    refine y_iald zh (ck_mi 4 (by decide) (isM_of hh hj1)) dX1_canLend_28 ha2 (by decide) (by decide) (fun x6 ex6 => ?_)
    refine y_isubT zh dX1_canLend_29 (fun x7 => ?_)
    refine y_i2l zh dX1_canLend_30 (fun l8 => ?_)
    refine z_lstore zh dX1_canLend_31 (by decide) (L' := [some (rf g h), some (.int a1), some (.int a2), some (rf g (h + 60 + 20 * j1)), some (.long l8), none]) rfl ?_
    refine z_lconst (v := 0) zh dX1_canLend_33 (by decide) ?_
    refine z_aloadnR zh dX1_canLend_34 rfl ?_
    refine z_iloadn zh dX1_canLend_35 rfl ?_
    refine z_iloadn zh dX1_canLend_36 rfl ?_
    refine z_callVL zh mv_House_112 dX1_canLend_37 (ck_H hh) rfl (s_X1_freeOf g hh ha1 ha2 hG) ⟨Nat.le_of_ble_eq_true rfl, Nat.le_of_ble_eq_true rfl⟩ rfl rfl (Nat.le_of_ble_eq_true rfl) ?_
    rintro l9 _ _ ⟨rfl, rfl, _⟩
    refine z_lload zh dX1_canLend_40 rfl ?_
    refine y_mmin_longT zh ma_House_116 mc_min_long dX1_canLend_42 ⟨Nat.le_of_ble_eq_true rfl, Nat.le_of_ble_eq_true rfl⟩ (fun l10 => ?_)
    refine y_mmax_longT zh ma_House_96 mc_max_long dX1_canLend_45 ⟨Nat.le_of_ble_eq_true rfl, Nat.le_of_ble_eq_true rfl⟩ (fun l11 => ?_)
    refine y_l2i zh dX1_canLend_48 (fun x12 => ?_)
    exact z_iret zh dX1_canLend_49 ⟨_, rfl, rfl, rfl, trivial⟩
  · have r13 : Ra 1 2147483647 x2 := rb_lt_r ra_z hx2 (rb_nle q3) (by decide)
    refine z_iconst zh dX1_canLend_15 ki_0 ?_
    exact z_iret zh dX1_canLend_16 ⟨_, rfl, rfl, rfl, trivial⟩
set_option maxRecDepth 20000 in
theorem s_X1_hasOpen (g : GE) {sp : Nat → Nat → Bool} {σ : Iv} {iv : Iv} {lv : Lv} {h : Nat} {a1 : Int32} (hh : isH h) (ha1 : Ra 0 5 a1) (hG : SI sp σ iv)  : ConI g yX1_hasOpen cX1_hasOpen 3 (some .boolean) 3 [rf g h, .int a1] iv lv (fun r iv' lv' => iv = iv' ∧ lv = lv' ∧ Ra 0 1 r) := by
  refine con_intro (own := "RollingNets$House") (by decide +kernel) rfl (Nat.le_of_ble_eq_true rfl) (L0 := [some (rf g h), some (.int a1), none]) rfl (fun Z zh => ?_)
  refine z_iconst zh dX1_hasOpen_0 ki_0 ?_
  refine z_istoren zh dX1_hasOpen_1 (by decide) (L' := [some (rf g h), some (.int a1), some (.int (nI 0))]) rfl ?_
  have J2 : ∀ (n : Nat) (x1 : Int32), Ra 0 200 x1 → 200 - x1.toInt < (n : Int) → Z 2 [some (rf g h), some (.int a1), some (.int x1)] [] iv lv := by
    intro n
    induction n with
    | zero => intro x1 hx1 hn2; exact (ms_uz hx1 hn2).elim
    | succ n ih2 =>
      intro x1 hx1 hn2
      refine z_iloadn zh dX1_hasOpen_2 rfl ?_
      refine z_aloadnR zh dX1_hasOpen_3 rfl ?_
      refine z_getf zh fl_House_43 dX1_hasOpen_4 (ck_H hh) rfl rfl ?_
      obtain ⟨x2, ex2⟩ : ∃ z, iv (h + 7) 2 = z := ⟨_, rfl⟩
      have hx2 : Ra 0 200 x2 := ra_of ex2 (si_T hG (isT_d hh))
      refine z_callVIp zh mv_House_145 dX1_hasOpen_7 (ck_T (isT_d hh)) rfl (s_X7_size g (isT_d hh) ex2) ⟨Nat.le_of_ble_eq_true rfl, Nat.le_of_ble_eq_true rfl⟩ rfl rfl (Nat.le_of_ble_eq_true rfl) ?_
      refine z_icmp_ge (tgt := 47) zh dX1_hasOpen_10 rfl (fun q3 => ?_) (fun q3 => ?_)
      · refine z_iconst zh dX1_hasOpen_47 ki_0 ?_
        refine z_istoren zh dX1_hasOpen_48 (by decide) (L' := [some (rf g h), some (.int a1), some (.int (nI 0))]) rfl ?_
        have J49 : ∀ (n : Nat) (x4 : Int32), Ra 0 60 x4 → 60 - x4.toInt < (n : Int) → Z 49 [some (rf g h), some (.int a1), some (.int x4)] [] iv lv := by
          intro n
          induction n with
          | zero => intro x4 hx4 hn49; exact (ms_uz hx4 hn49).elim
          | succ n ih49 =>
            intro x4 hx4 hn49
            refine z_iloadn zh dX1_hasOpen_49 rfl ?_
            refine z_aloadnR zh dX1_hasOpen_50 rfl ?_
            refine z_getf zh fl_House_47 dX1_hasOpen_51 (ck_H hh) rfl rfl ?_
            obtain ⟨x5, ex5⟩ : ∃ z, iv (h + 17) 2 = z := ⟨_, rfl⟩
            have hx5 : Ra 0 60 x5 := ra_of ex5 (si_T hG (isT_n hh))
            refine z_callVIp zh mv_House_145 dX1_hasOpen_54 (ck_T (isT_n hh)) rfl (s_X7_size g (isT_n hh) ex5) ⟨Nat.le_of_ble_eq_true rfl, Nat.le_of_ble_eq_true rfl⟩ rfl rfl (Nat.le_of_ble_eq_true rfl) ?_
            refine z_icmp_ge (tgt := 77) zh dX1_hasOpen_57 rfl (fun q6 => ?_) (fun q6 => ?_)
            · refine z_iconst zh dX1_hasOpen_77 ki_0 ?_
              exact z_zret zh dX1_hasOpen_78 (ra_01 (ra_w rl_0 (by decide) (by decide))) ⟨_, rfl, rfl, rfl, (ra_w rl_0 (by decide) (by decide))⟩
            · have r7 : Ra 0 59 x4 := rb_lt_l hx5 hx4 (rb_nle q6) (by decide)
              have r8 : Ra 1 60 x5 := rb_lt_r hx4 hx5 (rb_nle q6) (by decide)
              refine z_aloadnR zh dX1_hasOpen_60 rfl ?_
              refine z_iloadn zh dX1_hasOpen_61 rfl ?_
              refine z_iloadn zh dX1_hasOpen_62 rfl ?_
              refine z_callVI zh mv_House_148 dX1_hasOpen_63 (ck_H hh) rfl (s_X1_isOpenNotice g hh r7 ha1 hG) ⟨Nat.le_of_ble_eq_true rfl, Nat.le_of_ble_eq_true rfl⟩ rfl rfl (Nat.le_of_ble_eq_true rfl) ?_
              rintro x9 _ _ ⟨rfl, rfl, hx9⟩
              refine z_if_eq (tgt := 71) zh dX1_hasOpen_66 rfl (fun q10 => ?_) (fun q10 => ?_)
              · have r11 := rb_eq (u := 0) (v := 0) hx9 ra_z q10 (by decide) (by decide)
                refine y_iinc (L' := fun z => [some (rf g h), some (.int a1), some (.int z)]) zh dX1_hasOpen_71 (by decide) rfl (by decide +kernel) r7 (u := 1) (v := 60) rfl rfl (by decide) (by decide) (fun _ => rfl) (fun x12 hc12 hx12 => ?_)
                refine z_goto (tgt := 49) zh dX1_hasOpen_74 rfl ?_
                exact ih49 x12 (ra_w hx12 (by decide) (by decide)) (ms_up hc12 (by decide) hn49)
              · have r13 : Ra 1 1 x9 := rb_ne_lo hx9 ra_z q10 (by decide)
                refine z_iconst zh dX1_hasOpen_69 ki_1 ?_
                exact z_zret zh dX1_hasOpen_70 (ra_01 (ra_w rl_1 (by decide) (by decide))) ⟨_, rfl, rfl, rfl, (ra_w rl_1 (by decide) (by decide))⟩
        exact J49 61 (nI 0) (ra_w rl_0 (by decide) (by decide)) (ms_u0 rl_0 (by decide))
      · have r14 : Ra 0 199 x1 := rb_lt_l hx2 hx1 (rb_nle q3) (by decide)
        have r15 : Ra 1 200 x2 := rb_lt_r hx1 hx2 (rb_nle q3) (by decide)
        refine z_aloadnR zh dX1_hasOpen_13 rfl ?_
        refine z_getf zh fl_House_43 dX1_hasOpen_14 (ck_H hh) rfl rfl ?_
        refine z_iconst zh dX1_hasOpen_17 ki_2 ?_
        refine z_iloadn zh dX1_hasOpen_18 rfl ?_
        refine z_callVI zh mv_House_141 dX1_hasOpen_19 (ck_T (isT_d hh)) rfl (s_X7_get g (isT_d hh) ex2 hx2) ⟨Nat.le_of_ble_eq_true rfl, Nat.le_of_ble_eq_true rfl⟩ rfl rfl (Nat.le_of_ble_eq_true rfl) ?_
        rintro x16 _ _ ⟨rfl, rfl, gx16⟩
        refine z_iloadn zh dX1_hasOpen_22 rfl ?_
        have J41 : Z 41 [some (rf g h), some (.int a1), some (.int x1)] [] iv lv := by
          refine y_iinc (L' := fun z => [some (rf g h), some (.int a1), some (.int z)]) zh dX1_hasOpen_41 (by decide) rfl (by decide +kernel) r14 (u := 1) (v := 200) rfl rfl (by decide) (by decide) (fun _ => rfl) (fun x17 hc17 hx17 => ?_)
          refine z_goto (tgt := 2) zh dX1_hasOpen_44 rfl ?_
          exact ih2 x17 (ra_w hx17 (by decide) (by decide)) (ms_up hc17 (by decide) hn2)
        refine z_icmp_ne (tgt := 41) zh dX1_hasOpen_23 rfl (fun q18 => ?_) (fun q18 => ?_)
        · exact J41
        · have r19 := rb_eq (u := 0) (v := 5) (ra_tt x16) ha1 q18 (by decide) (by decide)
          refine z_aloadnR zh dX1_hasOpen_26 rfl ?_
          refine z_getf zh fl_House_43 dX1_hasOpen_27 (ck_H hh) rfl rfl ?_
          refine z_bipush zh dX1_hasOpen_30 kb_7 ?_
          refine z_iloadn zh dX1_hasOpen_32 rfl ?_
          refine z_callVI zh mv_House_141 dX1_hasOpen_33 (ck_T (isT_d hh)) rfl (s_X7_get g (isT_d hh) ex2 hx2) ⟨Nat.le_of_ble_eq_true rfl, Nat.le_of_ble_eq_true rfl⟩ rfl rfl (Nat.le_of_ble_eq_true rfl) ?_
          rintro x20 _ _ ⟨rfl, rfl, gx20⟩
          refine z_if_le (tgt := 41) zh dX1_hasOpen_36 rfl (fun q21 => ?_) (fun q21 => ?_)
          · have r22 : Ra (-2147483648) 0 x20 := rb_le_l ra_z (ra_tt x20) q21 (by decide)
            exact J41
          · have r23 : Ra 1 2147483647 x20 := rb_lt_r ra_z (ra_tt x20) (rb_nle q21) (by decide)
            refine z_iconst zh dX1_hasOpen_39 ki_1 ?_
            exact z_zret zh dX1_hasOpen_40 (ra_01 (ra_w rl_1 (by decide) (by decide))) ⟨_, rfl, rfl, rfl, (ra_w rl_1 (by decide) (by decide))⟩
  exact J2 201 (nI 0) (ra_w rl_0 (by decide) (by decide)) (ms_u0 rl_0 (by decide))
set_option maxRecDepth 20000 in
theorem s_X3_countLots (g : GE) {sp : Nat → Nat → Bool} {σ : Iv} {iv : Iv} {lv : Lv} {m : Nat} {a1 : Int32} (hm : isM m) (ha1 : Ra 0 11 a1) (hG : SI sp σ iv)  : ConI g yX3_countLots cX3_countLots 4 (some .int) 1 [rf g m, .int a1] iv lv (fun r iv' lv' => iv = iv' ∧ lv = lv' ∧ True) := by
  refine con_intro (own := "RollingNets$Market") (by decide +kernel) rfl (Nat.le_of_ble_eq_true rfl) (L0 := [some (rf g m), some (.int a1), none, none]) rfl (fun Z zh => ?_)
  refine z_iconst zh dX3_countLots_0 ki_0 ?_
  refine z_istoren zh dX3_countLots_1 (by decide) (L' := [some (rf g m), some (.int a1), some (.int (nI 0)), none]) rfl ?_
  refine z_iconst zh dX3_countLots_2 ki_0 ?_
  refine z_istoren zh dX3_countLots_3 (by decide) (L' := [some (rf g m), some (.int a1), some (.int (nI 0)), some (.int (nI 0))]) rfl ?_
  have J4 : ∀ (n : Nat) (x1 : Int32) (x2 : Int32), Ra 0 100 x2 → 100 - x2.toInt < (n : Int) → Z 4 [some (rf g m), some (.int a1), some (.int x1), some (.int x2)] [] iv lv := by
    intro n
    induction n with
    | zero => intro x1 x2 hx2 hn4; exact (ms_uz hx2 hn4).elim
    | succ n ih4 =>
      intro x1 x2 hx2 hn4
      refine z_iloadn zh dX3_countLots_4 rfl ?_
      refine z_aloadnR zh dX3_countLots_5 rfl ?_
      refine y_getI zh fl_Market_46 dX3_countLots_6 (ck_M hm) rfl rfl (fun x3 ex3 => ?_)
      have hx3 : Ra 0 100 x3 := ra_of ex3 (si_M hG hm 0 (by decide) rfl)
      refine z_icmp_ge (tgt := 32) zh dX3_countLots_9 rfl (fun q4 => ?_) (fun q4 => ?_)
      · refine z_iloadn zh dX3_countLots_32 rfl ?_
        exact z_iret zh dX3_countLots_33 ⟨_, rfl, rfl, rfl, trivial⟩
      · have r5 : Ra 0 99 x2 := rb_lt_l hx3 hx2 (rb_nle q4) (by decide)
        have r6 : Ra 1 100 x3 := rb_lt_r hx2 hx3 (rb_nle q4) (by decide)
        refine z_aloadnR zh dX3_countLots_12 rfl ?_
        refine z_getf zh fl_Market_33 dX3_countLots_13 (ck_M hm) rfl rfl ?_
        refine z_iloadn zh dX3_countLots_16 rfl ?_
        refine y_gald zh (ck_lots hm) dX3_countLots_17 ha1 (by decide) (by decide) (fun j7 hj7 _ _ => ?_)
        refine z_iloadn zh dX3_countLots_18 rfl ?_
        refine y_iald zh (ck_row hm hj7) dX3_countLots_19 r5 (by decide) (by decide) (fun x8 ex8 => ?_)
        have J26 : ∀ (x9 : Int32), Z 26 [some (rf g m), some (.int a1), some (.int x9), some (.int x2)] [] iv lv := by
          intro x9
          refine y_iinc (L' := fun z => [some (rf g m), some (.int a1), some (.int x9), some (.int z)]) zh dX3_countLots_26 (by decide) rfl (by decide +kernel) r5 (u := 1) (v := 100) rfl rfl (by decide) (by decide) (fun _ => rfl) (fun x10 hc10 hx10 => ?_)
          refine z_goto (tgt := 4) zh dX3_countLots_29 rfl ?_
          exact ih4 x9 x10 (ra_w hx10 (by decide) (by decide)) (ms_up hc10 (by decide) hn4)
        refine z_if_eq (tgt := 26) zh dX3_countLots_20 rfl (fun q11 => ?_) (fun q11 => ?_)
        · have r12 := rb_eq (u := 0) (v := 0) (ra_tt x8) ra_z q11 (by decide) (by decide)
          exact J26 x1
        · refine y_iincT (L' := fun z => [some (rf g m), some (.int a1), some (.int z), some (.int x2)]) zh dX3_countLots_23 (by decide) rfl (fun _ => rfl) (fun x13 => ?_)
          exact J26 x13
  exact J4 101 (nI 0) (nI 0) (ra_w rl_0 (by decide) (by decide)) (ms_u0 rl_0 (by decide))
set_option maxRecDepth 20000 in
theorem s_X1_holding (g : GE) {sp : Nat → Nat → Bool} {σ : Iv} {iv : Iv} {lv : Lv} {h : Nat} {a1 : Int32} {a2 : Int32} {a3 : Int32} (hh : isH h) (ha1 : Ra 0 11 a1) (ha2 : Ra 0 5 a2) (hG : SI sp σ iv)  : ConI g yX1_holding cX1_holding 5 (some .int) 3 [rf g h, .int a1, .int a2, .int a3] iv lv (fun r iv' lv' => iv = iv' ∧ lv = lv' ∧ True) := by
  refine con_intro (own := "RollingNets$House") (by decide +kernel) rfl (Nat.le_of_ble_eq_true rfl) (L0 := [some (rf g h), some (.int a1), some (.int a2), some (.int a3), none]) rfl (fun Z zh => ?_)
  refine z_aloadnR zh dX1_holding_0 rfl ?_
  refine z_getf zh fl_House_34 dX1_holding_1 (ck_H hh) rfl rfl ?_
  refine z_iloadn zh dX1_holding_4 rfl ?_
  refine y_mald zh (ck_markets hh) dX1_holding_5 ha2 (by decide) (by decide) (fun j1 hj1 _ _ => ?_)
  refine z_astore zh dX1_holding_6 (by decide) (L' := [some (rf g h), some (.int a1), some (.int a2), some (.int a3), some (rf g (h + 60 + 20 * j1))]) rfl ?_
  refine z_iloadn zh dX1_holding_8 rfl ?_
  by_cases q2 : 0 ≤ a3.toInt ∧ a3.toInt ≤ 8
  · obtain ⟨jw, hjw, hkw⟩ : ∃ jw : Nat, jw ≤ 8 ∧ a3.toInt = 0 + (jw : Int) := ⟨(a3.toInt - 0).toNat, by omega, by omega⟩
    rcases (by omega : jw = 0 ∨ jw = 1 ∨ jw = 2 ∨ jw = 3 ∨ jw = 4 ∨ jw = 5 ∨ jw = 6 ∨ jw = 7 ∨ jw = 8) with rfl | rfl | rfl | rfl | rfl | rfl | rfl | rfl | rfl
    · have r4 : Ra 0 0 a3 := sw_ra hkw rfl
      refine z_tabIn (off := 51) (tgt := 60) zh dX1_holding_9 (sw_lo r4 (by decide)) (sw_hi r4 (by decide)) (sw_at r4 (by decide)) rfl ?_
      refine z_aloadR zh dX1_holding_60 rfl ?_
      refine z_getf zh fl_House_152 dX1_holding_62 (ck_M (isM_of hh hj1)) rfl rfl ?_
      refine z_iloadn zh dX1_holding_65 rfl ?_
      refine y_iald zh (ck_mi 6 (by decide) (isM_of hh hj1)) dX1_holding_66 ha1 (by decide) (by decide) (fun x5 ex5 => ?_)
      exact z_iret zh dX1_holding_67 ⟨_, rfl, rfl, rfl, trivial⟩
    · have r6 : Ra 1 1 a3 := sw_ra hkw rfl
      refine z_tabIn (off := 59) (tgt := 68) zh dX1_holding_9 (sw_lo r6 (by decide)) (sw_hi r6 (by decide)) (sw_at r6 (by decide)) rfl ?_
      refine z_aloadR zh dX1_holding_68 rfl ?_
      refine z_getf zh fl_House_90 dX1_holding_70 (ck_M (isM_of hh hj1)) rfl rfl ?_
      refine z_iloadn zh dX1_holding_73 rfl ?_
      refine y_lald zh (ck_stock (isM_of hh hj1)) dX1_holding_74 ha1 (by decide) (by decide) (fun l7 => ?_)
      refine y_l2i zh dX1_holding_75 (fun x8 => ?_)
      exact z_iret zh dX1_holding_76 ⟨_, rfl, rfl, rfl, trivial⟩
    · have r9 : Ra 2 2 a3 := sw_ra hkw rfl
      refine z_tabIn (off := 68) (tgt := 77) zh dX1_holding_9 (sw_lo r9 (by decide)) (sw_hi r9 (by decide)) (sw_at r9 (by decide)) rfl ?_
      refine z_aloadnR zh dX1_holding_77 rfl ?_
      refine z_iloadn zh dX1_holding_78 rfl ?_
      refine z_iloadn zh dX1_holding_79 rfl ?_
      refine z_callVL zh mv_House_112 dX1_holding_80 (ck_H hh) rfl (s_X1_freeOf g hh ha2 ha1 hG) ⟨Nat.le_of_ble_eq_true rfl, Nat.le_of_ble_eq_true rfl⟩ rfl rfl (Nat.le_of_ble_eq_true rfl) ?_
      rintro l10 _ _ ⟨rfl, rfl, _⟩
      refine y_l2i zh dX1_holding_83 (fun x11 => ?_)
      exact z_iret zh dX1_holding_84 ⟨_, rfl, rfl, rfl, trivial⟩
    · have r12 : Ra 3 3 a3 := sw_ra hkw rfl
      refine z_tabIn (off := 76) (tgt := 85) zh dX1_holding_9 (sw_lo r12 (by decide)) (sw_hi r12 (by decide)) (sw_at r12 (by decide)) rfl ?_
      refine z_aloadR zh dX1_holding_85 rfl ?_
      refine z_getf zh fl_House_93 dX1_holding_87 (ck_M (isM_of hh hj1)) rfl rfl ?_
      refine z_iloadn zh dX1_holding_90 rfl ?_
      refine y_iald zh (ck_mi 2 (by decide) (isM_of hh hj1)) dX1_holding_91 ha1 (by decide) (by decide) (fun x13 ex13 => ?_)
      exact z_iret zh dX1_holding_92 ⟨_, rfl, rfl, rfl, trivial⟩
    · have r14 : Ra 4 4 a3 := sw_ra hkw rfl
      refine z_tabIn (off := 84) (tgt := 93) zh dX1_holding_9 (sw_lo r14 (by decide)) (sw_hi r14 (by decide)) (sw_at r14 (by decide)) rfl ?_
      refine z_aloadR zh dX1_holding_93 rfl ?_
      refine z_getf zh fl_House_106 dX1_holding_95 (ck_M (isM_of hh hj1)) rfl rfl ?_
      refine z_iloadn zh dX1_holding_98 rfl ?_
      refine y_iald zh (ck_mi 3 (by decide) (isM_of hh hj1)) dX1_holding_99 ha1 (by decide) (by decide) (fun x15 ex15 => ?_)
      exact z_iret zh dX1_holding_100 ⟨_, rfl, rfl, rfl, trivial⟩
    · have r16 : Ra 5 5 a3 := sw_ra hkw rfl
      refine z_tabIn (off := 92) (tgt := 101) zh dX1_holding_9 (sw_lo r16 (by decide)) (sw_hi r16 (by decide)) (sw_at r16 (by decide)) rfl ?_
      refine z_aloadR zh dX1_holding_101 rfl ?_
      refine z_getf zh fl_House_109 dX1_holding_103 (ck_M (isM_of hh hj1)) rfl rfl ?_
      refine z_iloadn zh dX1_holding_106 rfl ?_
      refine y_iald zh (ck_mi 4 (by decide) (isM_of hh hj1)) dX1_holding_107 ha1 (by decide) (by decide) (fun x17 ex17 => ?_)
      exact z_iret zh dX1_holding_108 ⟨_, rfl, rfl, rfl, trivial⟩
    · have r18 : Ra 6 6 a3 := sw_ra hkw rfl
      refine z_tabIn (off := 100) (tgt := 109) zh dX1_holding_9 (sw_lo r18 (by decide)) (sw_hi r18 (by decide)) (sw_at r18 (by decide)) rfl ?_
      refine z_aloadR zh dX1_holding_109 rfl ?_
      refine z_iloadn zh dX1_holding_111 rfl ?_
      refine z_callVI zh mv_House_155 dX1_holding_112 (ck_M (isM_of hh hj1)) rfl (s_X3_countLots g (isM_of hh hj1) ha1 hG) ⟨Nat.le_of_ble_eq_true rfl, Nat.le_of_ble_eq_true rfl⟩ rfl rfl (Nat.le_of_ble_eq_true rfl) ?_
      rintro x19 _ _ ⟨rfl, rfl, _⟩
      exact z_iret zh dX1_holding_115 ⟨_, rfl, rfl, rfl, trivial⟩
    · have r20 : Ra 7 7 a3 := sw_ra hkw rfl
      refine z_tabIn (off := 107) (tgt := 116) zh dX1_holding_9 (sw_lo r20 (by decide)) (sw_hi r20 (by decide)) (sw_at r20 (by decide)) rfl ?_
      refine z_aloadR zh dX1_holding_116 rfl ?_
      refine z_iloadn zh dX1_holding_118 rfl ?_
      refine z_iconst zh dX1_holding_119 ki_0 ?_
      refine z_callVI zh mv_House_158 dX1_holding_120 (ck_M (isM_of hh hj1)) rfl (s_X3_dayOfLot g (isM_of hh hj1) ha1 hG) ⟨Nat.le_of_ble_eq_true rfl, Nat.le_of_ble_eq_true rfl⟩ rfl rfl (Nat.le_of_ble_eq_true rfl) ?_
      rintro x21 _ _ ⟨rfl, rfl, hx21⟩
      exact z_iret zh dX1_holding_123 ⟨_, rfl, rfl, rfl, trivial⟩
    · have r22 : Ra 8 8 a3 := sw_ra hkw rfl
      refine z_tabIn (off := 115) (tgt := 124) zh dX1_holding_9 (sw_lo r22 (by decide)) (sw_hi r22 (by decide)) (sw_at r22 (by decide)) rfl ?_
      refine z_aloadnR zh dX1_holding_124 rfl ?_
      refine z_iloadn zh dX1_holding_125 rfl ?_
      refine z_iloadn zh dX1_holding_126 rfl ?_
      refine z_callVI zh mv_House_161 dX1_holding_127 (ck_H hh) rfl (s_X1_canLend g hh ha2 ha1 hG) ⟨Nat.le_of_ble_eq_true rfl, Nat.le_of_ble_eq_true rfl⟩ rfl rfl (Nat.le_of_ble_eq_true rfl) ?_
      rintro x23 _ _ ⟨rfl, rfl, _⟩
      exact z_iret zh dX1_holding_130 ⟨_, rfl, rfl, rfl, trivial⟩
  · refine z_tabOut (tgt := 131) zh dX1_holding_9 (sw_out q2) rfl ?_
    refine z_ldc zh dX1_holding_131 kc_House_164 ?_
    exact z_iret zh dX1_holding_133 ⟨_, rfl, rfl, rfl, trivial⟩
set_option maxRecDepth 20000 in
theorem s_X1_isDue (g : GE) {sp : Nat → Nat → Bool} {σ : Iv} {iv : Iv} {lv : Lv} {h : Nat} {a1 : Int32} {a2 : Int32} {a3 : Int32} (hh : isH h) (ha1 : Ra 0 199 a1) (ha2 : Ra 0 5 a2) (ha3 : Ra 0 1 a3) (hG : SI sp σ iv)  : ConI g yX1_isDue cX1_isDue 5 (some .boolean) 2 [rf g h, .int a1, .int a2, .int a3] iv lv (fun r iv' lv' => iv = iv' ∧ lv = lv' ∧ Ra 0 1 r) := by
  refine con_intro (own := "RollingNets$House") (by decide +kernel) rfl (Nat.le_of_ble_eq_true rfl) (L0 := [some (rf g h), some (.int a1), some (.int a2), some (.int a3), none]) rfl (fun Z zh => ?_)
  refine z_aloadnR zh dX1_isDue_0 rfl ?_
  refine z_getf zh fl_House_43 dX1_isDue_1 (ck_H hh) rfl rfl ?_
  refine z_bipush zh dX1_isDue_4 kb_7 ?_
  refine z_iloadn zh dX1_isDue_6 rfl ?_
  obtain ⟨x1, ex1⟩ : ∃ z, iv (h + 7) 2 = z := ⟨_, rfl⟩
  have hx1 : Ra 0 200 x1 := ra_of ex1 (si_T hG (isT_d hh))
  refine z_callVI zh mv_House_141 dX1_isDue_7 (ck_T (isT_d hh)) rfl (s_X7_get g (isT_d hh) ex1 hx1) ⟨Nat.le_of_ble_eq_true rfl, Nat.le_of_ble_eq_true rfl⟩ rfl rfl (Nat.le_of_ble_eq_true rfl) ?_
  rintro x2 _ _ ⟨rfl, rfl, gx2⟩
  have J35 : ∀ (x3 : Int32), Ra 0 1 x3 → Z 35 [some (rf g h), some (.int a1), some (.int a2), some (.int a3), none] [.int x3] iv lv := by
    intro x3 hx3
    refine z_istore zh dX1_isDue_35 (by decide) (L' := [some (rf g h), some (.int a1), some (.int a2), some (.int a3), some (.int x3)]) rfl ?_
    refine z_iload zh dX1_isDue_37 rfl ?_
    refine z_if_eq (tgt := 104) zh dX1_isDue_39 rfl (fun q4 => ?_) (fun q4 => ?_)
    · have r5 := rb_eq (u := 0) (v := 0) hx3 ra_z q4 (by decide) (by decide)
      refine z_iconst zh dX1_isDue_104 ki_0 ?_
      exact z_zret zh dX1_isDue_105 (ra_01 (ra_w rl_0 (by decide) (by decide))) ⟨_, rfl, rfl, rfl, (ra_w rl_0 (by decide) (by decide))⟩
    · have r6 : Ra 1 1 x3 := rb_ne_lo hx3 ra_z q4 (by decide)
      refine z_aloadnR zh dX1_isDue_42 rfl ?_
      refine z_getf zh fl_House_43 dX1_isDue_43 (ck_H hh) rfl rfl ?_
      refine z_iconst zh dX1_isDue_46 ki_2 ?_
      refine z_iloadn zh dX1_isDue_47 rfl ?_
      refine z_callVI zh mv_House_141 dX1_isDue_48 (ck_T (isT_d hh)) rfl (s_X7_get g (isT_d hh) ex1 hx1) ⟨Nat.le_of_ble_eq_true rfl, Nat.le_of_ble_eq_true rfl⟩ rfl rfl (Nat.le_of_ble_eq_true rfl) ?_
      rintro x7 _ _ ⟨rfl, rfl, gx7⟩
      refine z_iloadn zh dX1_isDue_51 rfl ?_
      refine z_icmp_ne (tgt := 104) zh dX1_isDue_52 rfl (fun q8 => ?_) (fun q8 => ?_)
      · refine z_iconst zh dX1_isDue_104 ki_0 ?_
        exact z_zret zh dX1_isDue_105 (ra_01 (ra_w rl_0 (by decide) (by decide))) ⟨_, rfl, rfl, rfl, (ra_w rl_0 (by decide) (by decide))⟩
      · have r9 := rb_eq (u := 0) (v := 5) (ra_tt x7) ha2 q8 (by decide) (by decide)
        refine z_aloadnR zh dX1_isDue_55 rfl ?_
        refine z_getf zh fl_House_43 dX1_isDue_56 (ck_H hh) rfl rfl ?_
        refine z_iconst zh dX1_isDue_59 ki_5 ?_
        refine z_iloadn zh dX1_isDue_60 rfl ?_
        refine z_callVI zh mv_House_141 dX1_isDue_61 (ck_T (isT_d hh)) rfl (s_X7_get g (isT_d hh) ex1 hx1) ⟨Nat.le_of_ble_eq_true rfl, Nat.le_of_ble_eq_true rfl⟩ rfl rfl (Nat.le_of_ble_eq_true rfl) ?_
        rintro x10 _ _ ⟨rfl, rfl, gx10⟩
        refine z_iloadn zh dX1_isDue_64 rfl ?_
        refine z_icmp_ne (tgt := 104) zh dX1_isDue_65 rfl (fun q11 => ?_) (fun q11 => ?_)
        · refine z_iconst zh dX1_isDue_104 ki_0 ?_
          exact z_zret zh dX1_isDue_105 (ra_01 (ra_w rl_0 (by decide) (by decide))) ⟨_, rfl, rfl, rfl, (ra_w rl_0 (by decide) (by decide))⟩
        · have r12 := rb_eq (u := 0) (v := 1) (ra_tt x10) ha3 q11 (by decide) (by decide)
          refine z_aloadnR zh dX1_isDue_68 rfl ?_
          refine z_aloadnR zh dX1_isDue_69 rfl ?_
          refine z_getf zh fl_House_43 dX1_isDue_70 (ck_H hh) rfl rfl ?_
          refine z_iconst zh dX1_isDue_73 ki_0 ?_
          refine z_iloadn zh dX1_isDue_74 rfl ?_
          refine z_callVI zh mv_House_141 dX1_isDue_75 (ck_T (isT_d hh)) rfl (s_X7_get g (isT_d hh) ex1 hx1) ⟨Nat.le_of_ble_eq_true rfl, Nat.le_of_ble_eq_true rfl⟩ rfl rfl (Nat.le_of_ble_eq_true rfl) ?_
          rintro x13 _ _ ⟨rfl, rfl, gx13⟩
          have hx13 : Ra 0 11 x13 := get_in gx13 0 rfl (by decide) (by decide) (get_ok gx10 r12.1 (by decide)) (fun j => si_H hG hh 9 (by decide) rfl)
          refine z_callVI zh mv_House_122 dX1_isDue_78 (ck_H hh) rfl (s_X1_hasMember g hh hG) ⟨Nat.le_of_ble_eq_true rfl, Nat.le_of_ble_eq_true rfl⟩ rfl rfl (Nat.le_of_ble_eq_true rfl) ?_
          rintro x14 _ _ ⟨rfl, rfl, hx14, hz15⟩
          refine z_if_eq (tgt := 104) zh dX1_isDue_81 rfl (fun q16 => ?_) (fun q16 => ?_)
          · have r17 := rb_eq (u := 0) (v := 0) hx14 ra_z q16 (by decide) (by decide)
            refine z_iconst zh dX1_isDue_104 ki_0 ?_
            exact z_zret zh dX1_isDue_105 (ra_01 (ra_w rl_0 (by decide) (by decide))) ⟨_, rfl, rfl, rfl, (ra_w rl_0 (by decide) (by decide))⟩
          · have r18 : Ra 1 1 x14 := rb_ne_lo hx14 ra_z q16 (by decide)
            refine z_aloadnR zh dX1_isDue_84 rfl ?_
            refine z_aloadnR zh dX1_isDue_85 rfl ?_
            refine z_getf zh fl_House_43 dX1_isDue_86 (ck_H hh) rfl rfl ?_
            refine z_iconst zh dX1_isDue_89 ki_1 ?_
            refine z_iloadn zh dX1_isDue_90 rfl ?_
            refine z_callVI zh mv_House_141 dX1_isDue_91 (ck_T (isT_d hh)) rfl (s_X7_get g (isT_d hh) ex1 hx1) ⟨Nat.le_of_ble_eq_true rfl, Nat.le_of_ble_eq_true rfl⟩ rfl rfl (Nat.le_of_ble_eq_true rfl) ?_
            rintro x19 _ _ ⟨rfl, rfl, gx19⟩
            have hx19 : Ra 0 11 x19 := get_in gx19 1 rfl (by decide) (by decide) (get_ok gx13 hx13 (by decide)) (fun j => si_H hG hh 10 (by decide) rfl)
            refine z_callVI zh mv_House_122 dX1_isDue_94 (ck_H hh) rfl (s_X1_hasMember g hh hG) ⟨Nat.le_of_ble_eq_true rfl, Nat.le_of_ble_eq_true rfl⟩ rfl rfl (Nat.le_of_ble_eq_true rfl) ?_
            rintro x20 _ _ ⟨rfl, rfl, hx20, hz21⟩
            refine z_if_eq (tgt := 104) zh dX1_isDue_97 rfl (fun q22 => ?_) (fun q22 => ?_)
            · have r23 := rb_eq (u := 0) (v := 0) hx20 ra_z q22 (by decide) (by decide)
              refine z_iconst zh dX1_isDue_104 ki_0 ?_
              exact z_zret zh dX1_isDue_105 (ra_01 (ra_w rl_0 (by decide) (by decide))) ⟨_, rfl, rfl, rfl, (ra_w rl_0 (by decide) (by decide))⟩
            · have r24 : Ra 1 1 x20 := rb_ne_lo hx20 ra_z q22 (by decide)
              refine z_iconst zh dX1_isDue_100 ki_1 ?_
              refine z_goto (tgt := 105) zh dX1_isDue_101 rfl ?_
              exact z_zret zh dX1_isDue_105 (ra_01 (ra_w rl_1 (by decide) (by decide))) ⟨_, rfl, rfl, rfl, (ra_w rl_1 (by decide) (by decide))⟩
  have J34 : Z 34 [some (rf g h), some (.int a1), some (.int a2), some (.int a3), none] [] iv lv := by
    refine z_iconst zh dX1_isDue_34 ki_0 ?_
    exact J35 (nI 0) (ra_w rl_0 (by decide) (by decide))
  refine z_if_le (tgt := 34) zh dX1_isDue_10 rfl (fun q25 => ?_) (fun q25 => ?_)
  · have r26 : Ra (-2147483648) 0 x2 := rb_le_l ra_z (ra_tt x2) q25 (by decide)
    exact J34
  · have r27 : Ra 1 2147483647 x2 := rb_lt_r ra_z (ra_tt x2) (rb_nle q25) (by decide)
    refine z_aloadnR zh dX1_isDue_13 rfl ?_
    refine z_getf zh fl_House_43 dX1_isDue_14 (ck_H hh) rfl rfl ?_
    refine z_bipush zh dX1_isDue_17 kb_6 ?_
    refine z_iloadn zh dX1_isDue_19 rfl ?_
    refine z_callVI zh mv_House_141 dX1_isDue_20 (ck_T (isT_d hh)) rfl (s_X7_get g (isT_d hh) ex1 hx1) ⟨Nat.le_of_ble_eq_true rfl, Nat.le_of_ble_eq_true rfl⟩ rfl rfl (Nat.le_of_ble_eq_true rfl) ?_
    rintro x28 _ _ ⟨rfl, rfl, gx28⟩
    refine z_aloadnR zh dX1_isDue_23 rfl ?_
    refine y_getI zh fl_House_60 dX1_isDue_24 (ck_H hh) rfl rfl (fun x29 ex29 => ?_)
    have hx29 : Ra 0 99 x29 := ra_of ex29 (si_H hG hh 0 (by decide) rfl)
    refine z_icmp_gt (tgt := 34) zh dX1_isDue_27 rfl (fun q30 => ?_) (fun q30 => ?_)
    · have r31 : Ra 1 2147483647 x28 := rb_lt_r hx29 (ra_tt x28) q30 (by decide)
      exact J34
    · have r32 : Ra (-2147483648) 99 x28 := rb_le_l hx29 (ra_tt x28) (rb_nlt q30) (by decide)
      refine z_iconst zh dX1_isDue_30 ki_1 ?_
      refine z_goto (tgt := 35) zh dX1_isDue_31 rfl ?_
      exact J35 (nI 1) (ra_w rl_1 (by decide) (by decide))
set_option maxRecDepth 20000 in
theorem s_X1_pay (g : GE) {sp : Nat → Nat → Bool} {σ : Iv} {iv : Iv} {lv : Lv} {h : Nat} {a1 : Int32} {a2 : Int32} {b1 : Int64} (hh : isH h) (ha1 : Ra (-1) 11 a1) (ha2 : Ra (-1) 11 a2) (hG : SI sp σ iv)  : ConV g yX1_pay cX1_pay 5 none 2 [rf g h, .int a1, .int a2, .long b1] iv lv (fun iv lv => SI sp σ iv) := by
  refine con_intro (own := "RollingNets$House") (by decide +kernel) rfl (Nat.le_of_ble_eq_true rfl) (L0 := [some (rf g h), some (.int a1), some (.int a2), some (.long b1), none]) rfl (fun Z zh => ?_)
  refine z_aloadnR zh dX1_pay_0 rfl ?_
  refine z_iloadn zh dX1_pay_1 rfl ?_
  refine z_callVI zh mv_House_122 dX1_pay_2 (ck_H hh) rfl (s_X1_hasMember g hh hG) ⟨Nat.le_of_ble_eq_true rfl, Nat.le_of_ble_eq_true rfl⟩ rfl rfl (Nat.le_of_ble_eq_true rfl) ?_
  rintro x1 _ _ ⟨rfl, rfl, hx1, hz2⟩
  refine z_if_eq (tgt := 36) zh dX1_pay_5 rfl (fun q3 => ?_) (fun q3 => ?_)
  · have r4 := rb_eq (u := 0) (v := 0) hx1 ra_z q3 (by decide) (by decide)
    exact z_vret zh dX1_pay_36 ⟨rfl, hG⟩
  · have r5 : Ra 1 1 x1 := rb_ne_lo hx1 ra_z q3 (by decide)
    have r6 : Ra 0 11 a1 := (hz2 q3)
    refine z_aloadnR zh dX1_pay_8 rfl ?_
    refine z_iloadn zh dX1_pay_9 rfl ?_
    refine z_callVI zh mv_House_122 dX1_pay_10 (ck_H hh) rfl (s_X1_hasMember g hh hG) ⟨Nat.le_of_ble_eq_true rfl, Nat.le_of_ble_eq_true rfl⟩ rfl rfl (Nat.le_of_ble_eq_true rfl) ?_
    rintro x7 _ _ ⟨rfl, rfl, hx7, hz8⟩
    refine z_if_eq (tgt := 36) zh dX1_pay_13 rfl (fun q9 => ?_) (fun q9 => ?_)
    · have r10 := rb_eq (u := 0) (v := 0) hx7 ra_z q9 (by decide) (by decide)
      exact z_vret zh dX1_pay_36 ⟨rfl, hG⟩
    · have r11 : Ra 1 1 x7 := rb_ne_lo hx7 ra_z q9 (by decide)
      have r12 : Ra 0 11 a2 := (hz8 q9)
      refine z_aloadnR zh dX1_pay_16 rfl ?_
      refine z_getf zh fl_House_18 dX1_pay_17 (ck_H hh) rfl rfl ?_
      refine z_iloadn zh dX1_pay_20 rfl ?_
      refine z_dup2 zh dX1_pay_21 rfl rfl ?_
      refine y_lald zh (ck_cash hh) dX1_pay_22 r6 (by decide) (by decide) (fun l13 => ?_)
      refine z_lloadn zh dX1_pay_23 rfl ?_
      refine y_lsub zh dX1_pay_24 (fun l14 => ?_)
      refine z_last zh (ck_cash hh) dX1_pay_25 (ra_in r6 (by decide) (by decide)) ?_
      generalize upL lv (h + 2) a1.toNatClampNeg l14 = lv
      refine z_aloadnR zh dX1_pay_26 rfl ?_
      refine z_getf zh fl_House_18 dX1_pay_27 (ck_H hh) rfl rfl ?_
      refine z_iloadn zh dX1_pay_30 rfl ?_
      refine z_dup2 zh dX1_pay_31 rfl rfl ?_
      refine y_lald zh (ck_cash hh) dX1_pay_32 r12 (by decide) (by decide) (fun l15 => ?_)
      refine z_lloadn zh dX1_pay_33 rfl ?_
      refine y_ladd zh dX1_pay_34 (fun l16 => ?_)
      refine z_last zh (ck_cash hh) dX1_pay_35 (ra_in r12 (by decide) (by decide)) ?_
      generalize upL lv (h + 2) a2.toNatClampNeg l16 = lv
      exact z_vret zh dX1_pay_36 ⟨rfl, hG⟩
set_option maxRecDepth 20000 in
theorem s_X1_write (g : GE) {sp : Nat → Nat → Bool} {σ : Iv} {iv : Iv} {lv : Lv} {h : Nat} {a1 : Int32} {a2 : Int32} {a3 : Int32} {a4 : Int32} {a5 : Int32} (hh : isH h) (ha1 : Ra 0 4 a1) (ha2 : Ra 0 5 a2) (ha3 : Ra (-1) 11 a3) (ha4 : Ra (-1) 11 a4) (hG : SI sp σ iv)  : ConV g yX1_write cX1_write 7 none 3 [rf g h, .int a1, .int a2, .int a3, .int a4, .int a5] iv lv (fun iv lv => SI sp σ iv) := by
  refine con_intro (own := "RollingNets$House") (by decide +kernel) rfl (Nat.le_of_ble_eq_true rfl) (L0 := [some (rf g h), some (.int a1), some (.int a2), some (.int a3), some (.int a4), some (.int a5), none]) rfl (fun Z zh => ?_)
  refine z_aloadnR zh dX1_write_0 rfl ?_
  refine z_getf zh fl_House_50 dX1_write_1 (ck_H hh) rfl rfl ?_
  refine z_callVI zh mv_House_126 dX1_write_4 (ck_T (isT_b hh)) rfl (s_X7_addRow g (isT_b hh) hG (ar_b hG hh).1 (ar_b hG hh).2) ⟨Nat.le_of_ble_eq_true rfl, Nat.le_of_ble_eq_true rfl⟩ rfl rfl (Nat.le_of_ble_eq_true rfl) ?_
  rintro x1 iv lv ⟨hG, hx1⟩
  refine z_istore zh dX1_write_7 (by decide) (L' := [some (rf g h), some (.int a1), some (.int a2), some (.int a3), some (.int a4), some (.int a5), some (.int x1)]) rfl ?_
  refine z_aloadnR zh dX1_write_9 rfl ?_
  refine z_getf zh fl_House_50 dX1_write_10 (ck_H hh) rfl rfl ?_
  refine z_iconst zh dX1_write_13 ki_0 ?_
  refine z_iload zh dX1_write_14 rfl ?_
  refine z_aloadnR zh dX1_write_16 rfl ?_
  refine y_getI zh fl_House_60 dX1_write_17 (ck_H hh) rfl rfl (fun x2 ex2 => ?_)
  have hx2 : Ra 0 99 x2 := ra_of ex2 (si_H hG hh 0 (by decide) rfl)
  refine z_callVV zh mv_House_130 dX1_write_20 (ck_T (isT_b hh)) rfl (s_X7_put g (isT_b hh) hG (pb_f hG hh)) ⟨Nat.le_of_ble_eq_true rfl, Nat.le_of_ble_eq_true rfl⟩ rfl rfl (Nat.le_of_ble_eq_true rfl) ?_
  rintro iv lv hG
  refine z_aloadnR zh dX1_write_23 rfl ?_
  refine z_getf zh fl_House_50 dX1_write_24 (ck_H hh) rfl rfl ?_
  refine z_iconst zh dX1_write_27 ki_1 ?_
  refine z_iload zh dX1_write_28 rfl ?_
  refine z_iloadn zh dX1_write_30 rfl ?_
  refine z_callVV zh mv_House_130 dX1_write_31 (ck_T (isT_b hh)) rfl (s_X7_put g (isT_b hh) hG (pb_f hG hh)) ⟨Nat.le_of_ble_eq_true rfl, Nat.le_of_ble_eq_true rfl⟩ rfl rfl (Nat.le_of_ble_eq_true rfl) ?_
  rintro iv lv hG
  refine z_aloadnR zh dX1_write_34 rfl ?_
  refine z_getf zh fl_House_50 dX1_write_35 (ck_H hh) rfl rfl ?_
  refine z_iconst zh dX1_write_38 ki_2 ?_
  refine z_iload zh dX1_write_39 rfl ?_
  refine z_iloadn zh dX1_write_41 rfl ?_
  refine z_callVV zh mv_House_130 dX1_write_42 (ck_T (isT_b hh)) rfl (s_X7_put g (isT_b hh) hG (pb_f hG hh)) ⟨Nat.le_of_ble_eq_true rfl, Nat.le_of_ble_eq_true rfl⟩ rfl rfl (Nat.le_of_ble_eq_true rfl) ?_
  rintro iv lv hG
  refine z_aloadnR zh dX1_write_45 rfl ?_
  refine z_getf zh fl_House_50 dX1_write_46 (ck_H hh) rfl rfl ?_
  refine z_iconst zh dX1_write_49 ki_3 ?_
  refine z_iload zh dX1_write_50 rfl ?_
  refine z_iloadn zh dX1_write_52 rfl ?_
  refine z_callVV zh mv_House_130 dX1_write_53 (ck_T (isT_b hh)) rfl (s_X7_put g (isT_b hh) hG (pb_f hG hh)) ⟨Nat.le_of_ble_eq_true rfl, Nat.le_of_ble_eq_true rfl⟩ rfl rfl (Nat.le_of_ble_eq_true rfl) ?_
  rintro iv lv hG
  refine z_aloadnR zh dX1_write_56 rfl ?_
  refine z_getf zh fl_House_50 dX1_write_57 (ck_H hh) rfl rfl ?_
  refine z_iconst zh dX1_write_60 ki_4 ?_
  refine z_iload zh dX1_write_61 rfl ?_
  refine z_iload zh dX1_write_63 rfl ?_
  refine z_callVV zh mv_House_130 dX1_write_65 (ck_T (isT_b hh)) rfl (s_X7_put g (isT_b hh) hG (pb_f hG hh)) ⟨Nat.le_of_ble_eq_true rfl, Nat.le_of_ble_eq_true rfl⟩ rfl rfl (Nat.le_of_ble_eq_true rfl) ?_
  rintro iv lv hG
  refine z_aloadnR zh dX1_write_68 rfl ?_
  refine z_getf zh fl_House_50 dX1_write_69 (ck_H hh) rfl rfl ?_
  refine z_iconst zh dX1_write_72 ki_5 ?_
  refine z_iload zh dX1_write_73 rfl ?_
  refine z_iload zh dX1_write_75 rfl ?_
  refine z_callVV zh mv_House_130 dX1_write_77 (ck_T (isT_b hh)) rfl (s_X7_put g (isT_b hh) hG (pb_f hG hh)) ⟨Nat.le_of_ble_eq_true rfl, Nat.le_of_ble_eq_true rfl⟩ rfl rfl (Nat.le_of_ble_eq_true rfl) ?_
  rintro iv lv hG
  exact z_vret zh dX1_write_80 ⟨rfl, hG⟩
set_option maxRecDepth 20000 in
theorem s_X3_changeLot (g : GE) {sp : Nat → Nat → Bool} {σ : Iv} {iv : Iv} {lv : Lv} {m : Nat} {a1 : Int32} {a2 : Int32} {a3 : Int32} (hm : isM m) (ha1 : Ra 0 11 a1) (ha2 : Ra 0 99 a2) (hG : SI sp σ iv)  : ConV g yX3_changeLot cX3_changeLot 4 none 1 [rf g m, .int a1, .int a2, .int a3] iv lv (fun iv lv => SI sp σ iv) := by
  refine con_intro (own := "RollingNets$Market") (by decide +kernel) rfl (Nat.le_of_ble_eq_true rfl) (L0 := [some (rf g m), some (.int a1), some (.int a2), some (.int a3)]) rfl (fun Z zh => ?_)
  refine z_aloadnR zh dX3_changeLot_0 rfl ?_
  refine z_getf zh fl_Market_33 dX3_changeLot_1 (ck_M hm) rfl rfl ?_
  refine z_iloadn zh dX3_changeLot_4 rfl ?_
  refine y_gald zh (ck_lots hm) dX3_changeLot_5 ha1 (by decide) (by decide) (fun j1 hj1 _ _ => ?_)
  refine z_iloadn zh dX3_changeLot_6 rfl ?_
  refine z_dup2 zh dX3_changeLot_7 rfl rfl ?_
  refine y_iald zh (ck_row hm hj1) dX3_changeLot_8 ha2 (by decide) (by decide) (fun x2 ex2 => ?_)
  refine z_iloadn zh dX3_changeLot_9 rfl ?_
  refine y_iaddT zh dX3_changeLot_10 (fun x3 => ?_)
  refine z_iast zh (ck_row hm hj1) dX3_changeLot_11 (ra_in ha2 (by decide) (by decide)) ?_
  have hG : SI sp σ (upI iv (m + 8 + j1) a2.toNatClampNeg x3) := si_wR hG hm hj1
  generalize upI iv (m + 8 + j1) a2.toNatClampNeg x3 = iv at hG  ⊢
  refine z_aloadnR zh dX3_changeLot_12 rfl ?_
  refine z_getf zh fl_Market_28 dX3_changeLot_13 (ck_M hm) rfl rfl ?_
  refine z_iloadn zh dX3_changeLot_16 rfl ?_
  refine z_dup2 zh dX3_changeLot_17 rfl rfl ?_
  refine y_iald zh (ck_mi 6 (by decide) hm) dX3_changeLot_18 ha1 (by decide) (by decide) (fun x4 ex4 => ?_)
  refine z_iloadn zh dX3_changeLot_19 rfl ?_
  refine y_iaddT zh dX3_changeLot_20 (fun x5 => ?_)
  refine z_iast zh (ck_mi 6 (by decide) hm) dX3_changeLot_21 (ra_in ha1 (by decide) (by decide)) ?_
  have hG : SI sp σ (upI iv (m + 6) a1.toNatClampNeg x5) := si_wM hG hm 6 (by decide) (rx_none rfl)
  generalize upI iv (m + 6) a1.toNatClampNeg x5 = iv at hG  ⊢
  exact z_vret zh dX3_changeLot_22 ⟨rfl, hG⟩
set_option maxRecDepth 20000 in
theorem s_X3_takeOff (g : GE) {sp : Nat → Nat → Bool} {σ : Iv} {iv : Iv} {lv : Lv} {m : Nat} {a1 : Int32} {a2 : Int32} (hm : isM m) (ha1 : Ra 0 11 a1) (hG : SI sp σ iv)  : ConV g yX3_takeOff cX3_takeOff 7 none 2 [rf g m, .int a1, .int a2] iv lv (fun iv lv => SI sp σ iv) := by
  refine con_intro (own := "RollingNets$Market") (by decide +kernel) rfl (Nat.le_of_ble_eq_true rfl) (L0 := [some (rf g m), some (.int a1), some (.int a2), none, none, none, none]) rfl (fun Z zh => ?_)
  refine z_iloadn zh dX3_takeOff_0 rfl ?_
  refine z_istoren zh dX3_takeOff_1 (by decide) (L' := [some (rf g m), some (.int a1), some (.int a2), some (.int a2), none, none, none]) rfl ?_
  refine z_iconst zh dX3_takeOff_2 ki_0 ?_
  refine z_istore zh dX3_takeOff_3 (by decide) (L' := [some (rf g m), some (.int a1), some (.int a2), some (.int a2), some (.int (nI 0)), none, none]) rfl ?_
  have J5 : ∀ (n : Nat) (iv : Iv) (lv : Lv) (x1 : Int32) (x2 : Int32), SI sp σ iv → Ra 0 100 x2 → 100 - x2.toInt < (n : Int) → Z 5 [some (rf g m), some (.int a1), some (.int a2), some (.int x1), some (.int x2), none, none] [] iv lv := by
    intro n
    induction n with
    | zero => intro iv lv x1 x2 hG hx2 hn5; exact (ms_uz hx2 hn5).elim
    | succ n ih5 =>
      intro iv lv x1 x2 hG hx2 hn5
      refine z_iload zh dX3_takeOff_5 rfl ?_
      refine z_aloadnR zh dX3_takeOff_7 rfl ?_
      refine y_getI zh fl_Market_46 dX3_takeOff_8 (ck_M hm) rfl rfl (fun x3 ex3 => ?_)
      have hx3 : Ra 0 100 x3 := ra_of ex3 (si_M hG hm 0 (by decide) rfl)
      refine z_icmp_ge (tgt := 71) zh dX3_takeOff_11 rfl (fun q4 => ?_) (fun q4 => ?_)
      · exact z_vret zh dX3_takeOff_71 ⟨rfl, hG⟩
      · have r5 : Ra 0 99 x2 := rb_lt_l hx3 hx2 (rb_nle q4) (by decide)
        have r6 : Ra 1 100 x3 := rb_lt_r hx2 hx3 (rb_nle q4) (by decide)
        refine z_iloadn zh dX3_takeOff_14 rfl ?_
        refine z_if_le (tgt := 71) zh dX3_takeOff_15 rfl (fun q7 => ?_) (fun q7 => ?_)
        · have r8 : Ra (-2147483648) 0 x1 := rb_le_l ra_z (ra_tt x1) q7 (by decide)
          exact z_vret zh dX3_takeOff_71 ⟨rfl, hG⟩
        · have r9 : Ra 1 2147483647 x1 := rb_lt_r ra_z (ra_tt x1) (rb_nle q7) (by decide)
          refine z_aloadnR zh dX3_takeOff_18 rfl ?_
          refine z_getf zh fl_Market_33 dX3_takeOff_19 (ck_M hm) rfl rfl ?_
          refine z_iloadn zh dX3_takeOff_22 rfl ?_
          refine y_gald zh (ck_lots hm) dX3_takeOff_23 ha1 (by decide) (by decide) (fun j10 hj10 _ _ => ?_)
          refine z_iload zh dX3_takeOff_24 rfl ?_
          refine y_iald zh (ck_row hm hj10) dX3_takeOff_26 r5 (by decide) (by decide) (fun x11 ex11 => ?_)
          refine z_istore zh dX3_takeOff_27 (by decide) (L' := [some (rf g m), some (.int a1), some (.int a2), some (.int x1), some (.int x2), some (.int x11), none]) rfl ?_
          refine z_iloadn zh dX3_takeOff_29 rfl ?_
          refine z_iload zh dX3_takeOff_30 rfl ?_
          refine y_mabsT zh ma_Market_55 mc_abs dX3_takeOff_32 ⟨Nat.le_of_ble_eq_true rfl, Nat.le_of_ble_eq_true rfl⟩ (fun x12 => ?_)
          refine y_mmin zh ma_Market_59 mc_min dX3_takeOff_35 ⟨Nat.le_of_ble_eq_true rfl, Nat.le_of_ble_eq_true rfl⟩ r9 (ra_tt x12) (u := (-2147483648)) (v := 2147483647) (by decide) (by decide) (Or.inl (by decide)) (fun x13 hx13 => ?_)
          refine z_istore zh dX3_takeOff_38 (by decide) (L' := [some (rf g m), some (.int a1), some (.int a2), some (.int x1), some (.int x2), some (.int x11), some (.int x13)]) rfl ?_
          refine z_aloadnR zh dX3_takeOff_40 rfl ?_
          refine z_iloadn zh dX3_takeOff_41 rfl ?_
          refine z_iload zh dX3_takeOff_42 rfl ?_
          refine z_iload zh dX3_takeOff_44 rfl ?_
          have J57 : ∀ (iv : Iv) (lv : Lv) (x14 : Int32), SI sp σ iv → iv m 10 = x3 → Z 57 [some (rf g m), some (.int a1), some (.int a2), some (.int x1), some (.int x2), some (.int x11), some (.int x13)] [.int x14, .int x2, .int a1, rf g m] iv lv := by
            intro iv lv x14 hG em15
            refine z_callVV zh mv_Market_62 dX3_takeOff_57 (ck_M hm) rfl (s_X3_changeLot g hm ha1 r5 hG) ⟨Nat.le_of_ble_eq_true rfl, Nat.le_of_ble_eq_true rfl⟩ rfl rfl (Nat.le_of_ble_eq_true rfl) ?_
            rintro iv lv hG
            refine z_iloadn zh dX3_takeOff_60 rfl ?_
            refine z_iload zh dX3_takeOff_61 rfl ?_
            refine y_isubT zh dX3_takeOff_63 (fun x16 => ?_)
            refine z_istoren zh dX3_takeOff_64 (by decide) (L' := [some (rf g m), some (.int a1), some (.int a2), some (.int x16), some (.int x2), some (.int x11), some (.int x13)]) rfl ?_
            refine y_iinc (L' := fun z => [some (rf g m), some (.int a1), some (.int a2), some (.int x16), some (.int z), some (.int x11), some (.int x13)]) zh dX3_takeOff_65 (by decide) rfl (by decide +kernel) r5 (u := 1) (v := 100) rfl rfl (by decide) (by decide) (fun _ => rfl) (fun x17 hc17 hx17 => ?_)
            refine z_goto (tgt := 5) zh dX3_takeOff_68 rfl ?_
            refine z_forget zh [true, true, true, true, true, false, false] (L2 := [some (rf g m), some (.int a1), some (.int a2), some (.int x16), some (.int x17), none, none]) rfl ?_
            exact ih5 iv lv x16 x17 hG (ra_w hx17 (by decide) (by decide)) (ms_up hc17 (by decide) hn5)
          refine z_if_le (tgt := 55) zh dX3_takeOff_46 rfl (fun q18 => ?_) (fun q18 => ?_)
          · have r19 : Ra (-2147483648) 0 x11 := rb_le_l ra_z (ra_tt x11) q18 (by decide)
            refine z_iload zh dX3_takeOff_55 rfl ?_
            exact J57 iv lv x13 hG ex3
          · have r20 : Ra 1 2147483647 x11 := rb_lt_r ra_z (ra_tt x11) (rb_nle q18) (by decide)
            refine z_iload zh dX3_takeOff_49 rfl ?_
            refine y_inegT zh dX3_takeOff_51 (fun x21 => ?_)
            refine z_goto (tgt := 57) zh dX3_takeOff_52 rfl ?_
            exact J57 iv lv x21 hG ex3
  exact J5 101 iv lv a2 (nI 0) hG (ra_w rl_0 (by decide) (by decide)) (ms_u0 rl_0 (by decide))
set_option maxRecDepth 20000 in
theorem s_X3_addLot (g : GE) {sp : Nat → Nat → Bool} {σ : Iv} {iv : Iv} {lv : Lv} {m : Nat} {a1 : Int32} {a2 : Int32} {a3 : Int32} (hm : isM m) (ha1 : Ra 0 11 a1) (ha3 : Ra 0 99 a3) (hG : SI sp σ iv)  : ConV g yX3_addLot cX3_addLot 5 none 3 [rf g m, .int a1, .int a2, .int a3] iv lv (fun iv lv => SI sp σ iv) := by
  refine con_intro (own := "RollingNets$Market") (by decide +kernel) rfl (Nat.le_of_ble_eq_true rfl) (L0 := [some (rf g m), some (.int a1), some (.int a2), some (.int a3), none]) rfl (fun Z zh => ?_)
  refine z_iloadn zh dX3_addLot_0 rfl ?_
  refine y_mabsT zh ma_Market_55 mc_abs dX3_addLot_1 ⟨Nat.le_of_ble_eq_true rfl, Nat.le_of_ble_eq_true rfl⟩ (fun x1 => ?_)
  refine z_iloadn zh dX3_addLot_4 rfl ?_
  have J21 : ∀ (iv : Iv) (lv : Lv) (x2 : Int32), SI sp σ iv → Ra 0 2147483647 x2 → Z 21 [some (rf g m), some (.int a1), some (.int a2), some (.int a3), none] [.int x2, .int x1] iv lv := by
    intro iv lv x2 hG hx2
    refine y_mmin zh ma_Market_59 mc_min dX3_addLot_21 ⟨Nat.le_of_ble_eq_true rfl, Nat.le_of_ble_eq_true rfl⟩ (ra_tt x1) hx2 (u := (-2147483648)) (v := 2147483647) (by decide) (by decide) (Or.inl (by decide)) (fun x3 hx3 => ?_)
    refine z_istore zh dX3_addLot_24 (by decide) (L' := [some (rf g m), some (.int a1), some (.int a2), some (.int a3), some (.int x3)]) rfl ?_
    refine z_aloadnR zh dX3_addLot_26 rfl ?_
    refine z_iloadn zh dX3_addLot_27 rfl ?_
    refine z_iload zh dX3_addLot_28 rfl ?_
    refine z_callVV zh mv_Market_72 dX3_addLot_30 (ck_M hm) rfl (s_X3_takeOff g hm ha1 hG) ⟨Nat.le_of_ble_eq_true rfl, Nat.le_of_ble_eq_true rfl⟩ rfl rfl (Nat.le_of_ble_eq_true rfl) ?_
    rintro iv lv hG
    refine z_aloadnR zh dX3_addLot_33 rfl ?_
    refine z_aloadnR zh dX3_addLot_34 rfl ?_
    refine y_getI zh fl_Market_46 dX3_addLot_35 (ck_M hm) rfl rfl (fun x4 ex4 => ?_)
    have hx4 : Ra 0 100 x4 := ra_of ex4 (si_M hG hm 0 (by decide) rfl)
    refine z_iloadn zh dX3_addLot_38 rfl ?_
    refine z_iconst zh dX3_addLot_39 ki_1 ?_
    refine y_iadd zh dX3_addLot_40 ha3 rl_1 (u := 1) (v := 100) rfl rfl (by decide) (by decide) (fun x5 hc5 hx5 => ?_)
    refine y_mmax zh ma_Market_49 mc_max dX3_addLot_41 ⟨Nat.le_of_ble_eq_true rfl, Nat.le_of_ble_eq_true rfl⟩ hx4 hx5 (u := 1) (v := 100) (Or.inr (by decide)) (by decide) (by decide) (fun x6 hx6 => ?_)
    refine z_putI zh fl_Market_46 dX3_addLot_44 (ck_M hm) rfl rfl (Nat.le_of_ble_eq_true rfl) (Or.inl rfl) ?_
    have hG : SI sp σ (upI iv m 10 x6) := si_wM hG hm 0 (by decide) (rx_some (ra_w hx6 (by decide) (by decide)))
    have em7 : upI iv m 10 x6 m 10 = x6 := by rw [upI_at, if_pos ⟨rfl, rfl⟩]
    generalize upI iv m 10 x6 = iv at hG em7 ⊢
    refine z_aloadnR zh dX3_addLot_47 rfl ?_
    refine z_iloadn zh dX3_addLot_48 rfl ?_
    refine z_iloadn zh dX3_addLot_49 rfl ?_
    refine z_iloadn zh dX3_addLot_50 rfl ?_
    have J65 : ∀ (iv : Iv) (lv : Lv) (x8 : Int32), SI sp σ iv → iv m 10 = x6 → Z 65 [some (rf g m), some (.int a1), some (.int a2), some (.int a3), some (.int x3)] [.int x8, .int a3, .int a1, rf g m] iv lv := by
      intro iv lv x8 hG em9
      refine z_callVV zh mv_Market_62 dX3_addLot_65 (ck_M hm) rfl (s_X3_changeLot g hm ha1 ha3 hG) ⟨Nat.le_of_ble_eq_true rfl, Nat.le_of_ble_eq_true rfl⟩ rfl rfl (Nat.le_of_ble_eq_true rfl) ?_
      rintro iv lv hG
      exact z_vret zh dX3_addLot_68 ⟨rfl, hG⟩
    refine z_if_le (tgt := 61) zh dX3_addLot_51 rfl (fun q10 => ?_) (fun q10 => ?_)
    · have r11 : Ra (-2147483648) 0 a2 := rb_le_l ra_z (ra_tt a2) q10 (by decide)
      refine z_iloadn zh dX3_addLot_61 rfl ?_
      refine z_iload zh dX3_addLot_62 rfl ?_
      refine y_iaddT zh dX3_addLot_64 (fun x12 => ?_)
      exact J65 iv lv x12 hG em7
    · have r13 : Ra 1 2147483647 a2 := rb_lt_r ra_z (ra_tt a2) (rb_nle q10) (by decide)
      refine z_iloadn zh dX3_addLot_54 rfl ?_
      refine z_iload zh dX3_addLot_55 rfl ?_
      refine y_isubT zh dX3_addLot_57 (fun x14 => ?_)
      refine z_goto (tgt := 65) zh dX3_addLot_58 rfl ?_
      exact J65 iv lv x14 hG em7
  refine z_if_le (tgt := 16) zh dX3_addLot_5 rfl (fun q15 => ?_) (fun q15 => ?_)
  · have r16 : Ra (-2147483648) 0 a2 := rb_le_l ra_z (ra_tt a2) q15 (by decide)
    refine z_aloadnR zh dX3_addLot_16 rfl ?_
    refine z_iloadn zh dX3_addLot_17 rfl ?_
    refine z_callVI zh mv_Market_69 dX3_addLot_18 (ck_M hm) rfl (s_X3_longOf g hm ha1 hG) ⟨Nat.le_of_ble_eq_true rfl, Nat.le_of_ble_eq_true rfl⟩ rfl rfl (Nat.le_of_ble_eq_true rfl) ?_
    rintro x17 _ _ ⟨rfl, rfl, hx17⟩
    exact J21 iv lv x17 hG hx17
  · have r18 : Ra 1 2147483647 a2 := rb_lt_r ra_z (ra_tt a2) (rb_nle q15) (by decide)
    refine z_aloadnR zh dX3_addLot_8 rfl ?_
    refine z_iloadn zh dX3_addLot_9 rfl ?_
    refine z_callVI zh mv_Market_66 dX3_addLot_10 (ck_M hm) rfl (s_X3_shortOf g hm ha1 hG) ⟨Nat.le_of_ble_eq_true rfl, Nat.le_of_ble_eq_true rfl⟩ rfl rfl (Nat.le_of_ble_eq_true rfl) ?_
    rintro x19 _ _ ⟨rfl, rfl, hx19⟩
    refine z_goto (tgt := 21) zh dX3_addLot_13 rfl ?_
    exact J21 iv lv x19 hG hx19
set_option maxRecDepth 20000 in
theorem s_X3_greatest (g : GE) {sp : Nat → Nat → Bool} {σ : Iv} {iv : Iv} {lv : Lv} {m : Nat} {a1 : Int32} (hm : isM m) (ha1 : Ra 0 11 a1) (hG : SI sp σ iv)  : ConL g yX3_greatest cX3_greatest 5 (some .long) 1 [rf g m, .int a1] iv lv (fun r iv' lv' => iv = iv' ∧ lv = lv' ∧ True) := by
  refine con_intro (own := "RollingNets$Market") (by decide +kernel) rfl (Nat.le_of_ble_eq_true rfl) (L0 := [some (rf g m), some (.int a1), none, none, none]) rfl (fun Z zh => ?_)
  refine z_aloadnR zh dX3_greatest_0 rfl ?_
  refine z_getf zh fl_Market_9 dX3_greatest_1 (ck_M hm) rfl rfl ?_
  refine z_iloadn zh dX3_greatest_4 rfl ?_
  refine y_lald zh (ck_stock hm) dX3_greatest_5 ha1 (by decide) (by decide) (fun l1 => ?_)
  refine z_aloadnR zh dX3_greatest_6 rfl ?_
  refine z_getf zh fl_Market_15 dX3_greatest_7 (ck_M hm) rfl rfl ?_
  refine z_iloadn zh dX3_greatest_10 rfl ?_
  refine y_iald zh (ck_mi 2 (by decide) hm) dX3_greatest_11 ha1 (by decide) (by decide) (fun x2 ex2 => ?_)
  refine y_i2l zh dX3_greatest_12 (fun l3 => ?_)
  refine y_mmax_longT zh ma_Market_84 mc_max_long dX3_greatest_13 ⟨Nat.le_of_ble_eq_true rfl, Nat.le_of_ble_eq_true rfl⟩ (fun l4 => ?_)
  refine z_lstoren zh dX3_greatest_16 (by decide) (L' := [some (rf g m), some (.int a1), some (.long l4), none, none]) rfl ?_
  refine z_aloadnR zh dX3_greatest_17 rfl ?_
  refine z_getf zh fl_Market_19 dX3_greatest_18 (ck_M hm) rfl rfl ?_
  refine z_iloadn zh dX3_greatest_21 rfl ?_
  refine y_iald zh (ck_mi 3 (by decide) hm) dX3_greatest_22 ha1 (by decide) (by decide) (fun x5 ex5 => ?_)
  refine z_aloadnR zh dX3_greatest_23 rfl ?_
  refine z_getf zh fl_Market_22 dX3_greatest_24 (ck_M hm) rfl rfl ?_
  refine z_iloadn zh dX3_greatest_27 rfl ?_
  refine y_iald zh (ck_mi 4 (by decide) hm) dX3_greatest_28 ha1 (by decide) (by decide) (fun x6 ex6 => ?_)
  refine y_mmax zh ma_Market_49 mc_max dX3_greatest_29 ⟨Nat.le_of_ble_eq_true rfl, Nat.le_of_ble_eq_true rfl⟩ (ra_tt x5) (ra_tt x6) (u := (-2147483648)) (v := 2147483647) (Or.inl (by decide)) (by decide) (by decide) (fun x7 hx7 => ?_)
  refine z_istore zh dX3_greatest_32 (by decide) (L' := [some (rf g m), some (.int a1), some (.long l4), none, some (.int x7)]) rfl ?_
  refine z_lloadn zh dX3_greatest_34 rfl ?_
  refine z_iload zh dX3_greatest_35 rfl ?_
  refine y_i2l zh dX3_greatest_37 (fun l8 => ?_)
  refine y_mmax_longT zh ma_Market_84 mc_max_long dX3_greatest_38 ⟨Nat.le_of_ble_eq_true rfl, Nat.le_of_ble_eq_true rfl⟩ (fun l9 => ?_)
  refine z_aloadnR zh dX3_greatest_41 rfl ?_
  refine z_getf zh fl_Market_28 dX3_greatest_42 (ck_M hm) rfl rfl ?_
  refine z_iloadn zh dX3_greatest_45 rfl ?_
  refine y_iald zh (ck_mi 6 (by decide) hm) dX3_greatest_46 ha1 (by decide) (by decide) (fun x10 ex10 => ?_)
  refine y_mabsT zh ma_Market_55 mc_abs dX3_greatest_47 ⟨Nat.le_of_ble_eq_true rfl, Nat.le_of_ble_eq_true rfl⟩ (fun x11 => ?_)
  refine y_i2l zh dX3_greatest_50 (fun l12 => ?_)
  refine y_mmax_longT zh ma_Market_84 mc_max_long dX3_greatest_51 ⟨Nat.le_of_ble_eq_true rfl, Nat.le_of_ble_eq_true rfl⟩ (fun l13 => ?_)
  exact z_lret zh dX3_greatest_54 ⟨_, rfl, rfl, rfl, trivial⟩
set_option maxRecDepth 20000 in
theorem s_X3_multiplyMember (g : GE) {sp : Nat → Nat → Bool} {σ : Iv} {iv : Iv} {lv : Lv} {m : Nat} {a1 : Int32} {a2 : Int32} (hm : isM m) (ha1 : Ra 0 11 a1) (ha2 : Ra 2 5 a2) (hG : SI sp σ iv)  : ConV g yX3_multiplyMember cX3_multiplyMember 4 none 1 [rf g m, .int a1, .int a2] iv lv (fun iv lv => SI sp σ iv) := by
  refine con_intro (own := "RollingNets$Market") (by decide +kernel) rfl (Nat.le_of_ble_eq_true rfl) (L0 := [some (rf g m), some (.int a1), some (.int a2), none]) rfl (fun Z zh => ?_)
  refine z_aloadnR zh dX3_multiplyMember_0 rfl ?_
  refine z_getf zh fl_Market_9 dX3_multiplyMember_1 (ck_M hm) rfl rfl ?_
  refine z_iloadn zh dX3_multiplyMember_4 rfl ?_
  refine z_dup2 zh dX3_multiplyMember_5 rfl rfl ?_
  refine y_lald zh (ck_stock hm) dX3_multiplyMember_6 ha1 (by decide) (by decide) (fun l1 => ?_)
  refine z_iloadn zh dX3_multiplyMember_7 rfl ?_
  refine y_i2l zh dX3_multiplyMember_8 (fun l2 => ?_)
  refine y_lmul zh dX3_multiplyMember_9 (fun l3 => ?_)
  refine z_last zh (ck_stock hm) dX3_multiplyMember_10 (ra_in ha1 (by decide) (by decide)) ?_
  generalize upL lv (m + 1) a1.toNatClampNeg l3 = lv
  refine z_aloadnR zh dX3_multiplyMember_11 rfl ?_
  refine z_getf zh fl_Market_15 dX3_multiplyMember_12 (ck_M hm) rfl rfl ?_
  refine z_iloadn zh dX3_multiplyMember_15 rfl ?_
  refine z_dup2 zh dX3_multiplyMember_16 rfl rfl ?_
  refine y_iald zh (ck_mi 2 (by decide) hm) dX3_multiplyMember_17 ha1 (by decide) (by decide) (fun x4 ex4 => ?_)
  refine z_iloadn zh dX3_multiplyMember_18 rfl ?_
  refine y_imulT zh dX3_multiplyMember_19 (fun x5 => ?_)
  refine z_iast zh (ck_mi 2 (by decide) hm) dX3_multiplyMember_20 (ra_in ha1 (by decide) (by decide)) ?_
  have hG : SI sp σ (upI iv (m + 2) a1.toNatClampNeg x5) := si_wM hG hm 2 (by decide) (rx_none rfl)
  generalize upI iv (m + 2) a1.toNatClampNeg x5 = iv at hG  ⊢
  refine z_aloadnR zh dX3_multiplyMember_21 rfl ?_
  refine z_getf zh fl_Market_19 dX3_multiplyMember_22 (ck_M hm) rfl rfl ?_
  refine z_iloadn zh dX3_multiplyMember_25 rfl ?_
  refine z_dup2 zh dX3_multiplyMember_26 rfl rfl ?_
  refine y_iald zh (ck_mi 3 (by decide) hm) dX3_multiplyMember_27 ha1 (by decide) (by decide) (fun x6 ex6 => ?_)
  refine z_iloadn zh dX3_multiplyMember_28 rfl ?_
  refine y_imulT zh dX3_multiplyMember_29 (fun x7 => ?_)
  refine z_iast zh (ck_mi 3 (by decide) hm) dX3_multiplyMember_30 (ra_in ha1 (by decide) (by decide)) ?_
  have hG : SI sp σ (upI iv (m + 3) a1.toNatClampNeg x7) := si_wM hG hm 3 (by decide) (rx_none rfl)
  generalize upI iv (m + 3) a1.toNatClampNeg x7 = iv at hG  ⊢
  refine z_aloadnR zh dX3_multiplyMember_31 rfl ?_
  refine z_getf zh fl_Market_22 dX3_multiplyMember_32 (ck_M hm) rfl rfl ?_
  refine z_iloadn zh dX3_multiplyMember_35 rfl ?_
  refine z_dup2 zh dX3_multiplyMember_36 rfl rfl ?_
  refine y_iald zh (ck_mi 4 (by decide) hm) dX3_multiplyMember_37 ha1 (by decide) (by decide) (fun x8 ex8 => ?_)
  refine z_iloadn zh dX3_multiplyMember_38 rfl ?_
  refine y_imulT zh dX3_multiplyMember_39 (fun x9 => ?_)
  refine z_iast zh (ck_mi 4 (by decide) hm) dX3_multiplyMember_40 (ra_in ha1 (by decide) (by decide)) ?_
  have hG : SI sp σ (upI iv (m + 4) a1.toNatClampNeg x9) := si_wM hG hm 4 (by decide) (rx_none rfl)
  generalize upI iv (m + 4) a1.toNatClampNeg x9 = iv at hG  ⊢
  refine z_aloadnR zh dX3_multiplyMember_41 rfl ?_
  refine z_getf zh fl_Market_28 dX3_multiplyMember_42 (ck_M hm) rfl rfl ?_
  refine z_iloadn zh dX3_multiplyMember_45 rfl ?_
  refine z_dup2 zh dX3_multiplyMember_46 rfl rfl ?_
  refine y_iald zh (ck_mi 6 (by decide) hm) dX3_multiplyMember_47 ha1 (by decide) (by decide) (fun x10 ex10 => ?_)
  refine z_iloadn zh dX3_multiplyMember_48 rfl ?_
  refine y_imulT zh dX3_multiplyMember_49 (fun x11 => ?_)
  refine z_iast zh (ck_mi 6 (by decide) hm) dX3_multiplyMember_50 (ra_in ha1 (by decide) (by decide)) ?_
  have hG : SI sp σ (upI iv (m + 6) a1.toNatClampNeg x11) := si_wM hG hm 6 (by decide) (rx_none rfl)
  generalize upI iv (m + 6) a1.toNatClampNeg x11 = iv at hG  ⊢
  refine z_iconst zh dX3_multiplyMember_51 ki_0 ?_
  refine z_istoren zh dX3_multiplyMember_52 (by decide) (L' := [some (rf g m), some (.int a1), some (.int a2), some (.int (nI 0))]) rfl ?_
  have J53 : ∀ (n : Nat) (iv : Iv) (lv : Lv) (x12 : Int32), SI sp σ iv → Ra 0 100 x12 → 100 - x12.toInt < (n : Int) → Z 53 [some (rf g m), some (.int a1), some (.int a2), some (.int x12)] [] iv lv := by
    intro n
    induction n with
    | zero => intro iv lv x12 hG hx12 hn53; exact (ms_uz hx12 hn53).elim
    | succ n ih53 =>
      intro iv lv x12 hG hx12 hn53
      refine z_iloadn zh dX3_multiplyMember_53 rfl ?_
      refine z_aloadnR zh dX3_multiplyMember_54 rfl ?_
      refine y_getI zh fl_Market_46 dX3_multiplyMember_55 (ck_M hm) rfl rfl (fun x13 ex13 => ?_)
      have hx13 : Ra 0 100 x13 := ra_of ex13 (si_M hG hm 0 (by decide) rfl)
      refine z_icmp_ge (tgt := 79) zh dX3_multiplyMember_58 rfl (fun q14 => ?_) (fun q14 => ?_)
      · exact z_vret zh dX3_multiplyMember_79 ⟨rfl, hG⟩
      · have r15 : Ra 0 99 x12 := rb_lt_l hx13 hx12 (rb_nle q14) (by decide)
        have r16 : Ra 1 100 x13 := rb_lt_r hx12 hx13 (rb_nle q14) (by decide)
        refine z_aloadnR zh dX3_multiplyMember_61 rfl ?_
        refine z_getf zh fl_Market_33 dX3_multiplyMember_62 (ck_M hm) rfl rfl ?_
        refine z_iloadn zh dX3_multiplyMember_65 rfl ?_
        refine y_gald zh (ck_lots hm) dX3_multiplyMember_66 ha1 (by decide) (by decide) (fun j17 hj17 _ _ => ?_)
        refine z_iloadn zh dX3_multiplyMember_67 rfl ?_
        refine z_dup2 zh dX3_multiplyMember_68 rfl rfl ?_
        refine y_iald zh (ck_row hm hj17) dX3_multiplyMember_69 r15 (by decide) (by decide) (fun x18 ex18 => ?_)
        refine z_iloadn zh dX3_multiplyMember_70 rfl ?_
        refine y_imulT zh dX3_multiplyMember_71 (fun x19 => ?_)
        refine z_iast zh (ck_row hm hj17) dX3_multiplyMember_72 (ra_in r15 (by decide) (by decide)) ?_
        have hG : SI sp σ (upI iv (m + 8 + j17) x12.toNatClampNeg x19) := si_wR hG hm hj17
        generalize upI iv (m + 8 + j17) x12.toNatClampNeg x19 = iv at hG  ⊢
        refine y_iinc (L' := fun z => [some (rf g m), some (.int a1), some (.int a2), some (.int z)]) zh dX3_multiplyMember_73 (by decide) rfl (by decide +kernel) r15 (u := 1) (v := 100) rfl rfl (by decide) (by decide) (fun _ => rfl) (fun x21 hc21 hx21 => ?_)
        refine z_goto (tgt := 53) zh dX3_multiplyMember_76 rfl ?_
        exact ih53 iv lv x21 hG (ra_w hx21 (by decide) (by decide)) (ms_up hc21 (by decide) hn53)
  exact J53 101 iv lv (nI 0) hG (ra_w rl_0 (by decide) (by decide)) (ms_u0 rl_0 (by decide))
set_option maxRecDepth 20000 in
theorem s_X3_multiply (g : GE) {sp : Nat → Nat → Bool} {σ : Iv} {iv : Iv} {lv : Lv} {m : Nat} {a1 : Int32} {a2 : Int32} (hm : isM m) (ha1 : Ra 2 5 a1) (ha2 : Ra 2 12 a2) (hG : SI sp σ iv)  : ConI g yX3_multiply cX3_multiply 5 (some .boolean) 2 [rf g m, .int a1, .int a2] iv lv (fun r iv lv => SI sp σ iv ∧ Ra 0 1 r) := by
  refine con_intro (own := "RollingNets$Market") (by decide +kernel) rfl (Nat.le_of_ble_eq_true rfl) (L0 := [some (rf g m), some (.int a1), some (.int a2), none, none]) rfl (fun Z zh => ?_)
  refine z_iloadn zh dX3_multiply_0 rfl ?_
  refine z_iconst zh dX3_multiply_1 ki_1 ?_
  refine z_icmp_lt (tgt := 23) zh dX3_multiply_2 rfl (fun q1 => ?_) (fun q1 => ?_)
  · exact (ra_no (rb_lt_l rl_1 ha1 q1 (u := 0) (by decide)) (by decide)).elim
  · refine z_aloadnR zh dX3_multiply_5 rfl ?_
    refine y_getI zh fl_Market_36 dX3_multiply_6 (ck_M hm) rfl rfl (fun x2 ex2 => ?_)
    refine z_iloadn zh dX3_multiply_9 rfl ?_
    refine y_iremT zh dX3_multiply_10 (ra_nz ha1 (by decide)) (fun x3 => ?_)
    refine z_if_ne (tgt := 23) zh dX3_multiply_11 rfl (fun q4 => ?_) (fun q4 => ?_)
    · refine z_iconst zh dX3_multiply_23 ki_0 ?_
      exact z_zret zh dX3_multiply_24 (ra_01 (ra_w rl_0 (by decide) (by decide))) ⟨_, rfl, hG, (ra_w rl_0 (by decide) (by decide))⟩
    · have r5 := rb_eq (u := 0) (v := 0) (ra_tt x3) ra_z q4 (by decide) (by decide)
      refine z_aloadnR zh dX3_multiply_14 rfl ?_
      refine y_getI zh fl_Market_40 dX3_multiply_15 (ck_M hm) rfl rfl (fun x6 ex6 => ?_)
      refine z_iloadn zh dX3_multiply_18 rfl ?_
      refine y_iremT zh dX3_multiply_19 (ra_nz ha1 (by decide)) (fun x7 => ?_)
      refine z_if_eq (tgt := 25) zh dX3_multiply_20 rfl (fun q8 => ?_) (fun q8 => ?_)
      · have r9 := rb_eq (u := 0) (v := 0) (ra_tt x7) ra_z q8 (by decide) (by decide)
        refine z_ldc zh dX3_multiply_25 kc_Market_76 ?_
        refine z_iloadn zh dX3_multiply_27 rfl ?_
        refine y_idivT zh dX3_multiply_28 (ra_nz ha1 (by decide)) (fun x10 => ?_)
        refine z_istoren zh dX3_multiply_29 (by decide) (L' := [some (rf g m), some (.int a1), some (.int a2), some (.int x10), none]) rfl ?_
        refine z_iconst zh dX3_multiply_30 ki_0 ?_
        refine z_istore zh dX3_multiply_31 (by decide) (L' := [some (rf g m), some (.int a1), some (.int a2), some (.int x10), some (.int (nI 0))]) rfl ?_
        have J33 : ∀ (n : Nat) (iv : Iv) (lv : Lv) (x11 : Int32), SI sp σ iv → Ra 0 12 x11 → iv m 7 = x2 → iv m 8 = x6 → 12 - x11.toInt < (n : Int) → Z 33 [some (rf g m), some (.int a1), some (.int a2), some (.int x10), some (.int x11)] [] iv lv := by
          intro n
          induction n with
          | zero => intro iv lv x11 hG hx11 em12 em13 hn33; exact (ms_uz hx11 hn33).elim
          | succ n ih33 =>
            intro iv lv x11 hG hx11 em12 em13 hn33
            refine z_iload zh dX3_multiply_33 rfl ?_
            refine z_iloadn zh dX3_multiply_35 rfl ?_
            refine z_icmp_ge (tgt := 59) zh dX3_multiply_36 rfl (fun q14 => ?_) (fun q14 => ?_)
            · have r15 : Ra 2 12 x11 := rb_le_r ha2 hx11 q14 (by decide)
              refine z_iconst zh dX3_multiply_59 ki_0 ?_
              refine z_istore zh dX3_multiply_60 (by decide) (L' := [some (rf g m), some (.int a1), some (.int a2), some (.int x10), some (.int (nI 0))]) rfl ?_
              have J62 : ∀ (n : Nat) (iv : Iv) (lv : Lv) (x16 : Int32), SI sp σ iv → Ra 0 12 x16 → 12 - x16.toInt < (n : Int) → Z 62 [some (rf g m), some (.int a1), some (.int a2), some (.int x10), some (.int x16)] [] iv lv := by
                intro n
                induction n with
                | zero => intro iv lv x16 hG hx16 hn62; exact (ms_uz hx16 hn62).elim
                | succ n ih62 =>
                  intro iv lv x16 hG hx16 hn62
                  refine z_iload zh dX3_multiply_62 rfl ?_
                  refine z_iloadn zh dX3_multiply_64 rfl ?_
                  refine z_icmp_ge (tgt := 81) zh dX3_multiply_65 rfl (fun q17 => ?_) (fun q17 => ?_)
                  · have r18 : Ra 2 12 x16 := rb_le_r ha2 hx16 q17 (by decide)
                    refine z_aloadnR zh dX3_multiply_81 rfl ?_
                    refine z_dup zh dX3_multiply_82 rfl ?_
                    refine y_getI zh fl_Market_36 dX3_multiply_83 (ck_M hm) rfl rfl (fun x19 ex19 => ?_)
                    refine z_iloadn zh dX3_multiply_86 rfl ?_
                    refine y_idivT zh dX3_multiply_87 (ra_nz ha1 (by decide)) (fun x20 => ?_)
                    refine z_putI zh fl_Market_36 dX3_multiply_88 (ck_M hm) rfl rfl (Nat.le_of_ble_eq_true rfl) (Or.inl rfl) ?_
                    have hG : SI sp σ (upI iv m 7 x20) := si_wM hG hm 0 (by decide) (rx_none rfl)
                    have em21 : upI iv m 7 x20 m 7 = x20 := by rw [upI_at, if_pos ⟨rfl, rfl⟩]
                    generalize upI iv m 7 x20 = iv at hG em21 ⊢
                    refine z_aloadnR zh dX3_multiply_91 rfl ?_
                    refine z_dup zh dX3_multiply_92 rfl ?_
                    refine y_getI zh fl_Market_40 dX3_multiply_93 (ck_M hm) rfl rfl (fun x22 ex22 => ?_)
                    refine z_iloadn zh dX3_multiply_96 rfl ?_
                    refine y_idivT zh dX3_multiply_97 (ra_nz ha1 (by decide)) (fun x23 => ?_)
                    refine z_putI zh fl_Market_40 dX3_multiply_98 (ck_M hm) rfl rfl (Nat.le_of_ble_eq_true rfl) (Or.inl rfl) ?_
                    have hG : SI sp σ (upI iv m 8 x23) := si_wM hG hm 0 (by decide) (rx_none rfl)
                    have em24 := (upI_ne (iv := iv) (k := m) (j := 8) (x := x23) (a := m) (b := 7) (Or.inr (by decide))).trans em21
                    have em25 : upI iv m 8 x23 m 8 = x23 := by rw [upI_at, if_pos ⟨rfl, rfl⟩]
                    generalize upI iv m 8 x23 = iv at hG em24 em25 ⊢
                    refine z_iconst zh dX3_multiply_101 ki_1 ?_
                    exact z_zret zh dX3_multiply_102 (ra_01 (ra_w rl_1 (by decide) (by decide))) ⟨_, rfl, hG, (ra_w rl_1 (by decide) (by decide))⟩
                  · have r26 : Ra 0 11 x16 := rb_lt_l ha2 hx16 (rb_nle q17) (by decide)
                    refine z_aloadnR zh dX3_multiply_68 rfl ?_
                    refine z_iload zh dX3_multiply_69 rfl ?_
                    refine z_iloadn zh dX3_multiply_71 rfl ?_
                    refine z_callVV zh mv_Market_81 dX3_multiply_72 (ck_M hm) rfl (s_X3_multiplyMember g hm r26 ha1 hG) ⟨Nat.le_of_ble_eq_true rfl, Nat.le_of_ble_eq_true rfl⟩ rfl rfl (Nat.le_of_ble_eq_true rfl) ?_
                    rintro iv lv hG
                    refine y_iinc (L' := fun z => [some (rf g m), some (.int a1), some (.int a2), some (.int x10), some (.int z)]) zh dX3_multiply_75 (by decide) rfl (by decide +kernel) r26 (u := 1) (v := 12) rfl rfl (by decide) (by decide) (fun _ => rfl) (fun x27 hc27 hx27 => ?_)
                    refine z_goto (tgt := 62) zh dX3_multiply_78 rfl ?_
                    exact ih62 iv lv x27 hG (ra_w hx27 (by decide) (by decide)) (ms_up hc27 (by decide) hn62)
              exact J62 13 iv lv (nI 0) hG (ra_w rl_0 (by decide) (by decide)) (ms_u0 rl_0 (by decide))
            · have r28 : Ra 0 11 x11 := rb_lt_l ha2 hx11 (rb_nle q14) (by decide)
              refine z_aloadnR zh dX3_multiply_39 rfl ?_
              refine z_iload zh dX3_multiply_40 rfl ?_
              refine z_callVL zh mv_Market_77 dX3_multiply_42 (ck_M hm) rfl (s_X3_greatest g hm r28 hG) ⟨Nat.le_of_ble_eq_true rfl, Nat.le_of_ble_eq_true rfl⟩ rfl rfl (Nat.le_of_ble_eq_true rfl) ?_
              rintro l29 _ _ ⟨rfl, rfl, _⟩
              refine z_iloadn zh dX3_multiply_45 rfl ?_
              refine y_i2l zh dX3_multiply_46 (fun l30 => ?_)
              refine y_lcmp zh dX3_multiply_47 (fun x31 hx31 => ?_)
              refine z_if_le (tgt := 53) zh dX3_multiply_48 rfl (fun q32 => ?_) (fun q32 => ?_)
              · have r33 : Ra (-1) 0 x31 := rb_le_l ra_z hx31 q32 (by decide)
                refine y_iinc (L' := fun z => [some (rf g m), some (.int a1), some (.int a2), some (.int x10), some (.int z)]) zh dX3_multiply_53 (by decide) rfl (by decide +kernel) r28 (u := 1) (v := 12) rfl rfl (by decide) (by decide) (fun _ => rfl) (fun x34 hc34 hx34 => ?_)
                refine z_goto (tgt := 33) zh dX3_multiply_56 rfl ?_
                exact ih33 iv lv x34 hG (ra_w hx34 (by decide) (by decide)) em12 em13 (ms_up hc34 (by decide) hn33)
              · have r35 : Ra 1 1 x31 := rb_lt_r ra_z hx31 (rb_nle q32) (by decide)
                refine z_iconst zh dX3_multiply_51 ki_0 ?_
                exact z_zret zh dX3_multiply_52 (ra_01 (ra_w rl_0 (by decide) (by decide))) ⟨_, rfl, hG, (ra_w rl_0 (by decide) (by decide))⟩
        exact J33 13 iv lv (nI 0) hG (ra_w rl_0 (by decide) (by decide)) ex2 ex6 (ms_u0 rl_0 (by decide))
      · refine z_iconst zh dX3_multiply_23 ki_0 ?_
        exact z_zret zh dX3_multiply_24 (ra_01 (ra_w rl_0 (by decide) (by decide))) ⟨_, rfl, hG, (ra_w rl_0 (by decide) (by decide))⟩
set_option maxRecDepth 20000 in
theorem s_X4_allot (g : GE) {sp : Nat → Nat → Bool} {σ : Iv} {iv : Iv} {lv : Lv} {h : Nat} {a1 : Int32} {a2 : Int32} (hh : isH h) (ha1 : Ra 0 5 a1) (hG : SI sp σ iv)  : ConV g yX4_allot cX4_allot 9 none 5 [rf g h, .int a1, .int a2] iv lv (fun iv lv => SI sp σ iv) := by
  refine con_intro (own := "RollingNets$Night") (by decide +kernel) rfl (Nat.le_of_ble_eq_true rfl) (L0 := [some (rf g h), some (.int a1), some (.int a2), none, none, none, none, none, none]) rfl (fun Z zh => ?_)
  refine z_iloadn zh dX4_allot_0 rfl ?_
  refine z_if_ne (tgt := 5) zh dX4_allot_1 rfl (fun q1 => ?_) (fun q1 => ?_)
  · refine z_aloadnR zh dX4_allot_5 rfl ?_
    refine z_getf zh fl_Night_57 dX4_allot_6 (ck_H hh) rfl rfl ?_
    refine z_iloadn zh dX4_allot_9 rfl ?_
    refine y_mald zh (ck_markets hh) dX4_allot_10 ha1 (by decide) (by decide) (fun j2 hj2 _ _ => ?_)
    refine z_astoren zh dX4_allot_11 (by decide) (L' := [some (rf g h), some (.int a1), some (.int a2), some (rf g (h + 60 + 20 * j2)), none, none, none, none, none]) rfl ?_
    refine z_aloadnR zh dX4_allot_12 rfl ?_
    refine z_getf zh fl_Night_141 dX4_allot_13 (ck_H hh) rfl rfl ?_
    refine z_astore zh dX4_allot_16 (by decide) (L' := [some (rf g h), some (.int a1), some (.int a2), some (rf g (h + 60 + 20 * j2)), some (rf g (h + 54)), none, none, none, none]) rfl ?_
    refine z_aloadR zh dX4_allot_18 rfl ?_
    refine z_aloadnR zh dX4_allot_20 rfl ?_
    refine z_iloadn zh dX4_allot_21 rfl ?_
    refine z_callVV zh mv_Night_145 dX4_allot_22 (ck_line hh) rfl (s_X2_form g hh hh ha1 hG) ⟨Nat.le_of_ble_eq_true rfl, Nat.le_of_ble_eq_true rfl⟩ rfl rfl (Nat.le_of_ble_eq_true rfl) ?_
    rintro iv lv hG
    refine z_iloadn zh dX4_allot_25 rfl ?_
    refine z_istore zh dX4_allot_26 (by decide) (L' := [some (rf g h), some (.int a1), some (.int a2), some (rf g (h + 60 + 20 * j2)), some (rf g (h + 54)), some (.int a2), none, none, none]) rfl ?_
    refine z_iconst zh dX4_allot_28 ki_0 ?_
    refine z_istore zh dX4_allot_29 (by decide) (L' := [some (rf g h), some (.int a1), some (.int a2), some (rf g (h + 60 + 20 * j2)), some (rf g (h + 54)), some (.int a2), some (.int (nI 0)), none, none]) rfl ?_
    have J31 : ∀ (n : Nat) (iv : Iv) (lv : Lv) (x3 : Int32) (x4 : Int32), SI sp σ iv → Ra 0 1200 x4 → 1200 - x4.toInt < (n : Int) → Z 31 [some (rf g h), some (.int a1), some (.int a2), some (rf g (h + 60 + 20 * j2)), some (rf g (h + 54)), some (.int x3), some (.int x4), none, none] [] iv lv := by
      intro n
      induction n with
      | zero => intro iv lv x3 x4 hG hx4 hn31; exact (ms_uz hx4 hn31).elim
      | succ n ih31 =>
        intro iv lv x3 x4 hG hx4 hn31
        refine z_iload zh dX4_allot_31 rfl ?_
        refine z_aloadR zh dX4_allot_33 rfl ?_
        refine y_getI zh fl_Night_150 dX4_allot_35 (ck_line hh) rfl rfl (fun x5 ex5 => ?_)
        have hx5 : Ra 0 1200 x5 := ra_of ex5 (si_H hG hh 54 (by decide) rfl)
        refine z_icmp_ge (tgt := 170) zh dX4_allot_38 rfl (fun q6 => ?_) (fun q6 => ?_)
        · exact z_vret zh dX4_allot_170 ⟨rfl, hG⟩
        · have r7 : Ra 0 1199 x4 := rb_lt_l hx5 hx4 (rb_nle q6) (by decide)
          have r8 : Ra 1 1200 x5 := rb_lt_r hx4 hx5 (rb_nle q6) (by decide)
          refine z_iload zh dX4_allot_41 rfl ?_
          refine z_if_le (tgt := 170) zh dX4_allot_43 rfl (fun q9 => ?_) (fun q9 => ?_)
          · have r10 : Ra (-2147483648) 0 x3 := rb_le_l ra_z (ra_tt x3) q9 (by decide)
            exact z_vret zh dX4_allot_170 ⟨rfl, hG⟩
          · have r11 : Ra 1 2147483647 x3 := rb_lt_r ra_z (ra_tt x3) (rb_nle q9) (by decide)
            refine z_aloadR zh dX4_allot_46 rfl ?_
            refine z_getf zh fl_Night_152 dX4_allot_48 (ck_line hh) rfl rfl ?_
            refine z_iload zh dX4_allot_51 rfl ?_
            refine y_iald zh (ck_lineM hh) dX4_allot_53 r7 (by decide) (by decide) (fun x12 ex12 => ?_)
            have hx12 : Ra 0 11 x12 := ra_of ex12 (si_H hG hh 55 (by decide) rfl)
            refine z_istore zh dX4_allot_54 (by decide) (L' := [some (rf g h), some (.int a1), some (.int a2), some (rf g (h + 60 + 20 * j2)), some (rf g (h + 54)), some (.int x3), some (.int x4), some (.int x12), none]) rfl ?_
            refine z_iload zh dX4_allot_56 rfl ?_
            refine z_aloadnR zh dX4_allot_58 rfl ?_
            refine z_getf zh fl_Night_96 dX4_allot_59 (ck_M (isM_of hh hj2)) rfl rfl ?_
            refine z_iload zh dX4_allot_62 rfl ?_
            refine y_gald zh (ck_lots (isM_of hh hj2)) dX4_allot_64 hx12 (by decide) (by decide) (fun j13 hj13 _ _ => ?_)
            refine z_aloadR zh dX4_allot_65 rfl ?_
            refine z_getf zh fl_Night_156 dX4_allot_67 (ck_line hh) rfl rfl ?_
            refine z_iload zh dX4_allot_70 rfl ?_
            refine y_iald zh (ck_lineD hh) dX4_allot_72 r7 (by decide) (by decide) (fun x14 ex14 => ?_)
            have hx14 : Ra 0 99 x14 := ra_of ex14 (si_H hG hh 56 (by decide) rfl)
            refine y_iald zh (ck_row (isM_of hh hj2) hj13) dX4_allot_73 hx14 (by decide) (by decide) (fun x15 ex15 => ?_)
            refine y_mmin zh ma_Night_158 mc_min dX4_allot_74 ⟨Nat.le_of_ble_eq_true rfl, Nat.le_of_ble_eq_true rfl⟩ r11 (ra_tt x15) (u := (-2147483648)) (v := 2147483647) (by decide) (by decide) (Or.inl (by decide)) (fun x16 hx16 => ?_)
            refine z_istore zh dX4_allot_77 (by decide) (L' := [some (rf g h), some (.int a1), some (.int a2), some (rf g (h + 60 + 20 * j2)), some (rf g (h + 54)), some (.int x3), some (.int x4), some (.int x12), some (.int x16)]) rfl ?_
            refine z_aloadnR zh dX4_allot_79 rfl ?_
            refine z_getf zh fl_Night_118 dX4_allot_80 (ck_M (isM_of hh hj2)) rfl rfl ?_
            refine z_iload zh dX4_allot_83 rfl ?_
            refine z_dup2 zh dX4_allot_85 rfl rfl ?_
            refine y_lald zh (ck_stock (isM_of hh hj2)) dX4_allot_86 hx12 (by decide) (by decide) (fun l17 => ?_)
            refine z_iload zh dX4_allot_87 rfl ?_
            refine y_i2l zh dX4_allot_89 (fun l18 => ?_)
            refine y_ladd zh dX4_allot_90 (fun l19 => ?_)
            refine z_last zh (ck_stock (isM_of hh hj2)) dX4_allot_91 (ra_in hx12 (by decide) (by decide)) ?_
            generalize upL lv (h + 60 + 20 * j2 + 1) x12.toNatClampNeg l19 = lv
            refine z_aloadnR zh dX4_allot_92 rfl ?_
            refine z_getf zh fl_Night_160 dX4_allot_93 (ck_M (isM_of hh hj2)) rfl rfl ?_
            refine z_iload zh dX4_allot_96 rfl ?_
            refine z_iconst zh dX4_allot_98 ki_0 ?_
            refine z_aloadnR zh dX4_allot_99 rfl ?_
            refine z_getf zh fl_Night_160 dX4_allot_100 (ck_M (isM_of hh hj2)) rfl rfl ?_
            refine z_iload zh dX4_allot_103 rfl ?_
            refine y_iald zh (ck_mi 4 (by decide) (isM_of hh hj2)) dX4_allot_105 hx12 (by decide) (by decide) (fun x20 ex20 => ?_)
            refine z_iload zh dX4_allot_106 rfl ?_
            refine y_isubT zh dX4_allot_108 (fun x21 => ?_)
            refine y_mmax zh ma_Night_163 mc_max dX4_allot_109 ⟨Nat.le_of_ble_eq_true rfl, Nat.le_of_ble_eq_true rfl⟩ rl_0 (ra_tt x21) (u := 0) (v := 2147483647) (Or.inl (by decide)) (by decide) (by decide) (fun x22 hx22 => ?_)
            refine z_iast zh (ck_mi 4 (by decide) (isM_of hh hj2)) dX4_allot_112 (ra_in hx12 (by decide) (by decide)) ?_
            have hG : SI sp σ (upI iv (h + 60 + 20 * j2 + 4) x12.toNatClampNeg x22) := si_wM hG (isM_of hh hj2) 4 (by decide) (rx_none rfl)
            generalize upI iv (h + 60 + 20 * j2 + 4) x12.toNatClampNeg x22 = iv at hG  ⊢
            refine z_aloadnR zh dX4_allot_113 rfl ?_
            refine z_getf zh fl_Night_122 dX4_allot_114 (ck_H hh) rfl rfl ?_
            refine z_iload zh dX4_allot_117 rfl ?_
            refine z_dup2 zh dX4_allot_119 rfl rfl ?_
            refine y_lald zh (ck_cash hh) dX4_allot_120 hx12 (by decide) (by decide) (fun l24 => ?_)
            refine z_aloadnR zh dX4_allot_121 rfl ?_
            refine z_iload zh dX4_allot_122 rfl ?_
            refine z_callVL zh mv_Night_125 dX4_allot_124 (ck_M (isM_of hh hj2)) rfl (s_X3_worth g (isM_of hh hj2) hG) ⟨Nat.le_of_ble_eq_true rfl, Nat.le_of_ble_eq_true rfl⟩ rfl rfl (Nat.le_of_ble_eq_true rfl) ?_
            rintro l25 _ _ ⟨rfl, rfl, _⟩
            refine y_lsub zh dX4_allot_127 (fun l26 => ?_)
            refine z_last zh (ck_cash hh) dX4_allot_128 (ra_in hx12 (by decide) (by decide)) ?_
            generalize upL lv (h + 2) x12.toNatClampNeg l26 = lv
            refine z_aloadnR zh dX4_allot_129 rfl ?_
            refine z_iload zh dX4_allot_130 rfl ?_
            refine z_aloadR zh dX4_allot_132 rfl ?_
            refine z_getf zh fl_Night_156 dX4_allot_134 (ck_line hh) rfl rfl ?_
            refine z_iload zh dX4_allot_137 rfl ?_
            refine y_iald zh (ck_lineD hh) dX4_allot_139 r7 (by decide) (by decide) (fun x27 ex27 => ?_)
            have hx27 : Ra 0 99 x27 := ra_of ex27 (si_H hG hh 56 (by decide) rfl)
            refine z_iload zh dX4_allot_140 rfl ?_
            refine y_inegT zh dX4_allot_142 (fun x28 => ?_)
            refine z_callVV zh mv_Night_166 dX4_allot_143 (ck_M (isM_of hh hj2)) rfl (s_X3_changeLot g (isM_of hh hj2) hx12 hx27 hG) ⟨Nat.le_of_ble_eq_true rfl, Nat.le_of_ble_eq_true rfl⟩ rfl rfl (Nat.le_of_ble_eq_true rfl) ?_
            rintro iv lv hG
            refine z_aloadnR zh dX4_allot_146 rfl ?_
            refine z_iconst zh dX4_allot_147 ki_1 ?_
            refine z_iloadn zh dX4_allot_148 rfl ?_
            refine z_iconst zh dX4_allot_149 ki_m1 ?_
            refine z_iload zh dX4_allot_150 rfl ?_
            refine z_iload zh dX4_allot_152 rfl ?_
            refine z_callVV zh mv_Night_133 dX4_allot_154 (ck_H hh) rfl (s_X1_write g hh (ra_w rl_1 (by decide) (by decide)) ha1 (ra_w rl_n1 (by decide) (by decide)) (ra_w hx12 (by decide) (by decide)) hG) ⟨Nat.le_of_ble_eq_true rfl, Nat.le_of_ble_eq_true rfl⟩ rfl rfl (Nat.le_of_ble_eq_true rfl) ?_
            rintro iv lv hG
            refine z_iload zh dX4_allot_157 rfl ?_
            refine z_iload zh dX4_allot_159 rfl ?_
            refine y_isubT zh dX4_allot_161 (fun x29 => ?_)
            refine z_istore zh dX4_allot_162 (by decide) (L' := [some (rf g h), some (.int a1), some (.int a2), some (rf g (h + 60 + 20 * j2)), some (rf g (h + 54)), some (.int x29), some (.int x4), some (.int x12), some (.int x16)]) rfl ?_
            refine y_iinc (L' := fun z => [some (rf g h), some (.int a1), some (.int a2), some (rf g (h + 60 + 20 * j2)), some (rf g (h + 54)), some (.int x29), some (.int z), some (.int x12), some (.int x16)]) zh dX4_allot_164 (by decide) rfl (by decide +kernel) r7 (u := 1) (v := 1200) rfl rfl (by decide) (by decide) (fun _ => rfl) (fun x30 hc30 hx30 => ?_)
            refine z_goto (tgt := 31) zh dX4_allot_167 rfl ?_
            refine z_forget zh [true, true, true, true, true, true, true, false, false] (L2 := [some (rf g h), some (.int a1), some (.int a2), some (rf g (h + 60 + 20 * j2)), some (rf g (h + 54)), some (.int x29), some (.int x30), none, none]) rfl ?_
            exact ih31 iv lv x29 x30 hG (ra_w hx30 (by decide) (by decide)) (ms_up hc30 (by decide) hn31)
    exact J31 1201 iv lv a2 (nI 0) hG (ra_w rl_0 (by decide) (by decide)) (ms_u0 rl_0 (by decide))
  · have r31 := rb_eq (u := 0) (v := 0) (ra_tt a2) ra_z q1 (by decide) (by decide)
    exact z_vret zh dX4_allot_4 ⟨rfl, hG⟩
set_option maxRecDepth 20000 in
theorem s_X4_bestLender (g : GE) {sp : Nat → Nat → Bool} {σ : Iv} {iv : Iv} {lv : Lv} {h : Nat} {a1 : Int32} {a2 : Int32} (hh : isH h) (ha1 : Ra 0 5 a1) (ha2 : Ra 0 11 a2) (hG : SI sp σ iv)  : ConI g yX4_bestLender cX4_bestLender 7 (some .int) 3 [rf g h, .int a1, .int a2] iv lv (fun r iv' lv' => iv = iv' ∧ lv = lv' ∧ Ra (-1) 11 r) := by
  refine con_intro (own := "RollingNets$Night") (by decide +kernel) rfl (Nat.le_of_ble_eq_true rfl) (L0 := [some (rf g h), some (.int a1), some (.int a2), none, none, none, none]) rfl (fun Z zh => ?_)
  refine z_iconst zh dX4_bestLender_0 ki_m1 ?_
  refine z_istoren zh dX4_bestLender_1 (by decide) (L' := [some (rf g h), some (.int a1), some (.int a2), some (.int (-1)), none, none, none]) rfl ?_
  refine z_iconst zh dX4_bestLender_2 ki_0 ?_
  refine z_istore zh dX4_bestLender_3 (by decide) (L' := [some (rf g h), some (.int a1), some (.int a2), some (.int (-1)), some (.int (nI 0)), none, none]) rfl ?_
  refine z_iconst zh dX4_bestLender_5 ki_0 ?_
  refine z_istore zh dX4_bestLender_6 (by decide) (L' := [some (rf g h), some (.int a1), some (.int a2), some (.int (-1)), some (.int (nI 0)), some (.int (nI 0)), none]) rfl ?_
  have J8 : ∀ (n : Nat) (x1 : Int32) (x2 : Int32) (x3 : Int32), Ra (-1) 11 x1 → Ra 0 2147483647 x2 → Ra 0 12 x3 → 12 - x3.toInt < (n : Int) → Z 8 [some (rf g h), some (.int a1), some (.int a2), some (.int x1), some (.int x2), some (.int x3), none] [] iv lv := by
    intro n
    induction n with
    | zero => intro x1 x2 x3 hx1 hx2 hx3 hn8; exact (ms_uz hx3 hn8).elim
    | succ n ih8 =>
      intro x1 x2 x3 hx1 hx2 hx3 hn8
      refine z_iload zh dX4_bestLender_8 rfl ?_
      refine z_aloadnR zh dX4_bestLender_10 rfl ?_
      refine z_callVI zh mv_Night_93 dX4_bestLender_11 (ck_H hh) rfl (s_X1_members g hh hG) ⟨Nat.le_of_ble_eq_true rfl, Nat.le_of_ble_eq_true rfl⟩ rfl rfl (Nat.le_of_ble_eq_true rfl) ?_
      rintro x4 _ _ ⟨rfl, rfl, hx4⟩
      refine z_icmp_ge (tgt := 56) zh dX4_bestLender_14 rfl (fun q5 => ?_) (fun q5 => ?_)
      · have r6 : Ra 2 12 x3 := rb_le_r hx4 hx3 q5 (by decide)
        refine z_iloadn zh dX4_bestLender_56 rfl ?_
        exact z_iret zh dX4_bestLender_57 ⟨_, rfl, rfl, rfl, hx1⟩
      · have r7 : Ra 0 11 x3 := rb_lt_l hx4 hx3 (rb_nle q5) (by decide)
        refine z_iload zh dX4_bestLender_17 rfl ?_
        refine z_iloadn zh dX4_bestLender_19 rfl ?_
        have J34 : ∀ (x8 : Int32), Z 34 [some (rf g h), some (.int a1), some (.int a2), some (.int x1), some (.int x2), some (.int x3), none] [.int x8] iv lv := by
          intro x8
          refine z_istore zh dX4_bestLender_34 (by decide) (L' := [some (rf g h), some (.int a1), some (.int a2), some (.int x1), some (.int x2), some (.int x3), some (.int x8)]) rfl ?_
          refine z_iload zh dX4_bestLender_36 rfl ?_
          refine z_iload zh dX4_bestLender_38 rfl ?_
          have J50 : ∀ (x9 : Int32) (x10 : Int32), Ra (-1) 11 x9 → Ra 0 2147483647 x10 → Z 50 [some (rf g h), some (.int a1), some (.int a2), some (.int x9), some (.int x10), some (.int x3), some (.int x8)] [] iv lv := by
            intro x9 x10 hx9 hx10
            refine y_iinc (L' := fun z => [some (rf g h), some (.int a1), some (.int a2), some (.int x9), some (.int x10), some (.int z), some (.int x8)]) zh dX4_bestLender_50 (by decide) rfl (by decide +kernel) r7 (u := 1) (v := 12) rfl rfl (by decide) (by decide) (fun _ => rfl) (fun x11 hc11 hx11 => ?_)
            refine z_goto (tgt := 8) zh dX4_bestLender_53 rfl ?_
            refine z_forget zh [true, true, true, true, true, true, false] (L2 := [some (rf g h), some (.int a1), some (.int a2), some (.int x9), some (.int x10), some (.int x11), none]) rfl ?_
            exact ih8 x9 x10 x11 hx9 hx10 (ra_w hx11 (by decide) (by decide)) (ms_up hc11 (by decide) hn8)
          refine z_icmp_le (tgt := 50) zh dX4_bestLender_40 rfl (fun q12 => ?_) (fun q12 => ?_)
          · exact J50 x1 x2 hx1 hx2
          · have r13 : Ra 0 2147483646 x2 := rb_lt_l (ra_tt x8) hx2 (rb_nle q12) (by decide)
            have r14 : Ra 1 2147483647 x8 := rb_lt_r hx2 (ra_tt x8) (rb_nle q12) (by decide)
            refine z_iload zh dX4_bestLender_43 rfl ?_
            refine z_istore zh dX4_bestLender_45 (by decide) (L' := [some (rf g h), some (.int a1), some (.int a2), some (.int x1), some (.int x8), some (.int x3), some (.int x8)]) rfl ?_
            refine z_iload zh dX4_bestLender_47 rfl ?_
            refine z_istoren zh dX4_bestLender_49 (by decide) (L' := [some (rf g h), some (.int a1), some (.int a2), some (.int x3), some (.int x8), some (.int x3), some (.int x8)]) rfl ?_
            exact J50 x3 x8 (ra_w r7 (by decide) (by decide)) (ra_w r14 (by decide) (by decide))
        refine z_icmp_ne (tgt := 27) zh dX4_bestLender_20 rfl (fun q15 => ?_) (fun q15 => ?_)
        · refine z_aloadnR zh dX4_bestLender_27 rfl ?_
          refine z_iloadn zh dX4_bestLender_28 rfl ?_
          refine z_iload zh dX4_bestLender_29 rfl ?_
          refine z_callVI zh mv_Night_178 dX4_bestLender_31 (ck_H hh) rfl (s_X1_canLend g hh ha1 r7 hG) ⟨Nat.le_of_ble_eq_true rfl, Nat.le_of_ble_eq_true rfl⟩ rfl rfl (Nat.le_of_ble_eq_true rfl) ?_
          rintro x16 _ _ ⟨rfl, rfl, _⟩
          exact J34 x16
        · refine z_iconst zh dX4_bestLender_23 ki_0 ?_
          refine z_goto (tgt := 34) zh dX4_bestLender_24 rfl ?_
          exact J34 (nI 0)
  exact J8 13 (-1) (nI 0) (nI 0) (ra_w rl_n1 (by decide) (by decide)) (ra_w rl_0 (by decide) (by decide)) (ra_w rl_0 (by decide) (by decide)) (ms_u0 rl_0 (by decide))
set_option maxRecDepth 20000 in
theorem s_X4_countFails (g : GE) {sp : Nat → Nat → Bool} {σ : Iv} {iv : Iv} {lv : Lv} {h : Nat} {a1 : Int32} (hh : isH h) (ha1 : Ra 0 5 a1) (hG : SI sp σ iv)  : ConV g yX4_countFails cX4_countFails 7 none 2 [rf g h, .int a1] iv lv (fun iv lv => SI sp σ iv) := by
  refine con_intro (own := "RollingNets$Night") (by decide +kernel) rfl (Nat.le_of_ble_eq_true rfl) (L0 := [some (rf g h), some (.int a1), none, none, none, none, none]) rfl (fun Z zh => ?_)
  refine z_aloadnR zh dX4_countFails_0 rfl ?_
  refine z_getf zh fl_Night_57 dX4_countFails_1 (ck_H hh) rfl rfl ?_
  refine z_iloadn zh dX4_countFails_4 rfl ?_
  refine y_mald zh (ck_markets hh) dX4_countFails_5 ha1 (by decide) (by decide) (fun j1 hj1 _ _ => ?_)
  refine z_astoren zh dX4_countFails_6 (by decide) (L' := [some (rf g h), some (.int a1), some (rf g (h + 60 + 20 * j1)), none, none, none, none]) rfl ?_
  refine z_iconst zh dX4_countFails_7 ki_0 ?_
  refine z_istoren zh dX4_countFails_8 (by decide) (L' := [some (rf g h), some (.int a1), some (rf g (h + 60 + 20 * j1)), some (.int (nI 0)), none, none, none]) rfl ?_
  have J9 : ∀ (n : Nat) (iv : Iv) (lv : Lv) (x2 : Int32), SI sp σ iv → Ra 0 12 x2 → 12 - x2.toInt < (n : Int) → Z 9 [some (rf g h), some (.int a1), some (rf g (h + 60 + 20 * j1)), some (.int x2), none, none, none] [] iv lv := by
    intro n
    induction n with
    | zero => intro iv lv x2 hG hx2 hn9; exact (ms_uz hx2 hn9).elim
    | succ n ih9 =>
      intro iv lv x2 hG hx2 hn9
      refine z_iloadn zh dX4_countFails_9 rfl ?_
      refine z_aloadnR zh dX4_countFails_10 rfl ?_
      refine z_callVI zh mv_Night_93 dX4_countFails_11 (ck_H hh) rfl (s_X1_members g hh hG) ⟨Nat.le_of_ble_eq_true rfl, Nat.le_of_ble_eq_true rfl⟩ rfl rfl (Nat.le_of_ble_eq_true rfl) ?_
      rintro x3 _ _ ⟨rfl, rfl, hx3⟩
      refine z_icmp_ge (tgt := 88) zh dX4_countFails_14 rfl (fun q4 => ?_) (fun q4 => ?_)
      · have r5 : Ra 2 12 x2 := rb_le_r hx3 hx2 q4 (by decide)
        exact z_vret zh dX4_countFails_88 ⟨rfl, hG⟩
      · have r6 : Ra 0 11 x2 := rb_lt_l hx3 hx2 (rb_nle q4) (by decide)
        refine z_aloadnR zh dX4_countFails_17 rfl ?_
        refine z_iloadn zh dX4_countFails_18 rfl ?_
        refine z_callVI zh mv_Night_104 dX4_countFails_19 (ck_M (isM_of hh hj1)) rfl (s_X3_shortOf g (isM_of hh hj1) r6 hG) ⟨Nat.le_of_ble_eq_true rfl, Nat.le_of_ble_eq_true rfl⟩ rfl rfl (Nat.le_of_ble_eq_true rfl) ?_
        rintro x7 _ _ ⟨rfl, rfl, hx7⟩
        refine z_istore zh dX4_countFails_22 (by decide) (L' := [some (rf g h), some (.int a1), some (rf g (h + 60 + 20 * j1)), some (.int x2), some (.int x7), none, none]) rfl ?_
        refine z_iload zh dX4_countFails_24 rfl ?_
        have J82 : ∀ (iv : Iv) (lv : Lv), SI sp σ iv → Z 82 [some (rf g h), some (.int a1), some (rf g (h + 60 + 20 * j1)), some (.int x2), some (.int x7), none, none] [] iv lv := by
          intro iv lv hG
          refine y_iinc (L' := fun z => [some (rf g h), some (.int a1), some (rf g (h + 60 + 20 * j1)), some (.int z), some (.int x7), none, none]) zh dX4_countFails_82 (by decide) rfl (by decide +kernel) r6 (u := 1) (v := 12) rfl rfl (by decide) (by decide) (fun _ => rfl) (fun x8 hc8 hx8 => ?_)
          refine z_goto (tgt := 9) zh dX4_countFails_85 rfl ?_
          refine z_forget zh [true, true, true, true, false, false, false] (L2 := [some (rf g h), some (.int a1), some (rf g (h + 60 + 20 * j1)), some (.int x8), none, none, none]) rfl ?_
          exact ih9 iv lv x8 hG (ra_w hx8 (by decide) (by decide)) (ms_up hc8 (by decide) hn9)
        refine z_if_le (tgt := 82) zh dX4_countFails_26 rfl (fun q9 => ?_) (fun q9 => ?_)
        · have r10 : Ra 0 0 x7 := rb_le_l ra_z hx7 q9 (by decide)
          exact J82 iv lv hG
        · have r11 : Ra 1 2147483647 x7 := rb_lt_r ra_z hx7 (rb_nle q9) (by decide)
          refine z_aloadnR zh dX4_countFails_29 rfl ?_
          refine z_iload zh dX4_countFails_30 rfl ?_
          refine z_callVL zh mv_Night_125 dX4_countFails_32 (ck_M (isM_of hh hj1)) rfl (s_X3_worth g (isM_of hh hj1) hG) ⟨Nat.le_of_ble_eq_true rfl, Nat.le_of_ble_eq_true rfl⟩ rfl rfl (Nat.le_of_ble_eq_true rfl) ?_
          rintro l12 _ _ ⟨rfl, rfl, _⟩
          refine z_aloadnR zh dX4_countFails_35 rfl ?_
          refine z_getf zh fl_Night_169 dX4_countFails_36 (ck_H hh) rfl rfl ?_
          refine z_bipush zh dX4_countFails_39 kb_6 ?_
          refine y_ialdN zh (ck_told hh) dX4_countFails_41 (by decide) (fun x13 ex13 => ?_)
          refine y_i2l zh dX4_countFails_42 (fun l14 => ?_)
          refine y_lmul zh dX4_countFails_43 (fun l15 => ?_)
          refine z_ldc2 zh dX4_countFails_44 kl_Night_194 ?_
          refine y_ldiv zh dX4_countFails_47 (by decide) (fun l16 => ?_)
          refine z_lstore zh dX4_countFails_48 (by decide) (L' := [some (rf g h), some (.int a1), some (rf g (h + 60 + 20 * j1)), some (.int x2), some (.int x7), some (.long l16), none]) rfl ?_
          refine z_aloadnR zh dX4_countFails_50 rfl ?_
          refine z_getf zh fl_Night_196 dX4_countFails_51 (ck_M (isM_of hh hj1)) rfl rfl ?_
          refine z_iloadn zh dX4_countFails_54 rfl ?_
          refine z_dup2 zh dX4_countFails_55 rfl rfl ?_
          refine y_iald zh (ck_mi 5 (by decide) (isM_of hh hj1)) dX4_countFails_56 r6 (by decide) (by decide) (fun x17 ex17 => ?_)
          refine z_iconst zh dX4_countFails_57 ki_1 ?_
          refine y_iaddT zh dX4_countFails_58 (fun x18 => ?_)
          refine z_iast zh (ck_mi 5 (by decide) (isM_of hh hj1)) dX4_countFails_59 (ra_in r6 (by decide) (by decide)) ?_
          have hG : SI sp σ (upI iv (h + 60 + 20 * j1 + 5) x2.toNatClampNeg x18) := si_wM hG (isM_of hh hj1) 5 (by decide) (rx_none rfl)
          generalize upI iv (h + 60 + 20 * j1 + 5) x2.toNatClampNeg x18 = iv at hG  ⊢
          refine z_aloadnR zh dX4_countFails_60 rfl ?_
          refine z_getf zh fl_Night_122 dX4_countFails_61 (ck_H hh) rfl rfl ?_
          refine z_iloadn zh dX4_countFails_64 rfl ?_
          refine z_dup2 zh dX4_countFails_65 rfl rfl ?_
          refine y_lald zh (ck_cash hh) dX4_countFails_66 r6 (by decide) (by decide) (fun l20 => ?_)
          refine z_lload zh dX4_countFails_67 rfl ?_
          refine y_lsub zh dX4_countFails_69 (fun l21 => ?_)
          refine z_last zh (ck_cash hh) dX4_countFails_70 (ra_in r6 (by decide) (by decide)) ?_
          generalize upL lv (h + 2) x2.toNatClampNeg l21 = lv
          refine z_aloadnR zh dX4_countFails_71 rfl ?_
          refine z_dup zh dX4_countFails_72 rfl ?_
          refine y_getL zh fl_Night_190 dX4_countFails_73 (ck_H hh) rfl rfl (fun l22 => ?_)
          refine z_lload zh dX4_countFails_76 rfl ?_
          refine y_ladd zh dX4_countFails_78 (fun l23 => ?_)
          refine z_putL zh fl_Night_190 dX4_countFails_79 (ck_H hh) rfl rfl (Nat.le_of_ble_eq_true rfl) rfl ?_
          generalize upL lv h 12 l23 = lv
          refine z_forget zh [true, true, true, true, true, false, false] (L2 := [some (rf g h), some (.int a1), some (rf g (h + 60 + 20 * j1)), some (.int x2), some (.int x7), none, none]) rfl ?_
          exact J82 iv lv hG
  exact J9 13 iv lv (nI 0) hG (ra_w rl_0 (by decide) (by decide)) (ms_u0 rl_0 (by decide))
set_option maxRecDepth 20000 in
theorem s_X5_takeAssigned (g : GE) {sp : Nat → Nat → Bool} {σ : Iv} {iv : Iv} {lv : Lv} {h : Nat} {a1 : Int32} {a2 : Int32} {a3 : Int32} (hh : isH h) (ha1 : Ra 0 5 a1) (ha2 : Ra 0 11 a2) (hG : SI sp σ iv)  : ConV g yX5_takeAssigned cX5_takeAssigned 8 none 3 [rf g h, .int a1, .int a2, .int a3] iv lv (fun iv lv => SI sp σ iv) := by
  refine con_intro (own := "RollingNets$Notices") (by decide +kernel) rfl (Nat.le_of_ble_eq_true rfl) (L0 := [some (rf g h), some (.int a1), some (.int a2), some (.int a3), none, none, none, none]) rfl (fun Z zh => ?_)
  refine z_aloadnR zh dX5_takeAssigned_0 rfl ?_
  refine z_getf zh fl_Notices_9 dX5_takeAssigned_1 (ck_H hh) rfl rfl ?_
  refine z_astore zh dX5_takeAssigned_4 (by decide) (L' := [some (rf g h), some (.int a1), some (.int a2), some (.int a3), some (rf g (h + 17)), none, none, none]) rfl ?_
  refine z_iloadn zh dX5_takeAssigned_6 rfl ?_
  refine z_istore zh dX5_takeAssigned_7 (by decide) (L' := [some (rf g h), some (.int a1), some (.int a2), some (.int a3), some (rf g (h + 17)), some (.int a3), none, none]) rfl ?_
  refine z_iconst zh dX5_takeAssigned_9 ki_0 ?_
  refine z_istore zh dX5_takeAssigned_10 (by decide) (L' := [some (rf g h), some (.int a1), some (.int a2), some (.int a3), some (rf g (h + 17)), some (.int a3), some (.int (nI 0)), none]) rfl ?_
  have J12 : ∀ (n : Nat) (iv : Iv) (lv : Lv) (x1 : Int32) (x2 : Int32), SI sp σ iv → Ra 0 60 x2 → 60 - x2.toInt < (n : Int) → Z 12 [some (rf g h), some (.int a1), some (.int a2), some (.int a3), some (rf g (h + 17)), some (.int x1), some (.int x2), none] [] iv lv := by
    intro n
    induction n with
    | zero => intro iv lv x1 x2 hG hx2 hn12; exact (ms_uz hx2 hn12).elim
    | succ n ih12 =>
      intro iv lv x1 x2 hG hx2 hn12
      refine z_iload zh dX5_takeAssigned_12 rfl ?_
      refine z_aloadR zh dX5_takeAssigned_14 rfl ?_
      obtain ⟨x3, ex3⟩ : ∃ z, iv (h + 17) 2 = z := ⟨_, rfl⟩
      have hx3 : Ra 0 60 x3 := ra_of ex3 (si_T hG (isT_n hh))
      refine z_callVIp zh mv_Notices_15 dX5_takeAssigned_16 (ck_T (isT_n hh)) rfl (s_X7_size g (isT_n hh) ex3) ⟨Nat.le_of_ble_eq_true rfl, Nat.le_of_ble_eq_true rfl⟩ rfl rfl (Nat.le_of_ble_eq_true rfl) ?_
      refine z_icmp_ge (tgt := 93) zh dX5_takeAssigned_19 rfl (fun q4 => ?_) (fun q4 => ?_)
      · exact z_vret zh dX5_takeAssigned_93 ⟨rfl, hG⟩
      · have r5 : Ra 0 59 x2 := rb_lt_l hx3 hx2 (rb_nle q4) (by decide)
        have r6 : Ra 1 60 x3 := rb_lt_r hx2 hx3 (rb_nle q4) (by decide)
        refine z_iload zh dX5_takeAssigned_22 rfl ?_
        refine z_if_le (tgt := 93) zh dX5_takeAssigned_24 rfl (fun q7 => ?_) (fun q7 => ?_)
        · have r8 : Ra (-2147483648) 0 x1 := rb_le_l ra_z (ra_tt x1) q7 (by decide)
          exact z_vret zh dX5_takeAssigned_93 ⟨rfl, hG⟩
        · have r9 : Ra 1 2147483647 x1 := rb_lt_r ra_z (ra_tt x1) (rb_nle q7) (by decide)
          refine z_aloadnR zh dX5_takeAssigned_27 rfl ?_
          refine z_iload zh dX5_takeAssigned_28 rfl ?_
          refine z_iloadn zh dX5_takeAssigned_30 rfl ?_
          refine z_callVI zh mv_Notices_21 dX5_takeAssigned_31 (ck_H hh) rfl (s_X1_isOpenNotice g hh r5 ha1 hG) ⟨Nat.le_of_ble_eq_true rfl, Nat.le_of_ble_eq_true rfl⟩ rfl rfl (Nat.le_of_ble_eq_true rfl) ?_
          rintro x10 _ _ ⟨rfl, rfl, hx10⟩
          have J87 : ∀ (iv : Iv) (lv : Lv) (x11 : Int32), SI sp σ iv → Z 87 [some (rf g h), some (.int a1), some (.int a2), some (.int a3), some (rf g (h + 17)), some (.int x11), some (.int x2), none] [] iv lv := by
            intro iv lv x11 hG
            refine y_iinc (L' := fun z => [some (rf g h), some (.int a1), some (.int a2), some (.int a3), some (rf g (h + 17)), some (.int x11), some (.int z), none]) zh dX5_takeAssigned_87 (by decide) rfl (by decide +kernel) r5 (u := 1) (v := 60) rfl rfl (by decide) (by decide) (fun _ => rfl) (fun x12 hc12 hx12 => ?_)
            refine z_goto (tgt := 12) zh dX5_takeAssigned_90 rfl ?_
            exact ih12 iv lv x11 x12 hG (ra_w hx12 (by decide) (by decide)) (ms_up hc12 (by decide) hn12)
          refine z_if_eq (tgt := 87) zh dX5_takeAssigned_34 rfl (fun q13 => ?_) (fun q13 => ?_)
          · have r14 := rb_eq (u := 0) (v := 0) hx10 ra_z q13 (by decide) (by decide)
            exact J87 iv lv x1 hG
          · have r15 : Ra 1 1 x10 := rb_ne_lo hx10 ra_z q13 (by decide)
            refine z_iload zh dX5_takeAssigned_37 rfl ?_
            refine z_aloadR zh dX5_takeAssigned_39 rfl ?_
            refine z_bipush zh dX5_takeAssigned_41 kb_7 ?_
            refine z_iloadn zh dX5_takeAssigned_43 rfl ?_
            refine y_iadd zh dX5_takeAssigned_44 rl_7 ha2 (u := 7) (v := 18) rfl rfl (by decide) (by decide) (fun x16 hc16 hx16 => ?_)
            refine z_iload zh dX5_takeAssigned_45 rfl ?_
            refine z_callVI zh mv_Notices_25 dX5_takeAssigned_47 (ck_T (isT_n hh)) rfl (s_X7_get g (isT_n hh) ex3 hx3) ⟨Nat.le_of_ble_eq_true rfl, Nat.le_of_ble_eq_true rfl⟩ rfl rfl (Nat.le_of_ble_eq_true rfl) ?_
            rintro x17 _ _ ⟨rfl, rfl, gx17⟩
            refine y_mmin zh ma_Notices_84 mc_min dX5_takeAssigned_50 ⟨Nat.le_of_ble_eq_true rfl, Nat.le_of_ble_eq_true rfl⟩ r9 (ra_tt x17) (u := (-2147483648)) (v := 2147483647) (by decide) (by decide) (Or.inl (by decide)) (fun x18 hx18 => ?_)
            refine z_istore zh dX5_takeAssigned_53 (by decide) (L' := [some (rf g h), some (.int a1), some (.int a2), some (.int a3), some (rf g (h + 17)), some (.int x1), some (.int x2), some (.int x18)]) rfl ?_
            refine z_aloadR zh dX5_takeAssigned_55 rfl ?_
            refine z_bipush zh dX5_takeAssigned_57 kb_7 ?_
            refine z_iloadn zh dX5_takeAssigned_59 rfl ?_
            refine y_iadd zh dX5_takeAssigned_60 rl_7 ha2 (u := 7) (v := 18) rfl rfl (by decide) (by decide) (fun x19 hc19 hx19 => ?_)
            refine z_iload zh dX5_takeAssigned_61 rfl ?_
            refine z_aloadR zh dX5_takeAssigned_63 rfl ?_
            refine z_bipush zh dX5_takeAssigned_65 kb_7 ?_
            refine z_iloadn zh dX5_takeAssigned_67 rfl ?_
            refine y_iadd zh dX5_takeAssigned_68 rl_7 ha2 (u := 7) (v := 18) rfl rfl (by decide) (by decide) (fun x20 hc20 hx20 => ?_)
            refine z_iload zh dX5_takeAssigned_69 rfl ?_
            refine z_callVI zh mv_Notices_25 dX5_takeAssigned_71 (ck_T (isT_n hh)) rfl (s_X7_get g (isT_n hh) ex3 hx3) ⟨Nat.le_of_ble_eq_true rfl, Nat.le_of_ble_eq_true rfl⟩ rfl rfl (Nat.le_of_ble_eq_true rfl) ?_
            rintro x21 _ _ ⟨rfl, rfl, gx21⟩
            refine z_iload zh dX5_takeAssigned_74 rfl ?_
            refine y_isubT zh dX5_takeAssigned_76 (fun x22 => ?_)
            refine z_callVV zh mv_Notices_64 dX5_takeAssigned_77 (ck_T (isT_n hh)) rfl (s_X7_put g (isT_n hh) hG (pn_f hG hh hx19 (by decide))) ⟨Nat.le_of_ble_eq_true rfl, Nat.le_of_ble_eq_true rfl⟩ rfl rfl (Nat.le_of_ble_eq_true rfl) ?_
            rintro iv lv hG
            refine z_iload zh dX5_takeAssigned_80 rfl ?_
            refine z_iload zh dX5_takeAssigned_82 rfl ?_
            refine y_isubT zh dX5_takeAssigned_84 (fun x23 => ?_)
            refine z_istore zh dX5_takeAssigned_85 (by decide) (L' := [some (rf g h), some (.int a1), some (.int a2), some (.int a3), some (rf g (h + 17)), some (.int x23), some (.int x2), some (.int x18)]) rfl ?_
            refine z_forget zh [true, true, true, true, true, true, true, false] (L2 := [some (rf g h), some (.int a1), some (.int a2), some (.int a3), some (rf g (h + 17)), some (.int x23), some (.int x2), none]) rfl ?_
            exact J87 iv lv x23 hG
  exact J12 61 iv lv a3 (nI 0) hG (ra_w rl_0 (by decide) (by decide)) (ms_u0 rl_0 (by decide))
set_option maxRecDepth 20000 in
theorem s_X4_deliver (g : GE) {sp : Nat → Nat → Bool} {σ : Iv} {iv : Iv} {lv : Lv} {h : Nat} {a1 : Int32} {a2 : Int32} (hh : isH h) (ha1 : Ra 0 5 a1) (ha2 : Ra 0 11 a2) (hG : SI sp σ iv)  : ConI g yX4_deliver cX4_deliver 5 (some .int) 4 [rf g h, .int a1, .int a2] iv lv (fun r iv lv => SI sp σ iv ∧ True) := by
  refine con_intro (own := "RollingNets$Night") (by decide +kernel) rfl (Nat.le_of_ble_eq_true rfl) (L0 := [some (rf g h), some (.int a1), some (.int a2), none, none]) rfl (fun Z zh => ?_)
  refine z_aloadnR zh dX4_deliver_0 rfl ?_
  refine z_getf zh fl_Night_57 dX4_deliver_1 (ck_H hh) rfl rfl ?_
  refine z_iloadn zh dX4_deliver_4 rfl ?_
  refine y_mald zh (ck_markets hh) dX4_deliver_5 ha1 (by decide) (by decide) (fun j1 hj1 _ _ => ?_)
  refine z_astoren zh dX4_deliver_6 (by decide) (L' := [some (rf g h), some (.int a1), some (.int a2), some (rf g (h + 60 + 20 * j1)), none]) rfl ?_
  refine z_aloadnR zh dX4_deliver_7 rfl ?_
  refine z_iloadn zh dX4_deliver_8 rfl ?_
  refine z_callVI zh mv_Night_104 dX4_deliver_9 (ck_M (isM_of hh hj1)) rfl (s_X3_shortOf g (isM_of hh hj1) ha2 hG) ⟨Nat.le_of_ble_eq_true rfl, Nat.le_of_ble_eq_true rfl⟩ rfl rfl (Nat.le_of_ble_eq_true rfl) ?_
  rintro x2 _ _ ⟨rfl, rfl, hx2⟩
  refine y_i2l zh dX4_deliver_12 (fun l3 => ?_)
  refine z_aloadnR zh dX4_deliver_13 rfl ?_
  refine z_iloadn zh dX4_deliver_14 rfl ?_
  refine z_iloadn zh dX4_deliver_15 rfl ?_
  refine z_callVL zh mv_Night_108 dX4_deliver_16 (ck_H hh) rfl (s_X1_freeOf g hh ha1 ha2 hG) ⟨Nat.le_of_ble_eq_true rfl, Nat.le_of_ble_eq_true rfl⟩ rfl rfl (Nat.le_of_ble_eq_true rfl) ?_
  rintro l4 _ _ ⟨rfl, rfl, _⟩
  refine y_mmin_longT zh ma_Night_112 mc_min_long dX4_deliver_19 ⟨Nat.le_of_ble_eq_true rfl, Nat.le_of_ble_eq_true rfl⟩ (fun l5 => ?_)
  refine y_l2i zh dX4_deliver_22 (fun x6 => ?_)
  refine z_istore zh dX4_deliver_23 (by decide) (L' := [some (rf g h), some (.int a1), some (.int a2), some (rf g (h + 60 + 20 * j1)), some (.int x6)]) rfl ?_
  refine z_iload zh dX4_deliver_25 rfl ?_
  refine z_if_ne (tgt := 32) zh dX4_deliver_27 rfl (fun q7 => ?_) (fun q7 => ?_)
  · refine z_aloadnR zh dX4_deliver_32 rfl ?_
    refine z_getf zh fl_Night_118 dX4_deliver_33 (ck_M (isM_of hh hj1)) rfl rfl ?_
    refine z_iloadn zh dX4_deliver_36 rfl ?_
    refine z_dup2 zh dX4_deliver_37 rfl rfl ?_
    refine y_lald zh (ck_stock (isM_of hh hj1)) dX4_deliver_38 ha2 (by decide) (by decide) (fun l8 => ?_)
    refine z_iload zh dX4_deliver_39 rfl ?_
    refine y_i2l zh dX4_deliver_41 (fun l9 => ?_)
    refine y_lsub zh dX4_deliver_42 (fun l10 => ?_)
    refine z_last zh (ck_stock (isM_of hh hj1)) dX4_deliver_43 (ra_in ha2 (by decide) (by decide)) ?_
    generalize upL lv (h + 60 + 20 * j1 + 1) a2.toNatClampNeg l10 = lv
    refine z_aloadnR zh dX4_deliver_44 rfl ?_
    refine z_getf zh fl_Night_122 dX4_deliver_45 (ck_H hh) rfl rfl ?_
    refine z_iloadn zh dX4_deliver_48 rfl ?_
    refine z_dup2 zh dX4_deliver_49 rfl rfl ?_
    refine y_lald zh (ck_cash hh) dX4_deliver_50 ha2 (by decide) (by decide) (fun l11 => ?_)
    refine z_aloadnR zh dX4_deliver_51 rfl ?_
    refine z_iload zh dX4_deliver_52 rfl ?_
    refine z_callVL zh mv_Night_125 dX4_deliver_54 (ck_M (isM_of hh hj1)) rfl (s_X3_worth g (isM_of hh hj1) hG) ⟨Nat.le_of_ble_eq_true rfl, Nat.le_of_ble_eq_true rfl⟩ rfl rfl (Nat.le_of_ble_eq_true rfl) ?_
    rintro l12 _ _ ⟨rfl, rfl, _⟩
    refine y_ladd zh dX4_deliver_57 (fun l13 => ?_)
    refine z_last zh (ck_cash hh) dX4_deliver_58 (ra_in ha2 (by decide) (by decide)) ?_
    generalize upL lv (h + 2) a2.toNatClampNeg l13 = lv
    refine z_aloadnR zh dX4_deliver_59 rfl ?_
    refine z_iloadn zh dX4_deliver_60 rfl ?_
    refine z_iload zh dX4_deliver_61 rfl ?_
    refine z_callVV zh mv_Night_129 dX4_deliver_63 (ck_M (isM_of hh hj1)) rfl (s_X3_takeOff g (isM_of hh hj1) ha2 hG) ⟨Nat.le_of_ble_eq_true rfl, Nat.le_of_ble_eq_true rfl⟩ rfl rfl (Nat.le_of_ble_eq_true rfl) ?_
    rintro iv lv hG
    refine z_aloadnR zh dX4_deliver_66 rfl ?_
    refine z_iconst zh dX4_deliver_67 ki_0 ?_
    refine z_iloadn zh dX4_deliver_68 rfl ?_
    refine z_iloadn zh dX4_deliver_69 rfl ?_
    refine z_iconst zh dX4_deliver_70 ki_m1 ?_
    refine z_iload zh dX4_deliver_71 rfl ?_
    refine z_callVV zh mv_Night_133 dX4_deliver_73 (ck_H hh) rfl (s_X1_write g hh (ra_w rl_0 (by decide) (by decide)) ha1 (ra_w ha2 (by decide) (by decide)) (ra_w rl_n1 (by decide) (by decide)) hG) ⟨Nat.le_of_ble_eq_true rfl, Nat.le_of_ble_eq_true rfl⟩ rfl rfl (Nat.le_of_ble_eq_true rfl) ?_
    rintro iv lv hG
    refine z_aloadnR zh dX4_deliver_76 rfl ?_
    refine z_iloadn zh dX4_deliver_77 rfl ?_
    refine z_iloadn zh dX4_deliver_78 rfl ?_
    refine z_iload zh dX4_deliver_79 rfl ?_
    refine z_callSV zh ms_Night_137 dX4_deliver_81 (s_X5_takeAssigned g hh ha1 ha2 hG) ⟨Nat.le_of_ble_eq_true rfl, Nat.le_of_ble_eq_true rfl⟩ rfl rfl (Nat.le_of_ble_eq_true rfl) ?_
    rintro iv lv hG
    refine z_iload zh dX4_deliver_84 rfl ?_
    exact z_iret zh dX4_deliver_86 ⟨_, rfl, hG, trivial⟩
  · have r14 := rb_eq (u := 0) (v := 0) (ra_tt x6) ra_z q7 (by decide) (by decide)
    refine z_iconst zh dX4_deliver_30 ki_0 ?_
    exact z_iret zh dX4_deliver_31 ⟨_, rfl, hG, trivial⟩
set_option maxRecDepth 20000 in
theorem s_X4_deliverAll (g : GE) {sp : Nat → Nat → Bool} {σ : Iv} {iv : Iv} {lv : Lv} {h : Nat} {a1 : Int32} (hh : isH h) (ha1 : Ra 0 5 a1) (hG : SI sp σ iv)  : ConI g yX4_deliverAll cX4_deliverAll 6 (some .int) 5 [rf g h, .int a1] iv lv (fun r iv lv => SI sp σ iv ∧ True) := by
  refine con_intro (own := "RollingNets$Night") (by decide +kernel) rfl (Nat.le_of_ble_eq_true rfl) (L0 := [some (rf g h), some (.int a1), none, none, none, none]) rfl (fun Z zh => ?_)
  refine z_aloadnR zh dX4_deliverAll_0 rfl ?_
  refine z_getf zh fl_Night_57 dX4_deliverAll_1 (ck_H hh) rfl rfl ?_
  refine z_iloadn zh dX4_deliverAll_4 rfl ?_
  refine y_mald zh (ck_markets hh) dX4_deliverAll_5 ha1 (by decide) (by decide) (fun j1 hj1 _ _ => ?_)
  refine z_astoren zh dX4_deliverAll_6 (by decide) (L' := [some (rf g h), some (.int a1), some (rf g (h + 60 + 20 * j1)), none, none, none]) rfl ?_
  refine z_iconst zh dX4_deliverAll_7 ki_0 ?_
  refine z_istoren zh dX4_deliverAll_8 (by decide) (L' := [some (rf g h), some (.int a1), some (rf g (h + 60 + 20 * j1)), some (.int (nI 0)), none, none]) rfl ?_
  refine z_iconst zh dX4_deliverAll_9 ki_0 ?_
  refine z_istore zh dX4_deliverAll_10 (by decide) (L' := [some (rf g h), some (.int a1), some (rf g (h + 60 + 20 * j1)), some (.int (nI 0)), some (.int (nI 0)), none]) rfl ?_
  have J12 : ∀ (n : Nat) (iv : Iv) (lv : Lv) (x2 : Int32) (x3 : Int32), SI sp σ iv → Ra 0 100 x3 → 100 - x3.toInt < (n : Int) → Z 12 [some (rf g h), some (.int a1), some (rf g (h + 60 + 20 * j1)), some (.int x2), some (.int x3), none] [] iv lv := by
    intro n
    induction n with
    | zero => intro iv lv x2 x3 hG hx3 hn12; exact (ms_uz hx3 hn12).elim
    | succ n ih12 =>
      intro iv lv x2 x3 hG hx3 hn12
      refine z_iload zh dX4_deliverAll_12 rfl ?_
      refine z_aloadnR zh dX4_deliverAll_14 rfl ?_
      refine y_getI zh fl_Night_90 dX4_deliverAll_15 (ck_M (isM_of hh hj1)) rfl rfl (fun x4 ex4 => ?_)
      have hx4 : Ra 0 100 x4 := ra_of ex4 (si_M hG (isM_of hh hj1) 0 (by decide) rfl)
      refine z_icmp_ge (tgt := 68) zh dX4_deliverAll_18 rfl (fun q5 => ?_) (fun q5 => ?_)
      · refine z_iloadn zh dX4_deliverAll_68 rfl ?_
        exact z_iret zh dX4_deliverAll_69 ⟨_, rfl, hG, trivial⟩
      · have r6 : Ra 0 99 x3 := rb_lt_l hx4 hx3 (rb_nle q5) (by decide)
        have r7 : Ra 1 100 x4 := rb_lt_r hx3 hx4 (rb_nle q5) (by decide)
        refine z_iconst zh dX4_deliverAll_21 ki_0 ?_
        refine z_istore zh dX4_deliverAll_22 (by decide) (L' := [some (rf g h), some (.int a1), some (rf g (h + 60 + 20 * j1)), some (.int x2), some (.int x3), some (.int (nI 0))]) rfl ?_
        have J24 : ∀ (n : Nat) (iv : Iv) (lv : Lv) (x8 : Int32) (x9 : Int32), SI sp σ iv → Ra 0 12 x9 → 12 - x9.toInt < (n : Int) → Z 24 [some (rf g h), some (.int a1), some (rf g (h + 60 + 20 * j1)), some (.int x8), some (.int x3), some (.int x9)] [] iv lv := by
          intro n
          induction n with
          | zero => intro iv lv x8 x9 hG hx9 hn24; exact (ms_uz hx9 hn24).elim
          | succ n ih24 =>
            intro iv lv x8 x9 hG hx9 hn24
            refine z_iload zh dX4_deliverAll_24 rfl ?_
            refine z_aloadnR zh dX4_deliverAll_26 rfl ?_
            refine z_callVI zh mv_Night_93 dX4_deliverAll_27 (ck_H hh) rfl (s_X1_members g hh hG) ⟨Nat.le_of_ble_eq_true rfl, Nat.le_of_ble_eq_true rfl⟩ rfl rfl (Nat.le_of_ble_eq_true rfl) ?_
            rintro x10 _ _ ⟨rfl, rfl, hx10⟩
            refine z_icmp_ge (tgt := 62) zh dX4_deliverAll_30 rfl (fun q11 => ?_) (fun q11 => ?_)
            · have r12 : Ra 2 12 x9 := rb_le_r hx10 hx9 q11 (by decide)
              refine y_iinc (L' := fun z => [some (rf g h), some (.int a1), some (rf g (h + 60 + 20 * j1)), some (.int x8), some (.int z), some (.int x9)]) zh dX4_deliverAll_62 (by decide) rfl (by decide +kernel) r6 (u := 1) (v := 100) rfl rfl (by decide) (by decide) (fun _ => rfl) (fun x13 hc13 hx13 => ?_)
              refine z_goto (tgt := 12) zh dX4_deliverAll_65 rfl ?_
              refine z_forget zh [true, true, true, true, true, false] (L2 := [some (rf g h), some (.int a1), some (rf g (h + 60 + 20 * j1)), some (.int x8), some (.int x13), none]) rfl ?_
              exact ih12 iv lv x8 x13 hG (ra_w hx13 (by decide) (by decide)) (ms_up hc13 (by decide) hn12)
            · have r14 : Ra 0 11 x9 := rb_lt_l hx10 hx9 (rb_nle q11) (by decide)
              refine z_aloadnR zh dX4_deliverAll_33 rfl ?_
              refine z_getf zh fl_Night_96 dX4_deliverAll_34 (ck_M (isM_of hh hj1)) rfl rfl ?_
              refine z_iload zh dX4_deliverAll_37 rfl ?_
              refine y_gald zh (ck_lots (isM_of hh hj1)) dX4_deliverAll_39 r14 (by decide) (by decide) (fun j15 hj15 _ _ => ?_)
              refine z_iload zh dX4_deliverAll_40 rfl ?_
              refine y_iald zh (ck_row (isM_of hh hj1) hj15) dX4_deliverAll_42 r6 (by decide) (by decide) (fun x16 ex16 => ?_)
              have J56 : ∀ (iv : Iv) (lv : Lv) (x17 : Int32), SI sp σ iv → Z 56 [some (rf g h), some (.int a1), some (rf g (h + 60 + 20 * j1)), some (.int x17), some (.int x3), some (.int x9)] [] iv lv := by
                intro iv lv x17 hG
                refine y_iinc (L' := fun z => [some (rf g h), some (.int a1), some (rf g (h + 60 + 20 * j1)), some (.int x17), some (.int x3), some (.int z)]) zh dX4_deliverAll_56 (by decide) rfl (by decide +kernel) r14 (u := 1) (v := 12) rfl rfl (by decide) (by decide) (fun _ => rfl) (fun x18 hc18 hx18 => ?_)
                refine z_goto (tgt := 24) zh dX4_deliverAll_59 rfl ?_
                exact ih24 iv lv x17 x18 hG (ra_w hx18 (by decide) (by decide)) (ms_up hc18 (by decide) hn24)
              refine z_if_ge (tgt := 56) zh dX4_deliverAll_43 rfl (fun q19 => ?_) (fun q19 => ?_)
              · have r20 : Ra 0 2147483647 x16 := rb_le_r ra_z (ra_tt x16) q19 (by decide)
                exact J56 iv lv x8 hG
              · have r21 : Ra (-2147483648) (-1) x16 := rb_lt_l ra_z (ra_tt x16) (rb_nle q19) (by decide)
                refine z_iloadn zh dX4_deliverAll_46 rfl ?_
                refine z_aloadnR zh dX4_deliverAll_47 rfl ?_
                refine z_iloadn zh dX4_deliverAll_48 rfl ?_
                refine z_iload zh dX4_deliverAll_49 rfl ?_
                refine z_callSI zh ms_Night_100 dX4_deliverAll_51 (s_X4_deliver g hh ha1 r14 hG) ⟨Nat.le_of_ble_eq_true rfl, Nat.le_of_ble_eq_true rfl⟩ rfl rfl (Nat.le_of_ble_eq_true rfl) ?_
                rintro x22 iv lv ⟨hG, _⟩
                refine y_iaddT zh dX4_deliverAll_54 (fun x23 => ?_)
                refine z_istoren zh dX4_deliverAll_55 (by decide) (L' := [some (rf g h), some (.int a1), some (rf g (h + 60 + 20 * j1)), some (.int x23), some (.int x3), some (.int x9)]) rfl ?_
                exact J56 iv lv x23 hG
        exact J24 13 iv lv x2 (nI 0) hG (ra_w rl_0 (by decide) (by decide)) (ms_u0 rl_0 (by decide))
  exact J12 101 iv lv (nI 0) (nI 0) hG (ra_w rl_0 (by decide) (by decide)) (ms_u0 rl_0 (by decide))
set_option maxRecDepth 20000 in
theorem s_X4_lendTo (g : GE) {sp : Nat → Nat → Bool} {σ : Iv} {iv : Iv} {lv : Lv} {h : Nat} {a1 : Int32} {a2 : Int32} {a3 : Int32} (hh : isH h) (ha1 : Ra 0 5 a1) (ha2 : Ra 0 11 a2) (ha3 : Ra 0 99 a3) (hG : SI sp σ iv)  : ConV g yX4_lendTo cX4_lendTo 8 none 4 [rf g h, .int a1, .int a2, .int a3] iv lv (fun iv lv => SI sp σ iv) := by
  refine con_intro (own := "RollingNets$Night") (by decide +kernel) rfl (Nat.le_of_ble_eq_true rfl) (L0 := [some (rf g h), some (.int a1), some (.int a2), some (.int a3), none, none, none, none]) rfl (fun Z zh => ?_)
  refine z_aloadnR zh dX4_lendTo_0 rfl ?_
  refine z_getf zh fl_Night_57 dX4_lendTo_1 (ck_H hh) rfl rfl ?_
  refine z_iloadn zh dX4_lendTo_4 rfl ?_
  refine y_mald zh (ck_markets hh) dX4_lendTo_5 ha1 (by decide) (by decide) (fun j1 hj1 _ _ => ?_)
  refine z_astore zh dX4_lendTo_6 (by decide) (L' := [some (rf g h), some (.int a1), some (.int a2), some (.int a3), some (rf g (h + 60 + 20 * j1)), none, none, none]) rfl ?_
  refine z_iconst zh dX4_lendTo_8 ki_0 ?_
  refine z_istore zh dX4_lendTo_9 (by decide) (L' := [some (rf g h), some (.int a1), some (.int a2), some (.int a3), some (rf g (h + 60 + 20 * j1)), some (.int (nI 0)), none, none]) rfl ?_
  have J11 : ∀ (n : Nat) (iv : Iv) (lv : Lv) (x2 : Int32), SI sp σ iv → Ra 0 12 x2 → 12 - x2.toInt < (n : Int) → Z 11 [some (rf g h), some (.int a1), some (.int a2), some (.int a3), some (rf g (h + 60 + 20 * j1)), some (.int x2), none, none] [] iv lv := by
    intro n
    induction n with
    | zero => intro iv lv x2 hG hx2 hn11; exact (ms_uz hx2 hn11).elim
    | succ n ih11 =>
      intro iv lv x2 hG hx2 hn11
      refine z_iload zh dX4_lendTo_11 rfl ?_
      refine z_aloadnR zh dX4_lendTo_13 rfl ?_
      refine z_callVI zh mv_Night_93 dX4_lendTo_14 (ck_H hh) rfl (s_X1_members g hh hG) ⟨Nat.le_of_ble_eq_true rfl, Nat.le_of_ble_eq_true rfl⟩ rfl rfl (Nat.le_of_ble_eq_true rfl) ?_
      rintro x3 _ _ ⟨rfl, rfl, hx3⟩
      refine z_icmp_ge (tgt := 162) zh dX4_lendTo_17 rfl (fun q4 => ?_) (fun q4 => ?_)
      · have r5 : Ra 2 12 x2 := rb_le_r hx3 hx2 q4 (by decide)
        exact z_vret zh dX4_lendTo_162 ⟨rfl, hG⟩
      · have r6 : Ra 0 11 x2 := rb_lt_l hx3 hx2 (rb_nle q4) (by decide)
        refine z_aloadR zh dX4_lendTo_20 rfl ?_
        refine z_getf zh fl_Night_96 dX4_lendTo_22 (ck_M (isM_of hh hj1)) rfl rfl ?_
        refine z_iloadn zh dX4_lendTo_25 rfl ?_
        refine y_gald zh (ck_lots (isM_of hh hj1)) dX4_lendTo_26 ha2 (by decide) (by decide) (fun j7 hj7 _ _ => ?_)
        refine z_iloadn zh dX4_lendTo_27 rfl ?_
        refine y_iald zh (ck_row (isM_of hh hj1) hj7) dX4_lendTo_28 ha3 (by decide) (by decide) (fun x8 ex8 => ?_)
        refine z_if_le (tgt := 162) zh dX4_lendTo_29 rfl (fun q9 => ?_) (fun q9 => ?_)
        · have r10 : Ra (-2147483648) 0 x8 := rb_le_l ra_z (ra_tt x8) q9 (by decide)
          exact z_vret zh dX4_lendTo_162 ⟨rfl, hG⟩
        · have r11 : Ra 1 2147483647 x8 := rb_lt_r ra_z (ra_tt x8) (rb_nle q9) (by decide)
          refine z_aloadnR zh dX4_lendTo_32 rfl ?_
          refine z_iloadn zh dX4_lendTo_33 rfl ?_
          refine z_iloadn zh dX4_lendTo_34 rfl ?_
          refine z_callSI zh ms_Night_175 dX4_lendTo_35 (s_X4_bestLender g hh ha1 ha2 hG) ⟨Nat.le_of_ble_eq_true rfl, Nat.le_of_ble_eq_true rfl⟩ rfl rfl (Nat.le_of_ble_eq_true rfl) ?_
          rintro x12 _ _ ⟨rfl, rfl, hx12⟩
          refine z_istore zh dX4_lendTo_38 (by decide) (L' := [some (rf g h), some (.int a1), some (.int a2), some (.int a3), some (rf g (h + 60 + 20 * j1)), some (.int x2), some (.int x12), none]) rfl ?_
          refine z_iload zh dX4_lendTo_40 rfl ?_
          refine z_iconst zh dX4_lendTo_42 ki_m1 ?_
          refine z_icmp_ne (tgt := 47) zh dX4_lendTo_43 rfl (fun q13 => ?_) (fun q13 => ?_)
          · have r14 : Ra 0 11 x12 := rb_ne_lo hx12 rl_n1 q13 (by decide)
            refine z_aloadR zh dX4_lendTo_47 rfl ?_
            refine z_getf zh fl_Night_96 dX4_lendTo_49 (ck_M (isM_of hh hj1)) rfl rfl ?_
            refine z_iloadn zh dX4_lendTo_52 rfl ?_
            refine y_gald zh (ck_lots (isM_of hh hj1)) dX4_lendTo_53 ha2 (by decide) (by decide) (fun j15 hj15 _ _ => ?_)
            refine z_iloadn zh dX4_lendTo_54 rfl ?_
            refine y_iald zh (ck_row (isM_of hh hj1) hj15) dX4_lendTo_55 ha3 (by decide) (by decide) (fun x16 ex16 => ?_)
            refine z_aloadnR zh dX4_lendTo_56 rfl ?_
            refine z_iloadn zh dX4_lendTo_57 rfl ?_
            refine z_iload zh dX4_lendTo_58 rfl ?_
            refine z_callVI zh mv_Night_178 dX4_lendTo_60 (ck_H hh) rfl (s_X1_canLend g hh ha1 r14 hG) ⟨Nat.le_of_ble_eq_true rfl, Nat.le_of_ble_eq_true rfl⟩ rfl rfl (Nat.le_of_ble_eq_true rfl) ?_
            rintro x17 _ _ ⟨rfl, rfl, _⟩
            refine y_mmin zh ma_Night_158 mc_min dX4_lendTo_63 ⟨Nat.le_of_ble_eq_true rfl, Nat.le_of_ble_eq_true rfl⟩ (ra_tt x16) (ra_tt x17) (u := (-2147483648)) (v := 2147483647) (by decide) (by decide) (Or.inl (by decide)) (fun x18 hx18 => ?_)
            refine z_istore zh dX4_lendTo_66 (by decide) (L' := [some (rf g h), some (.int a1), some (.int a2), some (.int a3), some (rf g (h + 60 + 20 * j1)), some (.int x2), some (.int x12), some (.int x18)]) rfl ?_
            refine z_aloadR zh dX4_lendTo_68 rfl ?_
            refine z_getf zh fl_Night_118 dX4_lendTo_70 (ck_M (isM_of hh hj1)) rfl rfl ?_
            refine z_iload zh dX4_lendTo_73 rfl ?_
            refine z_dup2 zh dX4_lendTo_75 rfl rfl ?_
            refine y_lald zh (ck_stock (isM_of hh hj1)) dX4_lendTo_76 r14 (by decide) (by decide) (fun l19 => ?_)
            refine z_iload zh dX4_lendTo_77 rfl ?_
            refine y_i2l zh dX4_lendTo_79 (fun l20 => ?_)
            refine y_lsub zh dX4_lendTo_80 (fun l21 => ?_)
            refine z_last zh (ck_stock (isM_of hh hj1)) dX4_lendTo_81 (ra_in r14 (by decide) (by decide)) ?_
            generalize upL lv (h + 60 + 20 * j1 + 1) x12.toNatClampNeg l21 = lv
            refine z_aloadR zh dX4_lendTo_82 rfl ?_
            refine z_getf zh fl_Night_160 dX4_lendTo_84 (ck_M (isM_of hh hj1)) rfl rfl ?_
            refine z_iload zh dX4_lendTo_87 rfl ?_
            refine z_dup2 zh dX4_lendTo_89 rfl rfl ?_
            refine y_iald zh (ck_mi 4 (by decide) (isM_of hh hj1)) dX4_lendTo_90 r14 (by decide) (by decide) (fun x22 ex22 => ?_)
            refine z_iload zh dX4_lendTo_91 rfl ?_
            refine y_iaddT zh dX4_lendTo_93 (fun x23 => ?_)
            refine z_iast zh (ck_mi 4 (by decide) (isM_of hh hj1)) dX4_lendTo_94 (ra_in r14 (by decide) (by decide)) ?_
            have hG : SI sp σ (upI iv (h + 60 + 20 * j1 + 4) x12.toNatClampNeg x23) := si_wM hG (isM_of hh hj1) 4 (by decide) (rx_none rfl)
            generalize upI iv (h + 60 + 20 * j1 + 4) x12.toNatClampNeg x23 = iv at hG  ⊢
            refine z_aloadR zh dX4_lendTo_95 rfl ?_
            refine z_iload zh dX4_lendTo_97 rfl ?_
            refine z_iload zh dX4_lendTo_99 rfl ?_
            refine z_aloadnR zh dX4_lendTo_101 rfl ?_
            refine y_getI zh fl_Night_13 dX4_lendTo_102 (ck_H hh) rfl rfl (fun x24 ex24 => ?_)
            have hx24 : Ra 0 99 x24 := ra_of ex24 (si_H hG hh 0 (by decide) rfl)
            refine z_callVV zh mv_Night_83 dX4_lendTo_105 (ck_M (isM_of hh hj1)) rfl (s_X3_addLot g (isM_of hh hj1) r14 hx24 hG) ⟨Nat.le_of_ble_eq_true rfl, Nat.le_of_ble_eq_true rfl⟩ rfl rfl (Nat.le_of_ble_eq_true rfl) ?_
            rintro iv lv hG
            refine z_aloadR zh dX4_lendTo_108 rfl ?_
            refine z_getf zh fl_Night_118 dX4_lendTo_110 (ck_M (isM_of hh hj1)) rfl rfl ?_
            refine z_iloadn zh dX4_lendTo_113 rfl ?_
            refine z_dup2 zh dX4_lendTo_114 rfl rfl ?_
            refine y_lald zh (ck_stock (isM_of hh hj1)) dX4_lendTo_115 ha2 (by decide) (by decide) (fun l25 => ?_)
            refine z_iload zh dX4_lendTo_116 rfl ?_
            refine y_i2l zh dX4_lendTo_118 (fun l26 => ?_)
            refine y_ladd zh dX4_lendTo_119 (fun l27 => ?_)
            refine z_last zh (ck_stock (isM_of hh hj1)) dX4_lendTo_120 (ra_in ha2 (by decide) (by decide)) ?_
            generalize upL lv (h + 60 + 20 * j1 + 1) a2.toNatClampNeg l27 = lv
            refine z_aloadR zh dX4_lendTo_121 rfl ?_
            refine z_iloadn zh dX4_lendTo_123 rfl ?_
            refine z_iloadn zh dX4_lendTo_124 rfl ?_
            refine z_iload zh dX4_lendTo_125 rfl ?_
            refine y_inegT zh dX4_lendTo_127 (fun x28 => ?_)
            refine z_callVV zh mv_Night_166 dX4_lendTo_128 (ck_M (isM_of hh hj1)) rfl (s_X3_changeLot g (isM_of hh hj1) ha2 ha3 hG) ⟨Nat.le_of_ble_eq_true rfl, Nat.le_of_ble_eq_true rfl⟩ rfl rfl (Nat.le_of_ble_eq_true rfl) ?_
            rintro iv lv hG
            refine z_aloadnR zh dX4_lendTo_131 rfl ?_
            refine z_iloadn zh dX4_lendTo_132 rfl ?_
            refine z_iload zh dX4_lendTo_133 rfl ?_
            refine z_aloadR zh dX4_lendTo_135 rfl ?_
            refine z_iload zh dX4_lendTo_137 rfl ?_
            refine z_callVL zh mv_Night_125 dX4_lendTo_139 (ck_M (isM_of hh hj1)) rfl (s_X3_worth g (isM_of hh hj1) hG) ⟨Nat.le_of_ble_eq_true rfl, Nat.le_of_ble_eq_true rfl⟩ rfl rfl (Nat.le_of_ble_eq_true rfl) ?_
            rintro l29 _ _ ⟨rfl, rfl, _⟩
            refine z_callVV zh mv_Night_79 dX4_lendTo_142 (ck_H hh) rfl (s_X1_pay g hh (ra_w ha2 (by decide) (by decide)) (ra_w r14 (by decide) (by decide)) hG) ⟨Nat.le_of_ble_eq_true rfl, Nat.le_of_ble_eq_true rfl⟩ rfl rfl (Nat.le_of_ble_eq_true rfl) ?_
            rintro iv lv hG
            refine z_aloadnR zh dX4_lendTo_145 rfl ?_
            refine z_iconst zh dX4_lendTo_146 ki_2 ?_
            refine z_iloadn zh dX4_lendTo_147 rfl ?_
            refine z_iload zh dX4_lendTo_148 rfl ?_
            refine z_iloadn zh dX4_lendTo_150 rfl ?_
            refine z_iload zh dX4_lendTo_151 rfl ?_
            refine z_callVV zh mv_Night_133 dX4_lendTo_153 (ck_H hh) rfl (s_X1_write g hh (ra_w rl_2 (by decide) (by decide)) ha1 (ra_w r14 (by decide) (by decide)) (ra_w ha2 (by decide) (by decide)) hG) ⟨Nat.le_of_ble_eq_true rfl, Nat.le_of_ble_eq_true rfl⟩ rfl rfl (Nat.le_of_ble_eq_true rfl) ?_
            rintro iv lv hG
            refine y_iinc (L' := fun z => [some (rf g h), some (.int a1), some (.int a2), some (.int a3), some (rf g (h + 60 + 20 * j1)), some (.int z), some (.int x12), some (.int x18)]) zh dX4_lendTo_156 (by decide) rfl (by decide +kernel) r6 (u := 1) (v := 12) rfl rfl (by decide) (by decide) (fun _ => rfl) (fun x30 hc30 hx30 => ?_)
            refine z_goto (tgt := 11) zh dX4_lendTo_159 rfl ?_
            refine z_forget zh [true, true, true, true, true, true, false, false] (L2 := [some (rf g h), some (.int a1), some (.int a2), some (.int a3), some (rf g (h + 60 + 20 * j1)), some (.int x30), none, none]) rfl ?_
            exact ih11 iv lv x30 hG (ra_w hx30 (by decide) (by decide)) (ms_up hc30 (by decide) hn11)
          · have r31 := rb_eq (u := (-1)) (v := (-1)) hx12 rl_n1 q13 (by decide) (by decide)
            exact z_vret zh dX4_lendTo_46 ⟨rfl, hG⟩
  exact J11 13 iv lv (nI 0) hG (ra_w rl_0 (by decide) (by decide)) (ms_u0 rl_0 (by decide))
set_option maxRecDepth 20000 in
theorem s_X4_lendToAged (g : GE) {sp : Nat → Nat → Bool} {σ : Iv} {iv : Iv} {lv : Lv} {h : Nat} {a1 : Int32} (hh : isH h) (ha1 : Ra 0 5 a1) (hG : SI sp σ iv)  : ConV g yX4_lendToAged cX4_lendToAged 5 none 5 [rf g h, .int a1] iv lv (fun iv lv => SI sp σ iv) := by
  refine con_intro (own := "RollingNets$Night") (by decide +kernel) rfl (Nat.le_of_ble_eq_true rfl) (L0 := [some (rf g h), some (.int a1), none, none, none]) rfl (fun Z zh => ?_)
  refine z_aloadnR zh dX4_lendToAged_0 rfl ?_
  refine y_getI zh fl_Night_13 dX4_lendToAged_1 (ck_H hh) rfl rfl (fun x1 ex1 => ?_)
  have hx1 : Ra 0 99 x1 := ra_of ex1 (si_H hG hh 0 (by decide) rfl)
  refine z_aloadnR zh dX4_lendToAged_4 rfl ?_
  refine z_getf zh fl_Night_169 dX4_lendToAged_5 (ck_H hh) rfl rfl ?_
  refine z_iconst zh dX4_lendToAged_8 ki_2 ?_
  refine y_ialdN zh (ck_told hh) dX4_lendToAged_9 (by decide) (fun x2 ex2 => ?_)
  refine y_isubT zh dX4_lendToAged_10 (fun x3 => ?_)
  refine z_istoren zh dX4_lendToAged_11 (by decide) (L' := [some (rf g h), some (.int a1), some (.int x3), none, none]) rfl ?_
  refine z_aloadnR zh dX4_lendToAged_12 rfl ?_
  refine z_getf zh fl_Night_141 dX4_lendToAged_13 (ck_H hh) rfl rfl ?_
  refine z_astoren zh dX4_lendToAged_16 (by decide) (L' := [some (rf g h), some (.int a1), some (.int x3), some (rf g (h + 54)), none]) rfl ?_
  refine z_aloadnR zh dX4_lendToAged_17 rfl ?_
  refine z_aloadnR zh dX4_lendToAged_18 rfl ?_
  refine z_iloadn zh dX4_lendToAged_19 rfl ?_
  refine z_callVV zh mv_Night_145 dX4_lendToAged_20 (ck_line hh) rfl (s_X2_form g hh hh ha1 hG) ⟨Nat.le_of_ble_eq_true rfl, Nat.le_of_ble_eq_true rfl⟩ rfl rfl (Nat.le_of_ble_eq_true rfl) ?_
  rintro iv lv hG
  refine z_iconst zh dX4_lendToAged_23 ki_0 ?_
  refine z_istore zh dX4_lendToAged_24 (by decide) (L' := [some (rf g h), some (.int a1), some (.int x3), some (rf g (h + 54)), some (.int (nI 0))]) rfl ?_
  have J26 : ∀ (n : Nat) (iv : Iv) (lv : Lv) (x4 : Int32), SI sp σ iv → Ra 0 1200 x4 → 1200 - x4.toInt < (n : Int) → Z 26 [some (rf g h), some (.int a1), some (.int x3), some (rf g (h + 54)), some (.int x4)] [] iv lv := by
    intro n
    induction n with
    | zero => intro iv lv x4 hG hx4 hn26; exact (ms_uz hx4 hn26).elim
    | succ n ih26 =>
      intro iv lv x4 hG hx4 hn26
      refine z_iload zh dX4_lendToAged_26 rfl ?_
      refine z_aloadnR zh dX4_lendToAged_28 rfl ?_
      refine y_getI zh fl_Night_150 dX4_lendToAged_29 (ck_line hh) rfl rfl (fun x5 ex5 => ?_)
      have hx5 : Ra 0 1200 x5 := ra_of ex5 (si_H hG hh 54 (by decide) rfl)
      refine z_icmp_ge (tgt := 71) zh dX4_lendToAged_32 rfl (fun q6 => ?_) (fun q6 => ?_)
      · exact z_vret zh dX4_lendToAged_71 ⟨rfl, hG⟩
      · have r7 : Ra 0 1199 x4 := rb_lt_l hx5 hx4 (rb_nle q6) (by decide)
        have r8 : Ra 1 1200 x5 := rb_lt_r hx4 hx5 (rb_nle q6) (by decide)
        refine z_aloadnR zh dX4_lendToAged_35 rfl ?_
        refine z_getf zh fl_Night_156 dX4_lendToAged_36 (ck_line hh) rfl rfl ?_
        refine z_iload zh dX4_lendToAged_39 rfl ?_
        refine y_iald zh (ck_lineD hh) dX4_lendToAged_41 r7 (by decide) (by decide) (fun x9 ex9 => ?_)
        have hx9 : Ra 0 99 x9 := ra_of ex9 (si_H hG hh 56 (by decide) rfl)
        refine z_iloadn zh dX4_lendToAged_42 rfl ?_
        have J65 : ∀ (iv : Iv) (lv : Lv), SI sp σ iv → Z 65 [some (rf g h), some (.int a1), some (.int x3), some (rf g (h + 54)), some (.int x4)] [] iv lv := by
          intro iv lv hG
          refine y_iinc (L' := fun z => [some (rf g h), some (.int a1), some (.int x3), some (rf g (h + 54)), some (.int z)]) zh dX4_lendToAged_65 (by decide) rfl (by decide +kernel) r7 (u := 1) (v := 1200) rfl rfl (by decide) (by decide) (fun _ => rfl) (fun x10 hc10 hx10 => ?_)
          refine z_goto (tgt := 26) zh dX4_lendToAged_68 rfl ?_
          exact ih26 iv lv x10 hG (ra_w hx10 (by decide) (by decide)) (ms_up hc10 (by decide) hn26)
        refine z_icmp_gt (tgt := 65) zh dX4_lendToAged_43 rfl (fun q11 => ?_) (fun q11 => ?_)
        · have r12 : Ra (-2147483648) 98 x3 := rb_lt_l hx9 (ra_tt x3) q11 (by decide)
          exact J65 iv lv hG
        · have r13 : Ra 0 2147483647 x3 := rb_le_r hx9 (ra_tt x3) (rb_nlt q11) (by decide)
          refine z_aloadnR zh dX4_lendToAged_46 rfl ?_
          refine z_iloadn zh dX4_lendToAged_47 rfl ?_
          refine z_aloadnR zh dX4_lendToAged_48 rfl ?_
          refine z_getf zh fl_Night_152 dX4_lendToAged_49 (ck_line hh) rfl rfl ?_
          refine z_iload zh dX4_lendToAged_52 rfl ?_
          refine y_iald zh (ck_lineM hh) dX4_lendToAged_54 r7 (by decide) (by decide) (fun x14 ex14 => ?_)
          have hx14 : Ra 0 11 x14 := ra_of ex14 (si_H hG hh 55 (by decide) rfl)
          refine z_aloadnR zh dX4_lendToAged_55 rfl ?_
          refine z_getf zh fl_Night_156 dX4_lendToAged_56 (ck_line hh) rfl rfl ?_
          refine z_iload zh dX4_lendToAged_59 rfl ?_
          refine y_iald zh (ck_lineD hh) dX4_lendToAged_61 r7 (by decide) (by decide) (fun x15 ex15 => ?_)
          have hx15 : Ra 0 99 x15 := ra_of ex15 (si_H hG hh 56 (by decide) rfl)
          refine z_callSV zh ms_Night_172 dX4_lendToAged_62 (s_X4_lendTo g hh ha1 hx14 hx15 hG) ⟨Nat.le_of_ble_eq_true rfl, Nat.le_of_ble_eq_true rfl⟩ rfl rfl (Nat.le_of_ble_eq_true rfl) ?_
          rintro iv lv hG
          exact J65 iv lv hG
  exact J26 1201 iv lv (nI 0) hG (ra_w rl_0 (by decide) (by decide)) (ms_u0 rl_0 (by decide))
set_option maxRecDepth 20000 in
theorem s_X4_mark (g : GE) {sp : Nat → Nat → Bool} {σ : Iv} {iv : Iv} {lv : Lv} {h : Nat} {a1 : Int32} (hh : isH h) (ha1 : Ra 0 5 a1) (hG : SI sp σ iv)  : ConV g yX4_mark cX4_mark 6 none 2 [rf g h, .int a1] iv lv (fun iv lv => SI sp σ iv) := by
  refine con_intro (own := "RollingNets$Night") (by decide +kernel) rfl (Nat.le_of_ble_eq_true rfl) (L0 := [some (rf g h), some (.int a1), none, none, none, none]) rfl (fun Z zh => ?_)
  refine z_aloadnR zh dX4_mark_0 rfl ?_
  refine z_getf zh fl_Night_57 dX4_mark_1 (ck_H hh) rfl rfl ?_
  refine z_iloadn zh dX4_mark_4 rfl ?_
  refine y_mald zh (ck_markets hh) dX4_mark_5 ha1 (by decide) (by decide) (fun j1 hj1 _ _ => ?_)
  refine z_astoren zh dX4_mark_6 (by decide) (L' := [some (rf g h), some (.int a1), some (rf g (h + 60 + 20 * j1)), none, none, none]) rfl ?_
  refine z_aloadnR zh dX4_mark_7 rfl ?_
  refine y_getI zh fl_Night_181 dX4_mark_8 (ck_M (isM_of hh hj1)) rfl rfl (fun x2 ex2 => ?_)
  refine z_aloadnR zh dX4_mark_11 rfl ?_
  refine y_getI zh fl_Night_74 dX4_mark_12 (ck_M (isM_of hh hj1)) rfl rfl (fun x3 ex3 => ?_)
  refine y_isubT zh dX4_mark_15 (fun x4 => ?_)
  refine y_i2l zh dX4_mark_16 (fun l5 => ?_)
  refine z_lstoren zh dX4_mark_17 (by decide) (L' := [some (rf g h), some (.int a1), some (rf g (h + 60 + 20 * j1)), some (.long l5), none, none]) rfl ?_
  refine z_iconst zh dX4_mark_18 ki_0 ?_
  refine z_istore zh dX4_mark_19 (by decide) (L' := [some (rf g h), some (.int a1), some (rf g (h + 60 + 20 * j1)), some (.long l5), none, some (.int (nI 0))]) rfl ?_
  have J21 : ∀ (n : Nat) (iv : Iv) (lv : Lv) (x6 : Int32), SI sp σ iv → Ra 0 12 x6 → 12 - x6.toInt < (n : Int) → Z 21 [some (rf g h), some (.int a1), some (rf g (h + 60 + 20 * j1)), some (.long l5), none, some (.int x6)] [] iv lv := by
    intro n
    induction n with
    | zero => intro iv lv x6 hG hx6 hn21; exact (ms_uz hx6 hn21).elim
    | succ n ih21 =>
      intro iv lv x6 hG hx6 hn21
      refine z_iload zh dX4_mark_21 rfl ?_
      refine z_aloadnR zh dX4_mark_23 rfl ?_
      refine z_callVI zh mv_Night_93 dX4_mark_24 (ck_H hh) rfl (s_X1_members g hh hG) ⟨Nat.le_of_ble_eq_true rfl, Nat.le_of_ble_eq_true rfl⟩ rfl rfl (Nat.le_of_ble_eq_true rfl) ?_
      rintro x7 _ _ ⟨rfl, rfl, hx7⟩
      refine z_icmp_ge (tgt := 56) zh dX4_mark_27 rfl (fun q8 => ?_) (fun q8 => ?_)
      · have r9 : Ra 2 12 x6 := rb_le_r hx7 hx6 q8 (by decide)
        refine z_aloadnR zh dX4_mark_56 rfl ?_
        refine z_aloadnR zh dX4_mark_57 rfl ?_
        refine y_getI zh fl_Night_181 dX4_mark_58 (ck_M (isM_of hh hj1)) rfl rfl (fun x10 ex10 => ?_)
        refine z_putI zh fl_Night_74 dX4_mark_61 (ck_M (isM_of hh hj1)) rfl rfl (Nat.le_of_ble_eq_true rfl) (Or.inl rfl) ?_
        have hG : SI sp σ (upI iv (h + 60 + 20 * j1) 8 x10) := si_wM hG (isM_of hh hj1) 0 (by decide) (rx_none rfl)
        have em11 := (upI_ne (iv := iv) (k := h + 60 + 20 * j1) (j := 8) (x := x10) (a := h + 60 + 20 * j1) (b := 7) (Or.inr (by decide))).trans ex10
        have em12 : upI iv (h + 60 + 20 * j1) 8 x10 (h + 60 + 20 * j1) 8 = x10 := by rw [upI_at, if_pos ⟨rfl, rfl⟩]
        generalize upI iv (h + 60 + 20 * j1) 8 x10 = iv at hG em11 em12 ⊢
        exact z_vret zh dX4_mark_64 ⟨rfl, hG⟩
      · have r13 : Ra 0 11 x6 := rb_lt_l hx7 hx6 (rb_nle q8) (by decide)
        refine z_aloadnR zh dX4_mark_30 rfl ?_
        refine z_getf zh fl_Night_122 dX4_mark_31 (ck_H hh) rfl rfl ?_
        refine z_iload zh dX4_mark_34 rfl ?_
        refine z_dup2 zh dX4_mark_36 rfl rfl ?_
        refine y_lald zh (ck_cash hh) dX4_mark_37 r13 (by decide) (by decide) (fun l14 => ?_)
        refine z_aloadnR zh dX4_mark_38 rfl ?_
        refine z_getf zh fl_Night_184 dX4_mark_39 (ck_M (isM_of hh hj1)) rfl rfl ?_
        refine z_iload zh dX4_mark_42 rfl ?_
        refine y_iald zh (ck_mi 6 (by decide) (isM_of hh hj1)) dX4_mark_44 r13 (by decide) (by decide) (fun x15 ex15 => ?_)
        refine y_i2l zh dX4_mark_45 (fun l16 => ?_)
        refine z_lloadn zh dX4_mark_46 rfl ?_
        refine y_lmul zh dX4_mark_47 (fun l17 => ?_)
        refine y_ladd zh dX4_mark_48 (fun l18 => ?_)
        refine z_last zh (ck_cash hh) dX4_mark_49 (ra_in r13 (by decide) (by decide)) ?_
        generalize upL lv (h + 2) x6.toNatClampNeg l18 = lv
        refine y_iinc (L' := fun z => [some (rf g h), some (.int a1), some (rf g (h + 60 + 20 * j1)), some (.long l5), none, some (.int z)]) zh dX4_mark_50 (by decide) rfl (by decide +kernel) r13 (u := 1) (v := 12) rfl rfl (by decide) (by decide) (fun _ => rfl) (fun x19 hc19 hx19 => ?_)
        refine z_goto (tgt := 21) zh dX4_mark_53 rfl ?_
        exact ih21 iv lv x19 hG (ra_w hx19 (by decide) (by decide)) (ms_up hc19 (by decide) hn21)
  exact J21 13 iv lv (nI 0) hG (ra_w rl_0 (by decide) (by decide)) (ms_u0 rl_0 (by decide))
set_option maxRecDepth 20000 in
theorem s_X4_netDue (g : GE) {sp : Nat → Nat → Bool} {σ : Iv} {iv : Iv} {lv : Lv} {h : Nat} {a1 : Int32} (hh : isH h) (ha1 : Ra 0 5 a1) (hG : SI sp σ iv)  : ConV g yX4_netDue cX4_netDue 8 none 4 [rf g h, .int a1] iv lv (fun iv lv => SI sp σ iv) := by
  refine con_intro (own := "RollingNets$Night") (by decide +kernel) rfl (Nat.le_of_ble_eq_true rfl) (L0 := [some (rf g h), some (.int a1), none, none, none, none, none, none]) rfl (fun Z zh => ?_)
  obtain ⟨iw1, eiw1⟩ : ∃ z, z = iv := ⟨_, rfl⟩
  have hS : SI sp σ iw1 := by rw [eiw1]; exact hG
  have hG : SI spc iw1 iv := by rw [eiw1]; exact si_full hG
  refine z_aloadnR zh dX4_netDue_0 rfl ?_
  refine z_getf zh fl_Night_53 dX4_netDue_1 (ck_H hh) rfl rfl ?_
  refine z_astoren zh dX4_netDue_4 (by decide) (L' := [some (rf g h), some (.int a1), some (rf g (h + 7)), none, none, none, none, none]) rfl ?_
  refine z_aloadnR zh dX4_netDue_5 rfl ?_
  refine z_getf zh fl_Night_57 dX4_netDue_6 (ck_H hh) rfl rfl ?_
  refine z_iloadn zh dX4_netDue_9 rfl ?_
  refine y_mald zh (ck_markets hh) dX4_netDue_10 ha1 (by decide) (by decide) (fun j2 hj2 _ _ => ?_)
  refine z_astoren zh dX4_netDue_11 (by decide) (L' := [some (rf g h), some (.int a1), some (rf g (h + 7)), some (rf g (h + 60 + 20 * j2)), none, none, none, none]) rfl ?_
  refine z_iconst zh dX4_netDue_12 ki_0 ?_
  refine z_istore zh dX4_netDue_13 (by decide) (L' := [some (rf g h), some (.int a1), some (rf g (h + 7)), some (rf g (h + 60 + 20 * j2)), some (.int (nI 0)), none, none, none]) rfl ?_
  have J15 : ∀ (n : Nat) (iv : Iv) (lv : Lv) (x3 : Int32), SI spc iw1 iv → Ra 0 200 x3 → 200 - x3.toInt < (n : Int) → Z 15 [some (rf g h), some (.int a1), some (rf g (h + 7)), some (rf g (h + 60 + 20 * j2)), some (.int x3), none, none, none] [] iv lv := by
    intro n
    induction n with
    | zero => intro iv lv x3 hG hx3 hn15; exact (ms_uz hx3 hn15).elim
    | succ n ih15 =>
      intro iv lv x3 hG hx3 hn15
      refine z_iload zh dX4_netDue_15 rfl ?_
      refine z_aloadnR zh dX4_netDue_17 rfl ?_
      obtain ⟨x4, ex4⟩ : ∃ z, iv (h + 7) 2 = z := ⟨_, rfl⟩
      have hx4 : Ra 0 200 x4 := ra_of ex4 (si_T hG (isT_d hh))
      have es5 := (si_s hG ((spc_H hh (r := 7) (by decide)).trans rfl)).symm.trans ex4
      refine z_callVIp zh mv_Night_61 dX4_netDue_18 (ck_T (isT_d hh)) rfl (s_X7_size g (isT_d hh) ex4) ⟨Nat.le_of_ble_eq_true rfl, Nat.le_of_ble_eq_true rfl⟩ rfl rfl (Nat.le_of_ble_eq_true rfl) ?_
      refine z_icmp_ge (tgt := 127) zh dX4_netDue_21 rfl (fun q6 => ?_) (fun q6 => ?_)
      · have hG := si_back hS hG
        exact z_vret zh dX4_netDue_127 ⟨rfl, hG⟩
      · have r7 : Ra 0 199 x3 := rb_lt_l hx4 hx3 (rb_nle q6) (by decide)
        have r8 : Ra 1 200 x4 := rb_lt_r hx3 hx4 (rb_nle q6) (by decide)
        refine z_aloadnR zh dX4_netDue_24 rfl ?_
        refine z_iload zh dX4_netDue_25 rfl ?_
        refine z_iloadn zh dX4_netDue_27 rfl ?_
        refine z_iconst zh dX4_netDue_28 ki_0 ?_
        refine z_callVI zh mv_Night_67 dX4_netDue_29 (ck_H hh) rfl (s_X1_isDue g hh r7 ha1 (ra_w rl_0 (by decide) (by decide)) hG) ⟨Nat.le_of_ble_eq_true rfl, Nat.le_of_ble_eq_true rfl⟩ rfl rfl (Nat.le_of_ble_eq_true rfl) ?_
        rintro x9 _ _ ⟨rfl, rfl, hx9⟩
        have J121 : ∀ (iv : Iv) (lv : Lv), SI spc iw1 iv → Z 121 [some (rf g h), some (.int a1), some (rf g (h + 7)), some (rf g (h + 60 + 20 * j2)), some (.int x3), none, none, none] [] iv lv := by
          intro iv lv hG
          refine y_iinc (L' := fun z => [some (rf g h), some (.int a1), some (rf g (h + 7)), some (rf g (h + 60 + 20 * j2)), some (.int z), none, none, none]) zh dX4_netDue_121 (by decide) rfl (by decide +kernel) r7 (u := 1) (v := 200) rfl rfl (by decide) (by decide) (fun _ => rfl) (fun x10 hc10 hx10 => ?_)
          refine z_goto (tgt := 15) zh dX4_netDue_124 rfl ?_
          exact ih15 iv lv x10 hG (ra_w hx10 (by decide) (by decide)) (ms_up hc10 (by decide) hn15)
        refine z_if_eq (tgt := 121) zh dX4_netDue_32 rfl (fun q11 => ?_) (fun q11 => ?_)
        · have r12 := rb_eq (u := 0) (v := 0) hx9 ra_z q11 (by decide) (by decide)
          exact J121 iv lv hG
        · have r13 : Ra 1 1 x9 := rb_ne_lo hx9 ra_z q11 (by decide)
          refine z_aloadnR zh dX4_netDue_35 rfl ?_
          refine z_iconst zh dX4_netDue_36 ki_0 ?_
          refine z_iload zh dX4_netDue_37 rfl ?_
          refine z_callVI zh mv_Night_70 dX4_netDue_39 (ck_T (isT_d hh)) rfl (s_X7_get g (isT_d hh) ex4 hx4) ⟨Nat.le_of_ble_eq_true rfl, Nat.le_of_ble_eq_true rfl⟩ rfl rfl (Nat.le_of_ble_eq_true rfl) ?_
          rintro x14 _ _ ⟨rfl, rfl, gx14⟩
          have hx14 : Ra 0 11 x14 := get_in gx14 0 rfl (by decide) (by decide) ⟨Int.le_trans (by decide) r7.1, ltI.mp (rb_nle q6)⟩ (fun j => si_H hG hh 9 (by decide) rfl)
          refine z_istore zh dX4_netDue_42 (by decide) (L' := [some (rf g h), some (.int a1), some (rf g (h + 7)), some (rf g (h + 60 + 20 * j2)), some (.int x3), some (.int x14), none, none]) rfl ?_
          refine z_aloadnR zh dX4_netDue_44 rfl ?_
          refine z_iconst zh dX4_netDue_45 ki_1 ?_
          refine z_iload zh dX4_netDue_46 rfl ?_
          refine z_callVI zh mv_Night_70 dX4_netDue_48 (ck_T (isT_d hh)) rfl (s_X7_get g (isT_d hh) ex4 hx4) ⟨Nat.le_of_ble_eq_true rfl, Nat.le_of_ble_eq_true rfl⟩ rfl rfl (Nat.le_of_ble_eq_true rfl) ?_
          rintro x15 _ _ ⟨rfl, rfl, gx15⟩
          have hx15 : Ra 0 11 x15 := get_in gx15 1 rfl (by decide) (by decide) ⟨Int.le_trans (by decide) r7.1, ltI.mp (rb_nle q6)⟩ (fun j => si_H hG hh 10 (by decide) rfl)
          refine z_istore zh dX4_netDue_51 (by decide) (L' := [some (rf g h), some (.int a1), some (rf g (h + 7)), some (rf g (h + 60 + 20 * j2)), some (.int x3), some (.int x14), some (.int x15), none]) rfl ?_
          refine z_aloadnR zh dX4_netDue_53 rfl ?_
          refine z_iconst zh dX4_netDue_54 ki_3 ?_
          refine z_iload zh dX4_netDue_55 rfl ?_
          refine z_callVI zh mv_Night_70 dX4_netDue_57 (ck_T (isT_d hh)) rfl (s_X7_get g (isT_d hh) ex4 hx4) ⟨Nat.le_of_ble_eq_true rfl, Nat.le_of_ble_eq_true rfl⟩ rfl rfl (Nat.le_of_ble_eq_true rfl) ?_
          rintro x16 _ _ ⟨rfl, rfl, gx16⟩
          refine z_istore zh dX4_netDue_60 (by decide) (L' := [some (rf g h), some (.int a1), some (rf g (h + 7)), some (rf g (h + 60 + 20 * j2)), some (.int x3), some (.int x14), some (.int x15), some (.int x16)]) rfl ?_
          refine z_aloadnR zh dX4_netDue_62 rfl ?_
          refine z_iload zh dX4_netDue_63 rfl ?_
          refine z_iload zh dX4_netDue_65 rfl ?_
          refine z_iload zh dX4_netDue_67 rfl ?_
          refine y_i2l zh dX4_netDue_69 (fun l17 => ?_)
          refine z_aloadnR zh dX4_netDue_70 rfl ?_
          refine z_iconst zh dX4_netDue_71 ki_4 ?_
          refine z_iload zh dX4_netDue_72 rfl ?_
          refine z_callVI zh mv_Night_70 dX4_netDue_74 (ck_T (isT_d hh)) rfl (s_X7_get g (isT_d hh) ex4 hx4) ⟨Nat.le_of_ble_eq_true rfl, Nat.le_of_ble_eq_true rfl⟩ rfl rfl (Nat.le_of_ble_eq_true rfl) ?_
          rintro x18 _ _ ⟨rfl, rfl, gx18⟩
          refine z_aloadnR zh dX4_netDue_77 rfl ?_
          refine y_getI zh fl_Night_74 dX4_netDue_78 (ck_M (isM_of hh hj2)) rfl rfl (fun x19 ex19 => ?_)
          refine y_isubT zh dX4_netDue_81 (fun x20 => ?_)
          refine y_i2l zh dX4_netDue_82 (fun l21 => ?_)
          refine y_lmul zh dX4_netDue_83 (fun l22 => ?_)
          refine z_callVV zh mv_Night_79 dX4_netDue_84 (ck_H hh) rfl (s_X1_pay g hh (ra_w hx14 (by decide) (by decide)) (ra_w hx15 (by decide) (by decide)) hG) ⟨Nat.le_of_ble_eq_true rfl, Nat.le_of_ble_eq_true rfl⟩ rfl rfl (Nat.le_of_ble_eq_true rfl) ?_
          rintro iv lv hG
          refine z_aloadnR zh dX4_netDue_87 rfl ?_
          refine z_iload zh dX4_netDue_88 rfl ?_
          refine z_iload zh dX4_netDue_90 rfl ?_
          refine z_aloadnR zh dX4_netDue_92 rfl ?_
          refine y_getI zh fl_Night_13 dX4_netDue_93 (ck_H hh) rfl rfl (fun x23 ex23 => ?_)
          have hx23 : Ra 0 99 x23 := ra_of ex23 (si_H hG hh 0 (by decide) rfl)
          have es24 := (si_s hG ((spc_H hh (r := 0) (by decide)).trans rfl)).symm.trans ex23
          refine z_callVV zh mv_Night_83 dX4_netDue_96 (ck_M (isM_of hh hj2)) rfl (s_X3_addLot g (isM_of hh hj2) hx14 hx23 hG) ⟨Nat.le_of_ble_eq_true rfl, Nat.le_of_ble_eq_true rfl⟩ rfl rfl (Nat.le_of_ble_eq_true rfl) ?_
          rintro iv lv hG
          refine z_aloadnR zh dX4_netDue_99 rfl ?_
          refine z_iload zh dX4_netDue_100 rfl ?_
          refine z_iload zh dX4_netDue_102 rfl ?_
          refine y_inegT zh dX4_netDue_104 (fun x25 => ?_)
          refine z_aloadnR zh dX4_netDue_105 rfl ?_
          refine z_getI (x := x23) zh fl_Night_13 dX4_netDue_106 (ck_H hh) rfl rfl ((si_s hG ((spc_H hh (r := 0) (by decide)).trans rfl)).trans es24) ?_
          refine z_callVV zh mv_Night_83 dX4_netDue_109 (ck_M (isM_of hh hj2)) rfl (s_X3_addLot g (isM_of hh hj2) hx15 hx23 hG) ⟨Nat.le_of_ble_eq_true rfl, Nat.le_of_ble_eq_true rfl⟩ rfl rfl (Nat.le_of_ble_eq_true rfl) ?_
          rintro iv lv hG
          refine z_aloadnR zh dX4_netDue_112 rfl ?_
          refine z_bipush zh dX4_netDue_113 kb_7 ?_
          refine z_iload zh dX4_netDue_115 rfl ?_
          refine z_iconst zh dX4_netDue_117 ki_0 ?_
          refine z_callVV zh mv_Night_87 dX4_netDue_118 (ck_T (isT_d hh)) rfl (s_X7_put g (isT_d hh) hG (pd_f hG hh rl_7 (by decide))) ⟨Nat.le_of_ble_eq_true rfl, Nat.le_of_ble_eq_true rfl⟩ rfl rfl (Nat.le_of_ble_eq_true rfl) ?_
          rintro iv lv hG
          refine z_forget zh [true, true, true, true, true, false, false, false] (L2 := [some (rf g h), some (.int a1), some (rf g (h + 7)), some (rf g (h + 60 + 20 * j2)), some (.int x3), none, none, none]) rfl ?_
          exact J121 iv lv hG
  exact J15 201 iv lv (nI 0) hG (ra_w rl_0 (by decide) (by decide)) (ms_u0 rl_0 (by decide))
set_option maxRecDepth 20000 in
theorem s_X4_passApart (g : GE) {sp : Nat → Nat → Bool} {σ : Iv} {iv : Iv} {lv : Lv} {h : Nat} {a1 : Int32} (hh : isH h) (ha1 : Ra 0 5 a1) (hG : SI sp σ iv)  : ConV g yX4_passApart cX4_passApart 8 none 4 [rf g h, .int a1] iv lv (fun iv lv => SI sp σ iv) := by
  refine con_intro (own := "RollingNets$Night") (by decide +kernel) rfl (Nat.le_of_ble_eq_true rfl) (L0 := [some (rf g h), some (.int a1), none, none, none, none, none, none]) rfl (fun Z zh => ?_)
  obtain ⟨iw1, eiw1⟩ : ∃ z, z = iv := ⟨_, rfl⟩
  have hS : SI sp σ iw1 := by rw [eiw1]; exact hG
  have hG : SI spc iw1 iv := by rw [eiw1]; exact si_full hG
  refine z_aloadnR zh dX4_passApart_0 rfl ?_
  refine z_getf zh fl_Night_53 dX4_passApart_1 (ck_H hh) rfl rfl ?_
  refine z_astoren zh dX4_passApart_4 (by decide) (L' := [some (rf g h), some (.int a1), some (rf g (h + 7)), none, none, none, none, none]) rfl ?_
  refine z_aloadnR zh dX4_passApart_5 rfl ?_
  refine z_getf zh fl_Night_57 dX4_passApart_6 (ck_H hh) rfl rfl ?_
  refine z_iloadn zh dX4_passApart_9 rfl ?_
  refine y_mald zh (ck_markets hh) dX4_passApart_10 ha1 (by decide) (by decide) (fun j2 hj2 _ _ => ?_)
  refine z_astoren zh dX4_passApart_11 (by decide) (L' := [some (rf g h), some (.int a1), some (rf g (h + 7)), some (rf g (h + 60 + 20 * j2)), none, none, none, none]) rfl ?_
  refine z_iconst zh dX4_passApart_12 ki_0 ?_
  refine z_istore zh dX4_passApart_13 (by decide) (L' := [some (rf g h), some (.int a1), some (rf g (h + 7)), some (rf g (h + 60 + 20 * j2)), some (.int (nI 0)), none, none, none]) rfl ?_
  have J15 : ∀ (n : Nat) (iv : Iv) (lv : Lv) (x3 : Int32), SI spc iw1 iv → Ra 0 200 x3 → 200 - x3.toInt < (n : Int) → Z 15 [some (rf g h), some (.int a1), some (rf g (h + 7)), some (rf g (h + 60 + 20 * j2)), some (.int x3), none, none, none] [] iv lv := by
    intro n
    induction n with
    | zero => intro iv lv x3 hG hx3 hn15; exact (ms_uz hx3 hn15).elim
    | succ n ih15 =>
      intro iv lv x3 hG hx3 hn15
      refine z_iload zh dX4_passApart_15 rfl ?_
      refine z_aloadnR zh dX4_passApart_17 rfl ?_
      obtain ⟨x4, ex4⟩ : ∃ z, iv (h + 7) 2 = z := ⟨_, rfl⟩
      have hx4 : Ra 0 200 x4 := ra_of ex4 (si_T hG (isT_d hh))
      have es5 := (si_s hG ((spc_H hh (r := 7) (by decide)).trans rfl)).symm.trans ex4
      refine z_callVIp zh mv_Night_61 dX4_passApart_18 (ck_T (isT_d hh)) rfl (s_X7_size g (isT_d hh) ex4) ⟨Nat.le_of_ble_eq_true rfl, Nat.le_of_ble_eq_true rfl⟩ rfl rfl (Nat.le_of_ble_eq_true rfl) ?_
      refine z_icmp_ge (tgt := 153) zh dX4_passApart_21 rfl (fun q6 => ?_) (fun q6 => ?_)
      · have hG := si_back hS hG
        exact z_vret zh dX4_passApart_153 ⟨rfl, hG⟩
      · have r7 : Ra 0 199 x3 := rb_lt_l hx4 hx3 (rb_nle q6) (by decide)
        have r8 : Ra 1 200 x4 := rb_lt_r hx3 hx4 (rb_nle q6) (by decide)
        refine z_aloadnR zh dX4_passApart_24 rfl ?_
        refine z_iload zh dX4_passApart_25 rfl ?_
        refine z_iloadn zh dX4_passApart_27 rfl ?_
        refine z_iconst zh dX4_passApart_28 ki_1 ?_
        refine z_callVI zh mv_Night_67 dX4_passApart_29 (ck_H hh) rfl (s_X1_isDue g hh r7 ha1 (ra_w rl_1 (by decide) (by decide)) hG) ⟨Nat.le_of_ble_eq_true rfl, Nat.le_of_ble_eq_true rfl⟩ rfl rfl (Nat.le_of_ble_eq_true rfl) ?_
        rintro x9 _ _ ⟨rfl, rfl, hx9⟩
        have J147 : ∀ (iv : Iv) (lv : Lv), SI spc iw1 iv → Z 147 [some (rf g h), some (.int a1), some (rf g (h + 7)), some (rf g (h + 60 + 20 * j2)), some (.int x3), none, none, none] [] iv lv := by
          intro iv lv hG
          refine y_iinc (L' := fun z => [some (rf g h), some (.int a1), some (rf g (h + 7)), some (rf g (h + 60 + 20 * j2)), some (.int z), none, none, none]) zh dX4_passApart_147 (by decide) rfl (by decide +kernel) r7 (u := 1) (v := 200) rfl rfl (by decide) (by decide) (fun _ => rfl) (fun x10 hc10 hx10 => ?_)
          refine z_goto (tgt := 15) zh dX4_passApart_150 rfl ?_
          exact ih15 iv lv x10 hG (ra_w hx10 (by decide) (by decide)) (ms_up hc10 (by decide) hn15)
        refine z_if_ne (tgt := 38) zh dX4_passApart_32 rfl (fun q11 => ?_) (fun q11 => ?_)
        · have r12 : Ra 1 1 x9 := rb_ne_lo hx9 ra_z q11 (by decide)
          refine z_aloadnR zh dX4_passApart_38 rfl ?_
          refine z_iconst zh dX4_passApart_39 ki_0 ?_
          refine z_iload zh dX4_passApart_40 rfl ?_
          refine z_callVI zh mv_Night_70 dX4_passApart_42 (ck_T (isT_d hh)) rfl (s_X7_get g (isT_d hh) ex4 hx4) ⟨Nat.le_of_ble_eq_true rfl, Nat.le_of_ble_eq_true rfl⟩ rfl rfl (Nat.le_of_ble_eq_true rfl) ?_
          rintro x13 _ _ ⟨rfl, rfl, gx13⟩
          have hx13 : Ra 0 11 x13 := get_in gx13 0 rfl (by decide) (by decide) ⟨Int.le_trans (by decide) r7.1, ltI.mp (rb_nle q6)⟩ (fun j => si_H hG hh 9 (by decide) rfl)
          refine z_istore zh dX4_passApart_45 (by decide) (L' := [some (rf g h), some (.int a1), some (rf g (h + 7)), some (rf g (h + 60 + 20 * j2)), some (.int x3), some (.int x13), none, none]) rfl ?_
          refine z_aloadnR zh dX4_passApart_47 rfl ?_
          refine z_iconst zh dX4_passApart_48 ki_1 ?_
          refine z_iload zh dX4_passApart_49 rfl ?_
          refine z_callVI zh mv_Night_70 dX4_passApart_51 (ck_T (isT_d hh)) rfl (s_X7_get g (isT_d hh) ex4 hx4) ⟨Nat.le_of_ble_eq_true rfl, Nat.le_of_ble_eq_true rfl⟩ rfl rfl (Nat.le_of_ble_eq_true rfl) ?_
          rintro x14 _ _ ⟨rfl, rfl, gx14⟩
          have hx14 : Ra 0 11 x14 := get_in gx14 1 rfl (by decide) (by decide) ⟨Int.le_trans (by decide) r7.1, ltI.mp (rb_nle q6)⟩ (fun j => si_H hG hh 10 (by decide) rfl)
          refine z_istore zh dX4_passApart_54 (by decide) (L' := [some (rf g h), some (.int a1), some (rf g (h + 7)), some (rf g (h + 60 + 20 * j2)), some (.int x3), some (.int x13), some (.int x14), none]) rfl ?_
          refine z_aloadnR zh dX4_passApart_56 rfl ?_
          refine z_bipush zh dX4_passApart_57 kb_7 ?_
          refine z_iload zh dX4_passApart_59 rfl ?_
          refine z_callVI zh mv_Night_70 dX4_passApart_61 (ck_T (isT_d hh)) rfl (s_X7_get g (isT_d hh) ex4 hx4) ⟨Nat.le_of_ble_eq_true rfl, Nat.le_of_ble_eq_true rfl⟩ rfl rfl (Nat.le_of_ble_eq_true rfl) ?_
          rintro x15 _ _ ⟨rfl, rfl, gx15⟩
          refine z_istore zh dX4_passApart_64 (by decide) (L' := [some (rf g h), some (.int a1), some (rf g (h + 7)), some (rf g (h + 60 + 20 * j2)), some (.int x3), some (.int x13), some (.int x14), some (.int x15)]) rfl ?_
          refine z_aloadnR zh dX4_passApart_66 rfl ?_
          refine z_iloadn zh dX4_passApart_67 rfl ?_
          refine z_iload zh dX4_passApart_68 rfl ?_
          refine z_callVL zh mv_Night_108 dX4_passApart_70 (ck_H hh) rfl (s_X1_freeOf g hh ha1 hx14 hG) ⟨Nat.le_of_ble_eq_true rfl, Nat.le_of_ble_eq_true rfl⟩ rfl rfl (Nat.le_of_ble_eq_true rfl) ?_
          rintro l16 _ _ ⟨rfl, rfl, _⟩
          refine z_iload zh dX4_passApart_73 rfl ?_
          refine y_i2l zh dX4_passApart_75 (fun l17 => ?_)
          refine y_lcmp zh dX4_passApart_76 (fun x18 hx18 => ?_)
          refine z_if_lt (tgt := 147) zh dX4_passApart_77 rfl (fun q19 => ?_) (fun q19 => ?_)
          · have r20 : Ra (-1) (-1) x18 := rb_lt_l ra_z hx18 q19 (by decide)
            refine z_forget zh [true, true, true, true, true, false, false, false] (L2 := [some (rf g h), some (.int a1), some (rf g (h + 7)), some (rf g (h + 60 + 20 * j2)), some (.int x3), none, none, none]) rfl ?_
            exact J147 iv lv hG
          · have r21 : Ra 0 1 x18 := rb_le_r ra_z hx18 (rb_nlt q19) (by decide)
            refine z_aloadnR zh dX4_passApart_80 rfl ?_
            refine z_getf zh fl_Night_118 dX4_passApart_81 (ck_M (isM_of hh hj2)) rfl rfl ?_
            refine z_iload zh dX4_passApart_84 rfl ?_
            refine z_dup2 zh dX4_passApart_86 rfl rfl ?_
            refine y_lald zh (ck_stock (isM_of hh hj2)) dX4_passApart_87 hx14 (by decide) (by decide) (fun l22 => ?_)
            refine z_iload zh dX4_passApart_88 rfl ?_
            refine y_i2l zh dX4_passApart_90 (fun l23 => ?_)
            refine y_lsub zh dX4_passApart_91 (fun l24 => ?_)
            refine z_last zh (ck_stock (isM_of hh hj2)) dX4_passApart_92 (ra_in hx14 (by decide) (by decide)) ?_
            generalize upL lv (h + 60 + 20 * j2 + 1) x14.toNatClampNeg l24 = lv
            refine z_aloadnR zh dX4_passApart_93 rfl ?_
            refine z_getf zh fl_Night_118 dX4_passApart_94 (ck_M (isM_of hh hj2)) rfl rfl ?_
            refine z_iload zh dX4_passApart_97 rfl ?_
            refine z_dup2 zh dX4_passApart_99 rfl rfl ?_
            refine y_lald zh (ck_stock (isM_of hh hj2)) dX4_passApart_100 hx13 (by decide) (by decide) (fun l25 => ?_)
            refine z_iload zh dX4_passApart_101 rfl ?_
            refine y_i2l zh dX4_passApart_103 (fun l26 => ?_)
            refine y_ladd zh dX4_passApart_104 (fun l27 => ?_)
            refine z_last zh (ck_stock (isM_of hh hj2)) dX4_passApart_105 (ra_in hx13 (by decide) (by decide)) ?_
            generalize upL lv (h + 60 + 20 * j2 + 1) x13.toNatClampNeg l27 = lv
            refine z_aloadnR zh dX4_passApart_106 rfl ?_
            refine z_iload zh dX4_passApart_107 rfl ?_
            refine z_iload zh dX4_passApart_109 rfl ?_
            refine z_iload zh dX4_passApart_111 rfl ?_
            refine y_i2l zh dX4_passApart_113 (fun l28 => ?_)
            refine z_aloadnR zh dX4_passApart_114 rfl ?_
            refine z_iconst zh dX4_passApart_115 ki_4 ?_
            refine z_iload zh dX4_passApart_116 rfl ?_
            refine z_callVI zh mv_Night_70 dX4_passApart_118 (ck_T (isT_d hh)) rfl (s_X7_get g (isT_d hh) ex4 hx4) ⟨Nat.le_of_ble_eq_true rfl, Nat.le_of_ble_eq_true rfl⟩ rfl rfl (Nat.le_of_ble_eq_true rfl) ?_
            rintro x29 _ _ ⟨rfl, rfl, gx29⟩
            refine y_i2l zh dX4_passApart_121 (fun l30 => ?_)
            refine y_lmul zh dX4_passApart_122 (fun l31 => ?_)
            refine z_callVV zh mv_Night_79 dX4_passApart_123 (ck_H hh) rfl (s_X1_pay g hh (ra_w hx13 (by decide) (by decide)) (ra_w hx14 (by decide) (by decide)) hG) ⟨Nat.le_of_ble_eq_true rfl, Nat.le_of_ble_eq_true rfl⟩ rfl rfl (Nat.le_of_ble_eq_true rfl) ?_
            rintro iv lv hG
            refine z_aloadnR zh dX4_passApart_126 rfl ?_
            refine z_bipush zh dX4_passApart_127 kb_7 ?_
            refine z_iload zh dX4_passApart_129 rfl ?_
            refine z_iconst zh dX4_passApart_131 ki_0 ?_
            refine z_callVV zh mv_Night_87 dX4_passApart_132 (ck_T (isT_d hh)) rfl (s_X7_put g (isT_d hh) hG (pd_f hG hh rl_7 (by decide))) ⟨Nat.le_of_ble_eq_true rfl, Nat.le_of_ble_eq_true rfl⟩ rfl rfl (Nat.le_of_ble_eq_true rfl) ?_
            rintro iv lv hG
            refine z_aloadnR zh dX4_passApart_135 rfl ?_
            refine z_iconst zh dX4_passApart_136 ki_3 ?_
            refine z_iloadn zh dX4_passApart_137 rfl ?_
            refine z_iload zh dX4_passApart_138 rfl ?_
            refine z_iload zh dX4_passApart_140 rfl ?_
            refine z_iload zh dX4_passApart_142 rfl ?_
            refine z_callVV zh mv_Night_133 dX4_passApart_144 (ck_H hh) rfl (s_X1_write g hh (ra_w rl_3 (by decide) (by decide)) ha1 (ra_w hx14 (by decide) (by decide)) (ra_w hx13 (by decide) (by decide)) hG) ⟨Nat.le_of_ble_eq_true rfl, Nat.le_of_ble_eq_true rfl⟩ rfl rfl (Nat.le_of_ble_eq_true rfl) ?_
            rintro iv lv hG
            refine z_forget zh [true, true, true, true, true, false, false, false] (L2 := [some (rf g h), some (.int a1), some (rf g (h + 7)), some (rf g (h + 60 + 20 * j2)), some (.int x3), none, none, none]) rfl ?_
            exact J147 iv lv hG
        · have r32 := rb_eq (u := 0) (v := 0) hx9 ra_z q11 (by decide) (by decide)
          refine z_goto (tgt := 147) zh dX4_passApart_35 rfl ?_
          exact J147 iv lv hG
  exact J15 201 iv lv (nI 0) hG (ra_w rl_0 (by decide) (by decide)) (ms_u0 rl_0 (by decide))
set_option maxRecDepth 20000 in
theorem s_X4_payOut (g : GE) {sp : Nat → Nat → Bool} {σ : Iv} {iv : Iv} {lv : Lv} {h : Nat} {a1 : Int32} (hh : isH h) (ha1 : Ra 0 5 a1) (hG : SI sp σ iv)  : ConV g yX4_payOut cX4_payOut 8 none 2 [rf g h, .int a1] iv lv (fun iv lv => SI sp σ iv) := by
  refine con_intro (own := "RollingNets$Night") (by decide +kernel) rfl (Nat.le_of_ble_eq_true rfl) (L0 := [some (rf g h), some (.int a1), none, none, none, none, none, none]) rfl (fun Z zh => ?_)
  refine z_aloadnR zh dX4_payOut_0 rfl ?_
  refine z_getf zh fl_Night_57 dX4_payOut_1 (ck_H hh) rfl rfl ?_
  refine z_iloadn zh dX4_payOut_4 rfl ?_
  refine y_mald zh (ck_markets hh) dX4_payOut_5 ha1 (by decide) (by decide) (fun j1 hj1 _ _ => ?_)
  refine z_astoren zh dX4_payOut_6 (by decide) (L' := [some (rf g h), some (.int a1), some (rf g (h + 60 + 20 * j1)), none, none, none, none, none]) rfl ?_
  refine z_aloadnR zh dX4_payOut_7 rfl ?_
  refine y_getI zh fl_Night_187 dX4_payOut_8 (ck_M (isM_of hh hj1)) rfl rfl (fun x2 ex2 => ?_)
  refine y_i2l zh dX4_payOut_11 (fun l3 => ?_)
  refine z_lstoren zh dX4_payOut_12 (by decide) (L' := [some (rf g h), some (.int a1), some (rf g (h + 60 + 20 * j1)), some (.long l3), none, none, none, none]) rfl ?_
  refine z_iconst zh dX4_payOut_13 ki_0 ?_
  refine z_istore zh dX4_payOut_14 (by decide) (L' := [some (rf g h), some (.int a1), some (rf g (h + 60 + 20 * j1)), some (.long l3), none, some (.int (nI 0)), none, none]) rfl ?_
  have J16 : ∀ (n : Nat) (iv : Iv) (lv : Lv) (x4 : Int32), SI sp σ iv → Ra 0 12 x4 → 12 - x4.toInt < (n : Int) → Z 16 [some (rf g h), some (.int a1), some (rf g (h + 60 + 20 * j1)), some (.long l3), none, some (.int x4), none, none] [] iv lv := by
    intro n
    induction n with
    | zero => intro iv lv x4 hG hx4 hn16; exact (ms_uz hx4 hn16).elim
    | succ n ih16 =>
      intro iv lv x4 hG hx4 hn16
      refine z_iload zh dX4_payOut_16 rfl ?_
      refine z_aloadnR zh dX4_payOut_18 rfl ?_
      refine z_callVI zh mv_Night_93 dX4_payOut_19 (ck_H hh) rfl (s_X1_members g hh hG) ⟨Nat.le_of_ble_eq_true rfl, Nat.le_of_ble_eq_true rfl⟩ rfl rfl (Nat.le_of_ble_eq_true rfl) ?_
      rintro x5 _ _ ⟨rfl, rfl, hx5⟩
      refine z_icmp_ge (tgt := 76) zh dX4_payOut_22 rfl (fun q6 => ?_) (fun q6 => ?_)
      · have r7 : Ra 2 12 x4 := rb_le_r hx5 hx4 q6 (by decide)
        refine z_aloadnR zh dX4_payOut_76 rfl ?_
        refine z_iconst zh dX4_payOut_77 ki_0 ?_
        refine z_putI zh fl_Night_187 dX4_payOut_78 (ck_M (isM_of hh hj1)) rfl rfl (Nat.le_of_ble_eq_true rfl) (Or.inl rfl) ?_
        have hG : SI sp σ (upI iv (h + 60 + 20 * j1) 9 (nI 0)) := si_wM hG (isM_of hh hj1) 0 (by decide) (rx_none rfl)
        have em8 : upI iv (h + 60 + 20 * j1) 9 (nI 0) (h + 60 + 20 * j1) 9 = nI 0 := by rw [upI_at, if_pos ⟨rfl, rfl⟩]
        generalize upI iv (h + 60 + 20 * j1) 9 (nI 0) = iv at hG em8 ⊢
        exact z_vret zh dX4_payOut_81 ⟨rfl, hG⟩
      · have r9 : Ra 0 11 x4 := rb_lt_l hx5 hx4 (rb_nle q6) (by decide)
        refine z_aloadnR zh dX4_payOut_25 rfl ?_
        refine z_getf zh fl_Night_118 dX4_payOut_26 (ck_M (isM_of hh hj1)) rfl rfl ?_
        refine z_iload zh dX4_payOut_29 rfl ?_
        refine y_lald zh (ck_stock (isM_of hh hj1)) dX4_payOut_31 r9 (by decide) (by decide) (fun l10 => ?_)
        refine z_lstore zh dX4_payOut_32 (by decide) (L' := [some (rf g h), some (.int a1), some (rf g (h + 60 + 20 * j1)), some (.long l3), none, some (.int x4), some (.long l10), none]) rfl ?_
        refine z_aloadnR zh dX4_payOut_34 rfl ?_
        refine z_getf zh fl_Night_122 dX4_payOut_35 (ck_H hh) rfl rfl ?_
        refine z_iload zh dX4_payOut_38 rfl ?_
        refine z_dup2 zh dX4_payOut_40 rfl rfl ?_
        refine y_lald zh (ck_cash hh) dX4_payOut_41 r9 (by decide) (by decide) (fun l11 => ?_)
        refine z_lloadn zh dX4_payOut_42 rfl ?_
        refine z_lload zh dX4_payOut_43 rfl ?_
        refine z_aloadnR zh dX4_payOut_45 rfl ?_
        refine z_getf zh fl_Night_184 dX4_payOut_46 (ck_M (isM_of hh hj1)) rfl rfl ?_
        refine z_iload zh dX4_payOut_49 rfl ?_
        refine y_iald zh (ck_mi 6 (by decide) (isM_of hh hj1)) dX4_payOut_51 r9 (by decide) (by decide) (fun x12 ex12 => ?_)
        refine y_i2l zh dX4_payOut_52 (fun l13 => ?_)
        refine y_ladd zh dX4_payOut_53 (fun l14 => ?_)
        refine y_lmul zh dX4_payOut_54 (fun l15 => ?_)
        refine y_ladd zh dX4_payOut_55 (fun l16 => ?_)
        refine z_last zh (ck_cash hh) dX4_payOut_56 (ra_in r9 (by decide) (by decide)) ?_
        generalize upL lv (h + 2) x4.toNatClampNeg l16 = lv
        refine z_aloadnR zh dX4_payOut_57 rfl ?_
        refine z_dup zh dX4_payOut_58 rfl ?_
        refine y_getL zh fl_Night_190 dX4_payOut_59 (ck_H hh) rfl rfl (fun l17 => ?_)
        refine z_lloadn zh dX4_payOut_62 rfl ?_
        refine z_lload zh dX4_payOut_63 rfl ?_
        refine y_lmul zh dX4_payOut_65 (fun l18 => ?_)
        refine y_lsub zh dX4_payOut_66 (fun l19 => ?_)
        refine z_putL zh fl_Night_190 dX4_payOut_67 (ck_H hh) rfl rfl (Nat.le_of_ble_eq_true rfl) rfl ?_
        generalize upL lv h 12 l19 = lv
        refine y_iinc (L' := fun z => [some (rf g h), some (.int a1), some (rf g (h + 60 + 20 * j1)), some (.long l3), none, some (.int z), some (.long l10), none]) zh dX4_payOut_70 (by decide) rfl (by decide +kernel) r9 (u := 1) (v := 12) rfl rfl (by decide) (by decide) (fun _ => rfl) (fun x20 hc20 hx20 => ?_)
        refine z_goto (tgt := 16) zh dX4_payOut_73 rfl ?_
        refine z_forget zh [true, true, true, true, false, true, false, false] (L2 := [some (rf g h), some (.int a1), some (rf g (h + 60 + 20 * j1)), some (.long l3), none, some (.int x20), none, none]) rfl ?_
        exact ih16 iv lv x20 hG (ra_w hx20 (by decide) (by decide)) (ms_up hc20 (by decide) hn16)
  exact J16 13 iv lv (nI 0) hG (ra_w rl_0 (by decide) (by decide)) (ms_u0 rl_0 (by decide))
set_option maxRecDepth 20000 in
theorem s_X5_lastOfChain (g : GE) {sp : Nat → Nat → Bool} {σ : Iv} {iv : Iv} {lv : Lv} {h : Nat} (hh : isH h) (hG : SI sp σ iv)  : ConI g yX5_lastOfChain cX5_lastOfChain 2 (some .int) 2 [rf g h] iv lv (fun r iv' lv' => iv = iv' ∧ lv = lv' ∧ Ra (-1) 11 r) := by
  refine con_intro (own := "RollingNets$Notices") (by decide +kernel) rfl (Nat.le_of_ble_eq_true rfl) (L0 := [some (rf g h), none]) rfl (fun Z zh => ?_)
  refine z_aloadnR zh dX5_lastOfChain_0 rfl ?_
  refine y_getI zh fl_Notices_161 dX5_lastOfChain_1 (ck_H hh) rfl rfl (fun x1 ex1 => ?_)
  have hx1 : Ra 0 12 x1 := ra_of ex1 (si_H hG hh 0 (by decide) rfl)
  refine z_istoren zh dX5_lastOfChain_4 (by decide) (L' := [some (rf g h), some (.int x1)]) rfl ?_
  refine z_iloadn zh dX5_lastOfChain_5 rfl ?_
  refine z_iconst zh dX5_lastOfChain_6 ki_1 ?_
  refine z_icmp_lt (tgt := 19) zh dX5_lastOfChain_7 rfl (fun q2 => ?_) (fun q2 => ?_)
  · have r3 : Ra 0 0 x1 := rb_lt_l rl_1 hx1 q2 (by decide)
    refine z_iconst zh dX5_lastOfChain_19 ki_m1 ?_
    refine z_goto (tgt := 39) zh dX5_lastOfChain_20 rfl ?_
    exact z_iret zh dX5_lastOfChain_39 ⟨_, rfl, rfl, rfl, (ra_w rl_n1 (by decide) (by decide))⟩
  · have r4 : Ra 1 12 x1 := rb_le_r rl_1 hx1 (rb_nlt q2) (by decide)
    refine z_iloadn zh dX5_lastOfChain_10 rfl ?_
    refine z_aloadnR zh dX5_lastOfChain_11 rfl ?_
    refine z_getf zh fl_Notices_164 dX5_lastOfChain_12 (ck_H hh) rfl rfl ?_
    refine z_alenI zh (ck_chain hh) dX5_lastOfChain_15 ?_
    refine z_icmp_le (tgt := 23) zh dX5_lastOfChain_16 rfl (fun q5 => ?_) (fun q5 => ?_)
    · refine z_aloadnR zh dX5_lastOfChain_23 rfl ?_
      refine z_getf zh fl_Notices_106 dX5_lastOfChain_24 (ck_H hh) rfl rfl ?_
      refine z_iconst zh dX5_lastOfChain_27 ki_1 ?_
      refine z_aloadnR zh dX5_lastOfChain_28 rfl ?_
      refine z_getf zh fl_Notices_164 dX5_lastOfChain_29 (ck_H hh) rfl rfl ?_
      refine z_iloadn zh dX5_lastOfChain_32 rfl ?_
      refine z_iconst zh dX5_lastOfChain_33 ki_1 ?_
      refine y_isub zh dX5_lastOfChain_34 r4 rl_1 (u := 0) (v := 11) rfl rfl (by decide) (by decide) (fun x6 hc6 hx6 => ?_)
      refine y_iald zh (ck_chain hh) dX5_lastOfChain_35 hx6 (by decide) (by decide) (fun x7 ex7 => ?_)
      obtain ⟨x8, ex8⟩ : ∃ z, iv (h + 7) 2 = z := ⟨_, rfl⟩
      have hx8 : Ra 0 200 x8 := ra_of ex8 (si_T hG (isT_d hh))
      refine z_callVI zh mv_Notices_25 dX5_lastOfChain_36 (ck_T (isT_d hh)) rfl (s_X7_get g (isT_d hh) ex8 hx8) ⟨Nat.le_of_ble_eq_true rfl, Nat.le_of_ble_eq_true rfl⟩ rfl rfl (Nat.le_of_ble_eq_true rfl) ?_
      rintro x9 _ _ ⟨rfl, rfl, gx9⟩
      have hx9 : Ra (-1) 11 x9 := get_any gx9 1 rfl (by decide) (by decide) (fun j => si_H hG hh 10 (by decide) rfl)
      exact z_iret zh dX5_lastOfChain_39 ⟨_, rfl, rfl, rfl, hx9⟩
    · exact (ra_no (rb_lt_l r4 rl_12 (rb_nle q5) (u := 11) (by decide)) (by decide)).elim
