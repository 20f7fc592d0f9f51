/-! NIGHTS: how many there were, and the DAY -/
def NgOk (d k : Int32) : Prop := Rg (nI 1) (nI 20) k ∧ d.toInt < 99
def NgP (d k r e : Int32) : Prop := (NgOk d k → e.toInt = d.toInt + r.toInt ∧ (r.toInt = k.toInt ∧ e.toInt ≤ 99 ∨ r.toInt ≤ k.toInt ∧ e.toInt = 99)) ∧ (¬ NgOk d k → r = -1 ∧ e = d)
theorem ng_no {d k e : Int32} (h : ¬ NgOk d k) (q : e = d) : NgP d k (-1) e := ⟨fun w => absurd w h, fun _ => ⟨rfl, q⟩⟩
theorem ng_yes {d k r e : Int32} (h : NgOk d k) (q : e.toInt = d.toInt + r.toInt) (w : r.toInt = k.toInt ∧ e.toInt ≤ 99 ∨ r.toInt ≤ k.toInt ∧ e.toInt = 99) : NgP d k r e := ⟨fun _ => ⟨q, w⟩, fun z => absurd h z⟩
theorem ng_eq {d k r e r' e' : Int32} (h : NgP d k r e) (h' : NgP d k r' e') : r = r' ∧ e = e' := by
  by_cases w : NgOk d k
  · have h1 := h.1 w; have h2 := h'.1 w
    exact ⟨Int32.toInt_inj.mp (by omega), Int32.toInt_inj.mp (by omega)⟩
  · exact ⟨(h.2 w).1.trans (h'.2 w).1.symm, (h.2 w).2.trans (h'.2 w).2.symm⟩
theorem sk_d {sp : Nat → Nat → Bool} (hq : Sk sp) {k j : Nat} (h : sp k j = true) (hc : spc k j = true) : spd k j = true := by
  unfold spd
  rw [hc]
  cases q : (k == 551 && j == 14) with
  | false =>
    cases w : (k == 560) with
    | false => rfl
    | true =>
      have e1 := eq_of_beq w
      subst e1
      exact absurd (hq _ _ h) (by unfold sK; rw [if_neg (by decide), if_neg (by decide), if_neg (by decide), if_neg (by decide), if_neg (by decide), if_neg (by decide)]; unfold kY; rw [if_neg (by decide), if_neg (by decide), if_neg (by decide), if_neg (by decide), if_neg (by decide), if_neg (by decide)]; decide)
  | true =>
    have e := Bool.and_eq_true_iff.mp q
    have e1 := eq_of_beq e.1
    have e2 := eq_of_beq e.2
    subst e1 e2
    exact absurd (hq _ _ h) (by decide)
theorem si_backk {sp : Nat → Nat → Bool} {σ iv i0 : Iv} (hq : Sk sp) (hG : SI sp σ i0) (h : SI spd i0 iv) : SI sp σ iv := ⟨hG.1, fun k j q => (h.2.1 k j (sk_d hq q (hG.1 k j q))).trans (hG.2.1 k j q), h.2.2⟩
theorem n1I : (nI 1).toInt = 1 := by decide
set_option maxRecDepth 20000 in
theorem e_X4_pass (g : GE) {sp : Nat → Nat → Bool} {σ : Iv} {iv : Iv} {lv : Lv} {h : Nat} {a1 : Int32} (hh : isH h) {d : Int32} (hG : SI sp σ iv) (hY : sp h 11 = false) (ed : iv h 11 = d) : ConI g yX4_pass cX4_pass 5 (some .int) 6 [rf g h, .int a1] iv lv (fun r iv lv => SI sp σ iv ∧ Ra (-1) 20 r ∧ NgP d a1 r (iv h 11)) := by
  refine con_intro (own := "RollingNets$Night") (by decide +kernel) rfl (Nat.le_of_ble_eq_true rfl) (L0 := [some (rf g h), some (.int a1), none, none, none]) rfl (fun Z zh => ?_)
  refine z_iloadn zh dX4_pass_0 rfl ?_
  refine z_iconst zh dX4_pass_1 ki_1 ?_
  refine z_bipush zh dX4_pass_2 kb_20 ?_
  refine z_callSI zh ms_Night_9 dX4_pass_4 (t_X8_within g) ⟨Nat.le_of_ble_eq_true rfl, Nat.le_of_ble_eq_true rfl⟩ rfl rfl (Nat.le_of_ble_eq_true rfl) ?_
  rintro x1 _ _ ⟨rfl, rfl, hx1, hz2, hw1⟩
  refine z_if_eq (tgt := 19) zh dX4_pass_7 rfl (fun q3 => ?_) (fun q3 => ?_)
  · have r4 := rb_eq (u := 0) (v := 0) hx1 ra_z q3 (by decide) (by decide)
    refine z_iconst zh dX4_pass_19 ki_m1 ?_
    exact z_iret zh dX4_pass_20 ⟨_, rfl, hG, (ra_w rl_n1 (by decide) (by decide)), ng_no (fun w => hw1.mp q3 w.1) ed⟩
  · have r5 : Ra 1 1 x1 := rb_ne_lo hx1 ra_z q3 (by decide)
    have r6 : Ra 1 20 a1 := (rb_in rl_1 rl_20 (hz2 q3))
    refine z_aloadnR zh dX4_pass_10 rfl ?_
    refine y_getI zh fl_Night_13 dX4_pass_11 (ck_H hh) rfl rfl (fun x7 ex7 => ?_)
    have hd7 : x7 = d := ex7.symm.trans ed
    have hx7 : Ra 0 99 x7 := ra_of ex7 (si_H hG hh 0 (by decide) rfl)
    refine z_bipush zh dX4_pass_14 kb_99 ?_
    refine z_icmp_lt (tgt := 21) zh dX4_pass_16 rfl (fun q8 => ?_) (fun q8 => ?_)
    · have r9 : Ra 0 98 x7 := rb_lt_l rl_99 hx7 q8 (by decide)
      refine z_iconst zh dX4_pass_21 ki_0 ?_
      refine z_istoren zh dX4_pass_22 (by decide) (L' := [some (rf g h), some (.int a1), some (.int (nI 0)), none, none]) rfl ?_
      have hok : NgOk d a1 := ⟨byc (mt hw1.mpr q3), by rw [← hd7]; have := r9.2; omega⟩
      have J23 : ∀ (n : Nat) (iv : Iv) (lv : Lv) (x10 : Int32), SI sp σ iv → Ra 0 20 x10 → x10.toInt ≤ a1.toInt → (iv h 11).toInt = d.toInt + x10.toInt → 20 - x10.toInt < (n : Int) → Z 23 [some (rf g h), some (.int a1), some (.int x10), none, none] [] iv lv := by
        intro n
        induction n with
        | zero => intro iv lv x10 hG hx10 hle hdy hn23; exact (ms_uz hx10 hn23).elim
        | succ n ih23 =>
          intro iv lv x10 hG hx10 hle hdy hn23
          refine z_iloadn zh dX4_pass_23 rfl ?_
          refine z_iloadn zh dX4_pass_24 rfl ?_
          refine z_icmp_ge (tgt := 116) zh dX4_pass_25 rfl (fun q11 => ?_) (fun q11 => ?_)
          · have r12 : Ra 1 20 x10 := rb_le_r r6 hx10 q11 (by decide)
            refine z_iloadn zh dX4_pass_116 rfl ?_
            exact z_iret zh dX4_pass_117 ⟨_, rfl, hG, (ra_w r12 (by decide) (by decide)), ng_yes hok hdy (Or.inl ⟨by have := leI.mp q11; omega, by have := (si_H hG hh 0 (by decide) (j := 11) rfl).2; omega⟩)⟩
          · have r13 : Ra 0 19 x10 := rb_lt_l r6 hx10 (rb_nle q11) (by decide)
            refine z_aloadnR zh dX4_pass_28 rfl ?_
            refine y_getI zh fl_Night_13 dX4_pass_29 (ck_H hh) rfl rfl (fun x14 ex14 => ?_)
            have hx14 : Ra 0 99 x14 := ra_of ex14 (si_H hG hh 0 (by decide) rfl)
            refine z_bipush zh dX4_pass_32 kb_99 ?_
            refine z_icmp_ge (tgt := 116) zh dX4_pass_34 rfl (fun q15 => ?_) (fun q15 => ?_)
            · have r16 : Ra 99 99 x14 := rb_le_r rl_99 hx14 q15 (by decide)
              refine z_iloadn zh dX4_pass_116 rfl ?_
              exact z_iret zh dX4_pass_117 ⟨_, rfl, hG, (ra_w r13 (by decide) (by decide)), ng_yes hok hdy (Or.inr ⟨hle, by rw [ex14]; have := r16.1; have := r16.2; omega⟩)⟩
            · have r17 : Ra 0 98 x14 := rb_lt_l rl_99 hx14 (rb_nle q15) (by decide)
              obtain ⟨iw18, eiw18⟩ : ∃ z, z = iv := ⟨_, rfl⟩
              have hS : SI sp σ iw18 := by rw [eiw18]; exact hG
              have hG : SI spc iw18 iv := by rw [eiw18]; exact si_full hG
              have es19 := (si_s hG ((spc_H hh (r := 0) (by decide)).trans rfl)).symm.trans ex14
              refine z_iconst zh dX4_pass_37 ki_0 ?_
              refine z_istoren zh dX4_pass_38 (by decide) (L' := [some (rf g h), some (.int a1), some (.int x10), some (.int (nI 0)), none]) rfl ?_
              have J39 : ∀ (n : Nat) (iv : Iv) (lv : Lv) (x20 : Int32), SI spc iw18 iv → Ra 0 6 x20 → 6 - x20.toInt < (n : Int) → Z 39 [some (rf g h), some (.int a1), some (.int x10), some (.int x20), none] [] iv lv := by
                intro n
                induction n with
                | zero => intro iv lv x20 hG hx20 hn39; exact (ms_uz hx20 hn39).elim
                | succ n ih39 =>
                  intro iv lv x20 hG hx20 hn39
                  refine z_iloadn zh dX4_pass_39 rfl ?_
                  refine z_bipush zh dX4_pass_40 kb_6 ?_
                  refine z_icmp_ge (tgt := 100) zh dX4_pass_42 rfl (fun q21 => ?_) (fun q21 => ?_)
                  · have r22 : Ra 6 6 x20 := rb_le_r rl_6 hx20 q21 (by decide)
                    refine z_aloadnR zh dX4_pass_100 rfl ?_
                    refine z_dup zh dX4_pass_101 rfl ?_
                    refine z_getI (x := x14) zh fl_Night_13 dX4_pass_102 (ck_H hh) rfl rfl ((si_s hG ((spc_H hh (r := 0) (by decide)).trans rfl)).trans es19) ?_
                    refine z_iconst zh dX4_pass_105 ki_1 ?_
                    refine y_iadd zh dX4_pass_106 r17 rl_1 (u := 1) (v := 99) rfl rfl (by decide) (by decide) (fun x23 hc23 hx23 => ?_)
                    have em24 : iv h 11 = x14 := ((si_s hG ((spc_H hh (r := 0) (by decide)).trans rfl)).trans es19)
                    have hG := si_back hS hG
                    refine z_putI zh fl_Night_13 dX4_pass_107 (ck_H hh) rfl rfl (Nat.le_of_ble_eq_true rfl) (Or.inl rfl) ?_
                    have hG : SI sp σ (upI iv h 11 x23) := si_wHk hG hh 0 (by decide) hY (rx_some (ra_w hx23 (by decide) (by decide)))
                    have em25 : upI iv h 11 x23 h 11 = x23 := by rw [upI_at, if_pos ⟨rfl, rfl⟩]
                    generalize upI iv h 11 x23 = iv at hG em25 ⊢
                    refine y_iinc (L' := fun z => [some (rf g h), some (.int a1), some (.int z), some (.int x20), none]) zh dX4_pass_110 (by decide) rfl (by decide +kernel) r13 (u := 1) (v := 20) rfl rfl (by decide) (by decide) (fun _ => rfl) (fun x26 hc26 hx26 => ?_)
                    refine z_goto (tgt := 23) zh dX4_pass_113 rfl ?_
                    refine z_forget zh [true, true, true, false, false] (L2 := [some (rf g h), some (.int a1), some (.int x26), none, none]) rfl ?_
                    have ha9 := mt leI.mpr q11
                    have n1 := n1I
                    rw [ex14] at hdy
                    exact ih23 iv lv x26 hG (ra_w hx26 (by decide) (by decide)) (by omega) (by rw [em25]; omega) (ms_up hc26 (by decide) hn23)
                  · have r27 : Ra 0 5 x20 := rb_lt_l rl_6 hx20 (rb_nle q21) (by decide)
                    refine z_aloadnR zh dX4_pass_45 rfl ?_
                    refine z_iloadn zh dX4_pass_46 rfl ?_
                    refine z_callSV zh ms_Night_19 dX4_pass_47 (s_X4_netDue g hh r27 hG) ⟨Nat.le_of_ble_eq_true rfl, Nat.le_of_ble_eq_true rfl⟩ rfl rfl (Nat.le_of_ble_eq_true rfl) ?_
                    rintro iv lv hG
                    refine z_aloadnR zh dX4_pass_50 rfl ?_
                    refine z_iloadn zh dX4_pass_51 rfl ?_
                    refine z_callSI zh ms_Night_25 dX4_pass_52 (s_X4_deliverAll g hh r27 hG) ⟨Nat.le_of_ble_eq_true rfl, Nat.le_of_ble_eq_true rfl⟩ rfl rfl (Nat.le_of_ble_eq_true rfl) ?_
                    rintro x28 iv lv ⟨hG, _⟩
                    refine z_istore zh dX4_pass_55 (by decide) (L' := [some (rf g h), some (.int a1), some (.int x10), some (.int x20), some (.int x28)]) rfl ?_
                    refine z_aloadnR zh dX4_pass_57 rfl ?_
                    refine z_iloadn zh dX4_pass_58 rfl ?_
                    refine z_iload zh dX4_pass_59 rfl ?_
                    refine z_callSV zh ms_Night_29 dX4_pass_61 (s_X4_allot g hh r27 hG) ⟨Nat.le_of_ble_eq_true rfl, Nat.le_of_ble_eq_true rfl⟩ rfl rfl (Nat.le_of_ble_eq_true rfl) ?_
                    rintro iv lv hG
                    refine z_aloadnR zh dX4_pass_64 rfl ?_
                    refine z_iloadn zh dX4_pass_65 rfl ?_
                    refine z_callSV zh ms_Night_33 dX4_pass_66 (s_X4_lendToAged g hh r27 hG) ⟨Nat.le_of_ble_eq_true rfl, Nat.le_of_ble_eq_true rfl⟩ rfl rfl (Nat.le_of_ble_eq_true rfl) ?_
                    rintro iv lv hG
                    refine z_aloadnR zh dX4_pass_69 rfl ?_
                    refine z_iloadn zh dX4_pass_70 rfl ?_
                    refine z_callSV zh ms_Night_36 dX4_pass_71 (s_X4_passApart g hh r27 hG) ⟨Nat.le_of_ble_eq_true rfl, Nat.le_of_ble_eq_true rfl⟩ rfl rfl (Nat.le_of_ble_eq_true rfl) ?_
                    rintro iv lv hG
                    refine z_aloadnR zh dX4_pass_74 rfl ?_
                    refine z_iloadn zh dX4_pass_75 rfl ?_
                    refine z_callSV zh ms_Night_39 dX4_pass_76 (s_X5_closeDue g hh r27 hG) ⟨Nat.le_of_ble_eq_true rfl, Nat.le_of_ble_eq_true rfl⟩ rfl rfl (Nat.le_of_ble_eq_true rfl) ?_
                    rintro iv lv hG
                    refine z_aloadnR zh dX4_pass_79 rfl ?_
                    refine z_iloadn zh dX4_pass_80 rfl ?_
                    refine z_callSV zh ms_Night_44 dX4_pass_81 (s_X4_mark g hh r27 hG) ⟨Nat.le_of_ble_eq_true rfl, Nat.le_of_ble_eq_true rfl⟩ rfl rfl (Nat.le_of_ble_eq_true rfl) ?_
                    rintro iv lv hG
                    refine z_aloadnR zh dX4_pass_84 rfl ?_
                    refine z_iloadn zh dX4_pass_85 rfl ?_
                    refine z_callSV zh ms_Night_47 dX4_pass_86 (s_X4_payOut g hh r27 hG) ⟨Nat.le_of_ble_eq_true rfl, Nat.le_of_ble_eq_true rfl⟩ rfl rfl (Nat.le_of_ble_eq_true rfl) ?_
                    rintro iv lv hG
                    refine z_aloadnR zh dX4_pass_89 rfl ?_
                    refine z_iloadn zh dX4_pass_90 rfl ?_
                    refine z_callSV zh ms_Night_50 dX4_pass_91 (s_X4_countFails g hh r27 hG) ⟨Nat.le_of_ble_eq_true rfl, Nat.le_of_ble_eq_true rfl⟩ rfl rfl (Nat.le_of_ble_eq_true rfl) ?_
                    rintro iv lv hG
                    refine y_iinc (L' := fun z => [some (rf g h), some (.int a1), some (.int x10), some (.int z), some (.int x28)]) zh dX4_pass_94 (by decide) rfl (by decide +kernel) r27 (u := 1) (v := 6) rfl rfl (by decide) (by decide) (fun _ => rfl) (fun x29 hc29 hx29 => ?_)
                    refine z_goto (tgt := 39) zh dX4_pass_97 rfl ?_
                    refine z_forget zh [true, true, true, true, false] (L2 := [some (rf g h), some (.int a1), some (.int x10), some (.int x29), none]) rfl ?_
                    exact ih39 iv lv x29 hG (ra_w hx29 (by decide) (by decide)) (ms_up hc29 (by decide) hn39)
              exact J39 7 iv lv (nI 0) hG (ra_w rl_0 (by decide) (by decide)) (ms_u0 rl_0 (by decide))
      have n0 : (nI 0).toInt = 0 := by decide
      exact J23 21 iv lv (nI 0) hG (ra_w rl_0 (by decide) (by decide)) (by have := r6.1; omega) (by rw [ed, n0, Int.add_zero]) (ms_u0 rl_0 (by decide))
    · have r30 : Ra 99 99 x7 := rb_le_r rl_99 hx7 (rb_nlt q8) (by decide)
      refine z_iconst zh dX4_pass_19 ki_m1 ?_
      exact z_iret zh dX4_pass_20 ⟨_, rfl, hG, (ra_w rl_n1 (by decide) (by decide)), ng_no (fun w => absurd w.2 (by rw [← hd7]; have := r30.1; omega)) ed⟩
set_option maxRecDepth 20000 in
theorem e_X8_night (g : GE) {sp : Nat → Nat → Bool} {σ : Iv} {iv : Iv} {lv : Lv} {a1 : Int32}  {d : Int32} (hG : SI sp σ iv) (hY : sp 1 11 = false) (ed : iv 1 11 = d) : ConI g yX8_night cX8_night 2 (some .int) 7 [rf g 0, .int a1] iv lv (fun r iv lv => SI sp σ iv ∧ Ra (-1) 20 r ∧ NgP d a1 r (iv 1 11)) := by
  refine con_intro (own := "RollingNets") (by decide +kernel) rfl (Nat.le_of_ble_eq_true rfl) (L0 := [some (rf g 0), some (.int a1)]) rfl (fun Z zh => ?_)
  refine z_aloadnR zh dX8_night_0 rfl ?_
  refine z_getf zh fl_RollingNets_12 dX8_night_1 ck_X rfl rfl ?_
  refine z_iloadn zh dX8_night_4 rfl ?_
  refine z_callSI zh ms_RollingNets_123 dX8_night_5 (e_X4_pass g isH_1 hG hY ed) ⟨Nat.le_of_ble_eq_true rfl, Nat.le_of_ble_eq_true rfl⟩ rfl rfl (Nat.le_of_ble_eq_true rfl) ?_
  rintro x1 iv lv ⟨hG, hx1, hp⟩
  exact z_iret zh dX8_night_8 ⟨_, rfl, hG, hx1, hp⟩
set_option maxRecDepth 20000 in
theorem e_X9_goesNight (g : GE) {sp : Nat → Nat → Bool} {σ : Iv} {iv : Iv} {lv : Lv}   (hG : SI sp σ iv) (hq : Sk sp) (hY : sp 552 6 = false) (hN : Ra 0 98 (iv 552 6)) : ConV g yX9_goesNight cX9_goesNight 3 none 10 [rf g 551] iv lv (fun iv' lv' => SI sp σ iv' ∧ (iv' 552 6).toInt = (iv 552 6).toInt + 1) := by
  refine con_intro (own := "RollingNetsModel") (by decide +kernel) rfl (Nat.le_of_ble_eq_true rfl) (L0 := [some (rf g 551), none, none]) rfl (fun Z zh => ?_)
  obtain ⟨y1, ey1⟩ : ∃ z, iv 552 6 = z := ⟨_, rfl⟩
  have hy1 : Ra 0 98 y1 := ra_of ey1 hN
  have hj9 : (iv 552 6).toInt = y1.toInt := by rw [ey1]
  obtain ⟨iw1, eiw1⟩ : ∃ z, z = iv := ⟨_, rfl⟩
  have hS : SI sp σ iw1 := by rw [eiw1]; exact hG
  have hG : SI spd iw1 iv := by rw [eiw1]; exact si_fulld hG
  have es2 := (si_s hG (spd_N (spc_N.trans rfl))).symm.trans ey1
  refine z_iconst zh dX9_goesNight_0 ki_0 ?_
  refine z_istoren zh dX9_goesNight_1 (by decide) (L' := [some (rf g 551), some (.int (nI 0)), none]) rfl ?_
  have J2 : ∀ (n : Nat) (iv : Iv) (lv : Lv) (x3 : Int32), SI spd iw1 iv → Ra 0 6 x3 → 6 - x3.toInt < (n : Int) → Z 2 [some (rf g 551), some (.int x3), none] [] iv lv := by
    intro n
    induction n with
    | zero => intro iv lv x3 hG hx3 hn2; exact (ms_uz hx3 hn2).elim
    | succ n ih2 =>
      intro iv lv x3 hG hx3 hn2
      refine z_iloadn zh dX9_goesNight_2 rfl ?_
      refine z_bipush zh dX9_goesNight_3 kb_6 ?_
      refine z_icmp_ge (tgt := 104) zh dX9_goesNight_5 rfl (fun q4 => ?_) (fun q4 => ?_)
      · have r5 : Ra 6 6 x3 := rb_le_r rl_6 hx3 q4 (by decide)
        refine z_aloadnR zh dX9_goesNight_104 rfl ?_
        refine z_getf zh fl_Y_7 dX9_goesNight_105 ck_Y rfl rfl ?_
        refine z_bipush zh dX9_goesNight_108 kb_6 ?_
        refine z_aloadnR zh dX9_goesNight_110 rfl ?_
        refine z_getf zh fl_Y_7 dX9_goesNight_111 ck_Y rfl rfl ?_
        refine z_bipush zh dX9_goesNight_114 kb_6 ?_
        refine z_ialdE (x := y1) zh ck_now dX9_goesNight_116 (by decide) ((si_s hG (spd_N (spc_N.trans rfl))).trans es2) ?_
        refine z_iconst zh dX9_goesNight_117 ki_1 ?_
        refine y_iadd zh dX9_goesNight_118 hy1 rl_1 (u := 1) (v := 99) rfl rfl (by decide) (by decide) (fun x6 hc6 hx6 => ?_)
        refine z_iastN (j := 6) zh ck_now dX9_goesNight_119 (by decide) ?_
        have em7 : iv 552 6 = y1 := ((si_s hG (spd_N (spc_N.trans rfl))).trans es2)
        have hG := si_backk hq hS hG
        have hG : SI sp σ (upI iv 552 6 x6) := (nw_day hG hY em7 (by rw [hc6]; have := rl_1.1; omega) (ra_w hx6 (by decide) (by decide)))
        have em8 : upI iv 552 6 x6 552 6 = x6 := by rw [upI_at, if_pos ⟨rfl, rfl⟩]
        generalize upI iv 552 6 x6 = iv at hG em8 ⊢
        exact z_vret zh dX9_goesNight_120 ⟨rfl, hG, by rw [em8, hj9]; have := n1I; omega⟩
      · have r9 : Ra 0 5 x3 := rb_lt_l rl_6 hx3 (rb_nle q4) (by decide)
        refine z_aloadnR zh dX9_goesNight_8 rfl ?_
        refine z_iloadn zh dX9_goesNight_9 rfl ?_
        refine z_callVV zh mv_Y_282 dX9_goesNight_10 ck_Y rfl (s_X9_nets g r9 hG) ⟨Nat.le_of_ble_eq_true rfl, Nat.le_of_ble_eq_true rfl⟩ rfl rfl (Nat.le_of_ble_eq_true rfl) ?_
        rintro iv lv hG
        refine z_aloadnR zh dX9_goesNight_13 rfl ?_
        refine z_iloadn zh dX9_goesNight_14 rfl ?_
        refine z_callVV zh mv_Y_285 dX9_goesNight_15 ck_Y rfl (s_X9_delivers g r9 hG rfl (fun _ => rfl)) ⟨Nat.le_of_ble_eq_true rfl, Nat.le_of_ble_eq_true rfl⟩ rfl rfl (Nat.le_of_ble_eq_true rfl) ?_
        rintro iv lv hG
        refine z_aloadnR zh dX9_goesNight_18 rfl ?_
        refine z_iloadn zh dX9_goesNight_19 rfl ?_
        refine z_callVV zh mv_Y_288 dX9_goesNight_20 ck_Y rfl (s_X9_allots g r9 hG rfl) ⟨Nat.le_of_ble_eq_true rfl, Nat.le_of_ble_eq_true rfl⟩ rfl rfl (Nat.le_of_ble_eq_true rfl) ?_
        rintro iv lv hG
        refine z_aloadnR zh dX9_goesNight_23 rfl ?_
        refine z_iloadn zh dX9_goesNight_24 rfl ?_
        refine z_callVV zh mv_Y_291 dX9_goesNight_25 ck_Y rfl (s_X9_lends g r9 hG) ⟨Nat.le_of_ble_eq_true rfl, Nat.le_of_ble_eq_true rfl⟩ rfl rfl (Nat.le_of_ble_eq_true rfl) ?_
        rintro iv lv hG
        refine z_aloadnR zh dX9_goesNight_28 rfl ?_
        refine z_iloadn zh dX9_goesNight_29 rfl ?_
        refine z_callVV zh mv_Y_294 dX9_goesNight_30 ck_Y rfl (s_X9_doesApart g r9 hG) ⟨Nat.le_of_ble_eq_true rfl, Nat.le_of_ble_eq_true rfl⟩ rfl rfl (Nat.le_of_ble_eq_true rfl) ?_
        rintro iv lv hG
        refine z_iconst zh dX9_goesNight_33 ki_0 ?_
        refine z_istoren zh dX9_goesNight_34 (by decide) (L' := [some (rf g 551), some (.int x3), some (.int (nI 0))]) rfl ?_
        have J35 : ∀ (n : Nat) (iv : Iv) (lv : Lv) (x10 : Int32), SI spd iw1 iv → Ra 0 60 x10 → 60 - x10.toInt < (n : Int) → Z 35 [some (rf g 551), some (.int x3), some (.int x10)] [] iv lv := by
          intro n
          induction n with
          | zero => intro iv lv x10 hG hx10 hn35; exact (ms_uz hx10 hn35).elim
          | succ n ih35 =>
            intro iv lv x10 hG hx10 hn35
            refine z_iloadn zh dX9_goesNight_35 rfl ?_
            refine z_aloadnR zh dX9_goesNight_36 rfl ?_
            refine z_getf zh fl_Y_7 dX9_goesNight_37 ck_Y rfl rfl ?_
            refine z_bipush zh dX9_goesNight_40 kb_8 ?_
            refine y_ialdN zh ck_now dX9_goesNight_42 (by decide) (fun x11 ex11 => ?_)
            have hx11 : Ra 0 60 x11 := ra_of ex11 (nr_l hG 8 rfl)
            have es12 := (si_s hG (spd_N (spc_N.trans rfl))).symm.trans ex11
            refine z_icmp_ge (tgt := 93) zh dX9_goesNight_43 rfl (fun q13 => ?_) (fun q13 => ?_)
            · refine z_aloadnR zh dX9_goesNight_93 rfl ?_
              refine z_iloadn zh dX9_goesNight_94 rfl ?_
              refine z_callVV zh mv_Y_300 dX9_goesNight_95 ck_Y rfl (s_X9_marks g r9 hG) ⟨Nat.le_of_ble_eq_true rfl, Nat.le_of_ble_eq_true rfl⟩ rfl rfl (Nat.le_of_ble_eq_true rfl) ?_
              rintro iv lv hG
              refine y_iinc (L' := fun z => [some (rf g 551), some (.int z), some (.int x10)]) zh dX9_goesNight_98 (by decide) rfl (by decide +kernel) r9 (u := 1) (v := 6) rfl rfl (by decide) (by decide) (fun _ => rfl) (fun x14 hc14 hx14 => ?_)
              refine z_goto (tgt := 2) zh dX9_goesNight_101 rfl ?_
              refine z_forget zh [true, true, false] (L2 := [some (rf g 551), some (.int x14), none]) rfl ?_
              exact ih2 iv lv x14 hG (ra_w hx14 (by decide) (by decide)) (ms_up hc14 (by decide) hn2)
            · have r15 : Ra 0 59 x10 := rb_lt_l hx11 hx10 (rb_nle q13) (by decide)
              have r16 : Ra 1 60 x11 := rb_lt_r hx10 hx11 (rb_nle q13) (by decide)
              refine z_aloadnR zh dX9_goesNight_46 rfl ?_
              refine z_iloadn zh dX9_goesNight_47 rfl ?_
              refine z_iconst zh dX9_goesNight_48 ki_4 ?_
              refine z_callVI zh mv_Y_157 dX9_goesNight_49 ck_Y rfl (s_X9_noticeOf g r15 (ra_w rl_4 (by decide) (by decide)) hG) ⟨Nat.le_of_ble_eq_true rfl, Nat.le_of_ble_eq_true rfl⟩ rfl rfl (Nat.le_of_ble_eq_true rfl) ?_
              rintro x17 _ _ ⟨rfl, rfl, z18, ez18, ex17⟩
              refine z_iconst zh dX9_goesNight_52 ki_1 ?_
              have J87 : ∀ (iv : Iv) (lv : Lv), SI spd iw1 iv → Z 87 [some (rf g 551), some (.int x3), some (.int x10)] [] iv lv := by
                intro iv lv hG
                refine y_iinc (L' := fun z => [some (rf g 551), some (.int x3), some (.int z)]) zh dX9_goesNight_87 (by decide) rfl (by decide +kernel) r15 (u := 1) (v := 60) rfl rfl (by decide) (by decide) (fun _ => rfl) (fun x19 hc19 hx19 => ?_)
                refine z_goto (tgt := 35) zh dX9_goesNight_90 rfl ?_
                exact ih35 iv lv x19 hG (ra_w hx19 (by decide) (by decide)) (ms_up hc19 (by decide) hn35)
              refine z_icmp_ne (tgt := 87) zh dX9_goesNight_53 rfl (fun q20 => ?_) (fun q20 => ?_)
              · exact J87 iv lv hG
              · have r21 := rb_eq (u := 1) (v := 1) (ra_tt x17) rl_1 q20 (by decide) (by decide)
                refine z_aloadnR zh dX9_goesNight_56 rfl ?_
                refine z_iloadn zh dX9_goesNight_57 rfl ?_
                refine z_iconst zh dX9_goesNight_58 ki_1 ?_
                refine z_callVI zh mv_Y_157 dX9_goesNight_59 ck_Y rfl (s_X9_noticeOf g r15 (ra_w rl_1 (by decide) (by decide)) hG) ⟨Nat.le_of_ble_eq_true rfl, Nat.le_of_ble_eq_true rfl⟩ rfl rfl (Nat.le_of_ble_eq_true rfl) ?_
                rintro x22 _ _ ⟨rfl, rfl, z23, ez23, ex22⟩
                have hx22 : Ra 0 5 x22 := ra_of ex22 (nr_n1 hG x10.toInt (by have := r15.1; have := r15.2; have := rl_1.1; have := rl_1.2; omega) (by have := r15.1; have := r15.2; have := rl_1.1; have := rl_1.2; omega) (by have := r15.1; have := r15.2; have := rl_1.1; have := rl_1.2; omega))
                refine z_iloadn zh dX9_goesNight_62 rfl ?_
                refine z_icmp_ne (tgt := 87) zh dX9_goesNight_63 rfl (fun q24 => ?_) (fun q24 => ?_)
                · exact J87 iv lv hG
                · refine z_aloadnR zh dX9_goesNight_66 rfl ?_
                  refine z_iloadn zh dX9_goesNight_67 rfl ?_
                  refine z_iconst zh dX9_goesNight_68 ki_3 ?_
                  refine z_callVI zh mv_Y_157 dX9_goesNight_69 ck_Y rfl (s_X9_noticeOf g r15 (ra_w rl_3 (by decide) (by decide)) hG) ⟨Nat.le_of_ble_eq_true rfl, Nat.le_of_ble_eq_true rfl⟩ rfl rfl (Nat.le_of_ble_eq_true rfl) ?_
                  rintro x26 _ _ ⟨rfl, rfl, z27, ez27, ex26⟩
                  refine z_aloadnR zh dX9_goesNight_72 rfl ?_
                  refine z_getf zh fl_Y_7 dX9_goesNight_73 ck_Y rfl rfl ?_
                  refine z_bipush zh dX9_goesNight_76 kb_6 ?_
                  refine z_ialdE (x := y1) zh ck_now dX9_goesNight_78 (by decide) ((si_s hG (spd_N (spc_N.trans rfl))).trans es2) ?_
                  refine z_icmp_gt (tgt := 87) zh dX9_goesNight_79 rfl (fun q28 => ?_) (fun q28 => ?_)
                  · have r29 : Ra 1 2147483647 x26 := rb_lt_r hy1 (ra_tt x26) q28 (by decide)
                    exact J87 iv lv hG
                  · have r30 : Ra (-2147483648) 98 x26 := rb_le_l hy1 (ra_tt x26) (rb_nlt q28) (by decide)
                    refine z_aloadnR zh dX9_goesNight_82 rfl ?_
                    refine z_iloadn zh dX9_goesNight_83 rfl ?_
                    refine z_callVV zh mv_Y_297 dX9_goesNight_84 ck_Y rfl (s_X9_closes g r15 hG) ⟨Nat.le_of_ble_eq_true rfl, Nat.le_of_ble_eq_true rfl⟩ rfl rfl (Nat.le_of_ble_eq_true rfl) ?_
                    rintro iv lv hG
                    exact J87 iv lv hG
        exact J35 61 iv lv (nI 0) hG (ra_w rl_0 (by decide) (by decide)) (ms_u0 rl_0 (by decide))
  exact J2 7 iv lv (nI 0) hG (ra_w rl_0 (by decide) (by decide)) (ms_u0 rl_0 (by decide))
set_option maxRecDepth 20000 in
theorem e_X9_night (g : GE) {sp : Nat → Nat → Bool} {σ : Iv} {iv : Iv} {lv : Lv} {a1 : Int32}  {d : Int32} (hG : SI sp σ iv) (hq : Sk sp) (hY : sp 552 6 = false) (ed : iv 552 6 = d) : ConI g yX9_night cX9_night 3 (some .int) 11 [rf g 551, .int a1] iv lv (fun r iv lv => SI sp σ iv ∧ Ra (-1) 20 r ∧ NgP d a1 r (iv 552 6)) := by
  refine con_intro (own := "RollingNetsModel") (by decide +kernel) rfl (Nat.le_of_ble_eq_true rfl) (L0 := [some (rf g 551), some (.int a1), none]) rfl (fun Z zh => ?_)
  refine z_aloadnR zh dX9_night_0 rfl ?_
  refine z_iconst zh dX9_night_1 ki_0 ?_
  refine z_putI zh fl_Y_58 dX9_night_2 ck_Y rfl rfl (Nat.le_of_ble_eq_true rfl) (Or.inl rfl) ?_
  have hG : SI sp σ (upI iv 551 0 (nI 0)) := si_w (k := 551) (j := 0) hG (by decide) (by decide) (sp_no hG ((spc_Y (q := 0)).trans rfl)) (fun lo hi q => (rx_none rfl) lo hi ((rg_Y (q := 0)).symm.trans q))
  have em1 : upI iv 551 0 (nI 0) 551 0 = nI 0 := by rw [upI_at, if_pos ⟨rfl, rfl⟩]
  have ed : upI iv 551 0 (nI 0) 552 6 = d := (upI_ne (Or.inl (by decide))).trans ed
  generalize upI iv 551 0 (nI 0) = iv at hG em1 ed ⊢
  refine z_aloadnR zh dX9_night_5 rfl ?_
  refine z_iloadn zh dX9_night_6 rfl ?_
  refine z_iconst zh dX9_night_7 ki_1 ?_
  refine z_bipush zh dX9_night_8 kb_20 ?_
  refine z_callVI zh mv_Y_79 dX9_night_10 ck_Y rfl (t_X9_isIn g) ⟨Nat.le_of_ble_eq_true rfl, Nat.le_of_ble_eq_true rfl⟩ rfl rfl (Nat.le_of_ble_eq_true rfl) ?_
  rintro x2 _ _ ⟨rfl, rfl, hx2, hz3, hw2⟩
  refine z_if_eq (tgt := 28) zh dX9_night_13 rfl (fun q4 => ?_) (fun q4 => ?_)
  · have r5 := rb_eq (u := 0) (v := 0) hx2 ra_z q4 (by decide) (by decide)
    refine z_iconst zh dX9_night_28 ki_m1 ?_
    exact z_iret zh dX9_night_29 ⟨_, rfl, hG, (ra_w rl_n1 (by decide) (by decide)), ng_no (fun w => hw2.mp q4 w.1) ed⟩
  · have r6 : Ra 1 1 x2 := rb_ne_lo hx2 ra_z q4 (by decide)
    have r7 : Ra 1 20 a1 := (rb_in rl_1 rl_20 (hz3 q4))
    refine z_aloadnR zh dX9_night_16 rfl ?_
    refine z_getf zh fl_Y_7 dX9_night_17 ck_Y rfl rfl ?_
    refine z_bipush zh dX9_night_20 kb_6 ?_
    refine y_ialdN zh ck_now dX9_night_22 (by decide) (fun x8 ex8 => ?_)
    have hd8 : x8 = d := ex8.symm.trans ed
    have hx8 : Ra 0 99 x8 := ra_of ex8 (nr_l hG 6 rfl)
    refine z_bipush zh dX9_night_23 kb_99 ?_
    refine z_icmp_ne (tgt := 30) zh dX9_night_25 rfl (fun q9 => ?_) (fun q9 => ?_)
    · have r10 : Ra 0 98 x8 := rb_ne_hi hx8 rl_99 q9 (by decide)
      refine z_iconst zh dX9_night_30 ki_0 ?_
      refine z_istoren zh dX9_night_31 (by decide) (L' := [some (rf g 551), some (.int a1), some (.int (nI 0))]) rfl ?_
      have hok : NgOk d a1 := ⟨byc (mt hw2.mpr q4), by rw [← hd8]; have := r10.2; omega⟩
      have J32 : ∀ (n : Nat) (iv : Iv) (lv : Lv) (x11 : Int32), SI sp σ iv → Ra 0 20 x11 → x11.toInt ≤ a1.toInt → (iv 552 6).toInt = d.toInt + x11.toInt → 20 - x11.toInt < (n : Int) → Z 32 [some (rf g 551), some (.int a1), some (.int x11)] [] iv lv := by
        intro n
        induction n with
        | zero => intro iv lv x11 hG hx11 hle hdy hn32; exact (ms_uz hx11 hn32).elim
        | succ n ih32 =>
          intro iv lv x11 hG hx11 hle hdy hn32
          refine z_iloadn zh dX9_night_32 rfl ?_
          refine z_iloadn zh dX9_night_33 rfl ?_
          refine z_icmp_ge (tgt := 60) zh dX9_night_34 rfl (fun q12 => ?_) (fun q12 => ?_)
          · have r13 : Ra 1 20 x11 := rb_le_r r7 hx11 q12 (by decide)
            refine z_iloadn zh dX9_night_60 rfl ?_
            exact z_iret zh dX9_night_61 ⟨_, rfl, hG, (ra_w r13 (by decide) (by decide)), ng_yes hok hdy (Or.inl ⟨by have := leI.mp q12; omega, by have := (nr_l hG 6 rfl : Ra 0 99 (iv 552 6)).2; omega⟩)⟩
          · have r14 : Ra 0 19 x11 := rb_lt_l r7 hx11 (rb_nle q12) (by decide)
            refine z_aloadnR zh dX9_night_37 rfl ?_
            refine z_getf zh fl_Y_7 dX9_night_38 ck_Y rfl rfl ?_
            refine z_bipush zh dX9_night_41 kb_6 ?_
            refine y_ialdN zh ck_now dX9_night_43 (by decide) (fun x15 ex15 => ?_)
            have hx15 : Ra 0 99 x15 := ra_of ex15 (nr_l hG 6 rfl)
            refine z_bipush zh dX9_night_44 kb_99 ?_
            refine z_icmp_ge (tgt := 60) zh dX9_night_46 rfl (fun q16 => ?_) (fun q16 => ?_)
            · have r17 : Ra 99 99 x15 := rb_le_r rl_99 hx15 q16 (by decide)
              refine z_iloadn zh dX9_night_60 rfl ?_
              exact z_iret zh dX9_night_61 ⟨_, rfl, hG, (ra_w r14 (by decide) (by decide)), ng_yes hok hdy (Or.inr ⟨hle, by rw [ex15]; have := r17.1; have := r17.2; omega⟩)⟩
            · have r18 : Ra 0 98 x15 := rb_lt_l rl_99 hx15 (rb_nle q16) (by decide)
              refine z_aloadnR zh dX9_night_49 rfl ?_
              refine z_callVV zh mv_Y_303 dX9_night_50 ck_Y rfl (e_X9_goesNight g hG hq hY (by rw [ex15]; exact r18)) ⟨Nat.le_of_ble_eq_true rfl, Nat.le_of_ble_eq_true rfl⟩ rfl rfl (Nat.le_of_ble_eq_true rfl) ?_
              rintro iv lv ⟨hG, hdn⟩
              refine z_iloadn zh dX9_night_53 rfl ?_
              refine z_iconst zh dX9_night_54 ki_1 ?_
              refine y_iadd zh dX9_night_55 r14 rl_1 (u := 1) (v := 20) rfl rfl (by decide) (by decide) (fun x19 hc19 hx19 => ?_)
              refine z_istoren zh dX9_night_56 (by decide) (L' := [some (rf g 551), some (.int a1), some (.int x19)]) rfl ?_
              refine z_goto (tgt := 32) zh dX9_night_57 rfl ?_
              have ha9 := mt leI.mpr q12
              have n1 := n1I
              exact ih32 iv lv x19 hG (ra_w hx19 (by decide) (by decide)) (by omega) (by omega) (ms_up (bs_add hc19 rl_1) (by decide) hn32)
      have n0 : (nI 0).toInt = 0 := by decide
      exact J32 21 iv lv (nI 0) hG (ra_w rl_0 (by decide) (by decide)) (by have := r7.1; omega) (by rw [ed, n0, Int.add_zero]) (ms_u0 rl_0 (by decide))
    · have r20 := rb_eq (u := 99) (v := 99) hx8 rl_99 q9 (by decide) (by decide)
      refine z_iconst zh dX9_night_28 ki_m1 ?_
      exact z_iret zh dX9_night_29 ⟨_, rfl, hG, (ra_w rl_n1 (by decide) (by decide)), ng_no (fun w => absurd w.2 (by rw [← hd8]; have := r20.1.1; omega)) ed⟩
