/-! THE NEXT WHO IS SHORT; GIVING A NOTICE -/
def Beh (d m fd k : Int32) : Prop := d.toInt < fd.toInt ∨ (fd = d ∧ m.toInt < k.toInt)
set_option maxHeartbeats 1000000 in
set_option maxRecDepth 20000 in
theorem e_X9_nextShort (g : GE) {sp : Nat → Nat → Bool} {σ : Iv} {iv : Iv} {lv : Lv} {a1 a2 a3 : Int32} (ha1 : Ra 0 5 a1) (hG : SI sp σ iv) : ConI g yX9_nextShort cX9_nextShort 9 (some .int) 5 [rf g 551, .int a1, .int a2, .int a3] iv lv (fun r iv lv => SI sp σ iv ∧ Ra (-1) 11 r ∧ (¬ r = -1 → Beh a2 a3 (iv 551 5) r)) := by
  refine con_intro (own := "RollingNetsModel") (by decide +kernel) rfl (Nat.le_of_ble_eq_true rfl) (L0 := [some (rf g 551), some (.int a1), some (.int a2), some (.int a3), none, none, none, none, none]) rfl (fun Z zh => ?_)
  refine z_iconst zh dX9_nextShort_0 ki_m1 ?_
  refine z_istore zh dX9_nextShort_1 (by decide) (L' := [some (rf g 551), some (.int a1), some (.int a2), some (.int a3), some (.int (-1)), none, none, none, none]) rfl ?_
  refine z_aloadnR zh dX9_nextShort_3 rfl ?_
  refine z_iconst zh dX9_nextShort_4 ki_0 ?_
  refine z_putI zh fl_Y_163 dX9_nextShort_5 ck_Y rfl rfl (Nat.le_of_ble_eq_true rfl) (Or.inl rfl) ?_
  have hG : SI sp σ (upI iv 551 5 (nI 0)) := si_w (k := 551) (j := 5) hG (by decide) (by decide) (sp_no hG ((spc_Y (q := 0)).trans rfl)) (fun lo hi q => (rx_some (ra_w rl_0 (by decide) (by decide))) lo hi ((rg_Y (q := 0)).symm.trans q))
  have em1 : upI iv 551 5 (nI 0) 551 5 = nI 0 := by rw [upI_at, if_pos ⟨rfl, rfl⟩]
  generalize upI iv 551 5 (nI 0) = iv at hG em1 ⊢
  refine z_iconst zh dX9_nextShort_8 ki_0 ?_
  refine z_istore zh dX9_nextShort_9 (by decide) (L' := [some (rf g 551), some (.int a1), some (.int a2), some (.int a3), some (.int (-1)), some (.int (nI 0)), none, none, none]) rfl ?_
  have J : ∀ (q : Nat) (iv : Iv) (lv : Lv) (x k : Int32), SI sp σ iv → (¬ x = -1 → Ra 0 11 x ∧ Beh a2 a3 (iv 551 5) x) → Ra 0 12 k → 12 - k.toInt < (q : Int) → Z 11 [some (rf g 551), some (.int a1), some (.int a2), some (.int a3), some (.int x), some (.int k), none, none, none] [] iv lv := by
    intro q
    induction q with
    | zero => intro iv lv x k _ _ hk hn; exact (ms_uz hk hn).elim
    | succ q ih =>
      intro iv lv x k hG hB hk hn
      refine z_iload zh dX9_nextShort_11 rfl ?_
      refine z_aloadnR zh dX9_nextShort_13 rfl ?_
      refine z_callVI zh mv_Y_61 dX9_nextShort_14 ck_Y rfl (s_X9_memberMany g  hG) ⟨Nat.le_of_ble_eq_true rfl, Nat.le_of_ble_eq_true rfl⟩ rfl rfl (Nat.le_of_ble_eq_true rfl) ?_
      rintro x2 _ _ ⟨rfl, rfl, hx2⟩
      refine z_icmp_ge (tgt := 132) zh dX9_nextShort_17 rfl (fun q => ?_) (fun q => ?_)
      · refine z_iload zh dX9_nextShort_132 rfl ?_
        have hx9 : Ra (-1) 11 x := by
          by_cases e : x = -1
          · rw [e]; exact ra_w rl_n1 (by decide) (by decide)
          · exact ra_w (hB e).1 (by decide) (by decide)
        exact z_iret zh dX9_nextShort_134 ⟨_, rfl, hG, hx9, fun e => (hB e).2⟩
      · have hk1 : Ra 0 11 k := rb_lt_l hx2 hk (rb_nle q) (by decide)
        have J126 : ∀ (iv : Iv) (lv : Lv) (x : Int32), SI sp σ iv → (¬ x = -1 → Ra 0 11 x ∧ Beh a2 a3 (iv 551 5) x) → Z 126 [some (rf g 551), some (.int a1), some (.int a2), some (.int a3), some (.int x), some (.int k), none, none, none] [] iv lv := by
          intro iv lv x hG hB
          refine y_iinc (L' := fun z => [some (rf g 551), some (.int a1), some (.int a2), some (.int a3), some (.int x), some (.int z), none, none, none]) zh dX9_nextShort_126 (by decide) rfl (by decide +kernel) hk1 (u := 1) (v := 12) rfl rfl (by decide) (by decide) (fun _ => rfl) (fun x3 hc3 hx3 => ?_)
          refine z_goto (tgt := 11) zh dX9_nextShort_129 rfl ?_
          exact ih iv lv x x3 hG hB (ra_w hx3 (by decide) (by decide)) (ms_up hc3 (by decide) hn)
        have J23 : ∀ (q : Nat) (iv : Iv) (lv : Lv) (x n : Int32), SI sp σ iv → (¬ x = -1 → Ra 0 11 x ∧ Beh a2 a3 (iv 551 5) x) → Ra 0 100 n → 100 - n.toInt < (q : Int) → Z 23 [some (rf g 551), some (.int a1), some (.int a2), some (.int a3), some (.int x), some (.int k), some (.int n), none, none] [] iv lv := by
          intro q
          induction q with
          | zero => intro iv lv x n _ _ hn6 hm; exact (ms_uz hn6 hm).elim
          | succ q ih2 =>
            intro iv lv x n hG hB hn6 hm
            have K126 : Z 126 [some (rf g 551), some (.int a1), some (.int a2), some (.int a3), some (.int x), some (.int k), some (.int n), none, none] [] iv lv := z_forget zh [true, true, true, true, true, true, false, false, false] (L2 := [some (rf g 551), some (.int a1), some (.int a2), some (.int a3), some (.int x), some (.int k), none, none, none]) rfl (J126 iv lv x hG hB)
            refine z_iload zh dX9_nextShort_23 rfl ?_
            refine z_aloadnR zh dX9_nextShort_25 rfl ?_
            refine z_iload zh dX9_nextShort_26 rfl ?_
            refine z_iloadn zh dX9_nextShort_28 rfl ?_
            refine z_callVI zh mv_Y_110 dX9_nextShort_29 ck_Y rfl (s_X9_lotMany g hk1 ha1 hG) ⟨Nat.le_of_ble_eq_true rfl, Nat.le_of_ble_eq_true rfl⟩ rfl rfl (Nat.le_of_ble_eq_true rfl) ?_
            rintro x4 _ _ ⟨rfl, rfl, hx4, _⟩
            refine z_icmp_ge (tgt := 126) zh dX9_nextShort_32 rfl (fun _ => K126) (fun q => ?_)
            have hn7 : Ra 0 99 n := rb_lt_l hx4 hn6 (rb_nle q) (by decide)
            refine z_aloadnR zh dX9_nextShort_35 rfl ?_
            refine z_iload zh dX9_nextShort_36 rfl ?_
            refine z_iloadn zh dX9_nextShort_38 rfl ?_
            refine z_callVI zh mv_Y_116 dX9_nextShort_39 ck_Y rfl (s_X9_isShort g hk1 ha1 hG) ⟨Nat.le_of_ble_eq_true rfl, Nat.le_of_ble_eq_true rfl⟩ rfl rfl (Nat.le_of_ble_eq_true rfl) ?_
            rintro x5 _ _ ⟨rfl, rfl, hx5⟩
            refine z_if_eq (tgt := 126) zh dX9_nextShort_42 rfl (fun _ => K126) (fun _ => ?_)
            refine z_aloadnR zh dX9_nextShort_45 rfl ?_
            refine z_iload zh dX9_nextShort_46 rfl ?_
            refine z_iloadn zh dX9_nextShort_48 rfl ?_
            refine z_iload zh dX9_nextShort_49 rfl ?_
            refine z_callVI zh mv_Y_125 dX9_nextShort_51 ck_Y rfl (s_X9_dayOf g hk1 ha1 (ra_w hn7 (by decide) (by decide)) hG) ⟨Nat.le_of_ble_eq_true rfl, Nat.le_of_ble_eq_true rfl⟩ rfl rfl (Nat.le_of_ble_eq_true rfl) ?_
            rintro x6 _ _ ⟨rfl, rfl, hx6, _⟩
            refine z_istore zh dX9_nextShort_54 (by decide) (L' := [some (rf g 551), some (.int a1), some (.int a2), some (.int a3), some (.int x), some (.int k), some (.int n), some (.int x6), none]) rfl ?_
            have J120 : ∀ (iv : Iv) (lv : Lv) (x b : Int32), SI sp σ iv → (¬ x = -1 → Ra 0 11 x ∧ Beh a2 a3 (iv 551 5) x) → Z 120 [some (rf g 551), some (.int a1), some (.int a2), some (.int a3), some (.int x), some (.int k), some (.int n), some (.int x6), some (.int b)] [] iv lv := by
              intro iv lv x b hG hB
              refine y_iinc (L' := fun z => [some (rf g 551), some (.int a1), some (.int a2), some (.int a3), some (.int x), some (.int k), some (.int z), some (.int x6), some (.int b)]) zh dX9_nextShort_120 (by decide) rfl (by decide +kernel) hn7 (u := 1) (v := 100) rfl rfl (by decide) (by decide) (fun _ => rfl) (fun x7 hc7 hx7 => ?_)
              refine z_goto (tgt := 23) zh dX9_nextShort_123 rfl ?_
              refine z_forget zh [true, true, true, true, true, true, true, false, false] (L2 := [some (rf g 551), some (.int a1), some (.int a2), some (.int a3), some (.int x), some (.int k), some (.int x7), none, none]) rfl ?_
              exact ih2 iv lv x x7 hG hB (ra_w hx7 (by decide) (by decide)) (ms_up hc7 (by decide) hm)
            have J78 : Z 78 [some (rf g 551), some (.int a1), some (.int a2), some (.int a3), some (.int x), some (.int k), some (.int n), some (.int x6), none] [] iv lv := by
              refine z_iconst zh dX9_nextShort_78 ki_0 ?_
              refine z_istore zh dX9_nextShort_79 (by decide) (L' := [some (rf g 551), some (.int a1), some (.int a2), some (.int a3), some (.int x), some (.int k), some (.int n), some (.int x6), some (.int (nI 0))]) rfl ?_
              refine z_iload zh dX9_nextShort_81 rfl ?_
              exact z_if_eq (tgt := 120) zh dX9_nextShort_83 rfl (fun _ => J120 iv lv x (nI 0) hG hB) (fun w => absurd rfl w)
            have J104 : Beh a2 a3 x6 k → Z 104 [some (rf g 551), some (.int a1), some (.int a2), some (.int a3), some (.int x), some (.int k), some (.int n), some (.int x6), some (.int (nI 1))] [] iv lv := by
              intro hb
              refine z_iload zh dX9_nextShort_104 rfl ?_
              refine z_istore zh dX9_nextShort_106 (by decide) (L' := [some (rf g 551), some (.int a1), some (.int a2), some (.int a3), some (.int k), some (.int k), some (.int n), some (.int x6), some (.int (nI 1))]) rfl ?_
              refine z_aloadnR zh dX9_nextShort_108 rfl ?_
              refine z_iload zh dX9_nextShort_109 rfl ?_
              refine z_putI zh fl_Y_163 dX9_nextShort_111 ck_Y rfl rfl (Nat.le_of_ble_eq_true rfl) (Or.inl rfl) ?_
              have hG : SI sp σ (upI iv 551 5 x6) := si_w (k := 551) (j := 5) hG (by decide) (by decide) (sp_no hG ((spc_Y (q := 0)).trans rfl)) (fun lo hi q => (rx_some hx6) lo hi ((rg_Y (q := 0)).symm.trans q))
              have em8 : upI iv 551 5 x6 551 5 = x6 := by rw [upI_at, if_pos ⟨rfl, rfl⟩]
              generalize upI iv 551 5 x6 = iv at hG em8 ⊢
              refine z_aloadnR zh dX9_nextShort_114 rfl ?_
              refine z_iload zh dX9_nextShort_115 rfl ?_
              refine z_putI zh fl_Y_166 dX9_nextShort_117 ck_Y rfl rfl (Nat.le_of_ble_eq_true rfl) (Or.inl rfl) ?_
              have hG : SI sp σ (upI iv 551 6 n) := si_w (k := 551) (j := 6) hG (by decide) (by decide) (sp_no hG ((spc_Y (q := 0)).trans rfl)) (fun lo hi q => (rx_some (ra_w hn7 (by decide) (by decide))) lo hi ((rg_Y (q := 0)).symm.trans q))
              have em9 := (upI_ne (iv := iv) (k := 551) (j := 6) (x := n) (a := 551) (b := 5) (Or.inr (by decide))).trans em8
              have em10 : upI iv 551 6 n 551 6 = n := by rw [upI_at, if_pos ⟨rfl, rfl⟩]
              generalize upI iv 551 6 n = iv at hG em9 em10 ⊢
              exact J120 iv lv k (nI 1) hG (fun _ => ⟨hk1, by rw [em9]; exact hb⟩)
            have J74 : Beh a2 a3 x6 k → Z 74 [some (rf g 551), some (.int a1), some (.int a2), some (.int a3), some (.int x), some (.int k), some (.int n), some (.int x6), none] [] iv lv := by
              intro hb
              refine z_iconst zh dX9_nextShort_74 ki_1 ?_
              refine z_goto (tgt := 79) zh dX9_nextShort_75 rfl ?_
              refine z_istore zh dX9_nextShort_79 (by decide) (L' := [some (rf g 551), some (.int a1), some (.int a2), some (.int a3), some (.int x), some (.int k), some (.int n), some (.int x6), some (.int (nI 1))]) rfl ?_
              refine z_iload zh dX9_nextShort_81 rfl ?_
              refine z_if_eq (tgt := 120) zh dX9_nextShort_83 rfl (fun w => absurd w (by decide)) (fun _ => ?_)
              refine z_iload zh dX9_nextShort_86 rfl ?_
              refine z_iconst zh dX9_nextShort_88 ki_m1 ?_
              refine z_icmp_eq (tgt := 104) zh dX9_nextShort_89 rfl (fun _ => J104 hb) (fun _ => ?_)
              refine z_iload zh dX9_nextShort_92 rfl ?_
              refine z_aloadnR zh dX9_nextShort_94 rfl ?_
              refine y_getI zh fl_Y_163 dX9_nextShort_95 ck_Y rfl rfl (fun x11 ex11 => ?_)
              have hx11 : Ra 0 99 x11 := ra_of ex11 (si_Y hG 0 (j := 5) rfl)
              exact z_icmp_lt (tgt := 104) zh dX9_nextShort_98 rfl (fun _ => J104 hb) (fun _ => z_goto (tgt := 120) zh dX9_nextShort_101 rfl (J120 iv lv x (nI 1) hG hB))
            refine z_iload zh dX9_nextShort_56 rfl ?_
            refine z_iloadn zh dX9_nextShort_58 rfl ?_
            refine z_icmp_gt (tgt := 74) zh dX9_nextShort_59 rfl (fun q5 => J74 (Or.inl (ltI.mp q5))) (fun _ => ?_)
            refine z_iload zh dX9_nextShort_62 rfl ?_
            refine z_iloadn zh dX9_nextShort_64 rfl ?_
            refine z_icmp_ne (tgt := 78) zh dX9_nextShort_65 rfl (fun _ => J78) (fun q6 => ?_)
            refine z_iload zh dX9_nextShort_68 rfl ?_
            refine z_iloadn zh dX9_nextShort_70 rfl ?_
            exact z_icmp_le (tgt := 78) zh dX9_nextShort_71 rfl (fun _ => J78) (fun q7 => J74 (Or.inr ⟨q6, ltI.mp (rb_nle q7)⟩))
        refine z_iconst zh dX9_nextShort_20 ki_0 ?_
        refine z_istore zh dX9_nextShort_21 (by decide) (L' := [some (rf g 551), some (.int a1), some (.int a2), some (.int a3), some (.int x), some (.int k), some (.int (nI 0)), none, none]) rfl ?_
        exact J23 101 iv lv x (nI 0) hG hB (ra_w rl_0 (by decide) (by decide)) (ms_u0 rl_0 (by decide))
  exact J 13 iv lv (-1) (nI 0) hG (fun q => absurd rfl q) (ra_w rl_0 (by decide) (by decide)) (ms_u0 rl_0 (by decide))

set_option maxHeartbeats 1000000 in
set_option maxRecDepth 20000 in
theorem s_X9_give (g : GE) {sp : Nat → Nat → Bool} {σ : Iv} {iv : Iv} {lv : Lv} {a1 a2 a3 : Int32} (hG : SI sp σ iv) (hq : Sq sp) : ConI g yX9_give cX9_give 10 (some .int) 6 [rf g 551, .int a1, .int a2, .int a3] iv lv (fun r iv lv => SI sp σ iv ∧ Ra (-1) 59 r) := by
  refine con_intro (own := "RollingNetsModel") (by decide +kernel) rfl (Nat.le_of_ble_eq_true rfl) (L0 := [some (rf g 551), some (.int a1), some (.int a2), some (.int a3), none, none, none, none, none, none]) rfl (fun Z zh => ?_)
  obtain ⟨iw1, eiw1⟩ : ∃ z, z = iv := ⟨_, rfl⟩
  have hS : SI sp σ iw1 := by rw [eiw1]; exact hG
  have hG : SI spc iw1 iv := by rw [eiw1]; exact si_full hG
  refine z_aloadnR zh dX9_give_0 rfl ?_
  refine z_iconst zh dX9_give_1 ki_0 ?_
  refine z_putI zh fl_Y_58 dX9_give_2 ck_Y rfl rfl (Nat.le_of_ble_eq_true rfl) (Or.inl rfl) ?_
  have hG : SI spc iw1 (upI iv 551 0 (nI 0)) := si_w (k := 551) (j := 0) hG (by decide) (by decide) (sp_no hG ((spc_Y (q := 0)).trans rfl)) (fun lo hi q => (rx_none rfl) lo hi ((rg_Y (q := 0)).symm.trans q))
  have em2 : upI iv 551 0 (nI 0) 551 0 = nI 0 := by rw [upI_at, if_pos ⟨rfl, rfl⟩]
  generalize upI iv 551 0 (nI 0) = iv at hG em2 ⊢
  refine z_aloadnR zh dX9_give_5 rfl ?_
  refine z_iloadn zh dX9_give_6 rfl ?_
  refine z_callVI zh mv_Y_90 dX9_give_7 ck_Y rfl (s_X9_isMember g  hG) ⟨Nat.le_of_ble_eq_true rfl, Nat.le_of_ble_eq_true rfl⟩ rfl rfl (Nat.le_of_ble_eq_true rfl) ?_
  rintro x3 _ _ ⟨rfl, rfl, hx3, hz4⟩
  have J57 : ∀ (iv : Iv) (lv : Lv), SI spc iw1 iv → Z 57 [some (rf g 551), some (.int a1), some (.int a2), some (.int a3), none, none, none, none, none, none] [] iv lv := by
    intro iv lv hG
    refine z_iconst zh dX9_give_57 ki_m1 ?_
    exact z_iret zh dX9_give_58 ⟨_, rfl, si_back hS hG, ra_w rl_n1 (by decide) (by decide)⟩
  refine z_if_eq (tgt := 57) zh dX9_give_10 rfl (fun _ => J57 iv lv hG) (fun q10 => ?_)
  have r5 : Ra 0 11 a1 := (hz4 q10)
  refine z_aloadnR zh dX9_give_13 rfl ?_
  refine z_iloadn zh dX9_give_14 rfl ?_
  refine z_callVI zh mv_Y_94 dX9_give_15 ck_Y rfl (s_X9_isIssue g  hG) ⟨Nat.le_of_ble_eq_true rfl, Nat.le_of_ble_eq_true rfl⟩ rfl rfl (Nat.le_of_ble_eq_true rfl) ?_
  rintro x6 _ _ ⟨rfl, rfl, hx6, hz7⟩
  refine z_if_eq (tgt := 57) zh dX9_give_18 rfl (fun _ => J57 iv lv hG) (fun q18 => ?_)
  have r8 : Ra 0 5 a2 := (hz7 q18)
  refine z_aloadnR zh dX9_give_21 rfl ?_
  refine z_iloadn zh dX9_give_22 rfl ?_
  refine z_iconst zh dX9_give_23 ki_1 ?_
  refine z_aloadnR zh dX9_give_24 rfl ?_
  refine z_iloadn zh dX9_give_25 rfl ?_
  refine z_iloadn zh dX9_give_26 rfl ?_
  refine z_callVI zh mv_Y_169 dX9_give_27 ck_Y rfl (s_X9_oldLong g r5 r8 hG) ⟨Nat.le_of_ble_eq_true rfl, Nat.le_of_ble_eq_true rfl⟩ rfl rfl (Nat.le_of_ble_eq_true rfl) ?_
  rintro x9 _ _ ⟨rfl, rfl, _⟩
  refine z_callVI zh mv_Y_79 dX9_give_30 ck_Y rfl (s_X9_isIn g) ⟨Nat.le_of_ble_eq_true rfl, Nat.le_of_ble_eq_true rfl⟩ rfl rfl (Nat.le_of_ble_eq_true rfl) ?_
  rintro x10 _ _ ⟨rfl, rfl, hx10, hz11⟩
  refine z_if_eq (tgt := 57) zh dX9_give_33 rfl (fun _ => J57 iv lv hG) (fun q33 => ?_)
  have r12 : Ra 1 2147483647 a3 := (rb_in rl_1 (ra_tt x9) (hz11 q33))
  refine z_aloadnR zh dX9_give_36 rfl ?_
  refine z_iloadn zh dX9_give_37 rfl ?_
  refine z_iloadn zh dX9_give_38 rfl ?_
  refine z_callVI zh mv_Y_172 dX9_give_39 ck_Y rfl (s_X9_isNoticed g r5 r8 hG) ⟨Nat.le_of_ble_eq_true rfl, Nat.le_of_ble_eq_true rfl⟩ rfl rfl (Nat.le_of_ble_eq_true rfl) ?_
  rintro x13 _ _ ⟨rfl, rfl, hx13⟩
  refine z_if_ne (tgt := 57) zh dX9_give_42 rfl (fun _ => J57 iv lv hG) (fun q42 => ?_)
  refine z_aloadnR zh dX9_give_45 rfl ?_
  refine z_getf zh fl_Y_7 dX9_give_46 ck_Y rfl rfl ?_
  refine z_bipush zh dX9_give_49 kb_8 ?_
  refine y_ialdN zh ck_now dX9_give_51 (by decide) (fun x14 ex14 => ?_)
  have hx14 : Ra 0 60 x14 := ra_of ex14 (nr_l hG 8 rfl)
  have es15 := (si_s hG (spc_N.trans rfl)).symm.trans ex14
  refine z_bipush zh dX9_give_52 kb_60 ?_
  refine z_icmp_ne (tgt := 59) zh dX9_give_54 rfl (fun q54 => ?_) (fun _ => J57 iv lv hG)
  have hN : Ra 0 59 x14 := rb_ne_hi hx14 rl_60 q54 (by decide)
  refine z_aloadnR zh dX9_give_59 rfl ?_
  refine z_iloadn zh dX9_give_60 rfl ?_
  refine z_iloadn zh dX9_give_61 rfl ?_
  refine z_iconst zh dX9_give_62 ki_0 ?_
  refine z_iconst zh dX9_give_63 ki_m1 ?_
  refine z_callVI zh mv_Y_175 dX9_give_64 ck_Y rfl (s_X9_newNotice g r5 r8 (ra_w rl_n1 (by decide) (by decide)) hG (by rw [ex14]; exact hN)) ⟨Nat.le_of_ble_eq_true rfl, Nat.le_of_ble_eq_true rfl⟩ rfl rfl (Nat.le_of_ble_eq_true rfl) ?_
  rintro x16 iv lv ⟨hG, hx16, n17, hn17, en17⟩
  refine z_istore zh dX9_give_67 (by decide) (L' := [some (rf g 551), some (.int a1), some (.int a2), some (.int a3), some (.int x16), none, none, none, none, none]) rfl ?_
  refine z_iloadn zh dX9_give_69 rfl ?_
  refine z_istore zh dX9_give_70 (by decide) (L' := [some (rf g 551), some (.int a1), some (.int a2), some (.int a3), some (.int x16), some (.int a3), none, none, none, none]) rfl ?_
  refine z_aloadnR zh dX9_give_72 rfl ?_
  refine z_iloadn zh dX9_give_73 rfl ?_
  refine z_iconst zh dX9_give_74 ki_m1 ?_
  refine z_iconst zh dX9_give_75 ki_m1 ?_
  refine z_callVI zh mv_Y_179 dX9_give_76 ck_Y rfl (e_X9_nextShort g r8 hG) ⟨Nat.le_of_ble_eq_true rfl, Nat.le_of_ble_eq_true rfl⟩ rfl rfl (Nat.le_of_ble_eq_true rfl) ?_
  rintro k iv lv ⟨hG, hk, hB⟩
  refine z_istore zh dX9_give_79 (by decide) (L' := [some (rf g 551), some (.int a1), some (.int a2), some (.int a3), some (.int x16), some (.int a3), some (.int k), none, none, none]) rfl ?_
  have J210 : ∀ (iv : Iv) (lv : Lv) (left x : Int32), SI spc iw1 iv → Z 210 [some (rf g 551), some (.int a1), some (.int a2), some (.int a3), some (.int x16), some (.int left), some (.int x), none, none, none] [] iv lv := by
    intro iv lv left x hG
    refine z_iload zh dX9_give_210 rfl ?_
    refine z_iloadn zh dX9_give_212 rfl ?_
    refine z_icmp_ne (tgt := 218) zh dX9_give_213 rfl (fun _ => ?_) (fun _ => ?_)
    · skip
      refine z_aloadnR zh dX9_give_218 rfl ?_
      refine z_getf zh fl_Y_7 dX9_give_219 ck_Y rfl rfl ?_
      refine z_iload zh dX9_give_222 rfl ?_
      refine z_iconst zh dX9_give_224 ki_2 ?_
      refine y_iadd zh dX9_give_225 hx16 rl_2 (u := 16712) (v := 17892) rfl rfl (by decide) (by decide) (fun x18 hc18 hx18 => ?_)
      refine z_iloadn zh dX9_give_226 rfl ?_
      refine z_iload zh dX9_give_227 rfl ?_
      refine y_isubT zh dX9_give_229 (fun x19 => ?_)
      refine z_iast zh ck_now dX9_give_230 (ra_in hx18 (by decide) (by decide)) ?_
      have em20 : iv 552 8 = x14 := ((si_s hG (spc_N.trans rfl)).trans es15)
      have hG : SI spc iw1 (upI iv 552 x18.toNatClampNeg x19) := (nw_nb hG (n17 * 1) (by have := rl_2.1; have := rl_2.2; omega) (by have := rl_2.1; have := rl_2.2; omega) (by have := rl_2.1; have := rl_2.2; omega))
      have em21 := (upI_ne (iv := iv) (k := 552) (j := x18.toNatClampNeg) (x := x19) (a := 552) (b := 8) (Or.inr (ne_cl hx18 (by decide) (Or.inl (by decide))))).trans em20
      generalize upI iv 552 x18.toNatClampNeg x19 = iv at hG em21 ⊢
      refine z_aloadnR zh dX9_give_231 rfl ?_
      refine z_getf zh fl_Y_7 dX9_give_232 ck_Y rfl rfl ?_
      refine z_bipush zh dX9_give_235 kb_8 ?_
      refine z_aloadnR zh dX9_give_237 rfl ?_
      refine z_getf zh fl_Y_7 dX9_give_238 ck_Y rfl rfl ?_
      refine z_bipush zh dX9_give_241 kb_8 ?_
      refine z_ialdE (x := x14) zh ck_now dX9_give_243 (by decide) em21 ?_
      refine z_iconst zh dX9_give_244 ki_1 ?_
      refine y_iadd zh dX9_give_245 hN rl_1 (u := 1) (v := 60) rfl rfl (by decide) (by decide) (fun x22 hc22 hx22 => ?_)
      refine z_iastN (j := 8) zh ck_now dX9_give_246 (by decide) ?_
      have hG := si_back hS hG
      have hG : SI sp σ (upI iv 552 8 x22) := (nw_lq hG hq (j := 8) (by decide) (by decide) (by decide) (rx_some (ra_w hx22 (by decide) (by decide))))
      have em23 : upI iv 552 8 x22 552 8 = x22 := by rw [upI_at, if_pos ⟨rfl, rfl⟩]
      generalize upI iv 552 8 x22 = iv at hG em23 ⊢
      refine z_aloadnR zh dX9_give_247 rfl ?_
      refine z_getf zh fl_Y_7 dX9_give_248 ck_Y rfl rfl ?_
      refine z_bipush zh dX9_give_251 kb_8 ?_
      refine z_ialdE (x := x22) zh ck_now dX9_give_253 (by decide) em23 ?_
      refine z_iconst zh dX9_give_254 ki_1 ?_
      refine y_isub zh dX9_give_255 hx22 rl_1 (u := 0) (v := 59) rfl rfl (by decide) (by decide) (fun x24 hc24 hx24 => ?_)
      exact z_iret zh dX9_give_256 ⟨_, rfl, hG, (ra_w hx24 (by decide) (by decide))⟩
    · refine z_iconst zh dX9_give_216 ki_m1 ?_
      exact z_iret zh dX9_give_217 ⟨_, rfl, si_back hS hG, ra_w rl_n1 (by decide) (by decide)⟩
  have J : ∀ (q : Nat) (iv : Iv) (lv : Lv) (left x : Int32), SI spc iw1 iv → Ra (-1) 11 x → (¬ x = -1 → 1200 - (12 * (iv 551 5).toInt + x.toInt) < (q : Int)) → Z 81 [some (rf g 551), some (.int a1), some (.int a2), some (.int a3), some (.int x16), some (.int left), some (.int x), none, none, none] [] iv lv := by
    intro q
    induction q with
    | zero =>
      intro iv lv left x hG hx hm
      refine z_iload zh dX9_give_81 rfl ?_
      refine z_iconst zh dX9_give_83 ki_m1 ?_
      refine z_icmp_eq (tgt := 210) zh dX9_give_84 rfl (fun _ => J210 iv lv left x hG) (fun q1 => ?_)
      have h1 := hm q1
      have h2 : (iv 551 5).toInt ≤ 99 := (si_Y hG 0 (j := 5) rfl).2
      have h3 := hx.2
      omega
    | succ q ih =>
      intro iv lv left x hG hx hm
      refine z_iload zh dX9_give_81 rfl ?_
      refine z_iconst zh dX9_give_83 ki_m1 ?_
      refine z_icmp_eq (tgt := 210) zh dX9_give_84 rfl (fun _ => J210 iv lv left x hG) (fun q1 => ?_)
      have hx1 : Ra 0 11 x := rb_ne_lo hx rl_n1 q1 (by decide)
      refine z_iload zh dX9_give_87 rfl ?_
      refine z_if_le (tgt := 210) zh dX9_give_89 rfl (fun _ => J210 iv lv left x hG) (fun _ => ?_)
      refine z_aloadnR zh dX9_give_92 rfl ?_
      refine y_getI zh fl_Y_163 dX9_give_93 ck_Y rfl rfl (fun x25 ex25 => ?_)
      have hx25 : Ra 0 99 x25 := ra_of ex25 (si_Y hG 0 (j := 5) rfl)
      have hm1 := hm q1
      rw [ex25] at hm1
      refine z_istore zh dX9_give_96 (by decide) (L' := [some (rf g 551), some (.int a1), some (.int a2), some (.int a3), some (.int x16), some (.int left), some (.int x), some (.int x25), none, none]) rfl ?_
      refine z_aloadnR zh dX9_give_98 rfl ?_
      refine z_iload zh dX9_give_99 rfl ?_
      refine z_iloadn zh dX9_give_101 rfl ?_
      refine z_callVI zh mv_Y_182 dX9_give_102 ck_Y rfl (s_X9_shortOf g hx1 r8 hG) ⟨Nat.le_of_ble_eq_true rfl, Nat.le_of_ble_eq_true rfl⟩ rfl rfl (Nat.le_of_ble_eq_true rfl) ?_
      rintro x26 _ _ ⟨rfl, rfl, _⟩
      refine z_aloadnR zh dX9_give_105 rfl ?_
      refine z_iload zh dX9_give_106 rfl ?_
      refine z_iloadn zh dX9_give_108 rfl ?_
      refine z_callVI zh mv_Y_185 dX9_give_109 ck_Y rfl (s_X9_assignedTo g hx1 r8 hG) ⟨Nat.le_of_ble_eq_true rfl, Nat.le_of_ble_eq_true rfl⟩ rfl rfl (Nat.le_of_ble_eq_true rfl) ?_
      rintro x27 _ _ ⟨rfl, rfl, _⟩
      refine y_isubT zh dX9_give_112 (fun x28 => ?_)
      refine z_aloadnR zh dX9_give_113 rfl ?_
      refine z_getf zh fl_Y_7 dX9_give_114 ck_Y rfl rfl ?_
      refine z_iload zh dX9_give_117 rfl ?_
      refine z_bipush zh dX9_give_119 kb_8 ?_
      refine y_iadd zh dX9_give_121 hx16 rl_8 (u := 16718) (v := 17898) rfl rfl (by decide) (by decide) (fun x29 hc29 hx29 => ?_)
      refine z_iload zh dX9_give_122 rfl ?_
      refine y_iadd zh dX9_give_124 hx29 hx1 (u := 16718) (v := 17909) rfl rfl (by decide) (by decide) (fun x30 hc30 hx30 => ?_)
      refine y_iald zh ck_now dX9_give_125 hx30 (by decide) (by decide) (fun x31 ex31 => ?_)
      refine y_isubT zh dX9_give_126 (fun x32 => ?_)
      refine z_istore zh dX9_give_127 (by decide) (L' := [some (rf g 551), some (.int a1), some (.int a2), some (.int a3), some (.int x16), some (.int left), some (.int x), some (.int x25), some (.int x32), none]) rfl ?_
      refine z_aloadnR zh dX9_give_129 rfl ?_
      refine z_iconst zh dX9_give_130 ki_0 ?_
      refine z_aloadnR zh dX9_give_131 rfl ?_
      refine z_aloadnR zh dX9_give_132 rfl ?_
      refine z_iload zh dX9_give_133 rfl ?_
      refine z_iload zh dX9_give_135 rfl ?_
      refine z_callVI zh mv_Y_131 dX9_give_137 ck_Y rfl (s_X9_lesser g  hG) ⟨Nat.le_of_ble_eq_true rfl, Nat.le_of_ble_eq_true rfl⟩ rfl rfl (Nat.le_of_ble_eq_true rfl) ?_
      rintro x33 _ _ ⟨rfl, rfl, _⟩
      refine z_aloadnR zh dX9_give_140 rfl ?_
      refine z_iload zh dX9_give_141 rfl ?_
      refine z_iloadn zh dX9_give_143 rfl ?_
      refine z_aloadnR zh dX9_give_144 rfl ?_
      refine y_getI zh fl_Y_166 dX9_give_145 ck_Y rfl rfl (fun x34 ex34 => ?_)
      have hx34 : Ra 0 101 x34 := ra_of ex34 (si_Y hG 0 (j := 6) rfl)
      refine z_callVI zh mv_Y_113 dX9_give_148 ck_Y rfl (s_X9_sharesOf g hx1 r8 hx34 hG) ⟨Nat.le_of_ble_eq_true rfl, Nat.le_of_ble_eq_true rfl⟩ rfl rfl (Nat.le_of_ble_eq_true rfl) ?_
      rintro x35 _ _ ⟨rfl, rfl, _⟩
      refine y_inegT zh dX9_give_151 (fun x36 => ?_)
      refine z_callVI zh mv_Y_131 dX9_give_152 ck_Y rfl (s_X9_lesser g  hG) ⟨Nat.le_of_ble_eq_true rfl, Nat.le_of_ble_eq_true rfl⟩ rfl rfl (Nat.le_of_ble_eq_true rfl) ?_
      rintro x37 _ _ ⟨rfl, rfl, _⟩
      refine z_callVI zh mv_Y_76 dX9_give_155 ck_Y rfl (s_X9_greater g  hG) ⟨Nat.le_of_ble_eq_true rfl, Nat.le_of_ble_eq_true rfl⟩ rfl rfl (Nat.le_of_ble_eq_true rfl) ?_
      rintro x38 _ _ ⟨rfl, rfl, _⟩
      refine z_istore zh dX9_give_158 (by decide) (L' := [some (rf g 551), some (.int a1), some (.int a2), some (.int a3), some (.int x16), some (.int left), some (.int x), some (.int x25), some (.int x32), some (.int x38)]) rfl ?_
      refine z_aloadnR zh dX9_give_160 rfl ?_
      refine z_getf zh fl_Y_7 dX9_give_161 ck_Y rfl rfl ?_
      refine z_iload zh dX9_give_164 rfl ?_
      refine z_bipush zh dX9_give_166 kb_8 ?_
      refine y_iadd zh dX9_give_168 hx16 rl_8 (u := 16718) (v := 17898) rfl rfl (by decide) (by decide) (fun x39 hc39 hx39 => ?_)
      refine z_iload zh dX9_give_169 rfl ?_
      refine y_iadd zh dX9_give_171 hx39 hx1 (u := 16718) (v := 17909) rfl rfl (by decide) (by decide) (fun x40 hc40 hx40 => ?_)
      refine z_aloadnR zh dX9_give_172 rfl ?_
      refine z_getf zh fl_Y_7 dX9_give_173 ck_Y rfl rfl ?_
      refine z_iload zh dX9_give_176 rfl ?_
      refine z_bipush zh dX9_give_178 kb_8 ?_
      refine y_iadd zh dX9_give_180 hx16 rl_8 (u := 16718) (v := 17898) rfl rfl (by decide) (by decide) (fun x41 hc41 hx41 => ?_)
      refine z_iload zh dX9_give_181 rfl ?_
      refine y_iadd zh dX9_give_183 hx41 hx1 (u := 16718) (v := 17909) rfl rfl (by decide) (by decide) (fun x42 hc42 hx42 => ?_)
      refine y_iald zh ck_now dX9_give_184 hx42 (by decide) (by decide) (fun x43 ex43 => ?_)
      refine z_iload zh dX9_give_185 rfl ?_
      refine y_iaddT zh dX9_give_187 (fun x44 => ?_)
      refine z_iast zh ck_now dX9_give_188 (ra_in hx40 (by decide) (by decide)) ?_
      have em45 : iv 552 8 = x14 := ((si_s hG (spc_N.trans rfl)).trans es15)
      have hG : SI spc iw1 (upI iv 552 x40.toNatClampNeg x44) := (nw_n hG (n17 * 1) (by have := rl_8.1; have := rl_8.2; have := hx1.1; have := hx1.2; omega) (by have := rl_8.1; have := rl_8.2; have := hx1.1; have := hx1.2; omega) (by have := rl_8.1; have := rl_8.2; have := hx1.1; have := hx1.2; omega))
      have em46 := (upI_ne (iv := iv) (k := 552) (j := x40.toNatClampNeg) (x := x44) (a := 552) (b := 8) (Or.inr (ne_cl hx40 (by decide) (Or.inl (by decide))))).trans em45
      have em47 := (upI_ne (iv := iv) (k := 552) (j := x40.toNatClampNeg) (x := x44) (a := 551) (b := 5) (Or.inl (by decide))).trans ex25
      have em48 := (upI_ne (iv := iv) (k := 552) (j := x40.toNatClampNeg) (x := x44) (a := 551) (b := 6) (Or.inl (by decide))).trans ex34
      generalize upI iv 552 x40.toNatClampNeg x44 = iv at hG em46 em47 em48 ⊢
      refine z_iload zh dX9_give_189 rfl ?_
      refine z_iload zh dX9_give_191 rfl ?_
      refine y_isubT zh dX9_give_193 (fun x49 => ?_)
      refine z_istore zh dX9_give_194 (by decide) (L' := [some (rf g 551), some (.int a1), some (.int a2), some (.int a3), some (.int x16), some (.int x49), some (.int x), some (.int x25), some (.int x32), some (.int x38)]) rfl ?_
      refine z_aloadnR zh dX9_give_196 rfl ?_
      refine z_iloadn zh dX9_give_197 rfl ?_
      refine z_iload zh dX9_give_198 rfl ?_
      refine z_iload zh dX9_give_200 rfl ?_
      refine z_callVI zh mv_Y_179 dX9_give_202 ck_Y rfl (e_X9_nextShort g r8 hG) ⟨Nat.le_of_ble_eq_true rfl, Nat.le_of_ble_eq_true rfl⟩ rfl rfl (Nat.le_of_ble_eq_true rfl) ?_
      rintro k2 iv lv ⟨hG, hk2, hB2⟩
      refine z_istore zh dX9_give_205 (by decide) (L' := [some (rf g 551), some (.int a1), some (.int a2), some (.int a3), some (.int x16), some (.int x49), some (.int k2), some (.int x25), some (.int x32), some (.int x38)]) rfl ?_
      refine z_goto (tgt := 81) zh dX9_give_207 rfl ?_
      refine z_forget zh [true, true, true, true, true, true, true, false, false, false] (L2 := [some (rf g 551), some (.int a1), some (.int a2), some (.int a3), some (.int x16), some (.int x49), some (.int k2), none, none, none]) rfl ?_
      refine ih iv lv x49 k2 hG hk2 (fun q9 => ?_)
      have d1 := (hx25).1; have d2 := (hx25).2; have x1 := hx1.1; have x2 := hx1.2
      have u1 := (rb_ne_lo hk2 rl_n1 q9 (by decide) : Ra 0 11 k2).1
      rcases hB2 q9 with w | ⟨w, w2⟩
      · omega
      · rw [w]; omega
  exact J 1300 iv lv a3 k hG hk (fun _ => by have h2 : 0 ≤ (iv 551 5).toInt := (si_Y hG 0 (j := 5) rfl).1; have h3 := hk.1; omega)
