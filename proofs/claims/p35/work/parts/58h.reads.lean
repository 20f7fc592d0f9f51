/-! READING A TOKEN -/
def LTs (tp : Nat → Int32) (a b : Int32) : Prop := ∀ j : Nat, a.toInt ≤ (j : Int) → (j : Int) < b.toInt → ¬ tp j = nI 32
theorem lts_up {tp : Nat → Int32} {a b b' c : Int32} (h : LTs tp a b) (hb : Ra 0 399 b) (e : b'.toInt = b.toInt + 1) (hc : tp b.toNatClampNeg = c) (hl : Ra 65 122 c) : LTs tp a b' := fun j h1 h2 => by
  by_cases q : (j : Int) = b.toInt
  · have := ra_clamp hb (by decide)
    rw [show j = b.toNatClampNeg by omega, hc]
    exact ra_ne hl rl_32 (Or.inl (by decide))
  · exact h j h1 (by omega)
set_option maxHeartbeats 1000000 in
set_option maxRecDepth 20000 in
theorem e_X9_raw (g : GE) {sp : Nat → Nat → Bool} {σ : Iv} {iv : Iv} {lv : Lv} {a1 : Int32} (ha1 : Ra 0 401 a1) (hG : SI sp σ iv) : ConI g yX9_raw cX9_raw 2 (some .int) 1 [rf g 551, .int a1] iv lv (fun r iv' lv' => iv = iv' ∧ lv = lv' ∧ (¬ r = -1 → Ra 0 399 a1 ∧ iv 561 a1.toNatClampNeg = r)) := by
  refine con_intro (own := "RollingNetsModel") (by decide +kernel) rfl (Nat.le_of_ble_eq_true rfl) (L0 := [some (rf g 551), some (.int a1)]) rfl (fun Z zh => ?_)
  refine z_iloadn zh dX9_raw_0 rfl ?_
  refine z_aloadnR zh dX9_raw_1 rfl ?_
  refine y_getI zh fl_Y_344 dX9_raw_2 ck_Y rfl rfl (fun x1 ex1 => ?_)
  have hx1 : Ra 0 400 x1 := ra_of ex1 (si_Y hG 0 (j := 17) rfl)
  refine z_icmp_ge (tgt := 17) zh dX9_raw_5 rfl (fun _ => ?_) (fun q => ?_)
  · refine z_iconst zh dX9_raw_17 ki_m1 ?_
    exact z_iret zh dX9_raw_18 ⟨_, rfl, rfl, rfl, fun w => absurd rfl w⟩
  have h9 : Ra 0 399 a1 := rb_lt_l hx1 ha1 (rb_nle q) (by decide)
  refine z_aloadnR zh dX9_raw_8 rfl ?_
  refine z_getf zh fl_Y_39 dX9_raw_9 ck_Y rfl rfl ?_
  refine z_iloadn zh dX9_raw_12 rfl ?_
  refine y_iald zh ck_ytape dX9_raw_13 h9 (by decide) (by decide) (fun r er => ?_)
  refine z_goto (tgt := 18) zh dX9_raw_14 rfl ?_
  exact z_iret zh dX9_raw_18 ⟨_, rfl, rfl, rfl, fun _ => ⟨h9, er⟩⟩

set_option maxRecDepth 20000 in
theorem s_X9_reads (g : GE) {sp : Nat → Nat → Bool} {σ : Iv} {iv : Iv} {lv : Lv}   (hG : SI sp σ iv)  : ConV g yX9_reads cX9_reads 2 none 3 [rf g 551] iv lv (fun iv lv => SI sp σ iv) := by
  refine con_intro (own := "RollingNetsModel") (by decide +kernel) rfl (Nat.le_of_ble_eq_true rfl) (L0 := [some (rf g 551), none]) rfl (fun Z zh => ?_)
  have J0 : ∀ (n : Nat) (iv : Iv) (lv : Lv) (x1 : Int32), SI sp σ iv → iv 551 18 = x1 → Ra 0 401 x1 → 401 - x1.toInt < (n : Int) → Z 0 [some (rf g 551), none] [] iv lv := by
    intro n
    induction n with
    | zero => intro iv lv x1 hG em2 hx1 hn0; exact (ms_uz hx1 hn0).elim
    | succ n ih0 =>
      intro iv lv x1 hG em2 hx1 hn0
      refine z_aloadnR zh dX9_reads_0 rfl ?_
      refine z_aloadnR zh dX9_reads_1 rfl ?_
      refine z_getI (x := x1) zh fl_Y_350 dX9_reads_2 ck_Y rfl rfl em2 ?_
      refine z_callVI zh mv_Y_353 dX9_reads_5 ck_Y rfl (e_X9_raw g hx1 hG) ⟨Nat.le_of_ble_eq_true rfl, Nat.le_of_ble_eq_true rfl⟩ rfl rfl (Nat.le_of_ble_eq_true rfl) ?_
      rintro x3 _ _ ⟨rfl, rfl, hr4⟩
      refine z_bipush zh dX9_reads_8 kb_32 ?_
      have J26 : ∀ (iv : Iv) (lv : Lv), SI sp σ iv → iv 551 18 = x1 → Ra 0 399 x1 → Z 26 [some (rf g 551), none] [] iv lv := by
        intro iv lv hG em5 hp6
        refine z_aloadnR zh dX9_reads_26 rfl ?_
        refine z_aloadnR zh dX9_reads_27 rfl ?_
        refine z_getI (x := x1) zh fl_Y_350 dX9_reads_28 ck_Y rfl rfl em5 ?_
        refine z_iconst zh dX9_reads_31 ki_1 ?_
        refine y_iadd zh dX9_reads_32 hp6 rl_1 (u := 1) (v := 400) rfl rfl (by decide) (by decide) (fun x7 hc7 hx7 => ?_)
        refine z_putI zh fl_Y_350 dX9_reads_33 ck_Y rfl rfl (Nat.le_of_ble_eq_true rfl) (Or.inl rfl) ?_
        have hG : SI sp σ (upI iv 551 18 x7) := si_w (k := 551) (j := 18) hG (by decide) (by decide) (sp_no hG ((spc_Y (q := 0)).trans rfl)) (fun lo hi q => (rx_some (ra_w hx7 (by decide) (by decide))) lo hi ((rg_Y (q := 0)).symm.trans q))
        have em8 : upI iv 551 18 x7 551 18 = x7 := by rw [upI_at, if_pos ⟨rfl, rfl⟩]
        generalize upI iv 551 18 x7 = iv at hG em8 ⊢
        refine z_goto (tgt := 0) zh dX9_reads_36 rfl ?_
        exact ih0 iv lv x7 hG em8 (ra_w hx7 (by decide) (by decide)) (ms_up (bs_add hc7 rl_1) (by decide) hn0)
      refine z_icmp_eq (tgt := 26) zh dX9_reads_10 rfl (fun q9 => ?_) (fun q9 => ?_)
      · have r10 := rb_eq (u := 32) (v := 32) (ra_tt x3) rl_32 q9 (by decide) (by decide)
        have r11 : Ra 0 399 x1 := (hr4 (ra_ne r10.1 rl_n1 (Or.inl (by decide)))).1
        exact J26 iv lv hG em2 r11
      · refine z_aloadnR zh dX9_reads_13 rfl ?_
        refine z_aloadnR zh dX9_reads_14 rfl ?_
        refine z_getI (x := x1) zh fl_Y_350 dX9_reads_15 ck_Y rfl rfl em2 ?_
        refine z_callVI zh mv_Y_353 dX9_reads_18 ck_Y rfl (e_X9_raw g hx1 hG) ⟨Nat.le_of_ble_eq_true rfl, Nat.le_of_ble_eq_true rfl⟩ rfl rfl (Nat.le_of_ble_eq_true rfl) ?_
        rintro x12 _ _ ⟨rfl, rfl, hr13⟩
        refine z_bipush zh dX9_reads_21 kb_10 ?_
        refine z_icmp_ne (tgt := 39) zh dX9_reads_23 rfl (fun q14 => ?_) (fun q14 => ?_)
        · refine z_aloadnR zh dX9_reads_39 rfl ?_
          refine z_aloadnR zh dX9_reads_40 rfl ?_
          refine z_getI (x := x1) zh fl_Y_350 dX9_reads_41 ck_Y rfl rfl em2 ?_
          refine z_putI zh fl_Y_356 dX9_reads_44 ck_Y rfl rfl (Nat.le_of_ble_eq_true rfl) (Or.inl rfl) ?_
          have hG : SI sp σ (upI iv 551 19 x1) := si_w (k := 551) (j := 19) hG (by decide) (by decide) (sp_no hG ((spc_Y (q := 0)).trans rfl)) (fun lo hi q => (rx_some hx1) lo hi ((rg_Y (q := 0)).symm.trans q))
          have em15 := (upI_ne (iv := iv) (k := 551) (j := 19) (x := x1) (a := 551) (b := 18) (Or.inr (by decide))).trans em2
          have em16 : upI iv 551 19 x1 551 19 = x1 := by rw [upI_at, if_pos ⟨rfl, rfl⟩]
          generalize upI iv 551 19 x1 = iv at hG em15 em16 ⊢
          obtain ⟨tp, et⟩ : ∃ f, iv 561 = f := ⟨_, rfl⟩
          refine z_aloadnR zh dX9_reads_47 rfl ?_
          refine z_iconst zh dX9_reads_48 ki_1 ?_
          refine z_putI zh fl_Y_359 dX9_reads_49 ck_Y rfl rfl (Nat.le_of_ble_eq_true rfl) (Or.inl rfl) ?_
          have hG : SI sp σ (upI iv 551 20 (nI 1)) := si_w (k := 551) (j := 20) hG (by decide) (by decide) (sp_no hG ((spc_Y (q := 0)).trans rfl)) (fun lo hi q => (rx_none rfl) lo hi ((rg_Y (q := 0)).symm.trans q))
          have em17 := (upI_ne (iv := iv) (k := 551) (j := 20) (x := nI 1) (a := 551) (b := 18) (Or.inr (by decide))).trans em15
          have em18 := (upI_ne (iv := iv) (k := 551) (j := 20) (x := nI 1) (a := 551) (b := 19) (Or.inr (by decide))).trans em16
          have em19 : upI iv 551 20 (nI 1) 551 20 = nI 1 := by rw [upI_at, if_pos ⟨rfl, rfl⟩]
          have et20 : upI iv 551 20 (nI 1) 561 = tp := (upI_n (by decide)).trans et
          generalize upI iv 551 20 (nI 1) = iv at hG em17 em18 em19 et20 ⊢
          refine z_aloadnR zh dX9_reads_52 rfl ?_
          refine z_aloadnR zh dX9_reads_53 rfl ?_
          refine z_getI (x := x1) zh fl_Y_350 dX9_reads_54 ck_Y rfl rfl em17 ?_
          refine z_callVI zh mv_Y_353 dX9_reads_57 ck_Y rfl (e_X9_raw g hx1 hG) ⟨Nat.le_of_ble_eq_true rfl, Nat.le_of_ble_eq_true rfl⟩ rfl rfl (Nat.le_of_ble_eq_true rfl) ?_
          rintro x21 _ _ ⟨rfl, rfl, hr22⟩
          have hr23 : ¬ x21 = -1 → tp x1.toNatClampNeg = x21 := fun w => by rw [← et20]; exact (hr22 w).2
          refine z_istoren zh dX9_reads_60 (by decide) (L' := [some (rf g 551), some (.int x21)]) rfl ?_
          refine z_iloadn zh dX9_reads_61 rfl ?_
          refine z_iconst zh dX9_reads_62 ki_m1 ?_
          refine z_icmp_ne (tgt := 72) zh dX9_reads_63 rfl (fun q24 => ?_) (fun q24 => ?_)
          · have r25 : Ra 0 399 x1 := (hr22 q24).1
            refine z_aloadnR zh dX9_reads_72 rfl ?_
            refine z_aloadnR zh dX9_reads_73 rfl ?_
            refine z_getI (x := x1) zh fl_Y_350 dX9_reads_74 ck_Y rfl rfl em17 ?_
            refine z_iconst zh dX9_reads_77 ki_1 ?_
            refine y_iadd zh dX9_reads_78 r25 rl_1 (u := 1) (v := 400) rfl rfl (by decide) (by decide) (fun x26 hc26 hx26 => ?_)
            refine z_putI zh fl_Y_350 dX9_reads_79 ck_Y rfl rfl (Nat.le_of_ble_eq_true rfl) (Or.inl rfl) ?_
            have hG : SI sp σ (upI iv 551 18 x26) := si_w (k := 551) (j := 18) hG (by decide) (by decide) (sp_no hG ((spc_Y (q := 0)).trans rfl)) (fun lo hi q => (rx_some (ra_w hx26 (by decide) (by decide))) lo hi ((rg_Y (q := 0)).symm.trans q))
            have em27 := (upI_ne (iv := iv) (k := 551) (j := 18) (x := x26) (a := 551) (b := 19) (Or.inr (by decide))).trans em18
            have em28 := (upI_ne (iv := iv) (k := 551) (j := 18) (x := x26) (a := 551) (b := 20) (Or.inr (by decide))).trans em19
            have em29 : upI iv 551 18 x26 551 18 = x26 := by rw [upI_at, if_pos ⟨rfl, rfl⟩]
            have et30 : upI iv 551 18 x26 561 = tp := (upI_n (by decide)).trans et20
            generalize upI iv 551 18 x26 = iv at hG em27 em28 em29 et30 ⊢
            refine z_aloadnR zh dX9_reads_82 rfl ?_
            refine z_iloadn zh dX9_reads_83 rfl ?_
            refine z_putI zh fl_Y_362 dX9_reads_84 ck_Y rfl rfl (Nat.le_of_ble_eq_true rfl) (Or.inl rfl) ?_
            have hG : SI sp σ (upI iv 551 21 x21) := si_w (k := 551) (j := 21) hG (by decide) (by decide) (sp_no hG ((spc_Y (q := 0)).trans rfl)) (fun lo hi q => (rx_none rfl) lo hi ((rg_Y (q := 0)).symm.trans q))
            have em31 := (upI_ne (iv := iv) (k := 551) (j := 21) (x := x21) (a := 551) (b := 19) (Or.inr (by decide))).trans em27
            have em32 := (upI_ne (iv := iv) (k := 551) (j := 21) (x := x21) (a := 551) (b := 20) (Or.inr (by decide))).trans em28
            have em33 := (upI_ne (iv := iv) (k := 551) (j := 21) (x := x21) (a := 551) (b := 18) (Or.inr (by decide))).trans em29
            have em34 : upI iv 551 21 x21 551 21 = x21 := by rw [upI_at, if_pos ⟨rfl, rfl⟩]
            have et35 : upI iv 551 21 x21 561 = tp := (upI_n (by decide)).trans et30
            generalize upI iv 551 21 x21 = iv at hG em31 em32 em33 em34 et35 ⊢
            refine z_aloadnR zh dX9_reads_87 rfl ?_
            refine z_iloadn zh dX9_reads_88 rfl ?_
            refine z_callVI zh mv_Y_365 dX9_reads_89 ck_Y rfl (s_X9_isLetter g  hG) ⟨Nat.le_of_ble_eq_true rfl, Nat.le_of_ble_eq_true rfl⟩ rfl rfl (Nat.le_of_ble_eq_true rfl) ?_
            rintro x36 _ _ ⟨rfl, rfl, hx36, hz37⟩
            refine z_if_eq (tgt := 155) zh dX9_reads_92 rfl (fun q38 => ?_) (fun q38 => ?_)
            · have r39 := rb_eq (u := 0) (v := 0) hx36 ra_z q38 (by decide) (by decide)
              refine z_aloadnR zh dX9_reads_155 rfl ?_
              refine z_iloadn zh dX9_reads_156 rfl ?_
              refine z_callVI zh mv_Y_371 dX9_reads_157 ck_Y rfl (s_X9_isDigit g  hG) ⟨Nat.le_of_ble_eq_true rfl, Nat.le_of_ble_eq_true rfl⟩ rfl rfl (Nat.le_of_ble_eq_true rfl) ?_
              rintro x40 _ _ ⟨rfl, rfl, hx40, hz41⟩
              refine z_if_eq (tgt := 260) zh dX9_reads_160 rfl (fun q42 => ?_) (fun q42 => ?_)
              · have r43 := rb_eq (u := 0) (v := 0) hx40 ra_z q42 (by decide) (by decide)
                refine z_iloadn zh dX9_reads_260 rfl ?_
                refine z_bipush zh dX9_reads_261 kb_59 ?_
                refine z_icmp_ne (tgt := 271) zh dX9_reads_263 rfl (fun q44 => ?_) (fun q44 => ?_)
                · exact z_vret zh dX9_reads_271 ⟨rfl, hG⟩
                · have r45 := rb_eq (u := 59) (v := 59) (ra_tt x21) rl_59 q44 (by decide) (by decide)
                  refine z_aloadnR zh dX9_reads_266 rfl ?_
                  refine z_iconst zh dX9_reads_267 ki_4 ?_
                  refine z_putI zh fl_Y_359 dX9_reads_268 ck_Y rfl rfl (Nat.le_of_ble_eq_true rfl) (Or.inl rfl) ?_
                  have hG : SI sp σ (upI iv 551 20 (nI 4)) := si_w (k := 551) (j := 20) hG (by decide) (by decide) (sp_no hG ((spc_Y (q := 0)).trans rfl)) (fun lo hi q => (rx_none rfl) lo hi ((rg_Y (q := 0)).symm.trans q))
                  have em46 := (upI_ne (iv := iv) (k := 551) (j := 20) (x := nI 4) (a := 551) (b := 19) (Or.inr (by decide))).trans em31
                  have em47 := (upI_ne (iv := iv) (k := 551) (j := 20) (x := nI 4) (a := 551) (b := 18) (Or.inr (by decide))).trans em33
                  have em48 := (upI_ne (iv := iv) (k := 551) (j := 20) (x := nI 4) (a := 551) (b := 21) (Or.inr (by decide))).trans em34
                  have em49 : upI iv 551 20 (nI 4) 551 20 = nI 4 := by rw [upI_at, if_pos ⟨rfl, rfl⟩]
                  have et50 : upI iv 551 20 (nI 4) 561 = tp := (upI_n (by decide)).trans et35
                  generalize upI iv 551 20 (nI 4) = iv at hG em46 em47 em48 em49 et50 ⊢
                  exact z_vret zh dX9_reads_271 ⟨rfl, hG⟩
              · have r51 : Ra 1 1 x40 := rb_ne_lo hx40 ra_z q42 (by decide)
                have r52 : Ra 48 57 x21 := (hz41 q42)
                refine z_aloadnR zh dX9_reads_163 rfl ?_
                refine z_iloadn zh dX9_reads_164 rfl ?_
                refine z_bipush zh dX9_reads_165 kb_48 ?_
                refine y_isub zh dX9_reads_167 r52 rl_48 (u := 0) (v := 9) rfl rfl (by decide) (by decide) (fun x53 hc53 hx53 => ?_)
                refine z_putI zh fl_Y_362 dX9_reads_168 ck_Y rfl rfl (Nat.le_of_ble_eq_true rfl) (Or.inl rfl) ?_
                have hG : SI sp σ (upI iv 551 21 x53) := si_w (k := 551) (j := 21) hG (by decide) (by decide) (sp_no hG ((spc_Y (q := 0)).trans rfl)) (fun lo hi q => (rx_none rfl) lo hi ((rg_Y (q := 0)).symm.trans q))
                have em54 := (upI_ne (iv := iv) (k := 551) (j := 21) (x := x53) (a := 551) (b := 19) (Or.inr (by decide))).trans em31
                have em55 := (upI_ne (iv := iv) (k := 551) (j := 21) (x := x53) (a := 551) (b := 20) (Or.inr (by decide))).trans em32
                have em56 := (upI_ne (iv := iv) (k := 551) (j := 21) (x := x53) (a := 551) (b := 18) (Or.inr (by decide))).trans em33
                have em57 : upI iv 551 21 x53 551 21 = x53 := by rw [upI_at, if_pos ⟨rfl, rfl⟩]
                have et58 : upI iv 551 21 x53 561 = tp := (upI_n (by decide)).trans et35
                generalize upI iv 551 21 x53 = iv at hG em54 em55 em56 em57 et58 ⊢
                have J171 : ∀ (n : Nat) (iv : Iv) (lv : Lv) (x61 : Int32), SI sp σ iv → iv 551 19 = x1 → iv 551 20 = nI 1 → iv 551 18 = x61 → Ra 0 401 x61 → 401 - x61.toInt < (n : Int) → Z 171 [some (rf g 551), some (.int x21)] [] iv lv := by
                  intro n
                  induction n with
                  | zero => intro iv lv x61 hG em59 em60 em62 hx61 hn171; exact (ms_uz hx61 hn171).elim
                  | succ n ih171 =>
                    intro iv lv x61 hG em59 em60 em62 hx61 hn171
                    refine z_aloadnR zh dX9_reads_171 rfl ?_
                    refine z_aloadnR zh dX9_reads_172 rfl ?_
                    refine z_aloadnR zh dX9_reads_173 rfl ?_
                    refine z_getI (x := x61) zh fl_Y_350 dX9_reads_174 ck_Y rfl rfl em62 ?_
                    refine z_callVI zh mv_Y_353 dX9_reads_177 ck_Y rfl (e_X9_raw g hx61 hG) ⟨Nat.le_of_ble_eq_true rfl, Nat.le_of_ble_eq_true rfl⟩ rfl rfl (Nat.le_of_ble_eq_true rfl) ?_
                    rintro x63 _ _ ⟨rfl, rfl, hr64⟩
                    refine z_callVI zh mv_Y_371 dX9_reads_180 ck_Y rfl (s_X9_isDigit g  hG) ⟨Nat.le_of_ble_eq_true rfl, Nat.le_of_ble_eq_true rfl⟩ rfl rfl (Nat.le_of_ble_eq_true rfl) ?_
                    rintro x65 _ _ ⟨rfl, rfl, hx65, hz66⟩
                    refine z_if_eq (tgt := 239) zh dX9_reads_183 rfl (fun q67 => ?_) (fun q67 => ?_)
                    · have r68 := rb_eq (u := 0) (v := 0) hx65 ra_z q67 (by decide) (by decide)
                      refine z_aloadnR zh dX9_reads_239 rfl ?_
                      refine z_getI (x := x61) zh fl_Y_350 dX9_reads_240 ck_Y rfl rfl em62 ?_
                      refine z_aloadnR zh dX9_reads_243 rfl ?_
                      refine z_getI (x := x1) zh fl_Y_356 dX9_reads_244 ck_Y rfl rfl em59 ?_
                      refine y_isub zh dX9_reads_247 hx61 r25 (u := (-399)) (v := 401) rfl rfl (by decide) (by decide) (fun x69 hc69 hx69 => ?_)
                      refine z_iconst zh dX9_reads_248 ki_5 ?_
                      refine z_icmp_ge (tgt := 271) zh dX9_reads_249 rfl (fun q70 => ?_) (fun q70 => ?_)
                      · have r71 : Ra 5 401 x69 := rb_le_r rl_5 hx69 q70 (by decide)
                        exact z_vret zh dX9_reads_271 ⟨rfl, hG⟩
                      · have r72 : Ra (-399) 4 x69 := rb_lt_l rl_5 hx69 (rb_nle q70) (by decide)
                        refine z_aloadnR zh dX9_reads_252 rfl ?_
                        refine z_iconst zh dX9_reads_253 ki_3 ?_
                        refine z_putI zh fl_Y_359 dX9_reads_254 ck_Y rfl rfl (Nat.le_of_ble_eq_true rfl) (Or.inl rfl) ?_
                        have hG : SI sp σ (upI iv 551 20 (nI 3)) := si_w (k := 551) (j := 20) hG (by decide) (by decide) (sp_no hG ((spc_Y (q := 0)).trans rfl)) (fun lo hi q => (rx_none rfl) lo hi ((rg_Y (q := 0)).symm.trans q))
                        have em73 := (upI_ne (iv := iv) (k := 551) (j := 20) (x := nI 3) (a := 551) (b := 19) (Or.inr (by decide))).trans em59
                        have em74 := (upI_ne (iv := iv) (k := 551) (j := 20) (x := nI 3) (a := 551) (b := 18) (Or.inr (by decide))).trans em62
                        have em75 : upI iv 551 20 (nI 3) 551 20 = nI 3 := by rw [upI_at, if_pos ⟨rfl, rfl⟩]
                        generalize upI iv 551 20 (nI 3) = iv at hG em73 em74 em75 ⊢
                        refine z_goto (tgt := 271) zh dX9_reads_257 rfl ?_
                        exact z_vret zh dX9_reads_271 ⟨rfl, hG⟩
                    · have r76 : Ra 1 1 x65 := rb_ne_lo hx65 ra_z q67 (by decide)
                      have r77 : Ra 48 57 x63 := (hz66 q67)
                      have r78 : Ra 0 399 x61 := (hr64 (ra_ne r77 rl_n1 (Or.inl (by decide)))).1
                      refine z_aloadnR zh dX9_reads_186 rfl ?_
                      refine z_aloadnR zh dX9_reads_187 rfl ?_
                      refine y_getI zh fl_Y_362 dX9_reads_188 ck_Y rfl rfl (fun x79 ex79 => ?_)
                      refine z_sipush zh dX9_reads_191 ks_10000 ?_
                      have J223 : ∀ (iv : Iv) (lv : Lv) (x80 : Int32), SI sp σ iv → iv 551 19 = x1 → iv 551 20 = nI 1 → iv 551 18 = x61 → iv 551 21 = x79 → Z 223 [some (rf g 551), some (.int x21)] [.int x80, rf g 551] iv lv := by
                        intro iv lv x80 hG em81 em82 em83 em84
                        refine z_putI zh fl_Y_362 dX9_reads_223 ck_Y rfl rfl (Nat.le_of_ble_eq_true rfl) (Or.inl rfl) ?_
                        have hG : SI sp σ (upI iv 551 21 x80) := si_w (k := 551) (j := 21) hG (by decide) (by decide) (sp_no hG ((spc_Y (q := 0)).trans rfl)) (fun lo hi q => (rx_none rfl) lo hi ((rg_Y (q := 0)).symm.trans q))
                        have em85 := (upI_ne (iv := iv) (k := 551) (j := 21) (x := x80) (a := 551) (b := 19) (Or.inr (by decide))).trans em81
                        have em86 := (upI_ne (iv := iv) (k := 551) (j := 21) (x := x80) (a := 551) (b := 20) (Or.inr (by decide))).trans em82
                        have em87 := (upI_ne (iv := iv) (k := 551) (j := 21) (x := x80) (a := 551) (b := 18) (Or.inr (by decide))).trans em83
                        have em88 : upI iv 551 21 x80 551 21 = x80 := by rw [upI_at, if_pos ⟨rfl, rfl⟩]
                        generalize upI iv 551 21 x80 = iv at hG em85 em86 em87 em88 ⊢
                        refine z_aloadnR zh dX9_reads_226 rfl ?_
                        refine z_aloadnR zh dX9_reads_227 rfl ?_
                        refine z_getI (x := x61) zh fl_Y_350 dX9_reads_228 ck_Y rfl rfl em87 ?_
                        refine z_iconst zh dX9_reads_231 ki_1 ?_
                        refine y_iadd zh dX9_reads_232 r78 rl_1 (u := 1) (v := 400) rfl rfl (by decide) (by decide) (fun x89 hc89 hx89 => ?_)
                        refine z_putI zh fl_Y_350 dX9_reads_233 ck_Y rfl rfl (Nat.le_of_ble_eq_true rfl) (Or.inl rfl) ?_
                        have hG : SI sp σ (upI iv 551 18 x89) := si_w (k := 551) (j := 18) hG (by decide) (by decide) (sp_no hG ((spc_Y (q := 0)).trans rfl)) (fun lo hi q => (rx_some (ra_w hx89 (by decide) (by decide))) lo hi ((rg_Y (q := 0)).symm.trans q))
                        have em90 := (upI_ne (iv := iv) (k := 551) (j := 18) (x := x89) (a := 551) (b := 19) (Or.inr (by decide))).trans em85
                        have em91 := (upI_ne (iv := iv) (k := 551) (j := 18) (x := x89) (a := 551) (b := 20) (Or.inr (by decide))).trans em86
                        have em92 := (upI_ne (iv := iv) (k := 551) (j := 18) (x := x89) (a := 551) (b := 21) (Or.inr (by decide))).trans em88
                        have em93 : upI iv 551 18 x89 551 18 = x89 := by rw [upI_at, if_pos ⟨rfl, rfl⟩]
                        generalize upI iv 551 18 x89 = iv at hG em90 em91 em92 em93 ⊢
                        refine z_goto (tgt := 171) zh dX9_reads_236 rfl ?_
                        exact ih171 iv lv x89 hG em90 em91 em93 (ra_w hx89 (by decide) (by decide)) (ms_up (bs_add hc89 rl_1) (by decide) hn171)
                      refine z_icmp_ge (tgt := 219) zh dX9_reads_194 rfl (fun q94 => ?_) (fun q94 => ?_)
                      · have r95 : Ra 10000 2147483647 x79 := rb_le_r rl_10000 (ra_tt x79) q94 (by decide)
                        refine z_aloadnR zh dX9_reads_219 rfl ?_
                        refine z_getI (x := x79) zh fl_Y_362 dX9_reads_220 ck_Y rfl rfl ex79 ?_
                        exact J223 iv lv x79 hG em59 em60 em62 ex79
                      · have r96 : Ra (-2147483648) 9999 x79 := rb_lt_l rl_10000 (ra_tt x79) (rb_nle q94) (by decide)
                        refine z_bipush zh dX9_reads_197 kb_10 ?_
                        refine z_aloadnR zh dX9_reads_199 rfl ?_
                        refine z_getI (x := x79) zh fl_Y_362 dX9_reads_200 ck_Y rfl rfl ex79 ?_
                        refine y_imulT zh dX9_reads_203 (fun x97 => ?_)
                        refine z_aloadnR zh dX9_reads_204 rfl ?_
                        refine z_aloadnR zh dX9_reads_205 rfl ?_
                        refine z_getI (x := x61) zh fl_Y_350 dX9_reads_206 ck_Y rfl rfl em62 ?_
                        refine z_callVI zh mv_Y_353 dX9_reads_209 ck_Y rfl (e_X9_raw g (ra_w r78 (by decide) (by decide)) hG) ⟨Nat.le_of_ble_eq_true rfl, Nat.le_of_ble_eq_true rfl⟩ rfl rfl (Nat.le_of_ble_eq_true rfl) ?_
                        rintro x98 _ _ ⟨rfl, rfl, hr99⟩
                        refine y_iaddT zh dX9_reads_212 (fun x100 => ?_)
                        refine z_bipush zh dX9_reads_213 kb_48 ?_
                        refine y_isubT zh dX9_reads_215 (fun x101 => ?_)
                        refine z_goto (tgt := 223) zh dX9_reads_216 rfl ?_
                        exact J223 iv lv x101 hG em59 em60 em62 ex79
                exact J171 401 iv lv x26 hG em54 em55 em56 (ra_w hx26 (by decide) (by decide)) (ms_u0 hx26 (by decide))
            · have r102 : Ra 1 1 x36 := rb_ne_lo hx36 ra_z q38 (by decide)
              have r103 : Ra 65 122 x21 := (hz37 q38)
              have J95 : ∀ (q : Nat) (iv : Iv) (lv : Lv) (x : Int32), SI sp σ iv → iv 551 18 = x → Ra 0 400 x → iv 551 19 = x1 → iv 561 = tp → LTs tp x1 x → 400 - x.toInt < (q : Int) → Z 95 [some (rf g 551), some (.int x21)] [] iv lv := by
                intro q
                induction q with
                | zero => intro iv lv x _ _ hx _ _ _ hq; exact (ms_uz hx hq).elim
                | succ q ih95 =>
                  intro iv lv x hG em18 hx em19 et5 hl hq
                  refine z_aloadnR zh dX9_reads_95 rfl ?_
                  refine z_aloadnR zh dX9_reads_96 rfl ?_
                  refine z_aloadnR zh dX9_reads_97 rfl ?_
                  refine z_getI (x := x) zh fl_Y_350 dX9_reads_98 ck_Y rfl rfl em18 ?_
                  refine z_callVI zh mv_Y_353 dX9_reads_101 ck_Y rfl (e_X9_raw g (ra_w hx (by decide) (by decide)) hG) ⟨Nat.le_of_ble_eq_true rfl, Nat.le_of_ble_eq_true rfl⟩ rfl rfl (Nat.le_of_ble_eq_true rfl) ?_
                  rintro x104 _ _ ⟨rfl, rfl, hr105⟩
                  have hr106 : ¬ x104 = -1 → tp x.toNatClampNeg = x104 := fun w => by rw [← et5]; exact (hr105 w).2
                  refine z_callVI zh mv_Y_365 dX9_reads_104 ck_Y rfl (s_X9_isLetter g  hG) ⟨Nat.le_of_ble_eq_true rfl, Nat.le_of_ble_eq_true rfl⟩ rfl rfl (Nat.le_of_ble_eq_true rfl) ?_
                  rintro x107 _ _ ⟨rfl, rfl, hx107, hz108⟩
                  refine z_if_eq (tgt := 123) zh dX9_reads_107 rfl (fun _ => ?_) (fun q107 => ?_)
                  · refine z_aloadnR zh dX9_reads_123 rfl ?_
                    refine z_aloadnR zh dX9_reads_124 rfl ?_
                    refine z_aloadnR zh dX9_reads_125 rfl ?_
                    refine z_getI (x := x1) zh fl_Y_356 dX9_reads_126 ck_Y rfl rfl em19 ?_
                    refine z_aloadnR zh dX9_reads_129 rfl ?_
                    refine z_getI (x := x) zh fl_Y_350 dX9_reads_130 ck_Y rfl rfl em18 ?_
                    refine z_callVI zh mv_Y_368 dX9_reads_133 ck_Y rfl (s_X9_wordAt g (ra_w r25 (by decide) (by decide)) hx hG (fun j h1 h2 => by rw [et5]; exact hl j h1 h2)) ⟨Nat.le_of_ble_eq_true rfl, Nat.le_of_ble_eq_true rfl⟩ rfl rfl (Nat.le_of_ble_eq_true rfl) ?_
                    rintro x109 _ _ ⟨rfl, rfl, _⟩
                    refine z_putI zh fl_Y_362 dX9_reads_136 ck_Y rfl rfl (Nat.le_of_ble_eq_true rfl) (Or.inl rfl) ?_
                    have hG : SI sp σ (upI iv 551 21 x109) := si_w (k := 551) (j := 21) hG (by decide) (by decide) (sp_no hG ((spc_Y (q := 0)).trans rfl)) (fun lo hi q => (rx_none rfl) lo hi ((rg_Y (q := 0)).symm.trans q))
                    have em110 := (upI_ne (iv := iv) (k := 551) (j := 21) (x := x109) (a := 551) (b := 18) (Or.inr (by decide))).trans em18
                    have em111 := (upI_ne (iv := iv) (k := 551) (j := 21) (x := x109) (a := 551) (b := 19) (Or.inr (by decide))).trans em19
                    have em112 : upI iv 551 21 x109 551 21 = x109 := by rw [upI_at, if_pos ⟨rfl, rfl⟩]
                    generalize upI iv 551 21 x109 = iv at hG em110 em111 em112 ⊢
                    refine z_aloadnR zh dX9_reads_139 rfl ?_
                    refine z_getI (x := x109) zh fl_Y_362 dX9_reads_140 ck_Y rfl rfl em112 ?_
                    refine z_iconst zh dX9_reads_143 ki_m1 ?_
                    refine z_icmp_eq (tgt := 271) zh dX9_reads_144 rfl (fun q113 => ?_) (fun q113 => ?_)
                    · have r114 := rb_eq (u := (-1)) (v := (-1)) (ra_tt x109) rl_n1 q113 (by decide) (by decide)
                      exact z_vret zh dX9_reads_271 ⟨rfl, hG⟩
                    · refine z_aloadnR zh dX9_reads_147 rfl ?_
                      refine z_iconst zh dX9_reads_148 ki_2 ?_
                      refine z_putI zh fl_Y_359 dX9_reads_149 ck_Y rfl rfl (Nat.le_of_ble_eq_true rfl) (Or.inl rfl) ?_
                      have hG : SI sp σ (upI iv 551 20 (nI 2)) := si_w (k := 551) (j := 20) hG (by decide) (by decide) (sp_no hG ((spc_Y (q := 0)).trans rfl)) (fun lo hi q => (rx_none rfl) lo hi ((rg_Y (q := 0)).symm.trans q))
                      have em115 := (upI_ne (iv := iv) (k := 551) (j := 20) (x := nI 2) (a := 551) (b := 18) (Or.inr (by decide))).trans em110
                      have em116 := (upI_ne (iv := iv) (k := 551) (j := 20) (x := nI 2) (a := 551) (b := 19) (Or.inr (by decide))).trans em111
                      have em117 := (upI_ne (iv := iv) (k := 551) (j := 20) (x := nI 2) (a := 551) (b := 21) (Or.inr (by decide))).trans em112
                      have em118 : upI iv 551 20 (nI 2) 551 20 = nI 2 := by rw [upI_at, if_pos ⟨rfl, rfl⟩]
                      generalize upI iv 551 20 (nI 2) = iv at hG em115 em116 em117 em118 ⊢
                      refine z_goto (tgt := 271) zh dX9_reads_152 rfl ?_
                      exact z_vret zh dX9_reads_271 ⟨rfl, hG⟩
                  · have r119 : Ra 65 122 x104 := (hz108 q107)
                    have r120 : Ra 0 399 x := (hr105 (ra_ne r119 rl_n1 (Or.inl (by decide)))).1
                    have hne : ¬ x104 = -1 := ra_ne r119 rl_n1 (Or.inl (by decide))
                    refine z_aloadnR zh dX9_reads_110 rfl ?_
                    refine z_aloadnR zh dX9_reads_111 rfl ?_
                    refine z_getI (x := x) zh fl_Y_350 dX9_reads_112 ck_Y rfl rfl em18 ?_
                    refine z_iconst zh dX9_reads_115 ki_1 ?_
                    refine y_iadd zh dX9_reads_116 r120 rl_1 (u := 1) (v := 400) rfl rfl (by decide) (by decide) (fun x121 hc121 hx121 => ?_)
                    refine z_putI zh fl_Y_350 dX9_reads_117 ck_Y rfl rfl (Nat.le_of_ble_eq_true rfl) (Or.inl rfl) ?_
                    have hG : SI sp σ (upI iv 551 18 x121) := si_w (k := 551) (j := 18) hG (by decide) (by decide) (sp_no hG ((spc_Y (q := 0)).trans rfl)) (fun lo hi q => (rx_some (ra_w hx121 (by decide) (by decide))) lo hi ((rg_Y (q := 0)).symm.trans q))
                    have em122 := (upI_ne (iv := iv) (k := 551) (j := 18) (x := x121) (a := 551) (b := 19) (Or.inr (by decide))).trans em19
                    have em123 : upI iv 551 18 x121 551 18 = x121 := by rw [upI_at, if_pos ⟨rfl, rfl⟩]
                    have et124 : upI iv 551 18 x121 561 = tp := (upI_n (by decide)).trans et5
                    generalize upI iv 551 18 x121 = iv at hG em122 em123 et124 ⊢
                    refine z_goto (tgt := 95) zh dX9_reads_120 rfl ?_
                    exact ih95 iv lv x121 hG em123 (ra_w hx121 (by decide) (by decide)) em122 et124 (lts_up hl r120 (bs_add hc121 rl_1) (hr106 hne) r119) (ms_up (bs_add hc121 rl_1) (by decide) hq)
              have hnc : ¬ x21 = -1 := ra_ne r103 rl_n1 (Or.inl (by decide))
              exact J95 401 iv lv x26 hG em33 (ra_w hx26 (by decide) (by decide)) em31 et35 (lts_up (b := x1) (fun j h1 h2 => absurd h2 (by omega)) r25 (bs_add hc26 rl_1) (hr23 hnc) r103) (ms_u0 hx26 (by decide))
          · have r125 := rb_eq (u := (-1)) (v := (-1)) (ra_tt x21) rl_n1 q24 (by decide) (by decide)
            refine z_aloadnR zh dX9_reads_66 rfl ?_
            refine z_iconst zh dX9_reads_67 ki_0 ?_
            refine z_putI zh fl_Y_359 dX9_reads_68 ck_Y rfl rfl (Nat.le_of_ble_eq_true rfl) (Or.inl rfl) ?_
            have hG : SI sp σ (upI iv 551 20 (nI 0)) := si_w (k := 551) (j := 20) hG (by decide) (by decide) (sp_no hG ((spc_Y (q := 0)).trans rfl)) (fun lo hi q => (rx_none rfl) lo hi ((rg_Y (q := 0)).symm.trans q))
            have em126 := (upI_ne (iv := iv) (k := 551) (j := 20) (x := nI 0) (a := 551) (b := 18) (Or.inr (by decide))).trans em17
            have em127 := (upI_ne (iv := iv) (k := 551) (j := 20) (x := nI 0) (a := 551) (b := 19) (Or.inr (by decide))).trans em18
            have em128 : upI iv 551 20 (nI 0) 551 20 = nI 0 := by rw [upI_at, if_pos ⟨rfl, rfl⟩]
            have et129 : upI iv 551 20 (nI 0) 561 = tp := (upI_n (by decide)).trans et20
            generalize upI iv 551 20 (nI 0) = iv at hG em126 em127 em128 et129 ⊢
            exact z_vret zh dX9_reads_71 ⟨rfl, hG⟩
        · have r130 := rb_eq (u := 10) (v := 10) (ra_tt x12) rl_10 q14 (by decide) (by decide)
          have r131 : Ra 0 399 x1 := (hr13 (ra_ne r130.1 rl_n1 (Or.inl (by decide)))).1
          exact J26 iv lv hG em2 r131
  obtain ⟨x132, ex132⟩ : ∃ z, iv 551 18 = z := ⟨_, rfl⟩
  have hx132 : Ra 0 401 x132 := ra_of ex132 (si_Y hG 0 (j := 18) rfl)
  exact J0 402 iv lv x132 hG ex132 hx132 (ms_u0 hx132 (by decide))
