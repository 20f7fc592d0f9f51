/-! THE IMAGE, told exactly where the left parts hang on it -/
set_option maxHeartbeats 1000000 in
set_option maxRecDepth 20000 in
theorem e_X8_image_t (g : GE) {sp : Nat → Nat → Bool} {σ : Iv} {iv : Iv} {lv : Lv} {a1 : Int32} (hG : SI sp σ iv) (hN : ∀ r j, r < 180 → sp (181 + r) j = false) (hS2 : ∀ r j, kH r j = true → sp (1 + r) j = true) (hI : sp 0 4 = false) (ht : ¬ a1 = 0) : ConI g yX8_image cX8_image 2 (some .boolean) 3 [rf g 0, .int a1] iv lv (fun r iv lv => SI sp σ iv ∧ r = nI 1 ∧ iv 0 4 = nI 1 ∧ CpF 181 1 σ iv) := by
  refine con_intro (own := "RollingNets") (by decide +kernel) rfl (Nat.le_of_ble_eq_true rfl) (L0 := [some (rf g 0), some (.int a1)]) rfl (fun Z zh => ?_)
  refine z_iloadn zh dX8_image_0 rfl ?_
  refine z_if_eq (tgt := 22) zh dX8_image_1 rfl (fun q1 => absurd q1 ht) (fun q1 => ?_)
  refine z_aloadnR zh dX8_image_4 rfl ?_
  refine z_getf zh fl_RollingNets_16 dX8_image_5 ck_X rfl rfl ?_
  refine z_aloadnR zh dX8_image_8 rfl ?_
  refine z_getf zh fl_RollingNets_12 dX8_image_9 ck_X rfl rfl ?_
  refine z_callVV zh mv_RollingNets_191 dX8_image_12 (ck_H isH_2) rfl (e_X1_copyFrom g isH_2 isH_1 hG (by decide) hN hS2) ⟨Nat.le_of_ble_eq_true rfl, Nat.le_of_ble_eq_true rfl⟩ rfl rfl (Nat.le_of_ble_eq_true rfl) ?_
  rintro iv lv ⟨hG, hC⟩
  refine z_aloadnR zh dX8_image_15 rfl ?_
  refine z_iconst zh dX8_image_16 ki_1 ?_
  refine z_putI zh fl_RollingNets_29 dX8_image_17 ck_X rfl rfl (Nat.le_of_ble_eq_true rfl) (Or.inr ⟨rfl, ra_01 (ra_w rl_1 (by decide) (by decide))⟩) ?_
  have hG : SI sp σ (upI iv 0 4 (nI 1)) := si_w (k := 0) (j := 4) hG (by decide) (by decide) hI (rx_none rfl)
  have em6 : upI iv 0 4 (nI 1) 0 4 = nI 1 := by rw [upI_at, if_pos ⟨rfl, rfl⟩]
  have hC : CpF 181 1 σ (upI iv 0 4 (nI 1)) := by
    refine ⟨?_, ?_, ?_, fun c hc j hj => ?_, ?_, ?_⟩ <;> rw [upI_ne (Or.inl (by omega))]
    · exact hC.1
    · exact hC.2.1
    · exact hC.2.2.1
    · exact hC.2.2.2.1 c hc j hj
    · exact hC.2.2.2.2.1
    · exact hC.2.2.2.2.2
  generalize upI iv 0 4 (nI 1) = iv at hG em6 hC ⊢
  refine z_iconst zh dX8_image_20 ki_1 ?_
  exact z_zret zh dX8_image_21 (ra_01 (ra_w rl_1 (by decide) (by decide))) ⟨_, rfl, hG, rfl, em6, hC⟩
set_option maxHeartbeats 1000000 in
set_option maxRecDepth 20000 in
theorem e_X8_image_u (g : GE) {sp : Nat → Nat → Bool} {σ : Iv} {iv : Iv} {lv : Lv} {f : Int32} (hG : SI sp σ iv) (hN : ∀ r j, r < 180 → sp (1 + r) j = false) (hS2 : ∀ r j, kH r j = true → sp (181 + r) j = true) (ef : iv 0 4 = f) (hf : ¬ f = 0) : ConI g yX8_image cX8_image 2 (some .boolean) 3 [rf g 0, .int 0] iv lv (fun r iv lv => SI sp σ iv ∧ r = nI 1 ∧ CpF 1 181 σ iv) := by
  refine con_intro (own := "RollingNets") (by decide +kernel) rfl (Nat.le_of_ble_eq_true rfl) (L0 := [some (rf g 0), some (.int 0)]) rfl (fun Z zh => ?_)
  refine z_iloadn zh dX8_image_0 rfl ?_
  refine z_if_eq (tgt := 22) zh dX8_image_1 rfl (fun q1 => ?_) (fun q1 => absurd rfl q1)
  refine z_aloadnR zh dX8_image_22 rfl ?_
  refine z_getI (x := f) zh fl_RollingNets_29 dX8_image_23 ck_X rfl rfl ef ?_
  refine z_if_ne (tgt := 31) zh dX8_image_26 rfl (fun q4 => ?_) (fun q4 => absurd q4 hf)
  refine z_aloadnR zh dX8_image_31 rfl ?_
  refine z_getf zh fl_RollingNets_12 dX8_image_32 ck_X rfl rfl ?_
  refine z_aloadnR zh dX8_image_35 rfl ?_
  refine z_getf zh fl_RollingNets_16 dX8_image_36 ck_X rfl rfl ?_
  refine z_callVV zh mv_RollingNets_191 dX8_image_39 (ck_H isH_1) rfl (e_X1_copyFrom g isH_1 isH_2 hG (by decide) hN hS2) ⟨Nat.le_of_ble_eq_true rfl, Nat.le_of_ble_eq_true rfl⟩ rfl rfl (Nat.le_of_ble_eq_true rfl) ?_
  rintro iv lv ⟨hG, hC⟩
  refine z_iconst zh dX8_image_42 ki_1 ?_
  exact z_zret zh dX8_image_43 (ra_01 (ra_w rl_1 (by decide) (by decide))) ⟨_, rfl, hG, rfl, hC⟩

set_option maxHeartbeats 1000000 in
set_option maxRecDepth 20000 in
theorem e_X8_image_n (g : GE) {iv : Iv} {lv : Lv} (ef : iv 0 4 = 0) : ConIp g yX8_image cX8_image 2 (some .boolean) 3 [rf g 0, .int 0] iv lv (nI 0) := by
  refine con_intro (own := "RollingNets") (by decide +kernel) rfl (Nat.le_of_ble_eq_true rfl) (L0 := [some (rf g 0), some (.int 0)]) rfl (fun Z zh => ?_)
  refine z_iloadn zh dX8_image_0 rfl ?_
  refine z_if_eq (tgt := 22) zh dX8_image_1 rfl (fun q1 => ?_) (fun q1 => absurd rfl q1)
  refine z_aloadnR zh dX8_image_22 rfl ?_
  refine z_getI (x := 0) zh fl_RollingNets_29 dX8_image_23 ck_X rfl rfl ef ?_
  refine z_if_ne (tgt := 31) zh dX8_image_26 rfl (fun q4 => absurd rfl q4) (fun q4 => ?_)
  refine z_iconst zh dX8_image_29 ki_0 ?_
  exact z_zret zh dX8_image_30 (Or.inl rfl) (qI rfl)
def ImF (iv : Iv) : Prop := (∀ j : Nat, j < 19782 → iv 564 j = iv 552 j) ∧ (∀ j : Nat, (j : Int) < 144 → iv 564 (19782 + j) = iv 563 j) ∧ iv 564 19926 = iv 551 27
set_option maxHeartbeats 1000000 in
set_option maxRecDepth 20000 in
theorem e_X9_image (g : GE) {sp : Nat → Nat → Bool} {σ : Iv} {iv : Iv} {lv : Lv} {a1 f : Int32} (hG : SI sp σ iv) (hs52 : a1 = 0 → ∀ j, sp 552 j = false) (hs64 : ¬ a1 = 0 → ∀ j, sp 564 j = false) (h63 : a1 = 0 → ∀ j, sp 563 j = false) (h27 : a1 = 0 → sp 551 27 = false) (hI : sp 551 29 = false) (ef : iv 551 29 = f) (hf : ¬ (a1 = 0 ∧ f = 0)) : ConI g yX9_image cX9_image 3 (some .boolean) 1 [rf g 551, .int a1] iv lv (fun r iv lv => SI sp σ iv ∧ r = nI 1 ∧ iv 551 29 = nI 1 ∧ ImF iv) := by
  refine con_intro (own := "RollingNetsModel") (by decide +kernel) rfl (Nat.le_of_ble_eq_true rfl) (L0 := [some (rf g 551), some (.int a1), none]) rfl (fun Z zh => ?_)
  refine z_aloadnR zh dX9_image_0 rfl ?_
  refine z_iconst zh dX9_image_1 ki_0 ?_
  refine z_putI zh fl_Y_58 dX9_image_2 ck_Y rfl rfl (Nat.le_of_ble_eq_true rfl) (Or.inl rfl) ?_
  have hG : SI sp σ (upI iv 551 0 (nI 0)) := si_w (k := 551) (j := 0) hG (by decide) (by decide) (sp_no hG ((spc_Y (q := 0)).trans rfl)) (fun lo hi q => (rx_none rfl) lo hi ((rg_Y (q := 0)).symm.trans q))
  have em1 : upI iv 551 0 (nI 0) 551 0 = nI 0 := by rw [upI_at, if_pos ⟨rfl, rfl⟩]
  have ef : upI iv 551 0 (nI 0) 551 29 = f := (upI_ne (Or.inr (by decide))).trans ef
  generalize upI iv 551 0 (nI 0) = iv at hG em1 ef ⊢
  refine z_iloadn zh dX9_image_5 rfl ?_
  have J18 : ∀ (iv : Iv) (lv : Lv), SI sp σ iv → Z 18 [some (rf g 551), some (.int a1), none] [] iv lv := by
    intro iv lv hG
    refine z_aloadnR zh dX9_image_18 rfl ?_
    refine z_iconst zh dX9_image_19 ki_1 ?_
    refine z_putI zh fl_Y_441 dX9_image_20 ck_Y rfl rfl (Nat.le_of_ble_eq_true rfl) (Or.inr ⟨rfl, ra_01 (ra_w rl_1 (by decide) (by decide))⟩) ?_
    have hG : SI sp σ (upI iv 551 29 (nI 1)) := si_w (k := 551) (j := 29) hG (by decide) (by decide) hI (fun lo hi q => (rx_none rfl) lo hi ((rg_Y (q := 0)).symm.trans q))
    have em14 : upI iv 551 29 (nI 1) 551 29 = nI 1 := by rw [upI_at, if_pos ⟨rfl, rfl⟩]
    generalize upI iv 551 29 (nI 1) = iv at hG em14 ⊢
    obtain ⟨i0, e0i⟩ : ∃ z, z = iv := ⟨_, rfl⟩
    have hS : SI sp σ i0 := by rw [e0i]; exact hG
    have e29 : i0 551 29 = nI 1 := by rw [e0i]; exact em14
    have hG : SI (sp1 sp 551 29) i0 iv := by rw [e0i]; exact si_add hG ((spc_Y (q := 0)).trans rfl)
    have J199 : ∀ (iv : Iv) (lv : Lv) (k : Int32), SI (sp1 sp 551 29) i0 iv → ImF iv → Z 199 [some (rf g 551), some (.int a1), some (.int k)] [] iv lv := fun iv lv k hG hM => by
      refine z_iconst zh dX9_image_199 ki_1 ?_
      have hd := si_drop hS hG
      exact z_zret zh dX9_image_200 (Or.inr rfl) ⟨_, rfl, hd.1, rfl, hd.2.trans e29, hM⟩
    have J168 : ∀ (iv : Iv) (lv : Lv) (k : Int32), SI (sp1 sp 551 29) i0 iv → (∀ j : Nat, j < 19782 → iv 564 j = iv 552 j) → (∀ j : Nat, (j : Int) < 144 → iv 564 (19782 + j) = iv 563 j) → Z 168 [some (rf g 551), some (.int a1), some (.int k)] [] iv lv := by
      intro iv lv k hG hC hD
      refine z_iloadn zh dX9_image_168 rfl ?_
      refine z_if_eq (tgt := 187) zh dX9_image_169 rfl (fun hz => ?_) (fun hz => ?_)
      · refine z_aloadnR zh dX9_image_187 rfl ?_
        refine z_aloadnR zh dX9_image_188 rfl ?_
        refine z_getf zh fl_Y_52 dX9_image_189 ck_Y rfl rfl ?_
        refine z_sipush zh dX9_image_192 ks_19926 ?_
        refine y_ialdN zh ck_images dX9_image_195 (by decide) (fun pm epm => ?_)
        have hpm : Ra 0 24 pm := ra_of epm (si_c hG rg_J3)
        refine z_putI zh fl_Y_407 dX9_image_196 ck_Y rfl rfl (Nat.le_of_ble_eq_true rfl) (Or.inl rfl) ?_
        have hG : SI (sp1 sp 551 29) i0 (upI iv 551 27 pm) := si_w (k := 551) (j := 27) hG (by decide) (by decide) (sp1_no (h27 hz) (Or.inr (by decide))) (fun lo hi q => (rx_some hpm) lo hi ((rg_Y (q := 0)).symm.trans q))
        have em2 : upI iv 551 27 pm 551 27 = pm := by rw [upI_at, if_pos ⟨rfl, rfl⟩]
        have hM : ImF (upI iv 551 27 pm) := by
          refine ⟨fun j hj => ?_, fun j hj => ?_, ?_⟩
          · rw [upI_ne (Or.inl (by decide)), upI_ne (Or.inl (by decide))]; exact hC j hj
          · rw [upI_ne (Or.inl (by decide)), upI_ne (Or.inl (by decide))]; exact hD j hj
          · rw [em2, upI_ne (Or.inl (by decide))]; exact epm
        exact J199 _ lv k hG hM
      · refine z_aloadnR zh dX9_image_172 rfl ?_
        refine z_getf zh fl_Y_52 dX9_image_173 ck_Y rfl rfl ?_
        refine z_sipush zh dX9_image_176 ks_19926 ?_
        refine z_aloadnR zh dX9_image_179 rfl ?_
        refine y_getI zh fl_Y_407 dX9_image_180 ck_Y rfl rfl (fun x3 ex3 => ?_)
        have hx3 : Ra 0 24 x3 := ra_of ex3 (si_Y hG 0 (j := 27) rfl)
        refine z_iastN (j := 19926) zh ck_images dX9_image_183 (by decide) ?_
        have hG1 : SI (sp1 sp 551 29) i0 (upI iv 564 19926 x3) := si_J hG (sp1_no (hs64 hz _) (Or.inl (by decide))) (by decide) (fun lo hi e => by rw [rg_J3] at e; cases e; exact hx3)
        have hM : ImF (upI iv 564 19926 x3) := by
          refine ⟨fun j hj => ?_, fun j hj => ?_, ?_⟩
          · rw [upI_ne (Or.inr (by omega)), upI_ne (Or.inl (by decide))]; exact hC j hj
          · rw [upI_ne (Or.inr (by omega)), upI_ne (Or.inl (by decide))]; exact hD j hj
          · rw [upI_at, if_pos ⟨rfl, rfl⟩, upI_ne (Or.inl (by decide))]; exact ex3.symm
        exact z_goto (tgt := 199) zh dX9_image_184 rfl (J199 _ lv k hG1 hM)
    have J125 : ∀ (q : Nat) (iv : Iv) (lv : Lv) (k : Int32), SI (sp1 sp 551 29) i0 iv → (∀ j : Nat, j < 19782 → iv 564 j = iv 552 j) → (∀ j : Nat, (j : Int) < 144 → iv 564 (19782 + j) = iv 563 j) → Ra 0 13 k → 13 - k.toInt < (q : Int) → Z 125 [some (rf g 551), some (.int a1), some (.int k)] [] iv lv := by
      intro q
      induction q with
      | zero => intro iv lv k _ _ _ hk hn; exact (ms_uz hk hn).elim
      | succ q ih =>
        intro iv lv k hG hC hD hk hn
        refine z_iloadn zh dX9_image_125 rfl ?_
        refine z_bipush zh dX9_image_126 kb_13 ?_
        refine z_icmp_ge (tgt := 168) zh dX9_image_128 rfl (fun _ => J168 iv lv k hG hC hD) (fun q => ?_)
        have hk1 : Ra 0 12 k := rb_lt_l rl_13 hk (rb_nle q) (by decide)
        have J162 : ∀ lv, Z 162 [some (rf g 551), some (.int a1), some (.int k)] [] iv lv := by
          intro lv
          refine y_iinc (L' := fun z => [some (rf g 551), some (.int a1), some (.int z)]) zh dX9_image_162 (by decide) rfl (by decide +kernel) hk1 (u := 1) (v := 13) rfl rfl (by decide) (by decide) (fun _ => rfl) (fun x4 hc4 hx4 => ?_)
          refine z_goto (tgt := 125) zh dX9_image_165 rfl ?_
          exact ih iv lv x4 hG hC hD (ra_w hx4 (by decide) (by decide)) (ms_up hc4 (by decide) hn)
        refine z_iloadn zh dX9_image_131 rfl ?_
        refine z_if_eq (tgt := 150) zh dX9_image_132 rfl (fun _ => ?_) (fun _ => ?_)
        · refine z_aloadnR zh dX9_image_150 rfl ?_
          refine z_getf zh fl_Y_16 dX9_image_151 ck_Y rfl rfl ?_
          refine z_iloadn zh dX9_image_154 rfl ?_
          refine z_aloadnR zh dX9_image_155 rfl ?_
          refine z_getf zh fl_Y_55 dX9_image_156 ck_Y rfl rfl ?_
          refine z_iloadn zh dX9_image_159 rfl ?_
          refine y_lald zh ck_icoins dX9_image_160 hk1 (by decide) (by decide) (fun l5 => ?_)
          refine z_last zh ck_coins dX9_image_161 (ra_in hk1 (by decide) (by decide)) ?_
          generalize upL lv 554 k.toNatClampNeg l5 = lv
          exact J162 lv
        · refine z_aloadnR zh dX9_image_135 rfl ?_
          refine z_getf zh fl_Y_55 dX9_image_136 ck_Y rfl rfl ?_
          refine z_iloadn zh dX9_image_139 rfl ?_
          refine z_aloadnR zh dX9_image_140 rfl ?_
          refine z_getf zh fl_Y_16 dX9_image_141 ck_Y rfl rfl ?_
          refine z_iloadn zh dX9_image_144 rfl ?_
          refine y_lald zh ck_coins dX9_image_145 hk1 (by decide) (by decide) (fun l6 => ?_)
          refine z_last zh ck_icoins dX9_image_146 (ra_in hk1 (by decide) (by decide)) ?_
          generalize upL lv 565 k.toNatClampNeg l6 = lv
          exact z_goto (tgt := 162) zh dX9_image_147 rfl (J162 lv)
    have J71 : ∀ (q : Nat) (iv : Iv) (lv : Lv) (k : Int32), SI (sp1 sp 551 29) i0 iv → (∀ j : Nat, j < 19782 → iv 564 j = iv 552 j) → (∀ j : Nat, (j : Int) < k.toInt → iv 564 (19782 + j) = iv 563 j) → Ra 0 144 k → 144 - k.toInt < (q : Int) → Z 71 [some (rf g 551), some (.int a1), some (.int k)] [] iv lv := by
      intro q
      induction q with
      | zero => intro iv lv k _ _ _ hk hn; exact (ms_uz hk hn).elim
      | succ q ih =>
        intro iv lv k hG hC hD hk hn
        refine z_iloadn zh dX9_image_71 rfl ?_
        refine z_sipush zh dX9_image_72 ks_144 ?_
        refine z_icmp_ge (tgt := 123) zh dX9_image_75 rfl (fun q => ?_) (fun q => ?_)
        · refine z_iconst zh dX9_image_123 ki_0 ?_
          refine z_istoren zh dX9_image_124 (by decide) (L' := [some (rf g 551), some (.int a1), some (.int (nI 0))]) rfl ?_
          have q9 := leI.mp q
          have e144 := rl_144.1
          exact J125 14 iv lv (nI 0) hG hC (fun j hj => hD j (by omega)) (ra_w rl_0 (by decide) (by decide)) (ms_u0 rl_0 (by decide))
        · have hk1 : Ra 0 143 k := rb_lt_l rl_144 hk (rb_nle q) (by decide)
          have J117 : ∀ iv lv, SI (sp1 sp 551 29) i0 iv → (∀ j : Nat, j < 19782 → iv 564 j = iv 552 j) → (∀ j : Nat, (j : Int) < k.toInt + 1 → iv 564 (19782 + j) = iv 563 j) → Z 117 [some (rf g 551), some (.int a1), some (.int k)] [] iv lv := by
            intro iv lv hG hC hD
            refine y_iinc (L' := fun z => [some (rf g 551), some (.int a1), some (.int z)]) zh dX9_image_117 (by decide) rfl (by decide +kernel) hk1 (u := 1) (v := 144) rfl rfl (by decide) (by decide) (fun _ => rfl) (fun x7 hc7 hx7 => ?_)
            refine z_goto (tgt := 71) zh dX9_image_120 rfl ?_
            rw [← hc7] at hD
            exact ih iv lv x7 hG hC hD (ra_w hx7 (by decide) (by decide)) (ms_up hc7 (by decide) hn)
          refine z_iloadn zh dX9_image_78 rfl ?_
          refine z_if_eq (tgt := 101) zh dX9_image_79 rfl (fun hz => ?_) (fun hz => ?_)
          · refine z_aloadnR zh dX9_image_101 rfl ?_
            refine z_getf zh fl_Y_49 dX9_image_102 ck_Y rfl rfl ?_
            refine z_iloadn zh dX9_image_105 rfl ?_
            refine z_aloadnR zh dX9_image_106 rfl ?_
            refine z_getf zh fl_Y_52 dX9_image_107 ck_Y rfl rfl ?_
            refine z_sipush zh dX9_image_110 ks_19782 ?_
            refine z_iloadn zh dX9_image_113 rfl ?_
            refine y_iadd zh dX9_image_114 rl_19782 hk1 (u := 19782) (v := 19925) rfl rfl (by decide) (by decide) (fun x8 hc8 hx8 => ?_)
            refine y_iald zh ck_images dX9_image_115 hx8 (by decide) (by decide) (fun x9 ex9 => ?_)
            refine z_iast zh ck_plans dX9_image_116 (ra_in hk1 (by decide) (by decide)) ?_
            have hG : SI (sp1 sp 551 29) i0 (upI iv 563 k.toNatClampNeg x9) := si_w (k := 563) hG (by decide) (by decide) (sp1_no (h63 hz _) (Or.inl (by decide))) (rx_none rfl)
            have ec := ra_clamp hk1 (by decide)
            have ec8 := ra_clamp hx8 (by decide)
            have e82 := rl_19782.1; have e83 := rl_19782.2
            have hC1 : ∀ j : Nat, j < 19782 → upI iv 563 k.toNatClampNeg x9 564 j = upI iv 563 k.toNatClampNeg x9 552 j := fun j hj => by
              rw [upI_ne (Or.inl (by decide)), upI_ne (Or.inl (by decide))]; exact hC j hj
            have hD1 : ∀ j : Nat, (j : Int) < k.toInt + 1 → upI iv 563 k.toNatClampNeg x9 564 (19782 + j) = upI iv 563 k.toNatClampNeg x9 563 j := fun j hj => by
              rw [upI_ne (k := 563) (a := 564) (Or.inl (by decide)), upI_at]
              by_cases e : j = k.toNatClampNeg
              · subst e
                rw [if_pos ⟨rfl, rfl⟩, ← ex9]
                exact congrArg (iv 564) (by omega)
              · rw [if_neg (fun z => e z.2)]; exact hD j (by omega)
            exact J117 _ lv hG hC1 hD1
          · refine z_aloadnR zh dX9_image_82 rfl ?_
            refine z_getf zh fl_Y_52 dX9_image_83 ck_Y rfl rfl ?_
            refine z_sipush zh dX9_image_86 ks_19782 ?_
            refine z_iloadn zh dX9_image_89 rfl ?_
            refine y_iadd zh dX9_image_90 rl_19782 hk1 (u := 19782) (v := 19925) rfl rfl (by decide) (by decide) (fun x10 hc10 hx10 => ?_)
            refine z_aloadnR zh dX9_image_91 rfl ?_
            refine z_getf zh fl_Y_49 dX9_image_92 ck_Y rfl rfl ?_
            refine z_iloadn zh dX9_image_95 rfl ?_
            refine y_iald zh ck_plans dX9_image_96 hk1 (by decide) (by decide) (fun x11 ex11 => ?_)
            refine z_iast zh ck_images dX9_image_97 (ra_in hx10 (by decide) (by decide)) ?_
            have ej : ((x10.toNatClampNeg : Nat) : Int) = x10.toInt := ra_clamp hx10 (by decide)
            have hb : 19782 ≤ x10.toInt ∧ x10.toInt < 19926 := by have := rl_19782.1; have := rl_19782.2; have := hk1.1; have := hk1.2; omega
            have hG1 : SI (sp1 sp 551 29) i0 (upI iv 564 x10.toNatClampNeg x11) := si_J hG (sp1_no (hs64 hz _) (Or.inl (by decide))) (by omega) (rx_none (rg_J2 (by omega) (by omega)))
            have ec := ra_clamp hk1 (by decide)
            have e82 := rl_19782.1; have e83 := rl_19782.2
            have hC1 : ∀ j : Nat, j < 19782 → upI iv 564 x10.toNatClampNeg x11 564 j = upI iv 564 x10.toNatClampNeg x11 552 j := fun j hj => by
              rw [upI_ne (Or.inr (by omega)), upI_ne (Or.inl (by decide))]; exact hC j hj
            have hD1 : ∀ j : Nat, (j : Int) < k.toInt + 1 → upI iv 564 x10.toNatClampNeg x11 564 (19782 + j) = upI iv 564 x10.toNatClampNeg x11 563 j := fun j hj => by
              rw [upI_ne (k := 564) (a := 563) (Or.inl (by decide)), upI_at]
              by_cases e : j = k.toNatClampNeg
              · subst e
                rw [if_pos ⟨rfl, by omega⟩]
                exact ex11.symm
              · rw [if_neg (fun z => e (by omega))]; exact hD j (by omega)
            exact z_goto (tgt := 117) zh dX9_image_98 rfl (J117 _ lv hG1 hC1 hD1)
    have J25t : ¬ a1 = 0 → ∀ (q : Nat) (iv : Iv) (lv : Lv) (k : Int32), SA 564 (sp1 sp 551 29) i0 iv → (∀ j : Nat, (j : Int) < k.toInt → iv 564 j = iv 552 j) → Ra 0 19782 k → 19782 - k.toInt < (q : Int) → Z 25 [some (rf g 551), some (.int a1), some (.int k)] [] iv lv := by
      intro ht q
      induction q with
      | zero => intro iv lv k _ _ hk hn; exact (ms_uz hk hn).elim
      | succ q ih =>
        intro iv lv k hG hC hk hn
        refine z_iloadn zh dX9_image_25 rfl ?_
        refine z_sipush zh dX9_image_26 ks_19782 ?_
        refine z_icmp_ge (tgt := 69) zh dX9_image_29 rfl (fun q => ?_) (fun q => ?_)
        · have q0 := leI.mp q
          have o9 := rl_19782.1
          have hG1 : SI (sp1 sp 551 29) i0 iv := ⟨hG.1, hG.2.1, hG.2.2.1, hG.2.2.2.1.resolve_left (by decide), lots_cong (hG.2.2.2.1.resolve_left (by decide)) (fun j hj => hC j (by omega))⟩
          refine z_iconst zh dX9_image_69 ki_0 ?_
          refine z_istoren zh dX9_image_70 (by decide) (L' := [some (rf g 551), some (.int a1), some (.int (nI 0))]) rfl ?_
          exact J71 145 iv lv (nI 0) hG1 (fun j hj => hC j (by omega)) (fun j hj => by have := rl_0.2; omega) (ra_w rl_0 (by decide) (by decide)) (ms_u0 rl_0 (by decide))
        · have hk1 : Ra 0 19781 k := rb_lt_l rl_19782 hk (rb_nle q) (by decide)
          refine z_iloadn zh dX9_image_32 rfl ?_
          refine z_if_eq (tgt := 51) zh dX9_image_33 rfl (fun q3 => absurd q3 ht) (fun q3 => ?_)
          refine z_aloadnR zh dX9_image_36 rfl ?_
          refine z_getf zh fl_Y_52 dX9_image_37 ck_Y rfl rfl ?_
          refine z_iloadn zh dX9_image_40 rfl ?_
          refine z_aloadnR zh dX9_image_41 rfl ?_
          refine z_getf zh fl_Y_7 dX9_image_42 ck_Y rfl rfl ?_
          refine z_iloadn zh dX9_image_45 rfl ?_
          have ec := ra_clamp hk1 (by decide)
          have k1 := hk1.1; have k2 := hk1.2
          refine y_iald zh ck_now dX9_image_46 hk1 (by decide) (by decide) (fun v ev => ?_)
          refine z_iast zh ck_images dX9_image_47 (ra_in hk1 (by decide) (by decide)) ?_
          have hG1 : SA 564 (sp1 sp 551 29) i0 (upI iv 564 k.toNatClampNeg v) := sa_w hG (Or.inr rfl) (fun q => by rw [sp1_no (hs64 ht _) (Or.inl (by decide))] at q; cases q) (fun lo hi e => ra_of ev (hG.2.2.1 _ _ _ _ (rg_N.trans ((rg_J (by omega)).symm.trans e))))
          have hC1 : ∀ j : Nat, (j : Int) < k.toInt + 1 → upI iv 564 k.toNatClampNeg v 564 j = upI iv 564 k.toNatClampNeg v 552 j := fun j hj => by
            rw [upI_ne (a := 552) (Or.inl (by decide))]
            by_cases e : j = k.toNatClampNeg
            · subst e; rw [upI_at, if_pos ⟨rfl, rfl⟩]; exact ev.symm
            · rw [upI_ne (Or.inr e)]; exact hC j (by omega)
          revert hG1 hC1; generalize upI iv 564 k.toNatClampNeg v = iv; intro hG hC
          refine z_goto (tgt := 63) zh dX9_image_48 rfl ?_
          refine y_iinc (L' := fun z => [some (rf g 551), some (.int a1), some (.int z)]) zh dX9_image_63 (by decide) rfl (by decide +kernel) hk1 (u := 1) (v := 19782) rfl rfl (by decide) (by decide) (fun _ => rfl) (fun x12 hc12 hx12 => ?_)
          refine z_goto (tgt := 25) zh dX9_image_66 rfl ?_
          rw [← hc12] at hC
          exact ih iv lv x12 hG hC (ra_w hx12 (by decide) (by decide)) (ms_up hc12 (by decide) hn)
    have J25u : a1 = 0 → ∀ (q : Nat) (iv : Iv) (lv : Lv) (k : Int32), SA 552 (sp1 sp 551 29) i0 iv → (∀ j : Nat, (j : Int) < k.toInt → iv 552 j = iv 564 j) → Ra 0 19782 k → 19782 - k.toInt < (q : Int) → Z 25 [some (rf g 551), some (.int a1), some (.int k)] [] iv lv := by
      intro ht q
      induction q with
      | zero => intro iv lv k _ _ hk hn; exact (ms_uz hk hn).elim
      | succ q ih =>
        intro iv lv k hG hC hk hn
        refine z_iloadn zh dX9_image_25 rfl ?_
        refine z_sipush zh dX9_image_26 ks_19782 ?_
        refine z_icmp_ge (tgt := 69) zh dX9_image_29 rfl (fun q => ?_) (fun q => ?_)
        · have q0 := leI.mp q
          have o9 := rl_19782.1
          have hG1 : SI (sp1 sp 551 29) i0 iv := ⟨hG.1, hG.2.1, hG.2.2.1, lots_cong (hG.2.2.2.2.resolve_left (by decide)) (fun j hj => hC j (by omega)), hG.2.2.2.2.resolve_left (by decide)⟩
          refine z_iconst zh dX9_image_69 ki_0 ?_
          refine z_istoren zh dX9_image_70 (by decide) (L' := [some (rf g 551), some (.int a1), some (.int (nI 0))]) rfl ?_
          exact J71 145 iv lv (nI 0) hG1 (fun j hj => (hC j (by omega)).symm) (fun j hj => by have := rl_0.2; omega) (ra_w rl_0 (by decide) (by decide)) (ms_u0 rl_0 (by decide))
        · have hk1 : Ra 0 19781 k := rb_lt_l rl_19782 hk (rb_nle q) (by decide)
          refine z_iloadn zh dX9_image_32 rfl ?_
          refine z_if_eq (tgt := 51) zh dX9_image_33 rfl (fun q3 => ?_) (fun q3 => absurd ht q3)
          refine z_aloadnR zh dX9_image_51 rfl ?_
          refine z_getf zh fl_Y_7 dX9_image_52 ck_Y rfl rfl ?_
          refine z_iloadn zh dX9_image_55 rfl ?_
          refine z_aloadnR zh dX9_image_56 rfl ?_
          refine z_getf zh fl_Y_52 dX9_image_57 ck_Y rfl rfl ?_
          refine z_iloadn zh dX9_image_60 rfl ?_
          have ec := ra_clamp hk1 (by decide)
          have k1 := hk1.1; have k2 := hk1.2
          refine y_iald zh ck_images dX9_image_61 hk1 (by decide) (by decide) (fun v ev => ?_)
          refine z_iast zh ck_now dX9_image_62 (ra_in hk1 (by decide) (by decide)) ?_
          have hG1 : SA 552 (sp1 sp 551 29) i0 (upI iv 552 k.toNatClampNeg v) := sa_w hG (Or.inl rfl) (fun q => by rw [sp1_no (hs52 ht _) (Or.inl (by decide))] at q; cases q) (fun lo hi e => ra_of ev (hG.2.2.1 _ _ _ _ ((rg_J (by omega)).trans (rg_N.symm.trans e))))
          have hC1 : ∀ j : Nat, (j : Int) < k.toInt + 1 → upI iv 552 k.toNatClampNeg v 552 j = upI iv 552 k.toNatClampNeg v 564 j := fun j hj => by
            rw [upI_ne (a := 564) (Or.inl (by decide))]
            by_cases e : j = k.toNatClampNeg
            · subst e; rw [upI_at, if_pos ⟨rfl, rfl⟩]; exact ev.symm
            · rw [upI_ne (Or.inr e)]; exact hC j (by omega)
          revert hG1 hC1; generalize upI iv 552 k.toNatClampNeg v = iv; intro hG hC
          refine y_iinc (L' := fun z => [some (rf g 551), some (.int a1), some (.int z)]) zh dX9_image_63 (by decide) rfl (by decide +kernel) hk1 (u := 1) (v := 19782) rfl rfl (by decide) (by decide) (fun _ => rfl) (fun x13 hc13 hx13 => ?_)
          refine z_goto (tgt := 25) zh dX9_image_66 rfl ?_
          rw [← hc13] at hC
          exact ih iv lv x13 hG hC (ra_w hx13 (by decide) (by decide)) (ms_up hc13 (by decide) hn)
    refine z_iconst zh dX9_image_23 ki_0 ?_
    refine z_istoren zh dX9_image_24 (by decide) (L' := [some (rf g 551), some (.int a1), some (.int (nI 0))]) rfl ?_
    have e0 := rl_0.2
    by_cases ht : a1 = 0
    · exact J25u ht 19783 iv lv (nI 0) (sa_of hG) (fun j hj => by omega) (ra_w rl_0 (by decide) (by decide)) (ms_u0 rl_0 (by decide))
    · exact J25t ht 19783 iv lv (nI 0) (sa_of hG) (fun j hj => by omega) (ra_w rl_0 (by decide) (by decide)) (ms_u0 rl_0 (by decide))
  refine z_if_ne (tgt := 18) zh dX9_image_6 rfl (fun _ => J18 iv lv hG) (fun qa => ?_)
  refine z_aloadnR zh dX9_image_9 rfl ?_
  refine z_getI (x := f) zh fl_Y_441 dX9_image_10 ck_Y rfl rfl ef ?_
  exact z_if_ne (tgt := 18) zh dX9_image_13 rfl (fun _ => J18 iv lv hG) (fun qb => absurd ⟨qa, qb⟩ hf)

set_option maxHeartbeats 1000000 in
set_option maxRecDepth 20000 in
theorem e_X9_image_n (g : GE) {sp : Nat → Nat → Bool} {σ : Iv} {iv : Iv} {lv : Lv} (hG : SI sp σ iv) (ef : iv 551 29 = 0) : ConI g yX9_image cX9_image 3 (some .boolean) 1 [rf g 551, .int 0] iv lv (fun r iv lv => SI sp σ iv ∧ r = nI 0) := by
  refine con_intro (own := "RollingNetsModel") (by decide +kernel) rfl (Nat.le_of_ble_eq_true rfl) (L0 := [some (rf g 551), some (.int 0), none]) rfl (fun Z zh => ?_)
  refine z_aloadnR zh dX9_image_0 rfl ?_
  refine z_iconst zh dX9_image_1 ki_0 ?_
  refine z_putI zh fl_Y_58 dX9_image_2 ck_Y rfl rfl (Nat.le_of_ble_eq_true rfl) (Or.inl rfl) ?_
  have hG : SI sp σ (upI iv 551 0 (nI 0)) := si_w (k := 551) (j := 0) hG (by decide) (by decide) (sp_no hG ((spc_Y (q := 0)).trans rfl)) (fun lo hi q => (rx_none rfl) lo hi ((rg_Y (q := 0)).symm.trans q))
  have ef : upI iv 551 0 (nI 0) 551 29 = 0 := (upI_ne (Or.inr (by decide))).trans ef
  generalize upI iv 551 0 (nI 0) = iv at hG ef ⊢
  refine z_iloadn zh dX9_image_5 rfl ?_
  refine z_if_ne (tgt := 18) zh dX9_image_6 rfl (fun q => absurd rfl q) (fun _ => ?_)
  refine z_aloadnR zh dX9_image_9 rfl ?_
  refine z_getI (x := 0) zh fl_Y_441 dX9_image_10 ck_Y rfl rfl ef ?_
  refine z_if_ne (tgt := 18) zh dX9_image_13 rfl (fun q => absurd rfl q) (fun _ => ?_)
  refine z_iconst zh dX9_image_16 ki_0 ?_
  exact z_zret zh dX9_image_17 (Or.inl rfl) ⟨_, rfl, hG, rfl⟩
