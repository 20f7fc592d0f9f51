/-! THE IMAGE; WHAT WOULD BE TOMORROW -/
theorem lots_cong {n m : Nat → Int32} (h : Lots n) (e : ∀ j, j < 19782 → m j = n j) : Lots m := by
  intro c hc
  refine ⟨fun a b hab hb9 hb => ?_, fun a ha9 ha => ?_⟩
  · rw [e _ (by omega)] at hb
    rw [e _ (by omega), e _ (by omega)]
    exact (h c hc).1 a b hab hb9 hb
  · rw [e _ (by omega)] at ha
    rw [e _ (by omega), e 6 (by omega)]
    exact (h c hc).2 a ha9 ha
/-- all but the order of days in one of the two rows -/
def SA (k0 : Nat) (sp : Nat → Nat → Bool) (σ iv : Iv) : Prop := (∀ k j, sp k j = true → spc k j = true) ∧ (∀ k j, sp k j = true → iv k j = σ k j) ∧ S0 iv ∧ (k0 = 552 ∨ Lots (iv 552)) ∧ (k0 = 564 ∨ Lots (iv 564))
theorem sa_of {k0 : Nat} {sp : Nat → Nat → Bool} {σ iv : Iv} (h : SI sp σ iv) : SA k0 sp σ iv := ⟨h.1, h.2.1, h.2.2.1, Or.inr h.2.2.2.1, Or.inr h.2.2.2.2⟩
theorem sa_w {k0 j : Nat} {v : Int32} {sp : Nat → Nat → Bool} {σ iv : Iv} (h : SA k0 sp σ iv) (hk : k0 = 552 ∨ k0 = 564) (hs : sp k0 j = true → v = σ k0 j) (hx : ∀ lo hi, rgI k0 j = some (lo, hi) → Ra lo hi v) : SA k0 sp σ (upI iv k0 j v) := by
  refine ⟨h.1, fun a b q => ?_, fun a b lo hi q => ?_, ?_, ?_⟩
  · rw [upI_at]
    by_cases e : a = k0 ∧ b = j
    · rw [if_pos e]; obtain ⟨rfl, rfl⟩ := e; exact hs q
    · rw [if_neg e]; exact h.2.1 _ _ q
  · rw [upI_at]
    by_cases e : a = k0 ∧ b = j
    · rw [if_pos e]; obtain ⟨rfl, rfl⟩ := e; exact hx _ _ q
    · rw [if_neg e]; exact h.2.2.1 _ _ _ _ q
  · by_cases e : k0 = 552
    · exact Or.inl e
    · rw [upI_n (Ne.symm e)]; exact h.2.2.2.1
  · by_cases e : k0 = 564
    · exact Or.inl e
    · rw [upI_n (Ne.symm e)]; exact h.2.2.2.2
theorem rg_J {j : Nat} (h : j < 19782) : rgI 564 j = rN j := (rg_Y (q := 13)).trans (by unfold rY; rw [if_neg (by decide), if_neg (by decide), if_neg (by decide), if_neg (by decide), if_neg (by decide), if_neg (by decide), if_pos rfl, if_pos h])
theorem rg_J2 {j : Nat} (h : 19782 ≤ j) (h2 : j ≠ 19926) : rgI 564 j = none := (rg_Y (q := 13)).trans (by unfold rY; rw [if_neg (by decide), if_neg (by decide), if_neg (by decide), if_neg (by decide), if_neg (by decide), if_neg (by decide), if_pos rfl, if_neg (by omega), if_neg h2])
theorem rg_J3 : rgI 564 19926 = some (0, 24) := (rg_Y (q := 13)).trans (by unfold rY; rw [if_neg (by decide), if_neg (by decide), if_neg (by decide), if_neg (by decide), if_neg (by decide), if_neg (by decide), if_pos rfl, if_neg (by decide), if_pos rfl])
theorem si_J {sp : Nat → Nat → Bool} {σ iv : Iv} {j : Nat} {v : Int32} (hG : SI sp σ iv) (hs : sp 564 j = false) (h : 19782 ≤ j) (hx : ∀ lo hi, rgI 564 j = some (lo, hi) → Ra lo hi v) : SI sp σ (upI iv 564 j v) := by
  have h1 := sa_w (k0 := 564) (sa_of hG) (Or.inr rfl) (fun q => by rw [hs] at q; cases q) hx
  refine ⟨h1.1, h1.2.1, h1.2.2.1, h1.2.2.2.1.resolve_left (by decide), ?_⟩
  rw [upI_s]
  exact lots_cong hG.2.2.2.2 (fun i hi => by unfold upd; exact if_neg (by omega))
set_option maxHeartbeats 1000000 in
set_option maxRecDepth 20000 in
theorem s_X9_image (g : GE) {sp : Nat → Nat → Bool} {σ : Iv} {iv : Iv} {lv : Lv} {a1 : Int32} (hG : SI sp σ iv) (hq : Sq sp) (hI : sp 551 29 = false) (hP : sp 552 10 = false) : ConI g yX9_image cX9_image 3 (some .boolean) 1 [rf g 551, .int a1] iv lv (fun r iv lv => SI sp σ iv ∧ Ra 0 1 r) := by
  refine con_intro (own := "RollingNetsModel") (by decide +kernel) rfl (Nat.le_of_ble_eq_true rfl) (L0 := [some (rf g 551), some (.int a1), none]) rfl (fun Z zh => ?_)
  have hs52 : ∀ j, sp 552 j = false := fun j => by
    by_cases e : j = 10
    · subst e; exact hP
    · exact sq_no hq (by unfold qok; rw [beq_false_of_ne e]; rfl)
  have hs64 : ∀ j, sp 564 j = false := fun j => sq_n hq (by decide) (by decide) (by decide)
  refine z_aloadnR zh dX9_image_0 rfl ?_
  refine z_iconst zh dX9_image_1 ki_0 ?_
  refine z_putI zh fl_Y_58 dX9_image_2 ck_Y rfl rfl (Nat.le_of_ble_eq_true rfl) (Or.inl rfl) ?_
  have hG : SI sp σ (upI iv 551 0 (nI 0)) := si_w (k := 551) (j := 0) hG (by decide) (by decide) (sp_no hG ((spc_Y (q := 0)).trans rfl)) (fun lo hi q => (rx_none rfl) lo hi ((rg_Y (q := 0)).symm.trans q))
  have em1 : upI iv 551 0 (nI 0) 551 0 = nI 0 := by rw [upI_at, if_pos ⟨rfl, rfl⟩]
  generalize upI iv 551 0 (nI 0) = iv at hG em1 ⊢
  refine z_iloadn zh dX9_image_5 rfl ?_
  have J199 : ∀ (iv : Iv) (lv : Lv) (k : Int32), SI sp σ iv → Z 199 [some (rf g 551), some (.int a1), some (.int k)] [] iv lv := fun iv lv k hG => by
    refine z_iconst zh dX9_image_199 ki_1 ?_
    exact z_zret zh dX9_image_200 (Or.inr rfl) ⟨_, rfl, hG, by decide, by decide⟩
  have J168 : ∀ (iv : Iv) (lv : Lv) (k : Int32), SI sp σ iv → Z 168 [some (rf g 551), some (.int a1), some (.int k)] [] iv lv := by
    intro iv lv k hG
    refine z_iloadn zh dX9_image_168 rfl ?_
    refine z_if_eq (tgt := 187) zh dX9_image_169 rfl (fun _ => ?_) (fun _ => ?_)
    · refine z_aloadnR zh dX9_image_187 rfl ?_
      refine z_aloadnR zh dX9_image_188 rfl ?_
      refine z_getf zh fl_Y_52 dX9_image_189 ck_Y rfl rfl ?_
      refine z_sipush zh dX9_image_192 ks_19926 ?_
      refine y_ialdN zh ck_images dX9_image_195 (by decide) (fun pm epm => ?_)
      have hpm : Ra 0 24 pm := ra_of epm (si_c hG rg_J3)
      refine z_putI zh fl_Y_407 dX9_image_196 ck_Y rfl rfl (Nat.le_of_ble_eq_true rfl) (Or.inl rfl) ?_
      have hG : SI sp σ (upI iv 551 27 pm) := si_w (k := 551) (j := 27) hG (by decide) (by decide) (sq_no hq rfl) (fun lo hi q => (rx_some hpm) lo hi ((rg_Y (q := 0)).symm.trans q))
      have em2 : upI iv 551 27 pm 551 27 = pm := by rw [upI_at, if_pos ⟨rfl, rfl⟩]
      generalize upI iv 551 27 pm = iv at hG em2 ⊢
      exact J199 iv lv k hG
    · refine z_aloadnR zh dX9_image_172 rfl ?_
      refine z_getf zh fl_Y_52 dX9_image_173 ck_Y rfl rfl ?_
      refine z_sipush zh dX9_image_176 ks_19926 ?_
      refine z_aloadnR zh dX9_image_179 rfl ?_
      refine y_getI zh fl_Y_407 dX9_image_180 ck_Y rfl rfl (fun x3 ex3 => ?_)
      have hx3 : Ra 0 24 x3 := ra_of ex3 (si_Y hG 0 (j := 27) rfl)
      refine z_iastN (j := 19926) zh ck_images dX9_image_183 (by decide) ?_
      have hG1 : SI sp σ (upI iv 564 19926 x3) := si_J hG (hs64 _) (by decide) (fun lo hi e => by rw [rg_J3] at e; cases e; exact hx3)
      revert hG1; generalize upI iv 564 19926 x3 = iv; intro hG
      exact z_goto (tgt := 199) zh dX9_image_184 rfl (J199 iv lv k hG)
  have J125 : ∀ (q : Nat) (iv : Iv) (lv : Lv) (k : Int32), SI sp σ iv → Ra 0 13 k → 13 - k.toInt < (q : Int) → Z 125 [some (rf g 551), some (.int a1), some (.int k)] [] iv lv := by
    intro q
    induction q with
    | zero => intro iv lv k _ hk hn; exact (ms_uz hk hn).elim
    | succ q ih =>
      intro iv lv k hG hk hn
      refine z_iloadn zh dX9_image_125 rfl ?_
      refine z_bipush zh dX9_image_126 kb_13 ?_
      refine z_icmp_ge (tgt := 168) zh dX9_image_128 rfl (fun _ => J168 iv lv k hG) (fun q => ?_)
      have hk1 : Ra 0 12 k := rb_lt_l rl_13 hk (rb_nle q) (by decide)
      have J162 : ∀ lv, Z 162 [some (rf g 551), some (.int a1), some (.int k)] [] iv lv := by
        intro lv
        refine y_iinc (L' := fun z => [some (rf g 551), some (.int a1), some (.int z)]) zh dX9_image_162 (by decide) rfl (by decide +kernel) hk1 (u := 1) (v := 13) rfl rfl (by decide) (by decide) (fun _ => rfl) (fun x4 hc4 hx4 => ?_)
        refine z_goto (tgt := 125) zh dX9_image_165 rfl ?_
        exact ih iv lv x4 hG (ra_w hx4 (by decide) (by decide)) (ms_up hc4 (by decide) hn)
      refine z_iloadn zh dX9_image_131 rfl ?_
      refine z_if_eq (tgt := 150) zh dX9_image_132 rfl (fun _ => ?_) (fun _ => ?_)
      · refine z_aloadnR zh dX9_image_150 rfl ?_
        refine z_getf zh fl_Y_16 dX9_image_151 ck_Y rfl rfl ?_
        refine z_iloadn zh dX9_image_154 rfl ?_
        refine z_aloadnR zh dX9_image_155 rfl ?_
        refine z_getf zh fl_Y_55 dX9_image_156 ck_Y rfl rfl ?_
        refine z_iloadn zh dX9_image_159 rfl ?_
        refine y_lald zh ck_icoins dX9_image_160 hk1 (by decide) (by decide) (fun l5 => ?_)
        refine z_last zh ck_coins dX9_image_161 (ra_in hk1 (by decide) (by decide)) ?_
        generalize upL lv 554 k.toNatClampNeg l5 = lv
        exact J162 lv
      · refine z_aloadnR zh dX9_image_135 rfl ?_
        refine z_getf zh fl_Y_55 dX9_image_136 ck_Y rfl rfl ?_
        refine z_iloadn zh dX9_image_139 rfl ?_
        refine z_aloadnR zh dX9_image_140 rfl ?_
        refine z_getf zh fl_Y_16 dX9_image_141 ck_Y rfl rfl ?_
        refine z_iloadn zh dX9_image_144 rfl ?_
        refine y_lald zh ck_coins dX9_image_145 hk1 (by decide) (by decide) (fun l6 => ?_)
        refine z_last zh ck_icoins dX9_image_146 (ra_in hk1 (by decide) (by decide)) ?_
        generalize upL lv 565 k.toNatClampNeg l6 = lv
        exact z_goto (tgt := 162) zh dX9_image_147 rfl (J162 lv)
  have J71 : ∀ (q : Nat) (iv : Iv) (lv : Lv) (k : Int32), SI sp σ iv → Ra 0 144 k → 144 - k.toInt < (q : Int) → Z 71 [some (rf g 551), some (.int a1), some (.int k)] [] iv lv := by
    intro q
    induction q with
    | zero => intro iv lv k _ hk hn; exact (ms_uz hk hn).elim
    | succ q ih =>
      intro iv lv k hG hk hn
      refine z_iloadn zh dX9_image_71 rfl ?_
      refine z_sipush zh dX9_image_72 ks_144 ?_
      refine z_icmp_ge (tgt := 123) zh dX9_image_75 rfl (fun _ => ?_) (fun q => ?_)
      · refine z_iconst zh dX9_image_123 ki_0 ?_
        refine z_istoren zh dX9_image_124 (by decide) (L' := [some (rf g 551), some (.int a1), some (.int (nI 0))]) rfl ?_
        exact J125 14 iv lv (nI 0) hG (ra_w rl_0 (by decide) (by decide)) (ms_u0 rl_0 (by decide))
      · have hk1 : Ra 0 143 k := rb_lt_l rl_144 hk (rb_nle q) (by decide)
        have J117 : ∀ iv lv, SI sp σ iv → Z 117 [some (rf g 551), some (.int a1), some (.int k)] [] iv lv := by
          intro iv lv hG
          refine y_iinc (L' := fun z => [some (rf g 551), some (.int a1), some (.int z)]) zh dX9_image_117 (by decide) rfl (by decide +kernel) hk1 (u := 1) (v := 144) rfl rfl (by decide) (by decide) (fun _ => rfl) (fun x7 hc7 hx7 => ?_)
          refine z_goto (tgt := 71) zh dX9_image_120 rfl ?_
          exact ih iv lv x7 hG (ra_w hx7 (by decide) (by decide)) (ms_up hc7 (by decide) hn)
        refine z_iloadn zh dX9_image_78 rfl ?_
        refine z_if_eq (tgt := 101) zh dX9_image_79 rfl (fun _ => ?_) (fun _ => ?_)
        · refine z_aloadnR zh dX9_image_101 rfl ?_
          refine z_getf zh fl_Y_49 dX9_image_102 ck_Y rfl rfl ?_
          refine z_iloadn zh dX9_image_105 rfl ?_
          refine z_aloadnR zh dX9_image_106 rfl ?_
          refine z_getf zh fl_Y_52 dX9_image_107 ck_Y rfl rfl ?_
          refine z_sipush zh dX9_image_110 ks_19782 ?_
          refine z_iloadn zh dX9_image_113 rfl ?_
          refine y_iadd zh dX9_image_114 rl_19782 hk1 (u := 19782) (v := 19925) rfl rfl (by decide) (by decide) (fun x8 hc8 hx8 => ?_)
          refine y_iald zh ck_images dX9_image_115 hx8 (by decide) (by decide) (fun x9 ex9 => ?_)
          refine z_iast zh ck_plans dX9_image_116 (ra_in hk1 (by decide) (by decide)) ?_
          have hG : SI sp σ (upI iv 563 k.toNatClampNeg x9) := si_w (k := 563) hG (by decide) (by decide) (sq_n hq (by decide) (by decide) (by decide)) (rx_none rfl)
          generalize upI iv 563 k.toNatClampNeg x9 = iv at hG  ⊢
          exact J117 iv lv hG
        · refine z_aloadnR zh dX9_image_82 rfl ?_
          refine z_getf zh fl_Y_52 dX9_image_83 ck_Y rfl rfl ?_
          refine z_sipush zh dX9_image_86 ks_19782 ?_
          refine z_iloadn zh dX9_image_89 rfl ?_
          refine y_iadd zh dX9_image_90 rl_19782 hk1 (u := 19782) (v := 19925) rfl rfl (by decide) (by decide) (fun x10 hc10 hx10 => ?_)
          refine z_aloadnR zh dX9_image_91 rfl ?_
          refine z_getf zh fl_Y_49 dX9_image_92 ck_Y rfl rfl ?_
          refine z_iloadn zh dX9_image_95 rfl ?_
          refine y_iald zh ck_plans dX9_image_96 hk1 (by decide) (by decide) (fun x11 ex11 => ?_)
          refine z_iast zh ck_images dX9_image_97 (ra_in hx10 (by decide) (by decide)) ?_
          have ej : ((x10.toNatClampNeg : Nat) : Int) = x10.toInt := ra_clamp hx10 (by decide)
          have hb : 19782 ≤ x10.toInt ∧ x10.toInt < 19926 := by have := rl_19782.1; have := rl_19782.2; have := hk1.1; have := hk1.2; omega
          have hG1 : SI sp σ (upI iv 564 x10.toNatClampNeg x11) := si_J hG (hs64 _) (by omega) (rx_none (rg_J2 (by omega) (by omega)))
          revert hG1; generalize upI iv 564 x10.toNatClampNeg x11 = iv; intro hG
          exact z_goto (tgt := 117) zh dX9_image_98 rfl (J117 iv lv hG)
  have J25t : ¬ a1 = 0 → ∀ (q : Nat) (iv : Iv) (lv : Lv) (k : Int32), SA 564 sp σ iv → (∀ j : Nat, (j : Int) < k.toInt → iv 564 j = iv 552 j) → Ra 0 19782 k → 19782 - k.toInt < (q : Int) → Z 25 [some (rf g 551), some (.int a1), some (.int k)] [] iv lv := by
    intro ht q
    induction q with
    | zero => intro iv lv k _ _ hk hn; exact (ms_uz hk hn).elim
    | succ q ih =>
      intro iv lv k hG hC hk hn
      refine z_iloadn zh dX9_image_25 rfl ?_
      refine z_sipush zh dX9_image_26 ks_19782 ?_
      refine z_icmp_ge (tgt := 69) zh dX9_image_29 rfl (fun q => ?_) (fun q => ?_)
      · have q0 := leI.mp q
        have o9 := rl_19782.1
        have hG1 : SI sp σ iv := ⟨hG.1, hG.2.1, hG.2.2.1, hG.2.2.2.1.resolve_left (by decide), lots_cong (hG.2.2.2.1.resolve_left (by decide)) (fun j hj => hC j (by omega))⟩
        refine z_iconst zh dX9_image_69 ki_0 ?_
        refine z_istoren zh dX9_image_70 (by decide) (L' := [some (rf g 551), some (.int a1), some (.int (nI 0))]) rfl ?_
        exact J71 145 iv lv (nI 0) hG1 (ra_w rl_0 (by decide) (by decide)) (ms_u0 rl_0 (by decide))
      · have hk1 : Ra 0 19781 k := rb_lt_l rl_19782 hk (rb_nle q) (by decide)
        refine z_iloadn zh dX9_image_32 rfl ?_
        refine z_if_eq (tgt := 51) zh dX9_image_33 rfl (fun q3 => absurd q3 ht) (fun q3 => ?_)
        refine z_aloadnR zh dX9_image_36 rfl ?_
        refine z_getf zh fl_Y_52 dX9_image_37 ck_Y rfl rfl ?_
        refine z_iloadn zh dX9_image_40 rfl ?_
        refine z_aloadnR zh dX9_image_41 rfl ?_
        refine z_getf zh fl_Y_7 dX9_image_42 ck_Y rfl rfl ?_
        refine z_iloadn zh dX9_image_45 rfl ?_
        have ec := ra_clamp hk1 (by decide)
        have k1 := hk1.1; have k2 := hk1.2
        refine y_iald zh ck_now dX9_image_46 hk1 (by decide) (by decide) (fun v ev => ?_)
        refine z_iast zh ck_images dX9_image_47 (ra_in hk1 (by decide) (by decide)) ?_
        have hG1 : SA 564 sp σ (upI iv 564 k.toNatClampNeg v) := sa_w hG (Or.inr rfl) (fun q => by rw [hs64] at q; cases q) (fun lo hi e => ra_of ev (hG.2.2.1 _ _ _ _ (rg_N.trans ((rg_J (by omega)).symm.trans e))))
        have hC1 : ∀ j : Nat, (j : Int) < k.toInt + 1 → upI iv 564 k.toNatClampNeg v 564 j = upI iv 564 k.toNatClampNeg v 552 j := fun j hj => by
          rw [upI_ne (a := 552) (Or.inl (by decide))]
          by_cases e : j = k.toNatClampNeg
          · subst e; rw [upI_at, if_pos ⟨rfl, rfl⟩]; exact ev.symm
          · rw [upI_ne (Or.inr e)]; exact hC j (by omega)
        revert hG1 hC1; generalize upI iv 564 k.toNatClampNeg v = iv; intro hG hC
        refine z_goto (tgt := 63) zh dX9_image_48 rfl ?_
        refine y_iinc (L' := fun z => [some (rf g 551), some (.int a1), some (.int z)]) zh dX9_image_63 (by decide) rfl (by decide +kernel) hk1 (u := 1) (v := 19782) rfl rfl (by decide) (by decide) (fun _ => rfl) (fun x12 hc12 hx12 => ?_)
        refine z_goto (tgt := 25) zh dX9_image_66 rfl ?_
        rw [← hc12] at hC
        exact ih iv lv x12 hG hC (ra_w hx12 (by decide) (by decide)) (ms_up hc12 (by decide) hn)
  have J25u : a1 = 0 → ∀ (q : Nat) (iv : Iv) (lv : Lv) (k : Int32), SA 552 sp σ iv → (∀ j : Nat, (j : Int) < k.toInt → iv 552 j = iv 564 j) → Ra 0 19782 k → 19782 - k.toInt < (q : Int) → Z 25 [some (rf g 551), some (.int a1), some (.int k)] [] iv lv := by
    intro ht q
    induction q with
    | zero => intro iv lv k _ _ hk hn; exact (ms_uz hk hn).elim
    | succ q ih =>
      intro iv lv k hG hC hk hn
      refine z_iloadn zh dX9_image_25 rfl ?_
      refine z_sipush zh dX9_image_26 ks_19782 ?_
      refine z_icmp_ge (tgt := 69) zh dX9_image_29 rfl (fun q => ?_) (fun q => ?_)
      · have q0 := leI.mp q
        have o9 := rl_19782.1
        have hG1 : SI sp σ iv := ⟨hG.1, hG.2.1, hG.2.2.1, lots_cong (hG.2.2.2.2.resolve_left (by decide)) (fun j hj => hC j (by omega)), hG.2.2.2.2.resolve_left (by decide)⟩
        refine z_iconst zh dX9_image_69 ki_0 ?_
        refine z_istoren zh dX9_image_70 (by decide) (L' := [some (rf g 551), some (.int a1), some (.int (nI 0))]) rfl ?_
        exact J71 145 iv lv (nI 0) hG1 (ra_w rl_0 (by decide) (by decide)) (ms_u0 rl_0 (by decide))
      · have hk1 : Ra 0 19781 k := rb_lt_l rl_19782 hk (rb_nle q) (by decide)
        refine z_iloadn zh dX9_image_32 rfl ?_
        refine z_if_eq (tgt := 51) zh dX9_image_33 rfl (fun q3 => ?_) (fun q3 => absurd ht q3)
        refine z_aloadnR zh dX9_image_51 rfl ?_
        refine z_getf zh fl_Y_7 dX9_image_52 ck_Y rfl rfl ?_
        refine z_iloadn zh dX9_image_55 rfl ?_
        refine z_aloadnR zh dX9_image_56 rfl ?_
        refine z_getf zh fl_Y_52 dX9_image_57 ck_Y rfl rfl ?_
        refine z_iloadn zh dX9_image_60 rfl ?_
        have ec := ra_clamp hk1 (by decide)
        have k1 := hk1.1; have k2 := hk1.2
        refine y_iald zh ck_images dX9_image_61 hk1 (by decide) (by decide) (fun v ev => ?_)
        refine z_iast zh ck_now dX9_image_62 (ra_in hk1 (by decide) (by decide)) ?_
        have hG1 : SA 552 sp σ (upI iv 552 k.toNatClampNeg v) := sa_w hG (Or.inl rfl) (fun q => by rw [hs52] at q; cases q) (fun lo hi e => ra_of ev (hG.2.2.1 _ _ _ _ ((rg_J (by omega)).trans (rg_N.symm.trans e))))
        have hC1 : ∀ j : Nat, (j : Int) < k.toInt + 1 → upI iv 552 k.toNatClampNeg v 552 j = upI iv 552 k.toNatClampNeg v 564 j := fun j hj => by
          rw [upI_ne (a := 564) (Or.inl (by decide))]
          by_cases e : j = k.toNatClampNeg
          · subst e; rw [upI_at, if_pos ⟨rfl, rfl⟩]; exact ev.symm
          · rw [upI_ne (Or.inr e)]; exact hC j (by omega)
        revert hG1 hC1; generalize upI iv 552 k.toNatClampNeg v = iv; intro hG hC
        refine y_iinc (L' := fun z => [some (rf g 551), some (.int a1), some (.int z)]) zh dX9_image_63 (by decide) rfl (by decide +kernel) hk1 (u := 1) (v := 19782) rfl rfl (by decide) (by decide) (fun _ => rfl) (fun x13 hc13 hx13 => ?_)
        refine z_goto (tgt := 25) zh dX9_image_66 rfl ?_
        rw [← hc13] at hC
        exact ih iv lv x13 hG hC (ra_w hx13 (by decide) (by decide)) (ms_up hc13 (by decide) hn)
  have J18 : ∀ (iv : Iv) (lv : Lv), SI sp σ iv → Z 18 [some (rf g 551), some (.int a1), none] [] iv lv := by
    intro iv lv hG
    refine z_aloadnR zh dX9_image_18 rfl ?_
    refine z_iconst zh dX9_image_19 ki_1 ?_
    refine z_putI zh fl_Y_441 dX9_image_20 ck_Y rfl rfl (Nat.le_of_ble_eq_true rfl) (Or.inr ⟨rfl, ra_01 (ra_w rl_1 (by decide) (by decide))⟩) ?_
    have hG : SI sp σ (upI iv 551 29 (nI 1)) := si_w (k := 551) (j := 29) hG (by decide) (by decide) hI (fun lo hi q => (rx_none rfl) lo hi ((rg_Y (q := 0)).symm.trans q))
    have em14 : upI iv 551 29 (nI 1) 551 29 = nI 1 := by rw [upI_at, if_pos ⟨rfl, rfl⟩]
    generalize upI iv 551 29 (nI 1) = iv at hG em14 ⊢
    refine z_iconst zh dX9_image_23 ki_0 ?_
    refine z_istoren zh dX9_image_24 (by decide) (L' := [some (rf g 551), some (.int a1), some (.int (nI 0))]) rfl ?_
    have e0 := rl_0.2
    by_cases ht : a1 = 0
    · exact J25u ht 19783 iv lv (nI 0) (sa_of hG) (fun j hj => by omega) (ra_w rl_0 (by decide) (by decide)) (ms_u0 rl_0 (by decide))
    · exact J25t ht 19783 iv lv (nI 0) (sa_of hG) (fun j hj => by omega) (ra_w rl_0 (by decide) (by decide)) (ms_u0 rl_0 (by decide))
  refine z_if_ne (tgt := 18) zh dX9_image_6 rfl (fun _ => J18 iv lv hG) (fun _ => ?_)
  refine z_aloadnR zh dX9_image_9 rfl ?_
  refine y_getI zh fl_Y_441 dX9_image_10 ck_Y rfl rfl (fun x15 ex15 => ?_)
  refine z_if_ne (tgt := 18) zh dX9_image_13 rfl (fun _ => J18 iv lv hG) (fun _ => ?_)
  refine z_iconst zh dX9_image_16 ki_0 ?_
  exact z_zret zh dX9_image_17 (Or.inl rfl) ⟨_, rfl, hG, by decide, by decide⟩
