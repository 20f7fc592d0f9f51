/-! THE TAPE'S LENGTH AND THE IMAGE'S FLAG: told alike -/
theorem sq_1 {sp : Nat → Nat → Bool} {k0 j0 : Nat} (hq : Sq sp) (h : qok k0 j0 = true) : Sq (sp1 sp k0 j0) := fun k j q => by
  rcases Bool.or_eq_true_iff.mp q with w | w
  · exact hq k j w
  · have w := Bool.and_eq_true_iff.mp w
    rw [eq_of_beq w.1, eq_of_beq w.2]; exact h
def CC (sp : Nat → Nat → Bool) : Prop := ∀ k j, sp k j = true → spc k j = true
theorem si_sub {sp : Nat → Nat → Bool} {iv : Iv} (hc : CC sp) (hG : SI s0 z0 iv) : SI sp iv iv := ⟨hc, fun _ _ _ => rfl, hG.2.2⟩
def t4 (k j : Nat) : Bool := (k == 0 && j == 4) || (k == 541 && j == 1) || (k == 551 && (j == 17 || j == 29))
theorem t4_q : Sq t4 := fun k j h => by
  unfold t4 at h; unfold qok
  simp only [Bool.or_eq_true, Bool.and_eq_true, beq_iff_eq] at h ⊢
  omega
theorem t4_c : CC t4 := fun k j h => by
  unfold t4 at h
  simp only [Bool.or_eq_true, Bool.and_eq_true, beq_iff_eq] at h
  rcases h with (⟨rfl, rfl⟩ | ⟨rfl, rfl⟩) | ⟨rfl, rfl | rfl⟩ <;> rfl
/-- the same but one of them -/
def t4x (a b k j : Nat) : Bool := t4 k j && !(k == a && j == b)
theorem t4x_4 {a b k j : Nat} (h : t4x a b k j = true) : t4 k j = true := (Bool.and_eq_true_iff.mp h).1
theorem t4x_q {a b : Nat} : Sq (t4x a b) := fun _ _ h => t4_q _ _ (t4x_4 h)
theorem t4x_c {a b : Nat} : CC (t4x a b) := fun _ _ h => t4_c _ _ (t4x_4 h)
def F3 (iv : Iv) : Prop := iv 551 29 = iv 0 4 ∧ (iv 0 4 = 0 ∨ iv 0 4 = nI 1)
def R3 (iv : Iv) : Prop := iv 551 17 = iv 541 1 ∧ F3 iv
theorem f3_fr {iv iv' : Iv} (h1 : iv' 551 29 = iv 551 29) (h2 : iv' 0 4 = iv 0 4) (h : F3 iv) : F3 iv' := by
  unfold F3
  rw [h1, h2]; exact h
theorem r3_fr {iv iv' : Iv} (h : SI t4 iv iv') (hR : R3 iv) : R3 iv' :=
  ⟨((h.2.1 551 17 rfl).trans hR.1).trans (h.2.1 541 1 rfl).symm, f3_fr (h.2.1 551 29 rfl) (h.2.1 0 4 rfl) hR.2⟩
theorem ra_n {x : Int32} {c : Nat} (h : Ra 0 c x) (hc : c < 2 ^ 31) : ∃ n : Nat, n ≤ c ∧ x = nI n := by
  have h1 := h.1; have h2 := h.2
  exact ⟨x.toInt.toNat, by omega, Int32.toInt_inj.mp (by rw [nI_toInt (by omega)]; omega)⟩
def MFeed (r : Int32) (iv : Iv) : Prop := ∃ n : Nat, n ≤ 400 ∧ iv 551 17 = nI n ∧ (n ≤ 380 → r = nI (n + 20) ∧ iv 541 1 = nI (n + 20)) ∧ (¬ n ≤ 380 → r = -1 ∧ iv 541 1 = nI n) ∧ F3 iv
def MEnd (a r : Int32) (iv : Iv) : Prop := ∃ x, iv 551 17 = x ∧ (Rg (nI 0) x a → r = nI 1 ∧ iv 541 1 = a) ∧ (¬ Rg (nI 0) x a → r = nI 0 ∧ iv 541 1 = x) ∧ F3 iv
def MPlan (iv : Iv) : Prop := iv 541 1 = nI 0 ∧ F3 iv
def MImg (a r : Int32) (iv : Iv) : Prop := iv 551 17 = iv 541 1 ∧ ∃ f, iv 551 29 = f ∧ ((a = 0 ∧ f = 0) → r = nI 0 ∧ iv 0 4 = f) ∧ (¬ (a = 0 ∧ f = 0) → r = nI 1 ∧ iv 0 4 = nI 1)
set_option maxRecDepth 20000 in
theorem e_X6_readL (g : GE) {sp : Nat → Nat → Bool} {σ : Iv} {iv : Iv} {lv : Lv}   (hG : SI sp σ iv) (hq : Sq sp) (hL : sp 541 1 = false) : ConI g yX6_read cX6_read 2 (some .boolean) 8 [rf g 541] iv lv (fun r iv lv => SI sp σ iv ∧ iv 541 1 = nI 0) := by
  refine con_intro (own := "RollingNets$Reader") (by decide +kernel) rfl (Nat.le_of_ble_eq_true rfl) (L0 := [some (rf g 541), none]) rfl (fun Z zh => ?_)
  refine z_aloadnR zh dX6_read_0 rfl ?_
  refine z_getf zh fl_Reader_24 dX6_read_1 ck_R rfl rfl ?_
  refine z_callVV zh mv_Reader_37 dX6_read_4 (ck_T isT_r) rfl (s_X7_clear g isT_r hG hq) ⟨Nat.le_of_ble_eq_true rfl, Nat.le_of_ble_eq_true rfl⟩ rfl rfl (Nat.le_of_ble_eq_true rfl) ?_
  rintro iv lv hG
  refine z_aloadnR zh dX6_read_7 rfl ?_
  refine z_iconst zh dX6_read_8 ki_0 ?_
  refine z_putI zh fl_Reader_28 dX6_read_9 ck_R rfl rfl (Nat.le_of_ble_eq_true rfl) (Or.inl rfl) ?_
  have hG : SI sp σ (upI iv 541 3 (nI 0)) := si_w (k := 541) (j := 3) hG (by decide) (by decide) (sq_no hq rfl) (rx_some (ra_w rl_0 (by decide) (by decide)))
  have em1 : upI iv 541 3 (nI 0) 541 3 = nI 0 := by rw [upI_at, if_pos ⟨rfl, rfl⟩]
  generalize upI iv 541 3 (nI 0) = iv at hG em1 ⊢
  refine z_aloadnR zh dX6_read_12 rfl ?_
  refine z_iconst zh dX6_read_13 ki_0 ?_
  refine z_putI zh fl_Reader_31 dX6_read_14 ck_R rfl rfl (Nat.le_of_ble_eq_true rfl) (Or.inl rfl) ?_
  have hG : SI sp σ (upI iv 541 4 (nI 0)) := si_w (k := 541) (j := 4) hG (by decide) (by decide) (sq_no hq rfl) (rx_none rfl)
  have em2 := (upI_ne (iv := iv) (k := 541) (j := 4) (x := nI 0) (a := 541) (b := 3) (Or.inr (by decide))).trans em1
  have em3 : upI iv 541 4 (nI 0) 541 4 = nI 0 := by rw [upI_at, if_pos ⟨rfl, rfl⟩]
  generalize upI iv 541 4 (nI 0) = iv at hG em2 em3 ⊢
  refine z_aloadnR zh dX6_read_17 rfl ?_
  refine z_iconst zh dX6_read_18 ki_m1 ?_
  refine z_putI zh fl_Reader_34 dX6_read_19 ck_R rfl rfl (Nat.le_of_ble_eq_true rfl) (Or.inl rfl) ?_
  have hG : SI sp σ (upI iv 541 5 (-1)) := si_w (k := 541) (j := 5) hG (by decide) (by decide) (sq_no hq rfl) (rx_none rfl)
  have em4 := (upI_ne (iv := iv) (k := 541) (j := 5) (x := (-1)) (a := 541) (b := 3) (Or.inr (by decide))).trans em2
  have em5 := (upI_ne (iv := iv) (k := 541) (j := 5) (x := (-1)) (a := 541) (b := 4) (Or.inr (by decide))).trans em3
  have em6 : upI iv 541 5 (-1) 541 5 = (-1) := by rw [upI_at, if_pos ⟨rfl, rfl⟩]
  generalize upI iv 541 5 (-1) = iv at hG em4 em5 em6 ⊢
  refine z_aloadnR zh dX6_read_22 rfl ?_
  refine z_callVV zh mv_Reader_40 dX6_read_23 ck_R rfl (s_X6_skipBlanks g  hG hq) ⟨Nat.le_of_ble_eq_true rfl, Nat.le_of_ble_eq_true rfl⟩ rfl rfl (Nat.le_of_ble_eq_true rfl) ?_
  rintro iv lv hG
  refine z_iconst zh dX6_read_26 ki_0 ?_
  refine z_istoren zh dX6_read_27 (by decide) (L' := [some (rf g 541), some (.int (nI 0))]) rfl ?_
  have J28 : ∀ (n : Nat) (iv : Iv) (lv : Lv) (x7 : Int32), SI sp σ iv → Ra 0 25 x7 → 25 - x7.toInt < (n : Int) → Z 28 [some (rf g 541), some (.int x7)] [] iv lv := by
    intro n
    induction n with
    | zero => intro iv lv x7 hG hx7 hn28; exact (ms_uz hx7 hn28).elim
    | succ n ih28 =>
      intro iv lv x7 hG hx7 hn28
      refine z_iloadn zh dX6_read_28 rfl ?_
      refine z_bipush zh dX6_read_29 kb_24 ?_
      have J66 : ∀ (iv : Iv) (lv : Lv), SI sp σ iv → Z 66 [some (rf g 541), some (.int x7)] [] iv lv := by
        intro iv lv hG
        refine z_aloadnR zh dX6_read_66 rfl ?_
        refine z_iconst zh dX6_read_67 ki_0 ?_
        refine z_putI zh fl_Reader_15 dX6_read_68 ck_R rfl rfl (Nat.le_of_ble_eq_true rfl) (Or.inl rfl) ?_
        have hG : SI sp σ (upI iv 541 1 (nI 0)) := si_w (k := 541) (j := 1) hG (by decide) (by decide) hL (rx_some (ra_w rl_0 (by decide) (by decide)))
        have em8 : upI iv 541 1 (nI 0) 541 1 = nI 0 := by rw [upI_at, if_pos ⟨rfl, rfl⟩]
        generalize upI iv 541 1 (nI 0) = iv at hG em8 ⊢
        refine z_aloadnR zh dX6_read_71 rfl ?_
        refine y_getI zh fl_Reader_31 dX6_read_72 ck_R rfl rfl (fun x9 ex9 => ?_)
        refine z_if_ne (tgt := 82) zh dX6_read_75 rfl (fun q10 => ?_) (fun q10 => ?_)
        · refine z_iconst zh dX6_read_82 ki_0 ?_
          exact z_zret zh dX6_read_83 (ra_01 (ra_w rl_0 (by decide) (by decide))) ⟨_, rfl, hG, em8⟩
        · have r11 := rb_eq (u := 0) (v := 0) (ra_tt x9) ra_z q10 (by decide) (by decide)
          refine z_iconst zh dX6_read_78 ki_1 ?_
          refine z_goto (tgt := 83) zh dX6_read_79 rfl ?_
          exact z_zret zh dX6_read_83 (ra_01 (ra_w rl_1 (by decide) (by decide))) ⟨_, rfl, hG, em8⟩
      refine z_icmp_gt (tgt := 66) zh dX6_read_31 rfl (fun q12 => ?_) (fun q12 => ?_)
      · have r13 : Ra 25 25 x7 := rb_lt_r rl_24 hx7 q12 (by decide)
        exact J66 iv lv hG
      · have r14 : Ra 0 24 x7 := rb_le_l rl_24 hx7 (rb_nlt q12) (by decide)
        refine z_aloadnR zh dX6_read_34 rfl ?_
        refine y_getI zh fl_Reader_28 dX6_read_35 ck_R rfl rfl (fun x15 ex15 => ?_)
        have hx15 : Ra 0 401 x15 := ra_of ex15 (si_c hG (k := 541) (j := 3) rfl)
        refine z_aloadnR zh dX6_read_38 rfl ?_
        refine y_getI zh fl_Reader_15 dX6_read_39 ck_R rfl rfl (fun x16 ex16 => ?_)
        have hx16 : Ra 0 400 x16 := ra_of ex16 (si_c hG (k := 541) (j := 1) rfl)
        refine z_icmp_ge (tgt := 66) zh dX6_read_42 rfl (fun q17 => ?_) (fun q17 => ?_)
        · exact J66 iv lv hG
        · have r18 : Ra 0 399 x15 := rb_lt_l hx16 hx15 (rb_nle q17) (by decide)
          have r19 : Ra 1 400 x16 := rb_lt_r hx15 hx16 (rb_nle q17) (by decide)
          refine z_aloadnR zh dX6_read_45 rfl ?_
          refine y_getI zh fl_Reader_31 dX6_read_46 ck_R rfl rfl (fun x20 ex20 => ?_)
          refine z_if_ne (tgt := 66) zh dX6_read_49 rfl (fun q21 => ?_) (fun q21 => ?_)
          · exact J66 iv lv hG
          · have r22 := rb_eq (u := 0) (v := 0) (ra_tt x20) ra_z q21 (by decide) (by decide)
            refine z_aloadnR zh dX6_read_52 rfl ?_
            refine z_callVV zh mv_Reader_43 dX6_read_53 ck_R rfl (s_X6_readLine g  hG hq) ⟨Nat.le_of_ble_eq_true rfl, Nat.le_of_ble_eq_true rfl⟩ rfl rfl (Nat.le_of_ble_eq_true rfl) ?_
            rintro iv lv hG
            refine z_aloadnR zh dX6_read_56 rfl ?_
            refine z_callVV zh mv_Reader_40 dX6_read_57 ck_R rfl (s_X6_skipBlanks g  hG hq) ⟨Nat.le_of_ble_eq_true rfl, Nat.le_of_ble_eq_true rfl⟩ rfl rfl (Nat.le_of_ble_eq_true rfl) ?_
            rintro iv lv hG
            refine y_iinc (L' := fun z => [some (rf g 541), some (.int z)]) zh dX6_read_60 (by decide) rfl (by decide +kernel) r14 (u := 1) (v := 25) rfl rfl (by decide) (by decide) (fun _ => rfl) (fun x23 hc23 hx23 => ?_)
            refine z_goto (tgt := 28) zh dX6_read_63 rfl ?_
            exact ih28 iv lv x23 hG (ra_w hx23 (by decide) (by decide)) (ms_up hc23 (by decide) hn28)
  exact J28 26 iv lv (nI 0) hG (ra_w rl_0 (by decide) (by decide)) (ms_u0 rl_0 (by decide))
set_option maxRecDepth 20000 in
theorem e_X8_planL (g : GE) {sp : Nat → Nat → Bool} {σ : Iv} {iv : Iv} {lv : Lv}   (hG : SI sp σ iv) (hq : Sq sp) (hL : sp 541 1 = false) : ConI g yX8_plan cX8_plan 1 (some .int) 9 [rf g 0] iv lv (fun r iv lv => SI sp σ iv ∧ iv 541 1 = nI 0) := by
  refine con_intro (own := "RollingNets") (by decide +kernel) rfl (Nat.le_of_ble_eq_true rfl) (L0 := [some (rf g 0)]) rfl (fun Z zh => ?_)
  refine z_aloadnR zh dX8_plan_0 rfl ?_
  refine z_getf zh fl_RollingNets_25 dX8_plan_1 ck_X rfl rfl ?_
  refine z_callVI zh mv_RollingNets_149 dX8_plan_4 ck_R rfl (e_X6_readL g  hG hq hL) ⟨Nat.le_of_ble_eq_true rfl, Nat.le_of_ble_eq_true rfl⟩ rfl rfl (Nat.le_of_ble_eq_true rfl) ?_
  rintro x1 iv lv ⟨hS, el⟩
  obtain ⟨i0, e0⟩ : ∃ z, z = iv := ⟨_, rfl⟩
  have hG : SI (sp1 sp 541 1) i0 iv := by rw [e0]; exact si_add hS rfl
  have hq2 : Sq (sp1 sp 541 1) := sq_1 hq rfl
  rw [← e0] at hS el
  refine z_if_ne (tgt := 12) zh dX8_plan_7 rfl (fun q2 => ?_) (fun q2 => ?_)
  · refine z_aloadnR zh dX8_plan_12 rfl ?_
    refine z_getf zh fl_RollingNets_12 dX8_plan_13 ck_X rfl rfl ?_
    refine z_getf zh fl_RollingNets_152 dX8_plan_16 (ck_H isH_1) rfl rfl ?_
    refine z_aloadnR zh dX8_plan_19 rfl ?_
    refine z_getf zh fl_RollingNets_25 dX8_plan_20 ck_X rfl rfl ?_
    refine z_getf zh fl_RollingNets_155 dX8_plan_23 ck_R rfl rfl ?_
    refine z_callVV zh mv_RollingNets_158 dX8_plan_26 (ck_T (isT_p isH_1)) rfl (s_X7_copyFrom g (isT_p isH_1) isT_r hG hq2) ⟨Nat.le_of_ble_eq_true rfl, Nat.le_of_ble_eq_true rfl⟩ rfl rfl (Nat.le_of_ble_eq_true rfl) ?_
    rintro iv lv hG
    refine z_aloadnR zh dX8_plan_29 rfl ?_
    refine z_getf zh fl_RollingNets_12 dX8_plan_30 ck_X rfl rfl ?_
    refine z_iconst zh dX8_plan_33 ki_0 ?_
    refine z_putI zh fl_RollingNets_162 dX8_plan_34 (ck_H isH_1) rfl rfl (Nat.le_of_ble_eq_true rfl) (Or.inl rfl) ?_
    have hG : SI (sp1 sp 541 1) i0 (upI iv 1 10 (nI 0)) := si_wHq hG hq2 isH_1 0 (by decide) (rx_none rfl)
    have em4 : upI iv 1 10 (nI 0) 1 10 = nI 0 := by rw [upI_at, if_pos ⟨rfl, rfl⟩]
    generalize upI iv 1 10 (nI 0) = iv at hG em4 ⊢
    refine z_aloadnR zh dX8_plan_37 rfl ?_
    refine z_getf zh fl_RollingNets_12 dX8_plan_38 ck_X rfl rfl ?_
    refine z_getf zh fl_RollingNets_152 dX8_plan_41 (ck_H isH_1) rfl rfl ?_
    obtain ⟨x5, ex5⟩ : ∃ z, iv (1 + 46) 2 = z := ⟨_, rfl⟩
    have hx5 : Ra 0 24 x5 := ra_of ex5 (si_T hG (isT_p isH_1))
    refine z_callVIp zh mv_RollingNets_51 dX8_plan_44 (ck_T (isT_p isH_1)) rfl (s_X7_size g (isT_p isH_1) ex5) ⟨Nat.le_of_ble_eq_true rfl, Nat.le_of_ble_eq_true rfl⟩ rfl rfl (Nat.le_of_ble_eq_true rfl) ?_
    exact z_iret zh dX8_plan_47 ⟨_, rfl, (si_drop hS hG).1, (si_drop hS hG).2.trans el⟩
  · refine z_iconst zh dX8_plan_10 ki_m1 ?_
    exact z_iret zh dX8_plan_11 ⟨_, rfl, (si_drop hS hG).1, (si_drop hS hG).2.trans el⟩
set_option maxRecDepth 20000 in
theorem e_X9_planL (g : GE) {sp : Nat → Nat → Bool} {σ : Iv} {iv : Iv} {lv : Lv}   (hG : SI sp σ iv) (hq : Sq sp) (hL : sp 551 17 = false) (hP : sp 552 10 = false) : ConI g yX9_plan cX9_plan 3 (some .int) 7 [rf g 551] iv lv (fun r iv lv => SI sp σ iv ∧ iv 551 17 = nI 0) := by
  refine con_intro (own := "RollingNetsModel") (by decide +kernel) rfl (Nat.le_of_ble_eq_true rfl) (L0 := [some (rf g 551), none, none]) rfl (fun Z zh => ?_)
  refine z_aloadnR zh dX9_plan_0 rfl ?_
  refine z_iconst zh dX9_plan_1 ki_0 ?_
  refine z_putI zh fl_Y_58 dX9_plan_2 ck_Y rfl rfl (Nat.le_of_ble_eq_true rfl) (Or.inl rfl) ?_
  have hG : SI sp σ (upI iv 551 0 (nI 0)) := si_w (k := 551) (j := 0) hG (by decide) (by decide) (sp_no hG ((spc_Y (q := 0)).trans rfl)) (fun lo hi q => (rx_none rfl) lo hi ((rg_Y (q := 0)).symm.trans q))
  have em1 : upI iv 551 0 (nI 0) 551 0 = nI 0 := by rw [upI_at, if_pos ⟨rfl, rfl⟩]
  generalize upI iv 551 0 (nI 0) = iv at hG em1 ⊢
  refine z_aloadnR zh dX9_plan_5 rfl ?_
  refine z_iconst zh dX9_plan_6 ki_0 ?_
  refine z_putI zh fl_Y_401 dX9_plan_7 ck_Y rfl rfl (Nat.le_of_ble_eq_true rfl) (Or.inl rfl) ?_
  have hG : SI sp σ (upI iv 551 25 (nI 0)) := si_w (k := 551) (j := 25) hG (by decide) (by decide) (sq_no hq rfl) (fun lo hi q => (rx_none rfl) lo hi ((rg_Y (q := 0)).symm.trans q))
  have em2 := (upI_ne (iv := iv) (k := 551) (j := 25) (x := nI 0) (a := 551) (b := 0) (Or.inr (by decide))).trans em1
  have em3 : upI iv 551 25 (nI 0) 551 25 = nI 0 := by rw [upI_at, if_pos ⟨rfl, rfl⟩]
  generalize upI iv 551 25 (nI 0) = iv at hG em2 em3 ⊢
  refine z_aloadnR zh dX9_plan_10 rfl ?_
  refine z_iconst zh dX9_plan_11 ki_m1 ?_
  refine z_putI zh fl_Y_45 dX9_plan_12 ck_Y rfl rfl (Nat.le_of_ble_eq_true rfl) (Or.inl rfl) ?_
  have hG : SI sp σ (upI iv 551 26 (-1)) := si_w (k := 551) (j := 26) hG (by decide) (by decide) (sq_no hq rfl) (fun lo hi q => (rx_none rfl) lo hi ((rg_Y (q := 0)).symm.trans q))
  have em4 := (upI_ne (iv := iv) (k := 551) (j := 26) (x := (-1)) (a := 551) (b := 0) (Or.inr (by decide))).trans em2
  have em5 := (upI_ne (iv := iv) (k := 551) (j := 26) (x := (-1)) (a := 551) (b := 25) (Or.inr (by decide))).trans em3
  have em6 : upI iv 551 26 (-1) 551 26 = (-1) := by rw [upI_at, if_pos ⟨rfl, rfl⟩]
  generalize upI iv 551 26 (-1) = iv at hG em4 em5 em6 ⊢
  refine z_aloadnR zh dX9_plan_15 rfl ?_
  refine z_callVI zh mv_Y_404 dX9_plan_16 ck_Y rfl (s_X9_readPlan g  hG hq) ⟨Nat.le_of_ble_eq_true rfl, Nat.le_of_ble_eq_true rfl⟩ rfl rfl (Nat.le_of_ble_eq_true rfl) ?_
  rintro x7 iv lv ⟨hG, hx7⟩
  refine z_istoren zh dX9_plan_19 (by decide) (L' := [some (rf g 551), some (.int x7), none]) rfl ?_
  refine z_iloadn zh dX9_plan_20 rfl ?_
  refine z_iconst zh dX9_plan_21 ki_m1 ?_
  have J41 : ∀ (iv : Iv) (lv : Lv), SI sp σ iv → Z 41 [some (rf g 551), some (.int x7), none] [] iv lv := by
    intro iv lv hG
    refine z_aloadnR zh dX9_plan_41 rfl ?_
    refine z_iconst zh dX9_plan_42 ki_0 ?_
    refine z_putI zh fl_Y_344 dX9_plan_43 ck_Y rfl rfl (Nat.le_of_ble_eq_true rfl) (Or.inl rfl) ?_
    have hG : SI sp σ (upI iv 551 17 (nI 0)) := si_w (k := 551) (j := 17) hG (by decide) (by decide) hL (fun lo hi q => (rx_some (ra_w rl_0 (by decide) (by decide))) lo hi ((rg_Y (q := 0)).symm.trans q))
    have em8 : upI iv 551 17 (nI 0) 551 17 = nI 0 := by rw [upI_at, if_pos ⟨rfl, rfl⟩]
    generalize upI iv 551 17 (nI 0) = iv at hG em8 ⊢
    refine z_iloadn zh dX9_plan_46 rfl ?_
    refine z_iconst zh dX9_plan_47 ki_m1 ?_
    refine z_icmp_ne (tgt := 53) zh dX9_plan_48 rfl (fun q9 => ?_) (fun q9 => ?_)
    · have r10 : Ra 0 24 x7 := rb_ne_lo hx7 rl_n1 q9 (by decide)
      refine z_iconst zh dX9_plan_53 ki_0 ?_
      refine z_istoren zh dX9_plan_54 (by decide) (L' := [some (rf g 551), some (.int x7), some (.int (nI 0))]) rfl ?_
      have J55 : ∀ (n : Nat) (iv : Iv) (lv : Lv) (x11 : Int32), SI sp σ iv → Ra 0 144 x11 → iv 551 17 = nI 0 → 144 - x11.toInt < (n : Int) → Z 55 [some (rf g 551), some (.int x7), some (.int x11)] [] iv lv := by
        intro n
        induction n with
        | zero => intro iv lv x11 hG hx11 em12 hn55; exact (ms_uz hx11 hn55).elim
        | succ n ih55 =>
          intro iv lv x11 hG hx11 em12 hn55
          refine z_iloadn zh dX9_plan_55 rfl ?_
          refine z_bipush zh dX9_plan_56 kb_6 ?_
          refine z_iloadn zh dX9_plan_58 rfl ?_
          refine y_imul2 zh dX9_plan_59 r10 rl_6 (by decide) (u := 0) (v := 144) rfl rfl (by decide) (by decide) (fun x13 hc13 hx13 => ?_)
          refine z_icmp_ge (tgt := 85) zh dX9_plan_60 rfl (fun q14 => ?_) (fun q14 => ?_)
          · refine z_aloadnR zh dX9_plan_85 rfl ?_
            refine z_iloadn zh dX9_plan_86 rfl ?_
            refine z_putI zh fl_Y_407 dX9_plan_87 ck_Y rfl rfl (Nat.le_of_ble_eq_true rfl) (Or.inl rfl) ?_
            have hG : SI sp σ (upI iv 551 27 x7) := si_w (k := 551) (j := 27) hG (by decide) (by decide) (sq_no hq rfl) (fun lo hi q => (rx_some r10) lo hi ((rg_Y (q := 0)).symm.trans q))
            have em15 := (upI_ne (iv := iv) (k := 551) (j := 27) (x := x7) (a := 551) (b := 17) (Or.inr (by decide))).trans em12
            have em16 : upI iv 551 27 x7 551 27 = x7 := by rw [upI_at, if_pos ⟨rfl, rfl⟩]
            generalize upI iv 551 27 x7 = iv at hG em15 em16 ⊢
            refine z_aloadnR zh dX9_plan_90 rfl ?_
            refine z_getf zh fl_Y_7 dX9_plan_91 ck_Y rfl rfl ?_
            refine z_bipush zh dX9_plan_94 kb_10 ?_
            refine z_iconst zh dX9_plan_96 ki_0 ?_
            refine z_iastN (j := 10) zh ck_now dX9_plan_97 (by decide) ?_
            have hG : SI sp σ (upI iv 552 10 (nI 0)) := (nw_10 hG hP (ra_w rl_0 (by decide) (by decide)))
            have em17 := (upI_ne (iv := iv) (k := 552) (j := 10) (x := nI 0) (a := 551) (b := 17) (Or.inl (by decide))).trans em15
            have em18 := (upI_ne (iv := iv) (k := 552) (j := 10) (x := nI 0) (a := 551) (b := 27) (Or.inl (by decide))).trans em16
            have em19 : upI iv 552 10 (nI 0) 552 10 = nI 0 := by rw [upI_at, if_pos ⟨rfl, rfl⟩]
            generalize upI iv 552 10 (nI 0) = iv at hG em17 em18 em19 ⊢
            refine z_iloadn zh dX9_plan_98 rfl ?_
            exact z_iret zh dX9_plan_99 ⟨_, rfl, hG, em17⟩
          · have r20 : Ra 0 143 x11 := rb_lt_l hx13 hx11 (rb_nle q14) (by decide)
            have r21 : Ra 1 144 x13 := rb_lt_r hx11 hx13 (rb_nle q14) (by decide)
            refine z_aloadnR zh dX9_plan_63 rfl ?_
            refine z_getf zh fl_Y_49 dX9_plan_64 ck_Y rfl rfl ?_
            refine z_iloadn zh dX9_plan_67 rfl ?_
            refine z_aloadnR zh dX9_plan_68 rfl ?_
            refine z_getf zh fl_Y_49 dX9_plan_69 ck_Y rfl rfl ?_
            refine z_sipush zh dX9_plan_72 ks_144 ?_
            refine z_iloadn zh dX9_plan_75 rfl ?_
            refine y_iadd zh dX9_plan_76 rl_144 r20 (u := 144) (v := 287) rfl rfl (by decide) (by decide) (fun x22 hc22 hx22 => ?_)
            refine y_iald zh ck_plans dX9_plan_77 hx22 (by decide) (by decide) (fun x23 ex23 => ?_)
            refine z_iast zh ck_plans dX9_plan_78 (ra_in r20 (by decide) (by decide)) ?_
            have hG : SI sp σ (upI iv 563 x11.toNatClampNeg x23) := si_w (k := 563) hG (by decide) (by decide) (sq_n hq (by decide) (by decide) (by decide)) (rx_none rfl)
            have em24 := (upI_ne (iv := iv) (k := 563) (j := x11.toNatClampNeg) (x := x23) (a := 551) (b := 17) (Or.inl (by decide))).trans em12
            generalize upI iv 563 x11.toNatClampNeg x23 = iv at hG em24 ⊢
            refine y_iinc (L' := fun z => [some (rf g 551), some (.int x7), some (.int z)]) zh dX9_plan_79 (by decide) rfl (by decide +kernel) r20 (u := 1) (v := 144) rfl rfl (by decide) (by decide) (fun _ => rfl) (fun x25 hc25 hx25 => ?_)
            refine z_goto (tgt := 55) zh dX9_plan_82 rfl ?_
            exact ih55 iv lv x25 hG (ra_w hx25 (by decide) (by decide)) em24 (ms_up hc25 (by decide) hn55)
      exact J55 145 iv lv (nI 0) hG (ra_w rl_0 (by decide) (by decide)) em8 (ms_u0 rl_0 (by decide))
    · have r26 := rb_eq (u := (-1)) (v := (-1)) hx7 rl_n1 q9 (by decide) (by decide)
      refine z_iconst zh dX9_plan_51 ki_m1 ?_
      exact z_iret zh dX9_plan_52 ⟨_, rfl, hG, em8⟩
  refine z_icmp_ne (tgt := 41) zh dX9_plan_22 rfl (fun q27 => ?_) (fun q27 => ?_)
  · have r28 : Ra 0 24 x7 := rb_ne_lo hx7 rl_n1 q27 (by decide)
    exact J41 iv lv hG
  · have r29 := rb_eq (u := (-1)) (v := (-1)) hx7 rl_n1 q27 (by decide) (by decide)
    refine z_aloadnR zh dX9_plan_25 rfl ?_
    refine z_aloadnR zh dX9_plan_26 rfl ?_
    refine y_getI zh fl_Y_374 dX9_plan_27 ck_Y rfl rfl (fun x30 ex30 => ?_)
    refine z_putI zh fl_Y_401 dX9_plan_30 ck_Y rfl rfl (Nat.le_of_ble_eq_true rfl) (Or.inl rfl) ?_
    have hG : SI sp σ (upI iv 551 25 x30) := si_w (k := 551) (j := 25) hG (by decide) (by decide) (sq_no hq rfl) (fun lo hi q => (rx_none rfl) lo hi ((rg_Y (q := 0)).symm.trans q))
    have em31 := (upI_ne (iv := iv) (k := 551) (j := 25) (x := x30) (a := 551) (b := 23) (Or.inr (by decide))).trans ex30
    have em32 : upI iv 551 25 x30 551 25 = x30 := by rw [upI_at, if_pos ⟨rfl, rfl⟩]
    generalize upI iv 551 25 x30 = iv at hG em31 em32 ⊢
    refine z_aloadnR zh dX9_plan_33 rfl ?_
    refine z_aloadnR zh dX9_plan_34 rfl ?_
    refine y_getI zh fl_Y_377 dX9_plan_35 ck_Y rfl rfl (fun x33 ex33 => ?_)
    refine z_putI zh fl_Y_45 dX9_plan_38 ck_Y rfl rfl (Nat.le_of_ble_eq_true rfl) (Or.inl rfl) ?_
    have hG : SI sp σ (upI iv 551 26 x33) := si_w (k := 551) (j := 26) hG (by decide) (by decide) (sq_no hq rfl) (fun lo hi q => (rx_none rfl) lo hi ((rg_Y (q := 0)).symm.trans q))
    have em34 := (upI_ne (iv := iv) (k := 551) (j := 26) (x := x33) (a := 551) (b := 23) (Or.inr (by decide))).trans em31
    have em35 := (upI_ne (iv := iv) (k := 551) (j := 26) (x := x33) (a := 551) (b := 25) (Or.inr (by decide))).trans em32
    have em36 := (upI_ne (iv := iv) (k := 551) (j := 26) (x := x33) (a := 551) (b := 24) (Or.inr (by decide))).trans ex33
    have em37 : upI iv 551 26 x33 551 26 = x33 := by rw [upI_at, if_pos ⟨rfl, rfl⟩]
    generalize upI iv 551 26 x33 = iv at hG em34 em35 em36 em37 ⊢
    exact J41 iv lv hG
set_option maxRecDepth 20000 in
theorem e_X8_imageL (g : GE) {sp : Nat → Nat → Bool} {σ : Iv} {iv : Iv} {lv : Lv} {a1 : Int32}  (hG : SI sp σ iv) (hq : Sq sp) (hI : sp 0 4 = false) {f : Int32} (ef : iv 0 4 = f) (hf : f = 0 ∨ f = nI 1) : ConI g yX8_image cX8_image 2 (some .boolean) 3 [rf g 0, .int a1] iv lv (fun r iv lv => SI sp σ iv ∧ ((a1 = 0 ∧ f = 0) → r = nI 0 ∧ iv 0 4 = f) ∧ (¬ (a1 = 0 ∧ f = 0) → r = nI 1 ∧ iv 0 4 = nI 1)) := by
  refine con_intro (own := "RollingNets") (by decide +kernel) rfl (Nat.le_of_ble_eq_true rfl) (L0 := [some (rf g 0), some (.int a1)]) rfl (fun Z zh => ?_)
  refine z_iloadn zh dX8_image_0 rfl ?_
  refine z_if_eq (tgt := 22) zh dX8_image_1 rfl (fun q1 => ?_) (fun q1 => ?_)
  · refine z_aloadnR zh dX8_image_22 rfl ?_
    refine y_getI zh fl_RollingNets_29 dX8_image_23 ck_X rfl rfl (fun x3 ex3 => ?_)
    have ef3 : x3 = f := ex3.symm.trans ef
    refine z_if_ne (tgt := 31) zh dX8_image_26 rfl (fun q4 => ?_) (fun q4 => ?_)
    · refine z_aloadnR zh dX8_image_31 rfl ?_
      refine z_getf zh fl_RollingNets_12 dX8_image_32 ck_X rfl rfl ?_
      refine z_aloadnR zh dX8_image_35 rfl ?_
      refine z_getf zh fl_RollingNets_16 dX8_image_36 ck_X rfl rfl ?_
      refine z_callVV zh mv_RollingNets_191 dX8_image_39 (ck_H isH_1) rfl (s_X1_copyFrom g isH_1 isH_2 (si_add (k0 := 0) (j0 := 4) hG rfl) (sq_1 hq rfl)) ⟨Nat.le_of_ble_eq_true rfl, Nat.le_of_ble_eq_true rfl⟩ rfl rfl (Nat.le_of_ble_eq_true rfl) ?_
      rintro iv2 lv hG2
      have hd := si_drop hG hG2
      refine z_iconst zh dX8_image_42 ki_1 ?_
      exact z_zret zh dX8_image_43 (Or.inr rfl) ⟨_, rfl, hd.1, (fun w => absurd (ef3.trans w.2) q4), (fun _ => ⟨rfl, hd.2.trans (ef.trans (hf.resolve_left (fun w => q4 (ef3.trans w))))⟩)⟩
    · refine z_iconst zh dX8_image_29 ki_0 ?_
      exact z_zret zh dX8_image_30 (Or.inl rfl) ⟨_, rfl, hG, (fun _ => ⟨rfl, ef⟩), (fun w => absurd ⟨q1, ef3.symm.trans q4⟩ w)⟩
  · refine z_aloadnR zh dX8_image_4 rfl ?_
    refine z_getf zh fl_RollingNets_16 dX8_image_5 ck_X rfl rfl ?_
    refine z_aloadnR zh dX8_image_8 rfl ?_
    refine z_getf zh fl_RollingNets_12 dX8_image_9 ck_X rfl rfl ?_
    refine z_callVV zh mv_RollingNets_191 dX8_image_12 (ck_H isH_2) rfl (s_X1_copyFrom g isH_2 isH_1 hG hq) ⟨Nat.le_of_ble_eq_true rfl, Nat.le_of_ble_eq_true rfl⟩ rfl rfl (Nat.le_of_ble_eq_true rfl) ?_
    rintro iv lv hG
    refine z_aloadnR zh dX8_image_15 rfl ?_
    refine z_iconst zh dX8_image_16 ki_1 ?_
    refine z_putI zh fl_RollingNets_29 dX8_image_17 ck_X rfl rfl (Nat.le_of_ble_eq_true rfl) (Or.inr ⟨rfl, ra_01 (ra_w rl_1 (by decide) (by decide))⟩) ?_
    have hG : SI sp σ (upI iv 0 4 (nI 1)) := si_w (k := 0) (j := 4) hG (by decide) (by decide) hI (rx_none rfl)
    have em6 : upI iv 0 4 (nI 1) 0 4 = nI 1 := by rw [upI_at, if_pos ⟨rfl, rfl⟩]
    generalize upI iv 0 4 (nI 1) = iv at hG em6 ⊢
    refine z_iconst zh dX8_image_20 ki_1 ?_
    exact z_zret zh dX8_image_21 (Or.inr rfl) ⟨_, rfl, hG, (fun w => absurd w.1 q1), (fun _ => ⟨rfl, em6⟩)⟩
theorem v_X8_feed (g : GE) {iv : Iv} {lv : Lv} {a1 : Int32} {a2 : Int32} {a3 : Int32} {a4 : Int32} {a5 : Int32}  (hG : SI s0 z0 iv) (hR : R3 iv) : ConI g yX8_feed cX8_feed 6 (some .int) 2 [rf g 0, .int a1, .int a2, .int a3, .int a4, .int a5] iv lv (fun r iv lv => SI s0 z0 iv ∧ MFeed r iv) := by
  obtain ⟨n, hn, en⟩ := ra_n (c := 400) (si_c hG (k := 541) (j := 1) rfl) (by decide)
  exact con_mono (e_X8_feed g (t := iv 542) (si_sub (t4x_c (a := 541) (b := 1)) hG) rfl (fun _ => rfl) ⟨en, fun _ _ => rfl⟩ hn) (fun r iv' lv' h => ⟨si_0 h.1, n, hn, (h.1.2.1 551 17 rfl).trans (hR.1.trans en), fun q => ⟨(h.2.1 q).1, (h.2.1 q).2.1⟩, fun q => ⟨(h.2.2 q).1, (h.2.2 q).2.1⟩, f3_fr (h.1.2.1 551 29 rfl) (h.1.2.1 0 4 rfl) hR.2⟩)
theorem v_X9_feed (g : GE) {iv : Iv} {lv : Lv} {a1 : Int32} {a2 : Int32} {a3 : Int32} {a4 : Int32} {a5 : Int32} {r0 : Int32} (hG : SI s0 z0 iv) (hM : MFeed r0 iv) : ConI g yX9_feed cX9_feed 6 (some .int) 2 [rf g 551, .int a1, .int a2, .int a3, .int a4, .int a5] iv lv (fun r iv lv => SI s0 z0 iv ∧ R3 iv ∧ r = r0) := by
  obtain ⟨n, hn, en, h1, h2, hF⟩ := hM
  refine con_mono (e_X9_feed g (t := iv 561) (si_sub (t4x_c (a := 551) (b := 17)) hG) rfl (fun _ => rfl) ⟨en, fun _ _ => rfl⟩ hn) (fun r iv' lv' h => ?_)
  have e1 := h.1.2.1 541 1 rfl
  have hF := f3_fr (h.1.2.1 551 29 rfl) (h.1.2.1 0 4 rfl) hF
  by_cases q : n ≤ 380
  · exact ⟨si_0 h.1, ⟨(h.2.1 q).2.1.trans ((h1 q).2.symm.trans e1.symm), hF⟩, (h.2.1 q).1.trans (h1 q).1.symm⟩
  · exact ⟨si_0 h.1, ⟨(h.2.2 q).2.1.trans ((h2 q).2.symm.trans e1.symm), hF⟩, (h.2.2 q).1.trans (h2 q).1.symm⟩
theorem v_X8_end (g : GE) {iv : Iv} {lv : Lv} {a1 : Int32}  (hG : SI s0 z0 iv) (hR : R3 iv) : ConI g yX8_end cX8_end 2 (some .boolean) 1 [rf g 0, .int a1] iv lv (fun r iv lv => SI s0 z0 iv ∧ MEnd a1 r iv) := by
  exact con_mono (e_X8_end g (si_sub (t4x_c (a := 541) (b := 1)) hG) rfl rfl) (fun r iv' lv' h => ⟨si_0 h.1, _, (h.1.2.1 551 17 rfl).trans hR.1, h.2.1, h.2.2, f3_fr (h.1.2.1 551 29 rfl) (h.1.2.1 0 4 rfl) hR.2⟩)
theorem v_X9_end (g : GE) {iv : Iv} {lv : Lv} {a1 : Int32} {r0 : Int32} (hG : SI s0 z0 iv) (hM : MEnd a1 r0 iv) : ConI g yX9_end cX9_end 2 (some .boolean) 2 [rf g 551, .int a1] iv lv (fun r iv lv => SI s0 z0 iv ∧ R3 iv ∧ r = r0) := by
  obtain ⟨x, ex, h1, h2, hF⟩ := hM
  refine con_mono (e_X9_end g (si_sub (t4x_c (a := 551) (b := 17)) hG) rfl ex) (fun r iv' lv' h => ?_)
  have e1 := h.1.2.1 541 1 rfl
  have hF := f3_fr (h.1.2.1 551 29 rfl) (h.1.2.1 0 4 rfl) hF
  by_cases q : Rg (nI 0) x a1
  · exact ⟨si_0 h.1, ⟨(h.2.1 q).2.trans ((h1 q).2.symm.trans e1.symm), hF⟩, (h.2.1 q).1.trans (h1 q).1.symm⟩
  · exact ⟨si_0 h.1, ⟨(h.2.2 q).2.trans ((h2 q).2.symm.trans e1.symm), hF⟩, (h.2.2 q).1.trans (h2 q).1.symm⟩
theorem v_X8_plan (g : GE) {iv : Iv} {lv : Lv}   (hG : SI s0 z0 iv) (hR : R3 iv) : ConI g yX8_plan cX8_plan 1 (some .int) 9 [rf g 0] iv lv (fun r iv lv => SI s0 z0 iv ∧ MPlan iv) := by
  exact con_mono (e_X8_planL g (si_sub (t4x_c (a := 541) (b := 1)) hG) t4x_q rfl) (fun r iv' lv' h => ⟨si_0 h.1, h.2, f3_fr (h.1.2.1 551 29 rfl) (h.1.2.1 0 4 rfl) hR.2⟩)
theorem v_X9_plan (g : GE) {iv : Iv} {lv : Lv}   (hG : SI s0 z0 iv) (hM : MPlan iv) : ConI g yX9_plan cX9_plan 3 (some .int) 7 [rf g 551] iv lv (fun r iv lv => SI s0 z0 iv ∧ R3 iv) := by
  exact con_mono (e_X9_planL g (si_sub (t4x_c (a := 551) (b := 17)) hG) t4x_q rfl rfl) (fun r iv' lv' h => ⟨si_0 h.1, h.2.trans (hM.1.symm.trans (h.1.2.1 541 1 rfl).symm), f3_fr (h.1.2.1 551 29 rfl) (h.1.2.1 0 4 rfl) hM.2⟩)
theorem v_X8_image (g : GE) {iv : Iv} {lv : Lv} {a1 : Int32}  (hG : SI s0 z0 iv) (hR : R3 iv) : ConI g yX8_image cX8_image 2 (some .boolean) 3 [rf g 0, .int a1] iv lv (fun r iv lv => SI s0 z0 iv ∧ MImg a1 r iv) := by
  exact con_mono (e_X8_imageL g (si_sub (t4x_c (a := 0) (b := 4)) hG) t4x_q rfl rfl hR.2.2) (fun r iv' lv' h => ⟨si_0 h.1, ((h.1.2.1 551 17 rfl).trans hR.1).trans (h.1.2.1 541 1 rfl).symm, _, (h.1.2.1 551 29 rfl).trans hR.2.1, h.2.1, h.2.2⟩)
theorem v_X9_image (g : GE) {iv : Iv} {lv : Lv} {a1 : Int32} {r0 : Int32} (hG : SI s0 z0 iv) (hM : MImg a1 r0 iv) : ConI g yX9_image cX9_image 3 (some .boolean) 1 [rf g 551, .int a1] iv lv (fun r iv lv => SI s0 z0 iv ∧ R3 iv ∧ r = r0) := by
  obtain ⟨el, f, ef, h1, h2⟩ := hM
  have hs := si_sub (t4x_c (a := 551) (b := 29)) hG
  by_cases w : a1 = 0 ∧ f = 0
  · obtain ⟨e1, e2⟩ := h1 w
    obtain ⟨w1, w2⟩ := w
    subst w1
    refine con_mono (e_X9_image_n g (si_sub t4_c hG) (ef.trans w2)) (fun r iv' lv' h => ⟨si_0 h.1, r3_fr h.1 ⟨el, ef.trans e2.symm, Or.inl (e2.trans w2)⟩, h.2.trans e1.symm⟩)
  · obtain ⟨e1, e2⟩ := h2 w
    refine con_mono (e_X9_image g hs (fun _ _ => rfl) (fun _ _ => rfl) (fun _ _ => rfl) (fun _ => rfl) rfl ef w) (fun r iv' lv' h => ⟨si_0 h.1, ⟨((h.1.2.1 551 17 rfl).trans el).trans (h.1.2.1 541 1 rfl).symm, h.2.2.1.trans (e2.symm.trans (h.1.2.1 0 4 rfl).symm), Or.inr ((h.1.2.1 0 4 rfl).trans e2)⟩, h.2.1.trans e1.symm⟩)
