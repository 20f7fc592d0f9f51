/-! WHAT WOULD BE TOMORROW -/
def spW (sp : Nat → Nat → Bool) (k j : Nat) : Bool := sp k j || k == 553
theorem spW_of {sp : Nat → Nat → Bool} {k j : Nat} (h : sp k j = true) : spW sp k j = true := by unfold spW; rw [h]; rfl
theorem spW_5 {sp : Nat → Nat → Bool} {j : Nat} : spW sp 553 j = true := by unfold spW; exact Bool.or_eq_true_iff.mpr (Or.inr rfl)
theorem spW_q {sp : Nat → Nat → Bool} (hq : Sq sp) : Sq (spW sp) := fun k j h => by
  unfold spW at h
  rcases Bool.or_eq_true_iff.mp h with h | h
  · exact hq _ _ h
  · unfold qok; rw [h]; exact Bool.or_true _
theorem si_W {sp : Nat → Nat → Bool} {σ iv : Iv} (hG : SI sp σ iv) : SI (spW sp) iv iv := ⟨fun k j h => by
  unfold spW at h
  rcases Bool.or_eq_true_iff.mp h with h | h
  · exact hG.1 _ _ h
  · have := eq_of_beq h; subst this; rfl, fun _ _ _ => rfl, hG.2.2⟩
theorem si_Wb {sp : Nat → Nat → Bool} {σ i0 iv : Iv} (hG : SI sp σ i0) (h : SI (spW sp) i0 iv) : SI sp σ iv := ⟨hG.1, fun k j q => (h.2.1 k j (spW_of q)).trans (hG.2.1 k j q), h.2.2⟩
set_option maxHeartbeats 1000000 in
set_option maxRecDepth 20000 in
theorem s_X9_tomorrow (g : GE) {sp : Nat → Nat → Bool} {σ : Iv} {iv : Iv} {lv : Lv} {a1 a2 a3 : Int32} (hG : SI sp σ iv) (hq : Sq sp) (hP : sp 552 10 = false) (hT : ∀ j, sp 553 j = false) : ConI g yX9_tomorrow cX9_tomorrow 6 (some .int) 11 [rf g 551, .int a1, .int a2, .int a3] iv lv (fun r iv lv => SI sp σ iv) := by
  refine con_intro (own := "RollingNetsModel") (by decide +kernel) rfl (Nat.le_of_ble_eq_true rfl) (L0 := [some (rf g 551), some (.int a1), some (.int a2), some (.int a3), none, none]) rfl (fun Z zh => ?_)
  have hs52 : ∀ j, sp 552 j = false := fun j => by
    by_cases e : j = 10
    · subst e; exact hP
    · exact sq_no hq (by unfold qok; rw [beq_false_of_ne e]; rfl)
  have J44 : ∀ (iv : Iv) (lv : Lv), SI sp σ iv → Z 44 [some (rf g 551), some (.int a1), some (.int a2), some (.int a3), none, none] [] iv lv := by
    intro iv lv hG
    refine z_ldcw zh dX9_tomorrow_44 kc_Y_330 ?_
    exact z_iret zh dX9_tomorrow_47 ⟨_, rfl, hG⟩
  refine z_aloadnR zh dX9_tomorrow_0 rfl ?_
  refine z_iconst zh dX9_tomorrow_1 ki_0 ?_
  refine z_putI zh fl_Y_58 dX9_tomorrow_2 ck_Y rfl rfl (Nat.le_of_ble_eq_true rfl) (Or.inl rfl) ?_
  have hG : SI sp σ (upI iv 551 0 (nI 0)) := si_w (k := 551) (j := 0) hG (by decide) (by decide) (sp_no hG ((spc_Y (q := 0)).trans rfl)) (fun lo hi q => (rx_none rfl) lo hi ((rg_Y (q := 0)).symm.trans q))
  have em1 : upI iv 551 0 (nI 0) 551 0 = nI 0 := by rw [upI_at, if_pos ⟨rfl, rfl⟩]
  generalize upI iv 551 0 (nI 0) = iv at hG em1 ⊢
  refine z_aloadnR zh dX9_tomorrow_5 rfl ?_
  refine z_iloadn zh dX9_tomorrow_6 rfl ?_
  refine z_callVI zh mv_Y_90 dX9_tomorrow_7 ck_Y rfl (s_X9_isMember g  hG) ⟨Nat.le_of_ble_eq_true rfl, Nat.le_of_ble_eq_true rfl⟩ rfl rfl (Nat.le_of_ble_eq_true rfl) ?_
  rintro x2 _ _ ⟨rfl, rfl, hx2, hz3⟩
  refine z_if_eq (tgt := 44) zh dX9_tomorrow_10 rfl (fun _ => J44 iv lv hG) (fun q10 => ?_)
  have r4 : Ra 0 11 a1 := (hz3 q10)
  refine z_aloadnR zh dX9_tomorrow_13 rfl ?_
  refine z_iloadn zh dX9_tomorrow_14 rfl ?_
  refine z_callVI zh mv_Y_94 dX9_tomorrow_15 ck_Y rfl (s_X9_isIssue g  hG) ⟨Nat.le_of_ble_eq_true rfl, Nat.le_of_ble_eq_true rfl⟩ rfl rfl (Nat.le_of_ble_eq_true rfl) ?_
  rintro x5 _ _ ⟨rfl, rfl, hx5, hz6⟩
  refine z_if_eq (tgt := 44) zh dX9_tomorrow_18 rfl (fun _ => J44 iv lv hG) (fun q18 => ?_)
  have r7 : Ra 0 5 a2 := (hz6 q18)
  refine z_aloadnR zh dX9_tomorrow_21 rfl ?_
  refine z_iloadn zh dX9_tomorrow_22 rfl ?_
  refine z_iconst zh dX9_tomorrow_23 ki_0 ?_
  refine z_bipush zh dX9_tomorrow_24 kb_9 ?_
  refine z_callVI zh mv_Y_79 dX9_tomorrow_26 ck_Y rfl (s_X9_isIn g) ⟨Nat.le_of_ble_eq_true rfl, Nat.le_of_ble_eq_true rfl⟩ rfl rfl (Nat.le_of_ble_eq_true rfl) ?_
  rintro x8 _ _ ⟨rfl, rfl, hx8, hz9⟩
  refine z_if_eq (tgt := 44) zh dX9_tomorrow_29 rfl (fun _ => J44 iv lv hG) (fun q29 => ?_)
  have r10 : Ra 0 9 a3 := (rb_in rl_0 rl_9 (hz9 q29))
  refine z_aloadnR zh dX9_tomorrow_32 rfl ?_
  refine z_getf zh fl_Y_7 dX9_tomorrow_33 ck_Y rfl rfl ?_
  refine z_bipush zh dX9_tomorrow_36 kb_6 ?_
  refine y_ialdN zh ck_now dX9_tomorrow_38 (by decide) (fun x11 ex11 => ?_)
  have hx11 : Ra 0 99 x11 := ra_of ex11 (nr_l hG 6 rfl)
  refine z_bipush zh dX9_tomorrow_39 kb_99 ?_
  refine z_icmp_ne (tgt := 48) zh dX9_tomorrow_41 rfl (fun q41 => ?_) (fun _ => J44 iv lv hG)
  have hN : Ra 0 98 (iv 552 6) := by rw [ex11]; exact rb_ne_hi hx11 rl_99 q41 (by decide)
  obtain ⟨n0, en0⟩ : ∃ n0, n0 = iv 552 := ⟨_, rfl⟩
  have n0R : ∀ j lo hi, rN j = some (lo, hi) → Ra lo hi (n0 j) := fun j lo hi e => by rw [en0]; exact nr_j hG e
  have n0L : Lots n0 := by rw [en0]; exact hG.2.2.2.1
  have hN0 : Ra 0 98 (n0 6) := by rw [en0]; exact hN
  have J206 : ∀ (iv : Iv) (lv : Lv) (r k : Int32), SI sp σ iv → Z 206 [some (rf g 551), some (.int a1), some (.int a2), some (.int a3), some (.int r), some (.int k)] [] iv lv := by
    intro iv lv r k hG
    refine z_iload zh dX9_tomorrow_206 rfl ?_
    exact z_iret zh dX9_tomorrow_208 ⟨_, rfl, hG⟩
  have J179 : ∀ (q : Nat) (iv : Iv) (lv : Lv) (r : Int32) (k : Int32), SI sp σ iv → Ra 0 13 k → 13 - k.toInt < (q : Int) → Z 179 [some (rf g 551), some (.int a1), some (.int a2), some (.int a3), some (.int r), some (.int k)] [] iv lv := by
    intro q
    induction q with
    | zero => intro iv lv r k _ hk hn; exact (ms_uz hk hn).elim
    | succ q ih =>
      intro iv lv r k hG hk hn
      refine z_iload zh dX9_tomorrow_179 rfl ?_
      refine z_bipush zh dX9_tomorrow_181 kb_13 ?_
      refine z_icmp_ge (tgt := 206) zh dX9_tomorrow_183 rfl (fun _ => J206 iv lv r k hG) (fun q => ?_)
      have hk1 : Ra 0 12 k := rb_lt_l rl_13 hk (rb_nle q) (by decide)
      refine z_aloadnR zh dX9_tomorrow_186 rfl ?_
      refine z_getf zh fl_Y_16 dX9_tomorrow_187 ck_Y rfl rfl ?_
      refine z_iload zh dX9_tomorrow_190 rfl ?_
      refine z_aloadnR zh dX9_tomorrow_192 rfl ?_
      refine z_getf zh fl_Y_20 dX9_tomorrow_193 ck_Y rfl rfl ?_
      refine z_iload zh dX9_tomorrow_196 rfl ?_
      refine y_lald zh ck_coinsW dX9_tomorrow_198 hk1 (by decide) (by decide) (fun l12 => ?_)
      refine z_last zh ck_coins dX9_tomorrow_199 (ra_in hk1 (by decide) (by decide)) ?_
      generalize upL lv 554 k.toNatClampNeg l12 = lv
      refine y_iinc (L' := fun z => [some (rf g 551), some (.int a1), some (.int a2), some (.int a3), some (.int r), some (.int z)]) zh dX9_tomorrow_200 (by decide) rfl (by decide +kernel) hk1 (u := 1) (v := 13) rfl rfl (by decide) (by decide) (fun _ => rfl) (fun x13 hc13 hx13 => ?_)
      refine z_goto (tgt := 179) zh dX9_tomorrow_203 rfl ?_
      exact ih iv _ r x13 hG (ra_w hx13 (by decide) (by decide)) (ms_up hc13 (by decide) hn)
  have J148 : ∀ (q : Nat) (iv : Iv) (lv : Lv) (r k : Int32), SA 552 sp σ iv → (∀ j : Nat, j < 19782 → iv 553 j = n0 j) → (∀ j : Nat, (j : Int) < k.toInt → iv 552 j = n0 j) → Ra 0 19782 k → 19782 - k.toInt < (q : Int) → Z 148 [some (rf g 551), some (.int a1), some (.int a2), some (.int a3), some (.int r), some (.int k)] [] iv lv := by
    intro q
    induction q with
    | zero => intro iv lv r k _ _ _ hk hn; exact (ms_uz hk hn).elim
    | succ q ih =>
      intro iv lv r k hG hB hC hk hn
      refine z_iload zh dX9_tomorrow_148 rfl ?_
      refine z_sipush zh dX9_tomorrow_150 ks_19782 ?_
      refine z_icmp_ge (tgt := 176) zh dX9_tomorrow_153 rfl (fun q => ?_) (fun q => ?_)
      · have q0 := leI.mp q
        have o9 := rl_19782.1
        have hG1 : SI sp σ iv := ⟨hG.1, hG.2.1, hG.2.2.1, lots_cong n0L (fun j hj => hC j (by omega)), hG.2.2.2.2.resolve_left (by decide)⟩
        refine z_iconst zh dX9_tomorrow_176 ki_0 ?_
        refine z_istore zh dX9_tomorrow_177 (by decide) (L' := [some (rf g 551), some (.int a1), some (.int a2), some (.int a3), some (.int r), some (.int (nI 0))]) rfl ?_
        exact J179 14 iv lv r (nI 0) hG1 (ra_w rl_0 (by decide) (by decide)) (ms_u0 rl_0 (by decide))
      · have hk1 : Ra 0 19781 k := rb_lt_l rl_19782 hk (rb_nle q) (by decide)
        refine z_aloadnR zh dX9_tomorrow_156 rfl ?_
        refine z_getf zh fl_Y_7 dX9_tomorrow_157 ck_Y rfl rfl ?_
        refine z_iload zh dX9_tomorrow_160 rfl ?_
        refine z_aloadnR zh dX9_tomorrow_162 rfl ?_
        refine z_getf zh fl_Y_13 dX9_tomorrow_163 ck_Y rfl rfl ?_
        refine z_iload zh dX9_tomorrow_166 rfl ?_
        have ec := ra_clamp hk1 (by decide)
        have k1 := hk1.1; have k2 := hk1.2
        refine y_iald zh ck_waiting dX9_tomorrow_168 hk1 (by decide) (by decide) (fun v ev => ?_)
        have ev0 : v = n0 k.toNatClampNeg := ev.symm.trans (hB _ (by omega))
        refine z_iast zh ck_now dX9_tomorrow_169 (ra_in hk1 (by decide) (by decide)) ?_
        have hG1 : SA 552 sp σ (upI iv 552 k.toNatClampNeg v) := sa_w hG (Or.inl rfl) (fun q => by rw [hs52] at q; cases q) (fun lo hi e => by rw [ev0]; exact n0R _ _ _ (rg_N.symm.trans e))
        have hC1 : ∀ j : Nat, (j : Int) < k.toInt + 1 → upI iv 552 k.toNatClampNeg v 552 j = n0 j := fun j hj => by
          by_cases e : j = k.toNatClampNeg
          · subst e; rw [upI_at, if_pos ⟨rfl, rfl⟩]; exact ev0
          · rw [upI_ne (Or.inr e)]; exact hC j (by omega)
        have hB1 : ∀ j : Nat, j < 19782 → upI iv 552 k.toNatClampNeg v 553 j = n0 j := fun j hj => by rw [upI_ne (Or.inl (by decide))]; exact hB j hj
        revert hG1 hC1 hB1; generalize upI iv 552 k.toNatClampNeg v = iv; intro hG hC hB
        refine y_iinc (L' := fun z => [some (rf g 551), some (.int a1), some (.int a2), some (.int a3), some (.int r), some (.int z)]) zh dX9_tomorrow_170 (by decide) rfl (by decide +kernel) hk1 (u := 1) (v := 19782) rfl rfl (by decide) (by decide) (fun _ => rfl) (fun x14 hc14 hx14 => ?_)
        refine z_goto (tgt := 148) zh dX9_tomorrow_173 rfl ?_
        rw [← hc14] at hC
        exact ih iv lv r x14 hG hB hC (ra_w hx14 (by decide) (by decide)) (ms_up hc14 (by decide) hn)
  have J143 : ∀ (iv : Iv) (lv : Lv) (r k : Int32), SI sp σ iv → (∀ j : Nat, j < 19782 → iv 553 j = n0 j) → Z 143 [some (rf g 551), some (.int a1), some (.int a2), some (.int a3), some (.int k), none] [.int r] iv lv := by
    intro iv lv r k hG hB
    refine z_istore zh dX9_tomorrow_143 (by decide) (L' := [some (rf g 551), some (.int a1), some (.int a2), some (.int a3), some (.int r), none]) rfl ?_
    refine z_iconst zh dX9_tomorrow_145 ki_0 ?_
    refine z_istore zh dX9_tomorrow_146 (by decide) (L' := [some (rf g 551), some (.int a1), some (.int a2), some (.int a3), some (.int r), some (.int (nI 0))]) rfl ?_
    exact J148 19783 iv lv r (nI 0) ⟨hG.1, hG.2.1, hG.2.2.1, Or.inl rfl, Or.inr hG.2.2.2.2⟩ hB (fun j hj => by have := rl_0.2; omega) (ra_w rl_0 (by decide) (by decide)) (ms_u0 rl_0 (by decide))
  have J109 : ∀ (iv : Iv) (lv : Lv) (k : Int32), SI sp σ iv → (∀ j : Nat, j < 19782 → iv 552 j = n0 j) → (∀ j : Nat, j < 19782 → iv 553 j = n0 j) → Z 109 [some (rf g 551), some (.int a1), some (.int a2), some (.int a3), some (.int k), none] [] iv lv := by
    intro iv lv k hG hA hB
    refine z_aloadnR zh dX9_tomorrow_109 rfl ?_
    refine z_callVV zh mv_Y_303 dX9_tomorrow_110 ck_Y rfl (s_X9_goesNight g (si_W hG) (spW_q hq) (by rw [hA _ (by decide)]; exact hN0)) ⟨Nat.le_of_ble_eq_true rfl, Nat.le_of_ble_eq_true rfl⟩ rfl rfl (Nat.le_of_ble_eq_true rfl) ?_
    rintro iw lw hW
    have hG1 : SI sp σ iw := si_Wb hG hW
    have hB1 : ∀ j : Nat, j < 19782 → iw 553 j = n0 j := fun j hj => (hW.2.1 553 j spW_5).trans (hB j hj)
    clear hW hG hA hB
    revert hG1 hB1; generalize iw = iv; generalize lw = lv; intro hG hB
    refine z_iloadn zh dX9_tomorrow_113 rfl ?_
    refine z_bipush zh dX9_tomorrow_114 kb_9 ?_
    refine z_icmp_ne (tgt := 136) zh dX9_tomorrow_116 rfl (fun _ => ?_) (fun _ => ?_)
    · refine z_aloadnR zh dX9_tomorrow_136 rfl ?_
      refine z_iloadn zh dX9_tomorrow_137 rfl ?_
      refine z_iloadn zh dX9_tomorrow_138 rfl ?_
      refine z_iloadn zh dX9_tomorrow_139 rfl ?_
      refine z_callVI zh mv_Y_327 dX9_tomorrow_140 ck_Y rfl (s_X9_atOf g r4 r7 hG) ⟨Nat.le_of_ble_eq_true rfl, Nat.le_of_ble_eq_true rfl⟩ rfl rfl (Nat.le_of_ble_eq_true rfl) ?_
      rintro x15 _ _ ⟨rfl, rfl, _⟩
      exact J143 iv lv x15 k hG hB
    · refine z_aloadnR zh dX9_tomorrow_119 rfl ?_
      refine z_getf zh fl_Y_16 dX9_tomorrow_120 ck_Y rfl rfl ?_
      refine z_iloadn zh dX9_tomorrow_123 rfl ?_
      refine y_lald zh ck_coins dX9_tomorrow_124 r4 (by decide) (by decide) (fun l16 => ?_)
      refine z_aloadnR zh dX9_tomorrow_125 rfl ?_
      refine z_getf zh fl_Y_20 dX9_tomorrow_126 ck_Y rfl rfl ?_
      refine z_iloadn zh dX9_tomorrow_129 rfl ?_
      refine y_lald zh ck_coinsW dX9_tomorrow_130 r4 (by decide) (by decide) (fun l17 => ?_)
      refine y_lsub zh dX9_tomorrow_131 (fun l18 => ?_)
      refine y_l2i zh dX9_tomorrow_132 (fun x19 => ?_)
      exact z_goto (tgt := 143) zh dX9_tomorrow_133 rfl (J143 iv lv x19 k hG hB)
  have J82 : ∀ (q : Nat) (iv : Iv) (lv : Lv) (k : Int32), SI sp σ iv → (∀ j : Nat, j < 19782 → iv 552 j = n0 j) → (∀ j : Nat, j < 19782 → iv 553 j = n0 j) → Ra 0 13 k → 13 - k.toInt < (q : Int) → Z 82 [some (rf g 551), some (.int a1), some (.int a2), some (.int a3), some (.int k), none] [] iv lv := by
    intro q
    induction q with
    | zero => intro iv lv k _ _ _ hk hn; exact (ms_uz hk hn).elim
    | succ q ih =>
      intro iv lv k hG hA hB hk hn
      refine z_iload zh dX9_tomorrow_82 rfl ?_
      refine z_bipush zh dX9_tomorrow_84 kb_13 ?_
      refine z_icmp_ge (tgt := 109) zh dX9_tomorrow_86 rfl (fun _ => J109 iv lv k hG hA hB) (fun q => ?_)
      have hk1 : Ra 0 12 k := rb_lt_l rl_13 hk (rb_nle q) (by decide)
      refine z_aloadnR zh dX9_tomorrow_89 rfl ?_
      refine z_getf zh fl_Y_20 dX9_tomorrow_90 ck_Y rfl rfl ?_
      refine z_iload zh dX9_tomorrow_93 rfl ?_
      refine z_aloadnR zh dX9_tomorrow_95 rfl ?_
      refine z_getf zh fl_Y_16 dX9_tomorrow_96 ck_Y rfl rfl ?_
      refine z_iload zh dX9_tomorrow_99 rfl ?_
      refine y_lald zh ck_coins dX9_tomorrow_101 hk1 (by decide) (by decide) (fun l20 => ?_)
      refine z_last zh ck_coinsW dX9_tomorrow_102 (ra_in hk1 (by decide) (by decide)) ?_
      generalize upL lv 555 k.toNatClampNeg l20 = lv
      refine y_iinc (L' := fun z => [some (rf g 551), some (.int a1), some (.int a2), some (.int a3), some (.int z), none]) zh dX9_tomorrow_103 (by decide) rfl (by decide +kernel) hk1 (u := 1) (v := 13) rfl rfl (by decide) (by decide) (fun _ => rfl) (fun x21 hc21 hx21 => ?_)
      refine z_goto (tgt := 82) zh dX9_tomorrow_106 rfl ?_
      exact ih iv _ x21 hG hA hB (ra_w hx21 (by decide) (by decide)) (ms_up hc21 (by decide) hn)
  have J51 : ∀ (q : Nat) (iv : Iv) (lv : Lv) (k : Int32), SI sp σ iv → (∀ j : Nat, j < 19782 → iv 552 j = n0 j) → (∀ j : Nat, (j : Int) < k.toInt → iv 553 j = n0 j) → Ra 0 19782 k → 19782 - k.toInt < (q : Int) → Z 51 [some (rf g 551), some (.int a1), some (.int a2), some (.int a3), some (.int k), none] [] iv lv := by
    intro q
    induction q with
    | zero => intro iv lv k _ _ _ hk hn; exact (ms_uz hk hn).elim
    | succ q ih =>
      intro iv lv k hG hA hC hk hn
      refine z_iload zh dX9_tomorrow_51 rfl ?_
      refine z_sipush zh dX9_tomorrow_53 ks_19782 ?_
      refine z_icmp_ge (tgt := 79) zh dX9_tomorrow_56 rfl (fun q => ?_) (fun q => ?_)
      · have q0 := leI.mp q
        have o9 := rl_19782.1
        refine z_iconst zh dX9_tomorrow_79 ki_0 ?_
        refine z_istore zh dX9_tomorrow_80 (by decide) (L' := [some (rf g 551), some (.int a1), some (.int a2), some (.int a3), some (.int (nI 0)), none]) rfl ?_
        exact J82 14 iv lv (nI 0) hG hA (fun j hj => hC j (by omega)) (ra_w rl_0 (by decide) (by decide)) (ms_u0 rl_0 (by decide))
      · have hk1 : Ra 0 19781 k := rb_lt_l rl_19782 hk (rb_nle q) (by decide)
        refine z_aloadnR zh dX9_tomorrow_59 rfl ?_
        refine z_getf zh fl_Y_13 dX9_tomorrow_60 ck_Y rfl rfl ?_
        refine z_iload zh dX9_tomorrow_63 rfl ?_
        refine z_aloadnR zh dX9_tomorrow_65 rfl ?_
        refine z_getf zh fl_Y_7 dX9_tomorrow_66 ck_Y rfl rfl ?_
        refine z_iload zh dX9_tomorrow_69 rfl ?_
        have ec := ra_clamp hk1 (by decide)
        have k1 := hk1.1; have k2 := hk1.2
        refine y_iald zh ck_now dX9_tomorrow_71 hk1 (by decide) (by decide) (fun v ev => ?_)
        have ev0 : v = n0 k.toNatClampNeg := ev.symm.trans (hA _ (by omega))
        refine z_iast zh ck_waiting dX9_tomorrow_72 (ra_in hk1 (by decide) (by decide)) ?_
        have hG1 : SI sp σ (upI iv 553 k.toNatClampNeg v) := si_w hG (by decide) (by decide) (hT _) (rx_none rfl)
        have hC1 : ∀ j : Nat, (j : Int) < k.toInt + 1 → upI iv 553 k.toNatClampNeg v 553 j = n0 j := fun j hj => by
          by_cases e : j = k.toNatClampNeg
          · subst e; rw [upI_at, if_pos ⟨rfl, rfl⟩]; exact ev0
          · rw [upI_ne (Or.inr e)]; exact hC j (by omega)
        have hA1 : ∀ j : Nat, j < 19782 → upI iv 553 k.toNatClampNeg v 552 j = n0 j := fun j hj => by rw [upI_ne (Or.inl (by decide))]; exact hA j hj
        revert hG1 hC1 hA1; generalize upI iv 553 k.toNatClampNeg v = iv; intro hG hC hA
        refine y_iinc (L' := fun z => [some (rf g 551), some (.int a1), some (.int a2), some (.int a3), some (.int z), none]) zh dX9_tomorrow_73 (by decide) rfl (by decide +kernel) hk1 (u := 1) (v := 19782) rfl rfl (by decide) (by decide) (fun _ => rfl) (fun x22 hc22 hx22 => ?_)
        refine z_goto (tgt := 51) zh dX9_tomorrow_76 rfl ?_
        rw [← hc22] at hC
        exact ih iv lv x22 hG hA hC (ra_w hx22 (by decide) (by decide)) (ms_up hc22 (by decide) hn)
  refine z_iconst zh dX9_tomorrow_48 ki_0 ?_
  refine z_istore zh dX9_tomorrow_49 (by decide) (L' := [some (rf g 551), some (.int a1), some (.int a2), some (.int a3), some (.int (nI 0)), none]) rfl ?_
  exact J51 19783 iv lv (nI 0) hG (fun j hj => by rw [en0]) (fun j hj => by have := rl_0.2; omega) (ra_w rl_0 (by decide) (by decide)) (ms_u0 rl_0 (by decide))
