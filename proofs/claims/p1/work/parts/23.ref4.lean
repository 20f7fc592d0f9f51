theorem r1_now0 {dd : Nat → Nat} {j : Nat} {iv : Iv} {lv : Lv} (hG : OkR dd 0 iv lv) : iv 552 j = nI 0 := by
  by_cases h : j = 6
  · subst h; exact r1_DAY hG
  · exact r1_now hG h
theorem sp_look_n {j : Nat} (h6 : 6 ≤ j) (h19 : j ≤ 19) : sp_look (nI j) = nI 0 := by
  have hn : ∀ k, k < 6 → ¬ nI j = nI k := fun k hk e => by have := (nI_eq (by omega) (by omega)).mp e; omega
  have hr : Rg (nI 6) (nI 19) (nI j) := (Rg_nn (by omega) (by omega) (by omega)).mpr ⟨h6, h19⟩
  simp only [sp_look, sel_f (hn 0 (by omega)), sel_f (hn 1 (by omega)), sel_f (hn 2 (by omega)), sel_f (hn 3 (by omega)), sel_f (hn 4 (by omega)), sel_f (hn 5 (by omega)), sel_t hr]
theorem sp_look_far {w : Int32} (h5 : ¬ InN 6 w) (h8 : ¬ Rg (nI 6) (nI 8) w) (h19 : ∀ k, 9 ≤ k → k ≤ 19 → ¬ w = nI k) : sp_look w = -1000000 := by
  have hn : ∀ k, k < 6 → ¬ w = nI k := fun k hk => InN_no h5 hk
  have hr : ¬ Rg (nI 6) (nI 19) w := fun q => by
    obtain ⟨j, h1, h2, rfl⟩ := Rg_nat (a := 6) (b := 19) (by omega) (by omega) q
    by_cases h9 : 9 ≤ j
    · exact h19 j h9 h2 rfl
    · exact h8 ((Rg_nn (by omega) (by omega) (by omega)).mpr ⟨h1, by omega⟩)
  simp only [sp_look, sel_f (hn 0 (by omega)), sel_f (hn 1 (by omega)), sel_f (hn 2 (by omega)), sel_f (hn 3 (by omega)), sel_f (hn 4 (by omega)), sel_f (hn 5 (by omega)), sel_f hr]
theorem InN_10_9 {w : Int32} (h : InN 10 w) (h9 : ¬ w = nI 9) : InN 9 w := by
  obtain ⟨j, hj, rfl⟩ := h
  by_cases e : j = 9
  · subst e; exact absurd rfl h9
  · exact ⟨j, by omega, rfl⟩
set_option maxRecDepth 20000 in
theorem c_y_markedW (g : GE) {i : Nat} {iv : Iv} {lv : Lv}  (hi : i < 6) (hv : iv 552 (22 + i) = nI 0)  : ConIp g yX9_markedOf cX9_markedOf 2 (some .int) 1 [rf g 551, .int (nI i)] iv lv (nI 100) := by
  refine con_intro (own := "RollingNetsModel") (by decide +kernel) rfl (Nat.le_of_ble_eq_true rfl) (L0 := [some (rf g 551), some (.int (nI i))]) rfl (fun Z zh => ?_)
  refine z_aloadnR zh dX9_markedOf_0 rfl ?_
  refine z_getf zh fl_Y_7 dX9_markedOf_1 ck_Y rfl rfl ?_
  refine z_bipush zh dX9_markedOf_4 kb_22 ?_
  refine z_iloadn zh dX9_markedOf_6 rfl ?_
  refine z_iaddN zh dX9_markedOf_7 ?_
  refine z_ialdE (x := nI 0) zh ck_now dX9_markedOf_8 (by omega) hv ?_
  refine z_bipush zh dX9_markedOf_9 kb_100 ?_
  refine z_iaddN zh dX9_markedOf_11 ?_
  exact z_iret zh dX9_markedOf_12 (qI rfl)
set_option maxRecDepth 20000 in
theorem c_Y_split2 (g : GE) {x : Int32} {iv : Iv} {lv : Lv} {dd : Nat → Nat} {dm : Nat}  (hG : OkR dd dm iv lv) : ConI g yX9_split cX9_split 5 (some .boolean) 5 [rf g 551, .int x, .int (nI 2)] iv lv (fun r _ _ => r = sel (InN 6 x) (nI 1) (nI 0)) := by
  refine con_intro (own := "RollingNetsModel") (by decide +kernel) rfl (Nat.le_of_ble_eq_true rfl) (L0 := [some (rf g 551), some (.int x), some (.int (nI 2)), none, none]) rfl (fun Z zh => ?_)
  have hR : Rg (nI 2) (nI 5) (nI 2) := by unfold Rg; decide
  refine z_aloadnR zh dX9_split_0 rfl ?_
  refine z_iconst zh dX9_split_1 ki_0 ?_
  refine z_putI zh fl_Y_58 dX9_split_2 ck_Y rfl rfl (Nat.le_of_ble_eq_true rfl) (Or.inl rfl) ?_
  have hG := okR_wI (k := 551) (j := 0) (x := nI 0) hG (w1_no rfl)
  generalize upI iv (551) (0) (nI 0) = iv at hG ⊢
  refine z_aloadnR zh dX9_split_5 rfl ?_
  refine z_iloadn zh dX9_split_6 rfl ?_
  refine z_callVIp zh mv_Y_94 dX9_split_7 ck_Y rfl (c_y_isIssue g) ⟨Nat.le_of_ble_eq_true rfl, Nat.le_of_ble_eq_true rfl⟩ rfl rfl (Nat.le_of_ble_eq_true rfl) ?_
  refine z_if_eq_B (tgt := 60) zh dX9_split_10 rfl (fun hp1 => ?_) (fun hp1 => ?_)
  · refine z_iconst zh dX9_split_60 ki_0 ?_
    exact z_zret zh dX9_split_61 (Or.inl rfl) (⟨_, rfl, (by first | rfl | simp (decide := true) only [sel_t, sel_f, selL_t, selL_f, bi_t, bi_f, sel_same, selL_same, eq_self, hp1])⟩)
  · obtain ⟨jx, hjx, rfl⟩ := id hp1
    refine z_aloadnR zh dX9_split_13 rfl ?_
    refine z_iloadn zh dX9_split_14 rfl ?_
    refine z_iconst zh dX9_split_15 ki_2 ?_
    refine z_iconst zh dX9_split_16 ki_5 ?_
    refine z_callVIp zh mv_Y_79 dX9_split_17 ck_Y rfl (c_y_isIn g) ⟨Nat.le_of_ble_eq_true rfl, Nat.le_of_ble_eq_true rfl⟩ rfl rfl (Nat.le_of_ble_eq_true rfl) ?_
    refine z_if_eq_B (tgt := 60) zh dX9_split_20 rfl (fun q => absurd hR q) (fun _ => ?_)
    refine z_aloadnR zh dX9_split_23 rfl ?_
    refine z_iloadn zh dX9_split_24 rfl ?_
    refine z_callVIp zh mv_Y_310 dX9_split_25 ck_Y rfl (c_y_isFinished g  hG) ⟨Nat.le_of_ble_eq_true rfl, Nat.le_of_ble_eq_true rfl⟩ rfl rfl (Nat.le_of_ble_eq_true rfl) ?_
    refine z_if_eq_N (tgt := 60) zh (by decide) dX9_split_28 rfl (fun q => absurd q (by decide)) (fun _ => ?_)
    refine z_aloadnR zh dX9_split_31 rfl ?_
    refine z_iloadn zh dX9_split_32 rfl ?_
    refine z_callVIp zh mv_Y_197 dX9_split_33 ck_Y rfl (c_y_priceOf g hjx hG) ⟨Nat.le_of_ble_eq_true rfl, Nat.le_of_ble_eq_true rfl⟩ rfl rfl (Nat.le_of_ble_eq_true rfl) ?_
    refine z_iloadn zh dX9_split_36 rfl ?_
    refine z_irem zh dX9_split_37 (by decide) ?_
    rw [show (nI 100) - (nI 100) / (nI 2) * (nI 2) = nI 0 from by decide]
    refine z_if_ne_N (tgt := 60) zh (by decide) dX9_split_38 rfl (fun q => absurd q (by decide)) (fun _ => ?_)
    refine z_aloadnR zh dX9_split_41 rfl ?_
    refine z_iloadn zh dX9_split_42 rfl ?_
    refine z_callVIp zh mv_Y_203 dX9_split_43 ck_Y rfl (c_y_markedOf g hjx hG) ⟨Nat.le_of_ble_eq_true rfl, Nat.le_of_ble_eq_true rfl⟩ rfl rfl (Nat.le_of_ble_eq_true rfl) ?_
    refine z_iloadn zh dX9_split_46 rfl ?_
    refine z_irem zh dX9_split_47 (by decide) ?_
    rw [show (nI 100) - (nI 100) / (nI 2) * (nI 2) = nI 0 from by decide]
    refine z_if_ne_N (tgt := 60) zh (by decide) dX9_split_48 rfl (fun q => absurd q (by decide)) (fun _ => ?_)
    refine z_aloadnR zh dX9_split_51 rfl ?_
    refine z_iloadn zh dX9_split_52 rfl ?_
    refine z_iloadn zh dX9_split_53 rfl ?_
    refine z_callVIp zh mv_Y_313 dX9_split_54 ck_Y rfl (c_y_canSplit2 g hjx hG) ⟨Nat.le_of_ble_eq_true rfl, Nat.le_of_ble_eq_true rfl⟩ rfl rfl (Nat.le_of_ble_eq_true rfl) ?_
    refine z_if_ne_N (tgt := 62) zh (by decide) dX9_split_57 rfl (fun _ => ?_) (fun q => absurd q (by decide))
    refine z_iconst zh dX9_split_62 ki_0 ?_
    refine z_istoren zh dX9_split_63 (by decide) (L' := [some (rf g 551), some (.int (nI jx)), some (.int (nI 2)), some (.int (nI 0)), none]) rfl ?_
    have hl64 : ∀ (n k64 : Nat) (iv : Iv) (lv : Lv), OkR dd dm iv lv → k64 ≤ 6 → 6 - k64 < n → Z 64 [some (rf g 551), some (.int (nI jx)), some (.int (nI 2)), some (.int (nI k64)), none] [] iv lv := by
      intro n
      induction n with
      | zero => intro k64 iv lv _ _ hn; exact absurd hn (Nat.not_lt_zero _)
      | succ n ih64 =>
        intro k64 iv lv hG hk64 hn64
        refine z_iloadn zh dX9_split_64 rfl ?_
        refine z_aloadnR zh dX9_split_65 rfl ?_
        refine z_callVIp zh mv_Y_61 dX9_split_66 ck_Y rfl (c_y_memberMany g  hG) ⟨Nat.le_of_ble_eq_true rfl, Nat.le_of_ble_eq_true rfl⟩ rfl rfl (Nat.le_of_ble_eq_true rfl) ?_
        refine z_icmp_ge_N (tgt := 182) zh (by omega) (by decide) dX9_split_69 rfl (fun hb2 => ?_) (fun hb2 => ?_)
        · refine z_aloadnR zh dX9_split_182 rfl ?_
          refine z_getf zh fl_Y_7 dX9_split_183 ck_Y rfl rfl ?_
          refine z_bipush zh dX9_split_186 kb_16 ?_
          refine z_iloadn zh dX9_split_188 rfl ?_
          refine z_iaddN zh dX9_split_189 ?_
          refine z_aloadnR zh dX9_split_190 rfl ?_
          refine z_iloadn zh dX9_split_191 rfl ?_
          refine z_callVIp zh mv_Y_197 dX9_split_192 ck_Y rfl (c_y_priceOf g hjx hG) ⟨Nat.le_of_ble_eq_true rfl, Nat.le_of_ble_eq_true rfl⟩ rfl rfl (Nat.le_of_ble_eq_true rfl) ?_
          refine z_iloadn zh dX9_split_195 rfl ?_
          refine z_idiv zh dX9_split_196 (by decide) ?_
          rw [show (nI 100) / (nI 2) = nI 50 from by decide]
          refine z_bipush zh dX9_split_197 kb_100 ?_
          refine z_isub zh dX9_split_199 ?_
          rw [show (nI 50) - (nI 100) = (-50) from by decide]
          refine z_iastN zh ck_now dX9_split_200 (by omega) ?_
          have hm : upI iv 552 (16 + jx) ((-50)) 552 (22 + jx) = nI 0 := by rw [upI_at, if_neg (by omega)]; exact r1_now hG (by omega)
          generalize upI iv (552) (16 + jx) ((-50)) = iv at hm ⊢
          refine z_aloadnR zh dX9_split_201 rfl ?_
          refine z_getf zh fl_Y_7 dX9_split_202 ck_Y rfl rfl ?_
          refine z_bipush zh dX9_split_205 kb_22 ?_
          refine z_iloadn zh dX9_split_207 rfl ?_
          refine z_iaddN zh dX9_split_208 ?_
          refine z_aloadnR zh dX9_split_209 rfl ?_
          refine z_iloadn zh dX9_split_210 rfl ?_
          refine z_callVIp zh mv_Y_203 dX9_split_211 ck_Y rfl (c_y_markedW g hjx hm) ⟨Nat.le_of_ble_eq_true rfl, Nat.le_of_ble_eq_true rfl⟩ rfl rfl (Nat.le_of_ble_eq_true rfl) ?_
          refine z_iloadn zh dX9_split_214 rfl ?_
          refine z_idiv zh dX9_split_215 (by decide) ?_
          rw [show (nI 100) / (nI 2) = nI 50 from by decide]
          refine z_bipush zh dX9_split_216 kb_100 ?_
          refine z_isub zh dX9_split_218 ?_
          rw [show (nI 50) - (nI 100) = (-50) from by decide]
          refine z_iastN zh ck_now dX9_split_219 (by omega) ?_
          refine z_iconst zh dX9_split_220 ki_1 ?_
          exact z_zret zh dX9_split_221 (Or.inr rfl) (⟨_, rfl, (by first | rfl | simp (decide := true) only [sel_t, sel_f, selL_t, selL_f, bi_t, bi_f, sel_same, selL_same, eq_self, hp1, hb2])⟩)
        · refine z_iconst zh dX9_split_72 ki_0 ?_
          refine z_istore zh dX9_split_73 (by decide) (L' := [some (rf g 551), some (.int (nI jx)), some (.int (nI 2)), some (.int (nI k64)), some (.int (nI 0))]) rfl ?_
          have hl75 : ∀ (n k75 : Nat) (iv : Iv) (lv : Lv), OkR dd dm iv lv → k75 ≤ 4 → 4 - k75 < n → Z 75 [some (rf g 551), some (.int (nI jx)), some (.int (nI 2)), some (.int (nI k64)), some (.int (nI k75))] [] iv lv := by
            intro n
            induction n with
            | zero => intro k75 iv lv _ _ hn; exact absurd hn (Nat.not_lt_zero _)
            | succ n ih75 =>
              intro k75 iv lv hG hk75 hn75
              refine z_iload zh dX9_split_75 rfl ?_
              refine z_iconst zh dX9_split_77 ki_4 ?_
              refine z_icmp_ge_N (tgt := 129) zh (by omega) (by decide) dX9_split_78 rfl (fun hb3 => ?_) (fun hb3 => ?_)
              · refine z_iconst zh dX9_split_129 ki_0 ?_
                refine z_istore zh dX9_split_130 (by decide) (L' := [some (rf g 551), some (.int (nI jx)), some (.int (nI 2)), some (.int (nI k64)), some (.int (nI 0))]) rfl ?_
                refine z_iload zh dX9_split_132 rfl ?_
                refine z_aloadnR zh dX9_split_134 rfl ?_
                refine z_iloadn zh dX9_split_135 rfl ?_
                refine z_iloadn zh dX9_split_136 rfl ?_
                refine z_callVIp zh mv_Y_110 dX9_split_137 ck_Y rfl (c_y_lotMany g (by omega) hjx hG) ⟨Nat.le_of_ble_eq_true rfl, Nat.le_of_ble_eq_true rfl⟩ rfl rfl (Nat.le_of_ble_eq_true rfl) ?_
                refine z_icmp_ge_N (tgt := 176) zh (by decide) (by decide) dX9_split_140 rfl (fun _ => ?_) (fun q => absurd q (by decide))
                refine z_iincN zh dX9_split_176 ki_1 (by decide) rfl (L' := [some (rf g 551), some (.int (nI jx)), some (.int (nI 2)), some (.int (nI (k64 + 1))), some (.int (nI 0))]) rfl ?_
                refine z_goto (tgt := 64) zh dX9_split_179 rfl ?_
                refine z_forget zh [true, true, true, true, false] (L2 := [some (rf g 551), some (.int (nI jx)), some (.int (nI 2)), some (.int (nI (k64 + 1))), none]) rfl ?_; exact ih64 (k64 + 1) iv lv hG (by omega) (by omega)
              · refine z_aloadnR zh dX9_split_81 rfl ?_
                refine z_getf zh fl_Y_7 dX9_split_82 ck_Y rfl rfl ?_
                refine z_bipush zh dX9_split_85 kb_60 ?_
                refine z_bipush zh dX9_split_87 kb_72 ?_
                refine z_iload zh dX9_split_89 rfl ?_
                refine z_imulN zh dX9_split_91 ?_
                refine z_iaddN zh dX9_split_92 ?_
                refine z_aloadnR zh dX9_split_93 rfl ?_
                refine z_iloadn zh dX9_split_94 rfl ?_
                refine z_iloadn zh dX9_split_95 rfl ?_
                refine z_callVIp zh mv_Y_65 dX9_split_96 ck_Y rfl (c_y_cellOf g) ⟨Nat.le_of_ble_eq_true rfl, Nat.le_of_ble_eq_true rfl⟩ rfl rfl (Nat.le_of_ble_eq_true rfl) ?_
                refine z_iaddN zh dX9_split_99 ?_
                refine z_iloadn zh dX9_split_100 rfl ?_
                refine z_aloadnR zh dX9_split_101 rfl ?_
                refine z_getf zh fl_Y_7 dX9_split_102 ck_Y rfl rfl ?_
                refine z_bipush zh dX9_split_105 kb_60 ?_
                refine z_bipush zh dX9_split_107 kb_72 ?_
                refine z_iload zh dX9_split_109 rfl ?_
                refine z_imulN zh dX9_split_111 ?_
                refine z_iaddN zh dX9_split_112 ?_
                refine z_aloadnR zh dX9_split_113 rfl ?_
                refine z_iloadn zh dX9_split_114 rfl ?_
                refine z_iloadn zh dX9_split_115 rfl ?_
                refine z_callVIp zh mv_Y_65 dX9_split_116 ck_Y rfl (c_y_cellOf g) ⟨Nat.le_of_ble_eq_true rfl, Nat.le_of_ble_eq_true rfl⟩ rfl rfl (Nat.le_of_ble_eq_true rfl) ?_
                refine z_iaddN zh dX9_split_119 ?_
                refine z_ialdE (x := nI 0) zh ck_now dX9_split_120 (by omega) (r1_now hG (by omega)) ?_
                refine z_imulN zh dX9_split_121 ?_
                refine z_iastN zh ck_now dX9_split_122 (by omega) ?_
                have hG := okR_wI (k := 552) (j := (60 + (72 * k75)) + (6 * k64 + jx)) (x := nI 0) hG (w1_now (by omega) rfl)
                generalize upI iv (552) ((60 + (72 * k75)) + (6 * k64 + jx)) (nI 0) = iv at hG ⊢
                refine z_iincN zh dX9_split_123 ki_1 (by decide) rfl (L' := [some (rf g 551), some (.int (nI jx)), some (.int (nI 2)), some (.int (nI k64)), some (.int (nI (k75 + 1)))]) rfl ?_
                refine z_goto (tgt := 75) zh dX9_split_126 rfl ?_
                exact ih75 (k75 + 1) iv lv hG (by omega) (by omega)
          exact hl75 5 0 iv lv hG (by omega) (by omega)
    exact hl64 7 0 iv lv hG (by omega) (by omega)
set_option maxRecDepth 20000 in
theorem c_Y_split3 (g : GE) {x : Int32} {iv : Iv} {lv : Lv} {dd : Nat → Nat} {dm : Nat}  (hG : OkR dd dm iv lv) : ConI g yX9_split cX9_split 5 (some .boolean) 5 [rf g 551, .int x, .int (nI 3)] iv lv (fun r _ _ => r = sel (InN 6 x) (nI 0) (nI 0)) := by
  refine con_intro (own := "RollingNetsModel") (by decide +kernel) rfl (Nat.le_of_ble_eq_true rfl) (L0 := [some (rf g 551), some (.int x), some (.int (nI 3)), none, none]) rfl (fun Z zh => ?_)
  have hR : Rg (nI 2) (nI 5) (nI 3) := by unfold Rg; decide
  refine z_aloadnR zh dX9_split_0 rfl ?_
  refine z_iconst zh dX9_split_1 ki_0 ?_
  refine z_putI zh fl_Y_58 dX9_split_2 ck_Y rfl rfl (Nat.le_of_ble_eq_true rfl) (Or.inl rfl) ?_
  have hG := okR_wI (k := 551) (j := 0) (x := nI 0) hG (w1_no rfl)
  generalize upI iv (551) (0) (nI 0) = iv at hG ⊢
  refine z_aloadnR zh dX9_split_5 rfl ?_
  refine z_iloadn zh dX9_split_6 rfl ?_
  refine z_callVIp zh mv_Y_94 dX9_split_7 ck_Y rfl (c_y_isIssue g) ⟨Nat.le_of_ble_eq_true rfl, Nat.le_of_ble_eq_true rfl⟩ rfl rfl (Nat.le_of_ble_eq_true rfl) ?_
  refine z_if_eq_B (tgt := 60) zh dX9_split_10 rfl (fun hp1 => ?_) (fun hp1 => ?_)
  · refine z_iconst zh dX9_split_60 ki_0 ?_
    exact z_zret zh dX9_split_61 (Or.inl rfl) (⟨_, rfl, (by first | rfl | simp (decide := true) only [sel_t, sel_f, selL_t, selL_f, bi_t, bi_f, sel_same, selL_same, eq_self, hp1])⟩)
  · obtain ⟨jx, hjx, rfl⟩ := id hp1
    refine z_aloadnR zh dX9_split_13 rfl ?_
    refine z_iloadn zh dX9_split_14 rfl ?_
    refine z_iconst zh dX9_split_15 ki_2 ?_
    refine z_iconst zh dX9_split_16 ki_5 ?_
    refine z_callVIp zh mv_Y_79 dX9_split_17 ck_Y rfl (c_y_isIn g) ⟨Nat.le_of_ble_eq_true rfl, Nat.le_of_ble_eq_true rfl⟩ rfl rfl (Nat.le_of_ble_eq_true rfl) ?_
    refine z_if_eq_B (tgt := 60) zh dX9_split_20 rfl (fun q => absurd hR q) (fun _ => ?_)
    refine z_aloadnR zh dX9_split_23 rfl ?_
    refine z_iloadn zh dX9_split_24 rfl ?_
    refine z_callVIp zh mv_Y_310 dX9_split_25 ck_Y rfl (c_y_isFinished g  hG) ⟨Nat.le_of_ble_eq_true rfl, Nat.le_of_ble_eq_true rfl⟩ rfl rfl (Nat.le_of_ble_eq_true rfl) ?_
    refine z_if_eq_N (tgt := 60) zh (by decide) dX9_split_28 rfl (fun q => absurd q (by decide)) (fun _ => ?_)
    refine z_aloadnR zh dX9_split_31 rfl ?_
    refine z_iloadn zh dX9_split_32 rfl ?_
    refine z_callVIp zh mv_Y_197 dX9_split_33 ck_Y rfl (c_y_priceOf g hjx hG) ⟨Nat.le_of_ble_eq_true rfl, Nat.le_of_ble_eq_true rfl⟩ rfl rfl (Nat.le_of_ble_eq_true rfl) ?_
    refine z_iloadn zh dX9_split_36 rfl ?_
    refine z_irem zh dX9_split_37 (by decide) ?_
    rw [show (nI 100) - (nI 100) / (nI 3) * (nI 3) = nI 1 from by decide]
    refine z_if_ne_N (tgt := 60) zh (by decide) dX9_split_38 rfl (fun _ => ?_) (fun q => absurd q (by decide))
    refine z_iconst zh dX9_split_60 ki_0 ?_
    exact z_zret zh dX9_split_61 (Or.inl rfl) (⟨_, rfl, (by first | rfl | simp (decide := true) only [sel_t, sel_f, selL_t, selL_f, bi_t, bi_f, sel_same, selL_same, eq_self, hp1])⟩)
set_option maxRecDepth 20000 in
theorem c_Y_split4 (g : GE) {x : Int32} {iv : Iv} {lv : Lv} {dd : Nat → Nat} {dm : Nat}  (hG : OkR dd dm iv lv) : ConI g yX9_split cX9_split 5 (some .boolean) 5 [rf g 551, .int x, .int (nI 4)] iv lv (fun r _ _ => r = sel (InN 6 x) (nI 1) (nI 0)) := by
  refine con_intro (own := "RollingNetsModel") (by decide +kernel) rfl (Nat.le_of_ble_eq_true rfl) (L0 := [some (rf g 551), some (.int x), some (.int (nI 4)), none, none]) rfl (fun Z zh => ?_)
  have hR : Rg (nI 2) (nI 5) (nI 4) := by unfold Rg; decide
  refine z_aloadnR zh dX9_split_0 rfl ?_
  refine z_iconst zh dX9_split_1 ki_0 ?_
  refine z_putI zh fl_Y_58 dX9_split_2 ck_Y rfl rfl (Nat.le_of_ble_eq_true rfl) (Or.inl rfl) ?_
  have hG := okR_wI (k := 551) (j := 0) (x := nI 0) hG (w1_no rfl)
  generalize upI iv (551) (0) (nI 0) = iv at hG ⊢
  refine z_aloadnR zh dX9_split_5 rfl ?_
  refine z_iloadn zh dX9_split_6 rfl ?_
  refine z_callVIp zh mv_Y_94 dX9_split_7 ck_Y rfl (c_y_isIssue g) ⟨Nat.le_of_ble_eq_true rfl, Nat.le_of_ble_eq_true rfl⟩ rfl rfl (Nat.le_of_ble_eq_true rfl) ?_
  refine z_if_eq_B (tgt := 60) zh dX9_split_10 rfl (fun hp1 => ?_) (fun hp1 => ?_)
  · refine z_iconst zh dX9_split_60 ki_0 ?_
    exact z_zret zh dX9_split_61 (Or.inl rfl) (⟨_, rfl, (by first | rfl | simp (decide := true) only [sel_t, sel_f, selL_t, selL_f, bi_t, bi_f, sel_same, selL_same, eq_self, hp1])⟩)
  · obtain ⟨jx, hjx, rfl⟩ := id hp1
    refine z_aloadnR zh dX9_split_13 rfl ?_
    refine z_iloadn zh dX9_split_14 rfl ?_
    refine z_iconst zh dX9_split_15 ki_2 ?_
    refine z_iconst zh dX9_split_16 ki_5 ?_
    refine z_callVIp zh mv_Y_79 dX9_split_17 ck_Y rfl (c_y_isIn g) ⟨Nat.le_of_ble_eq_true rfl, Nat.le_of_ble_eq_true rfl⟩ rfl rfl (Nat.le_of_ble_eq_true rfl) ?_
    refine z_if_eq_B (tgt := 60) zh dX9_split_20 rfl (fun q => absurd hR q) (fun _ => ?_)
    refine z_aloadnR zh dX9_split_23 rfl ?_
    refine z_iloadn zh dX9_split_24 rfl ?_
    refine z_callVIp zh mv_Y_310 dX9_split_25 ck_Y rfl (c_y_isFinished g  hG) ⟨Nat.le_of_ble_eq_true rfl, Nat.le_of_ble_eq_true rfl⟩ rfl rfl (Nat.le_of_ble_eq_true rfl) ?_
    refine z_if_eq_N (tgt := 60) zh (by decide) dX9_split_28 rfl (fun q => absurd q (by decide)) (fun _ => ?_)
    refine z_aloadnR zh dX9_split_31 rfl ?_
    refine z_iloadn zh dX9_split_32 rfl ?_
    refine z_callVIp zh mv_Y_197 dX9_split_33 ck_Y rfl (c_y_priceOf g hjx hG) ⟨Nat.le_of_ble_eq_true rfl, Nat.le_of_ble_eq_true rfl⟩ rfl rfl (Nat.le_of_ble_eq_true rfl) ?_
    refine z_iloadn zh dX9_split_36 rfl ?_
    refine z_irem zh dX9_split_37 (by decide) ?_
    rw [show (nI 100) - (nI 100) / (nI 4) * (nI 4) = nI 0 from by decide]
    refine z_if_ne_N (tgt := 60) zh (by decide) dX9_split_38 rfl (fun q => absurd q (by decide)) (fun _ => ?_)
    refine z_aloadnR zh dX9_split_41 rfl ?_
    refine z_iloadn zh dX9_split_42 rfl ?_
    refine z_callVIp zh mv_Y_203 dX9_split_43 ck_Y rfl (c_y_markedOf g hjx hG) ⟨Nat.le_of_ble_eq_true rfl, Nat.le_of_ble_eq_true rfl⟩ rfl rfl (Nat.le_of_ble_eq_true rfl) ?_
    refine z_iloadn zh dX9_split_46 rfl ?_
    refine z_irem zh dX9_split_47 (by decide) ?_
    rw [show (nI 100) - (nI 100) / (nI 4) * (nI 4) = nI 0 from by decide]
    refine z_if_ne_N (tgt := 60) zh (by decide) dX9_split_48 rfl (fun q => absurd q (by decide)) (fun _ => ?_)
    refine z_aloadnR zh dX9_split_51 rfl ?_
    refine z_iloadn zh dX9_split_52 rfl ?_
    refine z_iloadn zh dX9_split_53 rfl ?_
    refine z_callVIp zh mv_Y_313 dX9_split_54 ck_Y rfl (c_y_canSplit4 g hjx hG) ⟨Nat.le_of_ble_eq_true rfl, Nat.le_of_ble_eq_true rfl⟩ rfl rfl (Nat.le_of_ble_eq_true rfl) ?_
    refine z_if_ne_N (tgt := 62) zh (by decide) dX9_split_57 rfl (fun _ => ?_) (fun q => absurd q (by decide))
    refine z_iconst zh dX9_split_62 ki_0 ?_
    refine z_istoren zh dX9_split_63 (by decide) (L' := [some (rf g 551), some (.int (nI jx)), some (.int (nI 4)), some (.int (nI 0)), none]) rfl ?_
    have hl64 : ∀ (n k64 : Nat) (iv : Iv) (lv : Lv), OkR dd dm iv lv → k64 ≤ 6 → 6 - k64 < n → Z 64 [some (rf g 551), some (.int (nI jx)), some (.int (nI 4)), some (.int (nI k64)), none] [] iv lv := by
      intro n
      induction n with
      | zero => intro k64 iv lv _ _ hn; exact absurd hn (Nat.not_lt_zero _)
      | succ n ih64 =>
        intro k64 iv lv hG hk64 hn64
        refine z_iloadn zh dX9_split_64 rfl ?_
        refine z_aloadnR zh dX9_split_65 rfl ?_
        refine z_callVIp zh mv_Y_61 dX9_split_66 ck_Y rfl (c_y_memberMany g  hG) ⟨Nat.le_of_ble_eq_true rfl, Nat.le_of_ble_eq_true rfl⟩ rfl rfl (Nat.le_of_ble_eq_true rfl) ?_
        refine z_icmp_ge_N (tgt := 182) zh (by omega) (by decide) dX9_split_69 rfl (fun hb2 => ?_) (fun hb2 => ?_)
        · refine z_aloadnR zh dX9_split_182 rfl ?_
          refine z_getf zh fl_Y_7 dX9_split_183 ck_Y rfl rfl ?_
          refine z_bipush zh dX9_split_186 kb_16 ?_
          refine z_iloadn zh dX9_split_188 rfl ?_
          refine z_iaddN zh dX9_split_189 ?_
          refine z_aloadnR zh dX9_split_190 rfl ?_
          refine z_iloadn zh dX9_split_191 rfl ?_
          refine z_callVIp zh mv_Y_197 dX9_split_192 ck_Y rfl (c_y_priceOf g hjx hG) ⟨Nat.le_of_ble_eq_true rfl, Nat.le_of_ble_eq_true rfl⟩ rfl rfl (Nat.le_of_ble_eq_true rfl) ?_
          refine z_iloadn zh dX9_split_195 rfl ?_
          refine z_idiv zh dX9_split_196 (by decide) ?_
          rw [show (nI 100) / (nI 4) = nI 25 from by decide]
          refine z_bipush zh dX9_split_197 kb_100 ?_
          refine z_isub zh dX9_split_199 ?_
          rw [show (nI 25) - (nI 100) = (-75) from by decide]
          refine z_iastN zh ck_now dX9_split_200 (by omega) ?_
          have hm : upI iv 552 (16 + jx) ((-75)) 552 (22 + jx) = nI 0 := by rw [upI_at, if_neg (by omega)]; exact r1_now hG (by omega)
          generalize upI iv (552) (16 + jx) ((-75)) = iv at hm ⊢
          refine z_aloadnR zh dX9_split_201 rfl ?_
          refine z_getf zh fl_Y_7 dX9_split_202 ck_Y rfl rfl ?_
          refine z_bipush zh dX9_split_205 kb_22 ?_
          refine z_iloadn zh dX9_split_207 rfl ?_
          refine z_iaddN zh dX9_split_208 ?_
          refine z_aloadnR zh dX9_split_209 rfl ?_
          refine z_iloadn zh dX9_split_210 rfl ?_
          refine z_callVIp zh mv_Y_203 dX9_split_211 ck_Y rfl (c_y_markedW g hjx hm) ⟨Nat.le_of_ble_eq_true rfl, Nat.le_of_ble_eq_true rfl⟩ rfl rfl (Nat.le_of_ble_eq_true rfl) ?_
          refine z_iloadn zh dX9_split_214 rfl ?_
          refine z_idiv zh dX9_split_215 (by decide) ?_
          rw [show (nI 100) / (nI 4) = nI 25 from by decide]
          refine z_bipush zh dX9_split_216 kb_100 ?_
          refine z_isub zh dX9_split_218 ?_
          rw [show (nI 25) - (nI 100) = (-75) from by decide]
          refine z_iastN zh ck_now dX9_split_219 (by omega) ?_
          refine z_iconst zh dX9_split_220 ki_1 ?_
          exact z_zret zh dX9_split_221 (Or.inr rfl) (⟨_, rfl, (by first | rfl | simp (decide := true) only [sel_t, sel_f, selL_t, selL_f, bi_t, bi_f, sel_same, selL_same, eq_self, hp1, hb2])⟩)
        · refine z_iconst zh dX9_split_72 ki_0 ?_
          refine z_istore zh dX9_split_73 (by decide) (L' := [some (rf g 551), some (.int (nI jx)), some (.int (nI 4)), some (.int (nI k64)), some (.int (nI 0))]) rfl ?_
          have hl75 : ∀ (n k75 : Nat) (iv : Iv) (lv : Lv), OkR dd dm iv lv → k75 ≤ 4 → 4 - k75 < n → Z 75 [some (rf g 551), some (.int (nI jx)), some (.int (nI 4)), some (.int (nI k64)), some (.int (nI k75))] [] iv lv := by
            intro n
            induction n with
            | zero => intro k75 iv lv _ _ hn; exact absurd hn (Nat.not_lt_zero _)
            | succ n ih75 =>
              intro k75 iv lv hG hk75 hn75
              refine z_iload zh dX9_split_75 rfl ?_
              refine z_iconst zh dX9_split_77 ki_4 ?_
              refine z_icmp_ge_N (tgt := 129) zh (by omega) (by decide) dX9_split_78 rfl (fun hb3 => ?_) (fun hb3 => ?_)
              · refine z_iconst zh dX9_split_129 ki_0 ?_
                refine z_istore zh dX9_split_130 (by decide) (L' := [some (rf g 551), some (.int (nI jx)), some (.int (nI 4)), some (.int (nI k64)), some (.int (nI 0))]) rfl ?_
                refine z_iload zh dX9_split_132 rfl ?_
                refine z_aloadnR zh dX9_split_134 rfl ?_
                refine z_iloadn zh dX9_split_135 rfl ?_
                refine z_iloadn zh dX9_split_136 rfl ?_
                refine z_callVIp zh mv_Y_110 dX9_split_137 ck_Y rfl (c_y_lotMany g (by omega) hjx hG) ⟨Nat.le_of_ble_eq_true rfl, Nat.le_of_ble_eq_true rfl⟩ rfl rfl (Nat.le_of_ble_eq_true rfl) ?_
                refine z_icmp_ge_N (tgt := 176) zh (by decide) (by decide) dX9_split_140 rfl (fun _ => ?_) (fun q => absurd q (by decide))
                refine z_iincN zh dX9_split_176 ki_1 (by decide) rfl (L' := [some (rf g 551), some (.int (nI jx)), some (.int (nI 4)), some (.int (nI (k64 + 1))), some (.int (nI 0))]) rfl ?_
                refine z_goto (tgt := 64) zh dX9_split_179 rfl ?_
                refine z_forget zh [true, true, true, true, false] (L2 := [some (rf g 551), some (.int (nI jx)), some (.int (nI 4)), some (.int (nI (k64 + 1))), none]) rfl ?_; exact ih64 (k64 + 1) iv lv hG (by omega) (by omega)
              · refine z_aloadnR zh dX9_split_81 rfl ?_
                refine z_getf zh fl_Y_7 dX9_split_82 ck_Y rfl rfl ?_
                refine z_bipush zh dX9_split_85 kb_60 ?_
                refine z_bipush zh dX9_split_87 kb_72 ?_
                refine z_iload zh dX9_split_89 rfl ?_
                refine z_imulN zh dX9_split_91 ?_
                refine z_iaddN zh dX9_split_92 ?_
                refine z_aloadnR zh dX9_split_93 rfl ?_
                refine z_iloadn zh dX9_split_94 rfl ?_
                refine z_iloadn zh dX9_split_95 rfl ?_
                refine z_callVIp zh mv_Y_65 dX9_split_96 ck_Y rfl (c_y_cellOf g) ⟨Nat.le_of_ble_eq_true rfl, Nat.le_of_ble_eq_true rfl⟩ rfl rfl (Nat.le_of_ble_eq_true rfl) ?_
                refine z_iaddN zh dX9_split_99 ?_
                refine z_iloadn zh dX9_split_100 rfl ?_
                refine z_aloadnR zh dX9_split_101 rfl ?_
                refine z_getf zh fl_Y_7 dX9_split_102 ck_Y rfl rfl ?_
                refine z_bipush zh dX9_split_105 kb_60 ?_
                refine z_bipush zh dX9_split_107 kb_72 ?_
                refine z_iload zh dX9_split_109 rfl ?_
                refine z_imulN zh dX9_split_111 ?_
                refine z_iaddN zh dX9_split_112 ?_
                refine z_aloadnR zh dX9_split_113 rfl ?_
                refine z_iloadn zh dX9_split_114 rfl ?_
                refine z_iloadn zh dX9_split_115 rfl ?_
                refine z_callVIp zh mv_Y_65 dX9_split_116 ck_Y rfl (c_y_cellOf g) ⟨Nat.le_of_ble_eq_true rfl, Nat.le_of_ble_eq_true rfl⟩ rfl rfl (Nat.le_of_ble_eq_true rfl) ?_
                refine z_iaddN zh dX9_split_119 ?_
                refine z_ialdE (x := nI 0) zh ck_now dX9_split_120 (by omega) (r1_now hG (by omega)) ?_
                refine z_imulN zh dX9_split_121 ?_
                refine z_iastN zh ck_now dX9_split_122 (by omega) ?_
                have hG := okR_wI (k := 552) (j := (60 + (72 * k75)) + (6 * k64 + jx)) (x := nI 0) hG (w1_now (by omega) rfl)
                generalize upI iv (552) ((60 + (72 * k75)) + (6 * k64 + jx)) (nI 0) = iv at hG ⊢
                refine z_iincN zh dX9_split_123 ki_1 (by decide) rfl (L' := [some (rf g 551), some (.int (nI jx)), some (.int (nI 4)), some (.int (nI k64)), some (.int (nI (k75 + 1)))]) rfl ?_
                refine z_goto (tgt := 75) zh dX9_split_126 rfl ?_
                exact ih75 (k75 + 1) iv lv hG (by omega) (by omega)
          exact hl75 5 0 iv lv hG (by omega) (by omega)
    exact hl64 7 0 iv lv hG (by omega) (by omega)
set_option maxRecDepth 20000 in
theorem c_Y_split5 (g : GE) {x : Int32} {iv : Iv} {lv : Lv} {dd : Nat → Nat} {dm : Nat}  (hG : OkR dd dm iv lv) : ConI g yX9_split cX9_split 5 (some .boolean) 5 [rf g 551, .int x, .int (nI 5)] iv lv (fun r _ _ => r = sel (InN 6 x) (nI 1) (nI 0)) := by
  refine con_intro (own := "RollingNetsModel") (by decide +kernel) rfl (Nat.le_of_ble_eq_true rfl) (L0 := [some (rf g 551), some (.int x), some (.int (nI 5)), none, none]) rfl (fun Z zh => ?_)
  have hR : Rg (nI 2) (nI 5) (nI 5) := by unfold Rg; decide
  refine z_aloadnR zh dX9_split_0 rfl ?_
  refine z_iconst zh dX9_split_1 ki_0 ?_
  refine z_putI zh fl_Y_58 dX9_split_2 ck_Y rfl rfl (Nat.le_of_ble_eq_true rfl) (Or.inl rfl) ?_
  have hG := okR_wI (k := 551) (j := 0) (x := nI 0) hG (w1_no rfl)
  generalize upI iv (551) (0) (nI 0) = iv at hG ⊢
  refine z_aloadnR zh dX9_split_5 rfl ?_
  refine z_iloadn zh dX9_split_6 rfl ?_
  refine z_callVIp zh mv_Y_94 dX9_split_7 ck_Y rfl (c_y_isIssue g) ⟨Nat.le_of_ble_eq_true rfl, Nat.le_of_ble_eq_true rfl⟩ rfl rfl (Nat.le_of_ble_eq_true rfl) ?_
  refine z_if_eq_B (tgt := 60) zh dX9_split_10 rfl (fun hp1 => ?_) (fun hp1 => ?_)
  · refine z_iconst zh dX9_split_60 ki_0 ?_
    exact z_zret zh dX9_split_61 (Or.inl rfl) (⟨_, rfl, (by first | rfl | simp (decide := true) only [sel_t, sel_f, selL_t, selL_f, bi_t, bi_f, sel_same, selL_same, eq_self, hp1])⟩)
  · obtain ⟨jx, hjx, rfl⟩ := id hp1
    refine z_aloadnR zh dX9_split_13 rfl ?_
    refine z_iloadn zh dX9_split_14 rfl ?_
    refine z_iconst zh dX9_split_15 ki_2 ?_
    refine z_iconst zh dX9_split_16 ki_5 ?_
    refine z_callVIp zh mv_Y_79 dX9_split_17 ck_Y rfl (c_y_isIn g) ⟨Nat.le_of_ble_eq_true rfl, Nat.le_of_ble_eq_true rfl⟩ rfl rfl (Nat.le_of_ble_eq_true rfl) ?_
    refine z_if_eq_B (tgt := 60) zh dX9_split_20 rfl (fun q => absurd hR q) (fun _ => ?_)
    refine z_aloadnR zh dX9_split_23 rfl ?_
    refine z_iloadn zh dX9_split_24 rfl ?_
    refine z_callVIp zh mv_Y_310 dX9_split_25 ck_Y rfl (c_y_isFinished g  hG) ⟨Nat.le_of_ble_eq_true rfl, Nat.le_of_ble_eq_true rfl⟩ rfl rfl (Nat.le_of_ble_eq_true rfl) ?_
    refine z_if_eq_N (tgt := 60) zh (by decide) dX9_split_28 rfl (fun q => absurd q (by decide)) (fun _ => ?_)
    refine z_aloadnR zh dX9_split_31 rfl ?_
    refine z_iloadn zh dX9_split_32 rfl ?_
    refine z_callVIp zh mv_Y_197 dX9_split_33 ck_Y rfl (c_y_priceOf g hjx hG) ⟨Nat.le_of_ble_eq_true rfl, Nat.le_of_ble_eq_true rfl⟩ rfl rfl (Nat.le_of_ble_eq_true rfl) ?_
    refine z_iloadn zh dX9_split_36 rfl ?_
    refine z_irem zh dX9_split_37 (by decide) ?_
    rw [show (nI 100) - (nI 100) / (nI 5) * (nI 5) = nI 0 from by decide]
    refine z_if_ne_N (tgt := 60) zh (by decide) dX9_split_38 rfl (fun q => absurd q (by decide)) (fun _ => ?_)
    refine z_aloadnR zh dX9_split_41 rfl ?_
    refine z_iloadn zh dX9_split_42 rfl ?_
    refine z_callVIp zh mv_Y_203 dX9_split_43 ck_Y rfl (c_y_markedOf g hjx hG) ⟨Nat.le_of_ble_eq_true rfl, Nat.le_of_ble_eq_true rfl⟩ rfl rfl (Nat.le_of_ble_eq_true rfl) ?_
    refine z_iloadn zh dX9_split_46 rfl ?_
    refine z_irem zh dX9_split_47 (by decide) ?_
    rw [show (nI 100) - (nI 100) / (nI 5) * (nI 5) = nI 0 from by decide]
    refine z_if_ne_N (tgt := 60) zh (by decide) dX9_split_48 rfl (fun q => absurd q (by decide)) (fun _ => ?_)
    refine z_aloadnR zh dX9_split_51 rfl ?_
    refine z_iloadn zh dX9_split_52 rfl ?_
    refine z_iloadn zh dX9_split_53 rfl ?_
    refine z_callVIp zh mv_Y_313 dX9_split_54 ck_Y rfl (c_y_canSplit5 g hjx hG) ⟨Nat.le_of_ble_eq_true rfl, Nat.le_of_ble_eq_true rfl⟩ rfl rfl (Nat.le_of_ble_eq_true rfl) ?_
    refine z_if_ne_N (tgt := 62) zh (by decide) dX9_split_57 rfl (fun _ => ?_) (fun q => absurd q (by decide))
    refine z_iconst zh dX9_split_62 ki_0 ?_
    refine z_istoren zh dX9_split_63 (by decide) (L' := [some (rf g 551), some (.int (nI jx)), some (.int (nI 5)), some (.int (nI 0)), none]) rfl ?_
    have hl64 : ∀ (n k64 : Nat) (iv : Iv) (lv : Lv), OkR dd dm iv lv → k64 ≤ 6 → 6 - k64 < n → Z 64 [some (rf g 551), some (.int (nI jx)), some (.int (nI 5)), some (.int (nI k64)), none] [] iv lv := by
      intro n
      induction n with
      | zero => intro k64 iv lv _ _ hn; exact absurd hn (Nat.not_lt_zero _)
      | succ n ih64 =>
        intro k64 iv lv hG hk64 hn64
        refine z_iloadn zh dX9_split_64 rfl ?_
        refine z_aloadnR zh dX9_split_65 rfl ?_
        refine z_callVIp zh mv_Y_61 dX9_split_66 ck_Y rfl (c_y_memberMany g  hG) ⟨Nat.le_of_ble_eq_true rfl, Nat.le_of_ble_eq_true rfl⟩ rfl rfl (Nat.le_of_ble_eq_true rfl) ?_
        refine z_icmp_ge_N (tgt := 182) zh (by omega) (by decide) dX9_split_69 rfl (fun hb2 => ?_) (fun hb2 => ?_)
        · refine z_aloadnR zh dX9_split_182 rfl ?_
          refine z_getf zh fl_Y_7 dX9_split_183 ck_Y rfl rfl ?_
          refine z_bipush zh dX9_split_186 kb_16 ?_
          refine z_iloadn zh dX9_split_188 rfl ?_
          refine z_iaddN zh dX9_split_189 ?_
          refine z_aloadnR zh dX9_split_190 rfl ?_
          refine z_iloadn zh dX9_split_191 rfl ?_
          refine z_callVIp zh mv_Y_197 dX9_split_192 ck_Y rfl (c_y_priceOf g hjx hG) ⟨Nat.le_of_ble_eq_true rfl, Nat.le_of_ble_eq_true rfl⟩ rfl rfl (Nat.le_of_ble_eq_true rfl) ?_
          refine z_iloadn zh dX9_split_195 rfl ?_
          refine z_idiv zh dX9_split_196 (by decide) ?_
          rw [show (nI 100) / (nI 5) = nI 20 from by decide]
          refine z_bipush zh dX9_split_197 kb_100 ?_
          refine z_isub zh dX9_split_199 ?_
          rw [show (nI 20) - (nI 100) = (-80) from by decide]
          refine z_iastN zh ck_now dX9_split_200 (by omega) ?_
          have hm : upI iv 552 (16 + jx) ((-80)) 552 (22 + jx) = nI 0 := by rw [upI_at, if_neg (by omega)]; exact r1_now hG (by omega)
          generalize upI iv (552) (16 + jx) ((-80)) = iv at hm ⊢
          refine z_aloadnR zh dX9_split_201 rfl ?_
          refine z_getf zh fl_Y_7 dX9_split_202 ck_Y rfl rfl ?_
          refine z_bipush zh dX9_split_205 kb_22 ?_
          refine z_iloadn zh dX9_split_207 rfl ?_
          refine z_iaddN zh dX9_split_208 ?_
          refine z_aloadnR zh dX9_split_209 rfl ?_
          refine z_iloadn zh dX9_split_210 rfl ?_
          refine z_callVIp zh mv_Y_203 dX9_split_211 ck_Y rfl (c_y_markedW g hjx hm) ⟨Nat.le_of_ble_eq_true rfl, Nat.le_of_ble_eq_true rfl⟩ rfl rfl (Nat.le_of_ble_eq_true rfl) ?_
          refine z_iloadn zh dX9_split_214 rfl ?_
          refine z_idiv zh dX9_split_215 (by decide) ?_
          rw [show (nI 100) / (nI 5) = nI 20 from by decide]
          refine z_bipush zh dX9_split_216 kb_100 ?_
          refine z_isub zh dX9_split_218 ?_
          rw [show (nI 20) - (nI 100) = (-80) from by decide]
          refine z_iastN zh ck_now dX9_split_219 (by omega) ?_
          refine z_iconst zh dX9_split_220 ki_1 ?_
          exact z_zret zh dX9_split_221 (Or.inr rfl) (⟨_, rfl, (by first | rfl | simp (decide := true) only [sel_t, sel_f, selL_t, selL_f, bi_t, bi_f, sel_same, selL_same, eq_self, hp1, hb2])⟩)
        · refine z_iconst zh dX9_split_72 ki_0 ?_
          refine z_istore zh dX9_split_73 (by decide) (L' := [some (rf g 551), some (.int (nI jx)), some (.int (nI 5)), some (.int (nI k64)), some (.int (nI 0))]) rfl ?_
          have hl75 : ∀ (n k75 : Nat) (iv : Iv) (lv : Lv), OkR dd dm iv lv → k75 ≤ 4 → 4 - k75 < n → Z 75 [some (rf g 551), some (.int (nI jx)), some (.int (nI 5)), some (.int (nI k64)), some (.int (nI k75))] [] iv lv := by
            intro n
            induction n with
            | zero => intro k75 iv lv _ _ hn; exact absurd hn (Nat.not_lt_zero _)
            | succ n ih75 =>
              intro k75 iv lv hG hk75 hn75
              refine z_iload zh dX9_split_75 rfl ?_
              refine z_iconst zh dX9_split_77 ki_4 ?_
              refine z_icmp_ge_N (tgt := 129) zh (by omega) (by decide) dX9_split_78 rfl (fun hb3 => ?_) (fun hb3 => ?_)
              · refine z_iconst zh dX9_split_129 ki_0 ?_
                refine z_istore zh dX9_split_130 (by decide) (L' := [some (rf g 551), some (.int (nI jx)), some (.int (nI 5)), some (.int (nI k64)), some (.int (nI 0))]) rfl ?_
                refine z_iload zh dX9_split_132 rfl ?_
                refine z_aloadnR zh dX9_split_134 rfl ?_
                refine z_iloadn zh dX9_split_135 rfl ?_
                refine z_iloadn zh dX9_split_136 rfl ?_
                refine z_callVIp zh mv_Y_110 dX9_split_137 ck_Y rfl (c_y_lotMany g (by omega) hjx hG) ⟨Nat.le_of_ble_eq_true rfl, Nat.le_of_ble_eq_true rfl⟩ rfl rfl (Nat.le_of_ble_eq_true rfl) ?_
                refine z_icmp_ge_N (tgt := 176) zh (by decide) (by decide) dX9_split_140 rfl (fun _ => ?_) (fun q => absurd q (by decide))
                refine z_iincN zh dX9_split_176 ki_1 (by decide) rfl (L' := [some (rf g 551), some (.int (nI jx)), some (.int (nI 5)), some (.int (nI (k64 + 1))), some (.int (nI 0))]) rfl ?_
                refine z_goto (tgt := 64) zh dX9_split_179 rfl ?_
                refine z_forget zh [true, true, true, true, false] (L2 := [some (rf g 551), some (.int (nI jx)), some (.int (nI 5)), some (.int (nI (k64 + 1))), none]) rfl ?_; exact ih64 (k64 + 1) iv lv hG (by omega) (by omega)
              · refine z_aloadnR zh dX9_split_81 rfl ?_
                refine z_getf zh fl_Y_7 dX9_split_82 ck_Y rfl rfl ?_
                refine z_bipush zh dX9_split_85 kb_60 ?_
                refine z_bipush zh dX9_split_87 kb_72 ?_
                refine z_iload zh dX9_split_89 rfl ?_
                refine z_imulN zh dX9_split_91 ?_
                refine z_iaddN zh dX9_split_92 ?_
                refine z_aloadnR zh dX9_split_93 rfl ?_
                refine z_iloadn zh dX9_split_94 rfl ?_
                refine z_iloadn zh dX9_split_95 rfl ?_
                refine z_callVIp zh mv_Y_65 dX9_split_96 ck_Y rfl (c_y_cellOf g) ⟨Nat.le_of_ble_eq_true rfl, Nat.le_of_ble_eq_true rfl⟩ rfl rfl (Nat.le_of_ble_eq_true rfl) ?_
                refine z_iaddN zh dX9_split_99 ?_
                refine z_iloadn zh dX9_split_100 rfl ?_
                refine z_aloadnR zh dX9_split_101 rfl ?_
                refine z_getf zh fl_Y_7 dX9_split_102 ck_Y rfl rfl ?_
                refine z_bipush zh dX9_split_105 kb_60 ?_
                refine z_bipush zh dX9_split_107 kb_72 ?_
                refine z_iload zh dX9_split_109 rfl ?_
                refine z_imulN zh dX9_split_111 ?_
                refine z_iaddN zh dX9_split_112 ?_
                refine z_aloadnR zh dX9_split_113 rfl ?_
                refine z_iloadn zh dX9_split_114 rfl ?_
                refine z_iloadn zh dX9_split_115 rfl ?_
                refine z_callVIp zh mv_Y_65 dX9_split_116 ck_Y rfl (c_y_cellOf g) ⟨Nat.le_of_ble_eq_true rfl, Nat.le_of_ble_eq_true rfl⟩ rfl rfl (Nat.le_of_ble_eq_true rfl) ?_
                refine z_iaddN zh dX9_split_119 ?_
                refine z_ialdE (x := nI 0) zh ck_now dX9_split_120 (by omega) (r1_now hG (by omega)) ?_
                refine z_imulN zh dX9_split_121 ?_
                refine z_iastN zh ck_now dX9_split_122 (by omega) ?_
                have hG := okR_wI (k := 552) (j := (60 + (72 * k75)) + (6 * k64 + jx)) (x := nI 0) hG (w1_now (by omega) rfl)
                generalize upI iv (552) ((60 + (72 * k75)) + (6 * k64 + jx)) (nI 0) = iv at hG ⊢
                refine z_iincN zh dX9_split_123 ki_1 (by decide) rfl (L' := [some (rf g 551), some (.int (nI jx)), some (.int (nI 5)), some (.int (nI k64)), some (.int (nI (k75 + 1)))]) rfl ?_
                refine z_goto (tgt := 75) zh dX9_split_126 rfl ?_
                exact ih75 (k75 + 1) iv lv hG (by omega) (by omega)
          exact hl75 5 0 iv lv hG (by omega) (by omega)
    exact hl64 7 0 iv lv hG (by omega) (by omega)
set_option maxRecDepth 20000 in
theorem c_Y_splitno (g : GE) {x n : Int32} {iv : Iv} {lv : Lv} {dd : Nat → Nat} {dm : Nat} (hR : ¬ Rg (nI 2) (nI 5) n) (hG : OkR dd dm iv lv) : ConI g yX9_split cX9_split 5 (some .boolean) 5 [rf g 551, .int x, .int n] iv lv (fun r _ _ => r = nI 0) := by
  refine con_intro (own := "RollingNetsModel") (by decide +kernel) rfl (Nat.le_of_ble_eq_true rfl) (L0 := [some (rf g 551), some (.int x), some (.int n), none, none]) rfl (fun Z zh => ?_)
  refine z_aloadnR zh dX9_split_0 rfl ?_
  refine z_iconst zh dX9_split_1 ki_0 ?_
  refine z_putI zh fl_Y_58 dX9_split_2 ck_Y rfl rfl (Nat.le_of_ble_eq_true rfl) (Or.inl rfl) ?_
  have hG := okR_wI (k := 551) (j := 0) (x := nI 0) hG (w1_no rfl)
  generalize upI iv (551) (0) (nI 0) = iv at hG ⊢
  refine z_aloadnR zh dX9_split_5 rfl ?_
  refine z_iloadn zh dX9_split_6 rfl ?_
  refine z_callVIp zh mv_Y_94 dX9_split_7 ck_Y rfl (c_y_isIssue g) ⟨Nat.le_of_ble_eq_true rfl, Nat.le_of_ble_eq_true rfl⟩ rfl rfl (Nat.le_of_ble_eq_true rfl) ?_
  refine z_if_eq_B (tgt := 60) zh dX9_split_10 rfl (fun hp1 => ?_) (fun hp1 => ?_)
  · refine z_iconst zh dX9_split_60 ki_0 ?_
    exact z_zret zh dX9_split_61 (Or.inl rfl) (⟨_, rfl, rfl⟩)
  · obtain ⟨jx, hjx, rfl⟩ := id hp1
    refine z_aloadnR zh dX9_split_13 rfl ?_
    refine z_iloadn zh dX9_split_14 rfl ?_
    refine z_iconst zh dX9_split_15 ki_2 ?_
    refine z_iconst zh dX9_split_16 ki_5 ?_
    refine z_callVIp zh mv_Y_79 dX9_split_17 ck_Y rfl (c_y_isIn g) ⟨Nat.le_of_ble_eq_true rfl, Nat.le_of_ble_eq_true rfl⟩ rfl rfl (Nat.le_of_ble_eq_true rfl) ?_
    refine z_if_eq_B (tgt := 60) zh dX9_split_20 rfl (fun _ => ?_) (fun q => absurd q hR)
    refine z_iconst zh dX9_split_60 ki_0 ?_
    exact z_zret zh dX9_split_61 (Or.inl rfl) (⟨_, rfl, rfl⟩)
theorem c_Y_split (g : GE) {x n : Int32} {iv : Iv} {lv : Lv} {dd : Nat → Nat} {dm : Nat} (hG : OkR dd dm iv lv) : ConI g yX9_split cX9_split 5 (some .boolean) 5 [rf g 551, .int x, .int n] iv lv (fun r _ _ => r = sp_split x n) := by
  unfold sp_split
  by_cases hR : Rg (nI 2) (nI 5) n
  · obtain ⟨j, h2, h5, rfl⟩ := Rg_nat (a := 2) (b := 5) (by omega) (by omega) hR
    rw [sel_t hR]
    rcases (by omega : j = 2 ∨ j = 3 ∨ j = 4 ∨ j = 5) with rfl | rfl | rfl | rfl
    · rw [sel_f (p := nI 2 = nI 3) (by decide)]; exact c_Y_split2 g hG
    · rw [sel_t (p := nI 3 = nI 3) rfl]; exact c_Y_split3 g hG
    · rw [sel_f (p := nI 4 = nI 3) (by decide)]; exact c_Y_split4 g hG
    · rw [sel_f (p := nI 5 = nI 3) (by decide)]; exact c_Y_split5 g hG
  · rw [sel_f hR, sel_same]; exact c_Y_splitno g hR hG
set_option maxRecDepth 20000 in
theorem c_Y_issue (g : GE) {x w : Int32} {iv : Iv} {lv : Lv} {dd : Nat → Nat} {dm : Nat}  (hG : OkR dd dm iv lv) : ConI g yX9_issue cX9_issue 3 (some .int) 7 [rf g 551, .int x, .int w] iv lv (fun r _ _ => r = sp_iss0 x w) := by
  refine con_intro (own := "RollingNetsModel") (by decide +kernel) rfl (Nat.le_of_ble_eq_true rfl) (L0 := [some (rf g 551), some (.int x), some (.int w)]) rfl (fun Z zh => ?_)
  refine z_aloadnR zh dX9_issue_0 rfl ?_
  refine z_iconst zh dX9_issue_1 ki_0 ?_
  refine z_putI zh fl_Y_58 dX9_issue_2 ck_Y rfl rfl (Nat.le_of_ble_eq_true rfl) (Or.inl rfl) ?_
  have hG := okR_wI (k := 551) (j := 0) (x := nI 0) hG (w1_no rfl)
  generalize upI iv (551) (0) (nI 0) = iv at hG ⊢
  refine z_aloadnR zh dX9_issue_5 rfl ?_
  refine z_iloadn zh dX9_issue_6 rfl ?_
  refine z_callVIp zh mv_Y_94 dX9_issue_7 ck_Y rfl (c_y_isIssue g) ⟨Nat.le_of_ble_eq_true rfl, Nat.le_of_ble_eq_true rfl⟩ rfl rfl (Nat.le_of_ble_eq_true rfl) ?_
  refine z_if_eq_B (tgt := 24) zh dX9_issue_10 rfl (fun hp1 => ?_) (fun hp1 => ?_)
  · refine z_iconst zh dX9_issue_24 ki_m1 ?_
    exact z_iret zh dX9_issue_25 (⟨_, rfl, (by first | rfl | (simp (decide := true) only [sp_iss0, sp_iss, sel_t, sel_f, sel_same, eq_self, hp1]; done) | (rcases (by omega : jw = 0 ∨ jw = 1 ∨ jw = 2 ∨ jw = 3 ∨ jw = 4 ∨ jw = 5 ∨ jw = 6 ∨ jw = 7 ∨ jw = 8) with rfl | rfl | rfl | rfl | rfl | rfl | rfl | rfl | rfl <;> first | (exfalso; omega) | (simp (decide := true) only [sp_iss0, sp_iss, sel_t, sel_f, sel_same, hp1, InN_nI]; done)))⟩)
  · obtain ⟨jx, hjx, rfl⟩ := id hp1
    refine z_aloadnR zh dX9_issue_13 rfl ?_
    refine z_iloadn zh dX9_issue_14 rfl ?_
    refine z_iconst zh dX9_issue_15 ki_0 ?_
    refine z_bipush zh dX9_issue_16 kb_8 ?_
    refine z_callVIp zh mv_Y_79 dX9_issue_18 ck_Y rfl (c_y_isIn0 g) ⟨Nat.le_of_ble_eq_true rfl, Nat.le_of_ble_eq_true rfl⟩ rfl rfl (Nat.le_of_ble_eq_true rfl) ?_
    refine z_if_ne_B (tgt := 26) zh dX9_issue_21 rfl (fun hp2 => ?_) (fun hp2 => ?_)
    · obtain ⟨jw, hjw, rfl⟩ := id hp2
      refine z_iloadn zh dX9_issue_26 rfl ?_
      refine z_bipush zh dX9_issue_27 kb_6 ?_
      refine z_icmp_le_N (tgt := 49) zh (by omega) (by decide) dX9_issue_29 rfl (fun hb3 => ?_) (fun hb3 => ?_)
      · refine z_iloadn zh dX9_issue_49 rfl ?_
        refine z_if_ne_N (tgt := 59) zh (by omega) dX9_issue_50 rfl (fun hb4 => ?_) (fun hb4 => ?_)
        · refine z_iloadn zh dX9_issue_59 rfl ?_
          refine z_iconst zh dX9_issue_60 ki_1 ?_
          refine z_icmp_ne_N (tgt := 70) zh (by omega) (by decide) dX9_issue_61 rfl (fun hb5 => ?_) (fun hb5 => ?_)
          · refine z_iloadn zh dX9_issue_70 rfl ?_
            refine z_iconst zh dX9_issue_71 ki_5 ?_
            refine z_icmp_ge_N (tgt := 82) zh (by omega) (by decide) dX9_issue_72 rfl (fun hb6 => ?_) (fun hb6 => ?_)
            · refine z_iloadn zh dX9_issue_82 rfl ?_
              refine z_iconst zh dX9_issue_83 ki_5 ?_
              refine z_icmp_ne_N (tgt := 95) zh (by omega) (by decide) dX9_issue_84 rfl (fun hb7 => ?_) (fun hb7 => ?_)
              · refine z_aloadnR zh dX9_issue_95 rfl ?_
                refine z_iloadn zh dX9_issue_96 rfl ?_
                refine z_iconst zh dX9_issue_97 ki_1 ?_
                refine z_callVIp zh mv_Y_341 dX9_issue_98 ck_Y rfl (c_y_openOf g  hG) ⟨Nat.le_of_ble_eq_true rfl, Nat.le_of_ble_eq_true rfl⟩ rfl rfl (Nat.le_of_ble_eq_true rfl) ?_
                exact z_iret zh dX9_issue_101 (⟨_, rfl, (by first | rfl | (simp (decide := true) only [sp_iss0, sp_iss, sel_t, sel_f, sel_same, eq_self, hp1, hp2, hb3, hb4, hb5, hb6, hb7]; done) | (rcases (by omega : jw = 0 ∨ jw = 1 ∨ jw = 2 ∨ jw = 3 ∨ jw = 4 ∨ jw = 5 ∨ jw = 6 ∨ jw = 7 ∨ jw = 8) with rfl | rfl | rfl | rfl | rfl | rfl | rfl | rfl | rfl <;> first | (exfalso; omega) | (simp (decide := true) only [sp_iss0, sp_iss, sel_t, sel_f, sel_same, hp1, InN_nI]; done)))⟩)
              · refine z_aloadnR zh dX9_issue_87 rfl ?_
                refine z_iloadn zh dX9_issue_88 rfl ?_
                refine z_callVIp zh mv_Y_338 dX9_issue_89 ck_Y rfl (c_y_eldest g hjx hG) ⟨Nat.le_of_ble_eq_true rfl, Nat.le_of_ble_eq_true rfl⟩ rfl rfl (Nat.le_of_ble_eq_true rfl) ?_
                refine z_goto (tgt := 101) zh dX9_issue_92 rfl ?_
                exact z_iret zh dX9_issue_101 (⟨_, rfl, (by first | rfl | (simp (decide := true) only [sp_iss0, sp_iss, sel_t, sel_f, sel_same, eq_self, hp1, hp2, hb3, hb4, hb5, hb6, hb7]; done) | (rcases (by omega : jw = 0 ∨ jw = 1 ∨ jw = 2 ∨ jw = 3 ∨ jw = 4 ∨ jw = 5 ∨ jw = 6 ∨ jw = 7 ∨ jw = 8) with rfl | rfl | rfl | rfl | rfl | rfl | rfl | rfl | rfl <;> first | (exfalso; omega) | (simp (decide := true) only [sp_iss0, sp_iss, sel_t, sel_f, sel_same, hp1, InN_nI]; done)))⟩)
            · refine z_aloadnR zh dX9_issue_75 rfl ?_
              refine z_iloadn zh dX9_issue_76 rfl ?_
              refine z_iloadn zh dX9_issue_77 rfl ?_
              refine z_callVIp zh mv_Y_335 dX9_issue_78 ck_Y rfl (c_y_sumOf g hjx hG) ⟨Nat.le_of_ble_eq_true rfl, Nat.le_of_ble_eq_true rfl⟩ rfl rfl (Nat.le_of_ble_eq_true rfl) ?_
              exact z_iret zh dX9_issue_81 (⟨_, rfl, (by first | rfl | (simp (decide := true) only [sp_iss0, sp_iss, sel_t, sel_f, sel_same, eq_self, hp1, hp2, hb3, hb4, hb5, hb6]; done) | (rcases (by omega : jw = 0 ∨ jw = 1 ∨ jw = 2 ∨ jw = 3 ∨ jw = 4 ∨ jw = 5 ∨ jw = 6 ∨ jw = 7 ∨ jw = 8) with rfl | rfl | rfl | rfl | rfl | rfl | rfl | rfl | rfl <;> first | (exfalso; omega) | (simp (decide := true) only [sp_iss0, sp_iss, sel_t, sel_f, sel_same, hp1, InN_nI]; done)))⟩)
          · refine z_aloadnR zh dX9_issue_64 rfl ?_
            refine z_iloadn zh dX9_issue_65 rfl ?_
            refine z_callVIp zh mv_Y_203 dX9_issue_66 ck_Y rfl (c_y_markedOf g hjx hG) ⟨Nat.le_of_ble_eq_true rfl, Nat.le_of_ble_eq_true rfl⟩ rfl rfl (Nat.le_of_ble_eq_true rfl) ?_
            exact z_iret zh dX9_issue_69 (⟨_, rfl, (by first | rfl | (simp (decide := true) only [sp_iss0, sp_iss, sel_t, sel_f, sel_same, eq_self, hp1, hp2, hb3, hb4, hb5]; done) | (rcases (by omega : jw = 0 ∨ jw = 1 ∨ jw = 2 ∨ jw = 3 ∨ jw = 4 ∨ jw = 5 ∨ jw = 6 ∨ jw = 7 ∨ jw = 8) with rfl | rfl | rfl | rfl | rfl | rfl | rfl | rfl | rfl <;> first | (exfalso; omega) | (simp (decide := true) only [sp_iss0, sp_iss, sel_t, sel_f, sel_same, hp1, InN_nI]; done)))⟩)
        · refine z_aloadnR zh dX9_issue_53 rfl ?_
          refine z_iloadn zh dX9_issue_54 rfl ?_
          refine z_callVIp zh mv_Y_197 dX9_issue_55 ck_Y rfl (c_y_priceOf g hjx hG) ⟨Nat.le_of_ble_eq_true rfl, Nat.le_of_ble_eq_true rfl⟩ rfl rfl (Nat.le_of_ble_eq_true rfl) ?_
          exact z_iret zh dX9_issue_58 (⟨_, rfl, (by first | rfl | (simp (decide := true) only [sp_iss0, sp_iss, sel_t, sel_f, sel_same, eq_self, hp1, hp2, hb3, hb4]; done) | (rcases (by omega : jw = 0 ∨ jw = 1 ∨ jw = 2 ∨ jw = 3 ∨ jw = 4 ∨ jw = 5 ∨ jw = 6 ∨ jw = 7 ∨ jw = 8) with rfl | rfl | rfl | rfl | rfl | rfl | rfl | rfl | rfl <;> first | (exfalso; omega) | (simp (decide := true) only [sp_iss0, sp_iss, sel_t, sel_f, sel_same, hp1, InN_nI]; done)))⟩)
      · refine z_aloadnR zh dX9_issue_32 rfl ?_
        refine z_iloadn zh dX9_issue_33 rfl ?_
        refine z_iloadn zh dX9_issue_34 rfl ?_
        refine z_bipush zh dX9_issue_35 kb_8 ?_
        refine z_icmp_ne_N (tgt := 44) zh (by omega) (by decide) dX9_issue_37 rfl (fun hb8 => ?_) (fun hb8 => ?_)
        · refine z_iconst zh dX9_issue_44 ki_0 ?_
          refine z_callVIp zh mv_Y_331 dX9_issue_45 ck_Y rfl (c_y_tradedOf g  hG) ⟨Nat.le_of_ble_eq_true rfl, Nat.le_of_ble_eq_true rfl⟩ rfl rfl (Nat.le_of_ble_eq_true rfl) ?_
          exact z_iret zh dX9_issue_48 (⟨_, rfl, (by first | rfl | (simp (decide := true) only [sp_iss0, sp_iss, sel_t, sel_f, sel_same, eq_self, hp1, hp2, hb3, hb8]; done) | (rcases (by omega : jw = 0 ∨ jw = 1 ∨ jw = 2 ∨ jw = 3 ∨ jw = 4 ∨ jw = 5 ∨ jw = 6 ∨ jw = 7 ∨ jw = 8) with rfl | rfl | rfl | rfl | rfl | rfl | rfl | rfl | rfl <;> first | (exfalso; omega) | (simp (decide := true) only [sp_iss0, sp_iss, sel_t, sel_f, sel_same, hp1, InN_nI]; done)))⟩)
        · refine z_iconst zh dX9_issue_40 ki_1 ?_
          refine z_goto (tgt := 45) zh dX9_issue_41 rfl ?_
          refine z_callVIp zh mv_Y_331 dX9_issue_45 ck_Y rfl (c_y_tradedOf g  hG) ⟨Nat.le_of_ble_eq_true rfl, Nat.le_of_ble_eq_true rfl⟩ rfl rfl (Nat.le_of_ble_eq_true rfl) ?_
          exact z_iret zh dX9_issue_48 (⟨_, rfl, (by first | rfl | (simp (decide := true) only [sp_iss0, sp_iss, sel_t, sel_f, sel_same, eq_self, hp1, hp2, hb3, hb8]; done) | (rcases (by omega : jw = 0 ∨ jw = 1 ∨ jw = 2 ∨ jw = 3 ∨ jw = 4 ∨ jw = 5 ∨ jw = 6 ∨ jw = 7 ∨ jw = 8) with rfl | rfl | rfl | rfl | rfl | rfl | rfl | rfl | rfl <;> first | (exfalso; omega) | (simp (decide := true) only [sp_iss0, sp_iss, sel_t, sel_f, sel_same, hp1, InN_nI]; done)))⟩)
    · refine z_iconst zh dX9_issue_24 ki_m1 ?_
      exact z_iret zh dX9_issue_25 (⟨_, rfl, (by first | rfl | (simp (decide := true) only [sp_iss0, sp_iss, sel_t, sel_f, sel_same, eq_self, hp1, hp2]; done) | (rcases (by omega : jw = 0 ∨ jw = 1 ∨ jw = 2 ∨ jw = 3 ∨ jw = 4 ∨ jw = 5 ∨ jw = 6 ∨ jw = 7 ∨ jw = 8) with rfl | rfl | rfl | rfl | rfl | rfl | rfl | rfl | rfl <;> first | (exfalso; omega) | (simp (decide := true) only [sp_iss0, sp_iss, sel_t, sel_f, sel_same, hp1, InN_nI]; done)))⟩)
theorem c_y_settingG (g : GE) {j : Nat} {iv : Iv} {lv : Lv} {dd : Nat → Nat} {dm : Nat} (hj : j < 6) (hG : OkR dd dm iv lv) : ConIp g yX9_settingOf cX9_settingOf 2 (some .int) 2 [rf g 551, .int (nI j)] iv lv (nI (tfN j)) := by
  rcases (by omega : j = 0 ∨ j = 1 ∨ j = 2 ∨ j = 3 ∨ j = 4 ∨ j = 5) with rfl | rfl | rfl | rfl | rfl | rfl
  · exact c_y_settingOf0 g (r1_now hG (by decide))
  · exact c_y_settingOf1 g (r1_now hG (by decide))
  · exact c_y_settingOf2 g (r1_now hG (by decide))
  · exact c_y_settingOf3 g (r1_now hG (by decide))
  · exact c_y_settingOf4 g (r1_now hG (by decide))
  · exact c_y_settingOf5 g (r1_now hG (by decide))
set_option maxRecDepth 20000 in
theorem c_Y_look (g : GE) {w : Int32} {iv : Iv} {lv : Lv} {dd : Nat → Nat} {dm : Nat}  (hG : OkR dd 0 iv lv) : ConI g yX9_look cX9_look 2 (some .int) 6 [rf g 551, .int w] iv lv (fun r _ _ => r = sp_look w) := by
  refine con_intro (own := "RollingNetsModel") (by decide +kernel) rfl (Nat.le_of_ble_eq_true rfl) (L0 := [some (rf g 551), some (.int w)]) rfl (fun Z zh => ?_)
  refine z_aloadnR zh dX9_look_0 rfl ?_
  refine z_iconst zh dX9_look_1 ki_0 ?_
  refine z_putI zh fl_Y_58 dX9_look_2 ck_Y rfl rfl (Nat.le_of_ble_eq_true rfl) (Or.inl rfl) ?_
  have hG := okR_wI (k := 551) (j := 0) (x := nI 0) hG (w1_no rfl)
  generalize upI iv (551) (0) (nI 0) = iv at hG ⊢
  refine z_aloadnR zh dX9_look_5 rfl ?_
  refine z_iloadn zh dX9_look_6 rfl ?_
  refine z_iconst zh dX9_look_7 ki_0 ?_
  refine z_iconst zh dX9_look_8 ki_5 ?_
  refine z_callVIp zh mv_Y_79 dX9_look_9 ck_Y rfl (c_y_isIn0 g) ⟨Nat.le_of_ble_eq_true rfl, Nat.le_of_ble_eq_true rfl⟩ rfl rfl (Nat.le_of_ble_eq_true rfl) ?_
  refine z_if_eq_B (tgt := 21) zh dX9_look_12 rfl (fun hp1 => ?_) (fun hp1 => ?_)
  · refine z_aloadnR zh dX9_look_21 rfl ?_
    refine z_iloadn zh dX9_look_22 rfl ?_
    refine z_bipush zh dX9_look_23 kb_6 ?_
    refine z_bipush zh dX9_look_25 kb_8 ?_
    refine z_callVIp zh mv_Y_79 dX9_look_27 ck_Y rfl (c_y_isIn g) ⟨Nat.le_of_ble_eq_true rfl, Nat.le_of_ble_eq_true rfl⟩ rfl rfl (Nat.le_of_ble_eq_true rfl) ?_
    refine z_if_eq_B (tgt := 40) zh dX9_look_30 rfl (fun hp2 => ?_) (fun hp2 => ?_)
    · refine z_iloadn zh dX9_look_40 rfl ?_
      refine z_bipush zh dX9_look_41 kb_9 ?_
      refine z_icmp_ne (tgt := 51) zh dX9_look_43 rfl (fun hb3 => ?_) (fun hb3 => ?_)
      · refine z_iloadn zh dX9_look_51 rfl ?_
        refine z_bipush zh dX9_look_52 kb_10 ?_
        refine z_icmp_ne (tgt := 65) zh dX9_look_54 rfl (fun hb4 => ?_) (fun hb4 => ?_)
        · refine z_iloadn zh dX9_look_65 rfl ?_
          refine z_bipush zh dX9_look_66 kb_11 ?_
          refine z_icmp_ne (tgt := 80) zh dX9_look_68 rfl (fun hb5 => ?_) (fun hb5 => ?_)
          · refine z_iloadn zh dX9_look_80 rfl ?_
            refine z_bipush zh dX9_look_81 kb_12 ?_
            refine z_icmp_ne (tgt := 91) zh dX9_look_83 rfl (fun hb6 => ?_) (fun hb6 => ?_)
            · refine z_iloadn zh dX9_look_91 rfl ?_
              refine z_bipush zh dX9_look_92 kb_13 ?_
              refine z_icmp_ne (tgt := 102) zh dX9_look_94 rfl (fun hb7 => ?_) (fun hb7 => ?_)
              · refine z_iloadn zh dX9_look_102 rfl ?_
                refine z_bipush zh dX9_look_103 kb_14 ?_
                refine z_icmp_ne (tgt := 116) zh dX9_look_105 rfl (fun hb8 => ?_) (fun hb8 => ?_)
                · refine z_iloadn zh dX9_look_116 rfl ?_
                  refine z_bipush zh dX9_look_117 kb_15 ?_
                  refine z_icmp_ne (tgt := 129) zh dX9_look_119 rfl (fun hb9 => ?_) (fun hb9 => ?_)
                  · refine z_iloadn zh dX9_look_129 rfl ?_
                    refine z_bipush zh dX9_look_130 kb_16 ?_
                    refine z_icmp_ne (tgt := 140) zh dX9_look_132 rfl (fun hb10 => ?_) (fun hb10 => ?_)
                    · refine z_iloadn zh dX9_look_140 rfl ?_
                      refine z_bipush zh dX9_look_141 kb_17 ?_
                      refine z_icmp_ne (tgt := 163) zh dX9_look_143 rfl (fun hb11 => ?_) (fun hb11 => ?_)
                      · refine z_iloadn zh dX9_look_163 rfl ?_
                        refine z_bipush zh dX9_look_164 kb_18 ?_
                        refine z_icmp_ne (tgt := 174) zh dX9_look_166 rfl (fun hb12 => ?_) (fun hb12 => ?_)
                        · refine z_iloadn zh dX9_look_174 rfl ?_
                          refine z_bipush zh dX9_look_175 kb_19 ?_
                          refine z_icmp_ne (tgt := 190) zh dX9_look_177 rfl (fun hb13 => ?_) (fun hb13 => ?_)
                          · refine z_ldcw zh dX9_look_190 kc_Y_330 ?_
                            exact z_iret zh dX9_look_193 (⟨_, rfl, ((sp_look_far hp1 hp2 (fun k h9 h19 => by rcases (by omega : k = 9 ∨ k = 10 ∨ k = 11 ∨ k = 12 ∨ k = 13 ∨ k = 14 ∨ k = 15 ∨ k = 16 ∨ k = 17 ∨ k = 18 ∨ k = 19) with rfl | rfl | rfl | rfl | rfl | rfl | rfl | rfl | rfl | rfl | rfl <;> assumption)).symm)⟩)
                          · refine z_aloadnR zh dX9_look_180 rfl ?_
                            refine z_getf zh fl_Y_7 dX9_look_181 ck_Y rfl rfl ?_
                            refine z_bipush zh dX9_look_184 kb_12 ?_
                            refine z_ialdE (x := nI 0) zh ck_now dX9_look_186 (by decide) (r1_now0 hG) ?_
                            refine z_goto (tgt := 193) zh dX9_look_187 rfl ?_
                            exact z_iret zh dX9_look_193 (⟨_, rfl, (by rw [show w = _ from hb13]; exact (sp_look_n (by omega) (by omega)).symm)⟩)
                        · refine z_aloadnR zh dX9_look_169 rfl ?_
                          refine z_callVIp zh mv_Y_438 dX9_look_170 ck_Y rfl (c_y_shortSet g  hG) ⟨Nat.le_of_ble_eq_true rfl, Nat.le_of_ble_eq_true rfl⟩ rfl rfl (Nat.le_of_ble_eq_true rfl) ?_
                          exact z_iret zh dX9_look_173 (⟨_, rfl, (by rw [show w = _ from hb12]; exact (sp_look_n (by omega) (by omega)).symm)⟩)
                      · refine z_aloadnR zh dX9_look_146 rfl ?_
                        refine z_getf zh fl_Y_7 dX9_look_147 ck_Y rfl rfl ?_
                        refine z_bipush zh dX9_look_150 kb_11 ?_
                        refine z_ialdE (x := nI 0) zh ck_now dX9_look_152 (by decide) (r1_now0 hG) ?_
                        refine z_iconst zh dX9_look_153 ki_1 ?_
                        refine z_aloadnR zh dX9_look_154 rfl ?_
                        refine z_callVIp zh mv_Y_61 dX9_look_155 ck_Y rfl (c_y_memberMany g  hG) ⟨Nat.le_of_ble_eq_true rfl, Nat.le_of_ble_eq_true rfl⟩ rfl rfl (Nat.le_of_ble_eq_true rfl) ?_
                        refine z_ishl zh dX9_look_158 ?_
                        refine z_iconst zh dX9_look_159 ki_1 ?_
                        refine z_isub zh dX9_look_160 ?_
                        refine z_iand zh dX9_look_161 ?_
                        rw [show ((nI 0) &&& (((nI 1) <<< (nI 6 &&& 31)) - (nI 1)) : Int32) = nI 0 from (by decide)]
                        exact z_iret zh dX9_look_162 (⟨_, rfl, (by rw [show w = _ from hb11]; exact (sp_look_n (by omega) (by omega)).symm)⟩)
                    · refine z_aloadnR zh dX9_look_135 rfl ?_
                      refine z_callVIp zh mv_Y_435 dX9_look_136 ck_Y rfl (c_y_lackMany g  hG) ⟨Nat.le_of_ble_eq_true rfl, Nat.le_of_ble_eq_true rfl⟩ rfl rfl (Nat.le_of_ble_eq_true rfl) ?_
                      exact z_iret zh dX9_look_139 (⟨_, rfl, (by rw [show w = _ from hb10]; exact (sp_look_n (by omega) (by omega)).symm)⟩)
                  · refine z_aloadnR zh dX9_look_122 rfl ?_
                    refine z_iconst zh dX9_look_123 ki_m1 ?_
                    refine z_iconst zh dX9_look_124 ki_0 ?_
                    refine z_callVIp zh mv_Y_341 dX9_look_125 ck_Y rfl (c_y_openOf g  hG) ⟨Nat.le_of_ble_eq_true rfl, Nat.le_of_ble_eq_true rfl⟩ rfl rfl (Nat.le_of_ble_eq_true rfl) ?_
                    exact z_iret zh dX9_look_128 (⟨_, rfl, (by rw [show w = _ from hb9]; exact (sp_look_n (by omega) (by omega)).symm)⟩)
                · refine z_aloadnR zh dX9_look_108 rfl ?_
                  refine z_getf zh fl_Y_7 dX9_look_109 ck_Y rfl rfl ?_
                  refine z_bipush zh dX9_look_112 kb_10 ?_
                  refine z_ialdE (x := nI 0) zh ck_now dX9_look_114 (by decide) (r1_now0 hG) ?_
                  exact z_iret zh dX9_look_115 (⟨_, rfl, (by rw [show w = _ from hb8]; exact (sp_look_n (by omega) (by omega)).symm)⟩)
              · refine z_aloadnR zh dX9_look_97 rfl ?_
                refine z_getI (x := nI 0) zh fl_Y_407 dX9_look_98 ck_Y rfl rfl (r1_planMany hG) ?_
                exact z_iret zh dX9_look_101 (⟨_, rfl, (by rw [show w = _ from hb7]; exact (sp_look_n (by omega) (by omega)).symm)⟩)
            · refine z_aloadnR zh dX9_look_86 rfl ?_
              refine z_callVIp zh mv_Y_432 dX9_look_87 ck_Y rfl (c_y_allCash g  hG) ⟨Nat.le_of_ble_eq_true rfl, Nat.le_of_ble_eq_true rfl⟩ rfl rfl (Nat.le_of_ble_eq_true rfl) ?_
              exact z_iret zh dX9_look_90 (⟨_, rfl, (by rw [show w = _ from hb6]; exact (sp_look_n (by omega) (by omega)).symm)⟩)
          · refine z_aloadnR zh dX9_look_71 rfl ?_
            refine z_getf zh fl_Y_16 dX9_look_72 ck_Y rfl rfl ?_
            refine z_bipush zh dX9_look_75 kb_12 ?_
            refine z_laldE (x := (0 : Int64)) zh ck_coins dX9_look_77 (by decide) (r1_coins hG) ?_
            refine z_l2i zh dX9_look_78 ?_
            rw [show ((0 : Int64)).toInt32 = nI 0 from by decide]
            exact z_iret zh dX9_look_79 (⟨_, rfl, (by rw [show w = _ from hb5]; exact (sp_look_n (by omega) (by omega)).symm)⟩)
        · refine z_aloadnR zh dX9_look_57 rfl ?_
          refine z_getf zh fl_Y_7 dX9_look_58 ck_Y rfl rfl ?_
          refine z_bipush zh dX9_look_61 kb_9 ?_
          refine z_ialdE (x := nI 0) zh ck_now dX9_look_63 (by decide) (r1_now0 hG) ?_
          exact z_iret zh dX9_look_64 (⟨_, rfl, (by rw [show w = _ from hb4]; exact (sp_look_n (by omega) (by omega)).symm)⟩)
      · refine z_aloadnR zh dX9_look_46 rfl ?_
        refine z_callVIp zh mv_Y_429 dX9_look_47 ck_Y rfl (c_y_openNotices g  hG) ⟨Nat.le_of_ble_eq_true rfl, Nat.le_of_ble_eq_true rfl⟩ rfl rfl (Nat.le_of_ble_eq_true rfl) ?_
        exact z_iret zh dX9_look_50 (⟨_, rfl, (by rw [show w = _ from hb3]; exact (sp_look_n (by omega) (by omega)).symm)⟩)
    · obtain ⟨jw, hljw, hhjw, rfl⟩ := Rg_nat (a := 6) (b := 8) (by omega) (by omega) hp2
      refine z_aloadnR zh dX9_look_33 rfl ?_
      refine z_getf zh fl_Y_7 dX9_look_34 ck_Y rfl rfl ?_
      refine z_iloadn zh dX9_look_37 rfl ?_
      refine z_ialdE (x := nI 0) zh ck_now dX9_look_38 (by omega) (r1_now0 hG) ?_
      exact z_iret zh dX9_look_39 (⟨_, rfl, ((sp_look_n (j := jw) (by omega) (by omega)).symm)⟩)
  · obtain ⟨jw, hjw, rfl⟩ := id hp1
    refine z_aloadnR zh dX9_look_15 rfl ?_
    refine z_iloadn zh dX9_look_16 rfl ?_
    refine z_callVIp zh mv_Y_144 dX9_look_17 ck_Y rfl (c_y_settingG g hjw hG) ⟨Nat.le_of_ble_eq_true rfl, Nat.le_of_ble_eq_true rfl⟩ rfl rfl (Nat.le_of_ble_eq_true rfl) ?_
    exact z_iret zh dX9_look_20 (⟨_, rfl, (by rcases (by omega : jw = 0 ∨ jw = 1 ∨ jw = 2 ∨ jw = 3 ∨ jw = 4 ∨ jw = 5) with rfl | rfl | rfl | rfl | rfl | rfl <;> (simp (decide := true) only [sp_look, sel_t, sel_f]; first | done | rfl))⟩)
set_option maxRecDepth 20000 in
theorem c_Y_image (g : GE) {z : Int32} {iv : Iv} {lv : Lv} {dd : Nat → Nat} {dm : Nat}  (hG : OkR dd dm iv lv) : ConI g yX9_image cX9_image 3 (some .boolean) 1 [rf g 551, .int z] iv lv (fun r _ _ => r = sel (z = 0) (nI 0) (nI 1)) := by
  refine con_intro (own := "RollingNetsModel") (by decide +kernel) rfl (Nat.le_of_ble_eq_true rfl) (L0 := [some (rf g 551), some (.int z), none]) rfl (fun Z zh => ?_)
  refine z_aloadnR zh dX9_image_0 rfl ?_
  refine z_iconst zh dX9_image_1 ki_0 ?_
  refine z_putI zh fl_Y_58 dX9_image_2 ck_Y rfl rfl (Nat.le_of_ble_eq_true rfl) (Or.inl rfl) ?_
  have hG := okR_wI (k := 551) (j := 0) (x := nI 0) hG (w1_no rfl)
  generalize upI iv (551) (0) (nI 0) = iv at hG ⊢
  refine z_iloadn zh dX9_image_5 rfl ?_
  refine z_if_ne (tgt := 18) zh dX9_image_6 rfl (fun hb1 => ?_) (fun hb1 => ?_)
  · refine z_aloadnR zh dX9_image_18 rfl ?_
    refine z_iconst zh dX9_image_19 ki_1 ?_
    refine z_putI zh fl_Y_441 dX9_image_20 ck_Y rfl rfl (Nat.le_of_ble_eq_true rfl) (Or.inr ⟨rfl, Or.inr rfl⟩) ?_
    generalize upI iv (551) (29) (vp_nar .boolean (nI 1)) = iv
    refine z_iconst zh dX9_image_23 ki_0 ?_
    refine z_istoren zh dX9_image_24 (by decide) (L' := [some (rf g 551), some (.int z), some (.int (nI 0))]) rfl ?_
    have hl25 : ∀ (n k25 : Nat) (iv : Iv) (lv : Lv), True → k25 ≤ 19782 → 19782 - k25 < n → Z 25 [some (rf g 551), some (.int z), some (.int (nI k25))] [] iv lv := by
      intro n
      induction n with
      | zero => intro k25 iv lv _ _ hn; exact absurd hn (Nat.not_lt_zero _)
      | succ n ih25 =>
        intro k25 iv lv hG hk25 hn25
        refine z_iloadn zh dX9_image_25 rfl ?_
        refine z_sipush zh dX9_image_26 ks_19782 ?_
        refine z_icmp_ge_N (tgt := 69) zh (by omega) (by decide) dX9_image_29 rfl (fun hb2 => ?_) (fun hb2 => ?_)
        · refine z_iconst zh dX9_image_69 ki_0 ?_
          refine z_istoren zh dX9_image_70 (by decide) (L' := [some (rf g 551), some (.int z), some (.int (nI 0))]) rfl ?_
          have hl71 : ∀ (n k71 : Nat) (iv : Iv) (lv : Lv), True → k71 ≤ 144 → 144 - k71 < n → Z 71 [some (rf g 551), some (.int z), some (.int (nI k71))] [] iv lv := by
            intro n
            induction n with
            | zero => intro k71 iv lv _ _ hn; exact absurd hn (Nat.not_lt_zero _)
            | succ n ih71 =>
              intro k71 iv lv hG hk71 hn71
              refine z_iloadn zh dX9_image_71 rfl ?_
              refine z_sipush zh dX9_image_72 ks_144 ?_
              refine z_icmp_ge_N (tgt := 123) zh (by omega) (by decide) dX9_image_75 rfl (fun hb3 => ?_) (fun hb3 => ?_)
              · refine z_iconst zh dX9_image_123 ki_0 ?_
                refine z_istoren zh dX9_image_124 (by decide) (L' := [some (rf g 551), some (.int z), some (.int (nI 0))]) rfl ?_
                have hl125 : ∀ (n k125 : Nat) (iv : Iv) (lv : Lv), True → k125 ≤ 13 → 13 - k125 < n → Z 125 [some (rf g 551), some (.int z), some (.int (nI k125))] [] iv lv := by
                  intro n
                  induction n with
                  | zero => intro k125 iv lv _ _ hn; exact absurd hn (Nat.not_lt_zero _)
                  | succ n ih125 =>
                    intro k125 iv lv hG hk125 hn125
                    refine z_iloadn zh dX9_image_125 rfl ?_
                    refine z_bipush zh dX9_image_126 kb_13 ?_
                    refine z_icmp_ge_N (tgt := 168) zh (by omega) (by decide) dX9_image_128 rfl (fun hb4 => ?_) (fun hb4 => ?_)
                    · refine z_iloadn zh dX9_image_168 rfl ?_
                      refine z_if_eq (tgt := 187) zh dX9_image_169 rfl (fun q => absurd q hb1) (fun _ => ?_)
                      refine z_aloadnR zh dX9_image_172 rfl ?_
                      refine z_getf zh fl_Y_52 dX9_image_173 ck_Y rfl rfl ?_
                      refine z_sipush zh dX9_image_176 ks_19926 ?_
                      refine z_aloadnR zh dX9_image_179 rfl ?_
                      obtain ⟨xx, exx⟩ : ∃ z, iv (551) (27) = z := ⟨_, rfl⟩
                      refine z_getI (x := xx) zh fl_Y_407 dX9_image_180 ck_Y rfl rfl exx ?_
                      refine z_iastN zh ck_images dX9_image_183 (by decide) ?_
                      generalize upI iv (564) (19926) (xx) = iv
                      refine z_goto (tgt := 199) zh dX9_image_184 rfl ?_
                      refine z_iconst zh dX9_image_199 ki_1 ?_
                      exact z_zret zh dX9_image_200 (Or.inr rfl) (⟨_, rfl, (by first | rfl | simp (decide := true) only [sel_t, sel_f, selL_t, selL_f, bi_t, bi_f, sel_same, selL_same, eq_self, hb1, hb2, hb3, hb4])⟩)
                    · refine z_iloadn zh dX9_image_131 rfl ?_
                      refine z_if_eq (tgt := 150) zh dX9_image_132 rfl (fun q => absurd q hb1) (fun _ => ?_)
                      refine z_aloadnR zh dX9_image_135 rfl ?_
                      refine z_getf zh fl_Y_55 dX9_image_136 ck_Y rfl rfl ?_
                      refine z_iloadn zh dX9_image_139 rfl ?_
                      refine z_aloadnR zh dX9_image_140 rfl ?_
                      refine z_getf zh fl_Y_16 dX9_image_141 ck_Y rfl rfl ?_
                      refine z_iloadn zh dX9_image_144 rfl ?_
                      refine z_laldE (x := lv (554) (k125)) zh ck_coins dX9_image_145 (by omega) rfl ?_
                      refine z_lastN zh ck_icoins dX9_image_146 (by omega) ?_
                      generalize upL lv (565) (k125) (lv (554) (k125)) = lv
                      refine z_goto (tgt := 162) zh dX9_image_147 rfl ?_
                      refine z_iincN zh dX9_image_162 ki_1 (by decide) rfl (L' := [some (rf g 551), some (.int z), some (.int (nI (k125 + 1)))]) rfl ?_
                      refine z_goto (tgt := 125) zh dX9_image_165 rfl ?_
                      exact ih125 (k125 + 1) iv lv trivial (by omega) (by omega)
                exact hl125 14 0 _ _ trivial (by omega) (by omega)
              · refine z_iloadn zh dX9_image_78 rfl ?_
                refine z_if_eq (tgt := 101) zh dX9_image_79 rfl (fun q => absurd q hb1) (fun _ => ?_)
                refine z_aloadnR zh dX9_image_82 rfl ?_
                refine z_getf zh fl_Y_52 dX9_image_83 ck_Y rfl rfl ?_
                refine z_sipush zh dX9_image_86 ks_19782 ?_
                refine z_iloadn zh dX9_image_89 rfl ?_
                refine z_iaddN zh dX9_image_90 ?_
                refine z_aloadnR zh dX9_image_91 rfl ?_
                refine z_getf zh fl_Y_49 dX9_image_92 ck_Y rfl rfl ?_
                refine z_iloadn zh dX9_image_95 rfl ?_
                obtain ⟨xx, exx⟩ : ∃ z, iv (563) (k71) = z := ⟨_, rfl⟩
                refine z_ialdE (x := xx) zh ck_plans dX9_image_96 (by omega) exx ?_
                refine z_iastN zh ck_images dX9_image_97 (by omega) ?_
                generalize upI iv (564) (19782 + k71) (xx) = iv
                refine z_goto (tgt := 117) zh dX9_image_98 rfl ?_
                refine z_iincN zh dX9_image_117 ki_1 (by decide) rfl (L' := [some (rf g 551), some (.int z), some (.int (nI (k71 + 1)))]) rfl ?_
                refine z_goto (tgt := 71) zh dX9_image_120 rfl ?_
                exact ih71 (k71 + 1) iv lv trivial (by omega) (by omega)
          exact hl71 145 0 _ _ trivial (by omega) (by omega)
        · refine z_iloadn zh dX9_image_32 rfl ?_
          refine z_if_eq (tgt := 51) zh dX9_image_33 rfl (fun q => absurd q hb1) (fun _ => ?_)
          refine z_aloadnR zh dX9_image_36 rfl ?_
          refine z_getf zh fl_Y_52 dX9_image_37 ck_Y rfl rfl ?_
          refine z_iloadn zh dX9_image_40 rfl ?_
          refine z_aloadnR zh dX9_image_41 rfl ?_
          refine z_getf zh fl_Y_7 dX9_image_42 ck_Y rfl rfl ?_
          refine z_iloadn zh dX9_image_45 rfl ?_
          obtain ⟨xx, exx⟩ : ∃ z, iv (552) (k25) = z := ⟨_, rfl⟩
          refine z_ialdE (x := xx) zh ck_now dX9_image_46 (by omega) exx ?_
          refine z_iastN zh ck_images dX9_image_47 (by omega) ?_
          generalize upI iv (564) (k25) (xx) = iv
          refine z_goto (tgt := 63) zh dX9_image_48 rfl ?_
          refine z_iincN zh dX9_image_63 ki_1 (by decide) rfl (L' := [some (rf g 551), some (.int z), some (.int (nI (k25 + 1)))]) rfl ?_
          refine z_goto (tgt := 25) zh dX9_image_66 rfl ?_
          exact ih25 (k25 + 1) iv lv trivial (by omega) (by omega)
    exact hl25 19783 0 _ _ trivial (by omega) (by omega)
  · refine z_aloadnR zh dX9_image_9 rfl ?_
    refine z_getI (x := nI 0) zh fl_Y_441 dX9_image_10 ck_Y rfl rfl (r1_hasImage hG) ?_
    refine z_if_ne_N (tgt := 18) zh (by decide) dX9_image_13 rfl (fun q => absurd q (by decide)) (fun _ => ?_)
    refine z_iconst zh dX9_image_16 ki_0 ?_
    exact z_zret zh dX9_image_17 (Or.inl rfl) (⟨_, rfl, (by first | rfl | simp (decide := true) only [sel_t, sel_f, selL_t, selL_f, bi_t, bi_f, sel_same, selL_same, eq_self, hb1])⟩)
set_option maxRecDepth 20000 in
theorem c_Y_tomorrow (g : GE) {x y w : Int32} {iv : Iv} {lv : Lv} {dd : Nat → Nat} {dm : Nat}  (hG : OkR dd 0 iv lv) : ConI g yX9_tomorrow cX9_tomorrow 6 (some .int) 7 [rf g 551, .int x, .int y, .int w] iv lv (fun r _ _ => r = sp_at x y w) := by
  refine con_intro (own := "RollingNetsModel") (by decide +kernel) rfl (Nat.le_of_ble_eq_true rfl) (L0 := [some (rf g 551), some (.int x), some (.int y), some (.int w), none, none]) rfl (fun Z zh => ?_)
  refine z_aloadnR zh dX9_tomorrow_0 rfl ?_
  refine z_iconst zh dX9_tomorrow_1 ki_0 ?_
  refine z_putI zh fl_Y_58 dX9_tomorrow_2 ck_Y rfl rfl (Nat.le_of_ble_eq_true rfl) (Or.inl rfl) ?_
  have hG := okR_wI (k := 551) (j := 0) (x := nI 0) hG (w1_no rfl)
  generalize upI iv (551) (0) (nI 0) = iv at hG ⊢
  refine z_aloadnR zh dX9_tomorrow_5 rfl ?_
  refine z_iloadn zh dX9_tomorrow_6 rfl ?_
  refine z_callVIp zh mv_Y_90 dX9_tomorrow_7 ck_Y rfl (c_y_isMember g  hG) ⟨Nat.le_of_ble_eq_true rfl, Nat.le_of_ble_eq_true rfl⟩ rfl rfl (Nat.le_of_ble_eq_true rfl) ?_
  refine z_if_eq_B (tgt := 44) zh dX9_tomorrow_10 rfl (fun hp1 => ?_) (fun hp1 => ?_)
  · refine z_ldcw zh dX9_tomorrow_44 kc_Y_330 ?_
    exact z_iret zh dX9_tomorrow_47 (⟨_, rfl, (by first | rfl | (simp (decide := true) only [sp_at, sp_hold, sel_t, sel_f, sel_same, eq_self, hp1]; done) | (have h9 := InN_10_9 hp3 (by assumption); simp (decide := true) only [sp_at, sp_hold, sel_t, sel_f, sel_same, eq_self, hp1, h9]; done) | (have h9 : ¬ w = nI 9 := fun e => hp3 ⟨9, by omega, e⟩; have h8 : ¬ InN 9 w := fun q => hp3 (by obtain ⟨j, hj, e⟩ := q; exact ⟨j, by omega, e⟩); simp (decide := true) only [sp_at, sp_hold, sel_t, sel_f, sel_same, hp1, hp2, h9, h8]))⟩)
  · obtain ⟨jx, hjx, rfl⟩ := id hp1
    refine z_aloadnR zh dX9_tomorrow_13 rfl ?_
    refine z_iloadn zh dX9_tomorrow_14 rfl ?_
    refine z_callVIp zh mv_Y_94 dX9_tomorrow_15 ck_Y rfl (c_y_isIssue g) ⟨Nat.le_of_ble_eq_true rfl, Nat.le_of_ble_eq_true rfl⟩ rfl rfl (Nat.le_of_ble_eq_true rfl) ?_
    refine z_if_eq_B (tgt := 44) zh dX9_tomorrow_18 rfl (fun hp2 => ?_) (fun hp2 => ?_)
    · refine z_ldcw zh dX9_tomorrow_44 kc_Y_330 ?_
      exact z_iret zh dX9_tomorrow_47 (⟨_, rfl, (by first | rfl | (simp (decide := true) only [sp_at, sp_hold, sel_t, sel_f, sel_same, eq_self, hp1, hp2]; done) | (have h9 := InN_10_9 hp3 (by assumption); simp (decide := true) only [sp_at, sp_hold, sel_t, sel_f, sel_same, eq_self, hp1, hp2, h9]; done) | (have h9 : ¬ w = nI 9 := fun e => hp3 ⟨9, by omega, e⟩; have h8 : ¬ InN 9 w := fun q => hp3 (by obtain ⟨j, hj, e⟩ := q; exact ⟨j, by omega, e⟩); simp (decide := true) only [sp_at, sp_hold, sel_t, sel_f, sel_same, hp1, hp2, h9, h8]))⟩)
    · obtain ⟨jy, hjy, rfl⟩ := id hp2
      refine z_aloadnR zh dX9_tomorrow_21 rfl ?_
      refine z_iloadn zh dX9_tomorrow_22 rfl ?_
      refine z_iconst zh dX9_tomorrow_23 ki_0 ?_
      refine z_bipush zh dX9_tomorrow_24 kb_9 ?_
      refine z_callVIp zh mv_Y_79 dX9_tomorrow_26 ck_Y rfl (c_y_isIn0 g) ⟨Nat.le_of_ble_eq_true rfl, Nat.le_of_ble_eq_true rfl⟩ rfl rfl (Nat.le_of_ble_eq_true rfl) ?_
      refine z_if_eq_B (tgt := 44) zh dX9_tomorrow_29 rfl (fun hp3 => ?_) (fun hp3 => ?_)
      · refine z_ldcw zh dX9_tomorrow_44 kc_Y_330 ?_
        exact z_iret zh dX9_tomorrow_47 (⟨_, rfl, (by first | rfl | (simp (decide := true) only [sp_at, sp_hold, sel_t, sel_f, sel_same, eq_self, hp1, hp2, hp3]; done) | (have h9 := InN_10_9 hp3 (by assumption); simp (decide := true) only [sp_at, sp_hold, sel_t, sel_f, sel_same, eq_self, hp1, hp2, hp3, h9]; done) | (have h9 : ¬ w = nI 9 := fun e => hp3 ⟨9, by omega, e⟩; have h8 : ¬ InN 9 w := fun q => hp3 (by obtain ⟨j, hj, e⟩ := q; exact ⟨j, by omega, e⟩); simp (decide := true) only [sp_at, sp_hold, sel_t, sel_f, sel_same, hp1, hp2, h9, h8]))⟩)
      · refine z_aloadnR zh dX9_tomorrow_32 rfl ?_
        refine z_getf zh fl_Y_7 dX9_tomorrow_33 ck_Y rfl rfl ?_
        refine z_bipush zh dX9_tomorrow_36 kb_6 ?_
        refine z_ialdE (x := nI 0) zh ck_now dX9_tomorrow_38 (by decide) (r1_DAY hG) ?_
        refine z_bipush zh dX9_tomorrow_39 kb_99 ?_
        refine z_icmp_ne_N (tgt := 48) zh (by decide) (by decide) dX9_tomorrow_41 rfl (fun _ => ?_) (fun q => absurd q (by decide))
        refine z_iconst zh dX9_tomorrow_48 ki_0 ?_
        refine z_istore zh dX9_tomorrow_49 (by decide) (L' := [some (rf g 551), some (.int (nI jx)), some (.int (nI jy)), some (.int w), some (.int (nI 0)), none]) rfl ?_
        have hl51 : ∀ (n k51 : Nat) (iv : Iv) (lv : Lv), OkR dd 0 iv lv → k51 ≤ 19782 → 19782 - k51 < n → Z 51 [some (rf g 551), some (.int (nI jx)), some (.int (nI jy)), some (.int w), some (.int (nI k51)), none] [] iv lv := by
          intro n
          induction n with
          | zero => intro k51 iv lv _ _ hn; exact absurd hn (Nat.not_lt_zero _)
          | succ n ih51 =>
            intro k51 iv lv hG hk51 hn51
            refine z_iload zh dX9_tomorrow_51 rfl ?_
            refine z_sipush zh dX9_tomorrow_53 ks_19782 ?_
            refine z_icmp_ge_N (tgt := 79) zh (by omega) (by decide) dX9_tomorrow_56 rfl (fun hb4 => ?_) (fun hb4 => ?_)
            · refine z_iconst zh dX9_tomorrow_79 ki_0 ?_
              refine z_istore zh dX9_tomorrow_80 (by decide) (L' := [some (rf g 551), some (.int (nI jx)), some (.int (nI jy)), some (.int w), some (.int (nI 0)), none]) rfl ?_
              have hl82 : ∀ (n k82 : Nat) (iv : Iv) (lv : Lv), OkR dd 0 iv lv → k82 ≤ 13 → 13 - k82 < n → Z 82 [some (rf g 551), some (.int (nI jx)), some (.int (nI jy)), some (.int w), some (.int (nI k82)), none] [] iv lv := by
                intro n
                induction n with
                | zero => intro k82 iv lv _ _ hn; exact absurd hn (Nat.not_lt_zero _)
                | succ n ih82 =>
                  intro k82 iv lv hG hk82 hn82
                  refine z_iload zh dX9_tomorrow_82 rfl ?_
                  refine z_bipush zh dX9_tomorrow_84 kb_13 ?_
                  refine z_icmp_ge_N (tgt := 109) zh (by omega) (by decide) dX9_tomorrow_86 rfl (fun hb5 => ?_) (fun hb5 => ?_)
                  · refine z_aloadnR zh dX9_tomorrow_109 rfl ?_
                    refine z_callVV zh mv_Y_303 dX9_tomorrow_110 ck_Y rfl (c_y_goesNight g hG) ⟨Nat.le_of_ble_eq_true rfl, Nat.le_of_ble_eq_true rfl⟩ rfl rfl (Nat.le_of_ble_eq_true rfl) ?_
                    rintro iv lv hG
                    refine z_iloadn zh dX9_tomorrow_113 rfl ?_
                    refine z_bipush zh dX9_tomorrow_114 kb_9 ?_
                    refine z_icmp_ne (tgt := 136) zh dX9_tomorrow_116 rfl (fun hb6 => ?_) (fun hb6 => ?_)
                    · refine z_aloadnR zh dX9_tomorrow_136 rfl ?_
                      refine z_iloadn zh dX9_tomorrow_137 rfl ?_
                      refine z_iloadn zh dX9_tomorrow_138 rfl ?_
                      refine z_iloadn zh dX9_tomorrow_139 rfl ?_
                      refine z_callVIp zh mv_Y_327 dX9_tomorrow_140 ck_Y rfl (c_y_atOf g (by omega) hjy hp3 hG) ⟨Nat.le_of_ble_eq_true rfl, Nat.le_of_ble_eq_true rfl⟩ rfl rfl (Nat.le_of_ble_eq_true rfl) ?_
                      refine z_istore zh dX9_tomorrow_143 (by decide) (L' := [some (rf g 551), some (.int (nI jx)), some (.int (nI jy)), some (.int w), some (.int (sel (w = nI 7) (-1) (nI 0))), none]) rfl ?_
                      refine z_iconst zh dX9_tomorrow_145 ki_0 ?_
                      refine z_istore zh dX9_tomorrow_146 (by decide) (L' := [some (rf g 551), some (.int (nI jx)), some (.int (nI jy)), some (.int w), some (.int (sel (w = nI 7) (-1) (nI 0))), some (.int (nI 0))]) rfl ?_
                      have hl148 : ∀ (n k148 : Nat) (iv : Iv) (lv : Lv), True → k148 ≤ 19782 → 19782 - k148 < n → Z 148 [some (rf g 551), some (.int (nI jx)), some (.int (nI jy)), some (.int w), some (.int (sel (w = nI 7) (-1) (nI 0))), some (.int (nI k148))] [] iv lv := by
                        intro n
                        induction n with
                        | zero => intro k148 iv lv _ _ hn; exact absurd hn (Nat.not_lt_zero _)
                        | succ n ih148 =>
                          intro k148 iv lv hG hk148 hn148
                          refine z_iload zh dX9_tomorrow_148 rfl ?_
                          refine z_sipush zh dX9_tomorrow_150 ks_19782 ?_
                          refine z_icmp_ge_N (tgt := 176) zh (by omega) (by decide) dX9_tomorrow_153 rfl (fun hb7 => ?_) (fun hb7 => ?_)
                          · refine z_iconst zh dX9_tomorrow_176 ki_0 ?_
                            refine z_istore zh dX9_tomorrow_177 (by decide) (L' := [some (rf g 551), some (.int (nI jx)), some (.int (nI jy)), some (.int w), some (.int (sel (w = nI 7) (-1) (nI 0))), some (.int (nI 0))]) rfl ?_
                            have hl179 : ∀ (n k179 : Nat) (iv : Iv) (lv : Lv), True → k179 ≤ 13 → 13 - k179 < n → Z 179 [some (rf g 551), some (.int (nI jx)), some (.int (nI jy)), some (.int w), some (.int (sel (w = nI 7) (-1) (nI 0))), some (.int (nI k179))] [] iv lv := by
                              intro n
                              induction n with
                              | zero => intro k179 iv lv _ _ hn; exact absurd hn (Nat.not_lt_zero _)
                              | succ n ih179 =>
                                intro k179 iv lv hG hk179 hn179
                                refine z_iload zh dX9_tomorrow_179 rfl ?_
                                refine z_bipush zh dX9_tomorrow_181 kb_13 ?_
                                refine z_icmp_ge_N (tgt := 206) zh (by omega) (by decide) dX9_tomorrow_183 rfl (fun hb8 => ?_) (fun hb8 => ?_)
                                · refine z_iload zh dX9_tomorrow_206 rfl ?_
                                  exact z_iret zh dX9_tomorrow_208 (⟨_, rfl, (by first | rfl | (simp (decide := true) only [sp_at, sp_hold, sel_t, sel_f, sel_same, eq_self, hp1, hp2, hp3, hb4, hb5, hb6, hb7, hb8]; done) | (have h9 := InN_10_9 hp3 (by assumption); simp (decide := true) only [sp_at, sp_hold, sel_t, sel_f, sel_same, eq_self, hp1, hp2, hp3, hb4, hb5, hb6, hb7, hb8, h9]; done) | (have h9 : ¬ w = nI 9 := fun e => hp3 ⟨9, by omega, e⟩; have h8 : ¬ InN 9 w := fun q => hp3 (by obtain ⟨j, hj, e⟩ := q; exact ⟨j, by omega, e⟩); simp (decide := true) only [sp_at, sp_hold, sel_t, sel_f, sel_same, hp1, hp2, h9, h8]))⟩)
                                · refine z_aloadnR zh dX9_tomorrow_186 rfl ?_
                                  refine z_getf zh fl_Y_16 dX9_tomorrow_187 ck_Y rfl rfl ?_
                                  refine z_iload zh dX9_tomorrow_190 rfl ?_
                                  refine z_aloadnR zh dX9_tomorrow_192 rfl ?_
                                  refine z_getf zh fl_Y_20 dX9_tomorrow_193 ck_Y rfl rfl ?_
                                  refine z_iload zh dX9_tomorrow_196 rfl ?_
                                  refine z_laldE (x := lv (555) (k179)) zh ck_coinsW dX9_tomorrow_198 (by omega) rfl ?_
                                  refine z_lastN zh ck_coins dX9_tomorrow_199 (by omega) ?_
                                  generalize upL lv (554) (k179) (lv (555) (k179)) = lv
                                  refine z_iincN zh dX9_tomorrow_200 ki_1 (by decide) rfl (L' := [some (rf g 551), some (.int (nI jx)), some (.int (nI jy)), some (.int w), some (.int (sel (w = nI 7) (-1) (nI 0))), some (.int (nI (k179 + 1)))]) rfl ?_
                                  refine z_goto (tgt := 179) zh dX9_tomorrow_203 rfl ?_
                                  exact ih179 (k179 + 1) iv lv trivial (by omega) (by omega)
                            exact hl179 14 0 _ _ trivial (by omega) (by omega)
                          · refine z_aloadnR zh dX9_tomorrow_156 rfl ?_
                            refine z_getf zh fl_Y_7 dX9_tomorrow_157 ck_Y rfl rfl ?_
                            refine z_iload zh dX9_tomorrow_160 rfl ?_
                            refine z_aloadnR zh dX9_tomorrow_162 rfl ?_
                            refine z_getf zh fl_Y_13 dX9_tomorrow_163 ck_Y rfl rfl ?_
                            refine z_iload zh dX9_tomorrow_166 rfl ?_
                            obtain ⟨xx, exx⟩ : ∃ z, iv (553) (k148) = z := ⟨_, rfl⟩
                            refine z_ialdE (x := xx) zh ck_waiting dX9_tomorrow_168 (by omega) exx ?_
                            refine z_iastN zh ck_now dX9_tomorrow_169 (by omega) ?_
                            generalize upI iv (552) (k148) (xx) = iv
                            refine z_iincN zh dX9_tomorrow_170 ki_1 (by decide) rfl (L' := [some (rf g 551), some (.int (nI jx)), some (.int (nI jy)), some (.int w), some (.int (sel (w = nI 7) (-1) (nI 0))), some (.int (nI (k148 + 1)))]) rfl ?_
                            refine z_goto (tgt := 148) zh dX9_tomorrow_173 rfl ?_
                            exact ih148 (k148 + 1) iv lv trivial (by omega) (by omega)
                      exact hl148 19783 0 _ _ trivial (by omega) (by omega)
                    · refine z_aloadnR zh dX9_tomorrow_119 rfl ?_
                      refine z_getf zh fl_Y_16 dX9_tomorrow_120 ck_Y rfl rfl ?_
                      refine z_iloadn zh dX9_tomorrow_123 rfl ?_
                      refine z_laldE (x := (0 : Int64)) zh ck_coins dX9_tomorrow_124 (by omega) (r1_coins hG) ?_
                      refine z_aloadnR zh dX9_tomorrow_125 rfl ?_
                      refine z_getf zh fl_Y_20 dX9_tomorrow_126 ck_Y rfl rfl ?_
                      refine z_iloadn zh dX9_tomorrow_129 rfl ?_
                      refine z_laldE (x := (0 : Int64)) zh ck_coinsW dX9_tomorrow_130 (by omega) (r1_coinsW hG) ?_
                      refine z_lsub zh dX9_tomorrow_131 ?_
                      rw [show (0 : Int64) - (0 : Int64) = (0 : Int64) from by decide]
                      refine z_l2i zh dX9_tomorrow_132 ?_
                      rw [show ((0 : Int64)).toInt32 = nI 0 from by decide]
                      refine z_goto (tgt := 143) zh dX9_tomorrow_133 rfl ?_
                      refine z_istore zh dX9_tomorrow_143 (by decide) (L' := [some (rf g 551), some (.int (nI jx)), some (.int (nI jy)), some (.int w), some (.int (nI 0)), none]) rfl ?_
                      refine z_iconst zh dX9_tomorrow_145 ki_0 ?_
                      refine z_istore zh dX9_tomorrow_146 (by decide) (L' := [some (rf g 551), some (.int (nI jx)), some (.int (nI jy)), some (.int w), some (.int (nI 0)), some (.int (nI 0))]) rfl ?_
                      have hl148 : ∀ (n k148 : Nat) (iv : Iv) (lv : Lv), True → k148 ≤ 19782 → 19782 - k148 < n → Z 148 [some (rf g 551), some (.int (nI jx)), some (.int (nI jy)), some (.int w), some (.int (nI 0)), some (.int (nI k148))] [] iv lv := by
                        intro n
                        induction n with
                        | zero => intro k148 iv lv _ _ hn; exact absurd hn (Nat.not_lt_zero _)
                        | succ n ih148 =>
                          intro k148 iv lv hG hk148 hn148
                          refine z_iload zh dX9_tomorrow_148 rfl ?_
                          refine z_sipush zh dX9_tomorrow_150 ks_19782 ?_
                          refine z_icmp_ge_N (tgt := 176) zh (by omega) (by decide) dX9_tomorrow_153 rfl (fun hb9 => ?_) (fun hb9 => ?_)
                          · refine z_iconst zh dX9_tomorrow_176 ki_0 ?_
                            refine z_istore zh dX9_tomorrow_177 (by decide) (L' := [some (rf g 551), some (.int (nI jx)), some (.int (nI jy)), some (.int w), some (.int (nI 0)), some (.int (nI 0))]) rfl ?_
                            have hl179 : ∀ (n k179 : Nat) (iv : Iv) (lv : Lv), True → k179 ≤ 13 → 13 - k179 < n → Z 179 [some (rf g 551), some (.int (nI jx)), some (.int (nI jy)), some (.int w), some (.int (nI 0)), some (.int (nI k179))] [] iv lv := by
                              intro n
                              induction n with
                              | zero => intro k179 iv lv _ _ hn; exact absurd hn (Nat.not_lt_zero _)
                              | succ n ih179 =>
                                intro k179 iv lv hG hk179 hn179
                                refine z_iload zh dX9_tomorrow_179 rfl ?_
                                refine z_bipush zh dX9_tomorrow_181 kb_13 ?_
                                refine z_icmp_ge_N (tgt := 206) zh (by omega) (by decide) dX9_tomorrow_183 rfl (fun hb10 => ?_) (fun hb10 => ?_)
                                · refine z_iload zh dX9_tomorrow_206 rfl ?_
                                  exact z_iret zh dX9_tomorrow_208 (⟨_, rfl, (by first | rfl | (simp (decide := true) only [sp_at, sp_hold, sel_t, sel_f, sel_same, eq_self, hp1, hp2, hp3, hb4, hb5, hb6, hb9, hb10]; done) | (have h9 := InN_10_9 hp3 (by assumption); simp (decide := true) only [sp_at, sp_hold, sel_t, sel_f, sel_same, eq_self, hp1, hp2, hp3, hb4, hb5, hb6, hb9, hb10, h9]; done) | (have h9 : ¬ w = nI 9 := fun e => hp3 ⟨9, by omega, e⟩; have h8 : ¬ InN 9 w := fun q => hp3 (by obtain ⟨j, hj, e⟩ := q; exact ⟨j, by omega, e⟩); simp (decide := true) only [sp_at, sp_hold, sel_t, sel_f, sel_same, hp1, hp2, h9, h8]))⟩)
                                · refine z_aloadnR zh dX9_tomorrow_186 rfl ?_
                                  refine z_getf zh fl_Y_16 dX9_tomorrow_187 ck_Y rfl rfl ?_
                                  refine z_iload zh dX9_tomorrow_190 rfl ?_
                                  refine z_aloadnR zh dX9_tomorrow_192 rfl ?_
                                  refine z_getf zh fl_Y_20 dX9_tomorrow_193 ck_Y rfl rfl ?_
                                  refine z_iload zh dX9_tomorrow_196 rfl ?_
                                  refine z_laldE (x := lv (555) (k179)) zh ck_coinsW dX9_tomorrow_198 (by omega) rfl ?_
                                  refine z_lastN zh ck_coins dX9_tomorrow_199 (by omega) ?_
                                  generalize upL lv (554) (k179) (lv (555) (k179)) = lv
                                  refine z_iincN zh dX9_tomorrow_200 ki_1 (by decide) rfl (L' := [some (rf g 551), some (.int (nI jx)), some (.int (nI jy)), some (.int w), some (.int (nI 0)), some (.int (nI (k179 + 1)))]) rfl ?_
                                  refine z_goto (tgt := 179) zh dX9_tomorrow_203 rfl ?_
                                  exact ih179 (k179 + 1) iv lv trivial (by omega) (by omega)
                            exact hl179 14 0 _ _ trivial (by omega) (by omega)
                          · refine z_aloadnR zh dX9_tomorrow_156 rfl ?_
                            refine z_getf zh fl_Y_7 dX9_tomorrow_157 ck_Y rfl rfl ?_
                            refine z_iload zh dX9_tomorrow_160 rfl ?_
                            refine z_aloadnR zh dX9_tomorrow_162 rfl ?_
                            refine z_getf zh fl_Y_13 dX9_tomorrow_163 ck_Y rfl rfl ?_
                            refine z_iload zh dX9_tomorrow_166 rfl ?_
                            obtain ⟨xx, exx⟩ : ∃ z, iv (553) (k148) = z := ⟨_, rfl⟩
                            refine z_ialdE (x := xx) zh ck_waiting dX9_tomorrow_168 (by omega) exx ?_
                            refine z_iastN zh ck_now dX9_tomorrow_169 (by omega) ?_
                            generalize upI iv (552) (k148) (xx) = iv
                            refine z_iincN zh dX9_tomorrow_170 ki_1 (by decide) rfl (L' := [some (rf g 551), some (.int (nI jx)), some (.int (nI jy)), some (.int w), some (.int (nI 0)), some (.int (nI (k148 + 1)))]) rfl ?_
                            refine z_goto (tgt := 148) zh dX9_tomorrow_173 rfl ?_
                            exact ih148 (k148 + 1) iv lv trivial (by omega) (by omega)
                      exact hl148 19783 0 _ _ trivial (by omega) (by omega)
                  · refine z_aloadnR zh dX9_tomorrow_89 rfl ?_
                    refine z_getf zh fl_Y_20 dX9_tomorrow_90 ck_Y rfl rfl ?_
                    refine z_iload zh dX9_tomorrow_93 rfl ?_
                    refine z_aloadnR zh dX9_tomorrow_95 rfl ?_
                    refine z_getf zh fl_Y_16 dX9_tomorrow_96 ck_Y rfl rfl ?_
                    refine z_iload zh dX9_tomorrow_99 rfl ?_
                    refine z_laldE (x := (0 : Int64)) zh ck_coins dX9_tomorrow_101 (by omega) (r1_coins hG) ?_
                    refine z_lastN zh ck_coinsW dX9_tomorrow_102 (by omega) ?_
                    have hG := okR_wL (k := 555) (j := k82) (x := (0 : Int64)) hG (w1_eqL rfl)
                    generalize upL lv (555) (k82) ((0 : Int64)) = lv at hG ⊢
                    refine z_iincN zh dX9_tomorrow_103 ki_1 (by decide) rfl (L' := [some (rf g 551), some (.int (nI jx)), some (.int (nI jy)), some (.int w), some (.int (nI (k82 + 1))), none]) rfl ?_
                    refine z_goto (tgt := 82) zh dX9_tomorrow_106 rfl ?_
                    exact ih82 (k82 + 1) iv lv hG (by omega) (by omega)
              exact hl82 14 0 iv lv hG (by omega) (by omega)
            · refine z_aloadnR zh dX9_tomorrow_59 rfl ?_
              refine z_getf zh fl_Y_13 dX9_tomorrow_60 ck_Y rfl rfl ?_
              refine z_iload zh dX9_tomorrow_63 rfl ?_
              refine z_aloadnR zh dX9_tomorrow_65 rfl ?_
              refine z_getf zh fl_Y_7 dX9_tomorrow_66 ck_Y rfl rfl ?_
              refine z_iload zh dX9_tomorrow_69 rfl ?_
              obtain ⟨xx, exx⟩ : ∃ z, iv (552) (k51) = z := ⟨_, rfl⟩
              refine z_ialdE (x := xx) zh ck_now dX9_tomorrow_71 (by omega) exx ?_
              refine z_iastN zh ck_waiting dX9_tomorrow_72 (by omega) ?_
              have hG := okR_wI (k := 553) (j := k51) (x := xx) hG (w1_no rfl)
              generalize upI iv (553) (k51) (xx) = iv at hG ⊢
              refine z_iincN zh dX9_tomorrow_73 ki_1 (by decide) rfl (L' := [some (rf g 551), some (.int (nI jx)), some (.int (nI jy)), some (.int w), some (.int (nI (k51 + 1))), none]) rfl ?_
              refine z_goto (tgt := 51) zh dX9_tomorrow_76 rfl ?_
              exact ih51 (k51 + 1) iv lv hG (by omega) (by omega)
        exact hl51 19783 0 iv lv hG (by omega) (by omega)
theorem c_Y_set (g : GE) {x v : Int32} {iv : Iv} {lv : Lv} {dd : Nat → Nat} {dm : Nat} (hG : OkR dd dm iv lv) : ConI g yX9_set cX9_set 3 (some .boolean) 3 [rf g 551, .int x, .int v] iv lv (fun r _ _ => r = sp_set x v) := by
  by_cases hx : InN 7 x
  · obtain ⟨j, hj, rfl⟩ := hx
    have b4 : bi (InN 4 v) = bi (Rg (nI 0) (nI 3) v) := bi_iff (InN_le (by decide))
    have b6 : bi (InN 6 v) = bi (Rg (nI 0) (nI 5) v) := bi_iff (InN_le (by decide))
    have b1 : bi (InN 101 v) = bi (Rg (nI 0) (nI 100) v) := bi_iff (InN_le (by decide))
    rcases (by omega : j = 0 ∨ j = 1 ∨ j = 2 ∨ j = 3 ∨ j = 4 ∨ j = 5 ∨ j = 6) with rfl | rfl | rfl | rfl | rfl | rfl | rfl
    · rw [show sp_set (nI 0) v = bi (Rg (nI 2) (nI 12) v) from by simp (decide := true) only [sp_set, sel_t]]; exact c_y_set0 g hG
    · rw [show sp_set (nI 1) v = bi (Rg (nI 0) (nI 3) v) from by simp (decide := true) only [sp_set, sel_t, sel_f, b4]]; exact c_y_set1 g hG
    · rw [show sp_set (nI 2) v = bi (Rg (nI 1) (nI 9) v) from by simp (decide := true) only [sp_set, sel_t, sel_f]]; exact c_y_set2 g hG
    · rw [show sp_set (nI 3) v = bi (Rg (nI 1) (nI 9) v) from by simp (decide := true) only [sp_set, sel_t, sel_f]]; exact c_y_set3 g hG
    · rw [show sp_set (nI 4) v = bi (Rg (nI 0) (nI 5) v) from by simp (decide := true) only [sp_set, sel_t, sel_f, b6]]; exact c_y_set4 g hG
    · rw [show sp_set (nI 5) v = bi (Rg (nI 0) (nI 100) v) from by simp (decide := true) only [sp_set, sel_t, sel_f, b1]]; exact c_y_set5 g hG
    · rw [show sp_set (nI 6) v = bi (Rg (nI 0) (nI 100) v) from by simp (decide := true) only [sp_set, sel_t, sel_f, b1]]; exact c_y_set6 g hG
  · rw [show sp_set x v = nI 0 from by simp only [sp_set, sel_f (InN_no hx (j := 0) (by omega)), sel_f (InN_no hx (j := 1) (by omega)), sel_f (InN_no hx (j := 2) (by omega)), sel_f (InN_no hx (j := 3) (by omega)), sel_f (InN_no hx (j := 4) (by omega)), sel_f (InN_no hx (j := 5) (by omega)), sel_f (InN_no hx (j := 6) (by omega))]]; exact c_y_setno g hx hG
