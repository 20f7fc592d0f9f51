set_option maxRecDepth 20000 in
theorem c_y_atOf (g : GE) {k i : Nat} {w : Int32} {iv : Iv} {lv : Lv} {dd : Nat → Nat} {dm : Nat} (hk : k < 12) (hi : i < 6) (hw : InN 10 w) (hG : OkR dd dm iv lv) : ConIp g yX9_atOf cX9_atOf 4 (some .int) 5 [rf g 551, .int (nI k), .int (nI i), .int w] iv lv (sel (w = nI 7) (-1) (nI 0)) := by
  refine con_intro (own := "RollingNetsModel") (by decide +kernel) rfl (Nat.le_of_ble_eq_true rfl) (L0 := [some (rf g 551), some (.int (nI k)), some (.int (nI i)), some (.int w)]) rfl (fun Z zh => ?_)
  refine z_iloadn zh dX9_atOf_0 rfl ?_
  refine z_if_ne (tgt := 11) zh dX9_atOf_1 rfl (fun hb1 => ?_) (fun hb1 => ?_)
  · refine z_iloadn zh dX9_atOf_11 rfl ?_
    refine z_iconst zh dX9_atOf_12 ki_1 ?_
    refine z_icmp_ne (tgt := 23) zh dX9_atOf_13 rfl (fun hb2 => ?_) (fun hb2 => ?_)
    · refine z_iloadn zh dX9_atOf_23 rfl ?_
      refine z_iconst zh dX9_atOf_24 ki_2 ?_
      refine z_icmp_ne (tgt := 35) zh dX9_atOf_25 rfl (fun hb3 => ?_) (fun hb3 => ?_)
      · refine z_iloadn zh dX9_atOf_35 rfl ?_
        refine z_iconst zh dX9_atOf_36 ki_3 ?_
        refine z_icmp_ne (tgt := 56) zh dX9_atOf_37 rfl (fun hb4 => ?_) (fun hb4 => ?_)
        · refine z_iloadn zh dX9_atOf_56 rfl ?_
          refine z_iconst zh dX9_atOf_57 ki_4 ?_
          refine z_icmp_ne (tgt := 77) zh dX9_atOf_58 rfl (fun hb5 => ?_) (fun hb5 => ?_)
          · refine z_iloadn zh dX9_atOf_77 rfl ?_
            refine z_iconst zh dX9_atOf_78 ki_5 ?_
            refine z_icmp_ne (tgt := 98) zh dX9_atOf_79 rfl (fun hb6 => ?_) (fun hb6 => ?_)
            · refine z_iloadn zh dX9_atOf_98 rfl ?_
              refine z_bipush zh dX9_atOf_99 kb_6 ?_
              refine z_icmp_ne (tgt := 111) zh dX9_atOf_101 rfl (fun hb7 => ?_) (fun hb7 => ?_)
              · refine z_iloadn zh dX9_atOf_111 rfl ?_
                refine z_bipush zh dX9_atOf_112 kb_7 ?_
                refine z_icmp_ne (tgt := 138) zh dX9_atOf_114 rfl (fun hb8 => ?_) (fun hb8 => ?_)
                · refine z_iloadn zh dX9_atOf_138 rfl ?_
                  refine z_bipush zh dX9_atOf_139 kb_8 ?_
                  refine z_icmp_ne (tgt := 153) zh dX9_atOf_141 rfl (fun hb9 => ?_) (fun hb9 => ?_)
                  · refine z_aloadnR zh dX9_atOf_153 rfl ?_
                    refine z_getf zh fl_Y_7 dX9_atOf_154 ck_Y rfl rfl ?_
                    refine z_sipush zh dX9_atOf_157 ks_19710 ?_
                    refine z_aloadnR zh dX9_atOf_160 rfl ?_
                    refine z_iloadn zh dX9_atOf_161 rfl ?_
                    refine z_iloadn zh dX9_atOf_162 rfl ?_
                    refine z_callVIp zh mv_Y_65 dX9_atOf_163 ck_Y rfl (c_y_cellOf g) ⟨Nat.le_of_ble_eq_true rfl, Nat.le_of_ble_eq_true rfl⟩ rfl rfl (Nat.le_of_ble_eq_true rfl) ?_
                    refine z_iaddN zh dX9_atOf_166 ?_
                    refine z_ialdE (x := nI 0) zh ck_now dX9_atOf_167 (by omega) (r1_now hG (by omega)) ?_
                    exact z_iret zh dX9_atOf_168 (qI (by first | rfl | (simp (decide := true) only [sel_t, sel_f, sel_same, eq_self, hb1, hb2, hb3, hb4, hb5, hb6, hb7, hb8, hb9]; done)))
                  · refine z_aloadnR zh dX9_atOf_144 rfl ?_
                    refine z_iloadn zh dX9_atOf_145 rfl ?_
                    refine z_iloadn zh dX9_atOf_146 rfl ?_
                    refine z_callVIp zh mv_Y_262 dX9_atOf_147 ck_Y rfl (c_y_canLend g hk hi hG) ⟨Nat.le_of_ble_eq_true rfl, Nat.le_of_ble_eq_true rfl⟩ rfl rfl (Nat.le_of_ble_eq_true rfl) ?_
                    refine z_goto (tgt := 168) zh dX9_atOf_150 rfl ?_
                    exact z_iret zh dX9_atOf_168 (qI (by first | rfl | (simp (decide := true) only [sel_t, sel_f, sel_same, eq_self, hb1, hb2, hb3, hb4, hb5, hb6, hb7, hb8, hb9]; done)))
                · refine z_aloadnR zh dX9_atOf_117 rfl ?_
                  refine z_iloadn zh dX9_atOf_118 rfl ?_
                  refine z_iloadn zh dX9_atOf_119 rfl ?_
                  refine z_callVIp zh mv_Y_110 dX9_atOf_120 ck_Y rfl (c_y_lotMany g hk hi hG) ⟨Nat.le_of_ble_eq_true rfl, Nat.le_of_ble_eq_true rfl⟩ rfl rfl (Nat.le_of_ble_eq_true rfl) ?_
                  refine z_if_ne_N (tgt := 130) zh (by decide) dX9_atOf_123 rfl (fun q => absurd q (by decide)) (fun _ => ?_)
                  refine z_iconst zh dX9_atOf_126 ki_m1 ?_
                  refine z_goto (tgt := 137) zh dX9_atOf_127 rfl ?_
                  exact z_iret zh dX9_atOf_137 (qI (by first | rfl | (simp (decide := true) only [sel_t, sel_f, sel_same, eq_self, hb1, hb2, hb3, hb4, hb5, hb6, hb7, hb8]; done)))
              · refine z_aloadnR zh dX9_atOf_104 rfl ?_
                refine z_iloadn zh dX9_atOf_105 rfl ?_
                refine z_iloadn zh dX9_atOf_106 rfl ?_
                refine z_callVIp zh mv_Y_110 dX9_atOf_107 ck_Y rfl (c_y_lotMany g hk hi hG) ⟨Nat.le_of_ble_eq_true rfl, Nat.le_of_ble_eq_true rfl⟩ rfl rfl (Nat.le_of_ble_eq_true rfl) ?_
                exact z_iret zh dX9_atOf_110 (qI (by first | rfl | (simp (decide := true) only [sel_t, sel_f, sel_same, eq_self, hb1, hb2, hb3, hb4, hb5, hb6, hb7]; done)))
            · refine z_aloadnR zh dX9_atOf_82 rfl ?_
              refine z_getf zh fl_Y_7 dX9_atOf_83 ck_Y rfl rfl ?_
              refine z_sipush zh dX9_atOf_86 ks_276 ?_
              refine z_aloadnR zh dX9_atOf_89 rfl ?_
              refine z_iloadn zh dX9_atOf_90 rfl ?_
              refine z_iloadn zh dX9_atOf_91 rfl ?_
              refine z_callVIp zh mv_Y_65 dX9_atOf_92 ck_Y rfl (c_y_cellOf g) ⟨Nat.le_of_ble_eq_true rfl, Nat.le_of_ble_eq_true rfl⟩ rfl rfl (Nat.le_of_ble_eq_true rfl) ?_
              refine z_iaddN zh dX9_atOf_95 ?_
              refine z_ialdE (x := nI 0) zh ck_now dX9_atOf_96 (by omega) (r1_now hG (by omega)) ?_
              exact z_iret zh dX9_atOf_97 (qI (by first | rfl | (simp (decide := true) only [sel_t, sel_f, sel_same, eq_self, hb1, hb2, hb3, hb4, hb5, hb6]; done)))
          · refine z_aloadnR zh dX9_atOf_61 rfl ?_
            refine z_getf zh fl_Y_7 dX9_atOf_62 ck_Y rfl rfl ?_
            refine z_sipush zh dX9_atOf_65 ks_204 ?_
            refine z_aloadnR zh dX9_atOf_68 rfl ?_
            refine z_iloadn zh dX9_atOf_69 rfl ?_
            refine z_iloadn zh dX9_atOf_70 rfl ?_
            refine z_callVIp zh mv_Y_65 dX9_atOf_71 ck_Y rfl (c_y_cellOf g) ⟨Nat.le_of_ble_eq_true rfl, Nat.le_of_ble_eq_true rfl⟩ rfl rfl (Nat.le_of_ble_eq_true rfl) ?_
            refine z_iaddN zh dX9_atOf_74 ?_
            refine z_ialdE (x := nI 0) zh ck_now dX9_atOf_75 (by omega) (r1_now hG (by omega)) ?_
            exact z_iret zh dX9_atOf_76 (qI (by first | rfl | (simp (decide := true) only [sel_t, sel_f, sel_same, eq_self, hb1, hb2, hb3, hb4, hb5]; done)))
        · refine z_aloadnR zh dX9_atOf_40 rfl ?_
          refine z_getf zh fl_Y_7 dX9_atOf_41 ck_Y rfl rfl ?_
          refine z_sipush zh dX9_atOf_44 ks_132 ?_
          refine z_aloadnR zh dX9_atOf_47 rfl ?_
          refine z_iloadn zh dX9_atOf_48 rfl ?_
          refine z_iloadn zh dX9_atOf_49 rfl ?_
          refine z_callVIp zh mv_Y_65 dX9_atOf_50 ck_Y rfl (c_y_cellOf g) ⟨Nat.le_of_ble_eq_true rfl, Nat.le_of_ble_eq_true rfl⟩ rfl rfl (Nat.le_of_ble_eq_true rfl) ?_
          refine z_iaddN zh dX9_atOf_53 ?_
          refine z_ialdE (x := nI 0) zh ck_now dX9_atOf_54 (by omega) (r1_now hG (by omega)) ?_
          exact z_iret zh dX9_atOf_55 (qI (by first | rfl | (simp (decide := true) only [sel_t, sel_f, sel_same, eq_self, hb1, hb2, hb3, hb4]; done)))
      · refine z_aloadnR zh dX9_atOf_28 rfl ?_
        refine z_iloadn zh dX9_atOf_29 rfl ?_
        refine z_iloadn zh dX9_atOf_30 rfl ?_
        refine z_callVIp zh mv_Y_98 dX9_atOf_31 ck_Y rfl (c_y_freeOf g hk hi hG) ⟨Nat.le_of_ble_eq_true rfl, Nat.le_of_ble_eq_true rfl⟩ rfl rfl (Nat.le_of_ble_eq_true rfl) ?_
        exact z_iret zh dX9_atOf_34 (qI (by first | rfl | (simp (decide := true) only [sel_t, sel_f, sel_same, eq_self, hb1, hb2, hb3]; done)))
    · refine z_aloadnR zh dX9_atOf_16 rfl ?_
      refine z_iloadn zh dX9_atOf_17 rfl ?_
      refine z_iloadn zh dX9_atOf_18 rfl ?_
      refine z_callVIp zh mv_Y_73 dX9_atOf_19 ck_Y rfl (c_y_stockOf g hk hi hG) ⟨Nat.le_of_ble_eq_true rfl, Nat.le_of_ble_eq_true rfl⟩ rfl rfl (Nat.le_of_ble_eq_true rfl) ?_
      exact z_iret zh dX9_atOf_22 (qI (by first | rfl | (simp (decide := true) only [sel_t, sel_f, sel_same, eq_self, hb1, hb2]; done)))
  · refine z_aloadnR zh dX9_atOf_4 rfl ?_
    refine z_iloadn zh dX9_atOf_5 rfl ?_
    refine z_iloadn zh dX9_atOf_6 rfl ?_
    refine z_callVIp zh mv_Y_119 dX9_atOf_7 ck_Y rfl (c_y_positionOf g hk hi hG) ⟨Nat.le_of_ble_eq_true rfl, Nat.le_of_ble_eq_true rfl⟩ rfl rfl (Nat.le_of_ble_eq_true rfl) ?_
    exact z_iret zh dX9_atOf_10 (qI (by first | rfl | (simp (decide := true) only [sel_t, sel_f, sel_same, eq_self, hb1]; done)))
set_option maxRecDepth 20000 in
theorem c_Y_at (g : GE) {x y w : Int32} {iv : Iv} {lv : Lv} {dd : Nat → Nat} {dm : Nat}  (hG : OkR dd dm iv lv) : ConI g yX9_at cX9_at 4 (some .int) 6 [rf g 551, .int x, .int y, .int w] iv lv (fun r _ _ => r = sp_at x y w) := by
  refine con_intro (own := "RollingNetsModel") (by decide +kernel) rfl (Nat.le_of_ble_eq_true rfl) (L0 := [some (rf g 551), some (.int x), some (.int y), some (.int w)]) rfl (fun Z zh => ?_)
  refine z_aloadnR zh dX9_at_0 rfl ?_
  refine z_iconst zh dX9_at_1 ki_0 ?_
  refine z_putI zh fl_Y_58 dX9_at_2 ck_Y rfl rfl (Nat.le_of_ble_eq_true rfl) (Or.inl rfl) ?_
  have hG := okR_wI (k := 551) (j := 0) (x := nI 0) hG (w1_no rfl)
  generalize upI iv (551) (0) (nI 0) = iv at hG ⊢
  refine z_aloadnR zh dX9_at_5 rfl ?_
  refine z_iloadn zh dX9_at_6 rfl ?_
  refine z_callVIp zh mv_Y_90 dX9_at_7 ck_Y rfl (c_y_isMember g  hG) ⟨Nat.le_of_ble_eq_true rfl, Nat.le_of_ble_eq_true rfl⟩ rfl rfl (Nat.le_of_ble_eq_true rfl) ?_
  refine z_if_eq_B (tgt := 42) zh dX9_at_10 rfl (fun hp1 => ?_) (fun hp1 => ?_)
  · refine z_ldcw zh dX9_at_42 kc_Y_330 ?_
    exact z_iret zh dX9_at_45 (⟨_, rfl, (by first | rfl | (simp (decide := true) only [sp_at, sel_t, sel_f, sel_same, eq_self, hp1]; done) | (obtain ⟨jw, hjw, rfl⟩ := hp3; rcases (by omega : jw = 0 ∨ jw = 1 ∨ jw = 2 ∨ jw = 3 ∨ jw = 4 ∨ jw = 5 ∨ jw = 6 ∨ jw = 7 ∨ jw = 8 ∨ jw = 9) with rfl | rfl | rfl | rfl | rfl | rfl | rfl | rfl | rfl | rfl <;> simp (decide := true) only [sp_at, sp_hold, sel_t, sel_f, sel_same, hp1, hp2, InN_nI]) | (have h9 : ¬ w = nI 9 := fun e => hp3 ⟨9, by omega, e⟩; have h8 : ¬ InN 9 w := fun q => hp3 (by obtain ⟨j, hj, e⟩ := q; exact ⟨j, by omega, e⟩); simp (decide := true) only [sp_at, sp_hold, sel_t, sel_f, sel_same, hp1, hp2, h9, h8]))⟩)
  · obtain ⟨jx, hjx, rfl⟩ := id hp1
    refine z_aloadnR zh dX9_at_13 rfl ?_
    refine z_iloadn zh dX9_at_14 rfl ?_
    refine z_callVIp zh mv_Y_94 dX9_at_15 ck_Y rfl (c_y_isIssue g) ⟨Nat.le_of_ble_eq_true rfl, Nat.le_of_ble_eq_true rfl⟩ rfl rfl (Nat.le_of_ble_eq_true rfl) ?_
    refine z_if_eq_B (tgt := 42) zh dX9_at_18 rfl (fun hp2 => ?_) (fun hp2 => ?_)
    · refine z_ldcw zh dX9_at_42 kc_Y_330 ?_
      exact z_iret zh dX9_at_45 (⟨_, rfl, (by first | rfl | (simp (decide := true) only [sp_at, sel_t, sel_f, sel_same, eq_self, hp1, hp2]; done) | (obtain ⟨jw, hjw, rfl⟩ := hp3; rcases (by omega : jw = 0 ∨ jw = 1 ∨ jw = 2 ∨ jw = 3 ∨ jw = 4 ∨ jw = 5 ∨ jw = 6 ∨ jw = 7 ∨ jw = 8 ∨ jw = 9) with rfl | rfl | rfl | rfl | rfl | rfl | rfl | rfl | rfl | rfl <;> simp (decide := true) only [sp_at, sp_hold, sel_t, sel_f, sel_same, hp1, hp2, InN_nI]) | (have h9 : ¬ w = nI 9 := fun e => hp3 ⟨9, by omega, e⟩; have h8 : ¬ InN 9 w := fun q => hp3 (by obtain ⟨j, hj, e⟩ := q; exact ⟨j, by omega, e⟩); simp (decide := true) only [sp_at, sp_hold, sel_t, sel_f, sel_same, hp1, hp2, h9, h8]))⟩)
    · obtain ⟨jy, hjy, rfl⟩ := id hp2
      refine z_aloadnR zh dX9_at_21 rfl ?_
      refine z_iloadn zh dX9_at_22 rfl ?_
      refine z_iconst zh dX9_at_23 ki_0 ?_
      refine z_bipush zh dX9_at_24 kb_9 ?_
      refine z_callVIp zh mv_Y_79 dX9_at_26 ck_Y rfl (c_y_isIn0 g) ⟨Nat.le_of_ble_eq_true rfl, Nat.le_of_ble_eq_true rfl⟩ rfl rfl (Nat.le_of_ble_eq_true rfl) ?_
      refine z_if_eq_B (tgt := 42) zh dX9_at_29 rfl (fun hp3 => ?_) (fun hp3 => ?_)
      · refine z_ldcw zh dX9_at_42 kc_Y_330 ?_
        exact z_iret zh dX9_at_45 (⟨_, rfl, (by first | rfl | (simp (decide := true) only [sp_at, sel_t, sel_f, sel_same, eq_self, hp1, hp2, hp3]; done) | (obtain ⟨jw, hjw, rfl⟩ := hp3; rcases (by omega : jw = 0 ∨ jw = 1 ∨ jw = 2 ∨ jw = 3 ∨ jw = 4 ∨ jw = 5 ∨ jw = 6 ∨ jw = 7 ∨ jw = 8 ∨ jw = 9) with rfl | rfl | rfl | rfl | rfl | rfl | rfl | rfl | rfl | rfl <;> simp (decide := true) only [sp_at, sp_hold, sel_t, sel_f, sel_same, hp1, hp2, InN_nI]) | (have h9 : ¬ w = nI 9 := fun e => hp3 ⟨9, by omega, e⟩; have h8 : ¬ InN 9 w := fun q => hp3 (by obtain ⟨j, hj, e⟩ := q; exact ⟨j, by omega, e⟩); simp (decide := true) only [sp_at, sp_hold, sel_t, sel_f, sel_same, hp1, hp2, h9, h8]))⟩)
      · refine z_aloadnR zh dX9_at_32 rfl ?_
        refine z_iloadn zh dX9_at_33 rfl ?_
        refine z_iloadn zh dX9_at_34 rfl ?_
        refine z_iloadn zh dX9_at_35 rfl ?_
        refine z_callVIp zh mv_Y_327 dX9_at_36 ck_Y rfl (c_y_atOf g (by omega) hjy hp3 hG) ⟨Nat.le_of_ble_eq_true rfl, Nat.le_of_ble_eq_true rfl⟩ rfl rfl (Nat.le_of_ble_eq_true rfl) ?_
        refine z_goto (tgt := 45) zh dX9_at_39 rfl ?_
        exact z_iret zh dX9_at_45 (⟨_, rfl, (by first | rfl | (simp (decide := true) only [sp_at, sel_t, sel_f, sel_same, eq_self, hp1, hp2, hp3]; done) | (obtain ⟨jw, hjw, rfl⟩ := hp3; rcases (by omega : jw = 0 ∨ jw = 1 ∨ jw = 2 ∨ jw = 3 ∨ jw = 4 ∨ jw = 5 ∨ jw = 6 ∨ jw = 7 ∨ jw = 8 ∨ jw = 9) with rfl | rfl | rfl | rfl | rfl | rfl | rfl | rfl | rfl | rfl <;> simp (decide := true) only [sp_at, sp_hold, sel_t, sel_f, sel_same, hp1, hp2, InN_nI]) | (have h9 : ¬ w = nI 9 := fun e => hp3 ⟨9, by omega, e⟩; have h8 : ¬ InN 9 w := fun q => hp3 (by obtain ⟨j, hj, e⟩ := q; exact ⟨j, by omega, e⟩); simp (decide := true) only [sp_at, sp_hold, sel_t, sel_f, sel_same, hp1, hp2, h9, h8]))⟩)
set_option maxRecDepth 20000 in
theorem c_Y_lot (g : GE) {x y i w : Int32} {iv : Iv} {lv : Lv} {dd : Nat → Nat} {dm : Nat}  (hG : OkR dd dm iv lv) : ConI g yX9_lot cX9_lot 5 (some .int) 3 [rf g 551, .int x, .int y, .int i, .int w] iv lv (fun r _ _ => r = (-1)) := by
  refine con_intro (own := "RollingNetsModel") (by decide +kernel) rfl (Nat.le_of_ble_eq_true rfl) (L0 := [some (rf g 551), some (.int x), some (.int y), some (.int i), some (.int w)]) rfl (fun Z zh => ?_)
  refine z_aloadnR zh dX9_lot_0 rfl ?_
  refine z_iconst zh dX9_lot_1 ki_0 ?_
  refine z_putI zh fl_Y_58 dX9_lot_2 ck_Y rfl rfl (Nat.le_of_ble_eq_true rfl) (Or.inl rfl) ?_
  have hG := okR_wI (k := 551) (j := 0) (x := nI 0) hG (w1_no rfl)
  generalize upI iv (551) (0) (nI 0) = iv at hG ⊢
  refine z_aloadnR zh dX9_lot_5 rfl ?_
  refine z_iloadn zh dX9_lot_6 rfl ?_
  refine z_callVIp zh mv_Y_90 dX9_lot_7 ck_Y rfl (c_y_isMember g  hG) ⟨Nat.le_of_ble_eq_true rfl, Nat.le_of_ble_eq_true rfl⟩ rfl rfl (Nat.le_of_ble_eq_true rfl) ?_
  refine z_if_eq_B (tgt := 49) zh dX9_lot_10 rfl (fun hp1 => ?_) (fun hp1 => ?_)
  · refine z_iconst zh dX9_lot_49 ki_m1 ?_
    exact z_iret zh dX9_lot_50 (⟨_, rfl, rfl⟩)
  · obtain ⟨jx, hjx, rfl⟩ := id hp1
    refine z_aloadnR zh dX9_lot_13 rfl ?_
    refine z_iloadn zh dX9_lot_14 rfl ?_
    refine z_callVIp zh mv_Y_94 dX9_lot_15 ck_Y rfl (c_y_isIssue g) ⟨Nat.le_of_ble_eq_true rfl, Nat.le_of_ble_eq_true rfl⟩ rfl rfl (Nat.le_of_ble_eq_true rfl) ?_
    refine z_if_eq_B (tgt := 49) zh dX9_lot_18 rfl (fun hp2 => ?_) (fun hp2 => ?_)
    · refine z_iconst zh dX9_lot_49 ki_m1 ?_
      exact z_iret zh dX9_lot_50 (⟨_, rfl, rfl⟩)
    · obtain ⟨jy, hjy, rfl⟩ := id hp2
      refine z_aloadnR zh dX9_lot_21 rfl ?_
      refine z_iloadn zh dX9_lot_22 rfl ?_
      refine z_iconst zh dX9_lot_23 ki_0 ?_
      refine z_aloadnR zh dX9_lot_24 rfl ?_
      refine z_iloadn zh dX9_lot_25 rfl ?_
      refine z_iloadn zh dX9_lot_26 rfl ?_
      refine z_callVIp zh mv_Y_110 dX9_lot_27 ck_Y rfl (c_y_lotMany g (by omega) hjy hG) ⟨Nat.le_of_ble_eq_true rfl, Nat.le_of_ble_eq_true rfl⟩ rfl rfl (Nat.le_of_ble_eq_true rfl) ?_
      refine z_iconst zh dX9_lot_30 ki_1 ?_
      refine z_isub zh dX9_lot_31 ?_
      rw [show (nI 0) - (nI 1) = (-1) from by decide]
      refine z_callVIp zh mv_Y_79 dX9_lot_32 ck_Y rfl (c_y_isInE g) ⟨Nat.le_of_ble_eq_true rfl, Nat.le_of_ble_eq_true rfl⟩ rfl rfl (Nat.le_of_ble_eq_true rfl) ?_
      refine z_if_eq_N (tgt := 49) zh (by decide) dX9_lot_35 rfl (fun _ => ?_) (fun q => absurd q (by decide))
      refine z_iconst zh dX9_lot_49 ki_m1 ?_
      exact z_iret zh dX9_lot_50 (⟨_, rfl, rfl⟩)
set_option maxRecDepth 20000 in
theorem c_Y_cash (g : GE) {x : Int32} {iv : Iv} {lv : Lv} {dd : Nat → Nat} {dm : Nat}  (hG : OkR dd dm iv lv) : ConL g yX9_cash cX9_cash 2 (some .long) 3 [rf g 551, .int x] iv lv (fun r _ _ => r = (0 : Int64)) := by
  refine con_intro (own := "RollingNetsModel") (by decide +kernel) rfl (Nat.le_of_ble_eq_true rfl) (L0 := [some (rf g 551), some (.int x)]) rfl (fun Z zh => ?_)
  refine z_aloadnR zh dX9_cash_0 rfl ?_
  refine z_iconst zh dX9_cash_1 ki_0 ?_
  refine z_putI zh fl_Y_58 dX9_cash_2 ck_Y rfl rfl (Nat.le_of_ble_eq_true rfl) (Or.inl rfl) ?_
  have hG := okR_wI (k := 551) (j := 0) (x := nI 0) hG (w1_no rfl)
  generalize upI iv (551) (0) (nI 0) = iv at hG ⊢
  refine z_aloadnR zh dX9_cash_5 rfl ?_
  refine z_iloadn zh dX9_cash_6 rfl ?_
  refine z_callVIp zh mv_Y_90 dX9_cash_7 ck_Y rfl (c_y_isMember g  hG) ⟨Nat.le_of_ble_eq_true rfl, Nat.le_of_ble_eq_true rfl⟩ rfl rfl (Nat.le_of_ble_eq_true rfl) ?_
  refine z_if_eq_B (tgt := 22) zh dX9_cash_10 rfl (fun hp1 => ?_) (fun hp1 => ?_)
  · refine z_lconst (v := 0) zh dX9_cash_22 (by decide) ?_
    exact z_lret zh dX9_cash_23 (⟨_, rfl, rfl⟩)
  · obtain ⟨jx, hjx, rfl⟩ := id hp1
    refine z_aloadnR zh dX9_cash_13 rfl ?_
    refine z_getf zh fl_Y_16 dX9_cash_14 ck_Y rfl rfl ?_
    refine z_iloadn zh dX9_cash_17 rfl ?_
    refine z_laldE (x := (0 : Int64)) zh ck_coins dX9_cash_18 (by omega) (r1_coins hG) ?_
    refine z_goto (tgt := 23) zh dX9_cash_19 rfl ?_
    exact z_lret zh dX9_cash_23 (⟨_, rfl, rfl⟩)
set_option maxRecDepth 20000 in
theorem c_Y_deal (g : GE) {x w : Int32} {iv : Iv} {lv : Lv} {dd : Nat → Nat} {dm : Nat}  (hG : OkR dd dm iv lv) : ConI g yX9_deal cX9_deal 3 (some .int) 2 [rf g 551, .int x, .int w] iv lv (fun r _ _ => r = (-1)) := by
  refine con_intro (own := "RollingNetsModel") (by decide +kernel) rfl (Nat.le_of_ble_eq_true rfl) (L0 := [some (rf g 551), some (.int x), some (.int w)]) rfl (fun Z zh => ?_)
  refine z_aloadnR zh dX9_deal_0 rfl ?_
  refine z_iconst zh dX9_deal_1 ki_0 ?_
  refine z_putI zh fl_Y_58 dX9_deal_2 ck_Y rfl rfl (Nat.le_of_ble_eq_true rfl) (Or.inl rfl) ?_
  have hG := okR_wI (k := 551) (j := 0) (x := nI 0) hG (w1_no rfl)
  generalize upI iv (551) (0) (nI 0) = iv at hG ⊢
  refine z_aloadnR zh dX9_deal_5 rfl ?_
  refine z_iloadn zh dX9_deal_6 rfl ?_
  refine z_callVIp zh mv_Y_188 dX9_deal_7 ck_Y rfl (c_y_isTrade g  hG) ⟨Nat.le_of_ble_eq_true rfl, Nat.le_of_ble_eq_true rfl⟩ rfl rfl (Nat.le_of_ble_eq_true rfl) ?_
  refine z_if_eq_N (tgt := 33) zh (by decide) dX9_deal_10 rfl (fun _ => ?_) (fun q => absurd q (by decide))
  refine z_iconst zh dX9_deal_33 ki_m1 ?_
  exact z_iret zh dX9_deal_34 (⟨_, rfl, rfl⟩)
set_option maxRecDepth 20000 in
theorem c_Y_notice (g : GE) {x w : Int32} {iv : Iv} {lv : Lv} {dd : Nat → Nat} {dm : Nat}  (hG : OkR dd dm iv lv) : ConI g yX9_notice cX9_notice 3 (some .int) 2 [rf g 551, .int x, .int w] iv lv (fun r _ _ => r = (-1)) := by
  refine con_intro (own := "RollingNetsModel") (by decide +kernel) rfl (Nat.le_of_ble_eq_true rfl) (L0 := [some (rf g 551), some (.int x), some (.int w)]) rfl (fun Z zh => ?_)
  refine z_aloadnR zh dX9_notice_0 rfl ?_
  refine z_iconst zh dX9_notice_1 ki_0 ?_
  refine z_putI zh fl_Y_58 dX9_notice_2 ck_Y rfl rfl (Nat.le_of_ble_eq_true rfl) (Or.inl rfl) ?_
  have hG := okR_wI (k := 551) (j := 0) (x := nI 0) hG (w1_no rfl)
  generalize upI iv (551) (0) (nI 0) = iv at hG ⊢
  refine z_aloadnR zh dX9_notice_5 rfl ?_
  refine z_iloadn zh dX9_notice_6 rfl ?_
  refine z_iconst zh dX9_notice_7 ki_0 ?_
  refine z_aloadnR zh dX9_notice_8 rfl ?_
  refine z_getf zh fl_Y_7 dX9_notice_9 ck_Y rfl rfl ?_
  refine z_bipush zh dX9_notice_12 kb_8 ?_
  refine z_ialdE (x := nI 0) zh ck_now dX9_notice_14 (by decide) (r1_now hG (by decide)) ?_
  refine z_iconst zh dX9_notice_15 ki_1 ?_
  refine z_isub zh dX9_notice_16 ?_
  rw [show (nI 0) - (nI 1) = (-1) from by decide]
  refine z_callVIp zh mv_Y_79 dX9_notice_17 ck_Y rfl (c_y_isInE g) ⟨Nat.le_of_ble_eq_true rfl, Nat.le_of_ble_eq_true rfl⟩ rfl rfl (Nat.le_of_ble_eq_true rfl) ?_
  refine z_if_ne_N (tgt := 25) zh (by decide) dX9_notice_20 rfl (fun q => absurd q (by decide)) (fun _ => ?_)
  refine z_iconst zh dX9_notice_23 ki_m1 ?_
  exact z_iret zh dX9_notice_24 (⟨_, rfl, rfl⟩)
set_option maxRecDepth 20000 in
theorem c_y_sumOf (g : GE) {i : Nat} {w : Int32} {iv : Iv} {lv : Lv} {dd : Nat → Nat} {dm : Nat} (hi : i < 6) (hG : OkR dd dm iv lv) : ConIp g yX9_sumOf cX9_sumOf 5 (some .int) 5 [rf g 551, .int (nI i), .int w] iv lv (nI 0) := by
  refine con_intro (own := "RollingNetsModel") (by decide +kernel) rfl (Nat.le_of_ble_eq_true rfl) (L0 := [some (rf g 551), some (.int (nI i)), some (.int w), none, none]) rfl (fun Z zh => ?_)
  refine z_iconst zh dX9_sumOf_0 ki_0 ?_
  refine z_istoren zh dX9_sumOf_1 (by decide) (L' := [some (rf g 551), some (.int (nI i)), some (.int w), some (.int (nI 0)), none]) rfl ?_
  refine z_iconst zh dX9_sumOf_2 ki_0 ?_
  refine z_istore zh dX9_sumOf_3 (by decide) (L' := [some (rf g 551), some (.int (nI i)), some (.int w), some (.int (nI 0)), some (.int (nI 0))]) rfl ?_
  have hl5 : ∀ (n k5 : Nat), k5 ≤ 6 → 6 - k5 < n → Z 5 [some (rf g 551), some (.int (nI i)), some (.int w), some (.int (nI 0)), some (.int (nI k5))] [] iv lv := by
    intro n
    induction n with
    | zero => intro k5 _ hn; exact absurd hn (Nat.not_lt_zero _)
    | succ n ih5 =>
      intro k5 hk5 hn5
      refine z_iload zh dX9_sumOf_5 rfl ?_
      refine z_aloadnR zh dX9_sumOf_7 rfl ?_
      refine z_callVIp zh mv_Y_61 dX9_sumOf_8 ck_Y rfl (c_y_memberMany g  hG) ⟨Nat.le_of_ble_eq_true rfl, Nat.le_of_ble_eq_true rfl⟩ rfl rfl (Nat.le_of_ble_eq_true rfl) ?_
      refine z_icmp_ge_N (tgt := 60) zh (by omega) (by decide) dX9_sumOf_11 rfl (fun hb1 => ?_) (fun hb1 => ?_)
      · refine z_iloadn zh dX9_sumOf_60 rfl ?_
        exact z_iret zh dX9_sumOf_61 (qI rfl)
      · refine z_iloadn zh dX9_sumOf_14 rfl ?_
        refine z_iloadn zh dX9_sumOf_15 rfl ?_
        refine z_iconst zh dX9_sumOf_16 ki_2 ?_
        refine z_icmp_ne (tgt := 30) zh dX9_sumOf_17 rfl (fun hb2 => ?_) (fun hb2 => ?_)
        · refine z_iloadn zh dX9_sumOf_30 rfl ?_
          refine z_iconst zh dX9_sumOf_31 ki_3 ?_
          refine z_icmp_ne (tgt := 45) zh dX9_sumOf_32 rfl (fun hb3 => ?_) (fun hb3 => ?_)
          · refine z_aloadnR zh dX9_sumOf_45 rfl ?_
            refine z_iload zh dX9_sumOf_46 rfl ?_
            refine z_iloadn zh dX9_sumOf_48 rfl ?_
            refine z_callVIp zh mv_Y_73 dX9_sumOf_49 ck_Y rfl (c_y_stockOf g (by omega) hi hG) ⟨Nat.le_of_ble_eq_true rfl, Nat.le_of_ble_eq_true rfl⟩ rfl rfl (Nat.le_of_ble_eq_true rfl) ?_
            refine z_iaddN zh dX9_sumOf_52 ?_
            refine z_istoren zh dX9_sumOf_53 (by decide) (L' := [some (rf g 551), some (.int (nI i)), some (.int w), some (.int (nI 0)), some (.int (nI k5))]) rfl ?_
            refine z_iincN zh dX9_sumOf_54 ki_1 (by decide) rfl (L' := [some (rf g 551), some (.int (nI i)), some (.int w), some (.int (nI 0)), some (.int (nI (k5 + 1)))]) rfl ?_
            refine z_goto (tgt := 5) zh dX9_sumOf_57 rfl ?_
            exact ih5 (k5 + 1) (by omega) (by omega)
          · refine z_aloadnR zh dX9_sumOf_35 rfl ?_
            refine z_iload zh dX9_sumOf_36 rfl ?_
            refine z_iloadn zh dX9_sumOf_38 rfl ?_
            refine z_callVIp zh mv_Y_182 dX9_sumOf_39 ck_Y rfl (c_y_shortOf g (by omega) hi hG) ⟨Nat.le_of_ble_eq_true rfl, Nat.le_of_ble_eq_true rfl⟩ rfl rfl (Nat.le_of_ble_eq_true rfl) ?_
            refine z_goto (tgt := 52) zh dX9_sumOf_42 rfl ?_
            refine z_iaddN zh dX9_sumOf_52 ?_
            refine z_istoren zh dX9_sumOf_53 (by decide) (L' := [some (rf g 551), some (.int (nI i)), some (.int w), some (.int (nI 0)), some (.int (nI k5))]) rfl ?_
            refine z_iincN zh dX9_sumOf_54 ki_1 (by decide) rfl (L' := [some (rf g 551), some (.int (nI i)), some (.int w), some (.int (nI 0)), some (.int (nI (k5 + 1)))]) rfl ?_
            refine z_goto (tgt := 5) zh dX9_sumOf_57 rfl ?_
            exact ih5 (k5 + 1) (by omega) (by omega)
        · refine z_aloadnR zh dX9_sumOf_20 rfl ?_
          refine z_iload zh dX9_sumOf_21 rfl ?_
          refine z_iloadn zh dX9_sumOf_23 rfl ?_
          refine z_callVIp zh mv_Y_200 dX9_sumOf_24 ck_Y rfl (c_y_longOf g (by omega) hi hG) ⟨Nat.le_of_ble_eq_true rfl, Nat.le_of_ble_eq_true rfl⟩ rfl rfl (Nat.le_of_ble_eq_true rfl) ?_
          refine z_goto (tgt := 52) zh dX9_sumOf_27 rfl ?_
          refine z_iaddN zh dX9_sumOf_52 ?_
          refine z_istoren zh dX9_sumOf_53 (by decide) (L' := [some (rf g 551), some (.int (nI i)), some (.int w), some (.int (nI 0)), some (.int (nI k5))]) rfl ?_
          refine z_iincN zh dX9_sumOf_54 ki_1 (by decide) rfl (L' := [some (rf g 551), some (.int (nI i)), some (.int w), some (.int (nI 0)), some (.int (nI (k5 + 1)))]) rfl ?_
          refine z_goto (tgt := 5) zh dX9_sumOf_57 rfl ?_
          exact ih5 (k5 + 1) (by omega) (by omega)
  exact hl5 7 0 (by omega) (by omega)
set_option maxRecDepth 20000 in
theorem c_y_eldest (g : GE) {i : Nat} {iv : Iv} {lv : Lv} {dd : Nat → Nat} {dm : Nat} (hi : i < 6) (hG : OkR dd dm iv lv) : ConIp g yX9_eldest cX9_eldest 4 (some .int) 4 [rf g 551, .int (nI i)] iv lv ((-1)) := by
  refine con_intro (own := "RollingNetsModel") (by decide +kernel) rfl (Nat.le_of_ble_eq_true rfl) (L0 := [some (rf g 551), some (.int (nI i)), none, none]) rfl (fun Z zh => ?_)
  refine z_iconst zh dX9_eldest_0 ki_m1 ?_
  refine z_istoren zh dX9_eldest_1 (by decide) (L' := [some (rf g 551), some (.int (nI i)), some (.int (-1)), none]) rfl ?_
  refine z_iconst zh dX9_eldest_2 ki_0 ?_
  refine z_istoren zh dX9_eldest_3 (by decide) (L' := [some (rf g 551), some (.int (nI i)), some (.int (-1)), some (.int (nI 0))]) rfl ?_
  have hl4 : ∀ (n k4 : Nat), k4 ≤ 6 → 6 - k4 < n → Z 4 [some (rf g 551), some (.int (nI i)), some (.int (-1)), some (.int (nI k4))] [] iv lv := by
    intro n
    induction n with
    | zero => intro k4 _ hn; exact absurd hn (Nat.not_lt_zero _)
    | succ n ih4 =>
      intro k4 hk4 hn4
      refine z_iloadn zh dX9_eldest_4 rfl ?_
      refine z_aloadnR zh dX9_eldest_5 rfl ?_
      refine z_callVIp zh mv_Y_61 dX9_eldest_6 ck_Y rfl (c_y_memberMany g  hG) ⟨Nat.le_of_ble_eq_true rfl, Nat.le_of_ble_eq_true rfl⟩ rfl rfl (Nat.le_of_ble_eq_true rfl) ?_
      refine z_icmp_ge_N (tgt := 51) zh (by omega) (by decide) dX9_eldest_9 rfl (fun hb1 => ?_) (fun hb1 => ?_)
      · refine z_iloadn zh dX9_eldest_51 rfl ?_
        exact z_iret zh dX9_eldest_52 (qI rfl)
      · refine z_aloadnR zh dX9_eldest_12 rfl ?_
        refine z_iloadn zh dX9_eldest_13 rfl ?_
        refine z_iloadn zh dX9_eldest_14 rfl ?_
        refine z_callVIp zh mv_Y_110 dX9_eldest_15 ck_Y rfl (c_y_lotMany g (by omega) hi hG) ⟨Nat.le_of_ble_eq_true rfl, Nat.le_of_ble_eq_true rfl⟩ rfl rfl (Nat.le_of_ble_eq_true rfl) ?_
        refine z_if_le_N (tgt := 45) zh (by decide) dX9_eldest_18 rfl (fun _ => ?_) (fun q => absurd q (by decide))
        refine z_iincN zh dX9_eldest_45 ki_1 (by decide) rfl (L' := [some (rf g 551), some (.int (nI i)), some (.int (-1)), some (.int (nI (k4 + 1)))]) rfl ?_
        refine z_goto (tgt := 4) zh dX9_eldest_48 rfl ?_
        exact ih4 (k4 + 1) (by omega) (by omega)
  exact hl4 7 0 (by omega) (by omega)
set_option maxRecDepth 20000 in
theorem c_y_openOf (g : GE) {a b : Int32} {iv : Iv} {lv : Lv} {dd : Nat → Nat} {dm : Nat}  (hG : OkR dd dm iv lv) : ConIp g yX9_openOf cX9_openOf 5 (some .int) 2 [rf g 551, .int a, .int b] iv lv (nI 0) := by
  refine con_intro (own := "RollingNetsModel") (by decide +kernel) rfl (Nat.le_of_ble_eq_true rfl) (L0 := [some (rf g 551), some (.int a), some (.int b), none, none]) rfl (fun Z zh => ?_)
  refine z_iconst zh dX9_openOf_0 ki_0 ?_
  refine z_istoren zh dX9_openOf_1 (by decide) (L' := [some (rf g 551), some (.int a), some (.int b), some (.int (nI 0)), none]) rfl ?_
  refine z_iconst zh dX9_openOf_2 ki_0 ?_
  refine z_istore zh dX9_openOf_3 (by decide) (L' := [some (rf g 551), some (.int a), some (.int b), some (.int (nI 0)), some (.int (nI 0))]) rfl ?_
  refine z_iload zh dX9_openOf_5 rfl ?_
  refine z_aloadnR zh dX9_openOf_7 rfl ?_
  refine z_getf zh fl_Y_7 dX9_openOf_8 ck_Y rfl rfl ?_
  refine z_bipush zh dX9_openOf_11 kb_7 ?_
  refine z_ialdE (x := nI 0) zh ck_now dX9_openOf_13 (by decide) (r1_now hG (by decide)) ?_
  refine z_icmp_ge_N (tgt := 61) zh (by decide) (by decide) dX9_openOf_14 rfl (fun _ => ?_) (fun q => absurd q (by decide))
  refine z_iloadn zh dX9_openOf_61 rfl ?_
  exact z_iret zh dX9_openOf_62 (qI rfl)
set_option maxRecDepth 20000 in
theorem c_y_tradedOf (g : GE) {a b : Int32} {iv : Iv} {lv : Lv} {dd : Nat → Nat} {dm : Nat}  (hG : OkR dd dm iv lv) : ConIp g yX9_tradedOf cX9_tradedOf 5 (some .int) 2 [rf g 551, .int a, .int b] iv lv (nI 0) := by
  refine con_intro (own := "RollingNetsModel") (by decide +kernel) rfl (Nat.le_of_ble_eq_true rfl) (L0 := [some (rf g 551), some (.int a), some (.int b), none, none]) rfl (fun Z zh => ?_)
  refine z_iconst zh dX9_tradedOf_0 ki_0 ?_
  refine z_istoren zh dX9_tradedOf_1 (by decide) (L' := [some (rf g 551), some (.int a), some (.int b), some (.int (nI 0)), none]) rfl ?_
  refine z_iconst zh dX9_tradedOf_2 ki_0 ?_
  refine z_istore zh dX9_tradedOf_3 (by decide) (L' := [some (rf g 551), some (.int a), some (.int b), some (.int (nI 0)), some (.int (nI 0))]) rfl ?_
  refine z_iload zh dX9_tradedOf_5 rfl ?_
  refine z_aloadnR zh dX9_tradedOf_7 rfl ?_
  refine z_getf zh fl_Y_7 dX9_tradedOf_8 ck_Y rfl rfl ?_
  refine z_bipush zh dX9_tradedOf_11 kb_7 ?_
  refine z_ialdE (x := nI 0) zh ck_now dX9_tradedOf_13 (by decide) (r1_now hG (by decide)) ?_
  refine z_icmp_ge_N (tgt := 52) zh (by decide) (by decide) dX9_tradedOf_14 rfl (fun _ => ?_) (fun q => absurd q (by decide))
  refine z_iloadn zh dX9_tradedOf_52 rfl ?_
  exact z_iret zh dX9_tradedOf_53 (qI rfl)
set_option maxRecDepth 20000 in
theorem c_Y_book (g : GE) {x w : Int32} {iv : Iv} {lv : Lv} {dd : Nat → Nat} {dm : Nat}  (hG : OkR dd dm iv lv) : ConI g yX9_book cX9_book 4 (some .int) 2 [rf g 551, .int x, .int w] iv lv (fun r _ _ => r = (-1)) := by
  refine con_intro (own := "RollingNetsModel") (by decide +kernel) rfl (Nat.le_of_ble_eq_true rfl) (L0 := [some (rf g 551), some (.int x), some (.int w), none]) rfl (fun Z zh => ?_)
  refine z_aloadnR zh dX9_book_0 rfl ?_
  refine z_iconst zh dX9_book_1 ki_0 ?_
  refine z_putI zh fl_Y_58 dX9_book_2 ck_Y rfl rfl (Nat.le_of_ble_eq_true rfl) (Or.inl rfl) ?_
  have hG := okR_wI (k := 551) (j := 0) (x := nI 0) hG (w1_no rfl)
  generalize upI iv (551) (0) (nI 0) = iv at hG ⊢
  refine z_aloadnR zh dX9_book_5 rfl ?_
  refine z_iloadn zh dX9_book_6 rfl ?_
  refine z_iconst zh dX9_book_7 ki_0 ?_
  refine z_aloadnR zh dX9_book_8 rfl ?_
  refine z_getf zh fl_Y_7 dX9_book_9 ck_Y rfl rfl ?_
  refine z_bipush zh dX9_book_12 kb_9 ?_
  refine z_ialdE (x := nI 0) zh ck_now dX9_book_14 (by decide) (r1_now hG (by decide)) ?_
  refine z_iconst zh dX9_book_15 ki_1 ?_
  refine z_isub zh dX9_book_16 ?_
  rw [show (nI 0) - (nI 1) = (-1) from by decide]
  refine z_callVIp zh mv_Y_79 dX9_book_17 ck_Y rfl (c_y_isInE g) ⟨Nat.le_of_ble_eq_true rfl, Nat.le_of_ble_eq_true rfl⟩ rfl rfl (Nat.le_of_ble_eq_true rfl) ?_
  refine z_if_eq_N (tgt := 33) zh (by decide) dX9_book_20 rfl (fun _ => ?_) (fun q => absurd q (by decide))
  refine z_iconst zh dX9_book_33 ki_m1 ?_
  exact z_iret zh dX9_book_34 (⟨_, rfl, rfl⟩)
set_option maxRecDepth 20000 in
theorem c_Y_statement (g : GE) {x w z : Int32} {iv : Iv} {lv : Lv} {dd : Nat → Nat} {dm : Nat}  (hG : OkR dd dm iv lv) : ConI g yX9_statement cX9_statement 7 (some .int) 3 [rf g 551, .int x, .int w, .int z] iv lv (fun r _ _ => r = sp2 (InN 6 x) (InN 5 w) (nI 0) (-1)) := by
  refine con_intro (own := "RollingNetsModel") (by decide +kernel) rfl (Nat.le_of_ble_eq_true rfl) (L0 := [some (rf g 551), some (.int x), some (.int w), some (.int z), none, none, none]) rfl (fun Z zh => ?_)
  refine z_aloadnR zh dX9_statement_0 rfl ?_
  refine z_iconst zh dX9_statement_1 ki_0 ?_
  refine z_putI zh fl_Y_58 dX9_statement_2 ck_Y rfl rfl (Nat.le_of_ble_eq_true rfl) (Or.inl rfl) ?_
  have hG := okR_wI (k := 551) (j := 0) (x := nI 0) hG (w1_no rfl)
  generalize upI iv (551) (0) (nI 0) = iv at hG ⊢
  refine z_aloadnR zh dX9_statement_5 rfl ?_
  refine z_iloadn zh dX9_statement_6 rfl ?_
  refine z_callVIp zh mv_Y_90 dX9_statement_7 ck_Y rfl (c_y_isMember g  hG) ⟨Nat.le_of_ble_eq_true rfl, Nat.le_of_ble_eq_true rfl⟩ rfl rfl (Nat.le_of_ble_eq_true rfl) ?_
  refine z_if_eq_B (tgt := 23) zh dX9_statement_10 rfl (fun hp1 => ?_) (fun hp1 => ?_)
  · refine z_iconst zh dX9_statement_23 ki_m1 ?_
    exact z_iret zh dX9_statement_24 (⟨_, rfl, (by first | rfl | simp (decide := true) only [sp2, sel_t, sel_f, selL_t, selL_f, bi_t, bi_f, sel_same, selL_same, eq_self, hp1])⟩)
  · obtain ⟨jx, hjx, rfl⟩ := id hp1
    refine z_aloadnR zh dX9_statement_13 rfl ?_
    refine z_iloadn zh dX9_statement_14 rfl ?_
    refine z_iconst zh dX9_statement_15 ki_0 ?_
    refine z_iconst zh dX9_statement_16 ki_4 ?_
    refine z_callVIp zh mv_Y_79 dX9_statement_17 ck_Y rfl (c_y_isIn0 g) ⟨Nat.le_of_ble_eq_true rfl, Nat.le_of_ble_eq_true rfl⟩ rfl rfl (Nat.le_of_ble_eq_true rfl) ?_
    refine z_if_ne_B (tgt := 25) zh dX9_statement_20 rfl (fun hp2 => ?_) (fun hp2 => ?_)
    · obtain ⟨jw, hjw, rfl⟩ := id hp2
      refine z_iconst zh dX9_statement_25 ki_0 ?_
      refine z_istore zh dX9_statement_26 (by decide) (L' := [some (rf g 551), some (.int (nI jx)), some (.int (nI jw)), some (.int z), some (.int (nI 0)), none, none]) rfl ?_
      refine z_iconst zh dX9_statement_28 ki_0 ?_
      refine z_istore zh dX9_statement_29 (by decide) (L' := [some (rf g 551), some (.int (nI jx)), some (.int (nI jw)), some (.int z), some (.int (nI 0)), some (.int (nI 0)), none]) rfl ?_
      refine z_iload zh dX9_statement_31 rfl ?_
      refine z_aloadnR zh dX9_statement_33 rfl ?_
      refine z_getf zh fl_Y_7 dX9_statement_34 ck_Y rfl rfl ?_
      refine z_bipush zh dX9_statement_37 kb_9 ?_
      refine z_ialdE (x := nI 0) zh ck_now dX9_statement_39 (by decide) (r1_now hG (by decide)) ?_
      refine z_icmp_ge_N (tgt := 110) zh (by decide) (by decide) dX9_statement_40 rfl (fun _ => ?_) (fun q => absurd q (by decide))
      refine z_iload zh dX9_statement_110 rfl ?_
      exact z_iret zh dX9_statement_112 (⟨_, rfl, (by first | rfl | simp (decide := true) only [sp2, sel_t, sel_f, selL_t, selL_f, bi_t, bi_f, sel_same, selL_same, eq_self, hp1, hp2])⟩)
    · refine z_iconst zh dX9_statement_23 ki_m1 ?_
      exact z_iret zh dX9_statement_24 (⟨_, rfl, (by first | rfl | simp (decide := true) only [sp2, sel_t, sel_f, selL_t, selL_f, bi_t, bi_f, sel_same, selL_same, eq_self, hp1, hp2])⟩)
set_option maxRecDepth 20000 in
theorem c_Y_queue (g : GE) {x i w : Int32} {iv : Iv} {lv : Lv} {dd : Nat → Nat} {dm : Nat}  (hG : OkR dd dm iv lv) : ConI g yX9_queue cX9_queue 4 (some .int) 5 [rf g 551, .int x, .int i, .int w] iv lv (fun r _ _ => r = sp_queue x i) := by
  refine con_intro (own := "RollingNetsModel") (by decide +kernel) rfl (Nat.le_of_ble_eq_true rfl) (L0 := [some (rf g 551), some (.int x), some (.int i), some (.int w)]) rfl (fun Z zh => ?_)
  refine z_aloadnR zh dX9_queue_0 rfl ?_
  refine z_iconst zh dX9_queue_1 ki_0 ?_
  refine z_putI zh fl_Y_58 dX9_queue_2 ck_Y rfl rfl (Nat.le_of_ble_eq_true rfl) (Or.inl rfl) ?_
  have hG := okR_wI (k := 551) (j := 0) (x := nI 0) hG (w1_no rfl)
  generalize upI iv (551) (0) (nI 0) = iv at hG ⊢
  refine z_aloadnR zh dX9_queue_5 rfl ?_
  refine z_iloadn zh dX9_queue_6 rfl ?_
  refine z_callVIp zh mv_Y_94 dX9_queue_7 ck_Y rfl (c_y_isIssue g) ⟨Nat.le_of_ble_eq_true rfl, Nat.le_of_ble_eq_true rfl⟩ rfl rfl (Nat.le_of_ble_eq_true rfl) ?_
  refine z_if_ne_B (tgt := 15) zh dX9_queue_10 rfl (fun hp1 => ?_) (fun hp1 => ?_)
  · obtain ⟨jx, hjx, rfl⟩ := id hp1
    refine z_aloadnR zh dX9_queue_15 rfl ?_
    refine z_iloadn zh dX9_queue_16 rfl ?_
    refine z_bipush zh dX9_queue_17 kb_99 ?_
    refine z_callVV zh mv_Y_271 dX9_queue_19 ck_Y rfl (c_y_laysQueue g hjx hG) ⟨Nat.le_of_ble_eq_true rfl, Nat.le_of_ble_eq_true rfl⟩ rfl rfl (Nat.le_of_ble_eq_true rfl) ?_
    rintro iv lv hG
    refine z_iloadn zh dX9_queue_22 rfl ?_
    refine z_iconst zh dX9_queue_23 ki_m1 ?_
    refine z_icmp_ne (tgt := 32) zh dX9_queue_24 rfl (fun hb2 => ?_) (fun hb2 => ?_)
    · refine z_aloadnR zh dX9_queue_32 rfl ?_
      refine z_iloadn zh dX9_queue_33 rfl ?_
      refine z_iconst zh dX9_queue_34 ki_0 ?_
      refine z_aloadnR zh dX9_queue_35 rfl ?_
      refine z_getI (x := nI 0) zh fl_Y_240 dX9_queue_36 ck_Y rfl rfl (r1_qMany hG) ?_
      refine z_iconst zh dX9_queue_39 ki_1 ?_
      refine z_isub zh dX9_queue_40 ?_
      rw [show (nI 0) - (nI 1) = (-1) from by decide]
      refine z_callVIp zh mv_Y_79 dX9_queue_41 ck_Y rfl (c_y_isInE g) ⟨Nat.le_of_ble_eq_true rfl, Nat.le_of_ble_eq_true rfl⟩ rfl rfl (Nat.le_of_ble_eq_true rfl) ?_
      refine z_if_eq_N (tgt := 57) zh (by decide) dX9_queue_44 rfl (fun _ => ?_) (fun q => absurd q (by decide))
      refine z_iconst zh dX9_queue_57 ki_m1 ?_
      exact z_iret zh dX9_queue_58 (⟨_, rfl, (by first | rfl | (simp (decide := true) only [sp_queue, sel_t, sel_f, sel_same, eq_self, hp1, hb2]; done))⟩)
    · refine z_aloadnR zh dX9_queue_27 rfl ?_
      refine z_getI (x := nI 0) zh fl_Y_240 dX9_queue_28 ck_Y rfl rfl (r1_qMany hG) ?_
      exact z_iret zh dX9_queue_31 (⟨_, rfl, (by first | rfl | (simp (decide := true) only [sp_queue, sel_t, sel_f, sel_same, eq_self, hp1, hb2]; done))⟩)
  · refine z_iconst zh dX9_queue_13 ki_m1 ?_
    exact z_iret zh dX9_queue_14 (⟨_, rfl, (by first | rfl | (simp (decide := true) only [sp_queue, sel_t, sel_f, sel_same, eq_self, hp1]; done))⟩)
set_option maxRecDepth 20000 in
theorem c_Y_ahead (g : GE) {x y : Int32} {iv : Iv} {lv : Lv} {dd : Nat → Nat} {dm : Nat}  (hG : OkR dd dm iv lv) : ConI g yX9_ahead cX9_ahead 5 (some .int) 4 [rf g 551, .int x, .int y] iv lv (fun r _ _ => r = (-1)) := by
  refine con_intro (own := "RollingNetsModel") (by decide +kernel) rfl (Nat.le_of_ble_eq_true rfl) (L0 := [some (rf g 551), some (.int x), some (.int y), none, none]) rfl (fun Z zh => ?_)
  refine z_aloadnR zh dX9_ahead_0 rfl ?_
  refine z_iconst zh dX9_ahead_1 ki_0 ?_
  refine z_putI zh fl_Y_58 dX9_ahead_2 ck_Y rfl rfl (Nat.le_of_ble_eq_true rfl) (Or.inl rfl) ?_
  have hG := okR_wI (k := 551) (j := 0) (x := nI 0) hG (w1_no rfl)
  generalize upI iv (551) (0) (nI 0) = iv at hG ⊢
  refine z_aloadnR zh dX9_ahead_5 rfl ?_
  refine z_iloadn zh dX9_ahead_6 rfl ?_
  refine z_callVIp zh mv_Y_90 dX9_ahead_7 ck_Y rfl (c_y_isMember g  hG) ⟨Nat.le_of_ble_eq_true rfl, Nat.le_of_ble_eq_true rfl⟩ rfl rfl (Nat.le_of_ble_eq_true rfl) ?_
  refine z_if_eq_B (tgt := 30) zh dX9_ahead_10 rfl (fun hp1 => ?_) (fun hp1 => ?_)
  · refine z_iconst zh dX9_ahead_30 ki_m1 ?_
    exact z_iret zh dX9_ahead_31 (⟨_, rfl, rfl⟩)
  · obtain ⟨jx, hjx, rfl⟩ := id hp1
    refine z_aloadnR zh dX9_ahead_13 rfl ?_
    refine z_iloadn zh dX9_ahead_14 rfl ?_
    refine z_callVIp zh mv_Y_94 dX9_ahead_15 ck_Y rfl (c_y_isIssue g) ⟨Nat.le_of_ble_eq_true rfl, Nat.le_of_ble_eq_true rfl⟩ rfl rfl (Nat.le_of_ble_eq_true rfl) ?_
    refine z_if_eq_B (tgt := 30) zh dX9_ahead_18 rfl (fun hp2 => ?_) (fun hp2 => ?_)
    · refine z_iconst zh dX9_ahead_30 ki_m1 ?_
      exact z_iret zh dX9_ahead_31 (⟨_, rfl, rfl⟩)
    · obtain ⟨jy, hjy, rfl⟩ := id hp2
      refine z_aloadnR zh dX9_ahead_21 rfl ?_
      refine z_iloadn zh dX9_ahead_22 rfl ?_
      refine z_iloadn zh dX9_ahead_23 rfl ?_
      refine z_callVIp zh mv_Y_122 dX9_ahead_24 ck_Y rfl (c_y_isLong g (by omega) hjy hG) ⟨Nat.le_of_ble_eq_true rfl, Nat.le_of_ble_eq_true rfl⟩ rfl rfl (Nat.le_of_ble_eq_true rfl) ?_
      refine z_if_ne_N (tgt := 32) zh (by decide) dX9_ahead_27 rfl (fun q => absurd q (by decide)) (fun _ => ?_)
      refine z_iconst zh dX9_ahead_30 ki_m1 ?_
      exact z_iret zh dX9_ahead_31 (⟨_, rfl, rfl⟩)
set_option maxRecDepth 20000 in
theorem c_Y_aged (g : GE) {x w : Int32} {iv : Iv} {lv : Lv} {dd : Nat → Nat} {dm : Nat}  (hG : OkR dd dm iv lv) : ConI g yX9_aged cX9_aged 6 (some .int) 4 [rf g 551, .int x, .int w] iv lv (fun r _ _ => r = sp2 (InN 6 x) (InN 100 w) (nI 0) (-1)) := by
  refine con_intro (own := "RollingNetsModel") (by decide +kernel) rfl (Nat.le_of_ble_eq_true rfl) (L0 := [some (rf g 551), some (.int x), some (.int w), none, none, none]) rfl (fun Z zh => ?_)
  refine z_aloadnR zh dX9_aged_0 rfl ?_
  refine z_iconst zh dX9_aged_1 ki_0 ?_
  refine z_putI zh fl_Y_58 dX9_aged_2 ck_Y rfl rfl (Nat.le_of_ble_eq_true rfl) (Or.inl rfl) ?_
  have hG := okR_wI (k := 551) (j := 0) (x := nI 0) hG (w1_no rfl)
  generalize upI iv (551) (0) (nI 0) = iv at hG ⊢
  refine z_aloadnR zh dX9_aged_5 rfl ?_
  refine z_iloadn zh dX9_aged_6 rfl ?_
  refine z_callVIp zh mv_Y_94 dX9_aged_7 ck_Y rfl (c_y_isIssue g) ⟨Nat.le_of_ble_eq_true rfl, Nat.le_of_ble_eq_true rfl⟩ rfl rfl (Nat.le_of_ble_eq_true rfl) ?_
  refine z_if_eq_B (tgt := 24) zh dX9_aged_10 rfl (fun hp1 => ?_) (fun hp1 => ?_)
  · refine z_iconst zh dX9_aged_24 ki_m1 ?_
    exact z_iret zh dX9_aged_25 (⟨_, rfl, (by first | rfl | simp (decide := true) only [sp2, sel_t, sel_f, selL_t, selL_f, bi_t, bi_f, sel_same, selL_same, eq_self, hp1])⟩)
  · obtain ⟨jx, hjx, rfl⟩ := id hp1
    refine z_aloadnR zh dX9_aged_13 rfl ?_
    refine z_iloadn zh dX9_aged_14 rfl ?_
    refine z_iconst zh dX9_aged_15 ki_0 ?_
    refine z_bipush zh dX9_aged_16 kb_99 ?_
    refine z_callVIp zh mv_Y_79 dX9_aged_18 ck_Y rfl (c_y_isIn0 g) ⟨Nat.le_of_ble_eq_true rfl, Nat.le_of_ble_eq_true rfl⟩ rfl rfl (Nat.le_of_ble_eq_true rfl) ?_
    refine z_if_ne_B (tgt := 26) zh dX9_aged_21 rfl (fun hp2 => ?_) (fun hp2 => ?_)
    · obtain ⟨jw, hjw, rfl⟩ := id hp2
      refine z_iconst zh dX9_aged_26 ki_0 ?_
      refine z_istoren zh dX9_aged_27 (by decide) (L' := [some (rf g 551), some (.int (nI jx)), some (.int (nI jw)), some (.int (nI 0)), none, none]) rfl ?_
      refine z_iconst zh dX9_aged_28 ki_0 ?_
      refine z_istore zh dX9_aged_29 (by decide) (L' := [some (rf g 551), some (.int (nI jx)), some (.int (nI jw)), some (.int (nI 0)), some (.int (nI 0)), none]) rfl ?_
      have hl31 : ∀ (n k31 : Nat) (iv : Iv) (lv : Lv), OkR dd dm iv lv → k31 ≤ 6 → 6 - k31 < n → Z 31 [some (rf g 551), some (.int (nI jx)), some (.int (nI jw)), some (.int (nI 0)), some (.int (nI k31)), none] [] iv lv := by
        intro n
        induction n with
        | zero => intro k31 iv lv _ _ hn; exact absurd hn (Nat.not_lt_zero _)
        | succ n ih31 =>
          intro k31 iv lv hG hk31 hn31
          refine z_iload zh dX9_aged_31 rfl ?_
          refine z_aloadnR zh dX9_aged_33 rfl ?_
          refine z_callVIp zh mv_Y_61 dX9_aged_34 ck_Y rfl (c_y_memberMany g  hG) ⟨Nat.le_of_ble_eq_true rfl, Nat.le_of_ble_eq_true rfl⟩ rfl rfl (Nat.le_of_ble_eq_true rfl) ?_
          refine z_icmp_ge_N (tgt := 110) zh (by omega) (by decide) dX9_aged_37 rfl (fun hb3 => ?_) (fun hb3 => ?_)
          · refine z_iloadn zh dX9_aged_110 rfl ?_
            exact z_iret zh dX9_aged_111 (⟨_, rfl, (by first | rfl | simp (decide := true) only [sp2, sel_t, sel_f, selL_t, selL_f, bi_t, bi_f, sel_same, selL_same, eq_self, hp1, hp2, hb3])⟩)
          · refine z_iconst zh dX9_aged_40 ki_0 ?_
            refine z_istore zh dX9_aged_41 (by decide) (L' := [some (rf g 551), some (.int (nI jx)), some (.int (nI jw)), some (.int (nI 0)), some (.int (nI k31)), some (.int (nI 0))]) rfl ?_
            refine z_iload zh dX9_aged_43 rfl ?_
            refine z_aloadnR zh dX9_aged_45 rfl ?_
            refine z_iload zh dX9_aged_46 rfl ?_
            refine z_iloadn zh dX9_aged_48 rfl ?_
            refine z_callVIp zh mv_Y_110 dX9_aged_49 ck_Y rfl (c_y_lotMany g (by omega) hjx hG) ⟨Nat.le_of_ble_eq_true rfl, Nat.le_of_ble_eq_true rfl⟩ rfl rfl (Nat.le_of_ble_eq_true rfl) ?_
            refine z_icmp_ge_N (tgt := 104) zh (by decide) (by decide) dX9_aged_52 rfl (fun _ => ?_) (fun q => absurd q (by decide))
            refine z_iincN zh dX9_aged_104 ki_1 (by decide) rfl (L' := [some (rf g 551), some (.int (nI jx)), some (.int (nI jw)), some (.int (nI 0)), some (.int (nI (k31 + 1))), some (.int (nI 0))]) rfl ?_
            refine z_goto (tgt := 31) zh dX9_aged_107 rfl ?_
            refine z_forget zh [true, true, true, true, true, false] (L2 := [some (rf g 551), some (.int (nI jx)), some (.int (nI jw)), some (.int (nI 0)), some (.int (nI (k31 + 1))), none]) rfl ?_; exact ih31 (k31 + 1) iv lv hG (by omega) (by omega)
      exact hl31 7 0 iv lv hG (by omega) (by omega)
    · refine z_iconst zh dX9_aged_24 ki_m1 ?_
      exact z_iret zh dX9_aged_25 (⟨_, rfl, (by first | rfl | simp (decide := true) only [sp2, sel_t, sel_f, selL_t, selL_f, bi_t, bi_f, sel_same, selL_same, eq_self, hp1, hp2])⟩)
set_option maxRecDepth 20000 in
theorem c_y_types (g : GE) {l : Nat} {x : Int32} {iv : Iv} {lv : Lv}  (hl : iv 551 17 = nI l) (hl4 : l + 4 ≤ 400)  : ConV g yX9_types cX9_types 3 none 1 [rf g 551, .int x] iv lv (fun iv' lv' => iv' 551 17 = nI (l + 1 + 1 + 1 + 1)) := by
  refine con_intro (own := "RollingNetsModel") (by decide +kernel) rfl (Nat.le_of_ble_eq_true rfl) (L0 := [some (rf g 551), some (.int x), none]) rfl (fun Z zh => ?_)
  refine z_bipush zh dX9_types_0 kb_24 ?_
  refine z_istoren zh dX9_types_2 (by decide) (L' := [some (rf g 551), some (.int x), some (.int (nI 24))]) rfl ?_
  refine z_iloadn zh dX9_types_3 rfl ?_
  refine z_if_lt_N (tgt := 39) zh (by decide) dX9_types_4 rfl ?_
  refine z_aloadnR zh dX9_types_7 rfl ?_
  refine z_getf zh fl_Y_39 dX9_types_8 ck_Y rfl rfl ?_
  refine z_aloadnR zh dX9_types_11 rfl ?_
  refine z_getI (x := nI l) zh fl_Y_344 dX9_types_12 ck_Y rfl rfl hl ?_
  refine z_iloadn zh dX9_types_15 rfl ?_
  refine z_iloadn zh dX9_types_16 rfl ?_
  refine z_ishr zh dX9_types_17 ?_
  refine z_sipush zh dX9_types_18 ks_255 ?_
  refine z_iand zh dX9_types_21 ?_
  refine z_iastN zh ck_ytape dX9_types_22 (by omega) ?_
  have hl : upI iv 561 (l) ((x >>> (nI 24 &&& 31)) &&& (nI 255)) 551 17 = nI l := by rw [upI_at, if_neg (by omega)]; exact hl
  generalize upI iv 561 (l) ((x >>> (nI 24 &&& 31)) &&& (nI 255)) = iv at hl ⊢
  refine z_aloadnR zh dX9_types_23 rfl ?_
  refine z_aloadnR zh dX9_types_24 rfl ?_
  refine z_getI (x := nI l) zh fl_Y_344 dX9_types_25 ck_Y rfl rfl hl ?_
  refine z_iconst zh dX9_types_28 ki_1 ?_
  refine z_iaddN zh dX9_types_29 ?_
  refine z_putI zh fl_Y_344 dX9_types_30 ck_Y rfl rfl (Nat.le_of_ble_eq_true rfl) (Or.inl rfl) ?_
  have hl : upI iv 551 17 (nI (l + 1)) 551 17 = nI (l + 1) := by rw [upI_at, if_pos ⟨rfl, rfl⟩]
  generalize upI iv 551 17 (nI (l + 1)) = iv at hl ⊢
  refine z_iinc zh dX9_types_33 (by decide) rfl (v := nI 16) (by decide) (L' := [some (rf g 551), some (.int x), some (.int (nI 16))]) rfl ?_
  refine z_goto (tgt := 3) zh dX9_types_36 rfl ?_
  refine z_iloadn zh dX9_types_3 rfl ?_
  refine z_if_lt_N (tgt := 39) zh (by decide) dX9_types_4 rfl ?_
  refine z_aloadnR zh dX9_types_7 rfl ?_
  refine z_getf zh fl_Y_39 dX9_types_8 ck_Y rfl rfl ?_
  refine z_aloadnR zh dX9_types_11 rfl ?_
  refine z_getI (x := nI (l + 1)) zh fl_Y_344 dX9_types_12 ck_Y rfl rfl hl ?_
  refine z_iloadn zh dX9_types_15 rfl ?_
  refine z_iloadn zh dX9_types_16 rfl ?_
  refine z_ishr zh dX9_types_17 ?_
  refine z_sipush zh dX9_types_18 ks_255 ?_
  refine z_iand zh dX9_types_21 ?_
  refine z_iastN zh ck_ytape dX9_types_22 (by omega) ?_
  have hl : upI iv 561 (l + 1) ((x >>> (nI 16 &&& 31)) &&& (nI 255)) 551 17 = nI (l + 1) := by rw [upI_at, if_neg (by omega)]; exact hl
  generalize upI iv 561 (l + 1) ((x >>> (nI 16 &&& 31)) &&& (nI 255)) = iv at hl ⊢
  refine z_aloadnR zh dX9_types_23 rfl ?_
  refine z_aloadnR zh dX9_types_24 rfl ?_
  refine z_getI (x := nI (l + 1)) zh fl_Y_344 dX9_types_25 ck_Y rfl rfl hl ?_
  refine z_iconst zh dX9_types_28 ki_1 ?_
  refine z_iaddN zh dX9_types_29 ?_
  refine z_putI zh fl_Y_344 dX9_types_30 ck_Y rfl rfl (Nat.le_of_ble_eq_true rfl) (Or.inl rfl) ?_
  have hl : upI iv 551 17 (nI ((l + 1) + 1)) 551 17 = nI ((l + 1) + 1) := by rw [upI_at, if_pos ⟨rfl, rfl⟩]
  generalize upI iv 551 17 (nI ((l + 1) + 1)) = iv at hl ⊢
  refine z_iinc zh dX9_types_33 (by decide) rfl (v := nI 8) (by decide) (L' := [some (rf g 551), some (.int x), some (.int (nI 8))]) rfl ?_
  refine z_goto (tgt := 3) zh dX9_types_36 rfl ?_
  refine z_iloadn zh dX9_types_3 rfl ?_
  refine z_if_lt_N (tgt := 39) zh (by decide) dX9_types_4 rfl ?_
  refine z_aloadnR zh dX9_types_7 rfl ?_
  refine z_getf zh fl_Y_39 dX9_types_8 ck_Y rfl rfl ?_
  refine z_aloadnR zh dX9_types_11 rfl ?_
  refine z_getI (x := nI ((l + 1) + 1)) zh fl_Y_344 dX9_types_12 ck_Y rfl rfl hl ?_
  refine z_iloadn zh dX9_types_15 rfl ?_
  refine z_iloadn zh dX9_types_16 rfl ?_
  refine z_ishr zh dX9_types_17 ?_
  refine z_sipush zh dX9_types_18 ks_255 ?_
  refine z_iand zh dX9_types_21 ?_
  refine z_iastN zh ck_ytape dX9_types_22 (by omega) ?_
  have hl : upI iv 561 ((l + 1) + 1) ((x >>> (nI 8 &&& 31)) &&& (nI 255)) 551 17 = nI ((l + 1) + 1) := by rw [upI_at, if_neg (by omega)]; exact hl
  generalize upI iv 561 ((l + 1) + 1) ((x >>> (nI 8 &&& 31)) &&& (nI 255)) = iv at hl ⊢
  refine z_aloadnR zh dX9_types_23 rfl ?_
  refine z_aloadnR zh dX9_types_24 rfl ?_
  refine z_getI (x := nI ((l + 1) + 1)) zh fl_Y_344 dX9_types_25 ck_Y rfl rfl hl ?_
  refine z_iconst zh dX9_types_28 ki_1 ?_
  refine z_iaddN zh dX9_types_29 ?_
  refine z_putI zh fl_Y_344 dX9_types_30 ck_Y rfl rfl (Nat.le_of_ble_eq_true rfl) (Or.inl rfl) ?_
  have hl : upI iv 551 17 (nI (((l + 1) + 1) + 1)) 551 17 = nI (((l + 1) + 1) + 1) := by rw [upI_at, if_pos ⟨rfl, rfl⟩]
  generalize upI iv 551 17 (nI (((l + 1) + 1) + 1)) = iv at hl ⊢
  refine z_iinc zh dX9_types_33 (by decide) rfl (v := nI 0) (by decide) (L' := [some (rf g 551), some (.int x), some (.int (nI 0))]) rfl ?_
  refine z_goto (tgt := 3) zh dX9_types_36 rfl ?_
  refine z_iloadn zh dX9_types_3 rfl ?_
  refine z_if_lt_N (tgt := 39) zh (by decide) dX9_types_4 rfl ?_
  refine z_aloadnR zh dX9_types_7 rfl ?_
  refine z_getf zh fl_Y_39 dX9_types_8 ck_Y rfl rfl ?_
  refine z_aloadnR zh dX9_types_11 rfl ?_
  refine z_getI (x := nI (((l + 1) + 1) + 1)) zh fl_Y_344 dX9_types_12 ck_Y rfl rfl hl ?_
  refine z_iloadn zh dX9_types_15 rfl ?_
  refine z_iloadn zh dX9_types_16 rfl ?_
  refine z_ishr zh dX9_types_17 ?_
  refine z_sipush zh dX9_types_18 ks_255 ?_
  refine z_iand zh dX9_types_21 ?_
  refine z_iastN zh ck_ytape dX9_types_22 (by omega) ?_
  have hl : upI iv 561 (((l + 1) + 1) + 1) ((x >>> (nI 0 &&& 31)) &&& (nI 255)) 551 17 = nI (((l + 1) + 1) + 1) := by rw [upI_at, if_neg (by omega)]; exact hl
  generalize upI iv 561 (((l + 1) + 1) + 1) ((x >>> (nI 0 &&& 31)) &&& (nI 255)) = iv at hl ⊢
  refine z_aloadnR zh dX9_types_23 rfl ?_
  refine z_aloadnR zh dX9_types_24 rfl ?_
  refine z_getI (x := nI (((l + 1) + 1) + 1)) zh fl_Y_344 dX9_types_25 ck_Y rfl rfl hl ?_
  refine z_iconst zh dX9_types_28 ki_1 ?_
  refine z_iaddN zh dX9_types_29 ?_
  refine z_putI zh fl_Y_344 dX9_types_30 ck_Y rfl rfl (Nat.le_of_ble_eq_true rfl) (Or.inl rfl) ?_
  have hl : upI iv 551 17 (nI ((((l + 1) + 1) + 1) + 1)) 551 17 = nI ((((l + 1) + 1) + 1) + 1) := by rw [upI_at, if_pos ⟨rfl, rfl⟩]
  generalize upI iv 551 17 (nI ((((l + 1) + 1) + 1) + 1)) = iv at hl ⊢
  refine z_iinc zh dX9_types_33 (by decide) rfl (v := (-8)) (by decide) (L' := [some (rf g 551), some (.int x), some (.int (-8))]) rfl ?_
  refine z_goto (tgt := 3) zh dX9_types_36 rfl ?_
  refine z_iloadn zh dX9_types_3 rfl ?_
  refine z_if_lt (tgt := 39) zh dX9_types_4 rfl (fun _ => ?_) (fun q => absurd q (by decide))
  exact z_vret zh dX9_types_39 (⟨rfl, hl⟩)
set_option maxRecDepth 20000 in
theorem c_Y_feed (g : GE) {a b c d e : Int32} {iv : Iv} {lv : Lv} {dd : Nat → Nat} {dm : Nat}  (hG : OkR dd dm iv lv) : ConI g yX9_feed cX9_feed 6 (some .int) 2 [rf g 551, .int a, .int b, .int c, .int d, .int e] iv lv (fun r _ _ => r = nI 20) := by
  refine con_intro (own := "RollingNetsModel") (by decide +kernel) rfl (Nat.le_of_ble_eq_true rfl) (L0 := [some (rf g 551), some (.int a), some (.int b), some (.int c), some (.int d), some (.int e)]) rfl (fun Z zh => ?_)
  refine z_aloadnR zh dX9_feed_0 rfl ?_
  refine z_iconst zh dX9_feed_1 ki_0 ?_
  refine z_putI zh fl_Y_58 dX9_feed_2 ck_Y rfl rfl (Nat.le_of_ble_eq_true rfl) (Or.inl rfl) ?_
  have hG := okR_wI (k := 551) (j := 0) (x := nI 0) hG (w1_no rfl)
  generalize upI iv (551) (0) (nI 0) = iv at hG ⊢
  refine z_aloadnR zh dX9_feed_5 rfl ?_
  refine z_getI (x := nI 0) zh fl_Y_344 dX9_feed_6 ck_Y rfl rfl (r1_taped hG) ?_
  refine z_sipush zh dX9_feed_9 ks_380 ?_
  refine z_icmp_le_N (tgt := 17) zh (by decide) (by decide) dX9_feed_12 rfl (fun _ => ?_) (fun q => absurd q (by decide))
  refine z_aloadnR zh dX9_feed_17 rfl ?_
  refine z_iloadn zh dX9_feed_18 rfl ?_
  refine z_callVV zh mv_Y_347 dX9_feed_19 ck_Y rfl (c_y_types g (r1_taped hG) (by decide)) ⟨Nat.le_of_ble_eq_true rfl, Nat.le_of_ble_eq_true rfl⟩ rfl rfl (Nat.le_of_ble_eq_true rfl) ?_
  rintro iv lv hl
  refine z_aloadnR zh dX9_feed_22 rfl ?_
  refine z_iloadn zh dX9_feed_23 rfl ?_
  refine z_callVV zh mv_Y_347 dX9_feed_24 ck_Y rfl (c_y_types g hl (by decide)) ⟨Nat.le_of_ble_eq_true rfl, Nat.le_of_ble_eq_true rfl⟩ rfl rfl (Nat.le_of_ble_eq_true rfl) ?_
  rintro iv lv hl
  refine z_aloadnR zh dX9_feed_27 rfl ?_
  refine z_iloadn zh dX9_feed_28 rfl ?_
  refine z_callVV zh mv_Y_347 dX9_feed_29 ck_Y rfl (c_y_types g hl (by decide)) ⟨Nat.le_of_ble_eq_true rfl, Nat.le_of_ble_eq_true rfl⟩ rfl rfl (Nat.le_of_ble_eq_true rfl) ?_
  rintro iv lv hl
  refine z_aloadnR zh dX9_feed_32 rfl ?_
  refine z_iload zh dX9_feed_33 rfl ?_
  refine z_callVV zh mv_Y_347 dX9_feed_35 ck_Y rfl (c_y_types g hl (by decide)) ⟨Nat.le_of_ble_eq_true rfl, Nat.le_of_ble_eq_true rfl⟩ rfl rfl (Nat.le_of_ble_eq_true rfl) ?_
  rintro iv lv hl
  refine z_aloadnR zh dX9_feed_38 rfl ?_
  refine z_iload zh dX9_feed_39 rfl ?_
  refine z_callVV zh mv_Y_347 dX9_feed_41 ck_Y rfl (c_y_types g hl (by decide)) ⟨Nat.le_of_ble_eq_true rfl, Nat.le_of_ble_eq_true rfl⟩ rfl rfl (Nat.le_of_ble_eq_true rfl) ?_
  rintro iv lv hl
  refine z_aloadnR zh dX9_feed_44 rfl ?_
  refine z_getI (x := nI 20) zh fl_Y_344 dX9_feed_45 ck_Y rfl rfl hl ?_
  exact z_iret zh dX9_feed_48 (⟨_, rfl, rfl⟩)
set_option maxRecDepth 20000 in
theorem c_Y_end (g : GE) {x : Int32} {iv : Iv} {lv : Lv} {dd : Nat → Nat} {dm : Nat}  (hG : OkR dd dm iv lv) : ConI g yX9_end cX9_end 2 (some .boolean) 2 [rf g 551, .int x] iv lv (fun r _ _ => r = bi (InN 1 x)) := by
  refine con_intro (own := "RollingNetsModel") (by decide +kernel) rfl (Nat.le_of_ble_eq_true rfl) (L0 := [some (rf g 551), some (.int x)]) rfl (fun Z zh => ?_)
  refine z_aloadnR zh dX9_end_0 rfl ?_
  refine z_iconst zh dX9_end_1 ki_0 ?_
  refine z_putI zh fl_Y_58 dX9_end_2 ck_Y rfl rfl (Nat.le_of_ble_eq_true rfl) (Or.inl rfl) ?_
  have hG := okR_wI (k := 551) (j := 0) (x := nI 0) hG (w1_no rfl)
  generalize upI iv (551) (0) (nI 0) = iv at hG ⊢
  refine z_aloadnR zh dX9_end_5 rfl ?_
  refine z_iloadn zh dX9_end_6 rfl ?_
  refine z_iconst zh dX9_end_7 ki_0 ?_
  refine z_aloadnR zh dX9_end_8 rfl ?_
  refine z_getI (x := nI 0) zh fl_Y_344 dX9_end_9 ck_Y rfl rfl (r1_taped hG) ?_
  refine z_callVIp zh mv_Y_79 dX9_end_12 ck_Y rfl (c_y_isIn0 g) ⟨Nat.le_of_ble_eq_true rfl, Nat.le_of_ble_eq_true rfl⟩ rfl rfl (Nat.le_of_ble_eq_true rfl) ?_
  refine z_if_ne_B (tgt := 20) zh dX9_end_15 rfl (fun hp1 => ?_) (fun hp1 => ?_)
  · obtain ⟨jx, hjx, rfl⟩ := id hp1
    refine z_aloadnR zh dX9_end_20 rfl ?_
    refine z_iloadn zh dX9_end_21 rfl ?_
    refine z_putI zh fl_Y_344 dX9_end_22 ck_Y rfl rfl (Nat.le_of_ble_eq_true rfl) (Or.inl rfl) ?_
    refine z_iconst zh dX9_end_25 ki_1 ?_
    exact z_zret zh dX9_end_26 (Or.inr rfl) (⟨_, rfl, (by first | rfl | simp (decide := true) only [sel_t, sel_f, selL_t, selL_f, bi_t, bi_f, sel_same, selL_same, eq_self, hp1])⟩)
  · refine z_iconst zh dX9_end_18 ki_0 ?_
    exact z_zret zh dX9_end_19 (Or.inl rfl) (⟨_, rfl, (by first | rfl | simp (decide := true) only [sel_t, sel_f, selL_t, selL_f, bi_t, bi_f, sel_same, selL_same, eq_self, hp1])⟩)
set_option maxRecDepth 20000 in
theorem c_y_raw (g : GE)  {iv : Iv} {lv : Lv} {dd : Nat → Nat} {dm : Nat}  (hG : OkR dd dm iv lv) : ConIp g yX9_raw cX9_raw 2 (some .int) 1 [rf g 551, .int (nI 0)] iv lv ((-1)) := by
  refine con_intro (own := "RollingNetsModel") (by decide +kernel) rfl (Nat.le_of_ble_eq_true rfl) (L0 := [some (rf g 551), some (.int (nI 0))]) rfl (fun Z zh => ?_)
  refine z_iloadn zh dX9_raw_0 rfl ?_
  refine z_aloadnR zh dX9_raw_1 rfl ?_
  refine z_getI (x := nI 0) zh fl_Y_344 dX9_raw_2 ck_Y rfl rfl (r1_taped hG) ?_
  refine z_icmp_ge_N (tgt := 17) zh (by decide) (by decide) dX9_raw_5 rfl (fun _ => ?_) (fun q => absurd q (by decide))
  refine z_iconst zh dX9_raw_17 ki_m1 ?_
  exact z_iret zh dX9_raw_18 (qI rfl)
set_option maxRecDepth 20000 in
theorem c_y_reads (g : GE)  {iv : Iv} {lv : Lv} {dd : Nat → Nat} {dm : Nat} (hs : iv 551 18 = nI 0) (hG : OkR dd dm iv lv) : ConV g yX9_reads cX9_reads 2 none 2 [rf g 551] iv lv (fun iv lv => OkR dd dm iv lv ∧ iv 551 20 = nI 0) := by
  refine con_intro (own := "RollingNetsModel") (by decide +kernel) rfl (Nat.le_of_ble_eq_true rfl) (L0 := [some (rf g 551), none]) rfl (fun Z zh => ?_)
  refine z_aloadnR zh dX9_reads_0 rfl ?_
  refine z_aloadnR zh dX9_reads_1 rfl ?_
  refine z_getI (x := nI 0) zh fl_Y_350 dX9_reads_2 ck_Y rfl rfl hs ?_
  refine z_callVIp zh mv_Y_353 dX9_reads_5 ck_Y rfl (c_y_raw g hG) ⟨Nat.le_of_ble_eq_true rfl, Nat.le_of_ble_eq_true rfl⟩ rfl rfl (Nat.le_of_ble_eq_true rfl) ?_
  refine z_bipush zh dX9_reads_8 kb_32 ?_
  refine z_icmp_eq (tgt := 26) zh dX9_reads_10 rfl (fun q => absurd q.symm (nI_nm1 (by decide))) (fun _ => ?_)
  refine z_aloadnR zh dX9_reads_13 rfl ?_
  refine z_aloadnR zh dX9_reads_14 rfl ?_
  refine z_getI (x := nI 0) zh fl_Y_350 dX9_reads_15 ck_Y rfl rfl hs ?_
  refine z_callVIp zh mv_Y_353 dX9_reads_18 ck_Y rfl (c_y_raw g hG) ⟨Nat.le_of_ble_eq_true rfl, Nat.le_of_ble_eq_true rfl⟩ rfl rfl (Nat.le_of_ble_eq_true rfl) ?_
  refine z_bipush zh dX9_reads_21 kb_10 ?_
  refine z_icmp_ne (tgt := 39) zh dX9_reads_23 rfl (fun _ => ?_) (fun q => absurd q.symm (nI_nm1 (by decide)))
  refine z_aloadnR zh dX9_reads_39 rfl ?_
  refine z_aloadnR zh dX9_reads_40 rfl ?_
  refine z_getI (x := nI 0) zh fl_Y_350 dX9_reads_41 ck_Y rfl rfl hs ?_
  refine z_putI zh fl_Y_356 dX9_reads_44 ck_Y rfl rfl (Nat.le_of_ble_eq_true rfl) (Or.inl rfl) ?_
  have hs : upI iv 551 19 (nI 0) 551 18 = nI 0 := by rw [upI_at, if_neg (by omega)]; exact hs
  have ht : upI iv 551 19 (nI 0) 551 19 = nI 0 := by rw [upI_at, if_pos ⟨rfl, rfl⟩]
  have hG := okR_wI (k := 551) (j := 19) (x := nI 0) hG (w1_no rfl)
  generalize upI iv (551) (19) (nI 0) = iv at hG hs ht ⊢
  refine z_aloadnR zh dX9_reads_47 rfl ?_
  refine z_iconst zh dX9_reads_48 ki_1 ?_
  refine z_putI zh fl_Y_359 dX9_reads_49 ck_Y rfl rfl (Nat.le_of_ble_eq_true rfl) (Or.inl rfl) ?_
  have hs : upI iv 551 20 (nI 1) 551 18 = nI 0 := by rw [upI_at, if_neg (by omega)]; exact hs
  have ht : upI iv 551 20 (nI 1) 551 20 = nI 1 := by rw [upI_at, if_pos ⟨rfl, rfl⟩]
  have hG := okR_wI (k := 551) (j := 20) (x := nI 1) hG (w1_no rfl)
  generalize upI iv (551) (20) (nI 1) = iv at hG hs ht ⊢
  refine z_aloadnR zh dX9_reads_52 rfl ?_
  refine z_aloadnR zh dX9_reads_53 rfl ?_
  refine z_getI (x := nI 0) zh fl_Y_350 dX9_reads_54 ck_Y rfl rfl hs ?_
  refine z_callVIp zh mv_Y_353 dX9_reads_57 ck_Y rfl (c_y_raw g hG) ⟨Nat.le_of_ble_eq_true rfl, Nat.le_of_ble_eq_true rfl⟩ rfl rfl (Nat.le_of_ble_eq_true rfl) ?_
  refine z_istoren zh dX9_reads_60 (by decide) (L' := [some (rf g 551), some (.int (-1))]) rfl ?_
  refine z_iloadn zh dX9_reads_61 rfl ?_
  refine z_iconst zh dX9_reads_62 ki_m1 ?_
  refine z_icmp_ne (tgt := 72) zh dX9_reads_63 rfl (fun q => absurd rfl q) (fun _ => ?_)
  refine z_aloadnR zh dX9_reads_66 rfl ?_
  refine z_iconst zh dX9_reads_67 ki_0 ?_
  refine z_putI zh fl_Y_359 dX9_reads_68 ck_Y rfl rfl (Nat.le_of_ble_eq_true rfl) (Or.inl rfl) ?_
  have hs : upI iv 551 20 (nI 0) 551 18 = nI 0 := by rw [upI_at, if_neg (by omega)]; exact hs
  have ht : upI iv 551 20 (nI 0) 551 20 = nI 0 := by rw [upI_at, if_pos ⟨rfl, rfl⟩]
  have hG := okR_wI (k := 551) (j := 20) (x := nI 0) hG (w1_no rfl)
  generalize upI iv (551) (20) (nI 0) = iv at hG hs ht ⊢
  exact z_vret zh dX9_reads_71 (⟨rfl, hG, ht⟩)
set_option maxRecDepth 20000 in
theorem c_y_readPlan (g : GE)  {iv : Iv} {lv : Lv} {dd : Nat → Nat} {dm : Nat}  (hG : OkR dd dm iv lv) : ConI g yX9_readPlan cX9_readPlan 2 (some .int) 3 [rf g 551] iv lv (fun r iv lv => OkR dd dm iv lv ∧ r = nI 0) := by
  refine con_intro (own := "RollingNetsModel") (by decide +kernel) rfl (Nat.le_of_ble_eq_true rfl) (L0 := [some (rf g 551), none]) rfl (fun Z zh => ?_)
  refine z_iconst zh dX9_readPlan_0 ki_0 ?_
  refine z_istoren zh dX9_readPlan_1 (by decide) (L' := [some (rf g 551), some (.int (nI 0))]) rfl ?_
  refine z_aloadnR zh dX9_readPlan_2 rfl ?_
  refine z_iconst zh dX9_readPlan_3 ki_0 ?_
  refine z_putI zh fl_Y_350 dX9_readPlan_4 ck_Y rfl rfl (Nat.le_of_ble_eq_true rfl) (Or.inl rfl) ?_
  have hs : upI iv 551 18 (nI 0) 551 18 = nI 0 := by rw [upI_at, if_pos ⟨rfl, rfl⟩]
  have hG := okR_wI (k := 551) (j := 18) (x := nI 0) hG (w1_no rfl)
  generalize upI iv (551) (18) (nI 0) = iv at hG hs ⊢
  refine z_aloadnR zh dX9_readPlan_7 rfl ?_
  refine z_callVV zh mv_Y_383 dX9_readPlan_8 ck_Y rfl (c_y_reads g hs hG) ⟨Nat.le_of_ble_eq_true rfl, Nat.le_of_ble_eq_true rfl⟩ rfl rfl (Nat.le_of_ble_eq_true rfl) ?_
  rintro iv lv ⟨hG, ht⟩
  refine z_aloadnR zh dX9_readPlan_11 rfl ?_
  refine z_getI (x := nI 0) zh fl_Y_359 dX9_readPlan_12 ck_Y rfl rfl ht ?_
  refine z_if_eq_N (tgt := 36) zh (by decide) dX9_readPlan_15 rfl (fun _ => ?_) (fun q => absurd q (by decide))
  refine z_iloadn zh dX9_readPlan_36 rfl ?_
  exact z_iret zh dX9_readPlan_37 (⟨_, rfl, hG, rfl⟩)
set_option maxRecDepth 20000 in
theorem c_Y_plan (g : GE)  {iv : Iv} {lv : Lv} {dd : Nat → Nat} {dm : Nat}  (hG : OkR dd dm iv lv) : ConI g yX9_plan cX9_plan 3 (some .int) 4 [rf g 551] iv lv (fun r _ _ => r = nI 0) := by
  refine con_intro (own := "RollingNetsModel") (by decide +kernel) rfl (Nat.le_of_ble_eq_true rfl) (L0 := [some (rf g 551), none, none]) rfl (fun Z zh => ?_)
  refine z_aloadnR zh dX9_plan_0 rfl ?_
  refine z_iconst zh dX9_plan_1 ki_0 ?_
  refine z_putI zh fl_Y_58 dX9_plan_2 ck_Y rfl rfl (Nat.le_of_ble_eq_true rfl) (Or.inl rfl) ?_
  have hG := okR_wI (k := 551) (j := 0) (x := nI 0) hG (w1_no rfl)
  generalize upI iv (551) (0) (nI 0) = iv at hG ⊢
  refine z_aloadnR zh dX9_plan_5 rfl ?_
  refine z_iconst zh dX9_plan_6 ki_0 ?_
  refine z_putI zh fl_Y_401 dX9_plan_7 ck_Y rfl rfl (Nat.le_of_ble_eq_true rfl) (Or.inl rfl) ?_
  have hG := okR_wI (k := 551) (j := 25) (x := nI 0) hG (w1_eq rfl)
  generalize upI iv (551) (25) (nI 0) = iv at hG ⊢
  refine z_aloadnR zh dX9_plan_10 rfl ?_
  refine z_iconst zh dX9_plan_11 ki_m1 ?_
  refine z_putI zh fl_Y_45 dX9_plan_12 ck_Y rfl rfl (Nat.le_of_ble_eq_true rfl) (Or.inl rfl) ?_
  have hG := okR_wI (k := 551) (j := 26) (x := (-1)) hG (w1_eq rfl)
  generalize upI iv (551) (26) ((-1)) = iv at hG ⊢
  refine z_aloadnR zh dX9_plan_15 rfl ?_
  refine z_callVI zh mv_Y_404 dX9_plan_16 ck_Y rfl (c_y_readPlan g hG) ⟨Nat.le_of_ble_eq_true rfl, Nat.le_of_ble_eq_true rfl⟩ rfl rfl (Nat.le_of_ble_eq_true rfl) ?_
  rintro _ iv lv ⟨hG, rfl⟩
  refine z_istoren zh dX9_plan_19 (by decide) (L' := [some (rf g 551), some (.int (nI 0)), none]) rfl ?_
  refine z_iloadn zh dX9_plan_20 rfl ?_
  refine z_iconst zh dX9_plan_21 ki_m1 ?_
  refine z_icmp_ne (tgt := 41) zh dX9_plan_22 rfl (fun _ => ?_) (fun q => absurd q (nI_nm1 (by decide)))
  refine z_aloadnR zh dX9_plan_41 rfl ?_
  refine z_iconst zh dX9_plan_42 ki_0 ?_
  refine z_putI zh fl_Y_344 dX9_plan_43 ck_Y rfl rfl (Nat.le_of_ble_eq_true rfl) (Or.inl rfl) ?_
  have hG := okR_wI (k := 551) (j := 17) (x := nI 0) hG (w1_eq rfl)
  generalize upI iv (551) (17) (nI 0) = iv at hG ⊢
  refine z_iloadn zh dX9_plan_46 rfl ?_
  refine z_iconst zh dX9_plan_47 ki_m1 ?_
  refine z_icmp_ne (tgt := 53) zh dX9_plan_48 rfl (fun _ => ?_) (fun q => absurd q (nI_nm1 (by decide)))
  refine z_iconst zh dX9_plan_53 ki_0 ?_
  refine z_istoren zh dX9_plan_54 (by decide) (L' := [some (rf g 551), some (.int (nI 0)), some (.int (nI 0))]) rfl ?_
  refine z_iloadn zh dX9_plan_55 rfl ?_
  refine z_bipush zh dX9_plan_56 kb_6 ?_
  refine z_iloadn zh dX9_plan_58 rfl ?_
  refine z_imulN zh dX9_plan_59 ?_
  refine z_icmp_ge_N (tgt := 85) zh (by decide) (by decide) dX9_plan_60 rfl (fun _ => ?_) (fun q => absurd q (by decide))
  refine z_aloadnR zh dX9_plan_85 rfl ?_
  refine z_iloadn zh dX9_plan_86 rfl ?_
  refine z_putI zh fl_Y_407 dX9_plan_87 ck_Y rfl rfl (Nat.le_of_ble_eq_true rfl) (Or.inl rfl) ?_
  have hG := okR_wI (k := 551) (j := 27) (x := nI 0) hG (w1_eq rfl)
  generalize upI iv (551) (27) (nI 0) = iv at hG ⊢
  refine z_aloadnR zh dX9_plan_90 rfl ?_
  refine z_getf zh fl_Y_7 dX9_plan_91 ck_Y rfl rfl ?_
  refine z_bipush zh dX9_plan_94 kb_10 ?_
  refine z_iconst zh dX9_plan_96 ki_0 ?_
  refine z_iastN zh ck_now dX9_plan_97 (by decide) ?_
  have hG := okR_wI (k := 552) (j := 10) (x := nI 0) hG (w1_now (by decide) rfl)
  generalize upI iv (552) (10) (nI 0) = iv at hG ⊢
  refine z_iloadn zh dX9_plan_98 rfl ?_
  exact z_iret zh dX9_plan_99 (⟨_, rfl, rfl⟩)
set_option maxRecDepth 20000 in
theorem c_Y_fault (g : GE) {w : Int32} {iv : Iv} {lv : Lv} {dd : Nat → Nat} {dm : Nat}  (hG : OkR dd dm iv lv) : ConI g yX9_fault cX9_fault 2 (some .int) 1 [rf g 551, .int w] iv lv (fun r _ _ => r = sp_fault w) := by
  refine con_intro (own := "RollingNetsModel") (by decide +kernel) rfl (Nat.le_of_ble_eq_true rfl) (L0 := [some (rf g 551), some (.int w)]) rfl (fun Z zh => ?_)
  refine z_aloadnR zh dX9_fault_0 rfl ?_
  refine z_iconst zh dX9_fault_1 ki_0 ?_
  refine z_putI zh fl_Y_58 dX9_fault_2 ck_Y rfl rfl (Nat.le_of_ble_eq_true rfl) (Or.inl rfl) ?_
  have hG := okR_wI (k := 551) (j := 0) (x := nI 0) hG (w1_no rfl)
  generalize upI iv (551) (0) (nI 0) = iv at hG ⊢
  refine z_iloadn zh dX9_fault_5 rfl ?_
  refine z_if_ne (tgt := 16) zh dX9_fault_6 rfl (fun hb1 => ?_) (fun hb1 => ?_)
  · refine z_iloadn zh dX9_fault_16 rfl ?_
    refine z_iconst zh dX9_fault_17 ki_1 ?_
    refine z_icmp_ne (tgt := 28) zh dX9_fault_18 rfl (fun hb2 => ?_) (fun hb2 => ?_)
    · refine z_iconst zh dX9_fault_28 ki_m1 ?_
      exact z_iret zh dX9_fault_29 (⟨_, rfl, (by unfold sp_fault; first | exact (sel_f (show ¬ w = nI 0 from hb1)).symm | (rw [show w = nI 0 from hb1]; exact (sel_t rfl).symm))⟩)
    · refine z_aloadnR zh dX9_fault_21 rfl ?_
      refine z_getI (x := (-1)) zh fl_Y_45 dX9_fault_22 ck_Y rfl rfl (r1_fp hG) ?_
      refine z_goto (tgt := 29) zh dX9_fault_25 rfl ?_
      exact z_iret zh dX9_fault_29 (⟨_, rfl, (by unfold sp_fault; first | exact (sel_f (show ¬ w = nI 0 from hb1)).symm | (rw [show w = nI 0 from hb1]; exact (sel_t rfl).symm))⟩)
  · refine z_aloadnR zh dX9_fault_9 rfl ?_
    refine z_getI (x := nI 0) zh fl_Y_401 dX9_fault_10 ck_Y rfl rfl (r1_fk hG) ?_
    refine z_goto (tgt := 29) zh dX9_fault_13 rfl ?_
    exact z_iret zh dX9_fault_29 (⟨_, rfl, (by unfold sp_fault; first | exact (sel_f (show ¬ w = nI 0 from hb1)).symm | (rw [show w = nI 0 from hb1]; exact (sel_t rfl).symm))⟩)
set_option maxRecDepth 20000 in
theorem c_Y_run (g : GE) {x : Int32} {iv : Iv} {lv : Lv} {dd : Nat → Nat} {dm : Nat}  (hG : OkR dd dm iv lv) : ConI g yX9_run cX9_run 4 (some .int) 3 [rf g 551, .int x] iv lv (fun r _ _ => r = sel (Rg (nI 1) (nI 24) x) (nI 0) (-1)) := by
  refine con_intro (own := "RollingNetsModel") (by decide +kernel) rfl (Nat.le_of_ble_eq_true rfl) (L0 := [some (rf g 551), some (.int x), none, none]) rfl (fun Z zh => ?_)
  refine z_aloadnR zh dX9_run_0 rfl ?_
  refine z_iconst zh dX9_run_1 ki_0 ?_
  refine z_putI zh fl_Y_58 dX9_run_2 ck_Y rfl rfl (Nat.le_of_ble_eq_true rfl) (Or.inl rfl) ?_
  have hG := okR_wI (k := 551) (j := 0) (x := nI 0) hG (w1_no rfl)
  generalize upI iv (551) (0) (nI 0) = iv at hG ⊢
  refine z_aloadnR zh dX9_run_5 rfl ?_
  refine z_iloadn zh dX9_run_6 rfl ?_
  refine z_iconst zh dX9_run_7 ki_1 ?_
  refine z_bipush zh dX9_run_8 kb_24 ?_
  refine z_callVIp zh mv_Y_79 dX9_run_10 ck_Y rfl (c_y_isIn g) ⟨Nat.le_of_ble_eq_true rfl, Nat.le_of_ble_eq_true rfl⟩ rfl rfl (Nat.le_of_ble_eq_true rfl) ?_
  refine z_if_ne_B (tgt := 18) zh dX9_run_13 rfl (fun hp1 => ?_) (fun hp1 => ?_)
  · obtain ⟨jx, hljx, hhjx, rfl⟩ := Rg_nat (a := 1) (b := 24) (by omega) (by omega) hp1
    refine z_iconst zh dX9_run_18 ki_0 ?_
    refine z_istoren zh dX9_run_19 (by decide) (L' := [some (rf g 551), some (.int (nI jx)), some (.int (nI 0)), none]) rfl ?_
    refine z_iconst zh dX9_run_20 ki_0 ?_
    refine z_istoren zh dX9_run_21 (by decide) (L' := [some (rf g 551), some (.int (nI jx)), some (.int (nI 0)), some (.int (nI 0))]) rfl ?_
    refine z_iloadn zh dX9_run_22 rfl ?_
    refine z_iloadn zh dX9_run_23 rfl ?_
    refine z_icmp_ge_N (tgt := 84) zh (by decide) (by omega) dX9_run_24 rfl (fun q => absurd q (by omega)) (fun _ => ?_)
    refine z_aloadnR zh dX9_run_27 rfl ?_
    refine z_getf zh fl_Y_7 dX9_run_28 ck_Y rfl rfl ?_
    refine z_bipush zh dX9_run_31 kb_10 ?_
    refine z_ialdE (x := nI 0) zh ck_now dX9_run_33 (by decide) (r1_now hG (by decide)) ?_
    refine z_aloadnR zh dX9_run_34 rfl ?_
    refine z_getI (x := nI 0) zh fl_Y_407 dX9_run_35 ck_Y rfl rfl (r1_planMany hG) ?_
    refine z_icmp_ge_N (tgt := 84) zh (by decide) (by decide) dX9_run_38 rfl (fun _ => ?_) (fun q => absurd q (by decide))
    refine z_iloadn zh dX9_run_84 rfl ?_
    exact z_iret zh dX9_run_85 (⟨_, rfl, (by first | rfl | simp (decide := true) only [sel_t, sel_f, selL_t, selL_f, bi_t, bi_f, sel_same, selL_same, eq_self, hp1])⟩)
  · refine z_iconst zh dX9_run_16 ki_m1 ?_
    exact z_iret zh dX9_run_17 (⟨_, rfl, (by first | rfl | simp (decide := true) only [sel_t, sel_f, selL_t, selL_f, bi_t, bi_f, sel_same, selL_same, eq_self, hp1])⟩)
set_option maxRecDepth 20000 in
theorem c_y_allCash (g : GE)  {iv : Iv} {lv : Lv} {dd : Nat → Nat} {dm : Nat}  (hG : OkR dd dm iv lv) : ConIp g yX9_allCash cX9_allCash 4 (some .int) 1 [rf g 551] iv lv (nI 0) := by
  refine con_intro (own := "RollingNetsModel") (by decide +kernel) rfl (Nat.le_of_ble_eq_true rfl) (L0 := [some (rf g 551), none, none, none]) rfl (fun Z zh => ?_)
  refine z_lconst (v := 0) zh dX9_allCash_0 (by decide) ?_
  refine z_lstoren zh dX9_allCash_1 (by decide) (L' := [some (rf g 551), some (.long (0 : Int64)), none, none]) rfl ?_
  refine z_iconst zh dX9_allCash_2 ki_0 ?_
  refine z_istoren zh dX9_allCash_3 (by decide) (L' := [some (rf g 551), some (.long (0 : Int64)), none, some (.int (nI 0))]) rfl ?_
  have hl4 : ∀ (n k4 : Nat), k4 ≤ 12 → 12 - k4 < n → Z 4 [some (rf g 551), some (.long (0 : Int64)), none, some (.int (nI k4))] [] iv lv := by
    intro n
    induction n with
    | zero => intro k4 _ hn; exact absurd hn (Nat.not_lt_zero _)
    | succ n ih4 =>
      intro k4 hk4 hn4
      refine z_iloadn zh dX9_allCash_4 rfl ?_
      refine z_bipush zh dX9_allCash_5 kb_12 ?_
      refine z_icmp_ge_N (tgt := 25) zh (by omega) (by decide) dX9_allCash_7 rfl (fun hb1 => ?_) (fun hb1 => ?_)
      · refine z_lloadn zh dX9_allCash_25 rfl ?_
        refine z_l2i zh dX9_allCash_26 ?_
        rw [show ((0 : Int64)).toInt32 = nI 0 from by decide]
        exact z_iret zh dX9_allCash_27 (qI rfl)
      · refine z_lloadn zh dX9_allCash_10 rfl ?_
        refine z_aloadnR zh dX9_allCash_11 rfl ?_
        refine z_getf zh fl_Y_16 dX9_allCash_12 ck_Y rfl rfl ?_
        refine z_iloadn zh dX9_allCash_15 rfl ?_
        refine z_laldE (x := (0 : Int64)) zh ck_coins dX9_allCash_16 (by omega) (r1_coins hG) ?_
        refine z_ladd zh dX9_allCash_17 ?_
        rw [show (0 : Int64) + (0 : Int64) = (0 : Int64) from by decide]
        refine z_lstoren zh dX9_allCash_18 (by decide) (L' := [some (rf g 551), some (.long (0 : Int64)), none, some (.int (nI k4))]) rfl ?_
        refine z_iincN zh dX9_allCash_19 ki_1 (by decide) rfl (L' := [some (rf g 551), some (.long (0 : Int64)), none, some (.int (nI (k4 + 1)))]) rfl ?_
        refine z_goto (tgt := 4) zh dX9_allCash_22 rfl ?_
        exact ih4 (k4 + 1) (by omega) (by omega)
  exact hl4 13 0 (by omega) (by omega)
set_option maxRecDepth 20000 in
theorem c_y_openNotices (g : GE)  {iv : Iv} {lv : Lv} {dd : Nat → Nat} {dm : Nat}  (hG : OkR dd dm iv lv) : ConIp g yX9_openNotices cX9_openNotices 3 (some .int) 2 [rf g 551] iv lv (nI 0) := by
  refine con_intro (own := "RollingNetsModel") (by decide +kernel) rfl (Nat.le_of_ble_eq_true rfl) (L0 := [some (rf g 551), none, none]) rfl (fun Z zh => ?_)
  refine z_iconst zh dX9_openNotices_0 ki_0 ?_
  refine z_istoren zh dX9_openNotices_1 (by decide) (L' := [some (rf g 551), some (.int (nI 0)), none]) rfl ?_
  refine z_iconst zh dX9_openNotices_2 ki_0 ?_
  refine z_istoren zh dX9_openNotices_3 (by decide) (L' := [some (rf g 551), some (.int (nI 0)), some (.int (nI 0))]) rfl ?_
  refine z_iloadn zh dX9_openNotices_4 rfl ?_
  refine z_aloadnR zh dX9_openNotices_5 rfl ?_
  refine z_getf zh fl_Y_7 dX9_openNotices_6 ck_Y rfl rfl ?_
  refine z_bipush zh dX9_openNotices_9 kb_8 ?_
  refine z_ialdE (x := nI 0) zh ck_now dX9_openNotices_11 (by decide) (r1_now hG (by decide)) ?_
  refine z_icmp_ge_N (tgt := 30) zh (by decide) (by decide) dX9_openNotices_12 rfl (fun _ => ?_) (fun q => absurd q (by decide))
  refine z_iloadn zh dX9_openNotices_30 rfl ?_
  exact z_iret zh dX9_openNotices_31 (qI rfl)
set_option maxRecDepth 20000 in
theorem c_y_shortSet (g : GE)  {iv : Iv} {lv : Lv} {dd : Nat → Nat} {dm : Nat}  (hG : OkR dd dm iv lv) : ConIp g yX9_shortSet cX9_shortSet 4 (some .int) 4 [rf g 551] iv lv (nI 0) := by
  refine con_intro (own := "RollingNetsModel") (by decide +kernel) rfl (Nat.le_of_ble_eq_true rfl) (L0 := [some (rf g 551), none, none, none]) rfl (fun Z zh => ?_)
  refine z_iconst zh dX9_shortSet_0 ki_0 ?_
  refine z_istoren zh dX9_shortSet_1 (by decide) (L' := [some (rf g 551), some (.int (nI 0)), none, none]) rfl ?_
  refine z_iconst zh dX9_shortSet_2 ki_0 ?_
  refine z_istoren zh dX9_shortSet_3 (by decide) (L' := [some (rf g 551), some (.int (nI 0)), some (.int (nI 0)), none]) rfl ?_
  have hl4 : ∀ (n k4 : Nat), k4 ≤ 6 → 6 - k4 < n → Z 4 [some (rf g 551), some (.int (nI 0)), some (.int (nI k4)), none] [] iv lv := by
    intro n
    induction n with
    | zero => intro k4 _ hn; exact absurd hn (Nat.not_lt_zero _)
    | succ n ih4 =>
      intro k4 hk4 hn4
      refine z_iloadn zh dX9_shortSet_4 rfl ?_
      refine z_aloadnR zh dX9_shortSet_5 rfl ?_
      refine z_callVIp zh mv_Y_61 dX9_shortSet_6 ck_Y rfl (c_y_memberMany g  hG) ⟨Nat.le_of_ble_eq_true rfl, Nat.le_of_ble_eq_true rfl⟩ rfl rfl (Nat.le_of_ble_eq_true rfl) ?_
      refine z_icmp_ge_N (tgt := 47) zh (by omega) (by decide) dX9_shortSet_9 rfl (fun hb1 => ?_) (fun hb1 => ?_)
      · refine z_iloadn zh dX9_shortSet_47 rfl ?_
        exact z_iret zh dX9_shortSet_48 (qI rfl)
      · refine z_iconst zh dX9_shortSet_12 ki_0 ?_
        refine z_istoren zh dX9_shortSet_13 (by decide) (L' := [some (rf g 551), some (.int (nI 0)), some (.int (nI k4)), some (.int (nI 0))]) rfl ?_
        have hl14 : ∀ (n k14 : Nat), k14 ≤ 6 → 6 - k14 < n → Z 14 [some (rf g 551), some (.int (nI 0)), some (.int (nI k4)), some (.int (nI k14))] [] iv lv := by
          intro n
          induction n with
          | zero => intro k14 _ hn; exact absurd hn (Nat.not_lt_zero _)
          | succ n ih14 =>
            intro k14 hk14 hn14
            refine z_iloadn zh dX9_shortSet_14 rfl ?_
            refine z_bipush zh dX9_shortSet_15 kb_6 ?_
            refine z_icmp_ge_N (tgt := 41) zh (by omega) (by decide) dX9_shortSet_17 rfl (fun hb2 => ?_) (fun hb2 => ?_)
            · refine z_iincN zh dX9_shortSet_41 ki_1 (by decide) rfl (L' := [some (rf g 551), some (.int (nI 0)), some (.int (nI (k4 + 1))), some (.int (nI k14))]) rfl ?_
              refine z_goto (tgt := 4) zh dX9_shortSet_44 rfl ?_
              refine z_forget zh [true, true, true, false] (L2 := [some (rf g 551), some (.int (nI 0)), some (.int (nI (k4 + 1))), none]) rfl ?_; exact ih4 (k4 + 1) (by omega) (by omega)
            · refine z_aloadnR zh dX9_shortSet_20 rfl ?_
              refine z_iloadn zh dX9_shortSet_21 rfl ?_
              refine z_iloadn zh dX9_shortSet_22 rfl ?_
              refine z_callVIp zh mv_Y_116 dX9_shortSet_23 ck_Y rfl (c_y_isShort g (by omega) (by omega) hG) ⟨Nat.le_of_ble_eq_true rfl, Nat.le_of_ble_eq_true rfl⟩ rfl rfl (Nat.le_of_ble_eq_true rfl) ?_
              refine z_if_eq_N (tgt := 35) zh (by decide) dX9_shortSet_26 rfl (fun _ => ?_) (fun q => absurd q (by decide))
              refine z_iincN zh dX9_shortSet_35 ki_1 (by decide) rfl (L' := [some (rf g 551), some (.int (nI 0)), some (.int (nI k4)), some (.int (nI (k14 + 1)))]) rfl ?_
              refine z_goto (tgt := 14) zh dX9_shortSet_38 rfl ?_
              exact ih14 (k14 + 1) (by omega) (by omega)
        exact hl14 7 0 (by omega) (by omega)
  exact hl4 7 0 (by omega) (by omega)
set_option maxRecDepth 20000 in
theorem c_y_lackMany (g : GE)  {iv : Iv} {lv : Lv} {dd : Nat → Nat} {dm : Nat}  (hG : OkR dd dm iv lv) : ConIp g yX9_lackMany cX9_lackMany 3 (some .int) 5 [rf g 551] iv lv (nI 0) := by
  refine con_intro (own := "RollingNetsModel") (by decide +kernel) rfl (Nat.le_of_ble_eq_true rfl) (L0 := [some (rf g 551), none, none]) rfl (fun Z zh => ?_)
  refine z_iconst zh dX9_lackMany_0 ki_0 ?_
  refine z_istoren zh dX9_lackMany_1 (by decide) (L' := [some (rf g 551), some (.int (nI 0)), none]) rfl ?_
  refine z_iconst zh dX9_lackMany_2 ki_0 ?_
  refine z_istoren zh dX9_lackMany_3 (by decide) (L' := [some (rf g 551), some (.int (nI 0)), some (.int (nI 0))]) rfl ?_
  have hl4 : ∀ (n k4 : Nat), k4 ≤ 6 → 6 - k4 < n → Z 4 [some (rf g 551), some (.int (nI 0)), some (.int (nI k4))] [] iv lv := by
    intro n
    induction n with
    | zero => intro k4 _ hn; exact absurd hn (Nat.not_lt_zero _)
    | succ n ih4 =>
      intro k4 hk4 hn4
      refine z_iloadn zh dX9_lackMany_4 rfl ?_
      refine z_aloadnR zh dX9_lackMany_5 rfl ?_
      refine z_callVIp zh mv_Y_61 dX9_lackMany_6 ck_Y rfl (c_y_memberMany g  hG) ⟨Nat.le_of_ble_eq_true rfl, Nat.le_of_ble_eq_true rfl⟩ rfl rfl (Nat.le_of_ble_eq_true rfl) ?_
      refine z_icmp_ge_N (tgt := 32) zh (by omega) (by decide) dX9_lackMany_9 rfl (fun hb1 => ?_) (fun hb1 => ?_)
      · refine z_iloadn zh dX9_lackMany_32 rfl ?_
        exact z_iret zh dX9_lackMany_33 (qI rfl)
      · refine z_aloadnR zh dX9_lackMany_12 rfl ?_
        refine z_iloadn zh dX9_lackMany_13 rfl ?_
        refine z_callVLp zh mv_Y_324 dX9_lackMany_14 ck_Y rfl (c_y_lacksOf g (by omega) hG) ⟨Nat.le_of_ble_eq_true rfl, Nat.le_of_ble_eq_true rfl⟩ rfl rfl (Nat.le_of_ble_eq_true rfl) ?_
        refine z_lconst (v := 0) zh dX9_lackMany_17 (by decide) ?_
        refine z_lcmp zh dX9_lackMany_18 ?_
        rw [show lg_cmp (0 : Int64) (0 : Int64) = nI 0 from by decide]
        refine z_if_le_N (tgt := 26) zh (by decide) dX9_lackMany_19 rfl (fun _ => ?_) (fun q => absurd q (by decide))
        refine z_iincN zh dX9_lackMany_26 ki_1 (by decide) rfl (L' := [some (rf g 551), some (.int (nI 0)), some (.int (nI (k4 + 1)))]) rfl ?_
        refine z_goto (tgt := 4) zh dX9_lackMany_29 rfl ?_
        exact ih4 (k4 + 1) (by omega) (by omega)
  exact hl4 7 0 (by omega) (by omega)
