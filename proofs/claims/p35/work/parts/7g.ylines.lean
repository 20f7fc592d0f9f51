/-! READING A PLAN: the reference's numbers and lines -/
def FE (iv iv' : Iv) : Prop := ∀ k j : Nat, ¬ (k = 551 ∧ 18 ≤ j ∧ j ≤ 24) → iv' k j = iv k j
theorem fe_y {iv iv' : Iv} (h : FY iv iv') : FE iv iv' := fun k j w => h k j (by omega)
theorem fe_t {iv iv' iv2 : Iv} (h : FE iv iv') (h2 : FE iv' iv2) : FE iv iv2 := fun k j w => (h2 k j w).trans (h k j w)
theorem h_X9_errs (g : GE) {sp : Nat → Nat → Bool} {σ iv : Iv} {lv : Lv} {a1 : Int32} {q : Nat} (hG : SI sp σ iv) (e19 : iv 551 19 = nI q) : ConI g yX9_errs cX9_errs 2 (some .int) 1 [rf g 551, .int a1] iv lv (fun r iv' lv' => SI sp σ iv' ∧ r = -1 ∧ iv' 551 23 = a1 ∧ iv' 551 24 = nI q ∧ FE iv iv') := by
  refine con_intro (own := "RollingNetsModel") (by decide +kernel) rfl (Nat.le_of_ble_eq_true rfl) (L0 := [some (rf g 551), some (.int a1)]) rfl (fun Z zh => ?_)
  refine z_aloadnR zh dX9_errs_0 rfl ?_
  refine z_iloadn zh dX9_errs_1 rfl ?_
  refine z_putI zh fl_Y_374 dX9_errs_2 ck_Y rfl rfl (Nat.le_of_ble_eq_true rfl) (Or.inl rfl) ?_
  have hG1 : SI sp σ (upI iv 551 23 a1) := yw hG (by decide) (Or.inr (by decide))
  have e1 : upI iv 551 23 a1 551 19 = nI q := (upI_ne (Or.inr (by decide))).trans e19
  refine z_aloadnR zh dX9_errs_5 rfl ?_
  refine z_aloadnR zh dX9_errs_6 rfl ?_
  refine z_getI (x := nI q) zh fl_Y_356 dX9_errs_7 ck_Y rfl rfl e1 ?_
  refine z_putI zh fl_Y_377 dX9_errs_10 ck_Y rfl rfl (Nat.le_of_ble_eq_true rfl) (Or.inl rfl) ?_
  refine z_iconst zh dX9_errs_13 ki_m1 ?_
  exact z_iret zh dX9_errs_14 ⟨_, rfl, yw hG1 (by decide) (Or.inr (by decide)), rfl, (upI_ne (Or.inr (by decide))).trans (by rw [upI_at, if_pos ⟨rfl, rfl⟩]), by rw [upI_at, if_pos ⟨rfl, rfl⟩], fun k j w => (upI_ne (by omega)).trans (upI_ne (by omega))⟩
set_option maxHeartbeats 1000000 in
set_option maxRecDepth 20000 in
theorem h_X9_manyOf (g : GE) {iv : Iv} {lv : Lv} {k : Nat} (hk : k < 10) : ConIp g yX9_manyOf cX9_manyOf 2 (some .int) 1 [rf g 551, .int (nI k)] iv lv (nI (mn k)) := by
  refine con_intro (own := "RollingNetsModel") (by decide +kernel) rfl (Nat.le_of_ble_eq_true rfl) (L0 := [some (rf g 551), some (.int (nI k))]) rfl (fun Z zh => ?_)
  refine z_iloadn zh dX9_manyOf_0 rfl ?_
  refine z_iconst zh dX9_manyOf_1 ki_2 ?_
  refine z_icmp_ge_N (tgt := 9) zh (by omega) (by omega) dX9_manyOf_2 rfl (fun q1 => ?_) (fun q1 => ?_)
  · refine z_iloadn zh dX9_manyOf_9 rfl ?_
    refine z_iconst zh dX9_manyOf_10 ki_4 ?_
    refine z_icmp_le_N (tgt := 20) zh (by omega) (by omega) dX9_manyOf_11 rfl (fun q3 => ?_) (fun q3 => ?_)
    · refine z_iconst zh dX9_manyOf_20 ki_3 ?_
      refine z_goto (tgt := 35) zh dX9_manyOf_21 rfl ?_
      exact z_iret zh dX9_manyOf_35 (qI (by rcases (by omega : k = 0 ∨ k = 1 ∨ k = 2 ∨ k = 3 ∨ k = 4 ∨ k = 5 ∨ k = 6 ∨ k = 7 ∨ k = 8 ∨ k = 9) with rfl | rfl | rfl | rfl | rfl | rfl | rfl | rfl | rfl | rfl <;> first | rfl | omega))
    · refine z_iloadn zh dX9_manyOf_14 rfl ?_
      refine z_bipush zh dX9_manyOf_15 kb_7 ?_
      refine z_icmp_ne_N (tgt := 24) zh (by omega) (by omega) dX9_manyOf_17 rfl (fun q6 => ?_) (fun q6 => ?_)
      · refine z_iloadn zh dX9_manyOf_24 rfl ?_
        refine z_bipush zh dX9_manyOf_25 kb_6 ?_
        refine z_icmp_gt_N (tgt := 34) zh (by omega) (by omega) dX9_manyOf_27 rfl (fun q7 => ?_) (fun q7 => ?_)
        · refine z_iconst zh dX9_manyOf_34 ki_1 ?_
          exact z_iret zh dX9_manyOf_35 (qI (by rcases (by omega : k = 0 ∨ k = 1 ∨ k = 2 ∨ k = 3 ∨ k = 4 ∨ k = 5 ∨ k = 6 ∨ k = 7 ∨ k = 8 ∨ k = 9) with rfl | rfl | rfl | rfl | rfl | rfl | rfl | rfl | rfl | rfl <;> first | rfl | omega))
        · refine z_iconst zh dX9_manyOf_30 ki_2 ?_
          refine z_goto (tgt := 35) zh dX9_manyOf_31 rfl ?_
          exact z_iret zh dX9_manyOf_35 (qI (by rcases (by omega : k = 0 ∨ k = 1 ∨ k = 2 ∨ k = 3 ∨ k = 4 ∨ k = 5 ∨ k = 6 ∨ k = 7 ∨ k = 8 ∨ k = 9) with rfl | rfl | rfl | rfl | rfl | rfl | rfl | rfl | rfl | rfl <;> first | rfl | omega))
      · refine z_iconst zh dX9_manyOf_20 ki_3 ?_
        refine z_goto (tgt := 35) zh dX9_manyOf_21 rfl ?_
        exact z_iret zh dX9_manyOf_35 (qI (by rcases (by omega : k = 0 ∨ k = 1 ∨ k = 2 ∨ k = 3 ∨ k = 4 ∨ k = 5 ∨ k = 6 ∨ k = 7 ∨ k = 8 ∨ k = 9) with rfl | rfl | rfl | rfl | rfl | rfl | rfl | rfl | rfl | rfl <;> first | rfl | omega))
  · refine z_iconst zh dX9_manyOf_5 ki_5 ?_
    refine z_goto (tgt := 35) zh dX9_manyOf_6 rfl ?_
    exact z_iret zh dX9_manyOf_35 (qI (by rcases (by omega : k = 0 ∨ k = 1 ∨ k = 2 ∨ k = 3 ∨ k = 4 ∨ k = 5 ∨ k = 6 ∨ k = 7 ∨ k = 8 ∨ k = 9) with rfl | rfl | rfl | rfl | rfl | rfl | rfl | rfl | rfl | rfl <;> first | rfl | omega))
set_option maxHeartbeats 1000000 in
set_option maxRecDepth 20000 in
theorem h_X9_lowOf (g : GE) {iv : Iv} {lv : Lv} {k i : Nat} (hk : k < 10) (hi : i < mn k) : ConIp g yX9_lowOf cX9_lowOf 3 (some .int) 1 [rf g 551, .int (nI k), .int (nI i)] iv lv (nI (lo_b k i)) := by
  refine con_intro (own := "RollingNetsModel") (by decide +kernel) rfl (Nat.le_of_ble_eq_true rfl) (L0 := [some (rf g 551), some (.int (nI k)), some (.int (nI i))]) rfl (fun Z zh => ?_)
  have hi5 : i < 5 := by have := mn_5 k hk; omega
  refine z_iloadn zh dX9_lowOf_0 rfl ?_
  refine z_iconst zh dX9_lowOf_1 ki_2 ?_
  refine z_icmp_ge_N (tgt := 16) zh (by omega) (by omega) dX9_lowOf_2 rfl (fun q1 => ?_) (fun q1 => ?_)
  · refine z_iloadn zh dX9_lowOf_16 rfl ?_
    refine z_bipush zh dX9_lowOf_17 kb_6 ?_
    refine z_icmp_ne_N (tgt := 24) zh (by omega) (by omega) dX9_lowOf_19 rfl (fun q3 => ?_) (fun q3 => ?_)
    · refine z_iloadn zh dX9_lowOf_24 rfl ?_
      refine z_bipush zh dX9_lowOf_25 kb_7 ?_
      refine z_icmp_ne_N (tgt := 41) zh (by omega) (by omega) dX9_lowOf_27 rfl (fun q4 => ?_) (fun q4 => ?_)
      · refine z_iloadn zh dX9_lowOf_41 rfl ?_
        refine z_bipush zh dX9_lowOf_42 kb_8 ?_
        refine z_icmp_le_N (tgt := 51) zh (by omega) (by omega) dX9_lowOf_44 rfl (fun q5 => ?_) (fun q5 => ?_)
        · refine z_iconst zh dX9_lowOf_51 ki_0 ?_
          exact z_iret zh dX9_lowOf_52 (qI (by rcases (by omega : k = 0 ∨ k = 1 ∨ k = 2 ∨ k = 3 ∨ k = 4 ∨ k = 5 ∨ k = 6 ∨ k = 7 ∨ k = 8 ∨ k = 9) with rfl | rfl | rfl | rfl | rfl | rfl | rfl | rfl | rfl | rfl <;> (rcases (by omega : i = 0 ∨ i = 1 ∨ i = 2 ∨ i = 3 ∨ i = 4) with rfl | rfl | rfl | rfl | rfl <;> first | rfl | omega | exact absurd hi (by decide))))
        · refine z_iconst zh dX9_lowOf_47 ki_1 ?_
          refine z_goto (tgt := 52) zh dX9_lowOf_48 rfl ?_
          exact z_iret zh dX9_lowOf_52 (qI (by rcases (by omega : k = 0 ∨ k = 1 ∨ k = 2 ∨ k = 3 ∨ k = 4 ∨ k = 5 ∨ k = 6 ∨ k = 7 ∨ k = 8 ∨ k = 9) with rfl | rfl | rfl | rfl | rfl | rfl | rfl | rfl | rfl | rfl <;> (rcases (by omega : i = 0 ∨ i = 1 ∨ i = 2 ∨ i = 3 ∨ i = 4) with rfl | rfl | rfl | rfl | rfl <;> first | rfl | omega | exact absurd hi (by decide))))
      · refine z_iloadn zh dX9_lowOf_30 rfl ?_
        refine z_iconst zh dX9_lowOf_31 ki_2 ?_
        refine z_icmp_ge_N (tgt := 39) zh (by omega) (by omega) dX9_lowOf_32 rfl (fun q9 => ?_) (fun q9 => ?_)
        · refine z_iconst zh dX9_lowOf_39 ki_1 ?_
          exact z_iret zh dX9_lowOf_40 (qI (by rcases (by omega : k = 0 ∨ k = 1 ∨ k = 2 ∨ k = 3 ∨ k = 4 ∨ k = 5 ∨ k = 6 ∨ k = 7 ∨ k = 8 ∨ k = 9) with rfl | rfl | rfl | rfl | rfl | rfl | rfl | rfl | rfl | rfl <;> (rcases (by omega : i = 0 ∨ i = 1 ∨ i = 2 ∨ i = 3 ∨ i = 4) with rfl | rfl | rfl | rfl | rfl <;> first | rfl | omega | exact absurd hi (by decide))))
        · refine z_iconst zh dX9_lowOf_35 ki_0 ?_
          refine z_goto (tgt := 40) zh dX9_lowOf_36 rfl ?_
          exact z_iret zh dX9_lowOf_40 (qI (by rcases (by omega : k = 0 ∨ k = 1 ∨ k = 2 ∨ k = 3 ∨ k = 4 ∨ k = 5 ∨ k = 6 ∨ k = 7 ∨ k = 8 ∨ k = 9) with rfl | rfl | rfl | rfl | rfl | rfl | rfl | rfl | rfl | rfl <;> (rcases (by omega : i = 0 ∨ i = 1 ∨ i = 2 ∨ i = 3 ∨ i = 4) with rfl | rfl | rfl | rfl | rfl <;> first | rfl | omega | exact absurd hi (by decide))))
    · refine z_iloadn zh dX9_lowOf_22 rfl ?_
      exact z_iret zh dX9_lowOf_23 (qI (by rcases (by omega : k = 0 ∨ k = 1 ∨ k = 2 ∨ k = 3 ∨ k = 4 ∨ k = 5 ∨ k = 6 ∨ k = 7 ∨ k = 8 ∨ k = 9) with rfl | rfl | rfl | rfl | rfl | rfl | rfl | rfl | rfl | rfl <;> (rcases (by omega : i = 0 ∨ i = 1 ∨ i = 2 ∨ i = 3 ∨ i = 4) with rfl | rfl | rfl | rfl | rfl <;> first | rfl | omega | exact absurd hi (by decide))))
  · refine z_iloadn zh dX9_lowOf_5 rfl ?_
    refine z_iconst zh dX9_lowOf_6 ki_3 ?_
    refine z_icmp_ge_N (tgt := 14) zh (by omega) (by omega) dX9_lowOf_7 rfl (fun q14 => ?_) (fun q14 => ?_)
    · refine z_iconst zh dX9_lowOf_14 ki_1 ?_
      exact z_iret zh dX9_lowOf_15 (qI (by rcases (by omega : k = 0 ∨ k = 1 ∨ k = 2 ∨ k = 3 ∨ k = 4 ∨ k = 5 ∨ k = 6 ∨ k = 7 ∨ k = 8 ∨ k = 9) with rfl | rfl | rfl | rfl | rfl | rfl | rfl | rfl | rfl | rfl <;> (rcases (by omega : i = 0 ∨ i = 1 ∨ i = 2 ∨ i = 3 ∨ i = 4) with rfl | rfl | rfl | rfl | rfl <;> first | rfl | omega | exact absurd hi (by decide))))
    · refine z_iconst zh dX9_lowOf_10 ki_0 ?_
      refine z_goto (tgt := 15) zh dX9_lowOf_11 rfl ?_
      exact z_iret zh dX9_lowOf_15 (qI (by rcases (by omega : k = 0 ∨ k = 1 ∨ k = 2 ∨ k = 3 ∨ k = 4 ∨ k = 5 ∨ k = 6 ∨ k = 7 ∨ k = 8 ∨ k = 9) with rfl | rfl | rfl | rfl | rfl | rfl | rfl | rfl | rfl | rfl <;> (rcases (by omega : i = 0 ∨ i = 1 ∨ i = 2 ∨ i = 3 ∨ i = 4) with rfl | rfl | rfl | rfl | rfl <;> first | rfl | omega | exact absurd hi (by decide))))
set_option maxHeartbeats 1000000 in
set_option maxRecDepth 20000 in
theorem h_X9_highOf (g : GE) {iv : Iv} {lv : Lv} {k i : Nat} (hk : k < 10) (hi : i < mn k) : ConIp g yX9_highOf cX9_highOf 3 (some .int) 1 [rf g 551, .int (nI k), .int (nI i)] iv lv (nI (hi_b k i)) := by
  refine con_intro (own := "RollingNetsModel") (by decide +kernel) rfl (Nat.le_of_ble_eq_true rfl) (L0 := [some (rf g 551), some (.int (nI k)), some (.int (nI i))]) rfl (fun Z zh => ?_)
  have hi5 : i < 5 := by have := mn_5 k hk; omega
  refine z_iloadn zh dX9_highOf_0 rfl ?_
  refine z_iconst zh dX9_highOf_1 ki_2 ?_
  refine z_icmp_ge_N (tgt := 28) zh (by omega) (by omega) dX9_highOf_2 rfl (fun q1 => ?_) (fun q1 => ?_)
  · refine z_iloadn zh dX9_highOf_28 rfl ?_
    refine z_iconst zh dX9_highOf_29 ki_4 ?_
    have J39 : (2 ≤ k ∧ (k ≤ 4 ∨ k = 7)) → Z 39 [some (rf g 551), some (.int (nI k)), some (.int (nI i))] [] iv lv := by
      intro hp3
      refine z_iloadn zh dX9_highOf_39 rfl ?_
      refine z_if_ne_N (tgt := 48) zh (by omega) dX9_highOf_40 rfl (fun q4 => ?_) (fun q4 => ?_)
      · refine z_iloadn zh dX9_highOf_48 rfl ?_
        refine z_iconst zh dX9_highOf_49 ki_1 ?_
        refine z_icmp_ne_N (tgt := 57) zh (by omega) (by omega) dX9_highOf_50 rfl (fun q6 => ?_) (fun q6 => ?_)
        · refine z_sipush zh dX9_highOf_57 ks_9999 ?_
          exact z_iret zh dX9_highOf_60 (qI (by rcases (by omega : k = 0 ∨ k = 1 ∨ k = 2 ∨ k = 3 ∨ k = 4 ∨ k = 5 ∨ k = 6 ∨ k = 7 ∨ k = 8 ∨ k = 9) with rfl | rfl | rfl | rfl | rfl | rfl | rfl | rfl | rfl | rfl <;> (rcases (by omega : i = 0 ∨ i = 1 ∨ i = 2 ∨ i = 3 ∨ i = 4) with rfl | rfl | rfl | rfl | rfl <;> first | rfl | omega | exact absurd hi (by decide))))
        · refine z_iconst zh dX9_highOf_53 ki_5 ?_
          refine z_goto (tgt := 60) zh dX9_highOf_54 rfl ?_
          exact z_iret zh dX9_highOf_60 (qI (by rcases (by omega : k = 0 ∨ k = 1 ∨ k = 2 ∨ k = 3 ∨ k = 4 ∨ k = 5 ∨ k = 6 ∨ k = 7 ∨ k = 8 ∨ k = 9) with rfl | rfl | rfl | rfl | rfl | rfl | rfl | rfl | rfl | rfl <;> (rcases (by omega : i = 0 ∨ i = 1 ∨ i = 2 ∨ i = 3 ∨ i = 4) with rfl | rfl | rfl | rfl | rfl <;> first | rfl | omega | exact absurd hi (by decide))))
      · refine z_bipush zh dX9_highOf_43 kb_11 ?_
        refine z_goto (tgt := 60) zh dX9_highOf_45 rfl ?_
        exact z_iret zh dX9_highOf_60 (qI (by rcases (by omega : k = 0 ∨ k = 1 ∨ k = 2 ∨ k = 3 ∨ k = 4 ∨ k = 5 ∨ k = 6 ∨ k = 7 ∨ k = 8 ∨ k = 9) with rfl | rfl | rfl | rfl | rfl | rfl | rfl | rfl | rfl | rfl <;> (rcases (by omega : i = 0 ∨ i = 1 ∨ i = 2 ∨ i = 3 ∨ i = 4) with rfl | rfl | rfl | rfl | rfl <;> first | rfl | omega | exact absurd hi (by decide))))
    refine z_icmp_le_N (tgt := 39) zh (by omega) (by omega) dX9_highOf_30 rfl (fun q10 => ?_) (fun q10 => ?_)
    · exact J39 (by omega)
    · refine z_iloadn zh dX9_highOf_33 rfl ?_
      refine z_bipush zh dX9_highOf_34 kb_7 ?_
      refine z_icmp_ne_N (tgt := 61) zh (by omega) (by omega) dX9_highOf_36 rfl (fun q13 => ?_) (fun q13 => ?_)
      · refine z_iloadn zh dX9_highOf_61 rfl ?_
        refine z_iconst zh dX9_highOf_62 ki_5 ?_
        refine z_icmp_ne_N (tgt := 78) zh (by omega) (by omega) dX9_highOf_63 rfl (fun q14 => ?_) (fun q14 => ?_)
        · refine z_iloadn zh dX9_highOf_78 rfl ?_
          refine z_bipush zh dX9_highOf_79 kb_6 ?_
          refine z_icmp_ne_N (tgt := 96) zh (by omega) (by omega) dX9_highOf_81 rfl (fun q16 => ?_) (fun q16 => ?_)
          · refine z_iloadn zh dX9_highOf_96 rfl ?_
            refine z_bipush zh dX9_highOf_97 kb_8 ?_
            refine z_icmp_ne_N (tgt := 108) zh (by omega) (by omega) dX9_highOf_99 rfl (fun q18 => ?_) (fun q18 => ?_)
            · refine z_bipush zh dX9_highOf_108 kb_20 ?_
              exact z_iret zh dX9_highOf_110 (qI (by rcases (by omega : k = 0 ∨ k = 1 ∨ k = 2 ∨ k = 3 ∨ k = 4 ∨ k = 5 ∨ k = 6 ∨ k = 7 ∨ k = 8 ∨ k = 9) with rfl | rfl | rfl | rfl | rfl | rfl | rfl | rfl | rfl | rfl <;> (rcases (by omega : i = 0 ∨ i = 1 ∨ i = 2 ∨ i = 3 ∨ i = 4) with rfl | rfl | rfl | rfl | rfl <;> first | rfl | omega | exact absurd hi (by decide))))
            · refine z_sipush zh dX9_highOf_102 ks_199 ?_
              refine z_goto (tgt := 110) zh dX9_highOf_105 rfl ?_
              exact z_iret zh dX9_highOf_110 (qI (by rcases (by omega : k = 0 ∨ k = 1 ∨ k = 2 ∨ k = 3 ∨ k = 4 ∨ k = 5 ∨ k = 6 ∨ k = 7 ∨ k = 8 ∨ k = 9) with rfl | rfl | rfl | rfl | rfl | rfl | rfl | rfl | rfl | rfl <;> (rcases (by omega : i = 0 ∨ i = 1 ∨ i = 2 ∨ i = 3 ∨ i = 4) with rfl | rfl | rfl | rfl | rfl <;> first | rfl | omega | exact absurd hi (by decide))))
          · refine z_iloadn zh dX9_highOf_84 rfl ?_
            refine z_if_ne_N (tgt := 92) zh (by omega) dX9_highOf_85 rfl (fun q21 => ?_) (fun q21 => ?_)
            · refine z_sipush zh dX9_highOf_92 ks_9999 ?_
              exact z_iret zh dX9_highOf_95 (qI (by rcases (by omega : k = 0 ∨ k = 1 ∨ k = 2 ∨ k = 3 ∨ k = 4 ∨ k = 5 ∨ k = 6 ∨ k = 7 ∨ k = 8 ∨ k = 9) with rfl | rfl | rfl | rfl | rfl | rfl | rfl | rfl | rfl | rfl <;> (rcases (by omega : i = 0 ∨ i = 1 ∨ i = 2 ∨ i = 3 ∨ i = 4) with rfl | rfl | rfl | rfl | rfl <;> first | rfl | omega | exact absurd hi (by decide))))
            · refine z_iconst zh dX9_highOf_88 ki_5 ?_
              refine z_goto (tgt := 95) zh dX9_highOf_89 rfl ?_
              exact z_iret zh dX9_highOf_95 (qI (by rcases (by omega : k = 0 ∨ k = 1 ∨ k = 2 ∨ k = 3 ∨ k = 4 ∨ k = 5 ∨ k = 6 ∨ k = 7 ∨ k = 8 ∨ k = 9) with rfl | rfl | rfl | rfl | rfl | rfl | rfl | rfl | rfl | rfl <;> (rcases (by omega : i = 0 ∨ i = 1 ∨ i = 2 ∨ i = 3 ∨ i = 4) with rfl | rfl | rfl | rfl | rfl <;> first | rfl | omega | exact absurd hi (by decide))))
        · refine z_iloadn zh dX9_highOf_66 rfl ?_
          refine z_if_ne_N (tgt := 75) zh (by omega) dX9_highOf_67 rfl (fun q25 => ?_) (fun q25 => ?_)
          · refine z_bipush zh dX9_highOf_75 kb_9 ?_
            exact z_iret zh dX9_highOf_77 (qI (by rcases (by omega : k = 0 ∨ k = 1 ∨ k = 2 ∨ k = 3 ∨ k = 4 ∨ k = 5 ∨ k = 6 ∨ k = 7 ∨ k = 8 ∨ k = 9) with rfl | rfl | rfl | rfl | rfl | rfl | rfl | rfl | rfl | rfl <;> (rcases (by omega : i = 0 ∨ i = 1 ∨ i = 2 ∨ i = 3 ∨ i = 4) with rfl | rfl | rfl | rfl | rfl <;> first | rfl | omega | exact absurd hi (by decide))))
          · refine z_bipush zh dX9_highOf_70 kb_11 ?_
            refine z_goto (tgt := 77) zh dX9_highOf_72 rfl ?_
            exact z_iret zh dX9_highOf_77 (qI (by rcases (by omega : k = 0 ∨ k = 1 ∨ k = 2 ∨ k = 3 ∨ k = 4 ∨ k = 5 ∨ k = 6 ∨ k = 7 ∨ k = 8 ∨ k = 9) with rfl | rfl | rfl | rfl | rfl | rfl | rfl | rfl | rfl | rfl <;> (rcases (by omega : i = 0 ∨ i = 1 ∨ i = 2 ∨ i = 3 ∨ i = 4) with rfl | rfl | rfl | rfl | rfl <;> first | rfl | omega | exact absurd hi (by decide))))
      · exact J39 (by omega)
  · refine z_iloadn zh dX9_highOf_5 rfl ?_
    refine z_iconst zh dX9_highOf_6 ki_2 ?_
    refine z_icmp_ge_N (tgt := 15) zh (by omega) (by omega) dX9_highOf_7 rfl (fun q30 => ?_) (fun q30 => ?_)
    · refine z_iloadn zh dX9_highOf_15 rfl ?_
      refine z_iconst zh dX9_highOf_16 ki_2 ?_
      refine z_icmp_ne_N (tgt := 24) zh (by omega) (by omega) dX9_highOf_17 rfl (fun q32 => ?_) (fun q32 => ?_)
      · refine z_sipush zh dX9_highOf_24 ks_9999 ?_
        exact z_iret zh dX9_highOf_27 (qI (by rcases (by omega : k = 0 ∨ k = 1 ∨ k = 2 ∨ k = 3 ∨ k = 4 ∨ k = 5 ∨ k = 6 ∨ k = 7 ∨ k = 8 ∨ k = 9) with rfl | rfl | rfl | rfl | rfl | rfl | rfl | rfl | rfl | rfl <;> (rcases (by omega : i = 0 ∨ i = 1 ∨ i = 2 ∨ i = 3 ∨ i = 4) with rfl | rfl | rfl | rfl | rfl <;> first | rfl | omega | exact absurd hi (by decide))))
      · refine z_iconst zh dX9_highOf_20 ki_5 ?_
        refine z_goto (tgt := 27) zh dX9_highOf_21 rfl ?_
        exact z_iret zh dX9_highOf_27 (qI (by rcases (by omega : k = 0 ∨ k = 1 ∨ k = 2 ∨ k = 3 ∨ k = 4 ∨ k = 5 ∨ k = 6 ∨ k = 7 ∨ k = 8 ∨ k = 9) with rfl | rfl | rfl | rfl | rfl | rfl | rfl | rfl | rfl | rfl <;> (rcases (by omega : i = 0 ∨ i = 1 ∨ i = 2 ∨ i = 3 ∨ i = 4) with rfl | rfl | rfl | rfl | rfl <;> first | rfl | omega | exact absurd hi (by decide))))
    · refine z_bipush zh dX9_highOf_10 kb_11 ?_
      refine z_goto (tgt := 27) zh dX9_highOf_12 rfl ?_
      exact z_iret zh dX9_highOf_27 (qI (by rcases (by omega : k = 0 ∨ k = 1 ∨ k = 2 ∨ k = 3 ∨ k = 4 ∨ k = 5 ∨ k = 6 ∨ k = 7 ∨ k = 8 ∨ k = 9) with rfl | rfl | rfl | rfl | rfl | rfl | rfl | rfl | rfl | rfl <;> (rcases (by omega : i = 0 ∨ i = 1 ∨ i = 2 ∨ i = 3 ∨ i = 4) with rfl | rfl | rfl | rfl | rfl <;> first | rfl | omega | exact absurd hi (by decide))))
theorem lo_hi : ∀ k, k < 10 → ∀ i, i < mn k → lo_b k i ≤ 1 ∧ hi_b k i ≤ 9999 := by decide +kernel
theorem h_X9_readNumber (g : GE) {sp : Nat → Nat → Bool} {σ iv : Iv} {lv : Lv} {t : Nat → Int32} {n q a b : Nat} (hT : YL sp σ t n) (hG : SI sp σ iv) (hq : q ≤ n) (hk : TK t n q iv) : ConI g yX9_readNumber cX9_readNumber 4 (some .int) 4 [rf g 551, .int (nI a), .int (nI b)] iv lv (fun r iv' lv' => SI sp σ iv' ∧ FE iv iv' ∧ (nf t n q a b = 0 → r = dv t q (re dg t n q - q) ∧ TK t n (re bl t n (re dg t n q)) iv') ∧ (¬ nf t n q a b = 0 → r = -1 ∧ iv' 551 23 = nI (nf t n q a b) ∧ iv' 551 24 = nI q)) := by
  refine con_intro (own := "RollingNetsModel") (by decide +kernel) rfl (Nat.le_of_ble_eq_true rfl) (L0 := [some (rf g 551), some (.int (nI a)), some (.int (nI b)), none]) rfl (fun Z zh => ?_)
  obtain ⟨e19, k, hk4, e20, h0, h2, h2v, h3, h3v, h4, h4v⟩ := hk
  refine z_aloadnR zh dX9_readNumber_0 rfl ?_
  refine z_getI (x := nI k) zh fl_Y_359 dX9_readNumber_1 ck_Y rfl rfl e20 ?_
  refine z_iconst zh dX9_readNumber_4 ki_3 ?_
  refine z_icmp_eq_N (tgt := 14) zh (by omega) (by omega) dX9_readNumber_5 rfl (fun w => ?_) (fun w => ?_)
  · have hok := h3.mp w
    obtain ⟨e21, e18⟩ := h3v w
    refine z_aloadnR zh dX9_readNumber_14 rfl ?_
    refine z_aloadnR zh dX9_readNumber_15 rfl ?_
    refine z_getI (x := dv t q (re dg t n q - q)) zh fl_Y_362 dX9_readNumber_16 ck_Y rfl rfl e21 ?_
    refine z_iloadn zh dX9_readNumber_19 rfl ?_
    refine z_iloadn zh dX9_readNumber_20 rfl ?_
    refine z_callVI zh mv_Y_79 dX9_readNumber_21 ck_Y rfl (t_X9_isIn g) ⟨Nat.le_of_ble_eq_true rfl, Nat.le_of_ble_eq_true rfl⟩ rfl rfl (Nat.le_of_ble_eq_true rfl) ?_
    rintro x5 _ _ ⟨rfl, rfl, hx5, hz6, hw6⟩
    refine z_if_ne (tgt := 33) zh dX9_readNumber_24 rfl (fun q7 => ?_) (fun q7 => ?_)
    · have hnf : nf t n q a b = 0 := nf_0 hok (byc (mt hw6.mpr q7))
      refine z_aloadnR zh dX9_readNumber_33 rfl ?_
      refine z_getI (x := dv t q (re dg t n q - q)) zh fl_Y_362 dX9_readNumber_34 ck_Y rfl rfl e21 ?_
      refine z_istoren zh dX9_readNumber_37 (by decide) (L' := [some (rf g 551), some (.int (nI a)), some (.int (nI b)), some (.int (dv t q (re dg t n q - q)))]) rfl ?_
      refine z_aloadnR zh dX9_readNumber_38 rfl ?_
      refine z_callVV zh mv_Y_383 dX9_readNumber_39 ck_Y rfl (h_X9_reads g hT hG e18 (re_le hq)) ⟨Nat.le_of_ble_eq_true rfl, Nat.le_of_ble_eq_true rfl⟩ rfl rfl (Nat.le_of_ble_eq_true rfl) ?_
      rintro iv2 lv ⟨hG2, hk2, hF2⟩
      refine z_iloadn zh dX9_readNumber_42 rfl ?_
      exact z_iret zh dX9_readNumber_43 ⟨_, rfl, hG2, fe_y hF2, fun _ => ⟨rfl, hk2⟩, fun z => absurd hnf z⟩
    · have hnf : nf t n q a b = 2 := nf_2 hok (hw6.mp q7)
      refine z_aloadnR zh dX9_readNumber_27 rfl ?_
      refine z_iconst zh dX9_readNumber_28 ki_2 ?_
      refine z_callVI zh mv_Y_380 dX9_readNumber_29 ck_Y rfl (h_X9_errs g hG e19) ⟨Nat.le_of_ble_eq_true rfl, Nat.le_of_ble_eq_true rfl⟩ rfl rfl (Nat.le_of_ble_eq_true rfl) ?_
      rintro x11 iv2 lv ⟨hG2, rfl, e23, e24, hF2⟩
      exact z_iret zh dX9_readNumber_32 ⟨_, rfl, hG2, hF2, fun z => absurd z (by omega), fun _ => ⟨rfl, e23.trans (by rw [hnf]), e24⟩⟩
  · have hnf : nf t n q a b = 1 := nf_1 (byc (fun z => w (h3.mpr z)))
    refine z_aloadnR zh dX9_readNumber_8 rfl ?_
    refine z_iconst zh dX9_readNumber_9 ki_1 ?_
    refine z_callVI zh mv_Y_380 dX9_readNumber_10 ck_Y rfl (h_X9_errs g hG e19) ⟨Nat.le_of_ble_eq_true rfl, Nat.le_of_ble_eq_true rfl⟩ rfl rfl (Nat.le_of_ble_eq_true rfl) ?_
    rintro x12 iv2 lv ⟨hG2, rfl, e23, e24, hF2⟩
    exact z_iret zh dX9_readNumber_13 ⟨_, rfl, hG2, hF2, fun z => absurd z (by omega), fun _ => ⟨rfl, e23.trans (by rw [hnf]), e24⟩⟩
/-- only the token and these cells of the plans changed -/
def FP (lo hi : Nat) (iv iv' : Iv) : Prop := ∀ k j : Nat, ¬ (k = 551 ∧ 18 ≤ j ∧ j ≤ 24) → ¬ (k = 563 ∧ lo ≤ j ∧ j < hi) → iv' k j = iv k j
theorem fp_0 {lo hi : Nat} {iv : Iv} : FP lo hi iv iv := fun _ _ _ _ => rfl
theorem fp_e {lo hi : Nat} {iv iv' iv2 : Iv} (h : FP lo hi iv iv') (h2 : FE iv' iv2) : FP lo hi iv iv2 := fun k j w1 w2 => (h2 k j w1).trans (h k j w1 w2)
theorem fp_w {lo hi j : Nat} {iv iv' : Iv} {x : Int32} (h : FP lo hi iv iv') (hj : lo ≤ j ∧ j < hi) : FP lo hi iv (upI iv' 563 j x) := fun k c w1 w2 => (upI_ne (by omega)).trans (h k c w1 w2)
theorem pw {sp : Nat → Nat → Bool} {σ iv : Iv} {j : Nat} {x : Int32} (hG : SI sp σ iv) (h : sp 563 j = false) : SI sp σ (upI iv 563 j x) := si_w (k := 563) hG (by decide) (by decide) h (rx_none rfl)
/-- what a line leaves -/
def LyP (t : Nat → Int32) (n k p0 r : Nat) (r' : Int32) (iv' : Iv) : Prop := ((lf t n k p0).1 = 0 → r' = nI 0 ∧ TK t n (re bl t n (np t n p0 (mn k) + 1)) iv' ∧ np t n p0 (mn k) < n ∧ iv' 563 (144 + 6 * r) = nI k ∧ ∀ i, i < mn k → iv' 563 (144 + 6 * r + (i + 1)) = dv t (np t n p0 i) (re dg t n (np t n p0 i) - np t n p0 i)) ∧ (¬ (lf t n k p0).1 = 0 → r' = -1 ∧ iv' 551 23 = nI (lf t n k p0).1 ∧ iv' 551 24 = nI (lf t n k p0).2)
theorem nf_ok {t : Nat → Int32} {n q a b : Nat} (h : nf t n q a b = 0) : ¬ dv t q (re dg t n q - q) = -1 := by
  unfold nf at h
  by_cases w : re dg t n q = q ∨ 4 < re dg t n q - q
  · rw [if_pos w] at h; exact absurd h (by decide)
  · have hd := dv_ra (t := t) (p := q) (re dg t n q - q) (by omega) (fun j hj => by
      have h1 := re_all (P := dg) (t := t) (n := n) (p := q) (j := q + j) (by omega) (by omega)
      have h2 := re_lt dg_m h1
      rw [hr_lt h2] at h1; exact h1)
    intro e
    have h0 := hd.1
    rw [e] at h0
    exact absurd h0 (by decide)
set_option maxHeartbeats 1000000 in
set_option maxRecDepth 20000 in
theorem h_X9_readLine (g : GE) {sp : Nat → Nat → Bool} {σ iv : Iv} {lv : Lv} {t : Nat → Int32} {n p r : Nat} (hT : YL sp σ t n) (hP : ∀ j, sp 563 j = false) (hG : SI sp σ iv) (hp : p ≤ n) (hr9 : r ≤ 24) (hk : TK t n p iv) : ConI g yX9_readLine cX9_readLine 5 (some .int) 5 [rf g 551, .int (nI r)] iv lv (fun r' iv' lv' => SI sp σ iv' ∧ FP (144 + 6 * r) (150 + 6 * r) iv iv' ∧ (kd t n p = 10 → r' = -1 ∧ iv' 551 23 = nI 1 ∧ iv' 551 24 = nI p) ∧ (¬ kd t n p = 10 → r = 24 → r' = -1 ∧ iv' 551 23 = nI 3 ∧ iv' 551 24 = nI p) ∧ (¬ kd t n p = 10 → ¬ r = 24 → LyP t n (kd t n p) (p + wl (kd t n p)) r r' iv')) := by
  have hk10 := kd_le (t := t) (n := n) (p := p)
  have hkmt := kd_mt (t := t) (n := n) (p := p)
  obtain ⟨e19, tk, htk4, e20, h0, h2, h2v, h3, h3v, h4, h4v⟩ := hk
  obtain ⟨k, ek⟩ : ∃ k, k = kd t n p := ⟨_, rfl⟩
  obtain ⟨p0, ep0⟩ : ∃ p0, p0 = p + wl k := ⟨_, rfl⟩
  rw [← ek] at hk10 hkmt h2 h2v ⊢
  rw [← ep0] at h2v ⊢
  refine con_intro (own := "RollingNetsModel") (by decide +kernel) rfl (Nat.le_of_ble_eq_true rfl) (L0 := [some (rf g 551), some (.int (nI r)), none, none, none]) rfl (fun Z zh => ?_)
  refine z_aloadnR zh dX9_readLine_0 rfl ?_
  refine z_getI (x := nI tk) zh fl_Y_359 dX9_readLine_1 ck_Y rfl rfl e20 ?_
  refine z_iconst zh dX9_readLine_4 ki_2 ?_
  refine z_icmp_eq_N (tgt := 14) zh (by omega) (by omega) dX9_readLine_5 rfl (fun w2 => ?_) (fun w2 => ?_)
  rotate_left
  · have hk : k = 10 := by have := mt h2.mpr w2; omega
    refine z_aloadnR zh dX9_readLine_8 rfl ?_
    refine z_iconst zh dX9_readLine_9 ki_1 ?_
    refine z_callVI zh mv_Y_380 dX9_readLine_10 ck_Y rfl (h_X9_errs g hG e19) ⟨Nat.le_of_ble_eq_true rfl, Nat.le_of_ble_eq_true rfl⟩ rfl rfl (Nat.le_of_ble_eq_true rfl) ?_
    rintro x33 iv2 lv ⟨hG2, rfl, e23, e24, hF2⟩
    exact z_iret zh dX9_readLine_13 ⟨_, rfl, hG2, fp_e fp_0 hF2, fun _ => ⟨rfl, e23, e24⟩, fun z => absurd hk z, fun z => absurd hk z⟩
  have hk9 : k < 10 := h2.mp w2
  have hk : ¬ k = 10 := by omega
  obtain ⟨e21, e18⟩ := h2v w2
  have hmt := hkmt hk9
  have hplen := mt_lt hk9 hmt
  have hmn := mn_5 k hk9
  have hp0 : p0 ≤ n := by omega
  have hn := hT.1.1
  refine z_iloadn zh dX9_readLine_14 rfl ?_
  refine z_bipush zh dX9_readLine_15 kb_24 ?_
  refine z_icmp_ne_N (tgt := 26) zh (by omega) (by omega) dX9_readLine_17 rfl (fun hr24 => ?_) (fun hr24 => ?_)
  rotate_left
  · refine z_aloadnR zh dX9_readLine_20 rfl ?_
    refine z_iconst zh dX9_readLine_21 ki_3 ?_
    refine z_callVI zh mv_Y_380 dX9_readLine_22 ck_Y rfl (h_X9_errs g hG e19) ⟨Nat.le_of_ble_eq_true rfl, Nat.le_of_ble_eq_true rfl⟩ rfl rfl (Nat.le_of_ble_eq_true rfl) ?_
    rintro x32 iv2 lv ⟨hG2, rfl, e23, e24, hF2⟩
    exact z_iret zh dX9_readLine_25 ⟨_, rfl, hG2, fp_e fp_0 hF2, fun z => absurd z hk, fun _ _ => ⟨rfl, e23, e24⟩, fun _ z => absurd hr24 z⟩
  refine z_sipush zh dX9_readLine_26 ks_144 ?_
  refine z_bipush zh dX9_readLine_29 kb_6 ?_
  refine z_iloadn zh dX9_readLine_31 rfl ?_
  refine z_imulN zh dX9_readLine_32 ?_
  refine z_iaddN zh dX9_readLine_33 ?_
  refine z_istoren zh dX9_readLine_34 (by decide) (L' := [some (rf g 551), some (.int (nI r)), some (.int (nI (144 + 6 * r))), none, none]) rfl ?_
  refine z_aloadnR zh dX9_readLine_35 rfl ?_
  refine z_getI (x := nI k) zh fl_Y_362 dX9_readLine_36 ck_Y rfl rfl e21 ?_
  refine z_istoren zh dX9_readLine_39 (by decide) (L' := [some (rf g 551), some (.int (nI r)), some (.int (nI (144 + 6 * r))), some (.int (nI k)), none]) rfl ?_
  refine z_aloadnR zh dX9_readLine_40 rfl ?_
  refine z_getf zh fl_Y_49 dX9_readLine_41 ck_Y rfl rfl ?_
  refine z_iloadn zh dX9_readLine_44 rfl ?_
  refine z_iloadn zh dX9_readLine_45 rfl ?_
  refine z_iastN (j := 144 + 6 * r) zh ck_plans dX9_readLine_46 (by omega) ?_
  have hG1 : SI sp σ (upI iv 563 (144 + 6 * r) (nI k)) := pw hG (hP _)
  have hF1 : FP (144 + 6 * r) (150 + 6 * r) iv (upI iv 563 (144 + 6 * r) (nI k)) := fp_w fp_0 (by omega)
  have hv1 : upI iv 563 (144 + 6 * r) (nI k) 563 (144 + 6 * r) = nI k := by rw [upI_at, if_pos ⟨rfl, rfl⟩]
  have e18 : upI iv 563 (144 + 6 * r) (nI k) 551 18 = nI p0 := (upI_ne (Or.inl (by decide))).trans e18
  generalize upI iv 563 (144 + 6 * r) (nI k) = iv1 at hG1 hF1 hv1 e18 ⊢
  refine z_aloadnR zh dX9_readLine_47 rfl ?_
  refine z_callVV zh mv_Y_383 dX9_readLine_48 ck_Y rfl (h_X9_reads g hT hG1 e18 hp0) ⟨Nat.le_of_ble_eq_true rfl, Nat.le_of_ble_eq_true rfl⟩ rfl rfl (Nat.le_of_ble_eq_true rfl) ?_
  rintro iv2 lv ⟨hG2, hk2, hF2⟩
  have hF3 := fp_e hF1 (fe_y hF2)
  have hv2 : iv2 563 (144 + 6 * r) = nI k := (hF2 563 _ (by omega)).trans hv1
  clear hG1 hF1 hv1 e18 hF2
  refine z_iconst zh dX9_readLine_51 ki_0 ?_
  refine z_istore zh dX9_readLine_52 (by decide) (L' := [some (rf g 551), some (.int (nI r)), some (.int (nI (144 + 6 * r))), some (.int (nI k)), some (.int (nI 0))]) rfl ?_
  have J : ∀ (q i : Nat) (iv' : Iv) (lv : Lv), i ≤ mn k → SI sp σ iv' → FP (144 + 6 * r) (150 + 6 * r) iv iv' → TK t n (np t n p0 i) iv' → (∀ a, a < i → nf t n (np t n p0 a) (lo_b k a) (hi_b k a) = 0) → iv' 563 (144 + 6 * r) = nI k → (∀ a, a < i → iv' 563 (144 + 6 * r + (a + 1)) = dv t (np t n p0 a) (re dg t n (np t n p0 a) - np t n p0 a)) → mn k - i < q → Z 54 [some (rf g 551), some (.int (nI r)), some (.int (nI (144 + 6 * r))), some (.int (nI k)), some (.int (nI i))] [] iv' lv := by
    intro q
    induction q with
    | zero => intro i iv' lv _ _ _ _ _ _ _ hm; omega
    | succ q ih =>
      intro i iv' lv hi hG hF htk hall hk' hv hm
      have hnp := np_le (t := t) hp0 i
      refine z_iload zh dX9_readLine_54 rfl ?_
      refine z_aloadnR zh dX9_readLine_56 rfl ?_
      refine z_iloadn zh dX9_readLine_57 rfl ?_
      refine z_callVIp zh mv_Y_386 dX9_readLine_58 ck_Y rfl (h_X9_manyOf g hk9) ⟨Nat.le_of_ble_eq_true rfl, Nat.le_of_ble_eq_true rfl⟩ rfl rfl (Nat.le_of_ble_eq_true rfl) ?_
      refine z_icmp_ge_N (tgt := 116) zh (by omega) (by omega) dX9_readLine_61 rfl (fun w => ?_) (fun w => ?_)
      · have ei : i = mn k := by omega
        subst ei
        have hlf := lf_end hall
        obtain ⟨f19, tk, htk4, f20, g0, g2, g2v, g3, g3v, g4, g4v⟩ := htk
        refine z_aloadnR zh dX9_readLine_116 rfl ?_
        refine z_getI (x := nI tk) zh fl_Y_359 dX9_readLine_117 ck_Y rfl rfl f20 ?_
        refine z_iconst zh dX9_readLine_120 ki_4 ?_
        refine z_icmp_eq_N (tgt := 130) zh (by omega) (by omega) dX9_readLine_121 rfl (fun w4 => ?_) (fun w4 => ?_)
        · have h59 := g4.mp w4
          have hl0 := hlf.trans (lfF_0y h59)
          have hlt : np t n p0 (mn k) < n := Nat.lt_of_not_le (fun z => absurd h59 (by rw [hr_ge z]; decide))
          refine z_aloadnR zh dX9_readLine_130 rfl ?_
          refine z_callVV zh mv_Y_383 dX9_readLine_131 ck_Y rfl (h_X9_reads g hT hG (g4v w4) (by omega)) ⟨Nat.le_of_ble_eq_true rfl, Nat.le_of_ble_eq_true rfl⟩ rfl rfl (Nat.le_of_ble_eq_true rfl) ?_
          rintro iv3 lv ⟨hG3, hk3, hF3⟩
          refine z_iconst zh dX9_readLine_134 ki_0 ?_
          exact z_iret zh dX9_readLine_135 ⟨_, rfl, hG3, fp_e hF (fe_y hF3), fun z => absurd z hk, fun _ z => absurd z hr24, fun _ _ => ⟨fun _ => ⟨rfl, hk3, hlt, (hF3 563 _ (by omega)).trans hk', fun a ha => (hF3 563 _ (by omega)).trans (hv a ha)⟩, fun z => absurd (by rw [hl0]) z⟩⟩
        · have hl1 := hlf.trans (lfF_0n (fun z => w4 (g4.mpr z)))
          refine z_aloadnR zh dX9_readLine_124 rfl ?_
          refine z_iconst zh dX9_readLine_125 ki_1 ?_
          refine z_callVI zh mv_Y_380 dX9_readLine_126 ck_Y rfl (h_X9_errs g hG f19) ⟨Nat.le_of_ble_eq_true rfl, Nat.le_of_ble_eq_true rfl⟩ rfl rfl (Nat.le_of_ble_eq_true rfl) ?_
          rintro x18 iv3 lv ⟨hG3, rfl, e23, e24, hF3⟩
          exact z_iret zh dX9_readLine_129 ⟨_, rfl, hG3, fp_e hF hF3, fun z => absurd z hk, fun _ z => absurd z hr24, fun _ _ => ⟨fun z => by rw [hl1] at z; exact absurd (show (1 : Nat) = 0 from z) (by decide), fun _ => ⟨rfl, by rw [hl1]; exact e23, by rw [hl1]; exact e24⟩⟩⟩
      · refine z_aloadnR zh dX9_readLine_64 rfl ?_
        refine z_getf zh fl_Y_49 dX9_readLine_65 ck_Y rfl rfl ?_
        refine z_iloadn zh dX9_readLine_68 rfl ?_
        refine z_iconst zh dX9_readLine_69 ki_1 ?_
        refine z_iaddN zh dX9_readLine_70 ?_
        refine z_iload zh dX9_readLine_71 rfl ?_
        refine z_iaddN zh dX9_readLine_73 ?_
        refine z_aloadnR zh dX9_readLine_74 rfl ?_
        refine z_aloadnR zh dX9_readLine_75 rfl ?_
        refine z_iloadn zh dX9_readLine_76 rfl ?_
        refine z_iload zh dX9_readLine_77 rfl ?_
        refine z_callVIp zh mv_Y_389 dX9_readLine_79 ck_Y rfl (h_X9_lowOf g hk9 w) ⟨Nat.le_of_ble_eq_true rfl, Nat.le_of_ble_eq_true rfl⟩ rfl rfl (Nat.le_of_ble_eq_true rfl) ?_
        refine z_aloadnR zh dX9_readLine_82 rfl ?_
        refine z_iloadn zh dX9_readLine_83 rfl ?_
        refine z_iload zh dX9_readLine_84 rfl ?_
        refine z_callVIp zh mv_Y_392 dX9_readLine_86 ck_Y rfl (h_X9_highOf g hk9 w) ⟨Nat.le_of_ble_eq_true rfl, Nat.le_of_ble_eq_true rfl⟩ rfl rfl (Nat.le_of_ble_eq_true rfl) ?_
        refine z_callVI zh mv_Y_395 dX9_readLine_89 ck_Y rfl (h_X9_readNumber g hT hG hnp htk) ⟨Nat.le_of_ble_eq_true rfl, Nat.le_of_ble_eq_true rfl⟩ rfl rfl (Nat.le_of_ble_eq_true rfl) ?_
        rintro x24 iv3 lv ⟨hG3, hF3, hok, hbad⟩
        refine z_iastN (j := 144 + 6 * r + 1 + i) zh ck_plans dX9_readLine_92 (by omega) ?_
        have hG4 : SI sp σ (upI iv3 563 (144 + 6 * r + 1 + i) x24) := pw hG3 (hP _)
        have hF4 : FP (144 + 6 * r) (150 + 6 * r) iv (upI iv3 563 (144 + 6 * r + 1 + i) x24) := fp_w (fp_e hF hF3) (by omega)
        have hx4 : upI iv3 563 (144 + 6 * r + 1 + i) x24 563 (144 + 6 * r + 1 + i) = x24 := by rw [upI_at, if_pos ⟨rfl, rfl⟩]
        have hk4 : upI iv3 563 (144 + 6 * r + 1 + i) x24 563 (144 + 6 * r) = nI k := (upI_ne (Or.inr (by omega))).trans ((hF3 563 _ (by omega)).trans hk')
        have hv4 : ∀ a, a < i → upI iv3 563 (144 + 6 * r + 1 + i) x24 563 (144 + 6 * r + (a + 1)) = dv t (np t n p0 a) (re dg t n (np t n p0 a) - np t n p0 a) := fun a ha => (upI_ne (Or.inr (by omega))).trans ((hF3 563 _ (by omega)).trans (hv a ha))
        have h51 : ∀ j, upI iv3 563 (144 + 6 * r + 1 + i) x24 551 j = iv3 551 j := fun j => upI_ne (Or.inl (by decide))
        generalize upI iv3 563 (144 + 6 * r + 1 + i) x24 = iv4 at hG4 hF4 hx4 hk4 hv4 h51 ⊢
        refine z_aloadnR zh dX9_readLine_93 rfl ?_
        refine z_getf zh fl_Y_49 dX9_readLine_94 ck_Y rfl rfl ?_
        refine z_iloadn zh dX9_readLine_97 rfl ?_
        refine z_iconst zh dX9_readLine_98 ki_1 ?_
        refine z_iaddN zh dX9_readLine_99 ?_
        refine z_iload zh dX9_readLine_100 rfl ?_
        refine z_iaddN zh dX9_readLine_102 ?_
        refine z_ialdE (x := x24) zh ck_plans dX9_readLine_103 (by omega) hx4 ?_
        refine z_iconst zh dX9_readLine_104 ki_m1 ?_
        by_cases hnf : nf t n (np t n p0 i) (lo_b k i) (hi_b k i) = 0
        · obtain ⟨ex, htk3⟩ := hok hnf
          refine z_icmp_ne (tgt := 110) zh dX9_readLine_105 rfl (fun _ => ?_) (fun z => absurd z (by rw [ex]; exact nf_ok hnf))
          refine z_iincN (b := 1) zh dX9_readLine_110 (by decide +kernel) (by decide) rfl (L' := [some (rf g 551), some (.int (nI r)), some (.int (nI (144 + 6 * r))), some (.int (nI k)), some (.int (nI (i + 1)))]) rfl ?_
          refine z_goto (tgt := 54) zh dX9_readLine_113 rfl ?_
          refine ih (i + 1) iv4 lv (by omega) hG4 hF4 ?_ (fun a ha => ?_) hk4 (fun a ha => ?_) (by omega)
          · show TK t n (re bl t n (re dg t n (np t n p0 i))) iv4
            unfold TK at htk3 ⊢
            rw [h51 18, h51 19, h51 20, h51 21]
            exact htk3
          · by_cases w9 : a = i
            · subst w9; exact hnf
            · exact hall a (by omega)
          · by_cases w9 : a = i
            · subst w9
              rw [show 144 + 6 * r + (a + 1) = 144 + 6 * r + 1 + a by omega]
              exact hx4.trans ex
            · exact hv4 a (by omega)
        · obtain ⟨ex, e23, e24⟩ := hbad hnf
          have hlb := lf_bad w hall hnf
          refine z_icmp_ne (tgt := 110) zh dX9_readLine_105 rfl (fun z => absurd ex z) (fun _ => ?_)
          refine z_iconst zh dX9_readLine_108 ki_m1 ?_
          exact z_iret zh dX9_readLine_109 ⟨_, rfl, hG4, hF4, fun z => absurd z hk, fun _ z => absurd z hr24, fun _ _ => ⟨fun z => by rw [hlb] at z; exact absurd z hnf, fun _ => ⟨rfl, by rw [hlb]; exact (h51 23).trans e23, by rw [hlb]; exact (h51 24).trans e24⟩⟩⟩
  exact J (mn k + 1) 0 iv2 lv (by omega) hG2 hF3 hk2 (fun a ha => by omega) hv2 (fun a ha => by omega) (by omega)
/-- the plan's rows r that were read -/
def YR (t : Nat → Int32) (n b r : Nat) (iv : Iv) : Prop := ∀ a, a < r → kd t n (lpos t n a) < 10 ∧ ∀ c, c ≤ lm t n a → iv 563 (b + 6 * a + c) = lw t n a c
def RyP (t : Nat → Int32) (n : Nat) (r : Int32) (iv : Iv) : Prop := ((pff t n).1 = 0 → r = nI (pff t n).2.2 ∧ (pff t n).2.2 ≤ 24 ∧ YR t n 144 (pff t n).2.2 iv) ∧ (¬ (pff t n).1 = 0 → r = -1 ∧ iv 551 23 = nI (pff t n).1 ∧ iv 551 24 = nI (pff t n).2.1)
set_option maxHeartbeats 1000000 in
set_option maxRecDepth 20000 in
theorem h_X9_readPlan (g : GE) {sp : Nat → Nat → Bool} {σ iv : Iv} {lv : Lv} {t : Nat → Int32} {n : Nat} (hT : YL sp σ t n) (hP : ∀ j, sp 563 j = false) (hG : SI sp σ iv) : ConI g yX9_readPlan cX9_readPlan 2 (some .int) 6 [rf g 551] iv lv (fun r iv' lv' => SI sp σ iv' ∧ FP 144 300 iv iv' ∧ RyP t n r iv') := by
  refine con_intro (own := "RollingNetsModel") (by decide +kernel) rfl (Nat.le_of_ble_eq_true rfl) (L0 := [some (rf g 551), none]) rfl (fun Z zh => ?_)
  have hn := hT.1.1
  refine z_iconst zh dX9_readPlan_0 ki_0 ?_
  refine z_istoren zh dX9_readPlan_1 (by decide) (L' := [some (rf g 551), some (.int (nI 0))]) rfl ?_
  refine z_aloadnR zh dX9_readPlan_2 rfl ?_
  refine z_iconst zh dX9_readPlan_3 ki_0 ?_
  refine z_putI zh fl_Y_350 dX9_readPlan_4 ck_Y rfl rfl (Nat.le_of_ble_eq_true rfl) (Or.inl rfl) ?_
  have hG1 : SI sp σ (upI iv 551 18 (nI 0)) := yw hG (by decide) (Or.inl (rs_r (by omega)))
  have hF1 : FP 144 300 iv (upI iv 551 18 (nI 0)) := fun k j w _ => upI_ne (by omega)
  have e1 : upI iv 551 18 (nI 0) 551 18 = nI 0 := by rw [upI_at, if_pos ⟨rfl, rfl⟩]
  generalize upI iv 551 18 (nI 0) = iv1 at hG1 hF1 e1 ⊢
  refine z_aloadnR zh dX9_readPlan_7 rfl ?_
  refine z_callVV zh mv_Y_383 dX9_readPlan_8 ck_Y rfl (h_X9_reads g hT hG1 e1 (Nat.zero_le _)) ⟨Nat.le_of_ble_eq_true rfl, Nat.le_of_ble_eq_true rfl⟩ rfl rfl (Nat.le_of_ble_eq_true rfl) ?_
  rintro iv2 lv ⟨hG2, hk2, hF2⟩
  have J : ∀ (q r : Nat) (iv' : Iv) (lv : Lv), SI sp σ iv' → r ≤ 24 → 24 - r < q → lpos t n r ≤ n → FP 144 300 iv iv' → TK t n (lpos t n r) iv' → YR t n 144 r iv' → pff t n = pf t n (26 - r) r (lpos t n r) → Z 11 [some (rf g 551), some (.int (nI r))] [] iv' lv := by
    intro q
    induction q with
    | zero => intro r iv' lv _ _ hq; omega
    | succ q ih =>
      intro r iv' lv hG hr9 hq hln hF htk hd hp
      rw [show 26 - r = (25 - r) + 1 by omega] at hp
      have htk' := htk
      obtain ⟨e19, k, hk4, e20, h0, _⟩ := htk'
      refine z_aloadnR zh dX9_readPlan_11 rfl ?_
      refine z_getI (x := nI k) zh fl_Y_359 dX9_readPlan_12 ck_Y rfl rfl e20 ?_
      refine z_if_eq_N (tgt := 36) zh (by omega) dX9_readPlan_15 rfl (fun w => ?_) (fun w => ?_)
      · have h9 := hp.trans (pf_e (h0.mp w))
        refine z_iloadn zh dX9_readPlan_36 rfl ?_
        exact z_iret zh dX9_readPlan_37 ⟨_, rfl, hG, hF, by
          unfold RyP
          rw [h9]
          exact ⟨fun _ => ⟨rfl, hr9, hd⟩, fun z => absurd rfl z⟩⟩
      · have hng : ¬ n ≤ lpos t n r := fun z => by have := h0.mpr z; omega
        have hbad : ∀ (iv3 : Iv) (lv : Lv) (a b c : Nat), pff t n = (a, b, c) → ¬ a = 0 → SI sp σ iv3 → FP 144 300 iv iv3 → iv3 551 23 = nI a → iv3 551 24 = nI b → Z 23 [some (rf g 551), some (.int (nI r))] [.int (-1)] iv3 lv := by
          intro iv3 lv a b c h9 ha hG3 hF3 e23 e24
          refine z_iconst zh dX9_readPlan_23 ki_m1 ?_
          refine z_icmp_ne (tgt := 29) zh dX9_readPlan_24 rfl (fun z => absurd rfl z) (fun _ => ?_)
          refine z_iconst zh dX9_readPlan_27 ki_m1 ?_
          exact z_iret zh dX9_readPlan_28 ⟨_, rfl, hG3, hF3, by
            unfold RyP
            rw [h9]
            exact ⟨fun z => absurd z ha, fun _ => ⟨rfl, e23, e24⟩⟩⟩
        refine z_aloadnR zh dX9_readPlan_18 rfl ?_
        refine z_iloadn zh dX9_readPlan_19 rfl ?_
        refine z_callVI zh mv_Y_398 dX9_readPlan_20 ck_Y rfl (h_X9_readLine g hT hP hG hln hr9 htk) ⟨Nat.le_of_ble_eq_true rfl, Nat.le_of_ble_eq_true rfl⟩ rfl rfl (Nat.le_of_ble_eq_true rfl) ?_
        rintro x6 iv3 lv ⟨hG3, hF3, h10, h24, hly⟩
        have hF4 : FP 144 300 iv iv3 := fun k j w1 w2 => (hF3 k j w1 (by omega)).trans (hF k j w1 w2)
        by_cases hk : kd t n (lpos t n r) = 10
        · obtain ⟨rfl, e23, e24⟩ := h10 hk
          exact hbad iv3 lv _ _ _ (hp.trans (pf_1 hng hk)) (by decide) hG3 hF4 e23 e24
        by_cases hr24 : r = 24
        · obtain ⟨rfl, e23, e24⟩ := h24 hk hr24
          exact hbad iv3 lv _ _ _ (hp.trans (pf_3 hng hk hr24)) (by decide) hG3 hF4 e23 e24
        have hly := hly hk hr24
        by_cases hl0 : (lf t n (kd t n (lpos t n r)) (lpos t n r + wl (kd t n (lpos t n r)))).1 = 0
        · obtain ⟨rfl, htk3, hlt, hv0, hv⟩ := hly.1 hl0
          have hp2 := hp.trans (pf_y hng hk hr24 hl0)
          refine z_iconst zh dX9_readPlan_23 ki_m1 ?_
          refine z_icmp_ne (tgt := 29) zh dX9_readPlan_24 rfl (fun _ => ?_) (fun z => absurd z (by decide))
          refine z_iloadn zh dX9_readPlan_29 rfl ?_
          refine z_iconst zh dX9_readPlan_30 ki_1 ?_
          refine z_iaddN zh dX9_readPlan_31 ?_
          refine z_istoren zh dX9_readPlan_32 (by decide) (L' := [some (rf g 551), some (.int (nI (r + 1)))]) rfl ?_
          refine z_goto (tgt := 11) zh dX9_readPlan_33 rfl ?_
          have h1 : r + 1 ≤ 24 := by omega
          have h2 : 24 - (r + 1) < q := by omega
          have h3 : lpos t n r < n := by omega
          have h4 : 26 - (r + 1) = 25 - r := by omega
          refine ih (r + 1) iv3 lv hG3 h1 h2 (lpos_le h3 hlt) hF4 htk3 (fun a ha => ?_) (by rw [h4]; exact hp2)
          by_cases w9 : a = r
          · subst w9
            refine ⟨by have := kd_le (t := t) (n := n) (p := lpos t n a); omega, fun c hc => ?_⟩
            cases c with
            | zero => exact hv0
            | succ i => exact hv i (by have hc9 : i + 1 ≤ mn (kd t n (lpos t n a)) := hc; omega)
          · refine ⟨(hd a (by omega)).1, fun c hc => ?_⟩
            have hm5 := mn_5 (kd t n (lpos t n a)) (hd a (by omega)).1
            have hc9 : c ≤ mn (kd t n (lpos t n a)) := hc
            exact (hF3 563 (144 + 6 * a + c) (by omega) (by omega)).trans ((hd a (by omega)).2 c hc)
        · obtain ⟨rfl, e23, e24⟩ := hly.2 hl0
          exact hbad iv3 lv _ _ _ (hp.trans (pf_n hng hk hr24 hl0)) hl0 hG3 hF4 e23 e24
  exact J 25 0 iv2 lv hG2 (by omega) (by omega) (re_le (Nat.zero_le n)) (fun k j w1 w2 => (hF2 k j (by omega)).trans (hF1 k j w1 w2)) hk2 (fun a ha => by omega) rfl
