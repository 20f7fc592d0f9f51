/-- a column of a trade, of a notice -/
theorem s_X9_tradeOf (g : GE) {sp : Nat → Nat → Bool} {σ : Iv} {iv : Iv} {lv : Lv} {a1 a2 : Int32} (h1 : Ra 0 199 a1) (h2 : Ra 0 7 a2) (hG : SI sp σ iv) : ConI g yX9_tradeOf cX9_tradeOf 3 (some .int) 2 [rf g 551, .int a1, .int a2] iv lv (fun r iv' lv' => iv = iv' ∧ lv = lv' ∧ ∃ z : Int32, z.toInt = 15110 + 8 * a1.toInt + a2.toInt ∧ iv 552 z.toNatClampNeg = r) := by
  refine con_intro (own := "RollingNetsModel") (by decide +kernel) rfl (Nat.le_of_ble_eq_true rfl) (L0 := [some (rf g 551), some (.int a1), some (.int a2)]) rfl (fun Z zh => ?_)
  have f1 := h1.1; have f2 := h1.2; have f3 := h2.1; have f4 := h2.2
  refine z_aloadnR zh dX9_tradeOf_0 rfl ?_
  refine z_getf zh fl_Y_7 dX9_tradeOf_1 ck_Y rfl rfl ?_
  refine z_aloadnR zh dX9_tradeOf_4 rfl ?_
  refine z_iloadn zh dX9_tradeOf_5 rfl ?_
  refine z_callVI zh mv_Y_141 dX9_tradeOf_6 ck_Y rfl (s_X9_tradeAt g h1 hG) ⟨Nat.le_of_ble_eq_true rfl, Nat.le_of_ble_eq_true rfl⟩ rfl rfl (Nat.le_of_ble_eq_true rfl) ?_
  rintro x _ _ ⟨rfl, rfl, hx9, hx⟩
  refine z_iloadn zh dX9_tradeOf_9 rfl ?_
  refine y_iadd zh dX9_tradeOf_10 (a := 15110) (b := 16702) (x := x) ⟨by omega, by omega⟩ h2 rfl rfl (by decide) (by decide) (fun z ez hz => ?_)
  refine y_iald zh ck_now dX9_tradeOf_11 hz (by decide) (by decide) (fun r er => ?_)
  exact z_iret zh dX9_tradeOf_12 ⟨_, rfl, rfl, rfl, z, by omega, er⟩
theorem s_X9_noticeOf (g : GE) {sp : Nat → Nat → Bool} {σ : Iv} {iv : Iv} {lv : Lv} {a1 a2 : Int32} (h1 : Ra 0 59 a1) (h2 : Ra 0 19 a2) (hG : SI sp σ iv) : ConI g yX9_noticeOf cX9_noticeOf 3 (some .int) 2 [rf g 551, .int a1, .int a2] iv lv (fun r iv' lv' => iv = iv' ∧ lv = lv' ∧ ∃ z : Int32, z.toInt = 16710 + 20 * a1.toInt + a2.toInt ∧ iv 552 z.toNatClampNeg = r) := by
  refine con_intro (own := "RollingNetsModel") (by decide +kernel) rfl (Nat.le_of_ble_eq_true rfl) (L0 := [some (rf g 551), some (.int a1), some (.int a2)]) rfl (fun Z zh => ?_)
  have f1 := h1.1; have f2 := h1.2; have f3 := h2.1; have f4 := h2.2
  refine z_aloadnR zh dX9_noticeOf_0 rfl ?_
  refine z_getf zh fl_Y_7 dX9_noticeOf_1 ck_Y rfl rfl ?_
  refine z_aloadnR zh dX9_noticeOf_4 rfl ?_
  refine z_iloadn zh dX9_noticeOf_5 rfl ?_
  refine z_callVI zh mv_Y_154 dX9_noticeOf_6 ck_Y rfl (s_X9_noticeAt g h1 hG) ⟨Nat.le_of_ble_eq_true rfl, Nat.le_of_ble_eq_true rfl⟩ rfl rfl (Nat.le_of_ble_eq_true rfl) ?_
  rintro x _ _ ⟨rfl, rfl, hx9, hx⟩
  refine z_iloadn zh dX9_noticeOf_9 rfl ?_
  refine y_iadd zh dX9_noticeOf_10 (a := 16710) (b := 17890) (x := x) ⟨by omega, by omega⟩ h2 rfl rfl (by decide) (by decide) (fun z ez hz => ?_)
  refine y_iald zh ck_now dX9_noticeOf_11 hz (by decide) (by decide) (fun r er => ?_)
  exact z_iret zh dX9_noticeOf_12 ⟨_, rfl, rfl, rfl, z, by omega, er⟩

theorem s_X9_isIn (g : GE) {iv : Iv} {lv : Lv} {x1 x2 x3 : Int32} : ConI g yX9_isIn cX9_isIn 4 (some .boolean) 1 [rf g 551, .int x1, .int x2, .int x3] iv lv (fun r iv' lv' => iv = iv' ∧ lv = lv' ∧ Ra 0 1 r ∧ (¬ r = 0 → x2 ≤ x1 ∧ x1 ≤ x3)) := by
  refine con_intro (own := "RollingNetsModel") (by decide +kernel) rfl (Nat.le_of_ble_eq_true rfl) (L0 := [some (rf g 551), some (.int x1), some (.int x2), some (.int x3)]) rfl (fun Z zh => ?_)
  refine z_iloadn zh dX9_isIn_0 rfl ?_
  refine z_iloadn zh dX9_isIn_1 rfl ?_
  refine z_icmp_lt (tgt := 14) zh dX9_isIn_2 rfl (fun q => ?_) (fun q1 => ?_)
  · refine z_iconst zh dX9_isIn_14 ki_0 ?_
    exact z_zret zh dX9_isIn_15 (Or.inl rfl) ⟨_, rfl, rfl, rfl, ⟨by decide, by decide⟩, fun z => absurd rfl z⟩
  · refine z_iloadn zh dX9_isIn_5 rfl ?_
    refine z_iloadn zh dX9_isIn_6 rfl ?_
    refine z_icmp_gt (tgt := 14) zh dX9_isIn_7 rfl (fun q => ?_) (fun q2 => ?_)
    · refine z_iconst zh dX9_isIn_14 ki_0 ?_
      exact z_zret zh dX9_isIn_15 (Or.inl rfl) ⟨_, rfl, rfl, rfl, ⟨by decide, by decide⟩, fun z => absurd rfl z⟩
    · refine z_iconst zh dX9_isIn_10 ki_1 ?_
      refine z_goto (tgt := 15) zh dX9_isIn_11 rfl ?_
      exact z_zret zh dX9_isIn_15 (Or.inr rfl) ⟨_, rfl, rfl, rfl, ⟨by decide, by decide⟩, fun _ => ⟨rb_nlt q1, rb_nlt q2⟩⟩
