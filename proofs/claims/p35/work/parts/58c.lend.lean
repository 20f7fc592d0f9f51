/-! WHO CAN LEND -/
def SHc (iv : Iv) (c : Nat) : Prop := 0 < (iv 552 (348 + c)).toInt ∧ (iv 552 (7764 + 102 * c)).toInt < 0
noncomputable def FRx (iv : Iv) (k c : Nat) : Int32 := @ite _ (bt (iv 552 11) k = true) (Classical.propDecidable _) (nI 0) (grI (nI 0) (iv 552 (60 + c) - iv 552 (132 + c)))
noncomputable def CLx (iv : Iv) (k c : Nat) : Int32 := @ite _ (SHc iv c) (Classical.propDecidable _) (nI 0) (grI (nI 0) (leI2 (FRx iv k c) (iv 552 (204 + c) - iv 552 (276 + c))))
def CP (iv : Iv) (x i : Int32) : Prop := ∀ k c : Nat, (k : Int) = x.toInt → (c : Int) = 6 * x.toInt + i.toInt → 0 < (CLx iv k c).toInt
set_option maxHeartbeats 1000000 in
set_option maxRecDepth 20000 in
theorem e_X9_isShort (g : GE) {sp : Nat → Nat → Bool} {σ : Iv} {iv : Iv} {lv : Lv} {a1 a2 : Int32} (ha1 : Ra 0 11 a1) (ha2 : Ra 0 5 a2) (hG : SI sp σ iv) {k c : Nat} (hk : (k : Int) = a1.toInt) (hc : (c : Int) = 6 * a1.toInt + a2.toInt) : ConI g yX9_isShort cX9_isShort 3 (some .boolean) 4 [rf g 551, .int a1, .int a2] iv lv (fun r iv' lv' => iv = iv' ∧ lv = lv' ∧ Ra 0 1 r ∧ (r = 0 ↔ ¬ SHc iv c)) := by
  refine con_intro (own := "RollingNetsModel") (by decide +kernel) rfl (Nat.le_of_ble_eq_true rfl) (L0 := [some (rf g 551), some (.int a1), some (.int a2)]) rfl (fun Z zh => ?_)
  have f1 := ha1.1; have f2 := ha1.2; have f3 := ha2.1; have f4 := ha2.2
  refine z_aloadnR zh dX9_isShort_0 rfl ?_
  refine z_iloadn zh dX9_isShort_1 rfl ?_
  refine z_iloadn zh dX9_isShort_2 rfl ?_
  refine z_callVI zh mv_Y_110 dX9_isShort_3 ck_Y rfl (t_X9_lotMany g ha1 ha2 hG.2.2.1) ⟨Nat.le_of_ble_eq_true rfl, Nat.le_of_ble_eq_true rfl⟩ rfl rfl (Nat.le_of_ble_eq_true rfl) ?_
  rintro r _ _ ⟨rfl, rfl, hr, z, ez, er⟩
  rw [cl_n (n := 348 + c) (by omega)] at er
  have h0 : ¬ SHc iv c → Z 23 [some (rf g 551), some (.int a1), some (.int a2)] [] iv lv := fun w => by
    refine z_iconst zh dX9_isShort_23 ki_0 ?_
    exact z_zret zh dX9_isShort_24 (Or.inl rfl) ⟨_, rfl, rfl, rfl, ⟨by decide, by decide⟩, ⟨fun _ => w, fun _ => rfl⟩⟩
  refine z_if_le (tgt := 23) zh dX9_isShort_6 rfl (fun q => h0 (fun w => ?_)) (fun q1 => ?_)
  · have q := leI.mp q
    rw [Int32.toInt_zero, ← er] at q
    have := w.1
    omega
  refine z_aloadnR zh dX9_isShort_9 rfl ?_
  refine z_iloadn zh dX9_isShort_10 rfl ?_
  refine z_iloadn zh dX9_isShort_11 rfl ?_
  refine z_iconst zh dX9_isShort_12 ki_0 ?_
  refine z_callVI zh mv_Y_113 dX9_isShort_13 ck_Y rfl (t_X9_sharesOf g ha1 ha2 (ra_w rl_0 (by decide) (by decide)) hG.2.2.1) ⟨Nat.le_of_ble_eq_true rfl, Nat.le_of_ble_eq_true rfl⟩ rfl rfl (Nat.le_of_ble_eq_true rfl) ?_
  rintro v _ _ ⟨rfl, rfl, z2, ez2, ev⟩
  have e0 := rl_0.1
  have e0' := rl_0.2
  rw [cl_n (n := 7764 + 102 * c) (by omega)] at ev
  refine z_if_ge (tgt := 23) zh dX9_isShort_16 rfl (fun q => h0 (fun w => ?_)) (fun q2 => ?_)
  · have q := leI.mp q
    rw [Int32.toInt_zero, ← ev] at q
    have := w.2
    omega
  refine z_iconst zh dX9_isShort_19 ki_1 ?_
  refine z_goto (tgt := 24) zh dX9_isShort_20 rfl ?_
  have q1 := ltI.mp (rb_nle q1)
  have q2 := ltI.mp (rb_nle q2)
  rw [Int32.toInt_zero] at q1 q2
  exact z_zret zh dX9_isShort_24 (Or.inr rfl) ⟨_, rfl, rfl, rfl, ⟨by decide, by decide⟩, ⟨fun w => absurd w (by decide), fun w => absurd ⟨by rw [er]; exact q1, by rw [ev]; exact q2⟩ w⟩⟩

set_option maxHeartbeats 1000000 in
set_option maxRecDepth 20000 in
theorem e_X9_stockOf (g : GE) {sp : Nat → Nat → Bool} {σ : Iv} {iv : Iv} {lv : Lv} {a1 a2 : Int32} (ha1 : Ra 0 11 a1) (ha2 : Ra 0 5 a2) (hG : SI sp σ iv) {k c : Nat} (hk : (k : Int) = a1.toInt) (hc : (c : Int) = 6 * a1.toInt + a2.toInt) : ConI g yX9_stockOf cX9_stockOf 3 (some .int) 2 [rf g 551, .int a1, .int a2] iv lv (fun r iv' lv' => iv = iv' ∧ lv = lv' ∧ r = iv 552 (60 + c)) := by
  refine con_intro (own := "RollingNetsModel") (by decide +kernel) rfl (Nat.le_of_ble_eq_true rfl) (L0 := [some (rf g 551), some (.int a1), some (.int a2)]) rfl (fun Z zh => ?_)
  have f1 := ha1.1; have f2 := ha1.2; have f3 := ha2.1; have f4 := ha2.2
  have s1 := rl_60.1; have s2 := rl_60.2
  refine z_aloadnR zh dX9_stockOf_0 rfl ?_
  refine z_getf zh fl_Y_7 dX9_stockOf_1 ck_Y rfl rfl ?_
  refine z_bipush zh dX9_stockOf_4 kb_60 ?_
  refine z_aloadnR zh dX9_stockOf_6 rfl ?_
  refine z_iloadn zh dX9_stockOf_7 rfl ?_
  refine z_iloadn zh dX9_stockOf_8 rfl ?_
  refine z_callVI zh mv_Y_65 dX9_stockOf_9 ck_Y rfl (s_X9_cellOf g ha1 ha2 hG) ⟨Nat.le_of_ble_eq_true rfl, Nat.le_of_ble_eq_true rfl⟩ rfl rfl (Nat.le_of_ble_eq_true rfl) ?_
  rintro x1 _ _ ⟨rfl, rfl, hx1, hc1⟩
  refine y_iadd zh dX9_stockOf_12 rl_60 hx1 (u := 60) (v := 131) rfl rfl (by decide) (by decide) (fun x2 hc2 hx2 => ?_)
  refine y_iald zh ck_now dX9_stockOf_13 hx2 (by decide) (by decide) (fun r er => ?_)
  rw [cl_n (n := 60 + c) (by omega)] at er
  exact z_iret zh dX9_stockOf_14 ⟨_, rfl, rfl, rfl, er.symm⟩

set_option maxHeartbeats 1000000 in
set_option maxRecDepth 20000 in
theorem e_X9_freeOf (g : GE) {sp : Nat → Nat → Bool} {σ : Iv} {iv : Iv} {lv : Lv} {a1 a2 : Int32} (ha1 : Ra 0 11 a1) (ha2 : Ra 0 5 a2) (hG : SI sp σ iv) {k c : Nat} (hk : (k : Int) = a1.toInt) (hc : (c : Int) = 6 * a1.toInt + a2.toInt) : ConI g yX9_freeOf cX9_freeOf 3 (some .int) 3 [rf g 551, .int a1, .int a2] iv lv (fun r iv' lv' => iv = iv' ∧ lv = lv' ∧ r = FRx iv k c) := by
  refine con_intro (own := "RollingNetsModel") (by decide +kernel) rfl (Nat.le_of_ble_eq_true rfl) (L0 := [some (rf g 551), some (.int a1), some (.int a2)]) rfl (fun Z zh => ?_)
  have f1 := ha1.1; have f2 := ha1.2; have f3 := ha2.1; have f4 := ha2.2
  have s1 := rl_132.1; have s2 := rl_132.2
  have ek : a1 = nI k := by obtain ⟨j, hj, e, e1, _⟩ := ra_nat ha1 (by decide); rw [e]; congr 1; omega
  refine z_aloadnR zh dX9_freeOf_0 rfl ?_
  refine z_aloadnR zh dX9_freeOf_1 rfl ?_
  refine z_getf zh fl_Y_7 dX9_freeOf_2 ck_Y rfl rfl ?_
  refine z_bipush zh dX9_freeOf_5 kb_11 ?_
  refine y_ialdN zh ck_now dX9_freeOf_7 (by decide) (fun x1 ex1 => ?_)
  refine z_iloadn zh dX9_freeOf_8 rfl ?_
  subst ek
  refine z_callVI zh mv_Y_69 dX9_freeOf_9 ck_Y rfl (e_X9_has g (k := k) (by omega)) ⟨Nat.le_of_ble_eq_true rfl, Nat.le_of_ble_eq_true rfl⟩ rfl rfl (Nat.le_of_ble_eq_true rfl) ?_
  rintro b _ _ ⟨rfl, rfl, _, hb⟩
  rw [← ex1] at hb
  refine z_if_eq (tgt := 19) zh dX9_freeOf_12 rfl (fun q => ?_) (fun q => ?_)
  · refine z_aloadnR zh dX9_freeOf_19 rfl ?_
    refine z_iconst zh dX9_freeOf_20 ki_0 ?_
    refine z_aloadnR zh dX9_freeOf_21 rfl ?_
    refine z_iloadn zh dX9_freeOf_22 rfl ?_
    refine z_iloadn zh dX9_freeOf_23 rfl ?_
    refine z_callVI zh mv_Y_73 dX9_freeOf_24 ck_Y rfl (e_X9_stockOf g ha1 ha2 hG hk hc) ⟨Nat.le_of_ble_eq_true rfl, Nat.le_of_ble_eq_true rfl⟩ rfl rfl (Nat.le_of_ble_eq_true rfl) ?_
    rintro _ _ _ ⟨rfl, rfl, rfl⟩
    refine z_aloadnR zh dX9_freeOf_27 rfl ?_
    refine z_getf zh fl_Y_7 dX9_freeOf_28 ck_Y rfl rfl ?_
    refine z_sipush zh dX9_freeOf_31 ks_132 ?_
    refine z_aloadnR zh dX9_freeOf_34 rfl ?_
    refine z_iloadn zh dX9_freeOf_35 rfl ?_
    refine z_iloadn zh dX9_freeOf_36 rfl ?_
    refine z_callVI zh mv_Y_65 dX9_freeOf_37 ck_Y rfl (s_X9_cellOf g ha1 ha2 hG) ⟨Nat.le_of_ble_eq_true rfl, Nat.le_of_ble_eq_true rfl⟩ rfl rfl (Nat.le_of_ble_eq_true rfl) ?_
    rintro x2 _ _ ⟨rfl, rfl, hx2, hc2⟩
    refine y_iadd zh dX9_freeOf_40 rl_132 hx2 (u := 132) (v := 203) rfl rfl (by decide) (by decide) (fun x3 hc3 hx3 => ?_)
    refine y_iald zh ck_now dX9_freeOf_41 hx3 (by decide) (by decide) (fun r er => ?_)
    rw [cl_n (n := 132 + c) (by omega)] at er
    subst er
    refine z_isub zh dX9_freeOf_42 ?_
    refine z_callVIp zh mv_Y_76 dX9_freeOf_43 ck_Y rfl (e_greater g) ⟨Nat.le_of_ble_eq_true rfl, Nat.le_of_ble_eq_true rfl⟩ rfl rfl (Nat.le_of_ble_eq_true rfl) ?_
    exact z_iret zh dX9_freeOf_46 ⟨_, rfl, rfl, rfl, (if_neg (by rw [hb.mp q]; decide)).symm⟩
  · refine z_iconst zh dX9_freeOf_15 ki_0 ?_
    refine z_goto (tgt := 46) zh dX9_freeOf_16 rfl ?_
    have hq : bt (iv 552 11) k = true := by
      cases w : bt (iv 552 11) k with
      | true => rfl
      | false => exact absurd (hb.mpr w) q
    exact z_iret zh dX9_freeOf_46 ⟨_, rfl, rfl, rfl, (if_pos hq).symm⟩

set_option maxHeartbeats 1000000 in
set_option maxRecDepth 20000 in
theorem e_X9_canLend (g : GE) {sp : Nat → Nat → Bool} {σ : Iv} {iv : Iv} {lv : Lv} {a1 a2 : Int32} (ha1 : Ra 0 11 a1) (ha2 : Ra 0 5 a2) (hG : SI sp σ iv) {k c : Nat} (hk : (k : Int) = a1.toInt) (hc : (c : Int) = 6 * a1.toInt + a2.toInt) : ConI g yX9_canLend cX9_canLend 3 (some .int) 5 [rf g 551, .int a1, .int a2] iv lv (fun r iv' lv' => iv = iv' ∧ lv = lv' ∧ r = CLx iv k c) := by
  refine con_intro (own := "RollingNetsModel") (by decide +kernel) rfl (Nat.le_of_ble_eq_true rfl) (L0 := [some (rf g 551), some (.int a1), some (.int a2)]) rfl (fun Z zh => ?_)
  have f1 := ha1.1; have f2 := ha1.2; have f3 := ha2.1; have f4 := ha2.2
  have s1 := rl_204.1; have s2 := rl_204.2; have s3 := rl_276.1; have s4 := rl_276.2
  refine z_aloadnR zh dX9_canLend_0 rfl ?_
  refine z_iloadn zh dX9_canLend_1 rfl ?_
  refine z_iloadn zh dX9_canLend_2 rfl ?_
  refine z_callVI zh mv_Y_116 dX9_canLend_3 ck_Y rfl (e_X9_isShort g ha1 ha2 hG hk hc) ⟨Nat.le_of_ble_eq_true rfl, Nat.le_of_ble_eq_true rfl⟩ rfl rfl (Nat.le_of_ble_eq_true rfl) ?_
  rintro b _ _ ⟨rfl, rfl, _, hb⟩
  refine z_if_eq (tgt := 13) zh dX9_canLend_6 rfl (fun q => ?_) (fun q => ?_)
  · refine z_aloadnR zh dX9_canLend_13 rfl ?_
    refine z_iconst zh dX9_canLend_14 ki_0 ?_
    refine z_aloadnR zh dX9_canLend_15 rfl ?_
    refine z_aloadnR zh dX9_canLend_16 rfl ?_
    refine z_iloadn zh dX9_canLend_17 rfl ?_
    refine z_iloadn zh dX9_canLend_18 rfl ?_
    refine z_callVI zh mv_Y_98 dX9_canLend_19 ck_Y rfl (e_X9_freeOf g ha1 ha2 hG hk hc) ⟨Nat.le_of_ble_eq_true rfl, Nat.le_of_ble_eq_true rfl⟩ rfl rfl (Nat.le_of_ble_eq_true rfl) ?_
    rintro _ _ _ ⟨rfl, rfl, rfl⟩
    refine z_aloadnR zh dX9_canLend_22 rfl ?_
    refine z_getf zh fl_Y_7 dX9_canLend_23 ck_Y rfl rfl ?_
    refine z_sipush zh dX9_canLend_26 ks_204 ?_
    refine z_aloadnR zh dX9_canLend_29 rfl ?_
    refine z_iloadn zh dX9_canLend_30 rfl ?_
    refine z_iloadn zh dX9_canLend_31 rfl ?_
    refine z_callVI zh mv_Y_65 dX9_canLend_32 ck_Y rfl (s_X9_cellOf g ha1 ha2 hG) ⟨Nat.le_of_ble_eq_true rfl, Nat.le_of_ble_eq_true rfl⟩ rfl rfl (Nat.le_of_ble_eq_true rfl) ?_
    rintro x1 _ _ ⟨rfl, rfl, hx1, hc1⟩
    refine y_iadd zh dX9_canLend_35 rl_204 hx1 (u := 204) (v := 275) rfl rfl (by decide) (by decide) (fun x2 hc2 hx2 => ?_)
    refine y_iald zh ck_now dX9_canLend_36 hx2 (by decide) (by decide) (fun r er => ?_)
    rw [cl_n (n := 204 + c) (by omega)] at er
    subst er
    refine z_aloadnR zh dX9_canLend_37 rfl ?_
    refine z_getf zh fl_Y_7 dX9_canLend_38 ck_Y rfl rfl ?_
    refine z_sipush zh dX9_canLend_41 ks_276 ?_
    refine z_aloadnR zh dX9_canLend_44 rfl ?_
    refine z_iloadn zh dX9_canLend_45 rfl ?_
    refine z_iloadn zh dX9_canLend_46 rfl ?_
    refine z_callVI zh mv_Y_65 dX9_canLend_47 ck_Y rfl (s_X9_cellOf g ha1 ha2 hG) ⟨Nat.le_of_ble_eq_true rfl, Nat.le_of_ble_eq_true rfl⟩ rfl rfl (Nat.le_of_ble_eq_true rfl) ?_
    rintro x3 _ _ ⟨rfl, rfl, hx3, hc3⟩
    refine y_iadd zh dX9_canLend_50 rl_276 hx3 (u := 276) (v := 347) rfl rfl (by decide) (by decide) (fun x4 hc4 hx4 => ?_)
    refine y_iald zh ck_now dX9_canLend_51 hx4 (by decide) (by decide) (fun r er => ?_)
    rw [cl_n (n := 276 + c) (by omega)] at er
    subst er
    refine z_isub zh dX9_canLend_52 ?_
    refine z_callVIp zh mv_Y_131 dX9_canLend_53 ck_Y rfl (e_lesser g) ⟨Nat.le_of_ble_eq_true rfl, Nat.le_of_ble_eq_true rfl⟩ rfl rfl (Nat.le_of_ble_eq_true rfl) ?_
    refine z_callVIp zh mv_Y_76 dX9_canLend_56 ck_Y rfl (e_greater g) ⟨Nat.le_of_ble_eq_true rfl, Nat.le_of_ble_eq_true rfl⟩ rfl rfl (Nat.le_of_ble_eq_true rfl) ?_
    exact z_iret zh dX9_canLend_59 ⟨_, rfl, rfl, rfl, (if_neg (hb.mp q)).symm⟩
  · refine z_iconst zh dX9_canLend_9 ki_0 ?_
    refine z_goto (tgt := 59) zh dX9_canLend_10 rfl ?_
    exact z_iret zh dX9_canLend_59 ⟨_, rfl, rfl, rfl, (if_pos (Classical.byContradiction (fun w => q (hb.mpr w)))).symm⟩

set_option maxHeartbeats 1000000 in
set_option maxRecDepth 20000 in
theorem e_X9_lenderFor (g : GE) {sp : Nat → Nat → Bool} {σ : Iv} {iv : Iv} {lv : Lv} {a1 a2 : Int32} (ha1 : Ra 0 11 a1) (ha2 : Ra 0 5 a2) (hG : SI sp σ iv) : ConI g yX9_lenderFor cX9_lenderFor 5 (some .int) 6 [rf g 551, .int a1, .int a2] iv lv (fun r iv' lv' => iv = iv' ∧ lv = lv' ∧ Ra (-1) 11 r ∧ (¬ r = -1 → ¬ r = a1 ∧ CP iv r a2)) := by
  refine con_intro (own := "RollingNetsModel") (by decide +kernel) rfl (Nat.le_of_ble_eq_true rfl) (L0 := [some (rf g 551), some (.int a1), some (.int a2), none, none]) rfl (fun Z zh => ?_)
  have f1 := ha1.1; have f2 := ha1.2; have f3 := ha2.1; have f4 := ha2.2
  refine z_iconst zh dX9_lenderFor_0 ki_m1 ?_
  refine z_istoren zh dX9_lenderFor_1 (by decide) (L' := [some (rf g 551), some (.int a1), some (.int a2), some (.int (-1)), none]) rfl ?_
  refine z_iconst zh dX9_lenderFor_2 ki_0 ?_
  refine z_istore zh dX9_lenderFor_3 (by decide) (L' := [some (rf g 551), some (.int a1), some (.int a2), some (.int (-1)), some (.int (nI 0))]) rfl ?_
  have J : ∀ (n : Nat) (x t : Int32), (¬ x = -1 → Ra 0 11 x ∧ ¬ x = a1 ∧ CP iv x a2) → Ra 0 12 t → 12 - t.toInt < (n : Int) → Z 5 [some (rf g 551), some (.int a1), some (.int a2), some (.int x), some (.int t)] [] iv lv := by
    intro n
    induction n with
    | zero => intro x t _ ht hn; exact (ms_uz ht hn).elim
    | succ n ih =>
      intro x t hB ht hn
      refine z_iload zh dX9_lenderFor_5 rfl ?_
      refine z_aloadnR zh dX9_lenderFor_7 rfl ?_
      refine z_callVI zh mv_Y_61 dX9_lenderFor_8 ck_Y rfl (s_X9_memberMany g  hG) ⟨Nat.le_of_ble_eq_true rfl, Nat.le_of_ble_eq_true rfl⟩ rfl rfl (Nat.le_of_ble_eq_true rfl) ?_
      rintro x1 _ _ ⟨rfl, rfl, hx1⟩
      refine z_icmp_ge (tgt := 60) zh dX9_lenderFor_11 rfl (fun q => ?_) (fun q => ?_)
      · refine z_iloadn zh dX9_lenderFor_60 rfl ?_
        have hx9 : Ra (-1) 11 x := by
          by_cases e : x = -1
          · rw [e]; exact ra_w rl_n1 (by decide) (by decide)
          · exact ra_w (hB e).1 (by decide) (by decide)
        exact z_iret zh dX9_lenderFor_61 ⟨_, rfl, rfl, rfl, hx9, fun e => (hB e).2⟩
      · have ht1 : Ra 0 11 t := rb_lt_l hx1 ht (rb_nle q) (by decide)
        have J54 : ∀ y, (¬ y = -1 → Ra 0 11 y ∧ ¬ y = a1 ∧ CP iv y a2) → Z 54 [some (rf g 551), some (.int a1), some (.int a2), some (.int y), some (.int t)] [] iv lv := by
          intro y hy
          refine y_iinc (L' := fun z => [some (rf g 551), some (.int a1), some (.int a2), some (.int y), some (.int z)]) zh dX9_lenderFor_54 (by decide) rfl (by decide +kernel) ht1 (u := 1) (v := 12) rfl rfl (by decide) (by decide) (fun _ => rfl) (fun x2 hc2 hx2 => ?_)
          refine z_goto (tgt := 5) zh dX9_lenderFor_57 rfl ?_
          exact ih y x2 hy (ra_w hx2 (by decide) (by decide)) (ms_up hc2 (by decide) hn)
        refine z_iload zh dX9_lenderFor_14 rfl ?_
        refine z_iloadn zh dX9_lenderFor_16 rfl ?_
        refine z_icmp_eq (tgt := 54) zh dX9_lenderFor_17 rfl (fun _ => J54 x hB) (fun q2 => ?_)
        have t1 := ht1.1; have t2 := ht1.2
        refine z_aloadnR zh dX9_lenderFor_20 rfl ?_
        refine z_iload zh dX9_lenderFor_21 rfl ?_
        refine z_iloadn zh dX9_lenderFor_23 rfl ?_
        refine z_callVI zh mv_Y_262 dX9_lenderFor_24 ck_Y rfl (e_X9_canLend g ht1 ha2 hG (k := t.toInt.toNat) (c := (6 * t.toInt + a2.toInt).toNat) (by omega) (by omega)) ⟨Nat.le_of_ble_eq_true rfl, Nat.le_of_ble_eq_true rfl⟩ rfl rfl (Nat.le_of_ble_eq_true rfl) ?_
        rintro _ _ _ ⟨rfl, rfl, rfl⟩
        refine z_if_le (tgt := 54) zh dX9_lenderFor_27 rfl (fun _ => J54 x hB) (fun q3 => ?_)
        have q3 := ltI.mp (rb_nle q3)
        rw [Int32.toInt_zero] at q3
        have hCP : CP iv t a2 := fun k' c' ek ec => by
          have e1 : k' = t.toInt.toNat := by omega
          have e2 : c' = (6 * t.toInt + a2.toInt).toNat := by omega
          subst e1 e2
          exact q3
        have J51 : Z 51 [some (rf g 551), some (.int a1), some (.int a2), some (.int x), some (.int t)] [] iv lv := by
          refine z_iload zh dX9_lenderFor_51 rfl ?_
          refine z_istoren zh dX9_lenderFor_53 (by decide) (L' := [some (rf g 551), some (.int a1), some (.int a2), some (.int t), some (.int t)]) rfl ?_
          exact J54 t (fun _ => ⟨ht1, q2, hCP⟩)
        refine z_iloadn zh dX9_lenderFor_30 rfl ?_
        refine z_iconst zh dX9_lenderFor_31 ki_m1 ?_
        refine z_icmp_eq (tgt := 51) zh dX9_lenderFor_32 rfl (fun _ => J51) (fun q4 => ?_)
        have hx11 := (hB q4).1
        refine z_aloadnR zh dX9_lenderFor_35 rfl ?_
        refine z_iload zh dX9_lenderFor_36 rfl ?_
        refine z_iloadn zh dX9_lenderFor_38 rfl ?_
        refine z_callVI zh mv_Y_262 dX9_lenderFor_39 ck_Y rfl (s_X9_canLend g ht1 ha2 hG) ⟨Nat.le_of_ble_eq_true rfl, Nat.le_of_ble_eq_true rfl⟩ rfl rfl (Nat.le_of_ble_eq_true rfl) ?_
        rintro x3 _ _ ⟨rfl, rfl, _⟩
        refine z_aloadnR zh dX9_lenderFor_42 rfl ?_
        refine z_iloadn zh dX9_lenderFor_43 rfl ?_
        refine z_iloadn zh dX9_lenderFor_44 rfl ?_
        refine z_callVI zh mv_Y_262 dX9_lenderFor_45 ck_Y rfl (s_X9_canLend g hx11 ha2 hG) ⟨Nat.le_of_ble_eq_true rfl, Nat.le_of_ble_eq_true rfl⟩ rfl rfl (Nat.le_of_ble_eq_true rfl) ?_
        rintro x4 _ _ ⟨rfl, rfl, _⟩
        exact z_icmp_le (tgt := 54) zh dX9_lenderFor_48 rfl (fun _ => J54 x hB) (fun _ => J51)
  exact J 13 (-1) (nI 0) (fun q => absurd rfl q) (ra_w rl_0 (by decide) (by decide)) (ms_u0 rl_0 (by decide))

set_option maxHeartbeats 1000000 in
set_option maxRecDepth 20000 in
theorem e_X9_lotOfDay (g : GE) {sp : Nat → Nat → Bool} {σ : Iv} {iv : Iv} {lv : Lv} {a1 a2 a3 : Int32} (ha1 : Ra 0 11 a1) (ha2 : Ra 0 5 a2) (hG : SI sp σ iv) {c : Nat} (hc : (c : Int) = 6 * a1.toInt + a2.toInt) : ConI g yX9_lotOfDay cX9_lotOfDay 5 (some .int) 5 [rf g 551, .int a1, .int a2, .int a3] iv lv (fun r iv' lv' => iv = iv' ∧ lv = lv' ∧ Ra (-1) 99 r ∧ (¬ r = -1 → ∃ n : Nat, (n : Int) = r.toInt ∧ r.toInt < (iv 552 (348 + c)).toInt ∧ iv 552 (420 + 102 * c + n) = a3)) := by
  refine con_intro (own := "RollingNetsModel") (by decide +kernel) rfl (Nat.le_of_ble_eq_true rfl) (L0 := [some (rf g 551), some (.int a1), some (.int a2), some (.int a3), none]) rfl (fun Z zh => ?_)
  have f1 := ha1.1; have f2 := ha1.2; have f3 := ha2.1; have f4 := ha2.2
  refine z_iconst zh dX9_lotOfDay_0 ki_0 ?_
  refine z_istore zh dX9_lotOfDay_1 (by decide) (L' := [some (rf g 551), some (.int a1), some (.int a2), some (.int a3), some (.int (nI 0))]) rfl ?_
  have J : ∀ (n : Nat) (t : Int32), Ra 0 100 t → 100 - t.toInt < (n : Int) → Z 3 [some (rf g 551), some (.int a1), some (.int a2), some (.int a3), some (.int t)] [] iv lv := by
    intro n
    induction n with
    | zero => intro t ht hn; exact (ms_uz ht hn).elim
    | succ n ih =>
      intro t ht hn
      have J44 : Z 44 [some (rf g 551), some (.int a1), some (.int a2), some (.int a3), some (.int t)] [] iv lv := by
        refine z_iconst zh dX9_lotOfDay_44 ki_m1 ?_
        exact z_iret zh dX9_lotOfDay_45 ⟨_, rfl, rfl, rfl, ra_w rl_n1 (by decide) (by decide), fun q => absurd rfl q⟩
      refine z_iload zh dX9_lotOfDay_3 rfl ?_
      refine z_aloadnR zh dX9_lotOfDay_5 rfl ?_
      refine z_iloadn zh dX9_lotOfDay_6 rfl ?_
      refine z_iloadn zh dX9_lotOfDay_7 rfl ?_
      refine z_callVI zh mv_Y_110 dX9_lotOfDay_8 ck_Y rfl (t_X9_lotMany g ha1 ha2 hG.2.2.1) ⟨Nat.le_of_ble_eq_true rfl, Nat.le_of_ble_eq_true rfl⟩ rfl rfl (Nat.le_of_ble_eq_true rfl) ?_
      rintro r _ _ ⟨rfl, rfl, hr, z, ez, er⟩
      rw [cl_n (n := 348 + c) (by omega)] at er
      refine z_icmp_ge (tgt := 44) zh dX9_lotOfDay_11 rfl (fun _ => J44) (fun q => ?_)
      have ht1 : Ra 0 99 t := rb_lt_l hr ht (rb_nle q) (by decide)
      have q1 := ltI.mp (rb_nle q)
      have t1 := ht1.1; have t2 := ht1.2
      refine z_aloadnR zh dX9_lotOfDay_14 rfl ?_
      refine z_iloadn zh dX9_lotOfDay_15 rfl ?_
      refine z_iloadn zh dX9_lotOfDay_16 rfl ?_
      refine z_callVI zh mv_Y_122 dX9_lotOfDay_17 ck_Y rfl (s_X9_isLong g ha1 ha2 hG) ⟨Nat.le_of_ble_eq_true rfl, Nat.le_of_ble_eq_true rfl⟩ rfl rfl (Nat.le_of_ble_eq_true rfl) ?_
      rintro x1 _ _ ⟨rfl, rfl, hx1⟩
      refine z_if_eq (tgt := 44) zh dX9_lotOfDay_20 rfl (fun _ => J44) (fun _ => ?_)
      refine z_aloadnR zh dX9_lotOfDay_23 rfl ?_
      refine z_iloadn zh dX9_lotOfDay_24 rfl ?_
      refine z_iloadn zh dX9_lotOfDay_25 rfl ?_
      refine z_iload zh dX9_lotOfDay_26 rfl ?_
      refine z_callVI zh mv_Y_125 dX9_lotOfDay_28 ck_Y rfl (t_X9_dayOf g ha1 ha2 (ra_w ht1 (by decide) (by decide)) hG.2.2.1) ⟨Nat.le_of_ble_eq_true rfl, Nat.le_of_ble_eq_true rfl⟩ rfl rfl (Nat.le_of_ble_eq_true rfl) ?_
      rintro dd _ _ ⟨rfl, rfl, hdd, z2, ez2, edd⟩
      rw [cl_n (n := 420 + 102 * c + t.toInt.toNat) (by omega)] at edd
      refine z_iloadn zh dX9_lotOfDay_31 rfl ?_
      refine z_icmp_ne (tgt := 38) zh dX9_lotOfDay_32 rfl (fun _ => ?_) (fun q5 => ?_)
      · refine y_iinc (L' := fun z => [some (rf g 551), some (.int a1), some (.int a2), some (.int a3), some (.int z)]) zh dX9_lotOfDay_38 (by decide) rfl (by decide +kernel) ht1 (u := 1) (v := 100) rfl rfl (by decide) (by decide) (fun _ => rfl) (fun x2 hc2 hx2 => ?_)
        refine z_goto (tgt := 3) zh dX9_lotOfDay_41 rfl ?_
        exact ih x2 (ra_w hx2 (by decide) (by decide)) (ms_up hc2 (by decide) hn)
      · refine z_iload zh dX9_lotOfDay_35 rfl ?_
        exact z_iret zh dX9_lotOfDay_37 ⟨_, rfl, rfl, rfl, ra_w ht1 (by decide) (by decide), fun _ => ⟨t.toInt.toNat, by omega, by rw [er]; exact q1, edd.trans q5⟩⟩
  exact J 101 (nI 0) (ra_w rl_0 (by decide) (by decide)) (ms_u0 rl_0 (by decide))
