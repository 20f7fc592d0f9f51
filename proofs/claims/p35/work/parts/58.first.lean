/-! WHO IS LONG, WHO IS SERVED FIRST -/
def LG (iv : Iv) (c : Nat) : Prop := 0 < (iv 552 (348 + c)).toInt ∧ 0 < (iv 552 (7764 + 102 * c)).toInt
def LGi (iv : Iv) (b i : Int32) : Prop := ∀ c : Nat, (c : Int) = 6 * b.toInt + i.toInt → LG iv c
theorem lgi_of {iv : Iv} {b i : Int32} {c : Nat} (hc : (c : Int) = 6 * b.toInt + i.toInt) (h : LG iv c) : LGi iv b i := fun c' hc' => by
  have : c' = c := by omega
  subst this
  exact h
set_option maxHeartbeats 1000000 in
set_option maxRecDepth 20000 in
theorem e_X9_isLong (g : GE) {sp : Nat → Nat → Bool} {σ : Iv} {iv : Iv} {lv : Lv} {a1 a2 : Int32} (ha1 : Ra 0 11 a1) (ha2 : Ra 0 5 a2) (hG : SI sp σ iv) {c : Nat} (hc : (c : Int) = 6 * a1.toInt + a2.toInt) : ConI g yX9_isLong cX9_isLong 3 (some .boolean) 4 [rf g 551, .int a1, .int a2] iv lv (fun r iv' lv' => iv = iv' ∧ lv = lv' ∧ Ra 0 1 r ∧ (¬ r = 0 → LG iv c)) := by
  refine con_intro (own := "RollingNetsModel") (by decide +kernel) rfl (Nat.le_of_ble_eq_true rfl) (L0 := [some (rf g 551), some (.int a1), some (.int a2)]) rfl (fun Z zh => ?_)
  have f1 := ha1.1; have f2 := ha1.2; have f3 := ha2.1; have f4 := ha2.2
  refine z_aloadnR zh dX9_isLong_0 rfl ?_
  refine z_iloadn zh dX9_isLong_1 rfl ?_
  refine z_iloadn zh dX9_isLong_2 rfl ?_
  refine z_callVI zh mv_Y_110 dX9_isLong_3 ck_Y rfl (t_X9_lotMany g ha1 ha2 hG.2.2.1) ⟨Nat.le_of_ble_eq_true rfl, Nat.le_of_ble_eq_true rfl⟩ rfl rfl (Nat.le_of_ble_eq_true rfl) ?_
  rintro r _ _ ⟨rfl, rfl, hr, z, ez, er⟩
  rw [cl_n (n := 348 + c) (by omega)] at er
  have h0 : Z 23 [some (rf g 551), some (.int a1), some (.int a2)] [] iv lv := by
    refine z_iconst zh dX9_isLong_23 ki_0 ?_
    exact z_zret zh dX9_isLong_24 (Or.inl rfl) ⟨_, rfl, rfl, rfl, ⟨by decide, by decide⟩, fun q => absurd rfl q⟩
  refine z_if_le (tgt := 23) zh dX9_isLong_6 rfl (fun _ => h0) (fun q1 => ?_)
  refine z_aloadnR zh dX9_isLong_9 rfl ?_
  refine z_iloadn zh dX9_isLong_10 rfl ?_
  refine z_iloadn zh dX9_isLong_11 rfl ?_
  refine z_iconst zh dX9_isLong_12 ki_0 ?_
  refine z_callVI zh mv_Y_113 dX9_isLong_13 ck_Y rfl (t_X9_sharesOf g ha1 ha2 (ra_w rl_0 (by decide) (by decide)) hG.2.2.1) ⟨Nat.le_of_ble_eq_true rfl, Nat.le_of_ble_eq_true rfl⟩ rfl rfl (Nat.le_of_ble_eq_true rfl) ?_
  rintro v _ _ ⟨rfl, rfl, z2, ez2, ev⟩
  have e0 := rl_0.1
  have e0' := rl_0.2
  rw [cl_n (n := 7764 + 102 * c) (by omega)] at ev
  refine z_if_le (tgt := 23) zh dX9_isLong_16 rfl (fun _ => h0) (fun q2 => ?_)
  refine z_iconst zh dX9_isLong_19 ki_1 ?_
  refine z_goto (tgt := 24) zh dX9_isLong_20 rfl ?_
  have q1 := ltI.mp (rb_nle q1)
  have q2 := ltI.mp (rb_nle q2)
  rw [Int32.toInt_zero] at q1 q2
  exact z_zret zh dX9_isLong_24 (Or.inr rfl) ⟨_, rfl, rfl, rfl, ⟨by decide, by decide⟩, fun _ => ⟨by rw [er]; exact q1, by rw [ev]; exact q2⟩⟩

set_option maxHeartbeats 1000000 in
set_option maxRecDepth 20000 in
theorem e_X9_firstServed (g : GE) {sp : Nat → Nat → Bool} {σ : Iv} {iv : Iv} {lv : Lv} {a1 : Int32} (ha1 : Ra 0 5 a1) (hG : SI sp σ iv) : ConI g yX9_firstServed cX9_firstServed 4 (some .int) 6 [rf g 551, .int a1] iv lv (fun r iv' lv' => iv = iv' ∧ lv = lv' ∧ Ra (-1) 11 r ∧ (¬ r = -1 → LGi iv r a1)) := by
  refine con_intro (own := "RollingNetsModel") (by decide +kernel) rfl (Nat.le_of_ble_eq_true rfl) (L0 := [some (rf g 551), some (.int a1), none, none]) rfl (fun Z zh => ?_)
  have f3 := ha1.1; have f4 := ha1.2
  refine z_iconst zh dX9_firstServed_0 ki_m1 ?_
  refine z_istoren zh dX9_firstServed_1 (by decide) (L' := [some (rf g 551), some (.int a1), some (.int (-1)), none]) rfl ?_
  refine z_iconst zh dX9_firstServed_2 ki_0 ?_
  refine z_istoren zh dX9_firstServed_3 (by decide) (L' := [some (rf g 551), some (.int a1), some (.int (-1)), some (.int (nI 0))]) rfl ?_
  have J : ∀ (n : Nat) (x k : Int32), (¬ x = -1 → Ra 0 11 x ∧ LGi iv x a1) → Ra 0 12 k → 12 - k.toInt < (n : Int) → Z 4 [some (rf g 551), some (.int a1), some (.int x), some (.int k)] [] iv lv := by
    intro n
    induction n with
    | zero => intro x k _ hk hn; exact (ms_uz hk hn).elim
    | succ n ih =>
      intro x k hB hk hn
      refine z_iloadn zh dX9_firstServed_4 rfl ?_
      refine z_aloadnR zh dX9_firstServed_5 rfl ?_
      refine z_callVI zh mv_Y_61 dX9_firstServed_6 ck_Y rfl (s_X9_memberMany g  hG) ⟨Nat.le_of_ble_eq_true rfl, Nat.le_of_ble_eq_true rfl⟩ rfl rfl (Nat.le_of_ble_eq_true rfl) ?_
      rintro x1 _ _ ⟨rfl, rfl, hx1⟩
      refine z_icmp_ge (tgt := 58) zh dX9_firstServed_9 rfl (fun q => ?_) (fun q => ?_)
      · refine z_iloadn zh dX9_firstServed_58 rfl ?_
        have hx9 : Ra (-1) 11 x := by
          by_cases e : x = -1
          · rw [e]; exact ra_w rl_n1 (by decide) (by decide)
          · exact ra_w (hB e).1 (by decide) (by decide)
        exact z_iret zh dX9_firstServed_59 ⟨_, rfl, rfl, rfl, hx9, fun e => (hB e).2⟩
      · have hk1 : Ra 0 11 k := rb_lt_l hx1 hk (rb_nle q) (by decide)
        have J52 : ∀ y, (¬ y = -1 → Ra 0 11 y ∧ LGi iv y a1) → Z 52 [some (rf g 551), some (.int a1), some (.int y), some (.int k)] [] iv lv := by
          intro y hy
          refine y_iinc (L' := fun z => [some (rf g 551), some (.int a1), some (.int y), some (.int z)]) zh dX9_firstServed_52 (by decide) rfl (by decide +kernel) hk1 (u := 1) (v := 12) rfl rfl (by decide) (by decide) (fun _ => rfl) (fun x2 hc2 hx2 => ?_)
          refine z_goto (tgt := 4) zh dX9_firstServed_55 rfl ?_
          exact ih y x2 hy (ra_w hx2 (by decide) (by decide)) (ms_up hc2 (by decide) hn)
        refine z_aloadnR zh dX9_firstServed_12 rfl ?_
        refine z_iloadn zh dX9_firstServed_13 rfl ?_
        refine z_iloadn zh dX9_firstServed_14 rfl ?_
        have k1 := hk1.1; have k2 := hk1.2
        refine z_callVI zh mv_Y_122 dX9_firstServed_15 ck_Y rfl (e_X9_isLong g hk1 ha1 hG (c := (6 * k.toInt + a1.toInt).toNat) (by omega)) ⟨Nat.le_of_ble_eq_true rfl, Nat.le_of_ble_eq_true rfl⟩ rfl rfl (Nat.le_of_ble_eq_true rfl) ?_
        rintro b _ _ ⟨rfl, rfl, hb, hl⟩
        refine z_if_eq (tgt := 52) zh dX9_firstServed_18 rfl (fun _ => J52 x hB) (fun q2 => ?_)
        have J50 : Z 50 [some (rf g 551), some (.int a1), some (.int x), some (.int k)] [] iv lv := by
          refine z_iloadn zh dX9_firstServed_50 rfl ?_
          refine z_istoren zh dX9_firstServed_51 (by decide) (L' := [some (rf g 551), some (.int a1), some (.int k), some (.int k)]) rfl ?_
          exact J52 k (fun _ => ⟨hk1, lgi_of (c := (6 * k.toInt + a1.toInt).toNat) (by omega) (hl q2)⟩)
        refine z_iloadn zh dX9_firstServed_21 rfl ?_
        refine z_iconst zh dX9_firstServed_22 ki_m1 ?_
        refine z_icmp_eq (tgt := 50) zh dX9_firstServed_23 rfl (fun _ => J50) (fun q3 => ?_)
        have hx11 := (hB q3).1
        refine z_aloadnR zh dX9_firstServed_26 rfl ?_
        refine z_iloadn zh dX9_firstServed_27 rfl ?_
        refine z_iloadn zh dX9_firstServed_28 rfl ?_
        refine z_aloadnR zh dX9_firstServed_29 rfl ?_
        refine z_iloadn zh dX9_firstServed_30 rfl ?_
        refine z_iloadn zh dX9_firstServed_31 rfl ?_
        refine z_iconst zh dX9_firstServed_32 ki_0 ?_
        refine z_callVI zh mv_Y_125 dX9_firstServed_33 ck_Y rfl (s_X9_dayOf g hk1 ha1 (ra_w rl_0 (by decide) (by decide)) hG) ⟨Nat.le_of_ble_eq_true rfl, Nat.le_of_ble_eq_true rfl⟩ rfl rfl (Nat.le_of_ble_eq_true rfl) ?_
        rintro x3 _ _ ⟨rfl, rfl, hx3, _⟩
        refine z_iloadn zh dX9_firstServed_36 rfl ?_
        refine z_aloadnR zh dX9_firstServed_37 rfl ?_
        refine z_iloadn zh dX9_firstServed_38 rfl ?_
        refine z_iloadn zh dX9_firstServed_39 rfl ?_
        refine z_iconst zh dX9_firstServed_40 ki_0 ?_
        refine z_callVI zh mv_Y_125 dX9_firstServed_41 ck_Y rfl (s_X9_dayOf g hx11 ha1 (ra_w rl_0 (by decide) (by decide)) hG) ⟨Nat.le_of_ble_eq_true rfl, Nat.le_of_ble_eq_true rfl⟩ rfl rfl (Nat.le_of_ble_eq_true rfl) ?_
        rintro x4 _ _ ⟨rfl, rfl, hx4, _⟩
        refine z_callVI zh mv_Y_243 dX9_firstServed_44 ck_Y rfl (s_X9_goesAhead g ha1 hk1 hx3 hx11 hx4 hG) ⟨Nat.le_of_ble_eq_true rfl, Nat.le_of_ble_eq_true rfl⟩ rfl rfl (Nat.le_of_ble_eq_true rfl) ?_
        rintro x5 _ _ ⟨rfl, rfl, hx5⟩
        exact z_if_eq (tgt := 52) zh dX9_firstServed_47 rfl (fun _ => J52 x hB) (fun _ => J50)
  exact J 13 (-1) (nI 0) (fun q => absurd rfl q) (ra_w rl_0 (by decide) (by decide)) (ms_u0 rl_0 (by decide))

set_option maxHeartbeats 1000000 in
set_option maxRecDepth 20000 in
theorem s_X9_allots (g : GE) {sp : Nat → Nat → Bool} {σ : Iv} {iv : Iv} {lv : Lv} {a1 : Int32} (ha1 : Ra 0 5 a1) (hG : SI sp σ iv) (hO : sp 551 14 = false) : ConV g yX9_allots cX9_allots 4 none 7 [rf g 551, .int a1] iv lv (fun iv lv => SI sp σ iv) := by
  refine con_intro (own := "RollingNetsModel") (by decide +kernel) rfl (Nat.le_of_ble_eq_true rfl) (L0 := [some (rf g 551), some (.int a1), none, none]) rfl (fun Z zh => ?_)
  have f3 := ha1.1; have f4 := ha1.2; have e0 := rl_0.1; have e0' := rl_0.2
  have J : ∀ (n : Nat) (iv : Iv) (lv : Lv), SI sp σ iv → (0 < (iv 551 14).toInt → (iv 551 14).toInt < (n : Int)) → Z 0 [some (rf g 551), some (.int a1), none, none] [] iv lv := by
    intro n
    induction n with
    | zero =>
      intro iv lv hG hn
      refine z_aloadnR zh dX9_allots_0 rfl ?_
      refine y_getI zh fl_Y_250 dX9_allots_1 ck_Y rfl rfl (fun pl epl => ?_)
      refine z_if_le (tgt := 124) zh dX9_allots_4 rfl (fun _ => z_vret zh dX9_allots_124 ⟨rfl, hG⟩) (fun q => ?_)
      have q := ltI.mp (rb_nle q)
      rw [Int32.toInt_zero] at q
      rw [epl] at hn
      have := hn q
      omega
    | succ n ih =>
      intro iv lv hG hn
      refine z_aloadnR zh dX9_allots_0 rfl ?_
      refine y_getI zh fl_Y_250 dX9_allots_1 ck_Y rfl rfl (fun x1 ex1 => ?_)
      rw [ex1] at hn
      refine z_if_le (tgt := 124) zh dX9_allots_4 rfl (fun _ => z_vret zh dX9_allots_124 ⟨rfl, hG⟩) (fun q => ?_)
      have q0 := ltI.mp (rb_nle q)
      rw [Int32.toInt_zero] at q0
      have hn := hn q0
      have hpl : Ra 1 2147483647 x1 := ⟨by omega, (ra_tt _).2⟩
      refine z_aloadnR zh dX9_allots_7 rfl ?_
      refine z_iloadn zh dX9_allots_8 rfl ?_
      refine z_callVI zh mv_Y_259 dX9_allots_9 ck_Y rfl (e_X9_firstServed g ha1 hG) ⟨Nat.le_of_ble_eq_true rfl, Nat.le_of_ble_eq_true rfl⟩ rfl rfl (Nat.le_of_ble_eq_true rfl) ?_
      rintro k _ _ ⟨rfl, rfl, hk, hB⟩
      refine z_istoren zh dX9_allots_12 (by decide) (L' := [some (rf g 551), some (.int a1), some (.int k), none]) rfl ?_
      refine z_iloadn zh dX9_allots_13 rfl ?_
      refine z_iconst zh dX9_allots_14 ki_m1 ?_
      refine z_icmp_ne (tgt := 19) zh dX9_allots_15 rfl (fun q2 => ?_) (fun _ => z_vret zh dX9_allots_18 ⟨rfl, hG⟩)
      have hk1 : Ra 0 11 k := rb_ne_lo hk rl_n1 q2 (by decide)
      have k1 := hk1.1; have k2 := hk1.2
      obtain ⟨c, hc⟩ : ∃ c : Nat, (c : Int) = 6 * k.toInt + a1.toInt := ⟨(6 * k.toInt + a1.toInt).toNat, by omega⟩
      have hL := hB q2 c hc
      refine z_aloadnR zh dX9_allots_19 rfl ?_
      refine z_aloadnR zh dX9_allots_20 rfl ?_
      refine z_getI (x := x1) zh fl_Y_250 dX9_allots_21 ck_Y rfl rfl ex1 ?_
      refine z_aloadnR zh dX9_allots_24 rfl ?_
      refine z_iloadn zh dX9_allots_25 rfl ?_
      refine z_iloadn zh dX9_allots_26 rfl ?_
      refine z_iconst zh dX9_allots_27 ki_0 ?_
      refine z_callVI zh mv_Y_113 dX9_allots_28 ck_Y rfl (t_X9_sharesOf g hk1 ha1 (ra_w rl_0 (by decide) (by decide)) hG.2.2.1) ⟨Nat.le_of_ble_eq_true rfl, Nat.le_of_ble_eq_true rfl⟩ rfl rfl (Nat.le_of_ble_eq_true rfl) ?_
      rintro v _ _ ⟨rfl, rfl, z2, ez2, ev⟩
      rw [cl_n (n := 7764 + 102 * c) (by omega)] at ev
      have hv := hL.2
      rw [ev] at hv
      refine z_callVIp zh mv_Y_131 dX9_allots_31 ck_Y rfl (e_lesser g) ⟨Nat.le_of_ble_eq_true rfl, Nat.le_of_ble_eq_true rfl⟩ rfl rfl (Nat.le_of_ble_eq_true rfl) ?_
      obtain ⟨w, ew⟩ : ∃ w, leI2 x1 v = w := ⟨_, rfl⟩
      rw [ew]
      have hw : 0 < w.toInt ∧ w.toInt ≤ x1.toInt := by
        unfold leI2 at ew
        by_cases s : x1 < v
        · rw [if_pos s] at ew; rw [← ew]; exact ⟨q0, Int.le_refl _⟩
        · rw [if_neg s] at ew; rw [← ew]; exact ⟨hv, leI.mp (rb_nlt s)⟩
      refine z_istoren zh dX9_allots_34 (by decide) (L' := [some (rf g 551), some (.int a1), some (.int k), some (.int w)]) rfl ?_
      refine z_aloadnR zh dX9_allots_35 rfl ?_
      refine z_iloadn zh dX9_allots_36 rfl ?_
      refine z_iloadn zh dX9_allots_37 rfl ?_
      refine z_iloadn zh dX9_allots_38 rfl ?_
      refine z_callVV zh mv_Y_101 dX9_allots_39 ck_Y rfl (s_X9_stockMore g hk1 ha1 hG) ⟨Nat.le_of_ble_eq_true rfl, Nat.le_of_ble_eq_true rfl⟩ rfl rfl (Nat.le_of_ble_eq_true rfl) ?_
      rintro iw lw ⟨hG, hF1⟩
      have hL1 : 0 < (iw 552 (348 + c)).toInt := by rw [(hF1 552 (348 + c)).resolve_left (by omega)]; exact hL.1
      have hP1 : iw 551 14 = x1 := ((hF1 551 14).resolve_left (by omega)).trans ex1
      revert hG hL1 hP1; generalize iw = iv; generalize lw = lv; intro hG hL1 hP1
      refine z_aloadnR zh dX9_allots_42 rfl ?_
      refine z_iloadn zh dX9_allots_43 rfl ?_
      refine z_iloadn zh dX9_allots_44 rfl ?_
      refine y_i2l zh dX9_allots_45 (fun l2 => ?_)
      refine y_lneg zh dX9_allots_46 (fun l3 => ?_)
      refine z_aloadnR zh dX9_allots_47 rfl ?_
      refine z_iloadn zh dX9_allots_48 rfl ?_
      refine z_callVI zh mv_Y_203 dX9_allots_49 ck_Y rfl (s_X9_markedOf g ha1 hG) ⟨Nat.le_of_ble_eq_true rfl, Nat.le_of_ble_eq_true rfl⟩ rfl rfl (Nat.le_of_ble_eq_true rfl) ?_
      rintro x4 _ _ ⟨rfl, rfl, _⟩
      refine y_i2l zh dX9_allots_52 (fun l5 => ?_)
      refine y_lmul zh dX9_allots_53 (fun l6 => ?_)
      refine z_callVV zh mv_Y_206 dX9_allots_54 ck_Y rfl (s_X9_cashMore g hk1 hG) ⟨Nat.le_of_ble_eq_true rfl, Nat.le_of_ble_eq_true rfl⟩ rfl rfl (Nat.le_of_ble_eq_true rfl) ?_
      rintro iw lw ⟨hG, hF2⟩
      have hL1 : 0 < (iw 552 (348 + c)).toInt := by rw [(hF2 552 (348 + c)).resolve_left (by omega)]; exact hL1
      have hP1 : iw 551 14 = x1 := ((hF2 551 14).resolve_left (by omega)).trans hP1
      revert hG hL1 hP1; generalize iw = iv; generalize lw = lv; intro hG hL1 hP1
      refine z_aloadnR zh dX9_allots_57 rfl ?_
      refine z_iloadn zh dX9_allots_58 rfl ?_
      refine z_iloadn zh dX9_allots_59 rfl ?_
      refine z_iconst zh dX9_allots_60 ki_0 ?_
      refine z_iloadn zh dX9_allots_61 rfl ?_
      refine z_callVV zh mv_Y_134 dX9_allots_62 ck_Y rfl (s_X9_takesOf g hk1 ha1 (ra_w rl_0 (by decide) (by decide)) hG (c := c) (n := 0) hc (by omega) (by omega)) ⟨Nat.le_of_ble_eq_true rfl, Nat.le_of_ble_eq_true rfl⟩ rfl rfl (Nat.le_of_ble_eq_true rfl) ?_
      rintro iw lw ⟨hG, hF3, _⟩
      have hP1 : iw 551 14 = x1 := ((hF3 551 14).resolve_left (by omega)).trans hP1
      revert hG hP1; generalize iw = iv; generalize lw = lv; intro hG hP1
      refine z_aloadnR zh dX9_allots_65 rfl ?_
      refine z_getf zh fl_Y_7 dX9_allots_66 ck_Y rfl rfl ?_
      refine z_sipush zh dX9_allots_69 ks_276 ?_
      refine z_aloadnR zh dX9_allots_72 rfl ?_
      refine z_iloadn zh dX9_allots_73 rfl ?_
      refine z_iloadn zh dX9_allots_74 rfl ?_
      refine z_callVI zh mv_Y_65 dX9_allots_75 ck_Y rfl (s_X9_cellOf g hk1 ha1 hG) ⟨Nat.le_of_ble_eq_true rfl, Nat.le_of_ble_eq_true rfl⟩ rfl rfl (Nat.le_of_ble_eq_true rfl) ?_
      rintro x7 _ _ ⟨rfl, rfl, hx7, hc7⟩
      refine y_iadd zh dX9_allots_78 rl_276 hx7 (u := 276) (v := 347) rfl rfl (by decide) (by decide) (fun x8 hc8 hx8 => ?_)
      refine z_aloadnR zh dX9_allots_79 rfl ?_
      refine z_iconst zh dX9_allots_80 ki_0 ?_
      refine z_aloadnR zh dX9_allots_81 rfl ?_
      refine z_getf zh fl_Y_7 dX9_allots_82 ck_Y rfl rfl ?_
      refine z_sipush zh dX9_allots_85 ks_276 ?_
      refine z_aloadnR zh dX9_allots_88 rfl ?_
      refine z_iloadn zh dX9_allots_89 rfl ?_
      refine z_iloadn zh dX9_allots_90 rfl ?_
      refine z_callVI zh mv_Y_65 dX9_allots_91 ck_Y rfl (s_X9_cellOf g hk1 ha1 hG) ⟨Nat.le_of_ble_eq_true rfl, Nat.le_of_ble_eq_true rfl⟩ rfl rfl (Nat.le_of_ble_eq_true rfl) ?_
      rintro x9 _ _ ⟨rfl, rfl, hx9, hc9⟩
      refine y_iadd zh dX9_allots_94 rl_276 hx9 (u := 276) (v := 347) rfl rfl (by decide) (by decide) (fun x10 hc10 hx10 => ?_)
      refine y_iald zh ck_now dX9_allots_95 hx10 (by decide) (by decide) (fun x11 ex11 => ?_)
      refine z_iloadn zh dX9_allots_96 rfl ?_
      refine y_isubT zh dX9_allots_97 (fun x12 => ?_)
      refine z_callVI zh mv_Y_76 dX9_allots_98 ck_Y rfl (s_X9_greater g  hG) ⟨Nat.le_of_ble_eq_true rfl, Nat.le_of_ble_eq_true rfl⟩ rfl rfl (Nat.le_of_ble_eq_true rfl) ?_
      rintro x13 _ _ ⟨rfl, rfl, _⟩
      refine z_iast zh ck_now dX9_allots_101 (ra_in hx8 (by decide) (by decide)) ?_
      have hG : SI sp σ (upI iv 552 x8.toNatClampNeg x13) := (nw_free hG (by have := rl_276.1; have := rl_276.2; have := hk1.1; have := hk1.2; have := ha1.1; have := ha1.2; omega))
      have em14 := (upI_ne (iv := iv) (k := 552) (j := x8.toNatClampNeg) (x := x13) (a := 551) (b := 14) (Or.inl (by decide))).trans hP1
      generalize upI iv 552 x8.toNatClampNeg x13 = iv at hG em14 ⊢
      refine z_aloadnR zh dX9_allots_102 rfl ?_
      refine z_iconst zh dX9_allots_103 ki_1 ?_
      refine z_iloadn zh dX9_allots_104 rfl ?_
      refine z_iconst zh dX9_allots_105 ki_m1 ?_
      refine z_iloadn zh dX9_allots_106 rfl ?_
      refine z_iloadn zh dX9_allots_107 rfl ?_
      refine z_callVV zh mv_Y_213 dX9_allots_108 ck_Y rfl (s_X9_writes g (ra_w rl_1 (by decide) (by decide)) ha1 (ra_w rl_n1 (by decide) (by decide)) (ra_w hk1 (by decide) (by decide)) hG) ⟨Nat.le_of_ble_eq_true rfl, Nat.le_of_ble_eq_true rfl⟩ rfl rfl (Nat.le_of_ble_eq_true rfl) ?_
      rintro iw lw ⟨hG, hF4⟩
      have hP2 : iw 551 14 = x1 := ((hF4 551 14).resolve_left (by omega)).trans em14
      revert hG hP2; generalize iw = iv; generalize lw = lv; intro hG hP2
      have hw1 : Ra 1 2147483647 w := ⟨by omega, (ra_tt _).2⟩
      refine z_aloadnR zh dX9_allots_111 rfl ?_
      refine z_aloadnR zh dX9_allots_112 rfl ?_
      refine z_getI (x := x1) zh fl_Y_250 dX9_allots_113 ck_Y rfl rfl hP2 ?_
      refine z_iloadn zh dX9_allots_116 rfl ?_
      refine y_isub zh dX9_allots_117 hpl hw1 (u := (-2147483646)) (v := 2147483646) rfl rfl (by decide) (by decide) (fun x15 hc15 hx15 => ?_)
      refine z_putI zh fl_Y_250 dX9_allots_118 ck_Y rfl rfl (Nat.le_of_ble_eq_true rfl) (Or.inl rfl) ?_
      have hG : SI sp σ (upI iv 551 14 x15) := si_w (k := 551) (j := 14) hG (by decide) (by decide) hO (fun lo hi q => (rx_none rfl) lo hi ((rg_Y (q := 0)).symm.trans q))
      have em16 : upI iv 551 14 x15 551 14 = x15 := by rw [upI_at, if_pos ⟨rfl, rfl⟩]
      generalize upI iv 551 14 x15 = iv at hG em16 ⊢
      refine z_goto (tgt := 0) zh dX9_allots_121 rfl ?_
      refine z_forget zh [true, true, false, false] (L2 := [some (rf g 551), some (.int a1), none, none]) rfl ?_
      exact ih iv lv hG (fun _ => by rw [em16, hc15]; omega)
  exact J (2 ^ 31) iv lv hG (fun _ => by have := (ra_tt (iv 551 14)).2; omega)
