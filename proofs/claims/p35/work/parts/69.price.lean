/-! THE LAW'S OWN METHOD, TOLD EXACTLY -/
theorem in_t {n : Nat} {x : Int32} (hn : n < 2 ^ 31) (h1 : ¬ x < 0) (h2 : ¬ nI n ≤ x) : nI 1 = bi (InN n x) := (bi_t ((InN_lt hn).mpr ⟨Int32.not_lt.mp h1, Int32.not_le.mp h2⟩)).symm
theorem in_t2 {n : Nat} {x : Int32} (hn : n < 2 ^ 31) (h1 : ¬ x < 0) (h2 : x < nI n) : nI 1 = bi (InN n x) := (bi_t ((InN_lt hn).mpr ⟨Int32.not_lt.mp h1, h2⟩)).symm
theorem in_f1 {n : Nat} {x : Int32} (hn : n < 2 ^ 31) (h1 : x < 0) : nI 0 = bi (InN n x) := (bi_f (fun q => Int32.not_lt.mpr ((InN_lt hn).mp q).1 h1)).symm
theorem in_f2 {n : Nat} {x : Int32} (hn : n < 2 ^ 31) (h1 : nI n ≤ x) : nI 0 = bi (InN n x) := (bi_f (fun q => Int32.not_le.mpr ((InN_lt hn).mp q).2 h1)).symm
theorem in_f3 {n : Nat} {x : Int32} (hn : n < 2 ^ 31) (h1 : ¬ x < nI n) : nI 0 = bi (InN n x) := (bi_f (fun q => h1 ((InN_lt hn).mp q).2)).symm
theorem in_t3 {n : Nat} {x : Int32} (hn : n < 2 ^ 31) (h1 : ¬ x < 0) (h2 : x ≤ nI n) : nI 1 = bi (InN (n + 1) x) := (bi_t ((InN_le hn).mpr ⟨Int32.not_lt.mp h1, h2⟩)).symm
theorem in_f4 {n : Nat} {x : Int32} (hn : n < 2 ^ 31) (h1 : ¬ x ≤ nI n) : nI 0 = bi (InN (n + 1) x) := (bi_f (fun q => h1 ((InN_le hn).mp q).2)).symm
theorem c_within (g : GE) {v a b : Int32} {iv : Iv} {lv : Lv}    : ConIp g yX8_within cX8_within 3 (some .boolean) 1 [.int v, .int a, .int b] iv lv (bi (Rg a b v)) := by
  refine con_intro (own := "RollingNets") (by decide +kernel) rfl (Nat.le_of_ble_eq_true rfl) (L0 := [some (.int v), some (.int a), some (.int b)]) rfl (fun Z zh => ?_)
  refine z_iloadn zh dX8_within_0 rfl ?_
  refine z_iloadn zh dX8_within_1 rfl ?_
  refine z_icmp_lt (tgt := 14) zh dX8_within_2 rfl (fun hb1 => ?_) (fun hb1 => ?_)
  · refine z_iconst zh dX8_within_14 ki_0 ?_
    exact z_zret zh dX8_within_15 (Or.inl rfl) (qI (by first | rfl | exact (bi_t (by first | assumption | (unfold Rg; simp only [Int32.le_iff_toInt_le, Int32.lt_iff_toInt_lt] at *; omega))).symm | exact (bi_f (by first | assumption | (unfold Rg; simp only [Int32.le_iff_toInt_le, Int32.lt_iff_toInt_lt] at *; omega))).symm))
  · refine z_iloadn zh dX8_within_5 rfl ?_
    refine z_iloadn zh dX8_within_6 rfl ?_
    refine z_icmp_gt (tgt := 14) zh dX8_within_7 rfl (fun hb2 => ?_) (fun hb2 => ?_)
    · refine z_iconst zh dX8_within_14 ki_0 ?_
      exact z_zret zh dX8_within_15 (Or.inl rfl) (qI (by first | rfl | exact (bi_t (by first | assumption | (unfold Rg; simp only [Int32.le_iff_toInt_le, Int32.lt_iff_toInt_lt] at *; omega))).symm | exact (bi_f (by first | assumption | (unfold Rg; simp only [Int32.le_iff_toInt_le, Int32.lt_iff_toInt_lt] at *; omega))).symm))
    · refine z_iconst zh dX8_within_10 ki_1 ?_
      refine z_goto (tgt := 15) zh dX8_within_11 rfl ?_
      exact z_zret zh dX8_within_15 (Or.inr rfl) (qI (by first | rfl | exact (bi_t (by first | assumption | (unfold Rg; simp only [Int32.le_iff_toInt_le, Int32.lt_iff_toInt_lt] at *; omega))).symm | exact (bi_f (by first | assumption | (unfold Rg; simp only [Int32.le_iff_toInt_le, Int32.lt_iff_toInt_lt] at *; omega))).symm))
theorem c_isIssue (g : GE) {x : Int32} {iv : Iv} {lv : Lv}    : ConIp g yX8_isIssue cX8_isIssue 1 (some .boolean) 1 [.int x] iv lv (bi (InN 6 x)) := by
  refine con_intro (own := "RollingNets") (by decide +kernel) rfl (Nat.le_of_ble_eq_true rfl) (L0 := [some (.int x)]) rfl (fun Z zh => ?_)
  refine z_iloadn zh dX8_isIssue_0 rfl ?_
  refine z_if_lt (tgt := 14) zh dX8_isIssue_1 rfl (fun hb1 => ?_) (fun hb1 => ?_)
  · refine z_iconst zh dX8_isIssue_14 ki_0 ?_
    exact z_zret zh dX8_isIssue_15 (Or.inl rfl) (qI (by first | exact in_t (by omega) (by assumption) (by assumption) | exact in_t2 (by omega) (by assumption) (by assumption) | exact in_f1 (by omega) (by assumption) | exact in_f2 (by omega) (by assumption) | exact in_f3 (by omega) (by assumption)))
  · refine z_iloadn zh dX8_isIssue_4 rfl ?_
    refine z_bipush zh dX8_isIssue_5 kb_6 ?_
    refine z_icmp_ge (tgt := 14) zh dX8_isIssue_7 rfl (fun hb2 => ?_) (fun hb2 => ?_)
    · refine z_iconst zh dX8_isIssue_14 ki_0 ?_
      exact z_zret zh dX8_isIssue_15 (Or.inl rfl) (qI (by first | exact in_t (by omega) (by assumption) (by assumption) | exact in_t2 (by omega) (by assumption) (by assumption) | exact in_f1 (by omega) (by assumption) | exact in_f2 (by omega) (by assumption) | exact in_f3 (by omega) (by assumption)))
    · refine z_iconst zh dX8_isIssue_10 ki_1 ?_
      refine z_goto (tgt := 15) zh dX8_isIssue_11 rfl ?_
      exact z_zret zh dX8_isIssue_15 (Or.inr rfl) (qI (by first | exact in_t (by omega) (by assumption) (by assumption) | exact in_t2 (by omega) (by assumption) (by assumption) | exact in_f1 (by omega) (by assumption) | exact in_f2 (by omega) (by assumption) | exact in_f3 (by omega) (by assumption)))
set_option maxRecDepth 20000 in
theorem c_y_isIn (g : GE) {v a b : Int32} {iv : Iv} {lv : Lv}    : ConIp g yX9_isIn cX9_isIn 4 (some .boolean) 1 [rf g 551, .int v, .int a, .int b] iv lv (bi (Rg a b v)) := by
  refine con_intro (own := "RollingNetsModel") (by decide +kernel) rfl (Nat.le_of_ble_eq_true rfl) (L0 := [some (rf g 551), some (.int v), some (.int a), some (.int b)]) rfl (fun Z zh => ?_)
  refine z_iloadn zh dX9_isIn_0 rfl ?_
  refine z_iloadn zh dX9_isIn_1 rfl ?_
  refine z_icmp_lt (tgt := 14) zh dX9_isIn_2 rfl (fun hb1 => ?_) (fun hb1 => ?_)
  · refine z_iconst zh dX9_isIn_14 ki_0 ?_
    exact z_zret zh dX9_isIn_15 (Or.inl rfl) (qI (by first | rfl | exact (bi_t (by first | assumption | (unfold Rg; simp only [Int32.le_iff_toInt_le, Int32.lt_iff_toInt_lt] at *; omega))).symm | exact (bi_f (by first | assumption | (unfold Rg; simp only [Int32.le_iff_toInt_le, Int32.lt_iff_toInt_lt] at *; omega))).symm))
  · refine z_iloadn zh dX9_isIn_5 rfl ?_
    refine z_iloadn zh dX9_isIn_6 rfl ?_
    refine z_icmp_gt (tgt := 14) zh dX9_isIn_7 rfl (fun hb2 => ?_) (fun hb2 => ?_)
    · refine z_iconst zh dX9_isIn_14 ki_0 ?_
      exact z_zret zh dX9_isIn_15 (Or.inl rfl) (qI (by first | rfl | exact (bi_t (by first | assumption | (unfold Rg; simp only [Int32.le_iff_toInt_le, Int32.lt_iff_toInt_lt] at *; omega))).symm | exact (bi_f (by first | assumption | (unfold Rg; simp only [Int32.le_iff_toInt_le, Int32.lt_iff_toInt_lt] at *; omega))).symm))
    · refine z_iconst zh dX9_isIn_10 ki_1 ?_
      refine z_goto (tgt := 15) zh dX9_isIn_11 rfl ?_
      exact z_zret zh dX9_isIn_15 (Or.inr rfl) (qI (by first | rfl | exact (bi_t (by first | assumption | (unfold Rg; simp only [Int32.le_iff_toInt_le, Int32.lt_iff_toInt_lt] at *; omega))).symm | exact (bi_f (by first | assumption | (unfold Rg; simp only [Int32.le_iff_toInt_le, Int32.lt_iff_toInt_lt] at *; omega))).symm))
theorem c_y_isIssue (g : GE) {x : Int32} {iv : Iv} {lv : Lv}    : ConIp g yX9_isIssue cX9_isIssue 2 (some .boolean) 1 [rf g 551, .int x] iv lv (bi (InN 6 x)) := by
  refine con_intro (own := "RollingNetsModel") (by decide +kernel) rfl (Nat.le_of_ble_eq_true rfl) (L0 := [some (rf g 551), some (.int x)]) rfl (fun Z zh => ?_)
  refine z_iloadn zh dX9_isIssue_0 rfl ?_
  refine z_if_lt (tgt := 14) zh dX9_isIssue_1 rfl (fun hb1 => ?_) (fun hb1 => ?_)
  · refine z_iconst zh dX9_isIssue_14 ki_0 ?_
    exact z_zret zh dX9_isIssue_15 (Or.inl rfl) (qI (by first | exact in_t (by omega) (by assumption) (by assumption) | exact in_t2 (by omega) (by assumption) (by assumption) | exact in_f1 (by omega) (by assumption) | exact in_f2 (by omega) (by assumption) | exact in_f3 (by omega) (by assumption)))
  · refine z_iloadn zh dX9_isIssue_4 rfl ?_
    refine z_bipush zh dX9_isIssue_5 kb_6 ?_
    refine z_icmp_ge (tgt := 14) zh dX9_isIssue_7 rfl (fun hb2 => ?_) (fun hb2 => ?_)
    · refine z_iconst zh dX9_isIssue_14 ki_0 ?_
      exact z_zret zh dX9_isIssue_15 (Or.inl rfl) (qI (by first | exact in_t (by omega) (by assumption) (by assumption) | exact in_t2 (by omega) (by assumption) (by assumption) | exact in_f1 (by omega) (by assumption) | exact in_f2 (by omega) (by assumption) | exact in_f3 (by omega) (by assumption)))
    · refine z_iconst zh dX9_isIssue_10 ki_1 ?_
      refine z_goto (tgt := 15) zh dX9_isIssue_11 rfl ?_
      exact z_zret zh dX9_isIssue_15 (Or.inr rfl) (qI (by first | exact in_t (by omega) (by assumption) (by assumption) | exact in_t2 (by omega) (by assumption) (by assumption) | exact in_f1 (by omega) (by assumption) | exact in_f2 (by omega) (by assumption) | exact in_f3 (by omega) (by assumption)))
set_option maxRecDepth 20000 in
theorem bi_p {p : Prop} (h : p) : bi p = nI 1 := by unfold bi; exact if_pos h
theorem bi_n {p : Prop} (h : ¬ p) : bi p = nI 0 := by unfold bi; exact if_neg h
theorem inN6 {x : Int32} (h : InN 6 x) : Ra 0 5 x := by
  obtain ⟨j, hj, rfl⟩ := h
  have e : (nI j).toInt = (j : Nat) := nI_toInt (by omega)
  exact ⟨by omega, by omega⟩
theorem rgRa {a b x : Int32} {l u : Int} (h : Rg a b x) (ha : a.toInt = l) (hb : b.toInt = u) : Ra l u x := by
  have h1 := leI.mp h.1; have h2 := leI.mp h.2
  exact ⟨by omega, by omega⟩
set_option maxHeartbeats 1000000 in
set_option maxRecDepth 20000 in
theorem e_X8_price (g : GE) {sp : Nat → Nat → Bool} {σ : Iv} {iv : Iv} {lv : Lv} {a1 a2 : Int32} (hG : SI sp σ iv) : ConI g yX8_price cX8_price 3 (some .boolean) 2 [rf g 0, .int a1, .int a2] iv lv (fun r iv lv => SI sp σ iv ∧ r = bi (InN 6 a1 ∧ Rg (nI 1) (nI 9999) a2)) := by
  refine con_intro (own := "RollingNets") (by decide +kernel) rfl (Nat.le_of_ble_eq_true rfl) (L0 := [some (rf g 0), some (.int a1), some (.int a2)]) rfl (fun Z zh => ?_)
  refine z_iloadn zh dX8_price_0 rfl ?_
  have J0 : ¬ (InN 6 a1 ∧ Rg (nI 1) (nI 9999) a2) → Z 18 [some (rf g 0), some (.int a1), some (.int a2)] [] iv lv := by
    intro q
    refine z_iconst zh dX8_price_18 ki_0 ?_
    exact z_zret zh dX8_price_19 (Or.inl rfl) ⟨_, rfl, hG, (bi_n q).symm⟩
  refine z_callSIp zh ms_RollingNets_68 dX8_price_1 (c_isIssue g) ⟨Nat.le_of_ble_eq_true rfl, Nat.le_of_ble_eq_true rfl⟩ rfl rfl (Nat.le_of_ble_eq_true rfl) ?_
  refine z_if_eq_B (tgt := 18) zh dX8_price_4 rfl (fun q => J0 (fun w => q w.1)) (fun hp1 => ?_)
  refine z_iloadn zh dX8_price_7 rfl ?_
  refine z_iconst zh dX8_price_8 ki_1 ?_
  refine z_sipush zh dX8_price_9 ks_9999 ?_
  refine z_callSIp zh ms_RollingNets_43 dX8_price_12 (c_within g) ⟨Nat.le_of_ble_eq_true rfl, Nat.le_of_ble_eq_true rfl⟩ rfl rfl (Nat.le_of_ble_eq_true rfl) ?_
  refine z_if_ne_B (tgt := 20) zh dX8_price_15 rfl (fun hp2 => ?_) (fun q => J0 (fun w => q w.2))
  have ha1 : Ra 0 5 a1 := inN6 hp1
  have ha2 : Ra 1 9999 a2 := rgRa hp2 (by decide +kernel) (by decide +kernel)
  refine z_aloadnR zh dX8_price_20 rfl ?_
  refine z_getf zh fl_RollingNets_12 dX8_price_21 ck_X rfl rfl ?_
  refine z_getf zh fl_RollingNets_72 dX8_price_24 (ck_H isH_1) rfl rfl ?_
  refine z_iloadn zh dX8_price_27 rfl ?_
  refine y_mald zh (ck_markets isH_1) dX8_price_28 ha1 (by decide) (by decide) (fun j1 hj1 _ _ => ?_)
  refine z_iloadn zh dX8_price_29 rfl ?_
  refine z_putI zh fl_RollingNets_91 dX8_price_30 (ck_M (isM_of isH_1 hj1)) rfl rfl (Nat.le_of_ble_eq_true rfl) (Or.inl rfl) ?_
  have hG : SI sp σ (upI iv (1 + 60 + 20 * j1) 7 a2) := si_wM hG (isM_of isH_1 hj1) 0 (by decide) (rx_none rfl)
  have em2 : upI iv (1 + 60 + 20 * j1) 7 a2 (1 + 60 + 20 * j1) 7 = a2 := by rw [upI_at, if_pos ⟨rfl, rfl⟩]
  generalize upI iv (1 + 60 + 20 * j1) 7 a2 = iv at hG em2 ⊢
  refine z_iconst zh dX8_price_33 ki_1 ?_
  exact z_zret zh dX8_price_34 (Or.inr rfl) ⟨_, rfl, hG, (bi_p ⟨hp1, hp2⟩).symm⟩

set_option maxHeartbeats 1000000 in
set_option maxRecDepth 20000 in
theorem e_X9_price (g : GE) {sp : Nat → Nat → Bool} {σ : Iv} {iv : Iv} {lv : Lv} {a1 a2 : Int32} (hG : SI sp σ iv) : ConI g yX9_price cX9_price 3 (some .boolean) 2 [rf g 551, .int a1, .int a2] iv lv (fun r iv lv => SI sp σ iv ∧ r = bi (InN 6 a1 ∧ Rg (nI 1) (nI 9999) a2)) := by
  refine con_intro (own := "RollingNetsModel") (by decide +kernel) rfl (Nat.le_of_ble_eq_true rfl) (L0 := [some (rf g 551), some (.int a1), some (.int a2)]) rfl (fun Z zh => ?_)
  refine z_aloadnR zh dX9_price_0 rfl ?_
  refine z_iconst zh dX9_price_1 ki_0 ?_
  refine z_putI zh fl_Y_58 dX9_price_2 ck_Y rfl rfl (Nat.le_of_ble_eq_true rfl) (Or.inl rfl) ?_
  have hG : SI sp σ (upI iv 551 0 (nI 0)) := si_w (k := 551) (j := 0) hG (by decide) (by decide) (sp_no hG ((spc_Y (q := 0)).trans rfl)) (fun lo hi q => (rx_none rfl) lo hi ((rg_Y (q := 0)).symm.trans q))
  have em1 : upI iv 551 0 (nI 0) 551 0 = nI 0 := by rw [upI_at, if_pos ⟨rfl, rfl⟩]
  generalize upI iv 551 0 (nI 0) = iv at hG em1 ⊢
  refine z_aloadnR zh dX9_price_5 rfl ?_
  refine z_iloadn zh dX9_price_6 rfl ?_
  have J0 : ¬ (InN 6 a1 ∧ Rg (nI 1) (nI 9999) a2) → Z 25 [some (rf g 551), some (.int a1), some (.int a2)] [] iv lv := by
    intro q
    refine z_iconst zh dX9_price_25 ki_0 ?_
    exact z_zret zh dX9_price_26 (Or.inl rfl) ⟨_, rfl, hG, (bi_n q).symm⟩
  refine z_callVIp zh mv_Y_94 dX9_price_7 ck_Y rfl (c_y_isIssue g) ⟨Nat.le_of_ble_eq_true rfl, Nat.le_of_ble_eq_true rfl⟩ rfl rfl (Nat.le_of_ble_eq_true rfl) ?_
  refine z_if_eq_B (tgt := 25) zh dX9_price_10 rfl (fun q => J0 (fun w => q w.1)) (fun hp1 => ?_)
  refine z_aloadnR zh dX9_price_13 rfl ?_
  refine z_iloadn zh dX9_price_14 rfl ?_
  refine z_iconst zh dX9_price_15 ki_1 ?_
  refine z_sipush zh dX9_price_16 ks_9999 ?_
  refine z_callVIp zh mv_Y_79 dX9_price_19 ck_Y rfl (c_y_isIn g) ⟨Nat.le_of_ble_eq_true rfl, Nat.le_of_ble_eq_true rfl⟩ rfl rfl (Nat.le_of_ble_eq_true rfl) ?_
  refine z_if_ne_B (tgt := 27) zh dX9_price_22 rfl (fun hp2 => ?_) (fun q => J0 (fun w => q w.2))
  have ha1 : Ra 0 5 a1 := inN6 hp1
  have ha2 : Ra 1 9999 a2 := rgRa hp2 (by decide +kernel) (by decide +kernel)
  refine z_aloadnR zh dX9_price_27 rfl ?_
  refine z_getf zh fl_Y_7 dX9_price_28 ck_Y rfl rfl ?_
  refine z_bipush zh dX9_price_31 kb_16 ?_
  refine z_iloadn zh dX9_price_33 rfl ?_
  refine y_iadd zh dX9_price_34 rl_16 ha1 (u := 16) (v := 21) rfl rfl (by decide) (by decide) (fun x2 hc2 hx2 => ?_)
  refine z_iloadn zh dX9_price_35 rfl ?_
  refine z_bipush zh dX9_price_36 kb_100 ?_
  refine y_isub zh dX9_price_38 ha2 rl_100 (u := (-99)) (v := 9899) rfl rfl (by decide) (by decide) (fun x3 hc3 hx3 => ?_)
  refine z_iast zh ck_now dX9_price_39 (ra_in hx2 (by decide) (by decide)) ?_
  have hG : SI sp σ (upI iv 552 x2.toNatClampNeg x3) := (nw_free hG (by have := rl_16.1; have := rl_16.2; have := ha1.1; have := ha1.2; omega))
  have em4 := (upI_ne (iv := iv) (k := 552) (j := x2.toNatClampNeg) (x := x3) (a := 551) (b := 0) (Or.inl (by decide))).trans em1
  generalize upI iv 552 x2.toNatClampNeg x3 = iv at hG em4 ⊢
  refine z_iconst zh dX9_price_40 ki_1 ?_
  exact z_zret zh dX9_price_41 (Or.inr rfl) ⟨_, rfl, hG, (bi_p ⟨hp1, hp2⟩).symm⟩

theorem con_mono {g : GE} {y : MethodName} {b : ByteArray} {n : Nat} {ret : Option FieldType} {d : Nat} {as : List Value} {iv : Iv} {lv : Lv} {Q Q' : Int32 → Iv → Lv → Prop} (h : ConI g y b n ret d as iv lv Q) (w : ∀ r iv lv, Q r iv lv → Q' r iv lv) : ConI g y b n ret d as iv lv Q' := by
  intro p e h1 h2 h3 s m args below h4 h5 h6 h7
  obtain ⟨n, o, k1, k2, k3, ⟨v, iv', lv', ho, ⟨r, hv, hq⟩, hM, hF⟩, hL⟩ := h p e h1 h2 h3 s m args below h4 h5 h6 h7
  exact ⟨n, o, k1, k2, k3, ⟨v, iv', lv', ho, ⟨r, hv, w r iv' lv' hq⟩, hM, hF⟩, hL⟩
theorem e_X9_set (g : GE) {sp : Nat → Nat → Bool} {σ iv : Iv} {lv : Lv} {a1 a2 : Int32} (hG : SI sp σ iv) (hq : Sq sp) : ConI g yX9_set cX9_set 3 (some .boolean) 3 [rf g 551, .int a1, .int a2] iv lv (fun r iv lv => SI sp σ iv) := by
  by_cases h : a1 = nI 0
  · subst h; exact con_mono (s_X9_set_0 g hG hq) (fun _ _ _ q => q.1)
  · exact con_mono (s_X9_set_n g hG hq h) (fun _ _ _ q => q.1)