/-! THE COPIES; THE IMAGE -/
set_option maxHeartbeats 1000000 in
set_option maxRecDepth 20000 in
theorem e_copyT (g : GE) {sp : Nat → Nat → Bool} {σ : Iv} {iv : Iv} {lv : Lv} {t ct rt t2 : Nat} (ht : isT t ct rt) (ht2 : isT t2 ct rt) (hd : t + 2 + ct ≤ t2 ∨ t2 + 2 + ct ≤ t) (hG : SI sp σ iv) (hs : sp t 2 = false) (hs2 : ∀ c j, c < ct → sp (t + 2 + c) j = false) (hr : ∀ c j lo hi, c < ct → c < ct → rgI (t + 2 + c) j = some (lo, hi) → rgI (t2 + 2 + c) j = some (lo, hi)) : ConV g yX7_copyFrom cX7_copyFrom 4 none 1 [rf g t, rf g t2] iv lv (fun iv' lv' => SI sp σ iv' ∧ (∀ k, k ≠ t → ¬ (t + 2 ≤ k ∧ k < t + 2 + ct) → iv' k = iv k) ∧ iv' t 2 = iv t2 2 ∧ ∀ c, c < ct → ∀ j : Nat, (j : Int) < (iv t2 2).toInt → iv' (t + 2 + c) j = iv (t2 + 2 + c) j) := by
  refine con_intro (own := "RollingNets$Table") (by decide +kernel) rfl (Nat.le_of_ble_eq_true rfl) (L0 := [some (rf g t), some (rf g t2), none, none]) rfl (fun Z zh => ?_)
  have hb := isT_b31 ht; have hb2 := isT_b31 ht2
  have ec : (nI ct).toInt = ct := nI_toInt (by omega)
  obtain ⟨i0, e0⟩ : ∃ z, z = iv := ⟨_, rfl⟩
  have ern : (nI rt).toInt = rt := nI_toInt (by omega)
  refine z_aloadnR zh dX7_copyFrom_0 rfl ?_
  refine z_getf zh fl_Table_11 dX7_copyFrom_1 (ck_T ht) rfl rfl ?_
  refine z_alenG zh (ck_Tc ht) dX7_copyFrom_4 ?_
  refine z_aloadnR zh dX7_copyFrom_5 rfl ?_
  refine z_getf zh fl_Table_11 dX7_copyFrom_6 (ck_T ht2) rfl rfl ?_
  refine z_alenG zh (ck_Tc ht2) dX7_copyFrom_9 ?_
  obtain ⟨w, ew⟩ : ∃ w : Int32, (if nI ct < nI ct then nI ct else nI ct) = w := ⟨_, rfl⟩
  refine z_mminE zh ma_Table_27 mc_min dX7_copyFrom_10 ⟨Nat.le_of_ble_eq_true rfl, Nat.le_of_ble_eq_true rfl⟩ ew ?_
  have hw : Ra 1 20 w ∧ w.toInt ≤ ct ∧ w.toInt ≤ ct := by
    rw [← ew]
    by_cases q : nI ct < nI ct
    · rw [if_pos q]; rw [ltI] at q; exact ⟨⟨by omega, by omega⟩, by omega, by omega⟩
    · rw [if_neg q]; rw [ltI] at q; exact ⟨⟨by omega, by omega⟩, by omega, by omega⟩
  have ew9 : w = nI ct := by rw [← ew]; split <;> rfl
  refine z_istoren zh dX7_copyFrom_13 (by decide) (L' := [some (rf g t), some (rf g t2), some (.int w), none]) rfl ?_
  refine z_aloadnR zh dX7_copyFrom_14 rfl ?_
  refine z_aloadnR zh dX7_copyFrom_15 rfl ?_
  refine y_getI zh fl_Table_20 dX7_copyFrom_16 (ck_T ht2) rfl rfl (fun c2 hc2 => ?_)
  have hn2 : Ra 0 rt c2 := ra_of hc2 (si_T hG ht2)
  refine z_aloadnR zh dX7_copyFrom_19 rfl ?_
  refine z_getI (x := nI rt) zh fl_Table_16 dX7_copyFrom_20 (ck_T ht) rfl rfl rfl ?_
  obtain ⟨v, ev⟩ : ∃ v : Int32, (if nI rt < c2 then nI rt else c2) = v := ⟨_, rfl⟩
  refine z_mminE zh ma_Table_27 mc_min dX7_copyFrom_23 ⟨Nat.le_of_ble_eq_true rfl, Nat.le_of_ble_eq_true rfl⟩ ev ?_
  have hv : Ra 0 rt v ∧ v.toInt ≤ rt := by
    have a1 := hn2.1; have a2 := hn2.2
    rw [← ev]
    by_cases q : nI rt < c2
    · rw [if_pos q]; rw [ltI] at q; exact ⟨⟨by omega, by omega⟩, by omega⟩
    · rw [if_neg q]; rw [ltI] at q; exact ⟨⟨by omega, by omega⟩, by omega⟩
  have ev9 : v = c2 := by rw [← ev]; exact if_neg (fun q => by rw [ltI] at q; have := hn2.2; omega)
  have et9 : i0 t2 2 = v := by rw [e0, ev9]; exact hc2
  refine z_putI zh fl_Table_20 dX7_copyFrom_26 (ck_T ht) rfl rfl (Nat.le_of_ble_eq_true rfl) (Or.inl rfl) ?_
  have hk := tt_ne ht (q := 0) (by omega)
  have hG1 : SI sp σ (upI iv t 2 v) := si_w hG hk.1 hk.2 hs (fun l u e => by
    have := rg_Tn ht e
    rw [this.1, this.2]
    exact hv.1)
  have em : upI iv t 2 v t 2 = v := by rw [upI_at, if_pos ⟨rfl, rfl⟩]
  have hF1 : ∀ k, k ≠ t → ¬ (t + 2 ≤ k ∧ k < t + 2 + ct) → upI iv t 2 v k = i0 k := fun k q _ => by rw [upI_n q, e0]
  have hC1 : ∀ c : Nat, (c : Int) < (nI 0).toInt → ∀ j : Nat, (j : Int) < v.toInt → upI iv t 2 v (t + 2 + c) j = i0 (t2 + 2 + c) j := fun c q => absurd q (by have e8 : (nI 0).toInt = 0 := (by decide); omega)
  revert hG1 em hF1 hC1; generalize upI iv t 2 v = iv; intro hG em hF hC
  refine z_iconst zh dX7_copyFrom_29 ki_0 ?_
  refine z_istoren zh dX7_copyFrom_30 (by decide) (L' := [some (rf g t), some (rf g t2), some (.int w), some (.int (nI 0))]) rfl ?_
  have J : ∀ (q : Nat) (iv : Iv) (lv : Lv) (x : Int32), SI sp σ iv → iv t 2 = v → (∀ k, k ≠ t → ¬ (t + 2 ≤ k ∧ k < t + 2 + ct) → iv k = i0 k) → (∀ c : Nat, (c : Int) < x.toInt → ∀ j : Nat, (j : Int) < v.toInt → iv (t + 2 + c) j = i0 (t2 + 2 + c) j) → Ra 0 20 x → 20 - x.toInt < (q : Int) → Z 31 [some (rf g t), some (rf g t2), some (.int w), some (.int x)] [] iv lv := by
    intro q
    induction q with
    | zero => intro iv lv x _ _ _ _ hx hn; exact (ms_uz hx hn).elim
    | succ q ih =>
      intro iv lv x hG em hF hC hx hn
      refine z_iloadn zh dX7_copyFrom_31 rfl ?_
      refine z_iloadn zh dX7_copyFrom_32 rfl ?_
      refine z_icmp_ge (tgt := 63) zh dX7_copyFrom_33 rfl (fun q => z_vret zh dX7_copyFrom_63 ⟨rfl, hG, fun k w1 w2 => (hF k w1 w2).trans (by rw [e0]), (em.trans et9.symm).trans (by rw [e0]), fun c hc j hj => (hC c (by have := leI.mp q; rw [ew9, ec] at this; omega) j (by rw [← e0, et9] at hj; exact hj)).trans (by rw [e0])⟩) (fun q1 => ?_)
      rw [leI] at q1
      have hx1 := hx.1
      have hw2 := hw.1.2; have hw3 := hw.2.1; have hw4 := hw.2.2
      refine z_aloadnR zh dX7_copyFrom_36 rfl ?_
      refine z_getf zh fl_Table_11 dX7_copyFrom_37 (ck_T ht2) rfl rfl ?_
      refine z_iloadn zh dX7_copyFrom_40 rfl ?_
      refine y_gald zh (ck_Tc ht2) dX7_copyFrom_41 (a := 0) (b := (ct : Int) - 1) (x := x) ⟨by omega, by omega⟩ (by omega) (by omega) (fun j hj ej e => ?_)
      refine z_iconst zh dX7_copyFrom_42 ki_0 ?_
      refine z_aloadnR zh dX7_copyFrom_43 rfl ?_
      refine z_getf zh fl_Table_11 dX7_copyFrom_44 (ck_T ht) rfl rfl ?_
      refine z_iloadn zh dX7_copyFrom_47 rfl ?_
      refine y_gald zh (ck_Tc ht) dX7_copyFrom_48 (a := 0) (b := (ct : Int) - 1) (x := x) ⟨by omega, by omega⟩ (by omega) (by omega) (fun j2 hj2 ej2 e2 => ?_)
      have ejj : j2 = j := by omega
      subst ejj
      refine z_iconst zh dX7_copyFrom_49 ki_0 ?_
      refine z_aloadnR zh dX7_copyFrom_50 rfl ?_
      refine z_getI (x := v) zh fl_Table_20 dX7_copyFrom_51 (ck_T ht) rfl rfl em ?_
      have hv1 := hv.1.1; have hv2 := hv.1.2; have hv3 := hv.2
      refine y_acopy zh ac_Table_33 dX7_copyFrom_54 (ck_Tr ht2 hj) (ck_Tr ht hj2) (a := 0) (b := v.toInt) ⟨hv1, Int.le_refl _⟩ (by omega) (by omega) (by omega) ⟨Nat.le_of_ble_eq_true rfl, Nat.le_of_ble_eq_true rfl⟩ (fun c hc => ?_)
      have hk9 := tt_ne ht (q := 2 + j2) (by omega)
      have hG1 : SI sp σ (cpI iv (t + 2 + j2) (t2 + 2 + j2) c) := si_cp hG (by omega) (by omega) (fun j _ => hs2 _ _ hj2) (fun j lo hi _ e => hG.2.2.1 _ _ _ _ (hr _ _ _ _ hj2 hj e))
      have em1 : cpI iv (t + 2 + j2) (t2 + 2 + j2) c t 2 = v := by rw [cpI_at, if_neg (fun e => by omega)]; exact em
      have hF1 : ∀ k, k ≠ t → ¬ (t + 2 ≤ k ∧ k < t + 2 + ct) → cpI iv (t + 2 + j2) (t2 + 2 + j2) c k = i0 k := fun k q w => by
        rw [← hF k q w]
        exact funext fun j => by rw [cpI_at, if_neg (fun e => by omega)]
      have hC1 : ∀ c' : Nat, (c' : Int) < x.toInt + 1 → ∀ j : Nat, (j : Int) < v.toInt → cpI iv (t + 2 + j2) (t2 + 2 + j2) c (t + 2 + c') j = i0 (t2 + 2 + c') j := fun c' q j w => by
        rw [cpI_at]
        by_cases e : c' = j2
        · subst e
          rw [if_pos ⟨rfl, by omega⟩, hF _ (by omega) (by omega)]
        · rw [if_neg (fun z => e (by omega))]
          exact hC c' (by omega) j w
      revert hG1 em1 hF1 hC1; generalize cpI iv (t + 2 + j2) (t2 + 2 + j2) c = iv; intro hG em hF hC
      refine y_iinc (L' := fun z => [some (rf g t), some (rf g t2), some (.int w), some (.int z)]) zh dX7_copyFrom_57 (by decide) rfl (by decide +kernel) (a := 0) (b := 19) ⟨by omega, by omega⟩ rfl rfl (by decide) (by decide) (fun _ => rfl) (fun z ez hz => ?_)
      refine z_goto (tgt := 31) zh dX7_copyFrom_60 rfl ?_
      exact ih iv lv z hG em hF (by rw [ez]; exact hC) (ra_w hz (by decide) (by decide)) (ms_up ez (by decide) hn)
  have e0 : (nI 0).toInt = 0 := by decide
  exact J 21 iv lv (nI 0) hG em hF hC ⟨by omega, by omega⟩ (by omega)
theorem k_copyH {sp : Nat → Nat → Bool} {σ iv : Iv} {lv : Lv} (g : GE) {h h2 r ct rt : Nat} (hh : isH h) (hh2 : isH h2) (ht : isT (h + r) ct rt) (ht2 : isT (h2 + r) ct rt) (hr : r + 2 + ct ≤ 180) (hG : SI sp σ iv) (hs : sp (h + r) 2 = false) (hs2 : ∀ c j, c < ct → sp (h + (r + 2 + c)) j = false) : ConV g yX7_copyFrom cX7_copyFrom 4 none 1 [rf g (h + r), rf g (h2 + r)] iv lv (fun iv lv => SI sp σ iv) :=
  z_copyT g ht ht2 hG hs (fun c j hc => by rw [show h + r + 2 + c = h + (r + 2 + c) by omega]; exact hs2 c j hc) (fun c j lo hi hc _ e => by
    rw [show h + r + 2 + c = h + (r + 2 + c) by omega, rg_H hh (by omega)] at e
    rw [show h2 + r + 2 + c = h2 + (r + 2 + c) by omega, rg_H hh2 (by omega)]
    exact e)
theorem h_dist {h h2 r : Nat} (hh : isH h) (hh2 : isH h2) (hne : h ≠ h2) (n : Nat) (hr : r + n ≤ 180) : h + r + n ≤ h2 + r ∨ h2 + r + n ≤ h + r := by
  rcases hh with rfl | rfl | rfl <;> rcases hh2 with rfl | rfl | rfl <;> omega
theorem e_copyH {sp : Nat → Nat → Bool} {σ iv : Iv} {lv : Lv} (g : GE) {h h2 r ct rt : Nat} (hh : isH h) (hh2 : isH h2) (hne : h ≠ h2) (ht : isT (h + r) ct rt) (ht2 : isT (h2 + r) ct rt) (hr : r + 2 + ct ≤ 180) (hG : SI sp σ iv) (hs : sp (h + r) 2 = false) (hs2 : ∀ c j, c < ct → sp (h + (r + 2 + c)) j = false) : ConV g yX7_copyFrom cX7_copyFrom 4 none 1 [rf g (h + r), rf g (h2 + r)] iv lv (fun iv' lv' => SI sp σ iv' ∧ (∀ k, k ≠ h + r → ¬ (h + r + 2 ≤ k ∧ k < h + r + 2 + ct) → iv' k = iv k) ∧ iv' (h + r) 2 = iv (h2 + r) 2 ∧ ∀ c, c < ct → ∀ j : Nat, (j : Int) < (iv (h2 + r) 2).toInt → iv' (h + r + 2 + c) j = iv (h2 + r + 2 + c) j) :=
  e_copyT g ht ht2 (by have := h_dist hh hh2 hne (2 + ct) (r := r) (by omega); omega) hG hs (fun c j hc => by rw [show h + r + 2 + c = h + (r + 2 + c) by omega]; exact hs2 c j hc) (fun c j lo hi hc _ e => by
    rw [show h + r + 2 + c = h + (r + 2 + c) by omega, rg_H hh (by omega)] at e
    rw [show h2 + r + 2 + c = h2 + (r + 2 + c) by omega, rg_H hh2 (by omega)]
    exact e)
set_option maxHeartbeats 1000000 in
set_option maxRecDepth 20000 in
theorem k_X1_copyFrom (g : GE) {sp : Nat → Nat → Bool} {σ : Iv} {iv : Iv} {lv : Lv} {h h2 : Nat} (hh : isH h) (hh2 : isH h2) (hG : SI sp σ iv) (hN : ∀ r j, r < 180 → sp (h + r) j = false) : ConV g yX1_copyFrom cX1_copyFrom 3 none 2 [rf g h, rf g h2] iv lv (fun iv lv => SI sp σ iv) := by
  refine con_intro (own := "RollingNets$House") (by decide +kernel) rfl (Nat.le_of_ble_eq_true rfl) (L0 := [some (rf g h), some (rf g h2), none]) rfl (fun Z zh => ?_)
  refine z_aloadnR zh dX1_copyFrom_0 rfl ?_
  refine z_getf zh fl_House_13 dX1_copyFrom_1 (ck_H hh2) rfl rfl ?_
  refine z_iconst zh dX1_copyFrom_4 ki_0 ?_
  refine z_aloadnR zh dX1_copyFrom_5 rfl ?_
  refine z_getf zh fl_House_13 dX1_copyFrom_6 (ck_H hh) rfl rfl ?_
  refine z_iconst zh dX1_copyFrom_9 ki_0 ?_
  refine z_aloadnR zh dX1_copyFrom_10 rfl ?_
  refine z_getf zh fl_House_13 dX1_copyFrom_11 (ck_H hh) rfl rfl ?_
  refine z_alenI zh (ck_told hh) dX1_copyFrom_14 ?_
  refine z_acopy (cn := 7) zh ac_House_83 dX1_copyFrom_15 (ck_told hh2) (ck_told hh) (by decide) (by decide) ⟨Nat.le_of_ble_eq_true rfl, Nat.le_of_ble_eq_true rfl⟩ ?_
  have hG1 : SI sp σ (cpI iv (h + 1) (h2 + 1) 7) := by
    have := H_lt hh (r := 1) (by omega)
    refine si_cp hG (by omega) (by omega) (fun j _ => hN _ _ (by omega)) (fun j lo hi _ e => si_c hG ?_)
    rw [rg_H hh (by omega)] at e
    rw [rg_H hh2 (by omega)]
    exact e
  revert hG1; generalize cpI iv (h + 1) (h2 + 1) 7 = iv; intro hG
  refine z_iconst zh dX1_copyFrom_18 ki_0 ?_
  refine z_istoren zh dX1_copyFrom_19 (by decide) (L' := [some (rf g h), some (rf g h2), some (.int (nI 0))]) rfl ?_
  have J82 : ∀ (q : Nat) (iv : Iv) (lv : Lv) (k : Int32), SI sp σ iv → Ra 0 6 k → 6 - k.toInt < (q : Int) → Z 82 [some (rf g h), some (rf g h2), some (.int k)] [] iv lv := by
    intro q
    induction q with
    | zero => intro iv lv k _ hk hn; exact (ms_uz hk hn).elim
    | succ q ih =>
      intro iv lv k hG hk hn
      refine z_iloadn zh dX1_copyFrom_82 rfl ?_
      refine z_bipush zh dX1_copyFrom_83 kb_6 ?_
      refine z_icmp_ge (tgt := 109) zh dX1_copyFrom_85 rfl (fun _ => ?_) (fun q => ?_)
      · refine z_aloadnR zh dX1_copyFrom_109 rfl ?_
        refine z_getf zh fl_House_43 dX1_copyFrom_110 (ck_H hh) rfl rfl ?_
        refine z_aloadnR zh dX1_copyFrom_113 rfl ?_
        refine z_getf zh fl_House_43 dX1_copyFrom_114 (ck_H hh2) rfl rfl ?_
        refine z_callVV zh mv_House_169 dX1_copyFrom_117 (ck_T (isT_d hh)) rfl (k_copyH g hh hh2 (isT_d hh) (isT_d hh2) (by decide) hG (hN _ _ (by decide)) (fun c j hc => hN _ _ (by omega))) ⟨Nat.le_of_ble_eq_true rfl, Nat.le_of_ble_eq_true rfl⟩ rfl rfl (Nat.le_of_ble_eq_true rfl) ?_
        rintro iv lv hG
        refine z_aloadnR zh dX1_copyFrom_120 rfl ?_
        refine z_getf zh fl_House_47 dX1_copyFrom_121 (ck_H hh) rfl rfl ?_
        refine z_aloadnR zh dX1_copyFrom_124 rfl ?_
        refine z_getf zh fl_House_47 dX1_copyFrom_125 (ck_H hh2) rfl rfl ?_
        refine z_callVV zh mv_House_169 dX1_copyFrom_128 (ck_T (isT_n hh)) rfl (k_copyH g hh hh2 (isT_n hh) (isT_n hh2) (by decide) hG (hN _ _ (by decide)) (fun c j hc => hN _ _ (by omega))) ⟨Nat.le_of_ble_eq_true rfl, Nat.le_of_ble_eq_true rfl⟩ rfl rfl (Nat.le_of_ble_eq_true rfl) ?_
        rintro iv lv hG
        refine z_aloadnR zh dX1_copyFrom_131 rfl ?_
        refine z_getf zh fl_House_50 dX1_copyFrom_132 (ck_H hh) rfl rfl ?_
        refine z_aloadnR zh dX1_copyFrom_135 rfl ?_
        refine z_getf zh fl_House_50 dX1_copyFrom_136 (ck_H hh2) rfl rfl ?_
        refine z_callVV zh mv_House_169 dX1_copyFrom_139 (ck_T (isT_b hh)) rfl (k_copyH g hh hh2 (isT_b hh) (isT_b hh2) (by decide) hG (hN _ _ (by decide)) (fun c j hc => hN _ _ (by omega))) ⟨Nat.le_of_ble_eq_true rfl, Nat.le_of_ble_eq_true rfl⟩ rfl rfl (Nat.le_of_ble_eq_true rfl) ?_
        rintro iv lv hG
        refine z_aloadnR zh dX1_copyFrom_142 rfl ?_
        refine z_getf zh fl_House_53 dX1_copyFrom_143 (ck_H hh) rfl rfl ?_
        refine z_aloadnR zh dX1_copyFrom_146 rfl ?_
        refine z_getf zh fl_House_53 dX1_copyFrom_147 (ck_H hh2) rfl rfl ?_
        refine z_callVV zh mv_House_169 dX1_copyFrom_150 (ck_T (isT_p hh)) rfl (k_copyH g hh hh2 (isT_p hh) (isT_p hh2) (by decide) hG (hN _ _ (by decide)) (fun c j hc => hN _ _ (by omega))) ⟨Nat.le_of_ble_eq_true rfl, Nat.le_of_ble_eq_true rfl⟩ rfl rfl (Nat.le_of_ble_eq_true rfl) ?_
        rintro iv lv hG
        refine z_aloadnR zh dX1_copyFrom_153 rfl ?_
        refine z_aloadnR zh dX1_copyFrom_154 rfl ?_
        refine y_getI zh fl_House_56 dX1_copyFrom_155 (ck_H hh2) rfl rfl (fun x1 ex1 => ?_)
        refine z_putI zh fl_House_56 dX1_copyFrom_158 (ck_H hh) rfl rfl (Nat.le_of_ble_eq_true rfl) (Or.inl rfl) ?_
        have hG : SI sp σ (upI iv h 10 x1) := si_wHk hG hh 0 (by decide) (hN 0 _ (by decide)) (rx_none rfl)
        have em3 : upI iv h 10 x1 h 10 = x1 := by rw [upI_at, if_pos ⟨rfl, rfl⟩]
        generalize upI iv h 10 x1 = iv at hG em3 ⊢
        refine z_aloadnR zh dX1_copyFrom_161 rfl ?_
        refine z_aloadnR zh dX1_copyFrom_162 rfl ?_
        refine y_getI zh fl_House_60 dX1_copyFrom_163 (ck_H hh2) rfl rfl (fun x4 ex4 => ?_)
        have hx4 : Ra 0 99 x4 := ra_of ex4 (si_H hG hh2 0 (by decide) rfl)
        refine z_putI zh fl_House_60 dX1_copyFrom_166 (ck_H hh) rfl rfl (Nat.le_of_ble_eq_true rfl) (Or.inl rfl) ?_
        have hG : SI sp σ (upI iv h 11 x4) := si_wHk hG hh 0 (by decide) (hN 0 _ (by decide)) (rx_some hx4)
        have em5 := (upI_ne (iv := iv) (k := h) (j := 11) (x := x4) (a := h) (b := 10) (Or.inr (by decide))).trans em3
        have em7 : upI iv h 11 x4 h 11 = x4 := by rw [upI_at, if_pos ⟨rfl, rfl⟩]
        generalize upI iv h 11 x4 = iv at hG em5 em7 ⊢
        refine z_aloadnR zh dX1_copyFrom_169 rfl ?_
        refine z_aloadnR zh dX1_copyFrom_170 rfl ?_
        refine y_getL zh fl_House_63 dX1_copyFrom_171 (ck_H hh2) rfl rfl (fun l8 => ?_)
        refine z_putL zh fl_House_63 dX1_copyFrom_174 (ck_H hh) rfl rfl (Nat.le_of_ble_eq_true rfl) rfl ?_
        generalize upL lv h 12 l8 = lv
        exact z_vret zh dX1_copyFrom_177 ⟨rfl, hG⟩
      · have hk1 : Ra 0 5 k := rb_lt_l rl_6 hk (rb_nle q) (by decide)
        refine z_aloadnR zh dX1_copyFrom_88 rfl ?_
        refine z_getf zh fl_House_34 dX1_copyFrom_89 (ck_H hh) rfl rfl ?_
        refine z_iloadn zh dX1_copyFrom_92 rfl ?_
        refine y_mald zh (ck_markets hh) dX1_copyFrom_93 hk1 (by decide) (by decide) (fun j9 hj9 _ _ => ?_)
        refine z_aloadnR zh dX1_copyFrom_94 rfl ?_
        refine z_getf zh fl_House_34 dX1_copyFrom_95 (ck_H hh2) rfl rfl ?_
        refine z_iloadn zh dX1_copyFrom_98 rfl ?_
        refine y_mald zh (ck_markets hh2) dX1_copyFrom_99 hk1 (by decide) (by decide) (fun j10 hj10 _ _ => ?_)
        refine z_callVV zh mv_House_165 dX1_copyFrom_100 (ck_M (isM_of hh hj9)) rfl (s_X3_copyFrom g (isM_of hh hj9) (isM_of hh2 hj10) hG) ⟨Nat.le_of_ble_eq_true rfl, Nat.le_of_ble_eq_true rfl⟩ rfl rfl (Nat.le_of_ble_eq_true rfl) ?_
        rintro iv lv hG
        refine y_iinc (L' := fun z => [some (rf g h), some (rf g h2), some (.int z)]) zh dX1_copyFrom_103 (by decide) rfl (by decide +kernel) hk1 (u := 1) (v := 6) rfl rfl (by decide) (by decide) (fun _ => rfl) (fun x11 hc11 hx11 => ?_)
        refine z_goto (tgt := 82) zh dX1_copyFrom_106 rfl ?_
        exact ih iv lv x11 hG (ra_w hx11 (by decide) (by decide)) (ms_up hc11 (by decide) hn)
  have J20 : ∀ (q : Nat) (iv : Iv) (lv : Lv) (k : Int32), SI sp σ iv → Ra 0 12 k → 12 - k.toInt < (q : Int) → Z 20 [some (rf g h), some (rf g h2), some (.int k)] [] iv lv := by
    intro q
    induction q with
    | zero => intro iv lv k _ hk hn; exact (ms_uz hk hn).elim
    | succ q ih =>
      intro iv lv k hG hk hn
      refine z_iloadn zh dX1_copyFrom_20 rfl ?_
      refine z_bipush zh dX1_copyFrom_21 kb_12 ?_
      refine z_icmp_ge (tgt := 80) zh dX1_copyFrom_23 rfl (fun _ => ?_) (fun q => ?_)
      · refine z_iconst zh dX1_copyFrom_80 ki_0 ?_
        refine z_istoren zh dX1_copyFrom_81 (by decide) (L' := [some (rf g h), some (rf g h2), some (.int (nI 0))]) rfl ?_
        exact J82 7 iv lv (nI 0) hG (ra_w rl_0 (by decide) (by decide)) (ms_u0 rl_0 (by decide))
      · have hk1 : Ra 0 11 k := rb_lt_l rl_12 hk (rb_nle q) (by decide)
        refine z_aloadnR zh dX1_copyFrom_26 rfl ?_
        refine z_getf zh fl_House_18 dX1_copyFrom_27 (ck_H hh) rfl rfl ?_
        refine z_iloadn zh dX1_copyFrom_30 rfl ?_
        refine z_aloadnR zh dX1_copyFrom_31 rfl ?_
        refine z_getf zh fl_House_18 dX1_copyFrom_32 (ck_H hh2) rfl rfl ?_
        refine z_iloadn zh dX1_copyFrom_35 rfl ?_
        refine y_lald zh (ck_cash hh2) dX1_copyFrom_36 hk1 (by decide) (by decide) (fun l12 => ?_)
        refine z_last zh (ck_cash hh) dX1_copyFrom_37 (ra_in hk1 (by decide) (by decide)) ?_
        generalize upL lv (h + 2) k.toNatClampNeg l12 = lv
        refine z_aloadnR zh dX1_copyFrom_38 rfl ?_
        refine z_getf zh fl_House_22 dX1_copyFrom_39 (ck_H hh) rfl rfl ?_
        refine z_iloadn zh dX1_copyFrom_42 rfl ?_
        refine z_aloadnR zh dX1_copyFrom_43 rfl ?_
        refine z_getf zh fl_House_22 dX1_copyFrom_44 (ck_H hh2) rfl rfl ?_
        refine z_iloadn zh dX1_copyFrom_47 rfl ?_
        refine y_iald zh (ck_rank hh2) dX1_copyFrom_48 hk1 (by decide) (by decide) (fun x13 ex13 => ?_)
        refine z_iast zh (ck_rank hh) dX1_copyFrom_49 (ra_in hk1 (by decide) (by decide)) ?_
        have hG : SI sp σ (upI iv (h + 3) k.toNatClampNeg x13) := si_wH hG hh 3 (by decide) rfl (rx_none rfl)
        generalize upI iv (h + 3) k.toNatClampNeg x13 = iv at hG  ⊢
        refine z_aloadnR zh dX1_copyFrom_50 rfl ?_
        refine z_getf zh fl_House_25 dX1_copyFrom_51 (ck_H hh) rfl rfl ?_
        refine z_iloadn zh dX1_copyFrom_54 rfl ?_
        refine z_aloadnR zh dX1_copyFrom_55 rfl ?_
        refine z_getf zh fl_House_25 dX1_copyFrom_56 (ck_H hh2) rfl rfl ?_
        refine z_iloadn zh dX1_copyFrom_59 rfl ?_
        refine y_iald zh (ck_pledged hh2) dX1_copyFrom_60 hk1 (by decide) (by decide) (fun x14 ex14 => ?_)
        refine z_iast zh (ck_pledged hh) dX1_copyFrom_61 (ra_in hk1 (by decide) (by decide)) ?_
        have hG : SI sp σ (upI iv (h + 4) k.toNatClampNeg x14) := si_wH hG hh 4 (by decide) rfl (rx_none rfl)
        generalize upI iv (h + 4) k.toNatClampNeg x14 = iv at hG  ⊢
        refine z_aloadnR zh dX1_copyFrom_62 rfl ?_
        refine z_getf zh fl_House_28 dX1_copyFrom_63 (ck_H hh) rfl rfl ?_
        refine z_iloadn zh dX1_copyFrom_66 rfl ?_
        refine z_aloadnR zh dX1_copyFrom_67 rfl ?_
        refine z_getf zh fl_House_28 dX1_copyFrom_68 (ck_H hh2) rfl rfl ?_
        refine z_iloadn zh dX1_copyFrom_71 rfl ?_
        refine y_zald zh (ck_susp hh2) dX1_copyFrom_72 hk1 (by decide) (by decide) (fun x15 ex15 => ?_)
        refine z_zast zh (ck_susp hh) dX1_copyFrom_73 (ra_in hk1 (by decide) (by decide)) ?_
        have hG : SI sp σ (upI iv (h + 5) k.toNatClampNeg (vp_nar .boolean x15)) := si_wH hG hh 5 (by decide) rfl (rx_none rfl)
        generalize upI iv (h + 5) k.toNatClampNeg (vp_nar .boolean x15) = iv at hG  ⊢
        refine y_iinc (L' := fun z => [some (rf g h), some (rf g h2), some (.int z)]) zh dX1_copyFrom_74 (by decide) rfl (by decide +kernel) hk1 (u := 1) (v := 12) rfl rfl (by decide) (by decide) (fun _ => rfl) (fun x16 hc16 hx16 => ?_)
        refine z_goto (tgt := 20) zh dX1_copyFrom_77 rfl ?_
        exact ih iv lv x16 hG (ra_w hx16 (by decide) (by decide)) (ms_up hc16 (by decide) hn)
  exact J20 13 iv lv (nI 0) hG (ra_w rl_0 (by decide) (by decide)) (ms_u0 rl_0 (by decide))
/-- what house h has of house h2's cells that the parts hang on -/
def CpF (h h2 : Nat) (σ iv : Iv) : Prop := iv (h + 1) 0 = σ (h2 + 1) 0 ∧ iv (h + 7) 2 = σ (h2 + 7) 2 ∧ iv (h + 46) 2 = σ (h2 + 46) 2 ∧ (∀ c, c < 6 → ∀ j : Nat, (j : Int) < (σ (h2 + 46) 2).toInt → iv (h + 48 + c) j = σ (h2 + 48 + c) j) ∧ iv h 10 = σ h2 10 ∧ iv h 11 = σ h2 11
theorem kH_src {sp : Nat → Nat → Bool} {σ iv : Iv} {h2 r j : Nat} (hG : SI sp σ iv) (hS2 : ∀ r j, kH r j = true → sp (h2 + r) j = true) (e : kH r j = true) : iv (h2 + r) j = σ (h2 + r) j := si_s hG (hS2 r j e)
theorem kH_p {r j : Nat} (h1 : 48 ≤ r) (h2 : r < 54) : kH r j = true := by
  unfold kH
  rw [if_neg (by omega), if_neg (by omega), if_neg (by omega), if_neg (by omega), if_neg (by omega)]
  exact decide_eq_true h2
theorem sp1_no {sp : Nat → Nat → Bool} {k0 j0 k j : Nat} (h : sp k j = false) (hk : k ≠ k0 ∨ j ≠ j0) : sp1 sp k0 j0 k j = false := by
  unfold sp1
  rw [h]
  rcases hk with q | q
  · rw [beq_false_of_ne q]; rfl
  · rw [beq_false_of_ne q, Bool.and_false]; rfl
theorem sp1_src {sp : Nat → Nat → Bool} {k0 j0 k j : Nat} (h : sp k j = true) : sp1 sp k0 j0 k j = true := by unfold sp1; rw [h]; rfl
theorem si_drop2 {sp : Nat → Nat → Bool} {σ i0 iv : Iv} {a b c d : Nat} (hS : SI sp σ i0) (hG : SI (sp1 (sp1 sp a b) c d) i0 iv) : SI sp σ iv ∧ iv a b = i0 a b ∧ iv c d = i0 c d :=
  ⟨⟨hS.1, fun k j q => (hG.2.1 k j (sp1_src (sp1_src q))).trans (hS.2.1 k j q), hG.2.2⟩, hG.2.1 a b (sp1_src (by unfold sp1; rw [beq_self_eq_true, beq_self_eq_true]; exact Bool.or_true _)), hG.2.1 c d (by unfold sp1; rw [beq_self_eq_true, beq_self_eq_true]; exact Bool.or_true _)⟩
set_option maxHeartbeats 1000000 in
set_option maxRecDepth 20000 in
theorem e_X1_copyFrom (g : GE) {sp : Nat → Nat → Bool} {σ : Iv} {iv : Iv} {lv : Lv} {h h2 : Nat} (hh : isH h) (hh2 : isH h2) (hG : SI sp σ iv) (hne : h ≠ h2) (hN : ∀ r j, r < 180 → sp (h + r) j = false) (hS2 : ∀ r j, kH r j = true → sp (h2 + r) j = true) : ConV g yX1_copyFrom cX1_copyFrom 3 none 2 [rf g h, rf g h2] iv lv (fun iv' lv' => SI sp σ iv' ∧ CpF h h2 σ iv') := by
  refine con_intro (own := "RollingNets$House") (by decide +kernel) rfl (Nat.le_of_ble_eq_true rfl) (L0 := [some (rf g h), some (rf g h2), none]) rfl (fun Z zh => ?_)
  refine z_aloadnR zh dX1_copyFrom_0 rfl ?_
  refine z_getf zh fl_House_13 dX1_copyFrom_1 (ck_H hh2) rfl rfl ?_
  refine z_iconst zh dX1_copyFrom_4 ki_0 ?_
  refine z_aloadnR zh dX1_copyFrom_5 rfl ?_
  refine z_getf zh fl_House_13 dX1_copyFrom_6 (ck_H hh) rfl rfl ?_
  refine z_iconst zh dX1_copyFrom_9 ki_0 ?_
  refine z_aloadnR zh dX1_copyFrom_10 rfl ?_
  refine z_getf zh fl_House_13 dX1_copyFrom_11 (ck_H hh) rfl rfl ?_
  refine z_alenI zh (ck_told hh) dX1_copyFrom_14 ?_
  refine z_acopy (cn := 7) zh ac_House_83 dX1_copyFrom_15 (ck_told hh2) (ck_told hh) (by decide) (by decide) ⟨Nat.le_of_ble_eq_true rfl, Nat.le_of_ble_eq_true rfl⟩ ?_
  have hG1 : SI sp σ (cpI iv (h + 1) (h2 + 1) 7) := by
    have := H_lt hh (r := 1) (by omega)
    refine si_cp hG (by omega) (by omega) (fun j _ => hN _ _ (by omega)) (fun j lo hi _ e => si_c hG ?_)
    rw [rg_H hh (by omega)] at e
    rw [rg_H hh2 (by omega)]
    exact e
  have em0 : cpI iv (h + 1) (h2 + 1) 7 (h + 1) 0 = σ (h2 + 1) 0 := by rw [cpI_at, if_pos ⟨rfl, by decide⟩]; exact kH_src hG hS2 rfl
  revert hG1 em0; generalize cpI iv (h + 1) (h2 + 1) 7 = iv; intro hS em0
  obtain ⟨i0, e0⟩ : ∃ z, z = iv := ⟨_, rfl⟩
  rw [← e0] at hS em0
  have hH := H_lt hh (r := 60) (by omega)
  have hG : SI (sp1 sp (h + 1) 0) i0 iv := by rw [e0] at hS ⊢; exact si_add hS (spc_Hk hh (by decide) rfl)
  have n1 : ∀ r j, r < 180 → r ≠ 1 → sp1 sp (h + 1) 0 (h + r) j = false := fun r j hr q => sp1_no (hN r j hr) (Or.inl (by omega))
  refine z_iconst zh dX1_copyFrom_18 ki_0 ?_
  refine z_istoren zh dX1_copyFrom_19 (by decide) (L' := [some (rf g h), some (rf g h2), some (.int (nI 0))]) rfl ?_
  have J82 : ∀ (q : Nat) (iv : Iv) (lv : Lv) (k : Int32), SI (sp1 sp (h + 1) 0) i0 iv → Ra 0 6 k → 6 - k.toInt < (q : Int) → Z 82 [some (rf g h), some (rf g h2), some (.int k)] [] iv lv := by
    intro q
    induction q with
    | zero => intro iv lv k _ hk hn; exact (ms_uz hk hn).elim
    | succ q ih =>
      intro iv lv k hG hk hn
      refine z_iloadn zh dX1_copyFrom_82 rfl ?_
      refine z_bipush zh dX1_copyFrom_83 kb_6 ?_
      refine z_icmp_ge (tgt := 109) zh dX1_copyFrom_85 rfl (fun _ => ?_) (fun q => ?_)
      · refine z_aloadnR zh dX1_copyFrom_109 rfl ?_
        refine z_getf zh fl_House_43 dX1_copyFrom_110 (ck_H hh) rfl rfl ?_
        refine z_aloadnR zh dX1_copyFrom_113 rfl ?_
        refine z_getf zh fl_House_43 dX1_copyFrom_114 (ck_H hh2) rfl rfl ?_
        have s7 : iv (h2 + 7) 2 = σ (h2 + 7) 2 := kH_src (si_drop hS hG).1 hS2 rfl
        refine z_callVV zh mv_House_169 dX1_copyFrom_117 (ck_T (isT_d hh)) rfl (e_copyH g hh hh2 hne (isT_d hh) (isT_d hh2) (by decide) hG (n1 _ _ (by decide) (by decide)) (fun c j hc => n1 _ _ (by omega) (by omega))) ⟨Nat.le_of_ble_eq_true rfl, Nat.le_of_ble_eq_true rfl⟩ rfl rfl (Nat.le_of_ble_eq_true rfl) ?_
        rintro iv lv ⟨hG, -, em7, -⟩
        have em7 := em7.trans s7
        have hd := si_drop hS hG
        have em1 := hd.2.trans em0
        have hS := hd.1
        obtain ⟨i1, e1⟩ : ∃ z, z = iv := ⟨_, rfl⟩
        have hG : SI (sp1 (sp1 sp (h + 1) 0) (h + 7) 2) i1 iv := by rw [e1]; exact si_add (si_add hS (spc_Hk hh (by decide) rfl)) (spc_Hk hh (by decide) rfl)
        rw [← e1] at hS em1 em7
        have n2 : ∀ r j, r < 180 → r ≠ 1 → r ≠ 7 → sp1 (sp1 sp (h + 1) 0) (h + 7) 2 (h + r) j = false := fun r j hr q w => sp1_no (sp1_no (hN r j hr) (Or.inl (by omega))) (Or.inl (by omega))
        refine z_aloadnR zh dX1_copyFrom_120 rfl ?_
        refine z_getf zh fl_House_47 dX1_copyFrom_121 (ck_H hh) rfl rfl ?_
        refine z_aloadnR zh dX1_copyFrom_124 rfl ?_
        refine z_getf zh fl_House_47 dX1_copyFrom_125 (ck_H hh2) rfl rfl ?_
        refine z_callVV zh mv_House_169 dX1_copyFrom_128 (ck_T (isT_n hh)) rfl (k_copyH g hh hh2 (isT_n hh) (isT_n hh2) (by decide) hG (n2 _ _ (by decide) (by decide) (by decide)) (fun c j hc => n2 _ _ (by omega) (by omega) (by omega))) ⟨Nat.le_of_ble_eq_true rfl, Nat.le_of_ble_eq_true rfl⟩ rfl rfl (Nat.le_of_ble_eq_true rfl) ?_
        rintro iv lv hG
        refine z_aloadnR zh dX1_copyFrom_131 rfl ?_
        refine z_getf zh fl_House_50 dX1_copyFrom_132 (ck_H hh) rfl rfl ?_
        refine z_aloadnR zh dX1_copyFrom_135 rfl ?_
        refine z_getf zh fl_House_50 dX1_copyFrom_136 (ck_H hh2) rfl rfl ?_
        refine z_callVV zh mv_House_169 dX1_copyFrom_139 (ck_T (isT_b hh)) rfl (k_copyH g hh hh2 (isT_b hh) (isT_b hh2) (by decide) hG (n2 _ _ (by decide) (by decide) (by decide)) (fun c j hc => n2 _ _ (by omega) (by omega) (by omega))) ⟨Nat.le_of_ble_eq_true rfl, Nat.le_of_ble_eq_true rfl⟩ rfl rfl (Nat.le_of_ble_eq_true rfl) ?_
        rintro iv lv hG
        have hd := si_drop2 hS hG
        have em1 := hd.2.1.trans em1
        have em7 := hd.2.2.trans em7
        have hS := hd.1
        have sp46 : iv (h2 + 46) 2 = σ (h2 + 46) 2 := kH_src hS hS2 rfl
        have spc9 : ∀ c, c < 6 → ∀ j : Nat, iv (h2 + 46 + 2 + c) j = σ (h2 + 48 + c) j := fun c hc j => by
          rw [show h2 + 46 + 2 + c = h2 + (48 + c) by omega]
          exact kH_src hS hS2 (kH_p (by omega) (by omega))
        refine z_aloadnR zh dX1_copyFrom_142 rfl ?_
        refine z_getf zh fl_House_53 dX1_copyFrom_143 (ck_H hh) rfl rfl ?_
        refine z_aloadnR zh dX1_copyFrom_146 rfl ?_
        refine z_getf zh fl_House_53 dX1_copyFrom_147 (ck_H hh2) rfl rfl ?_
        refine z_callVV zh mv_House_169 dX1_copyFrom_150 (ck_T (isT_p hh)) rfl (e_copyH g hh hh2 hne (isT_p hh) (isT_p hh2) (by decide) hS (hN _ _ (by decide)) (fun c j hc => hN _ _ (by omega))) ⟨Nat.le_of_ble_eq_true rfl, Nat.le_of_ble_eq_true rfl⟩ rfl rfl (Nat.le_of_ble_eq_true rfl) ?_
        rintro iv lv ⟨hG, hF, em46, hC⟩
        have em1 := (congrFun (hF (h + 1) (by omega) (by omega)) 0).trans em1
        have em7 := (congrFun (hF (h + 7) (by omega) (by omega)) 2).trans em7
        have em46 := em46.trans sp46
        have hC : ∀ c, c < 6 → ∀ j : Nat, (j : Int) < (σ (h2 + 46) 2).toInt → iv (h + 48 + c) j = σ (h2 + 48 + c) j := fun c hc j hj => by
          rw [show h + 48 + c = h + 46 + 2 + c by omega]
          exact (hC c hc j (by rw [sp46]; exact hj)).trans (spc9 c hc j)
        have s10 : iv h2 10 = σ h2 10 := kH_src (r := 0) hG hS2 rfl
        have s11 : iv h2 11 = σ h2 11 := kH_src (r := 0) hG hS2 rfl
        refine z_aloadnR zh dX1_copyFrom_153 rfl ?_
        refine z_aloadnR zh dX1_copyFrom_154 rfl ?_
        refine z_getI (x := σ h2 10) zh fl_House_56 dX1_copyFrom_155 (ck_H hh2) rfl rfl s10 ?_
        refine z_putI zh fl_House_56 dX1_copyFrom_158 (ck_H hh) rfl rfl (Nat.le_of_ble_eq_true rfl) (Or.inl rfl) ?_
        have hG : SI sp σ (upI iv h 10 (σ h2 10)) := si_wHk hG hh 0 (by decide) (hN 0 _ (by decide)) (rx_none rfl)
        have s11 : upI iv h 10 (σ h2 10) h2 11 = σ h2 11 := (upI_ne (Or.inr (by decide))).trans s11
        refine z_aloadnR zh dX1_copyFrom_161 rfl ?_
        refine z_aloadnR zh dX1_copyFrom_162 rfl ?_
        refine z_getI (x := σ h2 11) zh fl_House_60 dX1_copyFrom_163 (ck_H hh2) rfl rfl s11 ?_
        have hx4 : Ra 0 99 (σ h2 11) := ra_of s11 (si_H hG hh2 0 (by decide) rfl)
        refine z_putI zh fl_House_60 dX1_copyFrom_166 (ck_H hh) rfl rfl (Nat.le_of_ble_eq_true rfl) (Or.inl rfl) ?_
        have hG : SI sp σ (upI (upI iv h 10 (σ h2 10)) h 11 (σ h2 11)) := si_wHk hG hh 0 (by decide) (hN 0 _ (by decide)) (rx_some hx4)
        refine z_aloadnR zh dX1_copyFrom_169 rfl ?_
        refine z_aloadnR zh dX1_copyFrom_170 rfl ?_
        refine y_getL zh fl_House_63 dX1_copyFrom_171 (ck_H hh2) rfl rfl (fun l8 => ?_)
        refine z_putL zh fl_House_63 dX1_copyFrom_174 (ck_H hh) rfl rfl (Nat.le_of_ble_eq_true rfl) rfl ?_
        generalize upL lv h 12 l8 = lv
        refine z_vret zh dX1_copyFrom_177 ⟨rfl, hG, ?_⟩
        refine ⟨?_, ?_, ?_, fun c hc j hj => ?_, ?_, ?_⟩
        · rw [upI_ne (Or.inl (by omega)), upI_ne (Or.inl (by omega))]; exact em1
        · rw [upI_ne (Or.inl (by omega)), upI_ne (Or.inl (by omega))]; exact em7
        · rw [upI_ne (Or.inl (by omega)), upI_ne (Or.inl (by omega))]; exact em46
        · rw [upI_ne (Or.inl (by omega)), upI_ne (Or.inl (by omega))]; exact hC c hc j hj
        · rw [upI_ne (Or.inr (by decide)), upI_at, if_pos ⟨rfl, rfl⟩]
        · rw [upI_at, if_pos ⟨rfl, rfl⟩]
      · have hk1 : Ra 0 5 k := rb_lt_l rl_6 hk (rb_nle q) (by decide)
        refine z_aloadnR zh dX1_copyFrom_88 rfl ?_
        refine z_getf zh fl_House_34 dX1_copyFrom_89 (ck_H hh) rfl rfl ?_
        refine z_iloadn zh dX1_copyFrom_92 rfl ?_
        refine y_mald zh (ck_markets hh) dX1_copyFrom_93 hk1 (by decide) (by decide) (fun j9 hj9 _ _ => ?_)
        refine z_aloadnR zh dX1_copyFrom_94 rfl ?_
        refine z_getf zh fl_House_34 dX1_copyFrom_95 (ck_H hh2) rfl rfl ?_
        refine z_iloadn zh dX1_copyFrom_98 rfl ?_
        refine y_mald zh (ck_markets hh2) dX1_copyFrom_99 hk1 (by decide) (by decide) (fun j10 hj10 _ _ => ?_)
        refine z_callVV zh mv_House_165 dX1_copyFrom_100 (ck_M (isM_of hh hj9)) rfl (s_X3_copyFrom g (isM_of hh hj9) (isM_of hh2 hj10) hG) ⟨Nat.le_of_ble_eq_true rfl, Nat.le_of_ble_eq_true rfl⟩ rfl rfl (Nat.le_of_ble_eq_true rfl) ?_
        rintro iv lv hG
        refine y_iinc (L' := fun z => [some (rf g h), some (rf g h2), some (.int z)]) zh dX1_copyFrom_103 (by decide) rfl (by decide +kernel) hk1 (u := 1) (v := 6) rfl rfl (by decide) (by decide) (fun _ => rfl) (fun x11 hc11 hx11 => ?_)
        refine z_goto (tgt := 82) zh dX1_copyFrom_106 rfl ?_
        exact ih iv lv x11 hG (ra_w hx11 (by decide) (by decide)) (ms_up hc11 (by decide) hn)
  have J20 : ∀ (q : Nat) (iv : Iv) (lv : Lv) (k : Int32), SI (sp1 sp (h + 1) 0) i0 iv → Ra 0 12 k → 12 - k.toInt < (q : Int) → Z 20 [some (rf g h), some (rf g h2), some (.int k)] [] iv lv := by
    intro q
    induction q with
    | zero => intro iv lv k _ hk hn; exact (ms_uz hk hn).elim
    | succ q ih =>
      intro iv lv k hG hk hn
      refine z_iloadn zh dX1_copyFrom_20 rfl ?_
      refine z_bipush zh dX1_copyFrom_21 kb_12 ?_
      refine z_icmp_ge (tgt := 80) zh dX1_copyFrom_23 rfl (fun _ => ?_) (fun q => ?_)
      · refine z_iconst zh dX1_copyFrom_80 ki_0 ?_
        refine z_istoren zh dX1_copyFrom_81 (by decide) (L' := [some (rf g h), some (rf g h2), some (.int (nI 0))]) rfl ?_
        exact J82 7 iv lv (nI 0) hG (ra_w rl_0 (by decide) (by decide)) (ms_u0 rl_0 (by decide))
      · have hk1 : Ra 0 11 k := rb_lt_l rl_12 hk (rb_nle q) (by decide)
        refine z_aloadnR zh dX1_copyFrom_26 rfl ?_
        refine z_getf zh fl_House_18 dX1_copyFrom_27 (ck_H hh) rfl rfl ?_
        refine z_iloadn zh dX1_copyFrom_30 rfl ?_
        refine z_aloadnR zh dX1_copyFrom_31 rfl ?_
        refine z_getf zh fl_House_18 dX1_copyFrom_32 (ck_H hh2) rfl rfl ?_
        refine z_iloadn zh dX1_copyFrom_35 rfl ?_
        refine y_lald zh (ck_cash hh2) dX1_copyFrom_36 hk1 (by decide) (by decide) (fun l12 => ?_)
        refine z_last zh (ck_cash hh) dX1_copyFrom_37 (ra_in hk1 (by decide) (by decide)) ?_
        generalize upL lv (h + 2) k.toNatClampNeg l12 = lv
        refine z_aloadnR zh dX1_copyFrom_38 rfl ?_
        refine z_getf zh fl_House_22 dX1_copyFrom_39 (ck_H hh) rfl rfl ?_
        refine z_iloadn zh dX1_copyFrom_42 rfl ?_
        refine z_aloadnR zh dX1_copyFrom_43 rfl ?_
        refine z_getf zh fl_House_22 dX1_copyFrom_44 (ck_H hh2) rfl rfl ?_
        refine z_iloadn zh dX1_copyFrom_47 rfl ?_
        refine y_iald zh (ck_rank hh2) dX1_copyFrom_48 hk1 (by decide) (by decide) (fun x13 ex13 => ?_)
        refine z_iast zh (ck_rank hh) dX1_copyFrom_49 (ra_in hk1 (by decide) (by decide)) ?_
        have hG : SI (sp1 sp (h + 1) 0) i0 (upI iv (h + 3) k.toNatClampNeg x13) := si_wH hG hh 3 (by decide) rfl (rx_none rfl)
        generalize upI iv (h + 3) k.toNatClampNeg x13 = iv at hG  ⊢
        refine z_aloadnR zh dX1_copyFrom_50 rfl ?_
        refine z_getf zh fl_House_25 dX1_copyFrom_51 (ck_H hh) rfl rfl ?_
        refine z_iloadn zh dX1_copyFrom_54 rfl ?_
        refine z_aloadnR zh dX1_copyFrom_55 rfl ?_
        refine z_getf zh fl_House_25 dX1_copyFrom_56 (ck_H hh2) rfl rfl ?_
        refine z_iloadn zh dX1_copyFrom_59 rfl ?_
        refine y_iald zh (ck_pledged hh2) dX1_copyFrom_60 hk1 (by decide) (by decide) (fun x14 ex14 => ?_)
        refine z_iast zh (ck_pledged hh) dX1_copyFrom_61 (ra_in hk1 (by decide) (by decide)) ?_
        have hG : SI (sp1 sp (h + 1) 0) i0 (upI iv (h + 4) k.toNatClampNeg x14) := si_wH hG hh 4 (by decide) rfl (rx_none rfl)
        generalize upI iv (h + 4) k.toNatClampNeg x14 = iv at hG  ⊢
        refine z_aloadnR zh dX1_copyFrom_62 rfl ?_
        refine z_getf zh fl_House_28 dX1_copyFrom_63 (ck_H hh) rfl rfl ?_
        refine z_iloadn zh dX1_copyFrom_66 rfl ?_
        refine z_aloadnR zh dX1_copyFrom_67 rfl ?_
        refine z_getf zh fl_House_28 dX1_copyFrom_68 (ck_H hh2) rfl rfl ?_
        refine z_iloadn zh dX1_copyFrom_71 rfl ?_
        refine y_zald zh (ck_susp hh2) dX1_copyFrom_72 hk1 (by decide) (by decide) (fun x15 ex15 => ?_)
        refine z_zast zh (ck_susp hh) dX1_copyFrom_73 (ra_in hk1 (by decide) (by decide)) ?_
        have hG : SI (sp1 sp (h + 1) 0) i0 (upI iv (h + 5) k.toNatClampNeg (vp_nar .boolean x15)) := si_wH hG hh 5 (by decide) rfl (rx_none rfl)
        generalize upI iv (h + 5) k.toNatClampNeg (vp_nar .boolean x15) = iv at hG  ⊢
        refine y_iinc (L' := fun z => [some (rf g h), some (rf g h2), some (.int z)]) zh dX1_copyFrom_74 (by decide) rfl (by decide +kernel) hk1 (u := 1) (v := 12) rfl rfl (by decide) (by decide) (fun _ => rfl) (fun x16 hc16 hx16 => ?_)
        refine z_goto (tgt := 20) zh dX1_copyFrom_77 rfl ?_
        exact ih iv lv x16 hG (ra_w hx16 (by decide) (by decide)) (ms_up hc16 (by decide) hn)
  exact J20 13 iv lv (nI 0) hG (ra_w rl_0 (by decide) (by decide)) (ms_u0 rl_0 (by decide))
