/-! THE TABLES' OTHER METHODS; SETTING; THE COPIES -/
section ZC
variable {g : GE} {own : String} {cc : ByteArray} {nL : Nat} {ret : Option FieldType} {R : Room} {scr : Option (Nat × Nat × (Nat → Int32))} {Q : Option Value → Iv → Lv → Prop} {Z : ZT} {pc : Nat} {L : LO} {st : List Value} {iv : Iv} {lv : Lv}
theorem y_acopy (h : Rw g own cc nL ret R scr Q Z) {idx k0 k1 n0 n1 : Nat} {x : Int32} {a b : Int} (hA : AC own idx) (hd : decode cc pc = .ok (.invokestatic idx, 3)) (h0 : IsI g k0 n0) (h1 : IsI g k1 n1) (hx : Ra a b x) (hz : 0 ≤ a) (hc0 : b ≤ (n0 : Int)) (hc1 : b ≤ (n1 : Int))
    (hR : 1 ≤ R.frames ∧ (st.map fun v => v.category).sum + (nativeFrameWords "java/lang/System" "arraycopy" 5 + 11) ≤ R.locals) (kk : ∀ c : Nat, (c : Int) = x.toInt → Z (pc + 3) L st (cpI iv k1 k0 c) lv) : Z pc L (.int x :: .int (nI 0) :: rf g k1 :: .int (nI 0) :: rf g k0 :: st) iv lv := by
  obtain ⟨j, hj, rfl, e, f⟩ := ra_nat hx hz
  have := hx.2
  exact z_acopy h hA hd h0 h1 (by omega) (by omega) hR (kk j e)
theorem si_cp {sp : Nat → Nat → Bool} {σ : Iv} {k0 k1 c : Nat} (hG : SI sp σ iv) (hk : k1 ≠ 552) (hk2 : k1 ≠ 564) (hs : ∀ j, j < c → sp k1 j = false) (hx : ∀ j lo hi, j < c → rgI k1 j = some (lo, hi) → Ra lo hi (iv k0 j)) : SI sp σ (cpI iv k1 k0 c) := by
  refine ⟨hG.1, fun a b q => ?_, fun a b lo hi q => ?_, ?_, ?_⟩
  · rw [cpI_at]
    by_cases e : a = k1 ∧ b < c
    · obtain ⟨rfl, e⟩ := e
      rw [hs b e] at q; cases q
    · rw [if_neg e]; exact hG.2.1 _ _ q
  · rw [cpI_at]
    by_cases e : a = k1 ∧ b < c
    · rw [if_pos e]
      obtain ⟨rfl, e⟩ := e
      exact hx _ _ _ e q
    · rw [if_neg e]; exact hG.2.2.1 _ _ _ _ q
  · rw [show cpI iv k1 k0 c 552 = iv 552 from funext fun j => by rw [cpI_at, if_neg (fun e => hk e.1.symm)]]; exact hG.2.2.2.1
  · rw [show cpI iv k1 k0 c 564 = iv 564 from funext fun j => by rw [cpI_at, if_neg (fun e => hk2 e.1.symm)]]; exact hG.2.2.2.2
end ZC
theorem z_clear {sp : Nat → Nat → Bool} {σ iv : Iv} {lv : Lv} {t cc nn : Nat} (g : GE) (ht : isT t cc nn) (hG : SI sp σ iv) (hs : sp t 2 = false) : ConV g yX7_clear cX7_clear 1 none 1 [rf g t] iv lv (fun iv lv => SI sp σ iv) := by
  refine con_intro (own := "RollingNets$Table") (by decide +kernel) rfl (Nat.le_of_ble_eq_true rfl) (L0 := [some (rf g t)]) rfl (fun Z zh => ?_)
  refine z_aloadnR zh dX7_clear_0 rfl ?_
  refine z_iconst zh dX7_clear_1 ki_0 ?_
  refine z_putI zh fl_Table_20 dX7_clear_2 (ck_T ht) rfl rfl (Nat.le_of_ble_eq_true rfl) (Or.inl rfl) ?_
  have hk := tt_ne ht (q := 0) (by omega)
  exact z_vret zh dX7_clear_5 ⟨rfl, si_w hG hk.1 hk.2 hs (fun l u e => by
    have := rg_Tn ht e
    have e0 : (nI 0).toInt = 0 := by decide
    rw [this.1, this.2]
    exact ⟨by omega, by omega⟩)⟩
theorem s_X7_clear {sp : Nat → Nat → Bool} {σ iv : Iv} {lv : Lv} (g : GE) (ht : isT 543 6 24) (hG : SI sp σ iv) (hq : Sq sp) : ConV g yX7_clear cX7_clear 1 none 1 [rf g 543] iv lv (fun iv lv => SI sp σ iv) := z_clear g ht hG (sq_n hq (by decide) (by decide) (by decide))
set_option maxHeartbeats 1000000 in
set_option maxRecDepth 20000 in
theorem z_copyT (g : GE) {sp : Nat → Nat → Bool} {σ : Iv} {iv : Iv} {lv : Lv} {t ct rt t2 ct2 rt2 : Nat} (ht : isT t ct rt) (ht2 : isT t2 ct2 rt2) (hG : SI sp σ iv) (hs : sp t 2 = false) (hs2 : ∀ c j, c < ct → sp (t + 2 + c) j = false) (hr : ∀ c j lo hi, c < ct → c < ct2 → rgI (t + 2 + c) j = some (lo, hi) → rgI (t2 + 2 + c) j = some (lo, hi)) : ConV g yX7_copyFrom cX7_copyFrom 4 none 1 [rf g t, rf g t2] iv lv (fun iv lv => SI sp σ iv) := by
  refine con_intro (own := "RollingNets$Table") (by decide +kernel) rfl (Nat.le_of_ble_eq_true rfl) (L0 := [some (rf g t), some (rf g t2), none, none]) rfl (fun Z zh => ?_)
  have hb := isT_b31 ht; have hb2 := isT_b31 ht2
  have ec : (nI ct).toInt = ct := nI_toInt (by omega)
  have ec2 : (nI ct2).toInt = ct2 := nI_toInt (by omega)
  have ern : (nI rt).toInt = rt := nI_toInt (by omega)
  refine z_aloadnR zh dX7_copyFrom_0 rfl ?_
  refine z_getf zh fl_Table_11 dX7_copyFrom_1 (ck_T ht) rfl rfl ?_
  refine z_alenG zh (ck_Tc ht) dX7_copyFrom_4 ?_
  refine z_aloadnR zh dX7_copyFrom_5 rfl ?_
  refine z_getf zh fl_Table_11 dX7_copyFrom_6 (ck_T ht2) rfl rfl ?_
  refine z_alenG zh (ck_Tc ht2) dX7_copyFrom_9 ?_
  obtain ⟨w, ew⟩ : ∃ w : Int32, (if nI ct2 < nI ct then nI ct2 else nI ct) = w := ⟨_, rfl⟩
  refine z_mminE zh ma_Table_27 mc_min dX7_copyFrom_10 ⟨Nat.le_of_ble_eq_true rfl, Nat.le_of_ble_eq_true rfl⟩ ew ?_
  have hw : Ra 1 20 w ∧ w.toInt ≤ ct ∧ w.toInt ≤ ct2 := by
    rw [← ew]
    by_cases q : nI ct2 < nI ct
    · rw [if_pos q]; rw [ltI] at q; exact ⟨⟨by omega, by omega⟩, by omega, by omega⟩
    · rw [if_neg q]; rw [ltI] at q; exact ⟨⟨by omega, by omega⟩, by omega, by omega⟩
  refine z_istoren zh dX7_copyFrom_13 (by decide) (L' := [some (rf g t), some (rf g t2), some (.int w), none]) rfl ?_
  refine z_aloadnR zh dX7_copyFrom_14 rfl ?_
  refine z_aloadnR zh dX7_copyFrom_15 rfl ?_
  refine y_getI zh fl_Table_20 dX7_copyFrom_16 (ck_T ht2) rfl rfl (fun c2 hc2 => ?_)
  have hn2 : Ra 0 rt2 c2 := ra_of hc2 (si_T hG ht2)
  refine z_aloadnR zh dX7_copyFrom_19 rfl ?_
  refine z_getI (x := nI rt) zh fl_Table_16 dX7_copyFrom_20 (ck_T ht) rfl rfl rfl ?_
  obtain ⟨v, ev⟩ : ∃ v : Int32, (if nI rt < c2 then nI rt else c2) = v := ⟨_, rfl⟩
  refine z_mminE zh ma_Table_27 mc_min dX7_copyFrom_23 ⟨Nat.le_of_ble_eq_true rfl, Nat.le_of_ble_eq_true rfl⟩ ev ?_
  have hv : Ra 0 rt v ∧ v.toInt ≤ rt2 := by
    have a1 := hn2.1; have a2 := hn2.2
    rw [← ev]
    by_cases q : nI rt < c2
    · rw [if_pos q]; rw [ltI] at q; exact ⟨⟨by omega, by omega⟩, by omega⟩
    · rw [if_neg q]; rw [ltI] at q; exact ⟨⟨by omega, by omega⟩, by omega⟩
  refine z_putI zh fl_Table_20 dX7_copyFrom_26 (ck_T ht) rfl rfl (Nat.le_of_ble_eq_true rfl) (Or.inl rfl) ?_
  have hk := tt_ne ht (q := 0) (by omega)
  have hG1 : SI sp σ (upI iv t 2 v) := si_w hG hk.1 hk.2 hs (fun l u e => by
    have := rg_Tn ht e
    rw [this.1, this.2]
    exact hv.1)
  have em : upI iv t 2 v t 2 = v := by rw [upI_at, if_pos ⟨rfl, rfl⟩]
  revert hG1 em; generalize upI iv t 2 v = iv; intro hG em
  refine z_iconst zh dX7_copyFrom_29 ki_0 ?_
  refine z_istoren zh dX7_copyFrom_30 (by decide) (L' := [some (rf g t), some (rf g t2), some (.int w), some (.int (nI 0))]) rfl ?_
  have J : ∀ (q : Nat) (iv : Iv) (lv : Lv) (x : Int32), SI sp σ iv → iv t 2 = v → Ra 0 20 x → 20 - x.toInt < (q : Int) → Z 31 [some (rf g t), some (rf g t2), some (.int w), some (.int x)] [] iv lv := by
    intro q
    induction q with
    | zero => intro iv lv x _ _ hx hn; exact (ms_uz hx hn).elim
    | succ q ih =>
      intro iv lv x hG em hx hn
      refine z_iloadn zh dX7_copyFrom_31 rfl ?_
      refine z_iloadn zh dX7_copyFrom_32 rfl ?_
      refine z_icmp_ge (tgt := 63) zh dX7_copyFrom_33 rfl (fun _ => z_vret zh dX7_copyFrom_63 ⟨rfl, hG⟩) (fun q1 => ?_)
      rw [leI] at q1
      have hx1 := hx.1
      have hw2 := hw.1.2; have hw3 := hw.2.1; have hw4 := hw.2.2
      refine z_aloadnR zh dX7_copyFrom_36 rfl ?_
      refine z_getf zh fl_Table_11 dX7_copyFrom_37 (ck_T ht2) rfl rfl ?_
      refine z_iloadn zh dX7_copyFrom_40 rfl ?_
      refine y_gald zh (ck_Tc ht2) dX7_copyFrom_41 (a := 0) (b := (ct2 : Int) - 1) (x := x) ⟨by omega, by omega⟩ (by omega) (by omega) (fun j hj ej e => ?_)
      refine z_iconst zh dX7_copyFrom_42 ki_0 ?_
      refine z_aloadnR zh dX7_copyFrom_43 rfl ?_
      refine z_getf zh fl_Table_11 dX7_copyFrom_44 (ck_T ht) rfl rfl ?_
      refine z_iloadn zh dX7_copyFrom_47 rfl ?_
      refine y_gald zh (ck_Tc ht) dX7_copyFrom_48 (a := 0) (b := (ct : Int) - 1) (x := x) ⟨by omega, by omega⟩ (by omega) (by omega) (fun j2 hj2 ej2 e2 => ?_)
      have ejj : j2 = j := by omega
      subst ejj
      refine z_iconst zh dX7_copyFrom_49 ki_0 ?_
      refine z_aloadnR zh dX7_copyFrom_50 rfl ?_
      refine z_getI (x := v) zh fl_Table_20 dX7_copyFrom_51 (ck_T ht) rfl rfl em ?_
      have hv1 := hv.1.1; have hv2 := hv.1.2; have hv3 := hv.2
      refine y_acopy zh ac_Table_33 dX7_copyFrom_54 (ck_Tr ht2 hj) (ck_Tr ht hj2) (a := 0) (b := v.toInt) ⟨hv1, Int.le_refl _⟩ (by omega) (by omega) (by omega) ⟨Nat.le_of_ble_eq_true rfl, Nat.le_of_ble_eq_true rfl⟩ (fun c hc => ?_)
      have hk9 := tt_ne ht (q := 2 + j2) (by omega)
      have hG1 : SI sp σ (cpI iv (t + 2 + j2) (t2 + 2 + j2) c) := si_cp hG (by omega) (by omega) (fun j _ => hs2 _ _ hj2) (fun j lo hi _ e => hG.2.2.1 _ _ _ _ (hr _ _ _ _ hj2 hj e))
      have em1 : cpI iv (t + 2 + j2) (t2 + 2 + j2) c t 2 = v := by rw [cpI_at, if_neg (fun e => by omega)]; exact em
      revert hG1 em1; generalize cpI iv (t + 2 + j2) (t2 + 2 + j2) c = iv; intro hG em
      refine y_iinc (L' := fun z => [some (rf g t), some (rf g t2), some (.int w), some (.int z)]) zh dX7_copyFrom_57 (by decide) rfl (by decide +kernel) (a := 0) (b := 19) ⟨by omega, by omega⟩ rfl rfl (by decide) (by decide) (fun _ => rfl) (fun z ez hz => ?_)
      refine z_goto (tgt := 31) zh dX7_copyFrom_60 rfl ?_
      exact ih iv lv z hG em (ra_w hz (by decide) (by decide)) (ms_up ez (by decide) hn)
  have e0 : (nI 0).toInt = 0 := by decide
  exact J 21 iv lv (nI 0) hG em ⟨by omega, by omega⟩ (by omega)

theorem s_X7_copyFrom {sp : Nat → Nat → Bool} {σ iv : Iv} {lv : Lv} (g : GE) {t : Nat} (ht : isT t 6 24) (ht2 : isT 543 6 24) (hG : SI sp σ iv) (hq : Sq sp) : ConV g yX7_copyFrom cX7_copyFrom 4 none 1 [rf g t, rf g 543] iv lv (fun iv lv => SI sp σ iv) := by
  rcases ht with ⟨h, hh, h1 | h1 | h1 | h1⟩ | h1
  · exact absurd h1.2.1 (by decide)
  · exact absurd h1.2.1 (by decide)
  · exact absurd h1.2.2 (by decide)
  · obtain ⟨rfl, _, _⟩ := h1
    refine z_copyT g (isT_p hh) ht2 hG (sq_H hq hh (by omega)) (fun c j hc => by rw [show h + 46 + 2 + c = h + (48 + c) by omega]; exact sq_H hq hh (by omega)) (fun c j lo hi hc _ e => ?_)
    rw [show h + 46 + 2 + c = h + (48 + c) by omega, rg_H hh (by omega)] at e
    rcases (by omega : c = 0 ∨ c = 1 ∨ c = 2 ∨ c = 3 ∨ c = 4 ∨ c = 5) with rfl | rfl | rfl | rfl | rfl | rfl <;> cases e
  · obtain ⟨rfl, _, _⟩ := h1
    exact z_copyT g isT_r ht2 hG (sq_n hq (by decide) (by decide) (by decide)) (fun c j hc => sq_n hq (by omega) (by omega) (by omega)) (fun _ _ _ _ _ _ e => e)
/-- the same table of another house -/
theorem z_copyH {sp : Nat → Nat → Bool} {σ iv : Iv} {lv : Lv} (g : GE) {h h2 r ct rt : Nat} (hh : isH h) (hh2 : isH h2) (ht : isT (h + r) ct rt) (ht2 : isT (h2 + r) ct rt) (hr : r + 2 + ct ≤ 180) (hG : SI sp σ iv) (hq : Sq sp) : ConV g yX7_copyFrom cX7_copyFrom 4 none 1 [rf g (h + r), rf g (h2 + r)] iv lv (fun iv lv => SI sp σ iv) :=
  z_copyT g ht ht2 hG (sq_H hq hh (by omega)) (fun c j hc => by rw [show h + r + 2 + c = h + (r + 2 + c) by omega]; exact sq_H hq hh (by omega)) (fun c j lo hi hc _ e => by
    rw [show h + r + 2 + c = h + (r + 2 + c) by omega, rg_H hh (by omega)] at e
    rw [show h2 + r + 2 + c = h2 + (r + 2 + c) by omega, rg_H hh2 (by omega)]
    exact e)
theorem cp_row {sp : Nat → Nat → Bool} {σ iv : Iv} {m i k0 c : Nat} (hm : isM m) (hi : i < 12) (hG : SI sp σ iv) : SI sp σ (cpI iv (m + 8 + i) k0 c) := by
  have := M_lt hm (r := 8 + i) (by omega)
  rw [show m + 8 + i = m + (8 + i) by omega]
  refine si_cp hG (by omega) (by omega) (fun j _ => sp_no hG (spc_M hm (by omega))) (fun j lo hi _ e => ?_)
  rw [rg_M hm (by omega)] at e
  unfold rM at e
  rw [if_neg (by omega)] at e
  cases e
set_option maxHeartbeats 1000000 in
set_option maxRecDepth 20000 in
theorem s_X3_copyFrom (g : GE) {sp : Nat → Nat → Bool} {σ : Iv} {iv : Iv} {lv : Lv} {m m2 : Nat} (hm : isM m) (hm2 : isM m2) (hG : SI sp σ iv) : ConV g yX3_copyFrom cX3_copyFrom 4 none 1 [rf g m, rf g m2] iv lv (fun iv lv => SI sp σ iv) := by
  refine con_intro (own := "RollingNets$Market") (by decide +kernel) rfl (Nat.le_of_ble_eq_true rfl) (L0 := [some (rf g m), some (rf g m2), none, none]) rfl (fun Z zh => ?_)
  refine z_aloadnR zh dX3_copyFrom_0 rfl ?_
  refine y_getI zh fl_Market_46 dX3_copyFrom_1 (ck_M hm) rfl rfl (fun x1 ex1 => ?_)
  have hx1 : Ra 0 100 x1 := ra_of ex1 (si_M hG hm 0 (by decide) rfl)
  refine z_aloadnR zh dX3_copyFrom_4 rfl ?_
  refine y_getI zh fl_Market_46 dX3_copyFrom_5 (ck_M hm2) rfl rfl (fun x2 ex2 => ?_)
  have hx2 : Ra 0 100 x2 := ra_of ex2 (si_M hG hm2 0 (by decide) rfl)
  refine y_mmax zh ma_Market_49 mc_max dX3_copyFrom_8 ⟨Nat.le_of_ble_eq_true rfl, Nat.le_of_ble_eq_true rfl⟩ hx1 hx2 (u := 0) (v := 100) (Or.inl (by decide)) (by decide) (by decide) (fun x3 hx3 => ?_)
  refine z_istoren zh dX3_copyFrom_11 (by decide) (L' := [some (rf g m), some (rf g m2), some (.int x3), none]) rfl ?_
  refine z_iconst zh dX3_copyFrom_12 ki_0 ?_
  refine z_istoren zh dX3_copyFrom_13 (by decide) (L' := [some (rf g m), some (rf g m2), some (.int x3), some (.int (nI 0))]) rfl ?_
  have J : ∀ (q : Nat) (iv : Iv) (lv : Lv) (k : Int32), SI sp σ iv → Ra 0 12 k → 12 - k.toInt < (q : Int) → Z 14 [some (rf g m), some (rf g m2), some (.int x3), some (.int k)] [] iv lv := by
    intro q
    induction q with
    | zero => intro iv lv k _ hk hn; exact (ms_uz hk hn).elim
    | succ q ih =>
      intro iv lv k hG hk hn
      refine z_iloadn zh dX3_copyFrom_14 rfl ?_
      refine z_bipush zh dX3_copyFrom_15 kb_12 ?_
      refine z_icmp_ge (tgt := 116) zh dX3_copyFrom_17 rfl (fun _ => ?_) (fun q => ?_)
      · refine z_aloadnR zh dX3_copyFrom_116 rfl ?_
        refine z_aloadnR zh dX3_copyFrom_117 rfl ?_
        refine y_getI zh fl_Market_36 dX3_copyFrom_118 (ck_M hm2) rfl rfl (fun x4 ex4 => ?_)
        refine z_putI zh fl_Market_36 dX3_copyFrom_121 (ck_M hm) rfl rfl (Nat.le_of_ble_eq_true rfl) (Or.inl rfl) ?_
        have hG : SI sp σ (upI iv m 7 x4) := si_wM hG hm 0 (by decide) (rx_none rfl)
        have em6 : upI iv m 7 x4 m 7 = x4 := by rw [upI_at, if_pos ⟨rfl, rfl⟩]
        generalize upI iv m 7 x4 = iv at hG em6 ⊢
        refine z_aloadnR zh dX3_copyFrom_124 rfl ?_
        refine z_aloadnR zh dX3_copyFrom_125 rfl ?_
        refine y_getI zh fl_Market_40 dX3_copyFrom_126 (ck_M hm2) rfl rfl (fun x7 ex7 => ?_)
        refine z_putI zh fl_Market_40 dX3_copyFrom_129 (ck_M hm) rfl rfl (Nat.le_of_ble_eq_true rfl) (Or.inl rfl) ?_
        have hG : SI sp σ (upI iv m 8 x7) := si_wM hG hm 0 (by decide) (rx_none rfl)
        have em8 := (upI_ne (iv := iv) (k := m) (j := 8) (x := x7) (a := m) (b := 7) (Or.inr (by decide))).trans em6
        have em10 : upI iv m 8 x7 m 8 = x7 := by rw [upI_at, if_pos ⟨rfl, rfl⟩]
        generalize upI iv m 8 x7 = iv at hG em8 em10 ⊢
        refine z_aloadnR zh dX3_copyFrom_132 rfl ?_
        refine z_aloadnR zh dX3_copyFrom_133 rfl ?_
        refine y_getI zh fl_Market_43 dX3_copyFrom_134 (ck_M hm2) rfl rfl (fun x11 ex11 => ?_)
        refine z_putI zh fl_Market_43 dX3_copyFrom_137 (ck_M hm) rfl rfl (Nat.le_of_ble_eq_true rfl) (Or.inl rfl) ?_
        have hG : SI sp σ (upI iv m 9 x11) := si_wM hG hm 0 (by decide) (rx_none rfl)
        have em12 := (upI_ne (iv := iv) (k := m) (j := 9) (x := x11) (a := m) (b := 7) (Or.inr (by decide))).trans em8
        have em13 := (upI_ne (iv := iv) (k := m) (j := 9) (x := x11) (a := m) (b := 8) (Or.inr (by decide))).trans em10
        have em15 : upI iv m 9 x11 m 9 = x11 := by rw [upI_at, if_pos ⟨rfl, rfl⟩]
        generalize upI iv m 9 x11 = iv at hG em12 em13 em15 ⊢
        refine z_aloadnR zh dX3_copyFrom_140 rfl ?_
        refine z_aloadnR zh dX3_copyFrom_141 rfl ?_
        refine y_getI zh fl_Market_46 dX3_copyFrom_142 (ck_M hm2) rfl rfl (fun x16 ex16 => ?_)
        have hx16 : Ra 0 100 x16 := ra_of ex16 (si_M hG hm2 0 (by decide) rfl)
        refine z_putI zh fl_Market_46 dX3_copyFrom_145 (ck_M hm) rfl rfl (Nat.le_of_ble_eq_true rfl) (Or.inl rfl) ?_
        have hG : SI sp σ (upI iv m 10 x16) := si_wM hG hm 0 (by decide) (rx_some hx16)
        have em17 := (upI_ne (iv := iv) (k := m) (j := 10) (x := x16) (a := m) (b := 7) (Or.inr (by decide))).trans em12
        have em18 := (upI_ne (iv := iv) (k := m) (j := 10) (x := x16) (a := m) (b := 8) (Or.inr (by decide))).trans em13
        have em19 := (upI_ne (iv := iv) (k := m) (j := 10) (x := x16) (a := m) (b := 9) (Or.inr (by decide))).trans em15
        have em21 : upI iv m 10 x16 m 10 = x16 := by rw [upI_at, if_pos ⟨rfl, rfl⟩]
        generalize upI iv m 10 x16 = iv at hG em17 em18 em19 em21 ⊢
        exact z_vret zh dX3_copyFrom_148 ⟨rfl, hG⟩
      · have hk1 : Ra 0 11 k := rb_lt_l rl_12 hk (rb_nle q) (by decide)
        refine z_aloadnR zh dX3_copyFrom_20 rfl ?_
        refine z_getf zh fl_Market_9 dX3_copyFrom_21 (ck_M hm) rfl rfl ?_
        refine z_iloadn zh dX3_copyFrom_24 rfl ?_
        refine z_aloadnR zh dX3_copyFrom_25 rfl ?_
        refine z_getf zh fl_Market_9 dX3_copyFrom_26 (ck_M hm2) rfl rfl ?_
        refine z_iloadn zh dX3_copyFrom_29 rfl ?_
        refine y_lald zh (ck_stock hm2) dX3_copyFrom_30 hk1 (by decide) (by decide) (fun l22 => ?_)
        refine z_last zh (ck_stock hm) dX3_copyFrom_31 (ra_in hk1 (by decide) (by decide)) ?_
        generalize upL lv (m + 1) k.toNatClampNeg l22 = lv
        refine z_aloadnR zh dX3_copyFrom_32 rfl ?_
        refine z_getf zh fl_Market_15 dX3_copyFrom_33 (ck_M hm) rfl rfl ?_
        refine z_iloadn zh dX3_copyFrom_36 rfl ?_
        refine z_aloadnR zh dX3_copyFrom_37 rfl ?_
        refine z_getf zh fl_Market_15 dX3_copyFrom_38 (ck_M hm2) rfl rfl ?_
        refine z_iloadn zh dX3_copyFrom_41 rfl ?_
        refine y_iald zh (ck_mi 2 (by decide) hm2) dX3_copyFrom_42 hk1 (by decide) (by decide) (fun x23 ex23 => ?_)
        refine z_iast zh (ck_mi 2 (by decide) hm) dX3_copyFrom_43 (ra_in hk1 (by decide) (by decide)) ?_
        have hG : SI sp σ (upI iv (m + 2) k.toNatClampNeg x23) := si_wM hG hm 2 (by decide) (rx_none rfl)
        generalize upI iv (m + 2) k.toNatClampNeg x23 = iv at hG  ⊢
        refine z_aloadnR zh dX3_copyFrom_44 rfl ?_
        refine z_getf zh fl_Market_19 dX3_copyFrom_45 (ck_M hm) rfl rfl ?_
        refine z_iloadn zh dX3_copyFrom_48 rfl ?_
        refine z_aloadnR zh dX3_copyFrom_49 rfl ?_
        refine z_getf zh fl_Market_19 dX3_copyFrom_50 (ck_M hm2) rfl rfl ?_
        refine z_iloadn zh dX3_copyFrom_53 rfl ?_
        refine y_iald zh (ck_mi 3 (by decide) hm2) dX3_copyFrom_54 hk1 (by decide) (by decide) (fun x24 ex24 => ?_)
        refine z_iast zh (ck_mi 3 (by decide) hm) dX3_copyFrom_55 (ra_in hk1 (by decide) (by decide)) ?_
        have hG : SI sp σ (upI iv (m + 3) k.toNatClampNeg x24) := si_wM hG hm 3 (by decide) (rx_none rfl)
        generalize upI iv (m + 3) k.toNatClampNeg x24 = iv at hG  ⊢
        refine z_aloadnR zh dX3_copyFrom_56 rfl ?_
        refine z_getf zh fl_Market_22 dX3_copyFrom_57 (ck_M hm) rfl rfl ?_
        refine z_iloadn zh dX3_copyFrom_60 rfl ?_
        refine z_aloadnR zh dX3_copyFrom_61 rfl ?_
        refine z_getf zh fl_Market_22 dX3_copyFrom_62 (ck_M hm2) rfl rfl ?_
        refine z_iloadn zh dX3_copyFrom_65 rfl ?_
        refine y_iald zh (ck_mi 4 (by decide) hm2) dX3_copyFrom_66 hk1 (by decide) (by decide) (fun x25 ex25 => ?_)
        refine z_iast zh (ck_mi 4 (by decide) hm) dX3_copyFrom_67 (ra_in hk1 (by decide) (by decide)) ?_
        have hG : SI sp σ (upI iv (m + 4) k.toNatClampNeg x25) := si_wM hG hm 4 (by decide) (rx_none rfl)
        generalize upI iv (m + 4) k.toNatClampNeg x25 = iv at hG  ⊢
        refine z_aloadnR zh dX3_copyFrom_68 rfl ?_
        refine z_getf zh fl_Market_25 dX3_copyFrom_69 (ck_M hm) rfl rfl ?_
        refine z_iloadn zh dX3_copyFrom_72 rfl ?_
        refine z_aloadnR zh dX3_copyFrom_73 rfl ?_
        refine z_getf zh fl_Market_25 dX3_copyFrom_74 (ck_M hm2) rfl rfl ?_
        refine z_iloadn zh dX3_copyFrom_77 rfl ?_
        refine y_iald zh (ck_mi 5 (by decide) hm2) dX3_copyFrom_78 hk1 (by decide) (by decide) (fun x26 ex26 => ?_)
        refine z_iast zh (ck_mi 5 (by decide) hm) dX3_copyFrom_79 (ra_in hk1 (by decide) (by decide)) ?_
        have hG : SI sp σ (upI iv (m + 5) k.toNatClampNeg x26) := si_wM hG hm 5 (by decide) (rx_none rfl)
        generalize upI iv (m + 5) k.toNatClampNeg x26 = iv at hG  ⊢
        refine z_aloadnR zh dX3_copyFrom_80 rfl ?_
        refine z_getf zh fl_Market_28 dX3_copyFrom_81 (ck_M hm) rfl rfl ?_
        refine z_iloadn zh dX3_copyFrom_84 rfl ?_
        refine z_aloadnR zh dX3_copyFrom_85 rfl ?_
        refine z_getf zh fl_Market_28 dX3_copyFrom_86 (ck_M hm2) rfl rfl ?_
        refine z_iloadn zh dX3_copyFrom_89 rfl ?_
        refine y_iald zh (ck_mi 6 (by decide) hm2) dX3_copyFrom_90 hk1 (by decide) (by decide) (fun x27 ex27 => ?_)
        refine z_iast zh (ck_mi 6 (by decide) hm) dX3_copyFrom_91 (ra_in hk1 (by decide) (by decide)) ?_
        have hG : SI sp σ (upI iv (m + 6) k.toNatClampNeg x27) := si_wM hG hm 6 (by decide) (rx_none rfl)
        generalize upI iv (m + 6) k.toNatClampNeg x27 = iv at hG  ⊢
        refine z_aloadnR zh dX3_copyFrom_92 rfl ?_
        refine z_getf zh fl_Market_33 dX3_copyFrom_93 (ck_M hm2) rfl rfl ?_
        refine z_iloadn zh dX3_copyFrom_96 rfl ?_
        refine y_gald zh (ck_lots hm2) dX3_copyFrom_97 hk1 (by decide) (by decide) (fun j28 hj28 _ _ => ?_)
        refine z_iconst zh dX3_copyFrom_98 ki_0 ?_
        refine z_aloadnR zh dX3_copyFrom_99 rfl ?_
        refine z_getf zh fl_Market_33 dX3_copyFrom_100 (ck_M hm) rfl rfl ?_
        refine z_iloadn zh dX3_copyFrom_103 rfl ?_
        refine y_gald zh (ck_lots hm) dX3_copyFrom_104 hk1 (by decide) (by decide) (fun j29 hj29 _ _ => ?_)
        refine z_iconst zh dX3_copyFrom_105 ki_0 ?_
        refine z_iloadn zh dX3_copyFrom_106 rfl ?_
        refine y_acopy zh ac_Market_87 dX3_copyFrom_107 (ck_row hm2 hj28) (ck_row hm hj29) hx3 (by decide) (by decide) (by decide) ⟨Nat.le_of_ble_eq_true rfl, Nat.le_of_ble_eq_true rfl⟩ (fun c hc => ?_)
        have hG1 : SI sp σ (cpI iv (m + 8 + j29) (m2 + 8 + j28) c) := cp_row hm hj29 hG
        revert hG1; generalize cpI iv (m + 8 + j29) (m2 + 8 + j28) c = iv; intro hG
        refine y_iinc (L' := fun z => [some (rf g m), some (rf g m2), some (.int x3), some (.int z)]) zh dX3_copyFrom_110 (by decide) rfl (by decide +kernel) hk1 (u := 1) (v := 12) rfl rfl (by decide) (by decide) (fun _ => rfl) (fun x30 hc30 hx30 => ?_)
        refine z_goto (tgt := 14) zh dX3_copyFrom_113 rfl ?_
        exact ih iv lv x30 hG (ra_w hx30 (by decide) (by decide)) (ms_up hc30 (by decide) hn)
  exact J 13 iv lv (nI 0) hG (ra_w rl_0 (by decide) (by decide)) (ms_u0 rl_0 (by decide))

set_option maxHeartbeats 1000000 in
set_option maxRecDepth 20000 in
theorem s_X1_copyFrom (g : GE) {sp : Nat → Nat → Bool} {σ : Iv} {iv : Iv} {lv : Lv} {h h2 : Nat} (hh : isH h) (hh2 : isH h2) (hG : SI sp σ iv) (hq : Sq sp) : ConV g yX1_copyFrom cX1_copyFrom 3 none 2 [rf g h, rf g h2] iv lv (fun iv lv => SI sp σ iv) := by
  refine con_intro (own := "RollingNets$House") (by decide +kernel) rfl (Nat.le_of_ble_eq_true rfl) (L0 := [some (rf g h), some (rf g h2), none]) rfl (fun Z zh => ?_)
  refine z_aloadnR zh dX1_copyFrom_0 rfl ?_
  refine z_getf zh fl_House_13 dX1_copyFrom_1 (ck_H hh2) rfl rfl ?_
  refine z_iconst zh dX1_copyFrom_4 ki_0 ?_
  refine z_aloadnR zh dX1_copyFrom_5 rfl ?_
  refine z_getf zh fl_House_13 dX1_copyFrom_6 (ck_H hh) rfl rfl ?_
  refine z_iconst zh dX1_copyFrom_9 ki_0 ?_
  refine z_aloadnR zh dX1_copyFrom_10 rfl ?_
  refine z_getf zh fl_House_13 dX1_copyFrom_11 (ck_H hh) rfl rfl ?_
  refine z_alenI zh (ck_told hh) dX1_copyFrom_14 ?_
  refine z_acopy (cn := 7) zh ac_House_83 dX1_copyFrom_15 (ck_told hh2) (ck_told hh) (by decide) (by decide) ⟨Nat.le_of_ble_eq_true rfl, Nat.le_of_ble_eq_true rfl⟩ ?_
  have hG1 : SI sp σ (cpI iv (h + 1) (h2 + 1) 7) := by
    have := H_lt hh (r := 1) (by omega)
    refine si_cp hG (by omega) (by omega) (fun j _ => sq_H hq hh (by omega)) (fun j lo hi _ e => si_c hG ?_)
    rw [rg_H hh (by omega)] at e
    rw [rg_H hh2 (by omega)]
    exact e
  revert hG1; generalize cpI iv (h + 1) (h2 + 1) 7 = iv; intro hG
  refine z_iconst zh dX1_copyFrom_18 ki_0 ?_
  refine z_istoren zh dX1_copyFrom_19 (by decide) (L' := [some (rf g h), some (rf g h2), some (.int (nI 0))]) rfl ?_
  have J82 : ∀ (q : Nat) (iv : Iv) (lv : Lv) (k : Int32), SI sp σ iv → Ra 0 6 k → 6 - k.toInt < (q : Int) → Z 82 [some (rf g h), some (rf g h2), some (.int k)] [] iv lv := by
    intro q
    induction q with
    | zero => intro iv lv k _ hk hn; exact (ms_uz hk hn).elim
    | succ q ih =>
      intro iv lv k hG hk hn
      refine z_iloadn zh dX1_copyFrom_82 rfl ?_
      refine z_bipush zh dX1_copyFrom_83 kb_6 ?_
      refine z_icmp_ge (tgt := 109) zh dX1_copyFrom_85 rfl (fun _ => ?_) (fun q => ?_)
      · refine z_aloadnR zh dX1_copyFrom_109 rfl ?_
        refine z_getf zh fl_House_43 dX1_copyFrom_110 (ck_H hh) rfl rfl ?_
        refine z_aloadnR zh dX1_copyFrom_113 rfl ?_
        refine z_getf zh fl_House_43 dX1_copyFrom_114 (ck_H hh2) rfl rfl ?_
        refine z_callVV zh mv_House_169 dX1_copyFrom_117 (ck_T (isT_d hh)) rfl (z_copyH g hh hh2 (isT_d hh) (isT_d hh2) (by decide) hG hq) ⟨Nat.le_of_ble_eq_true rfl, Nat.le_of_ble_eq_true rfl⟩ rfl rfl (Nat.le_of_ble_eq_true rfl) ?_
        rintro iv lv hG
        refine z_aloadnR zh dX1_copyFrom_120 rfl ?_
        refine z_getf zh fl_House_47 dX1_copyFrom_121 (ck_H hh) rfl rfl ?_
        refine z_aloadnR zh dX1_copyFrom_124 rfl ?_
        refine z_getf zh fl_House_47 dX1_copyFrom_125 (ck_H hh2) rfl rfl ?_
        refine z_callVV zh mv_House_169 dX1_copyFrom_128 (ck_T (isT_n hh)) rfl (z_copyH g hh hh2 (isT_n hh) (isT_n hh2) (by decide) hG hq) ⟨Nat.le_of_ble_eq_true rfl, Nat.le_of_ble_eq_true rfl⟩ rfl rfl (Nat.le_of_ble_eq_true rfl) ?_
        rintro iv lv hG
        refine z_aloadnR zh dX1_copyFrom_131 rfl ?_
        refine z_getf zh fl_House_50 dX1_copyFrom_132 (ck_H hh) rfl rfl ?_
        refine z_aloadnR zh dX1_copyFrom_135 rfl ?_
        refine z_getf zh fl_House_50 dX1_copyFrom_136 (ck_H hh2) rfl rfl ?_
        refine z_callVV zh mv_House_169 dX1_copyFrom_139 (ck_T (isT_b hh)) rfl (z_copyH g hh hh2 (isT_b hh) (isT_b hh2) (by decide) hG hq) ⟨Nat.le_of_ble_eq_true rfl, Nat.le_of_ble_eq_true rfl⟩ rfl rfl (Nat.le_of_ble_eq_true rfl) ?_
        rintro iv lv hG
        refine z_aloadnR zh dX1_copyFrom_142 rfl ?_
        refine z_getf zh fl_House_53 dX1_copyFrom_143 (ck_H hh) rfl rfl ?_
        refine z_aloadnR zh dX1_copyFrom_146 rfl ?_
        refine z_getf zh fl_House_53 dX1_copyFrom_147 (ck_H hh2) rfl rfl ?_
        refine z_callVV zh mv_House_169 dX1_copyFrom_150 (ck_T (isT_p hh)) rfl (z_copyH g hh hh2 (isT_p hh) (isT_p hh2) (by decide) hG hq) ⟨Nat.le_of_ble_eq_true rfl, Nat.le_of_ble_eq_true rfl⟩ rfl rfl (Nat.le_of_ble_eq_true rfl) ?_
        rintro iv lv hG
        refine z_aloadnR zh dX1_copyFrom_153 rfl ?_
        refine z_aloadnR zh dX1_copyFrom_154 rfl ?_
        refine y_getI zh fl_House_56 dX1_copyFrom_155 (ck_H hh2) rfl rfl (fun x1 ex1 => ?_)
        refine z_putI zh fl_House_56 dX1_copyFrom_158 (ck_H hh) rfl rfl (Nat.le_of_ble_eq_true rfl) (Or.inl rfl) ?_
        have hG : SI sp σ (upI iv h 10 x1) := si_wHq hG hq hh 0 (by decide) (rx_none rfl)
        have em3 : upI iv h 10 x1 h 10 = x1 := by rw [upI_at, if_pos ⟨rfl, rfl⟩]
        generalize upI iv h 10 x1 = iv at hG em3 ⊢
        refine z_aloadnR zh dX1_copyFrom_161 rfl ?_
        refine z_aloadnR zh dX1_copyFrom_162 rfl ?_
        refine y_getI zh fl_House_60 dX1_copyFrom_163 (ck_H hh2) rfl rfl (fun x4 ex4 => ?_)
        have hx4 : Ra 0 99 x4 := ra_of ex4 (si_H hG hh2 0 (by decide) rfl)
        refine z_putI zh fl_House_60 dX1_copyFrom_166 (ck_H hh) rfl rfl (Nat.le_of_ble_eq_true rfl) (Or.inl rfl) ?_
        have hG : SI sp σ (upI iv h 11 x4) := si_wHq hG hq hh 0 (by decide) (rx_some hx4)
        have em5 := (upI_ne (iv := iv) (k := h) (j := 11) (x := x4) (a := h) (b := 10) (Or.inr (by decide))).trans em3
        have em7 : upI iv h 11 x4 h 11 = x4 := by rw [upI_at, if_pos ⟨rfl, rfl⟩]
        generalize upI iv h 11 x4 = iv at hG em5 em7 ⊢
        refine z_aloadnR zh dX1_copyFrom_169 rfl ?_
        refine z_aloadnR zh dX1_copyFrom_170 rfl ?_
        refine y_getL zh fl_House_63 dX1_copyFrom_171 (ck_H hh2) rfl rfl (fun l8 => ?_)
        refine z_putL zh fl_House_63 dX1_copyFrom_174 (ck_H hh) rfl rfl (Nat.le_of_ble_eq_true rfl) rfl ?_
        generalize upL lv h 12 l8 = lv
        exact z_vret zh dX1_copyFrom_177 ⟨rfl, hG⟩
      · have hk1 : Ra 0 5 k := rb_lt_l rl_6 hk (rb_nle q) (by decide)
        refine z_aloadnR zh dX1_copyFrom_88 rfl ?_
        refine z_getf zh fl_House_34 dX1_copyFrom_89 (ck_H hh) rfl rfl ?_
        refine z_iloadn zh dX1_copyFrom_92 rfl ?_
        refine y_mald zh (ck_markets hh) dX1_copyFrom_93 hk1 (by decide) (by decide) (fun j9 hj9 _ _ => ?_)
        refine z_aloadnR zh dX1_copyFrom_94 rfl ?_
        refine z_getf zh fl_House_34 dX1_copyFrom_95 (ck_H hh2) rfl rfl ?_
        refine z_iloadn zh dX1_copyFrom_98 rfl ?_
        refine y_mald zh (ck_markets hh2) dX1_copyFrom_99 hk1 (by decide) (by decide) (fun j10 hj10 _ _ => ?_)
        refine z_callVV zh mv_House_165 dX1_copyFrom_100 (ck_M (isM_of hh hj9)) rfl (s_X3_copyFrom g (isM_of hh hj9) (isM_of hh2 hj10) hG) ⟨Nat.le_of_ble_eq_true rfl, Nat.le_of_ble_eq_true rfl⟩ rfl rfl (Nat.le_of_ble_eq_true rfl) ?_
        rintro iv lv hG
        refine y_iinc (L' := fun z => [some (rf g h), some (rf g h2), some (.int z)]) zh dX1_copyFrom_103 (by decide) rfl (by decide +kernel) hk1 (u := 1) (v := 6) rfl rfl (by decide) (by decide) (fun _ => rfl) (fun x11 hc11 hx11 => ?_)
        refine z_goto (tgt := 82) zh dX1_copyFrom_106 rfl ?_
        exact ih iv lv x11 hG (ra_w hx11 (by decide) (by decide)) (ms_up hc11 (by decide) hn)
  have J20 : ∀ (q : Nat) (iv : Iv) (lv : Lv) (k : Int32), SI sp σ iv → Ra 0 12 k → 12 - k.toInt < (q : Int) → Z 20 [some (rf g h), some (rf g h2), some (.int k)] [] iv lv := by
    intro q
    induction q with
    | zero => intro iv lv k _ hk hn; exact (ms_uz hk hn).elim
    | succ q ih =>
      intro iv lv k hG hk hn
      refine z_iloadn zh dX1_copyFrom_20 rfl ?_
      refine z_bipush zh dX1_copyFrom_21 kb_12 ?_
      refine z_icmp_ge (tgt := 80) zh dX1_copyFrom_23 rfl (fun _ => ?_) (fun q => ?_)
      · refine z_iconst zh dX1_copyFrom_80 ki_0 ?_
        refine z_istoren zh dX1_copyFrom_81 (by decide) (L' := [some (rf g h), some (rf g h2), some (.int (nI 0))]) rfl ?_
        exact J82 7 iv lv (nI 0) hG (ra_w rl_0 (by decide) (by decide)) (ms_u0 rl_0 (by decide))
      · have hk1 : Ra 0 11 k := rb_lt_l rl_12 hk (rb_nle q) (by decide)
        refine z_aloadnR zh dX1_copyFrom_26 rfl ?_
        refine z_getf zh fl_House_18 dX1_copyFrom_27 (ck_H hh) rfl rfl ?_
        refine z_iloadn zh dX1_copyFrom_30 rfl ?_
        refine z_aloadnR zh dX1_copyFrom_31 rfl ?_
        refine z_getf zh fl_House_18 dX1_copyFrom_32 (ck_H hh2) rfl rfl ?_
        refine z_iloadn zh dX1_copyFrom_35 rfl ?_
        refine y_lald zh (ck_cash hh2) dX1_copyFrom_36 hk1 (by decide) (by decide) (fun l12 => ?_)
        refine z_last zh (ck_cash hh) dX1_copyFrom_37 (ra_in hk1 (by decide) (by decide)) ?_
        generalize upL lv (h + 2) k.toNatClampNeg l12 = lv
        refine z_aloadnR zh dX1_copyFrom_38 rfl ?_
        refine z_getf zh fl_House_22 dX1_copyFrom_39 (ck_H hh) rfl rfl ?_
        refine z_iloadn zh dX1_copyFrom_42 rfl ?_
        refine z_aloadnR zh dX1_copyFrom_43 rfl ?_
        refine z_getf zh fl_House_22 dX1_copyFrom_44 (ck_H hh2) rfl rfl ?_
        refine z_iloadn zh dX1_copyFrom_47 rfl ?_
        refine y_iald zh (ck_rank hh2) dX1_copyFrom_48 hk1 (by decide) (by decide) (fun x13 ex13 => ?_)
        refine z_iast zh (ck_rank hh) dX1_copyFrom_49 (ra_in hk1 (by decide) (by decide)) ?_
        have hG : SI sp σ (upI iv (h + 3) k.toNatClampNeg x13) := si_wH hG hh 3 (by decide) rfl (rx_none rfl)
        generalize upI iv (h + 3) k.toNatClampNeg x13 = iv at hG  ⊢
        refine z_aloadnR zh dX1_copyFrom_50 rfl ?_
        refine z_getf zh fl_House_25 dX1_copyFrom_51 (ck_H hh) rfl rfl ?_
        refine z_iloadn zh dX1_copyFrom_54 rfl ?_
        refine z_aloadnR zh dX1_copyFrom_55 rfl ?_
        refine z_getf zh fl_House_25 dX1_copyFrom_56 (ck_H hh2) rfl rfl ?_
        refine z_iloadn zh dX1_copyFrom_59 rfl ?_
        refine y_iald zh (ck_pledged hh2) dX1_copyFrom_60 hk1 (by decide) (by decide) (fun x14 ex14 => ?_)
        refine z_iast zh (ck_pledged hh) dX1_copyFrom_61 (ra_in hk1 (by decide) (by decide)) ?_
        have hG : SI sp σ (upI iv (h + 4) k.toNatClampNeg x14) := si_wH hG hh 4 (by decide) rfl (rx_none rfl)
        generalize upI iv (h + 4) k.toNatClampNeg x14 = iv at hG  ⊢
        refine z_aloadnR zh dX1_copyFrom_62 rfl ?_
        refine z_getf zh fl_House_28 dX1_copyFrom_63 (ck_H hh) rfl rfl ?_
        refine z_iloadn zh dX1_copyFrom_66 rfl ?_
        refine z_aloadnR zh dX1_copyFrom_67 rfl ?_
        refine z_getf zh fl_House_28 dX1_copyFrom_68 (ck_H hh2) rfl rfl ?_
        refine z_iloadn zh dX1_copyFrom_71 rfl ?_
        refine y_zald zh (ck_susp hh2) dX1_copyFrom_72 hk1 (by decide) (by decide) (fun x15 ex15 => ?_)
        refine z_zast zh (ck_susp hh) dX1_copyFrom_73 (ra_in hk1 (by decide) (by decide)) ?_
        have hG : SI sp σ (upI iv (h + 5) k.toNatClampNeg (vp_nar .boolean x15)) := si_wH hG hh 5 (by decide) rfl (rx_none rfl)
        generalize upI iv (h + 5) k.toNatClampNeg (vp_nar .boolean x15) = iv at hG  ⊢
        refine y_iinc (L' := fun z => [some (rf g h), some (rf g h2), some (.int z)]) zh dX1_copyFrom_74 (by decide) rfl (by decide +kernel) hk1 (u := 1) (v := 12) rfl rfl (by decide) (by decide) (fun _ => rfl) (fun x16 hc16 hx16 => ?_)
        refine z_goto (tgt := 20) zh dX1_copyFrom_77 rfl ?_
        exact ih iv lv x16 hG (ra_w hx16 (by decide) (by decide)) (ms_up hc16 (by decide) hn)
  exact J20 13 iv lv (nI 0) hG (ra_w rl_0 (by decide) (by decide)) (ms_u0 rl_0 (by decide))

set_option maxHeartbeats 1000000 in
set_option maxRecDepth 20000 in
theorem s_X8_set (g : GE) {sp : Nat → Nat → Bool} {σ : Iv} {iv : Iv} {lv : Lv} {a1 a2 : Int32} (hG : SI sp σ iv) (hq : Sq sp) : ConI g yX8_set cX8_set 3 (some .boolean) 2 [rf g 0, .int a1, .int a2] iv lv (fun r iv lv => SI sp σ iv ∧ Ra 0 1 r) := by
  refine con_intro (own := "RollingNets") (by decide +kernel) rfl (Nat.le_of_ble_eq_true rfl) (L0 := [some (rf g 0), some (.int a1), some (.int a2)]) rfl (fun Z zh => ?_)
  have J29 : Z 29 [some (rf g 0), some (.int a1), some (.int a2)] [] iv lv := by
    refine z_iconst zh dX8_set_29 ki_0 ?_
    exact z_zret zh dX8_set_30 (Or.inl rfl) ⟨_, rfl, hG, by decide, by decide⟩
  refine z_iloadn zh dX8_set_0 rfl ?_
  refine z_if_lt (tgt := 29) zh dX8_set_1 rfl (fun _ => J29) (fun q1 => ?_)
  rw [lt0] at q1
  refine z_iloadn zh dX8_set_4 rfl ?_
  refine z_gets (i := 0) zh dX8_set_5 (by decide) gs_RollingNets_33 ?_
  refine z_tlen zh dX8_set_8 (by decide) ?_
  have e7 : (nI 7).toInt = 7 := by decide
  refine z_icmp_ge (tgt := 29) zh dX8_set_9 rfl (fun _ => J29) (fun q2 => ?_)
  rw [leI] at q2
  obtain ⟨j, hj, rfl, e, f⟩ := ra_nat (lo := 0) (hi := 6) (x := a1) ⟨by omega, by omega⟩ (by decide)
  have hj7 : j < 7 := by omega
  refine z_iloadn zh dX8_set_12 rfl ?_
  refine z_gets (i := 1) zh dX8_set_13 (by decide) gs_RollingNets_37 ?_
  refine z_iloadn zh dX8_set_16 rfl ?_
  refine z_tald zh dX8_set_17 (by decide) hj7 ?_
  refine z_gets (i := 2) zh dX8_set_18 (by decide) gs_RollingNets_40 ?_
  refine z_iloadn zh dX8_set_21 rfl ?_
  refine z_tald zh dX8_set_22 (by decide) hj7 ?_
  refine z_callSI zh ms_RollingNets_43 dX8_set_23 (s_X8_within g) ⟨Nat.le_of_ble_eq_true rfl, Nat.le_of_ble_eq_true rfl⟩ rfl rfl (Nat.le_of_ble_eq_true rfl) ?_
  rintro x _ _ ⟨rfl, rfl, hx, hw⟩
  refine z_if_ne (tgt := 31) zh dX8_set_26 rfl (fun q3 => ?_) (fun _ => J29)
  have hw := hw q3
  have hx9 : ∀ lo hi, rH 1 (nI j).toNatClampNeg = some (lo, hi) → Ra lo hi a2 := by
    intro lo hi e
    rw [nI_clamp (by omega)] at e
    unfold rH at e
    rw [if_neg (by decide), if_pos rfl] at e
    by_cases ej : j = 0
    · subst ej
      rw [if_pos rfl] at e
      cases e
      have h1 := leI.mp hw.1; have h2 := leI.mp hw.2
      have e1 : (sV 1 0).toInt = 2 := by decide +kernel
      have e2 : (sV 2 0).toInt = 12 := by decide +kernel
      exact ⟨by omega, by omega⟩
    · rw [if_neg ej] at e; cases e
  have J50 : Z 50 [some (rf g 0), some (.int (nI j)), some (.int a2)] [] iv lv := by
    refine z_aloadnR zh dX8_set_50 rfl ?_
    refine z_getf zh fl_RollingNets_12 dX8_set_51 ck_X rfl rfl ?_
    refine z_getf zh fl_RollingNets_57 dX8_set_54 (ck_H isH_1) rfl rfl ?_
    refine z_iloadn zh dX8_set_57 rfl ?_
    refine z_iloadn zh dX8_set_58 rfl ?_
    refine z_iast zh (ck_told isH_1) dX8_set_59 (ra_in (lo := 0) (hi := 6) ⟨by omega, by omega⟩ (by decide) (by decide)) ?_
    have hG1 : SI sp σ (upI iv (1 + 1) (nI j).toNatClampNeg a2) := si_wHq hG hq isH_1 1 (by decide) hx9
    revert hG1; generalize upI iv (1 + 1) (nI j).toNatClampNeg a2 = iv; intro hG
    refine z_iconst zh dX8_set_60 ki_1 ?_
    exact z_zret zh dX8_set_61 (Or.inr rfl) ⟨_, rfl, hG, by decide, by decide⟩
  refine z_iloadn zh dX8_set_31 rfl ?_
  refine z_if_ne (tgt := 50) zh dX8_set_32 rfl (fun _ => J50) (fun _ => ?_)
  refine z_aloadnR zh dX8_set_35 rfl ?_
  refine z_getf zh fl_RollingNets_12 dX8_set_36 ck_X rfl rfl ?_
  refine z_getf zh fl_RollingNets_47 dX8_set_39 (ck_H isH_1) rfl rfl ?_
  obtain ⟨x1, ex1⟩ : ∃ z, iv (1 + 7) 2 = z := ⟨_, rfl⟩
  have hx1 : Ra 0 200 x1 := ra_of ex1 (si_T hG (isT_d isH_1))
  refine z_callVIp zh mv_RollingNets_51 dX8_set_42 (ck_T (isT_d isH_1)) rfl (s_X7_size g (isT_d isH_1) ex1) ⟨Nat.le_of_ble_eq_true rfl, Nat.le_of_ble_eq_true rfl⟩ rfl rfl (Nat.le_of_ble_eq_true rfl) ?_
  refine z_if_le (tgt := 50) zh dX8_set_45 rfl (fun _ => J50) (fun _ => ?_)
  refine z_iconst zh dX8_set_48 ki_0 ?_
  exact z_zret zh dX8_set_49 (Or.inl rfl) ⟨_, rfl, hG, by decide, by decide⟩
