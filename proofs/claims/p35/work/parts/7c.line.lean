/-! READING A PLAN: a line, all lines -/
/-- where the i-th number is looked for -/
noncomputable def pl (t : Nat → Int32) (n p : Nat) : Nat → Nat
  | 0 => p
  | i + 1 => re dg t n (np t n p i)
theorem pl_np {t : Nat → Int32} {n p : Nat} : ∀ i, re bl t n (pl t n p i) = np t n p i
  | 0 => rfl
  | _ + 1 => rfl
theorem pl_le {t : Nat → Int32} {n p : Nat} (h : p ≤ n) : ∀ i, pl t n p i ≤ n
  | 0 => h
  | i + 1 => re_le (np_le h i)
/-- what a line leaves, its word k behind p0 -/
def LnP (t : Nat → Int32) (n k p0 r : Nat) (iv iv' : Iv) : Prop := DF iv iv' (fun _ j => j = r) ∧ ((lf t n k p0).1 = 0 → RS iv' (np t n p0 (mn k) + 1) (nI 0) (-1) (r + 1) ∧ np t n p0 (mn k) < n ∧ iv' 545 r = nI k ∧ ∀ i, i < mn k → iv' (545 + (i + 1)) r = dv t (np t n p0 i) (re dg t n (np t n p0 i) - np t n p0 i)) ∧ (¬ (lf t n k p0).1 = 0 → ∃ z, z ≤ 401 ∧ RS iv' z (nI (lf t n k p0).1) (nI (lf t n k p0).2) (r + 1))
theorem nf_12 {t : Nat → Int32} {n q a b : Nat} : nf t n q a b = 0 ∨ nf t n q a b = 1 ∨ nf t n q a b = 2 := by
  unfold nf
  by_cases h : re dg t n q = q ∨ 4 < re dg t n q - q
  · rw [if_pos h]; exact Or.inr (Or.inl rfl)
  · rw [if_neg h]
    by_cases w : Rg (nI a) (nI b) (dv t q (re dg t n q - q))
    · rw [if_pos w]; exact Or.inl rfl
    · rw [if_neg w]; exact Or.inr (Or.inr rfl)
theorem lf_0 {t : Nat → Int32} {n k p i : Nat} (hi : i ≤ mn k) (h : ∀ a, a < i → nf t n (np t n p a) (lo_b k a) (hi_b k a) = 0) : lf t n k p = lfF t n k p (mn k - i) i := by
  unfold lf
  induction i with
  | zero => rfl
  | succ i ih =>
    rw [ih (by omega) (fun a ha => h a (by omega)), show mn k - i = (mn k - (i + 1)) + 1 by omega, lfF_y (h i (by omega))]
theorem lf_bad {t : Nat → Int32} {n k p i : Nat} (hi : i < mn k) (h : ∀ a, a < i → nf t n (np t n p a) (lo_b k a) (hi_b k a) = 0) (h2 : ¬ nf t n (np t n p i) (lo_b k i) (hi_b k i) = 0) : lf t n k p = (nf t n (np t n p i) (lo_b k i) (hi_b k i), np t n p i) := by
  rw [lf_0 (by omega) h, show mn k - i = (mn k - (i + 1)) + 1 by omega, lfF_n h2]
theorem lf_end {t : Nat → Int32} {n k p : Nat} (h : ∀ a, a < mn k → nf t n (np t n p a) (lo_b k a) (hi_b k a) = 0) : lf t n k p = lfF t n k p 0 (mn k) := by
  rw [lf_0 (Nat.le_refl _) h, Nat.sub_self]
theorem nz_nI {a : Nat} (h : a < 2 ^ 31) (w : ¬ a = 0) : ¬ nI a = 0 := fun e => w (by
  have : (nI a).toInt = (0 : Int32).toInt := by rw [e]
  rw [nI_toInt h] at this
  have e0 : (0 : Int32).toInt = 0 := by decide
  omega)
set_option maxHeartbeats 1000000 in
set_option maxRecDepth 20000 in
theorem h_X6_readLine (g : GE) {sp : Nat → Nat → Bool} {σ iv : Iv} {lv : Lv} {t : Nat → Int32} {n p r : Nat} (hT : TL sp σ t n) (hf : Rf sp) (hG : SI sp σ iv) (hp : p ≤ n) (hr9 : r ≤ 24) (hs : RS iv p (nI 0) (-1) r) : ConV g yX6_readLine cX6_readLine 5 none 7 [rf g 541] iv lv (fun iv' lv' => SI sp σ iv' ∧ (kd t n p = 10 → RS iv' p (nI 1) (nI p) r) ∧ (¬ kd t n p = 10 → r = 24 → RS iv' p (nI 3) (nI p) r) ∧ (¬ kd t n p = 10 → ¬ r = 24 → LnP t n (kd t n p) (p + wl (kd t n p)) r iv iv')) := by
  have hk10 := kd_le (t := t) (n := n) (p := p)
  have hkmt := kd_mt (t := t) (n := n) (p := p)
  have hkw := h_X6_wordHere g hT hG (by have := hT.1; omega) hs.1 (lv := lv)
  obtain ⟨k, ek⟩ : ∃ k, k = kd t n p := ⟨_, rfl⟩
  obtain ⟨p0, ep0⟩ : ∃ p0, p0 = p + wl k := ⟨_, rfl⟩
  rw [← ek] at hk10 hkmt hkw ⊢
  rw [← ep0]
  refine con_intro (own := "RollingNets$Reader") (by decide +kernel) rfl (Nat.le_of_ble_eq_true rfl) (L0 := [some (rf g 541), none, none, none, none]) rfl (fun Z zh => ?_)
  have hn := hT.1
  refine z_aloadnR zh dX6_readLine_0 rfl ?_
  refine z_callVIp zh mv_Reader_46 dX6_readLine_1 ck_R rfl hkw ⟨Nat.le_of_ble_eq_true rfl, Nat.le_of_ble_eq_true rfl⟩ rfl rfl (Nat.le_of_ble_eq_true rfl) ?_
  refine z_istoren zh dX6_readLine_4 (by decide) (L' := [some (rf g 541), some (.int (kdr k)), none, none, none]) rfl ?_
  refine z_iloadn zh dX6_readLine_5 rfl ?_
  refine z_iconst zh dX6_readLine_6 ki_m1 ?_
  by_cases hk : k = 10
  · refine z_icmp_ne (tgt := 16) zh dX6_readLine_7 rfl (fun q1 => absurd (by rw [hk]; rfl) q1) (fun _ => ?_)
    refine z_aloadnR zh dX6_readLine_10 rfl ?_
    refine z_iconst zh dX6_readLine_11 ki_1 ?_
    refine z_callVV zh mv_Reader_50 dX6_readLine_12 ck_R rfl (h_X6_failHere g hG hf hs) ⟨Nat.le_of_ble_eq_true rfl, Nat.le_of_ble_eq_true rfl⟩ rfl rfl (Nat.le_of_ble_eq_true rfl) ?_
    rintro iv2 lv ⟨hG, hs, _⟩
    exact z_vret zh dX6_readLine_15 ⟨rfl, hG, fun _ => hs, fun w => absurd hk w, fun w => absurd hk w⟩
  have hk9 : k < 10 := by omega
  have hmt := hkmt hk9
  rw [kdr_n hk]
  have hplen := mt_lt hk9 hmt
  have hw8 := wl_8 k (by omega)
  have hshp := shp_mn k hk9
  have hmn := mn_5 k hk9
  refine z_icmp_ne (tgt := 16) zh dX6_readLine_7 rfl (fun _ => ?_) (fun w => absurd w (nI_nm1 (by omega)))
  refine z_aloadnR zh dX6_readLine_16 rfl ?_
  refine z_getf zh fl_Reader_24 dX6_readLine_17 ck_R rfl rfl ?_
  refine z_callVI zh mv_Reader_54 dX6_readLine_20 (ck_T isT_r) rfl (h_X7_addRow g isT_r hs.2.2.2 (by omega) hG hf.2.2.1 hf.2.2.2) ⟨Nat.le_of_ble_eq_true rfl, Nat.le_of_ble_eq_true rfl⟩ rfl rfl (Nat.le_of_ble_eq_true rfl) ?_
  rintro rr iv1 lv ⟨hG, hF, hy, hno⟩
  have hs1 : ∀ j, iv1 541 j = iv 541 j := fun j => hF 541 j (by omega) (by omega)
  refine z_istoren zh dX6_readLine_23 (by decide) (L' := [some (rf g 541), some (.int (nI k)), some (.int rr), none, none]) rfl ?_
  refine z_iloadn zh dX6_readLine_24 rfl ?_
  refine z_iconst zh dX6_readLine_25 ki_m1 ?_
  by_cases hr24 : r = 24
  · obtain ⟨e1, e2⟩ := hno (by omega)
    refine z_icmp_ne (tgt := 35) zh dX6_readLine_26 rfl (fun q => absurd e1 q) (fun _ => ?_)
    refine z_aloadnR zh dX6_readLine_29 rfl ?_
    refine z_iconst zh dX6_readLine_30 ki_3 ?_
    refine z_callVV zh mv_Reader_50 dX6_readLine_31 ck_R rfl (h_X6_failHere g hG hf (p := p) (m := r) ⟨(hs1 3).trans hs.1, rfl, rfl, e2⟩) ⟨Nat.le_of_ble_eq_true rfl, Nat.le_of_ble_eq_true rfl⟩ rfl rfl (Nat.le_of_ble_eq_true rfl) ?_
    rintro iv2 lv ⟨hG, hs, _⟩
    exact z_vret zh dX6_readLine_34 ⟨rfl, hG, fun w => absurd w hk, fun _ _ => hs, fun _ w => absurd hr24 w⟩
  obtain ⟨e1, e2⟩ := hy (by omega)
  subst e1
  refine z_icmp_ne (tgt := 35) zh dX6_readLine_26 rfl (fun _ => ?_) (fun w => absurd w (nI_nm1 (by omega)))
  refine z_aloadnR zh dX6_readLine_35 rfl ?_
  refine z_getf zh fl_Reader_24 dX6_readLine_36 ck_R rfl rfl ?_
  refine z_iconst zh dX6_readLine_39 ki_0 ?_
  refine z_iloadn zh dX6_readLine_40 rfl ?_
  refine z_iloadn zh dX6_readLine_41 rfl ?_
  refine z_callVV zh mv_Reader_57 dX6_readLine_42 (ck_T isT_r) rfl (h_X7_put g isT_r (c := 0) (r := r) (m := r + 1) (by decide) (by omega) (by omega) e2) ⟨Nat.le_of_ble_eq_true rfl, Nat.le_of_ble_eq_true rfl⟩ rfl rfl (Nat.le_of_ble_eq_true rfl) ?_
  rintro iv2 lv rfl
  have hi := dr_i (v := nI k) (c := 0) (j := r) hf (by decide)
  have hG : SI sp σ (upI iv1 (543 + 2 + 0) r (nI k)) := si_w (k := 545) (j := r) hG (by decide) (by decide) hi.2 hi.1
  have hs2 : ∀ j, upI iv1 (543 + 2 + 0) r (nI k) 541 j = iv 541 j := fun j => (upI_ne (Or.inl (by decide))).trans (hs1 j)
  have hm2 : upI iv1 (543 + 2 + 0) r (nI k) 543 2 = nI (r + 1) := (upI_ne (Or.inl (by decide))).trans e2
  have hk2 : upI iv1 (543 + 2 + 0) r (nI k) 545 r = nI k := by rw [upI_at, if_pos ⟨rfl, rfl⟩]
  have hd2 : DF iv (upI iv1 (543 + 2 + 0) r (nI k)) (fun _ j => j = r) := fun c j hc w => (upI_ne (by omega)).trans (hF (545 + c) j (by omega) (by omega))
  clear hF hy hno hs1
  generalize upI iv1 (543 + 2 + 0) r (nI k) = iv2 at hG hs2 hm2 hk2 hd2 ⊢
  refine z_aloadnR zh dX6_readLine_45 rfl ?_
  refine z_dup zh dX6_readLine_46 rfl ?_
  refine z_getI (x := nI p) zh fl_Reader_28 dX6_readLine_47 ck_R rfl rfl ((hs2 3).trans hs.1) ?_
  refine z_iloadn zh dX6_readLine_50 rfl ?_
  refine z_callST zh ms_Reader_61 dX6_readLine_51 (s_X6_wordOf g hG) ⟨Nat.le_of_ble_eq_true rfl, Nat.le_of_ble_eq_true rfl⟩ rfl rfl (Nat.le_of_ble_eq_true rfl) ?_
  rintro i2 ⟨hi2, he2⟩
  have ei2 : i2 = k := by
    have := he2 ⟨by rw [nI_toInt (by omega)]; omega, by rw [nI_toInt (by omega)]; omega⟩
    rw [nI_toInt (by omega)] at this; omega
  subst ei2
  refine z_callOp zh mo_Reader_65 dX6_readLine_54 (by omega) (j_len (by omega)) ⟨Nat.le_of_ble_eq_true rfl, Nat.le_of_ble_eq_true rfl⟩ rfl rfl (Nat.le_of_ble_eq_true rfl) ?_
  refine z_iaddN zh dX6_readLine_57 ?_
  refine z_putI zh fl_Reader_28 dX6_readLine_58 ck_R rfl rfl (Nat.le_of_ble_eq_true rfl) (Or.inl rfl) ?_
  rw [show p + (sTx i2).length = p0 from ep0.symm]
  have hp0 : p0 ≤ n := by omega
  have hG : SI sp σ (upI iv2 541 3 (nI p0)) := si_pl hG (rs_r (by omega))
  have hs3 : RS (upI iv2 541 3 (nI p0)) p0 (nI 0) (-1) (r + 1) := ⟨by rw [upI_at, if_pos ⟨rfl, rfl⟩], (upI_ne (Or.inr (by decide))).trans ((hs2 4).trans hs.2.1), (upI_ne (Or.inr (by decide))).trans ((hs2 5).trans hs.2.2.1), (upI_ne (Or.inl (by decide))).trans hm2⟩
  have hk3 : upI iv2 541 3 (nI p0) 545 r = nI i2 := (upI_ne (Or.inl (by decide))).trans hk2
  have hd3 : DF iv (upI iv2 541 3 (nI p0)) (fun _ j => j = r) := fun c j hc w => (upI_ne (Or.inl (by omega))).trans (hd2 c j hc w)
  clear hs2 hm2 hk2 hd2
  generalize upI iv2 541 3 (nI p0) = iv3 at hG hs3 hk3 hd3 ⊢
  refine z_iloadn zh dX6_readLine_61 rfl ?_
  refine z_callST zh ms_Reader_69 dX6_readLine_62 (h_X6_shapeOf g hk9) ⟨Nat.le_of_ble_eq_true rfl, Nat.le_of_ble_eq_true rfl⟩ rfl rfl (Nat.le_of_ble_eq_true rfl) ?_
  rintro s rfl
  refine z_astoren zh dX6_readLine_65 (by decide) (L' := [some (rf g 541), some (.int (nI i2)), some (.int (nI r)), some (rs g (shp i2)), none]) rfl ?_
  refine z_iconst zh dX6_readLine_66 ki_0 ?_
  refine z_istore zh dX6_readLine_67 (by decide) (L' := [some (rf g 541), some (.int (nI i2)), some (.int (nI r)), some (rs g (shp i2)), some (.int (nI 0))]) rfl ?_
  have J135 : ∀ (iv' : Iv) (lv : Lv) (z j m9 : Nat) (f fp : Int32), SI sp σ iv' → RS iv' z f fp m9 → z ≤ 400 → (∀ iv4, RS iv4 (z + 1) f fp m9 → (∀ c j, c < 6 → iv4 (545 + c) j = iv' (545 + c) j) → LnP t n i2 p0 r iv iv4) → Z 135 [some (rf g 541), some (.int (nI i2)), some (.int (nI r)), some (rs g (shp i2)), some (.int (nI j))] [] iv' lv := by
    intro iv' lv z j m9 f fp hG hs hz hpost
    refine z_aloadnR zh dX6_readLine_135 rfl ?_
    refine z_dup zh dX6_readLine_136 rfl ?_
    refine z_getI (x := nI z) zh fl_Reader_28 dX6_readLine_137 ck_R rfl rfl hs.1 ?_
    refine z_iconst zh dX6_readLine_140 ki_1 ?_
    refine z_iaddN zh dX6_readLine_141 ?_
    refine z_putI zh fl_Reader_28 dX6_readLine_142 ck_R rfl rfl (Nat.le_of_ble_eq_true rfl) (Or.inl rfl) ?_
    exact z_vret zh dX6_readLine_145 ⟨rfl, si_pl hG (rs_r (by omega)), fun w => absurd w hk, fun _ w => absurd w hr24, fun _ _ => hpost _ ⟨by rw [upI_at, if_pos ⟨rfl, rfl⟩], (upI_ne (Or.inr (by decide))).trans hs.2.1, (upI_ne (Or.inr (by decide))).trans hs.2.2.1, (upI_ne (Or.inl (by decide))).trans hs.2.2.2⟩ (fun c j hc => upI_ne (Or.inl (by omega)))⟩
  -- a fault: the end
  have Jbad : ∀ (iv' : Iv) (lv : Lv) (z j : Nat), SI sp σ iv' → RS iv' z (nI (lf t n i2 p0).1) (nI (lf t n i2 p0).2) (r + 1) → z ≤ n → ¬ (lf t n i2 p0).1 = 0 → (lf t n i2 p0).1 < 3 → DF iv iv' (fun _ j => j = r) → Z 106 [some (rf g 541), some (.int (nI i2)), some (.int (nI r)), some (rs g (shp i2)), some (.int (nI j))] [] iv' lv := by
    intro iv' lv z j hG hs hz hl hl3 hd
    refine z_aloadnR zh dX6_readLine_106 rfl ?_
    refine z_callVV zh mv_Reader_40 dX6_readLine_107 ck_R rfl (h_X6_skipBlanks g hT hG (by omega) hs) ⟨Nat.le_of_ble_eq_true rfl, Nat.le_of_ble_eq_true rfl⟩ rfl rfl (Nat.le_of_ble_eq_true rfl) ?_
    rintro iv4 lv ⟨hG4, hs4, hd4⟩
    have hz4 : re bl t n z ≤ n := re_le hz
    refine z_aloadnR zh dX6_readLine_110 rfl ?_
    refine z_getI (x := nI (lf t n i2 p0).1) zh fl_Reader_31 dX6_readLine_111 ck_R rfl rfl hs4.2.1 ?_
    refine z_if_ne (tgt := 135) zh dX6_readLine_114 rfl (fun _ => ?_) (fun w => absurd w (nz_nI (by omega) hl))
    exact J135 iv4 lv _ j _ _ _ hG4 hs4 (by omega) (fun iv5 h5 d5 => ⟨fun c j hc w => (d5 c j hc).trans ((hd4 c j hc (fun z => z)).trans (hd c j hc w)), fun w => absurd w hl, fun _ => ⟨_, by omega, h5⟩⟩)
  -- all numbers stand there
  have Jok : ∀ (iv' : Iv) (lv : Lv) (j : Nat), SI sp σ iv' → RS iv' (pl t n p0 (mn i2)) (nI 0) (-1) (r + 1) → (∀ a, a < mn i2 → nf t n (np t n p0 a) (lo_b i2 a) (hi_b i2 a) = 0) → iv' 545 r = nI i2 → (∀ a, a < mn i2 → iv' (545 + (a + 1)) r = dv t (np t n p0 a) (re dg t n (np t n p0 a) - np t n p0 a)) → DF iv iv' (fun _ j => j = r) → Z 106 [some (rf g 541), some (.int (nI i2)), some (.int (nI r)), some (rs g (shp i2)), some (.int (nI j))] [] iv' lv := by
    intro iv' lv j hG hs hall hk' hv hd
    have hple := pl_le (t := t) hp0 (mn i2)
    refine z_aloadnR zh dX6_readLine_106 rfl ?_
    refine z_callVV zh mv_Reader_40 dX6_readLine_107 ck_R rfl (h_X6_skipBlanks g hT hG (by omega) hs) ⟨Nat.le_of_ble_eq_true rfl, Nat.le_of_ble_eq_true rfl⟩ rfl rfl (Nat.le_of_ble_eq_true rfl) ?_
    rw [pl_np]
    rintro iv4 lv ⟨hG4, hs4, hd4⟩
    have hz4 := np_le (t := t) hp0 (mn i2)
    have hlf := lf_end hall
    refine z_aloadnR zh dX6_readLine_110 rfl ?_
    refine z_getI (x := nI 0) zh fl_Reader_31 dX6_readLine_111 ck_R rfl rfl hs4.2.1 ?_
    refine z_if_ne (tgt := 135) zh dX6_readLine_114 rfl (fun w => absurd nI_0 w) (fun _ => ?_)
    refine z_aloadnR zh dX6_readLine_117 rfl ?_
    refine z_aloadnR zh dX6_readLine_118 rfl ?_
    refine z_getI (x := nI (np t n p0 (mn i2))) zh fl_Reader_28 dX6_readLine_119 ck_R rfl rfl hs4.1 ?_
    refine z_callVIp zh mv_Reader_80 dX6_readLine_122 ck_R rfl (h_X6_here g hT hG4 (by omega)) ⟨Nat.le_of_ble_eq_true rfl, Nat.le_of_ble_eq_true rfl⟩ rfl rfl (Nat.le_of_ble_eq_true rfl) ?_
    refine z_bipush zh dX6_readLine_125 kb_59 ?_
    refine z_icmp_eq (tgt := 135) zh dX6_readLine_127 rfl (fun q => ?_) (fun q => ?_)
    · have h1 := hlf.trans (lfF_0y q)
      have hlt : np t n p0 (mn i2) < n := Nat.lt_of_not_le (fun w => absurd q (by rw [hr_ge w]; decide))
      exact J135 iv4 lv _ j _ _ _ hG4 hs4 (by omega) (fun iv5 h5 d5 => ⟨fun c j hc w => (d5 c j hc).trans ((hd4 c j hc (fun z => z)).trans (hd c j hc w)), fun _ => ⟨h5, hlt, ((d5 0 r (by decide)).trans (hd4 0 r (by decide) (fun z => z))).trans hk', fun i hi9 => ((d5 (i + 1) r (by omega)).trans (hd4 (i + 1) r (by omega) (fun z => z))).trans (hv i hi9)⟩, fun w => absurd (by rw [h1]) w⟩)
    · have h1 := hlf.trans (lfF_0n q)
      refine z_aloadnR zh dX6_readLine_130 rfl ?_
      refine z_iconst zh dX6_readLine_131 ki_1 ?_
      refine z_callVV zh mv_Reader_50 dX6_readLine_132 ck_R rfl (h_X6_failHere g hG4 hf hs4) ⟨Nat.le_of_ble_eq_true rfl, Nat.le_of_ble_eq_true rfl⟩ rfl rfl (Nat.le_of_ble_eq_true rfl) ?_
      rintro iv6 lv ⟨hG6, hs6, hd6⟩
      exact J135 iv6 lv _ j _ _ _ hG6 hs6 (by omega) (fun iv5 h5 d5 => ⟨fun c j hc w => (d5 c j hc).trans ((hd6 c j hc (fun z => z)).trans ((hd4 c j hc (fun z => z)).trans (hd c j hc w))), fun w => by rw [h1] at w; exact absurd (show (1 : Nat) = 0 from w) (by decide), fun _ => ⟨np t n p0 (mn i2) + 1, by omega, by rw [h1]; exact h5⟩⟩)
  have J : ∀ (q j : Nat) (iv' : Iv) (lv : Lv), j ≤ mn i2 → SI sp σ iv' → RS iv' (pl t n p0 j) (nI 0) (-1) (r + 1) → (∀ a, a < j → nf t n (np t n p0 a) (lo_b i2 a) (hi_b i2 a) = 0) → iv' 545 r = nI i2 → (∀ a, a < j → iv' (545 + (a + 1)) r = dv t (np t n p0 a) (re dg t n (np t n p0 a) - np t n p0 a)) → DF iv iv' (fun _ j => j = r) → mn i2 - j < q → Z 69 [some (rf g 541), some (.int (nI i2)), some (.int (nI r)), some (rs g (shp i2)), some (.int (nI j))] [] iv' lv := by
    intro q
    induction q with
    | zero => intro j iv' lv _ _ _ _ _ _ _ hm; omega
    | succ q ih =>
      intro j iv' lv hj hG hs hall hk' hv hd hm
      refine z_iload zh dX6_readLine_69 rfl ?_
      refine z_aloadn zh dX6_readLine_71 rfl ?_
      refine z_callOp zh mo_Reader_65 dX6_readLine_72 hshp.2 (j_len hshp.2) ⟨Nat.le_of_ble_eq_true rfl, Nat.le_of_ble_eq_true rfl⟩ rfl rfl (Nat.le_of_ble_eq_true rfl) ?_
      rw [hshp.1]
      refine z_icmp_ge_N (tgt := 106) zh (by omega) (by omega) dX6_readLine_75 rfl (fun q1 => ?_) (fun q1 => ?_)
      · have ej : j = mn i2 := by omega
        subst ej
        exact Jok iv' lv _ hG hs hall hk' hv hd
      refine z_aloadnR zh dX6_readLine_78 rfl ?_
      refine z_getI (x := nI 0) zh fl_Reader_31 dX6_readLine_79 ck_R rfl rfl hs.2.1 ?_
      refine z_if_ne (tgt := 106) zh dX6_readLine_82 rfl (fun w => absurd nI_0 w) (fun _ => ?_)
      refine z_aloadnR zh dX6_readLine_85 rfl ?_
      refine z_iloadn zh dX6_readLine_86 rfl ?_
      refine z_iload zh dX6_readLine_87 rfl ?_
      refine z_iconst zh dX6_readLine_89 ki_1 ?_
      refine z_iaddN zh dX6_readLine_90 ?_
      refine z_aloadn zh dX6_readLine_91 rfl ?_
      refine z_iload zh dX6_readLine_92 rfl ?_
      refine z_callOp zh mo_Reader_72 dX6_readLine_94 hshp.2 (j_cha hshp.2 (by rw [hshp.1]; exact q1)) ⟨Nat.le_of_ble_eq_true rfl, Nat.le_of_ble_eq_true rfl⟩ rfl rfl (Nat.le_of_ble_eq_true rfl) ?_
      refine z_callVV zh mv_Reader_76 dX6_readLine_97 ck_R rfl (h_X6_readNumber g hT hf hG (pl_le hp0 j) hs (c := j + 1) (r := r) (by omega) (by omega) (by omega) (srt_at i2 hk9 j q1)) ⟨Nat.le_of_ble_eq_true rfl, Nat.le_of_ble_eq_true rfl⟩ rfl rfl (Nat.le_of_ble_eq_true rfl) ?_
      rw [pl_np]
      rintro iv4 lv ⟨hG4, hd4, hok4, hbad4⟩
      have hd5 : DF iv iv4 (fun _ j => j = r) := df_t hd (df_w hd4 (fun _ _ z => z.2))
      refine z_iincN (b := 1) zh dX6_readLine_100 (by decide +kernel) (by decide) rfl (L' := [some (rf g 541), some (.int (nI i2)), some (.int (nI r)), some (rs g (shp i2)), some (.int (nI (j + 1)))]) rfl ?_
      refine z_goto (tgt := 69) zh dX6_readLine_103 rfl ?_
      by_cases h0 : nf t n (np t n p0 j) (lo_b i2 j) (hi_b i2 j) = 0
      · obtain ⟨hs5, hv5⟩ := hok4 h0
        refine ih (j + 1) iv4 lv (by omega) hG4 hs5 (fun a ha => ?_) ((hd4 0 r (by decide) (by omega)).trans hk') (fun a ha => ?_) hd5 (by omega)
        · by_cases w : a = j
          · subst w; exact h0
          · exact hall a (by omega)
        · by_cases w : a = j
          · subst w; exact hv5
          · exact (hd4 (a + 1) r (by omega) (by omega)).trans (hv a (by omega))
      · have hs5 := hbad4 h0
        have hl := lf_bad q1 hall h0
        have h12 := nf_12 (t := t) (n := n) (q := np t n p0 j) (a := lo_b i2 j) (b := hi_b i2 j)
        refine z_iload zh dX6_readLine_69 rfl ?_
        refine z_aloadn zh dX6_readLine_71 rfl ?_
        refine z_callOp zh mo_Reader_65 dX6_readLine_72 hshp.2 (j_len hshp.2) ⟨Nat.le_of_ble_eq_true rfl, Nat.le_of_ble_eq_true rfl⟩ rfl rfl (Nat.le_of_ble_eq_true rfl) ?_
        have hjb : ∀ (lv : Lv), Z 106 [some (rf g 541), some (.int (nI i2)), some (.int (nI r)), some (rs g (shp i2)), some (.int (nI (j + 1)))] [] iv4 lv := fun lv => Jbad iv4 lv _ _ hG4 (by rw [hl]; exact hs5) (re_le (np_le hp0 j)) (by rw [hl]; exact h0) (by rw [hl]; show nf t n (np t n p0 j) (lo_b i2 j) (hi_b i2 j) < 3; omega) hd5
        refine z_icmp_ge (tgt := 106) zh dX6_readLine_75 rfl (fun _ => hjb lv) (fun _ => ?_)
        refine z_aloadnR zh dX6_readLine_78 rfl ?_
        refine z_getI zh fl_Reader_31 dX6_readLine_79 ck_R rfl rfl hs5.2.1 ?_
        exact z_if_ne (tgt := 106) zh dX6_readLine_82 rfl (fun _ => hjb lv) (fun w => absurd w (nz_nI (by omega) h0))
  exact J (mn i2 + 1) 0 iv3 lv (by omega) hG hs3 (fun a ha => by omega) hk3 (fun a ha => by omega) hd3 (by omega)
