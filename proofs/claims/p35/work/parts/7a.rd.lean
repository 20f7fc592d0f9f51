/-! READING A PLAN: the class's reader, told exactly -/
/-- the tape lies so, and stays -/
def TL (sp : Nat → Nat → Bool) (σ : Iv) (t : Nat → Int32) (n : Nat) : Prop := n ≤ 400 ∧ sp 541 1 = true ∧ σ 541 1 = nI n ∧ (∀ j, sp 542 j = true) ∧ (∀ j, j < n → σ 542 j = t j)
theorem tl_n {sp : Nat → Nat → Bool} {σ iv : Iv} {t : Nat → Int32} {n : Nat} (hT : TL sp σ t n) (hG : SI sp σ iv) : iv 541 1 = nI n := (si_s hG hT.2.1).trans hT.2.2.1
theorem tl_t {sp : Nat → Nat → Bool} {σ iv : Iv} {t : Nat → Int32} {n j : Nat} (hT : TL sp σ t n) (hG : SI sp σ iv) (hj : j < n) : iv 542 j = t j := (si_s hG (hT.2.2.2.1 j)).trans (hT.2.2.2.2 j hj)
/-- the reader's own cells -/
def RS (iv : Iv) (p : Nat) (f fp : Int32) (m : Nat) : Prop := iv 541 3 = nI p ∧ iv 541 4 = f ∧ iv 541 5 = fp ∧ iv 543 2 = nI m
/-- of the draft only such cells changed -/
def DF (iv iv' : Iv) (P : Nat → Nat → Prop) : Prop := ∀ c j : Nat, c < 6 → ¬ P c j → iv' (545 + c) j = iv (545 + c) j
def NoP (_ _ : Nat) : Prop := False
theorem dfz_0 {iv : Iv} {P : Nat → Nat → Prop} : DF iv iv P := fun _ _ _ _ => rfl
theorem df_t {iv iv' iv2 : Iv} {P : Nat → Nat → Prop} (h : DF iv iv' P) (h2 : DF iv' iv2 P) : DF iv iv2 P := fun c j hc q => (h2 c j hc q).trans (h c j hc q)
theorem df_w {iv iv' : Iv} {P P' : Nat → Nat → Prop} (h : DF iv iv' P) (w : ∀ c j, P c j → P' c j) : DF iv iv' P' := fun c j hc q => h c j hc (fun z => q (w c j z))
theorem df_n {iv iv' : Iv} {P : Nat → Nat → Prop} (h : DF iv iv' NoP) : DF iv iv' P := df_w h (fun _ _ z => z.elim)
theorem rs_r {p : Nat} (h : p ≤ 401) : Ra 0 401 (nI p) := ⟨by rw [nI_toInt (by omega)]; omega, by rw [nI_toInt (by omega)]; omega⟩
/-- what the reader may write -/
def Rf (sp : Nat → Nat → Bool) : Prop := sp 541 4 = false ∧ sp 541 5 = false ∧ sp 543 2 = false ∧ ∀ c j, c < 6 → sp (545 + c) j = false
theorem h_X6_here (g : GE) {sp : Nat → Nat → Bool} {σ iv : Iv} {lv : Lv} {t : Nat → Int32} {n p : Nat} (hT : TL sp σ t n) (hG : SI sp σ iv) (hp : p < 2 ^ 31) : ConIp g yX6_here cX6_here 2 (some .int) 1 [rf g 541, .int (nI p)] iv lv (hr t n p) := by
  refine con_intro (own := "RollingNets$Reader") (by decide +kernel) rfl (Nat.le_of_ble_eq_true rfl) (L0 := [some (rf g 541), some (.int (nI p))]) rfl (fun Z zh => ?_)
  have hn := hT.1
  refine z_iloadn zh dX6_here_0 rfl ?_
  refine z_if_lt_N (tgt := 21) zh hp dX6_here_1 rfl ?_
  refine z_iloadn zh dX6_here_4 rfl ?_
  refine z_aloadnR zh dX6_here_5 rfl ?_
  refine z_getI (x := nI n) zh fl_Reader_15 dX6_here_6 ck_R rfl rfl (tl_n hT hG) ?_
  refine z_icmp_ge_N (tgt := 21) zh hp (by omega) dX6_here_9 rfl (fun q => ?_) (fun q => ?_)
  · refine z_iconst zh dX6_here_21 ki_m1 ?_
    exact z_iret zh dX6_here_22 (qI (hr_ge q).symm)
  · refine z_aloadnR zh dX6_here_12 rfl ?_
    refine z_getf zh fl_Reader_9 dX6_here_13 ck_R rfl rfl ?_
    refine z_iloadn zh dX6_here_16 rfl ?_
    refine z_ialdE (x := t p) zh ck_tape dX6_here_17 (by omega) (tl_t hT hG q) ?_
    refine z_goto (tgt := 22) zh dX6_here_18 rfl ?_
    exact z_iret zh dX6_here_22 (qI (hr_lt q).symm)
set_option maxHeartbeats 1000000 in
set_option maxRecDepth 20000 in
theorem h_X6_skipBlanks (g : GE) {sp : Nat → Nat → Bool} {σ iv : Iv} {lv : Lv} {t : Nat → Int32} {n p m : Nat} {f fp : Int32} (hT : TL sp σ t n) (hG : SI sp σ iv) (hp : p ≤ 401) (hs : RS iv p f fp m) : ConV g yX6_skipBlanks cX6_skipBlanks 1 none 2 [rf g 541] iv lv (fun iv' lv' => SI sp σ iv' ∧ RS iv' (re bl t n p) f fp m ∧ DF iv iv' NoP) := by
  obtain ⟨R, eR⟩ : ∃ R, R = re bl t n p := ⟨_, rfl⟩
  rw [← eR]
  refine con_intro (own := "RollingNets$Reader") (by decide +kernel) rfl (Nat.le_of_ble_eq_true rfl) (L0 := [some (rf g 541)]) rfl (fun Z zh => ?_)
  have hn := hT.1
  have J : ∀ (q p : Nat) (iv' : Iv) (lv : Lv), SI sp σ iv' → p ≤ 401 → RS iv' p f fp m → DF iv iv' NoP → R = re bl t n p → n - p < q → Z 0 [some (rf g 541)] [] iv' lv := by
    intro q
    induction q with
    | zero => intro p iv' lv _ _ _ _ _ hm; omega
    | succ q ih =>
      intro p iv' lv hG hp hs hd e hm
      have hdone : ∀ lv, ¬ bl (hr t n p) → Z 50 [some (rf g 541)] [] iv' lv := fun lv w => z_vret zh dX6_skipBlanks_50 ⟨rfl, hG, by rw [e, re_stop w]; exact hs, hd⟩
      refine z_aloadnR zh dX6_skipBlanks_0 rfl ?_
      refine z_getI (x := nI p) zh fl_Reader_28 dX6_skipBlanks_1 ck_R rfl rfl hs.1 ?_
      refine z_aloadnR zh dX6_skipBlanks_4 rfl ?_
      refine z_getI (x := nI n) zh fl_Reader_15 dX6_skipBlanks_5 ck_R rfl rfl (tl_n hT hG) ?_
      refine z_icmp_ge_N (tgt := 50) zh (by omega) (by omega) dX6_skipBlanks_8 rfl (fun q2 => hdone lv (by rw [hr_ge q2]; exact bl_m)) (fun q2 => ?_)
      have J37 : bl (hr t n p) → Z 37 [some (rf g 541)] [] iv' lv := by
        intro hb
        refine z_aloadnR zh dX6_skipBlanks_37 rfl ?_
        refine z_dup zh dX6_skipBlanks_38 rfl ?_
        refine z_getI (x := nI p) zh fl_Reader_28 dX6_skipBlanks_39 ck_R rfl rfl hs.1 ?_
        refine z_iconst zh dX6_skipBlanks_42 ki_1 ?_
        refine z_iaddN zh dX6_skipBlanks_43 ?_
        refine z_putI zh fl_Reader_28 dX6_skipBlanks_44 ck_R rfl rfl (Nat.le_of_ble_eq_true rfl) (Or.inl rfl) ?_
        refine z_goto (tgt := 0) zh dX6_skipBlanks_47 rfl ?_
        refine ih (p + 1) _ lv (si_pl hG (rs_r (by omega))) (by omega) ⟨by rw [upI_at, if_pos ⟨rfl, rfl⟩], (upI_ne (Or.inr (by decide))).trans hs.2.1, (upI_ne (Or.inr (by decide))).trans hs.2.2.1, (upI_ne (Or.inl (by decide))).trans hs.2.2.2⟩ (fun c j hc w => (upI_ne (Or.inl (by omega))).trans (hd c j hc w)) (e.trans (re_step bl_m hb)) (by omega)
      refine z_aloadnR zh dX6_skipBlanks_11 rfl ?_
      refine z_aloadnR zh dX6_skipBlanks_12 rfl ?_
      refine z_getI (x := nI p) zh fl_Reader_28 dX6_skipBlanks_13 ck_R rfl rfl hs.1 ?_
      refine z_callVIp zh mv_Reader_80 dX6_skipBlanks_16 ck_R rfl (h_X6_here g hT hG (by omega)) ⟨Nat.le_of_ble_eq_true rfl, Nat.le_of_ble_eq_true rfl⟩ rfl rfl (Nat.le_of_ble_eq_true rfl) ?_
      refine z_bipush zh dX6_skipBlanks_19 kb_32 ?_
      refine z_icmp_eq (tgt := 37) zh dX6_skipBlanks_21 rfl (fun h1 => J37 (Or.inl h1)) (fun h1 => ?_)
      refine z_aloadnR zh dX6_skipBlanks_24 rfl ?_
      refine z_aloadnR zh dX6_skipBlanks_25 rfl ?_
      refine z_getI (x := nI p) zh fl_Reader_28 dX6_skipBlanks_26 ck_R rfl rfl hs.1 ?_
      refine z_callVIp zh mv_Reader_80 dX6_skipBlanks_29 ck_R rfl (h_X6_here g hT hG (by omega)) ⟨Nat.le_of_ble_eq_true rfl, Nat.le_of_ble_eq_true rfl⟩ rfl rfl (Nat.le_of_ble_eq_true rfl) ?_
      refine z_bipush zh dX6_skipBlanks_32 kb_10 ?_
      exact z_icmp_ne (tgt := 50) zh dX6_skipBlanks_34 rfl (fun h2 => hdone lv (fun w => w.elim h1 h2)) (fun h2 => J37 (Or.inr h2))
  exact J (n - p + 1) p iv lv hG hp hs dfz_0 eR (by omega)
theorem h_X6_failHere (g : GE) {sp : Nat → Nat → Bool} {σ iv : Iv} {lv : Lv} {p m : Nat} {a1 f fp : Int32} (hG : SI sp σ iv) (hf : Rf sp) (hs : RS iv p f fp m) : ConV g yX6_failHere cX6_failHere 2 none 1 [rf g 541, .int a1] iv lv (fun iv' lv' => SI sp σ iv' ∧ RS iv' p a1 (nI p) m ∧ DF iv iv' NoP) := by
  refine con_intro (own := "RollingNets$Reader") (by decide +kernel) rfl (Nat.le_of_ble_eq_true rfl) (L0 := [some (rf g 541), some (.int a1)]) rfl (fun Z zh => ?_)
  refine z_aloadnR zh dX6_failHere_0 rfl ?_
  refine z_iloadn zh dX6_failHere_1 rfl ?_
  refine z_putI zh fl_Reader_31 dX6_failHere_2 ck_R rfl rfl (Nat.le_of_ble_eq_true rfl) (Or.inl rfl) ?_
  have hG1 : SI sp σ (upI iv 541 4 a1) := si_w (k := 541) (j := 4) hG (by decide) (by decide) hf.1 (rx_none rfl)
  have ep1 : upI iv 541 4 a1 541 3 = nI p := (upI_ne (Or.inr (by decide))).trans hs.1
  refine z_aloadnR zh dX6_failHere_5 rfl ?_
  refine z_aloadnR zh dX6_failHere_6 rfl ?_
  refine z_getI (x := nI p) zh fl_Reader_28 dX6_failHere_7 ck_R rfl rfl ep1 ?_
  refine z_putI zh fl_Reader_34 dX6_failHere_10 ck_R rfl rfl (Nat.le_of_ble_eq_true rfl) (Or.inl rfl) ?_
  exact z_vret zh dX6_failHere_13 ⟨rfl, si_w (k := 541) (j := 5) hG1 (by decide) (by decide) hf.2.1 (rx_none rfl), ⟨(upI_ne (Or.inr (by decide))).trans ep1, (upI_ne (Or.inr (by decide))).trans (by rw [upI_at, if_pos ⟨rfl, rfl⟩]), by rw [upI_at, if_pos ⟨rfl, rfl⟩], (upI_ne (Or.inl (by decide))).trans ((upI_ne (Or.inl (by decide))).trans hs.2.2.2)⟩, fun c j hc _ => (upI_ne (Or.inl (by omega))).trans (upI_ne (Or.inl (by omega)))⟩
set_option maxRecDepth 20000 in
theorem h_X6_isLetter (g : GE) {iv : Iv} {lv : Lv} {a1 : Int32}    : ConI g yX6_isLetter cX6_isLetter 1 (some .boolean) 2 [.int a1] iv lv (fun r iv' lv' => iv = iv' ∧ lv = lv' ∧ (r = 0 ↔ ¬ ltr a1)) := by
  refine con_intro (own := "RollingNets$Reader") (by decide +kernel) rfl (Nat.le_of_ble_eq_true rfl) (L0 := [some (.int a1)]) rfl (fun Z zh => ?_)
  refine z_iloadn zh dX6_isLetter_0 rfl ?_
  refine z_bipush zh dX6_isLetter_1 kb_97 ?_
  refine z_bipush zh dX6_isLetter_3 kb_122 ?_
  refine z_callSI zh ms_Reader_84 dX6_isLetter_5 (t_X8_within g) ⟨Nat.le_of_ble_eq_true rfl, Nat.le_of_ble_eq_true rfl⟩ rfl rfl (Nat.le_of_ble_eq_true rfl) ?_
  rintro x1 _ _ ⟨rfl, rfl, hx1, hz2, hw1⟩
  refine z_if_ne (tgt := 22) zh dX6_isLetter_8 rfl (fun q3 => ?_) (fun q3 => ?_)
  · have r4 : Ra 1 1 x1 := rb_ne_lo hx1 ra_z q3 (by decide)
    have r5 : Ra 97 122 a1 := (rb_in rl_97 rl_122 (hz2 q3))
    refine z_iconst zh dX6_isLetter_22 ki_1 ?_
    refine z_goto (tgt := 27) zh dX6_isLetter_23 rfl ?_
    exact z_zret zh dX6_isLetter_27 (ra_01 (ra_w rl_1 (by decide) (by decide))) ⟨_, rfl, rfl, rfl, fun w => absurd w (by decide), fun w => absurd (Or.inl (byc (mt hw1.mpr q3))) w⟩
  · have r6 := rb_eq (u := 0) (v := 0) hx1 ra_z q3 (by decide) (by decide)
    refine z_iloadn zh dX6_isLetter_11 rfl ?_
    refine z_bipush zh dX6_isLetter_12 kb_65 ?_
    refine z_bipush zh dX6_isLetter_14 kb_90 ?_
    refine z_callSI zh ms_Reader_84 dX6_isLetter_16 (t_X8_within g) ⟨Nat.le_of_ble_eq_true rfl, Nat.le_of_ble_eq_true rfl⟩ rfl rfl (Nat.le_of_ble_eq_true rfl) ?_
    rintro x7 _ _ ⟨rfl, rfl, hx7, hz8, hw7⟩
    refine z_if_eq (tgt := 26) zh dX6_isLetter_19 rfl (fun q9 => ?_) (fun q9 => ?_)
    · have r10 := rb_eq (u := 0) (v := 0) hx7 ra_z q9 (by decide) (by decide)
      refine z_iconst zh dX6_isLetter_26 ki_0 ?_
      exact z_zret zh dX6_isLetter_27 (ra_01 (ra_w rl_0 (by decide) (by decide))) ⟨_, rfl, rfl, rfl, fun _ w => w.elim (hw1.mp q3) (hw7.mp q9), fun _ => rfl⟩
    · have r11 : Ra 1 1 x7 := rb_ne_lo hx7 ra_z q9 (by decide)
      have r12 : Ra 65 90 a1 := (rb_in rl_65 rl_90 (hz8 q9))
      refine z_iconst zh dX6_isLetter_22 ki_1 ?_
      refine z_goto (tgt := 27) zh dX6_isLetter_23 rfl ?_
      exact z_zret zh dX6_isLetter_27 (ra_01 (ra_w rl_1 (by decide) (by decide))) ⟨_, rfl, rfl, rfl, fun w => absurd w (by decide), fun w => absurd (Or.inr (byc (mt hw7.mpr q9))) w⟩
/-- a sort's letter, least and most -/
def srtL : List (Int32 × Nat × Nat) := [(nI 77, 0, 11), (nI 73, 0, 5), (nI 78, 1, 9999), (nI 80, 1, 9999), (nI 82, 0, 9), (nI 90, 0, 9999), (nI 84, 0, 199), (nI 75, 1, 20)]
def shp (k : Nat) : Nat := ([10, 10, 11, 11, 11, 12, 13, 14, 15, 16] : List Nat).getD k 0
theorem srt_at : ∀ k, k < 10 → ∀ i, i < mn k → ((sTx (shp k)).getD i 0, lo_b k i, hi_b k i) ∈ srtL := by decide +kernel
theorem shp_mn : ∀ k, k < 10 → (sTx (shp k)).length = mn k ∧ shp k < 17 := by decide +kernel
theorem srt_b {x : Int32} {a b : Nat} (h : (x, a, b) ∈ srtL) : a ≤ 1 ∧ b ≤ 9999 := by
  simp only [srtL, List.mem_cons, Prod.mk.injEq, List.not_mem_nil, or_false] at h
  omega
set_option maxRecDepth 20000 in
theorem h_X6_leastOf (g : GE) {iv : Iv} {lv : Lv} {a1 : Int32}  {a b : Nat} (h : (a1, a, b) ∈ srtL)  : ConIp g yX6_leastOf cX6_leastOf 1 (some .int) 1 [.int a1] iv lv (nI a) := by
  refine con_intro (own := "RollingNets$Reader") (by decide +kernel) rfl (Nat.le_of_ble_eq_true rfl) (L0 := [some (.int a1)]) rfl (fun Z zh => ?_)
  simp only [srtL, List.mem_cons, Prod.mk.injEq, List.not_mem_nil, or_false] at h
  refine z_iloadn zh dX6_leastOf_0 rfl ?_
  refine z_bipush zh dX6_leastOf_1 kb_78 ?_
  refine z_icmp_eq (tgt := 18) zh dX6_leastOf_3 rfl (fun q1 => ?_) (fun q1 => ?_)
  · refine z_iconst zh dX6_leastOf_18 ki_1 ?_
    refine z_goto (tgt := 23) zh dX6_leastOf_19 rfl ?_
    exact z_iret zh dX6_leastOf_23 (qI (by subst q1; rcases h with ⟨h, rfl, rfl⟩ | ⟨h, rfl, rfl⟩ | ⟨h, rfl, rfl⟩ | ⟨h, rfl, rfl⟩ | ⟨h, rfl, rfl⟩ | ⟨h, rfl, rfl⟩ | ⟨h, rfl, rfl⟩ | ⟨h, rfl, rfl⟩ <;> first | rfl | exact absurd h (by decide)))
  · refine z_iloadn zh dX6_leastOf_6 rfl ?_
    refine z_bipush zh dX6_leastOf_7 kb_80 ?_
    refine z_icmp_eq (tgt := 18) zh dX6_leastOf_9 rfl (fun q3 => ?_) (fun q3 => ?_)
    · refine z_iconst zh dX6_leastOf_18 ki_1 ?_
      refine z_goto (tgt := 23) zh dX6_leastOf_19 rfl ?_
      exact z_iret zh dX6_leastOf_23 (qI (by subst q3; rcases h with ⟨h, rfl, rfl⟩ | ⟨h, rfl, rfl⟩ | ⟨h, rfl, rfl⟩ | ⟨h, rfl, rfl⟩ | ⟨h, rfl, rfl⟩ | ⟨h, rfl, rfl⟩ | ⟨h, rfl, rfl⟩ | ⟨h, rfl, rfl⟩ <;> first | rfl | exact absurd h (by decide)))
    · refine z_iloadn zh dX6_leastOf_12 rfl ?_
      refine z_bipush zh dX6_leastOf_13 kb_75 ?_
      refine z_icmp_ne (tgt := 22) zh dX6_leastOf_15 rfl (fun q5 => ?_) (fun q5 => ?_)
      · refine z_iconst zh dX6_leastOf_22 ki_0 ?_
        exact z_iret zh dX6_leastOf_23 (qI (by rcases h with ⟨rfl, rfl, rfl⟩ | ⟨rfl, rfl, rfl⟩ | ⟨rfl, rfl, rfl⟩ | ⟨rfl, rfl, rfl⟩ | ⟨rfl, rfl, rfl⟩ | ⟨rfl, rfl, rfl⟩ | ⟨rfl, rfl, rfl⟩ | ⟨rfl, rfl, rfl⟩ <;> first | rfl | exact absurd rfl q1 | exact absurd rfl q3 | exact absurd rfl q5))
      · refine z_iconst zh dX6_leastOf_18 ki_1 ?_
        refine z_goto (tgt := 23) zh dX6_leastOf_19 rfl ?_
        exact z_iret zh dX6_leastOf_23 (qI (by subst q5; rcases h with ⟨h, rfl, rfl⟩ | ⟨h, rfl, rfl⟩ | ⟨h, rfl, rfl⟩ | ⟨h, rfl, rfl⟩ | ⟨h, rfl, rfl⟩ | ⟨h, rfl, rfl⟩ | ⟨h, rfl, rfl⟩ | ⟨h, rfl, rfl⟩ <;> first | rfl | exact absurd h (by decide)))
set_option maxHeartbeats 1000000 in
set_option maxRecDepth 20000 in
theorem h_X6_mostOf (g : GE) {iv : Iv} {lv : Lv} {a1 : Int32} {a b : Nat} (h : (a1, a, b) ∈ srtL) : ConIp g yX6_mostOf cX6_mostOf 1 (some .int) 1 [.int a1] iv lv (nI b) := by
  refine con_intro (own := "RollingNets$Reader") (by decide +kernel) rfl (Nat.le_of_ble_eq_true rfl) (L0 := [some (.int a1)]) rfl (fun Z zh => ?_)
  refine z_iloadn zh dX6_mostOf_0 rfl ?_
  simp only [srtL, List.mem_cons, Prod.mk.injEq, List.not_mem_nil, or_false] at h
  rcases h with ⟨rfl, rfl, rfl⟩ | ⟨rfl, rfl, rfl⟩ | ⟨rfl, rfl, rfl⟩ | ⟨rfl, rfl, rfl⟩ | ⟨rfl, rfl, rfl⟩ | ⟨rfl, rfl, rfl⟩ | ⟨rfl, rfl, rfl⟩ | ⟨rfl, rfl, rfl⟩
  · refine z_tabIn (off := 63) (tgt := 64) zh dX6_mostOf_1 (by decide) (by decide) (by decide +kernel) rfl ?_
    refine z_bipush zh dX6_mostOf_64 kb_11 ?_
    exact z_iret zh dX6_mostOf_66 (qI rfl)
  · refine z_tabIn (off := 66) (tgt := 67) zh dX6_mostOf_1 (by decide) (by decide) (by decide +kernel) rfl ?_
    refine z_iconst zh dX6_mostOf_67 ki_5 ?_
    exact z_iret zh dX6_mostOf_68 (qI rfl)
  · refine z_tabIn (off := 78) (tgt := 79) zh dX6_mostOf_1 (by decide) (by decide) (by decide +kernel) rfl ?_
    refine z_sipush zh dX6_mostOf_79 ks_9999 ?_
    exact z_iret zh dX6_mostOf_82 (qI rfl)
  · refine z_tabIn (off := 78) (tgt := 79) zh dX6_mostOf_1 (by decide) (by decide) (by decide +kernel) rfl ?_
    refine z_sipush zh dX6_mostOf_79 ks_9999 ?_
    exact z_iret zh dX6_mostOf_82 (qI rfl)
  · refine z_tabIn (off := 68) (tgt := 69) zh dX6_mostOf_1 (by decide) (by decide) (by decide +kernel) rfl ?_
    refine z_bipush zh dX6_mostOf_69 kb_9 ?_
    exact z_iret zh dX6_mostOf_71 (qI rfl)
  · refine z_tabOut (tgt := 79) zh dX6_mostOf_1 (by decide) rfl ?_
    refine z_sipush zh dX6_mostOf_79 ks_9999 ?_
    exact z_iret zh dX6_mostOf_82 (qI rfl)
  · refine z_tabIn (off := 71) (tgt := 72) zh dX6_mostOf_1 (by decide) (by decide) (by decide +kernel) rfl ?_
    refine z_sipush zh dX6_mostOf_72 ks_199 ?_
    exact z_iret zh dX6_mostOf_75 (qI rfl)
  · refine z_tabIn (off := 75) (tgt := 76) zh dX6_mostOf_1 (by decide) (by decide) (by decide +kernel) rfl ?_
    refine z_bipush zh dX6_mostOf_76 kb_20 ?_
    exact z_iret zh dX6_mostOf_78 (qI rfl)
theorem h_X6_shapeOf (g : GE) {iv : Iv} {lv : Lv} {k : Nat} (hk : k < 10) : Con g yX6_shapeOf cX6_shapeOf 1 (some (.object "java/lang/String")) 1 [.int (nI k)] iv lv (fun v iv' lv' => ∃ i, v = some (rs g i) ∧ iv = iv' ∧ lv = lv' ∧ i = shp k) := by
  refine con_intro (own := "RollingNets$Reader") (by decide +kernel) rfl (Nat.le_of_ble_eq_true rfl) (L0 := [some (.int (nI k))]) rfl (fun Z zh => ?_)
  refine z_iloadn zh dX6_shapeOf_0 rfl ?_
  rcases (by omega : k = 0 ∨ k = 1 ∨ k = 2 ∨ k = 3 ∨ k = 4 ∨ k = 5 ∨ k = 6 ∨ k = 7 ∨ k = 8 ∨ k = 9) with rfl | rfl | rfl | rfl | rfl | rfl | rfl | rfl | rfl | rfl
  · refine z_tabIn (off := 51) (tgt := 52) zh dX6_shapeOf_1 (by decide) (by decide) (by decide +kernel) rfl ?_
    refine z_ldcS (i := 10) zh dX6_shapeOf_52 (by decide) rfl ?_
    exact z_sret zh dX6_shapeOf_54 ⟨10, rfl, rfl, rfl, rfl⟩
  · refine z_tabIn (off := 51) (tgt := 52) zh dX6_shapeOf_1 (by decide) (by decide) (by decide +kernel) rfl ?_
    refine z_ldcS (i := 10) zh dX6_shapeOf_52 (by decide) rfl ?_
    exact z_sret zh dX6_shapeOf_54 ⟨10, rfl, rfl, rfl, rfl⟩
  · refine z_tabIn (off := 54) (tgt := 55) zh dX6_shapeOf_1 (by decide) (by decide) (by decide +kernel) rfl ?_
    refine z_ldcS (i := 11) zh dX6_shapeOf_55 (by decide) rfl ?_
    exact z_sret zh dX6_shapeOf_57 ⟨11, rfl, rfl, rfl, rfl⟩
  · refine z_tabIn (off := 54) (tgt := 55) zh dX6_shapeOf_1 (by decide) (by decide) (by decide +kernel) rfl ?_
    refine z_ldcS (i := 11) zh dX6_shapeOf_55 (by decide) rfl ?_
    exact z_sret zh dX6_shapeOf_57 ⟨11, rfl, rfl, rfl, rfl⟩
  · refine z_tabIn (off := 54) (tgt := 55) zh dX6_shapeOf_1 (by decide) (by decide) (by decide +kernel) rfl ?_
    refine z_ldcS (i := 11) zh dX6_shapeOf_55 (by decide) rfl ?_
    exact z_sret zh dX6_shapeOf_57 ⟨11, rfl, rfl, rfl, rfl⟩
  · refine z_tabIn (off := 57) (tgt := 58) zh dX6_shapeOf_1 (by decide) (by decide) (by decide +kernel) rfl ?_
    refine z_ldcS (i := 12) zh dX6_shapeOf_58 (by decide) rfl ?_
    exact z_sret zh dX6_shapeOf_60 ⟨12, rfl, rfl, rfl, rfl⟩
  · refine z_tabIn (off := 60) (tgt := 61) zh dX6_shapeOf_1 (by decide) (by decide) (by decide +kernel) rfl ?_
    refine z_ldcS (i := 13) zh dX6_shapeOf_61 (by decide) rfl ?_
    exact z_sret zh dX6_shapeOf_63 ⟨13, rfl, rfl, rfl, rfl⟩
  · refine z_tabIn (off := 63) (tgt := 64) zh dX6_shapeOf_1 (by decide) (by decide) (by decide +kernel) rfl ?_
    refine z_ldcS (i := 14) zh dX6_shapeOf_64 (by decide) rfl ?_
    exact z_sret zh dX6_shapeOf_66 ⟨14, rfl, rfl, rfl, rfl⟩
  · refine z_tabIn (off := 66) (tgt := 67) zh dX6_shapeOf_1 (by decide) (by decide) (by decide +kernel) rfl ?_
    refine z_ldcS (i := 15) zh dX6_shapeOf_67 (by decide) rfl ?_
    exact z_sret zh dX6_shapeOf_69 ⟨15, rfl, rfl, rfl, rfl⟩
  · refine z_tabOut (tgt := 70) zh dX6_shapeOf_1 (by decide) rfl ?_
    refine z_ldcS (i := 16) zh dX6_shapeOf_70 (by decide) rfl ?_
    exact z_sret zh dX6_shapeOf_72 ⟨16, rfl, rfl, rfl, rfl⟩
set_option maxHeartbeats 1000000 in
set_option maxRecDepth 20000 in
theorem h_X6_isHere (g : GE) {sp : Nat → Nat → Bool} {σ iv : Iv} {lv : Lv} {t : Nat → Int32} {n p i : Nat} (hT : TL sp σ t n) (hG : SI sp σ iv) (hp : p ≤ 401) (ep : iv 541 3 = nI p) (hi : i < 10) : ConIp g yX6_isHere cX6_isHere 3 (some .boolean) 5 [rf g 541, rs g i] iv lv (bi (mtc t n p i)) := by
  refine con_intro (own := "RollingNets$Reader") (by decide +kernel) rfl (Nat.le_of_ble_eq_true rfl) (L0 := [some (rf g 541), some (rs g i), none]) rfl (fun Z zh => ?_)
  have h8 := wl_8 i (by omega)
  have hl : (sTx i).length = wl i := rfl
  refine z_iconst zh dX6_isHere_0 ki_0 ?_
  refine z_istoren zh dX6_isHere_1 (by decide) (L' := [some (rf g 541), some (rs g i), some (.int (nI 0))]) rfl ?_
  have J : ∀ (q j : Nat), j ≤ wl i → (∀ a, a < j → hr t n (p + a) = wc i a) → wl i - j < q → Z 2 [some (rf g 541), some (rs g i), some (.int (nI j))] [] iv lv := by
    intro q
    induction q with
    | zero => intro j _ _ hn; omega
    | succ q ih =>
      intro j hj hm hn
      refine z_iloadn zh dX6_isHere_2 rfl ?_
      refine z_aloadn zh dX6_isHere_3 rfl ?_
      refine z_callOp zh mo_Reader_65 dX6_isHere_4 (by omega) (j_len (by omega)) ⟨Nat.le_of_ble_eq_true rfl, Nat.le_of_ble_eq_true rfl⟩ rfl rfl (Nat.le_of_ble_eq_true rfl) ?_
      refine z_icmp_ge_N (tgt := 36) zh (by omega) (by omega) dX6_isHere_7 rfl (fun q1 => ?_) (fun q1 => ?_)
      · have ej : j = wl i := by omega
        subst ej
        refine z_aloadnR zh dX6_isHere_36 rfl ?_
        refine z_aloadnR zh dX6_isHere_37 rfl ?_
        refine z_getI (x := nI p) zh fl_Reader_28 dX6_isHere_38 ck_R rfl rfl ep ?_
        refine z_aloadn zh dX6_isHere_41 rfl ?_
        refine z_callOp zh mo_Reader_65 dX6_isHere_42 (by omega) (j_len (by omega)) ⟨Nat.le_of_ble_eq_true rfl, Nat.le_of_ble_eq_true rfl⟩ rfl rfl (Nat.le_of_ble_eq_true rfl) ?_
        refine z_iaddN zh dX6_isHere_45 ?_
        refine z_callVIp zh mv_Reader_80 dX6_isHere_46 ck_R rfl (h_X6_here g hT hG (by omega)) ⟨Nat.le_of_ble_eq_true rfl, Nat.le_of_ble_eq_true rfl⟩ rfl rfl (Nat.le_of_ble_eq_true rfl) ?_
        refine z_callSI zh ms_Reader_99 dX6_isHere_49 (h_X6_isLetter g) ⟨Nat.le_of_ble_eq_true rfl, Nat.le_of_ble_eq_true rfl⟩ rfl rfl (Nat.le_of_ble_eq_true rfl) ?_
        rintro b _ _ ⟨rfl, rfl, hb⟩
        refine z_if_ne (tgt := 59) zh dX6_isHere_52 rfl (fun q3 => ?_) (fun q3 => ?_)
        · refine z_iconst zh dX6_isHere_59 ki_0 ?_
          exact z_zret zh dX6_isHere_60 (Or.inl rfl) (qI (bi_f (fun w => q3 (hb.mpr w.2))).symm)
        · refine z_iconst zh dX6_isHere_55 ki_1 ?_
          refine z_goto (tgt := 60) zh dX6_isHere_56 rfl ?_
          exact z_zret zh dX6_isHere_60 (Or.inr rfl) (qI (bi_t ⟨hm, hb.mp q3⟩).symm)
      · have hj1 : j < (sTx i).length := q1
        refine z_aloadnR zh dX6_isHere_10 rfl ?_
        refine z_aloadnR zh dX6_isHere_11 rfl ?_
        refine z_getI (x := nI p) zh fl_Reader_28 dX6_isHere_12 ck_R rfl rfl ep ?_
        refine z_iloadn zh dX6_isHere_15 rfl ?_
        refine z_iaddN zh dX6_isHere_16 ?_
        refine z_callVIp zh mv_Reader_80 dX6_isHere_17 ck_R rfl (h_X6_here g hT hG (by omega)) ⟨Nat.le_of_ble_eq_true rfl, Nat.le_of_ble_eq_true rfl⟩ rfl rfl (Nat.le_of_ble_eq_true rfl) ?_
        refine z_aloadn zh dX6_isHere_20 rfl ?_
        refine z_iloadn zh dX6_isHere_21 rfl ?_
        refine z_callOp zh mo_Reader_72 dX6_isHere_22 (by omega) (j_cha (by omega) hj1) ⟨Nat.le_of_ble_eq_true rfl, Nat.le_of_ble_eq_true rfl⟩ rfl rfl (Nat.le_of_ble_eq_true rfl) ?_
        refine z_icmp_eq (tgt := 30) zh dX6_isHere_25 rfl (fun q3 => ?_) (fun q3 => ?_)
        · refine z_iincN (b := 1) zh dX6_isHere_30 (by decide +kernel) (by decide) rfl (L' := [some (rf g 541), some (rs g i), some (.int (nI (j + 1)))]) rfl ?_
          refine z_goto (tgt := 2) zh dX6_isHere_33 rfl ?_
          exact ih (j + 1) (by omega) (fun a ha => by
            by_cases w : a = j
            · subst w; exact q3
            · exact hm a (by omega)) (by omega)
        · refine z_iconst zh dX6_isHere_28 ki_0 ?_
          exact z_zret zh dX6_isHere_29 (Or.inl rfl) (qI (bi_f (fun w => q3 (w.1 j q1))).symm)
  exact J (wl i + 1) 0 (by omega) (fun a ha => by omega) (by omega)
def kdr (k : Nat) : Int32 := if k = 10 then -1 else nI k
theorem kdr_n {k : Nat} (h : ¬ k = 10) : kdr k = nI k := if_neg h
theorem kdr_m : kdr 10 = -1 := rfl
theorem h_X6_wordHere (g : GE) {sp : Nat → Nat → Bool} {σ iv : Iv} {lv : Lv} {t : Nat → Int32} {n p : Nat} (hT : TL sp σ t n) (hG : SI sp σ iv) (hp : p ≤ 401) (ep : iv 541 3 = nI p) : ConIp g yX6_wordHere cX6_wordHere 2 (some .int) 6 [rf g 541] iv lv (kdr (kd t n p)) := by
  refine con_intro (own := "RollingNets$Reader") (by decide +kernel) rfl (Nat.le_of_ble_eq_true rfl) (L0 := [some (rf g 541), none]) rfl (fun Z zh => ?_)
  refine z_iconst zh dX6_wordHere_0 ki_0 ?_
  refine z_istoren zh dX6_wordHere_1 (by decide) (L' := [some (rf g 541), some (.int (nI 0))]) rfl ?_
  have J : ∀ (q k : Nat), k ≤ 10 → (∀ a, a < k → ¬ mtc t n p a) → 10 - k < q → Z 2 [some (rf g 541), some (.int (nI k))] [] iv lv := by
    intro q
    induction q with
    | zero => intro k _ _ hn; omega
    | succ q ih =>
      intro k hk hm hn
      refine z_iloadn zh dX6_wordHere_2 rfl ?_
      refine z_bipush zh dX6_wordHere_3 kb_10 ?_
      refine z_icmp_ge_N (tgt := 27) zh (by omega) (by omega) dX6_wordHere_5 rfl (fun q1 => ?_) (fun q1 => ?_)
      · refine z_iconst zh dX6_wordHere_27 ki_m1 ?_
        exact z_iret zh dX6_wordHere_28 (qI (by rw [kd_no (fun j hj => hm j (by omega))]; rfl))
      · have hk1 : Ra 0 9 (nI k) := ⟨by rw [nI_toInt (by omega)]; omega, by rw [nI_toInt (by omega)]; omega⟩
        refine z_aloadnR zh dX6_wordHere_8 rfl ?_
        refine z_iloadn zh dX6_wordHere_9 rfl ?_
        refine z_callST zh ms_Reader_61 dX6_wordHere_10 (s_X6_wordOf g hG) ⟨Nat.le_of_ble_eq_true rfl, Nat.le_of_ble_eq_true rfl⟩ rfl rfl (Nat.le_of_ble_eq_true rfl) ?_
        rintro i ⟨hi, he⟩
        have ei : i = k := by have := he hk1; rw [nI_toInt (by omega)] at this; omega
        subst ei
        refine z_callVIp zh mv_Reader_95 dX6_wordHere_13 ck_R rfl (h_X6_isHere g hT hG hp ep hi) ⟨Nat.le_of_ble_eq_true rfl, Nat.le_of_ble_eq_true rfl⟩ rfl rfl (Nat.le_of_ble_eq_true rfl) ?_
        refine z_if_eq_B (tgt := 21) zh dX6_wordHere_16 rfl (fun q2 => ?_) (fun q2 => ?_)
        · refine z_iincN (b := 1) zh dX6_wordHere_21 (by decide +kernel) (by decide) rfl (L' := [some (rf g 541), some (.int (nI (i + 1)))]) rfl ?_
          refine z_goto (tgt := 2) zh dX6_wordHere_24 rfl ?_
          exact ih (i + 1) (by omega) (fun a ha => by
            by_cases w : a = i
            · subst w; exact q2
            · exact hm a (by omega)) (by omega)
        · refine z_iloadn zh dX6_wordHere_19 rfl ?_
          have ek := kd_at q2 hi hm
          exact z_iret zh dX6_wordHere_20 (qI (by rw [ek, kdr_n (by omega)]))
  exact J 11 0 (by omega) (fun a ha => by omega) (by omega)
