/-! READING A PLAN: all lines -/
theorem sp9_no {sp : Nat → Nat → Bool} {k0 j0 k j : Nat} (h : sp k j = false) (hk : k ≠ k0 ∨ j ≠ j0) : sp1 sp k0 j0 k j = false := by
  unfold sp1
  rw [h, Bool.false_or]
  rcases hk with q | q
  · rw [beq_false_of_ne q]; rfl
  · rw [beq_false_of_ne q, Bool.and_false]
theorem sp9_src {sp : Nat → Nat → Bool} {k0 j0 k j : Nat} (h : sp k j = true) : sp1 sp k0 j0 k j = true := by unfold sp1; rw [h]; rfl
theorem sp9_at {sp : Nat → Nat → Bool} {k0 j0 : Nat} : sp1 sp k0 j0 k0 j0 = true := by unfold sp1; rw [beq_self_eq_true, beq_self_eq_true]; exact Bool.or_true _
/-- where line r begins, where a plan's reading ends -/
noncomputable def pff (t : Nat → Int32) (n : Nat) : Nat × Nat × Nat := pf t n 26 0 (re bl t n 0)
theorem lfF_4 {t : Nat → Int32} {n k p : Nat} : ∀ f i, (lfF t n k p f i).1 < 4 := by
  intro f
  induction f with
  | zero =>
    intro i
    by_cases h : hr t n (np t n p i) = nI 59
    · rw [lfF_0y h]; show (0 : Nat) < 4; decide
    · rw [lfF_0n h]; show (1 : Nat) < 4; decide
  | succ f ih =>
    intro i
    by_cases h : nf t n (np t n p i) (lo_b k i) (hi_b k i) = 0
    · rw [lfF_y h]; exact ih _
    · rw [lfF_n h]
      have := nf_12 (t := t) (n := n) (q := np t n p i) (a := lo_b k i) (b := hi_b k i)
      show nf t n (np t n p i) (lo_b k i) (hi_b k i) < 4
      omega
theorem lf_4 {t : Nat → Int32} {n k p : Nat} : (lf t n k p).1 < 4 := lfF_4 _ _
theorem re_bln {P : Int32 → Prop} {t : Nat → Int32} {n p : Nat} (h : n ≤ p) : re P t n p = p := by
  unfold re
  rw [show n - p = 0 by omega]
  rfl
theorem lpos_le {t : Nat → Int32} {n r : Nat} (h : lpos t n r < n) (hl : np t n (lpos t n r + wl (kd t n (lpos t n r))) (mn (kd t n (lpos t n r))) < n) : lpos t n (r + 1) ≤ n := by
  show nx t n (lpos t n r) ≤ n
  unfold nx
  exact re_le (by omega)
/-- the draft's first r rows -/
def DR (t : Nat → Int32) (n r : Nat) (iv : Iv) : Prop := ∀ a, a < r → kd t n (lpos t n a) < 10 ∧ ∀ c, c ≤ lm t n a → iv (545 + c) a = lw t n a c
theorem lw_0 {t : Nat → Int32} {n r : Nat} : lw t n r 0 = nI (kd t n (lpos t n r)) := rfl
theorem lw_s {t : Nat → Int32} {n r i : Nat} : lw t n r (i + 1) = dv t (np t n (lpos t n r + wl (kd t n (lpos t n r))) i) (re dg t n (np t n (lpos t n r + wl (kd t n (lpos t n r))) i) - np t n (lpos t n r + wl (kd t n (lpos t n r))) i) := rfl
/-- what reading a plan leaves -/
def RdP (t : Nat → Int32) (n : Nat) (r : Int32) (iv : Iv) : Prop := iv 541 1 = nI 0 ∧ r = bi ((pff t n).1 = 0) ∧ iv 541 4 = nI (pff t n).1 ∧ iv 541 5 = @ite _ ((pff t n).1 = 0) (Classical.propDecidable _) (-1) (nI (pff t n).2.1) ∧ ((pff t n).1 = 0 → iv 543 2 = nI (pff t n).2.2 ∧ (pff t n).2.2 ≤ 24 ∧ DR t n (pff t n).2.2 iv)
set_option maxHeartbeats 1000000 in
set_option maxRecDepth 20000 in
theorem h_X6_read (g : GE) {sp : Nat → Nat → Bool} {σ iv : Iv} {lv : Lv} {t : Nat → Int32} {n : Nat} (hn : n ≤ 400) (hf : Rf sp) (hG0 : SI sp σ iv) (hL : sp 541 1 = false) (el : iv 541 1 = nI n) (ht : ∀ j, sp 542 j = true) (ht2 : ∀ j, j < n → σ 542 j = t j) : ConI g yX6_read cX6_read 2 (some .boolean) 8 [rf g 541] iv lv (fun r iv' lv' => SI sp σ iv' ∧ RdP t n r iv') := by
  obtain ⟨i0, e90⟩ : ∃ z, z = iv := ⟨_, rfl⟩
  have hG : SI (sp1 sp 541 1) i0 iv := by rw [e90]; exact si_add hG0 rfl
  have hS : SI sp σ i0 := by rw [e90]; exact hG0
  have el0 : i0 541 1 = nI n := by rw [e90]; exact el
  have hf1 : Rf (sp1 sp 541 1) := ⟨sp9_no hf.1 (Or.inr (by decide)), sp9_no hf.2.1 (Or.inr (by decide)), sp9_no hf.2.2.1 (Or.inl (by decide)), fun c j hc => sp9_no (hf.2.2.2 c j hc) (Or.inl (by omega))⟩
  have hT : TL (sp1 sp 541 1) i0 t n := ⟨hn, sp9_at, el0, fun j => sp9_src (ht j), fun j hj => (si_s hS (ht j)).trans (ht2 j hj)⟩
  clear el hG0 e90
  refine con_intro (own := "RollingNets$Reader") (by decide +kernel) rfl (Nat.le_of_ble_eq_true rfl) (L0 := [some (rf g 541), none]) rfl (fun Z zh => ?_)
  refine z_aloadnR zh dX6_read_0 rfl ?_
  refine z_getf zh fl_Reader_24 dX6_read_1 ck_R rfl rfl ?_
  have hcl : ConV g yX7_clear cX7_clear 1 none 1 [rf g 543] iv lv (fun iv' lv' => iv' = upI iv 543 2 (nI 0)) := by
    refine con_intro (own := "RollingNets$Table") (by decide +kernel) rfl (Nat.le_of_ble_eq_true rfl) (L0 := [some (rf g 543)]) rfl (fun Z zh => ?_)
    refine z_aloadnR zh dX7_clear_0 rfl ?_
    refine z_iconst zh dX7_clear_1 ki_0 ?_
    refine z_putI zh fl_Table_20 dX7_clear_2 (ck_T isT_r) rfl rfl (Nat.le_of_ble_eq_true rfl) (Or.inl rfl) ?_
    exact z_vret zh dX7_clear_5 ⟨rfl, rfl⟩
  refine z_callVV zh mv_Reader_37 dX6_read_4 (ck_T isT_r) rfl hcl ⟨Nat.le_of_ble_eq_true rfl, Nat.le_of_ble_eq_true rfl⟩ rfl rfl (Nat.le_of_ble_eq_true rfl) ?_
  rintro iv2 lv rfl
  have hG : SI (sp1 sp 541 1) i0 (upI iv 543 2 (nI 0)) := si_w (k := 543) (j := 2) hG (by decide) (by decide) hf1.2.2.1 (fun lo hi e => by cases e; exact ⟨by decide, by decide⟩)
  have em : upI iv 543 2 (nI 0) 543 2 = nI 0 := by rw [upI_at, if_pos ⟨rfl, rfl⟩]
  generalize upI iv 543 2 (nI 0) = iv at hG em ⊢
  refine z_aloadnR zh dX6_read_7 rfl ?_
  refine z_iconst zh dX6_read_8 ki_0 ?_
  refine z_putI zh fl_Reader_28 dX6_read_9 ck_R rfl rfl (Nat.le_of_ble_eq_true rfl) (Or.inl rfl) ?_
  have hG : SI (sp1 sp 541 1) i0 (upI iv 541 3 (nI 0)) := si_pl hG (rs_r (by omega))
  have em : upI iv 541 3 (nI 0) 543 2 = nI 0 := (upI_ne (Or.inl (by decide))).trans em
  have em1 : upI iv 541 3 (nI 0) 541 3 = nI 0 := by rw [upI_at, if_pos ⟨rfl, rfl⟩]
  generalize upI iv 541 3 (nI 0) = iv at hG em em1 ⊢
  refine z_aloadnR zh dX6_read_12 rfl ?_
  refine z_iconst zh dX6_read_13 ki_0 ?_
  refine z_putI zh fl_Reader_31 dX6_read_14 ck_R rfl rfl (Nat.le_of_ble_eq_true rfl) (Or.inl rfl) ?_
  have hG : SI (sp1 sp 541 1) i0 (upI iv 541 4 (nI 0)) := si_w (k := 541) (j := 4) hG (by decide) (by decide) hf1.1 (rx_none rfl)
  have em : upI iv 541 4 (nI 0) 543 2 = nI 0 := (upI_ne (Or.inl (by decide))).trans em
  have em1 : upI iv 541 4 (nI 0) 541 3 = nI 0 := (upI_ne (Or.inr (by decide))).trans em1
  have em2 : upI iv 541 4 (nI 0) 541 4 = nI 0 := by rw [upI_at, if_pos ⟨rfl, rfl⟩]
  generalize upI iv 541 4 (nI 0) = iv at hG em em1 em2 ⊢
  refine z_aloadnR zh dX6_read_17 rfl ?_
  refine z_iconst zh dX6_read_18 ki_m1 ?_
  refine z_putI zh fl_Reader_34 dX6_read_19 ck_R rfl rfl (Nat.le_of_ble_eq_true rfl) (Or.inl rfl) ?_
  have hG : SI (sp1 sp 541 1) i0 (upI iv 541 5 (-1)) := si_w (k := 541) (j := 5) hG (by decide) (by decide) hf1.2.1 (rx_none rfl)
  have hs : RS (upI iv 541 5 (-1)) 0 (nI 0) (-1) 0 := ⟨(upI_ne (Or.inr (by decide))).trans em1, (upI_ne (Or.inr (by decide))).trans em2, by rw [upI_at, if_pos ⟨rfl, rfl⟩], (upI_ne (Or.inl (by decide))).trans em⟩
  clear em em1 em2
  generalize upI iv 541 5 (-1) = iv at hG hs ⊢
  refine z_aloadnR zh dX6_read_22 rfl ?_
  refine z_callVV zh mv_Reader_40 dX6_read_23 ck_R rfl (h_X6_skipBlanks g hT hG (by omega) hs) ⟨Nat.le_of_ble_eq_true rfl, Nat.le_of_ble_eq_true rfl⟩ rfl rfl (Nat.le_of_ble_eq_true rfl) ?_
  rintro iv lv ⟨hG, hs, _⟩
  refine z_iconst zh dX6_read_26 ki_0 ?_
  refine z_istoren zh dX6_read_27 (by decide) (L' := [some (rf g 541), some (.int (nI 0))]) rfl ?_
  have J66 : ∀ (iv : Iv) (lv : Lv) (x : Nat) (z a b m m2 : Nat) (f fp : Int32), pff t n = (a, b, m2) → SI (sp1 sp 541 1) i0 iv → RS iv z f fp m → f = nI a → a < 4 → fp = @ite _ (a = 0) (Classical.propDecidable _) (-1) (nI b) → (a = 0 → m2 = m ∧ m ≤ 24 ∧ DR t n m iv) → Z 66 [some (rf g 541), some (.int (nI x))] [] iv lv := by
    intro iv lv x z a b m m2 f fp hp hG hs ef ha efp hd
    subst ef
    refine z_aloadnR zh dX6_read_66 rfl ?_
    refine z_iconst zh dX6_read_67 ki_0 ?_
    refine z_putI zh fl_Reader_15 dX6_read_68 ck_R rfl rfl (Nat.le_of_ble_eq_true rfl) (Or.inl rfl) ?_
    have hG1 : SI sp σ (upI iv 541 1 (nI 0)) := si_w (k := 541) (j := 1) (si_drop hS hG).1 (by decide) (by decide) hL (rx_some ⟨by decide, by decide⟩)
    have e1 : upI iv 541 1 (nI 0) 541 1 = nI 0 := by rw [upI_at, if_pos ⟨rfl, rfl⟩]
    have e4 : upI iv 541 1 (nI 0) 541 4 = nI a := (upI_ne (Or.inr (by decide))).trans hs.2.1
    have e5 : upI iv 541 1 (nI 0) 541 5 = fp := (upI_ne (Or.inr (by decide))).trans hs.2.2.1
    have e6 : upI iv 541 1 (nI 0) 543 2 = nI m := (upI_ne (Or.inl (by decide))).trans hs.2.2.2
    have hd1 : a = 0 → m2 = m ∧ m ≤ 24 ∧ DR t n m (upI iv 541 1 (nI 0)) := fun w => ⟨(hd w).1, (hd w).2.1, fun q hq => ⟨((hd w).2.2 q hq).1, fun c hc => (upI_ne (Or.inl (by omega))).trans (((hd w).2.2 q hq).2 c hc)⟩⟩
    clear hG hs hd
    generalize upI iv 541 1 (nI 0) = iv at hG1 e1 e4 e5 e6 hd1 ⊢
    have hpost : ∀ r, r = bi (a = 0) → RdP t n r iv := fun r hr => by
      unfold RdP
      rw [hp]
      exact ⟨e1, hr, e4, e5.trans efp, fun w => by obtain ⟨rfl, h1, h2⟩ := hd1 w; exact ⟨e6, h1, h2⟩⟩
    refine z_aloadnR zh dX6_read_71 rfl ?_
    refine z_getI (x := nI a) zh fl_Reader_31 dX6_read_72 ck_R rfl rfl e4 ?_
    refine z_if_ne_N (tgt := 82) zh (by omega) dX6_read_75 rfl (fun q10 => ?_) (fun q10 => ?_)
    · refine z_iconst zh dX6_read_82 ki_0 ?_
      exact z_zret zh dX6_read_83 (Or.inl rfl) ⟨_, rfl, hG1, hpost _ (bi_f (by omega)).symm⟩
    · refine z_iconst zh dX6_read_78 ki_1 ?_
      refine z_goto (tgt := 83) zh dX6_read_79 rfl ?_
      exact z_zret zh dX6_read_83 (Or.inr rfl) ⟨_, rfl, hG1, hpost _ (bi_t q10).symm⟩
  have J28 : ∀ (q r : Nat) (iv : Iv) (lv : Lv), SI (sp1 sp 541 1) i0 iv → r ≤ 24 → 24 - r < q → lpos t n r ≤ n → RS iv (lpos t n r) (nI 0) (-1) r → DR t n r iv → pff t n = pf t n (26 - r) r (lpos t n r) → Z 28 [some (rf g 541), some (.int (nI r))] [] iv lv := by
    intro q
    induction q with
    | zero => intro r iv lv _ _ hq; omega
    | succ q ih =>
      intro r iv lv hG hr9 hq hln hs hd hp
      rw [show 26 - r = (25 - r) + 1 by omega] at hp
      refine z_iloadn zh dX6_read_28 rfl ?_
      refine z_bipush zh dX6_read_29 kb_24 ?_
      refine z_icmp_gt_N (tgt := 66) zh (by omega) (by omega) dX6_read_31 rfl (fun w => absurd w (by omega)) (fun _ => ?_)
      refine z_aloadnR zh dX6_read_34 rfl ?_
      refine z_getI (x := nI (lpos t n r)) zh fl_Reader_28 dX6_read_35 ck_R rfl rfl hs.1 ?_
      refine z_aloadnR zh dX6_read_38 rfl ?_
      refine z_getI (x := nI n) zh fl_Reader_15 dX6_read_39 ck_R rfl rfl (tl_n hT hG) ?_
      refine z_icmp_ge_N (tgt := 66) zh (by omega) (by omega) dX6_read_42 rfl (fun q17 => ?_) (fun q17 => ?_)
      · exact J66 iv lv r _ 0 _ r _ _ _ (hp.trans (pf_e q17)) hG hs rfl (by decide) (if_pos rfl).symm (fun _ => ⟨rfl, hr9, hd⟩)
      refine z_aloadnR zh dX6_read_45 rfl ?_
      refine z_getI (x := nI 0) zh fl_Reader_31 dX6_read_46 ck_R rfl rfl hs.2.1 ?_
      refine z_if_ne (tgt := 66) zh dX6_read_49 rfl (fun w => absurd nI_0 w) (fun _ => ?_)
      refine z_aloadnR zh dX6_read_52 rfl ?_
      refine z_callVV zh mv_Reader_43 dX6_read_53 ck_R rfl (h_X6_readLine g hT hf1 hG hln hr9 hs) ⟨Nat.le_of_ble_eq_true rfl, Nat.le_of_ble_eq_true rfl⟩ rfl rfl (Nat.le_of_ble_eq_true rfl) ?_
      rintro iv2 lv ⟨hG2, h10, h24, hln2⟩
      refine z_aloadnR zh dX6_read_56 rfl ?_
      have hng : ¬ n ≤ lpos t n r := by omega
      -- behind a fault
      have Jf : ∀ (z a b m m2 : Nat), pff t n = (a, b, m2) → RS iv2 z (nI a) (nI b) m → z ≤ 401 → ¬ a = 0 → a < 4 → Z 57 [some (rf g 541), some (.int (nI r))] [rf g 541] iv2 lv := by
        intro z a b m m2 hp2 hs2 hz ha ha4
        refine z_callVV zh mv_Reader_40 dX6_read_57 ck_R rfl (h_X6_skipBlanks g hT hG2 hz hs2) ⟨Nat.le_of_ble_eq_true rfl, Nat.le_of_ble_eq_true rfl⟩ rfl rfl (Nat.le_of_ble_eq_true rfl) ?_
        rintro iv3 lv ⟨hG3, hs3, _⟩
        refine z_iincN (b := 1) zh dX6_read_60 (by decide +kernel) (by decide) rfl (L' := [some (rf g 541), some (.int (nI (r + 1)))]) rfl ?_
        refine z_goto (tgt := 28) zh dX6_read_63 rfl ?_
        have j66 : ∀ lv, Z 66 [some (rf g 541), some (.int (nI (r + 1)))] [] iv3 lv := fun lv => J66 iv3 lv (r + 1) _ a b m m2 _ _ hp2 hG3 hs3 rfl ha4 (if_neg ha).symm (fun w => absurd w ha)
        refine z_iloadn zh dX6_read_28 rfl ?_
        refine z_bipush zh dX6_read_29 kb_24 ?_
        refine z_icmp_gt_N (tgt := 66) zh (by omega) (by omega) dX6_read_31 rfl (fun _ => j66 lv) (fun _ => ?_)
        refine z_aloadnR zh dX6_read_34 rfl ?_
        refine z_getI zh fl_Reader_28 dX6_read_35 ck_R rfl rfl hs3.1 ?_
        refine z_aloadnR zh dX6_read_38 rfl ?_
        refine z_getI (x := nI n) zh fl_Reader_15 dX6_read_39 ck_R rfl rfl (tl_n hT hG3) ?_
        refine z_icmp_ge (tgt := 66) zh dX6_read_42 rfl (fun _ => j66 lv) (fun _ => ?_)
        refine z_aloadnR zh dX6_read_45 rfl ?_
        refine z_getI (x := nI a) zh fl_Reader_31 dX6_read_46 ck_R rfl rfl hs3.2.1 ?_
        exact z_if_ne (tgt := 66) zh dX6_read_49 rfl (fun _ => j66 lv) (fun w => absurd w (nz_nI (by omega) ha))
      by_cases hk : kd t n (lpos t n r) = 10
      · exact Jf _ 1 _ _ _ (hp.trans (pf_1 hng hk)) (h10 hk) (by omega) (by decide) (by decide)
      by_cases hr24 : r = 24
      · exact Jf _ 3 _ _ _ (hp.trans (pf_3 hng hk hr24)) (h24 hk hr24) (by omega) (by decide) (by decide)
      obtain ⟨hd2, hok, hbad⟩ := hln2 hk hr24
      by_cases h0 : (lf t n (kd t n (lpos t n r)) (lpos t n r + wl (kd t n (lpos t n r)))).1 = 0
      · obtain ⟨hs2, hlt, hv0, hv⟩ := hok h0
        have hp2 := hp.trans (pf_y hng hk hr24 h0)
        refine z_callVV zh mv_Reader_40 dX6_read_57 ck_R rfl (h_X6_skipBlanks g hT hG2 (by omega) hs2) ⟨Nat.le_of_ble_eq_true rfl, Nat.le_of_ble_eq_true rfl⟩ rfl rfl (Nat.le_of_ble_eq_true rfl) ?_
        rintro iv3 lv ⟨hG3, hs3, hd3⟩
        refine z_iincN (b := 1) zh dX6_read_60 (by decide +kernel) (by decide) rfl (L' := [some (rf g 541), some (.int (nI (r + 1)))]) rfl ?_
        refine z_goto (tgt := 28) zh dX6_read_63 rfl ?_
        have h1 : r + 1 ≤ 24 := by omega
        have h2 : 24 - (r + 1) < q := by omega
        have h3 : lpos t n r < n := by omega
        have h4 : 26 - (r + 1) = 25 - r := by omega
        refine ih (r + 1) iv3 lv hG3 h1 h2 (lpos_le h3 hlt) hs3 (fun a ha => ?_) (by rw [h4]; exact hp2)
        by_cases w : a = r
        · subst w
          refine ⟨by have := kd_le (t := t) (n := n) (p := lpos t n a); omega, fun c hc => ?_⟩
          have hm5 := mn_5 (kd t n (lpos t n a)) (by have := kd_le (t := t) (n := n) (p := lpos t n a); omega)
          have hc9 : c ≤ mn (kd t n (lpos t n a)) := hc
          refine (hd3 c a (by omega) (fun z => z)).trans ?_
          cases c with
          | zero => exact hv0
          | succ i => exact hv i (by omega)
        · refine ⟨(hd a (by omega)).1, fun c hc => ?_⟩
          have hm5 := mn_5 (kd t n (lpos t n a)) (hd a (by omega)).1
          have hc9 : c ≤ mn (kd t n (lpos t n a)) := hc
          exact (hd3 c a (by omega) (fun z => z)).trans ((hd2 c a (by omega) w).trans ((hd a (by omega)).2 c hc))
      · obtain ⟨z, hz, hs2⟩ := hbad h0
        have hp2 := hp.trans (pf_n hng hk hr24 h0)
        exact Jf z _ _ _ _ hp2 hs2 hz h0 lf_4
  exact J28 25 0 iv lv hG (by omega) (by omega) (re_le (Nat.zero_le n)) hs (fun a ha => by omega) rfl
