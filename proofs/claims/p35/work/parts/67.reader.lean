/-! THE READER: its place stays on the line -/
theorem rpl {z : Int32} (h : Ra 0 401 z) : ∀ lo hi, rgI 541 3 = some (lo, hi) → Ra lo hi z := rx_some h
theorem si_pl {sp : Nat → Nat → Bool} {σ iv : Iv} {z : Int32} (hG : SI sp σ iv) (hz : Ra 0 401 z) : SI sp σ (upI iv 541 3 z) := si_w (k := 541) (j := 3) hG (by decide) (by decide) (sp_no hG rfl) (rpl hz)
section TF
variable {sp : Nat → Nat → Bool} {σ : Iv} {iv : Iv} {lv : Lv} {t cc nn h : Nat}
theorem f_X7_put (g : GE) {a b v p : Int32} (hp9 : iv 541 3 = p) (h39 : t + 2 + cc ≤ 541 ∨ 541 < t) (ht : isT t cc nn) (hG : SI sp σ iv) (hp : ∀ j c : Nat, c < cc → (c : Int) = a.toInt → (∀ l u, rgI (t + 2 + c) j = some (l, u) → Ra l u v) ∧ sp (t + 2 + c) j = false) : ConV g yX7_put cX7_put 4 none 1 [rf g t, .int a, .int b, .int v] iv lv (fun iv' lv' => SI sp σ iv' ∧ iv' 541 3 = p) := by
  refine con_intro (own := "RollingNets$Table") (by decide +kernel) rfl (Nat.le_of_ble_eq_true rfl) (L0 := [some (rf g t), some (.int a), some (.int b), some (.int v)]) rfl (fun Z zh => ?_)
  have hb := isT_b31 ht
  have ec : (nI cc).toInt = cc := nI_toInt (by omega)
  have hno : Z 34 [some (rf g t), some (.int a), some (.int b), some (.int v)] [] iv lv := z_vret zh dX7_put_34 ⟨rfl, hG, hp9⟩
  refine z_iloadn zh dX7_put_0 rfl ?_
  refine z_if_lt (tgt := 34) zh dX7_put_1 rfl (fun q => hno) (fun q1 => ?_)
  rw [lt0] at q1
  refine z_iloadn zh dX7_put_4 rfl ?_
  refine z_aloadnR zh dX7_put_5 rfl ?_
  refine z_getf zh fl_Table_11 dX7_put_6 (ck_T ht) rfl rfl ?_
  refine z_alenG zh (ck_Tc ht) dX7_put_9 ?_
  refine z_icmp_ge (tgt := 34) zh dX7_put_10 rfl (fun q => hno) (fun q2 => ?_)
  rw [leI, ec] at q2
  refine z_iloadn zh dX7_put_13 rfl ?_
  refine z_if_lt (tgt := 34) zh dX7_put_14 rfl (fun q => hno) (fun q3 => ?_)
  rw [lt0] at q3
  refine z_iloadn zh dX7_put_17 rfl ?_
  refine z_aloadnR zh dX7_put_18 rfl ?_
  refine y_getI zh fl_Table_20 dX7_put_19 (ck_T ht) rfl rfl (fun n hc => ?_)
  have hn : Ra 0 nn n := ra_of hc (si_T hG ht)
  have hn2 := hn.2
  refine z_icmp_ge (tgt := 34) zh dX7_put_22 rfl (fun q => hno) (fun q4 => ?_)
  rw [leI] at q4
  refine z_aloadnR zh dX7_put_25 rfl ?_
  refine z_getf zh fl_Table_11 dX7_put_26 (ck_T ht) rfl rfl ?_
  refine z_iloadn zh dX7_put_29 rfl ?_
  refine y_gald zh (ck_Tc ht) dX7_put_30 (a := 0) (b := (cc : Int) - 1) (x := a) ⟨by omega, by omega⟩ (by omega) (by omega) (fun j hj ej e => ?_)
  refine z_iloadn zh dX7_put_31 rfl ?_
  refine z_iloadn zh dX7_put_32 rfl ?_
  refine z_iast zh (ck_Tr ht hj) dX7_put_33 (ra_in (lo := 0) (hi := (nn : Int) - 1) ⟨by omega, by omega⟩ (by omega) (by omega)) ?_
  have hw := hp b.toNatClampNeg j hj e
  have hlt := (ck_Tr (g := g) ht hj).1.1
  have hk : t + 2 + j ≠ 552 ∧ t + 2 + j ≠ 564 := by rcases ht with ⟨h, hh, h1 | h1 | h1 | h1⟩ | h1 <;> obtain ⟨rfl, rfl, rfl⟩ := h1 <;> first | (rcases hh with rfl | rfl | rfl <;> omega) | omega
  exact z_vret zh dX7_put_34 ⟨rfl, si_w hG hk.1 hk.2 hw.2 hw.1, (upI_ne (Or.inl (by omega))).trans hp9⟩
theorem f_X7_addRow (g : GE) {p : Int32} (hp9 : iv 541 3 = p) (h39 : t + 2 + cc ≤ 541 ∨ 541 < t) (ht : isT t cc nn) (hG : SI sp σ iv) (hs : sp t 2 = false) (hc9 : ∀ c j, c < cc → sp (t + 2 + c) j = false) : ConI g yX7_addRow cX7_addRow 2 (some .int) 2 [rf g t] iv lv (fun r iv' lv' => (SI sp σ iv' ∧ Ra (-1) ((nn : Int) - 1) r) ∧ iv' 541 3 = p) := by
  refine con_intro (own := "RollingNets$Table") (by decide +kernel) rfl (Nat.le_of_ble_eq_true rfl) (L0 := [some (rf g t), none]) rfl (fun Z zh => ?_)
  have hb := isT_b31 ht
  have ec : (nI cc).toInt = cc := nI_toInt (by omega)
  refine z_aloadnR zh dX7_addRow_0 rfl ?_
  obtain ⟨n, hc⟩ : ∃ n, iv t 2 = n := ⟨_, rfl⟩
  have hn : Ra 0 nn n := ra_of hc (si_T hG ht)
  have hn1 := hn.1
  refine z_callVI zh mv_Table_23 dX7_addRow_1 (ck_T ht) rfl (s_X7_isFull g ht hc) ⟨Nat.le_of_ble_eq_true rfl, Nat.le_of_ble_eq_true rfl⟩ rfl rfl (Nat.le_of_ble_eq_true rfl) ?_
  rintro r _ _ ⟨rfl, rfl, h01, hlt⟩
  refine z_if_eq (tgt := 9) zh dX7_addRow_4 rfl (fun q => ?_) (fun q => ?_)
  · have hlt := hlt q
    refine z_iconst zh dX7_addRow_9 ki_0 ?_
    refine z_istoren zh dX7_addRow_10 (by decide) (L' := [some (rf g t), some (.int (nI 0))]) rfl ?_
    have J : ∀ (k : Nat) (iv : Iv) (lv : Lv) (x : Int32), SI sp σ iv → iv 541 3 = p → iv t 2 = n → Ra 0 cc x → (cc : Int) - x.toInt < (k : Int) → Z 11 [some (rf g t), some (.int x)] [] iv lv := by
      intro k
      induction k with
      | zero => intro iv lv x hG hp9 hc hx hk; exact (ms_uz hx hk).elim
      | succ k ih =>
        intro iv lv x hG hp9 hc hx hk
        refine z_iloadn zh dX7_addRow_11 rfl ?_
        refine z_aloadnR zh dX7_addRow_12 rfl ?_
        refine z_getf zh fl_Table_11 dX7_addRow_13 (ck_T ht) rfl rfl ?_
        refine z_alenG zh (ck_Tc ht) dX7_addRow_16 ?_
        refine z_icmp_ge (tgt := 38) zh dX7_addRow_17 rfl (fun q => ?_) (fun q => ?_)
        · refine z_aloadnR zh dX7_addRow_38 rfl ?_
          refine z_dup zh dX7_addRow_39 rfl ?_
          refine z_getI (x := n) zh fl_Table_20 dX7_addRow_40 (ck_T ht) rfl rfl hc ?_
          refine z_iconst zh dX7_addRow_43 ki_1 ?_
          refine y_iadd zh dX7_addRow_44 (a := 0) (b := (nn : Int) - 1) (c := 1) (d := 1) ⟨by omega, by omega⟩ ⟨by decide, by decide⟩ rfl rfl (by decide) (by omega) (fun z ez hz => ?_)
          refine z_putI zh fl_Table_20 dX7_addRow_45 (ck_T ht) rfl rfl (Nat.le_of_ble_eq_true rfl) (Or.inl rfl) ?_
          have hk9 := tt_ne ht (q := 0) (by omega)
          have hG := si_w (x := z) hG hk9.1 hk9.2 hs (fun l u e => by
            have := rg_Tn ht e
            rw [this.1, this.2]
            exact ra_w hz (by decide) (by omega))
          have hp9 := (upI_ne (iv := iv) (k := t) (j := 2) (x := z) (a := 541) (b := 3) (Or.inl (by omega))).trans hp9
          have em : upI iv t 2 z t 2 = z := by rw [upI_at, if_pos ⟨rfl, rfl⟩]
          generalize upI iv t 2 z = iv at hG em hp9 ⊢
          refine z_aloadnR zh dX7_addRow_48 rfl ?_
          refine z_getI (x := z) zh fl_Table_20 dX7_addRow_49 (ck_T ht) rfl rfl em ?_
          refine z_iconst zh dX7_addRow_52 ki_1 ?_
          refine y_isub zh dX7_addRow_53 hz (c := 1) (d := 1) ⟨by decide, by decide⟩ rfl rfl (by decide) (by omega) (fun w ew hw => ?_)
          exact z_iret zh dX7_addRow_54 ⟨_, rfl, ⟨hG, ra_w hw (by decide) (by omega)⟩, hp9⟩
        · rw [leI, ec] at q
          have hx1 := hx.1
          refine z_aloadnR zh dX7_addRow_20 rfl ?_
          refine z_getf zh fl_Table_11 dX7_addRow_21 (ck_T ht) rfl rfl ?_
          refine z_iloadn zh dX7_addRow_24 rfl ?_
          refine y_gald zh (ck_Tc ht) dX7_addRow_25 (a := 0) (b := (cc : Int) - 1) (x := x) ⟨by omega, by omega⟩ (by omega) (by omega) (fun j hj ej e => ?_)
          refine z_aloadnR zh dX7_addRow_26 rfl ?_
          refine z_getI (x := n) zh fl_Table_20 dX7_addRow_27 (ck_T ht) rfl rfl hc ?_
          refine z_iconst zh dX7_addRow_30 ki_0 ?_
          refine z_iast zh (ck_Tr ht hj) dX7_addRow_31 (ra_in (lo := 0) (hi := (nn : Int) - 1) ⟨by omega, by omega⟩ (by omega) (by omega)) ?_
          have hk9 := tt_ne ht (q := 2 + j) (by omega)
          have hG := si_w (k := t + 2 + j) (j := n.toNatClampNeg) (x := nI 0) hG (by omega) (by omega) (hc9 j _ hj) (fun l u e => by
            have := rg_Tr ht hj e
            exact ⟨this.1, this.2⟩)
          have hc := (upI_ne (iv := iv) (k := t + 2 + j) (j := n.toNatClampNeg) (x := nI 0) (a := t) (b := 2) (Or.inl (by omega))).trans hc
          have hp9 := (upI_ne (iv := iv) (k := t + 2 + j) (j := n.toNatClampNeg) (x := nI 0) (a := 541) (b := 3) (Or.inl (by omega))).trans hp9
          generalize upI iv (t + 2 + j) n.toNatClampNeg (nI 0) = iv at hG hc hp9 ⊢
          refine y_iinc (L' := fun z => [some (rf g t), some (.int z)]) zh dX7_addRow_32 (by decide) rfl (by decide +kernel) (a := 0) (b := (cc : Int) - 1) ⟨by omega, by omega⟩ rfl rfl (by decide) (by omega) (fun _ => rfl) (fun z ez hz => ?_)
          refine z_goto (tgt := 11) zh dX7_addRow_35 rfl ?_
          exact ih iv lv z hG hp9 hc (ra_w hz (by decide) (by omega)) (ms_up ez (by decide) hk)
    have e0 : (nI 0).toInt = 0 := by decide
    exact J (cc + 1) iv lv (nI 0) hG hp9 hc ⟨by omega, by omega⟩ (by omega)
  · refine z_iconst zh dX7_addRow_7 ki_m1 ?_
    have e1 : (-1 : Int32).toInt = -1 := by decide
    exact z_iret zh dX7_addRow_8 ⟨_, rfl, ⟨hG, by omega, by omega⟩, hp9⟩
end TF
set_option maxHeartbeats 1000000 in
set_option maxRecDepth 20000 in
theorem e_X6_here (g : GE) {sp : Nat → Nat → Bool} {σ : Iv} {iv : Iv} {lv : Lv} {a1 : Int32} (hG : SI sp σ iv) : ConI g yX6_here cX6_here 2 (some .int) 1 [rf g 541, .int a1] iv lv (fun r iv' lv' => iv = iv' ∧ lv = lv' ∧ (¬ r = -1 → a1.toInt < 400)) := by
  refine con_intro (own := "RollingNets$Reader") (by decide +kernel) rfl (Nat.le_of_ble_eq_true rfl) (L0 := [some (rf g 541), some (.int a1)]) rfl (fun Z zh => ?_)
  have J21 : Z 21 [some (rf g 541), some (.int a1)] [] iv lv := by
    refine z_iconst zh dX6_here_21 ki_m1 ?_
    exact z_iret zh dX6_here_22 ⟨_, rfl, rfl, rfl, fun q => absurd rfl q⟩
  refine z_iloadn zh dX6_here_0 rfl ?_
  refine z_if_lt (tgt := 21) zh dX6_here_1 rfl (fun _ => J21) (fun q1 => ?_)
  rw [lt0] at q1
  refine z_iloadn zh dX6_here_4 rfl ?_
  refine z_aloadnR zh dX6_here_5 rfl ?_
  refine y_getI zh fl_Reader_15 dX6_here_6 ck_R rfl rfl (fun x1 ex1 => ?_)
  have hx1 : Ra 0 400 x1 := ra_of ex1 (si_c hG (k := 541) (j := 1) rfl)
  refine z_icmp_ge (tgt := 21) zh dX6_here_9 rfl (fun _ => J21) (fun q2 => ?_)
  rw [leI] at q2
  have hl2 := (hx1).2
  have ha : Ra 0 399 a1 := ⟨by omega, by omega⟩
  refine z_aloadnR zh dX6_here_12 rfl ?_
  refine z_getf zh fl_Reader_9 dX6_here_13 ck_R rfl rfl ?_
  refine z_iloadn zh dX6_here_16 rfl ?_
  refine y_iald zh ck_tape dX6_here_17 ha (by decide) (by decide) (fun x2 ex2 => ?_)
  refine z_goto (tgt := 22) zh dX6_here_18 rfl ?_
  exact z_iret zh dX6_here_22 ⟨_, rfl, rfl, rfl, fun _ => by omega⟩

set_option maxHeartbeats 1000000 in
set_option maxRecDepth 20000 in
theorem e_X6_skipBlanks (g : GE) {sp : Nat → Nat → Bool} {σ : Iv} {iv : Iv} {lv : Lv} (hG : SI sp σ iv) (hN : Ra 0 400 (iv 541 3)) : ConV g yX6_skipBlanks cX6_skipBlanks 1 none 2 [rf g 541] iv lv (fun iv lv => SI sp σ iv ∧ ∃ z, iv 541 3 = z ∧ Ra 0 400 z) := by
  refine con_intro (own := "RollingNets$Reader") (by decide +kernel) rfl (Nat.le_of_ble_eq_true rfl) (L0 := [some (rf g 541)]) rfl (fun Z zh => ?_)
  have J : ∀ (q : Nat) (iv : Iv) (lv : Lv), SI sp σ iv → Ra 0 400 (iv 541 3) → 400 - (iv 541 3).toInt < (q : Int) → Z 0 [some (rf g 541)] [] iv lv := by
    intro q
    induction q with
    | zero => intro iv lv _ hN hn; exact (ms_uz hN hn).elim
    | succ q ih =>
      intro iv lv hG hN hn
      refine z_aloadnR zh dX6_skipBlanks_0 rfl ?_
      refine y_getI zh fl_Reader_28 dX6_skipBlanks_1 ck_R rfl rfl (fun x1 ex1 => ?_)
      have hx1 : Ra 0 401 x1 := ra_of ex1 (si_c hG (k := 541) (j := 3) rfl)
      refine z_aloadnR zh dX6_skipBlanks_4 rfl ?_
      refine y_getI zh fl_Reader_15 dX6_skipBlanks_5 ck_R rfl rfl (fun x2 ex2 => ?_)
      have hx2 : Ra 0 400 x2 := ra_of ex2 (si_c hG (k := 541) (j := 1) rfl)
      refine z_icmp_ge (tgt := 50) zh dX6_skipBlanks_8 rfl (fun _ => z_vret zh dX6_skipBlanks_50 ⟨rfl, hG, _, rfl, hN⟩) (fun q2 => ?_)
      rw [leI] at q2
      rw [ex1] at hN hn
      have hl2 := (hx2).2
      have hn0 := hN.1
      have hp9 : Ra 0 399 x1 := ⟨by omega, by omega⟩
      have J37 : Z 37 [some (rf g 541)] [] iv lv := by
        refine z_aloadnR zh dX6_skipBlanks_37 rfl ?_
        refine z_dup zh dX6_skipBlanks_38 rfl ?_
        refine z_getI (x := x1) zh fl_Reader_28 dX6_skipBlanks_39 ck_R rfl rfl ex1 ?_
        refine z_iconst zh dX6_skipBlanks_42 ki_1 ?_
        refine y_iadd zh dX6_skipBlanks_43 hp9 rl_1 (u := 1) (v := 400) rfl rfl (by decide) (by decide) (fun x3 hc3 hx3 => ?_)
        refine z_putI zh fl_Reader_28 dX6_skipBlanks_44 ck_R rfl rfl (Nat.le_of_ble_eq_true rfl) (Or.inl rfl) ?_
        have em9 : upI iv 541 3 x3 541 3 = x3 := by rw [upI_at, if_pos ⟨rfl, rfl⟩]
        refine z_goto (tgt := 0) zh dX6_skipBlanks_47 rfl ?_
        exact ih _ lv (si_pl hG (ra_w hx3 (by decide) (by decide))) (by rw [em9]; exact (ra_w hx3 (by decide) (by decide))) (by rw [em9]; exact ms_up (bs_add hc3 rl_1) (by decide) hn)
      refine z_aloadnR zh dX6_skipBlanks_11 rfl ?_
      refine z_aloadnR zh dX6_skipBlanks_12 rfl ?_
      refine z_getI (x := x1) zh fl_Reader_28 dX6_skipBlanks_13 ck_R rfl rfl ex1 ?_
      refine z_callVI zh mv_Reader_80 dX6_skipBlanks_16 ck_R rfl (s_X6_here g  hG) ⟨Nat.le_of_ble_eq_true rfl, Nat.le_of_ble_eq_true rfl⟩ rfl rfl (Nat.le_of_ble_eq_true rfl) ?_
      rintro x4 _ _ ⟨rfl, rfl, _⟩
      refine z_bipush zh dX6_skipBlanks_19 kb_32 ?_
      refine z_icmp_eq (tgt := 37) zh dX6_skipBlanks_21 rfl (fun _ => J37) (fun _ => ?_)
      refine z_aloadnR zh dX6_skipBlanks_24 rfl ?_
      refine z_aloadnR zh dX6_skipBlanks_25 rfl ?_
      refine z_getI (x := x1) zh fl_Reader_28 dX6_skipBlanks_26 ck_R rfl rfl ex1 ?_
      refine z_callVI zh mv_Reader_80 dX6_skipBlanks_29 ck_R rfl (s_X6_here g  hG) ⟨Nat.le_of_ble_eq_true rfl, Nat.le_of_ble_eq_true rfl⟩ rfl rfl (Nat.le_of_ble_eq_true rfl) ?_
      rintro x5 _ _ ⟨rfl, rfl, _⟩
      refine z_bipush zh dX6_skipBlanks_32 kb_10 ?_
      exact z_icmp_ne (tgt := 50) zh dX6_skipBlanks_34 rfl (fun _ => z_vret zh dX6_skipBlanks_50 ⟨rfl, hG, _, rfl, by rw [ex1]; exact ra_w hp9 (by decide) (by decide)⟩) (fun _ => J37)
  exact J 401 iv lv hG hN (by have := hN.1; omega)

set_option maxRecDepth 20000 in
theorem e_X6_readNumber (g : GE) {sp : Nat → Nat → Bool} {σ : Iv} {iv : Iv} {lv : Lv} {a1 : Int32} {a2 : Int32} {a3 : Int32}  (hG : SI sp σ iv) (hq : Sq sp) {y1 : Int32} (ey1 : iv 541 3 = y1) (hy1 : Ra 0 400 y1) : ConV g yX6_readNumber cX6_readNumber 6 none 3 [rf g 541, .int a1, .int a2, .int a3] iv lv (fun iv lv => SI sp σ iv ∧ ∃ z : Int32, iv 541 3 = z ∧ Ra 0 400 z) := by
  refine con_intro (own := "RollingNets$Reader") (by decide +kernel) rfl (Nat.le_of_ble_eq_true rfl) (L0 := [some (rf g 541), some (.int a1), some (.int a2), some (.int a3), none, none]) rfl (fun Z zh => ?_)
  refine z_aloadnR zh dX6_readNumber_0 rfl ?_
  refine z_callVV zh mv_Reader_40 dX6_readNumber_1 ck_R rfl (e_X6_skipBlanks g hG (by rw [ey1]; exact hy1)) ⟨Nat.le_of_ble_eq_true rfl, Nat.le_of_ble_eq_true rfl⟩ rfl rfl (Nat.le_of_ble_eq_true rfl) ?_
  rintro iv lv ⟨hG, x1, ex1, hx1⟩
  refine z_aloadnR zh dX6_readNumber_4 rfl ?_
  refine z_getI (x := x1) zh fl_Reader_28 dX6_readNumber_5 ck_R rfl rfl ex1 ?_
  refine z_istore zh dX6_readNumber_8 (by decide) (L' := [some (rf g 541), some (.int a1), some (.int a2), some (.int a3), some (.int x1), none]) rfl ?_
  refine z_iconst zh dX6_readNumber_10 ki_0 ?_
  refine z_istore zh dX6_readNumber_11 (by decide) (L' := [some (rf g 541), some (.int a1), some (.int a2), some (.int a3), some (.int x1), some (.int (nI 0))]) rfl ?_
  have J13 : ∀ (n : Nat) (iv : Iv) (lv : Lv) (x2 : Int32) (x3 : Int32), SI sp σ iv → Ra 0 400 x2 → iv 541 3 = x1 → 400 - x2.toInt < (n : Int) → Z 13 [some (rf g 541), some (.int a1), some (.int a2), some (.int a3), some (.int x2), some (.int x3)] [] iv lv := by
    intro n
    induction n with
    | zero => intro iv lv x2 x3 hG hx2 em4 hn13; exact (ms_uz hx2 hn13).elim
    | succ n ih13 =>
      intro iv lv x2 x3 hG hx2 em4 hn13
      refine z_iload zh dX6_readNumber_13 rfl ?_
      refine z_aloadnR zh dX6_readNumber_15 rfl ?_
      refine y_getI zh fl_Reader_15 dX6_readNumber_16 ck_R rfl rfl (fun x5 ex5 => ?_)
      have hx5 : Ra 0 400 x5 := ra_of ex5 (si_c hG (k := 541) (j := 1) rfl)
      have J79 : ∀ (iv : Iv) (lv : Lv), SI sp σ iv → iv 541 3 = x1 → iv 541 1 = x5 → Z 79 [some (rf g 541), some (.int a1), some (.int a2), some (.int a3), some (.int x2), some (.int x3)] [] iv lv := by
        intro iv lv hG em6 em7
        refine z_iload zh dX6_readNumber_79 rfl ?_
        refine z_aloadnR zh dX6_readNumber_81 rfl ?_
        refine z_getI (x := x1) zh fl_Reader_28 dX6_readNumber_82 ck_R rfl rfl em6 ?_
        have J128 : ∀ (iv : Iv) (lv : Lv), SI sp σ iv → Z 128 [some (rf g 541), some (.int a1), some (.int a2), some (.int a3), some (.int x2), some (.int x3)] [] iv lv := by
          intro iv lv hG
          refine z_aloadnR zh dX6_readNumber_128 rfl ?_
          refine z_getf zh fl_Reader_24 dX6_readNumber_129 ck_R rfl rfl ?_
          refine z_iloadn zh dX6_readNumber_132 rfl ?_
          refine z_iloadn zh dX6_readNumber_133 rfl ?_
          refine z_iload zh dX6_readNumber_134 rfl ?_
          refine z_callVV zh mv_Reader_57 dX6_readNumber_136 (ck_T isT_r) rfl (s_X7_put g isT_r hG (pr_f hq)) ⟨Nat.le_of_ble_eq_true rfl, Nat.le_of_ble_eq_true rfl⟩ rfl rfl (Nat.le_of_ble_eq_true rfl) ?_
          rintro iv lv hG
          refine z_aloadnR zh dX6_readNumber_139 rfl ?_
          refine z_iload zh dX6_readNumber_140 rfl ?_
          refine z_putI zh fl_Reader_28 dX6_readNumber_142 ck_R rfl rfl (Nat.le_of_ble_eq_true rfl) (Or.inl rfl) ?_
          have hG : SI sp σ (upI iv 541 3 x2) := si_w (k := 541) (j := 3) hG (by decide) (by decide) (sq_no hq rfl) (rx_some (ra_w hx2 (by decide) (by decide)))
          have em8 : upI iv 541 3 x2 541 3 = x2 := by rw [upI_at, if_pos ⟨rfl, rfl⟩]
          generalize upI iv 541 3 x2 = iv at hG em8 ⊢
          exact z_vret zh dX6_readNumber_145 ⟨rfl, hG, ⟨x2, em8, hx2⟩⟩
        have J99 : ∀ (iv : Iv) (lv : Lv), SI sp σ iv → iv 541 3 = x1 → iv 541 1 = x5 → Z 99 [some (rf g 541), some (.int a1), some (.int a2), some (.int a3), some (.int x2), some (.int x3)] [] iv lv := by
          intro iv lv hG em9 em10
          refine z_aloadnR zh dX6_readNumber_99 rfl ?_
          refine z_iconst zh dX6_readNumber_100 ki_1 ?_
          refine z_callVV zh mv_Reader_50 dX6_readNumber_101 ck_R rfl (s_X6_failHere g (ra_w rl_1 (by decide) (by decide)) hG hq) ⟨Nat.le_of_ble_eq_true rfl, Nat.le_of_ble_eq_true rfl⟩ rfl rfl (Nat.le_of_ble_eq_true rfl) ?_
          rintro iv lv hG
          refine z_goto (tgt := 128) zh dX6_readNumber_104 rfl ?_
          exact J128 iv lv hG
        refine z_icmp_eq (tgt := 99) zh dX6_readNumber_85 rfl (fun q11 => ?_) (fun q11 => ?_)
        · exact J99 iv lv hG em6 em7
        · refine z_iload zh dX6_readNumber_88 rfl ?_
          refine z_aloadnR zh dX6_readNumber_90 rfl ?_
          refine z_getI (x := x1) zh fl_Reader_28 dX6_readNumber_91 ck_R rfl rfl em6 ?_
          refine y_isub zh dX6_readNumber_94 hx2 hx1 (u := (-400)) (v := 400) rfl rfl (by decide) (by decide) (fun x13 hc13 hx13 => ?_)
          refine z_iconst zh dX6_readNumber_95 ki_4 ?_
          refine z_icmp_le (tgt := 107) zh dX6_readNumber_96 rfl (fun q14 => ?_) (fun q14 => ?_)
          · have r15 : Ra (-400) 4 x13 := rb_le_l rl_4 hx13 q14 (by decide)
            refine z_iload zh dX6_readNumber_107 rfl ?_
            refine z_iloadn zh dX6_readNumber_109 rfl ?_
            refine z_callSI zh ms_Reader_88 dX6_readNumber_110 (s_X6_leastOf g  hG) ⟨Nat.le_of_ble_eq_true rfl, Nat.le_of_ble_eq_true rfl⟩ rfl rfl (Nat.le_of_ble_eq_true rfl) ?_
            rintro x16 _ _ ⟨rfl, rfl, hx16⟩
            refine z_iloadn zh dX6_readNumber_113 rfl ?_
            refine z_callSI zh ms_Reader_92 dX6_readNumber_114 (s_X6_mostOf g  hG) ⟨Nat.le_of_ble_eq_true rfl, Nat.le_of_ble_eq_true rfl⟩ rfl rfl (Nat.le_of_ble_eq_true rfl) ?_
            rintro x17 _ _ ⟨rfl, rfl, hx17⟩
            refine z_callSI zh ms_Reader_84 dX6_readNumber_117 (s_X8_within g) ⟨Nat.le_of_ble_eq_true rfl, Nat.le_of_ble_eq_true rfl⟩ rfl rfl (Nat.le_of_ble_eq_true rfl) ?_
            rintro x18 _ _ ⟨rfl, rfl, hx18, hz19⟩
            refine z_if_ne (tgt := 128) zh dX6_readNumber_120 rfl (fun q20 => ?_) (fun q20 => ?_)
            · have r21 : Ra 1 1 x18 := rb_ne_lo hx18 ra_z q20 (by decide)
              have r22 : Ra 0 9999 x3 := (rb_in hx16 hx17 (hz19 q20))
              exact J128 iv lv hG
            · have r23 := rb_eq (u := 0) (v := 0) hx18 ra_z q20 (by decide) (by decide)
              refine z_aloadnR zh dX6_readNumber_123 rfl ?_
              refine z_iconst zh dX6_readNumber_124 ki_2 ?_
              refine z_callVV zh mv_Reader_50 dX6_readNumber_125 ck_R rfl (s_X6_failHere g (ra_w rl_2 (by decide) (by decide)) hG hq) ⟨Nat.le_of_ble_eq_true rfl, Nat.le_of_ble_eq_true rfl⟩ rfl rfl (Nat.le_of_ble_eq_true rfl) ?_
              rintro iv lv hG
              exact J128 iv lv hG
          · have r24 : Ra 5 400 x13 := rb_lt_r rl_4 hx13 (rb_nle q14) (by decide)
            exact J99 iv lv hG em6 em7
      refine z_icmp_ge (tgt := 79) zh dX6_readNumber_19 rfl (fun q25 => ?_) (fun q25 => ?_)
      · exact J79 iv lv hG em4 ex5
      · have r26 : Ra 0 399 x2 := rb_lt_l hx5 hx2 (rb_nle q25) (by decide)
        have r27 : Ra 1 400 x5 := rb_lt_r hx2 hx5 (rb_nle q25) (by decide)
        refine z_aloadnR zh dX6_readNumber_22 rfl ?_
        refine z_getf zh fl_Reader_9 dX6_readNumber_23 ck_R rfl rfl ?_
        refine z_iload zh dX6_readNumber_26 rfl ?_
        refine y_iald zh ck_tape dX6_readNumber_28 r26 (by decide) (by decide) (fun x28 ex28 => ?_)
        refine z_bipush zh dX6_readNumber_29 kb_48 ?_
        refine z_bipush zh dX6_readNumber_31 kb_57 ?_
        refine z_callSI zh ms_Reader_84 dX6_readNumber_33 (s_X8_within g) ⟨Nat.le_of_ble_eq_true rfl, Nat.le_of_ble_eq_true rfl⟩ rfl rfl (Nat.le_of_ble_eq_true rfl) ?_
        rintro x29 _ _ ⟨rfl, rfl, hx29, hz30⟩
        refine z_if_eq (tgt := 79) zh dX6_readNumber_36 rfl (fun q31 => ?_) (fun q31 => ?_)
        · have r32 := rb_eq (u := 0) (v := 0) hx29 ra_z q31 (by decide) (by decide)
          exact J79 iv lv hG em4 ex5
        · have r33 : Ra 1 1 x29 := rb_ne_lo hx29 ra_z q31 (by decide)
          have r34 : Ra 48 57 x28 := (rb_in rl_48 rl_57 (hz30 q31))
          refine z_iload zh dX6_readNumber_39 rfl ?_
          refine z_aloadnR zh dX6_readNumber_41 rfl ?_
          refine z_getI (x := x1) zh fl_Reader_28 dX6_readNumber_42 ck_R rfl rfl em4 ?_
          refine y_isub zh dX6_readNumber_45 r26 hx1 (u := (-400)) (v := 399) rfl rfl (by decide) (by decide) (fun x35 hc35 hx35 => ?_)
          refine z_iconst zh dX6_readNumber_46 ki_4 ?_
          have J71 : ∀ (iv : Iv) (lv : Lv) (x36 : Int32), SI sp σ iv → iv 541 3 = x1 → iv 541 1 = x5 → Z 71 [some (rf g 541), some (.int a1), some (.int a2), some (.int a3), some (.int x2), some (.int x3)] [.int x36] iv lv := by
            intro iv lv x36 hG em37 em38
            refine z_istore zh dX6_readNumber_71 (by decide) (L' := [some (rf g 541), some (.int a1), some (.int a2), some (.int a3), some (.int x2), some (.int x36)]) rfl ?_
            refine y_iinc (L' := fun z => [some (rf g 541), some (.int a1), some (.int a2), some (.int a3), some (.int z), some (.int x36)]) zh dX6_readNumber_73 (by decide) rfl (by decide +kernel) r26 (u := 1) (v := 400) rfl rfl (by decide) (by decide) (fun _ => rfl) (fun x39 hc39 hx39 => ?_)
            refine z_goto (tgt := 13) zh dX6_readNumber_76 rfl ?_
            exact ih13 iv lv x39 x36 hG (ra_w hx39 (by decide) (by decide)) em37 (ms_up hc39 (by decide) hn13)
          refine z_icmp_ge (tgt := 69) zh dX6_readNumber_47 rfl (fun q40 => ?_) (fun q40 => ?_)
          · have r41 : Ra 4 399 x35 := rb_le_r rl_4 hx35 q40 (by decide)
            refine z_iload zh dX6_readNumber_69 rfl ?_
            exact J71 iv lv x3 hG em4 ex5
          · have r42 : Ra (-400) 3 x35 := rb_lt_l rl_4 hx35 (rb_nle q40) (by decide)
            refine z_iload zh dX6_readNumber_50 rfl ?_
            refine z_bipush zh dX6_readNumber_52 kb_10 ?_
            refine y_imulT zh dX6_readNumber_54 (fun x43 => ?_)
            refine z_aloadnR zh dX6_readNumber_55 rfl ?_
            refine z_getf zh fl_Reader_9 dX6_readNumber_56 ck_R rfl rfl ?_
            refine z_iload zh dX6_readNumber_59 rfl ?_
            refine y_iald zh ck_tape dX6_readNumber_61 r26 (by decide) (by decide) (fun x44 ex44 => ?_)
            refine y_iaddT zh dX6_readNumber_62 (fun x45 => ?_)
            refine z_bipush zh dX6_readNumber_63 kb_48 ?_
            refine y_isubT zh dX6_readNumber_65 (fun x46 => ?_)
            refine z_goto (tgt := 71) zh dX6_readNumber_66 rfl ?_
            exact J71 iv lv x46 hG em4 ex5
  exact J13 401 iv lv x1 (nI 0) hG hx1 ex1 (ms_u0 hx1 (by decide))
theorem sTx_n : ∀ i, i < 10 → 0 < (sTx i).length := by decide +kernel
theorem sTx_m : ∀ i, i < 17 → ∀ j, j < (sTx i).length → ¬ (sTx i).getD j 0 = -1 := by decide +kernel
theorem e_X6_isHere (g : GE) {sp : Nat → Nat → Bool} {σ iv : Iv} {lv : Lv} {i : Nat} (hi : i < 10) (hG : SI sp σ iv) : ConI g yX6_isHere cX6_isHere 3 (some .boolean) 5 [rf g 541, rs g i] iv lv (fun r iv' lv' => iv = iv' ∧ lv = lv' ∧ Ra 0 1 r ∧ (¬ r = 0 → (iv 541 3).toInt + (sTx i).length ≤ 400)) := by
  refine con_intro (own := "RollingNets$Reader") (by decide +kernel) rfl (Nat.le_of_ble_eq_true rfl) (L0 := [some (rf g 541), some (rs g i), none]) rfl (fun Z zh => ?_)
  have h8 := sTx_31 i (by omega)
  have h0 := sTx_n i hi
  have en : (nI (sTx i).length).toInt = ((sTx i).length : Nat) := nI_toInt (by omega)
  have hn7 : Ra 0 7 (nI (sTx i).length) := ⟨by omega, by omega⟩
  obtain ⟨p, ep⟩ : ∃ p, iv 541 3 = p := ⟨_, rfl⟩
  have hp : Ra 0 401 p := ra_of ep (si_c hG (k := 541) (j := 3) rfl)
  refine z_iconst zh dX6_isHere_0 ki_0 ?_
  refine z_istoren zh dX6_isHere_1 (by decide) (L' := [some (rf g 541), some (rs g i), some (.int (nI 0))]) rfl ?_
  have J36 : ∀ k : Int32, p.toInt + (sTx i).length ≤ 400 → Z 36 [some (rf g 541), some (rs g i), some (.int k)] [] iv lv := by
    intro k hk
    refine z_aloadnR zh dX6_isHere_36 rfl ?_
    refine z_aloadnR zh dX6_isHere_37 rfl ?_
    refine z_getI (x := p) zh fl_Reader_28 dX6_isHere_38 ck_R rfl rfl ep ?_
    refine z_aloadn zh dX6_isHere_41 rfl ?_
    refine z_callOp zh mo_Reader_65 dX6_isHere_42 (by omega) (j_len (by omega)) ⟨Nat.le_of_ble_eq_true rfl, Nat.le_of_ble_eq_true rfl⟩ rfl rfl (Nat.le_of_ble_eq_true rfl) ?_
    refine y_iadd zh dX6_isHere_45 hp hn7 rfl rfl (by decide) (by decide) (fun z ez hz => ?_)
    refine z_callVI zh mv_Reader_80 dX6_isHere_46 ck_R rfl (e_X6_here g hG) ⟨Nat.le_of_ble_eq_true rfl, Nat.le_of_ble_eq_true rfl⟩ rfl rfl (Nat.le_of_ble_eq_true rfl) ?_
    rintro r _ _ ⟨rfl, rfl, _⟩
    refine z_callSI zh ms_Reader_99 dX6_isHere_49 (s_X6_isLetter g hG) ⟨Nat.le_of_ble_eq_true rfl, Nat.le_of_ble_eq_true rfl⟩ rfl rfl (Nat.le_of_ble_eq_true rfl) ?_
    rintro b _ _ ⟨rfl, rfl, _⟩
    refine z_if_ne (tgt := 59) zh dX6_isHere_52 rfl (fun _ => ?_) (fun _ => ?_)
    · refine z_iconst zh dX6_isHere_59 ki_0 ?_
      exact z_zret zh dX6_isHere_60 (Or.inl rfl) ⟨_, rfl, rfl, rfl, ⟨by decide, by decide⟩, fun q => absurd rfl q⟩
    · refine z_iconst zh dX6_isHere_55 ki_1 ?_
      refine z_goto (tgt := 60) zh dX6_isHere_56 rfl ?_
      exact z_zret zh dX6_isHere_60 (Or.inr rfl) ⟨_, rfl, rfl, rfl, ⟨by decide, by decide⟩, fun _ => by rw [ep]; exact hk⟩
  have J : ∀ (q j : Nat), j ≤ (sTx i).length → (j = 0 ∨ p.toInt + j ≤ 400) → (sTx i).length - j < q → Z 2 [some (rf g 541), some (rs g i), some (.int (nI j))] [] iv lv := by
    intro q
    induction q with
    | zero => intro j _ _ hn; omega
    | succ q ih =>
      intro j hj hk hn
      have ej : (nI j).toInt = (j : Nat) := nI_toInt (by omega)
      refine z_iloadn zh dX6_isHere_2 rfl ?_
      refine z_aloadn zh dX6_isHere_3 rfl ?_
      refine z_callOp zh mo_Reader_65 dX6_isHere_4 (by omega) (j_len (by omega)) ⟨Nat.le_of_ble_eq_true rfl, Nat.le_of_ble_eq_true rfl⟩ rfl rfl (Nat.le_of_ble_eq_true rfl) ?_
      refine z_icmp_ge (tgt := 36) zh dX6_isHere_7 rfl (fun q1 => ?_) (fun q1 => ?_)
      · rw [leI, en, ej] at q1
        exact J36 _ (by omega)
      · rw [leI, en, ej] at q1
        have hj1 : j < (sTx i).length := by omega
        refine z_aloadnR zh dX6_isHere_10 rfl ?_
        refine z_aloadnR zh dX6_isHere_11 rfl ?_
        refine z_getI (x := p) zh fl_Reader_28 dX6_isHere_12 ck_R rfl rfl ep ?_
        refine z_iloadn zh dX6_isHere_15 rfl ?_
        refine y_iadd zh dX6_isHere_16 hp (c := 0) (d := 7) ⟨by omega, by omega⟩ rfl rfl (by decide) (by decide) (fun z ez hz => ?_)
        refine z_callVI zh mv_Reader_80 dX6_isHere_17 ck_R rfl (e_X6_here g hG) ⟨Nat.le_of_ble_eq_true rfl, Nat.le_of_ble_eq_true rfl⟩ rfl rfl (Nat.le_of_ble_eq_true rfl) ?_
        rintro r _ _ ⟨rfl, rfl, hr⟩
        refine z_aloadn zh dX6_isHere_20 rfl ?_
        refine z_iloadn zh dX6_isHere_21 rfl ?_
        refine z_callOp zh mo_Reader_72 dX6_isHere_22 (by omega) (j_cha (by omega) hj1) ⟨Nat.le_of_ble_eq_true rfl, Nat.le_of_ble_eq_true rfl⟩ rfl rfl (Nat.le_of_ble_eq_true rfl) ?_
        refine z_icmp_eq (tgt := 30) zh dX6_isHere_25 rfl (fun q3 => ?_) (fun _ => ?_)
        · have hr := hr (by rw [q3]; exact sTx_m i (by omega) j hj1)
          refine y_iinc (L' := fun z => [some (rf g 541), some (rs g i), some (.int z)]) zh dX6_isHere_30 (by decide) rfl (by decide +kernel) (a := 0) (b := 7) ⟨by omega, by omega⟩ rfl rfl (by decide) (by decide) (fun _ => rfl) (fun w ew hw => ?_)
          have e9 : w = nI (j + 1) := Int32.toInt_inj.mp (by rw [ew, ej, nI_toInt (by omega)]; omega)
          subst e9
          refine z_goto (tgt := 2) zh dX6_isHere_33 rfl ?_
          exact ih (j + 1) (by omega) (Or.inr (by omega)) (by omega)
        · refine z_iconst zh dX6_isHere_28 ki_0 ?_
          exact z_zret zh dX6_isHere_29 (Or.inl rfl) ⟨_, rfl, rfl, rfl, ⟨by decide, by decide⟩, fun q => absurd rfl q⟩
  exact J 9 0 (by omega) (Or.inl rfl) (by omega)
theorem e_X6_wordHere (g : GE) {sp : Nat → Nat → Bool} {σ iv : Iv} {lv : Lv} (hG : SI sp σ iv) : ConI g yX6_wordHere cX6_wordHere 2 (some .int) 6 [rf g 541] iv lv (fun r iv' lv' => iv = iv' ∧ lv = lv' ∧ Ra (-1) 9 r ∧ (¬ r = -1 → ∀ i : Nat, (i : Int) = r.toInt → (iv 541 3).toInt + (sTx i).length ≤ 400)) := by
  refine con_intro (own := "RollingNets$Reader") (by decide +kernel) rfl (Nat.le_of_ble_eq_true rfl) (L0 := [some (rf g 541), none]) rfl (fun Z zh => ?_)
  refine z_iconst zh dX6_wordHere_0 ki_0 ?_
  refine z_istoren zh dX6_wordHere_1 (by decide) (L' := [some (rf g 541), some (.int (nI 0))]) rfl ?_
  have J : ∀ (q : Nat) (k : Int32), Ra 0 10 k → 10 - k.toInt < (q : Int) → Z 2 [some (rf g 541), some (.int k)] [] iv lv := by
    intro q
    induction q with
    | zero => intro k hk hn; exact (ms_uz hk hn).elim
    | succ q ih =>
      intro k hk hn
      refine z_iloadn zh dX6_wordHere_2 rfl ?_
      refine z_bipush zh dX6_wordHere_3 kb_10 ?_
      refine z_icmp_ge (tgt := 27) zh dX6_wordHere_5 rfl (fun _ => ?_) (fun q1 => ?_)
      · refine z_iconst zh dX6_wordHere_27 ki_m1 ?_
        exact z_iret zh dX6_wordHere_28 ⟨_, rfl, rfl, rfl, ra_w rl_n1 (by decide) (by decide), fun q => absurd rfl q⟩
      · have hk1 : Ra 0 9 k := rb_lt_l rl_10 hk (rb_nle q1) (by decide)
        refine z_aloadnR zh dX6_wordHere_8 rfl ?_
        refine z_iloadn zh dX6_wordHere_9 rfl ?_
        refine z_callST zh ms_Reader_61 dX6_wordHere_10 (s_X6_wordOf g hG) ⟨Nat.le_of_ble_eq_true rfl, Nat.le_of_ble_eq_true rfl⟩ rfl rfl (Nat.le_of_ble_eq_true rfl) ?_
        rintro i ⟨hi, he⟩
        refine z_callVI zh mv_Reader_95 dX6_wordHere_13 ck_R rfl (e_X6_isHere g hi hG) ⟨Nat.le_of_ble_eq_true rfl, Nat.le_of_ble_eq_true rfl⟩ rfl rfl (Nat.le_of_ble_eq_true rfl) ?_
        rintro r _ _ ⟨rfl, rfl, _, hr⟩
        refine z_if_eq (tgt := 21) zh dX6_wordHere_16 rfl (fun _ => ?_) (fun q2 => ?_)
        · refine y_iinc (L' := fun z => [some (rf g 541), some (.int z)]) zh dX6_wordHere_21 (by decide) rfl (by decide +kernel) hk1 rfl rfl (by decide) (by decide) (fun _ => rfl) (fun w ew hw => ?_)
          refine z_goto (tgt := 2) zh dX6_wordHere_24 rfl ?_
          exact ih w (ra_w hw (by decide) (by decide)) (ms_up ew (by decide) hn)
        · refine z_iloadn zh dX6_wordHere_19 rfl ?_
          exact z_iret zh dX6_wordHere_20 ⟨_, rfl, rfl, rfl, ra_w hk1 (by decide) (by decide), fun _ j hj => by
            have e9 : j = i := by have := he hk1; omega
            subst e9
            exact hr q2⟩
  exact J 11 (nI 0) (ra_w rl_0 (by decide) (by decide)) (ms_u0 rl_0 (by decide))
set_option maxHeartbeats 1000000 in
set_option maxRecDepth 20000 in
theorem f_X6_failHere (g : GE) {sp : Nat → Nat → Bool} {σ : Iv} {iv : Iv} {lv : Lv} {a1 p : Int32} (hG : SI sp σ iv) (hq : Sq sp) (ep : iv 541 3 = p) : ConV g yX6_failHere cX6_failHere 2 none 1 [rf g 541, .int a1] iv lv (fun iv lv => SI sp σ iv ∧ iv 541 3 = p) := by
  refine con_intro (own := "RollingNets$Reader") (by decide +kernel) rfl (Nat.le_of_ble_eq_true rfl) (L0 := [some (rf g 541), some (.int a1)]) rfl (fun Z zh => ?_)
  refine z_aloadnR zh dX6_failHere_0 rfl ?_
  refine z_iloadn zh dX6_failHere_1 rfl ?_
  refine z_putI zh fl_Reader_31 dX6_failHere_2 ck_R rfl rfl (Nat.le_of_ble_eq_true rfl) (Or.inl rfl) ?_
  have hG1 : SI sp σ (upI iv 541 4 a1) := si_w (k := 541) (j := 4) hG (by decide) (by decide) (sq_no hq rfl) (rx_none rfl)
  have ep1 : upI iv 541 4 a1 541 3 = p := (upI_ne (Or.inr (by decide))).trans ep
  revert hG1 ep1; generalize upI iv 541 4 a1 = iv; intro hG ep
  refine z_aloadnR zh dX6_failHere_5 rfl ?_
  refine z_aloadnR zh dX6_failHere_6 rfl ?_
  refine z_getI (x := p) zh fl_Reader_28 dX6_failHere_7 ck_R rfl rfl ep ?_
  refine z_putI zh fl_Reader_34 dX6_failHere_10 ck_R rfl rfl (Nat.le_of_ble_eq_true rfl) (Or.inl rfl) ?_
  exact z_vret zh dX6_failHere_13 ⟨rfl, si_w (k := 541) (j := 5) hG (by decide) (by decide) (sq_no hq rfl) (rx_none rfl), (upI_ne (Or.inr (by decide))).trans ep⟩

set_option maxHeartbeats 1000000 in
set_option maxRecDepth 20000 in
theorem s_X6_readLine (g : GE) {sp : Nat → Nat → Bool} {σ : Iv} {iv : Iv} {lv : Lv} (hG : SI sp σ iv) (hq : Sq sp) : ConV g yX6_readLine cX6_readLine 5 none 7 [rf g 541] iv lv (fun iv lv => SI sp σ iv) := by
  refine con_intro (own := "RollingNets$Reader") (by decide +kernel) rfl (Nat.le_of_ble_eq_true rfl) (L0 := [some (rf g 541), none, none, none, none]) rfl (fun Z zh => ?_)
  refine z_aloadnR zh dX6_readLine_0 rfl ?_
  refine z_callVI zh mv_Reader_46 dX6_readLine_1 ck_R rfl (e_X6_wordHere g hG) ⟨Nat.le_of_ble_eq_true rfl, Nat.le_of_ble_eq_true rfl⟩ rfl rfl (Nat.le_of_ble_eq_true rfl) ?_
  rintro w _ _ ⟨rfl, rfl, hw, hW⟩
  refine z_istoren zh dX6_readLine_4 (by decide) (L' := [some (rf g 541), some (.int w), none, none, none]) rfl ?_
  refine z_iloadn zh dX6_readLine_5 rfl ?_
  refine z_iconst zh dX6_readLine_6 ki_m1 ?_
  refine z_icmp_ne (tgt := 16) zh dX6_readLine_7 rfl (fun q1 => ?_) (fun _ => ?_)
  · have hw1 : Ra 0 9 w := rb_ne_lo hw rl_n1 q1 (by decide)
    obtain ⟨i, hi31, ewi, ei, _⟩ := ra_nat hw1 (by decide)
    have hi : i < 10 := by have := hw1.2; omega
    have hlen := hW q1 i ei
    have h8 := sTx_31 i (by omega)
    obtain ⟨p, ep⟩ : ∃ p, iv 541 3 = p := ⟨_, rfl⟩
    have hp : Ra 0 401 p := ra_of ep (si_c hG (k := 541) (j := 3) rfl)
    rw [ep] at hlen
    refine z_aloadnR zh dX6_readLine_16 rfl ?_
    refine z_getf zh fl_Reader_24 dX6_readLine_17 ck_R rfl rfl ?_
    refine z_callVI zh mv_Reader_54 dX6_readLine_20 (ck_T isT_r) rfl (f_X7_addRow g ep (Or.inr (by decide)) isT_r hG (ar_r hG hq).1 (ar_r hG hq).2) ⟨Nat.le_of_ble_eq_true rfl, Nat.le_of_ble_eq_true rfl⟩ rfl rfl (Nat.le_of_ble_eq_true rfl) ?_
    clear ep
    rintro rr iv lv ⟨⟨hG, hrr⟩, ep⟩
    refine z_istoren zh dX6_readLine_23 (by decide) (L' := [some (rf g 541), some (.int w), some (.int rr), none, none]) rfl ?_
    refine z_iloadn zh dX6_readLine_24 rfl ?_
    refine z_iconst zh dX6_readLine_25 ki_m1 ?_
    refine z_icmp_ne (tgt := 35) zh dX6_readLine_26 rfl (fun q2 => ?_) (fun _ => ?_)
    · refine z_aloadnR zh dX6_readLine_35 rfl ?_
      refine z_getf zh fl_Reader_24 dX6_readLine_36 ck_R rfl rfl ?_
      refine z_iconst zh dX6_readLine_39 ki_0 ?_
      refine z_iloadn zh dX6_readLine_40 rfl ?_
      refine z_iloadn zh dX6_readLine_41 rfl ?_
      refine z_callVV zh mv_Reader_57 dX6_readLine_42 (ck_T isT_r) rfl (f_X7_put g ep (Or.inr (by decide)) isT_r hG (pr_f hq)) ⟨Nat.le_of_ble_eq_true rfl, Nat.le_of_ble_eq_true rfl⟩ rfl rfl (Nat.le_of_ble_eq_true rfl) ?_
      clear ep
      rintro iv lv ⟨hG, ep⟩
      refine z_aloadnR zh dX6_readLine_45 rfl ?_
      refine z_dup zh dX6_readLine_46 rfl ?_
      refine z_getI (x := p) zh fl_Reader_28 dX6_readLine_47 ck_R rfl rfl ep ?_
      refine z_iloadn zh dX6_readLine_50 rfl ?_
      refine z_callST zh ms_Reader_61 dX6_readLine_51 (s_X6_wordOf g hG) ⟨Nat.le_of_ble_eq_true rfl, Nat.le_of_ble_eq_true rfl⟩ rfl rfl (Nat.le_of_ble_eq_true rfl) ?_
      rintro i2 ⟨hi2, he2⟩
      have ei2 : i2 = i := by have := he2 hw1; omega
      subst ei2
      refine z_callOp zh mo_Reader_65 dX6_readLine_54 (by omega) (j_len (by omega)) ⟨Nat.le_of_ble_eq_true rfl, Nat.le_of_ble_eq_true rfl⟩ rfl rfl (Nat.le_of_ble_eq_true rfl) ?_
      have en : (nI (sTx i2).length).toInt = ((sTx i2).length : Nat) := nI_toInt (by omega)
      refine y_iadd zh dX6_readLine_57 hp (c := 0) (d := 7) ⟨by omega, by omega⟩ rfl rfl (by decide) (by decide) (fun z ez hz => ?_)
      have hz4 : Ra 0 400 z := ⟨by have := hz.1; omega, by omega⟩
      refine z_putI zh fl_Reader_28 dX6_readLine_58 ck_R rfl rfl (Nat.le_of_ble_eq_true rfl) (Or.inl rfl) ?_
      have hG1 : SI sp σ (upI iv 541 3 z) := si_pl hG (ra_w hz4 (by decide) (by decide))
      have em : upI iv 541 3 z 541 3 = z := by rw [upI_at, if_pos ⟨rfl, rfl⟩]
      clear ep hG
      revert hG1 em; generalize upI iv 541 3 z = iv; intro hG em
      refine z_iloadn zh dX6_readLine_61 rfl ?_
      refine z_callST zh ms_Reader_69 dX6_readLine_62 (s_X6_shapeOf g hG) ⟨Nat.le_of_ble_eq_true rfl, Nat.le_of_ble_eq_true rfl⟩ rfl rfl (Nat.le_of_ble_eq_true rfl) ?_
      rintro s ⟨hs1, hs2⟩
      refine z_astoren zh dX6_readLine_65 (by decide) (L' := [some (rf g 541), some (.int w), some (.int rr), some (rs g s), none]) rfl ?_
      refine z_iconst zh dX6_readLine_66 ki_0 ?_
      refine z_istore zh dX6_readLine_67 (by decide) (L' := [some (rf g 541), some (.int w), some (.int rr), some (rs g s), some (.int (nI 0))]) rfl ?_
      have hs8 := sTx_31 s hs2
      have es : (nI (sTx s).length).toInt = ((sTx s).length : Nat) := nI_toInt (by omega)
      have J135 : ∀ (iv : Iv) (lv : Lv) (k z : Int32), SI sp σ iv → iv 541 3 = z → Ra 0 400 z → Z 135 [some (rf g 541), some (.int w), some (.int rr), some (rs g s), some (.int k)] [] iv lv := by
        intro iv lv k z hG em hz
        refine z_aloadnR zh dX6_readLine_135 rfl ?_
        refine z_dup zh dX6_readLine_136 rfl ?_
        refine z_getI (x := z) zh fl_Reader_28 dX6_readLine_137 ck_R rfl rfl em ?_
        refine z_iconst zh dX6_readLine_140 ki_1 ?_
        refine y_iadd zh dX6_readLine_141 hz (c := 1) (d := 1) ⟨by decide, by decide⟩ rfl rfl (by decide) (by decide) (fun y ey hy => ?_)
        refine z_putI zh fl_Reader_28 dX6_readLine_142 ck_R rfl rfl (Nat.le_of_ble_eq_true rfl) (Or.inl rfl) ?_
        exact z_vret zh dX6_readLine_145 ⟨rfl, si_pl hG (ra_w hy (by decide) (by decide))⟩
      have J106 : ∀ (iv : Iv) (lv : Lv) (k z : Int32), SI sp σ iv → iv 541 3 = z → Ra 0 400 z → Z 106 [some (rf g 541), some (.int w), some (.int rr), some (rs g s), some (.int k)] [] iv lv := by
        intro iv lv k z hG em hz
        refine z_aloadnR zh dX6_readLine_106 rfl ?_
        refine z_callVV zh mv_Reader_40 dX6_readLine_107 ck_R rfl (e_X6_skipBlanks g hG (by rw [em]; exact hz)) ⟨Nat.le_of_ble_eq_true rfl, Nat.le_of_ble_eq_true rfl⟩ rfl rfl (Nat.le_of_ble_eq_true rfl) ?_
        clear em hG hz
        rintro iv lv ⟨hG, z, em, hz⟩
        refine z_aloadnR zh dX6_readLine_110 rfl ?_
        refine y_getI zh fl_Reader_31 dX6_readLine_111 ck_R rfl rfl (fun f _ => ?_)
        refine z_if_ne (tgt := 135) zh dX6_readLine_114 rfl (fun _ => J135 iv lv k z hG em hz) (fun _ => ?_)
        refine z_aloadnR zh dX6_readLine_117 rfl ?_
        refine z_aloadnR zh dX6_readLine_118 rfl ?_
        refine z_getI (x := z) zh fl_Reader_28 dX6_readLine_119 ck_R rfl rfl em ?_
        refine z_callVI zh mv_Reader_80 dX6_readLine_122 ck_R rfl (e_X6_here g hG) ⟨Nat.le_of_ble_eq_true rfl, Nat.le_of_ble_eq_true rfl⟩ rfl rfl (Nat.le_of_ble_eq_true rfl) ?_
        rintro r _ _ ⟨rfl, rfl, _⟩
        refine z_bipush zh dX6_readLine_125 kb_59 ?_
        refine z_icmp_eq (tgt := 135) zh dX6_readLine_127 rfl (fun _ => J135 iv lv k z hG em hz) (fun _ => ?_)
        refine z_aloadnR zh dX6_readLine_130 rfl ?_
        refine z_iconst zh dX6_readLine_131 ki_1 ?_
        refine z_callVV zh mv_Reader_50 dX6_readLine_132 ck_R rfl (f_X6_failHere g hG hq em) ⟨Nat.le_of_ble_eq_true rfl, Nat.le_of_ble_eq_true rfl⟩ rfl rfl (Nat.le_of_ble_eq_true rfl) ?_
        clear hG em
        rintro iv lv ⟨hG, em⟩
        exact J135 iv lv k z hG em hz
      have J : ∀ (q j : Nat) (iv : Iv) (lv : Lv) (z : Int32), j ≤ (sTx s).length → SI sp σ iv → iv 541 3 = z → Ra 0 400 z → (sTx s).length - j < q → Z 69 [some (rf g 541), some (.int w), some (.int rr), some (rs g s), some (.int (nI j))] [] iv lv := by
        intro q
        induction q with
        | zero => intro j iv lv z _ _ _ _ hn; omega
        | succ q ih =>
          intro j iv lv z hj hG em hz hn
          have ej : (nI j).toInt = (j : Nat) := nI_toInt (by omega)
          refine z_iload zh dX6_readLine_69 rfl ?_
          refine z_aloadn zh dX6_readLine_71 rfl ?_
          refine z_callOp zh mo_Reader_65 dX6_readLine_72 hs2 (j_len hs2) ⟨Nat.le_of_ble_eq_true rfl, Nat.le_of_ble_eq_true rfl⟩ rfl rfl (Nat.le_of_ble_eq_true rfl) ?_
          refine z_icmp_ge (tgt := 106) zh dX6_readLine_75 rfl (fun _ => J106 iv lv _ z hG em hz) (fun q1 => ?_)
          rw [leI, es, ej] at q1
          have hj1 : j < (sTx s).length := by omega
          refine z_aloadnR zh dX6_readLine_78 rfl ?_
          refine y_getI zh fl_Reader_31 dX6_readLine_79 ck_R rfl rfl (fun f _ => ?_)
          refine z_if_ne (tgt := 106) zh dX6_readLine_82 rfl (fun _ => J106 iv lv _ z hG em hz) (fun _ => ?_)
          refine z_aloadnR zh dX6_readLine_85 rfl ?_
          refine z_iloadn zh dX6_readLine_86 rfl ?_
          refine z_iload zh dX6_readLine_87 rfl ?_
          refine z_iconst zh dX6_readLine_89 ki_1 ?_
          refine z_iadd zh dX6_readLine_90 ?_
          refine z_aloadn zh dX6_readLine_91 rfl ?_
          refine z_iload zh dX6_readLine_92 rfl ?_
          refine z_callOp zh mo_Reader_72 dX6_readLine_94 hs2 (j_cha hs2 hj1) ⟨Nat.le_of_ble_eq_true rfl, Nat.le_of_ble_eq_true rfl⟩ rfl rfl (Nat.le_of_ble_eq_true rfl) ?_
          refine z_callVV zh mv_Reader_76 dX6_readLine_97 ck_R rfl (e_X6_readNumber g hG hq em hz) ⟨Nat.le_of_ble_eq_true rfl, Nat.le_of_ble_eq_true rfl⟩ rfl rfl (Nat.le_of_ble_eq_true rfl) ?_
          clear hG em hz
          rintro iv lv ⟨hG, z, em, hz⟩
          refine y_iinc (L' := fun z => [some (rf g 541), some (.int w), some (.int rr), some (rs g s), some (.int z)]) zh dX6_readLine_100 (by decide) rfl (by decide +kernel) (a := 0) (b := 7) ⟨by omega, by omega⟩ rfl rfl (by decide) (by decide) (fun _ => rfl) (fun y ey hy => ?_)
          have e9 : y = nI (j + 1) := Int32.toInt_inj.mp (by rw [ey, ej, nI_toInt (by omega)]; omega)
          subst e9
          refine z_goto (tgt := 69) zh dX6_readLine_103 rfl ?_
          exact ih (j + 1) iv lv z (by omega) hG em hz (by omega)
      exact J 9 0 iv lv z (by omega) hG em hz4 (by omega)
    · refine z_aloadnR zh dX6_readLine_29 rfl ?_
      refine z_iconst zh dX6_readLine_30 ki_3 ?_
      refine z_callVV zh mv_Reader_50 dX6_readLine_31 ck_R rfl (f_X6_failHere g hG hq ep) ⟨Nat.le_of_ble_eq_true rfl, Nat.le_of_ble_eq_true rfl⟩ rfl rfl (Nat.le_of_ble_eq_true rfl) ?_
      rintro iv lv ⟨hG, _⟩
      exact z_vret zh dX6_readLine_34 ⟨rfl, hG⟩
  · refine z_aloadnR zh dX6_readLine_10 rfl ?_
    refine z_iconst zh dX6_readLine_11 ki_1 ?_
    refine z_callVV zh mv_Reader_50 dX6_readLine_12 ck_R rfl (f_X6_failHere g hG hq rfl) ⟨Nat.le_of_ble_eq_true rfl, Nat.le_of_ble_eq_true rfl⟩ rfl rfl (Nat.le_of_ble_eq_true rfl) ?_
    rintro iv lv ⟨hG, _⟩
    exact z_vret zh dX6_readLine_15 ⟨rfl, hG⟩
