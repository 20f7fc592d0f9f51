/-! MEMBERS, ISSUES, BOUNDS: told both ways; TRADES -/
def Mb (m x : Int32) : Prop := 0 ≤ x.toInt ∧ x.toInt < m.toInt
theorem bi_four {P Q : Prop} {r : Int32} {iv iv' : Iv} {lv lv' : Lv} (h : r = bi P ∧ iv' = iv ∧ lv' = lv) (hPQ : P → Q) : iv = iv' ∧ lv = lv' ∧ Ra 0 1 r ∧ (¬ r = 0 → Q) ∧ (r = 0 ↔ ¬ P) := by
  obtain ⟨rfl, rfl, rfl⟩ := h
  refine ⟨rfl, rfl, ?_, fun q => hPQ (Classical.byContradiction fun z => q (bi_0.mpr z)), bi_0⟩
  rcases bi_01 P with q | q <;> rw [q] <;> exact ⟨by decide, by decide⟩
theorem e_X1_hasMember (g : GE) {iv : Iv} {lv : Lv} {h : Nat} {a1 m : Int32} (hh : isH h) (em : iv (h + 1) 0 = m) : ConIp g yX1_hasMember cX1_hasMember 2 (some .boolean) 1 [rf g h, .int a1] iv lv (bi (Mb m a1)) := by
  refine con_intro (own := "RollingNets$House") (by decide +kernel) rfl (Nat.le_of_ble_eq_true rfl) (L0 := [some (rf g h), some (.int a1)]) rfl (fun Z zh => ?_)
  refine z_iloadn zh dX1_hasMember_0 rfl ?_
  refine z_if_lt (tgt := 18) zh dX1_hasMember_1 rfl (fun q1 => ?_) (fun q1 => ?_)
  · rw [lt0] at q1
    refine z_iconst zh dX1_hasMember_18 ki_0 ?_
    exact z_zret zh dX1_hasMember_19 (Or.inl rfl) (qI (bi_f (fun w => absurd w.1 (by omega))).symm)
  · rw [lt0] at q1
    refine z_iloadn zh dX1_hasMember_4 rfl ?_
    refine z_aloadnR zh dX1_hasMember_5 rfl ?_
    refine z_getf zh fl_House_13 dX1_hasMember_6 (ck_H hh) rfl rfl ?_
    refine z_iconst zh dX1_hasMember_9 ki_0 ?_
    refine z_ialdE (x := m) zh (ck_told hh) dX1_hasMember_10 (by decide) em ?_
    refine z_icmp_ge (tgt := 18) zh dX1_hasMember_11 rfl (fun q5 => ?_) (fun q5 => ?_)
    · rw [leI] at q5
      refine z_iconst zh dX1_hasMember_18 ki_0 ?_
      exact z_zret zh dX1_hasMember_19 (Or.inl rfl) (qI (bi_f (fun w => absurd w.2 (by omega))).symm)
    · rw [leI] at q5
      refine z_iconst zh dX1_hasMember_14 ki_1 ?_
      refine z_goto (tgt := 19) zh dX1_hasMember_15 rfl ?_
      exact z_zret zh dX1_hasMember_19 (Or.inr rfl) (qI (bi_t ⟨by omega, by omega⟩).symm)
theorem e_X9_memberMany (g : GE) {iv : Iv} {lv : Lv} {m : Int32} (hm : Ra 2 12 m) (em : (iv 552 0).toInt + 6 = m.toInt) : ConIp g yX9_memberMany cX9_memberMany 1 (some .int) 1 [rf g 551] iv lv m := by
  refine con_intro (own := "RollingNetsModel") (by decide +kernel) rfl (Nat.le_of_ble_eq_true rfl) (L0 := [some (rf g 551)]) rfl (fun Z zh => ?_)
  refine z_aloadnR zh dX9_memberMany_0 rfl ?_
  refine z_getf zh fl_Y_7 dX9_memberMany_1 ck_Y rfl rfl ?_
  refine z_iconst zh dX9_memberMany_4 ki_0 ?_
  refine y_ialdN zh ck_now dX9_memberMany_5 (by decide) (fun x1 ex1 => ?_)
  rw [ex1] at em
  refine z_bipush zh dX9_memberMany_6 kb_6 ?_
  have h1 := hm.1; have h2 := hm.2
  refine y_iadd zh dX9_memberMany_8 (a := -4) (b := 6) ⟨by omega, by omega⟩ rl_6 (u := 2) (v := 12) rfl rfl (by decide) (by decide) (fun x2 hc2 hx2 => ?_)
  have e6 : (nI 6).toInt = 6 := by decide
  exact z_iret zh dX9_memberMany_9 (qI (Int32.toInt_inj.mp (by omega)))
theorem e_X9_isMember (g : GE) {iv : Iv} {lv : Lv} {a1 m : Int32} (hm : Ra 2 12 m) (em : (iv 552 0).toInt + 6 = m.toInt) : ConIp g yX9_isMember cX9_isMember 2 (some .boolean) 2 [rf g 551, .int a1] iv lv (bi (Mb m a1)) := by
  refine con_intro (own := "RollingNetsModel") (by decide +kernel) rfl (Nat.le_of_ble_eq_true rfl) (L0 := [some (rf g 551), some (.int a1)]) rfl (fun Z zh => ?_)
  refine z_iloadn zh dX9_isMember_0 rfl ?_
  refine z_if_lt (tgt := 16) zh dX9_isMember_1 rfl (fun q1 => ?_) (fun q1 => ?_)
  · rw [lt0] at q1
    refine z_iconst zh dX9_isMember_16 ki_0 ?_
    exact z_zret zh dX9_isMember_17 (Or.inl rfl) (qI (bi_f (fun w => absurd w.1 (by omega))).symm)
  · rw [lt0] at q1
    refine z_iloadn zh dX9_isMember_4 rfl ?_
    refine z_aloadnR zh dX9_isMember_5 rfl ?_
    refine z_callVIp zh mv_Y_61 dX9_isMember_6 ck_Y rfl (e_X9_memberMany g hm em) ⟨Nat.le_of_ble_eq_true rfl, Nat.le_of_ble_eq_true rfl⟩ rfl rfl (Nat.le_of_ble_eq_true rfl) ?_
    refine z_icmp_ge (tgt := 16) zh dX9_isMember_9 rfl (fun q5 => ?_) (fun q5 => ?_)
    · rw [leI] at q5
      refine z_iconst zh dX9_isMember_16 ki_0 ?_
      exact z_zret zh dX9_isMember_17 (Or.inl rfl) (qI (bi_f (fun w => absurd w.2 (by omega))).symm)
    · rw [leI] at q5
      refine z_iconst zh dX9_isMember_12 ki_1 ?_
      refine z_goto (tgt := 17) zh dX9_isMember_13 rfl ?_
      exact z_zret zh dX9_isMember_17 (Or.inr rfl) (qI (bi_t ⟨by omega, by omega⟩).symm)
theorem mb_11 {m x : Int32} (hm : Ra 2 12 m) (h : Mb m x) : Ra 0 11 x := ⟨h.1, by have := hm.2; have := h.2; omega⟩

theorem t_X1_hasMember (g : GE) {iv : Iv} {lv : Lv} {h : Nat} {a1 : Int32} (hh : isH h)   {m : Int32} (hm : Ra 2 12 m) (em : iv (h + 1) 0 = m) : ConI g yX1_hasMember cX1_hasMember 2 (some .boolean) 1 [rf g h, .int a1] iv lv (fun r iv' lv' => iv = iv' ∧ lv = lv' ∧ Ra 0 1 r ∧ (¬ r = 0 → Ra 0 11 a1) ∧ (r = 0 ↔ ¬ (Mb m a1))) := con_mono (e_X1_hasMember g hh em) (fun r iv' lv' h => bi_four h (fun w => mb_11 hm w))
theorem t_X9_isMember (g : GE) {iv : Iv} {lv : Lv} {a1 : Int32}    {m : Int32} (hm : Ra 2 12 m) (em : (iv 552 0).toInt + 6 = m.toInt) : ConI g yX9_isMember cX9_isMember 2 (some .boolean) 2 [rf g 551, .int a1] iv lv (fun r iv' lv' => iv = iv' ∧ lv = lv' ∧ Ra 0 1 r ∧ (¬ r = 0 → Ra 0 11 a1) ∧ (r = 0 ↔ ¬ (Mb m a1))) := con_mono (e_X9_isMember g hm em) (fun r iv' lv' h => bi_four h (fun w => mb_11 hm w))
theorem t_X8_isIssue (g : GE) {iv : Iv} {lv : Lv} {a1 : Int32}     : ConI g yX8_isIssue cX8_isIssue 1 (some .boolean) 1 [.int a1] iv lv (fun r iv' lv' => iv = iv' ∧ lv = lv' ∧ Ra 0 1 r ∧ (¬ r = 0 → Ra 0 5 a1) ∧ (r = 0 ↔ ¬ (InN 6 a1))) := con_mono (c_isIssue g) (fun r iv' lv' h => bi_four h (fun w => inN6 w))
theorem t_X9_isIssue (g : GE) {iv : Iv} {lv : Lv} {a1 : Int32}     : ConI g yX9_isIssue cX9_isIssue 2 (some .boolean) 1 [rf g 551, .int a1] iv lv (fun r iv' lv' => iv = iv' ∧ lv = lv' ∧ Ra 0 1 r ∧ (¬ r = 0 → Ra 0 5 a1) ∧ (r = 0 ↔ ¬ (InN 6 a1))) := con_mono (c_y_isIssue g) (fun r iv' lv' h => bi_four h (fun w => inN6 w))
theorem t_X8_within (g : GE) {iv : Iv} {lv : Lv} {x1 x2 x3 : Int32} : ConI g yX8_within cX8_within 3 (some .boolean) 1 [.int x1, .int x2, .int x3] iv lv (fun r iv' lv' => iv = iv' ∧ lv = lv' ∧ Ra 0 1 r ∧ (¬ r = 0 → x2 ≤ x1 ∧ x1 ≤ x3) ∧ (r = 0 ↔ ¬ Rg x2 x3 x1)) := con_mono (c_within g) (fun r iv' lv' h => bi_four h (fun w => w))
theorem t_X9_isIn (g : GE) {iv : Iv} {lv : Lv} {x1 x2 x3 : Int32} : ConI g yX9_isIn cX9_isIn 4 (some .boolean) 1 [rf g 551, .int x1, .int x2, .int x3] iv lv (fun r iv' lv' => iv = iv' ∧ lv = lv' ∧ Ra 0 1 r ∧ (¬ r = 0 → x2 ≤ x1 ∧ x1 ≤ x3) ∧ (r = 0 ↔ ¬ Rg x2 x3 x1)) := con_mono (c_y_isIn g) (fun r iv' lv' h => bi_four h (fun w => w))
def TrOk (m b s i k p : Int32) : Prop := Mb m b ∧ Mb m s ∧ ¬ b = s ∧ InN 6 i ∧ Rg (nI 1) (nI 9999) k ∧ Rg (nI 1) (nI 9999) p
/-- what a trade answers, and how many TRADES there are behind it -/
def TrP (m n b s i k p r c : Int32) : Prop := (TrOk m b s i k p ∧ n.toInt < 200 → r = n ∧ c = n + nI 1) ∧ (¬ (TrOk m b s i k p ∧ n.toInt < 200) → r = -1 ∧ c = n)
theorem trp_no {m n b s i k p c : Int32} (h : ¬ (TrOk m b s i k p ∧ n.toInt < 200)) (e : c = n) : TrP m n b s i k p (-1) c := ⟨fun w => absurd w h, fun _ => ⟨rfl, e⟩⟩
theorem trp_yes {m n b s i k p r c : Int32} (h : TrOk m b s i k p ∧ n.toInt < 200) (e : r = n) (f : c = n + nI 1) : TrP m n b s i k p r c := ⟨fun _ => ⟨e, f⟩, fun w => absurd h w⟩
theorem trp_eq {m n b s i k p r c r' c' : Int32} (h : TrP m n b s i k p r c) (h' : TrP m n b s i k p r' c') : r = r' ∧ c = c' := by
  by_cases w : TrOk m b s i k p ∧ n.toInt < 200
  · exact ⟨(h.1 w).1.trans (h'.1 w).1.symm, (h.1 w).2.trans (h'.1 w).2.symm⟩
  · exact ⟨(h.2 w).1.trans (h'.2 w).1.symm, (h.2 w).2.trans (h'.2 w).2.symm⟩
/-- one more cell is told -/
def sp1 (sp : Nat → Nat → Bool) (k0 j0 : Nat) : Nat → Nat → Bool := fun k j => sp k j || (k == k0 && j == j0)
theorem si_add {sp : Nat → Nat → Bool} {σ iv : Iv} {k0 j0 : Nat} (hG : SI sp σ iv) (hs : spc k0 j0 = true) : SI (sp1 sp k0 j0) iv iv := by
  refine ⟨fun k j q => ?_, fun _ _ _ => rfl, hG.2.2⟩
  rcases Bool.or_eq_true_iff.mp q with w | w
  · exact hG.1 k j w
  · have w := Bool.and_eq_true_iff.mp w
    rw [eq_of_beq w.1, eq_of_beq w.2]; exact hs
theorem si_drop {sp : Nat → Nat → Bool} {σ i0 iv : Iv} {k0 j0 : Nat} (hS : SI sp σ i0) (hG : SI (sp1 sp k0 j0) i0 iv) : SI sp σ iv ∧ iv k0 j0 = i0 k0 j0 :=
  ⟨⟨hS.1, fun k j q => (hG.2.1 k j (by unfold sp1; rw [q]; rfl)).trans (hS.2.1 k j q), hG.2.2⟩, hG.2.1 k0 j0 (by unfold sp1; rw [beq_self_eq_true, beq_self_eq_true]; exact Bool.or_true _)⟩
theorem spc_Hk {h r j : Nat} (hh : isH h) (hr : r < 180) (e : spH r j = true) : spc (h + r) j = true := (spc_H hh hr).trans e
theorem add_1 {n z : Int32} (h : z.toInt = n.toInt + (nI 1).toInt) (hn : Ra 0 200 n) : z = n + nI 1 := by
  refine Int32.toInt_inj.mp ?_
  have e1 : (nI 1).toInt = 1 := by decide
  have h1 := hn.1; have h2 := hn.2
  rw [Int32.toInt_add, bm32 (by omega) (by omega)]
  exact h

theorem e_X7_isFull (g : GE) {t cc nn : Nat} {iv : Iv} {lv : Lv} (ht : isT t cc nn) {n : Int32} (hc : iv t 2 = n) : ConI g yX7_isFull cX7_isFull 1 (some .boolean) 1 [rf g t] iv lv (fun r iv' lv' => iv = iv' ∧ lv = lv' ∧ Ra 0 1 r ∧ (r = 0 → n.toInt < nn) ∧ (¬ r = 0 → ¬ n.toInt < nn)) := by
  refine con_intro (own := "RollingNets$Table") (by decide +kernel) rfl (Nat.le_of_ble_eq_true rfl) (L0 := [some (rf g t)]) rfl (fun Z zh => ?_)
  have hb := isT_b31 ht
  have en : (nI nn).toInt = nn := nI_toInt (by omega)
  refine z_aloadnR zh dX7_isFull_0 rfl ?_
  refine z_getI (x := n) zh fl_Table_20 dX7_isFull_1 (ck_T ht) rfl rfl hc ?_
  refine z_aloadnR zh dX7_isFull_4 rfl ?_
  refine z_getI (x := nI nn) zh fl_Table_16 dX7_isFull_5 (ck_T ht) rfl rfl rfl ?_
  refine z_icmp_lt (tgt := 15) zh dX7_isFull_8 rfl (fun q => ?_) (fun q => ?_)
  · rw [ltI, en] at q
    refine z_iconst zh dX7_isFull_15 ki_0 ?_
    exact z_zret zh dX7_isFull_16 (Or.inl rfl) ⟨_, rfl, rfl, rfl, ⟨by decide, by decide⟩, fun _ => q, fun z => absurd rfl z⟩
  · rw [ltI, en] at q
    refine z_iconst zh dX7_isFull_11 ki_1 ?_
    refine z_goto (tgt := 16) zh dX7_isFull_12 rfl ?_
    exact z_zret zh dX7_isFull_16 (Or.inr rfl) ⟨_, rfl, rfl, rfl, ⟨by decide, by decide⟩, fun z => absurd z (by decide), fun _ => q⟩
theorem e_X7_addRow (g : GE) {t cc nn : Nat} {sp : Nat → Nat → Bool} {σ iv : Iv} {lv : Lv} {n : Int32} (ht : isT t cc nn) (hc : iv t 2 = n) (hG : SI sp σ iv) (hs : sp t 2 = false) (hc9 : ∀ c j, c < cc → sp (t + 2 + c) j = false) : ConI g yX7_addRow cX7_addRow 2 (some .int) 2 [rf g t] iv lv (fun r iv lv => SI sp σ iv ∧ Ra (-1) ((nn : Int) - 1) r ∧ (n.toInt < nn → r = n ∧ iv t 2 = n + nI 1) ∧ (¬ n.toInt < nn → r = -1 ∧ iv t 2 = n)) := by
  refine con_intro (own := "RollingNets$Table") (by decide +kernel) rfl (Nat.le_of_ble_eq_true rfl) (L0 := [some (rf g t), none]) rfl (fun Z zh => ?_)
  have hb := isT_b31 ht
  have ec : (nI cc).toInt = cc := nI_toInt (by omega)
  refine z_aloadnR zh dX7_addRow_0 rfl ?_
  have hn : Ra 0 nn n := ra_of hc (si_T hG ht)
  have hn1 := hn.1
  refine z_callVI zh mv_Table_23 dX7_addRow_1 (ck_T ht) rfl (e_X7_isFull g ht hc) ⟨Nat.le_of_ble_eq_true rfl, Nat.le_of_ble_eq_true rfl⟩ rfl rfl (Nat.le_of_ble_eq_true rfl) ?_
  rintro r _ _ ⟨rfl, rfl, h01, hlt, hfu⟩
  refine z_if_eq (tgt := 9) zh dX7_addRow_4 rfl (fun q => ?_) (fun q => ?_)
  · have hlt := hlt q
    refine z_iconst zh dX7_addRow_9 ki_0 ?_
    refine z_istoren zh dX7_addRow_10 (by decide) (L' := [some (rf g t), some (.int (nI 0))]) rfl ?_
    have J : ∀ (k : Nat) (iv : Iv) (lv : Lv) (x : Int32), SI sp σ iv → iv t 2 = n → Ra 0 cc x → (cc : Int) - x.toInt < (k : Int) → Z 11 [some (rf g t), some (.int x)] [] iv lv := by
      intro k
      induction k with
      | zero => intro iv lv x hG hc hx hk; exact (ms_uz hx hk).elim
      | succ k ih =>
        intro iv lv x hG hc hx hk
        refine z_iloadn zh dX7_addRow_11 rfl ?_
        refine z_aloadnR zh dX7_addRow_12 rfl ?_
        refine z_getf zh fl_Table_11 dX7_addRow_13 (ck_T ht) rfl rfl ?_
        refine z_alenG zh (ck_Tc ht) dX7_addRow_16 ?_
        refine z_icmp_ge (tgt := 38) zh dX7_addRow_17 rfl (fun q => ?_) (fun q => ?_)
        · refine z_aloadnR zh dX7_addRow_38 rfl ?_
          refine z_dup zh dX7_addRow_39 rfl ?_
          refine z_getI (x := n) zh fl_Table_20 dX7_addRow_40 (ck_T ht) rfl rfl hc ?_
          refine z_iconst zh dX7_addRow_43 ki_1 ?_
          refine y_iadd zh dX7_addRow_44 (a := 0) (b := (nn : Int) - 1) (c := 1) (d := 1) ⟨by omega, by omega⟩ ⟨by decide, by decide⟩ rfl rfl (by decide) (by omega) (fun z ez hz => ?_)
          refine z_putI zh fl_Table_20 dX7_addRow_45 (ck_T ht) rfl rfl (Nat.le_of_ble_eq_true rfl) (Or.inl rfl) ?_
          have hk9 := tt_ne ht (q := 0) (by omega)
          have hG := si_w (x := z) hG hk9.1 hk9.2 hs (fun l u e => by
            have := rg_Tn ht e
            rw [this.1, this.2]
            exact ra_w hz (by decide) (by omega))
          have em : upI iv t 2 z t 2 = z := by rw [upI_at, if_pos ⟨rfl, rfl⟩]
          generalize upI iv t 2 z = iv at hG em ⊢
          refine z_aloadnR zh dX7_addRow_48 rfl ?_
          refine z_getI (x := z) zh fl_Table_20 dX7_addRow_49 (ck_T ht) rfl rfl em ?_
          refine z_iconst zh dX7_addRow_52 ki_1 ?_
          refine y_isub zh dX7_addRow_53 hz (c := 1) (d := 1) ⟨by decide, by decide⟩ rfl rfl (by decide) (by omega) (fun w ew hw => ?_)
          have e11 : (nI 1).toInt = 1 := by decide
          exact z_iret zh dX7_addRow_54 ⟨_, rfl, hG, ra_w hw (by decide) (by omega), fun _ => ⟨Int32.toInt_inj.mp (by omega), em.trans (Int32.toInt_inj.mp (by rw [Int32.toInt_add, bm32 (by omega) (by omega)]; exact ez))⟩, fun w => absurd hlt w⟩
        · rw [leI, ec] at q
          have hx1 := hx.1
          refine z_aloadnR zh dX7_addRow_20 rfl ?_
          refine z_getf zh fl_Table_11 dX7_addRow_21 (ck_T ht) rfl rfl ?_
          refine z_iloadn zh dX7_addRow_24 rfl ?_
          refine y_gald zh (ck_Tc ht) dX7_addRow_25 (a := 0) (b := (cc : Int) - 1) (x := x) ⟨by omega, by omega⟩ (by omega) (by omega) (fun j hj ej e => ?_)
          refine z_aloadnR zh dX7_addRow_26 rfl ?_
          refine z_getI (x := n) zh fl_Table_20 dX7_addRow_27 (ck_T ht) rfl rfl hc ?_
          refine z_iconst zh dX7_addRow_30 ki_0 ?_
          refine z_iast zh (ck_Tr ht hj) dX7_addRow_31 (ra_in (lo := 0) (hi := (nn : Int) - 1) ⟨by omega, by omega⟩ (by omega) (by omega)) ?_
          have hk9 := tt_ne ht (q := 2 + j) (by omega)
          have hG := si_w (k := t + 2 + j) (j := n.toNatClampNeg) (x := nI 0) hG (by omega) (by omega) (hc9 j _ hj) (fun l u e => by
            have := rg_Tr ht hj e
            exact ⟨this.1, this.2⟩)
          have hc := (upI_ne (iv := iv) (k := t + 2 + j) (j := n.toNatClampNeg) (x := nI 0) (a := t) (b := 2) (Or.inl (by omega))).trans hc
          generalize upI iv (t + 2 + j) n.toNatClampNeg (nI 0) = iv at hG hc ⊢
          refine y_iinc (L' := fun z => [some (rf g t), some (.int z)]) zh dX7_addRow_32 (by decide) rfl (by decide +kernel) (a := 0) (b := (cc : Int) - 1) ⟨by omega, by omega⟩ rfl rfl (by decide) (by omega) (fun _ => rfl) (fun z ez hz => ?_)
          refine z_goto (tgt := 11) zh dX7_addRow_35 rfl ?_
          exact ih iv lv z hG hc (ra_w hz (by decide) (by omega)) (ms_up ez (by decide) hk)
    have e0 : (nI 0).toInt = 0 := by decide
    exact J (cc + 1) iv lv (nI 0) hG hc ⟨by omega, by omega⟩ (by omega)
  · refine z_iconst zh dX7_addRow_7 ki_m1 ?_
    have e1 : (-1 : Int32).toInt = -1 := by decide
    exact z_iret zh dX7_addRow_8 ⟨_, rfl, hG, ⟨by omega, by omega⟩, fun w => absurd w (hfu q), fun _ => ⟨rfl, hc⟩⟩
theorem byc {p : Prop} (h : ¬ ¬ p) : p := Classical.byContradiction h
set_option maxRecDepth 20000 in
theorem e_X1_addDeal (g : GE) {sp : Nat → Nat → Bool} {σ : Iv} {iv : Iv} {lv : Lv} {h : Nat} {a1 : Int32} {a2 : Int32} {a3 : Int32} {a4 : Int32} {a5 : Int32} {a6 : Int32} (hh : isH h) (ha6 : Ra 0 1 a6) {m n : Int32} (hG : SI sp σ iv) (hq : Sk sp) (hD : sp (h + 7) 2 = false) (em : iv (h + 1) 0 = m) (en : iv (h + 7) 2 = n) : ConI g yX1_addDeal cX1_addDeal 8 (some .int) 3 [rf g h, .int a1, .int a2, .int a3, .int a4, .int a5, .int a6] iv lv (fun r iv lv => SI sp σ iv ∧ Ra (-1) 199 r ∧ TrP m n a1 a2 a3 a4 a5 r (iv (h + 7) 2)) := by
  have hm : Ra 2 12 m := ra_of em (si_H hG hh 1 (by decide) rfl)
  refine con_intro (own := "RollingNets$House") (by decide +kernel) rfl (Nat.le_of_ble_eq_true rfl) (L0 := [some (rf g h), some (.int a1), some (.int a2), some (.int a3), some (.int a4), some (.int a5), some (.int a6), none]) rfl (fun Z zh => ?_)
  refine z_aloadnR zh dX1_addDeal_0 rfl ?_
  refine z_iloadn zh dX1_addDeal_1 rfl ?_
  refine z_callVI zh mv_House_122 dX1_addDeal_2 (ck_H hh) rfl (t_X1_hasMember g hh hm em) ⟨Nat.le_of_ble_eq_true rfl, Nat.le_of_ble_eq_true rfl⟩ rfl rfl (Nat.le_of_ble_eq_true rfl) ?_
  rintro x1 _ _ ⟨rfl, rfl, hx1, hz2, hw1⟩
  refine z_if_eq (tgt := 28) zh dX1_addDeal_5 rfl (fun q3 => ?_) (fun q3 => ?_)
  · have r4 := rb_eq (u := 0) (v := 0) hx1 ra_z q3 (by decide) (by decide)
    refine z_iconst zh dX1_addDeal_28 ki_m1 ?_
    exact z_iret zh dX1_addDeal_29 ⟨_, rfl, hG, (ra_w rl_n1 (by decide) (by decide)), trp_no (fun w => (hw1.mp q3) w.1.1) en⟩
  · have r5 : Ra 1 1 x1 := rb_ne_lo hx1 ra_z q3 (by decide)
    have r6 : Ra 0 11 a1 := (hz2 q3)
    refine z_aloadnR zh dX1_addDeal_8 rfl ?_
    refine z_iloadn zh dX1_addDeal_9 rfl ?_
    refine z_callVI zh mv_House_122 dX1_addDeal_10 (ck_H hh) rfl (t_X1_hasMember g hh hm em) ⟨Nat.le_of_ble_eq_true rfl, Nat.le_of_ble_eq_true rfl⟩ rfl rfl (Nat.le_of_ble_eq_true rfl) ?_
    rintro x7 _ _ ⟨rfl, rfl, hx7, hz8, hw7⟩
    refine z_if_eq (tgt := 28) zh dX1_addDeal_13 rfl (fun q9 => ?_) (fun q9 => ?_)
    · have r10 := rb_eq (u := 0) (v := 0) hx7 ra_z q9 (by decide) (by decide)
      refine z_iconst zh dX1_addDeal_28 ki_m1 ?_
      exact z_iret zh dX1_addDeal_29 ⟨_, rfl, hG, (ra_w rl_n1 (by decide) (by decide)), trp_no (fun w => (hw7.mp q9) w.1.2.1) en⟩
    · have r11 : Ra 1 1 x7 := rb_ne_lo hx7 ra_z q9 (by decide)
      have r12 : Ra 0 11 a2 := (hz8 q9)
      refine z_iloadn zh dX1_addDeal_16 rfl ?_
      refine z_iloadn zh dX1_addDeal_17 rfl ?_
      refine z_icmp_eq (tgt := 28) zh dX1_addDeal_18 rfl (fun q13 => ?_) (fun q13 => ?_)
      · refine z_iconst zh dX1_addDeal_28 ki_m1 ?_
        exact z_iret zh dX1_addDeal_29 ⟨_, rfl, hG, (ra_w rl_n1 (by decide) (by decide)), trp_no (fun w => w.1.2.2.1 q13) en⟩
      · refine z_iloadn zh dX1_addDeal_21 rfl ?_
        refine z_callSI zh ms_House_134 dX1_addDeal_22 (t_X8_isIssue g) ⟨Nat.le_of_ble_eq_true rfl, Nat.le_of_ble_eq_true rfl⟩ rfl rfl (Nat.le_of_ble_eq_true rfl) ?_
        rintro x15 _ _ ⟨rfl, rfl, hx15, hz16, hw15⟩
        refine z_if_ne (tgt := 30) zh dX1_addDeal_25 rfl (fun q17 => ?_) (fun q17 => ?_)
        · have r18 : Ra 1 1 x15 := rb_ne_lo hx15 ra_z q17 (by decide)
          have r19 : Ra 0 5 a3 := (hz16 q17)
          refine z_iload zh dX1_addDeal_30 rfl ?_
          refine z_iconst zh dX1_addDeal_32 ki_1 ?_
          refine z_sipush zh dX1_addDeal_33 ks_9999 ?_
          refine z_callSI zh ms_House_137 dX1_addDeal_36 (t_X8_within g) ⟨Nat.le_of_ble_eq_true rfl, Nat.le_of_ble_eq_true rfl⟩ rfl rfl (Nat.le_of_ble_eq_true rfl) ?_
          rintro x20 _ _ ⟨rfl, rfl, hx20, hz21, hw20⟩
          refine z_if_eq (tgt := 54) zh dX1_addDeal_39 rfl (fun q22 => ?_) (fun q22 => ?_)
          · have r23 := rb_eq (u := 0) (v := 0) hx20 ra_z q22 (by decide) (by decide)
            refine z_iconst zh dX1_addDeal_54 ki_m1 ?_
            exact z_iret zh dX1_addDeal_55 ⟨_, rfl, hG, (ra_w rl_n1 (by decide) (by decide)), trp_no (fun w => (hw20.mp q22) w.1.2.2.2.2.1) en⟩
          · have r24 : Ra 1 1 x20 := rb_ne_lo hx20 ra_z q22 (by decide)
            have r25 : Ra 1 9999 a4 := (rb_in rl_1 rl_9999 (hz21 q22))
            refine z_iload zh dX1_addDeal_42 rfl ?_
            refine z_iconst zh dX1_addDeal_44 ki_1 ?_
            refine z_sipush zh dX1_addDeal_45 ks_9999 ?_
            refine z_callSI zh ms_House_137 dX1_addDeal_48 (t_X8_within g) ⟨Nat.le_of_ble_eq_true rfl, Nat.le_of_ble_eq_true rfl⟩ rfl rfl (Nat.le_of_ble_eq_true rfl) ?_
            rintro x26 _ _ ⟨rfl, rfl, hx26, hz27, hw26⟩
            refine z_if_ne (tgt := 56) zh dX1_addDeal_51 rfl (fun q28 => ?_) (fun q28 => ?_)
            · have r29 : Ra 1 1 x26 := rb_ne_lo hx26 ra_z q28 (by decide)
              have r30 : Ra 1 9999 a5 := (rb_in rl_1 rl_9999 (hz27 q28))
              refine z_aloadnR zh dX1_addDeal_56 rfl ?_
              refine z_getf zh fl_House_43 dX1_addDeal_57 (ck_H hh) rfl rfl ?_
              refine z_callVI zh mv_House_126 dX1_addDeal_60 (ck_T (isT_d hh)) rfl (e_X7_addRow g (isT_d hh) en hG (ark_d hG hq hD hh).1 (ark_d hG hq hD hh).2) ⟨Nat.le_of_ble_eq_true rfl, Nat.le_of_ble_eq_true rfl⟩ rfl rfl (Nat.le_of_ble_eq_true rfl) ?_
              rintro x31 iv lv ⟨hG, hx31, hy31, hn31⟩
              obtain ⟨i0, e0⟩ : ∃ z, z = iv := ⟨_, rfl⟩
              rw [← e0] at hy31 hn31
              have hS : SI sp σ i0 := by rw [e0]; exact hG
              have hG : SI (sp1 sp (h + 7) 2) i0 iv := by rw [e0]; exact si_add hG (spc_Hk hh (by decide) rfl)
              refine z_istore zh dX1_addDeal_63 (by decide) (L' := [some (rf g h), some (.int a1), some (.int a2), some (.int a3), some (.int a4), some (.int a5), some (.int a6), some (.int x31)]) rfl ?_
              refine z_aloadnR zh dX1_addDeal_65 rfl ?_
              refine z_getf zh fl_House_43 dX1_addDeal_66 (ck_H hh) rfl rfl ?_
              refine z_iconst zh dX1_addDeal_69 ki_0 ?_
              refine z_iload zh dX1_addDeal_70 rfl ?_
              refine z_iloadn zh dX1_addDeal_72 rfl ?_
              refine z_callVV zh mv_House_130 dX1_addDeal_73 (ck_T (isT_d hh)) rfl (s_X7_put g (isT_d hh) hG (pd_r hG hh rl_0 (by decide) (by decide) r6)) ⟨Nat.le_of_ble_eq_true rfl, Nat.le_of_ble_eq_true rfl⟩ rfl rfl (Nat.le_of_ble_eq_true rfl) ?_
              rintro iv lv hG
              refine z_aloadnR zh dX1_addDeal_76 rfl ?_
              refine z_getf zh fl_House_43 dX1_addDeal_77 (ck_H hh) rfl rfl ?_
              refine z_iconst zh dX1_addDeal_80 ki_1 ?_
              refine z_iload zh dX1_addDeal_81 rfl ?_
              refine z_iloadn zh dX1_addDeal_83 rfl ?_
              refine z_callVV zh mv_House_130 dX1_addDeal_84 (ck_T (isT_d hh)) rfl (s_X7_put g (isT_d hh) hG (pd_r hG hh rl_1 (by decide) (by decide) r12)) ⟨Nat.le_of_ble_eq_true rfl, Nat.le_of_ble_eq_true rfl⟩ rfl rfl (Nat.le_of_ble_eq_true rfl) ?_
              rintro iv lv hG
              refine z_aloadnR zh dX1_addDeal_87 rfl ?_
              refine z_getf zh fl_House_43 dX1_addDeal_88 (ck_H hh) rfl rfl ?_
              refine z_iconst zh dX1_addDeal_91 ki_2 ?_
              refine z_iload zh dX1_addDeal_92 rfl ?_
              refine z_iloadn zh dX1_addDeal_94 rfl ?_
              refine z_callVV zh mv_House_130 dX1_addDeal_95 (ck_T (isT_d hh)) rfl (s_X7_put g (isT_d hh) hG (pd_f hG hh rl_2 (by decide))) ⟨Nat.le_of_ble_eq_true rfl, Nat.le_of_ble_eq_true rfl⟩ rfl rfl (Nat.le_of_ble_eq_true rfl) ?_
              rintro iv lv hG
              refine z_aloadnR zh dX1_addDeal_98 rfl ?_
              refine z_getf zh fl_House_43 dX1_addDeal_99 (ck_H hh) rfl rfl ?_
              refine z_iconst zh dX1_addDeal_102 ki_3 ?_
              refine z_iload zh dX1_addDeal_103 rfl ?_
              refine z_iload zh dX1_addDeal_105 rfl ?_
              refine z_callVV zh mv_House_130 dX1_addDeal_107 (ck_T (isT_d hh)) rfl (s_X7_put g (isT_d hh) hG (pd_f hG hh rl_3 (by decide))) ⟨Nat.le_of_ble_eq_true rfl, Nat.le_of_ble_eq_true rfl⟩ rfl rfl (Nat.le_of_ble_eq_true rfl) ?_
              rintro iv lv hG
              refine z_aloadnR zh dX1_addDeal_110 rfl ?_
              refine z_getf zh fl_House_43 dX1_addDeal_111 (ck_H hh) rfl rfl ?_
              refine z_iconst zh dX1_addDeal_114 ki_4 ?_
              refine z_iload zh dX1_addDeal_115 rfl ?_
              refine z_iload zh dX1_addDeal_117 rfl ?_
              refine z_callVV zh mv_House_130 dX1_addDeal_119 (ck_T (isT_d hh)) rfl (s_X7_put g (isT_d hh) hG (pd_f hG hh rl_4 (by decide))) ⟨Nat.le_of_ble_eq_true rfl, Nat.le_of_ble_eq_true rfl⟩ rfl rfl (Nat.le_of_ble_eq_true rfl) ?_
              rintro iv lv hG
              refine z_aloadnR zh dX1_addDeal_122 rfl ?_
              refine z_getf zh fl_House_43 dX1_addDeal_123 (ck_H hh) rfl rfl ?_
              refine z_iconst zh dX1_addDeal_126 ki_5 ?_
              refine z_iload zh dX1_addDeal_127 rfl ?_
              refine z_iload zh dX1_addDeal_129 rfl ?_
              refine z_callVV zh mv_House_130 dX1_addDeal_131 (ck_T (isT_d hh)) rfl (s_X7_put g (isT_d hh) hG (pd_f hG hh rl_5 (by decide))) ⟨Nat.le_of_ble_eq_true rfl, Nat.le_of_ble_eq_true rfl⟩ rfl rfl (Nat.le_of_ble_eq_true rfl) ?_
              rintro iv lv hG
              refine z_aloadnR zh dX1_addDeal_134 rfl ?_
              refine z_getf zh fl_House_43 dX1_addDeal_135 (ck_H hh) rfl rfl ?_
              refine z_bipush zh dX1_addDeal_138 kb_6 ?_
              refine z_iload zh dX1_addDeal_140 rfl ?_
              refine z_aloadnR zh dX1_addDeal_142 rfl ?_
              refine y_getI zh fl_House_60 dX1_addDeal_143 (ck_H hh) rfl rfl (fun x32 ex32 => ?_)
              have hx32 : Ra 0 99 x32 := ra_of ex32 (si_H hG hh 0 (by decide) rfl)
              refine z_aloadnR zh dX1_addDeal_146 rfl ?_
              refine z_getf zh fl_House_13 dX1_addDeal_147 (ck_H hh) rfl rfl ?_
              refine z_iconst zh dX1_addDeal_150 ki_1 ?_
              refine y_ialdN zh (ck_told hh) dX1_addDeal_151 (by decide) (fun x33 ex33 => ?_)
              refine y_iaddT zh dX1_addDeal_152 (fun x34 => ?_)
              refine z_callVV zh mv_House_130 dX1_addDeal_153 (ck_T (isT_d hh)) rfl (s_X7_put g (isT_d hh) hG (pd_f hG hh rl_6 (by decide))) ⟨Nat.le_of_ble_eq_true rfl, Nat.le_of_ble_eq_true rfl⟩ rfl rfl (Nat.le_of_ble_eq_true rfl) ?_
              rintro iv lv hG
              refine z_aloadnR zh dX1_addDeal_156 rfl ?_
              refine z_getf zh fl_House_43 dX1_addDeal_157 (ck_H hh) rfl rfl ?_
              refine z_bipush zh dX1_addDeal_160 kb_7 ?_
              refine z_iload zh dX1_addDeal_162 rfl ?_
              refine z_iload zh dX1_addDeal_164 rfl ?_
              refine z_callVV zh mv_House_130 dX1_addDeal_166 (ck_T (isT_d hh)) rfl (s_X7_put g (isT_d hh) hG (pd_f hG hh rl_7 (by decide))) ⟨Nat.le_of_ble_eq_true rfl, Nat.le_of_ble_eq_true rfl⟩ rfl rfl (Nat.le_of_ble_eq_true rfl) ?_
              rintro iv lv hG
              refine z_iload zh dX1_addDeal_169 rfl ?_
              have hd := si_drop hS hG
              have hok : TrOk m a1 a2 a3 a4 a5 := ⟨byc (mt hw1.mpr q3), byc (mt hw7.mpr q9), q13, byc (mt hw15.mpr q17), byc (mt hw20.mpr q22), byc (mt hw26.mpr q28)⟩
              refine z_iret zh dX1_addDeal_171 ⟨_, rfl, hd.1, hx31, ?_⟩
              rw [hd.2]
              by_cases hn9 : n.toInt < 200
              · exact trp_yes ⟨hok, hn9⟩ (hy31 hn9).1 (hy31 hn9).2
              · rw [(hn31 hn9).1]; exact trp_no (fun w => hn9 w.2) (hn31 hn9).2
            · have r35 := rb_eq (u := 0) (v := 0) hx26 ra_z q28 (by decide) (by decide)
              refine z_iconst zh dX1_addDeal_54 ki_m1 ?_
              exact z_iret zh dX1_addDeal_55 ⟨_, rfl, hG, (ra_w rl_n1 (by decide) (by decide)), trp_no (fun w => (hw26.mp q28) w.1.2.2.2.2.2) en⟩
        · have r36 := rb_eq (u := 0) (v := 0) hx15 ra_z q17 (by decide) (by decide)
          refine z_iconst zh dX1_addDeal_28 ki_m1 ?_
          exact z_iret zh dX1_addDeal_29 ⟨_, rfl, hG, (ra_w rl_n1 (by decide) (by decide)), trp_no (fun w => (hw15.mp q17) w.1.2.2.2.1) en⟩
set_option maxRecDepth 20000 in
theorem e_X8_trade (g : GE) {sp : Nat → Nat → Bool} {σ : Iv} {iv : Iv} {lv : Lv} {a1 : Int32} {a2 : Int32} {a3 : Int32} {a4 : Int32} {a5 : Int32}  {m n : Int32} (hG : SI sp σ iv) (hq : Sk sp) (hD : sp 8 2 = false) (em : iv 2 0 = m) (en : iv 8 2 = n) : ConI g yX8_trade cX8_trade 6 (some .int) 4 [rf g 0, .int a1, .int a2, .int a3, .int a4, .int a5] iv lv (fun r iv lv => SI sp σ iv ∧ Ra (-1) 199 r ∧ TrP m n a1 a2 a3 a4 a5 r (iv 8 2)) := by
  refine con_intro (own := "RollingNets") (by decide +kernel) rfl (Nat.le_of_ble_eq_true rfl) (L0 := [some (rf g 0), some (.int a1), some (.int a2), some (.int a3), some (.int a4), some (.int a5)]) rfl (fun Z zh => ?_)
  refine z_aloadnR zh dX8_trade_0 rfl ?_
  refine z_getf zh fl_RollingNets_12 dX8_trade_1 ck_X rfl rfl ?_
  refine z_iloadn zh dX8_trade_4 rfl ?_
  refine z_iloadn zh dX8_trade_5 rfl ?_
  refine z_iloadn zh dX8_trade_6 rfl ?_
  refine z_iload zh dX8_trade_7 rfl ?_
  refine z_iload zh dX8_trade_9 rfl ?_
  refine z_iconst zh dX8_trade_11 ki_0 ?_
  refine z_callVI zh mv_RollingNets_95 dX8_trade_12 (ck_H isH_1) rfl (e_X1_addDeal g isH_1 (ra_w rl_0 (by decide) (by decide)) hG hq hD em en) ⟨Nat.le_of_ble_eq_true rfl, Nat.le_of_ble_eq_true rfl⟩ rfl rfl (Nat.le_of_ble_eq_true rfl) ?_
  rintro x1 iv lv ⟨hG, hx1, ht1⟩
  exact z_iret zh dX8_trade_15 ⟨_, rfl, hG, hx1, ht1⟩
set_option maxRecDepth 20000 in
theorem e_X8_apart (g : GE) {sp : Nat → Nat → Bool} {σ : Iv} {iv : Iv} {lv : Lv} {a1 : Int32} {a2 : Int32} {a3 : Int32} {a4 : Int32} {a5 : Int32}  {m n : Int32} (hG : SI sp σ iv) (hq : Sk sp) (hD : sp 8 2 = false) (em : iv 2 0 = m) (en : iv 8 2 = n) : ConI g yX8_apart cX8_apart 6 (some .int) 4 [rf g 0, .int a1, .int a2, .int a3, .int a4, .int a5] iv lv (fun r iv lv => SI sp σ iv ∧ Ra (-1) 199 r ∧ TrP m n a1 a2 a3 a4 a5 r (iv 8 2)) := by
  refine con_intro (own := "RollingNets") (by decide +kernel) rfl (Nat.le_of_ble_eq_true rfl) (L0 := [some (rf g 0), some (.int a1), some (.int a2), some (.int a3), some (.int a4), some (.int a5)]) rfl (fun Z zh => ?_)
  refine z_aloadnR zh dX8_apart_0 rfl ?_
  refine z_getf zh fl_RollingNets_12 dX8_apart_1 ck_X rfl rfl ?_
  refine z_iloadn zh dX8_apart_4 rfl ?_
  refine z_iloadn zh dX8_apart_5 rfl ?_
  refine z_iloadn zh dX8_apart_6 rfl ?_
  refine z_iload zh dX8_apart_7 rfl ?_
  refine z_iload zh dX8_apart_9 rfl ?_
  refine z_iconst zh dX8_apart_11 ki_1 ?_
  refine z_callVI zh mv_RollingNets_95 dX8_apart_12 (ck_H isH_1) rfl (e_X1_addDeal g isH_1 (ra_w rl_1 (by decide) (by decide)) hG hq hD em en) ⟨Nat.le_of_ble_eq_true rfl, Nat.le_of_ble_eq_true rfl⟩ rfl rfl (Nat.le_of_ble_eq_true rfl) ?_
  rintro x1 iv lv ⟨hG, hx1, ht1⟩
  exact z_iret zh dX8_apart_15 ⟨_, rfl, hG, hx1, ht1⟩
set_option maxRecDepth 20000 in
theorem e_X9_trades (g : GE) {sp : Nat → Nat → Bool} {σ : Iv} {iv : Iv} {lv : Lv} {a1 : Int32} {a2 : Int32} {a3 : Int32} {a4 : Int32} {a5 : Int32} {a6 : Int32} (ha6 : Ra (-2147483648) 1 a6) {m n : Int32} (hG : SI sp σ iv) (hD : sp 552 7 = false) (hm : Ra 2 12 m) (em : (iv 552 0).toInt + 6 = m.toInt) (en : iv 552 7 = n) : ConI g yX9_trades cX9_trades 8 (some .int) 3 [rf g 551, .int a1, .int a2, .int a3, .int a4, .int a5, .int a6] iv lv (fun r iv lv => SI sp σ iv ∧ Ra (-1) 199 r ∧ TrP m n a1 a2 a3 a4 a5 r (iv 552 7)) := by
  refine con_intro (own := "RollingNetsModel") (by decide +kernel) rfl (Nat.le_of_ble_eq_true rfl) (L0 := [some (rf g 551), some (.int a1), some (.int a2), some (.int a3), some (.int a4), some (.int a5), some (.int a6), none]) rfl (fun Z zh => ?_)
  refine z_aloadnR zh dX9_trades_0 rfl ?_
  refine z_iloadn zh dX9_trades_1 rfl ?_
  refine z_callVI zh mv_Y_90 dX9_trades_2 ck_Y rfl (t_X9_isMember g hm em) ⟨Nat.le_of_ble_eq_true rfl, Nat.le_of_ble_eq_true rfl⟩ rfl rfl (Nat.le_of_ble_eq_true rfl) ?_
  rintro x1 _ _ ⟨rfl, rfl, hx1, hz2, hw1⟩
  refine z_if_eq (tgt := 68) zh dX9_trades_5 rfl (fun q3 => ?_) (fun q3 => ?_)
  · have r4 := rb_eq (u := 0) (v := 0) hx1 ra_z q3 (by decide) (by decide)
    refine z_iconst zh dX9_trades_68 ki_m1 ?_
    exact z_iret zh dX9_trades_69 ⟨_, rfl, hG, (ra_w rl_n1 (by decide) (by decide)), trp_no (fun w => (hw1.mp q3) w.1.1) en⟩
  · have r5 : Ra 1 1 x1 := rb_ne_lo hx1 ra_z q3 (by decide)
    have r6 : Ra 0 11 a1 := (hz2 q3)
    refine z_aloadnR zh dX9_trades_8 rfl ?_
    refine z_iloadn zh dX9_trades_9 rfl ?_
    refine z_callVI zh mv_Y_90 dX9_trades_10 ck_Y rfl (t_X9_isMember g hm em) ⟨Nat.le_of_ble_eq_true rfl, Nat.le_of_ble_eq_true rfl⟩ rfl rfl (Nat.le_of_ble_eq_true rfl) ?_
    rintro x7 _ _ ⟨rfl, rfl, hx7, hz8, hw7⟩
    refine z_if_eq (tgt := 68) zh dX9_trades_13 rfl (fun q9 => ?_) (fun q9 => ?_)
    · have r10 := rb_eq (u := 0) (v := 0) hx7 ra_z q9 (by decide) (by decide)
      refine z_iconst zh dX9_trades_68 ki_m1 ?_
      exact z_iret zh dX9_trades_69 ⟨_, rfl, hG, (ra_w rl_n1 (by decide) (by decide)), trp_no (fun w => (hw7.mp q9) w.1.2.1) en⟩
    · have r11 : Ra 1 1 x7 := rb_ne_lo hx7 ra_z q9 (by decide)
      have r12 : Ra 0 11 a2 := (hz8 q9)
      refine z_iloadn zh dX9_trades_16 rfl ?_
      refine z_iloadn zh dX9_trades_17 rfl ?_
      refine z_icmp_eq (tgt := 68) zh dX9_trades_18 rfl (fun q13 => ?_) (fun q13 => ?_)
      · refine z_iconst zh dX9_trades_68 ki_m1 ?_
        exact z_iret zh dX9_trades_69 ⟨_, rfl, hG, (ra_w rl_n1 (by decide) (by decide)), trp_no (fun w => w.1.2.2.1 q13) en⟩
      · refine z_aloadnR zh dX9_trades_21 rfl ?_
        refine z_iloadn zh dX9_trades_22 rfl ?_
        refine z_callVI zh mv_Y_94 dX9_trades_23 ck_Y rfl (t_X9_isIssue g) ⟨Nat.le_of_ble_eq_true rfl, Nat.le_of_ble_eq_true rfl⟩ rfl rfl (Nat.le_of_ble_eq_true rfl) ?_
        rintro x15 _ _ ⟨rfl, rfl, hx15, hz16, hw15⟩
        refine z_if_eq (tgt := 68) zh dX9_trades_26 rfl (fun q17 => ?_) (fun q17 => ?_)
        · have r18 := rb_eq (u := 0) (v := 0) hx15 ra_z q17 (by decide) (by decide)
          refine z_iconst zh dX9_trades_68 ki_m1 ?_
          exact z_iret zh dX9_trades_69 ⟨_, rfl, hG, (ra_w rl_n1 (by decide) (by decide)), trp_no (fun w => (hw15.mp q17) w.1.2.2.2.1) en⟩
        · have r19 : Ra 1 1 x15 := rb_ne_lo hx15 ra_z q17 (by decide)
          have r20 : Ra 0 5 a3 := (hz16 q17)
          refine z_aloadnR zh dX9_trades_29 rfl ?_
          refine z_iload zh dX9_trades_30 rfl ?_
          refine z_iconst zh dX9_trades_32 ki_1 ?_
          refine z_sipush zh dX9_trades_33 ks_9999 ?_
          refine z_callVI zh mv_Y_79 dX9_trades_36 ck_Y rfl (t_X9_isIn g) ⟨Nat.le_of_ble_eq_true rfl, Nat.le_of_ble_eq_true rfl⟩ rfl rfl (Nat.le_of_ble_eq_true rfl) ?_
          rintro x21 _ _ ⟨rfl, rfl, hx21, hz22, hw21⟩
          refine z_if_eq (tgt := 68) zh dX9_trades_39 rfl (fun q23 => ?_) (fun q23 => ?_)
          · have r24 := rb_eq (u := 0) (v := 0) hx21 ra_z q23 (by decide) (by decide)
            refine z_iconst zh dX9_trades_68 ki_m1 ?_
            exact z_iret zh dX9_trades_69 ⟨_, rfl, hG, (ra_w rl_n1 (by decide) (by decide)), trp_no (fun w => (hw21.mp q23) w.1.2.2.2.2.1) en⟩
          · have r25 : Ra 1 1 x21 := rb_ne_lo hx21 ra_z q23 (by decide)
            have r26 : Ra 1 9999 a4 := (rb_in rl_1 rl_9999 (hz22 q23))
            refine z_aloadnR zh dX9_trades_42 rfl ?_
            refine z_iload zh dX9_trades_43 rfl ?_
            refine z_iconst zh dX9_trades_45 ki_1 ?_
            refine z_sipush zh dX9_trades_46 ks_9999 ?_
            refine z_callVI zh mv_Y_79 dX9_trades_49 ck_Y rfl (t_X9_isIn g) ⟨Nat.le_of_ble_eq_true rfl, Nat.le_of_ble_eq_true rfl⟩ rfl rfl (Nat.le_of_ble_eq_true rfl) ?_
            rintro x27 _ _ ⟨rfl, rfl, hx27, hz28, hw27⟩
            refine z_if_eq (tgt := 68) zh dX9_trades_52 rfl (fun q29 => ?_) (fun q29 => ?_)
            · have r30 := rb_eq (u := 0) (v := 0) hx27 ra_z q29 (by decide) (by decide)
              refine z_iconst zh dX9_trades_68 ki_m1 ?_
              exact z_iret zh dX9_trades_69 ⟨_, rfl, hG, (ra_w rl_n1 (by decide) (by decide)), trp_no (fun w => (hw27.mp q29) w.1.2.2.2.2.2) en⟩
            · have r31 : Ra 1 1 x27 := rb_ne_lo hx27 ra_z q29 (by decide)
              have r32 : Ra 1 9999 a5 := (rb_in rl_1 rl_9999 (hz28 q29))
              refine z_aloadnR zh dX9_trades_55 rfl ?_
              refine z_getf zh fl_Y_7 dX9_trades_56 ck_Y rfl rfl ?_
              refine z_bipush zh dX9_trades_59 kb_7 ?_
              refine y_ialdN zh ck_now dX9_trades_61 (by decide) (fun x33 ex33 => ?_)
              have hnx : x33 = n := ex33.symm.trans en
              have hx33 : Ra 0 200 x33 := ra_of ex33 (nr_l hG 7 rfl)
              refine z_sipush zh dX9_trades_62 ks_200 ?_
              refine z_icmp_ne (tgt := 70) zh dX9_trades_65 rfl (fun q34 => ?_) (fun q34 => ?_)
              · have r35 : Ra 0 199 x33 := rb_ne_hi hx33 rl_200 q34 (by decide)
                refine z_aloadnR zh dX9_trades_70 rfl ?_
                refine z_aloadnR zh dX9_trades_71 rfl ?_
                refine z_getf zh fl_Y_7 dX9_trades_72 ck_Y rfl rfl ?_
                refine z_bipush zh dX9_trades_75 kb_7 ?_
                refine z_ialdE (x := x33) zh ck_now dX9_trades_77 (by decide) ex33 ?_
                refine z_callVI zh mv_Y_141 dX9_trades_78 ck_Y rfl (s_X9_tradeAt g r35 hG) ⟨Nat.le_of_ble_eq_true rfl, Nat.le_of_ble_eq_true rfl⟩ rfl rfl (Nat.le_of_ble_eq_true rfl) ?_
                rintro x36 _ _ ⟨rfl, rfl, hx36, hc36⟩
                refine z_istore zh dX9_trades_81 (by decide) (L' := [some (rf g 551), some (.int a1), some (.int a2), some (.int a3), some (.int a4), some (.int a5), some (.int a6), some (.int x36)]) rfl ?_
                refine z_aloadnR zh dX9_trades_83 rfl ?_
                refine z_getf zh fl_Y_7 dX9_trades_84 ck_Y rfl rfl ?_
                refine z_iload zh dX9_trades_87 rfl ?_
                refine z_iconst zh dX9_trades_89 ki_0 ?_
                refine y_iadd zh dX9_trades_90 hx36 rl_0 (u := 15110) (v := 16702) rfl rfl (by decide) (by decide) (fun x37 hc37 hx37 => ?_)
                refine z_iloadn zh dX9_trades_91 rfl ?_
                refine z_iast zh ck_now dX9_trades_92 (ra_in hx37 (by decide) (by decide)) ?_
                have hG : SI sp σ (upI iv 552 x37.toNatClampNeg a1) := (nw_t01 hG (x33.toInt * 1) (by have := r35.1; have := r35.2; have := rl_0.1; have := rl_0.2; omega) (by have := r35.1; have := r35.2; have := rl_0.1; have := rl_0.2; omega) (by have := r35.1; have := r35.2; have := rl_0.1; have := rl_0.2; omega) r6)
                have em38 := (upI_ne (iv := iv) (k := 552) (j := x37.toNatClampNeg) (x := a1) (a := 552) (b := 7) (Or.inr (ne_cl hx37 (by decide) (Or.inl (by decide))))).trans ex33
                generalize upI iv 552 x37.toNatClampNeg a1 = iv at hG em38 ⊢
                refine z_aloadnR zh dX9_trades_93 rfl ?_
                refine z_getf zh fl_Y_7 dX9_trades_94 ck_Y rfl rfl ?_
                refine z_iload zh dX9_trades_97 rfl ?_
                refine z_iconst zh dX9_trades_99 ki_1 ?_
                refine y_iadd zh dX9_trades_100 hx36 rl_1 (u := 15111) (v := 16703) rfl rfl (by decide) (by decide) (fun x39 hc39 hx39 => ?_)
                refine z_iloadn zh dX9_trades_101 rfl ?_
                refine z_iast zh ck_now dX9_trades_102 (ra_in hx39 (by decide) (by decide)) ?_
                have hG : SI sp σ (upI iv 552 x39.toNatClampNeg a2) := (nw_t01 hG (x33.toInt * 1) (by have := r35.1; have := r35.2; have := rl_1.1; have := rl_1.2; omega) (by have := r35.1; have := r35.2; have := rl_1.1; have := rl_1.2; omega) (by have := r35.1; have := r35.2; have := rl_1.1; have := rl_1.2; omega) r12)
                have em40 := (upI_ne (iv := iv) (k := 552) (j := x39.toNatClampNeg) (x := a2) (a := 552) (b := 7) (Or.inr (ne_cl hx39 (by decide) (Or.inl (by decide))))).trans em38
                generalize upI iv 552 x39.toNatClampNeg a2 = iv at hG em40 ⊢
                refine z_aloadnR zh dX9_trades_103 rfl ?_
                refine z_getf zh fl_Y_7 dX9_trades_104 ck_Y rfl rfl ?_
                refine z_iload zh dX9_trades_107 rfl ?_
                refine z_iconst zh dX9_trades_109 ki_2 ?_
                refine y_iadd zh dX9_trades_110 hx36 rl_2 (u := 15112) (v := 16704) rfl rfl (by decide) (by decide) (fun x41 hc41 hx41 => ?_)
                refine z_iloadn zh dX9_trades_111 rfl ?_
                refine z_iast zh ck_now dX9_trades_112 (ra_in hx41 (by decide) (by decide)) ?_
                have hG : SI sp σ (upI iv 552 x41.toNatClampNeg a3) := (nw_t2 hG (x33.toInt * 1) (by have := r35.1; have := r35.2; have := rl_2.1; have := rl_2.2; omega) (by have := r35.1; have := r35.2; have := rl_2.1; have := rl_2.2; omega) (by have := r35.1; have := r35.2; have := rl_2.1; have := rl_2.2; omega) r20)
                have em42 := (upI_ne (iv := iv) (k := 552) (j := x41.toNatClampNeg) (x := a3) (a := 552) (b := 7) (Or.inr (ne_cl hx41 (by decide) (Or.inl (by decide))))).trans em40
                generalize upI iv 552 x41.toNatClampNeg a3 = iv at hG em42 ⊢
                refine z_aloadnR zh dX9_trades_113 rfl ?_
                refine z_getf zh fl_Y_7 dX9_trades_114 ck_Y rfl rfl ?_
                refine z_iload zh dX9_trades_117 rfl ?_
                refine z_iconst zh dX9_trades_119 ki_3 ?_
                refine y_iadd zh dX9_trades_120 hx36 rl_3 (u := 15113) (v := 16705) rfl rfl (by decide) (by decide) (fun x43 hc43 hx43 => ?_)
                refine z_iload zh dX9_trades_121 rfl ?_
                refine z_iast zh ck_now dX9_trades_123 (ra_in hx43 (by decide) (by decide)) ?_
                have hG : SI sp σ (upI iv 552 x43.toNatClampNeg a4) := (nw_t hG (x33.toInt * 1) (by have := r35.1; have := r35.2; have := rl_3.1; have := rl_3.2; omega) (by have := r35.1; have := r35.2; have := rl_3.1; have := rl_3.2; omega) (by have := r35.1; have := r35.2; have := rl_3.1; have := rl_3.2; omega))
                have em44 := (upI_ne (iv := iv) (k := 552) (j := x43.toNatClampNeg) (x := a4) (a := 552) (b := 7) (Or.inr (ne_cl hx43 (by decide) (Or.inl (by decide))))).trans em42
                generalize upI iv 552 x43.toNatClampNeg a4 = iv at hG em44 ⊢
                refine z_aloadnR zh dX9_trades_124 rfl ?_
                refine z_getf zh fl_Y_7 dX9_trades_125 ck_Y rfl rfl ?_
                refine z_iload zh dX9_trades_128 rfl ?_
                refine z_iconst zh dX9_trades_130 ki_4 ?_
                refine y_iadd zh dX9_trades_131 hx36 rl_4 (u := 15114) (v := 16706) rfl rfl (by decide) (by decide) (fun x45 hc45 hx45 => ?_)
                refine z_iload zh dX9_trades_132 rfl ?_
                refine z_iast zh ck_now dX9_trades_134 (ra_in hx45 (by decide) (by decide)) ?_
                have hG : SI sp σ (upI iv 552 x45.toNatClampNeg a5) := (nw_t hG (x33.toInt * 1) (by have := r35.1; have := r35.2; have := rl_4.1; have := rl_4.2; omega) (by have := r35.1; have := r35.2; have := rl_4.1; have := rl_4.2; omega) (by have := r35.1; have := r35.2; have := rl_4.1; have := rl_4.2; omega))
                have em46 := (upI_ne (iv := iv) (k := 552) (j := x45.toNatClampNeg) (x := a5) (a := 552) (b := 7) (Or.inr (ne_cl hx45 (by decide) (Or.inl (by decide))))).trans em44
                generalize upI iv 552 x45.toNatClampNeg a5 = iv at hG em46 ⊢
                refine z_aloadnR zh dX9_trades_135 rfl ?_
                refine z_getf zh fl_Y_7 dX9_trades_136 ck_Y rfl rfl ?_
                refine z_iload zh dX9_trades_139 rfl ?_
                refine z_iconst zh dX9_trades_141 ki_5 ?_
                refine y_iadd zh dX9_trades_142 hx36 rl_5 (u := 15115) (v := 16707) rfl rfl (by decide) (by decide) (fun x47 hc47 hx47 => ?_)
                refine z_iload zh dX9_trades_143 rfl ?_
                refine z_iast zh ck_now dX9_trades_145 (ra_in hx47 (by decide) (by decide)) ?_
                have hG : SI sp σ (upI iv 552 x47.toNatClampNeg a6) := (nw_t hG (x33.toInt * 1) (by have := r35.1; have := r35.2; have := rl_5.1; have := rl_5.2; omega) (by have := r35.1; have := r35.2; have := rl_5.1; have := rl_5.2; omega) (by have := r35.1; have := r35.2; have := rl_5.1; have := rl_5.2; omega))
                have em48 := (upI_ne (iv := iv) (k := 552) (j := x47.toNatClampNeg) (x := a6) (a := 552) (b := 7) (Or.inr (ne_cl hx47 (by decide) (Or.inl (by decide))))).trans em46
                generalize upI iv 552 x47.toNatClampNeg a6 = iv at hG em48 ⊢
                refine z_aloadnR zh dX9_trades_146 rfl ?_
                refine z_getf zh fl_Y_7 dX9_trades_147 ck_Y rfl rfl ?_
                refine z_iload zh dX9_trades_150 rfl ?_
                refine z_bipush zh dX9_trades_152 kb_6 ?_
                refine y_iadd zh dX9_trades_154 hx36 rl_6 (u := 15116) (v := 16708) rfl rfl (by decide) (by decide) (fun x49 hc49 hx49 => ?_)
                refine z_aloadnR zh dX9_trades_155 rfl ?_
                refine z_getf zh fl_Y_7 dX9_trades_156 ck_Y rfl rfl ?_
                refine z_bipush zh dX9_trades_159 kb_6 ?_
                refine y_ialdN zh ck_now dX9_trades_161 (by decide) (fun x50 ex50 => ?_)
                have hx50 : Ra 0 99 x50 := ra_of ex50 (nr_l hG 6 rfl)
                refine z_aloadnR zh dX9_trades_162 rfl ?_
                refine z_iconst zh dX9_trades_163 ki_1 ?_
                refine z_callVI zh mv_Y_144 dX9_trades_164 ck_Y rfl (s_X9_settingOf g (ra_w rl_1 (by decide) (by decide)) hG) ⟨Nat.le_of_ble_eq_true rfl, Nat.le_of_ble_eq_true rfl⟩ rfl rfl (Nat.le_of_ble_eq_true rfl) ?_
                rintro x51 _ _ ⟨rfl, rfl, _⟩
                refine y_iaddT zh dX9_trades_167 (fun x52 => ?_)
                refine z_iast zh ck_now dX9_trades_168 (ra_in hx49 (by decide) (by decide)) ?_
                have hG : SI sp σ (upI iv 552 x49.toNatClampNeg x52) := (nw_t hG (x33.toInt * 1) (by have := r35.1; have := r35.2; have := rl_6.1; have := rl_6.2; omega) (by have := r35.1; have := r35.2; have := rl_6.1; have := rl_6.2; omega) (by have := r35.1; have := r35.2; have := rl_6.1; have := rl_6.2; omega))
                have em53 := (upI_ne (iv := iv) (k := 552) (j := x49.toNatClampNeg) (x := x52) (a := 552) (b := 7) (Or.inr (ne_cl hx49 (by decide) (Or.inl (by decide))))).trans em48
                have em54 := (upI_ne (iv := iv) (k := 552) (j := x49.toNatClampNeg) (x := x52) (a := 552) (b := 6) (Or.inr (ne_cl hx49 (by decide) (Or.inl (by decide))))).trans ex50
                generalize upI iv 552 x49.toNatClampNeg x52 = iv at hG em53 em54 ⊢
                refine z_aloadnR zh dX9_trades_169 rfl ?_
                refine z_getf zh fl_Y_7 dX9_trades_170 ck_Y rfl rfl ?_
                refine z_iload zh dX9_trades_173 rfl ?_
                refine z_bipush zh dX9_trades_175 kb_7 ?_
                refine y_iadd zh dX9_trades_177 hx36 rl_7 (u := 15117) (v := 16709) rfl rfl (by decide) (by decide) (fun x55 hc55 hx55 => ?_)
                refine z_iload zh dX9_trades_178 rfl ?_
                refine z_iast zh ck_now dX9_trades_180 (ra_in hx55 (by decide) (by decide)) ?_
                have hG : SI sp σ (upI iv 552 x55.toNatClampNeg a4) := (nw_t hG (x33.toInt * 1) (by have := r35.1; have := r35.2; have := rl_7.1; have := rl_7.2; omega) (by have := r35.1; have := r35.2; have := rl_7.1; have := rl_7.2; omega) (by have := r35.1; have := r35.2; have := rl_7.1; have := rl_7.2; omega))
                have em56 := (upI_ne (iv := iv) (k := 552) (j := x55.toNatClampNeg) (x := a4) (a := 552) (b := 7) (Or.inr (ne_cl hx55 (by decide) (Or.inl (by decide))))).trans em53
                have em57 := (upI_ne (iv := iv) (k := 552) (j := x55.toNatClampNeg) (x := a4) (a := 552) (b := 6) (Or.inr (ne_cl hx55 (by decide) (Or.inl (by decide))))).trans em54
                generalize upI iv 552 x55.toNatClampNeg a4 = iv at hG em56 em57 ⊢
                refine z_aloadnR zh dX9_trades_181 rfl ?_
                refine z_getf zh fl_Y_7 dX9_trades_182 ck_Y rfl rfl ?_
                refine z_bipush zh dX9_trades_185 kb_7 ?_
                refine z_aloadnR zh dX9_trades_187 rfl ?_
                refine z_getf zh fl_Y_7 dX9_trades_188 ck_Y rfl rfl ?_
                refine z_bipush zh dX9_trades_191 kb_7 ?_
                refine z_ialdE (x := x33) zh ck_now dX9_trades_193 (by decide) em56 ?_
                refine z_iconst zh dX9_trades_194 ki_1 ?_
                refine y_iadd zh dX9_trades_195 r35 rl_1 (u := 1) (v := 200) rfl rfl (by decide) (by decide) (fun x58 hc58 hx58 => ?_)
                refine z_iastN (j := 7) zh ck_now dX9_trades_196 (by decide) ?_
                have hG : SI sp σ (upI iv 552 7 x58) := (nw_lk hG (j := 7) (by decide) hD (by decide) (rx_some (ra_w hx58 (by decide) (by decide))))
                have em59 := (upI_ne (iv := iv) (k := 552) (j := 7) (x := x58) (a := 552) (b := 6) (Or.inr (by decide))).trans em57
                have em60 : upI iv 552 7 x58 552 7 = x58 := by rw [upI_at, if_pos ⟨rfl, rfl⟩]
                generalize upI iv 552 7 x58 = iv at hG em59 em60 ⊢
                refine z_aloadnR zh dX9_trades_197 rfl ?_
                refine z_getf zh fl_Y_7 dX9_trades_198 ck_Y rfl rfl ?_
                refine z_bipush zh dX9_trades_201 kb_7 ?_
                refine z_ialdE (x := x58) zh ck_now dX9_trades_203 (by decide) em60 ?_
                refine z_iconst zh dX9_trades_204 ki_1 ?_
                refine y_isub zh dX9_trades_205 hx58 rl_1 (u := 0) (v := 199) rfl rfl (by decide) (by decide) (fun x61 hc61 hx61 => ?_)
                have hok : TrOk m a1 a2 a3 a4 a5 := ⟨byc (mt hw1.mpr q3), byc (mt hw7.mpr q9), q13, byc (mt hw15.mpr q17), byc (mt hw21.mpr q23), byc (mt hw27.mpr q29)⟩
                have e11 : (nI 1).toInt = 1 := by decide
                have h35 := r35.1; have h36 := r35.2
                subst hnx
                exact z_iret zh dX9_trades_206 ⟨_, rfl, hG, (ra_w hx61 (by decide) (by decide)), trp_yes ⟨hok, by omega⟩ (Int32.toInt_inj.mp (by omega)) (em60.trans (Int32.toInt_inj.mp (by rw [Int32.toInt_add, bm32 (by omega) (by omega)]; exact hc58)))⟩
              · have r62 := rb_eq (u := 200) (v := 200) hx33 rl_200 q34 (by decide) (by decide)
                refine z_iconst zh dX9_trades_68 ki_m1 ?_
                exact z_iret zh dX9_trades_69 ⟨_, rfl, hG, (ra_w rl_n1 (by decide) (by decide)), trp_no (fun w => absurd w.2 (by rw [← hnx, q34]; decide)) en⟩
set_option maxRecDepth 20000 in
theorem e_X9_trade (g : GE) {sp : Nat → Nat → Bool} {σ : Iv} {iv : Iv} {lv : Lv} {a1 : Int32} {a2 : Int32} {a3 : Int32} {a4 : Int32} {a5 : Int32}  {m n : Int32} (hG : SI sp σ iv) (hD : sp 552 7 = false) (hm : Ra 2 12 m) (em : (iv 552 0).toInt + 6 = m.toInt) (en : iv 552 7 = n) : ConI g yX9_trade cX9_trade 6 (some .int) 4 [rf g 551, .int a1, .int a2, .int a3, .int a4, .int a5] iv lv (fun r iv lv => SI sp σ iv ∧ Ra (-1) 199 r ∧ TrP m n a1 a2 a3 a4 a5 r (iv 552 7)) := by
  refine con_intro (own := "RollingNetsModel") (by decide +kernel) rfl (Nat.le_of_ble_eq_true rfl) (L0 := [some (rf g 551), some (.int a1), some (.int a2), some (.int a3), some (.int a4), some (.int a5)]) rfl (fun Z zh => ?_)
  refine z_aloadnR zh dX9_trade_0 rfl ?_
  refine z_iconst zh dX9_trade_1 ki_0 ?_
  refine z_putI zh fl_Y_58 dX9_trade_2 ck_Y rfl rfl (Nat.le_of_ble_eq_true rfl) (Or.inl rfl) ?_
  have hG : SI sp σ (upI iv 551 0 (nI 0)) := si_w (k := 551) (j := 0) hG (by decide) (by decide) (sp_no hG ((spc_Y (q := 0)).trans rfl)) (fun lo hi q => (rx_none rfl) lo hi ((rg_Y (q := 0)).symm.trans q))
  have em1 : upI iv 551 0 (nI 0) 551 0 = nI 0 := by rw [upI_at, if_pos ⟨rfl, rfl⟩]
  have em : (upI iv 551 0 (nI 0) 552 0).toInt + 6 = m.toInt := by rw [upI_ne (Or.inl (by decide))]; exact em
  have en : upI iv 551 0 (nI 0) 552 7 = n := (upI_ne (Or.inl (by decide))).trans en
  generalize upI iv 551 0 (nI 0) = iv at hG em1 em en ⊢
  refine z_aloadnR zh dX9_trade_5 rfl ?_
  refine z_iloadn zh dX9_trade_6 rfl ?_
  refine z_iloadn zh dX9_trade_7 rfl ?_
  refine z_iloadn zh dX9_trade_8 rfl ?_
  refine z_iload zh dX9_trade_9 rfl ?_
  refine z_iload zh dX9_trade_11 rfl ?_
  refine z_iconst zh dX9_trade_13 ki_0 ?_
  refine z_callVI zh mv_Y_147 dX9_trade_14 ck_Y rfl (e_X9_trades g (ra_w rl_0 (by decide) (by decide)) hG hD hm em en) ⟨Nat.le_of_ble_eq_true rfl, Nat.le_of_ble_eq_true rfl⟩ rfl rfl (Nat.le_of_ble_eq_true rfl) ?_
  rintro x2 iv lv ⟨hG, hx2, ht2⟩
  exact z_iret zh dX9_trade_17 ⟨_, rfl, hG, hx2, ht2⟩
set_option maxRecDepth 20000 in
theorem e_X9_apart (g : GE) {sp : Nat → Nat → Bool} {σ : Iv} {iv : Iv} {lv : Lv} {a1 : Int32} {a2 : Int32} {a3 : Int32} {a4 : Int32} {a5 : Int32}  {m n : Int32} (hG : SI sp σ iv) (hD : sp 552 7 = false) (hm : Ra 2 12 m) (em : (iv 552 0).toInt + 6 = m.toInt) (en : iv 552 7 = n) : ConI g yX9_apart cX9_apart 6 (some .int) 4 [rf g 551, .int a1, .int a2, .int a3, .int a4, .int a5] iv lv (fun r iv lv => SI sp σ iv ∧ Ra (-1) 199 r ∧ TrP m n a1 a2 a3 a4 a5 r (iv 552 7)) := by
  refine con_intro (own := "RollingNetsModel") (by decide +kernel) rfl (Nat.le_of_ble_eq_true rfl) (L0 := [some (rf g 551), some (.int a1), some (.int a2), some (.int a3), some (.int a4), some (.int a5)]) rfl (fun Z zh => ?_)
  refine z_aloadnR zh dX9_apart_0 rfl ?_
  refine z_iconst zh dX9_apart_1 ki_0 ?_
  refine z_putI zh fl_Y_58 dX9_apart_2 ck_Y rfl rfl (Nat.le_of_ble_eq_true rfl) (Or.inl rfl) ?_
  have hG : SI sp σ (upI iv 551 0 (nI 0)) := si_w (k := 551) (j := 0) hG (by decide) (by decide) (sp_no hG ((spc_Y (q := 0)).trans rfl)) (fun lo hi q => (rx_none rfl) lo hi ((rg_Y (q := 0)).symm.trans q))
  have em1 : upI iv 551 0 (nI 0) 551 0 = nI 0 := by rw [upI_at, if_pos ⟨rfl, rfl⟩]
  have em : (upI iv 551 0 (nI 0) 552 0).toInt + 6 = m.toInt := by rw [upI_ne (Or.inl (by decide))]; exact em
  have en : upI iv 551 0 (nI 0) 552 7 = n := (upI_ne (Or.inl (by decide))).trans en
  generalize upI iv 551 0 (nI 0) = iv at hG em1 em en ⊢
  refine z_aloadnR zh dX9_apart_5 rfl ?_
  refine z_iloadn zh dX9_apart_6 rfl ?_
  refine z_iloadn zh dX9_apart_7 rfl ?_
  refine z_iloadn zh dX9_apart_8 rfl ?_
  refine z_iload zh dX9_apart_9 rfl ?_
  refine z_iload zh dX9_apart_11 rfl ?_
  refine z_iconst zh dX9_apart_13 ki_1 ?_
  refine z_callVI zh mv_Y_147 dX9_apart_14 ck_Y rfl (e_X9_trades g (ra_w rl_1 (by decide) (by decide)) hG hD hm em en) ⟨Nat.le_of_ble_eq_true rfl, Nat.le_of_ble_eq_true rfl⟩ rfl rfl (Nat.le_of_ble_eq_true rfl) ?_
  rintro x2 iv lv ⟨hG, hx2, ht2⟩
  exact z_iret zh dX9_apart_17 ⟨_, rfl, hG, hx2, ht2⟩
