/-! THE TABLES' METHODS, and what is in bounds -/
def GetR (t cc : Nat) (n : Int32) (iv : Iv) (a b r : Int32) : Prop := ((0 ≤ a.toInt ∧ a.toInt < cc ∧ 0 ≤ b.toInt ∧ b.toInt < n.toInt) ∧ r = iv (t + 2 + a.toNatClampNeg) b.toNatClampNeg) ∨ (¬ (0 ≤ a.toInt ∧ a.toInt < cc ∧ 0 ≤ b.toInt ∧ b.toInt < n.toInt) ∧ r = -1)
theorem isT_b31 {t c n : Nat} (ht : isT t c n) : c < 20 ∧ 0 < c ∧ n ≤ 300 ∧ 0 < n := by
  rcases ht with ⟨h, hh, h1 | h1 | h1 | h1⟩ | h1 <;> obtain ⟨rfl, rfl, rfl⟩ := h1 <;> decide
theorem lt0 {x : Int32} : x < 0 ↔ x.toInt < 0 := by rw [Int32.lt_iff_toInt_lt, Int32.toInt_zero]
theorem leI {x y : Int32} : x ≤ y ↔ x.toInt ≤ y.toInt := Int32.le_iff_toInt_le
theorem ltI {x y : Int32} : x < y ↔ x.toInt < y.toInt := Int32.lt_iff_toInt_lt
section TB
variable {sp : Nat → Nat → Bool} {σ : Iv} {iv : Iv} {lv : Lv} {t cc nn h : Nat}
theorem si_T (hG : SI sp σ iv) (ht : isT t cc nn) : Ra 0 nn (iv t 2) := by
  rcases ht with ⟨h, hh, h1 | h1 | h1 | h1⟩ | h1 <;> obtain ⟨rfl, rfl, rfl⟩ := h1
  · exact si_H hG hh 7 (by omega) rfl
  · exact si_H hG hh 17 (by omega) rfl
  · exact si_H hG hh 38 (by omega) rfl
  · exact si_H hG hh 46 (by omega) rfl
  · exact si_c hG rfl
theorem s_X7_size (g : GE) {x : Int32} (ht : isT t cc nn) (hc : iv t 2 = x) : ConIp g yX7_size cX7_size 1 (some .int) 1 [rf g t] iv lv x := by
  refine con_intro (own := "RollingNets$Table") (by decide +kernel) rfl (Nat.le_of_ble_eq_true rfl) (L0 := [some (rf g t)]) rfl (fun Z zh => ?_)
  refine z_aloadnR zh dX7_size_0 rfl ?_
  refine z_getI (x := x) zh fl_Table_20 dX7_size_1 (ck_T ht) rfl rfl hc ?_
  exact z_iret zh dX7_size_4 (qI rfl)
theorem s_X7_get (g : GE) {a b n : Int32} (ht : isT t cc nn) (hc : iv t 2 = n) (hn : Ra 0 nn n) : ConI g yX7_get cX7_get 3 (some .int) 1 [rf g t, .int a, .int b] iv lv (fun r iv' lv' => iv = iv' ∧ lv = lv' ∧ GetR t cc n iv a b r) := by
  refine con_intro (own := "RollingNets$Table") (by decide +kernel) rfl (Nat.le_of_ble_eq_true rfl) (L0 := [some (rf g t), some (.int a), some (.int b)]) rfl (fun Z zh => ?_)
  have hb := isT_b31 ht
  have ec : (nI cc).toInt = cc := nI_toInt (by omega)
  have hno : ¬ (0 ≤ a.toInt ∧ a.toInt < cc ∧ 0 ≤ b.toInt ∧ b.toInt < n.toInt) → Z 25 [some (rf g t), some (.int a), some (.int b)] [] iv lv := fun q => by
    refine z_iconst zh dX7_get_25 ki_m1 ?_
    exact z_iret zh dX7_get_26 ⟨_, rfl, rfl, rfl, Or.inr ⟨q, rfl⟩⟩
  refine z_iloadn zh dX7_get_0 rfl ?_
  refine z_if_lt (tgt := 25) zh dX7_get_1 rfl (fun q => hno (by rw [lt0] at q; omega)) (fun q1 => ?_)
  rw [lt0] at q1
  refine z_iloadn zh dX7_get_4 rfl ?_
  refine z_aloadnR zh dX7_get_5 rfl ?_
  refine z_getf zh fl_Table_11 dX7_get_6 (ck_T ht) rfl rfl ?_
  refine z_alenG zh (ck_Tc ht) dX7_get_9 ?_
  refine z_icmp_ge (tgt := 25) zh dX7_get_10 rfl (fun q => hno (by rw [leI, ec] at q; omega)) (fun q2 => ?_)
  rw [leI, ec] at q2
  refine z_iloadn zh dX7_get_13 rfl ?_
  refine z_if_lt (tgt := 25) zh dX7_get_14 rfl (fun q => hno (by rw [lt0] at q; omega)) (fun q3 => ?_)
  rw [lt0] at q3
  refine z_iloadn zh dX7_get_17 rfl ?_
  refine z_aloadnR zh dX7_get_18 rfl ?_
  refine z_getI (x := n) zh fl_Table_20 dX7_get_19 (ck_T ht) rfl rfl hc ?_
  refine z_icmp_lt (tgt := 27) zh dX7_get_22 rfl (fun q4 => ?_) (fun q => hno (by rw [ltI] at q; omega))
  rw [ltI] at q4
  have hn2 := hn.2
  refine z_aloadnR zh dX7_get_27 rfl ?_
  refine z_getf zh fl_Table_11 dX7_get_28 (ck_T ht) rfl rfl ?_
  refine z_iloadn zh dX7_get_31 rfl ?_
  refine y_gald zh (ck_Tc ht) dX7_get_32 (a := 0) (b := (cc : Int) - 1) (x := a) ⟨by omega, by omega⟩ (by omega) (by omega) (fun j hj ej e => ?_)
  refine z_iloadn zh dX7_get_33 rfl ?_
  refine z_iald zh (ck_Tr ht hj) dX7_get_34 (ra_in (lo := 0) (hi := (nn : Int) - 1) ⟨by omega, by omega⟩ (by omega) (by omega)) ?_
  refine z_iret zh dX7_get_35 ⟨_, rfl, rfl, rfl, Or.inl ⟨by omega, ?_⟩⟩
  rw [ej, nI_clamp (by omega)]
theorem s_X7_put (g : GE) {a b v : Int32} (ht : isT t cc nn) (hG : SI sp σ iv) (hp : ∀ j c : Nat, c < cc → (c : Int) = a.toInt → (∀ l u, rgI (t + 2 + c) j = some (l, u) → Ra l u v) ∧ sp (t + 2 + c) j = false) : ConV g yX7_put cX7_put 4 none 1 [rf g t, .int a, .int b, .int v] iv lv (fun iv lv => SI sp σ iv) := by
  refine con_intro (own := "RollingNets$Table") (by decide +kernel) rfl (Nat.le_of_ble_eq_true rfl) (L0 := [some (rf g t), some (.int a), some (.int b), some (.int v)]) rfl (fun Z zh => ?_)
  have hb := isT_b31 ht
  have ec : (nI cc).toInt = cc := nI_toInt (by omega)
  have hno : Z 34 [some (rf g t), some (.int a), some (.int b), some (.int v)] [] iv lv := z_vret zh dX7_put_34 ⟨rfl, hG⟩
  refine z_iloadn zh dX7_put_0 rfl ?_
  refine z_if_lt (tgt := 34) zh dX7_put_1 rfl (fun q => hno) (fun q1 => ?_)
  rw [lt0] at q1
  refine z_iloadn zh dX7_put_4 rfl ?_
  refine z_aloadnR zh dX7_put_5 rfl ?_
  refine z_getf zh fl_Table_11 dX7_put_6 (ck_T ht) rfl rfl ?_
  refine z_alenG zh (ck_Tc ht) dX7_put_9 ?_
  refine z_icmp_ge (tgt := 34) zh dX7_put_10 rfl (fun q => hno) (fun q2 => ?_)
  rw [leI, ec] at q2
  refine z_iloadn zh dX7_put_13 rfl ?_
  refine z_if_lt (tgt := 34) zh dX7_put_14 rfl (fun q => hno) (fun q3 => ?_)
  rw [lt0] at q3
  refine z_iloadn zh dX7_put_17 rfl ?_
  refine z_aloadnR zh dX7_put_18 rfl ?_
  refine y_getI zh fl_Table_20 dX7_put_19 (ck_T ht) rfl rfl (fun n hc => ?_)
  have hn : Ra 0 nn n := ra_of hc (si_T hG ht)
  have hn2 := hn.2
  refine z_icmp_ge (tgt := 34) zh dX7_put_22 rfl (fun q => hno) (fun q4 => ?_)
  rw [leI] at q4
  refine z_aloadnR zh dX7_put_25 rfl ?_
  refine z_getf zh fl_Table_11 dX7_put_26 (ck_T ht) rfl rfl ?_
  refine z_iloadn zh dX7_put_29 rfl ?_
  refine y_gald zh (ck_Tc ht) dX7_put_30 (a := 0) (b := (cc : Int) - 1) (x := a) ⟨by omega, by omega⟩ (by omega) (by omega) (fun j hj ej e => ?_)
  refine z_iloadn zh dX7_put_31 rfl ?_
  refine z_iloadn zh dX7_put_32 rfl ?_
  refine z_iast zh (ck_Tr ht hj) dX7_put_33 (ra_in (lo := 0) (hi := (nn : Int) - 1) ⟨by omega, by omega⟩ (by omega) (by omega)) ?_
  have hw := hp b.toNatClampNeg j hj e
  have hlt := (ck_Tr (g := g) ht hj).1.1
  have hk : t + 2 + j ≠ 552 ∧ t + 2 + j ≠ 564 := by rcases ht with ⟨h, hh, h1 | h1 | h1 | h1⟩ | h1 <;> obtain ⟨rfl, rfl, rfl⟩ := h1 <;> first | (rcases hh with rfl | rfl | rfl <;> omega) | omega
  exact z_vret zh dX7_put_34 ⟨rfl, si_w hG hk.1 hk.2 hw.2 hw.1⟩
theorem s_X7_isFull (g : GE) (ht : isT t cc nn) {n : Int32} (hc : iv t 2 = n) : ConI g yX7_isFull cX7_isFull 1 (some .boolean) 1 [rf g t] iv lv (fun r iv' lv' => iv = iv' ∧ lv = lv' ∧ Ra 0 1 r ∧ (r = 0 → n.toInt < nn)) := by
  refine con_intro (own := "RollingNets$Table") (by decide +kernel) rfl (Nat.le_of_ble_eq_true rfl) (L0 := [some (rf g t)]) rfl (fun Z zh => ?_)
  have hb := isT_b31 ht
  have en : (nI nn).toInt = nn := nI_toInt (by omega)
  refine z_aloadnR zh dX7_isFull_0 rfl ?_
  refine z_getI (x := n) zh fl_Table_20 dX7_isFull_1 (ck_T ht) rfl rfl hc ?_
  refine z_aloadnR zh dX7_isFull_4 rfl ?_
  refine z_getI (x := nI nn) zh fl_Table_16 dX7_isFull_5 (ck_T ht) rfl rfl rfl ?_
  refine z_icmp_lt (tgt := 15) zh dX7_isFull_8 rfl (fun q => ?_) (fun q => ?_)
  · rw [ltI, en] at q
    refine z_iconst zh dX7_isFull_15 ki_0 ?_
    exact z_zret zh dX7_isFull_16 (Or.inl rfl) ⟨_, rfl, rfl, rfl, ⟨by decide, by decide⟩, fun _ => q⟩
  · refine z_iconst zh dX7_isFull_11 ki_1 ?_
    refine z_goto (tgt := 16) zh dX7_isFull_12 rfl ?_
    exact z_zret zh dX7_isFull_16 (Or.inr rfl) ⟨_, rfl, rfl, rfl, ⟨by decide, by decide⟩, fun z => absurd z (by decide)⟩
/-- a nought may stand in every column -/
theorem rg_Tr (ht : isT t cc nn) {c j : Nat} (hc : c < cc) {l u : Int} (e : rgI (t + 2 + c) j = some (l, u)) : l ≤ 0 ∧ 0 ≤ u := by
  rcases ht with ⟨h, hh, h1 | h1 | h1 | h1⟩ | h1 <;> obtain ⟨rfl, rfl, rfl⟩ := h1
  · rw [show h + 7 + 2 + c = h + (9 + c) by omega, rg_H hh (by omega)] at e
    rcases (by omega : c = 0 ∨ c = 1 ∨ c = 2 ∨ c = 3 ∨ c = 4 ∨ c = 5 ∨ c = 6 ∨ c = 7) with rfl | rfl | rfl | rfl | rfl | rfl | rfl | rfl <;> cases e <;> decide
  · rw [show h + 17 + 2 + c = h + (19 + c) by omega, rg_H hh (by omega)] at e
    rcases (by omega : c = 0 ∨ c = 1 ∨ c = 2 ∨ c = 3 ∨ c = 4 ∨ c = 5 ∨ c = 6 ∨ c = 7 ∨ c = 8 ∨ c = 9 ∨ c = 10 ∨ c = 11 ∨ c = 12 ∨ c = 13 ∨ c = 14 ∨ c = 15 ∨ c = 16 ∨ c = 17 ∨ c = 18) with rfl | rfl | rfl | rfl | rfl | rfl | rfl | rfl | rfl | rfl | rfl | rfl | rfl | rfl | rfl | rfl | rfl | rfl | rfl <;> cases e <;> decide
  · rw [show h + 38 + 2 + c = h + (40 + c) by omega, rg_H hh (by omega)] at e
    rcases (by omega : c = 0 ∨ c = 1 ∨ c = 2 ∨ c = 3 ∨ c = 4 ∨ c = 5) with rfl | rfl | rfl | rfl | rfl | rfl <;> cases e
  · rw [show h + 46 + 2 + c = h + (48 + c) by omega, rg_H hh (by omega)] at e
    rcases (by omega : c = 0 ∨ c = 1 ∨ c = 2 ∨ c = 3 ∨ c = 4 ∨ c = 5) with rfl | rfl | rfl | rfl | rfl | rfl <;> cases e
  · rcases (by omega : c = 0 ∨ c = 1 ∨ c = 2 ∨ c = 3 ∨ c = 4 ∨ c = 5) with rfl | rfl | rfl | rfl | rfl | rfl <;> cases e
theorem tt_ne (ht : isT t cc nn) {q : Nat} (hq : q < 2 + cc) : t + q ≠ 552 ∧ t + q ≠ 564 := by
  rcases ht with ⟨h, hh, h1 | h1 | h1 | h1⟩ | h1 <;> obtain ⟨rfl, rfl, rfl⟩ := h1 <;> first | (rcases hh with rfl | rfl | rfl <;> omega) | omega
theorem rg_Tn (ht : isT t cc nn) {l u : Int} (e : rgI t 2 = some (l, u)) : l = 0 ∧ u = nn := by
  rcases ht with ⟨h, hh, h1 | h1 | h1 | h1⟩ | h1 <;> obtain ⟨rfl, rfl, rfl⟩ := h1
  · rw [rg_H hh (by omega)] at e; cases e; decide
  · rw [rg_H hh (by omega)] at e; cases e; decide
  · rw [rg_H hh (by omega)] at e; cases e; decide
  · rw [rg_H hh (by omega)] at e; cases e; decide
  · cases e; decide
theorem s_X7_addRow (g : GE) (ht : isT t cc nn) (hG : SI sp σ iv) (hs : sp t 2 = false) (hc9 : ∀ c j, c < cc → sp (t + 2 + c) j = false) : ConI g yX7_addRow cX7_addRow 2 (some .int) 2 [rf g t] iv lv (fun r iv lv => SI sp σ iv ∧ Ra (-1) ((nn : Int) - 1) r) := by
  refine con_intro (own := "RollingNets$Table") (by decide +kernel) rfl (Nat.le_of_ble_eq_true rfl) (L0 := [some (rf g t), none]) rfl (fun Z zh => ?_)
  have hb := isT_b31 ht
  have ec : (nI cc).toInt = cc := nI_toInt (by omega)
  refine z_aloadnR zh dX7_addRow_0 rfl ?_
  obtain ⟨n, hc⟩ : ∃ n, iv t 2 = n := ⟨_, rfl⟩
  have hn : Ra 0 nn n := ra_of hc (si_T hG ht)
  have hn1 := hn.1
  refine z_callVI zh mv_Table_23 dX7_addRow_1 (ck_T ht) rfl (s_X7_isFull g ht hc) ⟨Nat.le_of_ble_eq_true rfl, Nat.le_of_ble_eq_true rfl⟩ rfl rfl (Nat.le_of_ble_eq_true rfl) ?_
  rintro r _ _ ⟨rfl, rfl, h01, hlt⟩
  refine z_if_eq (tgt := 9) zh dX7_addRow_4 rfl (fun q => ?_) (fun q => ?_)
  · have hlt := hlt q
    refine z_iconst zh dX7_addRow_9 ki_0 ?_
    refine z_istoren zh dX7_addRow_10 (by decide) (L' := [some (rf g t), some (.int (nI 0))]) rfl ?_
    have J : ∀ (k : Nat) (iv : Iv) (lv : Lv) (x : Int32), SI sp σ iv → iv t 2 = n → Ra 0 cc x → (cc : Int) - x.toInt < (k : Int) → Z 11 [some (rf g t), some (.int x)] [] iv lv := by
      intro k
      induction k with
      | zero => intro iv lv x hG hc hx hk; exact (ms_uz hx hk).elim
      | succ k ih =>
        intro iv lv x hG hc hx hk
        refine z_iloadn zh dX7_addRow_11 rfl ?_
        refine z_aloadnR zh dX7_addRow_12 rfl ?_
        refine z_getf zh fl_Table_11 dX7_addRow_13 (ck_T ht) rfl rfl ?_
        refine z_alenG zh (ck_Tc ht) dX7_addRow_16 ?_
        refine z_icmp_ge (tgt := 38) zh dX7_addRow_17 rfl (fun q => ?_) (fun q => ?_)
        · refine z_aloadnR zh dX7_addRow_38 rfl ?_
          refine z_dup zh dX7_addRow_39 rfl ?_
          refine z_getI (x := n) zh fl_Table_20 dX7_addRow_40 (ck_T ht) rfl rfl hc ?_
          refine z_iconst zh dX7_addRow_43 ki_1 ?_
          refine y_iadd zh dX7_addRow_44 (a := 0) (b := (nn : Int) - 1) (c := 1) (d := 1) ⟨by omega, by omega⟩ ⟨by decide, by decide⟩ rfl rfl (by decide) (by omega) (fun z ez hz => ?_)
          refine z_putI zh fl_Table_20 dX7_addRow_45 (ck_T ht) rfl rfl (Nat.le_of_ble_eq_true rfl) (Or.inl rfl) ?_
          have hk9 := tt_ne ht (q := 0) (by omega)
          have hG := si_w (x := z) hG hk9.1 hk9.2 hs (fun l u e => by
            have := rg_Tn ht e
            rw [this.1, this.2]
            exact ra_w hz (by decide) (by omega))
          have em : upI iv t 2 z t 2 = z := by rw [upI_at, if_pos ⟨rfl, rfl⟩]
          generalize upI iv t 2 z = iv at hG em ⊢
          refine z_aloadnR zh dX7_addRow_48 rfl ?_
          refine z_getI (x := z) zh fl_Table_20 dX7_addRow_49 (ck_T ht) rfl rfl em ?_
          refine z_iconst zh dX7_addRow_52 ki_1 ?_
          refine y_isub zh dX7_addRow_53 hz (c := 1) (d := 1) ⟨by decide, by decide⟩ rfl rfl (by decide) (by omega) (fun w ew hw => ?_)
          exact z_iret zh dX7_addRow_54 ⟨_, rfl, hG, ra_w hw (by decide) (by omega)⟩
        · rw [leI, ec] at q
          have hx1 := hx.1
          refine z_aloadnR zh dX7_addRow_20 rfl ?_
          refine z_getf zh fl_Table_11 dX7_addRow_21 (ck_T ht) rfl rfl ?_
          refine z_iloadn zh dX7_addRow_24 rfl ?_
          refine y_gald zh (ck_Tc ht) dX7_addRow_25 (a := 0) (b := (cc : Int) - 1) (x := x) ⟨by omega, by omega⟩ (by omega) (by omega) (fun j hj ej e => ?_)
          refine z_aloadnR zh dX7_addRow_26 rfl ?_
          refine z_getI (x := n) zh fl_Table_20 dX7_addRow_27 (ck_T ht) rfl rfl hc ?_
          refine z_iconst zh dX7_addRow_30 ki_0 ?_
          refine z_iast zh (ck_Tr ht hj) dX7_addRow_31 (ra_in (lo := 0) (hi := (nn : Int) - 1) ⟨by omega, by omega⟩ (by omega) (by omega)) ?_
          have hk9 := tt_ne ht (q := 2 + j) (by omega)
          have hG := si_w (k := t + 2 + j) (j := n.toNatClampNeg) (x := nI 0) hG (by omega) (by omega) (hc9 j _ hj) (fun l u e => by
            have := rg_Tr ht hj e
            exact ⟨this.1, this.2⟩)
          have hc := (upI_ne (iv := iv) (k := t + 2 + j) (j := n.toNatClampNeg) (x := nI 0) (a := t) (b := 2) (Or.inl (by omega))).trans hc
          generalize upI iv (t + 2 + j) n.toNatClampNeg (nI 0) = iv at hG hc ⊢
          refine y_iinc (L' := fun z => [some (rf g t), some (.int z)]) zh dX7_addRow_32 (by decide) rfl (by decide +kernel) (a := 0) (b := (cc : Int) - 1) ⟨by omega, by omega⟩ rfl rfl (by decide) (by omega) (fun _ => rfl) (fun z ez hz => ?_)
          refine z_goto (tgt := 11) zh dX7_addRow_35 rfl ?_
          exact ih iv lv z hG hc (ra_w hz (by decide) (by omega)) (ms_up ez (by decide) hk)
    have e0 : (nI 0).toInt = 0 := by decide
    exact J (cc + 1) iv lv (nI 0) hG hc ⟨by omega, by omega⟩ (by omega)
  · refine z_iconst zh dX7_addRow_7 ki_m1 ?_
    have e1 : (-1 : Int32).toInt = -1 := by decide
    exact z_iret zh dX7_addRow_8 ⟨_, rfl, hG, by omega, by omega⟩
end TB
theorem s_X8_within (g : GE) {iv : Iv} {lv : Lv} {x1 x2 x3 : Int32} : ConI g yX8_within cX8_within 3 (some .boolean) 1 [.int x1, .int x2, .int x3] iv lv (fun r iv' lv' => iv = iv' ∧ lv = lv' ∧ Ra 0 1 r ∧ (¬ r = 0 → x2 ≤ x1 ∧ x1 ≤ x3)) := by
  refine con_intro (own := "RollingNets") (by decide +kernel) rfl (Nat.le_of_ble_eq_true rfl) (L0 := [some (.int x1), some (.int x2), some (.int x3)]) rfl (fun Z zh => ?_)
  refine z_iloadn zh dX8_within_0 rfl ?_
  refine z_iloadn zh dX8_within_1 rfl ?_
  refine z_icmp_lt (tgt := 14) zh dX8_within_2 rfl (fun q => ?_) (fun q1 => ?_)
  · refine z_iconst zh dX8_within_14 ki_0 ?_
    exact z_zret zh dX8_within_15 (Or.inl rfl) ⟨_, rfl, rfl, rfl, ⟨by decide, by decide⟩, fun z => absurd rfl z⟩
  · refine z_iloadn zh dX8_within_5 rfl ?_
    refine z_iloadn zh dX8_within_6 rfl ?_
    refine z_icmp_gt (tgt := 14) zh dX8_within_7 rfl (fun q => ?_) (fun q2 => ?_)
    · refine z_iconst zh dX8_within_14 ki_0 ?_
      exact z_zret zh dX8_within_15 (Or.inl rfl) ⟨_, rfl, rfl, rfl, ⟨by decide, by decide⟩, fun z => absurd rfl z⟩
    · refine z_iconst zh dX8_within_10 ki_1 ?_
      refine z_goto (tgt := 15) zh dX8_within_11 rfl ?_
      exact z_zret zh dX8_within_15 (Or.inr rfl) ⟨_, rfl, rfl, rfl, ⟨by decide, by decide⟩, fun _ => ⟨rb_nlt q1, rb_nlt q2⟩⟩
theorem rb_in {a b c d : Int} {x y z : Int32} (hy : Ra a b y) (hz : Ra c d z) (h : y ≤ x ∧ x ≤ z) : Ra a d x := by
  have h1 := leI.mp h.1; have h2 := leI.mp h.2
  exact ⟨Int.le_trans hy.1 h1, Int.le_trans h2 hz.2⟩
