/-! READING A PLAN: the draft, a number -/
theorem h_X7_put (g : GE) {tt cc nn c r m : Nat} {iv : Iv} {lv : Lv} {v : Int32} (ht : isT tt cc nn) (hc : c < cc) (hr9 : r < m) (hm : m ≤ nn) (em : iv tt 2 = nI m) : ConV g yX7_put cX7_put 4 none 1 [rf g tt, .int (nI c), .int (nI r), .int v] iv lv (fun iv' lv' => iv' = upI iv (tt + 2 + c) r v) := by
  refine con_intro (own := "RollingNets$Table") (by decide +kernel) rfl (Nat.le_of_ble_eq_true rfl) (L0 := [some (rf g tt), some (.int (nI c)), some (.int (nI r)), some (.int v)]) rfl (fun Z zh => ?_)
  have hb := isT_b31 ht
  refine z_iloadn zh dX7_put_0 rfl ?_
  refine z_if_lt_N (tgt := 34) zh (by omega) dX7_put_1 rfl ?_
  refine z_iloadn zh dX7_put_4 rfl ?_
  refine z_aloadnR zh dX7_put_5 rfl ?_
  refine z_getf zh fl_Table_11 dX7_put_6 (ck_T ht) rfl rfl ?_
  refine z_alenG zh (ck_Tc ht) dX7_put_9 ?_
  refine z_icmp_ge_N (tgt := 34) zh (by omega) (by omega) dX7_put_10 rfl (fun q => absurd q (by omega)) (fun _ => ?_)
  refine z_iloadn zh dX7_put_13 rfl ?_
  refine z_if_lt_N (tgt := 34) zh (by omega) dX7_put_14 rfl ?_
  refine z_iloadn zh dX7_put_17 rfl ?_
  refine z_aloadnR zh dX7_put_18 rfl ?_
  refine z_getI (x := nI m) zh fl_Table_20 dX7_put_19 (ck_T ht) rfl rfl em ?_
  refine z_icmp_ge_N (tgt := 34) zh (by omega) (by omega) dX7_put_22 rfl (fun q => absurd q (by omega)) (fun _ => ?_)
  refine z_aloadnR zh dX7_put_25 rfl ?_
  refine z_getf zh fl_Table_11 dX7_put_26 (ck_T ht) rfl rfl ?_
  refine z_iloadn zh dX7_put_29 rfl ?_
  refine z_galdN zh (ck_Tc ht) dX7_put_30 hc ?_
  refine z_iloadn zh dX7_put_31 rfl ?_
  refine z_iloadn zh dX7_put_32 rfl ?_
  refine z_iastN zh (ck_Tr ht hc) dX7_put_33 (by omega) ?_
  exact z_vret zh dX7_put_34 ⟨rfl, rfl⟩
theorem h_X7_addRow (g : GE) {t cc nn m : Nat} {sp : Nat → Nat → Bool} {σ iv : Iv} {lv : Lv} (ht : isT t cc nn) (hc0 : iv t 2 = nI m) (hm31 : m < 2 ^ 31) (hG : SI sp σ iv) (hs : sp t 2 = false) (hc9 : ∀ c j, c < cc → sp (t + 2 + c) j = false) : ConI g yX7_addRow cX7_addRow 2 (some .int) 2 [rf g t] iv lv (fun r iv' lv' => SI sp σ iv' ∧ (∀ a b : Nat, ¬ (a = t ∧ b = 2) → ¬ (t + 2 ≤ a ∧ a < t + 2 + cc ∧ b = m) → iv' a b = iv a b) ∧ (m < nn → r = nI m ∧ iv' t 2 = nI (m + 1)) ∧ (¬ m < nn → r = -1 ∧ iv' t 2 = nI m)) := by
  refine con_intro (own := "RollingNets$Table") (by decide +kernel) rfl (Nat.le_of_ble_eq_true rfl) (L0 := [some (rf g t), none]) rfl (fun Z zh => ?_)
  have hb := isT_b31 ht
  have ec : (nI cc).toInt = cc := nI_toInt (by omega)
  refine z_aloadnR zh dX7_addRow_0 rfl ?_
  obtain ⟨n, en⟩ : ∃ n : Int32, n = nI m := ⟨_, rfl⟩
  have hc : iv t 2 = n := hc0.trans en.symm
  have enm : n.toInt = m := by rw [en, nI_toInt hm31]
  have ecl : n.toNatClampNeg = m := by rw [en]; exact nI_clamp hm31
  obtain ⟨i0, e90⟩ : ∃ z, z = iv := ⟨_, rfl⟩
  have hn : Ra 0 nn n := ra_of hc (si_T hG ht)
  have hn1 := hn.1
  refine z_callVI zh mv_Table_23 dX7_addRow_1 (ck_T ht) rfl (e_X7_isFull g ht hc) ⟨Nat.le_of_ble_eq_true rfl, Nat.le_of_ble_eq_true rfl⟩ rfl rfl (Nat.le_of_ble_eq_true rfl) ?_
  rintro r _ _ ⟨rfl, rfl, h01, hlt, hfu⟩
  refine z_if_eq (tgt := 9) zh dX7_addRow_4 rfl (fun q => ?_) (fun q => ?_)
  · have hlt := hlt q
    refine z_iconst zh dX7_addRow_9 ki_0 ?_
    refine z_istoren zh dX7_addRow_10 (by decide) (L' := [some (rf g t), some (.int (nI 0))]) rfl ?_
    have J : ∀ (k : Nat) (iv : Iv) (lv : Lv) (x : Int32), SI sp σ iv → (∀ a b : Nat, ¬ (a = t ∧ b = 2) → ¬ (t + 2 ≤ a ∧ a < t + 2 + cc ∧ b = m) → iv a b = i0 a b) → iv t 2 = n → Ra 0 cc x → (cc : Int) - x.toInt < (k : Int) → Z 11 [some (rf g t), some (.int x)] [] iv lv := by
      intro k
      induction k with
      | zero => intro iv lv x hG hF hc hx hk; exact (ms_uz hx hk).elim
      | succ k ih =>
        intro iv lv x hG hF hc hx hk
        refine z_iloadn zh dX7_addRow_11 rfl ?_
        refine z_aloadnR zh dX7_addRow_12 rfl ?_
        refine z_getf zh fl_Table_11 dX7_addRow_13 (ck_T ht) rfl rfl ?_
        refine z_alenG zh (ck_Tc ht) dX7_addRow_16 ?_
        refine z_icmp_ge (tgt := 38) zh dX7_addRow_17 rfl (fun q => ?_) (fun q => ?_)
        · refine z_aloadnR zh dX7_addRow_38 rfl ?_
          refine z_dup zh dX7_addRow_39 rfl ?_
          refine z_getI (x := n) zh fl_Table_20 dX7_addRow_40 (ck_T ht) rfl rfl hc ?_
          refine z_iconst zh dX7_addRow_43 ki_1 ?_
          refine y_iadd zh dX7_addRow_44 (a := 0) (b := (nn : Int) - 1) (c := 1) (d := 1) ⟨by omega, by omega⟩ ⟨by decide, by decide⟩ rfl rfl (by decide) (by omega) (fun z ez hz => ?_)
          refine z_putI zh fl_Table_20 dX7_addRow_45 (ck_T ht) rfl rfl (Nat.le_of_ble_eq_true rfl) (Or.inl rfl) ?_
          have hk9 := tt_ne ht (q := 0) (by omega)
          have hG := si_w (x := z) hG hk9.1 hk9.2 hs (fun l u e => by
            have := rg_Tn ht e
            rw [this.1, this.2]
            exact ra_w hz (by decide) (by omega))
          have em : upI iv t 2 z t 2 = z := by rw [upI_at, if_pos ⟨rfl, rfl⟩]
          have hF : ∀ a b : Nat, ¬ (a = t ∧ b = 2) → ¬ (t + 2 ≤ a ∧ a < t + 2 + cc ∧ b = m) → upI iv t 2 z a b = i0 a b := fun a b w1 w2 => (upI_ne (by omega)).trans (hF a b w1 w2)
          generalize upI iv t 2 z = iv at hG em hF ⊢
          refine z_aloadnR zh dX7_addRow_48 rfl ?_
          refine z_getI (x := z) zh fl_Table_20 dX7_addRow_49 (ck_T ht) rfl rfl em ?_
          refine z_iconst zh dX7_addRow_52 ki_1 ?_
          refine y_isub zh dX7_addRow_53 hz (c := 1) (d := 1) ⟨by decide, by decide⟩ rfl rfl (by decide) (by omega) (fun w ew hw => ?_)
          have e11 : (nI 1).toInt = 1 := by decide
          exact z_iret zh dX7_addRow_54 ⟨_, rfl, hG, (fun a b w1 w2 => (hF a b w1 w2).trans (by rw [e90])), fun _ => ⟨Int32.toInt_inj.mp (by rw [nI_toInt hm31]; omega), em.trans (Int32.toInt_inj.mp (by rw [nI_toInt (by omega)]; omega))⟩, fun w => absurd (by omega) w⟩
        · rw [leI, ec] at q
          have hx1 := hx.1
          refine z_aloadnR zh dX7_addRow_20 rfl ?_
          refine z_getf zh fl_Table_11 dX7_addRow_21 (ck_T ht) rfl rfl ?_
          refine z_iloadn zh dX7_addRow_24 rfl ?_
          refine y_gald zh (ck_Tc ht) dX7_addRow_25 (a := 0) (b := (cc : Int) - 1) (x := x) ⟨by omega, by omega⟩ (by omega) (by omega) (fun j hj ej e => ?_)
          refine z_aloadnR zh dX7_addRow_26 rfl ?_
          refine z_getI (x := n) zh fl_Table_20 dX7_addRow_27 (ck_T ht) rfl rfl hc ?_
          refine z_iconst zh dX7_addRow_30 ki_0 ?_
          refine z_iast zh (ck_Tr ht hj) dX7_addRow_31 (ra_in (lo := 0) (hi := (nn : Int) - 1) ⟨by omega, by omega⟩ (by omega) (by omega)) ?_
          have hk9 := tt_ne ht (q := 2 + j) (by omega)
          have hG := si_w (k := t + 2 + j) (j := n.toNatClampNeg) (x := nI 0) hG (by omega) (by omega) (hc9 j _ hj) (fun l u e => by
            have := rg_Tr ht hj e
            exact ⟨this.1, this.2⟩)
          have hc := (upI_ne (iv := iv) (k := t + 2 + j) (j := n.toNatClampNeg) (x := nI 0) (a := t) (b := 2) (Or.inl (by omega))).trans hc
          have hF : ∀ a b : Nat, ¬ (a = t ∧ b = 2) → ¬ (t + 2 ≤ a ∧ a < t + 2 + cc ∧ b = m) → upI iv (t + 2 + j) n.toNatClampNeg (nI 0) a b = i0 a b := fun a b w1 w2 => (upI_ne (by omega)).trans (hF a b w1 w2)
          generalize upI iv (t + 2 + j) n.toNatClampNeg (nI 0) = iv at hG hc hF ⊢
          refine y_iinc (L' := fun z => [some (rf g t), some (.int z)]) zh dX7_addRow_32 (by decide) rfl (by decide +kernel) (a := 0) (b := (cc : Int) - 1) ⟨by omega, by omega⟩ rfl rfl (by decide) (by omega) (fun _ => rfl) (fun z ez hz => ?_)
          refine z_goto (tgt := 11) zh dX7_addRow_35 rfl ?_
          exact ih iv lv z hG hF hc (ra_w hz (by decide) (by omega)) (ms_up ez (by decide) hk)
    have e0 : (nI 0).toInt = 0 := by decide
    exact J (cc + 1) iv lv (nI 0) hG (fun _ _ _ _ => by rw [e90]) hc ⟨by omega, by omega⟩ (by omega)
  · refine z_iconst zh dX7_addRow_7 ki_m1 ?_
    exact z_iret zh dX7_addRow_8 ⟨_, rfl, hG, (fun _ _ _ _ => rfl), fun w => absurd (by omega) (hfu q), fun _ => ⟨rfl, hc0⟩⟩
theorem dv_w {t : Nat → Int32} {q e : Nat} (h : e - q < 4) (hq : q ≤ e) : dv t q (min (e + 1 - q) 4) = dv t q (min (e - q) 4) * nI 10 + t e - nI 48 := by
  rw [show min (e + 1 - q) 4 = (e - q) + 1 by omega, show min (e - q) 4 = e - q by omega]
  show dv t q (e - q) * nI 10 + t (q + (e - q)) - nI 48 = _
  rw [show q + (e - q) = e by omega]
theorem dv_w4 {t : Nat → Int32} {q e : Nat} (h : 4 ≤ e - q) : dv t q (min (e + 1 - q) 4) = dv t q (min (e - q) 4) := by
  rw [show min (e + 1 - q) 4 = 4 by omega, show min (e - q) 4 = 4 by omega]
theorem dr_i {v : Int32} {c j : Nat} {sp : Nat → Nat → Bool} (hf : Rf sp) (hc : c < 6) : (∀ lo hi, rgI (545 + c) j = some (lo, hi) → Ra lo hi v) ∧ sp (545 + c) j = false := by
  refine ⟨fun lo hi e => ?_, hf.2.2.2 c j hc⟩
  unfold rgI at e
  rw [if_neg (by omega), if_neg (by omega), if_neg (by omega), if_neg (by omega), if_pos (by omega)] at e
  cases e
/-- what a number leaves -/
def NbP (t : Nat → Int32) (n q a b : Nat) (f fp : Int32) (m c r : Nat) (iv iv' : Iv) : Prop := DF iv iv' (fun c' j => c' = c ∧ j = r) ∧ (nf t n q a b = 0 → RS iv' (re dg t n q) f fp m ∧ iv' (545 + c) r = dv t q (re dg t n q - q)) ∧ (¬ nf t n q a b = 0 → RS iv' (re dg t n q) (nI (nf t n q a b)) (nI q) m)
set_option maxHeartbeats 1000000 in
set_option maxRecDepth 20000 in
theorem h_X6_readNumber (g : GE) {sp : Nat → Nat → Bool} {σ iv : Iv} {lv : Lv} {t : Nat → Int32} {n p m c r a b : Nat} {f fp x : Int32} (hT : TL sp σ t n) (hf : Rf sp) (hG : SI sp σ iv) (hp : p ≤ n) (hs : RS iv p f fp m) (hc : c < 6) (hr9 : r < m) (hm : m ≤ 24) (hx : (x, a, b) ∈ srtL) : ConV g yX6_readNumber cX6_readNumber 6 none 3 [rf g 541, .int (nI r), .int (nI c), .int x] iv lv (fun iv' lv' => SI sp σ iv' ∧ NbP t n (re bl t n p) a b f fp m c r iv iv') := by
  obtain ⟨q, eq⟩ : ∃ q, q = re bl t n p := ⟨_, rfl⟩
  have hqn : q ≤ n := by rw [eq]; exact re_le hp
  rw [← eq]
  refine con_intro (own := "RollingNets$Reader") (by decide +kernel) rfl (Nat.le_of_ble_eq_true rfl) (L0 := [some (rf g 541), some (.int (nI r)), some (.int (nI c)), some (.int x), none, none]) rfl (fun Z zh => ?_)
  have hn := hT.1
  have hab := srt_b hx
  refine z_aloadnR zh dX6_readNumber_0 rfl ?_
  refine z_callVV zh mv_Reader_40 dX6_readNumber_1 ck_R rfl (h_X6_skipBlanks g hT hG (by omega) hs) ⟨Nat.le_of_ble_eq_true rfl, Nat.le_of_ble_eq_true rfl⟩ rfl rfl (Nat.le_of_ble_eq_true rfl) ?_
  rw [← eq]
  rintro iv1 lv ⟨hG, hs, hd⟩
  refine z_aloadnR zh dX6_readNumber_4 rfl ?_
  refine z_getI (x := nI q) zh fl_Reader_28 dX6_readNumber_5 ck_R rfl rfl hs.1 ?_
  refine z_istore zh dX6_readNumber_8 (by decide) (L' := [some (rf g 541), some (.int (nI r)), some (.int (nI c)), some (.int x), some (.int (nI q)), none]) rfl ?_
  refine z_iconst zh dX6_readNumber_10 ki_0 ?_
  refine z_istore zh dX6_readNumber_11 (by decide) (L' := [some (rf g 541), some (.int (nI r)), some (.int (nI c)), some (.int x), some (.int (nI q)), some (.int (nI 0))]) rfl ?_
  -- the end: the draft's cell, the place
  have J128 : ∀ (iv' : Iv) (lv : Lv) (e : Nat) (v f2 fp2 : Int32), e ≤ n → SI sp σ iv' → RS iv' q f2 fp2 m → DF iv1 iv' NoP → (∀ iv2, RS iv2 e f2 fp2 m → iv2 (545 + c) r = v → DF iv iv2 (fun c' j => c' = c ∧ j = r) → NbP t n q a b f fp m c r iv iv2) → Z 128 [some (rf g 541), some (.int (nI r)), some (.int (nI c)), some (.int x), some (.int (nI e)), some (.int v)] [] iv' lv := by
    intro iv' lv e v f2 fp2 he hG hs hd2 hpost
    refine z_aloadnR zh dX6_readNumber_128 rfl ?_
    refine z_getf zh fl_Reader_24 dX6_readNumber_129 ck_R rfl rfl ?_
    refine z_iloadn zh dX6_readNumber_132 rfl ?_
    refine z_iloadn zh dX6_readNumber_133 rfl ?_
    refine z_iload zh dX6_readNumber_134 rfl ?_
    refine z_callVV zh mv_Reader_57 dX6_readNumber_136 (ck_T isT_r) rfl (h_X7_put g isT_r hc hr9 hm hs.2.2.2) ⟨Nat.le_of_ble_eq_true rfl, Nat.le_of_ble_eq_true rfl⟩ rfl rfl (Nat.le_of_ble_eq_true rfl) ?_
    rintro iv2 lv rfl
    refine z_aloadnR zh dX6_readNumber_139 rfl ?_
    refine z_iload zh dX6_readNumber_140 rfl ?_
    refine z_putI zh fl_Reader_28 dX6_readNumber_142 ck_R rfl rfl (Nat.le_of_ble_eq_true rfl) (Or.inl rfl) ?_
    have hi := dr_i (v := v) (j := r) hf hc
    refine z_vret zh dX6_readNumber_145 ⟨rfl, si_pl (si_w (k := 545 + c) hG (by omega) (by omega) hi.2 hi.1) (rs_r (by omega)), hpost _ ⟨by rw [upI_at, if_pos ⟨rfl, rfl⟩], ?_, ?_, ?_⟩ ?_ ?_⟩
    · exact (upI_ne (Or.inr (by decide))).trans ((upI_ne (Or.inl (by omega))).trans hs.2.1)
    · exact (upI_ne (Or.inr (by decide))).trans ((upI_ne (Or.inl (by omega))).trans hs.2.2.1)
    · exact (upI_ne (Or.inl (by decide))).trans ((upI_ne (Or.inl (by omega))).trans hs.2.2.2)
    · exact (upI_ne (Or.inl (by omega))).trans (by rw [upI_at, if_pos ⟨rfl, rfl⟩])
    · intro c' j hc' w
      exact (upI_ne (Or.inl (by omega))).trans ((upI_ne (by omega)).trans ((hd2 c' j hc' (fun z => z)).trans (hd c' j hc' (fun z => z))))
  have J79 : ∀ (e : Nat) (lv : Lv), q ≤ e → e ≤ n → re dg t n q = e → Z 79 [some (rf g 541), some (.int (nI r)), some (.int (nI c)), some (.int x), some (.int (nI e)), some (.int (dv t q (min (e - q) 4)))] [] iv1 lv := by
    intro e lv hqe he ee
    have J99 : (e = q ∨ 4 < e - q) → Z 99 [some (rf g 541), some (.int (nI r)), some (.int (nI c)), some (.int x), some (.int (nI e)), some (.int (dv t q (min (e - q) 4)))] [] iv1 lv := by
      intro hbad
      have h1 : nf t n q a b = 1 := nf_1 (by rw [ee]; exact hbad)
      refine z_aloadnR zh dX6_readNumber_99 rfl ?_
      refine z_iconst zh dX6_readNumber_100 ki_1 ?_
      refine z_callVV zh mv_Reader_50 dX6_readNumber_101 ck_R rfl (h_X6_failHere g hG hf hs) ⟨Nat.le_of_ble_eq_true rfl, Nat.le_of_ble_eq_true rfl⟩ rfl rfl (Nat.le_of_ble_eq_true rfl) ?_
      rintro iv2 lv ⟨hG2, hs2, hd2⟩
      refine z_goto (tgt := 128) zh dX6_readNumber_104 rfl ?_
      exact J128 iv2 lv e _ _ _ he hG2 hs2 hd2 (fun iv3 h3 _ hd3 => ⟨hd3, fun w => absurd w (by omega), fun _ => by rw [ee, h1]; exact h3⟩)
    refine z_iload zh dX6_readNumber_79 rfl ?_
    refine z_aloadnR zh dX6_readNumber_81 rfl ?_
    refine z_getI (x := nI q) zh fl_Reader_28 dX6_readNumber_82 ck_R rfl rfl hs.1 ?_
    refine z_icmp_eq_N (tgt := 99) zh (by omega) (by omega) dX6_readNumber_85 rfl (fun q11 => J99 (Or.inl q11)) (fun q11 => ?_)
    refine z_iload zh dX6_readNumber_88 rfl ?_
    refine z_aloadnR zh dX6_readNumber_90 rfl ?_
    refine z_getI (x := nI q) zh fl_Reader_28 dX6_readNumber_91 ck_R rfl rfl hs.1 ?_
    refine z_isubN zh hqe dX6_readNumber_94 ?_
    refine z_iconst zh dX6_readNumber_95 ki_4 ?_
    refine z_icmp_le_N (tgt := 107) zh (by omega) (by omega) dX6_readNumber_96 rfl (fun q14 => ?_) (fun q14 => J99 (Or.inr q14))
    have e4 : min (e - q) 4 = e - q := by omega
    rw [e4]
    have hok : ¬ (re dg t n q = q ∨ 4 < re dg t n q - q) := by rw [ee]; omega
    refine z_iload zh dX6_readNumber_107 rfl ?_
    refine z_iloadn zh dX6_readNumber_109 rfl ?_
    refine z_callSIp zh ms_Reader_88 dX6_readNumber_110 (h_X6_leastOf g hx) ⟨Nat.le_of_ble_eq_true rfl, Nat.le_of_ble_eq_true rfl⟩ rfl rfl (Nat.le_of_ble_eq_true rfl) ?_
    refine z_iloadn zh dX6_readNumber_113 rfl ?_
    refine z_callSIp zh ms_Reader_92 dX6_readNumber_114 (h_X6_mostOf g hx) ⟨Nat.le_of_ble_eq_true rfl, Nat.le_of_ble_eq_true rfl⟩ rfl rfl (Nat.le_of_ble_eq_true rfl) ?_
    refine z_callSI zh ms_Reader_84 dX6_readNumber_117 (t_X8_within g) ⟨Nat.le_of_ble_eq_true rfl, Nat.le_of_ble_eq_true rfl⟩ rfl rfl (Nat.le_of_ble_eq_true rfl) ?_
    rintro x18 _ _ ⟨rfl, rfl, hx18, hz19, hw19⟩
    refine z_if_ne (tgt := 128) zh dX6_readNumber_120 rfl (fun q20 => ?_) (fun q20 => ?_)
    · have h0 : nf t n q a b = 0 := nf_0 hok (by rw [ee]; exact byc (mt hw19.mpr q20))
      exact J128 iv1 lv e _ _ _ he hG hs dfz_0 (fun iv3 h3 h4 hd3 => ⟨hd3, fun _ => by rw [ee]; exact ⟨h3, h4⟩, fun w => absurd h0 w⟩)
    · have h2 : nf t n q a b = 2 := nf_2 hok (by rw [ee]; exact hw19.mp q20)
      refine z_aloadnR zh dX6_readNumber_123 rfl ?_
      refine z_iconst zh dX6_readNumber_124 ki_2 ?_
      refine z_callVV zh mv_Reader_50 dX6_readNumber_125 ck_R rfl (h_X6_failHere g hG hf hs) ⟨Nat.le_of_ble_eq_true rfl, Nat.le_of_ble_eq_true rfl⟩ rfl rfl (Nat.le_of_ble_eq_true rfl) ?_
      rintro iv2 lv ⟨hG2, hs2, hd2⟩
      exact J128 iv2 lv e _ _ _ he hG2 hs2 hd2 (fun iv3 h3 _ hd3 => ⟨hd3, fun w => absurd w (by omega), fun _ => by rw [ee, h2]; exact h3⟩)
  have J13 : ∀ (k e : Nat) (lv : Lv), q ≤ e → e ≤ n → re dg t n q = re dg t n e → n - e < k → Z 13 [some (rf g 541), some (.int (nI r)), some (.int (nI c)), some (.int x), some (.int (nI e)), some (.int (dv t q (min (e - q) 4)))] [] iv1 lv := by
    intro k
    induction k with
    | zero => intro e lv _ _ _ hk; omega
    | succ k ih =>
      intro e lv hqe he ee hk
      refine z_iload zh dX6_readNumber_13 rfl ?_
      refine z_aloadnR zh dX6_readNumber_15 rfl ?_
      refine z_getI (x := nI n) zh fl_Reader_15 dX6_readNumber_16 ck_R rfl rfl (tl_n hT hG) ?_
      refine z_icmp_ge_N (tgt := 79) zh (by omega) (by omega) dX6_readNumber_19 rfl (fun q25 => ?_) (fun q25 => ?_)
      · exact J79 e lv hqe he (ee.trans (re_stop (by rw [hr_ge q25]; exact dg_m)))
      · refine z_aloadnR zh dX6_readNumber_22 rfl ?_
        refine z_getf zh fl_Reader_9 dX6_readNumber_23 ck_R rfl rfl ?_
        refine z_iload zh dX6_readNumber_26 rfl ?_
        refine z_ialdE (x := t e) zh ck_tape dX6_readNumber_28 (by omega) (tl_t hT hG q25) ?_
        refine z_bipush zh dX6_readNumber_29 kb_48 ?_
        refine z_bipush zh dX6_readNumber_31 kb_57 ?_
        refine z_callSI zh ms_Reader_84 dX6_readNumber_33 (t_X8_within g) ⟨Nat.le_of_ble_eq_true rfl, Nat.le_of_ble_eq_true rfl⟩ rfl rfl (Nat.le_of_ble_eq_true rfl) ?_
        rintro x29 _ _ ⟨rfl, rfl, hx29, hz30, hw30⟩
        refine z_if_eq (tgt := 79) zh dX6_readNumber_36 rfl (fun q31 => ?_) (fun q31 => ?_)
        · exact J79 e lv hqe he (ee.trans (re_stop (by rw [hr_lt q25]; exact hw30.mp q31)))
        · have hd9 : dg (t e) := byc (mt hw30.mpr q31)
          have ee' : re dg t n q = re dg t n (e + 1) := ee.trans (re_step dg_m (by rw [hr_lt q25]; exact hd9))
          refine z_iload zh dX6_readNumber_39 rfl ?_
          refine z_aloadnR zh dX6_readNumber_41 rfl ?_
          refine z_getI (x := nI q) zh fl_Reader_28 dX6_readNumber_42 ck_R rfl rfl hs.1 ?_
          refine z_isubN zh hqe dX6_readNumber_45 ?_
          refine z_iconst zh dX6_readNumber_46 ki_4 ?_
          have J71 : ∀ w : Int32, w = dv t q (min (e + 1 - q) 4) → Z 71 [some (rf g 541), some (.int (nI r)), some (.int (nI c)), some (.int x), some (.int (nI e)), some (.int (dv t q (min (e - q) 4)))] [.int w] iv1 lv := by
            rintro w rfl
            refine z_istore zh dX6_readNumber_71 (by decide) (L' := [some (rf g 541), some (.int (nI r)), some (.int (nI c)), some (.int x), some (.int (nI e)), some (.int (dv t q (min (e + 1 - q) 4)))]) rfl ?_
            refine z_iincN (b := 1) zh dX6_readNumber_73 (by decide +kernel) (by decide) rfl (L' := [some (rf g 541), some (.int (nI r)), some (.int (nI c)), some (.int x), some (.int (nI (e + 1))), some (.int (dv t q (min (e + 1 - q) 4)))]) rfl ?_
            refine z_goto (tgt := 13) zh dX6_readNumber_76 rfl ?_
            exact ih (e + 1) lv (by omega) (by omega) ee' (by omega)
          refine z_icmp_ge_N (tgt := 69) zh (by omega) (by omega) dX6_readNumber_47 rfl (fun q40 => ?_) (fun q40 => ?_)
          · refine z_iload zh dX6_readNumber_69 rfl ?_
            exact J71 _ (dv_w4 q40).symm
          · refine z_iload zh dX6_readNumber_50 rfl ?_
            refine z_bipush zh dX6_readNumber_52 kb_10 ?_
            refine z_imul zh dX6_readNumber_54 ?_
            refine z_aloadnR zh dX6_readNumber_55 rfl ?_
            refine z_getf zh fl_Reader_9 dX6_readNumber_56 ck_R rfl rfl ?_
            refine z_iload zh dX6_readNumber_59 rfl ?_
            refine z_ialdE (x := t e) zh ck_tape dX6_readNumber_61 (by omega) (tl_t hT hG q25) ?_
            refine z_iadd zh dX6_readNumber_62 ?_
            refine z_bipush zh dX6_readNumber_63 kb_48 ?_
            refine z_isub zh dX6_readNumber_65 ?_
            refine z_goto (tgt := 71) zh dX6_readNumber_66 rfl ?_
            exact J71 _ (dv_w q40 hqe).symm
  have e00 : dv t q (min (q - q) 4) = nI 0 := by rw [Nat.sub_self]; rfl
  rw [← e00]
  exact J13 (n - q + 1) q lv (Nat.le_refl _) hqn rfl (by omega)
