/-! LENDING TO A LOT -/
def dbl : Nat → Int32 → Int32
  | 0, v => v
  | e + 1, v => dbl e (v + v)
theorem dbl_mul : ∀ (e : Nat) (v : Int32), dbl e v = v * dbl e 1
  | 0, v => by unfold dbl; exact (Int32.mul_one v).symm
  | e + 1, v => by
    unfold dbl
    rw [dbl_mul e (v + v), dbl_mul e (1 + 1), ← Int32.mul_assoc, Int32.mul_add, Int32.mul_one]
theorem dbl_32 (v : Int32) : dbl 32 v = 0 := by
  rw [dbl_mul, show dbl 32 1 = 0 by decide +kernel, Int32.mul_zero]
/-- how long a lot can be lent to -/
def Mz (q : Nat) (v : Int32) : Prop := (0 < v.toInt ∧ v.toInt < (q : Int)) ∨ (v.toInt ≤ 0 ∧ ∃ e : Nat, e + 2147483648 < q ∧ dbl e v = 0)
theorem Mz_0 (v : Int32) : Mz 2147483690 v := by
  have h := (ra_tt v).2
  by_cases p : 0 < v.toInt
  · exact Or.inl ⟨p, by omega⟩
  · exact Or.inr ⟨by omega, 32, by omega, dbl_32 v⟩
theorem Mz_s {q : Nat} {v c2 w n : Int32} (h : Mz (q + 1) v) (hc : 0 < c2.toInt) (en : leI2 v c2 = n) (ew : Wd v n = w) (hw : ¬ w = 0) : Mz q w := by
  have hv := ra_tt v
  have h2 := (ra_tt w).2
  unfold leI2 at en
  rcases h with ⟨h0, h1⟩ | ⟨h0, e, he, hd⟩
  · have hn : 0 < n.toInt ∧ n.toInt ≤ v.toInt := by
      by_cases s : v < c2
      · rw [if_pos s] at en; rw [← en]; exact ⟨h0, Int.le_refl _⟩
      · rw [if_neg s] at en; rw [← en]; exact ⟨hc, leI.mp (rb_nlt s)⟩
    unfold Wd at ew
    rw [if_neg (fun q => by have := leI.mp q; rw [Int32.toInt_zero] at this; omega)] at ew
    have hs := ra_sub (x := v) (y := n) (a := 1) (b := 2147483647) (c := 1) (d := 2147483647) ⟨by omega, hv.2⟩ ⟨by omega, by have := hv.2; omega⟩ (by decide) (by decide)
    rw [ew] at hs
    have hw0 : w.toInt ≠ 0 := fun e => hw (Int32.toInt_inj.mp (e.trans Int32.toInt_zero.symm))
    exact Or.inl ⟨by omega, by omega⟩
  · rw [if_pos (by rw [ltI]; omega)] at en
    subst en
    unfold Wd at ew
    rw [if_pos (by rw [leI, Int32.toInt_zero]; exact h0)] at ew
    cases e with
    | zero =>
      unfold dbl at hd
      rw [hd] at ew
      exact absurd (ew.symm.trans (by decide)) hw
    | succ e =>
      unfold dbl at hd
      rw [ew] at hd
      by_cases p : 0 < w.toInt
      · exact Or.inl ⟨p, by omega⟩
      · exact Or.inr ⟨by omega, e, by omega, hd⟩
/-- one owner's lots, and the day, are as they were -/
def KB (c : Nat) (iv iv' : Iv) : Prop := (∀ j, lc c j → iv' 552 j = iv 552 j) ∧ iv' 552 6 = iv 552 6
theorem kb_t {c : Nat} {a b d : Iv} (h1 : KB c a b) (h2 : KB c b d) : KB c a d := ⟨fun j hj => (h2.1 j hj).trans (h1.1 j hj), h2.2.trans h1.2⟩
theorem kb_fw {c lo hi : Nat} {a b : Iv} (hc : c < 72) (h : Fw lo hi a b) (hh : (hi ≤ 348 ∧ 6 < lo) ∨ 15110 ≤ lo ∨ hi = 0) : KB c a b := ⟨fun j hj => (h 552 j).resolve_left (by unfold lc at hj; omega), (h 552 6).resolve_left (by omega)⟩
theorem kb_fr {c e : Nat} {a b : Iv} (hc : c < 72) (he : e < 72) (hne : c ≠ e) (h : Fr e a b) : KB c a b := ⟨fun j hj => fr_at h (by unfold lc at hj ⊢; omega), fr_at h (by unfold lc; omega)⟩
theorem kb_w {c : Nat} {a : Iv} {j : Nat} {v : Int32} (h : ¬ lc c j) (h6 : j ≠ 6) : KB c a (upI a 552 j v) := ⟨fun i hi => upI_ne (Or.inr (fun e => h (e ▸ hi))), upI_ne (Or.inr (Ne.symm h6))⟩
set_option maxHeartbeats 1000000 in
set_option maxRecDepth 20000 in
theorem s_X9_lendsTo (g : GE) {sp : Nat → Nat → Bool} {σ : Iv} {iv : Iv} {lv : Lv} {a1 a2 a3 : Int32} (ha1 : Ra 0 11 a1) (ha2 : Ra 0 5 a2) (ha3 : Ra 0 99 a3) (hG : SI sp σ iv) : ConV g yX9_lendsTo cX9_lendsTo 7 none 8 [rf g 551, .int a1, .int a2, .int a3] iv lv (fun iv lv => SI sp σ iv) := by
  refine con_intro (own := "RollingNetsModel") (by decide +kernel) rfl (Nat.le_of_ble_eq_true rfl) (L0 := [some (rf g 551), some (.int a1), some (.int a2), some (.int a3), none, none, none]) rfl (fun Z zh => ?_)
  have f1 := ha1.1; have f2 := ha1.2; have f3 := ha2.1; have f4 := ha2.2
  obtain ⟨c, hc⟩ : ∃ c : Nat, (c : Int) = 6 * a1.toInt + a2.toInt := ⟨(6 * a1.toInt + a2.toInt).toNat, by omega⟩
  have hc72 : c < 72 := by omega
  have J : ∀ (q : Nat) (iv : Iv) (lv : Lv) (x y : Int32), SI sp σ iv → Ra (-1) 11 x → (¬ x = -1 → ¬ x = a1 ∧ CP iv x a2) → Ra (-1) 99 y → (¬ y = -1 → ∃ n : Nat, (n : Int) = y.toInt ∧ y.toInt < (iv 552 (348 + c)).toInt ∧ iv 552 (420 + 102 * c + n) = a3) → (¬ y = -1 → ∀ n : Nat, (n : Int) = y.toInt → Mz q (iv 552 (7764 + 102 * c + n))) → Z 17 [some (rf g 551), some (.int a1), some (.int a2), some (.int a3), some (.int x), some (.int y), none] [] iv lv := by
    intro q
    induction q with
    | zero =>
      intro iv lv x y hG hx hX hy hY hM
      refine z_iload zh dX9_lendsTo_17 rfl ?_
      refine z_iconst zh dX9_lendsTo_19 ki_m1 ?_
      refine z_icmp_eq (tgt := 192) zh dX9_lendsTo_20 rfl (fun _ => z_vret zh dX9_lendsTo_192 ⟨rfl, hG⟩) (fun q1 => ?_)
      refine z_iload zh dX9_lendsTo_23 rfl ?_
      refine z_iconst zh dX9_lendsTo_25 ki_m1 ?_
      refine z_icmp_eq (tgt := 192) zh dX9_lendsTo_26 rfl (fun _ => z_vret zh dX9_lendsTo_192 ⟨rfl, hG⟩) (fun q2 => ?_)
      obtain ⟨n, hn, _, _⟩ := hY q2
      rcases hM q2 n hn with ⟨m1, m2⟩ | ⟨_, e, he, _⟩ <;> omega
    | succ q ih =>
      intro iv lv x y hG hx hX hy hY hM
      refine z_iload zh dX9_lendsTo_17 rfl ?_
      refine z_iconst zh dX9_lendsTo_19 ki_m1 ?_
      refine z_icmp_eq (tgt := 192) zh dX9_lendsTo_20 rfl (fun _ => z_vret zh dX9_lendsTo_192 ⟨rfl, hG⟩) (fun q1 => ?_)
      refine z_iload zh dX9_lendsTo_23 rfl ?_
      refine z_iconst zh dX9_lendsTo_25 ki_m1 ?_
      refine z_icmp_eq (tgt := 192) zh dX9_lendsTo_26 rfl (fun _ => z_vret zh dX9_lendsTo_192 ⟨rfl, hG⟩) (fun q2 => ?_)
      have hx1 : Ra 0 11 x := rb_ne_lo hx rl_n1 q1 (by decide)
      have hy1 : Ra 0 99 y := rb_ne_lo hy rl_n1 q2 (by decide)
      have g1 := hx1.1; have g2 := hx1.2; have g3 := hy1.1; have g4 := hy1.2
      obtain ⟨hxa, hCP⟩ := hX q1
      obtain ⟨n, hn, hym, hday⟩ := hY q2
      have hMz := hM q2 n hn
      obtain ⟨e, he⟩ : ∃ e : Nat, (e : Int) = 6 * x.toInt + a2.toInt := ⟨(6 * x.toInt + a2.toInt).toNat, by omega⟩
      have he72 : e < 72 := by omega
      have hce : c ≠ e := fun w => hxa (Int32.toInt_inj.mp (by omega))
      obtain ⟨kx, hkx⟩ : ∃ kx : Nat, (kx : Int) = x.toInt := ⟨x.toInt.toNat, by omega⟩
      have hpos := hCP kx e hkx he
      obtain ⟨i0, ei0⟩ : ∃ i0 : Iv, i0 = iv := ⟨_, rfl⟩
      have k0 : KB c i0 iv := by rw [ei0]; exact ⟨fun _ _ => rfl, rfl⟩
      refine z_aloadnR zh dX9_lendsTo_29 rfl ?_
      refine z_aloadnR zh dX9_lendsTo_30 rfl ?_
      refine z_iloadn zh dX9_lendsTo_31 rfl ?_
      refine z_iloadn zh dX9_lendsTo_32 rfl ?_
      refine z_iload zh dX9_lendsTo_33 rfl ?_
      refine z_callVI zh mv_Y_113 dX9_lendsTo_35 ck_Y rfl (t_X9_sharesOf g ha1 ha2 (ra_w hy1 (by decide) (by decide)) hG.2.2.1) ⟨Nat.le_of_ble_eq_true rfl, Nat.le_of_ble_eq_true rfl⟩ rfl rfl (Nat.le_of_ble_eq_true rfl) ?_
      rintro v _ _ ⟨rfl, rfl, z, ez, ev⟩
      rw [cl_n (n := 7764 + 102 * c + n) (by omega)] at ev
      refine z_aloadnR zh dX9_lendsTo_38 rfl ?_
      refine z_iload zh dX9_lendsTo_39 rfl ?_
      refine z_iloadn zh dX9_lendsTo_41 rfl ?_
      refine z_callVI zh mv_Y_262 dX9_lendsTo_42 ck_Y rfl (e_X9_canLend g hx1 ha2 hG hkx he) ⟨Nat.le_of_ble_eq_true rfl, Nat.le_of_ble_eq_true rfl⟩ rfl rfl (Nat.le_of_ble_eq_true rfl) ?_
      rintro c2 _ _ ⟨rfl, rfl, ec2⟩
      rw [← ec2] at hpos
      refine z_callVIp zh mv_Y_131 dX9_lendsTo_45 ck_Y rfl (e_lesser g) ⟨Nat.le_of_ble_eq_true rfl, Nat.le_of_ble_eq_true rfl⟩ rfl rfl (Nat.le_of_ble_eq_true rfl) ?_
      obtain ⟨w, ew⟩ : ∃ w, leI2 v c2 = w := ⟨_, rfl⟩
      rw [ew]
      have ev0 : i0 552 (7764 + 102 * c + n) = v := by rw [ei0]; exact ev
      rw [ev] at hMz
      have hday0 : i0 552 (420 + 102 * c + n) = a3 := by rw [ei0]; exact hday
      have hym0 : y.toInt < (i0 552 (348 + c)).toInt := by rw [ei0]; exact hym
      have hG0 : SI sp σ i0 := by rw [ei0]; exact hG
      refine z_istore zh dX9_lendsTo_48 (by decide) (L' := [some (rf g 551), some (.int a1), some (.int a2), some (.int a3), some (.int x), some (.int y), some (.int w)]) rfl ?_
      refine z_aloadnR zh dX9_lendsTo_50 rfl ?_
      refine z_iload zh dX9_lendsTo_51 rfl ?_
      refine z_iloadn zh dX9_lendsTo_53 rfl ?_
      refine z_iload zh dX9_lendsTo_54 rfl ?_
      refine y_inegT zh dX9_lendsTo_56 (fun x1 => ?_)
      refine z_callVV zh mv_Y_101 dX9_lendsTo_57 ck_Y rfl (s_X9_stockMore g hx1 ha2 hG) ⟨Nat.le_of_ble_eq_true rfl, Nat.le_of_ble_eq_true rfl⟩ rfl rfl (Nat.le_of_ble_eq_true rfl) ?_
      rintro iw lw ⟨hG, hF⟩
      have k1 := kb_t k0 (kb_fw hc72 hF (Or.inl (by decide)))
      revert hG k1; generalize iw = iv; generalize lw = lv; intro hG k0
      refine z_aloadnR zh dX9_lendsTo_60 rfl ?_
      refine z_iload zh dX9_lendsTo_61 rfl ?_
      refine z_iload zh dX9_lendsTo_63 rfl ?_
      refine y_i2l zh dX9_lendsTo_65 (fun l2 => ?_)
      refine z_aloadnR zh dX9_lendsTo_66 rfl ?_
      refine z_iloadn zh dX9_lendsTo_67 rfl ?_
      refine z_callVI zh mv_Y_203 dX9_lendsTo_68 ck_Y rfl (s_X9_markedOf g ha2 hG) ⟨Nat.le_of_ble_eq_true rfl, Nat.le_of_ble_eq_true rfl⟩ rfl rfl (Nat.le_of_ble_eq_true rfl) ?_
      rintro x3 _ _ ⟨rfl, rfl, _⟩
      refine y_i2l zh dX9_lendsTo_71 (fun l4 => ?_)
      refine y_lmul zh dX9_lendsTo_72 (fun l5 => ?_)
      refine z_callVV zh mv_Y_206 dX9_lendsTo_73 ck_Y rfl (s_X9_cashMore g hx1 hG) ⟨Nat.le_of_ble_eq_true rfl, Nat.le_of_ble_eq_true rfl⟩ rfl rfl (Nat.le_of_ble_eq_true rfl) ?_
      rintro iw lw ⟨hG, hF⟩
      have k1 := kb_t k0 (kb_fw hc72 hF (Or.inr (Or.inr rfl)))
      revert hG k1; generalize iw = iv; generalize lw = lv; intro hG k0
      refine z_aloadnR zh dX9_lendsTo_76 rfl ?_
      refine z_getf zh fl_Y_7 dX9_lendsTo_77 ck_Y rfl rfl ?_
      refine z_sipush zh dX9_lendsTo_80 ks_276 ?_
      refine z_aloadnR zh dX9_lendsTo_83 rfl ?_
      refine z_iload zh dX9_lendsTo_84 rfl ?_
      refine z_iloadn zh dX9_lendsTo_86 rfl ?_
      refine z_callVI zh mv_Y_65 dX9_lendsTo_87 ck_Y rfl (s_X9_cellOf g hx1 ha2 hG) ⟨Nat.le_of_ble_eq_true rfl, Nat.le_of_ble_eq_true rfl⟩ rfl rfl (Nat.le_of_ble_eq_true rfl) ?_
      rintro x6 _ _ ⟨rfl, rfl, hx6, hc6⟩
      refine y_iadd zh dX9_lendsTo_90 rl_276 hx6 (u := 276) (v := 347) rfl rfl (by decide) (by decide) (fun x7 hc7 hx7 => ?_)
      refine z_aloadnR zh dX9_lendsTo_91 rfl ?_
      refine z_getf zh fl_Y_7 dX9_lendsTo_92 ck_Y rfl rfl ?_
      refine z_sipush zh dX9_lendsTo_95 ks_276 ?_
      refine z_aloadnR zh dX9_lendsTo_98 rfl ?_
      refine z_iload zh dX9_lendsTo_99 rfl ?_
      refine z_iloadn zh dX9_lendsTo_101 rfl ?_
      refine z_callVI zh mv_Y_65 dX9_lendsTo_102 ck_Y rfl (s_X9_cellOf g hx1 ha2 hG) ⟨Nat.le_of_ble_eq_true rfl, Nat.le_of_ble_eq_true rfl⟩ rfl rfl (Nat.le_of_ble_eq_true rfl) ?_
      rintro x8 _ _ ⟨rfl, rfl, hx8, hc8⟩
      refine y_iadd zh dX9_lendsTo_105 rl_276 hx8 (u := 276) (v := 347) rfl rfl (by decide) (by decide) (fun x9 hc9 hx9 => ?_)
      refine y_iald zh ck_now dX9_lendsTo_106 hx9 (by decide) (by decide) (fun x10 ex10 => ?_)
      refine z_iload zh dX9_lendsTo_107 rfl ?_
      refine y_iaddT zh dX9_lendsTo_109 (fun x11 => ?_)
      refine z_iast zh ck_now dX9_lendsTo_110 (ra_in hx7 (by decide) (by decide)) ?_
      have ej : ((x7.toNatClampNeg : Nat) : Int) = x7.toInt := ra_clamp hx7 (by decide)
      have hb : 276 ≤ x7.toInt ∧ x7.toInt < 348 := by have := rl_276.1; have := rl_276.2; have := hx1.1; have := hx1.2; have := ha2.1; have := ha2.2; omega
      have k1 := kb_t k0 (kb_w (a := iv) (j := x7.toNatClampNeg) (v := x11) (c := c) (by unfold lc; omega) (by omega))
      have hG1 : SI sp σ (upI iv 552 x7.toNatClampNeg x11) := nw_free hG (by omega)
      revert hG1 k1; generalize upI iv 552 x7.toNatClampNeg x11 = iv; intro k0 hG
      refine z_aloadnR zh dX9_lendsTo_111 rfl ?_
      refine z_iload zh dX9_lendsTo_112 rfl ?_
      refine z_iloadn zh dX9_lendsTo_114 rfl ?_
      refine z_iload zh dX9_lendsTo_115 rfl ?_
      refine z_aloadnR zh dX9_lendsTo_117 rfl ?_
      refine z_getf zh fl_Y_7 dX9_lendsTo_118 ck_Y rfl rfl ?_
      refine z_bipush zh dX9_lendsTo_121 kb_6 ?_
      refine y_ialdN zh ck_now dX9_lendsTo_123 (by decide) (fun x12 ex12 => ?_)
      have hx12 : Ra 0 99 x12 := ra_of ex12 (nr_l hG 6 rfl)
      refine z_callVV zh mv_Y_247 dX9_lendsTo_124 ck_Y rfl (s_X9_adds g hx1 ha2 hx12 hG ex12 he) ⟨Nat.le_of_ble_eq_true rfl, Nat.le_of_ble_eq_true rfl⟩ rfl rfl (Nat.le_of_ble_eq_true rfl) ?_
      rintro iw lw ⟨hG, hF⟩
      have k1 := kb_t k0 (kb_fr hc72 he72 hce hF)
      revert hG k1; generalize iw = iv; generalize lw = lv; intro hG k0
      refine z_aloadnR zh dX9_lendsTo_127 rfl ?_
      refine z_iloadn zh dX9_lendsTo_128 rfl ?_
      refine z_iloadn zh dX9_lendsTo_129 rfl ?_
      refine z_iload zh dX9_lendsTo_130 rfl ?_
      refine z_callVV zh mv_Y_101 dX9_lendsTo_132 ck_Y rfl (s_X9_stockMore g ha1 ha2 hG) ⟨Nat.le_of_ble_eq_true rfl, Nat.le_of_ble_eq_true rfl⟩ rfl rfl (Nat.le_of_ble_eq_true rfl) ?_
      rintro iw lw ⟨hG, hF⟩
      have k1 := kb_t k0 (kb_fw hc72 hF (Or.inl (by decide)))
      revert hG k1; generalize iw = iv; generalize lw = lv; intro hG k0
      refine z_aloadnR zh dX9_lendsTo_135 rfl ?_
      refine z_iloadn zh dX9_lendsTo_136 rfl ?_
      refine z_iload zh dX9_lendsTo_137 rfl ?_
      refine y_i2l zh dX9_lendsTo_139 (fun l13 => ?_)
      refine y_lneg zh dX9_lendsTo_140 (fun l14 => ?_)
      refine z_aloadnR zh dX9_lendsTo_141 rfl ?_
      refine z_iloadn zh dX9_lendsTo_142 rfl ?_
      refine z_callVI zh mv_Y_203 dX9_lendsTo_143 ck_Y rfl (s_X9_markedOf g ha2 hG) ⟨Nat.le_of_ble_eq_true rfl, Nat.le_of_ble_eq_true rfl⟩ rfl rfl (Nat.le_of_ble_eq_true rfl) ?_
      rintro x15 _ _ ⟨rfl, rfl, _⟩
      refine y_i2l zh dX9_lendsTo_146 (fun l16 => ?_)
      refine y_lmul zh dX9_lendsTo_147 (fun l17 => ?_)
      refine z_callVV zh mv_Y_206 dX9_lendsTo_148 ck_Y rfl (s_X9_cashMore g ha1 hG) ⟨Nat.le_of_ble_eq_true rfl, Nat.le_of_ble_eq_true rfl⟩ rfl rfl (Nat.le_of_ble_eq_true rfl) ?_
      rintro iw lw ⟨hG, hF⟩
      have k1 := kb_t k0 (kb_fw hc72 hF (Or.inr (Or.inr rfl)))
      revert hG k1; generalize iw = iv; generalize lw = lv; intro hG k0
      refine z_aloadnR zh dX9_lendsTo_151 rfl ?_
      refine z_iloadn zh dX9_lendsTo_152 rfl ?_
      refine z_iloadn zh dX9_lendsTo_153 rfl ?_
      refine z_iload zh dX9_lendsTo_154 rfl ?_
      refine z_iload zh dX9_lendsTo_156 rfl ?_
      have em : iv 552 (348 + c) = i0 552 (348 + c) := k0.1 _ (Or.inl rfl)
      have ed : ∀ p : Nat, p < 102 → iv 552 (420 + 102 * c + p) = i0 552 (420 + 102 * c + p) := fun p hp => k0.1 _ (Or.inr (Or.inl ⟨by omega, by omega⟩))
      have es : iv 552 (7764 + 102 * c + n) = v := (k0.1 _ (Or.inr (Or.inr ⟨by omega, by omega⟩))).trans ev0
      refine z_callVV zh mv_Y_134 dX9_lendsTo_158 ck_Y rfl (s_X9_takesOf g ha1 ha2 (ra_w hy1 (by decide) (by decide)) hG hc hn (by rw [em]; exact hym0)) ⟨Nat.le_of_ble_eq_true rfl, Nat.le_of_ble_eq_true rfl⟩ rfl rfl (Nat.le_of_ble_eq_true rfl) ?_
      rintro iw lw ⟨hG, hF, hT⟩
      rw [es] at hT
      obtain ⟨t0, et0⟩ : ∃ t0 : Iv, t0 = iw := ⟨_, rfl⟩
      have hT0 : Took c n (Wd v w) iv t0 := by rw [et0]; exact hT
      have k0 : KB c t0 iw := by rw [et0]; exact ⟨fun _ _ => rfl, rfl⟩
      obtain ⟨t1, et1⟩ : ∃ t1 : Iv, t1 = iv := ⟨_, rfl⟩
      rw [← et1] at hT0 em ed
      revert hG k0; generalize iw = iv; generalize lw = lv; intro hG k0
      refine z_aloadnR zh dX9_lendsTo_161 rfl ?_
      refine z_iconst zh dX9_lendsTo_162 ki_2 ?_
      refine z_iloadn zh dX9_lendsTo_163 rfl ?_
      refine z_iload zh dX9_lendsTo_164 rfl ?_
      refine z_iloadn zh dX9_lendsTo_166 rfl ?_
      refine z_iload zh dX9_lendsTo_167 rfl ?_
      refine z_callVV zh mv_Y_213 dX9_lendsTo_169 ck_Y rfl (s_X9_writes g (ra_w rl_2 (by decide) (by decide)) ha2 (ra_w hx1 (by decide) (by decide)) (ra_w ha1 (by decide) (by decide)) hG) ⟨Nat.le_of_ble_eq_true rfl, Nat.le_of_ble_eq_true rfl⟩ rfl rfl (Nat.le_of_ble_eq_true rfl) ?_
      rintro iw lw ⟨hG, hF⟩
      have k1 := kb_t k0 (kb_fw hc72 hF (Or.inr (Or.inl (by decide))))
      revert hG k1; generalize iw = iv; generalize lw = lv; intro hG k0
      refine z_aloadnR zh dX9_lendsTo_172 rfl ?_
      refine z_iloadn zh dX9_lendsTo_173 rfl ?_
      refine z_iloadn zh dX9_lendsTo_174 rfl ?_
      refine z_callVI zh mv_Y_265 dX9_lendsTo_175 ck_Y rfl (e_X9_lenderFor g ha1 ha2 hG) ⟨Nat.le_of_ble_eq_true rfl, Nat.le_of_ble_eq_true rfl⟩ rfl rfl (Nat.le_of_ble_eq_true rfl) ?_
      rintro x2 _ _ ⟨rfl, rfl, hx2, hX2⟩
      refine z_istore zh dX9_lendsTo_178 (by decide) (L' := [some (rf g 551), some (.int a1), some (.int a2), some (.int a3), some (.int x2), some (.int y), some (.int w)]) rfl ?_
      refine z_aloadnR zh dX9_lendsTo_180 rfl ?_
      refine z_iloadn zh dX9_lendsTo_181 rfl ?_
      refine z_iloadn zh dX9_lendsTo_182 rfl ?_
      refine z_iloadn zh dX9_lendsTo_183 rfl ?_
      refine z_callVI zh mv_Y_268 dX9_lendsTo_184 ck_Y rfl (e_X9_lotOfDay g ha1 ha2 hG hc) ⟨Nat.le_of_ble_eq_true rfl, Nat.le_of_ble_eq_true rfl⟩ rfl rfl (Nat.le_of_ble_eq_true rfl) ?_
      rintro y2 _ _ ⟨rfl, rfl, hy2, hY2⟩
      refine z_istore zh dX9_lendsTo_187 (by decide) (L' := [some (rf g 551), some (.int a1), some (.int a2), some (.int a3), some (.int x2), some (.int y2), some (.int w)]) rfl ?_
      refine z_goto (tgt := 17) zh dX9_lendsTo_189 rfl ?_
      refine z_forget zh [true, true, true, true, true, true, false] (L2 := [some (rf g 551), some (.int a1), some (.int a2), some (.int a3), some (.int x2), some (.int y2), none]) rfl ?_
      refine ih iv lv x2 y2 hG hx2 hX2 hy2 hY2 (fun q3 n2 hn2 => ?_)
      obtain ⟨n3, hn3, hlt3, hd3⟩ := hY2 q3
      have e3 : n3 = n2 := by omega
      subst e3
      have h102 : n3 < 102 := by have := hy2.2; omega
      have hn102 : n < 102 := by omega
      have hL := lots_c hG0.2.2.2.1 hc72
      have hmr := (nr_j hG0 (rN_lm (j := 348 + c) ⟨by omega, by omega⟩)).2
      rw [k0.1 _ (Or.inl rfl)] at hlt3
      rw [k0.1 _ (Or.inr (Or.inl ⟨by omega, by omega⟩))] at hd3
      rcases hT0 with ⟨_, hm1, hd1⟩ | ⟨hw, hm1, hd1, hs1⟩
      · exfalso
        rw [hm1, em] at hlt3
        rw [hd1 n3 h102, em] at hd3
        by_cases r1 : n ≤ n3 ∧ (n3 : Int) < (i0 552 (348 + c)).toInt - 1
        · rw [if_pos r1, ed (n3 + 1) (by omega)] at hd3
          have := hL.1 n (n3 + 1) (by omega) (by omega) (by omega)
          rw [hday0, hd3] at this
          omega
        · rw [if_neg r1, ed n3 h102] at hd3
          have h1 : n3 < n := by omega
          have := hL.1 n3 n h1 hn102 (by omega)
          rw [hday0, hd3] at this
          omega
      · rw [hm1, em] at hlt3
        rw [hd1 n3 h102, ed n3 h102] at hd3
        have h1 : n3 = n := by
          rcases Nat.lt_trichotomy n3 n with w1 | w1 | w1
          · have := hL.1 n3 n w1 hn102 (by omega)
            rw [hday0, hd3] at this
            omega
          · exact w1
          · have := hL.1 n n3 w1 h102 (by omega)
            rw [hday0, hd3] at this
            omega
        subst h1
        rw [k0.1 _ (Or.inr (Or.inr ⟨by omega, by omega⟩)), hs1 n3 h102, if_pos rfl]
        exact Mz_s hMz hpos ew rfl hw
  refine z_aloadnR zh dX9_lendsTo_0 rfl ?_
  refine z_iloadn zh dX9_lendsTo_1 rfl ?_
  refine z_iloadn zh dX9_lendsTo_2 rfl ?_
  refine z_callVI zh mv_Y_265 dX9_lendsTo_3 ck_Y rfl (e_X9_lenderFor g ha1 ha2 hG) ⟨Nat.le_of_ble_eq_true rfl, Nat.le_of_ble_eq_true rfl⟩ rfl rfl (Nat.le_of_ble_eq_true rfl) ?_
  rintro x _ _ ⟨rfl, rfl, hx, hX⟩
  refine z_istore zh dX9_lendsTo_6 (by decide) (L' := [some (rf g 551), some (.int a1), some (.int a2), some (.int a3), some (.int x), none, none]) rfl ?_
  refine z_aloadnR zh dX9_lendsTo_8 rfl ?_
  refine z_iloadn zh dX9_lendsTo_9 rfl ?_
  refine z_iloadn zh dX9_lendsTo_10 rfl ?_
  refine z_iloadn zh dX9_lendsTo_11 rfl ?_
  refine z_callVI zh mv_Y_268 dX9_lendsTo_12 ck_Y rfl (e_X9_lotOfDay g ha1 ha2 hG hc) ⟨Nat.le_of_ble_eq_true rfl, Nat.le_of_ble_eq_true rfl⟩ rfl rfl (Nat.le_of_ble_eq_true rfl) ?_
  rintro y _ _ ⟨rfl, rfl, hy, hY⟩
  refine z_istore zh dX9_lendsTo_15 (by decide) (L' := [some (rf g 551), some (.int a1), some (.int a2), some (.int a3), some (.int x), some (.int y), none]) rfl ?_
  exact J 2147483690 iv lv x y hG hx hX hy hY (fun _ _ _ => Mz_0 _)
