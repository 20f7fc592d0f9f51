/-! TAKING OFF LOTS, ADDING ONE -/
noncomputable def grI (a b : Int32) : Int32 := if b < a then a else b
noncomputable def leI2 (a b : Int32) : Int32 := if a < b then a else b
theorem e_greater (g : GE) {iv : Iv} {lv : Lv} {a b : Int32} : ConIp g yX9_greater cX9_greater 3 (some .int) 1 [rf g 551, .int a, .int b] iv lv (grI a b) := by
  refine con_intro (own := "RollingNetsModel") (by decide +kernel) rfl (Nat.le_of_ble_eq_true rfl) (L0 := [some (rf g 551), some (.int a), some (.int b)]) rfl (fun Z zh => ?_)
  refine z_iloadn zh dX9_greater_0 rfl ?_
  refine z_iloadn zh dX9_greater_1 rfl ?_
  refine z_icmp_le (tgt := 9) zh dX9_greater_2 rfl (fun q => ?_) (fun q => ?_)
  · refine z_iloadn zh dX9_greater_9 rfl ?_
    exact z_iret zh dX9_greater_10 (qI (if_neg (fun w => absurd (leI.mp q) (by have := ltI.mp w; omega))).symm)
  · refine z_iloadn zh dX9_greater_5 rfl ?_
    refine z_goto (tgt := 10) zh dX9_greater_6 rfl ?_
    exact z_iret zh dX9_greater_10 (qI (if_pos (rb_nle q)).symm)
theorem e_lesser (g : GE) {iv : Iv} {lv : Lv} {a b : Int32} : ConIp g yX9_lesser cX9_lesser 3 (some .int) 1 [rf g 551, .int a, .int b] iv lv (leI2 a b) := by
  refine con_intro (own := "RollingNetsModel") (by decide +kernel) rfl (Nat.le_of_ble_eq_true rfl) (L0 := [some (rf g 551), some (.int a), some (.int b)]) rfl (fun Z zh => ?_)
  refine z_iloadn zh dX9_lesser_0 rfl ?_
  refine z_iloadn zh dX9_lesser_1 rfl ?_
  refine z_icmp_ge (tgt := 9) zh dX9_lesser_2 rfl (fun q => ?_) (fun q => ?_)
  · refine z_iloadn zh dX9_lesser_9 rfl ?_
    exact z_iret zh dX9_lesser_10 (qI (if_neg (fun w => absurd (leI.mp q) (by have := ltI.mp w; omega))).symm)
  · refine z_iloadn zh dX9_lesser_5 rfl ?_
    refine z_goto (tgt := 10) zh dX9_lesser_6 rfl ?_
    exact z_iret zh dX9_lesser_10 (qI (if_pos (rb_nle q)).symm)
/-- what is left of a lot -/
noncomputable def Wd (v m : Int32) : Int32 := if v ≤ 0 then v + m else v - m
theorem Wd_all {v : Int32} : Wd v (grI v (-v)) = 0 := by
  unfold Wd grI
  have hv := ra_tt v
  by_cases h : v ≤ 0
  · rw [if_pos h]
    have h0 := leI.mp h
    rw [Int32.toInt_zero] at h0
    by_cases hm : v.toInt = -2147483648
    · have e : v = -2147483648 := Int32.toInt_inj.mp (hm.trans (by decide))
      subst e
      decide
    · have q := ra_neg (x := v) (a := -2147483647) (b := 0) ⟨by have := hv.1; omega, h0⟩ (by decide)
      by_cases w : -v < v
      · have := ltI.mp w
        rw [q.1] at this
        omega
      · rw [if_neg w]; exact Int32.add_right_neg v
  · rw [if_neg h]
    have h0 : 0 < v := rb_nle h
    have h1 := ltI.mp h0
    rw [Int32.toInt_zero] at h1
    have q := ra_neg (x := v) (a := 1) (b := 2147483647) ⟨by omega, hv.2⟩ (by decide)
    rw [if_pos (by rw [ltI, q.1]; omega)]
    exact Int32.sub_self v
/-- a lot is dropped, or something of it is left -/
def Took (c n : Nat) (w : Int32) (iv iv' : Iv) : Prop := (w = 0 ∧ (iv' 552 (348 + c)).toInt = (iv 552 (348 + c)).toInt - 1 ∧ ∀ p : Nat, p < 102 → iv' 552 (420 + 102 * c + p) = if n ≤ p ∧ (p : Int) < (iv 552 (348 + c)).toInt - 1 then iv 552 (420 + 102 * c + (p + 1)) else iv 552 (420 + 102 * c + p)) ∨ (¬ w = 0 ∧ iv' 552 (348 + c) = iv 552 (348 + c) ∧ (∀ p : Nat, p < 102 → iv' 552 (420 + 102 * c + p) = iv 552 (420 + 102 * c + p)) ∧ ∀ p : Nat, p < 102 → iv' 552 (7764 + 102 * c + p) = if p = n then w else iv 552 (7764 + 102 * c + p))

set_option maxHeartbeats 1000000 in
theorem s_X9_takesOf (g : GE) {sp : Nat → Nat → Bool} {σ : Iv} {iv : Iv} {lv : Lv} {a1 a2 a3 a4 : Int32} (ha1 : Ra 0 11 a1) (ha2 : Ra 0 5 a2) (ha3 : Ra 0 101 a3) (hG : SI sp σ iv) {c n : Nat} (hc : (c : Int) = 6 * a1.toInt + a2.toInt) (hn : (n : Int) = a3.toInt) (hm : a3.toInt < (iv 552 (348 + c)).toInt) : ConV g yX9_takesOf cX9_takesOf 6 none 5 [rf g 551, .int a1, .int a2, .int a3, .int a4] iv lv (fun iv' lv' => SI sp σ iv' ∧ Fr c iv iv' ∧ Took c n (Wd (iv 552 (7764 + 102 * c + n)) a4) iv iv') := by
  refine con_intro (own := "RollingNetsModel") (by decide +kernel) rfl (Nat.le_of_ble_eq_true rfl) (L0 := [some (rf g 551), some (.int a1), some (.int a2), some (.int a3), some (.int a4), none]) rfl (fun Z zh => ?_)
  have f1 := ha1.1; have f2 := ha1.2; have f3 := ha2.1; have f4 := ha2.2; have f5 := ha3.1; have f6 := ha3.2
  have k77 := rl_7764.1; have k77' := rl_7764.2
  obtain ⟨v, ev⟩ : ∃ v, iv 552 (7764 + 102 * c + n) = v := ⟨_, rfl⟩
  refine z_sipush zh dX9_takesOf_0 ks_7764 ?_
  refine z_aloadnR zh dX9_takesOf_3 rfl ?_
  refine z_iloadn zh dX9_takesOf_4 rfl ?_
  refine z_iloadn zh dX9_takesOf_5 rfl ?_
  refine z_iloadn zh dX9_takesOf_6 rfl ?_
  refine z_callVI zh mv_Y_106 dX9_takesOf_7 ck_Y rfl (t_X9_lotAt g ha1 ha2 ha3 hG.2.2.1) ⟨Nat.le_of_ble_eq_true rfl, Nat.le_of_ble_eq_true rfl⟩ rfl rfl (Nat.le_of_ble_eq_true rfl) ?_
  rintro s _ _ ⟨rfl, rfl, hs, es⟩
  refine y_iadd zh dX9_takesOf_10 rl_7764 hs (u := 7764) (v := 15107) rfl rfl (by decide) (by decide) (fun t et ht => ?_)
  refine z_istore zh dX9_takesOf_11 (by decide) (L' := [some (rf g 551), some (.int a1), some (.int a2), some (.int a3), some (.int a4), some (.int t)]) rfl ?_
  have en : t.toNatClampNeg = 7764 + 102 * c + n := cl_n (by omega)
  have J : Z 52 [some (rf g 551), some (.int a1), some (.int a2), some (.int a3), some (.int a4), some (.int t)] [.int (Wd v a4), .int t, rf g 552] iv lv := by
    refine z_iast zh ck_now dX9_takesOf_52 (ra_in ht (by decide) (by decide)) ?_
    rw [en]
    obtain ⟨w, ew⟩ : ∃ w, Wd v a4 = w := ⟨_, rfl⟩
    rw [ew]
    have hF2 : Fr c iv (upI iv 552 (7764 + 102 * c + n) w) := fr_w fr_refl (Or.inr (Or.inr ⟨by omega, by omega⟩))
    have hG2 : SI sp σ (upI iv 552 (7764 + 102 * c + n) w) := si_wN2 hG (by omega) (by omega) (rx_none (rN_ls ⟨by omega, by omega⟩))
    have hS2 : ∀ p : Nat, p < 102 → upI iv 552 (7764 + 102 * c + n) w 552 (7764 + 102 * c + p) = if p = n then w else iv 552 (7764 + 102 * c + p) := fun p hp => by
      by_cases e : p = n
      · subst e; rw [upI_at, if_pos ⟨rfl, rfl⟩, if_pos rfl]
      · rw [upI_ne (Or.inr (by omega)), if_neg e]
    have hM2 : upI iv 552 (7764 + 102 * c + n) w 552 (348 + c) = iv 552 (348 + c) := upI_ne (Or.inr (by omega))
    have hD2 : ∀ p : Nat, p < 102 → upI iv 552 (7764 + 102 * c + n) w 552 (420 + 102 * c + p) = iv 552 (420 + 102 * c + p) := fun p hp => upI_ne (Or.inr (by omega))
    generalize upI iv 552 (7764 + 102 * c + n) w = iw at hF2 hG2 hS2 hM2 hD2 ⊢
    refine z_aloadnR zh dX9_takesOf_53 rfl ?_
    refine z_getf zh fl_Y_7 dX9_takesOf_54 ck_Y rfl rfl ?_
    refine z_iload zh dX9_takesOf_57 rfl ?_
    refine y_iald zh ck_now dX9_takesOf_59 ht (by decide) (by decide) (fun x ex => ?_)
    rw [en, hS2 n (by omega), if_pos rfl] at ex
    subst ex
    refine z_if_ne (tgt := 70) zh dX9_takesOf_60 rfl (fun q => ?_) (fun q => ?_)
    · exact z_vret zh dX9_takesOf_70 ⟨rfl, hG2, hF2, Or.inr ⟨by rw [ev, ew]; exact q, hM2, hD2, by rw [ev, ew]; exact hS2⟩⟩
    · refine z_aloadnR zh dX9_takesOf_63 rfl ?_
      refine z_iloadn zh dX9_takesOf_64 rfl ?_
      refine z_iloadn zh dX9_takesOf_65 rfl ?_
      refine z_iloadn zh dX9_takesOf_66 rfl ?_
      refine z_callVV zh mv_Y_128 dX9_takesOf_67 ck_Y rfl (s_X9_dropsLot g ha1 ha2 ha3 hG2 hc (by rw [hM2]; exact hm)) ⟨Nat.le_of_ble_eq_true rfl, Nat.le_of_ble_eq_true rfl⟩ rfl rfl (Nat.le_of_ble_eq_true rfl) ?_
      rintro iz lz ⟨hG3, hF3, hM3, hD3⟩
      rw [hM2] at hM3
      refine z_vret zh dX9_takesOf_70 ⟨rfl, hG3, fr_trans hF2 hF3, Or.inl ⟨by rw [ev, ew]; exact q, hM3, fun p hp => ?_⟩⟩
      rw [hD3 p hp, hM2]
      have ep : (a3.toInt ≤ (p : Int)) ↔ n ≤ p := by omega
      by_cases r1 : n ≤ p ∧ (p : Int) < (iv 552 (348 + c)).toInt - 1
      · rw [if_pos ⟨by omega, r1.2⟩, if_pos r1]
        have : ((p : Nat) : Int) < 101 := by have := (nr_j hG (rN_lm (j := 348 + c) ⟨by omega, by omega⟩)).2; omega
        exact hD2 (p + 1) (by omega)
      · rw [if_neg (fun w => r1 ⟨by omega, w.2⟩), if_neg r1]; exact hD2 p hp
  refine z_aloadnR zh dX9_takesOf_13 rfl ?_
  refine z_getf zh fl_Y_7 dX9_takesOf_14 ck_Y rfl rfl ?_
  refine z_iload zh dX9_takesOf_17 rfl ?_
  refine z_aloadnR zh dX9_takesOf_19 rfl ?_
  refine z_getf zh fl_Y_7 dX9_takesOf_20 ck_Y rfl rfl ?_
  refine z_iload zh dX9_takesOf_23 rfl ?_
  refine y_iald zh ck_now dX9_takesOf_25 ht (by decide) (by decide) (fun x ex => ?_)
  rw [en, ev] at ex
  subst ex
  refine z_if_le (tgt := 42) zh dX9_takesOf_26 rfl (fun q => ?_) (fun q => ?_)
  · refine z_aloadnR zh dX9_takesOf_42 rfl ?_
    refine z_getf zh fl_Y_7 dX9_takesOf_43 ck_Y rfl rfl ?_
    refine z_iload zh dX9_takesOf_46 rfl ?_
    refine y_iald zh ck_now dX9_takesOf_48 ht (by decide) (by decide) (fun x ex => ?_)
    rw [en, ev] at ex
    subst ex
    refine z_iload zh dX9_takesOf_49 rfl ?_
    refine z_iadd zh dX9_takesOf_51 ?_
    have e9 : Wd v a4 = v + a4 := if_pos q
    rw [← e9]
    exact J
  · refine z_aloadnR zh dX9_takesOf_29 rfl ?_
    refine z_getf zh fl_Y_7 dX9_takesOf_30 ck_Y rfl rfl ?_
    refine z_iload zh dX9_takesOf_33 rfl ?_
    refine y_iald zh ck_now dX9_takesOf_35 ht (by decide) (by decide) (fun x ex => ?_)
    rw [en, ev] at ex
    subst ex
    refine z_iload zh dX9_takesOf_36 rfl ?_
    refine z_isub zh dX9_takesOf_38 ?_
    refine z_goto (tgt := 52) zh dX9_takesOf_39 rfl ?_
    have e9 : Wd v a4 = v - a4 := if_neg q
    rw [← e9]
    exact J
set_option maxHeartbeats 1000000 in
theorem s_X9_takesOff (g : GE) {sp : Nat → Nat → Bool} {σ : Iv} {iv : Iv} {lv : Lv} {a1 a2 a3 : Int32} (ha1 : Ra 0 11 a1) (ha2 : Ra 0 5 a2) (hG : SI sp σ iv) {c : Nat} (hc : (c : Int) = 6 * a1.toInt + a2.toInt) : ConV g yX9_takesOff cX9_takesOff 7 none 6 [rf g 551, .int a1, .int a2, .int a3] iv lv (fun iv' lv' => SI sp σ iv' ∧ Fr c iv iv') := by
  refine con_intro (own := "RollingNetsModel") (by decide +kernel) rfl (Nat.le_of_ble_eq_true rfl) (L0 := [some (rf g 551), some (.int a1), some (.int a2), some (.int a3), none, none, none]) rfl (fun Z zh => ?_)
  have f1 := ha1.1; have f2 := ha1.2; have f3 := ha2.1; have f4 := ha2.2
  have i0 := hG
  have e0 : (nI 0).toInt = 0 := by decide
  refine z_iloadn zh dX9_takesOff_0 rfl ?_
  refine z_istore zh dX9_takesOff_1 (by decide) (L' := [some (rf g 551), some (.int a1), some (.int a2), some (.int a3), some (.int a3), none, none]) rfl ?_
  have J : ∀ (q : Nat) (iw : Iv) (lw : Lv) (x : Int32), SI sp σ iw → Fr c iv iw → (0 < x.toInt → (iw 552 (348 + c)).toInt < (q : Int)) → Z 3 [some (rf g 551), some (.int a1), some (.int a2), some (.int a3), some (.int x), none, none] [] iw lw := by
    intro q
    induction q with
    | zero =>
      intro iw lw x hG hF hq
      refine z_iload zh dX9_takesOff_3 rfl ?_
      refine z_if_le (tgt := 62) zh dX9_takesOff_5 rfl (fun w => z_vret zh dX9_takesOff_62 ⟨rfl, hG, hF⟩) (fun w => ?_)
      have w0 := ltI.mp (rb_nle w)
      rw [Int32.toInt_zero] at w0
      have hq := hq w0
      refine z_aloadnR zh dX9_takesOff_8 rfl ?_
      refine z_iloadn zh dX9_takesOff_9 rfl ?_
      refine z_iloadn zh dX9_takesOff_10 rfl ?_
      refine z_callVI zh mv_Y_110 dX9_takesOff_11 ck_Y rfl (t_X9_lotMany g ha1 ha2 hG.2.2.1) ⟨Nat.le_of_ble_eq_true rfl, Nat.le_of_ble_eq_true rfl⟩ rfl rfl (Nat.le_of_ble_eq_true rfl) ?_
      rintro r _ _ ⟨rfl, rfl, hr, z, ez, er⟩
      rw [cl_n (n := 348 + c) (by omega)] at er
      refine z_if_le (tgt := 62) zh dX9_takesOff_14 rfl (fun w => z_vret zh dX9_takesOff_62 ⟨rfl, hG, hF⟩) (fun w2 => ?_)
      have w3 := ltI.mp (rb_nle w2)
      rw [Int32.toInt_zero, ← er] at w3
      omega
    | succ q ih =>
      intro iw lw x hG hF hq
      refine z_iload zh dX9_takesOff_3 rfl ?_
      refine z_if_le (tgt := 62) zh dX9_takesOff_5 rfl (fun w => z_vret zh dX9_takesOff_62 ⟨rfl, hG, hF⟩) (fun w => ?_)
      have w0 := ltI.mp (rb_nle w)
      rw [Int32.toInt_zero] at w0
      have hq := hq w0
      refine z_aloadnR zh dX9_takesOff_8 rfl ?_
      refine z_iloadn zh dX9_takesOff_9 rfl ?_
      refine z_iloadn zh dX9_takesOff_10 rfl ?_
      refine z_callVI zh mv_Y_110 dX9_takesOff_11 ck_Y rfl (t_X9_lotMany g ha1 ha2 hG.2.2.1) ⟨Nat.le_of_ble_eq_true rfl, Nat.le_of_ble_eq_true rfl⟩ rfl rfl (Nat.le_of_ble_eq_true rfl) ?_
      rintro r _ _ ⟨rfl, rfl, hr, z, ez, er⟩
      rw [cl_n (n := 348 + c) (by omega)] at er
      refine z_if_le (tgt := 62) zh dX9_takesOff_14 rfl (fun w => z_vret zh dX9_takesOff_62 ⟨rfl, hG, hF⟩) (fun w2 => ?_)
      have w3 := ltI.mp (rb_nle w2)
      rw [Int32.toInt_zero, ← er] at w3
      refine z_aloadnR zh dX9_takesOff_17 rfl ?_
      refine z_iloadn zh dX9_takesOff_18 rfl ?_
      refine z_iloadn zh dX9_takesOff_19 rfl ?_
      refine z_iconst zh dX9_takesOff_20 ki_0 ?_
      refine z_callVI zh mv_Y_113 dX9_takesOff_21 ck_Y rfl (t_X9_sharesOf g ha1 ha2 (ra_w rl_0 (by decide) (by decide)) hG.2.2.1) ⟨Nat.le_of_ble_eq_true rfl, Nat.le_of_ble_eq_true rfl⟩ rfl rfl (Nat.le_of_ble_eq_true rfl) ?_
      rintro v _ _ ⟨rfl, rfl, z2, ez2, ev⟩
      rw [cl_n (n := 7764 + 102 * c + 0) (by omega)] at ev
      refine z_istore zh dX9_takesOff_24 (by decide) (L' := [some (rf g 551), some (.int a1), some (.int a2), some (.int a3), some (.int x), some (.int v), none]) rfl ?_
      refine z_aloadnR zh dX9_takesOff_26 rfl ?_
      refine z_iload zh dX9_takesOff_27 rfl ?_
      refine z_aloadnR zh dX9_takesOff_29 rfl ?_
      refine z_iload zh dX9_takesOff_30 rfl ?_
      refine z_iload zh dX9_takesOff_32 rfl ?_
      refine z_ineg zh dX9_takesOff_34 ?_
      refine z_callVIp zh mv_Y_76 dX9_takesOff_35 ck_Y rfl (e_greater g) ⟨Nat.le_of_ble_eq_true rfl, Nat.le_of_ble_eq_true rfl⟩ rfl rfl (Nat.le_of_ble_eq_true rfl) ?_
      refine z_callVIp zh mv_Y_131 dX9_takesOff_38 ck_Y rfl (e_lesser g) ⟨Nat.le_of_ble_eq_true rfl, Nat.le_of_ble_eq_true rfl⟩ rfl rfl (Nat.le_of_ble_eq_true rfl) ?_
      obtain ⟨n, en⟩ : ∃ n, leI2 x (grI v (-v)) = n := ⟨_, rfl⟩
      rw [en]
      refine z_istore zh dX9_takesOff_41 (by decide) (L' := [some (rf g 551), some (.int a1), some (.int a2), some (.int a3), some (.int x), some (.int v), some (.int n)]) rfl ?_
      refine z_aloadnR zh dX9_takesOff_43 rfl ?_
      refine z_iloadn zh dX9_takesOff_44 rfl ?_
      refine z_iloadn zh dX9_takesOff_45 rfl ?_
      refine z_iconst zh dX9_takesOff_46 ki_0 ?_
      refine z_iload zh dX9_takesOff_47 rfl ?_
      refine z_callVV zh mv_Y_134 dX9_takesOff_49 ck_Y rfl (s_X9_takesOf g ha1 ha2 (ra_w rl_0 (by decide) (by decide)) hG (n := 0) hc (by rw [e0]; rfl) (by rw [e0]; exact w3)) ⟨Nat.le_of_ble_eq_true rfl, Nat.le_of_ble_eq_true rfl⟩ rfl rfl (Nat.le_of_ble_eq_true rfl) ?_
      rintro iz lz ⟨hG2, hF2, hT⟩
      rw [ev] at hT
      refine z_iload zh dX9_takesOff_52 rfl ?_
      refine z_iload zh dX9_takesOff_54 rfl ?_
      refine z_isub zh dX9_takesOff_56 ?_
      refine z_istore zh dX9_takesOff_57 (by decide) (L' := [some (rf g 551), some (.int a1), some (.int a2), some (.int a3), some (.int (x - n)), some (.int v), some (.int n)]) rfl ?_
      refine z_goto (tgt := 3) zh dX9_takesOff_59 rfl ?_
      refine z_forget zh [true, true, true, true, true, false, false] (L2 := [some (rf g 551), some (.int a1), some (.int a2), some (.int a3), some (.int (x - n)), none, none]) rfl ?_
      refine ih iz lz (x - n) hG2 (fr_trans hF hF2) (fun w4 => ?_)
      rcases hT with ⟨_, hM, _⟩ | ⟨hw, hM, _⟩
      · rw [hM]; omega
      · exfalso
        unfold leI2 at en
        by_cases s : x < grI v (-v)
        · rw [if_pos s] at en
          rw [← en, Int32.sub_self, Int32.toInt_zero] at w4
          omega
        · rw [if_neg s] at en
          exact hw (by rw [← en]; exact Wd_all)
  have hmr := (nr_j hG (rN_lm (j := 348 + c) ⟨by omega, by omega⟩)).2
  exact J 101 iv lv a3 hG fr_refl (fun _ => by omega)
