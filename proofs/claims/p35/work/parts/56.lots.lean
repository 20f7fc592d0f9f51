/-! THE REFERENCE'S LOTS -/
def LC (n : Nat → Int32) (c : Nat) : Prop := (∀ a b : Nat, a < b → b < 102 → (b : Int) < (n (348 + c)).toInt → (n (420 + 102 * c + a)).toInt < (n (420 + 102 * c + b)).toInt) ∧ (∀ a : Nat, a < 102 → (a : Int) < (n (348 + c)).toInt → (n (420 + 102 * c + a)).toInt ≤ (n 6).toInt)
theorem lots_c {n : Nat → Int32} (h : Lots n) {c : Nat} (hc : c < 72) : LC n c := h c hc
/-- the cells of one owner's lots of one issue -/
def lc (c j : Nat) : Prop := j = 348 + c ∨ (420 + 102 * c ≤ j ∧ j < 522 + 102 * c) ∨ (7764 + 102 * c ≤ j ∧ j < 7866 + 102 * c)
def Fr (c : Nat) (iv iv' : Iv) : Prop := ∀ k j, (k = 552 ∧ lc c j) ∨ iv' k j = iv k j
theorem fr_refl {c : Nat} {iv : Iv} : Fr c iv iv := fun _ _ => Or.inr rfl
theorem fr_trans {c : Nat} {a b d : Iv} (h1 : Fr c a b) (h2 : Fr c b d) : Fr c a d := fun k j => by
  rcases h1 k j with q | q
  · exact Or.inl q
  · rcases h2 k j with w | w
    · exact Or.inl w
    · exact Or.inr (w.trans q)
theorem fr_at {c : Nat} {a b : Iv} (h : Fr c a b) {j : Nat} (hj : ¬ lc c j) : b 552 j = a 552 j := by
  rcases h 552 j with q | q
  · exact absurd q.2 hj
  · exact q
theorem fr_w {c : Nat} {a b : Iv} (h : Fr c a b) {j : Nat} {v : Int32} (hj : lc c j) : Fr c a (upI b 552 j v) := fun k i => by
  by_cases e : k = 552 ∧ i = j
  · obtain ⟨rfl, rfl⟩ := e
    exact Or.inl ⟨rfl, hj⟩
  · rw [upI_at, if_neg e]
    exact h k i
/-- all but the days' order -/
def SW (sp : Nat → Nat → Bool) (σ iv : Iv) : Prop := (∀ k j, sp k j = true → spc k j = true) ∧ (∀ k j, sp k j = true → iv k j = σ k j) ∧ S0 iv ∧ Lots (iv 564)
theorem cl_n {x : Int32} {n : Nat} (e : x.toInt = (n : Int)) : x.toNatClampNeg = n := by
  have := cl_e e (by omega)
  omega
theorem rN_lm {j : Nat} (h : 348 ≤ j ∧ j < 420) : rN j = some (0, 100) := by
  unfold rN
  rw [if_neg (by omega), if_neg (by omega), if_pos (by omega)]
theorem rN_ld {j : Nat} (h : 420 ≤ j ∧ j < 7764) : rN j = some (0, 99) := by
  unfold rN
  rw [if_neg (by omega), if_neg (by omega), if_neg (by omega), if_pos (by omega)]
theorem rN_ls {j : Nat} (h : 7764 ≤ j ∧ j < 15110) : rN j = none := by
  unfold rN
  rw [if_neg (by omega), if_neg (by omega), if_neg (by omega), if_neg (by omega), if_pos (by omega)]
section LT
variable {sp : Nat → Nat → Bool} {σ iv : Iv} {v : Int32} {c : Nat}
theorem sw_of (hG : SI sp σ iv) : SW sp σ iv := ⟨hG.1, hG.2.1, hG.2.2.1, hG.2.2.2.2⟩
theorem si_of (h : SW sp σ iv) (hl : Lots (iv 552)) : SI sp σ iv := ⟨h.1, h.2.1, h.2.2.1, hl, h.2.2.2⟩
theorem sw_w (hG : SW sp σ iv) {j : Nat} (h13 : 13 ≤ j) (hx : ∀ lo hi, rN j = some (lo, hi) → Ra lo hi v) : SW sp σ (upI iv 552 j v) := by
  refine ⟨hG.1, fun a b q => ?_, fun a b lo hi q => ?_, ?_⟩
  · rw [upI_at]
    by_cases e : a = 552 ∧ b = j
    · obtain ⟨rfl, rfl⟩ := e
      have := hG.1 _ _ q
      rw [spc_N, spN_hi h13] at this
      cases this
    · rw [if_neg e]; exact hG.2.1 _ _ q
  · rw [upI_at]
    by_cases e : a = 552 ∧ b = j
    · rw [if_pos e]
      obtain ⟨rfl, rfl⟩ := e
      exact hx _ _ (rg_N.symm.trans q)
    · rw [if_neg e]; exact hG.2.2.1 _ _ _ _ q
  · rw [upI_n (by decide)]; exact hG.2.2.2
/-- only one cell's lots have changed: the others' order stands -/
theorem lots_fr {a b : Iv} (hc72 : c < 72) (h : Lots (a 552)) (hf : Fr c a b) (hc : LC (b 552) c) : Lots (b 552) := by
  intro e he
  by_cases q : e = c
  · subst q; exact hc
  · have u : ∀ j, ¬ lc c j → b 552 j = a 552 j := fun j hj => fr_at hf hj
    have u6 : b 552 6 = a 552 6 := u 6 (by unfold lc; omega)
    have um : b 552 (348 + e) = a 552 (348 + e) := u _ (by unfold lc; omega)
    refine ⟨fun x y hxy hy9 hy => ?_, fun x hx9 hx => ?_⟩
    · rw [um] at hy
      rw [u _ (by unfold lc; omega), u _ (by unfold lc; omega)]
      exact (h e he).1 x y hxy hy9 hy
    · rw [um] at hx
      rw [u _ (by unfold lc; omega), u6]
      exact (h e he).2 x hx9 hx
end LT
set_option maxHeartbeats 1000000 in
theorem s_X9_dropsLot (g : GE) {sp : Nat → Nat → Bool} {σ : Iv} {iv : Iv} {lv : Lv} {a1 a2 a3 : Int32} (ha1 : Ra 0 11 a1) (ha2 : Ra 0 5 a2) (ha3 : Ra 0 101 a3) (hG : SI sp σ iv) {c : Nat} (hc : (c : Int) = 6 * a1.toInt + a2.toInt) (hm : a3.toInt < (iv 552 (348 + c)).toInt) : ConV g yX9_dropsLot cX9_dropsLot 5 none 4 [rf g 551, .int a1, .int a2, .int a3] iv lv (fun iv' lv' => SI sp σ iv' ∧ Fr c iv iv' ∧ (iv' 552 (348 + c)).toInt = (iv 552 (348 + c)).toInt - 1 ∧ ∀ p : Nat, p < 102 → iv' 552 (420 + 102 * c + p) = if a3.toInt ≤ (p : Int) ∧ (p : Int) < (iv 552 (348 + c)).toInt - 1 then iv 552 (420 + 102 * c + (p + 1)) else iv 552 (420 + 102 * c + p)) := by
  refine con_intro (own := "RollingNetsModel") (by decide +kernel) rfl (Nat.le_of_ble_eq_true rfl) (L0 := [some (rf g 551), some (.int a1), some (.int a2), some (.int a3), none]) rfl (fun Z zh => ?_)
  have f1 := ha1.1; have f2 := ha1.2; have f3 := ha2.1; have f4 := ha2.2; have f5 := ha3.1; have f6 := ha3.2
  have k1 := rl_1.1; have k2 := rl_1.2
  have k420 := rl_420.1; have k420' := rl_420.2
  have k77 := rl_7764.1; have k77' := rl_7764.2
  have k34 := rl_348.1; have k34' := rl_348.2
  have hc72 : c < 72 := by omega
  have hmr : Ra 0 100 (iv 552 (348 + c)) := nr_j hG (rN_lm ⟨by omega, by omega⟩)
  have hm1 := hmr.2
  obtain ⟨m, em⟩ : ∃ m : Int, m = (iv 552 (348 + c)).toInt := ⟨_, rfl⟩
  rw [← em] at hm hm1
  refine z_iloadn zh dX9_dropsLot_0 rfl ?_
  refine z_istore zh dX9_dropsLot_1 (by decide) (L' := [some (rf g 551), some (.int a1), some (.int a2), some (.int a3), some (.int a3)]) rfl ?_
  have J : ∀ (q : Nat) (iw : Iv) (lw : Lv) (x : Int32), SW sp σ iw → Fr c iv iw → iw 552 (348 + c) = iv 552 (348 + c) → (∀ p : Nat, p < 102 → iw 552 (420 + 102 * c + p) = if a3.toInt ≤ (p : Int) ∧ (p : Int) < x.toInt then iv 552 (420 + 102 * c + (p + 1)) else iv 552 (420 + 102 * c + p)) → a3.toInt ≤ x.toInt → x.toInt ≤ m - 1 → m - x.toInt < (q : Int) → Z 3 [some (rf g 551), some (.int a1), some (.int a2), some (.int a3), some (.int x)] [] iw lw := by
    intro q
    induction q with
    | zero => intro iw lw x _ _ _ _ _ _ _; omega
    | succ q ih =>
      intro iw lw x hW hF hM hD hx1 hx2 hq
      have hx : Ra 0 99 x := ⟨by omega, by omega⟩
      refine z_iload zh dX9_dropsLot_3 rfl ?_
      refine z_aloadnR zh dX9_dropsLot_5 rfl ?_
      refine z_iloadn zh dX9_dropsLot_6 rfl ?_
      refine z_iloadn zh dX9_dropsLot_7 rfl ?_
      refine z_callVI zh mv_Y_110 dX9_dropsLot_8 ck_Y rfl (t_X9_lotMany g ha1 ha2 hW.2.2.1) ⟨Nat.le_of_ble_eq_true rfl, Nat.le_of_ble_eq_true rfl⟩ rfl rfl (Nat.le_of_ble_eq_true rfl) ?_
      rintro r _ _ ⟨rfl, rfl, hr, z, ez, er⟩
      rw [cl_n (n := 348 + c) (by omega), hM] at er
      have er' : r.toInt = m := by rw [em, er]
      refine z_iconst zh dX9_dropsLot_11 ki_1 ?_
      refine y_isub zh dX9_dropsLot_12 hr rl_1 (u := -1) (v := 99) rfl rfl (by decide) (by decide) (fun y ey hy => ?_)
      refine z_icmp_ge (tgt := 76) zh dX9_dropsLot_13 rfl (fun w => ?_) (fun w => ?_)
      · rw [leI] at w
        have hxm : x.toInt = m - 1 := by omega
        refine z_aloadnR zh dX9_dropsLot_76 rfl ?_
        refine z_getf zh fl_Y_7 dX9_dropsLot_77 ck_Y rfl rfl ?_
        refine z_sipush zh dX9_dropsLot_80 ks_348 ?_
        refine z_aloadnR zh dX9_dropsLot_83 rfl ?_
        refine z_iloadn zh dX9_dropsLot_84 rfl ?_
        refine z_iloadn zh dX9_dropsLot_85 rfl ?_
        refine z_callVI zh mv_Y_65 dX9_dropsLot_86 ck_Y rfl (t_X9_cellOf g ha1 ha2 hW.2.2.1) ⟨Nat.le_of_ble_eq_true rfl, Nat.le_of_ble_eq_true rfl⟩ rfl rfl (Nat.le_of_ble_eq_true rfl) ?_
        rintro s _ _ ⟨rfl, rfl, hs, es⟩
        refine y_iadd zh dX9_dropsLot_89 rl_348 hs (u := 348) (v := 419) rfl rfl (by decide) (by decide) (fun t et ht => ?_)
        refine z_aloadnR zh dX9_dropsLot_90 rfl ?_
        refine z_iloadn zh dX9_dropsLot_91 rfl ?_
        refine z_iloadn zh dX9_dropsLot_92 rfl ?_
        refine z_callVI zh mv_Y_110 dX9_dropsLot_93 ck_Y rfl (t_X9_lotMany g ha1 ha2 hW.2.2.1) ⟨Nat.le_of_ble_eq_true rfl, Nat.le_of_ble_eq_true rfl⟩ rfl rfl (Nat.le_of_ble_eq_true rfl) ?_
        rintro r2 _ _ ⟨rfl, rfl, hr2, z2, ez2, er2⟩
        rw [cl_n (n := 348 + c) (by omega), hM] at er2
        have er2' : r2.toInt = m := by rw [em, er2]
        refine z_iconst zh dX9_dropsLot_96 ki_1 ?_
        refine y_isub zh dX9_dropsLot_97 (a := 1) (b := 100) ⟨by omega, by omega⟩ rl_1 (u := 0) (v := 99) rfl rfl (by decide) (by decide) (fun y2 ey2 hy2 => ?_)
        refine z_iast zh ck_now dX9_dropsLot_98 (ra_in ht (by decide) (by decide)) ?_
        rw [cl_n (x := t) (n := 348 + c) (by omega)]
        have hF2 : Fr c iv (upI iw 552 (348 + c) y2) := fr_w hF (Or.inl rfl)
        have hW2 : SW sp σ (upI iw 552 (348 + c) y2) := sw_w hW (by omega) (fun lo hi e => by rw [rN_lm ⟨by omega, by omega⟩] at e; cases e; exact ra_w hy2 (by decide) (by decide))
        have hM2 : upI iw 552 (348 + c) y2 552 (348 + c) = y2 := by rw [upI_at, if_pos ⟨rfl, rfl⟩]
        have hD2 : ∀ p : Nat, p < 102 → upI iw 552 (348 + c) y2 552 (420 + 102 * c + p) = if a3.toInt ≤ (p : Int) ∧ (p : Int) < m - 1 then iv 552 (420 + 102 * c + (p + 1)) else iv 552 (420 + 102 * c + p) := fun p hp => by
          rw [upI_ne (Or.inr (by omega)), hD p hp, hxm]
        generalize upI iw 552 (348 + c) y2 = iz at hF2 hW2 hM2 hD2 ⊢
        refine z_vret zh dX9_dropsLot_99 ⟨rfl, si_of hW2 (lots_fr hc72 hG.2.2.2.1 hF2 ?_), hF2, by rw [hM2]; omega, by rw [← em]; exact hD2⟩
        have u6 : iz 552 6 = iv 552 6 := fr_at hF2 (by unfold lc; omega)
        have hL := lots_c hG.2.2.2.1 hc72
        refine ⟨fun a b hab hb9 hb => ?_, fun a ha9 ha => ?_⟩
        · rw [hM2] at hb
          rw [hD2 a (by omega), hD2 b hb9]
          by_cases q1 : a3.toInt ≤ (a : Int)
          · rw [if_pos ⟨q1, by omega⟩, if_pos ⟨by omega, by omega⟩]
            exact hL.1 (a + 1) (b + 1) (by omega) (by omega) (by rw [← em]; omega)
          · rw [if_neg (fun w => q1 w.1)]
            by_cases q2 : a3.toInt ≤ (b : Int)
            · rw [if_pos ⟨q2, by omega⟩]
              exact hL.1 a (b + 1) (by omega) (by omega) (by rw [← em]; omega)
            · rw [if_neg (fun w => q2 w.1)]
              exact hL.1 a b hab hb9 (by rw [← em]; omega)
        · rw [hM2] at ha
          rw [hD2 a ha9, u6]
          by_cases q1 : a3.toInt ≤ (a : Int)
          · rw [if_pos ⟨q1, by omega⟩]
            exact hL.2 (a + 1) (by omega) (by rw [← em]; omega)
          · rw [if_neg (fun w => q1 w.1)]
            exact hL.2 a ha9 (by rw [← em]; omega)
      · rw [leI] at w
        have hxm : x.toInt < m - 1 := by omega
        have hx : Ra 0 98 x := ⟨by omega, by omega⟩
        refine z_aloadnR zh dX9_dropsLot_16 rfl ?_
        refine z_getf zh fl_Y_7 dX9_dropsLot_17 ck_Y rfl rfl ?_
        refine z_sipush zh dX9_dropsLot_20 ks_420 ?_
        refine z_aloadnR zh dX9_dropsLot_23 rfl ?_
        refine z_iloadn zh dX9_dropsLot_24 rfl ?_
        refine z_iloadn zh dX9_dropsLot_25 rfl ?_
        refine z_iload zh dX9_dropsLot_26 rfl ?_
        refine z_callVI zh mv_Y_106 dX9_dropsLot_28 ck_Y rfl (t_X9_lotAt g ha1 ha2 (ra_w hx (by decide) (by decide)) hW.2.2.1) ⟨Nat.le_of_ble_eq_true rfl, Nat.le_of_ble_eq_true rfl⟩ rfl rfl (Nat.le_of_ble_eq_true rfl) ?_
        rintro s _ _ ⟨rfl, rfl, hs, es⟩
        refine y_iadd zh dX9_dropsLot_31 rl_420 hs (u := 420) (v := 7763) rfl rfl (by decide) (by decide) (fun t et ht => ?_)
        refine z_aloadnR zh dX9_dropsLot_32 rfl ?_
        refine z_iloadn zh dX9_dropsLot_33 rfl ?_
        refine z_iloadn zh dX9_dropsLot_34 rfl ?_
        refine z_iload zh dX9_dropsLot_35 rfl ?_
        refine z_iconst zh dX9_dropsLot_37 ki_1 ?_
        refine y_iadd zh dX9_dropsLot_38 hx rl_1 (u := 1) (v := 99) rfl rfl (by decide) (by decide) (fun x1 ex1 hx11 => ?_)
        refine z_callVI zh mv_Y_125 dX9_dropsLot_39 ck_Y rfl (t_X9_dayOf g ha1 ha2 (ra_w hx11 (by decide) (by decide)) hW.2.2.1) ⟨Nat.le_of_ble_eq_true rfl, Nat.le_of_ble_eq_true rfl⟩ rfl rfl (Nat.le_of_ble_eq_true rfl) ?_
        rintro dd _ _ ⟨rfl, rfl, hdd, z3, ez3, er3⟩
        obtain ⟨n, en⟩ : ∃ n : Nat, (n : Int) = x.toInt := ⟨x.toInt.toNat, by omega⟩
        rw [cl_n (n := 420 + 102 * c + (n + 1)) (by omega), hD (n + 1) (by omega), if_neg (by omega)] at er3
        refine z_iast zh ck_now dX9_dropsLot_42 (ra_in ht (by decide) (by decide)) ?_
        rw [cl_n (x := t) (n := 420 + 102 * c + n) (by omega)]
        have hF2 : Fr c iv (upI iw 552 (420 + 102 * c + n) dd) := fr_w hF (Or.inr (Or.inl ⟨by omega, by omega⟩))
        have hW2 : SW sp σ (upI iw 552 (420 + 102 * c + n) dd) := sw_w hW (by omega) (fun lo hi e => by rw [rN_ld ⟨by omega, by omega⟩] at e; cases e; exact hdd)
        have hM2 : upI iw 552 (420 + 102 * c + n) dd 552 (348 + c) = iv 552 (348 + c) := by rw [upI_ne (Or.inr (by omega))]; exact hM
        have hD2 : ∀ p : Nat, p < 102 → upI iw 552 (420 + 102 * c + n) dd 552 (420 + 102 * c + p) = if a3.toInt ≤ (p : Int) ∧ (p : Int) < x.toInt + 1 then iv 552 (420 + 102 * c + (p + 1)) else iv 552 (420 + 102 * c + p) := fun p hp => by
          by_cases e : p = n
          · subst e
            rw [upI_at, if_pos ⟨rfl, rfl⟩, if_pos ⟨by omega, by omega⟩]
            exact er3.symm
          · rw [upI_ne (Or.inr (by omega)), hD p hp]
            by_cases q1 : a3.toInt ≤ (p : Int) ∧ (p : Int) < x.toInt
            · rw [if_pos q1, if_pos ⟨q1.1, by omega⟩]
            · rw [if_neg q1, if_neg (fun w => q1 ⟨w.1, by omega⟩)]
        generalize upI iw 552 (420 + 102 * c + n) dd = iz at hF2 hW2 hM2 hD2 ⊢
        refine z_aloadnR zh dX9_dropsLot_43 rfl ?_
        refine z_getf zh fl_Y_7 dX9_dropsLot_44 ck_Y rfl rfl ?_
        refine z_sipush zh dX9_dropsLot_47 ks_7764 ?_
        refine z_aloadnR zh dX9_dropsLot_50 rfl ?_
        refine z_iloadn zh dX9_dropsLot_51 rfl ?_
        refine z_iloadn zh dX9_dropsLot_52 rfl ?_
        refine z_iload zh dX9_dropsLot_53 rfl ?_
        refine z_callVI zh mv_Y_106 dX9_dropsLot_55 ck_Y rfl (t_X9_lotAt g ha1 ha2 (ra_w hx (by decide) (by decide)) hW2.2.2.1) ⟨Nat.le_of_ble_eq_true rfl, Nat.le_of_ble_eq_true rfl⟩ rfl rfl (Nat.le_of_ble_eq_true rfl) ?_
        rintro s2 _ _ ⟨rfl, rfl, hs2, es2⟩
        refine y_iadd zh dX9_dropsLot_58 rl_7764 hs2 (u := 7764) (v := 15107) rfl rfl (by decide) (by decide) (fun t2 et2 ht2 => ?_)
        refine z_aloadnR zh dX9_dropsLot_59 rfl ?_
        refine z_iloadn zh dX9_dropsLot_60 rfl ?_
        refine z_iloadn zh dX9_dropsLot_61 rfl ?_
        refine z_iload zh dX9_dropsLot_62 rfl ?_
        refine z_iconst zh dX9_dropsLot_64 ki_1 ?_
        refine y_iadd zh dX9_dropsLot_65 hx rl_1 (u := 1) (v := 99) rfl rfl (by decide) (by decide) (fun x2 ex2 hx22 => ?_)
        refine z_callVI zh mv_Y_113 dX9_dropsLot_66 ck_Y rfl (t_X9_sharesOf g ha1 ha2 (ra_w hx22 (by decide) (by decide)) hW2.2.2.1) ⟨Nat.le_of_ble_eq_true rfl, Nat.le_of_ble_eq_true rfl⟩ rfl rfl (Nat.le_of_ble_eq_true rfl) ?_
        rintro ss _ _ ⟨rfl, rfl, _⟩
        refine z_iast zh ck_now dX9_dropsLot_69 (ra_in ht2 (by decide) (by decide)) ?_
        rw [cl_n (x := t2) (n := 7764 + 102 * c + n) (by omega)]
        have hF3 : Fr c iv (upI iz 552 (7764 + 102 * c + n) ss) := fr_w hF2 (Or.inr (Or.inr ⟨by omega, by omega⟩))
        have hW3 : SW sp σ (upI iz 552 (7764 + 102 * c + n) ss) := sw_w hW2 (by omega) (rx_none (rN_ls ⟨by omega, by omega⟩))
        have hM3 : upI iz 552 (7764 + 102 * c + n) ss 552 (348 + c) = iv 552 (348 + c) := by rw [upI_ne (Or.inr (by omega))]; exact hM2
        have hD3 : ∀ p : Nat, p < 102 → upI iz 552 (7764 + 102 * c + n) ss 552 (420 + 102 * c + p) = if a3.toInt ≤ (p : Int) ∧ (p : Int) < x.toInt + 1 then iv 552 (420 + 102 * c + (p + 1)) else iv 552 (420 + 102 * c + p) := fun p hp => by
          rw [upI_ne (Or.inr (by omega))]; exact hD2 p hp
        generalize upI iz 552 (7764 + 102 * c + n) ss = iu at hF3 hW3 hM3 hD3 ⊢
        refine y_iinc (L' := fun z => [some (rf g 551), some (.int a1), some (.int a2), some (.int a3), some (.int z)]) zh dX9_dropsLot_70 (by decide) rfl (by decide +kernel) hx (u := 1) (v := 99) rfl rfl (by decide) (by decide) (fun _ => rfl) (fun x9 hc9 hx9 => ?_)
        refine z_goto (tgt := 3) zh dX9_dropsLot_73 rfl ?_
        rw [← hc9] at hD3
        exact ih iu lw x9 hW3 hF3 hM3 hD3 (by omega) (by omega) (by omega)
  exact J (m.toNat + 1) iv lv a3 (sw_of hG) fr_refl rfl (fun p hp => by rw [if_neg (by omega)]) (Int.le_refl _) (by omega) (by omega)
