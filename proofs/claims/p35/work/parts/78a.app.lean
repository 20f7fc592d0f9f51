/-! THE TAPE: feed, end, fault -/
def sb_x (a s : Int32) : Int32 := (a >>> (s &&& 31)) &&& nI 255
theorem sb_m {a s : Int32} : ¬ sb_x a s = -1 := fun e => by
  have h : sb_x a s &&& nI 255 = sb_x a s := by unfold sb_x; rw [Int32.and_assoc, Int32.and_self]
  rw [e] at h
  exact absurd h (by decide)
def ts_x (t : Nat → Int32) (n : Nat) (x : Int32) : Nat → Int32 := fun j => if j < n then t j else x
def ta_x (t : Nat → Int32) (n : Nat) (a : Int32) : Nat → Int32 := ts_x (ts_x (ts_x (ts_x t n (sb_x a (nI 24))) (n + 1) (sb_x a (nI 16))) (n + 2) (sb_x a (nI 8))) (n + 3) (sb_x a (nI 0))
/-- the tape: so many bytes, these -/
def Tp (kl jl kt n : Nat) (t : Nat → Int32) (iv : Iv) : Prop := iv kl jl = nI n ∧ ∀ j, j < n → iv kt j = t j
theorem rg_tp {j : Nat} : rgI 561 j = none := (rg_Y (q := 10)).trans (by
  unfold rY
  rw [if_neg (by decide), if_neg (by decide), if_neg (by decide), if_neg (by decide), if_neg (by decide), if_neg (by decide), if_neg (by decide)])
theorem tp_s {kl jl kt n : Nat} {t : Nat → Int32} {iv : Iv} {x y : Int32} (h : Tp kl jl kt n t iv) (hk : kl ≠ kt) (hy : y = nI (n + 1)) : Tp kl jl kt (n + 1) (ts_x t n x) (upI (upI iv kt n x) kl jl y) := by
  refine ⟨by rw [upI_at, if_pos ⟨rfl, rfl⟩, hy], fun j hj => ?_⟩
  rw [upI_ne (Or.inl (fun e => hk e.symm)), upI_at]
  unfold ts_x
  by_cases e : j = n
  · subst e; rw [if_pos ⟨rfl, rfl⟩, if_neg (by omega)]
  · rw [if_neg (fun w => e w.2), if_pos (by omega)]; exact h.2 j (by omega)
theorem tp_a {kt n : Nat} {t : Nat → Int32} {iv : Iv} {x : Int32} (h : ∀ j, j < n → iv kt j = t j) : ∀ j, j < n + 1 → upI iv kt n x kt j = ts_x t n x j := fun j hj => by
  rw [upI_at]
  unfold ts_x
  by_cases e : j = n
  · subst e; rw [if_pos ⟨rfl, rfl⟩, if_neg (by omega)]
  · rw [if_neg (fun w => e w.2), if_pos (by omega)]; exact h j (by omega)
theorem tp_c {kl jl kt n : Nat} {t : Nat → Int32} {iv iv' : Iv} (h : Tp kl jl kt n t iv) (h1 : iv' kl jl = iv kl jl) (h2 : ∀ j, iv' kt j = iv kt j) : Tp kl jl kt n t iv' := ⟨h1.trans h.1, fun j hj => (h2 j).trans (h.2 j hj)⟩

set_option maxHeartbeats 1000000 in
set_option maxRecDepth 20000 in
theorem e_X6_append (g : GE) {sp : Nat → Nat → Bool} {σ : Iv} {iv : Iv} {lv : Lv} {a1 : Int32} {n : Nat} {t : Nat → Int32} (hG : SI sp σ iv) (hL : sp 541 1 = false) (hT : ∀ j, sp 542 j = false) (ht : Tp 541 1 542 n t iv) (hn : n ≤ 396) : ConV g yX6_append cX6_append 3 none 1 [rf g 541, .int a1] iv lv (fun iv lv => SI sp σ iv ∧ Tp 541 1 542 (n + 4) (ta_x t n a1) iv) := by
  refine con_intro (own := "RollingNets$Reader") (by decide +kernel) rfl (Nat.le_of_ble_eq_true rfl) (L0 := [some (rf g 541), some (.int a1), none]) rfl (fun Z zh => ?_)
  have step : ∀ (n : Nat) (t : Nat → Int32) (s s2 : Int32) (iv : Iv) (lv : Lv), ¬ s < 0 → s + Int32.ofInt (-8) = s2 → n ≤ 399 → SI sp σ iv → Tp 541 1 542 n t iv → (∀ (iv : Iv) (lv : Lv), SI sp σ iv → Tp 541 1 542 (n + 1) (ts_x t n (sb_x a1 s)) iv → Z 3 [some (rf g 541), some (.int a1), some (.int s2)] [] iv lv) → Z 3 [some (rf g 541), some (.int a1), some (.int s)] [] iv lv := by
    intro n t s s2 iv lv hs hs2 hn hG ht kk
    refine z_iloadn zh dX6_append_3 rfl ?_
    refine z_if_lt (tgt := 49) zh dX6_append_4 rfl (fun q => absurd q hs) (fun _ => ?_)
    refine z_aloadnR zh dX6_append_7 rfl ?_
    refine z_getI (x := nI n) zh fl_Reader_15 dX6_append_8 ck_R rfl rfl ht.1 ?_
    refine z_sipush zh dX6_append_11 ks_400 ?_
    refine z_icmp_ge_N (tgt := 49) zh (by omega) (by omega) dX6_append_14 rfl (fun q => absurd q (by omega)) (fun _ => ?_)
    refine z_aloadnR zh dX6_append_17 rfl ?_
    refine z_getf zh fl_Reader_9 dX6_append_18 ck_R rfl rfl ?_
    refine z_aloadnR zh dX6_append_21 rfl ?_
    refine z_getI (x := nI n) zh fl_Reader_15 dX6_append_22 ck_R rfl rfl ht.1 ?_
    refine z_iloadn zh dX6_append_25 rfl ?_
    refine z_iloadn zh dX6_append_26 rfl ?_
    refine z_ishr zh dX6_append_27 ?_
    refine z_sipush zh dX6_append_28 ks_255 ?_
    refine z_iand zh dX6_append_31 ?_
    rw [show ((a1 >>> (s &&& 31)) &&& nI 255 : Int32) = sb_x a1 s from rfl]
    refine z_iastN (j := n) zh ck_tape dX6_append_32 (by omega) ?_
    have hG : SI sp σ (upI iv 542 n (sb_x a1 s)) := si_w (k := 542) hG (by decide) (by decide) (hT _) (rx_none rfl)
    have e1 : upI iv 542 n (sb_x a1 s) 541 1 = nI n := (upI_ne (Or.inl (by decide))).trans ht.1
    have ha := tp_a (kt := 542) (x := sb_x a1 s) ht.2
    generalize upI iv 542 n (sb_x a1 s) = iv at hG e1 ha ⊢
    refine z_aloadnR zh dX6_append_33 rfl ?_
    refine z_dup zh dX6_append_34 rfl ?_
    refine z_getI (x := nI n) zh fl_Reader_15 dX6_append_35 ck_R rfl rfl e1 ?_
    refine z_iconst zh dX6_append_38 ki_1 ?_
    refine z_iaddN zh dX6_append_39 ?_
    refine z_putI zh fl_Reader_15 dX6_append_40 ck_R rfl rfl (Nat.le_of_ble_eq_true rfl) (Or.inl rfl) ?_
    have hG : SI sp σ (upI iv 541 1 (nI (n + 1))) := si_w (k := 541) (j := 1) hG (by decide) (by decide) hL (rx_some ⟨by rw [nI_toInt (by omega)]; omega, by rw [nI_toInt (by omega)]; omega⟩)
    have ht : Tp 541 1 542 (n + 1) (ts_x t n (sb_x a1 s)) (upI iv 541 1 (nI (n + 1))) := ⟨by rw [upI_at, if_pos ⟨rfl, rfl⟩], fun j hj => (upI_ne (Or.inl (by decide))).trans (ha j hj)⟩
    generalize upI iv 541 1 (nI (n + 1)) = iv at hG ht ⊢
    refine z_iinc zh dX6_append_43 (by decide) rfl (v := s2) hs2 (L' := [some (rf g 541), some (.int a1), some (.int s2)]) rfl ?_
    refine z_goto (tgt := 3) zh dX6_append_46 rfl ?_
    exact kk iv lv hG ht
  refine z_bipush zh dX6_append_0 kb_24 ?_
  refine z_istoren zh dX6_append_2 (by decide) (L' := [some (rf g 541), some (.int a1), some (.int (nI 24))]) rfl ?_
  refine step _ _ (nI 24) (nI 16) iv lv (by decide +kernel) (by decide +kernel) (by omega) hG ht (fun iv lv hG ht => ?_)
  refine step _ _ (nI 16) (nI 8) iv lv (by decide +kernel) (by decide +kernel) (by omega) hG ht (fun iv lv hG ht => ?_)
  refine step _ _ (nI 8) (nI 0) iv lv (by decide +kernel) (by decide +kernel) (by omega) hG ht (fun iv lv hG ht => ?_)
  refine step _ _ (nI 0) (-8) iv lv (by decide +kernel) (by decide +kernel) (by omega) hG ht (fun iv lv hG ht => ?_)
  refine z_iloadn zh dX6_append_3 rfl ?_
  refine z_if_lt (tgt := 49) zh dX6_append_4 rfl (fun _ => ?_) (fun q => absurd (by decide +kernel) q)
  exact z_vret zh dX6_append_49 ⟨rfl, hG, ht⟩
set_option maxHeartbeats 1000000 in
set_option maxRecDepth 20000 in
theorem e_X9_types (g : GE) {sp : Nat → Nat → Bool} {σ : Iv} {iv : Iv} {lv : Lv} {a1 : Int32} {n : Nat} {t : Nat → Int32} (hG : SI sp σ iv) (hL : sp 551 17 = false) (hT : ∀ j, sp 561 j = false) (ht : Tp 551 17 561 n t iv) (hn : n ≤ 396) : ConV g yX9_types cX9_types 3 none 1 [rf g 551, .int a1] iv lv (fun iv lv => SI sp σ iv ∧ Tp 551 17 561 (n + 4) (ta_x t n a1) iv) := by
  refine con_intro (own := "RollingNetsModel") (by decide +kernel) rfl (Nat.le_of_ble_eq_true rfl) (L0 := [some (rf g 551), some (.int a1), none]) rfl (fun Z zh => ?_)
  have step : ∀ (n : Nat) (t : Nat → Int32) (s s2 : Int32) (iv : Iv) (lv : Lv), ¬ s < 0 → s + Int32.ofInt (-8) = s2 → n ≤ 399 → SI sp σ iv → Tp 551 17 561 n t iv → (∀ (iv : Iv) (lv : Lv), SI sp σ iv → Tp 551 17 561 (n + 1) (ts_x t n (sb_x a1 s)) iv → Z 3 [some (rf g 551), some (.int a1), some (.int s2)] [] iv lv) → Z 3 [some (rf g 551), some (.int a1), some (.int s)] [] iv lv := by
    intro n t s s2 iv lv hs hs2 hn hG ht kk
    refine z_iloadn zh dX9_types_3 rfl ?_
    refine z_if_lt (tgt := 39) zh dX9_types_4 rfl (fun q => absurd q hs) (fun _ => ?_)
    refine z_aloadnR zh dX9_types_7 rfl ?_
    refine z_getf zh fl_Y_39 dX9_types_8 ck_Y rfl rfl ?_
    refine z_aloadnR zh dX9_types_11 rfl ?_
    refine z_getI (x := nI n) zh fl_Y_344 dX9_types_12 ck_Y rfl rfl ht.1 ?_
    refine z_iloadn zh dX9_types_15 rfl ?_
    refine z_iloadn zh dX9_types_16 rfl ?_
    refine z_ishr zh dX9_types_17 ?_
    refine z_sipush zh dX9_types_18 ks_255 ?_
    refine z_iand zh dX9_types_21 ?_
    rw [show ((a1 >>> (s &&& 31)) &&& nI 255 : Int32) = sb_x a1 s from rfl]
    refine z_iastN (j := n) zh ck_ytape dX9_types_22 (by omega) ?_
    have hG : SI sp σ (upI iv 561 n (sb_x a1 s)) := si_w (k := 561) hG (by decide) (by decide) (hT _) (rx_none rg_tp)
    have e1 : upI iv 561 n (sb_x a1 s) 551 17 = nI n := (upI_ne (Or.inl (by decide))).trans ht.1
    have ha := tp_a (kt := 561) (x := sb_x a1 s) ht.2
    generalize upI iv 561 n (sb_x a1 s) = iv at hG e1 ha ⊢
    refine z_aloadnR zh dX9_types_23 rfl ?_
    refine z_aloadnR zh dX9_types_24 rfl ?_
    refine z_getI (x := nI n) zh fl_Y_344 dX9_types_25 ck_Y rfl rfl e1 ?_
    refine z_iconst zh dX9_types_28 ki_1 ?_
    refine z_iaddN zh dX9_types_29 ?_
    refine z_putI zh fl_Y_344 dX9_types_30 ck_Y rfl rfl (Nat.le_of_ble_eq_true rfl) (Or.inl rfl) ?_
    have hG : SI sp σ (upI iv 551 17 (nI (n + 1))) := si_w (k := 551) (j := 17) hG (by decide) (by decide) hL (fun lo hi q => (rx_some ⟨by rw [nI_toInt (by omega)]; omega, by rw [nI_toInt (by omega)]; omega⟩) lo hi ((rg_Y (q := 0)).symm.trans q))
    have ht : Tp 551 17 561 (n + 1) (ts_x t n (sb_x a1 s)) (upI iv 551 17 (nI (n + 1))) := ⟨by rw [upI_at, if_pos ⟨rfl, rfl⟩], fun j hj => (upI_ne (Or.inl (by decide))).trans (ha j hj)⟩
    generalize upI iv 551 17 (nI (n + 1)) = iv at hG ht ⊢
    refine z_iinc zh dX9_types_33 (by decide) rfl (v := s2) hs2 (L' := [some (rf g 551), some (.int a1), some (.int s2)]) rfl ?_
    refine z_goto (tgt := 3) zh dX9_types_36 rfl ?_
    exact kk iv lv hG ht
  refine z_bipush zh dX9_types_0 kb_24 ?_
  refine z_istoren zh dX9_types_2 (by decide) (L' := [some (rf g 551), some (.int a1), some (.int (nI 24))]) rfl ?_
  refine step _ _ (nI 24) (nI 16) iv lv (by decide +kernel) (by decide +kernel) (by omega) hG ht (fun iv lv hG ht => ?_)
  refine step _ _ (nI 16) (nI 8) iv lv (by decide +kernel) (by decide +kernel) (by omega) hG ht (fun iv lv hG ht => ?_)
  refine step _ _ (nI 8) (nI 0) iv lv (by decide +kernel) (by decide +kernel) (by omega) hG ht (fun iv lv hG ht => ?_)
  refine step _ _ (nI 0) (-8) iv lv (by decide +kernel) (by decide +kernel) (by omega) hG ht (fun iv lv hG ht => ?_)
  refine z_iloadn zh dX9_types_3 rfl ?_
  refine z_if_lt (tgt := 39) zh dX9_types_4 rfl (fun _ => ?_) (fun q => absurd (by decide +kernel) q)
  exact z_vret zh dX9_types_39 ⟨rfl, hG, ht⟩
