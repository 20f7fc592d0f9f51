/-! THOSE WHO DELIVER -/
def spV (sp : Nat → Nat → Bool) (k j : Nat) : Bool := sp k j || k == 560
theorem spV_or {sp : Nat → Nat → Bool} {k j : Nat} (h : spV sp k j = true) : sp k j = true ∨ k = 560 := by
  unfold spV at h
  rcases Bool.or_eq_true_iff.mp h with e | e
  · exact Or.inl e
  · exact Or.inr (eq_of_beq e)
theorem spV_560 {sp : Nat → Nat → Bool} {j : Nat} : spV sp 560 j = true := Bool.or_eq_true_iff.mpr (Or.inr rfl)
theorem spV_O {sp : Nat → Nat → Bool} (h : sp 551 14 = false) : spV sp 551 14 = false := by unfold spV; rw [h]; rfl
theorem si_V {sp : Nat → Nat → Bool} {σ iv : Iv} (hG : SI sp σ iv) : SI (spV sp) iv iv := ⟨fun k j h => by
  rcases spV_or h with e | rfl
  · exact hG.1 k j e
  · exact (spc_Y (q := 9)).trans rfl, fun _ _ _ => rfl, hG.2.2⟩
theorem si_backV {sp : Nat → Nat → Bool} {σ i0 iv : Iv} (hG : SI sp σ i0) (h : SI (spV sp) i0 iv) : SI sp σ iv := ⟨hG.1, fun k j q => (h.2.1 k j (Bool.or_eq_true_iff.mpr (Or.inl q))).trans (hG.2.1 k j q), h.2.2⟩
/-- how many have not had their turn -/
def zc (iv : Iv) : Nat := cb (fun j => decide (iv 560 j = 0)) 12
theorem zc_put {iv : Iv} {k : Nat} {v : Int32} (hk : k < 12) (h0 : iv 560 k = 0) (hv : ¬ v = 0) : zc (upI iv 560 k v) + 1 = zc iv := by
  unfold zc
  refine (cb_put 12 hk (fun i hi => ?_) ?_).symm
  · by_cases e : i = k
    · subst e; rw [upI_at, if_pos ⟨rfl, rfl⟩]; simp [h0]
    · rw [upI_ne (Or.inr e)]; simp [e]
  · rw [upI_at, if_pos ⟨rfl, rfl⟩]; simp [hv]
theorem vp_b1 : vp_nar .boolean (nI 1) = nI 1 := by decide +kernel
theorem spY_did {sp : Nat → Nat → Bool} {σ iv : Iv} {j : Nat} {v : Int32} (hG : SI sp σ iv) (hD : ∀ j, sp 560 j = false) : SI sp σ (upI iv 560 j v) := si_w (k := 560) hG (by decide) (by decide) (hD _) (rx_none ((rg_Y (q := 9)).trans rfl))
set_option maxHeartbeats 1000000 in
set_option maxRecDepth 20000 in
theorem s_X9_delivers (g : GE) {sp : Nat → Nat → Bool} {σ : Iv} {iv : Iv} {lv : Lv} {a1 : Int32} (ha1 : Ra 0 5 a1) (hG : SI sp σ iv) (hO : sp 551 14 = false) (hD : ∀ j, sp 560 j = false) : ConV g yX9_delivers cX9_delivers 4 none 8 [rf g 551, .int a1] iv lv (fun iv lv => SI sp σ iv) := by
  refine con_intro (own := "RollingNetsModel") (by decide +kernel) rfl (Nat.le_of_ble_eq_true rfl) (L0 := [some (rf g 551), some (.int a1), none, none]) rfl (fun Z zh => ?_)
  have f1 := ha1.1; have f2 := ha1.2
  refine z_aloadnR zh dX9_delivers_0 rfl ?_
  refine z_iconst zh dX9_delivers_1 ki_0 ?_
  refine z_putI zh fl_Y_250 dX9_delivers_2 ck_Y rfl rfl (Nat.le_of_ble_eq_true rfl) (Or.inl rfl) ?_
  have hG : SI sp σ (upI iv 551 14 (nI 0)) := si_w (k := 551) (j := 14) hG (by decide) (by decide) hO (fun lo hi q => (rx_none rfl) lo hi ((rg_Y (q := 0)).symm.trans q))
  have em1 : upI iv 551 14 (nI 0) 551 14 = nI 0 := by rw [upI_at, if_pos ⟨rfl, rfl⟩]
  generalize upI iv 551 14 (nI 0) = iv at hG em1 ⊢
  refine z_iconst zh dX9_delivers_5 ki_0 ?_
  refine z_istoren zh dX9_delivers_6 (by decide) (L' := [some (rf g 551), some (.int a1), some (.int (nI 0)), none]) rfl ?_
  have J49 : ∀ (q : Nat) (iv : Iv) (lv : Lv) (x : Int32), SI sp σ iv → zc iv < q → Z 49 [some (rf g 551), some (.int a1), some (.int x), none] [] iv lv := by
    intro q
    induction q with
    | zero => intro iv lv x _ hz; omega
    | succ q ih =>
      intro iv lv x hG hz
      refine z_iloadn zh dX9_delivers_49 rfl ?_
      refine z_iconst zh dX9_delivers_50 ki_m1 ?_
      refine z_icmp_eq (tgt := 127) zh dX9_delivers_51 rfl (fun _ => z_vret zh dX9_delivers_127 ⟨rfl, hG⟩) (fun _ => ?_)
      refine z_iconst zh dX9_delivers_54 ki_m1 ?_
      refine z_istoren zh dX9_delivers_55 (by decide) (L' := [some (rf g 551), some (.int a1), some (.int (-1)), none]) rfl ?_
      refine z_iconst zh dX9_delivers_56 ki_0 ?_
      refine z_istoren zh dX9_delivers_57 (by decide) (L' := [some (rf g 551), some (.int a1), some (.int (-1)), some (.int (nI 0))]) rfl ?_
      have J58 : ∀ (n : Nat) (y t : Int32), (¬ y = -1 → Ra 0 11 y ∧ iv 560 y.toNatClampNeg = 0) → Ra 0 12 t → 12 - t.toInt < (n : Int) → Z 58 [some (rf g 551), some (.int a1), some (.int y), some (.int t)] [] iv lv := by
        intro n
        induction n with
        | zero => intro y t _ ht hn; exact (ms_uz ht hn).elim
        | succ n ih2 =>
          intro y t hB ht hn
          refine z_iloadn zh dX9_delivers_58 rfl ?_
          refine z_aloadnR zh dX9_delivers_59 rfl ?_
          refine z_callVI zh mv_Y_61 dX9_delivers_60 ck_Y rfl (s_X9_memberMany g  hG) ⟨Nat.le_of_ble_eq_true rfl, Nat.le_of_ble_eq_true rfl⟩ rfl rfl (Nat.le_of_ble_eq_true rfl) ?_
          rintro x2 _ _ ⟨rfl, rfl, hx2⟩
          refine z_icmp_ge (tgt := 105) zh dX9_delivers_63 rfl (fun q => ?_) (fun q => ?_)
          · refine z_iloadn zh dX9_delivers_105 rfl ?_
            refine z_iconst zh dX9_delivers_106 ki_m1 ?_
            refine z_icmp_ne (tgt := 111) zh dX9_delivers_107 rfl (fun q2 => ?_) (fun _ => z_vret zh dX9_delivers_110 ⟨rfl, hG⟩)
            obtain ⟨hy1, hy0⟩ := hB q2
            have g1 := hy1.1; have g2 := hy1.2
            have ec := ra_clamp hy1 (by decide)
            refine z_aloadnR zh dX9_delivers_111 rfl ?_
            refine z_getf zh fl_Y_35 dX9_delivers_112 ck_Y rfl rfl ?_
            refine z_iloadn zh dX9_delivers_115 rfl ?_
            refine z_iconst zh dX9_delivers_116 ki_1 ?_
            refine z_zast zh ck_did dX9_delivers_117 (ra_in hy1 (by decide) (by decide)) ?_
            rw [vp_b1]
            have hz2 := zc_put (iv := iv) (k := y.toNatClampNeg) (v := nI 1) (by omega) hy0 (by decide)
            have hG1 : SI sp σ (upI iv 560 y.toNatClampNeg (nI 1)) := spY_did hG hD
            revert hz2 hG1; generalize upI iv 560 y.toNatClampNeg (nI 1) = iw; intro hz2 hG1
            have hV := si_V hG1
            revert hz2 hG1 hV; generalize eiw : iw = i0; intro hz2 hG1 hV
            refine z_aloadnR zh dX9_delivers_118 rfl ?_
            refine z_iloadn zh dX9_delivers_119 rfl ?_
            refine z_iloadn zh dX9_delivers_120 rfl ?_
            refine z_callVV zh mv_Y_256 dX9_delivers_121 ck_Y rfl (s_X9_deliversOf g hy1 ha1 hV (spV_O hO)) ⟨Nat.le_of_ble_eq_true rfl, Nat.le_of_ble_eq_true rfl⟩ rfl rfl (Nat.le_of_ble_eq_true rfl) ?_
            rintro iz lz hG2
            have hG3 := si_backV hG1 hG2
            have hz3 : zc iz = zc i0 := by
              unfold zc
              exact cb_same 12 (fun j _ => by rw [si_s hG2 spV_560])
            refine z_goto (tgt := 49) zh dX9_delivers_124 rfl ?_
            refine z_forget zh [true, true, true, false] (L2 := [some (rf g 551), some (.int a1), some (.int y), none]) rfl ?_
            exact ih iz lz y hG3 (by omega)
          · have ht1 : Ra 0 11 t := rb_lt_l hx2 ht (rb_nle q) (by decide)
            have J99 : ∀ y, (¬ y = -1 → Ra 0 11 y ∧ iv 560 y.toNatClampNeg = 0) → Z 99 [some (rf g 551), some (.int a1), some (.int y), some (.int t)] [] iv lv := by
              intro y hy
              refine y_iinc (L' := fun z => [some (rf g 551), some (.int a1), some (.int y), some (.int z)]) zh dX9_delivers_99 (by decide) rfl (by decide +kernel) ht1 (u := 1) (v := 12) rfl rfl (by decide) (by decide) (fun _ => rfl) (fun x3 hc3 hx3 => ?_)
              refine z_goto (tgt := 58) zh dX9_delivers_102 rfl ?_
              exact ih2 y x3 hy (ra_w hx3 (by decide) (by decide)) (ms_up hc3 (by decide) hn)
            refine z_aloadnR zh dX9_delivers_66 rfl ?_
            refine z_getf zh fl_Y_35 dX9_delivers_67 ck_Y rfl rfl ?_
            refine z_iloadn zh dX9_delivers_70 rfl ?_
            refine y_zald zh ck_did dX9_delivers_71 ht1 (by decide) (by decide) (fun x4 ex4 => ?_)
            refine z_if_ne (tgt := 99) zh dX9_delivers_72 rfl (fun _ => J99 y hB) (fun q3 => ?_)
            have J97 : Z 97 [some (rf g 551), some (.int a1), some (.int y), some (.int t)] [] iv lv := by
              refine z_iloadn zh dX9_delivers_97 rfl ?_
              refine z_istoren zh dX9_delivers_98 (by decide) (L' := [some (rf g 551), some (.int a1), some (.int t), some (.int t)]) rfl ?_
              exact J99 t (fun _ => ⟨ht1, ex4.trans q3⟩)
            refine z_iloadn zh dX9_delivers_75 rfl ?_
            refine z_iconst zh dX9_delivers_76 ki_m1 ?_
            refine z_icmp_eq (tgt := 97) zh dX9_delivers_77 rfl (fun _ => J97) (fun q4 => ?_)
            have hy11 := (hB q4).1
            refine z_aloadnR zh dX9_delivers_80 rfl ?_
            refine z_iloadn zh dX9_delivers_81 rfl ?_
            refine z_iloadn zh dX9_delivers_82 rfl ?_
            refine z_iconst zh dX9_delivers_83 ki_0 ?_
            refine z_callVI zh mv_Y_125 dX9_delivers_84 ck_Y rfl (s_X9_dayOf g ht1 ha1 (ra_w rl_0 (by decide) (by decide)) hG) ⟨Nat.le_of_ble_eq_true rfl, Nat.le_of_ble_eq_true rfl⟩ rfl rfl (Nat.le_of_ble_eq_true rfl) ?_
            rintro x5 _ _ ⟨rfl, rfl, hx5, _⟩
            refine z_aloadnR zh dX9_delivers_87 rfl ?_
            refine z_iloadn zh dX9_delivers_88 rfl ?_
            refine z_iloadn zh dX9_delivers_89 rfl ?_
            refine z_iconst zh dX9_delivers_90 ki_0 ?_
            refine z_callVI zh mv_Y_125 dX9_delivers_91 ck_Y rfl (s_X9_dayOf g hy11 ha1 (ra_w rl_0 (by decide) (by decide)) hG) ⟨Nat.le_of_ble_eq_true rfl, Nat.le_of_ble_eq_true rfl⟩ rfl rfl (Nat.le_of_ble_eq_true rfl) ?_
            rintro x6 _ _ ⟨rfl, rfl, hx6, _⟩
            exact z_icmp_ge (tgt := 99) zh dX9_delivers_94 rfl (fun _ => J99 y hB) (fun _ => J97)
      exact J58 13 (-1) (nI 0) (fun q => absurd rfl q) (ra_w rl_0 (by decide) (by decide)) (ms_u0 rl_0 (by decide))
  have J7 : ∀ (n : Nat) (iv : Iv) (lv : Lv) (t : Int32), SI sp σ iv → Ra 0 12 t → 12 - t.toInt < (n : Int) → Z 7 [some (rf g 551), some (.int a1), some (.int t), none] [] iv lv := by
    intro n
    induction n with
    | zero => intro iv lv t _ ht hn; exact (ms_uz ht hn).elim
    | succ n ih =>
      intro iv lv t hG ht hn
      refine z_iloadn zh dX9_delivers_7 rfl ?_
      refine z_bipush zh dX9_delivers_8 kb_12 ?_
      refine z_icmp_ge (tgt := 47) zh dX9_delivers_10 rfl (fun _ => ?_) (fun q => ?_)
      · refine z_iconst zh dX9_delivers_47 ki_0 ?_
        refine z_istoren zh dX9_delivers_48 (by decide) (L' := [some (rf g 551), some (.int a1), some (.int (nI 0)), none]) rfl ?_
        refine J49 13 iv lv (nI 0) hG (by unfold zc; have := cb_le (fun j => decide (iv 560 j = 0)) 12; omega)
      · have ht1 : Ra 0 11 t := rb_lt_l rl_12 ht (rb_nle q) (by decide)
        refine z_aloadnR zh dX9_delivers_13 rfl ?_
        refine z_getf zh fl_Y_35 dX9_delivers_14 ck_Y rfl rfl ?_
        refine z_iloadn zh dX9_delivers_17 rfl ?_
        refine z_iloadn zh dX9_delivers_18 rfl ?_
        refine z_aloadnR zh dX9_delivers_19 rfl ?_
        refine z_callVI zh mv_Y_61 dX9_delivers_20 ck_Y rfl (s_X9_memberMany g  hG) ⟨Nat.le_of_ble_eq_true rfl, Nat.le_of_ble_eq_true rfl⟩ rfl rfl (Nat.le_of_ble_eq_true rfl) ?_
        rintro x7 _ _ ⟨rfl, rfl, hx7⟩
        have J40 : ∀ b, Z 40 [some (rf g 551), some (.int a1), some (.int t), none] [.int b, .int t, rf g 560] iv lv := fun b => by
          refine z_zast zh ck_did dX9_delivers_40 (ra_in ht1 (by decide) (by decide)) ?_
          have hG1 : SI sp σ (upI iv 560 t.toNatClampNeg (vp_nar .boolean b)) := spY_did hG hD
          revert hG1; generalize upI iv 560 t.toNatClampNeg (vp_nar .boolean b) = iv; intro hG
          refine y_iinc (L' := fun z => [some (rf g 551), some (.int a1), some (.int z), none]) zh dX9_delivers_41 (by decide) rfl (by decide +kernel) ht1 (u := 1) (v := 12) rfl rfl (by decide) (by decide) (fun _ => rfl) (fun x8 hc8 hx8 => ?_)
          refine z_goto (tgt := 7) zh dX9_delivers_44 rfl ?_
          exact ih iv lv x8 hG (ra_w hx8 (by decide) (by decide)) (ms_up hc8 (by decide) hn)
        have J35 : Z 35 [some (rf g 551), some (.int a1), some (.int t), none] [.int t, rf g 560] iv lv := by
          refine z_iconst zh dX9_delivers_35 ki_1 ?_
          exact z_goto (tgt := 40) zh dX9_delivers_36 rfl (J40 _)
        refine z_icmp_ge (tgt := 35) zh dX9_delivers_23 rfl (fun _ => J35) (fun q2 => ?_)
        refine z_aloadnR zh dX9_delivers_26 rfl ?_
        refine z_iloadn zh dX9_delivers_27 rfl ?_
        refine z_iloadn zh dX9_delivers_28 rfl ?_
        refine z_callVI zh mv_Y_116 dX9_delivers_29 ck_Y rfl (s_X9_isShort g ht1 ha1 hG) ⟨Nat.le_of_ble_eq_true rfl, Nat.le_of_ble_eq_true rfl⟩ rfl rfl (Nat.le_of_ble_eq_true rfl) ?_
        rintro x9 _ _ ⟨rfl, rfl, hx9⟩
        refine z_if_ne (tgt := 39) zh dX9_delivers_32 rfl (fun _ => ?_) (fun _ => J35)
        refine z_iconst zh dX9_delivers_39 ki_0 ?_
        exact J40 _
  exact J7 13 iv lv (nI 0) hG (ra_w rl_0 (by decide) (by decide)) (ms_u0 rl_0 (by decide))
