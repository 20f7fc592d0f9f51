/-! READING A PLAN: the next token -/
set_option maxHeartbeats 1000000 in
set_option maxRecDepth 20000 in
theorem h_X9_reads (g : GE) {sp : Nat → Nat → Bool} {σ iv : Iv} {lv : Lv} {t : Nat → Int32} {n s : Nat} (hT : YL sp σ t n) (hG : SI sp σ iv) (hs : iv 551 18 = nI s) (hsn : s ≤ n) : ConV g yX9_reads cX9_reads 2 none 3 [rf g 551] iv lv (fun iv' lv' => SI sp σ iv' ∧ TK t n (re bl t n s) iv' ∧ FY iv iv') := by
  obtain ⟨q, eq⟩ : ∃ q, q = re bl t n s := ⟨_, rfl⟩
  have hqn : q ≤ n := by rw [eq]; exact re_le hsn
  rw [← eq]
  refine con_intro (own := "RollingNetsModel") (by decide +kernel) rfl (Nat.le_of_ble_eq_true rfl) (L0 := [some (rf g 551), none]) rfl (fun Z zh => ?_)
  have hn := hT.1.1
  have hb := hT.2.1
  have J39 : ∀ (iv2 : Iv) (lv : Lv), SI sp σ iv2 → FY iv iv2 → iv2 551 18 = nI q → Z 39 [some (rf g 551), none] [] iv2 lv := by
    intro iv2 lv hG hF e18
    refine z_aloadnR zh dX9_reads_39 rfl ?_
    refine z_aloadnR zh dX9_reads_40 rfl ?_
    refine z_getI (x := nI q) zh fl_Y_350 dX9_reads_41 ck_Y rfl rfl e18 ?_
    refine z_putI zh fl_Y_356 dX9_reads_44 ck_Y rfl rfl (Nat.le_of_ble_eq_true rfl) (Or.inl rfl) ?_
    have hG : SI sp σ (upI iv2 551 19 (nI q)) := yw hG (by decide) (Or.inl (rs_r (by omega)))
    have hF : FY iv (upI iv2 551 19 (nI q)) := fy_w hF (by decide)
    have e18 : upI iv2 551 19 (nI q) 551 18 = nI q := (upI_ne (Or.inr (by decide))).trans e18
    have e19 : upI iv2 551 19 (nI q) 551 19 = nI q := by rw [upI_at, if_pos ⟨rfl, rfl⟩]
    generalize upI iv2 551 19 (nI q) = iv2 at hG hF e18 e19 ⊢
    refine z_aloadnR zh dX9_reads_47 rfl ?_
    refine z_iconst zh dX9_reads_48 ki_1 ?_
    refine z_putI zh fl_Y_359 dX9_reads_49 ck_Y rfl rfl (Nat.le_of_ble_eq_true rfl) (Or.inl rfl) ?_
    have hG : SI sp σ (upI iv2 551 20 (nI 1)) := yw hG (by decide) (Or.inr (by decide))
    have hF : FY iv (upI iv2 551 20 (nI 1)) := fy_w hF (by decide)
    have e18 : upI iv2 551 20 (nI 1) 551 18 = nI q := (upI_ne (Or.inr (by decide))).trans e18
    have e19 : upI iv2 551 20 (nI 1) 551 19 = nI q := (upI_ne (Or.inr (by decide))).trans e19
    have e20 : upI iv2 551 20 (nI 1) 551 20 = nI 1 := by rw [upI_at, if_pos ⟨rfl, rfl⟩]
    generalize upI iv2 551 20 (nI 1) = iv2 at hG hF e18 e19 e20 ⊢
    refine z_aloadnR zh dX9_reads_52 rfl ?_
    refine z_aloadnR zh dX9_reads_53 rfl ?_
    refine z_getI (x := nI q) zh fl_Y_350 dX9_reads_54 ck_Y rfl rfl e18 ?_
    refine z_callVIp zh mv_Y_353 dX9_reads_57 ck_Y rfl (h_X9_raw g hT hG (by omega)) ⟨Nat.le_of_ble_eq_true rfl, Nat.le_of_ble_eq_true rfl⟩ rfl rfl (Nat.le_of_ble_eq_true rfl) ?_
    refine z_istoren zh dX9_reads_60 (by decide) (L' := [some (rf g 551), some (.int (hr t n q))]) rfl ?_
    refine z_iloadn zh dX9_reads_61 rfl ?_
    refine z_iconst zh dX9_reads_62 ki_m1 ?_
    refine z_icmp_ne (tgt := 72) zh dX9_reads_63 rfl (fun w => ?_) (fun w => ?_)
    rotate_left
    · -- the end
      have hnq : n ≤ q := (hr_m hb).mp w
      have hl : ¬ ltr (hr t n q) := by rw [w]; exact ltr_m
      have hd : ¬ dg (hr t n q) := by rw [w]; exact dg_m
      refine z_aloadnR zh dX9_reads_66 rfl ?_
      refine z_iconst zh dX9_reads_67 ki_0 ?_
      refine z_putI zh fl_Y_359 dX9_reads_68 ck_Y rfl rfl (Nat.le_of_ble_eq_true rfl) (Or.inl rfl) ?_
      have hG : SI sp σ (upI iv2 551 20 (nI 0)) := yw hG (by decide) (Or.inr (by decide))
      have hF : FY iv (upI iv2 551 20 (nI 0)) := fy_w hF (by decide)
      have e18 : upI iv2 551 20 (nI 0) 551 18 = nI q := (upI_ne (Or.inr (by decide))).trans e18
      have e19 : upI iv2 551 20 (nI 0) 551 19 = nI q := (upI_ne (Or.inr (by decide))).trans e19
      have e20 : upI iv2 551 20 (nI 0) 551 20 = nI 0 := by rw [upI_at, if_pos ⟨rfl, rfl⟩]
      generalize upI iv2 551 20 (nI 0) = iv2 at hG hF e18 e19 e20 ⊢
      exact z_vret zh dX9_reads_71 ⟨rfl, hG, ⟨e19, 0, by decide, e20, ⟨fun _ => hnq, fun _ => rfl⟩, ⟨fun z => absurd z (by decide), fun z => absurd (kd_ltr z) hl⟩, fun z => absurd z (by decide), ⟨fun z => absurd z (by decide), fun z => absurd (Or.inl (re_dg0 hd)) z⟩, fun z => absurd z (by decide), ⟨fun z => absurd z (by decide), fun z => absurd (w.symm.trans z) (by decide)⟩, fun z => absurd z (by decide)⟩, hF⟩
    have hq1 : q < n := Nat.lt_of_not_le (fun z => w ((hr_m hb).mpr z))
    have htq : hr t n q = t q := hr_lt hq1
    have hne : ¬ n ≤ q := by omega
    refine z_aloadnR zh dX9_reads_72 rfl ?_
    refine z_aloadnR zh dX9_reads_73 rfl ?_
    refine z_getI (x := nI q) zh fl_Y_350 dX9_reads_74 ck_Y rfl rfl e18 ?_
    refine z_iconst zh dX9_reads_77 ki_1 ?_
    refine z_iaddN zh dX9_reads_78 ?_
    refine z_putI zh fl_Y_350 dX9_reads_79 ck_Y rfl rfl (Nat.le_of_ble_eq_true rfl) (Or.inl rfl) ?_
    have hG : SI sp σ (upI iv2 551 18 (nI (q + 1))) := yw hG (by decide) (Or.inl (rs_r (by omega)))
    have hF : FY iv (upI iv2 551 18 (nI (q + 1))) := fy_w hF (by decide)
    have e18 : upI iv2 551 18 (nI (q + 1)) 551 18 = nI (q + 1) := by rw [upI_at, if_pos ⟨rfl, rfl⟩]
    have e19 : upI iv2 551 18 (nI (q + 1)) 551 19 = nI q := (upI_ne (Or.inr (by decide))).trans e19
    have e20 : upI iv2 551 18 (nI (q + 1)) 551 20 = nI 1 := (upI_ne (Or.inr (by decide))).trans e20
    generalize upI iv2 551 18 (nI (q + 1)) = iv2 at hG hF e18 e19 e20 ⊢
    refine z_aloadnR zh dX9_reads_82 rfl ?_
    refine z_iloadn zh dX9_reads_83 rfl ?_
    refine z_putI zh fl_Y_362 dX9_reads_84 ck_Y rfl rfl (Nat.le_of_ble_eq_true rfl) (Or.inl rfl) ?_
    have hG : SI sp σ (upI iv2 551 21 (hr t n q)) := yw hG (by decide) (Or.inr (by decide))
    have hF : FY iv (upI iv2 551 21 (hr t n q)) := fy_w hF (by decide)
    have e18 : upI iv2 551 21 (hr t n q) 551 18 = nI (q + 1) := (upI_ne (Or.inr (by decide))).trans e18
    have e19 : upI iv2 551 21 (hr t n q) 551 19 = nI q := (upI_ne (Or.inr (by decide))).trans e19
    have e20 : upI iv2 551 21 (hr t n q) 551 20 = nI 1 := (upI_ne (Or.inr (by decide))).trans e20
    have e21 : upI iv2 551 21 (hr t n q) 551 21 = hr t n q := by rw [upI_at, if_pos ⟨rfl, rfl⟩]
    generalize upI iv2 551 21 (hr t n q) = iv2 at hG hF e18 e19 e20 e21 ⊢
    refine z_aloadnR zh dX9_reads_87 rfl ?_
    refine z_iloadn zh dX9_reads_88 rfl ?_
    refine z_callVI zh mv_Y_365 dX9_reads_89 ck_Y rfl (h_X9_isLetter g) ⟨Nat.le_of_ble_eq_true rfl, Nat.le_of_ble_eq_true rfl⟩ rfl rfl (Nat.le_of_ble_eq_true rfl) ?_
    rintro xl _ _ ⟨rfl, rfl, hxl⟩
    refine z_if_eq (tgt := 155) zh dX9_reads_92 rfl (fun wl9 => ?_) (fun wl9 => ?_)
    rotate_left
    · -- a word
      have hl : ltr (hr t n q) := byc (mt hxl.mpr wl9)
      have hd : ¬ dg (hr t n q) := ltr_dg hl
      have h59 : ¬ hr t n q = nI 59 := fun z => ltr_59 (by rw [z] at hl; exact hl)
      have J95 : ∀ (k e : Nat) (iv2 : Iv) (lv : Lv), SI sp σ iv2 → FY iv iv2 → iv2 551 18 = nI e → iv2 551 19 = nI q → iv2 551 20 = nI 1 → q ≤ e → e ≤ n → re ltr t n q = re ltr t n e → n - e < k → Z 95 [some (rf g 551), some (.int (hr t n q))] [] iv2 lv := by
        intro k
        induction k with
        | zero => intro e iv2 lv _ _ _ _ _ _ _ _ hk; omega
        | succ k ih =>
          intro e iv2 lv hG hF e18 e19 e20 hqe hen hre hk
          refine z_aloadnR zh dX9_reads_95 rfl ?_
          refine z_aloadnR zh dX9_reads_96 rfl ?_
          refine z_aloadnR zh dX9_reads_97 rfl ?_
          refine z_getI (x := nI e) zh fl_Y_350 dX9_reads_98 ck_Y rfl rfl e18 ?_
          refine z_callVIp zh mv_Y_353 dX9_reads_101 ck_Y rfl (h_X9_raw g hT hG (by omega)) ⟨Nat.le_of_ble_eq_true rfl, Nat.le_of_ble_eq_true rfl⟩ rfl rfl (Nat.le_of_ble_eq_true rfl) ?_
          refine z_callVI zh mv_Y_365 dX9_reads_104 ck_Y rfl (h_X9_isLetter g) ⟨Nat.le_of_ble_eq_true rfl, Nat.le_of_ble_eq_true rfl⟩ rfl rfl (Nat.le_of_ble_eq_true rfl) ?_
          rintro xe _ _ ⟨rfl, rfl, hxe⟩
          refine z_if_eq (tgt := 123) zh dX9_reads_107 rfl (fun we => ?_) (fun we => ?_)
          · have hre2 : re ltr t n q = e := hre.trans (re_stop (hxe.mp we))
            refine z_aloadnR zh dX9_reads_123 rfl ?_
            refine z_aloadnR zh dX9_reads_124 rfl ?_
            refine z_aloadnR zh dX9_reads_125 rfl ?_
            refine z_getI (x := nI q) zh fl_Y_356 dX9_reads_126 ck_Y rfl rfl e19 ?_
            refine z_aloadnR zh dX9_reads_129 rfl ?_
            refine z_getI (x := nI e) zh fl_Y_350 dX9_reads_130 ck_Y rfl rfl e18 ?_
            refine z_callVIp zh mv_Y_368 dX9_reads_133 ck_Y rfl (h_X9_wordAt g hT hG hqe hen hre2) ⟨Nat.le_of_ble_eq_true rfl, Nat.le_of_ble_eq_true rfl⟩ rfl rfl (Nat.le_of_ble_eq_true rfl) ?_
            refine z_putI zh fl_Y_362 dX9_reads_136 ck_Y rfl rfl (Nat.le_of_ble_eq_true rfl) (Or.inl rfl) ?_
            have hG : SI sp σ (upI iv2 551 21 (kdr (kd t n q))) := yw hG (by decide) (Or.inr (by decide))
            have hF : FY iv (upI iv2 551 21 (kdr (kd t n q))) := fy_w hF (by decide)
            have e18 : upI iv2 551 21 (kdr (kd t n q)) 551 18 = nI e := (upI_ne (Or.inr (by decide))).trans e18
            have e19 : upI iv2 551 21 (kdr (kd t n q)) 551 19 = nI q := (upI_ne (Or.inr (by decide))).trans e19
            have e20 : upI iv2 551 21 (kdr (kd t n q)) 551 20 = nI 1 := (upI_ne (Or.inr (by decide))).trans e20
            have e21 : upI iv2 551 21 (kdr (kd t n q)) 551 21 = kdr (kd t n q) := by rw [upI_at, if_pos ⟨rfl, rfl⟩]
            generalize upI iv2 551 21 (kdr (kd t n q)) = iv2 at hG hF e18 e19 e20 e21 ⊢
            refine z_aloadnR zh dX9_reads_139 rfl ?_
            refine z_getI (x := kdr (kd t n q)) zh fl_Y_362 dX9_reads_140 ck_Y rfl rfl e21 ?_
            refine z_iconst zh dX9_reads_143 ki_m1 ?_
            have hd3 := re_dg0 hd
            by_cases hk10 : kd t n q = 10
            · refine z_icmp_eq (tgt := 271) zh dX9_reads_144 rfl (fun _ => ?_) (fun w9 => absurd (by rw [hk10]; rfl) w9)
              exact z_vret zh dX9_reads_271 ⟨rfl, hG, ⟨e19, 1, by decide, e20, ⟨fun z => absurd z (by decide), fun z => absurd z hne⟩, ⟨fun z => absurd z (by decide), fun z => absurd z (by omega)⟩, fun z => absurd z (by decide), ⟨fun z => absurd z (by decide), fun z => absurd (Or.inl hd3) z⟩, fun z => absurd z (by decide), ⟨fun z => absurd z (by decide), fun z => absurd z h59⟩, fun z => absurd z (by decide)⟩, hF⟩
            have hk9 : kd t n q < 10 := by have := kd_le (t := t) (n := n) (p := q); omega
            rw [kdr_n hk10] at e21 ⊢
            have hre3 := mt_re hk9 (kd_mt hk9)
            refine z_icmp_eq (tgt := 271) zh dX9_reads_144 rfl (fun w9 => absurd w9 (nI_nm1 (by omega))) (fun _ => ?_)
            refine z_aloadnR zh dX9_reads_147 rfl ?_
            refine z_iconst zh dX9_reads_148 ki_2 ?_
            refine z_putI zh fl_Y_359 dX9_reads_149 ck_Y rfl rfl (Nat.le_of_ble_eq_true rfl) (Or.inl rfl) ?_
            have hG : SI sp σ (upI iv2 551 20 (nI 2)) := yw hG (by decide) (Or.inr (by decide))
            have hF : FY iv (upI iv2 551 20 (nI 2)) := fy_w hF (by decide)
            have e18 : upI iv2 551 20 (nI 2) 551 18 = nI e := (upI_ne (Or.inr (by decide))).trans e18
            have e19 : upI iv2 551 20 (nI 2) 551 19 = nI q := (upI_ne (Or.inr (by decide))).trans e19
            have e20 : upI iv2 551 20 (nI 2) 551 20 = nI 2 := by rw [upI_at, if_pos ⟨rfl, rfl⟩]
            have e21 : upI iv2 551 20 (nI 2) 551 21 = nI (kd t n q) := (upI_ne (Or.inr (by decide))).trans e21
            generalize upI iv2 551 20 (nI 2) = iv2 at hG hF e18 e19 e20 e21 ⊢
            refine z_goto (tgt := 271) zh dX9_reads_152 rfl ?_
            exact z_vret zh dX9_reads_271 ⟨rfl, hG, ⟨e19, 2, by decide, e20, ⟨fun z => absurd z (by decide), fun z => absurd z hne⟩, ⟨fun _ => hk9, fun _ => rfl⟩, fun _ => ⟨e21, e18.trans (by rw [← hre3, hre2])⟩, ⟨fun z => absurd z (by decide), fun z => absurd (Or.inl hd3) z⟩, fun z => absurd z (by decide), ⟨fun z => absurd z (by decide), fun z => absurd z h59⟩, fun z => absurd z (by decide)⟩, hF⟩
          · have hle : ltr (hr t n e) := byc (mt hxe.mpr we)
            have hen1 : e < n := re_lt ltr_m hle
            refine z_aloadnR zh dX9_reads_110 rfl ?_
            refine z_aloadnR zh dX9_reads_111 rfl ?_
            refine z_getI (x := nI e) zh fl_Y_350 dX9_reads_112 ck_Y rfl rfl e18 ?_
            refine z_iconst zh dX9_reads_115 ki_1 ?_
            refine z_iaddN zh dX9_reads_116 ?_
            refine z_putI zh fl_Y_350 dX9_reads_117 ck_Y rfl rfl (Nat.le_of_ble_eq_true rfl) (Or.inl rfl) ?_
            have hG : SI sp σ (upI iv2 551 18 (nI (e + 1))) := yw hG (by decide) (Or.inl (rs_r (by omega)))
            have hF : FY iv (upI iv2 551 18 (nI (e + 1))) := fy_w hF (by decide)
            have e18 : upI iv2 551 18 (nI (e + 1)) 551 18 = nI (e + 1) := by rw [upI_at, if_pos ⟨rfl, rfl⟩]
            have e19 : upI iv2 551 18 (nI (e + 1)) 551 19 = nI q := (upI_ne (Or.inr (by decide))).trans e19
            have e20 : upI iv2 551 18 (nI (e + 1)) 551 20 = nI 1 := (upI_ne (Or.inr (by decide))).trans e20
            generalize upI iv2 551 18 (nI (e + 1)) = iv2 at hG hF e18 e19 e20 ⊢
            refine z_goto (tgt := 95) zh dX9_reads_120 rfl ?_
            exact ih (e + 1) iv2 lv hG hF e18 e19 e20 (by omega) (by omega) (hre.trans (re_step ltr_m hle)) (by omega)
      exact J95 (n - (q + 1) + 1) (q + 1) iv2 lv hG hF e18 e19 e20 (by omega) (by omega) (re_step ltr_m hl) (by omega)
    have hl : ¬ ltr (hr t n q) := hxl.mp wl9
    have hkd : ¬ kd t n q < 10 := fun z => hl (kd_ltr z)
    refine z_aloadnR zh dX9_reads_155 rfl ?_
    refine z_iloadn zh dX9_reads_156 rfl ?_
    refine z_callVI zh mv_Y_371 dX9_reads_157 ck_Y rfl (h_X9_isDigit g) ⟨Nat.le_of_ble_eq_true rfl, Nat.le_of_ble_eq_true rfl⟩ rfl rfl (Nat.le_of_ble_eq_true rfl) ?_
    rintro xd _ _ ⟨rfl, rfl, hxd⟩
    refine z_if_eq (tgt := 260) zh dX9_reads_160 rfl (fun wd9 => ?_) (fun wd9 => ?_)
    · have hd : ¬ dg (hr t n q) := hxd.mp wd9
      have hd3 := re_dg0 hd
      refine z_iloadn zh dX9_reads_260 rfl ?_
      refine z_bipush zh dX9_reads_261 kb_59 ?_
      refine z_icmp_ne (tgt := 271) zh dX9_reads_263 rfl (fun w5 => ?_) (fun w5 => ?_)
      · exact z_vret zh dX9_reads_271 ⟨rfl, hG, ⟨e19, 1, by decide, e20, ⟨fun z => absurd z (by decide), fun z => absurd z hne⟩, ⟨fun z => absurd z (by decide), fun z => absurd z hkd⟩, fun z => absurd z (by decide), ⟨fun z => absurd z (by decide), fun z => absurd (Or.inl hd3) z⟩, fun z => absurd z (by decide), ⟨fun z => absurd z (by decide), fun z => absurd z w5⟩, fun z => absurd z (by decide)⟩, hF⟩
      · refine z_aloadnR zh dX9_reads_266 rfl ?_
        refine z_iconst zh dX9_reads_267 ki_4 ?_
        refine z_putI zh fl_Y_359 dX9_reads_268 ck_Y rfl rfl (Nat.le_of_ble_eq_true rfl) (Or.inl rfl) ?_
        have hG : SI sp σ (upI iv2 551 20 (nI 4)) := yw hG (by decide) (Or.inr (by decide))
        have hF : FY iv (upI iv2 551 20 (nI 4)) := fy_w hF (by decide)
        have e18 : upI iv2 551 20 (nI 4) 551 18 = nI (q + 1) := (upI_ne (Or.inr (by decide))).trans e18
        have e19 : upI iv2 551 20 (nI 4) 551 19 = nI q := (upI_ne (Or.inr (by decide))).trans e19
        have e20 : upI iv2 551 20 (nI 4) 551 20 = nI 4 := by rw [upI_at, if_pos ⟨rfl, rfl⟩]
        generalize upI iv2 551 20 (nI 4) = iv2 at hG hF e18 e19 e20 ⊢
        exact z_vret zh dX9_reads_271 ⟨rfl, hG, ⟨e19, 4, by decide, e20, ⟨fun z => absurd z (by decide), fun z => absurd z hne⟩, ⟨fun z => absurd z (by decide), fun z => absurd z hkd⟩, fun z => absurd z (by decide), ⟨fun z => absurd z (by decide), fun z => absurd (Or.inl hd3) z⟩, fun z => absurd z (by decide), ⟨fun _ => w5, fun _ => rfl⟩, fun _ => e18⟩, hF⟩
    · have hd : dg (hr t n q) := byc (mt hxd.mpr wd9)
      have h59 : ¬ hr t n q = nI 59 := fun z => dg_59 (by rw [z] at hd; exact hd)
      have hd3 := re_dgs hd
      refine z_aloadnR zh dX9_reads_163 rfl ?_
      refine z_iloadn zh dX9_reads_164 rfl ?_
      refine z_bipush zh dX9_reads_165 kb_48 ?_
      refine z_isub zh dX9_reads_167 ?_
      rw [show hr t n q - nI 48 = dv t q 1 by rw [htq]; exact dv_1.symm]
      refine z_putI zh fl_Y_362 dX9_reads_168 ck_Y rfl rfl (Nat.le_of_ble_eq_true rfl) (Or.inl rfl) ?_
      have hG : SI sp σ (upI iv2 551 21 (dv t q 1)) := yw hG (by decide) (Or.inr (by decide))
      have hF : FY iv (upI iv2 551 21 (dv t q 1)) := fy_w hF (by decide)
      have e18 : upI iv2 551 21 (dv t q 1) 551 18 = nI (q + 1) := (upI_ne (Or.inr (by decide))).trans e18
      have e19 : upI iv2 551 21 (dv t q 1) 551 19 = nI q := (upI_ne (Or.inr (by decide))).trans e19
      have e20 : upI iv2 551 21 (dv t q 1) 551 20 = nI 1 := (upI_ne (Or.inr (by decide))).trans e20
      have e21 : upI iv2 551 21 (dv t q 1) 551 21 = dv t q 1 := by rw [upI_at, if_pos ⟨rfl, rfl⟩]
      generalize upI iv2 551 21 (dv t q 1) = iv2 at hG hF e18 e19 e20 e21 ⊢
      have J171 : ∀ (k e : Nat) (iv2 : Iv) (lv : Lv), SI sp σ iv2 → FY iv iv2 → iv2 551 18 = nI e → iv2 551 19 = nI q → iv2 551 20 = nI 1 → (e - q ≤ 4 → iv2 551 21 = dv t q (e - q)) → q < e → e ≤ n → re dg t n q = re dg t n e → (∀ j, q ≤ j → j < e → dg (t j)) → n - e < k → Z 171 [some (rf g 551), some (.int (hr t n q))] [] iv2 lv := by
        intro k
        induction k with
        | zero => intro e iv2 lv _ _ _ _ _ _ _ _ _ _ hk; omega
        | succ k ih =>
          intro e iv2 lv hG hF e18 e19 e20 e21 hqe hen hre hds hk
          refine z_aloadnR zh dX9_reads_171 rfl ?_
          refine z_aloadnR zh dX9_reads_172 rfl ?_
          refine z_aloadnR zh dX9_reads_173 rfl ?_
          refine z_getI (x := nI e) zh fl_Y_350 dX9_reads_174 ck_Y rfl rfl e18 ?_
          refine z_callVIp zh mv_Y_353 dX9_reads_177 ck_Y rfl (h_X9_raw g hT hG (by omega)) ⟨Nat.le_of_ble_eq_true rfl, Nat.le_of_ble_eq_true rfl⟩ rfl rfl (Nat.le_of_ble_eq_true rfl) ?_
          refine z_callVI zh mv_Y_371 dX9_reads_180 ck_Y rfl (h_X9_isDigit g) ⟨Nat.le_of_ble_eq_true rfl, Nat.le_of_ble_eq_true rfl⟩ rfl rfl (Nat.le_of_ble_eq_true rfl) ?_
          rintro xe _ _ ⟨rfl, rfl, hxe⟩
          refine z_if_eq (tgt := 239) zh dX9_reads_183 rfl (fun we => ?_) (fun we => ?_)
          · have hre2 : re dg t n q = e := hre.trans (re_stop (hxe.mp we))
            refine z_aloadnR zh dX9_reads_239 rfl ?_
            refine z_getI (x := nI e) zh fl_Y_350 dX9_reads_240 ck_Y rfl rfl e18 ?_
            refine z_aloadnR zh dX9_reads_243 rfl ?_
            refine z_getI (x := nI q) zh fl_Y_356 dX9_reads_244 ck_Y rfl rfl e19 ?_
            refine z_isubN zh (by omega) dX9_reads_247 ?_
            refine z_iconst zh dX9_reads_248 ki_5 ?_
            refine z_icmp_ge_N (tgt := 271) zh (by omega) (by omega) dX9_reads_249 rfl (fun w5 => ?_) (fun w5 => ?_)
            · exact z_vret zh dX9_reads_271 ⟨rfl, hG, ⟨e19, 1, by decide, e20, ⟨fun z => absurd z (by decide), fun z => absurd z hne⟩, ⟨fun z => absurd z (by decide), fun z => absurd z hkd⟩, fun z => absurd z (by decide), ⟨fun z => absurd z (by decide), fun z => absurd (Or.inr (by rw [hre2]; omega)) z⟩, fun z => absurd z (by decide), ⟨fun z => absurd z (by decide), fun z => absurd z h59⟩, fun z => absurd z (by decide)⟩, hF⟩
            · refine z_aloadnR zh dX9_reads_252 rfl ?_
              refine z_iconst zh dX9_reads_253 ki_3 ?_
              have e21 := e21 (by omega)
              refine z_putI zh fl_Y_359 dX9_reads_254 ck_Y rfl rfl (Nat.le_of_ble_eq_true rfl) (Or.inl rfl) ?_
              have hG : SI sp σ (upI iv2 551 20 (nI 3)) := yw hG (by decide) (Or.inr (by decide))
              have hF : FY iv (upI iv2 551 20 (nI 3)) := fy_w hF (by decide)
              have e18 : upI iv2 551 20 (nI 3) 551 18 = nI e := (upI_ne (Or.inr (by decide))).trans e18
              have e19 : upI iv2 551 20 (nI 3) 551 19 = nI q := (upI_ne (Or.inr (by decide))).trans e19
              have e20 : upI iv2 551 20 (nI 3) 551 20 = nI 3 := by rw [upI_at, if_pos ⟨rfl, rfl⟩]
              have e21 : upI iv2 551 20 (nI 3) 551 21 = dv t q (e - q) := (upI_ne (Or.inr (by decide))).trans e21
              generalize upI iv2 551 20 (nI 3) = iv2 at hG hF e18 e19 e20 e21 ⊢
              refine z_goto (tgt := 271) zh dX9_reads_257 rfl ?_
              exact z_vret zh dX9_reads_271 ⟨rfl, hG, ⟨e19, 3, by decide, e20, ⟨fun z => absurd z (by decide), fun z => absurd z hne⟩, ⟨fun z => absurd z (by decide), fun z => absurd z hkd⟩, fun z => absurd z (by decide), ⟨fun _ => by rw [hre2]; omega, fun _ => rfl⟩, fun _ => by rw [hre2]; exact ⟨e21, e18⟩, ⟨fun z => absurd z (by decide), fun z => absurd z h59⟩, fun z => absurd z (by decide)⟩, hF⟩
          · have hde : dg (hr t n e) := byc (mt hxe.mpr we)
            have hen1 : e < n := re_lt dg_m hde
            have hte : hr t n e = t e := hr_lt hen1
            have hds2 : ∀ j, q ≤ j → j < e + 1 → dg (t j) := fun j h1 h2 => by
              by_cases w7 : j = e
              · subst w7; rw [← hte]; exact hde
              · exact hds j h1 (by omega)
            have J223 : ∀ x : Int32, (e + 1 - q ≤ 4 → x = dv t q (e + 1 - q)) → Z 223 [some (rf g 551), some (.int (hr t n q))] [.int x, rf g 551] iv2 lv := by
              intro x hx
              have e19 := e19
              refine z_putI zh fl_Y_362 dX9_reads_223 ck_Y rfl rfl (Nat.le_of_ble_eq_true rfl) (Or.inl rfl) ?_
              have hG : SI sp σ (upI iv2 551 21 x) := yw hG (by decide) (Or.inr (by decide))
              have hF : FY iv (upI iv2 551 21 x) := fy_w hF (by decide)
              have e18 : upI iv2 551 21 x 551 18 = nI e := (upI_ne (Or.inr (by decide))).trans e18
              have e19 : upI iv2 551 21 x 551 19 = nI q := (upI_ne (Or.inr (by decide))).trans e19
              have e20 : upI iv2 551 21 x 551 20 = nI 1 := (upI_ne (Or.inr (by decide))).trans e20
              have e9 : upI iv2 551 21 x 551 21 = x := by rw [upI_at, if_pos ⟨rfl, rfl⟩]
              generalize upI iv2 551 21 x = iv2 at hG hF e18 e19 e20 e9 ⊢
              refine z_aloadnR zh dX9_reads_226 rfl ?_
              refine z_aloadnR zh dX9_reads_227 rfl ?_
              refine z_getI (x := nI e) zh fl_Y_350 dX9_reads_228 ck_Y rfl rfl e18 ?_
              refine z_iconst zh dX9_reads_231 ki_1 ?_
              refine z_iaddN zh dX9_reads_232 ?_
              refine z_putI zh fl_Y_350 dX9_reads_233 ck_Y rfl rfl (Nat.le_of_ble_eq_true rfl) (Or.inl rfl) ?_
              have hG : SI sp σ (upI iv2 551 18 (nI (e + 1))) := yw hG (by decide) (Or.inl (rs_r (by omega)))
              have hF : FY iv (upI iv2 551 18 (nI (e + 1))) := fy_w hF (by decide)
              have e18 : upI iv2 551 18 (nI (e + 1)) 551 18 = nI (e + 1) := by rw [upI_at, if_pos ⟨rfl, rfl⟩]
              have e19 : upI iv2 551 18 (nI (e + 1)) 551 19 = nI q := (upI_ne (Or.inr (by decide))).trans e19
              have e20 : upI iv2 551 18 (nI (e + 1)) 551 20 = nI 1 := (upI_ne (Or.inr (by decide))).trans e20
              have e9 : upI iv2 551 18 (nI (e + 1)) 551 21 = x := (upI_ne (Or.inr (by decide))).trans e9
              generalize upI iv2 551 18 (nI (e + 1)) = iv2 at hG hF e18 e19 e20 e9 ⊢
              refine z_goto (tgt := 171) zh dX9_reads_236 rfl ?_
              exact ih (e + 1) iv2 lv hG hF e18 e19 e20 (fun w4 => e9.trans (hx w4)) (by omega) (by omega) (hre.trans (re_step dg_m hde)) hds2 (by omega)
            refine z_aloadnR zh dX9_reads_186 rfl ?_
            refine z_aloadnR zh dX9_reads_187 rfl ?_
            obtain ⟨v, ev⟩ : ∃ v, iv2 551 21 = v := ⟨_, rfl⟩
            refine z_getI (x := v) zh fl_Y_362 dX9_reads_188 ck_Y rfl rfl ev ?_
            refine z_sipush zh dX9_reads_191 ks_10000 ?_
            refine z_icmp_ge (tgt := 219) zh dX9_reads_194 rfl (fun w8 => ?_) (fun w8 => ?_)
            · refine z_aloadnR zh dX9_reads_219 rfl ?_
              refine z_getI (x := v) zh fl_Y_362 dX9_reads_220 ck_Y rfl rfl ev ?_
              refine J223 v (fun w4 => ?_)
              exfalso
              have h4 : e - q ≤ 3 := by omega
              have hv := dv_ra (t := t) (p := q) (e - q) (by omega) (fun j hj => hds (q + j) (by omega) (by omega))
              rw [← e21 (by omega), ev] at hv
              have hp10 : (10 : Int) ^ (e - q) ≤ 1000 := by rcases (by omega : e - q = 0 ∨ e - q = 1 ∨ e - q = 2 ∨ e - q = 3) with z | z | z | z <;> rw [z] <;> decide
              have h9 := hv.2
              have h8 := leI.mp w8
              have e10 : (nI 10000).toInt = 10000 := by decide
              omega
            · refine z_bipush zh dX9_reads_197 kb_10 ?_
              refine z_aloadnR zh dX9_reads_199 rfl ?_
              refine z_getI (x := v) zh fl_Y_362 dX9_reads_200 ck_Y rfl rfl ev ?_
              refine z_imul zh dX9_reads_203 ?_
              refine z_aloadnR zh dX9_reads_204 rfl ?_
              refine z_aloadnR zh dX9_reads_205 rfl ?_
              refine z_getI (x := nI e) zh fl_Y_350 dX9_reads_206 ck_Y rfl rfl e18 ?_
              refine z_callVIp zh mv_Y_353 dX9_reads_209 ck_Y rfl (h_X9_raw g hT hG (by omega)) ⟨Nat.le_of_ble_eq_true rfl, Nat.le_of_ble_eq_true rfl⟩ rfl rfl (Nat.le_of_ble_eq_true rfl) ?_
              refine z_iadd zh dX9_reads_212 ?_
              refine z_bipush zh dX9_reads_213 kb_48 ?_
              refine z_isub zh dX9_reads_215 ?_
              refine z_goto (tgt := 223) zh dX9_reads_216 rfl ?_
              refine J223 _ (fun w4 => ?_)
              rw [hte, ← ev, e21 (by omega), dv_s (k := e - q) rfl (by omega), show e + 1 - q = e - q + 1 by omega]
      exact J171 (n - (q + 1) + 1) (q + 1) iv2 lv hG hF e18 e19 e20 (fun _ => by rw [show q + 1 - q = 1 by omega]; exact e21) (by omega) (by omega) (re_step dg_m hd) (fun j h1 h2 => by rw [show j = q by omega, ← htq]; exact hd) (by omega)
  have J0 : ∀ (k s : Nat) (iv2 : Iv) (lv : Lv), SI sp σ iv2 → FY iv iv2 → iv2 551 18 = nI s → s ≤ n → q = re bl t n s → n - s < k → Z 0 [some (rf g 551), none] [] iv2 lv := by
    intro k
    induction k with
    | zero => intro s iv2 lv _ _ _ _ _ hk; omega
    | succ k ih =>
      intro s iv2 lv hG hF e18 hsn eq hk
      refine z_aloadnR zh dX9_reads_0 rfl ?_
      refine z_aloadnR zh dX9_reads_1 rfl ?_
      refine z_getI (x := nI s) zh fl_Y_350 dX9_reads_2 ck_Y rfl rfl e18 ?_
      refine z_callVIp zh mv_Y_353 dX9_reads_5 ck_Y rfl (h_X9_raw g hT hG (by omega)) ⟨Nat.le_of_ble_eq_true rfl, Nat.le_of_ble_eq_true rfl⟩ rfl rfl (Nat.le_of_ble_eq_true rfl) ?_
      refine z_bipush zh dX9_reads_8 kb_32 ?_
      have J26 : bl (hr t n s) → Z 26 [some (rf g 551), none] [] iv2 lv := by
        intro hbl
        have hs1 : s < n := re_lt bl_m hbl
        refine z_aloadnR zh dX9_reads_26 rfl ?_
        refine z_aloadnR zh dX9_reads_27 rfl ?_
        refine z_getI (x := nI s) zh fl_Y_350 dX9_reads_28 ck_Y rfl rfl e18 ?_
        refine z_iconst zh dX9_reads_31 ki_1 ?_
        refine z_iaddN zh dX9_reads_32 ?_
        refine z_putI zh fl_Y_350 dX9_reads_33 ck_Y rfl rfl (Nat.le_of_ble_eq_true rfl) (Or.inl rfl) ?_
        have hG : SI sp σ (upI iv2 551 18 (nI (s + 1))) := yw hG (by decide) (Or.inl (rs_r (by omega)))
        have hF : FY iv (upI iv2 551 18 (nI (s + 1))) := fy_w hF (by decide)
        have e18 : upI iv2 551 18 (nI (s + 1)) 551 18 = nI (s + 1) := by rw [upI_at, if_pos ⟨rfl, rfl⟩]
        generalize upI iv2 551 18 (nI (s + 1)) = iv2 at hG hF e18 ⊢
        refine z_goto (tgt := 0) zh dX9_reads_36 rfl ?_
        exact ih (s + 1) iv2 lv hG hF e18 (by omega) (eq.trans (re_step bl_m hbl)) (by omega)
      refine z_icmp_eq (tgt := 26) zh dX9_reads_10 rfl (fun w => J26 (Or.inl w)) (fun w1 => ?_)
      refine z_aloadnR zh dX9_reads_13 rfl ?_
      refine z_aloadnR zh dX9_reads_14 rfl ?_
      refine z_getI (x := nI s) zh fl_Y_350 dX9_reads_15 ck_Y rfl rfl e18 ?_
      refine z_callVIp zh mv_Y_353 dX9_reads_18 ck_Y rfl (h_X9_raw g hT hG (by omega)) ⟨Nat.le_of_ble_eq_true rfl, Nat.le_of_ble_eq_true rfl⟩ rfl rfl (Nat.le_of_ble_eq_true rfl) ?_
      refine z_bipush zh dX9_reads_21 kb_10 ?_
      refine z_icmp_ne (tgt := 39) zh dX9_reads_23 rfl (fun w2 => ?_) (fun w2 => J26 (Or.inr w2))
      have e9 : q = s := eq.trans (re_stop (fun z => z.elim w1 w2))
      exact J39 iv2 lv hG hF (by rw [e9]; exact e18)
  exact J0 (n - s + 1) s iv lv hG fy_0 hs hsn eq (by omega)
