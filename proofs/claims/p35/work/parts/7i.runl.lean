/-! RUNNING A PLAN: one line -/
theorem sk_1 {sp : Nat → Nat → Bool} {k0 j0 : Nat} (hq : Sk sp) (h : sK k0 j0 = true) : Sk (sp1 sp k0 j0) := fun k j q => by
  rcases Bool.or_eq_true_iff.mp q with w | w
  · exact hq k j w
  · have w := Bool.and_eq_true_iff.mp w
    rw [eq_of_beq w.1, eq_of_beq w.2]; exact h
/-- what a line does to how many TRADES there are and to the DAY -/
def LnS (m : Int32) (k : Nat) (v : Nat → Int32) (n d n1 d1 : Int32) : Prop := (k < 2 → (∃ r, TrP m n (v 1) (v 2) (v 3) (v 4) (v 5) r n1) ∧ d1 = d) ∧ (2 ≤ k → k < 9 → n1 = n ∧ d1 = d) ∧ (k = 9 → n1 = n ∧ ∃ r, NgP d (v 1) r d1)
theorem lns_eq {m : Int32} {k : Nat} {v w : Nat → Int32} {n d n1 d1 n2 d2 : Int32} (hk : k < 10) (h : LnS m k v n d n1 d1) (h2 : LnS m k w n d n2 d2) (hv : ∀ c, 1 ≤ c → c ≤ mn k → v c = w c) : n1 = n2 ∧ d1 = d2 := by
  by_cases k2 : k < 2
  · have e5 : mn k = 5 := by rcases (by omega : k = 0 ∨ k = 1) with rfl | rfl <;> rfl
    obtain ⟨⟨r, t1⟩, e1⟩ := h.1 k2
    obtain ⟨⟨r2, t2⟩, e2⟩ := h2.1 k2
    rw [hv 1 (by omega) (by omega), hv 2 (by omega) (by omega), hv 3 (by omega) (by omega), hv 4 (by omega) (by omega), hv 5 (by omega) (by omega)] at t1
    exact ⟨(trp_eq t1 t2).2, e1.trans e2.symm⟩
  by_cases k9 : k = 9
  · have e5 : mn k = 1 := by subst k9; rfl
    obtain ⟨e1, r, t1⟩ := h.2.2 k9
    obtain ⟨e2, r2, t2⟩ := h2.2.2 k9
    rw [hv 1 (by omega) (by omega)] at t1
    exact ⟨e1.trans e2.symm, (ng_eq t1 t2).2⟩
  obtain ⟨e1, e2⟩ := h.2.1 (by omega) (by omega)
  obtain ⟨e3, e4⟩ := h2.2.1 (by omega) (by omega)
  exact ⟨e1.trans e3.symm, e2.trans e4.symm⟩
theorem h_X7_get (g : GE) {tt cc nn c r m : Nat} {iv : Iv} {lv : Lv} {x : Int32} (ht : isT tt cc nn) (hc : c < cc) (hr9 : r < m) (hm : m ≤ nn) (em : iv tt 2 = nI m) (ex : iv (tt + 2 + c) r = x) : ConIp g yX7_get cX7_get 3 (some .int) 1 [rf g tt, .int (nI c), .int (nI r)] iv lv x := by
  refine con_intro (own := "RollingNets$Table") (by decide +kernel) rfl (Nat.le_of_ble_eq_true rfl) (L0 := [some (rf g tt), some (.int (nI c)), some (.int (nI r))]) rfl (fun Z zh => ?_)
  have hb := isT_b31 ht
  refine z_iloadn zh dX7_get_0 rfl ?_
  refine z_if_lt_N (tgt := 25) zh (by omega) dX7_get_1 rfl ?_
  refine z_iloadn zh dX7_get_4 rfl ?_
  refine z_aloadnR zh dX7_get_5 rfl ?_
  refine z_getf zh fl_Table_11 dX7_get_6 (ck_T ht) rfl rfl ?_
  refine z_alenG zh (ck_Tc ht) dX7_get_9 ?_
  refine z_icmp_ge_N (tgt := 25) zh (by omega) (by omega) dX7_get_10 rfl (fun q => absurd q (by omega)) (fun _ => ?_)
  refine z_iloadn zh dX7_get_13 rfl ?_
  refine z_if_lt_N (tgt := 25) zh (by omega) dX7_get_14 rfl ?_
  refine z_iloadn zh dX7_get_17 rfl ?_
  refine z_aloadnR zh dX7_get_18 rfl ?_
  refine z_getI (x := nI m) zh fl_Table_20 dX7_get_19 (ck_T ht) rfl rfl em ?_
  refine z_icmp_lt_N (tgt := 27) zh (by omega) (by omega) dX7_get_22 rfl (fun _ => ?_) (fun q => absurd q (by omega))
  refine z_aloadnR zh dX7_get_27 rfl ?_
  refine z_getf zh fl_Table_11 dX7_get_28 (ck_T ht) rfl rfl ?_
  refine z_iloadn zh dX7_get_31 rfl ?_
  refine z_galdN zh (ck_Tc ht) dX7_get_32 hc ?_
  refine z_iloadn zh dX7_get_33 rfl ?_
  refine z_ialdE (x := x) zh (ck_Tr ht hc) dX7_get_34 (by omega) ex ?_
  exact z_iret zh dX7_get_35 (qI rfl)
set_option maxHeartbeats 1000000 in
set_option maxRecDepth 20000 in
theorem e_X8_perform (g : GE) {sp : Nat → Nat → Bool} {σ : Iv} {iv : Iv} {lv : Lv} {k a cnt : Nat} {v : Nat → Int32} {m n : Int32} (hk : k < 9) (hG : SI sp σ iv) (hq : Sk sp) (hD : sp 8 2 = false) (em : iv 2 0 = m) (en : iv 8 2 = n) (ec : iv 47 2 = nI cnt) (hc : cnt ≤ 24) (ha : a < cnt) (hv : ∀ c, c < 6 → iv (49 + c) a = v c) (e0 : v 0 = nI k) : ConI g yX8_perform cX8_perform 6 (some .boolean) 6 [rf g 0, .int (nI a)] iv lv (fun r iv' lv' => SI sp σ iv' ∧ (k < 2 → ∃ r, TrP m n (v 1) (v 2) (v 3) (v 4) (v 5) r (iv' 8 2)) ∧ (2 ≤ k → iv' 8 2 = n)) := by
  refine con_intro (own := "RollingNets") (by decide +kernel) rfl (Nat.le_of_ble_eq_true rfl) (L0 := [some (rf g 0), some (.int (nI a)), none, none, none, none]) rfl (fun Z zh => ?_)
  refine z_aloadnR zh dX8_perform_0 rfl ?_
  refine z_getf zh fl_RollingNets_12 dX8_perform_1 ck_X rfl rfl ?_
  refine z_getf zh fl_RollingNets_152 dX8_perform_4 (ck_H isH_1) rfl rfl ?_
  refine z_astoren zh dX8_perform_7 (by decide) (L' := [some (rf g 0), some (.int (nI a)), some (rf g (1 + 46)), none, none, none]) rfl ?_
  refine z_aloadnR zh dX8_perform_8 rfl ?_
  refine z_iconst zh dX8_perform_9 ki_1 ?_
  refine z_iloadn zh dX8_perform_10 rfl ?_
  refine z_callVIp zh mv_RollingNets_171 dX8_perform_11 (ck_T (isT_p isH_1)) rfl (h_X7_get g (isT_p isH_1) (c := 1) (r := a) (x := v 1) (by decide) ha hc ec (hv 1 (by decide))) ⟨Nat.le_of_ble_eq_true rfl, Nat.le_of_ble_eq_true rfl⟩ rfl rfl (Nat.le_of_ble_eq_true rfl) ?_
  refine z_istoren zh dX8_perform_14 (by decide) (L' := [some (rf g 0), some (.int (nI a)), some (rf g (1 + 46)), some (.int (v 1)), none, none]) rfl ?_
  refine z_aloadnR zh dX8_perform_15 rfl ?_
  refine z_iconst zh dX8_perform_16 ki_2 ?_
  refine z_iloadn zh dX8_perform_17 rfl ?_
  refine z_callVIp zh mv_RollingNets_171 dX8_perform_18 (ck_T (isT_p isH_1)) rfl (h_X7_get g (isT_p isH_1) (c := 2) (r := a) (x := v 2) (by decide) ha hc ec (hv 2 (by decide))) ⟨Nat.le_of_ble_eq_true rfl, Nat.le_of_ble_eq_true rfl⟩ rfl rfl (Nat.le_of_ble_eq_true rfl) ?_
  refine z_istore zh dX8_perform_21 (by decide) (L' := [some (rf g 0), some (.int (nI a)), some (rf g (1 + 46)), some (.int (v 1)), some (.int (v 2)), none]) rfl ?_
  refine z_aloadnR zh dX8_perform_23 rfl ?_
  refine z_iconst zh dX8_perform_24 ki_3 ?_
  refine z_iloadn zh dX8_perform_25 rfl ?_
  refine z_callVIp zh mv_RollingNets_171 dX8_perform_26 (ck_T (isT_p isH_1)) rfl (h_X7_get g (isT_p isH_1) (c := 3) (r := a) (x := v 3) (by decide) ha hc ec (hv 3 (by decide))) ⟨Nat.le_of_ble_eq_true rfl, Nat.le_of_ble_eq_true rfl⟩ rfl rfl (Nat.le_of_ble_eq_true rfl) ?_
  refine z_istore zh dX8_perform_29 (by decide) (L' := [some (rf g 0), some (.int (nI a)), some (rf g (1 + 46)), some (.int (v 1)), some (.int (v 2)), some (.int (v 3))]) rfl ?_
  refine z_aloadnR zh dX8_perform_31 rfl ?_
  refine z_iconst zh dX8_perform_32 ki_0 ?_
  refine z_iloadn zh dX8_perform_33 rfl ?_
  refine z_callVIp zh mv_RollingNets_171 dX8_perform_34 (ck_T (isT_p isH_1)) rfl (h_X7_get g (isT_p isH_1) (c := 0) (r := a) (x := nI k) (by decide) ha hc ec ((hv 0 (by decide)).trans e0)) ⟨Nat.le_of_ble_eq_true rfl, Nat.le_of_ble_eq_true rfl⟩ rfl rfl (Nat.le_of_ble_eq_true rfl) ?_
  by_cases q6 : True
  · rcases (by omega : k = 0 ∨ k = 1 ∨ k = 2 ∨ k = 3 ∨ k = 4 ∨ k = 5 ∨ k = 6 ∨ k = 7 ∨ k = 8) with rfl | rfl | rfl | rfl | rfl | rfl | rfl | rfl | rfl
    · refine z_tabIn (off := 51) (tgt := 88) zh dX8_perform_37 (by decide) (by decide) (by decide +kernel) rfl ?_
      refine z_aloadnR zh dX8_perform_88 rfl ?_
      refine z_iloadn zh dX8_perform_89 rfl ?_
      refine z_iload zh dX8_perform_90 rfl ?_
      refine z_iload zh dX8_perform_92 rfl ?_
      refine z_aloadnR zh dX8_perform_94 rfl ?_
      refine z_iconst zh dX8_perform_95 ki_4 ?_
      refine z_iloadn zh dX8_perform_96 rfl ?_
      refine z_callVIp zh mv_RollingNets_171 dX8_perform_97 (ck_T (isT_p isH_1)) rfl (h_X7_get g (isT_p isH_1) (c := 4) (r := a) (x := v 4) (by decide) ha hc ec (hv 4 (by decide))) ⟨Nat.le_of_ble_eq_true rfl, Nat.le_of_ble_eq_true rfl⟩ rfl rfl (Nat.le_of_ble_eq_true rfl) ?_
      refine z_aloadnR zh dX8_perform_100 rfl ?_
      refine z_iconst zh dX8_perform_101 ki_5 ?_
      refine z_iloadn zh dX8_perform_102 rfl ?_
      refine z_callVIp zh mv_RollingNets_171 dX8_perform_103 (ck_T (isT_p isH_1)) rfl (h_X7_get g (isT_p isH_1) (c := 5) (r := a) (x := v 5) (by decide) ha hc ec (hv 5 (by decide))) ⟨Nat.le_of_ble_eq_true rfl, Nat.le_of_ble_eq_true rfl⟩ rfl rfl (Nat.le_of_ble_eq_true rfl) ?_
      refine z_callVI zh mv_RollingNets_178 dX8_perform_106 ck_X rfl (e_X8_trade g hG hq hD em en) ⟨Nat.le_of_ble_eq_true rfl, Nat.le_of_ble_eq_true rfl⟩ rfl rfl (Nat.le_of_ble_eq_true rfl) ?_
      rintro x11 iv lv ⟨hG, hx11, hp⟩
      refine z_iconst zh dX8_perform_109 ki_m1 ?_
      refine z_icmp_eq (tgt := 117) zh dX8_perform_110 rfl (fun q12 => ?_) (fun q12 => ?_)
      · skip
        refine z_iconst zh dX8_perform_117 ki_0 ?_
        exact z_zret zh dX8_perform_118 (ra_01 (ra_w rl_0 (by decide) (by decide))) ⟨_, rfl, hG, (fun _ => ⟨_, hp⟩), (fun z => absurd z (by decide))⟩
      · skip
        refine z_iconst zh dX8_perform_113 ki_1 ?_
        refine z_goto (tgt := 118) zh dX8_perform_114 rfl ?_
        exact z_zret zh dX8_perform_118 (ra_01 (ra_w rl_1 (by decide) (by decide))) ⟨_, rfl, hG, (fun _ => ⟨_, hp⟩), (fun z => absurd z (by decide))⟩
    · refine z_tabIn (off := 82) (tgt := 119) zh dX8_perform_37 (by decide) (by decide) (by decide +kernel) rfl ?_
      refine z_aloadnR zh dX8_perform_119 rfl ?_
      refine z_iloadn zh dX8_perform_120 rfl ?_
      refine z_iload zh dX8_perform_121 rfl ?_
      refine z_iload zh dX8_perform_123 rfl ?_
      refine z_aloadnR zh dX8_perform_125 rfl ?_
      refine z_iconst zh dX8_perform_126 ki_4 ?_
      refine z_iloadn zh dX8_perform_127 rfl ?_
      refine z_callVIp zh mv_RollingNets_171 dX8_perform_128 (ck_T (isT_p isH_1)) rfl (h_X7_get g (isT_p isH_1) (c := 4) (r := a) (x := v 4) (by decide) ha hc ec (hv 4 (by decide))) ⟨Nat.le_of_ble_eq_true rfl, Nat.le_of_ble_eq_true rfl⟩ rfl rfl (Nat.le_of_ble_eq_true rfl) ?_
      refine z_aloadnR zh dX8_perform_131 rfl ?_
      refine z_iconst zh dX8_perform_132 ki_5 ?_
      refine z_iloadn zh dX8_perform_133 rfl ?_
      refine z_callVIp zh mv_RollingNets_171 dX8_perform_134 (ck_T (isT_p isH_1)) rfl (h_X7_get g (isT_p isH_1) (c := 5) (r := a) (x := v 5) (by decide) ha hc ec (hv 5 (by decide))) ⟨Nat.le_of_ble_eq_true rfl, Nat.le_of_ble_eq_true rfl⟩ rfl rfl (Nat.le_of_ble_eq_true rfl) ?_
      refine z_callVI zh mv_RollingNets_182 dX8_perform_137 ck_X rfl (e_X8_apart g hG hq hD em en) ⟨Nat.le_of_ble_eq_true rfl, Nat.le_of_ble_eq_true rfl⟩ rfl rfl (Nat.le_of_ble_eq_true rfl) ?_
      rintro x18 iv lv ⟨hG, hx18, hp⟩
      refine z_iconst zh dX8_perform_140 ki_m1 ?_
      refine z_icmp_eq (tgt := 148) zh dX8_perform_141 rfl (fun q19 => ?_) (fun q19 => ?_)
      · skip
        refine z_iconst zh dX8_perform_148 ki_0 ?_
        exact z_zret zh dX8_perform_149 (ra_01 (ra_w rl_0 (by decide) (by decide))) ⟨_, rfl, hG, (fun _ => ⟨_, hp⟩), (fun z => absurd z (by decide))⟩
      · skip
        refine z_iconst zh dX8_perform_144 ki_1 ?_
        refine z_goto (tgt := 149) zh dX8_perform_145 rfl ?_
        exact z_zret zh dX8_perform_149 (ra_01 (ra_w rl_1 (by decide) (by decide))) ⟨_, rfl, hG, (fun _ => ⟨_, hp⟩), (fun z => absurd z (by decide))⟩
    · refine z_tabIn (off := 113) (tgt := 150) zh dX8_perform_37 (by decide) (by decide) (by decide +kernel) rfl ?_
      refine z_aloadnR zh dX8_perform_150 rfl ?_
      refine z_iloadn zh dX8_perform_151 rfl ?_
      refine z_iload zh dX8_perform_152 rfl ?_
      refine z_iconst zh dX8_perform_154 ki_0 ?_
      refine z_iload zh dX8_perform_155 rfl ?_
      refine z_callVI zh mv_RollingNets_185 dX8_perform_157 ck_X rfl (s_X8_tell g (si_add (k0 := 8) (j0 := 2) hG rfl)) ⟨Nat.le_of_ble_eq_true rfl, Nat.le_of_ble_eq_true rfl⟩ rfl rfl (Nat.le_of_ble_eq_true rfl) ?_
      rintro x23 iv lv ⟨hS, hx23, hz24, hz25, hz26⟩
      have hd := si_drop hG hS
      exact z_zret zh dX8_perform_160 (ra_01 hx23) ⟨_, rfl, hd.1, (fun z => absurd z (by decide)), (fun _ => hd.2.trans en)⟩
    · refine z_tabIn (off := 124) (tgt := 161) zh dX8_perform_37 (by decide) (by decide) (by decide +kernel) rfl ?_
      refine z_aloadnR zh dX8_perform_161 rfl ?_
      refine z_iloadn zh dX8_perform_162 rfl ?_
      refine z_iload zh dX8_perform_163 rfl ?_
      refine z_iconst zh dX8_perform_165 ki_1 ?_
      refine z_iload zh dX8_perform_166 rfl ?_
      refine z_callVI zh mv_RollingNets_185 dX8_perform_168 ck_X rfl (s_X8_tell g (si_add (k0 := 8) (j0 := 2) hG rfl)) ⟨Nat.le_of_ble_eq_true rfl, Nat.le_of_ble_eq_true rfl⟩ rfl rfl (Nat.le_of_ble_eq_true rfl) ?_
      rintro x28 iv lv ⟨hS, hx28, hz29, hz30, hz31⟩
      have hd := si_drop hG hS
      exact z_zret zh dX8_perform_171 (ra_01 hx28) ⟨_, rfl, hd.1, (fun z => absurd z (by decide)), (fun _ => hd.2.trans en)⟩
    · refine z_tabIn (off := 135) (tgt := 172) zh dX8_perform_37 (by decide) (by decide) (by decide +kernel) rfl ?_
      refine z_aloadnR zh dX8_perform_172 rfl ?_
      refine z_iloadn zh dX8_perform_173 rfl ?_
      refine z_iload zh dX8_perform_174 rfl ?_
      refine z_iconst zh dX8_perform_176 ki_2 ?_
      refine z_iload zh dX8_perform_177 rfl ?_
      refine z_callVI zh mv_RollingNets_185 dX8_perform_179 ck_X rfl (s_X8_tell g (si_add (k0 := 8) (j0 := 2) hG rfl)) ⟨Nat.le_of_ble_eq_true rfl, Nat.le_of_ble_eq_true rfl⟩ rfl rfl (Nat.le_of_ble_eq_true rfl) ?_
      rintro x33 iv lv ⟨hS, hx33, hz34, hz35, hz36⟩
      have hd := si_drop hG hS
      exact z_zret zh dX8_perform_182 (ra_01 hx33) ⟨_, rfl, hd.1, (fun z => absurd z (by decide)), (fun _ => hd.2.trans en)⟩
    · refine z_tabIn (off := 146) (tgt := 183) zh dX8_perform_37 (by decide) (by decide) (by decide +kernel) rfl ?_
      refine z_aloadnR zh dX8_perform_183 rfl ?_
      refine z_iloadn zh dX8_perform_184 rfl ?_
      refine z_iconst zh dX8_perform_185 ki_0 ?_
      refine z_iconst zh dX8_perform_186 ki_3 ?_
      refine z_iload zh dX8_perform_187 rfl ?_
      refine z_callVI zh mv_RollingNets_185 dX8_perform_189 ck_X rfl (s_X8_tell g (si_add (k0 := 8) (j0 := 2) hG rfl)) ⟨Nat.le_of_ble_eq_true rfl, Nat.le_of_ble_eq_true rfl⟩ rfl rfl (Nat.le_of_ble_eq_true rfl) ?_
      rintro x38 iv lv ⟨hS, hx38, hz39, hz40, hz41⟩
      have hd := si_drop hG hS
      exact z_zret zh dX8_perform_192 (ra_01 hx38) ⟨_, rfl, hd.1, (fun z => absurd z (by decide)), (fun _ => hd.2.trans en)⟩
    · refine z_tabIn (off := 156) (tgt := 193) zh dX8_perform_37 (by decide) (by decide) (by decide +kernel) rfl ?_
      refine z_aloadnR zh dX8_perform_193 rfl ?_
      refine z_iloadn zh dX8_perform_194 rfl ?_
      refine z_iload zh dX8_perform_195 rfl ?_
      refine z_callVI zh mv_RollingNets_189 dX8_perform_197 ck_X rfl (s_X8_price g (si_add (k0 := 8) (j0 := 2) hG rfl)) ⟨Nat.le_of_ble_eq_true rfl, Nat.le_of_ble_eq_true rfl⟩ rfl rfl (Nat.le_of_ble_eq_true rfl) ?_
      rintro x43 iv lv ⟨hS, hx43, hz44, hz45⟩
      have hd := si_drop hG hS
      exact z_zret zh dX8_perform_200 (ra_01 hx43) ⟨_, rfl, hd.1, (fun z => absurd z (by decide)), (fun _ => hd.2.trans en)⟩
    · refine z_tabIn (off := 164) (tgt := 201) zh dX8_perform_37 (by decide) (by decide) (by decide +kernel) rfl ?_
      refine z_aloadnR zh dX8_perform_201 rfl ?_
      refine z_getf zh fl_RollingNets_12 dX8_perform_202 ck_X rfl rfl ?_
      refine z_iloadn zh dX8_perform_205 rfl ?_
      refine z_iload zh dX8_perform_206 rfl ?_
      refine z_iload zh dX8_perform_208 rfl ?_
      refine z_callSI zh ms_RollingNets_129 dX8_perform_210 (k_X5_giveNet g isH_1 (si_add (k0 := 8) (j0 := 2) hG rfl) (sk_1 hq rfl)) ⟨Nat.le_of_ble_eq_true rfl, Nat.le_of_ble_eq_true rfl⟩ rfl rfl (Nat.le_of_ble_eq_true rfl) ?_
      rintro x47 iv lv ⟨hS, hx47⟩
      have hd := si_drop hG hS
      refine z_iconst zh dX8_perform_213 ki_m1 ?_
      refine z_icmp_eq (tgt := 221) zh dX8_perform_214 rfl (fun q48 => ?_) (fun q48 => ?_)
      · skip
        refine z_iconst zh dX8_perform_221 ki_0 ?_
        exact z_zret zh dX8_perform_222 (ra_01 (ra_w rl_0 (by decide) (by decide))) ⟨_, rfl, hd.1, (fun z => absurd z (by decide)), (fun _ => hd.2.trans en)⟩
      · skip
        refine z_iconst zh dX8_perform_217 ki_1 ?_
        refine z_goto (tgt := 222) zh dX8_perform_218 rfl ?_
        exact z_zret zh dX8_perform_222 (ra_01 (ra_w rl_1 (by decide) (by decide))) ⟨_, rfl, hd.1, (fun z => absurd z (by decide)), (fun _ => hd.2.trans en)⟩
    · refine z_tabIn (off := 186) (tgt := 223) zh dX8_perform_37 (by decide) (by decide) (by decide +kernel) rfl ?_
      refine z_aloadnR zh dX8_perform_223 rfl ?_
      refine z_getf zh fl_RollingNets_12 dX8_perform_224 ck_X rfl rfl ?_
      refine z_iloadn zh dX8_perform_227 rfl ?_
      refine z_callSI zh ms_RollingNets_135 dX8_perform_228 (k_X5_giveApart g isH_1 (si_add (k0 := 8) (j0 := 2) hG rfl) (sk_1 hq rfl)) ⟨Nat.le_of_ble_eq_true rfl, Nat.le_of_ble_eq_true rfl⟩ rfl rfl (Nat.le_of_ble_eq_true rfl) ?_
      rintro x52 iv lv ⟨hS, hx52⟩
      have hd := si_drop hG hS
      refine z_iconst zh dX8_perform_231 ki_m1 ?_
      refine z_icmp_eq (tgt := 239) zh dX8_perform_232 rfl (fun q53 => ?_) (fun q53 => ?_)
      · skip
        refine z_iconst zh dX8_perform_239 ki_0 ?_
        exact z_zret zh dX8_perform_240 (ra_01 (ra_w rl_0 (by decide) (by decide))) ⟨_, rfl, hd.1, (fun z => absurd z (by decide)), (fun _ => hd.2.trans en)⟩
      · skip
        refine z_iconst zh dX8_perform_235 ki_1 ?_
        refine z_goto (tgt := 240) zh dX8_perform_236 rfl ?_
        exact z_zret zh dX8_perform_240 (ra_01 (ra_w rl_1 (by decide) (by decide))) ⟨_, rfl, hd.1, (fun z => absurd z (by decide)), (fun _ => hd.2.trans en)⟩
  · exact absurd trivial q6
theorem si_add2 {sp : Nat → Nat → Bool} {σ iv : Iv} (hG : SI sp σ iv) : SI (sp1 (sp1 sp 552 7) 552 6) iv iv := si_add (si_add (k0 := 552) (j0 := 7) hG rfl) rfl
theorem ra_le1 {k : Nat} (h : k < 2) : Ra (-2147483648) 1 (nI k) := ⟨by rw [nI_toInt (by omega)]; omega, by rw [nI_toInt (by omega)]; omega⟩
set_option maxHeartbeats 1000000 in
set_option maxRecDepth 20000 in
theorem e_X9_runsLine (g : GE) {sp : Nat → Nat → Bool} {σ : Iv} {iv : Iv} {lv : Lv} {k a : Nat} {v : Nat → Int32} {m n d : Int32} (hk : k < 10) (ha : a ≤ 23) (hG : SI sp σ iv) (hq : Sk sp) (hD : sp 552 7 = false) (hY : sp 552 6 = false) (hm : Ra 2 12 m) (em : (iv 552 0).toInt + 6 = m.toInt) (en : iv 552 7 = n) (ed : iv 552 6 = d) (e0 : iv 563 (6 * a) = nI k) (hv : ∀ c, 1 ≤ c → c < 6 → iv 563 (6 * a + c) = v c) : ConI g yX9_runsLine cX9_runsLine 6 (some .boolean) 12 [rf g 551, .int (nI (6 * a))] iv lv (fun r iv' lv' => SI sp σ iv' ∧ LnS m k v n d (iv' 552 7) (iv' 552 6)) := by
  refine con_intro (own := "RollingNetsModel") (by decide +kernel) rfl (Nat.le_of_ble_eq_true rfl) (L0 := [some (rf g 551), some (.int (nI (6 * a))), none, none, none, none]) rfl (fun Z zh => ?_)
  refine z_aloadnR zh dX9_runsLine_0 rfl ?_
  refine z_getf zh fl_Y_49 dX9_runsLine_1 ck_Y rfl rfl ?_
  refine z_iloadn zh dX9_runsLine_4 rfl ?_
  refine z_ialdE (x := nI k) zh ck_plans dX9_runsLine_5 (by omega) e0 ?_
  refine z_istoren zh dX9_runsLine_6 (by decide) (L' := [some (rf g 551), some (.int (nI (6 * a))), some (.int (nI k)), none, none, none]) rfl ?_
  refine z_aloadnR zh dX9_runsLine_7 rfl ?_
  refine z_getf zh fl_Y_49 dX9_runsLine_8 ck_Y rfl rfl ?_
  refine z_iloadn zh dX9_runsLine_11 rfl ?_
  refine z_iconst zh dX9_runsLine_12 ki_1 ?_
  refine z_iaddN zh dX9_runsLine_13 ?_
  refine z_ialdE (x := v 1) zh ck_plans dX9_runsLine_14 (by omega) (hv 1 (by decide) (by decide)) ?_
  refine z_istoren zh dX9_runsLine_15 (by decide) (L' := [some (rf g 551), some (.int (nI (6 * a))), some (.int (nI k)), some (.int (v 1)), none, none]) rfl ?_
  refine z_aloadnR zh dX9_runsLine_16 rfl ?_
  refine z_getf zh fl_Y_49 dX9_runsLine_17 ck_Y rfl rfl ?_
  refine z_iloadn zh dX9_runsLine_20 rfl ?_
  refine z_iconst zh dX9_runsLine_21 ki_2 ?_
  refine z_iaddN zh dX9_runsLine_22 ?_
  refine z_ialdE (x := v 2) zh ck_plans dX9_runsLine_23 (by omega) (hv 2 (by decide) (by decide)) ?_
  refine z_istore zh dX9_runsLine_24 (by decide) (L' := [some (rf g 551), some (.int (nI (6 * a))), some (.int (nI k)), some (.int (v 1)), some (.int (v 2)), none]) rfl ?_
  refine z_aloadnR zh dX9_runsLine_26 rfl ?_
  refine z_getf zh fl_Y_49 dX9_runsLine_27 ck_Y rfl rfl ?_
  refine z_iloadn zh dX9_runsLine_30 rfl ?_
  refine z_iconst zh dX9_runsLine_31 ki_3 ?_
  refine z_iaddN zh dX9_runsLine_32 ?_
  refine z_ialdE (x := v 3) zh ck_plans dX9_runsLine_33 (by omega) (hv 3 (by decide) (by decide)) ?_
  refine z_istore zh dX9_runsLine_34 (by decide) (L' := [some (rf g 551), some (.int (nI (6 * a))), some (.int (nI k)), some (.int (v 1)), some (.int (v 2)), some (.int (v 3))]) rfl ?_
  refine z_iloadn zh dX9_runsLine_36 rfl ?_
  refine z_iconst zh dX9_runsLine_37 ki_2 ?_
  refine z_icmp_ge_N (tgt := 77) zh (by omega) (by omega) dX9_runsLine_38 rfl (fun q8 => ?_) (fun q8 => ?_)
  · refine z_iloadn zh dX9_runsLine_77 rfl ?_
    refine z_iconst zh dX9_runsLine_78 ki_4 ?_
    refine z_icmp_gt_N (tgt := 95) zh (by omega) (by omega) dX9_runsLine_79 rfl (fun q10 => ?_) (fun q10 => ?_)
    · refine z_iloadn zh dX9_runsLine_95 rfl ?_
      refine z_iconst zh dX9_runsLine_96 ki_5 ?_
      refine z_icmp_ne_N (tgt := 110) zh (by omega) (by omega) dX9_runsLine_97 rfl (fun q12 => ?_) (fun q12 => ?_)
      · refine z_iloadn zh dX9_runsLine_110 rfl ?_
        refine z_bipush zh dX9_runsLine_111 kb_6 ?_
        refine z_icmp_ne_N (tgt := 124) zh (by omega) (by omega) dX9_runsLine_113 rfl (fun q14 => ?_) (fun q14 => ?_)
        · refine z_iloadn zh dX9_runsLine_124 rfl ?_
          refine z_bipush zh dX9_runsLine_125 kb_7 ?_
          refine z_icmp_ne_N (tgt := 149) zh (by omega) (by omega) dX9_runsLine_127 rfl (fun q16 => ?_) (fun q16 => ?_)
          · refine z_iloadn zh dX9_runsLine_149 rfl ?_
            refine z_bipush zh dX9_runsLine_150 kb_8 ?_
            refine z_icmp_ne_N (tgt := 172) zh (by omega) (by omega) dX9_runsLine_152 rfl (fun q18 => ?_) (fun q18 => ?_)
            · refine z_aloadnR zh dX9_runsLine_172 rfl ?_
              refine z_iloadn zh dX9_runsLine_173 rfl ?_
              refine z_callVI zh mv_Y_423 dX9_runsLine_174 ck_Y rfl (e_X9_night g (si_add (k0 := 552) (j0 := 7) hG rfl) (sk_1 hq rfl) (sp9_no hY (Or.inr (by decide))) ed) ⟨Nat.le_of_ble_eq_true rfl, Nat.le_of_ble_eq_true rfl⟩ rfl rfl (Nat.le_of_ble_eq_true rfl) ?_
              rintro x20 iv lv ⟨hS, hx20, hp⟩
              have hd := si_drop hG hS
              refine z_iconst zh dX9_runsLine_177 ki_m1 ?_
              refine z_icmp_eq (tgt := 185) zh dX9_runsLine_178 rfl (fun q21 => ?_) (fun q21 => ?_)
              · refine z_iconst zh dX9_runsLine_185 ki_0 ?_
                exact z_zret zh dX9_runsLine_186 (ra_01 (ra_w rl_0 (by decide) (by decide))) ⟨_, rfl, hd.1, (fun z => absurd z (by omega)), (fun _ z => absurd z (by omega)), (fun _ => ⟨hd.2.trans en, _, hp⟩)⟩
              · refine z_iconst zh dX9_runsLine_181 ki_1 ?_
                refine z_goto (tgt := 186) zh dX9_runsLine_182 rfl ?_
                exact z_zret zh dX9_runsLine_186 (ra_01 (ra_w rl_1 (by decide) (by decide))) ⟨_, rfl, hd.1, (fun z => absurd z (by omega)), (fun _ z => absurd z (by omega)), (fun _ => ⟨hd.2.trans en, _, hp⟩)⟩
            · refine z_aloadnR zh dX9_runsLine_155 rfl ?_
              refine z_iloadn zh dX9_runsLine_156 rfl ?_
              refine z_callVI zh mv_Y_420 dX9_runsLine_157 ck_Y rfl (k_X9_call g (si_add2 hG) (sk_1 (sk_1 hq rfl) rfl)) ⟨Nat.le_of_ble_eq_true rfl, Nat.le_of_ble_eq_true rfl⟩ rfl rfl (Nat.le_of_ble_eq_true rfl) ?_
              rintro x25 iv lv ⟨hS, hx25⟩
              have hd := si_drop2 hG hS
              refine z_iconst zh dX9_runsLine_160 ki_m1 ?_
              refine z_icmp_eq (tgt := 168) zh dX9_runsLine_161 rfl (fun q26 => ?_) (fun q26 => ?_)
              · refine z_iconst zh dX9_runsLine_168 ki_0 ?_
                refine z_goto (tgt := 186) zh dX9_runsLine_169 rfl ?_
                exact z_zret zh dX9_runsLine_186 (ra_01 (ra_w rl_0 (by decide) (by decide))) ⟨_, rfl, hd.1, (fun z => absurd z (by omega)), (fun _ _ => ⟨hd.2.1.trans en, hd.2.2.trans ed⟩), (fun z => absurd z (by omega))⟩
              · refine z_iconst zh dX9_runsLine_164 ki_1 ?_
                refine z_goto (tgt := 186) zh dX9_runsLine_165 rfl ?_
                exact z_zret zh dX9_runsLine_186 (ra_01 (ra_w rl_1 (by decide) (by decide))) ⟨_, rfl, hd.1, (fun z => absurd z (by omega)), (fun _ _ => ⟨hd.2.1.trans en, hd.2.2.trans ed⟩), (fun z => absurd z (by omega))⟩
          · refine z_aloadnR zh dX9_runsLine_130 rfl ?_
            refine z_iloadn zh dX9_runsLine_131 rfl ?_
            refine z_iload zh dX9_runsLine_132 rfl ?_
            refine z_iload zh dX9_runsLine_134 rfl ?_
            refine z_callVI zh mv_Y_417 dX9_runsLine_136 ck_Y rfl (k_X9_give g (si_add2 hG) (sk_1 (sk_1 hq rfl) rfl)) ⟨Nat.le_of_ble_eq_true rfl, Nat.le_of_ble_eq_true rfl⟩ rfl rfl (Nat.le_of_ble_eq_true rfl) ?_
            rintro x30 iv lv ⟨hS, hx30⟩
            have hd := si_drop2 hG hS
            refine z_iconst zh dX9_runsLine_139 ki_m1 ?_
            refine z_icmp_eq (tgt := 147) zh dX9_runsLine_140 rfl (fun q31 => ?_) (fun q31 => ?_)
            · refine z_iconst zh dX9_runsLine_147 ki_0 ?_
              exact z_zret zh dX9_runsLine_148 (ra_01 (ra_w rl_0 (by decide) (by decide))) ⟨_, rfl, hd.1, (fun z => absurd z (by omega)), (fun _ _ => ⟨hd.2.1.trans en, hd.2.2.trans ed⟩), (fun z => absurd z (by omega))⟩
            · refine z_iconst zh dX9_runsLine_143 ki_1 ?_
              refine z_goto (tgt := 148) zh dX9_runsLine_144 rfl ?_
              exact z_zret zh dX9_runsLine_148 (ra_01 (ra_w rl_1 (by decide) (by decide))) ⟨_, rfl, hd.1, (fun z => absurd z (by omega)), (fun _ _ => ⟨hd.2.1.trans en, hd.2.2.trans ed⟩), (fun z => absurd z (by omega))⟩
        · refine z_aloadnR zh dX9_runsLine_116 rfl ?_
          refine z_iloadn zh dX9_runsLine_117 rfl ?_
          refine z_iload zh dX9_runsLine_118 rfl ?_
          refine z_callVI zh mv_Y_414 dX9_runsLine_120 ck_Y rfl (s_X9_price g (si_add2 hG)) ⟨Nat.le_of_ble_eq_true rfl, Nat.le_of_ble_eq_true rfl⟩ rfl rfl (Nat.le_of_ble_eq_true rfl) ?_
          rintro x35 iv lv ⟨hS, hx35, hz36, hz37⟩
          have hd := si_drop2 hG hS
          exact z_zret zh dX9_runsLine_123 (ra_01 hx35) ⟨_, rfl, hd.1, (fun z => absurd z (by omega)), (fun _ _ => ⟨hd.2.1.trans en, hd.2.2.trans ed⟩), (fun z => absurd z (by omega))⟩
      · refine z_aloadnR zh dX9_runsLine_100 rfl ?_
        refine z_iloadn zh dX9_runsLine_101 rfl ?_
        refine z_iconst zh dX9_runsLine_102 ki_0 ?_
        refine z_iconst zh dX9_runsLine_103 ki_3 ?_
        refine z_iload zh dX9_runsLine_104 rfl ?_
        refine z_callVI zh mv_Y_410 dX9_runsLine_106 ck_Y rfl (s_X9_tell g (si_add2 hG)) ⟨Nat.le_of_ble_eq_true rfl, Nat.le_of_ble_eq_true rfl⟩ rfl rfl (Nat.le_of_ble_eq_true rfl) ?_
        rintro x39 iv lv ⟨hS, hx39, hz40, hz41, hz42⟩
        have hd := si_drop2 hG hS
        exact z_zret zh dX9_runsLine_109 (ra_01 hx39) ⟨_, rfl, hd.1, (fun z => absurd z (by omega)), (fun _ _ => ⟨hd.2.1.trans en, hd.2.2.trans ed⟩), (fun z => absurd z (by omega))⟩
    · refine z_aloadnR zh dX9_runsLine_82 rfl ?_
      refine z_iloadn zh dX9_runsLine_83 rfl ?_
      refine z_iload zh dX9_runsLine_84 rfl ?_
      refine z_iloadn zh dX9_runsLine_86 rfl ?_
      refine z_iconst zh dX9_runsLine_87 ki_2 ?_
      refine z_isubN zh (by omega) dX9_runsLine_88 ?_
      refine z_iload zh dX9_runsLine_89 rfl ?_
      refine z_callVI zh mv_Y_410 dX9_runsLine_91 ck_Y rfl (s_X9_tell g (si_add2 hG)) ⟨Nat.le_of_ble_eq_true rfl, Nat.le_of_ble_eq_true rfl⟩ rfl rfl (Nat.le_of_ble_eq_true rfl) ?_
      rintro x45 iv lv ⟨hS, hx45, hz46, hz47, hz48⟩
      have hd := si_drop2 hG hS
      exact z_zret zh dX9_runsLine_94 (ra_01 hx45) ⟨_, rfl, hd.1, (fun z => absurd z (by omega)), (fun _ _ => ⟨hd.2.1.trans en, hd.2.2.trans ed⟩), (fun z => absurd z (by omega))⟩
  · refine z_aloadnR zh dX9_runsLine_41 rfl ?_
    refine z_iloadn zh dX9_runsLine_42 rfl ?_
    refine z_iload zh dX9_runsLine_43 rfl ?_
    refine z_iload zh dX9_runsLine_45 rfl ?_
    refine z_aloadnR zh dX9_runsLine_47 rfl ?_
    refine z_getf zh fl_Y_49 dX9_runsLine_48 ck_Y rfl rfl ?_
    refine z_iloadn zh dX9_runsLine_51 rfl ?_
    refine z_iconst zh dX9_runsLine_52 ki_4 ?_
    refine z_iaddN zh dX9_runsLine_53 ?_
    refine z_ialdE (x := v 4) zh ck_plans dX9_runsLine_54 (by omega) (hv 4 (by decide) (by decide)) ?_
    refine z_aloadnR zh dX9_runsLine_55 rfl ?_
    refine z_getf zh fl_Y_49 dX9_runsLine_56 ck_Y rfl rfl ?_
    refine z_iloadn zh dX9_runsLine_59 rfl ?_
    refine z_iconst zh dX9_runsLine_60 ki_5 ?_
    refine z_iaddN zh dX9_runsLine_61 ?_
    refine z_ialdE (x := v 5) zh ck_plans dX9_runsLine_62 (by omega) (hv 5 (by decide) (by decide)) ?_
    refine z_iloadn zh dX9_runsLine_63 rfl ?_
    refine z_callVI zh mv_Y_147 dX9_runsLine_64 ck_Y rfl (e_X9_trades g (ra_le1 (by omega)) (si_add (k0 := 552) (j0 := 6) hG rfl) (sp9_no hD (Or.inr (by decide))) hm em en) ⟨Nat.le_of_ble_eq_true rfl, Nat.le_of_ble_eq_true rfl⟩ rfl rfl (Nat.le_of_ble_eq_true rfl) ?_
    rintro x54 iv lv ⟨hS, hx54, hp⟩
    have hd := si_drop hG hS
    refine z_iconst zh dX9_runsLine_67 ki_m1 ?_
    refine z_icmp_eq (tgt := 75) zh dX9_runsLine_68 rfl (fun q55 => ?_) (fun q55 => ?_)
    · refine z_iconst zh dX9_runsLine_75 ki_0 ?_
      exact z_zret zh dX9_runsLine_76 (ra_01 (ra_w rl_0 (by decide) (by decide))) ⟨_, rfl, hd.1, (fun z => ⟨⟨_, hp⟩, hd.2.trans ed⟩), (fun z => absurd z (by omega)), (fun z => absurd z (by omega))⟩
    · refine z_iconst zh dX9_runsLine_71 ki_1 ?_
      refine z_goto (tgt := 76) zh dX9_runsLine_72 rfl ?_
      exact z_zret zh dX9_runsLine_76 (ra_01 (ra_w rl_1 (by decide) (by decide))) ⟨_, rfl, hd.1, (fun z => ⟨⟨_, hp⟩, hd.2.trans ed⟩), (fun z => absurd z (by omega)), (fun z => absurd z (by omega))⟩
