def Fr (t cc : Nat) (iv iv' : Iv) : Prop := ∀ k j, (k < t ∨ t + 2 + cc ≤ k) → iv' k j = iv k j
theorem Fr.put {t cc : Nat} {iv iv' : Iv} {k j : Nat} {x : Int32} (h : Fr t cc iv iv') (hk : t ≤ k ∧ k < t + 2 + cc) : Fr t cc iv (upI iv' k j x) := fun a b hab => by
  rw [upI_at, if_neg (by omega)]
  exact h a b hab
theorem Fr.trans {t cc : Nat} {a b c : Iv} (h1 : Fr t cc a b) (h2 : Fr t cc b c) : Fr t cc a c := fun k j hk => (h2 k j hk).trans (h1 k j hk)
theorem lgc_pos2 {n : Int32} (h : ¬ n < nI 1) : 0 < lg_cmp n.toInt64 (0 : Int64) := by
  have h1 : (nI 1).toInt = 1 := by decide
  have h2 : (0 : Int64) < n.toInt64 := by
    rw [Int64.lt_iff_toInt_lt, Int32.toInt_toInt64]
    rw [Int32.lt_iff_toInt_lt, h1] at h
    have h3 : (0 : Int64).toInt = 0 := by decide
    omega
  unfold lg_cmp
  rw [if_pos h2]
  decide
theorem lgc_pos {n : Int32} (h : ¬ n < nI 1) : ¬ lg_cmp n.toInt64 (0 : Int64) ≤ 0 := Int32.not_le.mpr (lgc_pos2 h)
set_option maxRecDepth 20000 in
theorem c_tellRank (g : GE) {j : Nat} {v : Int32} {iv : Iv} {lv : Lv} {dd : Nat → Nat} {dm : Nat} (hj : j < 12) (hG : Ok1 dd dm iv lv) : ConI g yX8_tellRank cX8_tellRank 3 (some .boolean) 2 [rf g 0, .int (nI j), .int v] iv lv (fun r iv' lv' => r = bi (InN 10 v) ∧ OkR (fun _ => 0) dm iv' lv') := by
  refine con_intro (own := "RollingNets") (by decide +kernel) rfl (Nat.le_of_ble_eq_true rfl) (L0 := [some (rf g 0), some (.int (nI j)), some (.int v)]) rfl (fun Z zh => ?_)
  refine z_iloadn zh dX8_tellRank_0 rfl ?_
  refine z_iconst zh dX8_tellRank_1 ki_0 ?_
  refine z_bipush zh dX8_tellRank_2 kb_9 ?_
  refine z_callSIp zh ms_RollingNets_43 dX8_tellRank_4 (c_within0 g) ⟨Nat.le_of_ble_eq_true rfl, Nat.le_of_ble_eq_true rfl⟩ rfl rfl (Nat.le_of_ble_eq_true rfl) ?_
  refine z_if_ne_B (tgt := 12) zh dX8_tellRank_7 rfl (fun hp1 => ?_) (fun hp1 => ?_)
  · obtain ⟨jv, hjv, rfl⟩ := id hp1
    refine z_aloadnR zh dX8_tellRank_12 rfl ?_
    refine z_getf zh fl_RollingNets_12 dX8_tellRank_13 ck_X rfl rfl ?_
    refine z_getf zh fl_RollingNets_88 dX8_tellRank_16 (ck_H isH_1) rfl rfl ?_
    refine z_iloadn zh dX8_tellRank_19 rfl ?_
    refine z_iloadn zh dX8_tellRank_20 rfl ?_
    refine z_iastN zh (ck_rank isH_1) dX8_tellRank_21 hj ?_
    refine z_iconst zh dX8_tellRank_22 ki_1 ?_
    exact z_zret zh dX8_tellRank_23 (Or.inr rfl) (⟨_, rfl, (by first | rfl | simp (decide := true) only [sel_t, sel_f, selL_t, selL_f, bi_t, bi_f, sel_same, selL_same, eq_self, hp1]), (by repeat (first | assumption | exact okR_of (by assumption) | refine okR_lI (by first | omega | (have := isM_lt (by assumption); omega) | (have := isH_lt (by assumption); omega)) ?_ | refine okR_lL (by first | omega | (have := isM_lt (by assumption); omega) | (have := isH_lt (by assumption); omega)) ?_))⟩)
  · refine z_iconst zh dX8_tellRank_10 ki_0 ?_
    exact z_zret zh dX8_tellRank_11 (Or.inl rfl) (⟨_, rfl, (by first | rfl | simp (decide := true) only [sel_t, sel_f, selL_t, selL_f, bi_t, bi_f, sel_same, selL_same, eq_self, hp1]), (by repeat (first | assumption | exact okR_of (by assumption) | refine okR_lI (by first | omega | (have := isM_lt (by assumption); omega) | (have := isH_lt (by assumption); omega)) ?_ | refine okR_lL (by first | omega | (have := isM_lt (by assumption); omega) | (have := isH_lt (by assumption); omega)) ?_))⟩)
set_option maxRecDepth 20000 in
theorem c_X_tell (g : GE) {x y w v : Int32} {iv : Iv} {lv : Lv} {dd : Nat → Nat} {dm : Nat}  (hG : Ok1 dd dm iv lv) : ConI g yX8_tell cX8_tell 6 (some .boolean) 3 [rf g 0, .int x, .int y, .int w, .int v] iv lv (fun r iv' lv' => r = sp_tell x y w v ∧ OkR (fun _ => 0) dm iv' lv') := by
  refine con_intro (own := "RollingNets") (by decide +kernel) rfl (Nat.le_of_ble_eq_true rfl) (L0 := [some (rf g 0), some (.int x), some (.int y), some (.int w), some (.int v), none]) rfl (fun Z zh => ?_)
  refine z_aloadnR zh dX8_tell_0 rfl ?_
  refine z_getf zh fl_RollingNets_12 dX8_tell_1 ck_X rfl rfl ?_
  refine z_iloadn zh dX8_tell_4 rfl ?_
  refine z_callVIp zh mv_RollingNets_60 dX8_tell_5 (ck_H isH_1) rfl (c_hasMember g isH_1 hG) ⟨Nat.le_of_ble_eq_true rfl, Nat.le_of_ble_eq_true rfl⟩ rfl rfl (Nat.le_of_ble_eq_true rfl) ?_
  refine z_if_ne_B (tgt := 13) zh dX8_tell_8 rfl (fun hp1 => ?_) (fun hp1 => ?_)
  · obtain ⟨jx, hjx, rfl⟩ := id hp1
    refine z_iloadn zh dX8_tell_13 rfl ?_
    refine z_iconst zh dX8_tell_14 ki_3 ?_
    refine z_icmp_ne (tgt := 26) zh dX8_tell_15 rfl (fun hb2 => ?_) (fun hb2 => ?_)
    · refine z_iloadn zh dX8_tell_26 rfl ?_
      refine z_callSIp zh ms_RollingNets_68 dX8_tell_27 (c_isIssue g) ⟨Nat.le_of_ble_eq_true rfl, Nat.le_of_ble_eq_true rfl⟩ rfl rfl (Nat.le_of_ble_eq_true rfl) ?_
      refine z_if_eq_B (tgt := 44) zh dX8_tell_30 rfl (fun hp3 => ?_) (fun hp3 => ?_)
      · refine z_iconst zh dX8_tell_44 ki_0 ?_
        exact z_zret zh dX8_tell_45 (Or.inl rfl) (⟨_, rfl, (by first | rfl | simp (decide := true) only [sp_tell, sel_t, sel_f, selL_t, selL_f, bi_t, bi_f, sel_same, selL_same, eq_self, hp1, hb2, hp3]), (by repeat (first | assumption | exact okR_of (by assumption) | refine okR_lI (by first | omega | (have := isM_lt (by assumption); omega) | (have := isH_lt (by assumption); omega)) ?_ | refine okR_lL (by first | omega | (have := isM_lt (by assumption); omega) | (have := isH_lt (by assumption); omega)) ?_))⟩)
      · obtain ⟨jy, hjy, rfl⟩ := id hp3
        refine z_iload zh dX8_tell_33 rfl ?_
        refine z_iconst zh dX8_tell_35 ki_0 ?_
        refine z_ldc zh dX8_tell_36 kc_RollingNets_71 ?_
        refine z_callSIp zh ms_RollingNets_43 dX8_tell_38 (c_within0 g) ⟨Nat.le_of_ble_eq_true rfl, Nat.le_of_ble_eq_true rfl⟩ rfl rfl (Nat.le_of_ble_eq_true rfl) ?_
        refine z_if_ne_B (tgt := 46) zh dX8_tell_41 rfl (fun hp4 => ?_) (fun hp4 => ?_)
        · obtain ⟨jv, hjv, rfl⟩ := id hp4
          refine z_aloadnR zh dX8_tell_46 rfl ?_
          refine z_getf zh fl_RollingNets_12 dX8_tell_47 ck_X rfl rfl ?_
          refine z_getf zh fl_RollingNets_72 dX8_tell_50 (ck_H isH_1) rfl rfl ?_
          refine z_iloadn zh dX8_tell_53 rfl ?_
          refine z_maldN zh (ck_markets isH_1) dX8_tell_54 hjy ?_
          refine z_astore zh dX8_tell_55 (by decide) (L' := [some (rf g 0), some (.int (nI jx)), some (.int (nI jy)), some (.int w), some (.int (nI jv)), some (rf g (1 + 60 + 20 * jy))]) rfl ?_
          refine z_iloadn zh dX8_tell_57 rfl ?_
          by_cases hp5 : InN 3 w
          · obtain ⟨jw, hjw, rfl⟩ := id hp5
            rcases (by omega : jw = 0 ∨ jw = 1 ∨ jw = 2) with rfl | rfl | rfl
            · refine z_tabIn (off := 26) (tgt := 84) zh dX8_tell_58 (by decide) (by decide) (by decide) rfl ?_
              refine z_aloadR zh dX8_tell_84 rfl ?_
              refine z_getf zh fl_RollingNets_76 dX8_tell_86 (ck_M (isM_of isH_1 hjy)) rfl rfl ?_
              refine z_iloadn zh dX8_tell_89 rfl ?_
              refine z_iload zh dX8_tell_90 rfl ?_
              refine z_i2l zh dX8_tell_92 ?_
              refine z_lastN zh (ck_stock (isM_of isH_1 hjy)) dX8_tell_93 (by omega) ?_
              refine z_iconst zh dX8_tell_94 ki_1 ?_
              exact z_zret zh dX8_tell_95 (Or.inr rfl) (⟨_, rfl, (by first | rfl | simp (decide := true) only [sp_tell, sel_t, sel_f, selL_t, selL_f, bi_t, bi_f, sel_same, selL_same, eq_self, hp1, hb2, hp3, hp4, hp5]), (by repeat (first | assumption | exact okR_of (by assumption) | refine okR_lI (by first | omega | (have := isM_lt (by assumption); omega) | (have := isH_lt (by assumption); omega)) ?_ | refine okR_lL (by first | omega | (have := isM_lt (by assumption); omega) | (have := isH_lt (by assumption); omega)) ?_))⟩)
            · refine z_tabIn (off := 38) (tgt := 96) zh dX8_tell_58 (by decide) (by decide) (by decide) rfl ?_
              refine z_aloadR zh dX8_tell_96 rfl ?_
              refine z_getf zh fl_RollingNets_82 dX8_tell_98 (ck_M (isM_of isH_1 hjy)) rfl rfl ?_
              refine z_iloadn zh dX8_tell_101 rfl ?_
              refine z_iload zh dX8_tell_102 rfl ?_
              refine z_iastN zh (ck_mi 2 (by decide) (isM_of isH_1 hjy)) dX8_tell_104 (by omega) ?_
              refine z_iconst zh dX8_tell_105 ki_1 ?_
              exact z_zret zh dX8_tell_106 (Or.inr rfl) (⟨_, rfl, (by first | rfl | simp (decide := true) only [sp_tell, sel_t, sel_f, selL_t, selL_f, bi_t, bi_f, sel_same, selL_same, eq_self, hp1, hb2, hp3, hp4, hp5]), (by repeat (first | assumption | exact okR_of (by assumption) | refine okR_lI (by first | omega | (have := isM_lt (by assumption); omega) | (have := isH_lt (by assumption); omega)) ?_ | refine okR_lL (by first | omega | (have := isM_lt (by assumption); omega) | (have := isH_lt (by assumption); omega)) ?_))⟩)
            · refine z_tabIn (off := 49) (tgt := 107) zh dX8_tell_58 (by decide) (by decide) (by decide) rfl ?_
              refine z_aloadR zh dX8_tell_107 rfl ?_
              refine z_getf zh fl_RollingNets_85 dX8_tell_109 (ck_M (isM_of isH_1 hjy)) rfl rfl ?_
              refine z_iloadn zh dX8_tell_112 rfl ?_
              refine z_iload zh dX8_tell_113 rfl ?_
              refine z_iastN zh (ck_mi 3 (by decide) (isM_of isH_1 hjy)) dX8_tell_115 (by omega) ?_
              refine z_iconst zh dX8_tell_116 ki_1 ?_
              exact z_zret zh dX8_tell_117 (Or.inr rfl) (⟨_, rfl, (by first | rfl | simp (decide := true) only [sp_tell, sel_t, sel_f, selL_t, selL_f, bi_t, bi_f, sel_same, selL_same, eq_self, hp1, hb2, hp3, hp4, hp5]), (by repeat (first | assumption | exact okR_of (by assumption) | refine okR_lI (by first | omega | (have := isM_lt (by assumption); omega) | (have := isH_lt (by assumption); omega)) ?_ | refine okR_lL (by first | omega | (have := isM_lt (by assumption); omega) | (have := isH_lt (by assumption); omega)) ?_))⟩)
          · have hp5r := mt (InN_toInt (by omega)).mpr hp5
            have hp5n0 := InN_no hp5 (j := 0) (by omega)
            have hp5n1 := InN_no hp5 (j := 1) (by omega)
            have hp5n2 := InN_no hp5 (j := 2) (by omega)
            refine z_tabOut (tgt := 118) zh dX8_tell_58 (by omega) rfl ?_
            refine z_iconst zh dX8_tell_118 ki_0 ?_
            exact z_zret zh dX8_tell_119 (Or.inl rfl) (⟨_, rfl, (by first | rfl | simp (decide := true) only [sp_tell, sel_t, sel_f, selL_t, selL_f, bi_t, bi_f, sel_same, selL_same, eq_self, hp1, hb2, hp3, hp4, hp5, hp5n0, hp5n1, hp5n2]), (by repeat (first | assumption | exact okR_of (by assumption) | refine okR_lI (by first | omega | (have := isM_lt (by assumption); omega) | (have := isH_lt (by assumption); omega)) ?_ | refine okR_lL (by first | omega | (have := isM_lt (by assumption); omega) | (have := isH_lt (by assumption); omega)) ?_))⟩)
        · refine z_iconst zh dX8_tell_44 ki_0 ?_
          exact z_zret zh dX8_tell_45 (Or.inl rfl) (⟨_, rfl, (by first | rfl | simp (decide := true) only [sp_tell, sel_t, sel_f, selL_t, selL_f, bi_t, bi_f, sel_same, selL_same, eq_self, hp1, hb2, hp3, hp4]), (by repeat (first | assumption | exact okR_of (by assumption) | refine okR_lI (by first | omega | (have := isM_lt (by assumption); omega) | (have := isH_lt (by assumption); omega)) ?_ | refine okR_lL (by first | omega | (have := isM_lt (by assumption); omega) | (have := isH_lt (by assumption); omega)) ?_))⟩)
    · refine z_aloadnR zh dX8_tell_18 rfl ?_
      refine z_iloadn zh dX8_tell_19 rfl ?_
      refine z_iload zh dX8_tell_20 rfl ?_
      refine z_callVI zh mv_RollingNets_64 dX8_tell_22 ck_X rfl (c_tellRank g (by omega) hG) ⟨Nat.le_of_ble_eq_true rfl, Nat.le_of_ble_eq_true rfl⟩ rfl rfl (Nat.le_of_ble_eq_true rfl) ?_
      rintro _ iv lv ⟨rfl, hR⟩
      exact z_zret zh dX8_tell_25 (bi_01 _) (⟨_, rfl, (by first | rfl | simp (decide := true) only [sp_tell, sel_t, sel_f, selL_t, selL_f, bi_t, bi_f, sel_same, selL_same, eq_self, hp1, hb2]), (by repeat (first | assumption | exact okR_of (by assumption) | refine okR_lI (by first | omega | (have := isM_lt (by assumption); omega) | (have := isH_lt (by assumption); omega)) ?_ | refine okR_lL (by first | omega | (have := isM_lt (by assumption); omega) | (have := isH_lt (by assumption); omega)) ?_))⟩)
  · refine z_iconst zh dX8_tell_11 ki_0 ?_
    exact z_zret zh dX8_tell_12 (Or.inl rfl) (⟨_, rfl, (by first | rfl | simp (decide := true) only [sp_tell, sel_t, sel_f, selL_t, selL_f, bi_t, bi_f, sel_same, selL_same, eq_self, hp1]), (by repeat (first | assumption | exact okR_of (by assumption) | refine okR_lI (by first | omega | (have := isM_lt (by assumption); omega) | (have := isH_lt (by assumption); omega)) ?_ | refine okR_lL (by first | omega | (have := isM_lt (by assumption); omega) | (have := isH_lt (by assumption); omega)) ?_))⟩)
set_option maxRecDepth 20000 in
theorem c_X_suspend (g : GE) {x z : Int32} {iv : Iv} {lv : Lv} {dd : Nat → Nat} {dm : Nat}  (hG : Ok1 dd dm iv lv) : ConI g yX8_suspend cX8_suspend 3 (some .boolean) 2 [rf g 0, .int x, .int z] iv lv (fun r iv' lv' => r = bi (InN 6 x) ∧ OkR (fun _ => 0) dm iv' lv') := by
  refine con_intro (own := "RollingNets") (by decide +kernel) rfl (Nat.le_of_ble_eq_true rfl) (L0 := [some (rf g 0), some (.int x), some (.int z)]) rfl (fun Z zh => ?_)
  refine z_aloadnR zh dX8_suspend_0 rfl ?_
  refine z_getf zh fl_RollingNets_12 dX8_suspend_1 ck_X rfl rfl ?_
  refine z_iloadn zh dX8_suspend_4 rfl ?_
  refine z_callVIp zh mv_RollingNets_60 dX8_suspend_5 (ck_H isH_1) rfl (c_hasMember g isH_1 hG) ⟨Nat.le_of_ble_eq_true rfl, Nat.le_of_ble_eq_true rfl⟩ rfl rfl (Nat.le_of_ble_eq_true rfl) ?_
  refine z_if_ne_B (tgt := 13) zh dX8_suspend_8 rfl (fun hp1 => ?_) (fun hp1 => ?_)
  · obtain ⟨jx, hjx, rfl⟩ := id hp1
    refine z_aloadnR zh dX8_suspend_13 rfl ?_
    refine z_getf zh fl_RollingNets_12 dX8_suspend_14 ck_X rfl rfl ?_
    refine z_getf zh fl_RollingNets_115 dX8_suspend_17 (ck_H isH_1) rfl rfl ?_
    refine z_iloadn zh dX8_suspend_20 rfl ?_
    refine z_iloadn zh dX8_suspend_21 rfl ?_
    refine z_zastN zh (ck_susp isH_1) dX8_suspend_22 (by omega) ?_
    refine z_iconst zh dX8_suspend_23 ki_1 ?_
    exact z_zret zh dX8_suspend_24 (Or.inr rfl) (⟨_, rfl, (by first | rfl | simp (decide := true) only [sel_t, sel_f, selL_t, selL_f, bi_t, bi_f, sel_same, selL_same, eq_self, hp1]), (by repeat (first | assumption | exact okR_of (by assumption) | refine okR_lI (by first | omega | (have := isM_lt (by assumption); omega) | (have := isH_lt (by assumption); omega)) ?_ | refine okR_lL (by first | omega | (have := isM_lt (by assumption); omega) | (have := isH_lt (by assumption); omega)) ?_))⟩)
  · refine z_iconst zh dX8_suspend_11 ki_0 ?_
    exact z_zret zh dX8_suspend_12 (Or.inl rfl) (⟨_, rfl, (by first | rfl | simp (decide := true) only [sel_t, sel_f, selL_t, selL_f, bi_t, bi_f, sel_same, selL_same, eq_self, hp1]), (by repeat (first | assumption | exact okR_of (by assumption) | refine okR_lI (by first | omega | (have := isM_lt (by assumption); omega) | (have := isH_lt (by assumption); omega)) ?_ | refine okR_lL (by first | omega | (have := isM_lt (by assumption); omega) | (have := isH_lt (by assumption); omega)) ?_))⟩)
set_option maxRecDepth 20000 in
theorem c_set0 (g : GE) {v : Int32} {iv : Iv} {lv : Lv} {dd : Nat → Nat} {dm : Nat}  (hG : Ok1 dd dm iv lv) : ConI g yX8_set cX8_set 3 (some .boolean) 2 [rf g 0, .int (nI 0), .int v] iv lv (fun r iv' lv' => r = bi (Rg (nI 2) (nI 12) v) ∧ OkR (fun _ => 0) dm iv' lv') := by
  refine con_intro (own := "RollingNets") (by decide +kernel) rfl (Nat.le_of_ble_eq_true rfl) (L0 := [some (rf g 0), some (.int (nI 0)), some (.int v)]) rfl (fun Z zh => ?_)
  refine z_iloadn zh dX8_set_0 rfl ?_
  refine z_if_lt_N (tgt := 29) zh (by decide) dX8_set_1 rfl ?_
  refine z_iloadn zh dX8_set_4 rfl ?_
  refine z_gets (i := 0) zh dX8_set_5 (by decide) gs_RollingNets_33 ?_
  refine z_tlen zh dX8_set_8 (by decide) ?_
  refine z_icmp_ge_N (tgt := 29) zh (by decide) (by decide) dX8_set_9 rfl (fun q => absurd q (by decide)) (fun _ => ?_)
  refine z_iloadn zh dX8_set_12 rfl ?_
  refine z_gets (i := 1) zh dX8_set_13 (by decide) gs_RollingNets_37 ?_
  refine z_iloadn zh dX8_set_16 rfl ?_
  refine z_taldE (x := nI 2) zh dX8_set_17 (by decide) (by decide) (by decide) ?_
  refine z_gets (i := 2) zh dX8_set_18 (by decide) gs_RollingNets_40 ?_
  refine z_iloadn zh dX8_set_21 rfl ?_
  refine z_taldE (x := nI 12) zh dX8_set_22 (by decide) (by decide) (by decide) ?_
  refine z_callSIp zh ms_RollingNets_43 dX8_set_23 (c_within g) ⟨Nat.le_of_ble_eq_true rfl, Nat.le_of_ble_eq_true rfl⟩ rfl rfl (Nat.le_of_ble_eq_true rfl) ?_
  refine z_if_ne_B (tgt := 31) zh dX8_set_26 rfl (fun hp1 => ?_) (fun hp1 => ?_)
  · refine z_iloadn zh dX8_set_31 rfl ?_
    refine z_if_ne_N (tgt := 50) zh (by decide) dX8_set_32 rfl (fun q => absurd q (by decide)) (fun _ => ?_)
    refine z_aloadnR zh dX8_set_35 rfl ?_
    refine z_getf zh fl_RollingNets_12 dX8_set_36 ck_X rfl rfl ?_
    refine z_getf zh fl_RollingNets_47 dX8_set_39 (ck_H isH_1) rfl rfl ?_
    refine z_callVIp zh mv_RollingNets_51 dX8_set_42 (ck_T (isT_d isH_1)) rfl (c_size g (isT_d isH_1) (a1_cd hG isH_1)) ⟨Nat.le_of_ble_eq_true rfl, Nat.le_of_ble_eq_true rfl⟩ rfl rfl (Nat.le_of_ble_eq_true rfl) ?_
    refine z_if_le_N (tgt := 50) zh (by decide) dX8_set_45 rfl (fun _ => ?_) (fun q => absurd q (by decide))
    refine z_aloadnR zh dX8_set_50 rfl ?_
    refine z_getf zh fl_RollingNets_12 dX8_set_51 ck_X rfl rfl ?_
    refine z_getf zh fl_RollingNets_57 dX8_set_54 (ck_H isH_1) rfl rfl ?_
    refine z_iloadn zh dX8_set_57 rfl ?_
    refine z_iloadn zh dX8_set_58 rfl ?_
    refine z_iastN zh (ck_told isH_1) dX8_set_59 (by decide) ?_
    refine z_iconst zh dX8_set_60 ki_1 ?_
    exact z_zret zh dX8_set_61 (Or.inr rfl) (⟨_, rfl, (by first | rfl | simp (decide := true) only [sel_t, sel_f, selL_t, selL_f, bi_t, bi_f, sel_same, selL_same, eq_self, hp1]), (by repeat (first | assumption | exact okR_of (by assumption) | refine okR_lI (by first | omega | (have := isM_lt (by assumption); omega) | (have := isH_lt (by assumption); omega)) ?_ | refine okR_lL (by first | omega | (have := isM_lt (by assumption); omega) | (have := isH_lt (by assumption); omega)) ?_))⟩)
  · refine z_iconst zh dX8_set_29 ki_0 ?_
    exact z_zret zh dX8_set_30 (Or.inl rfl) (⟨_, rfl, (by first | rfl | simp (decide := true) only [sel_t, sel_f, selL_t, selL_f, bi_t, bi_f, sel_same, selL_same, eq_self, hp1]), (by repeat (first | assumption | exact okR_of (by assumption) | refine okR_lI (by first | omega | (have := isM_lt (by assumption); omega) | (have := isH_lt (by assumption); omega)) ?_ | refine okR_lL (by first | omega | (have := isM_lt (by assumption); omega) | (have := isH_lt (by assumption); omega)) ?_))⟩)
set_option maxRecDepth 20000 in
theorem c_set1 (g : GE) {v : Int32} {iv : Iv} {lv : Lv} {dd : Nat → Nat} {dm : Nat}  (hG : Ok1 dd dm iv lv) : ConI g yX8_set cX8_set 3 (some .boolean) 2 [rf g 0, .int (nI 1), .int v] iv lv (fun r iv' lv' => r = bi (Rg (nI 0) (nI 3) v) ∧ OkR (fun _ => 0) dm iv' lv') := by
  refine con_intro (own := "RollingNets") (by decide +kernel) rfl (Nat.le_of_ble_eq_true rfl) (L0 := [some (rf g 0), some (.int (nI 1)), some (.int v)]) rfl (fun Z zh => ?_)
  refine z_iloadn zh dX8_set_0 rfl ?_
  refine z_if_lt_N (tgt := 29) zh (by decide) dX8_set_1 rfl ?_
  refine z_iloadn zh dX8_set_4 rfl ?_
  refine z_gets (i := 0) zh dX8_set_5 (by decide) gs_RollingNets_33 ?_
  refine z_tlen zh dX8_set_8 (by decide) ?_
  refine z_icmp_ge_N (tgt := 29) zh (by decide) (by decide) dX8_set_9 rfl (fun q => absurd q (by decide)) (fun _ => ?_)
  refine z_iloadn zh dX8_set_12 rfl ?_
  refine z_gets (i := 1) zh dX8_set_13 (by decide) gs_RollingNets_37 ?_
  refine z_iloadn zh dX8_set_16 rfl ?_
  refine z_taldE (x := nI 0) zh dX8_set_17 (by decide) (by decide) (by decide) ?_
  refine z_gets (i := 2) zh dX8_set_18 (by decide) gs_RollingNets_40 ?_
  refine z_iloadn zh dX8_set_21 rfl ?_
  refine z_taldE (x := nI 3) zh dX8_set_22 (by decide) (by decide) (by decide) ?_
  refine z_callSIp zh ms_RollingNets_43 dX8_set_23 (c_within g) ⟨Nat.le_of_ble_eq_true rfl, Nat.le_of_ble_eq_true rfl⟩ rfl rfl (Nat.le_of_ble_eq_true rfl) ?_
  refine z_if_ne_B (tgt := 31) zh dX8_set_26 rfl (fun hp1 => ?_) (fun hp1 => ?_)
  · refine z_iloadn zh dX8_set_31 rfl ?_
    refine z_if_ne_N (tgt := 50) zh (by decide) dX8_set_32 rfl (fun _ => ?_) (fun q => absurd q (by decide))
    refine z_aloadnR zh dX8_set_50 rfl ?_
    refine z_getf zh fl_RollingNets_12 dX8_set_51 ck_X rfl rfl ?_
    refine z_getf zh fl_RollingNets_57 dX8_set_54 (ck_H isH_1) rfl rfl ?_
    refine z_iloadn zh dX8_set_57 rfl ?_
    refine z_iloadn zh dX8_set_58 rfl ?_
    refine z_iastN zh (ck_told isH_1) dX8_set_59 (by decide) ?_
    refine z_iconst zh dX8_set_60 ki_1 ?_
    exact z_zret zh dX8_set_61 (Or.inr rfl) (⟨_, rfl, (by first | rfl | simp (decide := true) only [sel_t, sel_f, selL_t, selL_f, bi_t, bi_f, sel_same, selL_same, eq_self, hp1]), (by repeat (first | assumption | exact okR_of (by assumption) | refine okR_lI (by first | omega | (have := isM_lt (by assumption); omega) | (have := isH_lt (by assumption); omega)) ?_ | refine okR_lL (by first | omega | (have := isM_lt (by assumption); omega) | (have := isH_lt (by assumption); omega)) ?_))⟩)
  · refine z_iconst zh dX8_set_29 ki_0 ?_
    exact z_zret zh dX8_set_30 (Or.inl rfl) (⟨_, rfl, (by first | rfl | simp (decide := true) only [sel_t, sel_f, selL_t, selL_f, bi_t, bi_f, sel_same, selL_same, eq_self, hp1]), (by repeat (first | assumption | exact okR_of (by assumption) | refine okR_lI (by first | omega | (have := isM_lt (by assumption); omega) | (have := isH_lt (by assumption); omega)) ?_ | refine okR_lL (by first | omega | (have := isM_lt (by assumption); omega) | (have := isH_lt (by assumption); omega)) ?_))⟩)
set_option maxRecDepth 20000 in
theorem c_set2 (g : GE) {v : Int32} {iv : Iv} {lv : Lv} {dd : Nat → Nat} {dm : Nat}  (hG : Ok1 dd dm iv lv) : ConI g yX8_set cX8_set 3 (some .boolean) 2 [rf g 0, .int (nI 2), .int v] iv lv (fun r iv' lv' => r = bi (Rg (nI 1) (nI 9) v) ∧ OkR (fun _ => 0) dm iv' lv') := by
  refine con_intro (own := "RollingNets") (by decide +kernel) rfl (Nat.le_of_ble_eq_true rfl) (L0 := [some (rf g 0), some (.int (nI 2)), some (.int v)]) rfl (fun Z zh => ?_)
  refine z_iloadn zh dX8_set_0 rfl ?_
  refine z_if_lt_N (tgt := 29) zh (by decide) dX8_set_1 rfl ?_
  refine z_iloadn zh dX8_set_4 rfl ?_
  refine z_gets (i := 0) zh dX8_set_5 (by decide) gs_RollingNets_33 ?_
  refine z_tlen zh dX8_set_8 (by decide) ?_
  refine z_icmp_ge_N (tgt := 29) zh (by decide) (by decide) dX8_set_9 rfl (fun q => absurd q (by decide)) (fun _ => ?_)
  refine z_iloadn zh dX8_set_12 rfl ?_
  refine z_gets (i := 1) zh dX8_set_13 (by decide) gs_RollingNets_37 ?_
  refine z_iloadn zh dX8_set_16 rfl ?_
  refine z_taldE (x := nI 1) zh dX8_set_17 (by decide) (by decide) (by decide) ?_
  refine z_gets (i := 2) zh dX8_set_18 (by decide) gs_RollingNets_40 ?_
  refine z_iloadn zh dX8_set_21 rfl ?_
  refine z_taldE (x := nI 9) zh dX8_set_22 (by decide) (by decide) (by decide) ?_
  refine z_callSIp zh ms_RollingNets_43 dX8_set_23 (c_within g) ⟨Nat.le_of_ble_eq_true rfl, Nat.le_of_ble_eq_true rfl⟩ rfl rfl (Nat.le_of_ble_eq_true rfl) ?_
  refine z_if_ne_B (tgt := 31) zh dX8_set_26 rfl (fun hp1 => ?_) (fun hp1 => ?_)
  · refine z_iloadn zh dX8_set_31 rfl ?_
    refine z_if_ne_N (tgt := 50) zh (by decide) dX8_set_32 rfl (fun _ => ?_) (fun q => absurd q (by decide))
    refine z_aloadnR zh dX8_set_50 rfl ?_
    refine z_getf zh fl_RollingNets_12 dX8_set_51 ck_X rfl rfl ?_
    refine z_getf zh fl_RollingNets_57 dX8_set_54 (ck_H isH_1) rfl rfl ?_
    refine z_iloadn zh dX8_set_57 rfl ?_
    refine z_iloadn zh dX8_set_58 rfl ?_
    refine z_iastN zh (ck_told isH_1) dX8_set_59 (by decide) ?_
    refine z_iconst zh dX8_set_60 ki_1 ?_
    exact z_zret zh dX8_set_61 (Or.inr rfl) (⟨_, rfl, (by first | rfl | simp (decide := true) only [sel_t, sel_f, selL_t, selL_f, bi_t, bi_f, sel_same, selL_same, eq_self, hp1]), (by repeat (first | assumption | exact okR_of (by assumption) | refine okR_lI (by first | omega | (have := isM_lt (by assumption); omega) | (have := isH_lt (by assumption); omega)) ?_ | refine okR_lL (by first | omega | (have := isM_lt (by assumption); omega) | (have := isH_lt (by assumption); omega)) ?_))⟩)
  · refine z_iconst zh dX8_set_29 ki_0 ?_
    exact z_zret zh dX8_set_30 (Or.inl rfl) (⟨_, rfl, (by first | rfl | simp (decide := true) only [sel_t, sel_f, selL_t, selL_f, bi_t, bi_f, sel_same, selL_same, eq_self, hp1]), (by repeat (first | assumption | exact okR_of (by assumption) | refine okR_lI (by first | omega | (have := isM_lt (by assumption); omega) | (have := isH_lt (by assumption); omega)) ?_ | refine okR_lL (by first | omega | (have := isM_lt (by assumption); omega) | (have := isH_lt (by assumption); omega)) ?_))⟩)
set_option maxRecDepth 20000 in
theorem c_set3 (g : GE) {v : Int32} {iv : Iv} {lv : Lv} {dd : Nat → Nat} {dm : Nat}  (hG : Ok1 dd dm iv lv) : ConI g yX8_set cX8_set 3 (some .boolean) 2 [rf g 0, .int (nI 3), .int v] iv lv (fun r iv' lv' => r = bi (Rg (nI 1) (nI 9) v) ∧ OkR (fun _ => 0) dm iv' lv') := by
  refine con_intro (own := "RollingNets") (by decide +kernel) rfl (Nat.le_of_ble_eq_true rfl) (L0 := [some (rf g 0), some (.int (nI 3)), some (.int v)]) rfl (fun Z zh => ?_)
  refine z_iloadn zh dX8_set_0 rfl ?_
  refine z_if_lt_N (tgt := 29) zh (by decide) dX8_set_1 rfl ?_
  refine z_iloadn zh dX8_set_4 rfl ?_
  refine z_gets (i := 0) zh dX8_set_5 (by decide) gs_RollingNets_33 ?_
  refine z_tlen zh dX8_set_8 (by decide) ?_
  refine z_icmp_ge_N (tgt := 29) zh (by decide) (by decide) dX8_set_9 rfl (fun q => absurd q (by decide)) (fun _ => ?_)
  refine z_iloadn zh dX8_set_12 rfl ?_
  refine z_gets (i := 1) zh dX8_set_13 (by decide) gs_RollingNets_37 ?_
  refine z_iloadn zh dX8_set_16 rfl ?_
  refine z_taldE (x := nI 1) zh dX8_set_17 (by decide) (by decide) (by decide) ?_
  refine z_gets (i := 2) zh dX8_set_18 (by decide) gs_RollingNets_40 ?_
  refine z_iloadn zh dX8_set_21 rfl ?_
  refine z_taldE (x := nI 9) zh dX8_set_22 (by decide) (by decide) (by decide) ?_
  refine z_callSIp zh ms_RollingNets_43 dX8_set_23 (c_within g) ⟨Nat.le_of_ble_eq_true rfl, Nat.le_of_ble_eq_true rfl⟩ rfl rfl (Nat.le_of_ble_eq_true rfl) ?_
  refine z_if_ne_B (tgt := 31) zh dX8_set_26 rfl (fun hp1 => ?_) (fun hp1 => ?_)
  · refine z_iloadn zh dX8_set_31 rfl ?_
    refine z_if_ne_N (tgt := 50) zh (by decide) dX8_set_32 rfl (fun _ => ?_) (fun q => absurd q (by decide))
    refine z_aloadnR zh dX8_set_50 rfl ?_
    refine z_getf zh fl_RollingNets_12 dX8_set_51 ck_X rfl rfl ?_
    refine z_getf zh fl_RollingNets_57 dX8_set_54 (ck_H isH_1) rfl rfl ?_
    refine z_iloadn zh dX8_set_57 rfl ?_
    refine z_iloadn zh dX8_set_58 rfl ?_
    refine z_iastN zh (ck_told isH_1) dX8_set_59 (by decide) ?_
    refine z_iconst zh dX8_set_60 ki_1 ?_
    exact z_zret zh dX8_set_61 (Or.inr rfl) (⟨_, rfl, (by first | rfl | simp (decide := true) only [sel_t, sel_f, selL_t, selL_f, bi_t, bi_f, sel_same, selL_same, eq_self, hp1]), (by repeat (first | assumption | exact okR_of (by assumption) | refine okR_lI (by first | omega | (have := isM_lt (by assumption); omega) | (have := isH_lt (by assumption); omega)) ?_ | refine okR_lL (by first | omega | (have := isM_lt (by assumption); omega) | (have := isH_lt (by assumption); omega)) ?_))⟩)
  · refine z_iconst zh dX8_set_29 ki_0 ?_
    exact z_zret zh dX8_set_30 (Or.inl rfl) (⟨_, rfl, (by first | rfl | simp (decide := true) only [sel_t, sel_f, selL_t, selL_f, bi_t, bi_f, sel_same, selL_same, eq_self, hp1]), (by repeat (first | assumption | exact okR_of (by assumption) | refine okR_lI (by first | omega | (have := isM_lt (by assumption); omega) | (have := isH_lt (by assumption); omega)) ?_ | refine okR_lL (by first | omega | (have := isM_lt (by assumption); omega) | (have := isH_lt (by assumption); omega)) ?_))⟩)
set_option maxRecDepth 20000 in
theorem c_set4 (g : GE) {v : Int32} {iv : Iv} {lv : Lv} {dd : Nat → Nat} {dm : Nat}  (hG : Ok1 dd dm iv lv) : ConI g yX8_set cX8_set 3 (some .boolean) 2 [rf g 0, .int (nI 4), .int v] iv lv (fun r iv' lv' => r = bi (Rg (nI 0) (nI 5) v) ∧ OkR (fun _ => 0) dm iv' lv') := by
  refine con_intro (own := "RollingNets") (by decide +kernel) rfl (Nat.le_of_ble_eq_true rfl) (L0 := [some (rf g 0), some (.int (nI 4)), some (.int v)]) rfl (fun Z zh => ?_)
  refine z_iloadn zh dX8_set_0 rfl ?_
  refine z_if_lt_N (tgt := 29) zh (by decide) dX8_set_1 rfl ?_
  refine z_iloadn zh dX8_set_4 rfl ?_
  refine z_gets (i := 0) zh dX8_set_5 (by decide) gs_RollingNets_33 ?_
  refine z_tlen zh dX8_set_8 (by decide) ?_
  refine z_icmp_ge_N (tgt := 29) zh (by decide) (by decide) dX8_set_9 rfl (fun q => absurd q (by decide)) (fun _ => ?_)
  refine z_iloadn zh dX8_set_12 rfl ?_
  refine z_gets (i := 1) zh dX8_set_13 (by decide) gs_RollingNets_37 ?_
  refine z_iloadn zh dX8_set_16 rfl ?_
  refine z_taldE (x := nI 0) zh dX8_set_17 (by decide) (by decide) (by decide) ?_
  refine z_gets (i := 2) zh dX8_set_18 (by decide) gs_RollingNets_40 ?_
  refine z_iloadn zh dX8_set_21 rfl ?_
  refine z_taldE (x := nI 5) zh dX8_set_22 (by decide) (by decide) (by decide) ?_
  refine z_callSIp zh ms_RollingNets_43 dX8_set_23 (c_within g) ⟨Nat.le_of_ble_eq_true rfl, Nat.le_of_ble_eq_true rfl⟩ rfl rfl (Nat.le_of_ble_eq_true rfl) ?_
  refine z_if_ne_B (tgt := 31) zh dX8_set_26 rfl (fun hp1 => ?_) (fun hp1 => ?_)
  · refine z_iloadn zh dX8_set_31 rfl ?_
    refine z_if_ne_N (tgt := 50) zh (by decide) dX8_set_32 rfl (fun _ => ?_) (fun q => absurd q (by decide))
    refine z_aloadnR zh dX8_set_50 rfl ?_
    refine z_getf zh fl_RollingNets_12 dX8_set_51 ck_X rfl rfl ?_
    refine z_getf zh fl_RollingNets_57 dX8_set_54 (ck_H isH_1) rfl rfl ?_
    refine z_iloadn zh dX8_set_57 rfl ?_
    refine z_iloadn zh dX8_set_58 rfl ?_
    refine z_iastN zh (ck_told isH_1) dX8_set_59 (by decide) ?_
    refine z_iconst zh dX8_set_60 ki_1 ?_
    exact z_zret zh dX8_set_61 (Or.inr rfl) (⟨_, rfl, (by first | rfl | simp (decide := true) only [sel_t, sel_f, selL_t, selL_f, bi_t, bi_f, sel_same, selL_same, eq_self, hp1]), (by repeat (first | assumption | exact okR_of (by assumption) | refine okR_lI (by first | omega | (have := isM_lt (by assumption); omega) | (have := isH_lt (by assumption); omega)) ?_ | refine okR_lL (by first | omega | (have := isM_lt (by assumption); omega) | (have := isH_lt (by assumption); omega)) ?_))⟩)
  · refine z_iconst zh dX8_set_29 ki_0 ?_
    exact z_zret zh dX8_set_30 (Or.inl rfl) (⟨_, rfl, (by first | rfl | simp (decide := true) only [sel_t, sel_f, selL_t, selL_f, bi_t, bi_f, sel_same, selL_same, eq_self, hp1]), (by repeat (first | assumption | exact okR_of (by assumption) | refine okR_lI (by first | omega | (have := isM_lt (by assumption); omega) | (have := isH_lt (by assumption); omega)) ?_ | refine okR_lL (by first | omega | (have := isM_lt (by assumption); omega) | (have := isH_lt (by assumption); omega)) ?_))⟩)
set_option maxRecDepth 20000 in
theorem c_set5 (g : GE) {v : Int32} {iv : Iv} {lv : Lv} {dd : Nat → Nat} {dm : Nat}  (hG : Ok1 dd dm iv lv) : ConI g yX8_set cX8_set 3 (some .boolean) 2 [rf g 0, .int (nI 5), .int v] iv lv (fun r iv' lv' => r = bi (Rg (nI 0) (nI 100) v) ∧ OkR (fun _ => 0) dm iv' lv') := by
  refine con_intro (own := "RollingNets") (by decide +kernel) rfl (Nat.le_of_ble_eq_true rfl) (L0 := [some (rf g 0), some (.int (nI 5)), some (.int v)]) rfl (fun Z zh => ?_)
  refine z_iloadn zh dX8_set_0 rfl ?_
  refine z_if_lt_N (tgt := 29) zh (by decide) dX8_set_1 rfl ?_
  refine z_iloadn zh dX8_set_4 rfl ?_
  refine z_gets (i := 0) zh dX8_set_5 (by decide) gs_RollingNets_33 ?_
  refine z_tlen zh dX8_set_8 (by decide) ?_
  refine z_icmp_ge_N (tgt := 29) zh (by decide) (by decide) dX8_set_9 rfl (fun q => absurd q (by decide)) (fun _ => ?_)
  refine z_iloadn zh dX8_set_12 rfl ?_
  refine z_gets (i := 1) zh dX8_set_13 (by decide) gs_RollingNets_37 ?_
  refine z_iloadn zh dX8_set_16 rfl ?_
  refine z_taldE (x := nI 0) zh dX8_set_17 (by decide) (by decide) (by decide) ?_
  refine z_gets (i := 2) zh dX8_set_18 (by decide) gs_RollingNets_40 ?_
  refine z_iloadn zh dX8_set_21 rfl ?_
  refine z_taldE (x := nI 100) zh dX8_set_22 (by decide) (by decide) (by decide) ?_
  refine z_callSIp zh ms_RollingNets_43 dX8_set_23 (c_within g) ⟨Nat.le_of_ble_eq_true rfl, Nat.le_of_ble_eq_true rfl⟩ rfl rfl (Nat.le_of_ble_eq_true rfl) ?_
  refine z_if_ne_B (tgt := 31) zh dX8_set_26 rfl (fun hp1 => ?_) (fun hp1 => ?_)
  · refine z_iloadn zh dX8_set_31 rfl ?_
    refine z_if_ne_N (tgt := 50) zh (by decide) dX8_set_32 rfl (fun _ => ?_) (fun q => absurd q (by decide))
    refine z_aloadnR zh dX8_set_50 rfl ?_
    refine z_getf zh fl_RollingNets_12 dX8_set_51 ck_X rfl rfl ?_
    refine z_getf zh fl_RollingNets_57 dX8_set_54 (ck_H isH_1) rfl rfl ?_
    refine z_iloadn zh dX8_set_57 rfl ?_
    refine z_iloadn zh dX8_set_58 rfl ?_
    refine z_iastN zh (ck_told isH_1) dX8_set_59 (by decide) ?_
    refine z_iconst zh dX8_set_60 ki_1 ?_
    exact z_zret zh dX8_set_61 (Or.inr rfl) (⟨_, rfl, (by first | rfl | simp (decide := true) only [sel_t, sel_f, selL_t, selL_f, bi_t, bi_f, sel_same, selL_same, eq_self, hp1]), (by repeat (first | assumption | exact okR_of (by assumption) | refine okR_lI (by first | omega | (have := isM_lt (by assumption); omega) | (have := isH_lt (by assumption); omega)) ?_ | refine okR_lL (by first | omega | (have := isM_lt (by assumption); omega) | (have := isH_lt (by assumption); omega)) ?_))⟩)
  · refine z_iconst zh dX8_set_29 ki_0 ?_
    exact z_zret zh dX8_set_30 (Or.inl rfl) (⟨_, rfl, (by first | rfl | simp (decide := true) only [sel_t, sel_f, selL_t, selL_f, bi_t, bi_f, sel_same, selL_same, eq_self, hp1]), (by repeat (first | assumption | exact okR_of (by assumption) | refine okR_lI (by first | omega | (have := isM_lt (by assumption); omega) | (have := isH_lt (by assumption); omega)) ?_ | refine okR_lL (by first | omega | (have := isM_lt (by assumption); omega) | (have := isH_lt (by assumption); omega)) ?_))⟩)
set_option maxRecDepth 20000 in
theorem c_set6 (g : GE) {v : Int32} {iv : Iv} {lv : Lv} {dd : Nat → Nat} {dm : Nat}  (hG : Ok1 dd dm iv lv) : ConI g yX8_set cX8_set 3 (some .boolean) 2 [rf g 0, .int (nI 6), .int v] iv lv (fun r iv' lv' => r = bi (Rg (nI 0) (nI 100) v) ∧ OkR (fun _ => 0) dm iv' lv') := by
  refine con_intro (own := "RollingNets") (by decide +kernel) rfl (Nat.le_of_ble_eq_true rfl) (L0 := [some (rf g 0), some (.int (nI 6)), some (.int v)]) rfl (fun Z zh => ?_)
  refine z_iloadn zh dX8_set_0 rfl ?_
  refine z_if_lt_N (tgt := 29) zh (by decide) dX8_set_1 rfl ?_
  refine z_iloadn zh dX8_set_4 rfl ?_
  refine z_gets (i := 0) zh dX8_set_5 (by decide) gs_RollingNets_33 ?_
  refine z_tlen zh dX8_set_8 (by decide) ?_
  refine z_icmp_ge_N (tgt := 29) zh (by decide) (by decide) dX8_set_9 rfl (fun q => absurd q (by decide)) (fun _ => ?_)
  refine z_iloadn zh dX8_set_12 rfl ?_
  refine z_gets (i := 1) zh dX8_set_13 (by decide) gs_RollingNets_37 ?_
  refine z_iloadn zh dX8_set_16 rfl ?_
  refine z_taldE (x := nI 0) zh dX8_set_17 (by decide) (by decide) (by decide) ?_
  refine z_gets (i := 2) zh dX8_set_18 (by decide) gs_RollingNets_40 ?_
  refine z_iloadn zh dX8_set_21 rfl ?_
  refine z_taldE (x := nI 100) zh dX8_set_22 (by decide) (by decide) (by decide) ?_
  refine z_callSIp zh ms_RollingNets_43 dX8_set_23 (c_within g) ⟨Nat.le_of_ble_eq_true rfl, Nat.le_of_ble_eq_true rfl⟩ rfl rfl (Nat.le_of_ble_eq_true rfl) ?_
  refine z_if_ne_B (tgt := 31) zh dX8_set_26 rfl (fun hp1 => ?_) (fun hp1 => ?_)
  · refine z_iloadn zh dX8_set_31 rfl ?_
    refine z_if_ne_N (tgt := 50) zh (by decide) dX8_set_32 rfl (fun _ => ?_) (fun q => absurd q (by decide))
    refine z_aloadnR zh dX8_set_50 rfl ?_
    refine z_getf zh fl_RollingNets_12 dX8_set_51 ck_X rfl rfl ?_
    refine z_getf zh fl_RollingNets_57 dX8_set_54 (ck_H isH_1) rfl rfl ?_
    refine z_iloadn zh dX8_set_57 rfl ?_
    refine z_iloadn zh dX8_set_58 rfl ?_
    refine z_iastN zh (ck_told isH_1) dX8_set_59 (by decide) ?_
    refine z_iconst zh dX8_set_60 ki_1 ?_
    exact z_zret zh dX8_set_61 (Or.inr rfl) (⟨_, rfl, (by first | rfl | simp (decide := true) only [sel_t, sel_f, selL_t, selL_f, bi_t, bi_f, sel_same, selL_same, eq_self, hp1]), (by repeat (first | assumption | exact okR_of (by assumption) | refine okR_lI (by first | omega | (have := isM_lt (by assumption); omega) | (have := isH_lt (by assumption); omega)) ?_ | refine okR_lL (by first | omega | (have := isM_lt (by assumption); omega) | (have := isH_lt (by assumption); omega)) ?_))⟩)
  · refine z_iconst zh dX8_set_29 ki_0 ?_
    exact z_zret zh dX8_set_30 (Or.inl rfl) (⟨_, rfl, (by first | rfl | simp (decide := true) only [sel_t, sel_f, selL_t, selL_f, bi_t, bi_f, sel_same, selL_same, eq_self, hp1]), (by repeat (first | assumption | exact okR_of (by assumption) | refine okR_lI (by first | omega | (have := isM_lt (by assumption); omega) | (have := isH_lt (by assumption); omega)) ?_ | refine okR_lL (by first | omega | (have := isM_lt (by assumption); omega) | (have := isH_lt (by assumption); omega)) ?_))⟩)
set_option maxRecDepth 20000 in
theorem c_setno (g : GE) {x v : Int32} {iv : Iv} {lv : Lv} {dd : Nat → Nat} {dm : Nat} (hx : ¬ InN 7 x) (hG : Ok1 dd dm iv lv) : ConI g yX8_set cX8_set 3 (some .boolean) 2 [rf g 0, .int x, .int v] iv lv (fun r iv' lv' => r = nI 0 ∧ OkR (fun _ => 0) dm iv' lv') := by
  refine con_intro (own := "RollingNets") (by decide +kernel) rfl (Nat.le_of_ble_eq_true rfl) (L0 := [some (rf g 0), some (.int x), some (.int v)]) rfl (fun Z zh => ?_)
  refine z_iloadn zh dX8_set_0 rfl ?_
  refine z_if_lt (tgt := 29) zh dX8_set_1 rfl (fun hb1 => ?_) (fun hb1 => ?_)
  · refine z_iconst zh dX8_set_29 ki_0 ?_
    exact z_zret zh dX8_set_30 (Or.inl rfl) (⟨_, rfl, rfl, (by repeat (first | assumption | exact okR_of (by assumption) | refine okR_lI (by first | omega | (have := isM_lt (by assumption); omega) | (have := isH_lt (by assumption); omega)) ?_ | refine okR_lL (by first | omega | (have := isM_lt (by assumption); omega) | (have := isH_lt (by assumption); omega)) ?_))⟩)
  · refine z_iloadn zh dX8_set_4 rfl ?_
    refine z_gets (i := 0) zh dX8_set_5 (by decide) gs_RollingNets_33 ?_
    refine z_tlen zh dX8_set_8 (by decide) ?_
    refine z_icmp_ge (tgt := 29) zh dX8_set_9 rfl (fun _ => ?_) (fun q => absurd ((InN_lt (by omega)).mpr ⟨Int32.not_lt.mp hb1, Int32.not_le.mp q⟩) hx)
    refine z_iconst zh dX8_set_29 ki_0 ?_
    exact z_zret zh dX8_set_30 (Or.inl rfl) (⟨_, rfl, rfl, (by repeat (first | assumption | exact okR_of (by assumption) | refine okR_lI (by first | omega | (have := isM_lt (by assumption); omega) | (have := isH_lt (by assumption); omega)) ?_ | refine okR_lL (by first | omega | (have := isM_lt (by assumption); omega) | (have := isH_lt (by assumption); omega)) ?_))⟩)
set_option maxRecDepth 20000 in
theorem c_X_move (g : GE) {x y z n : Int32} {iv : Iv} {lv : Lv} {dd : Nat → Nat} {dm : Nat}  (hG : Ok1 dd dm iv lv) : ConI g yX8_move cX8_move 6 (some .boolean) 3 [rf g 0, .int x, .int y, .int z, .int n] iv lv (fun r iv' lv' => r = nI 0 ∧ OkR (fun _ => 0) dm iv' lv') := by
  refine con_intro (own := "RollingNets") (by decide +kernel) rfl (Nat.le_of_ble_eq_true rfl) (L0 := [some (rf g 0), some (.int x), some (.int y), some (.int z), some (.int n), none]) rfl (fun Z zh => ?_)
  refine z_aloadnR zh dX8_move_0 rfl ?_
  refine z_getf zh fl_RollingNets_12 dX8_move_1 ck_X rfl rfl ?_
  refine z_iloadn zh dX8_move_4 rfl ?_
  refine z_callVIp zh mv_RollingNets_60 dX8_move_5 (ck_H isH_1) rfl (c_hasMember g isH_1 hG) ⟨Nat.le_of_ble_eq_true rfl, Nat.le_of_ble_eq_true rfl⟩ rfl rfl (Nat.le_of_ble_eq_true rfl) ?_
  refine z_if_eq_B (tgt := 34) zh dX8_move_8 rfl (fun hp1 => ?_) (fun hp1 => ?_)
  · refine z_iconst zh dX8_move_34 ki_0 ?_
    exact z_zret zh dX8_move_35 (Or.inl rfl) (⟨_, rfl, rfl, (by repeat (first | assumption | exact okR_of (by assumption) | refine okR_lI (by first | omega | (have := isM_lt (by assumption); omega) | (have := isH_lt (by assumption); omega)) ?_ | refine okR_lL (by first | omega | (have := isM_lt (by assumption); omega) | (have := isH_lt (by assumption); omega)) ?_))⟩)
  · obtain ⟨jx, hjx, rfl⟩ := id hp1
    refine z_aloadnR zh dX8_move_11 rfl ?_
    refine z_getf zh fl_RollingNets_12 dX8_move_12 ck_X rfl rfl ?_
    refine z_iloadn zh dX8_move_15 rfl ?_
    refine z_callVIp zh mv_RollingNets_60 dX8_move_16 (ck_H isH_1) rfl (c_hasMember g isH_1 hG) ⟨Nat.le_of_ble_eq_true rfl, Nat.le_of_ble_eq_true rfl⟩ rfl rfl (Nat.le_of_ble_eq_true rfl) ?_
    refine z_if_eq_B (tgt := 34) zh dX8_move_19 rfl (fun hp2 => ?_) (fun hp2 => ?_)
    · refine z_iconst zh dX8_move_34 ki_0 ?_
      exact z_zret zh dX8_move_35 (Or.inl rfl) (⟨_, rfl, rfl, (by repeat (first | assumption | exact okR_of (by assumption) | refine okR_lI (by first | omega | (have := isM_lt (by assumption); omega) | (have := isH_lt (by assumption); omega)) ?_ | refine okR_lL (by first | omega | (have := isM_lt (by assumption); omega) | (have := isH_lt (by assumption); omega)) ?_))⟩)
    · obtain ⟨jy, hjy, rfl⟩ := id hp2
      refine z_iloadn zh dX8_move_22 rfl ?_
      refine z_iloadn zh dX8_move_23 rfl ?_
      refine z_icmp_eq_N (tgt := 34) zh (by omega) (by omega) dX8_move_24 rfl (fun hb3 => ?_) (fun hb3 => ?_)
      · have hb3N : nI jx = nI jy := by rw [hb3]
        refine z_iconst zh dX8_move_34 ki_0 ?_
        exact z_zret zh dX8_move_35 (Or.inl rfl) (⟨_, rfl, rfl, (by repeat (first | assumption | exact okR_of (by assumption) | refine okR_lI (by first | omega | (have := isM_lt (by assumption); omega) | (have := isH_lt (by assumption); omega)) ?_ | refine okR_lL (by first | omega | (have := isM_lt (by assumption); omega) | (have := isH_lt (by assumption); omega)) ?_))⟩)
      · have hb3N : ¬ nI jx = nI jy := fun e => hb3 ((nI_eq (by omega) (by omega)).mp e)
        refine z_iloadn zh dX8_move_27 rfl ?_
        refine z_callSIp zh ms_RollingNets_68 dX8_move_28 (c_isIssue g) ⟨Nat.le_of_ble_eq_true rfl, Nat.le_of_ble_eq_true rfl⟩ rfl rfl (Nat.le_of_ble_eq_true rfl) ?_
        refine z_if_ne_B (tgt := 36) zh dX8_move_31 rfl (fun hp4 => ?_) (fun hp4 => ?_)
        · obtain ⟨jz, hjz, rfl⟩ := id hp4
          refine z_iload zh dX8_move_36 rfl ?_
          refine z_iconst zh dX8_move_38 ki_1 ?_
          refine z_icmp_lt (tgt := 58) zh dX8_move_39 rfl (fun hb5 => ?_) (fun hb5 => ?_)
          · refine z_iconst zh dX8_move_58 ki_0 ?_
            exact z_zret zh dX8_move_59 (Or.inl rfl) (⟨_, rfl, rfl, (by repeat (first | assumption | exact okR_of (by assumption) | refine okR_lI (by first | omega | (have := isM_lt (by assumption); omega) | (have := isH_lt (by assumption); omega)) ?_ | refine okR_lL (by first | omega | (have := isM_lt (by assumption); omega) | (have := isH_lt (by assumption); omega)) ?_))⟩)
          · refine z_iload zh dX8_move_42 rfl ?_
            refine z_i2l zh dX8_move_44 ?_
            refine z_aloadnR zh dX8_move_45 rfl ?_
            refine z_getf zh fl_RollingNets_12 dX8_move_46 ck_X rfl rfl ?_
            refine z_iloadn zh dX8_move_49 rfl ?_
            refine z_iloadn zh dX8_move_50 rfl ?_
            refine z_callVLp zh mv_RollingNets_102 dX8_move_51 (ck_H isH_1) rfl (c_freeOf g isH_1 hjz (by omega) hG) ⟨Nat.le_of_ble_eq_true rfl, Nat.le_of_ble_eq_true rfl⟩ rfl rfl (Nat.le_of_ble_eq_true rfl) ?_
            refine z_lcmp zh dX8_move_54 ?_
            refine z_if_le (tgt := 60) zh dX8_move_55 rfl (fun q => absurd q (lgc_pos hb5)) (fun _ => ?_)
            refine z_iconst zh dX8_move_58 ki_0 ?_
            exact z_zret zh dX8_move_59 (Or.inl rfl) (⟨_, rfl, rfl, (by repeat (first | assumption | exact okR_of (by assumption) | refine okR_lI (by first | omega | (have := isM_lt (by assumption); omega) | (have := isH_lt (by assumption); omega)) ?_ | refine okR_lL (by first | omega | (have := isM_lt (by assumption); omega) | (have := isH_lt (by assumption); omega)) ?_))⟩)
        · refine z_iconst zh dX8_move_34 ki_0 ?_
          exact z_zret zh dX8_move_35 (Or.inl rfl) (⟨_, rfl, rfl, (by repeat (first | assumption | exact okR_of (by assumption) | refine okR_lI (by first | omega | (have := isM_lt (by assumption); omega) | (have := isH_lt (by assumption); omega)) ?_ | refine okR_lL (by first | omega | (have := isM_lt (by assumption); omega) | (have := isH_lt (by assumption); omega)) ?_))⟩)
set_option maxRecDepth 20000 in
theorem c_greatest (g : GE) {m j : Nat} {iv : Iv} {lv : Lv} {dd : Nat → Nat} {dm : Nat} (hm : isM m) (hj : j < 12) (hG : Ok1 dd dm iv lv) : ConLp g yX3_greatest cX3_greatest 5 (some .long) 2 [rf g m, .int (nI j)] iv lv ((0 : Int64)) := by
  refine con_intro (own := "RollingNets$Market") (by decide +kernel) rfl (Nat.le_of_ble_eq_true rfl) (L0 := [some (rf g m), some (.int (nI j)), none, none, none]) rfl (fun Z zh => ?_)
  refine z_aloadnR zh dX3_greatest_0 rfl ?_
  refine z_getf zh fl_Market_9 dX3_greatest_1 (ck_M hm) rfl rfl ?_
  refine z_iloadn zh dX3_greatest_4 rfl ?_
  refine z_laldE (x := (0 : Int64)) zh (ck_stock hm) dX3_greatest_5 hj (a1_stock hG hm) ?_
  refine z_aloadnR zh dX3_greatest_6 rfl ?_
  refine z_getf zh fl_Market_15 dX3_greatest_7 (ck_M hm) rfl rfl ?_
  refine z_iloadn zh dX3_greatest_10 rfl ?_
  refine z_ialdE (x := nI 0) zh (ck_mi 2 (by decide) hm) dX3_greatest_11 hj (a1_mi hG hm 2 (by decide)) ?_
  refine z_i2l zh dX3_greatest_12 ?_
  rw [show (nI 0).toInt64 = (0 : Int64) from by decide]
  refine z_mmax_longE (r := (0 : Int64)) zh ma_Market_84 mc_max_long dX3_greatest_13 ⟨Nat.le_of_ble_eq_true rfl, Nat.le_of_ble_eq_true rfl⟩ (by decide) ?_
  refine z_lstoren zh dX3_greatest_16 (by decide) (L' := [some (rf g m), some (.int (nI j)), some (.long (0 : Int64)), none, none]) rfl ?_
  refine z_aloadnR zh dX3_greatest_17 rfl ?_
  refine z_getf zh fl_Market_19 dX3_greatest_18 (ck_M hm) rfl rfl ?_
  refine z_iloadn zh dX3_greatest_21 rfl ?_
  refine z_ialdE (x := nI 0) zh (ck_mi 3 (by decide) hm) dX3_greatest_22 hj (a1_mi hG hm 3 (by decide)) ?_
  refine z_aloadnR zh dX3_greatest_23 rfl ?_
  refine z_getf zh fl_Market_22 dX3_greatest_24 (ck_M hm) rfl rfl ?_
  refine z_iloadn zh dX3_greatest_27 rfl ?_
  refine z_ialdE (x := nI 0) zh (ck_mi 4 (by decide) hm) dX3_greatest_28 hj (a1_mi hG hm 4 (by decide)) ?_
  refine z_mmaxE (r := nI 0) zh ma_Market_49 mc_max dX3_greatest_29 ⟨Nat.le_of_ble_eq_true rfl, Nat.le_of_ble_eq_true rfl⟩ (by decide) ?_
  refine z_istore zh dX3_greatest_32 (by decide) (L' := [some (rf g m), some (.int (nI j)), some (.long (0 : Int64)), none, some (.int (nI 0))]) rfl ?_
  refine z_lloadn zh dX3_greatest_34 rfl ?_
  refine z_iload zh dX3_greatest_35 rfl ?_
  refine z_i2l zh dX3_greatest_37 ?_
  rw [show (nI 0).toInt64 = (0 : Int64) from by decide]
  refine z_mmax_longE (r := (0 : Int64)) zh ma_Market_84 mc_max_long dX3_greatest_38 ⟨Nat.le_of_ble_eq_true rfl, Nat.le_of_ble_eq_true rfl⟩ (by decide) ?_
  refine z_aloadnR zh dX3_greatest_41 rfl ?_
  refine z_getf zh fl_Market_28 dX3_greatest_42 (ck_M hm) rfl rfl ?_
  refine z_iloadn zh dX3_greatest_45 rfl ?_
  refine z_ialdE (x := nI 0) zh (ck_mi 6 (by decide) hm) dX3_greatest_46 hj (a1_mi hG hm 6 (by decide)) ?_
  refine z_mabsE (r := nI 0) zh ma_Market_55 mc_abs dX3_greatest_47 ⟨Nat.le_of_ble_eq_true rfl, Nat.le_of_ble_eq_true rfl⟩ (by decide) ?_
  refine z_i2l zh dX3_greatest_50 ?_
  rw [show (nI 0).toInt64 = (0 : Int64) from by decide]
  refine z_mmax_longE (r := (0 : Int64)) zh ma_Market_84 mc_max_long dX3_greatest_51 ⟨Nat.le_of_ble_eq_true rfl, Nat.le_of_ble_eq_true rfl⟩ (by decide) ?_
  exact z_lret zh dX3_greatest_54 (qL rfl)
set_option maxRecDepth 20000 in
theorem c_multM (g : GE) {m j n : Nat} {iv : Iv} {lv : Lv} {dd : Nat → Nat} {dm : Nat} (hm : isM m) (hj : j < 12) (hG : Ok1 dd dm iv lv) : ConV g yX3_multiplyMember cX3_multiplyMember 4 none 2 [rf g m, .int (nI j), .int (nI n)] iv lv (fun iv lv => Ok1 dd dm iv lv) := by
  refine con_intro (own := "RollingNets$Market") (by decide +kernel) rfl (Nat.le_of_ble_eq_true rfl) (L0 := [some (rf g m), some (.int (nI j)), some (.int (nI n)), none]) rfl (fun Z zh => ?_)
  refine z_aloadnR zh dX3_multiplyMember_0 rfl ?_
  refine z_getf zh fl_Market_9 dX3_multiplyMember_1 (ck_M hm) rfl rfl ?_
  refine z_iloadn zh dX3_multiplyMember_4 rfl ?_
  refine z_dup2 zh dX3_multiplyMember_5 rfl rfl ?_
  refine z_laldE (x := (0 : Int64)) zh (ck_stock hm) dX3_multiplyMember_6 hj (a1_stock hG hm) ?_
  refine z_iloadn zh dX3_multiplyMember_7 rfl ?_
  refine z_i2l zh dX3_multiplyMember_8 ?_
  refine z_lmul zh dX3_multiplyMember_9 ?_
  rw [show (0 : Int64) * ((nI n).toInt64) = (0 : Int64) from Int64.zero_mul]
  refine z_lastN zh (ck_stock hm) dX3_multiplyMember_10 hj ?_
  have hG := ok1_wL (k := m + 1) (j := j) (x := (0 : Int64)) hG (w1_stock hm rfl)
  generalize upL lv (m + 1) (j) ((0 : Int64)) = lv at hG ⊢
  refine z_aloadnR zh dX3_multiplyMember_11 rfl ?_
  refine z_getf zh fl_Market_15 dX3_multiplyMember_12 (ck_M hm) rfl rfl ?_
  refine z_iloadn zh dX3_multiplyMember_15 rfl ?_
  refine z_dup2 zh dX3_multiplyMember_16 rfl rfl ?_
  refine z_ialdE (x := nI 0) zh (ck_mi 2 (by decide) hm) dX3_multiplyMember_17 hj (a1_mi hG hm 2 (by decide)) ?_
  refine z_iloadn zh dX3_multiplyMember_18 rfl ?_
  refine z_imulN zh dX3_multiplyMember_19 ?_
  rw [show 0 * n = 0 from Nat.zero_mul _]
  refine z_iastN zh (ck_mi 2 (by decide) hm) dX3_multiplyMember_20 hj ?_
  have hG := ok1_wI (k := m + 2) (j := j) (x := nI 0) hG (w1_mi hm 2 (by decide) rfl)
  generalize upI iv (m + 2) (j) (nI 0) = iv at hG ⊢
  refine z_aloadnR zh dX3_multiplyMember_21 rfl ?_
  refine z_getf zh fl_Market_19 dX3_multiplyMember_22 (ck_M hm) rfl rfl ?_
  refine z_iloadn zh dX3_multiplyMember_25 rfl ?_
  refine z_dup2 zh dX3_multiplyMember_26 rfl rfl ?_
  refine z_ialdE (x := nI 0) zh (ck_mi 3 (by decide) hm) dX3_multiplyMember_27 hj (a1_mi hG hm 3 (by decide)) ?_
  refine z_iloadn zh dX3_multiplyMember_28 rfl ?_
  refine z_imulN zh dX3_multiplyMember_29 ?_
  rw [show 0 * n = 0 from Nat.zero_mul _]
  refine z_iastN zh (ck_mi 3 (by decide) hm) dX3_multiplyMember_30 hj ?_
  have hG := ok1_wI (k := m + 3) (j := j) (x := nI 0) hG (w1_mi hm 3 (by decide) rfl)
  generalize upI iv (m + 3) (j) (nI 0) = iv at hG ⊢
  refine z_aloadnR zh dX3_multiplyMember_31 rfl ?_
  refine z_getf zh fl_Market_22 dX3_multiplyMember_32 (ck_M hm) rfl rfl ?_
  refine z_iloadn zh dX3_multiplyMember_35 rfl ?_
  refine z_dup2 zh dX3_multiplyMember_36 rfl rfl ?_
  refine z_ialdE (x := nI 0) zh (ck_mi 4 (by decide) hm) dX3_multiplyMember_37 hj (a1_mi hG hm 4 (by decide)) ?_
  refine z_iloadn zh dX3_multiplyMember_38 rfl ?_
  refine z_imulN zh dX3_multiplyMember_39 ?_
  rw [show 0 * n = 0 from Nat.zero_mul _]
  refine z_iastN zh (ck_mi 4 (by decide) hm) dX3_multiplyMember_40 hj ?_
  have hG := ok1_wI (k := m + 4) (j := j) (x := nI 0) hG (w1_mi hm 4 (by decide) rfl)
  generalize upI iv (m + 4) (j) (nI 0) = iv at hG ⊢
  refine z_aloadnR zh dX3_multiplyMember_41 rfl ?_
  refine z_getf zh fl_Market_28 dX3_multiplyMember_42 (ck_M hm) rfl rfl ?_
  refine z_iloadn zh dX3_multiplyMember_45 rfl ?_
  refine z_dup2 zh dX3_multiplyMember_46 rfl rfl ?_
  refine z_ialdE (x := nI 0) zh (ck_mi 6 (by decide) hm) dX3_multiplyMember_47 hj (a1_mi hG hm 6 (by decide)) ?_
  refine z_iloadn zh dX3_multiplyMember_48 rfl ?_
  refine z_imulN zh dX3_multiplyMember_49 ?_
  rw [show 0 * n = 0 from Nat.zero_mul _]
  refine z_iastN zh (ck_mi 6 (by decide) hm) dX3_multiplyMember_50 hj ?_
  have hG := ok1_wI (k := m + 6) (j := j) (x := nI 0) hG (w1_mi hm 6 (by decide) rfl)
  generalize upI iv (m + 6) (j) (nI 0) = iv at hG ⊢
  refine z_iconst zh dX3_multiplyMember_51 ki_0 ?_
  refine z_istoren zh dX3_multiplyMember_52 (by decide) (L' := [some (rf g m), some (.int (nI j)), some (.int (nI n)), some (.int (nI 0))]) rfl ?_
  refine z_iloadn zh dX3_multiplyMember_53 rfl ?_
  refine z_aloadnR zh dX3_multiplyMember_54 rfl ?_
  refine z_getI (x := nI 0) zh fl_Market_46 dX3_multiplyMember_55 (ck_M hm) rfl rfl (a1_endDay hG hm) ?_
  refine z_icmp_ge_N (tgt := 79) zh (by decide) (by decide) dX3_multiplyMember_58 rfl (fun _ => ?_) (fun q => absurd q (by decide))
  exact z_vret zh dX3_multiplyMember_79 (⟨rfl, hG⟩)
set_option maxRecDepth 20000 in
theorem c_mult2 (g : GE) {m : Nat} {iv : Iv} {lv : Lv} {dd : Nat → Nat} {dm : Nat} (hm : isM m) (hG : Ok1 dd dm iv lv) : ConI g yX3_multiply cX3_multiply 5 (some .boolean) 3 [rf g m, .int (nI 2), .int (nI 6)] iv lv (fun r iv' lv' => r = nI 1 ∧ OkR (fun _ => 0) dm iv' lv') := by
  refine con_intro (own := "RollingNets$Market") (by decide +kernel) rfl (Nat.le_of_ble_eq_true rfl) (L0 := [some (rf g m), some (.int (nI 2)), some (.int (nI 6)), none, none]) rfl (fun Z zh => ?_)
  refine z_iloadn zh dX3_multiply_0 rfl ?_
  refine z_iconst zh dX3_multiply_1 ki_1 ?_
  refine z_icmp_lt_N (tgt := 23) zh (by decide) (by decide) dX3_multiply_2 rfl (fun q => absurd q (by decide)) (fun _ => ?_)
  refine z_aloadnR zh dX3_multiply_5 rfl ?_
  refine z_getI (x := nI 100) zh fl_Market_36 dX3_multiply_6 (ck_M hm) rfl rfl (a1_price hG hm) ?_
  refine z_iloadn zh dX3_multiply_9 rfl ?_
  refine z_irem zh dX3_multiply_10 (by decide) ?_
  rw [show (nI 100) - (nI 100) / (nI 2) * (nI 2) = nI 0 from by decide]
  refine z_if_ne_N (tgt := 23) zh (by decide) dX3_multiply_11 rfl (fun q => absurd q (by decide)) (fun _ => ?_)
  refine z_aloadnR zh dX3_multiply_14 rfl ?_
  refine z_getI (x := nI 100) zh fl_Market_40 dX3_multiply_15 (ck_M hm) rfl rfl (a1_marked hG hm) ?_
  refine z_iloadn zh dX3_multiply_18 rfl ?_
  refine z_irem zh dX3_multiply_19 (by decide) ?_
  rw [show (nI 100) - (nI 100) / (nI 2) * (nI 2) = nI 0 from by decide]
  refine z_if_eq_N (tgt := 25) zh (by decide) dX3_multiply_20 rfl (fun _ => ?_) (fun q => absurd q (by decide))
  refine z_ldc zh dX3_multiply_25 kc_Market_76 ?_
  refine z_iloadn zh dX3_multiply_27 rfl ?_
  refine z_idiv zh dX3_multiply_28 (by decide) ?_
  rw [show (nI 99999999) / (nI 2) = nI 49999999 from by decide]
  refine z_istoren zh dX3_multiply_29 (by decide) (L' := [some (rf g m), some (.int (nI 2)), some (.int (nI 6)), some (.int (nI 49999999)), none]) rfl ?_
  refine z_iconst zh dX3_multiply_30 ki_0 ?_
  refine z_istore zh dX3_multiply_31 (by decide) (L' := [some (rf g m), some (.int (nI 2)), some (.int (nI 6)), some (.int (nI 49999999)), some (.int (nI 0))]) rfl ?_
  have hl33 : ∀ (n k33 : Nat) (iv : Iv) (lv : Lv), Ok1 dd dm iv lv → k33 ≤ 6 → 6 - k33 < n → Z 33 [some (rf g m), some (.int (nI 2)), some (.int (nI 6)), some (.int (nI 49999999)), some (.int (nI k33))] [] iv lv := by
    intro n
    induction n with
    | zero => intro k33 iv lv _ _ hn; exact absurd hn (Nat.not_lt_zero _)
    | succ n ih33 =>
      intro k33 iv lv hG hk33 hn33
      refine z_iload zh dX3_multiply_33 rfl ?_
      refine z_iloadn zh dX3_multiply_35 rfl ?_
      refine z_icmp_ge_N (tgt := 59) zh (by omega) (by decide) dX3_multiply_36 rfl (fun hb1 => ?_) (fun hb1 => ?_)
      · refine z_iconst zh dX3_multiply_59 ki_0 ?_
        refine z_istore zh dX3_multiply_60 (by decide) (L' := [some (rf g m), some (.int (nI 2)), some (.int (nI 6)), some (.int (nI 49999999)), some (.int (nI 0))]) rfl ?_
        have hl62 : ∀ (n k62 : Nat) (iv : Iv) (lv : Lv), Ok1 dd dm iv lv → k62 ≤ 6 → 6 - k62 < n → Z 62 [some (rf g m), some (.int (nI 2)), some (.int (nI 6)), some (.int (nI 49999999)), some (.int (nI k62))] [] iv lv := by
          intro n
          induction n with
          | zero => intro k62 iv lv _ _ hn; exact absurd hn (Nat.not_lt_zero _)
          | succ n ih62 =>
            intro k62 iv lv hG hk62 hn62
            refine z_iload zh dX3_multiply_62 rfl ?_
            refine z_iloadn zh dX3_multiply_64 rfl ?_
            refine z_icmp_ge_N (tgt := 81) zh (by omega) (by decide) dX3_multiply_65 rfl (fun hb2 => ?_) (fun hb2 => ?_)
            · refine z_aloadnR zh dX3_multiply_81 rfl ?_
              refine z_dup zh dX3_multiply_82 rfl ?_
              refine z_getI (x := nI 100) zh fl_Market_36 dX3_multiply_83 (ck_M hm) rfl rfl (a1_price hG hm) ?_
              refine z_iloadn zh dX3_multiply_86 rfl ?_
              refine z_idiv zh dX3_multiply_87 (by decide) ?_
              rw [show (nI 100) / (nI 2) = nI 50 from by decide]
              refine z_putI zh fl_Market_36 dX3_multiply_88 (ck_M hm) rfl rfl (Nat.le_of_ble_eq_true rfl) (Or.inl rfl) ?_
              refine z_aloadnR zh dX3_multiply_91 rfl ?_
              refine z_dup zh dX3_multiply_92 rfl ?_
              refine z_getI (x := nI 100) zh fl_Market_40 dX3_multiply_93 (ck_M hm) rfl rfl (by rw [upI_at, if_neg (by omega)]; exact a1_marked hG hm) ?_
              refine z_iloadn zh dX3_multiply_96 rfl ?_
              refine z_idiv zh dX3_multiply_97 (by decide) ?_
              rw [show (nI 100) / (nI 2) = nI 50 from by decide]
              refine z_putI zh fl_Market_40 dX3_multiply_98 (ck_M hm) rfl rfl (Nat.le_of_ble_eq_true rfl) (Or.inl rfl) ?_
              refine z_iconst zh dX3_multiply_101 ki_1 ?_
              exact z_zret zh dX3_multiply_102 (Or.inr rfl) (⟨_, rfl, rfl, (by repeat (first | assumption | exact okR_of (by assumption) | refine okR_lI (by first | omega | (have := isM_lt (by assumption); omega) | (have := isH_lt (by assumption); omega)) ?_ | refine okR_lL (by first | omega | (have := isM_lt (by assumption); omega) | (have := isH_lt (by assumption); omega)) ?_))⟩)
            · refine z_aloadnR zh dX3_multiply_68 rfl ?_
              refine z_iload zh dX3_multiply_69 rfl ?_
              refine z_iloadn zh dX3_multiply_71 rfl ?_
              refine z_callVV zh mv_Market_81 dX3_multiply_72 (ck_M hm) rfl (c_multM g hm (by omega) hG) ⟨Nat.le_of_ble_eq_true rfl, Nat.le_of_ble_eq_true rfl⟩ rfl rfl (Nat.le_of_ble_eq_true rfl) ?_
              rintro iv lv hG
              refine z_iincN zh dX3_multiply_75 ki_1 (by decide) rfl (L' := [some (rf g m), some (.int (nI 2)), some (.int (nI 6)), some (.int (nI 49999999)), some (.int (nI (k62 + 1)))]) rfl ?_
              refine z_goto (tgt := 62) zh dX3_multiply_78 rfl ?_
              exact ih62 (k62 + 1) iv lv hG (by omega) (by omega)
        exact hl62 7 0 iv lv hG (by omega) (by omega)
      · refine z_aloadnR zh dX3_multiply_39 rfl ?_
        refine z_iload zh dX3_multiply_40 rfl ?_
        refine z_callVLp zh mv_Market_77 dX3_multiply_42 (ck_M hm) rfl (c_greatest g hm (by omega) hG) ⟨Nat.le_of_ble_eq_true rfl, Nat.le_of_ble_eq_true rfl⟩ rfl rfl (Nat.le_of_ble_eq_true rfl) ?_
        refine z_iloadn zh dX3_multiply_45 rfl ?_
        refine z_i2l zh dX3_multiply_46 ?_
        rw [show (nI 49999999).toInt64 = (49999999 : Int64) from by decide]
        refine z_lcmp zh dX3_multiply_47 ?_
        rw [show lg_cmp (0 : Int64) (49999999 : Int64) = (-1) from by decide]
        refine z_if_le (tgt := 53) zh dX3_multiply_48 rfl (fun _ => ?_) (fun q => absurd q (by decide))
        refine z_iincN zh dX3_multiply_53 ki_1 (by decide) rfl (L' := [some (rf g m), some (.int (nI 2)), some (.int (nI 6)), some (.int (nI 49999999)), some (.int (nI (k33 + 1)))]) rfl ?_
        refine z_goto (tgt := 33) zh dX3_multiply_56 rfl ?_
        exact ih33 (k33 + 1) iv lv hG (by omega) (by omega)
  exact hl33 7 0 iv lv hG (by omega) (by omega)
set_option maxRecDepth 20000 in
theorem c_mult3 (g : GE) {m : Nat} {iv : Iv} {lv : Lv} {dd : Nat → Nat} {dm : Nat} (hm : isM m) (hG : Ok1 dd dm iv lv) : ConI g yX3_multiply cX3_multiply 5 (some .boolean) 3 [rf g m, .int (nI 3), .int (nI 6)] iv lv (fun r iv' lv' => r = nI 0 ∧ OkR (fun _ => 0) dm iv' lv') := by
  refine con_intro (own := "RollingNets$Market") (by decide +kernel) rfl (Nat.le_of_ble_eq_true rfl) (L0 := [some (rf g m), some (.int (nI 3)), some (.int (nI 6)), none, none]) rfl (fun Z zh => ?_)
  refine z_iloadn zh dX3_multiply_0 rfl ?_
  refine z_iconst zh dX3_multiply_1 ki_1 ?_
  refine z_icmp_lt_N (tgt := 23) zh (by decide) (by decide) dX3_multiply_2 rfl (fun q => absurd q (by decide)) (fun _ => ?_)
  refine z_aloadnR zh dX3_multiply_5 rfl ?_
  refine z_getI (x := nI 100) zh fl_Market_36 dX3_multiply_6 (ck_M hm) rfl rfl (a1_price hG hm) ?_
  refine z_iloadn zh dX3_multiply_9 rfl ?_
  refine z_irem zh dX3_multiply_10 (by decide) ?_
  rw [show (nI 100) - (nI 100) / (nI 3) * (nI 3) = nI 1 from by decide]
  refine z_if_ne_N (tgt := 23) zh (by decide) dX3_multiply_11 rfl (fun _ => ?_) (fun q => absurd q (by decide))
  refine z_iconst zh dX3_multiply_23 ki_0 ?_
  exact z_zret zh dX3_multiply_24 (Or.inl rfl) (⟨_, rfl, rfl, (by repeat (first | assumption | exact okR_of (by assumption) | refine okR_lI (by first | omega | (have := isM_lt (by assumption); omega) | (have := isH_lt (by assumption); omega)) ?_ | refine okR_lL (by first | omega | (have := isM_lt (by assumption); omega) | (have := isH_lt (by assumption); omega)) ?_))⟩)
set_option maxRecDepth 20000 in
theorem c_mult4 (g : GE) {m : Nat} {iv : Iv} {lv : Lv} {dd : Nat → Nat} {dm : Nat} (hm : isM m) (hG : Ok1 dd dm iv lv) : ConI g yX3_multiply cX3_multiply 5 (some .boolean) 3 [rf g m, .int (nI 4), .int (nI 6)] iv lv (fun r iv' lv' => r = nI 1 ∧ OkR (fun _ => 0) dm iv' lv') := by
  refine con_intro (own := "RollingNets$Market") (by decide +kernel) rfl (Nat.le_of_ble_eq_true rfl) (L0 := [some (rf g m), some (.int (nI 4)), some (.int (nI 6)), none, none]) rfl (fun Z zh => ?_)
  refine z_iloadn zh dX3_multiply_0 rfl ?_
  refine z_iconst zh dX3_multiply_1 ki_1 ?_
  refine z_icmp_lt_N (tgt := 23) zh (by decide) (by decide) dX3_multiply_2 rfl (fun q => absurd q (by decide)) (fun _ => ?_)
  refine z_aloadnR zh dX3_multiply_5 rfl ?_
  refine z_getI (x := nI 100) zh fl_Market_36 dX3_multiply_6 (ck_M hm) rfl rfl (a1_price hG hm) ?_
  refine z_iloadn zh dX3_multiply_9 rfl ?_
  refine z_irem zh dX3_multiply_10 (by decide) ?_
  rw [show (nI 100) - (nI 100) / (nI 4) * (nI 4) = nI 0 from by decide]
  refine z_if_ne_N (tgt := 23) zh (by decide) dX3_multiply_11 rfl (fun q => absurd q (by decide)) (fun _ => ?_)
  refine z_aloadnR zh dX3_multiply_14 rfl ?_
  refine z_getI (x := nI 100) zh fl_Market_40 dX3_multiply_15 (ck_M hm) rfl rfl (a1_marked hG hm) ?_
  refine z_iloadn zh dX3_multiply_18 rfl ?_
  refine z_irem zh dX3_multiply_19 (by decide) ?_
  rw [show (nI 100) - (nI 100) / (nI 4) * (nI 4) = nI 0 from by decide]
  refine z_if_eq_N (tgt := 25) zh (by decide) dX3_multiply_20 rfl (fun _ => ?_) (fun q => absurd q (by decide))
  refine z_ldc zh dX3_multiply_25 kc_Market_76 ?_
  refine z_iloadn zh dX3_multiply_27 rfl ?_
  refine z_idiv zh dX3_multiply_28 (by decide) ?_
  rw [show (nI 99999999) / (nI 4) = nI 24999999 from by decide]
  refine z_istoren zh dX3_multiply_29 (by decide) (L' := [some (rf g m), some (.int (nI 4)), some (.int (nI 6)), some (.int (nI 24999999)), none]) rfl ?_
  refine z_iconst zh dX3_multiply_30 ki_0 ?_
  refine z_istore zh dX3_multiply_31 (by decide) (L' := [some (rf g m), some (.int (nI 4)), some (.int (nI 6)), some (.int (nI 24999999)), some (.int (nI 0))]) rfl ?_
  have hl33 : ∀ (n k33 : Nat) (iv : Iv) (lv : Lv), Ok1 dd dm iv lv → k33 ≤ 6 → 6 - k33 < n → Z 33 [some (rf g m), some (.int (nI 4)), some (.int (nI 6)), some (.int (nI 24999999)), some (.int (nI k33))] [] iv lv := by
    intro n
    induction n with
    | zero => intro k33 iv lv _ _ hn; exact absurd hn (Nat.not_lt_zero _)
    | succ n ih33 =>
      intro k33 iv lv hG hk33 hn33
      refine z_iload zh dX3_multiply_33 rfl ?_
      refine z_iloadn zh dX3_multiply_35 rfl ?_
      refine z_icmp_ge_N (tgt := 59) zh (by omega) (by decide) dX3_multiply_36 rfl (fun hb1 => ?_) (fun hb1 => ?_)
      · refine z_iconst zh dX3_multiply_59 ki_0 ?_
        refine z_istore zh dX3_multiply_60 (by decide) (L' := [some (rf g m), some (.int (nI 4)), some (.int (nI 6)), some (.int (nI 24999999)), some (.int (nI 0))]) rfl ?_
        have hl62 : ∀ (n k62 : Nat) (iv : Iv) (lv : Lv), Ok1 dd dm iv lv → k62 ≤ 6 → 6 - k62 < n → Z 62 [some (rf g m), some (.int (nI 4)), some (.int (nI 6)), some (.int (nI 24999999)), some (.int (nI k62))] [] iv lv := by
          intro n
          induction n with
          | zero => intro k62 iv lv _ _ hn; exact absurd hn (Nat.not_lt_zero _)
          | succ n ih62 =>
            intro k62 iv lv hG hk62 hn62
            refine z_iload zh dX3_multiply_62 rfl ?_
            refine z_iloadn zh dX3_multiply_64 rfl ?_
            refine z_icmp_ge_N (tgt := 81) zh (by omega) (by decide) dX3_multiply_65 rfl (fun hb2 => ?_) (fun hb2 => ?_)
            · refine z_aloadnR zh dX3_multiply_81 rfl ?_
              refine z_dup zh dX3_multiply_82 rfl ?_
              refine z_getI (x := nI 100) zh fl_Market_36 dX3_multiply_83 (ck_M hm) rfl rfl (a1_price hG hm) ?_
              refine z_iloadn zh dX3_multiply_86 rfl ?_
              refine z_idiv zh dX3_multiply_87 (by decide) ?_
              rw [show (nI 100) / (nI 4) = nI 25 from by decide]
              refine z_putI zh fl_Market_36 dX3_multiply_88 (ck_M hm) rfl rfl (Nat.le_of_ble_eq_true rfl) (Or.inl rfl) ?_
              refine z_aloadnR zh dX3_multiply_91 rfl ?_
              refine z_dup zh dX3_multiply_92 rfl ?_
              refine z_getI (x := nI 100) zh fl_Market_40 dX3_multiply_93 (ck_M hm) rfl rfl (by rw [upI_at, if_neg (by omega)]; exact a1_marked hG hm) ?_
              refine z_iloadn zh dX3_multiply_96 rfl ?_
              refine z_idiv zh dX3_multiply_97 (by decide) ?_
              rw [show (nI 100) / (nI 4) = nI 25 from by decide]
              refine z_putI zh fl_Market_40 dX3_multiply_98 (ck_M hm) rfl rfl (Nat.le_of_ble_eq_true rfl) (Or.inl rfl) ?_
              refine z_iconst zh dX3_multiply_101 ki_1 ?_
              exact z_zret zh dX3_multiply_102 (Or.inr rfl) (⟨_, rfl, rfl, (by repeat (first | assumption | exact okR_of (by assumption) | refine okR_lI (by first | omega | (have := isM_lt (by assumption); omega) | (have := isH_lt (by assumption); omega)) ?_ | refine okR_lL (by first | omega | (have := isM_lt (by assumption); omega) | (have := isH_lt (by assumption); omega)) ?_))⟩)
            · refine z_aloadnR zh dX3_multiply_68 rfl ?_
              refine z_iload zh dX3_multiply_69 rfl ?_
              refine z_iloadn zh dX3_multiply_71 rfl ?_
              refine z_callVV zh mv_Market_81 dX3_multiply_72 (ck_M hm) rfl (c_multM g hm (by omega) hG) ⟨Nat.le_of_ble_eq_true rfl, Nat.le_of_ble_eq_true rfl⟩ rfl rfl (Nat.le_of_ble_eq_true rfl) ?_
              rintro iv lv hG
              refine z_iincN zh dX3_multiply_75 ki_1 (by decide) rfl (L' := [some (rf g m), some (.int (nI 4)), some (.int (nI 6)), some (.int (nI 24999999)), some (.int (nI (k62 + 1)))]) rfl ?_
              refine z_goto (tgt := 62) zh dX3_multiply_78 rfl ?_
              exact ih62 (k62 + 1) iv lv hG (by omega) (by omega)
        exact hl62 7 0 iv lv hG (by omega) (by omega)
      · refine z_aloadnR zh dX3_multiply_39 rfl ?_
        refine z_iload zh dX3_multiply_40 rfl ?_
        refine z_callVLp zh mv_Market_77 dX3_multiply_42 (ck_M hm) rfl (c_greatest g hm (by omega) hG) ⟨Nat.le_of_ble_eq_true rfl, Nat.le_of_ble_eq_true rfl⟩ rfl rfl (Nat.le_of_ble_eq_true rfl) ?_
        refine z_iloadn zh dX3_multiply_45 rfl ?_
        refine z_i2l zh dX3_multiply_46 ?_
        rw [show (nI 24999999).toInt64 = (24999999 : Int64) from by decide]
        refine z_lcmp zh dX3_multiply_47 ?_
        rw [show lg_cmp (0 : Int64) (24999999 : Int64) = (-1) from by decide]
        refine z_if_le (tgt := 53) zh dX3_multiply_48 rfl (fun _ => ?_) (fun q => absurd q (by decide))
        refine z_iincN zh dX3_multiply_53 ki_1 (by decide) rfl (L' := [some (rf g m), some (.int (nI 4)), some (.int (nI 6)), some (.int (nI 24999999)), some (.int (nI (k33 + 1)))]) rfl ?_
        refine z_goto (tgt := 33) zh dX3_multiply_56 rfl ?_
        exact ih33 (k33 + 1) iv lv hG (by omega) (by omega)
  exact hl33 7 0 iv lv hG (by omega) (by omega)
set_option maxRecDepth 20000 in
theorem c_mult5 (g : GE) {m : Nat} {iv : Iv} {lv : Lv} {dd : Nat → Nat} {dm : Nat} (hm : isM m) (hG : Ok1 dd dm iv lv) : ConI g yX3_multiply cX3_multiply 5 (some .boolean) 3 [rf g m, .int (nI 5), .int (nI 6)] iv lv (fun r iv' lv' => r = nI 1 ∧ OkR (fun _ => 0) dm iv' lv') := by
  refine con_intro (own := "RollingNets$Market") (by decide +kernel) rfl (Nat.le_of_ble_eq_true rfl) (L0 := [some (rf g m), some (.int (nI 5)), some (.int (nI 6)), none, none]) rfl (fun Z zh => ?_)
  refine z_iloadn zh dX3_multiply_0 rfl ?_
  refine z_iconst zh dX3_multiply_1 ki_1 ?_
  refine z_icmp_lt_N (tgt := 23) zh (by decide) (by decide) dX3_multiply_2 rfl (fun q => absurd q (by decide)) (fun _ => ?_)
  refine z_aloadnR zh dX3_multiply_5 rfl ?_
  refine z_getI (x := nI 100) zh fl_Market_36 dX3_multiply_6 (ck_M hm) rfl rfl (a1_price hG hm) ?_
  refine z_iloadn zh dX3_multiply_9 rfl ?_
  refine z_irem zh dX3_multiply_10 (by decide) ?_
  rw [show (nI 100) - (nI 100) / (nI 5) * (nI 5) = nI 0 from by decide]
  refine z_if_ne_N (tgt := 23) zh (by decide) dX3_multiply_11 rfl (fun q => absurd q (by decide)) (fun _ => ?_)
  refine z_aloadnR zh dX3_multiply_14 rfl ?_
  refine z_getI (x := nI 100) zh fl_Market_40 dX3_multiply_15 (ck_M hm) rfl rfl (a1_marked hG hm) ?_
  refine z_iloadn zh dX3_multiply_18 rfl ?_
  refine z_irem zh dX3_multiply_19 (by decide) ?_
  rw [show (nI 100) - (nI 100) / (nI 5) * (nI 5) = nI 0 from by decide]
  refine z_if_eq_N (tgt := 25) zh (by decide) dX3_multiply_20 rfl (fun _ => ?_) (fun q => absurd q (by decide))
  refine z_ldc zh dX3_multiply_25 kc_Market_76 ?_
  refine z_iloadn zh dX3_multiply_27 rfl ?_
  refine z_idiv zh dX3_multiply_28 (by decide) ?_
  rw [show (nI 99999999) / (nI 5) = nI 19999999 from by decide]
  refine z_istoren zh dX3_multiply_29 (by decide) (L' := [some (rf g m), some (.int (nI 5)), some (.int (nI 6)), some (.int (nI 19999999)), none]) rfl ?_
  refine z_iconst zh dX3_multiply_30 ki_0 ?_
  refine z_istore zh dX3_multiply_31 (by decide) (L' := [some (rf g m), some (.int (nI 5)), some (.int (nI 6)), some (.int (nI 19999999)), some (.int (nI 0))]) rfl ?_
  have hl33 : ∀ (n k33 : Nat) (iv : Iv) (lv : Lv), Ok1 dd dm iv lv → k33 ≤ 6 → 6 - k33 < n → Z 33 [some (rf g m), some (.int (nI 5)), some (.int (nI 6)), some (.int (nI 19999999)), some (.int (nI k33))] [] iv lv := by
    intro n
    induction n with
    | zero => intro k33 iv lv _ _ hn; exact absurd hn (Nat.not_lt_zero _)
    | succ n ih33 =>
      intro k33 iv lv hG hk33 hn33
      refine z_iload zh dX3_multiply_33 rfl ?_
      refine z_iloadn zh dX3_multiply_35 rfl ?_
      refine z_icmp_ge_N (tgt := 59) zh (by omega) (by decide) dX3_multiply_36 rfl (fun hb1 => ?_) (fun hb1 => ?_)
      · refine z_iconst zh dX3_multiply_59 ki_0 ?_
        refine z_istore zh dX3_multiply_60 (by decide) (L' := [some (rf g m), some (.int (nI 5)), some (.int (nI 6)), some (.int (nI 19999999)), some (.int (nI 0))]) rfl ?_
        have hl62 : ∀ (n k62 : Nat) (iv : Iv) (lv : Lv), Ok1 dd dm iv lv → k62 ≤ 6 → 6 - k62 < n → Z 62 [some (rf g m), some (.int (nI 5)), some (.int (nI 6)), some (.int (nI 19999999)), some (.int (nI k62))] [] iv lv := by
          intro n
          induction n with
          | zero => intro k62 iv lv _ _ hn; exact absurd hn (Nat.not_lt_zero _)
          | succ n ih62 =>
            intro k62 iv lv hG hk62 hn62
            refine z_iload zh dX3_multiply_62 rfl ?_
            refine z_iloadn zh dX3_multiply_64 rfl ?_
            refine z_icmp_ge_N (tgt := 81) zh (by omega) (by decide) dX3_multiply_65 rfl (fun hb2 => ?_) (fun hb2 => ?_)
            · refine z_aloadnR zh dX3_multiply_81 rfl ?_
              refine z_dup zh dX3_multiply_82 rfl ?_
              refine z_getI (x := nI 100) zh fl_Market_36 dX3_multiply_83 (ck_M hm) rfl rfl (a1_price hG hm) ?_
              refine z_iloadn zh dX3_multiply_86 rfl ?_
              refine z_idiv zh dX3_multiply_87 (by decide) ?_
              rw [show (nI 100) / (nI 5) = nI 20 from by decide]
              refine z_putI zh fl_Market_36 dX3_multiply_88 (ck_M hm) rfl rfl (Nat.le_of_ble_eq_true rfl) (Or.inl rfl) ?_
              refine z_aloadnR zh dX3_multiply_91 rfl ?_
              refine z_dup zh dX3_multiply_92 rfl ?_
              refine z_getI (x := nI 100) zh fl_Market_40 dX3_multiply_93 (ck_M hm) rfl rfl (by rw [upI_at, if_neg (by omega)]; exact a1_marked hG hm) ?_
              refine z_iloadn zh dX3_multiply_96 rfl ?_
              refine z_idiv zh dX3_multiply_97 (by decide) ?_
              rw [show (nI 100) / (nI 5) = nI 20 from by decide]
              refine z_putI zh fl_Market_40 dX3_multiply_98 (ck_M hm) rfl rfl (Nat.le_of_ble_eq_true rfl) (Or.inl rfl) ?_
              refine z_iconst zh dX3_multiply_101 ki_1 ?_
              exact z_zret zh dX3_multiply_102 (Or.inr rfl) (⟨_, rfl, rfl, (by repeat (first | assumption | exact okR_of (by assumption) | refine okR_lI (by first | omega | (have := isM_lt (by assumption); omega) | (have := isH_lt (by assumption); omega)) ?_ | refine okR_lL (by first | omega | (have := isM_lt (by assumption); omega) | (have := isH_lt (by assumption); omega)) ?_))⟩)
            · refine z_aloadnR zh dX3_multiply_68 rfl ?_
              refine z_iload zh dX3_multiply_69 rfl ?_
              refine z_iloadn zh dX3_multiply_71 rfl ?_
              refine z_callVV zh mv_Market_81 dX3_multiply_72 (ck_M hm) rfl (c_multM g hm (by omega) hG) ⟨Nat.le_of_ble_eq_true rfl, Nat.le_of_ble_eq_true rfl⟩ rfl rfl (Nat.le_of_ble_eq_true rfl) ?_
              rintro iv lv hG
              refine z_iincN zh dX3_multiply_75 ki_1 (by decide) rfl (L' := [some (rf g m), some (.int (nI 5)), some (.int (nI 6)), some (.int (nI 19999999)), some (.int (nI (k62 + 1)))]) rfl ?_
              refine z_goto (tgt := 62) zh dX3_multiply_78 rfl ?_
              exact ih62 (k62 + 1) iv lv hG (by omega) (by omega)
        exact hl62 7 0 iv lv hG (by omega) (by omega)
      · refine z_aloadnR zh dX3_multiply_39 rfl ?_
        refine z_iload zh dX3_multiply_40 rfl ?_
        refine z_callVLp zh mv_Market_77 dX3_multiply_42 (ck_M hm) rfl (c_greatest g hm (by omega) hG) ⟨Nat.le_of_ble_eq_true rfl, Nat.le_of_ble_eq_true rfl⟩ rfl rfl (Nat.le_of_ble_eq_true rfl) ?_
        refine z_iloadn zh dX3_multiply_45 rfl ?_
        refine z_i2l zh dX3_multiply_46 ?_
        rw [show (nI 19999999).toInt64 = (19999999 : Int64) from by decide]
        refine z_lcmp zh dX3_multiply_47 ?_
        rw [show lg_cmp (0 : Int64) (19999999 : Int64) = (-1) from by decide]
        refine z_if_le (tgt := 53) zh dX3_multiply_48 rfl (fun _ => ?_) (fun q => absurd q (by decide))
        refine z_iincN zh dX3_multiply_53 ki_1 (by decide) rfl (L' := [some (rf g m), some (.int (nI 5)), some (.int (nI 6)), some (.int (nI 19999999)), some (.int (nI (k33 + 1)))]) rfl ?_
        refine z_goto (tgt := 33) zh dX3_multiply_56 rfl ?_
        exact ih33 (k33 + 1) iv lv hG (by omega) (by omega)
  exact hl33 7 0 iv lv hG (by omega) (by omega)
theorem c_mult (g : GE) {m n : Nat} {iv : Iv} {lv : Lv} {dd : Nat → Nat} {dm : Nat} (hm : isM m) (h2 : 2 ≤ n) (h5 : n ≤ 5) (hG : Ok1 dd dm iv lv) : ConI g yX3_multiply cX3_multiply 5 (some .boolean) 3 [rf g m, .int (nI n), .int (nI 6)] iv lv (fun r iv' lv' => r = sel (nI n = nI 3) (nI 0) (nI 1) ∧ OkR (fun _ => 0) dm iv' lv') := by
  rcases (by omega : n = 2 ∨ n = 3 ∨ n = 4 ∨ n = 5) with rfl | rfl | rfl | rfl
  · rw [sel_f (by decide)]; exact c_mult2 g hm hG
  · rw [sel_t rfl]; exact c_mult3 g hm hG
  · rw [sel_f (by decide)]; exact c_mult4 g hm hG
  · rw [sel_f (by decide)]; exact c_mult5 g hm hG
set_option maxRecDepth 20000 in
theorem c_X_split (g : GE) {x n : Int32} {iv : Iv} {lv : Lv} {dd : Nat → Nat} {dm : Nat}  (hG : Ok1 dd dm iv lv) : ConI g yX8_split cX8_split 3 (some .boolean) 4 [rf g 0, .int x, .int n] iv lv (fun r iv' lv' => r = sp_split x n ∧ OkR (fun _ => 0) dm iv' lv') := by
  refine con_intro (own := "RollingNets") (by decide +kernel) rfl (Nat.le_of_ble_eq_true rfl) (L0 := [some (rf g 0), some (.int x), some (.int n)]) rfl (fun Z zh => ?_)
  refine z_iloadn zh dX8_split_0 rfl ?_
  refine z_callSIp zh ms_RollingNets_68 dX8_split_1 (c_isIssue g) ⟨Nat.le_of_ble_eq_true rfl, Nat.le_of_ble_eq_true rfl⟩ rfl rfl (Nat.le_of_ble_eq_true rfl) ?_
  refine z_if_eq_B (tgt := 27) zh dX8_split_4 rfl (fun hp1 => ?_) (fun hp1 => ?_)
  · refine z_iconst zh dX8_split_27 ki_0 ?_
    exact z_zret zh dX8_split_28 (Or.inl rfl) (⟨_, rfl, (by first | rfl | simp (decide := true) only [sp_split, sel_t, sel_f, selL_t, selL_f, bi_t, bi_f, sel_same, selL_same, eq_self, hp1]), (by repeat (first | assumption | exact okR_of (by assumption) | refine okR_lI (by first | omega | (have := isM_lt (by assumption); omega) | (have := isH_lt (by assumption); omega)) ?_ | refine okR_lL (by first | omega | (have := isM_lt (by assumption); omega) | (have := isH_lt (by assumption); omega)) ?_))⟩)
  · obtain ⟨jx, hjx, rfl⟩ := id hp1
    refine z_iloadn zh dX8_split_7 rfl ?_
    refine z_iconst zh dX8_split_8 ki_2 ?_
    refine z_iconst zh dX8_split_9 ki_5 ?_
    refine z_callSIp zh ms_RollingNets_43 dX8_split_10 (c_within g) ⟨Nat.le_of_ble_eq_true rfl, Nat.le_of_ble_eq_true rfl⟩ rfl rfl (Nat.le_of_ble_eq_true rfl) ?_
    refine z_if_eq_B (tgt := 27) zh dX8_split_13 rfl (fun hp2 => ?_) (fun hp2 => ?_)
    · refine z_iconst zh dX8_split_27 ki_0 ?_
      exact z_zret zh dX8_split_28 (Or.inl rfl) (⟨_, rfl, (by first | rfl | simp (decide := true) only [sp_split, sel_t, sel_f, selL_t, selL_f, bi_t, bi_f, sel_same, selL_same, eq_self, hp1, hp2]), (by repeat (first | assumption | exact okR_of (by assumption) | refine okR_lI (by first | omega | (have := isM_lt (by assumption); omega) | (have := isH_lt (by assumption); omega)) ?_ | refine okR_lL (by first | omega | (have := isM_lt (by assumption); omega) | (have := isH_lt (by assumption); omega)) ?_))⟩)
    · obtain ⟨jn, hljn, hhjn, rfl⟩ := Rg_nat (a := 2) (b := 5) (by omega) (by omega) hp2
      refine z_aloadnR zh dX8_split_16 rfl ?_
      refine z_getf zh fl_RollingNets_12 dX8_split_17 ck_X rfl rfl ?_
      refine z_iloadn zh dX8_split_20 rfl ?_
      refine z_callVIp zh mv_RollingNets_106 dX8_split_21 (ck_H isH_1) rfl (c_hasOpen g isH_1 hG) ⟨Nat.le_of_ble_eq_true rfl, Nat.le_of_ble_eq_true rfl⟩ rfl rfl (Nat.le_of_ble_eq_true rfl) ?_
      refine z_if_eq_N (tgt := 29) zh (by decide) dX8_split_24 rfl (fun _ => ?_) (fun q => absurd q (by decide))
      refine z_aloadnR zh dX8_split_29 rfl ?_
      refine z_getf zh fl_RollingNets_12 dX8_split_30 ck_X rfl rfl ?_
      refine z_getf zh fl_RollingNets_72 dX8_split_33 (ck_H isH_1) rfl rfl ?_
      refine z_iloadn zh dX8_split_36 rfl ?_
      refine z_maldN zh (ck_markets isH_1) dX8_split_37 hjx ?_
      refine z_iloadn zh dX8_split_38 rfl ?_
      refine z_aloadnR zh dX8_split_39 rfl ?_
      refine z_getf zh fl_RollingNets_12 dX8_split_40 ck_X rfl rfl ?_
      refine z_callVIp zh mv_RollingNets_109 dX8_split_43 (ck_H isH_1) rfl (c_members g isH_1 hG) ⟨Nat.le_of_ble_eq_true rfl, Nat.le_of_ble_eq_true rfl⟩ rfl rfl (Nat.le_of_ble_eq_true rfl) ?_
      refine z_callVI zh mv_RollingNets_112 dX8_split_46 (ck_M (isM_of isH_1 hjx)) rfl (c_mult g (isM_of isH_1 hjx) (by omega) (by omega) hG) ⟨Nat.le_of_ble_eq_true rfl, Nat.le_of_ble_eq_true rfl⟩ rfl rfl (Nat.le_of_ble_eq_true rfl) ?_
      rintro _ iv lv ⟨rfl, hR⟩
      exact z_zret zh dX8_split_49 sel_01 (⟨_, rfl, (by first | rfl | simp (decide := true) only [sp_split, sel_t, sel_f, selL_t, selL_f, bi_t, bi_f, sel_same, selL_same, eq_self, hp1, hp2]), (by repeat (first | assumption | exact okR_of (by assumption) | refine okR_lI (by first | omega | (have := isM_lt (by assumption); omega) | (have := isH_lt (by assumption); omega)) ?_ | refine okR_lL (by first | omega | (have := isM_lt (by assumption); omega) | (have := isH_lt (by assumption); omega)) ?_))⟩)
set_option maxRecDepth 20000 in
theorem c_isFullN (g : GE) {t cc nn c : Nat} {iv : Iv} {lv : Lv}  (ht : isT t cc nn) (hc : iv t 2 = nI c) (hcn : c < nn) (hn1 : nn < 2 ^ 31)  : ConIp g yX7_isFull cX7_isFull 1 (some .boolean) 1 [rf g t] iv lv (nI 0) := by
  refine con_intro (own := "RollingNets$Table") (by decide +kernel) rfl (Nat.le_of_ble_eq_true rfl) (L0 := [some (rf g t)]) rfl (fun Z zh => ?_)
  refine z_aloadnR zh dX7_isFull_0 rfl ?_
  refine z_getI (x := nI c) zh fl_Table_20 dX7_isFull_1 (ck_T ht) rfl rfl hc ?_
  refine z_aloadnR zh dX7_isFull_4 rfl ?_
  refine z_getI (x := nI nn) zh fl_Table_16 dX7_isFull_5 (ck_T ht) rfl rfl rfl ?_
  refine z_icmp_lt_N (tgt := 15) zh (by omega) (by omega) dX7_isFull_8 rfl (fun _ => ?_) (fun q => absurd q (by omega))
  refine z_iconst zh dX7_isFull_15 ki_0 ?_
  exact z_zret zh dX7_isFull_16 (Or.inl rfl) (qI rfl)
set_option maxRecDepth 20000 in
theorem c_addRow (g : GE) {t cc nn c : Nat} {iv : Iv} {lv : Lv}  (ht : isT t cc nn) (hc : iv t 2 = nI c) (hcn : c < nn) (hn1 : nn < 2 ^ 31) (hn2 : cc < 20)  : ConI g yX7_addRow cX7_addRow 2 (some .int) 2 [rf g t] iv lv (fun r iv' lv' => r = nI c ∧ lv' = lv ∧ iv' t 2 = nI (c + 1) ∧ Fr t cc iv iv') := by
  refine con_intro (own := "RollingNets$Table") (by decide +kernel) rfl (Nat.le_of_ble_eq_true rfl) (L0 := [some (rf g t), none]) rfl (fun Z zh => ?_)
  obtain ⟨iv0, hiv0⟩ : ∃ z, z = iv := ⟨_, rfl⟩
  have hF : Fr t cc iv0 iv := by rw [hiv0]; exact fun _ _ _ => rfl
  refine z_aloadnR zh dX7_addRow_0 rfl ?_
  refine z_callVIp zh mv_Table_23 dX7_addRow_1 (ck_T ht) rfl (c_isFullN g ht hc hcn hn1) ⟨Nat.le_of_ble_eq_true rfl, Nat.le_of_ble_eq_true rfl⟩ rfl rfl (Nat.le_of_ble_eq_true rfl) ?_
  refine z_if_eq_N (tgt := 9) zh (by decide) dX7_addRow_4 rfl (fun _ => ?_) (fun q => absurd q (by decide))
  refine z_iconst zh dX7_addRow_9 ki_0 ?_
  refine z_istoren zh dX7_addRow_10 (by decide) (L' := [some (rf g t), some (.int (nI 0))]) rfl ?_
  have hl11 : ∀ (q k11 : Nat) (iv : Iv), iv t 2 = nI c → Fr t cc iv0 iv → k11 ≤ cc → cc - k11 < q → Z 11 [some (rf g t), some (.int (nI k11))] [] iv lv := by
    intro q
    induction q with
    | zero => intro k11 iv _ _ _ hn; exact absurd hn (Nat.not_lt_zero _)
    | succ q ih11 =>
      intro k11 iv hc hF hk11 hn11
      refine z_iloadn zh dX7_addRow_11 rfl ?_
      refine z_aloadnR zh dX7_addRow_12 rfl ?_
      refine z_getf zh fl_Table_11 dX7_addRow_13 (ck_T ht) rfl rfl ?_
      refine z_alenG zh (ck_Tc ht) dX7_addRow_16 ?_
      refine z_icmp_ge_N (tgt := 38) zh (by omega) (by omega) dX7_addRow_17 rfl (fun hb1 => ?_) (fun hb1 => ?_)
      · refine z_aloadnR zh dX7_addRow_38 rfl ?_
        refine z_dup zh dX7_addRow_39 rfl ?_
        refine z_getI (x := nI c) zh fl_Table_20 dX7_addRow_40 (ck_T ht) rfl rfl hc ?_
        refine z_iconst zh dX7_addRow_43 ki_1 ?_
        refine z_iaddN zh dX7_addRow_44 ?_
        refine z_putI zh fl_Table_20 dX7_addRow_45 (ck_T ht) rfl rfl (Nat.le_of_ble_eq_true rfl) (Or.inl rfl) ?_
        have hc : upI iv t 2 (nI (c + 1)) t 2 = nI (c + 1) := by rw [upI_at, if_pos ⟨rfl, rfl⟩]
        have hF : Fr t cc iv0 (upI iv t 2 (nI (c + 1))) := hF.put (by omega)
        generalize upI iv t 2 (nI (c + 1)) = iv at hc hF ⊢
        refine z_aloadnR zh dX7_addRow_48 rfl ?_
        refine z_getI (x := nI (c + 1)) zh fl_Table_20 dX7_addRow_49 (ck_T ht) rfl rfl hc ?_
        refine z_iconst zh dX7_addRow_52 ki_1 ?_
        refine z_isubN zh (by omega) dX7_addRow_53 ?_
        exact z_iret zh dX7_addRow_54 (⟨_, rfl, rfl, rfl, hc, by rw [← hiv0]; exact hF⟩)
      · refine z_aloadnR zh dX7_addRow_20 rfl ?_
        refine z_getf zh fl_Table_11 dX7_addRow_21 (ck_T ht) rfl rfl ?_
        refine z_iloadn zh dX7_addRow_24 rfl ?_
        refine z_galdN zh (ck_Tc ht) dX7_addRow_25 (by omega) ?_
        refine z_aloadnR zh dX7_addRow_26 rfl ?_
        refine z_getI (x := nI c) zh fl_Table_20 dX7_addRow_27 (ck_T ht) rfl rfl hc ?_
        refine z_iconst zh dX7_addRow_30 ki_0 ?_
        refine z_iastN zh (ck_Tr ht (by omega)) dX7_addRow_31 (by omega) ?_
        have hc : upI iv (t + 2 + k11) (c) (nI 0) t 2 = nI c := by rw [upI_at, if_neg (by omega)]; exact hc
        have hF : Fr t cc iv0 (upI iv (t + 2 + k11) (c) (nI 0)) := hF.put (by omega)
        generalize upI iv (t + 2 + k11) (c) (nI 0) = iv at hc hF ⊢
        refine z_iincN zh dX7_addRow_32 ki_1 (by decide) rfl (L' := [some (rf g t), some (.int (nI (k11 + 1)))]) rfl ?_
        refine z_goto (tgt := 11) zh dX7_addRow_35 rfl ?_
        exact ih11 (k11 + 1) iv hc hF (by omega) (by omega)
  exact hl11 (cc + 1) 0 iv hc hF (by omega) (by omega)
set_option maxRecDepth 20000 in
theorem c_put (g : GE) {t cc nn c q r : Nat} {v : Int32} {iv : Iv} {lv : Lv}  (ht : isT t cc nn) (hc : iv t 2 = nI c) (hcn : c ≤ nn) (hn1 : nn < 2 ^ 31) (hn2 : cc < 20) (hq : q < cc) (hr : r < c)  : ConV g yX7_put cX7_put 4 none 1 [rf g t, .int (nI q), .int (nI r), .int v] iv lv (fun iv' lv' => lv' = lv ∧ iv' t 2 = nI c ∧ Fr t cc iv iv') := by
  refine con_intro (own := "RollingNets$Table") (by decide +kernel) rfl (Nat.le_of_ble_eq_true rfl) (L0 := [some (rf g t), some (.int (nI q)), some (.int (nI r)), some (.int v)]) rfl (fun Z zh => ?_)
  refine z_iloadn zh dX7_put_0 rfl ?_
  refine z_if_lt_N (tgt := 34) zh (by omega) dX7_put_1 rfl ?_
  refine z_iloadn zh dX7_put_4 rfl ?_
  refine z_aloadnR zh dX7_put_5 rfl ?_
  refine z_getf zh fl_Table_11 dX7_put_6 (ck_T ht) rfl rfl ?_
  refine z_alenG zh (ck_Tc ht) dX7_put_9 ?_
  refine z_icmp_ge_N (tgt := 34) zh (by omega) (by omega) dX7_put_10 rfl (fun q => absurd q (by omega)) (fun _ => ?_)
  refine z_iloadn zh dX7_put_13 rfl ?_
  refine z_if_lt_N (tgt := 34) zh (by omega) dX7_put_14 rfl ?_
  refine z_iloadn zh dX7_put_17 rfl ?_
  refine z_aloadnR zh dX7_put_18 rfl ?_
  refine z_getI (x := nI c) zh fl_Table_20 dX7_put_19 (ck_T ht) rfl rfl hc ?_
  refine z_icmp_ge_N (tgt := 34) zh (by omega) (by omega) dX7_put_22 rfl (fun q => absurd q (by omega)) (fun _ => ?_)
  refine z_aloadnR zh dX7_put_25 rfl ?_
  refine z_getf zh fl_Table_11 dX7_put_26 (ck_T ht) rfl rfl ?_
  refine z_iloadn zh dX7_put_29 rfl ?_
  refine z_galdN zh (ck_Tc ht) dX7_put_30 (by omega) ?_
  refine z_iloadn zh dX7_put_31 rfl ?_
  refine z_iloadn zh dX7_put_32 rfl ?_
  refine z_iastN zh (ck_Tr ht (by omega)) dX7_put_33 (by omega) ?_
  exact z_vret zh dX7_put_34 (⟨rfl, rfl, by rw [upI_at, if_neg (by omega)]; exact hc, (show Fr t cc iv iv from fun _ _ _ => rfl).put (by omega)⟩)
