/-! THE CONSTRUCTOR of the reference -/
set_option maxRecDepth 20000 in
theorem kx_Model {g : GE} {M0 : CM} (hM : M0 551 = .inr (6, [.int 0, .null, .null, .null, .null, .int 0, .int 0, .int 0, .null, .int 0, .int 0, .null, .null, .null, .int 0, .null, .null, .int 0, .int 0, .int 0, .int 0, .int 0, .null, .int 0, .int 0, .int 0, .int 0, .int 0, .null, .int 0, .null, .null])) : ConC g yX9_init cX9_init 1 1 14 63972 [rf g 551] 552 M0 (fun n1 M1 => n1 = 566 ∧ M1 = Fm g 551 M0) := by
  refine kon_intro (own := "RollingNetsModel") (by decide +kernel) rfl rfl (Nat.le_of_ble_eq_true rfl) (L0 := [some (rf g 551)]) rfl (fun Z kh => ?_)
  refine k_ext kh (M' := X1 g 551 M0 (.inr (6, [.int 0, .null, .null, .null, .null, .int 0, .int 0, .int 0, .null, .int 0, .int 0, .null, .null, .null, .int 0, .null, .null, .int 0, .int 0, .int 0, .int 0, .int 0, .null, .int 0, .int 0, .int 0, .int 0, .int 0, .null, .int 0, .null, .null]))) (X1_start hM) ?_
  refine k_aloadn kh dX9_init_0 rfl ?_
  refine k_objInit kh dX9_init_1 tk_1060 tk_133 tk_134 ⟨(Nat.le_of_ble_eq_true rfl), (Nat.le_of_ble_eq_true rfl)⟩ (Nat.le_of_ble_eq_true rfl) ?_
  refine k_aloadn kh dX9_init_4 rfl ?_
  refine k_sipush kh dX9_init_5 ks_19782 ?_
  refine k_newI (N := 19782) kh dX9_init_8 tk_163 (by decide) (Nat.le_of_ble_eq_true rfl) (Nat.le_of_ble_eq_true rfl) ?_
  refine k_eqM (M' := X1 g 551 M0 (.inr (6, [.int 0, .null, .null, .null, .null, .int 0, .int 0, .int 0, .null, .int 0, .int 0, .null, .null, .null, .int 0, .null, .null, .int 0, .int 0, .int 0, .int 0, .int 0, .null, .int 0, .int 0, .int 0, .int 0, .int 0, .null, .int 0, .null, .null]))) (X1_new (by omega) (fr_YI ck_now (by decide) (by decide))) ?_
  refine k_at (n' := 553) (kc' := 1) (ks' := 19782) rfl rfl rfl ?_
  refine k_putF kh ckc_6 (j := 1) (by decide) rfl rfl tm_1062 dX9_init_10 (by omega) X1_at ⟨rfl, rfl⟩ (Nat.le_of_ble_eq_true rfl) ?_
  refine k_eqM (M' := X1 g 551 M0 (.inr (6, [.int 0, rf g 552, .null, .null, .null, .int 0, .int 0, .int 0, .null, .int 0, .int 0, .null, .null, .null, .int 0, .null, .null, .int 0, .int 0, .int 0, .int 0, .int 0, .null, .int 0, .int 0, .int 0, .int 0, .int 0, .null, .int 0, .null, .null]))) X1_put ?_
  refine k_aloadn kh dX9_init_13 rfl ?_
  refine k_sipush kh dX9_init_14 ks_19782 ?_
  refine k_newI (N := 19782) kh dX9_init_17 tk_163 (by decide) (Nat.le_of_ble_eq_true rfl) (Nat.le_of_ble_eq_true rfl) ?_
  refine k_eqM (M' := X1 g 551 M0 (.inr (6, [.int 0, rf g 552, .null, .null, .null, .int 0, .int 0, .int 0, .null, .int 0, .int 0, .null, .null, .null, .int 0, .null, .null, .int 0, .int 0, .int 0, .int 0, .int 0, .null, .int 0, .int 0, .int 0, .int 0, .int 0, .null, .int 0, .null, .null]))) (X1_new (by omega) (fr_YI ck_waiting (by decide) (by decide))) ?_
  refine k_at (n' := 554) (kc' := 2) (ks' := 39564) rfl rfl rfl ?_
  refine k_putF kh ckc_6 (j := 2) (by decide) rfl rfl tm_1063 dX9_init_19 (by omega) X1_at ⟨rfl, rfl⟩ (Nat.le_of_ble_eq_true rfl) ?_
  refine k_eqM (M' := X1 g 551 M0 (.inr (6, [.int 0, rf g 552, rf g 553, .null, .null, .int 0, .int 0, .int 0, .null, .int 0, .int 0, .null, .null, .null, .int 0, .null, .null, .int 0, .int 0, .int 0, .int 0, .int 0, .null, .int 0, .int 0, .int 0, .int 0, .int 0, .null, .int 0, .null, .null]))) X1_put ?_
  refine k_aloadn kh dX9_init_22 rfl ?_
  refine k_bipush kh dX9_init_23 kb_13 ?_
  refine k_newL (N := 13) kh dX9_init_25 tk_164 (by decide) (Nat.le_of_ble_eq_true rfl) (Nat.le_of_ble_eq_true rfl) ?_
  refine k_eqM (M' := X1 g 551 M0 (.inr (6, [.int 0, rf g 552, rf g 553, .null, .null, .int 0, .int 0, .int 0, .null, .int 0, .int 0, .null, .null, .null, .int 0, .null, .null, .int 0, .int 0, .int 0, .int 0, .int 0, .null, .int 0, .int 0, .int 0, .int 0, .int 0, .null, .int 0, .null, .null]))) (X1_new (by omega) (fr_L ck_coins)) ?_
  refine k_at (n' := 555) (kc' := 3) (ks' := 39577) rfl rfl rfl ?_
  refine k_putF kh ckc_6 (j := 3) (by decide) rfl rfl tm_1064 dX9_init_27 (by omega) X1_at ⟨rfl, rfl⟩ (Nat.le_of_ble_eq_true rfl) ?_
  refine k_eqM (M' := X1 g 551 M0 (.inr (6, [.int 0, rf g 552, rf g 553, rf g 554, .null, .int 0, .int 0, .int 0, .null, .int 0, .int 0, .null, .null, .null, .int 0, .null, .null, .int 0, .int 0, .int 0, .int 0, .int 0, .null, .int 0, .int 0, .int 0, .int 0, .int 0, .null, .int 0, .null, .null]))) X1_put ?_
  refine k_aloadn kh dX9_init_30 rfl ?_
  refine k_bipush kh dX9_init_31 kb_13 ?_
  refine k_newL (N := 13) kh dX9_init_33 tk_164 (by decide) (Nat.le_of_ble_eq_true rfl) (Nat.le_of_ble_eq_true rfl) ?_
  refine k_eqM (M' := X1 g 551 M0 (.inr (6, [.int 0, rf g 552, rf g 553, rf g 554, .null, .int 0, .int 0, .int 0, .null, .int 0, .int 0, .null, .null, .null, .int 0, .null, .null, .int 0, .int 0, .int 0, .int 0, .int 0, .null, .int 0, .int 0, .int 0, .int 0, .int 0, .null, .int 0, .null, .null]))) (X1_new (by omega) (fr_L ck_coinsW)) ?_
  refine k_at (n' := 556) (kc' := 4) (ks' := 39590) rfl rfl rfl ?_
  refine k_putF kh ckc_6 (j := 4) (by decide) rfl rfl tm_1065 dX9_init_35 (by omega) X1_at ⟨rfl, rfl⟩ (Nat.le_of_ble_eq_true rfl) ?_
  refine k_eqM (M' := X1 g 551 M0 (.inr (6, [.int 0, rf g 552, rf g 553, rf g 554, rf g 555, .int 0, .int 0, .int 0, .null, .int 0, .int 0, .null, .null, .null, .int 0, .null, .null, .int 0, .int 0, .int 0, .int 0, .int 0, .null, .int 0, .int 0, .int 0, .int 0, .int 0, .null, .int 0, .null, .null]))) X1_put ?_
  refine k_aloadn kh dX9_init_38 rfl ?_
  refine k_bipush kh dX9_init_39 kb_13 ?_
  refine k_newI (N := 13) kh dX9_init_41 tk_163 (by decide) (Nat.le_of_ble_eq_true rfl) (Nat.le_of_ble_eq_true rfl) ?_
  refine k_eqM (M' := X1 g 551 M0 (.inr (6, [.int 0, rf g 552, rf g 553, rf g 554, rf g 555, .int 0, .int 0, .int 0, .null, .int 0, .int 0, .null, .null, .null, .int 0, .null, .null, .int 0, .int 0, .int 0, .int 0, .int 0, .null, .int 0, .int 0, .int 0, .int 0, .int 0, .null, .int 0, .null, .null]))) (X1_new (by omega) (fr_YI ck_ychain (by decide) (by decide))) ?_
  refine k_at (n' := 557) (kc' := 5) (ks' := 39603) rfl rfl rfl ?_
  refine k_putF kh ckc_6 (j := 8) (by decide) rfl rfl tm_1069 dX9_init_43 (by omega) X1_at ⟨rfl, rfl⟩ (Nat.le_of_ble_eq_true rfl) ?_
  refine k_eqM (M' := X1 g 551 M0 (.inr (6, [.int 0, rf g 552, rf g 553, rf g 554, rf g 555, .int 0, .int 0, .int 0, rf g 556, .int 0, .int 0, .null, .null, .null, .int 0, .null, .null, .int 0, .int 0, .int 0, .int 0, .int 0, .null, .int 0, .int 0, .int 0, .int 0, .int 0, .null, .int 0, .null, .null]))) X1_put ?_
  refine k_aloadn kh dX9_init_46 rfl ?_
  refine k_sipush kh dX9_init_47 ks_1224 ?_
  refine k_newI (N := 1224) kh dX9_init_50 tk_163 (by decide) (Nat.le_of_ble_eq_true rfl) (Nat.le_of_ble_eq_true rfl) ?_
  refine k_eqM (M' := X1 g 551 M0 (.inr (6, [.int 0, rf g 552, rf g 553, rf g 554, rf g 555, .int 0, .int 0, .int 0, rf g 556, .int 0, .int 0, .null, .null, .null, .int 0, .null, .null, .int 0, .int 0, .int 0, .int 0, .int 0, .null, .int 0, .int 0, .int 0, .int 0, .int 0, .null, .int 0, .null, .null]))) (X1_new (by omega) (fr_YI ck_qM (by decide) (by decide))) ?_
  refine k_at (n' := 558) (kc' := 6) (ks' := 40827) rfl rfl rfl ?_
  refine k_putF kh ckc_6 (j := 11) (by decide) rfl rfl tm_1072 dX9_init_52 (by omega) X1_at ⟨rfl, rfl⟩ (Nat.le_of_ble_eq_true rfl) ?_
  refine k_eqM (M' := X1 g 551 M0 (.inr (6, [.int 0, rf g 552, rf g 553, rf g 554, rf g 555, .int 0, .int 0, .int 0, rf g 556, .int 0, .int 0, rf g 557, .null, .null, .int 0, .null, .null, .int 0, .int 0, .int 0, .int 0, .int 0, .null, .int 0, .int 0, .int 0, .int 0, .int 0, .null, .int 0, .null, .null]))) X1_put ?_
  refine k_aloadn kh dX9_init_55 rfl ?_
  refine k_sipush kh dX9_init_56 ks_1224 ?_
  refine k_newI (N := 1224) kh dX9_init_59 tk_163 (by decide) (Nat.le_of_ble_eq_true rfl) (Nat.le_of_ble_eq_true rfl) ?_
  refine k_eqM (M' := X1 g 551 M0 (.inr (6, [.int 0, rf g 552, rf g 553, rf g 554, rf g 555, .int 0, .int 0, .int 0, rf g 556, .int 0, .int 0, rf g 557, .null, .null, .int 0, .null, .null, .int 0, .int 0, .int 0, .int 0, .int 0, .null, .int 0, .int 0, .int 0, .int 0, .int 0, .null, .int 0, .null, .null]))) (X1_new (by omega) (fr_YI ck_qD (by decide) (by decide))) ?_
  refine k_at (n' := 559) (kc' := 7) (ks' := 42051) rfl rfl rfl ?_
  refine k_putF kh ckc_6 (j := 12) (by decide) rfl rfl tm_1073 dX9_init_61 (by omega) X1_at ⟨rfl, rfl⟩ (Nat.le_of_ble_eq_true rfl) ?_
  refine k_eqM (M' := X1 g 551 M0 (.inr (6, [.int 0, rf g 552, rf g 553, rf g 554, rf g 555, .int 0, .int 0, .int 0, rf g 556, .int 0, .int 0, rf g 557, rf g 558, .null, .int 0, .null, .null, .int 0, .int 0, .int 0, .int 0, .int 0, .null, .int 0, .int 0, .int 0, .int 0, .int 0, .null, .int 0, .null, .null]))) X1_put ?_
  refine k_aloadn kh dX9_init_64 rfl ?_
  refine k_sipush kh dX9_init_65 ks_1224 ?_
  refine k_newI (N := 1224) kh dX9_init_68 tk_163 (by decide) (Nat.le_of_ble_eq_true rfl) (Nat.le_of_ble_eq_true rfl) ?_
  refine k_eqM (M' := X1 g 551 M0 (.inr (6, [.int 0, rf g 552, rf g 553, rf g 554, rf g 555, .int 0, .int 0, .int 0, rf g 556, .int 0, .int 0, rf g 557, rf g 558, .null, .int 0, .null, .null, .int 0, .int 0, .int 0, .int 0, .int 0, .null, .int 0, .int 0, .int 0, .int 0, .int 0, .null, .int 0, .null, .null]))) (X1_new (by omega) (fr_YI ck_qS (by decide) (by decide))) ?_
  refine k_at (n' := 560) (kc' := 8) (ks' := 43275) rfl rfl rfl ?_
  refine k_putF kh ckc_6 (j := 13) (by decide) rfl rfl tm_1074 dX9_init_70 (by omega) X1_at ⟨rfl, rfl⟩ (Nat.le_of_ble_eq_true rfl) ?_
  refine k_eqM (M' := X1 g 551 M0 (.inr (6, [.int 0, rf g 552, rf g 553, rf g 554, rf g 555, .int 0, .int 0, .int 0, rf g 556, .int 0, .int 0, rf g 557, rf g 558, rf g 559, .int 0, .null, .null, .int 0, .int 0, .int 0, .int 0, .int 0, .null, .int 0, .int 0, .int 0, .int 0, .int 0, .null, .int 0, .null, .null]))) X1_put ?_
  refine k_aloadn kh dX9_init_73 rfl ?_
  refine k_bipush kh dX9_init_74 kb_12 ?_
  refine k_newZ (N := 12) kh dX9_init_76 tk_165 (by decide) (Nat.le_of_ble_eq_true rfl) (Nat.le_of_ble_eq_true rfl) ?_
  refine k_eqM (M' := X1 g 551 M0 (.inr (6, [.int 0, rf g 552, rf g 553, rf g 554, rf g 555, .int 0, .int 0, .int 0, rf g 556, .int 0, .int 0, rf g 557, rf g 558, rf g 559, .int 0, .null, .null, .int 0, .int 0, .int 0, .int 0, .int 0, .null, .int 0, .int 0, .int 0, .int 0, .int 0, .null, .int 0, .null, .null]))) (X1_new (by omega) (fr_Z ck_did (by decide) (hz_Y (by decide)))) ?_
  refine k_at (n' := 561) (kc' := 9) (ks' := 43287) rfl rfl rfl ?_
  refine k_putF kh ckc_6 (j := 15) (by decide) rfl rfl tm_1076 dX9_init_78 (by omega) X1_at ⟨rfl, rfl⟩ (Nat.le_of_ble_eq_true rfl) ?_
  refine k_eqM (M' := X1 g 551 M0 (.inr (6, [.int 0, rf g 552, rf g 553, rf g 554, rf g 555, .int 0, .int 0, .int 0, rf g 556, .int 0, .int 0, rf g 557, rf g 558, rf g 559, .int 0, rf g 560, .null, .int 0, .int 0, .int 0, .int 0, .int 0, .null, .int 0, .int 0, .int 0, .int 0, .int 0, .null, .int 0, .null, .null]))) X1_put ?_
  refine k_aloadn kh dX9_init_81 rfl ?_
  refine k_sipush kh dX9_init_82 ks_400 ?_
  refine k_newI (N := 400) kh dX9_init_85 tk_163 (by decide) (Nat.le_of_ble_eq_true rfl) (Nat.le_of_ble_eq_true rfl) ?_
  refine k_eqM (M' := X1 g 551 M0 (.inr (6, [.int 0, rf g 552, rf g 553, rf g 554, rf g 555, .int 0, .int 0, .int 0, rf g 556, .int 0, .int 0, rf g 557, rf g 558, rf g 559, .int 0, rf g 560, .null, .int 0, .int 0, .int 0, .int 0, .int 0, .null, .int 0, .int 0, .int 0, .int 0, .int 0, .null, .int 0, .null, .null]))) (X1_new (by omega) (fr_YI ck_ytape (by decide) (by decide))) ?_
  refine k_at (n' := 562) (kc' := 10) (ks' := 43687) rfl rfl rfl ?_
  refine k_putF kh ckc_6 (j := 16) (by decide) rfl rfl tm_1077 dX9_init_87 (by omega) X1_at ⟨rfl, rfl⟩ (Nat.le_of_ble_eq_true rfl) ?_
  refine k_eqM (M' := X1 g 551 M0 (.inr (6, [.int 0, rf g 552, rf g 553, rf g 554, rf g 555, .int 0, .int 0, .int 0, rf g 556, .int 0, .int 0, rf g 557, rf g 558, rf g 559, .int 0, rf g 560, rf g 561, .int 0, .int 0, .int 0, .int 0, .int 0, .null, .int 0, .int 0, .int 0, .int 0, .int 0, .null, .int 0, .null, .null]))) X1_put ?_
  refine k_aloadn kh dX9_init_90 rfl ?_
  refine k_bipush kh dX9_init_91 kb_57 ?_
  refine k_newI (N := 57) kh dX9_init_93 tk_163 (by decide) (Nat.le_of_ble_eq_true rfl) (Nat.le_of_ble_eq_true rfl) ?_
  refine k_eqM (M' := upC (X1 g 551 M0 (.inr (6, [.int 0, rf g 552, rf g 553, rf g 554, rf g 555, .int 0, .int 0, .int 0, rf g 556, .int 0, .int 0, rf g 557, rf g 558, rf g 559, .int 0, rf g 560, rf g 561, .int 0, .int 0, .int 0, .int 0, .int 0, .null, .int 0, .int 0, .int 0, .int 0, .int 0, .null, .int 0, .null, .null]))) 562 (aI g 57 (wd 0) (fun _ => 0))) rfl ?_
  refine k_at (n' := 563) (kc' := 11) (ks' := 43744) rfl rfl rfl ?_
  refine k_dup kh dX9_init_95 rfl ?_
  refine k_iconst kh dX9_init_96 ki_0 ?_
  refine k_bipush kh dX9_init_97 kb_32 ?_
  refine k_iast (N := 57) kh dX9_init_99 (a := 562) (by omega) upC_s (by decide) (by decide) ?_
  refine k_eqM (M' := upC (X1 g 551 M0 (.inr (6, [.int 0, rf g 552, rf g 553, rf g 554, rf g 555, .int 0, .int 0, .int 0, rf g 556, .int 0, .int 0, rf g 557, rf g 558, rf g 559, .int 0, rf g 560, rf g 561, .int 0, .int 0, .int 0, .int 0, .int 0, .null, .int 0, .int 0, .int 0, .int 0, .int 0, .null, .int 0, .null, .null]))) 562 (aI g 57 (wd 1) (fun _ => 0))) upC_upC ?_
  refine k_dup kh dX9_init_100 rfl ?_
  refine k_iconst kh dX9_init_101 ki_1 ?_
  refine k_bipush kh dX9_init_102 kb_98 ?_
  refine k_iast (N := 57) kh dX9_init_104 (a := 562) (by omega) upC_s (by decide) (by decide) ?_
  refine k_eqM (M' := upC (X1 g 551 M0 (.inr (6, [.int 0, rf g 552, rf g 553, rf g 554, rf g 555, .int 0, .int 0, .int 0, rf g 556, .int 0, .int 0, rf g 557, rf g 558, rf g 559, .int 0, rf g 560, rf g 561, .int 0, .int 0, .int 0, .int 0, .int 0, .null, .int 0, .int 0, .int 0, .int 0, .int 0, .null, .int 0, .null, .null]))) 562 (aI g 57 (wd 2) (fun _ => 0))) upC_upC ?_
  refine k_dup kh dX9_init_105 rfl ?_
  refine k_iconst kh dX9_init_106 ki_2 ?_
  refine k_bipush kh dX9_init_107 kb_117 ?_
  refine k_iast (N := 57) kh dX9_init_109 (a := 562) (by omega) upC_s (by decide) (by decide) ?_
  refine k_eqM (M' := upC (X1 g 551 M0 (.inr (6, [.int 0, rf g 552, rf g 553, rf g 554, rf g 555, .int 0, .int 0, .int 0, rf g 556, .int 0, .int 0, rf g 557, rf g 558, rf g 559, .int 0, rf g 560, rf g 561, .int 0, .int 0, .int 0, .int 0, .int 0, .null, .int 0, .int 0, .int 0, .int 0, .int 0, .null, .int 0, .null, .null]))) 562 (aI g 57 (wd 3) (fun _ => 0))) upC_upC ?_
  refine k_dup kh dX9_init_110 rfl ?_
  refine k_iconst kh dX9_init_111 ki_3 ?_
  refine k_bipush kh dX9_init_112 kb_121 ?_
  refine k_iast (N := 57) kh dX9_init_114 (a := 562) (by omega) upC_s (by decide) (by decide) ?_
  refine k_eqM (M' := upC (X1 g 551 M0 (.inr (6, [.int 0, rf g 552, rf g 553, rf g 554, rf g 555, .int 0, .int 0, .int 0, rf g 556, .int 0, .int 0, rf g 557, rf g 558, rf g 559, .int 0, rf g 560, rf g 561, .int 0, .int 0, .int 0, .int 0, .int 0, .null, .int 0, .int 0, .int 0, .int 0, .int 0, .null, .int 0, .null, .null]))) 562 (aI g 57 (wd 4) (fun _ => 0))) upC_upC ?_
  refine k_dup kh dX9_init_115 rfl ?_
  refine k_iconst kh dX9_init_116 ki_4 ?_
  refine k_bipush kh dX9_init_117 kb_32 ?_
  refine k_iast (N := 57) kh dX9_init_119 (a := 562) (by omega) upC_s (by decide) (by decide) ?_
  refine k_eqM (M' := upC (X1 g 551 M0 (.inr (6, [.int 0, rf g 552, rf g 553, rf g 554, rf g 555, .int 0, .int 0, .int 0, rf g 556, .int 0, .int 0, rf g 557, rf g 558, rf g 559, .int 0, rf g 560, rf g 561, .int 0, .int 0, .int 0, .int 0, .int 0, .null, .int 0, .int 0, .int 0, .int 0, .int 0, .null, .int 0, .null, .null]))) 562 (aI g 57 (wd 5) (fun _ => 0))) upC_upC ?_
  refine k_dup kh dX9_init_120 rfl ?_
  refine k_iconst kh dX9_init_121 ki_5 ?_
  refine k_bipush kh dX9_init_122 kb_97 ?_
  refine k_iast (N := 57) kh dX9_init_124 (a := 562) (by omega) upC_s (by decide) (by decide) ?_
  refine k_eqM (M' := upC (X1 g 551 M0 (.inr (6, [.int 0, rf g 552, rf g 553, rf g 554, rf g 555, .int 0, .int 0, .int 0, rf g 556, .int 0, .int 0, rf g 557, rf g 558, rf g 559, .int 0, rf g 560, rf g 561, .int 0, .int 0, .int 0, .int 0, .int 0, .null, .int 0, .int 0, .int 0, .int 0, .int 0, .null, .int 0, .null, .null]))) 562 (aI g 57 (wd 6) (fun _ => 0))) upC_upC ?_
  refine k_dup kh dX9_init_125 rfl ?_
  refine k_bipush kh dX9_init_126 kb_6 ?_
  refine k_bipush kh dX9_init_128 kb_112 ?_
  refine k_iast (N := 57) kh dX9_init_130 (a := 562) (by omega) upC_s (by decide) (by decide) ?_
  refine k_eqM (M' := upC (X1 g 551 M0 (.inr (6, [.int 0, rf g 552, rf g 553, rf g 554, rf g 555, .int 0, .int 0, .int 0, rf g 556, .int 0, .int 0, rf g 557, rf g 558, rf g 559, .int 0, rf g 560, rf g 561, .int 0, .int 0, .int 0, .int 0, .int 0, .null, .int 0, .int 0, .int 0, .int 0, .int 0, .null, .int 0, .null, .null]))) 562 (aI g 57 (wd 7) (fun _ => 0))) upC_upC ?_
  refine k_dup kh dX9_init_131 rfl ?_
  refine k_bipush kh dX9_init_132 kb_7 ?_
  refine k_bipush kh dX9_init_134 kb_97 ?_
  refine k_iast (N := 57) kh dX9_init_136 (a := 562) (by omega) upC_s (by decide) (by decide) ?_
  refine k_eqM (M' := upC (X1 g 551 M0 (.inr (6, [.int 0, rf g 552, rf g 553, rf g 554, rf g 555, .int 0, .int 0, .int 0, rf g 556, .int 0, .int 0, rf g 557, rf g 558, rf g 559, .int 0, rf g 560, rf g 561, .int 0, .int 0, .int 0, .int 0, .int 0, .null, .int 0, .int 0, .int 0, .int 0, .int 0, .null, .int 0, .null, .null]))) 562 (aI g 57 (wd 8) (fun _ => 0))) upC_upC ?_
  refine k_dup kh dX9_init_137 rfl ?_
  refine k_bipush kh dX9_init_138 kb_8 ?_
  refine k_bipush kh dX9_init_140 kb_114 ?_
  refine k_iast (N := 57) kh dX9_init_142 (a := 562) (by omega) upC_s (by decide) (by decide) ?_
  refine k_eqM (M' := upC (X1 g 551 M0 (.inr (6, [.int 0, rf g 552, rf g 553, rf g 554, rf g 555, .int 0, .int 0, .int 0, rf g 556, .int 0, .int 0, rf g 557, rf g 558, rf g 559, .int 0, rf g 560, rf g 561, .int 0, .int 0, .int 0, .int 0, .int 0, .null, .int 0, .int 0, .int 0, .int 0, .int 0, .null, .int 0, .null, .null]))) 562 (aI g 57 (wd 9) (fun _ => 0))) upC_upC ?_
  refine k_dup kh dX9_init_143 rfl ?_
  refine k_bipush kh dX9_init_144 kb_9 ?_
  refine k_bipush kh dX9_init_146 kb_116 ?_
  refine k_iast (N := 57) kh dX9_init_148 (a := 562) (by omega) upC_s (by decide) (by decide) ?_
  refine k_eqM (M' := upC (X1 g 551 M0 (.inr (6, [.int 0, rf g 552, rf g 553, rf g 554, rf g 555, .int 0, .int 0, .int 0, rf g 556, .int 0, .int 0, rf g 557, rf g 558, rf g 559, .int 0, rf g 560, rf g 561, .int 0, .int 0, .int 0, .int 0, .int 0, .null, .int 0, .int 0, .int 0, .int 0, .int 0, .null, .int 0, .null, .null]))) 562 (aI g 57 (wd 10) (fun _ => 0))) upC_upC ?_
  refine k_dup kh dX9_init_149 rfl ?_
  refine k_bipush kh dX9_init_150 kb_10 ?_
  refine k_bipush kh dX9_init_152 kb_32 ?_
  refine k_iast (N := 57) kh dX9_init_154 (a := 562) (by omega) upC_s (by decide) (by decide) ?_
  refine k_eqM (M' := upC (X1 g 551 M0 (.inr (6, [.int 0, rf g 552, rf g 553, rf g 554, rf g 555, .int 0, .int 0, .int 0, rf g 556, .int 0, .int 0, rf g 557, rf g 558, rf g 559, .int 0, rf g 560, rf g 561, .int 0, .int 0, .int 0, .int 0, .int 0, .null, .int 0, .int 0, .int 0, .int 0, .int 0, .null, .int 0, .null, .null]))) 562 (aI g 57 (wd 11) (fun _ => 0))) upC_upC ?_
  refine k_dup kh dX9_init_155 rfl ?_
  refine k_bipush kh dX9_init_156 kb_11 ?_
  refine k_bipush kh dX9_init_158 kb_115 ?_
  refine k_iast (N := 57) kh dX9_init_160 (a := 562) (by omega) upC_s (by decide) (by decide) ?_
  refine k_eqM (M' := upC (X1 g 551 M0 (.inr (6, [.int 0, rf g 552, rf g 553, rf g 554, rf g 555, .int 0, .int 0, .int 0, rf g 556, .int 0, .int 0, rf g 557, rf g 558, rf g 559, .int 0, rf g 560, rf g 561, .int 0, .int 0, .int 0, .int 0, .int 0, .null, .int 0, .int 0, .int 0, .int 0, .int 0, .null, .int 0, .null, .null]))) 562 (aI g 57 (wd 12) (fun _ => 0))) upC_upC ?_
  refine k_dup kh dX9_init_161 rfl ?_
  refine k_bipush kh dX9_init_162 kb_12 ?_
  refine k_bipush kh dX9_init_164 kb_116 ?_
  refine k_iast (N := 57) kh dX9_init_166 (a := 562) (by omega) upC_s (by decide) (by decide) ?_
  refine k_eqM (M' := upC (X1 g 551 M0 (.inr (6, [.int 0, rf g 552, rf g 553, rf g 554, rf g 555, .int 0, .int 0, .int 0, rf g 556, .int 0, .int 0, rf g 557, rf g 558, rf g 559, .int 0, rf g 560, rf g 561, .int 0, .int 0, .int 0, .int 0, .int 0, .null, .int 0, .int 0, .int 0, .int 0, .int 0, .null, .int 0, .null, .null]))) 562 (aI g 57 (wd 13) (fun _ => 0))) upC_upC ?_
  refine k_dup kh dX9_init_167 rfl ?_
  refine k_bipush kh dX9_init_168 kb_13 ?_
  refine k_bipush kh dX9_init_170 kb_111 ?_
  refine k_iast (N := 57) kh dX9_init_172 (a := 562) (by omega) upC_s (by decide) (by decide) ?_
  refine k_eqM (M' := upC (X1 g 551 M0 (.inr (6, [.int 0, rf g 552, rf g 553, rf g 554, rf g 555, .int 0, .int 0, .int 0, rf g 556, .int 0, .int 0, rf g 557, rf g 558, rf g 559, .int 0, rf g 560, rf g 561, .int 0, .int 0, .int 0, .int 0, .int 0, .null, .int 0, .int 0, .int 0, .int 0, .int 0, .null, .int 0, .null, .null]))) 562 (aI g 57 (wd 14) (fun _ => 0))) upC_upC ?_
  refine k_dup kh dX9_init_173 rfl ?_
  refine k_bipush kh dX9_init_174 kb_14 ?_
  refine k_bipush kh dX9_init_176 kb_99 ?_
  refine k_iast (N := 57) kh dX9_init_178 (a := 562) (by omega) upC_s (by decide) (by decide) ?_
  refine k_eqM (M' := upC (X1 g 551 M0 (.inr (6, [.int 0, rf g 552, rf g 553, rf g 554, rf g 555, .int 0, .int 0, .int 0, rf g 556, .int 0, .int 0, rf g 557, rf g 558, rf g 559, .int 0, rf g 560, rf g 561, .int 0, .int 0, .int 0, .int 0, .int 0, .null, .int 0, .int 0, .int 0, .int 0, .int 0, .null, .int 0, .null, .null]))) 562 (aI g 57 (wd 15) (fun _ => 0))) upC_upC ?_
  refine k_dup kh dX9_init_179 rfl ?_
  refine k_bipush kh dX9_init_180 kb_15 ?_
  refine k_bipush kh dX9_init_182 kb_107 ?_
  refine k_iast (N := 57) kh dX9_init_184 (a := 562) (by omega) upC_s (by decide) (by decide) ?_
  refine k_eqM (M' := upC (X1 g 551 M0 (.inr (6, [.int 0, rf g 552, rf g 553, rf g 554, rf g 555, .int 0, .int 0, .int 0, rf g 556, .int 0, .int 0, rf g 557, rf g 558, rf g 559, .int 0, rf g 560, rf g 561, .int 0, .int 0, .int 0, .int 0, .int 0, .null, .int 0, .int 0, .int 0, .int 0, .int 0, .null, .int 0, .null, .null]))) 562 (aI g 57 (wd 16) (fun _ => 0))) upC_upC ?_
  refine k_dup kh dX9_init_185 rfl ?_
  refine k_bipush kh dX9_init_186 kb_16 ?_
  refine k_bipush kh dX9_init_188 kb_32 ?_
  refine k_iast (N := 57) kh dX9_init_190 (a := 562) (by omega) upC_s (by decide) (by decide) ?_
  refine k_eqM (M' := upC (X1 g 551 M0 (.inr (6, [.int 0, rf g 552, rf g 553, rf g 554, rf g 555, .int 0, .int 0, .int 0, rf g 556, .int 0, .int 0, rf g 557, rf g 558, rf g 559, .int 0, rf g 560, rf g 561, .int 0, .int 0, .int 0, .int 0, .int 0, .null, .int 0, .int 0, .int 0, .int 0, .int 0, .null, .int 0, .null, .null]))) 562 (aI g 57 (wd 17) (fun _ => 0))) upC_upC ?_
  refine k_dup kh dX9_init_191 rfl ?_
  refine k_bipush kh dX9_init_192 kb_17 ?_
  refine k_bipush kh dX9_init_194 kb_114 ?_
  refine k_iast (N := 57) kh dX9_init_196 (a := 562) (by omega) upC_s (by decide) (by decide) ?_
  refine k_eqM (M' := upC (X1 g 551 M0 (.inr (6, [.int 0, rf g 552, rf g 553, rf g 554, rf g 555, .int 0, .int 0, .int 0, rf g 556, .int 0, .int 0, rf g 557, rf g 558, rf g 559, .int 0, rf g 560, rf g 561, .int 0, .int 0, .int 0, .int 0, .int 0, .null, .int 0, .int 0, .int 0, .int 0, .int 0, .null, .int 0, .null, .null]))) 562 (aI g 57 (wd 18) (fun _ => 0))) upC_upC ?_
  refine k_dup kh dX9_init_197 rfl ?_
  refine k_bipush kh dX9_init_198 kb_18 ?_
  refine k_bipush kh dX9_init_200 kb_101 ?_
  refine k_iast (N := 57) kh dX9_init_202 (a := 562) (by omega) upC_s (by decide) (by decide) ?_
  refine k_eqM (M' := upC (X1 g 551 M0 (.inr (6, [.int 0, rf g 552, rf g 553, rf g 554, rf g 555, .int 0, .int 0, .int 0, rf g 556, .int 0, .int 0, rf g 557, rf g 558, rf g 559, .int 0, rf g 560, rf g 561, .int 0, .int 0, .int 0, .int 0, .int 0, .null, .int 0, .int 0, .int 0, .int 0, .int 0, .null, .int 0, .null, .null]))) 562 (aI g 57 (wd 19) (fun _ => 0))) upC_upC ?_
  refine k_dup kh dX9_init_203 rfl ?_
  refine k_bipush kh dX9_init_204 kb_19 ?_
  refine k_bipush kh dX9_init_206 kb_115 ?_
  refine k_iast (N := 57) kh dX9_init_208 (a := 562) (by omega) upC_s (by decide) (by decide) ?_
  refine k_eqM (M' := upC (X1 g 551 M0 (.inr (6, [.int 0, rf g 552, rf g 553, rf g 554, rf g 555, .int 0, .int 0, .int 0, rf g 556, .int 0, .int 0, rf g 557, rf g 558, rf g 559, .int 0, rf g 560, rf g 561, .int 0, .int 0, .int 0, .int 0, .int 0, .null, .int 0, .int 0, .int 0, .int 0, .int 0, .null, .int 0, .null, .null]))) 562 (aI g 57 (wd 20) (fun _ => 0))) upC_upC ?_
  refine k_dup kh dX9_init_209 rfl ?_
  refine k_bipush kh dX9_init_210 kb_20 ?_
  refine k_bipush kh dX9_init_212 kb_101 ?_
  refine k_iast (N := 57) kh dX9_init_214 (a := 562) (by omega) upC_s (by decide) (by decide) ?_
  refine k_eqM (M' := upC (X1 g 551 M0 (.inr (6, [.int 0, rf g 552, rf g 553, rf g 554, rf g 555, .int 0, .int 0, .int 0, rf g 556, .int 0, .int 0, rf g 557, rf g 558, rf g 559, .int 0, rf g 560, rf g 561, .int 0, .int 0, .int 0, .int 0, .int 0, .null, .int 0, .int 0, .int 0, .int 0, .int 0, .null, .int 0, .null, .null]))) 562 (aI g 57 (wd 21) (fun _ => 0))) upC_upC ?_
  refine k_dup kh dX9_init_215 rfl ?_
  refine k_bipush kh dX9_init_216 kb_21 ?_
  refine k_bipush kh dX9_init_218 kb_114 ?_
  refine k_iast (N := 57) kh dX9_init_220 (a := 562) (by omega) upC_s (by decide) (by decide) ?_
  refine k_eqM (M' := upC (X1 g 551 M0 (.inr (6, [.int 0, rf g 552, rf g 553, rf g 554, rf g 555, .int 0, .int 0, .int 0, rf g 556, .int 0, .int 0, rf g 557, rf g 558, rf g 559, .int 0, rf g 560, rf g 561, .int 0, .int 0, .int 0, .int 0, .int 0, .null, .int 0, .int 0, .int 0, .int 0, .int 0, .null, .int 0, .null, .null]))) 562 (aI g 57 (wd 22) (fun _ => 0))) upC_upC ?_
  refine k_dup kh dX9_init_221 rfl ?_
  refine k_bipush kh dX9_init_222 kb_22 ?_
  refine k_bipush kh dX9_init_224 kb_118 ?_
  refine k_iast (N := 57) kh dX9_init_226 (a := 562) (by omega) upC_s (by decide) (by decide) ?_
  refine k_eqM (M' := upC (X1 g 551 M0 (.inr (6, [.int 0, rf g 552, rf g 553, rf g 554, rf g 555, .int 0, .int 0, .int 0, rf g 556, .int 0, .int 0, rf g 557, rf g 558, rf g 559, .int 0, rf g 560, rf g 561, .int 0, .int 0, .int 0, .int 0, .int 0, .null, .int 0, .int 0, .int 0, .int 0, .int 0, .null, .int 0, .null, .null]))) 562 (aI g 57 (wd 23) (fun _ => 0))) upC_upC ?_
  refine k_dup kh dX9_init_227 rfl ?_
  refine k_bipush kh dX9_init_228 kb_23 ?_
  refine k_bipush kh dX9_init_230 kb_101 ?_
  refine k_iast (N := 57) kh dX9_init_232 (a := 562) (by omega) upC_s (by decide) (by decide) ?_
  refine k_eqM (M' := upC (X1 g 551 M0 (.inr (6, [.int 0, rf g 552, rf g 553, rf g 554, rf g 555, .int 0, .int 0, .int 0, rf g 556, .int 0, .int 0, rf g 557, rf g 558, rf g 559, .int 0, rf g 560, rf g 561, .int 0, .int 0, .int 0, .int 0, .int 0, .null, .int 0, .int 0, .int 0, .int 0, .int 0, .null, .int 0, .null, .null]))) 562 (aI g 57 (wd 24) (fun _ => 0))) upC_upC ?_
  refine k_dup kh dX9_init_233 rfl ?_
  refine k_bipush kh dX9_init_234 kb_24 ?_
  refine k_bipush kh dX9_init_236 kb_32 ?_
  refine k_iast (N := 57) kh dX9_init_238 (a := 562) (by omega) upC_s (by decide) (by decide) ?_
  refine k_eqM (M' := upC (X1 g 551 M0 (.inr (6, [.int 0, rf g 552, rf g 553, rf g 554, rf g 555, .int 0, .int 0, .int 0, rf g 556, .int 0, .int 0, rf g 557, rf g 558, rf g 559, .int 0, rf g 560, rf g 561, .int 0, .int 0, .int 0, .int 0, .int 0, .null, .int 0, .int 0, .int 0, .int 0, .int 0, .null, .int 0, .null, .null]))) 562 (aI g 57 (wd 25) (fun _ => 0))) upC_upC ?_
  refine k_dup kh dX9_init_239 rfl ?_
  refine k_bipush kh dX9_init_240 kb_25 ?_
  refine k_bipush kh dX9_init_242 kb_108 ?_
  refine k_iast (N := 57) kh dX9_init_244 (a := 562) (by omega) upC_s (by decide) (by decide) ?_
  refine k_eqM (M' := upC (X1 g 551 M0 (.inr (6, [.int 0, rf g 552, rf g 553, rf g 554, rf g 555, .int 0, .int 0, .int 0, rf g 556, .int 0, .int 0, rf g 557, rf g 558, rf g 559, .int 0, rf g 560, rf g 561, .int 0, .int 0, .int 0, .int 0, .int 0, .null, .int 0, .int 0, .int 0, .int 0, .int 0, .null, .int 0, .null, .null]))) 562 (aI g 57 (wd 26) (fun _ => 0))) upC_upC ?_
  refine k_dup kh dX9_init_245 rfl ?_
  refine k_bipush kh dX9_init_246 kb_26 ?_
  refine k_bipush kh dX9_init_248 kb_101 ?_
  refine k_iast (N := 57) kh dX9_init_250 (a := 562) (by omega) upC_s (by decide) (by decide) ?_
  refine k_eqM (M' := upC (X1 g 551 M0 (.inr (6, [.int 0, rf g 552, rf g 553, rf g 554, rf g 555, .int 0, .int 0, .int 0, rf g 556, .int 0, .int 0, rf g 557, rf g 558, rf g 559, .int 0, rf g 560, rf g 561, .int 0, .int 0, .int 0, .int 0, .int 0, .null, .int 0, .int 0, .int 0, .int 0, .int 0, .null, .int 0, .null, .null]))) 562 (aI g 57 (wd 27) (fun _ => 0))) upC_upC ?_
  refine k_dup kh dX9_init_251 rfl ?_
  refine k_bipush kh dX9_init_252 kb_27 ?_
  refine k_bipush kh dX9_init_254 kb_110 ?_
  refine k_iast (N := 57) kh dX9_init_256 (a := 562) (by omega) upC_s (by decide) (by decide) ?_
  refine k_eqM (M' := upC (X1 g 551 M0 (.inr (6, [.int 0, rf g 552, rf g 553, rf g 554, rf g 555, .int 0, .int 0, .int 0, rf g 556, .int 0, .int 0, rf g 557, rf g 558, rf g 559, .int 0, rf g 560, rf g 561, .int 0, .int 0, .int 0, .int 0, .int 0, .null, .int 0, .int 0, .int 0, .int 0, .int 0, .null, .int 0, .null, .null]))) 562 (aI g 57 (wd 28) (fun _ => 0))) upC_upC ?_
  refine k_dup kh dX9_init_257 rfl ?_
  refine k_bipush kh dX9_init_258 kb_28 ?_
  refine k_bipush kh dX9_init_260 kb_100 ?_
  refine k_iast (N := 57) kh dX9_init_262 (a := 562) (by omega) upC_s (by decide) (by decide) ?_
  refine k_eqM (M' := upC (X1 g 551 M0 (.inr (6, [.int 0, rf g 552, rf g 553, rf g 554, rf g 555, .int 0, .int 0, .int 0, rf g 556, .int 0, .int 0, rf g 557, rf g 558, rf g 559, .int 0, rf g 560, rf g 561, .int 0, .int 0, .int 0, .int 0, .int 0, .null, .int 0, .int 0, .int 0, .int 0, .int 0, .null, .int 0, .null, .null]))) 562 (aI g 57 (wd 29) (fun _ => 0))) upC_upC ?_
  refine k_dup kh dX9_init_263 rfl ?_
  refine k_bipush kh dX9_init_264 kb_29 ?_
  refine k_bipush kh dX9_init_266 kb_32 ?_
  refine k_iast (N := 57) kh dX9_init_268 (a := 562) (by omega) upC_s (by decide) (by decide) ?_
  refine k_eqM (M' := upC (X1 g 551 M0 (.inr (6, [.int 0, rf g 552, rf g 553, rf g 554, rf g 555, .int 0, .int 0, .int 0, rf g 556, .int 0, .int 0, rf g 557, rf g 558, rf g 559, .int 0, rf g 560, rf g 561, .int 0, .int 0, .int 0, .int 0, .int 0, .null, .int 0, .int 0, .int 0, .int 0, .int 0, .null, .int 0, .null, .null]))) 562 (aI g 57 (wd 30) (fun _ => 0))) upC_upC ?_
  refine k_dup kh dX9_init_269 rfl ?_
  refine k_bipush kh dX9_init_270 kb_30 ?_
  refine k_bipush kh dX9_init_272 kb_114 ?_
  refine k_iast (N := 57) kh dX9_init_274 (a := 562) (by omega) upC_s (by decide) (by decide) ?_
  refine k_eqM (M' := upC (X1 g 551 M0 (.inr (6, [.int 0, rf g 552, rf g 553, rf g 554, rf g 555, .int 0, .int 0, .int 0, rf g 556, .int 0, .int 0, rf g 557, rf g 558, rf g 559, .int 0, rf g 560, rf g 561, .int 0, .int 0, .int 0, .int 0, .int 0, .null, .int 0, .int 0, .int 0, .int 0, .int 0, .null, .int 0, .null, .null]))) 562 (aI g 57 (wd 31) (fun _ => 0))) upC_upC ?_
  refine k_dup kh dX9_init_275 rfl ?_
  refine k_bipush kh dX9_init_276 kb_31 ?_
  refine k_bipush kh dX9_init_278 kb_97 ?_
  refine k_iast (N := 57) kh dX9_init_280 (a := 562) (by omega) upC_s (by decide) (by decide) ?_
  refine k_eqM (M' := upC (X1 g 551 M0 (.inr (6, [.int 0, rf g 552, rf g 553, rf g 554, rf g 555, .int 0, .int 0, .int 0, rf g 556, .int 0, .int 0, rf g 557, rf g 558, rf g 559, .int 0, rf g 560, rf g 561, .int 0, .int 0, .int 0, .int 0, .int 0, .null, .int 0, .int 0, .int 0, .int 0, .int 0, .null, .int 0, .null, .null]))) 562 (aI g 57 (wd 32) (fun _ => 0))) upC_upC ?_
  refine k_dup kh dX9_init_281 rfl ?_
  refine k_bipush kh dX9_init_282 kb_32 ?_
  refine k_bipush kh dX9_init_284 kb_110 ?_
  refine k_iast (N := 57) kh dX9_init_286 (a := 562) (by omega) upC_s (by decide) (by decide) ?_
  refine k_eqM (M' := upC (X1 g 551 M0 (.inr (6, [.int 0, rf g 552, rf g 553, rf g 554, rf g 555, .int 0, .int 0, .int 0, rf g 556, .int 0, .int 0, rf g 557, rf g 558, rf g 559, .int 0, rf g 560, rf g 561, .int 0, .int 0, .int 0, .int 0, .int 0, .null, .int 0, .int 0, .int 0, .int 0, .int 0, .null, .int 0, .null, .null]))) 562 (aI g 57 (wd 33) (fun _ => 0))) upC_upC ?_
  refine k_dup kh dX9_init_287 rfl ?_
  refine k_bipush kh dX9_init_288 kb_33 ?_
  refine k_bipush kh dX9_init_290 kb_107 ?_
  refine k_iast (N := 57) kh dX9_init_292 (a := 562) (by omega) upC_s (by decide) (by decide) ?_
  refine k_eqM (M' := upC (X1 g 551 M0 (.inr (6, [.int 0, rf g 552, rf g 553, rf g 554, rf g 555, .int 0, .int 0, .int 0, rf g 556, .int 0, .int 0, rf g 557, rf g 558, rf g 559, .int 0, rf g 560, rf g 561, .int 0, .int 0, .int 0, .int 0, .int 0, .null, .int 0, .int 0, .int 0, .int 0, .int 0, .null, .int 0, .null, .null]))) 562 (aI g 57 (wd 34) (fun _ => 0))) upC_upC ?_
  refine k_dup kh dX9_init_293 rfl ?_
  refine k_bipush kh dX9_init_294 kb_34 ?_
  refine k_bipush kh dX9_init_296 kb_32 ?_
  refine k_iast (N := 57) kh dX9_init_298 (a := 562) (by omega) upC_s (by decide) (by decide) ?_
  refine k_eqM (M' := upC (X1 g 551 M0 (.inr (6, [.int 0, rf g 552, rf g 553, rf g 554, rf g 555, .int 0, .int 0, .int 0, rf g 556, .int 0, .int 0, rf g 557, rf g 558, rf g 559, .int 0, rf g 560, rf g 561, .int 0, .int 0, .int 0, .int 0, .int 0, .null, .int 0, .int 0, .int 0, .int 0, .int 0, .null, .int 0, .null, .null]))) 562 (aI g 57 (wd 35) (fun _ => 0))) upC_upC ?_
  refine k_dup kh dX9_init_299 rfl ?_
  refine k_bipush kh dX9_init_300 kb_35 ?_
  refine k_bipush kh dX9_init_302 kb_112 ?_
  refine k_iast (N := 57) kh dX9_init_304 (a := 562) (by omega) upC_s (by decide) (by decide) ?_
  refine k_eqM (M' := upC (X1 g 551 M0 (.inr (6, [.int 0, rf g 552, rf g 553, rf g 554, rf g 555, .int 0, .int 0, .int 0, rf g 556, .int 0, .int 0, rf g 557, rf g 558, rf g 559, .int 0, rf g 560, rf g 561, .int 0, .int 0, .int 0, .int 0, .int 0, .null, .int 0, .int 0, .int 0, .int 0, .int 0, .null, .int 0, .null, .null]))) 562 (aI g 57 (wd 36) (fun _ => 0))) upC_upC ?_
  refine k_dup kh dX9_init_305 rfl ?_
  refine k_bipush kh dX9_init_306 kb_36 ?_
  refine k_bipush kh dX9_init_308 kb_114 ?_
  refine k_iast (N := 57) kh dX9_init_310 (a := 562) (by omega) upC_s (by decide) (by decide) ?_
  refine k_eqM (M' := upC (X1 g 551 M0 (.inr (6, [.int 0, rf g 552, rf g 553, rf g 554, rf g 555, .int 0, .int 0, .int 0, rf g 556, .int 0, .int 0, rf g 557, rf g 558, rf g 559, .int 0, rf g 560, rf g 561, .int 0, .int 0, .int 0, .int 0, .int 0, .null, .int 0, .int 0, .int 0, .int 0, .int 0, .null, .int 0, .null, .null]))) 562 (aI g 57 (wd 37) (fun _ => 0))) upC_upC ?_
  refine k_dup kh dX9_init_311 rfl ?_
  refine k_bipush kh dX9_init_312 kb_37 ?_
  refine k_bipush kh dX9_init_314 kb_105 ?_
  refine k_iast (N := 57) kh dX9_init_316 (a := 562) (by omega) upC_s (by decide) (by decide) ?_
  refine k_eqM (M' := upC (X1 g 551 M0 (.inr (6, [.int 0, rf g 552, rf g 553, rf g 554, rf g 555, .int 0, .int 0, .int 0, rf g 556, .int 0, .int 0, rf g 557, rf g 558, rf g 559, .int 0, rf g 560, rf g 561, .int 0, .int 0, .int 0, .int 0, .int 0, .null, .int 0, .int 0, .int 0, .int 0, .int 0, .null, .int 0, .null, .null]))) 562 (aI g 57 (wd 38) (fun _ => 0))) upC_upC ?_
  refine k_dup kh dX9_init_317 rfl ?_
  refine k_bipush kh dX9_init_318 kb_38 ?_
  refine k_bipush kh dX9_init_320 kb_99 ?_
  refine k_iast (N := 57) kh dX9_init_322 (a := 562) (by omega) upC_s (by decide) (by decide) ?_
  refine k_eqM (M' := upC (X1 g 551 M0 (.inr (6, [.int 0, rf g 552, rf g 553, rf g 554, rf g 555, .int 0, .int 0, .int 0, rf g 556, .int 0, .int 0, rf g 557, rf g 558, rf g 559, .int 0, rf g 560, rf g 561, .int 0, .int 0, .int 0, .int 0, .int 0, .null, .int 0, .int 0, .int 0, .int 0, .int 0, .null, .int 0, .null, .null]))) 562 (aI g 57 (wd 39) (fun _ => 0))) upC_upC ?_
  refine k_dup kh dX9_init_323 rfl ?_
  refine k_bipush kh dX9_init_324 kb_39 ?_
  refine k_bipush kh dX9_init_326 kb_101 ?_
  refine k_iast (N := 57) kh dX9_init_328 (a := 562) (by omega) upC_s (by decide) (by decide) ?_
  refine k_eqM (M' := upC (X1 g 551 M0 (.inr (6, [.int 0, rf g 552, rf g 553, rf g 554, rf g 555, .int 0, .int 0, .int 0, rf g 556, .int 0, .int 0, rf g 557, rf g 558, rf g 559, .int 0, rf g 560, rf g 561, .int 0, .int 0, .int 0, .int 0, .int 0, .null, .int 0, .int 0, .int 0, .int 0, .int 0, .null, .int 0, .null, .null]))) 562 (aI g 57 (wd 40) (fun _ => 0))) upC_upC ?_
  refine k_dup kh dX9_init_329 rfl ?_
  refine k_bipush kh dX9_init_330 kb_40 ?_
  refine k_bipush kh dX9_init_332 kb_32 ?_
  refine k_iast (N := 57) kh dX9_init_334 (a := 562) (by omega) upC_s (by decide) (by decide) ?_
  refine k_eqM (M' := upC (X1 g 551 M0 (.inr (6, [.int 0, rf g 552, rf g 553, rf g 554, rf g 555, .int 0, .int 0, .int 0, rf g 556, .int 0, .int 0, rf g 557, rf g 558, rf g 559, .int 0, rf g 560, rf g 561, .int 0, .int 0, .int 0, .int 0, .int 0, .null, .int 0, .int 0, .int 0, .int 0, .int 0, .null, .int 0, .null, .null]))) 562 (aI g 57 (wd 41) (fun _ => 0))) upC_upC ?_
  refine k_dup kh dX9_init_335 rfl ?_
  refine k_bipush kh dX9_init_336 kb_41 ?_
  refine k_bipush kh dX9_init_338 kb_103 ?_
  refine k_iast (N := 57) kh dX9_init_340 (a := 562) (by omega) upC_s (by decide) (by decide) ?_
  refine k_eqM (M' := upC (X1 g 551 M0 (.inr (6, [.int 0, rf g 552, rf g 553, rf g 554, rf g 555, .int 0, .int 0, .int 0, rf g 556, .int 0, .int 0, rf g 557, rf g 558, rf g 559, .int 0, rf g 560, rf g 561, .int 0, .int 0, .int 0, .int 0, .int 0, .null, .int 0, .int 0, .int 0, .int 0, .int 0, .null, .int 0, .null, .null]))) 562 (aI g 57 (wd 42) (fun _ => 0))) upC_upC ?_
  refine k_dup kh dX9_init_341 rfl ?_
  refine k_bipush kh dX9_init_342 kb_42 ?_
  refine k_bipush kh dX9_init_344 kb_105 ?_
  refine k_iast (N := 57) kh dX9_init_346 (a := 562) (by omega) upC_s (by decide) (by decide) ?_
  refine k_eqM (M' := upC (X1 g 551 M0 (.inr (6, [.int 0, rf g 552, rf g 553, rf g 554, rf g 555, .int 0, .int 0, .int 0, rf g 556, .int 0, .int 0, rf g 557, rf g 558, rf g 559, .int 0, rf g 560, rf g 561, .int 0, .int 0, .int 0, .int 0, .int 0, .null, .int 0, .int 0, .int 0, .int 0, .int 0, .null, .int 0, .null, .null]))) 562 (aI g 57 (wd 43) (fun _ => 0))) upC_upC ?_
  refine k_dup kh dX9_init_347 rfl ?_
  refine k_bipush kh dX9_init_348 kb_43 ?_
  refine k_bipush kh dX9_init_350 kb_118 ?_
  refine k_iast (N := 57) kh dX9_init_352 (a := 562) (by omega) upC_s (by decide) (by decide) ?_
  refine k_eqM (M' := upC (X1 g 551 M0 (.inr (6, [.int 0, rf g 552, rf g 553, rf g 554, rf g 555, .int 0, .int 0, .int 0, rf g 556, .int 0, .int 0, rf g 557, rf g 558, rf g 559, .int 0, rf g 560, rf g 561, .int 0, .int 0, .int 0, .int 0, .int 0, .null, .int 0, .int 0, .int 0, .int 0, .int 0, .null, .int 0, .null, .null]))) 562 (aI g 57 (wd 44) (fun _ => 0))) upC_upC ?_
  refine k_dup kh dX9_init_353 rfl ?_
  refine k_bipush kh dX9_init_354 kb_44 ?_
  refine k_bipush kh dX9_init_356 kb_101 ?_
  refine k_iast (N := 57) kh dX9_init_358 (a := 562) (by omega) upC_s (by decide) (by decide) ?_
  refine k_eqM (M' := upC (X1 g 551 M0 (.inr (6, [.int 0, rf g 552, rf g 553, rf g 554, rf g 555, .int 0, .int 0, .int 0, rf g 556, .int 0, .int 0, rf g 557, rf g 558, rf g 559, .int 0, rf g 560, rf g 561, .int 0, .int 0, .int 0, .int 0, .int 0, .null, .int 0, .int 0, .int 0, .int 0, .int 0, .null, .int 0, .null, .null]))) 562 (aI g 57 (wd 45) (fun _ => 0))) upC_upC ?_
  refine k_dup kh dX9_init_359 rfl ?_
  refine k_bipush kh dX9_init_360 kb_45 ?_
  refine k_bipush kh dX9_init_362 kb_32 ?_
  refine k_iast (N := 57) kh dX9_init_364 (a := 562) (by omega) upC_s (by decide) (by decide) ?_
  refine k_eqM (M' := upC (X1 g 551 M0 (.inr (6, [.int 0, rf g 552, rf g 553, rf g 554, rf g 555, .int 0, .int 0, .int 0, rf g 556, .int 0, .int 0, rf g 557, rf g 558, rf g 559, .int 0, rf g 560, rf g 561, .int 0, .int 0, .int 0, .int 0, .int 0, .null, .int 0, .int 0, .int 0, .int 0, .int 0, .null, .int 0, .null, .null]))) 562 (aI g 57 (wd 46) (fun _ => 0))) upC_upC ?_
  refine k_dup kh dX9_init_365 rfl ?_
  refine k_bipush kh dX9_init_366 kb_46 ?_
  refine k_bipush kh dX9_init_368 kb_99 ?_
  refine k_iast (N := 57) kh dX9_init_370 (a := 562) (by omega) upC_s (by decide) (by decide) ?_
  refine k_eqM (M' := upC (X1 g 551 M0 (.inr (6, [.int 0, rf g 552, rf g 553, rf g 554, rf g 555, .int 0, .int 0, .int 0, rf g 556, .int 0, .int 0, rf g 557, rf g 558, rf g 559, .int 0, rf g 560, rf g 561, .int 0, .int 0, .int 0, .int 0, .int 0, .null, .int 0, .int 0, .int 0, .int 0, .int 0, .null, .int 0, .null, .null]))) 562 (aI g 57 (wd 47) (fun _ => 0))) upC_upC ?_
  refine k_dup kh dX9_init_371 rfl ?_
  refine k_bipush kh dX9_init_372 kb_47 ?_
  refine k_bipush kh dX9_init_374 kb_97 ?_
  refine k_iast (N := 57) kh dX9_init_376 (a := 562) (by omega) upC_s (by decide) (by decide) ?_
  refine k_eqM (M' := upC (X1 g 551 M0 (.inr (6, [.int 0, rf g 552, rf g 553, rf g 554, rf g 555, .int 0, .int 0, .int 0, rf g 556, .int 0, .int 0, rf g 557, rf g 558, rf g 559, .int 0, rf g 560, rf g 561, .int 0, .int 0, .int 0, .int 0, .int 0, .null, .int 0, .int 0, .int 0, .int 0, .int 0, .null, .int 0, .null, .null]))) 562 (aI g 57 (wd 48) (fun _ => 0))) upC_upC ?_
  refine k_dup kh dX9_init_377 rfl ?_
  refine k_bipush kh dX9_init_378 kb_48 ?_
  refine k_bipush kh dX9_init_380 kb_108 ?_
  refine k_iast (N := 57) kh dX9_init_382 (a := 562) (by omega) upC_s (by decide) (by decide) ?_
  refine k_eqM (M' := upC (X1 g 551 M0 (.inr (6, [.int 0, rf g 552, rf g 553, rf g 554, rf g 555, .int 0, .int 0, .int 0, rf g 556, .int 0, .int 0, rf g 557, rf g 558, rf g 559, .int 0, rf g 560, rf g 561, .int 0, .int 0, .int 0, .int 0, .int 0, .null, .int 0, .int 0, .int 0, .int 0, .int 0, .null, .int 0, .null, .null]))) 562 (aI g 57 (wd 49) (fun _ => 0))) upC_upC ?_
  refine k_dup kh dX9_init_383 rfl ?_
  refine k_bipush kh dX9_init_384 kb_49 ?_
  refine k_bipush kh dX9_init_386 kb_108 ?_
  refine k_iast (N := 57) kh dX9_init_388 (a := 562) (by omega) upC_s (by decide) (by decide) ?_
  refine k_eqM (M' := upC (X1 g 551 M0 (.inr (6, [.int 0, rf g 552, rf g 553, rf g 554, rf g 555, .int 0, .int 0, .int 0, rf g 556, .int 0, .int 0, rf g 557, rf g 558, rf g 559, .int 0, rf g 560, rf g 561, .int 0, .int 0, .int 0, .int 0, .int 0, .null, .int 0, .int 0, .int 0, .int 0, .int 0, .null, .int 0, .null, .null]))) 562 (aI g 57 (wd 50) (fun _ => 0))) upC_upC ?_
  refine k_dup kh dX9_init_389 rfl ?_
  refine k_bipush kh dX9_init_390 kb_50 ?_
  refine k_bipush kh dX9_init_392 kb_32 ?_
  refine k_iast (N := 57) kh dX9_init_394 (a := 562) (by omega) upC_s (by decide) (by decide) ?_
  refine k_eqM (M' := upC (X1 g 551 M0 (.inr (6, [.int 0, rf g 552, rf g 553, rf g 554, rf g 555, .int 0, .int 0, .int 0, rf g 556, .int 0, .int 0, rf g 557, rf g 558, rf g 559, .int 0, rf g 560, rf g 561, .int 0, .int 0, .int 0, .int 0, .int 0, .null, .int 0, .int 0, .int 0, .int 0, .int 0, .null, .int 0, .null, .null]))) 562 (aI g 57 (wd 51) (fun _ => 0))) upC_upC ?_
  refine k_dup kh dX9_init_395 rfl ?_
  refine k_bipush kh dX9_init_396 kb_51 ?_
  refine k_bipush kh dX9_init_398 kb_110 ?_
  refine k_iast (N := 57) kh dX9_init_400 (a := 562) (by omega) upC_s (by decide) (by decide) ?_
  refine k_eqM (M' := upC (X1 g 551 M0 (.inr (6, [.int 0, rf g 552, rf g 553, rf g 554, rf g 555, .int 0, .int 0, .int 0, rf g 556, .int 0, .int 0, rf g 557, rf g 558, rf g 559, .int 0, rf g 560, rf g 561, .int 0, .int 0, .int 0, .int 0, .int 0, .null, .int 0, .int 0, .int 0, .int 0, .int 0, .null, .int 0, .null, .null]))) 562 (aI g 57 (wd 52) (fun _ => 0))) upC_upC ?_
  refine k_dup kh dX9_init_401 rfl ?_
  refine k_bipush kh dX9_init_402 kb_52 ?_
  refine k_bipush kh dX9_init_404 kb_105 ?_
  refine k_iast (N := 57) kh dX9_init_406 (a := 562) (by omega) upC_s (by decide) (by decide) ?_
  refine k_eqM (M' := upC (X1 g 551 M0 (.inr (6, [.int 0, rf g 552, rf g 553, rf g 554, rf g 555, .int 0, .int 0, .int 0, rf g 556, .int 0, .int 0, rf g 557, rf g 558, rf g 559, .int 0, rf g 560, rf g 561, .int 0, .int 0, .int 0, .int 0, .int 0, .null, .int 0, .int 0, .int 0, .int 0, .int 0, .null, .int 0, .null, .null]))) 562 (aI g 57 (wd 53) (fun _ => 0))) upC_upC ?_
  refine k_dup kh dX9_init_407 rfl ?_
  refine k_bipush kh dX9_init_408 kb_53 ?_
  refine k_bipush kh dX9_init_410 kb_103 ?_
  refine k_iast (N := 57) kh dX9_init_412 (a := 562) (by omega) upC_s (by decide) (by decide) ?_
  refine k_eqM (M' := upC (X1 g 551 M0 (.inr (6, [.int 0, rf g 552, rf g 553, rf g 554, rf g 555, .int 0, .int 0, .int 0, rf g 556, .int 0, .int 0, rf g 557, rf g 558, rf g 559, .int 0, rf g 560, rf g 561, .int 0, .int 0, .int 0, .int 0, .int 0, .null, .int 0, .int 0, .int 0, .int 0, .int 0, .null, .int 0, .null, .null]))) 562 (aI g 57 (wd 54) (fun _ => 0))) upC_upC ?_
  refine k_dup kh dX9_init_413 rfl ?_
  refine k_bipush kh dX9_init_414 kb_54 ?_
  refine k_bipush kh dX9_init_416 kb_104 ?_
  refine k_iast (N := 57) kh dX9_init_418 (a := 562) (by omega) upC_s (by decide) (by decide) ?_
  refine k_eqM (M' := upC (X1 g 551 M0 (.inr (6, [.int 0, rf g 552, rf g 553, rf g 554, rf g 555, .int 0, .int 0, .int 0, rf g 556, .int 0, .int 0, rf g 557, rf g 558, rf g 559, .int 0, rf g 560, rf g 561, .int 0, .int 0, .int 0, .int 0, .int 0, .null, .int 0, .int 0, .int 0, .int 0, .int 0, .null, .int 0, .null, .null]))) 562 (aI g 57 (wd 55) (fun _ => 0))) upC_upC ?_
  refine k_dup kh dX9_init_419 rfl ?_
  refine k_bipush kh dX9_init_420 kb_55 ?_
  refine k_bipush kh dX9_init_422 kb_116 ?_
  refine k_iast (N := 57) kh dX9_init_424 (a := 562) (by omega) upC_s (by decide) (by decide) ?_
  refine k_eqM (M' := upC (X1 g 551 M0 (.inr (6, [.int 0, rf g 552, rf g 553, rf g 554, rf g 555, .int 0, .int 0, .int 0, rf g 556, .int 0, .int 0, rf g 557, rf g 558, rf g 559, .int 0, rf g 560, rf g 561, .int 0, .int 0, .int 0, .int 0, .int 0, .null, .int 0, .int 0, .int 0, .int 0, .int 0, .null, .int 0, .null, .null]))) 562 (aI g 57 (wd 56) (fun _ => 0))) upC_upC ?_
  refine k_dup kh dX9_init_425 rfl ?_
  refine k_bipush kh dX9_init_426 kb_56 ?_
  refine k_bipush kh dX9_init_428 kb_32 ?_
  refine k_iast (N := 57) kh dX9_init_430 (a := 562) (by omega) upC_s (by decide) (by decide) ?_
  refine k_eqM (M' := upC (X1 g 551 M0 (.inr (6, [.int 0, rf g 552, rf g 553, rf g 554, rf g 555, .int 0, .int 0, .int 0, rf g 556, .int 0, .int 0, rf g 557, rf g 558, rf g 559, .int 0, rf g 560, rf g 561, .int 0, .int 0, .int 0, .int 0, .int 0, .null, .int 0, .int 0, .int 0, .int 0, .int 0, .null, .int 0, .null, .null]))) 562 (aI g 57 (wd 57) (fun _ => 0))) upC_upC ?_
  refine k_eqM (M' := X1 g 551 M0 (.inr (6, [.int 0, rf g 552, rf g 553, rf g 554, rf g 555, .int 0, .int 0, .int 0, rf g 556, .int 0, .int 0, rf g 557, rf g 558, rf g 559, .int 0, rf g 560, rf g 561, .int 0, .int 0, .int 0, .int 0, .int 0, .null, .int 0, .int 0, .int 0, .int 0, .int 0, .null, .int 0, .null, .null]))) (X1_new (by omega) fr_words) ?_
  refine k_putF kh ckc_6 (j := 22) (by decide) rfl rfl tm_1083 dX9_init_431 (by omega) X1_at ⟨rfl, rfl⟩ (Nat.le_of_ble_eq_true rfl) ?_
  refine k_eqM (M' := X1 g 551 M0 (.inr (6, [.int 0, rf g 552, rf g 553, rf g 554, rf g 555, .int 0, .int 0, .int 0, rf g 556, .int 0, .int 0, rf g 557, rf g 558, rf g 559, .int 0, rf g 560, rf g 561, .int 0, .int 0, .int 0, .int 0, .int 0, rf g 562, .int 0, .int 0, .int 0, .int 0, .int 0, .null, .int 0, .null, .null]))) X1_put ?_
  refine k_aloadn kh dX9_init_434 rfl ?_
  refine k_iconst kh dX9_init_435 ki_m1 ?_
  refine k_put kh ckc_6 (j := 26) (by decide) rfl tm_1087 dX9_init_436 (by omega) X1_at ⟨rfl, rfl⟩ (Nat.le_of_ble_eq_true rfl) ?_
  refine k_eqM (M' := X1 g 551 M0 (.inr (6, [.int 0, rf g 552, rf g 553, rf g 554, rf g 555, .int 0, .int 0, .int 0, rf g 556, .int 0, .int 0, rf g 557, rf g 558, rf g 559, .int 0, rf g 560, rf g 561, .int 0, .int 0, .int 0, .int 0, .int 0, rf g 562, .int 0, .int 0, .int 0, .int (-1), .int 0, .null, .int 0, .null, .null]))) X1_put ?_
  refine k_aloadn kh dX9_init_439 rfl ?_
  refine k_sipush kh dX9_init_440 ks_288 ?_
  refine k_newI (N := 288) kh dX9_init_443 tk_163 (by decide) (Nat.le_of_ble_eq_true rfl) (Nat.le_of_ble_eq_true rfl) ?_
  refine k_eqM (M' := X1 g 551 M0 (.inr (6, [.int 0, rf g 552, rf g 553, rf g 554, rf g 555, .int 0, .int 0, .int 0, rf g 556, .int 0, .int 0, rf g 557, rf g 558, rf g 559, .int 0, rf g 560, rf g 561, .int 0, .int 0, .int 0, .int 0, .int 0, rf g 562, .int 0, .int 0, .int 0, .int (-1), .int 0, .null, .int 0, .null, .null]))) (X1_new (by omega) (fr_YI ck_plans (by decide) (by decide))) ?_
  refine k_at (n' := 564) (kc' := 12) (ks' := 44032) rfl rfl rfl ?_
  refine k_putF kh ckc_6 (j := 28) (by decide) rfl rfl tm_1089 dX9_init_445 (by omega) X1_at ⟨rfl, rfl⟩ (Nat.le_of_ble_eq_true rfl) ?_
  refine k_eqM (M' := X1 g 551 M0 (.inr (6, [.int 0, rf g 552, rf g 553, rf g 554, rf g 555, .int 0, .int 0, .int 0, rf g 556, .int 0, .int 0, rf g 557, rf g 558, rf g 559, .int 0, rf g 560, rf g 561, .int 0, .int 0, .int 0, .int 0, .int 0, rf g 562, .int 0, .int 0, .int 0, .int (-1), .int 0, rf g 563, .int 0, .null, .null]))) X1_put ?_
  refine k_aloadn kh dX9_init_448 rfl ?_
  refine k_sipush kh dX9_init_449 ks_19927 ?_
  refine k_newI (N := 19927) kh dX9_init_452 tk_163 (by decide) (Nat.le_of_ble_eq_true rfl) (Nat.le_of_ble_eq_true rfl) ?_
  refine k_eqM (M' := X1 g 551 M0 (.inr (6, [.int 0, rf g 552, rf g 553, rf g 554, rf g 555, .int 0, .int 0, .int 0, rf g 556, .int 0, .int 0, rf g 557, rf g 558, rf g 559, .int 0, rf g 560, rf g 561, .int 0, .int 0, .int 0, .int 0, .int 0, rf g 562, .int 0, .int 0, .int 0, .int (-1), .int 0, rf g 563, .int 0, .null, .null]))) (X1_new (by omega) (fr_YI ck_images (by decide) (by decide))) ?_
  refine k_at (n' := 565) (kc' := 13) (ks' := 63959) rfl rfl rfl ?_
  refine k_putF kh ckc_6 (j := 30) (by decide) rfl rfl tm_1091 dX9_init_454 (by omega) X1_at ⟨rfl, rfl⟩ (Nat.le_of_ble_eq_true rfl) ?_
  refine k_eqM (M' := X1 g 551 M0 (.inr (6, [.int 0, rf g 552, rf g 553, rf g 554, rf g 555, .int 0, .int 0, .int 0, rf g 556, .int 0, .int 0, rf g 557, rf g 558, rf g 559, .int 0, rf g 560, rf g 561, .int 0, .int 0, .int 0, .int 0, .int 0, rf g 562, .int 0, .int 0, .int 0, .int (-1), .int 0, rf g 563, .int 0, rf g 564, .null]))) X1_put ?_
  refine k_aloadn kh dX9_init_457 rfl ?_
  refine k_bipush kh dX9_init_458 kb_13 ?_
  refine k_newL (N := 13) kh dX9_init_460 tk_164 (by decide) (Nat.le_of_ble_eq_true rfl) (Nat.le_of_ble_eq_true rfl) ?_
  refine k_eqM (M' := X1 g 551 M0 (.inr (6, [.int 0, rf g 552, rf g 553, rf g 554, rf g 555, .int 0, .int 0, .int 0, rf g 556, .int 0, .int 0, rf g 557, rf g 558, rf g 559, .int 0, rf g 560, rf g 561, .int 0, .int 0, .int 0, .int 0, .int 0, rf g 562, .int 0, .int 0, .int 0, .int (-1), .int 0, rf g 563, .int 0, rf g 564, .null]))) (X1_new (by omega) (fr_L ck_icoins)) ?_
  refine k_at (n' := 566) (kc' := 14) (ks' := 63972) rfl rfl rfl ?_
  refine k_putF kh ckc_6 (j := 31) (by decide) rfl rfl tm_1092 dX9_init_462 (by omega) X1_at ⟨rfl, rfl⟩ (Nat.le_of_ble_eq_true rfl) ?_
  refine k_eqM (M' := X1 g 551 M0 (.inr (6, [.int 0, rf g 552, rf g 553, rf g 554, rf g 555, .int 0, .int 0, .int 0, rf g 556, .int 0, .int 0, rf g 557, rf g 558, rf g 559, .int 0, rf g 560, rf g 561, .int 0, .int 0, .int 0, .int 0, .int 0, rf g 562, .int 0, .int 0, .int 0, .int (-1), .int 0, rf g 563, .int 0, rf g 564, rf g 565]))) X1_put ?_
  exact k_vret kh dX9_init_465 ⟨rfl, rfl, rfl, X1_end fr_Y⟩
