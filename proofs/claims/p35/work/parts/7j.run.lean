/-! RUNNING A PLAN -/
def RnS (m : Int32) (cnt : Nat) (kk : Nat → Nat) (vv : Nat → Nat → Int32) : Nat → Nat → Int32 → Int32 → Nat → Int32 → Int32 → Prop
  | 0, b, n, d, b1, n1, d1 => b1 = b ∧ n1 = n ∧ d1 = d
  | f + 1, b, n, d, b1, n1, d1 => (cnt ≤ b → b1 = b ∧ n1 = n ∧ d1 = d) ∧ (b < cnt → ∃ n2 d2, LnS m (kk b) (vv b) n d n2 d2 ∧ RnS m cnt kk vv f (b + 1) n2 d2 b1 n1 d1)
theorem rns_eq {m : Int32} {cnt : Nat} {kk : Nat → Nat} {vv ww : Nat → Nat → Int32} (hk : ∀ a, a < cnt → kk a < 10) (hv : ∀ a, a < cnt → ∀ c, 1 ≤ c → c ≤ mn (kk a) → vv a c = ww a c) : ∀ (f b : Nat) (n d : Int32) (b1 b2 : Nat) (n1 d1 n2 d2 : Int32), RnS m cnt kk vv f b n d b1 n1 d1 → RnS m cnt kk ww f b n d b2 n2 d2 → b1 = b2 ∧ n1 = n2 ∧ d1 = d2 := by
  intro f
  induction f with
  | zero =>
    intro b n d b1 b2 n1 d1 n2 d2 h1 h2
    exact ⟨h1.1.trans h2.1.symm, h1.2.1.trans h2.2.1.symm, h1.2.2.trans h2.2.2.symm⟩
  | succ f ih =>
    intro b n d b1 b2 n1 d1 n2 d2 h1 h2
    by_cases hb : cnt ≤ b
    · obtain ⟨e1, e2, e3⟩ := h1.1 hb
      obtain ⟨e4, e5, e6⟩ := h2.1 hb
      exact ⟨e1.trans e4.symm, e2.trans e5.symm, e3.trans e6.symm⟩
    · have hb : b < cnt := by omega
      obtain ⟨n3, d3, l1, r1⟩ := h1.2 hb
      obtain ⟨n4, d4, l2, r2⟩ := h2.2 hb
      obtain ⟨e1, e2⟩ := lns_eq (hk b hb) l1 l2 (hv b hb)
      subst e1 e2
      exact ih (b + 1) n3 d3 b1 b2 n1 d1 n2 d2 r1 r2
theorem rns_z {m : Int32} {cnt : Nat} {kk : Nat → Nat} {vv : Nat → Nat → Int32} {f b : Nat} {n d : Int32} (hb : cnt ≤ b) : RnS m cnt kk vv f b n d b n d := by
  cases f with
  | zero => exact ⟨rfl, rfl, rfl⟩
  | succ f => exact ⟨fun _ => ⟨rfl, rfl, rfl⟩, fun h => absurd h (by omega)⟩
noncomputable def fN (x : Int32) : Nat := @ite _ (Rg (nI 1) (nI 24) x) (Classical.propDecidable _) x.toNatClampNeg 0
theorem fN_y {f : Nat} (h : Rg (nI 1) (nI 24) (nI f)) (hf : f < 2 ^ 31) : fN (nI f) = f := (if_pos h).trans (nI_clamp hf)
theorem fN_n {x : Int32} (h : ¬ Rg (nI 1) (nI 24) x) : fN x = 0 := if_neg h
/-- the plan's rows, told and kept -/
def PlT (sp : Nat → Nat → Bool) (σ : Iv) (m : Int32) (cnt : Nat) (kk : Nat → Nat) (vv : Nat → Nat → Int32) : Prop := cnt ≤ 24 ∧ sp 2 0 = true ∧ σ 2 0 = m ∧ sp 47 2 = true ∧ σ 47 2 = nI cnt ∧ (∀ c j, c < 6 → sp (49 + c) j = true) ∧ (∀ a, a < cnt → kk a < 10 ∧ vv a 0 = nI (kk a) ∧ ∀ c, c < 6 → σ (49 + c) a = vv a c)
def PlY (sp : Nat → Nat → Bool) (σ : Iv) (m : Int32) (cnt : Nat) (kk : Nat → Nat) (vv : Nat → Nat → Int32) : Prop := cnt ≤ 24 ∧ Ra 2 12 m ∧ sp 552 0 = true ∧ (σ 552 0).toInt + 6 = m.toInt ∧ sp 551 27 = true ∧ σ 551 27 = nI cnt ∧ (∀ j, j < 144 → sp 563 j = true) ∧ (∀ a, a < cnt → kk a < 10 ∧ σ 563 (6 * a) = nI (kk a) ∧ ∀ c, 1 ≤ c → c < 6 → σ 563 (6 * a + c) = vv a c)
theorem sp11 {sp : Nat → Nat → Bool} {a b c d k j : Nat} (h : sp k j = false) (h1 : k ≠ a ∨ j ≠ b) (h2 : k ≠ c ∨ j ≠ d) : sp1 (sp1 sp a b) c d k j = false := sp9_no (sp9_no h h1) h2
theorem rl_24N {f : Nat} (h : f ≤ 24) : Ra 0 24 (nI f) := ⟨by rw [nI_toInt (by omega)]; omega, by rw [nI_toInt (by omega)]; omega⟩
set_option maxHeartbeats 1000000 in
set_option maxRecDepth 20000 in
theorem e_X8_run (g : GE) {sp : Nat → Nat → Bool} {σ : Iv} {iv : Iv} {lv : Lv} {a1 m n d : Int32} {cnt b : Nat} {kk : Nat → Nat} {vv : Nat → Nat → Int32} (hG : SI sp σ iv) (hq : Sk sp) (hD : sp 8 2 = false) (hA : sp 1 10 = false) (hY : sp 1 11 = false) (hT : PlT sp σ m cnt kk vv) (hb : b ≤ 24) (eb : iv 1 10 = nI b) (en : iv 8 2 = n) (ed : iv 1 11 = d) : ConI g yX8_run cX8_run 6 (some .int) 7 [rf g 0, .int a1] iv lv (fun r iv' lv' => SI sp σ iv' ∧ ∃ b1 n1 d1, b1 ≤ 24 ∧ iv' 1 10 = nI b1 ∧ iv' 8 2 = n1 ∧ iv' 1 11 = d1 ∧ RnS m cnt kk vv (fN a1) b n d b1 n1 d1) := by
  refine con_intro (own := "RollingNets") (by decide +kernel) rfl (Nat.le_of_ble_eq_true rfl) (L0 := [some (rf g 0), some (.int a1), none, none, none, none]) rfl (fun Z zh => ?_)
  refine z_iloadn zh dX8_run_0 rfl ?_
  refine z_iconst zh dX8_run_1 ki_1 ?_
  refine z_bipush zh dX8_run_2 kb_24 ?_
  refine z_callSI zh ms_RollingNets_43 dX8_run_4 (t_X8_within g) ⟨Nat.le_of_ble_eq_true rfl, Nat.le_of_ble_eq_true rfl⟩ rfl rfl (Nat.le_of_ble_eq_true rfl) ?_
  rintro x1 _ _ ⟨rfl, rfl, hx1, hz2, hw2⟩
  refine z_if_ne (tgt := 12) zh dX8_run_7 rfl (fun q3 => ?_) (fun q3 => ?_)
  rotate_left
  · refine z_iconst zh dX8_run_10 ki_m1 ?_
    exact z_iret zh dX8_run_11 ⟨_, rfl, hG, b, n, d, hb, eb, en, ed, by rw [fN_n (hw2.mp q3)]; exact ⟨rfl, rfl, rfl⟩⟩
  have hrg : Rg (nI 1) (nI 24) a1 := byc (mt hw2.mpr q3)
  obtain ⟨f, hf1, hf24, rfl⟩ := Rg_nat (by decide) (by decide) hrg
  have ef : fN (nI f) = f := fN_y hrg (by omega)
  rw [ef] at zh
  have hc24 := hT.1
  refine z_iconst zh dX8_run_12 ki_0 ?_
  refine z_istoren zh dX8_run_13 (by decide) (L' := [some (rf g 0), some (.int (nI f)), some (.int (nI 0)), none, none, none]) rfl ?_
  refine z_iconst zh dX8_run_14 ki_0 ?_
  refine z_istoren zh dX8_run_15 (by decide) (L' := [some (rf g 0), some (.int (nI f)), some (.int (nI 0)), some (.int (nI 0)), none, none]) rfl ?_
  have J16 : ∀ (q i b2 : Nat) (n2 d2 x : Int32) (iv : Iv) (lv : Lv), i ≤ f → f - i < q → SI sp σ iv → b2 ≤ 24 → iv 1 10 = nI b2 → iv 8 2 = n2 → iv 1 11 = d2 → (∀ b1 n1 d1, RnS m cnt kk vv (f - i) b2 n2 d2 b1 n1 d1 → RnS m cnt kk vv f b n d b1 n1 d1) → Z 16 [some (rf g 0), some (.int (nI f)), some (.int x), some (.int (nI i)), none, none] [] iv lv := by
    intro q
    induction q with
    | zero => intro i b2 n2 d2 x iv lv _ hq9; omega
    | succ q ih =>
      intro i b2 n2 d2 x iv lv hi hq9 hG hb eb en ed hK
      refine z_iloadn zh dX8_run_16 rfl ?_
      refine z_iloadn zh dX8_run_17 rfl ?_
      refine z_icmp_ge_N (tgt := 138) zh (by omega) (by omega) dX8_run_18 rfl (fun w => ?_) (fun w => ?_)
      · refine z_iloadn zh dX8_run_138 rfl ?_
        exact z_iret zh dX8_run_139 ⟨_, rfl, hG, b2, n2, d2, hb, eb, en, ed, hK _ _ _ (by rw [show f - i = 0 by omega]; exact ⟨rfl, rfl, rfl⟩)⟩
      have ec : iv 47 2 = nI cnt := (si_s hG hT.2.2.2.1).trans hT.2.2.2.2.1
      refine z_aloadnR zh dX8_run_21 rfl ?_
      refine z_getf zh fl_RollingNets_12 dX8_run_22 ck_X rfl rfl ?_
      refine z_getI (x := nI b2) zh fl_RollingNets_162 dX8_run_25 (ck_H isH_1) rfl rfl eb ?_
      refine z_aloadnR zh dX8_run_28 rfl ?_
      refine z_getf zh fl_RollingNets_12 dX8_run_29 ck_X rfl rfl ?_
      refine z_getf zh fl_RollingNets_152 dX8_run_32 (ck_H isH_1) rfl rfl ?_
      refine z_callVIp zh mv_RollingNets_51 dX8_run_35 (ck_T (isT_p isH_1)) rfl (s_X7_size g (isT_p isH_1) ec) ⟨Nat.le_of_ble_eq_true rfl, Nat.le_of_ble_eq_true rfl⟩ rfl rfl (Nat.le_of_ble_eq_true rfl) ?_
      refine z_icmp_ge_N (tgt := 138) zh (by omega) (by omega) dX8_run_38 rfl (fun w2 => ?_) (fun w2 => ?_)
      · refine z_iloadn zh dX8_run_138 rfl ?_
        exact z_iret zh dX8_run_139 ⟨_, rfl, hG, b2, n2, d2, hb, eb, en, ed, hK _ _ _ (rns_z w2)⟩
      obtain ⟨hk10, hv0, hv⟩ := hT.2.2.2.2.2.2 b2 w2
      refine z_aloadnR zh dX8_run_41 rfl ?_
      refine z_getf zh fl_RollingNets_12 dX8_run_42 ck_X rfl rfl ?_
      refine z_getI (x := nI b2) zh fl_RollingNets_162 dX8_run_45 (ck_H isH_1) rfl rfl eb ?_
      refine z_istore zh dX8_run_48 (by decide) (L' := [some (rf g 0), some (.int (nI f)), some (.int x), some (.int (nI i)), some (.int (nI b2)), none]) rfl ?_
      refine z_aloadnR zh dX8_run_50 rfl ?_
      refine z_getf zh fl_RollingNets_12 dX8_run_51 ck_X rfl rfl ?_
      refine z_dup zh dX8_run_54 rfl ?_
      refine z_getI (x := nI b2) zh fl_RollingNets_162 dX8_run_55 (ck_H isH_1) rfl rfl eb ?_
      refine z_iconst zh dX8_run_58 ki_1 ?_
      refine z_iaddN zh dX8_run_59 ?_
      refine z_putI zh fl_RollingNets_162 dX8_run_60 (ck_H isH_1) rfl rfl (Nat.le_of_ble_eq_true rfl) (Or.inl rfl) ?_
      have hG : SI sp σ (upI iv 1 10 (nI (b2 + 1))) := si_wHk hG isH_1 0 (by decide) hA (rx_none rfl)
      have eb : upI iv 1 10 (nI (b2 + 1)) 1 10 = nI (b2 + 1) := by rw [upI_at, if_pos ⟨rfl, rfl⟩]
      have en : upI iv 1 10 (nI (b2 + 1)) 8 2 = n2 := (upI_ne (Or.inl (by decide))).trans en
      have ed : upI iv 1 10 (nI (b2 + 1)) 1 11 = d2 := (upI_ne (Or.inr (by decide))).trans ed
      have ec : upI iv 1 10 (nI (b2 + 1)) 47 2 = nI cnt := (upI_ne (Or.inl (by decide))).trans ec
      generalize upI iv 1 10 (nI (b2 + 1)) = iv at hG eb en ed ec ⊢
      have em : iv 2 0 = m := (si_s hG hT.2.1).trans hT.2.2.1
      have hv' : ∀ c, c < 6 → iv (49 + c) b2 = vv b2 c := fun c hc => (si_s hG (hT.2.2.2.2.2.1 c b2 hc)).trans (hv c hc)
      refine z_aloadnR zh dX8_run_63 rfl ?_
      refine z_getf zh fl_RollingNets_12 dX8_run_64 ck_X rfl rfl ?_
      refine z_getf zh fl_RollingNets_152 dX8_run_67 (ck_H isH_1) rfl rfl ?_
      refine z_iconst zh dX8_run_70 ki_0 ?_
      refine z_iload zh dX8_run_71 rfl ?_
      refine z_callVIp zh mv_RollingNets_171 dX8_run_73 (ck_T (isT_p isH_1)) rfl (h_X7_get g (isT_p isH_1) (c := 0) (r := b2) (x := nI (kk b2)) (by decide) w2 hc24 ec ((hv' 0 (by decide)).trans hv0)) ⟨Nat.le_of_ble_eq_true rfl, Nat.le_of_ble_eq_true rfl⟩ rfl rfl (Nat.le_of_ble_eq_true rfl) ?_
      refine z_bipush zh dX8_run_76 kb_9 ?_
      -- behind the line
      have J132 : ∀ (n3 d3 x3 : Int32) (y : Option Value) (iv : Iv) (lv : Lv), SI sp σ iv → iv 1 10 = nI (b2 + 1) → iv 8 2 = n3 → iv 1 11 = d3 → LnS m (kk b2) (vv b2) n2 d2 n3 d3 → Z 132 [some (rf g 0), some (.int (nI f)), some (.int x3), some (.int (nI i)), some (.int (nI b2)), y] [] iv lv := by
        intro n3 d3 x3 y iv lv hG eb en ed hL
        refine z_iincN (b := 1) zh dX8_run_132 (by decide +kernel) (by decide) rfl (L' := [some (rf g 0), some (.int (nI f)), some (.int x3), some (.int (nI (i + 1))), some (.int (nI b2)), y]) rfl ?_
        refine z_goto (tgt := 16) zh dX8_run_135 rfl ?_
        refine z_forget zh [true, true, true, true, false, false] (L2 := [some (rf g 0), some (.int (nI f)), some (.int x3), some (.int (nI (i + 1))), none, none]) rfl ?_
        refine ih (i + 1) (b2 + 1) n3 d3 x3 iv lv (by omega) (by omega) hG (by omega) eb en ed (fun b1 n1 d1 hr => hK b1 n1 d1 ?_)
        rw [show f - i = (f - (i + 1)) + 1 by omega]
        exact ⟨fun z => absurd z (by omega), fun _ => ⟨n3, d3, hL, hr⟩⟩
      have J129 : ∀ (n3 d3 : Int32) (y : Option Value) (iv : Iv) (lv : Lv), SI sp σ iv → iv 1 10 = nI (b2 + 1) → iv 8 2 = n3 → iv 1 11 = d3 → LnS m (kk b2) (vv b2) n2 d2 n3 d3 → Z 129 [some (rf g 0), some (.int (nI f)), some (.int x), some (.int (nI i)), some (.int (nI b2)), y] [] iv lv := by
        intro n3 d3 y iv lv hG eb en ed hL
        refine y_iincT (L' := fun z => [some (rf g 0), some (.int (nI f)), some (.int z), some (.int (nI i)), some (.int (nI b2)), y]) zh dX8_run_129 (by decide) rfl (fun _ => rfl) (fun x25 => ?_)
        exact J132 n3 d3 x25 y iv lv hG eb en ed hL
      by_cases k9 : kk b2 = 9
      · refine z_icmp_ne_N (tgt := 85) zh (by omega) (by omega) dX8_run_78 rfl (fun w3 => absurd k9 w3) (fun _ => ?_)
        refine z_iconst zh dX8_run_81 ki_1 ?_
        refine z_goto (tgt := 86) zh dX8_run_82 rfl ?_
        refine z_istore zh dX8_run_86 (by decide) (L' := [some (rf g 0), some (.int (nI f)), some (.int x), some (.int (nI i)), some (.int (nI b2)), some (.int (nI 1))]) rfl ?_
        refine z_iload zh dX8_run_88 rfl ?_
        refine z_if_eq (tgt := 120) zh dX8_run_90 rfl (fun z => absurd z (by decide)) (fun _ => ?_)
        refine z_aloadnR zh dX8_run_93 rfl ?_
        refine z_getf zh fl_RollingNets_12 dX8_run_94 ck_X rfl rfl ?_
        refine z_aloadnR zh dX8_run_97 rfl ?_
        refine z_getf zh fl_RollingNets_12 dX8_run_98 ck_X rfl rfl ?_
        refine z_getf zh fl_RollingNets_152 dX8_run_101 (ck_H isH_1) rfl rfl ?_
        refine z_iconst zh dX8_run_104 ki_1 ?_
        refine z_iload zh dX8_run_105 rfl ?_
        refine z_callVIp zh mv_RollingNets_171 dX8_run_107 (ck_T (isT_p isH_1)) rfl (h_X7_get g (isT_p isH_1) (c := 1) (r := b2) (x := vv b2 1) (by decide) w2 hc24 ec (hv' 1 (by decide))) ⟨Nat.le_of_ble_eq_true rfl, Nat.le_of_ble_eq_true rfl⟩ rfl rfl (Nat.le_of_ble_eq_true rfl) ?_
        refine z_callSI zh ms_RollingNets_123 dX8_run_110 (e_X4_pass g isH_1 (si_add (si_add (k0 := 1) (j0 := 10) hG rfl) (k0 := 8) (j0 := 2) rfl) (sp11 hY (Or.inr (by decide)) (Or.inl (by decide))) ed) ⟨Nat.le_of_ble_eq_true rfl, Nat.le_of_ble_eq_true rfl⟩ rfl rfl (Nat.le_of_ble_eq_true rfl) ?_
        rintro x34 iv3 lv ⟨hS, hx34, hp⟩
        have hd := si_drop2 hG hS
        have hL : LnS m (kk b2) (vv b2) n2 d2 (iv3 8 2) (iv3 1 11) := ⟨fun z => absurd z (by omega), fun _ z => absurd z (by omega), fun _ => ⟨hd.2.2.trans en, _, hp⟩⟩
        refine z_iconst zh dX8_run_113 ki_m1 ?_
        refine z_icmp_eq (tgt := 132) zh dX8_run_114 rfl (fun _ => ?_) (fun _ => ?_)
        · exact J132 _ _ x _ iv3 lv hd.1 (hd.2.1.trans eb) rfl rfl hL
        · refine z_goto (tgt := 129) zh dX8_run_117 rfl ?_
          exact J129 _ _ _ iv3 lv hd.1 (hd.2.1.trans eb) rfl rfl hL
      · refine z_icmp_ne_N (tgt := 85) zh (by omega) (by omega) dX8_run_78 rfl (fun _ => ?_) (fun w3 => absurd w3 k9)
        refine z_iconst zh dX8_run_85 ki_0 ?_
        refine z_istore zh dX8_run_86 (by decide) (L' := [some (rf g 0), some (.int (nI f)), some (.int x), some (.int (nI i)), some (.int (nI b2)), some (.int (nI 0))]) rfl ?_
        refine z_iload zh dX8_run_88 rfl ?_
        refine z_if_eq (tgt := 120) zh dX8_run_90 rfl (fun _ => ?_) (fun z => absurd nI_0 z)
        refine z_aloadnR zh dX8_run_120 rfl ?_
        refine z_iload zh dX8_run_121 rfl ?_
        refine z_callVI zh mv_RollingNets_175 dX8_run_123 ck_X rfl (e_X8_perform g (k := kk b2) (by omega) (si_add (si_add (k0 := 1) (j0 := 10) hG rfl) (k0 := 1) (j0 := 11) rfl) (sk_1 (sk_1 hq rfl) rfl) (sp11 hD (Or.inl (by decide)) (Or.inl (by decide))) em en ec hc24 w2 hv' hv0) ⟨Nat.le_of_ble_eq_true rfl, Nat.le_of_ble_eq_true rfl⟩ rfl rfl (Nat.le_of_ble_eq_true rfl) ?_
        rintro x28 iv3 lv ⟨hS, hp1, hp2⟩
        have hd := si_drop2 hG hS
        have hL : LnS m (kk b2) (vv b2) n2 d2 (iv3 8 2) (iv3 1 11) := ⟨fun z => ⟨hp1 z, hd.2.2.trans ed⟩, fun z _ => ⟨hp2 z, hd.2.2.trans ed⟩, fun z => absurd z k9⟩
        refine z_if_eq (tgt := 132) zh dX8_run_126 rfl (fun _ => ?_) (fun _ => ?_)
        · exact J132 _ _ x _ iv3 lv hd.1 (hd.2.1.trans eb) rfl rfl hL
        · exact J129 _ _ _ iv3 lv hd.1 (hd.2.1.trans eb) rfl rfl hL
  exact J16 (f + 1) 0 b n d (nI 0) iv lv (by omega) (by omega) hG hb eb en ed (fun _ _ _ hr => hr)
set_option maxHeartbeats 1000000 in
set_option maxRecDepth 20000 in
theorem e_X9_run (g : GE) {sp : Nat → Nat → Bool} {σ : Iv} {iv : Iv} {lv : Lv} {a1 m n d : Int32} {cnt b : Nat} {kk : Nat → Nat} {vv : Nat → Nat → Int32} (hG : SI sp σ iv) (hq : Sk sp) (hD : sp 552 7 = false) (hA : sp 552 10 = false) (hY : sp 552 6 = false) (hT : PlY sp σ m cnt kk vv) (hb : b ≤ 24) (eb : iv 552 10 = nI b) (en : iv 552 7 = n) (ed : iv 552 6 = d) : ConI g yX9_run cX9_run 4 (some .int) 13 [rf g 551, .int a1] iv lv (fun r iv' lv' => SI sp σ iv' ∧ ∃ b1 n1 d1, b1 ≤ 24 ∧ iv' 552 10 = nI b1 ∧ iv' 552 7 = n1 ∧ iv' 552 6 = d1 ∧ RnS m cnt kk vv (fN a1) b n d b1 n1 d1) := by
  refine con_intro (own := "RollingNetsModel") (by decide +kernel) rfl (Nat.le_of_ble_eq_true rfl) (L0 := [some (rf g 551), some (.int a1), none, none]) rfl (fun Z zh => ?_)
  refine z_aloadnR zh dX9_run_0 rfl ?_
  refine z_iconst zh dX9_run_1 ki_0 ?_
  refine z_putI zh fl_Y_58 dX9_run_2 ck_Y rfl rfl (Nat.le_of_ble_eq_true rfl) (Or.inl rfl) ?_
  have hG : SI sp σ (upI iv 551 0 (nI 0)) := si_w (k := 551) (j := 0) hG (by decide) (by decide) (sp_no hG ((spc_Y (q := 0)).trans rfl)) (fun lo hi q => (rx_none rfl) lo hi ((rg_Y (q := 0)).symm.trans q))
  have eb : upI iv 551 0 (nI 0) 552 10 = nI b := (upI_ne (Or.inl (by decide))).trans eb
  have en : upI iv 551 0 (nI 0) 552 7 = n := (upI_ne (Or.inl (by decide))).trans en
  have ed : upI iv 551 0 (nI 0) 552 6 = d := (upI_ne (Or.inl (by decide))).trans ed
  generalize upI iv 551 0 (nI 0) = iv at hG eb en ed ⊢
  refine z_aloadnR zh dX9_run_5 rfl ?_
  refine z_iloadn zh dX9_run_6 rfl ?_
  refine z_iconst zh dX9_run_7 ki_1 ?_
  refine z_bipush zh dX9_run_8 kb_24 ?_
  refine z_callVI zh mv_Y_79 dX9_run_10 ck_Y rfl (t_X9_isIn g) ⟨Nat.le_of_ble_eq_true rfl, Nat.le_of_ble_eq_true rfl⟩ rfl rfl (Nat.le_of_ble_eq_true rfl) ?_
  rintro x2 _ _ ⟨rfl, rfl, hx2, hz3, hw3⟩
  refine z_if_ne (tgt := 18) zh dX9_run_13 rfl (fun q4 => ?_) (fun q4 => ?_)
  rotate_left
  · refine z_iconst zh dX9_run_16 ki_m1 ?_
    exact z_iret zh dX9_run_17 ⟨_, rfl, hG, b, n, d, hb, eb, en, ed, by rw [fN_n (hw3.mp q4)]; exact ⟨rfl, rfl, rfl⟩⟩
  have hrg : Rg (nI 1) (nI 24) a1 := byc (mt hw3.mpr q4)
  obtain ⟨f, hf1, hf24, rfl⟩ := Rg_nat (by decide) (by decide) hrg
  have ef : fN (nI f) = f := fN_y hrg (by omega)
  rw [ef] at zh
  have hc24 := hT.1
  refine z_iconst zh dX9_run_18 ki_0 ?_
  refine z_istoren zh dX9_run_19 (by decide) (L' := [some (rf g 551), some (.int (nI f)), some (.int (nI 0)), none]) rfl ?_
  refine z_iconst zh dX9_run_20 ki_0 ?_
  refine z_istoren zh dX9_run_21 (by decide) (L' := [some (rf g 551), some (.int (nI f)), some (.int (nI 0)), some (.int (nI 0))]) rfl ?_
  have J22 : ∀ (q i b2 : Nat) (n2 d2 x : Int32) (iv : Iv) (lv : Lv), i ≤ f → f - i < q → SI sp σ iv → b2 ≤ 24 → iv 552 10 = nI b2 → iv 552 7 = n2 → iv 552 6 = d2 → (∀ b1 n1 d1, RnS m cnt kk vv (f - i) b2 n2 d2 b1 n1 d1 → RnS m cnt kk vv f b n d b1 n1 d1) → Z 22 [some (rf g 551), some (.int (nI f)), some (.int x), some (.int (nI i))] [] iv lv := by
    intro q
    induction q with
    | zero => intro i b2 n2 d2 x iv lv _ hq9; omega
    | succ q ih =>
      intro i b2 n2 d2 x iv lv hi hq9 hG hb eb en ed hK
      refine z_iloadn zh dX9_run_22 rfl ?_
      refine z_iloadn zh dX9_run_23 rfl ?_
      refine z_icmp_ge_N (tgt := 84) zh (by omega) (by omega) dX9_run_24 rfl (fun w => ?_) (fun w => ?_)
      · refine z_iloadn zh dX9_run_84 rfl ?_
        exact z_iret zh dX9_run_85 ⟨_, rfl, hG, b2, n2, d2, hb, eb, en, ed, hK _ _ _ (by rw [show f - i = 0 by omega]; exact ⟨rfl, rfl, rfl⟩)⟩
      have ec : iv 551 27 = nI cnt := (si_s hG hT.2.2.2.2.1).trans hT.2.2.2.2.2.1
      have em : (iv 552 0).toInt + 6 = m.toInt := by rw [si_s hG hT.2.2.1]; exact hT.2.2.2.1
      refine z_aloadnR zh dX9_run_27 rfl ?_
      refine z_getf zh fl_Y_7 dX9_run_28 ck_Y rfl rfl ?_
      refine z_bipush zh dX9_run_31 kb_10 ?_
      refine z_ialdE (x := nI b2) zh ck_now dX9_run_33 (by decide) eb ?_
      refine z_aloadnR zh dX9_run_34 rfl ?_
      refine z_getI (x := nI cnt) zh fl_Y_407 dX9_run_35 ck_Y rfl rfl ec ?_
      refine z_icmp_ge_N (tgt := 84) zh (by omega) (by omega) dX9_run_38 rfl (fun w2 => ?_) (fun w2 => ?_)
      · refine z_iloadn zh dX9_run_84 rfl ?_
        exact z_iret zh dX9_run_85 ⟨_, rfl, hG, b2, n2, d2, hb, eb, en, ed, hK _ _ _ (rns_z w2)⟩
      obtain ⟨hk10, hv0, hv⟩ := hT.2.2.2.2.2.2.2 b2 w2
      have e0 : iv 563 (6 * b2) = nI (kk b2) := (si_s hG (hT.2.2.2.2.2.2.1 _ (by omega))).trans hv0
      have hv' : ∀ c, 1 ≤ c → c < 6 → iv 563 (6 * b2 + c) = vv b2 c := fun c h1 hc => (si_s hG (hT.2.2.2.2.2.2.1 _ (by omega))).trans (hv c h1 hc)
      refine z_aloadnR zh dX9_run_41 rfl ?_
      refine z_bipush zh dX9_run_42 kb_6 ?_
      refine z_aloadnR zh dX9_run_44 rfl ?_
      refine z_getf zh fl_Y_7 dX9_run_45 ck_Y rfl rfl ?_
      refine z_bipush zh dX9_run_48 kb_10 ?_
      refine z_ialdE (x := nI b2) zh ck_now dX9_run_50 (by decide) eb ?_
      refine z_imulN zh dX9_run_51 ?_
      refine z_callVI zh mv_Y_426 dX9_run_52 ck_Y rfl (e_X9_runsLine g (k := kk b2) hk10 (by omega) (si_add (k0 := 552) (j0 := 10) hG rfl) (sk_1 hq rfl) (sp9_no hD (Or.inr (by decide))) (sp9_no hY (Or.inr (by decide))) hT.2.1 em en ed e0 hv') ⟨Nat.le_of_ble_eq_true rfl, Nat.le_of_ble_eq_true rfl⟩ rfl rfl (Nat.le_of_ble_eq_true rfl) ?_
      rintro x20 iv3 lv ⟨hS, hL⟩
      have hd := si_drop hG hS
      have J62 : ∀ x3, Z 62 [some (rf g 551), some (.int (nI f)), some (.int x3), some (.int (nI i))] [] iv3 lv := by
        intro x3
        refine z_aloadnR zh dX9_run_62 rfl ?_
        refine z_getf zh fl_Y_7 dX9_run_63 ck_Y rfl rfl ?_
        refine z_bipush zh dX9_run_66 kb_10 ?_
        refine z_aloadnR zh dX9_run_68 rfl ?_
        refine z_getf zh fl_Y_7 dX9_run_69 ck_Y rfl rfl ?_
        refine z_bipush zh dX9_run_72 kb_10 ?_
        refine z_ialdE (x := nI b2) zh ck_now dX9_run_74 (by decide) (hd.2.trans eb) ?_
        refine z_iconst zh dX9_run_75 ki_1 ?_
        refine z_iaddN zh dX9_run_76 ?_
        refine z_iastN (j := 10) zh ck_now dX9_run_77 (by decide) ?_
        have hG4 : SI sp σ (upI iv3 552 10 (nI (b2 + 1))) := nw_10 hd.1 hA (rl_24N (by omega))
        have eb4 : upI iv3 552 10 (nI (b2 + 1)) 552 10 = nI (b2 + 1) := by rw [upI_at, if_pos ⟨rfl, rfl⟩]
        have en4 : upI iv3 552 10 (nI (b2 + 1)) 552 7 = iv3 552 7 := upI_ne (Or.inr (by decide))
        have ed4 : upI iv3 552 10 (nI (b2 + 1)) 552 6 = iv3 552 6 := upI_ne (Or.inr (by decide))
        generalize upI iv3 552 10 (nI (b2 + 1)) = iv4 at hG4 eb4 en4 ed4 ⊢
        refine z_iincN (b := 1) zh dX9_run_78 (by decide +kernel) (by decide) rfl (L' := [some (rf g 551), some (.int (nI f)), some (.int x3), some (.int (nI (i + 1)))]) rfl ?_
        refine z_goto (tgt := 22) zh dX9_run_81 rfl ?_
        refine ih (i + 1) (b2 + 1) _ _ x3 iv4 lv (by omega) (by omega) hG4 (by omega) eb4 en4 ed4 (fun b1 n1 d1 hr => hK b1 n1 d1 ?_)
        rw [show f - i = (f - (i + 1)) + 1 by omega]
        exact ⟨fun z => absurd z (by omega), fun _ => ⟨_, _, hL, hr⟩⟩
      refine z_if_eq (tgt := 62) zh dX9_run_55 rfl (fun _ => J62 x) (fun _ => ?_)
      refine z_iloadn zh dX9_run_58 rfl ?_
      refine z_iconst zh dX9_run_59 ki_1 ?_
      refine y_iaddT zh dX9_run_60 (fun x29 => ?_)
      refine z_istoren zh dX9_run_61 (by decide) (L' := [some (rf g 551), some (.int (nI f)), some (.int x29), some (.int (nI i))]) rfl ?_
      exact J62 x29
  exact J22 (f + 1) 0 b n d (nI 0) iv lv (by omega) (by omega) hG hb eb en ed (fun _ _ _ hr => hr)
