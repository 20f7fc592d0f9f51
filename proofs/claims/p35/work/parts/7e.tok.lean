/-! READING A PLAN: the reference's tokens -/
def wtx : List Int32 := [nI 32, nI 98, nI 117, nI 121, nI 32, nI 97, nI 112, nI 97, nI 114, nI 116, nI 32, nI 115, nI 116, nI 111, nI 99, nI 107, nI 32, nI 114, nI 101, nI 115, nI 101, nI 114, nI 118, nI 101, nI 32, nI 108, nI 101, nI 110, nI 100, nI 32, nI 114, nI 97, nI 110, nI 107, nI 32, nI 112, nI 114, nI 105, nI 99, nI 101, nI 32, nI 103, nI 105, nI 118, nI 101, nI 32, nI 99, nI 97, nI 108, nI 108, nI 32, nI 110, nI 105, nI 103, nI 104, nI 116, nI 32]
def ws (k : Nat) : Nat := ([0, 4, 10, 16, 24, 29, 34, 40, 45, 50, 56] : List Nat).getD k 0
theorem wtx_w : ∀ k, k < 10 → ∀ i, i < wl k → wtx.getD (ws k + 1 + i) 0 = wc k i := by decide +kernel
theorem wtx_b : ∀ k, k < 11 → wtx.getD (ws k) 0 = nI 32 := by decide +kernel
theorem ws_s : ∀ k, k < 10 → ws (k + 1) = ws k + 1 + wl k ∧ ws (k + 1) ≤ 56 := by decide +kernel
theorem ws_lt : ∀ k, k < 10 → ws k < 56 := by decide +kernel
/-- the tape and the words lie so, and stay -/
def YL (sp : Nat → Nat → Bool) (σ : Iv) (t : Nat → Int32) (n : Nat) : Prop := (n ≤ 400 ∧ sp 551 17 = true ∧ σ 551 17 = nI n ∧ (∀ j, sp 561 j = true) ∧ (∀ j, j < n → σ 561 j = t j)) ∧ (∀ j, j < n → ¬ t j = -1) ∧ (∀ j, sp 562 j = true) ∧ (∀ j, j < 57 → σ 562 j = wtx.getD j 0)
section YT
variable {sp : Nat → Nat → Bool} {σ iv iv' : Iv} {t : Nat → Int32} {n j q k : Nat} {x : Int32}
theorem yl_n (hT : YL sp σ t n) (hG : SI sp σ iv) : iv 551 17 = nI n := (si_s hG hT.1.2.1).trans hT.1.2.2.1
theorem yl_t (hT : YL sp σ t n) (hG : SI sp σ iv) (hj : j < n) : iv 561 j = t j := (si_s hG (hT.1.2.2.2.1 j)).trans (hT.1.2.2.2.2 j hj)
theorem yl_w (hT : YL sp σ t n) (hG : SI sp σ iv) (hj : j < 57) : iv 562 j = wtx.getD j 0 := (si_s hG (hT.2.2.1 j)).trans (hT.2.2.2 j hj)
theorem hr_m (hb : ∀ j, j < n → ¬ t j = -1) : hr t n q = -1 ↔ n ≤ q := by
  refine ⟨fun e => Nat.le_of_not_lt (fun h => ?_), fun h => hr_ge h⟩
  rw [hr_lt h] at e
  exact hb q h e
theorem yw (hG : SI sp σ iv) (h : j = 18 ∨ j = 19 ∨ j = 20 ∨ j = 21 ∨ j = 23 ∨ j = 24) (hx : Ra 0 401 x ∨ (¬ j = 18 ∧ ¬ j = 19)) : SI sp σ (upI iv 551 j x) := by
  refine si_w hG (by decide) (by decide) ?_ (fun lo hi e => ?_)
  · rcases h with rfl | rfl | rfl | rfl | rfl | rfl <;> exact sp_no hG ((spc_Y (q := 0)).trans rfl)
  · have e := (rg_Y (q := 0)).symm.trans e
    rcases h with rfl | rfl | rfl | rfl | rfl | rfl
    · have e : some ((0 : Int), (401 : Int)) = some (lo, hi) := e
      cases e; exact hx.resolve_right (fun w => w.1 rfl)
    · have e : some ((0 : Int), (401 : Int)) = some (lo, hi) := e
      cases e; exact hx.resolve_right (fun w => w.2 rfl)
    all_goals
      have e : (none : Option (Int × Int)) = some (lo, hi) := e
      cases e
/-- only the token changed -/
def FY (iv iv' : Iv) : Prop := ∀ k j : Nat, ¬ (k = 551 ∧ 18 ≤ j ∧ j ≤ 21) → iv' k j = iv k j
theorem fy_0 : FY iv iv := fun _ _ _ => rfl
theorem fy_w (h : FY iv iv') (hj : 18 ≤ j ∧ j ≤ 21) : FY iv (upI iv' 551 j x) := fun k c w => (upI_ne (by omega)).trans (h k c w)
/-- the token at q -/
def TK (t : Nat → Int32) (n q : Nat) (iv : Iv) : Prop := iv 551 19 = nI q ∧ ∃ k : Nat, k ≤ 4 ∧ iv 551 20 = nI k ∧ (k = 0 ↔ n ≤ q) ∧ (k = 2 ↔ kd t n q < 10) ∧ (k = 2 → iv 551 21 = nI (kd t n q) ∧ iv 551 18 = nI (q + wl (kd t n q))) ∧ (k = 3 ↔ ¬ (re dg t n q = q ∨ 4 < re dg t n q - q)) ∧ (k = 3 → iv 551 21 = dv t q (re dg t n q - q) ∧ iv 551 18 = nI (re dg t n q)) ∧ (k = 4 ↔ hr t n q = nI 59) ∧ (k = 4 → iv 551 18 = nI (q + 1))
theorem kd_ltr (h : kd t n q < 10) : ltr (hr t n q) := by
  have h1 := (kd_mt h).1 0 (wl_pos _ h)
  rw [Nat.add_zero] at h1
  rw [h1]
  exact wc_ltr _ h 0 (wl_pos _ h)
theorem re_dg0 (h : ¬ dg (hr t n q)) : re dg t n q = q := re_stop h
theorem re_dgs (h : dg (hr t n q)) : ¬ re dg t n q = q := fun e => by
  have h1 := re_step dg_m h
  have h2 := re_ge (P := dg) (t := t) (n := n) (p := q + 1)
  omega
theorem dv_1 : dv t q 1 = t q - nI 48 := by
  show nI 0 * nI 10 + t (q + 0) - nI 48 = _
  rw [show nI 0 * nI 10 = 0 from by decide, Int32.zero_add, Nat.add_zero]
theorem dv_s (h : k = j - q) (hq : q ≤ j) : nI 10 * dv t q k + t j - nI 48 = dv t q (k + 1) := by
  show _ = dv t q k * nI 10 + t (q + k) - nI 48
  rw [Int32.mul_comm (nI 10), show q + k = j by omega]
end YT
theorem h_X9_raw (g : GE) {sp : Nat → Nat → Bool} {σ iv : Iv} {lv : Lv} {t : Nat → Int32} {n p : Nat} (hT : YL sp σ t n) (hG : SI sp σ iv) (hp : p < 2 ^ 31) : ConIp g yX9_raw cX9_raw 2 (some .int) 1 [rf g 551, .int (nI p)] iv lv (hr t n p) := by
  refine con_intro (own := "RollingNetsModel") (by decide +kernel) rfl (Nat.le_of_ble_eq_true rfl) (L0 := [some (rf g 551), some (.int (nI p))]) rfl (fun Z zh => ?_)
  have hn := hT.1.1
  refine z_iloadn zh dX9_raw_0 rfl ?_
  refine z_aloadnR zh dX9_raw_1 rfl ?_
  refine z_getI (x := nI n) zh fl_Y_344 dX9_raw_2 ck_Y rfl rfl (yl_n hT hG) ?_
  refine z_icmp_ge_N (tgt := 17) zh hp (by omega) dX9_raw_5 rfl (fun q => ?_) (fun q => ?_)
  · refine z_iconst zh dX9_raw_17 ki_m1 ?_
    exact z_iret zh dX9_raw_18 (qI (hr_ge q).symm)
  · refine z_aloadnR zh dX9_raw_8 rfl ?_
    refine z_getf zh fl_Y_39 dX9_raw_9 ck_Y rfl rfl ?_
    refine z_iloadn zh dX9_raw_12 rfl ?_
    refine z_ialdE (x := t p) zh ck_ytape dX9_raw_13 (by omega) (yl_t hT hG q) ?_
    refine z_goto (tgt := 18) zh dX9_raw_14 rfl ?_
    exact z_iret zh dX9_raw_18 (qI (hr_lt q).symm)
set_option maxRecDepth 20000 in
theorem h_X9_isDigit (g : GE) {iv : Iv} {lv : Lv} {a1 : Int32}    : ConI g yX9_isDigit cX9_isDigit 2 (some .boolean) 2 [rf g 551, .int a1] iv lv (fun r iv' lv' => iv = iv' ∧ lv = lv' ∧ (r = 0 ↔ ¬ dg a1)) := by
  refine con_intro (own := "RollingNetsModel") (by decide +kernel) rfl (Nat.le_of_ble_eq_true rfl) (L0 := [some (rf g 551), some (.int a1)]) rfl (fun Z zh => ?_)
  refine z_aloadnR zh dX9_isDigit_0 rfl ?_
  refine z_iloadn zh dX9_isDigit_1 rfl ?_
  refine z_bipush zh dX9_isDigit_2 kb_48 ?_
  refine z_bipush zh dX9_isDigit_4 kb_57 ?_
  refine z_callVI zh mv_Y_79 dX9_isDigit_6 ck_Y rfl (t_X9_isIn g) ⟨Nat.le_of_ble_eq_true rfl, Nat.le_of_ble_eq_true rfl⟩ rfl rfl (Nat.le_of_ble_eq_true rfl) ?_
  rintro x1 _ _ ⟨rfl, rfl, hx1, hz2, hw1⟩
  exact z_zret zh dX9_isDigit_9 (ra_01 hx1) ⟨_, rfl, rfl, rfl, hw1⟩
set_option maxRecDepth 20000 in
theorem h_X9_isLetter (g : GE) {iv : Iv} {lv : Lv} {a1 : Int32}    : ConI g yX9_isLetter cX9_isLetter 2 (some .boolean) 2 [rf g 551, .int a1] iv lv (fun r iv' lv' => iv = iv' ∧ lv = lv' ∧ (r = 0 ↔ ¬ ltr a1)) := by
  refine con_intro (own := "RollingNetsModel") (by decide +kernel) rfl (Nat.le_of_ble_eq_true rfl) (L0 := [some (rf g 551), some (.int a1)]) rfl (fun Z zh => ?_)
  refine z_aloadnR zh dX9_isLetter_0 rfl ?_
  refine z_iloadn zh dX9_isLetter_1 rfl ?_
  refine z_bipush zh dX9_isLetter_2 kb_97 ?_
  refine z_bipush zh dX9_isLetter_4 kb_122 ?_
  refine z_callVI zh mv_Y_79 dX9_isLetter_6 ck_Y rfl (t_X9_isIn g) ⟨Nat.le_of_ble_eq_true rfl, Nat.le_of_ble_eq_true rfl⟩ rfl rfl (Nat.le_of_ble_eq_true rfl) ?_
  rintro x1 _ _ ⟨rfl, rfl, hx1, hz2, hw1⟩
  refine z_if_ne (tgt := 24) zh dX9_isLetter_9 rfl (fun q3 => ?_) (fun q3 => ?_)
  · have r4 : Ra 1 1 x1 := rb_ne_lo hx1 ra_z q3 (by decide)
    have r5 : Ra 97 122 a1 := (rb_in rl_97 rl_122 (hz2 q3))
    refine z_iconst zh dX9_isLetter_24 ki_1 ?_
    refine z_goto (tgt := 29) zh dX9_isLetter_25 rfl ?_
    exact z_zret zh dX9_isLetter_29 (ra_01 (ra_w rl_1 (by decide) (by decide))) ⟨_, rfl, rfl, rfl, fun w => absurd w (by decide), fun w => absurd (Or.inl (byc (mt hw1.mpr q3))) w⟩
  · have r6 := rb_eq (u := 0) (v := 0) hx1 ra_z q3 (by decide) (by decide)
    refine z_aloadnR zh dX9_isLetter_12 rfl ?_
    refine z_iloadn zh dX9_isLetter_13 rfl ?_
    refine z_bipush zh dX9_isLetter_14 kb_65 ?_
    refine z_bipush zh dX9_isLetter_16 kb_90 ?_
    refine z_callVI zh mv_Y_79 dX9_isLetter_18 ck_Y rfl (t_X9_isIn g) ⟨Nat.le_of_ble_eq_true rfl, Nat.le_of_ble_eq_true rfl⟩ rfl rfl (Nat.le_of_ble_eq_true rfl) ?_
    rintro x7 _ _ ⟨rfl, rfl, hx7, hz8, hw7⟩
    refine z_if_eq (tgt := 28) zh dX9_isLetter_21 rfl (fun q9 => ?_) (fun q9 => ?_)
    · have r10 := rb_eq (u := 0) (v := 0) hx7 ra_z q9 (by decide) (by decide)
      refine z_iconst zh dX9_isLetter_28 ki_0 ?_
      exact z_zret zh dX9_isLetter_29 (ra_01 (ra_w rl_0 (by decide) (by decide))) ⟨_, rfl, rfl, rfl, fun _ w => w.elim (hw1.mp q3) (hw7.mp q9), fun _ => rfl⟩
    · have r11 : Ra 1 1 x7 := rb_ne_lo hx7 ra_z q9 (by decide)
      have r12 : Ra 65 90 a1 := (rb_in rl_65 rl_90 (hz8 q9))
      refine z_iconst zh dX9_isLetter_24 ki_1 ?_
      refine z_goto (tgt := 29) zh dX9_isLetter_25 rfl ?_
      exact z_zret zh dX9_isLetter_29 (ra_01 (ra_w rl_1 (by decide) (by decide))) ⟨_, rfl, rfl, rfl, fun w => absurd w (by decide), fun w => absurd (Or.inr (byc (mt hw7.mpr q9))) w⟩
set_option maxHeartbeats 1000000 in
set_option maxRecDepth 20000 in
theorem h_X9_wordAt (g : GE) {sp : Nat → Nat → Bool} {σ iv : Iv} {lv : Lv} {t : Nat → Int32} {n a b : Nat} (hT : YL sp σ t n) (hG : SI sp σ iv) (hab : a ≤ b) (hbn : b ≤ n) (hre : re ltr t n a = b) : ConIp g yX9_wordAt cX9_wordAt 6 (some .int) 1 [rf g 551, .int (nI a), .int (nI b)] iv lv (kdr (kd t n a)) := by
  refine con_intro (own := "RollingNetsModel") (by decide +kernel) rfl (Nat.le_of_ble_eq_true rfl) (L0 := [some (rf g 551), some (.int (nI a)), some (.int (nI b)), none, none, none]) rfl (fun Z zh => ?_)
  have hn := hT.1.1
  have hlet : ∀ j, a ≤ j → j < b → ltr (hr t n j) := fun j h1 h2 => re_all (p := a) h1 (by omega)
  have hnb : ¬ ltr (hr t n b) := by rw [← hre]; exact re_end ltr_m
  refine z_iconst zh dX9_wordAt_0 ki_m1 ?_
  refine z_istoren zh dX9_wordAt_1 (by decide) (L' := [some (rf g 551), some (.int (nI a)), some (.int (nI b)), some (.int (-1)), none, none]) rfl ?_
  refine z_iconst zh dX9_wordAt_2 ki_0 ?_
  refine z_istore zh dX9_wordAt_3 (by decide) (L' := [some (rf g 551), some (.int (nI a)), some (.int (nI b)), some (.int (-1)), some (.int (nI 0)), none]) rfl ?_
  have J5 : ∀ (q k : Nat) (nu : Int32), k ≤ 10 → nu + nI 1 = nI k → (∀ c, c < k → ¬ mtc t n a c) → 10 - k < q → Z 5 [some (rf g 551), some (.int (nI a)), some (.int (nI b)), some (.int nu), some (.int (nI (ws k))), none] [] iv lv := by
    intro q
    induction q with
    | zero => intro k nu _ _ _ hq; omega
    | succ q ih =>
      intro k nu hk hnu hno hq
      refine z_iload zh dX9_wordAt_5 rfl ?_
      refine z_bipush zh dX9_wordAt_7 kb_56 ?_
      by_cases hk10 : k = 10
      · subst hk10
        refine z_icmp_ge_N (tgt := 117) zh (by decide) (by decide) dX9_wordAt_9 rfl (fun _ => ?_) (fun w => absurd w (by decide))
        refine z_iconst zh dX9_wordAt_117 ki_m1 ?_
        exact z_iret zh dX9_wordAt_118 (qI (by rw [kd_no (fun j hj => hno j hj)]; rfl))
      have hk9 : k < 10 := by omega
      have hws := ws_s k hk9
      have hw8 := wl_8 k (by omega)
      have hlt := ws_lt k hk9
      refine z_icmp_ge_N (tgt := 117) zh (by omega) (by omega) dX9_wordAt_9 rfl (fun w => absurd w (by omega)) (fun _ => ?_)
      refine z_iconst zh dX9_wordAt_12 ki_0 ?_
      refine z_istore zh dX9_wordAt_13 (by decide) (L' := [some (rf g 551), some (.int (nI a)), some (.int (nI b)), some (.int nu), some (.int (nI (ws k))), some (.int (nI 0))]) rfl ?_
      refine z_iloadn zh dX9_wordAt_15 rfl ?_
      refine z_iconst zh dX9_wordAt_16 ki_1 ?_
      refine z_iadd zh dX9_wordAt_17 ?_
      rw [hnu]
      refine z_istoren zh dX9_wordAt_18 (by decide) (L' := [some (rf g 551), some (.int (nI a)), some (.int (nI b)), some (.int (nI k)), some (.int (nI (ws k))), some (.int (nI 0))]) rfl ?_
      have J87 : ∀ i, ¬ mtc t n a k → Z 87 [some (rf g 551), some (.int (nI a)), some (.int (nI b)), some (.int (nI k)), some (.int (nI (ws k))), some (.int (nI i))] [] iv lv := by
        intro i hm
        have J93 : ∀ (p c : Nat), c ≤ wl k → wl k - c < p → Z 93 [some (rf g 551), some (.int (nI a)), some (.int (nI b)), some (.int (nI k)), some (.int (nI (ws k + 1 + c))), some (.int (nI i))] [] iv lv := by
          intro p
          induction p with
          | zero => intro c _ hp; omega
          | succ p ih2 =>
            intro c hc hp
            refine z_aloadnR zh dX9_wordAt_93 rfl ?_
            refine z_getf zh fl_Y_42 dX9_wordAt_94 ck_Y rfl rfl ?_
            refine z_iload zh dX9_wordAt_97 rfl ?_
            by_cases hc9 : c = wl k
            · subst hc9
              refine z_ialdE (x := nI 32) zh ck_words dX9_wordAt_99 (by omega) ((yl_w hT hG (by omega)).trans (by rw [← hws.1]; exact wtx_b (k + 1) (by omega))) ?_
              refine z_bipush zh dX9_wordAt_100 kb_32 ?_
              refine z_icmp_eq (tgt := 114) zh dX9_wordAt_102 rfl (fun _ => ?_) (fun w => absurd rfl w)
              refine z_goto (tgt := 5) zh dX9_wordAt_114 rfl ?_
              rw [← hws.1]
              refine z_forget zh [true, true, true, true, true, false] (L2 := [some (rf g 551), some (.int (nI a)), some (.int (nI b)), some (.int (nI k)), some (.int (nI (ws (k + 1)))), none]) rfl ?_
              exact ih (k + 1) (nI k) (by omega) (by rw [nI_add]) (fun d hd => by
                by_cases w : d = k
                · subst w; exact hm
                · exact hno d (by omega)) (by omega)
            · have hcl := wc_ltr k hk9 c (by omega)
              refine z_ialdE (x := wc k c) zh ck_words dX9_wordAt_99 (by omega) ((yl_w hT hG (by omega)).trans (wtx_w k hk9 c (by omega))) ?_
              refine z_bipush zh dX9_wordAt_100 kb_32 ?_
              refine z_icmp_eq (tgt := 114) zh dX9_wordAt_102 rfl (fun w => absurd (by rw [w] at hcl; exact hcl) ltr_32) (fun _ => ?_)
              refine z_iload zh dX9_wordAt_105 rfl ?_
              refine z_iconst zh dX9_wordAt_107 ki_1 ?_
              refine z_iaddN zh dX9_wordAt_108 ?_
              refine z_istore zh dX9_wordAt_109 (by decide) (L' := [some (rf g 551), some (.int (nI a)), some (.int (nI b)), some (.int (nI k)), some (.int (nI (ws k + 1 + (c + 1)))), some (.int (nI i))]) rfl ?_
              refine z_goto (tgt := 93) zh dX9_wordAt_111 rfl ?_
              exact ih2 (c + 1) (by omega) (by omega)
        refine z_iload zh dX9_wordAt_87 rfl ?_
        refine z_iconst zh dX9_wordAt_89 ki_1 ?_
        refine z_iaddN zh dX9_wordAt_90 ?_
        refine z_istore zh dX9_wordAt_91 (by decide) (L' := [some (rf g 551), some (.int (nI a)), some (.int (nI b)), some (.int (nI k)), some (.int (nI (ws k + 1))), some (.int (nI i))]) rfl ?_
        exact J93 (wl k + 1) 0 (by omega) (by omega)
      have J60 : ∀ i, i ≤ wl k → (∀ c, c < i → hr t n (a + c) = wc k c) → (a + i = b ∨ ¬ mtc t n a k) → a + i ≤ b → Z 60 [some (rf g 551), some (.int (nI a)), some (.int (nI b)), some (.int (nI k)), some (.int (nI (ws k))), some (.int (nI i))] [] iv lv := by
        intro i hi hc hx hib
        refine z_iloadn zh dX9_wordAt_60 rfl ?_
        refine z_iload zh dX9_wordAt_61 rfl ?_
        refine z_iaddN zh dX9_wordAt_63 ?_
        refine z_iloadn zh dX9_wordAt_64 rfl ?_
        refine z_icmp_ne_N (tgt := 87) zh (by omega) (by omega) dX9_wordAt_65 rfl (fun w => J87 i (hx.resolve_left w)) (fun w => ?_)
        refine z_aloadnR zh dX9_wordAt_68 rfl ?_
        refine z_getf zh fl_Y_42 dX9_wordAt_69 ck_Y rfl rfl ?_
        refine z_iload zh dX9_wordAt_72 rfl ?_
        refine z_iconst zh dX9_wordAt_74 ki_1 ?_
        refine z_iaddN zh dX9_wordAt_75 ?_
        refine z_iload zh dX9_wordAt_76 rfl ?_
        refine z_iaddN zh dX9_wordAt_78 ?_
        by_cases hi9 : i = wl k
        · subst hi9
          have hm : mtc t n a k := ⟨hc, by rw [w]; exact hnb⟩
          refine z_ialdE (x := nI 32) zh ck_words dX9_wordAt_79 (by omega) ((yl_w hT hG (by omega)).trans (by rw [← hws.1]; exact wtx_b (k + 1) (by omega))) ?_
          refine z_bipush zh dX9_wordAt_80 kb_32 ?_
          refine z_icmp_ne (tgt := 87) zh dX9_wordAt_82 rfl (fun w => absurd rfl w) (fun _ => ?_)
          refine z_iloadn zh dX9_wordAt_85 rfl ?_
          exact z_iret zh dX9_wordAt_86 (qI (by rw [kd_at hm hk9 hno, kdr_n hk10]))
        · have hcl := wc_ltr k hk9 i (by omega)
          refine z_ialdE (x := wc k i) zh ck_words dX9_wordAt_79 (by omega) ((yl_w hT hG (by omega)).trans (wtx_w k hk9 i (by omega))) ?_
          refine z_bipush zh dX9_wordAt_80 kb_32 ?_
          refine z_icmp_ne (tgt := 87) zh dX9_wordAt_82 rfl (fun _ => J87 i (fun hm => ?_)) (fun w2 => absurd (by rw [w2] at hcl; exact hcl) ltr_32)
          have := mt_re hk9 hm
          omega
      have J19 : ∀ (p i : Nat), i ≤ wl k → a + i ≤ b → (∀ c, c < i → hr t n (a + c) = wc k c) → b - (a + i) < p → Z 19 [some (rf g 551), some (.int (nI a)), some (.int (nI b)), some (.int (nI k)), some (.int (nI (ws k))), some (.int (nI i))] [] iv lv := by
        intro p
        induction p with
        | zero => intro i _ _ _ hp; omega
        | succ p ih3 =>
          intro i hi hib hc hp
          refine z_iloadn zh dX9_wordAt_19 rfl ?_
          refine z_iload zh dX9_wordAt_20 rfl ?_
          refine z_iaddN zh dX9_wordAt_22 ?_
          refine z_iloadn zh dX9_wordAt_23 rfl ?_
          refine z_icmp_ge_N (tgt := 60) zh (by omega) (by omega) dX9_wordAt_24 rfl (fun w => J60 i hi hc (Or.inl (by omega)) hib) (fun w => ?_)
          have hl := hlet (a + i) (by omega) w
          have ht : hr t n (a + i) = t (a + i) := hr_lt (by omega)
          rw [ht] at hl
          refine z_aloadnR zh dX9_wordAt_27 rfl ?_
          refine z_getf zh fl_Y_42 dX9_wordAt_28 ck_Y rfl rfl ?_
          refine z_iload zh dX9_wordAt_31 rfl ?_
          refine z_iconst zh dX9_wordAt_33 ki_1 ?_
          refine z_iaddN zh dX9_wordAt_34 ?_
          refine z_iload zh dX9_wordAt_35 rfl ?_
          refine z_iaddN zh dX9_wordAt_37 ?_
          by_cases hi9 : i = wl k
          · subst hi9
            refine z_ialdE (x := nI 32) zh ck_words dX9_wordAt_38 (by omega) ((yl_w hT hG (by omega)).trans (by rw [← hws.1]; exact wtx_b (k + 1) (by omega))) ?_
            refine z_aloadnR zh dX9_wordAt_39 rfl ?_
            refine z_getf zh fl_Y_39 dX9_wordAt_40 ck_Y rfl rfl ?_
            refine z_iloadn zh dX9_wordAt_43 rfl ?_
            refine z_iload zh dX9_wordAt_44 rfl ?_
            refine z_iaddN zh dX9_wordAt_46 ?_
            refine z_ialdE (x := t (a + wl k)) zh ck_ytape dX9_wordAt_47 (by omega) (yl_t hT hG (by omega)) ?_
            refine z_icmp_ne (tgt := 60) zh dX9_wordAt_48 rfl (fun _ => J60 _ hi hc (Or.inr (fun hm => ?_)) hib) (fun w2 => absurd (by rw [← w2] at hl; exact hl) ltr_32)
            have := mt_re hk9 hm
            omega
          · refine z_ialdE (x := wc k i) zh ck_words dX9_wordAt_38 (by omega) ((yl_w hT hG (by omega)).trans (wtx_w k hk9 i (by omega))) ?_
            refine z_aloadnR zh dX9_wordAt_39 rfl ?_
            refine z_getf zh fl_Y_39 dX9_wordAt_40 ck_Y rfl rfl ?_
            refine z_iloadn zh dX9_wordAt_43 rfl ?_
            refine z_iload zh dX9_wordAt_44 rfl ?_
            refine z_iaddN zh dX9_wordAt_46 ?_
            refine z_ialdE (x := t (a + i)) zh ck_ytape dX9_wordAt_47 (by omega) (yl_t hT hG (by omega)) ?_
            refine z_icmp_ne (tgt := 60) zh dX9_wordAt_48 rfl (fun w2 => J60 i hi hc (Or.inr (fun hm => w2 (by rw [← ht]; exact (hm.1 i (by omega)).symm))) hib) (fun w2 => ?_)
            refine z_iload zh dX9_wordAt_51 rfl ?_
            refine z_iconst zh dX9_wordAt_53 ki_1 ?_
            refine z_iaddN zh dX9_wordAt_54 ?_
            refine z_istore zh dX9_wordAt_55 (by decide) (L' := [some (rf g 551), some (.int (nI a)), some (.int (nI b)), some (.int (nI k)), some (.int (nI (ws k))), some (.int (nI (i + 1)))]) rfl ?_
            refine z_goto (tgt := 19) zh dX9_wordAt_57 rfl ?_
            exact ih3 (i + 1) (by omega) (by omega) (fun c hc9 => by
              by_cases w3 : c = i
              · subst w3; rw [ht]; exact w2.symm
              · exact hc c (by omega)) (by omega)
      exact J19 (b - a + 1) 0 (by omega) (by omega) (fun c hc => by omega) (by omega)
  exact J5 11 0 (-1) (by omega) (by decide) (fun c hc => by omega) (by omega)
