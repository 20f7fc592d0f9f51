/-! THE WORD BETWEEN TWO PLACES OF THE TAPE -/
theorem w56 {sp : Nat → Nat → Bool} {σ iv : Iv} {x z : Int32} (hG : SI sp σ iv) (ez : iv 562 x.toNatClampNeg = z) (hx : x.toInt = 56) : z = nI 32 := by
  rw [cl_n (n := 56) hx] at ez
  have h : Ra 32 32 (iv 562 56) := si_Y hG 11 (j := 56) rfl
  rw [ez] at h
  exact ra_eqq h rl_32
set_option maxHeartbeats 1000000 in
set_option maxRecDepth 20000 in
theorem s_X9_wordAt (g : GE) {sp : Nat → Nat → Bool} {σ : Iv} {iv : Iv} {lv : Lv} {a1 a2 : Int32} (ha1 : Ra 0 400 a1) (ha2 : Ra 0 400 a2) (hG : SI sp σ iv) (hW : ∀ j : Nat, a1.toInt ≤ (j : Int) → (j : Int) < a2.toInt → ¬ iv 561 j = nI 32) : ConI g yX9_wordAt cX9_wordAt 6 (some .int) 1 [rf g 551, .int a1, .int a2] iv lv (fun r iv' lv' => iv = iv' ∧ lv = lv' ∧ True) := by
  refine con_intro (own := "RollingNetsModel") (by decide +kernel) rfl (Nat.le_of_ble_eq_true rfl) (L0 := [some (rf g 551), some (.int a1), some (.int a2), none, none, none]) rfl (fun Z zh => ?_)
  have f1 := ha1.1; have f2 := ha1.2; have f3 := ha2.1; have f4 := ha2.2; have o1 := rl_1.1; have o2 := rl_1.2
  refine z_iconst zh dX9_wordAt_0 ki_m1 ?_
  refine z_istoren zh dX9_wordAt_1 (by decide) (L' := [some (rf g 551), some (.int a1), some (.int a2), some (.int (-1)), none, none]) rfl ?_
  refine z_iconst zh dX9_wordAt_2 ki_0 ?_
  refine z_istore zh dX9_wordAt_3 (by decide) (L' := [some (rf g 551), some (.int a1), some (.int a2), some (.int (-1)), some (.int (nI 0)), none]) rfl ?_
  have J5 : ∀ (q : Nat) (nu k : Int32), Ra 0 56 k → 56 - k.toInt < (q : Int) → Z 5 [some (rf g 551), some (.int a1), some (.int a2), some (.int nu), some (.int k), none] [] iv lv := by
    intro q
    induction q with
    | zero => intro nu k hk hn; exact (ms_uz hk hn).elim
    | succ q ih =>
      intro nu k hk hn
      refine z_iload zh dX9_wordAt_5 rfl ?_
      refine z_bipush zh dX9_wordAt_7 kb_56 ?_
      refine z_icmp_ge (tgt := 117) zh dX9_wordAt_9 rfl (fun _ => ?_) (fun q => ?_)
      · refine z_iconst zh dX9_wordAt_117 ki_m1 ?_
        exact z_iret zh dX9_wordAt_118 ⟨_, rfl, rfl, rfl, trivial⟩
      have hk1 : Ra 0 55 k := rb_lt_l rl_56 hk (rb_nle q) (by decide)
      have k1 := hk1.1; have k2 := hk1.2
      refine z_iconst zh dX9_wordAt_12 ki_0 ?_
      refine z_istore zh dX9_wordAt_13 (by decide) (L' := [some (rf g 551), some (.int a1), some (.int a2), some (.int nu), some (.int k), some (.int (nI 0))]) rfl ?_
      refine z_iloadn zh dX9_wordAt_15 rfl ?_
      refine z_iconst zh dX9_wordAt_16 ki_1 ?_
      refine y_iaddT zh dX9_wordAt_17 (fun x1 => ?_)
      refine z_istoren zh dX9_wordAt_18 (by decide) (L' := [some (rf g 551), some (.int a1), some (.int a2), some (.int x1), some (.int k), some (.int (nI 0))]) rfl ?_
      have J93 : ∀ (p : Nat) (m i : Int32), Ra 1 56 m → k.toInt < m.toInt → 56 - m.toInt < (p : Int) → Z 93 [some (rf g 551), some (.int a1), some (.int a2), some (.int x1), some (.int m), some (.int i)] [] iv lv := by
        intro p
        induction p with
        | zero => intro m i hm _ hp; exact (ms_uz hm hp).elim
        | succ p ih2 =>
          intro m i hm hkm hp
          refine z_aloadnR zh dX9_wordAt_93 rfl ?_
          refine z_getf zh fl_Y_42 dX9_wordAt_94 ck_Y rfl rfl ?_
          refine z_iload zh dX9_wordAt_97 rfl ?_
          refine y_iald zh ck_words dX9_wordAt_99 hm (by decide) (by decide) (fun x2 ex2 => ?_)
          refine z_bipush zh dX9_wordAt_100 kb_32 ?_
          refine z_icmp_eq (tgt := 114) zh dX9_wordAt_102 rfl (fun _ => ?_) (fun q2 => ?_)
          · refine z_goto (tgt := 5) zh dX9_wordAt_114 rfl ?_
            refine z_forget zh [true, true, true, true, true, false] (L2 := [some (rf g 551), some (.int a1), some (.int a2), some (.int x1), some (.int m), none]) rfl ?_
            exact ih x1 m (ra_w hm (by decide) (by decide)) (by omega)
          · have hm1 : Ra 1 55 m := by
              have m1 := hm.1; have m2 := hm.2
              by_cases e : m.toInt = 56
              · exact absurd (w56 hG ex2 e) q2
              · exact ⟨m1, by omega⟩
            refine z_iload zh dX9_wordAt_105 rfl ?_
            refine z_iconst zh dX9_wordAt_107 ki_1 ?_
            refine y_iadd zh dX9_wordAt_108 hm1 rl_1 (u := 2) (v := 56) rfl rfl (by decide) (by decide) (fun x3 hc3 hx3 => ?_)
            refine z_istore zh dX9_wordAt_109 (by decide) (L' := [some (rf g 551), some (.int a1), some (.int a2), some (.int x1), some (.int x3), some (.int i)]) rfl ?_
            refine z_goto (tgt := 93) zh dX9_wordAt_111 rfl ?_
            exact ih2 x3 i (ra_w hx3 (by decide) (by decide)) (by have := (bs_add hc3 rl_1); omega) (ms_up (bs_add hc3 rl_1) (by decide) hp)
      have J87 : ∀ i, Z 87 [some (rf g 551), some (.int a1), some (.int a2), some (.int x1), some (.int k), some (.int i)] [] iv lv := by
        intro i
        refine z_iload zh dX9_wordAt_87 rfl ?_
        refine z_iconst zh dX9_wordAt_89 ki_1 ?_
        refine y_iadd zh dX9_wordAt_90 hk1 rl_1 (u := 1) (v := 56) rfl rfl (by decide) (by decide) (fun x4 hc4 hx4 => ?_)
        refine z_istore zh dX9_wordAt_91 (by decide) (L' := [some (rf g 551), some (.int a1), some (.int a2), some (.int x1), some (.int x4), some (.int i)]) rfl ?_
        exact J93 57 x4 i hx4 (by have := (bs_add hc4 rl_1); omega) (by have := hx4.1; omega)
      have J19 : ∀ (p : Nat) (i : Int32), Ra 0 55 i → k.toInt + 1 + i.toInt ≤ 56 → 55 - i.toInt < (p : Int) → Z 19 [some (rf g 551), some (.int a1), some (.int a2), some (.int x1), some (.int k), some (.int i)] [] iv lv := by
        intro p
        induction p with
        | zero => intro i hi _ hp; exact (ms_uz hi hp).elim
        | succ p ih3 =>
          intro i hi hki hp
          have i1 := hi.1; have i2 := hi.2
          have J60 : Z 60 [some (rf g 551), some (.int a1), some (.int a2), some (.int x1), some (.int k), some (.int i)] [] iv lv := by
            refine z_iloadn zh dX9_wordAt_60 rfl ?_
            refine z_iload zh dX9_wordAt_61 rfl ?_
            refine y_iadd zh dX9_wordAt_63 ha1 hi (u := 0) (v := 455) rfl rfl (by decide) (by decide) (fun x5 hc5 hx5 => ?_)
            refine z_iloadn zh dX9_wordAt_64 rfl ?_
            refine z_icmp_ne (tgt := 87) zh dX9_wordAt_65 rfl (fun _ => J87 i) (fun _ => ?_)
            refine z_aloadnR zh dX9_wordAt_68 rfl ?_
            refine z_getf zh fl_Y_42 dX9_wordAt_69 ck_Y rfl rfl ?_
            refine z_iload zh dX9_wordAt_72 rfl ?_
            refine z_iconst zh dX9_wordAt_74 ki_1 ?_
            refine y_iadd zh dX9_wordAt_75 hk1 rl_1 (u := 1) (v := 56) rfl rfl (by decide) (by decide) (fun x6 hc6 hx6 => ?_)
            refine z_iload zh dX9_wordAt_76 rfl ?_
            refine y_iadd zh dX9_wordAt_78 hx6 hi (u := 1) (v := 111) rfl rfl (by decide) (by decide) (fun x7 hc7 hx7 => ?_)
            have hxwz : Ra 1 56 x7 := ⟨by have := hk1.1; have := hk1.2; have := rl_1.1; have := rl_1.2; have := hi.1; have := hi.2; omega, by have := hk1.1; have := hk1.2; have := rl_1.1; have := rl_1.2; have := hi.1; have := hi.2; omega⟩
            refine y_iald zh ck_words dX9_wordAt_79 hxwz (by decide) (by decide) (fun wz ewz => ?_)
            refine z_bipush zh dX9_wordAt_80 kb_32 ?_
            refine z_icmp_ne (tgt := 87) zh dX9_wordAt_82 rfl (fun _ => J87 i) (fun _ => ?_)
            refine z_iloadn zh dX9_wordAt_85 rfl ?_
            exact z_iret zh dX9_wordAt_86 ⟨_, rfl, rfl, rfl, trivial⟩
          refine z_iloadn zh dX9_wordAt_19 rfl ?_
          refine z_iload zh dX9_wordAt_20 rfl ?_
          refine y_iadd zh dX9_wordAt_22 ha1 hi (u := 0) (v := 455) rfl rfl (by decide) (by decide) (fun x8 hc8 hx8 => ?_)
          refine z_iloadn zh dX9_wordAt_23 rfl ?_
          refine z_icmp_ge (tgt := 60) zh dX9_wordAt_24 rfl (fun _ => J60) (fun q3 => ?_)
          have q3 := ltI.mp (rb_nle q3)
          refine z_aloadnR zh dX9_wordAt_27 rfl ?_
          refine z_getf zh fl_Y_42 dX9_wordAt_28 ck_Y rfl rfl ?_
          refine z_iload zh dX9_wordAt_31 rfl ?_
          refine z_iconst zh dX9_wordAt_33 ki_1 ?_
          refine y_iadd zh dX9_wordAt_34 hk1 rl_1 (u := 1) (v := 56) rfl rfl (by decide) (by decide) (fun x9 hc9 hx9 => ?_)
          refine z_iload zh dX9_wordAt_35 rfl ?_
          refine y_iadd zh dX9_wordAt_37 hx9 hi (u := 1) (v := 111) rfl rfl (by decide) (by decide) (fun x10 hc10 hx10 => ?_)
          have hxwy : Ra 1 56 x10 := ⟨by have := hk1.1; have := hk1.2; have := rl_1.1; have := rl_1.2; have := hi.1; have := hi.2; omega, by have := hk1.1; have := hk1.2; have := rl_1.1; have := rl_1.2; have := hi.1; have := hi.2; omega⟩
          refine y_iald zh ck_words dX9_wordAt_38 hxwy (by decide) (by decide) (fun wy ewy => ?_)
          refine z_aloadnR zh dX9_wordAt_39 rfl ?_
          refine z_getf zh fl_Y_39 dX9_wordAt_40 ck_Y rfl rfl ?_
          refine z_iloadn zh dX9_wordAt_43 rfl ?_
          refine z_iload zh dX9_wordAt_44 rfl ?_
          refine y_iadd zh dX9_wordAt_46 ha1 hi (u := 0) (v := 455) rfl rfl (by decide) (by decide) (fun x11 hc11 hx11 => ?_)
          have htz : Ra 0 399 x11 := ⟨by have := ha1.1; have := ha1.2; have := hi.1; have := hi.2; omega, by have := ha1.1; have := ha1.2; have := hi.1; have := hi.2; omega⟩
          refine y_iald zh ck_ytape dX9_wordAt_47 htz (by decide) (by decide) (fun tz etz => ?_)
          refine z_icmp_ne (tgt := 60) zh dX9_wordAt_48 rfl (fun _ => J60) (fun q4 => ?_)
          have hlt : k.toInt + 1 + i.toInt < 56 := by
            by_cases e : x10.toInt = 56
            · exfalso
              have hz := w56 hG ewy e
              rw [q4, ← etz] at hz
              have hc := ra_clamp htz (by decide)
              exact hW _ (by have := ha1.1; have := ha1.2; have := hi.1; have := hi.2; omega) (by have := ha1.1; have := ha1.2; have := hi.1; have := hi.2; omega) hz
            · have := hk1.1; have := hk1.2; have := rl_1.1; have := rl_1.2; have := hi.1; have := hi.2; omega
          refine z_iload zh dX9_wordAt_51 rfl ?_
          refine z_iconst zh dX9_wordAt_53 ki_1 ?_
          refine y_iadd zh dX9_wordAt_54 hi rl_1 (u := 1) (v := 56) rfl rfl (by decide) (by decide) (fun x12 hc12 hx12 => ?_)
          refine z_istore zh dX9_wordAt_55 (by decide) (L' := [some (rf g 551), some (.int a1), some (.int a2), some (.int x1), some (.int k), some (.int x12)]) rfl ?_
          refine z_goto (tgt := 19) zh dX9_wordAt_57 rfl ?_
          exact ih3 x12 ⟨by have := (bs_add hc12 rl_1); omega, by have := (bs_add hc12 rl_1); omega⟩ (by have := (bs_add hc12 rl_1); omega) (ms_up (bs_add hc12 rl_1) (by decide) hp)
      exact J19 56 (nI 0) (ra_w rl_0 (by decide) (by decide)) (by have := rl_0.2; omega) (ms_u0 rl_0 (by decide))
  exact J5 57 (-1) (nI 0) (ra_w rl_0 (by decide) (by decide)) (ms_u0 rl_0 (by decide))
