set_option maxRecDepth 20000 in
theorem s_X9_noticeAt (g : GE) {sp : Nat → Nat → Bool} {σ : Iv} {iv : Iv} {lv : Lv} {a1 : Int32} (ha1 : Ra 0 59 a1) (hG : SI sp σ iv)  : ConI g yX9_noticeAt cX9_noticeAt 2 (some .int) 1 [rf g 551, .int a1] iv lv (fun r iv' lv' => iv = iv' ∧ lv = lv' ∧ Ra 16710 17890 r ∧ r.toInt = 16710 + 20 * a1.toInt) := by
  refine con_intro (own := "RollingNetsModel") (by decide +kernel) rfl (Nat.le_of_ble_eq_true rfl) (L0 := [some (rf g 551), some (.int a1)]) rfl (fun Z zh => ?_)
  refine z_sipush zh dX9_noticeAt_0 ks_16710 ?_
  refine z_bipush zh dX9_noticeAt_3 kb_20 ?_
  refine z_iloadn zh dX9_noticeAt_5 rfl ?_
  refine y_imul2 zh dX9_noticeAt_6 ha1 rl_20 (by decide) (u := 0) (v := 1180) rfl rfl (by decide) (by decide) (fun x1 hc1 hx1 => ?_)
  refine y_iadd zh dX9_noticeAt_7 rl_16710 hx1 (u := 16710) (v := 17890) rfl rfl (by decide) (by decide) (fun x2 hc2 hx2 => ?_)
  exact z_iret zh dX9_noticeAt_8 ⟨_, rfl, rfl, rfl, hx2, (by have := rl_16710.1; have := rl_16710.2; have := rl_20.1; have := rl_20.2; have := ha1.1; have := ha1.2; omega)⟩
set_option maxRecDepth 20000 in
theorem s_X9_tradeAt (g : GE) {sp : Nat → Nat → Bool} {σ : Iv} {iv : Iv} {lv : Lv} {a1 : Int32} (ha1 : Ra 0 199 a1) (hG : SI sp σ iv)  : ConI g yX9_tradeAt cX9_tradeAt 2 (some .int) 1 [rf g 551, .int a1] iv lv (fun r iv' lv' => iv = iv' ∧ lv = lv' ∧ Ra 15110 16702 r ∧ r.toInt = 15110 + 8 * a1.toInt) := by
  refine con_intro (own := "RollingNetsModel") (by decide +kernel) rfl (Nat.le_of_ble_eq_true rfl) (L0 := [some (rf g 551), some (.int a1)]) rfl (fun Z zh => ?_)
  refine z_sipush zh dX9_tradeAt_0 ks_15110 ?_
  refine z_bipush zh dX9_tradeAt_3 kb_8 ?_
  refine z_iloadn zh dX9_tradeAt_5 rfl ?_
  refine y_imul2 zh dX9_tradeAt_6 ha1 rl_8 (by decide) (u := 0) (v := 1592) rfl rfl (by decide) (by decide) (fun x1 hc1 hx1 => ?_)
  refine y_iadd zh dX9_tradeAt_7 rl_15110 hx1 (u := 15110) (v := 16702) rfl rfl (by decide) (by decide) (fun x2 hc2 hx2 => ?_)
  exact z_iret zh dX9_tradeAt_8 ⟨_, rfl, rfl, rfl, hx2, (by have := rl_15110.1; have := rl_15110.2; have := rl_8.1; have := rl_8.2; have := ha1.1; have := ha1.2; omega)⟩
