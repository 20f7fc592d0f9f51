/-! PAIRS 0 -/
theorem v_X8_tell (g : GE) {iv : Iv} {lv : Lv} {a1 : Int32} {a2 : Int32} {a3 : Int32} {a4 : Int32}  (hG : SI s0 z0 iv) (hR : RV iv) : ConI g yX8_tell cX8_tell 6 (some .boolean) 3 [rf g 0, .int a1, .int a2, .int a3, .int a4] iv lv (fun r iv lv => SI s0 z0 iv ∧ RV iv ∧ r = bi (TlOk (iv 2 0) a1 a2 a3 a4)) := by
  refine con_mono (e_X8_tell g (si_u (rm := rmN) hG) rfl) (fun r iv' lv' h => ⟨si_0 h.1, rv_fr h.1 hR, ?_⟩)
  rw [show iv' 2 0 = iv 2 0 from (ag h.1 (k := 2) (j := 0) (u9_m (by unfold c9m; omega)) (fun z => z))]
  exact h.2.2.2.2.2
theorem v_X9_tell (g : GE) {iv : Iv} {lv : Lv} {a1 : Int32} {a2 : Int32} {a3 : Int32} {a4 : Int32} {r0 : Int32} (hG : SI s0 z0 iv) (hM : RV iv ∧ r0 = bi (TlOk (iv 2 0) a1 a2 a3 a4)) : ConI g yX9_tell cX9_tell 5 (some .boolean) 3 [rf g 551, .int a1, .int a2, .int a3, .int a4] iv lv (fun r iv lv => SI s0 z0 iv ∧ RV iv ∧ r = r0) := by
  exact con_mono (e_X9_tell g (si_u (rm := rmN) hG) (si_c hG (k := 2) (j := 0) rfl) hM.1.1) (fun r iv' lv' h => ⟨si_0 h.1, rv_fr h.1 hM.1, h.2.2.2.2.2.trans hM.2.symm⟩)
theorem v_X8_suspend (g : GE) {iv : Iv} {lv : Lv} {a1 : Int32} {a2 : Int32}  (hG : SI s0 z0 iv) (hR : RV iv) : ConI g yX8_suspend cX8_suspend 3 (some .boolean) 2 [rf g 0, .int a1, .int a2] iv lv (fun r iv lv => SI s0 z0 iv ∧ RV iv ∧ r = bi (Mb (iv 2 0) a1)) := by
  refine con_mono (e_X8_suspend g (si_u (rm := rmN) hG) rfl) (fun r iv' lv' h => ⟨si_0 h.1, rv_fr h.1 hR, ?_⟩)
  rw [show iv' 2 0 = iv 2 0 from (ag h.1 (k := 2) (j := 0) (u9_m (by unfold c9m; omega)) (fun z => z))]
  exact h.2.2.2
theorem v_X9_suspend (g : GE) {iv : Iv} {lv : Lv} {a1 : Int32} {a2 : Int32} {r0 : Int32} (hG : SI s0 z0 iv) (hM : RV iv ∧ r0 = bi (Mb (iv 2 0) a1)) : ConI g yX9_suspend cX9_suspend 3 (some .boolean) 3 [rf g 551, .int a1, .int a2] iv lv (fun r iv lv => SI s0 z0 iv ∧ RV iv ∧ r = r0) := by
  exact con_mono (e_X9_suspend g (si_u (rm := rmN) hG) (si_c hG (k := 2) (j := 0) rfl) hM.1.1) (fun r iv' lv' h => ⟨si_0 h.1, rv_fr h.1 hM.1, h.2.2.2.trans hM.2.symm⟩)
theorem v_X8_collateral (g : GE) {iv : Iv} {lv : Lv} {a1 : Int32} {a2 : Int32}  (hG : SI s0 z0 iv) (hR : RV iv) : ConI g yX8_collateral cX8_collateral 3 (some .boolean) 2 [rf g 0, .int a1, .int a2] iv lv (fun r iv lv => SI s0 z0 iv ∧ RV iv ∧ r = bi (CoOk (iv 2 0) a1 a2)) := by
  refine con_mono (e_X8_collateral g (si_u (rm := rmN) hG) rfl) (fun r iv' lv' h => ⟨si_0 h.1, rv_fr h.1 hR, ?_⟩)
  rw [show iv' 2 0 = iv 2 0 from (ag h.1 (k := 2) (j := 0) (u9_m (by unfold c9m; omega)) (fun z => z))]
  exact h.2.2.2.2
theorem v_X9_collateral (g : GE) {iv : Iv} {lv : Lv} {a1 : Int32} {a2 : Int32} {r0 : Int32} (hG : SI s0 z0 iv) (hM : RV iv ∧ r0 = bi (CoOk (iv 2 0) a1 a2)) : ConI g yX9_collateral cX9_collateral 3 (some .boolean) 3 [rf g 551, .int a1, .int a2] iv lv (fun r iv lv => SI s0 z0 iv ∧ RV iv ∧ r = r0) := by
  exact con_mono (e_X9_collateral g (si_u (rm := rmN) hG) (si_c hG (k := 2) (j := 0) rfl) hM.1.1) (fun r iv' lv' h => ⟨si_0 h.1, rv_fr h.1 hM.1, h.2.2.2.2.trans hM.2.symm⟩)
theorem v_X8_fault (g : GE) {iv : Iv} {lv : Lv} {a1 : Int32}  (hG : SI s0 z0 iv) (hR : RV iv) : ConI g yX8_fault cX8_fault 2 (some .int) 1 [rf g 0, .int a1] iv lv (fun r iv lv => SI s0 z0 iv ∧ RV iv ∧ r = fu_x a1 (iv 541 4) (iv 541 5)) := by
  exact con_mono (e_X8_fault g rfl rfl) (fun r iv' lv' h => by
    obtain ⟨h1, h2, h3⟩ := h
    subst h2
    exact ⟨hG, hR, h1⟩)
theorem v_X9_fault (g : GE) {iv : Iv} {lv : Lv} {a1 : Int32} {r0 : Int32} (hG : SI s0 z0 iv) (hM : RV iv ∧ r0 = fu_x a1 (iv 541 4) (iv 541 5)) : ConI g yX9_fault cX9_fault 2 (some .int) 1 [rf g 551, .int a1] iv lv (fun r iv lv => SI s0 z0 iv ∧ RV iv ∧ r = r0) := by
  obtain ⟨hR, hr⟩ := hM
  exact con_mono (e_X9_fault g (si_u (rm := rmN) hG) hR.2.2.2.2.2.2.1.1 hR.2.2.2.2.2.2.1.2) (fun r iv' lv' h => ⟨si_0 h.1, rv_fr h.1 hR, h.2.trans hr.symm⟩)
