/-! RUN, IMAGE -/
theorem f_F_rc_it {iv iv' : Iv} (h : SI (spU rc_it) iv iv') (w : RF iv) : RF iv' := rF_f (fun k j z => ag h (u9_F z) (by unfold c9F at z; unfold rc_it; omega)) w
theorem f_F_rc_iu {iv iv' : Iv} (h : SI (spU rc_iu) iv iv') (w : RF iv) : RF iv' := rF_f (fun k j z => ag h (u9_F z) (by unfold c9F at z; unfold rc_iu; omega)) w
theorem f_F_rc_r {iv iv' : Iv} (h : SI (spU rc_r) iv iv') (w : RF iv) : RF iv' := rF_f (fun k j z => ag h (u9_F z) (by unfold c9F at z; unfold rc_r; omega)) w
theorem f_F_ry_it {iv iv' : Iv} (h : SI (spU ry_it) iv iv') (w : RF iv) : RF iv' := rF_f (fun k j z => ag h (u9_F z) (by unfold c9F at z; unfold ry_it; omega)) w
theorem f_F_ry_iu {iv iv' : Iv} (h : SI (spU ry_iu) iv iv') (w : RF iv) : RF iv' := rF_f (fun k j z => ag h (u9_F z) (by unfold c9F at z; unfold ry_iu; omega)) w
theorem f_F_ry_r {iv iv' : Iv} (h : SI (spU ry_r) iv iv') (w : RF iv) : RF iv' := rF_f (fun k j z => ag h (u9_F z) (by unfold c9F at z; unfold ry_r; omega)) w
theorem f_I_rc_r {iv iv' : Iv} (h : SI (spU rc_r) iv iv') (w : RI iv) : RI iv' := rI_f (fun k j z => ag h (u9_I z) (by unfold c9I at z; unfold rc_r; omega)) w
theorem f_I_ry_r {iv iv' : Iv} (h : SI (spU ry_r) iv iv') (w : RI iv) : RI iv' := rI_f (fun k j z => ag h (u9_I z) (by unfold c9I at z; unfold ry_r; omega)) w
theorem f_T_rc_it {iv iv' : Iv} (h : SI (spU rc_it) iv iv') (w : RT iv) : RT iv' := rT_f (fun k j z => ag h (u9_T z) (by unfold c9T at z; unfold rc_it; omega)) w
theorem f_T_rc_iu {iv iv' : Iv} (h : SI (spU rc_iu) iv iv') (w : RT iv) : RT iv' := rT_f (fun k j z => ag h (u9_T z) (by unfold c9T at z; unfold rc_iu; omega)) w
theorem f_T_rc_r {iv iv' : Iv} (h : SI (spU rc_r) iv iv') (w : RT iv) : RT iv' := rT_f (fun k j z => ag h (u9_T z) (by unfold c9T at z; unfold rc_r; omega)) w
theorem f_T_ry_it {iv iv' : Iv} (h : SI (spU ry_it) iv iv') (w : RT iv) : RT iv' := rT_f (fun k j z => ag h (u9_T z) (by unfold c9T at z; unfold ry_it; omega)) w
theorem f_T_ry_iu {iv iv' : Iv} (h : SI (spU ry_iu) iv iv') (w : RT iv) : RT iv' := rT_f (fun k j z => ag h (u9_T z) (by unfold c9T at z; unfold ry_iu; omega)) w
theorem f_T_ry_r {iv iv' : Iv} (h : SI (spU ry_r) iv iv') (w : RT iv) : RT iv' := rT_f (fun k j z => ag h (u9_T z) (by unfold c9T at z; unfold ry_r; omega)) w
theorem f_W_rc_it {iv iv' : Iv} (h : SI (spU rc_it) iv iv') (w : RW iv) : RW iv' := rW_f (fun k j z => ag h (u9_W z) (by unfold c9W at z; unfold rc_it; omega)) w
theorem f_W_rc_iu {iv iv' : Iv} (h : SI (spU rc_iu) iv iv') (w : RW iv) : RW iv' := rW_f (fun k j z => ag h (u9_W z) (by unfold c9W at z; unfold rc_iu; omega)) w
theorem f_W_rc_r {iv iv' : Iv} (h : SI (spU rc_r) iv iv') (w : RW iv) : RW iv' := rW_f (fun k j z => ag h (u9_W z) (by unfold c9W at z; unfold rc_r; omega)) w
theorem f_W_ry_it {iv iv' : Iv} (h : SI (spU ry_it) iv iv') (w : RW iv) : RW iv' := rW_f (fun k j z => ag h (u9_W z) (by unfold c9W at z; unfold ry_it; omega)) w
theorem f_W_ry_iu {iv iv' : Iv} (h : SI (spU ry_iu) iv iv') (w : RW iv) : RW iv' := rW_f (fun k j z => ag h (u9_W z) (by unfold c9W at z; unfold ry_iu; omega)) w
theorem f_W_ry_r {iv iv' : Iv} (h : SI (spU ry_r) iv iv') (w : RW iv) : RW iv' := rW_f (fun k j z => ag h (u9_W z) (by unfold c9W at z; unfold ry_r; omega)) w
theorem f_d_rc_it {iv iv' : Iv} (h : SI (spU rc_it) iv iv') (w : Rd iv) : Rd iv' := rd_f (fun k j z => ag h (u9_d z) (by unfold c9d at z; unfold rc_it; omega)) w
theorem f_d_ry_it {iv iv' : Iv} (h : SI (spU ry_it) iv iv') (w : Rd iv) : Rd iv' := rd_f (fun k j z => ag h (u9_d z) (by unfold c9d at z; unfold ry_it; omega)) w
theorem f_m_rc_it {iv iv' : Iv} (h : SI (spU rc_it) iv iv') (w : Rm iv) : Rm iv' := rm_f (fun k j z => ag h (u9_m z) (by unfold c9m at z; unfold rc_it; omega)) w
theorem f_m_rc_r {iv iv' : Iv} (h : SI (spU rc_r) iv iv') (w : Rm iv) : Rm iv' := rm_f (fun k j z => ag h (u9_m z) (by unfold c9m at z; unfold rc_r; omega)) w
theorem f_m_ry_it {iv iv' : Iv} (h : SI (spU ry_it) iv iv') (w : Rm iv) : Rm iv' := rm_f (fun k j z => ag h (u9_m z) (by unfold c9m at z; unfold ry_it; omega)) w
theorem f_m_ry_r {iv iv' : Iv} (h : SI (spU ry_r) iv iv') (w : Rm iv) : Rm iv' := rm_f (fun k j z => ag h (u9_m z) (by unfold c9m at z; unfold ry_r; omega)) w
theorem f_p_rc_it {iv iv' : Iv} (h : SI (spU rc_it) iv iv') (w : Rp iv) : Rp iv' := rp_f (fun k j z => ag h (u9_p z) (by unfold c9p at z; unfold rc_it; omega)) w
theorem f_p_ry_it {iv iv' : Iv} (h : SI (spU ry_it) iv iv') (w : Rp iv) : Rp iv' := rp_f (fun k j z => ag h (u9_p z) (by unfold c9p at z; unfold ry_it; omega)) w
theorem f_q_rc_iu {iv iv' : Iv} (h : SI (spU rc_iu) iv iv') (w : Rq iv) : Rq iv' := rq_f (fun k j z => ag h (u9_q z) (by unfold c9q at z; unfold rc_iu; omega)) w
theorem f_q_rc_r {iv iv' : Iv} (h : SI (spU rc_r) iv iv') (w : Rq iv) : Rq iv' := rq_f (fun k j z => ag h (u9_q z) (by unfold c9q at z; unfold rc_r; omega)) w
theorem f_q_ry_iu {iv iv' : Iv} (h : SI (spU ry_iu) iv iv') (w : Rq iv) : Rq iv' := rq_f (fun k j z => ag h (u9_q z) (by unfold c9q at z; unfold ry_iu; omega)) w
theorem f_q_ry_r {iv iv' : Iv} (h : SI (spU ry_r) iv iv') (w : Rq iv) : Rq iv' := rq_f (fun k j z => ag h (u9_q z) (by unfold c9q at z; unfold ry_r; omega)) w
theorem f_t_rc_it {iv iv' : Iv} (h : SI (spU rc_it) iv iv') (w : Rt iv) : Rt iv' := rt_f (fun k j z => ag h (u9_t z) (by unfold c9t at z; unfold rc_it; omega)) w
theorem f_t_ry_it {iv iv' : Iv} (h : SI (spU ry_it) iv iv') (w : Rt iv) : Rt iv' := rt_f (fun k j z => ag h (u9_t z) (by unfold c9t at z; unfold ry_it; omega)) w
/-! RUN -/
/-- rows of the plan, on both sides -/
def PRs (iv : Iv) (cnt : Nat) (kk : Nat → Nat) (vv ww : Nat → Nat → Int32) : Prop := ∀ a, a < cnt → kk a < 10 ∧ vv a 0 = nI (kk a) ∧ iv 563 (6 * a) = nI (kk a) ∧ (∀ c, c < 6 → iv (49 + c) a = vv a c) ∧ (∀ c, 1 ≤ c → c < 6 → iv 563 (6 * a + c) = ww a c) ∧ ∀ c, 1 ≤ c → c ≤ mn (kk a) → vv a c = ww a c
theorem prs_of {iv : Iv} {cnt : Nat} (h : ∀ a, a < cnt → PRw iv 47 563 0 a) : PRs iv cnt (fun a => (iv 49 a).toNatClampNeg) (fun a c => iv (49 + c) a) (fun a c => iv 563 (6 * a + c)) := fun a ha => by
  obtain ⟨k, hk, r1, r2, r3⟩ := h a ha
  have e : (iv 49 a).toNatClampNeg = k := by rw [show iv 49 a = nI k from r1]; exact nI_clamp (by omega)
  refine ⟨by show (iv 49 a).toNatClampNeg < 10; omega, ?_, ?_, fun c hc => rfl, fun c _ _ => rfl, fun c h1 h2 => ?_⟩
  · show iv 49 a = nI (iv 49 a).toNatClampNeg
    rw [e]; exact r1
  · show iv 563 (6 * a) = nI (iv 49 a).toNatClampNeg
    rw [e, show 6 * a = 0 + 6 * a by omega]; exact r2
  · have h3 := r3 c h1 (by rw [← e]; exact h2)
    rw [show 0 + 6 * a + c = 6 * a + c by omega] at h3
    exact h3
def MRn (a1 : Int32) (iv : Iv) : Prop := (∃ (cnt b : Nat) (kk : Nat → Nat) (vv ww : Nat → Nat → Int32) (b1 : Nat), cnt ≤ 24 ∧ b ≤ 24 ∧ b1 ≤ 24 ∧ iv 552 10 = nI b ∧ iv 1 10 = nI b1 ∧ iv 47 2 = nI cnt ∧ iv 551 27 = nI cnt ∧ PRs iv cnt kk vv ww ∧ RnS (iv 2 0) cnt kk vv (fN a1) b (iv 552 7) (iv 552 6) b1 (iv 8 2) (iv 1 11)) ∧ Rm iv ∧ Rq iv ∧ RT iv ∧ RF iv ∧ RI iv ∧ RW iv
theorem v_X8_run (g : GE) {iv : Iv} {lv : Lv} {a1 : Int32}  (hG : SI s0 z0 iv) (hR : RV iv) : ConI g yX8_run cX8_run 6 (some .int) 7 [rf g 0, .int a1] iv lv (fun r iv lv => SI s0 z0 iv ∧ MRn a1 iv) := by
  obtain ⟨cnt, b, hc, hb, e1, e2, e3, e4, hrw⟩ := hR.2.2.2.1
  have hp := prs_of hrw
  generalize (fun a => (iv 49 a).toNatClampNeg) = kk at hp
  generalize (fun a c => iv (49 + c) a) = vv at hp
  generalize (fun a c => iv 563 (6 * a + c)) = ww at hp
  have hPT : PlT (spU rc_r) iv (iv 2 0) cnt kk vv := ⟨hc, spt (u9_m (Or.inr ⟨rfl, rfl⟩)) (by unfold rc_r; omega), rfl, spt (u9_p (Or.inr (Or.inl ⟨rfl, rfl⟩))) (by unfold rc_r; omega), e1, fun c j hc9 => spt (u9_p (by unfold c9p; omega)) (by unfold rc_r; omega), fun a ha => ⟨(hp a ha).1, (hp a ha).2.1, (hp a ha).2.2.2.1⟩⟩
  refine con_mono (e_X8_run g (si_u (rm := rc_r) hG) spU_k (spf (fun z => z.2 (by unfold rc_r; omega))) (spf (fun z => z.2 (by unfold rc_r; omega))) (spf (fun z => z.2 (by unfold rc_r; omega))) hPT hb e3 hR.2.1.symm hR.2.2.1.symm) (fun r iv' lv' h => ?_)
  obtain ⟨hS, b1, n1, d1, hb1, f1, f2, f3, hr⟩ := h
  have a52 : ∀ j, c9m 552 j ∨ c9t 552 j ∨ c9d 552 j ∨ c9p 552 j → iv' 552 j = iv 552 j := fun j z => ag hS (by rcases z with z | z | z | z; exact u9_m z; exact u9_t z; exact u9_d z; exact u9_p z) (by unfold rc_r; omega)
  refine ⟨si_0 hS, ⟨cnt, b, kk, vv, ww, b1, hc, hb, hb1, (a52 10 (Or.inr (Or.inr (Or.inr (by unfold c9p; omega))))).trans e4, f1, (ag hS (k := 47) (j := 2) (u9_p (by unfold c9p; omega)) (by unfold rc_r; omega)).trans e1, (ag hS (k := 551) (j := 27) (u9_p (by unfold c9p; omega)) (by unfold rc_r; omega)).trans e2, fun a ha => ?_, ?_⟩, (f_m_rc_r hS hR.1), (f_q_rc_r hS hR.2.2.2.2.1), (f_T_rc_r hS hR.2.2.2.2.2.1), (f_F_rc_r hS hR.2.2.2.2.2.2.1), (f_I_rc_r hS hR.2.2.2.2.2.2.2.1), (f_W_rc_r hS hR.2.2.2.2.2.2.2.2)⟩
  · obtain ⟨z1, z2, z3, z4, z5, z6⟩ := hp a ha
    exact ⟨z1, z2, (ag hS (u9_p (by unfold c9p; omega)) (by unfold rc_r; omega)).trans z3, fun c hc9 => (ag hS (u9_p (by unfold c9p; omega)) (by unfold rc_r; omega)).trans (z4 c hc9), fun c h1 h2 => (ag hS (u9_p (by unfold c9p; omega)) (by unfold rc_r; omega)).trans (z5 c h1 h2), z6⟩
  · rw [show iv' 2 0 = iv 2 0 from (ag hS (k := 2) (j := 0) (u9_m (by unfold c9m; omega)) (by unfold rc_r; omega)), a52 7 (Or.inr (Or.inl (by unfold c9t; omega))), a52 6 (Or.inr (Or.inr (Or.inl (by unfold c9d; omega)))), f2, f3]
    exact hr
theorem v_X9_run (g : GE) {iv : Iv} {lv : Lv} {a1 : Int32}  (hG : SI s0 z0 iv) (hM : MRn a1 iv) : ConI g yX9_run cX9_run 4 (some .int) 13 [rf g 551, .int a1] iv lv (fun r iv lv => SI s0 z0 iv ∧ RV iv) := by
  obtain ⟨⟨cnt, b, kk, vv, ww, b1, hc, hb, hb1, e1, e2, e3, e4, hp, hr⟩, wm, wq, wT, wF, wI, wW⟩ := hM
  have hPY : PlY (spU ry_r) iv (iv 2 0) cnt kk ww := ⟨hc, (si_c hG (k := 2) (j := 0) rfl), spt (u9_m (Or.inl ⟨rfl, rfl⟩)) (by unfold ry_r; omega), wm, spt (u9_p (Or.inl ⟨rfl, rfl⟩)) (by unfold ry_r; omega), e4, fun j hj => spt (u9_p (by unfold c9p; omega)) (by unfold ry_r; omega), fun a ha => ⟨(hp a ha).1, (hp a ha).2.2.1, (hp a ha).2.2.2.2.1⟩⟩
  refine con_mono (e_X9_run g (si_u (rm := ry_r) hG) spU_k (spf (fun z => z.2 (by unfold ry_r; omega))) (spf (fun z => z.2 (by unfold ry_r; omega))) (spf (fun z => z.2 (by unfold ry_r; omega))) hPY hb e1 rfl rfl) (fun r iv' lv' h => ?_)
  obtain ⟨hS, b2, n2, d2, hb2, f1, f2, f3, hr2⟩ := h
  obtain ⟨q1, q2, q3⟩ := rns_eq (fun a ha => (hp a ha).1) (fun a ha c h1 h2 => (hp a ha).2.2.2.2.2 c h1 h2) _ _ _ _ _ _ _ _ _ _ hr hr2
  subst q1
  refine ⟨si_0 hS, (f_m_ry_r hS wm), ?_, ?_, ⟨cnt, b1, hc, hb1, (ag hS (k := 47) (j := 2) (u9_p (by unfold c9p; omega)) (by unfold ry_r; omega)).trans e3, (ag hS (k := 551) (j := 27) (u9_p (by unfold c9p; omega)) (by unfold ry_r; omega)).trans e4, (ag hS (k := 1) (j := 10) (u9_p (by unfold c9p; omega)) (by unfold ry_r; omega)).trans e2, f1, fun a ha => ?_⟩, (f_q_ry_r hS wq), (f_T_ry_r hS wT), (f_F_ry_r hS wF), (f_I_ry_r hS wI), (f_W_ry_r hS wW)⟩
  · show iv' 552 7 = iv' 8 2
    rw [f2, ← q2]; exact (show iv' 8 2 = iv 8 2 from (ag hS (k := 8) (j := 2) (u9_t (by unfold c9t; omega)) (by unfold ry_r; omega))).symm
  · show iv' 552 6 = iv' 1 11
    rw [f3, ← q3]; exact (show iv' 1 11 = iv 1 11 from (ag hS (k := 1) (j := 11) (u9_d (by unfold c9d; omega)) (by unfold ry_r; omega))).symm
  · obtain ⟨z1, z2, z3, z4, z5, z6⟩ := hp a ha
    have hm5 := mn_5 _ z1
    have hc0 : ∀ c, c < 6 → iv' (49 + c) a = vv a c := fun c hc9 => (ag hS (u9_p (by unfold c9p; omega)) (by unfold ry_r; omega)).trans (z4 c hc9)
    refine ⟨kk a, z1, (hc0 0 (by decide)).trans z2, ?_, fun c h1 h2 => ?_⟩
    · rw [show 0 + 6 * a = 6 * a by omega]
      exact (ag hS (u9_p (by unfold c9p; omega)) (by unfold ry_r; omega)).trans z3
    · rw [show 0 + 6 * a + c = 6 * a + c by omega]
      exact (hc0 c (by omega)).trans ((z6 c h1 h2).trans (((ag hS (u9_p (by unfold c9p; omega)) (by unfold ry_r; omega)).trans (z5 c h1 (by omega))).symm))
/-! IMAGE -/
theorem kH_c {r j : Nat} (h : kH r j = true) : (r = 0 ∧ (j = 10 ∨ j = 11)) ∨ (r = 1 ∧ j = 0) ∨ (r = 7 ∧ j = 2) ∨ (r = 46 ∧ j = 2) ∨ (48 ≤ r ∧ r < 54) := by
  unfold kH at h
  by_cases h0 : r = 0
  · rw [if_pos h0] at h
    simp only [Bool.or_eq_true, beq_iff_eq] at h
    omega
  rw [if_neg h0] at h
  by_cases h1 : r = 1
  · rw [if_pos h1] at h
    have := eq_of_beq h
    omega
  rw [if_neg h1] at h
  by_cases h7 : r = 7
  · rw [if_pos h7] at h
    have := eq_of_beq h
    omega
  rw [if_neg h7] at h
  by_cases h46 : r = 46
  · rw [if_pos h46] at h
    have := eq_of_beq h
    omega
  rw [if_neg h46] at h
  by_cases h48 : r < 48
  · rw [if_pos h48] at h; cases h
  rw [if_neg h48] at h
  have := of_decide_eq_true h
  omega
theorem kH_u {rm : Nat → Nat → Prop} (hrm : ∀ k j, rm k j → 181 ≤ k) {r j : Nat} (h : kH r j = true) : spU rm (1 + r) j = true := by
  have hw : ∀ {k : Nat}, k < 181 → ¬ rm k j := fun hk z => by have := hrm _ _ z; omega
  rcases kH_c h with ⟨rfl, h1⟩ | ⟨rfl, h1⟩ | ⟨rfl, h1⟩ | ⟨rfl, h1⟩ | ⟨h1, h2⟩
  · rcases h1 with h1 | h1
    · exact spt (u9_p (by unfold c9p; omega)) (hw (by omega))
    · exact spt (u9_d (by unfold c9d; omega)) (hw (by omega))
  · exact spt (u9_m (by unfold c9m; omega)) (hw (by omega))
  · exact spt (u9_t (by unfold c9t; omega)) (hw (by omega))
  · exact spt (u9_p (by unfold c9p; omega)) (hw (by omega))
  · exact spt (u9_p (by unfold c9p; omega)) (hw (by omega))
theorem kH_u2 {rm : Nat → Nat → Prop} (hrm : ∀ k j, rm k j → k < 181) {r j : Nat} (h : kH r j = true) : spU rm (181 + r) j = true := by
  have hw : ∀ {k : Nat}, 181 ≤ k → ¬ rm k j := fun hk z => by have := hrm _ _ z; omega
  rcases kH_c h with ⟨rfl, h1⟩ | ⟨rfl, h1⟩ | ⟨rfl, h1⟩ | ⟨rfl, h1⟩ | ⟨h1, h2⟩
  all_goals exact spt (u9_q (by unfold c9q; omega)) (hw (by omega))
/-- a plan's relation, moved to other cells -/
theorem rpl_mv {iv iv' : Iv} {p pa b o cb cj sb p' pa' b' o' cb' cj' sb' : Nat} (w : RPl p pa b o cb cj sb iv) (h1 : iv' p' 2 = iv p 2) (h2 : iv' cb' cj' = iv cb cj) (h3 : iv' pa' 10 = iv pa 10) (h4 : iv' sb' 10 = iv sb 10) (h5 : ∀ c, c < 6 → ∀ j : Nat, (j : Int) < (iv p 2).toInt → iv' (p' + 2 + c) j = iv (p + 2 + c) j) (h6 : ∀ j, j < 144 → iv' b' (o' + j) = iv b (o + j)) : RPl p' pa' b' o' cb' cj' sb' iv' := by
  obtain ⟨cnt, at9, hc, ha, e1, e2, e3, e4, hr⟩ := w
  refine ⟨cnt, at9, hc, ha, h1.trans e1, h2.trans e2, h3.trans e3, h4.trans e4, fun a hlt => ?_⟩
  obtain ⟨k, hk, r1, r2, r3⟩ := hr a hlt
  have hm5 := mn_5 k hk
  have ha2 : (a : Int) < (iv p 2).toInt := by rw [e1, nI_toInt (by omega)]; omega
  refine ⟨k, hk, (h5 0 (by decide) a ha2).trans r1, (h6 (6 * a) (by omega)).trans r2, fun c hc1 hc2 => ?_⟩
  rw [h5 c (by omega) a ha2, show o' + 6 * a + c = o' + (6 * a + c) by omega, h6 (6 * a + c) (by omega), ← show o + 6 * a + c = o + (6 * a + c) by omega]
  exact r3 c hc1 hc2
def MIm (a1 r : Int32) (iv : Iv) : Prop := (¬ a1 = 0 → r = nI 1 ∧ iv 0 4 = nI 1 ∧ CpF 181 1 iv iv ∧ Rm iv ∧ Rt iv ∧ Rd iv ∧ Rp iv ∧ RT iv ∧ RF iv ∧ RW iv) ∧ (a1 = 0 → ¬ iv 551 29 = 0 → r = nI 1 ∧ CpF 1 181 iv iv ∧ iv 0 4 = nI 1 ∧ Rq iv ∧ RT iv ∧ RF iv ∧ RW iv) ∧ (a1 = 0 → iv 551 29 = 0 → r = nI 0 ∧ RV iv)
theorem kH_it {r j : Nat} (e : kH r j = true) : spU rc_it (1 + r) j = true := by
  rcases kH_c e with ⟨rfl, h1⟩ | ⟨rfl, h1⟩ | ⟨rfl, h1⟩ | ⟨rfl, h1⟩ | ⟨h1, h2⟩
  · rcases h1 with h1 | h1
    · exact spt (u9_p (by unfold c9p; omega)) (by unfold rc_it; omega)
    · exact spt (u9_d (by unfold c9d; omega)) (by unfold rc_it; omega)
  · exact spt (u9_m (by unfold c9m; omega)) (by unfold rc_it; omega)
  · exact spt (u9_t (by unfold c9t; omega)) (by unfold rc_it; omega)
  · exact spt (u9_p (by unfold c9p; omega)) (by unfold rc_it; omega)
  · exact spt (u9_p (by unfold c9p; omega)) (by unfold rc_it; omega)
set_option maxHeartbeats 1000000 in
set_option maxRecDepth 20000 in
theorem v_X8_image (g : GE) {iv : Iv} {lv : Lv} {a1 : Int32}  (hG : SI s0 z0 iv) (hR : RV iv) : ConI g yX8_image cX8_image 2 (some .boolean) 3 [rf g 0, .int a1] iv lv (fun r iv lv => SI s0 z0 iv ∧ MIm a1 r iv) := by
  by_cases ha : a1 = 0
  · subst ha
    rcases hR.2.2.2.2.2.2.2.1.2 with hf | hf
    · exact con_mono (e_X8_image_n g hf) (fun r iv' lv' h => by
        obtain ⟨h1, h2, h3⟩ := h
        subst h2
        exact ⟨hG, fun z => absurd rfl z, fun _ z => absurd (hR.2.2.2.2.2.2.2.1.1.trans hf) z, fun _ _ => ⟨h1, hR⟩⟩)
    · refine con_mono (e_X8_image_u g (si_u (rm := rc_iu) hG) (fun r j hr => spf (fun z => z.2 (by unfold rc_iu; omega))) (fun r j e => kH_u2 (fun k j z => z.2) e) hf (by decide)) (fun r iv' lv' h => ?_)
      obtain ⟨hS, hr, h1, h2, h3, h4, h5, h6⟩ := h
      have k1 : iv' 182 0 = iv 182 0 := ag hS (u9_q (by unfold c9q; omega)) (by unfold rc_iu; omega)
      have k2 : iv' 188 2 = iv 188 2 := ag hS (u9_q (by unfold c9q; omega)) (by unfold rc_iu; omega)
      have k3 : iv' 227 2 = iv 227 2 := ag hS (u9_q (by unfold c9q; omega)) (by unfold rc_iu; omega)
      have k4 : ∀ c j, c < 6 → iv' (229 + c) j = iv (229 + c) j := fun c j hc => ag hS (u9_q (by unfold c9q; omega)) (by unfold rc_iu; omega)
      have k5 : iv' 181 10 = iv 181 10 := ag hS (u9_q (by unfold c9q; omega)) (by unfold rc_iu; omega)
      have k6 : iv' 181 11 = iv 181 11 := ag hS (u9_q (by unfold c9q; omega)) (by unfold rc_iu; omega)
      refine ⟨si_0 hS, fun z => absurd rfl z, fun _ _ => ⟨hr, ⟨h1.trans k1.symm, h2.trans k2.symm, h3.trans k3.symm, fun c hc j hj => (h4 c hc j ?_).trans (k4 c j hc).symm, h5.trans k5.symm, h6.trans k6.symm⟩, (ag hS (k := 0) (j := 4) (u9_I (by unfold c9I; omega)) (by unfold rc_iu; omega)).trans hf, (f_q_rc_iu hS hR.2.2.2.2.1), (f_T_rc_iu hS hR.2.2.2.2.2.1), (f_F_rc_iu hS hR.2.2.2.2.2.2.1), (f_W_rc_iu hS hR.2.2.2.2.2.2.2.2)⟩, fun _ z => absurd ((show iv' 551 29 = iv 551 29 from (ag hS (k := 551) (j := 29) (u9_I (by unfold c9I; omega)) (by unfold rc_iu; omega))).symm.trans z) (by rw [hR.2.2.2.2.2.2.2.1.1, hf]; decide)⟩
      have hj : (j : Int) < (iv' 227 2).toInt := hj
      rw [k3] at hj; exact hj
  · refine con_mono (e_X8_image_t g (si_u (rm := rc_it) hG) (fun r j hr => spf (fun z => z.2 (by unfold rc_it; omega))) (fun r j e => kH_it e) (spf (fun z => z.2 (by unfold rc_it; omega))) ha) (fun r iv' lv' h => ?_)
    obtain ⟨hS, hr, hf, h1, h2, h3, h4, h5, h6⟩ := h
    have k1 : iv' 2 0 = iv 2 0 := (ag hS (k := 2) (j := 0) (u9_m (by unfold c9m; omega)) (by unfold rc_it; omega))
    have k2 : iv' 8 2 = iv 8 2 := (ag hS (k := 8) (j := 2) (u9_t (by unfold c9t; omega)) (by unfold rc_it; omega))
    have k3 : iv' 47 2 = iv 47 2 := (ag hS (k := 47) (j := 2) (u9_p (by unfold c9p; omega)) (by unfold rc_it; omega))
    have k4 : ∀ c j, c < 6 → iv' (49 + c) j = iv (49 + c) j := fun c j hc => ag hS (u9_p (by unfold c9p; omega)) (by unfold rc_it; omega)
    have k5 : iv' 1 10 = iv 1 10 := (ag hS (k := 1) (j := 10) (u9_p (by unfold c9p; omega)) (by unfold rc_it; omega))
    have k6 : iv' 1 11 = iv 1 11 := (ag hS (k := 1) (j := 11) (u9_d (by unfold c9d; omega)) (by unfold rc_it; omega))
    refine ⟨si_0 hS, fun _ => ⟨hr, hf, ⟨h1.trans k1.symm, h2.trans k2.symm, h3.trans k3.symm, fun c hc j hj => (h4 c hc j ?_).trans (k4 c j hc).symm, h5.trans k5.symm, h6.trans k6.symm⟩, (f_m_rc_it hS hR.1), (f_t_rc_it hS hR.2.1), (f_d_rc_it hS hR.2.2.1), (f_p_rc_it hS hR.2.2.2.1), (f_T_rc_it hS hR.2.2.2.2.2.1), (f_F_rc_it hS hR.2.2.2.2.2.2.1), (f_W_rc_it hS hR.2.2.2.2.2.2.2.2)⟩, fun z => absurd z ha, fun z => absurd z ha⟩
    have hj : (j : Int) < (iv' 47 2).toInt := hj
    rw [k3] at hj; exact hj
set_option maxHeartbeats 1000000 in
set_option maxRecDepth 20000 in
theorem v_X9_image (g : GE) {iv : Iv} {lv : Lv} {a1 : Int32} {r0 : Int32} (hG : SI s0 z0 iv) (hM : MIm a1 r0 iv) : ConI g yX9_image cX9_image 3 (some .boolean) 1 [rf g 551, .int a1] iv lv (fun r iv lv => SI s0 z0 iv ∧ RV iv ∧ r = r0) := by
  obtain ⟨ht, hu, hn⟩ := hM
  by_cases ha : a1 = 0
  · by_cases hf : iv 551 29 = 0
    · obtain ⟨e1, hR⟩ := hn ha hf
      subst ha
      exact con_mono (e_X9_image_n g (si_u (rm := rmN) hG) hf) (fun r iv' lv' h => ⟨si_0 h.1, rv_fr h.1 hR, h.2.trans e1.symm⟩)
    · obtain ⟨e1, ⟨h1, h2, h3, h4, h5, h6⟩, h7, wq, wT, wF, wW⟩ := hu ha hf
      refine con_mono (e_X9_image g (si_u (rm := ry_iu) hG) (fun _ j => (spf (fun z => z.2 (by unfold ry_iu; omega)))) (fun z => absurd ha z) (fun _ j => (spf (fun z => z.2 (by unfold ry_iu; omega)))) (fun _ => (spf (fun z => z.2 (by unfold ry_iu; omega)))) (spf (fun z => z.2 (by unfold ry_iu; omega))) rfl (fun z => hf z.2)) (fun r iv' lv' h => ?_)
      obtain ⟨hS, hr, h29, i1, i2, i3⟩ := h
      have a64 : ∀ j, c9q 564 j → iv' 564 j = iv 564 j := fun j z => ag hS (u9_q z) (by unfold ry_iu; omega)
      have b1 : iv' 2 0 = iv 2 0 := (ag hS (k := 2) (j := 0) (u9_m (by unfold c9m; omega)) (by unfold ry_iu; omega))
      have b2 : iv' 8 2 = iv 8 2 := (ag hS (k := 8) (j := 2) (u9_t (by unfold c9t; omega)) (by unfold ry_iu; omega))
      have b3 : iv' 47 2 = iv 47 2 := (ag hS (k := 47) (j := 2) (u9_p (by unfold c9p; omega)) (by unfold ry_iu; omega))
      have b4 : ∀ c j, c < 6 → iv' (49 + c) j = iv (49 + c) j := fun c j hc => ag hS (u9_p (by unfold c9p; omega)) (by unfold ry_iu; omega)
      have b5 : iv' 1 10 = iv 1 10 := (ag hS (k := 1) (j := 10) (u9_p (by unfold c9p; omega)) (by unfold ry_iu; omega))
      have b6 : iv' 1 11 = iv 1 11 := (ag hS (k := 1) (j := 11) (u9_d (by unfold c9d; omega)) (by unfold ry_iu; omega))
      have h4 : ∀ c : Nat, c < 6 → ∀ j : Nat, (j : Int) < (iv 227 2).toInt → iv (49 + c) j = iv (229 + c) j := h4
      refine ⟨si_0 hS, ⟨?_, ?_, ?_, rpl_mv wq.2.2.2 (b3.trans h3) (i3.symm.trans (a64 19926 (by unfold c9q; omega))) (b5.trans h5) ((i1 10 (by decide)).symm.trans (a64 10 (by unfold c9q; omega))) (fun c hc j hj => (b4 c j hc).trans (h4 c hc j hj)) (fun j hj => ?_), (f_q_ry_iu hS wq), (f_T_ry_iu hS wT), (f_F_ry_iu hS wF), ⟨h29.trans ((show iv' 0 4 = iv 0 4 from (ag hS (k := 0) (j := 4) (u9_I (by unfold c9I; omega)) (by unfold ry_iu; omega))).trans h7).symm, Or.inr ((show iv' 0 4 = iv 0 4 from (ag hS (k := 0) (j := 4) (u9_I (by unfold c9I; omega)) (by unfold ry_iu; omega))).trans h7)⟩, (f_W_ry_iu hS wW)⟩, hr.trans e1.symm⟩
      · show (iv' 552 0).toInt + 6 = (iv' 2 0).toInt
        rw [← i1 0 (by decide), a64 0 (by unfold c9q; omega), b1, show iv 2 0 = iv 182 0 from h1]; exact wq.1
      · show iv' 552 7 = iv' 8 2
        rw [← i1 7 (by decide), a64 7 (by unfold c9q; omega), b2, show iv 8 2 = iv 188 2 from h2]; exact wq.2.1
      · show iv' 552 6 = iv' 1 11
        rw [← i1 6 (by decide), a64 6 (by unfold c9q; omega), b6, show iv 1 11 = iv 181 11 from h6]; exact wq.2.2.1
      · rw [Nat.zero_add]
        exact (i2 j (by omega)).symm.trans (a64 _ (by unfold c9q; omega))
  · obtain ⟨e1, hf, ⟨h1, h2, h3, h4, h5, h6⟩, wm, wt, wd, wp, wT, wF, wW⟩ := ht ha
    refine con_mono (e_X9_image g (si_u (rm := ry_it) hG) (fun z => absurd z ha) (fun _ j => (spf (fun z => z.2 (by unfold ry_it; omega)))) (fun z => absurd z ha) (fun z => absurd z ha) (spf (fun z => z.2 (by unfold ry_it; omega))) rfl (fun z => ha z.1)) (fun r iv' lv' h => ?_)
    obtain ⟨hS, hr, h29, i1, i2, i3⟩ := h
    have b1 : iv' 182 0 = iv 182 0 := ag hS (u9_q (by unfold c9q; omega)) (by unfold ry_it; omega)
    have b2 : iv' 188 2 = iv 188 2 := ag hS (u9_q (by unfold c9q; omega)) (by unfold ry_it; omega)
    have b3 : iv' 227 2 = iv 227 2 := ag hS (u9_q (by unfold c9q; omega)) (by unfold ry_it; omega)
    have b4 : ∀ c j, c < 6 → iv' (229 + c) j = iv (229 + c) j := fun c j hc => ag hS (u9_q (by unfold c9q; omega)) (by unfold ry_it; omega)
    have b5 : iv' 181 10 = iv 181 10 := ag hS (u9_q (by unfold c9q; omega)) (by unfold ry_it; omega)
    have b6 : iv' 181 11 = iv 181 11 := ag hS (u9_q (by unfold c9q; omega)) (by unfold ry_it; omega)
    have c0 : iv' 552 0 = iv 552 0 := (ag hS (k := 552) (j := 0) (u9_m (by unfold c9m; omega)) (by unfold ry_it; omega))
    have c7 : iv' 552 7 = iv 552 7 := (ag hS (k := 552) (j := 7) (u9_t (by unfold c9t; omega)) (by unfold ry_it; omega))
    have c6 : iv' 552 6 = iv 552 6 := (ag hS (k := 552) (j := 6) (u9_d (by unfold c9d; omega)) (by unfold ry_it; omega))
    have c10 : iv' 552 10 = iv 552 10 := (ag hS (k := 552) (j := 10) (u9_p (by unfold c9p; omega)) (by unfold ry_it; omega))
    have h4 : ∀ c : Nat, c < 6 → ∀ j : Nat, (j : Int) < (iv 47 2).toInt → iv (229 + c) j = iv (49 + c) j := h4
    refine ⟨si_0 hS, ⟨(f_m_ry_it hS wm), (f_t_ry_it hS wt), (f_d_ry_it hS wd), (f_p_ry_it hS wp), ⟨?_, ?_, ?_, rpl_mv wp (b3.trans h3) (i3.trans (ag hS (k := 551) (j := 27) (u9_p (by unfold c9p; omega)) (by unfold ry_it; omega))) (b5.trans h5) ((i1 10 (by decide)).trans c10) (fun c hc j hj => (b4 c j hc).trans (h4 c hc j hj)) (fun j hj => ?_)⟩, (f_T_ry_it hS wT), (f_F_ry_it hS wF), ⟨h29.trans ((show iv' 0 4 = iv 0 4 from (ag hS (k := 0) (j := 4) (u9_I (by unfold c9I; omega)) (by unfold ry_it; omega))).trans hf).symm, Or.inr ((show iv' 0 4 = iv 0 4 from (ag hS (k := 0) (j := 4) (u9_I (by unfold c9I; omega)) (by unfold ry_it; omega))).trans hf)⟩, (f_W_ry_it hS wW)⟩, hr.trans e1.symm⟩
    · rw [i1 0 (by decide), c0, b1, show iv 182 0 = iv 2 0 from h1]; exact wm
    · rw [i1 7 (by decide), c7, b2, show iv 188 2 = iv 8 2 from h2]; exact wt
    · rw [i1 6 (by decide), c6, b6, show iv 181 11 = iv 1 11 from h6]; exact wd
    · rw [Nat.zero_add]
      exact (i2 j (by omega)).trans (ag hS (u9_p (by unfold c9p; omega)) (by unfold ry_it; omega))
