/-! ADDING A LOT -/
theorem lc_low {n : Nat → Int32} {c : Nat} (h : LC n c) (h0 : ∀ p : Nat, p < 102 → 0 ≤ (n (420 + 102 * c + p)).toInt) : ∀ p : Nat, p < 102 → (p : Int) < (n (348 + c)).toInt → (p : Int) ≤ (n (420 + 102 * c + p)).toInt := by
  intro p
  induction p with
  | zero => intro hp _; have := h0 0 hp; omega
  | succ p ih =>
    intro hp hm
    have h1 := ih (by omega) (by omega)
    have h2 := h.1 p (p + 1) (by omega) hp hm
    omega
/-- one more lot, of the day itself, behind those of earlier days -/
theorem lc_app {n n' : Nat → Int32} {c : Nat} {m : Int} (h : LC n c) (em : (n (348 + c)).toInt = m) (h0 : 0 ≤ m) (hm : m ≤ 100) (hd : ∀ p : Nat, p < 102 → 0 ≤ (n (420 + 102 * c + p)).toInt) (h6 : (n 6).toInt ≤ 99) (hlast : 0 < m → ¬ (n (420 + 102 * c + (m - 1).toNat)).toInt = (n 6).toInt) (e6 : n' 6 = n 6) (em' : (n' (348 + c)).toInt = m + 1) (ed : ∀ p : Nat, p < 102 → (n' (420 + 102 * c + p)).toInt = if (p : Int) = m then (n 6).toInt else (n (420 + 102 * c + p)).toInt) : m ≤ 99 ∧ LC n' c := by
  have hlt : ∀ p : Nat, p < 102 → (p : Int) < m → (n (420 + 102 * c + p)).toInt < (n 6).toInt := fun p hp hpm => by
    have h1 := h.2 p hp (by rw [em]; exact hpm)
    by_cases e : (p : Int) = m - 1
    · have h2 := hlast (by omega)
      rw [show (m - 1).toNat = p by omega] at h2
      omega
    · have h2 := h.1 p (m - 1).toNat (by omega) (by omega) (by rw [em]; omega)
      have h3 := h.2 (m - 1).toNat (by omega) (by rw [em]; omega)
      omega
  have hm99 : m ≤ 99 := by
    by_cases q : 0 < m
    · have h1 := lc_low h hd (m - 1).toNat (by omega) (by rw [em]; omega)
      have h2 := hlt (m - 1).toNat (by omega) (by omega)
      omega
    · omega
  refine ⟨hm99, fun a b hab hb9 hb => ?_, fun a ha9 ha => ?_⟩
  · rw [em'] at hb
    rw [ed a (by omega), ed b hb9, if_neg (by omega)]
    by_cases e : (b : Int) = m
    · rw [if_pos e]; exact hlt a (by omega) (by omega)
    · rw [if_neg e]; exact h.1 a b hab hb9 (by rw [em]; omega)
  · rw [em'] at ha
    rw [ed a ha9, e6]
    by_cases e : (a : Int) = m
    · rw [if_pos e]; exact Int.le_refl _
    · rw [if_neg e]; exact h.2 a ha9 (by rw [em]; omega)
set_option maxHeartbeats 1000000 in
theorem s_X9_adds (g : GE) {sp : Nat → Nat → Bool} {σ : Iv} {iv : Iv} {lv : Lv} {a1 a2 a3 a4 : Int32} (ha1 : Ra 0 11 a1) (ha2 : Ra 0 5 a2) (ha4 : Ra 0 99 a4) (hG : SI sp σ iv) (hd : iv 552 6 = a4) {c : Nat} (hc : (c : Int) = 6 * a1.toInt + a2.toInt) : ConV g yX9_adds cX9_adds 8 none 7 [rf g 551, .int a1, .int a2, .int a3, .int a4] iv lv (fun iv' lv' => SI sp σ iv' ∧ Fr c iv iv') := by
  refine con_intro (own := "RollingNetsModel") (by decide +kernel) rfl (Nat.le_of_ble_eq_true rfl) (L0 := [some (rf g 551), some (.int a1), some (.int a2), some (.int a3), some (.int a4), none, none, none]) rfl (fun Z zh => ?_)
  have f1 := ha1.1; have f2 := ha1.2; have f3 := ha2.1; have f4 := ha2.2; have f5 := ha4.1; have f6 := ha4.2
  have k77 := rl_7764.1; have k77' := rl_7764.2; have k34 := rl_348.1; have k34' := rl_348.2; have k42 := rl_420.1; have k42' := rl_420.2; have k1 := rl_1.1; have k1' := rl_1.2; have k2 := rl_2.1; have k2' := rl_2.2
  have hc72 : c < 72 := by omega
  have J : ∀ (iw : Iv) (lw : Lv) (x : Int32), SI sp σ iw → Fr c iv iw → Z 84 [some (rf g 551), some (.int a1), some (.int a2), some (.int a3), some (.int a4), some (.int x), none, none] [] iw lw := by
    intro iw lw x hG hF
    have hd : iw 552 6 = a4 := (fr_at hF (by unfold lc; omega)).trans hd
    refine z_iload zh dX9_adds_84 rfl ?_
    refine z_if_ne (tgt := 90) zh dX9_adds_86 rfl (fun w => ?_) (fun w => z_vret zh dX9_adds_89 ⟨rfl, hG, hF⟩)
    refine z_aloadnR zh dX9_adds_90 rfl ?_
    refine z_iloadn zh dX9_adds_91 rfl ?_
    refine z_iloadn zh dX9_adds_92 rfl ?_
    refine z_callVI zh mv_Y_110 dX9_adds_93 ck_Y rfl (t_X9_lotMany g ha1 ha2 hG.2.2.1) ⟨Nat.le_of_ble_eq_true rfl, Nat.le_of_ble_eq_true rfl⟩ rfl rfl (Nat.le_of_ble_eq_true rfl) ?_
    rintro r _ _ ⟨rfl, rfl, hr, z, ez, er⟩
    rw [cl_n (n := 348 + c) (by omega)] at er
    have r1 := hr.1; have r2 := hr.2
    refine z_iconst zh dX9_adds_96 ki_1 ?_
    refine y_isub zh dX9_adds_97 hr rl_1 (u := -1) (v := 99) rfl rfl (by decide) (by decide) (fun y ey hy => ?_)
    refine z_istore zh dX9_adds_98 (by decide) (L' := [some (rf g 551), some (.int a1), some (.int a2), some (.int a3), some (.int a4), some (.int x), some (.int y), none]) rfl ?_
    have J2 : (0 < r.toInt → ¬ (iw 552 (420 + 102 * c + (r.toInt - 1).toNat)).toInt = (iw 552 6).toInt) → Z 147 [some (rf g 551), some (.int a1), some (.int a2), some (.int a3), some (.int a4), some (.int x), some (.int y), none] [] iw lw := by
      intro hlast
      obtain ⟨n, en⟩ : ∃ n : Nat, (n : Int) = r.toInt := ⟨r.toInt.toNat, by omega⟩
      refine z_aloadnR zh dX9_adds_147 rfl ?_
      refine z_getf zh fl_Y_7 dX9_adds_148 ck_Y rfl rfl ?_
      refine z_sipush zh dX9_adds_151 ks_420 ?_
      refine z_aloadnR zh dX9_adds_154 rfl ?_
      refine z_iloadn zh dX9_adds_155 rfl ?_
      refine z_iloadn zh dX9_adds_156 rfl ?_
      refine z_iload zh dX9_adds_157 rfl ?_
      refine z_iconst zh dX9_adds_159 ki_1 ?_
      refine y_iadd zh dX9_adds_160 hy rl_1 (u := 0) (v := 100) rfl rfl (by decide) (by decide) (fun y1 ey1 hy1 => ?_)
      refine z_callVI zh mv_Y_106 dX9_adds_161 ck_Y rfl (t_X9_lotAt g ha1 ha2 (ra_w hy1 (by decide) (by decide)) hG.2.2.1) ⟨Nat.le_of_ble_eq_true rfl, Nat.le_of_ble_eq_true rfl⟩ rfl rfl (Nat.le_of_ble_eq_true rfl) ?_
      rintro s _ _ ⟨rfl, rfl, hs, es⟩
      refine y_iadd zh dX9_adds_164 rl_420 hs (u := 420) (v := 7763) rfl rfl (by decide) (by decide) (fun t et ht => ?_)
      refine z_iload zh dX9_adds_165 rfl ?_
      refine z_iast zh ck_now dX9_adds_167 (ra_in ht (by decide) (by decide)) ?_
      rw [cl_n (x := t) (n := 420 + 102 * c + n) (by omega)]
      have hF2 : Fr c iv (upI iw 552 (420 + 102 * c + n) a4) := fr_w hF (Or.inr (Or.inl ⟨by omega, by omega⟩))
      have hW2 : SW sp σ (upI iw 552 (420 + 102 * c + n) a4) := sw_w (sw_of hG) (by omega) (fun lo hi e => by rw [rN_ld ⟨by omega, by omega⟩] at e; cases e; exact ha4)
      have hM2 : upI iw 552 (420 + 102 * c + n) a4 552 (348 + c) = iw 552 (348 + c) := upI_ne (Or.inr (by omega))
      have h62 : upI iw 552 (420 + 102 * c + n) a4 552 6 = iw 552 6 := upI_ne (Or.inr (by omega))
      have hD2 : ∀ p : Nat, p < 102 → (upI iw 552 (420 + 102 * c + n) a4 552 (420 + 102 * c + p)).toInt = if (p : Int) = r.toInt then (iw 552 6).toInt else (iw 552 (420 + 102 * c + p)).toInt := fun p hp => by
        by_cases e : p = n
        · subst e; rw [upI_at, if_pos ⟨rfl, rfl⟩, if_pos en, hd]
        · rw [upI_ne (Or.inr (by omega)), if_neg (by omega)]
      generalize upI iw 552 (420 + 102 * c + n) a4 = iz at hF2 hW2 hM2 h62 hD2 ⊢
      refine z_aloadnR zh dX9_adds_168 rfl ?_
      refine z_getf zh fl_Y_7 dX9_adds_169 ck_Y rfl rfl ?_
      refine z_sipush zh dX9_adds_172 ks_7764 ?_
      refine z_aloadnR zh dX9_adds_175 rfl ?_
      refine z_iloadn zh dX9_adds_176 rfl ?_
      refine z_iloadn zh dX9_adds_177 rfl ?_
      refine z_iload zh dX9_adds_178 rfl ?_
      refine z_iconst zh dX9_adds_180 ki_1 ?_
      refine y_iadd zh dX9_adds_181 hy rl_1 (u := 0) (v := 100) rfl rfl (by decide) (by decide) (fun y2 ey2 hy2 => ?_)
      refine z_callVI zh mv_Y_106 dX9_adds_182 ck_Y rfl (t_X9_lotAt g ha1 ha2 (ra_w hy2 (by decide) (by decide)) hW2.2.2.1) ⟨Nat.le_of_ble_eq_true rfl, Nat.le_of_ble_eq_true rfl⟩ rfl rfl (Nat.le_of_ble_eq_true rfl) ?_
      rintro s2 _ _ ⟨rfl, rfl, hs2, es2⟩
      refine y_iadd zh dX9_adds_185 rl_7764 hs2 (u := 7764) (v := 15107) rfl rfl (by decide) (by decide) (fun t2 et2 ht2 => ?_)
      refine z_iload zh dX9_adds_186 rfl ?_
      refine z_iast zh ck_now dX9_adds_188 (ra_in ht2 (by decide) (by decide)) ?_
      rw [cl_n (x := t2) (n := 7764 + 102 * c + n) (by omega)]
      have hF3 : Fr c iv (upI iz 552 (7764 + 102 * c + n) x) := fr_w hF2 (Or.inr (Or.inr ⟨by omega, by omega⟩))
      have hW3 : SW sp σ (upI iz 552 (7764 + 102 * c + n) x) := sw_w hW2 (by omega) (rx_none (rN_ls ⟨by omega, by omega⟩))
      have hM3 : upI iz 552 (7764 + 102 * c + n) x 552 (348 + c) = iw 552 (348 + c) := (upI_ne (Or.inr (by omega))).trans hM2
      have h63 : upI iz 552 (7764 + 102 * c + n) x 552 6 = iw 552 6 := (upI_ne (Or.inr (by omega))).trans h62
      have hD3 : ∀ p : Nat, p < 102 → (upI iz 552 (7764 + 102 * c + n) x 552 (420 + 102 * c + p)).toInt = if (p : Int) = r.toInt then (iw 552 6).toInt else (iw 552 (420 + 102 * c + p)).toInt := fun p hp => by
        rw [upI_ne (Or.inr (by omega))]; exact hD2 p hp
      generalize upI iz 552 (7764 + 102 * c + n) x = iu at hF3 hW3 hM3 h63 hD3 ⊢
      refine z_aloadnR zh dX9_adds_189 rfl ?_
      refine z_getf zh fl_Y_7 dX9_adds_190 ck_Y rfl rfl ?_
      refine z_sipush zh dX9_adds_193 ks_348 ?_
      refine z_aloadnR zh dX9_adds_196 rfl ?_
      refine z_iloadn zh dX9_adds_197 rfl ?_
      refine z_iloadn zh dX9_adds_198 rfl ?_
      refine z_callVI zh mv_Y_65 dX9_adds_199 ck_Y rfl (t_X9_cellOf g ha1 ha2 hW3.2.2.1) ⟨Nat.le_of_ble_eq_true rfl, Nat.le_of_ble_eq_true rfl⟩ rfl rfl (Nat.le_of_ble_eq_true rfl) ?_
      rintro s3 _ _ ⟨rfl, rfl, hs3, es3⟩
      refine y_iadd zh dX9_adds_202 rl_348 hs3 (u := 348) (v := 419) rfl rfl (by decide) (by decide) (fun t3 et3 ht3 => ?_)
      refine z_iload zh dX9_adds_203 rfl ?_
      refine z_iconst zh dX9_adds_205 ki_2 ?_
      refine y_iadd zh dX9_adds_206 hy rl_2 (u := 1) (v := 101) rfl rfl (by decide) (by decide) (fun y3 ey3 hy3 => ?_)
      refine z_iast zh ck_now dX9_adds_207 (ra_in ht3 (by decide) (by decide)) ?_
      rw [cl_n (x := t3) (n := 348 + c) (by omega)]
      have hF4 : Fr c iv (upI iu 552 (348 + c) y3) := fr_w hF3 (Or.inl rfl)
      have hM4 : (upI iu 552 (348 + c) y3 552 (348 + c)).toInt = r.toInt + 1 := by rw [upI_at, if_pos ⟨rfl, rfl⟩]; omega
      have h64 : upI iu 552 (348 + c) y3 552 6 = iw 552 6 := (upI_ne (Or.inr (by omega))).trans h63
      have hD4 : ∀ p : Nat, p < 102 → (upI iu 552 (348 + c) y3 552 (420 + 102 * c + p)).toInt = if (p : Int) = r.toInt then (iw 552 6).toInt else (iw 552 (420 + 102 * c + p)).toInt := fun p hp => by
        rw [upI_ne (Or.inr (by omega))]; exact hD3 p hp
      have ha := lc_app (m := r.toInt) (lots_c hG.2.2.2.1 hc72) (by rw [er]) r1 r2 (fun p hp => (nr_j hG (rN_ld (j := 420 + 102 * c + p) ⟨by omega, by omega⟩)).1) (by rw [hd]; exact f6) hlast h64 hM4 hD4
      have hW4 : SW sp σ (upI iu 552 (348 + c) y3) := sw_w hW3 (by omega) (fun lo hi e => by rw [rN_lm ⟨by omega, by omega⟩] at e; cases e; have := ha.1; exact ⟨by omega, by omega⟩)
      have hF5 : Fr c iw (upI iu 552 (348 + c) y3) := fun k j => by
        by_cases q : k = 552 ∧ lc c j
        · exact Or.inl q
        · refine Or.inr ?_
          have q1 := (hF4 k j).resolve_left q
          have q2 := (hF k j).resolve_left q
          exact q1.trans q2.symm
      exact z_vret zh dX9_adds_208 ⟨rfl, si_of hW4 (lots_fr hc72 hG.2.2.2.1 hF5 ha.2), hF4⟩
    refine z_iload zh dX9_adds_100 rfl ?_
    refine z_if_lt (tgt := 147) zh dX9_adds_102 rfl (fun w2 => J2 (fun h => by rw [lt0] at w2; omega)) (fun w2 => ?_)
    rw [lt0] at w2
    have hy0 : Ra 0 99 y := ⟨by omega, by omega⟩
    refine z_aloadnR zh dX9_adds_105 rfl ?_
    refine z_iloadn zh dX9_adds_106 rfl ?_
    refine z_iloadn zh dX9_adds_107 rfl ?_
    refine z_iload zh dX9_adds_108 rfl ?_
    refine z_callVI zh mv_Y_125 dX9_adds_110 ck_Y rfl (t_X9_dayOf g ha1 ha2 (ra_w hy0 (by decide) (by decide)) hG.2.2.1) ⟨Nat.le_of_ble_eq_true rfl, Nat.le_of_ble_eq_true rfl⟩ rfl rfl (Nat.le_of_ble_eq_true rfl) ?_
    rintro dd _ _ ⟨rfl, rfl, hdd, z2, ez2, er2⟩
    rw [cl_n (n := 420 + 102 * c + (r.toInt - 1).toNat) (by omega)] at er2
    refine z_iload zh dX9_adds_113 rfl ?_
    refine z_icmp_ne (tgt := 147) zh dX9_adds_115 rfl (fun w3 => J2 (fun _ e => w3 (Int32.toInt_inj.mp (by rw [← er2, ← hd]; exact e)))) (fun w3 => ?_)
    refine z_aloadnR zh dX9_adds_118 rfl ?_
    refine z_getf zh fl_Y_7 dX9_adds_119 ck_Y rfl rfl ?_
    refine z_sipush zh dX9_adds_122 ks_7764 ?_
    refine z_aloadnR zh dX9_adds_125 rfl ?_
    refine z_iloadn zh dX9_adds_126 rfl ?_
    refine z_iloadn zh dX9_adds_127 rfl ?_
    refine z_iload zh dX9_adds_128 rfl ?_
    refine z_callVI zh mv_Y_106 dX9_adds_130 ck_Y rfl (t_X9_lotAt g ha1 ha2 (ra_w hy0 (by decide) (by decide)) hG.2.2.1) ⟨Nat.le_of_ble_eq_true rfl, Nat.le_of_ble_eq_true rfl⟩ rfl rfl (Nat.le_of_ble_eq_true rfl) ?_
    rintro s _ _ ⟨rfl, rfl, hs, es⟩
    refine y_iadd zh dX9_adds_133 rl_7764 hs (u := 7764) (v := 15107) rfl rfl (by decide) (by decide) (fun t et ht => ?_)
    refine z_aloadnR zh dX9_adds_134 rfl ?_
    refine z_iloadn zh dX9_adds_135 rfl ?_
    refine z_iloadn zh dX9_adds_136 rfl ?_
    refine z_iload zh dX9_adds_137 rfl ?_
    refine z_callVI zh mv_Y_113 dX9_adds_139 ck_Y rfl (t_X9_sharesOf g ha1 ha2 (ra_w hy0 (by decide) (by decide)) hG.2.2.1) ⟨Nat.le_of_ble_eq_true rfl, Nat.le_of_ble_eq_true rfl⟩ rfl rfl (Nat.le_of_ble_eq_true rfl) ?_
    rintro ss _ _ ⟨rfl, rfl, _⟩
    refine z_iload zh dX9_adds_142 rfl ?_
    refine y_iaddT zh dX9_adds_144 (fun s4 => ?_)
    refine z_iast zh ck_now dX9_adds_145 (ra_in ht (by decide) (by decide)) ?_
    rw [cl_n (x := t) (n := 7764 + 102 * c + (r.toInt - 1).toNat) (by omega)]
    exact z_vret zh dX9_adds_146 ⟨rfl, si_wN2 hG (by omega) (by omega) (rx_none (rN_ls ⟨by omega, by omega⟩)), fr_w hF (Or.inr (Or.inr ⟨by omega, by omega⟩))⟩
  have Ja : Z 84 [some (rf g 551), some (.int a1), some (.int a2), some (.int a3), some (.int a4), some (.int a3), none, none] [] iv lv := J iv lv a3 hG fr_refl
  have Jb : Z 29 [some (rf g 551), some (.int a1), some (.int a2), some (.int a3), some (.int a4), some (.int a3), none, none] [] iv lv := by
    refine z_aloadnR zh dX9_adds_29 rfl ?_
    refine z_iloadn zh dX9_adds_30 rfl ?_
    refine z_iloadn zh dX9_adds_31 rfl ?_
    refine z_callVI zh mv_Y_119 dX9_adds_32 ck_Y rfl (s_X9_positionOf g ha1 ha2 hG) ⟨Nat.le_of_ble_eq_true rfl, Nat.le_of_ble_eq_true rfl⟩ rfl rfl (Nat.le_of_ble_eq_true rfl) ?_
    rintro po _ _ ⟨rfl, rfl, _⟩
    refine z_istore zh dX9_adds_35 (by decide) (L' := [some (rf g 551), some (.int a1), some (.int a2), some (.int a3), some (.int a4), some (.int a3), some (.int po), none]) rfl ?_
    refine z_aloadnR zh dX9_adds_37 rfl ?_
    refine z_aloadnR zh dX9_adds_38 rfl ?_
    refine z_iloadn zh dX9_adds_39 rfl ?_
    refine z_iloadn zh dX9_adds_40 rfl ?_
    refine y_inegT zh dX9_adds_41 (fun n1 => ?_)
    refine z_callVI zh mv_Y_76 dX9_adds_42 ck_Y rfl (s_X9_greater g hG) ⟨Nat.le_of_ble_eq_true rfl, Nat.le_of_ble_eq_true rfl⟩ rfl rfl (Nat.le_of_ble_eq_true rfl) ?_
    rintro g1 _ _ ⟨rfl, rfl, _⟩
    refine z_aloadnR zh dX9_adds_45 rfl ?_
    refine z_iload zh dX9_adds_46 rfl ?_
    refine z_iload zh dX9_adds_48 rfl ?_
    refine y_inegT zh dX9_adds_50 (fun n2 => ?_)
    refine z_callVI zh mv_Y_76 dX9_adds_51 ck_Y rfl (s_X9_greater g hG) ⟨Nat.le_of_ble_eq_true rfl, Nat.le_of_ble_eq_true rfl⟩ rfl rfl (Nat.le_of_ble_eq_true rfl) ?_
    rintro g2 _ _ ⟨rfl, rfl, _⟩
    refine z_callVI zh mv_Y_131 dX9_adds_54 ck_Y rfl (s_X9_lesser g hG) ⟨Nat.le_of_ble_eq_true rfl, Nat.le_of_ble_eq_true rfl⟩ rfl rfl (Nat.le_of_ble_eq_true rfl) ?_
    rintro off _ _ ⟨rfl, rfl, _⟩
    refine z_istore zh dX9_adds_57 (by decide) (L' := [some (rf g 551), some (.int a1), some (.int a2), some (.int a3), some (.int a4), some (.int a3), some (.int po), some (.int off)]) rfl ?_
    refine z_aloadnR zh dX9_adds_59 rfl ?_
    refine z_iloadn zh dX9_adds_60 rfl ?_
    refine z_iloadn zh dX9_adds_61 rfl ?_
    refine z_iload zh dX9_adds_62 rfl ?_
    refine z_callVV zh mv_Y_138 dX9_adds_64 ck_Y rfl (s_X9_takesOff g ha1 ha2 hG hc) ⟨Nat.le_of_ble_eq_true rfl, Nat.le_of_ble_eq_true rfl⟩ rfl rfl (Nat.le_of_ble_eq_true rfl) ?_
    rintro iz lz ⟨hG2, hF2⟩
    have Jc : ∀ x, Z 82 [some (rf g 551), some (.int a1), some (.int a2), some (.int a3), some (.int a4), some (.int a3), some (.int po), some (.int off)] [.int x] iz lz := fun x => by
      refine z_istore zh dX9_adds_82 (by decide) (L' := [some (rf g 551), some (.int a1), some (.int a2), some (.int a3), some (.int a4), some (.int x), some (.int po), some (.int off)]) rfl ?_
      refine z_forget zh [true, true, true, true, true, true, false, false] (L2 := [some (rf g 551), some (.int a1), some (.int a2), some (.int a3), some (.int a4), some (.int x), none, none]) rfl ?_
      exact J iz lz x hG2 hF2
    refine z_iloadn zh dX9_adds_67 rfl ?_
    refine z_if_le (tgt := 78) zh dX9_adds_68 rfl (fun w => ?_) (fun w => ?_)
    · refine z_iloadn zh dX9_adds_78 rfl ?_
      refine z_iload zh dX9_adds_79 rfl ?_
      refine y_iaddT zh dX9_adds_81 (fun x => Jc x)
    · refine z_iloadn zh dX9_adds_71 rfl ?_
      refine z_iload zh dX9_adds_72 rfl ?_
      refine y_isubT zh dX9_adds_74 (fun x => ?_)
      exact z_goto (tgt := 82) zh dX9_adds_75 rfl (Jc x)
  have Jd : Z 16 [some (rf g 551), some (.int a1), some (.int a2), some (.int a3), some (.int a4), some (.int a3), none, none] [] iv lv := by
    refine z_iloadn zh dX9_adds_16 rfl ?_
    refine z_if_ge (tgt := 84) zh dX9_adds_17 rfl (fun _ => Ja) (fun _ => ?_)
    refine z_aloadnR zh dX9_adds_20 rfl ?_
    refine z_iloadn zh dX9_adds_21 rfl ?_
    refine z_iloadn zh dX9_adds_22 rfl ?_
    refine z_callVI zh mv_Y_122 dX9_adds_23 ck_Y rfl (s_X9_isLong g ha1 ha2 hG) ⟨Nat.le_of_ble_eq_true rfl, Nat.le_of_ble_eq_true rfl⟩ rfl rfl (Nat.le_of_ble_eq_true rfl) ?_
    rintro q1 _ _ ⟨rfl, rfl, _⟩
    exact z_if_eq (tgt := 84) zh dX9_adds_26 rfl (fun _ => Ja) (fun _ => Jb)
  refine z_iloadn zh dX9_adds_0 rfl ?_
  refine z_istore zh dX9_adds_1 (by decide) (L' := [some (rf g 551), some (.int a1), some (.int a2), some (.int a3), some (.int a4), some (.int a3), none, none]) rfl ?_
  refine z_iloadn zh dX9_adds_3 rfl ?_
  refine z_if_le (tgt := 16) zh dX9_adds_4 rfl (fun _ => Jd) (fun _ => ?_)
  refine z_aloadnR zh dX9_adds_7 rfl ?_
  refine z_iloadn zh dX9_adds_8 rfl ?_
  refine z_iloadn zh dX9_adds_9 rfl ?_
  refine z_callVI zh mv_Y_116 dX9_adds_10 ck_Y rfl (s_X9_isShort g ha1 ha2 hG) ⟨Nat.le_of_ble_eq_true rfl, Nat.le_of_ble_eq_true rfl⟩ rfl rfl (Nat.le_of_ble_eq_true rfl) ?_
  rintro q1 _ _ ⟨rfl, rfl, _⟩
  exact z_if_ne (tgt := 29) zh dX9_adds_13 rfl (fun _ => Jb) (fun _ => Jd)
