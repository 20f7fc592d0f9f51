/-! THE START: what the tables and the statics give, and the two objects -/
theorem TBL_hts {s : State} {a : Array Value} (h : ∀ w ∈ lw_tbl, w.before a s = true) : ∀ w ∈ TBL, w.before a s = true := fun w hw => h w (List.mem_filter.mp hw).1
theorem ls_cls {s : State} {a : Array Value} (hts : ∀ w ∈ TBL, w.before a s = true) : ∃ D : va_G, ∀ (c : Nat) (q : vw_C), CLS[c]? = some q → u_Kn s q.1 q.2.1 q.2.2 (D.1 c) (D.2 c) := by
  have hall : ∀ c : Nat, ∃ (ci : ClassId) (iS : Nat → Nat), ∀ q : vw_C, CLS[c]? = some q → u_Kn s q.1 q.2.1 q.2.2 ci iS := by
    intro c
    match c with
    | 0 =>
      obtain ⟨ci, iS, h⟩ := u_known (C := RX8) (T := TX8) (N := 5) (n := 5) hts ckc_0.2.1 (hts _ (TBL_mem 128 (by decide +kernel) (by decide +kernel)))
      exact ⟨ci, iS, fun q hq => by cases hq; exact h⟩
    | 1 =>
      obtain ⟨ci, iS, h⟩ := u_known (C := RX1) (T := TX1) (N := 17) (n := 17) hts ckc_1.2.1 (hts _ (TBL_mem 136 (by decide +kernel) (by decide +kernel)))
      exact ⟨ci, iS, fun q hq => by cases hq; exact h⟩
    | 2 =>
      obtain ⟨ci, iS, h⟩ := u_known (C := RX7) (T := TX7) (N := 3) (n := 3) hts ckc_2.2.1 (hts _ (TBL_mem 146 (by decide +kernel) (by decide +kernel)))
      exact ⟨ci, iS, fun q hq => by cases hq; exact h⟩
    | 3 =>
      obtain ⟨ci, iS, h⟩ := u_known (C := RX2) (T := TX2) (N := 4) (n := 4) hts ckc_3.2.1 (hts _ (TBL_mem 167 (by decide +kernel) (by decide +kernel)))
      exact ⟨ci, iS, fun q hq => by cases hq; exact h⟩
    | 4 =>
      obtain ⟨ci, iS, h⟩ := u_known (C := RX3) (T := TX3) (N := 11) (n := 11) hts ckc_4.2.1 (hts _ (TBL_mem 197 (by decide +kernel) (by decide +kernel)))
      exact ⟨ci, iS, fun q hq => by cases hq; exact h⟩
    | 5 =>
      obtain ⟨ci, iS, h⟩ := u_known (C := RX6) (T := TX6) (N := 6) (n := 6) hts ckc_5.2.1 (hts _ (TBL_mem 365 (by decide +kernel) (by decide +kernel)))
      exact ⟨ci, iS, fun q hq => by cases hq; exact h⟩
    | 6 =>
      obtain ⟨ci, iS, h⟩ := u_known (C := RX9) (T := TX9) (N := 32) (n := 32) hts ckc_6.2.1 (hts _ (TBL_mem 1056 (by decide +kernel) (by decide +kernel)))
      exact ⟨ci, iS, fun q hq => by cases hq; exact h⟩
    | k + 7 => exact ⟨0, fun _ => 0, fun q hq => by simp [CLS] at hq⟩
  obtain ⟨dC, h1⟩ := Classical.skolem.mp hall
  obtain ⟨dI, h2⟩ := Classical.skolem.mp h1
  exact ⟨(dC, dI), h2⟩
theorem ls_arr {s : State} {a : Array Value} {t : FieldType} (h : (Cond.arrayClass t).before a s = true) (ht : ∀ C, t ≠ .object C) : ∃ c : ClassId, (ArrOfT s c t ∧ va_RA s c t) ∧ s.vm.findClass (FieldType.array t).toString = some c := by
  obtain ⟨c, k, comp, h1, h2, h3⟩ := Cond.arrayClass_spec h
  refine ⟨c, ⟨fun n z => ⟨(fun q h => by cases h), k, h2, comp, h3⟩, ?_⟩, h1⟩
  cases t <;> first | exact h1 | exact absurd rfl (ht _)
theorem ls_tys {s : State} {a : Array Value} (hts : ∀ w ∈ lw_tbl, w.before a s = true) : ∃ E : Nat → ClassId, (∀ (k : Nat) (q : ClassId × FieldType), (tysL E)[k]? = some q → ArrOfT s q.1 q.2 ∧ va_RA s q.1 q.2) ∧ va_AO "RollingNets$Market" s ∧ ∃ k : Class, s.vm.classes[E 4]? = some k ∧ k.kind = .array (E 0) (.array .int) := by
  obtain ⟨e0, h0, f0⟩ := ls_arr (t := .int) (hts _ (List.mem_of_getElem? (i := 163) (by decide +kernel))) (fun C h => by cases h)
  obtain ⟨e1, h1, f1⟩ := ls_arr (t := .long) (hts _ (List.mem_of_getElem? (i := 164) (by decide +kernel))) (fun C h => by cases h)
  obtain ⟨e2, h2, f2⟩ := ls_arr (t := .boolean) (hts _ (List.mem_of_getElem? (i := 165) (by decide +kernel))) (fun C h => by cases h)
  have hM : (Cond.arrayOver (.object "RollingNets$Market")).before a s = true := hts _ (List.mem_of_getElem? (i := 144) (by decide +kernel))
  obtain ⟨comp3, e3, k3, a1, a2, a3, a4, a5⟩ := Cond.arrayOver_spec hM
  have hG : (Cond.arrayOver (.array .int)).before a s = true := hts _ (List.mem_of_getElem? (i := 152) (by decide +kernel))
  obtain ⟨comp4, e4, k4, b1, b2, b3, b4, b5⟩ := arrayOverA_spec hG
  have ec : comp4 = e0 := Option.some.inj (b1.symm.trans f0)
  subst ec
  refine ⟨fun k => if k = 0 then comp4 else if k = 1 then e1 else if k = 2 then e2 else if k = 3 then e3 else e4, ?_, va_AO.of hM, k4, b3, b4⟩
  intro k q hq
  match k, hq with
  | 0, hq => cases hq; exact h0
  | 1, hq => cases hq; exact h1
  | 2, hq => cases hq; exact h2
  | 3, hq =>
    cases hq
    exact ⟨fun n z => ⟨(fun q h => by cases h), k3, a3, comp3, a4⟩, k3, comp3, a3, a4, a1, a5⟩
  | 4, hq =>
    cases hq
    exact ⟨fun n z => ⟨(fun q h => by cases h), k4, b3, comp4, b4⟩, b5⟩
  | k + 5, hq => simp [tysL] at hq
theorem ls_nest {s : State} {a : Array Value} (hts : ∀ w ∈ lw_tbl, w.before a s = true) : Nst s := fun w hw => by
  have h1 := hts w (List.mem_filter.mp hw).1
  have h2 := (List.mem_filter.mp hw).2
  cases w <;> first | exact va_Nw.of rfl h1 | cases h2
theorem ls_stat {s : State} {a : Array Value} (hts : ∀ w ∈ lw_tbl, w.before a s = true) (hgv : (Jvm.Cond.and given_1 narrow_1).before a s = true) {A : Nat → Prop} (hA : ∀ q : Nat, q < s.heap.size → ¬ A q) : ∃ tt : Nat → Nat, ∀ i, i < 3 → va_Z "RollingNets" (sN i) "[I" (.ref (tt i)) A s s.heap ∧ va_T .int (tt i) 7 (fun j => .int (sV i j)) A s s.heap := by
  have hs := flat_of_before _ hgv
  have hini : (Cond.initialized "RollingNets").before a s = true := hts _ (List.mem_of_getElem? (i := 111) (by decide +kernel))
  obtain ⟨t0, v0, T0⟩ := va_Tof (tm := (Term.static "RollingNets" "TOLD_FIRST" "[I")) (ty := .int) (N := 7) (f := fun j => .int (sV 0 j)) (A := A) (by omega) (hs (.arrayOf (Term.static "RollingNets" "TOLD_FIRST" "[I") .int) (by decide +kernel)) (va_eqt (hs (.eq (.length (Term.static "RollingNets" "TOLD_FIRST" "[I")) (.int 7)) (by decide +kernel))) (fun j hj => by
    rcases (show j = 0 ∨ j = 1 ∨ j = 2 ∨ j = 3 ∨ j = 4 ∨ j = 5 ∨ j = 6 by omega) with rfl | rfl | rfl | rfl | rfl | rfl | rfl
    · exact va_eqt (hs (.eq (.elem (Term.static "RollingNets" "TOLD_FIRST" "[I") (.int 0)) (.int 6)) (by decide +kernel))
    · exact va_eqt (hs (.eq (.elem (Term.static "RollingNets" "TOLD_FIRST" "[I") (.int 1)) (.int 2)) (by decide +kernel))
    · exact va_eqt (hs (.eq (.elem (Term.static "RollingNets" "TOLD_FIRST" "[I") (.int 2)) (.int 2)) (by decide +kernel))
    · exact va_eqt (hs (.eq (.elem (Term.static "RollingNets" "TOLD_FIRST" "[I") (.int 3)) (.int 3)) (by decide +kernel))
    · exact va_eqt (hs (.eq (.elem (Term.static "RollingNets" "TOLD_FIRST" "[I") (.int 4)) (.int 1)) (by decide +kernel))
    · exact va_eqt (hs (.eq (.elem (Term.static "RollingNets" "TOLD_FIRST" "[I") (.int 5)) (.int 10)) (by decide +kernel))
    · exact va_eqt (hs (.eq (.elem (Term.static "RollingNets" "TOLD_FIRST" "[I") (.int 6)) (.int 0)) (by decide +kernel))) hA
  obtain ⟨t1, v1, T1⟩ := va_Tof (tm := (Term.static "RollingNets" "TOLD_LEAST" "[I")) (ty := .int) (N := 7) (f := fun j => .int (sV 1 j)) (A := A) (by omega) (hs (.arrayOf (Term.static "RollingNets" "TOLD_LEAST" "[I") .int) (by decide +kernel)) (va_eqt (hs (.eq (.length (Term.static "RollingNets" "TOLD_LEAST" "[I")) (.int 7)) (by decide +kernel))) (fun j hj => by
    rcases (show j = 0 ∨ j = 1 ∨ j = 2 ∨ j = 3 ∨ j = 4 ∨ j = 5 ∨ j = 6 by omega) with rfl | rfl | rfl | rfl | rfl | rfl | rfl
    · exact va_eqt (hs (.eq (.elem (Term.static "RollingNets" "TOLD_LEAST" "[I") (.int 0)) (.int 2)) (by decide +kernel))
    · exact va_eqt (hs (.eq (.elem (Term.static "RollingNets" "TOLD_LEAST" "[I") (.int 1)) (.int 0)) (by decide +kernel))
    · exact va_eqt (hs (.eq (.elem (Term.static "RollingNets" "TOLD_LEAST" "[I") (.int 2)) (.int 1)) (by decide +kernel))
    · exact va_eqt (hs (.eq (.elem (Term.static "RollingNets" "TOLD_LEAST" "[I") (.int 3)) (.int 1)) (by decide +kernel))
    · exact va_eqt (hs (.eq (.elem (Term.static "RollingNets" "TOLD_LEAST" "[I") (.int 4)) (.int 0)) (by decide +kernel))
    · exact va_eqt (hs (.eq (.elem (Term.static "RollingNets" "TOLD_LEAST" "[I") (.int 5)) (.int 0)) (by decide +kernel))
    · exact va_eqt (hs (.eq (.elem (Term.static "RollingNets" "TOLD_LEAST" "[I") (.int 6)) (.int 0)) (by decide +kernel))) hA
  obtain ⟨t2, v2, T2⟩ := va_Tof (tm := (Term.static "RollingNets" "TOLD_MOST" "[I")) (ty := .int) (N := 7) (f := fun j => .int (sV 2 j)) (A := A) (by omega) (hs (.arrayOf (Term.static "RollingNets" "TOLD_MOST" "[I") .int) (by decide +kernel)) (va_eqt (hs (.eq (.length (Term.static "RollingNets" "TOLD_MOST" "[I")) (.int 7)) (by decide +kernel))) (fun j hj => by
    rcases (show j = 0 ∨ j = 1 ∨ j = 2 ∨ j = 3 ∨ j = 4 ∨ j = 5 ∨ j = 6 by omega) with rfl | rfl | rfl | rfl | rfl | rfl | rfl
    · exact va_eqt (hs (.eq (.elem (Term.static "RollingNets" "TOLD_MOST" "[I") (.int 0)) (.int 12)) (by decide +kernel))
    · exact va_eqt (hs (.eq (.elem (Term.static "RollingNets" "TOLD_MOST" "[I") (.int 1)) (.int 3)) (by decide +kernel))
    · exact va_eqt (hs (.eq (.elem (Term.static "RollingNets" "TOLD_MOST" "[I") (.int 2)) (.int 9)) (by decide +kernel))
    · exact va_eqt (hs (.eq (.elem (Term.static "RollingNets" "TOLD_MOST" "[I") (.int 3)) (.int 9)) (by decide +kernel))
    · exact va_eqt (hs (.eq (.elem (Term.static "RollingNets" "TOLD_MOST" "[I") (.int 4)) (.int 5)) (by decide +kernel))
    · exact va_eqt (hs (.eq (.elem (Term.static "RollingNets" "TOLD_MOST" "[I") (.int 5)) (.int 100)) (by decide +kernel))
    · exact va_eqt (hs (.eq (.elem (Term.static "RollingNets" "TOLD_MOST" "[I") (.int 6)) (.int 100)) (by decide +kernel))) hA
  refine ⟨fun i => if i = 0 then t0 else if i = 1 then t1 else t2, fun i hi => ?_⟩
  rcases (show i = 0 ∨ i = 1 ∨ i = 2 by omega) with rfl | rfl | rfl
  · exact ⟨va_Zof (hts _ (List.mem_of_getElem? (i := 142) (by decide +kernel))) hini v0 hA, T0⟩
  · exact ⟨va_Zof (hts _ (List.mem_of_getElem? (i := 417) (by decide +kernel))) hini v1 hA, T1⟩
  · exact ⟨va_Zof (hts _ (List.mem_of_getElem? (i := 419) (by decide +kernel))) hini v2 hA, T2⟩
theorem k_astoren {g : GE} {own : String} {cc : ByteArray} {nL : Nat} {R : Room} {ini : Bool} {Q : Nat → Nat → Nat → CM → Prop} {Z : ZK} {pc : Nat} {L : LO} {st : List Value} {kc ks n : Nat} {M : CM} (h : Rk g own cc nL R ini Q Z) {i : Fin 4} {x : Nat} {L' : LO} (hd : decode cc pc = .ok (.astore_n i, 1)) (hn : ((i : Nat) < nL)) (hs : st1 L i (rf g x) = L') (k : Z (pc + 1) L' st kc ks n M) : Z pc L (rf g x :: st) kc ks n M := by
  obtain ⟨p, e, s, m, args, below, meth, c, QS, hx, hb, hml, hown, hts, hK, hAX, hin, hB, hfin, hZ⟩ := h
  rw [hZ]
  rw [hZ] at k
  intro H ls locs hM hS hL
  subst hs
  exact lv_astore_n hx hb hd rfl (lvL_has hL) hn rfl (fun ls' h' => k H ls' locs hM hS (lvL_st1 (ls := ls) h'))
theorem mk_law_9 : ML R_law 9 yX8_init cX8_init 1 none 0 := ⟨Or.inl (TBL_mem 129 (by decide +kernel) (by decide +kernel)), (TBL_mem 111 (by decide +kernel) (by decide +kernel)), (TBL_mem 131 (by decide +kernel) (by decide +kernel)), by decide +kernel⟩
theorem mk_law_12 : ML R_law 12 yX9_init cX9_init 1 none 0 := ⟨Or.inl (TBL_mem 1057 (by decide +kernel) (by decide +kernel)), (TBL_mem 118 (by decide +kernel) (by decide +kernel)), (TBL_mem 1059 (by decide +kernel) (by decide +kernel)), by decide +kernel⟩
theorem Fm_0 {g : GE} {e : va_E} : Fm g 0 (upC (fr g) 0 e) = fr g := by
  funext q
  exact Fm_ge (Nat.zero_le q)
theorem Fm_551 {g : GE} {e : va_E} : Fm g 551 (upC (fr g) 551 e) = fr g := by
  funext q
  unfold Fm
  by_cases h : q < 551
  · rw [if_pos h, upC_n (by omega)]
  · rw [if_neg h]
theorem ls_mem {g : GE} {H : Heap} (h : Mc g 566 (fr g) H) : Mo g iv0 lv0 H := h.2
/-- the two objects are made -/
theorem ls_make {g : GE} {b : Nat} {Q : Nat → Nat → Nat → CM → Prop} {Z : ZK} (kh : Rk g R_law code 4 room_1 false Q Z) (k : Z 16 [some (.ref b), some (rf g 0), some (rf g 551), none] [] 566 109637 566 (fr g)) : Z 0 [some (.ref b), none, none, none] [] 0 0 0 (fr g) := by
  refine k_new kh ckc_0 dL_law_0 (TBL_mem 127 (by decide +kernel) (by decide +kernel)) (TBL_mem 128 (by decide +kernel) (by decide +kernel)) (TBL_mem 111 (by decide +kernel) (by decide +kernel)) df_0 (Nat.le_of_ble_eq_true rfl) (Nat.le_of_ble_eq_true rfl) ?_
  refine k_at (n' := 1) (kc' := 1) (ks' := 5) rfl rfl rfl ?_
  refine k_dup kh dL_law_3 rfl ?_
  refine k_call (As := []) kh rfl mk_law_9 (TBL_mem 130 (by decide +kernel) (by decide +kernel)) dL_law_4 (kx_Nets (M0 := upC (fr g) 0 (.inr (0, [.null, .null, .null, .null, .int 0]))) upC_s) ⟨(Nat.le_of_ble_eq_true rfl), (Nat.le_of_ble_eq_true rfl)⟩ rfl rfl (Nat.le_of_ble_eq_true rfl) ⟨(Nat.le_of_ble_eq_true rfl), (Nat.le_of_ble_eq_true rfl)⟩ ?_
  rintro _ _ ⟨rfl, rfl⟩
  refine k_eqM (M' := fr g) Fm_0 ?_
  refine k_at (n' := 551) (kc' := 551) (ks' := 45633) rfl rfl rfl ?_
  refine k_astoren kh dL_law_7 (by decide) (L' := [some (.ref b), some (rf g 0), none, none]) rfl ?_
  refine k_new kh ckc_6 dL_law_8 (TBL_mem 1055 (by decide +kernel) (by decide +kernel)) (TBL_mem 1056 (by decide +kernel) (by decide +kernel)) (TBL_mem 118 (by decide +kernel) (by decide +kernel)) df_6 (Nat.le_of_ble_eq_true rfl) (Nat.le_of_ble_eq_true rfl) ?_
  refine k_at (n' := 552) (kc' := 552) (ks' := 45665) rfl rfl rfl ?_
  refine k_dup kh dL_law_11 rfl ?_
  refine k_call (As := []) kh rfl mk_law_12 (TBL_mem 1058 (by decide +kernel) (by decide +kernel)) dL_law_12 (kx_Model (M0 := upC (fr g) 551 (.inr (6, [.int 0, .null, .null, .null, .null, .int 0, .int 0, .int 0, .null, .int 0, .int 0, .null, .null, .null, .int 0, .null, .null, .int 0, .int 0, .int 0, .int 0, .int 0, .null, .int 0, .int 0, .int 0, .int 0, .int 0, .null, .int 0, .null, .null]))) upC_s) ⟨(Nat.le_of_ble_eq_true rfl), (Nat.le_of_ble_eq_true rfl)⟩ rfl rfl (Nat.le_of_ble_eq_true rfl) ⟨(Nat.le_of_ble_eq_true rfl), (Nat.le_of_ble_eq_true rfl)⟩ ?_
  rintro _ _ ⟨rfl, rfl⟩
  refine k_eqM (M' := fr g) Fm_551 ?_
  refine k_at (n' := 566) (kc' := 566) (ks' := 109637) rfl rfl rfl ?_
  refine k_astoren kh dL_law_15 (by decide) (L' := [some (.ref b), some (rf g 0), some (rf g 551), none]) rfl ?_
  exact k
