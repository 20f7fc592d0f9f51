/-! THE START: what the tables and the statics give, and the two objects -/
theorem TBL_hts {s : State} {a : Array Value} (h : ∀ w ∈ lw_tbl, w.before a s = true) : ∀ w ∈ TBL, w.before a s = true := fun w hw => h w (List.mem_filter.mp hw).1
theorem ls_cls {s : State} {a : Array Value} (hts : ∀ w ∈ TBL, w.before a s = true) : ∃ D : va_G, ∀ (c : Nat) (q : vw_C), CLS[c]? = some q → u_Kn s q.1 q.2.1 q.2.2 (D.1 c) (D.2 c) := by
  have hall : ∀ c : Nat, ∃ (ci : ClassId) (iS : Nat → Nat), ∀ q : vw_C, CLS[c]? = some q → u_Kn s q.1 q.2.1 q.2.2 ci iS := by
    intro c
    match c with
    | 0 =>
      obtain ⟨ci, iS, h⟩ := u_known (C := RX8) (T := TX8) (N := 5) (n := 5) hts ckc_0.2.1 (hts _ (TBL_mem 128 (by decide +kernel) (by decide +kernel)))
      exact ⟨ci, iS, fun q hq => by cases hq; exact h⟩
    | 1 =>
      obtain ⟨ci, iS, h⟩ := u_known (C := RX1) (T := TX1) (N := 17) (n := 17) hts ckc_1.2.1 (hts _ (TBL_mem 136 (by decide +kernel) (by decide +kernel)))
      exact ⟨ci, iS, fun q hq => by cases hq; exact h⟩
    | 2 =>
      obtain ⟨ci, iS, h⟩ := u_known (C := RX7) (T := TX7) (N := 3) (n := 3) hts ckc_2.2.1 (hts _ (TBL_mem 146 (by decide +kernel) (by decide +kernel)))
      exact ⟨ci, iS, fun q hq => by cases hq; exact h⟩
    | 3 =>
      obtain ⟨ci, iS, h⟩ := u_known (C := RX2) (T := TX2) (N := 4) (n := 4) hts ckc_3.2.1 (hts _ (TBL_mem 167 (by decide +kernel) (by decide +kernel)))
      exact ⟨ci, iS, fun q hq => by cases hq; exact h⟩
    | 4 =>
      obtain ⟨ci, iS, h⟩ := u_known (C := RX3) (T := TX3) (N := 11) (n := 11) hts ckc_4.2.1 (hts _ (TBL_mem 197 (by decide +kernel) (by decide +kernel)))
      exact ⟨ci, iS, fun q hq => by cases hq; exact h⟩
    | 5 =>
      obtain ⟨ci, iS, h⟩ := u_known (C := RX6) (T := TX6) (N := 6) (n := 6) hts ckc_5.2.1 (hts _ (TBL_mem 365 (by decide +kernel) (by decide +kernel)))
      exact ⟨ci, iS, fun q hq => by cases hq; exact h⟩
    | 6 =>
      obtain ⟨ci, iS, h⟩ := u_known (C := RX9) (T := TX9) (N := 32) (n := 32) hts ckc_6.2.1 (hts _ (TBL_mem 1056 (by decide +kernel) (by decide +kernel)))
      exact ⟨ci, iS, fun q hq => by cases hq; exact h⟩
    | k + 7 => exact ⟨0, fun _ => 0, fun q hq => by simp [CLS] at hq⟩
  obtain ⟨dC, h1⟩ := Classical.skolem.mp hall
  obtain ⟨dI, h2⟩ := Classical.skolem.mp h1
  exact ⟨(dC, dI), h2⟩
theorem ls_arr {s : State} {a : Array Value} {t : FieldType} (h : (Cond.arrayClass t).before a s = true) (ht : ∀ C, t ≠ .object C) : ∃ c : ClassId, (ArrOfT s c t ∧ va_RA s c t) ∧ s.vm.findClass (FieldType.array t).toString = some c := by
  obtain ⟨c, k, comp, h1, h2, h3⟩ := Cond.arrayClass_spec h
  refine ⟨c, ⟨fun n z => ⟨(fun q h => by cases h), k, h2, comp, h3⟩, ?_⟩, h1⟩
  cases t <;> first | exact h1 | exact absurd rfl (ht _)
theorem ls_tys {s : State} {a : Array Value} (hts : ∀ w ∈ lw_tbl, w.before a s = true) : ∃ E : Nat → ClassId, (∀ (k : Nat) (q : ClassId × FieldType), (tysL E)[k]? = some q → ArrOfT s q.1 q.2 ∧ va_RA s q.1 q.2) ∧ va_AO "RollingNets$Market" s ∧ ∃ k : Class, s.vm.classes[E 4]? = some k ∧ k.kind = .array (E 0) (.array .int) := by
  obtain ⟨e0, h0, f0⟩ := ls_arr (t := .int) (hts _ (List.mem_of_getElem? (i := 163) (by decide +kernel))) (fun C h => by cases h)
  obtain ⟨e1, h1, f1⟩ := ls_arr (t := .long) (hts _ (List.mem_of_getElem? (i := 164) (by decide +kernel))) (fun C h => by cases h)
  obtain ⟨e2, h2, f2⟩ := ls_arr (t := .boolean) (hts _ (List.mem_of_getElem? (i := 165) (by decide +kernel))) (fun C h => by cases h)
  have hM : (Cond.arrayOver (.object "RollingNets$Market")).before a s = true := hts _ (List.mem_of_getElem? (i := 144) (by decide +kernel))
  obtain ⟨comp3, e3, k3, a1, a2, a3, a4, a5⟩ := Cond.arrayOver_spec hM
  have hG : (Cond.arrayOver (.array .int)).before a s = true := hts _ (List.mem_of_getElem? (i := 152) (by decide +kernel))
  obtain ⟨comp4, e4, k4, b1, b2, b3, b4, b5⟩ := arrayOverA_spec hG
  have ec : comp4 = e0 := Option.some.inj (b1.symm.trans f0)
  subst ec
  refine ⟨fun k => if k = 0 then comp4 else if k = 1 then e1 else if k = 2 then e2 else if k = 3 then e3 else e4, ?_, va_AO.of hM, k4, b3, b4⟩
  intro k q hq
  match k, hq with
  | 0, hq => cases hq; exact h0
  | 1, hq => cases hq; exact h1
  | 2, hq => cases hq; exact h2
  | 3, hq =>
    cases hq
    exact ⟨fun n z => ⟨(fun q h => by cases h), k3, a3, comp3, a4⟩, k3, comp3, a3, a4, a1, a5⟩
  | 4, hq =>
    cases hq
    exact ⟨fun n z => ⟨(fun q h => by cases h), k4, b3, comp4, b4⟩, b5⟩
  | k + 5, hq => simp [tysL] at hq
theorem ls_nest {s : State} {a : Array Value} (hts : ∀ w ∈ lw_tbl, w.before a s = true) : ∀ w ∈ NTB, va_Nw w s := fun w hw => by
  have h1 := hts w (List.mem_filter.mp hw).1
  have h2 := (List.mem_filter.mp hw).2
  cases w <;> first | exact va_Nw.of rfl h1 | cases h2
theorem ls_stat3 {s : State} {a : Array Value} (hts : ∀ w ∈ lw_tbl, w.before a s = true) (hgv : (Jvm.Cond.and given_1 narrow_1).before a s = true) {A : Nat → Prop} (hA : ∀ q : Nat, q < s.heap.size → ¬ A q) : ∃ tt : Nat → Nat, ∀ i, i < 3 → va_Z "RollingNets" (sN i) "[I" (.ref (tt i)) A s s.heap ∧ va_T .int (tt i) 7 (fun j => .int (sV i j)) A s s.heap := by
  have hs := flat_of_before _ hgv
  have hini : (Cond.initialized "RollingNets").before a s = true := hts _ (List.mem_of_getElem? (i := 111) (by decide +kernel))
  obtain ⟨t0, v0, T0⟩ := va_Tof (tm := (Term.static "RollingNets" "TOLD_FIRST" "[I")) (ty := .int) (N := 7) (f := fun j => .int (sV 0 j)) (A := A) (by omega) (hs (.arrayOf (Term.static "RollingNets" "TOLD_FIRST" "[I") .int) (by decide +kernel)) (va_eqt (hs (.eq (.length (Term.static "RollingNets" "TOLD_FIRST" "[I")) (.int 7)) (by decide +kernel))) (fun j hj => by
    rcases (show j = 0 ∨ j = 1 ∨ j = 2 ∨ j = 3 ∨ j = 4 ∨ j = 5 ∨ j = 6 by omega) with rfl | rfl | rfl | rfl | rfl | rfl | rfl
    · exact va_eqt (hs (.eq (.elem (Term.static "RollingNets" "TOLD_FIRST" "[I") (.int 0)) (.int 6)) (by decide +kernel))
    · exact va_eqt (hs (.eq (.elem (Term.static "RollingNets" "TOLD_FIRST" "[I") (.int 1)) (.int 2)) (by decide +kernel))
    · exact va_eqt (hs (.eq (.elem (Term.static "RollingNets" "TOLD_FIRST" "[I") (.int 2)) (.int 2)) (by decide +kernel))
    · exact va_eqt (hs (.eq (.elem (Term.static "RollingNets" "TOLD_FIRST" "[I") (.int 3)) (.int 3)) (by decide +kernel))
    · exact va_eqt (hs (.eq (.elem (Term.static "RollingNets" "TOLD_FIRST" "[I") (.int 4)) (.int 1)) (by decide +kernel))
    · exact va_eqt (hs (.eq (.elem (Term.static "RollingNets" "TOLD_FIRST" "[I") (.int 5)) (.int 10)) (by decide +kernel))
    · exact va_eqt (hs (.eq (.elem (Term.static "RollingNets" "TOLD_FIRST" "[I") (.int 6)) (.int 0)) (by decide +kernel))) hA
  obtain ⟨t1, v1, T1⟩ := va_Tof (tm := (Term.static "RollingNets" "TOLD_LEAST" "[I")) (ty := .int) (N := 7) (f := fun j => .int (sV 1 j)) (A := A) (by omega) (hs (.arrayOf (Term.static "RollingNets" "TOLD_LEAST" "[I") .int) (by decide +kernel)) (va_eqt (hs (.eq (.length (Term.static "RollingNets" "TOLD_LEAST" "[I")) (.int 7)) (by decide +kernel))) (fun j hj => by
    rcases (show j = 0 ∨ j = 1 ∨ j = 2 ∨ j = 3 ∨ j = 4 ∨ j = 5 ∨ j = 6 by omega) with rfl | rfl | rfl | rfl | rfl | rfl | rfl
    · exact va_eqt (hs (.eq (.elem (Term.static "RollingNets" "TOLD_LEAST" "[I") (.int 0)) (.int 2)) (by decide +kernel))
    · exact va_eqt (hs (.eq (.elem (Term.static "RollingNets" "TOLD_LEAST" "[I") (.int 1)) (.int 0)) (by decide +kernel))
    · exact va_eqt (hs (.eq (.elem (Term.static "RollingNets" "TOLD_LEAST" "[I") (.int 2)) (.int 1)) (by decide +kernel))
    · exact va_eqt (hs (.eq (.elem (Term.static "RollingNets" "TOLD_LEAST" "[I") (.int 3)) (.int 1)) (by decide +kernel))
    · exact va_eqt (hs (.eq (.elem (Term.static "RollingNets" "TOLD_LEAST" "[I") (.int 4)) (.int 0)) (by decide +kernel))
    · exact va_eqt (hs (.eq (.elem (Term.static "RollingNets" "TOLD_LEAST" "[I") (.int 5)) (.int 0)) (by decide +kernel))
    · exact va_eqt (hs (.eq (.elem (Term.static "RollingNets" "TOLD_LEAST" "[I") (.int 6)) (.int 0)) (by decide +kernel))) hA
  obtain ⟨t2, v2, T2⟩ := va_Tof (tm := (Term.static "RollingNets" "TOLD_MOST" "[I")) (ty := .int) (N := 7) (f := fun j => .int (sV 2 j)) (A := A) (by omega) (hs (.arrayOf (Term.static "RollingNets" "TOLD_MOST" "[I") .int) (by decide +kernel)) (va_eqt (hs (.eq (.length (Term.static "RollingNets" "TOLD_MOST" "[I")) (.int 7)) (by decide +kernel))) (fun j hj => by
    rcases (show j = 0 ∨ j = 1 ∨ j = 2 ∨ j = 3 ∨ j = 4 ∨ j = 5 ∨ j = 6 by omega) with rfl | rfl | rfl | rfl | rfl | rfl | rfl
    · exact va_eqt (hs (.eq (.elem (Term.static "RollingNets" "TOLD_MOST" "[I") (.int 0)) (.int 12)) (by decide +kernel))
    · exact va_eqt (hs (.eq (.elem (Term.static "RollingNets" "TOLD_MOST" "[I") (.int 1)) (.int 3)) (by decide +kernel))
    · exact va_eqt (hs (.eq (.elem (Term.static "RollingNets" "TOLD_MOST" "[I") (.int 2)) (.int 9)) (by decide +kernel))
    · exact va_eqt (hs (.eq (.elem (Term.static "RollingNets" "TOLD_MOST" "[I") (.int 3)) (.int 9)) (by decide +kernel))
    · exact va_eqt (hs (.eq (.elem (Term.static "RollingNets" "TOLD_MOST" "[I") (.int 4)) (.int 5)) (by decide +kernel))
    · exact va_eqt (hs (.eq (.elem (Term.static "RollingNets" "TOLD_MOST" "[I") (.int 5)) (.int 100)) (by decide +kernel))
    · exact va_eqt (hs (.eq (.elem (Term.static "RollingNets" "TOLD_MOST" "[I") (.int 6)) (.int 100)) (by decide +kernel))) hA
  refine ⟨fun i => if i = 0 then t0 else if i = 1 then t1 else t2, fun i hi => ?_⟩
  rcases (show i = 0 ∨ i = 1 ∨ i = 2 by omega) with rfl | rfl | rfl
  · exact ⟨va_Zof (hts _ (List.mem_of_getElem? (i := 142) (by decide +kernel))) hini v0 hA, T0⟩
  · exact ⟨va_Zof (hts _ (List.mem_of_getElem? (i := 417) (by decide +kernel))) hini v1 hA, T1⟩
  · exact ⟨va_Zof (hts _ (List.mem_of_getElem? (i := 419) (by decide +kernel))) hini v2 hA, T2⟩
theorem ls_OF {args : Array Value} {s : State} {tm : Term} {o n d : String} {v : Value} {t : Nat} {A : Nat → Prop} (ht : tm.eval args s none [] s = some (.ref t)) (hv : (Term.field tm o n d).eval args s none [] s = some v) (hA : ∀ a : Nat, a < s.heap.size → ¬ A a) : va_OF o n d v t A s s.heap := by
  cases hfo : s.fieldFound? o n d with
  | none =>
    rw [va_fe ht] at hv
    simp [State.fieldOf?, State.fieldNamed?, hfo] at hv
  | some x =>
    obtain ⟨cf, k, fi, f⟩ := x
    obtain ⟨g1, cell, g2, g3, -, -, g6⟩ := Term.field_spec hfo ht hv
    exact ⟨cf, k, fi, f, cell, hfo, g1, g2, g3, g6, hA _ (Array.getElem?_eq_some_iff.mp g2).1⟩
/-- text i, and its bytes, at the start -/
def Tx (i t v : Nat) (A : Nat → Prop) (s : State) : Prop := ((va_O "java/lang/String" t A s s.heap ∧ va_OF "java/lang/String" "coder" "B" (.int 0) t A s s.heap) ∧ va_OF "java/lang/String" "value" "[B" (.ref v) t A s s.heap ∧ va_T .byte v (sTx i).length (fun j => .int ((sTx i).getD j 0)) A s s.heap) ∧ vk_R "RollingNets$Reader" (103 + 2 * i) (sTt i) t s
theorem ls_t0 {s : State} {a : Array Value} (hts : ∀ w ∈ lw_tbl, w.before a s = true) (hgv : (Jvm.Cond.and given_1 narrow_1).before a s = true) {A : Nat → Prop} (hA : ∀ q : Nat, q < s.heap.size → ¬ A q) : ∃ t v : Nat, Tx 0 t v A s := by
  have hs := flat_of_before _ hgv
  have hex : (Cond.exactly (Term.string "RollingNets$Reader" 103) "java/lang/String").before a s = true := hs _ (by decide +kernel)
  obtain ⟨t, _, _, _, ht, _⟩ := Cond.exactly_spec (args := a) (first := s) (o := none) (s := s) (idx := []) (t := (Term.string "RollingNets$Reader" 103)) (cls := "java/lang/String") hex
  obtain ⟨v, hv, hT⟩ := va_Tof (tm := (Term.field (Term.string "RollingNets$Reader" 103) "java/lang/String" "value" "[B")) (ty := .byte) (N := 3) (f := fun j => .int ((sTx 0).getD j 0)) (A := A) (by omega) (hs (.arrayOf (Term.field (Term.string "RollingNets$Reader" 103) "java/lang/String" "value" "[B") .byte) (by decide +kernel)) (va_eqt (hs (.eq (.length (Term.field (Term.string "RollingNets$Reader" 103) "java/lang/String" "value" "[B")) (.int 3)) (by decide +kernel))) (fun j hj => by
    rcases (show j = 0 ∨ j = 1 ∨ j = 2 by omega) with rfl | rfl | rfl
    · exact va_eqt (hs (.eq (.elem (Term.field (Term.string "RollingNets$Reader" 103) "java/lang/String" "value" "[B") (.int 0)) (.int 98)) (by decide +kernel))
    · exact va_eqt (hs (.eq (.elem (Term.field (Term.string "RollingNets$Reader" 103) "java/lang/String" "value" "[B") (.int 1)) (.int 117)) (by decide +kernel))
    · exact va_eqt (hs (.eq (.elem (Term.field (Term.string "RollingNets$Reader" 103) "java/lang/String" "value" "[B") (.int 2)) (.int 121)) (by decide +kernel))) hA
  have hc := va_eqt (t := .field (Term.string "RollingNets$Reader" 103) "java/lang/String" "coder" "B") (z := 0) (hs _ (by decide +kernel))
  exact ⟨t, v, ⟨⟨va_Oof hex ht hA, ls_OF ht hc hA⟩, ls_OF ht hv hA, hT⟩, vk_R.of (A := a) (hts _ (List.mem_of_getElem? (i := 779) (by decide +kernel))) ht⟩
theorem ls_t1 {s : State} {a : Array Value} (hts : ∀ w ∈ lw_tbl, w.before a s = true) (hgv : (Jvm.Cond.and given_1 narrow_1).before a s = true) {A : Nat → Prop} (hA : ∀ q : Nat, q < s.heap.size → ¬ A q) : ∃ t v : Nat, Tx 1 t v A s := by
  have hs := flat_of_before _ hgv
  have hex : (Cond.exactly (Term.string "RollingNets$Reader" 105) "java/lang/String").before a s = true := hs _ (by decide +kernel)
  obtain ⟨t, _, _, _, ht, _⟩ := Cond.exactly_spec (args := a) (first := s) (o := none) (s := s) (idx := []) (t := (Term.string "RollingNets$Reader" 105)) (cls := "java/lang/String") hex
  obtain ⟨v, hv, hT⟩ := va_Tof (tm := (Term.field (Term.string "RollingNets$Reader" 105) "java/lang/String" "value" "[B")) (ty := .byte) (N := 5) (f := fun j => .int ((sTx 1).getD j 0)) (A := A) (by omega) (hs (.arrayOf (Term.field (Term.string "RollingNets$Reader" 105) "java/lang/String" "value" "[B") .byte) (by decide +kernel)) (va_eqt (hs (.eq (.length (Term.field (Term.string "RollingNets$Reader" 105) "java/lang/String" "value" "[B")) (.int 5)) (by decide +kernel))) (fun j hj => by
    rcases (show j = 0 ∨ j = 1 ∨ j = 2 ∨ j = 3 ∨ j = 4 by omega) with rfl | rfl | rfl | rfl | rfl
    · exact va_eqt (hs (.eq (.elem (Term.field (Term.string "RollingNets$Reader" 105) "java/lang/String" "value" "[B") (.int 0)) (.int 97)) (by decide +kernel))
    · exact va_eqt (hs (.eq (.elem (Term.field (Term.string "RollingNets$Reader" 105) "java/lang/String" "value" "[B") (.int 1)) (.int 112)) (by decide +kernel))
    · exact va_eqt (hs (.eq (.elem (Term.field (Term.string "RollingNets$Reader" 105) "java/lang/String" "value" "[B") (.int 2)) (.int 97)) (by decide +kernel))
    · exact va_eqt (hs (.eq (.elem (Term.field (Term.string "RollingNets$Reader" 105) "java/lang/String" "value" "[B") (.int 3)) (.int 114)) (by decide +kernel))
    · exact va_eqt (hs (.eq (.elem (Term.field (Term.string "RollingNets$Reader" 105) "java/lang/String" "value" "[B") (.int 4)) (.int 116)) (by decide +kernel))) hA
  have hc := va_eqt (t := .field (Term.string "RollingNets$Reader" 105) "java/lang/String" "coder" "B") (z := 0) (hs _ (by decide +kernel))
  exact ⟨t, v, ⟨⟨va_Oof hex ht hA, ls_OF ht hc hA⟩, ls_OF ht hv hA, hT⟩, vk_R.of (A := a) (hts _ (List.mem_of_getElem? (i := 780) (by decide +kernel))) ht⟩
theorem ls_t2 {s : State} {a : Array Value} (hts : ∀ w ∈ lw_tbl, w.before a s = true) (hgv : (Jvm.Cond.and given_1 narrow_1).before a s = true) {A : Nat → Prop} (hA : ∀ q : Nat, q < s.heap.size → ¬ A q) : ∃ t v : Nat, Tx 2 t v A s := by
  have hs := flat_of_before _ hgv
  have hex : (Cond.exactly (Term.string "RollingNets$Reader" 107) "java/lang/String").before a s = true := hs _ (by decide +kernel)
  obtain ⟨t, _, _, _, ht, _⟩ := Cond.exactly_spec (args := a) (first := s) (o := none) (s := s) (idx := []) (t := (Term.string "RollingNets$Reader" 107)) (cls := "java/lang/String") hex
  obtain ⟨v, hv, hT⟩ := va_Tof (tm := (Term.field (Term.string "RollingNets$Reader" 107) "java/lang/String" "value" "[B")) (ty := .byte) (N := 5) (f := fun j => .int ((sTx 2).getD j 0)) (A := A) (by omega) (hs (.arrayOf (Term.field (Term.string "RollingNets$Reader" 107) "java/lang/String" "value" "[B") .byte) (by decide +kernel)) (va_eqt (hs (.eq (.length (Term.field (Term.string "RollingNets$Reader" 107) "java/lang/String" "value" "[B")) (.int 5)) (by decide +kernel))) (fun j hj => by
    rcases (show j = 0 ∨ j = 1 ∨ j = 2 ∨ j = 3 ∨ j = 4 by omega) with rfl | rfl | rfl | rfl | rfl
    · exact va_eqt (hs (.eq (.elem (Term.field (Term.string "RollingNets$Reader" 107) "java/lang/String" "value" "[B") (.int 0)) (.int 115)) (by decide +kernel))
    · exact va_eqt (hs (.eq (.elem (Term.field (Term.string "RollingNets$Reader" 107) "java/lang/String" "value" "[B") (.int 1)) (.int 116)) (by decide +kernel))
    · exact va_eqt (hs (.eq (.elem (Term.field (Term.string "RollingNets$Reader" 107) "java/lang/String" "value" "[B") (.int 2)) (.int 111)) (by decide +kernel))
    · exact va_eqt (hs (.eq (.elem (Term.field (Term.string "RollingNets$Reader" 107) "java/lang/String" "value" "[B") (.int 3)) (.int 99)) (by decide +kernel))
    · exact va_eqt (hs (.eq (.elem (Term.field (Term.string "RollingNets$Reader" 107) "java/lang/String" "value" "[B") (.int 4)) (.int 107)) (by decide +kernel))) hA
  have hc := va_eqt (t := .field (Term.string "RollingNets$Reader" 107) "java/lang/String" "coder" "B") (z := 0) (hs _ (by decide +kernel))
  exact ⟨t, v, ⟨⟨va_Oof hex ht hA, ls_OF ht hc hA⟩, ls_OF ht hv hA, hT⟩, vk_R.of (A := a) (hts _ (List.mem_of_getElem? (i := 781) (by decide +kernel))) ht⟩
theorem ls_t3 {s : State} {a : Array Value} (hts : ∀ w ∈ lw_tbl, w.before a s = true) (hgv : (Jvm.Cond.and given_1 narrow_1).before a s = true) {A : Nat → Prop} (hA : ∀ q : Nat, q < s.heap.size → ¬ A q) : ∃ t v : Nat, Tx 3 t v A s := by
  have hs := flat_of_before _ hgv
  have hex : (Cond.exactly (Term.string "RollingNets$Reader" 109) "java/lang/String").before a s = true := hs _ (by decide +kernel)
  obtain ⟨t, _, _, _, ht, _⟩ := Cond.exactly_spec (args := a) (first := s) (o := none) (s := s) (idx := []) (t := (Term.string "RollingNets$Reader" 109)) (cls := "java/lang/String") hex
  obtain ⟨v, hv, hT⟩ := va_Tof (tm := (Term.field (Term.string "RollingNets$Reader" 109) "java/lang/String" "value" "[B")) (ty := .byte) (N := 7) (f := fun j => .int ((sTx 3).getD j 0)) (A := A) (by omega) (hs (.arrayOf (Term.field (Term.string "RollingNets$Reader" 109) "java/lang/String" "value" "[B") .byte) (by decide +kernel)) (va_eqt (hs (.eq (.length (Term.field (Term.string "RollingNets$Reader" 109) "java/lang/String" "value" "[B")) (.int 7)) (by decide +kernel))) (fun j hj => by
    rcases (show j = 0 ∨ j = 1 ∨ j = 2 ∨ j = 3 ∨ j = 4 ∨ j = 5 ∨ j = 6 by omega) with rfl | rfl | rfl | rfl | rfl | rfl | rfl
    · exact va_eqt (hs (.eq (.elem (Term.field (Term.string "RollingNets$Reader" 109) "java/lang/String" "value" "[B") (.int 0)) (.int 114)) (by decide +kernel))
    · exact va_eqt (hs (.eq (.elem (Term.field (Term.string "RollingNets$Reader" 109) "java/lang/String" "value" "[B") (.int 1)) (.int 101)) (by decide +kernel))
    · exact va_eqt (hs (.eq (.elem (Term.field (Term.string "RollingNets$Reader" 109) "java/lang/String" "value" "[B") (.int 2)) (.int 115)) (by decide +kernel))
    · exact va_eqt (hs (.eq (.elem (Term.field (Term.string "RollingNets$Reader" 109) "java/lang/String" "value" "[B") (.int 3)) (.int 101)) (by decide +kernel))
    · exact va_eqt (hs (.eq (.elem (Term.field (Term.string "RollingNets$Reader" 109) "java/lang/String" "value" "[B") (.int 4)) (.int 114)) (by decide +kernel))
    · exact va_eqt (hs (.eq (.elem (Term.field (Term.string "RollingNets$Reader" 109) "java/lang/String" "value" "[B") (.int 5)) (.int 118)) (by decide +kernel))
    · exact va_eqt (hs (.eq (.elem (Term.field (Term.string "RollingNets$Reader" 109) "java/lang/String" "value" "[B") (.int 6)) (.int 101)) (by decide +kernel))) hA
  have hc := va_eqt (t := .field (Term.string "RollingNets$Reader" 109) "java/lang/String" "coder" "B") (z := 0) (hs _ (by decide +kernel))
  exact ⟨t, v, ⟨⟨va_Oof hex ht hA, ls_OF ht hc hA⟩, ls_OF ht hv hA, hT⟩, vk_R.of (A := a) (hts _ (List.mem_of_getElem? (i := 782) (by decide +kernel))) ht⟩
theorem ls_t4 {s : State} {a : Array Value} (hts : ∀ w ∈ lw_tbl, w.before a s = true) (hgv : (Jvm.Cond.and given_1 narrow_1).before a s = true) {A : Nat → Prop} (hA : ∀ q : Nat, q < s.heap.size → ¬ A q) : ∃ t v : Nat, Tx 4 t v A s := by
  have hs := flat_of_before _ hgv
  have hex : (Cond.exactly (Term.string "RollingNets$Reader" 111) "java/lang/String").before a s = true := hs _ (by decide +kernel)
  obtain ⟨t, _, _, _, ht, _⟩ := Cond.exactly_spec (args := a) (first := s) (o := none) (s := s) (idx := []) (t := (Term.string "RollingNets$Reader" 111)) (cls := "java/lang/String") hex
  obtain ⟨v, hv, hT⟩ := va_Tof (tm := (Term.field (Term.string "RollingNets$Reader" 111) "java/lang/String" "value" "[B")) (ty := .byte) (N := 4) (f := fun j => .int ((sTx 4).getD j 0)) (A := A) (by omega) (hs (.arrayOf (Term.field (Term.string "RollingNets$Reader" 111) "java/lang/String" "value" "[B") .byte) (by decide +kernel)) (va_eqt (hs (.eq (.length (Term.field (Term.string "RollingNets$Reader" 111) "java/lang/String" "value" "[B")) (.int 4)) (by decide +kernel))) (fun j hj => by
    rcases (show j = 0 ∨ j = 1 ∨ j = 2 ∨ j = 3 by omega) with rfl | rfl | rfl | rfl
    · exact va_eqt (hs (.eq (.elem (Term.field (Term.string "RollingNets$Reader" 111) "java/lang/String" "value" "[B") (.int 0)) (.int 108)) (by decide +kernel))
    · exact va_eqt (hs (.eq (.elem (Term.field (Term.string "RollingNets$Reader" 111) "java/lang/String" "value" "[B") (.int 1)) (.int 101)) (by decide +kernel))
    · exact va_eqt (hs (.eq (.elem (Term.field (Term.string "RollingNets$Reader" 111) "java/lang/String" "value" "[B") (.int 2)) (.int 110)) (by decide +kernel))
    · exact va_eqt (hs (.eq (.elem (Term.field (Term.string "RollingNets$Reader" 111) "java/lang/String" "value" "[B") (.int 3)) (.int 100)) (by decide +kernel))) hA
  have hc := va_eqt (t := .field (Term.string "RollingNets$Reader" 111) "java/lang/String" "coder" "B") (z := 0) (hs _ (by decide +kernel))
  exact ⟨t, v, ⟨⟨va_Oof hex ht hA, ls_OF ht hc hA⟩, ls_OF ht hv hA, hT⟩, vk_R.of (A := a) (hts _ (List.mem_of_getElem? (i := 783) (by decide +kernel))) ht⟩
theorem ls_t5 {s : State} {a : Array Value} (hts : ∀ w ∈ lw_tbl, w.before a s = true) (hgv : (Jvm.Cond.and given_1 narrow_1).before a s = true) {A : Nat → Prop} (hA : ∀ q : Nat, q < s.heap.size → ¬ A q) : ∃ t v : Nat, Tx 5 t v A s := by
  have hs := flat_of_before _ hgv
  have hex : (Cond.exactly (Term.string "RollingNets$Reader" 113) "java/lang/String").before a s = true := hs _ (by decide +kernel)
  obtain ⟨t, _, _, _, ht, _⟩ := Cond.exactly_spec (args := a) (first := s) (o := none) (s := s) (idx := []) (t := (Term.string "RollingNets$Reader" 113)) (cls := "java/lang/String") hex
  obtain ⟨v, hv, hT⟩ := va_Tof (tm := (Term.field (Term.string "RollingNets$Reader" 113) "java/lang/String" "value" "[B")) (ty := .byte) (N := 4) (f := fun j => .int ((sTx 5).getD j 0)) (A := A) (by omega) (hs (.arrayOf (Term.field (Term.string "RollingNets$Reader" 113) "java/lang/String" "value" "[B") .byte) (by decide +kernel)) (va_eqt (hs (.eq (.length (Term.field (Term.string "RollingNets$Reader" 113) "java/lang/String" "value" "[B")) (.int 4)) (by decide +kernel))) (fun j hj => by
    rcases (show j = 0 ∨ j = 1 ∨ j = 2 ∨ j = 3 by omega) with rfl | rfl | rfl | rfl
    · exact va_eqt (hs (.eq (.elem (Term.field (Term.string "RollingNets$Reader" 113) "java/lang/String" "value" "[B") (.int 0)) (.int 114)) (by decide +kernel))
    · exact va_eqt (hs (.eq (.elem (Term.field (Term.string "RollingNets$Reader" 113) "java/lang/String" "value" "[B") (.int 1)) (.int 97)) (by decide +kernel))
    · exact va_eqt (hs (.eq (.elem (Term.field (Term.string "RollingNets$Reader" 113) "java/lang/String" "value" "[B") (.int 2)) (.int 110)) (by decide +kernel))
    · exact va_eqt (hs (.eq (.elem (Term.field (Term.string "RollingNets$Reader" 113) "java/lang/String" "value" "[B") (.int 3)) (.int 107)) (by decide +kernel))) hA
  have hc := va_eqt (t := .field (Term.string "RollingNets$Reader" 113) "java/lang/String" "coder" "B") (z := 0) (hs _ (by decide +kernel))
  exact ⟨t, v, ⟨⟨va_Oof hex ht hA, ls_OF ht hc hA⟩, ls_OF ht hv hA, hT⟩, vk_R.of (A := a) (hts _ (List.mem_of_getElem? (i := 784) (by decide +kernel))) ht⟩
theorem ls_t6 {s : State} {a : Array Value} (hts : ∀ w ∈ lw_tbl, w.before a s = true) (hgv : (Jvm.Cond.and given_1 narrow_1).before a s = true) {A : Nat → Prop} (hA : ∀ q : Nat, q < s.heap.size → ¬ A q) : ∃ t v : Nat, Tx 6 t v A s := by
  have hs := flat_of_before _ hgv
  have hex : (Cond.exactly (Term.string "RollingNets$Reader" 115) "java/lang/String").before a s = true := hs _ (by decide +kernel)
  obtain ⟨t, _, _, _, ht, _⟩ := Cond.exactly_spec (args := a) (first := s) (o := none) (s := s) (idx := []) (t := (Term.string "RollingNets$Reader" 115)) (cls := "java/lang/String") hex
  obtain ⟨v, hv, hT⟩ := va_Tof (tm := (Term.field (Term.string "RollingNets$Reader" 115) "java/lang/String" "value" "[B")) (ty := .byte) (N := 5) (f := fun j => .int ((sTx 6).getD j 0)) (A := A) (by omega) (hs (.arrayOf (Term.field (Term.string "RollingNets$Reader" 115) "java/lang/String" "value" "[B") .byte) (by decide +kernel)) (va_eqt (hs (.eq (.length (Term.field (Term.string "RollingNets$Reader" 115) "java/lang/String" "value" "[B")) (.int 5)) (by decide +kernel))) (fun j hj => by
    rcases (show j = 0 ∨ j = 1 ∨ j = 2 ∨ j = 3 ∨ j = 4 by omega) with rfl | rfl | rfl | rfl | rfl
    · exact va_eqt (hs (.eq (.elem (Term.field (Term.string "RollingNets$Reader" 115) "java/lang/String" "value" "[B") (.int 0)) (.int 112)) (by decide +kernel))
    · exact va_eqt (hs (.eq (.elem (Term.field (Term.string "RollingNets$Reader" 115) "java/lang/String" "value" "[B") (.int 1)) (.int 114)) (by decide +kernel))
    · exact va_eqt (hs (.eq (.elem (Term.field (Term.string "RollingNets$Reader" 115) "java/lang/String" "value" "[B") (.int 2)) (.int 105)) (by decide +kernel))
    · exact va_eqt (hs (.eq (.elem (Term.field (Term.string "RollingNets$Reader" 115) "java/lang/String" "value" "[B") (.int 3)) (.int 99)) (by decide +kernel))
    · exact va_eqt (hs (.eq (.elem (Term.field (Term.string "RollingNets$Reader" 115) "java/lang/String" "value" "[B") (.int 4)) (.int 101)) (by decide +kernel))) hA
  have hc := va_eqt (t := .field (Term.string "RollingNets$Reader" 115) "java/lang/String" "coder" "B") (z := 0) (hs _ (by decide +kernel))
  exact ⟨t, v, ⟨⟨va_Oof hex ht hA, ls_OF ht hc hA⟩, ls_OF ht hv hA, hT⟩, vk_R.of (A := a) (hts _ (List.mem_of_getElem? (i := 785) (by decide +kernel))) ht⟩
theorem ls_t7 {s : State} {a : Array Value} (hts : ∀ w ∈ lw_tbl, w.before a s = true) (hgv : (Jvm.Cond.and given_1 narrow_1).before a s = true) {A : Nat → Prop} (hA : ∀ q : Nat, q < s.heap.size → ¬ A q) : ∃ t v : Nat, Tx 7 t v A s := by
  have hs := flat_of_before _ hgv
  have hex : (Cond.exactly (Term.string "RollingNets$Reader" 117) "java/lang/String").before a s = true := hs _ (by decide +kernel)
  obtain ⟨t, _, _, _, ht, _⟩ := Cond.exactly_spec (args := a) (first := s) (o := none) (s := s) (idx := []) (t := (Term.string "RollingNets$Reader" 117)) (cls := "java/lang/String") hex
  obtain ⟨v, hv, hT⟩ := va_Tof (tm := (Term.field (Term.string "RollingNets$Reader" 117) "java/lang/String" "value" "[B")) (ty := .byte) (N := 4) (f := fun j => .int ((sTx 7).getD j 0)) (A := A) (by omega) (hs (.arrayOf (Term.field (Term.string "RollingNets$Reader" 117) "java/lang/String" "value" "[B") .byte) (by decide +kernel)) (va_eqt (hs (.eq (.length (Term.field (Term.string "RollingNets$Reader" 117) "java/lang/String" "value" "[B")) (.int 4)) (by decide +kernel))) (fun j hj => by
    rcases (show j = 0 ∨ j = 1 ∨ j = 2 ∨ j = 3 by omega) with rfl | rfl | rfl | rfl
    · exact va_eqt (hs (.eq (.elem (Term.field (Term.string "RollingNets$Reader" 117) "java/lang/String" "value" "[B") (.int 0)) (.int 103)) (by decide +kernel))
    · exact va_eqt (hs (.eq (.elem (Term.field (Term.string "RollingNets$Reader" 117) "java/lang/String" "value" "[B") (.int 1)) (.int 105)) (by decide +kernel))
    · exact va_eqt (hs (.eq (.elem (Term.field (Term.string "RollingNets$Reader" 117) "java/lang/String" "value" "[B") (.int 2)) (.int 118)) (by decide +kernel))
    · exact va_eqt (hs (.eq (.elem (Term.field (Term.string "RollingNets$Reader" 117) "java/lang/String" "value" "[B") (.int 3)) (.int 101)) (by decide +kernel))) hA
  have hc := va_eqt (t := .field (Term.string "RollingNets$Reader" 117) "java/lang/String" "coder" "B") (z := 0) (hs _ (by decide +kernel))
  exact ⟨t, v, ⟨⟨va_Oof hex ht hA, ls_OF ht hc hA⟩, ls_OF ht hv hA, hT⟩, vk_R.of (A := a) (hts _ (List.mem_of_getElem? (i := 786) (by decide +kernel))) ht⟩
theorem ls_t8 {s : State} {a : Array Value} (hts : ∀ w ∈ lw_tbl, w.before a s = true) (hgv : (Jvm.Cond.and given_1 narrow_1).before a s = true) {A : Nat → Prop} (hA : ∀ q : Nat, q < s.heap.size → ¬ A q) : ∃ t v : Nat, Tx 8 t v A s := by
  have hs := flat_of_before _ hgv
  have hex : (Cond.exactly (Term.string "RollingNets$Reader" 119) "java/lang/String").before a s = true := hs _ (by decide +kernel)
  obtain ⟨t, _, _, _, ht, _⟩ := Cond.exactly_spec (args := a) (first := s) (o := none) (s := s) (idx := []) (t := (Term.string "RollingNets$Reader" 119)) (cls := "java/lang/String") hex
  obtain ⟨v, hv, hT⟩ := va_Tof (tm := (Term.field (Term.string "RollingNets$Reader" 119) "java/lang/String" "value" "[B")) (ty := .byte) (N := 4) (f := fun j => .int ((sTx 8).getD j 0)) (A := A) (by omega) (hs (.arrayOf (Term.field (Term.string "RollingNets$Reader" 119) "java/lang/String" "value" "[B") .byte) (by decide +kernel)) (va_eqt (hs (.eq (.length (Term.field (Term.string "RollingNets$Reader" 119) "java/lang/String" "value" "[B")) (.int 4)) (by decide +kernel))) (fun j hj => by
    rcases (show j = 0 ∨ j = 1 ∨ j = 2 ∨ j = 3 by omega) with rfl | rfl | rfl | rfl
    · exact va_eqt (hs (.eq (.elem (Term.field (Term.string "RollingNets$Reader" 119) "java/lang/String" "value" "[B") (.int 0)) (.int 99)) (by decide +kernel))
    · exact va_eqt (hs (.eq (.elem (Term.field (Term.string "RollingNets$Reader" 119) "java/lang/String" "value" "[B") (.int 1)) (.int 97)) (by decide +kernel))
    · exact va_eqt (hs (.eq (.elem (Term.field (Term.string "RollingNets$Reader" 119) "java/lang/String" "value" "[B") (.int 2)) (.int 108)) (by decide +kernel))
    · exact va_eqt (hs (.eq (.elem (Term.field (Term.string "RollingNets$Reader" 119) "java/lang/String" "value" "[B") (.int 3)) (.int 108)) (by decide +kernel))) hA
  have hc := va_eqt (t := .field (Term.string "RollingNets$Reader" 119) "java/lang/String" "coder" "B") (z := 0) (hs _ (by decide +kernel))
  exact ⟨t, v, ⟨⟨va_Oof hex ht hA, ls_OF ht hc hA⟩, ls_OF ht hv hA, hT⟩, vk_R.of (A := a) (hts _ (List.mem_of_getElem? (i := 787) (by decide +kernel))) ht⟩
theorem ls_t9 {s : State} {a : Array Value} (hts : ∀ w ∈ lw_tbl, w.before a s = true) (hgv : (Jvm.Cond.and given_1 narrow_1).before a s = true) {A : Nat → Prop} (hA : ∀ q : Nat, q < s.heap.size → ¬ A q) : ∃ t v : Nat, Tx 9 t v A s := by
  have hs := flat_of_before _ hgv
  have hex : (Cond.exactly (Term.string "RollingNets$Reader" 121) "java/lang/String").before a s = true := hs _ (by decide +kernel)
  obtain ⟨t, _, _, _, ht, _⟩ := Cond.exactly_spec (args := a) (first := s) (o := none) (s := s) (idx := []) (t := (Term.string "RollingNets$Reader" 121)) (cls := "java/lang/String") hex
  obtain ⟨v, hv, hT⟩ := va_Tof (tm := (Term.field (Term.string "RollingNets$Reader" 121) "java/lang/String" "value" "[B")) (ty := .byte) (N := 5) (f := fun j => .int ((sTx 9).getD j 0)) (A := A) (by omega) (hs (.arrayOf (Term.field (Term.string "RollingNets$Reader" 121) "java/lang/String" "value" "[B") .byte) (by decide +kernel)) (va_eqt (hs (.eq (.length (Term.field (Term.string "RollingNets$Reader" 121) "java/lang/String" "value" "[B")) (.int 5)) (by decide +kernel))) (fun j hj => by
    rcases (show j = 0 ∨ j = 1 ∨ j = 2 ∨ j = 3 ∨ j = 4 by omega) with rfl | rfl | rfl | rfl | rfl
    · exact va_eqt (hs (.eq (.elem (Term.field (Term.string "RollingNets$Reader" 121) "java/lang/String" "value" "[B") (.int 0)) (.int 110)) (by decide +kernel))
    · exact va_eqt (hs (.eq (.elem (Term.field (Term.string "RollingNets$Reader" 121) "java/lang/String" "value" "[B") (.int 1)) (.int 105)) (by decide +kernel))
    · exact va_eqt (hs (.eq (.elem (Term.field (Term.string "RollingNets$Reader" 121) "java/lang/String" "value" "[B") (.int 2)) (.int 103)) (by decide +kernel))
    · exact va_eqt (hs (.eq (.elem (Term.field (Term.string "RollingNets$Reader" 121) "java/lang/String" "value" "[B") (.int 3)) (.int 104)) (by decide +kernel))
    · exact va_eqt (hs (.eq (.elem (Term.field (Term.string "RollingNets$Reader" 121) "java/lang/String" "value" "[B") (.int 4)) (.int 116)) (by decide +kernel))) hA
  have hc := va_eqt (t := .field (Term.string "RollingNets$Reader" 121) "java/lang/String" "coder" "B") (z := 0) (hs _ (by decide +kernel))
  exact ⟨t, v, ⟨⟨va_Oof hex ht hA, ls_OF ht hc hA⟩, ls_OF ht hv hA, hT⟩, vk_R.of (A := a) (hts _ (List.mem_of_getElem? (i := 788) (by decide +kernel))) ht⟩
theorem ls_t10 {s : State} {a : Array Value} (hts : ∀ w ∈ lw_tbl, w.before a s = true) (hgv : (Jvm.Cond.and given_1 narrow_1).before a s = true) {A : Nat → Prop} (hA : ∀ q : Nat, q < s.heap.size → ¬ A q) : ∃ t v : Nat, Tx 10 t v A s := by
  have hs := flat_of_before _ hgv
  have hex : (Cond.exactly (Term.string "RollingNets$Reader" 123) "java/lang/String").before a s = true := hs _ (by decide +kernel)
  obtain ⟨t, _, _, _, ht, _⟩ := Cond.exactly_spec (args := a) (first := s) (o := none) (s := s) (idx := []) (t := (Term.string "RollingNets$Reader" 123)) (cls := "java/lang/String") hex
  obtain ⟨v, hv, hT⟩ := va_Tof (tm := (Term.field (Term.string "RollingNets$Reader" 123) "java/lang/String" "value" "[B")) (ty := .byte) (N := 5) (f := fun j => .int ((sTx 10).getD j 0)) (A := A) (by omega) (hs (.arrayOf (Term.field (Term.string "RollingNets$Reader" 123) "java/lang/String" "value" "[B") .byte) (by decide +kernel)) (va_eqt (hs (.eq (.length (Term.field (Term.string "RollingNets$Reader" 123) "java/lang/String" "value" "[B")) (.int 5)) (by decide +kernel))) (fun j hj => by
    rcases (show j = 0 ∨ j = 1 ∨ j = 2 ∨ j = 3 ∨ j = 4 by omega) with rfl | rfl | rfl | rfl | rfl
    · exact va_eqt (hs (.eq (.elem (Term.field (Term.string "RollingNets$Reader" 123) "java/lang/String" "value" "[B") (.int 0)) (.int 77)) (by decide +kernel))
    · exact va_eqt (hs (.eq (.elem (Term.field (Term.string "RollingNets$Reader" 123) "java/lang/String" "value" "[B") (.int 1)) (.int 77)) (by decide +kernel))
    · exact va_eqt (hs (.eq (.elem (Term.field (Term.string "RollingNets$Reader" 123) "java/lang/String" "value" "[B") (.int 2)) (.int 73)) (by decide +kernel))
    · exact va_eqt (hs (.eq (.elem (Term.field (Term.string "RollingNets$Reader" 123) "java/lang/String" "value" "[B") (.int 3)) (.int 78)) (by decide +kernel))
    · exact va_eqt (hs (.eq (.elem (Term.field (Term.string "RollingNets$Reader" 123) "java/lang/String" "value" "[B") (.int 4)) (.int 80)) (by decide +kernel))) hA
  have hc := va_eqt (t := .field (Term.string "RollingNets$Reader" 123) "java/lang/String" "coder" "B") (z := 0) (hs _ (by decide +kernel))
  exact ⟨t, v, ⟨⟨va_Oof hex ht hA, ls_OF ht hc hA⟩, ls_OF ht hv hA, hT⟩, vk_R.of (A := a) (hts _ (List.mem_of_getElem? (i := 854) (by decide +kernel))) ht⟩
theorem ls_t11 {s : State} {a : Array Value} (hts : ∀ w ∈ lw_tbl, w.before a s = true) (hgv : (Jvm.Cond.and given_1 narrow_1).before a s = true) {A : Nat → Prop} (hA : ∀ q : Nat, q < s.heap.size → ¬ A q) : ∃ t v : Nat, Tx 11 t v A s := by
  have hs := flat_of_before _ hgv
  have hex : (Cond.exactly (Term.string "RollingNets$Reader" 125) "java/lang/String").before a s = true := hs _ (by decide +kernel)
  obtain ⟨t, _, _, _, ht, _⟩ := Cond.exactly_spec (args := a) (first := s) (o := none) (s := s) (idx := []) (t := (Term.string "RollingNets$Reader" 125)) (cls := "java/lang/String") hex
  obtain ⟨v, hv, hT⟩ := va_Tof (tm := (Term.field (Term.string "RollingNets$Reader" 125) "java/lang/String" "value" "[B")) (ty := .byte) (N := 3) (f := fun j => .int ((sTx 11).getD j 0)) (A := A) (by omega) (hs (.arrayOf (Term.field (Term.string "RollingNets$Reader" 125) "java/lang/String" "value" "[B") .byte) (by decide +kernel)) (va_eqt (hs (.eq (.length (Term.field (Term.string "RollingNets$Reader" 125) "java/lang/String" "value" "[B")) (.int 3)) (by decide +kernel))) (fun j hj => by
    rcases (show j = 0 ∨ j = 1 ∨ j = 2 by omega) with rfl | rfl | rfl
    · exact va_eqt (hs (.eq (.elem (Term.field (Term.string "RollingNets$Reader" 125) "java/lang/String" "value" "[B") (.int 0)) (.int 77)) (by decide +kernel))
    · exact va_eqt (hs (.eq (.elem (Term.field (Term.string "RollingNets$Reader" 125) "java/lang/String" "value" "[B") (.int 1)) (.int 73)) (by decide +kernel))
    · exact va_eqt (hs (.eq (.elem (Term.field (Term.string "RollingNets$Reader" 125) "java/lang/String" "value" "[B") (.int 2)) (.int 90)) (by decide +kernel))) hA
  have hc := va_eqt (t := .field (Term.string "RollingNets$Reader" 125) "java/lang/String" "coder" "B") (z := 0) (hs _ (by decide +kernel))
  exact ⟨t, v, ⟨⟨va_Oof hex ht hA, ls_OF ht hc hA⟩, ls_OF ht hv hA, hT⟩, vk_R.of (A := a) (hts _ (List.mem_of_getElem? (i := 855) (by decide +kernel))) ht⟩
theorem ls_t12 {s : State} {a : Array Value} (hts : ∀ w ∈ lw_tbl, w.before a s = true) (hgv : (Jvm.Cond.and given_1 narrow_1).before a s = true) {A : Nat → Prop} (hA : ∀ q : Nat, q < s.heap.size → ¬ A q) : ∃ t v : Nat, Tx 12 t v A s := by
  have hs := flat_of_before _ hgv
  have hex : (Cond.exactly (Term.string "RollingNets$Reader" 127) "java/lang/String").before a s = true := hs _ (by decide +kernel)
  obtain ⟨t, _, _, _, ht, _⟩ := Cond.exactly_spec (args := a) (first := s) (o := none) (s := s) (idx := []) (t := (Term.string "RollingNets$Reader" 127)) (cls := "java/lang/String") hex
  obtain ⟨v, hv, hT⟩ := va_Tof (tm := (Term.field (Term.string "RollingNets$Reader" 127) "java/lang/String" "value" "[B")) (ty := .byte) (N := 2) (f := fun j => .int ((sTx 12).getD j 0)) (A := A) (by omega) (hs (.arrayOf (Term.field (Term.string "RollingNets$Reader" 127) "java/lang/String" "value" "[B") .byte) (by decide +kernel)) (va_eqt (hs (.eq (.length (Term.field (Term.string "RollingNets$Reader" 127) "java/lang/String" "value" "[B")) (.int 2)) (by decide +kernel))) (fun j hj => by
    rcases (show j = 0 ∨ j = 1 by omega) with rfl | rfl
    · exact va_eqt (hs (.eq (.elem (Term.field (Term.string "RollingNets$Reader" 127) "java/lang/String" "value" "[B") (.int 0)) (.int 77)) (by decide +kernel))
    · exact va_eqt (hs (.eq (.elem (Term.field (Term.string "RollingNets$Reader" 127) "java/lang/String" "value" "[B") (.int 1)) (.int 82)) (by decide +kernel))) hA
  have hc := va_eqt (t := .field (Term.string "RollingNets$Reader" 127) "java/lang/String" "coder" "B") (z := 0) (hs _ (by decide +kernel))
  exact ⟨t, v, ⟨⟨va_Oof hex ht hA, ls_OF ht hc hA⟩, ls_OF ht hv hA, hT⟩, vk_R.of (A := a) (hts _ (List.mem_of_getElem? (i := 856) (by decide +kernel))) ht⟩
theorem ls_t13 {s : State} {a : Array Value} (hts : ∀ w ∈ lw_tbl, w.before a s = true) (hgv : (Jvm.Cond.and given_1 narrow_1).before a s = true) {A : Nat → Prop} (hA : ∀ q : Nat, q < s.heap.size → ¬ A q) : ∃ t v : Nat, Tx 13 t v A s := by
  have hs := flat_of_before _ hgv
  have hex : (Cond.exactly (Term.string "RollingNets$Reader" 129) "java/lang/String").before a s = true := hs _ (by decide +kernel)
  obtain ⟨t, _, _, _, ht, _⟩ := Cond.exactly_spec (args := a) (first := s) (o := none) (s := s) (idx := []) (t := (Term.string "RollingNets$Reader" 129)) (cls := "java/lang/String") hex
  obtain ⟨v, hv, hT⟩ := va_Tof (tm := (Term.field (Term.string "RollingNets$Reader" 129) "java/lang/String" "value" "[B")) (ty := .byte) (N := 2) (f := fun j => .int ((sTx 13).getD j 0)) (A := A) (by omega) (hs (.arrayOf (Term.field (Term.string "RollingNets$Reader" 129) "java/lang/String" "value" "[B") .byte) (by decide +kernel)) (va_eqt (hs (.eq (.length (Term.field (Term.string "RollingNets$Reader" 129) "java/lang/String" "value" "[B")) (.int 2)) (by decide +kernel))) (fun j hj => by
    rcases (show j = 0 ∨ j = 1 by omega) with rfl | rfl
    · exact va_eqt (hs (.eq (.elem (Term.field (Term.string "RollingNets$Reader" 129) "java/lang/String" "value" "[B") (.int 0)) (.int 73)) (by decide +kernel))
    · exact va_eqt (hs (.eq (.elem (Term.field (Term.string "RollingNets$Reader" 129) "java/lang/String" "value" "[B") (.int 1)) (.int 80)) (by decide +kernel))) hA
  have hc := va_eqt (t := .field (Term.string "RollingNets$Reader" 129) "java/lang/String" "coder" "B") (z := 0) (hs _ (by decide +kernel))
  exact ⟨t, v, ⟨⟨va_Oof hex ht hA, ls_OF ht hc hA⟩, ls_OF ht hv hA, hT⟩, vk_R.of (A := a) (hts _ (List.mem_of_getElem? (i := 857) (by decide +kernel))) ht⟩
theorem ls_t14 {s : State} {a : Array Value} (hts : ∀ w ∈ lw_tbl, w.before a s = true) (hgv : (Jvm.Cond.and given_1 narrow_1).before a s = true) {A : Nat → Prop} (hA : ∀ q : Nat, q < s.heap.size → ¬ A q) : ∃ t v : Nat, Tx 14 t v A s := by
  have hs := flat_of_before _ hgv
  have hex : (Cond.exactly (Term.string "RollingNets$Reader" 131) "java/lang/String").before a s = true := hs _ (by decide +kernel)
  obtain ⟨t, _, _, _, ht, _⟩ := Cond.exactly_spec (args := a) (first := s) (o := none) (s := s) (idx := []) (t := (Term.string "RollingNets$Reader" 131)) (cls := "java/lang/String") hex
  obtain ⟨v, hv, hT⟩ := va_Tof (tm := (Term.field (Term.string "RollingNets$Reader" 131) "java/lang/String" "value" "[B")) (ty := .byte) (N := 3) (f := fun j => .int ((sTx 14).getD j 0)) (A := A) (by omega) (hs (.arrayOf (Term.field (Term.string "RollingNets$Reader" 131) "java/lang/String" "value" "[B") .byte) (by decide +kernel)) (va_eqt (hs (.eq (.length (Term.field (Term.string "RollingNets$Reader" 131) "java/lang/String" "value" "[B")) (.int 3)) (by decide +kernel))) (fun j hj => by
    rcases (show j = 0 ∨ j = 1 ∨ j = 2 by omega) with rfl | rfl | rfl
    · exact va_eqt (hs (.eq (.elem (Term.field (Term.string "RollingNets$Reader" 131) "java/lang/String" "value" "[B") (.int 0)) (.int 77)) (by decide +kernel))
    · exact va_eqt (hs (.eq (.elem (Term.field (Term.string "RollingNets$Reader" 131) "java/lang/String" "value" "[B") (.int 1)) (.int 73)) (by decide +kernel))
    · exact va_eqt (hs (.eq (.elem (Term.field (Term.string "RollingNets$Reader" 131) "java/lang/String" "value" "[B") (.int 2)) (.int 78)) (by decide +kernel))) hA
  have hc := va_eqt (t := .field (Term.string "RollingNets$Reader" 131) "java/lang/String" "coder" "B") (z := 0) (hs _ (by decide +kernel))
  exact ⟨t, v, ⟨⟨va_Oof hex ht hA, ls_OF ht hc hA⟩, ls_OF ht hv hA, hT⟩, vk_R.of (A := a) (hts _ (List.mem_of_getElem? (i := 858) (by decide +kernel))) ht⟩
theorem ls_t15 {s : State} {a : Array Value} (hts : ∀ w ∈ lw_tbl, w.before a s = true) (hgv : (Jvm.Cond.and given_1 narrow_1).before a s = true) {A : Nat → Prop} (hA : ∀ q : Nat, q < s.heap.size → ¬ A q) : ∃ t v : Nat, Tx 15 t v A s := by
  have hs := flat_of_before _ hgv
  have hex : (Cond.exactly (Term.string "RollingNets$Reader" 133) "java/lang/String").before a s = true := hs _ (by decide +kernel)
  obtain ⟨t, _, _, _, ht, _⟩ := Cond.exactly_spec (args := a) (first := s) (o := none) (s := s) (idx := []) (t := (Term.string "RollingNets$Reader" 133)) (cls := "java/lang/String") hex
  obtain ⟨v, hv, hT⟩ := va_Tof (tm := (Term.field (Term.string "RollingNets$Reader" 133) "java/lang/String" "value" "[B")) (ty := .byte) (N := 1) (f := fun j => .int ((sTx 15).getD j 0)) (A := A) (by omega) (hs (.arrayOf (Term.field (Term.string "RollingNets$Reader" 133) "java/lang/String" "value" "[B") .byte) (by decide +kernel)) (va_eqt (hs (.eq (.length (Term.field (Term.string "RollingNets$Reader" 133) "java/lang/String" "value" "[B")) (.int 1)) (by decide +kernel))) (fun j hj => by
    rcases (show j = 0 by omega) with rfl
    · exact va_eqt (hs (.eq (.elem (Term.field (Term.string "RollingNets$Reader" 133) "java/lang/String" "value" "[B") (.int 0)) (.int 84)) (by decide +kernel))) hA
  have hc := va_eqt (t := .field (Term.string "RollingNets$Reader" 133) "java/lang/String" "coder" "B") (z := 0) (hs _ (by decide +kernel))
  exact ⟨t, v, ⟨⟨va_Oof hex ht hA, ls_OF ht hc hA⟩, ls_OF ht hv hA, hT⟩, vk_R.of (A := a) (hts _ (List.mem_of_getElem? (i := 859) (by decide +kernel))) ht⟩
theorem ls_t16 {s : State} {a : Array Value} (hts : ∀ w ∈ lw_tbl, w.before a s = true) (hgv : (Jvm.Cond.and given_1 narrow_1).before a s = true) {A : Nat → Prop} (hA : ∀ q : Nat, q < s.heap.size → ¬ A q) : ∃ t v : Nat, Tx 16 t v A s := by
  have hs := flat_of_before _ hgv
  have hex : (Cond.exactly (Term.string "RollingNets$Reader" 135) "java/lang/String").before a s = true := hs _ (by decide +kernel)
  obtain ⟨t, _, _, _, ht, _⟩ := Cond.exactly_spec (args := a) (first := s) (o := none) (s := s) (idx := []) (t := (Term.string "RollingNets$Reader" 135)) (cls := "java/lang/String") hex
  obtain ⟨v, hv, hT⟩ := va_Tof (tm := (Term.field (Term.string "RollingNets$Reader" 135) "java/lang/String" "value" "[B")) (ty := .byte) (N := 1) (f := fun j => .int ((sTx 16).getD j 0)) (A := A) (by omega) (hs (.arrayOf (Term.field (Term.string "RollingNets$Reader" 135) "java/lang/String" "value" "[B") .byte) (by decide +kernel)) (va_eqt (hs (.eq (.length (Term.field (Term.string "RollingNets$Reader" 135) "java/lang/String" "value" "[B")) (.int 1)) (by decide +kernel))) (fun j hj => by
    rcases (show j = 0 by omega) with rfl
    · exact va_eqt (hs (.eq (.elem (Term.field (Term.string "RollingNets$Reader" 135) "java/lang/String" "value" "[B") (.int 0)) (.int 75)) (by decide +kernel))) hA
  have hc := va_eqt (t := .field (Term.string "RollingNets$Reader" 135) "java/lang/String" "coder" "B") (z := 0) (hs _ (by decide +kernel))
  exact ⟨t, v, ⟨⟨va_Oof hex ht hA, ls_OF ht hc hA⟩, ls_OF ht hv hA, hT⟩, vk_R.of (A := a) (hts _ (List.mem_of_getElem? (i := 860) (by decide +kernel))) ht⟩
theorem ls_str {s : State} {a : Array Value} (hts : ∀ w ∈ lw_tbl, w.before a s = true) (hgv : (Jvm.Cond.and given_1 narrow_1).before a s = true) {A : Nat → Prop} (hA : ∀ q : Nat, q < s.heap.size → ¬ A q) : ∃ ts vs : Nat → Nat, ∀ i, i < 17 → Tx i (ts i) (vs i) A s := by
  obtain ⟨t0, v0, h0⟩ := ls_t0 hts hgv hA
  obtain ⟨t1, v1, h1⟩ := ls_t1 hts hgv hA
  obtain ⟨t2, v2, h2⟩ := ls_t2 hts hgv hA
  obtain ⟨t3, v3, h3⟩ := ls_t3 hts hgv hA
  obtain ⟨t4, v4, h4⟩ := ls_t4 hts hgv hA
  obtain ⟨t5, v5, h5⟩ := ls_t5 hts hgv hA
  obtain ⟨t6, v6, h6⟩ := ls_t6 hts hgv hA
  obtain ⟨t7, v7, h7⟩ := ls_t7 hts hgv hA
  obtain ⟨t8, v8, h8⟩ := ls_t8 hts hgv hA
  obtain ⟨t9, v9, h9⟩ := ls_t9 hts hgv hA
  obtain ⟨t10, v10, h10⟩ := ls_t10 hts hgv hA
  obtain ⟨t11, v11, h11⟩ := ls_t11 hts hgv hA
  obtain ⟨t12, v12, h12⟩ := ls_t12 hts hgv hA
  obtain ⟨t13, v13, h13⟩ := ls_t13 hts hgv hA
  obtain ⟨t14, v14, h14⟩ := ls_t14 hts hgv hA
  obtain ⟨t15, v15, h15⟩ := ls_t15 hts hgv hA
  obtain ⟨t16, v16, h16⟩ := ls_t16 hts hgv hA
  refine ⟨fun i => ([t0, t1, t2, t3, t4, t5, t6, t7, t8, t9, t10, t11, t12, t13, t14, t15, t16] : List Nat).getD i 0, fun i => ([v0, v1, v2, v3, v4, v5, v6, v7, v8, v9, v10, v11, v12, v13, v14, v15, v16] : List Nat).getD i 0, fun i hi => ?_⟩
  rcases (show i = 0 ∨ i = 1 ∨ i = 2 ∨ i = 3 ∨ i = 4 ∨ i = 5 ∨ i = 6 ∨ i = 7 ∨ i = 8 ∨ i = 9 ∨ i = 10 ∨ i = 11 ∨ i = 12 ∨ i = 13 ∨ i = 14 ∨ i = 15 ∨ i = 16 by omega) with rfl | rfl | rfl | rfl | rfl | rfl | rfl | rfl | rfl | rfl | rfl | rfl | rfl | rfl | rfl | rfl | rfl
  · exact h0
  · exact h1
  · exact h2
  · exact h3
  · exact h4
  · exact h5
  · exact h6
  · exact h7
  · exact h8
  · exact h9
  · exact h10
  · exact h11
  · exact h12
  · exact h13
  · exact h14
  · exact h15
  · exact h16
theorem ls_sx {s : State} {a : Array Value} (hts : ∀ w ∈ lw_tbl, w.before a s = true) (hgv : (Jvm.Cond.and given_1 narrow_1).before a s = true) (l : Launch) (D : va_G) (E : Nat → ClassId) : ∃ tt : Nat → Nat, ∀ g : GE, g = (l, D, E, s.heap.size, tt) → Sx g s s.heap ∧ Nst g s := by
  have hA : ∀ q : Nat, q < s.heap.size → ¬ (fun q : Nat => s.heap.size ≤ q) q := fun q hq h => absurd hq (Nat.not_lt.mpr h)
  have hs := flat_of_before _ hgv
  obtain ⟨t3, h3⟩ := ls_stat3 hts hgv hA
  obtain ⟨ts, vs, hx⟩ := ls_str hts hgv hA
  refine ⟨fun i => if i < 3 then t3 i else if i < 20 then ts (i - 3) else vs (i - 20), fun g hg => ?_⟩
  have e3 : ∀ i, i < 3 → gt g i = t3 i := fun i hi => by rw [hg]; exact if_pos hi
  have ets : ∀ i, i < 17 → gt g (3 + i) = ts i := fun i hi => by
    rw [hg]
    show (if 3 + i < 3 then t3 (3 + i) else if 3 + i < 20 then ts (3 + i - 3) else vs (3 + i - 20)) = ts i
    rw [if_neg (by omega), if_pos (by omega), Nat.add_sub_cancel_left]
  have evs : ∀ i, i < 17 → gt g (20 + i) = vs i := fun i hi => by
    rw [hg]
    show (if 20 + i < 3 then t3 (20 + i) else if 20 + i < 20 then ts (20 + i - 3) else vs (20 + i - 20)) = vs i
    rw [if_neg (by omega), if_neg (by omega), Nat.add_sub_cancel_left]
  have eA : gA g = fun q : Nat => s.heap.size ≤ q := by rw [hg]; rfl
  refine ⟨⟨fun i hi => ?_, ⟨?_, ?_⟩, fun i hi => ?_⟩, ls_nest hts, fun i hi => ?_⟩
  · unfold rt
    rw [e3 i hi, eA]
    exact h3 i hi
  · rw [eA]
    exact va_Zof (hts _ (List.mem_of_getElem? (i := 802) (by decide +kernel))) (hts _ (List.mem_of_getElem? (i := 123) (by decide +kernel))) (va_eqi (hs (.eq (.static "java/lang/String" "COMPACT_STRINGS" "Z") (.int 1)) (by decide +kernel))) hA
  · rw [eA]
    exact va_Zqof (hts _ (List.mem_of_getElem? (i := 818) (by decide +kernel))) (hts _ (List.mem_of_getElem? (i := 125) (by decide +kernel))) (hs (.isRef (.static "jdk/internal/util/Preconditions" "SIOOBE_FORMATTER" "Ljava/util/function/BiFunction;")) (by decide +kernel)) hA
  · rw [ets i hi, evs i hi, eA]
    exact (hx i hi).1
  · rw [ets i hi]
    exact (hx i hi).2
theorem rn0 {j : Nat} {lo hi : Int} (e : rN j = some (lo, hi)) : lo ≤ 0 ∧ 0 ≤ hi := by
  unfold rN at e
  by_cases h0 : j < 13
  · rw [if_pos h0] at e
    by_cases h1 : j = 0
    · rw [if_pos h1] at e
      cases e; exact ⟨by decide, by decide⟩
    rw [if_neg h1] at e
    by_cases h2 : j = 6
    · rw [if_pos h2] at e
      cases e; exact ⟨by decide, by decide⟩
    rw [if_neg h2] at e
    by_cases h3 : j = 7
    · rw [if_pos h3] at e
      cases e; exact ⟨by decide, by decide⟩
    rw [if_neg h3] at e
    by_cases h4 : j = 8
    · rw [if_pos h4] at e
      cases e; exact ⟨by decide, by decide⟩
    rw [if_neg h4] at e
    by_cases h5 : j = 9
    · rw [if_pos h5] at e
      cases e; exact ⟨by decide, by decide⟩
    rw [if_neg h5] at e
    by_cases h6 : j = 10
    · rw [if_pos h6] at e
      cases e; exact ⟨by decide, by decide⟩
    rw [if_neg h6] at e
    cases e
  rw [if_neg h0] at e
  by_cases h7 : j < 348
  · rw [if_pos h7] at e
    cases e
  rw [if_neg h7] at e
  by_cases h8 : j < 420
  · rw [if_pos h8] at e
    cases e; exact ⟨by decide, by decide⟩
  rw [if_neg h8] at e
  by_cases h9 : j < 7764
  · rw [if_pos h9] at e
    cases e; exact ⟨by decide, by decide⟩
  rw [if_neg h9] at e
  by_cases h10 : j < 15110
  · rw [if_pos h10] at e
    cases e
  rw [if_neg h10] at e
  by_cases h11 : j < 16710
  · rw [if_pos h11] at e
    by_cases h12 : (j - 15110) % 8 < 2
    · rw [if_pos h12] at e
      cases e; exact ⟨by decide, by decide⟩
    rw [if_neg h12] at e
    by_cases h13 : (j - 15110) % 8 = 2
    · rw [if_pos h13] at e
      cases e; exact ⟨by decide, by decide⟩
    rw [if_neg h13] at e
    cases e
  rw [if_neg h11] at e
  by_cases h14 : j < 17910
  · rw [if_pos h14] at e
    by_cases h15 : (j - 16710) % 20 = 0
    · rw [if_pos h15] at e
      cases e; exact ⟨by decide, by decide⟩
    rw [if_neg h15] at e
    by_cases h16 : (j - 16710) % 20 = 1
    · rw [if_pos h16] at e
      cases e; exact ⟨by decide, by decide⟩
    rw [if_neg h16] at e
    by_cases h17 : (j - 16710) % 20 = 5
    · rw [if_pos h17] at e
      cases e; exact ⟨by decide, by decide⟩
    rw [if_neg h17] at e
    cases e
  rw [if_neg h14] at e
  cases e
theorem ra0 {lo hi : Int} (h : lo ≤ 0 ∧ 0 ≤ hi) : Ra lo hi (nI 0) := ⟨h.1, h.2⟩
theorem i0_552 (j : Nat) : iv0 552 j = nI 0 := by
  unfold iv0
  rw [if_neg (by decide)]
  show (s1Y 0 1 j).getD 0 = nI 0
  unfold s1Y
  rw [if_neg (by decide), if_pos rfl]
  by_cases h : j = 6
  · rw [if_pos h]; rfl
  · rw [if_neg h]; rfl
theorem i0_564 (j : Nat) : iv0 564 j = nI 0 := by
  unfold iv0
  rw [if_neg (by decide)]
  rfl
theorem lots0 {n : Nat → Int32} (h : ∀ j, n j = nI 0) : Lots n := by
  have e0 : (nI 0).toInt = 0 := by decide
  intro c hc
  refine ⟨fun a b _ _ hb => ?_, fun a _ ha => ?_⟩
  · rw [h, e0] at hb; omega
  · rw [h, e0] at ha; omega
theorem hH0 {r j : Nat} {lo hi : Int} (e : rH r j = some (lo, hi)) : Ra lo hi ((s1H 0 r j).getD 0) := by
  by_cases r0 : r = 0
  · subst r0
    by_cases j11 : j = 11
    · subst j11; cases e; exact ⟨by decide +kernel, by decide +kernel⟩
    by_cases j15 : j = 15
    · subst j15; cases e; exact ⟨by decide +kernel, by decide +kernel⟩
    exfalso; revert e; unfold rH; simp [j11, j15]
  by_cases r1 : r = 1
  · subst r1
    by_cases j0 : j = 0
    · subst j0; cases e; exact ⟨by decide +kernel, by decide +kernel⟩
    exfalso; revert e; unfold rH; simp [j0]
  by_cases r7 : r = 7
  · subst r7
    by_cases j2 : j = 2
    · subst j2; cases e; exact ⟨by decide +kernel, by decide +kernel⟩
    exfalso; revert e; unfold rH; simp [j2]
  by_cases r9 : r = 9
  · subst r9
    cases e; exact ra0 (by decide)
  by_cases r10 : r = 10
  · subst r10
    cases e; exact ra0 (by decide)
  by_cases r17 : r = 17
  · subst r17
    by_cases j2 : j = 2
    · subst j2; cases e; exact ⟨by decide +kernel, by decide +kernel⟩
    exfalso; revert e; unfold rH; simp [j2]
  by_cases r19 : r = 19
  · subst r19
    cases e; exact ra0 (by decide)
  by_cases r38 : r = 38
  · subst r38
    by_cases j2 : j = 2
    · subst j2; cases e; exact ⟨by decide +kernel, by decide +kernel⟩
    exfalso; revert e; unfold rH; simp [j2]
  by_cases r46 : r = 46
  · subst r46
    by_cases j2 : j = 2
    · subst j2; cases e; exact ⟨by decide +kernel, by decide +kernel⟩
    exfalso; revert e; unfold rH; simp [j2]
  by_cases r54 : r = 54
  · subst r54
    by_cases j2 : j = 2
    · subst j2; cases e; exact ⟨by decide +kernel, by decide +kernel⟩
    exfalso; revert e; unfold rH; simp [j2]
  by_cases r55 : r = 55
  · subst r55
    cases e; exact ra0 (by decide)
  by_cases r56 : r = 56
  · subst r56
    cases e; exact ra0 (by decide)
  by_cases r57 : r = 57
  · subst r57
    cases e; exact ra0 (by decide)
  by_cases r60 : r < 60
  · exfalso; revert e; unfold rH; simp [r0, r1, r7, r9, r10, r17, r19, r38, r46, r54, r55, r56, r57, r60]
  · unfold rH at e
    rw [if_neg r0, if_neg r1, if_neg r7, if_neg r9, if_neg r10, if_neg r17, if_neg r19, if_neg r38, if_neg r46, if_neg r54, if_neg r55, if_neg r56, if_neg r57, if_neg r60] at e
    unfold s1H
    rw [if_neg r0, if_neg r1, if_neg (by omega), if_neg (by omega), if_neg (by omega), if_neg r7, if_neg r17, if_neg r38, if_neg r46, if_neg r54, if_neg r60]
    unfold rM at e
    by_cases q0 : (r - 60) % 20 = 0
    · rw [if_pos q0] at e
      by_cases j10 : j = 10
      · subst j10
        rw [q0]
        cases e
        exact ⟨by decide +kernel, by decide +kernel⟩
      · rw [if_neg j10] at e; cases e
    · rw [if_neg q0] at e; cases e
theorem si0r {k j : Nat} {lo hi : Int} (e : rgI k j = some (lo, hi)) : Ra lo hi (iv0 k j) := by
  by_cases k562 : k = 562
  · subst k562
    have e2 : rgI 562 j = if j = 56 then some (32, 32) else none := (rg_Y (q := 11)).trans (by unfold rY; rw [if_neg (by decide), if_neg (by decide), if_neg (by decide), if_neg (by decide), if_neg (by decide), if_pos rfl])
    rw [e2] at e
    by_cases j56 : j = 56
    · subst j56; cases e; exact ⟨by decide +kernel, by decide +kernel⟩
    · rw [if_neg j56] at e; cases e
  · unfold iv0
    rw [if_neg k562]
    show Ra lo hi ((s1I (fun _ => 0) 0 k j).getD 0)
    unfold rgI at e
    unfold s1I
    by_cases k0 : k = 0
    · rw [if_pos k0] at e; cases e
    · rw [if_neg k0] at e ⊢
      by_cases k1 : k < 541
      · rw [if_pos k1] at e ⊢
        exact hH0 e
      · rw [if_neg k1] at e ⊢
        by_cases k2 : k = 541
        · rw [if_pos k2] at e ⊢
          by_cases j1 : j = 1
          · subst j1; cases e; exact ⟨by decide +kernel, by decide +kernel⟩
          · by_cases j3 : j = 3
            · subst j3; cases e; exact ⟨by decide +kernel, by decide +kernel⟩
            · rw [if_neg j1, if_neg j3] at e; cases e
        · rw [if_neg k2] at e ⊢
          by_cases k3 : k = 543
          · rw [if_pos k3] at e ⊢
            by_cases j2 : j = 2
            · subst j2; cases e; exact ⟨by decide +kernel, by decide +kernel⟩
            · rw [if_neg j2] at e; cases e
          · rw [if_neg k3] at e ⊢
            by_cases k4 : k < 551
            · rw [if_pos k4] at e; cases e
            · rw [if_neg k4] at e ⊢
              obtain ⟨q, hq⟩ : ∃ q, k - 551 = q := ⟨_, rfl⟩
              rw [hq] at e ⊢
              have q11 : q ≠ 11 := by omega
              clear hq k4 k3 k2 k1 k0 k562
              by_cases q0 : q = 0
              · subst q0
                unfold rY at e; rw [if_pos rfl] at e
                by_cases j5 : j = 5
                · subst j5; cases e; exact ⟨by decide +kernel, by decide +kernel⟩
                by_cases j6 : j = 6
                · subst j6; cases e; exact ⟨by decide +kernel, by decide +kernel⟩
                by_cases j7 : j = 7
                · subst j7; cases e; exact ⟨by decide +kernel, by decide +kernel⟩
                by_cases j9 : j = 9
                · subst j9; cases e; exact ⟨by decide +kernel, by decide +kernel⟩
                by_cases j10 : j = 10
                · subst j10; cases e; exact ⟨by decide +kernel, by decide +kernel⟩
                by_cases j17 : j = 17
                · subst j17; cases e; exact ⟨by decide +kernel, by decide +kernel⟩
                by_cases j18 : j = 18
                · subst j18; cases e; exact ⟨by decide +kernel, by decide +kernel⟩
                by_cases j19 : j = 19
                · subst j19; cases e; exact ⟨by decide +kernel, by decide +kernel⟩
                by_cases j27 : j = 27
                · subst j27; cases e; exact ⟨by decide +kernel, by decide +kernel⟩
                exfalso; revert e; simp [j5, j6, j7, j9, j10, j17, j18, j19, j27]
              · by_cases q1 : q = 1
                · subst q1
                  have e2 : rY 1 j = rN j := by unfold rY; rw [if_neg (by decide), if_pos rfl]
                  rw [e2] at e
                  have e3 : (s1Y 0 1 j).getD 0 = nI 0 := by
                    unfold s1Y
                    rw [if_neg (by decide), if_pos rfl]
                    by_cases h : j = 6
                    · rw [if_pos h]; rfl
                    · rw [if_neg h]; rfl
                  rw [e3]
                  exact ra0 (rn0 e)
                · have e3 : (s1Y 0 q j).getD 0 = nI 0 := by
                    unfold s1Y
                    rw [if_neg q0, if_neg q1]; rfl
                  rw [e3]
                  unfold rY at e
                  rw [if_neg q0, if_neg q1] at e
                  refine ra0 ?_
                  repeat' (first | (cases e; done) | (cases e; exact ⟨by decide, by decide⟩) | exact rn0 e | (exfalso; omega) | (split at e))
theorem si0 : SI s0 z0 iv0 := ⟨fun _ _ h => (by cases h), fun _ _ h => (by cases h), fun _ _ _ _ e => si0r e, lots0 i0_552, lots0 i0_564⟩
theorem k_astoren {g : GE} {own : String} {cc : ByteArray} {nL : Nat} {R : Room} {ini : Bool} {Q : Nat → Nat → Nat → CM → Prop} {Z : ZK} {pc : Nat} {L : LO} {st : List Value} {kc ks n : Nat} {M : CM} (h : Rk g own cc nL R ini Q Z) {i : Fin 4} {x : Nat} {L' : LO} (hd : decode cc pc = .ok (.astore_n i, 1)) (hn : ((i : Nat) < nL)) (hs : st1 L i (rf g x) = L') (k : Z (pc + 1) L' st kc ks n M) : Z pc L (rf g x :: st) kc ks n M := by
  obtain ⟨p, e, s, m, args, below, meth, c, QS, hx, hb, hml, hown, hts, hK, hAX, hin, hB, hfin, hZ⟩ := h
  rw [hZ]
  rw [hZ] at k
  intro H ls locs hM hS hL
  subst hs
  exact lv_astore_n hx hb hd rfl (lvL_has hL) hn rfl (fun ls' h' => k H ls' locs hM hS (lvL_st1 (ls := ls) h'))
theorem mk_law_9 : ML R_law 9 yX8_init cX8_init 1 none 0 := ⟨Or.inl (TBL_mem 129 (by decide +kernel) (by decide +kernel)), (TBL_mem 111 (by decide +kernel) (by decide +kernel)), (TBL_mem 131 (by decide +kernel) (by decide +kernel)), by decide +kernel⟩
theorem mk_law_12 : ML R_law 12 yX9_init cX9_init 1 none 0 := ⟨Or.inl (TBL_mem 1057 (by decide +kernel) (by decide +kernel)), (TBL_mem 118 (by decide +kernel) (by decide +kernel)), (TBL_mem 1059 (by decide +kernel) (by decide +kernel)), by decide +kernel⟩
theorem Fm_0 {g : GE} {e : va_E} : Fm g 0 (upC (fr g) 0 e) = fr g := by
  funext q
  exact Fm_ge (Nat.zero_le q)
theorem Fm_551 {g : GE} {e : va_E} : Fm g 551 (upC (fr g) 551 e) = fr g := by
  funext q
  unfold Fm
  by_cases h : q < 551
  · rw [if_pos h, upC_n (by omega)]
  · rw [if_neg h]
theorem ls_mem {g : GE} {H : Heap} (h : Mc g 566 (fr g) H) : Mo g iv0 lv0 H := h.2
/-- the two objects are made -/
theorem ls_make {g : GE} {b : Nat} {Q : Nat → Nat → Nat → CM → Prop} {Z : ZK} (kh : Rk g R_law code 4 room_1 false Q Z) (k : Z 16 [some (.ref b), some (rf g 0), some (rf g 551), none] [] 566 109637 566 (fr g)) : Z 0 [some (.ref b), none, none, none] [] 0 0 0 (fr g) := by
  refine k_new kh ckc_0 dL_law_0 (TBL_mem 127 (by decide +kernel) (by decide +kernel)) (TBL_mem 128 (by decide +kernel) (by decide +kernel)) (TBL_mem 111 (by decide +kernel) (by decide +kernel)) df_0 (Nat.le_of_ble_eq_true rfl) (Nat.le_of_ble_eq_true rfl) ?_
  refine k_at (n' := 1) (kc' := 1) (ks' := 5) rfl rfl rfl ?_
  refine k_dup kh dL_law_3 rfl ?_
  refine k_call (As := []) kh rfl mk_law_9 (TBL_mem 130 (by decide +kernel) (by decide +kernel)) dL_law_4 (kx_Nets (M0 := upC (fr g) 0 (.inr (0, [.null, .null, .null, .null, .int 0]))) upC_s) ⟨(Nat.le_of_ble_eq_true rfl), (Nat.le_of_ble_eq_true rfl)⟩ rfl rfl (Nat.le_of_ble_eq_true rfl) ⟨(Nat.le_of_ble_eq_true rfl), (Nat.le_of_ble_eq_true rfl)⟩ ?_
  rintro _ _ ⟨rfl, rfl⟩
  refine k_eqM (M' := fr g) Fm_0 ?_
  refine k_at (n' := 551) (kc' := 551) (ks' := 45633) rfl rfl rfl ?_
  refine k_astoren kh dL_law_7 (by decide) (L' := [some (.ref b), some (rf g 0), none, none]) rfl ?_
  refine k_new kh ckc_6 dL_law_8 (TBL_mem 1055 (by decide +kernel) (by decide +kernel)) (TBL_mem 1056 (by decide +kernel) (by decide +kernel)) (TBL_mem 118 (by decide +kernel) (by decide +kernel)) df_6 (Nat.le_of_ble_eq_true rfl) (Nat.le_of_ble_eq_true rfl) ?_
  refine k_at (n' := 552) (kc' := 552) (ks' := 45665) rfl rfl rfl ?_
  refine k_dup kh dL_law_11 rfl ?_
  refine k_call (As := []) kh rfl mk_law_12 (TBL_mem 1058 (by decide +kernel) (by decide +kernel)) dL_law_12 (kx_Model (M0 := upC (fr g) 551 (.inr (6, [.int 0, .null, .null, .null, .null, .int 0, .int 0, .int 0, .null, .int 0, .int 0, .null, .null, .null, .int 0, .null, .null, .int 0, .int 0, .int 0, .int 0, .int 0, .null, .int 0, .int 0, .int 0, .int 0, .int 0, .null, .int 0, .null, .null]))) upC_s) ⟨(Nat.le_of_ble_eq_true rfl), (Nat.le_of_ble_eq_true rfl)⟩ rfl rfl (Nat.le_of_ble_eq_true rfl) ⟨(Nat.le_of_ble_eq_true rfl), (Nat.le_of_ble_eq_true rfl)⟩ ?_
  rintro _ _ ⟨rfl, rfl⟩
  refine k_eqM (M' := fr g) Fm_551 ?_
  refine k_at (n' := 566) (kc' := 566) (ks' := 109637) rfl rfl rfl ?_
  refine k_astoren kh dL_law_15 (by decide) (L' := [some (.ref b), some (rf g 0), some (rf g 551), none]) rfl ?_
  exact k
