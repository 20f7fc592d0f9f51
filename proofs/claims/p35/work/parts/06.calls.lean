def ConI (g : GE) (y : MethodName) (b : ByteArray) (n : Nat) (ret : Option FieldType) (d : Nat) (as : List Value) (iv : Iv) (lv : Lv) (Q : Int32 → Iv → Lv → Prop) : Prop := Con g y b n ret d as iv lv (fun v iv' lv' => ∃ r, v = some (.int r) ∧ Q r iv' lv')
def ConIp (g : GE) (y : MethodName) (b : ByteArray) (n : Nat) (ret : Option FieldType) (d : Nat) (as : List Value) (iv : Iv) (lv : Lv) (e : Int32) : Prop := ConI g y b n ret d as iv lv (fun r iv' lv' => r = e ∧ iv' = iv ∧ lv' = lv)
def ConL (g : GE) (y : MethodName) (b : ByteArray) (n : Nat) (ret : Option FieldType) (d : Nat) (as : List Value) (iv : Iv) (lv : Lv) (Q : Int64 → Iv → Lv → Prop) : Prop := Con g y b n ret d as iv lv (fun v iv' lv' => ∃ r, v = some (.long r) ∧ Q r iv' lv')
def ConLp (g : GE) (y : MethodName) (b : ByteArray) (n : Nat) (ret : Option FieldType) (d : Nat) (as : List Value) (iv : Iv) (lv : Lv) (e : Int64) : Prop := ConL g y b n ret d as iv lv (fun r iv' lv' => r = e ∧ iv' = iv ∧ lv' = lv)
def ConV (g : GE) (y : MethodName) (b : ByteArray) (n : Nat) (ret : Option FieldType) (d : Nat) (as : List Value) (iv : Iv) (lv : Lv) (Q : Iv → Lv → Prop) : Prop := Con g y b n ret d as iv lv (fun v iv' lv' => v = none ∧ Q iv' lv')
section ZP
variable {g : GE} {own : String} {cc : ByteArray} {nL : Nat} {ret : Option FieldType} {R : Room} {scr : Option (Nat × Nat × (Nat → Int32))} {Q : Option Value → Iv → Lv → Prop} {Z : ZT} {pc : Nat} {L : LO} {st : List Value} {iv : Iv} {lv : Lv}
theorem z_callVI (h : Rw g own cc nL ret R scr Q Z) {idx ci na n d k : Nat} {y : MethodName} {b : ByteArray} {rt : Option FieldType} {As stk : List Value} {F : FF} {fs : List Value} {Qf : Int32 → Iv → Lv → Prop} (hV : MV own idx y b n rt na ci) (hd : decode cc pc = .ok (.invokevirtual idx, 3)) (hC : Cl g k F) (hfs : F (iv k) (lv k) = .inr (ci, fs)) (hc : ConI g y b n rt d (rf g k :: As) iv lv Qf) (hR : d + 1 ≤ R.frames ∧ 8 + (n + 11) + 40 * d ≤ R.locals) (hn : As.length = na) (hstk : stk = As.reverse ++ rf g k :: st) (hw : (st.map fun v => v.category).sum ≤ 8) (kk : ∀ r iv' lv', Qf r iv' lv' → Z (pc + 3) L (.int r :: st) iv' lv') : Z pc L stk iv lv := z_callV h hV hd hC hfs hc hR hn hstk hw (by rintro _ iv' lv' ⟨r, rfl, hq⟩; exact kk r iv' lv' hq)
theorem z_callVIp (h : Rw g own cc nL ret R scr Q Z) {idx ci na n d k : Nat} {y : MethodName} {b : ByteArray} {rt : Option FieldType} {As stk : List Value} {F : FF} {fs : List Value} {x : Int32} (hV : MV own idx y b n rt na ci) (hd : decode cc pc = .ok (.invokevirtual idx, 3)) (hC : Cl g k F) (hfs : F (iv k) (lv k) = .inr (ci, fs)) (hc : ConIp g y b n rt d (rf g k :: As) iv lv x) (hR : d + 1 ≤ R.frames ∧ 8 + (n + 11) + 40 * d ≤ R.locals) (hn : As.length = na) (hstk : stk = As.reverse ++ rf g k :: st) (hw : (st.map fun v => v.category).sum ≤ 8) (kk : Z (pc + 3) L (.int x :: st) iv lv) : Z pc L stk iv lv := z_callV h hV hd hC hfs hc hR hn hstk hw (by rintro _ iv' lv' ⟨r, rfl, rfl, e1, e2⟩; rw [e1, e2]; exact kk)
theorem z_callVL (h : Rw g own cc nL ret R scr Q Z) {idx ci na n d k : Nat} {y : MethodName} {b : ByteArray} {rt : Option FieldType} {As stk : List Value} {F : FF} {fs : List Value} {Qf : Int64 → Iv → Lv → Prop} (hV : MV own idx y b n rt na ci) (hd : decode cc pc = .ok (.invokevirtual idx, 3)) (hC : Cl g k F) (hfs : F (iv k) (lv k) = .inr (ci, fs)) (hc : ConL g y b n rt d (rf g k :: As) iv lv Qf) (hR : d + 1 ≤ R.frames ∧ 8 + (n + 11) + 40 * d ≤ R.locals) (hn : As.length = na) (hstk : stk = As.reverse ++ rf g k :: st) (hw : (st.map fun v => v.category).sum ≤ 8) (kk : ∀ r iv' lv', Qf r iv' lv' → Z (pc + 3) L (.long r :: st) iv' lv') : Z pc L stk iv lv := z_callV h hV hd hC hfs hc hR hn hstk hw (by rintro _ iv' lv' ⟨r, rfl, hq⟩; exact kk r iv' lv' hq)
theorem z_callVLp (h : Rw g own cc nL ret R scr Q Z) {idx ci na n d k : Nat} {y : MethodName} {b : ByteArray} {rt : Option FieldType} {As stk : List Value} {F : FF} {fs : List Value} {x : Int64} (hV : MV own idx y b n rt na ci) (hd : decode cc pc = .ok (.invokevirtual idx, 3)) (hC : Cl g k F) (hfs : F (iv k) (lv k) = .inr (ci, fs)) (hc : ConLp g y b n rt d (rf g k :: As) iv lv x) (hR : d + 1 ≤ R.frames ∧ 8 + (n + 11) + 40 * d ≤ R.locals) (hn : As.length = na) (hstk : stk = As.reverse ++ rf g k :: st) (hw : (st.map fun v => v.category).sum ≤ 8) (kk : Z (pc + 3) L (.long x :: st) iv lv) : Z pc L stk iv lv := z_callV h hV hd hC hfs hc hR hn hstk hw (by rintro _ iv' lv' ⟨r, rfl, rfl, e1, e2⟩; rw [e1, e2]; exact kk)
theorem z_callVV (h : Rw g own cc nL ret R scr Q Z) {idx ci na n d k : Nat} {y : MethodName} {b : ByteArray} {rt : Option FieldType} {As stk : List Value} {F : FF} {fs : List Value} {Qf : Iv → Lv → Prop} (hV : MV own idx y b n rt na ci) (hd : decode cc pc = .ok (.invokevirtual idx, 3)) (hC : Cl g k F) (hfs : F (iv k) (lv k) = .inr (ci, fs)) (hc : ConV g y b n rt d (rf g k :: As) iv lv Qf) (hR : d + 1 ≤ R.frames ∧ 8 + (n + 11) + 40 * d ≤ R.locals) (hn : As.length = na) (hstk : stk = As.reverse ++ rf g k :: st) (hw : (st.map fun v => v.category).sum ≤ 8) (kk : ∀ iv' lv', Qf iv' lv' → Z (pc + 3) L st iv' lv') : Z pc L stk iv lv := z_callV h hV hd hC hfs hc hR hn hstk hw (by rintro _ iv' lv' ⟨rfl, hq⟩; exact kk iv' lv' hq)
theorem z_callSI (h : Rw g own cc nL ret R scr Q Z) {idx na n d : Nat} {y : MethodName} {b : ByteArray} {rt : Option FieldType} {As stk : List Value} {Qf : Int32 → Iv → Lv → Prop} (hV : MS own idx y b n rt na) (hd : decode cc pc = .ok (.invokestatic idx, 3)) (hc : ConI g y b n rt d As iv lv Qf) (hR : d + 1 ≤ R.frames ∧ 8 + (n + 11) + 40 * d ≤ R.locals) (hn : As.length = na) (hstk : stk = As.reverse ++ st) (hw : (st.map fun v => v.category).sum ≤ 8) (kk : ∀ r iv' lv', Qf r iv' lv' → Z (pc + 3) L (.int r :: st) iv' lv') : Z pc L stk iv lv := z_callS h hV hd hc hR hn hstk hw (by rintro _ iv' lv' ⟨r, rfl, hq⟩; exact kk r iv' lv' hq)
theorem z_callSIp (h : Rw g own cc nL ret R scr Q Z) {idx na n d : Nat} {y : MethodName} {b : ByteArray} {rt : Option FieldType} {As stk : List Value} {x : Int32} (hV : MS own idx y b n rt na) (hd : decode cc pc = .ok (.invokestatic idx, 3)) (hc : ConIp g y b n rt d As iv lv x) (hR : d + 1 ≤ R.frames ∧ 8 + (n + 11) + 40 * d ≤ R.locals) (hn : As.length = na) (hstk : stk = As.reverse ++ st) (hw : (st.map fun v => v.category).sum ≤ 8) (kk : Z (pc + 3) L (.int x :: st) iv lv) : Z pc L stk iv lv := z_callS h hV hd hc hR hn hstk hw (by rintro _ iv' lv' ⟨r, rfl, rfl, e1, e2⟩; rw [e1, e2]; exact kk)
theorem z_callSL (h : Rw g own cc nL ret R scr Q Z) {idx na n d : Nat} {y : MethodName} {b : ByteArray} {rt : Option FieldType} {As stk : List Value} {Qf : Int64 → Iv → Lv → Prop} (hV : MS own idx y b n rt na) (hd : decode cc pc = .ok (.invokestatic idx, 3)) (hc : ConL g y b n rt d As iv lv Qf) (hR : d + 1 ≤ R.frames ∧ 8 + (n + 11) + 40 * d ≤ R.locals) (hn : As.length = na) (hstk : stk = As.reverse ++ st) (hw : (st.map fun v => v.category).sum ≤ 8) (kk : ∀ r iv' lv', Qf r iv' lv' → Z (pc + 3) L (.long r :: st) iv' lv') : Z pc L stk iv lv := z_callS h hV hd hc hR hn hstk hw (by rintro _ iv' lv' ⟨r, rfl, hq⟩; exact kk r iv' lv' hq)
theorem z_callSLp (h : Rw g own cc nL ret R scr Q Z) {idx na n d : Nat} {y : MethodName} {b : ByteArray} {rt : Option FieldType} {As stk : List Value} {x : Int64} (hV : MS own idx y b n rt na) (hd : decode cc pc = .ok (.invokestatic idx, 3)) (hc : ConLp g y b n rt d As iv lv x) (hR : d + 1 ≤ R.frames ∧ 8 + (n + 11) + 40 * d ≤ R.locals) (hn : As.length = na) (hstk : stk = As.reverse ++ st) (hw : (st.map fun v => v.category).sum ≤ 8) (kk : Z (pc + 3) L (.long x :: st) iv lv) : Z pc L stk iv lv := z_callS h hV hd hc hR hn hstk hw (by rintro _ iv' lv' ⟨r, rfl, rfl, e1, e2⟩; rw [e1, e2]; exact kk)
theorem z_callSV (h : Rw g own cc nL ret R scr Q Z) {idx na n d : Nat} {y : MethodName} {b : ByteArray} {rt : Option FieldType} {As stk : List Value} {Qf : Iv → Lv → Prop} (hV : MS own idx y b n rt na) (hd : decode cc pc = .ok (.invokestatic idx, 3)) (hc : ConV g y b n rt d As iv lv Qf) (hR : d + 1 ≤ R.frames ∧ 8 + (n + 11) + 40 * d ≤ R.locals) (hn : As.length = na) (hstk : stk = As.reverse ++ st) (hw : (st.map fun v => v.category).sum ≤ 8) (kk : ∀ iv' lv', Qf iv' lv' → Z (pc + 3) L st iv' lv') : Z pc L stk iv lv := z_callS h hV hd hc hR hn hstk hw (by rintro _ iv' lv' ⟨rfl, hq⟩; exact kk iv' lv' hq)
end ZP
theorem qI {r e : Int32} {iv : Iv} {lv : Lv} (h : r = e) : ∃ r', some (Value.int r) = some (.int r') ∧ r' = e ∧ iv = iv ∧ lv = lv := ⟨r, rfl, h, rfl, rfl⟩
theorem qL {r e : Int64} {iv : Iv} {lv : Lv} (h : r = e) : ∃ r', some (Value.long r) = some (.long r') ∧ r' = e ∧ iv = iv ∧ lv = lv := ⟨r, rfl, h, rfl, rfl⟩
def lfg : List Bool → LO → LO
  | [], _ => []
  | _, [] => []
  | true :: m, a :: L => a :: lfg m L
  | false :: m, _ :: L => none :: lfg m L
theorem lfg_at : ∀ (m : List Bool) (L : LO) (i : Nat) (v : Value), (lfg m L)[i]? = some (some v) → L[i]? = some (some v)
  | [], L, i, v, h => by simp [lfg] at h
  | b :: m, [], i, v, h => by cases b <;> simp [lfg] at h
  | true :: m, a :: L, 0, v, h => by simpa [lfg] using h
  | false :: m, a :: L, 0, v, h => by simp [lfg] at h
  | true :: m, a :: L, i + 1, v, h => by
    have h' : (lfg m L)[i]? = some (some v) := by simpa [lfg] using h
    simpa using lfg_at m L i v h'
  | false :: m, a :: L, i + 1, v, h => by
    have h' : (lfg m L)[i]? = some (some v) := by simpa [lfg] using h
    simpa using lfg_at m L i v h'
section ZF
variable {g : GE} {own : String} {cc : ByteArray} {nL : Nat} {ret : Option FieldType} {R : Room} {scr : Option (Nat × Nat × (Nat → Int32))} {Q : Option Value → Iv → Lv → Prop} {Z : ZT} {pc : Nat} {L : LO} {st : List Value} {iv : Iv} {lv : Lv}
theorem z_forget (h : Rw g own cc nL ret R scr Q Z) (m : List Bool) {L2 : LO} (hm : lfg m L = L2) (k : Z pc L2 st iv lv) : Z pc L st iv lv := by
  obtain ⟨p, e, s, mm, args, below, meth, c, cells, slots, A, H0, QS, hx, hb, hml, hown, hts, hK, hf, hscr, hfin, hZ⟩ := h
  rw [hZ] at k ⊢
  intro H ls locs hM hS hL
  exact k H ls locs hM hS ⟨hL.1, hL.2.1, fun i v hi => hL.2.2 i v (by rw [← hm] at hi; exact lfg_at m L i v hi)⟩
theorem z_mmaxE (h : Rw g own cc nL ret R scr Q Z) {idx : Nat} {x y r : Int32} (hA : MA own idx Lib.Math.max.name) (hc9 : Cond.code Lib.Math.max.name Lib.Math.max.code 2 (some .int) ∈ TBL) (hd : decode cc pc = .ok (.invokestatic idx, 3)) (hR : 1 ≤ R.frames ∧ (st.map fun v => v.category).sum + 13 ≤ R.locals) (he : (if x < y then y else x) = r) (kk : Z (pc + 3) L (.int r :: st) iv lv) : Z pc L (.int y :: .int x :: st) iv lv := z_mmax h hA hc9 hd hR (by rw [he]; exact kk)
theorem z_mminE (h : Rw g own cc nL ret R scr Q Z) {idx : Nat} {x y r : Int32} (hA : MA own idx Lib.Math.min.name) (hc9 : Cond.code Lib.Math.min.name Lib.Math.min.code 2 (some .int) ∈ TBL) (hd : decode cc pc = .ok (.invokestatic idx, 3)) (hR : 1 ≤ R.frames ∧ (st.map fun v => v.category).sum + 13 ≤ R.locals) (he : (if y < x then y else x) = r) (kk : Z (pc + 3) L (.int r :: st) iv lv) : Z pc L (.int y :: .int x :: st) iv lv := z_mmin h hA hc9 hd hR (by rw [he]; exact kk)
theorem z_mabsE (h : Rw g own cc nL ret R scr Q Z) {idx : Nat} {x r : Int32} (hA : MA own idx Lib.Math.abs.name) (hc9 : Cond.code Lib.Math.abs.name Lib.Math.abs.code 1 (some .int) ∈ TBL) (hd : decode cc pc = .ok (.invokestatic idx, 3)) (hR : 1 ≤ R.frames ∧ (st.map fun v => v.category).sum + 13 ≤ R.locals) (he : (if 0 ≤ x then x else 0 - x) = r) (kk : Z (pc + 3) L (.int r :: st) iv lv) : Z pc L (.int x :: st) iv lv := z_mabs h hA hc9 hd hR (by rw [he]; exact kk)
theorem z_mmax_longE (h : Rw g own cc nL ret R scr Q Z) {idx : Nat} {x y r : Int64} (hA : MA own idx Lib.MathLoose.max_long.x) (hc9 : Cond.code Lib.MathLoose.max_long.x Lib.MathLoose.max_long.code 4 (some .long) ∈ TBL) (hd : decode cc pc = .ok (.invokestatic idx, 3)) (hR : 1 ≤ R.frames ∧ (st.map fun v => v.category).sum + 15 ≤ R.locals) (he : (if y < x then x else y) = r) (kk : Z (pc + 3) L (.long r :: st) iv lv) : Z pc L (.long y :: .long x :: st) iv lv := z_mmax_long h hA hc9 hd hR (by rw [he]; exact kk)
theorem z_mmin_longE (h : Rw g own cc nL ret R scr Q Z) {idx : Nat} {x y r : Int64} (hA : MA own idx Lib.MathLoose.min_long.x) (hc9 : Cond.code Lib.MathLoose.min_long.x Lib.MathLoose.min_long.code 4 (some .long) ∈ TBL) (hd : decode cc pc = .ok (.invokestatic idx, 3)) (hR : 1 ≤ R.frames ∧ (st.map fun v => v.category).sum + 15 ≤ R.locals) (he : (if y < x then y else x) = r) (kk : Z (pc + 3) L (.long r :: st) iv lv) : Z pc L (.long y :: .long x :: st) iv lv := z_mmin_long h hA hc9 hd hR (by rw [he]; exact kk)
end ZF
def cpI (iv : Iv) (k1 k0 c : Nat) : Iv := fun a => if a = k1 then va_cpy (iv k0) (iv k1) 0 0 c else iv a
theorem cpI_at {iv : Iv} {k1 k0 c a j : Nat} : cpI iv k1 k0 c a j = if a = k1 ∧ j < c then iv k0 j else iv a j := by
  unfold cpI va_cpy
  by_cases h : a = k1
  · subst h; simp
  · simp [h]
section ZA
variable {g : GE} {own : String} {cc : ByteArray} {nL : Nat} {ret : Option FieldType} {R : Room} {scr : Option (Nat × Nat × (Nat → Int32))} {Q : Option Value → Iv → Lv → Prop} {Z : ZT} {pc : Nat} {L : LO} {st : List Value} {iv : Iv} {lv : Lv}
theorem z_acopy (h : Rw g own cc nL ret R scr Q Z) {idx k0 k1 n0 n1 cn : Nat} (hA : AC own idx) (hd : decode cc pc = .ok (.invokestatic idx, 3)) (h0 : IsI g k0 n0) (h1 : IsI g k1 n1) (hc0 : cn ≤ n0) (hc1 : cn ≤ n1)
    (hR : 1 ≤ R.frames ∧ (st.map fun v => v.category).sum + (nativeFrameWords "java/lang/System" "arraycopy" 5 + 11) ≤ R.locals) (kk : Z (pc + 3) L st (cpI iv k1 k0 cn) lv) : Z pc L (.int (nI cn) :: .int (nI 0) :: rf g k1 :: .int (nI 0) :: rf g k0 :: st) iv lv := by
  obtain ⟨p, e, s, mm, args, below, meth, c, cells, slots, A, H0, QS, hx, hb, hml, hown, hts, hK, hf, hscr, hfin, hZ⟩ := h
  rw [hZ] at kk ⊢
  intro H ls locs hM hS hL
  have e0 := cl_get (iv := iv) (lv := lv) h0.1
  have e1 := cl_get (iv := iv) (lv := lv) h1.1
  have hcl : (nI cn).toNatClampNeg = cn := nI_clamp (Nat.lt_of_le_of_lt hc0 h0.2)
  have hz : (nI 0).toNatClampNeg = 0 := nI_clamp (by omega)
  refine va_copyi hx hb (hml.trans hL.1.symm) hown (hts _ hA.1) (hts _ hA.2.1) (hts _ hA.2.2.1) (hts _ hA.2.2.2) hK.1 hM cl_D hS k0 k1 0 0 e0 e1 rfl rfl rfl (by decide) (by decide) (nI_pos (Nat.lt_of_le_of_lt hc0 h0.2)) (by rw [hz, hcl]; omega) (by rw [hz, hcl]; omega) (fun i hi => rfl) hR.1 hR.2 hd (fun H1 locs1 hP hD hS1 => ?_)
  rw [hz, hcl] at hP
  rw [cl_set (iv' := cpI iv k1 k0 cn) (lv' := lv) h1.1.1 (by rw [h1.1.2]; show _ = (Sum.inl (gE g 0, n1, Sum.inl (cpI iv k1 k0 cn k1)) : va_E); rw [show cpI iv k1 k0 cn k1 = va_cpy (iv k0) (iv k1) 0 0 cn from if_pos rfl]) (fun a ha => if_neg ha) (fun _ _ => rfl)] at hP
  exact kk H1 ls locs1 hP hS1 hL
theorem ok1_cp {dd : Nat → Nat} {dm k0 k1 cn : Nat} (hG : Ok1 dd dm iv lv) (hw : ∀ j x, j < cn → s1I dd dm k1 j = some x → s1I dd dm k0 j = some x) : Ok1 dd dm (cpI iv k1 k0 cn) lv := by
  refine ⟨fun a b y hy => ?_, hG.2⟩
  rw [cpI_at]
  by_cases hc : a = k1 ∧ b < cn
  · rw [if_pos hc]
    obtain ⟨rfl, hb⟩ := hc
    exact hG.1 k0 b y (hw b y hb hy)
  · rw [if_neg hc]
    exact hG.1 a b y hy
end ZA
