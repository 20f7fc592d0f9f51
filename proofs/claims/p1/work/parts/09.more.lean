theorem Rg_toInt {a b : Nat} {x : Int32} (ha : a < 2 ^ 31) (hb : b < 2 ^ 31) : Rg (nI a) (nI b) x ↔ ((a : Int) ≤ x.toInt ∧ x.toInt ≤ b) := by
  unfold Rg
  rw [Int32.le_iff_toInt_le, Int32.le_iff_toInt_le, nI_toInt ha, nI_toInt hb]
theorem lk2 {a b d x : Int} (h : ¬ (0 ≤ x ∧ x < ((2 : Nat) : Int))) : Op.lookupswitch.offset [(0, a), (1, b)] d x = d := by
  have h0 : ¬ (0 : Int) = x := by omega
  have h1 : ¬ (1 : Int) = x := by omega
  rw [Op.lookupswitch.offset_cons, if_neg h0, Op.lookupswitch.offset_cons, if_neg h1]
  rfl
theorem min0 (y : Int32) : (if y < nI 0 then y else nI 0) ≤ nI 0 := by
  by_cases h : y < nI 0
  · rw [if_pos h]; exact Int32.le_of_lt h
  · rw [if_neg h]; exact Int32.le_refl _
/-- 9, 8 .. 0, and -1 behind it -/
def rkv (q : Nat) : Int32 := nI q - nI 1
theorem rkv_s (q : Nat) : rkv (q + 1) = nI q := by unfold rkv; rw [pk_sub (by omega)]; rfl
theorem rkv_0 : rkv 0 = -1 := by decide
theorem vau_s {α : Type} {f : Nat → α} {k : Nat} {v : α} : va_up f k v k = v := if_pos rfl
theorem nI_addm1 (q : Nat) : nI q + Int32.ofInt (-1) = rkv q := by unfold rkv; rw [show Int32.ofInt (-1) = -1 from by decide, Int32.sub_eq_add_neg, show -nI 1 = -1 from by decide]
theorem z0mul {n : Int32} : nI 0 * n = nI 0 := by rw [show nI 0 = 0 from rfl, Int32.zero_mul]
theorem in_t {n : Nat} {x : Int32} (hn : n < 2 ^ 31) (h1 : ¬ x < 0) (h2 : ¬ nI n ≤ x) : nI 1 = bi (InN n x) := (bi_t ((InN_lt hn).mpr ⟨Int32.not_lt.mp h1, Int32.not_le.mp h2⟩)).symm
theorem in_t2 {n : Nat} {x : Int32} (hn : n < 2 ^ 31) (h1 : ¬ x < 0) (h2 : x < nI n) : nI 1 = bi (InN n x) := (bi_t ((InN_lt hn).mpr ⟨Int32.not_lt.mp h1, h2⟩)).symm
theorem in_f1 {n : Nat} {x : Int32} (hn : n < 2 ^ 31) (h1 : x < 0) : nI 0 = bi (InN n x) := (bi_f (fun q => Int32.not_lt.mpr ((InN_lt hn).mp q).1 h1)).symm
theorem in_f2 {n : Nat} {x : Int32} (hn : n < 2 ^ 31) (h1 : nI n ≤ x) : nI 0 = bi (InN n x) := (bi_f (fun q => Int32.not_le.mpr ((InN_lt hn).mp q).2 h1)).symm
theorem in_f3 {n : Nat} {x : Int32} (hn : n < 2 ^ 31) (h1 : ¬ x < nI n) : nI 0 = bi (InN n x) := (bi_f (fun q => h1 ((InN_lt hn).mp q).2)).symm
theorem sel_same {p : Prop} {a : Int32} : sel p a a = a := by
  by_cases h : p
  · exact sel_t h
  · exact sel_f h
theorem selL_same {p : Prop} {a : Int64} : selL p a a = a := by
  by_cases h : p
  · exact selL_t h
  · exact selL_f h
theorem in_t3 {n : Nat} {x : Int32} (hn : n < 2 ^ 31) (h1 : ¬ x < 0) (h2 : x ≤ nI n) : nI 1 = bi (InN (n + 1) x) := (bi_t ((InN_le hn).mpr ⟨Int32.not_lt.mp h1, h2⟩)).symm
theorem in_f4 {n : Nat} {x : Int32} (hn : n < 2 ^ 31) (h1 : ¬ x ≤ nI n) : nI 0 = bi (InN (n + 1) x) := (bi_f (fun q => h1 ((InN_le hn).mp q).2)).symm
theorem z_taldE {g : GE} {own : String} {cc : ByteArray} {nL : Nat} {ret : Option FieldType} {R : Room} {scr : Option (Nat × Nat × (Nat → Int32))} {Q : Option Value → Iv → Lv → Prop} {Z : ZT} {pc : Nat} {L : LO} {st : List Value} {iv : Iv} {lv : Lv} (h : Rw g own cc nL ret R scr Q Z) {i j : Nat} {x : Int32} (hd : decode cc pc = .ok (.iaload, 1)) (hi : i < 3) (hj : j < 7) (he : sV i j = x) (kk : Z (pc + 1) L (.int x :: st) iv lv) : Z pc L (.int (nI j) :: rt g i :: st) iv lv := z_tald h hd hi hj (by rw [he]; exact kk)
theorem sel_01 {p : Prop} : sel p (nI 0) (nI 1) = 0 ∨ sel p (nI 0) (nI 1) = 1 := by
  by_cases h : p
  · rw [sel_t h]; exact Or.inl rfl
  · rw [sel_f h]; exact Or.inr rfl
