theorem Rg_toInt {a b : Nat} {x : Int32} (ha : a < 2 ^ 31) (hb : b < 2 ^ 31) : Rg (nI a) (nI b) x ↔ ((a : Int) ≤ x.toInt ∧ x.toInt ≤ b) := by
  unfold Rg
  rw [Int32.le_iff_toInt_le, Int32.le_iff_toInt_le, nI_toInt ha, nI_toInt hb]
theorem lk2 {a b d x : Int} (h : ¬ (0 ≤ x ∧ x < ((2 : Nat) : Int))) : Op.lookupswitch.offset [(0, a), (1, b)] d x = d := by
  have h0 : ¬ (0 : Int) = x := by omega
  have h1 : ¬ (1 : Int) = x := by omega
  rw [Op.lookupswitch.offset_cons, if_neg h0, Op.lookupswitch.offset_cons, if_neg h1]
  rfl
theorem min0 (y : Int32) : (if y < nI 0 then y else nI 0) ≤ nI 0 := by
  by_cases h : y < nI 0
  · rw [if_pos h]; exact Int32.le_of_lt h
  · rw [if_neg h]; exact Int32.le_refl _
/-- 9, 8 .. 0, and -1 behind it -/
def rkv (q : Nat) : Int32 := nI q - nI 1
theorem rkv_s (q : Nat) : rkv (q + 1) = nI q := by unfold rkv; rw [pk_sub (by omega)]; rfl
theorem rkv_0 : rkv 0 = -1 := by decide
theorem vau_s {α : Type} {f : Nat → α} {k : Nat} {v : α} : va_up f k v k = v := if_pos rfl
theorem nI_addm1 (q : Nat) : nI q + Int32.ofInt (-1) = rkv q := by unfold rkv; rw [show Int32.ofInt (-1) = -1 from by decide, Int32.sub_eq_add_neg, show -nI 1 = -1 from by decide]
theorem z0mul {n : Int32} : nI 0 * n = nI 0 := by rw [show nI 0 = 0 from rfl, Int32.zero_mul]
