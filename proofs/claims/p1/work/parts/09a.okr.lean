/-! the fresh memory of the reference alone: the names from 551 on -/
def OkR (dd : Nat → Nat) (dm : Nat) (iv : Iv) (lv : Lv) : Prop := (∀ k j x, 551 ≤ k → s1I dd dm k j = some x → iv k j = x) ∧ ∀ k j x, 551 ≤ k → s1L k j = some x → lv k j = x
section R1
variable {dd : Nat → Nat} {dm j k : Nat} {iv : Iv} {lv : Lv}
theorem s1_dd {dd dd2 : Nat → Nat} {dm k j : Nat} (h : 551 ≤ k) : s1I dd dm k j = s1I dd2 dm k j := by
  unfold s1I
  rw [if_neg (show ¬ k = 0 by omega), if_neg (show ¬ k = 0 by omega), if_neg (show ¬ k < 541 by omega), if_neg (show ¬ k < 541 by omega)]
theorem okR_of {dd2 : Nat → Nat} (hG : Ok1 dd dm iv lv) : OkR dd2 dm iv lv := ⟨fun k j x hk h => hG.1 k j x ((s1_dd hk).trans h), fun k j x _ h => hG.2 k j x h⟩
theorem isH_lt {h : Nat} (hh : isH h) : h + 179 < 541 := by rcases hh with rfl | rfl | rfl <;> omega
theorem isM_lt {m : Nat} (hm : isM m) : m + 19 < 541 := by
  obtain ⟨h, i, hh, hi, rfl⟩ := hm
  have := isH_lt hh
  rcases hh with rfl | rfl | rfl <;> omega
theorem okR_wI {x : Int32} (hG : OkR dd dm iv lv) (hw : ∀ y, s1I dd dm k j = some y → y = x) : OkR dd dm (upI iv k j x) lv := by
  refine ⟨fun a b y ha hy => ?_, hG.2⟩
  rw [upI_at]
  by_cases h : a = k ∧ b = j
  · rw [if_pos h]
    obtain ⟨rfl, rfl⟩ := h
    exact (hw y hy).symm
  · rw [if_neg h]
    exact hG.1 a b y ha hy
theorem okR_wL {x : Int64} (hG : OkR dd dm iv lv) (hw : ∀ y, s1L k j = some y → y = x) : OkR dd dm iv (upL lv k j x) := by
  refine ⟨hG.1, fun a b y ha hy => ?_⟩
  rw [upL_at]
  by_cases h : a = k ∧ b = j
  · rw [if_pos h]
    obtain ⟨rfl, rfl⟩ := h
    exact (hw y hy).symm
  · rw [if_neg h]
    exact hG.2 a b y ha hy
/-- what is written below 551 changes nothing of it -/
theorem okR_lI {x : Int32} (hk : k < 551) (hG : OkR dd dm iv lv) : OkR dd dm (upI iv k j x) lv := by
  refine ⟨fun a b y ha hy => ?_, hG.2⟩
  rw [upI_at, if_neg (by omega)]
  exact hG.1 a b y ha hy
theorem okR_lL {x : Int64} (hk : k < 551) (hG : OkR dd dm iv lv) : OkR dd dm iv (upL lv k j x) := by
  refine ⟨hG.1, fun a b y ha hy => ?_⟩
  rw [upL_at, if_neg (by omega)]
  exact hG.2 a b y ha hy
theorem r1_taped (hG : OkR dd dm iv lv) : iv 551 17 = nI 0 := hG.1 551 17 _ (by omega) rfl
theorem r1_fk (hG : OkR dd dm iv lv) : iv 551 25 = nI 0 := hG.1 551 25 _ (by omega) rfl
theorem r1_fp (hG : OkR dd dm iv lv) : iv 551 26 = -1 := hG.1 551 26 _ (by omega) rfl
theorem r1_planMany (hG : OkR dd dm iv lv) : iv 551 27 = nI 0 := hG.1 551 27 _ (by omega) rfl
theorem r1_hasImage (hG : OkR dd dm iv lv) : iv 551 29 = nI 0 := hG.1 551 29 _ (by omega) rfl
theorem r1_qMany (hG : OkR dd dm iv lv) : iv 551 10 = nI 0 := hG.1 551 10 _ (by omega) rfl
theorem r1_pool (hG : OkR dd dm iv lv) : iv 551 14 = nI 0 := hG.1 551 14 _ (by omega) rfl
theorem r1_DAY (hG : OkR dd dm iv lv) : iv 552 6 = nI dm := hG.1 552 6 _ (by omega) rfl
theorem r1_now (hG : OkR dd dm iv lv) (hj : j ≠ 6) : iv 552 j = nI 0 := hG.1 552 j _ (by omega) (by show (if j = 6 then some (nI dm) else some (nI 0)) = _; rw [if_neg hj])
theorem r1_coins (hG : OkR dd dm iv lv) : lv 554 j = 0 := hG.2 554 j _ (by omega) rfl
theorem r1_coinsW (hG : OkR dd dm iv lv) : lv 555 j = 0 := hG.2 555 j _ (by omega) rfl
end R1
