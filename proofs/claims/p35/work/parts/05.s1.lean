/-! THE FRESH MEMORY: what the cells hold that are asked for; of the others nothing is said -/
def tfN (j : Nat) : Nat := if j = 0 then 6 else if j = 1 then 2 else if j = 2 then 2 else if j = 3 then 3 else if j = 4 then 1 else if j = 5 then 10 else 0
def s1M (q j : Nat) : Option Int32 := if q = 0 then (if j = 7 then some (nI 100) else if j = 8 then some (nI 100) else if j = 9 then some (nI 0) else if j = 10 then some (nI 0) else none) else if q = 1 then none else if q = 7 then none else some (nI 0)
def s1H (d r j : Nat) : Option Int32 := if r = 0 then (if j = 10 then some (nI 0) else if j = 11 then some (nI d) else none) else if r = 1 then some (nI (tfN j)) else if r = 3 then some (nI 0) else if r = 4 then some (nI 0) else if r = 5 then some (nI 0)
  else if r = 7 then (if j = 2 then some (nI 0) else none) else if r = 17 then (if j = 2 then some (nI 0) else none) else if r = 38 then (if j = 2 then some (nI 0) else none) else if r = 46 then (if j = 2 then some (nI 0) else none) else if r = 54 then (if j = 2 then some (nI 0) else none) else if r < 60 then none else s1M ((r - 60) % 20) j
def s1Y (dm q j : Nat) : Option Int32 := if q = 0 then (if j = 10 then some (nI 0) else if j = 14 then some (nI 0) else if j = 17 then some (nI 0) else if j = 25 then some (nI 0) else if j = 26 then some (-1) else if j = 27 then some (nI 0) else if j = 29 then some (nI 0) else none) else if q = 1 then (if j = 6 then some (nI dm) else some (nI 0)) else none
def s1I (dd : Nat → Nat) (dm k j : Nat) : Option Int32 := if k = 0 then (if j = 4 then some (nI 0) else none) else if k < 541 then s1H (dd (1 + 180 * ((k - 1) / 180))) ((k - 1) % 180) j
  else if k = 541 then (if j = 1 then some (nI 0) else if j = 3 then some (nI 0) else if j = 4 then some (nI 0) else if j = 5 then some (-1) else none) else if k = 543 then (if j = 2 then some (nI 0) else none) else if k < 551 then none else s1Y dm (k - 551) j
def s1Lh (r j : Nat) : Option Int64 := if r = 0 then (if j = 12 then some 0 else none) else if r = 2 then some 0 else if r < 60 then none else if (r - 60) % 20 = 1 then some 0 else none
def s1L (k j : Nat) : Option Int64 := if k = 0 then none else if k < 541 then s1Lh ((k - 1) % 180) j else if k = 554 then some 0 else if k = 555 then some 0 else none
def Ok1 (dd : Nat → Nat) (dm : Nat) (iv : Iv) (lv : Lv) : Prop := (∀ k j x, s1I dd dm k j = some x → iv k j = x) ∧ ∀ k j x, s1L k j = some x → lv k j = x
theorem ok1_wI {dd : Nat → Nat} {dm : Nat} {iv : Iv} {lv : Lv} {k j : Nat} {x : Int32} (hG : Ok1 dd dm iv lv) (hw : ∀ y, s1I dd dm k j = some y → y = x) : Ok1 dd dm (upI iv k j x) lv := by
  refine ⟨fun a b y hy => ?_, hG.2⟩
  rw [upI_at]
  by_cases h : a = k ∧ b = j
  · rw [if_pos h]
    obtain ⟨rfl, rfl⟩ := h
    exact (hw y hy).symm
  · rw [if_neg h]
    exact hG.1 a b y hy
theorem ok1_wL {dd : Nat → Nat} {dm : Nat} {iv : Iv} {lv : Lv} {k j : Nat} {x : Int64} (hG : Ok1 dd dm iv lv) (hw : ∀ y, s1L k j = some y → y = x) : Ok1 dd dm iv (upL lv k j x) := by
  refine ⟨hG.1, fun a b y hy => ?_⟩
  rw [upL_at]
  by_cases h : a = k ∧ b = j
  · rw [if_pos h]
    obtain ⟨rfl, rfl⟩ := h
    exact (hw y hy).symm
  · rw [if_neg h]
    exact hG.2 a b y hy
theorem s1_H {dd : Nat → Nat} {dm h r j : Nat} (hh : isH h) (hr : r < 180) : s1I dd dm (h + r) j = s1H (dd h) r j := by
  unfold s1I
  have h3 : 1 + 180 * ((h + r - 1) / 180) = h := by rcases hh with rfl | rfl | rfl <;> omega
  have h4 : (h + r - 1) % 180 = r := by rcases hh with rfl | rfl | rfl <;> omega
  rw [if_neg (by rcases hh with rfl | rfl | rfl <;> omega), if_pos (by rcases hh with rfl | rfl | rfl <;> omega), h3, h4]
theorem s1_Hl {h r j : Nat} (hh : isH h) (hr : r < 180) : s1L (h + r) j = s1Lh r j := by
  unfold s1L
  have h4 : (h + r - 1) % 180 = r := by rcases hh with rfl | rfl | rfl <;> omega
  rw [if_neg (by rcases hh with rfl | rfl | rfl <;> omega), if_pos (by rcases hh with rfl | rfl | rfl <;> omega), h4]
theorem s1_M {dd : Nat → Nat} {dm m q j : Nat} (hm : isM m) (hq : q < 20) : s1I dd dm (m + q) j = s1M q j := by
  obtain ⟨h, i, hh, hi, rfl⟩ := hm
  rw [show h + 60 + 20 * i + q = h + (60 + 20 * i + q) by omega, s1_H hh (by omega)]
  unfold s1H
  rw [if_neg (by omega), if_neg (by omega), if_neg (by omega), if_neg (by omega), if_neg (by omega), if_neg (by omega), if_neg (by omega), if_neg (by omega), if_neg (by omega), if_neg (by omega), if_neg (by omega), show (60 + 20 * i + q - 60) % 20 = q by omega]
theorem s1_Ml {m q j : Nat} (hm : isM m) (hq : q < 20) : s1L (m + q) j = if q = 1 then some 0 else none := by
  obtain ⟨h, i, hh, hi, rfl⟩ := hm
  rw [show h + 60 + 20 * i + q = h + (60 + 20 * i + q) by omega, s1_Hl hh (by omega)]
  unfold s1Lh
  rw [if_neg (by omega), if_neg (by omega), if_neg (by omega), show (60 + 20 * i + q - 60) % 20 = q by omega]
section A1
variable {dd : Nat → Nat} {dm h m j k : Nat} {iv : Iv} {lv : Lv}
theorem a1_H (hG : Ok1 dd dm iv lv) (hh : isH h) {x : Int32} (r : Nat) (hr : r < 180) (hx : s1H (dd h) r j = some x) : iv (h + r) j = x := hG.1 _ _ _ ((s1_H hh hr).trans hx)
theorem a1_Hl (hG : Ok1 dd dm iv lv) (hh : isH h) {x : Int64} (r : Nat) (hr : r < 180) (hx : s1Lh r j = some x) : lv (h + r) j = x := hG.2 _ _ _ ((s1_Hl hh hr).trans hx)
theorem a1_told (hG : Ok1 dd dm iv lv) (hh : isH h) (j : Nat) : iv (h + 1) j = nI (tfN j) := a1_H hG hh 1 (by omega) rfl
theorem a1_rank (hG : Ok1 dd dm iv lv) (hh : isH h) : iv (h + 3) j = nI 0 := a1_H hG hh 3 (by omega) rfl
theorem a1_pledged (hG : Ok1 dd dm iv lv) (hh : isH h) : iv (h + 4) j = nI 0 := a1_H hG hh 4 (by omega) rfl
theorem a1_susp (hG : Ok1 dd dm iv lv) (hh : isH h) : iv (h + 5) j = nI 0 := a1_H hG hh 5 (by omega) rfl
theorem a1_cash (hG : Ok1 dd dm iv lv) (hh : isH h) : lv (h + 2) j = 0 := a1_Hl hG hh 2 (by omega) rfl
theorem a1_outside (hG : Ok1 dd dm iv lv) (hh : isH h) : lv h 12 = 0 := a1_Hl hG hh 0 (by omega) rfl
theorem a1_planDone (hG : Ok1 dd dm iv lv) (hh : isH h) : iv h 10 = nI 0 := a1_H hG hh 0 (by omega) rfl
theorem a1_day (hG : Ok1 dd dm iv lv) (hh : isH h) : iv h 11 = nI (dd h) := a1_H hG hh 0 (by omega) rfl
theorem a1_cd (hG : Ok1 dd dm iv lv) (hh : isH h) : iv (h + 7) 2 = nI 0 := a1_H hG hh 7 (by omega) rfl
theorem a1_cn (hG : Ok1 dd dm iv lv) (hh : isH h) : iv (h + 17) 2 = nI 0 := a1_H hG hh 17 (by omega) rfl
theorem a1_cb (hG : Ok1 dd dm iv lv) (hh : isH h) : iv (h + 38) 2 = nI 0 := a1_H hG hh 38 (by omega) rfl
theorem a1_ln (hG : Ok1 dd dm iv lv) (hh : isH h) : iv (h + 54) 2 = nI 0 := a1_H hG hh 54 (by omega) rfl
theorem a1_cp (hG : Ok1 dd dm iv lv) (hh : isH h) : iv (h + 46) 2 = nI 0 := a1_H hG hh 46 (by omega) rfl
theorem a1_M (hG : Ok1 dd dm iv lv) (hm : isM m) {x : Int32} (q : Nat) (hq : q < 20) (hx : s1M q j = some x) : iv (m + q) j = x := hG.1 _ _ _ ((s1_M hm hq).trans hx)
theorem a1_price (hG : Ok1 dd dm iv lv) (hm : isM m) : iv m 7 = nI 100 := a1_M hG hm 0 (by omega) rfl
theorem a1_marked (hG : Ok1 dd dm iv lv) (hm : isM m) : iv m 8 = nI 100 := a1_M hG hm 0 (by omega) rfl
theorem a1_payout (hG : Ok1 dd dm iv lv) (hm : isM m) : iv m 9 = nI 0 := a1_M hG hm 0 (by omega) rfl
theorem a1_endDay (hG : Ok1 dd dm iv lv) (hm : isM m) : iv m 10 = nI 0 := a1_M hG hm 0 (by omega) rfl
theorem a1_mi (hG : Ok1 dd dm iv lv) (hm : isM m) (q : Nat) (hq : 2 ≤ q ∧ q < 7) : iv (m + q) j = nI 0 := a1_M hG hm q (by omega) (by unfold s1M; rw [if_neg (by omega), if_neg (by omega), if_neg (by omega)])
theorem a1_row (hG : Ok1 dd dm iv lv) (hm : isM m) (hk : k < 12) : iv (m + 8 + k) j = nI 0 := by
  rw [show m + 8 + k = m + (8 + k) by omega]
  exact a1_M hG hm (8 + k) (by omega) (by unfold s1M; rw [if_neg (by omega), if_neg (by omega), if_neg (by omega)])
theorem a1_stock (hG : Ok1 dd dm iv lv) (hm : isM m) : lv (m + 1) j = 0 := hG.2 _ _ _ ((s1_Ml hm (by omega)).trans rfl)
theorem a1_isKept (hG : Ok1 dd dm iv lv) : iv 0 4 = nI 0 := hG.1 0 4 _ rfl
theorem a1_length (hG : Ok1 dd dm iv lv) : iv 541 1 = nI 0 := hG.1 541 1 _ rfl
theorem a1_place (hG : Ok1 dd dm iv lv) : iv 541 3 = nI 0 := hG.1 541 3 _ rfl
theorem a1_fault (hG : Ok1 dd dm iv lv) : iv 541 4 = nI 0 := hG.1 541 4 _ rfl
theorem a1_faultP (hG : Ok1 dd dm iv lv) : iv 541 5 = -1 := hG.1 541 5 _ rfl
theorem a1_draft (hG : Ok1 dd dm iv lv) : iv 543 2 = nI 0 := hG.1 543 2 _ rfl
theorem a1_taped (hG : Ok1 dd dm iv lv) : iv 551 17 = nI 0 := hG.1 551 17 _ rfl
theorem a1_fk (hG : Ok1 dd dm iv lv) : iv 551 25 = nI 0 := hG.1 551 25 _ rfl
theorem a1_fp (hG : Ok1 dd dm iv lv) : iv 551 26 = -1 := hG.1 551 26 _ rfl
theorem a1_planMany (hG : Ok1 dd dm iv lv) : iv 551 27 = nI 0 := hG.1 551 27 _ rfl
theorem a1_hasImage (hG : Ok1 dd dm iv lv) : iv 551 29 = nI 0 := hG.1 551 29 _ rfl
theorem a1_qMany (hG : Ok1 dd dm iv lv) : iv 551 10 = nI 0 := hG.1 551 10 _ rfl
theorem a1_pool (hG : Ok1 dd dm iv lv) : iv 551 14 = nI 0 := hG.1 551 14 _ rfl
theorem a1_DAY (hG : Ok1 dd dm iv lv) : iv 552 6 = nI dm := hG.1 552 6 _ rfl
theorem a1_now (hG : Ok1 dd dm iv lv) (hj : j ≠ 6) : iv 552 j = nI 0 := hG.1 552 j _ (by show (if j = 6 then some (nI dm) else some (nI 0)) = _; rw [if_neg hj])
theorem a1_coins (hG : Ok1 dd dm iv lv) : lv 554 j = 0 := hG.2 554 j _ rfl
theorem a1_coinsW (hG : Ok1 dd dm iv lv) : lv 555 j = 0 := hG.2 555 j _ rfl
end A1
/-! what may be written, so that it stays so -/
section W1
variable {dd : Nat → Nat} {dm h m j k : Nat}
theorem w1_no {o : Option Int32} {x : Int32} (h : o = none) : ∀ y, o = some y → y = x := fun y e => by rw [h] at e; cases e
theorem w1_eq {o : Option Int32} {x : Int32} (h : o = some x) : ∀ y, o = some y → y = x := fun y e => by rw [h] at e; cases e; rfl
theorem w1_noL {o : Option Int64} {x : Int64} (h : o = none) : ∀ y, o = some y → y = x := fun y e => by rw [h] at e; cases e
theorem w1_eqL {o : Option Int64} {x : Int64} (h : o = some x) : ∀ y, o = some y → y = x := fun y e => by rw [h] at e; cases e; rfl
theorem w1_H {x : Int32} (hh : isH h) (r : Nat) (hr : r < 180) (hx : s1H (dd h) r j = none ∨ s1H (dd h) r j = some x) : ∀ y, s1I dd dm (h + r) j = some y → y = x := by
  rw [s1_H hh hr]
  rcases hx with e | e
  · exact w1_no e
  · exact w1_eq e
theorem w1_HL {x : Int64} (hh : isH h) (r : Nat) (hr : r < 180) (hx : s1Lh r j = none ∨ s1Lh r j = some x) : ∀ y, s1L (h + r) j = some y → y = x := by
  rw [s1_Hl hh hr]
  rcases hx with e | e
  · exact w1_noL e
  · exact w1_eqL e
theorem w1_M {x : Int32} (hm : isM m) (q : Nat) (hq : q < 20) (hx : s1M q j = none ∨ s1M q j = some x) : ∀ y, s1I dd dm (m + q) j = some y → y = x := by
  rw [s1_M hm hq]
  rcases hx with e | e
  · exact w1_no e
  · exact w1_eq e
theorem w1_mi {x : Int32} (hm : isM m) (q : Nat) (hq : 2 ≤ q ∧ q < 7) (hx : x = nI 0) : ∀ y, s1I dd dm (m + q) j = some y → y = x :=
  w1_M hm q (by omega) (Or.inr (by rw [hx]; unfold s1M; rw [if_neg (by omega), if_neg (by omega), if_neg (by omega)]))
theorem w1_row {x : Int32} (hm : isM m) (hk : k < 12) (hx : x = nI 0) : ∀ y, s1I dd dm (m + 8 + k) j = some y → y = x := by
  rw [show m + 8 + k = m + (8 + k) by omega]
  exact w1_M hm (8 + k) (by omega) (Or.inr (by rw [hx]; unfold s1M; rw [if_neg (by omega), if_neg (by omega), if_neg (by omega)]))
theorem w1_stock {x : Int64} (hm : isM m) (hx : x = 0) : ∀ y, s1L (m + 1) j = some y → y = x := by
  rw [s1_Ml hm (by omega)]
  exact w1_eqL (by rw [hx]; rfl)
theorem w1_tr {x : Int32} {t c n : Nat} (ht : isT t c n) (hk : k < c) : ∀ y, s1I dd dm (t + 2 + k) j = some y → y = x := by
  rcases ht with ⟨h, hh, h1 | h1 | h1 | h1⟩ | h1
  · obtain ⟨rfl, rfl, rfl⟩ := h1
    rw [show h + 7 + 2 + k = h + (9 + k) by omega]
    refine w1_H hh (9 + k) (by omega) (Or.inl ?_)
    unfold s1H
    rw [if_neg (by omega), if_neg (by omega), if_neg (by omega), if_neg (by omega), if_neg (by omega), if_neg (by omega), if_neg (by omega), if_neg (by omega), if_neg (by omega), if_neg (by omega), if_pos (by omega)]
  · obtain ⟨rfl, rfl, rfl⟩ := h1
    rw [show h + 17 + 2 + k = h + (19 + k) by omega]
    refine w1_H hh (19 + k) (by omega) (Or.inl ?_)
    unfold s1H
    rw [if_neg (by omega), if_neg (by omega), if_neg (by omega), if_neg (by omega), if_neg (by omega), if_neg (by omega), if_neg (by omega), if_neg (by omega), if_neg (by omega), if_neg (by omega), if_pos (by omega)]
  · obtain ⟨rfl, rfl, rfl⟩ := h1
    rw [show h + 38 + 2 + k = h + (40 + k) by omega]
    refine w1_H hh (40 + k) (by omega) (Or.inl ?_)
    unfold s1H
    rw [if_neg (by omega), if_neg (by omega), if_neg (by omega), if_neg (by omega), if_neg (by omega), if_neg (by omega), if_neg (by omega), if_neg (by omega), if_neg (by omega), if_neg (by omega), if_pos (by omega)]
  · obtain ⟨rfl, rfl, rfl⟩ := h1
    rw [show h + 46 + 2 + k = h + (48 + k) by omega]
    refine w1_H hh (48 + k) (by omega) (Or.inl ?_)
    unfold s1H
    rw [if_neg (by omega), if_neg (by omega), if_neg (by omega), if_neg (by omega), if_neg (by omega), if_neg (by omega), if_neg (by omega), if_neg (by omega), if_neg (by omega), if_neg (by omega), if_pos (by omega)]
  · obtain ⟨rfl, rfl, rfl⟩ := h1
    refine w1_no ?_
    unfold s1I
    rw [if_neg (by omega), if_neg (by omega), if_neg (by omega), if_neg (by omega), if_pos (by omega)]
theorem w1_now {x : Int32} (hj : j ≠ 6) (hx : x = nI 0) : ∀ y, s1I dd dm 552 j = some y → y = x := w1_eq (by rw [hx]; show (if j = 6 then some (nI dm) else some (nI 0)) = _; rw [if_neg hj])
end W1
