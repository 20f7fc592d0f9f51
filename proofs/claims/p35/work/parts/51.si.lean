/-! WHAT HOLDS OF THE MEMORY AT ANY TIME: how far each int goes -/
def rM (q j : Nat) : Option (Int × Int) := if q = 0 then (if j = 10 then some (0, 100) else none) else none
/-- cell r of a house -/
def rH (r j : Nat) : Option (Int × Int) :=
  if r = 0 then (if j = 11 then some (0, 99) else if j = 15 then some (0, 12) else none)
  else if r = 1 then (if j = 0 then some (2, 12) else none)
  else if r = 7 then (if j = 2 then some (0, 200) else none) else if r = 9 then some (0, 11) else if r = 10 then some (0, 11)
  else if r = 17 then (if j = 2 then some (0, 60) else none) else if r = 19 then some (0, 11)
  else if r = 38 then (if j = 2 then some (0, 300) else none)
  else if r = 46 then (if j = 2 then some (0, 24) else none)
  else if r = 54 then (if j = 2 then some (0, 1200) else none) else if r = 55 then some (0, 11) else if r = 56 then some (0, 99) else if r = 57 then some (0, 11)
  else if r < 60 then none else rM ((r - 60) % 20) j
/-- the reference's row of numbers -/
def rN (j : Nat) : Option (Int × Int) :=
  if j < 13 then (if j = 0 then some (-4, 6) else if j = 6 then some (0, 99) else if j = 7 then some (0, 200) else if j = 8 then some (0, 60) else if j = 9 then some (0, 300) else if j = 10 then some (0, 24) else none)
  else if j < 348 then none else if j < 420 then some (0, 100) else if j < 7764 then some (0, 99) else if j < 15110 then none
  else if j < 16710 then (if (j - 15110) % 8 < 2 then some (0, 11) else if (j - 15110) % 8 = 2 then some (0, 5) else none)
  else if j < 17910 then (if (j - 16710) % 20 = 0 then some (0, 11) else if (j - 16710) % 20 = 1 then some (0, 5) else if (j - 16710) % 20 = 5 then some (0, 200) else none)
  else none
def rY (q j : Nat) : Option (Int × Int) :=
  if q = 0 then (if j = 5 then some (0, 99) else if j = 6 then some (0, 101) else if j = 7 then some (0, 12) else if j = 9 then some (0, 11) else if j = 10 then some (0, 1224) else if j = 17 then some (0, 400) else if j = 18 then some (0, 401) else if j = 19 then some (0, 401) else if j = 27 then some (0, 24) else none)
  else if q = 1 then rN j else if q = 5 then some (0, 199) else if q = 6 then some (0, 11) else if q = 7 then some (0, 99)
  else if q = 11 then (if j = 56 then some (32, 32) else none) else if q = 13 then (if j < 19782 then rN j else if j = 19926 then some (0, 24) else none) else none
def rgI (k j : Nat) : Option (Int × Int) :=
  if k = 0 then none else if k < 541 then rH ((k - 1) % 180) j
  else if k = 541 then (if j = 1 then some (0, 400) else if j = 3 then some (0, 401) else none)
  else if k = 543 then (if j = 2 then some (0, 24) else none)
  else if k < 551 then none else rY (k - 551) j
/-- the cells that most calls leave alone -/
def spH (r j : Nat) : Bool := if r = 0 then (j == 10 || j == 11) else if r = 1 then true else if r = 7 then j == 2 else if r = 17 then j == 2 else if r = 46 then j == 2 else if r < 48 then false else r < 54
def spN (j : Nat) : Bool := j < 9 || j == 10 || j == 12
def spY (q j : Nat) : Bool := if q = 0 then (j == 14 || j == 17 || j == 25 || j == 26 || j == 27 || j == 29) else if q = 1 then spN j else if q = 2 then true else if q = 9 then true else if q = 10 then true else if q = 11 then true else if q = 12 then j < 144 else if q = 13 then (spN j || 19782 ≤ j) else false
def spc (k j : Nat) : Bool := if k = 0 then true else if k < 541 then spH ((k - 1) % 180) j else if k < 551 then (if k = 541 then j != 3 else true) else spY (k - 551) j
/-- all these but the pool and who delivered -/
def spd (k j : Nat) : Bool := !((k == 551 && j == 14) || k == 560) && spc k j
/-- the days of an own row of lots go up, none beyond the day -/
def Lots (n : Nat → Int32) : Prop := ∀ c, c < 72 → (∀ a b : Nat, a < b → b < 102 → (b : Int) < (n (348 + c)).toInt → (n (420 + 102 * c + a)).toInt < (n (420 + 102 * c + b)).toInt) ∧ (∀ a : Nat, a < 102 → (a : Int) < (n (348 + c)).toInt → (n (420 + 102 * c + a)).toInt ≤ (n 6).toInt)
def SI (sp : Nat → Nat → Bool) (σ iv : Iv) : Prop := (∀ k j, sp k j = true → spc k j = true) ∧ (∀ k j, sp k j = true → iv k j = σ k j) ∧ (∀ k j lo hi, rgI k j = some (lo, hi) → Ra lo hi (iv k j)) ∧ Lots (iv 552) ∧ Lots (iv 564)
theorem rg_H {h r j : Nat} (hh : isH h) (hr : r < 180) : rgI (h + r) j = rH r j := by
  unfold rgI
  have h4 : (h + r - 1) % 180 = r := by rcases hh with rfl | rfl | rfl <;> omega
  rw [if_neg (by rcases hh with rfl | rfl | rfl <;> omega), if_pos (by rcases hh with rfl | rfl | rfl <;> omega), h4]
theorem spc_H {h r j : Nat} (hh : isH h) (hr : r < 180) : spc (h + r) j = spH r j := by
  unfold spc
  have h4 : (h + r - 1) % 180 = r := by rcases hh with rfl | rfl | rfl <;> omega
  rw [if_neg (by rcases hh with rfl | rfl | rfl <;> omega), if_pos (by rcases hh with rfl | rfl | rfl <;> omega), h4]
theorem rg_M {m q j : Nat} (hm : isM m) (hq : q < 20) : rgI (m + q) j = rM q j := by
  obtain ⟨h, i, hh, hi, rfl⟩ := hm
  rw [show h + 60 + 20 * i + q = h + (60 + 20 * i + q) by omega, rg_H hh (by omega)]
  unfold rH
  rw [if_neg (by omega), if_neg (by omega), if_neg (by omega), if_neg (by omega), if_neg (by omega), if_neg (by omega), if_neg (by omega), if_neg (by omega), if_neg (by omega), if_neg (by omega), if_neg (by omega), if_neg (by omega), if_neg (by omega), if_neg (by omega), show (60 + 20 * i + q - 60) % 20 = q by omega]
theorem spc_M {m q j : Nat} (hm : isM m) (hq : q < 20) : spc (m + q) j = false := by
  obtain ⟨h, i, hh, hi, rfl⟩ := hm
  rw [show h + 60 + 20 * i + q = h + (60 + 20 * i + q) by omega, spc_H hh (by omega)]
  unfold spH
  rw [if_neg (by omega), if_neg (by omega), if_neg (by omega), if_neg (by omega), if_neg (by omega), if_neg (by omega)]
  exact decide_eq_false (by omega)
section SR
variable {sp : Nat → Nat → Bool} {σ iv : Iv} {k j h m r : Nat} {x : Int32} {lo hi : Int}
theorem si_c (hG : SI sp σ iv) (e : rgI k j = some (lo, hi)) : Ra lo hi (iv k j) := hG.2.2.1 _ _ _ _ e
theorem si_H (hG : SI sp σ iv) (hh : isH h) (r : Nat) (hr : r < 180) (e : rH r j = some (lo, hi)) : Ra lo hi (iv (h + r) j) := si_c hG ((rg_H hh hr).trans e)
theorem si_M (hG : SI sp σ iv) (hm : isM m) (q : Nat) (hq : q < 20) (e : rM q j = some (lo, hi)) : Ra lo hi (iv (m + q) j) := si_c hG ((rg_M hm hq).trans e)
theorem si_s (hG : SI sp σ iv) (e : sp k j = true) : iv k j = σ k j := hG.2.1 _ _ e
theorem rx_none {o : Option (Int × Int)} (h : o = none) : ∀ lo hi, o = some (lo, hi) → Ra lo hi x := fun lo hi e => by rw [h] at e; cases e
theorem rx_some (h : Ra lo hi x) : ∀ lo' hi', some (lo, hi) = some (lo', hi') → Ra lo' hi' x := fun lo' hi' e => by cases e; exact h
theorem sp_no (hG : SI sp σ iv) (e : spc k j = false) : sp k j = false := by
  cases q : sp k j with
  | false => rfl
  | true => exact absurd (hG.1 _ _ q) (by rw [e]; decide)
/-- a write, but into the reference's two rows of numbers -/
theorem si_w (hG : SI sp σ iv) (hk : k ≠ 552) (hk2 : k ≠ 564) (hs : sp k j = false) (hx : ∀ lo hi, rgI k j = some (lo, hi) → Ra lo hi x) : SI sp σ (upI iv k j x) := by
  refine ⟨hG.1, fun a b q => ?_, fun a b lo hi q => ?_, ?_, ?_⟩
  · rw [upI_at]
    by_cases e : a = k ∧ b = j
    · obtain ⟨rfl, rfl⟩ := e
      rw [hs] at q; cases q
    · rw [if_neg e]; exact hG.2.1 _ _ q
  · rw [upI_at]
    by_cases e : a = k ∧ b = j
    · rw [if_pos e]
      obtain ⟨rfl, rfl⟩ := e
      exact hx _ _ q
    · rw [if_neg e]; exact hG.2.2.1 _ _ _ _ q
  · rw [upI_n (Ne.symm hk)]; exact hG.2.2.2.1
  · rw [upI_n (Ne.symm hk2)]; exact hG.2.2.2.2
theorem H_lt (hh : isH h) (hr : r < 180) : h + r < 541 := by rcases hh with rfl | rfl | rfl <;> omega
theorem M_lt (hm : isM m) (hr : r < 20) : m + r < 541 := by
  obtain ⟨h, i, hh, hi, rfl⟩ := hm
  rcases hh with rfl | rfl | rfl <;> omega
theorem si_wH (hG : SI sp σ iv) (hh : isH h) (r : Nat) (hr : r < 180) (hs : spH r j = false) (hx : ∀ lo hi, rH r j = some (lo, hi) → Ra lo hi x) : SI sp σ (upI iv (h + r) j x) := by
  have := H_lt hh hr
  exact si_w hG (by omega) (by omega) (sp_no hG ((spc_H hh hr).trans hs)) (fun lo hi e => hx lo hi ((rg_H hh hr).symm.trans e))
theorem si_wM (hG : SI sp σ iv) (hm : isM m) (q : Nat) (hq : q < 20) (hx : ∀ lo hi, rM q j = some (lo, hi) → Ra lo hi x) : SI sp σ (upI iv (m + q) j x) := by
  have := M_lt hm hq
  exact si_w hG (by omega) (by omega) (sp_no hG (spc_M hm hq)) (fun lo hi e => hx lo hi ((rg_M hm hq).symm.trans e))
theorem si_wR (hG : SI sp σ iv) (hm : isM m) {i : Nat} (hi : i < 12) : SI sp σ (upI iv (m + 8 + i) j x) := by
  rw [show m + 8 + i = m + (8 + i) by omega]
  refine si_wM hG hm (8 + i) (by omega) (rx_none ?_)
  unfold rM
  rw [if_neg (by omega)]
theorem upI_ne {a b : Nat} (h : a ≠ k ∨ b ≠ j) : upI iv k j x a b = iv a b := by
  rw [upI_at, if_neg]
  rintro ⟨h1, h2⟩
  rcases h with q | q
  · exact q h1
  · exact q h2
end SR
