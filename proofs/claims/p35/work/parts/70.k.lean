def s0 (_ _ : Nat) : Bool := false
theorem q0 : Sq s0 := fun _ _ h => by cases h
def z0 : Iv := fun _ _ => 0
/-! THE CELLS THAT THE LEFT PARTS' ANSWERS HANG ON -/
/-- cell r of a house: how many lines were run, DAY, m, TRADES, the plan -/
def kH (r j : Nat) : Bool := if r = 0 then (j == 10 || j == 11) else if r = 1 then j == 0 else if r = 7 then j == 2 else if r = 46 then j == 2 else if r < 48 then false else r < 54
def kN (j : Nat) : Bool := j == 0 || j == 6 || j == 7 || j == 10
def kY (q j : Nat) : Bool := if q = 0 then (j == 17 || j == 25 || j == 26 || j == 27 || j == 29) else if q = 1 then kN j else if q = 10 then true else if q = 11 then true else if q = 12 then j < 144 else if q = 13 then (kN j || 19782 ≤ j) else false
def sK (k j : Nat) : Bool := if k = 0 then j == 4 else if k < 361 then kH ((k - 1) % 180) j else if k < 541 then false else if k = 541 then (j == 1 || j == 4 || j == 5) else if k = 542 then true else if k < 551 then false else kY (k - 551) j
def Sk (sp : Nat → Nat → Bool) : Prop := ∀ k j, sp k j = true → sK k j = true
theorem sk_no {sp : Nat → Nat → Bool} (hq : Sk sp) {k j : Nat} (e : sK k j = false) : sp k j = false := by
  cases q : sp k j with
  | false => rfl
  | true => exact absurd (hq _ _ q) (by rw [e]; decide)
theorem kH_s {r j : Nat} (h : kH r j = true) : spH r j = true := by
  unfold kH at h
  unfold spH
  by_cases h0 : r = 0
  · rw [if_pos h0] at h ⊢; exact h
  rw [if_neg h0] at h ⊢
  by_cases h1 : r = 1
  · rw [if_pos h1]
  rw [if_neg h1] at h ⊢
  by_cases h7 : r = 7
  · rw [if_pos h7] at h ⊢; exact h
  rw [if_neg h7] at h ⊢
  by_cases h46 : r = 46
  · rw [if_pos h46] at h; rw [if_neg (by omega), if_pos h46]; exact h
  rw [if_neg h46] at h
  by_cases h48 : r < 48
  · rw [if_pos h48] at h; cases h
  rw [if_neg h48] at h
  rw [if_neg (by omega), if_neg h46, if_neg h48]
  exact h
theorem kN_s {j : Nat} (h : kN j = true) : spN j = true := by
  unfold kN at h
  unfold spN
  simp only [Bool.or_eq_true, beq_iff_eq] at h
  rcases h with ((rfl | rfl) | rfl) | rfl <;> rfl
theorem kY_s {q j : Nat} (h : kY q j = true) : spY q j = true := by
  unfold kY at h
  unfold spY
  by_cases h0 : q = 0
  · rw [if_pos h0] at h ⊢
    simp only [Bool.or_eq_true, beq_iff_eq] at h ⊢
    omega
  rw [if_neg h0] at h ⊢
  by_cases h1 : q = 1
  · rw [if_pos h1] at h ⊢; exact kN_s h
  rw [if_neg h1] at h ⊢
  by_cases h10 : q = 10
  · subst h10; rfl
  rw [if_neg h10] at h
  by_cases h11 : q = 11
  · subst h11; rfl
  rw [if_neg h11] at h
  by_cases h12 : q = 12
  · subst h12; exact h
  rw [if_neg h12] at h
  by_cases h13 : q = 13
  · subst h13
    rw [if_pos rfl] at h
    rw [if_neg (by decide), if_neg (by decide), if_neg (by decide), if_neg (by decide), if_neg (by decide), if_pos rfl]
    rcases Bool.or_eq_true_iff.mp h with q | q
    · rw [kN_s q]; rfl
    · rw [q]; exact Bool.or_true _
  rw [if_neg h13] at h
  cases h
theorem sk_spc {k j : Nat} (h : sK k j = true) : spc k j = true := by
  unfold sK at h
  unfold spc
  by_cases h0 : k = 0
  · rw [if_pos h0]
  rw [if_neg h0] at h ⊢
  by_cases h1 : k < 361
  · rw [if_pos h1] at h; rw [if_pos (by omega)]; exact kH_s h
  rw [if_neg h1] at h
  by_cases h2 : k < 541
  · rw [if_pos h2] at h; cases h
  rw [if_neg h2] at h ⊢
  by_cases h3 : k = 541
  · subst h3
    rw [if_pos rfl] at h
    rw [if_pos (by decide), if_pos rfl]
    simp only [Bool.or_eq_true, beq_iff_eq] at h
    rcases h with (rfl | rfl) | rfl <;> rfl
  rw [if_neg h3] at h
  by_cases h4 : k = 542
  · subst h4; rfl
  rw [if_neg h4] at h
  by_cases h5 : k < 551
  · rw [if_pos h5] at h; cases h
  rw [if_neg h5] at h ⊢
  exact kY_s h
/-- all that is to be kept, told by the memory as it is -/
theorem si_k {sp : Nat → Nat → Bool} {σ iv : Iv} (hG : SI sp σ iv) (sq : Nat → Nat → Bool) (h : Sk sq) : SI sq iv iv := ⟨fun k j q => sk_spc (h k j q), fun _ _ _ => rfl, hG.2.2⟩
theorem si_0 {sp : Nat → Nat → Bool} {σ iv : Iv} (hG : SI sp σ iv) : SI s0 z0 iv := ⟨fun _ _ h => (by cases h), fun _ _ h => (by cases h), hG.2.2⟩
theorem sk_self : Sk sK := fun _ _ h => h
theorem sk_H {h r j : Nat} (hh : isH h) (hr : r < 180) (e : kH r j = false) : sK (h + r) j = false := by
  have h0 : ¬ h + r = 0 := by rcases hh with rfl | rfl | rfl <;> omega
  have h4 : (h + r - 1) % 180 = r := by rcases hh with rfl | rfl | rfl <;> omega
  have h5 := H_lt hh hr
  unfold sK
  rw [if_neg h0]
  by_cases h1 : h + r < 361
  · rw [if_pos h1, h4]; exact e
  · rw [if_neg h1, if_pos h5]
theorem sk_nH {sp : Nat → Nat → Bool} (hq : Sk sp) {h r j : Nat} (hh : isH h) (hr : r < 180) (e : kH r j = false) : sp (h + r) j = false := sk_no hq (sk_H hh hr e)
/-- the third house is a thought -/
theorem sk_n3 {sp : Nat → Nat → Bool} (hq : Sk sp) {r j : Nat} (hr : r < 180) : sp (361 + r) j = false := by
  refine sk_no hq ?_
  unfold sK
  rw [if_neg (by omega), if_neg (by omega), if_pos (by omega)]
theorem kH_t {r j : Nat} (h1 : 1 < r) (h7 : r ≠ 7) (h2 : r < 46) : kH r j = false := by
  unfold kH
  rw [if_neg (by omega), if_neg (by omega), if_neg h7, if_neg (by omega), if_pos (by omega)]
section TK
variable {sp : Nat → Nat → Bool} {σ iv : Iv} {h : Nat} {x v : Int32} {lo hi : Int}
theorem ark_n (hG : SI sp σ iv) (hq : Sk sp) (hh : isH h) : sp (h + 17) 2 = false ∧ ∀ c j, c < 19 → sp (h + 17 + 2 + c) j = false :=
  ⟨sk_nH hq hh (by omega) (kH_t (by omega) (by omega) (by omega)), fun c j hc => by
    rw [show h + 17 + 2 + c = h + (19 + c) by omega]
    exact sk_nH hq hh (by omega) (kH_t (by omega) (by omega) (by omega))⟩
theorem ark_d (hG : SI sp σ iv) (hq : Sk sp) (hD : sp (h + 7) 2 = false) (hh : isH h) : sp (h + 7) 2 = false ∧ ∀ c j, c < 8 → sp (h + 7 + 2 + c) j = false :=
  ⟨hD, fun c j hc => by
    rw [show h + 7 + 2 + c = h + (9 + c) by omega]
    exact sk_nH hq hh (by omega) (kH_t (by omega) (by omega) (by omega))⟩
theorem nw_lk (hG : SI sp σ iv) {j : Nat} (hj : j < 13) (hs : sp 552 j = false) (h6 : j ≠ 6) (hx : ∀ lo hi, rN j = some (lo, hi) → Ra lo hi v) : SI sp σ (upI iv 552 j v) := si_wN hG hs (by omega) hx
theorem si_wHk (hG : SI sp σ iv) (hh : isH h) (r : Nat) (hr : r < 180) {j : Nat} (hs : sp (h + r) j = false) (hx : ∀ lo hi, rH r j = some (lo, hi) → Ra lo hi x) : SI sp σ (upI iv (h + r) j x) := by
  have := H_lt hh hr
  exact si_w hG (by omega) (by omega) hs (fun lo hi e => hx lo hi ((rg_H hh hr).symm.trans e))
end TK
