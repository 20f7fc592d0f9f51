/-! what may be written into the tables; small sets of cells that are told exactly -/
def qok (k j : Nat) : Bool := (k == 0 && j == 4) || (k == 541 && j == 1) || (k == 551 && (j == 17 || j == 29))
def Sq (sp : Nat → Nat → Bool) : Prop := ∀ k j, sp k j = true → qok k j = true
theorem sq_no {sp : Nat → Nat → Bool} (hq : Sq sp) {k j : Nat} (e : qok k j = false) : sp k j = false := by
  cases q : sp k j with
  | false => rfl
  | true => exact absurd (hq _ _ q) (by rw [e]; decide)
theorem sq_n {sp : Nat → Nat → Bool} (hq : Sq sp) {k j : Nat} (h0 : k ≠ 0) (h1 : k ≠ 541) (h2 : k ≠ 551) : sp k j = false := by
  refine sq_no hq ?_
  unfold qok
  rw [beq_false_of_ne h0, beq_false_of_ne h1, beq_false_of_ne h2]
  rfl
theorem sq_H {sp : Nat → Nat → Bool} (hq : Sq sp) {h r j : Nat} (hh : isH h) (hr : r < 180) : sp (h + r) j = false := by
  have := H_lt hh hr
  exact sq_n hq (by rcases hh with rfl | rfl | rfl <;> omega) (by omega) (by omega)
section T2
variable {sp : Nat → Nat → Bool} {σ iv : Iv} {t cc nn h : Nat} {n a b r v : Int32} {lo hi : Int}
theorem get_ok (q : GetR t cc n iv a b r) (hr : Ra lo hi r) (h0 : 0 ≤ lo) : 0 ≤ b.toInt ∧ b.toInt < n.toInt := by
  rcases q with ⟨q, e⟩ | ⟨q, e⟩
  · exact ⟨q.2.2.1, q.2.2.2⟩
  · have h1 := hr.1
    rw [e] at h1
    have h2 : (-1 : Int32).toInt = -1 := by decide
    omega
theorem get_in (q : GetR t cc n iv a b r) (c : Nat) (ea : a = nI c) (h1 : c < cc) (h2 : c < 2 ^ 31) (hb : 0 ≤ b.toInt ∧ b.toInt < n.toInt) (hcell : ∀ j, Ra lo hi (iv (t + 2 + c) j)) : Ra lo hi r := by
  subst ea
  rcases q with ⟨q, e⟩ | ⟨q, e⟩
  · rw [e, nI_clamp h2]; exact hcell _
  · rw [nI_toInt h2] at q
    exact absurd ⟨by omega, by omega, hb.1, hb.2⟩ q
theorem get_any (q : GetR t cc n iv a b r) (c : Nat) (ea : a = nI c) (h1 : c < cc) (h2 : c < 2 ^ 31) (hcell : ∀ j, Ra 0 hi (iv (t + 2 + c) j)) : Ra (-1) hi r := by
  subst ea
  rcases q with ⟨q, e⟩ | ⟨q, e⟩
  · rw [e, nI_clamp h2]; exact ra_w (hcell _) (by decide) (Int.le_refl _)
  · have h3 := hcell 0
    have h4 := h3.1; have h5 := h3.2
    have h6 : (-1 : Int32).toInt = -1 := by decide
    rw [e]
    exact ⟨by omega, by omega⟩
theorem spH_r {r : Nat} {j : Nat} (h1 : 17 < r) (h2 : r < 46) : spH r j = false := by
  unfold spH
  rw [if_neg (by omega), if_neg (by omega), if_neg (by omega), if_neg (by omega), if_neg (by omega), if_pos (by omega)]
theorem spH_d {r : Nat} {j : Nat} (h1 : 7 < r) (h2 : r < 17) : spH r j = false := by
  unfold spH
  rw [if_neg (by omega), if_neg (by omega), if_neg (by omega), if_neg (by omega), if_neg (by omega), if_pos (by omega)]
theorem pd_f (hG : SI sp σ iv) (hh : isH h) (ha : Ra lo hi a) (h2 : 2 ≤ lo) : ∀ j c : Nat, c < 8 → (c : Int) = a.toInt → (∀ l u, rgI (h + 7 + 2 + c) j = some (l, u) → Ra l u v) ∧ sp (h + 7 + 2 + c) j = false := by
  intro j c hc e
  have := ha.1
  rw [show h + 7 + 2 + c = h + (9 + c) by omega]
  refine ⟨fun l u q => ?_, sp_no hG ((spc_H hh (by omega)).trans (spH_d (by omega) (by omega)))⟩
  rw [rg_H hh (by omega)] at q
  rcases (by omega : c = 2 ∨ c = 3 ∨ c = 4 ∨ c = 5 ∨ c = 6 ∨ c = 7) with rfl | rfl | rfl | rfl | rfl | rfl <;> cases q
theorem pd_r (hG : SI sp σ iv) (hh : isH h) (ha : Ra lo hi a) (h2 : 0 ≤ lo) (h3 : hi ≤ 1) (hv : Ra 0 11 v) : ∀ j c : Nat, c < 8 → (c : Int) = a.toInt → (∀ l u, rgI (h + 7 + 2 + c) j = some (l, u) → Ra l u v) ∧ sp (h + 7 + 2 + c) j = false := by
  intro j c hc e
  have := ha.2
  rw [show h + 7 + 2 + c = h + (9 + c) by omega]
  refine ⟨fun l u q => ?_, sp_no hG ((spc_H hh (by omega)).trans (spH_d (by omega) (by omega)))⟩
  rw [rg_H hh (by omega)] at q
  rcases (by omega : c = 0 ∨ c = 1) with rfl | rfl <;> cases q <;> exact hv
theorem pn_f (hG : SI sp σ iv) (hh : isH h) (ha : Ra lo hi a) (h2 : 1 ≤ lo) : ∀ j c : Nat, c < 19 → (c : Int) = a.toInt → (∀ l u, rgI (h + 17 + 2 + c) j = some (l, u) → Ra l u v) ∧ sp (h + 17 + 2 + c) j = false := by
  intro j c hc e
  have := ha.1
  rw [show h + 17 + 2 + c = h + (19 + c) by omega]
  refine ⟨fun l u q => ?_, sp_no hG ((spc_H hh (by omega)).trans (spH_r (by omega) (by omega)))⟩
  rw [rg_H hh (by omega)] at q
  rcases (by omega : c = 1 ∨ c = 2 ∨ c = 3 ∨ c = 4 ∨ c = 5 ∨ c = 6 ∨ c = 7 ∨ c = 8 ∨ c = 9 ∨ c = 10 ∨ c = 11 ∨ c = 12 ∨ c = 13 ∨ c = 14 ∨ c = 15 ∨ c = 16 ∨ c = 17 ∨ c = 18) with rfl | rfl | rfl | rfl | rfl | rfl | rfl | rfl | rfl | rfl | rfl | rfl | rfl | rfl | rfl | rfl | rfl | rfl <;> cases q
theorem pn_r (hG : SI sp σ iv) (hh : isH h) (ha : Ra lo hi a) (h3 : hi ≤ 0) (hv : Ra 0 11 v) : ∀ j c : Nat, c < 19 → (c : Int) = a.toInt → (∀ l u, rgI (h + 17 + 2 + c) j = some (l, u) → Ra l u v) ∧ sp (h + 17 + 2 + c) j = false := by
  intro j c hc e
  have := ha.2
  rw [show h + 17 + 2 + c = h + (19 + c) by omega]
  refine ⟨fun l u q => ?_, sp_no hG ((spc_H hh (by omega)).trans (spH_r (by omega) (by omega)))⟩
  rw [rg_H hh (by omega)] at q
  rcases (by omega : c = 0) with rfl
  cases q; exact hv
theorem pb_f (hG : SI sp σ iv) (hh : isH h) : ∀ j c : Nat, c < 6 → (c : Int) = a.toInt → (∀ l u, rgI (h + 38 + 2 + c) j = some (l, u) → Ra l u v) ∧ sp (h + 38 + 2 + c) j = false := by
  intro j c hc e
  rw [show h + 38 + 2 + c = h + (40 + c) by omega]
  refine ⟨fun l u q => ?_, sp_no hG ((spc_H hh (by omega)).trans (spH_r (by omega) (by omega)))⟩
  rw [rg_H hh (by omega)] at q
  rcases (by omega : c = 0 ∨ c = 1 ∨ c = 2 ∨ c = 3 ∨ c = 4 ∨ c = 5) with rfl | rfl | rfl | rfl | rfl | rfl <;> cases q
theorem pr_f (hq : Sq sp) : ∀ j c : Nat, c < 6 → (c : Int) = a.toInt → (∀ l u, rgI (543 + 2 + c) j = some (l, u) → Ra l u v) ∧ sp (543 + 2 + c) j = false := by
  intro j c hc e
  refine ⟨fun l u q => ?_, sq_n hq (by omega) (by omega) (by omega)⟩
  rcases (by omega : c = 0 ∨ c = 1 ∨ c = 2 ∨ c = 3 ∨ c = 4 ∨ c = 5) with rfl | rfl | rfl | rfl | rfl | rfl <;> cases q
theorem ar_b (hG : SI sp σ iv) (hh : isH h) : sp (h + 38) 2 = false ∧ ∀ c j, c < 6 → sp (h + 38 + 2 + c) j = false :=
  ⟨sp_no hG ((spc_H hh (by omega)).trans (spH_r (by omega) (by omega))), fun c j hc => by
    rw [show h + 38 + 2 + c = h + (40 + c) by omega]
    exact sp_no hG ((spc_H hh (by omega)).trans (spH_r (by omega) (by omega)))⟩
theorem ar_d (hG : SI sp σ iv) (hq : Sq sp) (hh : isH h) : sp (h + 7) 2 = false ∧ ∀ c j, c < 8 → sp (h + 7 + 2 + c) j = false :=
  ⟨sq_H hq hh (by omega), fun c j hc => by
    rw [show h + 7 + 2 + c = h + (9 + c) by omega]
    exact sq_H hq hh (by omega)⟩
theorem ar_n (hG : SI sp σ iv) (hq : Sq sp) (hh : isH h) : sp (h + 17) 2 = false ∧ ∀ c j, c < 19 → sp (h + 17 + 2 + c) j = false :=
  ⟨sq_H hq hh (by omega), fun c j hc => by
    rw [show h + 17 + 2 + c = h + (19 + c) by omega]
    exact sq_H hq hh (by omega)⟩
theorem ar_r (hG : SI sp σ iv) (hq : Sq sp) : sp 543 2 = false ∧ ∀ c j, c < 6 → sp (543 + 2 + c) j = false :=
  ⟨sq_n hq (by omega) (by omega) (by omega), fun c j hc => sq_n hq (by omega) (by omega) (by omega)⟩
/-- of any memory all cells may be told -/
theorem si_full (hG : SI sp σ iv) : SI spc iv iv := ⟨fun _ _ h => h, fun _ _ _ => rfl, hG.2.2⟩
theorem si_back {i0 : Iv} (hG : SI sp σ i0) (h : SI spc i0 iv) : SI sp σ iv := ⟨hG.1, fun k j q => (h.2.1 k j (hG.1 k j q)).trans (hG.2.1 k j q), h.2.2⟩
end T2
theorem add1 {x z : Int32} (h : z.toInt = x.toInt + (nI 1).toInt) : z.toInt = x.toInt + 1 := by
  have : (nI 1).toInt = 1 := by decide
  omega
