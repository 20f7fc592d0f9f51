/-! what may be written into the tables; small sets of cells that are told exactly -/
def qok (k j : Nat) : Bool := (k == 0 && j == 4) || (k == 541 && j == 1) || (k == 551 && (j == 17 || j == 29)) || (k == 552 && j == 10) || k == 553
def Sq (sp : Nat → Nat → Bool) : Prop := ∀ k j, sp k j = true → qok k j = true
theorem sq_no {sp : Nat → Nat → Bool} (hq : Sq sp) {k j : Nat} (e : qok k j = false) : sp k j = false := by
  cases q : sp k j with
  | false => rfl
  | true => exact absurd (hq _ _ q) (by rw [e]; decide)
theorem sq_n {sp : Nat → Nat → Bool} (hq : Sq sp) {k j : Nat} (h0 : k ≠ 0) (h1 : k ≠ 541) (h2 : k ≠ 551) (h3 : k ≠ 552 := by omega) (h4 : k ≠ 553 := by omega) : sp k j = false := by
  refine sq_no hq ?_
  unfold qok
  rw [beq_false_of_ne h0, beq_false_of_ne h1, beq_false_of_ne h2, beq_false_of_ne h3, beq_false_of_ne h4]
  rfl
theorem sq_H {sp : Nat → Nat → Bool} (hq : Sq sp) {h r j : Nat} (hh : isH h) (hr : r < 180) : sp (h + r) j = false := by
  have := H_lt hh hr
  exact sq_n hq (by rcases hh with rfl | rfl | rfl <;> omega) (by omega) (by omega)
section T2
variable {sp : Nat → Nat → Bool} {σ iv : Iv} {t cc nn h : Nat} {n a b r v : Int32} {lo hi : Int}
theorem get_ok (q : GetR t cc n iv a b r) (hr : Ra lo hi r) (h0 : 0 ≤ lo) : 0 ≤ b.toInt ∧ b.toInt < n.toInt := by
  rcases q with ⟨q, e⟩ | ⟨q, e⟩
  · exact ⟨q.2.2.1, q.2.2.2⟩
  · have h1 := hr.1
    rw [e] at h1
    have h2 : (-1 : Int32).toInt = -1 := by decide
    omega
theorem get_in (q : GetR t cc n iv a b r) (c : Nat) (ea : a = nI c) (h1 : c < cc) (h2 : c < 2 ^ 31) (hb : 0 ≤ b.toInt ∧ b.toInt < n.toInt) (hcell : ∀ j, Ra lo hi (iv (t + 2 + c) j)) : Ra lo hi r := by
  subst ea
  rcases q with ⟨q, e⟩ | ⟨q, e⟩
  · rw [e, nI_clamp h2]; exact hcell _
  · rw [nI_toInt h2] at q
    exact absurd ⟨by omega, by omega, hb.1, hb.2⟩ q
theorem get_any (q : GetR t cc n iv a b r) (c : Nat) (ea : a = nI c) (h1 : c < cc) (h2 : c < 2 ^ 31) (hcell : ∀ j, Ra 0 hi (iv (t + 2 + c) j)) : Ra (-1) hi r := by
  subst ea
  rcases q with ⟨q, e⟩ | ⟨q, e⟩
  · rw [e, nI_clamp h2]; exact ra_w (hcell _) (by decide) (Int.le_refl _)
  · have h3 := hcell 0
    have h4 := h3.1; have h5 := h3.2
    have h6 : (-1 : Int32).toInt = -1 := by decide
    rw [e]
    exact ⟨by omega, by omega⟩
theorem spH_r {r : Nat} {j : Nat} (h1 : 17 < r) (h2 : r < 46) : spH r j = false := by
  unfold spH
  rw [if_neg (by omega), if_neg (by omega), if_neg (by omega), if_neg (by omega), if_neg (by omega), if_pos (by omega)]
theorem spH_d {r : Nat} {j : Nat} (h1 : 7 < r) (h2 : r < 17) : spH r j = false := by
  unfold spH
  rw [if_neg (by omega), if_neg (by omega), if_neg (by omega), if_neg (by omega), if_neg (by omega), if_pos (by omega)]
theorem pd_f (hG : SI sp σ iv) (hh : isH h) (ha : Ra lo hi a) (h2 : 2 ≤ lo) : ∀ j c : Nat, c < 8 → (c : Int) = a.toInt → (∀ l u, rgI (h + 7 + 2 + c) j = some (l, u) → Ra l u v) ∧ sp (h + 7 + 2 + c) j = false := by
  intro j c hc e
  have := ha.1
  rw [show h + 7 + 2 + c = h + (9 + c) by omega]
  refine ⟨fun l u q => ?_, sp_no hG ((spc_H hh (by omega)).trans (spH_d (by omega) (by omega)))⟩
  rw [rg_H hh (by omega)] at q
  rcases (by omega : c = 2 ∨ c = 3 ∨ c = 4 ∨ c = 5 ∨ c = 6 ∨ c = 7) with rfl | rfl | rfl | rfl | rfl | rfl <;> cases q
theorem pd_r (hG : SI sp σ iv) (hh : isH h) (ha : Ra lo hi a) (h2 : 0 ≤ lo) (h3 : hi ≤ 1) (hv : Ra 0 11 v) : ∀ j c : Nat, c < 8 → (c : Int) = a.toInt → (∀ l u, rgI (h + 7 + 2 + c) j = some (l, u) → Ra l u v) ∧ sp (h + 7 + 2 + c) j = false := by
  intro j c hc e
  have := ha.2
  rw [show h + 7 + 2 + c = h + (9 + c) by omega]
  refine ⟨fun l u q => ?_, sp_no hG ((spc_H hh (by omega)).trans (spH_d (by omega) (by omega)))⟩
  rw [rg_H hh (by omega)] at q
  rcases (by omega : c = 0 ∨ c = 1) with rfl | rfl <;> cases q <;> exact hv
theorem pn_f (hG : SI sp σ iv) (hh : isH h) (ha : Ra lo hi a) (h2 : 1 ≤ lo) : ∀ j c : Nat, c < 19 → (c : Int) = a.toInt → (∀ l u, rgI (h + 17 + 2 + c) j = some (l, u) → Ra l u v) ∧ sp (h + 17 + 2 + c) j = false := by
  intro j c hc e
  have := ha.1
  rw [show h + 17 + 2 + c = h + (19 + c) by omega]
  refine ⟨fun l u q => ?_, sp_no hG ((spc_H hh (by omega)).trans (spH_r (by omega) (by omega)))⟩
  rw [rg_H hh (by omega)] at q
  rcases (by omega : c = 1 ∨ c = 2 ∨ c = 3 ∨ c = 4 ∨ c = 5 ∨ c = 6 ∨ c = 7 ∨ c = 8 ∨ c = 9 ∨ c = 10 ∨ c = 11 ∨ c = 12 ∨ c = 13 ∨ c = 14 ∨ c = 15 ∨ c = 16 ∨ c = 17 ∨ c = 18) with rfl | rfl | rfl | rfl | rfl | rfl | rfl | rfl | rfl | rfl | rfl | rfl | rfl | rfl | rfl | rfl | rfl | rfl <;> cases q
theorem pn_r (hG : SI sp σ iv) (hh : isH h) (ha : Ra lo hi a) (h3 : hi ≤ 0) (hv : Ra 0 11 v) : ∀ j c : Nat, c < 19 → (c : Int) = a.toInt → (∀ l u, rgI (h + 17 + 2 + c) j = some (l, u) → Ra l u v) ∧ sp (h + 17 + 2 + c) j = false := by
  intro j c hc e
  have := ha.2
  rw [show h + 17 + 2 + c = h + (19 + c) by omega]
  refine ⟨fun l u q => ?_, sp_no hG ((spc_H hh (by omega)).trans (spH_r (by omega) (by omega)))⟩
  rw [rg_H hh (by omega)] at q
  rcases (by omega : c = 0) with rfl
  cases q; exact hv
theorem pb_f (hG : SI sp σ iv) (hh : isH h) : ∀ j c : Nat, c < 6 → (c : Int) = a.toInt → (∀ l u, rgI (h + 38 + 2 + c) j = some (l, u) → Ra l u v) ∧ sp (h + 38 + 2 + c) j = false := by
  intro j c hc e
  rw [show h + 38 + 2 + c = h + (40 + c) by omega]
  refine ⟨fun l u q => ?_, sp_no hG ((spc_H hh (by omega)).trans (spH_r (by omega) (by omega)))⟩
  rw [rg_H hh (by omega)] at q
  rcases (by omega : c = 0 ∨ c = 1 ∨ c = 2 ∨ c = 3 ∨ c = 4 ∨ c = 5) with rfl | rfl | rfl | rfl | rfl | rfl <;> cases q
theorem pr_f (hq : Sq sp) : ∀ j c : Nat, c < 6 → (c : Int) = a.toInt → (∀ l u, rgI (543 + 2 + c) j = some (l, u) → Ra l u v) ∧ sp (543 + 2 + c) j = false := by
  intro j c hc e
  refine ⟨fun l u q => ?_, sq_n hq (by omega) (by omega) (by omega)⟩
  rcases (by omega : c = 0 ∨ c = 1 ∨ c = 2 ∨ c = 3 ∨ c = 4 ∨ c = 5) with rfl | rfl | rfl | rfl | rfl | rfl <;> cases q
theorem ar_b (hG : SI sp σ iv) (hh : isH h) : sp (h + 38) 2 = false ∧ ∀ c j, c < 6 → sp (h + 38 + 2 + c) j = false :=
  ⟨sp_no hG ((spc_H hh (by omega)).trans (spH_r (by omega) (by omega))), fun c j hc => by
    rw [show h + 38 + 2 + c = h + (40 + c) by omega]
    exact sp_no hG ((spc_H hh (by omega)).trans (spH_r (by omega) (by omega)))⟩
theorem ar_d (hG : SI sp σ iv) (hq : Sq sp) (hh : isH h) : sp (h + 7) 2 = false ∧ ∀ c j, c < 8 → sp (h + 7 + 2 + c) j = false :=
  ⟨sq_H hq hh (by omega), fun c j hc => by
    rw [show h + 7 + 2 + c = h + (9 + c) by omega]
    exact sq_H hq hh (by omega)⟩
theorem ar_n (hG : SI sp σ iv) (hq : Sq sp) (hh : isH h) : sp (h + 17) 2 = false ∧ ∀ c j, c < 19 → sp (h + 17 + 2 + c) j = false :=
  ⟨sq_H hq hh (by omega), fun c j hc => by
    rw [show h + 17 + 2 + c = h + (19 + c) by omega]
    exact sq_H hq hh (by omega)⟩
theorem ar_r (hG : SI sp σ iv) (hq : Sq sp) : sp 543 2 = false ∧ ∀ c j, c < 6 → sp (543 + 2 + c) j = false :=
  ⟨sq_n hq (by omega) (by omega) (by omega), fun c j hc => sq_n hq (by omega) (by omega) (by omega)⟩
/-- of any memory all cells may be told -/
theorem si_full (hG : SI sp σ iv) : SI spc iv iv := ⟨fun _ _ h => h, fun _ _ _ => rfl, hG.2.2⟩
theorem si_fulld (hG : SI sp σ iv) : SI spd iv iv := ⟨fun k j h => by unfold spd at h; exact (Bool.and_eq_true_iff.mp h).2, fun _ _ _ => rfl, hG.2.2⟩
theorem spd_N {j : Nat} (h : spc 552 j = true) : spd 552 j = true := by unfold spd; rw [h]; rfl
theorem sq_d {sp : Nat → Nat → Bool} (hq : Sq sp) {k j : Nat} (h : sp k j = true) (hc : spc k j = true) : spd k j = true := by
  unfold spd
  rw [hc]
  cases q : (k == 551 && j == 14) with
  | false =>
    cases w : (k == 560) with
    | false => rfl
    | true =>
      have e1 := eq_of_beq w
      subst e1
      exact absurd (sq_n hq (k := 560) (j := j) (by decide) (by decide) (by decide)) (by rw [h]; decide)
  | true =>
    have e := Bool.and_eq_true_iff.mp q
    have e1 := eq_of_beq e.1
    have e2 := eq_of_beq e.2
    subst e1 e2
    exact absurd (hq _ _ h) (by decide)
theorem si_backd {i0 : Iv} (hq : Sq sp) (hG : SI sp σ i0) (h : SI spd i0 iv) : SI sp σ iv := ⟨hG.1, fun k j q => (h.2.1 k j (sq_d hq q (hG.1 k j q))).trans (hG.2.1 k j q), h.2.2⟩
theorem si_back {i0 : Iv} (hG : SI sp σ i0) (h : SI spc i0 iv) : SI sp σ iv := ⟨hG.1, fun k j q => (h.2.1 k j (hG.1 k j q)).trans (hG.2.1 k j q), h.2.2⟩
end T2
theorem add1 {x z : Int32} (h : z.toInt = x.toInt + (nI 1).toInt) : z.toInt = x.toInt + 1 := by
  have : (nI 1).toInt = 1 := by decide
  omega
/-! the reference's row of numbers -/
section RNW
variable {sp : Nat → Nat → Bool} {σ iv : Iv} {h : Nat} {x v : Int32} {lo hi : Int}
theorem si_wHq (hG : SI sp σ iv) (hq : Sq sp) (hh : isH h) (r : Nat) (hr : r < 180) {j : Nat} (hx : ∀ lo hi, rH r j = some (lo, hi) → Ra lo hi x) : SI sp σ (upI iv (h + r) j x) := by
  have := H_lt hh hr
  exact si_w hG (by omega) (by omega) (sq_H hq hh hr) (fun lo hi e => hx lo hi ((rg_H hh hr).symm.trans e))
theorem ne_cl {n : Nat} (hx : Ra lo hi x) (h0 : 0 ≤ lo) (h : (n : Int) < lo ∨ hi < (n : Int)) : n ≠ x.toNatClampNeg := by
  have h1 := hx.1; have h2 := hx.2
  have e := ra_clamp hx h0
  rcases h with q | q <;> omega
theorem cl_e {n : Int} (e : x.toInt = n) (h0 : 0 ≤ n) : ((x.toNatClampNeg : Nat) : Int) = n := (ra_clamp (lo := n) (hi := n) ⟨by omega, by omega⟩ h0).trans e
theorem rN_t {j : Nat} {t c : Int} (ht : 0 ≤ t ∧ t < 200) (hc : 0 ≤ c ∧ c < 8) (e : (j : Int) = 15110 + 8 * t + c) : rN j = if c < 2 then some (0, 11) else if c = 2 then some (0, 5) else none := by
  unfold rN
  have h8 : (((j - 15110) % 8 : Nat) : Int) = c := by omega
  rw [if_neg (by omega), if_neg (by omega), if_neg (by omega), if_neg (by omega), if_neg (by omega), if_pos (by omega)]
  by_cases q : c < 2
  · rw [if_pos (by omega), if_pos q]
  · rw [if_neg (by omega), if_neg q]
    by_cases q2 : c = 2
    · rw [if_pos (by omega), if_pos q2]
    · rw [if_neg (by omega), if_neg q2]
theorem rN_n {j : Nat} {t c : Int} (ht : 0 ≤ t ∧ t < 60) (hc : 0 ≤ c ∧ c < 20) (e : (j : Int) = 16710 + 20 * t + c) : rN j = if c = 0 then some (0, 11) else if c = 1 then some (0, 5) else if c = 5 then some (0, 200) else none := by
  unfold rN
  have h8 : (((j - 16710) % 20 : Nat) : Int) = c := by omega
  rw [if_neg (by omega), if_neg (by omega), if_neg (by omega), if_neg (by omega), if_neg (by omega), if_neg (by omega), if_pos (by omega)]
  by_cases q : c = 0
  · rw [if_pos (by omega), if_pos q]
  · rw [if_neg (by omega), if_neg q]
    by_cases q2 : c = 1
    · rw [if_pos (by omega), if_pos q2]
    · rw [if_neg (by omega), if_neg q2]
      by_cases q5 : c = 5
      · rw [if_pos (by omega), if_pos q5]
      · rw [if_neg (by omega), if_neg q5]
theorem rg_Y {q j : Nat} : rgI (551 + q) j = rY q j := by
  unfold rgI
  rw [if_neg (by omega), if_neg (by omega), if_neg (by omega), if_neg (by omega), if_neg (by omega), show 551 + q - 551 = q by omega]
theorem spc_Y {q j : Nat} : spc (551 + q) j = spY q j := by
  unfold spc
  rw [if_neg (by omega), if_neg (by omega), if_neg (by omega), show 551 + q - 551 = q by omega]
theorem rg_N {j : Nat} : rgI 552 j = rN j := (rg_Y (q := 1)).trans (by unfold rY; rw [if_neg (by decide), if_pos rfl])
theorem spc_N {j : Nat} : spc 552 j = spN j := (spc_Y (q := 1)).trans (by unfold spY; rw [if_neg (by decide), if_pos rfl])
theorem nr_j {j : Nat} (hG : SI sp σ iv) (e : rN j = some (lo, hi)) : Ra lo hi (iv 552 j) := si_c hG (rg_N.trans e)
theorem nr_t01 (hG : SI sp σ iv) (t : Int) (ht : 0 ≤ t ∧ t < 200) (h0 : 0 ≤ x.toInt - 15110 - 8 * t) (h1 : x.toInt - 15110 - 8 * t ≤ 1) : Ra 0 11 (iv 552 x.toNatClampNeg) :=
  nr_j hG ((rN_t (c := x.toInt - 15110 - 8 * t) ht ⟨h0, by omega⟩ ((cl_e rfl (by omega)).trans (by omega))).trans (if_pos (by omega)))
theorem nr_t2 (hG : SI sp σ iv) (t : Int) (ht : 0 ≤ t ∧ t < 200) (h0 : 2 ≤ x.toInt - 15110 - 8 * t) (h1 : x.toInt - 15110 - 8 * t ≤ 2) : Ra 0 5 (iv 552 x.toNatClampNeg) :=
  nr_j hG ((rN_t (c := x.toInt - 15110 - 8 * t) ht ⟨by omega, by omega⟩ ((cl_e rfl (by omega)).trans (by omega))).trans ((if_neg (by omega)).trans (if_pos (by omega))))
theorem nr_n0 (hG : SI sp σ iv) (t : Int) (ht : 0 ≤ t ∧ t < 60) (h0 : 0 ≤ x.toInt - 16710 - 20 * t) (h1 : x.toInt - 16710 - 20 * t ≤ 0) : Ra 0 11 (iv 552 x.toNatClampNeg) :=
  nr_j hG ((rN_n (c := x.toInt - 16710 - 20 * t) ht ⟨h0, by omega⟩ ((cl_e rfl (by omega)).trans (by omega))).trans (if_pos (by omega)))
theorem nr_n1 (hG : SI sp σ iv) (t : Int) (ht : 0 ≤ t ∧ t < 60) (h0 : 1 ≤ x.toInt - 16710 - 20 * t) (h1 : x.toInt - 16710 - 20 * t ≤ 1) : Ra 0 5 (iv 552 x.toNatClampNeg) :=
  nr_j hG ((rN_n (c := x.toInt - 16710 - 20 * t) ht ⟨by omega, by omega⟩ ((cl_e rfl (by omega)).trans (by omega))).trans ((if_neg (by omega)).trans (if_pos (by omega))))
theorem nr_n5 (hG : SI sp σ iv) (t : Int) (ht : 0 ≤ t ∧ t < 60) (h0 : 5 ≤ x.toInt - 16710 - 20 * t) (h1 : x.toInt - 16710 - 20 * t ≤ 5) : Ra 0 200 (iv 552 x.toNatClampNeg) :=
  nr_j hG ((rN_n (c := x.toInt - 16710 - 20 * t) ht ⟨by omega, by omega⟩ ((cl_e rfl (by omega)).trans (by omega))).trans ((if_neg (by omega)).trans ((if_neg (by omega)).trans (if_pos (by omega)))))
theorem nr_lm (hG : SI sp σ iv) (h0 : 348 ≤ x.toInt) (h1 : x.toInt ≤ 419) : Ra 0 100 (iv 552 x.toNatClampNeg) := by
  have e := cl_e (x := x) rfl (by omega)
  refine nr_j hG ?_
  unfold rN
  rw [if_neg (by omega), if_neg (by omega), if_pos (by omega)]
theorem nr_ld (hG : SI sp σ iv) (h0 : 420 ≤ x.toInt) (h1 : x.toInt ≤ 7763) : Ra 0 99 (iv 552 x.toNatClampNeg) := by
  have e := cl_e (x := x) rfl (by omega)
  refine nr_j hG ?_
  unfold rN
  rw [if_neg (by omega), if_neg (by omega), if_neg (by omega), if_pos (by omega)]
/-- a write that touches neither the lots' days nor their number nor the day -/
theorem lots_w {n : Nat → Int32} {j : Nat} (h : Lots n) (hj : j < 6 ∨ (6 < j ∧ j < 348) ∨ 7764 ≤ j) : Lots (upd n j v) := by
  intro c hc
  have u : ∀ a, (a = 6 ∨ (348 ≤ a ∧ a < 7764)) → upd n j v a = n a := fun a ha => by
    unfold upd
    exact if_neg (by omega)
  refine ⟨fun a b hab hb9 hb => ?_, fun a ha9 ha => ?_⟩
  · rw [u _ (Or.inr (by omega))] at hb
    rw [u _ (Or.inr (by omega)), u _ (Or.inr (by omega))]
    exact (h c hc).1 a b hab hb9 hb
  · rw [u _ (Or.inr (by omega))] at ha
    rw [u _ (Or.inr (by omega)), u _ (Or.inl rfl)]
    exact (h c hc).2 a ha9 ha
theorem si_wN (hG : SI sp σ iv) {j : Nat} (hs : sp 552 j = false) (hj : j < 6 ∨ (6 < j ∧ j < 348) ∨ 7764 ≤ j) (hx : ∀ lo hi, rN j = some (lo, hi) → Ra lo hi v) : SI sp σ (upI iv 552 j v) := by
  refine ⟨hG.1, fun a b q => ?_, fun a b lo hi q => ?_, ?_, ?_⟩
  · rw [upI_at]
    by_cases e : a = 552 ∧ b = j
    · obtain ⟨rfl, rfl⟩ := e
      rw [hs] at q; cases q
    · rw [if_neg e]; exact hG.2.1 _ _ q
  · rw [upI_at]
    by_cases e : a = 552 ∧ b = j
    · rw [if_pos e]
      obtain ⟨rfl, rfl⟩ := e
      exact hx _ _ (rg_N.symm.trans q)
    · rw [if_neg e]; exact hG.2.2.1 _ _ _ _ q
  · rw [upI_s]; exact lots_w hG.2.2.2.1 hj
  · rw [upI_n (by decide)]; exact hG.2.2.2.2
theorem spN_hi {j : Nat} (h : 13 ≤ j) : spN j = false := by
  unfold spN
  rw [decide_eq_false (by omega), beq_false_of_ne (by omega), beq_false_of_ne (by omega)]
  rfl
theorem si_wN2 (hG : SI sp σ iv) {j : Nat} (h13 : 13 ≤ j) (hj : j < 348 ∨ 7764 ≤ j) (hx : ∀ lo hi, rN j = some (lo, hi) → Ra lo hi v) : SI sp σ (upI iv 552 j v) :=
  si_wN hG (sp_no hG (spc_N.trans (spN_hi h13))) (by omega) hx
theorem nw_l9 (hG : SI sp σ iv) (hx : Ra 0 300 v) : SI sp σ (upI iv 552 9 v) := si_wN hG (sp_no hG (spc_N.trans rfl)) (by omega) (rx_some hx)
theorem nw_lq (hG : SI sp σ iv) (hq : Sq sp) {j : Nat} (hj : j < 13) (h6 : j ≠ 6) (h11 : j ≠ 10) (hx : ∀ lo hi, rN j = some (lo, hi) → Ra lo hi v) : SI sp σ (upI iv 552 j v) := si_wN hG (sq_no hq (by unfold qok; rw [beq_false_of_ne h11]; rfl)) (by omega) hx
theorem nw_10 (hG : SI sp σ iv) (hP : sp 552 10 = false) (hx : Ra 0 24 v) : SI sp σ (upI iv 552 10 v) := si_wN hG hP (by omega) (rx_some hx)
/-- the day goes on -/
theorem nw_day (hG : SI sp σ iv) (hs : sp 552 6 = false) {y : Int32} (ey : iv 552 6 = y) (h : y.toInt ≤ v.toInt) (hv : Ra 0 99 v) : SI sp σ (upI iv 552 6 v) := by
  refine ⟨hG.1, fun a b q => ?_, fun a b lo hi q => ?_, ?_, ?_⟩
  · rw [upI_at]
    by_cases e : a = 552 ∧ b = 6
    · obtain ⟨rfl, rfl⟩ := e
      rw [hs] at q; cases q
    · rw [if_neg e]; exact hG.2.1 _ _ q
  · rw [upI_at]
    by_cases e : a = 552 ∧ b = 6
    · rw [if_pos e]
      obtain ⟨rfl, rfl⟩ := e
      exact rx_some hv _ _ (rg_N.symm.trans q)
    · rw [if_neg e]; exact hG.2.2.1 _ _ _ _ q
  · rw [upI_s]
    intro c hc
    have u : ∀ a, a ≠ 6 → upd (iv 552) 6 v a = iv 552 a := fun a ha => by unfold upd; exact if_neg ha
    have u6 : upd (iv 552) 6 v 6 = v := by unfold upd; exact if_pos rfl
    refine ⟨fun a b hab hb9 hb => ?_, fun a ha9 ha => ?_⟩
    · rw [u _ (by omega)] at hb
      rw [u _ (by omega), u _ (by omega)]
      exact (hG.2.2.2.1 c hc).1 a b hab hb9 hb
    · rw [u _ (by omega)] at ha
      rw [u _ (by omega), u6]
      have := (hG.2.2.2.1 c hc).2 a ha9 ha
      rw [ey] at this
      omega
  · rw [upI_n (by decide)]; exact hG.2.2.2.2
theorem nw_l (hG : SI sp σ iv) {j : Nat} (hj : j < 348 ∧ 6 < j) (hs : spN j = false) (hx : rN j = none) : SI sp σ (upI iv 552 j v) := si_wN hG (sp_no hG (spc_N.trans hs)) (by omega) (rx_none hx)
theorem nw_free (hG : SI sp σ iv) (h : (13 ≤ x.toInt ∧ x.toInt < 348) ∨ (7764 ≤ x.toInt ∧ x.toInt < 15110) ∨ 17910 ≤ x.toInt) : SI sp σ (upI iv 552 x.toNatClampNeg v) := by
  have e := cl_e (x := x) rfl (by omega)
  refine si_wN2 hG (by omega) (by omega) (rx_none ?_)
  unfold rN
  rcases h with q | q | q
  · rw [if_neg (by omega), if_pos (by omega)]
  · rw [if_neg (by omega), if_neg (by omega), if_neg (by omega), if_neg (by omega), if_pos (by omega)]
  · rw [if_neg (by omega), if_neg (by omega), if_neg (by omega), if_neg (by omega), if_neg (by omega), if_neg (by omega), if_neg (by omega)]
theorem nw_t (hG : SI sp σ iv) (t : Int) (ht : 0 ≤ t ∧ t < 200) (h0 : 3 ≤ x.toInt - 15110 - 8 * t) (h1 : x.toInt - 15110 - 8 * t ≤ 7) : SI sp σ (upI iv 552 x.toNatClampNeg v) := by
  have e := cl_e (x := x) rfl (by omega)
  exact si_wN2 hG (by omega) (by omega) (rx_none ((rN_t (c := x.toInt - 15110 - 8 * t) ht ⟨by omega, by omega⟩ (e.trans (by omega))).trans ((if_neg (by omega)).trans (if_neg (by omega)))))
theorem nw_t01 (hG : SI sp σ iv) (t : Int) (ht : 0 ≤ t ∧ t < 200) (h0 : 0 ≤ x.toInt - 15110 - 8 * t) (h1 : x.toInt - 15110 - 8 * t ≤ 1) (hv : Ra 0 11 v) : SI sp σ (upI iv 552 x.toNatClampNeg v) := by
  have e := cl_e (x := x) rfl (by omega)
  refine si_wN2 hG (by omega) (by omega) ?_
  rw [rN_t (c := x.toInt - 15110 - 8 * t) ht ⟨by omega, by omega⟩ (e.trans (by omega)), if_pos (by omega)]
  exact rx_some hv
theorem nw_t2 (hG : SI sp σ iv) (t : Int) (ht : 0 ≤ t ∧ t < 200) (h0 : 2 ≤ x.toInt - 15110 - 8 * t) (h1 : x.toInt - 15110 - 8 * t ≤ 2) (hv : Ra 0 5 v) : SI sp σ (upI iv 552 x.toNatClampNeg v) := by
  have e := cl_e (x := x) rfl (by omega)
  refine si_wN2 hG (by omega) (by omega) ?_
  rw [rN_t (c := x.toInt - 15110 - 8 * t) ht ⟨by omega, by omega⟩ (e.trans (by omega)), if_neg (by omega), if_pos (by omega)]
  exact rx_some hv
theorem nw_n (hG : SI sp σ iv) (t : Int) (ht : 0 ≤ t ∧ t < 60) (h0 : 6 ≤ x.toInt - 16710 - 20 * t) (h1 : x.toInt - 16710 - 20 * t ≤ 19) : SI sp σ (upI iv 552 x.toNatClampNeg v) := by
  have e := cl_e (x := x) rfl (by omega)
  exact si_wN2 hG (by omega) (by omega) (rx_none ((rN_n (c := x.toInt - 16710 - 20 * t) ht ⟨by omega, by omega⟩ (e.trans (by omega))).trans ((if_neg (by omega)).trans ((if_neg (by omega)).trans (if_neg (by omega))))))
theorem nw_nb (hG : SI sp σ iv) (t : Int) (ht : 0 ≤ t ∧ t < 60) (h0 : 2 ≤ x.toInt - 16710 - 20 * t) (h1 : x.toInt - 16710 - 20 * t ≤ 4) : SI sp σ (upI iv 552 x.toNatClampNeg v) := by
  have e := cl_e (x := x) rfl (by omega)
  exact si_wN2 hG (by omega) (by omega) (rx_none ((rN_n (c := x.toInt - 16710 - 20 * t) ht ⟨by omega, by omega⟩ (e.trans (by omega))).trans ((if_neg (by omega)).trans ((if_neg (by omega)).trans (if_neg (by omega))))))
theorem nw_nn (hG : SI sp σ iv) (t c : Int) (ht : 0 ≤ t ∧ t < 60) (hc : 0 ≤ c ∧ c < 20) (e9 : x.toInt = 16710 + 20 * t + c) (hv : ∀ lo hi, (if c = 0 then some ((0 : Int), (11 : Int)) else if c = 1 then some (0, 5) else if c = 5 then some (0, 200) else none) = some (lo, hi) → Ra lo hi v) : SI sp σ (upI iv 552 x.toNatClampNeg v) := by
  have e := cl_e (x := x) rfl (by omega)
  refine si_wN2 hG (by omega) (by omega) ?_
  rw [rN_n (c := c) ht hc (e.trans (by omega))]
  exact hv
theorem nw_n0 (hG : SI sp σ iv) (t : Int) (ht : 0 ≤ t ∧ t < 60) (h0 : 0 ≤ x.toInt - 16710 - 20 * t) (h1 : x.toInt - 16710 - 20 * t ≤ 0) (hv : Ra 0 11 v) : SI sp σ (upI iv 552 x.toNatClampNeg v) := nw_nn hG t 0 ht (by omega) (by omega) (rx_some hv)
theorem nw_n1 (hG : SI sp σ iv) (t : Int) (ht : 0 ≤ t ∧ t < 60) (h0 : 1 ≤ x.toInt - 16710 - 20 * t) (h1 : x.toInt - 16710 - 20 * t ≤ 1) (hv : Ra 0 5 v) : SI sp σ (upI iv 552 x.toNatClampNeg v) := nw_nn hG t 1 ht (by omega) (by omega) (rx_some hv)
theorem nw_n5 (hG : SI sp σ iv) (t : Int) (ht : 0 ≤ t ∧ t < 60) (h0 : 5 ≤ x.toInt - 16710 - 20 * t) (h1 : x.toInt - 16710 - 20 * t ≤ 5) (hv : Ra 0 200 v) : SI sp σ (upI iv 552 x.toNatClampNeg v) := nw_nn hG t 5 ht (by omega) (by omega) (rx_some hv)
theorem nw_nz (hG : SI sp σ iv) (t : Int) (ht : 0 ≤ t ∧ t < 60) (h0 : 0 ≤ x.toInt - 16710 - 20 * t) (h1 : x.toInt - 16710 - 20 * t ≤ 19) (hv : Ra 0 0 v) : SI sp σ (upI iv 552 x.toNatClampNeg v) := by
  refine nw_nn hG t (x.toInt - 16710 - 20 * t) ht ⟨by omega, by omega⟩ (by omega) ?_
  by_cases q : x.toInt - 16710 - 20 * t = 0
  · rw [if_pos q]; exact rx_some (ra_w hv (by decide) (by decide))
  · rw [if_neg q]
    by_cases q1 : x.toInt - 16710 - 20 * t = 1
    · rw [if_pos q1]; exact rx_some (ra_w hv (by decide) (by decide))
    · rw [if_neg q1]
      by_cases q5 : x.toInt - 16710 - 20 * t = 5
      · rw [if_pos q5]; exact rx_some (ra_w hv (by decide) (by decide))
      · rw [if_neg q5]; exact rx_none rfl
theorem si_wY (hG : SI sp σ iv) (q : Nat) {j : Nat} (h1 : q ≠ 1) (h2 : q ≠ 13) (hs : spY q j = false) (hx : ∀ lo hi, rY q j = some (lo, hi) → Ra lo hi v) : SI sp σ (upI iv (551 + q) j v) := by
  exact si_w hG (by omega) (by omega) (sp_no hG (spc_Y.trans hs)) (fun lo hi q => hx lo hi (rg_Y.symm.trans q))
theorem nr_l (hG : SI sp σ iv) (j : Nat) (e : rN j = some (lo, hi)) : Ra lo hi (iv 552 j) := nr_j hG e
theorem si_Y (hG : SI sp σ iv) (q : Nat) {j : Nat} (e : rY q j = some (lo, hi)) : Ra lo hi (iv (551 + q) j) := si_c hG (rg_Y.trans e)
end RNW
theorem nw_15 {sp : Nat → Nat → Bool} {σ iv : Iv} {x v : Int32} (hG : SI sp σ iv) (hq : Sq sp) (hx : Ra 1 5 x) : SI sp σ (upI iv 552 x.toNatClampNeg v) := by
  have h1 := hx.1; have h2 := hx.2
  have e := ra_clamp hx (by decide)
  refine si_wN hG (sq_no hq ?_) (by omega) (rx_none ?_)
  · unfold qok
    rw [beq_false_of_ne (a := x.toNatClampNeg) (b := 10) (by omega)]
    rfl
  · unfold rN
    rw [if_pos (by omega), if_neg (by omega), if_neg (by omega), if_neg (by omega), if_neg (by omega), if_neg (by omega), if_neg (by omega)]
/-- of the ints only these have changed -/
def Fw (lo hi : Nat) (iv iv' : Iv) : Prop := ∀ k j, (k = 552 ∧ (j = 9 ∨ (lo ≤ j ∧ j < hi))) ∨ iv' k j = iv k j
theorem fw_refl {lo hi : Nat} {iv : Iv} : Fw lo hi iv iv := fun _ _ => Or.inr rfl
theorem fw_w {lo hi : Nat} {a b : Iv} {k j : Nat} {x : Int32} (h : Fw lo hi a b) (hj : k ≠ k ∨ j = 9 ∨ (lo ≤ j ∧ j < hi)) (hk : k = 552 := by rfl) : Fw lo hi a (upI b k j x) := fun e i => by
  subst hk
  by_cases q : e = 552 ∧ i = j
  · obtain ⟨rfl, rfl⟩ := q
    exact Or.inl ⟨rfl, hj.resolve_left (fun w => w rfl)⟩
  · rw [upI_at, if_neg q]
    exact h e i
/-- the ranges alone -/
def S0 (iv : Iv) : Prop := ∀ k j lo hi, rgI k j = some (lo, hi) → Ra lo hi (iv k j)
theorem nr_lm0 {iv : Iv} {x : Int32} (hG : S0 iv) (h0 : 348 ≤ x.toInt) (h1 : x.toInt ≤ 419) : Ra 0 100 (iv 552 x.toNatClampNeg) := by
  have e := cl_e (x := x) rfl (by omega)
  refine hG _ _ _ _ (rg_N.trans ?_)
  unfold rN
  rw [if_neg (by omega), if_neg (by omega), if_pos (by omega)]
theorem nr_ld0 {iv : Iv} {x : Int32} (hG : S0 iv) (h0 : 420 ≤ x.toInt) (h1 : x.toInt ≤ 7763) : Ra 0 99 (iv 552 x.toNatClampNeg) := by
  have e := cl_e (x := x) rfl (by omega)
  refine hG _ _ _ _ (rg_N.trans ?_)
  unfold rN
  rw [if_neg (by omega), if_neg (by omega), if_neg (by omega), if_pos (by omega)]
/-! the place in the plan too -/
def spP (sp : Nat → Nat → Bool) (k j : Nat) : Bool := sp k j || (k == 552 && j == 10)
theorem spP_or {sp : Nat → Nat → Bool} {k j : Nat} (h : spP sp k j = true) : sp k j = true ∨ (k = 552 ∧ j = 10) := by
  unfold spP at h
  rcases Bool.or_eq_true_iff.mp h with e | e
  · exact Or.inl e
  · have e := Bool.and_eq_true_iff.mp e
    exact Or.inr ⟨eq_of_beq e.1, eq_of_beq e.2⟩
theorem spP_10 {sp : Nat → Nat → Bool} : spP sp 552 10 = true := by
  unfold spP
  exact Bool.or_eq_true_iff.mpr (Or.inr rfl)
theorem sqP {sp : Nat → Nat → Bool} (hq : Sq sp) : Sq (spP sp) := fun k j h => by
  rcases spP_or h with e | ⟨rfl, rfl⟩
  · exact hq k j e
  · rfl
theorem si_fullP {sp : Nat → Nat → Bool} {σ iv : Iv} (hG : SI sp σ iv) : SI (spP sp) iv iv := ⟨fun k j h => by
  rcases spP_or h with e | ⟨rfl, rfl⟩
  · exact hG.1 k j e
  · exact spc_N.trans rfl, fun _ _ _ => rfl, hG.2.2⟩
theorem si_backP {sp : Nat → Nat → Bool} {σ i0 iv : Iv} (hG : SI sp σ i0) (h : SI (spP sp) i0 iv) : SI sp σ iv := ⟨hG.1, fun k j q => (h.2.1 k j (Bool.or_eq_true_iff.mpr (Or.inl q))).trans (hG.2.1 k j q), h.2.2⟩
