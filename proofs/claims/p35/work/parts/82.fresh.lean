/-! THE MEMORY that the constructors leave -/
def wds : List Int32 := [nI 32, nI 98, nI 117, nI 121, nI 32, nI 97, nI 112, nI 97, nI 114, nI 116, nI 32, nI 115, nI 116, nI 111, nI 99, nI 107, nI 32, nI 114, nI 101, nI 115, nI 101, nI 114, nI 118, nI 101, nI 32, nI 108, nI 101, nI 110, nI 100, nI 32, nI 114, nI 97, nI 110, nI 107, nI 32, nI 112, nI 114, nI 105, nI 99, nI 101, nI 32, nI 103, nI 105, nI 118, nI 101, nI 32, nI 99, nI 97, nI 108, nI 108, nI 32, nI 110, nI 105, nI 103, nI 104, nI 116, nI 32]
def wd : Nat → Nat → Int32
  | 0 => fun _ => 0
  | k + 1 => upd (wd k) k (wds.getD k 0)
def iv0 : Iv := fun k => if k = 562 then wd 57 else fun j => (s1I (fun _ => 0) 0 k j).getD 0
def lv0 : Lv := fun _ _ => 0
def fr (g : GE) (k : Nat) : va_E := cA g k (iv0 k) (lv0 k)
theorem o0 : Ok1 (fun _ => 0) 0 iv0 lv0 := by
  refine ⟨fun k j x hx => ?_, fun k j x hx => ?_⟩
  · unfold iv0
    by_cases h : k = 562
    · subst h
      have h2 : s1I (fun _ => 0) 0 562 j = none := rfl
      rw [h2] at hx
      cases hx
    · rw [if_neg h, hx]
      rfl
  · show (0 : Int64) = x
    unfold s1L at hx
    unfold s1Lh at hx
    repeat' (first | (cases hx; done) | (cases hx; rfl) | (split at hx))
theorem iz {k : Nat} (h : k ≠ 562) (hz : ∀ j y, s1I (fun _ => 0) 0 k j = some y → y = 0) : iv0 k = fun _ => 0 := by
  funext j
  unfold iv0
  rw [if_neg h]
  cases hx : s1I (fun _ => 0) 0 k j with
  | none => rfl
  | some y => exact hz j y hx
theorem i0 {k j : Nat} (h : k ≠ 562) (hz : s1I (fun _ => 0) 0 k j = none) : iv0 k j = 0 := by
  unfold iv0
  rw [if_neg h, hz]
  rfl
theorem fr_c {g : GE} {k : Nat} {F : FF} (h : Cl g k F) : fr g k = F (iv0 k) (lv0 k) := by
  unfold fr
  rw [h.2]
theorem fr_I {g : GE} {k n : Nat} (h : IsI g k n) (hk : k ≠ 562) (hz : ∀ j y, s1I (fun _ => 0) 0 k j = some y → y = 0) : fr g k = aI g n (fun _ => 0) (fun _ => 0) := by
  rw [fr_c h.1, iz hk hz]
theorem fr_L {g : GE} {k n : Nat} (h : IsL g k n) : fr g k = aL g n (fun _ => 0) (fun _ => 0) := by
  rw [fr_c h.1]
  rfl
theorem fr_Z {g : GE} {k n : Nat} (h : IsZ g k n) (hk : k ≠ 562) (hz : ∀ j y, s1I (fun _ => 0) 0 k j = some y → y = 0) : fr g k = aZ g n (fun _ => 0) (fun _ => 0) := by
  rw [fr_c h.1, iz hk hz]
theorem hz_H {h : Nat} (hh : isH h) (r : Nat) (hr : r < 180) (hx : ∀ j, s1H 0 r j = none ∨ s1H 0 r j = some 0) : ∀ j y, s1I (fun _ => 0) 0 (h + r) j = some y → y = 0 := fun j => w1_H (dd := fun _ => 0) hh r hr (hx j)
theorem hh562 {h r : Nat} (hh : isH h) (hr : r < 180) : h + r ≠ 562 := by rcases hh with rfl | rfl | rfl <;> omega
theorem m562 {m q : Nat} (hm : isM m) (hq : q < 20) : m + q ≠ 562 := by
  obtain ⟨h, i, hh, hi, rfl⟩ := hm
  have := hh562 (r := 60 + 20 * i + q) hh (by omega)
  omega
theorem t562 {t c n q : Nat} (ht : isT t c n) (hq : q < 2 + c) : t + q ≠ 562 := by
  rcases ht with ⟨h, hh, h1 | h1 | h1 | h1⟩ | h1
  · obtain ⟨rfl, rfl, rfl⟩ := h1
    have := hh562 (r := 7 + q) hh (by omega)
    omega
  · obtain ⟨rfl, rfl, rfl⟩ := h1
    have := hh562 (r := 17 + q) hh (by omega)
    omega
  · obtain ⟨rfl, rfl, rfl⟩ := h1
    have := hh562 (r := 38 + q) hh (by omega)
    omega
  · obtain ⟨rfl, rfl, rfl⟩ := h1
    have := hh562 (r := 46 + q) hh (by omega)
    omega
  · obtain ⟨rfl, rfl, rfl⟩ := h1
    omega
theorem fr_Tr {g : GE} {t c n k : Nat} (ht : isT t c n) (hk : k < c) : fr g (t + 2 + k) = aI g n (fun _ => 0) (fun _ => 0) :=
  fr_I (ck_Tr ht hk) (by have := t562 (q := 2 + k) ht (by omega); omega) (fun j => w1_tr (dd := fun _ => 0) ht hk)
theorem fr_T0 {t c n : Nat} (ht : isT t c n) : iv0 t 2 = nI 0 := by
  rcases ht with ⟨h, hh, h1 | h1 | h1 | h1⟩ | h1
  · obtain ⟨rfl, rfl, rfl⟩ := h1
    exact a1_cd o0 hh
  · obtain ⟨rfl, rfl, rfl⟩ := h1
    exact a1_cn o0 hh
  · obtain ⟨rfl, rfl, rfl⟩ := h1
    exact a1_cb o0 hh
  · obtain ⟨rfl, rfl, rfl⟩ := h1
    exact a1_cp o0 hh
  · obtain ⟨rfl, rfl, rfl⟩ := h1
    exact a1_draft o0
theorem fr_T {g : GE} {t c n : Nat} (ht : isT t c n) : fr g t = .inr (2, [rf g (t + 1), .int (nI n), .int (nI 0)]) := by
  rw [fr_c (ck_T ht)]
  show Sum.inr (2, [rf g (t + 1), .int (nI n), .int (iv0 t 2)]) = _
  rw [fr_T0 ht]
theorem fr_Tc {g : GE} {t c n : Nat} (ht : isT t c n) : fr g (t + 1) = aR g 4 c (fun i => t + 2 + i) (fun _ => 0) (fun _ => 0) := by
  rw [fr_c (ck_Tc ht).1]
theorem fr_M {g : GE} {m : Nat} (hm : isM m) : fr g m = .inr (4, [rf g (m + 1), rf g (m + 2), rf g (m + 3), rf g (m + 4), rf g (m + 5), rf g (m + 6), rf g (m + 7), .int (nI 100), .int (nI 100), .int (nI 0), .int (nI 0)]) := by
  rw [fr_c (ck_M hm)]
  show Sum.inr (4, [rf g (m + 1), rf g (m + 2), rf g (m + 3), rf g (m + 4), rf g (m + 5), rf g (m + 6), rf g (m + 7), .int (iv0 m 7), .int (iv0 m 8), .int (iv0 m 9), .int (iv0 m 10)]) = _
  rw [a1_price o0 hm, a1_marked o0 hm, a1_payout o0 hm, a1_endDay o0 hm]
theorem fr_mi {g : GE} {m : Nat} (hm : isM m) (q : Nat) (hq : 2 ≤ q ∧ q < 7) : fr g (m + q) = aI g 12 (fun _ => 0) (fun _ => 0) := fr_I (ck_mi q hq hm) (m562 hm (by omega)) (fun j => w1_mi (dd := fun _ => 0) hm q hq rfl)
theorem fr_row {g : GE} {m k : Nat} (hm : isM m) (hk : k < 12) : fr g (m + 8 + k) = aI g 100 (fun _ => 0) (fun _ => 0) := fr_I (ck_row hm hk) (by have := m562 (q := 8 + k) hm (by omega); omega) (fun j => w1_row (dd := fun _ => 0) hm hk rfl)
theorem fr_lots {g : GE} {m : Nat} (hm : isM m) : fr g (m + 7) = aR g 4 12 (fun i => m + 8 + i) (fun _ => 0) (fun _ => 0) := by
  rw [fr_c (ck_lots hm).1]
theorem fr_N {g : GE} {h : Nat} (hh : isH h) : fr g (h + 54) = .inr (3, [rf g (h + 54 + 1), rf g (h + 54 + 2), .int (nI 0), rf g (h + 54 + 3)]) := by
  rw [fr_c (ck_line hh)]
  show Sum.inr (3, [rf g (h + 54 + 1), rf g (h + 54 + 2), .int (iv0 (h + 54) 2), rf g (h + 54 + 3)]) = _
  rw [a1_ln o0 hh]
theorem fr_H {g : GE} {h : Nat} (hh : isH h) : fr g h = .inr (1, [rf g (h + 1), rf g (h + 2), rf g (h + 3), rf g (h + 4), rf g (h + 5), rf g (h + 6), rf g (h + 7), rf g (h + 17), rf g (h + 38), rf g (h + 46), .int (nI 0), .int (nI 0), .long 0, rf g (h + 54), rf g (h + 58), .int (nI 0), rf g (h + 59)]) := by
  rw [fr_c (ck_H hh)]
  show Sum.inr (1, [rf g (h + 1), rf g (h + 2), rf g (h + 3), rf g (h + 4), rf g (h + 5), rf g (h + 6), rf g (h + 7), rf g (h + 17), rf g (h + 38), rf g (h + 46), .int (iv0 h 10), .int (iv0 h 11), .long 0, rf g (h + 54), rf g (h + 58), .int (iv0 h 15), rf g (h + 59)]) = _
  have e15 : iv0 h 15 = nI 0 := i0 (hh562 (r := 0) hh (by omega)) ((s1_H (r := 0) hh (by omega)).trans rfl)
  rw [a1_planDone o0 hh, a1_day o0 hh, e15]
theorem fr_mk {g : GE} {h : Nat} (hh : isH h) : fr g (h + 6) = aR g 3 6 (fun i => h + 60 + 20 * i) (fun _ => 0) (fun _ => 0) := by
  rw [fr_c (ck_markets hh).1]
theorem fr_told {g : GE} {h : Nat} (hh : isH h) : fr g (h + 1) = aI g 7 (va_cpy (sV 0) (fun _ => 0) 0 0 7) (fun _ => 0) := by
  rw [fr_c (ck_told hh).1]
  show Sum.inl (gE g 0, 7, Sum.inl (iv0 (h + 1))) = _
  have e : iv0 (h + 1) = va_cpy (sV 0) (fun _ => 0) 0 0 7 := by
    funext j
    rw [a1_told o0 hh j]
    unfold va_cpy
    by_cases hj : j < 7
    · rw [if_pos (by omega)]
      rcases (show j = 0 ∨ j = 1 ∨ j = 2 ∨ j = 3 ∨ j = 4 ∨ j = 5 ∨ j = 6 by omega) with rfl | rfl | rfl | rfl | rfl | rfl | rfl <;> decide
    · rw [if_neg (by omega)]
      unfold tfN
      rw [if_neg (by omega), if_neg (by omega), if_neg (by omega), if_neg (by omega), if_neg (by omega), if_neg (by omega)]
      rfl
  rw [e]
theorem fr_R {g : GE} : fr g 541 = .inr (5, [rf g 542, .int (nI 0), rf g 543, .int (nI 0), .int (nI 0), .int (-1)]) := by
  rw [fr_c ck_R]
  show Sum.inr (5, [rf g 542, .int (iv0 541 1), rf g 543, .int (iv0 541 3), .int (iv0 541 4), .int (iv0 541 5)]) = _
  rw [a1_length o0, a1_place o0, a1_fault o0, a1_faultP o0]
theorem fr_X {g : GE} : fr g 0 = .inr (0, [rf g 1, rf g 181, rf g 361, rf g 541, .int (nI 0)]) := by
  rw [fr_c ck_X]
  show Sum.inr (0, [rf g 1, rf g 181, rf g 361, rf g 541, .int (iv0 0 4)]) = _
  rw [a1_isKept o0]
theorem iy {q j : Nat} (hq : q ≠ 11) (hz : s1I (fun _ => 0) 0 (551 + q) j = none ∨ s1I (fun _ => 0) 0 (551 + q) j = some 0) : iv0 (551 + q) j = 0 := by
  rcases hz with h | h
  · exact i0 (by omega) h
  · exact o0.1 _ _ _ h
theorem fr_Y {g : GE} : fr g 551 = .inr (6, [.int 0, rf g 552, rf g 553, rf g 554, rf g 555, .int 0, .int 0, .int 0, rf g 556, .int 0, .int 0, rf g 557, rf g 558, rf g 559, .int 0, rf g 560, rf g 561, .int 0, .int 0, .int 0, .int 0, .int 0, rf g 562, .int 0, .int 0, .int 0, .int (-1), .int 0, rf g 563, .int 0, rf g 564, rf g 565]) := by
  rw [fr_c ck_Y]
  show Sum.inr (6, [.int (iv0 551 0), rf g 552, rf g 553, rf g 554, rf g 555, .int (iv0 551 5), .int (iv0 551 6), .int (iv0 551 7), rf g 556, .int (iv0 551 9), .int (iv0 551 10), rf g 557, rf g 558, rf g 559, .int (iv0 551 14), rf g 560, rf g 561, .int (iv0 551 17), .int (iv0 551 18), .int (iv0 551 19), .int (iv0 551 20), .int (iv0 551 21), rf g 562, .int (iv0 551 23), .int (iv0 551 24), .int (iv0 551 25), .int (iv0 551 26), .int (iv0 551 27), rf g 563, .int (iv0 551 29), rf g 564, rf g 565]) = _
  rw [show iv0 551 0 = 0 from rfl, show iv0 551 5 = 0 from rfl, show iv0 551 6 = 0 from rfl, show iv0 551 7 = 0 from rfl, show iv0 551 9 = 0 from rfl, show iv0 551 10 = 0 from rfl, show iv0 551 14 = 0 from rfl, show iv0 551 17 = 0 from rfl, show iv0 551 18 = 0 from rfl, show iv0 551 19 = 0 from rfl, show iv0 551 20 = 0 from rfl, show iv0 551 21 = 0 from rfl, show iv0 551 23 = 0 from rfl, show iv0 551 24 = 0 from rfl, show iv0 551 25 = 0 from rfl, show iv0 551 26 = -1 from rfl, show iv0 551 27 = 0 from rfl, show iv0 551 29 = 0 from rfl]
theorem fr_words {g : GE} : fr g 562 = aI g 57 (wd 57) (fun _ => 0) := by
  rw [fr_c ck_words.1]
  rfl
theorem hz_Y {k : Nat} (hk : 552 ≤ k ∧ k < 566) : ∀ j y, s1I (fun _ => 0) 0 k j = some y → y = 0 := by
  intro j y h
  unfold s1I at h
  rw [if_neg (by omega), if_neg (by omega), if_neg (by omega), if_neg (by omega), if_neg (by omega)] at h
  unfold s1Y at h
  rw [if_neg (by omega)] at h
  by_cases h1 : k - 551 = 1
  · rw [if_pos h1] at h
    by_cases h2 : j = 6
    · rw [if_pos h2] at h
      cases h
      rfl
    · rw [if_neg h2] at h
      cases h
      rfl
  · rw [if_neg h1] at h
    cases h
theorem fr_YI {g : GE} {k n : Nat} (h : IsI g k n) (hk : 552 ≤ k ∧ k < 566) (h2 : k ≠ 562) : fr g k = aI g n (fun _ => 0) (fun _ => 0) := fr_I h h2 (hz_Y hk)
/-! what a constructor's memory looks like while it runs: one cell, or three, not yet as they will be -/
def Fm (g : GE) (a : Nat) (M0 : CM) : CM := fun k => if k < a then M0 k else fr g k
def X1 (g : GE) (a : Nat) (M0 : CM) (e1 : va_E) : CM := fun k => if k = a then e1 else Fm g a M0 k
def X3 (g : GE) (a : Nat) (M0 : CM) (e1 e2 e3 : va_E) : CM := fun k => if k = a then e1 else if k = a + 1 then e2 else if k = a + 6 then e3 else Fm g a M0 k
section XF
variable {g : GE} {a n k : Nat} {M0 : CM} {e e1 e2 e3 : va_E}
theorem Fm_ge (h : a ≤ k) : Fm g a M0 k = fr g k := if_neg (by omega)
theorem upC_same {M : CM} (h : M k = e) : upC M k e = M := by
  funext q
  unfold upC
  by_cases hq : q = k
  · rw [if_pos hq, hq, h]
  · rw [if_neg hq]
theorem X1_at : X1 g a M0 e1 a = e1 := if_pos rfl
theorem X1_ot (h : a < k) : X1 g a M0 e1 k = fr g k := (if_neg (by omega)).trans (Fm_ge (by omega))
theorem X1_new (h : a < n) (he : fr g n = e) : upC (X1 g a M0 e1) n e = X1 g a M0 e1 := upC_same ((X1_ot h).trans he)
theorem X1_put : upC (X1 g a M0 e1) a e = X1 g a M0 e := by
  funext q
  unfold upC X1
  by_cases hq : q = a
  · rw [if_pos hq, if_pos hq]
  · rw [if_neg hq, if_neg hq, if_neg hq]
theorem X1_end (h : fr g a = e1) : X1 g a M0 e1 = Fm g a M0 := by
  funext q
  unfold X1
  by_cases hq : q = a
  · rw [if_pos hq, hq, Fm_ge (Nat.le_refl _), h]
  · rw [if_neg hq]
theorem X1_start (h : M0 a = e1) : ∀ q, q < a + 1 → M0 q = X1 g a M0 e1 q := fun q hq => by
  unfold X1 Fm
  by_cases h1 : q = a
  · rw [if_pos h1, h1, h]
  · rw [if_neg h1, if_pos (by omega)]
theorem X1_mna {N K : Nat} (h : a < n) (h0 : fr g n = aR g 4 N (fun i => n + 1 + i) (fun _ => 0) (fun _ => 0)) (h1 : ∀ i, i < N → fr g (n + 1 + i) = aI g K (fun _ => 0) (fun _ => 0)) : ∀ q, q < n + 1 + N → gmM g n N K (X1 g a M0 e1) q = X1 g a M0 e1 q := fun q hq => by
  unfold gmM
  by_cases h2 : q < n
  · rw [if_pos h2]
  · rw [if_neg h2, X1_ot (by omega)]
    by_cases h3 : q = n
    · rw [if_pos h3, h3, h0]
    · rw [if_neg h3]
      have := h1 (q - n - 1) (by omega)
      rw [show n + 1 + (q - n - 1) = q by omega] at this
      exact this.symm
theorem X1_call (h : a < n) : Fm g n (upC (X1 g a M0 e1) n e) = X1 g a M0 e1 := by
  funext q
  unfold Fm
  by_cases hq : q < n
  · rw [if_pos hq, upC_n (by omega)]
  · rw [if_neg hq, X1_ot (by omega)]
theorem X3_at1 : X3 g a M0 e1 e2 e3 a = e1 := if_pos rfl
theorem X3_at2 : X3 g a M0 e1 e2 e3 (a + 1) = e2 := (if_neg (by omega)).trans (if_pos rfl)
theorem X3_at3 : X3 g a M0 e1 e2 e3 (a + 6) = e3 := (if_neg (by omega)).trans ((if_neg (by omega)).trans (if_pos rfl))
theorem X3_ot (h : a < k) (h1 : k ≠ a + 1) (h2 : k ≠ a + 6) : X3 g a M0 e1 e2 e3 k = fr g k := (if_neg (by omega)).trans ((if_neg h1).trans ((if_neg h2).trans (Fm_ge (by omega))))
theorem X3_new (h : a < n) (h1 : n ≠ a + 1) (h2 : n ≠ a + 6) (he : fr g n = e) : upC (X3 g a M0 e1 e2 e3) n e = X3 g a M0 e1 e2 e3 := upC_same ((X3_ot h h1 h2).trans he)
theorem X3_put1 : upC (X3 g a M0 e1 e2 e3) a e = X3 g a M0 e e2 e3 := by
  funext q
  unfold upC X3
  by_cases hq : q = a
  · rw [if_pos hq, if_pos hq]
  · rw [if_neg hq, if_neg hq, if_neg hq]
theorem X3_put2 : upC (X3 g a M0 e1 e2 e3) (a + 1) e = X3 g a M0 e1 e e3 := by
  funext q
  unfold upC X3
  by_cases hq : q = a + 1
  · rw [if_pos hq, if_neg (by omega), if_pos hq]
  · rw [if_neg hq, if_neg hq, if_neg hq]
theorem X3_put3 : upC (X3 g a M0 e1 e2 e3) (a + 6) e = X3 g a M0 e1 e2 e := by
  funext q
  unfold upC X3
  by_cases hq : q = a + 6
  · rw [if_pos hq, if_neg (by omega), if_neg (by omega), if_pos hq]
  · rw [if_neg hq, if_neg hq, if_neg hq]
theorem X3_end (h1 : fr g a = e1) (h2 : fr g (a + 1) = e2) (h3 : fr g (a + 6) = e3) : X3 g a M0 e1 e2 e3 = Fm g a M0 := by
  funext q
  unfold X3
  by_cases q1 : q = a
  · rw [if_pos q1, q1, Fm_ge (Nat.le_refl _), h1]
  · rw [if_neg q1]
    by_cases q2 : q = a + 1
    · rw [if_pos q2, q2, Fm_ge (by omega), h2]
    · rw [if_neg q2]
      by_cases q3 : q = a + 6
      · rw [if_pos q3, q3, Fm_ge (by omega), h3]
      · rw [if_neg q3]
theorem X3_start (h : M0 a = e1) : ∀ q, q < a + 1 → M0 q = X3 g a M0 e1 e2 e3 q := fun q hq => by
  unfold X3 Fm
  by_cases h1 : q = a
  · rw [if_pos h1, h1, h]
  · rw [if_neg h1, if_neg (by omega), if_neg (by omega), if_pos (by omega)]
theorem X3_call (h : a + 6 < n) : Fm g n (upC (X3 g a M0 e1 e2 e3) n e) = X3 g a M0 e1 e2 e3 := by
  funext q
  unfold Fm
  by_cases hq : q < n
  · rw [if_pos hq, upC_n (by omega)]
  · rw [if_neg hq, X3_ot (by omega) (by omega) (by omega)]
theorem mk_up {h i : Nat} : va_up (fun j => if j < i then some (gB g + (h + 60 + 20 * j)) else none) i (some (gB g + (h + 60 + 20 * i))) = fun j => if j < i + 1 then some (gB g + (h + 60 + 20 * j)) else none := by
  funext j
  unfold va_up
  by_cases e : j = i
  · rw [if_pos e, if_pos (by omega), e]
  · rw [if_neg e]
    by_cases h1 : j < i
    · have h2 : j < i + 1 := by omega
      simp only [h1, h2, if_true]
    · have h2 : ¬ j < i + 1 := by omega
      simp only [h1, h2, if_false]
end XF
theorem k_at {Z : ZK} {pc : Nat} {L : LO} {st : List Value} {kc ks n kc' ks' n' : Nat} {M : CM} (h1 : n = n') (h2 : kc = kc') (h3 : ks = ks') (k : Z pc L st kc' ks' n' M) : Z pc L st kc ks n M := by
  subst h1
  subst h2
  subst h3
  exact k
