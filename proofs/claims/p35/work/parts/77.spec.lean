/-! READING A PLAN: what is read -/
def hr (t : Nat → Int32) (n p : Nat) : Int32 := if p < n then t p else -1
theorem hr_lt {t : Nat → Int32} {n p : Nat} (h : p < n) : hr t n p = t p := if_pos h
theorem hr_ge {t : Nat → Int32} {n p : Nat} (h : n ≤ p) : hr t n p = -1 := if_neg (by omega)
/-- where a run of such signs ends -/
noncomputable def reF (P : Int32 → Prop) (t : Nat → Int32) (n : Nat) : Nat → Nat → Nat
  | 0, p => p
  | f + 1, p => @ite _ (P (hr t n p)) (Classical.propDecidable _) (reF P t n f (p + 1)) p
noncomputable def re (P : Int32 → Prop) (t : Nat → Int32) (n p : Nat) : Nat := reF P t n (n - p) p
section RE
variable {P : Int32 → Prop} {t : Nat → Int32} {n p j f : Nat}
theorem reF_s (h : P (hr t n p)) : reF P t n (f + 1) p = reF P t n f (p + 1) := if_pos h
theorem reF_n (h : ¬ P (hr t n p)) : reF P t n (f + 1) p = p := if_neg h
theorem re_stop (h : ¬ P (hr t n p)) : re P t n p = p := by
  unfold re
  cases n - p with
  | zero => rfl
  | succ f => exact reF_n h
theorem re_lt (hm : ¬ P (-1)) (h : P (hr t n p)) : p < n := Nat.lt_of_not_le (fun q => hm (by rw [hr_ge q] at h; exact h))
theorem re_step (hm : ¬ P (-1)) (h : P (hr t n p)) : re P t n p = re P t n (p + 1) := by
  have hp := re_lt hm h
  unfold re
  rw [show n - p = (n - (p + 1)) + 1 by omega]
  exact reF_s h
theorem reF_ge : ∀ f p, p ≤ reF P t n f p := by
  intro f
  induction f with
  | zero => intro p; exact Nat.le_refl _
  | succ f ih =>
    intro p
    by_cases h : P (hr t n p)
    · rw [reF_s h]; have := ih (p + 1); omega
    · rw [reF_n h]; exact Nat.le_refl _
theorem re_ge : p ≤ re P t n p := reF_ge _ _
theorem reF_le : ∀ f p, reF P t n f p ≤ p + f := by
  intro f
  induction f with
  | zero => intro p; exact Nat.le_refl _
  | succ f ih =>
    intro p
    by_cases h : P (hr t n p)
    · rw [reF_s h]; have := ih (p + 1); omega
    · rw [reF_n h]; omega
theorem re_le (h : p ≤ n) : re P t n p ≤ n := by
  have := reF_le (P := P) (t := t) (n := n) (n - p) p
  unfold re; omega
theorem reF_all : ∀ f p, p ≤ j → j < reF P t n f p → P (hr t n j) := by
  intro f
  induction f with
  | zero => intro p h1 h2; exact absurd h2 (by unfold reF; omega)
  | succ f ih =>
    intro p h1 h2
    by_cases h : P (hr t n p)
    · rw [reF_s h] at h2
      by_cases e : j = p
      · subst e; exact h
      · exact ih (p + 1) (by omega) h2
    · rw [reF_n h] at h2; omega
theorem re_all (h1 : p ≤ j) (h2 : j < re P t n p) : P (hr t n j) := reF_all _ _ h1 h2
theorem reF_end (hm : ¬ P (-1)) : ∀ f p, n ≤ p + f → ¬ P (hr t n (reF P t n f p)) := by
  intro f
  induction f with
  | zero => intro p h; unfold reF; rw [hr_ge (by omega)]; exact hm
  | succ f ih =>
    intro p h
    by_cases q : P (hr t n p)
    · rw [reF_s q]; exact ih (p + 1) (by omega)
    · rw [reF_n q]; exact q
theorem re_end (hm : ¬ P (-1)) : ¬ P (hr t n (re P t n p)) := reF_end hm _ _ (by omega)
theorem re_is (hm : ¬ P (-1)) {q : Nat} (h1 : p ≤ q) (h2 : ∀ i, p ≤ i → i < q → P (hr t n i)) (h3 : ¬ P (hr t n q)) : re P t n p = q := by
  have a1 := re_ge (P := P) (t := t) (n := n) (p := p)
  rcases Nat.lt_trichotomy (re P t n p) q with w | w | w
  · exact absurd (h2 _ a1 w) (re_end hm)
  · exact w
  · exact absurd (re_all h1 w) h3
end RE
def bl (x : Int32) : Prop := x = nI 32 ∨ x = nI 10
def ltr (x : Int32) : Prop := Rg (nI 97) (nI 122) x ∨ Rg (nI 65) (nI 90) x
def dg (x : Int32) : Prop := Rg (nI 48) (nI 57) x
theorem bl_m : ¬ bl (-1) := by unfold bl; decide
theorem ltr_m : ¬ ltr (-1) := by unfold ltr Rg; decide
theorem dg_m : ¬ dg (-1) := by unfold dg Rg; decide
theorem ltr_dg {x : Int32} (h : ltr x) : ¬ dg x := fun w => by
  have w1 := rgRa (l := 48) (u := 57) w (by decide) (by decide)
  have := w1.1; have := w1.2
  rcases h with h | h
  · have h1 := rgRa (l := 97) (u := 122) h (by decide) (by decide)
    have := h1.1; omega
  · have h1 := rgRa (l := 65) (u := 90) h (by decide) (by decide)
    have := h1.1; omega
theorem ltr_59 : ¬ ltr (nI 59) := by unfold ltr Rg; decide
theorem dg_59 : ¬ dg (nI 59) := by unfold dg Rg; decide
theorem ltr_32 : ¬ ltr (nI 32) := by unfold ltr Rg; decide
/-- the number of so many digits -/
def dv (t : Nat → Int32) (p : Nat) : Nat → Int32
  | 0 => nI 0
  | k + 1 => dv t p k * nI 10 + t (p + k) - nI 48
theorem dv_ra {t : Nat → Int32} {p : Nat} : ∀ k, k ≤ 5 → (∀ j, j < k → dg (t (p + j))) → Ra 0 ((10 : Int) ^ k - 1) (dv t p k) := by
  intro k
  induction k with
  | zero => intro _ _; exact ⟨by show 0 ≤ (nI 0).toInt; decide, by show (nI 0).toInt ≤ (10 : Int) ^ 0 - 1; decide⟩
  | succ k ih =>
    intro hk hd
    have h1 := ih (by omega) (fun j hj => hd j (by omega))
    have h2 := rgRa (l := 48) (u := 57) (hd k (by omega)) (by decide) (by decide)
    have h10 : (10 : Int) ^ k ≤ 10000 := by rcases (by omega : k = 0 ∨ k = 1 ∨ k = 2 ∨ k = 3 ∨ k = 4) with rfl | rfl | rfl | rfl | rfl <;> decide
    have m := ra_mul (y := nI 10) (c := 10) h1 ⟨by decide, by decide⟩ (by decide) (by omega) (by omega)
    have a := ra_add m.2 h2 (by omega) (by omega)
    have s := ra_sub a.2 (y := nI 48) (c := 48) (d := 48) ⟨by decide, by decide⟩ (by omega) (by omega)
    have e10 : (10 : Int) ^ (k + 1) = 10 ^ k * 10 := Int.pow_succ ..
    have e48 : (nI 48).toInt = 48 := by decide
    have q1 := h1.1; have q2 := h1.2; have q3 := h2.1; have q4 := h2.2
    refine ⟨?_, ?_⟩
    · show 0 ≤ (dv t p k * nI 10 + t (p + k) - nI 48).toInt
      rw [s.1, a.1, m.1]; omega
    · show (dv t p k * nI 10 + t (p + k) - nI 48).toInt ≤ _
      rw [s.1, a.1, m.1]; omega
/-- words -/
def wl (k : Nat) : Nat := (sTx k).length
def wc (k i : Nat) : Int32 := (sTx k).getD i 0
def mtc (t : Nat → Int32) (n p k : Nat) : Prop := (∀ i, i < wl k → hr t n (p + i) = wc k i) ∧ ¬ ltr (hr t n (p + wl k))
noncomputable def kdF (t : Nat → Int32) (n p : Nat) : Nat → Nat → Nat
  | 0, k => k
  | f + 1, k => @ite _ (mtc t n p k) (Classical.propDecidable _) k (kdF t n p f (k + 1))
noncomputable def kd (t : Nat → Int32) (n p : Nat) : Nat := kdF t n p 10 0
section KD
variable {t : Nat → Int32} {n p : Nat}
theorem kdF_y {f k : Nat} (h : mtc t n p k) : kdF t n p (f + 1) k = k := if_pos h
theorem kdF_n {f k : Nat} (h : ¬ mtc t n p k) : kdF t n p (f + 1) k = kdF t n p f (k + 1) := if_neg h
theorem kdF_le : ∀ f k, kdF t n p f k ≤ k + f := by
  intro f
  induction f with
  | zero => intro k; exact Nat.le_refl _
  | succ f ih =>
    intro k
    by_cases h : mtc t n p k
    · rw [kdF_y h]; omega
    · rw [kdF_n h]; have := ih (k + 1); omega
theorem kd_le : kd t n p ≤ 10 := by have := kdF_le (t := t) (n := n) (p := p) 10 0; unfold kd; omega
theorem kdF_at {k : Nat} (h : mtc t n p k) : ∀ f j, j ≤ k → k < j + f → (∀ i, j ≤ i → i < k → ¬ mtc t n p i) → kdF t n p f j = k := by
  intro f
  induction f with
  | zero => intro j h1 h2; omega
  | succ f ih =>
    intro j h1 h2 h3
    by_cases e : j = k
    · subst e; exact kdF_y h
    · rw [kdF_n (h3 j (Nat.le_refl _) (by omega))]
      exact ih (j + 1) (by omega) (by omega) (fun i a b => h3 i (by omega) b)
theorem kd_at {k : Nat} (h : mtc t n p k) (hk : k < 10) (hb : ∀ j, j < k → ¬ mtc t n p j) : kd t n p = k := kdF_at h 10 0 (by omega) (by omega) (fun i _ b => hb i b)
theorem kdF_no : ∀ f j, (∀ i, j ≤ i → i < j + f → ¬ mtc t n p i) → kdF t n p f j = j + f := by
  intro f
  induction f with
  | zero => intro j _; rfl
  | succ f ih =>
    intro j h
    rw [kdF_n (h j (Nat.le_refl _) (by omega)), ih (j + 1) (fun i a b => h i (by omega) (by omega))]
    omega
theorem kd_no (h : ∀ j, j < 10 → ¬ mtc t n p j) : kd t n p = 10 := kdF_no 10 0 (fun i _ b => h i (by omega))
theorem kdF_mt : ∀ f j, kdF t n p f j < j + f → mtc t n p (kdF t n p f j) := by
  intro f
  induction f with
  | zero => intro j h; exact absurd h (by unfold kdF; omega)
  | succ f ih =>
    intro j h
    by_cases q : mtc t n p j
    · rw [kdF_y q]; exact q
    · rw [kdF_n q] at h ⊢; exact ih (j + 1) (by omega)
theorem kd_mt (h : kd t n p < 10) : mtc t n p (kd t n p) := kdF_mt 10 0 (by exact h)
end KD
theorem wc_ltr : ∀ k, k < 10 → ∀ i, i < wl k → ltr (wc k i) := by
  have h : ∀ k, k < 10 → ∀ i, i < (sTx k).length → (((nI 97) ≤ (sTx k).getD i 0 ∧ (sTx k).getD i 0 ≤ nI 122) ∨ ((nI 65) ≤ (sTx k).getD i 0 ∧ (sTx k).getD i 0 ≤ nI 90)) := by decide +kernel
  exact h
theorem wl_pos : ∀ k, k < 10 → 0 < wl k := sTx_n
theorem wl_8 : ∀ k, k < 17 → wl k < 8 := sTx_31
/-- a word's run of letters -/
theorem mt_re {t : Nat → Int32} {n p k : Nat} (hk : k < 10) (h : mtc t n p k) : re ltr t n p = p + wl k :=
  re_is ltr_m (by omega) (fun i a b => by
    have := h.1 (i - p) (by omega)
    rw [show p + (i - p) = i by omega] at this
    rw [this]; exact wc_ltr k hk _ (by omega)) h.2
theorem mt_lt {t : Nat → Int32} {n p k : Nat} (hk : k < 10) (h : mtc t n p k) : p + wl k ≤ n := by
  have h0 := wl_pos k hk
  have h1 := h.1 (wl k - 1) (by omega)
  have h2 := wc_ltr k hk (wl k - 1) (by omega)
  rw [← h1] at h2
  have := re_lt (P := ltr) ltr_m h2
  omega
/-- what stands behind a word: how many numbers, their bounds -/
def mn (k : Nat) : Nat := ([5, 5, 3, 3, 3, 2, 2, 3, 1, 1] : List Nat).getD k 0
def lo_b (k i : Nat) : Nat := (([[0, 0, 0, 1, 1], [0, 0, 0, 1, 1], [0, 0, 0], [0, 0, 0], [0, 0, 0], [0, 0], [0, 1], [0, 0, 1], [0], [1]] : List (List Nat)).getD k []).getD i 0
def hi_b (k i : Nat) : Nat := (([[11, 11, 5, 9999, 9999], [11, 11, 5, 9999, 9999], [11, 5, 9999], [11, 5, 9999], [11, 5, 9999], [11, 9], [5, 9999], [11, 5, 9999], [199], [20]] : List (List Nat)).getD k []).getD i 0
theorem mn_5 : ∀ k, k < 10 → mn k ≤ 5 ∧ 0 < mn k := by decide +kernel
/-- the place of the i-th number behind p -/
noncomputable def np (t : Nat → Int32) (n p : Nat) : Nat → Nat
  | 0 => re bl t n p
  | i + 1 => re bl t n (re dg t n (np t n p i))
noncomputable def nf (t : Nat → Int32) (n q a b : Nat) : Nat := @ite _ (re dg t n q = q ∨ 4 < re dg t n q - q) (Classical.propDecidable _) 1 (@ite _ (Rg (nI a) (nI b) (dv t q (re dg t n q - q))) (Classical.propDecidable _) 0 2)
noncomputable def lfF (t : Nat → Int32) (n k p : Nat) : Nat → Nat → Nat × Nat
  | 0, i => @ite _ (hr t n (np t n p i) = nI 59) (Classical.propDecidable _) (0, np t n p i) (1, np t n p i)
  | f + 1, i => @ite _ (nf t n (np t n p i) (lo_b k i) (hi_b k i) = 0) (Classical.propDecidable _) (lfF t n k p f (i + 1)) (nf t n (np t n p i) (lo_b k i) (hi_b k i), np t n p i)
/-- the fault of a line, and its place -/
noncomputable def lf (t : Nat → Int32) (n k p : Nat) : Nat × Nat := lfF t n k p (mn k) 0
noncomputable def nx (t : Nat → Int32) (n p : Nat) : Nat := re bl t n (np t n (p + wl (kd t n p)) (mn (kd t n p)) + 1)
/-- the fault of a plan, its place, and how many lines came ahead of it -/
noncomputable def pf (t : Nat → Int32) (n : Nat) : Nat → Nat → Nat → Nat × Nat × Nat
  | 0, r, p => (0, p, r)
  | f + 1, r, p => @ite _ (n ≤ p) (Classical.propDecidable _) (0, p, r) (@ite _ (kd t n p = 10) (Classical.propDecidable _) (1, p, r) (@ite _ (r = 24) (Classical.propDecidable _) (3, p, r) (@ite _ ((lf t n (kd t n p) (p + wl (kd t n p))).1 = 0) (Classical.propDecidable _) (pf t n f (r + 1) (nx t n p)) ((lf t n (kd t n p) (p + wl (kd t n p))).1, (lf t n (kd t n p) (p + wl (kd t n p))).2, r))))
noncomputable def lpos (t : Nat → Int32) (n : Nat) : Nat → Nat
  | 0 => re bl t n 0
  | r + 1 => nx t n (lpos t n r)
/-- what stands in a line's columns -/
noncomputable def lw (t : Nat → Int32) (n r c : Nat) : Int32 := if c = 0 then nI (kd t n (lpos t n r)) else dv t (np t n (lpos t n r + wl (kd t n (lpos t n r))) (c - 1)) (re dg t n (np t n (lpos t n r + wl (kd t n (lpos t n r))) (c - 1)) - np t n (lpos t n r + wl (kd t n (lpos t n r))) (c - 1))
noncomputable def lm (t : Nat → Int32) (n r : Nat) : Nat := mn (kd t n (lpos t n r))
section PF
variable {t : Nat → Int32} {n f r p q i k a b : Nat}
theorem nf_1 (h : re dg t n q = q ∨ 4 < re dg t n q - q) : nf t n q a b = 1 := if_pos h
theorem nf_0 (h : ¬ (re dg t n q = q ∨ 4 < re dg t n q - q)) (w : Rg (nI a) (nI b) (dv t q (re dg t n q - q))) : nf t n q a b = 0 := (if_neg h).trans (if_pos w)
theorem nf_2 (h : ¬ (re dg t n q = q ∨ 4 < re dg t n q - q)) (w : ¬ Rg (nI a) (nI b) (dv t q (re dg t n q - q))) : nf t n q a b = 2 := (if_neg h).trans (if_neg w)
theorem lfF_0y (h : hr t n (np t n p i) = nI 59) : lfF t n k p 0 i = (0, np t n p i) := if_pos h
theorem lfF_0n (h : ¬ hr t n (np t n p i) = nI 59) : lfF t n k p 0 i = (1, np t n p i) := if_neg h
theorem lfF_y (h : nf t n (np t n p i) (lo_b k i) (hi_b k i) = 0) : lfF t n k p (f + 1) i = lfF t n k p f (i + 1) := if_pos h
theorem lfF_n (h : ¬ nf t n (np t n p i) (lo_b k i) (hi_b k i) = 0) : lfF t n k p (f + 1) i = (nf t n (np t n p i) (lo_b k i) (hi_b k i), np t n p i) := if_neg h
theorem pf_e (h : n ≤ p) : pf t n (f + 1) r p = (0, p, r) := if_pos h
theorem pf_1 (h : ¬ n ≤ p) (h2 : kd t n p = 10) : pf t n (f + 1) r p = (1, p, r) := (if_neg h).trans (if_pos h2)
theorem pf_3 (h : ¬ n ≤ p) (h2 : ¬ kd t n p = 10) (h3 : r = 24) : pf t n (f + 1) r p = (3, p, r) := (if_neg h).trans ((if_neg h2).trans (if_pos h3))
theorem pf_y (h : ¬ n ≤ p) (h2 : ¬ kd t n p = 10) (h3 : ¬ r = 24) (h4 : (lf t n (kd t n p) (p + wl (kd t n p))).1 = 0) : pf t n (f + 1) r p = pf t n f (r + 1) (nx t n p) := (if_neg h).trans ((if_neg h2).trans ((if_neg h3).trans (if_pos h4)))
theorem pf_n (h : ¬ n ≤ p) (h2 : ¬ kd t n p = 10) (h3 : ¬ r = 24) (h4 : ¬ (lf t n (kd t n p) (p + wl (kd t n p))).1 = 0) : pf t n (f + 1) r p = ((lf t n (kd t n p) (p + wl (kd t n p))).1, (lf t n (kd t n p) (p + wl (kd t n p))).2, r) := (if_neg h).trans ((if_neg h2).trans ((if_neg h3).trans (if_neg h4)))
theorem np_le (h : p ≤ n) : ∀ i, np t n p i ≤ n
  | 0 => re_le h
  | i + 1 => re_le (re_le (np_le h i))
theorem np_ge : ∀ i, p ≤ np t n p i
  | 0 => re_ge
  | i + 1 => Nat.le_trans (np_ge i) (Nat.le_trans re_ge re_ge)
end PF
