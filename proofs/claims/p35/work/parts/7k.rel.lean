/-! BOTH MEMORIES: what is told alike -/
def c9m (k j : Nat) : Prop := (k = 552 ∧ j = 0) ∨ (k = 2 ∧ j = 0)
def c9t (k j : Nat) : Prop := (k = 552 ∧ j = 7) ∨ (k = 8 ∧ j = 2)
def c9d (k j : Nat) : Prop := (k = 552 ∧ j = 6) ∨ (k = 1 ∧ j = 11)
def c9p (k j : Nat) : Prop := (k = 551 ∧ j = 27) ∨ (k = 47 ∧ j = 2) ∨ (k = 552 ∧ j = 10) ∨ (k = 1 ∧ j = 10) ∨ (49 ≤ k ∧ k < 55) ∨ (k = 563 ∧ j < 144)
def c9q (k j : Nat) : Prop := (k = 182 ∧ j = 0) ∨ (k = 188 ∧ j = 2) ∨ (k = 181 ∧ (j = 10 ∨ j = 11)) ∨ (k = 227 ∧ j = 2) ∨ (229 ≤ k ∧ k < 235) ∨ (k = 564 ∧ (j = 0 ∨ j = 6 ∨ j = 7 ∨ j = 10 ∨ 19782 ≤ j))
def c9T (k j : Nat) : Prop := (k = 541 ∧ j = 1) ∨ k = 542 ∨ (k = 551 ∧ j = 17) ∨ k = 561
def c9F (k j : Nat) : Prop := (k = 541 ∧ (j = 4 ∨ j = 5)) ∨ (k = 551 ∧ (j = 25 ∨ j = 26))
def c9I (k j : Nat) : Prop := (k = 0 ∧ j = 4) ∨ (k = 551 ∧ j = 29)
def c9W (k _ : Nat) : Prop := k = 562
def uK (k j : Nat) : Prop := c9m k j ∨ c9t k j ∨ c9d k j ∨ c9p k j ∨ c9q k j ∨ c9T k j ∨ c9F k j ∨ c9I k j ∨ c9W k j
noncomputable def spU (rm : Nat → Nat → Prop) (k j : Nat) : Bool := @decide (uK k j ∧ ¬ rm k j) (Classical.propDecidable _)
theorem spt {rm : Nat → Nat → Prop} {k j : Nat} (h : uK k j) (w : ¬ rm k j) : spU rm k j = true := by unfold spU; exact @decide_eq_true _ (Classical.propDecidable _) ⟨h, w⟩
theorem spf {rm : Nat → Nat → Prop} {k j : Nat} (h : ¬ (uK k j ∧ ¬ rm k j)) : spU rm k j = false := by unfold spU; exact @decide_eq_false _ (Classical.propDecidable _) h
theorem spu {rm : Nat → Nat → Prop} {k j : Nat} (h : spU rm k j = true) : uK k j ∧ ¬ rm k j := by unfold spU at h; exact @of_decide_eq_true _ (Classical.propDecidable _) h
theorem sK_h {r j h : Nat} (hh : h = 1 ∨ h = 181) (hr : r < 180) (e : kH r j = true) : sK (h + r) j = true := by
  unfold sK
  rw [if_neg (by omega), if_pos (by omega), show (h + r - 1) % 180 = r by omega]
  exact e
theorem kH_54 {r j : Nat} (h1 : 48 ≤ r) (h2 : r < 54) : kH r j = true := by
  unfold kH
  rw [if_neg (by omega), if_neg (by omega), if_neg (by omega), if_neg (by omega), if_neg (by omega)]
  exact decide_eq_true h2
theorem sK_Y {q j : Nat} (hq : q < 14) (e : kY q j = true) : sK (551 + q) j = true := by
  unfold sK
  rw [if_neg (by omega), if_neg (by omega), if_neg (by omega), if_neg (by omega), if_neg (by omega), if_neg (by omega), show 551 + q - 551 = q by omega]
  exact e
theorem uK_sK {k j : Nat} (h : uK k j) : sK k j = true := by
  unfold uK c9m c9t c9d c9p c9q c9T c9F c9I c9W at h
  rcases h with (⟨rfl, rfl⟩ | ⟨rfl, rfl⟩) | (⟨rfl, rfl⟩ | ⟨rfl, rfl⟩) | (⟨rfl, rfl⟩ | ⟨rfl, rfl⟩) | (⟨rfl, rfl⟩ | ⟨rfl, rfl⟩ | ⟨rfl, rfl⟩ | ⟨rfl, rfl⟩ | ⟨h1, h2⟩ | ⟨rfl, h1⟩) | (⟨rfl, rfl⟩ | ⟨rfl, rfl⟩ | ⟨rfl, rfl | rfl⟩ | ⟨rfl, rfl⟩ | ⟨h1, h2⟩ | ⟨rfl, rfl | rfl | rfl | rfl | h1⟩) | (⟨rfl, rfl⟩ | rfl | ⟨rfl, rfl⟩ | rfl) | (⟨rfl, rfl | rfl⟩ | ⟨rfl, rfl | rfl⟩) | (⟨rfl, rfl⟩ | ⟨rfl, rfl⟩) | rfl
  case inr.inr.inr.inl.inr.inr.inr.inr.inl =>
    rw [show k = 1 + (k - 1) by omega]
    exact sK_h (Or.inl rfl) (by omega) (kH_54 (by omega) (by omega))
  case inr.inr.inr.inl.inr.inr.inr.inr.inr => exact sK_Y (q := 12) (by decide) (by unfold kY; rw [if_neg (by decide), if_neg (by decide), if_neg (by decide), if_neg (by decide), if_pos rfl]; exact decide_eq_true h1)
  case inr.inr.inr.inr.inl.inr.inr.inr.inr.inl =>
    rw [show k = 181 + (k - 181) by omega]
    exact sK_h (Or.inr rfl) (by omega) (kH_54 (by omega) (by omega))
  case inr.inr.inr.inr.inl.inr.inr.inr.inr.inr.inr.inr.inr.inr => exact sK_Y (q := 13) (by decide) (by unfold kY; rw [if_neg (by decide), if_neg (by decide), if_neg (by decide), if_neg (by decide), if_neg (by decide), if_pos rfl, decide_eq_true h1]; exact Bool.or_true _)
  all_goals first | rfl | exact sK_Y (q := 0) (by decide) rfl | exact sK_Y (q := 1) (by decide) rfl | exact sK_Y (q := 10) (by decide) rfl | exact sK_Y (q := 11) (by decide) rfl | exact sK_Y (q := 13) (by decide) rfl
theorem spU_k {rm : Nat → Nat → Prop} : Sk (spU rm) := fun _ _ h => uK_sK (spu h).1
theorem si_u {rm : Nat → Nat → Prop} {iv : Iv} (hG : SI s0 z0 iv) : SI (spU rm) iv iv := si_k hG _ spU_k
/-- so these cells stay -/
theorem ag {rm : Nat → Nat → Prop} {iv iv' : Iv} (h : SI (spU rm) iv iv') {k j : Nat} (hu : uK k j) (w : ¬ rm k j) : iv' k j = iv k j := h.2.1 k j (spt hu w)
section RV
variable {iv iv' : Iv}
/-- row a of a plan: the class's table at p, the reference's row at b, o -/
def PRw (iv : Iv) (p b o a : Nat) : Prop := ∃ k, k < 10 ∧ iv (p + 2) a = nI k ∧ iv b (o + 6 * a) = nI k ∧ ∀ c, 1 ≤ c → c ≤ mn k → iv (p + 2 + c) a = iv b (o + 6 * a + c)
/-- a plan: p the class's table, (pa, 10) the class's place, (b, o) the reference's rows, (cb, cj) how many, (sb, 10) its place -/
def RPl (p pa b o cb cj sb : Nat) (iv : Iv) : Prop := ∃ cnt at9 : Nat, cnt ≤ 24 ∧ at9 ≤ 24 ∧ iv p 2 = nI cnt ∧ iv cb cj = nI cnt ∧ iv pa 10 = nI at9 ∧ iv sb 10 = nI at9 ∧ ∀ a, a < cnt → PRw iv p b o a
def Rm (iv : Iv) : Prop := (iv 552 0).toInt + 6 = (iv 2 0).toInt
def Rt (iv : Iv) : Prop := iv 552 7 = iv 8 2
def Rd (iv : Iv) : Prop := iv 552 6 = iv 1 11
def Rp (iv : Iv) : Prop := RPl 47 1 563 0 551 27 552 iv
def Rq (iv : Iv) : Prop := (iv 564 0).toInt + 6 = (iv 182 0).toInt ∧ iv 564 7 = iv 188 2 ∧ iv 564 6 = iv 181 11 ∧ RPl 227 181 564 19782 564 19926 564 iv
def RT (iv : Iv) : Prop := ∃ (n : Nat) (t : Nat → Int32), n ≤ 400 ∧ Tp 541 1 542 n t iv ∧ Tp 551 17 561 n t iv ∧ ∀ j, j < n → ¬ t j = -1
def RF (iv : Iv) : Prop := iv 551 25 = iv 541 4 ∧ iv 551 26 = iv 541 5
def RI (iv : Iv) : Prop := iv 551 29 = iv 0 4 ∧ (iv 0 4 = 0 ∨ iv 0 4 = nI 1)
def RW (iv : Iv) : Prop := ∀ j, j < 57 → iv 562 j = wtx.getD j 0
def RV (iv : Iv) : Prop := Rm iv ∧ Rt iv ∧ Rd iv ∧ Rp iv ∧ Rq iv ∧ RT iv ∧ RF iv ∧ RI iv ∧ RW iv
theorem rm_f (h : ∀ k j, c9m k j → iv' k j = iv k j) (w : Rm iv) : Rm iv' := by
  unfold Rm
  rw [h 552 0 (Or.inl ⟨rfl, rfl⟩), h 2 0 (Or.inr ⟨rfl, rfl⟩)]; exact w
theorem rt_f (h : ∀ k j, c9t k j → iv' k j = iv k j) (w : Rt iv) : Rt iv' := by
  unfold Rt
  rw [h 552 7 (Or.inl ⟨rfl, rfl⟩), h 8 2 (Or.inr ⟨rfl, rfl⟩)]; exact w
theorem rd_f (h : ∀ k j, c9d k j → iv' k j = iv k j) (w : Rd iv) : Rd iv' := by
  unfold Rd
  rw [h 552 6 (Or.inl ⟨rfl, rfl⟩), h 1 11 (Or.inr ⟨rfl, rfl⟩)]; exact w
theorem rpl_f {p pa b o cb cj sb : Nat} (h1 : iv' p 2 = iv p 2) (h2 : iv' cb cj = iv cb cj) (h3 : iv' pa 10 = iv pa 10) (h4 : iv' sb 10 = iv sb 10) (h5 : ∀ c j, c < 6 → iv' (p + 2 + c) j = iv (p + 2 + c) j) (h6 : ∀ j, j < 144 → iv' b (o + j) = iv b (o + j)) (w : RPl p pa b o cb cj sb iv) : RPl p pa b o cb cj sb iv' := by
  obtain ⟨cnt, at9, hc, ha, e1, e2, e3, e4, hr⟩ := w
  refine ⟨cnt, at9, hc, ha, h1.trans e1, h2.trans e2, h3.trans e3, h4.trans e4, fun a hlt => ?_⟩
  obtain ⟨k, hk, r1, r2, r3⟩ := hr a hlt
  have hm5 := mn_5 k hk
  refine ⟨k, hk, (h5 0 a (by decide)).trans r1, (h6 (6 * a) (by omega)).trans r2, fun c hc1 hc2 => ?_⟩
  rw [h5 c a (by omega), show o + 6 * a + c = o + (6 * a + c) by omega, h6 (6 * a + c) (by omega), ← show o + 6 * a + c = o + (6 * a + c) by omega]
  exact r3 c hc1 hc2
theorem rp_f (h : ∀ k j, c9p k j → iv' k j = iv k j) (w : Rp iv) : Rp iv' := rpl_f (h _ _ (by unfold c9p; omega)) (h _ _ (by unfold c9p; omega)) (h _ _ (by unfold c9p; omega)) (h _ _ (by unfold c9p; omega)) (fun c j hc => h _ _ (by unfold c9p; omega)) (fun j hj => h _ _ (by unfold c9p; omega)) w
theorem rq_f (h : ∀ k j, c9q k j → iv' k j = iv k j) (w : Rq iv) : Rq iv' := by
  refine ⟨?_, ?_, ?_, rpl_f (h _ _ (by unfold c9q; omega)) (h _ _ (by unfold c9q; omega)) (h _ _ (by unfold c9q; omega)) (h _ _ (by unfold c9q; omega)) (fun c j hc => h _ _ (by unfold c9q; omega)) (fun j hj => h _ _ (by unfold c9q; omega)) w.2.2.2⟩
  · rw [h 564 0 (by unfold c9q; omega), h 182 0 (by unfold c9q; omega)]; exact w.1
  · rw [h 564 7 (by unfold c9q; omega), h 188 2 (by unfold c9q; omega)]; exact w.2.1
  · rw [h 564 6 (by unfold c9q; omega), h 181 11 (by unfold c9q; omega)]; exact w.2.2.1
theorem rT_f (h : ∀ k j, c9T k j → iv' k j = iv k j) (w : RT iv) : RT iv' := by
  obtain ⟨n, t, hn, h1, h2, h3⟩ := w
  exact ⟨n, t, hn, tp_c h1 (h _ _ (by unfold c9T; omega)) (fun j => h _ _ (by unfold c9T; omega)), tp_c h2 (h _ _ (by unfold c9T; omega)) (fun j => h _ _ (by unfold c9T; omega)), h3⟩
theorem rF_f (h : ∀ k j, c9F k j → iv' k j = iv k j) (w : RF iv) : RF iv' := by
  unfold RF
  rw [h 551 25 (by unfold c9F; omega), h 541 4 (by unfold c9F; omega), h 551 26 (by unfold c9F; omega), h 541 5 (by unfold c9F; omega)]; exact w
theorem rI_f (h : ∀ k j, c9I k j → iv' k j = iv k j) (w : RI iv) : RI iv' := by
  unfold RI
  rw [h 551 29 (by unfold c9I; omega), h 0 4 (by unfold c9I; omega)]; exact w
theorem rW_f (h : ∀ k j, c9W k j → iv' k j = iv k j) (w : RW iv) : RW iv' := fun j hj => (h 562 j rfl).trans (w j hj)
def rmN (_ _ : Nat) : Prop := False
theorem rv_fr (h : SI (spU rmN) iv iv') (w : RV iv) : RV iv' := by
  have a : ∀ {k j : Nat}, uK k j → iv' k j = iv k j := fun hu => ag h hu (fun z => z)
  exact ⟨rm_f (fun k j z => a (Or.inl z)) w.1, rt_f (fun k j z => a (Or.inr (Or.inl z))) w.2.1, rd_f (fun k j z => a (Or.inr (Or.inr (Or.inl z)))) w.2.2.1, rp_f (fun k j z => a (Or.inr (Or.inr (Or.inr (Or.inl z))))) w.2.2.2.1, rq_f (fun k j z => a (Or.inr (Or.inr (Or.inr (Or.inr (Or.inl z)))))) w.2.2.2.2.1, rT_f (fun k j z => a (Or.inr (Or.inr (Or.inr (Or.inr (Or.inr (Or.inl z))))))) w.2.2.2.2.2.1, rF_f (fun k j z => a (Or.inr (Or.inr (Or.inr (Or.inr (Or.inr (Or.inr (Or.inl z)))))))) w.2.2.2.2.2.2.1, rI_f (fun k j z => a (Or.inr (Or.inr (Or.inr (Or.inr (Or.inr (Or.inr (Or.inr (Or.inl z))))))))) w.2.2.2.2.2.2.2.1, rW_f (fun k j z => a (Or.inr (Or.inr (Or.inr (Or.inr (Or.inr (Or.inr (Or.inr (Or.inr z))))))))) w.2.2.2.2.2.2.2.2⟩
end RV
