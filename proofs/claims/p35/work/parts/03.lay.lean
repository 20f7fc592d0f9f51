/-! LAYOUT: which name is which cell -/
def isH (h : Nat) : Prop := h = 1 ∨ h = 181 ∨ h = 361
def isM (m : Nat) : Prop := ∃ h i, isH h ∧ i < 6 ∧ m = h + 60 + 20 * i
def isT (t c n : Nat) : Prop := (∃ h, isH h ∧ ((t = h + 7 ∧ c = 8 ∧ n = 200) ∨ (t = h + 17 ∧ c = 19 ∧ n = 60) ∨ (t = h + 38 ∧ c = 6 ∧ n = 300) ∨ (t = h + 46 ∧ c = 6 ∧ n = 24))) ∨ (t = 543 ∧ c = 6 ∧ n = 24)
theorem isH_1 : isH 1 := Or.inl rfl
theorem isH_2 : isH 181 := Or.inr (Or.inl rfl)
theorem isH_3 : isH 361 := Or.inr (Or.inr rfl)
theorem isM_of {h i : Nat} (hh : isH h) (hi : i < 6) : isM (h + 60 + 20 * i) := ⟨h, i, hh, hi, rfl⟩
theorem isT_d {h : Nat} (hh : isH h) : isT (h + 7) 8 200 := Or.inl ⟨h, hh, Or.inl ⟨rfl, rfl, rfl⟩⟩
theorem isT_n {h : Nat} (hh : isH h) : isT (h + 17) 19 60 := Or.inl ⟨h, hh, Or.inr (Or.inl ⟨rfl, rfl, rfl⟩)⟩
theorem isT_b {h : Nat} (hh : isH h) : isT (h + 38) 6 300 := Or.inl ⟨h, hh, Or.inr (Or.inr (Or.inl ⟨rfl, rfl, rfl⟩))⟩
theorem isT_p {h : Nat} (hh : isH h) : isT (h + 46) 6 24 := Or.inl ⟨h, hh, Or.inr (Or.inr (Or.inr ⟨rfl, rfl, rfl⟩))⟩
theorem isT_r : isT 543 6 24 := Or.inr ⟨rfl, rfl, rfl⟩
theorem cA_H {g : GE} {h r : Nat} (hh : isH h) (hr : r < 180) : cA g (h + r) = cH g h r ∧ h + r < 566 := by
  unfold cA
  have h1 : ¬ h + r = 0 := by rcases hh with rfl | rfl | rfl <;> omega
  have h2 : h + r < 541 := by rcases hh with rfl | rfl | rfl <;> omega
  have h3 : 1 + 180 * ((h + r - 1) / 180) = h := by rcases hh with rfl | rfl | rfl <;> omega
  have h4 : (h + r - 1) % 180 = r := by rcases hh with rfl | rfl | rfl <;> omega
  rw [if_neg h1, if_pos h2, h3, h4]
  exact ⟨rfl, by omega⟩
theorem ck_H {g : GE} {h : Nat} (hh : isH h) : Cl g h (oH g h) := by
  have := cA_H (g := g) (r := 0) hh (by omega)
  exact ⟨this.2, this.1⟩
theorem ck_told {g : GE} {h : Nat} (hh : isH h) : IsI g (h + 1) 7 := ⟨⟨(cA_H (g := g) hh (by omega)).2, (cA_H (g := g) hh (by omega)).1⟩, by omega⟩
theorem ck_cash {g : GE} {h : Nat} (hh : isH h) : IsL g (h + 2) 12 := ⟨⟨(cA_H (g := g) hh (by omega)).2, (cA_H (g := g) hh (by omega)).1⟩, by omega⟩
theorem ck_rank {g : GE} {h : Nat} (hh : isH h) : IsI g (h + 3) 12 := ⟨⟨(cA_H (g := g) hh (by omega)).2, (cA_H (g := g) hh (by omega)).1⟩, by omega⟩
theorem ck_pledged {g : GE} {h : Nat} (hh : isH h) : IsI g (h + 4) 12 := ⟨⟨(cA_H (g := g) hh (by omega)).2, (cA_H (g := g) hh (by omega)).1⟩, by omega⟩
theorem ck_susp {g : GE} {h : Nat} (hh : isH h) : IsZ g (h + 5) 12 := ⟨⟨(cA_H (g := g) hh (by omega)).2, (cA_H (g := g) hh (by omega)).1⟩, by omega⟩
theorem ck_markets {g : GE} {h : Nat} (hh : isH h) : IsM g (h + 6) 6 (fun i => h + 60 + 20 * i) := ⟨⟨(cA_H (g := g) hh (by omega)).2, (cA_H (g := g) hh (by omega)).1⟩, by omega⟩
theorem ck_line {g : GE} {h : Nat} (hh : isH h) : Cl g (h + 54) (oN g (h + 54)) := ⟨(cA_H (g := g) hh (by omega)).2, (cA_H (g := g) hh (by omega)).1⟩
theorem ck_lineM {g : GE} {h : Nat} (hh : isH h) : IsI g (h + 54 + 1) 1200 := ⟨⟨(cA_H (g := g) hh (r := 55) (by omega)).2, (cA_H (g := g) hh (r := 55) (by omega)).1⟩, by omega⟩
theorem ck_lineD {g : GE} {h : Nat} (hh : isH h) : IsI g (h + 54 + 2) 1200 := ⟨⟨(cA_H (g := g) hh (r := 56) (by omega)).2, (cA_H (g := g) hh (r := 56) (by omega)).1⟩, by omega⟩
theorem ck_lineR {g : GE} {h : Nat} (hh : isH h) : IsI g (h + 54 + 3) 12 := ⟨⟨(cA_H (g := g) hh (r := 57) (by omega)).2, (cA_H (g := g) hh (r := 57) (by omega)).1⟩, by omega⟩
theorem ck_chain {g : GE} {h : Nat} (hh : isH h) : IsI g (h + 58) 12 := ⟨⟨(cA_H (g := g) hh (by omega)).2, (cA_H (g := g) hh (by omega)).1⟩, by omega⟩
theorem ck_parts {g : GE} {h : Nat} (hh : isH h) : IsI g (h + 59) 12 := ⟨⟨(cA_H (g := g) hh (by omega)).2, (cA_H (g := g) hh (by omega)).1⟩, by omega⟩
theorem cA_M {g : GE} {m q : Nat} (hm : isM m) (hq : q < 20) : cA g (m + q) = cM g m q ∧ m + q < 566 := by
  obtain ⟨h, i, hh, hi, rfl⟩ := hm
  have := cA_H (g := g) (r := 60 + 20 * i + q) hh (by omega)
  rw [show h + 60 + 20 * i + q = h + (60 + 20 * i + q) by omega]
  refine ⟨this.1.trans ?_, this.2⟩
  unfold cH
  rw [if_neg (by omega), if_neg (by omega), if_neg (by omega), if_neg (by omega), if_neg (by omega), if_neg (by omega), if_neg (by omega), if_neg (by omega), if_neg (by omega), if_neg (by omega), if_neg (by omega), if_neg (by omega)]
  rw [show (60 + 20 * i + q - 60) / 20 = i by omega, show (60 + 20 * i + q - 60) % 20 = q by omega]
theorem ck_M {g : GE} {m : Nat} (hm : isM m) : Cl g m (oM g m) := ⟨(cA_M (g := g) (q := 0) hm (by omega)).2, (cA_M (g := g) (q := 0) hm (by omega)).1⟩
theorem ck_stock {g : GE} {m : Nat} (hm : isM m) : IsL g (m + 1) 12 := ⟨⟨(cA_M (g := g) hm (by omega)).2, (cA_M (g := g) hm (by omega)).1⟩, by omega⟩
theorem ck_mi {g : GE} {m : Nat} (q : Nat) (hq : 2 ≤ q ∧ q < 7) (hm : isM m) : IsI g (m + q) 12 := by
  refine ⟨⟨(cA_M (g := g) hm (by omega)).2, (cA_M (g := g) hm (by omega)).1.trans ?_⟩, by omega⟩
  unfold cM
  rw [if_neg (by omega), if_neg (by omega), if_pos (by omega)]
theorem ck_lots {g : GE} {m : Nat} (hm : isM m) : IsG g (m + 7) 12 (fun i => m + 8 + i) := ⟨⟨(cA_M (g := g) hm (by omega)).2, (cA_M (g := g) hm (by omega)).1⟩, by omega⟩
theorem ck_row {g : GE} {m k : Nat} (hm : isM m) (hk : k < 12) : IsI g (m + 8 + k) 100 := by
  rw [show m + 8 + k = m + (8 + k) by omega]
  refine ⟨⟨(cA_M (g := g) hm (by omega)).2, (cA_M (g := g) hm (by omega)).1.trans ?_⟩, by omega⟩
  unfold cM
  rw [if_neg (by omega), if_neg (by omega), if_neg (by omega), if_neg (by omega)]
theorem cA_T {g : GE} {t c n q : Nat} (ht : isT t c n) (hq : q < 2 + c) : cA g (t + q) = cT g t c n q ∧ t + q < 566 ∧ n < 2 ^ 31 ∧ c < 2 ^ 31 := by
  rcases ht with ⟨h, hh, h1 | h1 | h1 | h1⟩ | h1
  · obtain ⟨rfl, rfl, rfl⟩ := h1
    have := cA_H (g := g) (r := 7 + q) hh (by omega)
    rw [show h + 7 + q = h + (7 + q) by omega]
    refine ⟨this.1.trans ?_, this.2, by omega, by omega⟩
    unfold cH
    rw [if_neg (by omega), if_neg (by omega), if_neg (by omega), if_neg (by omega), if_neg (by omega), if_neg (by omega), if_pos (by omega), show 7 + q - 7 = q by omega]
  · obtain ⟨rfl, rfl, rfl⟩ := h1
    have := cA_H (g := g) (r := 17 + q) hh (by omega)
    rw [show h + 17 + q = h + (17 + q) by omega]
    refine ⟨this.1.trans ?_, this.2, by omega, by omega⟩
    unfold cH
    rw [if_neg (by omega), if_neg (by omega), if_neg (by omega), if_neg (by omega), if_neg (by omega), if_neg (by omega), if_neg (by omega), if_pos (by omega), show 17 + q - 17 = q by omega]
  · obtain ⟨rfl, rfl, rfl⟩ := h1
    have := cA_H (g := g) (r := 38 + q) hh (by omega)
    rw [show h + 38 + q = h + (38 + q) by omega]
    refine ⟨this.1.trans ?_, this.2, by omega, by omega⟩
    unfold cH
    rw [if_neg (by omega), if_neg (by omega), if_neg (by omega), if_neg (by omega), if_neg (by omega), if_neg (by omega), if_neg (by omega), if_neg (by omega), if_pos (by omega), show 38 + q - 38 = q by omega]
  · obtain ⟨rfl, rfl, rfl⟩ := h1
    have := cA_H (g := g) (r := 46 + q) hh (by omega)
    rw [show h + 46 + q = h + (46 + q) by omega]
    refine ⟨this.1.trans ?_, this.2, by omega, by omega⟩
    unfold cH
    rw [if_neg (by omega), if_neg (by omega), if_neg (by omega), if_neg (by omega), if_neg (by omega), if_neg (by omega), if_neg (by omega), if_neg (by omega), if_neg (by omega), if_pos (by omega), show 46 + q - 46 = q by omega]
  · obtain ⟨rfl, rfl, rfl⟩ := h1
    unfold cA
    rw [if_neg (by omega), if_neg (by omega), if_neg (by omega), if_neg (by omega), if_pos (by omega), show 543 + q - 543 = q by omega]
    exact ⟨rfl, by omega, by omega, by omega⟩
theorem ck_T {g : GE} {t c n : Nat} (ht : isT t c n) : Cl g t (oT g t n) := ⟨(cA_T (g := g) (q := 0) ht (by omega)).2.1, (cA_T (g := g) (q := 0) ht (by omega)).1⟩
theorem ck_Tc {g : GE} {t c n : Nat} (ht : isT t c n) : IsG g (t + 1) c (fun i => t + 2 + i) := ⟨⟨(cA_T (g := g) (q := 1) ht (by omega)).2.1, (cA_T (g := g) (q := 1) ht (by omega)).1⟩, (cA_T (g := g) (q := 0) ht (by omega)).2.2.2⟩
theorem ck_Tr {g : GE} {t c n k : Nat} (ht : isT t c n) (hk : k < c) : IsI g (t + 2 + k) n := by
  rw [show t + 2 + k = t + (2 + k) by omega]
  refine ⟨⟨(cA_T (g := g) ht (by omega)).2.1, (cA_T (g := g) ht (by omega)).1.trans ?_⟩, (cA_T (g := g) (q := 0) ht (by omega)).2.2.1⟩
  unfold cT
  rw [if_neg (by omega), if_neg (by omega)]
theorem ck_X {g : GE} : Cl g 0 (oX g) := ⟨by omega, rfl⟩
theorem ck_R {g : GE} : Cl g 541 (oR g) := ⟨by omega, rfl⟩
theorem ck_tape {g : GE} : IsI g 542 400 := ⟨⟨by omega, rfl⟩, by omega⟩
theorem ck_Y {g : GE} : Cl g 551 (oY g) := ⟨by omega, rfl⟩
theorem ck_now {g : GE} : IsI g 552 19782 := ⟨⟨by omega, rfl⟩, by omega⟩
theorem ck_waiting {g : GE} : IsI g 553 19782 := ⟨⟨by omega, rfl⟩, by omega⟩
theorem ck_coins {g : GE} : IsL g 554 13 := ⟨⟨by omega, rfl⟩, by omega⟩
theorem ck_coinsW {g : GE} : IsL g 555 13 := ⟨⟨by omega, rfl⟩, by omega⟩
theorem ck_ychain {g : GE} : IsI g 556 13 := ⟨⟨by omega, rfl⟩, by omega⟩
theorem ck_qM {g : GE} : IsI g 557 1224 := ⟨⟨by omega, rfl⟩, by omega⟩
theorem ck_qD {g : GE} : IsI g 558 1224 := ⟨⟨by omega, rfl⟩, by omega⟩
theorem ck_qS {g : GE} : IsI g 559 1224 := ⟨⟨by omega, rfl⟩, by omega⟩
theorem ck_did {g : GE} : IsZ g 560 12 := ⟨⟨by omega, rfl⟩, by omega⟩
theorem ck_ytape {g : GE} : IsI g 561 400 := ⟨⟨by omega, rfl⟩, by omega⟩
theorem ck_words {g : GE} : IsI g 562 57 := ⟨⟨by omega, rfl⟩, by omega⟩
theorem ck_plans {g : GE} : IsI g 563 288 := ⟨⟨by omega, rfl⟩, by omega⟩
theorem ck_images {g : GE} : IsI g 564 19927 := ⟨⟨by omega, rfl⟩, by omega⟩
theorem ck_icoins {g : GE} : IsL g 565 13 := ⟨⟨by omega, rfl⟩, by omega⟩
/-! CLASS FACTS -/
theorem ckc_0 : CK 0 RX8 TX8 5 tyX8 := ⟨rfl, by decide +kernel, tyX8_ok, nmX8⟩
theorem ckc_1 : CK 1 RX1 TX1 17 tyX1 := ⟨rfl, by decide +kernel, tyX1_ok, nmX1⟩
theorem ckc_2 : CK 2 RX7 TX7 3 tyX7 := ⟨rfl, by decide +kernel, tyX7_ok, nmX7⟩
theorem ckc_3 : CK 3 RX2 TX2 4 tyX2 := ⟨rfl, by decide +kernel, tyX2_ok, nmX2⟩
theorem ckc_4 : CK 4 RX3 TX3 11 tyX3 := ⟨rfl, by decide +kernel, tyX3_ok, nmX3⟩
theorem ckc_5 : CK 5 RX6 TX6 6 tyX6 := ⟨rfl, by decide +kernel, tyX6_ok, nmX6⟩
theorem ckc_6 : CK 6 RX9 TX9 32 tyX9 := ⟨rfl, by decide +kernel, tyX9_ok, nmX9⟩
def AC (own : String) (idx : Nat) : Prop := Cond.methodLink own idx arraycopyName ∈ TBL ∧ Cond.native arraycopyName ∈ TBL ∧ Cond.static arraycopyName ∈ TBL ∧ Cond.initialized "java/lang/System" ∈ TBL
