/-! truth values, choices, ranges -/
noncomputable def bi (p : Prop) : Int32 := @ite _ p (Classical.propDecidable p) (nI 1) (nI 0)
noncomputable def sel (p : Prop) (a b : Int32) : Int32 := @ite _ p (Classical.propDecidable p) a b
noncomputable def selL (p : Prop) (a b : Int64) : Int64 := @ite _ p (Classical.propDecidable p) a b
theorem bi_t {p : Prop} (h : p) : bi p = nI 1 := if_pos h
theorem bi_f {p : Prop} (h : ¬ p) : bi p = nI 0 := if_neg h
theorem sel_t {p : Prop} {a b : Int32} (h : p) : sel p a b = a := if_pos h
theorem sel_f {p : Prop} {a b : Int32} (h : ¬ p) : sel p a b = b := if_neg h
theorem selL_t {p : Prop} {a b : Int64} (h : p) : selL p a b = a := if_pos h
theorem selL_f {p : Prop} {a b : Int64} (h : ¬ p) : selL p a b = b := if_neg h
theorem bi_01 (p : Prop) : bi p = 0 ∨ bi p = 1 := by
  by_cases h : p
  · exact Or.inr (bi_t h)
  · exact Or.inl (bi_f h)
theorem bi_0 {p : Prop} : bi p = 0 ↔ ¬ p := by
  by_cases h : p
  · rw [bi_t h]; exact ⟨fun q => absurd q (by decide), fun q => absurd h q⟩
  · rw [bi_f h]; exact ⟨fun _ => h, fun _ => rfl⟩
theorem bi_iff {p q : Prop} (h : p ↔ q) : bi p = bi q := by rw [propext h]
def InN (n : Nat) (x : Int32) : Prop := ∃ j : Nat, j < n ∧ x = nI j
def Rg (a b x : Int32) : Prop := a ≤ x ∧ x ≤ b
theorem InN_toInt {n : Nat} {x : Int32} (hn : n ≤ 2 ^ 31) : InN n x ↔ 0 ≤ x.toInt ∧ x.toInt < n := by
  constructor
  · rintro ⟨j, hj, rfl⟩
    rw [nI_toInt (by omega)]
    omega
  · rintro ⟨h1, h2⟩
    have h3 : ¬ x < 0 := by rw [Int32.lt_iff_toInt_lt, Int32.toInt_zero]; omega
    obtain ⟨j, hj, rfl⟩ := nI_of h3
    rw [nI_toInt hj] at h2
    exact ⟨j, by omega, rfl⟩
theorem InN_lt {n : Nat} {x : Int32} (hn : n < 2 ^ 31) : InN n x ↔ (0 ≤ x ∧ x < nI n) := by
  rw [InN_toInt (by omega), Int32.le_iff_toInt_le, Int32.lt_iff_toInt_lt, nI_toInt hn, Int32.toInt_zero]
theorem InN_le {n : Nat} {x : Int32} (hn : n < 2 ^ 31) : InN (n + 1) x ↔ Rg (nI 0) (nI n) x := by
  unfold Rg
  rw [InN_toInt (by omega), Int32.le_iff_toInt_le, Int32.le_iff_toInt_le, nI_toInt hn, nI_toInt (by omega)]
  omega
theorem InN_no {n : Nat} {x : Int32} (h : ¬ InN n x) {j : Nat} (hj : j < n) : ¬ x = nI j := fun e => h ⟨j, hj, e⟩
theorem InN_nI {n j : Nat} (hj : j < n) : InN n (nI j) := ⟨j, hj, rfl⟩
theorem InN_nn {n j : Nat} (hn : n ≤ 2 ^ 31) (hj : j < 2 ^ 31) : InN n (nI j) ↔ j < n := by
  rw [InN_toInt hn, nI_toInt hj]
  omega
theorem Rg_nn {a b j : Nat} (ha : a < 2 ^ 31) (hb : b < 2 ^ 31) (hj : j < 2 ^ 31) : Rg (nI a) (nI b) (nI j) ↔ (a ≤ j ∧ j ≤ b) := by
  unfold Rg
  rw [nI_leI ha hj, nI_leI hj hb]
theorem Rg_nat {a b : Nat} {x : Int32} (hb : b < 2 ^ 31) (ha : a < 2 ^ 31) (h : Rg (nI a) (nI b) x) : ∃ j : Nat, a ≤ j ∧ j ≤ b ∧ x = nI j := by
  obtain ⟨h1, h2⟩ := h
  have h3 : ¬ x < 0 := by
    rw [Int32.le_iff_toInt_le, nI_toInt ha] at h1
    rw [Int32.lt_iff_toInt_lt, Int32.toInt_zero]; omega
  obtain ⟨j, hj, rfl⟩ := nI_of h3
  rw [nI_leI ha hj] at h1
  rw [nI_leI hj hb] at h2
  exact ⟨j, h1, h2, rfl⟩
theorem neg_lt0 : (-1 : Int32) < 0 := by decide
theorem nI_nm1 {n : Nat} (h : n < 2 ^ 31) : ¬ nI n = -1 := fun e => by
  have := congrArg Int32.toInt e
  rw [nI_toInt h] at this
  have h2 : (-1 : Int32).toInt = -1 := by decide
  omega
section ZN
variable {g : GE} {own : String} {cc : ByteArray} {nL : Nat} {ret : Option FieldType} {R : Room} {scr : Option (Nat × Nat × (Nat → Int32))} {Q : Option Value → Iv → Lv → Prop} {Z : ZT} {pc : Nat} {L : LO} {st : List Value} {iv : Iv} {lv : Lv}
theorem z_iaddN (h : Rw g own cc nL ret R scr Q Z) {a b : Nat} (hd : decode cc pc = .ok (.iadd, 1)) (k : Z (pc + 1) L (.int (nI (a + b)) :: st) iv lv) : Z pc L (.int (nI b) :: .int (nI a) :: st) iv lv := z_iadd h hd (by rw [nI_add]; exact k)
theorem z_isubN (h : Rw g own cc nL ret R scr Q Z) {a b : Nat} (hb : b ≤ a) (hd : decode cc pc = .ok (.isub, 1)) (k : Z (pc + 1) L (.int (nI (a - b)) :: st) iv lv) : Z pc L (.int (nI b) :: .int (nI a) :: st) iv lv := z_isub h hd (by rw [pk_sub hb]; exact k)
theorem z_imulN (h : Rw g own cc nL ret R scr Q Z) {a b : Nat} (hd : decode cc pc = .ok (.imul, 1)) (k : Z (pc + 1) L (.int (nI (a * b)) :: st) iv lv) : Z pc L (.int (nI b) :: .int (nI a) :: st) iv lv := z_imul h hd (by rw [pk_mul]; exact k)
theorem z_iincN (h : Rw g own cc nL ret R scr Q Z) {n b : Nat} {q : Int} {a : Nat} {L' : LO} (hd : decode cc pc = .ok (.iinc n q, 3)) (hq : Int32.ofInt q = nI b) (hn : n < nL) (hl : L[n]? = some (some (.int (nI a)))) (hs : st1 L n (.int (nI (a + b))) = L') (k : Z (pc + 3) L' st iv lv) : Z pc L st iv lv :=
  z_iinc h hd hn hl (by rw [hq]; exact nI_add a b) hs k
theorem z_if_eq_B (h : Rw g own cc nL ret R scr Q Z) {p : Prop} {off : Int} {tgt : Nat} (hd : decode cc pc = .ok (.ifCond .eq off, 3)) (ht : (pc : Int) + off = (tgt : Int)) (kt : ¬ p → Z tgt L st iv lv) (kf : p → Z (pc + 3) L st iv lv) : Z pc L (.int (bi p) :: st) iv lv :=
  z_if_eq h hd ht (fun q => kt (bi_0.mp q)) (fun q => kf (Classical.byContradiction fun z => q (bi_0.mpr z)))
theorem z_if_ne_B (h : Rw g own cc nL ret R scr Q Z) {p : Prop} {off : Int} {tgt : Nat} (hd : decode cc pc = .ok (.ifCond .ne off, 3)) (ht : (pc : Int) + off = (tgt : Int)) (kt : p → Z tgt L st iv lv) (kf : ¬ p → Z (pc + 3) L st iv lv) : Z pc L (.int (bi p) :: st) iv lv :=
  z_if_ne h hd ht (fun q => kt (Classical.byContradiction fun z => q (bi_0.mpr z))) (fun q => kf (bi_0.mp q))
theorem z_icmp_eq_N (h : Rw g own cc nL ret R scr Q Z) {a b : Nat} {off : Int} {tgt : Nat} (ha : a < 2 ^ 31) (hb : b < 2 ^ 31) (hd : decode cc pc = .ok (.if_icmp .eq off, 3)) (ht : (pc : Int) + off = (tgt : Int)) (kt : a = b → Z tgt L st iv lv) (kf : ¬ a = b → Z (pc + 3) L st iv lv) : Z pc L (.int (nI b) :: .int (nI a) :: st) iv lv :=
  z_icmp_eq h hd ht (fun q => kt ((nI_eq ha hb).mp q)) (fun q => kf (fun z => q ((nI_eq ha hb).mpr z)))
theorem z_icmp_ne_N (h : Rw g own cc nL ret R scr Q Z) {a b : Nat} {off : Int} {tgt : Nat} (ha : a < 2 ^ 31) (hb : b < 2 ^ 31) (hd : decode cc pc = .ok (.if_icmp .ne off, 3)) (ht : (pc : Int) + off = (tgt : Int)) (kt : ¬ a = b → Z tgt L st iv lv) (kf : a = b → Z (pc + 3) L st iv lv) : Z pc L (.int (nI b) :: .int (nI a) :: st) iv lv :=
  z_icmp_ne h hd ht (fun q => kt (fun z => q ((nI_eq ha hb).mpr z))) (fun q => kf ((nI_eq ha hb).mp q))
theorem z_icmp_lt_N (h : Rw g own cc nL ret R scr Q Z) {a b : Nat} {off : Int} {tgt : Nat} (ha : a < 2 ^ 31) (hb : b < 2 ^ 31) (hd : decode cc pc = .ok (.if_icmp .lt off, 3)) (ht : (pc : Int) + off = (tgt : Int)) (kt : a < b → Z tgt L st iv lv) (kf : b ≤ a → Z (pc + 3) L st iv lv) : Z pc L (.int (nI b) :: .int (nI a) :: st) iv lv :=
  z_icmp_lt h hd ht (fun q => kt ((nI_ltI ha hb).mp q)) (fun q => kf (by have := mt (nI_ltI ha hb).mpr q; omega))
theorem z_icmp_ge_N (h : Rw g own cc nL ret R scr Q Z) {a b : Nat} {off : Int} {tgt : Nat} (ha : a < 2 ^ 31) (hb : b < 2 ^ 31) (hd : decode cc pc = .ok (.if_icmp .ge off, 3)) (ht : (pc : Int) + off = (tgt : Int)) (kt : b ≤ a → Z tgt L st iv lv) (kf : a < b → Z (pc + 3) L st iv lv) : Z pc L (.int (nI b) :: .int (nI a) :: st) iv lv :=
  z_icmp_ge h hd ht (fun q => kt ((nI_leI hb ha).mp q)) (fun q => kf (by have := mt (nI_leI hb ha).mpr q; omega))
theorem z_icmp_gt_N (h : Rw g own cc nL ret R scr Q Z) {a b : Nat} {off : Int} {tgt : Nat} (ha : a < 2 ^ 31) (hb : b < 2 ^ 31) (hd : decode cc pc = .ok (.if_icmp .gt off, 3)) (ht : (pc : Int) + off = (tgt : Int)) (kt : b < a → Z tgt L st iv lv) (kf : a ≤ b → Z (pc + 3) L st iv lv) : Z pc L (.int (nI b) :: .int (nI a) :: st) iv lv :=
  z_icmp_gt h hd ht (fun q => kt ((nI_ltI hb ha).mp q)) (fun q => kf (by have := mt (nI_ltI hb ha).mpr q; omega))
theorem z_icmp_le_N (h : Rw g own cc nL ret R scr Q Z) {a b : Nat} {off : Int} {tgt : Nat} (ha : a < 2 ^ 31) (hb : b < 2 ^ 31) (hd : decode cc pc = .ok (.if_icmp .le off, 3)) (ht : (pc : Int) + off = (tgt : Int)) (kt : a ≤ b → Z tgt L st iv lv) (kf : b < a → Z (pc + 3) L st iv lv) : Z pc L (.int (nI b) :: .int (nI a) :: st) iv lv :=
  z_icmp_le h hd ht (fun q => kt ((nI_leI ha hb).mp q)) (fun q => kf (by have := mt (nI_leI ha hb).mpr q; omega))
theorem z_if_eq_N (h : Rw g own cc nL ret R scr Q Z) {a : Nat} {off : Int} {tgt : Nat} (ha : a < 2 ^ 31) (hd : decode cc pc = .ok (.ifCond .eq off, 3)) (ht : (pc : Int) + off = (tgt : Int)) (kt : a = 0 → Z tgt L st iv lv) (kf : 0 < a → Z (pc + 3) L st iv lv) : Z pc L (.int (nI a) :: st) iv lv :=
  z_if_eq h hd ht (fun q => kt (by rw [← nI_0] at q; exact (nI_eq ha (by omega)).mp q)) (fun q => kf (Nat.pos_of_ne_zero (fun z => q (by rw [z]; exact nI_0))))
theorem z_if_ne_N (h : Rw g own cc nL ret R scr Q Z) {a : Nat} {off : Int} {tgt : Nat} (ha : a < 2 ^ 31) (hd : decode cc pc = .ok (.ifCond .ne off, 3)) (ht : (pc : Int) + off = (tgt : Int)) (kt : 0 < a → Z tgt L st iv lv) (kf : a = 0 → Z (pc + 3) L st iv lv) : Z pc L (.int (nI a) :: st) iv lv :=
  z_if_ne h hd ht (fun q => kt (Nat.pos_of_ne_zero (fun z => q (by rw [z]; exact nI_0)))) (fun q => kf (by rw [← nI_0] at q; exact (nI_eq ha (by omega)).mp q))
theorem z_if_lt_N (h : Rw g own cc nL ret R scr Q Z) {a : Nat} {off : Int} {tgt : Nat} (ha : a < 2 ^ 31) (hd : decode cc pc = .ok (.ifCond .lt off, 3)) (ht : (pc : Int) + off = (tgt : Int)) (kf : Z (pc + 3) L st iv lv) : Z pc L (.int (nI a) :: st) iv lv :=
  z_if_lt h hd ht (fun q => absurd q (nI_pos ha)) (fun _ => kf)
theorem z_if_ge_N (h : Rw g own cc nL ret R scr Q Z) {a : Nat} {off : Int} {tgt : Nat} (ha : a < 2 ^ 31) (hd : decode cc pc = .ok (.ifCond .ge off, 3)) (ht : (pc : Int) + off = (tgt : Int)) (kt : Z tgt L st iv lv) : Z pc L (.int (nI a) :: st) iv lv :=
  z_if_ge h hd ht (fun _ => kt) (fun q => absurd (nI_pos' ha) q)
theorem z_if_gt_N (h : Rw g own cc nL ret R scr Q Z) {a : Nat} {off : Int} {tgt : Nat} (ha : a < 2 ^ 31) (hd : decode cc pc = .ok (.ifCond .gt off, 3)) (ht : (pc : Int) + off = (tgt : Int)) (kt : 0 < a → Z tgt L st iv lv) (kf : a = 0 → Z (pc + 3) L st iv lv) : Z pc L (.int (nI a) :: st) iv lv :=
  z_if_gt h hd ht (fun q => kt (by rw [← nI_0] at q; exact (nI_ltI (by omega) ha).mp q)) (fun q => kf (by rw [← nI_0, nI_ltI (by omega) ha] at q; omega))
theorem z_if_le_N (h : Rw g own cc nL ret R scr Q Z) {a : Nat} {off : Int} {tgt : Nat} (ha : a < 2 ^ 31) (hd : decode cc pc = .ok (.ifCond .le off, 3)) (ht : (pc : Int) + off = (tgt : Int)) (kt : a = 0 → Z tgt L st iv lv) (kf : 0 < a → Z (pc + 3) L st iv lv) : Z pc L (.int (nI a) :: st) iv lv :=
  z_if_le h hd ht (fun q => kt (by rw [← nI_0] at q; have := (nI_leI ha (by omega)).mp q; omega)) (fun q => kf (by rw [← nI_0, nI_leI ha (by omega)] at q; omega))
theorem z_ialdE (h : Rw g own cc nL ret R scr Q Z) {k n j : Nat} {x : Int32} (hI : IsI g k n) (hd : decode cc pc = .ok (.iaload, 1)) (hj : j < n) (he : iv k j = x) (kk : Z (pc + 1) L (.int x :: st) iv lv) : Z pc L (.int (nI j) :: rf g k :: st) iv lv := z_ialdN h hI hd hj (by rw [he]; exact kk)
theorem z_laldE (h : Rw g own cc nL ret R scr Q Z) {k n j : Nat} {x : Int64} (hI : IsL g k n) (hd : decode cc pc = .ok (.laload, 1)) (hj : j < n) (he : lv k j = x) (kk : Z (pc + 1) L (.long x :: st) iv lv) : Z pc L (.int (nI j) :: rf g k :: st) iv lv := z_laldN h hI hd hj (by rw [he]; exact kk)
theorem z_zaldE (h : Rw g own cc nL ret R scr Q Z) {k n j : Nat} {x : Int32} (hI : IsZ g k n) (hd : decode cc pc = .ok (.baload, 1)) (hj : j < n) (he : iv k j = x) (kk : Z (pc + 1) L (.int x :: st) iv lv) : Z pc L (.int (nI j) :: rf g k :: st) iv lv := z_zaldN h hI hd hj (by rw [he]; exact kk)
theorem z_getI (h : Rw g own cc nL ret R scr Q Z) {idx ci j k : Nat} {fin : Bool} {t : FieldType} {F : FF} {fs : List Value} {x y : Int32} (hF : FL own idx ci j fin t) (hd : decode cc pc = .ok (.getfield idx, 3)) (hC : Cl g k F) (hfs : F (iv k) (lv k) = .inr (ci, fs)) (hv : fs[j]? = some (.int y)) (he : y = x) (kk : Z (pc + 3) L (.int x :: st) iv lv) : Z pc L (rf g k :: st) iv lv := z_getf h hF hd hC hfs hv (by rw [he]; exact kk)
theorem z_getL (h : Rw g own cc nL ret R scr Q Z) {idx ci j k : Nat} {fin : Bool} {t : FieldType} {F : FF} {fs : List Value} {x y : Int64} (hF : FL own idx ci j fin t) (hd : decode cc pc = .ok (.getfield idx, 3)) (hC : Cl g k F) (hfs : F (iv k) (lv k) = .inr (ci, fs)) (hv : fs[j]? = some (.long y)) (he : y = x) (kk : Z (pc + 3) L (.long x :: st) iv lv) : Z pc L (rf g k :: st) iv lv := z_getf h hF hd hC hfs hv (by rw [he]; exact kk)
end ZN
theorem z_eqv {Z : ZT} {pc : Nat} {L : LO} {st st2 : List Value} {iv : Iv} {lv : Lv} (h : st = st2) (k : Z pc L st2 iv lv) : Z pc L st iv lv := h ▸ k
theorem ki_0 : Int32.ofInt 0 = nI 0 := by decide +kernel
theorem ki_1 : Int32.ofInt 1 = nI 1 := by decide +kernel
theorem ki_2 : Int32.ofInt 2 = nI 2 := by decide +kernel
theorem ki_3 : Int32.ofInt 3 = nI 3 := by decide +kernel
theorem ki_4 : Int32.ofInt 4 = nI 4 := by decide +kernel
theorem ki_5 : Int32.ofInt 5 = nI 5 := by decide +kernel
theorem ki_m1 : Int32.ofInt (-1) = -1 := by decide +kernel
