/-! RANGES: how far an int goes -/
def Ra (lo hi : Int) (x : Int32) : Prop := lo ≤ x.toInt ∧ x.toInt ≤ hi
theorem ra_w {lo hi lo' hi' : Int} {x : Int32} (h : Ra lo hi x) (h1 : lo' ≤ lo) (h2 : hi ≤ hi') : Ra lo' hi' x := ⟨Int.le_trans h1 h.1, Int.le_trans h.2 h2⟩
theorem ra_tt (x : Int32) : Ra (-2147483648) 2147483647 x := by
  have h1 := Int32.le_toInt x
  have h2 := Int32.toInt_lt x
  exact ⟨by omega, by omega⟩
theorem ra_no {lo hi : Int} {x : Int32} (h : Ra lo hi x) (q : hi < lo) : False := by
  obtain ⟨h1, h2⟩ := h
  omega
theorem ra_of {lo hi : Int} {a x : Int32} (e : a = x) (h : Ra lo hi a) : Ra lo hi x := e ▸ h
theorem ra_in {lo hi : Int} {x : Int32} {n : Nat} (h : Ra lo hi x) (h0 : 0 ≤ lo) (h1 : hi < (n : Int)) : vp_in x n := vp_in_iff.mpr ⟨Int.le_trans h0 h.1, Int.lt_of_le_of_lt h.2 h1⟩
theorem ra_nat {lo hi : Int} {x : Int32} (h : Ra lo hi x) (h0 : 0 ≤ lo) : ∃ j : Nat, j < 2 ^ 31 ∧ x = nI j ∧ (j : Int) = x.toInt ∧ x.toNatClampNeg = j := by
  have h3 : ¬ x < 0 := by rw [Int32.lt_iff_toInt_lt, Int32.toInt_zero]; have := h.1; omega
  obtain ⟨j, hj, rfl⟩ := nI_of h3
  exact ⟨j, hj, rfl, (nI_toInt hj).symm, nI_clamp hj⟩
theorem ra_clamp {lo hi : Int} {x : Int32} (h : Ra lo hi x) (h0 : 0 ≤ lo) : (x.toNatClampNeg : Int) = x.toInt := by
  obtain ⟨j, hj, rfl, e, f⟩ := ra_nat h h0
  rw [f, e]
theorem bm32 {z : Int} (h1 : -2147483648 ≤ z) (h2 : z ≤ 2147483647) : z.bmod (2 ^ 32) = z := Int.bmod_eq_of_le (by omega) (by omega)
theorem ra_add {a b c d : Int} {x y : Int32} (hx : Ra a b x) (hy : Ra c d y) (h1 : -2147483648 ≤ a + c) (h2 : b + d ≤ 2147483647) : (x + y).toInt = x.toInt + y.toInt ∧ Ra (a + c) (b + d) (x + y) := by
  obtain ⟨x1, x2⟩ := hx
  obtain ⟨y1, y2⟩ := hy
  have e : (x + y).toInt = x.toInt + y.toInt := by rw [Int32.toInt_add]; exact bm32 (by omega) (by omega)
  exact ⟨e, by unfold Ra; rw [e]; omega⟩
theorem ra_sub {a b c d : Int} {x y : Int32} (hx : Ra a b x) (hy : Ra c d y) (h1 : -2147483648 ≤ a - d) (h2 : b - c ≤ 2147483647) : (x - y).toInt = x.toInt - y.toInt ∧ Ra (a - d) (b - c) (x - y) := by
  obtain ⟨x1, x2⟩ := hx
  obtain ⟨y1, y2⟩ := hy
  have e : (x - y).toInt = x.toInt - y.toInt := by rw [Int32.toInt_sub]; exact bm32 (by omega) (by omega)
  exact ⟨e, by unfold Ra; rw [e]; omega⟩
theorem ra_neg {a b : Int} {x : Int32} (hx : Ra a b x) (h1 : -2147483648 < a) : (-x).toInt = - x.toInt ∧ Ra (-b) (-a) (-x) := by
  obtain ⟨x1, x2⟩ := hx
  have := Int32.toInt_lt x
  have e : (-x).toInt = - x.toInt := by rw [Int32.toInt_neg]; exact bm32 (by omega) (by omega)
  exact ⟨e, by unfold Ra; rw [e]; omega⟩
/-- times a number above 0 -/
theorem ra_mul {a b c : Int} {x y : Int32} (hx : Ra a b x) (hy : Ra c c y) (hc : 0 ≤ c) (h1 : -2147483648 ≤ a * c) (h2 : b * c ≤ 2147483647) : (x * y).toInt = x.toInt * c ∧ Ra (a * c) (b * c) (x * y) := by
  obtain ⟨x1, x2⟩ := hx
  obtain ⟨y1, y2⟩ := hy
  have ey : y.toInt = c := by omega
  have q1 : a * c ≤ x.toInt * c := Int.mul_le_mul_of_nonneg_right x1 hc
  have q2 : x.toInt * c ≤ b * c := Int.mul_le_mul_of_nonneg_right x2 hc
  have e : (x * y).toInt = x.toInt * c := by rw [Int32.toInt_mul, ey]; exact bm32 (by omega) (by omega)
  exact ⟨e, by unfold Ra; rw [e]; omega⟩
/-! what a comparison adds -/
section RB
variable {a b c d u : Int} {x y : Int32}
theorem rb_lt_l (hy : Ra c d y) (hx : Ra a b x) (h : x < y) (hu : d ≤ u + 1) : Ra a u x := by
  rw [Int32.lt_iff_toInt_lt] at h; have := hy.2; have := hx.1; exact ⟨hx.1, by omega⟩
theorem rb_lt_r (hx : Ra a b x) (hy : Ra c d y) (h : x < y) (hu : u ≤ a + 1) : Ra u d y := by
  rw [Int32.lt_iff_toInt_lt] at h; have := hx.1; exact ⟨by omega, hy.2⟩
theorem rb_le_l (hy : Ra c d y) (hx : Ra a b x) (h : x ≤ y) (hu : d ≤ u) : Ra a u x := by
  rw [Int32.le_iff_toInt_le] at h; have := hy.2; exact ⟨hx.1, by omega⟩
theorem rb_le_r (hx : Ra a b x) (hy : Ra c d y) (h : x ≤ y) (hu : u ≤ a) : Ra u d y := by
  rw [Int32.le_iff_toInt_le] at h; have := hx.1; exact ⟨by omega, hy.2⟩
theorem rb_eq (hx : Ra a b x) (hy : Ra c d y) (h : x = y) {v : Int} (hu : u ≤ a ∨ u ≤ c) (hv : b ≤ v ∨ d ≤ v) : Ra u v x ∧ Ra u v y := by
  subst h
  have h1 := hx.1; have h2 := hx.2; have h3 := hy.1; have h4 := hy.2
  have : Ra u v x := ⟨by rcases hu with q | q <;> omega, by rcases hv with q | q <;> omega⟩
  exact ⟨this, this⟩
theorem rb_ne_lo (hx : Ra a b x) (hy : Ra a a y) (h : ¬ x = y) (hu : u ≤ a + 1) : Ra u b x := by
  refine ⟨?_, hx.2⟩
  have h1 := hx.1; have h3 := hy.1; have h4 := hy.2
  have : x.toInt ≠ y.toInt := fun e => h (Int32.toInt_inj.mp e)
  omega
theorem rb_ne_hi (hx : Ra a b x) (hy : Ra b b y) (h : ¬ x = y) (hu : b ≤ u + 1) : Ra a u x := by
  refine ⟨hx.1, ?_⟩
  have h1 := hx.2; have h3 := hy.1; have h4 := hy.2
  have : x.toInt ≠ y.toInt := fun e => h (Int32.toInt_inj.mp e)
  omega
theorem rb_nle (h : ¬ y ≤ x) : x < y := Int32.not_le.mp h
theorem rb_nlt (h : ¬ y < x) : x ≤ y := Int32.not_lt.mp h
theorem ra_z : Ra 0 0 (0 : Int32) := ⟨by decide, by decide⟩
theorem ra_01 (h : Ra 0 1 x) : x = 0 ∨ x = 1 := by
  have h1 := h.1; have h2 := h.2
  have e0 : (0 : Int32).toInt = 0 := by decide
  have e1 : (1 : Int32).toInt = 1 := by decide
  rcases (by omega : x.toInt = 0 ∨ x.toInt = 1) with q | q
  · exact Or.inl (Int32.toInt_inj.mp (q.trans e0.symm))
  · exact Or.inr (Int32.toInt_inj.mp (q.trans e1.symm))
theorem ra_nz (hx : Ra a b x) (h : 0 < a) : ¬ x = 0 := fun e => by
  have h1 := hx.1
  rw [e, Int32.toInt_zero] at h1
  omega
/-- a loop that counts up, a loop that counts down -/
theorem ms_up {K s t : Int} {n : Nat} {q : Int} (hc : t = s + q) (hq : 0 < q) (hn : K - s < ((n + 1 : Nat) : Int)) : K - t < (n : Int) := by omega
theorem ms_dn {K s t : Int} {n : Nat} {q : Int} (hc : t = s + q) (hq : q < 0) (hn : s - K < ((n + 1 : Nat) : Int)) : t - K < (n : Int) := by omega
theorem ms_u0 {K : Int} {n : Nat} (hx : Ra a b x) (h : K - a < (n : Int)) : K - x.toInt < (n : Int) := by have := hx.1; omega
theorem ms_d0 {K : Int} {n : Nat} (hx : Ra a b x) (h : b - K < (n : Int)) : x.toInt - K < (n : Int) := by have := hx.2; omega
theorem ms_uz (hx : Ra a b x) (h : b - x.toInt < ((0 : Nat) : Int)) : False := by have := hx.2; omega
theorem ms_dz (hx : Ra a b x) (h : x.toInt - a < ((0 : Nat) : Int)) : False := by have := hx.1; omega
end RB
section YR
variable {g : GE} {own : String} {cc : ByteArray} {nL : Nat} {ret : Option FieldType} {R : Room} {scr : Option (Nat × Nat × (Nat → Int32))} {Q : Option Value → Iv → Lv → Prop} {Z : ZT} {pc : Nat} {L : LO} {st : List Value} {iv : Iv} {lv : Lv} {a b c d : Int} {x y : Int32}
theorem y_iadd (h : Rw g own cc nL ret R scr Q Z) (hd : decode cc pc = .ok (.iadd, 1)) (hx : Ra a b x) (hy : Ra c d y) {u v : Int} (hu : a + c = u) (hv : b + d = v) (h1 : -2147483648 ≤ u) (h2 : v ≤ 2147483647) (k : ∀ z, z.toInt = x.toInt + y.toInt → Ra u v z → Z (pc + 1) L (.int z :: st) iv lv) : Z pc L (.int y :: .int x :: st) iv lv := by
  subst hu hv
  have q := ra_add hx hy h1 h2
  exact z_iadd h hd (k _ q.1 q.2)
theorem y_isub (h : Rw g own cc nL ret R scr Q Z) (hd : decode cc pc = .ok (.isub, 1)) (hx : Ra a b x) (hy : Ra c d y) {u v : Int} (hu : a - d = u) (hv : b - c = v) (h1 : -2147483648 ≤ u) (h2 : v ≤ 2147483647) (k : ∀ z, z.toInt = x.toInt - y.toInt → Ra u v z → Z (pc + 1) L (.int z :: st) iv lv) : Z pc L (.int y :: .int x :: st) iv lv := by
  subst hu hv
  have q := ra_sub hx hy h1 h2
  exact z_isub h hd (k _ q.1 q.2)
theorem y_imul (h : Rw g own cc nL ret R scr Q Z) (hd : decode cc pc = .ok (.imul, 1)) (hx : Ra a b x) (hy : Ra c c y) (hc : 0 ≤ c) {u v : Int} (hu : a * c = u) (hv : b * c = v) (h1 : -2147483648 ≤ u) (h2 : v ≤ 2147483647) (k : ∀ z, z.toInt = x.toInt * c → Ra u v z → Z (pc + 1) L (.int z :: st) iv lv) : Z pc L (.int y :: .int x :: st) iv lv := by
  subst hu hv
  have q := ra_mul hx hy hc h1 h2
  exact z_imul h hd (k _ q.1 q.2)
theorem y_imul2 (h : Rw g own cc nL ret R scr Q Z) (hd : decode cc pc = .ok (.imul, 1)) (hx : Ra a b x) (hy : Ra c c y) (hc : 0 ≤ c) {u v : Int} (hu : a * c = u) (hv : b * c = v) (h1 : -2147483648 ≤ u) (h2 : v ≤ 2147483647) (k : ∀ z, z.toInt = x.toInt * c → Ra u v z → Z (pc + 1) L (.int z :: st) iv lv) : Z pc L (.int x :: .int y :: st) iv lv := by
  subst hu hv
  have q := ra_mul hx hy hc h1 h2
  exact z_imul h hd (by rw [Int32.mul_comm]; exact k _ q.1 q.2)
theorem y_ineg (h : Rw g own cc nL ret R scr Q Z) (hd : decode cc pc = .ok (.ineg, 1)) (hx : Ra a b x) (h1 : -2147483648 < a) {u v : Int} (hu : -b = u) (hv : -a = v) (k : ∀ z, z.toInt = - x.toInt → Ra u v z → Z (pc + 1) L (.int z :: st) iv lv) : Z pc L (.int x :: st) iv lv := by
  subst hu hv
  have q := ra_neg hx h1
  exact z_ineg h hd (k _ q.1 q.2)
theorem y_iaddT (h : Rw g own cc nL ret R scr Q Z) (hd : decode cc pc = .ok (.iadd, 1)) (k : ∀ z, Z (pc + 1) L (.int z :: st) iv lv) : Z pc L (.int y :: .int x :: st) iv lv := z_iadd h hd (k _)
theorem y_isubT (h : Rw g own cc nL ret R scr Q Z) (hd : decode cc pc = .ok (.isub, 1)) (k : ∀ z, Z (pc + 1) L (.int z :: st) iv lv) : Z pc L (.int y :: .int x :: st) iv lv := z_isub h hd (k _)
theorem y_imulT (h : Rw g own cc nL ret R scr Q Z) (hd : decode cc pc = .ok (.imul, 1)) (k : ∀ z, Z (pc + 1) L (.int z :: st) iv lv) : Z pc L (.int y :: .int x :: st) iv lv := z_imul h hd (k _)
theorem y_iandT (h : Rw g own cc nL ret R scr Q Z) (hd : decode cc pc = .ok (.iand, 1)) (k : ∀ z, Z (pc + 1) L (.int z :: st) iv lv) : Z pc L (.int y :: .int x :: st) iv lv := z_iand h hd (k _)
theorem y_iorT (h : Rw g own cc nL ret R scr Q Z) (hd : decode cc pc = .ok (.ior, 1)) (k : ∀ z, Z (pc + 1) L (.int z :: st) iv lv) : Z pc L (.int y :: .int x :: st) iv lv := z_ior h hd (k _)
theorem y_ixorT (h : Rw g own cc nL ret R scr Q Z) (hd : decode cc pc = .ok (.ixor, 1)) (k : ∀ z, Z (pc + 1) L (.int z :: st) iv lv) : Z pc L (.int y :: .int x :: st) iv lv := z_ixor h hd (k _)
theorem y_ishlT (h : Rw g own cc nL ret R scr Q Z) (hd : decode cc pc = .ok (.ishl, 1)) (k : ∀ z, Z (pc + 1) L (.int z :: st) iv lv) : Z pc L (.int y :: .int x :: st) iv lv := z_ishl h hd (k _)
theorem y_ishrT (h : Rw g own cc nL ret R scr Q Z) (hd : decode cc pc = .ok (.ishr, 1)) (k : ∀ z, Z (pc + 1) L (.int z :: st) iv lv) : Z pc L (.int y :: .int x :: st) iv lv := z_ishr h hd (k _)
theorem y_inegT (h : Rw g own cc nL ret R scr Q Z) (hd : decode cc pc = .ok (.ineg, 1)) (k : ∀ z, Z (pc + 1) L (.int z :: st) iv lv) : Z pc L (.int x :: st) iv lv := z_ineg h hd (k _)
theorem y_idivT (h : Rw g own cc nL ret R scr Q Z) (hd : decode cc pc = .ok (.idiv, 1)) (hne : ¬ y = 0) (k : ∀ z, Z (pc + 1) L (.int z :: st) iv lv) : Z pc L (.int y :: .int x :: st) iv lv := z_idiv h hd hne (k _)
theorem y_iremT (h : Rw g own cc nL ret R scr Q Z) (hd : decode cc pc = .ok (.irem, 1)) (hne : ¬ y = 0) (k : ∀ z, Z (pc + 1) L (.int z :: st) iv lv) : Z pc L (.int y :: .int x :: st) iv lv := z_irem h hd hne (k _)
theorem y_i2l (h : Rw g own cc nL ret R scr Q Z) (hd : decode cc pc = .ok (.i2l, 1)) (k : ∀ z, Z (pc + 1) L (.long z :: st) iv lv) : Z pc L (.int x :: st) iv lv := z_i2l h hd (k _)
theorem y_l2i (h : Rw g own cc nL ret R scr Q Z) {p : Int64} (hd : decode cc pc = .ok (.l2i, 1)) (k : ∀ z, Z (pc + 1) L (.int z :: st) iv lv) : Z pc L (.long p :: st) iv lv := z_l2i h hd (k _)
theorem y_ladd (h : Rw g own cc nL ret R scr Q Z) {p q : Int64} (hd : decode cc pc = .ok (.ladd, 1)) (k : ∀ z, Z (pc + 1) L (.long z :: st) iv lv) : Z pc L (.long q :: .long p :: st) iv lv := z_ladd h hd (k _)
theorem y_lsub (h : Rw g own cc nL ret R scr Q Z) {p q : Int64} (hd : decode cc pc = .ok (.lsub, 1)) (k : ∀ z, Z (pc + 1) L (.long z :: st) iv lv) : Z pc L (.long q :: .long p :: st) iv lv := z_lsub h hd (k _)
theorem y_lmul (h : Rw g own cc nL ret R scr Q Z) {p q : Int64} (hd : decode cc pc = .ok (.lmul, 1)) (k : ∀ z, Z (pc + 1) L (.long z :: st) iv lv) : Z pc L (.long q :: .long p :: st) iv lv := z_lmul h hd (k _)
theorem y_ldiv (h : Rw g own cc nL ret R scr Q Z) {p q : Int64} (hd : decode cc pc = .ok (.ldiv, 1)) (hne : ¬ q = 0) (k : ∀ z, Z (pc + 1) L (.long z :: st) iv lv) : Z pc L (.long q :: .long p :: st) iv lv := z_ldiv h hd hne (k _)
theorem y_lneg (h : Rw g own cc nL ret R scr Q Z) {p : Int64} (hd : decode cc pc = .ok (.lneg, 1)) (k : ∀ z, Z (pc + 1) L (.long z :: st) iv lv) : Z pc L (.long p :: st) iv lv := z_lneg h hd (k _)
theorem lg_ra (p q : Int64) : Ra (-1) 1 (lg_cmp p q) := by
  unfold lg_cmp
  repeat' split
  all_goals exact ⟨by decide, by decide⟩
theorem y_lcmp (h : Rw g own cc nL ret R scr Q Z) {p q : Int64} (hd : decode cc pc = .ok (.lcmp, 1)) (k : ∀ z, Ra (-1) 1 z → Z (pc + 1) L (.int z :: st) iv lv) : Z pc L (.long q :: .long p :: st) iv lv := z_lcmp h hd (k _ (lg_ra _ _))
theorem y_iinc (h : Rw g own cc nL ret R scr Q Z) {n : Nat} {q : Int} {L' : Int32 → LO} (hd : decode cc pc = .ok (.iinc n q, 3)) (hn : n < nL) (hl : L[n]? = some (some (.int x))) (hq : (Int32.ofInt q).toInt = q) (hx : Ra a b x) {u v : Int} (hu : a + q = u) (hv : b + q = v) (h1 : -2147483648 ≤ u) (h2 : v ≤ 2147483647) (hs : ∀ z, st1 L n (.int z) = L' z) (k : ∀ z, z.toInt = x.toInt + q → Ra u v z → Z (pc + 3) (L' z) st iv lv) : Z pc L st iv lv := by
  subst hu hv
  have w := ra_add hx (y := Int32.ofInt q) (c := q) (d := q) ⟨Int.le_of_eq hq.symm, Int.le_of_eq hq⟩ h1 h2
  rw [hq] at w
  exact z_iinc h hd hn hl rfl (hs _) (k _ w.1 w.2)
theorem y_iincT (h : Rw g own cc nL ret R scr Q Z) {n : Nat} {q : Int} {L' : Int32 → LO} (hd : decode cc pc = .ok (.iinc n q, 3)) (hn : n < nL) (hl : L[n]? = some (some (.int x))) (hs : ∀ z, st1 L n (.int z) = L' z) (k : ∀ z, Z (pc + 3) (L' z) st iv lv) : Z pc L st iv lv := z_iinc h hd hn hl rfl (hs _) (k _)
theorem y_iald (h : Rw g own cc nL ret R scr Q Z) {k n : Nat} (hI : IsI g k n) (hd : decode cc pc = .ok (.iaload, 1)) (hx : Ra a b x) (h0 : 0 ≤ a) (h1 : b < (n : Int)) (kk : ∀ z, iv k x.toNatClampNeg = z → Z (pc + 1) L (.int z :: st) iv lv) : Z pc L (.int x :: rf g k :: st) iv lv := z_iald h hI hd (ra_in hx h0 h1) (kk _ rfl)
theorem y_ialdN (h : Rw g own cc nL ret R scr Q Z) {k n j : Nat} (hI : IsI g k n) (hd : decode cc pc = .ok (.iaload, 1)) (hj : j < n) (kk : ∀ z, iv k j = z → Z (pc + 1) L (.int z :: st) iv lv) : Z pc L (.int (nI j) :: rf g k :: st) iv lv := z_ialdN h hI hd hj (kk _ rfl)
theorem y_lald (h : Rw g own cc nL ret R scr Q Z) {k n : Nat} (hI : IsL g k n) (hd : decode cc pc = .ok (.laload, 1)) (hx : Ra a b x) (h0 : 0 ≤ a) (h1 : b < (n : Int)) (kk : ∀ z, Z (pc + 1) L (.long z :: st) iv lv) : Z pc L (.int x :: rf g k :: st) iv lv := z_lald h hI hd (ra_in hx h0 h1) (kk _)
theorem y_zald (h : Rw g own cc nL ret R scr Q Z) {k n : Nat} (hI : IsZ g k n) (hd : decode cc pc = .ok (.baload, 1)) (hx : Ra a b x) (h0 : 0 ≤ a) (h1 : b < (n : Int)) (kk : ∀ z, iv k x.toNatClampNeg = z → Z (pc + 1) L (.int z :: st) iv lv) : Z pc L (.int x :: rf g k :: st) iv lv := z_zald h hI hd (ra_in hx h0 h1) (kk _ rfl)
theorem y_mald (h : Rw g own cc nL ret R scr Q Z) {k n : Nat} {r : Nat → Nat} (hI : IsM g k n r) (hd : decode cc pc = .ok (.aaload, 1)) (hx : Ra a b x) (h0 : 0 ≤ a) (h1 : b < (n : Int)) (kk : ∀ j : Nat, j < n → x = nI j → (j : Int) = x.toInt → Z (pc + 1) L (rf g (r j) :: st) iv lv) : Z pc L (.int x :: rf g k :: st) iv lv := by
  obtain ⟨j, hj, rfl, e, f⟩ := ra_nat hx h0
  have := hx.2
  exact z_maldN h hI hd (by omega) (kk j (by omega) rfl e)
theorem y_gald (h : Rw g own cc nL ret R scr Q Z) {k n : Nat} {r : Nat → Nat} (hI : IsG g k n r) (hd : decode cc pc = .ok (.aaload, 1)) (hx : Ra a b x) (h0 : 0 ≤ a) (h1 : b < (n : Int)) (kk : ∀ j : Nat, j < n → x = nI j → (j : Int) = x.toInt → Z (pc + 1) L (rf g (r j) :: st) iv lv) : Z pc L (.int x :: rf g k :: st) iv lv := by
  obtain ⟨j, hj, rfl, e, f⟩ := ra_nat hx h0
  have := hx.2
  exact z_galdN h hI hd (by omega) (kk j (by omega) rfl e)
theorem y_getI (h : Rw g own cc nL ret R scr Q Z) {idx ci j k : Nat} {fin : Bool} {t : FieldType} {F : FF} {fs : List Value} {y : Int32} (hF : FL own idx ci j fin t) (hd : decode cc pc = .ok (.getfield idx, 3)) (hC : Cl g k F) (hfs : F (iv k) (lv k) = .inr (ci, fs)) (hv : fs[j]? = some (.int y)) (kk : ∀ z, y = z → Z (pc + 3) L (.int z :: st) iv lv) : Z pc L (rf g k :: st) iv lv := z_getI h hF hd hC hfs hv rfl (kk _ rfl)
theorem y_getL (h : Rw g own cc nL ret R scr Q Z) {idx ci j k : Nat} {fin : Bool} {t : FieldType} {F : FF} {fs : List Value} {y : Int64} (hF : FL own idx ci j fin t) (hd : decode cc pc = .ok (.getfield idx, 3)) (hC : Cl g k F) (hfs : F (iv k) (lv k) = .inr (ci, fs)) (hv : fs[j]? = some (.long y)) (kk : ∀ z, Z (pc + 3) L (.long z :: st) iv lv) : Z pc L (rf g k :: st) iv lv := z_getL h hF hd hC hfs hv rfl (kk _)
theorem ra_max (hx : Ra a b x) (hy : Ra c d y) {u v : Int} (hu : u ≤ a ∨ u ≤ c) (hv : b ≤ v) (hv2 : d ≤ v) : Ra u v (if x < y then y else x) := by
  have h1 := hx.1; have h2 := hx.2; have h3 := hy.1; have h4 := hy.2
  by_cases h : x < y
  · rw [if_pos h]; rw [Int32.lt_iff_toInt_lt] at h; exact ⟨by rcases hu with q | q <;> omega, by omega⟩
  · rw [if_neg h]; rw [Int32.lt_iff_toInt_lt] at h; exact ⟨by rcases hu with q | q <;> omega, by omega⟩
theorem ra_min (hx : Ra a b x) (hy : Ra c d y) {u v : Int} (hu : u ≤ a) (hu2 : u ≤ c) (hv : b ≤ v ∨ d ≤ v) : Ra u v (if y < x then y else x) := by
  have h1 := hx.1; have h2 := hx.2; have h3 := hy.1; have h4 := hy.2
  by_cases h : y < x
  · rw [if_pos h]; rw [Int32.lt_iff_toInt_lt] at h; exact ⟨by omega, by rcases hv with q | q <;> omega⟩
  · rw [if_neg h]; rw [Int32.lt_iff_toInt_lt] at h; exact ⟨by omega, by rcases hv with q | q <;> omega⟩
theorem y_mmax (h : Rw g own cc nL ret R scr Q Z) {idx : Nat} (hA : MA own idx Lib.Math.max.name) (hc9 : Cond.code Lib.Math.max.name Lib.Math.max.code 2 (some .int) ∈ TBL) (hd : decode cc pc = .ok (.invokestatic idx, 3)) (hR : 1 ≤ R.frames ∧ (st.map fun v => v.category).sum + 13 ≤ R.locals) (hx : Ra a b x) (hy : Ra c d y) {u v : Int} (hu : u ≤ a ∨ u ≤ c) (hv : b ≤ v) (hv2 : d ≤ v) (kk : ∀ z, Ra u v z → Z (pc + 3) L (.int z :: st) iv lv) : Z pc L (.int y :: .int x :: st) iv lv := z_mmaxE h hA hc9 hd hR rfl (kk _ (ra_max hx hy hu hv hv2))
theorem y_mmin (h : Rw g own cc nL ret R scr Q Z) {idx : Nat} (hA : MA own idx Lib.Math.min.name) (hc9 : Cond.code Lib.Math.min.name Lib.Math.min.code 2 (some .int) ∈ TBL) (hd : decode cc pc = .ok (.invokestatic idx, 3)) (hR : 1 ≤ R.frames ∧ (st.map fun v => v.category).sum + 13 ≤ R.locals) (hx : Ra a b x) (hy : Ra c d y) {u v : Int} (hu : u ≤ a) (hu2 : u ≤ c) (hv : b ≤ v ∨ d ≤ v) (kk : ∀ z, Ra u v z → Z (pc + 3) L (.int z :: st) iv lv) : Z pc L (.int y :: .int x :: st) iv lv := z_mminE h hA hc9 hd hR rfl (kk _ (ra_min hx hy hu hu2 hv))
theorem y_mabsT (h : Rw g own cc nL ret R scr Q Z) {idx : Nat} (hA : MA own idx Lib.Math.abs.name) (hc9 : Cond.code Lib.Math.abs.name Lib.Math.abs.code 1 (some .int) ∈ TBL) (hd : decode cc pc = .ok (.invokestatic idx, 3)) (hR : 1 ≤ R.frames ∧ (st.map fun v => v.category).sum + 13 ≤ R.locals) (kk : ∀ z, Z (pc + 3) L (.int z :: st) iv lv) : Z pc L (.int x :: st) iv lv := z_mabsE h hA hc9 hd hR rfl (kk _)
theorem y_mmax_longT (h : Rw g own cc nL ret R scr Q Z) {idx : Nat} {p q : Int64} (hA : MA own idx Lib.MathLoose.max_long.x) (hc9 : Cond.code Lib.MathLoose.max_long.x Lib.MathLoose.max_long.code 4 (some .long) ∈ TBL) (hd : decode cc pc = .ok (.invokestatic idx, 3)) (hR : 1 ≤ R.frames ∧ (st.map fun v => v.category).sum + 15 ≤ R.locals) (kk : ∀ z, Z (pc + 3) L (.long z :: st) iv lv) : Z pc L (.long q :: .long p :: st) iv lv := z_mmax_longE h hA hc9 hd hR rfl (kk _)
theorem y_mmin_longT (h : Rw g own cc nL ret R scr Q Z) {idx : Nat} {p q : Int64} (hA : MA own idx Lib.MathLoose.min_long.x) (hc9 : Cond.code Lib.MathLoose.min_long.x Lib.MathLoose.min_long.code 4 (some .long) ∈ TBL) (hd : decode cc pc = .ok (.invokestatic idx, 3)) (hR : 1 ≤ R.frames ∧ (st.map fun v => v.category).sum + 15 ≤ R.locals) (kk : ∀ z, Z (pc + 3) L (.long z :: st) iv lv) : Z pc L (.long q :: .long p :: st) iv lv := z_mmin_longE h hA hc9 hd hR rfl (kk _)
end YR
theorem ra_and {a b c d u v : Int} {x : Int32} (hx : Ra a b x) (h1 : u ≤ a ∨ u ≤ c) (h2 : b ≤ v ∨ d ≤ v) (hy : Ra c d x) : Ra u v x := ⟨by have := hx.1; have := hy.1; rcases h1 with q | q <;> omega, by have := hx.2; have := hy.2; rcases h2 with q | q <;> omega⟩
theorem ra_meet {a b c d u v : Int} {x : Int32} (hx : Ra a b x) (hy : Ra c d x) (h1 : u ≤ a ∨ u ≤ c) (h2 : b ≤ v ∨ d ≤ v) : Ra u v x := ra_and hx h1 h2 hy
/-! a switch -/
theorem sw_ra {x : Int32} {lo k : Int} {j : Nat} (h : x.toInt = lo + (j : Int)) (e : lo + (j : Int) = k) : Ra k k x := ⟨by omega, by omega⟩
theorem sw_no {x : Int32} {a b lo : Int} {j : Nat} (h : Ra a b x) (e : x.toInt = lo + (j : Int)) (q : lo + (j : Int) < a ∨ b < lo + (j : Int)) : False := by
  have h1 := h.1; have h2 := h.2
  rcases q with q | q <;> omega
theorem sw_lo {x : Int32} {k lo : Int} (h : Ra k k x) (e : lo ≤ k) : ¬ x.toInt < lo := by have := h.1; omega
theorem sw_hi {x : Int32} {k hi : Int} (h : Ra k k x) (e : k ≤ hi) : ¬ hi < x.toInt := by have := h.2; omega
theorem sw_at {x : Int32} {k lo : Int} {offs : Array Int} {off : Int} (h : Ra k k x) (e : offs[(k - lo).toNat]? = some off) : offs[(x.toInt - lo).toNat]? = some off := by
  have h1 := h.1; have h2 := h.2
  rw [show x.toInt = k by omega]; exact e
theorem sw_out {x : Int32} {lo hi : Int} (h : ¬ (lo ≤ x.toInt ∧ x.toInt ≤ hi)) : x.toInt < lo ∨ hi < x.toInt := by omega
theorem ra_ne {a b c : Int} {x y : Int32} (hx : Ra a b x) (hy : Ra c c y) (h : c < a ∨ b < c) : ¬ x = y := fun e => by
  have h1 := hx.1; have h2 := hx.2; have h3 := hy.1; have h4 := hy.2
  rw [e] at h1 h2
  rcases h with q | q <;> omega
theorem bs_add {z x : Int} {y : Int32} {q : Int} (h : z = x + y.toInt) (hy : Ra q q y) : z = x + q := by
  have h1 := hy.1; have h2 := hy.2
  omega
theorem bs_sub {z x : Int} {y : Int32} {q : Int} (h : z = x - y.toInt) (hy : Ra q q y) : z = x + -q := by
  have h1 := hy.1; have h2 := hy.2
  omega
theorem ra_p4 {a b : Int} {y z : Int32} (e : z.toInt = y.toInt + 4) (h : Ra a b y) : Ra (a + 4) (b + 4) z := by
  have h1 := h.1; have h2 := h.2
  exact ⟨by omega, by omega⟩
theorem ra_eqq {c : Int} {x y : Int32} (hx : Ra c c x) (hy : Ra c c y) : x = y := by
  have h1 := hx.1; have h2 := hx.2; have h3 := hy.1; have h4 := hy.2
  exact Int32.toInt_inj.mp (by omega)
