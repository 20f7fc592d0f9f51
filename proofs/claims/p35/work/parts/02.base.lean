/-! MEMORY: 566 cells from B on; what they hold is told by ints and longs -/
abbrev Iv : Type := Nat → Nat → Int32
abbrev Lv : Type := Nat → Nat → Int64
def upI (iv : Iv) (k j : Nat) (x : Int32) : Iv := fun a => if a = k then upd (iv k) j x else iv a
def upL (lv : Lv) (k j : Nat) (x : Int64) : Lv := fun a => if a = k then vp_updL (lv k) j x else lv a
theorem upI_s {iv : Iv} {k j : Nat} {x : Int32} : upI iv k j x k = upd (iv k) j x := if_pos rfl
theorem upI_n {iv : Iv} {k j a : Nat} {x : Int32} (h : a ≠ k) : upI iv k j x a = iv a := if_neg h
theorem upL_s {lv : Lv} {k j : Nat} {x : Int64} : upL lv k j x k = vp_updL (lv k) j x := if_pos rfl
theorem upL_n {lv : Lv} {k j a : Nat} {x : Int64} (h : a ≠ k) : upL lv k j x a = lv a := if_neg h
theorem upI_at {iv : Iv} {k j a b : Nat} {x : Int32} : upI iv k j x a b = if a = k ∧ b = j then x else iv a b := by
  unfold upI upd
  by_cases h : a = k
  · subst h; simp
  · simp [h]
theorem upL_at {lv : Lv} {k j a b : Nat} {x : Int64} : upL lv k j x a b = if a = k ∧ b = j then x else lv a b := by
  unfold upL vp_updL
  by_cases h : a = k
  · subst h; simp
  · simp [h]
/-- launch, classes, array classes, base, the three static arrays -/
abbrev GE : Type := Launch × va_G × (Nat → ClassId) × Nat × (Nat → Nat)
abbrev gL (g : GE) : Launch := g.1
abbrev gD (g : GE) : va_G := g.2.1
abbrev gE (g : GE) : Nat → ClassId := g.2.2.1
abbrev gB (g : GE) : Nat := g.2.2.2.1
abbrev gt (g : GE) : Nat → Nat := g.2.2.2.2
def rf (g : GE) (k : Nat) : Value := .ref (gB g + k)
def rt (g : GE) (i : Nat) : Value := .ref (gt g i)
abbrev FF : Type := (Nat → Int32) → (Nat → Int64) → va_E
abbrev aI (g : GE) (n : Nat) : FF := fun f _ => .inl (gE g 0, n, .inl f)
abbrev aL (g : GE) (n : Nat) : FF := fun _ f => .inl (gE g 1, n, .inr (.inl f))
abbrev aZ (g : GE) (n : Nat) : FF := fun f _ => .inl (gE g 2, n, .inl f)
abbrev aR (g : GE) (c n : Nat) (r : Nat → Nat) : FF := fun _ _ => .inl (gE g c, n, .inr (.inr (.inr (.inr (fun i => if i < n then some (gB g + r i) else none)))))
def oT (g : GE) (t n : Nat) : FF := fun f _ => .inr (2, [rf g (t + 1), .int (nI n), .int (f 2)])
def oM (g : GE) (m : Nat) : FF := fun f _ => .inr (4, [rf g (m + 1), rf g (m + 2), rf g (m + 3), rf g (m + 4), rf g (m + 5), rf g (m + 6), rf g (m + 7), .int (f 7), .int (f 8), .int (f 9), .int (f 10)])
def oN (g : GE) (n : Nat) : FF := fun f _ => .inr (3, [rf g (n + 1), rf g (n + 2), .int (f 2), rf g (n + 3)])
def oH (g : GE) (h : Nat) : FF := fun f q => .inr (1, [rf g (h + 1), rf g (h + 2), rf g (h + 3), rf g (h + 4), rf g (h + 5), rf g (h + 6), rf g (h + 7), rf g (h + 17), rf g (h + 38), rf g (h + 46), .int (f 10), .int (f 11), .long (q 12), rf g (h + 54), rf g (h + 58), .int (f 15), rf g (h + 59)])
def oX (g : GE) : FF := fun f _ => .inr (0, [rf g 1, rf g 181, rf g 361, rf g 541, .int (f 4)])
def oR (g : GE) : FF := fun f _ => .inr (5, [rf g 542, .int (f 1), rf g 543, .int (f 3), .int (f 4), .int (f 5)])
def oY (g : GE) : FF := fun f _ => .inr (6, [.int (f 0), rf g 552, rf g 553, rf g 554, rf g 555, .int (f 5), .int (f 6), .int (f 7), rf g 556, .int (f 9), .int (f 10), rf g 557, rf g 558, rf g 559, .int (f 14), rf g 560, rf g 561, .int (f 17), .int (f 18), .int (f 19), .int (f 20), .int (f 21), rf g 562, .int (f 23), .int (f 24), .int (f 25), .int (f 26), .int (f 27), rf g 563, .int (f 29), rf g 564, rf g 565])
def cT (g : GE) (t c n q : Nat) : FF := if q = 0 then oT g t n else if q = 1 then aR g 4 c (fun i => t + 2 + i) else aI g n
def cM (g : GE) (m q : Nat) : FF := if q = 0 then oM g m else if q = 1 then aL g 12 else if q < 7 then aI g 12 else if q = 7 then aR g 4 12 (fun i => m + 8 + i) else aI g 100
def cN (g : GE) (n q : Nat) : FF := if q = 0 then oN g n else if q < 3 then aI g 1200 else aI g 12
def cH (g : GE) (h r : Nat) : FF := if r = 0 then oH g h else if r = 1 then aI g 7 else if r = 2 then aL g 12 else if r < 5 then aI g 12 else if r = 5 then aZ g 12 else if r = 6 then aR g 3 6 (fun i => h + 60 + 20 * i)
  else if r < 17 then cT g (h + 7) 8 200 (r - 7) else if r < 38 then cT g (h + 17) 19 60 (r - 17) else if r < 46 then cT g (h + 38) 6 300 (r - 38) else if r < 54 then cT g (h + 46) 6 24 (r - 46)
  else if r < 58 then cN g (h + 54) (r - 54) else if r < 60 then aI g 12 else cM g (h + 60 + 20 * ((r - 60) / 20)) ((r - 60) % 20)
def cY (g : GE) (q : Nat) : FF := if q = 0 then oY g else if q < 3 then aI g 19782 else if q < 5 then aL g 13 else if q = 5 then aI g 13 else if q < 9 then aI g 1224 else if q = 9 then aZ g 12 else if q = 10 then aI g 400 else if q = 11 then aI g 57 else if q = 12 then aI g 288 else if q = 13 then aI g 19927 else aL g 13
def cA (g : GE) (k : Nat) : FF := if k = 0 then oX g else if k < 541 then cH g (1 + 180 * ((k - 1) / 180)) ((k - 1) % 180) else if k = 541 then oR g else if k = 542 then aI g 400 else if k < 551 then cT g 543 6 24 (k - 543) else cY g (k - 551)
/-- the cell of that name holds that -/
def Cl (g : GE) (k : Nat) (F : FF) : Prop := k < 566 ∧ cA g k = F
def cellsL (g : GE) (iv : Iv) (lv : Lv) : va_W := (List.range 566).map (fun k => (gB g + k, cA g k (iv k) (lv k)))
theorem cl_get {g : GE} {iv : Iv} {lv : Lv} {k : Nat} {F : FF} (h : Cl g k F) : (cellsL g iv lv)[k]? = some (gB g + k, F (iv k) (lv k)) := by
  obtain ⟨h1, h2⟩ := h
  subst h2
  unfold cellsL
  rw [List.getElem?_map, List.getElem?_range h1]
  rfl
theorem cl_raw {g : GE} {iv : Iv} {lv : Lv} {k : Nat} (h : k < 566) : (cellsL g iv lv)[k]? = some (gB g + k, cA g k (iv k) (lv k)) := cl_get ⟨h, rfl⟩
theorem cl_inv {g : GE} {iv : Iv} {lv : Lv} {k : Nat} {q : Nat × va_E} (h : (cellsL g iv lv)[k]? = some q) : k < 566 ∧ q.1 = gB g + k := by
  have hl := (List.getElem?_eq_some_iff.mp h).1
  have h2 : k < 566 := by unfold cellsL at hl; rw [List.length_map, List.length_range] at hl; exact hl
  rw [cl_raw h2] at h
  cases h
  exact ⟨h2, rfl⟩
theorem cl_ext {g : GE} {iv : Iv} {lv : Lv} {W : va_W} (hl : W.length = 566) (h : ∀ k, k < 566 → W[k]? = some (gB g + k, cA g k (iv k) (lv k))) : W = cellsL g iv lv := by
  apply List.ext_getElem?
  intro k
  by_cases hk : k < 566
  · rw [h k hk, cl_raw hk]
  · rw [List.getElem?_eq_none_iff.mpr (by omega), List.getElem?_eq_none_iff.mpr (by unfold cellsL; rw [List.length_map, List.length_range]; omega)]
theorem cl_len {g : GE} {iv : Iv} {lv : Lv} : (cellsL g iv lv).length = 566 := by unfold cellsL; rw [List.length_map, List.length_range]
theorem cl_set {g : GE} {iv iv' : Iv} {lv lv' : Lv} {k : Nat} {e : va_E} (hk : k < 566) (he : e = cA g k (iv' k) (lv' k)) (hi : ∀ a, a ≠ k → iv' a = iv a) (hl : ∀ a, a ≠ k → lv' a = lv a) : (cellsL g iv lv).set k (gB g + k, e) = cellsL g iv' lv' := by
  apply cl_ext
  · rw [List.length_set]; exact cl_len
  · intro a ha
    by_cases h : a = k
    · subst h
      rw [List.getElem?_set_self (by rw [cl_len]; exact hk), he]
    · rw [List.getElem?_set_ne (Ne.symm h), cl_raw ha, hi a h, hl a h]
theorem cl_D {g : GE} {iv : Iv} {lv : Lv} : va_D (fun q => gB g ≤ q) (cellsL g iv lv) := by
  refine ⟨fun i j p q hp hq h => ?_, fun k q hq => ?_⟩
  · have h1 := (cl_inv hp).2
    have h2 := (cl_inv hq).2
    omega
  · have h1 := (cl_inv hq).2
    show gB g ≤ q.1
    omega
abbrev CLS : List vw_C := [(RX8, TX8, 5), (RX1, TX1, 17), (RX7, TX7, 3), (RX2, TX2, 4), (RX3, TX3, 11), (RX6, TX6, 6), (RX9, TX9, 32)]
abbrev tysL (E : Nat → ClassId) : List (ClassId × FieldType) := [(E 0, .int), (E 1, .long), (E 2, .boolean), (E 3, .object "RollingNets$Market"), (E 4, .array .int)]
def gA (g : GE) : Nat → Prop := fun q => gB g ≤ q
def sN : Nat → String | 0 => "TOLD_FIRST" | 1 => "TOLD_LEAST" | _ => "TOLD_MOST"
def sV (i j : Nat) : Int32 := ((([[6, 2, 2, 3, 1, 10, 0], [2, 0, 1, 1, 0, 0, 0], [12, 3, 9, 9, 5, 100, 100]] : List (List Int32)).getD i []).getD j 0)
/-- the class's texts: the words of a line, and their shapes -/
def sTt (i : Nat) : String := (["buy", "apart", "stock", "reserve", "lend", "rank", "price", "give", "call", "night", "MMINP", "MIZ", "MR", "IP", "MIN", "T", "K"] : List String).getD i ""
def sTx (i : Nat) : List Int32 := ([[98, 117, 121], [97, 112, 97, 114, 116], [115, 116, 111, 99, 107], [114, 101, 115, 101, 114, 118, 101], [108, 101, 110, 100], [114, 97, 110, 107], [112, 114, 105, 99, 101], [103, 105, 118, 101], [99, 97, 108, 108], [110, 105, 103, 104, 116], [77, 77, 73, 78, 80], [77, 73, 90], [77, 82], [73, 80], [77, 73, 78], [84], [75]] : List (List Int32)).getD i []
def Sx (g : GE) (U : State) (H : Heap) : Prop := (∀ i, i < 3 → va_Z "RollingNets" (sN i) "[I" (rt g i) (gA g) U H ∧ va_T .int (gt g i) 7 (fun j => .int (sV i j)) (gA g) U H) ∧ (va_Z "java/lang/String" "COMPACT_STRINGS" "Z" (.int 1) (gA g) U H ∧ va_Zq "jdk/internal/util/Preconditions" "SIOOBE_FORMATTER" "Ljava/util/function/BiFunction;" (gA g) U H) ∧ ∀ i, i < 17 → (va_O "java/lang/String" (gt g (3 + i)) (gA g) U H ∧ va_OF "java/lang/String" "coder" "B" (.int 0) (gt g (3 + i)) (gA g) U H) ∧ va_OF "java/lang/String" "value" "[B" (.ref (gt g (20 + i))) (gt g (3 + i)) (gA g) U H ∧ va_T .byte (gt g (20 + i)) (sTx i).length (fun j => .int ((sTx i).getD j 0)) (gA g) U H
def Mo (g : GE) (iv : Iv) (lv : Lv) (H : Heap) : Prop := va_P (gD g) CLS (cellsL g iv lv) H
def isNest : Cond → Bool
  | .fieldLinkNest .. => true
  | .methodLinkNest .. => true
  | _ => false
/-- the links between nest mates: words that only the state keeps -/
def NTB : List Cond := lw_tbl.filter isNest
theorem NTB_mem {w : Cond} (i : Nat) (h : lw_tbl[i]? = some w) (hg : isNest w = true) : w ∈ NTB := List.mem_filter.mpr ⟨List.mem_of_getElem? h, hg⟩
def Nst (g : GE) (U : State) : Prop := (∀ w ∈ NTB, va_Nw w U) ∧ ∀ i, i < 17 → vk_R "RollingNets$Reader" (103 + 2 * i) (sTt i) (gt g (3 + i)) U
theorem Nst.warm {g : GE} {s U : State} (hW : s.WarmedH U.vm) (h : Nst g s) : Nst g U := ⟨fun w hw => by
  have h1 := h.1 w hw
  have h2 := (List.mem_filter.mp hw).2
  cases w <;> first | (exact h1.warmF hW) | (exact h1.warmM hW) | (cases h2), fun i hi => vk_R.warm hW (h.2 i hi)⟩
theorem Nst.same {g : GE} {u U : State} (hvm : u.vm = U.vm) (h : Nst g u) : Nst g U := ⟨fun w hw => by
  have h1 := h.1 w hw
  have h2 := (List.mem_filter.mp hw).2
  cases w <;> first | (exact va_Nw.same rfl hvm h1) | (cases h2), fun i hi => vk_R.same hvm.symm (h.2 i hi)⟩
def Kn (g : GE) (U : State) : Prop := va_K (gD g) CLS (tysL (gE g)) U ∧ Sx g U U.heap ∧ Nst g U
theorem Sx.moved {g : GE} {u U : State} {H : Heap} (hvm : u.vm.Alike U.vm) (h : Sx g u H) : Sx g U H := ⟨fun i hi => ⟨(h.1 i hi).1.moved hvm, (h.1 i hi).2.moved hvm⟩, ⟨h.2.1.1.moved hvm, h.2.1.2.moved hvm⟩, fun i hi => ⟨⟨(h.2.2 i hi).1.1.moved hvm, (h.2.2 i hi).1.2.moved hvm⟩, (h.2.2 i hi).2.1.moved hvm, (h.2.2 i hi).2.2.moved hvm⟩⟩
theorem Sx.kept {g : GE} {U : State} {H H1 : Heap} (h : Sx g U H) (hq : ∀ a : Nat, a < H.size → ¬ gA g a → H1[a]? = H[a]?) : Sx g U H1 := ⟨fun i hi => ⟨(h.1 i hi).1.kept hq, (h.1 i hi).2.kept hq⟩, ⟨h.2.1.1.kept hq, h.2.1.2.kept hq⟩, fun i hi => ⟨⟨(h.2.2 i hi).1.1.kept hq, (h.2.2 i hi).1.2.kept hq⟩, (h.2.2 i hi).2.1.kept hq, (h.2.2 i hi).2.2.kept hq⟩⟩
/-- all words of the tables -/
def TBL : List Cond := lw_tbl.filter goodWord
theorem TBL_good : TBL.all goodWord = true := List.all_eq_true.mpr (fun w hw => (List.mem_filter.mp hw).2)
theorem TBL_mem {w : Cond} (i : Nat) (h : lw_tbl[i]? = some w) (hg : goodWord w = true) : w ∈ TBL := List.mem_filter.mpr ⟨List.mem_of_getElem? h, hg⟩
theorem TBL_in {own : List Cond} (h : ∀ w ∈ own, w ∈ TBL) : GoodIn TBL own := fun w hw => ⟨h w hw, good_of_word (List.all_eq_true.mp TBL_good w (h w hw))⟩
def rmd (d : Nat) : Room := { frames := d, cells := 0, slots := 0, locals := 40 * d }
/-- A CONTRACT: on these arguments and this memory the method returns, so -/
def Con (g : GE) (y : MethodName) (b : ByteArray) (n : Nat) (ret : Option FieldType) (d : Nat) (as : List Value) (iv : Iv) (lv : Lv) (Q : Option Value → Iv → Lv → Prop) : Prop :=
  Met (gL g) y (.code y b n ret :: TBL) (rmd d) (va_Pc as (fun U => Mo g iv lv U.heap ∧ Kn g U)) (fun _ st oc t => ∃ v iv' lv', oc = .returned v ∧ Q v iv' lv' ∧ Mo g iv' lv' t.heap ∧ va_F (gA g) st t) 0 0 (gA g)
/-- the locals -/
abbrev LO : Type := List (Option Value)
def lvL (ls : Array Slot) (nL : Nat) (L : LO) : Prop := ls.size = nL ∧ lv_wf ls ∧ ∀ (i : Nat) (v : Value), L[i]? = some (some v) → ls[i]? = some (.val v)
def clr : Option Value → Option Value
  | some v => if v.category = 2 then none else some v
  | none => none
def st1 : LO → Nat → Value → LO
  | [], _, _ => []
  | _ :: t, 0, v => some v :: t
  | a :: t, 1, v => clr a :: st1 t 0 v
  | a :: t, n + 2, v => a :: st1 t (n + 1) v
def st2 : LO → Nat → Value → LO
  | [], _, _ => []
  | _ :: t, 0, v => some v :: st1n t
  | a :: t, 1, v => clr a :: st2 t 0 v
  | a :: t, n + 2, v => a :: st2 t (n + 1) v
where st1n : LO → LO
  | [] => []
  | _ :: t => none :: t
theorem clr_some {o : Option Value} {v : Value} (h : clr o = some v) : o = some v ∧ ¬ v.category = 2 := by
  cases o with
  | none => cases h
  | some w =>
    by_cases hc : w.category = 2
    · rw [show clr (some w) = none from if_pos hc] at h
      cases h
    · rw [show clr (some w) = some w from if_neg hc] at h
      cases h
      exact ⟨rfl, hc⟩
theorem st1_spec : ∀ (L : LO) (i j : Nat) (v w : Value), (st1 L i v)[j]? = some (some w) → (j = i ∧ w = v) ∨ (j ≠ i ∧ L[j]? = some (some w) ∧ ¬ (j + 1 = i ∧ w.category = 2))
  | [], i, j, v, w, h => by simp [st1] at h
  | a :: t, 0, j, v, w, h => by
    cases j with
    | zero => simp [st1] at h; exact Or.inl ⟨rfl, h.symm⟩
    | succ j => simp [st1] at h; exact Or.inr ⟨by omega, by simpa using h, by omega⟩
  | a :: t, 1, j, v, w, h => by
    cases j with
    | zero =>
      simp [st1] at h
      obtain ⟨h1, h2⟩ := clr_some h
      exact Or.inr ⟨by omega, by simp [h1], fun q => h2 q.2⟩
    | succ j =>
      have h' : (st1 t 0 v)[j]? = some (some w) := by simpa [st1] using h
      rcases st1_spec t 0 j v w h' with ⟨e1, e2⟩ | ⟨e1, e2, e3⟩
      · exact Or.inl ⟨by omega, e2⟩
      · exact Or.inr ⟨by omega, by simpa using e2, by omega⟩
  | a :: t, n + 2, j, v, w, h => by
    cases j with
    | zero => simp [st1] at h; exact Or.inr ⟨by omega, by simp [h], by omega⟩
    | succ j =>
      have h' : (st1 t (n + 1) v)[j]? = some (some w) := by simpa [st1] using h
      rcases st1_spec t (n + 1) j v w h' with ⟨e1, e2⟩ | ⟨e1, e2, e3⟩
      · exact Or.inl ⟨by omega, e2⟩
      · exact Or.inr ⟨by omega, by simpa using e2, fun q => e3 ⟨by omega, q.2⟩⟩
theorem st2_spec : ∀ (L : LO) (i j : Nat) (v w : Value), (st2 L i v)[j]? = some (some w) → (j = i ∧ w = v) ∨ (j ≠ i ∧ j ≠ i + 1 ∧ L[j]? = some (some w) ∧ ¬ (j + 1 = i ∧ w.category = 2))
  | [], i, j, v, w, h => by simp [st2] at h
  | a :: t, 0, j, v, w, h => by
    cases j with
    | zero => simp [st2] at h; exact Or.inl ⟨rfl, h.symm⟩
    | succ j =>
      cases t with
      | nil => simp [st2, st2.st1n] at h
      | cons b t =>
        cases j with
        | zero => simp [st2, st2.st1n] at h
        | succ j => simp [st2, st2.st1n] at h; exact Or.inr ⟨by omega, by omega, by simpa using h, by omega⟩
  | a :: t, 1, j, v, w, h => by
    cases j with
    | zero =>
      simp [st2] at h
      obtain ⟨h1, h2⟩ := clr_some h
      exact Or.inr ⟨by omega, by omega, by simp [h1], fun q => h2 q.2⟩
    | succ j =>
      have h' : (st2 t 0 v)[j]? = some (some w) := by simpa [st2] using h
      rcases st2_spec t 0 j v w h' with ⟨e1, e2⟩ | ⟨e1, e1', e2, e3⟩
      · exact Or.inl ⟨by omega, e2⟩
      · exact Or.inr ⟨by omega, by omega, by simpa using e2, by omega⟩
  | a :: t, n + 2, j, v, w, h => by
    cases j with
    | zero => simp [st2] at h; exact Or.inr ⟨by omega, by omega, by simp [h], by omega⟩
    | succ j =>
      have h' : (st2 t (n + 1) v)[j]? = some (some w) := by simpa [st2] using h
      rcases st2_spec t (n + 1) j v w h' with ⟨e1, e2⟩ | ⟨e1, e1', e2, e3⟩
      · exact Or.inl ⟨by omega, e2⟩
      · exact Or.inr ⟨by omega, by omega, by simpa using e2, fun q => e3 ⟨by omega, q.2⟩⟩
def prs (L : LO) : List (Nat × Value) := (List.range L.length).filterMap (fun i => (L[i]?.bind id).map (fun v => (i, v)))
theorem prs_in {L : LO} {i : Nat} {v : Value} : (i, v) ∈ prs L ↔ L[i]? = some (some v) := by
  unfold prs
  rw [List.mem_filterMap]
  constructor
  · rintro ⟨j, -, h⟩
    cases hj : L[j]? with
    | none => simp [hj] at h
    | some o =>
      cases o with
      | none => simp [hj] at h
      | some w =>
        simp [hj] at h
        obtain ⟨rfl, rfl⟩ := h
        exact hj
  · intro h
    exact ⟨i, List.mem_range.mpr (List.getElem?_eq_some_iff.mp h).1, by simp [h]⟩
theorem lvL_has {ls : Array Slot} {nL : Nat} {L : LO} (h : lvL ls nL L) : lv_has ls nL (prs L) := ⟨h.1, h.2.1, fun q hq => h.2.2 q.1 q.2 (prs_in.mp hq)⟩
theorem lvL_st1 {ls ls' : Array Slot} {nL i : Nat} {L : LO} {v : Value} (h : lv_has ls' nL ((i, v) :: (prs L).filter (fun q => !(q.1 == i) && !(q.1 + 1 == i && q.2.category == 2)))) : lvL ls' nL (st1 L i v) := by
  refine ⟨h.1, h.2.1, fun j w hj => ?_⟩
  rcases st1_spec L i j v w hj with ⟨e1, e2⟩ | ⟨e1, e2, e3⟩
  · subst e1; subst e2; exact h.2.2 (j, w) List.mem_cons_self
  · refine h.2.2 (j, w) (List.mem_cons_of_mem _ (List.mem_filter.mpr ⟨prs_in.mpr e2, ?_⟩))
    by_cases h1 : j + 1 = i
    · have h2 : ¬ w.category = 2 := fun q => e3 ⟨h1, q⟩
      simp [e1, h2]
    · simp [e1, h1]
theorem lvL_st2 {ls ls' : Array Slot} {nL i : Nat} {L : LO} {v : Value} (h : lv_has ls' nL ((i, v) :: (prs L).filter (fun q => !(q.1 == i) && (!(q.1 == i + 1) && !(q.1 + 1 == i && q.2.category == 2))))) : lvL ls' nL (st2 L i v) := by
  refine ⟨h.1, h.2.1, fun j w hj => ?_⟩
  rcases st2_spec L i j v w hj with ⟨e1, e2⟩ | ⟨e1, e1', e2, e3⟩
  · subst e1; subst e2; exact h.2.2 (j, w) List.mem_cons_self
  · refine h.2.2 (j, w) (List.mem_cons_of_mem _ (List.mem_filter.mpr ⟨prs_in.mpr e2, ?_⟩))
    by_cases h1 : j + 1 = i
    · have h2 : ¬ w.category = 2 := fun q => e3 ⟨h1, q⟩
      simp [e1, e1', h2]
    · simp [e1, e1', h1]
abbrev ZT : Type := Nat → LO → List Value → Iv → Lv → Prop
/-- that instruction returns that -/
def RetOK (cc : ByteArray) (pc : Nat) (ret : Option FieldType) : Option Value → Prop
  | none => ret = none ∧ decode cc pc = .ok (.return_, 1)
  | some (.int x) => (ret = some .int ∨ (ret = some .boolean ∧ (x = 0 ∨ x = 1)) ∨ (ret = some .byte ∧ narrow .byte (.int x) = .int x) ∨ (ret = some .char ∧ narrow .char (.int x) = .int x)) ∧ decode cc pc = .ok (.ireturn, 1)
  | some (.long _) => ret = some .long ∧ decode cc pc = .ok (.lreturn, 1)
  | some (.ref _) => ret = some (.object "java/lang/String") ∧ decode cc pc = .ok (.areturn, 1)
  | _ => False
/-- A WALK inside a method: Z is 'the machine, at this pc with these locals, this stack and this memory, comes to a state as wanted' -/
def Rw (g : GE) (own : String) (cc : ByteArray) (nL : Nat) (ret : Option FieldType) (R : Room) (scr : Option (Nat × Nat × (Nat → Int32))) (Q : Option Value → Iv → Lv → Prop) (Z : ZT) : Prop :=
  ∃ (p : Program) (e : Env) (s : State) (m : MethodId) (args : Array Value) (below : List Frame) (meth : Method) (c : Code) (cells slots : Nat) (A : Nat → Prop) (H0 : Heap) (QS : State → Prop),
    p.tables.exec = Jvm.exec ∧ c.code = cc ∧ c.maxLocals = nL ∧ s.vm.findClass own = some m.cls ∧ (∀ w ∈ TBL, w.before args s = true) ∧ (va_K (gD g) CLS (tysL (gE g)) s ∧ Sx g s s.heap ∧ Nst g s) ∧ (cells ≤ R.cells ∧ slots ≤ R.slots) ∧
    (∀ q : (Nat × Nat × (Nat → Int32)), scr = some q → va_X q.1 q.2.1 q.2.2 s s.heap ∧ q.1 < s.heap.size ∧ ¬ gA g q.1) ∧
    (∀ (pc : Nat) (ls : Array Slot) (iv : Iv) (lv : Lv) (H : Heap) (locs : List Loc) (v : Option Value), RetOK cc pc ret v → Q v iv lv → Mo g iv lv H → va_S (gA g) s.heap H locs → W p (gL g) e R s m args below meth c H locs cells slots QS (F0 m pc ls v.toList)) ∧
    ∀ pc L st iv lv, Z pc L st iv lv ↔ ∀ (H : Heap) (ls : Array Slot) (locs : List Loc), Mo g iv lv H → va_S (gA g) s.heap H locs → lvL ls nL L → W p (gL g) e R s m args below meth c H locs cells slots QS (F0 m pc ls st)

section ZR
variable {g : GE} {own : String} {cc : ByteArray} {nL : Nat} {ret : Option FieldType} {R : Room} {scr : Option (Nat × Nat × (Nat → Int32))} {Q : Option Value → Iv → Lv → Prop} {Z : ZT} {pc : Nat} {L : LO} {st : List Value} {iv : Iv} {lv : Lv}
theorem z_iconst (h : Rw g own cc nL ret R scr Q Z) {n : Int} {v : Int32} (hd : decode cc pc = .ok (.iconst n, 1)) (hv : Int32.ofInt n = v) (k : Z (pc + 1) L (.int v :: st) iv lv) : Z pc L (st) iv lv := by
  obtain ⟨p, e, s, m, args, below, meth, c, cells, slots, A, H0, QS, hx, hb, hml, hown, hts, hK, hf, hscr, hfin, hZ⟩ := h
  rw [hZ]
  rw [hZ] at k
  intro H ls locs hM hS hL
  exact lv_iconst hx hb hd hv (k H ls locs hM hS hL)
theorem z_bipush (h : Rw g own cc nL ret R scr Q Z) {n : Int} {v : Int32} (hd : decode cc pc = .ok (.bipush n, 2)) (hv : (Int8.ofInt n).toInt32 = v) (k : Z (pc + 2) L (.int v :: st) iv lv) : Z pc L (st) iv lv := by
  obtain ⟨p, e, s, m, args, below, meth, c, cells, slots, A, H0, QS, hx, hb, hml, hown, hts, hK, hf, hscr, hfin, hZ⟩ := h
  rw [hZ]
  rw [hZ] at k
  intro H ls locs hM hS hL
  exact lv_bipush hx hb hd hv (k H ls locs hM hS hL)
theorem z_sipush (h : Rw g own cc nL ret R scr Q Z) {n : Int} {v : Int32} (hd : decode cc pc = .ok (.sipush n, 3)) (hv : (Int16.ofInt n).toInt32 = v) (k : Z (pc + 3) L (.int v :: st) iv lv) : Z pc L (st) iv lv := by
  obtain ⟨p, e, s, m, args, below, meth, c, cells, slots, A, H0, QS, hx, hb, hml, hown, hts, hK, hf, hscr, hfin, hZ⟩ := h
  rw [hZ]
  rw [hZ] at k
  intro H ls locs hM hS hL
  exact lv_sipush hx hb hd hv (k H ls locs hM hS hL)
theorem z_lconst (h : Rw g own cc nL ret R scr Q Z) {n : Fin 2} {v : Int64} (hd : decode cc pc = .ok (.lconst n, 1)) (hv : Int64.ofNat (n : Nat) = v) (k : Z (pc + 1) L (.long v :: st) iv lv) : Z pc L (st) iv lv := by
  obtain ⟨p, e, s, m, args, below, meth, c, cells, slots, A, H0, QS, hx, hb, hml, hown, hts, hK, hf, hscr, hfin, hZ⟩ := h
  rw [hZ]
  rw [hZ] at k
  intro H ls locs hM hS hL
  exact lv_lconst hx hb hd hv (k H ls locs hM hS hL)
theorem z_ldc (h : Rw g own cc nL ret R scr Q Z) {i : Nat} {v : Int32} (hd : decode cc pc = .ok (.ldc i, 2)) (hc : Cond.constant own i v ∈ TBL) (k : Z (pc + 2) L (.int v :: st) iv lv) : Z pc L (st) iv lv := by
  obtain ⟨p, e, s, m, args, below, meth, c, cells, slots, A, H0, QS, hx, hb, hml, hown, hts, hK, hf, hscr, hfin, hZ⟩ := h
  rw [hZ]
  rw [hZ] at k
  intro H ls locs hM hS hL
  exact lv_ldc hx hb hown (hts _ hc) hd (k H ls locs hM hS hL)
theorem z_ldcw (h : Rw g own cc nL ret R scr Q Z) {i : Nat} {v : Int32} (hd : decode cc pc = .ok (.ldc_w i, 3)) (hc : Cond.constant own i v ∈ TBL) (k : Z (pc + 3) L (.int v :: st) iv lv) : Z pc L (st) iv lv := by
  obtain ⟨p, e, s, m, args, below, meth, c, cells, slots, A, H0, QS, hx, hb, hml, hown, hts, hK, hf, hscr, hfin, hZ⟩ := h
  rw [hZ]
  rw [hZ] at k
  intro H ls locs hM hS hL
  exact lv_ldcw hx hb hown (hts _ hc) hd (k H ls locs hM hS hL)
theorem z_ldc2 (h : Rw g own cc nL ret R scr Q Z) {i : Nat} {v : Int64} (hd : decode cc pc = .ok (.ldc2_w i, 3)) (hc : Cond.constantLong own i v ∈ TBL) (k : Z (pc + 3) L (.long v :: st) iv lv) : Z pc L (st) iv lv := by
  obtain ⟨p, e, s, m, args, below, meth, c, cells, slots, A, H0, QS, hx, hb, hml, hown, hts, hK, hf, hscr, hfin, hZ⟩ := h
  rw [hZ]
  rw [hZ] at k
  intro H ls locs hM hS hL
  exact lv_ldc2 hx hb hown (hts _ hc) hd (k H ls locs hM hS hL)
theorem z_iloadn (h : Rw g own cc nL ret R scr Q Z) {n : Fin 4} {x : Int32} (hd : decode cc pc = .ok (.iload_n n, 1)) (hl : L[(n : Nat)]? = some (some (.int x))) (k : Z (pc + 1) L (.int x :: st) iv lv) : Z pc L (st) iv lv := by
  obtain ⟨p, e, s, m, args, below, meth, c, cells, slots, A, H0, QS, hx, hb, hml, hown, hts, hK, hf, hscr, hfin, hZ⟩ := h
  rw [hZ]
  rw [hZ] at k
  intro H ls locs hM hS hL
  exact lv_iload_n hx hb hd rfl (hL.2.2 _ _ hl) (k H ls locs hM hS hL)
theorem z_iload (h : Rw g own cc nL ret R scr Q Z) {n : Nat} {x : Int32} (hd : decode cc pc = .ok (.iload n, 2)) (hl : L[n]? = some (some (.int x))) (k : Z (pc + 2) L (.int x :: st) iv lv) : Z pc L (st) iv lv := by
  obtain ⟨p, e, s, m, args, below, meth, c, cells, slots, A, H0, QS, hx, hb, hml, hown, hts, hK, hf, hscr, hfin, hZ⟩ := h
  rw [hZ]
  rw [hZ] at k
  intro H ls locs hM hS hL
  exact lv_iload hx hb hd (hL.2.2 _ _ hl) (k H ls locs hM hS hL)
theorem z_lloadn (h : Rw g own cc nL ret R scr Q Z) {n : Fin 4} {x : Int64} (hd : decode cc pc = .ok (.lload_n n, 1)) (hl : L[(n : Nat)]? = some (some (.long x))) (k : Z (pc + 1) L (.long x :: st) iv lv) : Z pc L (st) iv lv := by
  obtain ⟨p, e, s, m, args, below, meth, c, cells, slots, A, H0, QS, hx, hb, hml, hown, hts, hK, hf, hscr, hfin, hZ⟩ := h
  rw [hZ]
  rw [hZ] at k
  intro H ls locs hM hS hL
  exact lv_lload_n hx hb hd rfl (hL.2.2 _ _ hl) (k H ls locs hM hS hL)
theorem z_lload (h : Rw g own cc nL ret R scr Q Z) {n : Nat} {x : Int64} (hd : decode cc pc = .ok (.lload n, 2)) (hl : L[n]? = some (some (.long x))) (k : Z (pc + 2) L (.long x :: st) iv lv) : Z pc L (st) iv lv := by
  obtain ⟨p, e, s, m, args, below, meth, c, cells, slots, A, H0, QS, hx, hb, hml, hown, hts, hK, hf, hscr, hfin, hZ⟩ := h
  rw [hZ]
  rw [hZ] at k
  intro H ls locs hM hS hL
  exact lv_lload hx hb hd (hL.2.2 _ _ hl) (k H ls locs hM hS hL)
theorem z_aloadn (h : Rw g own cc nL ret R scr Q Z) {n : Fin 4} {x : Nat} (hd : decode cc pc = .ok (.aload_n n, 1)) (hl : L[(n : Nat)]? = some (some (.ref x))) (k : Z (pc + 1) L (.ref x :: st) iv lv) : Z pc L (st) iv lv := by
  obtain ⟨p, e, s, m, args, below, meth, c, cells, slots, A, H0, QS, hx, hb, hml, hown, hts, hK, hf, hscr, hfin, hZ⟩ := h
  rw [hZ]
  rw [hZ] at k
  intro H ls locs hM hS hL
  exact lv_aload_n hx hb hd rfl (hL.2.2 _ _ hl) (k H ls locs hM hS hL)
theorem z_aload (h : Rw g own cc nL ret R scr Q Z) {n : Nat} {x : Nat} (hd : decode cc pc = .ok (.aload n, 2)) (hl : L[n]? = some (some (.ref x))) (k : Z (pc + 2) L (.ref x :: st) iv lv) : Z pc L (st) iv lv := by
  obtain ⟨p, e, s, m, args, below, meth, c, cells, slots, A, H0, QS, hx, hb, hml, hown, hts, hK, hf, hscr, hfin, hZ⟩ := h
  rw [hZ]
  rw [hZ] at k
  intro H ls locs hM hS hL
  exact lv_aload hx hb hd (hL.2.2 _ _ hl) (k H ls locs hM hS hL)
theorem z_aloadnR (h : Rw g own cc nL ret R scr Q Z) {n : Fin 4} {x : Nat} (hd : decode cc pc = .ok (.aload_n n, 1)) (hl : L[(n : Nat)]? = some (some (rf g x))) (k : Z (pc + 1) L (rf g x :: st) iv lv) : Z pc L st iv lv := z_aloadn h hd hl k
theorem z_aloadR (h : Rw g own cc nL ret R scr Q Z) {n : Nat} {x : Nat} (hd : decode cc pc = .ok (.aload n, 2)) (hl : L[n]? = some (some (rf g x))) (k : Z (pc + 2) L (rf g x :: st) iv lv) : Z pc L st iv lv := z_aload h hd hl k
theorem z_istoren (h : Rw g own cc nL ret R scr Q Z) {n : Fin 4} {x : Int32} {L' : LO} (hd : decode cc pc = .ok (.istore_n n, 1)) (hn : ((n : Nat) < nL)) (hs : st1 L n (.int x) = L') (k : Z (pc + 1) L' st iv lv) : Z pc L (.int x :: st) iv lv := by
  obtain ⟨p, e, s, m, args, below, meth, c, cells, slots, A, H0, QS, hx, hb, hml, hown, hts, hK, hf, hscr, hfin, hZ⟩ := h
  rw [hZ]
  rw [hZ] at k
  intro H ls locs hM hS hL
  subst hs
  exact lv_istore_n hx hb hd rfl (lvL_has hL) hn rfl (fun ls' h' => k H ls' locs hM hS (lvL_st1 (ls := ls) h'))
theorem z_istore (h : Rw g own cc nL ret R scr Q Z) {n : Nat} {x : Int32} {L' : LO} (hd : decode cc pc = .ok (.istore n, 2)) (hn : n < nL) (hs : st1 L n (.int x) = L') (k : Z (pc + 2) L' st iv lv) : Z pc L (.int x :: st) iv lv := by
  obtain ⟨p, e, s, m, args, below, meth, c, cells, slots, A, H0, QS, hx, hb, hml, hown, hts, hK, hf, hscr, hfin, hZ⟩ := h
  rw [hZ]
  rw [hZ] at k
  intro H ls locs hM hS hL
  subst hs
  exact lv_istore hx hb hd (lvL_has hL) hn rfl (fun ls' h' => k H ls' locs hM hS (lvL_st1 (ls := ls) h'))
theorem z_astoren (h : Rw g own cc nL ret R scr Q Z) {n : Fin 4} {x : Nat} {L' : LO} (hd : decode cc pc = .ok (.astore_n n, 1)) (hn : ((n : Nat) < nL)) (hs : st1 L n (.ref x) = L') (k : Z (pc + 1) L' st iv lv) : Z pc L (.ref x :: st) iv lv := by
  obtain ⟨p, e, s, m, args, below, meth, c, cells, slots, A, H0, QS, hx, hb, hml, hown, hts, hK, hf, hscr, hfin, hZ⟩ := h
  rw [hZ]
  rw [hZ] at k
  intro H ls locs hM hS hL
  subst hs
  exact lv_astore_n hx hb hd rfl (lvL_has hL) hn rfl (fun ls' h' => k H ls' locs hM hS (lvL_st1 (ls := ls) h'))
theorem z_astore (h : Rw g own cc nL ret R scr Q Z) {n : Nat} {x : Nat} {L' : LO} (hd : decode cc pc = .ok (.astore n, 2)) (hn : n < nL) (hs : st1 L n (.ref x) = L') (k : Z (pc + 2) L' st iv lv) : Z pc L (.ref x :: st) iv lv := by
  obtain ⟨p, e, s, m, args, below, meth, c, cells, slots, A, H0, QS, hx, hb, hml, hown, hts, hK, hf, hscr, hfin, hZ⟩ := h
  rw [hZ]
  rw [hZ] at k
  intro H ls locs hM hS hL
  subst hs
  exact lv_astore hx hb hd (lvL_has hL) hn rfl (fun ls' h' => k H ls' locs hM hS (lvL_st1 (ls := ls) h'))
theorem z_lstoren (h : Rw g own cc nL ret R scr Q Z) {n : Fin 4} {x : Int64} {L' : LO} (hd : decode cc pc = .ok (.lstore_n n, 1)) (hn : ((n : Nat) + 1 < nL)) (hs : st2 L n (.long x) = L') (k : Z (pc + 1) L' st iv lv) : Z pc L (.long x :: st) iv lv := by
  obtain ⟨p, e, s, m, args, below, meth, c, cells, slots, A, H0, QS, hx, hb, hml, hown, hts, hK, hf, hscr, hfin, hZ⟩ := h
  rw [hZ]
  rw [hZ] at k
  intro H ls locs hM hS hL
  subst hs
  exact lv_lstore_n hx hb hd rfl (lvL_has hL) hn rfl (fun ls' h' => k H ls' locs hM hS (lvL_st2 (ls := ls) h'))
theorem z_lstore (h : Rw g own cc nL ret R scr Q Z) {n : Nat} {x : Int64} {L' : LO} (hd : decode cc pc = .ok (.lstore n, 2)) (hn : n + 1 < nL) (hs : st2 L n (.long x) = L') (k : Z (pc + 2) L' st iv lv) : Z pc L (.long x :: st) iv lv := by
  obtain ⟨p, e, s, m, args, below, meth, c, cells, slots, A, H0, QS, hx, hb, hml, hown, hts, hK, hf, hscr, hfin, hZ⟩ := h
  rw [hZ]
  rw [hZ] at k
  intro H ls locs hM hS hL
  subst hs
  exact lv_lstore hx hb hd (lvL_has hL) hn rfl (fun ls' h' => k H ls' locs hM hS (lvL_st2 (ls := ls) h'))
theorem z_iinc (h : Rw g own cc nL ret R scr Q Z) {n : Nat} {q : Int} {x v : Int32} {L' : LO} (hd : decode cc pc = .ok (.iinc n q, 3)) (hn : n < nL) (hl : L[n]? = some (some (.int x))) (hv : x + Int32.ofInt q = v) (hs : st1 L n (.int v) = L') (k : Z (pc + 3) L' st iv lv) : Z pc L st iv lv := by
  obtain ⟨p, e, s, m, args, below, meth, c, cells, slots, A, H0, QS, hx, hb, hml, hown, hts, hK, hf, hscr, hfin, hZ⟩ := h
  rw [hZ]
  rw [hZ] at k
  intro H ls locs hM hS hL
  subst hs
  obtain ⟨j, hj⟩ := List.getElem?_of_mem (prs_in.mpr hl)
  exact lv_iinc hx hb hd (lvL_has hL) hj hv hn rfl (fun ls' h' => k H ls' locs hM hS (lvL_st1 (ls := ls) h'))
theorem z_iadd (h : Rw g own cc nL ret R scr Q Z) {x y : Int32} (hd : decode cc pc = .ok (.iadd, 1))  (k : Z (pc + 1) L (.int (x + y) :: st) iv lv) : Z pc L (.int y :: .int x :: st) iv lv := by
  obtain ⟨p, e, s, m, args, below, meth, c, cells, slots, A, H0, QS, hx, hb, hml, hown, hts, hK, hf, hscr, hfin, hZ⟩ := h
  rw [hZ]
  rw [hZ] at k
  intro H ls locs hM hS hL
  exact lv_iadd hx hb hd (k H ls locs hM hS hL)
theorem z_isub (h : Rw g own cc nL ret R scr Q Z) {x y : Int32} (hd : decode cc pc = .ok (.isub, 1))  (k : Z (pc + 1) L (.int (x - y) :: st) iv lv) : Z pc L (.int y :: .int x :: st) iv lv := by
  obtain ⟨p, e, s, m, args, below, meth, c, cells, slots, A, H0, QS, hx, hb, hml, hown, hts, hK, hf, hscr, hfin, hZ⟩ := h
  rw [hZ]
  rw [hZ] at k
  intro H ls locs hM hS hL
  exact lv_isub hx hb hd (k H ls locs hM hS hL)
theorem z_imul (h : Rw g own cc nL ret R scr Q Z) {x y : Int32} (hd : decode cc pc = .ok (.imul, 1))  (k : Z (pc + 1) L (.int (x * y) :: st) iv lv) : Z pc L (.int y :: .int x :: st) iv lv := by
  obtain ⟨p, e, s, m, args, below, meth, c, cells, slots, A, H0, QS, hx, hb, hml, hown, hts, hK, hf, hscr, hfin, hZ⟩ := h
  rw [hZ]
  rw [hZ] at k
  intro H ls locs hM hS hL
  exact lv_imul hx hb hd (k H ls locs hM hS hL)
theorem z_iand (h : Rw g own cc nL ret R scr Q Z) {x y : Int32} (hd : decode cc pc = .ok (.iand, 1))  (k : Z (pc + 1) L (.int (x &&& y) :: st) iv lv) : Z pc L (.int y :: .int x :: st) iv lv := by
  obtain ⟨p, e, s, m, args, below, meth, c, cells, slots, A, H0, QS, hx, hb, hml, hown, hts, hK, hf, hscr, hfin, hZ⟩ := h
  rw [hZ]
  rw [hZ] at k
  intro H ls locs hM hS hL
  exact lv_iand hx hb hd (k H ls locs hM hS hL)
theorem z_ior (h : Rw g own cc nL ret R scr Q Z) {x y : Int32} (hd : decode cc pc = .ok (.ior, 1))  (k : Z (pc + 1) L (.int (x ||| y) :: st) iv lv) : Z pc L (.int y :: .int x :: st) iv lv := by
  obtain ⟨p, e, s, m, args, below, meth, c, cells, slots, A, H0, QS, hx, hb, hml, hown, hts, hK, hf, hscr, hfin, hZ⟩ := h
  rw [hZ]
  rw [hZ] at k
  intro H ls locs hM hS hL
  exact lv_ior hx hb hd (k H ls locs hM hS hL)
theorem z_ixor (h : Rw g own cc nL ret R scr Q Z) {x y : Int32} (hd : decode cc pc = .ok (.ixor, 1))  (k : Z (pc + 1) L (.int (x ^^^ y) :: st) iv lv) : Z pc L (.int y :: .int x :: st) iv lv := by
  obtain ⟨p, e, s, m, args, below, meth, c, cells, slots, A, H0, QS, hx, hb, hml, hown, hts, hK, hf, hscr, hfin, hZ⟩ := h
  rw [hZ]
  rw [hZ] at k
  intro H ls locs hM hS hL
  exact lv_ixor hx hb hd (k H ls locs hM hS hL)
theorem z_ladd (h : Rw g own cc nL ret R scr Q Z) {x y : Int64} (hd : decode cc pc = .ok (.ladd, 1))  (k : Z (pc + 1) L (.long (x + y) :: st) iv lv) : Z pc L (.long y :: .long x :: st) iv lv := by
  obtain ⟨p, e, s, m, args, below, meth, c, cells, slots, A, H0, QS, hx, hb, hml, hown, hts, hK, hf, hscr, hfin, hZ⟩ := h
  rw [hZ]
  rw [hZ] at k
  intro H ls locs hM hS hL
  exact lv_ladd hx hb hd (k H ls locs hM hS hL)
theorem z_lsub (h : Rw g own cc nL ret R scr Q Z) {x y : Int64} (hd : decode cc pc = .ok (.lsub, 1))  (k : Z (pc + 1) L (.long (x - y) :: st) iv lv) : Z pc L (.long y :: .long x :: st) iv lv := by
  obtain ⟨p, e, s, m, args, below, meth, c, cells, slots, A, H0, QS, hx, hb, hml, hown, hts, hK, hf, hscr, hfin, hZ⟩ := h
  rw [hZ]
  rw [hZ] at k
  intro H ls locs hM hS hL
  exact lv_lsub hx hb hd (k H ls locs hM hS hL)
theorem z_lmul (h : Rw g own cc nL ret R scr Q Z) {x y : Int64} (hd : decode cc pc = .ok (.lmul, 1))  (k : Z (pc + 1) L (.long (x * y) :: st) iv lv) : Z pc L (.long y :: .long x :: st) iv lv := by
  obtain ⟨p, e, s, m, args, below, meth, c, cells, slots, A, H0, QS, hx, hb, hml, hown, hts, hK, hf, hscr, hfin, hZ⟩ := h
  rw [hZ]
  rw [hZ] at k
  intro H ls locs hM hS hL
  exact lv_lmul hx hb hd (k H ls locs hM hS hL)
theorem z_idiv (h : Rw g own cc nL ret R scr Q Z) {x y : Int32} (hd : decode cc pc = .ok (.idiv, 1)) (hne : ¬ y = 0) (k : Z (pc + 1) L (.int (x / y) :: st) iv lv) : Z pc L (.int y :: .int x :: st) iv lv := by
  obtain ⟨p, e, s, m, args, below, meth, c, cells, slots, A, H0, QS, hx, hb, hml, hown, hts, hK, hf, hscr, hfin, hZ⟩ := h
  rw [hZ]
  rw [hZ] at k
  intro H ls locs hM hS hL
  exact lv_idiv hx hb hd hne (k H ls locs hM hS hL)
theorem z_irem (h : Rw g own cc nL ret R scr Q Z) {x y : Int32} (hd : decode cc pc = .ok (.irem, 1)) (hne : ¬ y = 0) (k : Z (pc + 1) L (.int (x - x / y * y) :: st) iv lv) : Z pc L (.int y :: .int x :: st) iv lv := by
  obtain ⟨p, e, s, m, args, below, meth, c, cells, slots, A, H0, QS, hx, hb, hml, hown, hts, hK, hf, hscr, hfin, hZ⟩ := h
  rw [hZ]
  rw [hZ] at k
  intro H ls locs hM hS hL
  exact lv_irem hx hb hd hne (k H ls locs hM hS hL)
theorem z_ldiv (h : Rw g own cc nL ret R scr Q Z) {x y : Int64} (hd : decode cc pc = .ok (.ldiv, 1)) (hne : ¬ y = 0) (k : Z (pc + 1) L (.long (x / y) :: st) iv lv) : Z pc L (.long y :: .long x :: st) iv lv := by
  obtain ⟨p, e, s, m, args, below, meth, c, cells, slots, A, H0, QS, hx, hb, hml, hown, hts, hK, hf, hscr, hfin, hZ⟩ := h
  rw [hZ]
  rw [hZ] at k
  intro H ls locs hM hS hL
  exact lv_ldiv hx hb hd hne (k H ls locs hM hS hL)
theorem z_ineg (h : Rw g own cc nL ret R scr Q Z) {x : Int32} (hd : decode cc pc = .ok (.ineg, 1))  (k : Z (pc + 1) L (.int (-x) :: st) iv lv) : Z pc L (.int x :: st) iv lv := by
  obtain ⟨p, e, s, m, args, below, meth, c, cells, slots, A, H0, QS, hx, hb, hml, hown, hts, hK, hf, hscr, hfin, hZ⟩ := h
  rw [hZ]
  rw [hZ] at k
  intro H ls locs hM hS hL
  exact lv_ineg hx hb hd (k H ls locs hM hS hL)
theorem z_lneg (h : Rw g own cc nL ret R scr Q Z) {x : Int64} (hd : decode cc pc = .ok (.lneg, 1))  (k : Z (pc + 1) L (.long (-x) :: st) iv lv) : Z pc L (.long x :: st) iv lv := by
  obtain ⟨p, e, s, m, args, below, meth, c, cells, slots, A, H0, QS, hx, hb, hml, hown, hts, hK, hf, hscr, hfin, hZ⟩ := h
  rw [hZ]
  rw [hZ] at k
  intro H ls locs hM hS hL
  exact lv_lneg hx hb hd (k H ls locs hM hS hL)
theorem z_ishl (h : Rw g own cc nL ret R scr Q Z) {x y : Int32} (hd : decode cc pc = .ok (.ishl, 1))  (k : Z (pc + 1) L (.int (x <<< (y &&& 31)) :: st) iv lv) : Z pc L (.int y :: .int x :: st) iv lv := by
  obtain ⟨p, e, s, m, args, below, meth, c, cells, slots, A, H0, QS, hx, hb, hml, hown, hts, hK, hf, hscr, hfin, hZ⟩ := h
  rw [hZ]
  rw [hZ] at k
  intro H ls locs hM hS hL
  exact lv_ishl hx hb hd (k H ls locs hM hS hL)
theorem z_ishr (h : Rw g own cc nL ret R scr Q Z) {x y : Int32} (hd : decode cc pc = .ok (.ishr, 1))  (k : Z (pc + 1) L (.int (x >>> (y &&& 31)) :: st) iv lv) : Z pc L (.int y :: .int x :: st) iv lv := by
  obtain ⟨p, e, s, m, args, below, meth, c, cells, slots, A, H0, QS, hx, hb, hml, hown, hts, hK, hf, hscr, hfin, hZ⟩ := h
  rw [hZ]
  rw [hZ] at k
  intro H ls locs hM hS hL
  exact lv_ishr hx hb hd (k H ls locs hM hS hL)
theorem z_i2l (h : Rw g own cc nL ret R scr Q Z) {x : Int32} (hd : decode cc pc = .ok (.i2l, 1))  (k : Z (pc + 1) L (.long x.toInt64 :: st) iv lv) : Z pc L (.int x :: st) iv lv := by
  obtain ⟨p, e, s, m, args, below, meth, c, cells, slots, A, H0, QS, hx, hb, hml, hown, hts, hK, hf, hscr, hfin, hZ⟩ := h
  rw [hZ]
  rw [hZ] at k
  intro H ls locs hM hS hL
  exact lv_i2l hx hb hd rfl (k H ls locs hM hS hL)
theorem z_l2i (h : Rw g own cc nL ret R scr Q Z) {x : Int64} (hd : decode cc pc = .ok (.l2i, 1))  (k : Z (pc + 1) L (.int x.toInt32 :: st) iv lv) : Z pc L (.long x :: st) iv lv := by
  obtain ⟨p, e, s, m, args, below, meth, c, cells, slots, A, H0, QS, hx, hb, hml, hown, hts, hK, hf, hscr, hfin, hZ⟩ := h
  rw [hZ]
  rw [hZ] at k
  intro H ls locs hM hS hL
  exact lv_l2i hx hb hd rfl (k H ls locs hM hS hL)
theorem z_dup (h : Rw g own cc nL ret R scr Q Z) {v : Value} (hd : decode cc pc = .ok (.dup, 1)) (hc : v.category = 1) (k : Z (pc + 1) L (v :: v :: st) iv lv) : Z pc L (v :: st) iv lv := by
  obtain ⟨p, e, s, m, args, below, meth, c, cells, slots, A, H0, QS, hx, hb, hml, hown, hts, hK, hf, hscr, hfin, hZ⟩ := h
  rw [hZ]
  rw [hZ] at k
  intro H ls locs hM hS hL
  exact lv_dup hx hb hd hc (k H ls locs hM hS hL)
theorem z_dup2 (h : Rw g own cc nL ret R scr Q Z) {v w : Value} (hd : decode cc pc = .ok (.dup2, 1)) (hc : v.category = 1) (hc2 : w.category = 1) (k : Z (pc + 1) L (v :: w :: v :: w :: st) iv lv) : Z pc L (v :: w :: st) iv lv := by
  obtain ⟨p, e, s, m, args, below, meth, c, cells, slots, A, H0, QS, hx, hb, hml, hown, hts, hK, hf, hscr, hfin, hZ⟩ := h
  rw [hZ]
  rw [hZ] at k
  intro H ls locs hM hS hL
  exact lv_dup2_11 hx hb hd hc hc2 (k H ls locs hM hS hL)
theorem z_pop (h : Rw g own cc nL ret R scr Q Z) {v : Value} (hd : decode cc pc = .ok (.pop, 1)) (hc : v.category = 1) (k : Z (pc + 1) L (st) iv lv) : Z pc L (v :: st) iv lv := by
  obtain ⟨p, e, s, m, args, below, meth, c, cells, slots, A, H0, QS, hx, hb, hml, hown, hts, hK, hf, hscr, hfin, hZ⟩ := h
  rw [hZ]
  rw [hZ] at k
  intro H ls locs hM hS hL
  exact lv_pop hx hb hd hc (k H ls locs hM hS hL)
theorem z_if_eq (h : Rw g own cc nL ret R scr Q Z) {x : Int32} {off : Int} {tgt : Nat} (hd : decode cc pc = .ok (.ifCond .eq off, 3)) (ht : (pc : Int) + off = (tgt : Int)) (kt : x = 0 → Z tgt L st iv lv) (kf : ¬ x = 0 → Z (pc + 3) L st iv lv) : Z pc L (.int x :: st) iv lv := by
  obtain ⟨p, e, s, m, args, below, meth, c, cells, slots, A, H0, QS, hx, hb, hml, hown, hts, hK, hf, hscr, hfin, hZ⟩ := h
  rw [hZ]
  intro H ls locs hM hS hL
  exact lv_if_eq hx hb hd ht (fun q => (hZ _ _ _ _ _).mp (kt q) H ls locs hM hS hL) (fun q => (hZ _ _ _ _ _).mp (kf q) H ls locs hM hS hL)
theorem z_if_ne (h : Rw g own cc nL ret R scr Q Z) {x : Int32} {off : Int} {tgt : Nat} (hd : decode cc pc = .ok (.ifCond .ne off, 3)) (ht : (pc : Int) + off = (tgt : Int)) (kt : ¬ x = 0 → Z tgt L st iv lv) (kf : x = 0 → Z (pc + 3) L st iv lv) : Z pc L (.int x :: st) iv lv := by
  obtain ⟨p, e, s, m, args, below, meth, c, cells, slots, A, H0, QS, hx, hb, hml, hown, hts, hK, hf, hscr, hfin, hZ⟩ := h
  rw [hZ]
  intro H ls locs hM hS hL
  exact lv_if_ne hx hb hd ht (fun q => (hZ _ _ _ _ _).mp (kt q) H ls locs hM hS hL) (fun q => (hZ _ _ _ _ _).mp (kf q) H ls locs hM hS hL)
theorem z_if_lt (h : Rw g own cc nL ret R scr Q Z) {x : Int32} {off : Int} {tgt : Nat} (hd : decode cc pc = .ok (.ifCond .lt off, 3)) (ht : (pc : Int) + off = (tgt : Int)) (kt : x < 0 → Z tgt L st iv lv) (kf : ¬ x < 0 → Z (pc + 3) L st iv lv) : Z pc L (.int x :: st) iv lv := by
  obtain ⟨p, e, s, m, args, below, meth, c, cells, slots, A, H0, QS, hx, hb, hml, hown, hts, hK, hf, hscr, hfin, hZ⟩ := h
  rw [hZ]
  intro H ls locs hM hS hL
  exact lv_if_lt hx hb hd ht (fun q => (hZ _ _ _ _ _).mp (kt q) H ls locs hM hS hL) (fun q => (hZ _ _ _ _ _).mp (kf q) H ls locs hM hS hL)
theorem z_if_ge (h : Rw g own cc nL ret R scr Q Z) {x : Int32} {off : Int} {tgt : Nat} (hd : decode cc pc = .ok (.ifCond .ge off, 3)) (ht : (pc : Int) + off = (tgt : Int)) (kt : 0 ≤ x → Z tgt L st iv lv) (kf : ¬ 0 ≤ x → Z (pc + 3) L st iv lv) : Z pc L (.int x :: st) iv lv := by
  obtain ⟨p, e, s, m, args, below, meth, c, cells, slots, A, H0, QS, hx, hb, hml, hown, hts, hK, hf, hscr, hfin, hZ⟩ := h
  rw [hZ]
  intro H ls locs hM hS hL
  exact lv_if_ge hx hb hd ht (fun q => (hZ _ _ _ _ _).mp (kt q) H ls locs hM hS hL) (fun q => (hZ _ _ _ _ _).mp (kf q) H ls locs hM hS hL)
theorem z_if_gt (h : Rw g own cc nL ret R scr Q Z) {x : Int32} {off : Int} {tgt : Nat} (hd : decode cc pc = .ok (.ifCond .gt off, 3)) (ht : (pc : Int) + off = (tgt : Int)) (kt : 0 < x → Z tgt L st iv lv) (kf : ¬ 0 < x → Z (pc + 3) L st iv lv) : Z pc L (.int x :: st) iv lv := by
  obtain ⟨p, e, s, m, args, below, meth, c, cells, slots, A, H0, QS, hx, hb, hml, hown, hts, hK, hf, hscr, hfin, hZ⟩ := h
  rw [hZ]
  intro H ls locs hM hS hL
  exact lv_if_gt hx hb hd ht (fun q => (hZ _ _ _ _ _).mp (kt q) H ls locs hM hS hL) (fun q => (hZ _ _ _ _ _).mp (kf q) H ls locs hM hS hL)
theorem z_if_le (h : Rw g own cc nL ret R scr Q Z) {x : Int32} {off : Int} {tgt : Nat} (hd : decode cc pc = .ok (.ifCond .le off, 3)) (ht : (pc : Int) + off = (tgt : Int)) (kt : x ≤ 0 → Z tgt L st iv lv) (kf : ¬ x ≤ 0 → Z (pc + 3) L st iv lv) : Z pc L (.int x :: st) iv lv := by
  obtain ⟨p, e, s, m, args, below, meth, c, cells, slots, A, H0, QS, hx, hb, hml, hown, hts, hK, hf, hscr, hfin, hZ⟩ := h
  rw [hZ]
  intro H ls locs hM hS hL
  exact lv_if_le hx hb hd ht (fun q => (hZ _ _ _ _ _).mp (kt q) H ls locs hM hS hL) (fun q => (hZ _ _ _ _ _).mp (kf q) H ls locs hM hS hL)
theorem z_icmp_eq (h : Rw g own cc nL ret R scr Q Z) {x y : Int32} {off : Int} {tgt : Nat} (hd : decode cc pc = .ok (.if_icmp .eq off, 3)) (ht : (pc : Int) + off = (tgt : Int)) (kt : x = y → Z tgt L st iv lv) (kf : ¬ x = y → Z (pc + 3) L st iv lv) : Z pc L (.int y :: .int x :: st) iv lv := by
  obtain ⟨p, e, s, m, args, below, meth, c, cells, slots, A, H0, QS, hx, hb, hml, hown, hts, hK, hf, hscr, hfin, hZ⟩ := h
  rw [hZ]
  intro H ls locs hM hS hL
  exact lv_icmp_eq hx hb hd ht (fun q => (hZ _ _ _ _ _).mp (kt q) H ls locs hM hS hL) (fun q => (hZ _ _ _ _ _).mp (kf q) H ls locs hM hS hL)
theorem z_icmp_ne (h : Rw g own cc nL ret R scr Q Z) {x y : Int32} {off : Int} {tgt : Nat} (hd : decode cc pc = .ok (.if_icmp .ne off, 3)) (ht : (pc : Int) + off = (tgt : Int)) (kt : ¬ x = y → Z tgt L st iv lv) (kf : x = y → Z (pc + 3) L st iv lv) : Z pc L (.int y :: .int x :: st) iv lv := by
  obtain ⟨p, e, s, m, args, below, meth, c, cells, slots, A, H0, QS, hx, hb, hml, hown, hts, hK, hf, hscr, hfin, hZ⟩ := h
  rw [hZ]
  intro H ls locs hM hS hL
  exact lv_icmp_ne hx hb hd ht (fun q => (hZ _ _ _ _ _).mp (kt q) H ls locs hM hS hL) (fun q => (hZ _ _ _ _ _).mp (kf q) H ls locs hM hS hL)
theorem z_icmp_lt (h : Rw g own cc nL ret R scr Q Z) {x y : Int32} {off : Int} {tgt : Nat} (hd : decode cc pc = .ok (.if_icmp .lt off, 3)) (ht : (pc : Int) + off = (tgt : Int)) (kt : x < y → Z tgt L st iv lv) (kf : ¬ x < y → Z (pc + 3) L st iv lv) : Z pc L (.int y :: .int x :: st) iv lv := by
  obtain ⟨p, e, s, m, args, below, meth, c, cells, slots, A, H0, QS, hx, hb, hml, hown, hts, hK, hf, hscr, hfin, hZ⟩ := h
  rw [hZ]
  intro H ls locs hM hS hL
  exact lv_icmp_lt hx hb hd ht (fun q => (hZ _ _ _ _ _).mp (kt q) H ls locs hM hS hL) (fun q => (hZ _ _ _ _ _).mp (kf q) H ls locs hM hS hL)
theorem z_icmp_ge (h : Rw g own cc nL ret R scr Q Z) {x y : Int32} {off : Int} {tgt : Nat} (hd : decode cc pc = .ok (.if_icmp .ge off, 3)) (ht : (pc : Int) + off = (tgt : Int)) (kt : y ≤ x → Z tgt L st iv lv) (kf : ¬ y ≤ x → Z (pc + 3) L st iv lv) : Z pc L (.int y :: .int x :: st) iv lv := by
  obtain ⟨p, e, s, m, args, below, meth, c, cells, slots, A, H0, QS, hx, hb, hml, hown, hts, hK, hf, hscr, hfin, hZ⟩ := h
  rw [hZ]
  intro H ls locs hM hS hL
  exact lv_icmp_ge hx hb hd ht (fun q => (hZ _ _ _ _ _).mp (kt q) H ls locs hM hS hL) (fun q => (hZ _ _ _ _ _).mp (kf q) H ls locs hM hS hL)
theorem z_icmp_gt (h : Rw g own cc nL ret R scr Q Z) {x y : Int32} {off : Int} {tgt : Nat} (hd : decode cc pc = .ok (.if_icmp .gt off, 3)) (ht : (pc : Int) + off = (tgt : Int)) (kt : y < x → Z tgt L st iv lv) (kf : ¬ y < x → Z (pc + 3) L st iv lv) : Z pc L (.int y :: .int x :: st) iv lv := by
  obtain ⟨p, e, s, m, args, below, meth, c, cells, slots, A, H0, QS, hx, hb, hml, hown, hts, hK, hf, hscr, hfin, hZ⟩ := h
  rw [hZ]
  intro H ls locs hM hS hL
  exact lv_icmp_gt hx hb hd ht (fun q => (hZ _ _ _ _ _).mp (kt q) H ls locs hM hS hL) (fun q => (hZ _ _ _ _ _).mp (kf q) H ls locs hM hS hL)
theorem z_icmp_le (h : Rw g own cc nL ret R scr Q Z) {x y : Int32} {off : Int} {tgt : Nat} (hd : decode cc pc = .ok (.if_icmp .le off, 3)) (ht : (pc : Int) + off = (tgt : Int)) (kt : x ≤ y → Z tgt L st iv lv) (kf : ¬ x ≤ y → Z (pc + 3) L st iv lv) : Z pc L (.int y :: .int x :: st) iv lv := by
  obtain ⟨p, e, s, m, args, below, meth, c, cells, slots, A, H0, QS, hx, hb, hml, hown, hts, hK, hf, hscr, hfin, hZ⟩ := h
  rw [hZ]
  intro H ls locs hM hS hL
  exact lv_icmp_le hx hb hd ht (fun q => (hZ _ _ _ _ _).mp (kt q) H ls locs hM hS hL) (fun q => (hZ _ _ _ _ _).mp (kf q) H ls locs hM hS hL)
theorem z_goto (h : Rw g own cc nL ret R scr Q Z) {off : Int} {tgt : Nat} (hd : decode cc pc = .ok (.goto off, 3)) (ht : (pc : Int) + off = (tgt : Int)) (k : Z tgt L st iv lv) : Z pc L st iv lv := by
  obtain ⟨p, e, s, m, args, below, meth, c, cells, slots, A, H0, QS, hx, hb, hml, hown, hts, hK, hf, hscr, hfin, hZ⟩ := h
  rw [hZ]
  rw [hZ] at k
  intro H ls locs hM hS hL
  exact lv_goto hx hb hd ht (k H ls locs hM hS hL)
theorem z_lcmp (h : Rw g own cc nL ret R scr Q Z) {x y : Int64} (hd : decode cc pc = .ok (.lcmp, 1))  (k : Z (pc + 1) L (.int (lg_cmp x y) :: st) iv lv) : Z pc L (.long y :: .long x :: st) iv lv := by
  obtain ⟨p, e, s, m, args, below, meth, c, cells, slots, A, H0, QS, hx, hb, hml, hown, hts, hK, hf, hscr, hfin, hZ⟩ := h
  rw [hZ]
  rw [hZ] at k
  intro H ls locs hM hS hL
  exact W.lcmp hx hb hd (k H ls locs hM hS hL)
theorem z_tabIn (h : Rw g own cc nL ret R scr Q Z) {dflt lo hi : Int} {offs : Array Int} {len : Nat} {x : Int32} {off : Int} {tgt : Nat} (hd : decode cc pc = .ok (.tableswitch dflt lo hi offs, len)) (h1 : ¬ x.toInt < lo) (h2 : ¬ hi < x.toInt) (ho : offs[(x.toInt - lo).toNat]? = some off) (ht : (pc : Int) + off = (tgt : Int)) (k : Z tgt L st iv lv) : Z pc L (.int x :: st) iv lv := by
  obtain ⟨p, e, s, m, args, below, meth, c, cells, slots, A, H0, QS, hx, hb, hml, hown, hts, hK, hf, hscr, hfin, hZ⟩ := h
  rw [hZ]
  rw [hZ] at k
  intro H ls locs hM hS hL
  exact lv_tableIn hx hb hd h1 h2 ho ht (k H ls locs hM hS hL)
theorem z_tabOut (h : Rw g own cc nL ret R scr Q Z) {dflt lo hi : Int} {offs : Array Int} {len : Nat} {x : Int32} {tgt : Nat} (hd : decode cc pc = .ok (.tableswitch dflt lo hi offs, len)) (h1 : x.toInt < lo ∨ hi < x.toInt) (ht : (pc : Int) + dflt = (tgt : Int)) (k : Z tgt L st iv lv) : Z pc L (.int x :: st) iv lv := by
  obtain ⟨p, e, s, m, args, below, meth, c, cells, slots, A, H0, QS, hx, hb, hml, hown, hts, hK, hf, hscr, hfin, hZ⟩ := h
  rw [hZ]
  rw [hZ] at k
  intro H ls locs hM hS hL
  exact lv_tableOut hx hb hd h1 ht (k H ls locs hM hS hL)
theorem z_lookup (h : Rw g own cc nL ret R scr Q Z) {dflt : Int} {ps : Array (Int × Int)} {len : Nat} {x : Int32} {off : Int} {tgt : Nat} (hd : decode cc pc = .ok (.lookupswitch dflt ps, len)) (hp : (ps.toList.zip (ps.toList.drop 1)).all (fun (a, next) => a.1 < next.1) = true) (ho : Op.lookupswitch.offset ps.toList dflt x.toInt = off) (ht : (pc : Int) + off = (tgt : Int)) (k : Z tgt L st iv lv) : Z pc L (.int x :: st) iv lv := by
  obtain ⟨p, e, s, m, args, below, meth, c, cells, slots, A, H0, QS, hx, hb, hml, hown, hts, hK, hf, hscr, hfin, hZ⟩ := h
  rw [hZ]
  rw [hZ] at k
  intro H ls locs hM hS hL
  exact lv_lookup hx hb hd hp ho ht (k H ls locs hM hS hL)
def CK (ci : Nat) (C : String) (T : u_T) (N : Nat) (ty : Nat → FieldType) : Prop := CLS[ci]? = some (C, T, N) ∧ (∀ w ∈ u_ws C T N, w ∈ TBL) ∧ (∀ k, k < N → parseFieldDescriptor (T k).2.2.1 = some (ty k)) ∧ (∀ a, a < N → ∀ b, b < N → a ≠ b → (T a).2.1 ≠ (T b).2.1)
/-- a getfield's or putfield's link: to field j of class ci -/
def FL (own : String) (idx ci j : Nat) (fin : Bool) (t : FieldType) : Prop := ∃ (C : String) (T : u_T) (N : Nat) (ty : Nat → FieldType), CK ci C T N ty ∧ j < N ∧ ty j = t ∧ (T j).2.2.2 = fin ∧ ((Cond.fieldLink own idx (T j).1 (T j).2.1 (T j).2.2.1 ∈ TBL) ∨ ∃ host, Cond.fieldLinkNest own idx (T j).1 (T j).2.1 (T j).2.2.1 host ∈ NTB)
def IsI (g : GE) (k n : Nat) : Prop := Cl g k (aI g n) ∧ n < 2 ^ 31
def IsL (g : GE) (k n : Nat) : Prop := Cl g k (aL g n) ∧ n < 2 ^ 31
def IsZ (g : GE) (k n : Nat) : Prop := Cl g k (aZ g n) ∧ n < 2 ^ 31
def IsM (g : GE) (k n : Nat) (r : Nat → Nat) : Prop := Cl g k (aR g 3 n r) ∧ n < 2 ^ 31
def IsG (g : GE) (k n : Nat) (r : Nat → Nat) : Prop := Cl g k (aR g 4 n r) ∧ n < 2 ^ 31
theorem z_getf (h : Rw g own cc nL ret R scr Q Z) {idx ci j k : Nat} {fin : Bool} {t : FieldType} {F : FF} {fs : List Value} {v : Value} (hF : FL own idx ci j fin t) (hd : decode cc pc = .ok (.getfield idx, 3)) (hC : Cl g k F) (hfs : F (iv k) (lv k) = .inr (ci, fs)) (hv : fs[j]? = some v) (kk : Z (pc + 3) L (v :: st) iv lv) : Z pc L (rf g k :: st) iv lv := by
  obtain ⟨p, e, s, m, args, below, meth, c, cells, slots, A, H0, QS, hx, hb, hml, hown, hts, hK, hf, hscr, hfin, hZ⟩ := h
  rw [hZ]
  rw [hZ] at kk
  intro H ls locs hM hS hL
  obtain ⟨C, T, N, ty, ⟨c1, c2, c3, c4⟩, hj, -, -, hl⟩ := hF
  have he := cl_get (iv := iv) (lv := lv) hC
  rw [hfs] at he
  rcases hl with hl | ⟨host, hl⟩
  · exact va_get hx hb hts c2 hown hK.1 hM k he c1 j hj (hts _ hl) (fun _ h9 => h9) hv hd (kk H ls locs hM hS hL)
  · exact va_getN hx hb hts c2 hown hK.1 hM k he c1 j hj ((hK.2.2.1 _ hl).use rfl) (fun _ h9 => h9) hv hd (kk H ls locs hM hS hL)
theorem z_putI (h : Rw g own cc nL ret R scr Q Z) {idx ci j k : Nat} {t : FieldType} {F : FF} {fs : List Value} {x : Int32} (hF : FL own idx ci j false t) (hd : decode cc pc = .ok (.putfield idx, 3)) (hC : Cl g k F) (hfs : F (iv k) (lv k) = .inr (ci, fs)) (hset : F (upd (iv k) j x) (lv k) = .inr (ci, fs.set j (.int x))) (hj9 : j < fs.length) (ht : t = .int ∨ (t = .boolean ∧ (x = 0 ∨ x = 1))) (kk : Z (pc + 3) L st (upI iv k j x) lv) : Z pc L (.int x :: rf g k :: st) iv lv := by
  obtain ⟨p, e, s, m, args, below, meth, c, cells, slots, A, H0, QS, hx, hb, hml, hown, hts, hK, hf, hscr, hfin, hZ⟩ := h
  rw [hZ]
  rw [hZ] at kk
  intro H ls locs hM hS hL
  obtain ⟨C, T, N, ty, ⟨c1, c2, c3, c4⟩, hj, hty, hfi, hl⟩ := hF
  have he := cl_get (iv := iv) (lv := lv) hC
  rw [hfs] at he
  have hq : narrow t (.int x) = .int x ∧ fits t (.int x) = true := by
    rcases ht with rfl | ⟨rfl, rfl | rfl⟩ <;> exact ⟨rfl, rfl⟩
  have hpd : parseFieldDescriptor (T j).2.2.1 = some t := by rw [c3 j hj, hty]
  have fin : ∀ (H1 : Heap) (locs1 : List Loc), va_P (gD g) CLS ((cellsL g iv lv).set k (gB g + k, .inr (ci, fs.set j (.int x)))) H1 → va_D (gA g) ((cellsL g iv lv).set k (gB g + k, .inr (ci, fs.set j (.int x)))) → va_S (gA g) s.heap H1 locs1 → W p (gL g) e R s m args below meth c H1 locs1 cells slots QS (F0 m (pc + 3) ls st) := by
    intro H1 locs1 hP hD hS1
    have e : (cellsL g iv lv).set k (gB g + k, .inr (ci, fs.set j (.int x))) = cellsL g (upI iv k j x) lv := cl_set hC.1 (by rw [hC.2, ← hset]; rw [upI_s]) (fun a ha => upI_n ha) (fun _ _ => rfl)
    rw [e] at hP hD
    exact kk H1 ls locs1 hP hS1 hL
  rcases hl with hl | ⟨host, hl⟩
  · exact va_put hx hb hts c2 ty c3 c4 hown hK.1 hM cl_D hS k he c1 j hj (hts _ hl) (fun _ h9 => h9) hfi hpd hq.1 hq.2 hj9 hd fin
  · exact va_putN hx hb hts c2 ty c3 c4 hown hK.1 hM cl_D hS k he c1 j hj ((hK.2.2.1 _ hl).use rfl) (fun _ h9 => h9) hfi hpd hq.1 hq.2 hj9 hd fin
theorem z_putL (h : Rw g own cc nL ret R scr Q Z) {idx ci j k : Nat} {t : FieldType} {F : FF} {fs : List Value} {x : Int64} (hF : FL own idx ci j false t) (hd : decode cc pc = .ok (.putfield idx, 3)) (hC : Cl g k F) (hfs : F (iv k) (lv k) = .inr (ci, fs)) (hset : F (iv k) (vp_updL (lv k) j x) = .inr (ci, fs.set j (.long x))) (hj9 : j < fs.length) (ht : t = .long) (kk : Z (pc + 3) L st iv (upL lv k j x)) : Z pc L (.long x :: rf g k :: st) iv lv := by
  obtain ⟨p, e, s, m, args, below, meth, c, cells, slots, A, H0, QS, hx, hb, hml, hown, hts, hK, hf, hscr, hfin, hZ⟩ := h
  rw [hZ]
  rw [hZ] at kk
  intro H ls locs hM hS hL
  obtain ⟨C, T, N, ty, ⟨c1, c2, c3, c4⟩, hj, hty, hfi, hl⟩ := hF
  have he := cl_get (iv := iv) (lv := lv) hC
  rw [hfs] at he
  have hq : narrow t (.long x) = .long x ∧ fits t (.long x) = true := by
    subst ht; exact ⟨rfl, rfl⟩
  have hpd : parseFieldDescriptor (T j).2.2.1 = some t := by rw [c3 j hj, hty]
  have fin : ∀ (H1 : Heap) (locs1 : List Loc), va_P (gD g) CLS ((cellsL g iv lv).set k (gB g + k, .inr (ci, fs.set j (.long x)))) H1 → va_D (gA g) ((cellsL g iv lv).set k (gB g + k, .inr (ci, fs.set j (.long x)))) → va_S (gA g) s.heap H1 locs1 → W p (gL g) e R s m args below meth c H1 locs1 cells slots QS (F0 m (pc + 3) ls st) := by
    intro H1 locs1 hP hD hS1
    have e : (cellsL g iv lv).set k (gB g + k, .inr (ci, fs.set j (.long x))) = cellsL g iv (upL lv k j x) := cl_set hC.1 (by rw [hC.2, ← hset]; rw [upL_s]) (fun _ _ => rfl) (fun a ha => upL_n ha)
    rw [e] at hP hD
    exact kk H1 ls locs1 hP hS1 hL
  rcases hl with hl | ⟨host, hl⟩
  · exact va_put hx hb hts c2 ty c3 c4 hown hK.1 hM cl_D hS k he c1 j hj (hts _ hl) (fun _ h9 => h9) hfi hpd hq.1 hq.2 hj9 hd fin
  · exact va_putN hx hb hts c2 ty c3 c4 hown hK.1 hM cl_D hS k he c1 j hj ((hK.2.2.1 _ hl).use rfl) (fun _ h9 => h9) hfi hpd hq.1 hq.2 hj9 hd fin
theorem z_iald (h : Rw g own cc nL ret R scr Q Z) {k n : Nat} {i : Int32} (hI : IsI g k n) (hd : decode cc pc = .ok (.iaload, 1)) (hi : vp_in i n) (kk : Z (pc + 1) L (.int (iv k i.toNatClampNeg) :: st) iv lv) : Z pc L (.int i :: rf g k :: st) iv lv := by
  obtain ⟨p, e, s, m, args, below, meth, c, cells, slots, A, H0, QS, hx, hb, hml, hown, hts, hK, hf, hscr, hfin, hZ⟩ := h
  rw [hZ]
  rw [hZ] at kk
  intro H ls locs hM hS hL
  obtain ⟨hC, hn⟩ := hI
  have he := cl_get (iv := iv) (lv := lv) hC
  exact va_iald hx hb hK.1 hM k 0 he rfl hi hd (kk H ls locs hM hS hL)
theorem z_ialdN (h : Rw g own cc nL ret R scr Q Z) {k n j : Nat} (hI : IsI g k n) (hd : decode cc pc = .ok (.iaload, 1)) (hj : j < n) (kk : Z (pc + 1) L (.int (iv k j) :: st) iv lv) : Z pc L (.int (nI j) :: rf g k :: st) iv lv := z_iald h hI hd (vp_in_nI hj hI.2) (by rw [nI_clamp (Nat.lt_trans hj hI.2)]; exact kk)
theorem z_lald (h : Rw g own cc nL ret R scr Q Z) {k n : Nat} {i : Int32} (hI : IsL g k n) (hd : decode cc pc = .ok (.laload, 1)) (hi : vp_in i n) (kk : Z (pc + 1) L (.long (lv k i.toNatClampNeg) :: st) iv lv) : Z pc L (.int i :: rf g k :: st) iv lv := by
  obtain ⟨p, e, s, m, args, below, meth, c, cells, slots, A, H0, QS, hx, hb, hml, hown, hts, hK, hf, hscr, hfin, hZ⟩ := h
  rw [hZ]
  rw [hZ] at kk
  intro H ls locs hM hS hL
  obtain ⟨hC, hn⟩ := hI
  have he := cl_get (iv := iv) (lv := lv) hC
  exact va_lald hx hb hK.1 hM k 1 he rfl hi hd (kk H ls locs hM hS hL)
theorem z_laldN (h : Rw g own cc nL ret R scr Q Z) {k n j : Nat} (hI : IsL g k n) (hd : decode cc pc = .ok (.laload, 1)) (hj : j < n) (kk : Z (pc + 1) L (.long (lv k j) :: st) iv lv) : Z pc L (.int (nI j) :: rf g k :: st) iv lv := z_lald h hI hd (vp_in_nI hj hI.2) (by rw [nI_clamp (Nat.lt_trans hj hI.2)]; exact kk)
theorem z_zald (h : Rw g own cc nL ret R scr Q Z) {k n : Nat} {i : Int32} (hI : IsZ g k n) (hd : decode cc pc = .ok (.baload, 1)) (hi : vp_in i n) (kk : Z (pc + 1) L (.int (iv k i.toNatClampNeg) :: st) iv lv) : Z pc L (.int i :: rf g k :: st) iv lv := by
  obtain ⟨p, e, s, m, args, below, meth, c, cells, slots, A, H0, QS, hx, hb, hml, hown, hts, hK, hf, hscr, hfin, hZ⟩ := h
  rw [hZ]
  rw [hZ] at kk
  intro H ls locs hM hS hL
  obtain ⟨hC, hn⟩ := hI
  have he := cl_get (iv := iv) (lv := lv) hC
  exact va_zald hx hb hK.1 hM k 2 he rfl hi hd (kk H ls locs hM hS hL)
theorem z_zaldN (h : Rw g own cc nL ret R scr Q Z) {k n j : Nat} (hI : IsZ g k n) (hd : decode cc pc = .ok (.baload, 1)) (hj : j < n) (kk : Z (pc + 1) L (.int (iv k j) :: st) iv lv) : Z pc L (.int (nI j) :: rf g k :: st) iv lv := z_zald h hI hd (vp_in_nI hj hI.2) (by rw [nI_clamp (Nat.lt_trans hj hI.2)]; exact kk)
theorem z_iast (h : Rw g own cc nL ret R scr Q Z) {k n : Nat} {i : Int32} {x : Int32} (hI : IsI g k n) (hd : decode cc pc = .ok (.iastore, 1)) (hi : vp_in i n) (kk : Z (pc + 1) L st (upI iv k i.toNatClampNeg x) lv) : Z pc L (.int x :: .int i :: rf g k :: st) iv lv := by
  obtain ⟨p, e, s, m, args, below, meth, c, cells, slots, A, H0, QS, hx, hb, hml, hown, hts, hK, hf, hscr, hfin, hZ⟩ := h
  rw [hZ]
  rw [hZ] at kk
  intro H ls locs hM hS hL
  obtain ⟨hC, hn⟩ := hI
  have he := cl_get (iv := iv) (lv := lv) hC
  refine va_iast hx hb hK.1 hM cl_D hS k 0 he rfl hi hd (fun H1 locs1 hP hD hS1 => ?_)
  rw [cl_set (iv' := (upI iv k i.toNatClampNeg x)) (lv' := lv) hC.1 (by rw [hC.2, upI_s]) (fun a ha => upI_n ha) (fun _ _ => rfl)] at hP
  exact kk H1 ls locs1 hP hS1 hL
theorem z_iastN (h : Rw g own cc nL ret R scr Q Z) {k n j : Nat} {x : Int32} (hI : IsI g k n) (hd : decode cc pc = .ok (.iastore, 1)) (hj : j < n) (kk : Z (pc + 1) L st (upI iv k j x) lv) : Z pc L (.int x :: .int (nI j) :: rf g k :: st) iv lv := z_iast h hI hd (vp_in_nI hj hI.2) (by rw [nI_clamp (Nat.lt_trans hj hI.2)]; exact kk)
theorem z_last (h : Rw g own cc nL ret R scr Q Z) {k n : Nat} {i : Int32} {x : Int64} (hI : IsL g k n) (hd : decode cc pc = .ok (.lastore, 1)) (hi : vp_in i n) (kk : Z (pc + 1) L st iv (upL lv k i.toNatClampNeg x)) : Z pc L (.long x :: .int i :: rf g k :: st) iv lv := by
  obtain ⟨p, e, s, m, args, below, meth, c, cells, slots, A, H0, QS, hx, hb, hml, hown, hts, hK, hf, hscr, hfin, hZ⟩ := h
  rw [hZ]
  rw [hZ] at kk
  intro H ls locs hM hS hL
  obtain ⟨hC, hn⟩ := hI
  have he := cl_get (iv := iv) (lv := lv) hC
  refine va_last hx hb hK.1 hM cl_D hS k 1 he rfl hi hd (fun H1 locs1 hP hD hS1 => ?_)
  rw [cl_set (iv' := iv) (lv' := (upL lv k i.toNatClampNeg x)) hC.1 (by rw [hC.2, upL_s]) (fun _ _ => rfl) (fun a ha => upL_n ha)] at hP
  exact kk H1 ls locs1 hP hS1 hL
theorem z_lastN (h : Rw g own cc nL ret R scr Q Z) {k n j : Nat} {x : Int64} (hI : IsL g k n) (hd : decode cc pc = .ok (.lastore, 1)) (hj : j < n) (kk : Z (pc + 1) L st iv (upL lv k j x)) : Z pc L (.long x :: .int (nI j) :: rf g k :: st) iv lv := z_last h hI hd (vp_in_nI hj hI.2) (by rw [nI_clamp (Nat.lt_trans hj hI.2)]; exact kk)
theorem z_zast (h : Rw g own cc nL ret R scr Q Z) {k n : Nat} {i : Int32} {x : Int32} (hI : IsZ g k n) (hd : decode cc pc = .ok (.bastore, 1)) (hi : vp_in i n) (kk : Z (pc + 1) L st (upI iv k i.toNatClampNeg (vp_nar .boolean x)) lv) : Z pc L (.int x :: .int i :: rf g k :: st) iv lv := by
  obtain ⟨p, e, s, m, args, below, meth, c, cells, slots, A, H0, QS, hx, hb, hml, hown, hts, hK, hf, hscr, hfin, hZ⟩ := h
  rw [hZ]
  rw [hZ] at kk
  intro H ls locs hM hS hL
  obtain ⟨hC, hn⟩ := hI
  have he := cl_get (iv := iv) (lv := lv) hC
  refine va_zast hx hb hK.1 hM cl_D hS k 2 he rfl hi hd (fun H1 locs1 hP hD hS1 => ?_)
  rw [cl_set (iv' := (upI iv k i.toNatClampNeg (vp_nar .boolean x))) (lv' := lv) hC.1 (by rw [hC.2, upI_s]) (fun a ha => upI_n ha) (fun _ _ => rfl)] at hP
  exact kk H1 ls locs1 hP hS1 hL
theorem z_zastN (h : Rw g own cc nL ret R scr Q Z) {k n j : Nat} {x : Int32} (hI : IsZ g k n) (hd : decode cc pc = .ok (.bastore, 1)) (hj : j < n) (kk : Z (pc + 1) L st (upI iv k j (vp_nar .boolean x)) lv) : Z pc L (.int x :: .int (nI j) :: rf g k :: st) iv lv := z_zast h hI hd (vp_in_nI hj hI.2) (by rw [nI_clamp (Nat.lt_trans hj hI.2)]; exact kk)
theorem z_maldN (h : Rw g own cc nL ret R scr Q Z) {k n j : Nat} {r : Nat → Nat} (hI : IsM g k n r) (hd : decode cc pc = .ok (.aaload, 1)) (hj : j < n) (kk : Z (pc + 1) L (rf g (r j) :: st) iv lv) : Z pc L (.int (nI j) :: rf g k :: st) iv lv := by
  obtain ⟨p, e, s, m, args, below, meth, c, cells, slots, A, H0, QS, hx, hb, hml, hown, hts, hK, hf, hscr, hfin, hZ⟩ := h
  rw [hZ]
  rw [hZ] at kk
  intro H ls locs hM hS hL
  obtain ⟨hC, hn⟩ := hI
  have he := cl_get (iv := iv) (lv := lv) hC
  refine va_aldq hx hb hK.1 hM k 3 he rfl (vp_in_nI hj hn) hd ?_
  rw [nI_clamp (Nat.lt_trans hj hn), if_pos hj]
  exact kk H ls locs hM hS hL
theorem z_galdN (h : Rw g own cc nL ret R scr Q Z) {k n j : Nat} {r : Nat → Nat} (hI : IsG g k n r) (hd : decode cc pc = .ok (.aaload, 1)) (hj : j < n) (kk : Z (pc + 1) L (rf g (r j) :: st) iv lv) : Z pc L (.int (nI j) :: rf g k :: st) iv lv := by
  obtain ⟨p, e, s, m, args, below, meth, c, cells, slots, A, H0, QS, hx, hb, hml, hown, hts, hK, hf, hscr, hfin, hZ⟩ := h
  rw [hZ]
  rw [hZ] at kk
  intro H ls locs hM hS hL
  obtain ⟨hC, hn⟩ := hI
  have he := cl_get (iv := iv) (lv := lv) hC
  have hin := vp_in_nI hj hn
  have e9 : (nI j).toNatClampNeg = j := nI_clamp (Nat.lt_trans hj hn)
  refine W.aald (v := rf g (r j)) (ty := .array .int) hx hb (hM k _ he) ((hK.1.2 4 _ rfl).1 n (fun j => va_rf (if j < n then some (gB g + r j) else none))) rfl (fun q => by cases q) (by show ¬ (nI j < 0 ∨ (arrV _ _ _).slots.size ≤ _); rw [arrV_size]; exact hin) (by show (arrV _ _ _).slots[_]? = _; rw [e9, arrV_read _ _ hj]; exact congrArg (fun o => some (va_rf o)) (if_pos hj)) rfl rfl hd ?_
  exact kk H ls locs hM hS hL
theorem z_alenI (h : Rw g own cc nL ret R scr Q Z) {k n : Nat} (hI : IsI g k n) (hd : decode cc pc = .ok (.arraylength, 1)) (kk : Z (pc + 1) L (.int (nI n) :: st) iv lv) : Z pc L (rf g k :: st) iv lv := by
  obtain ⟨p, e, s, m, args, below, meth, c, cells, slots, A, H0, QS, hx, hb, hml, hown, hts, hK, hf, hscr, hfin, hZ⟩ := h
  rw [hZ]
  rw [hZ] at kk
  intro H ls locs hM hS hL
  obtain ⟨hC, hn⟩ := hI
  have he := cl_get (iv := iv) (lv := lv) hC
  exact va_alen hx hb hK.1 hM k 0 he rfl rfl hd (kk H ls locs hM hS hL)
theorem z_alenL (h : Rw g own cc nL ret R scr Q Z) {k n : Nat} (hI : IsL g k n) (hd : decode cc pc = .ok (.arraylength, 1)) (kk : Z (pc + 1) L (.int (nI n) :: st) iv lv) : Z pc L (rf g k :: st) iv lv := by
  obtain ⟨p, e, s, m, args, below, meth, c, cells, slots, A, H0, QS, hx, hb, hml, hown, hts, hK, hf, hscr, hfin, hZ⟩ := h
  rw [hZ]
  rw [hZ] at kk
  intro H ls locs hM hS hL
  obtain ⟨hC, hn⟩ := hI
  have he := cl_get (iv := iv) (lv := lv) hC
  exact va_alen hx hb hK.1 hM k 1 he rfl rfl hd (kk H ls locs hM hS hL)
theorem z_alenZ (h : Rw g own cc nL ret R scr Q Z) {k n : Nat} (hI : IsZ g k n) (hd : decode cc pc = .ok (.arraylength, 1)) (kk : Z (pc + 1) L (.int (nI n) :: st) iv lv) : Z pc L (rf g k :: st) iv lv := by
  obtain ⟨p, e, s, m, args, below, meth, c, cells, slots, A, H0, QS, hx, hb, hml, hown, hts, hK, hf, hscr, hfin, hZ⟩ := h
  rw [hZ]
  rw [hZ] at kk
  intro H ls locs hM hS hL
  obtain ⟨hC, hn⟩ := hI
  have he := cl_get (iv := iv) (lv := lv) hC
  exact va_alen hx hb hK.1 hM k 2 he rfl rfl hd (kk H ls locs hM hS hL)
theorem z_alenM (h : Rw g own cc nL ret R scr Q Z) {k n : Nat} {r : Nat → Nat} (hI : IsM g k n r) (hd : decode cc pc = .ok (.arraylength, 1)) (kk : Z (pc + 1) L (.int (nI n) :: st) iv lv) : Z pc L (rf g k :: st) iv lv := by
  obtain ⟨p, e, s, m, args, below, meth, c, cells, slots, A, H0, QS, hx, hb, hml, hown, hts, hK, hf, hscr, hfin, hZ⟩ := h
  rw [hZ]
  rw [hZ] at kk
  intro H ls locs hM hS hL
  obtain ⟨hC, hn⟩ := hI
  have he := cl_get (iv := iv) (lv := lv) hC
  exact va_alen hx hb hK.1 hM k 3 he rfl rfl hd (kk H ls locs hM hS hL)
theorem z_alenG (h : Rw g own cc nL ret R scr Q Z) {k n : Nat} {r : Nat → Nat} (hI : IsG g k n r) (hd : decode cc pc = .ok (.arraylength, 1)) (kk : Z (pc + 1) L (.int (nI n) :: st) iv lv) : Z pc L (rf g k :: st) iv lv := by
  obtain ⟨p, e, s, m, args, below, meth, c, cells, slots, A, H0, QS, hx, hb, hml, hown, hts, hK, hf, hscr, hfin, hZ⟩ := h
  rw [hZ]
  rw [hZ] at kk
  intro H ls locs hM hS hL
  obtain ⟨hC, hn⟩ := hI
  have he := cl_get (iv := iv) (lv := lv) hC
  exact va_alen hx hb hK.1 hM k 4 he rfl rfl hd (kk H ls locs hM hS hL)
theorem z_gets (h : Rw g own cc nL ret R scr Q Z) {idx i : Nat} (hd : decode cc pc = .ok (.getstatic idx, 3)) (hi : i < 3) (hl : Cond.fieldLink own idx "RollingNets" (sN i) "[I" ∈ TBL) (kk : Z (pc + 3) L (rt g i :: st) iv lv) : Z pc L st iv lv := by
  obtain ⟨p, e, s, m, args, below, meth, c, cells, slots, A, H0, QS, hx, hb, hml, hown, hts, hK, hf, hscr, hfin, hZ⟩ := h
  rw [hZ]
  rw [hZ] at kk
  intro H ls locs hM hS hL
  exact va_gets hx hb (hK.2.1.1 i hi).1 hS hown (hts _ hl) (fun _ h9 => h9) hd (kk H ls locs hM hS hL)
theorem z_tald (h : Rw g own cc nL ret R scr Q Z) {i j : Nat} (hd : decode cc pc = .ok (.iaload, 1)) (hi : i < 3) (hj : j < 7) (kk : Z (pc + 1) L (.int (sV i j) :: st) iv lv) : Z pc L (.int (nI j) :: rt g i :: st) iv lv := by
  obtain ⟨p, e, s, m, args, below, meth, c, cells, slots, A, H0, QS, hx, hb, hml, hown, hts, hK, hf, hscr, hfin, hZ⟩ := h
  rw [hZ]
  rw [hZ] at kk
  intro H ls locs hM hS hL
  exact va_ti hx hb (hK.2.1.1 i hi).2 hS (vp_in_nI hj (by omega)) (by rw [nI_clamp (by omega)]) hd (kk H ls locs hM hS hL)
theorem z_tlen (h : Rw g own cc nL ret R scr Q Z) {i : Nat} (hd : decode cc pc = .ok (.arraylength, 1)) (hi : i < 3) (kk : Z (pc + 1) L (.int (nI 7) :: st) iv lv) : Z pc L (rt g i :: st) iv lv := by
  obtain ⟨p, e, s, m, args, below, meth, c, cells, slots, A, H0, QS, hx, hb, hml, hown, hts, hK, hf, hscr, hfin, hZ⟩ := h
  rw [hZ]
  rw [hZ] at kk
  intro H ls locs hM hS hL
  exact va_tlen hx hb (hK.2.1.1 i hi).2 hS rfl hd (kk H ls locs hM hS hL)
theorem z_sld (h : Rw g own cc nL ret R scr Q Z) {b N : Nat} {xs : Nat → Int32} {j : Nat} (hs : scr = some (b, N, xs)) (hd : decode cc pc = .ok (.iaload, 1)) (hj : j < N) (hN : N < 2 ^ 31) (kk : Z (pc + 1) L (.int (xs j) :: st) iv lv) : Z pc L (.int (nI j) :: .ref b :: st) iv lv := by
  obtain ⟨p, e, s, m, args, below, meth, c, cells, slots, A, H0, QS, hx, hb, hml, hown, hts, hK, hf, hscr, hfin, hZ⟩ := h
  rw [hZ]
  rw [hZ] at kk
  intro H ls locs hM hS hL
  obtain ⟨a1, a2, a3⟩ := hscr _ hs
  refine va_sld hx hb a1 a2 a3 hS (vp_in_nI hj hN) hd ?_
  rw [nI_clamp (Nat.lt_trans hj hN)]
  exact kk H ls locs hM hS hL
theorem z_slen (h : Rw g own cc nL ret R scr Q Z) {b N : Nat} {xs : Nat → Int32} (hs : scr = some (b, N, xs)) (hd : decode cc pc = .ok (.arraylength, 1)) (kk : Z (pc + 1) L (.int (nI N) :: st) iv lv) : Z pc L (.ref b :: st) iv lv := by
  obtain ⟨p, e, s, m, args, below, meth, c, cells, slots, A, H0, QS, hx, hb, hml, hown, hts, hK, hf, hscr, hfin, hZ⟩ := h
  rw [hZ]
  rw [hZ] at kk
  intro H ls locs hM hS hL
  obtain ⟨a1, a2, a3⟩ := hscr _ hs
  exact va_slen hx hb a1 a2 a3 hS hd (kk H ls locs hM hS hL)
def MA (own : String) (idx : Nat) (y : MethodName) : Prop := Cond.methodLink own idx y ∈ TBL ∧ Cond.static y ∈ TBL ∧ Cond.initialized "java/lang/Math" ∈ TBL
theorem z_mmax (h : Rw g own cc nL ret R scr Q Z) {idx : Nat} {x y : Int32} (hA : MA own idx Lib.Math.max.name) (hc9 : Cond.code Lib.Math.max.name Lib.Math.max.code 2 (some .int) ∈ TBL) (hd : decode cc pc = .ok (.invokestatic idx, 3)) (hR : 1 ≤ R.frames ∧ (st.map fun v => v.category).sum + 13 ≤ R.locals) (kk : Z (pc + 3) L (.int (if x < y then y else x) :: st) iv lv) : Z pc L (.int y :: .int x :: st) iv lv := by
  obtain ⟨p, e, s, m, args, below, meth, c, cells, slots, A, H0, QS, hx, hb, hml, hown, hts, hK, hf, hscr, hfin, hZ⟩ := h
  rw [hZ]
  rw [hZ] at kk
  intro H ls locs hM hS hL
  exact va_mmax hx hb (hml.trans hL.1.symm) hown (hts _ hA.1) (hts _ hA.2.1) (hts _ hA.2.2) (hts _ hc9) hR.1 hR.2 hf.1 hf.2 hd (kk H ls locs hM hS hL)
theorem z_mmin (h : Rw g own cc nL ret R scr Q Z) {idx : Nat} {x y : Int32} (hA : MA own idx Lib.Math.min.name) (hc9 : Cond.code Lib.Math.min.name Lib.Math.min.code 2 (some .int) ∈ TBL) (hd : decode cc pc = .ok (.invokestatic idx, 3)) (hR : 1 ≤ R.frames ∧ (st.map fun v => v.category).sum + 13 ≤ R.locals) (kk : Z (pc + 3) L (.int (if y < x then y else x) :: st) iv lv) : Z pc L (.int y :: .int x :: st) iv lv := by
  obtain ⟨p, e, s, m, args, below, meth, c, cells, slots, A, H0, QS, hx, hb, hml, hown, hts, hK, hf, hscr, hfin, hZ⟩ := h
  rw [hZ]
  rw [hZ] at kk
  intro H ls locs hM hS hL
  exact va_mmin hx hb (hml.trans hL.1.symm) hown (hts _ hA.1) (hts _ hA.2.1) (hts _ hA.2.2) (hts _ hc9) hR.1 hR.2 hf.1 hf.2 hd (kk H ls locs hM hS hL)
theorem z_mabs (h : Rw g own cc nL ret R scr Q Z) {idx : Nat} {x : Int32} (hA : MA own idx Lib.Math.abs.name) (hc9 : Cond.code Lib.Math.abs.name Lib.Math.abs.code 1 (some .int) ∈ TBL) (hd : decode cc pc = .ok (.invokestatic idx, 3)) (hR : 1 ≤ R.frames ∧ (st.map fun v => v.category).sum + 13 ≤ R.locals) (kk : Z (pc + 3) L (.int (if 0 ≤ x then x else 0 - x) :: st) iv lv) : Z pc L (.int x :: st) iv lv := by
  obtain ⟨p, e, s, m, args, below, meth, c, cells, slots, A, H0, QS, hx, hb, hml, hown, hts, hK, hf, hscr, hfin, hZ⟩ := h
  rw [hZ]
  rw [hZ] at kk
  intro H ls locs hM hS hL
  exact va_mabs hx hb (hml.trans hL.1.symm) hown (hts _ hA.1) (hts _ hA.2.1) (hts _ hA.2.2) (hts _ hc9) hR.1 hR.2 hf.1 hf.2 hd (kk H ls locs hM hS hL)
theorem z_mmax_long (h : Rw g own cc nL ret R scr Q Z) {idx : Nat} {x y : Int64} (hA : MA own idx Lib.MathLoose.max_long.x) (hc9 : Cond.code Lib.MathLoose.max_long.x Lib.MathLoose.max_long.code 4 (some .long) ∈ TBL) (hd : decode cc pc = .ok (.invokestatic idx, 3)) (hR : 1 ≤ R.frames ∧ (st.map fun v => v.category).sum + 15 ≤ R.locals) (kk : Z (pc + 3) L (.long (if y < x then x else y) :: st) iv lv) : Z pc L (.long y :: .long x :: st) iv lv := by
  obtain ⟨p, e, s, m, args, below, meth, c, cells, slots, A, H0, QS, hx, hb, hml, hown, hts, hK, hf, hscr, hfin, hZ⟩ := h
  rw [hZ]
  rw [hZ] at kk
  intro H ls locs hM hS hL
  exact va_mmax_long hx hb (hml.trans hL.1.symm) hown (hts _ hA.1) (hts _ hA.2.1) (hts _ hA.2.2) (hts _ hc9) hR.1 hR.2 hf.1 hf.2 hd (kk H ls locs hM hS hL)
theorem z_mmin_long (h : Rw g own cc nL ret R scr Q Z) {idx : Nat} {x y : Int64} (hA : MA own idx Lib.MathLoose.min_long.x) (hc9 : Cond.code Lib.MathLoose.min_long.x Lib.MathLoose.min_long.code 4 (some .long) ∈ TBL) (hd : decode cc pc = .ok (.invokestatic idx, 3)) (hR : 1 ≤ R.frames ∧ (st.map fun v => v.category).sum + 15 ≤ R.locals) (kk : Z (pc + 3) L (.long (if y < x then y else x) :: st) iv lv) : Z pc L (.long y :: .long x :: st) iv lv := by
  obtain ⟨p, e, s, m, args, below, meth, c, cells, slots, A, H0, QS, hx, hb, hml, hown, hts, hK, hf, hscr, hfin, hZ⟩ := h
  rw [hZ]
  rw [hZ] at kk
  intro H ls locs hM hS hL
  exact va_mmin_long hx hb (hml.trans hL.1.symm) hown (hts _ hA.1) (hts _ hA.2.1) (hts _ hA.2.2) (hts _ hc9) hR.1 hR.2 hf.1 hf.2 hd (kk H ls locs hM hS hL)
end ZR
section ZC
variable {p : Program} {l : Launch} {e : Env} {R : Room} {s : State} {m : MethodId} {args : Array Value} {below : List Frame} {meth : Method} {c : Code} {H : Heap} {locs : List Loc} {cells slots : Nat} {QS : State → Prop}
/-- behind a call -/
theorem zw_call {g : GE} {pc : Nat} {ls : Array Slot} {rest st0 : List Value} {a : Array Value} {Qf : Option Value → Iv → Lv → Prop}
    (hr : va_Run p l e R s m args below meth c H locs cells slots 0 0 (F0 m pc ls st0) rest (fun st oc t => ∃ v iv' lv', oc = .returned v ∧ Qf v iv' lv' ∧ Mo g iv' lv' t.heap ∧ va_F (gA g) st t) (gA g)) (hS : va_S (gA g) s.heap H locs)
    (kk : ∀ (v : Option Value) (iv' : Iv) (lv' : Lv) (H1 : Heap) (locs1 : List Loc), Qf v iv' lv' → Mo g iv' lv' H1 → va_S (gA g) s.heap H1 locs1 → W p l e R s m args below meth c H1 locs1 cells slots QS (F0 m (pc + 3) ls (v.toList ++ rest))) : W p l e R s m args below meth c H locs cells slots QS (F0 m pc ls st0) := by
  intro T hT X
  obtain ⟨v, st₀, t, T', L, h0, X', hL, e1, e2, ⟨w, iv', lv', hv, hq, hM, hz, hk⟩, st⟩ := hr T hT X
  cases hv
  rw [h0] at hz hk
  obtain ⟨t2, a1, b1⟩ := kk v iv' lv' T'.heap (locs ++ L) hq (by rw [e1]; exact hM)
    ⟨Nat.le_trans hS.1 (by rw [e1]; exact hz), fun q h1 h2 => by rw [e1, hk q (Nat.lt_of_lt_of_le h1 hS.1) h2]; exact hS.2.1 q h1 h2, fun q hq => by
      rcases List.mem_append.mp hq with h | h
      · exact hS.2.2 q h
      · exact hL q h⟩ T' rfl X'
  exact ⟨t2, st t2 a1, b1⟩
theorem zw_blind {g : GE} {as : List Value} {iv : Iv} {lv : Lv} : FrameBlind (va_Pc as (fun U => Mo g iv lv U.heap ∧ Kn g U)) := fun a U fr mk q => by
  obtain ⟨q0, q1, q2, q3, q4⟩ := q
  exact ⟨q0, q1, va_K.moved (u := U) (U := U.calling fr mk a) (Vm.Alike.refl U.vm) q2, q3.moved (u := U) (U := U.calling fr mk a) (Vm.Alike.refl U.vm), q4.same (u := U) (U := U.calling fr mk a) rfl⟩
theorem zw_pre {g : GE} {as : List Value} {iv : Iv} {lv : Lv} (hM : Mo g iv lv H) (hK : va_K (gD g) CLS (tysL (gE g)) s ∧ Sx g s s.heap ∧ Nst g s) (hS : va_S (gA g) s.heap H locs) : ∀ U : State, U.heap = H → s.WarmedH U.vm → va_Pc as (fun U => Mo g iv lv U.heap ∧ Kn g U) as.toArray U := fun U hU hW =>
  ⟨rfl, by rw [hU]; exact hM, hK.1.moved hW.alike, by rw [hU]; exact (hK.2.1.moved hW.alike).kept hS.2.1, hK.2.2.warm hW⟩
end ZC
/-- links of a call: plain, or between nest mates; the method's code and its number of arguments -/
def ML (own : String) (idx : Nat) (y : MethodName) (b : ByteArray) (n : Nat) (ret : Option FieldType) (na : Nat) : Prop :=
  ((Cond.methodLink own idx y ∈ TBL) ∨ ∃ host, Cond.methodLinkNest own idx y host ∈ NTB) ∧ Cond.initialized y.cls ∈ TBL ∧ Cond.code y b n ret ∈ TBL ∧ (y.cls ≠ "java/lang/invoke/MethodHandle" ∧ y.cls ≠ "java/lang/invoke/VarHandle" ∧ (parseMethodDescriptor y.desc).map (fun d => d.parameters.length) = some na)
def MV (own : String) (idx : Nat) (y : MethodName) (b : ByteArray) (n : Nat) (ret : Option FieldType) (na ci : Nat) : Prop :=
  ML own idx y b n ret na ∧ Cond.instanceMethod y ∈ TBL ∧ Cond.selects y.cls y y ∈ TBL ∧ ∃ (T : u_T) (N : Nat), CLS[ci]? = some (y.cls, T, N)
def MS (own : String) (idx : Nat) (y : MethodName) (b : ByteArray) (n : Nat) (ret : Option FieldType) (na : Nat) : Prop :=
  ML own idx y b n ret na ∧ Cond.static y ∈ TBL
theorem TBL_code {y : MethodName} {b : ByteArray} {n : Nat} {ret : Option FieldType} (h : Cond.code y b n ret ∈ TBL) : GoodIn TBL (.code y b n ret :: TBL) := TBL_in (fun w hw => (List.mem_cons.mp hw).elim (fun e => e ▸ h) id)
section ZD
variable {g : GE} {own : String} {cc : ByteArray} {nL : Nat} {ret : Option FieldType} {R : Room} {scr : Option (Nat × Nat × (Nat → Int32))} {Q : Option Value → Iv → Lv → Prop} {Z : ZT} {pc : Nat} {L : LO} {st : List Value} {iv : Iv} {lv : Lv}
theorem z_callV (h : Rw g own cc nL ret R scr Q Z) {idx ci na n d k : Nat} {y : MethodName} {b : ByteArray} {rt : Option FieldType} {As stk : List Value} {Qf : Option Value → Iv → Lv → Prop} {F : FF} {fs : List Value}
    (hV : MV own idx y b n rt na ci) (hd : decode cc pc = .ok (.invokevirtual idx, 3)) (hC : Cl g k F) (hfs : F (iv k) (lv k) = .inr (ci, fs))
    (hc : Con g y b n rt d (rf g k :: As) iv lv Qf) (hR : d + 1 ≤ R.frames ∧ 8 + (n + 11) + 40 * d ≤ R.locals) (hn : As.length = na) (hstk : stk = As.reverse ++ rf g k :: st) (hw : (st.map fun v => v.category).sum ≤ 8)
    (kk : ∀ v iv' lv', Qf v iv' lv' → Z (pc + 3) L (v.toList ++ st) iv' lv') : Z pc L stk iv lv := by
  obtain ⟨p, e, s, m, args, below, meth, c, cells, slots, A, H0, QS, hx, hb, hml, hown, hts, hK, hf, hscr, hfin, hZ⟩ := h
  rw [hZ]
  intro H ls locs hM hS hL
  subst hstk
  have he := cl_get (iv := iv) (lv := lv) hC
  rw [hfs] at he
  obtain ⟨⟨hl, hini, hcode, hdd⟩, hin, hsel, T, N, hci⟩ := hV
  have hrecv := va_recv hK.1 hM hci he
  have hG := TBL_code hcode
  have hfix : CallFix p m c cc nL s args TBL own := ⟨hx, hb, hml, hown, hts⟩
  have hgo : va_Run p (gL g) e R s m args below meth c H locs cells slots 0 0 (F0 m pc ls (As.reverse ++ rf g k :: st)) st ((fun (_ : Array Value) st oc t => ∃ v iv' lv', oc = .returned v ∧ Qf v iv' lv' ∧ Mo g iv' lv' t.heap ∧ va_F (gA g) st t) (rf g k :: As).toArray) (gA g) := by
    rcases hl with hl | ⟨host, hl⟩
    · have cw : CallW R s args own y.cls idx y b n rt (.code y b n rt :: TBL) (rmd d) 0 0 na := ⟨callB_of na hts hG rfl rfl rfl (hts _ hini) (hts _ hl) hdd hR, hts _ hin, hts _ hsel⟩
      exact va_runV (b := gB g + k) hfix hc cw ⟨zw_blind, hrecv, zw_pre (as := rf g k :: As) hM hK hS⟩ rfl hn hL.1 rfl (lv_room hw) hd hf
    · have cw := va_cnB (own := own) (host := host) (index := idx) (y := y) (ws := .code y b n rt :: TBL) (rm := rmd d) (R := R) na hts hG rfl rfl rfl (hK.2.2.1 _ hl) (hts _ hini) hdd hR
      exact va_runVN (b := gB g + k) hfix hc ⟨cw, hts _ hin, hts _ hsel⟩ ⟨zw_blind, hrecv, zw_pre (as := rf g k :: As) hM hK hS⟩ rfl hn hL.1 rfl (lv_room hw) hd hf
  exact zw_call (a := args) hgo hS (fun v iv' lv' H1 locs1 q1 q2 q3 => (hZ _ _ _ _ _).mp (kk v iv' lv' q1) H1 ls locs1 q2 q3 hL)
theorem z_callS (h : Rw g own cc nL ret R scr Q Z) {idx na n d : Nat} {y : MethodName} {b : ByteArray} {rt : Option FieldType} {As stk : List Value} {Qf : Option Value → Iv → Lv → Prop}
    (hV : MS own idx y b n rt na) (hd : decode cc pc = .ok (.invokestatic idx, 3))
    (hc : Con g y b n rt d As iv lv Qf) (hR : d + 1 ≤ R.frames ∧ 8 + (n + 11) + 40 * d ≤ R.locals) (hn : As.length = na) (hstk : stk = As.reverse ++ st) (hw : (st.map fun v => v.category).sum ≤ 8)
    (kk : ∀ v iv' lv', Qf v iv' lv' → Z (pc + 3) L (v.toList ++ st) iv' lv') : Z pc L stk iv lv := by
  obtain ⟨p, e, s, m, args, below, meth, c, cells, slots, A, H0, QS, hx, hb, hml, hown, hts, hK, hf, hscr, hfin, hZ⟩ := h
  rw [hZ]
  intro H ls locs hM hS hL
  subst hstk
  obtain ⟨⟨hl, hini, hcode, hdd⟩, hst⟩ := hV
  have hG := TBL_code hcode
  have hfix : CallFix p m c cc nL s args TBL own := ⟨hx, hb, hml, hown, hts⟩
  have hgo : va_Run p (gL g) e R s m args below meth c H locs cells slots 0 0 (F0 m pc ls (As.reverse ++ st)) st ((fun (_ : Array Value) st oc t => ∃ v iv' lv', oc = .returned v ∧ Qf v iv' lv' ∧ Mo g iv' lv' t.heap ∧ va_F (gA g) st t) As.toArray) (gA g) := by
    rcases hl with hl | ⟨host, hl⟩
    · have cw : CallB R s args own idx y b n rt (.code y b n rt :: TBL) (rmd d) 0 0 na := callB_of na hts hG rfl rfl rfl (hts _ hini) (hts _ hl) hdd hR
      exact va_runS hfix hc ⟨cw, hts _ hst⟩ ⟨zw_blind, zw_pre (as := As) hM hK hS⟩ rfl hn hL.1 rfl (lv_room hw) hd hf
    · have cw := va_cnB (own := own) (host := host) (index := idx) (y := y) (ws := .code y b n rt :: TBL) (rm := rmd d) (R := R) na hts hG rfl rfl rfl (hK.2.2.1 _ hl) (hts _ hini) hdd hR
      exact va_runSN hfix hc ⟨cw, hts _ hst, trivial⟩ ⟨zw_blind, zw_pre (as := As) hM hK hS⟩ rfl hn hL.1 rfl (lv_room hw) hd hf
  exact zw_call (a := args) hgo hS (fun v iv' lv' H1 locs1 q1 q2 q3 => (hZ _ _ _ _ _).mp (kk v iv' lv' q1) H1 ls locs1 q2 q3 hL)
theorem z_ret (h : Rw g own cc nL ret R scr Q Z) {v : Option Value} (hr : RetOK cc pc ret v) (hq : Q v iv lv) : Z pc L v.toList iv lv := by
  obtain ⟨p, e, s, m, args, below, meth, c, cells, slots, A, H0, QS, hx, hb, hml, hown, hts, hK, hf, hscr, hfin, hZ⟩ := h
  rw [hZ]
  intro H ls locs hM hS hL
  exact hfin pc ls iv lv H locs v hr hq hM hS
theorem z_iret (h : Rw g own cc nL (some .int) R scr Q Z) {x : Int32} (hd : decode cc pc = .ok (.ireturn, 1)) (hq : Q (some (.int x)) iv lv) : Z pc L [.int x] iv lv := z_ret (v := some (.int x)) h ⟨Or.inl rfl, hd⟩ hq
theorem z_zret (h : Rw g own cc nL (some .boolean) R scr Q Z) {x : Int32} (hd : decode cc pc = .ok (.ireturn, 1)) (hx : x = 0 ∨ x = 1) (hq : Q (some (.int x)) iv lv) : Z pc L [.int x] iv lv := z_ret (v := some (.int x)) h ⟨Or.inr (Or.inl ⟨rfl, hx⟩), hd⟩ hq
theorem z_lret (h : Rw g own cc nL (some .long) R scr Q Z) {x : Int64} (hd : decode cc pc = .ok (.lreturn, 1)) (hq : Q (some (.long x)) iv lv) : Z pc L [.long x] iv lv := z_ret (v := some (.long x)) h ⟨rfl, hd⟩ hq
theorem z_vret (h : Rw g own cc nL none R scr Q Z) (hd : decode cc pc = .ok (.return_, 1)) (hq : Q none iv lv) : Z pc L [] iv lv := z_ret (v := none) h ⟨rfl, hd⟩ hq
end ZD
def lo0 : List Value → LO
  | [] => []
  | v :: t => if v.category = 2 then some v :: none :: lo0 t else some v :: lo0 t
def loI (n : Nat) (as : List Value) : LO := lo0 as ++ List.replicate (n - (lo0 as).length) none
theorem lo0_args : ∀ (as : List Value) (k i : Nat) (v : Value), (lo0 as)[i]? = some (some v) → (k + i, v) ∈ lv_args k as
  | [], k, i, v, h => by simp [lo0] at h
  | a :: t, k, i, v, h => by
    unfold lo0 at h
    unfold lv_args
    by_cases hc : a.category = 2
    · rw [if_pos hc] at h ⊢
      match i, h with
      | 0, h => simp at h; subst h; exact List.mem_cons_self
      | 1, h => simp at h
      | i + 2, h =>
        have h' : (lo0 t)[i]? = some (some v) := by simpa using h
        have := lo0_args t (k + 2) i v h'
        rw [show k + (i + 2) = k + 2 + i by omega]
        exact List.mem_cons_of_mem _ this
    · rw [if_neg hc] at h ⊢
      match i, h with
      | 0, h => simp at h; subst h; exact List.mem_cons_self
      | i + 1, h =>
        have h' : (lo0 t)[i]? = some (some v) := by simpa using h
        have := lo0_args t (k + 1) i v h'
        rw [show k + (i + 1) = k + 1 + i by omega]
        exact List.mem_cons_of_mem _ this
theorem loI_has {as : List Value} {n : Nat} {ls : Array Slot} (h : lv_has ls n (lv_args 0 as)) : lvL ls n (loI n as) := by
  refine ⟨h.1, h.2.1, fun i v hi => ?_⟩
  unfold loI at hi
  by_cases hl : i < (lo0 as).length
  · rw [List.getElem?_append_left hl] at hi
    have := lo0_args as 0 i v hi
    rw [Nat.zero_add] at this
    exact h.2.2 _ this
  · rw [List.getElem?_append_right (by omega)] at hi
    have := List.mem_of_getElem? hi
    rw [List.mem_replicate] at this
    cases this.2
/-- A CONTRACT OUT OF A WALK -/
theorem con_intro {g : GE} {own : String} {y : MethodName} {b : ByteArray} {n : Nat} {ret : Option FieldType} {d : Nat} {as : List Value} {iv : Iv} {lv : Lv} {Q : Option Value → Iv → Lv → Prop} {L0 : LO}
    (hy : plainName y.cls = true) (ho : y.cls = own) (hn : (lg_sl as).length ≤ n) (hL0 : loI n as = L0) (body : ∀ Z, Rw g own b n ret (rmd d) none Q Z → Z 0 L0 [] iv lv) : Con g y b n ret d as iv lv Q := by
  subst ho
  subst hL0
  refine Met.ofW (cc := b) (maxL := n) (ret := ret) hy rfl ?_
  intro p e s m args below meth c s₁ B hml hv
  obtain ⟨rfl, hM, hK⟩ := hv
  have hx := B.exec
  have hb := B.bytes
  have hr := B.returns
  have hts : ∀ w ∈ TBL, w.before as.toArray s = true := fun w hw => atoms_spec (ws := .code y b n ret :: TBL) B.pre w (List.mem_cons_of_mem _ hw)
  have hown : s.vm.findClass y.cls = some m.cls := findClass_of_methodNamed B.named
  have hlocks := B.notSynchronized
  have hl := lv_entry as (n := n) hn
  rw [lg_entry_eq]
  refine (body (fun pc L st iv lv => ∀ (H : Heap) (ls : Array Slot) (locs : List Loc), Mo g iv lv H → va_S (gA g) s.heap H locs → lvL ls n L → W p (gL g) e (rmd d) s m as.toArray below meth c H locs 0 0 (MQ below (fun _ st oc t => ∃ v iv' lv', oc = .returned v ∧ Q v iv' lv' ∧ Mo g iv' lv' t.heap ∧ va_F (gA g) st t) as.toArray s 0 0 (gA g)) (F0 m pc ls st))
    ⟨p, e, s, m, as.toArray, below, meth, c, 0, 0, gA g, s.heap, _, hx, hb, hml, hown, hts, hK, ⟨Nat.zero_le _, Nat.zero_le _⟩, (fun q hq => by cases hq), ?_, fun pc L st iv lv => Iff.rfl⟩) s.heap _ [] hM va_S.rf (loI_has hl)
  intro pc ls iv' lv' H locs v hok hq hM' hS
  have fin : ∀ t : State, t.heap = H → s.WarmedH t.vm → ∃ w iv'' lv'', Outcome.returned v = .returned w ∧ Q w iv'' lv'' ∧ Mo g iv'' lv'' t.heap ∧ va_F (gA g) s t := fun t ht hW => ⟨v, iv', lv', rfl, hq, by rw [ht]; exact hM', hS.F ht⟩
  cases v with
  | none =>
    obtain ⟨e1, e2⟩ := hok
    exact W.vret hx hb (hr.trans e1) fin hS.2.2 e2
  | some w =>
    cases w with
    | int x =>
      obtain ⟨e1, e2⟩ := hok
      rcases e1 with e1 | ⟨e1, e3⟩ | ⟨e1, e3⟩ | ⟨e1, e3⟩
      · exact W.iret hx hb (hr.trans e1) fin hS.2.2 e2
      · exact W.zret (ty := .boolean) hx hb (hr.trans e1) (by rcases e3 with rfl | rfl <;> rfl) fin hS.2.2 e2
      · exact W.zret (ty := .byte) hx hb (hr.trans e1) e3 fin hS.2.2 e2
      · exact W.zret (ty := .char) hx hb (hr.trans e1) e3 fin hS.2.2 e2
    | long x =>
      obtain ⟨e1, e2⟩ := hok
      exact W.lret hx hb (hr.trans e1) fin hS.2.2 e2
    | ref q =>
      obtain ⟨e1, e2⟩ := hok
      exact W.aret hx hb (hr.trans e1) (Or.inl ⟨_, rfl⟩) (Or.inr ⟨_, rfl⟩) fin hS.2.2 e2
    | _ => cases hok
