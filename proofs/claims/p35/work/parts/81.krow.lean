/-! CONSTRUCTORS: arrays of references, copies of the static arrays, arrays of arrays -/
theorem cc_ext {g : GE} {n : Nat} {M M' : CM} (h : ∀ k, k < n → M k = M' k) : cellsC g n M = cellsC g n M' := by
  unfold cellsC
  exact List.map_congr_left (fun k hk => by rw [h k (List.mem_range.mp hk)])
theorem Mc_ext {g : GE} {n : Nat} {M M' : CM} {H : Heap} (h : ∀ k, k < n → M k = M' k) (hM : Mc g n M H) : Mc g n M' H := ⟨hM.1, by rw [← cc_ext h]; exact hM.2⟩
/-- the heap after i rows of an array of rows: own picture of it -/
def gmF (h i : Nat) : Nat → Value := fun j => if j < i then .ref (h + 1 + j) else .null
def gmS (T : State) (cA cI : ClassId) (N K : Nat) : Nat → State
  | 0 => T.pushCell (arrV cA N (gmF T.heap.size 0))
  | i + 1 => ((gmS T cA cI N K i).pushCell (arrV cI K (fun _ => .int 0))).setCell T.heap.size (arrV cA N (gmF T.heap.size (i + 1)))
theorem gmF_up (h i : Nat) : updV (gmF h i) i (.ref (h + 1 + i)) = gmF h (i + 1) := by
  funext j
  unfold updV gmF
  by_cases e : j = i
  · rw [if_pos e, if_pos (by omega), e]
  · rw [if_neg e]
    by_cases h1 : j < i
    · rw [if_pos h1, if_pos (by omega)]
    · rw [if_neg h1, if_neg (by omega)]
theorem gmS_size (T : State) (cA cI : ClassId) (N K : Nat) : ∀ i, (gmS T cA cI N K i).heap.size = T.heap.size + 1 + i
  | 0 => by simp [gmS]
  | i + 1 => by
    have h := gmS_size T cA cI N K i
    simp [gmS, State.setCell, h]
    omega
theorem gmS_vm (T : State) (cA cI : ClassId) (N K : Nat) : ∀ i, (gmS T cA cI N K i).vm = T.vm
  | 0 => rfl
  | i + 1 => (gmS_vm T cA cI N K i)
theorem gmS_slots (T : State) (cA cI : ClassId) (N K : Nat) : ∀ i, (gmS T cA cI N K i).slotsUsed = T.slotsUsed + N + i * K
  | 0 => by simp [gmS, arrV_size]
  | i + 1 => by
    have h := gmS_slots T cA cI N K i
    simp [gmS, arrV_size, h, Nat.succ_mul]
    omega
theorem gmS_top (T : State) (f : JFrame) (cA cI : ClassId) (N K : Nat) : ∀ i, gmS (T.setTop f) cA cI N K i = (gmS T cA cI N K i).setTop f
  | 0 => rfl
  | i + 1 => by simp only [gmS, gmS_top T f cA cI N K i, State.heap_setTop, State.pushCell_setTop, State.setCell_setTop]
theorem gmS_outer (T : State) (cA cI : ClassId) (N K : Nat) : ∀ i, (gmS T cA cI N K i).heap[T.heap.size]? = some (arrV cA N (gmF T.heap.size i))
  | 0 => State.heap_pushCell_size _ _
  | i + 1 => by
    have h1 := gmS_size T cA cI N K i
    have hlt : T.heap.size < (gmS T cA cI N K i).heap.size := by omega
    have hb : ((gmS T cA cI N K i).pushCell (arrV cI K (fun _ => .int 0))).heap[T.heap.size]? = some (arrV cA N (gmF T.heap.size i)) := by
      rw [State.heap_pushCell_of_lt (h := hlt)]
      exact gmS_outer T cA cI N K i
    exact State.heap_setCell_self hb
theorem gmS_old (T : State) (cA cI : ClassId) (N K : Nat) {a : Nat} (ha : a < T.heap.size) : ∀ i, (gmS T cA cI N K i).heap[a]? = T.heap[a]?
  | 0 => State.heap_pushCell_of_lt _ _ ha
  | i + 1 => by
    have h1 := gmS_size T cA cI N K i
    show (((gmS T cA cI N K i).pushCell _).setCell T.heap.size _).heap[a]? = _
    have hlt : a < (gmS T cA cI N K i).heap.size := by omega
    rw [State.heap_setCell_other (Nat.ne_of_gt ha), State.heap_pushCell_of_lt (h := hlt)]
    exact gmS_old T cA cI N K ha i
theorem gmS_row (T : State) (cA cI : ClassId) (N K : Nat) : ∀ i j, j < i → (gmS T cA cI N K i).heap[T.heap.size + 1 + j]? = some (arrV cI K (fun _ => .int 0))
  | 0, _, h => absurd h (Nat.not_lt_zero _)
  | i + 1, j, h => by
    have h1 := gmS_size T cA cI N K i
    show (((gmS T cA cI N K i).pushCell _).setCell T.heap.size _).heap[T.heap.size + 1 + j]? = _
    rw [State.heap_setCell_other (show T.heap.size ≠ T.heap.size + 1 + j by omega)]
    by_cases e : j = i
    · subst e
      rw [← h1]
      exact State.heap_pushCell_size _ _
    · have hlt : T.heap.size + 1 + j < (gmS T cA cI N K i).heap.size := by omega
      rw [State.heap_pushCell_of_lt (h := hlt)]
      exact gmS_row T cA cI N K i j (by omega)
section GM
variable {p : Program} {l : Launch} {e : Env} {R : Room} {s : State} {m : MethodId} {args : Array Value} {below : List Frame} {meth : Method} {c : Code} {H : Heap} {locs : List Loc} {cells slots : Nat} {Q : State → Prop}
def gmL (h i : Nat) : List Loc := (List.range i).map (fun j => (⟨h, j⟩ : Loc))
theorem gmS_stand {T : State} (X : Stand p l e R s m args below meth c T locs cells slots) (cA cI : ClassId) (N K : Nat) :
    ∀ i, Stand p l e R s m args below meth c (gmS T cA cI N K i) (locs ++ gmL T.heap.size i) (cells + 1 + i) (slots + N + i * K)
  | 0 => by
    have h := X.pushed (arrV cA N (gmF T.heap.size 0))
    rw [arrV_size] at h
    simpa [gmS, gmL] using h
  | i + 1 => by
    have h1 := gmS_size T cA cI N K i
    have hlt : T.heap.size < (gmS T cA cI N K i).heap.size := by omega
    have hb : ((gmS T cA cI N K i).pushCell (arrV cI K (fun _ => .int 0))).heap[T.heap.size]? = some (arrV cA N (gmF T.heap.size i)) := by
      rw [State.heap_pushCell_of_lt (h := hlt)]
      exact gmS_outer T cA cI N K i
    have h := ((gmS_stand X cA cI N K i).pushed (arrV cI K (fun _ => .int 0))).stored hb i (.ref (T.heap.size + 1 + i))
    rw [arrV_size, arrV_store, gmF_up] at h
    have e2 : locs ++ gmL T.heap.size (i + 1) = (locs ++ gmL T.heap.size i) ++ [⟨T.heap.size, i⟩] := by simp [gmL, List.range_succ, List.append_assoc]
    have e3 : slots + N + (i + 1) * K = slots + N + i * K + K := by rw [Nat.succ_mul]; omega
    rw [e2, e3]
    exact h
end GM
section GW
variable {E : CtlPost} {e : Env} {d : Bool} {acts : List Action} {s : State}
theorem gm_alloc {c comp : ClassId} {k : Class} {type : FieldType} {len : Nat} {v : Value} (hk : s.vm.classes[c]? = some k) (hkind : k.kind = .array comp type)
    (h1 : ¬ len > e.platform.arrayLengthLimit) (h2 : ¬ len * componentBytes type > e.platform.maxHeapBytes) (hfit : fits type v = true) (hdef : v.isDefault = true) {Q : Addr → Pre}
    (h3 : s.heap.size < e.platform.maxCells) (h4 : s.slotsUsed + len ≤ e.platform.maxSlots) (hq : Q s.heap.size d acts (s.pushCell (arrV c len (fun _ => v)))) :
    wp (Jvm.newArray c len v) Q E e d acts s := by
  have hf : ∀ i w, (Array.replicate len v)[i]? = some w → s.fitsSlot c .none i w = true := by
    intro i w hw
    rw [Array.getElem?_replicate] at hw
    by_cases hi : i < len
    · rw [if_pos hi] at hw
      cases hw
      simp [State.fitsSlot, State.slotType?, hk, hkind, hfit]
    · rw [if_neg hi] at hw
      cases hw
  have ha : allocActs (Array.replicate len v) s.heap.size acts = acts := by
    unfold allocActs
    refine if_pos ?_
    rw [Array.all_replicate]
    by_cases h : len = 0
    · simp [h]
    · simp [h, hdef]
  rw [← arrV_new] at hq
  simp only [Jvm.newArray, Jvm.arrayFits, wp_bind', W.ask, W.ite, h1, if_false, wp_pure', W.theClass, hk, hkind, h2, W.alloc, W.stop, Option.some.injEq, exists_eq_left', Array.size_replicate, ha]
  rw [if_neg (by omega)]
  exact ⟨h3, h4, hf, hq⟩
theorem gm_row {cI cc : ClassId} {k : Class} {n : Int32} (hk : s.vm.classes[cI]? = some k) (hkind : k.kind = .array cc .int) (hn : ¬ n < 0)
    (h1 : ¬ n.toNatClampNeg > e.platform.arrayLengthLimit) (h2 : ¬ n.toNatClampNeg * 4 > e.platform.maxHeapBytes)
    (h3 : s.heap.size < e.platform.maxCells) (h4 : s.slotsUsed + n.toNatClampNeg ≤ e.platform.maxSlots) {Q : Addr → Pre} (hq : Q s.heap.size d acts (s.pushCell (arrV cI n.toNatClampNeg (fun _ => .int 0)))) :
    wp (Jvm.Op.multianewarray.make cI [n]) Q E e d acts s := by
  rw [Jvm.Op.multianewarray.make]
  simp only [wp_bind', W.ite, hn, if_false, wp_pure', W.theClass, hk, hkind, Option.some.injEq, exists_eq_left']
  exact gm_alloc hk hkind h1 h2 rfl rfl h3 h4 hq
theorem gm_make {cA cI cc : ClassId} {kA kI : Class} {n k : Int32} (hA : s.vm.classes[cA]? = some kA) (hkA : kA.kind = .array cI (.array .int)) (hI : s.vm.classes[cI]? = some kI) (hkI : kI.kind = .array cc .int) (hn : ¬ n < 0) (hk : ¬ k < 0)
    (h1 : ¬ n.toNatClampNeg > e.platform.arrayLengthLimit) (h2 : ¬ n.toNatClampNeg * 4 > e.platform.maxHeapBytes) (h3 : ¬ k.toNatClampNeg > e.platform.arrayLengthLimit) (h4 : ¬ k.toNatClampNeg * 4 > e.platform.maxHeapBytes)
    (h5 : s.heap.size + 1 + n.toNatClampNeg ≤ e.platform.maxCells) (h6 : s.slotsUsed + n.toNatClampNeg + n.toNatClampNeg * k.toNatClampNeg ≤ e.platform.maxSlots)
    {Q : Addr → Pre} (hq : ∀ d' acts', Q s.heap.size d' acts' (gmS s cA cI n.toNatClampNeg k.toNatClampNeg n.toNatClampNeg)) : wp (Jvm.Op.multianewarray.make cA [n, k]) Q E e d acts s := by
  generalize hN : n.toNatClampNeg = N at *
  generalize hK : k.toNatClampNeg = K at *
  have hno : ([k].find? (· < 0)) = none := by simp [hk]
  rw [Jvm.Op.multianewarray.make]
  simp only [wp_bind', W.ite, hn, if_false, wp_pure', W.theClass, hA, hkA, Option.some.injEq, exists_eq_left', hN]
  refine gm_alloc hA hkA h1 h2 rfl rfl (by omega) (by have := Nat.zero_le (N * K); omega) ?_
  simp only [hno]
  rw [ite_self, wp_bind', Std.Legacy.Range.forIn_eq_forIn_range']
  have hsz : ([:N] : Std.Legacy.Range).size = N := by simp [Std.Legacy.Range.size]
  rw [hsz]
  show wp (forIn (List.range' 0 N 1) PUnit.unit _) _ E e d acts _
  refine wp_forIn_inv (fun rest s' => ∃ i, i ≤ N ∧ rest = List.range' i (N - i) ∧ s' = gmS s cA cI N K i) _ _ ⟨0, Nat.zero_le _, rfl, rfl⟩ ?_ ?_
  · rintro x rest s' d' acts' Q' ⟨i, hi, hl, rfl⟩ hnext
    cases hr : N - i with
    | zero => rw [hr] at hl; cases hl
    | succ q =>
      rw [hr, List.range'_succ] at hl
      obtain ⟨rfl, rfl⟩ := List.cons.inj hl
      have hlt : x < N := by omega
      have g1 := gmS_size s cA cI N K x
      have g2 := gmS_vm s cA cI N K x
      have g3 := gmS_slots s cA cI N K x
      have hmul : x * K + K ≤ N * K := by
        have := Nat.mul_le_mul_right K (show x + 1 ≤ N from hlt)
        rw [Nat.succ_mul] at this
        exact this
      simp only [wp_bind']
      refine gm_row (by rw [g2]; exact hI) hkI hk (by rw [hK]; exact h3) (by rw [hK]; exact h4) (by omega) (by rw [hK]; omega) ?_
      rw [hK]
      have hlt9 : s.heap.size < (gmS s cA cI N K x).heap.size := by omega
      simp only [wp_bind', W.writeLoc, wp_pure']
      refine ⟨arrV cA N (gmF s.heap.size x), by rw [State.heap_pushCell_of_lt (h := hlt9)]; exact gmS_outer s cA cI N K x, (fun h => by cases h), by rw [arrV_size]; exact hlt, ?_, hnext _ _ _ ⟨x + 1, hlt, by rw [show N - (x + 1) = q by omega], ?_⟩⟩
      · simp [State.fitsSlot, State.slotType?, g2, hA, hkA, arrV, fits]
      · rw [g1]
        show ((gmS s cA cI N K x).pushCell _).setCell s.heap.size _ = ((gmS s cA cI N K x).pushCell _).setCell s.heap.size _
        rw [arrV_store, gmF_up]
  · rintro s' d' acts' ⟨i, hi, hl, rfl⟩
    cases hr : N - i with
    | zero =>
      rw [show i = N by omega]
      simp only [wp_pure']
      exact hq _ _
    | succ q => rw [hr, List.range'_succ] at hl; cases hl
end GW
def gmM (g : GE) (n N K : Nat) (M : CM) : CM := fun q => if q < n then M q else if q = n then aR g 4 N (fun i => n + 1 + i) (fun _ => 0) (fun _ => 0) else aI g K (fun _ => 0) (fun _ => 0)
section KM
variable {g : GE} {own : String} {cc : ByteArray} {nL : Nat} {R : Room} {ini : Bool} {Q : Nat → Nat → Nat → CM → Prop} {Z : ZK} {pc : Nat} {L : LO} {st : List Value} {kc ks n : Nat} {M : CM}
theorem k_ext (h : Rk g own cc nL R ini Q Z) {M' : CM} (hMM : ∀ q, q < n → M q = M' q) (k : Z pc L st kc ks n M') : Z pc L st kc ks n M := by
  obtain ⟨p, e, s, m, args, below, meth, c, QS, hx, hb, hml, hown, hts, hK, hAX, hin, hB, hfin, hZ⟩ := h
  rw [hZ]
  rw [hZ] at k
  intro H ls locs hM hS hL
  exact k H ls locs (Mc_ext hMM hM) hS hL
theorem k_eqM {Z : ZK} {M' : CM} (hMM : M = M') (k : Z pc L st kc ks n M') : Z pc L st kc ks n M := hMM ▸ k
theorem k_anewM (h : Rk g own cc nL R ini Q Z) {idx N : Nat} (hd : decode cc pc = .ok (.anewarray idx, 3)) (hcl : Cond.classLink own idx "RollingNets$Market" ∈ TBL) (hN : N < 2 ^ 26) (hkc : kc + 1 ≤ R.cells) (hks : ks + N ≤ R.slots) (k : Z (pc + 3) L (rf g n :: st) (kc + 1) (ks + N) (n + 1) (upC M n (.inl (gE g 3, N, .inr (.inr (.inr (.inr (fun _ => none)))))))) : Z pc L (.int (nI N) :: st) kc ks n M := by
  obtain ⟨p, e, s, m, args, below, meth, c, QS, hx, hb, hml, hown, hts, hK, hAX, hin, hB, hfin, hZ⟩ := h
  rw [hZ]
  rw [hZ] at k
  intro H ls locs hM hS hL
  obtain ⟨hz, hP⟩ := hM
  have hcl9 : (nI N).toNatClampNeg = N := nI_clamp (by omega)
  refine W.anew hx hb hown (hts _ hcl) (va_AO.use hAX.1) rfl hd rfl (nI_pos (by omega)) (by rw [hcl9]; omega) hkc (by rw [hcl9]; exact hks) fun cA kA comp f1 f2 f3 f4 => ?_
  rw [hcl9]
  have hcA : cA = gE g 3 := by
    obtain ⟨kA', comp', g1, g2, g3, g4⟩ := (hK.1.2 3 _ rfl).2
    exact Option.some.inj (f1.symm.trans g4)
  subst hcA
  generalize hH1 : H.push ({ cls := gE g 3, slots := Array.replicate N .null, vm := .none } : Cell) = H1
  have z1 : H1.size = H.size + 1 := by rw [← hH1, Array.size_push]
  have e1 : H1[H.size]? = some (arrV (gE g 3) N (fun _ => .null)) := by rw [← hH1, Array.getElem?_push_size, ← arrV_new]
  have o1 : ∀ q : Nat, q < H.size → H1[q]? = H[q]? := fun q hq => by rw [← hH1, Array.getElem?_push, if_neg (Nat.ne_of_lt hq)]
  have hk : ∀ (a : Nat) (x : Nat × va_E), (cellsC g n M)[a]? = some x → H1[x.1]? = H[x.1]? := fun a x hx => o1 x.1 ((hP a x hx).lt)
  have hst : rf g n = .ref H.size := by rw [hz]; rfl
  rw [hst] at k
  refine k H1 ls locs ⟨by rw [z1]; omega, ?_⟩ ⟨Nat.le_trans hS.1 (by omega), fun x h1 h2 => (o1 x (Nat.lt_of_lt_of_le h1 hS.1)).trans (hS.2.1 x h1 h2), hS.2.2⟩ hL
  rw [← cc_app]
  refine (hP.kept hk).app (fun a x hx => ?_)
  have hz1 : a < 1 := (List.getElem?_eq_some_iff.mp hx).1
  rw [show a = 0 by omega] at hx
  cases hx
  show H1[gB g + n]? = some (vp_cell _ _)
  rw [vp_cell_q, ← hz]
  exact e1
theorem k_aastM (h : Rk g own cc nL R ini Q Z) {a v N j : Nat} {f : Nat → Option Nat} {fs : List Value} (hd : decode cc pc = .ok (.aastore, 1)) (ha : a < n) (hfa : M a = .inl (gE g 3, N, .inr (.inr (.inr (.inr f))))) (hv : v < n) (hfv : M v = .inr (4, fs)) (hj : j < N) (hN : N < 2 ^ 31) (k : Z (pc + 1) L st kc ks n (upC M a (.inl (gE g 3, N, .inr (.inr (.inr (.inr (va_up f j (some (gB g + v))))))))) ) : Z pc L (rf g v :: .int (nI j) :: rf g a :: st) kc ks n M := by
  obtain ⟨p, e, s, m, args, below, meth, c, QS, hx, hb, hml, hown, hts, hK, hAX, hin, hB, hfin, hZ⟩ := h
  rw [hZ]
  rw [hZ] at k
  intro H ls locs hM hS hL
  obtain ⟨hz, hP⟩ := hM
  have he := cc_get (g := g) (M := M) ha
  rw [hfa] at he
  have hev := cc_get (g := g) (M := M) hv
  rw [hfv] at hev
  have hcl9 : (nI j).toNatClampNeg = j := nI_clamp (by omega)
  obtain ⟨r', hr', cellV, g1, g2, g3, -⟩ := hP v _ hev
  have hcls := (hK.1.1 4 _ rfl).2
  obtain ⟨kA, comp, k1, k2, k3, -⟩ := (hK.1.2 3 _ rfl).2
  have hcomp : comp = (gD g).1 4 := Option.some.inj (k3.symm.trans hcls.1)
  subst hcomp
  obtain ⟨kC, hkC, -⟩ := hcls.2
  have hc0 : H[gB g + a]? = some (vp_cell (gE g 3) (N, .inr (.inr (.inr (.inr f))))) := hP a _ he
  refine W.aast hx hb hc0 (fun q h => by cases h) (fun h => by cases h) k1 k2 rfl hkC ⟨nI_pos (by omega), by show _ < (arrV _ _ _).slots.size; rw [arrV_size, hcl9]; exact hj⟩ g1 (fun q h => by rw [g3] at h; cases h) (by rw [g2]; exact hkC) (by rw [g2]; exact va_assign hcls) rfl rfl hd fun H1 e1 z oq => ?_
  rw [hcl9] at e1 ⊢
  have hP1 := hP.set cc_D he (e := .inl (gE g 3, N, .inr (.inr (.inr (.inr (va_up f j (some (gB g + v)))))))) (by
    show H1[gB g + a]? = some (vp_cell _ _)
    rw [e1, vp_cell_q, vp_cell_q, arrV_store]
    congr 2
    funext q
    by_cases hq : q = j
    · subst hq
      simp [updV, va_up, va_rf]
    · simp [updV, va_up, hq]) oq
  rw [cc_set ha] at hP1
  exact k H1 ls _ ⟨by rw [z]; exact hz, hP1⟩ (hS.put z oq (cc_D.2 a _ he)) hL
theorem k_acopyT (h : Rk g own cc nL R ini Q Z) {idx i a N : Nat} {f : Nat → Int32} {f2 : Nat → Int64} (hA : AC own idx) (hd : decode cc pc = .ok (.invokestatic idx, 3)) (hi : i < 3) (ha : a < n) (hfa : M a = aI g N f f2) (hN : 7 ≤ N) (hR : 1 ≤ R.frames ∧ (st.map fun v => v.category).sum + (nativeFrameWords "java/lang/System" "arraycopy" 5 + 11) ≤ R.locals)
    (k : Z (pc + 3) L st kc ks n (upC M a (aI g N (va_cpy (sV i) f 0 0 7) f2))) : Z pc L (.int (nI 7) :: .int (nI 0) :: rf g a :: .int (nI 0) :: rt g i :: st) kc ks n M := by
  obtain ⟨p, e, s, m, args, below, meth, c, QS, hx, hb, hml, hown, hts, hK, hAX, hin, hB, hfin, hZ⟩ := h
  rw [hZ]
  rw [hZ] at k
  intro H ls locs hM hS hL T hT X
  obtain ⟨hz, hP⟩ := hM
  have he := cc_get (g := g) (M := M) ha
  rw [hfa] at he
  obtain ⟨scr, hs1, hs2, hs3, hs4, -, hs5, hs7⟩ := (hK.2.1.1 i hi).2
  have hc0 : H[gt g i]? = some scr := by rw [hS.2.1 _ (Array.getElem?_eq_some_iff.mp hs1).1 hs7]; exact hs1
  have hc1 : H[gB g + a]? = some (vp_cell (gE g 0) (N, .inl f)) := hP a _ he
  obtain ⟨hs6, k0, hk0, cm0, hkk0⟩ := hs2
  obtain ⟨-, k1, hk1, cm1, hkk1⟩ := (hK.1.2 0 _ rfl).1 N (fun j => .int (f j))
  have t7 : (nI 7).toInt = 7 := by decide
  have t0 : (nI 0).toInt = 0 := by decide
  have c7 : (nI 7).toNatClampNeg = 7 := by decide
  have c0 : (nI 0).toNatClampNeg = 0 := by decide
  obtain ⟨vm', X', step⟩ := X.arraycopy hx hown (hts _ hA.1) (hts _ hA.2.1) (hts _ hA.2.2.1) (hts _ hA.2.2.2) (src := gt g i) (dst := gB g + a) (cs := scr) (cd := vp_cell (gE g 0) (N, .inl f)) (srcPos := nI 0) (destPos := nI 0) (n := nI 7) (by rw [hT]; exact hc0) (by rw [hT]; exact hc1)
    hs6 (fun _ h => by cases h) hs3 (fun h => by cases h) hk0 hk1 hkk0 hkk1 (by simp [refKind]) (by decide) (by decide) (by decide)
    (by rw [t7, t0]; omega)
    (by rw [t7, t0]; show ¬ _ > ((arrV (gE g 0) N (fun j => .int (f j))).slots.size : Int); rw [arrV_size]; omega)
    (fun vm₁ _ j hj => by
      rw [c7] at hj
      rw [c0]
      have e : scr.slots.getD (0 + j) .null = .int (sV i (0 + j)) := by
        rw [Array.getD_eq_getD_getElem?, hs5 _ (by omega)]
        rfl
      refine ⟨?_, ?_⟩
      · rw [e]
        rfl
      · rw [e]
        exact trivial)
    (g := F0 m pc ls (.int (nI 7) :: .int (nI 0) :: rf g a :: .int (nI 0) :: rt g i :: st)) rfl (by rw [hml]; exact hL.1) (rest := st) rfl (by rw [hb]; exact hd) hR.1 (by show 2 * 0 + _ + _ ≤ _; have := hR.2; omega)
  have e1 : copied scr (vp_cell (gE g 0) (N, .inl f)) (nI 0) (nI 0) (nI 7) = vp_cell (gE g 0) (N, .inl (va_cpy (sV i) f (nI 0).toNatClampNeg (nI 0).toNatClampNeg (nI 7).toNatClampNeg)) := va_copiedX (fun z => .int z) scr (gE g 0) (sV i) f hs5 (by rw [c0, c7]; omega)
  rw [e1, c0, c7] at X' step
  have hl : gB g + a < H.size := (Array.getElem?_eq_some_iff.mp hc1).1
  generalize hcell : vp_cell (gE g 0) (N, .inl (va_cpy (sV i) f 0 0 7)) = cell at X' step
  have hheap : ((T.setVm vm').setCell (gB g + a) cell).heap = H.setIfInBounds (gB g + a) cell := by rw [← hT]; rfl
  have oq : ∀ q : Nat, q ≠ gB g + a → (H.setIfInBounds (gB g + a) cell)[q]? = H[q]? := fun q hq => by simp [Array.getElem?_setIfInBounds, Ne.symm hq]
  have hP1 := hP.set cc_D he (e := aI g N (va_cpy (sV i) f 0 0 7) f2) (show (H.setIfInBounds (gB g + a) cell)[gB g + a]? = some (vp_cell (gE g 0) (N, .inl (va_cpy (sV i) f 0 0 7))) by rw [hcell]; simp [Array.getElem?_setIfInBounds, hl]) oq
  rw [cc_set ha] at hP1
  obtain ⟨t, a1, b1⟩ := k _ ls _ ⟨by rw [Array.size_setIfInBounds]; exact hz, hP1⟩ ⟨by rw [Array.size_setIfInBounds]; exact hS.1, fun q g1 g2 => by
      rw [oq q (fun e => g2 (by rw [e]; exact cc_D.2 a _ he))]
      exact hS.2.1 q g1 g2, fun q hq => by
      rcases List.mem_append.mp hq with h | h
      · exact hS.2.2 q h
      · obtain ⟨z, -, hz⟩ := List.mem_map.mp h
        rw [← hz]
        exact cc_D.2 a _ he⟩ hL _ hheap X'
  exact ⟨t, step t a1, b1⟩
theorem k_mna (h : Rk g own cc nL R ini Q Z) {idx N K : Nat} (hd : decode cc pc = .ok (.multianewarray idx 2, 4)) (hcl : Cond.classLink own idx "[[I" ∈ TBL) (hN : N < 2 ^ 20) (hK0 : K < 2 ^ 20) (hkc : kc + (1 + N) ≤ R.cells) (hks : ks + (N + N * K) ≤ R.slots)
    (k : Z (pc + 4) L (rf g n :: st) (kc + 1 + N) (ks + N + N * K) (n + 1 + N) (gmM g n N K M)) : Z pc L (.int (nI K) :: .int (nI N) :: st) kc ks n M := by
  obtain ⟨p, e, s, m, args, below, meth, c, QS, hx, hb, hml, hown, hts, hK, hAX, hin, hB, hfin, hZ⟩ := h
  rw [hZ]
  rw [hZ] at k
  intro H ls locs hM hS hL T hT X
  obtain ⟨hz, hP⟩ := hM
  have hn9 : (nI N).toNatClampNeg = N := nI_clamp (by omega)
  have hk9 : (nI K).toNatClampNeg = K := nI_clamp (by omega)
  have hpl : e.platform.magicAccessors = ({} : Platform).magicAccessors := by rw [X.admits.platform]
  obtain ⟨kA, hkA, hkindA⟩ := hAX.2
  have hfI : s.vm.findClass ("[" ++ (FieldType.array .int).toString) = some (gE g 4) := (hK.1.2 4 _ rfl).2
  rw [show "[" ++ (FieldType.array .int).toString = "[[I" by decide +kernel] at hfI
  obtain ⟨-, kI, hkI, cI, hkindI⟩ := (hK.1.2 0 _ rfl).1 0 (fun _ => .int 0)
  obtain ⟨c0, hfc0, hcl0⟩ := Cond.classLink_spec hown (hts _ hcl) e.platform hpl
  have ec : c0 = gE g 4 := Option.some.inj (hfc0.symm.trans hfI)
  subst ec
  obtain ⟨hg₁, hwarm₁, hready₁⟩ := State.classEntry (e := e) X.warmed hcl0
  generalize T.vm.noted m.cls idx (.cls (gE g 4)) = vm₁ at hg₁ hwarm₁ hready₁
  have hal := hwarm₁.alike
  obtain ⟨kA₁, hkA₁, heA⟩ := hal.2.2 _ _ hkA
  obtain ⟨kI₁, hkI₁, heI⟩ := hal.2.2 _ _ hkI
  have hkindA₁ : kA₁.kind = .array (gE g 0) (.array .int) := by rw [heA]; exact hkindA
  have hkindI₁ : kI₁.kind = .array cI .int := by rw [heI]; exact hkindI
  have X₁ := X.noted hwarm₁
  obtain ⟨hr1, hr2⟩ := X.roomAbove hkc hks
  have hth : (T.setVm vm₁).heap = H := hT
  have XF := gmS_stand X₁ (gE g 4) (gE g 0) N K N
  have f1 := gmS_size (T.setVm vm₁) (gE g 4) (gE g 0) N K N
  have f2 := gmS_outer (T.setVm vm₁) (gE g 4) (gE g 0) N K N
  have f3 := fun a ha => gmS_old (T.setVm vm₁) (gE g 4) (gE g 0) N K (a := a) ha N
  have f4 := gmS_row (T.setVm vm₁) (gE g 4) (gE g 0) N K N
  generalize hF : gmS (T.setVm vm₁) (gE g 4) (gE g 0) N K N = F at XF f1 f2 f3 f4
  rw [hth] at XF f1 f2 f3 f4
  have hst : rf g n = .ref H.size := by rw [hz]; rfl
  have hPF : va_P (gD g) CLS (cellsC g (n + 1 + N) (gmM g n N K M)) F.heap := by
    intro q x hq
    obtain ⟨hq1, rfl⟩ := cc_inv hq
    unfold gmM
    by_cases h1 : q < n
    · rw [if_pos h1]
      exact (hP q _ (cc_get h1)).kept (f3 _ (by rw [hz]; show gB g + q < _; omega))
    · rw [if_neg h1]
      by_cases h2 : q = n
      · rw [if_pos h2, h2]
        show F.heap[gB g + n]? = some (vp_cell _ _)
        rw [vp_cell_q, ← hz, f2]
        congr 2
        funext j
        unfold gmF
        by_cases hj : j < N
        · rw [if_pos hj, if_pos hj]
          have e9 : gB g + (n + 1 + j) = H.size + 1 + j := by omega
          show Value.ref (H.size + 1 + j) = Value.ref (gB g + (n + 1 + j))
          rw [e9]
        · rw [if_neg hj, if_neg hj]
          rfl
      · rw [if_neg h2]
        show F.heap[gB g + q]? = some (vp_cell _ _)
        rw [vp_cell_i, show gB g + q = H.size + 1 + (q - n - 1) by omega]
        exact f4 _ (by omega)
  obtain ⟨t, a1, b1⟩ := k F.heap ls (locs ++ gmL H.size N) ⟨by rw [f1]; omega, hPF⟩ ⟨by rw [f1]; have := hS.1; omega, fun q g1 g2 => by
      rw [f3 q (Nat.lt_of_lt_of_le g1 hS.1)]
      exact hS.2.1 q g1 g2, fun q hq => by
      rcases List.mem_append.mp hq with h | h
      · exact hS.2.2 q h
      · obtain ⟨z, -, hz1⟩ := List.mem_map.mp h
        rw [← hz1]
        show gB g ≤ H.size
        omega⟩ hL F rfl XF
  refine ⟨t, ?_, b1⟩
  have hl1 : ¬ N > e.platform.arrayLengthLimit := by rw [Launch.admits_arrayLengthLimit X.admits]; omega
  have hh1 : ¬ N * 4 > e.platform.maxHeapBytes := by rw [Launch.admits_maxHeapBytes X.admits]; omega
  have hl2 : ¬ K > e.platform.arrayLengthLimit := by rw [Launch.admits_arrayLengthLimit X.admits]; omega
  have hh2 : ¬ K * 4 > e.platform.maxHeapBytes := by rw [Launch.admits_maxHeapBytes X.admits]; omega
  have hdg : decode c.code pc = .ok (.multianewarray idx 2, 4) := by rw [hb]; exact hd
  jvm_step X.here [hx, hdg]
  have hmm : (T.setTop (F0 m pc ls (.int (nI K) :: .int (nI N) :: st))).method? = some m := State.method?_setTop (F0 m pc ls (.int (nI K) :: .int (nI N) :: st)) X.here.top
  simp only [Jvm.Op.multianewarray.sem, wp_bind', W.resolveClassAt_links (index := idx) (c := gE g 4) (vm' := vm₁) hmm hg₁]
  rw [W.popN, if_neg (by decide)]
  refine ⟨F0 m pc ls (.int (nI K) :: .int (nI N) :: st), State.topJava?_setTop' (s := T.setVm vm₁) _ X.here.top, [.int (nI N), .int (nI K)], st, rfl, rfl, ?_⟩
  simp only [List.mapM_cons, List.mapM_nil, wp_bind', wp_pure']
  have hTs : (T.setVm vm₁).slotsUsed = T.slotsUsed := rfl
  refine gm_make (kA := kA₁) (kI := kI₁) (cI := gE g 0) (cc := cI) hkA₁ hkindA₁ hkI₁ hkindI₁ (nI_pos (by omega)) (nI_pos (by omega)) (by rw [hn9]; exact hl1) (by rw [hn9]; exact hh1) (by rw [hk9]; exact hl2) (by rw [hk9]; exact hh2) (by rw [hn9]; show T.heap.size + 1 + _ ≤ _; omega) (by rw [hn9, hk9]; show T.slotsUsed + _ + _ ≤ _; omega) (fun d' acts' => ?_)
  rw [hn9, hk9]
  have eS : ((T.setTop (F0 m pc ls (.int (nI K) :: .int (nI N) :: st))).setVm vm₁).setTop { F0 m pc ls (.int (nI K) :: .int (nI N) :: st) with stack := st } = (T.setVm vm₁).setTop (F0 m pc ls st) := by
    show ((T.setVm vm₁).setTop _).setTop _ = _
    rw [State.setTop_setTop]
  rw [eS, gmS_top, hF]
  simp only [wp_bind', W.mark, W.pushRef, State.topJava?_setTop' _ XF.here.top, Option.some.injEq, exists_eq_left', State.setTop_setTop, State.heap_setTop]
  intro acts
  simp [jvm, XF.here.top]
  rw [hst, ← hT] at a1
  exact a1
end KM
