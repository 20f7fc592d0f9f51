/-! CONSTRUCTORS: the first n names, told cell by cell -/
abbrev CM : Type := Nat → va_E
def cellsC (g : GE) (n : Nat) (M : CM) : va_W := (List.range n).map (fun k => (gB g + k, M k))
def upC (M : CM) (k : Nat) (e : va_E) : CM := fun a => if a = k then e else M a
section CC
variable {g : GE} {n k a : Nat} {M : CM} {e : va_E}
theorem upC_s : upC M k e k = e := if_pos rfl
theorem upC_n (h : a ≠ k) : upC M k e a = M a := if_neg h
theorem cc_len : (cellsC g n M).length = n := by unfold cellsC; rw [List.length_map, List.length_range]
theorem cc_get (hk : k < n) : (cellsC g n M)[k]? = some (gB g + k, M k) := by
  unfold cellsC
  rw [List.getElem?_map, List.getElem?_range hk]
  rfl
theorem cc_inv {q : Nat × va_E} (h : (cellsC g n M)[k]? = some q) : k < n ∧ q = (gB g + k, M k) := by
  have hl := (List.getElem?_eq_some_iff.mp h).1
  rw [cc_len] at hl
  rw [cc_get hl] at h
  exact ⟨hl, (Option.some.inj h).symm⟩
theorem cc_set (hk : k < n) : (cellsC g n M).set k (gB g + k, e) = cellsC g n (upC M k e) := by
  apply List.ext_getElem?
  intro a
  by_cases ha : a < n
  · rw [cc_get ha]
    by_cases h : a = k
    · subst h
      rw [List.getElem?_set_self (by rw [cc_len]; exact ha), upC_s]
    · rw [List.getElem?_set_ne (Ne.symm h), cc_get ha, upC_n h]
  · rw [List.getElem?_eq_none_iff.mpr (by rw [List.length_set, cc_len]; omega), List.getElem?_eq_none_iff.mpr (by rw [cc_len]; omega)]
theorem cc_app : cellsC g n M ++ [(gB g + n, e)] = cellsC g (n + 1) (upC M n e) := by
  apply List.ext_getElem?
  intro a
  by_cases ha : a < n
  · rw [List.getElem?_append_left (by rw [cc_len]; exact ha), cc_get ha, cc_get (by omega), upC_n (by omega)]
  · rw [List.getElem?_append_right (by rw [cc_len]; omega), cc_len]
    by_cases h : a = n
    · subst h
      rw [cc_get (by omega), upC_s, Nat.sub_self]
      rfl
    · rw [List.getElem?_eq_none_iff.mpr (by simp; omega), List.getElem?_eq_none_iff.mpr (by rw [cc_len]; omega)]
theorem cc_D : va_D (gA g) (cellsC g n M) := by
  refine ⟨fun i j p q hp hq h => ?_, fun k q hq => ?_⟩
  · obtain ⟨-, rfl⟩ := cc_inv hp
    obtain ⟨-, rfl⟩ := cc_inv hq
    have h1 : gB g + i = gB g + j := h
    omega
  · obtain ⟨-, rfl⟩ := cc_inv hq
    show gB g ≤ gB g + k
    omega
end CC
def Mc (g : GE) (n : Nat) (M : CM) (H : Heap) : Prop := H.size = gB g + n ∧ va_P (gD g) CLS (cellsC g n M) H
def AX (g : GE) (U : State) : Prop := va_AO "RollingNets$Market" U ∧ ∃ k : Class, U.vm.classes[gE g 4]? = some k ∧ k.kind = .array (gE g 0) (.array .int)
theorem AX.moved {g : GE} {u U : State} (hvm : u.vm.Alike U.vm) (h : AX g u) : AX g U := by
  obtain ⟨h1, k, h2, h3⟩ := h
  obtain ⟨k', hk', he⟩ := hvm.2.2 _ _ h2
  exact ⟨h1.moved hvm, k', hk', by rw [he]; exact h3⟩
/-- room of a constructor: d frames, kc cells, ks slots -/
def rmk (d kc ks : Nat) : Room := { frames := d, cells := kc, slots := ks, locals := 40 * d }
/-- A CONSTRUCTOR'S CONTRACT -/
def ConC (g : GE) (y : MethodName) (b : ByteArray) (nL d kc ks : Nat) (as : List Value) (n0 : Nat) (M0 : CM) (Q : Nat → CM → Prop) : Prop :=
  Met (gL g) y (.code y b nL none :: TBL) (rmk d kc ks) (va_Pc as (fun U => Mc g n0 M0 U.heap ∧ Kn g U ∧ AX g U)) (fun _ st oc t => oc = .returned none ∧ ∃ n1 M1, Q n1 M1 ∧ Mc g n1 M1 t.heap ∧ va_F (gA g) st t) kc ks (gA g)
/-- A WALK inside a constructor: pc, locals, stack, cells and slots made so far, the memory -/
abbrev ZK : Type := Nat → LO → List Value → Nat → Nat → Nat → CM → Prop
def Rk (g : GE) (own : String) (cc : ByteArray) (nL : Nat) (R : Room) (ini : Bool) (Q : Nat → Nat → Nat → CM → Prop) (Z : ZK) : Prop :=
  ∃ (p : Program) (e : Env) (s : State) (m : MethodId) (args : Array Value) (below : List Frame) (meth : Method) (c : Code) (QS : State → Prop),
    p.tables.exec = Jvm.exec ∧ c.code = cc ∧ c.maxLocals = nL ∧ s.vm.findClass own = some m.cls ∧ (∀ w ∈ TBL, w.before args s = true) ∧ (va_K (gD g) CLS (tysL (gE g)) s ∧ Sx g s s.heap ∧ Nst g s) ∧ AX g s ∧ (ini = true → meth.name = "<init>") ∧ gB g ≤ s.heap.size ∧
    (∀ (pc : Nat) (ls : Array Slot) (kc ks n : Nat) (M : CM) (H : Heap) (locs : List Loc), decode cc pc = .ok (.return_, 1) → Q kc ks n M → Mc g n M H → va_S (gA g) s.heap H locs → W p (gL g) e R s m args below meth c H locs kc ks QS (F0 m pc ls [])) ∧
    ∀ pc L st kc ks n M, Z pc L st kc ks n M ↔ ∀ (H : Heap) (ls : Array Slot) (locs : List Loc), Mc g n M H → va_S (gA g) s.heap H locs → lvL ls nL L → W p (gL g) e R s m args below meth c H locs kc ks QS (F0 m pc ls st)
section KR
variable {g : GE} {own : String} {cc : ByteArray} {nL : Nat} {R : Room} {ini : Bool} {Q : Nat → Nat → Nat → CM → Prop} {Z : ZK} {pc : Nat} {L : LO} {st : List Value} {kc ks n : Nat} {M : CM}
theorem k_iconst (h : Rk g own cc nL R ini Q Z) {i : Int} {v : Int32} (hd : decode cc pc = .ok (.iconst i, 1)) (hv : Int32.ofInt i = v) (k : Z (pc + 1) L (.int v :: st) kc ks n M) : Z pc L st kc ks n M := by
  obtain ⟨p, e, s, m, args, below, meth, c, QS, hx, hb, hml, hown, hts, hK, hAX, hin, hB, hfin, hZ⟩ := h
  rw [hZ]
  rw [hZ] at k
  intro H ls locs hM hS hL
  exact lv_iconst hx hb hd hv (k H ls locs hM hS hL)
theorem k_bipush (h : Rk g own cc nL R ini Q Z) {i : Int} {v : Int32} (hd : decode cc pc = .ok (.bipush i, 2)) (hv : (Int8.ofInt i).toInt32 = v) (k : Z (pc + 2) L (.int v :: st) kc ks n M) : Z pc L st kc ks n M := by
  obtain ⟨p, e, s, m, args, below, meth, c, QS, hx, hb, hml, hown, hts, hK, hAX, hin, hB, hfin, hZ⟩ := h
  rw [hZ]
  rw [hZ] at k
  intro H ls locs hM hS hL
  exact lv_bipush hx hb hd hv (k H ls locs hM hS hL)
theorem k_sipush (h : Rk g own cc nL R ini Q Z) {i : Int} {v : Int32} (hd : decode cc pc = .ok (.sipush i, 3)) (hv : (Int16.ofInt i).toInt32 = v) (k : Z (pc + 3) L (.int v :: st) kc ks n M) : Z pc L st kc ks n M := by
  obtain ⟨p, e, s, m, args, below, meth, c, QS, hx, hb, hml, hown, hts, hK, hAX, hin, hB, hfin, hZ⟩ := h
  rw [hZ]
  rw [hZ] at k
  intro H ls locs hM hS hL
  exact lv_sipush hx hb hd hv (k H ls locs hM hS hL)
theorem k_lconst (h : Rk g own cc nL R ini Q Z) {i : Fin 2} {v : Int64} (hd : decode cc pc = .ok (.lconst i, 1)) (hv : Int64.ofNat (i : Nat) = v) (k : Z (pc + 1) L (.long v :: st) kc ks n M) : Z pc L st kc ks n M := by
  obtain ⟨p, e, s, m, args, below, meth, c, QS, hx, hb, hml, hown, hts, hK, hAX, hin, hB, hfin, hZ⟩ := h
  rw [hZ]
  rw [hZ] at k
  intro H ls locs hM hS hL
  exact lv_lconst hx hb hd hv (k H ls locs hM hS hL)
theorem k_iloadn (h : Rk g own cc nL R ini Q Z) {i : Fin 4} {x : Int32} (hd : decode cc pc = .ok (.iload_n i, 1)) (hl : L[(i : Nat)]? = some (some (.int x))) (k : Z (pc + 1) L (.int x :: st) kc ks n M) : Z pc L st kc ks n M := by
  obtain ⟨p, e, s, m, args, below, meth, c, QS, hx, hb, hml, hown, hts, hK, hAX, hin, hB, hfin, hZ⟩ := h
  rw [hZ]
  rw [hZ] at k
  intro H ls locs hM hS hL
  exact lv_iload_n hx hb hd rfl (hL.2.2 _ _ hl) (k H ls locs hM hS hL)
theorem k_aloadn (h : Rk g own cc nL R ini Q Z) {i : Fin 4} {x : Nat} (hd : decode cc pc = .ok (.aload_n i, 1)) (hl : L[(i : Nat)]? = some (some (rf g x))) (k : Z (pc + 1) L (rf g x :: st) kc ks n M) : Z pc L st kc ks n M := by
  obtain ⟨p, e, s, m, args, below, meth, c, QS, hx, hb, hml, hown, hts, hK, hAX, hin, hB, hfin, hZ⟩ := h
  rw [hZ]
  rw [hZ] at k
  intro H ls locs hM hS hL
  exact lv_aload_n hx hb hd rfl (hL.2.2 _ _ hl) (k H ls locs hM hS hL)
theorem k_istoren (h : Rk g own cc nL R ini Q Z) {i : Fin 4} {x : Int32} {L' : LO} (hd : decode cc pc = .ok (.istore_n i, 1)) (hn : ((i : Nat) < nL)) (hs : st1 L i (.int x) = L') (k : Z (pc + 1) L' st kc ks n M) : Z pc L (.int x :: st) kc ks n M := by
  obtain ⟨p, e, s, m, args, below, meth, c, QS, hx, hb, hml, hown, hts, hK, hAX, hin, hB, hfin, hZ⟩ := h
  rw [hZ]
  rw [hZ] at k
  intro H ls locs hM hS hL
  subst hs
  exact lv_istore_n hx hb hd rfl (lvL_has hL) hn rfl (fun ls' h' => k H ls' locs hM hS (lvL_st1 (ls := ls) h'))
theorem k_dup (h : Rk g own cc nL R ini Q Z) {v : Value} (hd : decode cc pc = .ok (.dup, 1)) (hc : v.category = 1) (k : Z (pc + 1) L (v :: v :: st) kc ks n M) : Z pc L (v :: st) kc ks n M := by
  obtain ⟨p, e, s, m, args, below, meth, c, QS, hx, hb, hml, hown, hts, hK, hAX, hin, hB, hfin, hZ⟩ := h
  rw [hZ]
  rw [hZ] at k
  intro H ls locs hM hS hL
  exact lv_dup hx hb hd hc (k H ls locs hM hS hL)
theorem k_goto (h : Rk g own cc nL R ini Q Z) {off : Int} {tgt : Nat} (hd : decode cc pc = .ok (.goto off, 3)) (ht : (pc : Int) + off = (tgt : Int)) (k : Z tgt L st kc ks n M) : Z pc L st kc ks n M := by
  obtain ⟨p, e, s, m, args, below, meth, c, QS, hx, hb, hml, hown, hts, hK, hAX, hin, hB, hfin, hZ⟩ := h
  rw [hZ]
  rw [hZ] at k
  intro H ls locs hM hS hL
  exact lv_goto hx hb hd ht (k H ls locs hM hS hL)
theorem k_vret (h : Rk g own cc nL R ini Q Z) (hd : decode cc pc = .ok (.return_, 1)) (hq : Q kc ks n M) : Z pc L [] kc ks n M := by
  obtain ⟨p, e, s, m, args, below, meth, c, QS, hx, hb, hml, hown, hts, hK, hAX, hin, hB, hfin, hZ⟩ := h
  rw [hZ]
  intro H ls locs hM hS hL
  exact hfin pc ls kc ks n M H locs hd hq hM hS
theorem k_new (h : Rk g own cc nL R ini Q Z) {idx ci N : Nat} {C : String} {T : u_T} {ty : Nat → FieldType} {fs : List Value} (hc : CK ci C T N ty) (hd : decode cc pc = .ok (.new idx, 3)) (hcl : Cond.classLink own idx C ∈ TBL) (hinst : Cond.instantiable C N ∈ TBL) (hini : Cond.initialized C ∈ TBL) (hfs : ∀ j, j < N → defaultValue (ty j) = vp_V fs j) (hkc : kc + 1 ≤ R.cells) (hks : ks + N ≤ R.slots) (k : Z (pc + 3) L (rf g n :: st) (kc + 1) (ks + N) (n + 1) (upC M n (.inr (ci, fs)))) : Z pc L st kc ks n M := by
  obtain ⟨p, e, s, m, args, below, meth, c, QS, hx, hb, hml, hown, hts, hK, hAX, hin, hB, hfin, hZ⟩ := h
  rw [hZ]
  rw [hZ] at k
  intro H ls locs hM hS hL
  obtain ⟨hz, hP⟩ := hM
  have hKn := hK.1.1 ci _ hc.1
  refine W.newcK hx hb hown (hts _ hcl) (hts _ hinst) (hts _ hini) rfl hd hkc hks hKn.2.1 hz fun H1 kC hkC e1 z1 o1 => ?_
  have hk : ∀ (a : Nat) (x : Nat × va_E), (cellsC g n M)[a]? = some x → H1[x.1]? = H[x.1]? := fun a x hx => o1 x.1 (by rw [← hz]; exact (hP a x hx).lt)
  refine k H1 ls locs ⟨by rw [z1]; omega, ?_⟩ ⟨Nat.le_trans hS.1 (by omega), fun x h1 h2 => (o1 x (Nat.lt_of_lt_of_le h1 (by rw [← hz]; exact hS.1))).trans (hS.2.1 x h1 h2), hS.2.2⟩ hL
  rw [← cc_app]
  refine (hP.kept hk).app (fun a x hx => ?_)
  have hz1 : a < 1 := (List.getElem?_eq_some_iff.mp hx).1
  rw [show a = 0 by omega] at hx
  cases hx
  exact ⟨_, hc.1, (u_born ty hts hc.2.1 hKn hkC e1 hc.2.2.1).to hfs⟩
theorem k_objInit (h : Rk g own cc nL R ini Q Z) {idx : Nat} {x : Nat} (hd : decode cc pc = .ok (.invokespecial idx, 3)) (hl : Cond.methodLink own idx objectInit ∈ TBL) (hi : Cond.instanceMethod objectInit ∈ TBL) (hcd : Cond.code objectInit ⟨#[0xb1]⟩ 1 none ∈ TBL) (hR : 1 ≤ R.frames ∧ 40 ≤ R.locals) (hw : (st.map fun v => v.category).sum ≤ 8) (k : Z (pc + 3) L st kc ks n M) : Z pc L (rf g x :: st) kc ks n M := by
  obtain ⟨p, e, s, m, args, below, meth, c, QS, hx, hb, hml, hown, hts, hK, hAX, hin, hB, hfin, hZ⟩ := h
  rw [hZ]
  rw [hZ] at k
  intro H ls locs hM hS hL
  have hmr : (F0 m pc ls (rf g x :: st)).monitorRoom = 0 := rfl
  refine W.objInit hx hb hown (hts _ hl) (hts _ hi) (hts _ hcd) rfl (by rw [hml]; exact hL.1) rfl hd (by omega) (by omega) ?_
  exact k H ls locs hM hS hL
theorem k_put (h : Rk g own cc nL R ini Q Z) {idx ci N j a : Nat} {C : String} {T : u_T} {ty : Nat → FieldType} {fs : List Value} {v : Value} (hc : CK ci C T N ty) (hj : j < N) (hfi : (T j).2.2.2 = false) (hl : Cond.fieldLink own idx (T j).1 (T j).2.1 (T j).2.2.1 ∈ TBL) (hd : decode cc pc = .ok (.putfield idx, 3)) (ha : a < n) (hfs : M a = .inr (ci, fs)) (hv : narrow (ty j) v = v ∧ fits (ty j) v = true) (hj9 : j < fs.length) (k : Z (pc + 3) L st kc ks n (upC M a (.inr (ci, fs.set j v)))) : Z pc L (v :: rf g a :: st) kc ks n M := by
  obtain ⟨p, e, s, m, args, below, meth, c, QS, hx, hb, hml, hown, hts, hK, hAX, hin, hB, hfin, hZ⟩ := h
  rw [hZ]
  rw [hZ] at k
  intro H ls locs hM hS hL
  obtain ⟨hz, hP⟩ := hM
  have he := cc_get (g := g) (M := M) ha
  rw [hfs] at he
  have hap := va_apart (own := own) hts hc.2.1 ty hc.2.2.1 hc.2.2.2 hK.1 hc.1
  obtain ⟨r, h1, cell, q1, q2, q3, q4⟩ := hP a _ he
  have hr : r = (C, T, N) := Option.some.inj (h1.symm.trans hc.1)
  subst hr
  obtain ⟨hs1, hfc, kC, hkC, hkind⟩ := hK.1.1 ci _ hc.1
  obtain ⟨cf, kf, fi, f, hi, hsl⟩ := hs1 j hj
  have hlay := hts _ (hc.2.1 _ (u_in_lay hj))
  unfold u_lay at hlay
  rw [if_neg (by rw [hfi]; decide)] at hlay
  have hst := (u_facts hfc hkC (u_lays hts hc.2.1 hj) hi).1
  have h6 := u_store hfc hkC hkind hlay hi (hc.2.2.1 j hj) hv.1 hv.2
  refine W.putK hx hb (f := f) ⟨hown, hts _ hl, ⟨_, _, _, hi⟩, hst⟩ (by rw [q2]; exact h6) q1 q3 (by rw [hsl]; exact k2_hasslot (q4 j hj)) rfl rfl hd fun H1 e1 e2 e3 => ?_
  rw [hsl] at e1 ⊢
  have hP1 := hP.set cc_D he (e := .inr (ci, fs.set j v)) ⟨_, hc.1, t_OB.to (V := updV (vp_V fs) j v) ⟨_, e1, q2, q3, t_set q4 hap hj v⟩ (fun i _ => vp_updV_set hj9 v i)⟩ e3
  rw [cc_set ha] at hP1
  exact k H1 ls _ ⟨by rw [e2]; exact hz, hP1⟩ (hS.put e2 e3 (cc_D.2 a _ he)) hL
theorem k_putF (h : Rk g own cc nL R true Q Z) {idx ci N j a : Nat} {C : String} {T : u_T} {ty : Nat → FieldType} {fs : List Value} {v : Value} (hc : CK ci C T N ty) (hj : j < N) (hfi : (T j).2.2.2 = true) (hdc : (T j).1 = own) (hl : Cond.fieldLink own idx (T j).1 (T j).2.1 (T j).2.2.1 ∈ TBL) (hd : decode cc pc = .ok (.putfield idx, 3)) (ha : a < n) (hfs : M a = .inr (ci, fs)) (hv : narrow (ty j) v = v ∧ fits (ty j) v = true) (hj9 : j < fs.length) (k : Z (pc + 3) L st kc ks n (upC M a (.inr (ci, fs.set j v)))) : Z pc L (v :: rf g a :: st) kc ks n M := by
  obtain ⟨p, e, s, m, args, below, meth, c, QS, hx, hb, hml, hown, hts, hK, hAX, hin, hB, hfin, hZ⟩ := h
  rw [hZ]
  rw [hZ] at k
  intro H ls locs hM hS hL
  obtain ⟨hz, hP⟩ := hM
  have he := cc_get (g := g) (M := M) ha
  rw [hfs] at he
  have hap := va_apart (own := own) hts hc.2.1 ty hc.2.2.1 hc.2.2.2 hK.1 hc.1
  obtain ⟨r, h1, cell, q1, q2, q3, q4⟩ := hP a _ he
  have hr : r = (C, T, N) := Option.some.inj (h1.symm.trans hc.1)
  subst hr
  obtain ⟨hs1, hfc, kC, hkC, hkind⟩ := hK.1.1 ci _ hc.1
  obtain ⟨cf, kf, fi, f, hi, hsl⟩ := hs1 j hj
  have hlay := hts _ (hc.2.1 _ (u_in_lay hj))
  unfold u_lay at hlay
  rw [if_pos hfi] at hlay
  have hst := (u_facts hfc hkC (u_lays hts hc.2.1 hj) hi).1
  have hcf : m.cls = cf := by
    obtain ⟨_, _, c1, _, _, _, -, -, hf1, -, -, -, hown2, -⟩ := Cond.laysFinal_spec hlay
    have e1 : c1 = cf := by
      have := hi.symm.trans hf1
      simp at this
      exact this.1.symm
    rw [hdc] at hown2
    rw [← e1]
    exact Option.some.inj (hown.symm.trans hown2)
  have h6 := u_fits hfc hkC hkind (Or.inr hlay) hi (hc.2.2.1 j hj) hv.1 hv.2
  refine W.putFinK hx hb hown (hts _ hl) hi hst hcf (hin rfl) (by rw [q2]; exact h6) q1 q3 (by rw [hsl]; exact k2_hasslot (q4 j hj)) rfl rfl hd fun H1 e1 e2 e3 => ?_
  rw [hsl] at e1 ⊢
  have hP1 := hP.set cc_D he (e := .inr (ci, fs.set j v)) ⟨_, hc.1, t_OB.to (V := updV (vp_V fs) j v) ⟨_, e1, q2, q3, t_set q4 hap hj v⟩ (fun i _ => vp_updV_set hj9 v i)⟩ e3
  rw [cc_set ha] at hP1
  exact k H1 ls _ ⟨by rw [e2]; exact hz, hP1⟩ (hS.put e2 e3 (cc_D.2 a _ he)) hL
theorem k_iast (h : Rk g own cc nL R ini Q Z) {a N j : Nat} {x : Int32} {f : Nat → Int32} {f2 : Nat → Int64} (hd : decode cc pc = .ok (.iastore, 1)) (ha : a < n) (hfa : M a = aI g N f f2) (hj : j < N) (hN : N < 2 ^ 31) (k : Z (pc + 1) L st kc ks n (upC M a (aI g N (upd f j x) f2))) : Z pc L (.int x :: .int (nI j) :: rf g a :: st) kc ks n M := by
  obtain ⟨p, e, s, m, args, below, meth, c, QS, hx, hb, hml, hown, hts, hK, hAX, hin, hB, hfin, hZ⟩ := h
  rw [hZ]
  rw [hZ] at k
  intro H ls locs hM hS hL
  obtain ⟨hz, hP⟩ := hM
  have he := cc_get (g := g) (M := M) ha
  rw [hfa] at he
  have hc0 : H[gB g + a]? = some (vp_cell (gE g 0) (N, .inl f)) := hP a _ he
  refine W.iast hx hb hc0 ((hK.1.2 0 _ rfl).1 N (fun j => .int (f j))) (fun q => by cases q) (by show ¬ (nI j < 0 ∨ (arrV _ _ _).slots.size ≤ _); rw [arrV_size]; exact vp_in_nI hj hN) rfl rfl hd fun H1 e1 z oq => ?_
  have hP1 := hP.set cc_D he (e := aI g N (upd f j x) f2) (by
    show H1[gB g + a]? = some (vp_cell _ _)
    rw [e1, nI_clamp (Nat.lt_trans hj hN), vp_cell_i, vp_cell_i, arrV_store]
    congr 2
    funext q
    by_cases hq : q = j
    · subst hq
      simp [updV, upd]
    · simp [updV, upd, hq]) oq
  rw [cc_set ha] at hP1
  exact k H1 ls _ ⟨by rw [z]; exact hz, hP1⟩ (hS.put z oq (cc_D.2 a _ he)) hL
theorem k_newI (h : Rk g own cc nL R ini Q Z) {N : Nat} (hd : decode cc pc = .ok (.newarray .int, 2)) (hw : Cond.arrayClass .int ∈ TBL) (hN : N < 2 ^ 26) (hkc : kc + 1 ≤ R.cells) (hks : ks + N ≤ R.slots) (k : Z (pc + 2) L (rf g n :: st) (kc + 1) (ks + N) (n + 1) (upC M n (aI g N (fun _ => 0) (fun _ => 0)))) : Z pc L (.int (nI N) :: st) kc ks n M := by
  obtain ⟨p, e, s, m, args, below, meth, c, QS, hx, hb, hml, hown, hts, hK, hAX, hin, hB, hfin, hZ⟩ := h
  rw [hZ]
  rw [hZ] at k
  intro H ls locs hM hS hL
  obtain ⟨hz, hP⟩ := hM
  refine va_newaK (atype := .int) hx hb (hts _ hw) rfl hd rfl (fun q => (show vp_in (nI N) (N + 1) from vp_in_nI (by omega) (by omega)) (Or.inl q)) (nI_clamp (by omega)) (by show N * 4 ≤ _; omega) hkc hks hz fun H1 cA e1 z1 o1 hAr hNm => ?_
  have hcA : cA = gE g 0 := Option.some.inj (hNm.symm.trans (hK.1.2 0 _ rfl).2)
  subst hcA
  have hk : ∀ (a : Nat) (x : Nat × va_E), (cellsC g n M)[a]? = some x → H1[x.1]? = H[x.1]? := fun a x hx => o1 x.1 (by rw [← hz]; exact (hP a x hx).lt)
  refine k H1 ls locs ⟨by rw [z1]; omega, ?_⟩ ⟨Nat.le_trans hS.1 (by omega), fun x h1 h2 => (o1 x (Nat.lt_of_lt_of_le h1 (by rw [← hz]; exact hS.1))).trans (hS.2.1 x h1 h2), hS.2.2⟩ hL
  rw [← cc_app]
  refine (hP.kept hk).app (fun a x hx => ?_)
  have hz1 : a < 1 := (List.getElem?_eq_some_iff.mp hx).1
  rw [show a = 0 by omega] at hx
  cases hx
  exact e1
theorem k_newL (h : Rk g own cc nL R ini Q Z) {N : Nat} (hd : decode cc pc = .ok (.newarray .long, 2)) (hw : Cond.arrayClass .long ∈ TBL) (hN : N < 2 ^ 26) (hkc : kc + 1 ≤ R.cells) (hks : ks + N ≤ R.slots) (k : Z (pc + 2) L (rf g n :: st) (kc + 1) (ks + N) (n + 1) (upC M n (aL g N (fun _ => 0) (fun _ => 0)))) : Z pc L (.int (nI N) :: st) kc ks n M := by
  obtain ⟨p, e, s, m, args, below, meth, c, QS, hx, hb, hml, hown, hts, hK, hAX, hin, hB, hfin, hZ⟩ := h
  rw [hZ]
  rw [hZ] at k
  intro H ls locs hM hS hL
  obtain ⟨hz, hP⟩ := hM
  refine va_newaK (atype := .long) hx hb (hts _ hw) rfl hd rfl (fun q => (show vp_in (nI N) (N + 1) from vp_in_nI (by omega) (by omega)) (Or.inl q)) (nI_clamp (by omega)) (by show N * 8 ≤ _; omega) hkc hks hz fun H1 cA e1 z1 o1 hAr hNm => ?_
  have hcA : cA = gE g 1 := Option.some.inj (hNm.symm.trans (hK.1.2 1 _ rfl).2)
  subst hcA
  have hk : ∀ (a : Nat) (x : Nat × va_E), (cellsC g n M)[a]? = some x → H1[x.1]? = H[x.1]? := fun a x hx => o1 x.1 (by rw [← hz]; exact (hP a x hx).lt)
  refine k H1 ls locs ⟨by rw [z1]; omega, ?_⟩ ⟨Nat.le_trans hS.1 (by omega), fun x h1 h2 => (o1 x (Nat.lt_of_lt_of_le h1 (by rw [← hz]; exact hS.1))).trans (hS.2.1 x h1 h2), hS.2.2⟩ hL
  rw [← cc_app]
  refine (hP.kept hk).app (fun a x hx => ?_)
  have hz1 : a < 1 := (List.getElem?_eq_some_iff.mp hx).1
  rw [show a = 0 by omega] at hx
  cases hx
  exact e1
theorem k_newZ (h : Rk g own cc nL R ini Q Z) {N : Nat} (hd : decode cc pc = .ok (.newarray .boolean, 2)) (hw : Cond.arrayClass .boolean ∈ TBL) (hN : N < 2 ^ 26) (hkc : kc + 1 ≤ R.cells) (hks : ks + N ≤ R.slots) (k : Z (pc + 2) L (rf g n :: st) (kc + 1) (ks + N) (n + 1) (upC M n (aZ g N (fun _ => 0) (fun _ => 0)))) : Z pc L (.int (nI N) :: st) kc ks n M := by
  obtain ⟨p, e, s, m, args, below, meth, c, QS, hx, hb, hml, hown, hts, hK, hAX, hin, hB, hfin, hZ⟩ := h
  rw [hZ]
  rw [hZ] at k
  intro H ls locs hM hS hL
  obtain ⟨hz, hP⟩ := hM
  refine va_newaK (atype := .boolean) hx hb (hts _ hw) rfl hd rfl (fun q => (show vp_in (nI N) (N + 1) from vp_in_nI (by omega) (by omega)) (Or.inl q)) (nI_clamp (by omega)) (by show N * 1 ≤ _; omega) hkc hks hz fun H1 cA e1 z1 o1 hAr hNm => ?_
  have hcA : cA = gE g 2 := Option.some.inj (hNm.symm.trans (hK.1.2 2 _ rfl).2)
  subst hcA
  have hk : ∀ (a : Nat) (x : Nat × va_E), (cellsC g n M)[a]? = some x → H1[x.1]? = H[x.1]? := fun a x hx => o1 x.1 (by rw [← hz]; exact (hP a x hx).lt)
  refine k H1 ls locs ⟨by rw [z1]; omega, ?_⟩ ⟨Nat.le_trans hS.1 (by omega), fun x h1 h2 => (o1 x (Nat.lt_of_lt_of_le h1 (by rw [← hz]; exact hS.1))).trans (hS.2.1 x h1 h2), hS.2.2⟩ hL
  rw [← cc_app]
  refine (hP.kept hk).app (fun a x hx => ?_)
  have hz1 : a < 1 := (List.getElem?_eq_some_iff.mp hx).1
  rw [show a = 0 by omega] at hx
  cases hx
  exact e1
theorem k_getf (h : Rk g own cc nL R ini Q Z) {idx ci N j a : Nat} {C : String} {T : u_T} {ty : Nat → FieldType} {fs : List Value} {v : Value} (hc : CK ci C T N ty) (hj : j < N) (hl : Cond.fieldLink own idx (T j).1 (T j).2.1 (T j).2.2.1 ∈ TBL) (hd : decode cc pc = .ok (.getfield idx, 3)) (ha : a < n) (hfs : M a = .inr (ci, fs)) (hv : fs[j]? = some v) (k : Z (pc + 3) L (v :: st) kc ks n M) : Z pc L (rf g a :: st) kc ks n M := by
  obtain ⟨p, e, s, m, args, below, meth, c, QS, hx, hb, hml, hown, hts, hK, hAX, hin, hB, hfin, hZ⟩ := h
  rw [hZ]
  rw [hZ] at k
  intro H ls locs hM hS hL
  have he := cc_get (g := g) (M := M) ha
  rw [hfs] at he
  exact va_get hx hb hts hc.2.1 hown hK.1 hM.2 a he hc.1 j hj (hts _ hl) (fun _ h9 => h9) hv hd (k H ls locs hM hS hL)
theorem k_gets (h : Rk g own cc nL R ini Q Z) {idx i : Nat} (hd : decode cc pc = .ok (.getstatic idx, 3)) (hi : i < 3) (hl : Cond.fieldLink own idx "RollingNets" (sN i) "[I" ∈ TBL) (k : Z (pc + 3) L (rt g i :: st) kc ks n M) : Z pc L st kc ks n M := by
  obtain ⟨p, e, s, m, args, below, meth, c, QS, hx, hb, hml, hown, hts, hK, hAX, hin, hB, hfin, hZ⟩ := h
  rw [hZ]
  rw [hZ] at k
  intro H ls locs hM hS hL
  exact va_gets hx hb (hK.2.1.1 i hi).1 hS hown (hts _ hl) (fun _ h9 => h9) hd (k H ls locs hM hS hL)
theorem k_tlen (h : Rk g own cc nL R ini Q Z) {i : Nat} (hd : decode cc pc = .ok (.arraylength, 1)) (hi : i < 3) (k : Z (pc + 1) L (.int (nI 7) :: st) kc ks n M) : Z pc L (rt g i :: st) kc ks n M := by
  obtain ⟨p, e, s, m, args, below, meth, c, QS, hx, hb, hml, hown, hts, hK, hAX, hin, hB, hfin, hZ⟩ := h
  rw [hZ]
  rw [hZ] at k
  intro H ls locs hM hS hL
  exact va_tlen hx hb (hK.2.1.1 i hi).2 hS rfl hd (k H ls locs hM hS hL)
theorem k_alen (h : Rk g own cc nL R ini Q Z) {a N : Nat} {f : Nat → Int32} {f2 : Nat → Int64} (hd : decode cc pc = .ok (.arraylength, 1)) (ha : a < n) (hfa : M a = aI g N f f2) (k : Z (pc + 1) L (.int (nI N) :: st) kc ks n M) : Z pc L (rf g a :: st) kc ks n M := by
  obtain ⟨p, e, s, m, args, below, meth, c, QS, hx, hb, hml, hown, hts, hK, hAX, hin, hB, hfin, hZ⟩ := h
  rw [hZ]
  rw [hZ] at k
  intro H ls locs hM hS hL
  have he := cc_get (g := g) (M := M) ha
  rw [hfa] at he
  exact va_alen hx hb hK.1 hM.2 a 0 he rfl rfl hd (k H ls locs hM hS hL)
end KR
/-- a constructor's contract by a walk of its body -/
theorem kon_intro {g : GE} {own : String} {y : MethodName} {b : ByteArray} {nL d kc ks : Nat} {as : List Value} {n0 : Nat} {M0 : CM} {Q : Nat → CM → Prop} {L0 : LO}
    (hy : plainName y.cls = true) (hni : y.name = "<init>") (ho : y.cls = own) (hn : (lg_sl as).length ≤ nL) (hL0 : loI nL as = L0) (body : ∀ Z, Rk g own b nL (rmk d kc ks) true (fun kc1 ks1 n M => kc1 = kc ∧ ks1 = ks ∧ Q n M) Z → Z 0 L0 [] 0 0 n0 M0) : ConC g y b nL d kc ks as n0 M0 Q := by
  subst ho
  subst hL0
  refine Met.ofW (cc := b) (maxL := nL) (ret := none) hy rfl ?_
  intro p e s m args below meth c s₁ B hml hv
  obtain ⟨rfl, hM, hK, hAX⟩ := hv
  have hx := B.exec
  have hb := B.bytes
  have hr := B.returns
  have hts : ∀ w ∈ TBL, w.before as.toArray s = true := fun w hw => atoms_spec (ws := .code y b nL none :: TBL) B.pre w (List.mem_cons_of_mem _ hw)
  have hown : s.vm.findClass y.cls = some m.cls := findClass_of_methodNamed B.named
  have hlocks := B.notSynchronized
  have hin : meth.name = "<init>" := (name_of_methodNamed B.named B.method).1.trans hni
  have hl := lv_entry as (n := nL) hn
  rw [lg_entry_eq]
  refine (body (fun pc L st kc1 ks1 n M => ∀ (H : Heap) (ls : Array Slot) (locs : List Loc), Mc g n M H → va_S (gA g) s.heap H locs → lvL ls nL L → W p (gL g) e (rmk d kc ks) s m as.toArray below meth c H locs kc1 ks1 (MQ below (fun _ st oc t => oc = .returned none ∧ ∃ n1 M1, Q n1 M1 ∧ Mc g n1 M1 t.heap ∧ va_F (gA g) st t) as.toArray s kc ks (gA g)) (F0 m pc ls st))
    ⟨p, e, s, m, as.toArray, below, meth, c, _, hx, hb, hml, hown, hts, hK, hAX, (fun _ => hin), (by rw [hM.1]; omega), ?_, fun pc L st kc1 ks1 n M => Iff.rfl⟩) s.heap _ [] hM va_S.rf (loI_has hl)
  intro pc ls kc1 ks1 n M H locs hd hq hM1 hS
  obtain ⟨rfl, rfl, hq⟩ := hq
  exact W.vret hx hb hr (fun t ht hW => ⟨rfl, n, M, hq, by rw [ht]; exact hM1, hS.F ht⟩) hS.2.2 hd
section KR2
variable {g : GE} {own : String} {cc : ByteArray} {nL : Nat} {R : Room} {ini : Bool} {Q : Nat → Nat → Nat → CM → Prop} {Z : ZK} {pc : Nat} {L : LO} {st : List Value} {kc ks n : Nat} {M : CM}
theorem k_iinc (h : Rk g own cc nL R ini Q Z) {i : Nat} {q : Int} {x v : Int32} {L' : LO} (hd : decode cc pc = .ok (.iinc i q, 3)) (hn : i < nL) (hl : L[i]? = some (some (.int x))) (hv : x + Int32.ofInt q = v) (hs : st1 L i (.int v) = L') (k : Z (pc + 3) L' st kc ks n M) : Z pc L st kc ks n M := by
  obtain ⟨p, e, s, m, args, below, meth, c, QS, hx, hb, hml, hown, hts, hK, hAX, hin, hB, hfin, hZ⟩ := h
  rw [hZ]
  rw [hZ] at k
  intro H ls locs hM hS hL
  subst hs
  obtain ⟨j, hj⟩ := List.getElem?_of_mem (prs_in.mpr hl)
  exact lv_iinc hx hb hd (lvL_has hL) hj hv hn rfl (fun ls' h' => k H ls' locs hM hS (lvL_st1 (ls := ls) h'))
theorem k_icmp_ge (h : Rk g own cc nL R ini Q Z) {a b : Nat} {off : Int} {tgt : Nat} (ha : a < 2 ^ 31) (hb : b < 2 ^ 31) (hd : decode cc pc = .ok (.if_icmp .ge off, 3)) (ht : (pc : Int) + off = (tgt : Int)) (kt : b ≤ a → Z tgt L st kc ks n M) (kf : a < b → Z (pc + 3) L st kc ks n M) : Z pc L (.int (nI b) :: .int (nI a) :: st) kc ks n M := by
  obtain ⟨p, e, s, m, args, below, meth, c, QS, hx, hbb, hml, hown, hts, hK, hAX, hin, hB, hfin, hZ⟩ := h
  rw [hZ]
  intro H ls locs hM hS hL
  exact lv_icmp_ge hx hbb hd ht (fun q => (hZ _ _ _ _ _ _ _).mp (kt ((nI_leI hb ha).mp q)) H ls locs hM hS hL) (fun q => (hZ _ _ _ _ _ _ _).mp (kf (by have := mt (nI_leI hb ha).mpr q; omega)) H ls locs hM hS hL)
end KR2
section KC
variable {g : GE} {own : String} {cc : ByteArray} {nL : Nat} {R : Room} {ini : Bool} {Q : Nat → Nat → Nat → CM → Prop} {Z : ZK} {pc : Nat} {L : LO} {st : List Value} {kc ks n : Nat} {M : CM}
theorem k_blind {as : List Value} : FrameBlind (va_Pc as (fun U => Mc g n M U.heap ∧ Kn g U ∧ AX g U)) := fun a U fr mk q => by
  obtain ⟨q0, q1, ⟨q2, q3, q4⟩, q5⟩ := q
  exact ⟨q0, q1, ⟨va_K.moved (u := U) (U := U.calling fr mk a) (Vm.Alike.refl U.vm) q2, q3.moved (u := U) (U := U.calling fr mk a) (Vm.Alike.refl U.vm), q4.same (u := U) (U := U.calling fr mk a) rfl⟩, q5.moved (u := U) (U := U.calling fr mk a) (Vm.Alike.refl U.vm)⟩
theorem k_pre {s : State} {H : Heap} {locs : List Loc} {as : List Value} (hM : Mc g n M H) (hK : va_K (gD g) CLS (tysL (gE g)) s ∧ Sx g s s.heap ∧ Nst g s) (hAX : AX g s) (hS : va_S (gA g) s.heap H locs) : ∀ U : State, U.heap = H → s.WarmedH U.vm → va_Pc as (fun U => Mc g n M U.heap ∧ Kn g U ∧ AX g U) as.toArray U := fun U hU hW =>
  ⟨rfl, by rw [hU]; exact hM, ⟨hK.1.moved hW.alike, by rw [hU]; exact (hK.2.1.moved hW.alike).kept hS.2.1, hK.2.2.warm hW⟩, hAX.moved hW.alike⟩
theorem k_call (h : Rk g own cc nL R ini Q Z) {idx na nM d mc ms x : Nat} {y : MethodName} {b : ByteArray} {As stk : List Value} {Qf : Nat → CM → Prop}
    (hy : y.name = "<init>") (hml0 : ML own idx y b nM none na) (hi : Cond.instanceMethod y ∈ TBL) (hd : decode cc pc = .ok (.invokespecial idx, 3))
    (hc : ConC g y b nM d mc ms (rf g x :: As) n M Qf) (hR : d + 1 ≤ R.frames ∧ 8 + (nM + 11) + 40 * d ≤ R.locals) (hn : As.length = na) (hstk : stk = As.reverse ++ rf g x :: st) (hw : (st.map fun v => v.category).sum ≤ 8) (hkc : kc + mc ≤ R.cells ∧ ks + ms ≤ R.slots)
    (kk : ∀ n1 M1, Qf n1 M1 → Z (pc + 3) L st (kc + mc) (ks + ms) n1 M1) : Z pc L stk kc ks n M := by
  obtain ⟨p, e, s, m, args, below, meth, c, QS, hx, hb, hml, hown, hts, hK, hAX, hin, hB, hfin, hZ⟩ := h
  rw [hZ]
  intro H ls locs hM hS hL
  subst hstk
  obtain ⟨hl, hini, hcode, hdd⟩ := hml0
  have hG := TBL_code hcode
  have hfix : CallFix p m c cc nL s args TBL own := ⟨hx, hb, hml, hown, hts⟩
  have hgo : va_Run p (gL g) e R s m args below meth c H locs kc ks mc ms (F0 m pc ls (As.reverse ++ rf g x :: st)) st ((fun (_ : Array Value) (s1 : State) (oc : Outcome) (t : State) => oc = .returned none ∧ ∃ n1 M1, Qf n1 M1 ∧ Mc g n1 M1 t.heap ∧ va_F (gA g) s1 t) (rf g x :: As).toArray) (gA g) := by
    rcases hl with hl | ⟨host, hl⟩
    · have cw : CallB R s args own idx y b nM none (.code y b nM none :: TBL) (rmk d mc ms) mc ms na := callB_of na hts hG rfl rfl rfl (hts _ hini) (hts _ hl) hdd hR
      exact va_runI (b := gB g + x) hfix hc ⟨cw, hy, hts _ hi⟩ ⟨k_blind, k_pre (as := rf g x :: As) hM hK hAX hS⟩ rfl hn hL.1 rfl (lv_room hw) hd hkc
    · have cw := va_cnB (own := own) (host := host) (index := idx) (y := y) (ws := .code y b nM none :: TBL) (rm := rmk d mc ms) (R := R) na hts hG rfl rfl rfl (hK.2.2.1 _ hl) (hts _ hini) hdd hR
      exact va_runIN (b := gB g + x) hfix hc ⟨cw, hy, hts _ hi⟩ ⟨k_blind, k_pre (as := rf g x :: As) hM hK hAX hS⟩ rfl hn hL.1 rfl (lv_room hw) hd hkc
  intro T hT X
  obtain ⟨v, st₀, t, T', Lx, h0, X', hLx, e1, e2, ⟨hv, n1, M1, hq, hM1, hz, hk⟩, stp⟩ := hgo T hT X
  cases hv
  rw [h0] at hz hk
  obtain ⟨t2, a1, b1⟩ := (hZ _ _ _ _ _ _ _).mp (kk n1 M1 hq) T'.heap ls (locs ++ Lx) (by rw [e1]; exact hM1)
    ⟨Nat.le_trans hS.1 (by rw [e1]; exact hz), fun q h1 h2 => by rw [e1, hk q (Nat.lt_of_lt_of_le h1 hS.1) h2]; exact hS.2.1 q h1 h2, fun q hq => by
      rcases List.mem_append.mp hq with h | h
      · exact hS.2.2 q h
      · exact hLx q h⟩ hL T' rfl X'
  exact ⟨t2, stp t2 a1, b1⟩
end KC
