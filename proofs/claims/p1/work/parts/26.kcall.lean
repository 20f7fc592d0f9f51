section KC
variable {g : GE} {own : String} {cc : ByteArray} {nL : Nat} {R : Room} {Q : Nat → Nat → Nat → CM → Prop} {Z : ZK} {pc : Nat} {L : LO} {st : List Value} {kc ks n : Nat} {M : CM}
theorem k_blind {as : List Value} : FrameBlind (va_Pc as (fun U => Mc g n M U.heap ∧ Kn g U)) := fun a U fr mk q => by
  obtain ⟨q0, q1, q2, q3, q4⟩ := q
  exact ⟨q0, q1, va_K.moved (u := U) (U := U.calling fr mk a) (Vm.Alike.refl U.vm) q2, q3.moved (u := U) (U := U.calling fr mk a) (Vm.Alike.refl U.vm), q4.same (u := U) (U := U.calling fr mk a) rfl⟩
theorem k_pre {s : State} {H : Heap} {locs : List Loc} {as : List Value} (hM : Mc g n M H) (hK : va_K (gD g) CLS (tysL (gE g)) s ∧ Sx g s s.heap ∧ Nst s) (hS : va_S (gA g) s.heap H locs) : ∀ U : State, U.heap = H → s.WarmedH U.vm → va_Pc as (fun U => Mc g n M U.heap ∧ Kn g U) as.toArray U := fun U hU hW =>
  ⟨rfl, by rw [hU]; exact hM, hK.1.moved hW.alike, by rw [hU]; exact (hK.2.1.moved hW.alike).kept hS.2.1, hK.2.2.warm hW⟩
theorem k_call (h : Rk g own cc nL R Q Z) {idx na nM d mc ms x : Nat} {y : MethodName} {b : ByteArray} {As stk : List Value} {Qf : Nat → CM → Prop}
    (hy : y.name = "<init>") (hml0 : ML own idx y b nM none na) (hi : Cond.instanceMethod y ∈ TBL) (hd : decode cc pc = .ok (.invokespecial idx, 3))
    (hc : ConC g y b nM d mc ms (rf g x :: As) n M Qf) (hR : d + 1 ≤ R.frames ∧ 8 + (nM + 11) + 40 * d ≤ R.locals) (hn : As.length = na) (hstk : stk = As.reverse ++ rf g x :: st) (hw : (st.map fun v => v.category).sum ≤ 8) (hkc : kc + mc ≤ R.cells ∧ ks + ms ≤ R.slots)
    (kk : ∀ n1 M1, Qf n1 M1 → Z (pc + 3) L st (kc + mc) (ks + ms) n1 M1) : Z pc L stk kc ks n M := by
  obtain ⟨p, e, s, m, args, below, meth, c, QS, hx, hb, hml, hown, hts, hK, hin, hB, hfin, hZ⟩ := h
  rw [hZ]
  intro H ls locs hM hS hL
  subst hstk
  obtain ⟨hl, hini, hcode, hdd⟩ := hml0
  have hG := TBL_code hcode
  have hfix : CallFix p m c cc nL s args TBL own := ⟨hx, hb, hml, hown, hts⟩
  have hgo : va_Run p (gL g) e R s m args below meth c H locs kc ks mc ms (F0 m pc ls (As.reverse ++ rf g x :: st)) st ((fun (_ : Array Value) (s1 : State) (oc : Outcome) (t : State) => oc = .returned none ∧ ∃ n1 M1, Qf n1 M1 ∧ Mc g n1 M1 t.heap ∧ va_F (gA g) s1 t) (rf g x :: As).toArray) (gA g) := by
    rcases hl with hl | ⟨host, hl⟩
    · have cw : CallB R s args own idx y b nM none (.code y b nM none :: TBL) (rmk d mc ms) mc ms na := callB_of na hts hG rfl rfl rfl (hts _ hini) (hts _ hl) hdd hR
      exact va_runI (b := gB g + x) hfix hc ⟨cw, hy, hts _ hi⟩ ⟨k_blind, k_pre (as := rf g x :: As) hM hK hS⟩ rfl hn hL.1 rfl (lv_room hw) hd hkc
    · have cw := va_cnB (own := own) (host := host) (index := idx) (y := y) (ws := .code y b nM none :: TBL) (rm := rmk d mc ms) (R := R) na hts hG rfl rfl rfl (hK.2.2 _ hl) (hts _ hini) hdd hR
      exact va_runIN (b := gB g + x) hfix hc ⟨cw, hy, hts _ hi⟩ ⟨k_blind, k_pre (as := rf g x :: As) hM hK hS⟩ rfl hn hL.1 rfl (lv_room hw) hd hkc
  intro T hT X
  obtain ⟨v, st₀, t, T', Lx, h0, X', hLx, e1, e2, ⟨hv, n1, M1, hq, hM1, hz, hk⟩, stp⟩ := hgo T hT X
  cases hv
  rw [h0] at hz hk
  obtain ⟨t2, a1, b1⟩ := (hZ _ _ _ _ _ _ _).mp (kk n1 M1 hq) T'.heap ls (locs ++ Lx) (by rw [e1]; exact hM1)
    ⟨Nat.le_trans hS.1 (by rw [e1]; exact hz), fun q h1 h2 => by rw [e1, hk q (Nat.lt_of_lt_of_le h1 hS.1) h2]; exact hS.2.1 q h1 h2, fun q hq => by
      rcases List.mem_append.mp hq with h | h
      · exact hS.2.2 q h
      · exact hLx q h⟩ hL T' rfl X'
  exact ⟨t2, stp t2 a1, b1⟩
end KC
