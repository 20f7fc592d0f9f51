/-- a constructor's contract by a walk of its body -/
theorem kon_intro {g : GE} {own : String} {y : MethodName} {b : ByteArray} {nL d kc ks : Nat} {as : List Value} {n0 : Nat} {M0 : CM} {Q : Nat → CM → Prop} {L0 : LO}
    (hy : plainName y.cls = true) (hni : y.name = "<init>") (ho : y.cls = own) (hn : (lg_sl as).length ≤ nL) (hL0 : loI nL as = L0) (body : ∀ Z, Rk g own b nL (rmk d kc ks) (fun kc1 ks1 n M => kc1 = kc ∧ ks1 = ks ∧ Q n M) Z → Z 0 L0 [] 0 0 n0 M0) : ConC g y b nL d kc ks as n0 M0 Q := by
  subst ho
  subst hL0
  refine Met.ofW (cc := b) (maxL := nL) (ret := none) hy rfl ?_
  intro p e s m args below meth c s₁ B hml hv
  obtain ⟨rfl, hM, hK⟩ := hv
  have hx := B.exec
  have hb := B.bytes
  have hr := B.returns
  have hts : ∀ w ∈ TBL, w.before as.toArray s = true := fun w hw => atoms_spec (ws := .code y b nL none :: TBL) B.pre w (List.mem_cons_of_mem _ hw)
  have hown : s.vm.findClass y.cls = some m.cls := findClass_of_methodNamed B.named
  have hlocks := B.notSynchronized
  have hin : meth.name = "<init>" := (name_of_methodNamed B.named B.method).1.trans hni
  have hl := lv_entry as (n := nL) hn
  rw [lg_entry_eq]
  refine (body (fun pc L st kc1 ks1 n M => ∀ (H : Heap) (ls : Array Slot) (locs : List Loc), Mc g n M H → va_S (gA g) s.heap H locs → lvL ls nL L → W p (gL g) e (rmk d kc ks) s m as.toArray below meth c H locs kc1 ks1 (MQ below (fun _ st oc t => oc = .returned none ∧ ∃ n1 M1, Q n1 M1 ∧ Mc g n1 M1 t.heap ∧ va_F (gA g) st t) as.toArray s kc ks (gA g)) (F0 m pc ls st))
    ⟨p, e, s, m, as.toArray, below, meth, c, _, hx, hb, hml, hown, hts, hK, hin, (by rw [hM.1]; omega), ?_, fun pc L st kc1 ks1 n M => Iff.rfl⟩) s.heap _ [] hM va_S.rf (loI_has hl)
  intro pc ls kc1 ks1 n M H locs hd hq hM1 hS
  obtain ⟨rfl, rfl, hq⟩ := hq
  exact W.vret hx hb hr (fun t ht hW => ⟨rfl, n, M, hq, by rw [ht]; exact hM1, hS.F ht⟩) hS.2.2 hd
