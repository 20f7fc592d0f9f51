section KR2
variable {g : GE} {own : String} {cc : ByteArray} {nL : Nat} {R : Room} {Q : Nat → Nat → Nat → CM → Prop} {Z : ZK} {pc : Nat} {L : LO} {st : List Value} {kc ks n : Nat} {M : CM}
theorem k_iinc (h : Rk g own cc nL R Q Z) {i : Nat} {q : Int} {x v : Int32} {L' : LO} (hd : decode cc pc = .ok (.iinc i q, 3)) (hn : i < nL) (hl : L[i]? = some (some (.int x))) (hv : x + Int32.ofInt q = v) (hs : st1 L i (.int v) = L') (k : Z (pc + 3) L' st kc ks n M) : Z pc L st kc ks n M := by
  obtain ⟨p, e, s, m, args, below, meth, c, QS, hx, hb, hml, hown, hts, hK, hin, hB, hfin, hZ⟩ := h
  rw [hZ]
  rw [hZ] at k
  intro H ls locs hM hS hL
  subst hs
  obtain ⟨j, hj⟩ := List.getElem?_of_mem (prs_in.mpr hl)
  exact lv_iinc hx hb hd (lvL_has hL) hj hv hn rfl (fun ls' h' => k H ls' locs hM hS (lvL_st1 (ls := ls) h'))
theorem k_icmp_ge (h : Rk g own cc nL R Q Z) {a b : Nat} {off : Int} {tgt : Nat} (ha : a < 2 ^ 31) (hb : b < 2 ^ 31) (hd : decode cc pc = .ok (.if_icmp .ge off, 3)) (ht : (pc : Int) + off = (tgt : Int)) (kt : b ≤ a → Z tgt L st kc ks n M) (kf : a < b → Z (pc + 3) L st kc ks n M) : Z pc L (.int (nI b) :: .int (nI a) :: st) kc ks n M := by
  obtain ⟨p, e, s, m, args, below, meth, c, QS, hx, hbb, hml, hown, hts, hK, hin, hB, hfin, hZ⟩ := h
  rw [hZ]
  intro H ls locs hM hS hL
  exact lv_icmp_ge hx hbb hd ht (fun q => (hZ _ _ _ _ _ _ _).mp (kt ((nI_leI hb ha).mp q)) H ls locs hM hS hL) (fun q => (hZ _ _ _ _ _ _ _).mp (kf (by have := mt (nI_leI hb ha).mpr q; omega)) H ls locs hM hS hL)
end KR2
