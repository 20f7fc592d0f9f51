section KR2
variable {g : GE} {own : String} {cc : ByteArray} {nL : Nat} {R : Room} {Q : Nat → Nat → Nat → CM → Prop} {Z : ZK} {pc : Nat} {L : LO} {st : List Value} {kc ks n : Nat} {M : CM}
theorem k_iinc (h : Rk g own cc nL R Q Z) {i : Nat} {q : Int} {x v : Int32} {L' : LO} (hd : decode cc pc = .ok (.iinc i q, 3)) (hn : i < nL) (hl : L[i]? = some (some (.int x))) (hv : x + Int32.ofInt q = v) (hs : st1 L i (.int v) = L') (k : Z (pc + 3) L' st kc ks n M) : Z pc L st kc ks n M := by
  obtain ⟨p, e, s, m, args, below, meth, c, QS, hx, hb, hml, hown, hts, hK, hin, hB, hfin, hZ⟩ := h
  rw [hZ]
  rw [hZ] at k
  intro H ls locs hM hS hL
  subst hs
  obtain ⟨j, hj⟩ := List.getElem?_of_mem (prs_in.mpr hl)
  exact lv_iinc hx hb hd (lvL_has hL) hj hv hn rfl (fun ls' h' => k H ls' locs hM hS (lvL_st1 (ls := ls) h'))
end KR2
