/-! PAIRS 6 -/
theorem k_X9_tomorrow (g : GE) {iv : Iv} {lv : Lv} {a1 : Int32} {a2 : Int32} {a3 : Int32} (hG : SI s0 z0 iv) : ConI g yX9_tomorrow cX9_tomorrow 6 (some .int) 11 [rf g 551, .int a1, .int a2, .int a3] iv lv (fun r iv' lv' => SI (spU rmN) iv iv') := by
  refine con_mono (e_X9_tomorrow g (si_u (rm := ry_w) hG) (sk_Sd spU_k) (fun j => (spf (fun z => z.2 (by unfold ry_w; omega)))) rfl (fun j => (spf (fun z => no553 z.1)))) (fun r iv' lv' h => ⟨fun k j z => sk_spc (uK_sK (spu z).1), fun k j z => ?_, h.1.2.2⟩)
  have hu := (spu z).1
  by_cases e : k = 552
  · subst e
    exact h.2 j (lt552 hu)
  · exact ag h.1 hu e
