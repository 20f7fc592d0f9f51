/-! THE LAW: its loop -/
theorem rv0W : RW iv0 := by
  have h : ∀ j, j < 57 → wd 57 j = wtx.getD j 0 := by decide +kernel
  exact h
theorem rv0 : RV iv0 := by
  refine ⟨?_, ?_, ?_, ⟨0, 0, by decide, by decide, ?_, ?_, ?_, ?_, fun a h => absurd h (by omega)⟩, ⟨?_, ?_, ?_, ⟨0, 0, by decide, by decide, ?_, ?_, ?_, ?_, fun a h => absurd h (by omega)⟩⟩, ⟨0, fun _ => 0, by decide, ⟨?_, fun j h => absurd h (by omega)⟩, ⟨?_, fun j h => absurd h (by omega)⟩, fun j h => absurd h (by omega)⟩, ⟨?_, ?_⟩, ⟨?_, Or.inl ?_⟩, rv0W⟩
  · show (iv0 552 0).toInt + 6 = (iv0 2 0).toInt
    decide +kernel
  · show iv0 552 7 = iv0 8 2
    decide +kernel
  · show iv0 552 6 = iv0 1 11
    decide +kernel
  · show iv0 47 2 = nI 0
    decide +kernel
  · show iv0 551 27 = nI 0
    decide +kernel
  · show iv0 1 10 = nI 0
    decide +kernel
  · show iv0 552 10 = nI 0
    decide +kernel
  · show (iv0 564 0).toInt + 6 = (iv0 182 0).toInt
    decide +kernel
  · show iv0 564 7 = iv0 188 2
    decide +kernel
  · show iv0 564 6 = iv0 181 11
    decide +kernel
  · show iv0 227 2 = nI 0
    decide +kernel
  · show iv0 564 19926 = nI 0
    decide +kernel
  · show iv0 181 10 = nI 0
    decide +kernel
  · show iv0 564 10 = nI 0
    decide +kernel
  · show iv0 541 1 = nI 0
    decide +kernel
  · show iv0 551 17 = nI 0
    decide +kernel
  · show iv0 551 25 = iv0 541 4
    decide +kernel
  · show iv0 551 26 = iv0 541 5
    decide +kernel
  · show iv0 551 29 = iv0 0 4
    decide +kernel
  · show iv0 0 4 = 0
    decide +kernel
section LL
variable {g : GE} {b L : Nat} {xs : Nat → Int32} {Q : Option Value → Iv → Lv → Prop} {Z : ZT}
/-- the end: 1 is answered -/
theorem ll_end (zh : LRw g b L xs Q Z) (hQ : ∀ iv lv, Q (some (.int 1)) iv lv) {Lo : LO} {iv : Iv} {lv : Lv} : Z 1487 Lo [] iv lv := by
  refine z_iconst zh dL_law_1487 ki_1 ?_
  exact z_zret zh dL_law_1488 (Or.inr rfl) (hQ _ _)
theorem ll_loop (zh : LRw g b L xs Q Z) (hL : L ≤ 3072) (hQ : ∀ iv lv, Q (some (.int 1)) iv lv) {iv : Iv} {lv : Lv} (hG : SI s0 z0 iv) (hR : RV iv) : Z 16 [some (.ref b), some (rf g 0), some (rf g 551), none] [] iv lv := by
  have eL : (nI L).toInt = (L : Nat) := nI_toInt (by omega)
  have e6 : (nI 6).toInt = 6 := by decide
  have es := (ra_sub (x := nI L) (y := nI 6) (a := 0) (b := 3072) (c := 6) (d := 6) ⟨by omega, by omega⟩ ⟨by omega, by omega⟩ (by decide) (by decide)).1
  have J : ∀ (q j : Nat) (iv : Iv) (lv : Lv), j ≤ L → SI s0 z0 iv → RV iv → L - j < q → Z 18 (LwC g b j) [] iv lv := by
    intro q
    induction q with
    | zero => intro j iv lv _ _ _ hn; omega
    | succ q ih =>
      intro j iv lv hj0 hG hR hn
      have ej : (nI j).toInt = (j : Nat) := nI_toInt (by omega)
      refine z_iloadn zh dL_law_18 rfl ?_
      refine z_aloadn zh dL_law_19 rfl ?_
      refine z_slen zh rfl dL_law_20 ?_
      refine z_bipush zh dL_law_21 kb_6 ?_
      refine z_isub zh dL_law_23 ?_
      refine z_icmp_gt (tgt := 1487) zh dL_law_24 rfl (fun _ => ll_end zh hQ) (fun q1 => ?_)
      rw [ltI, es, eL, e6, ej] at q1
      have hj : j + 6 ≤ L := by omega
      have kk : ∀ iv lv, SI s0 z0 iv → RV iv → Z 1481 (LwC g b j) [] iv lv := by
        intro iv lv hG hR
        refine z_iinc zh dL_law_1481 (by decide) rfl (v := nI (j + 6)) (by rw [show (Int32.ofInt 6 : Int32) = nI 6 from by decide +kernel, nI_add]) (L' := LwC g b (j + 6)) rfl ?_
        refine z_goto (tgt := 18) zh dL_law_1484 rfl ?_
        exact ih (j + 6) iv lv hj hG hR (by omega)
      refine z_aloadn zh dL_law_27 rfl ?_
      refine z_iloadn zh dL_law_28 rfl ?_
      refine z_sld (j := j) zh rfl dL_law_29 (by omega) (by omega) ?_
      refine z_bipush zh dL_law_30 (v := nI 63) (by decide +kernel) ?_
      refine z_iand zh dL_law_32 ?_
      obtain ⟨x, hx⟩ : ∃ x : Int32, x = xs j &&& nI 63 := ⟨_, rfl⟩
      rw [← hx]
      by_cases hp : InN 35 x
      · obtain ⟨i, hi, rfl⟩ := hp
        rcases (show i = 0 ∨ i = 1 ∨ i = 2 ∨ i = 3 ∨ i = 4 ∨ i = 5 ∨ i = 6 ∨ i = 7 ∨ i = 8 ∨ i = 9 ∨ i = 10 ∨ i = 11 ∨ i = 12 ∨ i = 13 ∨ i = 14 ∨ i = 15 ∨ i = 16 ∨ i = 17 ∨ i = 18 ∨ i = 19 ∨ i = 20 ∨ i = 21 ∨ i = 22 ∨ i = 23 ∨ i = 24 ∨ i = 25 ∨ i = 26 ∨ i = 27 ∨ i = 28 ∨ i = 29 ∨ i = 30 ∨ i = 31 ∨ i = 32 ∨ i = 33 ∨ i = 34 by omega) with rfl | rfl | rfl | rfl | rfl | rfl | rfl | rfl | rfl | rfl | rfl | rfl | rfl | rfl | rfl | rfl | rfl | rfl | rfl | rfl | rfl | rfl | rfl | rfl | rfl | rfl | rfl | rfl | rfl | rfl | rfl | rfl | rfl | rfl | rfl
        · refine z_tabIn (off := 155) (tgt := 188) zh dL_law_33 (by decide) (by decide) (by decide) rfl ?_
          exact la_0 zh hj hL hG hR kk
        · refine z_tabIn (off := 188) (tgt := 221) zh dL_law_33 (by decide) (by decide) (by decide) rfl ?_
          exact la_1 zh hj hL hG hR kk
        · refine z_tabIn (off := 241) (tgt := 274) zh dL_law_33 (by decide) (by decide) (by decide) rfl ?_
          exact la_2 zh hj hL hG hR kk
        · refine z_tabIn (off := 274) (tgt := 307) zh dL_law_33 (by decide) (by decide) (by decide) rfl ?_
          exact la_3 zh hj hL hG hR kk
        · refine z_tabIn (off := 337) (tgt := 370) zh dL_law_33 (by decide) (by decide) (by decide) rfl ?_
          exact la_4 zh hj hL hG hR kk
        · refine z_tabIn (off := 400) (tgt := 433) zh dL_law_33 (by decide) (by decide) (by decide) rfl ?_
          exact la_5 zh hj hL hG hR kk
        · refine z_tabIn (off := 433) (tgt := 466) zh dL_law_33 (by decide) (by decide) (by decide) rfl ?_
          exact la_6 zh hj hL hG hR kk
        · refine z_tabIn (off := 486) (tgt := 519) zh dL_law_33 (by decide) (by decide) (by decide) rfl ?_
          exact la_7 zh hj hL hG hR kk
        · refine z_tabIn (off := 519) (tgt := 552) zh dL_law_33 (by decide) (by decide) (by decide) rfl ?_
          exact la_8 zh hj hL hG hR kk
        · refine z_tabIn (off := 568) (tgt := 601) zh dL_law_33 (by decide) (by decide) (by decide) rfl ?_
          exact la_9 zh hj hL hG hR kk
        · refine z_tabIn (off := 601) (tgt := 634) zh dL_law_33 (by decide) (by decide) (by decide) rfl ?_
          exact la_10 zh hj hL hG hR kk
        · refine z_tabIn (off := 624) (tgt := 657) zh dL_law_33 (by decide) (by decide) (by decide) rfl ?_
          exact la_11 zh hj hL hG hR kk
        · refine z_tabIn (off := 667) (tgt := 700) zh dL_law_33 (by decide) (by decide) (by decide) rfl ?_
          exact la_12 zh hj hL hG hR kk
        · refine z_tabIn (off := 690) (tgt := 723) zh dL_law_33 (by decide) (by decide) (by decide) rfl ?_
          exact la_13 zh hj hL hG hR kk
        · refine z_tabIn (off := 753) (tgt := 786) zh dL_law_33 (by decide) (by decide) (by decide) rfl ?_
          exact la_14 zh hj hL hG hR kk
        · refine z_tabIn (off := 776) (tgt := 809) zh dL_law_33 (by decide) (by decide) (by decide) rfl ?_
          exact la_15 zh hj hL hG hR kk
        · refine z_tabIn (off := 789) (tgt := 822) zh dL_law_33 (by decide) (by decide) (by decide) rfl ?_
          exact la_16 zh hj hL hG hR kk
        · refine z_tabIn (off := 812) (tgt := 845) zh dL_law_33 (by decide) (by decide) (by decide) rfl ?_
          exact la_17 zh hj hL hG hR kk
        · refine z_tabIn (off := 835) (tgt := 868) zh dL_law_33 (by decide) (by decide) (by decide) rfl ?_
          exact la_18 zh hj hL hG hR kk
        · refine z_tabIn (off := 878) (tgt := 911) zh dL_law_33 (by decide) (by decide) (by decide) rfl ?_
          exact la_19 zh hj hL hG hR kk
        · refine z_tabIn (off := 931) (tgt := 964) zh dL_law_33 (by decide) (by decide) (by decide) rfl ?_
          exact la_20 zh hj hL hG hR kk
        · refine z_tabIn (off := 954) (tgt := 987) zh dL_law_33 (by decide) (by decide) (by decide) rfl ?_
          exact la_21 zh hj hL hG hR kk
        · refine z_tabIn (off := 987) (tgt := 1020) zh dL_law_33 (by decide) (by decide) (by decide) rfl ?_
          exact la_22 zh hj hL hG hR kk
        · refine z_tabIn (off := 1020) (tgt := 1053) zh dL_law_33 (by decide) (by decide) (by decide) rfl ?_
          exact la_23 zh hj hL hG hR kk
        · refine z_tabIn (off := 1053) (tgt := 1086) zh dL_law_33 (by decide) (by decide) (by decide) rfl ?_
          exact la_24 zh hj hL hG hR kk
        · refine z_tabIn (off := 1086) (tgt := 1119) zh dL_law_33 (by decide) (by decide) (by decide) rfl ?_
          exact la_25 zh hj hL hG hR kk
        · refine z_tabIn (off := 1119) (tgt := 1152) zh dL_law_33 (by decide) (by decide) (by decide) rfl ?_
          exact la_26 zh hj hL hG hR kk
        · refine z_tabIn (off := 1142) (tgt := 1175) zh dL_law_33 (by decide) (by decide) (by decide) rfl ?_
          exact la_27 zh hj hL hG hR kk
        · refine z_tabIn (off := 1185) (tgt := 1218) zh dL_law_33 (by decide) (by decide) (by decide) rfl ?_
          exact la_28 zh hj hL hG hR kk
        · refine z_tabIn (off := 1218) (tgt := 1251) zh dL_law_33 (by decide) (by decide) (by decide) rfl ?_
          exact la_29 zh hj hL hG hR kk
        · refine z_tabIn (off := 1277) (tgt := 1310) zh dL_law_33 (by decide) (by decide) (by decide) rfl ?_
          exact la_30 zh hj hL hG hR kk
        · refine z_tabIn (off := 1320) (tgt := 1353) zh dL_law_33 (by decide) (by decide) (by decide) rfl ?_
          exact la_31 zh hj hL hG hR kk
        · refine z_tabIn (off := 1353) (tgt := 1386) zh dL_law_33 (by decide) (by decide) (by decide) rfl ?_
          exact la_32 zh hj hL hG hR kk
        · refine z_tabIn (off := 1386) (tgt := 1419) zh dL_law_33 (by decide) (by decide) (by decide) rfl ?_
          exact la_33 zh hj hL hG hR kk
        · refine z_tabIn (off := 1425) (tgt := 1458) zh dL_law_33 (by decide) (by decide) (by decide) rfl ?_
          exact la_34 zh hj hL hG hR kk
      · have hr := mt (InN_toInt (n := 35) (by omega)).mpr hp
        refine z_tabOut (tgt := 1481) zh dL_law_33 (by omega) rfl ?_
        exact kk _ _ hG hR
  refine z_iconst zh dL_law_16 ki_0 ?_
  refine z_istoren zh dL_law_17 (by decide) (L' := LwC g b 0) rfl ?_
  exact J (L + 1) 0 iv lv (by omega) hG hR (by omega)
end LL
