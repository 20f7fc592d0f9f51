/-! THE LAW: its loop (at most one turn) -/
section LL
variable {g : GE} {b L : Nat} {xs : Nat → Int32} {Q : Option Value → Iv → Lv → Prop} {Z : ZT}
theorem ll_short {L : Nat} (h : L < 6) : nI L - nI 6 < nI 0 := by
  rcases (show L = 0 ∨ L = 1 ∨ L = 2 ∨ L = 3 ∨ L = 4 ∨ L = 5 by omega) with rfl | rfl | rfl | rfl | rfl | rfl <;> decide
/-- the end: 1 is answered -/
theorem ll_end (zh : Rw g R_law code 4 (some .boolean) room_1 (some (b, L, xs)) Q Z) (hQ : ∀ iv lv, Q (some (.int 1)) iv lv) {Lo : LO} {iv : Iv} {lv : Lv} : Z 1489 Lo [] iv lv := by
  refine z_iconst zh dL_law_1489 ki_1 ?_
  exact z_zret zh dL_law_1490 (Or.inr rfl) (hQ _ _)
theorem ll_loop (zh : Rw g R_law code 4 (some .boolean) room_1 (some (b, L, xs)) Q Z) (hL : L ≤ 6) (hQ : ∀ iv lv, Q (some (.int 1)) iv lv) : Z 16 [some (.ref b), some (rf g 0), some (rf g 551), none] [] iv0 lv0 := by
  refine z_iconst zh dL_law_16 ki_0 ?_
  refine z_istoren zh dL_law_17 (by decide) (L' := LC g b) rfl ?_
  refine z_iloadn zh dL_law_18 rfl ?_
  refine z_aloadn zh dL_law_19 rfl ?_
  refine z_slen zh rfl dL_law_20 ?_
  refine z_bipush zh dL_law_21 kb_6 ?_
  refine z_isub zh dL_law_23 ?_
  by_cases h6 : L < 6
  · refine z_icmp_gt (tgt := 1489) zh dL_law_24 rfl (fun _ => ?_) (fun q => absurd (ll_short h6) q)
    exact ll_end zh hQ
  · have e6 : L = 6 := by omega
    subst e6
    have kk : ∀ iv lv, Z 1483 (LC g b) [] iv lv := by
      intro iv lv
      refine z_iinc zh dL_law_1483 (by decide) rfl (v := nI 6) (by decide) (L' := [some (.ref b), some (rf g 0), some (rf g 551), some (.int (nI 6))]) rfl ?_
      refine z_goto (tgt := 18) zh dL_law_1486 rfl ?_
      refine z_iloadn zh dL_law_18 rfl ?_
      refine z_aloadn zh dL_law_19 rfl ?_
      refine z_slen zh rfl dL_law_20 ?_
      refine z_bipush zh dL_law_21 kb_6 ?_
      refine z_isub zh dL_law_23 ?_
      refine z_icmp_gt (tgt := 1489) zh dL_law_24 rfl (fun _ => ?_) (fun q => absurd (by decide) q)
      exact ll_end zh hQ
    refine z_icmp_gt (tgt := 1489) zh dL_law_24 rfl (fun q => absurd q (by decide)) (fun _ => ?_)
    refine z_aloadn zh dL_law_27 rfl ?_
    refine z_iloadn zh dL_law_28 rfl ?_
    refine z_sld (j := 0) zh rfl dL_law_29 (by decide) (by decide) ?_
    refine z_bipush zh dL_law_30 (v := nI 63) (by decide +kernel) ?_
    refine z_iand zh dL_law_32 ?_
    obtain ⟨x, hx⟩ : ∃ x : Int32, x = xs 0 &&& nI 63 := ⟨_, rfl⟩
    rw [← hx]
    by_cases hp : InN 35 x
    · obtain ⟨j, hj, rfl⟩ := hp
      rcases (show j = 0 ∨ j = 1 ∨ j = 2 ∨ j = 3 ∨ j = 4 ∨ j = 5 ∨ j = 6 ∨ j = 7 ∨ j = 8 ∨ j = 9 ∨ j = 10 ∨ j = 11 ∨ j = 12 ∨ j = 13 ∨ j = 14 ∨ j = 15 ∨ j = 16 ∨ j = 17 ∨ j = 18 ∨ j = 19 ∨ j = 20 ∨ j = 21 ∨ j = 22 ∨ j = 23 ∨ j = 24 ∨ j = 25 ∨ j = 26 ∨ j = 27 ∨ j = 28 ∨ j = 29 ∨ j = 30 ∨ j = 31 ∨ j = 32 ∨ j = 33 ∨ j = 34 by omega) with rfl | rfl | rfl | rfl | rfl | rfl | rfl | rfl | rfl | rfl | rfl | rfl | rfl | rfl | rfl | rfl | rfl | rfl | rfl | rfl | rfl | rfl | rfl | rfl | rfl | rfl | rfl | rfl | rfl | rfl | rfl | rfl | rfl | rfl | rfl
      · refine z_tabIn (off := 155) (tgt := 188) zh dL_law_33 (by decide) (by decide) (by decide) rfl ?_
        exact la_0 zh kk
      · refine z_tabIn (off := 188) (tgt := 221) zh dL_law_33 (by decide) (by decide) (by decide) rfl ?_
        exact la_1 zh kk
      · refine z_tabIn (off := 241) (tgt := 274) zh dL_law_33 (by decide) (by decide) (by decide) rfl ?_
        exact la_2 zh kk
      · refine z_tabIn (off := 274) (tgt := 307) zh dL_law_33 (by decide) (by decide) (by decide) rfl ?_
        exact la_3 zh kk
      · refine z_tabIn (off := 337) (tgt := 370) zh dL_law_33 (by decide) (by decide) (by decide) rfl ?_
        exact la_4 zh kk
      · refine z_tabIn (off := 400) (tgt := 433) zh dL_law_33 (by decide) (by decide) (by decide) rfl ?_
        exact la_5 zh kk
      · refine z_tabIn (off := 433) (tgt := 466) zh dL_law_33 (by decide) (by decide) (by decide) rfl ?_
        exact la_6 zh kk
      · refine z_tabIn (off := 486) (tgt := 519) zh dL_law_33 (by decide) (by decide) (by decide) rfl ?_
        exact la_7 zh kk
      · refine z_tabIn (off := 519) (tgt := 552) zh dL_law_33 (by decide) (by decide) (by decide) rfl ?_
        exact la_8 zh kk
      · refine z_tabIn (off := 568) (tgt := 601) zh dL_law_33 (by decide) (by decide) (by decide) rfl ?_
        exact la_9 zh kk
      · refine z_tabIn (off := 601) (tgt := 634) zh dL_law_33 (by decide) (by decide) (by decide) rfl ?_
        exact la_10 zh kk
      · refine z_tabIn (off := 624) (tgt := 657) zh dL_law_33 (by decide) (by decide) (by decide) rfl ?_
        exact la_11 zh kk
      · refine z_tabIn (off := 667) (tgt := 700) zh dL_law_33 (by decide) (by decide) (by decide) rfl ?_
        exact la_12 zh kk
      · refine z_tabIn (off := 690) (tgt := 723) zh dL_law_33 (by decide) (by decide) (by decide) rfl ?_
        exact la_13 zh kk
      · refine z_tabIn (off := 753) (tgt := 786) zh dL_law_33 (by decide) (by decide) (by decide) rfl ?_
        exact la_14 zh kk
      · refine z_tabIn (off := 776) (tgt := 809) zh dL_law_33 (by decide) (by decide) (by decide) rfl ?_
        exact la_15 zh kk
      · refine z_tabIn (off := 789) (tgt := 822) zh dL_law_33 (by decide) (by decide) (by decide) rfl ?_
        exact la_16 zh kk
      · refine z_tabIn (off := 812) (tgt := 845) zh dL_law_33 (by decide) (by decide) (by decide) rfl ?_
        exact la_17 zh kk
      · refine z_tabIn (off := 835) (tgt := 868) zh dL_law_33 (by decide) (by decide) (by decide) rfl ?_
        exact la_18 zh kk
      · refine z_tabIn (off := 878) (tgt := 911) zh dL_law_33 (by decide) (by decide) (by decide) rfl ?_
        exact la_19 zh kk
      · refine z_tabIn (off := 931) (tgt := 964) zh dL_law_33 (by decide) (by decide) (by decide) rfl ?_
        exact la_20 zh kk
      · refine z_tabIn (off := 955) (tgt := 988) zh dL_law_33 (by decide) (by decide) (by decide) rfl ?_
        exact la_21 zh kk
      · refine z_tabIn (off := 988) (tgt := 1021) zh dL_law_33 (by decide) (by decide) (by decide) rfl ?_
        exact la_22 zh kk
      · refine z_tabIn (off := 1021) (tgt := 1054) zh dL_law_33 (by decide) (by decide) (by decide) rfl ?_
        exact la_23 zh kk
      · refine z_tabIn (off := 1054) (tgt := 1087) zh dL_law_33 (by decide) (by decide) (by decide) rfl ?_
        exact la_24 zh kk
      · refine z_tabIn (off := 1087) (tgt := 1120) zh dL_law_33 (by decide) (by decide) (by decide) rfl ?_
        exact la_25 zh kk
      · refine z_tabIn (off := 1121) (tgt := 1154) zh dL_law_33 (by decide) (by decide) (by decide) rfl ?_
        exact la_26 zh kk
      · refine z_tabIn (off := 1144) (tgt := 1177) zh dL_law_33 (by decide) (by decide) (by decide) rfl ?_
        exact la_27 zh kk
      · refine z_tabIn (off := 1187) (tgt := 1220) zh dL_law_33 (by decide) (by decide) (by decide) rfl ?_
        exact la_28 zh kk
      · refine z_tabIn (off := 1220) (tgt := 1253) zh dL_law_33 (by decide) (by decide) (by decide) rfl ?_
        exact la_29 zh kk
      · refine z_tabIn (off := 1279) (tgt := 1312) zh dL_law_33 (by decide) (by decide) (by decide) rfl ?_
        exact la_30 zh kk
      · refine z_tabIn (off := 1322) (tgt := 1355) zh dL_law_33 (by decide) (by decide) (by decide) rfl ?_
        exact la_31 zh kk
      · refine z_tabIn (off := 1355) (tgt := 1388) zh dL_law_33 (by decide) (by decide) (by decide) rfl ?_
        exact la_32 zh kk
      · refine z_tabIn (off := 1388) (tgt := 1421) zh dL_law_33 (by decide) (by decide) (by decide) rfl ?_
        exact la_33 zh kk
      · refine z_tabIn (off := 1427) (tgt := 1460) zh dL_law_33 (by decide) (by decide) (by decide) rfl ?_
        exact la_34 zh kk
    · have hr := mt (InN_toInt (n := 35) (by omega)).mpr hp
      refine z_tabOut (tgt := 1483) zh dL_law_33 (by omega) rfl ?_
      exact kk _ _
end LL
