/-! BITS (these rows began as the kit's starting text) -/
def bt (x : Int32) (i : Nat) : Bool := x.toBitVec.getLsbD i
theorem b_ext {x y : Int32} (h : ∀ i, i < 32 → bt x i = bt y i) : x = y := Int32.toBitVec_inj.mp (BitVec.eq_of_getLsbD_eq (fun i hi => h i hi))
theorem b_or (x y : Int32) (i : Nat) : bt (x ||| y) i = (bt x i || bt y i) := by unfold bt; rw [Int32.toBitVec_or, BitVec.getLsbD_or]
theorem b_and (x y : Int32) (i : Nat) : bt (x &&& y) i = (bt x i && bt y i) := by unfold bt; rw [Int32.toBitVec_and, BitVec.getLsbD_and]
theorem b_xor (x y : Int32) (i : Nat) : bt (x ^^^ y) i = (bt x i ^^ bt y i) := by unfold bt; rw [Int32.toBitVec_xor, BitVec.getLsbD_xor]
theorem b_big {x : Int32} {i : Nat} (h : 32 ≤ i) : bt x i = false := BitVec.getLsbD_of_ge _ _ h
theorem b_0 (i : Nat) : bt 0 i = false := BitVec.getLsbD_zero
theorem s_l : ∀ n, n < 32 → ((nI n &&& 31).toBitVec.smod 32).toNat = n := by decide +kernel
theorem b_shl (n : Nat) (hn : n < 32) (x : Int32) {i : Nat} (hi : i < 32) : bt (x <<< (nI n &&& 31)) i = (decide (n ≤ i) && bt x (i - n)) := by
  unfold bt
  rw [Int32.toBitVec_shiftLeft]
  show (x.toBitVec <<< ((nI n &&& 31).toBitVec.smod 32).toNat).getLsbD i = _
  rw [s_l n hn, BitVec.getLsbD_shiftLeft]
  rcases Nat.lt_or_ge i n with h | h
  · simp [h, Nat.not_le.mpr h]
  · simp [hi, h, Nat.not_lt.mpr h]
theorem b_sshr (n : Nat) (hn : n < 32) (x : Int32) {i : Nat} (hi : i < 32) : bt (x >>> (nI n &&& 31)) i = if n + i < 32 then bt x (n + i) else bt x 31 := by
  unfold bt
  rw [Int32.toBitVec_shiftRight]
  show (x.toBitVec.sshiftRight ((nI n &&& 31).toBitVec.smod 32).toNat).getLsbD i = _
  rw [s_l n hn, BitVec.getLsbD_sshiftRight, BitVec.msb_eq_getLsbD_last]
  simp [hi]
/-! a set of members, and the chain of trades -/
theorem bt_1 : ∀ i, i < 32 → bt 1 i = decide (i = 0) := by decide +kernel
theorem bt_and1 (x : Int32) : (x &&& 1) = 1 ↔ bt x 0 = true := by
  constructor
  · intro h
    have h1 := b_and x 1 0
    rw [h, bt_1 0 (by omega)] at h1
    cases q : bt x 0 with
    | true => rfl
    | false => rw [q] at h1; exact absurd h1 (by decide)
  · intro h
    refine b_ext (fun i hi => ?_)
    rw [b_and, bt_1 i hi]
    by_cases e : i = 0
    · subst e; rw [h]; rfl
    · rw [decide_eq_false e, Bool.and_false]
theorem bt_has (s : Int32) {k : Nat} (hk : k < 32) : ((s >>> (nI k &&& 31)) &&& nI 1) = nI 1 ↔ bt s k = true := by
  rw [show nI 1 = (1 : Int32) from rfl, bt_and1, b_sshr k hk s (by omega), if_pos (by omega), Nat.add_zero]
theorem bt_put (s : Int32) {k i : Nat} (hk : k < 32) (hi : i < 32) : bt (s ||| (nI 1 <<< (nI k &&& 31))) i = (bt s i || decide (i = k)) := by
  rw [b_or, b_shl k hk _ hi, show nI 1 = (1 : Int32) from rfl, bt_1 (i - k) (by omega)]
  by_cases e : i = k
  · subst e; rw [Nat.sub_self]; simp
  · rw [decide_eq_false e]
    by_cases q : k ≤ i
    · rw [decide_eq_false (show ¬ i - k = 0 by omega), Bool.and_false]
    · rw [decide_eq_false q, Bool.false_and]
def cb (f : Nat → Bool) : Nat → Nat
  | 0 => 0
  | n + 1 => cb f n + (if f n = true then 1 else 0)
theorem cb_le (f : Nat → Bool) : ∀ n, cb f n ≤ n
  | 0 => Nat.le_refl _
  | n + 1 => by
    have := cb_le f n
    unfold cb
    split <;> omega
theorem cb_same {f h : Nat → Bool} : ∀ n, (∀ i, i < n → f i = h i) → cb f n = cb h n
  | 0, _ => rfl
  | n + 1, e => by
    unfold cb
    rw [cb_same n (fun i hi => e i (by omega)), e n (by omega)]
theorem cb_put {f h : Nat → Bool} {k : Nat} : ∀ n, k < n → (∀ i, i < n → h i = (f i || decide (i = k))) → f k = false → cb h n = cb f n + 1
  | 0, hk, _, _ => by omega
  | n + 1, hk, e, hf => by
    unfold cb
    by_cases q : k = n
    · subst q
      rw [cb_same k (fun i hi => by rw [e i (by omega), decide_eq_false (by omega), Bool.or_false]), e k (by omega), hf]
      simp
    · rw [cb_put n (by omega) (fun i hi => e i (by omega)) hf, e n (by omega), decide_eq_false (by omega), Bool.or_false]
      omega
theorem cb_mono {f h : Nat → Bool} : ∀ n, (∀ i, i < n → f i = true → h i = true) → cb f n ≤ cb h n
  | 0, _ => Nat.le_refl _
  | n + 1, e => by
    have := cb_mono n (fun i hi => e i (by omega))
    unfold cb
    by_cases q : f n = true
    · rw [if_pos q, if_pos (e n (by omega) q)]; omega
    · rw [if_neg q]; split <;> omega
theorem cb_pos {f : Nat → Bool} {k : Nat} : ∀ n, k < n → f k = true → 0 < cb f n
  | 0, hk, _ => by omega
  | n + 1, hk, e => by
    unfold cb
    by_cases q : k = n
    · subst q; rw [if_pos e]; omega
    · have := cb_pos n (by omega) e
      split <;> omega
theorem cb_lt {f : Nat → Bool} {k : Nat} : ∀ n, k < n → f k = false → cb f n < n
  | 0, hk, _ => by omega
  | n + 1, hk, e => by
    have := cb_le f n
    unfold cb
    by_cases q : k = n
    · subst q; rw [e]; simp; omega
    · have := cb_lt n (by omega) e
      split <;> omega
/-- the trade's seller is not in the set -/
def NB (iv : Iv) (s x : Int32) : Prop := ∀ t k : Nat, (t : Int) = x.toInt → (k : Int) = (iv 552 (15110 + 8 * t + 1)).toInt → bt s k = false
set_option maxHeartbeats 1000000 in
set_option maxRecDepth 20000 in
theorem e_X9_has (g : GE) {iv : Iv} {lv : Lv} {a1 : Int32} {k : Nat} (hk : k < 12) : ConI g yX9_has cX9_has 3 (some .boolean) 1 [rf g 551, .int a1, .int (nI k)] iv lv (fun r iv' lv' => iv = iv' ∧ lv = lv' ∧ Ra 0 1 r ∧ (r = 0 ↔ bt a1 k = false)) := by
  refine con_intro (own := "RollingNetsModel") (by decide +kernel) rfl (Nat.le_of_ble_eq_true rfl) (L0 := [some (rf g 551), some (.int a1), some (.int (nI k))]) rfl (fun Z zh => ?_)
  refine z_iloadn zh dX9_has_0 rfl ?_
  refine z_iloadn zh dX9_has_1 rfl ?_
  refine z_ishr zh dX9_has_2 ?_
  refine z_iconst zh dX9_has_3 ki_1 ?_
  refine z_iand zh dX9_has_4 ?_
  refine z_iconst zh dX9_has_5 ki_1 ?_
  have hb := bt_has a1 (k := k) (by omega)
  refine z_icmp_ne (tgt := 13) zh dX9_has_6 rfl (fun q => ?_) (fun q => ?_)
  · refine z_iconst zh dX9_has_13 ki_0 ?_
    refine z_zret zh dX9_has_14 (Or.inl rfl) ⟨_, rfl, rfl, rfl, ⟨by decide, by decide⟩, ?_⟩
    refine ⟨fun _ => ?_, fun _ => rfl⟩
    cases w : bt a1 k with
    | false => rfl
    | true => exact absurd (hb.mpr w) q
  · refine z_iconst zh dX9_has_9 ki_1 ?_
    refine z_goto (tgt := 14) zh dX9_has_10 rfl ?_
    refine z_zret zh dX9_has_14 (Or.inr rfl) ⟨_, rfl, rfl, rfl, ⟨by decide, by decide⟩, ?_⟩
    refine ⟨fun w => absurd w (by decide), fun w => ?_⟩
    rw [hb.mp q] at w
    cases w

set_option maxHeartbeats 1000000 in
set_option maxRecDepth 20000 in
theorem e_X9_nextOfChain (g : GE) {sp : Nat → Nat → Bool} {σ : Iv} {iv : Iv} {lv : Lv} {a1 a2 a3 a4 : Int32} (ha1 : Ra 0 11 a1) (ha2 : Ra 0 5 a2) (hG : SI sp σ iv) : ConI g yX9_nextOfChain cX9_nextOfChain 7 (some .int) 4 [rf g 551, .int a1, .int a2, .int a3, .int a4] iv lv (fun r iv' lv' => iv = iv' ∧ lv = lv' ∧ Ra (-1) 199 r ∧ (¬ r = -1 → NB iv a4 r)) := by
  refine con_intro (own := "RollingNetsModel") (by decide +kernel) rfl (Nat.le_of_ble_eq_true rfl) (L0 := [some (rf g 551), some (.int a1), some (.int a2), some (.int a3), some (.int a4), none, none]) rfl (fun Z zh => ?_)
  refine z_iconst zh dX9_nextOfChain_0 ki_m1 ?_
  refine z_istore zh dX9_nextOfChain_1 (by decide) (L' := [some (rf g 551), some (.int a1), some (.int a2), some (.int a3), some (.int a4), some (.int (-1)), none]) rfl ?_
  refine z_iconst zh dX9_nextOfChain_3 ki_0 ?_
  refine z_istore zh dX9_nextOfChain_4 (by decide) (L' := [some (rf g 551), some (.int a1), some (.int a2), some (.int a3), some (.int a4), some (.int (-1)), some (.int (nI 0))]) rfl ?_
  have J : ∀ (n : Nat) (x t : Int32), (¬ x = -1 → Ra 0 199 x ∧ NB iv a4 x) → Ra 0 200 t → 200 - t.toInt < (n : Int) → Z 6 [some (rf g 551), some (.int a1), some (.int a2), some (.int a3), some (.int a4), some (.int x), some (.int t)] [] iv lv := by
    intro n
    induction n with
    | zero => intro x t _ ht hn; exact (ms_uz ht hn).elim
    | succ n ih =>
      intro x t hB ht hn
      refine z_iload zh dX9_nextOfChain_6 rfl ?_
      refine z_aloadnR zh dX9_nextOfChain_8 rfl ?_
      refine z_getf zh fl_Y_7 dX9_nextOfChain_9 ck_Y rfl rfl ?_
      refine z_bipush zh dX9_nextOfChain_12 kb_7 ?_
      refine y_ialdN zh ck_now dX9_nextOfChain_14 (by decide) (fun x1 ex1 => ?_)
      have hx1 : Ra 0 200 x1 := ra_of ex1 (nr_l hG 7 rfl)
      refine z_icmp_ge (tgt := 106) zh dX9_nextOfChain_15 rfl (fun q => ?_) (fun q => ?_)
      · refine z_iload zh dX9_nextOfChain_106 rfl ?_
        have hx9 : Ra (-1) 199 x := by
          by_cases e : x = -1
          · rw [e]; exact ra_w rl_n1 (by decide) (by decide)
          · exact ra_w (hB e).1 (by decide) (by decide)
        exact z_iret zh dX9_nextOfChain_108 ⟨_, rfl, rfl, rfl, hx9, fun e => (hB e).2⟩
      · have ht1 : Ra 0 199 t := rb_lt_l hx1 ht (rb_nle q) (by decide)
        have J100 : ∀ y, (¬ y = -1 → Ra 0 199 y ∧ NB iv a4 y) → Z 100 [some (rf g 551), some (.int a1), some (.int a2), some (.int a3), some (.int a4), some (.int y), some (.int t)] [] iv lv := by
          intro y hy
          refine y_iinc (L' := fun z => [some (rf g 551), some (.int a1), some (.int a2), some (.int a3), some (.int a4), some (.int y), some (.int z)]) zh dX9_nextOfChain_100 (by decide) rfl (by decide +kernel) ht1 (u := 1) (v := 200) rfl rfl (by decide) (by decide) (fun _ => rfl) (fun x2 hc2 hx2 => ?_)
          refine z_goto (tgt := 6) zh dX9_nextOfChain_103 rfl ?_
          exact ih y x2 hy (ra_w hx2 (by decide) (by decide)) (ms_up hc2 (by decide) hn)
        refine z_aloadnR zh dX9_nextOfChain_18 rfl ?_
        refine z_iload zh dX9_nextOfChain_19 rfl ?_
        refine z_iloadn zh dX9_nextOfChain_21 rfl ?_
        refine z_iconst zh dX9_nextOfChain_22 ki_1 ?_
        refine z_callVI zh mv_Y_217 dX9_nextOfChain_23 ck_Y rfl (s_X9_isRipe g ht1 ha2 (ra_w rl_1 (by decide) (by decide)) hG) ⟨Nat.le_of_ble_eq_true rfl, Nat.le_of_ble_eq_true rfl⟩ rfl rfl (Nat.le_of_ble_eq_true rfl) ?_
        rintro x3 _ _ ⟨rfl, rfl, hx3⟩
        refine z_if_eq (tgt := 100) zh dX9_nextOfChain_26 rfl (fun _ => J100 x hB) (fun _ => ?_)
        refine z_aloadnR zh dX9_nextOfChain_29 rfl ?_
        refine z_iload zh dX9_nextOfChain_30 rfl ?_
        refine z_iconst zh dX9_nextOfChain_32 ki_0 ?_
        refine z_callVI zh mv_Y_151 dX9_nextOfChain_33 ck_Y rfl (s_X9_tradeOf g ht1 (ra_w rl_0 (by decide) (by decide)) hG) ⟨Nat.le_of_ble_eq_true rfl, Nat.le_of_ble_eq_true rfl⟩ rfl rfl (Nat.le_of_ble_eq_true rfl) ?_
        rintro x4 _ _ ⟨rfl, rfl, z5, ez5, ex4⟩
        have hx4 : Ra 0 11 x4 := ra_of ex4 (nr_t01 hG t.toInt (by have := ht1.1; have := ht1.2; have := rl_0.1; have := rl_0.2; omega) (by have := ht1.1; have := ht1.2; have := rl_0.1; have := rl_0.2; omega) (by have := ht1.1; have := ht1.2; have := rl_0.1; have := rl_0.2; omega))
        refine z_iloadn zh dX9_nextOfChain_36 rfl ?_
        refine z_icmp_ne (tgt := 100) zh dX9_nextOfChain_37 rfl (fun _ => J100 x hB) (fun _ => ?_)
        refine z_aloadnR zh dX9_nextOfChain_40 rfl ?_
        refine z_iload zh dX9_nextOfChain_41 rfl ?_
        refine z_bipush zh dX9_nextOfChain_43 kb_7 ?_
        refine z_callVI zh mv_Y_151 dX9_nextOfChain_45 ck_Y rfl (s_X9_tradeOf g ht1 (ra_w rl_7 (by decide) (by decide)) hG) ⟨Nat.le_of_ble_eq_true rfl, Nat.le_of_ble_eq_true rfl⟩ rfl rfl (Nat.le_of_ble_eq_true rfl) ?_
        rintro x6 _ _ ⟨rfl, rfl, z7, ez7, ex6⟩
        refine z_iloadn zh dX9_nextOfChain_48 rfl ?_
        refine z_icmp_lt (tgt := 100) zh dX9_nextOfChain_49 rfl (fun _ => J100 x hB) (fun _ => ?_)
        refine z_aloadnR zh dX9_nextOfChain_52 rfl ?_
        refine z_iload zh dX9_nextOfChain_53 rfl ?_
        refine z_aloadnR zh dX9_nextOfChain_55 rfl ?_
        refine z_iload zh dX9_nextOfChain_56 rfl ?_
        refine z_iconst zh dX9_nextOfChain_58 ki_1 ?_
        refine z_callVI zh mv_Y_151 dX9_nextOfChain_59 ck_Y rfl (s_X9_tradeOf g ht1 (ra_w rl_1 (by decide) (by decide)) hG) ⟨Nat.le_of_ble_eq_true rfl, Nat.le_of_ble_eq_true rfl⟩ rfl rfl (Nat.le_of_ble_eq_true rfl) ?_
        rintro w _ _ ⟨rfl, rfl, z, ez, ew⟩
        have t1 := ht1.1; have t2 := ht1.2; have o1 := rl_1.1; have o2 := rl_1.2
        obtain ⟨tn, etn⟩ : ∃ tn : Nat, (tn : Int) = t.toInt := ⟨t.toInt.toNat, by omega⟩
        have hw : Ra 0 11 w := ra_of ew (nr_t01 hG t.toInt (by omega) (by omega) (by omega))
        rw [cl_n (n := 15110 + 8 * tn + 1) (by omega)] at ew
        obtain ⟨k, hk, rfl, ek, _⟩ := ra_nat hw (by decide)
        have hk2 := hw.2
        refine z_callVI zh mv_Y_69 dX9_nextOfChain_62 ck_Y rfl (e_X9_has g (k := k) (by omega)) ⟨Nat.le_of_ble_eq_true rfl, Nat.le_of_ble_eq_true rfl⟩ rfl rfl (Nat.le_of_ble_eq_true rfl) ?_
        rintro b _ _ ⟨rfl, rfl, _, hb⟩
        refine z_if_eq (tgt := 71) zh dX9_nextOfChain_65 rfl (fun q5 => ?_) (fun _ => z_goto (tgt := 100) zh dX9_nextOfChain_68 rfl (J100 x hB))
        have hNB : NB iv a4 t := fun t' k' et' ek' => by
          have e1 : t' = tn := by omega
          subst e1
          rw [ew, ← ek] at ek'
          have e2 : k' = k := by omega
          subst e2
          exact hb.mp q5
        have J96 : Z 96 [some (rf g 551), some (.int a1), some (.int a2), some (.int a3), some (.int a4), some (.int x), some (.int t)] [] iv lv := by
          refine z_iload zh dX9_nextOfChain_96 rfl ?_
          refine z_istore zh dX9_nextOfChain_98 (by decide) (L' := [some (rf g 551), some (.int a1), some (.int a2), some (.int a3), some (.int a4), some (.int t), some (.int t)]) rfl ?_
          exact J100 t (fun _ => ⟨ht1, hNB⟩)
        refine z_iload zh dX9_nextOfChain_71 rfl ?_
        refine z_iconst zh dX9_nextOfChain_73 ki_m1 ?_
        refine z_icmp_eq (tgt := 96) zh dX9_nextOfChain_74 rfl (fun _ => J96) (fun q6 => ?_)
        have hx11 := (hB q6).1
        refine z_aloadnR zh dX9_nextOfChain_77 rfl ?_
        refine z_iload zh dX9_nextOfChain_78 rfl ?_
        refine z_bipush zh dX9_nextOfChain_80 kb_6 ?_
        refine z_callVI zh mv_Y_151 dX9_nextOfChain_82 ck_Y rfl (s_X9_tradeOf g ht1 (ra_w rl_6 (by decide) (by decide)) hG) ⟨Nat.le_of_ble_eq_true rfl, Nat.le_of_ble_eq_true rfl⟩ rfl rfl (Nat.le_of_ble_eq_true rfl) ?_
        rintro x8 _ _ ⟨rfl, rfl, z9, ez9, ex8⟩
        refine z_aloadnR zh dX9_nextOfChain_85 rfl ?_
        refine z_iload zh dX9_nextOfChain_86 rfl ?_
        refine z_bipush zh dX9_nextOfChain_88 kb_6 ?_
        refine z_callVI zh mv_Y_151 dX9_nextOfChain_90 ck_Y rfl (s_X9_tradeOf g hx11 (ra_w rl_6 (by decide) (by decide)) hG) ⟨Nat.le_of_ble_eq_true rfl, Nat.le_of_ble_eq_true rfl⟩ rfl rfl (Nat.le_of_ble_eq_true rfl) ?_
        rintro x10 _ _ ⟨rfl, rfl, z11, ez11, ex10⟩
        exact z_icmp_ge (tgt := 100) zh dX9_nextOfChain_93 rfl (fun _ => J100 x hB) (fun _ => J96)
  exact J 201 (-1) (nI 0) (fun q => absurd rfl q) (ra_w rl_0 (by decide) (by decide)) (ms_u0 rl_0 (by decide))

set_option maxHeartbeats 1000000 in
set_option maxRecDepth 20000 in
theorem s_X9_laysChain (g : GE) {sp : Nat → Nat → Bool} {σ : Iv} {iv : Iv} {lv : Lv} {a1 a2 : Int32} (ha1 : Ra 0 199 a1) (hG : SI sp σ iv) : ConV g yX9_laysChain cX9_laysChain 6 none 5 [rf g 551, .int a1, .int a2] iv lv (fun iv lv => SI sp σ iv) := by
  refine con_intro (own := "RollingNetsModel") (by decide +kernel) rfl (Nat.le_of_ble_eq_true rfl) (L0 := [some (rf g 551), some (.int a1), some (.int a2), none, none, none]) rfl (fun Z zh => ?_)
  refine z_aloadnR zh dX9_laysChain_0 rfl ?_
  refine z_iloadn zh dX9_laysChain_1 rfl ?_
  refine z_iconst zh dX9_laysChain_2 ki_2 ?_
  refine z_callVI zh mv_Y_151 dX9_laysChain_3 ck_Y rfl (s_X9_tradeOf g ha1 (ra_w rl_2 (by decide) (by decide)) hG) ⟨Nat.le_of_ble_eq_true rfl, Nat.le_of_ble_eq_true rfl⟩ rfl rfl (Nat.le_of_ble_eq_true rfl) ?_
  rintro x1 _ _ ⟨rfl, rfl, z2, ez2, ex1⟩
  have hx1 : Ra 0 5 x1 := ra_of ex1 (nr_t2 hG a1.toInt (by have := ha1.1; have := ha1.2; have := rl_2.1; have := rl_2.2; omega) (by have := ha1.1; have := ha1.2; have := rl_2.1; have := rl_2.2; omega) (by have := ha1.1; have := ha1.2; have := rl_2.1; have := rl_2.2; omega))
  refine z_istoren zh dX9_laysChain_6 (by decide) (L' := [some (rf g 551), some (.int a1), some (.int a2), some (.int x1), none, none]) rfl ?_
  refine z_iconst zh dX9_laysChain_7 ki_1 ?_
  refine z_aloadnR zh dX9_laysChain_8 rfl ?_
  refine z_iloadn zh dX9_laysChain_9 rfl ?_
  refine z_iconst zh dX9_laysChain_10 ki_0 ?_
  refine z_callVI zh mv_Y_151 dX9_laysChain_11 ck_Y rfl (s_X9_tradeOf g ha1 (ra_w rl_0 (by decide) (by decide)) hG) ⟨Nat.le_of_ble_eq_true rfl, Nat.le_of_ble_eq_true rfl⟩ rfl rfl (Nat.le_of_ble_eq_true rfl) ?_
  rintro x3 _ _ ⟨rfl, rfl, z4, ez4, ex3⟩
  have hx3 : Ra 0 11 x3 := ra_of ex3 (nr_t01 hG a1.toInt (by have := ha1.1; have := ha1.2; have := rl_0.1; have := rl_0.2; omega) (by have := ha1.1; have := ha1.2; have := rl_0.1; have := rl_0.2; omega) (by have := ha1.1; have := ha1.2; have := rl_0.1; have := rl_0.2; omega))
  refine y_ishlT zh dX9_laysChain_14 (fun s0 => ?_)
  refine z_istore zh dX9_laysChain_15 (by decide) (L' := [some (rf g 551), some (.int a1), some (.int a2), some (.int x1), some (.int s0), none]) rfl ?_
  refine z_iloadn zh dX9_laysChain_17 rfl ?_
  refine z_istore zh dX9_laysChain_18 (by decide) (L' := [some (rf g 551), some (.int a1), some (.int a2), some (.int x1), some (.int s0), some (.int a1)]) rfl ?_
  refine z_aloadnR zh dX9_laysChain_20 rfl ?_
  refine z_iconst zh dX9_laysChain_21 ki_0 ?_
  refine z_putI zh fl_Y_220 dX9_laysChain_22 ck_Y rfl rfl (Nat.le_of_ble_eq_true rfl) (Or.inl rfl) ?_
  have hG : SI sp σ (upI iv 551 7 (nI 0)) := si_w (k := 551) (j := 7) hG (by decide) (by decide) (sp_no hG ((spc_Y (q := 0)).trans rfl)) (fun lo hi q => (rx_some (ra_w rl_0 (by decide) (by decide))) lo hi ((rg_Y (q := 0)).symm.trans q))
  have em5 : upI iv 551 7 (nI 0) 551 7 = nI 0 := by rw [upI_at, if_pos ⟨rfl, rfl⟩]
  generalize upI iv 551 7 (nI 0) = iv at hG em5 ⊢
  have J : ∀ (n : Nat) (iv : Iv) (lv : Lv) (s x m : Int32), SI sp σ iv → iv 551 7 = m → 0 ≤ m.toInt → m.toInt ≤ (cb (bt s) 12 : Nat) → (¬ x = -1 → Ra 0 199 x ∧ (m.toInt = 0 ∨ NB iv s x)) → 12 - m.toInt < (n : Int) → Z 25 [some (rf g 551), some (.int a1), some (.int a2), some (.int x1), some (.int s), some (.int x)] [] iv lv := by
    intro n
    induction n with
    | zero => intro iv lv s x m _ _ _ hm _ hn; have := cb_le (bt s) 12; omega
    | succ n ih =>
      intro iv lv s x m hG em hm0 hm hX hn
      have hcb := cb_le (bt s) 12
      refine z_iload zh dX9_laysChain_25 rfl ?_
      refine z_iconst zh dX9_laysChain_27 ki_m1 ?_
      refine z_icmp_eq (tgt := 91) zh dX9_laysChain_28 rfl (fun _ => z_vret zh dX9_laysChain_91 ⟨rfl, hG⟩) (fun q => ?_)
      obtain ⟨hx, hN⟩ := hX q
      have ux1 := hx.1; have ux2 := hx.2; have o1 := rl_1.1; have o2 := rl_1.2
      obtain ⟨tn, etn⟩ : ∃ tn : Nat, (tn : Int) = x.toInt := ⟨x.toInt.toNat, by omega⟩
      obtain ⟨w, ew⟩ : ∃ w, iv 552 (15110 + 8 * tn + 1) = w := ⟨_, rfl⟩
      have hw : Ra 0 11 w := ra_of ew (nr_j hG ((rN_t (t := (tn : Int)) (c := 1) ⟨by omega, by omega⟩ (by decide) (by omega)).trans (if_pos (by decide))))
      obtain ⟨k, hk, ewk, ek, _⟩ := ra_nat hw (by decide)
      have hk2 := hw.2
      have hm11 : m.toInt ≤ 11 := by
        rcases hN with e | e
        · omega
        · have := cb_lt 12 (by omega) (e tn k etn (by rw [ew]; omega))
          omega
      have hmr : Ra 0 11 m := ⟨hm0, hm11⟩
      refine z_aloadnR zh dX9_laysChain_31 rfl ?_
      refine z_getf zh fl_Y_23 dX9_laysChain_32 ck_Y rfl rfl ?_
      refine z_aloadnR zh dX9_laysChain_35 rfl ?_
      refine z_getI (x := m) zh fl_Y_220 dX9_laysChain_36 ck_Y rfl rfl em ?_
      refine z_iload zh dX9_laysChain_39 rfl ?_
      refine z_iast zh ck_ychain dX9_laysChain_41 (ra_in hmr (by decide) (by decide)) ?_
      have hG : SI sp σ (upI iv 556 m.toNatClampNeg x) := si_wY hG 5 (by decide) (by decide) rfl (rx_some hx)
      have em6 := (upI_ne (iv := iv) (k := 556) (j := m.toNatClampNeg) (x := x) (a := 551) (b := 7) (Or.inl (by decide))).trans em
      have em7 := (upI_ne (iv := iv) (k := 556) (j := m.toNatClampNeg) (x := x) (a := 552) (b := (15110 + 8 * tn + 1)) (Or.inl (by decide))).trans ew
      generalize upI iv 556 m.toNatClampNeg x = iv at hG em6 em7 ⊢
      refine z_aloadnR zh dX9_laysChain_42 rfl ?_
      refine z_aloadnR zh dX9_laysChain_43 rfl ?_
      refine z_getI (x := m) zh fl_Y_220 dX9_laysChain_44 ck_Y rfl rfl em6 ?_
      refine z_iconst zh dX9_laysChain_47 ki_1 ?_
      refine y_iadd zh dX9_laysChain_48 hmr rl_1 (u := 1) (v := 12) rfl rfl (by decide) (by decide) (fun x8 hc8 hx8 => ?_)
      refine z_putI zh fl_Y_220 dX9_laysChain_49 ck_Y rfl rfl (Nat.le_of_ble_eq_true rfl) (Or.inl rfl) ?_
      have hG : SI sp σ (upI iv 551 7 x8) := si_w (k := 551) (j := 7) hG (by decide) (by decide) (sp_no hG ((spc_Y (q := 0)).trans rfl)) (fun lo hi q => (rx_some (ra_w hx8 (by decide) (by decide))) lo hi ((rg_Y (q := 0)).symm.trans q))
      have em9 := (upI_ne (iv := iv) (k := 551) (j := 7) (x := x8) (a := 552) (b := (15110 + 8 * tn + 1)) (Or.inl (by decide))).trans em7
      have em10 : upI iv 551 7 x8 551 7 = x8 := by rw [upI_at, if_pos ⟨rfl, rfl⟩]
      generalize upI iv 551 7 x8 = iv at hG em9 em10 ⊢
      refine z_aloadnR zh dX9_laysChain_52 rfl ?_
      refine z_aloadnR zh dX9_laysChain_53 rfl ?_
      refine z_iload zh dX9_laysChain_54 rfl ?_
      refine z_iconst zh dX9_laysChain_56 ki_1 ?_
      refine z_callVI zh mv_Y_151 dX9_laysChain_57 ck_Y rfl (s_X9_tradeOf g hx (ra_w rl_1 (by decide) (by decide)) hG) ⟨Nat.le_of_ble_eq_true rfl, Nat.le_of_ble_eq_true rfl⟩ rfl rfl (Nat.le_of_ble_eq_true rfl) ?_
      rintro w2 _ _ ⟨rfl, rfl, z, ez, ew2⟩
      rw [cl_n (n := 15110 + 8 * tn + 1) (by omega)] at ew2
      have e12 : w2 = w := ew2.symm.trans em9
      subst e12
      refine z_putI zh fl_Y_223 dX9_laysChain_60 ck_Y rfl rfl (Nat.le_of_ble_eq_true rfl) (Or.inl rfl) ?_
      have hG : SI sp σ (upI iv 551 9 w2) := si_w (k := 551) (j := 9) hG (by decide) (by decide) (sp_no hG ((spc_Y (q := 0)).trans rfl)) (fun lo hi q => (rx_some hw) lo hi ((rg_Y (q := 0)).symm.trans q))
      have em11 := (upI_ne (iv := iv) (k := 551) (j := 9) (x := w2) (a := 552) (b := (15110 + 8 * tn + 1)) (Or.inl (by decide))).trans em9
      have em12 := (upI_ne (iv := iv) (k := 551) (j := 9) (x := w2) (a := 551) (b := 7) (Or.inr (by decide))).trans em10
      have em13 : upI iv 551 9 w2 551 9 = w2 := by rw [upI_at, if_pos ⟨rfl, rfl⟩]
      generalize upI iv 551 9 w2 = iv at hG em11 em12 em13 ⊢
      refine z_iload zh dX9_laysChain_63 rfl ?_
      refine z_iconst zh dX9_laysChain_65 ki_1 ?_
      refine z_aloadnR zh dX9_laysChain_66 rfl ?_
      refine z_getI (x := w2) zh fl_Y_223 dX9_laysChain_67 ck_Y rfl rfl em13 ?_
      subst ewk
      refine z_ishl zh dX9_laysChain_70 ?_
      refine z_ior zh dX9_laysChain_71 ?_
      refine z_istore zh dX9_laysChain_72 (by decide) (L' := [some (rf g 551), some (.int a1), some (.int a2), some (.int x1), some (.int (s ||| (nI 1 <<< (nI k &&& 31)))), some (.int x)]) rfl ?_
      refine z_aloadnR zh dX9_laysChain_74 rfl ?_
      refine z_aloadnR zh dX9_laysChain_75 rfl ?_
      refine z_getI (x := nI k) zh fl_Y_223 dX9_laysChain_76 ck_Y rfl rfl em13 ?_
      refine z_iloadn zh dX9_laysChain_79 rfl ?_
      refine z_iloadn zh dX9_laysChain_80 rfl ?_
      refine z_iload zh dX9_laysChain_81 rfl ?_
      refine z_callVI zh mv_Y_226 dX9_laysChain_83 ck_Y rfl (e_X9_nextOfChain g hw hx1 hG) ⟨Nat.le_of_ble_eq_true rfl, Nat.le_of_ble_eq_true rfl⟩ rfl rfl (Nat.le_of_ble_eq_true rfl) ?_
      rintro y _ _ ⟨rfl, rfl, hy, hB⟩
      refine z_istore zh dX9_laysChain_86 (by decide) (L' := [some (rf g 551), some (.int a1), some (.int a2), some (.int x1), some (.int (s ||| (nI 1 <<< (nI k &&& 31)))), some (.int y)]) rfl ?_
      refine z_goto (tgt := 25) zh dX9_laysChain_88 rfl ?_
      have hc1 : x8.toInt = m.toInt + 1 := add1 hc8
      have hput : ∀ i, i < 12 → bt (s ||| (nI 1 <<< (nI k &&& 31))) i = (bt s i || decide (i = k)) := fun i hi => bt_put s (by omega) (by omega)
      have hge : m.toInt + 1 ≤ (cb (bt (s ||| (nI 1 <<< (nI k &&& 31)))) 12 : Nat) := by
        rcases hN with e | e
        · have h1 : bt (s ||| (nI 1 <<< (nI k &&& 31))) k = true := by rw [hput k (by omega)]; simp
          have := cb_pos 12 (by omega) h1
          omega
        · have h1 := cb_put 12 (by omega) hput (e tn k etn (by rw [ew]; omega))
          omega
      refine ih iv lv _ y x8 hG em12 (by omega) (by omega) (fun q2 => ⟨?_, Or.inr (hB q2)⟩) (by omega)
      exact rb_ne_lo hy rl_n1 q2 (by decide)
  have o0 := rl_0.1; have o1 := rl_0.2
  exact J 13 iv lv s0 a1 (nI 0) hG em5 (by omega) (by omega) (fun _ => ⟨ha1, Or.inl (by omega)⟩) (by omega)
