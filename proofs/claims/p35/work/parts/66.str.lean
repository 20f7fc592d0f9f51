/-! TEXTS -/
abbrev cJlen : ByteArray := prog_13_method_54_code
def yJlen : MethodName := ⟨"java/lang/String", "length", "()I"⟩
theorem dJlen_0 : decode cJlen 0 = .ok (.aload_n 0, 1) := by decide +kernel
theorem dJlen_1 : decode cJlen 1 = .ok (.getfield 9, 3) := by decide +kernel
theorem dJlen_4 : decode cJlen 4 = .ok (.arraylength, 1) := by decide +kernel
theorem dJlen_5 : decode cJlen 5 = .ok (.aload_n 0, 1) := by decide +kernel
theorem dJlen_6 : decode cJlen 6 = .ok (.invokevirtual 335, 3) := by decide +kernel
theorem dJlen_9 : decode cJlen 9 = .ok (.ishr, 1) := by decide +kernel
theorem dJlen_10 : decode cJlen 10 = .ok (.ireturn, 1) := by decide +kernel
theorem wJlen : Cond.code yJlen cJlen 1 (some .int) ∈ TBL := TBL_mem 796 (by decide +kernel) (by decide +kernel)
abbrev cJcod : ByteArray := prog_13_method_152_code
def yJcod : MethodName := ⟨"java/lang/String", "coder", "()B"⟩
theorem dJcod_0 : decode cJcod 0 = .ok (.getstatic 38, 3) := by decide +kernel
theorem dJcod_3 : decode cJcod 3 = .ok (.ifCond .eq 10, 3) := by decide +kernel
theorem dJcod_6 : decode cJcod 6 = .ok (.aload_n 0, 1) := by decide +kernel
theorem dJcod_7 : decode cJcod 7 = .ok (.getfield 15, 3) := by decide +kernel
theorem dJcod_10 : decode cJcod 10 = .ok (.goto 4, 3) := by decide +kernel
theorem dJcod_13 : decode cJcod 13 = .ok (.iconst 1, 1) := by decide +kernel
theorem dJcod_14 : decode cJcod 14 = .ok (.ireturn, 1) := by decide +kernel
theorem wJcod : Cond.code yJcod cJcod 1 (some .byte) ∈ TBL := TBL_mem 800 (by decide +kernel) (by decide +kernel)
abbrev cJlat : ByteArray := prog_13_method_154_code
def yJlat : MethodName := ⟨"java/lang/String", "isLatin1", "()Z"⟩
theorem dJlat_0 : decode cJlat 0 = .ok (.getstatic 38, 3) := by decide +kernel
theorem dJlat_3 : decode cJlat 3 = .ok (.ifCond .eq 14, 3) := by decide +kernel
theorem dJlat_6 : decode cJlat 6 = .ok (.aload_n 0, 1) := by decide +kernel
theorem dJlat_7 : decode cJlat 7 = .ok (.getfield 15, 3) := by decide +kernel
theorem dJlat_10 : decode cJlat 10 = .ok (.ifCond .ne 7, 3) := by decide +kernel
theorem dJlat_13 : decode cJlat 13 = .ok (.iconst 1, 1) := by decide +kernel
theorem dJlat_14 : decode cJlat 14 = .ok (.goto 4, 3) := by decide +kernel
theorem dJlat_17 : decode cJlat 17 = .ok (.iconst 0, 1) := by decide +kernel
theorem dJlat_18 : decode cJlat 18 = .ok (.ireturn, 1) := by decide +kernel
theorem wJlat : Cond.code yJlat cJlat 1 (some .boolean) ∈ TBL := TBL_mem 810 (by decide +kernel) (by decide +kernel)
abbrev cJcha : ByteArray := prog_13_method_56_code
def yJcha : MethodName := ⟨"java/lang/String", "charAt", "(I)C"⟩
theorem dJcha_0 : decode cJcha 0 = .ok (.aload_n 0, 1) := by decide +kernel
theorem dJcha_1 : decode cJcha 1 = .ok (.invokevirtual 492, 3) := by decide +kernel
theorem dJcha_4 : decode cJcha 4 = .ok (.ifCond .eq 12, 3) := by decide +kernel
theorem dJcha_7 : decode cJcha 7 = .ok (.aload_n 0, 1) := by decide +kernel
theorem dJcha_8 : decode cJcha 8 = .ok (.getfield 9, 3) := by decide +kernel
theorem dJcha_11 : decode cJcha 11 = .ok (.iload_n 1, 1) := by decide +kernel
theorem dJcha_12 : decode cJcha 12 = .ok (.invokestatic 495, 3) := by decide +kernel
theorem dJcha_15 : decode cJcha 15 = .ok (.ireturn, 1) := by decide +kernel
theorem wJcha : Cond.code yJcha cJcha 2 (some .char) ∈ TBL := TBL_mem 806 (by decide +kernel) (by decide +kernel)
abbrev cJch1 : ByteArray := prog_14_method_2_code
def yJch1 : MethodName := ⟨"java/lang/StringLatin1", "charAt", "([BI)C"⟩
theorem dJch1_0 : decode cJch1 0 = .ok (.iload_n 1, 1) := by decide +kernel
theorem dJch1_1 : decode cJch1 1 = .ok (.aload_n 0, 1) := by decide +kernel
theorem dJch1_2 : decode cJch1 2 = .ok (.arraylength, 1) := by decide +kernel
theorem dJch1_3 : decode cJch1 3 = .ok (.invokestatic 9, 3) := by decide +kernel
theorem dJch1_6 : decode cJch1 6 = .ok (.aload_n 0, 1) := by decide +kernel
theorem dJch1_7 : decode cJch1 7 = .ok (.iload_n 1, 1) := by decide +kernel
theorem dJch1_8 : decode cJch1 8 = .ok (.baload, 1) := by decide +kernel
theorem dJch1_9 : decode cJch1 9 = .ok (.sipush 255, 3) := by decide +kernel
theorem dJch1_12 : decode cJch1 12 = .ok (.iand, 1) := by decide +kernel
theorem dJch1_13 : decode cJch1 13 = .ok (.i2c, 1) := by decide +kernel
theorem dJch1_14 : decode cJch1 14 = .ok (.ireturn, 1) := by decide +kernel
theorem wJch1 : Cond.code yJch1 cJch1 2 (some .char) ∈ TBL := TBL_mem 813 (by decide +kernel) (by decide +kernel)
abbrev cJchk : ByteArray := prog_13_method_155_code
def yJchk : MethodName := ⟨"java/lang/String", "checkIndex", "(II)V"⟩
theorem dJchk_0 : decode cJchk 0 = .ok (.iload_n 0, 1) := by decide +kernel
theorem dJchk_1 : decode cJchk 1 = .ok (.iload_n 1, 1) := by decide +kernel
theorem dJchk_2 : decode cJchk 2 = .ok (.getstatic 1053, 3) := by decide +kernel
theorem dJchk_5 : decode cJchk 5 = .ok (.invokestatic 1059, 3) := by decide +kernel
theorem dJchk_8 : decode cJchk 8 = .ok (.pop, 1) := by decide +kernel
theorem dJchk_9 : decode cJchk 9 = .ok (.return_, 1) := by decide +kernel
theorem wJchk : Cond.code yJchk cJchk 2 none ∈ TBL := TBL_mem 816 (by decide +kernel) (by decide +kernel)
abbrev cJpre : ByteArray := prog_17_method_11_code
def yJpre : MethodName := ⟨"jdk/internal/util/Preconditions", "checkIndex", "(IILjava/util/function/BiFunction;)I"⟩
theorem dJpre_0 : decode cJpre 0 = .ok (.iload_n 0, 1) := by decide +kernel
theorem dJpre_1 : decode cJpre 1 = .ok (.ifCond .lt 8, 3) := by decide +kernel
theorem dJpre_4 : decode cJpre 4 = .ok (.iload_n 0, 1) := by decide +kernel
theorem dJpre_5 : decode cJpre 5 = .ok (.iload_n 1, 1) := by decide +kernel
theorem dJpre_6 : decode cJpre 6 = .ok (.if_icmp .lt 10, 3) := by decide +kernel
theorem dJpre_16 : decode cJpre 16 = .ok (.iload_n 0, 1) := by decide +kernel
theorem dJpre_17 : decode cJpre 17 = .ok (.ireturn, 1) := by decide +kernel
theorem wJpre : Cond.code yJpre cJpre 3 (some .int) ∈ TBL := TBL_mem 821 (by decide +kernel) (by decide +kernel)
/-- a call on a text -/
def MO (own : String) (idx : Nat) (y : MethodName) (b : ByteArray) (n : Nat) (ret : Option FieldType) (na : Nat) : Prop := ML own idx y b n ret na ∧ Cond.instanceMethod y ∈ TBL ∧ Cond.selects y.cls y y ∈ TBL ∧ y.cls = "java/lang/String"
theorem mo_Reader_65 : MO "RollingNets$Reader" 65 yJlen cJlen 1 (some .int) 0 := ⟨⟨Or.inl (TBL_mem 793 (by decide +kernel) (by decide +kernel)), (TBL_mem 123 (by decide +kernel) (by decide +kernel)), wJlen, by decide +kernel⟩, (TBL_mem 794 (by decide +kernel) (by decide +kernel)), (TBL_mem 795 (by decide +kernel) (by decide +kernel)), rfl⟩
theorem mo_Reader_72 : MO "RollingNets$Reader" 72 yJcha cJcha 2 (some .char) 1 := ⟨⟨Or.inl (TBL_mem 803 (by decide +kernel) (by decide +kernel)), (TBL_mem 123 (by decide +kernel) (by decide +kernel)), wJcha, by decide +kernel⟩, (TBL_mem 804 (by decide +kernel) (by decide +kernel)), (TBL_mem 805 (by decide +kernel) (by decide +kernel)), rfl⟩
theorem mo_S_335 : MO "java/lang/String" 335 yJcod cJcod 1 (some .byte) 0 := ⟨⟨Or.inl (TBL_mem 797 (by decide +kernel) (by decide +kernel)), (TBL_mem 123 (by decide +kernel) (by decide +kernel)), wJcod, by decide +kernel⟩, (TBL_mem 798 (by decide +kernel) (by decide +kernel)), (TBL_mem 799 (by decide +kernel) (by decide +kernel)), rfl⟩
theorem mo_S_492 : MO "java/lang/String" 492 yJlat cJlat 1 (some .boolean) 0 := ⟨⟨Or.inl (TBL_mem 807 (by decide +kernel) (by decide +kernel)), (TBL_mem 123 (by decide +kernel) (by decide +kernel)), wJlat, by decide +kernel⟩, (TBL_mem 808 (by decide +kernel) (by decide +kernel)), (TBL_mem 809 (by decide +kernel) (by decide +kernel)), rfl⟩
theorem ms_S_495 : MS "java/lang/String" 495 yJch1 cJch1 2 (some .char) 2 := ⟨⟨Or.inl (TBL_mem 811 (by decide +kernel) (by decide +kernel)), (TBL_mem 124 (by decide +kernel) (by decide +kernel)), wJch1, by decide +kernel⟩, (TBL_mem 812 (by decide +kernel) (by decide +kernel))⟩
theorem ms_S1_9 : MS "java/lang/StringLatin1" 9 yJchk cJchk 2 none 2 := ⟨⟨Or.inl (TBL_mem 814 (by decide +kernel) (by decide +kernel)), (TBL_mem 123 (by decide +kernel) (by decide +kernel)), wJchk, by decide +kernel⟩, (TBL_mem 815 (by decide +kernel) (by decide +kernel))⟩
theorem ms_S_1059 : MS "java/lang/String" 1059 yJpre cJpre 3 (some .int) 3 := ⟨⟨Or.inl (TBL_mem 819 (by decide +kernel) (by decide +kernel)), (TBL_mem 125 (by decide +kernel) (by decide +kernel)), wJpre, by decide +kernel⟩, (TBL_mem 820 (by decide +kernel) (by decide +kernel))⟩
theorem ms_Reader_69 : MS "RollingNets$Reader" 69 yX6_shapeOf cX6_shapeOf 1 (some (.object "java/lang/String")) 1 := ⟨⟨Or.inl (TBL_mem 851 (by decide +kernel) (by decide +kernel)), tm_117, (TBL_mem 853 (by decide +kernel) (by decide +kernel)), by decide +kernel⟩, (TBL_mem 852 (by decide +kernel) (by decide +kernel))⟩
theorem fs_38 : Cond.fieldLink "java/lang/String" 38 "java/lang/String" "COMPACT_STRINGS" "Z" ∈ TBL := (TBL_mem 801 (by decide +kernel) (by decide +kernel))
theorem fs_1053 : Cond.fieldLink "java/lang/String" 1053 "jdk/internal/util/Preconditions" "SIOOBE_FORMATTER" "Ljava/util/function/BiFunction;" ∈ TBL := (TBL_mem 817 (by decide +kernel) (by decide +kernel))
theorem fs_9 : Cond.fieldLink "java/lang/String" 9 "java/lang/String" "value" "[B" ∈ TBL := (TBL_mem 1698 (by decide +kernel) (by decide +kernel))
theorem fs_15 : Cond.fieldLink "java/lang/String" 15 "java/lang/String" "coder" "B" ∈ TBL := (TBL_mem 1699 (by decide +kernel) (by decide +kernel))
section ZS
variable {g : GE} {own : String} {cc : ByteArray} {nL : Nat} {ret : Option FieldType} {R : Room} {scr : Option (Nat × Nat × (Nat → Int32))} {Q : Option Value → Iv → Lv → Prop} {Z : ZT} {pc : Nat} {L : LO} {st : List Value} {iv : Iv} {lv : Lv}
/-- text i, and its bytes -/
abbrev rs (g : GE) (i : Nat) : Value := .ref (gt g (3 + i))
abbrev rv (g : GE) (i : Nat) : Value := .ref (gt g (20 + i))
theorem z_ldcS (h : Rw g "RollingNets$Reader" cc nL ret R scr Q Z) {i idx : Nat} (hd : decode cc pc = .ok (.ldc idx, 2)) (hi : i < 17) (hj : idx = 103 + 2 * i) (kk : Z (pc + 2) L (rs g i :: st) iv lv) : Z pc L st iv lv := by
  subst hj
  obtain ⟨p, e, s, m, args, below, meth, c, cells, slots, A, H0, QS, hx, hb, hml, hown, hts, hK, hf, hscr, hfin, hZ⟩ := h
  rw [hZ] at kk ⊢
  intro H ls locs hM hS hL
  exact va_ldcS hx hb hown (hK.2.2.2 i hi) hd (kk H ls locs hM hS hL)
theorem z_getCod (h : Rw g own cc nL ret R scr Q Z) {i idx : Nat} (hl : Cond.fieldLink own idx "java/lang/String" "coder" "B" ∈ TBL) (hd : decode cc pc = .ok (.getfield idx, 3)) (hi : i < 17) (kk : Z (pc + 3) L (.int 0 :: st) iv lv) : Z pc L (rs g i :: st) iv lv := by
  obtain ⟨p, e, s, m, args, below, meth, c, cells, slots, A, H0, QS, hx, hb, hml, hown, hts, hK, hf, hscr, hfin, hZ⟩ := h
  rw [hZ] at kk ⊢
  intro H ls locs hM hS hL
  exact va_getX (N := 17) (v := fun _ => .int 0) (ad := fun i => gt g (3 + i)) (i := i) hx hb (fun j hj => (hK.2.1.2.2 j hj).1.2) hi hS hown (hts _ hl) (fun _ h9 => h9) hd (kk H ls locs hM hS hL)
theorem z_getVal (h : Rw g own cc nL ret R scr Q Z) {i idx : Nat} (hl : Cond.fieldLink own idx "java/lang/String" "value" "[B" ∈ TBL) (hd : decode cc pc = .ok (.getfield idx, 3)) (hi : i < 17) (kk : Z (pc + 3) L (rv g i :: st) iv lv) : Z pc L (rs g i :: st) iv lv := by
  obtain ⟨p, e, s, m, args, below, meth, c, cells, slots, A, H0, QS, hx, hb, hml, hown, hts, hK, hf, hscr, hfin, hZ⟩ := h
  rw [hZ] at kk ⊢
  intro H ls locs hM hS hL
  exact va_getX (N := 17) (v := fun i => .ref (gt g (20 + i))) (ad := fun i => gt g (3 + i)) (i := i) hx hb (fun j hj => (hK.2.1.2.2 j hj).2.1) hi hS hown (hts _ hl) (fun _ h9 => h9) hd (kk H ls locs hM hS hL)
theorem z_getCom (h : Rw g own cc nL ret R scr Q Z) {idx : Nat} (hl : Cond.fieldLink own idx "java/lang/String" "COMPACT_STRINGS" "Z" ∈ TBL) (hd : decode cc pc = .ok (.getstatic idx, 3)) (kk : Z (pc + 3) L (.int 1 :: st) iv lv) : Z pc L st iv lv := by
  obtain ⟨p, e, s, m, args, below, meth, c, cells, slots, A, H0, QS, hx, hb, hml, hown, hts, hK, hf, hscr, hfin, hZ⟩ := h
  rw [hZ] at kk ⊢
  intro H ls locs hM hS hL
  exact va_gets hx hb hK.2.1.2.1.1 hS hown (hts _ hl) (fun _ h9 => h9) hd (kk H ls locs hM hS hL)
theorem z_getFor (h : Rw g own cc nL ret R scr Q Z) {idx : Nat} (hl : Cond.fieldLink own idx "jdk/internal/util/Preconditions" "SIOOBE_FORMATTER" "Ljava/util/function/BiFunction;" ∈ TBL) (hd : decode cc pc = .ok (.getstatic idx, 3)) (k1 : Z (pc + 3) L (.null :: st) iv lv) (k2 : ∀ t : Nat, Z (pc + 3) L (.ref t :: st) iv lv) : Z pc L st iv lv := by
  obtain ⟨p, e, s, m, args, below, meth, c, cells, slots, A, H0, QS, hx, hb, hml, hown, hts, hK, hf, hscr, hfin, hZ⟩ := h
  rw [hZ] at k1 ⊢
  intro H ls locs hM hS hL
  rcases hK.2.1.2.1.2 with hq | ⟨t, hq⟩
  · exact va_gets hx hb hq hS hown (hts _ hl) (fun _ h9 => h9) hd (k1 H ls locs hM hS hL)
  · exact va_gets hx hb hq hS hown (hts _ hl) (fun _ h9 => h9) hd ((hZ _ _ _ _ _).mp (k2 t) H ls locs hM hS hL)
theorem z_blen (h : Rw g own cc nL ret R scr Q Z) {i : Nat} (hd : decode cc pc = .ok (.arraylength, 1)) (hi : i < 17) (kk : Z (pc + 1) L (.int (nI (sTx i).length) :: st) iv lv) : Z pc L (rv g i :: st) iv lv := by
  obtain ⟨p, e, s, m, args, below, meth, c, cells, slots, A, H0, QS, hx, hb, hml, hown, hts, hK, hf, hscr, hfin, hZ⟩ := h
  rw [hZ] at kk ⊢
  intro H ls locs hM hS hL
  exact va_tlen hx hb (hK.2.1.2.2 i hi).2.2 hS rfl hd (kk H ls locs hM hS hL)
theorem z_bald8 (h : Rw g own cc nL ret R scr Q Z) {i j : Nat} (hd : decode cc pc = .ok (.baload, 1)) (hi : i < 17) (hj : j < (sTx i).length) (h31 : (sTx i).length < 2 ^ 31) (kk : Z (pc + 1) L (.int ((sTx i).getD j 0) :: st) iv lv) : Z pc L (.int (nI j) :: rv g i :: st) iv lv := by
  obtain ⟨p, e, s, m, args, below, meth, c, cells, slots, A, H0, QS, hx, hb, hml, hown, hts, hK, hf, hscr, hfin, hZ⟩ := h
  rw [hZ] at kk ⊢
  intro H ls locs hM hS hL
  exact va_tb hx hb (hK.2.1.2.2 i hi).2.2 hS (vp_in_nI hj h31) (by rw [nI_clamp (by omega)]) hd (kk H ls locs hM hS hL)
theorem z_i2c (h : Rw g own cc nL ret R scr Q Z) {x v : Int32} (hd : decode cc pc = .ok (.i2c, 1)) (hv : (x.toUInt32 % 65536).toInt32 = v) (kk : Z (pc + 1) L (.int v :: st) iv lv) : Z pc L (.int x :: st) iv lv := by
  obtain ⟨p, e, s, m, args, below, meth, c, cells, slots, A, H0, QS, hx, hb, hml, hown, hts, hK, hf, hscr, hfin, hZ⟩ := h
  rw [hZ] at kk ⊢
  intro H ls locs hM hS hL
  exact lv_i2c hx hb hd hv (kk H ls locs hM hS hL)
theorem z_sret (h : Rw g own cc nL (some (.object "java/lang/String")) R scr Q Z) {q : Nat} (hd : decode cc pc = .ok (.areturn, 1)) (hq : Q (some (.ref q)) iv lv) : Z pc L [.ref q] iv lv := z_ret (v := some (.ref q)) h ⟨rfl, hd⟩ hq
theorem z_bret (h : Rw g own cc nL (some .byte) R scr Q Z) {x : Int32} (hd : decode cc pc = .ok (.ireturn, 1)) (hn : narrow .byte (.int x) = .int x) (hq : Q (some (.int x)) iv lv) : Z pc L [.int x] iv lv := z_ret (v := some (.int x)) h ⟨Or.inr (Or.inr (Or.inl ⟨rfl, hn⟩)), hd⟩ hq
theorem z_cret (h : Rw g own cc nL (some .char) R scr Q Z) {x : Int32} (hd : decode cc pc = .ok (.ireturn, 1)) (hn : narrow .char (.int x) = .int x) (hq : Q (some (.int x)) iv lv) : Z pc L [.int x] iv lv := z_ret (v := some (.int x)) h ⟨Or.inr (Or.inr (Or.inr ⟨rfl, hn⟩)), hd⟩ hq
theorem z_callO (h : Rw g own cc nL ret R scr Q Z) {idx na n d i : Nat} {y : MethodName} {b : ByteArray} {rt : Option FieldType} {As stk : List Value} {Qf : Int32 → Iv → Lv → Prop}
    (hV : MO own idx y b n rt na) (hd : decode cc pc = .ok (.invokevirtual idx, 3)) (hi : i < 17)
    (hc : ConI g y b n rt d (rs g i :: As) iv lv Qf) (hR : d + 1 ≤ R.frames ∧ 8 + (n + 11) + 40 * d ≤ R.locals) (hn : As.length = na) (hstk : stk = As.reverse ++ rs g i :: st) (hw : (st.map fun v => v.category).sum ≤ 8)
    (kk : ∀ x iv' lv', Qf x iv' lv' → Z (pc + 3) L (.int x :: st) iv' lv') : Z pc L stk iv lv := by
  obtain ⟨p, e, s, m, args, below, meth, c, cells, slots, A, H0, QS, hx, hb, hml, hown, hts, hK, hf, hscr, hfin, hZ⟩ := h
  rw [hZ]
  intro H ls locs hM hS hL
  subst hstk
  obtain ⟨⟨hl, hini, hcode, hdd⟩, hin, hsel, hcls⟩ := hV
  have hc : Con g y b n rt d (rs g i :: As) iv lv (fun v iv' lv' => ∃ r, v = some (.int r) ∧ Qf r iv' lv') := hc
  have hrecv : ∃ cell : Cell, H[gt g (3 + i)]? = some cell ∧ cell.vm.isStatics = false ∧ s.vm.findClass y.cls = some cell.cls := by rw [hcls]; exact va_Orecv (hK.2.1.2.2 i hi).1.1 hS
  have hG := TBL_code hcode
  have hfix : CallFix p m c cc nL s args TBL own := ⟨hx, hb, hml, hown, hts⟩
  have hgo : va_Run p (gL g) e R s m args below meth c H locs cells slots 0 0 (F0 m pc ls (As.reverse ++ rs g i :: st)) st ((fun (_ : Array Value) st oc t => ∃ v iv' lv', oc = .returned v ∧ (∃ r, v = some (.int r) ∧ Qf r iv' lv') ∧ Mo g iv' lv' t.heap ∧ va_F (gA g) st t) (rs g i :: As).toArray) (gA g) := by
    rcases hl with hl | ⟨host, hl⟩
    · have cw : CallW R s args own y.cls idx y b n rt (.code y b n rt :: TBL) (rmd d) 0 0 na := ⟨callB_of na hts hG rfl rfl rfl (hts _ hini) (hts _ hl) hdd hR, hts _ hin, hts _ hsel⟩
      exact va_runV (b := gt g (3 + i)) hfix hc cw ⟨zw_blind, hrecv, zw_pre (as := rs g i :: As) hM hK hS⟩ rfl hn hL.1 rfl (lv_room hw) hd hf
    · have cw := va_cnB (own := own) (host := host) (index := idx) (y := y) (ws := .code y b n rt :: TBL) (rm := rmd d) (R := R) na hts hG rfl rfl rfl (hK.2.2.1 _ hl) (hts _ hini) hdd hR
      exact va_runVN (b := gt g (3 + i)) hfix hc ⟨cw, hts _ hin, hts _ hsel⟩ ⟨zw_blind, hrecv, zw_pre (as := rs g i :: As) hM hK hS⟩ rfl hn hL.1 rfl (lv_room hw) hd hf
  exact zw_call (a := args) hgo hS (fun v iv' lv' H1 locs1 q1 q2 q3 => by
    obtain ⟨r, rfl, q1⟩ := q1
    exact (hZ _ _ _ _ _).mp (kk r iv' lv' q1) H1 ls locs1 q2 q3 hL)
theorem z_callOp (h : Rw g own cc nL ret R scr Q Z) {idx na n d i : Nat} {y : MethodName} {b : ByteArray} {rt : Option FieldType} {As stk : List Value} {x : Int32}
    (hV : MO own idx y b n rt na) (hd : decode cc pc = .ok (.invokevirtual idx, 3)) (hi : i < 17)
    (hc : ConIp g y b n rt d (rs g i :: As) iv lv x) (hR : d + 1 ≤ R.frames ∧ 8 + (n + 11) + 40 * d ≤ R.locals) (hn : As.length = na) (hstk : stk = As.reverse ++ rs g i :: st) (hw : (st.map fun v => v.category).sum ≤ 8)
    (kk : Z (pc + 3) L (.int x :: st) iv lv) : Z pc L stk iv lv := z_callO h hV hd hi hc hR hn hstk hw (fun x iv' lv' q => by
  obtain ⟨rfl, rfl, rfl⟩ := q
  exact kk)
/-- a call that gives a text -/
theorem z_callST (h : Rw g own cc nL ret R scr Q Z) {idx na n d : Nat} {y : MethodName} {b : ByteArray} {rt : Option FieldType} {As stk : List Value} {P : Nat → Prop}
    (hV : MS own idx y b n rt na) (hd : decode cc pc = .ok (.invokestatic idx, 3)) (hc : Con g y b n rt d As iv lv (fun v iv' lv' => ∃ i, v = some (rs g i) ∧ iv = iv' ∧ lv = lv' ∧ P i)) (hR : d + 1 ≤ R.frames ∧ 8 + (n + 11) + 40 * d ≤ R.locals) (hn : As.length = na) (hstk : stk = As.reverse ++ st) (hw : (st.map fun v => v.category).sum ≤ 8)
    (kk : ∀ i, P i → Z (pc + 3) L (rs g i :: st) iv lv) : Z pc L stk iv lv := z_callS h hV hd hc hR hn hstk hw (fun v iv' lv' q => by
  obtain ⟨i, rfl, rfl, rfl, hp⟩ := q
  exact kk i hp)
end ZS
theorem sTx_31 : ∀ i, i < 17 → (sTx i).length < 8 := by decide +kernel
theorem sTx_nar : ∀ i, i < 17 → ∀ j, j < (sTx i).length → ((((sTx i).getD j 0 &&& nI 255).toUInt32 % 65536).toInt32 = (sTx i).getD j 0 ∧ narrow .char (.int ((sTx i).getD j 0)) = .int ((sTx i).getD j 0)) := by decide +kernel
section JC
variable {g : GE} {iv : Iv} {lv : Lv}
theorem j_preN {x y : Int32} (h0 : ¬ x < 0) (h1 : x < y) : ConIp g yJpre cJpre 3 (some .int) 1 [.int x, .int y, .null] iv lv x := by
  refine con_intro (own := "jdk/internal/util/Preconditions") (by decide +kernel) rfl (Nat.le_of_ble_eq_true rfl) (L0 := [some (.int x), some (.int y), some (.null)]) rfl (fun Z zh => ?_)
  refine z_iloadn zh dJpre_0 rfl ?_
  refine z_if_lt (tgt := 9) zh dJpre_1 rfl (fun q => absurd q h0) (fun _ => ?_)
  refine z_iloadn zh dJpre_4 rfl ?_
  refine z_iloadn zh dJpre_5 rfl ?_
  refine z_icmp_lt (tgt := 16) zh dJpre_6 rfl (fun _ => ?_) (fun q => absurd h1 q)
  refine z_iloadn zh dJpre_16 rfl ?_
  exact z_iret zh dJpre_17 ⟨_, rfl, rfl, rfl, rfl⟩
theorem j_preR {x y : Int32} {t : Nat} (h0 : ¬ x < 0) (h1 : x < y) : ConIp g yJpre cJpre 3 (some .int) 1 [.int x, .int y, .ref t] iv lv x := by
  refine con_intro (own := "jdk/internal/util/Preconditions") (by decide +kernel) rfl (Nat.le_of_ble_eq_true rfl) (L0 := [some (.int x), some (.int y), some (.ref t)]) rfl (fun Z zh => ?_)
  refine z_iloadn zh dJpre_0 rfl ?_
  refine z_if_lt (tgt := 9) zh dJpre_1 rfl (fun q => absurd q h0) (fun _ => ?_)
  refine z_iloadn zh dJpre_4 rfl ?_
  refine z_iloadn zh dJpre_5 rfl ?_
  refine z_icmp_lt (tgt := 16) zh dJpre_6 rfl (fun _ => ?_) (fun q => absurd h1 q)
  refine z_iloadn zh dJpre_16 rfl ?_
  exact z_iret zh dJpre_17 ⟨_, rfl, rfl, rfl, rfl⟩
theorem j_chk {x y : Int32} (h0 : ¬ x < 0) (h1 : x < y) : ConV g yJchk cJchk 2 none 2 [.int x, .int y] iv lv (fun iv' lv' => iv = iv' ∧ lv = lv') := by
  refine con_intro (own := "java/lang/String") (by decide +kernel) rfl (Nat.le_of_ble_eq_true rfl) (L0 := [some (.int x), some (.int y)]) rfl (fun Z zh => ?_)
  have J8 : Z 8 [some (.int x), some (.int y)] [.int x] iv lv := by
    refine z_pop zh dJchk_8 rfl ?_
    exact z_vret zh dJchk_9 ⟨rfl, rfl, rfl⟩
  refine z_iloadn zh dJchk_0 rfl ?_
  refine z_iloadn zh dJchk_1 rfl ?_
  refine z_getFor zh fs_1053 dJchk_2 ?_ (fun t => ?_)
  · exact z_callSIp (As := [.int x, .int y, .null]) zh ms_S_1059 dJchk_5 (j_preN h0 h1) ⟨Nat.le_of_ble_eq_true rfl, Nat.le_of_ble_eq_true rfl⟩ rfl rfl (Nat.le_of_ble_eq_true rfl) J8
  · exact z_callSIp (As := [.int x, .int y, .ref t]) zh ms_S_1059 dJchk_5 (j_preR h0 h1) ⟨Nat.le_of_ble_eq_true rfl, Nat.le_of_ble_eq_true rfl⟩ rfl rfl (Nat.le_of_ble_eq_true rfl) J8
theorem j_ch1 {i j : Nat} (hi : i < 17) (hj : j < (sTx i).length) : ConIp g yJch1 cJch1 2 (some .char) 3 [rv g i, .int (nI j)] iv lv ((sTx i).getD j 0) := by
  have h8 := sTx_31 i hi
  have hn := sTx_nar i hi j hj
  refine con_intro (own := "java/lang/StringLatin1") (by decide +kernel) rfl (Nat.le_of_ble_eq_true rfl) (L0 := [some (rv g i), some (.int (nI j))]) rfl (fun Z zh => ?_)
  refine z_iloadn zh dJch1_0 rfl ?_
  refine z_aloadn zh dJch1_1 rfl ?_
  refine z_blen zh dJch1_2 hi ?_
  refine z_callSV zh ms_S1_9 dJch1_3 (j_chk (nI_pos (by omega)) (nI_lt hj (by omega))) ⟨Nat.le_of_ble_eq_true rfl, Nat.le_of_ble_eq_true rfl⟩ rfl rfl (Nat.le_of_ble_eq_true rfl) ?_
  rintro _ _ ⟨rfl, rfl⟩
  refine z_aloadn zh dJch1_6 rfl ?_
  refine z_iloadn zh dJch1_7 rfl ?_
  refine z_bald8 zh dJch1_8 hi hj (by omega) ?_
  refine z_sipush zh dJch1_9 (by decide +kernel : (Int16.ofInt 255).toInt32 = nI 255) ?_
  refine z_iand zh dJch1_12 ?_
  refine z_i2c zh dJch1_13 hn.1 ?_
  exact z_cret zh dJch1_14 hn.2 ⟨_, rfl, rfl, rfl, rfl⟩
theorem j_lat {i : Nat} (hi : i < 17) : ConIp g yJlat cJlat 1 (some .boolean) 1 [rs g i] iv lv 1 := by
  refine con_intro (own := "java/lang/String") (by decide +kernel) rfl (Nat.le_of_ble_eq_true rfl) (L0 := [some (rs g i)]) rfl (fun Z zh => ?_)
  refine z_getCom zh fs_38 dJlat_0 ?_
  refine z_if_eq (tgt := 17) zh dJlat_3 rfl (fun q => absurd q (by decide)) (fun _ => ?_)
  refine z_aloadn zh dJlat_6 rfl ?_
  refine z_getCod zh fs_15 dJlat_7 hi ?_
  refine z_if_ne (tgt := 17) zh dJlat_10 rfl (fun q => absurd rfl q) (fun _ => ?_)
  refine z_iconst zh dJlat_13 ki_1 ?_
  refine z_goto (tgt := 18) zh dJlat_14 rfl ?_
  exact z_zret zh dJlat_18 (Or.inr rfl) ⟨_, rfl, rfl, rfl, rfl⟩
theorem j_cod {i : Nat} (hi : i < 17) : ConIp g yJcod cJcod 1 (some .byte) 1 [rs g i] iv lv 0 := by
  refine con_intro (own := "java/lang/String") (by decide +kernel) rfl (Nat.le_of_ble_eq_true rfl) (L0 := [some (rs g i)]) rfl (fun Z zh => ?_)
  refine z_getCom zh fs_38 dJcod_0 ?_
  refine z_if_eq (tgt := 13) zh dJcod_3 rfl (fun q => absurd q (by decide)) (fun _ => ?_)
  refine z_aloadn zh dJcod_6 rfl ?_
  refine z_getCod zh fs_15 dJcod_7 hi ?_
  refine z_goto (tgt := 14) zh dJcod_10 rfl ?_
  exact z_bret zh dJcod_14 rfl ⟨_, rfl, rfl, rfl, rfl⟩
theorem j_len {i : Nat} (hi : i < 17) : ConIp g yJlen cJlen 1 (some .int) 2 [rs g i] iv lv (nI (sTx i).length) := by
  have h8 := sTx_31 i hi
  refine con_intro (own := "java/lang/String") (by decide +kernel) rfl (Nat.le_of_ble_eq_true rfl) (L0 := [some (rs g i)]) rfl (fun Z zh => ?_)
  refine z_aloadn zh dJlen_0 rfl ?_
  refine z_getVal zh fs_9 dJlen_1 hi ?_
  refine z_blen zh dJlen_4 hi ?_
  refine z_aloadn zh dJlen_5 rfl ?_
  refine z_callOp zh mo_S_335 dJlen_6 hi (j_cod hi) ⟨Nat.le_of_ble_eq_true rfl, Nat.le_of_ble_eq_true rfl⟩ rfl rfl (Nat.le_of_ble_eq_true rfl) ?_
  refine z_ishr zh dJlen_9 ?_
  have e : nI (sTx i).length >>> ((0 : Int32) &&& 31) = nI (sTx i).length := by
    revert h8
    generalize (sTx i).length = k
    revert k
    decide +kernel
  rw [e]
  exact z_iret zh dJlen_10 ⟨_, rfl, rfl, rfl, rfl⟩
theorem j_cha {i j : Nat} (hi : i < 17) (hj : j < (sTx i).length) : ConIp g yJcha cJcha 2 (some .char) 4 [rs g i, .int (nI j)] iv lv ((sTx i).getD j 0) := by
  refine con_intro (own := "java/lang/String") (by decide +kernel) rfl (Nat.le_of_ble_eq_true rfl) (L0 := [some (rs g i), some (.int (nI j))]) rfl (fun Z zh => ?_)
  refine z_aloadn zh dJcha_0 rfl ?_
  refine z_callOp zh mo_S_492 dJcha_1 hi (j_lat hi) ⟨Nat.le_of_ble_eq_true rfl, Nat.le_of_ble_eq_true rfl⟩ rfl rfl (Nat.le_of_ble_eq_true rfl) ?_
  refine z_if_eq (tgt := 16) zh dJcha_4 rfl (fun q => absurd q (by decide)) (fun _ => ?_)
  refine z_aloadn zh dJcha_7 rfl ?_
  refine z_getVal zh fs_9 dJcha_8 hi ?_
  refine z_iloadn zh dJcha_11 rfl ?_
  refine z_callSIp zh ms_S_495 dJcha_12 (j_ch1 hi hj) ⟨Nat.le_of_ble_eq_true rfl, Nat.le_of_ble_eq_true rfl⟩ rfl rfl (Nat.le_of_ble_eq_true rfl) ?_
  exact z_cret zh dJcha_15 (sTx_nar i hi j hj).2 ⟨_, rfl, rfl, rfl, rfl⟩

end JC
theorem s_X6_wordOf (g : GE) {sp : Nat → Nat → Bool} {σ iv : Iv} {lv : Lv} {a1 : Int32} (_ : SI sp σ iv) : Con g yX6_wordOf cX6_wordOf 1 (some (.object "java/lang/String")) 1 [.int a1] iv lv (fun v iv' lv' => ∃ i, v = some (rs g i) ∧ iv = iv' ∧ lv = lv' ∧ (i < 10 ∧ (Ra 0 9 a1 → (i : Int) = a1.toInt))) := by
  refine con_intro (own := "RollingNets$Reader") (by decide +kernel) rfl (Nat.le_of_ble_eq_true rfl) (L0 := [some (.int a1)]) rfl (fun Z zh => ?_)
  refine z_iloadn zh dX6_wordOf_0 rfl ?_
  by_cases h : Ra 0 8 a1
  · obtain ⟨j, hj, rfl, e, f⟩ := ra_nat h (by decide)
    have h2 := h.2
    rcases (by omega : j = 0 ∨ j = 1 ∨ j = 2 ∨ j = 3 ∨ j = 4 ∨ j = 5 ∨ j = 6 ∨ j = 7 ∨ j = 8) with rfl | rfl | rfl | rfl | rfl | rfl | rfl | rfl | rfl
    · refine z_tabIn (off := 51) (tgt := 52) zh dX6_wordOf_1 (by decide) (by decide) (by decide +kernel) rfl ?_
      refine z_ldcS (i := 0) zh dX6_wordOf_52 (by decide) rfl ?_
      exact z_sret zh dX6_wordOf_54 ⟨0, rfl, rfl, rfl, ⟨by decide, fun _ => by decide⟩⟩
    · refine z_tabIn (off := 54) (tgt := 55) zh dX6_wordOf_1 (by decide) (by decide) (by decide +kernel) rfl ?_
      refine z_ldcS (i := 1) zh dX6_wordOf_55 (by decide) rfl ?_
      exact z_sret zh dX6_wordOf_57 ⟨1, rfl, rfl, rfl, ⟨by decide, fun _ => by decide⟩⟩
    · refine z_tabIn (off := 57) (tgt := 58) zh dX6_wordOf_1 (by decide) (by decide) (by decide +kernel) rfl ?_
      refine z_ldcS (i := 2) zh dX6_wordOf_58 (by decide) rfl ?_
      exact z_sret zh dX6_wordOf_60 ⟨2, rfl, rfl, rfl, ⟨by decide, fun _ => by decide⟩⟩
    · refine z_tabIn (off := 60) (tgt := 61) zh dX6_wordOf_1 (by decide) (by decide) (by decide +kernel) rfl ?_
      refine z_ldcS (i := 3) zh dX6_wordOf_61 (by decide) rfl ?_
      exact z_sret zh dX6_wordOf_63 ⟨3, rfl, rfl, rfl, ⟨by decide, fun _ => by decide⟩⟩
    · refine z_tabIn (off := 63) (tgt := 64) zh dX6_wordOf_1 (by decide) (by decide) (by decide +kernel) rfl ?_
      refine z_ldcS (i := 4) zh dX6_wordOf_64 (by decide) rfl ?_
      exact z_sret zh dX6_wordOf_66 ⟨4, rfl, rfl, rfl, ⟨by decide, fun _ => by decide⟩⟩
    · refine z_tabIn (off := 66) (tgt := 67) zh dX6_wordOf_1 (by decide) (by decide) (by decide +kernel) rfl ?_
      refine z_ldcS (i := 5) zh dX6_wordOf_67 (by decide) rfl ?_
      exact z_sret zh dX6_wordOf_69 ⟨5, rfl, rfl, rfl, ⟨by decide, fun _ => by decide⟩⟩
    · refine z_tabIn (off := 69) (tgt := 70) zh dX6_wordOf_1 (by decide) (by decide) (by decide +kernel) rfl ?_
      refine z_ldcS (i := 6) zh dX6_wordOf_70 (by decide) rfl ?_
      exact z_sret zh dX6_wordOf_72 ⟨6, rfl, rfl, rfl, ⟨by decide, fun _ => by decide⟩⟩
    · refine z_tabIn (off := 72) (tgt := 73) zh dX6_wordOf_1 (by decide) (by decide) (by decide +kernel) rfl ?_
      refine z_ldcS (i := 7) zh dX6_wordOf_73 (by decide) rfl ?_
      exact z_sret zh dX6_wordOf_75 ⟨7, rfl, rfl, rfl, ⟨by decide, fun _ => by decide⟩⟩
    · refine z_tabIn (off := 75) (tgt := 76) zh dX6_wordOf_1 (by decide) (by decide) (by decide +kernel) rfl ?_
      refine z_ldcS (i := 8) zh dX6_wordOf_76 (by decide) rfl ?_
      exact z_sret zh dX6_wordOf_78 ⟨8, rfl, rfl, rfl, ⟨by decide, fun _ => by decide⟩⟩
  · refine z_tabOut (tgt := 79) zh dX6_wordOf_1 (by unfold Ra at h; omega) rfl ?_
    refine z_ldcS (i := 9) zh dX6_wordOf_79 (by decide) rfl ?_
    exact z_sret zh dX6_wordOf_81 ⟨9, rfl, rfl, rfl, ⟨by decide, fun q => by have q1 := q.1; have q2 := q.2; unfold Ra at h; omega⟩⟩
theorem s_X6_shapeOf (g : GE) {sp : Nat → Nat → Bool} {σ iv : Iv} {lv : Lv} {a1 : Int32} (_ : SI sp σ iv) : Con g yX6_shapeOf cX6_shapeOf 1 (some (.object "java/lang/String")) 1 [.int a1] iv lv (fun v iv' lv' => ∃ i, v = some (rs g i) ∧ iv = iv' ∧ lv = lv' ∧ (10 ≤ i ∧ i < 17)) := by
  refine con_intro (own := "RollingNets$Reader") (by decide +kernel) rfl (Nat.le_of_ble_eq_true rfl) (L0 := [some (.int a1)]) rfl (fun Z zh => ?_)
  refine z_iloadn zh dX6_shapeOf_0 rfl ?_
  by_cases h : Ra 0 8 a1
  · obtain ⟨j, hj, rfl, e, f⟩ := ra_nat h (by decide)
    have h2 := h.2
    rcases (by omega : j = 0 ∨ j = 1 ∨ j = 2 ∨ j = 3 ∨ j = 4 ∨ j = 5 ∨ j = 6 ∨ j = 7 ∨ j = 8) with rfl | rfl | rfl | rfl | rfl | rfl | rfl | rfl | rfl
    · refine z_tabIn (off := 51) (tgt := 52) zh dX6_shapeOf_1 (by decide) (by decide) (by decide +kernel) rfl ?_
      refine z_ldcS (i := 10) zh dX6_shapeOf_52 (by decide) rfl ?_
      exact z_sret zh dX6_shapeOf_54 ⟨10, rfl, rfl, rfl, ⟨by decide, by decide⟩⟩
    · refine z_tabIn (off := 51) (tgt := 52) zh dX6_shapeOf_1 (by decide) (by decide) (by decide +kernel) rfl ?_
      refine z_ldcS (i := 10) zh dX6_shapeOf_52 (by decide) rfl ?_
      exact z_sret zh dX6_shapeOf_54 ⟨10, rfl, rfl, rfl, ⟨by decide, by decide⟩⟩
    · refine z_tabIn (off := 54) (tgt := 55) zh dX6_shapeOf_1 (by decide) (by decide) (by decide +kernel) rfl ?_
      refine z_ldcS (i := 11) zh dX6_shapeOf_55 (by decide) rfl ?_
      exact z_sret zh dX6_shapeOf_57 ⟨11, rfl, rfl, rfl, ⟨by decide, by decide⟩⟩
    · refine z_tabIn (off := 54) (tgt := 55) zh dX6_shapeOf_1 (by decide) (by decide) (by decide +kernel) rfl ?_
      refine z_ldcS (i := 11) zh dX6_shapeOf_55 (by decide) rfl ?_
      exact z_sret zh dX6_shapeOf_57 ⟨11, rfl, rfl, rfl, ⟨by decide, by decide⟩⟩
    · refine z_tabIn (off := 54) (tgt := 55) zh dX6_shapeOf_1 (by decide) (by decide) (by decide +kernel) rfl ?_
      refine z_ldcS (i := 11) zh dX6_shapeOf_55 (by decide) rfl ?_
      exact z_sret zh dX6_shapeOf_57 ⟨11, rfl, rfl, rfl, ⟨by decide, by decide⟩⟩
    · refine z_tabIn (off := 57) (tgt := 58) zh dX6_shapeOf_1 (by decide) (by decide) (by decide +kernel) rfl ?_
      refine z_ldcS (i := 12) zh dX6_shapeOf_58 (by decide) rfl ?_
      exact z_sret zh dX6_shapeOf_60 ⟨12, rfl, rfl, rfl, ⟨by decide, by decide⟩⟩
    · refine z_tabIn (off := 60) (tgt := 61) zh dX6_shapeOf_1 (by decide) (by decide) (by decide +kernel) rfl ?_
      refine z_ldcS (i := 13) zh dX6_shapeOf_61 (by decide) rfl ?_
      exact z_sret zh dX6_shapeOf_63 ⟨13, rfl, rfl, rfl, ⟨by decide, by decide⟩⟩
    · refine z_tabIn (off := 63) (tgt := 64) zh dX6_shapeOf_1 (by decide) (by decide) (by decide +kernel) rfl ?_
      refine z_ldcS (i := 14) zh dX6_shapeOf_64 (by decide) rfl ?_
      exact z_sret zh dX6_shapeOf_66 ⟨14, rfl, rfl, rfl, ⟨by decide, by decide⟩⟩
    · refine z_tabIn (off := 66) (tgt := 67) zh dX6_shapeOf_1 (by decide) (by decide) (by decide +kernel) rfl ?_
      refine z_ldcS (i := 15) zh dX6_shapeOf_67 (by decide) rfl ?_
      exact z_sret zh dX6_shapeOf_69 ⟨15, rfl, rfl, rfl, ⟨by decide, by decide⟩⟩
  · refine z_tabOut (tgt := 70) zh dX6_shapeOf_1 (by unfold Ra at h; omega) rfl ?_
    refine z_ldcS (i := 16) zh dX6_shapeOf_70 (by decide) rfl ?_
    exact z_sret zh dX6_shapeOf_72 ⟨16, rfl, rfl, rfl, ⟨by decide, by decide⟩⟩
