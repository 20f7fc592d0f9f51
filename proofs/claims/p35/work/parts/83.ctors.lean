/-! THE CONSTRUCTORS -/
theorem tk_133 : (Jvm.Cond.instanceMethod ({ cls := "java/lang/Object", name := "<init>", desc := "()V" } : Jvm.MethodName)) ∈ TBL := TBL_mem 133 (by decide +kernel) (by decide +kernel)
theorem tk_134 : (Jvm.Cond.code ({ cls := "java/lang/Object", name := "<init>", desc := "()V" } : Jvm.MethodName) object_method_1_code (1 : Nat) (Option.none : Option Jvm.ClassFile.FieldType)) ∈ TBL := TBL_mem 134 (by decide +kernel) (by decide +kernel)
theorem tk_163 : (Jvm.Cond.arrayClass Jvm.ClassFile.FieldType.int) ∈ TBL := TBL_mem 163 (by decide +kernel) (by decide +kernel)
theorem tk_164 : (Jvm.Cond.arrayClass Jvm.ClassFile.FieldType.long) ∈ TBL := TBL_mem 164 (by decide +kernel) (by decide +kernel)
theorem tk_165 : (Jvm.Cond.arrayClass Jvm.ClassFile.FieldType.boolean) ∈ TBL := TBL_mem 165 (by decide +kernel) (by decide +kernel)
theorem tk_150 : (Jvm.Cond.methodLink "RollingNets$Table" (3 : Nat) ({ cls := "java/lang/Object", name := "<init>", desc := "()V" } : Jvm.MethodName)) ∈ TBL := TBL_mem 150 (by decide +kernel) (by decide +kernel)
theorem tk_151 : (Jvm.Cond.classLink "RollingNets$Table" (9 : Nat) "[[I") ∈ TBL := TBL_mem 151 (by decide +kernel) (by decide +kernel)
theorem tk_171 : (Jvm.Cond.methodLink "RollingNets$Line" (3 : Nat) ({ cls := "java/lang/Object", name := "<init>", desc := "()V" } : Jvm.MethodName)) ∈ TBL := TBL_mem 171 (by decide +kernel) (by decide +kernel)
theorem tk_201 : (Jvm.Cond.methodLink "RollingNets$Market" (3 : Nat) ({ cls := "java/lang/Object", name := "<init>", desc := "()V" } : Jvm.MethodName)) ∈ TBL := TBL_mem 201 (by decide +kernel) (by decide +kernel)
theorem tk_202 : (Jvm.Cond.classLink "RollingNets$Market" (31 : Nat) "[[I") ∈ TBL := TBL_mem 202 (by decide +kernel) (by decide +kernel)
theorem tk_140 : (Jvm.Cond.methodLink "RollingNets$House" (3 : Nat) ({ cls := "java/lang/Object", name := "<init>", desc := "()V" } : Jvm.MethodName)) ∈ TBL := TBL_mem 140 (by decide +kernel) (by decide +kernel)
theorem tk_143 : (Jvm.Cond.classLink "RollingNets$House" (32 : Nat) "RollingNets$Market") ∈ TBL := TBL_mem 143 (by decide +kernel) (by decide +kernel)
theorem tk_145 : (Jvm.Cond.classLink "RollingNets$House" (38 : Nat) "RollingNets$Table") ∈ TBL := TBL_mem 145 (by decide +kernel) (by decide +kernel)
theorem tk_146 : (Jvm.Cond.instantiable "RollingNets$Table" (3 : Nat)) ∈ TBL := TBL_mem 146 (by decide +kernel) (by decide +kernel)
theorem tk_149 : (Jvm.Cond.code ({ cls := "RollingNets$Table", name := "<init>", desc := "(II)V" } : Jvm.MethodName) prog_9_method_1_code (3 : Nat) (Option.none : Option Jvm.ClassFile.FieldType)) ∈ TBL := TBL_mem 149 (by decide +kernel) (by decide +kernel)
theorem tk_147 : (Jvm.Cond.methodLink "RollingNets$House" (40 : Nat) ({ cls := "RollingNets$Table", name := "<init>", desc := "(II)V" } : Jvm.MethodName)) ∈ TBL := TBL_mem 147 (by decide +kernel) (by decide +kernel)
theorem mk_House_40 : ML "RollingNets$House" 40 yX7_init cX7_init 3 none 2 := ⟨Or.inl tk_147, tm_113, tk_149, by decide +kernel⟩
theorem tk_148 : (Jvm.Cond.instanceMethod ({ cls := "RollingNets$Table", name := "<init>", desc := "(II)V" } : Jvm.MethodName)) ∈ TBL := TBL_mem 148 (by decide +kernel) (by decide +kernel)
theorem tk_166 : (Jvm.Cond.classLink "RollingNets$House" (67 : Nat) "RollingNets$Line") ∈ TBL := TBL_mem 166 (by decide +kernel) (by decide +kernel)
theorem tk_167 : (Jvm.Cond.instantiable "RollingNets$Line" (4 : Nat)) ∈ TBL := TBL_mem 167 (by decide +kernel) (by decide +kernel)
theorem tk_170 : (Jvm.Cond.code ({ cls := "RollingNets$Line", name := "<init>", desc := "()V" } : Jvm.MethodName) prog_4_method_1_code (1 : Nat) (Option.none : Option Jvm.ClassFile.FieldType)) ∈ TBL := TBL_mem 170 (by decide +kernel) (by decide +kernel)
theorem mk_House_69 : ML "RollingNets$House" 69 yX2_init cX2_init 1 none 0 := ⟨Or.inr ⟨_, NTB_mem (w := Cond.methodLinkNest "RollingNets$House" 69 yX2_init "RollingNets") 168 (by decide +kernel) (by decide +kernel)⟩, tm_114, tk_170, by decide +kernel⟩
theorem tk_169 : (Jvm.Cond.instanceMethod ({ cls := "RollingNets$Line", name := "<init>", desc := "()V" } : Jvm.MethodName)) ∈ TBL := TBL_mem 169 (by decide +kernel) (by decide +kernel)
theorem ac_House : AC "RollingNets$House" 83 := ⟨tm_194, tm_196, tm_195, tm_115⟩
theorem tk_197 : (Jvm.Cond.instantiable "RollingNets$Market" (11 : Nat)) ∈ TBL := TBL_mem 197 (by decide +kernel) (by decide +kernel)
theorem tk_200 : (Jvm.Cond.code ({ cls := "RollingNets$Market", name := "<init>", desc := "()V" } : Jvm.MethodName) prog_5_method_1_code (1 : Nat) (Option.none : Option Jvm.ClassFile.FieldType)) ∈ TBL := TBL_mem 200 (by decide +kernel) (by decide +kernel)
theorem mk_House_89 : ML "RollingNets$House" 89 yX3_init cX3_init 1 none 0 := ⟨Or.inr ⟨_, NTB_mem (w := Cond.methodLinkNest "RollingNets$House" 89 yX3_init "RollingNets") 198 (by decide +kernel) (by decide +kernel)⟩, tm_116, tk_200, by decide +kernel⟩
theorem tk_199 : (Jvm.Cond.instanceMethod ({ cls := "RollingNets$Market", name := "<init>", desc := "()V" } : Jvm.MethodName)) ∈ TBL := TBL_mem 199 (by decide +kernel) (by decide +kernel)
theorem tk_369 : (Jvm.Cond.methodLink "RollingNets$Reader" (3 : Nat) ({ cls := "java/lang/Object", name := "<init>", desc := "()V" } : Jvm.MethodName)) ∈ TBL := TBL_mem 369 (by decide +kernel) (by decide +kernel)
theorem tk_370 : (Jvm.Cond.classLink "RollingNets$Reader" (19 : Nat) "RollingNets$Table") ∈ TBL := TBL_mem 370 (by decide +kernel) (by decide +kernel)
theorem tk_371 : (Jvm.Cond.methodLink "RollingNets$Reader" (21 : Nat) ({ cls := "RollingNets$Table", name := "<init>", desc := "(II)V" } : Jvm.MethodName)) ∈ TBL := TBL_mem 371 (by decide +kernel) (by decide +kernel)
theorem mk_Reader_21 : ML "RollingNets$Reader" 21 yX7_init cX7_init 3 none 2 := ⟨Or.inl tk_371, tm_113, tk_149, by decide +kernel⟩
theorem tk_132 : (Jvm.Cond.methodLink "RollingNets" (3 : Nat) ({ cls := "java/lang/Object", name := "<init>", desc := "()V" } : Jvm.MethodName)) ∈ TBL := TBL_mem 132 (by decide +kernel) (by decide +kernel)
theorem tk_135 : (Jvm.Cond.classLink "RollingNets" (9 : Nat) "RollingNets$House") ∈ TBL := TBL_mem 135 (by decide +kernel) (by decide +kernel)
theorem tk_136 : (Jvm.Cond.instantiable "RollingNets$House" (17 : Nat)) ∈ TBL := TBL_mem 136 (by decide +kernel) (by decide +kernel)
theorem tk_139 : (Jvm.Cond.code ({ cls := "RollingNets$House", name := "<init>", desc := "()V" } : Jvm.MethodName) prog_3_method_1_code (2 : Nat) (Option.none : Option Jvm.ClassFile.FieldType)) ∈ TBL := TBL_mem 139 (by decide +kernel) (by decide +kernel)
theorem tk_137 : (Jvm.Cond.methodLink "RollingNets" (11 : Nat) ({ cls := "RollingNets$House", name := "<init>", desc := "()V" } : Jvm.MethodName)) ∈ TBL := TBL_mem 137 (by decide +kernel) (by decide +kernel)
theorem mk_RollingNets_11 : ML "RollingNets" 11 yX1_init cX1_init 2 none 0 := ⟨Or.inl tk_137, tm_112, tk_139, by decide +kernel⟩
theorem tk_138 : (Jvm.Cond.instanceMethod ({ cls := "RollingNets$House", name := "<init>", desc := "()V" } : Jvm.MethodName)) ∈ TBL := TBL_mem 138 (by decide +kernel) (by decide +kernel)
theorem tk_364 : (Jvm.Cond.classLink "RollingNets" (22 : Nat) "RollingNets$Reader") ∈ TBL := TBL_mem 364 (by decide +kernel) (by decide +kernel)
theorem tk_365 : (Jvm.Cond.instantiable "RollingNets$Reader" (6 : Nat)) ∈ TBL := TBL_mem 365 (by decide +kernel) (by decide +kernel)
theorem tk_368 : (Jvm.Cond.code ({ cls := "RollingNets$Reader", name := "<init>", desc := "()V" } : Jvm.MethodName) prog_8_method_1_code (1 : Nat) (Option.none : Option Jvm.ClassFile.FieldType)) ∈ TBL := TBL_mem 368 (by decide +kernel) (by decide +kernel)
theorem mk_RollingNets_24 : ML "RollingNets" 24 yX6_init cX6_init 1 none 0 := ⟨Or.inr ⟨_, NTB_mem (w := Cond.methodLinkNest "RollingNets" 24 yX6_init "RollingNets") 366 (by decide +kernel) (by decide +kernel)⟩, tm_117, tk_368, by decide +kernel⟩
theorem tk_367 : (Jvm.Cond.instanceMethod ({ cls := "RollingNets$Reader", name := "<init>", desc := "()V" } : Jvm.MethodName)) ∈ TBL := TBL_mem 367 (by decide +kernel) (by decide +kernel)
theorem tk_1060 : (Jvm.Cond.methodLink "RollingNetsModel" (1 : Nat) ({ cls := "java/lang/Object", name := "<init>", desc := "()V" } : Jvm.MethodName)) ∈ TBL := TBL_mem 1060 (by decide +kernel) (by decide +kernel)
theorem df_2 : ∀ j, j < 3 → defaultValue (tyX7 j) = vp_V [.null, .int 0, .int 0] j := fun j hj => by
  rcases (show j = 0 ∨ j = 1 ∨ j = 2 by omega) with rfl | rfl | rfl <;> rfl
theorem df_3 : ∀ j, j < 4 → defaultValue (tyX2 j) = vp_V [.null, .null, .int 0, .null] j := fun j hj => by
  rcases (show j = 0 ∨ j = 1 ∨ j = 2 ∨ j = 3 by omega) with rfl | rfl | rfl | rfl <;> rfl
theorem df_4 : ∀ j, j < 11 → defaultValue (tyX3 j) = vp_V [.null, .null, .null, .null, .null, .null, .null, .int 0, .int 0, .int 0, .int 0] j := fun j hj => by
  rcases (show j = 0 ∨ j = 1 ∨ j = 2 ∨ j = 3 ∨ j = 4 ∨ j = 5 ∨ j = 6 ∨ j = 7 ∨ j = 8 ∨ j = 9 ∨ j = 10 by omega) with rfl | rfl | rfl | rfl | rfl | rfl | rfl | rfl | rfl | rfl | rfl <;> rfl
theorem df_1 : ∀ j, j < 17 → defaultValue (tyX1 j) = vp_V [.null, .null, .null, .null, .null, .null, .null, .null, .null, .null, .int 0, .int 0, .long 0, .null, .null, .int 0, .null] j := fun j hj => by
  rcases (show j = 0 ∨ j = 1 ∨ j = 2 ∨ j = 3 ∨ j = 4 ∨ j = 5 ∨ j = 6 ∨ j = 7 ∨ j = 8 ∨ j = 9 ∨ j = 10 ∨ j = 11 ∨ j = 12 ∨ j = 13 ∨ j = 14 ∨ j = 15 ∨ j = 16 by omega) with rfl | rfl | rfl | rfl | rfl | rfl | rfl | rfl | rfl | rfl | rfl | rfl | rfl | rfl | rfl | rfl | rfl <;> rfl
theorem df_5 : ∀ j, j < 6 → defaultValue (tyX6 j) = vp_V [.null, .int 0, .null, .int 0, .int 0, .int 0] j := fun j hj => by
  rcases (show j = 0 ∨ j = 1 ∨ j = 2 ∨ j = 3 ∨ j = 4 ∨ j = 5 by omega) with rfl | rfl | rfl | rfl | rfl | rfl <;> rfl
theorem df_0 : ∀ j, j < 5 → defaultValue (tyX8 j) = vp_V [.null, .null, .null, .null, .int 0] j := fun j hj => by
  rcases (show j = 0 ∨ j = 1 ∨ j = 2 ∨ j = 3 ∨ j = 4 by omega) with rfl | rfl | rfl | rfl | rfl <;> rfl
theorem df_6 : ∀ j, j < 32 → defaultValue (tyX9 j) = vp_V [.int 0, .null, .null, .null, .null, .int 0, .int 0, .int 0, .null, .int 0, .int 0, .null, .null, .null, .int 0, .null, .null, .int 0, .int 0, .int 0, .int 0, .int 0, .null, .int 0, .int 0, .int 0, .int 0, .int 0, .null, .int 0, .null, .null] j := fun j hj => by
  rcases (show j = 0 ∨ j = 1 ∨ j = 2 ∨ j = 3 ∨ j = 4 ∨ j = 5 ∨ j = 6 ∨ j = 7 ∨ j = 8 ∨ j = 9 ∨ j = 10 ∨ j = 11 ∨ j = 12 ∨ j = 13 ∨ j = 14 ∨ j = 15 ∨ j = 16 ∨ j = 17 ∨ j = 18 ∨ j = 19 ∨ j = 20 ∨ j = 21 ∨ j = 22 ∨ j = 23 ∨ j = 24 ∨ j = 25 ∨ j = 26 ∨ j = 27 ∨ j = 28 ∨ j = 29 ∨ j = 30 ∨ j = 31 by omega) with rfl | rfl | rfl | rfl | rfl | rfl | rfl | rfl | rfl | rfl | rfl | rfl | rfl | rfl | rfl | rfl | rfl | rfl | rfl | rfl | rfl | rfl | rfl | rfl | rfl | rfl | rfl | rfl | rfl | rfl | rfl | rfl <;> rfl
theorem k_getsN {g : GE} {own : String} {cc : ByteArray} {nL : Nat} {R : Room} {ini : Bool} {Q : Nat → Nat → Nat → CM → Prop} {Z : ZK} {pc : Nat} {L : LO} {st : List Value} {kc ks n : Nat} {M : CM} (h : Rk g own cc nL R ini Q Z) {idx i : Nat} {host : String} (hd : decode cc pc = .ok (.getstatic idx, 3)) (hi : i < 3) (hl : Cond.fieldLinkNest own idx "RollingNets" (sN i) "[I" host ∈ NTB) (k : Z (pc + 3) L (rt g i :: st) kc ks n M) : Z pc L st kc ks n M := by
  obtain ⟨p, e, s, m, args, below, meth, c, QS, hx, hb, hml, hown, hts, hK, hAX, hin, hB, hfin, hZ⟩ := h
  rw [hZ]
  rw [hZ] at k
  intro H ls locs hM hS hL
  exact va_getsN hx hb (hK.2.1.1 i hi).1 hS hown (va_Nw.use rfl (hK.2.2.1 _ hl)) (fun _ h9 => h9) hd (k H ls locs hM hS hL)
theorem upC_upC {M : CM} {k : Nat} {e e' : va_E} : upC (upC M k e) k e' = upC M k e' := by
  funext q
  unfold upC
  by_cases h : q = k
  · rw [if_pos h, if_pos h]
  · rw [if_neg h, if_neg h, if_neg h]
theorem mk_up0 {g : GE} {h : Nat} : va_up (fun _ => none) 0 (some (gB g + (h + 60))) = fun j => if j < 1 then some (gB g + (h + 60 + 20 * j)) else none := by
  funext j
  unfold va_up
  by_cases e : j = 0
  · rw [if_pos e, if_pos (by omega), e]
  · rw [if_neg e, if_neg (by omega)]
theorem x3_mk {g : GE} {a : Nat} {M0 : CM} {e1 e2 : va_E} {f f' : Nat → Option Nat} (h : f = f') : X3 g a M0 e1 e2 (.inl (gE g 3, 6, .inr (.inr (.inr (.inr f))))) = X3 g a M0 e1 e2 (.inl (gE g 3, 6, .inr (.inr (.inr (.inr f'))))) := by rw [h]
theorem kx_Table {g : GE} {t c n : Nat} (ht : isT t c n) (hc : c < 2 ^ 20) (hn : n < 2 ^ 20) {M0 : CM} (hM : M0 t = .inr (2, [.null, .int 0, .int 0])) : ConC g yX7_init cX7_init 3 1 (1 + c) (c + c * n) [rf g t, .int (nI c), .int (nI n)] (t + 1) M0 (fun n1 M1 => n1 = t + 2 + c ∧ M1 = Fm g t M0) := by
  refine kon_intro (own := "RollingNets$Table") (by decide +kernel) rfl rfl (Nat.le_of_ble_eq_true rfl) (L0 := [some (rf g t), some (.int (nI c)), some (.int (nI n))]) rfl (fun Z kh => ?_)
  refine k_ext kh (M' := X1 g t M0 (.inr (2, [.null, .int 0, .int 0]))) (X1_start hM) ?_
  refine k_aloadn kh dX7_init_0 rfl ?_
  refine k_objInit kh dX7_init_1 tk_150 tk_133 tk_134 ⟨(Nat.le_of_ble_eq_true rfl), (Nat.le_of_ble_eq_true rfl)⟩ (Nat.le_of_ble_eq_true rfl) ?_
  refine k_aloadn kh dX7_init_4 rfl ?_
  refine k_iloadn kh dX7_init_5 rfl ?_
  refine k_iloadn kh dX7_init_6 rfl ?_
  refine k_mna (N := c) (K := n) kh dX7_init_7 tk_151 hc hn (by show 0 + (1 + c) ≤ 1 + c; omega) (by show 0 + (c + c * n) ≤ c + c * n; omega) ?_
  refine k_ext kh (X1_mna (by omega) (fr_Tc ht) (fun i hi => fr_Tr ht hi)) ?_
  refine k_at (n' := t + 2 + c) (kc' := 1 + c) (ks' := c + c * n) (by omega) (by omega) (by omega) ?_
  refine k_putF kh ckc_2 (j := 0) (by decide) rfl rfl tm_153 dX7_init_11 (by omega) X1_at ⟨rfl, rfl⟩ (Nat.le_of_ble_eq_true rfl) ?_
  refine k_eqM (M' := X1 g t M0 (.inr (2, [rf g (t + 1), .int 0, .int 0]))) X1_put ?_
  refine k_aloadn kh dX7_init_14 rfl ?_
  refine k_iloadn kh dX7_init_15 rfl ?_
  refine k_putF kh ckc_2 (j := 1) (by decide) rfl rfl tm_154 dX7_init_16 (by omega) X1_at ⟨rfl, rfl⟩ (Nat.le_of_ble_eq_true rfl) ?_
  refine k_eqM (M' := X1 g t M0 (.inr (2, [rf g (t + 1), .int (nI n), .int 0]))) X1_put ?_
  refine k_aloadn kh dX7_init_19 rfl ?_
  refine k_iconst kh dX7_init_20 ki_0 ?_
  refine k_put kh ckc_2 (j := 2) (by decide) rfl tm_155 dX7_init_21 (by omega) X1_at ⟨rfl, rfl⟩ (Nat.le_of_ble_eq_true rfl) ?_
  refine k_eqM (M' := X1 g t M0 (.inr (2, [rf g (t + 1), .int (nI n), .int (nI 0)]))) X1_put ?_
  exact k_vret kh dX7_init_24 ⟨rfl, rfl, rfl, X1_end (fr_T ht)⟩
set_option maxRecDepth 20000 in
theorem kx_Line {g : GE} {h : Nat} (hh : isH h) {M0 : CM} (hM : M0 (h + 54) = .inr (3, [.null, .null, .int 0, .null])) : ConC g yX2_init cX2_init 1 1 3 2412 [rf g (h + 54)] (h + 54 + 1) M0 (fun n1 M1 => n1 = h + 54 + 4 ∧ M1 = Fm g (h + 54) M0) := by
  refine kon_intro (own := "RollingNets$Line") (by decide +kernel) rfl rfl (Nat.le_of_ble_eq_true rfl) (L0 := [some (rf g (h + 54))]) rfl (fun Z kh => ?_)
  refine k_ext kh (M' := X1 g (h + 54) M0 (.inr (3, [.null, .null, .int 0, .null]))) (X1_start hM) ?_
  refine k_aloadn kh dX2_init_0 rfl ?_
  refine k_objInit kh dX2_init_1 tk_171 tk_133 tk_134 ⟨(Nat.le_of_ble_eq_true rfl), (Nat.le_of_ble_eq_true rfl)⟩ (Nat.le_of_ble_eq_true rfl) ?_
  refine k_aloadn kh dX2_init_4 rfl ?_
  refine k_sipush kh dX2_init_5 ks_1200 ?_
  refine k_newI (N := 1200) kh dX2_init_8 tk_163 (by decide) (Nat.le_of_ble_eq_true rfl) (Nat.le_of_ble_eq_true rfl) ?_
  refine k_eqM (M' := X1 g (h + 54) M0 (.inr (3, [.null, .null, .int 0, .null]))) (X1_new (by omega) (fr_I (ck_lineM hh) (by have := hh562 (r := 55) hh (by omega); omega) (fun j => (hz_H hh 55 (by omega) (fun _ => Or.inl rfl)) j))) ?_
  refine k_at (n' := h + 54 + 2) (kc' := 1) (ks' := 1200) rfl rfl rfl ?_
  refine k_putF kh ckc_3 (j := 0) (by decide) rfl rfl tm_172 dX2_init_10 (by omega) X1_at ⟨rfl, rfl⟩ (Nat.le_of_ble_eq_true rfl) ?_
  refine k_eqM (M' := X1 g (h + 54) M0 (.inr (3, [rf g (h + 54 + 1), .null, .int 0, .null]))) X1_put ?_
  refine k_aloadn kh dX2_init_13 rfl ?_
  refine k_sipush kh dX2_init_14 ks_1200 ?_
  refine k_newI (N := 1200) kh dX2_init_17 tk_163 (by decide) (Nat.le_of_ble_eq_true rfl) (Nat.le_of_ble_eq_true rfl) ?_
  refine k_eqM (M' := X1 g (h + 54) M0 (.inr (3, [rf g (h + 54 + 1), .null, .int 0, .null]))) (X1_new (by omega) (fr_I (ck_lineD hh) (by have := hh562 (r := 56) hh (by omega); omega) (fun j => (hz_H hh 56 (by omega) (fun _ => Or.inl rfl)) j))) ?_
  refine k_at (n' := h + 54 + 3) (kc' := 2) (ks' := 2400) rfl rfl rfl ?_
  refine k_putF kh ckc_3 (j := 1) (by decide) rfl rfl tm_176 dX2_init_19 (by omega) X1_at ⟨rfl, rfl⟩ (Nat.le_of_ble_eq_true rfl) ?_
  refine k_eqM (M' := X1 g (h + 54) M0 (.inr (3, [rf g (h + 54 + 1), rf g (h + 54 + 2), .int 0, .null]))) X1_put ?_
  refine k_aloadn kh dX2_init_22 rfl ?_
  refine k_iconst kh dX2_init_23 ki_0 ?_
  refine k_put kh ckc_3 (j := 2) (by decide) rfl tm_180 dX2_init_24 (by omega) X1_at ⟨rfl, rfl⟩ (Nat.le_of_ble_eq_true rfl) ?_
  refine k_eqM (M' := X1 g (h + 54) M0 (.inr (3, [rf g (h + 54 + 1), rf g (h + 54 + 2), .int (nI 0), .null]))) X1_put ?_
  refine k_aloadn kh dX2_init_27 rfl ?_
  refine k_bipush kh dX2_init_28 kb_12 ?_
  refine k_newI (N := 12) kh dX2_init_30 tk_163 (by decide) (Nat.le_of_ble_eq_true rfl) (Nat.le_of_ble_eq_true rfl) ?_
  refine k_eqM (M' := X1 g (h + 54) M0 (.inr (3, [rf g (h + 54 + 1), rf g (h + 54 + 2), .int (nI 0), .null]))) (X1_new (by omega) (fr_I (ck_lineR hh) (by have := hh562 (r := 57) hh (by omega); omega) (fun j => (hz_H hh 57 (by omega) (fun _ => Or.inl rfl)) j))) ?_
  refine k_at (n' := h + 54 + 4) (kc' := 3) (ks' := 2412) rfl rfl rfl ?_
  refine k_putF kh ckc_3 (j := 3) (by decide) rfl rfl tm_184 dX2_init_32 (by omega) X1_at ⟨rfl, rfl⟩ (Nat.le_of_ble_eq_true rfl) ?_
  refine k_eqM (M' := X1 g (h + 54) M0 (.inr (3, [rf g (h + 54 + 1), rf g (h + 54 + 2), .int (nI 0), rf g (h + 54 + 3)]))) X1_put ?_
  exact k_vret kh dX2_init_35 ⟨rfl, rfl, rfl, X1_end (fr_N hh)⟩
set_option maxRecDepth 20000 in
theorem kx_Market {g : GE} {m : Nat} (hm : isM m) {M0 : CM} (hM : M0 m = .inr (4, [.null, .null, .null, .null, .null, .null, .null, .int 0, .int 0, .int 0, .int 0])) : ConC g yX3_init cX3_init 1 1 19 1284 [rf g m] (m + 1) M0 (fun n1 M1 => n1 = m + 20 ∧ M1 = Fm g m M0) := by
  refine kon_intro (own := "RollingNets$Market") (by decide +kernel) rfl rfl (Nat.le_of_ble_eq_true rfl) (L0 := [some (rf g m)]) rfl (fun Z kh => ?_)
  refine k_ext kh (M' := X1 g m M0 (.inr (4, [.null, .null, .null, .null, .null, .null, .null, .int 0, .int 0, .int 0, .int 0]))) (X1_start hM) ?_
  refine k_aloadn kh dX3_init_0 rfl ?_
  refine k_objInit kh dX3_init_1 tk_201 tk_133 tk_134 ⟨(Nat.le_of_ble_eq_true rfl), (Nat.le_of_ble_eq_true rfl)⟩ (Nat.le_of_ble_eq_true rfl) ?_
  refine k_aloadn kh dX3_init_4 rfl ?_
  refine k_bipush kh dX3_init_5 kb_12 ?_
  refine k_newL (N := 12) kh dX3_init_7 tk_164 (by decide) (Nat.le_of_ble_eq_true rfl) (Nat.le_of_ble_eq_true rfl) ?_
  refine k_eqM (M' := X1 g m M0 (.inr (4, [.null, .null, .null, .null, .null, .null, .null, .int 0, .int 0, .int 0, .int 0]))) (X1_new (by omega) (fr_L (ck_stock hm))) ?_
  refine k_at (n' := m + 2) (kc' := 1) (ks' := 12) rfl rfl rfl ?_
  refine k_putF kh ckc_4 (j := 0) (by decide) rfl rfl tm_203 dX3_init_9 (by omega) X1_at ⟨rfl, rfl⟩ (Nat.le_of_ble_eq_true rfl) ?_
  refine k_eqM (M' := X1 g m M0 (.inr (4, [rf g (m + 1), .null, .null, .null, .null, .null, .null, .int 0, .int 0, .int 0, .int 0]))) X1_put ?_
  refine k_aloadn kh dX3_init_12 rfl ?_
  refine k_bipush kh dX3_init_13 kb_12 ?_
  refine k_newI (N := 12) kh dX3_init_15 tk_163 (by decide) (Nat.le_of_ble_eq_true rfl) (Nat.le_of_ble_eq_true rfl) ?_
  refine k_eqM (M' := X1 g m M0 (.inr (4, [rf g (m + 1), .null, .null, .null, .null, .null, .null, .int 0, .int 0, .int 0, .int 0]))) (X1_new (by omega) (fr_mi hm 2 ⟨by decide, by decide⟩)) ?_
  refine k_at (n' := m + 3) (kc' := 2) (ks' := 24) rfl rfl rfl ?_
  refine k_putF kh ckc_4 (j := 1) (by decide) rfl rfl tm_209 dX3_init_17 (by omega) X1_at ⟨rfl, rfl⟩ (Nat.le_of_ble_eq_true rfl) ?_
  refine k_eqM (M' := X1 g m M0 (.inr (4, [rf g (m + 1), rf g (m + 2), .null, .null, .null, .null, .null, .int 0, .int 0, .int 0, .int 0]))) X1_put ?_
  refine k_aloadn kh dX3_init_20 rfl ?_
  refine k_bipush kh dX3_init_21 kb_12 ?_
  refine k_newI (N := 12) kh dX3_init_23 tk_163 (by decide) (Nat.le_of_ble_eq_true rfl) (Nat.le_of_ble_eq_true rfl) ?_
  refine k_eqM (M' := X1 g m M0 (.inr (4, [rf g (m + 1), rf g (m + 2), .null, .null, .null, .null, .null, .int 0, .int 0, .int 0, .int 0]))) (X1_new (by omega) (fr_mi hm 3 ⟨by decide, by decide⟩)) ?_
  refine k_at (n' := m + 4) (kc' := 3) (ks' := 36) rfl rfl rfl ?_
  refine k_putF kh ckc_4 (j := 2) (by decide) rfl rfl tm_212 dX3_init_25 (by omega) X1_at ⟨rfl, rfl⟩ (Nat.le_of_ble_eq_true rfl) ?_
  refine k_eqM (M' := X1 g m M0 (.inr (4, [rf g (m + 1), rf g (m + 2), rf g (m + 3), .null, .null, .null, .null, .int 0, .int 0, .int 0, .int 0]))) X1_put ?_
  refine k_aloadn kh dX3_init_28 rfl ?_
  refine k_bipush kh dX3_init_29 kb_12 ?_
  refine k_newI (N := 12) kh dX3_init_31 tk_163 (by decide) (Nat.le_of_ble_eq_true rfl) (Nat.le_of_ble_eq_true rfl) ?_
  refine k_eqM (M' := X1 g m M0 (.inr (4, [rf g (m + 1), rf g (m + 2), rf g (m + 3), .null, .null, .null, .null, .int 0, .int 0, .int 0, .int 0]))) (X1_new (by omega) (fr_mi hm 4 ⟨by decide, by decide⟩)) ?_
  refine k_at (n' := m + 5) (kc' := 4) (ks' := 48) rfl rfl rfl ?_
  refine k_putF kh ckc_4 (j := 3) (by decide) rfl rfl tm_215 dX3_init_33 (by omega) X1_at ⟨rfl, rfl⟩ (Nat.le_of_ble_eq_true rfl) ?_
  refine k_eqM (M' := X1 g m M0 (.inr (4, [rf g (m + 1), rf g (m + 2), rf g (m + 3), rf g (m + 4), .null, .null, .null, .int 0, .int 0, .int 0, .int 0]))) X1_put ?_
  refine k_aloadn kh dX3_init_36 rfl ?_
  refine k_bipush kh dX3_init_37 kb_12 ?_
  refine k_newI (N := 12) kh dX3_init_39 tk_163 (by decide) (Nat.le_of_ble_eq_true rfl) (Nat.le_of_ble_eq_true rfl) ?_
  refine k_eqM (M' := X1 g m M0 (.inr (4, [rf g (m + 1), rf g (m + 2), rf g (m + 3), rf g (m + 4), .null, .null, .null, .int 0, .int 0, .int 0, .int 0]))) (X1_new (by omega) (fr_mi hm 5 ⟨by decide, by decide⟩)) ?_
  refine k_at (n' := m + 6) (kc' := 5) (ks' := 60) rfl rfl rfl ?_
  refine k_putF kh ckc_4 (j := 4) (by decide) rfl rfl tm_218 dX3_init_41 (by omega) X1_at ⟨rfl, rfl⟩ (Nat.le_of_ble_eq_true rfl) ?_
  refine k_eqM (M' := X1 g m M0 (.inr (4, [rf g (m + 1), rf g (m + 2), rf g (m + 3), rf g (m + 4), rf g (m + 5), .null, .null, .int 0, .int 0, .int 0, .int 0]))) X1_put ?_
  refine k_aloadn kh dX3_init_44 rfl ?_
  refine k_bipush kh dX3_init_45 kb_12 ?_
  refine k_newI (N := 12) kh dX3_init_47 tk_163 (by decide) (Nat.le_of_ble_eq_true rfl) (Nat.le_of_ble_eq_true rfl) ?_
  refine k_eqM (M' := X1 g m M0 (.inr (4, [rf g (m + 1), rf g (m + 2), rf g (m + 3), rf g (m + 4), rf g (m + 5), .null, .null, .int 0, .int 0, .int 0, .int 0]))) (X1_new (by omega) (fr_mi hm 6 ⟨by decide, by decide⟩)) ?_
  refine k_at (n' := m + 7) (kc' := 6) (ks' := 72) rfl rfl rfl ?_
  refine k_putF kh ckc_4 (j := 5) (by decide) rfl rfl tm_221 dX3_init_49 (by omega) X1_at ⟨rfl, rfl⟩ (Nat.le_of_ble_eq_true rfl) ?_
  refine k_eqM (M' := X1 g m M0 (.inr (4, [rf g (m + 1), rf g (m + 2), rf g (m + 3), rf g (m + 4), rf g (m + 5), rf g (m + 6), .null, .int 0, .int 0, .int 0, .int 0]))) X1_put ?_
  refine k_aloadn kh dX3_init_52 rfl ?_
  refine k_bipush kh dX3_init_53 kb_12 ?_
  refine k_bipush kh dX3_init_55 kb_100 ?_
  refine k_mna (N := 12) (K := 100) kh dX3_init_57 tk_202 (by decide) (by decide) (Nat.le_of_ble_eq_true rfl) (Nat.le_of_ble_eq_true rfl) ?_
  refine k_ext kh (X1_mna (by omega) (fr_lots hm) (fun i hi => fr_row hm hi)) ?_
  refine k_at (n' := m + 20) (kc' := 19) (ks' := 1284) rfl rfl rfl ?_
  refine k_putF kh ckc_4 (j := 6) (by decide) rfl rfl tm_225 dX3_init_61 (by omega) X1_at ⟨rfl, rfl⟩ (Nat.le_of_ble_eq_true rfl) ?_
  refine k_eqM (M' := X1 g m M0 (.inr (4, [rf g (m + 1), rf g (m + 2), rf g (m + 3), rf g (m + 4), rf g (m + 5), rf g (m + 6), rf g (m + 7), .int 0, .int 0, .int 0, .int 0]))) X1_put ?_
  refine k_aloadn kh dX3_init_64 rfl ?_
  refine k_bipush kh dX3_init_65 kb_100 ?_
  refine k_put kh ckc_4 (j := 7) (by decide) rfl tm_231 dX3_init_67 (by omega) X1_at ⟨rfl, rfl⟩ (Nat.le_of_ble_eq_true rfl) ?_
  refine k_eqM (M' := X1 g m M0 (.inr (4, [rf g (m + 1), rf g (m + 2), rf g (m + 3), rf g (m + 4), rf g (m + 5), rf g (m + 6), rf g (m + 7), .int (nI 100), .int 0, .int 0, .int 0]))) X1_put ?_
  refine k_aloadn kh dX3_init_70 rfl ?_
  refine k_bipush kh dX3_init_71 kb_100 ?_
  refine k_put kh ckc_4 (j := 8) (by decide) rfl tm_236 dX3_init_73 (by omega) X1_at ⟨rfl, rfl⟩ (Nat.le_of_ble_eq_true rfl) ?_
  refine k_eqM (M' := X1 g m M0 (.inr (4, [rf g (m + 1), rf g (m + 2), rf g (m + 3), rf g (m + 4), rf g (m + 5), rf g (m + 6), rf g (m + 7), .int (nI 100), .int (nI 100), .int 0, .int 0]))) X1_put ?_
  refine k_aloadn kh dX3_init_76 rfl ?_
  refine k_iconst kh dX3_init_77 ki_0 ?_
  refine k_put kh ckc_4 (j := 9) (by decide) rfl tm_239 dX3_init_78 (by omega) X1_at ⟨rfl, rfl⟩ (Nat.le_of_ble_eq_true rfl) ?_
  refine k_eqM (M' := X1 g m M0 (.inr (4, [rf g (m + 1), rf g (m + 2), rf g (m + 3), rf g (m + 4), rf g (m + 5), rf g (m + 6), rf g (m + 7), .int (nI 100), .int (nI 100), .int (nI 0), .int 0]))) X1_put ?_
  refine k_aloadn kh dX3_init_81 rfl ?_
  refine k_iconst kh dX3_init_82 ki_0 ?_
  refine k_put kh ckc_4 (j := 10) (by decide) rfl tm_242 dX3_init_83 (by omega) X1_at ⟨rfl, rfl⟩ (Nat.le_of_ble_eq_true rfl) ?_
  refine k_eqM (M' := X1 g m M0 (.inr (4, [rf g (m + 1), rf g (m + 2), rf g (m + 3), rf g (m + 4), rf g (m + 5), rf g (m + 6), rf g (m + 7), .int (nI 100), .int (nI 100), .int (nI 0), .int (nI 0)]))) X1_put ?_
  exact k_vret kh dX3_init_86 ⟨rfl, rfl, rfl, X1_end (fr_M hm)⟩
set_option maxRecDepth 20000 in
theorem kx_House {g : GE} {h : Nat} (hh : isH h) {M0 : CM} (hM : M0 h = .inr (1, [.null, .null, .null, .null, .null, .null, .null, .null, .null, .null, .int 0, .int 0, .long 0, .null, .null, .int 0, .null])) : ConC g yX1_init cX1_init 2 2 179 15006 [rf g h] (h + 1) M0 (fun n1 M1 => n1 = h + 180 ∧ M1 = Fm g h M0) := by
  refine kon_intro (own := "RollingNets$House") (by decide +kernel) rfl rfl (Nat.le_of_ble_eq_true rfl) (L0 := [some (rf g h), none]) rfl (fun Z kh => ?_)
  have hm0 : isM (h + 60) := ⟨h, 0, hh, by decide, by omega⟩
  have hm1 : isM (h + 80) := ⟨h, 1, hh, by decide, by omega⟩
  have hm2 : isM (h + 100) := ⟨h, 2, hh, by decide, by omega⟩
  have hm3 : isM (h + 120) := ⟨h, 3, hh, by decide, by omega⟩
  have hm4 : isM (h + 140) := ⟨h, 4, hh, by decide, by omega⟩
  have hm5 : isM (h + 160) := ⟨h, 5, hh, by decide, by omega⟩
  refine k_ext kh (M' := X3 g h M0 (.inr (1, [.null, .null, .null, .null, .null, .null, .null, .null, .null, .null, .int 0, .int 0, .long 0, .null, .null, .int 0, .null])) (.inl (gE g 0, 7, .inl (fun _ => 0))) (.inl (gE g 3, 6, .inr (.inr (.inr (.inr (fun _ => none))))))) (X3_start hM) ?_
  refine k_aloadn kh dX1_init_0 rfl ?_
  refine k_objInit kh dX1_init_1 tk_140 tk_133 tk_134 ⟨(Nat.le_of_ble_eq_true rfl), (Nat.le_of_ble_eq_true rfl)⟩ (Nat.le_of_ble_eq_true rfl) ?_
  refine k_aloadn kh dX1_init_4 rfl ?_
  refine k_getsN (i := 0) kh dX1_init_5 (by decide) (NTB_mem (w := Cond.fieldLinkNest "RollingNets$House" 9 "RollingNets" "TOLD_FIRST" "[I" "RollingNets") 141 (by decide +kernel) (by decide +kernel)) ?_
  refine k_tlen kh dX1_init_8 (by decide) ?_
  refine k_newI (N := 7) kh dX1_init_9 tk_163 (by decide) (Nat.le_of_ble_eq_true rfl) (Nat.le_of_ble_eq_true rfl) ?_
  refine k_eqM (M' := X3 g h M0 (.inr (1, [.null, .null, .null, .null, .null, .null, .null, .null, .null, .null, .int 0, .int 0, .long 0, .null, .null, .int 0, .null])) (.inl (gE g 0, 7, .inl (fun _ => 0))) (.inl (gE g 3, 6, .inr (.inr (.inr (.inr (fun _ => none))))))) X3_put2 ?_
  refine k_at (n' := h + 2) (kc' := 1) (ks' := 7) rfl rfl rfl ?_
  refine k_putF kh ckc_1 (j := 0) (by decide) rfl rfl tm_270 dX1_init_11 (by omega) X3_at1 ⟨rfl, rfl⟩ (Nat.le_of_ble_eq_true rfl) ?_
  refine k_eqM (M' := X3 g h M0 (.inr (1, [rf g (h + 1), .null, .null, .null, .null, .null, .null, .null, .null, .null, .int 0, .int 0, .long 0, .null, .null, .int 0, .null])) (.inl (gE g 0, 7, .inl (fun _ => 0))) (.inl (gE g 3, 6, .inr (.inr (.inr (.inr (fun _ => none))))))) X3_put1 ?_
  refine k_aloadn kh dX1_init_14 rfl ?_
  refine k_bipush kh dX1_init_15 kb_12 ?_
  refine k_newL (N := 12) kh dX1_init_17 tk_164 (by decide) (Nat.le_of_ble_eq_true rfl) (Nat.le_of_ble_eq_true rfl) ?_
  refine k_eqM (M' := X3 g h M0 (.inr (1, [rf g (h + 1), .null, .null, .null, .null, .null, .null, .null, .null, .null, .int 0, .int 0, .long 0, .null, .null, .int 0, .null])) (.inl (gE g 0, 7, .inl (fun _ => 0))) (.inl (gE g 3, 6, .inr (.inr (.inr (.inr (fun _ => none))))))) (X3_new (by omega) (by omega) (by omega) (fr_L (ck_cash hh))) ?_
  refine k_at (n' := h + 3) (kc' := 2) (ks' := 19) rfl rfl rfl ?_
  refine k_putF kh ckc_1 (j := 1) (by decide) rfl rfl tm_274 dX1_init_19 (by omega) X3_at1 ⟨rfl, rfl⟩ (Nat.le_of_ble_eq_true rfl) ?_
  refine k_eqM (M' := X3 g h M0 (.inr (1, [rf g (h + 1), rf g (h + 2), .null, .null, .null, .null, .null, .null, .null, .null, .int 0, .int 0, .long 0, .null, .null, .int 0, .null])) (.inl (gE g 0, 7, .inl (fun _ => 0))) (.inl (gE g 3, 6, .inr (.inr (.inr (.inr (fun _ => none))))))) X3_put1 ?_
  refine k_aloadn kh dX1_init_22 rfl ?_
  refine k_bipush kh dX1_init_23 kb_12 ?_
  refine k_newI (N := 12) kh dX1_init_25 tk_163 (by decide) (Nat.le_of_ble_eq_true rfl) (Nat.le_of_ble_eq_true rfl) ?_
  refine k_eqM (M' := X3 g h M0 (.inr (1, [rf g (h + 1), rf g (h + 2), .null, .null, .null, .null, .null, .null, .null, .null, .int 0, .int 0, .long 0, .null, .null, .int 0, .null])) (.inl (gE g 0, 7, .inl (fun _ => 0))) (.inl (gE g 3, 6, .inr (.inr (.inr (.inr (fun _ => none))))))) (X3_new (by omega) (by omega) (by omega) (fr_I (ck_rank hh) (hh562 (r := 3) hh (by omega)) (hz_H hh 3 (by omega) (fun _ => Or.inr rfl)))) ?_
  refine k_at (n' := h + 4) (kc' := 3) (ks' := 31) rfl rfl rfl ?_
  refine k_putF kh ckc_1 (j := 2) (by decide) rfl rfl tm_279 dX1_init_27 (by omega) X3_at1 ⟨rfl, rfl⟩ (Nat.le_of_ble_eq_true rfl) ?_
  refine k_eqM (M' := X3 g h M0 (.inr (1, [rf g (h + 1), rf g (h + 2), rf g (h + 3), .null, .null, .null, .null, .null, .null, .null, .int 0, .int 0, .long 0, .null, .null, .int 0, .null])) (.inl (gE g 0, 7, .inl (fun _ => 0))) (.inl (gE g 3, 6, .inr (.inr (.inr (.inr (fun _ => none))))))) X3_put1 ?_
  refine k_aloadn kh dX1_init_30 rfl ?_
  refine k_bipush kh dX1_init_31 kb_12 ?_
  refine k_newI (N := 12) kh dX1_init_33 tk_163 (by decide) (Nat.le_of_ble_eq_true rfl) (Nat.le_of_ble_eq_true rfl) ?_
  refine k_eqM (M' := X3 g h M0 (.inr (1, [rf g (h + 1), rf g (h + 2), rf g (h + 3), .null, .null, .null, .null, .null, .null, .null, .int 0, .int 0, .long 0, .null, .null, .int 0, .null])) (.inl (gE g 0, 7, .inl (fun _ => 0))) (.inl (gE g 3, 6, .inr (.inr (.inr (.inr (fun _ => none))))))) (X3_new (by omega) (by omega) (by omega) (fr_I (ck_pledged hh) (hh562 (r := 4) hh (by omega)) (hz_H hh 4 (by omega) (fun _ => Or.inr rfl)))) ?_
  refine k_at (n' := h + 5) (kc' := 4) (ks' := 43) rfl rfl rfl ?_
  refine k_putF kh ckc_1 (j := 3) (by decide) rfl rfl tm_282 dX1_init_35 (by omega) X3_at1 ⟨rfl, rfl⟩ (Nat.le_of_ble_eq_true rfl) ?_
  refine k_eqM (M' := X3 g h M0 (.inr (1, [rf g (h + 1), rf g (h + 2), rf g (h + 3), rf g (h + 4), .null, .null, .null, .null, .null, .null, .int 0, .int 0, .long 0, .null, .null, .int 0, .null])) (.inl (gE g 0, 7, .inl (fun _ => 0))) (.inl (gE g 3, 6, .inr (.inr (.inr (.inr (fun _ => none))))))) X3_put1 ?_
  refine k_aloadn kh dX1_init_38 rfl ?_
  refine k_bipush kh dX1_init_39 kb_12 ?_
  refine k_newZ (N := 12) kh dX1_init_41 tk_165 (by decide) (Nat.le_of_ble_eq_true rfl) (Nat.le_of_ble_eq_true rfl) ?_
  refine k_eqM (M' := X3 g h M0 (.inr (1, [rf g (h + 1), rf g (h + 2), rf g (h + 3), rf g (h + 4), .null, .null, .null, .null, .null, .null, .int 0, .int 0, .long 0, .null, .null, .int 0, .null])) (.inl (gE g 0, 7, .inl (fun _ => 0))) (.inl (gE g 3, 6, .inr (.inr (.inr (.inr (fun _ => none))))))) (X3_new (by omega) (by omega) (by omega) (fr_Z (ck_susp hh) (hh562 (r := 5) hh (by omega)) (hz_H hh 5 (by omega) (fun _ => Or.inr rfl)))) ?_
  refine k_at (n' := h + 6) (kc' := 5) (ks' := 55) rfl rfl rfl ?_
  refine k_putF kh ckc_1 (j := 4) (by decide) rfl rfl tm_285 dX1_init_43 (by omega) X3_at1 ⟨rfl, rfl⟩ (Nat.le_of_ble_eq_true rfl) ?_
  refine k_eqM (M' := X3 g h M0 (.inr (1, [rf g (h + 1), rf g (h + 2), rf g (h + 3), rf g (h + 4), rf g (h + 5), .null, .null, .null, .null, .null, .int 0, .int 0, .long 0, .null, .null, .int 0, .null])) (.inl (gE g 0, 7, .inl (fun _ => 0))) (.inl (gE g 3, 6, .inr (.inr (.inr (.inr (fun _ => none))))))) X3_put1 ?_
  refine k_aloadn kh dX1_init_46 rfl ?_
  refine k_bipush kh dX1_init_47 kb_6 ?_
  refine k_anewM (N := 6) kh dX1_init_49 tk_143 (by decide) (Nat.le_of_ble_eq_true rfl) (Nat.le_of_ble_eq_true rfl) ?_
  refine k_eqM (M' := X3 g h M0 (.inr (1, [rf g (h + 1), rf g (h + 2), rf g (h + 3), rf g (h + 4), rf g (h + 5), .null, .null, .null, .null, .null, .int 0, .int 0, .long 0, .null, .null, .int 0, .null])) (.inl (gE g 0, 7, .inl (fun _ => 0))) (.inl (gE g 3, 6, .inr (.inr (.inr (.inr (fun _ => none))))))) X3_put3 ?_
  refine k_at (n' := h + 7) (kc' := 6) (ks' := 61) rfl rfl rfl ?_
  refine k_putF kh ckc_1 (j := 5) (by decide) rfl rfl tm_288 dX1_init_52 (by omega) X3_at1 ⟨rfl, rfl⟩ (Nat.le_of_ble_eq_true rfl) ?_
  refine k_eqM (M' := X3 g h M0 (.inr (1, [rf g (h + 1), rf g (h + 2), rf g (h + 3), rf g (h + 4), rf g (h + 5), rf g (h + 6), .null, .null, .null, .null, .int 0, .int 0, .long 0, .null, .null, .int 0, .null])) (.inl (gE g 0, 7, .inl (fun _ => 0))) (.inl (gE g 3, 6, .inr (.inr (.inr (.inr (fun _ => none))))))) X3_put1 ?_
  refine k_aloadn kh dX1_init_55 rfl ?_
  refine k_new kh ckc_2 dX1_init_56 tk_145 tk_146 tm_113 df_2 (Nat.le_of_ble_eq_true rfl) (Nat.le_of_ble_eq_true rfl) ?_
  refine k_at (n' := h + 8) (kc' := 7) (ks' := 64) rfl rfl rfl ?_
  refine k_dup kh dX1_init_59 rfl ?_
  refine k_bipush kh dX1_init_60 kb_8 ?_
  refine k_sipush kh dX1_init_62 ks_200 ?_
  refine k_call (As := [.int (nI 8), .int (nI 200)]) kh rfl mk_House_40 tk_148 dX1_init_65 (kx_Table (isT_d hh) (by decide) (by decide) (M0 := upC (X3 g h M0 (.inr (1, [rf g (h + 1), rf g (h + 2), rf g (h + 3), rf g (h + 4), rf g (h + 5), rf g (h + 6), .null, .null, .null, .null, .int 0, .int 0, .long 0, .null, .null, .int 0, .null])) (.inl (gE g 0, 7, .inl (fun _ => 0))) (.inl (gE g 3, 6, .inr (.inr (.inr (.inr (fun _ => none))))))) (h + 7) (.inr (2, [.null, .int 0, .int 0]))) upC_s) ⟨(Nat.le_of_ble_eq_true rfl), (Nat.le_of_ble_eq_true rfl)⟩ rfl rfl (Nat.le_of_ble_eq_true rfl) ⟨(Nat.le_of_ble_eq_true rfl), (Nat.le_of_ble_eq_true rfl)⟩ ?_
  rintro _ _ ⟨rfl, rfl⟩
  refine k_eqM (M' := X3 g h M0 (.inr (1, [rf g (h + 1), rf g (h + 2), rf g (h + 3), rf g (h + 4), rf g (h + 5), rf g (h + 6), .null, .null, .null, .null, .int 0, .int 0, .long 0, .null, .null, .int 0, .null])) (.inl (gE g 0, 7, .inl (fun _ => 0))) (.inl (gE g 3, 6, .inr (.inr (.inr (.inr (fun _ => none))))))) (X3_call (by omega)) ?_
  refine k_at (n' := h + 17) (kc' := 16) (ks' := 1672) (by omega) rfl rfl ?_
  refine k_putF kh ckc_1 (j := 6) (by decide) rfl rfl tm_294 dX1_init_68 (by omega) X3_at1 ⟨rfl, rfl⟩ (Nat.le_of_ble_eq_true rfl) ?_
  refine k_eqM (M' := X3 g h M0 (.inr (1, [rf g (h + 1), rf g (h + 2), rf g (h + 3), rf g (h + 4), rf g (h + 5), rf g (h + 6), rf g (h + 7), .null, .null, .null, .int 0, .int 0, .long 0, .null, .null, .int 0, .null])) (.inl (gE g 0, 7, .inl (fun _ => 0))) (.inl (gE g 3, 6, .inr (.inr (.inr (.inr (fun _ => none))))))) X3_put1 ?_
  refine k_aloadn kh dX1_init_71 rfl ?_
  refine k_new kh ckc_2 dX1_init_72 tk_145 tk_146 tm_113 df_2 (Nat.le_of_ble_eq_true rfl) (Nat.le_of_ble_eq_true rfl) ?_
  refine k_at (n' := h + 18) (kc' := 17) (ks' := 1675) rfl rfl rfl ?_
  refine k_dup kh dX1_init_75 rfl ?_
  refine k_bipush kh dX1_init_76 kb_19 ?_
  refine k_bipush kh dX1_init_78 kb_60 ?_
  refine k_call (As := [.int (nI 19), .int (nI 60)]) kh rfl mk_House_40 tk_148 dX1_init_80 (kx_Table (isT_n hh) (by decide) (by decide) (M0 := upC (X3 g h M0 (.inr (1, [rf g (h + 1), rf g (h + 2), rf g (h + 3), rf g (h + 4), rf g (h + 5), rf g (h + 6), rf g (h + 7), .null, .null, .null, .int 0, .int 0, .long 0, .null, .null, .int 0, .null])) (.inl (gE g 0, 7, .inl (fun _ => 0))) (.inl (gE g 3, 6, .inr (.inr (.inr (.inr (fun _ => none))))))) (h + 17) (.inr (2, [.null, .int 0, .int 0]))) upC_s) ⟨(Nat.le_of_ble_eq_true rfl), (Nat.le_of_ble_eq_true rfl)⟩ rfl rfl (Nat.le_of_ble_eq_true rfl) ⟨(Nat.le_of_ble_eq_true rfl), (Nat.le_of_ble_eq_true rfl)⟩ ?_
  rintro _ _ ⟨rfl, rfl⟩
  refine k_eqM (M' := X3 g h M0 (.inr (1, [rf g (h + 1), rf g (h + 2), rf g (h + 3), rf g (h + 4), rf g (h + 5), rf g (h + 6), rf g (h + 7), .null, .null, .null, .int 0, .int 0, .long 0, .null, .null, .int 0, .null])) (.inl (gE g 0, 7, .inl (fun _ => 0))) (.inl (gE g 3, 6, .inr (.inr (.inr (.inr (fun _ => none))))))) (X3_call (by omega)) ?_
  refine k_at (n' := h + 38) (kc' := 37) (ks' := 2834) (by omega) rfl rfl ?_
  refine k_putF kh ckc_1 (j := 7) (by decide) rfl rfl tm_299 dX1_init_83 (by omega) X3_at1 ⟨rfl, rfl⟩ (Nat.le_of_ble_eq_true rfl) ?_
  refine k_eqM (M' := X3 g h M0 (.inr (1, [rf g (h + 1), rf g (h + 2), rf g (h + 3), rf g (h + 4), rf g (h + 5), rf g (h + 6), rf g (h + 7), rf g (h + 17), .null, .null, .int 0, .int 0, .long 0, .null, .null, .int 0, .null])) (.inl (gE g 0, 7, .inl (fun _ => 0))) (.inl (gE g 3, 6, .inr (.inr (.inr (.inr (fun _ => none))))))) X3_put1 ?_
  refine k_aloadn kh dX1_init_86 rfl ?_
  refine k_new kh ckc_2 dX1_init_87 tk_145 tk_146 tm_113 df_2 (Nat.le_of_ble_eq_true rfl) (Nat.le_of_ble_eq_true rfl) ?_
  refine k_at (n' := h + 39) (kc' := 38) (ks' := 2837) rfl rfl rfl ?_
  refine k_dup kh dX1_init_90 rfl ?_
  refine k_bipush kh dX1_init_91 kb_6 ?_
  refine k_sipush kh dX1_init_93 ks_300 ?_
  refine k_call (As := [.int (nI 6), .int (nI 300)]) kh rfl mk_House_40 tk_148 dX1_init_96 (kx_Table (isT_b hh) (by decide) (by decide) (M0 := upC (X3 g h M0 (.inr (1, [rf g (h + 1), rf g (h + 2), rf g (h + 3), rf g (h + 4), rf g (h + 5), rf g (h + 6), rf g (h + 7), rf g (h + 17), .null, .null, .int 0, .int 0, .long 0, .null, .null, .int 0, .null])) (.inl (gE g 0, 7, .inl (fun _ => 0))) (.inl (gE g 3, 6, .inr (.inr (.inr (.inr (fun _ => none))))))) (h + 38) (.inr (2, [.null, .int 0, .int 0]))) upC_s) ⟨(Nat.le_of_ble_eq_true rfl), (Nat.le_of_ble_eq_true rfl)⟩ rfl rfl (Nat.le_of_ble_eq_true rfl) ⟨(Nat.le_of_ble_eq_true rfl), (Nat.le_of_ble_eq_true rfl)⟩ ?_
  rintro _ _ ⟨rfl, rfl⟩
  refine k_eqM (M' := X3 g h M0 (.inr (1, [rf g (h + 1), rf g (h + 2), rf g (h + 3), rf g (h + 4), rf g (h + 5), rf g (h + 6), rf g (h + 7), rf g (h + 17), .null, .null, .int 0, .int 0, .long 0, .null, .null, .int 0, .null])) (.inl (gE g 0, 7, .inl (fun _ => 0))) (.inl (gE g 3, 6, .inr (.inr (.inr (.inr (fun _ => none))))))) (X3_call (by omega)) ?_
  refine k_at (n' := h + 46) (kc' := 45) (ks' := 4643) (by omega) rfl rfl ?_
  refine k_putF kh ckc_1 (j := 8) (by decide) rfl rfl tm_303 dX1_init_99 (by omega) X3_at1 ⟨rfl, rfl⟩ (Nat.le_of_ble_eq_true rfl) ?_
  refine k_eqM (M' := X3 g h M0 (.inr (1, [rf g (h + 1), rf g (h + 2), rf g (h + 3), rf g (h + 4), rf g (h + 5), rf g (h + 6), rf g (h + 7), rf g (h + 17), rf g (h + 38), .null, .int 0, .int 0, .long 0, .null, .null, .int 0, .null])) (.inl (gE g 0, 7, .inl (fun _ => 0))) (.inl (gE g 3, 6, .inr (.inr (.inr (.inr (fun _ => none))))))) X3_put1 ?_
  refine k_aloadn kh dX1_init_102 rfl ?_
  refine k_new kh ckc_2 dX1_init_103 tk_145 tk_146 tm_113 df_2 (Nat.le_of_ble_eq_true rfl) (Nat.le_of_ble_eq_true rfl) ?_
  refine k_at (n' := h + 47) (kc' := 46) (ks' := 4646) rfl rfl rfl ?_
  refine k_dup kh dX1_init_106 rfl ?_
  refine k_bipush kh dX1_init_107 kb_6 ?_
  refine k_bipush kh dX1_init_109 kb_24 ?_
  refine k_call (As := [.int (nI 6), .int (nI 24)]) kh rfl mk_House_40 tk_148 dX1_init_111 (kx_Table (isT_p hh) (by decide) (by decide) (M0 := upC (X3 g h M0 (.inr (1, [rf g (h + 1), rf g (h + 2), rf g (h + 3), rf g (h + 4), rf g (h + 5), rf g (h + 6), rf g (h + 7), rf g (h + 17), rf g (h + 38), .null, .int 0, .int 0, .long 0, .null, .null, .int 0, .null])) (.inl (gE g 0, 7, .inl (fun _ => 0))) (.inl (gE g 3, 6, .inr (.inr (.inr (.inr (fun _ => none))))))) (h + 46) (.inr (2, [.null, .int 0, .int 0]))) upC_s) ⟨(Nat.le_of_ble_eq_true rfl), (Nat.le_of_ble_eq_true rfl)⟩ rfl rfl (Nat.le_of_ble_eq_true rfl) ⟨(Nat.le_of_ble_eq_true rfl), (Nat.le_of_ble_eq_true rfl)⟩ ?_
  rintro _ _ ⟨rfl, rfl⟩
  refine k_eqM (M' := X3 g h M0 (.inr (1, [rf g (h + 1), rf g (h + 2), rf g (h + 3), rf g (h + 4), rf g (h + 5), rf g (h + 6), rf g (h + 7), rf g (h + 17), rf g (h + 38), .null, .int 0, .int 0, .long 0, .null, .null, .int 0, .null])) (.inl (gE g 0, 7, .inl (fun _ => 0))) (.inl (gE g 3, 6, .inr (.inr (.inr (.inr (fun _ => none))))))) (X3_call (by omega)) ?_
  refine k_at (n' := h + 54) (kc' := 53) (ks' := 4796) (by omega) rfl rfl ?_
  refine k_putF kh ckc_1 (j := 9) (by decide) rfl rfl tm_305 dX1_init_114 (by omega) X3_at1 ⟨rfl, rfl⟩ (Nat.le_of_ble_eq_true rfl) ?_
  refine k_eqM (M' := X3 g h M0 (.inr (1, [rf g (h + 1), rf g (h + 2), rf g (h + 3), rf g (h + 4), rf g (h + 5), rf g (h + 6), rf g (h + 7), rf g (h + 17), rf g (h + 38), rf g (h + 46), .int 0, .int 0, .long 0, .null, .null, .int 0, .null])) (.inl (gE g 0, 7, .inl (fun _ => 0))) (.inl (gE g 3, 6, .inr (.inr (.inr (.inr (fun _ => none))))))) X3_put1 ?_
  refine k_aloadn kh dX1_init_117 rfl ?_
  refine k_iconst kh dX1_init_118 ki_0 ?_
  refine k_put kh ckc_1 (j := 10) (by decide) rfl tm_307 dX1_init_119 (by omega) X3_at1 ⟨rfl, rfl⟩ (Nat.le_of_ble_eq_true rfl) ?_
  refine k_eqM (M' := X3 g h M0 (.inr (1, [rf g (h + 1), rf g (h + 2), rf g (h + 3), rf g (h + 4), rf g (h + 5), rf g (h + 6), rf g (h + 7), rf g (h + 17), rf g (h + 38), rf g (h + 46), .int (nI 0), .int 0, .long 0, .null, .null, .int 0, .null])) (.inl (gE g 0, 7, .inl (fun _ => 0))) (.inl (gE g 3, 6, .inr (.inr (.inr (.inr (fun _ => none))))))) X3_put1 ?_
  refine k_aloadn kh dX1_init_122 rfl ?_
  refine k_iconst kh dX1_init_123 ki_0 ?_
  refine k_put kh ckc_1 (j := 11) (by decide) rfl tm_309 dX1_init_124 (by omega) X3_at1 ⟨rfl, rfl⟩ (Nat.le_of_ble_eq_true rfl) ?_
  refine k_eqM (M' := X3 g h M0 (.inr (1, [rf g (h + 1), rf g (h + 2), rf g (h + 3), rf g (h + 4), rf g (h + 5), rf g (h + 6), rf g (h + 7), rf g (h + 17), rf g (h + 38), rf g (h + 46), .int (nI 0), .int (nI 0), .long 0, .null, .null, .int 0, .null])) (.inl (gE g 0, 7, .inl (fun _ => 0))) (.inl (gE g 3, 6, .inr (.inr (.inr (.inr (fun _ => none))))))) X3_put1 ?_
  refine k_aloadn kh dX1_init_127 rfl ?_
  refine k_lconst (v := 0) kh dX1_init_128 (by decide) ?_
  refine k_put kh ckc_1 (j := 12) (by decide) rfl tm_314 dX1_init_129 (by omega) X3_at1 ⟨rfl, rfl⟩ (Nat.le_of_ble_eq_true rfl) ?_
  refine k_eqM (M' := X3 g h M0 (.inr (1, [rf g (h + 1), rf g (h + 2), rf g (h + 3), rf g (h + 4), rf g (h + 5), rf g (h + 6), rf g (h + 7), rf g (h + 17), rf g (h + 38), rf g (h + 46), .int (nI 0), .int (nI 0), .long 0, .null, .null, .int 0, .null])) (.inl (gE g 0, 7, .inl (fun _ => 0))) (.inl (gE g 3, 6, .inr (.inr (.inr (.inr (fun _ => none))))))) X3_put1 ?_
  refine k_aloadn kh dX1_init_132 rfl ?_
  refine k_new kh ckc_3 dX1_init_133 tk_166 tk_167 tm_114 df_3 (Nat.le_of_ble_eq_true rfl) (Nat.le_of_ble_eq_true rfl) ?_
  refine k_at (n' := h + 55) (kc' := 54) (ks' := 4800) rfl rfl rfl ?_
  refine k_dup kh dX1_init_136 rfl ?_
  refine k_call (As := []) kh rfl mk_House_69 tk_169 dX1_init_137 (kx_Line hh (M0 := upC (X3 g h M0 (.inr (1, [rf g (h + 1), rf g (h + 2), rf g (h + 3), rf g (h + 4), rf g (h + 5), rf g (h + 6), rf g (h + 7), rf g (h + 17), rf g (h + 38), rf g (h + 46), .int (nI 0), .int (nI 0), .long 0, .null, .null, .int 0, .null])) (.inl (gE g 0, 7, .inl (fun _ => 0))) (.inl (gE g 3, 6, .inr (.inr (.inr (.inr (fun _ => none))))))) (h + 54) (.inr (3, [.null, .null, .int 0, .null]))) upC_s) ⟨(Nat.le_of_ble_eq_true rfl), (Nat.le_of_ble_eq_true rfl)⟩ rfl rfl (Nat.le_of_ble_eq_true rfl) ⟨(Nat.le_of_ble_eq_true rfl), (Nat.le_of_ble_eq_true rfl)⟩ ?_
  rintro _ _ ⟨rfl, rfl⟩
  refine k_eqM (M' := X3 g h M0 (.inr (1, [rf g (h + 1), rf g (h + 2), rf g (h + 3), rf g (h + 4), rf g (h + 5), rf g (h + 6), rf g (h + 7), rf g (h + 17), rf g (h + 38), rf g (h + 46), .int (nI 0), .int (nI 0), .long 0, .null, .null, .int 0, .null])) (.inl (gE g 0, 7, .inl (fun _ => 0))) (.inl (gE g 3, 6, .inr (.inr (.inr (.inr (fun _ => none))))))) (X3_call (by omega)) ?_
  refine k_at (n' := h + 58) (kc' := 57) (ks' := 7212) (by omega) rfl rfl ?_
  refine k_putF kh ckc_1 (j := 13) (by decide) rfl rfl tm_318 dX1_init_140 (by omega) X3_at1 ⟨rfl, rfl⟩ (Nat.le_of_ble_eq_true rfl) ?_
  refine k_eqM (M' := X3 g h M0 (.inr (1, [rf g (h + 1), rf g (h + 2), rf g (h + 3), rf g (h + 4), rf g (h + 5), rf g (h + 6), rf g (h + 7), rf g (h + 17), rf g (h + 38), rf g (h + 46), .int (nI 0), .int (nI 0), .long 0, rf g (h + 54), .null, .int 0, .null])) (.inl (gE g 0, 7, .inl (fun _ => 0))) (.inl (gE g 3, 6, .inr (.inr (.inr (.inr (fun _ => none))))))) X3_put1 ?_
  refine k_aloadn kh dX1_init_143 rfl ?_
  refine k_bipush kh dX1_init_144 kb_12 ?_
  refine k_newI (N := 12) kh dX1_init_146 tk_163 (by decide) (Nat.le_of_ble_eq_true rfl) (Nat.le_of_ble_eq_true rfl) ?_
  refine k_eqM (M' := X3 g h M0 (.inr (1, [rf g (h + 1), rf g (h + 2), rf g (h + 3), rf g (h + 4), rf g (h + 5), rf g (h + 6), rf g (h + 7), rf g (h + 17), rf g (h + 38), rf g (h + 46), .int (nI 0), .int (nI 0), .long 0, rf g (h + 54), .null, .int 0, .null])) (.inl (gE g 0, 7, .inl (fun _ => 0))) (.inl (gE g 3, 6, .inr (.inr (.inr (.inr (fun _ => none))))))) (X3_new (by omega) (by omega) (by omega) (fr_I (ck_chain hh) (hh562 (r := 58) hh (by omega)) (hz_H hh 58 (by omega) (fun _ => Or.inl rfl)))) ?_
  refine k_at (n' := h + 59) (kc' := 58) (ks' := 7224) rfl rfl rfl ?_
  refine k_putF kh ckc_1 (j := 14) (by decide) rfl rfl tm_322 dX1_init_148 (by omega) X3_at1 ⟨rfl, rfl⟩ (Nat.le_of_ble_eq_true rfl) ?_
  refine k_eqM (M' := X3 g h M0 (.inr (1, [rf g (h + 1), rf g (h + 2), rf g (h + 3), rf g (h + 4), rf g (h + 5), rf g (h + 6), rf g (h + 7), rf g (h + 17), rf g (h + 38), rf g (h + 46), .int (nI 0), .int (nI 0), .long 0, rf g (h + 54), rf g (h + 58), .int 0, .null])) (.inl (gE g 0, 7, .inl (fun _ => 0))) (.inl (gE g 3, 6, .inr (.inr (.inr (.inr (fun _ => none))))))) X3_put1 ?_
  refine k_aloadn kh dX1_init_151 rfl ?_
  refine k_iconst kh dX1_init_152 ki_0 ?_
  refine k_put kh ckc_1 (j := 15) (by decide) rfl tm_324 dX1_init_153 (by omega) X3_at1 ⟨rfl, rfl⟩ (Nat.le_of_ble_eq_true rfl) ?_
  refine k_eqM (M' := X3 g h M0 (.inr (1, [rf g (h + 1), rf g (h + 2), rf g (h + 3), rf g (h + 4), rf g (h + 5), rf g (h + 6), rf g (h + 7), rf g (h + 17), rf g (h + 38), rf g (h + 46), .int (nI 0), .int (nI 0), .long 0, rf g (h + 54), rf g (h + 58), .int (nI 0), .null])) (.inl (gE g 0, 7, .inl (fun _ => 0))) (.inl (gE g 3, 6, .inr (.inr (.inr (.inr (fun _ => none))))))) X3_put1 ?_
  refine k_aloadn kh dX1_init_156 rfl ?_
  refine k_bipush kh dX1_init_157 kb_12 ?_
  refine k_newI (N := 12) kh dX1_init_159 tk_163 (by decide) (Nat.le_of_ble_eq_true rfl) (Nat.le_of_ble_eq_true rfl) ?_
  refine k_eqM (M' := X3 g h M0 (.inr (1, [rf g (h + 1), rf g (h + 2), rf g (h + 3), rf g (h + 4), rf g (h + 5), rf g (h + 6), rf g (h + 7), rf g (h + 17), rf g (h + 38), rf g (h + 46), .int (nI 0), .int (nI 0), .long 0, rf g (h + 54), rf g (h + 58), .int (nI 0), .null])) (.inl (gE g 0, 7, .inl (fun _ => 0))) (.inl (gE g 3, 6, .inr (.inr (.inr (.inr (fun _ => none))))))) (X3_new (by omega) (by omega) (by omega) (fr_I (ck_parts hh) (hh562 (r := 59) hh (by omega)) (hz_H hh 59 (by omega) (fun _ => Or.inl rfl)))) ?_
  refine k_at (n' := h + 60) (kc' := 59) (ks' := 7236) rfl rfl rfl ?_
  refine k_putF kh ckc_1 (j := 16) (by decide) rfl rfl tm_327 dX1_init_161 (by omega) X3_at1 ⟨rfl, rfl⟩ (Nat.le_of_ble_eq_true rfl) ?_
  refine k_eqM (M' := X3 g h M0 (.inr (1, [rf g (h + 1), rf g (h + 2), rf g (h + 3), rf g (h + 4), rf g (h + 5), rf g (h + 6), rf g (h + 7), rf g (h + 17), rf g (h + 38), rf g (h + 46), .int (nI 0), .int (nI 0), .long 0, rf g (h + 54), rf g (h + 58), .int (nI 0), rf g (h + 59)])) (.inl (gE g 0, 7, .inl (fun _ => 0))) (.inl (gE g 3, 6, .inr (.inr (.inr (.inr (fun _ => none))))))) X3_put1 ?_
  refine k_getsN (i := 0) kh dX1_init_164 (by decide) (NTB_mem (w := Cond.fieldLinkNest "RollingNets$House" 9 "RollingNets" "TOLD_FIRST" "[I" "RollingNets") 141 (by decide +kernel) (by decide +kernel)) ?_
  refine k_iconst kh dX1_init_167 ki_0 ?_
  refine k_aloadn kh dX1_init_168 rfl ?_
  refine k_getf kh ckc_1 (j := 0) (by decide) tm_270 dX1_init_169 (by omega) X3_at1 rfl ?_
  refine k_iconst kh dX1_init_172 ki_0 ?_
  refine k_aloadn kh dX1_init_173 rfl ?_
  refine k_getf kh ckc_1 (j := 0) (by decide) tm_270 dX1_init_174 (by omega) X3_at1 rfl ?_
  refine k_alen (N := 7) (f2 := fun _ => 0) kh dX1_init_177 (by omega) X3_at2 ?_
  refine k_acopyT (i := 0) (N := 7) (f2 := fun _ => 0) kh ac_House dX1_init_178 (by decide) (by omega) X3_at2 (by decide) ⟨(Nat.le_of_ble_eq_true rfl), (Nat.le_of_ble_eq_true rfl)⟩ ?_
  refine k_eqM (M' := X3 g h M0 (.inr (1, [rf g (h + 1), rf g (h + 2), rf g (h + 3), rf g (h + 4), rf g (h + 5), rf g (h + 6), rf g (h + 7), rf g (h + 17), rf g (h + 38), rf g (h + 46), .int (nI 0), .int (nI 0), .long 0, rf g (h + 54), rf g (h + 58), .int (nI 0), rf g (h + 59)])) (.inl (gE g 0, 7, .inl (va_cpy (sV 0) (fun _ => 0) 0 0 7))) (.inl (gE g 3, 6, .inr (.inr (.inr (.inr (fun _ => none))))))) X3_put2 ?_
  refine k_iconst kh dX1_init_181 ki_0 ?_
  refine k_istoren kh dX1_init_182 (by decide) (L' := [some (rf g h), some (.int (nI 0))]) rfl ?_
  refine k_iloadn kh dX1_init_183 rfl ?_
  refine k_bipush kh dX1_init_184 kb_6 ?_
  refine k_icmp_ge (a := 0) (b := 6) (tgt := 208) kh (by decide) (by decide) dX1_init_186 rfl (fun q => absurd q (by decide)) (fun _ => ?_)
  refine k_aloadn kh dX1_init_189 rfl ?_
  refine k_getf kh ckc_1 (j := 5) (by decide) tm_288 dX1_init_190 (by omega) X3_at1 rfl ?_
  refine k_iloadn kh dX1_init_193 rfl ?_
  refine k_new kh ckc_4 dX1_init_194 tk_143 tk_197 tm_116 df_4 (Nat.le_of_ble_eq_true rfl) (Nat.le_of_ble_eq_true rfl) ?_
  refine k_at (n' := h + 61) (kc' := 60) (ks' := 7247) rfl rfl rfl ?_
  refine k_dup kh dX1_init_197 rfl ?_
  refine k_call (As := []) kh rfl mk_House_89 tk_199 dX1_init_198 (kx_Market hm0 (M0 := upC (X3 g h M0 (.inr (1, [rf g (h + 1), rf g (h + 2), rf g (h + 3), rf g (h + 4), rf g (h + 5), rf g (h + 6), rf g (h + 7), rf g (h + 17), rf g (h + 38), rf g (h + 46), .int (nI 0), .int (nI 0), .long 0, rf g (h + 54), rf g (h + 58), .int (nI 0), rf g (h + 59)])) (.inl (gE g 0, 7, .inl (va_cpy (sV 0) (fun _ => 0) 0 0 7))) (.inl (gE g 3, 6, .inr (.inr (.inr (.inr (fun _ => none))))))) (h + 60) (.inr (4, [.null, .null, .null, .null, .null, .null, .null, .int 0, .int 0, .int 0, .int 0]))) upC_s) ⟨(Nat.le_of_ble_eq_true rfl), (Nat.le_of_ble_eq_true rfl)⟩ rfl rfl (Nat.le_of_ble_eq_true rfl) ⟨(Nat.le_of_ble_eq_true rfl), (Nat.le_of_ble_eq_true rfl)⟩ ?_
  rintro _ _ ⟨rfl, rfl⟩
  refine k_eqM (M' := X3 g h M0 (.inr (1, [rf g (h + 1), rf g (h + 2), rf g (h + 3), rf g (h + 4), rf g (h + 5), rf g (h + 6), rf g (h + 7), rf g (h + 17), rf g (h + 38), rf g (h + 46), .int (nI 0), .int (nI 0), .long 0, rf g (h + 54), rf g (h + 58), .int (nI 0), rf g (h + 59)])) (.inl (gE g 0, 7, .inl (va_cpy (sV 0) (fun _ => 0) 0 0 7))) (.inl (gE g 3, 6, .inr (.inr (.inr (.inr (fun _ => none))))))) (X3_call (by omega)) ?_
  refine k_at (n' := h + 80) (kc' := 79) (ks' := 8531) (by omega) rfl rfl ?_
  refine k_aastM (N := 6) kh dX1_init_201 (by omega) X3_at3 (by omega) ((X3_ot (by omega) (by omega) (by omega)).trans (fr_M hm0)) (by decide) (by decide) ?_
  refine k_eqM (M' := X3 g h M0 (.inr (1, [rf g (h + 1), rf g (h + 2), rf g (h + 3), rf g (h + 4), rf g (h + 5), rf g (h + 6), rf g (h + 7), rf g (h + 17), rf g (h + 38), rf g (h + 46), .int (nI 0), .int (nI 0), .long 0, rf g (h + 54), rf g (h + 58), .int (nI 0), rf g (h + 59)])) (.inl (gE g 0, 7, .inl (va_cpy (sV 0) (fun _ => 0) 0 0 7))) (.inl (gE g 3, 6, .inr (.inr (.inr (.inr (fun j => if j < 1 then some (gB g + (h + 60 + 20 * j)) else none))))))) (X3_put3.trans (x3_mk (by first | exact mk_up0 | exact mk_up (h := h) (i := 0)))) ?_
  refine k_iinc kh dX1_init_202 (by decide) rfl (v := nI 1) (by decide) (L' := [some (rf g h), some (.int (nI 1))]) rfl ?_
  refine k_goto (tgt := 183) kh dX1_init_205 rfl ?_
  refine k_iloadn kh dX1_init_183 rfl ?_
  refine k_bipush kh dX1_init_184 kb_6 ?_
  refine k_icmp_ge (a := 1) (b := 6) (tgt := 208) kh (by decide) (by decide) dX1_init_186 rfl (fun q => absurd q (by decide)) (fun _ => ?_)
  refine k_aloadn kh dX1_init_189 rfl ?_
  refine k_getf kh ckc_1 (j := 5) (by decide) tm_288 dX1_init_190 (by omega) X3_at1 rfl ?_
  refine k_iloadn kh dX1_init_193 rfl ?_
  refine k_new kh ckc_4 dX1_init_194 tk_143 tk_197 tm_116 df_4 (Nat.le_of_ble_eq_true rfl) (Nat.le_of_ble_eq_true rfl) ?_
  refine k_at (n' := h + 81) (kc' := 80) (ks' := 8542) rfl rfl rfl ?_
  refine k_dup kh dX1_init_197 rfl ?_
  refine k_call (As := []) kh rfl mk_House_89 tk_199 dX1_init_198 (kx_Market hm1 (M0 := upC (X3 g h M0 (.inr (1, [rf g (h + 1), rf g (h + 2), rf g (h + 3), rf g (h + 4), rf g (h + 5), rf g (h + 6), rf g (h + 7), rf g (h + 17), rf g (h + 38), rf g (h + 46), .int (nI 0), .int (nI 0), .long 0, rf g (h + 54), rf g (h + 58), .int (nI 0), rf g (h + 59)])) (.inl (gE g 0, 7, .inl (va_cpy (sV 0) (fun _ => 0) 0 0 7))) (.inl (gE g 3, 6, .inr (.inr (.inr (.inr (fun j => if j < 1 then some (gB g + (h + 60 + 20 * j)) else none))))))) (h + 80) (.inr (4, [.null, .null, .null, .null, .null, .null, .null, .int 0, .int 0, .int 0, .int 0]))) upC_s) ⟨(Nat.le_of_ble_eq_true rfl), (Nat.le_of_ble_eq_true rfl)⟩ rfl rfl (Nat.le_of_ble_eq_true rfl) ⟨(Nat.le_of_ble_eq_true rfl), (Nat.le_of_ble_eq_true rfl)⟩ ?_
  rintro _ _ ⟨rfl, rfl⟩
  refine k_eqM (M' := X3 g h M0 (.inr (1, [rf g (h + 1), rf g (h + 2), rf g (h + 3), rf g (h + 4), rf g (h + 5), rf g (h + 6), rf g (h + 7), rf g (h + 17), rf g (h + 38), rf g (h + 46), .int (nI 0), .int (nI 0), .long 0, rf g (h + 54), rf g (h + 58), .int (nI 0), rf g (h + 59)])) (.inl (gE g 0, 7, .inl (va_cpy (sV 0) (fun _ => 0) 0 0 7))) (.inl (gE g 3, 6, .inr (.inr (.inr (.inr (fun j => if j < 1 then some (gB g + (h + 60 + 20 * j)) else none))))))) (X3_call (by omega)) ?_
  refine k_at (n' := h + 100) (kc' := 99) (ks' := 9826) (by omega) rfl rfl ?_
  refine k_aastM (N := 6) kh dX1_init_201 (by omega) X3_at3 (by omega) ((X3_ot (by omega) (by omega) (by omega)).trans (fr_M hm1)) (by decide) (by decide) ?_
  refine k_eqM (M' := X3 g h M0 (.inr (1, [rf g (h + 1), rf g (h + 2), rf g (h + 3), rf g (h + 4), rf g (h + 5), rf g (h + 6), rf g (h + 7), rf g (h + 17), rf g (h + 38), rf g (h + 46), .int (nI 0), .int (nI 0), .long 0, rf g (h + 54), rf g (h + 58), .int (nI 0), rf g (h + 59)])) (.inl (gE g 0, 7, .inl (va_cpy (sV 0) (fun _ => 0) 0 0 7))) (.inl (gE g 3, 6, .inr (.inr (.inr (.inr (fun j => if j < 2 then some (gB g + (h + 60 + 20 * j)) else none))))))) (X3_put3.trans (x3_mk (by first | exact mk_up0 | exact mk_up (h := h) (i := 1)))) ?_
  refine k_iinc kh dX1_init_202 (by decide) rfl (v := nI 2) (by decide) (L' := [some (rf g h), some (.int (nI 2))]) rfl ?_
  refine k_goto (tgt := 183) kh dX1_init_205 rfl ?_
  refine k_iloadn kh dX1_init_183 rfl ?_
  refine k_bipush kh dX1_init_184 kb_6 ?_
  refine k_icmp_ge (a := 2) (b := 6) (tgt := 208) kh (by decide) (by decide) dX1_init_186 rfl (fun q => absurd q (by decide)) (fun _ => ?_)
  refine k_aloadn kh dX1_init_189 rfl ?_
  refine k_getf kh ckc_1 (j := 5) (by decide) tm_288 dX1_init_190 (by omega) X3_at1 rfl ?_
  refine k_iloadn kh dX1_init_193 rfl ?_
  refine k_new kh ckc_4 dX1_init_194 tk_143 tk_197 tm_116 df_4 (Nat.le_of_ble_eq_true rfl) (Nat.le_of_ble_eq_true rfl) ?_
  refine k_at (n' := h + 101) (kc' := 100) (ks' := 9837) rfl rfl rfl ?_
  refine k_dup kh dX1_init_197 rfl ?_
  refine k_call (As := []) kh rfl mk_House_89 tk_199 dX1_init_198 (kx_Market hm2 (M0 := upC (X3 g h M0 (.inr (1, [rf g (h + 1), rf g (h + 2), rf g (h + 3), rf g (h + 4), rf g (h + 5), rf g (h + 6), rf g (h + 7), rf g (h + 17), rf g (h + 38), rf g (h + 46), .int (nI 0), .int (nI 0), .long 0, rf g (h + 54), rf g (h + 58), .int (nI 0), rf g (h + 59)])) (.inl (gE g 0, 7, .inl (va_cpy (sV 0) (fun _ => 0) 0 0 7))) (.inl (gE g 3, 6, .inr (.inr (.inr (.inr (fun j => if j < 2 then some (gB g + (h + 60 + 20 * j)) else none))))))) (h + 100) (.inr (4, [.null, .null, .null, .null, .null, .null, .null, .int 0, .int 0, .int 0, .int 0]))) upC_s) ⟨(Nat.le_of_ble_eq_true rfl), (Nat.le_of_ble_eq_true rfl)⟩ rfl rfl (Nat.le_of_ble_eq_true rfl) ⟨(Nat.le_of_ble_eq_true rfl), (Nat.le_of_ble_eq_true rfl)⟩ ?_
  rintro _ _ ⟨rfl, rfl⟩
  refine k_eqM (M' := X3 g h M0 (.inr (1, [rf g (h + 1), rf g (h + 2), rf g (h + 3), rf g (h + 4), rf g (h + 5), rf g (h + 6), rf g (h + 7), rf g (h + 17), rf g (h + 38), rf g (h + 46), .int (nI 0), .int (nI 0), .long 0, rf g (h + 54), rf g (h + 58), .int (nI 0), rf g (h + 59)])) (.inl (gE g 0, 7, .inl (va_cpy (sV 0) (fun _ => 0) 0 0 7))) (.inl (gE g 3, 6, .inr (.inr (.inr (.inr (fun j => if j < 2 then some (gB g + (h + 60 + 20 * j)) else none))))))) (X3_call (by omega)) ?_
  refine k_at (n' := h + 120) (kc' := 119) (ks' := 11121) (by omega) rfl rfl ?_
  refine k_aastM (N := 6) kh dX1_init_201 (by omega) X3_at3 (by omega) ((X3_ot (by omega) (by omega) (by omega)).trans (fr_M hm2)) (by decide) (by decide) ?_
  refine k_eqM (M' := X3 g h M0 (.inr (1, [rf g (h + 1), rf g (h + 2), rf g (h + 3), rf g (h + 4), rf g (h + 5), rf g (h + 6), rf g (h + 7), rf g (h + 17), rf g (h + 38), rf g (h + 46), .int (nI 0), .int (nI 0), .long 0, rf g (h + 54), rf g (h + 58), .int (nI 0), rf g (h + 59)])) (.inl (gE g 0, 7, .inl (va_cpy (sV 0) (fun _ => 0) 0 0 7))) (.inl (gE g 3, 6, .inr (.inr (.inr (.inr (fun j => if j < 3 then some (gB g + (h + 60 + 20 * j)) else none))))))) (X3_put3.trans (x3_mk (by first | exact mk_up0 | exact mk_up (h := h) (i := 2)))) ?_
  refine k_iinc kh dX1_init_202 (by decide) rfl (v := nI 3) (by decide) (L' := [some (rf g h), some (.int (nI 3))]) rfl ?_
  refine k_goto (tgt := 183) kh dX1_init_205 rfl ?_
  refine k_iloadn kh dX1_init_183 rfl ?_
  refine k_bipush kh dX1_init_184 kb_6 ?_
  refine k_icmp_ge (a := 3) (b := 6) (tgt := 208) kh (by decide) (by decide) dX1_init_186 rfl (fun q => absurd q (by decide)) (fun _ => ?_)
  refine k_aloadn kh dX1_init_189 rfl ?_
  refine k_getf kh ckc_1 (j := 5) (by decide) tm_288 dX1_init_190 (by omega) X3_at1 rfl ?_
  refine k_iloadn kh dX1_init_193 rfl ?_
  refine k_new kh ckc_4 dX1_init_194 tk_143 tk_197 tm_116 df_4 (Nat.le_of_ble_eq_true rfl) (Nat.le_of_ble_eq_true rfl) ?_
  refine k_at (n' := h + 121) (kc' := 120) (ks' := 11132) rfl rfl rfl ?_
  refine k_dup kh dX1_init_197 rfl ?_
  refine k_call (As := []) kh rfl mk_House_89 tk_199 dX1_init_198 (kx_Market hm3 (M0 := upC (X3 g h M0 (.inr (1, [rf g (h + 1), rf g (h + 2), rf g (h + 3), rf g (h + 4), rf g (h + 5), rf g (h + 6), rf g (h + 7), rf g (h + 17), rf g (h + 38), rf g (h + 46), .int (nI 0), .int (nI 0), .long 0, rf g (h + 54), rf g (h + 58), .int (nI 0), rf g (h + 59)])) (.inl (gE g 0, 7, .inl (va_cpy (sV 0) (fun _ => 0) 0 0 7))) (.inl (gE g 3, 6, .inr (.inr (.inr (.inr (fun j => if j < 3 then some (gB g + (h + 60 + 20 * j)) else none))))))) (h + 120) (.inr (4, [.null, .null, .null, .null, .null, .null, .null, .int 0, .int 0, .int 0, .int 0]))) upC_s) ⟨(Nat.le_of_ble_eq_true rfl), (Nat.le_of_ble_eq_true rfl)⟩ rfl rfl (Nat.le_of_ble_eq_true rfl) ⟨(Nat.le_of_ble_eq_true rfl), (Nat.le_of_ble_eq_true rfl)⟩ ?_
  rintro _ _ ⟨rfl, rfl⟩
  refine k_eqM (M' := X3 g h M0 (.inr (1, [rf g (h + 1), rf g (h + 2), rf g (h + 3), rf g (h + 4), rf g (h + 5), rf g (h + 6), rf g (h + 7), rf g (h + 17), rf g (h + 38), rf g (h + 46), .int (nI 0), .int (nI 0), .long 0, rf g (h + 54), rf g (h + 58), .int (nI 0), rf g (h + 59)])) (.inl (gE g 0, 7, .inl (va_cpy (sV 0) (fun _ => 0) 0 0 7))) (.inl (gE g 3, 6, .inr (.inr (.inr (.inr (fun j => if j < 3 then some (gB g + (h + 60 + 20 * j)) else none))))))) (X3_call (by omega)) ?_
  refine k_at (n' := h + 140) (kc' := 139) (ks' := 12416) (by omega) rfl rfl ?_
  refine k_aastM (N := 6) kh dX1_init_201 (by omega) X3_at3 (by omega) ((X3_ot (by omega) (by omega) (by omega)).trans (fr_M hm3)) (by decide) (by decide) ?_
  refine k_eqM (M' := X3 g h M0 (.inr (1, [rf g (h + 1), rf g (h + 2), rf g (h + 3), rf g (h + 4), rf g (h + 5), rf g (h + 6), rf g (h + 7), rf g (h + 17), rf g (h + 38), rf g (h + 46), .int (nI 0), .int (nI 0), .long 0, rf g (h + 54), rf g (h + 58), .int (nI 0), rf g (h + 59)])) (.inl (gE g 0, 7, .inl (va_cpy (sV 0) (fun _ => 0) 0 0 7))) (.inl (gE g 3, 6, .inr (.inr (.inr (.inr (fun j => if j < 4 then some (gB g + (h + 60 + 20 * j)) else none))))))) (X3_put3.trans (x3_mk (by first | exact mk_up0 | exact mk_up (h := h) (i := 3)))) ?_
  refine k_iinc kh dX1_init_202 (by decide) rfl (v := nI 4) (by decide) (L' := [some (rf g h), some (.int (nI 4))]) rfl ?_
  refine k_goto (tgt := 183) kh dX1_init_205 rfl ?_
  refine k_iloadn kh dX1_init_183 rfl ?_
  refine k_bipush kh dX1_init_184 kb_6 ?_
  refine k_icmp_ge (a := 4) (b := 6) (tgt := 208) kh (by decide) (by decide) dX1_init_186 rfl (fun q => absurd q (by decide)) (fun _ => ?_)
  refine k_aloadn kh dX1_init_189 rfl ?_
  refine k_getf kh ckc_1 (j := 5) (by decide) tm_288 dX1_init_190 (by omega) X3_at1 rfl ?_
  refine k_iloadn kh dX1_init_193 rfl ?_
  refine k_new kh ckc_4 dX1_init_194 tk_143 tk_197 tm_116 df_4 (Nat.le_of_ble_eq_true rfl) (Nat.le_of_ble_eq_true rfl) ?_
  refine k_at (n' := h + 141) (kc' := 140) (ks' := 12427) rfl rfl rfl ?_
  refine k_dup kh dX1_init_197 rfl ?_
  refine k_call (As := []) kh rfl mk_House_89 tk_199 dX1_init_198 (kx_Market hm4 (M0 := upC (X3 g h M0 (.inr (1, [rf g (h + 1), rf g (h + 2), rf g (h + 3), rf g (h + 4), rf g (h + 5), rf g (h + 6), rf g (h + 7), rf g (h + 17), rf g (h + 38), rf g (h + 46), .int (nI 0), .int (nI 0), .long 0, rf g (h + 54), rf g (h + 58), .int (nI 0), rf g (h + 59)])) (.inl (gE g 0, 7, .inl (va_cpy (sV 0) (fun _ => 0) 0 0 7))) (.inl (gE g 3, 6, .inr (.inr (.inr (.inr (fun j => if j < 4 then some (gB g + (h + 60 + 20 * j)) else none))))))) (h + 140) (.inr (4, [.null, .null, .null, .null, .null, .null, .null, .int 0, .int 0, .int 0, .int 0]))) upC_s) ⟨(Nat.le_of_ble_eq_true rfl), (Nat.le_of_ble_eq_true rfl)⟩ rfl rfl (Nat.le_of_ble_eq_true rfl) ⟨(Nat.le_of_ble_eq_true rfl), (Nat.le_of_ble_eq_true rfl)⟩ ?_
  rintro _ _ ⟨rfl, rfl⟩
  refine k_eqM (M' := X3 g h M0 (.inr (1, [rf g (h + 1), rf g (h + 2), rf g (h + 3), rf g (h + 4), rf g (h + 5), rf g (h + 6), rf g (h + 7), rf g (h + 17), rf g (h + 38), rf g (h + 46), .int (nI 0), .int (nI 0), .long 0, rf g (h + 54), rf g (h + 58), .int (nI 0), rf g (h + 59)])) (.inl (gE g 0, 7, .inl (va_cpy (sV 0) (fun _ => 0) 0 0 7))) (.inl (gE g 3, 6, .inr (.inr (.inr (.inr (fun j => if j < 4 then some (gB g + (h + 60 + 20 * j)) else none))))))) (X3_call (by omega)) ?_
  refine k_at (n' := h + 160) (kc' := 159) (ks' := 13711) (by omega) rfl rfl ?_
  refine k_aastM (N := 6) kh dX1_init_201 (by omega) X3_at3 (by omega) ((X3_ot (by omega) (by omega) (by omega)).trans (fr_M hm4)) (by decide) (by decide) ?_
  refine k_eqM (M' := X3 g h M0 (.inr (1, [rf g (h + 1), rf g (h + 2), rf g (h + 3), rf g (h + 4), rf g (h + 5), rf g (h + 6), rf g (h + 7), rf g (h + 17), rf g (h + 38), rf g (h + 46), .int (nI 0), .int (nI 0), .long 0, rf g (h + 54), rf g (h + 58), .int (nI 0), rf g (h + 59)])) (.inl (gE g 0, 7, .inl (va_cpy (sV 0) (fun _ => 0) 0 0 7))) (.inl (gE g 3, 6, .inr (.inr (.inr (.inr (fun j => if j < 5 then some (gB g + (h + 60 + 20 * j)) else none))))))) (X3_put3.trans (x3_mk (by first | exact mk_up0 | exact mk_up (h := h) (i := 4)))) ?_
  refine k_iinc kh dX1_init_202 (by decide) rfl (v := nI 5) (by decide) (L' := [some (rf g h), some (.int (nI 5))]) rfl ?_
  refine k_goto (tgt := 183) kh dX1_init_205 rfl ?_
  refine k_iloadn kh dX1_init_183 rfl ?_
  refine k_bipush kh dX1_init_184 kb_6 ?_
  refine k_icmp_ge (a := 5) (b := 6) (tgt := 208) kh (by decide) (by decide) dX1_init_186 rfl (fun q => absurd q (by decide)) (fun _ => ?_)
  refine k_aloadn kh dX1_init_189 rfl ?_
  refine k_getf kh ckc_1 (j := 5) (by decide) tm_288 dX1_init_190 (by omega) X3_at1 rfl ?_
  refine k_iloadn kh dX1_init_193 rfl ?_
  refine k_new kh ckc_4 dX1_init_194 tk_143 tk_197 tm_116 df_4 (Nat.le_of_ble_eq_true rfl) (Nat.le_of_ble_eq_true rfl) ?_
  refine k_at (n' := h + 161) (kc' := 160) (ks' := 13722) rfl rfl rfl ?_
  refine k_dup kh dX1_init_197 rfl ?_
  refine k_call (As := []) kh rfl mk_House_89 tk_199 dX1_init_198 (kx_Market hm5 (M0 := upC (X3 g h M0 (.inr (1, [rf g (h + 1), rf g (h + 2), rf g (h + 3), rf g (h + 4), rf g (h + 5), rf g (h + 6), rf g (h + 7), rf g (h + 17), rf g (h + 38), rf g (h + 46), .int (nI 0), .int (nI 0), .long 0, rf g (h + 54), rf g (h + 58), .int (nI 0), rf g (h + 59)])) (.inl (gE g 0, 7, .inl (va_cpy (sV 0) (fun _ => 0) 0 0 7))) (.inl (gE g 3, 6, .inr (.inr (.inr (.inr (fun j => if j < 5 then some (gB g + (h + 60 + 20 * j)) else none))))))) (h + 160) (.inr (4, [.null, .null, .null, .null, .null, .null, .null, .int 0, .int 0, .int 0, .int 0]))) upC_s) ⟨(Nat.le_of_ble_eq_true rfl), (Nat.le_of_ble_eq_true rfl)⟩ rfl rfl (Nat.le_of_ble_eq_true rfl) ⟨(Nat.le_of_ble_eq_true rfl), (Nat.le_of_ble_eq_true rfl)⟩ ?_
  rintro _ _ ⟨rfl, rfl⟩
  refine k_eqM (M' := X3 g h M0 (.inr (1, [rf g (h + 1), rf g (h + 2), rf g (h + 3), rf g (h + 4), rf g (h + 5), rf g (h + 6), rf g (h + 7), rf g (h + 17), rf g (h + 38), rf g (h + 46), .int (nI 0), .int (nI 0), .long 0, rf g (h + 54), rf g (h + 58), .int (nI 0), rf g (h + 59)])) (.inl (gE g 0, 7, .inl (va_cpy (sV 0) (fun _ => 0) 0 0 7))) (.inl (gE g 3, 6, .inr (.inr (.inr (.inr (fun j => if j < 5 then some (gB g + (h + 60 + 20 * j)) else none))))))) (X3_call (by omega)) ?_
  refine k_at (n' := h + 180) (kc' := 179) (ks' := 15006) (by omega) rfl rfl ?_
  refine k_aastM (N := 6) kh dX1_init_201 (by omega) X3_at3 (by omega) ((X3_ot (by omega) (by omega) (by omega)).trans (fr_M hm5)) (by decide) (by decide) ?_
  refine k_eqM (M' := X3 g h M0 (.inr (1, [rf g (h + 1), rf g (h + 2), rf g (h + 3), rf g (h + 4), rf g (h + 5), rf g (h + 6), rf g (h + 7), rf g (h + 17), rf g (h + 38), rf g (h + 46), .int (nI 0), .int (nI 0), .long 0, rf g (h + 54), rf g (h + 58), .int (nI 0), rf g (h + 59)])) (.inl (gE g 0, 7, .inl (va_cpy (sV 0) (fun _ => 0) 0 0 7))) (.inl (gE g 3, 6, .inr (.inr (.inr (.inr (fun j => if j < 6 then some (gB g + (h + 60 + 20 * j)) else none))))))) (X3_put3.trans (x3_mk (by first | exact mk_up0 | exact mk_up (h := h) (i := 5)))) ?_
  refine k_iinc kh dX1_init_202 (by decide) rfl (v := nI 6) (by decide) (L' := [some (rf g h), some (.int (nI 6))]) rfl ?_
  refine k_goto (tgt := 183) kh dX1_init_205 rfl ?_
  refine k_iloadn kh dX1_init_183 rfl ?_
  refine k_bipush kh dX1_init_184 kb_6 ?_
  refine k_icmp_ge (a := 6) (b := 6) (tgt := 208) kh (by decide) (by decide) dX1_init_186 rfl (fun _ => ?_) (fun q => absurd q (by decide))
  exact k_vret kh dX1_init_208 ⟨rfl, rfl, rfl, X3_end (fr_H hh) (fr_told hh) (fr_mk hh)⟩
set_option maxRecDepth 20000 in
theorem kx_Reader {g : GE} {M0 : CM} (hM : M0 541 = .inr (5, [.null, .int 0, .null, .int 0, .int 0, .int 0])) : ConC g yX6_init cX6_init 1 2 9 553 [rf g 541] 542 M0 (fun n1 M1 => n1 = 551 ∧ M1 = Fm g 541 M0) := by
  refine kon_intro (own := "RollingNets$Reader") (by decide +kernel) rfl rfl (Nat.le_of_ble_eq_true rfl) (L0 := [some (rf g 541)]) rfl (fun Z kh => ?_)
  refine k_ext kh (M' := X1 g 541 M0 (.inr (5, [.null, .int 0, .null, .int 0, .int 0, .int 0]))) (X1_start hM) ?_
  refine k_aloadn kh dX6_init_0 rfl ?_
  refine k_objInit kh dX6_init_1 tk_369 tk_133 tk_134 ⟨(Nat.le_of_ble_eq_true rfl), (Nat.le_of_ble_eq_true rfl)⟩ (Nat.le_of_ble_eq_true rfl) ?_
  refine k_aloadn kh dX6_init_4 rfl ?_
  refine k_sipush kh dX6_init_5 ks_400 ?_
  refine k_newI (N := 400) kh dX6_init_8 tk_163 (by decide) (Nat.le_of_ble_eq_true rfl) (Nat.le_of_ble_eq_true rfl) ?_
  refine k_eqM (M' := X1 g 541 M0 (.inr (5, [.null, .int 0, .null, .int 0, .int 0, .int 0]))) (X1_new (by omega) (fr_I ck_tape (by decide) (fun j y h => by cases h))) ?_
  refine k_at (n' := 543) (kc' := 1) (ks' := 400) rfl rfl rfl ?_
  refine k_putF kh ckc_5 (j := 0) (by decide) rfl rfl tm_372 dX6_init_10 (by omega) X1_at ⟨rfl, rfl⟩ (Nat.le_of_ble_eq_true rfl) ?_
  refine k_eqM (M' := X1 g 541 M0 (.inr (5, [rf g 542, .int 0, .null, .int 0, .int 0, .int 0]))) X1_put ?_
  refine k_aloadn kh dX6_init_13 rfl ?_
  refine k_iconst kh dX6_init_14 ki_0 ?_
  refine k_put kh ckc_5 (j := 1) (by decide) rfl tm_373 dX6_init_15 (by omega) X1_at ⟨rfl, rfl⟩ (Nat.le_of_ble_eq_true rfl) ?_
  refine k_eqM (M' := X1 g 541 M0 (.inr (5, [rf g 542, .int (nI 0), .null, .int 0, .int 0, .int 0]))) X1_put ?_
  refine k_aloadn kh dX6_init_18 rfl ?_
  refine k_new kh ckc_2 dX6_init_19 tk_370 tk_146 tm_113 df_2 (Nat.le_of_ble_eq_true rfl) (Nat.le_of_ble_eq_true rfl) ?_
  refine k_at (n' := 544) (kc' := 2) (ks' := 403) rfl rfl rfl ?_
  refine k_dup kh dX6_init_22 rfl ?_
  refine k_bipush kh dX6_init_23 kb_6 ?_
  refine k_bipush kh dX6_init_25 kb_24 ?_
  refine k_call (As := [.int (nI 6), .int (nI 24)]) kh rfl mk_Reader_21 tk_148 dX6_init_27 (kx_Table isT_r (by decide) (by decide) (M0 := upC (X1 g 541 M0 (.inr (5, [rf g 542, .int (nI 0), .null, .int 0, .int 0, .int 0]))) 543 (.inr (2, [.null, .int 0, .int 0]))) upC_s) ⟨(Nat.le_of_ble_eq_true rfl), (Nat.le_of_ble_eq_true rfl)⟩ rfl rfl (Nat.le_of_ble_eq_true rfl) ⟨(Nat.le_of_ble_eq_true rfl), (Nat.le_of_ble_eq_true rfl)⟩ ?_
  rintro _ _ ⟨rfl, rfl⟩
  refine k_eqM (M' := X1 g 541 M0 (.inr (5, [rf g 542, .int (nI 0), .null, .int 0, .int 0, .int 0]))) (X1_call (by omega)) ?_
  refine k_at (n' := 551) (kc' := 9) (ks' := 553) (by omega) rfl rfl ?_
  refine k_putF kh ckc_5 (j := 2) (by decide) rfl rfl tm_375 dX6_init_30 (by omega) X1_at ⟨rfl, rfl⟩ (Nat.le_of_ble_eq_true rfl) ?_
  refine k_eqM (M' := X1 g 541 M0 (.inr (5, [rf g 542, .int (nI 0), rf g 543, .int 0, .int 0, .int 0]))) X1_put ?_
  refine k_aloadn kh dX6_init_33 rfl ?_
  refine k_iconst kh dX6_init_34 ki_0 ?_
  refine k_put kh ckc_5 (j := 3) (by decide) rfl tm_377 dX6_init_35 (by omega) X1_at ⟨rfl, rfl⟩ (Nat.le_of_ble_eq_true rfl) ?_
  refine k_eqM (M' := X1 g 541 M0 (.inr (5, [rf g 542, .int (nI 0), rf g 543, .int (nI 0), .int 0, .int 0]))) X1_put ?_
  refine k_aloadn kh dX6_init_38 rfl ?_
  refine k_iconst kh dX6_init_39 ki_0 ?_
  refine k_put kh ckc_5 (j := 4) (by decide) rfl tm_378 dX6_init_40 (by omega) X1_at ⟨rfl, rfl⟩ (Nat.le_of_ble_eq_true rfl) ?_
  refine k_eqM (M' := X1 g 541 M0 (.inr (5, [rf g 542, .int (nI 0), rf g 543, .int (nI 0), .int (nI 0), .int 0]))) X1_put ?_
  refine k_aloadn kh dX6_init_43 rfl ?_
  refine k_iconst kh dX6_init_44 ki_m1 ?_
  refine k_put kh ckc_5 (j := 5) (by decide) rfl tm_380 dX6_init_45 (by omega) X1_at ⟨rfl, rfl⟩ (Nat.le_of_ble_eq_true rfl) ?_
  refine k_eqM (M' := X1 g 541 M0 (.inr (5, [rf g 542, .int (nI 0), rf g 543, .int (nI 0), .int (nI 0), .int (-1)]))) X1_put ?_
  exact k_vret kh dX6_init_48 ⟨rfl, rfl, rfl, X1_end fr_R⟩
set_option maxRecDepth 20000 in
theorem kx_Nets {g : GE} {M0 : CM} (hM : M0 0 = .inr (0, [.null, .null, .null, .null, .int 0])) : ConC g yX8_init cX8_init 1 3 550 45628 [rf g 0] 1 M0 (fun n1 M1 => n1 = 551 ∧ M1 = Fm g 0 M0) := by
  refine kon_intro (own := "RollingNets") (by decide +kernel) rfl rfl (Nat.le_of_ble_eq_true rfl) (L0 := [some (rf g 0)]) rfl (fun Z kh => ?_)
  refine k_ext kh (M' := X1 g 0 M0 (.inr (0, [.null, .null, .null, .null, .int 0]))) (X1_start hM) ?_
  refine k_aloadn kh dX8_init_0 rfl ?_
  refine k_objInit kh dX8_init_1 tk_132 tk_133 tk_134 ⟨(Nat.le_of_ble_eq_true rfl), (Nat.le_of_ble_eq_true rfl)⟩ (Nat.le_of_ble_eq_true rfl) ?_
  refine k_aloadn kh dX8_init_4 rfl ?_
  refine k_new kh ckc_1 dX8_init_5 tk_135 tk_136 tm_112 df_1 (Nat.le_of_ble_eq_true rfl) (Nat.le_of_ble_eq_true rfl) ?_
  refine k_at (n' := 2) (kc' := 1) (ks' := 17) rfl rfl rfl ?_
  refine k_dup kh dX8_init_8 rfl ?_
  refine k_call (As := []) kh rfl mk_RollingNets_11 tk_138 dX8_init_9 (kx_House isH_1 (M0 := upC (X1 g 0 M0 (.inr (0, [.null, .null, .null, .null, .int 0]))) 1 (.inr (1, [.null, .null, .null, .null, .null, .null, .null, .null, .null, .null, .int 0, .int 0, .long 0, .null, .null, .int 0, .null]))) upC_s) ⟨(Nat.le_of_ble_eq_true rfl), (Nat.le_of_ble_eq_true rfl)⟩ rfl rfl (Nat.le_of_ble_eq_true rfl) ⟨(Nat.le_of_ble_eq_true rfl), (Nat.le_of_ble_eq_true rfl)⟩ ?_
  rintro _ _ ⟨rfl, rfl⟩
  refine k_eqM (M' := X1 g 0 M0 (.inr (0, [.null, .null, .null, .null, .int 0]))) (X1_call (by omega)) ?_
  refine k_at (n' := 181) (kc' := 180) (ks' := 15023) (by omega) rfl rfl ?_
  refine k_putF kh ckc_0 (j := 0) (by decide) rfl rfl tm_395 dX8_init_12 (by omega) X1_at ⟨rfl, rfl⟩ (Nat.le_of_ble_eq_true rfl) ?_
  refine k_eqM (M' := X1 g 0 M0 (.inr (0, [rf g 1, .null, .null, .null, .int 0]))) X1_put ?_
  refine k_aloadn kh dX8_init_15 rfl ?_
  refine k_new kh ckc_1 dX8_init_16 tk_135 tk_136 tm_112 df_1 (Nat.le_of_ble_eq_true rfl) (Nat.le_of_ble_eq_true rfl) ?_
  refine k_at (n' := 182) (kc' := 181) (ks' := 15040) rfl rfl rfl ?_
  refine k_dup kh dX8_init_19 rfl ?_
  refine k_call (As := []) kh rfl mk_RollingNets_11 tk_138 dX8_init_20 (kx_House isH_2 (M0 := upC (X1 g 0 M0 (.inr (0, [rf g 1, .null, .null, .null, .int 0]))) 181 (.inr (1, [.null, .null, .null, .null, .null, .null, .null, .null, .null, .null, .int 0, .int 0, .long 0, .null, .null, .int 0, .null]))) upC_s) ⟨(Nat.le_of_ble_eq_true rfl), (Nat.le_of_ble_eq_true rfl)⟩ rfl rfl (Nat.le_of_ble_eq_true rfl) ⟨(Nat.le_of_ble_eq_true rfl), (Nat.le_of_ble_eq_true rfl)⟩ ?_
  rintro _ _ ⟨rfl, rfl⟩
  refine k_eqM (M' := X1 g 0 M0 (.inr (0, [rf g 1, .null, .null, .null, .int 0]))) (X1_call (by omega)) ?_
  refine k_at (n' := 361) (kc' := 360) (ks' := 30046) (by omega) rfl rfl ?_
  refine k_putF kh ckc_0 (j := 1) (by decide) rfl rfl tm_396 dX8_init_23 (by omega) X1_at ⟨rfl, rfl⟩ (Nat.le_of_ble_eq_true rfl) ?_
  refine k_eqM (M' := X1 g 0 M0 (.inr (0, [rf g 1, rf g 181, .null, .null, .int 0]))) X1_put ?_
  refine k_aloadn kh dX8_init_26 rfl ?_
  refine k_new kh ckc_1 dX8_init_27 tk_135 tk_136 tm_112 df_1 (Nat.le_of_ble_eq_true rfl) (Nat.le_of_ble_eq_true rfl) ?_
  refine k_at (n' := 362) (kc' := 361) (ks' := 30063) rfl rfl rfl ?_
  refine k_dup kh dX8_init_30 rfl ?_
  refine k_call (As := []) kh rfl mk_RollingNets_11 tk_138 dX8_init_31 (kx_House isH_3 (M0 := upC (X1 g 0 M0 (.inr (0, [rf g 1, rf g 181, .null, .null, .int 0]))) 361 (.inr (1, [.null, .null, .null, .null, .null, .null, .null, .null, .null, .null, .int 0, .int 0, .long 0, .null, .null, .int 0, .null]))) upC_s) ⟨(Nat.le_of_ble_eq_true rfl), (Nat.le_of_ble_eq_true rfl)⟩ rfl rfl (Nat.le_of_ble_eq_true rfl) ⟨(Nat.le_of_ble_eq_true rfl), (Nat.le_of_ble_eq_true rfl)⟩ ?_
  rintro _ _ ⟨rfl, rfl⟩
  refine k_eqM (M' := X1 g 0 M0 (.inr (0, [rf g 1, rf g 181, .null, .null, .int 0]))) (X1_call (by omega)) ?_
  refine k_at (n' := 541) (kc' := 540) (ks' := 45069) (by omega) rfl rfl ?_
  refine k_putF kh ckc_0 (j := 2) (by decide) rfl rfl tm_397 dX8_init_34 (by omega) X1_at ⟨rfl, rfl⟩ (Nat.le_of_ble_eq_true rfl) ?_
  refine k_eqM (M' := X1 g 0 M0 (.inr (0, [rf g 1, rf g 181, rf g 361, .null, .int 0]))) X1_put ?_
  refine k_aloadn kh dX8_init_37 rfl ?_
  refine k_new kh ckc_5 dX8_init_38 tk_364 tk_365 tm_117 df_5 (Nat.le_of_ble_eq_true rfl) (Nat.le_of_ble_eq_true rfl) ?_
  refine k_at (n' := 542) (kc' := 541) (ks' := 45075) rfl rfl rfl ?_
  refine k_dup kh dX8_init_41 rfl ?_
  refine k_call (As := []) kh rfl mk_RollingNets_24 tk_367 dX8_init_42 (kx_Reader (M0 := upC (X1 g 0 M0 (.inr (0, [rf g 1, rf g 181, rf g 361, .null, .int 0]))) 541 (.inr (5, [.null, .int 0, .null, .int 0, .int 0, .int 0]))) upC_s) ⟨(Nat.le_of_ble_eq_true rfl), (Nat.le_of_ble_eq_true rfl)⟩ rfl rfl (Nat.le_of_ble_eq_true rfl) ⟨(Nat.le_of_ble_eq_true rfl), (Nat.le_of_ble_eq_true rfl)⟩ ?_
  rintro _ _ ⟨rfl, rfl⟩
  refine k_eqM (M' := X1 g 0 M0 (.inr (0, [rf g 1, rf g 181, rf g 361, .null, .int 0]))) (X1_call (by omega)) ?_
  refine k_at (n' := 551) (kc' := 550) (ks' := 45628) (by omega) rfl rfl ?_
  refine k_putF kh ckc_0 (j := 3) (by decide) rfl rfl tm_398 dX8_init_45 (by omega) X1_at ⟨rfl, rfl⟩ (Nat.le_of_ble_eq_true rfl) ?_
  refine k_eqM (M' := X1 g 0 M0 (.inr (0, [rf g 1, rf g 181, rf g 361, rf g 541, .int 0]))) X1_put ?_
  refine k_aloadn kh dX8_init_48 rfl ?_
  refine k_iconst kh dX8_init_49 ki_0 ?_
  refine k_put kh ckc_0 (j := 4) (by decide) rfl tm_399 dX8_init_50 (by omega) X1_at ⟨rfl, rfl⟩ (Nat.le_of_ble_eq_true rfl) ?_
  refine k_eqM (M' := X1 g 0 M0 (.inr (0, [rf g 1, rf g 181, rf g 361, rf g 541, .int (nI 0)]))) X1_put ?_
  exact k_vret kh dX8_init_53 ⟨rfl, rfl, rfl, X1_end fr_X⟩
