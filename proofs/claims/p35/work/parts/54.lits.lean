theorem rl_0 : Ra 0 0 (nI 0) := ⟨by decide +kernel, by decide +kernel⟩
theorem rl_99 : Ra 99 99 (nI 99) := ⟨by decide +kernel, by decide +kernel⟩
theorem rl_1 : Ra 1 1 (nI 1) := ⟨by decide +kernel, by decide +kernel⟩
theorem rl_9 : Ra 9 9 (nI 9) := ⟨by decide +kernel, by decide +kernel⟩
theorem rl_n99 : Ra (-99) (-99) (-99) := ⟨by decide +kernel, by decide +kernel⟩
theorem rl_n1 : Ra (-1) (-1) (-1) := ⟨by decide +kernel, by decide +kernel⟩
theorem rl_4 : Ra 4 4 (nI 4) := ⟨by decide +kernel, by decide +kernel⟩
theorem rl_3 : Ra 3 3 (nI 3) := ⟨by decide +kernel, by decide +kernel⟩
theorem rl_2 : Ra 2 2 (nI 2) := ⟨by decide +kernel, by decide +kernel⟩
theorem rl_5 : Ra 5 5 (nI 5) := ⟨by decide +kernel, by decide +kernel⟩
theorem rl_7 : Ra 7 7 (nI 7) := ⟨by decide +kernel, by decide +kernel⟩
theorem rl_24 : Ra 24 24 (nI 24) := ⟨by decide +kernel, by decide +kernel⟩
theorem rl_99999 : Ra 99999 99999 (nI 99999) := ⟨by decide +kernel, by decide +kernel⟩
theorem rl_9999 : Ra 9999 9999 (nI 9999) := ⟨by decide +kernel, by decide +kernel⟩
theorem rl_6 : Ra 6 6 (nI 6) := ⟨by decide +kernel, by decide +kernel⟩
theorem rl_10 : Ra 10 10 (nI 10) := ⟨by decide +kernel, by decide +kernel⟩
theorem rl_n1000000 : Ra (-1000000) (-1000000) (-1000000) := ⟨by decide +kernel, by decide +kernel⟩
theorem rl_9999999 : Ra 9999999 9999999 (nI 9999999) := ⟨by decide +kernel, by decide +kernel⟩
theorem tm_776 : (Jvm.Cond.methodLink "RollingNets$Reader" (61 : Nat) ({ cls := "RollingNets$Reader", name := "wordOf", desc := "(I)Ljava/lang/String;" } : Jvm.MethodName)) ∈ TBL := TBL_mem 776 (by decide +kernel) (by decide +kernel)
theorem tm_778 : (Jvm.Cond.code ({ cls := "RollingNets$Reader", name := "wordOf", desc := "(I)Ljava/lang/String;" } : Jvm.MethodName) prog_8_method_13_code (1 : Nat) ((some (.object "java/lang/String")))) ∈ TBL := TBL_mem 778 (by decide +kernel) (by decide +kernel)
theorem tm_777 : (Jvm.Cond.static ({ cls := "RollingNets$Reader", name := "wordOf", desc := "(I)Ljava/lang/String;" } : Jvm.MethodName)) ∈ TBL := TBL_mem 777 (by decide +kernel) (by decide +kernel)
theorem ms_Reader_61 : MS "RollingNets$Reader" 61 yX6_wordOf cX6_wordOf 1 (some (.object "java/lang/String")) 1 := ⟨⟨Or.inl tm_776, tm_117, tm_778, by decide +kernel⟩, tm_777⟩
theorem tm_789 : (Jvm.Cond.methodLink "RollingNets$Reader" (95 : Nat) ({ cls := "RollingNets$Reader", name := "isHere", desc := "(Ljava/lang/String;)Z" } : Jvm.MethodName)) ∈ TBL := TBL_mem 789 (by decide +kernel) (by decide +kernel)
theorem tm_792 : (Jvm.Cond.code ({ cls := "RollingNets$Reader", name := "isHere", desc := "(Ljava/lang/String;)Z" } : Jvm.MethodName) prog_8_method_12_code (3 : Nat) (Option.some Jvm.ClassFile.FieldType.boolean)) ∈ TBL := TBL_mem 792 (by decide +kernel) (by decide +kernel)
theorem tm_791 : (Jvm.Cond.instanceMethod ({ cls := "RollingNets$Reader", name := "isHere", desc := "(Ljava/lang/String;)Z" } : Jvm.MethodName)) ∈ TBL := TBL_mem 791 (by decide +kernel) (by decide +kernel)
theorem tm_9 : (Cond.selects "RollingNets$Reader" (⟨"RollingNets$Reader", "isHere", "(Ljava/lang/String;)Z"⟩ : MethodName) ⟨"RollingNets$Reader", "isHere", "(Ljava/lang/String;)Z"⟩) ∈ TBL := TBL_mem 9 (by decide +kernel) (by decide +kernel)
theorem mv_Reader_95 : MV "RollingNets$Reader" 95 yX6_isHere cX6_isHere 3 (some .boolean) 1 5 := ⟨⟨Or.inl tm_789, tm_117, tm_792, by decide +kernel⟩, tm_791, tm_9, _, _, rfl⟩
theorem rl_48 : Ra 48 48 (nI 48) := ⟨by decide +kernel, by decide +kernel⟩
theorem rl_57 : Ra 57 57 (nI 57) := ⟨by decide +kernel, by decide +kernel⟩
theorem rl_32 : Ra 32 32 (nI 32) := ⟨by decide +kernel, by decide +kernel⟩
theorem rl_20 : Ra 20 20 (nI 20) := ⟨by decide +kernel, by decide +kernel⟩
theorem rl_11 : Ra 11 11 (nI 11) := ⟨by decide +kernel, by decide +kernel⟩
theorem rl_199 : Ra 199 199 (nI 199) := ⟨by decide +kernel, by decide +kernel⟩
theorem rl_78 : Ra 78 78 (nI 78) := ⟨by decide +kernel, by decide +kernel⟩
theorem rl_80 : Ra 80 80 (nI 80) := ⟨by decide +kernel, by decide +kernel⟩
theorem rl_75 : Ra 75 75 (nI 75) := ⟨by decide +kernel, by decide +kernel⟩
theorem rl_97 : Ra 97 97 (nI 97) := ⟨by decide +kernel, by decide +kernel⟩
theorem rl_122 : Ra 122 122 (nI 122) := ⟨by decide +kernel, by decide +kernel⟩
theorem rl_65 : Ra 65 65 (nI 65) := ⟨by decide +kernel, by decide +kernel⟩
theorem rl_90 : Ra 90 90 (nI 90) := ⟨by decide +kernel, by decide +kernel⟩
theorem rl_400 : Ra 400 400 (nI 400) := ⟨by decide +kernel, by decide +kernel⟩
theorem rl_12 : Ra 12 12 (nI 12) := ⟨by decide +kernel, by decide +kernel⟩
theorem rl_100 : Ra 100 100 (nI 100) := ⟨by decide +kernel, by decide +kernel⟩
theorem rl_1200 : Ra 1200 1200 (nI 1200) := ⟨by decide +kernel, by decide +kernel⟩
