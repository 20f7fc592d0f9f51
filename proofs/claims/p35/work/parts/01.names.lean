-- ===== PART A: goes FIRST, ahead of the names: the tables' words, and 'selects' of the private methods out of them =====
/-- a private method of a class that the tables say can be made, by its rows of tables_1 -/
def lw_okq (q : MethodName × Nat) : Prop := (q.1.cls ≠ "java/lang/invoke/MethodHandle" ∧ q.1.cls ≠ "java/lang/invoke/VarHandle") ∧ Cond.instantiable q.1.cls q.2 ∈ tables_1 ∧ Cond.privateMethod q.1 ∈ tables_1 ∧ Cond.instanceMethod q.1 ∈ tables_1
theorem lw_p0 : lw_okq (⟨"RollingNets", "tellRank", "(II)Z"⟩, 5) := ⟨⟨by decide +kernel, by decide +kernel⟩, List.mem_of_getElem? (i := 18) (by decide +kernel), List.mem_of_getElem? (i := 326) (by decide +kernel), List.mem_of_getElem? (i := 327) (by decide +kernel)⟩
theorem lw_p1 : lw_okq (⟨"RollingNets$Market", "greatest", "(I)J"⟩, 11) := ⟨⟨by decide +kernel, by decide +kernel⟩, List.mem_of_getElem? (i := 87) (by decide +kernel), List.mem_of_getElem? (i := 406) (by decide +kernel), List.mem_of_getElem? (i := 407) (by decide +kernel)⟩
theorem lw_p2 : lw_okq (⟨"RollingNets$Market", "multiplyMember", "(II)V"⟩, 11) := ⟨⟨by decide +kernel, by decide +kernel⟩, List.mem_of_getElem? (i := 87) (by decide +kernel), List.mem_of_getElem? (i := 417) (by decide +kernel), List.mem_of_getElem? (i := 418) (by decide +kernel)⟩
theorem lw_p3 : lw_okq (⟨"RollingNets$Line", "sortByRank", "(LRollingNets$House;)V"⟩, 4) := ⟨⟨by decide +kernel, by decide +kernel⟩, List.mem_of_getElem? (i := 57) (by decide +kernel), List.mem_of_getElem? (i := 511) (by decide +kernel), List.mem_of_getElem? (i := 512) (by decide +kernel)⟩
theorem lw_p4 : lw_okq (⟨"RollingNets$Line", "addGroup", "(LRollingNets$Market;I)V"⟩, 4) := ⟨⟨by decide +kernel, by decide +kernel⟩, List.mem_of_getElem? (i := 57) (by decide +kernel), List.mem_of_getElem? (i := 523) (by decide +kernel), List.mem_of_getElem? (i := 524) (by decide +kernel)⟩
theorem lw_p5 : lw_okq (⟨"RollingNets$Reader", "skipBlanks", "()V"⟩, 6) := ⟨⟨by decide +kernel, by decide +kernel⟩, List.mem_of_getElem? (i := 255) (by decide +kernel), List.mem_of_getElem? (i := 651) (by decide +kernel), List.mem_of_getElem? (i := 652) (by decide +kernel)⟩
theorem lw_p6 : lw_okq (⟨"RollingNets$Reader", "here", "(I)I"⟩, 6) := ⟨⟨by decide +kernel, by decide +kernel⟩, List.mem_of_getElem? (i := 255) (by decide +kernel), List.mem_of_getElem? (i := 655) (by decide +kernel), List.mem_of_getElem? (i := 656) (by decide +kernel)⟩
theorem lw_p7 : lw_okq (⟨"RollingNets$Reader", "readLine", "()V"⟩, 6) := ⟨⟨by decide +kernel, by decide +kernel⟩, List.mem_of_getElem? (i := 255) (by decide +kernel), List.mem_of_getElem? (i := 659) (by decide +kernel), List.mem_of_getElem? (i := 660) (by decide +kernel)⟩
theorem lw_p8 : lw_okq (⟨"RollingNets$Reader", "wordHere", "()I"⟩, 6) := ⟨⟨by decide +kernel, by decide +kernel⟩, List.mem_of_getElem? (i := 255) (by decide +kernel), List.mem_of_getElem? (i := 663) (by decide +kernel), List.mem_of_getElem? (i := 664) (by decide +kernel)⟩
theorem lw_p9 : lw_okq (⟨"RollingNets$Reader", "isHere", "(Ljava/lang/String;)Z"⟩, 6) := ⟨⟨by decide +kernel, by decide +kernel⟩, List.mem_of_getElem? (i := 255) (by decide +kernel), List.mem_of_getElem? (i := 680) (by decide +kernel), List.mem_of_getElem? (i := 681) (by decide +kernel)⟩
theorem lw_p10 : lw_okq (⟨"RollingNets$Reader", "failHere", "(I)V"⟩, 6) := ⟨⟨by decide +kernel, by decide +kernel⟩, List.mem_of_getElem? (i := 255) (by decide +kernel), List.mem_of_getElem? (i := 736) (by decide +kernel), List.mem_of_getElem? (i := 737) (by decide +kernel)⟩
theorem lw_p11 : lw_okq (⟨"RollingNets$Reader", "readNumber", "(IIC)V"⟩, 6) := ⟨⟨by decide +kernel, by decide +kernel⟩, List.mem_of_getElem? (i := 255) (by decide +kernel), List.mem_of_getElem? (i := 752) (by decide +kernel), List.mem_of_getElem? (i := 753) (by decide +kernel)⟩
theorem lw_p12 : lw_okq (⟨"RollingNets", "perform", "(I)Z"⟩, 5) := ⟨⟨by decide +kernel, by decide +kernel⟩, List.mem_of_getElem? (i := 18) (by decide +kernel), List.mem_of_getElem? (i := 778) (by decide +kernel), List.mem_of_getElem? (i := 779) (by decide +kernel)⟩
theorem lw_p13 : lw_okq (⟨"RollingNetsModel", "canSet", "(II)Z"⟩, 32) := ⟨⟨by decide +kernel, by decide +kernel⟩, List.mem_of_getElem? (i := 946) (by decide +kernel), List.mem_of_getElem? (i := 1053) (by decide +kernel), List.mem_of_getElem? (i := 1054) (by decide +kernel)⟩
theorem lw_p14 : lw_okq (⟨"RollingNetsModel", "isIn", "(III)Z"⟩, 32) := ⟨⟨by decide +kernel, by decide +kernel⟩, List.mem_of_getElem? (i := 946) (by decide +kernel), List.mem_of_getElem? (i := 1057) (by decide +kernel), List.mem_of_getElem? (i := 1058) (by decide +kernel)⟩
theorem lw_p15 : lw_okq (⟨"RollingNetsModel", "firstOf", "(I)I"⟩, 32) := ⟨⟨by decide +kernel, by decide +kernel⟩, List.mem_of_getElem? (i := 946) (by decide +kernel), List.mem_of_getElem? (i := 1061) (by decide +kernel), List.mem_of_getElem? (i := 1062) (by decide +kernel)⟩
def lw_privs_1 : List (MethodName × Nat) := [(⟨"RollingNets", "tellRank", "(II)Z"⟩, 5), (⟨"RollingNets$Market", "greatest", "(I)J"⟩, 11), (⟨"RollingNets$Market", "multiplyMember", "(II)V"⟩, 11), (⟨"RollingNets$Line", "sortByRank", "(LRollingNets$House;)V"⟩, 4), (⟨"RollingNets$Line", "addGroup", "(LRollingNets$Market;I)V"⟩, 4), (⟨"RollingNets$Reader", "skipBlanks", "()V"⟩, 6), (⟨"RollingNets$Reader", "here", "(I)I"⟩, 6), (⟨"RollingNets$Reader", "readLine", "()V"⟩, 6), (⟨"RollingNets$Reader", "wordHere", "()I"⟩, 6), (⟨"RollingNets$Reader", "isHere", "(Ljava/lang/String;)Z"⟩, 6), (⟨"RollingNets$Reader", "failHere", "(I)V"⟩, 6), (⟨"RollingNets$Reader", "readNumber", "(IIC)V"⟩, 6), (⟨"RollingNets", "perform", "(I)Z"⟩, 5), (⟨"RollingNetsModel", "canSet", "(II)Z"⟩, 32), (⟨"RollingNetsModel", "isIn", "(III)Z"⟩, 32), (⟨"RollingNetsModel", "firstOf", "(I)I"⟩, 32)]
theorem lw_r1 : ∀ q ∈ lw_privs_1, lw_okq q := List.forall_mem_cons.mpr ⟨lw_p0, List.forall_mem_cons.mpr ⟨lw_p1, List.forall_mem_cons.mpr ⟨lw_p2, List.forall_mem_cons.mpr ⟨lw_p3, List.forall_mem_cons.mpr ⟨lw_p4, List.forall_mem_cons.mpr ⟨lw_p5, List.forall_mem_cons.mpr ⟨lw_p6, List.forall_mem_cons.mpr ⟨lw_p7, List.forall_mem_cons.mpr ⟨lw_p8, List.forall_mem_cons.mpr ⟨lw_p9, List.forall_mem_cons.mpr ⟨lw_p10, List.forall_mem_cons.mpr ⟨lw_p11, List.forall_mem_cons.mpr ⟨lw_p12, List.forall_mem_cons.mpr ⟨lw_p13, List.forall_mem_cons.mpr ⟨lw_p14, List.forall_mem_cons.mpr ⟨lw_p15, fun _ h => absurd h List.not_mem_nil⟩⟩⟩⟩⟩⟩⟩⟩⟩⟩⟩⟩⟩⟩⟩⟩
theorem lw_p16 : lw_okq (⟨"RollingNetsModel", "isMember", "(I)Z"⟩, 32) := ⟨⟨by decide +kernel, by decide +kernel⟩, List.mem_of_getElem? (i := 946) (by decide +kernel), List.mem_of_getElem? (i := 1069) (by decide +kernel), List.mem_of_getElem? (i := 1070) (by decide +kernel)⟩
theorem lw_p17 : lw_okq (⟨"RollingNetsModel", "memberMany", "()I"⟩, 32) := ⟨⟨by decide +kernel, by decide +kernel⟩, List.mem_of_getElem? (i := 946) (by decide +kernel), List.mem_of_getElem? (i := 1073) (by decide +kernel), List.mem_of_getElem? (i := 1074) (by decide +kernel)⟩
theorem lw_p18 : lw_okq (⟨"RollingNetsModel", "isIssue", "(I)Z"⟩, 32) := ⟨⟨by decide +kernel, by decide +kernel⟩, List.mem_of_getElem? (i := 946) (by decide +kernel), List.mem_of_getElem? (i := 1077) (by decide +kernel), List.mem_of_getElem? (i := 1078) (by decide +kernel)⟩
theorem lw_p19 : lw_okq (⟨"RollingNetsModel", "cellOf", "(II)I"⟩, 32) := ⟨⟨by decide +kernel, by decide +kernel⟩, List.mem_of_getElem? (i := 946) (by decide +kernel), List.mem_of_getElem? (i := 1082) (by decide +kernel), List.mem_of_getElem? (i := 1083) (by decide +kernel)⟩
theorem lw_p20 : lw_okq (⟨"RollingNetsModel", "freeOf", "(II)I"⟩, 32) := ⟨⟨by decide +kernel, by decide +kernel⟩, List.mem_of_getElem? (i := 946) (by decide +kernel), List.mem_of_getElem? (i := 1098) (by decide +kernel), List.mem_of_getElem? (i := 1099) (by decide +kernel)⟩
theorem lw_p21 : lw_okq (⟨"RollingNetsModel", "has", "(II)Z"⟩, 32) := ⟨⟨by decide +kernel, by decide +kernel⟩, List.mem_of_getElem? (i := 946) (by decide +kernel), List.mem_of_getElem? (i := 1102) (by decide +kernel), List.mem_of_getElem? (i := 1103) (by decide +kernel)⟩
theorem lw_p22 : lw_okq (⟨"RollingNetsModel", "stockOf", "(II)I"⟩, 32) := ⟨⟨by decide +kernel, by decide +kernel⟩, List.mem_of_getElem? (i := 946) (by decide +kernel), List.mem_of_getElem? (i := 1106) (by decide +kernel), List.mem_of_getElem? (i := 1107) (by decide +kernel)⟩
theorem lw_p23 : lw_okq (⟨"RollingNetsModel", "greater", "(II)I"⟩, 32) := ⟨⟨by decide +kernel, by decide +kernel⟩, List.mem_of_getElem? (i := 946) (by decide +kernel), List.mem_of_getElem? (i := 1110) (by decide +kernel), List.mem_of_getElem? (i := 1111) (by decide +kernel)⟩
theorem lw_p24 : lw_okq (⟨"RollingNetsModel", "stockMore", "(III)V"⟩, 32) := ⟨⟨by decide +kernel, by decide +kernel⟩, List.mem_of_getElem? (i := 946) (by decide +kernel), List.mem_of_getElem? (i := 1114) (by decide +kernel), List.mem_of_getElem? (i := 1115) (by decide +kernel)⟩
theorem lw_p25 : lw_okq (⟨"RollingNetsModel", "trades", "(IIIIII)I"⟩, 32) := ⟨⟨by decide +kernel, by decide +kernel⟩, List.mem_of_getElem? (i := 946) (by decide +kernel), List.mem_of_getElem? (i := 1131) (by decide +kernel), List.mem_of_getElem? (i := 1132) (by decide +kernel)⟩
theorem lw_p26 : lw_okq (⟨"RollingNetsModel", "tradeAt", "(I)I"⟩, 32) := ⟨⟨by decide +kernel, by decide +kernel⟩, List.mem_of_getElem? (i := 946) (by decide +kernel), List.mem_of_getElem? (i := 1135) (by decide +kernel), List.mem_of_getElem? (i := 1136) (by decide +kernel)⟩
theorem lw_p27 : lw_okq (⟨"RollingNetsModel", "settingOf", "(I)I"⟩, 32) := ⟨⟨by decide +kernel, by decide +kernel⟩, List.mem_of_getElem? (i := 946) (by decide +kernel), List.mem_of_getElem? (i := 1139) (by decide +kernel), List.mem_of_getElem? (i := 1140) (by decide +kernel)⟩
theorem lw_p28 : lw_okq (⟨"RollingNetsModel", "oldLong", "(II)I"⟩, 32) := ⟨⟨by decide +kernel, by decide +kernel⟩, List.mem_of_getElem? (i := 946) (by decide +kernel), List.mem_of_getElem? (i := 1151) (by decide +kernel), List.mem_of_getElem? (i := 1152) (by decide +kernel)⟩
theorem lw_p29 : lw_okq (⟨"RollingNetsModel", "lotMany", "(II)I"⟩, 32) := ⟨⟨by decide +kernel, by decide +kernel⟩, List.mem_of_getElem? (i := 946) (by decide +kernel), List.mem_of_getElem? (i := 1155) (by decide +kernel), List.mem_of_getElem? (i := 1156) (by decide +kernel)⟩
theorem lw_p30 : lw_okq (⟨"RollingNetsModel", "isLong", "(II)Z"⟩, 32) := ⟨⟨by decide +kernel, by decide +kernel⟩, List.mem_of_getElem? (i := 946) (by decide +kernel), List.mem_of_getElem? (i := 1159) (by decide +kernel), List.mem_of_getElem? (i := 1160) (by decide +kernel)⟩
theorem lw_p31 : lw_okq (⟨"RollingNetsModel", "sharesOf", "(III)I"⟩, 32) := ⟨⟨by decide +kernel, by decide +kernel⟩, List.mem_of_getElem? (i := 946) (by decide +kernel), List.mem_of_getElem? (i := 1163) (by decide +kernel), List.mem_of_getElem? (i := 1164) (by decide +kernel)⟩
def lw_privs_2 : List (MethodName × Nat) := [(⟨"RollingNetsModel", "isMember", "(I)Z"⟩, 32), (⟨"RollingNetsModel", "memberMany", "()I"⟩, 32), (⟨"RollingNetsModel", "isIssue", "(I)Z"⟩, 32), (⟨"RollingNetsModel", "cellOf", "(II)I"⟩, 32), (⟨"RollingNetsModel", "freeOf", "(II)I"⟩, 32), (⟨"RollingNetsModel", "has", "(II)Z"⟩, 32), (⟨"RollingNetsModel", "stockOf", "(II)I"⟩, 32), (⟨"RollingNetsModel", "greater", "(II)I"⟩, 32), (⟨"RollingNetsModel", "stockMore", "(III)V"⟩, 32), (⟨"RollingNetsModel", "trades", "(IIIIII)I"⟩, 32), (⟨"RollingNetsModel", "tradeAt", "(I)I"⟩, 32), (⟨"RollingNetsModel", "settingOf", "(I)I"⟩, 32), (⟨"RollingNetsModel", "oldLong", "(II)I"⟩, 32), (⟨"RollingNetsModel", "lotMany", "(II)I"⟩, 32), (⟨"RollingNetsModel", "isLong", "(II)Z"⟩, 32), (⟨"RollingNetsModel", "sharesOf", "(III)I"⟩, 32)]
theorem lw_r2 : ∀ q ∈ lw_privs_2, lw_okq q := List.forall_mem_cons.mpr ⟨lw_p16, List.forall_mem_cons.mpr ⟨lw_p17, List.forall_mem_cons.mpr ⟨lw_p18, List.forall_mem_cons.mpr ⟨lw_p19, List.forall_mem_cons.mpr ⟨lw_p20, List.forall_mem_cons.mpr ⟨lw_p21, List.forall_mem_cons.mpr ⟨lw_p22, List.forall_mem_cons.mpr ⟨lw_p23, List.forall_mem_cons.mpr ⟨lw_p24, List.forall_mem_cons.mpr ⟨lw_p25, List.forall_mem_cons.mpr ⟨lw_p26, List.forall_mem_cons.mpr ⟨lw_p27, List.forall_mem_cons.mpr ⟨lw_p28, List.forall_mem_cons.mpr ⟨lw_p29, List.forall_mem_cons.mpr ⟨lw_p30, List.forall_mem_cons.mpr ⟨lw_p31, fun _ h => absurd h List.not_mem_nil⟩⟩⟩⟩⟩⟩⟩⟩⟩⟩⟩⟩⟩⟩⟩⟩
theorem lw_p32 : lw_okq (⟨"RollingNetsModel", "lotAt", "(III)I"⟩, 32) := ⟨⟨by decide +kernel, by decide +kernel⟩, List.mem_of_getElem? (i := 946) (by decide +kernel), List.mem_of_getElem? (i := 1167) (by decide +kernel), List.mem_of_getElem? (i := 1168) (by decide +kernel)⟩
theorem lw_p33 : lw_okq (⟨"RollingNetsModel", "dayOf", "(III)I"⟩, 32) := ⟨⟨by decide +kernel, by decide +kernel⟩, List.mem_of_getElem? (i := 946) (by decide +kernel), List.mem_of_getElem? (i := 1171) (by decide +kernel), List.mem_of_getElem? (i := 1172) (by decide +kernel)⟩
theorem lw_p34 : lw_okq (⟨"RollingNetsModel", "isNoticed", "(II)Z"⟩, 32) := ⟨⟨by decide +kernel, by decide +kernel⟩, List.mem_of_getElem? (i := 946) (by decide +kernel), List.mem_of_getElem? (i := 1175) (by decide +kernel), List.mem_of_getElem? (i := 1176) (by decide +kernel)⟩
theorem lw_p35 : lw_okq (⟨"RollingNetsModel", "isOpenNet", "(II)Z"⟩, 32) := ⟨⟨by decide +kernel, by decide +kernel⟩, List.mem_of_getElem? (i := 946) (by decide +kernel), List.mem_of_getElem? (i := 1179) (by decide +kernel), List.mem_of_getElem? (i := 1180) (by decide +kernel)⟩
theorem lw_p36 : lw_okq (⟨"RollingNetsModel", "noticeOf", "(II)I"⟩, 32) := ⟨⟨by decide +kernel, by decide +kernel⟩, List.mem_of_getElem? (i := 946) (by decide +kernel), List.mem_of_getElem? (i := 1183) (by decide +kernel), List.mem_of_getElem? (i := 1184) (by decide +kernel)⟩
theorem lw_p37 : lw_okq (⟨"RollingNetsModel", "noticeAt", "(I)I"⟩, 32) := ⟨⟨by decide +kernel, by decide +kernel⟩, List.mem_of_getElem? (i := 946) (by decide +kernel), List.mem_of_getElem? (i := 1187) (by decide +kernel), List.mem_of_getElem? (i := 1188) (by decide +kernel)⟩
theorem lw_p38 : lw_okq (⟨"RollingNetsModel", "newNotice", "(IIII)I"⟩, 32) := ⟨⟨by decide +kernel, by decide +kernel⟩, List.mem_of_getElem? (i := 946) (by decide +kernel), List.mem_of_getElem? (i := 1191) (by decide +kernel), List.mem_of_getElem? (i := 1192) (by decide +kernel)⟩
theorem lw_p39 : lw_okq (⟨"RollingNetsModel", "nextShort", "(III)I"⟩, 32) := ⟨⟨by decide +kernel, by decide +kernel⟩, List.mem_of_getElem? (i := 946) (by decide +kernel), List.mem_of_getElem? (i := 1195) (by decide +kernel), List.mem_of_getElem? (i := 1196) (by decide +kernel)⟩
theorem lw_p40 : lw_okq (⟨"RollingNetsModel", "isShort", "(II)Z"⟩, 32) := ⟨⟨by decide +kernel, by decide +kernel⟩, List.mem_of_getElem? (i := 946) (by decide +kernel), List.mem_of_getElem? (i := 1199) (by decide +kernel), List.mem_of_getElem? (i := 1200) (by decide +kernel)⟩
theorem lw_p41 : lw_okq (⟨"RollingNetsModel", "shortOf", "(II)I"⟩, 32) := ⟨⟨by decide +kernel, by decide +kernel⟩, List.mem_of_getElem? (i := 946) (by decide +kernel), List.mem_of_getElem? (i := 1203) (by decide +kernel), List.mem_of_getElem? (i := 1204) (by decide +kernel)⟩
theorem lw_p42 : lw_okq (⟨"RollingNetsModel", "positionOf", "(II)I"⟩, 32) := ⟨⟨by decide +kernel, by decide +kernel⟩, List.mem_of_getElem? (i := 946) (by decide +kernel), List.mem_of_getElem? (i := 1207) (by decide +kernel), List.mem_of_getElem? (i := 1208) (by decide +kernel)⟩
theorem lw_p43 : lw_okq (⟨"RollingNetsModel", "assignedTo", "(II)I"⟩, 32) := ⟨⟨by decide +kernel, by decide +kernel⟩, List.mem_of_getElem? (i := 946) (by decide +kernel), List.mem_of_getElem? (i := 1211) (by decide +kernel), List.mem_of_getElem? (i := 1212) (by decide +kernel)⟩
theorem lw_p44 : lw_okq (⟨"RollingNetsModel", "lesser", "(II)I"⟩, 32) := ⟨⟨by decide +kernel, by decide +kernel⟩, List.mem_of_getElem? (i := 946) (by decide +kernel), List.mem_of_getElem? (i := 1215) (by decide +kernel), List.mem_of_getElem? (i := 1216) (by decide +kernel)⟩
theorem lw_p45 : lw_okq (⟨"RollingNetsModel", "isOpenApart", "(I)Z"⟩, 32) := ⟨⟨by decide +kernel, by decide +kernel⟩, List.mem_of_getElem? (i := 946) (by decide +kernel), List.mem_of_getElem? (i := 1223) (by decide +kernel), List.mem_of_getElem? (i := 1224) (by decide +kernel)⟩
theorem lw_p46 : lw_okq (⟨"RollingNetsModel", "isTrade", "(I)Z"⟩, 32) := ⟨⟨by decide +kernel, by decide +kernel⟩, List.mem_of_getElem? (i := 946) (by decide +kernel), List.mem_of_getElem? (i := 1227) (by decide +kernel), List.mem_of_getElem? (i := 1228) (by decide +kernel)⟩
theorem lw_p47 : lw_okq (⟨"RollingNetsModel", "tradeOf", "(II)I"⟩, 32) := ⟨⟨by decide +kernel, by decide +kernel⟩, List.mem_of_getElem? (i := 946) (by decide +kernel), List.mem_of_getElem? (i := 1231) (by decide +kernel), List.mem_of_getElem? (i := 1232) (by decide +kernel)⟩
def lw_privs_3 : List (MethodName × Nat) := [(⟨"RollingNetsModel", "lotAt", "(III)I"⟩, 32), (⟨"RollingNetsModel", "dayOf", "(III)I"⟩, 32), (⟨"RollingNetsModel", "isNoticed", "(II)Z"⟩, 32), (⟨"RollingNetsModel", "isOpenNet", "(II)Z"⟩, 32), (⟨"RollingNetsModel", "noticeOf", "(II)I"⟩, 32), (⟨"RollingNetsModel", "noticeAt", "(I)I"⟩, 32), (⟨"RollingNetsModel", "newNotice", "(IIII)I"⟩, 32), (⟨"RollingNetsModel", "nextShort", "(III)I"⟩, 32), (⟨"RollingNetsModel", "isShort", "(II)Z"⟩, 32), (⟨"RollingNetsModel", "shortOf", "(II)I"⟩, 32), (⟨"RollingNetsModel", "positionOf", "(II)I"⟩, 32), (⟨"RollingNetsModel", "assignedTo", "(II)I"⟩, 32), (⟨"RollingNetsModel", "lesser", "(II)I"⟩, 32), (⟨"RollingNetsModel", "isOpenApart", "(I)Z"⟩, 32), (⟨"RollingNetsModel", "isTrade", "(I)Z"⟩, 32), (⟨"RollingNetsModel", "tradeOf", "(II)I"⟩, 32)]
theorem lw_r3 : ∀ q ∈ lw_privs_3, lw_okq q := List.forall_mem_cons.mpr ⟨lw_p32, List.forall_mem_cons.mpr ⟨lw_p33, List.forall_mem_cons.mpr ⟨lw_p34, List.forall_mem_cons.mpr ⟨lw_p35, List.forall_mem_cons.mpr ⟨lw_p36, List.forall_mem_cons.mpr ⟨lw_p37, List.forall_mem_cons.mpr ⟨lw_p38, List.forall_mem_cons.mpr ⟨lw_p39, List.forall_mem_cons.mpr ⟨lw_p40, List.forall_mem_cons.mpr ⟨lw_p41, List.forall_mem_cons.mpr ⟨lw_p42, List.forall_mem_cons.mpr ⟨lw_p43, List.forall_mem_cons.mpr ⟨lw_p44, List.forall_mem_cons.mpr ⟨lw_p45, List.forall_mem_cons.mpr ⟨lw_p46, List.forall_mem_cons.mpr ⟨lw_p47, fun _ h => absurd h List.not_mem_nil⟩⟩⟩⟩⟩⟩⟩⟩⟩⟩⟩⟩⟩⟩⟩⟩
theorem lw_p48 : lw_okq (⟨"RollingNetsModel", "hasNotice", "(I)Z"⟩, 32) := ⟨⟨by decide +kernel, by decide +kernel⟩, List.mem_of_getElem? (i := 946) (by decide +kernel), List.mem_of_getElem? (i := 1235) (by decide +kernel), List.mem_of_getElem? (i := 1236) (by decide +kernel)⟩
theorem lw_p49 : lw_okq (⟨"RollingNetsModel", "laysChain", "(II)V"⟩, 32) := ⟨⟨by decide +kernel, by decide +kernel⟩, List.mem_of_getElem? (i := 946) (by decide +kernel), List.mem_of_getElem? (i := 1243) (by decide +kernel), List.mem_of_getElem? (i := 1244) (by decide +kernel)⟩
theorem lw_p50 : lw_okq (⟨"RollingNetsModel", "nextOfChain", "(IIII)I"⟩, 32) := ⟨⟨by decide +kernel, by decide +kernel⟩, List.mem_of_getElem? (i := 946) (by decide +kernel), List.mem_of_getElem? (i := 1247) (by decide +kernel), List.mem_of_getElem? (i := 1248) (by decide +kernel)⟩
theorem lw_p51 : lw_okq (⟨"RollingNetsModel", "isRipe", "(III)Z"⟩, 32) := ⟨⟨by decide +kernel, by decide +kernel⟩, List.mem_of_getElem? (i := 946) (by decide +kernel), List.mem_of_getElem? (i := 1251) (by decide +kernel), List.mem_of_getElem? (i := 1252) (by decide +kernel)⟩
theorem lw_p52 : lw_okq (⟨"RollingNetsModel", "goesNight", "()V"⟩, 32) := ⟨⟨by decide +kernel, by decide +kernel⟩, List.mem_of_getElem? (i := 946) (by decide +kernel), List.mem_of_getElem? (i := 1259) (by decide +kernel), List.mem_of_getElem? (i := 1260) (by decide +kernel)⟩
theorem lw_p53 : lw_okq (⟨"RollingNetsModel", "nets", "(I)V"⟩, 32) := ⟨⟨by decide +kernel, by decide +kernel⟩, List.mem_of_getElem? (i := 946) (by decide +kernel), List.mem_of_getElem? (i := 1263) (by decide +kernel), List.mem_of_getElem? (i := 1264) (by decide +kernel)⟩
theorem lw_p54 : lw_okq (⟨"RollingNetsModel", "markedOf", "(I)I"⟩, 32) := ⟨⟨by decide +kernel, by decide +kernel⟩, List.mem_of_getElem? (i := 946) (by decide +kernel), List.mem_of_getElem? (i := 1267) (by decide +kernel), List.mem_of_getElem? (i := 1268) (by decide +kernel)⟩
theorem lw_p55 : lw_okq (⟨"RollingNetsModel", "cashMore", "(IJ)V"⟩, 32) := ⟨⟨by decide +kernel, by decide +kernel⟩, List.mem_of_getElem? (i := 946) (by decide +kernel), List.mem_of_getElem? (i := 1271) (by decide +kernel), List.mem_of_getElem? (i := 1272) (by decide +kernel)⟩
theorem lw_p56 : lw_okq (⟨"RollingNetsModel", "adds", "(IIII)V"⟩, 32) := ⟨⟨by decide +kernel, by decide +kernel⟩, List.mem_of_getElem? (i := 946) (by decide +kernel), List.mem_of_getElem? (i := 1275) (by decide +kernel), List.mem_of_getElem? (i := 1276) (by decide +kernel)⟩
theorem lw_p57 : lw_okq (⟨"RollingNetsModel", "takesOff", "(III)V"⟩, 32) := ⟨⟨by decide +kernel, by decide +kernel⟩, List.mem_of_getElem? (i := 946) (by decide +kernel), List.mem_of_getElem? (i := 1279) (by decide +kernel), List.mem_of_getElem? (i := 1280) (by decide +kernel)⟩
theorem lw_p58 : lw_okq (⟨"RollingNetsModel", "takesOf", "(IIII)V"⟩, 32) := ⟨⟨by decide +kernel, by decide +kernel⟩, List.mem_of_getElem? (i := 946) (by decide +kernel), List.mem_of_getElem? (i := 1283) (by decide +kernel), List.mem_of_getElem? (i := 1284) (by decide +kernel)⟩
theorem lw_p59 : lw_okq (⟨"RollingNetsModel", "dropsLot", "(III)V"⟩, 32) := ⟨⟨by decide +kernel, by decide +kernel⟩, List.mem_of_getElem? (i := 946) (by decide +kernel), List.mem_of_getElem? (i := 1287) (by decide +kernel), List.mem_of_getElem? (i := 1288) (by decide +kernel)⟩
theorem lw_p60 : lw_okq (⟨"RollingNetsModel", "delivers", "(I)V"⟩, 32) := ⟨⟨by decide +kernel, by decide +kernel⟩, List.mem_of_getElem? (i := 946) (by decide +kernel), List.mem_of_getElem? (i := 1291) (by decide +kernel), List.mem_of_getElem? (i := 1292) (by decide +kernel)⟩
theorem lw_p61 : lw_okq (⟨"RollingNetsModel", "deliversOf", "(II)V"⟩, 32) := ⟨⟨by decide +kernel, by decide +kernel⟩, List.mem_of_getElem? (i := 946) (by decide +kernel), List.mem_of_getElem? (i := 1295) (by decide +kernel), List.mem_of_getElem? (i := 1296) (by decide +kernel)⟩
theorem lw_p62 : lw_okq (⟨"RollingNetsModel", "writes", "(IIIII)V"⟩, 32) := ⟨⟨by decide +kernel, by decide +kernel⟩, List.mem_of_getElem? (i := 946) (by decide +kernel), List.mem_of_getElem? (i := 1299) (by decide +kernel), List.mem_of_getElem? (i := 1300) (by decide +kernel)⟩
theorem lw_p63 : lw_okq (⟨"RollingNetsModel", "takesAssigned", "(III)V"⟩, 32) := ⟨⟨by decide +kernel, by decide +kernel⟩, List.mem_of_getElem? (i := 946) (by decide +kernel), List.mem_of_getElem? (i := 1303) (by decide +kernel), List.mem_of_getElem? (i := 1304) (by decide +kernel)⟩
def lw_privs_4 : List (MethodName × Nat) := [(⟨"RollingNetsModel", "hasNotice", "(I)Z"⟩, 32), (⟨"RollingNetsModel", "laysChain", "(II)V"⟩, 32), (⟨"RollingNetsModel", "nextOfChain", "(IIII)I"⟩, 32), (⟨"RollingNetsModel", "isRipe", "(III)Z"⟩, 32), (⟨"RollingNetsModel", "goesNight", "()V"⟩, 32), (⟨"RollingNetsModel", "nets", "(I)V"⟩, 32), (⟨"RollingNetsModel", "markedOf", "(I)I"⟩, 32), (⟨"RollingNetsModel", "cashMore", "(IJ)V"⟩, 32), (⟨"RollingNetsModel", "adds", "(IIII)V"⟩, 32), (⟨"RollingNetsModel", "takesOff", "(III)V"⟩, 32), (⟨"RollingNetsModel", "takesOf", "(IIII)V"⟩, 32), (⟨"RollingNetsModel", "dropsLot", "(III)V"⟩, 32), (⟨"RollingNetsModel", "delivers", "(I)V"⟩, 32), (⟨"RollingNetsModel", "deliversOf", "(II)V"⟩, 32), (⟨"RollingNetsModel", "writes", "(IIIII)V"⟩, 32), (⟨"RollingNetsModel", "takesAssigned", "(III)V"⟩, 32)]
theorem lw_r4 : ∀ q ∈ lw_privs_4, lw_okq q := List.forall_mem_cons.mpr ⟨lw_p48, List.forall_mem_cons.mpr ⟨lw_p49, List.forall_mem_cons.mpr ⟨lw_p50, List.forall_mem_cons.mpr ⟨lw_p51, List.forall_mem_cons.mpr ⟨lw_p52, List.forall_mem_cons.mpr ⟨lw_p53, List.forall_mem_cons.mpr ⟨lw_p54, List.forall_mem_cons.mpr ⟨lw_p55, List.forall_mem_cons.mpr ⟨lw_p56, List.forall_mem_cons.mpr ⟨lw_p57, List.forall_mem_cons.mpr ⟨lw_p58, List.forall_mem_cons.mpr ⟨lw_p59, List.forall_mem_cons.mpr ⟨lw_p60, List.forall_mem_cons.mpr ⟨lw_p61, List.forall_mem_cons.mpr ⟨lw_p62, List.forall_mem_cons.mpr ⟨lw_p63, fun _ h => absurd h List.not_mem_nil⟩⟩⟩⟩⟩⟩⟩⟩⟩⟩⟩⟩⟩⟩⟩⟩
theorem lw_p64 : lw_okq (⟨"RollingNetsModel", "allots", "(I)V"⟩, 32) := ⟨⟨by decide +kernel, by decide +kernel⟩, List.mem_of_getElem? (i := 946) (by decide +kernel), List.mem_of_getElem? (i := 1307) (by decide +kernel), List.mem_of_getElem? (i := 1308) (by decide +kernel)⟩
theorem lw_p65 : lw_okq (⟨"RollingNetsModel", "firstServed", "(I)I"⟩, 32) := ⟨⟨by decide +kernel, by decide +kernel⟩, List.mem_of_getElem? (i := 946) (by decide +kernel), List.mem_of_getElem? (i := 1311) (by decide +kernel), List.mem_of_getElem? (i := 1312) (by decide +kernel)⟩
theorem lw_p66 : lw_okq (⟨"RollingNetsModel", "goesAhead", "(IIIII)Z"⟩, 32) := ⟨⟨by decide +kernel, by decide +kernel⟩, List.mem_of_getElem? (i := 946) (by decide +kernel), List.mem_of_getElem? (i := 1315) (by decide +kernel), List.mem_of_getElem? (i := 1316) (by decide +kernel)⟩
theorem lw_p67 : lw_okq (⟨"RollingNetsModel", "lends", "(I)V"⟩, 32) := ⟨⟨by decide +kernel, by decide +kernel⟩, List.mem_of_getElem? (i := 946) (by decide +kernel), List.mem_of_getElem? (i := 1319) (by decide +kernel), List.mem_of_getElem? (i := 1320) (by decide +kernel)⟩
theorem lw_p68 : lw_okq (⟨"RollingNetsModel", "laysQueue", "(II)V"⟩, 32) := ⟨⟨by decide +kernel, by decide +kernel⟩, List.mem_of_getElem? (i := 946) (by decide +kernel), List.mem_of_getElem? (i := 1323) (by decide +kernel), List.mem_of_getElem? (i := 1324) (by decide +kernel)⟩
theorem lw_p69 : lw_okq (⟨"RollingNetsModel", "lendsTo", "(III)V"⟩, 32) := ⟨⟨by decide +kernel, by decide +kernel⟩, List.mem_of_getElem? (i := 946) (by decide +kernel), List.mem_of_getElem? (i := 1327) (by decide +kernel), List.mem_of_getElem? (i := 1328) (by decide +kernel)⟩
theorem lw_p70 : lw_okq (⟨"RollingNetsModel", "lenderFor", "(II)I"⟩, 32) := ⟨⟨by decide +kernel, by decide +kernel⟩, List.mem_of_getElem? (i := 946) (by decide +kernel), List.mem_of_getElem? (i := 1331) (by decide +kernel), List.mem_of_getElem? (i := 1332) (by decide +kernel)⟩
theorem lw_p71 : lw_okq (⟨"RollingNetsModel", "canLend", "(II)I"⟩, 32) := ⟨⟨by decide +kernel, by decide +kernel⟩, List.mem_of_getElem? (i := 946) (by decide +kernel), List.mem_of_getElem? (i := 1335) (by decide +kernel), List.mem_of_getElem? (i := 1336) (by decide +kernel)⟩
theorem lw_p72 : lw_okq (⟨"RollingNetsModel", "lotOfDay", "(III)I"⟩, 32) := ⟨⟨by decide +kernel, by decide +kernel⟩, List.mem_of_getElem? (i := 946) (by decide +kernel), List.mem_of_getElem? (i := 1339) (by decide +kernel), List.mem_of_getElem? (i := 1340) (by decide +kernel)⟩
theorem lw_p73 : lw_okq (⟨"RollingNetsModel", "doesApart", "(I)V"⟩, 32) := ⟨⟨by decide +kernel, by decide +kernel⟩, List.mem_of_getElem? (i := 946) (by decide +kernel), List.mem_of_getElem? (i := 1343) (by decide +kernel), List.mem_of_getElem? (i := 1344) (by decide +kernel)⟩
theorem lw_p74 : lw_okq (⟨"RollingNetsModel", "closes", "(I)V"⟩, 32) := ⟨⟨by decide +kernel, by decide +kernel⟩, List.mem_of_getElem? (i := 946) (by decide +kernel), List.mem_of_getElem? (i := 1347) (by decide +kernel), List.mem_of_getElem? (i := 1348) (by decide +kernel)⟩
theorem lw_p75 : lw_okq (⟨"RollingNetsModel", "closesApart", "(I)V"⟩, 32) := ⟨⟨by decide +kernel, by decide +kernel⟩, List.mem_of_getElem? (i := 946) (by decide +kernel), List.mem_of_getElem? (i := 1351) (by decide +kernel), List.mem_of_getElem? (i := 1352) (by decide +kernel)⟩
theorem lw_p76 : lw_okq (⟨"RollingNetsModel", "buyPrice", "(I)I"⟩, 32) := ⟨⟨by decide +kernel, by decide +kernel⟩, List.mem_of_getElem? (i := 946) (by decide +kernel), List.mem_of_getElem? (i := 1355) (by decide +kernel), List.mem_of_getElem? (i := 1356) (by decide +kernel)⟩
theorem lw_p77 : lw_okq (⟨"RollingNetsModel", "priceOf", "(I)I"⟩, 32) := ⟨⟨by decide +kernel, by decide +kernel⟩, List.mem_of_getElem? (i := 946) (by decide +kernel), List.mem_of_getElem? (i := 1359) (by decide +kernel), List.mem_of_getElem? (i := 1360) (by decide +kernel)⟩
theorem lw_p78 : lw_okq (⟨"RollingNetsModel", "closesFrom", "(II)V"⟩, 32) := ⟨⟨by decide +kernel, by decide +kernel⟩, List.mem_of_getElem? (i := 946) (by decide +kernel), List.mem_of_getElem? (i := 1363) (by decide +kernel), List.mem_of_getElem? (i := 1364) (by decide +kernel)⟩
theorem lw_p79 : lw_okq (⟨"RollingNetsModel", "longOf", "(II)I"⟩, 32) := ⟨⟨by decide +kernel, by decide +kernel⟩, List.mem_of_getElem? (i := 946) (by decide +kernel), List.mem_of_getElem? (i := 1367) (by decide +kernel), List.mem_of_getElem? (i := 1368) (by decide +kernel)⟩
def lw_privs_5 : List (MethodName × Nat) := [(⟨"RollingNetsModel", "allots", "(I)V"⟩, 32), (⟨"RollingNetsModel", "firstServed", "(I)I"⟩, 32), (⟨"RollingNetsModel", "goesAhead", "(IIIII)Z"⟩, 32), (⟨"RollingNetsModel", "lends", "(I)V"⟩, 32), (⟨"RollingNetsModel", "laysQueue", "(II)V"⟩, 32), (⟨"RollingNetsModel", "lendsTo", "(III)V"⟩, 32), (⟨"RollingNetsModel", "lenderFor", "(II)I"⟩, 32), (⟨"RollingNetsModel", "canLend", "(II)I"⟩, 32), (⟨"RollingNetsModel", "lotOfDay", "(III)I"⟩, 32), (⟨"RollingNetsModel", "doesApart", "(I)V"⟩, 32), (⟨"RollingNetsModel", "closes", "(I)V"⟩, 32), (⟨"RollingNetsModel", "closesApart", "(I)V"⟩, 32), (⟨"RollingNetsModel", "buyPrice", "(I)I"⟩, 32), (⟨"RollingNetsModel", "priceOf", "(I)I"⟩, 32), (⟨"RollingNetsModel", "closesFrom", "(II)V"⟩, 32), (⟨"RollingNetsModel", "longOf", "(II)I"⟩, 32)]
theorem lw_r5 : ∀ q ∈ lw_privs_5, lw_okq q := List.forall_mem_cons.mpr ⟨lw_p64, List.forall_mem_cons.mpr ⟨lw_p65, List.forall_mem_cons.mpr ⟨lw_p66, List.forall_mem_cons.mpr ⟨lw_p67, List.forall_mem_cons.mpr ⟨lw_p68, List.forall_mem_cons.mpr ⟨lw_p69, List.forall_mem_cons.mpr ⟨lw_p70, List.forall_mem_cons.mpr ⟨lw_p71, List.forall_mem_cons.mpr ⟨lw_p72, List.forall_mem_cons.mpr ⟨lw_p73, List.forall_mem_cons.mpr ⟨lw_p74, List.forall_mem_cons.mpr ⟨lw_p75, List.forall_mem_cons.mpr ⟨lw_p76, List.forall_mem_cons.mpr ⟨lw_p77, List.forall_mem_cons.mpr ⟨lw_p78, List.forall_mem_cons.mpr ⟨lw_p79, fun _ h => absurd h List.not_mem_nil⟩⟩⟩⟩⟩⟩⟩⟩⟩⟩⟩⟩⟩⟩⟩⟩
theorem lw_p80 : lw_okq (⟨"RollingNetsModel", "marks", "(I)V"⟩, 32) := ⟨⟨by decide +kernel, by decide +kernel⟩, List.mem_of_getElem? (i := 946) (by decide +kernel), List.mem_of_getElem? (i := 1371) (by decide +kernel), List.mem_of_getElem? (i := 1372) (by decide +kernel)⟩
theorem lw_p81 : lw_okq (⟨"RollingNetsModel", "fails", "(II)V"⟩, 32) := ⟨⟨by decide +kernel, by decide +kernel⟩, List.mem_of_getElem? (i := 946) (by decide +kernel), List.mem_of_getElem? (i := 1375) (by decide +kernel), List.mem_of_getElem? (i := 1376) (by decide +kernel)⟩
theorem lw_p82 : lw_okq (⟨"RollingNetsModel", "isFinished", "(I)Z"⟩, 32) := ⟨⟨by decide +kernel, by decide +kernel⟩, List.mem_of_getElem? (i := 946) (by decide +kernel), List.mem_of_getElem? (i := 1384) (by decide +kernel), List.mem_of_getElem? (i := 1385) (by decide +kernel)⟩
theorem lw_p83 : lw_okq (⟨"RollingNetsModel", "canSplit", "(II)Z"⟩, 32) := ⟨⟨by decide +kernel, by decide +kernel⟩, List.mem_of_getElem? (i := 946) (by decide +kernel), List.mem_of_getElem? (i := 1388) (by decide +kernel), List.mem_of_getElem? (i := 1389) (by decide +kernel)⟩
theorem lw_p84 : lw_okq (⟨"RollingNetsModel", "canGrow", "(II)Z"⟩, 32) := ⟨⟨by decide +kernel, by decide +kernel⟩, List.mem_of_getElem? (i := 946) (by decide +kernel), List.mem_of_getElem? (i := 1392) (by decide +kernel), List.mem_of_getElem? (i := 1393) (by decide +kernel)⟩
theorem lw_p85 : lw_okq (⟨"RollingNetsModel", "demandOf", "(I)J"⟩, 32) := ⟨⟨by decide +kernel, by decide +kernel⟩, List.mem_of_getElem? (i := 946) (by decide +kernel), List.mem_of_getElem? (i := 1402) (by decide +kernel), List.mem_of_getElem? (i := 1403) (by decide +kernel)⟩
theorem lw_p86 : lw_okq (⟨"RollingNetsModel", "lacksOf", "(I)J"⟩, 32) := ⟨⟨by decide +kernel, by decide +kernel⟩, List.mem_of_getElem? (i := 946) (by decide +kernel), List.mem_of_getElem? (i := 1407) (by decide +kernel), List.mem_of_getElem? (i := 1408) (by decide +kernel)⟩
theorem lw_p87 : lw_okq (⟨"RollingNetsModel", "atOf", "(III)I"⟩, 32) := ⟨⟨by decide +kernel, by decide +kernel⟩, List.mem_of_getElem? (i := 946) (by decide +kernel), List.mem_of_getElem? (i := 1419) (by decide +kernel), List.mem_of_getElem? (i := 1420) (by decide +kernel)⟩
theorem lw_p88 : lw_okq (⟨"RollingNetsModel", "tradedOf", "(IZ)I"⟩, 32) := ⟨⟨by decide +kernel, by decide +kernel⟩, List.mem_of_getElem? (i := 946) (by decide +kernel), List.mem_of_getElem? (i := 1448) (by decide +kernel), List.mem_of_getElem? (i := 1449) (by decide +kernel)⟩
theorem lw_p89 : lw_okq (⟨"RollingNetsModel", "sumOf", "(II)I"⟩, 32) := ⟨⟨by decide +kernel, by decide +kernel⟩, List.mem_of_getElem? (i := 946) (by decide +kernel), List.mem_of_getElem? (i := 1452) (by decide +kernel), List.mem_of_getElem? (i := 1453) (by decide +kernel)⟩
theorem lw_p90 : lw_okq (⟨"RollingNetsModel", "eldest", "(I)I"⟩, 32) := ⟨⟨by decide +kernel, by decide +kernel⟩, List.mem_of_getElem? (i := 946) (by decide +kernel), List.mem_of_getElem? (i := 1456) (by decide +kernel), List.mem_of_getElem? (i := 1457) (by decide +kernel)⟩
theorem lw_p91 : lw_okq (⟨"RollingNetsModel", "openOf", "(II)I"⟩, 32) := ⟨⟨by decide +kernel, by decide +kernel⟩, List.mem_of_getElem? (i := 946) (by decide +kernel), List.mem_of_getElem? (i := 1460) (by decide +kernel), List.mem_of_getElem? (i := 1461) (by decide +kernel)⟩
theorem lw_p92 : lw_okq (⟨"RollingNetsModel", "types", "(I)V"⟩, 32) := ⟨⟨by decide +kernel, by decide +kernel⟩, List.mem_of_getElem? (i := 946) (by decide +kernel), List.mem_of_getElem? (i := 1488) (by decide +kernel), List.mem_of_getElem? (i := 1489) (by decide +kernel)⟩
theorem lw_p93 : lw_okq (⟨"RollingNetsModel", "readPlan", "()I"⟩, 32) := ⟨⟨by decide +kernel, by decide +kernel⟩, List.mem_of_getElem? (i := 946) (by decide +kernel), List.mem_of_getElem? (i := 1500) (by decide +kernel), List.mem_of_getElem? (i := 1501) (by decide +kernel)⟩
theorem lw_p94 : lw_okq (⟨"RollingNetsModel", "reads", "()V"⟩, 32) := ⟨⟨by decide +kernel, by decide +kernel⟩, List.mem_of_getElem? (i := 946) (by decide +kernel), List.mem_of_getElem? (i := 1504) (by decide +kernel), List.mem_of_getElem? (i := 1505) (by decide +kernel)⟩
theorem lw_p95 : lw_okq (⟨"RollingNetsModel", "raw", "(I)I"⟩, 32) := ⟨⟨by decide +kernel, by decide +kernel⟩, List.mem_of_getElem? (i := 946) (by decide +kernel), List.mem_of_getElem? (i := 1508) (by decide +kernel), List.mem_of_getElem? (i := 1509) (by decide +kernel)⟩
def lw_privs_6 : List (MethodName × Nat) := [(⟨"RollingNetsModel", "marks", "(I)V"⟩, 32), (⟨"RollingNetsModel", "fails", "(II)V"⟩, 32), (⟨"RollingNetsModel", "isFinished", "(I)Z"⟩, 32), (⟨"RollingNetsModel", "canSplit", "(II)Z"⟩, 32), (⟨"RollingNetsModel", "canGrow", "(II)Z"⟩, 32), (⟨"RollingNetsModel", "demandOf", "(I)J"⟩, 32), (⟨"RollingNetsModel", "lacksOf", "(I)J"⟩, 32), (⟨"RollingNetsModel", "atOf", "(III)I"⟩, 32), (⟨"RollingNetsModel", "tradedOf", "(IZ)I"⟩, 32), (⟨"RollingNetsModel", "sumOf", "(II)I"⟩, 32), (⟨"RollingNetsModel", "eldest", "(I)I"⟩, 32), (⟨"RollingNetsModel", "openOf", "(II)I"⟩, 32), (⟨"RollingNetsModel", "types", "(I)V"⟩, 32), (⟨"RollingNetsModel", "readPlan", "()I"⟩, 32), (⟨"RollingNetsModel", "reads", "()V"⟩, 32), (⟨"RollingNetsModel", "raw", "(I)I"⟩, 32)]
theorem lw_r6 : ∀ q ∈ lw_privs_6, lw_okq q := List.forall_mem_cons.mpr ⟨lw_p80, List.forall_mem_cons.mpr ⟨lw_p81, List.forall_mem_cons.mpr ⟨lw_p82, List.forall_mem_cons.mpr ⟨lw_p83, List.forall_mem_cons.mpr ⟨lw_p84, List.forall_mem_cons.mpr ⟨lw_p85, List.forall_mem_cons.mpr ⟨lw_p86, List.forall_mem_cons.mpr ⟨lw_p87, List.forall_mem_cons.mpr ⟨lw_p88, List.forall_mem_cons.mpr ⟨lw_p89, List.forall_mem_cons.mpr ⟨lw_p90, List.forall_mem_cons.mpr ⟨lw_p91, List.forall_mem_cons.mpr ⟨lw_p92, List.forall_mem_cons.mpr ⟨lw_p93, List.forall_mem_cons.mpr ⟨lw_p94, List.forall_mem_cons.mpr ⟨lw_p95, fun _ h => absurd h List.not_mem_nil⟩⟩⟩⟩⟩⟩⟩⟩⟩⟩⟩⟩⟩⟩⟩⟩
theorem lw_p96 : lw_okq (⟨"RollingNetsModel", "isLetter", "(I)Z"⟩, 32) := ⟨⟨by decide +kernel, by decide +kernel⟩, List.mem_of_getElem? (i := 946) (by decide +kernel), List.mem_of_getElem? (i := 1512) (by decide +kernel), List.mem_of_getElem? (i := 1513) (by decide +kernel)⟩
theorem lw_p97 : lw_okq (⟨"RollingNetsModel", "wordAt", "(II)I"⟩, 32) := ⟨⟨by decide +kernel, by decide +kernel⟩, List.mem_of_getElem? (i := 946) (by decide +kernel), List.mem_of_getElem? (i := 1516) (by decide +kernel), List.mem_of_getElem? (i := 1517) (by decide +kernel)⟩
theorem lw_p98 : lw_okq (⟨"RollingNetsModel", "isDigit", "(I)Z"⟩, 32) := ⟨⟨by decide +kernel, by decide +kernel⟩, List.mem_of_getElem? (i := 946) (by decide +kernel), List.mem_of_getElem? (i := 1520) (by decide +kernel), List.mem_of_getElem? (i := 1521) (by decide +kernel)⟩
theorem lw_p99 : lw_okq (⟨"RollingNetsModel", "readLine", "(I)I"⟩, 32) := ⟨⟨by decide +kernel, by decide +kernel⟩, List.mem_of_getElem? (i := 946) (by decide +kernel), List.mem_of_getElem? (i := 1524) (by decide +kernel), List.mem_of_getElem? (i := 1525) (by decide +kernel)⟩
theorem lw_p100 : lw_okq (⟨"RollingNetsModel", "errs", "(I)I"⟩, 32) := ⟨⟨by decide +kernel, by decide +kernel⟩, List.mem_of_getElem? (i := 946) (by decide +kernel), List.mem_of_getElem? (i := 1528) (by decide +kernel), List.mem_of_getElem? (i := 1529) (by decide +kernel)⟩
theorem lw_p101 : lw_okq (⟨"RollingNetsModel", "manyOf", "(I)I"⟩, 32) := ⟨⟨by decide +kernel, by decide +kernel⟩, List.mem_of_getElem? (i := 946) (by decide +kernel), List.mem_of_getElem? (i := 1532) (by decide +kernel), List.mem_of_getElem? (i := 1533) (by decide +kernel)⟩
theorem lw_p102 : lw_okq (⟨"RollingNetsModel", "lowOf", "(II)I"⟩, 32) := ⟨⟨by decide +kernel, by decide +kernel⟩, List.mem_of_getElem? (i := 946) (by decide +kernel), List.mem_of_getElem? (i := 1536) (by decide +kernel), List.mem_of_getElem? (i := 1537) (by decide +kernel)⟩
theorem lw_p103 : lw_okq (⟨"RollingNetsModel", "highOf", "(II)I"⟩, 32) := ⟨⟨by decide +kernel, by decide +kernel⟩, List.mem_of_getElem? (i := 946) (by decide +kernel), List.mem_of_getElem? (i := 1540) (by decide +kernel), List.mem_of_getElem? (i := 1541) (by decide +kernel)⟩
theorem lw_p104 : lw_okq (⟨"RollingNetsModel", "readNumber", "(II)I"⟩, 32) := ⟨⟨by decide +kernel, by decide +kernel⟩, List.mem_of_getElem? (i := 946) (by decide +kernel), List.mem_of_getElem? (i := 1544) (by decide +kernel), List.mem_of_getElem? (i := 1545) (by decide +kernel)⟩
theorem lw_p105 : lw_okq (⟨"RollingNetsModel", "runsLine", "(I)Z"⟩, 32) := ⟨⟨by decide +kernel, by decide +kernel⟩, List.mem_of_getElem? (i := 946) (by decide +kernel), List.mem_of_getElem? (i := 1556) (by decide +kernel), List.mem_of_getElem? (i := 1557) (by decide +kernel)⟩
theorem lw_p106 : lw_okq (⟨"RollingNetsModel", "openNotices", "()I"⟩, 32) := ⟨⟨by decide +kernel, by decide +kernel⟩, List.mem_of_getElem? (i := 946) (by decide +kernel), List.mem_of_getElem? (i := 1569) (by decide +kernel), List.mem_of_getElem? (i := 1570) (by decide +kernel)⟩
theorem lw_p107 : lw_okq (⟨"RollingNetsModel", "allCash", "()I"⟩, 32) := ⟨⟨by decide +kernel, by decide +kernel⟩, List.mem_of_getElem? (i := 946) (by decide +kernel), List.mem_of_getElem? (i := 1573) (by decide +kernel), List.mem_of_getElem? (i := 1574) (by decide +kernel)⟩
theorem lw_p108 : lw_okq (⟨"RollingNetsModel", "lackMany", "()I"⟩, 32) := ⟨⟨by decide +kernel, by decide +kernel⟩, List.mem_of_getElem? (i := 946) (by decide +kernel), List.mem_of_getElem? (i := 1577) (by decide +kernel), List.mem_of_getElem? (i := 1578) (by decide +kernel)⟩
theorem lw_p109 : lw_okq (⟨"RollingNetsModel", "shortSet", "()I"⟩, 32) := ⟨⟨by decide +kernel, by decide +kernel⟩, List.mem_of_getElem? (i := 946) (by decide +kernel), List.mem_of_getElem? (i := 1581) (by decide +kernel), List.mem_of_getElem? (i := 1582) (by decide +kernel)⟩
def lw_privs_7 : List (MethodName × Nat) := [(⟨"RollingNetsModel", "isLetter", "(I)Z"⟩, 32), (⟨"RollingNetsModel", "wordAt", "(II)I"⟩, 32), (⟨"RollingNetsModel", "isDigit", "(I)Z"⟩, 32), (⟨"RollingNetsModel", "readLine", "(I)I"⟩, 32), (⟨"RollingNetsModel", "errs", "(I)I"⟩, 32), (⟨"RollingNetsModel", "manyOf", "(I)I"⟩, 32), (⟨"RollingNetsModel", "lowOf", "(II)I"⟩, 32), (⟨"RollingNetsModel", "highOf", "(II)I"⟩, 32), (⟨"RollingNetsModel", "readNumber", "(II)I"⟩, 32), (⟨"RollingNetsModel", "runsLine", "(I)Z"⟩, 32), (⟨"RollingNetsModel", "openNotices", "()I"⟩, 32), (⟨"RollingNetsModel", "allCash", "()I"⟩, 32), (⟨"RollingNetsModel", "lackMany", "()I"⟩, 32), (⟨"RollingNetsModel", "shortSet", "()I"⟩, 32)]
theorem lw_r7 : ∀ q ∈ lw_privs_7, lw_okq q := List.forall_mem_cons.mpr ⟨lw_p96, List.forall_mem_cons.mpr ⟨lw_p97, List.forall_mem_cons.mpr ⟨lw_p98, List.forall_mem_cons.mpr ⟨lw_p99, List.forall_mem_cons.mpr ⟨lw_p100, List.forall_mem_cons.mpr ⟨lw_p101, List.forall_mem_cons.mpr ⟨lw_p102, List.forall_mem_cons.mpr ⟨lw_p103, List.forall_mem_cons.mpr ⟨lw_p104, List.forall_mem_cons.mpr ⟨lw_p105, List.forall_mem_cons.mpr ⟨lw_p106, List.forall_mem_cons.mpr ⟨lw_p107, List.forall_mem_cons.mpr ⟨lw_p108, List.forall_mem_cons.mpr ⟨lw_p109, fun _ h => absurd h List.not_mem_nil⟩⟩⟩⟩⟩⟩⟩⟩⟩⟩⟩⟩⟩⟩
def lw_privs : List (MethodName × Nat) := lw_privs_1 ++ (lw_privs_2 ++ (lw_privs_3 ++ (lw_privs_4 ++ (lw_privs_5 ++ (lw_privs_6 ++ (lw_privs_7))))))
def lw_tbl : List Cond := k2_sels lw_privs ++ tables_1
theorem lw_privs_ok : ∀ q ∈ lw_privs, lw_okq q := by
  show ∀ q ∈ lw_privs_1 ++ (lw_privs_2 ++ (lw_privs_3 ++ (lw_privs_4 ++ (lw_privs_5 ++ (lw_privs_6 ++ (lw_privs_7)))))), lw_okq q
  exact List.forall_mem_append.mpr ⟨lw_r1, List.forall_mem_append.mpr ⟨lw_r2, List.forall_mem_append.mpr ⟨lw_r3, List.forall_mem_append.mpr ⟨lw_r4, List.forall_mem_append.mpr ⟨lw_r5, List.forall_mem_append.mpr ⟨lw_r6, lw_r7⟩⟩⟩⟩⟩⟩
def RX0 : String := "RollingNets$Figures"
def TX0 : u_T := fun k => match k with
  | _ => ("", "", "", false)
def tyX0 : Nat → FieldType := fun k => match k with
  | _ => .int
theorem nmX0 : ∀ a, a < 0 → ∀ b, b < 0 → a ≠ b → (TX0 a).2.1 ≠ (TX0 b).2.1 := by decide +kernel
theorem tyX0_ok : ∀ k, k < 0 → parseFieldDescriptor (TX0 k).2.2.1 = some (tyX0 k) := by decide +kernel
abbrev cX0_ofIssue : ByteArray := prog_2_method_2_code
def yX0_ofIssue : MethodName := ⟨RX0, "ofIssue", "(LRollingNets$House;II)I"⟩
abbrev cX0_overMembers : ByteArray := prog_2_method_3_code
def yX0_overMembers : MethodName := ⟨RX0, "overMembers", "(LRollingNets$House;LRollingNets$Market;I)I"⟩
abbrev cX0_eldestDay : ByteArray := prog_2_method_4_code
def yX0_eldestDay : MethodName := ⟨RX0, "eldestDay", "(LRollingNets$House;LRollingNets$Market;)I"⟩
abbrev cX0_overDeals : ByteArray := prog_2_method_5_code
def yX0_overDeals : MethodName := ⟨RX0, "overDeals", "(LRollingNets$House;III)I"⟩
abbrev cX0_countDeals : ByteArray := prog_2_method_6_code
def yX0_countDeals : MethodName := ⟨RX0, "countDeals", "(LRollingNets$House;I)I"⟩
abbrev cX0_openNotices : ByteArray := prog_2_method_7_code
def yX0_openNotices : MethodName := ⟨RX0, "openNotices", "(LRollingNets$House;)I"⟩
abbrev cX0_allCash : ByteArray := prog_2_method_8_code
def yX0_allCash : MethodName := ⟨RX0, "allCash", "(LRollingNets$House;)J"⟩
abbrev cX0_suspendedSet : ByteArray := prog_2_method_9_code
def yX0_suspendedSet : MethodName := ⟨RX0, "suspendedSet", "(LRollingNets$House;)I"⟩
abbrev cX0_shortSet : ByteArray := prog_2_method_10_code
def yX0_shortSet : MethodName := ⟨RX0, "shortSet", "(LRollingNets$House;)I"⟩
abbrev cX0_demand : ByteArray := prog_2_method_11_code
def yX0_demand : MethodName := ⟨RX0, "demand", "(LRollingNets$House;I)J"⟩
abbrev cX0_lacks : ByteArray := prog_2_method_12_code
def yX0_lacks : MethodName := ⟨RX0, "lacks", "(LRollingNets$House;I)J"⟩
abbrev cX0_lacking : ByteArray := prog_2_method_13_code
def yX0_lacking : MethodName := ⟨RX0, "lacking", "(LRollingNets$House;)I"⟩
abbrev cX0_sunk : ByteArray := prog_2_method_14_code
def yX0_sunk : MethodName := ⟨RX0, "sunk", "(LRollingNets$House;I)I"⟩
abbrev cX0_agedShort : ByteArray := prog_2_method_15_code
def yX0_agedShort : MethodName := ⟨RX0, "agedShort", "(LRollingNets$House;II)I"⟩
abbrev cX0_aheadOf : ByteArray := prog_2_method_16_code
def yX0_aheadOf : MethodName := ⟨RX0, "aheadOf", "(LRollingNets$House;II)I"⟩
abbrev cX0_booked : ByteArray := prog_2_method_17_code
def yX0_booked : MethodName := ⟨RX0, "booked", "(LRollingNets$Table;III)I"⟩
def RX1 : String := "RollingNets$House"
def TX1 : u_T := fun k => match k with
  | 0 => ("RollingNets$House", "told", "[I", true)
  | 1 => ("RollingNets$House", "cash", "[J", true)
  | 2 => ("RollingNets$House", "rank", "[I", true)
  | 3 => ("RollingNets$House", "pledged", "[I", true)
  | 4 => ("RollingNets$House", "suspended", "[Z", true)
  | 5 => ("RollingNets$House", "markets", "[LRollingNets$Market;", true)
  | 6 => ("RollingNets$House", "deals", "LRollingNets$Table;", true)
  | 7 => ("RollingNets$House", "notices", "LRollingNets$Table;", true)
  | 8 => ("RollingNets$House", "book", "LRollingNets$Table;", true)
  | 9 => ("RollingNets$House", "plan", "LRollingNets$Table;", true)
  | 10 => ("RollingNets$House", "planDone", "I", false)
  | 11 => ("RollingNets$House", "day", "I", false)
  | 12 => ("RollingNets$House", "outside", "J", false)
  | 13 => ("RollingNets$House", "line", "LRollingNets$Line;", true)
  | 14 => ("RollingNets$House", "chain", "[I", true)
  | 15 => ("RollingNets$House", "chainSize", "I", false)
  | _ => ("RollingNets$House", "parts", "[I", true)
def tyX1 : Nat → FieldType := fun k => match k with
  | 0 => .array .int
  | 1 => .array .long
  | 2 => .array .int
  | 3 => .array .int
  | 4 => .array .boolean
  | 5 => .array (.object "RollingNets$Market")
  | 6 => .object "RollingNets$Table"
  | 7 => .object "RollingNets$Table"
  | 8 => .object "RollingNets$Table"
  | 9 => .object "RollingNets$Table"
  | 10 => .int
  | 11 => .int
  | 12 => .long
  | 13 => .object "RollingNets$Line"
  | 14 => .array .int
  | 15 => .int
  | _ => .array .int
theorem nmX1 : ∀ a, a < 17 → ∀ b, b < 17 → a ≠ b → (TX1 a).2.1 ≠ (TX1 b).2.1 := by decide +kernel
theorem tyX1_ok : ∀ k, k < 17 → parseFieldDescriptor (TX1 k).2.2.1 = some (tyX1 k) := by decide +kernel
abbrev cX1_init : ByteArray := prog_3_method_1_code
def yX1_init : MethodName := ⟨RX1, "<init>", "()V"⟩
abbrev cX1_members : ByteArray := prog_3_method_2_code
def yX1_members : MethodName := ⟨RX1, "members", "()I"⟩
abbrev cX1_hasMember : ByteArray := prog_3_method_3_code
def yX1_hasMember : MethodName := ⟨RX1, "hasMember", "(I)Z"⟩
abbrev cX1_freeOf : ByteArray := prog_3_method_4_code
def yX1_freeOf : MethodName := ⟨RX1, "freeOf", "(II)J"⟩
abbrev cX1_canLend : ByteArray := prog_3_method_5_code
def yX1_canLend : MethodName := ⟨RX1, "canLend", "(II)I"⟩
abbrev cX1_buyPrice : ByteArray := prog_3_method_6_code
def yX1_buyPrice : MethodName := ⟨RX1, "buyPrice", "(I)I"⟩
abbrev cX1_pay : ByteArray := prog_3_method_7_code
def yX1_pay : MethodName := ⟨RX1, "pay", "(IIJ)V"⟩
abbrev cX1_write : ByteArray := prog_3_method_8_code
def yX1_write : MethodName := ⟨RX1, "write", "(IIIII)V"⟩
abbrev cX1_addDeal : ByteArray := prog_3_method_9_code
def yX1_addDeal : MethodName := ⟨RX1, "addDeal", "(IIIIII)I"⟩
abbrev cX1_isDue : ByteArray := prog_3_method_10_code
def yX1_isDue : MethodName := ⟨RX1, "isDue", "(III)Z"⟩
abbrev cX1_isOpenNotice : ByteArray := prog_3_method_11_code
def yX1_isOpenNotice : MethodName := ⟨RX1, "isOpenNotice", "(II)Z"⟩
abbrev cX1_hasOpen : ByteArray := prog_3_method_12_code
def yX1_hasOpen : MethodName := ⟨RX1, "hasOpen", "(I)Z"⟩
abbrev cX1_holding : ByteArray := prog_3_method_13_code
def yX1_holding : MethodName := ⟨RX1, "holding", "(III)I"⟩
abbrev cX1_copyFrom : ByteArray := prog_3_method_14_code
def yX1_copyFrom : MethodName := ⟨RX1, "copyFrom", "(LRollingNets$House;)V"⟩
def RX2 : String := "RollingNets$Line"
def TX2 : u_T := fun k => match k with
  | 0 => ("RollingNets$Line", "member", "[I", true)
  | 1 => ("RollingNets$Line", "day", "[I", true)
  | 2 => ("RollingNets$Line", "size", "I", false)
  | _ => ("RollingNets$Line", "byRank", "[I", true)
def tyX2 : Nat → FieldType := fun k => match k with
  | 0 => .array .int
  | 1 => .array .int
  | 2 => .int
  | _ => .array .int
theorem nmX2 : ∀ a, a < 4 → ∀ b, b < 4 → a ≠ b → (TX2 a).2.1 ≠ (TX2 b).2.1 := by decide +kernel
theorem tyX2_ok : ∀ k, k < 4 → parseFieldDescriptor (TX2 k).2.2.1 = some (tyX2 k) := by decide +kernel
abbrev cX2_init : ByteArray := prog_4_method_1_code
def yX2_init : MethodName := ⟨RX2, "<init>", "()V"⟩
abbrev cX2_form : ByteArray := prog_4_method_2_code
def yX2_form : MethodName := ⟨RX2, "form", "(LRollingNets$House;I)V"⟩
abbrev cX2_sortByRank : ByteArray := prog_4_method_3_code
def yX2_sortByRank : MethodName := ⟨RX2, "sortByRank", "(LRollingNets$House;)V"⟩
abbrev cX2_addGroup : ByteArray := prog_4_method_4_code
def yX2_addGroup : MethodName := ⟨RX2, "addGroup", "(LRollingNets$Market;I)V"⟩
def RX3 : String := "RollingNets$Market"
def TX3 : u_T := fun k => match k with
  | 0 => ("RollingNets$Market", "stock", "[J", true)
  | 1 => ("RollingNets$Market", "reserved", "[I", true)
  | 2 => ("RollingNets$Market", "lends", "[I", true)
  | 3 => ("RollingNets$Market", "lent", "[I", true)
  | 4 => ("RollingNets$Market", "fails", "[I", true)
  | 5 => ("RollingNets$Market", "position", "[I", true)
  | 6 => ("RollingNets$Market", "lots", "[[I", true)
  | 7 => ("RollingNets$Market", "price", "I", false)
  | 8 => ("RollingNets$Market", "marked", "I", false)
  | 9 => ("RollingNets$Market", "payout", "I", false)
  | _ => ("RollingNets$Market", "endDay", "I", false)
def tyX3 : Nat → FieldType := fun k => match k with
  | 0 => .array .long
  | 1 => .array .int
  | 2 => .array .int
  | 3 => .array .int
  | 4 => .array .int
  | 5 => .array .int
  | 6 => .array (.array .int)
  | 7 => .int
  | 8 => .int
  | 9 => .int
  | _ => .int
theorem nmX3 : ∀ a, a < 11 → ∀ b, b < 11 → a ≠ b → (TX3 a).2.1 ≠ (TX3 b).2.1 := by decide +kernel
theorem tyX3_ok : ∀ k, k < 11 → parseFieldDescriptor (TX3 k).2.2.1 = some (tyX3 k) := by decide +kernel
abbrev cX3_init : ByteArray := prog_5_method_1_code
def yX3_init : MethodName := ⟨RX3, "<init>", "()V"⟩
abbrev cX3_longOf : ByteArray := prog_5_method_2_code
def yX3_longOf : MethodName := ⟨RX3, "longOf", "(I)I"⟩
abbrev cX3_shortOf : ByteArray := prog_5_method_3_code
def yX3_shortOf : MethodName := ⟨RX3, "shortOf", "(I)I"⟩
abbrev cX3_worth : ByteArray := prog_5_method_4_code
def yX3_worth : MethodName := ⟨RX3, "worth", "(I)J"⟩
abbrev cX3_dayOfLot : ByteArray := prog_5_method_5_code
def yX3_dayOfLot : MethodName := ⟨RX3, "dayOfLot", "(II)I"⟩
abbrev cX3_countLots : ByteArray := prog_5_method_6_code
def yX3_countLots : MethodName := ⟨RX3, "countLots", "(I)I"⟩
abbrev cX3_changeLot : ByteArray := prog_5_method_7_code
def yX3_changeLot : MethodName := ⟨RX3, "changeLot", "(III)V"⟩
abbrev cX3_takeOff : ByteArray := prog_5_method_8_code
def yX3_takeOff : MethodName := ⟨RX3, "takeOff", "(II)V"⟩
abbrev cX3_addLot : ByteArray := prog_5_method_9_code
def yX3_addLot : MethodName := ⟨RX3, "addLot", "(III)V"⟩
abbrev cX3_multiply : ByteArray := prog_5_method_10_code
def yX3_multiply : MethodName := ⟨RX3, "multiply", "(II)Z"⟩
abbrev cX3_greatest : ByteArray := prog_5_method_11_code
def yX3_greatest : MethodName := ⟨RX3, "greatest", "(I)J"⟩
abbrev cX3_multiplyMember : ByteArray := prog_5_method_12_code
def yX3_multiplyMember : MethodName := ⟨RX3, "multiplyMember", "(II)V"⟩
abbrev cX3_copyFrom : ByteArray := prog_5_method_13_code
def yX3_copyFrom : MethodName := ⟨RX3, "copyFrom", "(LRollingNets$Market;)V"⟩
def RX4 : String := "RollingNets$Night"
def TX4 : u_T := fun k => match k with
  | _ => ("", "", "", false)
def tyX4 : Nat → FieldType := fun k => match k with
  | _ => .int
theorem nmX4 : ∀ a, a < 0 → ∀ b, b < 0 → a ≠ b → (TX4 a).2.1 ≠ (TX4 b).2.1 := by decide +kernel
theorem tyX4_ok : ∀ k, k < 0 → parseFieldDescriptor (TX4 k).2.2.1 = some (tyX4 k) := by decide +kernel
abbrev cX4_pass : ByteArray := prog_6_method_2_code
def yX4_pass : MethodName := ⟨RX4, "pass", "(LRollingNets$House;I)I"⟩
abbrev cX4_netDue : ByteArray := prog_6_method_3_code
def yX4_netDue : MethodName := ⟨RX4, "netDue", "(LRollingNets$House;I)V"⟩
abbrev cX4_deliverAll : ByteArray := prog_6_method_4_code
def yX4_deliverAll : MethodName := ⟨RX4, "deliverAll", "(LRollingNets$House;I)I"⟩
abbrev cX4_deliver : ByteArray := prog_6_method_5_code
def yX4_deliver : MethodName := ⟨RX4, "deliver", "(LRollingNets$House;II)I"⟩
abbrev cX4_allot : ByteArray := prog_6_method_6_code
def yX4_allot : MethodName := ⟨RX4, "allot", "(LRollingNets$House;II)V"⟩
abbrev cX4_lendToAged : ByteArray := prog_6_method_7_code
def yX4_lendToAged : MethodName := ⟨RX4, "lendToAged", "(LRollingNets$House;I)V"⟩
abbrev cX4_lendTo : ByteArray := prog_6_method_8_code
def yX4_lendTo : MethodName := ⟨RX4, "lendTo", "(LRollingNets$House;III)V"⟩
abbrev cX4_bestLender : ByteArray := prog_6_method_9_code
def yX4_bestLender : MethodName := ⟨RX4, "bestLender", "(LRollingNets$House;II)I"⟩
abbrev cX4_passApart : ByteArray := prog_6_method_10_code
def yX4_passApart : MethodName := ⟨RX4, "passApart", "(LRollingNets$House;I)V"⟩
abbrev cX4_mark : ByteArray := prog_6_method_11_code
def yX4_mark : MethodName := ⟨RX4, "mark", "(LRollingNets$House;I)V"⟩
abbrev cX4_payOut : ByteArray := prog_6_method_12_code
def yX4_payOut : MethodName := ⟨RX4, "payOut", "(LRollingNets$House;I)V"⟩
abbrev cX4_countFails : ByteArray := prog_6_method_13_code
def yX4_countFails : MethodName := ⟨RX4, "countFails", "(LRollingNets$House;I)V"⟩
def RX5 : String := "RollingNets$Notices"
def TX5 : u_T := fun k => match k with
  | _ => ("", "", "", false)
def tyX5 : Nat → FieldType := fun k => match k with
  | _ => .int
theorem nmX5 : ∀ a, a < 0 → ∀ b, b < 0 → a ≠ b → (TX5 a).2.1 ≠ (TX5 b).2.1 := by decide +kernel
theorem tyX5_ok : ∀ k, k < 0 → parseFieldDescriptor (TX5 k).2.2.1 = some (tyX5 k) := by decide +kernel
abbrev cX5_givers : ByteArray := prog_7_method_2_code
def yX5_givers : MethodName := ⟨RX5, "givers", "(LRollingNets$House;I)I"⟩
abbrev cX5_giveNet : ByteArray := prog_7_method_3_code
def yX5_giveNet : MethodName := ⟨RX5, "giveNet", "(LRollingNets$House;III)I"⟩
abbrev cX5_agedLong : ByteArray := prog_7_method_4_code
def yX5_agedLong : MethodName := ⟨RX5, "agedLong", "(LRollingNets$House;II)I"⟩
abbrev cX5_assign : ByteArray := prog_7_method_5_code
def yX5_assign : MethodName := ⟨RX5, "assign", "(LRollingNets$House;II)I"⟩
abbrev cX5_assignedTo : ByteArray := prog_7_method_6_code
def yX5_assignedTo : MethodName := ⟨RX5, "assignedTo", "(LRollingNets$House;II)I"⟩
abbrev cX5_addNotice : ByteArray := prog_7_method_7_code
def yX5_addNotice : MethodName := ⟨RX5, "addNotice", "(LRollingNets$House;IIII)I"⟩
abbrev cX5_takeAssigned : ByteArray := prog_7_method_8_code
def yX5_takeAssigned : MethodName := ⟨RX5, "takeAssigned", "(LRollingNets$House;III)V"⟩
abbrev cX5_giveApart : ByteArray := prog_7_method_9_code
def yX5_giveApart : MethodName := ⟨RX5, "giveApart", "(LRollingNets$House;I)I"⟩
abbrev cX5_isCalled : ByteArray := prog_7_method_10_code
def yX5_isCalled : MethodName := ⟨RX5, "isCalled", "(LRollingNets$House;I)Z"⟩
abbrev cX5_closeDue : ByteArray := prog_7_method_11_code
def yX5_closeDue : MethodName := ⟨RX5, "closeDue", "(LRollingNets$House;I)V"⟩
abbrev cX5_closeNet : ByteArray := prog_7_method_12_code
def yX5_closeNet : MethodName := ⟨RX5, "closeNet", "(LRollingNets$House;III)V"⟩
abbrev cX5_closeApart : ByteArray := prog_7_method_13_code
def yX5_closeApart : MethodName := ⟨RX5, "closeApart", "(LRollingNets$House;III)V"⟩
abbrev cX5_layChain : ByteArray := prog_7_method_14_code
def yX5_layChain : MethodName := ⟨RX5, "layChain", "(LRollingNets$House;II)V"⟩
abbrev cX5_nextLink : ByteArray := prog_7_method_15_code
def yX5_nextLink : MethodName := ⟨RX5, "nextLink", "(LRollingNets$House;IIII)I"⟩
abbrev cX5_lastOfChain : ByteArray := prog_7_method_16_code
def yX5_lastOfChain : MethodName := ⟨RX5, "lastOfChain", "(LRollingNets$House;)I"⟩
def RX6 : String := "RollingNets$Reader"
def TX6 : u_T := fun k => match k with
  | 0 => ("RollingNets$Reader", "tape", "[I", true)
  | 1 => ("RollingNets$Reader", "length", "I", false)
  | 2 => ("RollingNets$Reader", "draft", "LRollingNets$Table;", true)
  | 3 => ("RollingNets$Reader", "place", "I", false)
  | 4 => ("RollingNets$Reader", "fault", "I", false)
  | _ => ("RollingNets$Reader", "faultPlace", "I", false)
def tyX6 : Nat → FieldType := fun k => match k with
  | 0 => .array .int
  | 1 => .int
  | 2 => .object "RollingNets$Table"
  | 3 => .int
  | 4 => .int
  | _ => .int
theorem nmX6 : ∀ a, a < 6 → ∀ b, b < 6 → a ≠ b → (TX6 a).2.1 ≠ (TX6 b).2.1 := by decide +kernel
theorem tyX6_ok : ∀ k, k < 6 → parseFieldDescriptor (TX6 k).2.2.1 = some (tyX6 k) := by decide +kernel
abbrev cX6_init : ByteArray := prog_8_method_1_code
def yX6_init : MethodName := ⟨RX6, "<init>", "()V"⟩
abbrev cX6_hasRoom : ByteArray := prog_8_method_2_code
def yX6_hasRoom : MethodName := ⟨RX6, "hasRoom", "()Z"⟩
abbrev cX6_append : ByteArray := prog_8_method_3_code
def yX6_append : MethodName := ⟨RX6, "append", "(I)V"⟩
abbrev cX6_read : ByteArray := prog_8_method_4_code
def yX6_read : MethodName := ⟨RX6, "read", "()Z"⟩
abbrev cX6_readLine : ByteArray := prog_8_method_5_code
def yX6_readLine : MethodName := ⟨RX6, "readLine", "()V"⟩
abbrev cX6_readNumber : ByteArray := prog_8_method_6_code
def yX6_readNumber : MethodName := ⟨RX6, "readNumber", "(IIC)V"⟩
abbrev cX6_failHere : ByteArray := prog_8_method_7_code
def yX6_failHere : MethodName := ⟨RX6, "failHere", "(I)V"⟩
abbrev cX6_here : ByteArray := prog_8_method_8_code
def yX6_here : MethodName := ⟨RX6, "here", "(I)I"⟩
abbrev cX6_skipBlanks : ByteArray := prog_8_method_9_code
def yX6_skipBlanks : MethodName := ⟨RX6, "skipBlanks", "()V"⟩
abbrev cX6_isLetter : ByteArray := prog_8_method_10_code
def yX6_isLetter : MethodName := ⟨RX6, "isLetter", "(I)Z"⟩
abbrev cX6_wordHere : ByteArray := prog_8_method_11_code
def yX6_wordHere : MethodName := ⟨RX6, "wordHere", "()I"⟩
abbrev cX6_isHere : ByteArray := prog_8_method_12_code
def yX6_isHere : MethodName := ⟨RX6, "isHere", "(Ljava/lang/String;)Z"⟩
abbrev cX6_wordOf : ByteArray := prog_8_method_13_code
def yX6_wordOf : MethodName := ⟨RX6, "wordOf", "(I)Ljava/lang/String;"⟩
abbrev cX6_shapeOf : ByteArray := prog_8_method_14_code
def yX6_shapeOf : MethodName := ⟨RX6, "shapeOf", "(I)Ljava/lang/String;"⟩
abbrev cX6_leastOf : ByteArray := prog_8_method_15_code
def yX6_leastOf : MethodName := ⟨RX6, "leastOf", "(C)I"⟩
abbrev cX6_mostOf : ByteArray := prog_8_method_16_code
def yX6_mostOf : MethodName := ⟨RX6, "mostOf", "(C)I"⟩
def RX7 : String := "RollingNets$Table"
def TX7 : u_T := fun k => match k with
  | 0 => ("RollingNets$Table", "cells", "[[I", true)
  | 1 => ("RollingNets$Table", "most", "I", true)
  | _ => ("RollingNets$Table", "count", "I", false)
def tyX7 : Nat → FieldType := fun k => match k with
  | 0 => .array (.array .int)
  | 1 => .int
  | _ => .int
theorem nmX7 : ∀ a, a < 3 → ∀ b, b < 3 → a ≠ b → (TX7 a).2.1 ≠ (TX7 b).2.1 := by decide +kernel
theorem tyX7_ok : ∀ k, k < 3 → parseFieldDescriptor (TX7 k).2.2.1 = some (tyX7 k) := by decide +kernel
abbrev cX7_init : ByteArray := prog_9_method_1_code
def yX7_init : MethodName := ⟨RX7, "<init>", "(II)V"⟩
abbrev cX7_size : ByteArray := prog_9_method_2_code
def yX7_size : MethodName := ⟨RX7, "size", "()I"⟩
abbrev cX7_isFull : ByteArray := prog_9_method_3_code
def yX7_isFull : MethodName := ⟨RX7, "isFull", "()Z"⟩
abbrev cX7_get : ByteArray := prog_9_method_4_code
def yX7_get : MethodName := ⟨RX7, "get", "(II)I"⟩
abbrev cX7_put : ByteArray := prog_9_method_5_code
def yX7_put : MethodName := ⟨RX7, "put", "(III)V"⟩
abbrev cX7_addRow : ByteArray := prog_9_method_6_code
def yX7_addRow : MethodName := ⟨RX7, "addRow", "()I"⟩
abbrev cX7_clear : ByteArray := prog_9_method_7_code
def yX7_clear : MethodName := ⟨RX7, "clear", "()V"⟩
abbrev cX7_copyFrom : ByteArray := prog_9_method_8_code
def yX7_copyFrom : MethodName := ⟨RX7, "copyFrom", "(LRollingNets$Table;)V"⟩
def RX8 : String := "RollingNets"
def TX8 : u_T := fun k => match k with
  | 0 => ("RollingNets", "now", "LRollingNets$House;", true)
  | 1 => ("RollingNets", "kept", "LRollingNets$House;", true)
  | 2 => ("RollingNets", "thought", "LRollingNets$House;", true)
  | 3 => ("RollingNets", "reader", "LRollingNets$Reader;", true)
  | _ => ("RollingNets", "isKept", "Z", false)
def tyX8 : Nat → FieldType := fun k => match k with
  | 0 => .object "RollingNets$House"
  | 1 => .object "RollingNets$House"
  | 2 => .object "RollingNets$House"
  | 3 => .object "RollingNets$Reader"
  | _ => .boolean
theorem nmX8 : ∀ a, a < 5 → ∀ b, b < 5 → a ≠ b → (TX8 a).2.1 ≠ (TX8 b).2.1 := by decide +kernel
theorem tyX8_ok : ∀ k, k < 5 → parseFieldDescriptor (TX8 k).2.2.1 = some (tyX8 k) := by decide +kernel
abbrev cX8_init : ByteArray := prog_1_method_1_code
def yX8_init : MethodName := ⟨RX8, "<init>", "()V"⟩
abbrev cX8_set : ByteArray := prog_1_method_2_code
def yX8_set : MethodName := ⟨RX8, "set", "(II)Z"⟩
abbrev cX8_tell : ByteArray := prog_1_method_3_code
def yX8_tell : MethodName := ⟨RX8, "tell", "(IIII)Z"⟩
abbrev cX8_tellRank : ByteArray := prog_1_method_4_code
def yX8_tellRank : MethodName := ⟨RX8, "tellRank", "(II)Z"⟩
abbrev cX8_price : ByteArray := prog_1_method_5_code
def yX8_price : MethodName := ⟨RX8, "price", "(II)Z"⟩
abbrev cX8_trade : ByteArray := prog_1_method_6_code
def yX8_trade : MethodName := ⟨RX8, "trade", "(IIIII)I"⟩
abbrev cX8_apart : ByteArray := prog_1_method_7_code
def yX8_apart : MethodName := ⟨RX8, "apart", "(IIIII)I"⟩
abbrev cX8_dividend : ByteArray := prog_1_method_8_code
def yX8_dividend : MethodName := ⟨RX8, "dividend", "(II)Z"⟩
abbrev cX8_move : ByteArray := prog_1_method_9_code
def yX8_move : MethodName := ⟨RX8, "move", "(IIII)Z"⟩
abbrev cX8_split : ByteArray := prog_1_method_10_code
def yX8_split : MethodName := ⟨RX8, "split", "(II)Z"⟩
abbrev cX8_suspend : ByteArray := prog_1_method_11_code
def yX8_suspend : MethodName := ⟨RX8, "suspend", "(IZ)Z"⟩
abbrev cX8_collateral : ByteArray := prog_1_method_12_code
def yX8_collateral : MethodName := ⟨RX8, "collateral", "(II)Z"⟩
abbrev cX8_night : ByteArray := prog_1_method_13_code
def yX8_night : MethodName := ⟨RX8, "night", "(I)I"⟩
abbrev cX8_give : ByteArray := prog_1_method_14_code
def yX8_give : MethodName := ⟨RX8, "give", "(III)I"⟩
abbrev cX8_call : ByteArray := prog_1_method_15_code
def yX8_call : MethodName := ⟨RX8, "call", "(I)I"⟩
abbrev cX8_feed : ByteArray := prog_1_method_16_code
def yX8_feed : MethodName := ⟨RX8, "feed", "(IIIII)I"⟩
abbrev cX8_end : ByteArray := prog_1_method_17_code
def yX8_end : MethodName := ⟨RX8, "end", "(I)Z"⟩
abbrev cX8_plan : ByteArray := prog_1_method_18_code
def yX8_plan : MethodName := ⟨RX8, "plan", "()I"⟩
abbrev cX8_fault : ByteArray := prog_1_method_19_code
def yX8_fault : MethodName := ⟨RX8, "fault", "(I)I"⟩
abbrev cX8_run : ByteArray := prog_1_method_20_code
def yX8_run : MethodName := ⟨RX8, "run", "(I)I"⟩
abbrev cX8_perform : ByteArray := prog_1_method_21_code
def yX8_perform : MethodName := ⟨RX8, "perform", "(I)Z"⟩
abbrev cX8_image : ByteArray := prog_1_method_22_code
def yX8_image : MethodName := ⟨RX8, "image", "(Z)Z"⟩
abbrev cX8_at : ByteArray := prog_1_method_23_code
def yX8_at : MethodName := ⟨RX8, "at", "(III)I"⟩
abbrev cX8_lot : ByteArray := prog_1_method_24_code
def yX8_lot : MethodName := ⟨RX8, "lot", "(IIII)I"⟩
abbrev cX8_cash : ByteArray := prog_1_method_25_code
def yX8_cash : MethodName := ⟨RX8, "cash", "(I)J"⟩
abbrev cX8_deal : ByteArray := prog_1_method_26_code
def yX8_deal : MethodName := ⟨RX8, "deal", "(II)I"⟩
abbrev cX8_notice : ByteArray := prog_1_method_27_code
def yX8_notice : MethodName := ⟨RX8, "notice", "(II)I"⟩
abbrev cX8_issue : ByteArray := prog_1_method_28_code
def yX8_issue : MethodName := ⟨RX8, "issue", "(II)I"⟩
abbrev cX8_book : ByteArray := prog_1_method_29_code
def yX8_book : MethodName := ⟨RX8, "book", "(II)I"⟩
abbrev cX8_margin : ByteArray := prog_1_method_30_code
def yX8_margin : MethodName := ⟨RX8, "margin", "(II)J"⟩
abbrev cX8_stress : ByteArray := prog_1_method_31_code
def yX8_stress : MethodName := ⟨RX8, "stress", "(I)I"⟩
abbrev cX8_queue : ByteArray := prog_1_method_32_code
def yX8_queue : MethodName := ⟨RX8, "queue", "(III)I"⟩
abbrev cX8_aged : ByteArray := prog_1_method_33_code
def yX8_aged : MethodName := ⟨RX8, "aged", "(II)I"⟩
abbrev cX8_statement : ByteArray := prog_1_method_34_code
def yX8_statement : MethodName := ⟨RX8, "statement", "(IIZ)I"⟩
abbrev cX8_tomorrow : ByteArray := prog_1_method_35_code
def yX8_tomorrow : MethodName := ⟨RX8, "tomorrow", "(III)I"⟩
abbrev cX8_ahead : ByteArray := prog_1_method_36_code
def yX8_ahead : MethodName := ⟨RX8, "ahead", "(II)I"⟩
abbrev cX8_reached : ByteArray := prog_1_method_37_code
def yX8_reached : MethodName := ⟨RX8, "reached", "(II)I"⟩
abbrev cX8_look : ByteArray := prog_1_method_38_code
def yX8_look : MethodName := ⟨RX8, "look", "(I)I"⟩
abbrev cX8_within : ByteArray := prog_1_method_39_code
def yX8_within : MethodName := ⟨RX8, "within", "(III)Z"⟩
abbrev cX8_isIssue : ByteArray := prog_1_method_40_code
def yX8_isIssue : MethodName := ⟨RX8, "isIssue", "(I)Z"⟩
def RX9 : String := "RollingNetsModel"
def TX9 : u_T := fun k => match k with
  | 0 => ("RollingNetsModel", "told", "I", false)
  | 1 => ("RollingNetsModel", "now", "[I", true)
  | 2 => ("RollingNetsModel", "waiting", "[I", true)
  | 3 => ("RollingNetsModel", "coins", "[J", true)
  | 4 => ("RollingNetsModel", "coinsWaiting", "[J", true)
  | 5 => ("RollingNetsModel", "foundDay", "I", false)
  | 6 => ("RollingNetsModel", "foundLot", "I", false)
  | 7 => ("RollingNetsModel", "chainMany", "I", false)
  | 8 => ("RollingNetsModel", "chain", "[I", true)
  | 9 => ("RollingNetsModel", "chainLast", "I", false)
  | 10 => ("RollingNetsModel", "queueMany", "I", false)
  | 11 => ("RollingNetsModel", "queueMember", "[I", true)
  | 12 => ("RollingNetsModel", "queueDay", "[I", true)
  | 13 => ("RollingNetsModel", "queueShares", "[I", true)
  | 14 => ("RollingNetsModel", "pool", "I", false)
  | 15 => ("RollingNetsModel", "didDeliver", "[Z", true)
  | 16 => ("RollingNetsModel", "tape", "[I", true)
  | 17 => ("RollingNetsModel", "taped", "I", false)
  | 18 => ("RollingNetsModel", "spot", "I", false)
  | 19 => ("RollingNetsModel", "from", "I", false)
  | 20 => ("RollingNetsModel", "token", "I", false)
  | 21 => ("RollingNetsModel", "value", "I", false)
  | 22 => ("RollingNetsModel", "words", "[I", true)
  | 23 => ("RollingNetsModel", "readFault", "I", false)
  | 24 => ("RollingNetsModel", "readPlace", "I", false)
  | 25 => ("RollingNetsModel", "faultKind", "I", false)
  | 26 => ("RollingNetsModel", "faultPlace", "I", false)
  | 27 => ("RollingNetsModel", "planMany", "I", false)
  | 28 => ("RollingNetsModel", "plans", "[I", true)
  | 29 => ("RollingNetsModel", "hasImage", "Z", false)
  | 30 => ("RollingNetsModel", "images", "[I", true)
  | _ => ("RollingNetsModel", "imagedCoins", "[J", true)
def tyX9 : Nat → FieldType := fun k => match k with
  | 0 => .int
  | 1 => .array .int
  | 2 => .array .int
  | 3 => .array .long
  | 4 => .array .long
  | 5 => .int
  | 6 => .int
  | 7 => .int
  | 8 => .array .int
  | 9 => .int
  | 10 => .int
  | 11 => .array .int
  | 12 => .array .int
  | 13 => .array .int
  | 14 => .int
  | 15 => .array .boolean
  | 16 => .array .int
  | 17 => .int
  | 18 => .int
  | 19 => .int
  | 20 => .int
  | 21 => .int
  | 22 => .array .int
  | 23 => .int
  | 24 => .int
  | 25 => .int
  | 26 => .int
  | 27 => .int
  | 28 => .array .int
  | 29 => .boolean
  | 30 => .array .int
  | _ => .array .long
theorem nmX9 : ∀ a, a < 32 → ∀ b, b < 32 → a ≠ b → (TX9 a).2.1 ≠ (TX9 b).2.1 := by decide +kernel
theorem tyX9_ok : ∀ k, k < 32 → parseFieldDescriptor (TX9 k).2.2.1 = some (tyX9 k) := by decide +kernel
abbrev cX9_init : ByteArray := prog_11_method_1_code
def yX9_init : MethodName := ⟨RX9, "<init>", "()V"⟩
abbrev cX9_isIn : ByteArray := prog_11_method_3_code
def yX9_isIn : MethodName := ⟨RX9, "isIn", "(III)Z"⟩
abbrev cX9_greater : ByteArray := prog_11_method_4_code
def yX9_greater : MethodName := ⟨RX9, "greater", "(II)I"⟩
abbrev cX9_lesser : ByteArray := prog_11_method_5_code
def yX9_lesser : MethodName := ⟨RX9, "lesser", "(II)I"⟩
abbrev cX9_has : ByteArray := prog_11_method_6_code
def yX9_has : MethodName := ⟨RX9, "has", "(II)Z"⟩
abbrev cX9_memberMany : ByteArray := prog_11_method_7_code
def yX9_memberMany : MethodName := ⟨RX9, "memberMany", "()I"⟩
abbrev cX9_isMember : ByteArray := prog_11_method_8_code
def yX9_isMember : MethodName := ⟨RX9, "isMember", "(I)Z"⟩
abbrev cX9_isIssue : ByteArray := prog_11_method_9_code
def yX9_isIssue : MethodName := ⟨RX9, "isIssue", "(I)Z"⟩
abbrev cX9_priceOf : ByteArray := prog_11_method_10_code
def yX9_priceOf : MethodName := ⟨RX9, "priceOf", "(I)I"⟩
abbrev cX9_markedOf : ByteArray := prog_11_method_11_code
def yX9_markedOf : MethodName := ⟨RX9, "markedOf", "(I)I"⟩
abbrev cX9_cellOf : ByteArray := prog_11_method_12_code
def yX9_cellOf : MethodName := ⟨RX9, "cellOf", "(II)I"⟩
abbrev cX9_stockOf : ByteArray := prog_11_method_13_code
def yX9_stockOf : MethodName := ⟨RX9, "stockOf", "(II)I"⟩
abbrev cX9_stockMore : ByteArray := prog_11_method_14_code
def yX9_stockMore : MethodName := ⟨RX9, "stockMore", "(III)V"⟩
abbrev cX9_freeOf : ByteArray := prog_11_method_15_code
def yX9_freeOf : MethodName := ⟨RX9, "freeOf", "(II)I"⟩
abbrev cX9_cashMore : ByteArray := prog_11_method_16_code
def yX9_cashMore : MethodName := ⟨RX9, "cashMore", "(IJ)V"⟩
abbrev cX9_canSet : ByteArray := prog_11_method_17_code
def yX9_canSet : MethodName := ⟨RX9, "canSet", "(II)Z"⟩
abbrev cX9_firstOf : ByteArray := prog_11_method_18_code
def yX9_firstOf : MethodName := ⟨RX9, "firstOf", "(I)I"⟩
abbrev cX9_settingOf : ByteArray := prog_11_method_19_code
def yX9_settingOf : MethodName := ⟨RX9, "settingOf", "(I)I"⟩
abbrev cX9_set : ByteArray := prog_11_method_20_code
def yX9_set : MethodName := ⟨RX9, "set", "(II)Z"⟩
abbrev cX9_tell : ByteArray := prog_11_method_21_code
def yX9_tell : MethodName := ⟨RX9, "tell", "(IIII)Z"⟩
abbrev cX9_price : ByteArray := prog_11_method_22_code
def yX9_price : MethodName := ⟨RX9, "price", "(II)Z"⟩
abbrev cX9_dividend : ByteArray := prog_11_method_23_code
def yX9_dividend : MethodName := ⟨RX9, "dividend", "(II)Z"⟩
abbrev cX9_move : ByteArray := prog_11_method_24_code
def yX9_move : MethodName := ⟨RX9, "move", "(IIII)Z"⟩
abbrev cX9_suspend : ByteArray := prog_11_method_25_code
def yX9_suspend : MethodName := ⟨RX9, "suspend", "(IZ)Z"⟩
abbrev cX9_collateral : ByteArray := prog_11_method_26_code
def yX9_collateral : MethodName := ⟨RX9, "collateral", "(II)Z"⟩
abbrev cX9_lotMany : ByteArray := prog_11_method_27_code
def yX9_lotMany : MethodName := ⟨RX9, "lotMany", "(II)I"⟩
abbrev cX9_lotAt : ByteArray := prog_11_method_28_code
def yX9_lotAt : MethodName := ⟨RX9, "lotAt", "(III)I"⟩
abbrev cX9_dayOf : ByteArray := prog_11_method_29_code
def yX9_dayOf : MethodName := ⟨RX9, "dayOf", "(III)I"⟩
abbrev cX9_sharesOf : ByteArray := prog_11_method_30_code
def yX9_sharesOf : MethodName := ⟨RX9, "sharesOf", "(III)I"⟩
abbrev cX9_positionOf : ByteArray := prog_11_method_31_code
def yX9_positionOf : MethodName := ⟨RX9, "positionOf", "(II)I"⟩
abbrev cX9_isShort : ByteArray := prog_11_method_32_code
def yX9_isShort : MethodName := ⟨RX9, "isShort", "(II)Z"⟩
abbrev cX9_isLong : ByteArray := prog_11_method_33_code
def yX9_isLong : MethodName := ⟨RX9, "isLong", "(II)Z"⟩
abbrev cX9_shortOf : ByteArray := prog_11_method_34_code
def yX9_shortOf : MethodName := ⟨RX9, "shortOf", "(II)I"⟩
abbrev cX9_longOf : ByteArray := prog_11_method_35_code
def yX9_longOf : MethodName := ⟨RX9, "longOf", "(II)I"⟩
abbrev cX9_dropsLot : ByteArray := prog_11_method_36_code
def yX9_dropsLot : MethodName := ⟨RX9, "dropsLot", "(III)V"⟩
abbrev cX9_takesOf : ByteArray := prog_11_method_37_code
def yX9_takesOf : MethodName := ⟨RX9, "takesOf", "(IIII)V"⟩
abbrev cX9_takesOff : ByteArray := prog_11_method_38_code
def yX9_takesOff : MethodName := ⟨RX9, "takesOff", "(III)V"⟩
abbrev cX9_adds : ByteArray := prog_11_method_39_code
def yX9_adds : MethodName := ⟨RX9, "adds", "(IIII)V"⟩
abbrev cX9_tradeAt : ByteArray := prog_11_method_40_code
def yX9_tradeAt : MethodName := ⟨RX9, "tradeAt", "(I)I"⟩
abbrev cX9_tradeOf : ByteArray := prog_11_method_41_code
def yX9_tradeOf : MethodName := ⟨RX9, "tradeOf", "(II)I"⟩
abbrev cX9_isTrade : ByteArray := prog_11_method_42_code
def yX9_isTrade : MethodName := ⟨RX9, "isTrade", "(I)Z"⟩
abbrev cX9_trades : ByteArray := prog_11_method_43_code
def yX9_trades : MethodName := ⟨RX9, "trades", "(IIIIII)I"⟩
abbrev cX9_trade : ByteArray := prog_11_method_44_code
def yX9_trade : MethodName := ⟨RX9, "trade", "(IIIII)I"⟩
abbrev cX9_apart : ByteArray := prog_11_method_45_code
def yX9_apart : MethodName := ⟨RX9, "apart", "(IIIII)I"⟩
abbrev cX9_writes : ByteArray := prog_11_method_46_code
def yX9_writes : MethodName := ⟨RX9, "writes", "(IIIII)V"⟩
abbrev cX9_isRipe : ByteArray := prog_11_method_47_code
def yX9_isRipe : MethodName := ⟨RX9, "isRipe", "(III)Z"⟩
abbrev cX9_noticeAt : ByteArray := prog_11_method_48_code
def yX9_noticeAt : MethodName := ⟨RX9, "noticeAt", "(I)I"⟩
abbrev cX9_noticeOf : ByteArray := prog_11_method_49_code
def yX9_noticeOf : MethodName := ⟨RX9, "noticeOf", "(II)I"⟩
abbrev cX9_isOpenNet : ByteArray := prog_11_method_50_code
def yX9_isOpenNet : MethodName := ⟨RX9, "isOpenNet", "(II)Z"⟩
abbrev cX9_isNoticed : ByteArray := prog_11_method_51_code
def yX9_isNoticed : MethodName := ⟨RX9, "isNoticed", "(II)Z"⟩
abbrev cX9_assignedTo : ByteArray := prog_11_method_52_code
def yX9_assignedTo : MethodName := ⟨RX9, "assignedTo", "(II)I"⟩
abbrev cX9_takesAssigned : ByteArray := prog_11_method_53_code
def yX9_takesAssigned : MethodName := ⟨RX9, "takesAssigned", "(III)V"⟩
abbrev cX9_newNotice : ByteArray := prog_11_method_54_code
def yX9_newNotice : MethodName := ⟨RX9, "newNotice", "(IIII)I"⟩
abbrev cX9_nextShort : ByteArray := prog_11_method_55_code
def yX9_nextShort : MethodName := ⟨RX9, "nextShort", "(III)I"⟩
abbrev cX9_oldLong : ByteArray := prog_11_method_56_code
def yX9_oldLong : MethodName := ⟨RX9, "oldLong", "(II)I"⟩
abbrev cX9_give : ByteArray := prog_11_method_57_code
def yX9_give : MethodName := ⟨RX9, "give", "(III)I"⟩
abbrev cX9_hasNotice : ByteArray := prog_11_method_58_code
def yX9_hasNotice : MethodName := ⟨RX9, "hasNotice", "(I)Z"⟩
abbrev cX9_isOpenApart : ByteArray := prog_11_method_59_code
def yX9_isOpenApart : MethodName := ⟨RX9, "isOpenApart", "(I)Z"⟩
abbrev cX9_call : ByteArray := prog_11_method_60_code
def yX9_call : MethodName := ⟨RX9, "call", "(I)I"⟩
abbrev cX9_buyPrice : ByteArray := prog_11_method_61_code
def yX9_buyPrice : MethodName := ⟨RX9, "buyPrice", "(I)I"⟩
abbrev cX9_closesFrom : ByteArray := prog_11_method_62_code
def yX9_closesFrom : MethodName := ⟨RX9, "closesFrom", "(II)V"⟩
abbrev cX9_nextOfChain : ByteArray := prog_11_method_63_code
def yX9_nextOfChain : MethodName := ⟨RX9, "nextOfChain", "(IIII)I"⟩
abbrev cX9_laysChain : ByteArray := prog_11_method_64_code
def yX9_laysChain : MethodName := ⟨RX9, "laysChain", "(II)V"⟩
abbrev cX9_closesApart : ByteArray := prog_11_method_65_code
def yX9_closesApart : MethodName := ⟨RX9, "closesApart", "(I)V"⟩
abbrev cX9_closes : ByteArray := prog_11_method_66_code
def yX9_closes : MethodName := ⟨RX9, "closes", "(I)V"⟩
abbrev cX9_reached : ByteArray := prog_11_method_67_code
def yX9_reached : MethodName := ⟨RX9, "reached", "(II)I"⟩
abbrev cX9_goesAhead : ByteArray := prog_11_method_68_code
def yX9_goesAhead : MethodName := ⟨RX9, "goesAhead", "(IIIII)Z"⟩
abbrev cX9_laysQueue : ByteArray := prog_11_method_69_code
def yX9_laysQueue : MethodName := ⟨RX9, "laysQueue", "(II)V"⟩
abbrev cX9_firstServed : ByteArray := prog_11_method_70_code
def yX9_firstServed : MethodName := ⟨RX9, "firstServed", "(I)I"⟩
abbrev cX9_nets : ByteArray := prog_11_method_71_code
def yX9_nets : MethodName := ⟨RX9, "nets", "(I)V"⟩
abbrev cX9_deliversOf : ByteArray := prog_11_method_72_code
def yX9_deliversOf : MethodName := ⟨RX9, "deliversOf", "(II)V"⟩
abbrev cX9_delivers : ByteArray := prog_11_method_73_code
def yX9_delivers : MethodName := ⟨RX9, "delivers", "(I)V"⟩
abbrev cX9_allots : ByteArray := prog_11_method_74_code
def yX9_allots : MethodName := ⟨RX9, "allots", "(I)V"⟩
abbrev cX9_canLend : ByteArray := prog_11_method_75_code
def yX9_canLend : MethodName := ⟨RX9, "canLend", "(II)I"⟩
abbrev cX9_lenderFor : ByteArray := prog_11_method_76_code
def yX9_lenderFor : MethodName := ⟨RX9, "lenderFor", "(II)I"⟩
abbrev cX9_lotOfDay : ByteArray := prog_11_method_77_code
def yX9_lotOfDay : MethodName := ⟨RX9, "lotOfDay", "(III)I"⟩
abbrev cX9_lendsTo : ByteArray := prog_11_method_78_code
def yX9_lendsTo : MethodName := ⟨RX9, "lendsTo", "(III)V"⟩
abbrev cX9_lends : ByteArray := prog_11_method_79_code
def yX9_lends : MethodName := ⟨RX9, "lends", "(I)V"⟩
abbrev cX9_doesApart : ByteArray := prog_11_method_80_code
def yX9_doesApart : MethodName := ⟨RX9, "doesApart", "(I)V"⟩
abbrev cX9_fails : ByteArray := prog_11_method_81_code
def yX9_fails : MethodName := ⟨RX9, "fails", "(II)V"⟩
abbrev cX9_marks : ByteArray := prog_11_method_82_code
def yX9_marks : MethodName := ⟨RX9, "marks", "(I)V"⟩
abbrev cX9_goesNight : ByteArray := prog_11_method_83_code
def yX9_goesNight : MethodName := ⟨RX9, "goesNight", "()V"⟩
abbrev cX9_night : ByteArray := prog_11_method_84_code
def yX9_night : MethodName := ⟨RX9, "night", "(I)I"⟩
abbrev cX9_isFinished : ByteArray := prog_11_method_85_code
def yX9_isFinished : MethodName := ⟨RX9, "isFinished", "(I)Z"⟩
abbrev cX9_canGrow : ByteArray := prog_11_method_86_code
def yX9_canGrow : MethodName := ⟨RX9, "canGrow", "(II)Z"⟩
abbrev cX9_canSplit : ByteArray := prog_11_method_87_code
def yX9_canSplit : MethodName := ⟨RX9, "canSplit", "(II)Z"⟩
abbrev cX9_split : ByteArray := prog_11_method_88_code
def yX9_split : MethodName := ⟨RX9, "split", "(II)Z"⟩
abbrev cX9_demandOf : ByteArray := prog_11_method_89_code
def yX9_demandOf : MethodName := ⟨RX9, "demandOf", "(I)J"⟩
abbrev cX9_lacksOf : ByteArray := prog_11_method_90_code
def yX9_lacksOf : MethodName := ⟨RX9, "lacksOf", "(I)J"⟩
abbrev cX9_margin : ByteArray := prog_11_method_91_code
def yX9_margin : MethodName := ⟨RX9, "margin", "(II)J"⟩
abbrev cX9_stress : ByteArray := prog_11_method_92_code
def yX9_stress : MethodName := ⟨RX9, "stress", "(I)I"⟩
abbrev cX9_atOf : ByteArray := prog_11_method_93_code
def yX9_atOf : MethodName := ⟨RX9, "atOf", "(III)I"⟩
abbrev cX9_at : ByteArray := prog_11_method_94_code
def yX9_at : MethodName := ⟨RX9, "at", "(III)I"⟩
abbrev cX9_tomorrow : ByteArray := prog_11_method_95_code
def yX9_tomorrow : MethodName := ⟨RX9, "tomorrow", "(III)I"⟩
abbrev cX9_lot : ByteArray := prog_11_method_96_code
def yX9_lot : MethodName := ⟨RX9, "lot", "(IIII)I"⟩
abbrev cX9_cash : ByteArray := prog_11_method_97_code
def yX9_cash : MethodName := ⟨RX9, "cash", "(I)J"⟩
abbrev cX9_deal : ByteArray := prog_11_method_98_code
def yX9_deal : MethodName := ⟨RX9, "deal", "(II)I"⟩
abbrev cX9_notice : ByteArray := prog_11_method_99_code
def yX9_notice : MethodName := ⟨RX9, "notice", "(II)I"⟩
abbrev cX9_sumOf : ByteArray := prog_11_method_100_code
def yX9_sumOf : MethodName := ⟨RX9, "sumOf", "(II)I"⟩
abbrev cX9_eldest : ByteArray := prog_11_method_101_code
def yX9_eldest : MethodName := ⟨RX9, "eldest", "(I)I"⟩
abbrev cX9_openOf : ByteArray := prog_11_method_102_code
def yX9_openOf : MethodName := ⟨RX9, "openOf", "(II)I"⟩
abbrev cX9_tradedOf : ByteArray := prog_11_method_103_code
def yX9_tradedOf : MethodName := ⟨RX9, "tradedOf", "(IZ)I"⟩
abbrev cX9_issue : ByteArray := prog_11_method_104_code
def yX9_issue : MethodName := ⟨RX9, "issue", "(II)I"⟩
abbrev cX9_book : ByteArray := prog_11_method_105_code
def yX9_book : MethodName := ⟨RX9, "book", "(II)I"⟩
abbrev cX9_statement : ByteArray := prog_11_method_106_code
def yX9_statement : MethodName := ⟨RX9, "statement", "(IIZ)I"⟩
abbrev cX9_queue : ByteArray := prog_11_method_107_code
def yX9_queue : MethodName := ⟨RX9, "queue", "(III)I"⟩
abbrev cX9_ahead : ByteArray := prog_11_method_108_code
def yX9_ahead : MethodName := ⟨RX9, "ahead", "(II)I"⟩
abbrev cX9_aged : ByteArray := prog_11_method_109_code
def yX9_aged : MethodName := ⟨RX9, "aged", "(II)I"⟩
abbrev cX9_types : ByteArray := prog_11_method_110_code
def yX9_types : MethodName := ⟨RX9, "types", "(I)V"⟩
abbrev cX9_feed : ByteArray := prog_11_method_111_code
def yX9_feed : MethodName := ⟨RX9, "feed", "(IIIII)I"⟩
abbrev cX9_end : ByteArray := prog_11_method_112_code
def yX9_end : MethodName := ⟨RX9, "end", "(I)Z"⟩
abbrev cX9_raw : ByteArray := prog_11_method_113_code
def yX9_raw : MethodName := ⟨RX9, "raw", "(I)I"⟩
abbrev cX9_isLetter : ByteArray := prog_11_method_114_code
def yX9_isLetter : MethodName := ⟨RX9, "isLetter", "(I)Z"⟩
abbrev cX9_isDigit : ByteArray := prog_11_method_115_code
def yX9_isDigit : MethodName := ⟨RX9, "isDigit", "(I)Z"⟩
abbrev cX9_wordAt : ByteArray := prog_11_method_116_code
def yX9_wordAt : MethodName := ⟨RX9, "wordAt", "(II)I"⟩
abbrev cX9_reads : ByteArray := prog_11_method_117_code
def yX9_reads : MethodName := ⟨RX9, "reads", "()V"⟩
abbrev cX9_errs : ByteArray := prog_11_method_118_code
def yX9_errs : MethodName := ⟨RX9, "errs", "(I)I"⟩
abbrev cX9_readNumber : ByteArray := prog_11_method_119_code
def yX9_readNumber : MethodName := ⟨RX9, "readNumber", "(II)I"⟩
abbrev cX9_manyOf : ByteArray := prog_11_method_120_code
def yX9_manyOf : MethodName := ⟨RX9, "manyOf", "(I)I"⟩
abbrev cX9_lowOf : ByteArray := prog_11_method_121_code
def yX9_lowOf : MethodName := ⟨RX9, "lowOf", "(II)I"⟩
abbrev cX9_highOf : ByteArray := prog_11_method_122_code
def yX9_highOf : MethodName := ⟨RX9, "highOf", "(II)I"⟩
abbrev cX9_readLine : ByteArray := prog_11_method_123_code
def yX9_readLine : MethodName := ⟨RX9, "readLine", "(I)I"⟩
abbrev cX9_readPlan : ByteArray := prog_11_method_124_code
def yX9_readPlan : MethodName := ⟨RX9, "readPlan", "()I"⟩
abbrev cX9_plan : ByteArray := prog_11_method_125_code
def yX9_plan : MethodName := ⟨RX9, "plan", "()I"⟩
abbrev cX9_fault : ByteArray := prog_11_method_126_code
def yX9_fault : MethodName := ⟨RX9, "fault", "(I)I"⟩
abbrev cX9_runsLine : ByteArray := prog_11_method_127_code
def yX9_runsLine : MethodName := ⟨RX9, "runsLine", "(I)Z"⟩
abbrev cX9_run : ByteArray := prog_11_method_128_code
def yX9_run : MethodName := ⟨RX9, "run", "(I)I"⟩
abbrev cX9_allCash : ByteArray := prog_11_method_129_code
def yX9_allCash : MethodName := ⟨RX9, "allCash", "()I"⟩
abbrev cX9_openNotices : ByteArray := prog_11_method_130_code
def yX9_openNotices : MethodName := ⟨RX9, "openNotices", "()I"⟩
abbrev cX9_shortSet : ByteArray := prog_11_method_131_code
def yX9_shortSet : MethodName := ⟨RX9, "shortSet", "()I"⟩
abbrev cX9_lackMany : ByteArray := prog_11_method_132_code
def yX9_lackMany : MethodName := ⟨RX9, "lackMany", "()I"⟩
abbrev cX9_look : ByteArray := prog_11_method_133_code
def yX9_look : MethodName := ⟨RX9, "look", "(I)I"⟩
abbrev cX9_image : ByteArray := prog_11_method_134_code
def yX9_image : MethodName := ⟨RX9, "image", "(Z)Z"⟩
