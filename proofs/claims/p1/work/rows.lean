section
-- ===== PART A: goes FIRST, ahead of the names: the tables' words, and 'selects' of the private methods out of them =====
/-- a private method of a class that the tables say can be made, by its rows of tables_1 -/
def lw_okq (q : MethodName × Nat) : Prop := (q.1.cls ≠ "java/lang/invoke/MethodHandle" ∧ q.1.cls ≠ "java/lang/invoke/VarHandle") ∧ Cond.instantiable q.1.cls q.2 ∈ tables_1 ∧ Cond.privateMethod q.1 ∈ tables_1 ∧ Cond.instanceMethod q.1 ∈ tables_1
theorem lw_p0 : lw_okq (⟨"RollingNets", "tellRank", "(II)Z"⟩, 5) := ⟨⟨by decide +kernel, by decide +kernel⟩, List.mem_of_getElem? (i := 18) (by decide +kernel), List.mem_of_getElem? (i := 326) (by decide +kernel), List.mem_of_getElem? (i := 327) (by decide +kernel)⟩
theorem lw_p1 : lw_okq (⟨"RollingNets$Market", "greatest", "(I)J"⟩, 11) := ⟨⟨by decide +kernel, by decide +kernel⟩, List.mem_of_getElem? (i := 87) (by decide +kernel), List.mem_of_getElem? (i := 406) (by decide +kernel), List.mem_of_getElem? (i := 407) (by decide +kernel)⟩
theorem lw_p2 : lw_okq (⟨"RollingNets$Market", "multiplyMember", "(II)V"⟩, 11) := ⟨⟨by decide +kernel, by decide +kernel⟩, List.mem_of_getElem? (i := 87) (by decide +kernel), List.mem_of_getElem? (i := 417) (by decide +kernel), List.mem_of_getElem? (i := 418) (by decide +kernel)⟩
theorem lw_p3 : lw_okq (⟨"RollingNets$Line", "sortByRank", "(LRollingNets$House;)V"⟩, 4) := ⟨⟨by decide +kernel, by decide +kernel⟩, List.mem_of_getElem? (i := 57) (by decide +kernel), List.mem_of_getElem? (i := 511) (by decide +kernel), List.mem_of_getElem? (i := 512) (by decide +kernel)⟩
theorem lw_p4 : lw_okq (⟨"RollingNets$Line", "addGroup", "(LRollingNets$Market;I)V"⟩, 4) := ⟨⟨by decide +kernel, by decide +kernel⟩, List.mem_of_getElem? (i := 57) (by decide +kernel), List.mem_of_getElem? (i := 523) (by decide +kernel), List.mem_of_getElem? (i := 524) (by decide +kernel)⟩
theorem lw_p5 : lw_okq (⟨"RollingNets$Reader", "skipBlanks", "()V"⟩, 6) := ⟨⟨by decide +kernel, by decide +kernel⟩, List.mem_of_getElem? (i := 255) (by decide +kernel), List.mem_of_getElem? (i := 651) (by decide +kernel), List.mem_of_getElem? (i := 652) (by decide +kernel)⟩
theorem lw_p6 : lw_okq (⟨"RollingNets$Reader", "here", "(I)I"⟩, 6) := ⟨⟨by decide +kernel, by decide +kernel⟩, List.mem_of_getElem? (i := 255) (by decide +kernel), List.mem_of_getElem? (i := 655) (by decide +kernel), List.mem_of_getElem? (i := 656) (by decide +kernel)⟩
theorem lw_p7 : lw_okq (⟨"RollingNets$Reader", "readLine", "()V"⟩, 6) := ⟨⟨by decide +kernel, by decide +kernel⟩, List.mem_of_getElem? (i := 255) (by decide +kernel), List.mem_of_getElem? (i := 659) (by decide +kernel), List.mem_of_getElem? (i := 660) (by decide +kernel)⟩
theorem lw_p8 : lw_okq (⟨"RollingNets$Reader", "wordHere", "()I"⟩, 6) := ⟨⟨by decide +kernel, by decide +kernel⟩, List.mem_of_getElem? (i := 255) (by decide +kernel), List.mem_of_getElem? (i := 663) (by decide +kernel), List.mem_of_getElem? (i := 664) (by decide +kernel)⟩
theorem lw_p9 : lw_okq (⟨"RollingNets$Reader", "isHere", "(Ljava/lang/String;)Z"⟩, 6) := ⟨⟨by decide +kernel, by decide +kernel⟩, List.mem_of_getElem? (i := 255) (by decide +kernel), List.mem_of_getElem? (i := 680) (by decide +kernel), List.mem_of_getElem? (i := 681) (by decide +kernel)⟩
theorem lw_p10 : lw_okq (⟨"RollingNets$Reader", "failHere", "(I)V"⟩, 6) := ⟨⟨by decide +kernel, by decide +kernel⟩, List.mem_of_getElem? (i := 255) (by decide +kernel), List.mem_of_getElem? (i := 736) (by decide +kernel), List.mem_of_getElem? (i := 737) (by decide +kernel)⟩
theorem lw_p11 : lw_okq (⟨"RollingNets$Reader", "readNumber", "(IIC)V"⟩, 6) := ⟨⟨by decide +kernel, by decide +kernel⟩, List.mem_of_getElem? (i := 255) (by decide +kernel), List.mem_of_getElem? (i := 752) (by decide +kernel), List.mem_of_getElem? (i := 753) (by decide +kernel)⟩
theorem lw_p12 : lw_okq (⟨"RollingNets", "perform", "(I)Z"⟩, 5) := ⟨⟨by decide +kernel, by decide +kernel⟩, List.mem_of_getElem? (i := 18) (by decide +kernel), List.mem_of_getElem? (i := 778) (by decide +kernel), List.mem_of_getElem? (i := 779) (by decide +kernel)⟩
theorem lw_p13 : lw_okq (⟨"RollingNetsModel", "canSet", "(II)Z"⟩, 32) := ⟨⟨by decide +kernel, by decide +kernel⟩, List.mem_of_getElem? (i := 946) (by decide +kernel), List.mem_of_getElem? (i := 1053) (by decide +kernel), List.mem_of_getElem? (i := 1054) (by decide +kernel)⟩
theorem lw_p14 : lw_okq (⟨"RollingNetsModel", "isIn", "(III)Z"⟩, 32) := ⟨⟨by decide +kernel, by decide +kernel⟩, List.mem_of_getElem? (i := 946) (by decide +kernel), List.mem_of_getElem? (i := 1057) (by decide +kernel), List.mem_of_getElem? (i := 1058) (by decide +kernel)⟩
theorem lw_p15 : lw_okq (⟨"RollingNetsModel", "firstOf", "(I)I"⟩, 32) := ⟨⟨by decide +kernel, by decide +kernel⟩, List.mem_of_getElem? (i := 946) (by decide +kernel), List.mem_of_getElem? (i := 1061) (by decide +kernel), List.mem_of_getElem? (i := 1062) (by decide +kernel)⟩
def lw_privs_1 : List (MethodName × Nat) := [(⟨"RollingNets", "tellRank", "(II)Z"⟩, 5), (⟨"RollingNets$Market", "greatest", "(I)J"⟩, 11), (⟨"RollingNets$Market", "multiplyMember", "(II)V"⟩, 11), (⟨"RollingNets$Line", "sortByRank", "(LRollingNets$House;)V"⟩, 4), (⟨"RollingNets$Line", "addGroup", "(LRollingNets$Market;I)V"⟩, 4), (⟨"RollingNets$Reader", "skipBlanks", "()V"⟩, 6), (⟨"RollingNets$Reader", "here", "(I)I"⟩, 6), (⟨"RollingNets$Reader", "readLine", "()V"⟩, 6), (⟨"RollingNets$Reader", "wordHere", "()I"⟩, 6), (⟨"RollingNets$Reader", "isHere", "(Ljava/lang/String;)Z"⟩, 6), (⟨"RollingNets$Reader", "failHere", "(I)V"⟩, 6), (⟨"RollingNets$Reader", "readNumber", "(IIC)V"⟩, 6), (⟨"RollingNets", "perform", "(I)Z"⟩, 5), (⟨"RollingNetsModel", "canSet", "(II)Z"⟩, 32), (⟨"RollingNetsModel", "isIn", "(III)Z"⟩, 32), (⟨"RollingNetsModel", "firstOf", "(I)I"⟩, 32)]
theorem lw_r1 : ∀ q ∈ lw_privs_1, lw_okq q := List.forall_mem_cons.mpr ⟨lw_p0, List.forall_mem_cons.mpr ⟨lw_p1, List.forall_mem_cons.mpr ⟨lw_p2, List.forall_mem_cons.mpr ⟨lw_p3, List.forall_mem_cons.mpr ⟨lw_p4, List.forall_mem_cons.mpr ⟨lw_p5, List.forall_mem_cons.mpr ⟨lw_p6, List.forall_mem_cons.mpr ⟨lw_p7, List.forall_mem_cons.mpr ⟨lw_p8, List.forall_mem_cons.mpr ⟨lw_p9, List.forall_mem_cons.mpr ⟨lw_p10, List.forall_mem_cons.mpr ⟨lw_p11, List.forall_mem_cons.mpr ⟨lw_p12, List.forall_mem_cons.mpr ⟨lw_p13, List.forall_mem_cons.mpr ⟨lw_p14, List.forall_mem_cons.mpr ⟨lw_p15, fun _ h => absurd h List.not_mem_nil⟩⟩⟩⟩⟩⟩⟩⟩⟩⟩⟩⟩⟩⟩⟩⟩
theorem lw_p16 : lw_okq (⟨"RollingNetsModel", "isMember", "(I)Z"⟩, 32) := ⟨⟨by decide +kernel, by decide +kernel⟩, List.mem_of_getElem? (i := 946) (by decide +kernel), List.mem_of_getElem? (i := 1069) (by decide +kernel), List.mem_of_getElem? (i := 1070) (by decide +kernel)⟩
theorem lw_p17 : lw_okq (⟨"RollingNetsModel", "memberMany", "()I"⟩, 32) := ⟨⟨by decide +kernel, by decide +kernel⟩, List.mem_of_getElem? (i := 946) (by decide +kernel), List.mem_of_getElem? (i := 1073) (by decide +kernel), List.mem_of_getElem? (i := 1074) (by decide +kernel)⟩
theorem lw_p18 : lw_okq (⟨"RollingNetsModel", "isIssue", "(I)Z"⟩, 32) := ⟨⟨by decide +kernel, by decide +kernel⟩, List.mem_of_getElem? (i := 946) (by decide +kernel), List.mem_of_getElem? (i := 1077) (by decide +kernel), List.mem_of_getElem? (i := 1078) (by decide +kernel)⟩
theorem lw_p19 : lw_okq (⟨"RollingNetsModel", "cellOf", "(II)I"⟩, 32) := ⟨⟨by decide +kernel, by decide +kernel⟩, List.mem_of_getElem? (i := 946) (by decide +kernel), List.mem_of_getElem? (i := 1082) (by decide +kernel), List.mem_of_getElem? (i := 1083) (by decide +kernel)⟩
theorem lw_p20 : lw_okq (⟨"RollingNetsModel", "freeOf", "(II)I"⟩, 32) := ⟨⟨by decide +kernel, by decide +kernel⟩, List.mem_of_getElem? (i := 946) (by decide +kernel), List.mem_of_getElem? (i := 1098) (by decide +kernel), List.mem_of_getElem? (i := 1099) (by decide +kernel)⟩
theorem lw_p21 : lw_okq (⟨"RollingNetsModel", "has", "(II)Z"⟩, 32) := ⟨⟨by decide +kernel, by decide +kernel⟩, List.mem_of_getElem? (i := 946) (by decide +kernel), List.mem_of_getElem? (i := 1102) (by decide +kernel), List.mem_of_getElem? (i := 1103) (by decide +kernel)⟩
theorem lw_p22 : lw_okq (⟨"RollingNetsModel", "stockOf", "(II)I"⟩, 32) := ⟨⟨by decide +kernel, by decide +kernel⟩, List.mem_of_getElem? (i := 946) (by decide +kernel), List.mem_of_getElem? (i := 1106) (by decide +kernel), List.mem_of_getElem? (i := 1107) (by decide +kernel)⟩
theorem lw_p23 : lw_okq (⟨"RollingNetsModel", "greater", "(II)I"⟩, 32) := ⟨⟨by decide +kernel, by decide +kernel⟩, List.mem_of_getElem? (i := 946) (by decide +kernel), List.mem_of_getElem? (i := 1110) (by decide +kernel), List.mem_of_getElem? (i := 1111) (by decide +kernel)⟩
theorem lw_p24 : lw_okq (⟨"RollingNetsModel", "stockMore", "(III)V"⟩, 32) := ⟨⟨by decide +kernel, by decide +kernel⟩, List.mem_of_getElem? (i := 946) (by decide +kernel), List.mem_of_getElem? (i := 1114) (by decide +kernel), List.mem_of_getElem? (i := 1115) (by decide +kernel)⟩
theorem lw_p25 : lw_okq (⟨"RollingNetsModel", "trades", "(IIIIII)I"⟩, 32) := ⟨⟨by decide +kernel, by decide +kernel⟩, List.mem_of_getElem? (i := 946) (by decide +kernel), List.mem_of_getElem? (i := 1131) (by decide +kernel), List.mem_of_getElem? (i := 1132) (by decide +kernel)⟩
theorem lw_p26 : lw_okq (⟨"RollingNetsModel", "tradeAt", "(I)I"⟩, 32) := ⟨⟨by decide +kernel, by decide +kernel⟩, List.mem_of_getElem? (i := 946) (by decide +kernel), List.mem_of_getElem? (i := 1135) (by decide +kernel), List.mem_of_getElem? (i := 1136) (by decide +kernel)⟩
theorem lw_p27 : lw_okq (⟨"RollingNetsModel", "settingOf", "(I)I"⟩, 32) := ⟨⟨by decide +kernel, by decide +kernel⟩, List.mem_of_getElem? (i := 946) (by decide +kernel), List.mem_of_getElem? (i := 1139) (by decide +kernel), List.mem_of_getElem? (i := 1140) (by decide +kernel)⟩
theorem lw_p28 : lw_okq (⟨"RollingNetsModel", "oldLong", "(II)I"⟩, 32) := ⟨⟨by decide +kernel, by decide +kernel⟩, List.mem_of_getElem? (i := 946) (by decide +kernel), List.mem_of_getElem? (i := 1151) (by decide +kernel), List.mem_of_getElem? (i := 1152) (by decide +kernel)⟩
theorem lw_p29 : lw_okq (⟨"RollingNetsModel", "lotMany", "(II)I"⟩, 32) := ⟨⟨by decide +kernel, by decide +kernel⟩, List.mem_of_getElem? (i := 946) (by decide +kernel), List.mem_of_getElem? (i := 1155) (by decide +kernel), List.mem_of_getElem? (i := 1156) (by decide +kernel)⟩
theorem lw_p30 : lw_okq (⟨"RollingNetsModel", "isLong", "(II)Z"⟩, 32) := ⟨⟨by decide +kernel, by decide +kernel⟩, List.mem_of_getElem? (i := 946) (by decide +kernel), List.mem_of_getElem? (i := 1159) (by decide +kernel), List.mem_of_getElem? (i := 1160) (by decide +kernel)⟩
theorem lw_p31 : lw_okq (⟨"RollingNetsModel", "sharesOf", "(III)I"⟩, 32) := ⟨⟨by decide +kernel, by decide +kernel⟩, List.mem_of_getElem? (i := 946) (by decide +kernel), List.mem_of_getElem? (i := 1163) (by decide +kernel), List.mem_of_getElem? (i := 1164) (by decide +kernel)⟩
def lw_privs_2 : List (MethodName × Nat) := [(⟨"RollingNetsModel", "isMember", "(I)Z"⟩, 32), (⟨"RollingNetsModel", "memberMany", "()I"⟩, 32), (⟨"RollingNetsModel", "isIssue", "(I)Z"⟩, 32), (⟨"RollingNetsModel", "cellOf", "(II)I"⟩, 32), (⟨"RollingNetsModel", "freeOf", "(II)I"⟩, 32), (⟨"RollingNetsModel", "has", "(II)Z"⟩, 32), (⟨"RollingNetsModel", "stockOf", "(II)I"⟩, 32), (⟨"RollingNetsModel", "greater", "(II)I"⟩, 32), (⟨"RollingNetsModel", "stockMore", "(III)V"⟩, 32), (⟨"RollingNetsModel", "trades", "(IIIIII)I"⟩, 32), (⟨"RollingNetsModel", "tradeAt", "(I)I"⟩, 32), (⟨"RollingNetsModel", "settingOf", "(I)I"⟩, 32), (⟨"RollingNetsModel", "oldLong", "(II)I"⟩, 32), (⟨"RollingNetsModel", "lotMany", "(II)I"⟩, 32), (⟨"RollingNetsModel", "isLong", "(II)Z"⟩, 32), (⟨"RollingNetsModel", "sharesOf", "(III)I"⟩, 32)]
theorem lw_r2 : ∀ q ∈ lw_privs_2, lw_okq q := List.forall_mem_cons.mpr ⟨lw_p16, List.forall_mem_cons.mpr ⟨lw_p17, List.forall_mem_cons.mpr ⟨lw_p18, List.forall_mem_cons.mpr ⟨lw_p19, List.forall_mem_cons.mpr ⟨lw_p20, List.forall_mem_cons.mpr ⟨lw_p21, List.forall_mem_cons.mpr ⟨lw_p22, List.forall_mem_cons.mpr ⟨lw_p23, List.forall_mem_cons.mpr ⟨lw_p24, List.forall_mem_cons.mpr ⟨lw_p25, List.forall_mem_cons.mpr ⟨lw_p26, List.forall_mem_cons.mpr ⟨lw_p27, List.forall_mem_cons.mpr ⟨lw_p28, List.forall_mem_cons.mpr ⟨lw_p29, List.forall_mem_cons.mpr ⟨lw_p30, List.forall_mem_cons.mpr ⟨lw_p31, fun _ h => absurd h List.not_mem_nil⟩⟩⟩⟩⟩⟩⟩⟩⟩⟩⟩⟩⟩⟩⟩⟩
theorem lw_p32 : lw_okq (⟨"RollingNetsModel", "lotAt", "(III)I"⟩, 32) := ⟨⟨by decide +kernel, by decide +kernel⟩, List.mem_of_getElem? (i := 946) (by decide +kernel), List.mem_of_getElem? (i := 1167) (by decide +kernel), List.mem_of_getElem? (i := 1168) (by decide +kernel)⟩
theorem lw_p33 : lw_okq (⟨"RollingNetsModel", "dayOf", "(III)I"⟩, 32) := ⟨⟨by decide +kernel, by decide +kernel⟩, List.mem_of_getElem? (i := 946) (by decide +kernel), List.mem_of_getElem? (i := 1171) (by decide +kernel), List.mem_of_getElem? (i := 1172) (by decide +kernel)⟩
theorem lw_p34 : lw_okq (⟨"RollingNetsModel", "isNoticed", "(II)Z"⟩, 32) := ⟨⟨by decide +kernel, by decide +kernel⟩, List.mem_of_getElem? (i := 946) (by decide +kernel), List.mem_of_getElem? (i := 1175) (by decide +kernel), List.mem_of_getElem? (i := 1176) (by decide +kernel)⟩
theorem lw_p35 : lw_okq (⟨"RollingNetsModel", "isOpenNet", "(II)Z"⟩, 32) := ⟨⟨by decide +kernel, by decide +kernel⟩, List.mem_of_getElem? (i := 946) (by decide +kernel), List.mem_of_getElem? (i := 1179) (by decide +kernel), List.mem_of_getElem? (i := 1180) (by decide +kernel)⟩
theorem lw_p36 : lw_okq (⟨"RollingNetsModel", "noticeOf", "(II)I"⟩, 32) := ⟨⟨by decide +kernel, by decide +kernel⟩, List.mem_of_getElem? (i := 946) (by decide +kernel), List.mem_of_getElem? (i := 1183) (by decide +kernel), List.mem_of_getElem? (i := 1184) (by decide +kernel)⟩
theorem lw_p37 : lw_okq (⟨"RollingNetsModel", "noticeAt", "(I)I"⟩, 32) := ⟨⟨by decide +kernel, by decide +kernel⟩, List.mem_of_getElem? (i := 946) (by decide +kernel), List.mem_of_getElem? (i := 1187) (by decide +kernel), List.mem_of_getElem? (i := 1188) (by decide +kernel)⟩
theorem lw_p38 : lw_okq (⟨"RollingNetsModel", "newNotice", "(IIII)I"⟩, 32) := ⟨⟨by decide +kernel, by decide +kernel⟩, List.mem_of_getElem? (i := 946) (by decide +kernel), List.mem_of_getElem? (i := 1191) (by decide +kernel), List.mem_of_getElem? (i := 1192) (by decide +kernel)⟩
theorem lw_p39 : lw_okq (⟨"RollingNetsModel", "nextShort", "(III)I"⟩, 32) := ⟨⟨by decide +kernel, by decide +kernel⟩, List.mem_of_getElem? (i := 946) (by decide +kernel), List.mem_of_getElem? (i := 1195) (by decide +kernel), List.mem_of_getElem? (i := 1196) (by decide +kernel)⟩
theorem lw_p40 : lw_okq (⟨"RollingNetsModel", "isShort", "(II)Z"⟩, 32) := ⟨⟨by decide +kernel, by decide +kernel⟩, List.mem_of_getElem? (i := 946) (by decide +kernel), List.mem_of_getElem? (i := 1199) (by decide +kernel), List.mem_of_getElem? (i := 1200) (by decide +kernel)⟩
theorem lw_p41 : lw_okq (⟨"RollingNetsModel", "shortOf", "(II)I"⟩, 32) := ⟨⟨by decide +kernel, by decide +kernel⟩, List.mem_of_getElem? (i := 946) (by decide +kernel), List.mem_of_getElem? (i := 1203) (by decide +kernel), List.mem_of_getElem? (i := 1204) (by decide +kernel)⟩
theorem lw_p42 : lw_okq (⟨"RollingNetsModel", "positionOf", "(II)I"⟩, 32) := ⟨⟨by decide +kernel, by decide +kernel⟩, List.mem_of_getElem? (i := 946) (by decide +kernel), List.mem_of_getElem? (i := 1207) (by decide +kernel), List.mem_of_getElem? (i := 1208) (by decide +kernel)⟩
theorem lw_p43 : lw_okq (⟨"RollingNetsModel", "assignedTo", "(II)I"⟩, 32) := ⟨⟨by decide +kernel, by decide +kernel⟩, List.mem_of_getElem? (i := 946) (by decide +kernel), List.mem_of_getElem? (i := 1211) (by decide +kernel), List.mem_of_getElem? (i := 1212) (by decide +kernel)⟩
theorem lw_p44 : lw_okq (⟨"RollingNetsModel", "lesser", "(II)I"⟩, 32) := ⟨⟨by decide +kernel, by decide +kernel⟩, List.mem_of_getElem? (i := 946) (by decide +kernel), List.mem_of_getElem? (i := 1215) (by decide +kernel), List.mem_of_getElem? (i := 1216) (by decide +kernel)⟩
theorem lw_p45 : lw_okq (⟨"RollingNetsModel", "isOpenApart", "(I)Z"⟩, 32) := ⟨⟨by decide +kernel, by decide +kernel⟩, List.mem_of_getElem? (i := 946) (by decide +kernel), List.mem_of_getElem? (i := 1223) (by decide +kernel), List.mem_of_getElem? (i := 1224) (by decide +kernel)⟩
theorem lw_p46 : lw_okq (⟨"RollingNetsModel", "isTrade", "(I)Z"⟩, 32) := ⟨⟨by decide +kernel, by decide +kernel⟩, List.mem_of_getElem? (i := 946) (by decide +kernel), List.mem_of_getElem? (i := 1227) (by decide +kernel), List.mem_of_getElem? (i := 1228) (by decide +kernel)⟩
theorem lw_p47 : lw_okq (⟨"RollingNetsModel", "tradeOf", "(II)I"⟩, 32) := ⟨⟨by decide +kernel, by decide +kernel⟩, List.mem_of_getElem? (i := 946) (by decide +kernel), List.mem_of_getElem? (i := 1231) (by decide +kernel), List.mem_of_getElem? (i := 1232) (by decide +kernel)⟩
def lw_privs_3 : List (MethodName × Nat) := [(⟨"RollingNetsModel", "lotAt", "(III)I"⟩, 32), (⟨"RollingNetsModel", "dayOf", "(III)I"⟩, 32), (⟨"RollingNetsModel", "isNoticed", "(II)Z"⟩, 32), (⟨"RollingNetsModel", "isOpenNet", "(II)Z"⟩, 32), (⟨"RollingNetsModel", "noticeOf", "(II)I"⟩, 32), (⟨"RollingNetsModel", "noticeAt", "(I)I"⟩, 32), (⟨"RollingNetsModel", "newNotice", "(IIII)I"⟩, 32), (⟨"RollingNetsModel", "nextShort", "(III)I"⟩, 32), (⟨"RollingNetsModel", "isShort", "(II)Z"⟩, 32), (⟨"RollingNetsModel", "shortOf", "(II)I"⟩, 32), (⟨"RollingNetsModel", "positionOf", "(II)I"⟩, 32), (⟨"RollingNetsModel", "assignedTo", "(II)I"⟩, 32), (⟨"RollingNetsModel", "lesser", "(II)I"⟩, 32), (⟨"RollingNetsModel", "isOpenApart", "(I)Z"⟩, 32), (⟨"RollingNetsModel", "isTrade", "(I)Z"⟩, 32), (⟨"RollingNetsModel", "tradeOf", "(II)I"⟩, 32)]
theorem lw_r3 : ∀ q ∈ lw_privs_3, lw_okq q := List.forall_mem_cons.mpr ⟨lw_p32, List.forall_mem_cons.mpr ⟨lw_p33, List.forall_mem_cons.mpr ⟨lw_p34, List.forall_mem_cons.mpr ⟨lw_p35, List.forall_mem_cons.mpr ⟨lw_p36, List.forall_mem_cons.mpr ⟨lw_p37, List.forall_mem_cons.mpr ⟨lw_p38, List.forall_mem_cons.mpr ⟨lw_p39, List.forall_mem_cons.mpr ⟨lw_p40, List.forall_mem_cons.mpr ⟨lw_p41, List.forall_mem_cons.mpr ⟨lw_p42, List.forall_mem_cons.mpr ⟨lw_p43, List.forall_mem_cons.mpr ⟨lw_p44, List.forall_mem_cons.mpr ⟨lw_p45, List.forall_mem_cons.mpr ⟨lw_p46, List.forall_mem_cons.mpr ⟨lw_p47, fun _ h => absurd h List.not_mem_nil⟩⟩⟩⟩⟩⟩⟩⟩⟩⟩⟩⟩⟩⟩⟩⟩
theorem lw_p48 : lw_okq (⟨"RollingNetsModel", "hasNotice", "(I)Z"⟩, 32) := ⟨⟨by decide +kernel, by decide +kernel⟩, List.mem_of_getElem? (i := 946) (by decide +kernel), List.mem_of_getElem? (i := 1235) (by decide +kernel), List.mem_of_getElem? (i := 1236) (by decide +kernel)⟩
theorem lw_p49 : lw_okq (⟨"RollingNetsModel", "laysChain", "(II)V"⟩, 32) := ⟨⟨by decide +kernel, by decide +kernel⟩, List.mem_of_getElem? (i := 946) (by decide +kernel), List.mem_of_getElem? (i := 1243) (by decide +kernel), List.mem_of_getElem? (i := 1244) (by decide +kernel)⟩
theorem lw_p50 : lw_okq (⟨"RollingNetsModel", "nextOfChain", "(IIII)I"⟩, 32) := ⟨⟨by decide +kernel, by decide +kernel⟩, List.mem_of_getElem? (i := 946) (by decide +kernel), List.mem_of_getElem? (i := 1247) (by decide +kernel), List.mem_of_getElem? (i := 1248) (by decide +kernel)⟩
theorem lw_p51 : lw_okq (⟨"RollingNetsModel", "isRipe", "(III)Z"⟩, 32) := ⟨⟨by decide +kernel, by decide +kernel⟩, List.mem_of_getElem? (i := 946) (by decide +kernel), List.mem_of_getElem? (i := 1251) (by decide +kernel), List.mem_of_getElem? (i := 1252) (by decide +kernel)⟩
theorem lw_p52 : lw_okq (⟨"RollingNetsModel", "goesNight", "()V"⟩, 32) := ⟨⟨by decide +kernel, by decide +kernel⟩, List.mem_of_getElem? (i := 946) (by decide +kernel), List.mem_of_getElem? (i := 1259) (by decide +kernel), List.mem_of_getElem? (i := 1260) (by decide +kernel)⟩
theorem lw_p53 : lw_okq (⟨"RollingNetsModel", "nets", "(I)V"⟩, 32) := ⟨⟨by decide +kernel, by decide +kernel⟩, List.mem_of_getElem? (i := 946) (by decide +kernel), List.mem_of_getElem? (i := 1263) (by decide +kernel), List.mem_of_getElem? (i := 1264) (by decide +kernel)⟩
theorem lw_p54 : lw_okq (⟨"RollingNetsModel", "markedOf", "(I)I"⟩, 32) := ⟨⟨by decide +kernel, by decide +kernel⟩, List.mem_of_getElem? (i := 946) (by decide +kernel), List.mem_of_getElem? (i := 1267) (by decide +kernel), List.mem_of_getElem? (i := 1268) (by decide +kernel)⟩
theorem lw_p55 : lw_okq (⟨"RollingNetsModel", "cashMore", "(IJ)V"⟩, 32) := ⟨⟨by decide +kernel, by decide +kernel⟩, List.mem_of_getElem? (i := 946) (by decide +kernel), List.mem_of_getElem? (i := 1271) (by decide +kernel), List.mem_of_getElem? (i := 1272) (by decide +kernel)⟩
theorem lw_p56 : lw_okq (⟨"RollingNetsModel", "adds", "(IIII)V"⟩, 32) := ⟨⟨by decide +kernel, by decide +kernel⟩, List.mem_of_getElem? (i := 946) (by decide +kernel), List.mem_of_getElem? (i := 1275) (by decide +kernel), List.mem_of_getElem? (i := 1276) (by decide +kernel)⟩
theorem lw_p57 : lw_okq (⟨"RollingNetsModel", "takesOff", "(III)V"⟩, 32) := ⟨⟨by decide +kernel, by decide +kernel⟩, List.mem_of_getElem? (i := 946) (by decide +kernel), List.mem_of_getElem? (i := 1279) (by decide +kernel), List.mem_of_getElem? (i := 1280) (by decide +kernel)⟩
theorem lw_p58 : lw_okq (⟨"RollingNetsModel", "takesOf", "(IIII)V"⟩, 32) := ⟨⟨by decide +kernel, by decide +kernel⟩, List.mem_of_getElem? (i := 946) (by decide +kernel), List.mem_of_getElem? (i := 1283) (by decide +kernel), List.mem_of_getElem? (i := 1284) (by decide +kernel)⟩
theorem lw_p59 : lw_okq (⟨"RollingNetsModel", "dropsLot", "(III)V"⟩, 32) := ⟨⟨by decide +kernel, by decide +kernel⟩, List.mem_of_getElem? (i := 946) (by decide +kernel), List.mem_of_getElem? (i := 1287) (by decide +kernel), List.mem_of_getElem? (i := 1288) (by decide +kernel)⟩
theorem lw_p60 : lw_okq (⟨"RollingNetsModel", "delivers", "(I)V"⟩, 32) := ⟨⟨by decide +kernel, by decide +kernel⟩, List.mem_of_getElem? (i := 946) (by decide +kernel), List.mem_of_getElem? (i := 1291) (by decide +kernel), List.mem_of_getElem? (i := 1292) (by decide +kernel)⟩
theorem lw_p61 : lw_okq (⟨"RollingNetsModel", "deliversOf", "(II)V"⟩, 32) := ⟨⟨by decide +kernel, by decide +kernel⟩, List.mem_of_getElem? (i := 946) (by decide +kernel), List.mem_of_getElem? (i := 1295) (by decide +kernel), List.mem_of_getElem? (i := 1296) (by decide +kernel)⟩
theorem lw_p62 : lw_okq (⟨"RollingNetsModel", "writes", "(IIIII)V"⟩, 32) := ⟨⟨by decide +kernel, by decide +kernel⟩, List.mem_of_getElem? (i := 946) (by decide +kernel), List.mem_of_getElem? (i := 1299) (by decide +kernel), List.mem_of_getElem? (i := 1300) (by decide +kernel)⟩
theorem lw_p63 : lw_okq (⟨"RollingNetsModel", "takesAssigned", "(III)V"⟩, 32) := ⟨⟨by decide +kernel, by decide +kernel⟩, List.mem_of_getElem? (i := 946) (by decide +kernel), List.mem_of_getElem? (i := 1303) (by decide +kernel), List.mem_of_getElem? (i := 1304) (by decide +kernel)⟩
def lw_privs_4 : List (MethodName × Nat) := [(⟨"RollingNetsModel", "hasNotice", "(I)Z"⟩, 32), (⟨"RollingNetsModel", "laysChain", "(II)V"⟩, 32), (⟨"RollingNetsModel", "nextOfChain", "(IIII)I"⟩, 32), (⟨"RollingNetsModel", "isRipe", "(III)Z"⟩, 32), (⟨"RollingNetsModel", "goesNight", "()V"⟩, 32), (⟨"RollingNetsModel", "nets", "(I)V"⟩, 32), (⟨"RollingNetsModel", "markedOf", "(I)I"⟩, 32), (⟨"RollingNetsModel", "cashMore", "(IJ)V"⟩, 32), (⟨"RollingNetsModel", "adds", "(IIII)V"⟩, 32), (⟨"RollingNetsModel", "takesOff", "(III)V"⟩, 32), (⟨"RollingNetsModel", "takesOf", "(IIII)V"⟩, 32), (⟨"RollingNetsModel", "dropsLot", "(III)V"⟩, 32), (⟨"RollingNetsModel", "delivers", "(I)V"⟩, 32), (⟨"RollingNetsModel", "deliversOf", "(II)V"⟩, 32), (⟨"RollingNetsModel", "writes", "(IIIII)V"⟩, 32), (⟨"RollingNetsModel", "takesAssigned", "(III)V"⟩, 32)]
theorem lw_r4 : ∀ q ∈ lw_privs_4, lw_okq q := List.forall_mem_cons.mpr ⟨lw_p48, List.forall_mem_cons.mpr ⟨lw_p49, List.forall_mem_cons.mpr ⟨lw_p50, List.forall_mem_cons.mpr ⟨lw_p51, List.forall_mem_cons.mpr ⟨lw_p52, List.forall_mem_cons.mpr ⟨lw_p53, List.forall_mem_cons.mpr ⟨lw_p54, List.forall_mem_cons.mpr ⟨lw_p55, List.forall_mem_cons.mpr ⟨lw_p56, List.forall_mem_cons.mpr ⟨lw_p57, List.forall_mem_cons.mpr ⟨lw_p58, List.forall_mem_cons.mpr ⟨lw_p59, List.forall_mem_cons.mpr ⟨lw_p60, List.forall_mem_cons.mpr ⟨lw_p61, List.forall_mem_cons.mpr ⟨lw_p62, List.forall_mem_cons.mpr ⟨lw_p63, fun _ h => absurd h List.not_mem_nil⟩⟩⟩⟩⟩⟩⟩⟩⟩⟩⟩⟩⟩⟩⟩⟩
theorem lw_p64 : lw_okq (⟨"RollingNetsModel", "allots", "(I)V"⟩, 32) := ⟨⟨by decide +kernel, by decide +kernel⟩, List.mem_of_getElem? (i := 946) (by decide +kernel), List.mem_of_getElem? (i := 1307) (by decide +kernel), List.mem_of_getElem? (i := 1308) (by decide +kernel)⟩
theorem lw_p65 : lw_okq (⟨"RollingNetsModel", "firstServed", "(I)I"⟩, 32) := ⟨⟨by decide +kernel, by decide +kernel⟩, List.mem_of_getElem? (i := 946) (by decide +kernel), List.mem_of_getElem? (i := 1311) (by decide +kernel), List.mem_of_getElem? (i := 1312) (by decide +kernel)⟩
theorem lw_p66 : lw_okq (⟨"RollingNetsModel", "goesAhead", "(IIIII)Z"⟩, 32) := ⟨⟨by decide +kernel, by decide +kernel⟩, List.mem_of_getElem? (i := 946) (by decide +kernel), List.mem_of_getElem? (i := 1315) (by decide +kernel), List.mem_of_getElem? (i := 1316) (by decide +kernel)⟩
theorem lw_p67 : lw_okq (⟨"RollingNetsModel", "lends", "(I)V"⟩, 32) := ⟨⟨by decide +kernel, by decide +kernel⟩, List.mem_of_getElem? (i := 946) (by decide +kernel), List.mem_of_getElem? (i := 1319) (by decide +kernel), List.mem_of_getElem? (i := 1320) (by decide +kernel)⟩
theorem lw_p68 : lw_okq (⟨"RollingNetsModel", "laysQueue", "(II)V"⟩, 32) := ⟨⟨by decide +kernel, by decide +kernel⟩, List.mem_of_getElem? (i := 946) (by decide +kernel), List.mem_of_getElem? (i := 1323) (by decide +kernel), List.mem_of_getElem? (i := 1324) (by decide +kernel)⟩
theorem lw_p69 : lw_okq (⟨"RollingNetsModel", "lendsTo", "(III)V"⟩, 32) := ⟨⟨by decide +kernel, by decide +kernel⟩, List.mem_of_getElem? (i := 946) (by decide +kernel), List.mem_of_getElem? (i := 1327) (by decide +kernel), List.mem_of_getElem? (i := 1328) (by decide +kernel)⟩
theorem lw_p70 : lw_okq (⟨"RollingNetsModel", "lenderFor", "(II)I"⟩, 32) := ⟨⟨by decide +kernel, by decide +kernel⟩, List.mem_of_getElem? (i := 946) (by decide +kernel), List.mem_of_getElem? (i := 1331) (by decide +kernel), List.mem_of_getElem? (i := 1332) (by decide +kernel)⟩
theorem lw_p71 : lw_okq (⟨"RollingNetsModel", "canLend", "(II)I"⟩, 32) := ⟨⟨by decide +kernel, by decide +kernel⟩, List.mem_of_getElem? (i := 946) (by decide +kernel), List.mem_of_getElem? (i := 1335) (by decide +kernel), List.mem_of_getElem? (i := 1336) (by decide +kernel)⟩
theorem lw_p72 : lw_okq (⟨"RollingNetsModel", "lotOfDay", "(III)I"⟩, 32) := ⟨⟨by decide +kernel, by decide +kernel⟩, List.mem_of_getElem? (i := 946) (by decide +kernel), List.mem_of_getElem? (i := 1339) (by decide +kernel), List.mem_of_getElem? (i := 1340) (by decide +kernel)⟩
theorem lw_p73 : lw_okq (⟨"RollingNetsModel", "doesApart", "(I)V"⟩, 32) := ⟨⟨by decide +kernel, by decide +kernel⟩, List.mem_of_getElem? (i := 946) (by decide +kernel), List.mem_of_getElem? (i := 1343) (by decide +kernel), List.mem_of_getElem? (i := 1344) (by decide +kernel)⟩
theorem lw_p74 : lw_okq (⟨"RollingNetsModel", "closes", "(I)V"⟩, 32) := ⟨⟨by decide +kernel, by decide +kernel⟩, List.mem_of_getElem? (i := 946) (by decide +kernel), List.mem_of_getElem? (i := 1347) (by decide +kernel), List.mem_of_getElem? (i := 1348) (by decide +kernel)⟩
theorem lw_p75 : lw_okq (⟨"RollingNetsModel", "closesApart", "(I)V"⟩, 32) := ⟨⟨by decide +kernel, by decide +kernel⟩, List.mem_of_getElem? (i := 946) (by decide +kernel), List.mem_of_getElem? (i := 1351) (by decide +kernel), List.mem_of_getElem? (i := 1352) (by decide +kernel)⟩
theorem lw_p76 : lw_okq (⟨"RollingNetsModel", "buyPrice", "(I)I"⟩, 32) := ⟨⟨by decide +kernel, by decide +kernel⟩, List.mem_of_getElem? (i := 946) (by decide +kernel), List.mem_of_getElem? (i := 1355) (by decide +kernel), List.mem_of_getElem? (i := 1356) (by decide +kernel)⟩
theorem lw_p77 : lw_okq (⟨"RollingNetsModel", "priceOf", "(I)I"⟩, 32) := ⟨⟨by decide +kernel, by decide +kernel⟩, List.mem_of_getElem? (i := 946) (by decide +kernel), List.mem_of_getElem? (i := 1359) (by decide +kernel), List.mem_of_getElem? (i := 1360) (by decide +kernel)⟩
theorem lw_p78 : lw_okq (⟨"RollingNetsModel", "closesFrom", "(II)V"⟩, 32) := ⟨⟨by decide +kernel, by decide +kernel⟩, List.mem_of_getElem? (i := 946) (by decide +kernel), List.mem_of_getElem? (i := 1363) (by decide +kernel), List.mem_of_getElem? (i := 1364) (by decide +kernel)⟩
theorem lw_p79 : lw_okq (⟨"RollingNetsModel", "longOf", "(II)I"⟩, 32) := ⟨⟨by decide +kernel, by decide +kernel⟩, List.mem_of_getElem? (i := 946) (by decide +kernel), List.mem_of_getElem? (i := 1367) (by decide +kernel), List.mem_of_getElem? (i := 1368) (by decide +kernel)⟩
def lw_privs_5 : List (MethodName × Nat) := [(⟨"RollingNetsModel", "allots", "(I)V"⟩, 32), (⟨"RollingNetsModel", "firstServed", "(I)I"⟩, 32), (⟨"RollingNetsModel", "goesAhead", "(IIIII)Z"⟩, 32), (⟨"RollingNetsModel", "lends", "(I)V"⟩, 32), (⟨"RollingNetsModel", "laysQueue", "(II)V"⟩, 32), (⟨"RollingNetsModel", "lendsTo", "(III)V"⟩, 32), (⟨"RollingNetsModel", "lenderFor", "(II)I"⟩, 32), (⟨"RollingNetsModel", "canLend", "(II)I"⟩, 32), (⟨"RollingNetsModel", "lotOfDay", "(III)I"⟩, 32), (⟨"RollingNetsModel", "doesApart", "(I)V"⟩, 32), (⟨"RollingNetsModel", "closes", "(I)V"⟩, 32), (⟨"RollingNetsModel", "closesApart", "(I)V"⟩, 32), (⟨"RollingNetsModel", "buyPrice", "(I)I"⟩, 32), (⟨"RollingNetsModel", "priceOf", "(I)I"⟩, 32), (⟨"RollingNetsModel", "closesFrom", "(II)V"⟩, 32), (⟨"RollingNetsModel", "longOf", "(II)I"⟩, 32)]
theorem lw_r5 : ∀ q ∈ lw_privs_5, lw_okq q := List.forall_mem_cons.mpr ⟨lw_p64, List.forall_mem_cons.mpr ⟨lw_p65, List.forall_mem_cons.mpr ⟨lw_p66, List.forall_mem_cons.mpr ⟨lw_p67, List.forall_mem_cons.mpr ⟨lw_p68, List.forall_mem_cons.mpr ⟨lw_p69, List.forall_mem_cons.mpr ⟨lw_p70, List.forall_mem_cons.mpr ⟨lw_p71, List.forall_mem_cons.mpr ⟨lw_p72, List.forall_mem_cons.mpr ⟨lw_p73, List.forall_mem_cons.mpr ⟨lw_p74, List.forall_mem_cons.mpr ⟨lw_p75, List.forall_mem_cons.mpr ⟨lw_p76, List.forall_mem_cons.mpr ⟨lw_p77, List.forall_mem_cons.mpr ⟨lw_p78, List.forall_mem_cons.mpr ⟨lw_p79, fun _ h => absurd h List.not_mem_nil⟩⟩⟩⟩⟩⟩⟩⟩⟩⟩⟩⟩⟩⟩⟩⟩
theorem lw_p80 : lw_okq (⟨"RollingNetsModel", "marks", "(I)V"⟩, 32) := ⟨⟨by decide +kernel, by decide +kernel⟩, List.mem_of_getElem? (i := 946) (by decide +kernel), List.mem_of_getElem? (i := 1371) (by decide +kernel), List.mem_of_getElem? (i := 1372) (by decide +kernel)⟩
theorem lw_p81 : lw_okq (⟨"RollingNetsModel", "fails", "(II)V"⟩, 32) := ⟨⟨by decide +kernel, by decide +kernel⟩, List.mem_of_getElem? (i := 946) (by decide +kernel), List.mem_of_getElem? (i := 1375) (by decide +kernel), List.mem_of_getElem? (i := 1376) (by decide +kernel)⟩
theorem lw_p82 : lw_okq (⟨"RollingNetsModel", "isFinished", "(I)Z"⟩, 32) := ⟨⟨by decide +kernel, by decide +kernel⟩, List.mem_of_getElem? (i := 946) (by decide +kernel), List.mem_of_getElem? (i := 1384) (by decide +kernel), List.mem_of_getElem? (i := 1385) (by decide +kernel)⟩
theorem lw_p83 : lw_okq (⟨"RollingNetsModel", "canSplit", "(II)Z"⟩, 32) := ⟨⟨by decide +kernel, by decide +kernel⟩, List.mem_of_getElem? (i := 946) (by decide +kernel), List.mem_of_getElem? (i := 1388) (by decide +kernel), List.mem_of_getElem? (i := 1389) (by decide +kernel)⟩
theorem lw_p84 : lw_okq (⟨"RollingNetsModel", "canGrow", "(II)Z"⟩, 32) := ⟨⟨by decide +kernel, by decide +kernel⟩, List.mem_of_getElem? (i := 946) (by decide +kernel), List.mem_of_getElem? (i := 1392) (by decide +kernel), List.mem_of_getElem? (i := 1393) (by decide +kernel)⟩
theorem lw_p85 : lw_okq (⟨"RollingNetsModel", "demandOf", "(I)J"⟩, 32) := ⟨⟨by decide +kernel, by decide +kernel⟩, List.mem_of_getElem? (i := 946) (by decide +kernel), List.mem_of_getElem? (i := 1402) (by decide +kernel), List.mem_of_getElem? (i := 1403) (by decide +kernel)⟩
theorem lw_p86 : lw_okq (⟨"RollingNetsModel", "lacksOf", "(I)J"⟩, 32) := ⟨⟨by decide +kernel, by decide +kernel⟩, List.mem_of_getElem? (i := 946) (by decide +kernel), List.mem_of_getElem? (i := 1407) (by decide +kernel), List.mem_of_getElem? (i := 1408) (by decide +kernel)⟩
theorem lw_p87 : lw_okq (⟨"RollingNetsModel", "atOf", "(III)I"⟩, 32) := ⟨⟨by decide +kernel, by decide +kernel⟩, List.mem_of_getElem? (i := 946) (by decide +kernel), List.mem_of_getElem? (i := 1419) (by decide +kernel), List.mem_of_getElem? (i := 1420) (by decide +kernel)⟩
theorem lw_p88 : lw_okq (⟨"RollingNetsModel", "tradedOf", "(IZ)I"⟩, 32) := ⟨⟨by decide +kernel, by decide +kernel⟩, List.mem_of_getElem? (i := 946) (by decide +kernel), List.mem_of_getElem? (i := 1448) (by decide +kernel), List.mem_of_getElem? (i := 1449) (by decide +kernel)⟩
theorem lw_p89 : lw_okq (⟨"RollingNetsModel", "sumOf", "(II)I"⟩, 32) := ⟨⟨by decide +kernel, by decide +kernel⟩, List.mem_of_getElem? (i := 946) (by decide +kernel), List.mem_of_getElem? (i := 1452) (by decide +kernel), List.mem_of_getElem? (i := 1453) (by decide +kernel)⟩
theorem lw_p90 : lw_okq (⟨"RollingNetsModel", "eldest", "(I)I"⟩, 32) := ⟨⟨by decide +kernel, by decide +kernel⟩, List.mem_of_getElem? (i := 946) (by decide +kernel), List.mem_of_getElem? (i := 1456) (by decide +kernel), List.mem_of_getElem? (i := 1457) (by decide +kernel)⟩
theorem lw_p91 : lw_okq (⟨"RollingNetsModel", "openOf", "(II)I"⟩, 32) := ⟨⟨by decide +kernel, by decide +kernel⟩, List.mem_of_getElem? (i := 946) (by decide +kernel), List.mem_of_getElem? (i := 1460) (by decide +kernel), List.mem_of_getElem? (i := 1461) (by decide +kernel)⟩
theorem lw_p92 : lw_okq (⟨"RollingNetsModel", "types", "(I)V"⟩, 32) := ⟨⟨by decide +kernel, by decide +kernel⟩, List.mem_of_getElem? (i := 946) (by decide +kernel), List.mem_of_getElem? (i := 1488) (by decide +kernel), List.mem_of_getElem? (i := 1489) (by decide +kernel)⟩
theorem lw_p93 : lw_okq (⟨"RollingNetsModel", "readPlan", "()I"⟩, 32) := ⟨⟨by decide +kernel, by decide +kernel⟩, List.mem_of_getElem? (i := 946) (by decide +kernel), List.mem_of_getElem? (i := 1500) (by decide +kernel), List.mem_of_getElem? (i := 1501) (by decide +kernel)⟩
theorem lw_p94 : lw_okq (⟨"RollingNetsModel", "reads", "()V"⟩, 32) := ⟨⟨by decide +kernel, by decide +kernel⟩, List.mem_of_getElem? (i := 946) (by decide +kernel), List.mem_of_getElem? (i := 1504) (by decide +kernel), List.mem_of_getElem? (i := 1505) (by decide +kernel)⟩
theorem lw_p95 : lw_okq (⟨"RollingNetsModel", "raw", "(I)I"⟩, 32) := ⟨⟨by decide +kernel, by decide +kernel⟩, List.mem_of_getElem? (i := 946) (by decide +kernel), List.mem_of_getElem? (i := 1508) (by decide +kernel), List.mem_of_getElem? (i := 1509) (by decide +kernel)⟩
def lw_privs_6 : List (MethodName × Nat) := [(⟨"RollingNetsModel", "marks", "(I)V"⟩, 32), (⟨"RollingNetsModel", "fails", "(II)V"⟩, 32), (⟨"RollingNetsModel", "isFinished", "(I)Z"⟩, 32), (⟨"RollingNetsModel", "canSplit", "(II)Z"⟩, 32), (⟨"RollingNetsModel", "canGrow", "(II)Z"⟩, 32), (⟨"RollingNetsModel", "demandOf", "(I)J"⟩, 32), (⟨"RollingNetsModel", "lacksOf", "(I)J"⟩, 32), (⟨"RollingNetsModel", "atOf", "(III)I"⟩, 32), (⟨"RollingNetsModel", "tradedOf", "(IZ)I"⟩, 32), (⟨"RollingNetsModel", "sumOf", "(II)I"⟩, 32), (⟨"RollingNetsModel", "eldest", "(I)I"⟩, 32), (⟨"RollingNetsModel", "openOf", "(II)I"⟩, 32), (⟨"RollingNetsModel", "types", "(I)V"⟩, 32), (⟨"RollingNetsModel", "readPlan", "()I"⟩, 32), (⟨"RollingNetsModel", "reads", "()V"⟩, 32), (⟨"RollingNetsModel", "raw", "(I)I"⟩, 32)]
theorem lw_r6 : ∀ q ∈ lw_privs_6, lw_okq q := List.forall_mem_cons.mpr ⟨lw_p80, List.forall_mem_cons.mpr ⟨lw_p81, List.forall_mem_cons.mpr ⟨lw_p82, List.forall_mem_cons.mpr ⟨lw_p83, List.forall_mem_cons.mpr ⟨lw_p84, List.forall_mem_cons.mpr ⟨lw_p85, List.forall_mem_cons.mpr ⟨lw_p86, List.forall_mem_cons.mpr ⟨lw_p87, List.forall_mem_cons.mpr ⟨lw_p88, List.forall_mem_cons.mpr ⟨lw_p89, List.forall_mem_cons.mpr ⟨lw_p90, List.forall_mem_cons.mpr ⟨lw_p91, List.forall_mem_cons.mpr ⟨lw_p92, List.forall_mem_cons.mpr ⟨lw_p93, List.forall_mem_cons.mpr ⟨lw_p94, List.forall_mem_cons.mpr ⟨lw_p95, fun _ h => absurd h List.not_mem_nil⟩⟩⟩⟩⟩⟩⟩⟩⟩⟩⟩⟩⟩⟩⟩⟩
theorem lw_p96 : lw_okq (⟨"RollingNetsModel", "isLetter", "(I)Z"⟩, 32) := ⟨⟨by decide +kernel, by decide +kernel⟩, List.mem_of_getElem? (i := 946) (by decide +kernel), List.mem_of_getElem? (i := 1512) (by decide +kernel), List.mem_of_getElem? (i := 1513) (by decide +kernel)⟩
theorem lw_p97 : lw_okq (⟨"RollingNetsModel", "wordAt", "(II)I"⟩, 32) := ⟨⟨by decide +kernel, by decide +kernel⟩, List.mem_of_getElem? (i := 946) (by decide +kernel), List.mem_of_getElem? (i := 1516) (by decide +kernel), List.mem_of_getElem? (i := 1517) (by decide +kernel)⟩
theorem lw_p98 : lw_okq (⟨"RollingNetsModel", "isDigit", "(I)Z"⟩, 32) := ⟨⟨by decide +kernel, by decide +kernel⟩, List.mem_of_getElem? (i := 946) (by decide +kernel), List.mem_of_getElem? (i := 1520) (by decide +kernel), List.mem_of_getElem? (i := 1521) (by decide +kernel)⟩
theorem lw_p99 : lw_okq (⟨"RollingNetsModel", "readLine", "(I)I"⟩, 32) := ⟨⟨by decide +kernel, by decide +kernel⟩, List.mem_of_getElem? (i := 946) (by decide +kernel), List.mem_of_getElem? (i := 1524) (by decide +kernel), List.mem_of_getElem? (i := 1525) (by decide +kernel)⟩
theorem lw_p100 : lw_okq (⟨"RollingNetsModel", "errs", "(I)I"⟩, 32) := ⟨⟨by decide +kernel, by decide +kernel⟩, List.mem_of_getElem? (i := 946) (by decide +kernel), List.mem_of_getElem? (i := 1528) (by decide +kernel), List.mem_of_getElem? (i := 1529) (by decide +kernel)⟩
theorem lw_p101 : lw_okq (⟨"RollingNetsModel", "manyOf", "(I)I"⟩, 32) := ⟨⟨by decide +kernel, by decide +kernel⟩, List.mem_of_getElem? (i := 946) (by decide +kernel), List.mem_of_getElem? (i := 1532) (by decide +kernel), List.mem_of_getElem? (i := 1533) (by decide +kernel)⟩
theorem lw_p102 : lw_okq (⟨"RollingNetsModel", "lowOf", "(II)I"⟩, 32) := ⟨⟨by decide +kernel, by decide +kernel⟩, List.mem_of_getElem? (i := 946) (by decide +kernel), List.mem_of_getElem? (i := 1536) (by decide +kernel), List.mem_of_getElem? (i := 1537) (by decide +kernel)⟩
theorem lw_p103 : lw_okq (⟨"RollingNetsModel", "highOf", "(II)I"⟩, 32) := ⟨⟨by decide +kernel, by decide +kernel⟩, List.mem_of_getElem? (i := 946) (by decide +kernel), List.mem_of_getElem? (i := 1540) (by decide +kernel), List.mem_of_getElem? (i := 1541) (by decide +kernel)⟩
theorem lw_p104 : lw_okq (⟨"RollingNetsModel", "readNumber", "(II)I"⟩, 32) := ⟨⟨by decide +kernel, by decide +kernel⟩, List.mem_of_getElem? (i := 946) (by decide +kernel), List.mem_of_getElem? (i := 1544) (by decide +kernel), List.mem_of_getElem? (i := 1545) (by decide +kernel)⟩
theorem lw_p105 : lw_okq (⟨"RollingNetsModel", "runsLine", "(I)Z"⟩, 32) := ⟨⟨by decide +kernel, by decide +kernel⟩, List.mem_of_getElem? (i := 946) (by decide +kernel), List.mem_of_getElem? (i := 1556) (by decide +kernel), List.mem_of_getElem? (i := 1557) (by decide +kernel)⟩
theorem lw_p106 : lw_okq (⟨"RollingNetsModel", "openNotices", "()I"⟩, 32) := ⟨⟨by decide +kernel, by decide +kernel⟩, List.mem_of_getElem? (i := 946) (by decide +kernel), List.mem_of_getElem? (i := 1569) (by decide +kernel), List.mem_of_getElem? (i := 1570) (by decide +kernel)⟩
theorem lw_p107 : lw_okq (⟨"RollingNetsModel", "allCash", "()I"⟩, 32) := ⟨⟨by decide +kernel, by decide +kernel⟩, List.mem_of_getElem? (i := 946) (by decide +kernel), List.mem_of_getElem? (i := 1573) (by decide +kernel), List.mem_of_getElem? (i := 1574) (by decide +kernel)⟩
theorem lw_p108 : lw_okq (⟨"RollingNetsModel", "lackMany", "()I"⟩, 32) := ⟨⟨by decide +kernel, by decide +kernel⟩, List.mem_of_getElem? (i := 946) (by decide +kernel), List.mem_of_getElem? (i := 1577) (by decide +kernel), List.mem_of_getElem? (i := 1578) (by decide +kernel)⟩
theorem lw_p109 : lw_okq (⟨"RollingNetsModel", "shortSet", "()I"⟩, 32) := ⟨⟨by decide +kernel, by decide +kernel⟩, List.mem_of_getElem? (i := 946) (by decide +kernel), List.mem_of_getElem? (i := 1581) (by decide +kernel), List.mem_of_getElem? (i := 1582) (by decide +kernel)⟩
def lw_privs_7 : List (MethodName × Nat) := [(⟨"RollingNetsModel", "isLetter", "(I)Z"⟩, 32), (⟨"RollingNetsModel", "wordAt", "(II)I"⟩, 32), (⟨"RollingNetsModel", "isDigit", "(I)Z"⟩, 32), (⟨"RollingNetsModel", "readLine", "(I)I"⟩, 32), (⟨"RollingNetsModel", "errs", "(I)I"⟩, 32), (⟨"RollingNetsModel", "manyOf", "(I)I"⟩, 32), (⟨"RollingNetsModel", "lowOf", "(II)I"⟩, 32), (⟨"RollingNetsModel", "highOf", "(II)I"⟩, 32), (⟨"RollingNetsModel", "readNumber", "(II)I"⟩, 32), (⟨"RollingNetsModel", "runsLine", "(I)Z"⟩, 32), (⟨"RollingNetsModel", "openNotices", "()I"⟩, 32), (⟨"RollingNetsModel", "allCash", "()I"⟩, 32), (⟨"RollingNetsModel", "lackMany", "()I"⟩, 32), (⟨"RollingNetsModel", "shortSet", "()I"⟩, 32)]
theorem lw_r7 : ∀ q ∈ lw_privs_7, lw_okq q := List.forall_mem_cons.mpr ⟨lw_p96, List.forall_mem_cons.mpr ⟨lw_p97, List.forall_mem_cons.mpr ⟨lw_p98, List.forall_mem_cons.mpr ⟨lw_p99, List.forall_mem_cons.mpr ⟨lw_p100, List.forall_mem_cons.mpr ⟨lw_p101, List.forall_mem_cons.mpr ⟨lw_p102, List.forall_mem_cons.mpr ⟨lw_p103, List.forall_mem_cons.mpr ⟨lw_p104, List.forall_mem_cons.mpr ⟨lw_p105, List.forall_mem_cons.mpr ⟨lw_p106, List.forall_mem_cons.mpr ⟨lw_p107, List.forall_mem_cons.mpr ⟨lw_p108, List.forall_mem_cons.mpr ⟨lw_p109, fun _ h => absurd h List.not_mem_nil⟩⟩⟩⟩⟩⟩⟩⟩⟩⟩⟩⟩⟩⟩
def lw_privs : List (MethodName × Nat) := lw_privs_1 ++ (lw_privs_2 ++ (lw_privs_3 ++ (lw_privs_4 ++ (lw_privs_5 ++ (lw_privs_6 ++ (lw_privs_7))))))
def lw_tbl : List Cond := k2_sels lw_privs ++ tables_1
theorem lw_privs_ok : ∀ q ∈ lw_privs, lw_okq q := by
  show ∀ q ∈ lw_privs_1 ++ (lw_privs_2 ++ (lw_privs_3 ++ (lw_privs_4 ++ (lw_privs_5 ++ (lw_privs_6 ++ (lw_privs_7)))))), lw_okq q
  exact List.forall_mem_append.mpr ⟨lw_r1, List.forall_mem_append.mpr ⟨lw_r2, List.forall_mem_append.mpr ⟨lw_r3, List.forall_mem_append.mpr ⟨lw_r4, List.forall_mem_append.mpr ⟨lw_r5, List.forall_mem_append.mpr ⟨lw_r6, lw_r7⟩⟩⟩⟩⟩⟩
def RX0 : String := "RollingNets$Figures"
def TX0 : u_T := fun k => match k with
  | _ => ("", "", "", false)
def tyX0 : Nat → FieldType := fun k => match k with
  | _ => .int
theorem nmX0 : ∀ a, a < 0 → ∀ b, b < 0 → a ≠ b → (TX0 a).2.1 ≠ (TX0 b).2.1 := by decide +kernel
theorem tyX0_ok : ∀ k, k < 0 → parseFieldDescriptor (TX0 k).2.2.1 = some (tyX0 k) := by decide +kernel
abbrev cX0_ofIssue : ByteArray := prog_2_method_2_code
def yX0_ofIssue : MethodName := ⟨RX0, "ofIssue", "(LRollingNets$House;II)I"⟩
abbrev cX0_overMembers : ByteArray := prog_2_method_3_code
def yX0_overMembers : MethodName := ⟨RX0, "overMembers", "(LRollingNets$House;LRollingNets$Market;I)I"⟩
abbrev cX0_eldestDay : ByteArray := prog_2_method_4_code
def yX0_eldestDay : MethodName := ⟨RX0, "eldestDay", "(LRollingNets$House;LRollingNets$Market;)I"⟩
abbrev cX0_overDeals : ByteArray := prog_2_method_5_code
def yX0_overDeals : MethodName := ⟨RX0, "overDeals", "(LRollingNets$House;III)I"⟩
abbrev cX0_countDeals : ByteArray := prog_2_method_6_code
def yX0_countDeals : MethodName := ⟨RX0, "countDeals", "(LRollingNets$House;I)I"⟩
abbrev cX0_openNotices : ByteArray := prog_2_method_7_code
def yX0_openNotices : MethodName := ⟨RX0, "openNotices", "(LRollingNets$House;)I"⟩
abbrev cX0_allCash : ByteArray := prog_2_method_8_code
def yX0_allCash : MethodName := ⟨RX0, "allCash", "(LRollingNets$House;)J"⟩
abbrev cX0_suspendedSet : ByteArray := prog_2_method_9_code
def yX0_suspendedSet : MethodName := ⟨RX0, "suspendedSet", "(LRollingNets$House;)I"⟩
abbrev cX0_shortSet : ByteArray := prog_2_method_10_code
def yX0_shortSet : MethodName := ⟨RX0, "shortSet", "(LRollingNets$House;)I"⟩
abbrev cX0_demand : ByteArray := prog_2_method_11_code
def yX0_demand : MethodName := ⟨RX0, "demand", "(LRollingNets$House;I)J"⟩
abbrev cX0_lacks : ByteArray := prog_2_method_12_code
def yX0_lacks : MethodName := ⟨RX0, "lacks", "(LRollingNets$House;I)J"⟩
abbrev cX0_lacking : ByteArray := prog_2_method_13_code
def yX0_lacking : MethodName := ⟨RX0, "lacking", "(LRollingNets$House;)I"⟩
abbrev cX0_sunk : ByteArray := prog_2_method_14_code
def yX0_sunk : MethodName := ⟨RX0, "sunk", "(LRollingNets$House;I)I"⟩
abbrev cX0_agedShort : ByteArray := prog_2_method_15_code
def yX0_agedShort : MethodName := ⟨RX0, "agedShort", "(LRollingNets$House;II)I"⟩
abbrev cX0_aheadOf : ByteArray := prog_2_method_16_code
def yX0_aheadOf : MethodName := ⟨RX0, "aheadOf", "(LRollingNets$House;II)I"⟩
abbrev cX0_booked : ByteArray := prog_2_method_17_code
def yX0_booked : MethodName := ⟨RX0, "booked", "(LRollingNets$Table;III)I"⟩
def RX1 : String := "RollingNets$House"
def TX1 : u_T := fun k => match k with
  | 0 => ("RollingNets$House", "told", "[I", true)
  | 1 => ("RollingNets$House", "cash", "[J", true)
  | 2 => ("RollingNets$House", "rank", "[I", true)
  | 3 => ("RollingNets$House", "pledged", "[I", true)
  | 4 => ("RollingNets$House", "suspended", "[Z", true)
  | 5 => ("RollingNets$House", "markets", "[LRollingNets$Market;", true)
  | 6 => ("RollingNets$House", "deals", "LRollingNets$Table;", true)
  | 7 => ("RollingNets$House", "notices", "LRollingNets$Table;", true)
  | 8 => ("RollingNets$House", "book", "LRollingNets$Table;", true)
  | 9 => ("RollingNets$House", "plan", "LRollingNets$Table;", true)
  | 10 => ("RollingNets$House", "planDone", "I", false)
  | 11 => ("RollingNets$House", "day", "I", false)
  | 12 => ("RollingNets$House", "outside", "J", false)
  | 13 => ("RollingNets$House", "line", "LRollingNets$Line;", true)
  | 14 => ("RollingNets$House", "chain", "[I", true)
  | 15 => ("RollingNets$House", "chainSize", "I", false)
  | _ => ("RollingNets$House", "parts", "[I", true)
def tyX1 : Nat → FieldType := fun k => match k with
  | 0 => .array .int
  | 1 => .array .long
  | 2 => .array .int
  | 3 => .array .int
  | 4 => .array .boolean
  | 5 => .array (.object "RollingNets$Market")
  | 6 => .object "RollingNets$Table"
  | 7 => .object "RollingNets$Table"
  | 8 => .object "RollingNets$Table"
  | 9 => .object "RollingNets$Table"
  | 10 => .int
  | 11 => .int
  | 12 => .long
  | 13 => .object "RollingNets$Line"
  | 14 => .array .int
  | 15 => .int
  | _ => .array .int
theorem nmX1 : ∀ a, a < 17 → ∀ b, b < 17 → a ≠ b → (TX1 a).2.1 ≠ (TX1 b).2.1 := by decide +kernel
theorem tyX1_ok : ∀ k, k < 17 → parseFieldDescriptor (TX1 k).2.2.1 = some (tyX1 k) := by decide +kernel
abbrev cX1_init : ByteArray := prog_3_method_1_code
def yX1_init : MethodName := ⟨RX1, "<init>", "()V"⟩
abbrev cX1_members : ByteArray := prog_3_method_2_code
def yX1_members : MethodName := ⟨RX1, "members", "()I"⟩
abbrev cX1_hasMember : ByteArray := prog_3_method_3_code
def yX1_hasMember : MethodName := ⟨RX1, "hasMember", "(I)Z"⟩
abbrev cX1_freeOf : ByteArray := prog_3_method_4_code
def yX1_freeOf : MethodName := ⟨RX1, "freeOf", "(II)J"⟩
abbrev cX1_canLend : ByteArray := prog_3_method_5_code
def yX1_canLend : MethodName := ⟨RX1, "canLend", "(II)I"⟩
abbrev cX1_buyPrice : ByteArray := prog_3_method_6_code
def yX1_buyPrice : MethodName := ⟨RX1, "buyPrice", "(I)I"⟩
abbrev cX1_pay : ByteArray := prog_3_method_7_code
def yX1_pay : MethodName := ⟨RX1, "pay", "(IIJ)V"⟩
abbrev cX1_write : ByteArray := prog_3_method_8_code
def yX1_write : MethodName := ⟨RX1, "write", "(IIIII)V"⟩
abbrev cX1_addDeal : ByteArray := prog_3_method_9_code
def yX1_addDeal : MethodName := ⟨RX1, "addDeal", "(IIIIII)I"⟩
abbrev cX1_isDue : ByteArray := prog_3_method_10_code
def yX1_isDue : MethodName := ⟨RX1, "isDue", "(III)Z"⟩
abbrev cX1_isOpenNotice : ByteArray := prog_3_method_11_code
def yX1_isOpenNotice : MethodName := ⟨RX1, "isOpenNotice", "(II)Z"⟩
abbrev cX1_hasOpen : ByteArray := prog_3_method_12_code
def yX1_hasOpen : MethodName := ⟨RX1, "hasOpen", "(I)Z"⟩
abbrev cX1_holding : ByteArray := prog_3_method_13_code
def yX1_holding : MethodName := ⟨RX1, "holding", "(III)I"⟩
abbrev cX1_copyFrom : ByteArray := prog_3_method_14_code
def yX1_copyFrom : MethodName := ⟨RX1, "copyFrom", "(LRollingNets$House;)V"⟩
def RX2 : String := "RollingNets$Line"
def TX2 : u_T := fun k => match k with
  | 0 => ("RollingNets$Line", "member", "[I", true)
  | 1 => ("RollingNets$Line", "day", "[I", true)
  | 2 => ("RollingNets$Line", "size", "I", false)
  | _ => ("RollingNets$Line", "byRank", "[I", true)
def tyX2 : Nat → FieldType := fun k => match k with
  | 0 => .array .int
  | 1 => .array .int
  | 2 => .int
  | _ => .array .int
theorem nmX2 : ∀ a, a < 4 → ∀ b, b < 4 → a ≠ b → (TX2 a).2.1 ≠ (TX2 b).2.1 := by decide +kernel
theorem tyX2_ok : ∀ k, k < 4 → parseFieldDescriptor (TX2 k).2.2.1 = some (tyX2 k) := by decide +kernel
abbrev cX2_init : ByteArray := prog_4_method_1_code
def yX2_init : MethodName := ⟨RX2, "<init>", "()V"⟩
abbrev cX2_form : ByteArray := prog_4_method_2_code
def yX2_form : MethodName := ⟨RX2, "form", "(LRollingNets$House;I)V"⟩
abbrev cX2_sortByRank : ByteArray := prog_4_method_3_code
def yX2_sortByRank : MethodName := ⟨RX2, "sortByRank", "(LRollingNets$House;)V"⟩
abbrev cX2_addGroup : ByteArray := prog_4_method_4_code
def yX2_addGroup : MethodName := ⟨RX2, "addGroup", "(LRollingNets$Market;I)V"⟩
def RX3 : String := "RollingNets$Market"
def TX3 : u_T := fun k => match k with
  | 0 => ("RollingNets$Market", "stock", "[J", true)
  | 1 => ("RollingNets$Market", "reserved", "[I", true)
  | 2 => ("RollingNets$Market", "lends", "[I", true)
  | 3 => ("RollingNets$Market", "lent", "[I", true)
  | 4 => ("RollingNets$Market", "fails", "[I", true)
  | 5 => ("RollingNets$Market", "position", "[I", true)
  | 6 => ("RollingNets$Market", "lots", "[[I", true)
  | 7 => ("RollingNets$Market", "price", "I", false)
  | 8 => ("RollingNets$Market", "marked", "I", false)
  | 9 => ("RollingNets$Market", "payout", "I", false)
  | _ => ("RollingNets$Market", "endDay", "I", false)
def tyX3 : Nat → FieldType := fun k => match k with
  | 0 => .array .long
  | 1 => .array .int
  | 2 => .array .int
  | 3 => .array .int
  | 4 => .array .int
  | 5 => .array .int
  | 6 => .array (.array .int)
  | 7 => .int
  | 8 => .int
  | 9 => .int
  | _ => .int
theorem nmX3 : ∀ a, a < 11 → ∀ b, b < 11 → a ≠ b → (TX3 a).2.1 ≠ (TX3 b).2.1 := by decide +kernel
theorem tyX3_ok : ∀ k, k < 11 → parseFieldDescriptor (TX3 k).2.2.1 = some (tyX3 k) := by decide +kernel
abbrev cX3_init : ByteArray := prog_5_method_1_code
def yX3_init : MethodName := ⟨RX3, "<init>", "()V"⟩
abbrev cX3_longOf : ByteArray := prog_5_method_2_code
def yX3_longOf : MethodName := ⟨RX3, "longOf", "(I)I"⟩
abbrev cX3_shortOf : ByteArray := prog_5_method_3_code
def yX3_shortOf : MethodName := ⟨RX3, "shortOf", "(I)I"⟩
abbrev cX3_worth : ByteArray := prog_5_method_4_code
def yX3_worth : MethodName := ⟨RX3, "worth", "(I)J"⟩
abbrev cX3_dayOfLot : ByteArray := prog_5_method_5_code
def yX3_dayOfLot : MethodName := ⟨RX3, "dayOfLot", "(II)I"⟩
abbrev cX3_countLots : ByteArray := prog_5_method_6_code
def yX3_countLots : MethodName := ⟨RX3, "countLots", "(I)I"⟩
abbrev cX3_changeLot : ByteArray := prog_5_method_7_code
def yX3_changeLot : MethodName := ⟨RX3, "changeLot", "(III)V"⟩
abbrev cX3_takeOff : ByteArray := prog_5_method_8_code
def yX3_takeOff : MethodName := ⟨RX3, "takeOff", "(II)V"⟩
abbrev cX3_addLot : ByteArray := prog_5_method_9_code
def yX3_addLot : MethodName := ⟨RX3, "addLot", "(III)V"⟩
abbrev cX3_multiply : ByteArray := prog_5_method_10_code
def yX3_multiply : MethodName := ⟨RX3, "multiply", "(II)Z"⟩
abbrev cX3_greatest : ByteArray := prog_5_method_11_code
def yX3_greatest : MethodName := ⟨RX3, "greatest", "(I)J"⟩
abbrev cX3_multiplyMember : ByteArray := prog_5_method_12_code
def yX3_multiplyMember : MethodName := ⟨RX3, "multiplyMember", "(II)V"⟩
abbrev cX3_copyFrom : ByteArray := prog_5_method_13_code
def yX3_copyFrom : MethodName := ⟨RX3, "copyFrom", "(LRollingNets$Market;)V"⟩
def RX4 : String := "RollingNets$Night"
def TX4 : u_T := fun k => match k with
  | _ => ("", "", "", false)
def tyX4 : Nat → FieldType := fun k => match k with
  | _ => .int
theorem nmX4 : ∀ a, a < 0 → ∀ b, b < 0 → a ≠ b → (TX4 a).2.1 ≠ (TX4 b).2.1 := by decide +kernel
theorem tyX4_ok : ∀ k, k < 0 → parseFieldDescriptor (TX4 k).2.2.1 = some (tyX4 k) := by decide +kernel
abbrev cX4_pass : ByteArray := prog_6_method_2_code
def yX4_pass : MethodName := ⟨RX4, "pass", "(LRollingNets$House;I)I"⟩
abbrev cX4_netDue : ByteArray := prog_6_method_3_code
def yX4_netDue : MethodName := ⟨RX4, "netDue", "(LRollingNets$House;I)V"⟩
abbrev cX4_deliverAll : ByteArray := prog_6_method_4_code
def yX4_deliverAll : MethodName := ⟨RX4, "deliverAll", "(LRollingNets$House;I)I"⟩
abbrev cX4_deliver : ByteArray := prog_6_method_5_code
def yX4_deliver : MethodName := ⟨RX4, "deliver", "(LRollingNets$House;II)I"⟩
abbrev cX4_allot : ByteArray := prog_6_method_6_code
def yX4_allot : MethodName := ⟨RX4, "allot", "(LRollingNets$House;II)V"⟩
abbrev cX4_lendToAged : ByteArray := prog_6_method_7_code
def yX4_lendToAged : MethodName := ⟨RX4, "lendToAged", "(LRollingNets$House;I)V"⟩
abbrev cX4_lendTo : ByteArray := prog_6_method_8_code
def yX4_lendTo : MethodName := ⟨RX4, "lendTo", "(LRollingNets$House;III)V"⟩
abbrev cX4_bestLender : ByteArray := prog_6_method_9_code
def yX4_bestLender : MethodName := ⟨RX4, "bestLender", "(LRollingNets$House;II)I"⟩
abbrev cX4_passApart : ByteArray := prog_6_method_10_code
def yX4_passApart : MethodName := ⟨RX4, "passApart", "(LRollingNets$House;I)V"⟩
abbrev cX4_mark : ByteArray := prog_6_method_11_code
def yX4_mark : MethodName := ⟨RX4, "mark", "(LRollingNets$House;I)V"⟩
abbrev cX4_payOut : ByteArray := prog_6_method_12_code
def yX4_payOut : MethodName := ⟨RX4, "payOut", "(LRollingNets$House;I)V"⟩
abbrev cX4_countFails : ByteArray := prog_6_method_13_code
def yX4_countFails : MethodName := ⟨RX4, "countFails", "(LRollingNets$House;I)V"⟩
def RX5 : String := "RollingNets$Notices"
def TX5 : u_T := fun k => match k with
  | _ => ("", "", "", false)
def tyX5 : Nat → FieldType := fun k => match k with
  | _ => .int
theorem nmX5 : ∀ a, a < 0 → ∀ b, b < 0 → a ≠ b → (TX5 a).2.1 ≠ (TX5 b).2.1 := by decide +kernel
theorem tyX5_ok : ∀ k, k < 0 → parseFieldDescriptor (TX5 k).2.2.1 = some (tyX5 k) := by decide +kernel
abbrev cX5_givers : ByteArray := prog_7_method_2_code
def yX5_givers : MethodName := ⟨RX5, "givers", "(LRollingNets$House;I)I"⟩
abbrev cX5_giveNet : ByteArray := prog_7_method_3_code
def yX5_giveNet : MethodName := ⟨RX5, "giveNet", "(LRollingNets$House;III)I"⟩
abbrev cX5_agedLong : ByteArray := prog_7_method_4_code
def yX5_agedLong : MethodName := ⟨RX5, "agedLong", "(LRollingNets$House;II)I"⟩
abbrev cX5_assign : ByteArray := prog_7_method_5_code
def yX5_assign : MethodName := ⟨RX5, "assign", "(LRollingNets$House;II)I"⟩
abbrev cX5_assignedTo : ByteArray := prog_7_method_6_code
def yX5_assignedTo : MethodName := ⟨RX5, "assignedTo", "(LRollingNets$House;II)I"⟩
abbrev cX5_addNotice : ByteArray := prog_7_method_7_code
def yX5_addNotice : MethodName := ⟨RX5, "addNotice", "(LRollingNets$House;IIII)I"⟩
abbrev cX5_takeAssigned : ByteArray := prog_7_method_8_code
def yX5_takeAssigned : MethodName := ⟨RX5, "takeAssigned", "(LRollingNets$House;III)V"⟩
abbrev cX5_giveApart : ByteArray := prog_7_method_9_code
def yX5_giveApart : MethodName := ⟨RX5, "giveApart", "(LRollingNets$House;I)I"⟩
abbrev cX5_isCalled : ByteArray := prog_7_method_10_code
def yX5_isCalled : MethodName := ⟨RX5, "isCalled", "(LRollingNets$House;I)Z"⟩
abbrev cX5_closeDue : ByteArray := prog_7_method_11_code
def yX5_closeDue : MethodName := ⟨RX5, "closeDue", "(LRollingNets$House;I)V"⟩
abbrev cX5_closeNet : ByteArray := prog_7_method_12_code
def yX5_closeNet : MethodName := ⟨RX5, "closeNet", "(LRollingNets$House;III)V"⟩
abbrev cX5_closeApart : ByteArray := prog_7_method_13_code
def yX5_closeApart : MethodName := ⟨RX5, "closeApart", "(LRollingNets$House;III)V"⟩
abbrev cX5_layChain : ByteArray := prog_7_method_14_code
def yX5_layChain : MethodName := ⟨RX5, "layChain", "(LRollingNets$House;II)V"⟩
abbrev cX5_nextLink : ByteArray := prog_7_method_15_code
def yX5_nextLink : MethodName := ⟨RX5, "nextLink", "(LRollingNets$House;IIII)I"⟩
abbrev cX5_lastOfChain : ByteArray := prog_7_method_16_code
def yX5_lastOfChain : MethodName := ⟨RX5, "lastOfChain", "(LRollingNets$House;)I"⟩
def RX6 : String := "RollingNets$Reader"
def TX6 : u_T := fun k => match k with
  | 0 => ("RollingNets$Reader", "tape", "[I", true)
  | 1 => ("RollingNets$Reader", "length", "I", false)
  | 2 => ("RollingNets$Reader", "draft", "LRollingNets$Table;", true)
  | 3 => ("RollingNets$Reader", "place", "I", false)
  | 4 => ("RollingNets$Reader", "fault", "I", false)
  | _ => ("RollingNets$Reader", "faultPlace", "I", false)
def tyX6 : Nat → FieldType := fun k => match k with
  | 0 => .array .int
  | 1 => .int
  | 2 => .object "RollingNets$Table"
  | 3 => .int
  | 4 => .int
  | _ => .int
theorem nmX6 : ∀ a, a < 6 → ∀ b, b < 6 → a ≠ b → (TX6 a).2.1 ≠ (TX6 b).2.1 := by decide +kernel
theorem tyX6_ok : ∀ k, k < 6 → parseFieldDescriptor (TX6 k).2.2.1 = some (tyX6 k) := by decide +kernel
abbrev cX6_init : ByteArray := prog_8_method_1_code
def yX6_init : MethodName := ⟨RX6, "<init>", "()V"⟩
abbrev cX6_hasRoom : ByteArray := prog_8_method_2_code
def yX6_hasRoom : MethodName := ⟨RX6, "hasRoom", "()Z"⟩
abbrev cX6_append : ByteArray := prog_8_method_3_code
def yX6_append : MethodName := ⟨RX6, "append", "(I)V"⟩
abbrev cX6_read : ByteArray := prog_8_method_4_code
def yX6_read : MethodName := ⟨RX6, "read", "()Z"⟩
abbrev cX6_readLine : ByteArray := prog_8_method_5_code
def yX6_readLine : MethodName := ⟨RX6, "readLine", "()V"⟩
abbrev cX6_readNumber : ByteArray := prog_8_method_6_code
def yX6_readNumber : MethodName := ⟨RX6, "readNumber", "(IIC)V"⟩
abbrev cX6_failHere : ByteArray := prog_8_method_7_code
def yX6_failHere : MethodName := ⟨RX6, "failHere", "(I)V"⟩
abbrev cX6_here : ByteArray := prog_8_method_8_code
def yX6_here : MethodName := ⟨RX6, "here", "(I)I"⟩
abbrev cX6_skipBlanks : ByteArray := prog_8_method_9_code
def yX6_skipBlanks : MethodName := ⟨RX6, "skipBlanks", "()V"⟩
abbrev cX6_isLetter : ByteArray := prog_8_method_10_code
def yX6_isLetter : MethodName := ⟨RX6, "isLetter", "(I)Z"⟩
abbrev cX6_wordHere : ByteArray := prog_8_method_11_code
def yX6_wordHere : MethodName := ⟨RX6, "wordHere", "()I"⟩
abbrev cX6_isHere : ByteArray := prog_8_method_12_code
def yX6_isHere : MethodName := ⟨RX6, "isHere", "(Ljava/lang/String;)Z"⟩
abbrev cX6_wordOf : ByteArray := prog_8_method_13_code
def yX6_wordOf : MethodName := ⟨RX6, "wordOf", "(I)Ljava/lang/String;"⟩
abbrev cX6_shapeOf : ByteArray := prog_8_method_14_code
def yX6_shapeOf : MethodName := ⟨RX6, "shapeOf", "(I)Ljava/lang/String;"⟩
abbrev cX6_leastOf : ByteArray := prog_8_method_15_code
def yX6_leastOf : MethodName := ⟨RX6, "leastOf", "(C)I"⟩
abbrev cX6_mostOf : ByteArray := prog_8_method_16_code
def yX6_mostOf : MethodName := ⟨RX6, "mostOf", "(C)I"⟩
def RX7 : String := "RollingNets$Table"
def TX7 : u_T := fun k => match k with
  | 0 => ("RollingNets$Table", "cells", "[[I", true)
  | 1 => ("RollingNets$Table", "most", "I", true)
  | _ => ("RollingNets$Table", "count", "I", false)
def tyX7 : Nat → FieldType := fun k => match k with
  | 0 => .array (.array .int)
  | 1 => .int
  | _ => .int
theorem nmX7 : ∀ a, a < 3 → ∀ b, b < 3 → a ≠ b → (TX7 a).2.1 ≠ (TX7 b).2.1 := by decide +kernel
theorem tyX7_ok : ∀ k, k < 3 → parseFieldDescriptor (TX7 k).2.2.1 = some (tyX7 k) := by decide +kernel
abbrev cX7_init : ByteArray := prog_9_method_1_code
def yX7_init : MethodName := ⟨RX7, "<init>", "(II)V"⟩
abbrev cX7_size : ByteArray := prog_9_method_2_code
def yX7_size : MethodName := ⟨RX7, "size", "()I"⟩
abbrev cX7_isFull : ByteArray := prog_9_method_3_code
def yX7_isFull : MethodName := ⟨RX7, "isFull", "()Z"⟩
abbrev cX7_get : ByteArray := prog_9_method_4_code
def yX7_get : MethodName := ⟨RX7, "get", "(II)I"⟩
abbrev cX7_put : ByteArray := prog_9_method_5_code
def yX7_put : MethodName := ⟨RX7, "put", "(III)V"⟩
abbrev cX7_addRow : ByteArray := prog_9_method_6_code
def yX7_addRow : MethodName := ⟨RX7, "addRow", "()I"⟩
abbrev cX7_clear : ByteArray := prog_9_method_7_code
def yX7_clear : MethodName := ⟨RX7, "clear", "()V"⟩
abbrev cX7_copyFrom : ByteArray := prog_9_method_8_code
def yX7_copyFrom : MethodName := ⟨RX7, "copyFrom", "(LRollingNets$Table;)V"⟩
def RX8 : String := "RollingNets"
def TX8 : u_T := fun k => match k with
  | 0 => ("RollingNets", "now", "LRollingNets$House;", true)
  | 1 => ("RollingNets", "kept", "LRollingNets$House;", true)
  | 2 => ("RollingNets", "thought", "LRollingNets$House;", true)
  | 3 => ("RollingNets", "reader", "LRollingNets$Reader;", true)
  | _ => ("RollingNets", "isKept", "Z", false)
def tyX8 : Nat → FieldType := fun k => match k with
  | 0 => .object "RollingNets$House"
  | 1 => .object "RollingNets$House"
  | 2 => .object "RollingNets$House"
  | 3 => .object "RollingNets$Reader"
  | _ => .boolean
theorem nmX8 : ∀ a, a < 5 → ∀ b, b < 5 → a ≠ b → (TX8 a).2.1 ≠ (TX8 b).2.1 := by decide +kernel
theorem tyX8_ok : ∀ k, k < 5 → parseFieldDescriptor (TX8 k).2.2.1 = some (tyX8 k) := by decide +kernel
abbrev cX8_init : ByteArray := prog_1_method_1_code
def yX8_init : MethodName := ⟨RX8, "<init>", "()V"⟩
abbrev cX8_set : ByteArray := prog_1_method_2_code
def yX8_set : MethodName := ⟨RX8, "set", "(II)Z"⟩
abbrev cX8_tell : ByteArray := prog_1_method_3_code
def yX8_tell : MethodName := ⟨RX8, "tell", "(IIII)Z"⟩
abbrev cX8_tellRank : ByteArray := prog_1_method_4_code
def yX8_tellRank : MethodName := ⟨RX8, "tellRank", "(II)Z"⟩
abbrev cX8_price : ByteArray := prog_1_method_5_code
def yX8_price : MethodName := ⟨RX8, "price", "(II)Z"⟩
abbrev cX8_trade : ByteArray := prog_1_method_6_code
def yX8_trade : MethodName := ⟨RX8, "trade", "(IIIII)I"⟩
abbrev cX8_apart : ByteArray := prog_1_method_7_code
def yX8_apart : MethodName := ⟨RX8, "apart", "(IIIII)I"⟩
abbrev cX8_dividend : ByteArray := prog_1_method_8_code
def yX8_dividend : MethodName := ⟨RX8, "dividend", "(II)Z"⟩
abbrev cX8_move : ByteArray := prog_1_method_9_code
def yX8_move : MethodName := ⟨RX8, "move", "(IIII)Z"⟩
abbrev cX8_split : ByteArray := prog_1_method_10_code
def yX8_split : MethodName := ⟨RX8, "split", "(II)Z"⟩
abbrev cX8_suspend : ByteArray := prog_1_method_11_code
def yX8_suspend : MethodName := ⟨RX8, "suspend", "(IZ)Z"⟩
abbrev cX8_collateral : ByteArray := prog_1_method_12_code
def yX8_collateral : MethodName := ⟨RX8, "collateral", "(II)Z"⟩
abbrev cX8_night : ByteArray := prog_1_method_13_code
def yX8_night : MethodName := ⟨RX8, "night", "(I)I"⟩
abbrev cX8_give : ByteArray := prog_1_method_14_code
def yX8_give : MethodName := ⟨RX8, "give", "(III)I"⟩
abbrev cX8_call : ByteArray := prog_1_method_15_code
def yX8_call : MethodName := ⟨RX8, "call", "(I)I"⟩
abbrev cX8_feed : ByteArray := prog_1_method_16_code
def yX8_feed : MethodName := ⟨RX8, "feed", "(IIIII)I"⟩
abbrev cX8_end : ByteArray := prog_1_method_17_code
def yX8_end : MethodName := ⟨RX8, "end", "(I)Z"⟩
abbrev cX8_plan : ByteArray := prog_1_method_18_code
def yX8_plan : MethodName := ⟨RX8, "plan", "()I"⟩
abbrev cX8_fault : ByteArray := prog_1_method_19_code
def yX8_fault : MethodName := ⟨RX8, "fault", "(I)I"⟩
abbrev cX8_run : ByteArray := prog_1_method_20_code
def yX8_run : MethodName := ⟨RX8, "run", "(I)I"⟩
abbrev cX8_perform : ByteArray := prog_1_method_21_code
def yX8_perform : MethodName := ⟨RX8, "perform", "(I)Z"⟩
abbrev cX8_image : ByteArray := prog_1_method_22_code
def yX8_image : MethodName := ⟨RX8, "image", "(Z)Z"⟩
abbrev cX8_at : ByteArray := prog_1_method_23_code
def yX8_at : MethodName := ⟨RX8, "at", "(III)I"⟩
abbrev cX8_lot : ByteArray := prog_1_method_24_code
def yX8_lot : MethodName := ⟨RX8, "lot", "(IIII)I"⟩
abbrev cX8_cash : ByteArray := prog_1_method_25_code
def yX8_cash : MethodName := ⟨RX8, "cash", "(I)J"⟩
abbrev cX8_deal : ByteArray := prog_1_method_26_code
def yX8_deal : MethodName := ⟨RX8, "deal", "(II)I"⟩
abbrev cX8_notice : ByteArray := prog_1_method_27_code
def yX8_notice : MethodName := ⟨RX8, "notice", "(II)I"⟩
abbrev cX8_issue : ByteArray := prog_1_method_28_code
def yX8_issue : MethodName := ⟨RX8, "issue", "(II)I"⟩
abbrev cX8_book : ByteArray := prog_1_method_29_code
def yX8_book : MethodName := ⟨RX8, "book", "(II)I"⟩
abbrev cX8_margin : ByteArray := prog_1_method_30_code
def yX8_margin : MethodName := ⟨RX8, "margin", "(II)J"⟩
abbrev cX8_stress : ByteArray := prog_1_method_31_code
def yX8_stress : MethodName := ⟨RX8, "stress", "(I)I"⟩
abbrev cX8_queue : ByteArray := prog_1_method_32_code
def yX8_queue : MethodName := ⟨RX8, "queue", "(III)I"⟩
abbrev cX8_aged : ByteArray := prog_1_method_33_code
def yX8_aged : MethodName := ⟨RX8, "aged", "(II)I"⟩
abbrev cX8_statement : ByteArray := prog_1_method_34_code
def yX8_statement : MethodName := ⟨RX8, "statement", "(IIZ)I"⟩
abbrev cX8_tomorrow : ByteArray := prog_1_method_35_code
def yX8_tomorrow : MethodName := ⟨RX8, "tomorrow", "(III)I"⟩
abbrev cX8_ahead : ByteArray := prog_1_method_36_code
def yX8_ahead : MethodName := ⟨RX8, "ahead", "(II)I"⟩
abbrev cX8_reached : ByteArray := prog_1_method_37_code
def yX8_reached : MethodName := ⟨RX8, "reached", "(II)I"⟩
abbrev cX8_look : ByteArray := prog_1_method_38_code
def yX8_look : MethodName := ⟨RX8, "look", "(I)I"⟩
abbrev cX8_within : ByteArray := prog_1_method_39_code
def yX8_within : MethodName := ⟨RX8, "within", "(III)Z"⟩
abbrev cX8_isIssue : ByteArray := prog_1_method_40_code
def yX8_isIssue : MethodName := ⟨RX8, "isIssue", "(I)Z"⟩
def RX9 : String := "RollingNetsModel"
def TX9 : u_T := fun k => match k with
  | 0 => ("RollingNetsModel", "told", "I", false)
  | 1 => ("RollingNetsModel", "now", "[I", true)
  | 2 => ("RollingNetsModel", "waiting", "[I", true)
  | 3 => ("RollingNetsModel", "coins", "[J", true)
  | 4 => ("RollingNetsModel", "coinsWaiting", "[J", true)
  | 5 => ("RollingNetsModel", "foundDay", "I", false)
  | 6 => ("RollingNetsModel", "foundLot", "I", false)
  | 7 => ("RollingNetsModel", "chainMany", "I", false)
  | 8 => ("RollingNetsModel", "chain", "[I", true)
  | 9 => ("RollingNetsModel", "chainLast", "I", false)
  | 10 => ("RollingNetsModel", "queueMany", "I", false)
  | 11 => ("RollingNetsModel", "queueMember", "[I", true)
  | 12 => ("RollingNetsModel", "queueDay", "[I", true)
  | 13 => ("RollingNetsModel", "queueShares", "[I", true)
  | 14 => ("RollingNetsModel", "pool", "I", false)
  | 15 => ("RollingNetsModel", "didDeliver", "[Z", true)
  | 16 => ("RollingNetsModel", "tape", "[I", true)
  | 17 => ("RollingNetsModel", "taped", "I", false)
  | 18 => ("RollingNetsModel", "spot", "I", false)
  | 19 => ("RollingNetsModel", "from", "I", false)
  | 20 => ("RollingNetsModel", "token", "I", false)
  | 21 => ("RollingNetsModel", "value", "I", false)
  | 22 => ("RollingNetsModel", "words", "[I", true)
  | 23 => ("RollingNetsModel", "readFault", "I", false)
  | 24 => ("RollingNetsModel", "readPlace", "I", false)
  | 25 => ("RollingNetsModel", "faultKind", "I", false)
  | 26 => ("RollingNetsModel", "faultPlace", "I", false)
  | 27 => ("RollingNetsModel", "planMany", "I", false)
  | 28 => ("RollingNetsModel", "plans", "[I", true)
  | 29 => ("RollingNetsModel", "hasImage", "Z", false)
  | 30 => ("RollingNetsModel", "images", "[I", true)
  | _ => ("RollingNetsModel", "imagedCoins", "[J", true)
def tyX9 : Nat → FieldType := fun k => match k with
  | 0 => .int
  | 1 => .array .int
  | 2 => .array .int
  | 3 => .array .long
  | 4 => .array .long
  | 5 => .int
  | 6 => .int
  | 7 => .int
  | 8 => .array .int
  | 9 => .int
  | 10 => .int
  | 11 => .array .int
  | 12 => .array .int
  | 13 => .array .int
  | 14 => .int
  | 15 => .array .boolean
  | 16 => .array .int
  | 17 => .int
  | 18 => .int
  | 19 => .int
  | 20 => .int
  | 21 => .int
  | 22 => .array .int
  | 23 => .int
  | 24 => .int
  | 25 => .int
  | 26 => .int
  | 27 => .int
  | 28 => .array .int
  | 29 => .boolean
  | 30 => .array .int
  | _ => .array .long
theorem nmX9 : ∀ a, a < 32 → ∀ b, b < 32 → a ≠ b → (TX9 a).2.1 ≠ (TX9 b).2.1 := by decide +kernel
theorem tyX9_ok : ∀ k, k < 32 → parseFieldDescriptor (TX9 k).2.2.1 = some (tyX9 k) := by decide +kernel
abbrev cX9_init : ByteArray := prog_11_method_1_code
def yX9_init : MethodName := ⟨RX9, "<init>", "()V"⟩
abbrev cX9_isIn : ByteArray := prog_11_method_3_code
def yX9_isIn : MethodName := ⟨RX9, "isIn", "(III)Z"⟩
abbrev cX9_greater : ByteArray := prog_11_method_4_code
def yX9_greater : MethodName := ⟨RX9, "greater", "(II)I"⟩
abbrev cX9_lesser : ByteArray := prog_11_method_5_code
def yX9_lesser : MethodName := ⟨RX9, "lesser", "(II)I"⟩
abbrev cX9_has : ByteArray := prog_11_method_6_code
def yX9_has : MethodName := ⟨RX9, "has", "(II)Z"⟩
abbrev cX9_memberMany : ByteArray := prog_11_method_7_code
def yX9_memberMany : MethodName := ⟨RX9, "memberMany", "()I"⟩
abbrev cX9_isMember : ByteArray := prog_11_method_8_code
def yX9_isMember : MethodName := ⟨RX9, "isMember", "(I)Z"⟩
abbrev cX9_isIssue : ByteArray := prog_11_method_9_code
def yX9_isIssue : MethodName := ⟨RX9, "isIssue", "(I)Z"⟩
abbrev cX9_priceOf : ByteArray := prog_11_method_10_code
def yX9_priceOf : MethodName := ⟨RX9, "priceOf", "(I)I"⟩
abbrev cX9_markedOf : ByteArray := prog_11_method_11_code
def yX9_markedOf : MethodName := ⟨RX9, "markedOf", "(I)I"⟩
abbrev cX9_cellOf : ByteArray := prog_11_method_12_code
def yX9_cellOf : MethodName := ⟨RX9, "cellOf", "(II)I"⟩
abbrev cX9_stockOf : ByteArray := prog_11_method_13_code
def yX9_stockOf : MethodName := ⟨RX9, "stockOf", "(II)I"⟩
abbrev cX9_stockMore : ByteArray := prog_11_method_14_code
def yX9_stockMore : MethodName := ⟨RX9, "stockMore", "(III)V"⟩
abbrev cX9_freeOf : ByteArray := prog_11_method_15_code
def yX9_freeOf : MethodName := ⟨RX9, "freeOf", "(II)I"⟩
abbrev cX9_cashMore : ByteArray := prog_11_method_16_code
def yX9_cashMore : MethodName := ⟨RX9, "cashMore", "(IJ)V"⟩
abbrev cX9_canSet : ByteArray := prog_11_method_17_code
def yX9_canSet : MethodName := ⟨RX9, "canSet", "(II)Z"⟩
abbrev cX9_firstOf : ByteArray := prog_11_method_18_code
def yX9_firstOf : MethodName := ⟨RX9, "firstOf", "(I)I"⟩
abbrev cX9_settingOf : ByteArray := prog_11_method_19_code
def yX9_settingOf : MethodName := ⟨RX9, "settingOf", "(I)I"⟩
abbrev cX9_set : ByteArray := prog_11_method_20_code
def yX9_set : MethodName := ⟨RX9, "set", "(II)Z"⟩
abbrev cX9_tell : ByteArray := prog_11_method_21_code
def yX9_tell : MethodName := ⟨RX9, "tell", "(IIII)Z"⟩
abbrev cX9_price : ByteArray := prog_11_method_22_code
def yX9_price : MethodName := ⟨RX9, "price", "(II)Z"⟩
abbrev cX9_dividend : ByteArray := prog_11_method_23_code
def yX9_dividend : MethodName := ⟨RX9, "dividend", "(II)Z"⟩
abbrev cX9_move : ByteArray := prog_11_method_24_code
def yX9_move : MethodName := ⟨RX9, "move", "(IIII)Z"⟩
abbrev cX9_suspend : ByteArray := prog_11_method_25_code
def yX9_suspend : MethodName := ⟨RX9, "suspend", "(IZ)Z"⟩
abbrev cX9_collateral : ByteArray := prog_11_method_26_code
def yX9_collateral : MethodName := ⟨RX9, "collateral", "(II)Z"⟩
abbrev cX9_lotMany : ByteArray := prog_11_method_27_code
def yX9_lotMany : MethodName := ⟨RX9, "lotMany", "(II)I"⟩
abbrev cX9_lotAt : ByteArray := prog_11_method_28_code
def yX9_lotAt : MethodName := ⟨RX9, "lotAt", "(III)I"⟩
abbrev cX9_dayOf : ByteArray := prog_11_method_29_code
def yX9_dayOf : MethodName := ⟨RX9, "dayOf", "(III)I"⟩
abbrev cX9_sharesOf : ByteArray := prog_11_method_30_code
def yX9_sharesOf : MethodName := ⟨RX9, "sharesOf", "(III)I"⟩
abbrev cX9_positionOf : ByteArray := prog_11_method_31_code
def yX9_positionOf : MethodName := ⟨RX9, "positionOf", "(II)I"⟩
abbrev cX9_isShort : ByteArray := prog_11_method_32_code
def yX9_isShort : MethodName := ⟨RX9, "isShort", "(II)Z"⟩
abbrev cX9_isLong : ByteArray := prog_11_method_33_code
def yX9_isLong : MethodName := ⟨RX9, "isLong", "(II)Z"⟩
abbrev cX9_shortOf : ByteArray := prog_11_method_34_code
def yX9_shortOf : MethodName := ⟨RX9, "shortOf", "(II)I"⟩
abbrev cX9_longOf : ByteArray := prog_11_method_35_code
def yX9_longOf : MethodName := ⟨RX9, "longOf", "(II)I"⟩
abbrev cX9_dropsLot : ByteArray := prog_11_method_36_code
def yX9_dropsLot : MethodName := ⟨RX9, "dropsLot", "(III)V"⟩
abbrev cX9_takesOf : ByteArray := prog_11_method_37_code
def yX9_takesOf : MethodName := ⟨RX9, "takesOf", "(IIII)V"⟩
abbrev cX9_takesOff : ByteArray := prog_11_method_38_code
def yX9_takesOff : MethodName := ⟨RX9, "takesOff", "(III)V"⟩
abbrev cX9_adds : ByteArray := prog_11_method_39_code
def yX9_adds : MethodName := ⟨RX9, "adds", "(IIII)V"⟩
abbrev cX9_tradeAt : ByteArray := prog_11_method_40_code
def yX9_tradeAt : MethodName := ⟨RX9, "tradeAt", "(I)I"⟩
abbrev cX9_tradeOf : ByteArray := prog_11_method_41_code
def yX9_tradeOf : MethodName := ⟨RX9, "tradeOf", "(II)I"⟩
abbrev cX9_isTrade : ByteArray := prog_11_method_42_code
def yX9_isTrade : MethodName := ⟨RX9, "isTrade", "(I)Z"⟩
abbrev cX9_trades : ByteArray := prog_11_method_43_code
def yX9_trades : MethodName := ⟨RX9, "trades", "(IIIIII)I"⟩
abbrev cX9_trade : ByteArray := prog_11_method_44_code
def yX9_trade : MethodName := ⟨RX9, "trade", "(IIIII)I"⟩
abbrev cX9_apart : ByteArray := prog_11_method_45_code
def yX9_apart : MethodName := ⟨RX9, "apart", "(IIIII)I"⟩
abbrev cX9_writes : ByteArray := prog_11_method_46_code
def yX9_writes : MethodName := ⟨RX9, "writes", "(IIIII)V"⟩
abbrev cX9_isRipe : ByteArray := prog_11_method_47_code
def yX9_isRipe : MethodName := ⟨RX9, "isRipe", "(III)Z"⟩
abbrev cX9_noticeAt : ByteArray := prog_11_method_48_code
def yX9_noticeAt : MethodName := ⟨RX9, "noticeAt", "(I)I"⟩
abbrev cX9_noticeOf : ByteArray := prog_11_method_49_code
def yX9_noticeOf : MethodName := ⟨RX9, "noticeOf", "(II)I"⟩
abbrev cX9_isOpenNet : ByteArray := prog_11_method_50_code
def yX9_isOpenNet : MethodName := ⟨RX9, "isOpenNet", "(II)Z"⟩
abbrev cX9_isNoticed : ByteArray := prog_11_method_51_code
def yX9_isNoticed : MethodName := ⟨RX9, "isNoticed", "(II)Z"⟩
abbrev cX9_assignedTo : ByteArray := prog_11_method_52_code
def yX9_assignedTo : MethodName := ⟨RX9, "assignedTo", "(II)I"⟩
abbrev cX9_takesAssigned : ByteArray := prog_11_method_53_code
def yX9_takesAssigned : MethodName := ⟨RX9, "takesAssigned", "(III)V"⟩
abbrev cX9_newNotice : ByteArray := prog_11_method_54_code
def yX9_newNotice : MethodName := ⟨RX9, "newNotice", "(IIII)I"⟩
abbrev cX9_nextShort : ByteArray := prog_11_method_55_code
def yX9_nextShort : MethodName := ⟨RX9, "nextShort", "(III)I"⟩
abbrev cX9_oldLong : ByteArray := prog_11_method_56_code
def yX9_oldLong : MethodName := ⟨RX9, "oldLong", "(II)I"⟩
abbrev cX9_give : ByteArray := prog_11_method_57_code
def yX9_give : MethodName := ⟨RX9, "give", "(III)I"⟩
abbrev cX9_hasNotice : ByteArray := prog_11_method_58_code
def yX9_hasNotice : MethodName := ⟨RX9, "hasNotice", "(I)Z"⟩
abbrev cX9_isOpenApart : ByteArray := prog_11_method_59_code
def yX9_isOpenApart : MethodName := ⟨RX9, "isOpenApart", "(I)Z"⟩
abbrev cX9_call : ByteArray := prog_11_method_60_code
def yX9_call : MethodName := ⟨RX9, "call", "(I)I"⟩
abbrev cX9_buyPrice : ByteArray := prog_11_method_61_code
def yX9_buyPrice : MethodName := ⟨RX9, "buyPrice", "(I)I"⟩
abbrev cX9_closesFrom : ByteArray := prog_11_method_62_code
def yX9_closesFrom : MethodName := ⟨RX9, "closesFrom", "(II)V"⟩
abbrev cX9_nextOfChain : ByteArray := prog_11_method_63_code
def yX9_nextOfChain : MethodName := ⟨RX9, "nextOfChain", "(IIII)I"⟩
abbrev cX9_laysChain : ByteArray := prog_11_method_64_code
def yX9_laysChain : MethodName := ⟨RX9, "laysChain", "(II)V"⟩
abbrev cX9_closesApart : ByteArray := prog_11_method_65_code
def yX9_closesApart : MethodName := ⟨RX9, "closesApart", "(I)V"⟩
abbrev cX9_closes : ByteArray := prog_11_method_66_code
def yX9_closes : MethodName := ⟨RX9, "closes", "(I)V"⟩
abbrev cX9_reached : ByteArray := prog_11_method_67_code
def yX9_reached : MethodName := ⟨RX9, "reached", "(II)I"⟩
abbrev cX9_goesAhead : ByteArray := prog_11_method_68_code
def yX9_goesAhead : MethodName := ⟨RX9, "goesAhead", "(IIIII)Z"⟩
abbrev cX9_laysQueue : ByteArray := prog_11_method_69_code
def yX9_laysQueue : MethodName := ⟨RX9, "laysQueue", "(II)V"⟩
abbrev cX9_firstServed : ByteArray := prog_11_method_70_code
def yX9_firstServed : MethodName := ⟨RX9, "firstServed", "(I)I"⟩
abbrev cX9_nets : ByteArray := prog_11_method_71_code
def yX9_nets : MethodName := ⟨RX9, "nets", "(I)V"⟩
abbrev cX9_deliversOf : ByteArray := prog_11_method_72_code
def yX9_deliversOf : MethodName := ⟨RX9, "deliversOf", "(II)V"⟩
abbrev cX9_delivers : ByteArray := prog_11_method_73_code
def yX9_delivers : MethodName := ⟨RX9, "delivers", "(I)V"⟩
abbrev cX9_allots : ByteArray := prog_11_method_74_code
def yX9_allots : MethodName := ⟨RX9, "allots", "(I)V"⟩
abbrev cX9_canLend : ByteArray := prog_11_method_75_code
def yX9_canLend : MethodName := ⟨RX9, "canLend", "(II)I"⟩
abbrev cX9_lenderFor : ByteArray := prog_11_method_76_code
def yX9_lenderFor : MethodName := ⟨RX9, "lenderFor", "(II)I"⟩
abbrev cX9_lotOfDay : ByteArray := prog_11_method_77_code
def yX9_lotOfDay : MethodName := ⟨RX9, "lotOfDay", "(III)I"⟩
abbrev cX9_lendsTo : ByteArray := prog_11_method_78_code
def yX9_lendsTo : MethodName := ⟨RX9, "lendsTo", "(III)V"⟩
abbrev cX9_lends : ByteArray := prog_11_method_79_code
def yX9_lends : MethodName := ⟨RX9, "lends", "(I)V"⟩
abbrev cX9_doesApart : ByteArray := prog_11_method_80_code
def yX9_doesApart : MethodName := ⟨RX9, "doesApart", "(I)V"⟩
abbrev cX9_fails : ByteArray := prog_11_method_81_code
def yX9_fails : MethodName := ⟨RX9, "fails", "(II)V"⟩
abbrev cX9_marks : ByteArray := prog_11_method_82_code
def yX9_marks : MethodName := ⟨RX9, "marks", "(I)V"⟩
abbrev cX9_goesNight : ByteArray := prog_11_method_83_code
def yX9_goesNight : MethodName := ⟨RX9, "goesNight", "()V"⟩
abbrev cX9_night : ByteArray := prog_11_method_84_code
def yX9_night : MethodName := ⟨RX9, "night", "(I)I"⟩
abbrev cX9_isFinished : ByteArray := prog_11_method_85_code
def yX9_isFinished : MethodName := ⟨RX9, "isFinished", "(I)Z"⟩
abbrev cX9_canGrow : ByteArray := prog_11_method_86_code
def yX9_canGrow : MethodName := ⟨RX9, "canGrow", "(II)Z"⟩
abbrev cX9_canSplit : ByteArray := prog_11_method_87_code
def yX9_canSplit : MethodName := ⟨RX9, "canSplit", "(II)Z"⟩
abbrev cX9_split : ByteArray := prog_11_method_88_code
def yX9_split : MethodName := ⟨RX9, "split", "(II)Z"⟩
abbrev cX9_demandOf : ByteArray := prog_11_method_89_code
def yX9_demandOf : MethodName := ⟨RX9, "demandOf", "(I)J"⟩
abbrev cX9_lacksOf : ByteArray := prog_11_method_90_code
def yX9_lacksOf : MethodName := ⟨RX9, "lacksOf", "(I)J"⟩
abbrev cX9_margin : ByteArray := prog_11_method_91_code
def yX9_margin : MethodName := ⟨RX9, "margin", "(II)J"⟩
abbrev cX9_stress : ByteArray := prog_11_method_92_code
def yX9_stress : MethodName := ⟨RX9, "stress", "(I)I"⟩
abbrev cX9_atOf : ByteArray := prog_11_method_93_code
def yX9_atOf : MethodName := ⟨RX9, "atOf", "(III)I"⟩
abbrev cX9_at : ByteArray := prog_11_method_94_code
def yX9_at : MethodName := ⟨RX9, "at", "(III)I"⟩
abbrev cX9_tomorrow : ByteArray := prog_11_method_95_code
def yX9_tomorrow : MethodName := ⟨RX9, "tomorrow", "(III)I"⟩
abbrev cX9_lot : ByteArray := prog_11_method_96_code
def yX9_lot : MethodName := ⟨RX9, "lot", "(IIII)I"⟩
abbrev cX9_cash : ByteArray := prog_11_method_97_code
def yX9_cash : MethodName := ⟨RX9, "cash", "(I)J"⟩
abbrev cX9_deal : ByteArray := prog_11_method_98_code
def yX9_deal : MethodName := ⟨RX9, "deal", "(II)I"⟩
abbrev cX9_notice : ByteArray := prog_11_method_99_code
def yX9_notice : MethodName := ⟨RX9, "notice", "(II)I"⟩
abbrev cX9_sumOf : ByteArray := prog_11_method_100_code
def yX9_sumOf : MethodName := ⟨RX9, "sumOf", "(II)I"⟩
abbrev cX9_eldest : ByteArray := prog_11_method_101_code
def yX9_eldest : MethodName := ⟨RX9, "eldest", "(I)I"⟩
abbrev cX9_openOf : ByteArray := prog_11_method_102_code
def yX9_openOf : MethodName := ⟨RX9, "openOf", "(II)I"⟩
abbrev cX9_tradedOf : ByteArray := prog_11_method_103_code
def yX9_tradedOf : MethodName := ⟨RX9, "tradedOf", "(IZ)I"⟩
abbrev cX9_issue : ByteArray := prog_11_method_104_code
def yX9_issue : MethodName := ⟨RX9, "issue", "(II)I"⟩
abbrev cX9_book : ByteArray := prog_11_method_105_code
def yX9_book : MethodName := ⟨RX9, "book", "(II)I"⟩
abbrev cX9_statement : ByteArray := prog_11_method_106_code
def yX9_statement : MethodName := ⟨RX9, "statement", "(IIZ)I"⟩
abbrev cX9_queue : ByteArray := prog_11_method_107_code
def yX9_queue : MethodName := ⟨RX9, "queue", "(III)I"⟩
abbrev cX9_ahead : ByteArray := prog_11_method_108_code
def yX9_ahead : MethodName := ⟨RX9, "ahead", "(II)I"⟩
abbrev cX9_aged : ByteArray := prog_11_method_109_code
def yX9_aged : MethodName := ⟨RX9, "aged", "(II)I"⟩
abbrev cX9_types : ByteArray := prog_11_method_110_code
def yX9_types : MethodName := ⟨RX9, "types", "(I)V"⟩
abbrev cX9_feed : ByteArray := prog_11_method_111_code
def yX9_feed : MethodName := ⟨RX9, "feed", "(IIIII)I"⟩
abbrev cX9_end : ByteArray := prog_11_method_112_code
def yX9_end : MethodName := ⟨RX9, "end", "(I)Z"⟩
abbrev cX9_raw : ByteArray := prog_11_method_113_code
def yX9_raw : MethodName := ⟨RX9, "raw", "(I)I"⟩
abbrev cX9_isLetter : ByteArray := prog_11_method_114_code
def yX9_isLetter : MethodName := ⟨RX9, "isLetter", "(I)Z"⟩
abbrev cX9_isDigit : ByteArray := prog_11_method_115_code
def yX9_isDigit : MethodName := ⟨RX9, "isDigit", "(I)Z"⟩
abbrev cX9_wordAt : ByteArray := prog_11_method_116_code
def yX9_wordAt : MethodName := ⟨RX9, "wordAt", "(II)I"⟩
abbrev cX9_reads : ByteArray := prog_11_method_117_code
def yX9_reads : MethodName := ⟨RX9, "reads", "()V"⟩
abbrev cX9_errs : ByteArray := prog_11_method_118_code
def yX9_errs : MethodName := ⟨RX9, "errs", "(I)I"⟩
abbrev cX9_readNumber : ByteArray := prog_11_method_119_code
def yX9_readNumber : MethodName := ⟨RX9, "readNumber", "(II)I"⟩
abbrev cX9_manyOf : ByteArray := prog_11_method_120_code
def yX9_manyOf : MethodName := ⟨RX9, "manyOf", "(I)I"⟩
abbrev cX9_lowOf : ByteArray := prog_11_method_121_code
def yX9_lowOf : MethodName := ⟨RX9, "lowOf", "(II)I"⟩
abbrev cX9_highOf : ByteArray := prog_11_method_122_code
def yX9_highOf : MethodName := ⟨RX9, "highOf", "(II)I"⟩
abbrev cX9_readLine : ByteArray := prog_11_method_123_code
def yX9_readLine : MethodName := ⟨RX9, "readLine", "(I)I"⟩
abbrev cX9_readPlan : ByteArray := prog_11_method_124_code
def yX9_readPlan : MethodName := ⟨RX9, "readPlan", "()I"⟩
abbrev cX9_plan : ByteArray := prog_11_method_125_code
def yX9_plan : MethodName := ⟨RX9, "plan", "()I"⟩
abbrev cX9_fault : ByteArray := prog_11_method_126_code
def yX9_fault : MethodName := ⟨RX9, "fault", "(I)I"⟩
abbrev cX9_runsLine : ByteArray := prog_11_method_127_code
def yX9_runsLine : MethodName := ⟨RX9, "runsLine", "(I)Z"⟩
abbrev cX9_run : ByteArray := prog_11_method_128_code
def yX9_run : MethodName := ⟨RX9, "run", "(I)I"⟩
abbrev cX9_allCash : ByteArray := prog_11_method_129_code
def yX9_allCash : MethodName := ⟨RX9, "allCash", "()I"⟩
abbrev cX9_openNotices : ByteArray := prog_11_method_130_code
def yX9_openNotices : MethodName := ⟨RX9, "openNotices", "()I"⟩
abbrev cX9_shortSet : ByteArray := prog_11_method_131_code
def yX9_shortSet : MethodName := ⟨RX9, "shortSet", "()I"⟩
abbrev cX9_lackMany : ByteArray := prog_11_method_132_code
def yX9_lackMany : MethodName := ⟨RX9, "lackMany", "()I"⟩
abbrev cX9_look : ByteArray := prog_11_method_133_code
def yX9_look : MethodName := ⟨RX9, "look", "(I)I"⟩
abbrev cX9_image : ByteArray := prog_11_method_134_code
def yX9_image : MethodName := ⟨RX9, "image", "(Z)Z"⟩
end
section
/-! MEMORY: 566 cells from B on; what they hold is told by ints and longs -/
abbrev Iv : Type := Nat → Nat → Int32
abbrev Lv : Type := Nat → Nat → Int64
def upI (iv : Iv) (k j : Nat) (x : Int32) : Iv := fun a => if a = k then upd (iv k) j x else iv a
def upL (lv : Lv) (k j : Nat) (x : Int64) : Lv := fun a => if a = k then vp_updL (lv k) j x else lv a
theorem upI_s {iv : Iv} {k j : Nat} {x : Int32} : upI iv k j x k = upd (iv k) j x := if_pos rfl
theorem upI_n {iv : Iv} {k j a : Nat} {x : Int32} (h : a ≠ k) : upI iv k j x a = iv a := if_neg h
theorem upL_s {lv : Lv} {k j : Nat} {x : Int64} : upL lv k j x k = vp_updL (lv k) j x := if_pos rfl
theorem upL_n {lv : Lv} {k j a : Nat} {x : Int64} (h : a ≠ k) : upL lv k j x a = lv a := if_neg h
theorem upI_at {iv : Iv} {k j a b : Nat} {x : Int32} : upI iv k j x a b = if a = k ∧ b = j then x else iv a b := by
  unfold upI upd
  by_cases h : a = k
  · subst h; simp
  · simp [h]
theorem upL_at {lv : Lv} {k j a b : Nat} {x : Int64} : upL lv k j x a b = if a = k ∧ b = j then x else lv a b := by
  unfold upL vp_updL
  by_cases h : a = k
  · subst h; simp
  · simp [h]
/-- launch, classes, array classes, base, the three static arrays -/
abbrev GE : Type := Launch × va_G × (Nat → ClassId) × Nat × (Nat → Nat)
abbrev gL (g : GE) : Launch := g.1
abbrev gD (g : GE) : va_G := g.2.1
abbrev gE (g : GE) : Nat → ClassId := g.2.2.1
abbrev gB (g : GE) : Nat := g.2.2.2.1
abbrev gt (g : GE) : Nat → Nat := g.2.2.2.2
def rf (g : GE) (k : Nat) : Value := .ref (gB g + k)
def rt (g : GE) (i : Nat) : Value := .ref (gt g i)
abbrev FF : Type := (Nat → Int32) → (Nat → Int64) → va_E
abbrev aI (g : GE) (n : Nat) : FF := fun f _ => .inl (gE g 0, n, .inl f)
abbrev aL (g : GE) (n : Nat) : FF := fun _ f => .inl (gE g 1, n, .inr (.inl f))
abbrev aZ (g : GE) (n : Nat) : FF := fun f _ => .inl (gE g 2, n, .inl f)
abbrev aR (g : GE) (c n : Nat) (r : Nat → Nat) : FF := fun _ _ => .inl (gE g c, n, .inr (.inr (.inr (.inr (fun i => if i < n then some (gB g + r i) else none)))))
def oT (g : GE) (t n : Nat) : FF := fun f _ => .inr (2, [rf g (t + 1), .int (nI n), .int (f 2)])
def oM (g : GE) (m : Nat) : FF := fun f _ => .inr (4, [rf g (m + 1), rf g (m + 2), rf g (m + 3), rf g (m + 4), rf g (m + 5), rf g (m + 6), rf g (m + 7), .int (f 7), .int (f 8), .int (f 9), .int (f 10)])
def oN (g : GE) (n : Nat) : FF := fun f _ => .inr (3, [rf g (n + 1), rf g (n + 2), .int (f 2), rf g (n + 3)])
def oH (g : GE) (h : Nat) : FF := fun f q => .inr (1, [rf g (h + 1), rf g (h + 2), rf g (h + 3), rf g (h + 4), rf g (h + 5), rf g (h + 6), rf g (h + 7), rf g (h + 17), rf g (h + 38), rf g (h + 46), .int (f 10), .int (f 11), .long (q 12), rf g (h + 54), rf g (h + 58), .int (f 15), rf g (h + 59)])
def oX (g : GE) : FF := fun f _ => .inr (0, [rf g 1, rf g 181, rf g 361, rf g 541, .int (f 4)])
def oR (g : GE) : FF := fun f _ => .inr (5, [rf g 542, .int (f 1), rf g 543, .int (f 3), .int (f 4), .int (f 5)])
def oY (g : GE) : FF := fun f _ => .inr (6, [.int (f 0), rf g 552, rf g 553, rf g 554, rf g 555, .int (f 5), .int (f 6), .int (f 7), rf g 556, .int (f 9), .int (f 10), rf g 557, rf g 558, rf g 559, .int (f 14), rf g 560, rf g 561, .int (f 17), .int (f 18), .int (f 19), .int (f 20), .int (f 21), rf g 562, .int (f 23), .int (f 24), .int (f 25), .int (f 26), .int (f 27), rf g 563, .int (f 29), rf g 564, rf g 565])
def cT (g : GE) (t c n q : Nat) : FF := if q = 0 then oT g t n else if q = 1 then aR g 4 c (fun i => t + 2 + i) else aI g n
def cM (g : GE) (m q : Nat) : FF := if q = 0 then oM g m else if q = 1 then aL g 12 else if q < 7 then aI g 12 else if q = 7 then aR g 4 12 (fun i => m + 8 + i) else aI g 100
def cN (g : GE) (n q : Nat) : FF := if q = 0 then oN g n else if q < 3 then aI g 1200 else aI g 12
def cH (g : GE) (h r : Nat) : FF := if r = 0 then oH g h else if r = 1 then aI g 7 else if r = 2 then aL g 12 else if r < 5 then aI g 12 else if r = 5 then aZ g 12 else if r = 6 then aR g 3 6 (fun i => h + 60 + 20 * i)
  else if r < 17 then cT g (h + 7) 8 200 (r - 7) else if r < 38 then cT g (h + 17) 19 60 (r - 17) else if r < 46 then cT g (h + 38) 6 300 (r - 38) else if r < 54 then cT g (h + 46) 6 24 (r - 46)
  else if r < 58 then cN g (h + 54) (r - 54) else if r < 60 then aI g 12 else cM g (h + 60 + 20 * ((r - 60) / 20)) ((r - 60) % 20)
def cY (g : GE) (q : Nat) : FF := if q = 0 then oY g else if q < 3 then aI g 19782 else if q < 5 then aL g 13 else if q = 5 then aI g 13 else if q < 9 then aI g 1224 else if q = 9 then aZ g 12 else if q = 10 then aI g 400 else if q = 11 then aI g 57 else if q = 12 then aI g 288 else if q = 13 then aI g 19927 else aL g 13
def cA (g : GE) (k : Nat) : FF := if k = 0 then oX g else if k < 541 then cH g (1 + 180 * ((k - 1) / 180)) ((k - 1) % 180) else if k = 541 then oR g else if k = 542 then aI g 400 else if k < 551 then cT g 543 6 24 (k - 543) else cY g (k - 551)
/-- the cell of that name holds that -/
def Cl (g : GE) (k : Nat) (F : FF) : Prop := k < 566 ∧ cA g k = F
def cellsL (g : GE) (iv : Iv) (lv : Lv) : va_W := (List.range 566).map (fun k => (gB g + k, cA g k (iv k) (lv k)))
theorem cl_get {g : GE} {iv : Iv} {lv : Lv} {k : Nat} {F : FF} (h : Cl g k F) : (cellsL g iv lv)[k]? = some (gB g + k, F (iv k) (lv k)) := by
  obtain ⟨h1, h2⟩ := h
  subst h2
  unfold cellsL
  rw [List.getElem?_map, List.getElem?_range h1]
  rfl
theorem cl_raw {g : GE} {iv : Iv} {lv : Lv} {k : Nat} (h : k < 566) : (cellsL g iv lv)[k]? = some (gB g + k, cA g k (iv k) (lv k)) := cl_get ⟨h, rfl⟩
theorem cl_inv {g : GE} {iv : Iv} {lv : Lv} {k : Nat} {q : Nat × va_E} (h : (cellsL g iv lv)[k]? = some q) : k < 566 ∧ q.1 = gB g + k := by
  have hl := (List.getElem?_eq_some_iff.mp h).1
  have h2 : k < 566 := by unfold cellsL at hl; rw [List.length_map, List.length_range] at hl; exact hl
  rw [cl_raw h2] at h
  cases h
  exact ⟨h2, rfl⟩
theorem cl_ext {g : GE} {iv : Iv} {lv : Lv} {W : va_W} (hl : W.length = 566) (h : ∀ k, k < 566 → W[k]? = some (gB g + k, cA g k (iv k) (lv k))) : W = cellsL g iv lv := by
  apply List.ext_getElem?
  intro k
  by_cases hk : k < 566
  · rw [h k hk, cl_raw hk]
  · rw [List.getElem?_eq_none_iff.mpr (by omega), List.getElem?_eq_none_iff.mpr (by unfold cellsL; rw [List.length_map, List.length_range]; omega)]
theorem cl_len {g : GE} {iv : Iv} {lv : Lv} : (cellsL g iv lv).length = 566 := by unfold cellsL; rw [List.length_map, List.length_range]
theorem cl_set {g : GE} {iv iv' : Iv} {lv lv' : Lv} {k : Nat} {e : va_E} (hk : k < 566) (he : e = cA g k (iv' k) (lv' k)) (hi : ∀ a, a ≠ k → iv' a = iv a) (hl : ∀ a, a ≠ k → lv' a = lv a) : (cellsL g iv lv).set k (gB g + k, e) = cellsL g iv' lv' := by
  apply cl_ext
  · rw [List.length_set]; exact cl_len
  · intro a ha
    by_cases h : a = k
    · subst h
      rw [List.getElem?_set_self (by rw [cl_len]; exact hk), he]
    · rw [List.getElem?_set_ne (Ne.symm h), cl_raw ha, hi a h, hl a h]
theorem cl_D {g : GE} {iv : Iv} {lv : Lv} : va_D (fun q => gB g ≤ q) (cellsL g iv lv) := by
  refine ⟨fun i j p q hp hq h => ?_, fun k q hq => ?_⟩
  · have h1 := (cl_inv hp).2
    have h2 := (cl_inv hq).2
    omega
  · have h1 := (cl_inv hq).2
    show gB g ≤ q.1
    omega
abbrev CLS : List vw_C := [(RX8, TX8, 5), (RX1, TX1, 17), (RX7, TX7, 3), (RX2, TX2, 4), (RX3, TX3, 11), (RX6, TX6, 6), (RX9, TX9, 32)]
abbrev tysL (E : Nat → ClassId) : List (ClassId × FieldType) := [(E 0, .int), (E 1, .long), (E 2, .boolean), (E 3, .object "RollingNets$Market"), (E 4, .array .int)]
def gA (g : GE) : Nat → Prop := fun q => gB g ≤ q
def sN : Nat → String | 0 => "TOLD_FIRST" | 1 => "TOLD_LEAST" | _ => "TOLD_MOST"
def sV (i j : Nat) : Int32 := ((([[6, 2, 2, 3, 1, 10, 0], [2, 0, 1, 1, 0, 0, 0], [12, 3, 9, 9, 5, 100, 100]] : List (List Int32)).getD i []).getD j 0)
def Sx (g : GE) (U : State) (H : Heap) : Prop := ∀ i, i < 3 → va_Z "RollingNets" (sN i) "[I" (rt g i) (gA g) U H ∧ va_T .int (gt g i) 7 (fun j => .int (sV i j)) (gA g) U H
def Mo (g : GE) (iv : Iv) (lv : Lv) (H : Heap) : Prop := va_P (gD g) CLS (cellsL g iv lv) H
def Kn (g : GE) (U : State) : Prop := va_K (gD g) CLS (tysL (gE g)) U ∧ Sx g U U.heap
theorem Sx.moved {g : GE} {u U : State} {H : Heap} (hvm : u.vm.Alike U.vm) (h : Sx g u H) : Sx g U H := fun i hi => ⟨(h i hi).1.moved hvm, (h i hi).2.moved hvm⟩
theorem Sx.kept {g : GE} {U : State} {H H1 : Heap} (h : Sx g U H) (hq : ∀ a : Nat, a < H.size → ¬ gA g a → H1[a]? = H[a]?) : Sx g U H1 := fun i hi => ⟨(h i hi).1.kept hq, (h i hi).2.kept hq⟩
theorem Kn.moved {g : GE} {u U : State} {locs : List Loc} (hvm : u.vm.Alike U.vm) (hS : va_S (gA g) u.heap U.heap locs) (h : Kn g u) : Kn g U := ⟨h.1.moved hvm, (h.2.moved hvm).kept hS.2.1⟩
/-- all words of the tables -/
def TBL : List Cond := lw_tbl.filter goodWord
theorem TBL_good : TBL.all goodWord = true := List.all_eq_true.mpr (fun w hw => (List.mem_filter.mp hw).2)
theorem TBL_mem {w : Cond} (i : Nat) (h : lw_tbl[i]? = some w) (hg : goodWord w = true) : w ∈ TBL := List.mem_filter.mpr ⟨List.mem_of_getElem? h, hg⟩
theorem TBL_in {own : List Cond} (h : ∀ w ∈ own, w ∈ TBL) : GoodIn TBL own := fun w hw => ⟨h w hw, good_of_word (List.all_eq_true.mp TBL_good w (h w hw))⟩
def rmd (d : Nat) : Room := { frames := d, cells := 0, slots := 0, locals := 40 * d }
/-- A CONTRACT: on these arguments and this memory the method returns, so -/
def Con (g : GE) (y : MethodName) (b : ByteArray) (n : Nat) (ret : Option FieldType) (d : Nat) (as : List Value) (iv : Iv) (lv : Lv) (Q : Option Value → Iv → Lv → Prop) : Prop :=
  Met (gL g) y (.code y b n ret :: TBL) (rmd d) (va_Pc as (fun U => Mo g iv lv U.heap ∧ Kn g U)) (fun _ st oc t => ∃ v iv' lv', oc = .returned v ∧ Q v iv' lv' ∧ Mo g iv' lv' t.heap ∧ Kn g t ∧ va_F (gA g) st t) 0 0 (gA g)
/-- the locals -/
abbrev LO : Type := List (Option Value)
def lvL (ls : Array Slot) (nL : Nat) (L : LO) : Prop := ls.size = nL ∧ lv_wf ls ∧ ∀ (i : Nat) (v : Value), L[i]? = some (some v) → ls[i]? = some (.val v)
def clr : Option Value → Option Value
  | some v => if v.category = 2 then none else some v
  | none => none
def st1 : LO → Nat → Value → LO
  | [], _, _ => []
  | _ :: t, 0, v => some v :: t
  | a :: t, 1, v => clr a :: st1 t 0 v
  | a :: t, n + 2, v => a :: st1 t (n + 1) v
def st2 : LO → Nat → Value → LO
  | [], _, _ => []
  | _ :: t, 0, v => some v :: st1n t
  | a :: t, 1, v => clr a :: st2 t 0 v
  | a :: t, n + 2, v => a :: st2 t (n + 1) v
where st1n : LO → LO
  | [] => []
  | _ :: t => none :: t
theorem clr_some {o : Option Value} {v : Value} (h : clr o = some v) : o = some v ∧ ¬ v.category = 2 := by
  cases o with
  | none => cases h
  | some w =>
    by_cases hc : w.category = 2
    · rw [show clr (some w) = none from if_pos hc] at h
      cases h
    · rw [show clr (some w) = some w from if_neg hc] at h
      cases h
      exact ⟨rfl, hc⟩
theorem st1_spec : ∀ (L : LO) (i j : Nat) (v w : Value), (st1 L i v)[j]? = some (some w) → (j = i ∧ w = v) ∨ (j ≠ i ∧ L[j]? = some (some w) ∧ ¬ (j + 1 = i ∧ w.category = 2))
  | [], i, j, v, w, h => by simp [st1] at h
  | a :: t, 0, j, v, w, h => by
    cases j with
    | zero => simp [st1] at h; exact Or.inl ⟨rfl, h.symm⟩
    | succ j => simp [st1] at h; exact Or.inr ⟨by omega, by simpa using h, by omega⟩
  | a :: t, 1, j, v, w, h => by
    cases j with
    | zero =>
      simp [st1] at h
      obtain ⟨h1, h2⟩ := clr_some h
      exact Or.inr ⟨by omega, by simp [h1], fun q => h2 q.2⟩
    | succ j =>
      have h' : (st1 t 0 v)[j]? = some (some w) := by simpa [st1] using h
      rcases st1_spec t 0 j v w h' with ⟨e1, e2⟩ | ⟨e1, e2, e3⟩
      · exact Or.inl ⟨by omega, e2⟩
      · exact Or.inr ⟨by omega, by simpa using e2, by omega⟩
  | a :: t, n + 2, j, v, w, h => by
    cases j with
    | zero => simp [st1] at h; exact Or.inr ⟨by omega, by simp [h], by omega⟩
    | succ j =>
      have h' : (st1 t (n + 1) v)[j]? = some (some w) := by simpa [st1] using h
      rcases st1_spec t (n + 1) j v w h' with ⟨e1, e2⟩ | ⟨e1, e2, e3⟩
      · exact Or.inl ⟨by omega, e2⟩
      · exact Or.inr ⟨by omega, by simpa using e2, fun q => e3 ⟨by omega, q.2⟩⟩
theorem st2_spec : ∀ (L : LO) (i j : Nat) (v w : Value), (st2 L i v)[j]? = some (some w) → (j = i ∧ w = v) ∨ (j ≠ i ∧ j ≠ i + 1 ∧ L[j]? = some (some w) ∧ ¬ (j + 1 = i ∧ w.category = 2))
  | [], i, j, v, w, h => by simp [st2] at h
  | a :: t, 0, j, v, w, h => by
    cases j with
    | zero => simp [st2] at h; exact Or.inl ⟨rfl, h.symm⟩
    | succ j =>
      cases t with
      | nil => simp [st2, st2.st1n] at h
      | cons b t =>
        cases j with
        | zero => simp [st2, st2.st1n] at h
        | succ j => simp [st2, st2.st1n] at h; exact Or.inr ⟨by omega, by omega, by simpa using h, by omega⟩
  | a :: t, 1, j, v, w, h => by
    cases j with
    | zero =>
      simp [st2] at h
      obtain ⟨h1, h2⟩ := clr_some h
      exact Or.inr ⟨by omega, by omega, by simp [h1], fun q => h2 q.2⟩
    | succ j =>
      have h' : (st2 t 0 v)[j]? = some (some w) := by simpa [st2] using h
      rcases st2_spec t 0 j v w h' with ⟨e1, e2⟩ | ⟨e1, e1', e2, e3⟩
      · exact Or.inl ⟨by omega, e2⟩
      · exact Or.inr ⟨by omega, by omega, by simpa using e2, by omega⟩
  | a :: t, n + 2, j, v, w, h => by
    cases j with
    | zero => simp [st2] at h; exact Or.inr ⟨by omega, by omega, by simp [h], by omega⟩
    | succ j =>
      have h' : (st2 t (n + 1) v)[j]? = some (some w) := by simpa [st2] using h
      rcases st2_spec t (n + 1) j v w h' with ⟨e1, e2⟩ | ⟨e1, e1', e2, e3⟩
      · exact Or.inl ⟨by omega, e2⟩
      · exact Or.inr ⟨by omega, by omega, by simpa using e2, fun q => e3 ⟨by omega, q.2⟩⟩
def prs (L : LO) : List (Nat × Value) := (List.range L.length).filterMap (fun i => (L[i]?.bind id).map (fun v => (i, v)))
theorem prs_in {L : LO} {i : Nat} {v : Value} : (i, v) ∈ prs L ↔ L[i]? = some (some v) := by
  unfold prs
  rw [List.mem_filterMap]
  constructor
  · rintro ⟨j, -, h⟩
    cases hj : L[j]? with
    | none => simp [hj] at h
    | some o =>
      cases o with
      | none => simp [hj] at h
      | some w =>
        simp [hj] at h
        obtain ⟨rfl, rfl⟩ := h
        exact hj
  · intro h
    exact ⟨i, List.mem_range.mpr (List.getElem?_eq_some_iff.mp h).1, by simp [h]⟩
theorem lvL_has {ls : Array Slot} {nL : Nat} {L : LO} (h : lvL ls nL L) : lv_has ls nL (prs L) := ⟨h.1, h.2.1, fun q hq => h.2.2 q.1 q.2 (prs_in.mp hq)⟩
theorem lvL_st1 {ls ls' : Array Slot} {nL i : Nat} {L : LO} {v : Value} (h : lv_has ls' nL ((i, v) :: (prs L).filter (fun q => !(q.1 == i) && !(q.1 + 1 == i && q.2.category == 2)))) : lvL ls' nL (st1 L i v) := by
  refine ⟨h.1, h.2.1, fun j w hj => ?_⟩
  rcases st1_spec L i j v w hj with ⟨e1, e2⟩ | ⟨e1, e2, e3⟩
  · subst e1; subst e2; exact h.2.2 (j, w) List.mem_cons_self
  · refine h.2.2 (j, w) (List.mem_cons_of_mem _ (List.mem_filter.mpr ⟨prs_in.mpr e2, ?_⟩))
    by_cases h1 : j + 1 = i
    · have h2 : ¬ w.category = 2 := fun q => e3 ⟨h1, q⟩
      simp [e1, h2]
    · simp [e1, h1]
theorem lvL_st2 {ls ls' : Array Slot} {nL i : Nat} {L : LO} {v : Value} (h : lv_has ls' nL ((i, v) :: (prs L).filter (fun q => !(q.1 == i) && (!(q.1 == i + 1) && !(q.1 + 1 == i && q.2.category == 2))))) : lvL ls' nL (st2 L i v) := by
  refine ⟨h.1, h.2.1, fun j w hj => ?_⟩
  rcases st2_spec L i j v w hj with ⟨e1, e2⟩ | ⟨e1, e1', e2, e3⟩
  · subst e1; subst e2; exact h.2.2 (j, w) List.mem_cons_self
  · refine h.2.2 (j, w) (List.mem_cons_of_mem _ (List.mem_filter.mpr ⟨prs_in.mpr e2, ?_⟩))
    by_cases h1 : j + 1 = i
    · have h2 : ¬ w.category = 2 := fun q => e3 ⟨h1, q⟩
      simp [e1, e1', h2]
    · simp [e1, e1', h1]
abbrev ZT : Type := Nat → LO → List Value → Iv → Lv → Prop
/-- that instruction returns that -/
def RetOK (cc : ByteArray) (pc : Nat) (ret : Option FieldType) : Option Value → Prop
  | none => ret = none ∧ decode cc pc = .ok (.return_, 1)
  | some (.int x) => (ret = some .int ∨ (ret = some .boolean ∧ (x = 0 ∨ x = 1))) ∧ decode cc pc = .ok (.ireturn, 1)
  | some (.long _) => ret = some .long ∧ decode cc pc = .ok (.lreturn, 1)
  | _ => False
/-- A WALK inside a method: Z is 'the machine, at this pc with these locals, this stack and this memory, comes to a state as wanted' -/
def Rw (g : GE) (own : String) (cc : ByteArray) (nL : Nat) (ret : Option FieldType) (R : Room) (scr : Option (Nat × Nat × (Nat → Int32))) (Q : Option Value → Iv → Lv → Prop) (Z : ZT) : Prop :=
  ∃ (p : Program) (e : Env) (s : State) (m : MethodId) (args : Array Value) (below : List Frame) (meth : Method) (c : Code) (cells slots : Nat) (A : Nat → Prop) (H0 : Heap) (QS : State → Prop),
    p.tables.exec = Jvm.exec ∧ c.code = cc ∧ c.maxLocals = nL ∧ s.vm.findClass own = some m.cls ∧ (∀ w ∈ TBL, w.before args s = true) ∧ (va_K (gD g) CLS (tysL (gE g)) s ∧ Sx g s s.heap) ∧ (cells ≤ R.cells ∧ slots ≤ R.slots) ∧
    (∀ q : (Nat × Nat × (Nat → Int32)), scr = some q → va_X q.1 q.2.1 q.2.2 s s.heap ∧ q.1 < s.heap.size ∧ ¬ gA g q.1) ∧
    (∀ (pc : Nat) (ls : Array Slot) (iv : Iv) (lv : Lv) (H : Heap) (locs : List Loc) (v : Option Value), RetOK cc pc ret v → Q v iv lv → Mo g iv lv H → va_S (gA g) s.heap H locs → W p (gL g) e R s m args below meth c H locs cells slots QS (F0 m pc ls v.toList)) ∧
    ∀ pc L st iv lv, Z pc L st iv lv ↔ ∀ (H : Heap) (ls : Array Slot) (locs : List Loc), Mo g iv lv H → va_S (gA g) s.heap H locs → lvL ls nL L → W p (gL g) e R s m args below meth c H locs cells slots QS (F0 m pc ls st)

section ZR
variable {g : GE} {own : String} {cc : ByteArray} {nL : Nat} {ret : Option FieldType} {R : Room} {scr : Option (Nat × Nat × (Nat → Int32))} {Q : Option Value → Iv → Lv → Prop} {Z : ZT} {pc : Nat} {L : LO} {st : List Value} {iv : Iv} {lv : Lv}
theorem z_iconst (h : Rw g own cc nL ret R scr Q Z) {n : Int} {v : Int32} (hd : decode cc pc = .ok (.iconst n, 1)) (hv : Int32.ofInt n = v) (k : Z (pc + 1) L (.int v :: st) iv lv) : Z pc L (st) iv lv := by
  obtain ⟨p, e, s, m, args, below, meth, c, cells, slots, A, H0, QS, hx, hb, hml, hown, hts, hK, hf, hscr, hfin, hZ⟩ := h
  rw [hZ]
  rw [hZ] at k
  intro H ls locs hM hS hL
  exact lv_iconst hx hb hd hv (k H ls locs hM hS hL)
theorem z_bipush (h : Rw g own cc nL ret R scr Q Z) {n : Int} {v : Int32} (hd : decode cc pc = .ok (.bipush n, 2)) (hv : (Int8.ofInt n).toInt32 = v) (k : Z (pc + 2) L (.int v :: st) iv lv) : Z pc L (st) iv lv := by
  obtain ⟨p, e, s, m, args, below, meth, c, cells, slots, A, H0, QS, hx, hb, hml, hown, hts, hK, hf, hscr, hfin, hZ⟩ := h
  rw [hZ]
  rw [hZ] at k
  intro H ls locs hM hS hL
  exact lv_bipush hx hb hd hv (k H ls locs hM hS hL)
theorem z_sipush (h : Rw g own cc nL ret R scr Q Z) {n : Int} {v : Int32} (hd : decode cc pc = .ok (.sipush n, 3)) (hv : (Int16.ofInt n).toInt32 = v) (k : Z (pc + 3) L (.int v :: st) iv lv) : Z pc L (st) iv lv := by
  obtain ⟨p, e, s, m, args, below, meth, c, cells, slots, A, H0, QS, hx, hb, hml, hown, hts, hK, hf, hscr, hfin, hZ⟩ := h
  rw [hZ]
  rw [hZ] at k
  intro H ls locs hM hS hL
  exact lv_sipush hx hb hd hv (k H ls locs hM hS hL)
theorem z_lconst (h : Rw g own cc nL ret R scr Q Z) {n : Fin 2} {v : Int64} (hd : decode cc pc = .ok (.lconst n, 1)) (hv : Int64.ofNat (n : Nat) = v) (k : Z (pc + 1) L (.long v :: st) iv lv) : Z pc L (st) iv lv := by
  obtain ⟨p, e, s, m, args, below, meth, c, cells, slots, A, H0, QS, hx, hb, hml, hown, hts, hK, hf, hscr, hfin, hZ⟩ := h
  rw [hZ]
  rw [hZ] at k
  intro H ls locs hM hS hL
  exact lv_lconst hx hb hd hv (k H ls locs hM hS hL)
theorem z_ldc (h : Rw g own cc nL ret R scr Q Z) {i : Nat} {v : Int32} (hd : decode cc pc = .ok (.ldc i, 2)) (hc : Cond.constant own i v ∈ TBL) (k : Z (pc + 2) L (.int v :: st) iv lv) : Z pc L (st) iv lv := by
  obtain ⟨p, e, s, m, args, below, meth, c, cells, slots, A, H0, QS, hx, hb, hml, hown, hts, hK, hf, hscr, hfin, hZ⟩ := h
  rw [hZ]
  rw [hZ] at k
  intro H ls locs hM hS hL
  exact lv_ldc hx hb hown (hts _ hc) hd (k H ls locs hM hS hL)
theorem z_ldcw (h : Rw g own cc nL ret R scr Q Z) {i : Nat} {v : Int32} (hd : decode cc pc = .ok (.ldc_w i, 3)) (hc : Cond.constant own i v ∈ TBL) (k : Z (pc + 3) L (.int v :: st) iv lv) : Z pc L (st) iv lv := by
  obtain ⟨p, e, s, m, args, below, meth, c, cells, slots, A, H0, QS, hx, hb, hml, hown, hts, hK, hf, hscr, hfin, hZ⟩ := h
  rw [hZ]
  rw [hZ] at k
  intro H ls locs hM hS hL
  exact lv_ldcw hx hb hown (hts _ hc) hd (k H ls locs hM hS hL)
theorem z_ldc2 (h : Rw g own cc nL ret R scr Q Z) {i : Nat} {v : Int64} (hd : decode cc pc = .ok (.ldc2_w i, 3)) (hc : Cond.constantLong own i v ∈ TBL) (k : Z (pc + 3) L (.long v :: st) iv lv) : Z pc L (st) iv lv := by
  obtain ⟨p, e, s, m, args, below, meth, c, cells, slots, A, H0, QS, hx, hb, hml, hown, hts, hK, hf, hscr, hfin, hZ⟩ := h
  rw [hZ]
  rw [hZ] at k
  intro H ls locs hM hS hL
  exact lv_ldc2 hx hb hown (hts _ hc) hd (k H ls locs hM hS hL)
theorem z_iloadn (h : Rw g own cc nL ret R scr Q Z) {n : Fin 4} {x : Int32} (hd : decode cc pc = .ok (.iload_n n, 1)) (hl : L[(n : Nat)]? = some (some (.int x))) (k : Z (pc + 1) L (.int x :: st) iv lv) : Z pc L (st) iv lv := by
  obtain ⟨p, e, s, m, args, below, meth, c, cells, slots, A, H0, QS, hx, hb, hml, hown, hts, hK, hf, hscr, hfin, hZ⟩ := h
  rw [hZ]
  rw [hZ] at k
  intro H ls locs hM hS hL
  exact lv_iload_n hx hb hd rfl (hL.2.2 _ _ hl) (k H ls locs hM hS hL)
theorem z_iload (h : Rw g own cc nL ret R scr Q Z) {n : Nat} {x : Int32} (hd : decode cc pc = .ok (.iload n, 2)) (hl : L[n]? = some (some (.int x))) (k : Z (pc + 2) L (.int x :: st) iv lv) : Z pc L (st) iv lv := by
  obtain ⟨p, e, s, m, args, below, meth, c, cells, slots, A, H0, QS, hx, hb, hml, hown, hts, hK, hf, hscr, hfin, hZ⟩ := h
  rw [hZ]
  rw [hZ] at k
  intro H ls locs hM hS hL
  exact lv_iload hx hb hd (hL.2.2 _ _ hl) (k H ls locs hM hS hL)
theorem z_lloadn (h : Rw g own cc nL ret R scr Q Z) {n : Fin 4} {x : Int64} (hd : decode cc pc = .ok (.lload_n n, 1)) (hl : L[(n : Nat)]? = some (some (.long x))) (k : Z (pc + 1) L (.long x :: st) iv lv) : Z pc L (st) iv lv := by
  obtain ⟨p, e, s, m, args, below, meth, c, cells, slots, A, H0, QS, hx, hb, hml, hown, hts, hK, hf, hscr, hfin, hZ⟩ := h
  rw [hZ]
  rw [hZ] at k
  intro H ls locs hM hS hL
  exact lv_lload_n hx hb hd rfl (hL.2.2 _ _ hl) (k H ls locs hM hS hL)
theorem z_lload (h : Rw g own cc nL ret R scr Q Z) {n : Nat} {x : Int64} (hd : decode cc pc = .ok (.lload n, 2)) (hl : L[n]? = some (some (.long x))) (k : Z (pc + 2) L (.long x :: st) iv lv) : Z pc L (st) iv lv := by
  obtain ⟨p, e, s, m, args, below, meth, c, cells, slots, A, H0, QS, hx, hb, hml, hown, hts, hK, hf, hscr, hfin, hZ⟩ := h
  rw [hZ]
  rw [hZ] at k
  intro H ls locs hM hS hL
  exact lv_lload hx hb hd (hL.2.2 _ _ hl) (k H ls locs hM hS hL)
theorem z_aloadn (h : Rw g own cc nL ret R scr Q Z) {n : Fin 4} {x : Nat} (hd : decode cc pc = .ok (.aload_n n, 1)) (hl : L[(n : Nat)]? = some (some (.ref x))) (k : Z (pc + 1) L (.ref x :: st) iv lv) : Z pc L (st) iv lv := by
  obtain ⟨p, e, s, m, args, below, meth, c, cells, slots, A, H0, QS, hx, hb, hml, hown, hts, hK, hf, hscr, hfin, hZ⟩ := h
  rw [hZ]
  rw [hZ] at k
  intro H ls locs hM hS hL
  exact lv_aload_n hx hb hd rfl (hL.2.2 _ _ hl) (k H ls locs hM hS hL)
theorem z_aload (h : Rw g own cc nL ret R scr Q Z) {n : Nat} {x : Nat} (hd : decode cc pc = .ok (.aload n, 2)) (hl : L[n]? = some (some (.ref x))) (k : Z (pc + 2) L (.ref x :: st) iv lv) : Z pc L (st) iv lv := by
  obtain ⟨p, e, s, m, args, below, meth, c, cells, slots, A, H0, QS, hx, hb, hml, hown, hts, hK, hf, hscr, hfin, hZ⟩ := h
  rw [hZ]
  rw [hZ] at k
  intro H ls locs hM hS hL
  exact lv_aload hx hb hd (hL.2.2 _ _ hl) (k H ls locs hM hS hL)
theorem z_aloadnR (h : Rw g own cc nL ret R scr Q Z) {n : Fin 4} {x : Nat} (hd : decode cc pc = .ok (.aload_n n, 1)) (hl : L[(n : Nat)]? = some (some (rf g x))) (k : Z (pc + 1) L (rf g x :: st) iv lv) : Z pc L st iv lv := z_aloadn h hd hl k
theorem z_aloadR (h : Rw g own cc nL ret R scr Q Z) {n : Nat} {x : Nat} (hd : decode cc pc = .ok (.aload n, 2)) (hl : L[n]? = some (some (rf g x))) (k : Z (pc + 2) L (rf g x :: st) iv lv) : Z pc L st iv lv := z_aload h hd hl k
theorem z_istoren (h : Rw g own cc nL ret R scr Q Z) {n : Fin 4} {x : Int32} {L' : LO} (hd : decode cc pc = .ok (.istore_n n, 1)) (hn : ((n : Nat) < nL)) (hs : st1 L n (.int x) = L') (k : Z (pc + 1) L' st iv lv) : Z pc L (.int x :: st) iv lv := by
  obtain ⟨p, e, s, m, args, below, meth, c, cells, slots, A, H0, QS, hx, hb, hml, hown, hts, hK, hf, hscr, hfin, hZ⟩ := h
  rw [hZ]
  rw [hZ] at k
  intro H ls locs hM hS hL
  subst hs
  exact lv_istore_n hx hb hd rfl (lvL_has hL) hn rfl (fun ls' h' => k H ls' locs hM hS (lvL_st1 (ls := ls) h'))
theorem z_istore (h : Rw g own cc nL ret R scr Q Z) {n : Nat} {x : Int32} {L' : LO} (hd : decode cc pc = .ok (.istore n, 2)) (hn : n < nL) (hs : st1 L n (.int x) = L') (k : Z (pc + 2) L' st iv lv) : Z pc L (.int x :: st) iv lv := by
  obtain ⟨p, e, s, m, args, below, meth, c, cells, slots, A, H0, QS, hx, hb, hml, hown, hts, hK, hf, hscr, hfin, hZ⟩ := h
  rw [hZ]
  rw [hZ] at k
  intro H ls locs hM hS hL
  subst hs
  exact lv_istore hx hb hd (lvL_has hL) hn rfl (fun ls' h' => k H ls' locs hM hS (lvL_st1 (ls := ls) h'))
theorem z_astoren (h : Rw g own cc nL ret R scr Q Z) {n : Fin 4} {x : Nat} {L' : LO} (hd : decode cc pc = .ok (.astore_n n, 1)) (hn : ((n : Nat) < nL)) (hs : st1 L n (.ref x) = L') (k : Z (pc + 1) L' st iv lv) : Z pc L (.ref x :: st) iv lv := by
  obtain ⟨p, e, s, m, args, below, meth, c, cells, slots, A, H0, QS, hx, hb, hml, hown, hts, hK, hf, hscr, hfin, hZ⟩ := h
  rw [hZ]
  rw [hZ] at k
  intro H ls locs hM hS hL
  subst hs
  exact lv_astore_n hx hb hd rfl (lvL_has hL) hn rfl (fun ls' h' => k H ls' locs hM hS (lvL_st1 (ls := ls) h'))
theorem z_astore (h : Rw g own cc nL ret R scr Q Z) {n : Nat} {x : Nat} {L' : LO} (hd : decode cc pc = .ok (.astore n, 2)) (hn : n < nL) (hs : st1 L n (.ref x) = L') (k : Z (pc + 2) L' st iv lv) : Z pc L (.ref x :: st) iv lv := by
  obtain ⟨p, e, s, m, args, below, meth, c, cells, slots, A, H0, QS, hx, hb, hml, hown, hts, hK, hf, hscr, hfin, hZ⟩ := h
  rw [hZ]
  rw [hZ] at k
  intro H ls locs hM hS hL
  subst hs
  exact lv_astore hx hb hd (lvL_has hL) hn rfl (fun ls' h' => k H ls' locs hM hS (lvL_st1 (ls := ls) h'))
theorem z_lstoren (h : Rw g own cc nL ret R scr Q Z) {n : Fin 4} {x : Int64} {L' : LO} (hd : decode cc pc = .ok (.lstore_n n, 1)) (hn : ((n : Nat) + 1 < nL)) (hs : st2 L n (.long x) = L') (k : Z (pc + 1) L' st iv lv) : Z pc L (.long x :: st) iv lv := by
  obtain ⟨p, e, s, m, args, below, meth, c, cells, slots, A, H0, QS, hx, hb, hml, hown, hts, hK, hf, hscr, hfin, hZ⟩ := h
  rw [hZ]
  rw [hZ] at k
  intro H ls locs hM hS hL
  subst hs
  exact lv_lstore_n hx hb hd rfl (lvL_has hL) hn rfl (fun ls' h' => k H ls' locs hM hS (lvL_st2 (ls := ls) h'))
theorem z_lstore (h : Rw g own cc nL ret R scr Q Z) {n : Nat} {x : Int64} {L' : LO} (hd : decode cc pc = .ok (.lstore n, 2)) (hn : n + 1 < nL) (hs : st2 L n (.long x) = L') (k : Z (pc + 2) L' st iv lv) : Z pc L (.long x :: st) iv lv := by
  obtain ⟨p, e, s, m, args, below, meth, c, cells, slots, A, H0, QS, hx, hb, hml, hown, hts, hK, hf, hscr, hfin, hZ⟩ := h
  rw [hZ]
  rw [hZ] at k
  intro H ls locs hM hS hL
  subst hs
  exact lv_lstore hx hb hd (lvL_has hL) hn rfl (fun ls' h' => k H ls' locs hM hS (lvL_st2 (ls := ls) h'))
theorem z_iinc (h : Rw g own cc nL ret R scr Q Z) {n : Nat} {q : Int} {x v : Int32} {L' : LO} (hd : decode cc pc = .ok (.iinc n q, 3)) (hn : n < nL) (hl : L[n]? = some (some (.int x))) (hv : x + Int32.ofInt q = v) (hs : st1 L n (.int v) = L') (k : Z (pc + 3) L' st iv lv) : Z pc L st iv lv := by
  obtain ⟨p, e, s, m, args, below, meth, c, cells, slots, A, H0, QS, hx, hb, hml, hown, hts, hK, hf, hscr, hfin, hZ⟩ := h
  rw [hZ]
  rw [hZ] at k
  intro H ls locs hM hS hL
  subst hs
  obtain ⟨j, hj⟩ := List.getElem?_of_mem (prs_in.mpr hl)
  exact lv_iinc hx hb hd (lvL_has hL) hj hv hn rfl (fun ls' h' => k H ls' locs hM hS (lvL_st1 (ls := ls) h'))
theorem z_iadd (h : Rw g own cc nL ret R scr Q Z) {x y : Int32} (hd : decode cc pc = .ok (.iadd, 1))  (k : Z (pc + 1) L (.int (x + y) :: st) iv lv) : Z pc L (.int y :: .int x :: st) iv lv := by
  obtain ⟨p, e, s, m, args, below, meth, c, cells, slots, A, H0, QS, hx, hb, hml, hown, hts, hK, hf, hscr, hfin, hZ⟩ := h
  rw [hZ]
  rw [hZ] at k
  intro H ls locs hM hS hL
  exact lv_iadd hx hb hd (k H ls locs hM hS hL)
theorem z_isub (h : Rw g own cc nL ret R scr Q Z) {x y : Int32} (hd : decode cc pc = .ok (.isub, 1))  (k : Z (pc + 1) L (.int (x - y) :: st) iv lv) : Z pc L (.int y :: .int x :: st) iv lv := by
  obtain ⟨p, e, s, m, args, below, meth, c, cells, slots, A, H0, QS, hx, hb, hml, hown, hts, hK, hf, hscr, hfin, hZ⟩ := h
  rw [hZ]
  rw [hZ] at k
  intro H ls locs hM hS hL
  exact lv_isub hx hb hd (k H ls locs hM hS hL)
theorem z_imul (h : Rw g own cc nL ret R scr Q Z) {x y : Int32} (hd : decode cc pc = .ok (.imul, 1))  (k : Z (pc + 1) L (.int (x * y) :: st) iv lv) : Z pc L (.int y :: .int x :: st) iv lv := by
  obtain ⟨p, e, s, m, args, below, meth, c, cells, slots, A, H0, QS, hx, hb, hml, hown, hts, hK, hf, hscr, hfin, hZ⟩ := h
  rw [hZ]
  rw [hZ] at k
  intro H ls locs hM hS hL
  exact lv_imul hx hb hd (k H ls locs hM hS hL)
theorem z_iand (h : Rw g own cc nL ret R scr Q Z) {x y : Int32} (hd : decode cc pc = .ok (.iand, 1))  (k : Z (pc + 1) L (.int (x &&& y) :: st) iv lv) : Z pc L (.int y :: .int x :: st) iv lv := by
  obtain ⟨p, e, s, m, args, below, meth, c, cells, slots, A, H0, QS, hx, hb, hml, hown, hts, hK, hf, hscr, hfin, hZ⟩ := h
  rw [hZ]
  rw [hZ] at k
  intro H ls locs hM hS hL
  exact lv_iand hx hb hd (k H ls locs hM hS hL)
theorem z_ior (h : Rw g own cc nL ret R scr Q Z) {x y : Int32} (hd : decode cc pc = .ok (.ior, 1))  (k : Z (pc + 1) L (.int (x ||| y) :: st) iv lv) : Z pc L (.int y :: .int x :: st) iv lv := by
  obtain ⟨p, e, s, m, args, below, meth, c, cells, slots, A, H0, QS, hx, hb, hml, hown, hts, hK, hf, hscr, hfin, hZ⟩ := h
  rw [hZ]
  rw [hZ] at k
  intro H ls locs hM hS hL
  exact lv_ior hx hb hd (k H ls locs hM hS hL)
theorem z_ixor (h : Rw g own cc nL ret R scr Q Z) {x y : Int32} (hd : decode cc pc = .ok (.ixor, 1))  (k : Z (pc + 1) L (.int (x ^^^ y) :: st) iv lv) : Z pc L (.int y :: .int x :: st) iv lv := by
  obtain ⟨p, e, s, m, args, below, meth, c, cells, slots, A, H0, QS, hx, hb, hml, hown, hts, hK, hf, hscr, hfin, hZ⟩ := h
  rw [hZ]
  rw [hZ] at k
  intro H ls locs hM hS hL
  exact lv_ixor hx hb hd (k H ls locs hM hS hL)
theorem z_ladd (h : Rw g own cc nL ret R scr Q Z) {x y : Int64} (hd : decode cc pc = .ok (.ladd, 1))  (k : Z (pc + 1) L (.long (x + y) :: st) iv lv) : Z pc L (.long y :: .long x :: st) iv lv := by
  obtain ⟨p, e, s, m, args, below, meth, c, cells, slots, A, H0, QS, hx, hb, hml, hown, hts, hK, hf, hscr, hfin, hZ⟩ := h
  rw [hZ]
  rw [hZ] at k
  intro H ls locs hM hS hL
  exact lv_ladd hx hb hd (k H ls locs hM hS hL)
theorem z_lsub (h : Rw g own cc nL ret R scr Q Z) {x y : Int64} (hd : decode cc pc = .ok (.lsub, 1))  (k : Z (pc + 1) L (.long (x - y) :: st) iv lv) : Z pc L (.long y :: .long x :: st) iv lv := by
  obtain ⟨p, e, s, m, args, below, meth, c, cells, slots, A, H0, QS, hx, hb, hml, hown, hts, hK, hf, hscr, hfin, hZ⟩ := h
  rw [hZ]
  rw [hZ] at k
  intro H ls locs hM hS hL
  exact lv_lsub hx hb hd (k H ls locs hM hS hL)
theorem z_lmul (h : Rw g own cc nL ret R scr Q Z) {x y : Int64} (hd : decode cc pc = .ok (.lmul, 1))  (k : Z (pc + 1) L (.long (x * y) :: st) iv lv) : Z pc L (.long y :: .long x :: st) iv lv := by
  obtain ⟨p, e, s, m, args, below, meth, c, cells, slots, A, H0, QS, hx, hb, hml, hown, hts, hK, hf, hscr, hfin, hZ⟩ := h
  rw [hZ]
  rw [hZ] at k
  intro H ls locs hM hS hL
  exact lv_lmul hx hb hd (k H ls locs hM hS hL)
theorem z_idiv (h : Rw g own cc nL ret R scr Q Z) {x y : Int32} (hd : decode cc pc = .ok (.idiv, 1)) (hne : ¬ y = 0) (k : Z (pc + 1) L (.int (x / y) :: st) iv lv) : Z pc L (.int y :: .int x :: st) iv lv := by
  obtain ⟨p, e, s, m, args, below, meth, c, cells, slots, A, H0, QS, hx, hb, hml, hown, hts, hK, hf, hscr, hfin, hZ⟩ := h
  rw [hZ]
  rw [hZ] at k
  intro H ls locs hM hS hL
  exact lv_idiv hx hb hd hne (k H ls locs hM hS hL)
theorem z_irem (h : Rw g own cc nL ret R scr Q Z) {x y : Int32} (hd : decode cc pc = .ok (.irem, 1)) (hne : ¬ y = 0) (k : Z (pc + 1) L (.int (x - x / y * y) :: st) iv lv) : Z pc L (.int y :: .int x :: st) iv lv := by
  obtain ⟨p, e, s, m, args, below, meth, c, cells, slots, A, H0, QS, hx, hb, hml, hown, hts, hK, hf, hscr, hfin, hZ⟩ := h
  rw [hZ]
  rw [hZ] at k
  intro H ls locs hM hS hL
  exact lv_irem hx hb hd hne (k H ls locs hM hS hL)
theorem z_ldiv (h : Rw g own cc nL ret R scr Q Z) {x y : Int64} (hd : decode cc pc = .ok (.ldiv, 1)) (hne : ¬ y = 0) (k : Z (pc + 1) L (.long (x / y) :: st) iv lv) : Z pc L (.long y :: .long x :: st) iv lv := by
  obtain ⟨p, e, s, m, args, below, meth, c, cells, slots, A, H0, QS, hx, hb, hml, hown, hts, hK, hf, hscr, hfin, hZ⟩ := h
  rw [hZ]
  rw [hZ] at k
  intro H ls locs hM hS hL
  exact lv_ldiv hx hb hd hne (k H ls locs hM hS hL)
theorem z_ineg (h : Rw g own cc nL ret R scr Q Z) {x : Int32} (hd : decode cc pc = .ok (.ineg, 1))  (k : Z (pc + 1) L (.int (-x) :: st) iv lv) : Z pc L (.int x :: st) iv lv := by
  obtain ⟨p, e, s, m, args, below, meth, c, cells, slots, A, H0, QS, hx, hb, hml, hown, hts, hK, hf, hscr, hfin, hZ⟩ := h
  rw [hZ]
  rw [hZ] at k
  intro H ls locs hM hS hL
  exact lv_ineg hx hb hd (k H ls locs hM hS hL)
theorem z_lneg (h : Rw g own cc nL ret R scr Q Z) {x : Int64} (hd : decode cc pc = .ok (.lneg, 1))  (k : Z (pc + 1) L (.long (-x) :: st) iv lv) : Z pc L (.long x :: st) iv lv := by
  obtain ⟨p, e, s, m, args, below, meth, c, cells, slots, A, H0, QS, hx, hb, hml, hown, hts, hK, hf, hscr, hfin, hZ⟩ := h
  rw [hZ]
  rw [hZ] at k
  intro H ls locs hM hS hL
  exact lv_lneg hx hb hd (k H ls locs hM hS hL)
theorem z_ishl (h : Rw g own cc nL ret R scr Q Z) {x y : Int32} (hd : decode cc pc = .ok (.ishl, 1))  (k : Z (pc + 1) L (.int (x <<< (y &&& 31)) :: st) iv lv) : Z pc L (.int y :: .int x :: st) iv lv := by
  obtain ⟨p, e, s, m, args, below, meth, c, cells, slots, A, H0, QS, hx, hb, hml, hown, hts, hK, hf, hscr, hfin, hZ⟩ := h
  rw [hZ]
  rw [hZ] at k
  intro H ls locs hM hS hL
  exact lv_ishl hx hb hd (k H ls locs hM hS hL)
theorem z_ishr (h : Rw g own cc nL ret R scr Q Z) {x y : Int32} (hd : decode cc pc = .ok (.ishr, 1))  (k : Z (pc + 1) L (.int (x >>> (y &&& 31)) :: st) iv lv) : Z pc L (.int y :: .int x :: st) iv lv := by
  obtain ⟨p, e, s, m, args, below, meth, c, cells, slots, A, H0, QS, hx, hb, hml, hown, hts, hK, hf, hscr, hfin, hZ⟩ := h
  rw [hZ]
  rw [hZ] at k
  intro H ls locs hM hS hL
  exact lv_ishr hx hb hd (k H ls locs hM hS hL)
theorem z_i2l (h : Rw g own cc nL ret R scr Q Z) {x : Int32} (hd : decode cc pc = .ok (.i2l, 1))  (k : Z (pc + 1) L (.long x.toInt64 :: st) iv lv) : Z pc L (.int x :: st) iv lv := by
  obtain ⟨p, e, s, m, args, below, meth, c, cells, slots, A, H0, QS, hx, hb, hml, hown, hts, hK, hf, hscr, hfin, hZ⟩ := h
  rw [hZ]
  rw [hZ] at k
  intro H ls locs hM hS hL
  exact lv_i2l hx hb hd rfl (k H ls locs hM hS hL)
theorem z_l2i (h : Rw g own cc nL ret R scr Q Z) {x : Int64} (hd : decode cc pc = .ok (.l2i, 1))  (k : Z (pc + 1) L (.int x.toInt32 :: st) iv lv) : Z pc L (.long x :: st) iv lv := by
  obtain ⟨p, e, s, m, args, below, meth, c, cells, slots, A, H0, QS, hx, hb, hml, hown, hts, hK, hf, hscr, hfin, hZ⟩ := h
  rw [hZ]
  rw [hZ] at k
  intro H ls locs hM hS hL
  exact lv_l2i hx hb hd rfl (k H ls locs hM hS hL)
theorem z_dup (h : Rw g own cc nL ret R scr Q Z) {v : Value} (hd : decode cc pc = .ok (.dup, 1)) (hc : v.category = 1) (k : Z (pc + 1) L (v :: v :: st) iv lv) : Z pc L (v :: st) iv lv := by
  obtain ⟨p, e, s, m, args, below, meth, c, cells, slots, A, H0, QS, hx, hb, hml, hown, hts, hK, hf, hscr, hfin, hZ⟩ := h
  rw [hZ]
  rw [hZ] at k
  intro H ls locs hM hS hL
  exact lv_dup hx hb hd hc (k H ls locs hM hS hL)
theorem z_dup2 (h : Rw g own cc nL ret R scr Q Z) {v w : Value} (hd : decode cc pc = .ok (.dup2, 1)) (hc : v.category = 1) (hc2 : w.category = 1) (k : Z (pc + 1) L (v :: w :: v :: w :: st) iv lv) : Z pc L (v :: w :: st) iv lv := by
  obtain ⟨p, e, s, m, args, below, meth, c, cells, slots, A, H0, QS, hx, hb, hml, hown, hts, hK, hf, hscr, hfin, hZ⟩ := h
  rw [hZ]
  rw [hZ] at k
  intro H ls locs hM hS hL
  exact lv_dup2_11 hx hb hd hc hc2 (k H ls locs hM hS hL)
theorem z_pop (h : Rw g own cc nL ret R scr Q Z) {v : Value} (hd : decode cc pc = .ok (.pop, 1)) (hc : v.category = 1) (k : Z (pc + 1) L (st) iv lv) : Z pc L (v :: st) iv lv := by
  obtain ⟨p, e, s, m, args, below, meth, c, cells, slots, A, H0, QS, hx, hb, hml, hown, hts, hK, hf, hscr, hfin, hZ⟩ := h
  rw [hZ]
  rw [hZ] at k
  intro H ls locs hM hS hL
  exact lv_pop hx hb hd hc (k H ls locs hM hS hL)
theorem z_if_eq (h : Rw g own cc nL ret R scr Q Z) {x : Int32} {off : Int} {tgt : Nat} (hd : decode cc pc = .ok (.ifCond .eq off, 3)) (ht : (pc : Int) + off = (tgt : Int)) (kt : x = 0 → Z tgt L st iv lv) (kf : ¬ x = 0 → Z (pc + 3) L st iv lv) : Z pc L (.int x :: st) iv lv := by
  obtain ⟨p, e, s, m, args, below, meth, c, cells, slots, A, H0, QS, hx, hb, hml, hown, hts, hK, hf, hscr, hfin, hZ⟩ := h
  rw [hZ]
  intro H ls locs hM hS hL
  exact lv_if_eq hx hb hd ht (fun q => (hZ _ _ _ _ _).mp (kt q) H ls locs hM hS hL) (fun q => (hZ _ _ _ _ _).mp (kf q) H ls locs hM hS hL)
theorem z_if_ne (h : Rw g own cc nL ret R scr Q Z) {x : Int32} {off : Int} {tgt : Nat} (hd : decode cc pc = .ok (.ifCond .ne off, 3)) (ht : (pc : Int) + off = (tgt : Int)) (kt : ¬ x = 0 → Z tgt L st iv lv) (kf : x = 0 → Z (pc + 3) L st iv lv) : Z pc L (.int x :: st) iv lv := by
  obtain ⟨p, e, s, m, args, below, meth, c, cells, slots, A, H0, QS, hx, hb, hml, hown, hts, hK, hf, hscr, hfin, hZ⟩ := h
  rw [hZ]
  intro H ls locs hM hS hL
  exact lv_if_ne hx hb hd ht (fun q => (hZ _ _ _ _ _).mp (kt q) H ls locs hM hS hL) (fun q => (hZ _ _ _ _ _).mp (kf q) H ls locs hM hS hL)
theorem z_if_lt (h : Rw g own cc nL ret R scr Q Z) {x : Int32} {off : Int} {tgt : Nat} (hd : decode cc pc = .ok (.ifCond .lt off, 3)) (ht : (pc : Int) + off = (tgt : Int)) (kt : x < 0 → Z tgt L st iv lv) (kf : ¬ x < 0 → Z (pc + 3) L st iv lv) : Z pc L (.int x :: st) iv lv := by
  obtain ⟨p, e, s, m, args, below, meth, c, cells, slots, A, H0, QS, hx, hb, hml, hown, hts, hK, hf, hscr, hfin, hZ⟩ := h
  rw [hZ]
  intro H ls locs hM hS hL
  exact lv_if_lt hx hb hd ht (fun q => (hZ _ _ _ _ _).mp (kt q) H ls locs hM hS hL) (fun q => (hZ _ _ _ _ _).mp (kf q) H ls locs hM hS hL)
theorem z_if_ge (h : Rw g own cc nL ret R scr Q Z) {x : Int32} {off : Int} {tgt : Nat} (hd : decode cc pc = .ok (.ifCond .ge off, 3)) (ht : (pc : Int) + off = (tgt : Int)) (kt : 0 ≤ x → Z tgt L st iv lv) (kf : ¬ 0 ≤ x → Z (pc + 3) L st iv lv) : Z pc L (.int x :: st) iv lv := by
  obtain ⟨p, e, s, m, args, below, meth, c, cells, slots, A, H0, QS, hx, hb, hml, hown, hts, hK, hf, hscr, hfin, hZ⟩ := h
  rw [hZ]
  intro H ls locs hM hS hL
  exact lv_if_ge hx hb hd ht (fun q => (hZ _ _ _ _ _).mp (kt q) H ls locs hM hS hL) (fun q => (hZ _ _ _ _ _).mp (kf q) H ls locs hM hS hL)
theorem z_if_gt (h : Rw g own cc nL ret R scr Q Z) {x : Int32} {off : Int} {tgt : Nat} (hd : decode cc pc = .ok (.ifCond .gt off, 3)) (ht : (pc : Int) + off = (tgt : Int)) (kt : 0 < x → Z tgt L st iv lv) (kf : ¬ 0 < x → Z (pc + 3) L st iv lv) : Z pc L (.int x :: st) iv lv := by
  obtain ⟨p, e, s, m, args, below, meth, c, cells, slots, A, H0, QS, hx, hb, hml, hown, hts, hK, hf, hscr, hfin, hZ⟩ := h
  rw [hZ]
  intro H ls locs hM hS hL
  exact lv_if_gt hx hb hd ht (fun q => (hZ _ _ _ _ _).mp (kt q) H ls locs hM hS hL) (fun q => (hZ _ _ _ _ _).mp (kf q) H ls locs hM hS hL)
theorem z_if_le (h : Rw g own cc nL ret R scr Q Z) {x : Int32} {off : Int} {tgt : Nat} (hd : decode cc pc = .ok (.ifCond .le off, 3)) (ht : (pc : Int) + off = (tgt : Int)) (kt : x ≤ 0 → Z tgt L st iv lv) (kf : ¬ x ≤ 0 → Z (pc + 3) L st iv lv) : Z pc L (.int x :: st) iv lv := by
  obtain ⟨p, e, s, m, args, below, meth, c, cells, slots, A, H0, QS, hx, hb, hml, hown, hts, hK, hf, hscr, hfin, hZ⟩ := h
  rw [hZ]
  intro H ls locs hM hS hL
  exact lv_if_le hx hb hd ht (fun q => (hZ _ _ _ _ _).mp (kt q) H ls locs hM hS hL) (fun q => (hZ _ _ _ _ _).mp (kf q) H ls locs hM hS hL)
theorem z_icmp_eq (h : Rw g own cc nL ret R scr Q Z) {x y : Int32} {off : Int} {tgt : Nat} (hd : decode cc pc = .ok (.if_icmp .eq off, 3)) (ht : (pc : Int) + off = (tgt : Int)) (kt : x = y → Z tgt L st iv lv) (kf : ¬ x = y → Z (pc + 3) L st iv lv) : Z pc L (.int y :: .int x :: st) iv lv := by
  obtain ⟨p, e, s, m, args, below, meth, c, cells, slots, A, H0, QS, hx, hb, hml, hown, hts, hK, hf, hscr, hfin, hZ⟩ := h
  rw [hZ]
  intro H ls locs hM hS hL
  exact lv_icmp_eq hx hb hd ht (fun q => (hZ _ _ _ _ _).mp (kt q) H ls locs hM hS hL) (fun q => (hZ _ _ _ _ _).mp (kf q) H ls locs hM hS hL)
theorem z_icmp_ne (h : Rw g own cc nL ret R scr Q Z) {x y : Int32} {off : Int} {tgt : Nat} (hd : decode cc pc = .ok (.if_icmp .ne off, 3)) (ht : (pc : Int) + off = (tgt : Int)) (kt : ¬ x = y → Z tgt L st iv lv) (kf : x = y → Z (pc + 3) L st iv lv) : Z pc L (.int y :: .int x :: st) iv lv := by
  obtain ⟨p, e, s, m, args, below, meth, c, cells, slots, A, H0, QS, hx, hb, hml, hown, hts, hK, hf, hscr, hfin, hZ⟩ := h
  rw [hZ]
  intro H ls locs hM hS hL
  exact lv_icmp_ne hx hb hd ht (fun q => (hZ _ _ _ _ _).mp (kt q) H ls locs hM hS hL) (fun q => (hZ _ _ _ _ _).mp (kf q) H ls locs hM hS hL)
theorem z_icmp_lt (h : Rw g own cc nL ret R scr Q Z) {x y : Int32} {off : Int} {tgt : Nat} (hd : decode cc pc = .ok (.if_icmp .lt off, 3)) (ht : (pc : Int) + off = (tgt : Int)) (kt : x < y → Z tgt L st iv lv) (kf : ¬ x < y → Z (pc + 3) L st iv lv) : Z pc L (.int y :: .int x :: st) iv lv := by
  obtain ⟨p, e, s, m, args, below, meth, c, cells, slots, A, H0, QS, hx, hb, hml, hown, hts, hK, hf, hscr, hfin, hZ⟩ := h
  rw [hZ]
  intro H ls locs hM hS hL
  exact lv_icmp_lt hx hb hd ht (fun q => (hZ _ _ _ _ _).mp (kt q) H ls locs hM hS hL) (fun q => (hZ _ _ _ _ _).mp (kf q) H ls locs hM hS hL)
theorem z_icmp_ge (h : Rw g own cc nL ret R scr Q Z) {x y : Int32} {off : Int} {tgt : Nat} (hd : decode cc pc = .ok (.if_icmp .ge off, 3)) (ht : (pc : Int) + off = (tgt : Int)) (kt : y ≤ x → Z tgt L st iv lv) (kf : ¬ y ≤ x → Z (pc + 3) L st iv lv) : Z pc L (.int y :: .int x :: st) iv lv := by
  obtain ⟨p, e, s, m, args, below, meth, c, cells, slots, A, H0, QS, hx, hb, hml, hown, hts, hK, hf, hscr, hfin, hZ⟩ := h
  rw [hZ]
  intro H ls locs hM hS hL
  exact lv_icmp_ge hx hb hd ht (fun q => (hZ _ _ _ _ _).mp (kt q) H ls locs hM hS hL) (fun q => (hZ _ _ _ _ _).mp (kf q) H ls locs hM hS hL)
theorem z_icmp_gt (h : Rw g own cc nL ret R scr Q Z) {x y : Int32} {off : Int} {tgt : Nat} (hd : decode cc pc = .ok (.if_icmp .gt off, 3)) (ht : (pc : Int) + off = (tgt : Int)) (kt : y < x → Z tgt L st iv lv) (kf : ¬ y < x → Z (pc + 3) L st iv lv) : Z pc L (.int y :: .int x :: st) iv lv := by
  obtain ⟨p, e, s, m, args, below, meth, c, cells, slots, A, H0, QS, hx, hb, hml, hown, hts, hK, hf, hscr, hfin, hZ⟩ := h
  rw [hZ]
  intro H ls locs hM hS hL
  exact lv_icmp_gt hx hb hd ht (fun q => (hZ _ _ _ _ _).mp (kt q) H ls locs hM hS hL) (fun q => (hZ _ _ _ _ _).mp (kf q) H ls locs hM hS hL)
theorem z_icmp_le (h : Rw g own cc nL ret R scr Q Z) {x y : Int32} {off : Int} {tgt : Nat} (hd : decode cc pc = .ok (.if_icmp .le off, 3)) (ht : (pc : Int) + off = (tgt : Int)) (kt : x ≤ y → Z tgt L st iv lv) (kf : ¬ x ≤ y → Z (pc + 3) L st iv lv) : Z pc L (.int y :: .int x :: st) iv lv := by
  obtain ⟨p, e, s, m, args, below, meth, c, cells, slots, A, H0, QS, hx, hb, hml, hown, hts, hK, hf, hscr, hfin, hZ⟩ := h
  rw [hZ]
  intro H ls locs hM hS hL
  exact lv_icmp_le hx hb hd ht (fun q => (hZ _ _ _ _ _).mp (kt q) H ls locs hM hS hL) (fun q => (hZ _ _ _ _ _).mp (kf q) H ls locs hM hS hL)
theorem z_goto (h : Rw g own cc nL ret R scr Q Z) {off : Int} {tgt : Nat} (hd : decode cc pc = .ok (.goto off, 3)) (ht : (pc : Int) + off = (tgt : Int)) (k : Z tgt L st iv lv) : Z pc L st iv lv := by
  obtain ⟨p, e, s, m, args, below, meth, c, cells, slots, A, H0, QS, hx, hb, hml, hown, hts, hK, hf, hscr, hfin, hZ⟩ := h
  rw [hZ]
  rw [hZ] at k
  intro H ls locs hM hS hL
  exact lv_goto hx hb hd ht (k H ls locs hM hS hL)
theorem z_lcmp (h : Rw g own cc nL ret R scr Q Z) {x y : Int64} (hd : decode cc pc = .ok (.lcmp, 1))  (k : Z (pc + 1) L (.int (lg_cmp x y) :: st) iv lv) : Z pc L (.long y :: .long x :: st) iv lv := by
  obtain ⟨p, e, s, m, args, below, meth, c, cells, slots, A, H0, QS, hx, hb, hml, hown, hts, hK, hf, hscr, hfin, hZ⟩ := h
  rw [hZ]
  rw [hZ] at k
  intro H ls locs hM hS hL
  exact W.lcmp hx hb hd (k H ls locs hM hS hL)
theorem z_tabIn (h : Rw g own cc nL ret R scr Q Z) {dflt lo hi : Int} {offs : Array Int} {len : Nat} {x : Int32} {off : Int} {tgt : Nat} (hd : decode cc pc = .ok (.tableswitch dflt lo hi offs, len)) (h1 : ¬ x.toInt < lo) (h2 : ¬ hi < x.toInt) (ho : offs[(x.toInt - lo).toNat]? = some off) (ht : (pc : Int) + off = (tgt : Int)) (k : Z tgt L st iv lv) : Z pc L (.int x :: st) iv lv := by
  obtain ⟨p, e, s, m, args, below, meth, c, cells, slots, A, H0, QS, hx, hb, hml, hown, hts, hK, hf, hscr, hfin, hZ⟩ := h
  rw [hZ]
  rw [hZ] at k
  intro H ls locs hM hS hL
  exact lv_tableIn hx hb hd h1 h2 ho ht (k H ls locs hM hS hL)
theorem z_tabOut (h : Rw g own cc nL ret R scr Q Z) {dflt lo hi : Int} {offs : Array Int} {len : Nat} {x : Int32} {tgt : Nat} (hd : decode cc pc = .ok (.tableswitch dflt lo hi offs, len)) (h1 : x.toInt < lo ∨ hi < x.toInt) (ht : (pc : Int) + dflt = (tgt : Int)) (k : Z tgt L st iv lv) : Z pc L (.int x :: st) iv lv := by
  obtain ⟨p, e, s, m, args, below, meth, c, cells, slots, A, H0, QS, hx, hb, hml, hown, hts, hK, hf, hscr, hfin, hZ⟩ := h
  rw [hZ]
  rw [hZ] at k
  intro H ls locs hM hS hL
  exact lv_tableOut hx hb hd h1 ht (k H ls locs hM hS hL)
theorem z_lookup (h : Rw g own cc nL ret R scr Q Z) {dflt : Int} {ps : Array (Int × Int)} {len : Nat} {x : Int32} {off : Int} {tgt : Nat} (hd : decode cc pc = .ok (.lookupswitch dflt ps, len)) (hp : (ps.toList.zip (ps.toList.drop 1)).all (fun (a, next) => a.1 < next.1) = true) (ho : Op.lookupswitch.offset ps.toList dflt x.toInt = off) (ht : (pc : Int) + off = (tgt : Int)) (k : Z tgt L st iv lv) : Z pc L (.int x :: st) iv lv := by
  obtain ⟨p, e, s, m, args, below, meth, c, cells, slots, A, H0, QS, hx, hb, hml, hown, hts, hK, hf, hscr, hfin, hZ⟩ := h
  rw [hZ]
  rw [hZ] at k
  intro H ls locs hM hS hL
  exact lv_lookup hx hb hd hp ho ht (k H ls locs hM hS hL)
def CK (ci : Nat) (C : String) (T : u_T) (N : Nat) (ty : Nat → FieldType) : Prop := CLS[ci]? = some (C, T, N) ∧ (∀ w ∈ u_ws C T N, w ∈ TBL) ∧ (∀ k, k < N → parseFieldDescriptor (T k).2.2.1 = some (ty k)) ∧ (∀ a, a < N → ∀ b, b < N → a ≠ b → (T a).2.1 ≠ (T b).2.1)
/-- a getfield's or putfield's link: to field j of class ci -/
def FL (own : String) (idx ci j : Nat) (fin : Bool) (t : FieldType) : Prop := ∃ (C : String) (T : u_T) (N : Nat) (ty : Nat → FieldType), CK ci C T N ty ∧ j < N ∧ ty j = t ∧ (T j).2.2.2 = fin ∧ ((Cond.fieldLink own idx (T j).1 (T j).2.1 (T j).2.2.1 ∈ TBL) ∨ ∃ host, Cond.fieldLinkNest own idx (T j).1 (T j).2.1 (T j).2.2.1 host ∈ TBL)
def IsI (g : GE) (k n : Nat) : Prop := Cl g k (aI g n) ∧ n < 2 ^ 31
def IsL (g : GE) (k n : Nat) : Prop := Cl g k (aL g n) ∧ n < 2 ^ 31
def IsZ (g : GE) (k n : Nat) : Prop := Cl g k (aZ g n) ∧ n < 2 ^ 31
def IsM (g : GE) (k n : Nat) (r : Nat → Nat) : Prop := Cl g k (aR g 3 n r) ∧ n < 2 ^ 31
def IsG (g : GE) (k n : Nat) (r : Nat → Nat) : Prop := Cl g k (aR g 4 n r) ∧ n < 2 ^ 31
theorem z_getf (h : Rw g own cc nL ret R scr Q Z) {idx ci j k : Nat} {fin : Bool} {t : FieldType} {F : FF} {fs : List Value} {v : Value} (hF : FL own idx ci j fin t) (hd : decode cc pc = .ok (.getfield idx, 3)) (hC : Cl g k F) (hfs : F (iv k) (lv k) = .inr (ci, fs)) (hv : fs[j]? = some v) (kk : Z (pc + 3) L (v :: st) iv lv) : Z pc L (rf g k :: st) iv lv := by
  obtain ⟨p, e, s, m, args, below, meth, c, cells, slots, A, H0, QS, hx, hb, hml, hown, hts, hK, hf, hscr, hfin, hZ⟩ := h
  rw [hZ]
  rw [hZ] at kk
  intro H ls locs hM hS hL
  obtain ⟨C, T, N, ty, ⟨c1, c2, c3, c4⟩, hj, -, -, hl⟩ := hF
  have he := cl_get (iv := iv) (lv := lv) hC
  rw [hfs] at he
  rcases hl with hl | ⟨host, hl⟩
  · exact va_get hx hb hts c2 hown hK.1 hM k he c1 j hj (hts _ hl) (fun _ h9 => h9) hv hd (kk H ls locs hM hS hL)
  · exact va_getN hx hb hts c2 hown hK.1 hM k he c1 j hj (hts _ hl) (fun _ h9 => h9) hv hd (kk H ls locs hM hS hL)
theorem z_putI (h : Rw g own cc nL ret R scr Q Z) {idx ci j k : Nat} {t : FieldType} {F : FF} {fs : List Value} {x : Int32} (hF : FL own idx ci j false t) (hd : decode cc pc = .ok (.putfield idx, 3)) (hC : Cl g k F) (hfs : F (iv k) (lv k) = .inr (ci, fs)) (hset : F (upd (iv k) j x) (lv k) = .inr (ci, fs.set j (.int x))) (hj9 : j < fs.length) (ht : t = .int ∨ (t = .boolean ∧ (x = 0 ∨ x = 1))) (kk : Z (pc + 3) L st (upI iv k j x) lv) : Z pc L (.int x :: rf g k :: st) iv lv := by
  obtain ⟨p, e, s, m, args, below, meth, c, cells, slots, A, H0, QS, hx, hb, hml, hown, hts, hK, hf, hscr, hfin, hZ⟩ := h
  rw [hZ]
  rw [hZ] at kk
  intro H ls locs hM hS hL
  obtain ⟨C, T, N, ty, ⟨c1, c2, c3, c4⟩, hj, hty, hfi, hl⟩ := hF
  have he := cl_get (iv := iv) (lv := lv) hC
  rw [hfs] at he
  have hq : narrow t (.int x) = .int x ∧ fits t (.int x) = true := by
    rcases ht with rfl | ⟨rfl, rfl | rfl⟩ <;> exact ⟨rfl, rfl⟩
  have hpd : parseFieldDescriptor (T j).2.2.1 = some t := by rw [c3 j hj, hty]
  have fin : ∀ (H1 : Heap) (locs1 : List Loc), va_P (gD g) CLS ((cellsL g iv lv).set k (gB g + k, .inr (ci, fs.set j (.int x)))) H1 → va_D (gA g) ((cellsL g iv lv).set k (gB g + k, .inr (ci, fs.set j (.int x)))) → va_S (gA g) s.heap H1 locs1 → W p (gL g) e R s m args below meth c H1 locs1 cells slots QS (F0 m (pc + 3) ls st) := by
    intro H1 locs1 hP hD hS1
    have e : (cellsL g iv lv).set k (gB g + k, .inr (ci, fs.set j (.int x))) = cellsL g (upI iv k j x) lv := cl_set hC.1 (by rw [hC.2, ← hset]; rw [upI_s]) (fun a ha => upI_n ha) (fun _ _ => rfl)
    rw [e] at hP hD
    exact kk H1 ls locs1 hP hS1 hL
  rcases hl with hl | ⟨host, hl⟩
  · exact va_put hx hb hts c2 ty c3 c4 hown hK.1 hM cl_D hS k he c1 j hj (hts _ hl) (fun _ h9 => h9) hfi hpd hq.1 hq.2 hj9 hd fin
  · exact va_putN hx hb hts c2 ty c3 c4 hown hK.1 hM cl_D hS k he c1 j hj (hts _ hl) (fun _ h9 => h9) hfi hpd hq.1 hq.2 hj9 hd fin
theorem z_putL (h : Rw g own cc nL ret R scr Q Z) {idx ci j k : Nat} {t : FieldType} {F : FF} {fs : List Value} {x : Int64} (hF : FL own idx ci j false t) (hd : decode cc pc = .ok (.putfield idx, 3)) (hC : Cl g k F) (hfs : F (iv k) (lv k) = .inr (ci, fs)) (hset : F (iv k) (vp_updL (lv k) j x) = .inr (ci, fs.set j (.long x))) (hj9 : j < fs.length) (ht : t = .long) (kk : Z (pc + 3) L st iv (upL lv k j x)) : Z pc L (.long x :: rf g k :: st) iv lv := by
  obtain ⟨p, e, s, m, args, below, meth, c, cells, slots, A, H0, QS, hx, hb, hml, hown, hts, hK, hf, hscr, hfin, hZ⟩ := h
  rw [hZ]
  rw [hZ] at kk
  intro H ls locs hM hS hL
  obtain ⟨C, T, N, ty, ⟨c1, c2, c3, c4⟩, hj, hty, hfi, hl⟩ := hF
  have he := cl_get (iv := iv) (lv := lv) hC
  rw [hfs] at he
  have hq : narrow t (.long x) = .long x ∧ fits t (.long x) = true := by
    subst ht; exact ⟨rfl, rfl⟩
  have hpd : parseFieldDescriptor (T j).2.2.1 = some t := by rw [c3 j hj, hty]
  have fin : ∀ (H1 : Heap) (locs1 : List Loc), va_P (gD g) CLS ((cellsL g iv lv).set k (gB g + k, .inr (ci, fs.set j (.long x)))) H1 → va_D (gA g) ((cellsL g iv lv).set k (gB g + k, .inr (ci, fs.set j (.long x)))) → va_S (gA g) s.heap H1 locs1 → W p (gL g) e R s m args below meth c H1 locs1 cells slots QS (F0 m (pc + 3) ls st) := by
    intro H1 locs1 hP hD hS1
    have e : (cellsL g iv lv).set k (gB g + k, .inr (ci, fs.set j (.long x))) = cellsL g iv (upL lv k j x) := cl_set hC.1 (by rw [hC.2, ← hset]; rw [upL_s]) (fun _ _ => rfl) (fun a ha => upL_n ha)
    rw [e] at hP hD
    exact kk H1 ls locs1 hP hS1 hL
  rcases hl with hl | ⟨host, hl⟩
  · exact va_put hx hb hts c2 ty c3 c4 hown hK.1 hM cl_D hS k he c1 j hj (hts _ hl) (fun _ h9 => h9) hfi hpd hq.1 hq.2 hj9 hd fin
  · exact va_putN hx hb hts c2 ty c3 c4 hown hK.1 hM cl_D hS k he c1 j hj (hts _ hl) (fun _ h9 => h9) hfi hpd hq.1 hq.2 hj9 hd fin
theorem z_iald (h : Rw g own cc nL ret R scr Q Z) {k n : Nat} {i : Int32} (hI : IsI g k n) (hd : decode cc pc = .ok (.iaload, 1)) (hi : vp_in i n) (kk : Z (pc + 1) L (.int (iv k i.toNatClampNeg) :: st) iv lv) : Z pc L (.int i :: rf g k :: st) iv lv := by
  obtain ⟨p, e, s, m, args, below, meth, c, cells, slots, A, H0, QS, hx, hb, hml, hown, hts, hK, hf, hscr, hfin, hZ⟩ := h
  rw [hZ]
  rw [hZ] at kk
  intro H ls locs hM hS hL
  obtain ⟨hC, hn⟩ := hI
  have he := cl_get (iv := iv) (lv := lv) hC
  exact va_iald hx hb hK.1 hM k 0 he rfl hi hd (kk H ls locs hM hS hL)
theorem z_ialdN (h : Rw g own cc nL ret R scr Q Z) {k n j : Nat} (hI : IsI g k n) (hd : decode cc pc = .ok (.iaload, 1)) (hj : j < n) (kk : Z (pc + 1) L (.int (iv k j) :: st) iv lv) : Z pc L (.int (nI j) :: rf g k :: st) iv lv := z_iald h hI hd (vp_in_nI hj hI.2) (by rw [nI_clamp (Nat.lt_trans hj hI.2)]; exact kk)
theorem z_lald (h : Rw g own cc nL ret R scr Q Z) {k n : Nat} {i : Int32} (hI : IsL g k n) (hd : decode cc pc = .ok (.laload, 1)) (hi : vp_in i n) (kk : Z (pc + 1) L (.long (lv k i.toNatClampNeg) :: st) iv lv) : Z pc L (.int i :: rf g k :: st) iv lv := by
  obtain ⟨p, e, s, m, args, below, meth, c, cells, slots, A, H0, QS, hx, hb, hml, hown, hts, hK, hf, hscr, hfin, hZ⟩ := h
  rw [hZ]
  rw [hZ] at kk
  intro H ls locs hM hS hL
  obtain ⟨hC, hn⟩ := hI
  have he := cl_get (iv := iv) (lv := lv) hC
  exact va_lald hx hb hK.1 hM k 1 he rfl hi hd (kk H ls locs hM hS hL)
theorem z_laldN (h : Rw g own cc nL ret R scr Q Z) {k n j : Nat} (hI : IsL g k n) (hd : decode cc pc = .ok (.laload, 1)) (hj : j < n) (kk : Z (pc + 1) L (.long (lv k j) :: st) iv lv) : Z pc L (.int (nI j) :: rf g k :: st) iv lv := z_lald h hI hd (vp_in_nI hj hI.2) (by rw [nI_clamp (Nat.lt_trans hj hI.2)]; exact kk)
theorem z_zald (h : Rw g own cc nL ret R scr Q Z) {k n : Nat} {i : Int32} (hI : IsZ g k n) (hd : decode cc pc = .ok (.baload, 1)) (hi : vp_in i n) (kk : Z (pc + 1) L (.int (iv k i.toNatClampNeg) :: st) iv lv) : Z pc L (.int i :: rf g k :: st) iv lv := by
  obtain ⟨p, e, s, m, args, below, meth, c, cells, slots, A, H0, QS, hx, hb, hml, hown, hts, hK, hf, hscr, hfin, hZ⟩ := h
  rw [hZ]
  rw [hZ] at kk
  intro H ls locs hM hS hL
  obtain ⟨hC, hn⟩ := hI
  have he := cl_get (iv := iv) (lv := lv) hC
  exact va_zald hx hb hK.1 hM k 2 he rfl hi hd (kk H ls locs hM hS hL)
theorem z_zaldN (h : Rw g own cc nL ret R scr Q Z) {k n j : Nat} (hI : IsZ g k n) (hd : decode cc pc = .ok (.baload, 1)) (hj : j < n) (kk : Z (pc + 1) L (.int (iv k j) :: st) iv lv) : Z pc L (.int (nI j) :: rf g k :: st) iv lv := z_zald h hI hd (vp_in_nI hj hI.2) (by rw [nI_clamp (Nat.lt_trans hj hI.2)]; exact kk)
theorem z_iast (h : Rw g own cc nL ret R scr Q Z) {k n : Nat} {i : Int32} {x : Int32} (hI : IsI g k n) (hd : decode cc pc = .ok (.iastore, 1)) (hi : vp_in i n) (kk : Z (pc + 1) L st (upI iv k i.toNatClampNeg x) lv) : Z pc L (.int x :: .int i :: rf g k :: st) iv lv := by
  obtain ⟨p, e, s, m, args, below, meth, c, cells, slots, A, H0, QS, hx, hb, hml, hown, hts, hK, hf, hscr, hfin, hZ⟩ := h
  rw [hZ]
  rw [hZ] at kk
  intro H ls locs hM hS hL
  obtain ⟨hC, hn⟩ := hI
  have he := cl_get (iv := iv) (lv := lv) hC
  refine va_iast hx hb hK.1 hM cl_D hS k 0 he rfl hi hd (fun H1 locs1 hP hD hS1 => ?_)
  rw [cl_set (iv' := (upI iv k i.toNatClampNeg x)) (lv' := lv) hC.1 (by rw [hC.2, upI_s]) (fun a ha => upI_n ha) (fun _ _ => rfl)] at hP
  exact kk H1 ls locs1 hP hS1 hL
theorem z_iastN (h : Rw g own cc nL ret R scr Q Z) {k n j : Nat} {x : Int32} (hI : IsI g k n) (hd : decode cc pc = .ok (.iastore, 1)) (hj : j < n) (kk : Z (pc + 1) L st (upI iv k j x) lv) : Z pc L (.int x :: .int (nI j) :: rf g k :: st) iv lv := z_iast h hI hd (vp_in_nI hj hI.2) (by rw [nI_clamp (Nat.lt_trans hj hI.2)]; exact kk)
theorem z_last (h : Rw g own cc nL ret R scr Q Z) {k n : Nat} {i : Int32} {x : Int64} (hI : IsL g k n) (hd : decode cc pc = .ok (.lastore, 1)) (hi : vp_in i n) (kk : Z (pc + 1) L st iv (upL lv k i.toNatClampNeg x)) : Z pc L (.long x :: .int i :: rf g k :: st) iv lv := by
  obtain ⟨p, e, s, m, args, below, meth, c, cells, slots, A, H0, QS, hx, hb, hml, hown, hts, hK, hf, hscr, hfin, hZ⟩ := h
  rw [hZ]
  rw [hZ] at kk
  intro H ls locs hM hS hL
  obtain ⟨hC, hn⟩ := hI
  have he := cl_get (iv := iv) (lv := lv) hC
  refine va_last hx hb hK.1 hM cl_D hS k 1 he rfl hi hd (fun H1 locs1 hP hD hS1 => ?_)
  rw [cl_set (iv' := iv) (lv' := (upL lv k i.toNatClampNeg x)) hC.1 (by rw [hC.2, upL_s]) (fun _ _ => rfl) (fun a ha => upL_n ha)] at hP
  exact kk H1 ls locs1 hP hS1 hL
theorem z_lastN (h : Rw g own cc nL ret R scr Q Z) {k n j : Nat} {x : Int64} (hI : IsL g k n) (hd : decode cc pc = .ok (.lastore, 1)) (hj : j < n) (kk : Z (pc + 1) L st iv (upL lv k j x)) : Z pc L (.long x :: .int (nI j) :: rf g k :: st) iv lv := z_last h hI hd (vp_in_nI hj hI.2) (by rw [nI_clamp (Nat.lt_trans hj hI.2)]; exact kk)
theorem z_zast (h : Rw g own cc nL ret R scr Q Z) {k n : Nat} {i : Int32} {x : Int32} (hI : IsZ g k n) (hd : decode cc pc = .ok (.bastore, 1)) (hi : vp_in i n) (kk : Z (pc + 1) L st (upI iv k i.toNatClampNeg (vp_nar .boolean x)) lv) : Z pc L (.int x :: .int i :: rf g k :: st) iv lv := by
  obtain ⟨p, e, s, m, args, below, meth, c, cells, slots, A, H0, QS, hx, hb, hml, hown, hts, hK, hf, hscr, hfin, hZ⟩ := h
  rw [hZ]
  rw [hZ] at kk
  intro H ls locs hM hS hL
  obtain ⟨hC, hn⟩ := hI
  have he := cl_get (iv := iv) (lv := lv) hC
  refine va_zast hx hb hK.1 hM cl_D hS k 2 he rfl hi hd (fun H1 locs1 hP hD hS1 => ?_)
  rw [cl_set (iv' := (upI iv k i.toNatClampNeg (vp_nar .boolean x))) (lv' := lv) hC.1 (by rw [hC.2, upI_s]) (fun a ha => upI_n ha) (fun _ _ => rfl)] at hP
  exact kk H1 ls locs1 hP hS1 hL
theorem z_zastN (h : Rw g own cc nL ret R scr Q Z) {k n j : Nat} {x : Int32} (hI : IsZ g k n) (hd : decode cc pc = .ok (.bastore, 1)) (hj : j < n) (kk : Z (pc + 1) L st (upI iv k j (vp_nar .boolean x)) lv) : Z pc L (.int x :: .int (nI j) :: rf g k :: st) iv lv := z_zast h hI hd (vp_in_nI hj hI.2) (by rw [nI_clamp (Nat.lt_trans hj hI.2)]; exact kk)
theorem z_maldN (h : Rw g own cc nL ret R scr Q Z) {k n j : Nat} {r : Nat → Nat} (hI : IsM g k n r) (hd : decode cc pc = .ok (.aaload, 1)) (hj : j < n) (kk : Z (pc + 1) L (rf g (r j) :: st) iv lv) : Z pc L (.int (nI j) :: rf g k :: st) iv lv := by
  obtain ⟨p, e, s, m, args, below, meth, c, cells, slots, A, H0, QS, hx, hb, hml, hown, hts, hK, hf, hscr, hfin, hZ⟩ := h
  rw [hZ]
  rw [hZ] at kk
  intro H ls locs hM hS hL
  obtain ⟨hC, hn⟩ := hI
  have he := cl_get (iv := iv) (lv := lv) hC
  refine va_aldq hx hb hK.1 hM k 3 he rfl (vp_in_nI hj hn) hd ?_
  rw [nI_clamp (Nat.lt_trans hj hn), if_pos hj]
  exact kk H ls locs hM hS hL
theorem z_galdN (h : Rw g own cc nL ret R scr Q Z) {k n j : Nat} {r : Nat → Nat} (hI : IsG g k n r) (hd : decode cc pc = .ok (.aaload, 1)) (hj : j < n) (kk : Z (pc + 1) L (rf g (r j) :: st) iv lv) : Z pc L (.int (nI j) :: rf g k :: st) iv lv := by
  obtain ⟨p, e, s, m, args, below, meth, c, cells, slots, A, H0, QS, hx, hb, hml, hown, hts, hK, hf, hscr, hfin, hZ⟩ := h
  rw [hZ]
  rw [hZ] at kk
  intro H ls locs hM hS hL
  obtain ⟨hC, hn⟩ := hI
  have he := cl_get (iv := iv) (lv := lv) hC
  have hin := vp_in_nI hj hn
  have e9 : (nI j).toNatClampNeg = j := nI_clamp (Nat.lt_trans hj hn)
  refine W.aald (v := rf g (r j)) (ty := .array .int) hx hb (hM k _ he) ((hK.1.2 4 _ rfl).1 n (fun j => va_rf (if j < n then some (gB g + r j) else none))) rfl (fun q => by cases q) (by show ¬ (nI j < 0 ∨ (arrV _ _ _).slots.size ≤ _); rw [arrV_size]; exact hin) (by show (arrV _ _ _).slots[_]? = _; rw [e9, arrV_read _ _ hj]; exact congrArg (fun o => some (va_rf o)) (if_pos hj)) rfl rfl hd ?_
  exact kk H ls locs hM hS hL
theorem z_alenI (h : Rw g own cc nL ret R scr Q Z) {k n : Nat} (hI : IsI g k n) (hd : decode cc pc = .ok (.arraylength, 1)) (kk : Z (pc + 1) L (.int (nI n) :: st) iv lv) : Z pc L (rf g k :: st) iv lv := by
  obtain ⟨p, e, s, m, args, below, meth, c, cells, slots, A, H0, QS, hx, hb, hml, hown, hts, hK, hf, hscr, hfin, hZ⟩ := h
  rw [hZ]
  rw [hZ] at kk
  intro H ls locs hM hS hL
  obtain ⟨hC, hn⟩ := hI
  have he := cl_get (iv := iv) (lv := lv) hC
  exact va_alen hx hb hK.1 hM k 0 he rfl rfl hd (kk H ls locs hM hS hL)
theorem z_alenL (h : Rw g own cc nL ret R scr Q Z) {k n : Nat} (hI : IsL g k n) (hd : decode cc pc = .ok (.arraylength, 1)) (kk : Z (pc + 1) L (.int (nI n) :: st) iv lv) : Z pc L (rf g k :: st) iv lv := by
  obtain ⟨p, e, s, m, args, below, meth, c, cells, slots, A, H0, QS, hx, hb, hml, hown, hts, hK, hf, hscr, hfin, hZ⟩ := h
  rw [hZ]
  rw [hZ] at kk
  intro H ls locs hM hS hL
  obtain ⟨hC, hn⟩ := hI
  have he := cl_get (iv := iv) (lv := lv) hC
  exact va_alen hx hb hK.1 hM k 1 he rfl rfl hd (kk H ls locs hM hS hL)
theorem z_alenZ (h : Rw g own cc nL ret R scr Q Z) {k n : Nat} (hI : IsZ g k n) (hd : decode cc pc = .ok (.arraylength, 1)) (kk : Z (pc + 1) L (.int (nI n) :: st) iv lv) : Z pc L (rf g k :: st) iv lv := by
  obtain ⟨p, e, s, m, args, below, meth, c, cells, slots, A, H0, QS, hx, hb, hml, hown, hts, hK, hf, hscr, hfin, hZ⟩ := h
  rw [hZ]
  rw [hZ] at kk
  intro H ls locs hM hS hL
  obtain ⟨hC, hn⟩ := hI
  have he := cl_get (iv := iv) (lv := lv) hC
  exact va_alen hx hb hK.1 hM k 2 he rfl rfl hd (kk H ls locs hM hS hL)
theorem z_alenM (h : Rw g own cc nL ret R scr Q Z) {k n : Nat} {r : Nat → Nat} (hI : IsM g k n r) (hd : decode cc pc = .ok (.arraylength, 1)) (kk : Z (pc + 1) L (.int (nI n) :: st) iv lv) : Z pc L (rf g k :: st) iv lv := by
  obtain ⟨p, e, s, m, args, below, meth, c, cells, slots, A, H0, QS, hx, hb, hml, hown, hts, hK, hf, hscr, hfin, hZ⟩ := h
  rw [hZ]
  rw [hZ] at kk
  intro H ls locs hM hS hL
  obtain ⟨hC, hn⟩ := hI
  have he := cl_get (iv := iv) (lv := lv) hC
  exact va_alen hx hb hK.1 hM k 3 he rfl rfl hd (kk H ls locs hM hS hL)
theorem z_alenG (h : Rw g own cc nL ret R scr Q Z) {k n : Nat} {r : Nat → Nat} (hI : IsG g k n r) (hd : decode cc pc = .ok (.arraylength, 1)) (kk : Z (pc + 1) L (.int (nI n) :: st) iv lv) : Z pc L (rf g k :: st) iv lv := by
  obtain ⟨p, e, s, m, args, below, meth, c, cells, slots, A, H0, QS, hx, hb, hml, hown, hts, hK, hf, hscr, hfin, hZ⟩ := h
  rw [hZ]
  rw [hZ] at kk
  intro H ls locs hM hS hL
  obtain ⟨hC, hn⟩ := hI
  have he := cl_get (iv := iv) (lv := lv) hC
  exact va_alen hx hb hK.1 hM k 4 he rfl rfl hd (kk H ls locs hM hS hL)
theorem z_gets (h : Rw g own cc nL ret R scr Q Z) {idx i : Nat} (hd : decode cc pc = .ok (.getstatic idx, 3)) (hi : i < 3) (hl : Cond.fieldLink own idx "RollingNets" (sN i) "[I" ∈ TBL) (kk : Z (pc + 3) L (rt g i :: st) iv lv) : Z pc L st iv lv := by
  obtain ⟨p, e, s, m, args, below, meth, c, cells, slots, A, H0, QS, hx, hb, hml, hown, hts, hK, hf, hscr, hfin, hZ⟩ := h
  rw [hZ]
  rw [hZ] at kk
  intro H ls locs hM hS hL
  exact va_gets hx hb (hK.2 i hi).1 hS hown (hts _ hl) (fun _ h9 => h9) hd (kk H ls locs hM hS hL)
theorem z_tald (h : Rw g own cc nL ret R scr Q Z) {i j : Nat} (hd : decode cc pc = .ok (.iaload, 1)) (hi : i < 3) (hj : j < 7) (kk : Z (pc + 1) L (.int (sV i j) :: st) iv lv) : Z pc L (.int (nI j) :: rt g i :: st) iv lv := by
  obtain ⟨p, e, s, m, args, below, meth, c, cells, slots, A, H0, QS, hx, hb, hml, hown, hts, hK, hf, hscr, hfin, hZ⟩ := h
  rw [hZ]
  rw [hZ] at kk
  intro H ls locs hM hS hL
  exact va_ti hx hb (hK.2 i hi).2 hS (vp_in_nI hj (by omega)) (by rw [nI_clamp (by omega)]) hd (kk H ls locs hM hS hL)
theorem z_tlen (h : Rw g own cc nL ret R scr Q Z) {i : Nat} (hd : decode cc pc = .ok (.arraylength, 1)) (hi : i < 3) (kk : Z (pc + 1) L (.int (nI 7) :: st) iv lv) : Z pc L (rt g i :: st) iv lv := by
  obtain ⟨p, e, s, m, args, below, meth, c, cells, slots, A, H0, QS, hx, hb, hml, hown, hts, hK, hf, hscr, hfin, hZ⟩ := h
  rw [hZ]
  rw [hZ] at kk
  intro H ls locs hM hS hL
  exact va_tlen hx hb (hK.2 i hi).2 hS rfl hd (kk H ls locs hM hS hL)
theorem z_sld (h : Rw g own cc nL ret R scr Q Z) {b N : Nat} {xs : Nat → Int32} {j : Nat} (hs : scr = some (b, N, xs)) (hd : decode cc pc = .ok (.iaload, 1)) (hj : j < N) (hN : N < 2 ^ 31) (kk : Z (pc + 1) L (.int (xs j) :: st) iv lv) : Z pc L (.int (nI j) :: .ref b :: st) iv lv := by
  obtain ⟨p, e, s, m, args, below, meth, c, cells, slots, A, H0, QS, hx, hb, hml, hown, hts, hK, hf, hscr, hfin, hZ⟩ := h
  rw [hZ]
  rw [hZ] at kk
  intro H ls locs hM hS hL
  obtain ⟨a1, a2, a3⟩ := hscr _ hs
  refine va_sld hx hb a1 a2 a3 hS (vp_in_nI hj hN) hd ?_
  rw [nI_clamp (Nat.lt_trans hj hN)]
  exact kk H ls locs hM hS hL
theorem z_slen (h : Rw g own cc nL ret R scr Q Z) {b N : Nat} {xs : Nat → Int32} (hs : scr = some (b, N, xs)) (hd : decode cc pc = .ok (.arraylength, 1)) (kk : Z (pc + 1) L (.int (nI N) :: st) iv lv) : Z pc L (.ref b :: st) iv lv := by
  obtain ⟨p, e, s, m, args, below, meth, c, cells, slots, A, H0, QS, hx, hb, hml, hown, hts, hK, hf, hscr, hfin, hZ⟩ := h
  rw [hZ]
  rw [hZ] at kk
  intro H ls locs hM hS hL
  obtain ⟨a1, a2, a3⟩ := hscr _ hs
  exact va_slen hx hb a1 a2 a3 hS hd (kk H ls locs hM hS hL)
def MA (own : String) (idx : Nat) (y : MethodName) : Prop := Cond.methodLink own idx y ∈ TBL ∧ Cond.static y ∈ TBL ∧ Cond.initialized "java/lang/Math" ∈ TBL
theorem z_mmax (h : Rw g own cc nL ret R scr Q Z) {idx : Nat} {x y : Int32} (hA : MA own idx Lib.Math.max.name) (hc9 : Cond.code Lib.Math.max.name Lib.Math.max.code 2 (some .int) ∈ TBL) (hd : decode cc pc = .ok (.invokestatic idx, 3)) (hR : 1 ≤ R.frames ∧ (st.map fun v => v.category).sum + 13 ≤ R.locals) (kk : Z (pc + 3) L (.int (if x < y then y else x) :: st) iv lv) : Z pc L (.int y :: .int x :: st) iv lv := by
  obtain ⟨p, e, s, m, args, below, meth, c, cells, slots, A, H0, QS, hx, hb, hml, hown, hts, hK, hf, hscr, hfin, hZ⟩ := h
  rw [hZ]
  rw [hZ] at kk
  intro H ls locs hM hS hL
  exact va_mmax hx hb (hml.trans hL.1.symm) hown (hts _ hA.1) (hts _ hA.2.1) (hts _ hA.2.2) (hts _ hc9) hR.1 hR.2 hf.1 hf.2 hd (kk H ls locs hM hS hL)
theorem z_mmin (h : Rw g own cc nL ret R scr Q Z) {idx : Nat} {x y : Int32} (hA : MA own idx Lib.Math.min.name) (hc9 : Cond.code Lib.Math.min.name Lib.Math.min.code 2 (some .int) ∈ TBL) (hd : decode cc pc = .ok (.invokestatic idx, 3)) (hR : 1 ≤ R.frames ∧ (st.map fun v => v.category).sum + 13 ≤ R.locals) (kk : Z (pc + 3) L (.int (if y < x then y else x) :: st) iv lv) : Z pc L (.int y :: .int x :: st) iv lv := by
  obtain ⟨p, e, s, m, args, below, meth, c, cells, slots, A, H0, QS, hx, hb, hml, hown, hts, hK, hf, hscr, hfin, hZ⟩ := h
  rw [hZ]
  rw [hZ] at kk
  intro H ls locs hM hS hL
  exact va_mmin hx hb (hml.trans hL.1.symm) hown (hts _ hA.1) (hts _ hA.2.1) (hts _ hA.2.2) (hts _ hc9) hR.1 hR.2 hf.1 hf.2 hd (kk H ls locs hM hS hL)
theorem z_mabs (h : Rw g own cc nL ret R scr Q Z) {idx : Nat} {x : Int32} (hA : MA own idx Lib.Math.abs.name) (hc9 : Cond.code Lib.Math.abs.name Lib.Math.abs.code 1 (some .int) ∈ TBL) (hd : decode cc pc = .ok (.invokestatic idx, 3)) (hR : 1 ≤ R.frames ∧ (st.map fun v => v.category).sum + 13 ≤ R.locals) (kk : Z (pc + 3) L (.int (if 0 ≤ x then x else 0 - x) :: st) iv lv) : Z pc L (.int x :: st) iv lv := by
  obtain ⟨p, e, s, m, args, below, meth, c, cells, slots, A, H0, QS, hx, hb, hml, hown, hts, hK, hf, hscr, hfin, hZ⟩ := h
  rw [hZ]
  rw [hZ] at kk
  intro H ls locs hM hS hL
  exact va_mabs hx hb (hml.trans hL.1.symm) hown (hts _ hA.1) (hts _ hA.2.1) (hts _ hA.2.2) (hts _ hc9) hR.1 hR.2 hf.1 hf.2 hd (kk H ls locs hM hS hL)
theorem z_mmax_long (h : Rw g own cc nL ret R scr Q Z) {idx : Nat} {x y : Int64} (hA : MA own idx Lib.MathLoose.max_long.x) (hc9 : Cond.code Lib.MathLoose.max_long.x Lib.MathLoose.max_long.code 4 (some .long) ∈ TBL) (hd : decode cc pc = .ok (.invokestatic idx, 3)) (hR : 1 ≤ R.frames ∧ (st.map fun v => v.category).sum + 15 ≤ R.locals) (kk : Z (pc + 3) L (.long (if y < x then x else y) :: st) iv lv) : Z pc L (.long y :: .long x :: st) iv lv := by
  obtain ⟨p, e, s, m, args, below, meth, c, cells, slots, A, H0, QS, hx, hb, hml, hown, hts, hK, hf, hscr, hfin, hZ⟩ := h
  rw [hZ]
  rw [hZ] at kk
  intro H ls locs hM hS hL
  exact va_mmax_long hx hb (hml.trans hL.1.symm) hown (hts _ hA.1) (hts _ hA.2.1) (hts _ hA.2.2) (hts _ hc9) hR.1 hR.2 hf.1 hf.2 hd (kk H ls locs hM hS hL)
theorem z_mmin_long (h : Rw g own cc nL ret R scr Q Z) {idx : Nat} {x y : Int64} (hA : MA own idx Lib.MathLoose.min_long.x) (hc9 : Cond.code Lib.MathLoose.min_long.x Lib.MathLoose.min_long.code 4 (some .long) ∈ TBL) (hd : decode cc pc = .ok (.invokestatic idx, 3)) (hR : 1 ≤ R.frames ∧ (st.map fun v => v.category).sum + 15 ≤ R.locals) (kk : Z (pc + 3) L (.long (if y < x then y else x) :: st) iv lv) : Z pc L (.long y :: .long x :: st) iv lv := by
  obtain ⟨p, e, s, m, args, below, meth, c, cells, slots, A, H0, QS, hx, hb, hml, hown, hts, hK, hf, hscr, hfin, hZ⟩ := h
  rw [hZ]
  rw [hZ] at kk
  intro H ls locs hM hS hL
  exact va_mmin_long hx hb (hml.trans hL.1.symm) hown (hts _ hA.1) (hts _ hA.2.1) (hts _ hA.2.2) (hts _ hc9) hR.1 hR.2 hf.1 hf.2 hd (kk H ls locs hM hS hL)
end ZR
section ZC
variable {p : Program} {l : Launch} {e : Env} {R : Room} {s : State} {m : MethodId} {args : Array Value} {below : List Frame} {meth : Method} {c : Code} {H : Heap} {locs : List Loc} {cells slots : Nat} {QS : State → Prop}
/-- behind a call -/
theorem zw_call {g : GE} {pc : Nat} {ls : Array Slot} {rest st0 : List Value} {a : Array Value} {Qf : Option Value → Iv → Lv → Prop}
    (hr : va_Run p l e R s m args below meth c H locs cells slots 0 0 (F0 m pc ls st0) rest (fun st oc t => ∃ v iv' lv', oc = .returned v ∧ Qf v iv' lv' ∧ Mo g iv' lv' t.heap ∧ Kn g t ∧ va_F (gA g) st t) (gA g)) (hS : va_S (gA g) s.heap H locs)
    (kk : ∀ (v : Option Value) (iv' : Iv) (lv' : Lv) (H1 : Heap) (locs1 : List Loc), Qf v iv' lv' → Mo g iv' lv' H1 → va_S (gA g) s.heap H1 locs1 → W p l e R s m args below meth c H1 locs1 cells slots QS (F0 m (pc + 3) ls (v.toList ++ rest))) : W p l e R s m args below meth c H locs cells slots QS (F0 m pc ls st0) := by
  intro T hT X
  obtain ⟨v, st₀, t, T', L, h0, X', hL, e1, e2, ⟨w, iv', lv', hv, hq, hM, hK, hz, hk⟩, st⟩ := hr T hT X
  cases hv
  rw [h0] at hz hk
  obtain ⟨t2, a1, b1⟩ := kk v iv' lv' T'.heap (locs ++ L) hq (by rw [e1]; exact hM)
    ⟨Nat.le_trans hS.1 (by rw [e1]; exact hz), fun q h1 h2 => by rw [e1, hk q (Nat.lt_of_lt_of_le h1 hS.1) h2]; exact hS.2.1 q h1 h2, fun q hq => by
      rcases List.mem_append.mp hq with h | h
      · exact hS.2.2 q h
      · exact hL q h⟩ T' rfl X'
  exact ⟨t2, st t2 a1, b1⟩
theorem zw_blind {g : GE} {as : List Value} {iv : Iv} {lv : Lv} : FrameBlind (va_Pc as (fun U => Mo g iv lv U.heap ∧ Kn g U)) := fun a U fr mk q => by
  obtain ⟨q0, q1, q2, q3⟩ := q
  exact ⟨q0, q1, va_K.moved (u := U) (U := U.calling fr mk a) (Vm.Alike.refl U.vm) q2, q3.moved (u := U) (U := U.calling fr mk a) (Vm.Alike.refl U.vm)⟩
theorem zw_pre {g : GE} {as : List Value} {iv : Iv} {lv : Lv} (hM : Mo g iv lv H) (hK : va_K (gD g) CLS (tysL (gE g)) s ∧ Sx g s s.heap) (hS : va_S (gA g) s.heap H locs) : ∀ U : State, U.heap = H → s.WarmedH U.vm → va_Pc as (fun U => Mo g iv lv U.heap ∧ Kn g U) as.toArray U := fun U hU hW =>
  ⟨rfl, by rw [hU]; exact hM, hK.1.moved hW.alike, by rw [hU]; exact (hK.2.moved hW.alike).kept hS.2.1⟩
end ZC
/-- links of a call: plain, or between nest mates; the method's code and its number of arguments -/
def ML (own : String) (idx : Nat) (y : MethodName) (b : ByteArray) (n : Nat) (ret : Option FieldType) (na : Nat) : Prop :=
  ((Cond.methodLink own idx y ∈ TBL) ∨ ∃ host, Cond.methodLinkNest own idx y host ∈ TBL) ∧ Cond.initialized y.cls ∈ TBL ∧ Cond.code y b n ret ∈ TBL ∧ (y.cls ≠ "java/lang/invoke/MethodHandle" ∧ y.cls ≠ "java/lang/invoke/VarHandle" ∧ (parseMethodDescriptor y.desc).map (fun d => d.parameters.length) = some na)
def MV (own : String) (idx : Nat) (y : MethodName) (b : ByteArray) (n : Nat) (ret : Option FieldType) (na ci : Nat) : Prop :=
  ML own idx y b n ret na ∧ Cond.instanceMethod y ∈ TBL ∧ Cond.selects y.cls y y ∈ TBL ∧ ∃ (T : u_T) (N : Nat), CLS[ci]? = some (y.cls, T, N)
def MS (own : String) (idx : Nat) (y : MethodName) (b : ByteArray) (n : Nat) (ret : Option FieldType) (na : Nat) : Prop :=
  ML own idx y b n ret na ∧ Cond.static y ∈ TBL
theorem TBL_code {y : MethodName} {b : ByteArray} {n : Nat} {ret : Option FieldType} (h : Cond.code y b n ret ∈ TBL) : GoodIn TBL (.code y b n ret :: TBL) := TBL_in (fun w hw => (List.mem_cons.mp hw).elim (fun e => e ▸ h) id)
section ZD
variable {g : GE} {own : String} {cc : ByteArray} {nL : Nat} {ret : Option FieldType} {R : Room} {scr : Option (Nat × Nat × (Nat → Int32))} {Q : Option Value → Iv → Lv → Prop} {Z : ZT} {pc : Nat} {L : LO} {st : List Value} {iv : Iv} {lv : Lv}
theorem z_callV (h : Rw g own cc nL ret R scr Q Z) {idx ci na n d k : Nat} {y : MethodName} {b : ByteArray} {rt : Option FieldType} {As stk : List Value} {Qf : Option Value → Iv → Lv → Prop} {F : FF} {fs : List Value}
    (hV : MV own idx y b n rt na ci) (hd : decode cc pc = .ok (.invokevirtual idx, 3)) (hC : Cl g k F) (hfs : F (iv k) (lv k) = .inr (ci, fs))
    (hc : Con g y b n rt d (rf g k :: As) iv lv Qf) (hR : d + 1 ≤ R.frames ∧ 8 + (n + 11) + 40 * d ≤ R.locals) (hn : As.length = na) (hstk : stk = As.reverse ++ rf g k :: st) (hw : (st.map fun v => v.category).sum ≤ 8)
    (kk : ∀ v iv' lv', Qf v iv' lv' → Z (pc + 3) L (v.toList ++ st) iv' lv') : Z pc L stk iv lv := by
  obtain ⟨p, e, s, m, args, below, meth, c, cells, slots, A, H0, QS, hx, hb, hml, hown, hts, hK, hf, hscr, hfin, hZ⟩ := h
  rw [hZ]
  intro H ls locs hM hS hL
  subst hstk
  have he := cl_get (iv := iv) (lv := lv) hC
  rw [hfs] at he
  obtain ⟨⟨hl, hini, hcode, hdd⟩, hin, hsel, T, N, hci⟩ := hV
  have hrecv := va_recv hK.1 hM hci he
  have hG := TBL_code hcode
  have hfix : CallFix p m c cc nL s args TBL own := ⟨hx, hb, hml, hown, hts⟩
  have hgo : va_Run p (gL g) e R s m args below meth c H locs cells slots 0 0 (F0 m pc ls (As.reverse ++ rf g k :: st)) st ((fun (_ : Array Value) st oc t => ∃ v iv' lv', oc = .returned v ∧ Qf v iv' lv' ∧ Mo g iv' lv' t.heap ∧ Kn g t ∧ va_F (gA g) st t) (rf g k :: As).toArray) (gA g) := by
    rcases hl with hl | ⟨host, hl⟩
    · have cw : CallW R s args own y.cls idx y b n rt (.code y b n rt :: TBL) (rmd d) 0 0 na := ⟨callB_of na hts hG rfl rfl rfl (hts _ hini) (hts _ hl) hdd hR, hts _ hin, hts _ hsel⟩
      exact va_runV (b := gB g + k) hfix hc cw ⟨zw_blind, hrecv, zw_pre (as := rf g k :: As) hM hK hS⟩ rfl hn hL.1 rfl (lv_room hw) hd hf
    · have cw := va_cnB (own := own) (host := host) (index := idx) (y := y) (ws := .code y b n rt :: TBL) (rm := rmd d) (R := R) na hts hG rfl rfl rfl (hts _ hl) (hts _ hini) hdd hR
      exact va_runVN (b := gB g + k) hfix hc ⟨cw, hts _ hin, hts _ hsel⟩ ⟨zw_blind, hrecv, zw_pre (as := rf g k :: As) hM hK hS⟩ rfl hn hL.1 rfl (lv_room hw) hd hf
  exact zw_call (a := args) hgo hS (fun v iv' lv' H1 locs1 q1 q2 q3 => (hZ _ _ _ _ _).mp (kk v iv' lv' q1) H1 ls locs1 q2 q3 hL)
theorem z_callS (h : Rw g own cc nL ret R scr Q Z) {idx na n d : Nat} {y : MethodName} {b : ByteArray} {rt : Option FieldType} {As stk : List Value} {Qf : Option Value → Iv → Lv → Prop}
    (hV : MS own idx y b n rt na) (hd : decode cc pc = .ok (.invokestatic idx, 3))
    (hc : Con g y b n rt d As iv lv Qf) (hR : d + 1 ≤ R.frames ∧ 8 + (n + 11) + 40 * d ≤ R.locals) (hn : As.length = na) (hstk : stk = As.reverse ++ st) (hw : (st.map fun v => v.category).sum ≤ 8)
    (kk : ∀ v iv' lv', Qf v iv' lv' → Z (pc + 3) L (v.toList ++ st) iv' lv') : Z pc L stk iv lv := by
  obtain ⟨p, e, s, m, args, below, meth, c, cells, slots, A, H0, QS, hx, hb, hml, hown, hts, hK, hf, hscr, hfin, hZ⟩ := h
  rw [hZ]
  intro H ls locs hM hS hL
  subst hstk
  obtain ⟨⟨hl, hini, hcode, hdd⟩, hst⟩ := hV
  have hG := TBL_code hcode
  have hfix : CallFix p m c cc nL s args TBL own := ⟨hx, hb, hml, hown, hts⟩
  have hgo : va_Run p (gL g) e R s m args below meth c H locs cells slots 0 0 (F0 m pc ls (As.reverse ++ st)) st ((fun (_ : Array Value) st oc t => ∃ v iv' lv', oc = .returned v ∧ Qf v iv' lv' ∧ Mo g iv' lv' t.heap ∧ Kn g t ∧ va_F (gA g) st t) As.toArray) (gA g) := by
    rcases hl with hl | ⟨host, hl⟩
    · have cw : CallB R s args own idx y b n rt (.code y b n rt :: TBL) (rmd d) 0 0 na := callB_of na hts hG rfl rfl rfl (hts _ hini) (hts _ hl) hdd hR
      exact va_runS hfix hc ⟨cw, hts _ hst⟩ ⟨zw_blind, zw_pre (as := As) hM hK hS⟩ rfl hn hL.1 rfl (lv_room hw) hd hf
    · have cw := va_cnB (own := own) (host := host) (index := idx) (y := y) (ws := .code y b n rt :: TBL) (rm := rmd d) (R := R) na hts hG rfl rfl rfl (hts _ hl) (hts _ hini) hdd hR
      exact va_runSN hfix hc ⟨cw, hts _ hst, trivial⟩ ⟨zw_blind, zw_pre (as := As) hM hK hS⟩ rfl hn hL.1 rfl (lv_room hw) hd hf
  exact zw_call (a := args) hgo hS (fun v iv' lv' H1 locs1 q1 q2 q3 => (hZ _ _ _ _ _).mp (kk v iv' lv' q1) H1 ls locs1 q2 q3 hL)
theorem z_ret (h : Rw g own cc nL ret R scr Q Z) {v : Option Value} (hr : RetOK cc pc ret v) (hq : Q v iv lv) : Z pc L v.toList iv lv := by
  obtain ⟨p, e, s, m, args, below, meth, c, cells, slots, A, H0, QS, hx, hb, hml, hown, hts, hK, hf, hscr, hfin, hZ⟩ := h
  rw [hZ]
  intro H ls locs hM hS hL
  exact hfin pc ls iv lv H locs v hr hq hM hS
theorem z_iret (h : Rw g own cc nL (some .int) R scr Q Z) {x : Int32} (hd : decode cc pc = .ok (.ireturn, 1)) (hq : Q (some (.int x)) iv lv) : Z pc L [.int x] iv lv := z_ret (v := some (.int x)) h ⟨Or.inl rfl, hd⟩ hq
theorem z_zret (h : Rw g own cc nL (some .boolean) R scr Q Z) {x : Int32} (hd : decode cc pc = .ok (.ireturn, 1)) (hx : x = 0 ∨ x = 1) (hq : Q (some (.int x)) iv lv) : Z pc L [.int x] iv lv := z_ret (v := some (.int x)) h ⟨Or.inr ⟨rfl, hx⟩, hd⟩ hq
theorem z_lret (h : Rw g own cc nL (some .long) R scr Q Z) {x : Int64} (hd : decode cc pc = .ok (.lreturn, 1)) (hq : Q (some (.long x)) iv lv) : Z pc L [.long x] iv lv := z_ret (v := some (.long x)) h ⟨rfl, hd⟩ hq
theorem z_vret (h : Rw g own cc nL none R scr Q Z) (hd : decode cc pc = .ok (.return_, 1)) (hq : Q none iv lv) : Z pc L [] iv lv := z_ret (v := none) h ⟨rfl, hd⟩ hq
end ZD
def lo0 : List Value → LO
  | [] => []
  | v :: t => if v.category = 2 then some v :: none :: lo0 t else some v :: lo0 t
def loI (n : Nat) (as : List Value) : LO := lo0 as ++ List.replicate (n - (lo0 as).length) none
theorem lo0_args : ∀ (as : List Value) (k i : Nat) (v : Value), (lo0 as)[i]? = some (some v) → (k + i, v) ∈ lv_args k as
  | [], k, i, v, h => by simp [lo0] at h
  | a :: t, k, i, v, h => by
    unfold lo0 at h
    unfold lv_args
    by_cases hc : a.category = 2
    · rw [if_pos hc] at h ⊢
      match i, h with
      | 0, h => simp at h; subst h; exact List.mem_cons_self
      | 1, h => simp at h
      | i + 2, h =>
        have h' : (lo0 t)[i]? = some (some v) := by simpa using h
        have := lo0_args t (k + 2) i v h'
        rw [show k + (i + 2) = k + 2 + i by omega]
        exact List.mem_cons_of_mem _ this
    · rw [if_neg hc] at h ⊢
      match i, h with
      | 0, h => simp at h; subst h; exact List.mem_cons_self
      | i + 1, h =>
        have h' : (lo0 t)[i]? = some (some v) := by simpa using h
        have := lo0_args t (k + 1) i v h'
        rw [show k + (i + 1) = k + 1 + i by omega]
        exact List.mem_cons_of_mem _ this
theorem loI_has {as : List Value} {n : Nat} {ls : Array Slot} (h : lv_has ls n (lv_args 0 as)) : lvL ls n (loI n as) := by
  refine ⟨h.1, h.2.1, fun i v hi => ?_⟩
  unfold loI at hi
  by_cases hl : i < (lo0 as).length
  · rw [List.getElem?_append_left hl] at hi
    have := lo0_args as 0 i v hi
    rw [Nat.zero_add] at this
    exact h.2.2 _ this
  · rw [List.getElem?_append_right (by omega)] at hi
    have := List.mem_of_getElem? hi
    rw [List.mem_replicate] at this
    cases this.2
/-- A CONTRACT OUT OF A WALK -/
theorem con_intro {g : GE} {own : String} {y : MethodName} {b : ByteArray} {n : Nat} {ret : Option FieldType} {d : Nat} {as : List Value} {iv : Iv} {lv : Lv} {Q : Option Value → Iv → Lv → Prop} {L0 : LO}
    (hy : plainName y.cls = true) (ho : y.cls = own) (hn : (lg_sl as).length ≤ n) (hL0 : loI n as = L0) (body : ∀ Z, Rw g own b n ret (rmd d) none Q Z → Z 0 L0 [] iv lv) : Con g y b n ret d as iv lv Q := by
  subst ho
  subst hL0
  refine Met.ofW (cc := b) (maxL := n) (ret := ret) hy rfl ?_
  intro p e s m args below meth c s₁ B hml hv
  obtain ⟨rfl, hM, hK⟩ := hv
  have hx := B.exec
  have hb := B.bytes
  have hr := B.returns
  have hts : ∀ w ∈ TBL, w.before as.toArray s = true := fun w hw => atoms_spec (ws := .code y b n ret :: TBL) B.pre w (List.mem_cons_of_mem _ hw)
  have hown : s.vm.findClass y.cls = some m.cls := findClass_of_methodNamed B.named
  have hlocks := B.notSynchronized
  have hl := lv_entry as (n := n) hn
  rw [lg_entry_eq]
  refine (body (fun pc L st iv lv => ∀ (H : Heap) (ls : Array Slot) (locs : List Loc), Mo g iv lv H → va_S (gA g) s.heap H locs → lvL ls n L → W p (gL g) e (rmd d) s m as.toArray below meth c H locs 0 0 (MQ below (fun _ st oc t => ∃ v iv' lv', oc = .returned v ∧ Q v iv' lv' ∧ Mo g iv' lv' t.heap ∧ Kn g t ∧ va_F (gA g) st t) as.toArray s 0 0 (gA g)) (F0 m pc ls st))
    ⟨p, e, s, m, as.toArray, below, meth, c, 0, 0, gA g, s.heap, _, hx, hb, hml, hown, hts, hK, ⟨Nat.zero_le _, Nat.zero_le _⟩, (fun q hq => by cases hq), ?_, fun pc L st iv lv => Iff.rfl⟩) s.heap _ [] hM va_S.rf (loI_has hl)
  intro pc ls iv' lv' H locs v hok hq hM' hS
  have fin : ∀ t : State, t.heap = H → s.WarmedH t.vm → ∃ w iv'' lv'', Outcome.returned v = .returned w ∧ Q w iv'' lv'' ∧ Mo g iv'' lv'' t.heap ∧ Kn g t ∧ va_F (gA g) s t := fun t ht hW => by
    refine ⟨v, iv', lv', rfl, hq, by rw [ht]; exact hM', ⟨hK.1.moved hW.alike, ?_⟩, hS.F ht⟩
    rw [ht]
    exact (hK.2.moved hW.alike).kept hS.2.1
  cases v with
  | none =>
    obtain ⟨e1, e2⟩ := hok
    exact W.vret hx hb (hr.trans e1) fin hS.2.2 e2
  | some w =>
    cases w with
    | int x =>
      obtain ⟨e1, e2⟩ := hok
      rcases e1 with e1 | ⟨e1, e3⟩
      · exact W.iret hx hb (hr.trans e1) fin hS.2.2 e2
      · exact W.zret (ty := .boolean) hx hb (hr.trans e1) (by rcases e3 with rfl | rfl <;> rfl) fin hS.2.2 e2
    | long x =>
      obtain ⟨e1, e2⟩ := hok
      exact W.lret hx hb (hr.trans e1) fin hS.2.2 e2
    | _ => cases hok
end
section
/-! LAYOUT: which name is which cell -/
def isH (h : Nat) : Prop := h = 1 ∨ h = 181 ∨ h = 361
def isM (m : Nat) : Prop := ∃ h i, isH h ∧ i < 6 ∧ m = h + 60 + 20 * i
def isT (t c n : Nat) : Prop := (∃ h, isH h ∧ ((t = h + 7 ∧ c = 8 ∧ n = 200) ∨ (t = h + 17 ∧ c = 19 ∧ n = 60) ∨ (t = h + 38 ∧ c = 6 ∧ n = 300) ∨ (t = h + 46 ∧ c = 6 ∧ n = 24))) ∨ (t = 543 ∧ c = 6 ∧ n = 24)
theorem isH_1 : isH 1 := Or.inl rfl
theorem isH_2 : isH 181 := Or.inr (Or.inl rfl)
theorem isH_3 : isH 361 := Or.inr (Or.inr rfl)
theorem isM_of {h i : Nat} (hh : isH h) (hi : i < 6) : isM (h + 60 + 20 * i) := ⟨h, i, hh, hi, rfl⟩
theorem isT_d {h : Nat} (hh : isH h) : isT (h + 7) 8 200 := Or.inl ⟨h, hh, Or.inl ⟨rfl, rfl, rfl⟩⟩
theorem isT_n {h : Nat} (hh : isH h) : isT (h + 17) 19 60 := Or.inl ⟨h, hh, Or.inr (Or.inl ⟨rfl, rfl, rfl⟩)⟩
theorem isT_b {h : Nat} (hh : isH h) : isT (h + 38) 6 300 := Or.inl ⟨h, hh, Or.inr (Or.inr (Or.inl ⟨rfl, rfl, rfl⟩))⟩
theorem isT_p {h : Nat} (hh : isH h) : isT (h + 46) 6 24 := Or.inl ⟨h, hh, Or.inr (Or.inr (Or.inr ⟨rfl, rfl, rfl⟩))⟩
theorem isT_r : isT 543 6 24 := Or.inr ⟨rfl, rfl, rfl⟩
theorem cA_H {g : GE} {h r : Nat} (hh : isH h) (hr : r < 180) : cA g (h + r) = cH g h r ∧ h + r < 566 := by
  unfold cA
  have h1 : ¬ h + r = 0 := by rcases hh with rfl | rfl | rfl <;> omega
  have h2 : h + r < 541 := by rcases hh with rfl | rfl | rfl <;> omega
  have h3 : 1 + 180 * ((h + r - 1) / 180) = h := by rcases hh with rfl | rfl | rfl <;> omega
  have h4 : (h + r - 1) % 180 = r := by rcases hh with rfl | rfl | rfl <;> omega
  rw [if_neg h1, if_pos h2, h3, h4]
  exact ⟨rfl, by omega⟩
theorem ck_H {g : GE} {h : Nat} (hh : isH h) : Cl g h (oH g h) := by
  have := cA_H (g := g) (r := 0) hh (by omega)
  exact ⟨this.2, this.1⟩
theorem ck_told {g : GE} {h : Nat} (hh : isH h) : IsI g (h + 1) 7 := ⟨⟨(cA_H (g := g) hh (by omega)).2, (cA_H (g := g) hh (by omega)).1⟩, by omega⟩
theorem ck_cash {g : GE} {h : Nat} (hh : isH h) : IsL g (h + 2) 12 := ⟨⟨(cA_H (g := g) hh (by omega)).2, (cA_H (g := g) hh (by omega)).1⟩, by omega⟩
theorem ck_rank {g : GE} {h : Nat} (hh : isH h) : IsI g (h + 3) 12 := ⟨⟨(cA_H (g := g) hh (by omega)).2, (cA_H (g := g) hh (by omega)).1⟩, by omega⟩
theorem ck_pledged {g : GE} {h : Nat} (hh : isH h) : IsI g (h + 4) 12 := ⟨⟨(cA_H (g := g) hh (by omega)).2, (cA_H (g := g) hh (by omega)).1⟩, by omega⟩
theorem ck_susp {g : GE} {h : Nat} (hh : isH h) : IsZ g (h + 5) 12 := ⟨⟨(cA_H (g := g) hh (by omega)).2, (cA_H (g := g) hh (by omega)).1⟩, by omega⟩
theorem ck_markets {g : GE} {h : Nat} (hh : isH h) : IsM g (h + 6) 6 (fun i => h + 60 + 20 * i) := ⟨⟨(cA_H (g := g) hh (by omega)).2, (cA_H (g := g) hh (by omega)).1⟩, by omega⟩
theorem ck_line {g : GE} {h : Nat} (hh : isH h) : Cl g (h + 54) (oN g (h + 54)) := ⟨(cA_H (g := g) hh (by omega)).2, (cA_H (g := g) hh (by omega)).1⟩
theorem ck_lineM {g : GE} {h : Nat} (hh : isH h) : IsI g (h + 54 + 1) 1200 := ⟨⟨(cA_H (g := g) hh (r := 55) (by omega)).2, (cA_H (g := g) hh (r := 55) (by omega)).1⟩, by omega⟩
theorem ck_lineD {g : GE} {h : Nat} (hh : isH h) : IsI g (h + 54 + 2) 1200 := ⟨⟨(cA_H (g := g) hh (r := 56) (by omega)).2, (cA_H (g := g) hh (r := 56) (by omega)).1⟩, by omega⟩
theorem ck_lineR {g : GE} {h : Nat} (hh : isH h) : IsI g (h + 54 + 3) 12 := ⟨⟨(cA_H (g := g) hh (r := 57) (by omega)).2, (cA_H (g := g) hh (r := 57) (by omega)).1⟩, by omega⟩
theorem ck_chain {g : GE} {h : Nat} (hh : isH h) : IsI g (h + 58) 12 := ⟨⟨(cA_H (g := g) hh (by omega)).2, (cA_H (g := g) hh (by omega)).1⟩, by omega⟩
theorem ck_parts {g : GE} {h : Nat} (hh : isH h) : IsI g (h + 59) 12 := ⟨⟨(cA_H (g := g) hh (by omega)).2, (cA_H (g := g) hh (by omega)).1⟩, by omega⟩
theorem cA_M {g : GE} {m q : Nat} (hm : isM m) (hq : q < 20) : cA g (m + q) = cM g m q ∧ m + q < 566 := by
  obtain ⟨h, i, hh, hi, rfl⟩ := hm
  have := cA_H (g := g) (r := 60 + 20 * i + q) hh (by omega)
  rw [show h + 60 + 20 * i + q = h + (60 + 20 * i + q) by omega]
  refine ⟨this.1.trans ?_, this.2⟩
  unfold cH
  rw [if_neg (by omega), if_neg (by omega), if_neg (by omega), if_neg (by omega), if_neg (by omega), if_neg (by omega), if_neg (by omega), if_neg (by omega), if_neg (by omega), if_neg (by omega), if_neg (by omega), if_neg (by omega)]
  rw [show (60 + 20 * i + q - 60) / 20 = i by omega, show (60 + 20 * i + q - 60) % 20 = q by omega]
theorem ck_M {g : GE} {m : Nat} (hm : isM m) : Cl g m (oM g m) := ⟨(cA_M (g := g) (q := 0) hm (by omega)).2, (cA_M (g := g) (q := 0) hm (by omega)).1⟩
theorem ck_stock {g : GE} {m : Nat} (hm : isM m) : IsL g (m + 1) 12 := ⟨⟨(cA_M (g := g) hm (by omega)).2, (cA_M (g := g) hm (by omega)).1⟩, by omega⟩
theorem ck_mi {g : GE} {m : Nat} (q : Nat) (hq : 2 ≤ q ∧ q < 7) (hm : isM m) : IsI g (m + q) 12 := by
  refine ⟨⟨(cA_M (g := g) hm (by omega)).2, (cA_M (g := g) hm (by omega)).1.trans ?_⟩, by omega⟩
  unfold cM
  rw [if_neg (by omega), if_neg (by omega), if_pos (by omega)]
theorem ck_lots {g : GE} {m : Nat} (hm : isM m) : IsG g (m + 7) 12 (fun i => m + 8 + i) := ⟨⟨(cA_M (g := g) hm (by omega)).2, (cA_M (g := g) hm (by omega)).1⟩, by omega⟩
theorem ck_row {g : GE} {m k : Nat} (hm : isM m) (hk : k < 12) : IsI g (m + 8 + k) 100 := by
  rw [show m + 8 + k = m + (8 + k) by omega]
  refine ⟨⟨(cA_M (g := g) hm (by omega)).2, (cA_M (g := g) hm (by omega)).1.trans ?_⟩, by omega⟩
  unfold cM
  rw [if_neg (by omega), if_neg (by omega), if_neg (by omega), if_neg (by omega)]
theorem cA_T {g : GE} {t c n q : Nat} (ht : isT t c n) (hq : q < 2 + c) : cA g (t + q) = cT g t c n q ∧ t + q < 566 ∧ n < 2 ^ 31 ∧ c < 2 ^ 31 := by
  rcases ht with ⟨h, hh, h1 | h1 | h1 | h1⟩ | h1
  · obtain ⟨rfl, rfl, rfl⟩ := h1
    have := cA_H (g := g) (r := 7 + q) hh (by omega)
    rw [show h + 7 + q = h + (7 + q) by omega]
    refine ⟨this.1.trans ?_, this.2, by omega, by omega⟩
    unfold cH
    rw [if_neg (by omega), if_neg (by omega), if_neg (by omega), if_neg (by omega), if_neg (by omega), if_neg (by omega), if_pos (by omega), show 7 + q - 7 = q by omega]
  · obtain ⟨rfl, rfl, rfl⟩ := h1
    have := cA_H (g := g) (r := 17 + q) hh (by omega)
    rw [show h + 17 + q = h + (17 + q) by omega]
    refine ⟨this.1.trans ?_, this.2, by omega, by omega⟩
    unfold cH
    rw [if_neg (by omega), if_neg (by omega), if_neg (by omega), if_neg (by omega), if_neg (by omega), if_neg (by omega), if_neg (by omega), if_pos (by omega), show 17 + q - 17 = q by omega]
  · obtain ⟨rfl, rfl, rfl⟩ := h1
    have := cA_H (g := g) (r := 38 + q) hh (by omega)
    rw [show h + 38 + q = h + (38 + q) by omega]
    refine ⟨this.1.trans ?_, this.2, by omega, by omega⟩
    unfold cH
    rw [if_neg (by omega), if_neg (by omega), if_neg (by omega), if_neg (by omega), if_neg (by omega), if_neg (by omega), if_neg (by omega), if_neg (by omega), if_pos (by omega), show 38 + q - 38 = q by omega]
  · obtain ⟨rfl, rfl, rfl⟩ := h1
    have := cA_H (g := g) (r := 46 + q) hh (by omega)
    rw [show h + 46 + q = h + (46 + q) by omega]
    refine ⟨this.1.trans ?_, this.2, by omega, by omega⟩
    unfold cH
    rw [if_neg (by omega), if_neg (by omega), if_neg (by omega), if_neg (by omega), if_neg (by omega), if_neg (by omega), if_neg (by omega), if_neg (by omega), if_neg (by omega), if_pos (by omega), show 46 + q - 46 = q by omega]
  · obtain ⟨rfl, rfl, rfl⟩ := h1
    unfold cA
    rw [if_neg (by omega), if_neg (by omega), if_neg (by omega), if_neg (by omega), if_pos (by omega), show 543 + q - 543 = q by omega]
    exact ⟨rfl, by omega, by omega, by omega⟩
theorem ck_T {g : GE} {t c n : Nat} (ht : isT t c n) : Cl g t (oT g t n) := ⟨(cA_T (g := g) (q := 0) ht (by omega)).2.1, (cA_T (g := g) (q := 0) ht (by omega)).1⟩
theorem ck_Tc {g : GE} {t c n : Nat} (ht : isT t c n) : IsG g (t + 1) c (fun i => t + 2 + i) := ⟨⟨(cA_T (g := g) (q := 1) ht (by omega)).2.1, (cA_T (g := g) (q := 1) ht (by omega)).1⟩, (cA_T (g := g) (q := 0) ht (by omega)).2.2.2⟩
theorem ck_Tr {g : GE} {t c n k : Nat} (ht : isT t c n) (hk : k < c) : IsI g (t + 2 + k) n := by
  rw [show t + 2 + k = t + (2 + k) by omega]
  refine ⟨⟨(cA_T (g := g) ht (by omega)).2.1, (cA_T (g := g) ht (by omega)).1.trans ?_⟩, (cA_T (g := g) (q := 0) ht (by omega)).2.2.1⟩
  unfold cT
  rw [if_neg (by omega), if_neg (by omega)]
theorem ck_X {g : GE} : Cl g 0 (oX g) := ⟨by omega, rfl⟩
theorem ck_R {g : GE} : Cl g 541 (oR g) := ⟨by omega, rfl⟩
theorem ck_tape {g : GE} : IsI g 542 400 := ⟨⟨by omega, rfl⟩, by omega⟩
theorem ck_Y {g : GE} : Cl g 551 (oY g) := ⟨by omega, rfl⟩
theorem ck_now {g : GE} : IsI g 552 19782 := ⟨⟨by omega, rfl⟩, by omega⟩
theorem ck_waiting {g : GE} : IsI g 553 19782 := ⟨⟨by omega, rfl⟩, by omega⟩
theorem ck_coins {g : GE} : IsL g 554 13 := ⟨⟨by omega, rfl⟩, by omega⟩
theorem ck_coinsW {g : GE} : IsL g 555 13 := ⟨⟨by omega, rfl⟩, by omega⟩
theorem ck_ychain {g : GE} : IsI g 556 13 := ⟨⟨by omega, rfl⟩, by omega⟩
theorem ck_qM {g : GE} : IsI g 557 1224 := ⟨⟨by omega, rfl⟩, by omega⟩
theorem ck_qD {g : GE} : IsI g 558 1224 := ⟨⟨by omega, rfl⟩, by omega⟩
theorem ck_qS {g : GE} : IsI g 559 1224 := ⟨⟨by omega, rfl⟩, by omega⟩
theorem ck_did {g : GE} : IsZ g 560 12 := ⟨⟨by omega, rfl⟩, by omega⟩
theorem ck_ytape {g : GE} : IsI g 561 400 := ⟨⟨by omega, rfl⟩, by omega⟩
theorem ck_words {g : GE} : IsI g 562 57 := ⟨⟨by omega, rfl⟩, by omega⟩
theorem ck_plans {g : GE} : IsI g 563 288 := ⟨⟨by omega, rfl⟩, by omega⟩
theorem ck_images {g : GE} : IsI g 564 19927 := ⟨⟨by omega, rfl⟩, by omega⟩
theorem ck_icoins {g : GE} : IsL g 565 13 := ⟨⟨by omega, rfl⟩, by omega⟩
/-! CLASS FACTS -/
theorem ckc_0 : CK 0 RX8 TX8 5 tyX8 := ⟨rfl, by decide +kernel, tyX8_ok, nmX8⟩
theorem ckc_1 : CK 1 RX1 TX1 17 tyX1 := ⟨rfl, by decide +kernel, tyX1_ok, nmX1⟩
theorem ckc_2 : CK 2 RX7 TX7 3 tyX7 := ⟨rfl, by decide +kernel, tyX7_ok, nmX7⟩
theorem ckc_3 : CK 3 RX2 TX2 4 tyX2 := ⟨rfl, by decide +kernel, tyX2_ok, nmX2⟩
theorem ckc_4 : CK 4 RX3 TX3 11 tyX3 := ⟨rfl, by decide +kernel, tyX3_ok, nmX3⟩
theorem ckc_5 : CK 5 RX6 TX6 6 tyX6 := ⟨rfl, by decide +kernel, tyX6_ok, nmX6⟩
theorem ckc_6 : CK 6 RX9 TX9 32 tyX9 := ⟨rfl, by decide +kernel, tyX9_ok, nmX9⟩
end
section
/-! truth values, choices, ranges -/
noncomputable def bi (p : Prop) : Int32 := @ite _ p (Classical.propDecidable p) 1 0
noncomputable def sel (p : Prop) (a b : Int32) : Int32 := @ite _ p (Classical.propDecidable p) a b
noncomputable def selL (p : Prop) (a b : Int64) : Int64 := @ite _ p (Classical.propDecidable p) a b
theorem bi_t {p : Prop} (h : p) : bi p = 1 := if_pos h
theorem bi_f {p : Prop} (h : ¬ p) : bi p = 0 := if_neg h
theorem sel_t {p : Prop} {a b : Int32} (h : p) : sel p a b = a := if_pos h
theorem sel_f {p : Prop} {a b : Int32} (h : ¬ p) : sel p a b = b := if_neg h
theorem selL_t {p : Prop} {a b : Int64} (h : p) : selL p a b = a := if_pos h
theorem selL_f {p : Prop} {a b : Int64} (h : ¬ p) : selL p a b = b := if_neg h
theorem bi_01 (p : Prop) : bi p = 0 ∨ bi p = 1 := by
  by_cases h : p
  · exact Or.inr (bi_t h)
  · exact Or.inl (bi_f h)
theorem bi_0 {p : Prop} : bi p = 0 ↔ ¬ p := by
  by_cases h : p
  · rw [bi_t h]; exact ⟨fun q => absurd q (by decide), fun q => absurd h q⟩
  · rw [bi_f h]; exact ⟨fun _ => h, fun _ => rfl⟩
theorem bi_iff {p q : Prop} (h : p ↔ q) : bi p = bi q := by rw [propext h]
def InN (n : Nat) (x : Int32) : Prop := ∃ j : Nat, j < n ∧ x = nI j
def Rg (a b x : Int32) : Prop := a ≤ x ∧ x ≤ b
theorem InN_toInt {n : Nat} {x : Int32} (hn : n ≤ 2 ^ 31) : InN n x ↔ 0 ≤ x.toInt ∧ x.toInt < n := by
  constructor
  · rintro ⟨j, hj, rfl⟩
    rw [nI_toInt (by omega)]
    omega
  · rintro ⟨h1, h2⟩
    have h3 : ¬ x < 0 := by rw [Int32.lt_iff_toInt_lt, Int32.toInt_zero]; omega
    obtain ⟨j, hj, rfl⟩ := nI_of h3
    rw [nI_toInt hj] at h2
    exact ⟨j, by omega, rfl⟩
theorem InN_lt {n : Nat} {x : Int32} (hn : n < 2 ^ 31) : InN n x ↔ (0 ≤ x ∧ x < nI n) := by
  rw [InN_toInt (by omega), Int32.le_iff_toInt_le, Int32.lt_iff_toInt_lt, nI_toInt hn, Int32.toInt_zero]
theorem InN_le {n : Nat} {x : Int32} (hn : n < 2 ^ 31) : InN (n + 1) x ↔ Rg (nI 0) (nI n) x := by
  unfold Rg
  rw [InN_toInt (by omega), Int32.le_iff_toInt_le, Int32.le_iff_toInt_le, nI_toInt hn, nI_toInt (by omega)]
  omega
theorem InN_no {n : Nat} {x : Int32} (h : ¬ InN n x) {j : Nat} (hj : j < n) : ¬ x = nI j := fun e => h ⟨j, hj, e⟩
theorem InN_nI {n j : Nat} (hj : j < n) : InN n (nI j) := ⟨j, hj, rfl⟩
theorem InN_nn {n j : Nat} (hn : n ≤ 2 ^ 31) (hj : j < 2 ^ 31) : InN n (nI j) ↔ j < n := by
  rw [InN_toInt hn, nI_toInt hj]
  omega
theorem Rg_nn {a b j : Nat} (ha : a < 2 ^ 31) (hb : b < 2 ^ 31) (hj : j < 2 ^ 31) : Rg (nI a) (nI b) (nI j) ↔ (a ≤ j ∧ j ≤ b) := by
  unfold Rg
  rw [nI_leI ha hj, nI_leI hj hb]
theorem Rg_nat {a b : Nat} {x : Int32} (hb : b < 2 ^ 31) (ha : a < 2 ^ 31) (h : Rg (nI a) (nI b) x) : ∃ j : Nat, a ≤ j ∧ j ≤ b ∧ x = nI j := by
  obtain ⟨h1, h2⟩ := h
  have h3 : ¬ x < 0 := by
    rw [Int32.le_iff_toInt_le, nI_toInt ha] at h1
    rw [Int32.lt_iff_toInt_lt, Int32.toInt_zero]; omega
  obtain ⟨j, hj, rfl⟩ := nI_of h3
  rw [nI_leI ha hj] at h1
  rw [nI_leI hj hb] at h2
  exact ⟨j, h1, h2, rfl⟩
theorem neg_lt0 : (-1 : Int32) < 0 := by decide
theorem nI_nm1 {n : Nat} (h : n < 2 ^ 31) : ¬ nI n = -1 := fun e => by
  have := congrArg Int32.toInt e
  rw [nI_toInt h] at this
  have h2 : (-1 : Int32).toInt = -1 := by decide
  omega
section ZN
variable {g : GE} {own : String} {cc : ByteArray} {nL : Nat} {ret : Option FieldType} {R : Room} {scr : Option (Nat × Nat × (Nat → Int32))} {Q : Option Value → Iv → Lv → Prop} {Z : ZT} {pc : Nat} {L : LO} {st : List Value} {iv : Iv} {lv : Lv}
theorem z_iaddN (h : Rw g own cc nL ret R scr Q Z) {a b : Nat} (hd : decode cc pc = .ok (.iadd, 1)) (k : Z (pc + 1) L (.int (nI (a + b)) :: st) iv lv) : Z pc L (.int (nI b) :: .int (nI a) :: st) iv lv := z_iadd h hd (by rw [nI_add]; exact k)
theorem z_isubN (h : Rw g own cc nL ret R scr Q Z) {a b : Nat} (hb : b ≤ a) (hd : decode cc pc = .ok (.isub, 1)) (k : Z (pc + 1) L (.int (nI (a - b)) :: st) iv lv) : Z pc L (.int (nI b) :: .int (nI a) :: st) iv lv := z_isub h hd (by rw [pk_sub hb]; exact k)
theorem z_imulN (h : Rw g own cc nL ret R scr Q Z) {a b : Nat} (hd : decode cc pc = .ok (.imul, 1)) (k : Z (pc + 1) L (.int (nI (a * b)) :: st) iv lv) : Z pc L (.int (nI b) :: .int (nI a) :: st) iv lv := z_imul h hd (by rw [pk_mul]; exact k)
theorem z_iincN (h : Rw g own cc nL ret R scr Q Z) {n b : Nat} {q : Int} {a : Nat} {L' : LO} (hd : decode cc pc = .ok (.iinc n q, 3)) (hq : Int32.ofInt q = nI b) (hn : n < nL) (hl : L[n]? = some (some (.int (nI a)))) (hs : st1 L n (.int (nI (a + b))) = L') (k : Z (pc + 3) L' st iv lv) : Z pc L st iv lv :=
  z_iinc h hd hn hl (by rw [hq]; exact nI_add a b) hs k
theorem z_if_eq_B (h : Rw g own cc nL ret R scr Q Z) {p : Prop} {off : Int} {tgt : Nat} (hd : decode cc pc = .ok (.ifCond .eq off, 3)) (ht : (pc : Int) + off = (tgt : Int)) (kt : ¬ p → Z tgt L st iv lv) (kf : p → Z (pc + 3) L st iv lv) : Z pc L (.int (bi p) :: st) iv lv :=
  z_if_eq h hd ht (fun q => kt (bi_0.mp q)) (fun q => kf (Classical.byContradiction fun z => q (bi_0.mpr z)))
theorem z_if_ne_B (h : Rw g own cc nL ret R scr Q Z) {p : Prop} {off : Int} {tgt : Nat} (hd : decode cc pc = .ok (.ifCond .ne off, 3)) (ht : (pc : Int) + off = (tgt : Int)) (kt : p → Z tgt L st iv lv) (kf : ¬ p → Z (pc + 3) L st iv lv) : Z pc L (.int (bi p) :: st) iv lv :=
  z_if_ne h hd ht (fun q => kt (Classical.byContradiction fun z => q (bi_0.mpr z))) (fun q => kf (bi_0.mp q))
theorem z_icmp_eq_N (h : Rw g own cc nL ret R scr Q Z) {a b : Nat} {off : Int} {tgt : Nat} (ha : a < 2 ^ 31) (hb : b < 2 ^ 31) (hd : decode cc pc = .ok (.if_icmp .eq off, 3)) (ht : (pc : Int) + off = (tgt : Int)) (kt : a = b → Z tgt L st iv lv) (kf : ¬ a = b → Z (pc + 3) L st iv lv) : Z pc L (.int (nI b) :: .int (nI a) :: st) iv lv :=
  z_icmp_eq h hd ht (fun q => kt ((nI_eq ha hb).mp q)) (fun q => kf (fun z => q ((nI_eq ha hb).mpr z)))
theorem z_icmp_ne_N (h : Rw g own cc nL ret R scr Q Z) {a b : Nat} {off : Int} {tgt : Nat} (ha : a < 2 ^ 31) (hb : b < 2 ^ 31) (hd : decode cc pc = .ok (.if_icmp .ne off, 3)) (ht : (pc : Int) + off = (tgt : Int)) (kt : ¬ a = b → Z tgt L st iv lv) (kf : a = b → Z (pc + 3) L st iv lv) : Z pc L (.int (nI b) :: .int (nI a) :: st) iv lv :=
  z_icmp_ne h hd ht (fun q => kt (fun z => q ((nI_eq ha hb).mpr z))) (fun q => kf ((nI_eq ha hb).mp q))
theorem z_icmp_lt_N (h : Rw g own cc nL ret R scr Q Z) {a b : Nat} {off : Int} {tgt : Nat} (ha : a < 2 ^ 31) (hb : b < 2 ^ 31) (hd : decode cc pc = .ok (.if_icmp .lt off, 3)) (ht : (pc : Int) + off = (tgt : Int)) (kt : a < b → Z tgt L st iv lv) (kf : b ≤ a → Z (pc + 3) L st iv lv) : Z pc L (.int (nI b) :: .int (nI a) :: st) iv lv :=
  z_icmp_lt h hd ht (fun q => kt ((nI_ltI ha hb).mp q)) (fun q => kf (by have := mt (nI_ltI ha hb).mpr q; omega))
theorem z_icmp_ge_N (h : Rw g own cc nL ret R scr Q Z) {a b : Nat} {off : Int} {tgt : Nat} (ha : a < 2 ^ 31) (hb : b < 2 ^ 31) (hd : decode cc pc = .ok (.if_icmp .ge off, 3)) (ht : (pc : Int) + off = (tgt : Int)) (kt : b ≤ a → Z tgt L st iv lv) (kf : a < b → Z (pc + 3) L st iv lv) : Z pc L (.int (nI b) :: .int (nI a) :: st) iv lv :=
  z_icmp_ge h hd ht (fun q => kt ((nI_leI hb ha).mp q)) (fun q => kf (by have := mt (nI_leI hb ha).mpr q; omega))
theorem z_icmp_gt_N (h : Rw g own cc nL ret R scr Q Z) {a b : Nat} {off : Int} {tgt : Nat} (ha : a < 2 ^ 31) (hb : b < 2 ^ 31) (hd : decode cc pc = .ok (.if_icmp .gt off, 3)) (ht : (pc : Int) + off = (tgt : Int)) (kt : b < a → Z tgt L st iv lv) (kf : a ≤ b → Z (pc + 3) L st iv lv) : Z pc L (.int (nI b) :: .int (nI a) :: st) iv lv :=
  z_icmp_gt h hd ht (fun q => kt ((nI_ltI hb ha).mp q)) (fun q => kf (by have := mt (nI_ltI hb ha).mpr q; omega))
theorem z_icmp_le_N (h : Rw g own cc nL ret R scr Q Z) {a b : Nat} {off : Int} {tgt : Nat} (ha : a < 2 ^ 31) (hb : b < 2 ^ 31) (hd : decode cc pc = .ok (.if_icmp .le off, 3)) (ht : (pc : Int) + off = (tgt : Int)) (kt : a ≤ b → Z tgt L st iv lv) (kf : b < a → Z (pc + 3) L st iv lv) : Z pc L (.int (nI b) :: .int (nI a) :: st) iv lv :=
  z_icmp_le h hd ht (fun q => kt ((nI_leI ha hb).mp q)) (fun q => kf (by have := mt (nI_leI ha hb).mpr q; omega))
theorem z_if_eq_N (h : Rw g own cc nL ret R scr Q Z) {a : Nat} {off : Int} {tgt : Nat} (ha : a < 2 ^ 31) (hd : decode cc pc = .ok (.ifCond .eq off, 3)) (ht : (pc : Int) + off = (tgt : Int)) (kt : a = 0 → Z tgt L st iv lv) (kf : 0 < a → Z (pc + 3) L st iv lv) : Z pc L (.int (nI a) :: st) iv lv :=
  z_if_eq h hd ht (fun q => kt (by rw [← nI_0] at q; exact (nI_eq ha (by omega)).mp q)) (fun q => kf (Nat.pos_of_ne_zero (fun z => q (by rw [z]; exact nI_0))))
theorem z_if_ne_N (h : Rw g own cc nL ret R scr Q Z) {a : Nat} {off : Int} {tgt : Nat} (ha : a < 2 ^ 31) (hd : decode cc pc = .ok (.ifCond .ne off, 3)) (ht : (pc : Int) + off = (tgt : Int)) (kt : 0 < a → Z tgt L st iv lv) (kf : a = 0 → Z (pc + 3) L st iv lv) : Z pc L (.int (nI a) :: st) iv lv :=
  z_if_ne h hd ht (fun q => kt (Nat.pos_of_ne_zero (fun z => q (by rw [z]; exact nI_0)))) (fun q => kf (by rw [← nI_0] at q; exact (nI_eq ha (by omega)).mp q))
theorem z_if_lt_N (h : Rw g own cc nL ret R scr Q Z) {a : Nat} {off : Int} {tgt : Nat} (ha : a < 2 ^ 31) (hd : decode cc pc = .ok (.ifCond .lt off, 3)) (ht : (pc : Int) + off = (tgt : Int)) (kf : Z (pc + 3) L st iv lv) : Z pc L (.int (nI a) :: st) iv lv :=
  z_if_lt h hd ht (fun q => absurd q (nI_pos ha)) (fun _ => kf)
theorem z_if_ge_N (h : Rw g own cc nL ret R scr Q Z) {a : Nat} {off : Int} {tgt : Nat} (ha : a < 2 ^ 31) (hd : decode cc pc = .ok (.ifCond .ge off, 3)) (ht : (pc : Int) + off = (tgt : Int)) (kt : Z tgt L st iv lv) : Z pc L (.int (nI a) :: st) iv lv :=
  z_if_ge h hd ht (fun _ => kt) (fun q => absurd (nI_pos' ha) q)
theorem z_if_gt_N (h : Rw g own cc nL ret R scr Q Z) {a : Nat} {off : Int} {tgt : Nat} (ha : a < 2 ^ 31) (hd : decode cc pc = .ok (.ifCond .gt off, 3)) (ht : (pc : Int) + off = (tgt : Int)) (kt : 0 < a → Z tgt L st iv lv) (kf : a = 0 → Z (pc + 3) L st iv lv) : Z pc L (.int (nI a) :: st) iv lv :=
  z_if_gt h hd ht (fun q => kt (by rw [← nI_0] at q; exact (nI_ltI (by omega) ha).mp q)) (fun q => kf (by rw [← nI_0, nI_ltI (by omega) ha] at q; omega))
theorem z_if_le_N (h : Rw g own cc nL ret R scr Q Z) {a : Nat} {off : Int} {tgt : Nat} (ha : a < 2 ^ 31) (hd : decode cc pc = .ok (.ifCond .le off, 3)) (ht : (pc : Int) + off = (tgt : Int)) (kt : a = 0 → Z tgt L st iv lv) (kf : 0 < a → Z (pc + 3) L st iv lv) : Z pc L (.int (nI a) :: st) iv lv :=
  z_if_le h hd ht (fun q => kt (by rw [← nI_0] at q; have := (nI_leI ha (by omega)).mp q; omega)) (fun q => kf (by rw [← nI_0, nI_leI ha (by omega)] at q; omega))
theorem z_ialdE (h : Rw g own cc nL ret R scr Q Z) {k n j : Nat} {x : Int32} (hI : IsI g k n) (hd : decode cc pc = .ok (.iaload, 1)) (hj : j < n) (he : iv k j = x) (kk : Z (pc + 1) L (.int x :: st) iv lv) : Z pc L (.int (nI j) :: rf g k :: st) iv lv := z_ialdN h hI hd hj (by rw [he]; exact kk)
theorem z_laldE (h : Rw g own cc nL ret R scr Q Z) {k n j : Nat} {x : Int64} (hI : IsL g k n) (hd : decode cc pc = .ok (.laload, 1)) (hj : j < n) (he : lv k j = x) (kk : Z (pc + 1) L (.long x :: st) iv lv) : Z pc L (.int (nI j) :: rf g k :: st) iv lv := z_laldN h hI hd hj (by rw [he]; exact kk)
theorem z_zaldE (h : Rw g own cc nL ret R scr Q Z) {k n j : Nat} {x : Int32} (hI : IsZ g k n) (hd : decode cc pc = .ok (.baload, 1)) (hj : j < n) (he : iv k j = x) (kk : Z (pc + 1) L (.int x :: st) iv lv) : Z pc L (.int (nI j) :: rf g k :: st) iv lv := z_zaldN h hI hd hj (by rw [he]; exact kk)
theorem z_getI (h : Rw g own cc nL ret R scr Q Z) {idx ci j k : Nat} {fin : Bool} {t : FieldType} {F : FF} {fs : List Value} {x y : Int32} (hF : FL own idx ci j fin t) (hd : decode cc pc = .ok (.getfield idx, 3)) (hC : Cl g k F) (hfs : F (iv k) (lv k) = .inr (ci, fs)) (hv : fs[j]? = some (.int y)) (he : y = x) (kk : Z (pc + 3) L (.int x :: st) iv lv) : Z pc L (rf g k :: st) iv lv := z_getf h hF hd hC hfs hv (by rw [he]; exact kk)
theorem z_getL (h : Rw g own cc nL ret R scr Q Z) {idx ci j k : Nat} {fin : Bool} {t : FieldType} {F : FF} {fs : List Value} {x y : Int64} (hF : FL own idx ci j fin t) (hd : decode cc pc = .ok (.getfield idx, 3)) (hC : Cl g k F) (hfs : F (iv k) (lv k) = .inr (ci, fs)) (hv : fs[j]? = some (.long y)) (he : y = x) (kk : Z (pc + 3) L (.long x :: st) iv lv) : Z pc L (rf g k :: st) iv lv := z_getf h hF hd hC hfs hv (by rw [he]; exact kk)
end ZN
theorem z_eqv {Z : ZT} {pc : Nat} {L : LO} {st st2 : List Value} {iv : Iv} {lv : Lv} (h : st = st2) (k : Z pc L st2 iv lv) : Z pc L st iv lv := h ▸ k
theorem ki_0 : Int32.ofInt 0 = nI 0 := by decide +kernel
theorem ki_1 : Int32.ofInt 1 = nI 1 := by decide +kernel
theorem ki_2 : Int32.ofInt 2 = nI 2 := by decide +kernel
theorem ki_3 : Int32.ofInt 3 = nI 3 := by decide +kernel
theorem ki_4 : Int32.ofInt 4 = nI 4 := by decide +kernel
theorem ki_5 : Int32.ofInt 5 = nI 5 := by decide +kernel
theorem ki_m1 : Int32.ofInt (-1) = -1 := by decide +kernel
end
section
/-! THE FRESH MEMORY: what the cells hold that are asked for; of the others nothing is said -/
def tfN (j : Nat) : Nat := if j = 0 then 6 else if j = 1 then 2 else if j = 2 then 2 else if j = 3 then 3 else if j = 4 then 1 else if j = 5 then 10 else 0
def s1M (q j : Nat) : Option Int32 := if q = 0 then (if j = 7 then some (nI 100) else if j = 8 then some (nI 100) else if j = 9 then some (nI 0) else if j = 10 then some (nI 0) else none) else if q = 1 then none else if q = 7 then none else some (nI 0)
def s1H (d r j : Nat) : Option Int32 := if r = 0 then (if j = 10 then some (nI 0) else if j = 11 then some (nI d) else none) else if r = 1 then some (nI (tfN j)) else if r = 3 then some (nI 0) else if r = 4 then some (nI 0) else if r = 5 then some (nI 0)
  else if r = 7 then (if j = 2 then some (nI 0) else none) else if r = 17 then (if j = 2 then some (nI 0) else none) else if r = 38 then (if j = 2 then some (nI 0) else none) else if r = 46 then (if j = 2 then some (nI 0) else none) else if r < 60 then none else s1M ((r - 60) % 20) j
def s1Y (dm q j : Nat) : Option Int32 := if q = 0 then (if j = 17 then some (nI 0) else if j = 25 then some (nI 0) else if j = 26 then some (-1) else if j = 27 then some (nI 0) else if j = 29 then some (nI 0) else none) else if q = 1 then (if j = 6 then some (nI dm) else some (nI 0)) else none
def s1I (dd : Nat → Nat) (dm k j : Nat) : Option Int32 := if k = 0 then (if j = 4 then some (nI 0) else none) else if k < 541 then s1H (dd (1 + 180 * ((k - 1) / 180))) ((k - 1) % 180) j
  else if k = 541 then (if j = 1 then some (nI 0) else if j = 4 then some (nI 0) else if j = 5 then some (-1) else none) else if k = 543 then (if j = 2 then some (nI 0) else none) else if k < 551 then none else s1Y dm (k - 551) j
def s1Lh (r j : Nat) : Option Int64 := if r = 0 then (if j = 12 then some 0 else none) else if r = 2 then some 0 else if r < 60 then none else if (r - 60) % 20 = 1 then some 0 else none
def s1L (k j : Nat) : Option Int64 := if k = 0 then none else if k < 541 then s1Lh ((k - 1) % 180) j else if k = 554 then some 0 else if k = 555 then some 0 else none
def Ok1 (dd : Nat → Nat) (dm : Nat) (iv : Iv) (lv : Lv) : Prop := (∀ k j x, s1I dd dm k j = some x → iv k j = x) ∧ ∀ k j x, s1L k j = some x → lv k j = x
theorem ok1_wI {dd : Nat → Nat} {dm : Nat} {iv : Iv} {lv : Lv} {k j : Nat} {x : Int32} (hG : Ok1 dd dm iv lv) (hw : ∀ y, s1I dd dm k j = some y → y = x) : Ok1 dd dm (upI iv k j x) lv := by
  refine ⟨fun a b y hy => ?_, hG.2⟩
  rw [upI_at]
  by_cases h : a = k ∧ b = j
  · rw [if_pos h]
    obtain ⟨rfl, rfl⟩ := h
    exact (hw y hy).symm
  · rw [if_neg h]
    exact hG.1 a b y hy
theorem ok1_wL {dd : Nat → Nat} {dm : Nat} {iv : Iv} {lv : Lv} {k j : Nat} {x : Int64} (hG : Ok1 dd dm iv lv) (hw : ∀ y, s1L k j = some y → y = x) : Ok1 dd dm iv (upL lv k j x) := by
  refine ⟨hG.1, fun a b y hy => ?_⟩
  rw [upL_at]
  by_cases h : a = k ∧ b = j
  · rw [if_pos h]
    obtain ⟨rfl, rfl⟩ := h
    exact (hw y hy).symm
  · rw [if_neg h]
    exact hG.2 a b y hy
theorem s1_H {dd : Nat → Nat} {dm h r j : Nat} (hh : isH h) (hr : r < 180) : s1I dd dm (h + r) j = s1H (dd h) r j := by
  unfold s1I
  have h3 : 1 + 180 * ((h + r - 1) / 180) = h := by rcases hh with rfl | rfl | rfl <;> omega
  have h4 : (h + r - 1) % 180 = r := by rcases hh with rfl | rfl | rfl <;> omega
  rw [if_neg (by rcases hh with rfl | rfl | rfl <;> omega), if_pos (by rcases hh with rfl | rfl | rfl <;> omega), h3, h4]
theorem s1_Hl {h r j : Nat} (hh : isH h) (hr : r < 180) : s1L (h + r) j = s1Lh r j := by
  unfold s1L
  have h4 : (h + r - 1) % 180 = r := by rcases hh with rfl | rfl | rfl <;> omega
  rw [if_neg (by rcases hh with rfl | rfl | rfl <;> omega), if_pos (by rcases hh with rfl | rfl | rfl <;> omega), h4]
theorem s1_M {dd : Nat → Nat} {dm m q j : Nat} (hm : isM m) (hq : q < 20) : s1I dd dm (m + q) j = s1M q j := by
  obtain ⟨h, i, hh, hi, rfl⟩ := hm
  rw [show h + 60 + 20 * i + q = h + (60 + 20 * i + q) by omega, s1_H hh (by omega)]
  unfold s1H
  rw [if_neg (by omega), if_neg (by omega), if_neg (by omega), if_neg (by omega), if_neg (by omega), if_neg (by omega), if_neg (by omega), if_neg (by omega), if_neg (by omega), if_neg (by omega), show (60 + 20 * i + q - 60) % 20 = q by omega]
theorem s1_Ml {m q j : Nat} (hm : isM m) (hq : q < 20) : s1L (m + q) j = if q = 1 then some 0 else none := by
  obtain ⟨h, i, hh, hi, rfl⟩ := hm
  rw [show h + 60 + 20 * i + q = h + (60 + 20 * i + q) by omega, s1_Hl hh (by omega)]
  unfold s1Lh
  rw [if_neg (by omega), if_neg (by omega), if_neg (by omega), show (60 + 20 * i + q - 60) % 20 = q by omega]
section A1
variable {dd : Nat → Nat} {dm h m j k : Nat} {iv : Iv} {lv : Lv}
theorem a1_H (hG : Ok1 dd dm iv lv) (hh : isH h) {x : Int32} (r : Nat) (hr : r < 180) (hx : s1H (dd h) r j = some x) : iv (h + r) j = x := hG.1 _ _ _ ((s1_H hh hr).trans hx)
theorem a1_Hl (hG : Ok1 dd dm iv lv) (hh : isH h) {x : Int64} (r : Nat) (hr : r < 180) (hx : s1Lh r j = some x) : lv (h + r) j = x := hG.2 _ _ _ ((s1_Hl hh hr).trans hx)
theorem a1_told (hG : Ok1 dd dm iv lv) (hh : isH h) (j : Nat) : iv (h + 1) j = nI (tfN j) := a1_H hG hh 1 (by omega) rfl
theorem a1_rank (hG : Ok1 dd dm iv lv) (hh : isH h) : iv (h + 3) j = nI 0 := a1_H hG hh 3 (by omega) rfl
theorem a1_pledged (hG : Ok1 dd dm iv lv) (hh : isH h) : iv (h + 4) j = nI 0 := a1_H hG hh 4 (by omega) rfl
theorem a1_susp (hG : Ok1 dd dm iv lv) (hh : isH h) : iv (h + 5) j = nI 0 := a1_H hG hh 5 (by omega) rfl
theorem a1_cash (hG : Ok1 dd dm iv lv) (hh : isH h) : lv (h + 2) j = 0 := a1_Hl hG hh 2 (by omega) rfl
theorem a1_outside (hG : Ok1 dd dm iv lv) (hh : isH h) : lv h 12 = 0 := a1_Hl hG hh 0 (by omega) rfl
theorem a1_planDone (hG : Ok1 dd dm iv lv) (hh : isH h) : iv h 10 = nI 0 := a1_H hG hh 0 (by omega) rfl
theorem a1_day (hG : Ok1 dd dm iv lv) (hh : isH h) : iv h 11 = nI (dd h) := a1_H hG hh 0 (by omega) rfl
theorem a1_cd (hG : Ok1 dd dm iv lv) (hh : isH h) : iv (h + 7) 2 = nI 0 := a1_H hG hh 7 (by omega) rfl
theorem a1_cn (hG : Ok1 dd dm iv lv) (hh : isH h) : iv (h + 17) 2 = nI 0 := a1_H hG hh 17 (by omega) rfl
theorem a1_cb (hG : Ok1 dd dm iv lv) (hh : isH h) : iv (h + 38) 2 = nI 0 := a1_H hG hh 38 (by omega) rfl
theorem a1_cp (hG : Ok1 dd dm iv lv) (hh : isH h) : iv (h + 46) 2 = nI 0 := a1_H hG hh 46 (by omega) rfl
theorem a1_M (hG : Ok1 dd dm iv lv) (hm : isM m) {x : Int32} (q : Nat) (hq : q < 20) (hx : s1M q j = some x) : iv (m + q) j = x := hG.1 _ _ _ ((s1_M hm hq).trans hx)
theorem a1_price (hG : Ok1 dd dm iv lv) (hm : isM m) : iv m 7 = nI 100 := a1_M hG hm 0 (by omega) rfl
theorem a1_marked (hG : Ok1 dd dm iv lv) (hm : isM m) : iv m 8 = nI 100 := a1_M hG hm 0 (by omega) rfl
theorem a1_payout (hG : Ok1 dd dm iv lv) (hm : isM m) : iv m 9 = nI 0 := a1_M hG hm 0 (by omega) rfl
theorem a1_endDay (hG : Ok1 dd dm iv lv) (hm : isM m) : iv m 10 = nI 0 := a1_M hG hm 0 (by omega) rfl
theorem a1_mi (hG : Ok1 dd dm iv lv) (hm : isM m) (q : Nat) (hq : 2 ≤ q ∧ q < 7) : iv (m + q) j = nI 0 := a1_M hG hm q (by omega) (by unfold s1M; rw [if_neg (by omega), if_neg (by omega), if_neg (by omega)])
theorem a1_row (hG : Ok1 dd dm iv lv) (hm : isM m) (hk : k < 12) : iv (m + 8 + k) j = nI 0 := by
  rw [show m + 8 + k = m + (8 + k) by omega]
  exact a1_M hG hm (8 + k) (by omega) (by unfold s1M; rw [if_neg (by omega), if_neg (by omega), if_neg (by omega)])
theorem a1_stock (hG : Ok1 dd dm iv lv) (hm : isM m) : lv (m + 1) j = 0 := hG.2 _ _ _ ((s1_Ml hm (by omega)).trans rfl)
theorem a1_isKept (hG : Ok1 dd dm iv lv) : iv 0 4 = nI 0 := hG.1 0 4 _ rfl
theorem a1_length (hG : Ok1 dd dm iv lv) : iv 541 1 = nI 0 := hG.1 541 1 _ rfl
theorem a1_fault (hG : Ok1 dd dm iv lv) : iv 541 4 = nI 0 := hG.1 541 4 _ rfl
theorem a1_faultP (hG : Ok1 dd dm iv lv) : iv 541 5 = -1 := hG.1 541 5 _ rfl
theorem a1_draft (hG : Ok1 dd dm iv lv) : iv 543 2 = nI 0 := hG.1 543 2 _ rfl
theorem a1_taped (hG : Ok1 dd dm iv lv) : iv 551 17 = nI 0 := hG.1 551 17 _ rfl
theorem a1_fk (hG : Ok1 dd dm iv lv) : iv 551 25 = nI 0 := hG.1 551 25 _ rfl
theorem a1_fp (hG : Ok1 dd dm iv lv) : iv 551 26 = -1 := hG.1 551 26 _ rfl
theorem a1_planMany (hG : Ok1 dd dm iv lv) : iv 551 27 = nI 0 := hG.1 551 27 _ rfl
theorem a1_hasImage (hG : Ok1 dd dm iv lv) : iv 551 29 = nI 0 := hG.1 551 29 _ rfl
theorem a1_DAY (hG : Ok1 dd dm iv lv) : iv 552 6 = nI dm := hG.1 552 6 _ rfl
theorem a1_now (hG : Ok1 dd dm iv lv) (hj : j ≠ 6) : iv 552 j = nI 0 := hG.1 552 j _ (by show (if j = 6 then some (nI dm) else some (nI 0)) = _; rw [if_neg hj])
theorem a1_coins (hG : Ok1 dd dm iv lv) : lv 554 j = 0 := hG.2 554 j _ rfl
theorem a1_coinsW (hG : Ok1 dd dm iv lv) : lv 555 j = 0 := hG.2 555 j _ rfl
end A1
/-! what may be written, so that it stays so -/
section W1
variable {dd : Nat → Nat} {dm h m j k : Nat}
theorem w1_no {o : Option Int32} {x : Int32} (h : o = none) : ∀ y, o = some y → y = x := fun y e => by rw [h] at e; cases e
theorem w1_eq {o : Option Int32} {x : Int32} (h : o = some x) : ∀ y, o = some y → y = x := fun y e => by rw [h] at e; cases e; rfl
theorem w1_noL {o : Option Int64} {x : Int64} (h : o = none) : ∀ y, o = some y → y = x := fun y e => by rw [h] at e; cases e
theorem w1_eqL {o : Option Int64} {x : Int64} (h : o = some x) : ∀ y, o = some y → y = x := fun y e => by rw [h] at e; cases e; rfl
theorem w1_H {x : Int32} (hh : isH h) (r : Nat) (hr : r < 180) (hx : s1H (dd h) r j = none ∨ s1H (dd h) r j = some x) : ∀ y, s1I dd dm (h + r) j = some y → y = x := by
  rw [s1_H hh hr]
  rcases hx with e | e
  · exact w1_no e
  · exact w1_eq e
theorem w1_HL {x : Int64} (hh : isH h) (r : Nat) (hr : r < 180) (hx : s1Lh r j = none ∨ s1Lh r j = some x) : ∀ y, s1L (h + r) j = some y → y = x := by
  rw [s1_Hl hh hr]
  rcases hx with e | e
  · exact w1_noL e
  · exact w1_eqL e
theorem w1_M {x : Int32} (hm : isM m) (q : Nat) (hq : q < 20) (hx : s1M q j = none ∨ s1M q j = some x) : ∀ y, s1I dd dm (m + q) j = some y → y = x := by
  rw [s1_M hm hq]
  rcases hx with e | e
  · exact w1_no e
  · exact w1_eq e
theorem w1_mi {x : Int32} (hm : isM m) (q : Nat) (hq : 2 ≤ q ∧ q < 7) (hx : x = nI 0) : ∀ y, s1I dd dm (m + q) j = some y → y = x :=
  w1_M hm q (by omega) (Or.inr (by rw [hx]; unfold s1M; rw [if_neg (by omega), if_neg (by omega), if_neg (by omega)]))
theorem w1_row {x : Int32} (hm : isM m) (hk : k < 12) (hx : x = nI 0) : ∀ y, s1I dd dm (m + 8 + k) j = some y → y = x := by
  rw [show m + 8 + k = m + (8 + k) by omega]
  exact w1_M hm (8 + k) (by omega) (Or.inr (by rw [hx]; unfold s1M; rw [if_neg (by omega), if_neg (by omega), if_neg (by omega)]))
theorem w1_stock {x : Int64} (hm : isM m) (hx : x = 0) : ∀ y, s1L (m + 1) j = some y → y = x := by
  rw [s1_Ml hm (by omega)]
  exact w1_eqL (by rw [hx]; rfl)
theorem w1_tr {x : Int32} {t c n : Nat} (ht : isT t c n) (hk : k < c) : ∀ y, s1I dd dm (t + 2 + k) j = some y → y = x := by
  rcases ht with ⟨h, hh, h1 | h1 | h1 | h1⟩ | h1
  · obtain ⟨rfl, rfl, rfl⟩ := h1
    rw [show h + 7 + 2 + k = h + (9 + k) by omega]
    refine w1_H hh (9 + k) (by omega) (Or.inl ?_)
    unfold s1H
    rw [if_neg (by omega), if_neg (by omega), if_neg (by omega), if_neg (by omega), if_neg (by omega), if_neg (by omega), if_neg (by omega), if_neg (by omega), if_neg (by omega), if_pos (by omega)]
  · obtain ⟨rfl, rfl, rfl⟩ := h1
    rw [show h + 17 + 2 + k = h + (19 + k) by omega]
    refine w1_H hh (19 + k) (by omega) (Or.inl ?_)
    unfold s1H
    rw [if_neg (by omega), if_neg (by omega), if_neg (by omega), if_neg (by omega), if_neg (by omega), if_neg (by omega), if_neg (by omega), if_neg (by omega), if_neg (by omega), if_pos (by omega)]
  · obtain ⟨rfl, rfl, rfl⟩ := h1
    rw [show h + 38 + 2 + k = h + (40 + k) by omega]
    refine w1_H hh (40 + k) (by omega) (Or.inl ?_)
    unfold s1H
    rw [if_neg (by omega), if_neg (by omega), if_neg (by omega), if_neg (by omega), if_neg (by omega), if_neg (by omega), if_neg (by omega), if_neg (by omega), if_neg (by omega), if_pos (by omega)]
  · obtain ⟨rfl, rfl, rfl⟩ := h1
    rw [show h + 46 + 2 + k = h + (48 + k) by omega]
    refine w1_H hh (48 + k) (by omega) (Or.inl ?_)
    unfold s1H
    rw [if_neg (by omega), if_neg (by omega), if_neg (by omega), if_neg (by omega), if_neg (by omega), if_neg (by omega), if_neg (by omega), if_neg (by omega), if_neg (by omega), if_pos (by omega)]
  · obtain ⟨rfl, rfl, rfl⟩ := h1
    refine w1_no ?_
    unfold s1I
    rw [if_neg (by omega), if_neg (by omega), if_neg (by omega), if_neg (by omega), if_pos (by omega)]
theorem w1_now {x : Int32} (hj : j ≠ 6) (hx : x = nI 0) : ∀ y, s1I dd dm 552 j = some y → y = x := w1_eq (by rw [hx]; show (if j = 6 then some (nI dm) else some (nI 0)) = _; rw [if_neg hj])
end W1
end
