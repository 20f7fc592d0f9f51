theorem dX5_giveApart_4 : decode cX5_giveApart 4 = .ok (.astore_n 2, 1) := by decide +kernel
theorem dX5_giveApart_5 : decode cX5_giveApart 5 = .ok (.aload_n 2, 1) := by decide +kernel
theorem dX5_giveApart_6 : decode cX5_giveApart 6 = .ok (.bipush 7, 2) := by decide +kernel
theorem dX5_giveApart_8 : decode cX5_giveApart 8 = .ok (.iload_n 1, 1) := by decide +kernel
theorem dX5_giveApart_9 : decode cX5_giveApart 9 = .ok (.invokevirtual 25, 3) := by decide +kernel
theorem dX5_giveApart_12 : decode cX5_giveApart 12 = .ok (.istore_n 3, 1) := by decide +kernel
theorem dX5_giveApart_13 : decode cX5_giveApart 13 = .ok (.aload_n 2, 1) := by decide +kernel
theorem dX5_giveApart_14 : decode cX5_giveApart 14 = .ok (.iconst 5, 1) := by decide +kernel
theorem dX5_giveApart_15 : decode cX5_giveApart 15 = .ok (.iload_n 1, 1) := by decide +kernel
theorem dX5_giveApart_16 : decode cX5_giveApart 16 = .ok (.invokevirtual 25, 3) := by decide +kernel
theorem dX5_giveApart_19 : decode cX5_giveApart 19 = .ok (.iconst 1, 1) := by decide +kernel
theorem dX5_giveApart_20 : decode cX5_giveApart 20 = .ok (.if_icmp .ne 16, 3) := by decide +kernel
theorem dX5_giveApart_23 : decode cX5_giveApart 23 = .ok (.iload_n 3, 1) := by decide +kernel
theorem dX5_giveApart_24 : decode cX5_giveApart 24 = .ok (.iconst 1, 1) := by decide +kernel
theorem dX5_giveApart_25 : decode cX5_giveApart 25 = .ok (.if_icmp .lt 11, 3) := by decide +kernel
theorem dX5_giveApart_28 : decode cX5_giveApart 28 = .ok (.aload_n 0, 1) := by decide +kernel
theorem dX5_giveApart_29 : decode cX5_giveApart 29 = .ok (.iload_n 1, 1) := by decide +kernel
theorem dX5_giveApart_30 : decode cX5_giveApart 30 = .ok (.invokestatic 109, 3) := by decide +kernel
theorem dX5_giveApart_33 : decode cX5_giveApart 33 = .ok (.ifCond .eq 5, 3) := by decide +kernel
theorem dX5_giveApart_36 : decode cX5_giveApart 36 = .ok (.iconst (-1), 1) := by decide +kernel
theorem dX5_giveApart_37 : decode cX5_giveApart 37 = .ok (.ireturn, 1) := by decide +kernel
theorem dX5_giveApart_38 : decode cX5_giveApart 38 = .ok (.aload_n 0, 1) := by decide +kernel
theorem dX5_giveApart_39 : decode cX5_giveApart 39 = .ok (.getfield 9, 3) := by decide +kernel
theorem dX5_giveApart_42 : decode cX5_giveApart 42 = .ok (.invokevirtual 36, 3) := by decide +kernel
theorem dX5_giveApart_45 : decode cX5_giveApart 45 = .ok (.ifCond .ne 24, 3) := by decide +kernel
theorem dX5_giveApart_48 : decode cX5_giveApart 48 = .ok (.aload_n 2, 1) := by decide +kernel
theorem dX5_giveApart_49 : decode cX5_giveApart 49 = .ok (.bipush 6, 2) := by decide +kernel
theorem dX5_giveApart_51 : decode cX5_giveApart 51 = .ok (.iload_n 1, 1) := by decide +kernel
theorem dX5_giveApart_52 : decode cX5_giveApart 52 = .ok (.invokevirtual 25, 3) := by decide +kernel
theorem dX5_giveApart_55 : decode cX5_giveApart 55 = .ok (.aload_n 0, 1) := by decide +kernel
theorem dX5_giveApart_56 : decode cX5_giveApart 56 = .ok (.getfield 78, 3) := by decide +kernel
theorem dX5_giveApart_59 : decode cX5_giveApart 59 = .ok (.aload_n 0, 1) := by decide +kernel
theorem dX5_giveApart_60 : decode cX5_giveApart 60 = .ok (.getfield 81, 3) := by decide +kernel
theorem dX5_giveApart_63 : decode cX5_giveApart 63 = .ok (.iconst 3, 1) := by decide +kernel
theorem dX5_giveApart_64 : decode cX5_giveApart 64 = .ok (.iaload, 1) := by decide +kernel
theorem dX5_giveApart_65 : decode cX5_giveApart 65 = .ok (.isub, 1) := by decide +kernel
theorem dX5_giveApart_66 : decode cX5_giveApart 66 = .ok (.if_icmp .le 5, 3) := by decide +kernel
theorem dX5_giveApart_69 : decode cX5_giveApart 69 = .ok (.iconst (-1), 1) := by decide +kernel
theorem dX5_giveApart_70 : decode cX5_giveApart 70 = .ok (.ireturn, 1) := by decide +kernel
theorem dX5_giveApart_71 : decode cX5_giveApart 71 = .ok (.aload_n 0, 1) := by decide +kernel
theorem dX5_giveApart_72 : decode cX5_giveApart 72 = .ok (.aload_n 2, 1) := by decide +kernel
theorem dX5_giveApart_73 : decode cX5_giveApart 73 = .ok (.iconst 0, 1) := by decide +kernel
theorem dX5_giveApart_74 : decode cX5_giveApart 74 = .ok (.iload_n 1, 1) := by decide +kernel
theorem dX5_giveApart_75 : decode cX5_giveApart 75 = .ok (.invokevirtual 25, 3) := by decide +kernel
theorem dX5_giveApart_78 : decode cX5_giveApart 78 = .ok (.aload_n 2, 1) := by decide +kernel
theorem dX5_giveApart_79 : decode cX5_giveApart 79 = .ok (.iconst 2, 1) := by decide +kernel
theorem dX5_giveApart_80 : decode cX5_giveApart 80 = .ok (.iload_n 1, 1) := by decide +kernel
theorem dX5_giveApart_81 : decode cX5_giveApart 81 = .ok (.invokevirtual 25, 3) := by decide +kernel
theorem dX5_giveApart_84 : decode cX5_giveApart 84 = .ok (.iload_n 3, 1) := by decide +kernel
theorem dX5_giveApart_85 : decode cX5_giveApart 85 = .ok (.iload_n 1, 1) := by decide +kernel
theorem dX5_giveApart_86 : decode cX5_giveApart 86 = .ok (.invokestatic 53, 3) := by decide +kernel
theorem dX5_giveApart_89 : decode cX5_giveApart 89 = .ok (.ireturn, 1) := by decide +kernel
theorem dX5_giveNet_0 : decode cX5_giveNet 0 = .ok (.aload_n 0, 1) := by decide +kernel
theorem dX5_giveNet_1 : decode cX5_giveNet 1 = .ok (.iload_n 1, 1) := by decide +kernel
theorem dX5_giveNet_2 : decode cX5_giveNet 2 = .ok (.invokevirtual 29, 3) := by decide +kernel
theorem dX5_giveNet_5 : decode cX5_giveNet 5 = .ok (.ifCond .eq 20, 3) := by decide +kernel
theorem dX5_giveNet_8 : decode cX5_giveNet 8 = .ok (.iload_n 2, 1) := by decide +kernel
theorem dX5_giveNet_9 : decode cX5_giveNet 9 = .ok (.invokestatic 33, 3) := by decide +kernel
theorem dX5_giveNet_12 : decode cX5_giveNet 12 = .ok (.ifCond .eq 13, 3) := by decide +kernel
theorem dX5_giveNet_15 : decode cX5_giveNet 15 = .ok (.aload_n 0, 1) := by decide +kernel
theorem dX5_giveNet_16 : decode cX5_giveNet 16 = .ok (.getfield 9, 3) := by decide +kernel
theorem dX5_giveNet_19 : decode cX5_giveNet 19 = .ok (.invokevirtual 36, 3) := by decide +kernel
theorem dX5_giveNet_22 : decode cX5_giveNet 22 = .ok (.ifCond .eq 5, 3) := by decide +kernel
theorem dX5_giveNet_25 : decode cX5_giveNet 25 = .ok (.iconst (-1), 1) := by decide +kernel
theorem dX5_giveNet_26 : decode cX5_giveNet 26 = .ok (.ireturn, 1) := by decide +kernel
theorem dX5_giveNet_27 : decode cX5_giveNet 27 = .ok (.iload_n 3, 1) := by decide +kernel
theorem dX5_giveNet_28 : decode cX5_giveNet 28 = .ok (.iconst 1, 1) := by decide +kernel
theorem dX5_giveNet_29 : decode cX5_giveNet 29 = .ok (.if_icmp .lt 13, 3) := by decide +kernel
theorem dX5_giveNet_32 : decode cX5_giveNet 32 = .ok (.iload_n 3, 1) := by decide +kernel
theorem dX5_giveNet_33 : decode cX5_giveNet 33 = .ok (.aload_n 0, 1) := by decide +kernel
theorem dX5_giveNet_34 : decode cX5_giveNet 34 = .ok (.iload_n 1, 1) := by decide +kernel
theorem dX5_giveNet_35 : decode cX5_giveNet 35 = .ok (.iload_n 2, 1) := by decide +kernel
theorem dX5_giveNet_36 : decode cX5_giveNet 36 = .ok (.invokestatic 40, 3) := by decide +kernel
theorem dX5_giveNet_39 : decode cX5_giveNet 39 = .ok (.if_icmp .le 5, 3) := by decide +kernel
theorem dX5_giveNet_42 : decode cX5_giveNet 42 = .ok (.iconst (-1), 1) := by decide +kernel
theorem dX5_giveNet_43 : decode cX5_giveNet 43 = .ok (.ireturn, 1) := by decide +kernel
theorem dX5_giveNet_44 : decode cX5_giveNet 44 = .ok (.aload_n 0, 1) := by decide +kernel
theorem dX5_giveNet_45 : decode cX5_giveNet 45 = .ok (.iload_n 2, 1) := by decide +kernel
theorem dX5_giveNet_46 : decode cX5_giveNet 46 = .ok (.invokestatic 46, 3) := by decide +kernel
theorem dX5_giveNet_49 : decode cX5_giveNet 49 = .ok (.iload_n 1, 1) := by decide +kernel
theorem dX5_giveNet_50 : decode cX5_giveNet 50 = .ok (.ishr, 1) := by decide +kernel
theorem dX5_giveNet_51 : decode cX5_giveNet 51 = .ok (.iconst 1, 1) := by decide +kernel
theorem dX5_giveNet_52 : decode cX5_giveNet 52 = .ok (.iand, 1) := by decide +kernel
theorem dX5_giveNet_53 : decode cX5_giveNet 53 = .ok (.ifCond .eq 5, 3) := by decide +kernel
theorem dX5_giveNet_56 : decode cX5_giveNet 56 = .ok (.iconst (-1), 1) := by decide +kernel
theorem dX5_giveNet_57 : decode cX5_giveNet 57 = .ok (.ireturn, 1) := by decide +kernel
theorem dX5_giveNet_58 : decode cX5_giveNet 58 = .ok (.aload_n 0, 1) := by decide +kernel
theorem dX5_giveNet_59 : decode cX5_giveNet 59 = .ok (.iload_n 2, 1) := by decide +kernel
theorem dX5_giveNet_60 : decode cX5_giveNet 60 = .ok (.iload_n 3, 1) := by decide +kernel
theorem dX5_giveNet_61 : decode cX5_giveNet 61 = .ok (.invokestatic 50, 3) := by decide +kernel
theorem dX5_giveNet_64 : decode cX5_giveNet 64 = .ok (.istore 4, 2) := by decide +kernel
theorem dX5_giveNet_66 : decode cX5_giveNet 66 = .ok (.iload 4, 2) := by decide +kernel
theorem dX5_giveNet_68 : decode cX5_giveNet 68 = .ok (.ifCond .ne 5, 3) := by decide +kernel
theorem dX5_giveNet_71 : decode cX5_giveNet 71 = .ok (.iconst (-1), 1) := by decide +kernel
theorem dX5_giveNet_72 : decode cX5_giveNet 72 = .ok (.ireturn, 1) := by decide +kernel
theorem dX5_giveNet_73 : decode cX5_giveNet 73 = .ok (.aload_n 0, 1) := by decide +kernel
theorem dX5_giveNet_74 : decode cX5_giveNet 74 = .ok (.iload_n 1, 1) := by decide +kernel
theorem dX5_giveNet_75 : decode cX5_giveNet 75 = .ok (.iload_n 2, 1) := by decide +kernel
theorem dX5_giveNet_76 : decode cX5_giveNet 76 = .ok (.iload 4, 2) := by decide +kernel
theorem dX5_giveNet_78 : decode cX5_giveNet 78 = .ok (.iconst (-1), 1) := by decide +kernel
theorem dX5_giveNet_79 : decode cX5_giveNet 79 = .ok (.invokestatic 53, 3) := by decide +kernel
theorem dX5_giveNet_82 : decode cX5_giveNet 82 = .ok (.istore 5, 2) := by decide +kernel
theorem dX5_giveNet_84 : decode cX5_giveNet 84 = .ok (.iconst 0, 1) := by decide +kernel
theorem dX5_giveNet_85 : decode cX5_giveNet 85 = .ok (.istore 6, 2) := by decide +kernel
theorem dX5_giveNet_87 : decode cX5_giveNet 87 = .ok (.iload 6, 2) := by decide +kernel
theorem dX5_giveNet_89 : decode cX5_giveNet 89 = .ok (.aload_n 0, 1) := by decide +kernel
theorem dX5_giveNet_90 : decode cX5_giveNet 90 = .ok (.invokevirtual 57, 3) := by decide +kernel
theorem dX5_giveNet_93 : decode cX5_giveNet 93 = .ok (.if_icmp .ge 30, 3) := by decide +kernel
theorem dX5_giveNet_96 : decode cX5_giveNet 96 = .ok (.aload_n 0, 1) := by decide +kernel
theorem dX5_giveNet_97 : decode cX5_giveNet 97 = .ok (.getfield 9, 3) := by decide +kernel
theorem dX5_giveNet_100 : decode cX5_giveNet 100 = .ok (.bipush 7, 2) := by decide +kernel
theorem dX5_giveNet_102 : decode cX5_giveNet 102 = .ok (.iload 6, 2) := by decide +kernel
theorem dX5_giveNet_104 : decode cX5_giveNet 104 = .ok (.iadd, 1) := by decide +kernel
theorem dX5_giveNet_105 : decode cX5_giveNet 105 = .ok (.iload 5, 2) := by decide +kernel
theorem dX5_giveNet_107 : decode cX5_giveNet 107 = .ok (.aload_n 0, 1) := by decide +kernel
theorem dX5_giveNet_108 : decode cX5_giveNet 108 = .ok (.getfield 60, 3) := by decide +kernel
theorem dX5_giveNet_111 : decode cX5_giveNet 111 = .ok (.iload 6, 2) := by decide +kernel
theorem dX5_giveNet_113 : decode cX5_giveNet 113 = .ok (.iaload, 1) := by decide +kernel
theorem dX5_giveNet_114 : decode cX5_giveNet 114 = .ok (.invokevirtual 64, 3) := by decide +kernel
theorem dX5_giveNet_117 : decode cX5_giveNet 117 = .ok (.iinc 6 1, 3) := by decide +kernel
theorem dX5_giveNet_120 : decode cX5_giveNet 120 = .ok (.goto (-33), 3) := by decide +kernel
theorem dX5_giveNet_123 : decode cX5_giveNet 123 = .ok (.iload 5, 2) := by decide +kernel
theorem dX5_giveNet_125 : decode cX5_giveNet 125 = .ok (.ireturn, 1) := by decide +kernel
theorem dX5_givers_0 : decode cX5_givers 0 = .ok (.aload_n 0, 1) := by decide +kernel
theorem dX5_givers_1 : decode cX5_givers 1 = .ok (.getfield 9, 3) := by decide +kernel
theorem dX5_givers_4 : decode cX5_givers 4 = .ok (.astore_n 2, 1) := by decide +kernel
theorem dX5_givers_5 : decode cX5_givers 5 = .ok (.iconst 0, 1) := by decide +kernel
theorem dX5_givers_6 : decode cX5_givers 6 = .ok (.istore_n 3, 1) := by decide +kernel
theorem dX5_givers_7 : decode cX5_givers 7 = .ok (.iconst 0, 1) := by decide +kernel
theorem dX5_givers_8 : decode cX5_givers 8 = .ok (.istore 4, 2) := by decide +kernel
theorem dX5_givers_10 : decode cX5_givers 10 = .ok (.iload 4, 2) := by decide +kernel
theorem dX5_givers_12 : decode cX5_givers 12 = .ok (.aload_n 2, 1) := by decide +kernel
theorem dX5_givers_13 : decode cX5_givers 13 = .ok (.invokevirtual 15, 3) := by decide +kernel
theorem dX5_givers_16 : decode cX5_givers 16 = .ok (.if_icmp .ge 42, 3) := by decide +kernel
theorem dX5_givers_19 : decode cX5_givers 19 = .ok (.aload_n 0, 1) := by decide +kernel
theorem dX5_givers_20 : decode cX5_givers 20 = .ok (.iload 4, 2) := by decide +kernel
theorem dX5_givers_22 : decode cX5_givers 22 = .ok (.iload_n 1, 1) := by decide +kernel
theorem dX5_givers_23 : decode cX5_givers 23 = .ok (.invokevirtual 21, 3) := by decide +kernel
theorem dX5_givers_26 : decode cX5_givers 26 = .ok (.ifCond .eq 26, 3) := by decide +kernel
theorem dX5_givers_29 : decode cX5_givers 29 = .ok (.aload_n 2, 1) := by decide +kernel
theorem dX5_givers_30 : decode cX5_givers 30 = .ok (.iconst 5, 1) := by decide +kernel
theorem dX5_givers_31 : decode cX5_givers 31 = .ok (.iload 4, 2) := by decide +kernel
theorem dX5_givers_33 : decode cX5_givers 33 = .ok (.invokevirtual 25, 3) := by decide +kernel
theorem dX5_givers_36 : decode cX5_givers 36 = .ok (.iconst (-1), 1) := by decide +kernel
theorem dX5_givers_37 : decode cX5_givers 37 = .ok (.if_icmp .ne 15, 3) := by decide +kernel
theorem dX5_givers_40 : decode cX5_givers 40 = .ok (.iload_n 3, 1) := by decide +kernel
theorem dX5_givers_41 : decode cX5_givers 41 = .ok (.iconst 1, 1) := by decide +kernel
theorem dX5_givers_42 : decode cX5_givers 42 = .ok (.aload_n 2, 1) := by decide +kernel
theorem dX5_givers_43 : decode cX5_givers 43 = .ok (.iconst 0, 1) := by decide +kernel
theorem dX5_givers_44 : decode cX5_givers 44 = .ok (.iload 4, 2) := by decide +kernel
theorem dX5_givers_46 : decode cX5_givers 46 = .ok (.invokevirtual 25, 3) := by decide +kernel
theorem dX5_givers_49 : decode cX5_givers 49 = .ok (.ishl, 1) := by decide +kernel
theorem dX5_givers_50 : decode cX5_givers 50 = .ok (.ior, 1) := by decide +kernel
theorem dX5_givers_51 : decode cX5_givers 51 = .ok (.istore_n 3, 1) := by decide +kernel
theorem dX5_givers_52 : decode cX5_givers 52 = .ok (.iinc 4 1, 3) := by decide +kernel
theorem dX5_givers_55 : decode cX5_givers 55 = .ok (.goto (-45), 3) := by decide +kernel
theorem dX5_givers_58 : decode cX5_givers 58 = .ok (.iload_n 3, 1) := by decide +kernel
theorem dX5_givers_59 : decode cX5_givers 59 = .ok (.ireturn, 1) := by decide +kernel
theorem dX5_isCalled_0 : decode cX5_isCalled 0 = .ok (.aload_n 0, 1) := by decide +kernel
theorem dX5_isCalled_1 : decode cX5_isCalled 1 = .ok (.getfield 9, 3) := by decide +kernel
theorem dX5_isCalled_4 : decode cX5_isCalled 4 = .ok (.astore_n 2, 1) := by decide +kernel
theorem dX5_isCalled_5 : decode cX5_isCalled 5 = .ok (.iconst 0, 1) := by decide +kernel
theorem dX5_isCalled_6 : decode cX5_isCalled 6 = .ok (.istore_n 3, 1) := by decide +kernel
theorem dX5_isCalled_7 : decode cX5_isCalled 7 = .ok (.iload_n 3, 1) := by decide +kernel
theorem dX5_isCalled_8 : decode cX5_isCalled 8 = .ok (.aload_n 2, 1) := by decide +kernel
theorem dX5_isCalled_9 : decode cX5_isCalled 9 = .ok (.invokevirtual 15, 3) := by decide +kernel
theorem dX5_isCalled_12 : decode cX5_isCalled 12 = .ok (.if_icmp .ge 31, 3) := by decide +kernel
theorem dX5_isCalled_15 : decode cX5_isCalled 15 = .ok (.aload_n 2, 1) := by decide +kernel
theorem dX5_isCalled_16 : decode cX5_isCalled 16 = .ok (.iconst 4, 1) := by decide +kernel
theorem dX5_isCalled_17 : decode cX5_isCalled 17 = .ok (.iload_n 3, 1) := by decide +kernel
theorem dX5_isCalled_18 : decode cX5_isCalled 18 = .ok (.invokevirtual 25, 3) := by decide +kernel
theorem dX5_isCalled_21 : decode cX5_isCalled 21 = .ok (.iconst 1, 1) := by decide +kernel
theorem dX5_isCalled_22 : decode cX5_isCalled 22 = .ok (.if_icmp .ne 15, 3) := by decide +kernel
theorem dX5_isCalled_25 : decode cX5_isCalled 25 = .ok (.aload_n 2, 1) := by decide +kernel
theorem dX5_isCalled_26 : decode cX5_isCalled 26 = .ok (.iconst 5, 1) := by decide +kernel
theorem dX5_isCalled_27 : decode cX5_isCalled 27 = .ok (.iload_n 3, 1) := by decide +kernel
theorem dX5_isCalled_28 : decode cX5_isCalled 28 = .ok (.invokevirtual 25, 3) := by decide +kernel
theorem dX5_isCalled_31 : decode cX5_isCalled 31 = .ok (.iload_n 1, 1) := by decide +kernel
theorem dX5_isCalled_32 : decode cX5_isCalled 32 = .ok (.if_icmp .ne 5, 3) := by decide +kernel
theorem dX5_isCalled_35 : decode cX5_isCalled 35 = .ok (.iconst 1, 1) := by decide +kernel
theorem dX5_isCalled_36 : decode cX5_isCalled 36 = .ok (.ireturn, 1) := by decide +kernel
theorem dX5_isCalled_37 : decode cX5_isCalled 37 = .ok (.iinc 3 1, 3) := by decide +kernel
theorem dX5_isCalled_40 : decode cX5_isCalled 40 = .ok (.goto (-33), 3) := by decide +kernel
theorem dX5_isCalled_43 : decode cX5_isCalled 43 = .ok (.iconst 0, 1) := by decide +kernel
theorem dX5_isCalled_44 : decode cX5_isCalled 44 = .ok (.ireturn, 1) := by decide +kernel
theorem dX5_lastOfChain_0 : decode cX5_lastOfChain 0 = .ok (.aload_n 0, 1) := by decide +kernel
theorem dX5_lastOfChain_1 : decode cX5_lastOfChain 1 = .ok (.getfield 161, 3) := by decide +kernel
theorem dX5_lastOfChain_4 : decode cX5_lastOfChain 4 = .ok (.istore_n 1, 1) := by decide +kernel
theorem dX5_lastOfChain_5 : decode cX5_lastOfChain 5 = .ok (.iload_n 1, 1) := by decide +kernel
theorem dX5_lastOfChain_6 : decode cX5_lastOfChain 6 = .ok (.iconst 1, 1) := by decide +kernel
theorem dX5_lastOfChain_7 : decode cX5_lastOfChain 7 = .ok (.if_icmp .lt 12, 3) := by decide +kernel
theorem dX5_lastOfChain_10 : decode cX5_lastOfChain 10 = .ok (.iload_n 1, 1) := by decide +kernel
theorem dX5_lastOfChain_11 : decode cX5_lastOfChain 11 = .ok (.aload_n 0, 1) := by decide +kernel
theorem dX5_lastOfChain_12 : decode cX5_lastOfChain 12 = .ok (.getfield 164, 3) := by decide +kernel
theorem dX5_lastOfChain_15 : decode cX5_lastOfChain 15 = .ok (.arraylength, 1) := by decide +kernel
theorem dX5_lastOfChain_16 : decode cX5_lastOfChain 16 = .ok (.if_icmp .le 7, 3) := by decide +kernel
theorem dX5_lastOfChain_19 : decode cX5_lastOfChain 19 = .ok (.iconst (-1), 1) := by decide +kernel
theorem dX5_lastOfChain_20 : decode cX5_lastOfChain 20 = .ok (.goto 19, 3) := by decide +kernel
theorem dX5_lastOfChain_23 : decode cX5_lastOfChain 23 = .ok (.aload_n 0, 1) := by decide +kernel
theorem dX5_lastOfChain_24 : decode cX5_lastOfChain 24 = .ok (.getfield 106, 3) := by decide +kernel
theorem dX5_lastOfChain_27 : decode cX5_lastOfChain 27 = .ok (.iconst 1, 1) := by decide +kernel
theorem dX5_lastOfChain_28 : decode cX5_lastOfChain 28 = .ok (.aload_n 0, 1) := by decide +kernel
theorem dX5_lastOfChain_29 : decode cX5_lastOfChain 29 = .ok (.getfield 164, 3) := by decide +kernel
theorem dX5_lastOfChain_32 : decode cX5_lastOfChain 32 = .ok (.iload_n 1, 1) := by decide +kernel
theorem dX5_lastOfChain_33 : decode cX5_lastOfChain 33 = .ok (.iconst 1, 1) := by decide +kernel
theorem dX5_lastOfChain_34 : decode cX5_lastOfChain 34 = .ok (.isub, 1) := by decide +kernel
theorem dX5_lastOfChain_35 : decode cX5_lastOfChain 35 = .ok (.iaload, 1) := by decide +kernel
theorem dX5_lastOfChain_36 : decode cX5_lastOfChain 36 = .ok (.invokevirtual 25, 3) := by decide +kernel
theorem dX5_lastOfChain_39 : decode cX5_lastOfChain 39 = .ok (.ireturn, 1) := by decide +kernel
theorem dX5_layChain_0 : decode cX5_layChain 0 = .ok (.aload_n 0, 1) := by decide +kernel
theorem dX5_layChain_1 : decode cX5_layChain 1 = .ok (.getfield 106, 3) := by decide +kernel
theorem dX5_layChain_4 : decode cX5_layChain 4 = .ok (.astore_n 3, 1) := by decide +kernel
theorem dX5_layChain_5 : decode cX5_layChain 5 = .ok (.iconst 1, 1) := by decide +kernel
theorem dX5_layChain_6 : decode cX5_layChain 6 = .ok (.aload_n 3, 1) := by decide +kernel
theorem dX5_layChain_7 : decode cX5_layChain 7 = .ok (.iconst 0, 1) := by decide +kernel
theorem dX5_layChain_8 : decode cX5_layChain 8 = .ok (.iload_n 1, 1) := by decide +kernel
theorem dX5_layChain_9 : decode cX5_layChain 9 = .ok (.invokevirtual 25, 3) := by decide +kernel
theorem dX5_layChain_12 : decode cX5_layChain 12 = .ok (.ishl, 1) := by decide +kernel
theorem dX5_layChain_13 : decode cX5_layChain 13 = .ok (.istore 4, 2) := by decide +kernel
theorem dX5_layChain_15 : decode cX5_layChain 15 = .ok (.iload_n 1, 1) := by decide +kernel
theorem dX5_layChain_16 : decode cX5_layChain 16 = .ok (.istore 5, 2) := by decide +kernel
theorem dX5_layChain_18 : decode cX5_layChain 18 = .ok (.aload_n 0, 1) := by decide +kernel
theorem dX5_layChain_19 : decode cX5_layChain 19 = .ok (.iconst 0, 1) := by decide +kernel
theorem dX5_layChain_20 : decode cX5_layChain 20 = .ok (.putfield 161, 3) := by decide +kernel
theorem dX5_layChain_23 : decode cX5_layChain 23 = .ok (.iload 5, 2) := by decide +kernel
theorem dX5_layChain_25 : decode cX5_layChain 25 = .ok (.iconst (-1), 1) := by decide +kernel
theorem dX5_layChain_26 : decode cX5_layChain 26 = .ok (.if_icmp .eq 74, 3) := by decide +kernel
theorem dX5_layChain_29 : decode cX5_layChain 29 = .ok (.aload_n 0, 1) := by decide +kernel
theorem dX5_layChain_30 : decode cX5_layChain 30 = .ok (.getfield 161, 3) := by decide +kernel
theorem dX5_layChain_33 : decode cX5_layChain 33 = .ok (.aload_n 0, 1) := by decide +kernel
theorem dX5_layChain_34 : decode cX5_layChain 34 = .ok (.getfield 164, 3) := by decide +kernel
theorem dX5_layChain_37 : decode cX5_layChain 37 = .ok (.arraylength, 1) := by decide +kernel
theorem dX5_layChain_38 : decode cX5_layChain 38 = .ok (.if_icmp .ge 62, 3) := by decide +kernel
theorem dX5_layChain_41 : decode cX5_layChain 41 = .ok (.aload_n 0, 1) := by decide +kernel
theorem dX5_layChain_42 : decode cX5_layChain 42 = .ok (.getfield 164, 3) := by decide +kernel
theorem dX5_layChain_45 : decode cX5_layChain 45 = .ok (.aload_n 0, 1) := by decide +kernel
theorem dX5_layChain_46 : decode cX5_layChain 46 = .ok (.getfield 161, 3) := by decide +kernel
theorem dX5_layChain_49 : decode cX5_layChain 49 = .ok (.iload 5, 2) := by decide +kernel
theorem dX5_layChain_51 : decode cX5_layChain 51 = .ok (.iastore, 1) := by decide +kernel
theorem dX5_layChain_52 : decode cX5_layChain 52 = .ok (.aload_n 0, 1) := by decide +kernel
theorem dX5_layChain_53 : decode cX5_layChain 53 = .ok (.dup, 1) := by decide +kernel
theorem dX5_layChain_54 : decode cX5_layChain 54 = .ok (.getfield 161, 3) := by decide +kernel
theorem dX5_layChain_57 : decode cX5_layChain 57 = .ok (.iconst 1, 1) := by decide +kernel
theorem dX5_layChain_58 : decode cX5_layChain 58 = .ok (.iadd, 1) := by decide +kernel
theorem dX5_layChain_59 : decode cX5_layChain 59 = .ok (.putfield 161, 3) := by decide +kernel
theorem dX5_layChain_62 : decode cX5_layChain 62 = .ok (.aload_n 3, 1) := by decide +kernel
theorem dX5_layChain_63 : decode cX5_layChain 63 = .ok (.iconst 1, 1) := by decide +kernel
theorem dX5_layChain_64 : decode cX5_layChain 64 = .ok (.iload 5, 2) := by decide +kernel
theorem dX5_layChain_66 : decode cX5_layChain 66 = .ok (.invokevirtual 25, 3) := by decide +kernel
theorem dX5_layChain_69 : decode cX5_layChain 69 = .ok (.istore 6, 2) := by decide +kernel
theorem dX5_layChain_71 : decode cX5_layChain 71 = .ok (.iload 4, 2) := by decide +kernel
theorem dX5_layChain_73 : decode cX5_layChain 73 = .ok (.iconst 1, 1) := by decide +kernel
theorem dX5_layChain_74 : decode cX5_layChain 74 = .ok (.iload 6, 2) := by decide +kernel
theorem dX5_layChain_76 : decode cX5_layChain 76 = .ok (.ishl, 1) := by decide +kernel
theorem dX5_layChain_77 : decode cX5_layChain 77 = .ok (.ior, 1) := by decide +kernel
theorem dX5_layChain_78 : decode cX5_layChain 78 = .ok (.istore 4, 2) := by decide +kernel
theorem dX5_layChain_80 : decode cX5_layChain 80 = .ok (.aload_n 0, 1) := by decide +kernel
theorem dX5_layChain_81 : decode cX5_layChain 81 = .ok (.aload_n 3, 1) := by decide +kernel
theorem dX5_layChain_82 : decode cX5_layChain 82 = .ok (.iconst 2, 1) := by decide +kernel
theorem dX5_layChain_83 : decode cX5_layChain 83 = .ok (.iload_n 1, 1) := by decide +kernel
theorem dX5_layChain_84 : decode cX5_layChain 84 = .ok (.invokevirtual 25, 3) := by decide +kernel
theorem dX5_layChain_87 : decode cX5_layChain 87 = .ok (.iload 6, 2) := by decide +kernel
theorem dX5_layChain_89 : decode cX5_layChain 89 = .ok (.iload_n 2, 1) := by decide +kernel
theorem dX5_layChain_90 : decode cX5_layChain 90 = .ok (.iload 4, 2) := by decide +kernel
theorem dX5_layChain_92 : decode cX5_layChain 92 = .ok (.invokestatic 167, 3) := by decide +kernel
theorem dX5_layChain_95 : decode cX5_layChain 95 = .ok (.istore 5, 2) := by decide +kernel
theorem dX5_layChain_97 : decode cX5_layChain 97 = .ok (.goto (-74), 3) := by decide +kernel
theorem dX5_layChain_100 : decode cX5_layChain 100 = .ok (.return_, 1) := by decide +kernel
theorem dX5_nextLink_0 : decode cX5_nextLink 0 = .ok (.aload_n 0, 1) := by decide +kernel
theorem dX5_nextLink_1 : decode cX5_nextLink 1 = .ok (.getfield 106, 3) := by decide +kernel
theorem dX5_nextLink_4 : decode cX5_nextLink 4 = .ok (.astore 5, 2) := by decide +kernel
theorem dX5_nextLink_6 : decode cX5_nextLink 6 = .ok (.iconst (-1), 1) := by decide +kernel
theorem dX5_nextLink_7 : decode cX5_nextLink 7 = .ok (.istore 6, 2) := by decide +kernel
theorem dX5_nextLink_9 : decode cX5_nextLink 9 = .ok (.iconst 0, 1) := by decide +kernel
theorem dX5_nextLink_10 : decode cX5_nextLink 10 = .ok (.istore 7, 2) := by decide +kernel
theorem dX5_nextLink_12 : decode cX5_nextLink 12 = .ok (.iload 7, 2) := by decide +kernel
theorem dX5_nextLink_14 : decode cX5_nextLink 14 = .ok (.aload 5, 2) := by decide +kernel
theorem dX5_nextLink_16 : decode cX5_nextLink 16 = .ok (.invokevirtual 15, 3) := by decide +kernel
theorem dX5_nextLink_19 : decode cX5_nextLink 19 = .ok (.if_icmp .ge 145, 3) := by decide +kernel
theorem dX5_nextLink_22 : decode cX5_nextLink 22 = .ok (.aload 5, 2) := by decide +kernel
theorem dX5_nextLink_24 : decode cX5_nextLink 24 = .ok (.iconst 0, 1) := by decide +kernel
theorem dX5_nextLink_25 : decode cX5_nextLink 25 = .ok (.iload 7, 2) := by decide +kernel
theorem dX5_nextLink_27 : decode cX5_nextLink 27 = .ok (.invokevirtual 25, 3) := by decide +kernel
theorem dX5_nextLink_30 : decode cX5_nextLink 30 = .ok (.iload_n 2, 1) := by decide +kernel
theorem dX5_nextLink_31 : decode cX5_nextLink 31 = .ok (.if_icmp .ne 35, 3) := by decide +kernel
theorem dX5_nextLink_34 : decode cX5_nextLink 34 = .ok (.aload 5, 2) := by decide +kernel
theorem dX5_nextLink_36 : decode cX5_nextLink 36 = .ok (.iconst 2, 1) := by decide +kernel
theorem dX5_nextLink_37 : decode cX5_nextLink 37 = .ok (.iload 7, 2) := by decide +kernel
theorem dX5_nextLink_39 : decode cX5_nextLink 39 = .ok (.invokevirtual 25, 3) := by decide +kernel
theorem dX5_nextLink_42 : decode cX5_nextLink 42 = .ok (.iload_n 1, 1) := by decide +kernel
theorem dX5_nextLink_43 : decode cX5_nextLink 43 = .ok (.if_icmp .ne 23, 3) := by decide +kernel
theorem dX5_nextLink_46 : decode cX5_nextLink 46 = .ok (.iload 4, 2) := by decide +kernel
theorem dX5_nextLink_48 : decode cX5_nextLink 48 = .ok (.aload 5, 2) := by decide +kernel
theorem dX5_nextLink_50 : decode cX5_nextLink 50 = .ok (.iconst 1, 1) := by decide +kernel
theorem dX5_nextLink_51 : decode cX5_nextLink 51 = .ok (.iload 7, 2) := by decide +kernel
theorem dX5_nextLink_53 : decode cX5_nextLink 53 = .ok (.invokevirtual 25, 3) := by decide +kernel
theorem dX5_nextLink_56 : decode cX5_nextLink 56 = .ok (.ishr, 1) := by decide +kernel
theorem dX5_nextLink_57 : decode cX5_nextLink 57 = .ok (.iconst 1, 1) := by decide +kernel
theorem dX5_nextLink_58 : decode cX5_nextLink 58 = .ok (.iand, 1) := by decide +kernel
theorem dX5_nextLink_59 : decode cX5_nextLink 59 = .ok (.ifCond .ne 7, 3) := by decide +kernel
theorem dX5_nextLink_62 : decode cX5_nextLink 62 = .ok (.iconst 1, 1) := by decide +kernel
theorem dX5_nextLink_63 : decode cX5_nextLink 63 = .ok (.goto 4, 3) := by decide +kernel
theorem dX5_nextLink_66 : decode cX5_nextLink 66 = .ok (.iconst 0, 1) := by decide +kernel
theorem dX5_nextLink_67 : decode cX5_nextLink 67 = .ok (.istore 8, 2) := by decide +kernel
theorem dX5_nextLink_69 : decode cX5_nextLink 69 = .ok (.aload 5, 2) := by decide +kernel
theorem dX5_nextLink_71 : decode cX5_nextLink 71 = .ok (.iconst 5, 1) := by decide +kernel
theorem dX5_nextLink_72 : decode cX5_nextLink 72 = .ok (.iload 7, 2) := by decide +kernel
theorem dX5_nextLink_74 : decode cX5_nextLink 74 = .ok (.invokevirtual 25, 3) := by decide +kernel
theorem dX5_nextLink_77 : decode cX5_nextLink 77 = .ok (.iconst 1, 1) := by decide +kernel
theorem dX5_nextLink_78 : decode cX5_nextLink 78 = .ok (.if_icmp .ne 36, 3) := by decide +kernel
theorem dX5_nextLink_81 : decode cX5_nextLink 81 = .ok (.aload 5, 2) := by decide +kernel
theorem dX5_nextLink_83 : decode cX5_nextLink 83 = .ok (.bipush 7, 2) := by decide +kernel
theorem dX5_nextLink_85 : decode cX5_nextLink 85 = .ok (.iload 7, 2) := by decide +kernel
theorem dX5_nextLink_87 : decode cX5_nextLink 87 = .ok (.invokevirtual 25, 3) := by decide +kernel
theorem dX5_nextLink_90 : decode cX5_nextLink 90 = .ok (.iload_n 3, 1) := by decide +kernel
theorem dX5_nextLink_91 : decode cX5_nextLink 91 = .ok (.if_icmp .lt 23, 3) := by decide +kernel
theorem dX5_nextLink_94 : decode cX5_nextLink 94 = .ok (.aload 5, 2) := by decide +kernel
theorem dX5_nextLink_96 : decode cX5_nextLink 96 = .ok (.bipush 6, 2) := by decide +kernel
theorem dX5_nextLink_98 : decode cX5_nextLink 98 = .ok (.iload 7, 2) := by decide +kernel
theorem dX5_nextLink_100 : decode cX5_nextLink 100 = .ok (.invokevirtual 25, 3) := by decide +kernel
theorem dX5_nextLink_103 : decode cX5_nextLink 103 = .ok (.aload_n 0, 1) := by decide +kernel
theorem dX5_nextLink_104 : decode cX5_nextLink 104 = .ok (.getfield 78, 3) := by decide +kernel
theorem dX5_nextLink_107 : decode cX5_nextLink 107 = .ok (.if_icmp .gt 7, 3) := by decide +kernel
theorem dX5_nextLink_110 : decode cX5_nextLink 110 = .ok (.iconst 1, 1) := by decide +kernel
theorem dX5_nextLink_111 : decode cX5_nextLink 111 = .ok (.goto 4, 3) := by decide +kernel
theorem dX5_nextLink_114 : decode cX5_nextLink 114 = .ok (.iconst 0, 1) := by decide +kernel
theorem dX5_nextLink_115 : decode cX5_nextLink 115 = .ok (.istore 9, 2) := by decide +kernel
theorem dX5_nextLink_117 : decode cX5_nextLink 117 = .ok (.iload 8, 2) := by decide +kernel
theorem dX5_nextLink_119 : decode cX5_nextLink 119 = .ok (.ifCond .eq 39, 3) := by decide +kernel
theorem dX5_nextLink_122 : decode cX5_nextLink 122 = .ok (.iload 9, 2) := by decide +kernel
theorem dX5_nextLink_124 : decode cX5_nextLink 124 = .ok (.ifCond .eq 34, 3) := by decide +kernel
theorem dX5_nextLink_127 : decode cX5_nextLink 127 = .ok (.iload 6, 2) := by decide +kernel
theorem dX5_nextLink_129 : decode cX5_nextLink 129 = .ok (.iconst (-1), 1) := by decide +kernel
theorem dX5_nextLink_130 : decode cX5_nextLink 130 = .ok (.if_icmp .eq 24, 3) := by decide +kernel
theorem dX5_nextLink_133 : decode cX5_nextLink 133 = .ok (.aload 5, 2) := by decide +kernel
theorem dX5_nextLink_135 : decode cX5_nextLink 135 = .ok (.bipush 6, 2) := by decide +kernel
theorem dX5_nextLink_137 : decode cX5_nextLink 137 = .ok (.iload 7, 2) := by decide +kernel
theorem dX5_nextLink_139 : decode cX5_nextLink 139 = .ok (.invokevirtual 25, 3) := by decide +kernel
theorem dX5_nextLink_142 : decode cX5_nextLink 142 = .ok (.aload 5, 2) := by decide +kernel
theorem dX5_nextLink_144 : decode cX5_nextLink 144 = .ok (.bipush 6, 2) := by decide +kernel
theorem dX5_nextLink_146 : decode cX5_nextLink 146 = .ok (.iload 6, 2) := by decide +kernel
theorem dX5_nextLink_148 : decode cX5_nextLink 148 = .ok (.invokevirtual 25, 3) := by decide +kernel
theorem dX5_nextLink_151 : decode cX5_nextLink 151 = .ok (.if_icmp .ge 7, 3) := by decide +kernel
theorem dX5_nextLink_154 : decode cX5_nextLink 154 = .ok (.iload 7, 2) := by decide +kernel
theorem dX5_nextLink_156 : decode cX5_nextLink 156 = .ok (.istore 6, 2) := by decide +kernel
theorem dX5_nextLink_158 : decode cX5_nextLink 158 = .ok (.iinc 7 1, 3) := by decide +kernel
theorem dX5_nextLink_161 : decode cX5_nextLink 161 = .ok (.goto (-149), 3) := by decide +kernel
theorem dX5_nextLink_164 : decode cX5_nextLink 164 = .ok (.iload 6, 2) := by decide +kernel
theorem dX5_nextLink_166 : decode cX5_nextLink 166 = .ok (.ireturn, 1) := by decide +kernel
theorem dX5_takeAssigned_0 : decode cX5_takeAssigned 0 = .ok (.aload_n 0, 1) := by decide +kernel
theorem dX5_takeAssigned_1 : decode cX5_takeAssigned 1 = .ok (.getfield 9, 3) := by decide +kernel
theorem dX5_takeAssigned_4 : decode cX5_takeAssigned 4 = .ok (.astore 4, 2) := by decide +kernel
theorem dX5_takeAssigned_6 : decode cX5_takeAssigned 6 = .ok (.iload_n 3, 1) := by decide +kernel
theorem dX5_takeAssigned_7 : decode cX5_takeAssigned 7 = .ok (.istore 5, 2) := by decide +kernel
theorem dX5_takeAssigned_9 : decode cX5_takeAssigned 9 = .ok (.iconst 0, 1) := by decide +kernel
theorem dX5_takeAssigned_10 : decode cX5_takeAssigned 10 = .ok (.istore 6, 2) := by decide +kernel
theorem dX5_takeAssigned_12 : decode cX5_takeAssigned 12 = .ok (.iload 6, 2) := by decide +kernel
theorem dX5_takeAssigned_14 : decode cX5_takeAssigned 14 = .ok (.aload 4, 2) := by decide +kernel
theorem dX5_takeAssigned_16 : decode cX5_takeAssigned 16 = .ok (.invokevirtual 15, 3) := by decide +kernel
theorem dX5_takeAssigned_19 : decode cX5_takeAssigned 19 = .ok (.if_icmp .ge 74, 3) := by decide +kernel
theorem dX5_takeAssigned_22 : decode cX5_takeAssigned 22 = .ok (.iload 5, 2) := by decide +kernel
theorem dX5_takeAssigned_24 : decode cX5_takeAssigned 24 = .ok (.ifCond .le 69, 3) := by decide +kernel
theorem dX5_takeAssigned_27 : decode cX5_takeAssigned 27 = .ok (.aload_n 0, 1) := by decide +kernel
theorem dX5_takeAssigned_28 : decode cX5_takeAssigned 28 = .ok (.iload 6, 2) := by decide +kernel
theorem dX5_takeAssigned_30 : decode cX5_takeAssigned 30 = .ok (.iload_n 1, 1) := by decide +kernel
theorem dX5_takeAssigned_31 : decode cX5_takeAssigned 31 = .ok (.invokevirtual 21, 3) := by decide +kernel
theorem dX5_takeAssigned_34 : decode cX5_takeAssigned 34 = .ok (.ifCond .eq 53, 3) := by decide +kernel
theorem dX5_takeAssigned_37 : decode cX5_takeAssigned 37 = .ok (.iload 5, 2) := by decide +kernel
theorem dX5_takeAssigned_39 : decode cX5_takeAssigned 39 = .ok (.aload 4, 2) := by decide +kernel
theorem dX5_takeAssigned_41 : decode cX5_takeAssigned 41 = .ok (.bipush 7, 2) := by decide +kernel
theorem dX5_takeAssigned_43 : decode cX5_takeAssigned 43 = .ok (.iload_n 2, 1) := by decide +kernel
theorem dX5_takeAssigned_44 : decode cX5_takeAssigned 44 = .ok (.iadd, 1) := by decide +kernel
theorem dX5_takeAssigned_45 : decode cX5_takeAssigned 45 = .ok (.iload 6, 2) := by decide +kernel
theorem dX5_takeAssigned_47 : decode cX5_takeAssigned 47 = .ok (.invokevirtual 25, 3) := by decide +kernel
theorem dX5_takeAssigned_50 : decode cX5_takeAssigned 50 = .ok (.invokestatic 84, 3) := by decide +kernel
theorem dX5_takeAssigned_53 : decode cX5_takeAssigned 53 = .ok (.istore 7, 2) := by decide +kernel
theorem dX5_takeAssigned_55 : decode cX5_takeAssigned 55 = .ok (.aload 4, 2) := by decide +kernel
theorem dX5_takeAssigned_57 : decode cX5_takeAssigned 57 = .ok (.bipush 7, 2) := by decide +kernel
theorem dX5_takeAssigned_59 : decode cX5_takeAssigned 59 = .ok (.iload_n 2, 1) := by decide +kernel
theorem dX5_takeAssigned_60 : decode cX5_takeAssigned 60 = .ok (.iadd, 1) := by decide +kernel
theorem dX5_takeAssigned_61 : decode cX5_takeAssigned 61 = .ok (.iload 6, 2) := by decide +kernel
theorem dX5_takeAssigned_63 : decode cX5_takeAssigned 63 = .ok (.aload 4, 2) := by decide +kernel
theorem dX5_takeAssigned_65 : decode cX5_takeAssigned 65 = .ok (.bipush 7, 2) := by decide +kernel
theorem dX5_takeAssigned_67 : decode cX5_takeAssigned 67 = .ok (.iload_n 2, 1) := by decide +kernel
theorem dX5_takeAssigned_68 : decode cX5_takeAssigned 68 = .ok (.iadd, 1) := by decide +kernel
theorem dX5_takeAssigned_69 : decode cX5_takeAssigned 69 = .ok (.iload 6, 2) := by decide +kernel
theorem dX5_takeAssigned_71 : decode cX5_takeAssigned 71 = .ok (.invokevirtual 25, 3) := by decide +kernel
theorem dX5_takeAssigned_74 : decode cX5_takeAssigned 74 = .ok (.iload 7, 2) := by decide +kernel
theorem dX5_takeAssigned_76 : decode cX5_takeAssigned 76 = .ok (.isub, 1) := by decide +kernel
theorem dX5_takeAssigned_77 : decode cX5_takeAssigned 77 = .ok (.invokevirtual 64, 3) := by decide +kernel
theorem dX5_takeAssigned_80 : decode cX5_takeAssigned 80 = .ok (.iload 5, 2) := by decide +kernel
theorem dX5_takeAssigned_82 : decode cX5_takeAssigned 82 = .ok (.iload 7, 2) := by decide +kernel
theorem dX5_takeAssigned_84 : decode cX5_takeAssigned 84 = .ok (.isub, 1) := by decide +kernel
theorem dX5_takeAssigned_85 : decode cX5_takeAssigned 85 = .ok (.istore 5, 2) := by decide +kernel
theorem dX5_takeAssigned_87 : decode cX5_takeAssigned 87 = .ok (.iinc 6 1, 3) := by decide +kernel
theorem dX5_takeAssigned_90 : decode cX5_takeAssigned 90 = .ok (.goto (-78), 3) := by decide +kernel
theorem dX5_takeAssigned_93 : decode cX5_takeAssigned 93 = .ok (.return_, 1) := by decide +kernel
theorem dX6_append_0 : decode cX6_append 0 = .ok (.bipush 24, 2) := by decide +kernel
theorem dX6_append_2 : decode cX6_append 2 = .ok (.istore_n 2, 1) := by decide +kernel
theorem dX6_append_3 : decode cX6_append 3 = .ok (.iload_n 2, 1) := by decide +kernel
theorem dX6_append_4 : decode cX6_append 4 = .ok (.ifCond .lt 45, 3) := by decide +kernel
theorem dX6_append_7 : decode cX6_append 7 = .ok (.aload_n 0, 1) := by decide +kernel
theorem dX6_append_8 : decode cX6_append 8 = .ok (.getfield 15, 3) := by decide +kernel
theorem dX6_append_11 : decode cX6_append 11 = .ok (.sipush 400, 3) := by decide +kernel
theorem dX6_append_14 : decode cX6_append 14 = .ok (.if_icmp .ge 35, 3) := by decide +kernel
theorem dX6_append_17 : decode cX6_append 17 = .ok (.aload_n 0, 1) := by decide +kernel
theorem dX6_append_18 : decode cX6_append 18 = .ok (.getfield 9, 3) := by decide +kernel
theorem dX6_append_21 : decode cX6_append 21 = .ok (.aload_n 0, 1) := by decide +kernel
theorem dX6_append_22 : decode cX6_append 22 = .ok (.getfield 15, 3) := by decide +kernel
theorem dX6_append_25 : decode cX6_append 25 = .ok (.iload_n 1, 1) := by decide +kernel
theorem dX6_append_26 : decode cX6_append 26 = .ok (.iload_n 2, 1) := by decide +kernel
theorem dX6_append_27 : decode cX6_append 27 = .ok (.ishr, 1) := by decide +kernel
theorem dX6_append_28 : decode cX6_append 28 = .ok (.sipush 255, 3) := by decide +kernel
theorem dX6_append_31 : decode cX6_append 31 = .ok (.iand, 1) := by decide +kernel
theorem dX6_append_32 : decode cX6_append 32 = .ok (.iastore, 1) := by decide +kernel
theorem dX6_append_33 : decode cX6_append 33 = .ok (.aload_n 0, 1) := by decide +kernel
theorem dX6_append_34 : decode cX6_append 34 = .ok (.dup, 1) := by decide +kernel
theorem dX6_append_35 : decode cX6_append 35 = .ok (.getfield 15, 3) := by decide +kernel
theorem dX6_append_38 : decode cX6_append 38 = .ok (.iconst 1, 1) := by decide +kernel
theorem dX6_append_39 : decode cX6_append 39 = .ok (.iadd, 1) := by decide +kernel
theorem dX6_append_40 : decode cX6_append 40 = .ok (.putfield 15, 3) := by decide +kernel
theorem dX6_append_43 : decode cX6_append 43 = .ok (.iinc 2 (-8), 3) := by decide +kernel
theorem dX6_append_46 : decode cX6_append 46 = .ok (.goto (-43), 3) := by decide +kernel
theorem dX6_append_49 : decode cX6_append 49 = .ok (.return_, 1) := by decide +kernel
theorem dX6_failHere_0 : decode cX6_failHere 0 = .ok (.aload_n 0, 1) := by decide +kernel
theorem dX6_failHere_1 : decode cX6_failHere 1 = .ok (.iload_n 1, 1) := by decide +kernel
theorem dX6_failHere_2 : decode cX6_failHere 2 = .ok (.putfield 31, 3) := by decide +kernel
theorem dX6_failHere_5 : decode cX6_failHere 5 = .ok (.aload_n 0, 1) := by decide +kernel
theorem dX6_failHere_6 : decode cX6_failHere 6 = .ok (.aload_n 0, 1) := by decide +kernel
theorem dX6_failHere_7 : decode cX6_failHere 7 = .ok (.getfield 28, 3) := by decide +kernel
theorem dX6_failHere_10 : decode cX6_failHere 10 = .ok (.putfield 34, 3) := by decide +kernel
theorem dX6_failHere_13 : decode cX6_failHere 13 = .ok (.return_, 1) := by decide +kernel
theorem dX6_hasRoom_0 : decode cX6_hasRoom 0 = .ok (.aload_n 0, 1) := by decide +kernel
theorem dX6_hasRoom_1 : decode cX6_hasRoom 1 = .ok (.getfield 15, 3) := by decide +kernel
theorem dX6_hasRoom_4 : decode cX6_hasRoom 4 = .ok (.bipush 20, 2) := by decide +kernel
theorem dX6_hasRoom_6 : decode cX6_hasRoom 6 = .ok (.iadd, 1) := by decide +kernel
theorem dX6_hasRoom_7 : decode cX6_hasRoom 7 = .ok (.sipush 400, 3) := by decide +kernel
theorem dX6_hasRoom_10 : decode cX6_hasRoom 10 = .ok (.if_icmp .gt 7, 3) := by decide +kernel
theorem dX6_hasRoom_13 : decode cX6_hasRoom 13 = .ok (.iconst 1, 1) := by decide +kernel
theorem dX6_hasRoom_14 : decode cX6_hasRoom 14 = .ok (.goto 4, 3) := by decide +kernel
theorem dX6_hasRoom_17 : decode cX6_hasRoom 17 = .ok (.iconst 0, 1) := by decide +kernel
theorem dX6_hasRoom_18 : decode cX6_hasRoom 18 = .ok (.ireturn, 1) := by decide +kernel
theorem dX6_here_0 : decode cX6_here 0 = .ok (.iload_n 1, 1) := by decide +kernel
theorem dX6_here_1 : decode cX6_here 1 = .ok (.ifCond .lt 20, 3) := by decide +kernel
theorem dX6_here_4 : decode cX6_here 4 = .ok (.iload_n 1, 1) := by decide +kernel
theorem dX6_here_5 : decode cX6_here 5 = .ok (.aload_n 0, 1) := by decide +kernel
theorem dX6_here_6 : decode cX6_here 6 = .ok (.getfield 15, 3) := by decide +kernel
theorem dX6_here_9 : decode cX6_here 9 = .ok (.if_icmp .ge 12, 3) := by decide +kernel
theorem dX6_here_12 : decode cX6_here 12 = .ok (.aload_n 0, 1) := by decide +kernel
theorem dX6_here_13 : decode cX6_here 13 = .ok (.getfield 9, 3) := by decide +kernel
theorem dX6_here_16 : decode cX6_here 16 = .ok (.iload_n 1, 1) := by decide +kernel
theorem dX6_here_17 : decode cX6_here 17 = .ok (.iaload, 1) := by decide +kernel
theorem dX6_here_18 : decode cX6_here 18 = .ok (.goto 4, 3) := by decide +kernel
theorem dX6_here_21 : decode cX6_here 21 = .ok (.iconst (-1), 1) := by decide +kernel
theorem dX6_here_22 : decode cX6_here 22 = .ok (.ireturn, 1) := by decide +kernel
theorem dX6_init_0 : decode cX6_init 0 = .ok (.aload_n 0, 1) := by decide +kernel
theorem dX6_init_1 : decode cX6_init 1 = .ok (.invokespecial 3, 3) := by decide +kernel
theorem dX6_init_4 : decode cX6_init 4 = .ok (.aload_n 0, 1) := by decide +kernel
theorem dX6_init_5 : decode cX6_init 5 = .ok (.sipush 400, 3) := by decide +kernel
theorem dX6_init_8 : decode cX6_init 8 = .ok (.newarray .int, 2) := by decide +kernel
theorem dX6_init_10 : decode cX6_init 10 = .ok (.putfield 9, 3) := by decide +kernel
theorem dX6_init_13 : decode cX6_init 13 = .ok (.aload_n 0, 1) := by decide +kernel
theorem dX6_init_14 : decode cX6_init 14 = .ok (.iconst 0, 1) := by decide +kernel
theorem dX6_init_15 : decode cX6_init 15 = .ok (.putfield 15, 3) := by decide +kernel
theorem dX6_init_18 : decode cX6_init 18 = .ok (.aload_n 0, 1) := by decide +kernel
theorem dX6_init_19 : decode cX6_init 19 = .ok (.new 19, 3) := by decide +kernel
theorem dX6_init_22 : decode cX6_init 22 = .ok (.dup, 1) := by decide +kernel
theorem dX6_init_23 : decode cX6_init 23 = .ok (.bipush 6, 2) := by decide +kernel
theorem dX6_init_25 : decode cX6_init 25 = .ok (.bipush 24, 2) := by decide +kernel
theorem dX6_init_27 : decode cX6_init 27 = .ok (.invokespecial 21, 3) := by decide +kernel
theorem dX6_init_30 : decode cX6_init 30 = .ok (.putfield 24, 3) := by decide +kernel
theorem dX6_init_33 : decode cX6_init 33 = .ok (.aload_n 0, 1) := by decide +kernel
theorem dX6_init_34 : decode cX6_init 34 = .ok (.iconst 0, 1) := by decide +kernel
theorem dX6_init_35 : decode cX6_init 35 = .ok (.putfield 28, 3) := by decide +kernel
theorem dX6_init_38 : decode cX6_init 38 = .ok (.aload_n 0, 1) := by decide +kernel
theorem dX6_init_39 : decode cX6_init 39 = .ok (.iconst 0, 1) := by decide +kernel
theorem dX6_init_40 : decode cX6_init 40 = .ok (.putfield 31, 3) := by decide +kernel
theorem dX6_init_43 : decode cX6_init 43 = .ok (.aload_n 0, 1) := by decide +kernel
theorem dX6_init_44 : decode cX6_init 44 = .ok (.iconst (-1), 1) := by decide +kernel
theorem dX6_init_45 : decode cX6_init 45 = .ok (.putfield 34, 3) := by decide +kernel
theorem dX6_init_48 : decode cX6_init 48 = .ok (.return_, 1) := by decide +kernel
theorem dX6_isHere_0 : decode cX6_isHere 0 = .ok (.iconst 0, 1) := by decide +kernel
theorem dX6_isHere_1 : decode cX6_isHere 1 = .ok (.istore_n 2, 1) := by decide +kernel
theorem dX6_isHere_2 : decode cX6_isHere 2 = .ok (.iload_n 2, 1) := by decide +kernel
theorem dX6_isHere_3 : decode cX6_isHere 3 = .ok (.aload_n 1, 1) := by decide +kernel
theorem dX6_isHere_4 : decode cX6_isHere 4 = .ok (.invokevirtual 65, 3) := by decide +kernel
theorem dX6_isHere_7 : decode cX6_isHere 7 = .ok (.if_icmp .ge 29, 3) := by decide +kernel
theorem dX6_isHere_10 : decode cX6_isHere 10 = .ok (.aload_n 0, 1) := by decide +kernel
theorem dX6_isHere_11 : decode cX6_isHere 11 = .ok (.aload_n 0, 1) := by decide +kernel
theorem dX6_isHere_12 : decode cX6_isHere 12 = .ok (.getfield 28, 3) := by decide +kernel
theorem dX6_isHere_15 : decode cX6_isHere 15 = .ok (.iload_n 2, 1) := by decide +kernel
theorem dX6_isHere_16 : decode cX6_isHere 16 = .ok (.iadd, 1) := by decide +kernel
theorem dX6_isHere_17 : decode cX6_isHere 17 = .ok (.invokevirtual 80, 3) := by decide +kernel
theorem dX6_isHere_20 : decode cX6_isHere 20 = .ok (.aload_n 1, 1) := by decide +kernel
theorem dX6_isHere_21 : decode cX6_isHere 21 = .ok (.iload_n 2, 1) := by decide +kernel
theorem dX6_isHere_22 : decode cX6_isHere 22 = .ok (.invokevirtual 72, 3) := by decide +kernel
theorem dX6_isHere_25 : decode cX6_isHere 25 = .ok (.if_icmp .eq 5, 3) := by decide +kernel
theorem dX6_isHere_28 : decode cX6_isHere 28 = .ok (.iconst 0, 1) := by decide +kernel
theorem dX6_isHere_29 : decode cX6_isHere 29 = .ok (.ireturn, 1) := by decide +kernel
theorem dX6_isHere_30 : decode cX6_isHere 30 = .ok (.iinc 2 1, 3) := by decide +kernel
theorem dX6_isHere_33 : decode cX6_isHere 33 = .ok (.goto (-31), 3) := by decide +kernel
theorem dX6_isHere_36 : decode cX6_isHere 36 = .ok (.aload_n 0, 1) := by decide +kernel
theorem dX6_isHere_37 : decode cX6_isHere 37 = .ok (.aload_n 0, 1) := by decide +kernel
theorem dX6_isHere_38 : decode cX6_isHere 38 = .ok (.getfield 28, 3) := by decide +kernel
theorem dX6_isHere_41 : decode cX6_isHere 41 = .ok (.aload_n 1, 1) := by decide +kernel
theorem dX6_isHere_42 : decode cX6_isHere 42 = .ok (.invokevirtual 65, 3) := by decide +kernel
theorem dX6_isHere_45 : decode cX6_isHere 45 = .ok (.iadd, 1) := by decide +kernel
theorem dX6_isHere_46 : decode cX6_isHere 46 = .ok (.invokevirtual 80, 3) := by decide +kernel
theorem dX6_isHere_49 : decode cX6_isHere 49 = .ok (.invokestatic 99, 3) := by decide +kernel
theorem dX6_isHere_52 : decode cX6_isHere 52 = .ok (.ifCond .ne 7, 3) := by decide +kernel
theorem dX6_isHere_55 : decode cX6_isHere 55 = .ok (.iconst 1, 1) := by decide +kernel
theorem dX6_isHere_56 : decode cX6_isHere 56 = .ok (.goto 4, 3) := by decide +kernel
theorem dX6_isHere_59 : decode cX6_isHere 59 = .ok (.iconst 0, 1) := by decide +kernel
theorem dX6_isHere_60 : decode cX6_isHere 60 = .ok (.ireturn, 1) := by decide +kernel
theorem dX6_isLetter_0 : decode cX6_isLetter 0 = .ok (.iload_n 0, 1) := by decide +kernel
theorem dX6_isLetter_1 : decode cX6_isLetter 1 = .ok (.bipush 97, 2) := by decide +kernel
theorem dX6_isLetter_3 : decode cX6_isLetter 3 = .ok (.bipush 122, 2) := by decide +kernel
theorem dX6_isLetter_5 : decode cX6_isLetter 5 = .ok (.invokestatic 84, 3) := by decide +kernel
theorem dX6_isLetter_8 : decode cX6_isLetter 8 = .ok (.ifCond .ne 14, 3) := by decide +kernel
theorem dX6_isLetter_11 : decode cX6_isLetter 11 = .ok (.iload_n 0, 1) := by decide +kernel
theorem dX6_isLetter_12 : decode cX6_isLetter 12 = .ok (.bipush 65, 2) := by decide +kernel
theorem dX6_isLetter_14 : decode cX6_isLetter 14 = .ok (.bipush 90, 2) := by decide +kernel
theorem dX6_isLetter_16 : decode cX6_isLetter 16 = .ok (.invokestatic 84, 3) := by decide +kernel
theorem dX6_isLetter_19 : decode cX6_isLetter 19 = .ok (.ifCond .eq 7, 3) := by decide +kernel
theorem dX6_isLetter_22 : decode cX6_isLetter 22 = .ok (.iconst 1, 1) := by decide +kernel
theorem dX6_isLetter_23 : decode cX6_isLetter 23 = .ok (.goto 4, 3) := by decide +kernel
theorem dX6_isLetter_26 : decode cX6_isLetter 26 = .ok (.iconst 0, 1) := by decide +kernel
theorem dX6_isLetter_27 : decode cX6_isLetter 27 = .ok (.ireturn, 1) := by decide +kernel
theorem dX6_leastOf_0 : decode cX6_leastOf 0 = .ok (.iload_n 0, 1) := by decide +kernel
theorem dX6_leastOf_1 : decode cX6_leastOf 1 = .ok (.bipush 78, 2) := by decide +kernel
theorem dX6_leastOf_3 : decode cX6_leastOf 3 = .ok (.if_icmp .eq 15, 3) := by decide +kernel
theorem dX6_leastOf_6 : decode cX6_leastOf 6 = .ok (.iload_n 0, 1) := by decide +kernel
theorem dX6_leastOf_7 : decode cX6_leastOf 7 = .ok (.bipush 80, 2) := by decide +kernel
theorem dX6_leastOf_9 : decode cX6_leastOf 9 = .ok (.if_icmp .eq 9, 3) := by decide +kernel
theorem dX6_leastOf_12 : decode cX6_leastOf 12 = .ok (.iload_n 0, 1) := by decide +kernel
theorem dX6_leastOf_13 : decode cX6_leastOf 13 = .ok (.bipush 75, 2) := by decide +kernel
theorem dX6_leastOf_15 : decode cX6_leastOf 15 = .ok (.if_icmp .ne 7, 3) := by decide +kernel
theorem dX6_leastOf_18 : decode cX6_leastOf 18 = .ok (.iconst 1, 1) := by decide +kernel
theorem dX6_leastOf_19 : decode cX6_leastOf 19 = .ok (.goto 4, 3) := by decide +kernel
theorem dX6_leastOf_22 : decode cX6_leastOf 22 = .ok (.iconst 0, 1) := by decide +kernel
theorem dX6_leastOf_23 : decode cX6_leastOf 23 = .ok (.ireturn, 1) := by decide +kernel
theorem dX6_mostOf_0 : decode cX6_mostOf 0 = .ok (.iload_n 0, 1) := by decide +kernel
theorem dX6_mostOf_1 : decode cX6_mostOf 1 = .ok (.tableswitch 78 73 84 #[66, 78, 75, 78, 63, 78, 78, 78, 78, 68, 78, 71], 63) := by decide +kernel
theorem dX6_mostOf_64 : decode cX6_mostOf 64 = .ok (.bipush 11, 2) := by decide +kernel
theorem dX6_mostOf_66 : decode cX6_mostOf 66 = .ok (.ireturn, 1) := by decide +kernel
theorem dX6_mostOf_67 : decode cX6_mostOf 67 = .ok (.iconst 5, 1) := by decide +kernel
theorem dX6_mostOf_68 : decode cX6_mostOf 68 = .ok (.ireturn, 1) := by decide +kernel
theorem dX6_mostOf_69 : decode cX6_mostOf 69 = .ok (.bipush 9, 2) := by decide +kernel
theorem dX6_mostOf_71 : decode cX6_mostOf 71 = .ok (.ireturn, 1) := by decide +kernel
theorem dX6_mostOf_72 : decode cX6_mostOf 72 = .ok (.sipush 199, 3) := by decide +kernel
theorem dX6_mostOf_75 : decode cX6_mostOf 75 = .ok (.ireturn, 1) := by decide +kernel
theorem dX6_mostOf_76 : decode cX6_mostOf 76 = .ok (.bipush 20, 2) := by decide +kernel
theorem dX6_mostOf_78 : decode cX6_mostOf 78 = .ok (.ireturn, 1) := by decide +kernel
theorem dX6_mostOf_79 : decode cX6_mostOf 79 = .ok (.sipush 9999, 3) := by decide +kernel
theorem dX6_mostOf_82 : decode cX6_mostOf 82 = .ok (.ireturn, 1) := by decide +kernel
theorem dX6_read_0 : decode cX6_read 0 = .ok (.aload_n 0, 1) := by decide +kernel
theorem dX6_read_1 : decode cX6_read 1 = .ok (.getfield 24, 3) := by decide +kernel
theorem dX6_read_4 : decode cX6_read 4 = .ok (.invokevirtual 37, 3) := by decide +kernel
theorem dX6_read_7 : decode cX6_read 7 = .ok (.aload_n 0, 1) := by decide +kernel
theorem dX6_read_8 : decode cX6_read 8 = .ok (.iconst 0, 1) := by decide +kernel
theorem dX6_read_9 : decode cX6_read 9 = .ok (.putfield 28, 3) := by decide +kernel
theorem dX6_read_12 : decode cX6_read 12 = .ok (.aload_n 0, 1) := by decide +kernel
theorem dX6_read_13 : decode cX6_read 13 = .ok (.iconst 0, 1) := by decide +kernel
theorem dX6_read_14 : decode cX6_read 14 = .ok (.putfield 31, 3) := by decide +kernel
theorem dX6_read_17 : decode cX6_read 17 = .ok (.aload_n 0, 1) := by decide +kernel
theorem dX6_read_18 : decode cX6_read 18 = .ok (.iconst (-1), 1) := by decide +kernel
theorem dX6_read_19 : decode cX6_read 19 = .ok (.putfield 34, 3) := by decide +kernel
theorem dX6_read_22 : decode cX6_read 22 = .ok (.aload_n 0, 1) := by decide +kernel
theorem dX6_read_23 : decode cX6_read 23 = .ok (.invokevirtual 40, 3) := by decide +kernel
theorem dX6_read_26 : decode cX6_read 26 = .ok (.iconst 0, 1) := by decide +kernel
theorem dX6_read_27 : decode cX6_read 27 = .ok (.istore_n 1, 1) := by decide +kernel
theorem dX6_read_28 : decode cX6_read 28 = .ok (.iload_n 1, 1) := by decide +kernel
theorem dX6_read_29 : decode cX6_read 29 = .ok (.bipush 24, 2) := by decide +kernel
theorem dX6_read_31 : decode cX6_read 31 = .ok (.if_icmp .gt 35, 3) := by decide +kernel
theorem dX6_read_34 : decode cX6_read 34 = .ok (.aload_n 0, 1) := by decide +kernel
theorem dX6_read_35 : decode cX6_read 35 = .ok (.getfield 28, 3) := by decide +kernel
theorem dX6_read_38 : decode cX6_read 38 = .ok (.aload_n 0, 1) := by decide +kernel
theorem dX6_read_39 : decode cX6_read 39 = .ok (.getfield 15, 3) := by decide +kernel
theorem dX6_read_42 : decode cX6_read 42 = .ok (.if_icmp .ge 24, 3) := by decide +kernel
theorem dX6_read_45 : decode cX6_read 45 = .ok (.aload_n 0, 1) := by decide +kernel
theorem dX6_read_46 : decode cX6_read 46 = .ok (.getfield 31, 3) := by decide +kernel
theorem dX6_read_49 : decode cX6_read 49 = .ok (.ifCond .ne 17, 3) := by decide +kernel
theorem dX6_read_52 : decode cX6_read 52 = .ok (.aload_n 0, 1) := by decide +kernel
theorem dX6_read_53 : decode cX6_read 53 = .ok (.invokevirtual 43, 3) := by decide +kernel
theorem dX6_read_56 : decode cX6_read 56 = .ok (.aload_n 0, 1) := by decide +kernel
theorem dX6_read_57 : decode cX6_read 57 = .ok (.invokevirtual 40, 3) := by decide +kernel
theorem dX6_read_60 : decode cX6_read 60 = .ok (.iinc 1 1, 3) := by decide +kernel
theorem dX6_read_63 : decode cX6_read 63 = .ok (.goto (-35), 3) := by decide +kernel
theorem dX6_read_66 : decode cX6_read 66 = .ok (.aload_n 0, 1) := by decide +kernel
theorem dX6_read_67 : decode cX6_read 67 = .ok (.iconst 0, 1) := by decide +kernel
theorem dX6_read_68 : decode cX6_read 68 = .ok (.putfield 15, 3) := by decide +kernel
theorem dX6_read_71 : decode cX6_read 71 = .ok (.aload_n 0, 1) := by decide +kernel
theorem dX6_read_72 : decode cX6_read 72 = .ok (.getfield 31, 3) := by decide +kernel
theorem dX6_read_75 : decode cX6_read 75 = .ok (.ifCond .ne 7, 3) := by decide +kernel
theorem dX6_read_78 : decode cX6_read 78 = .ok (.iconst 1, 1) := by decide +kernel
theorem dX6_read_79 : decode cX6_read 79 = .ok (.goto 4, 3) := by decide +kernel
theorem dX6_read_82 : decode cX6_read 82 = .ok (.iconst 0, 1) := by decide +kernel
theorem dX6_read_83 : decode cX6_read 83 = .ok (.ireturn, 1) := by decide +kernel
theorem dX6_readLine_0 : decode cX6_readLine 0 = .ok (.aload_n 0, 1) := by decide +kernel
theorem dX6_readLine_1 : decode cX6_readLine 1 = .ok (.invokevirtual 46, 3) := by decide +kernel
theorem dX6_readLine_4 : decode cX6_readLine 4 = .ok (.istore_n 1, 1) := by decide +kernel
theorem dX6_readLine_5 : decode cX6_readLine 5 = .ok (.iload_n 1, 1) := by decide +kernel
theorem dX6_readLine_6 : decode cX6_readLine 6 = .ok (.iconst (-1), 1) := by decide +kernel
theorem dX6_readLine_7 : decode cX6_readLine 7 = .ok (.if_icmp .ne 9, 3) := by decide +kernel
theorem dX6_readLine_10 : decode cX6_readLine 10 = .ok (.aload_n 0, 1) := by decide +kernel
theorem dX6_readLine_11 : decode cX6_readLine 11 = .ok (.iconst 1, 1) := by decide +kernel
theorem dX6_readLine_12 : decode cX6_readLine 12 = .ok (.invokevirtual 50, 3) := by decide +kernel
theorem dX6_readLine_15 : decode cX6_readLine 15 = .ok (.return_, 1) := by decide +kernel
theorem dX6_readLine_16 : decode cX6_readLine 16 = .ok (.aload_n 0, 1) := by decide +kernel
theorem dX6_readLine_17 : decode cX6_readLine 17 = .ok (.getfield 24, 3) := by decide +kernel
theorem dX6_readLine_20 : decode cX6_readLine 20 = .ok (.invokevirtual 54, 3) := by decide +kernel
theorem dX6_readLine_23 : decode cX6_readLine 23 = .ok (.istore_n 2, 1) := by decide +kernel
theorem dX6_readLine_24 : decode cX6_readLine 24 = .ok (.iload_n 2, 1) := by decide +kernel
theorem dX6_readLine_25 : decode cX6_readLine 25 = .ok (.iconst (-1), 1) := by decide +kernel
theorem dX6_readLine_26 : decode cX6_readLine 26 = .ok (.if_icmp .ne 9, 3) := by decide +kernel
theorem dX6_readLine_29 : decode cX6_readLine 29 = .ok (.aload_n 0, 1) := by decide +kernel
theorem dX6_readLine_30 : decode cX6_readLine 30 = .ok (.iconst 3, 1) := by decide +kernel
theorem dX6_readLine_31 : decode cX6_readLine 31 = .ok (.invokevirtual 50, 3) := by decide +kernel
theorem dX6_readLine_34 : decode cX6_readLine 34 = .ok (.return_, 1) := by decide +kernel
theorem dX6_readLine_35 : decode cX6_readLine 35 = .ok (.aload_n 0, 1) := by decide +kernel
theorem dX6_readLine_36 : decode cX6_readLine 36 = .ok (.getfield 24, 3) := by decide +kernel
theorem dX6_readLine_39 : decode cX6_readLine 39 = .ok (.iconst 0, 1) := by decide +kernel
theorem dX6_readLine_40 : decode cX6_readLine 40 = .ok (.iload_n 2, 1) := by decide +kernel
theorem dX6_readLine_41 : decode cX6_readLine 41 = .ok (.iload_n 1, 1) := by decide +kernel
theorem dX6_readLine_42 : decode cX6_readLine 42 = .ok (.invokevirtual 57, 3) := by decide +kernel
theorem dX6_readLine_45 : decode cX6_readLine 45 = .ok (.aload_n 0, 1) := by decide +kernel
theorem dX6_readLine_46 : decode cX6_readLine 46 = .ok (.dup, 1) := by decide +kernel
theorem dX6_readLine_47 : decode cX6_readLine 47 = .ok (.getfield 28, 3) := by decide +kernel
theorem dX6_readLine_50 : decode cX6_readLine 50 = .ok (.iload_n 1, 1) := by decide +kernel
theorem dX6_readLine_51 : decode cX6_readLine 51 = .ok (.invokestatic 61, 3) := by decide +kernel
theorem dX6_readLine_54 : decode cX6_readLine 54 = .ok (.invokevirtual 65, 3) := by decide +kernel
theorem dX6_readLine_57 : decode cX6_readLine 57 = .ok (.iadd, 1) := by decide +kernel
theorem dX6_readLine_58 : decode cX6_readLine 58 = .ok (.putfield 28, 3) := by decide +kernel
theorem dX6_readLine_61 : decode cX6_readLine 61 = .ok (.iload_n 1, 1) := by decide +kernel
theorem dX6_readLine_62 : decode cX6_readLine 62 = .ok (.invokestatic 69, 3) := by decide +kernel
theorem dX6_readLine_65 : decode cX6_readLine 65 = .ok (.astore_n 3, 1) := by decide +kernel
theorem dX6_readLine_66 : decode cX6_readLine 66 = .ok (.iconst 0, 1) := by decide +kernel
theorem dX6_readLine_67 : decode cX6_readLine 67 = .ok (.istore 4, 2) := by decide +kernel
theorem dX6_readLine_69 : decode cX6_readLine 69 = .ok (.iload 4, 2) := by decide +kernel
theorem dX6_readLine_71 : decode cX6_readLine 71 = .ok (.aload_n 3, 1) := by decide +kernel
theorem dX6_readLine_72 : decode cX6_readLine 72 = .ok (.invokevirtual 65, 3) := by decide +kernel
theorem dX6_readLine_75 : decode cX6_readLine 75 = .ok (.if_icmp .ge 31, 3) := by decide +kernel
theorem dX6_readLine_78 : decode cX6_readLine 78 = .ok (.aload_n 0, 1) := by decide +kernel
theorem dX6_readLine_79 : decode cX6_readLine 79 = .ok (.getfield 31, 3) := by decide +kernel
theorem dX6_readLine_82 : decode cX6_readLine 82 = .ok (.ifCond .ne 24, 3) := by decide +kernel
theorem dX6_readLine_85 : decode cX6_readLine 85 = .ok (.aload_n 0, 1) := by decide +kernel
theorem dX6_readLine_86 : decode cX6_readLine 86 = .ok (.iload_n 2, 1) := by decide +kernel
theorem dX6_readLine_87 : decode cX6_readLine 87 = .ok (.iload 4, 2) := by decide +kernel
theorem dX6_readLine_89 : decode cX6_readLine 89 = .ok (.iconst 1, 1) := by decide +kernel
theorem dX6_readLine_90 : decode cX6_readLine 90 = .ok (.iadd, 1) := by decide +kernel
theorem dX6_readLine_91 : decode cX6_readLine 91 = .ok (.aload_n 3, 1) := by decide +kernel
theorem dX6_readLine_92 : decode cX6_readLine 92 = .ok (.iload 4, 2) := by decide +kernel
theorem dX6_readLine_94 : decode cX6_readLine 94 = .ok (.invokevirtual 72, 3) := by decide +kernel
theorem dX6_readLine_97 : decode cX6_readLine 97 = .ok (.invokevirtual 76, 3) := by decide +kernel
theorem dX6_readLine_100 : decode cX6_readLine 100 = .ok (.iinc 4 1, 3) := by decide +kernel
theorem dX6_readLine_103 : decode cX6_readLine 103 = .ok (.goto (-34), 3) := by decide +kernel
theorem dX6_readLine_106 : decode cX6_readLine 106 = .ok (.aload_n 0, 1) := by decide +kernel
theorem dX6_readLine_107 : decode cX6_readLine 107 = .ok (.invokevirtual 40, 3) := by decide +kernel
theorem dX6_readLine_110 : decode cX6_readLine 110 = .ok (.aload_n 0, 1) := by decide +kernel
theorem dX6_readLine_111 : decode cX6_readLine 111 = .ok (.getfield 31, 3) := by decide +kernel
theorem dX6_readLine_114 : decode cX6_readLine 114 = .ok (.ifCond .ne 21, 3) := by decide +kernel
theorem dX6_readLine_117 : decode cX6_readLine 117 = .ok (.aload_n 0, 1) := by decide +kernel
theorem dX6_readLine_118 : decode cX6_readLine 118 = .ok (.aload_n 0, 1) := by decide +kernel
theorem dX6_readLine_119 : decode cX6_readLine 119 = .ok (.getfield 28, 3) := by decide +kernel
theorem dX6_readLine_122 : decode cX6_readLine 122 = .ok (.invokevirtual 80, 3) := by decide +kernel
theorem dX6_readLine_125 : decode cX6_readLine 125 = .ok (.bipush 59, 2) := by decide +kernel
theorem dX6_readLine_127 : decode cX6_readLine 127 = .ok (.if_icmp .eq 8, 3) := by decide +kernel
theorem dX6_readLine_130 : decode cX6_readLine 130 = .ok (.aload_n 0, 1) := by decide +kernel
theorem dX6_readLine_131 : decode cX6_readLine 131 = .ok (.iconst 1, 1) := by decide +kernel
theorem dX6_readLine_132 : decode cX6_readLine 132 = .ok (.invokevirtual 50, 3) := by decide +kernel
theorem dX6_readLine_135 : decode cX6_readLine 135 = .ok (.aload_n 0, 1) := by decide +kernel
theorem dX6_readLine_136 : decode cX6_readLine 136 = .ok (.dup, 1) := by decide +kernel
theorem dX6_readLine_137 : decode cX6_readLine 137 = .ok (.getfield 28, 3) := by decide +kernel
theorem dX6_readLine_140 : decode cX6_readLine 140 = .ok (.iconst 1, 1) := by decide +kernel
theorem dX6_readLine_141 : decode cX6_readLine 141 = .ok (.iadd, 1) := by decide +kernel
theorem dX6_readLine_142 : decode cX6_readLine 142 = .ok (.putfield 28, 3) := by decide +kernel
theorem dX6_readLine_145 : decode cX6_readLine 145 = .ok (.return_, 1) := by decide +kernel
theorem dX6_readNumber_0 : decode cX6_readNumber 0 = .ok (.aload_n 0, 1) := by decide +kernel
theorem dX6_readNumber_1 : decode cX6_readNumber 1 = .ok (.invokevirtual 40, 3) := by decide +kernel
theorem dX6_readNumber_4 : decode cX6_readNumber 4 = .ok (.aload_n 0, 1) := by decide +kernel
theorem dX6_readNumber_5 : decode cX6_readNumber 5 = .ok (.getfield 28, 3) := by decide +kernel
theorem dX6_readNumber_8 : decode cX6_readNumber 8 = .ok (.istore 4, 2) := by decide +kernel
theorem dX6_readNumber_10 : decode cX6_readNumber 10 = .ok (.iconst 0, 1) := by decide +kernel
theorem dX6_readNumber_11 : decode cX6_readNumber 11 = .ok (.istore 5, 2) := by decide +kernel
theorem dX6_readNumber_13 : decode cX6_readNumber 13 = .ok (.iload 4, 2) := by decide +kernel
theorem dX6_readNumber_15 : decode cX6_readNumber 15 = .ok (.aload_n 0, 1) := by decide +kernel
theorem dX6_readNumber_16 : decode cX6_readNumber 16 = .ok (.getfield 15, 3) := by decide +kernel
theorem dX6_readNumber_19 : decode cX6_readNumber 19 = .ok (.if_icmp .ge 60, 3) := by decide +kernel
theorem dX6_readNumber_22 : decode cX6_readNumber 22 = .ok (.aload_n 0, 1) := by decide +kernel
theorem dX6_readNumber_23 : decode cX6_readNumber 23 = .ok (.getfield 9, 3) := by decide +kernel
theorem dX6_readNumber_26 : decode cX6_readNumber 26 = .ok (.iload 4, 2) := by decide +kernel
theorem dX6_readNumber_28 : decode cX6_readNumber 28 = .ok (.iaload, 1) := by decide +kernel
theorem dX6_readNumber_29 : decode cX6_readNumber 29 = .ok (.bipush 48, 2) := by decide +kernel
theorem dX6_readNumber_31 : decode cX6_readNumber 31 = .ok (.bipush 57, 2) := by decide +kernel
theorem dX6_readNumber_33 : decode cX6_readNumber 33 = .ok (.invokestatic 84, 3) := by decide +kernel
theorem dX6_readNumber_36 : decode cX6_readNumber 36 = .ok (.ifCond .eq 43, 3) := by decide +kernel
theorem dX6_readNumber_39 : decode cX6_readNumber 39 = .ok (.iload 4, 2) := by decide +kernel
theorem dX6_readNumber_41 : decode cX6_readNumber 41 = .ok (.aload_n 0, 1) := by decide +kernel
theorem dX6_readNumber_42 : decode cX6_readNumber 42 = .ok (.getfield 28, 3) := by decide +kernel
theorem dX6_readNumber_45 : decode cX6_readNumber 45 = .ok (.isub, 1) := by decide +kernel
theorem dX6_readNumber_46 : decode cX6_readNumber 46 = .ok (.iconst 4, 1) := by decide +kernel
theorem dX6_readNumber_47 : decode cX6_readNumber 47 = .ok (.if_icmp .ge 22, 3) := by decide +kernel
theorem dX6_readNumber_50 : decode cX6_readNumber 50 = .ok (.iload 5, 2) := by decide +kernel
theorem dX6_readNumber_52 : decode cX6_readNumber 52 = .ok (.bipush 10, 2) := by decide +kernel
theorem dX6_readNumber_54 : decode cX6_readNumber 54 = .ok (.imul, 1) := by decide +kernel
theorem dX6_readNumber_55 : decode cX6_readNumber 55 = .ok (.aload_n 0, 1) := by decide +kernel
theorem dX6_readNumber_56 : decode cX6_readNumber 56 = .ok (.getfield 9, 3) := by decide +kernel
theorem dX6_readNumber_59 : decode cX6_readNumber 59 = .ok (.iload 4, 2) := by decide +kernel
theorem dX6_readNumber_61 : decode cX6_readNumber 61 = .ok (.iaload, 1) := by decide +kernel
theorem dX6_readNumber_62 : decode cX6_readNumber 62 = .ok (.iadd, 1) := by decide +kernel
theorem dX6_readNumber_63 : decode cX6_readNumber 63 = .ok (.bipush 48, 2) := by decide +kernel
theorem dX6_readNumber_65 : decode cX6_readNumber 65 = .ok (.isub, 1) := by decide +kernel
theorem dX6_readNumber_66 : decode cX6_readNumber 66 = .ok (.goto 5, 3) := by decide +kernel
theorem dX6_readNumber_69 : decode cX6_readNumber 69 = .ok (.iload 5, 2) := by decide +kernel
theorem dX6_readNumber_71 : decode cX6_readNumber 71 = .ok (.istore 5, 2) := by decide +kernel
theorem dX6_readNumber_73 : decode cX6_readNumber 73 = .ok (.iinc 4 1, 3) := by decide +kernel
theorem dX6_readNumber_76 : decode cX6_readNumber 76 = .ok (.goto (-63), 3) := by decide +kernel
theorem dX6_readNumber_79 : decode cX6_readNumber 79 = .ok (.iload 4, 2) := by decide +kernel
theorem dX6_readNumber_81 : decode cX6_readNumber 81 = .ok (.aload_n 0, 1) := by decide +kernel
theorem dX6_readNumber_82 : decode cX6_readNumber 82 = .ok (.getfield 28, 3) := by decide +kernel
theorem dX6_readNumber_85 : decode cX6_readNumber 85 = .ok (.if_icmp .eq 14, 3) := by decide +kernel
theorem dX6_readNumber_88 : decode cX6_readNumber 88 = .ok (.iload 4, 2) := by decide +kernel
theorem dX6_readNumber_90 : decode cX6_readNumber 90 = .ok (.aload_n 0, 1) := by decide +kernel
theorem dX6_readNumber_91 : decode cX6_readNumber 91 = .ok (.getfield 28, 3) := by decide +kernel
theorem dX6_readNumber_94 : decode cX6_readNumber 94 = .ok (.isub, 1) := by decide +kernel
theorem dX6_readNumber_95 : decode cX6_readNumber 95 = .ok (.iconst 4, 1) := by decide +kernel
theorem dX6_readNumber_96 : decode cX6_readNumber 96 = .ok (.if_icmp .le 11, 3) := by decide +kernel
theorem dX6_readNumber_99 : decode cX6_readNumber 99 = .ok (.aload_n 0, 1) := by decide +kernel
theorem dX6_readNumber_100 : decode cX6_readNumber 100 = .ok (.iconst 1, 1) := by decide +kernel
theorem dX6_readNumber_101 : decode cX6_readNumber 101 = .ok (.invokevirtual 50, 3) := by decide +kernel
theorem dX6_readNumber_104 : decode cX6_readNumber 104 = .ok (.goto 24, 3) := by decide +kernel
theorem dX6_readNumber_107 : decode cX6_readNumber 107 = .ok (.iload 5, 2) := by decide +kernel
theorem dX6_readNumber_109 : decode cX6_readNumber 109 = .ok (.iload_n 3, 1) := by decide +kernel
theorem dX6_readNumber_110 : decode cX6_readNumber 110 = .ok (.invokestatic 88, 3) := by decide +kernel
theorem dX6_readNumber_113 : decode cX6_readNumber 113 = .ok (.iload_n 3, 1) := by decide +kernel
theorem dX6_readNumber_114 : decode cX6_readNumber 114 = .ok (.invokestatic 92, 3) := by decide +kernel
theorem dX6_readNumber_117 : decode cX6_readNumber 117 = .ok (.invokestatic 84, 3) := by decide +kernel
theorem dX6_readNumber_120 : decode cX6_readNumber 120 = .ok (.ifCond .ne 8, 3) := by decide +kernel
theorem dX6_readNumber_123 : decode cX6_readNumber 123 = .ok (.aload_n 0, 1) := by decide +kernel
theorem dX6_readNumber_124 : decode cX6_readNumber 124 = .ok (.iconst 2, 1) := by decide +kernel
theorem dX6_readNumber_125 : decode cX6_readNumber 125 = .ok (.invokevirtual 50, 3) := by decide +kernel
theorem dX6_readNumber_128 : decode cX6_readNumber 128 = .ok (.aload_n 0, 1) := by decide +kernel
theorem dX6_readNumber_129 : decode cX6_readNumber 129 = .ok (.getfield 24, 3) := by decide +kernel
theorem dX6_readNumber_132 : decode cX6_readNumber 132 = .ok (.iload_n 2, 1) := by decide +kernel
theorem dX6_readNumber_133 : decode cX6_readNumber 133 = .ok (.iload_n 1, 1) := by decide +kernel
theorem dX6_readNumber_134 : decode cX6_readNumber 134 = .ok (.iload 5, 2) := by decide +kernel
theorem dX6_readNumber_136 : decode cX6_readNumber 136 = .ok (.invokevirtual 57, 3) := by decide +kernel
theorem dX6_readNumber_139 : decode cX6_readNumber 139 = .ok (.aload_n 0, 1) := by decide +kernel
theorem dX6_readNumber_140 : decode cX6_readNumber 140 = .ok (.iload 4, 2) := by decide +kernel
theorem dX6_readNumber_142 : decode cX6_readNumber 142 = .ok (.putfield 28, 3) := by decide +kernel
theorem dX6_readNumber_145 : decode cX6_readNumber 145 = .ok (.return_, 1) := by decide +kernel
theorem dX6_shapeOf_0 : decode cX6_shapeOf 0 = .ok (.iload_n 0, 1) := by decide +kernel
theorem dX6_shapeOf_1 : decode cX6_shapeOf 1 = .ok (.tableswitch 69 0 8 #[51, 51, 54, 54, 54, 57, 60, 63, 66], 51) := by decide +kernel
theorem dX6_shapeOf_52 : decode cX6_shapeOf 52 = .ok (.ldc 123, 2) := by decide +kernel
theorem dX6_shapeOf_54 : decode cX6_shapeOf 54 = .ok (.areturn, 1) := by decide +kernel
theorem dX6_shapeOf_55 : decode cX6_shapeOf 55 = .ok (.ldc 125, 2) := by decide +kernel
theorem dX6_shapeOf_57 : decode cX6_shapeOf 57 = .ok (.areturn, 1) := by decide +kernel
theorem dX6_shapeOf_58 : decode cX6_shapeOf 58 = .ok (.ldc 127, 2) := by decide +kernel
theorem dX6_shapeOf_60 : decode cX6_shapeOf 60 = .ok (.areturn, 1) := by decide +kernel
theorem dX6_shapeOf_61 : decode cX6_shapeOf 61 = .ok (.ldc 129, 2) := by decide +kernel
theorem dX6_shapeOf_63 : decode cX6_shapeOf 63 = .ok (.areturn, 1) := by decide +kernel
theorem dX6_shapeOf_64 : decode cX6_shapeOf 64 = .ok (.ldc 131, 2) := by decide +kernel
theorem dX6_shapeOf_66 : decode cX6_shapeOf 66 = .ok (.areturn, 1) := by decide +kernel
theorem dX6_shapeOf_67 : decode cX6_shapeOf 67 = .ok (.ldc 133, 2) := by decide +kernel
theorem dX6_shapeOf_69 : decode cX6_shapeOf 69 = .ok (.areturn, 1) := by decide +kernel
theorem dX6_shapeOf_70 : decode cX6_shapeOf 70 = .ok (.ldc 135, 2) := by decide +kernel
theorem dX6_shapeOf_72 : decode cX6_shapeOf 72 = .ok (.areturn, 1) := by decide +kernel
theorem dX6_skipBlanks_0 : decode cX6_skipBlanks 0 = .ok (.aload_n 0, 1) := by decide +kernel
theorem dX6_skipBlanks_1 : decode cX6_skipBlanks 1 = .ok (.getfield 28, 3) := by decide +kernel
theorem dX6_skipBlanks_4 : decode cX6_skipBlanks 4 = .ok (.aload_n 0, 1) := by decide +kernel
theorem dX6_skipBlanks_5 : decode cX6_skipBlanks 5 = .ok (.getfield 15, 3) := by decide +kernel
theorem dX6_skipBlanks_8 : decode cX6_skipBlanks 8 = .ok (.if_icmp .ge 42, 3) := by decide +kernel
theorem dX6_skipBlanks_11 : decode cX6_skipBlanks 11 = .ok (.aload_n 0, 1) := by decide +kernel
theorem dX6_skipBlanks_12 : decode cX6_skipBlanks 12 = .ok (.aload_n 0, 1) := by decide +kernel
theorem dX6_skipBlanks_13 : decode cX6_skipBlanks 13 = .ok (.getfield 28, 3) := by decide +kernel
theorem dX6_skipBlanks_16 : decode cX6_skipBlanks 16 = .ok (.invokevirtual 80, 3) := by decide +kernel
theorem dX6_skipBlanks_19 : decode cX6_skipBlanks 19 = .ok (.bipush 32, 2) := by decide +kernel
theorem dX6_skipBlanks_21 : decode cX6_skipBlanks 21 = .ok (.if_icmp .eq 16, 3) := by decide +kernel
theorem dX6_skipBlanks_24 : decode cX6_skipBlanks 24 = .ok (.aload_n 0, 1) := by decide +kernel
theorem dX6_skipBlanks_25 : decode cX6_skipBlanks 25 = .ok (.aload_n 0, 1) := by decide +kernel
theorem dX6_skipBlanks_26 : decode cX6_skipBlanks 26 = .ok (.getfield 28, 3) := by decide +kernel
theorem dX6_skipBlanks_29 : decode cX6_skipBlanks 29 = .ok (.invokevirtual 80, 3) := by decide +kernel
theorem dX6_skipBlanks_32 : decode cX6_skipBlanks 32 = .ok (.bipush 10, 2) := by decide +kernel
theorem dX6_skipBlanks_34 : decode cX6_skipBlanks 34 = .ok (.if_icmp .ne 16, 3) := by decide +kernel
theorem dX6_skipBlanks_37 : decode cX6_skipBlanks 37 = .ok (.aload_n 0, 1) := by decide +kernel
theorem dX6_skipBlanks_38 : decode cX6_skipBlanks 38 = .ok (.dup, 1) := by decide +kernel
theorem dX6_skipBlanks_39 : decode cX6_skipBlanks 39 = .ok (.getfield 28, 3) := by decide +kernel
theorem dX6_skipBlanks_42 : decode cX6_skipBlanks 42 = .ok (.iconst 1, 1) := by decide +kernel
theorem dX6_skipBlanks_43 : decode cX6_skipBlanks 43 = .ok (.iadd, 1) := by decide +kernel
theorem dX6_skipBlanks_44 : decode cX6_skipBlanks 44 = .ok (.putfield 28, 3) := by decide +kernel
theorem dX6_skipBlanks_47 : decode cX6_skipBlanks 47 = .ok (.goto (-47), 3) := by decide +kernel
theorem dX6_skipBlanks_50 : decode cX6_skipBlanks 50 = .ok (.return_, 1) := by decide +kernel
theorem dX6_wordHere_0 : decode cX6_wordHere 0 = .ok (.iconst 0, 1) := by decide +kernel
theorem dX6_wordHere_1 : decode cX6_wordHere 1 = .ok (.istore_n 1, 1) := by decide +kernel
theorem dX6_wordHere_2 : decode cX6_wordHere 2 = .ok (.iload_n 1, 1) := by decide +kernel
theorem dX6_wordHere_3 : decode cX6_wordHere 3 = .ok (.bipush 10, 2) := by decide +kernel
theorem dX6_wordHere_5 : decode cX6_wordHere 5 = .ok (.if_icmp .ge 22, 3) := by decide +kernel
theorem dX6_wordHere_8 : decode cX6_wordHere 8 = .ok (.aload_n 0, 1) := by decide +kernel
theorem dX6_wordHere_9 : decode cX6_wordHere 9 = .ok (.iload_n 1, 1) := by decide +kernel
theorem dX6_wordHere_10 : decode cX6_wordHere 10 = .ok (.invokestatic 61, 3) := by decide +kernel
theorem dX6_wordHere_13 : decode cX6_wordHere 13 = .ok (.invokevirtual 95, 3) := by decide +kernel
theorem dX6_wordHere_16 : decode cX6_wordHere 16 = .ok (.ifCond .eq 5, 3) := by decide +kernel
theorem dX6_wordHere_19 : decode cX6_wordHere 19 = .ok (.iload_n 1, 1) := by decide +kernel
theorem dX6_wordHere_20 : decode cX6_wordHere 20 = .ok (.ireturn, 1) := by decide +kernel
theorem dX6_wordHere_21 : decode cX6_wordHere 21 = .ok (.iinc 1 1, 3) := by decide +kernel
theorem dX6_wordHere_24 : decode cX6_wordHere 24 = .ok (.goto (-22), 3) := by decide +kernel
theorem dX6_wordHere_27 : decode cX6_wordHere 27 = .ok (.iconst (-1), 1) := by decide +kernel
theorem dX6_wordHere_28 : decode cX6_wordHere 28 = .ok (.ireturn, 1) := by decide +kernel
theorem dX6_wordOf_0 : decode cX6_wordOf 0 = .ok (.iload_n 0, 1) := by decide +kernel
theorem dX6_wordOf_1 : decode cX6_wordOf 1 = .ok (.tableswitch 78 0 8 #[51, 54, 57, 60, 63, 66, 69, 72, 75], 51) := by decide +kernel
theorem dX6_wordOf_52 : decode cX6_wordOf 52 = .ok (.ldc 103, 2) := by decide +kernel
theorem dX6_wordOf_54 : decode cX6_wordOf 54 = .ok (.areturn, 1) := by decide +kernel
theorem dX6_wordOf_55 : decode cX6_wordOf 55 = .ok (.ldc 105, 2) := by decide +kernel
theorem dX6_wordOf_57 : decode cX6_wordOf 57 = .ok (.areturn, 1) := by decide +kernel
theorem dX6_wordOf_58 : decode cX6_wordOf 58 = .ok (.ldc 107, 2) := by decide +kernel
theorem dX6_wordOf_60 : decode cX6_wordOf 60 = .ok (.areturn, 1) := by decide +kernel
theorem dX6_wordOf_61 : decode cX6_wordOf 61 = .ok (.ldc 109, 2) := by decide +kernel
theorem dX6_wordOf_63 : decode cX6_wordOf 63 = .ok (.areturn, 1) := by decide +kernel
theorem dX6_wordOf_64 : decode cX6_wordOf 64 = .ok (.ldc 111, 2) := by decide +kernel
theorem dX6_wordOf_66 : decode cX6_wordOf 66 = .ok (.areturn, 1) := by decide +kernel
theorem dX6_wordOf_67 : decode cX6_wordOf 67 = .ok (.ldc 113, 2) := by decide +kernel
theorem dX6_wordOf_69 : decode cX6_wordOf 69 = .ok (.areturn, 1) := by decide +kernel
theorem dX6_wordOf_70 : decode cX6_wordOf 70 = .ok (.ldc 115, 2) := by decide +kernel
theorem dX6_wordOf_72 : decode cX6_wordOf 72 = .ok (.areturn, 1) := by decide +kernel
theorem dX6_wordOf_73 : decode cX6_wordOf 73 = .ok (.ldc 117, 2) := by decide +kernel
theorem dX6_wordOf_75 : decode cX6_wordOf 75 = .ok (.areturn, 1) := by decide +kernel
theorem dX6_wordOf_76 : decode cX6_wordOf 76 = .ok (.ldc 119, 2) := by decide +kernel
theorem dX6_wordOf_78 : decode cX6_wordOf 78 = .ok (.areturn, 1) := by decide +kernel
theorem dX6_wordOf_79 : decode cX6_wordOf 79 = .ok (.ldc 121, 2) := by decide +kernel
theorem dX6_wordOf_81 : decode cX6_wordOf 81 = .ok (.areturn, 1) := by decide +kernel
theorem dX7_addRow_0 : decode cX7_addRow 0 = .ok (.aload_n 0, 1) := by decide +kernel
theorem dX7_addRow_1 : decode cX7_addRow 1 = .ok (.invokevirtual 23, 3) := by decide +kernel
theorem dX7_addRow_4 : decode cX7_addRow 4 = .ok (.ifCond .eq 5, 3) := by decide +kernel
theorem dX7_addRow_7 : decode cX7_addRow 7 = .ok (.iconst (-1), 1) := by decide +kernel
theorem dX7_addRow_8 : decode cX7_addRow 8 = .ok (.ireturn, 1) := by decide +kernel
theorem dX7_addRow_9 : decode cX7_addRow 9 = .ok (.iconst 0, 1) := by decide +kernel
theorem dX7_addRow_10 : decode cX7_addRow 10 = .ok (.istore_n 1, 1) := by decide +kernel
theorem dX7_addRow_11 : decode cX7_addRow 11 = .ok (.iload_n 1, 1) := by decide +kernel
theorem dX7_addRow_12 : decode cX7_addRow 12 = .ok (.aload_n 0, 1) := by decide +kernel
theorem dX7_addRow_13 : decode cX7_addRow 13 = .ok (.getfield 11, 3) := by decide +kernel
theorem dX7_addRow_16 : decode cX7_addRow 16 = .ok (.arraylength, 1) := by decide +kernel
theorem dX7_addRow_17 : decode cX7_addRow 17 = .ok (.if_icmp .ge 21, 3) := by decide +kernel
theorem dX7_addRow_20 : decode cX7_addRow 20 = .ok (.aload_n 0, 1) := by decide +kernel
theorem dX7_addRow_21 : decode cX7_addRow 21 = .ok (.getfield 11, 3) := by decide +kernel
theorem dX7_addRow_24 : decode cX7_addRow 24 = .ok (.iload_n 1, 1) := by decide +kernel
theorem dX7_addRow_25 : decode cX7_addRow 25 = .ok (.aaload, 1) := by decide +kernel
theorem dX7_addRow_26 : decode cX7_addRow 26 = .ok (.aload_n 0, 1) := by decide +kernel
theorem dX7_addRow_27 : decode cX7_addRow 27 = .ok (.getfield 20, 3) := by decide +kernel
theorem dX7_addRow_30 : decode cX7_addRow 30 = .ok (.iconst 0, 1) := by decide +kernel
theorem dX7_addRow_31 : decode cX7_addRow 31 = .ok (.iastore, 1) := by decide +kernel
theorem dX7_addRow_32 : decode cX7_addRow 32 = .ok (.iinc 1 1, 3) := by decide +kernel
theorem dX7_addRow_35 : decode cX7_addRow 35 = .ok (.goto (-24), 3) := by decide +kernel
theorem dX7_addRow_38 : decode cX7_addRow 38 = .ok (.aload_n 0, 1) := by decide +kernel
theorem dX7_addRow_39 : decode cX7_addRow 39 = .ok (.dup, 1) := by decide +kernel
theorem dX7_addRow_40 : decode cX7_addRow 40 = .ok (.getfield 20, 3) := by decide +kernel
theorem dX7_addRow_43 : decode cX7_addRow 43 = .ok (.iconst 1, 1) := by decide +kernel
theorem dX7_addRow_44 : decode cX7_addRow 44 = .ok (.iadd, 1) := by decide +kernel
theorem dX7_addRow_45 : decode cX7_addRow 45 = .ok (.putfield 20, 3) := by decide +kernel
theorem dX7_addRow_48 : decode cX7_addRow 48 = .ok (.aload_n 0, 1) := by decide +kernel
theorem dX7_addRow_49 : decode cX7_addRow 49 = .ok (.getfield 20, 3) := by decide +kernel
theorem dX7_addRow_52 : decode cX7_addRow 52 = .ok (.iconst 1, 1) := by decide +kernel
theorem dX7_addRow_53 : decode cX7_addRow 53 = .ok (.isub, 1) := by decide +kernel
theorem dX7_addRow_54 : decode cX7_addRow 54 = .ok (.ireturn, 1) := by decide +kernel
theorem dX7_clear_0 : decode cX7_clear 0 = .ok (.aload_n 0, 1) := by decide +kernel
theorem dX7_clear_1 : decode cX7_clear 1 = .ok (.iconst 0, 1) := by decide +kernel
theorem dX7_clear_2 : decode cX7_clear 2 = .ok (.putfield 20, 3) := by decide +kernel
theorem dX7_clear_5 : decode cX7_clear 5 = .ok (.return_, 1) := by decide +kernel
theorem dX7_copyFrom_0 : decode cX7_copyFrom 0 = .ok (.aload_n 0, 1) := by decide +kernel
theorem dX7_copyFrom_1 : decode cX7_copyFrom 1 = .ok (.getfield 11, 3) := by decide +kernel
theorem dX7_copyFrom_4 : decode cX7_copyFrom 4 = .ok (.arraylength, 1) := by decide +kernel
theorem dX7_copyFrom_5 : decode cX7_copyFrom 5 = .ok (.aload_n 1, 1) := by decide +kernel
theorem dX7_copyFrom_6 : decode cX7_copyFrom 6 = .ok (.getfield 11, 3) := by decide +kernel
theorem dX7_copyFrom_9 : decode cX7_copyFrom 9 = .ok (.arraylength, 1) := by decide +kernel
theorem dX7_copyFrom_10 : decode cX7_copyFrom 10 = .ok (.invokestatic 27, 3) := by decide +kernel
theorem dX7_copyFrom_13 : decode cX7_copyFrom 13 = .ok (.istore_n 2, 1) := by decide +kernel
theorem dX7_copyFrom_14 : decode cX7_copyFrom 14 = .ok (.aload_n 0, 1) := by decide +kernel
theorem dX7_copyFrom_15 : decode cX7_copyFrom 15 = .ok (.aload_n 1, 1) := by decide +kernel
theorem dX7_copyFrom_16 : decode cX7_copyFrom 16 = .ok (.getfield 20, 3) := by decide +kernel
theorem dX7_copyFrom_19 : decode cX7_copyFrom 19 = .ok (.aload_n 0, 1) := by decide +kernel
theorem dX7_copyFrom_20 : decode cX7_copyFrom 20 = .ok (.getfield 16, 3) := by decide +kernel
theorem dX7_copyFrom_23 : decode cX7_copyFrom 23 = .ok (.invokestatic 27, 3) := by decide +kernel
theorem dX7_copyFrom_26 : decode cX7_copyFrom 26 = .ok (.putfield 20, 3) := by decide +kernel
theorem dX7_copyFrom_29 : decode cX7_copyFrom 29 = .ok (.iconst 0, 1) := by decide +kernel
theorem dX7_copyFrom_30 : decode cX7_copyFrom 30 = .ok (.istore_n 3, 1) := by decide +kernel
theorem dX7_copyFrom_31 : decode cX7_copyFrom 31 = .ok (.iload_n 3, 1) := by decide +kernel
theorem dX7_copyFrom_32 : decode cX7_copyFrom 32 = .ok (.iload_n 2, 1) := by decide +kernel
theorem dX7_copyFrom_33 : decode cX7_copyFrom 33 = .ok (.if_icmp .ge 30, 3) := by decide +kernel
theorem dX7_copyFrom_36 : decode cX7_copyFrom 36 = .ok (.aload_n 1, 1) := by decide +kernel
theorem dX7_copyFrom_37 : decode cX7_copyFrom 37 = .ok (.getfield 11, 3) := by decide +kernel
theorem dX7_copyFrom_40 : decode cX7_copyFrom 40 = .ok (.iload_n 3, 1) := by decide +kernel
theorem dX7_copyFrom_41 : decode cX7_copyFrom 41 = .ok (.aaload, 1) := by decide +kernel
theorem dX7_copyFrom_42 : decode cX7_copyFrom 42 = .ok (.iconst 0, 1) := by decide +kernel
theorem dX7_copyFrom_43 : decode cX7_copyFrom 43 = .ok (.aload_n 0, 1) := by decide +kernel
theorem dX7_copyFrom_44 : decode cX7_copyFrom 44 = .ok (.getfield 11, 3) := by decide +kernel
theorem dX7_copyFrom_47 : decode cX7_copyFrom 47 = .ok (.iload_n 3, 1) := by decide +kernel
theorem dX7_copyFrom_48 : decode cX7_copyFrom 48 = .ok (.aaload, 1) := by decide +kernel
theorem dX7_copyFrom_49 : decode cX7_copyFrom 49 = .ok (.iconst 0, 1) := by decide +kernel
theorem dX7_copyFrom_50 : decode cX7_copyFrom 50 = .ok (.aload_n 0, 1) := by decide +kernel
theorem dX7_copyFrom_51 : decode cX7_copyFrom 51 = .ok (.getfield 20, 3) := by decide +kernel
theorem dX7_copyFrom_54 : decode cX7_copyFrom 54 = .ok (.invokestatic 33, 3) := by decide +kernel
theorem dX7_copyFrom_57 : decode cX7_copyFrom 57 = .ok (.iinc 3 1, 3) := by decide +kernel
theorem dX7_copyFrom_60 : decode cX7_copyFrom 60 = .ok (.goto (-29), 3) := by decide +kernel
theorem dX7_copyFrom_63 : decode cX7_copyFrom 63 = .ok (.return_, 1) := by decide +kernel
theorem dX7_get_0 : decode cX7_get 0 = .ok (.iload_n 1, 1) := by decide +kernel
theorem dX7_get_1 : decode cX7_get 1 = .ok (.ifCond .lt 24, 3) := by decide +kernel
theorem dX7_get_4 : decode cX7_get 4 = .ok (.iload_n 1, 1) := by decide +kernel
theorem dX7_get_5 : decode cX7_get 5 = .ok (.aload_n 0, 1) := by decide +kernel
theorem dX7_get_6 : decode cX7_get 6 = .ok (.getfield 11, 3) := by decide +kernel
theorem dX7_get_9 : decode cX7_get 9 = .ok (.arraylength, 1) := by decide +kernel
theorem dX7_get_10 : decode cX7_get 10 = .ok (.if_icmp .ge 15, 3) := by decide +kernel
theorem dX7_get_13 : decode cX7_get 13 = .ok (.iload_n 2, 1) := by decide +kernel
theorem dX7_get_14 : decode cX7_get 14 = .ok (.ifCond .lt 11, 3) := by decide +kernel
theorem dX7_get_17 : decode cX7_get 17 = .ok (.iload_n 2, 1) := by decide +kernel
theorem dX7_get_18 : decode cX7_get 18 = .ok (.aload_n 0, 1) := by decide +kernel
theorem dX7_get_19 : decode cX7_get 19 = .ok (.getfield 20, 3) := by decide +kernel
theorem dX7_get_22 : decode cX7_get 22 = .ok (.if_icmp .lt 5, 3) := by decide +kernel
theorem dX7_get_25 : decode cX7_get 25 = .ok (.iconst (-1), 1) := by decide +kernel
theorem dX7_get_26 : decode cX7_get 26 = .ok (.ireturn, 1) := by decide +kernel
theorem dX7_get_27 : decode cX7_get 27 = .ok (.aload_n 0, 1) := by decide +kernel
theorem dX7_get_28 : decode cX7_get 28 = .ok (.getfield 11, 3) := by decide +kernel
theorem dX7_get_31 : decode cX7_get 31 = .ok (.iload_n 1, 1) := by decide +kernel
theorem dX7_get_32 : decode cX7_get 32 = .ok (.aaload, 1) := by decide +kernel
theorem dX7_get_33 : decode cX7_get 33 = .ok (.iload_n 2, 1) := by decide +kernel
theorem dX7_get_34 : decode cX7_get 34 = .ok (.iaload, 1) := by decide +kernel
theorem dX7_get_35 : decode cX7_get 35 = .ok (.ireturn, 1) := by decide +kernel
theorem dX7_init_0 : decode cX7_init 0 = .ok (.aload_n 0, 1) := by decide +kernel
theorem dX7_init_1 : decode cX7_init 1 = .ok (.invokespecial 3, 3) := by decide +kernel
theorem dX7_init_4 : decode cX7_init 4 = .ok (.aload_n 0, 1) := by decide +kernel
theorem dX7_init_5 : decode cX7_init 5 = .ok (.iload_n 1, 1) := by decide +kernel
theorem dX7_init_6 : decode cX7_init 6 = .ok (.iload_n 2, 1) := by decide +kernel
theorem dX7_init_7 : decode cX7_init 7 = .ok (.multianewarray 9 2, 4) := by decide +kernel
theorem dX7_init_11 : decode cX7_init 11 = .ok (.putfield 11, 3) := by decide +kernel
theorem dX7_init_14 : decode cX7_init 14 = .ok (.aload_n 0, 1) := by decide +kernel
theorem dX7_init_15 : decode cX7_init 15 = .ok (.iload_n 2, 1) := by decide +kernel
theorem dX7_init_16 : decode cX7_init 16 = .ok (.putfield 16, 3) := by decide +kernel
theorem dX7_init_19 : decode cX7_init 19 = .ok (.aload_n 0, 1) := by decide +kernel
theorem dX7_init_20 : decode cX7_init 20 = .ok (.iconst 0, 1) := by decide +kernel
theorem dX7_init_21 : decode cX7_init 21 = .ok (.putfield 20, 3) := by decide +kernel
theorem dX7_init_24 : decode cX7_init 24 = .ok (.return_, 1) := by decide +kernel
theorem dX7_isFull_0 : decode cX7_isFull 0 = .ok (.aload_n 0, 1) := by decide +kernel
theorem dX7_isFull_1 : decode cX7_isFull 1 = .ok (.getfield 20, 3) := by decide +kernel
theorem dX7_isFull_4 : decode cX7_isFull 4 = .ok (.aload_n 0, 1) := by decide +kernel
theorem dX7_isFull_5 : decode cX7_isFull 5 = .ok (.getfield 16, 3) := by decide +kernel
theorem dX7_isFull_8 : decode cX7_isFull 8 = .ok (.if_icmp .lt 7, 3) := by decide +kernel
theorem dX7_isFull_11 : decode cX7_isFull 11 = .ok (.iconst 1, 1) := by decide +kernel
theorem dX7_isFull_12 : decode cX7_isFull 12 = .ok (.goto 4, 3) := by decide +kernel
theorem dX7_isFull_15 : decode cX7_isFull 15 = .ok (.iconst 0, 1) := by decide +kernel
theorem dX7_isFull_16 : decode cX7_isFull 16 = .ok (.ireturn, 1) := by decide +kernel
theorem dX7_put_0 : decode cX7_put 0 = .ok (.iload_n 1, 1) := by decide +kernel
theorem dX7_put_1 : decode cX7_put 1 = .ok (.ifCond .lt 33, 3) := by decide +kernel
theorem dX7_put_4 : decode cX7_put 4 = .ok (.iload_n 1, 1) := by decide +kernel
theorem dX7_put_5 : decode cX7_put 5 = .ok (.aload_n 0, 1) := by decide +kernel
theorem dX7_put_6 : decode cX7_put 6 = .ok (.getfield 11, 3) := by decide +kernel
theorem dX7_put_9 : decode cX7_put 9 = .ok (.arraylength, 1) := by decide +kernel
theorem dX7_put_10 : decode cX7_put 10 = .ok (.if_icmp .ge 24, 3) := by decide +kernel
theorem dX7_put_13 : decode cX7_put 13 = .ok (.iload_n 2, 1) := by decide +kernel
theorem dX7_put_14 : decode cX7_put 14 = .ok (.ifCond .lt 20, 3) := by decide +kernel
theorem dX7_put_17 : decode cX7_put 17 = .ok (.iload_n 2, 1) := by decide +kernel
theorem dX7_put_18 : decode cX7_put 18 = .ok (.aload_n 0, 1) := by decide +kernel
theorem dX7_put_19 : decode cX7_put 19 = .ok (.getfield 20, 3) := by decide +kernel
theorem dX7_put_22 : decode cX7_put 22 = .ok (.if_icmp .ge 12, 3) := by decide +kernel
theorem dX7_put_25 : decode cX7_put 25 = .ok (.aload_n 0, 1) := by decide +kernel
theorem dX7_put_26 : decode cX7_put 26 = .ok (.getfield 11, 3) := by decide +kernel
theorem dX7_put_29 : decode cX7_put 29 = .ok (.iload_n 1, 1) := by decide +kernel
theorem dX7_put_30 : decode cX7_put 30 = .ok (.aaload, 1) := by decide +kernel
theorem dX7_put_31 : decode cX7_put 31 = .ok (.iload_n 2, 1) := by decide +kernel
theorem dX7_put_32 : decode cX7_put 32 = .ok (.iload_n 3, 1) := by decide +kernel
theorem dX7_put_33 : decode cX7_put 33 = .ok (.iastore, 1) := by decide +kernel
theorem dX7_put_34 : decode cX7_put 34 = .ok (.return_, 1) := by decide +kernel
theorem dX7_size_0 : decode cX7_size 0 = .ok (.aload_n 0, 1) := by decide +kernel
theorem dX7_size_1 : decode cX7_size 1 = .ok (.getfield 20, 3) := by decide +kernel
theorem dX7_size_4 : decode cX7_size 4 = .ok (.ireturn, 1) := by decide +kernel
theorem dX8_aged_0 : decode cX8_aged 0 = .ok (.iload_n 1, 1) := by decide +kernel
theorem dX8_aged_1 : decode cX8_aged 1 = .ok (.invokestatic 68, 3) := by decide +kernel
theorem dX8_aged_4 : decode cX8_aged 4 = .ok (.ifCond .eq 13, 3) := by decide +kernel
theorem dX8_aged_7 : decode cX8_aged 7 = .ok (.iload_n 2, 1) := by decide +kernel
theorem dX8_aged_8 : decode cX8_aged 8 = .ok (.iconst 0, 1) := by decide +kernel
theorem dX8_aged_9 : decode cX8_aged 9 = .ok (.bipush 99, 2) := by decide +kernel
theorem dX8_aged_11 : decode cX8_aged 11 = .ok (.invokestatic 43, 3) := by decide +kernel
theorem dX8_aged_14 : decode cX8_aged 14 = .ok (.ifCond .ne 5, 3) := by decide +kernel
theorem dX8_aged_17 : decode cX8_aged 17 = .ok (.iconst (-1), 1) := by decide +kernel
theorem dX8_aged_18 : decode cX8_aged 18 = .ok (.ireturn, 1) := by decide +kernel
theorem dX8_aged_19 : decode cX8_aged 19 = .ok (.aload_n 0, 1) := by decide +kernel
theorem dX8_aged_20 : decode cX8_aged 20 = .ok (.getfield 12, 3) := by decide +kernel
theorem dX8_aged_23 : decode cX8_aged 23 = .ok (.iload_n 1, 1) := by decide +kernel
theorem dX8_aged_24 : decode cX8_aged 24 = .ok (.iload_n 2, 1) := by decide +kernel
theorem dX8_aged_25 : decode cX8_aged 25 = .ok (.invokestatic 254, 3) := by decide +kernel
theorem dX8_aged_28 : decode cX8_aged 28 = .ok (.ireturn, 1) := by decide +kernel
theorem dX8_ahead_0 : decode cX8_ahead 0 = .ok (.aload_n 0, 1) := by decide +kernel
theorem dX8_ahead_1 : decode cX8_ahead 1 = .ok (.getfield 12, 3) := by decide +kernel
theorem dX8_ahead_4 : decode cX8_ahead 4 = .ok (.iload_n 1, 1) := by decide +kernel
theorem dX8_ahead_5 : decode cX8_ahead 5 = .ok (.invokevirtual 60, 3) := by decide +kernel
theorem dX8_ahead_8 : decode cX8_ahead 8 = .ok (.ifCond .eq 26, 3) := by decide +kernel
theorem dX8_ahead_11 : decode cX8_ahead 11 = .ok (.iload_n 2, 1) := by decide +kernel
theorem dX8_ahead_12 : decode cX8_ahead 12 = .ok (.invokestatic 68, 3) := by decide +kernel
theorem dX8_ahead_15 : decode cX8_ahead 15 = .ok (.ifCond .eq 19, 3) := by decide +kernel
theorem dX8_ahead_18 : decode cX8_ahead 18 = .ok (.aload_n 0, 1) := by decide +kernel
theorem dX8_ahead_19 : decode cX8_ahead 19 = .ok (.getfield 12, 3) := by decide +kernel
theorem dX8_ahead_22 : decode cX8_ahead 22 = .ok (.getfield 72, 3) := by decide +kernel
theorem dX8_ahead_25 : decode cX8_ahead 25 = .ok (.iload_n 2, 1) := by decide +kernel
theorem dX8_ahead_26 : decode cX8_ahead 26 = .ok (.aaload, 1) := by decide +kernel
theorem dX8_ahead_27 : decode cX8_ahead 27 = .ok (.iload_n 1, 1) := by decide +kernel
theorem dX8_ahead_28 : decode cX8_ahead 28 = .ok (.invokevirtual 263, 3) := by decide +kernel
theorem dX8_ahead_31 : decode cX8_ahead 31 = .ok (.ifCond .ne 5, 3) := by decide +kernel
theorem dX8_ahead_34 : decode cX8_ahead 34 = .ok (.iconst (-1), 1) := by decide +kernel
theorem dX8_ahead_35 : decode cX8_ahead 35 = .ok (.ireturn, 1) := by decide +kernel
theorem dX8_ahead_36 : decode cX8_ahead 36 = .ok (.aload_n 0, 1) := by decide +kernel
theorem dX8_ahead_37 : decode cX8_ahead 37 = .ok (.getfield 12, 3) := by decide +kernel
theorem dX8_ahead_40 : decode cX8_ahead 40 = .ok (.iload_n 1, 1) := by decide +kernel
theorem dX8_ahead_41 : decode cX8_ahead 41 = .ok (.iload_n 2, 1) := by decide +kernel
theorem dX8_ahead_42 : decode cX8_ahead 42 = .ok (.invokestatic 267, 3) := by decide +kernel
theorem dX8_ahead_45 : decode cX8_ahead 45 = .ok (.ireturn, 1) := by decide +kernel
theorem dX8_apart_0 : decode cX8_apart 0 = .ok (.aload_n 0, 1) := by decide +kernel
theorem dX8_apart_1 : decode cX8_apart 1 = .ok (.getfield 12, 3) := by decide +kernel
theorem dX8_apart_4 : decode cX8_apart 4 = .ok (.iload_n 1, 1) := by decide +kernel
theorem dX8_apart_5 : decode cX8_apart 5 = .ok (.iload_n 2, 1) := by decide +kernel
theorem dX8_apart_6 : decode cX8_apart 6 = .ok (.iload_n 3, 1) := by decide +kernel
theorem dX8_apart_7 : decode cX8_apart 7 = .ok (.iload 4, 2) := by decide +kernel
theorem dX8_apart_9 : decode cX8_apart 9 = .ok (.iload 5, 2) := by decide +kernel
theorem dX8_apart_11 : decode cX8_apart 11 = .ok (.iconst 1, 1) := by decide +kernel
theorem dX8_apart_12 : decode cX8_apart 12 = .ok (.invokevirtual 95, 3) := by decide +kernel
theorem dX8_apart_15 : decode cX8_apart 15 = .ok (.ireturn, 1) := by decide +kernel
theorem dX8_at_0 : decode cX8_at 0 = .ok (.aload_n 0, 1) := by decide +kernel
theorem dX8_at_1 : decode cX8_at 1 = .ok (.getfield 12, 3) := by decide +kernel
theorem dX8_at_4 : decode cX8_at 4 = .ok (.iload_n 1, 1) := by decide +kernel
theorem dX8_at_5 : decode cX8_at 5 = .ok (.invokevirtual 60, 3) := by decide +kernel
theorem dX8_at_8 : decode cX8_at 8 = .ok (.ifCond .eq 10, 3) := by decide +kernel
theorem dX8_at_11 : decode cX8_at 11 = .ok (.iload_n 2, 1) := by decide +kernel
theorem dX8_at_12 : decode cX8_at 12 = .ok (.invokestatic 68, 3) := by decide +kernel
theorem dX8_at_15 : decode cX8_at 15 = .ok (.ifCond .ne 6, 3) := by decide +kernel
theorem dX8_at_18 : decode cX8_at 18 = .ok (.ldc 194, 2) := by decide +kernel
theorem dX8_at_20 : decode cX8_at 20 = .ok (.ireturn, 1) := by decide +kernel
theorem dX8_at_21 : decode cX8_at 21 = .ok (.iload_n 3, 1) := by decide +kernel
theorem dX8_at_22 : decode cX8_at 22 = .ok (.bipush 9, 2) := by decide +kernel
theorem dX8_at_24 : decode cX8_at 24 = .ok (.if_icmp .ne 20, 3) := by decide +kernel
theorem dX8_at_27 : decode cX8_at 27 = .ok (.aload_n 0, 1) := by decide +kernel
theorem dX8_at_28 : decode cX8_at 28 = .ok (.getfield 12, 3) := by decide +kernel
theorem dX8_at_31 : decode cX8_at 31 = .ok (.getfield 72, 3) := by decide +kernel
theorem dX8_at_34 : decode cX8_at 34 = .ok (.iload_n 2, 1) := by decide +kernel
theorem dX8_at_35 : decode cX8_at 35 = .ok (.aaload, 1) := by decide +kernel
theorem dX8_at_36 : decode cX8_at 36 = .ok (.getfield 195, 3) := by decide +kernel
theorem dX8_at_39 : decode cX8_at 39 = .ok (.iload_n 1, 1) := by decide +kernel
theorem dX8_at_40 : decode cX8_at 40 = .ok (.iaload, 1) := by decide +kernel
theorem dX8_at_41 : decode cX8_at 41 = .ok (.goto 13, 3) := by decide +kernel
theorem dX8_at_44 : decode cX8_at 44 = .ok (.aload_n 0, 1) := by decide +kernel
theorem dX8_at_45 : decode cX8_at 45 = .ok (.getfield 12, 3) := by decide +kernel
theorem dX8_at_48 : decode cX8_at 48 = .ok (.iload_n 1, 1) := by decide +kernel
theorem dX8_at_49 : decode cX8_at 49 = .ok (.iload_n 2, 1) := by decide +kernel
theorem dX8_at_50 : decode cX8_at 50 = .ok (.iload_n 3, 1) := by decide +kernel
theorem dX8_at_51 : decode cX8_at 51 = .ok (.invokevirtual 198, 3) := by decide +kernel
theorem dX8_at_54 : decode cX8_at 54 = .ok (.ireturn, 1) := by decide +kernel
theorem dX8_book_0 : decode cX8_book 0 = .ok (.aload_n 0, 1) := by decide +kernel
theorem dX8_book_1 : decode cX8_book 1 = .ok (.getfield 12, 3) := by decide +kernel
theorem dX8_book_4 : decode cX8_book 4 = .ok (.getfield 221, 3) := by decide +kernel
theorem dX8_book_7 : decode cX8_book 7 = .ok (.iload_n 2, 1) := by decide +kernel
theorem dX8_book_8 : decode cX8_book 8 = .ok (.iload_n 1, 1) := by decide +kernel
theorem dX8_book_9 : decode cX8_book 9 = .ok (.invokevirtual 171, 3) := by decide +kernel
theorem dX8_book_12 : decode cX8_book 12 = .ok (.ireturn, 1) := by decide +kernel
theorem dX8_call_0 : decode cX8_call 0 = .ok (.aload_n 0, 1) := by decide +kernel
theorem dX8_call_1 : decode cX8_call 1 = .ok (.getfield 12, 3) := by decide +kernel
theorem dX8_call_4 : decode cX8_call 4 = .ok (.iload_n 1, 1) := by decide +kernel
theorem dX8_call_5 : decode cX8_call 5 = .ok (.invokestatic 135, 3) := by decide +kernel
theorem dX8_call_8 : decode cX8_call 8 = .ok (.ireturn, 1) := by decide +kernel
theorem dX8_cash_0 : decode cX8_cash 0 = .ok (.aload_n 0, 1) := by decide +kernel
theorem dX8_cash_1 : decode cX8_cash 1 = .ok (.getfield 12, 3) := by decide +kernel
theorem dX8_cash_4 : decode cX8_cash 4 = .ok (.iload_n 1, 1) := by decide +kernel
theorem dX8_cash_5 : decode cX8_cash 5 = .ok (.invokevirtual 60, 3) := by decide +kernel
theorem dX8_cash_8 : decode cX8_cash 8 = .ok (.ifCond .eq 15, 3) := by decide +kernel
theorem dX8_cash_11 : decode cX8_cash 11 = .ok (.aload_n 0, 1) := by decide +kernel
theorem dX8_cash_12 : decode cX8_cash 12 = .ok (.getfield 12, 3) := by decide +kernel
theorem dX8_cash_15 : decode cX8_cash 15 = .ok (.getfield 209, 3) := by decide +kernel
theorem dX8_cash_18 : decode cX8_cash 18 = .ok (.iload_n 1, 1) := by decide +kernel
theorem dX8_cash_19 : decode cX8_cash 19 = .ok (.laload, 1) := by decide +kernel
theorem dX8_cash_20 : decode cX8_cash 20 = .ok (.goto 4, 3) := by decide +kernel
theorem dX8_cash_23 : decode cX8_cash 23 = .ok (.lconst 0, 1) := by decide +kernel
theorem dX8_cash_24 : decode cX8_cash 24 = .ok (.lreturn, 1) := by decide +kernel
theorem dX8_collateral_0 : decode cX8_collateral 0 = .ok (.aload_n 0, 1) := by decide +kernel
theorem dX8_collateral_1 : decode cX8_collateral 1 = .ok (.getfield 12, 3) := by decide +kernel
theorem dX8_collateral_4 : decode cX8_collateral 4 = .ok (.iload_n 1, 1) := by decide +kernel
theorem dX8_collateral_5 : decode cX8_collateral 5 = .ok (.invokevirtual 60, 3) := by decide +kernel
theorem dX8_collateral_8 : decode cX8_collateral 8 = .ok (.ifCond .eq 13, 3) := by decide +kernel
theorem dX8_collateral_11 : decode cX8_collateral 11 = .ok (.iload_n 2, 1) := by decide +kernel
theorem dX8_collateral_12 : decode cX8_collateral 12 = .ok (.iconst 0, 1) := by decide +kernel
theorem dX8_collateral_13 : decode cX8_collateral 13 = .ok (.ldc 119, 2) := by decide +kernel
theorem dX8_collateral_15 : decode cX8_collateral 15 = .ok (.invokestatic 43, 3) := by decide +kernel
theorem dX8_collateral_18 : decode cX8_collateral 18 = .ok (.ifCond .ne 5, 3) := by decide +kernel
theorem dX8_collateral_21 : decode cX8_collateral 21 = .ok (.iconst 0, 1) := by decide +kernel
theorem dX8_collateral_22 : decode cX8_collateral 22 = .ok (.ireturn, 1) := by decide +kernel
theorem dX8_collateral_23 : decode cX8_collateral 23 = .ok (.aload_n 0, 1) := by decide +kernel
theorem dX8_collateral_24 : decode cX8_collateral 24 = .ok (.getfield 12, 3) := by decide +kernel
theorem dX8_collateral_27 : decode cX8_collateral 27 = .ok (.getfield 120, 3) := by decide +kernel
theorem dX8_collateral_30 : decode cX8_collateral 30 = .ok (.iload_n 1, 1) := by decide +kernel
theorem dX8_collateral_31 : decode cX8_collateral 31 = .ok (.iload_n 2, 1) := by decide +kernel
theorem dX8_collateral_32 : decode cX8_collateral 32 = .ok (.iastore, 1) := by decide +kernel
theorem dX8_collateral_33 : decode cX8_collateral 33 = .ok (.iconst 1, 1) := by decide +kernel
theorem dX8_collateral_34 : decode cX8_collateral 34 = .ok (.ireturn, 1) := by decide +kernel
theorem dX8_deal_0 : decode cX8_deal 0 = .ok (.aload_n 0, 1) := by decide +kernel
theorem dX8_deal_1 : decode cX8_deal 1 = .ok (.getfield 12, 3) := by decide +kernel
theorem dX8_deal_4 : decode cX8_deal 4 = .ok (.getfield 47, 3) := by decide +kernel
theorem dX8_deal_7 : decode cX8_deal 7 = .ok (.iload_n 2, 1) := by decide +kernel
theorem dX8_deal_8 : decode cX8_deal 8 = .ok (.iload_n 1, 1) := by decide +kernel
theorem dX8_deal_9 : decode cX8_deal 9 = .ok (.invokevirtual 171, 3) := by decide +kernel
theorem dX8_deal_12 : decode cX8_deal 12 = .ok (.ireturn, 1) := by decide +kernel
theorem dX8_dividend_0 : decode cX8_dividend 0 = .ok (.iload_n 1, 1) := by decide +kernel
theorem dX8_dividend_1 : decode cX8_dividend 1 = .ok (.invokestatic 68, 3) := by decide +kernel
theorem dX8_dividend_4 : decode cX8_dividend 4 = .ok (.ifCond .eq 13, 3) := by decide +kernel
theorem dX8_dividend_7 : decode cX8_dividend 7 = .ok (.iload_n 2, 1) := by decide +kernel
theorem dX8_dividend_8 : decode cX8_dividend 8 = .ok (.iconst 0, 1) := by decide +kernel
theorem dX8_dividend_9 : decode cX8_dividend 9 = .ok (.bipush 99, 2) := by decide +kernel
theorem dX8_dividend_11 : decode cX8_dividend 11 = .ok (.invokestatic 43, 3) := by decide +kernel
theorem dX8_dividend_14 : decode cX8_dividend 14 = .ok (.ifCond .ne 5, 3) := by decide +kernel
theorem dX8_dividend_17 : decode cX8_dividend 17 = .ok (.iconst 0, 1) := by decide +kernel
theorem dX8_dividend_18 : decode cX8_dividend 18 = .ok (.ireturn, 1) := by decide +kernel
theorem dX8_dividend_19 : decode cX8_dividend 19 = .ok (.aload_n 0, 1) := by decide +kernel
theorem dX8_dividend_20 : decode cX8_dividend 20 = .ok (.getfield 12, 3) := by decide +kernel
theorem dX8_dividend_23 : decode cX8_dividend 23 = .ok (.getfield 72, 3) := by decide +kernel
theorem dX8_dividend_26 : decode cX8_dividend 26 = .ok (.iload_n 1, 1) := by decide +kernel
theorem dX8_dividend_27 : decode cX8_dividend 27 = .ok (.aaload, 1) := by decide +kernel
theorem dX8_dividend_28 : decode cX8_dividend 28 = .ok (.iload_n 2, 1) := by decide +kernel
theorem dX8_dividend_29 : decode cX8_dividend 29 = .ok (.putfield 99, 3) := by decide +kernel
theorem dX8_dividend_32 : decode cX8_dividend 32 = .ok (.iconst 1, 1) := by decide +kernel
theorem dX8_dividend_33 : decode cX8_dividend 33 = .ok (.ireturn, 1) := by decide +kernel
theorem dX8_end_0 : decode cX8_end 0 = .ok (.iload_n 1, 1) := by decide +kernel
theorem dX8_end_1 : decode cX8_end 1 = .ok (.ifCond .lt 14, 3) := by decide +kernel
theorem dX8_end_4 : decode cX8_end 4 = .ok (.iload_n 1, 1) := by decide +kernel
theorem dX8_end_5 : decode cX8_end 5 = .ok (.aload_n 0, 1) := by decide +kernel
theorem dX8_end_6 : decode cX8_end 6 = .ok (.getfield 25, 3) := by decide +kernel
theorem dX8_end_9 : decode cX8_end 9 = .ok (.getfield 146, 3) := by decide +kernel
theorem dX8_end_12 : decode cX8_end 12 = .ok (.if_icmp .le 5, 3) := by decide +kernel
theorem dX8_end_15 : decode cX8_end 15 = .ok (.iconst 0, 1) := by decide +kernel
theorem dX8_end_16 : decode cX8_end 16 = .ok (.ireturn, 1) := by decide +kernel
theorem dX8_end_17 : decode cX8_end 17 = .ok (.aload_n 0, 1) := by decide +kernel
theorem dX8_end_18 : decode cX8_end 18 = .ok (.getfield 25, 3) := by decide +kernel
theorem dX8_end_21 : decode cX8_end 21 = .ok (.iload_n 1, 1) := by decide +kernel
theorem dX8_end_22 : decode cX8_end 22 = .ok (.putfield 146, 3) := by decide +kernel
theorem dX8_end_25 : decode cX8_end 25 = .ok (.iconst 1, 1) := by decide +kernel
theorem dX8_end_26 : decode cX8_end 26 = .ok (.ireturn, 1) := by decide +kernel
theorem dX8_fault_0 : decode cX8_fault 0 = .ok (.iload_n 1, 1) := by decide +kernel
theorem dX8_fault_1 : decode cX8_fault 1 = .ok (.lookupswitch 43 #[(0, 27), (1, 35)], 27) := by decide +kernel
theorem dX8_fault_28 : decode cX8_fault 28 = .ok (.aload_n 0, 1) := by decide +kernel
theorem dX8_fault_29 : decode cX8_fault 29 = .ok (.getfield 25, 3) := by decide +kernel
theorem dX8_fault_32 : decode cX8_fault 32 = .ok (.getfield 165, 3) := by decide +kernel
theorem dX8_fault_35 : decode cX8_fault 35 = .ok (.ireturn, 1) := by decide +kernel
theorem dX8_fault_36 : decode cX8_fault 36 = .ok (.aload_n 0, 1) := by decide +kernel
theorem dX8_fault_37 : decode cX8_fault 37 = .ok (.getfield 25, 3) := by decide +kernel
theorem dX8_fault_40 : decode cX8_fault 40 = .ok (.getfield 168, 3) := by decide +kernel
theorem dX8_fault_43 : decode cX8_fault 43 = .ok (.ireturn, 1) := by decide +kernel
theorem dX8_fault_44 : decode cX8_fault 44 = .ok (.iconst (-1), 1) := by decide +kernel
theorem dX8_fault_45 : decode cX8_fault 45 = .ok (.ireturn, 1) := by decide +kernel
theorem dX8_feed_0 : decode cX8_feed 0 = .ok (.aload_n 0, 1) := by decide +kernel
theorem dX8_feed_1 : decode cX8_feed 1 = .ok (.getfield 25, 3) := by decide +kernel
theorem dX8_feed_4 : decode cX8_feed 4 = .ok (.invokevirtual 138, 3) := by decide +kernel
theorem dX8_feed_7 : decode cX8_feed 7 = .ok (.ifCond .ne 5, 3) := by decide +kernel
theorem dX8_feed_10 : decode cX8_feed 10 = .ok (.iconst (-1), 1) := by decide +kernel
theorem dX8_feed_11 : decode cX8_feed 11 = .ok (.ireturn, 1) := by decide +kernel
theorem dX8_feed_12 : decode cX8_feed 12 = .ok (.aload_n 0, 1) := by decide +kernel
theorem dX8_feed_13 : decode cX8_feed 13 = .ok (.getfield 25, 3) := by decide +kernel
theorem dX8_feed_16 : decode cX8_feed 16 = .ok (.iload_n 1, 1) := by decide +kernel
theorem dX8_feed_17 : decode cX8_feed 17 = .ok (.invokevirtual 142, 3) := by decide +kernel
theorem dX8_feed_20 : decode cX8_feed 20 = .ok (.aload_n 0, 1) := by decide +kernel
theorem dX8_feed_21 : decode cX8_feed 21 = .ok (.getfield 25, 3) := by decide +kernel
theorem dX8_feed_24 : decode cX8_feed 24 = .ok (.iload_n 2, 1) := by decide +kernel
theorem dX8_feed_25 : decode cX8_feed 25 = .ok (.invokevirtual 142, 3) := by decide +kernel
theorem dX8_feed_28 : decode cX8_feed 28 = .ok (.aload_n 0, 1) := by decide +kernel
theorem dX8_feed_29 : decode cX8_feed 29 = .ok (.getfield 25, 3) := by decide +kernel
theorem dX8_feed_32 : decode cX8_feed 32 = .ok (.iload_n 3, 1) := by decide +kernel
theorem dX8_feed_33 : decode cX8_feed 33 = .ok (.invokevirtual 142, 3) := by decide +kernel
theorem dX8_feed_36 : decode cX8_feed 36 = .ok (.aload_n 0, 1) := by decide +kernel
theorem dX8_feed_37 : decode cX8_feed 37 = .ok (.getfield 25, 3) := by decide +kernel
theorem dX8_feed_40 : decode cX8_feed 40 = .ok (.iload 4, 2) := by decide +kernel
theorem dX8_feed_42 : decode cX8_feed 42 = .ok (.invokevirtual 142, 3) := by decide +kernel
theorem dX8_feed_45 : decode cX8_feed 45 = .ok (.aload_n 0, 1) := by decide +kernel
theorem dX8_feed_46 : decode cX8_feed 46 = .ok (.getfield 25, 3) := by decide +kernel
theorem dX8_feed_49 : decode cX8_feed 49 = .ok (.iload 5, 2) := by decide +kernel
theorem dX8_feed_51 : decode cX8_feed 51 = .ok (.invokevirtual 142, 3) := by decide +kernel
theorem dX8_feed_54 : decode cX8_feed 54 = .ok (.aload_n 0, 1) := by decide +kernel
theorem dX8_feed_55 : decode cX8_feed 55 = .ok (.getfield 25, 3) := by decide +kernel
theorem dX8_feed_58 : decode cX8_feed 58 = .ok (.getfield 146, 3) := by decide +kernel
theorem dX8_feed_61 : decode cX8_feed 61 = .ok (.ireturn, 1) := by decide +kernel
theorem dX8_give_0 : decode cX8_give 0 = .ok (.aload_n 0, 1) := by decide +kernel
theorem dX8_give_1 : decode cX8_give 1 = .ok (.getfield 12, 3) := by decide +kernel
theorem dX8_give_4 : decode cX8_give 4 = .ok (.iload_n 1, 1) := by decide +kernel
theorem dX8_give_5 : decode cX8_give 5 = .ok (.iload_n 2, 1) := by decide +kernel
theorem dX8_give_6 : decode cX8_give 6 = .ok (.iload_n 3, 1) := by decide +kernel
theorem dX8_give_7 : decode cX8_give 7 = .ok (.invokestatic 129, 3) := by decide +kernel
theorem dX8_give_10 : decode cX8_give 10 = .ok (.ireturn, 1) := by decide +kernel
theorem dX8_image_0 : decode cX8_image 0 = .ok (.iload_n 1, 1) := by decide +kernel
theorem dX8_image_1 : decode cX8_image 1 = .ok (.ifCond .eq 21, 3) := by decide +kernel
theorem dX8_image_4 : decode cX8_image 4 = .ok (.aload_n 0, 1) := by decide +kernel
theorem dX8_image_5 : decode cX8_image 5 = .ok (.getfield 16, 3) := by decide +kernel
theorem dX8_image_8 : decode cX8_image 8 = .ok (.aload_n 0, 1) := by decide +kernel
theorem dX8_image_9 : decode cX8_image 9 = .ok (.getfield 12, 3) := by decide +kernel
theorem dX8_image_12 : decode cX8_image 12 = .ok (.invokevirtual 191, 3) := by decide +kernel
theorem dX8_image_15 : decode cX8_image 15 = .ok (.aload_n 0, 1) := by decide +kernel
theorem dX8_image_16 : decode cX8_image 16 = .ok (.iconst 1, 1) := by decide +kernel
theorem dX8_image_17 : decode cX8_image 17 = .ok (.putfield 29, 3) := by decide +kernel
theorem dX8_image_20 : decode cX8_image 20 = .ok (.iconst 1, 1) := by decide +kernel
theorem dX8_image_21 : decode cX8_image 21 = .ok (.ireturn, 1) := by decide +kernel
theorem dX8_image_22 : decode cX8_image 22 = .ok (.aload_n 0, 1) := by decide +kernel
theorem dX8_image_23 : decode cX8_image 23 = .ok (.getfield 29, 3) := by decide +kernel
theorem dX8_image_26 : decode cX8_image 26 = .ok (.ifCond .ne 5, 3) := by decide +kernel
theorem dX8_image_29 : decode cX8_image 29 = .ok (.iconst 0, 1) := by decide +kernel
theorem dX8_image_30 : decode cX8_image 30 = .ok (.ireturn, 1) := by decide +kernel
theorem dX8_image_31 : decode cX8_image 31 = .ok (.aload_n 0, 1) := by decide +kernel
theorem dX8_image_32 : decode cX8_image 32 = .ok (.getfield 12, 3) := by decide +kernel
theorem dX8_image_35 : decode cX8_image 35 = .ok (.aload_n 0, 1) := by decide +kernel
theorem dX8_image_36 : decode cX8_image 36 = .ok (.getfield 16, 3) := by decide +kernel
theorem dX8_image_39 : decode cX8_image 39 = .ok (.invokevirtual 191, 3) := by decide +kernel
theorem dX8_image_42 : decode cX8_image 42 = .ok (.iconst 1, 1) := by decide +kernel
theorem dX8_image_43 : decode cX8_image 43 = .ok (.ireturn, 1) := by decide +kernel
theorem dX8_init_0 : decode cX8_init 0 = .ok (.aload_n 0, 1) := by decide +kernel
theorem dX8_init_1 : decode cX8_init 1 = .ok (.invokespecial 3, 3) := by decide +kernel
theorem dX8_init_4 : decode cX8_init 4 = .ok (.aload_n 0, 1) := by decide +kernel
theorem dX8_init_5 : decode cX8_init 5 = .ok (.new 9, 3) := by decide +kernel
theorem dX8_init_8 : decode cX8_init 8 = .ok (.dup, 1) := by decide +kernel
theorem dX8_init_9 : decode cX8_init 9 = .ok (.invokespecial 11, 3) := by decide +kernel
theorem dX8_init_12 : decode cX8_init 12 = .ok (.putfield 12, 3) := by decide +kernel
theorem dX8_init_15 : decode cX8_init 15 = .ok (.aload_n 0, 1) := by decide +kernel
theorem dX8_init_16 : decode cX8_init 16 = .ok (.new 9, 3) := by decide +kernel
theorem dX8_init_19 : decode cX8_init 19 = .ok (.dup, 1) := by decide +kernel
theorem dX8_init_20 : decode cX8_init 20 = .ok (.invokespecial 11, 3) := by decide +kernel
theorem dX8_init_23 : decode cX8_init 23 = .ok (.putfield 16, 3) := by decide +kernel
theorem dX8_init_26 : decode cX8_init 26 = .ok (.aload_n 0, 1) := by decide +kernel
theorem dX8_init_27 : decode cX8_init 27 = .ok (.new 9, 3) := by decide +kernel
theorem dX8_init_30 : decode cX8_init 30 = .ok (.dup, 1) := by decide +kernel
theorem dX8_init_31 : decode cX8_init 31 = .ok (.invokespecial 11, 3) := by decide +kernel
theorem dX8_init_34 : decode cX8_init 34 = .ok (.putfield 19, 3) := by decide +kernel
theorem dX8_init_37 : decode cX8_init 37 = .ok (.aload_n 0, 1) := by decide +kernel
theorem dX8_init_38 : decode cX8_init 38 = .ok (.new 22, 3) := by decide +kernel
theorem dX8_init_41 : decode cX8_init 41 = .ok (.dup, 1) := by decide +kernel
theorem dX8_init_42 : decode cX8_init 42 = .ok (.invokespecial 24, 3) := by decide +kernel
theorem dX8_init_45 : decode cX8_init 45 = .ok (.putfield 25, 3) := by decide +kernel
theorem dX8_init_48 : decode cX8_init 48 = .ok (.aload_n 0, 1) := by decide +kernel
theorem dX8_init_49 : decode cX8_init 49 = .ok (.iconst 0, 1) := by decide +kernel
theorem dX8_init_50 : decode cX8_init 50 = .ok (.putfield 29, 3) := by decide +kernel
theorem dX8_init_53 : decode cX8_init 53 = .ok (.return_, 1) := by decide +kernel
theorem dX8_isIssue_0 : decode cX8_isIssue 0 = .ok (.iload_n 0, 1) := by decide +kernel
theorem dX8_isIssue_1 : decode cX8_isIssue 1 = .ok (.ifCond .lt 13, 3) := by decide +kernel
theorem dX8_isIssue_4 : decode cX8_isIssue 4 = .ok (.iload_n 0, 1) := by decide +kernel
theorem dX8_isIssue_5 : decode cX8_isIssue 5 = .ok (.bipush 6, 2) := by decide +kernel
theorem dX8_isIssue_7 : decode cX8_isIssue 7 = .ok (.if_icmp .ge 7, 3) := by decide +kernel
theorem dX8_isIssue_10 : decode cX8_isIssue 10 = .ok (.iconst 1, 1) := by decide +kernel
theorem dX8_isIssue_11 : decode cX8_isIssue 11 = .ok (.goto 4, 3) := by decide +kernel
theorem dX8_isIssue_14 : decode cX8_isIssue 14 = .ok (.iconst 0, 1) := by decide +kernel
theorem dX8_isIssue_15 : decode cX8_isIssue 15 = .ok (.ireturn, 1) := by decide +kernel
theorem dX8_issue_0 : decode cX8_issue 0 = .ok (.iload_n 1, 1) := by decide +kernel
theorem dX8_issue_1 : decode cX8_issue 1 = .ok (.invokestatic 68, 3) := by decide +kernel
theorem dX8_issue_4 : decode cX8_issue 4 = .ok (.ifCond .eq 15, 3) := by decide +kernel
theorem dX8_issue_7 : decode cX8_issue 7 = .ok (.aload_n 0, 1) := by decide +kernel
theorem dX8_issue_8 : decode cX8_issue 8 = .ok (.getfield 12, 3) := by decide +kernel
theorem dX8_issue_11 : decode cX8_issue 11 = .ok (.iload_n 1, 1) := by decide +kernel
theorem dX8_issue_12 : decode cX8_issue 12 = .ok (.iload_n 2, 1) := by decide +kernel
theorem dX8_issue_13 : decode cX8_issue 13 = .ok (.invokestatic 215, 3) := by decide +kernel
theorem dX8_issue_16 : decode cX8_issue 16 = .ok (.goto 4, 3) := by decide +kernel
theorem dX8_issue_19 : decode cX8_issue 19 = .ok (.iconst (-1), 1) := by decide +kernel
theorem dX8_issue_20 : decode cX8_issue 20 = .ok (.ireturn, 1) := by decide +kernel
theorem dX8_look_0 : decode cX8_look 0 = .ok (.iload_n 1, 1) := by decide +kernel
theorem dX8_look_1 : decode cX8_look 1 = .ok (.ifCond .lt 18, 3) := by decide +kernel
theorem dX8_look_4 : decode cX8_look 4 = .ok (.iload_n 1, 1) := by decide +kernel
theorem dX8_look_5 : decode cX8_look 5 = .ok (.iconst 5, 1) := by decide +kernel
theorem dX8_look_6 : decode cX8_look 6 = .ok (.if_icmp .gt 13, 3) := by decide +kernel
theorem dX8_look_9 : decode cX8_look 9 = .ok (.aload_n 0, 1) := by decide +kernel
theorem dX8_look_10 : decode cX8_look 10 = .ok (.getfield 12, 3) := by decide +kernel
theorem dX8_look_13 : decode cX8_look 13 = .ok (.getfield 57, 3) := by decide +kernel
theorem dX8_look_16 : decode cX8_look 16 = .ok (.iload_n 1, 1) := by decide +kernel
theorem dX8_look_17 : decode cX8_look 17 = .ok (.iaload, 1) := by decide +kernel
theorem dX8_look_18 : decode cX8_look 18 = .ok (.ireturn, 1) := by decide +kernel
theorem dX8_look_19 : decode cX8_look 19 = .ok (.iload_n 1, 1) := by decide +kernel
theorem dX8_look_20 : decode cX8_look 20 = .ok (.tableswitch 205 6 19 #[72, 80, 91, 102, 110, 121, 130, 139, 150, 158, 170, 178, 186, 194], 72) := by decide +kernel
theorem dX8_look_92 : decode cX8_look 92 = .ok (.aload_n 0, 1) := by decide +kernel
theorem dX8_look_93 : decode cX8_look 93 = .ok (.getfield 12, 3) := by decide +kernel
theorem dX8_look_96 : decode cX8_look 96 = .ok (.getfield 261, 3) := by decide +kernel
theorem dX8_look_99 : decode cX8_look 99 = .ok (.ireturn, 1) := by decide +kernel
theorem dX8_look_100 : decode cX8_look 100 = .ok (.aload_n 0, 1) := by decide +kernel
theorem dX8_look_101 : decode cX8_look 101 = .ok (.getfield 12, 3) := by decide +kernel
theorem dX8_look_104 : decode cX8_look 104 = .ok (.getfield 47, 3) := by decide +kernel
theorem dX8_look_107 : decode cX8_look 107 = .ok (.invokevirtual 51, 3) := by decide +kernel
theorem dX8_look_110 : decode cX8_look 110 = .ok (.ireturn, 1) := by decide +kernel
theorem dX8_look_111 : decode cX8_look 111 = .ok (.aload_n 0, 1) := by decide +kernel
theorem dX8_look_112 : decode cX8_look 112 = .ok (.getfield 12, 3) := by decide +kernel
theorem dX8_look_115 : decode cX8_look 115 = .ok (.getfield 212, 3) := by decide +kernel
theorem dX8_look_118 : decode cX8_look 118 = .ok (.invokevirtual 51, 3) := by decide +kernel
theorem dX8_look_121 : decode cX8_look 121 = .ok (.ireturn, 1) := by decide +kernel
theorem dX8_look_122 : decode cX8_look 122 = .ok (.aload_n 0, 1) := by decide +kernel
theorem dX8_look_123 : decode cX8_look 123 = .ok (.getfield 12, 3) := by decide +kernel
theorem dX8_look_126 : decode cX8_look 126 = .ok (.invokestatic 281, 3) := by decide +kernel
theorem dX8_look_129 : decode cX8_look 129 = .ok (.ireturn, 1) := by decide +kernel
theorem dX8_look_130 : decode cX8_look 130 = .ok (.aload_n 0, 1) := by decide +kernel
theorem dX8_look_131 : decode cX8_look 131 = .ok (.getfield 12, 3) := by decide +kernel
theorem dX8_look_134 : decode cX8_look 134 = .ok (.getfield 221, 3) := by decide +kernel
theorem dX8_look_137 : decode cX8_look 137 = .ok (.invokevirtual 51, 3) := by decide +kernel
theorem dX8_look_140 : decode cX8_look 140 = .ok (.ireturn, 1) := by decide +kernel
theorem dX8_look_141 : decode cX8_look 141 = .ok (.aload_n 0, 1) := by decide +kernel
theorem dX8_look_142 : decode cX8_look 142 = .ok (.getfield 12, 3) := by decide +kernel
theorem dX8_look_145 : decode cX8_look 145 = .ok (.getfield 284, 3) := by decide +kernel
theorem dX8_look_148 : decode cX8_look 148 = .ok (.l2i, 1) := by decide +kernel
theorem dX8_look_149 : decode cX8_look 149 = .ok (.ireturn, 1) := by decide +kernel
theorem dX8_look_150 : decode cX8_look 150 = .ok (.aload_n 0, 1) := by decide +kernel
theorem dX8_look_151 : decode cX8_look 151 = .ok (.getfield 12, 3) := by decide +kernel
theorem dX8_look_154 : decode cX8_look 154 = .ok (.invokestatic 288, 3) := by decide +kernel
theorem dX8_look_157 : decode cX8_look 157 = .ok (.l2i, 1) := by decide +kernel
theorem dX8_look_158 : decode cX8_look 158 = .ok (.ireturn, 1) := by decide +kernel
theorem dX8_look_159 : decode cX8_look 159 = .ok (.aload_n 0, 1) := by decide +kernel
theorem dX8_look_160 : decode cX8_look 160 = .ok (.getfield 12, 3) := by decide +kernel
theorem dX8_look_163 : decode cX8_look 163 = .ok (.getfield 152, 3) := by decide +kernel
theorem dX8_look_166 : decode cX8_look 166 = .ok (.invokevirtual 51, 3) := by decide +kernel
theorem dX8_look_169 : decode cX8_look 169 = .ok (.ireturn, 1) := by decide +kernel
theorem dX8_look_170 : decode cX8_look 170 = .ok (.aload_n 0, 1) := by decide +kernel
theorem dX8_look_171 : decode cX8_look 171 = .ok (.getfield 12, 3) := by decide +kernel
theorem dX8_look_174 : decode cX8_look 174 = .ok (.getfield 162, 3) := by decide +kernel
theorem dX8_look_177 : decode cX8_look 177 = .ok (.ireturn, 1) := by decide +kernel
theorem dX8_look_178 : decode cX8_look 178 = .ok (.aload_n 0, 1) := by decide +kernel
theorem dX8_look_179 : decode cX8_look 179 = .ok (.getfield 12, 3) := by decide +kernel
theorem dX8_look_182 : decode cX8_look 182 = .ok (.iconst (-1), 1) := by decide +kernel
theorem dX8_look_183 : decode cX8_look 183 = .ok (.iconst 0, 1) := by decide +kernel
theorem dX8_look_184 : decode cX8_look 184 = .ok (.bipush 7, 2) := by decide +kernel
theorem dX8_look_186 : decode cX8_look 186 = .ok (.invokestatic 292, 3) := by decide +kernel
theorem dX8_look_189 : decode cX8_look 189 = .ok (.ireturn, 1) := by decide +kernel
theorem dX8_look_190 : decode cX8_look 190 = .ok (.aload_n 0, 1) := by decide +kernel
theorem dX8_look_191 : decode cX8_look 191 = .ok (.getfield 12, 3) := by decide +kernel
theorem dX8_look_194 : decode cX8_look 194 = .ok (.invokestatic 295, 3) := by decide +kernel
theorem dX8_look_197 : decode cX8_look 197 = .ok (.ireturn, 1) := by decide +kernel
theorem dX8_look_198 : decode cX8_look 198 = .ok (.aload_n 0, 1) := by decide +kernel
theorem dX8_look_199 : decode cX8_look 199 = .ok (.getfield 12, 3) := by decide +kernel
theorem dX8_look_202 : decode cX8_look 202 = .ok (.invokestatic 298, 3) := by decide +kernel
theorem dX8_look_205 : decode cX8_look 205 = .ok (.ireturn, 1) := by decide +kernel
theorem dX8_look_206 : decode cX8_look 206 = .ok (.aload_n 0, 1) := by decide +kernel
theorem dX8_look_207 : decode cX8_look 207 = .ok (.getfield 12, 3) := by decide +kernel
theorem dX8_look_210 : decode cX8_look 210 = .ok (.invokestatic 301, 3) := by decide +kernel
theorem dX8_look_213 : decode cX8_look 213 = .ok (.ireturn, 1) := by decide +kernel
theorem dX8_look_214 : decode cX8_look 214 = .ok (.aload_n 0, 1) := by decide +kernel
theorem dX8_look_215 : decode cX8_look 215 = .ok (.getfield 12, 3) := by decide +kernel
theorem dX8_look_218 : decode cX8_look 218 = .ok (.getfield 57, 3) := by decide +kernel
theorem dX8_look_221 : decode cX8_look 221 = .ok (.bipush 6, 2) := by decide +kernel
theorem dX8_look_223 : decode cX8_look 223 = .ok (.iaload, 1) := by decide +kernel
theorem dX8_look_224 : decode cX8_look 224 = .ok (.ireturn, 1) := by decide +kernel
theorem dX8_look_225 : decode cX8_look 225 = .ok (.ldc 194, 2) := by decide +kernel
theorem dX8_look_227 : decode cX8_look 227 = .ok (.ireturn, 1) := by decide +kernel
theorem dX8_lot_0 : decode cX8_lot 0 = .ok (.aload_n 0, 1) := by decide +kernel
theorem dX8_lot_1 : decode cX8_lot 1 = .ok (.getfield 12, 3) := by decide +kernel
theorem dX8_lot_4 : decode cX8_lot 4 = .ok (.iload_n 1, 1) := by decide +kernel
theorem dX8_lot_5 : decode cX8_lot 5 = .ok (.invokevirtual 60, 3) := by decide +kernel
theorem dX8_lot_8 : decode cX8_lot 8 = .ok (.ifCond .eq 10, 3) := by decide +kernel
theorem dX8_lot_11 : decode cX8_lot 11 = .ok (.iload_n 2, 1) := by decide +kernel
theorem dX8_lot_12 : decode cX8_lot 12 = .ok (.invokestatic 68, 3) := by decide +kernel
theorem dX8_lot_15 : decode cX8_lot 15 = .ok (.ifCond .ne 5, 3) := by decide +kernel
theorem dX8_lot_18 : decode cX8_lot 18 = .ok (.iconst (-1), 1) := by decide +kernel
theorem dX8_lot_19 : decode cX8_lot 19 = .ok (.ireturn, 1) := by decide +kernel
theorem dX8_lot_20 : decode cX8_lot 20 = .ok (.aload_n 0, 1) := by decide +kernel
theorem dX8_lot_21 : decode cX8_lot 21 = .ok (.getfield 12, 3) := by decide +kernel
theorem dX8_lot_24 : decode cX8_lot 24 = .ok (.getfield 72, 3) := by decide +kernel
theorem dX8_lot_27 : decode cX8_lot 27 = .ok (.iload_n 2, 1) := by decide +kernel
theorem dX8_lot_28 : decode cX8_lot 28 = .ok (.aaload, 1) := by decide +kernel
theorem dX8_lot_29 : decode cX8_lot 29 = .ok (.astore 5, 2) := by decide +kernel
theorem dX8_lot_31 : decode cX8_lot 31 = .ok (.aload 5, 2) := by decide +kernel
theorem dX8_lot_33 : decode cX8_lot 33 = .ok (.iload_n 1, 1) := by decide +kernel
theorem dX8_lot_34 : decode cX8_lot 34 = .ok (.iload_n 3, 1) := by decide +kernel
theorem dX8_lot_35 : decode cX8_lot 35 = .ok (.invokevirtual 202, 3) := by decide +kernel
theorem dX8_lot_38 : decode cX8_lot 38 = .ok (.istore 6, 2) := by decide +kernel
theorem dX8_lot_40 : decode cX8_lot 40 = .ok (.iload 6, 2) := by decide +kernel
theorem dX8_lot_42 : decode cX8_lot 42 = .ok (.iconst (-1), 1) := by decide +kernel
theorem dX8_lot_43 : decode cX8_lot 43 = .ok (.if_icmp .ne 5, 3) := by decide +kernel
theorem dX8_lot_46 : decode cX8_lot 46 = .ok (.iconst (-1), 1) := by decide +kernel
theorem dX8_lot_47 : decode cX8_lot 47 = .ok (.ireturn, 1) := by decide +kernel
theorem dX8_lot_48 : decode cX8_lot 48 = .ok (.iload 4, 2) := by decide +kernel
theorem dX8_lot_50 : decode cX8_lot 50 = .ok (.lookupswitch 40 #[(0, 26), (1, 29)], 26) := by decide +kernel
theorem dX8_lot_76 : decode cX8_lot 76 = .ok (.iload 6, 2) := by decide +kernel
theorem dX8_lot_78 : decode cX8_lot 78 = .ok (.ireturn, 1) := by decide +kernel
theorem dX8_lot_79 : decode cX8_lot 79 = .ok (.aload 5, 2) := by decide +kernel
theorem dX8_lot_81 : decode cX8_lot 81 = .ok (.getfield 205, 3) := by decide +kernel
theorem dX8_lot_84 : decode cX8_lot 84 = .ok (.iload_n 1, 1) := by decide +kernel
theorem dX8_lot_85 : decode cX8_lot 85 = .ok (.aaload, 1) := by decide +kernel
theorem dX8_lot_86 : decode cX8_lot 86 = .ok (.iload 6, 2) := by decide +kernel
theorem dX8_lot_88 : decode cX8_lot 88 = .ok (.iaload, 1) := by decide +kernel
theorem dX8_lot_89 : decode cX8_lot 89 = .ok (.ireturn, 1) := by decide +kernel
theorem dX8_lot_90 : decode cX8_lot 90 = .ok (.iconst (-1), 1) := by decide +kernel
theorem dX8_lot_91 : decode cX8_lot 91 = .ok (.ireturn, 1) := by decide +kernel
theorem dX8_margin_0 : decode cX8_margin 0 = .ok (.aload_n 0, 1) := by decide +kernel
theorem dX8_margin_1 : decode cX8_margin 1 = .ok (.getfield 12, 3) := by decide +kernel
theorem dX8_margin_4 : decode cX8_margin 4 = .ok (.iload_n 1, 1) := by decide +kernel
theorem dX8_margin_5 : decode cX8_margin 5 = .ok (.invokevirtual 60, 3) := by decide +kernel
theorem dX8_margin_8 : decode cX8_margin 8 = .ok (.ifCond .ne 7, 3) := by decide +kernel
theorem dX8_margin_11 : decode cX8_margin 11 = .ok (.ldc2_w 224, 3) := by decide +kernel
theorem dX8_margin_14 : decode cX8_margin 14 = .ok (.lreturn, 1) := by decide +kernel
theorem dX8_margin_15 : decode cX8_margin 15 = .ok (.iload_n 2, 1) := by decide +kernel
theorem dX8_margin_16 : decode cX8_margin 16 = .ok (.tableswitch 57 0 2 #[28, 37, 48], 28) := by decide +kernel
theorem dX8_margin_44 : decode cX8_margin 44 = .ok (.aload_n 0, 1) := by decide +kernel
theorem dX8_margin_45 : decode cX8_margin 45 = .ok (.getfield 12, 3) := by decide +kernel
theorem dX8_margin_48 : decode cX8_margin 48 = .ok (.iload_n 1, 1) := by decide +kernel
theorem dX8_margin_49 : decode cX8_margin 49 = .ok (.invokestatic 226, 3) := by decide +kernel
theorem dX8_margin_52 : decode cX8_margin 52 = .ok (.lreturn, 1) := by decide +kernel
theorem dX8_margin_53 : decode cX8_margin 53 = .ok (.aload_n 0, 1) := by decide +kernel
theorem dX8_margin_54 : decode cX8_margin 54 = .ok (.getfield 12, 3) := by decide +kernel
theorem dX8_margin_57 : decode cX8_margin 57 = .ok (.getfield 120, 3) := by decide +kernel
theorem dX8_margin_60 : decode cX8_margin 60 = .ok (.iload_n 1, 1) := by decide +kernel
theorem dX8_margin_61 : decode cX8_margin 61 = .ok (.iaload, 1) := by decide +kernel
theorem dX8_margin_62 : decode cX8_margin 62 = .ok (.i2l, 1) := by decide +kernel
theorem dX8_margin_63 : decode cX8_margin 63 = .ok (.lreturn, 1) := by decide +kernel
theorem dX8_margin_64 : decode cX8_margin 64 = .ok (.aload_n 0, 1) := by decide +kernel
theorem dX8_margin_65 : decode cX8_margin 65 = .ok (.getfield 12, 3) := by decide +kernel
theorem dX8_margin_68 : decode cX8_margin 68 = .ok (.iload_n 1, 1) := by decide +kernel
theorem dX8_margin_69 : decode cX8_margin 69 = .ok (.invokestatic 230, 3) := by decide +kernel
theorem dX8_margin_72 : decode cX8_margin 72 = .ok (.lreturn, 1) := by decide +kernel
theorem dX8_margin_73 : decode cX8_margin 73 = .ok (.ldc2_w 224, 3) := by decide +kernel
theorem dX8_margin_76 : decode cX8_margin 76 = .ok (.lreturn, 1) := by decide +kernel
theorem dX8_move_0 : decode cX8_move 0 = .ok (.aload_n 0, 1) := by decide +kernel
theorem dX8_move_1 : decode cX8_move 1 = .ok (.getfield 12, 3) := by decide +kernel
theorem dX8_move_4 : decode cX8_move 4 = .ok (.iload_n 1, 1) := by decide +kernel
theorem dX8_move_5 : decode cX8_move 5 = .ok (.invokevirtual 60, 3) := by decide +kernel
theorem dX8_move_8 : decode cX8_move 8 = .ok (.ifCond .eq 26, 3) := by decide +kernel
theorem dX8_move_11 : decode cX8_move 11 = .ok (.aload_n 0, 1) := by decide +kernel
theorem dX8_move_12 : decode cX8_move 12 = .ok (.getfield 12, 3) := by decide +kernel
theorem dX8_move_15 : decode cX8_move 15 = .ok (.iload_n 2, 1) := by decide +kernel
theorem dX8_move_16 : decode cX8_move 16 = .ok (.invokevirtual 60, 3) := by decide +kernel
theorem dX8_move_19 : decode cX8_move 19 = .ok (.ifCond .eq 15, 3) := by decide +kernel
theorem dX8_move_22 : decode cX8_move 22 = .ok (.iload_n 1, 1) := by decide +kernel
theorem dX8_move_23 : decode cX8_move 23 = .ok (.iload_n 2, 1) := by decide +kernel
theorem dX8_move_24 : decode cX8_move 24 = .ok (.if_icmp .eq 10, 3) := by decide +kernel
theorem dX8_move_27 : decode cX8_move 27 = .ok (.iload_n 3, 1) := by decide +kernel
theorem dX8_move_28 : decode cX8_move 28 = .ok (.invokestatic 68, 3) := by decide +kernel
theorem dX8_move_31 : decode cX8_move 31 = .ok (.ifCond .ne 5, 3) := by decide +kernel
theorem dX8_move_34 : decode cX8_move 34 = .ok (.iconst 0, 1) := by decide +kernel
theorem dX8_move_35 : decode cX8_move 35 = .ok (.ireturn, 1) := by decide +kernel
theorem dX8_move_36 : decode cX8_move 36 = .ok (.iload 4, 2) := by decide +kernel
theorem dX8_move_38 : decode cX8_move 38 = .ok (.iconst 1, 1) := by decide +kernel
theorem dX8_move_39 : decode cX8_move 39 = .ok (.if_icmp .lt 19, 3) := by decide +kernel
theorem dX8_move_42 : decode cX8_move 42 = .ok (.iload 4, 2) := by decide +kernel
theorem dX8_move_44 : decode cX8_move 44 = .ok (.i2l, 1) := by decide +kernel
theorem dX8_move_45 : decode cX8_move 45 = .ok (.aload_n 0, 1) := by decide +kernel
theorem dX8_move_46 : decode cX8_move 46 = .ok (.getfield 12, 3) := by decide +kernel
theorem dX8_move_49 : decode cX8_move 49 = .ok (.iload_n 3, 1) := by decide +kernel
theorem dX8_move_50 : decode cX8_move 50 = .ok (.iload_n 1, 1) := by decide +kernel
theorem dX8_move_51 : decode cX8_move 51 = .ok (.invokevirtual 102, 3) := by decide +kernel
theorem dX8_move_54 : decode cX8_move 54 = .ok (.lcmp, 1) := by decide +kernel
theorem dX8_move_55 : decode cX8_move 55 = .ok (.ifCond .le 5, 3) := by decide +kernel
theorem dX8_move_58 : decode cX8_move 58 = .ok (.iconst 0, 1) := by decide +kernel
theorem dX8_move_59 : decode cX8_move 59 = .ok (.ireturn, 1) := by decide +kernel
theorem dX8_move_60 : decode cX8_move 60 = .ok (.aload_n 0, 1) := by decide +kernel
theorem dX8_move_61 : decode cX8_move 61 = .ok (.getfield 12, 3) := by decide +kernel
theorem dX8_move_64 : decode cX8_move 64 = .ok (.getfield 72, 3) := by decide +kernel
theorem dX8_move_67 : decode cX8_move 67 = .ok (.iload_n 3, 1) := by decide +kernel
theorem dX8_move_68 : decode cX8_move 68 = .ok (.aaload, 1) := by decide +kernel
theorem dX8_move_69 : decode cX8_move 69 = .ok (.astore 5, 2) := by decide +kernel
theorem dX8_move_71 : decode cX8_move 71 = .ok (.aload 5, 2) := by decide +kernel
theorem dX8_move_73 : decode cX8_move 73 = .ok (.getfield 76, 3) := by decide +kernel
theorem dX8_move_76 : decode cX8_move 76 = .ok (.iload_n 1, 1) := by decide +kernel
theorem dX8_move_77 : decode cX8_move 77 = .ok (.dup2, 1) := by decide +kernel
theorem dX8_move_78 : decode cX8_move 78 = .ok (.laload, 1) := by decide +kernel
theorem dX8_move_79 : decode cX8_move 79 = .ok (.iload 4, 2) := by decide +kernel
theorem dX8_move_81 : decode cX8_move 81 = .ok (.i2l, 1) := by decide +kernel
theorem dX8_move_82 : decode cX8_move 82 = .ok (.lsub, 1) := by decide +kernel
theorem dX8_move_83 : decode cX8_move 83 = .ok (.lastore, 1) := by decide +kernel
theorem dX8_move_84 : decode cX8_move 84 = .ok (.aload 5, 2) := by decide +kernel
theorem dX8_move_86 : decode cX8_move 86 = .ok (.getfield 76, 3) := by decide +kernel
theorem dX8_move_89 : decode cX8_move 89 = .ok (.iload_n 2, 1) := by decide +kernel
theorem dX8_move_90 : decode cX8_move 90 = .ok (.dup2, 1) := by decide +kernel
theorem dX8_move_91 : decode cX8_move 91 = .ok (.laload, 1) := by decide +kernel
theorem dX8_move_92 : decode cX8_move 92 = .ok (.iload 4, 2) := by decide +kernel
theorem dX8_move_94 : decode cX8_move 94 = .ok (.i2l, 1) := by decide +kernel
theorem dX8_move_95 : decode cX8_move 95 = .ok (.ladd, 1) := by decide +kernel
theorem dX8_move_96 : decode cX8_move 96 = .ok (.lastore, 1) := by decide +kernel
theorem dX8_move_97 : decode cX8_move 97 = .ok (.iconst 1, 1) := by decide +kernel
theorem dX8_move_98 : decode cX8_move 98 = .ok (.ireturn, 1) := by decide +kernel
theorem dX8_night_0 : decode cX8_night 0 = .ok (.aload_n 0, 1) := by decide +kernel
theorem dX8_night_1 : decode cX8_night 1 = .ok (.getfield 12, 3) := by decide +kernel
theorem dX8_night_4 : decode cX8_night 4 = .ok (.iload_n 1, 1) := by decide +kernel
theorem dX8_night_5 : decode cX8_night 5 = .ok (.invokestatic 123, 3) := by decide +kernel
theorem dX8_night_8 : decode cX8_night 8 = .ok (.ireturn, 1) := by decide +kernel
theorem dX8_notice_0 : decode cX8_notice 0 = .ok (.iload_n 2, 1) := by decide +kernel
theorem dX8_notice_1 : decode cX8_notice 1 = .ok (.ifCond .lt 22, 3) := by decide +kernel
theorem dX8_notice_4 : decode cX8_notice 4 = .ok (.iload_n 2, 1) := by decide +kernel
theorem dX8_notice_5 : decode cX8_notice 5 = .ok (.bipush 6, 2) := by decide +kernel
theorem dX8_notice_7 : decode cX8_notice 7 = .ok (.if_icmp .gt 16, 3) := by decide +kernel
theorem dX8_notice_10 : decode cX8_notice 10 = .ok (.aload_n 0, 1) := by decide +kernel
theorem dX8_notice_11 : decode cX8_notice 11 = .ok (.getfield 12, 3) := by decide +kernel
theorem dX8_notice_14 : decode cX8_notice 14 = .ok (.getfield 212, 3) := by decide +kernel
theorem dX8_notice_17 : decode cX8_notice 17 = .ok (.iload_n 2, 1) := by decide +kernel
theorem dX8_notice_18 : decode cX8_notice 18 = .ok (.iload_n 1, 1) := by decide +kernel
theorem dX8_notice_19 : decode cX8_notice 19 = .ok (.invokevirtual 171, 3) := by decide +kernel
theorem dX8_notice_22 : decode cX8_notice 22 = .ok (.ireturn, 1) := by decide +kernel
theorem dX8_notice_23 : decode cX8_notice 23 = .ok (.iload_n 2, 1) := by decide +kernel
theorem dX8_notice_24 : decode cX8_notice 24 = .ok (.bipush 10, 2) := by decide +kernel
theorem dX8_notice_26 : decode cX8_notice 26 = .ok (.if_icmp .lt 17, 3) := by decide +kernel
theorem dX8_notice_29 : decode cX8_notice 29 = .ok (.aload_n 0, 1) := by decide +kernel
theorem dX8_notice_30 : decode cX8_notice 30 = .ok (.getfield 12, 3) := by decide +kernel
theorem dX8_notice_33 : decode cX8_notice 33 = .ok (.iload_n 2, 1) := by decide +kernel
theorem dX8_notice_34 : decode cX8_notice 34 = .ok (.bipush 10, 2) := by decide +kernel
theorem dX8_notice_36 : decode cX8_notice 36 = .ok (.isub, 1) := by decide +kernel
theorem dX8_notice_37 : decode cX8_notice 37 = .ok (.invokevirtual 60, 3) := by decide +kernel
theorem dX8_notice_40 : decode cX8_notice 40 = .ok (.ifCond .ne 5, 3) := by decide +kernel
theorem dX8_notice_43 : decode cX8_notice 43 = .ok (.iconst (-1), 1) := by decide +kernel
theorem dX8_notice_44 : decode cX8_notice 44 = .ok (.ireturn, 1) := by decide +kernel
theorem dX8_notice_45 : decode cX8_notice 45 = .ok (.aload_n 0, 1) := by decide +kernel
theorem dX8_notice_46 : decode cX8_notice 46 = .ok (.getfield 12, 3) := by decide +kernel
theorem dX8_notice_49 : decode cX8_notice 49 = .ok (.getfield 212, 3) := by decide +kernel
theorem dX8_notice_52 : decode cX8_notice 52 = .ok (.bipush 7, 2) := by decide +kernel
theorem dX8_notice_54 : decode cX8_notice 54 = .ok (.iload_n 2, 1) := by decide +kernel
theorem dX8_notice_55 : decode cX8_notice 55 = .ok (.iadd, 1) := by decide +kernel
theorem dX8_notice_56 : decode cX8_notice 56 = .ok (.bipush 10, 2) := by decide +kernel
theorem dX8_notice_58 : decode cX8_notice 58 = .ok (.isub, 1) := by decide +kernel
theorem dX8_notice_59 : decode cX8_notice 59 = .ok (.iload_n 1, 1) := by decide +kernel
theorem dX8_notice_60 : decode cX8_notice 60 = .ok (.invokevirtual 171, 3) := by decide +kernel
theorem dX8_notice_63 : decode cX8_notice 63 = .ok (.ireturn, 1) := by decide +kernel
theorem dX8_perform_0 : decode cX8_perform 0 = .ok (.aload_n 0, 1) := by decide +kernel
theorem dX8_perform_1 : decode cX8_perform 1 = .ok (.getfield 12, 3) := by decide +kernel
theorem dX8_perform_4 : decode cX8_perform 4 = .ok (.getfield 152, 3) := by decide +kernel
theorem dX8_perform_7 : decode cX8_perform 7 = .ok (.astore_n 2, 1) := by decide +kernel
theorem dX8_perform_8 : decode cX8_perform 8 = .ok (.aload_n 2, 1) := by decide +kernel
theorem dX8_perform_9 : decode cX8_perform 9 = .ok (.iconst 1, 1) := by decide +kernel
theorem dX8_perform_10 : decode cX8_perform 10 = .ok (.iload_n 1, 1) := by decide +kernel
theorem dX8_perform_11 : decode cX8_perform 11 = .ok (.invokevirtual 171, 3) := by decide +kernel
theorem dX8_perform_14 : decode cX8_perform 14 = .ok (.istore_n 3, 1) := by decide +kernel
theorem dX8_perform_15 : decode cX8_perform 15 = .ok (.aload_n 2, 1) := by decide +kernel
theorem dX8_perform_16 : decode cX8_perform 16 = .ok (.iconst 2, 1) := by decide +kernel
theorem dX8_perform_17 : decode cX8_perform 17 = .ok (.iload_n 1, 1) := by decide +kernel
theorem dX8_perform_18 : decode cX8_perform 18 = .ok (.invokevirtual 171, 3) := by decide +kernel
theorem dX8_perform_21 : decode cX8_perform 21 = .ok (.istore 4, 2) := by decide +kernel
theorem dX8_perform_23 : decode cX8_perform 23 = .ok (.aload_n 2, 1) := by decide +kernel
theorem dX8_perform_24 : decode cX8_perform 24 = .ok (.iconst 3, 1) := by decide +kernel
theorem dX8_perform_25 : decode cX8_perform 25 = .ok (.iload_n 1, 1) := by decide +kernel
theorem dX8_perform_26 : decode cX8_perform 26 = .ok (.invokevirtual 171, 3) := by decide +kernel
theorem dX8_perform_29 : decode cX8_perform 29 = .ok (.istore 5, 2) := by decide +kernel
theorem dX8_perform_31 : decode cX8_perform 31 = .ok (.aload_n 2, 1) := by decide +kernel
theorem dX8_perform_32 : decode cX8_perform 32 = .ok (.iconst 0, 1) := by decide +kernel
theorem dX8_perform_33 : decode cX8_perform 33 = .ok (.iload_n 1, 1) := by decide +kernel
theorem dX8_perform_34 : decode cX8_perform 34 = .ok (.invokevirtual 171, 3) := by decide +kernel
theorem dX8_perform_37 : decode cX8_perform 37 = .ok (.tableswitch 204 0 8 #[51, 82, 113, 124, 135, 146, 156, 164, 186], 51) := by decide +kernel
theorem dX8_perform_88 : decode cX8_perform 88 = .ok (.aload_n 0, 1) := by decide +kernel
theorem dX8_perform_89 : decode cX8_perform 89 = .ok (.iload_n 3, 1) := by decide +kernel
theorem dX8_perform_90 : decode cX8_perform 90 = .ok (.iload 4, 2) := by decide +kernel
theorem dX8_perform_92 : decode cX8_perform 92 = .ok (.iload 5, 2) := by decide +kernel
theorem dX8_perform_94 : decode cX8_perform 94 = .ok (.aload_n 2, 1) := by decide +kernel
theorem dX8_perform_95 : decode cX8_perform 95 = .ok (.iconst 4, 1) := by decide +kernel
theorem dX8_perform_96 : decode cX8_perform 96 = .ok (.iload_n 1, 1) := by decide +kernel
theorem dX8_perform_97 : decode cX8_perform 97 = .ok (.invokevirtual 171, 3) := by decide +kernel
theorem dX8_perform_100 : decode cX8_perform 100 = .ok (.aload_n 2, 1) := by decide +kernel
theorem dX8_perform_101 : decode cX8_perform 101 = .ok (.iconst 5, 1) := by decide +kernel
theorem dX8_perform_102 : decode cX8_perform 102 = .ok (.iload_n 1, 1) := by decide +kernel
theorem dX8_perform_103 : decode cX8_perform 103 = .ok (.invokevirtual 171, 3) := by decide +kernel
theorem dX8_perform_106 : decode cX8_perform 106 = .ok (.invokevirtual 178, 3) := by decide +kernel
theorem dX8_perform_109 : decode cX8_perform 109 = .ok (.iconst (-1), 1) := by decide +kernel
theorem dX8_perform_110 : decode cX8_perform 110 = .ok (.if_icmp .eq 7, 3) := by decide +kernel
theorem dX8_perform_113 : decode cX8_perform 113 = .ok (.iconst 1, 1) := by decide +kernel
theorem dX8_perform_114 : decode cX8_perform 114 = .ok (.goto 4, 3) := by decide +kernel
theorem dX8_perform_117 : decode cX8_perform 117 = .ok (.iconst 0, 1) := by decide +kernel
theorem dX8_perform_118 : decode cX8_perform 118 = .ok (.ireturn, 1) := by decide +kernel
theorem dX8_perform_119 : decode cX8_perform 119 = .ok (.aload_n 0, 1) := by decide +kernel
theorem dX8_perform_120 : decode cX8_perform 120 = .ok (.iload_n 3, 1) := by decide +kernel
theorem dX8_perform_121 : decode cX8_perform 121 = .ok (.iload 4, 2) := by decide +kernel
theorem dX8_perform_123 : decode cX8_perform 123 = .ok (.iload 5, 2) := by decide +kernel
theorem dX8_perform_125 : decode cX8_perform 125 = .ok (.aload_n 2, 1) := by decide +kernel
theorem dX8_perform_126 : decode cX8_perform 126 = .ok (.iconst 4, 1) := by decide +kernel
theorem dX8_perform_127 : decode cX8_perform 127 = .ok (.iload_n 1, 1) := by decide +kernel
theorem dX8_perform_128 : decode cX8_perform 128 = .ok (.invokevirtual 171, 3) := by decide +kernel
theorem dX8_perform_131 : decode cX8_perform 131 = .ok (.aload_n 2, 1) := by decide +kernel
theorem dX8_perform_132 : decode cX8_perform 132 = .ok (.iconst 5, 1) := by decide +kernel
theorem dX8_perform_133 : decode cX8_perform 133 = .ok (.iload_n 1, 1) := by decide +kernel
theorem dX8_perform_134 : decode cX8_perform 134 = .ok (.invokevirtual 171, 3) := by decide +kernel
theorem dX8_perform_137 : decode cX8_perform 137 = .ok (.invokevirtual 182, 3) := by decide +kernel
theorem dX8_perform_140 : decode cX8_perform 140 = .ok (.iconst (-1), 1) := by decide +kernel
theorem dX8_perform_141 : decode cX8_perform 141 = .ok (.if_icmp .eq 7, 3) := by decide +kernel
theorem dX8_perform_144 : decode cX8_perform 144 = .ok (.iconst 1, 1) := by decide +kernel
theorem dX8_perform_145 : decode cX8_perform 145 = .ok (.goto 4, 3) := by decide +kernel
theorem dX8_perform_148 : decode cX8_perform 148 = .ok (.iconst 0, 1) := by decide +kernel
theorem dX8_perform_149 : decode cX8_perform 149 = .ok (.ireturn, 1) := by decide +kernel
theorem dX8_perform_150 : decode cX8_perform 150 = .ok (.aload_n 0, 1) := by decide +kernel
theorem dX8_perform_151 : decode cX8_perform 151 = .ok (.iload_n 3, 1) := by decide +kernel
theorem dX8_perform_152 : decode cX8_perform 152 = .ok (.iload 4, 2) := by decide +kernel
theorem dX8_perform_154 : decode cX8_perform 154 = .ok (.iconst 0, 1) := by decide +kernel
theorem dX8_perform_155 : decode cX8_perform 155 = .ok (.iload 5, 2) := by decide +kernel
theorem dX8_perform_157 : decode cX8_perform 157 = .ok (.invokevirtual 185, 3) := by decide +kernel
theorem dX8_perform_160 : decode cX8_perform 160 = .ok (.ireturn, 1) := by decide +kernel
theorem dX8_perform_161 : decode cX8_perform 161 = .ok (.aload_n 0, 1) := by decide +kernel
theorem dX8_perform_162 : decode cX8_perform 162 = .ok (.iload_n 3, 1) := by decide +kernel
theorem dX8_perform_163 : decode cX8_perform 163 = .ok (.iload 4, 2) := by decide +kernel
theorem dX8_perform_165 : decode cX8_perform 165 = .ok (.iconst 1, 1) := by decide +kernel
theorem dX8_perform_166 : decode cX8_perform 166 = .ok (.iload 5, 2) := by decide +kernel
theorem dX8_perform_168 : decode cX8_perform 168 = .ok (.invokevirtual 185, 3) := by decide +kernel
theorem dX8_perform_171 : decode cX8_perform 171 = .ok (.ireturn, 1) := by decide +kernel
theorem dX8_perform_172 : decode cX8_perform 172 = .ok (.aload_n 0, 1) := by decide +kernel
theorem dX8_perform_173 : decode cX8_perform 173 = .ok (.iload_n 3, 1) := by decide +kernel
theorem dX8_perform_174 : decode cX8_perform 174 = .ok (.iload 4, 2) := by decide +kernel
theorem dX8_perform_176 : decode cX8_perform 176 = .ok (.iconst 2, 1) := by decide +kernel
theorem dX8_perform_177 : decode cX8_perform 177 = .ok (.iload 5, 2) := by decide +kernel
theorem dX8_perform_179 : decode cX8_perform 179 = .ok (.invokevirtual 185, 3) := by decide +kernel
theorem dX8_perform_182 : decode cX8_perform 182 = .ok (.ireturn, 1) := by decide +kernel
theorem dX8_perform_183 : decode cX8_perform 183 = .ok (.aload_n 0, 1) := by decide +kernel
theorem dX8_perform_184 : decode cX8_perform 184 = .ok (.iload_n 3, 1) := by decide +kernel
theorem dX8_perform_185 : decode cX8_perform 185 = .ok (.iconst 0, 1) := by decide +kernel
theorem dX8_perform_186 : decode cX8_perform 186 = .ok (.iconst 3, 1) := by decide +kernel
theorem dX8_perform_187 : decode cX8_perform 187 = .ok (.iload 4, 2) := by decide +kernel
theorem dX8_perform_189 : decode cX8_perform 189 = .ok (.invokevirtual 185, 3) := by decide +kernel
theorem dX8_perform_192 : decode cX8_perform 192 = .ok (.ireturn, 1) := by decide +kernel
theorem dX8_perform_193 : decode cX8_perform 193 = .ok (.aload_n 0, 1) := by decide +kernel
theorem dX8_perform_194 : decode cX8_perform 194 = .ok (.iload_n 3, 1) := by decide +kernel
theorem dX8_perform_195 : decode cX8_perform 195 = .ok (.iload 4, 2) := by decide +kernel
theorem dX8_perform_197 : decode cX8_perform 197 = .ok (.invokevirtual 189, 3) := by decide +kernel
theorem dX8_perform_200 : decode cX8_perform 200 = .ok (.ireturn, 1) := by decide +kernel
theorem dX8_perform_201 : decode cX8_perform 201 = .ok (.aload_n 0, 1) := by decide +kernel
theorem dX8_perform_202 : decode cX8_perform 202 = .ok (.getfield 12, 3) := by decide +kernel
theorem dX8_perform_205 : decode cX8_perform 205 = .ok (.iload_n 3, 1) := by decide +kernel
theorem dX8_perform_206 : decode cX8_perform 206 = .ok (.iload 4, 2) := by decide +kernel
theorem dX8_perform_208 : decode cX8_perform 208 = .ok (.iload 5, 2) := by decide +kernel
theorem dX8_perform_210 : decode cX8_perform 210 = .ok (.invokestatic 129, 3) := by decide +kernel
theorem dX8_perform_213 : decode cX8_perform 213 = .ok (.iconst (-1), 1) := by decide +kernel
theorem dX8_perform_214 : decode cX8_perform 214 = .ok (.if_icmp .eq 7, 3) := by decide +kernel
theorem dX8_perform_217 : decode cX8_perform 217 = .ok (.iconst 1, 1) := by decide +kernel
theorem dX8_perform_218 : decode cX8_perform 218 = .ok (.goto 4, 3) := by decide +kernel
theorem dX8_perform_221 : decode cX8_perform 221 = .ok (.iconst 0, 1) := by decide +kernel
theorem dX8_perform_222 : decode cX8_perform 222 = .ok (.ireturn, 1) := by decide +kernel
theorem dX8_perform_223 : decode cX8_perform 223 = .ok (.aload_n 0, 1) := by decide +kernel
theorem dX8_perform_224 : decode cX8_perform 224 = .ok (.getfield 12, 3) := by decide +kernel
theorem dX8_perform_227 : decode cX8_perform 227 = .ok (.iload_n 3, 1) := by decide +kernel
theorem dX8_perform_228 : decode cX8_perform 228 = .ok (.invokestatic 135, 3) := by decide +kernel
theorem dX8_perform_231 : decode cX8_perform 231 = .ok (.iconst (-1), 1) := by decide +kernel
theorem dX8_perform_232 : decode cX8_perform 232 = .ok (.if_icmp .eq 7, 3) := by decide +kernel
theorem dX8_perform_235 : decode cX8_perform 235 = .ok (.iconst 1, 1) := by decide +kernel
theorem dX8_perform_236 : decode cX8_perform 236 = .ok (.goto 4, 3) := by decide +kernel
theorem dX8_perform_239 : decode cX8_perform 239 = .ok (.iconst 0, 1) := by decide +kernel
theorem dX8_perform_240 : decode cX8_perform 240 = .ok (.ireturn, 1) := by decide +kernel
theorem dX8_perform_241 : decode cX8_perform 241 = .ok (.iconst 0, 1) := by decide +kernel
theorem dX8_perform_242 : decode cX8_perform 242 = .ok (.ireturn, 1) := by decide +kernel
theorem dX8_plan_0 : decode cX8_plan 0 = .ok (.aload_n 0, 1) := by decide +kernel
theorem dX8_plan_1 : decode cX8_plan 1 = .ok (.getfield 25, 3) := by decide +kernel
theorem dX8_plan_4 : decode cX8_plan 4 = .ok (.invokevirtual 149, 3) := by decide +kernel
theorem dX8_plan_7 : decode cX8_plan 7 = .ok (.ifCond .ne 5, 3) := by decide +kernel
theorem dX8_plan_10 : decode cX8_plan 10 = .ok (.iconst (-1), 1) := by decide +kernel
theorem dX8_plan_11 : decode cX8_plan 11 = .ok (.ireturn, 1) := by decide +kernel
theorem dX8_plan_12 : decode cX8_plan 12 = .ok (.aload_n 0, 1) := by decide +kernel
theorem dX8_plan_13 : decode cX8_plan 13 = .ok (.getfield 12, 3) := by decide +kernel
theorem dX8_plan_16 : decode cX8_plan 16 = .ok (.getfield 152, 3) := by decide +kernel
theorem dX8_plan_19 : decode cX8_plan 19 = .ok (.aload_n 0, 1) := by decide +kernel
theorem dX8_plan_20 : decode cX8_plan 20 = .ok (.getfield 25, 3) := by decide +kernel
theorem dX8_plan_23 : decode cX8_plan 23 = .ok (.getfield 155, 3) := by decide +kernel
theorem dX8_plan_26 : decode cX8_plan 26 = .ok (.invokevirtual 158, 3) := by decide +kernel
theorem dX8_plan_29 : decode cX8_plan 29 = .ok (.aload_n 0, 1) := by decide +kernel
theorem dX8_plan_30 : decode cX8_plan 30 = .ok (.getfield 12, 3) := by decide +kernel
theorem dX8_plan_33 : decode cX8_plan 33 = .ok (.iconst 0, 1) := by decide +kernel
theorem dX8_plan_34 : decode cX8_plan 34 = .ok (.putfield 162, 3) := by decide +kernel
theorem dX8_plan_37 : decode cX8_plan 37 = .ok (.aload_n 0, 1) := by decide +kernel
theorem dX8_plan_38 : decode cX8_plan 38 = .ok (.getfield 12, 3) := by decide +kernel
theorem dX8_plan_41 : decode cX8_plan 41 = .ok (.getfield 152, 3) := by decide +kernel
theorem dX8_plan_44 : decode cX8_plan 44 = .ok (.invokevirtual 51, 3) := by decide +kernel
theorem dX8_plan_47 : decode cX8_plan 47 = .ok (.ireturn, 1) := by decide +kernel
theorem dX8_price_0 : decode cX8_price 0 = .ok (.iload_n 1, 1) := by decide +kernel
theorem dX8_price_1 : decode cX8_price 1 = .ok (.invokestatic 68, 3) := by decide +kernel
theorem dX8_price_4 : decode cX8_price 4 = .ok (.ifCond .eq 14, 3) := by decide +kernel
theorem dX8_price_7 : decode cX8_price 7 = .ok (.iload_n 2, 1) := by decide +kernel
theorem dX8_price_8 : decode cX8_price 8 = .ok (.iconst 1, 1) := by decide +kernel
theorem dX8_price_9 : decode cX8_price 9 = .ok (.sipush 9999, 3) := by decide +kernel
theorem dX8_price_12 : decode cX8_price 12 = .ok (.invokestatic 43, 3) := by decide +kernel
theorem dX8_price_15 : decode cX8_price 15 = .ok (.ifCond .ne 5, 3) := by decide +kernel
theorem dX8_price_18 : decode cX8_price 18 = .ok (.iconst 0, 1) := by decide +kernel
theorem dX8_price_19 : decode cX8_price 19 = .ok (.ireturn, 1) := by decide +kernel
theorem dX8_price_20 : decode cX8_price 20 = .ok (.aload_n 0, 1) := by decide +kernel
theorem dX8_price_21 : decode cX8_price 21 = .ok (.getfield 12, 3) := by decide +kernel
theorem dX8_price_24 : decode cX8_price 24 = .ok (.getfield 72, 3) := by decide +kernel
theorem dX8_price_27 : decode cX8_price 27 = .ok (.iload_n 1, 1) := by decide +kernel
theorem dX8_price_28 : decode cX8_price 28 = .ok (.aaload, 1) := by decide +kernel
theorem dX8_price_29 : decode cX8_price 29 = .ok (.iload_n 2, 1) := by decide +kernel
theorem dX8_price_30 : decode cX8_price 30 = .ok (.putfield 91, 3) := by decide +kernel
theorem dX8_price_33 : decode cX8_price 33 = .ok (.iconst 1, 1) := by decide +kernel
theorem dX8_price_34 : decode cX8_price 34 = .ok (.ireturn, 1) := by decide +kernel
theorem dX8_queue_0 : decode cX8_queue 0 = .ok (.iload_n 1, 1) := by decide +kernel
theorem dX8_queue_1 : decode cX8_queue 1 = .ok (.invokestatic 68, 3) := by decide +kernel
theorem dX8_queue_4 : decode cX8_queue 4 = .ok (.ifCond .ne 5, 3) := by decide +kernel
theorem dX8_queue_7 : decode cX8_queue 7 = .ok (.iconst (-1), 1) := by decide +kernel
theorem dX8_queue_8 : decode cX8_queue 8 = .ok (.ireturn, 1) := by decide +kernel
theorem dX8_queue_9 : decode cX8_queue 9 = .ok (.aload_n 0, 1) := by decide +kernel
theorem dX8_queue_10 : decode cX8_queue 10 = .ok (.getfield 12, 3) := by decide +kernel
theorem dX8_queue_13 : decode cX8_queue 13 = .ok (.getfield 236, 3) := by decide +kernel
theorem dX8_queue_16 : decode cX8_queue 16 = .ok (.astore 4, 2) := by decide +kernel
theorem dX8_queue_18 : decode cX8_queue 18 = .ok (.aload 4, 2) := by decide +kernel
theorem dX8_queue_20 : decode cX8_queue 20 = .ok (.aload_n 0, 1) := by decide +kernel
theorem dX8_queue_21 : decode cX8_queue 21 = .ok (.getfield 12, 3) := by decide +kernel
theorem dX8_queue_24 : decode cX8_queue 24 = .ok (.iload_n 1, 1) := by decide +kernel
theorem dX8_queue_25 : decode cX8_queue 25 = .ok (.invokevirtual 240, 3) := by decide +kernel
theorem dX8_queue_28 : decode cX8_queue 28 = .ok (.iload_n 2, 1) := by decide +kernel
theorem dX8_queue_29 : decode cX8_queue 29 = .ok (.iconst (-1), 1) := by decide +kernel
theorem dX8_queue_30 : decode cX8_queue 30 = .ok (.if_icmp .ne 9, 3) := by decide +kernel
theorem dX8_queue_33 : decode cX8_queue 33 = .ok (.aload 4, 2) := by decide +kernel
theorem dX8_queue_35 : decode cX8_queue 35 = .ok (.getfield 246, 3) := by decide +kernel
theorem dX8_queue_38 : decode cX8_queue 38 = .ok (.ireturn, 1) := by decide +kernel
theorem dX8_queue_39 : decode cX8_queue 39 = .ok (.iload_n 2, 1) := by decide +kernel
theorem dX8_queue_40 : decode cX8_queue 40 = .ok (.ifCond .lt 12, 3) := by decide +kernel
theorem dX8_queue_43 : decode cX8_queue 43 = .ok (.iload_n 2, 1) := by decide +kernel
theorem dX8_queue_44 : decode cX8_queue 44 = .ok (.aload 4, 2) := by decide +kernel
theorem dX8_queue_46 : decode cX8_queue 46 = .ok (.getfield 246, 3) := by decide +kernel
theorem dX8_queue_49 : decode cX8_queue 49 = .ok (.if_icmp .lt 5, 3) := by decide +kernel
theorem dX8_queue_52 : decode cX8_queue 52 = .ok (.iconst (-1), 1) := by decide +kernel
theorem dX8_queue_53 : decode cX8_queue 53 = .ok (.ireturn, 1) := by decide +kernel
theorem dX8_queue_54 : decode cX8_queue 54 = .ok (.iload_n 3, 1) := by decide +kernel
theorem dX8_queue_55 : decode cX8_queue 55 = .ok (.tableswitch 70 0 2 #[25, 33, 41], 25) := by decide +kernel
theorem dX8_queue_80 : decode cX8_queue 80 = .ok (.aload 4, 2) := by decide +kernel
theorem dX8_queue_82 : decode cX8_queue 82 = .ok (.getfield 248, 3) := by decide +kernel
theorem dX8_queue_85 : decode cX8_queue 85 = .ok (.iload_n 2, 1) := by decide +kernel
theorem dX8_queue_86 : decode cX8_queue 86 = .ok (.iaload, 1) := by decide +kernel
theorem dX8_queue_87 : decode cX8_queue 87 = .ok (.ireturn, 1) := by decide +kernel
theorem dX8_queue_88 : decode cX8_queue 88 = .ok (.aload 4, 2) := by decide +kernel
theorem dX8_queue_90 : decode cX8_queue 90 = .ok (.getfield 251, 3) := by decide +kernel
theorem dX8_queue_93 : decode cX8_queue 93 = .ok (.iload_n 2, 1) := by decide +kernel
theorem dX8_queue_94 : decode cX8_queue 94 = .ok (.iaload, 1) := by decide +kernel
theorem dX8_queue_95 : decode cX8_queue 95 = .ok (.ireturn, 1) := by decide +kernel
theorem dX8_queue_96 : decode cX8_queue 96 = .ok (.aload_n 0, 1) := by decide +kernel
theorem dX8_queue_97 : decode cX8_queue 97 = .ok (.getfield 12, 3) := by decide +kernel
theorem dX8_queue_100 : decode cX8_queue 100 = .ok (.getfield 72, 3) := by decide +kernel
theorem dX8_queue_103 : decode cX8_queue 103 = .ok (.iload_n 1, 1) := by decide +kernel
theorem dX8_queue_104 : decode cX8_queue 104 = .ok (.aaload, 1) := by decide +kernel
theorem dX8_queue_105 : decode cX8_queue 105 = .ok (.getfield 205, 3) := by decide +kernel
theorem dX8_queue_108 : decode cX8_queue 108 = .ok (.aload 4, 2) := by decide +kernel
theorem dX8_queue_110 : decode cX8_queue 110 = .ok (.getfield 248, 3) := by decide +kernel
theorem dX8_queue_113 : decode cX8_queue 113 = .ok (.iload_n 2, 1) := by decide +kernel
theorem dX8_queue_114 : decode cX8_queue 114 = .ok (.iaload, 1) := by decide +kernel
theorem dX8_queue_115 : decode cX8_queue 115 = .ok (.aaload, 1) := by decide +kernel
theorem dX8_queue_116 : decode cX8_queue 116 = .ok (.aload 4, 2) := by decide +kernel
theorem dX8_queue_118 : decode cX8_queue 118 = .ok (.getfield 251, 3) := by decide +kernel
theorem dX8_queue_121 : decode cX8_queue 121 = .ok (.iload_n 2, 1) := by decide +kernel
theorem dX8_queue_122 : decode cX8_queue 122 = .ok (.iaload, 1) := by decide +kernel
theorem dX8_queue_123 : decode cX8_queue 123 = .ok (.iaload, 1) := by decide +kernel
theorem dX8_queue_124 : decode cX8_queue 124 = .ok (.ireturn, 1) := by decide +kernel
theorem dX8_queue_125 : decode cX8_queue 125 = .ok (.iconst (-1), 1) := by decide +kernel
theorem dX8_queue_126 : decode cX8_queue 126 = .ok (.ireturn, 1) := by decide +kernel
theorem dX8_reached_0 : decode cX8_reached 0 = .ok (.aload_n 0, 1) := by decide +kernel
theorem dX8_reached_1 : decode cX8_reached 1 = .ok (.getfield 12, 3) := by decide +kernel
theorem dX8_reached_4 : decode cX8_reached 4 = .ok (.getfield 47, 3) := by decide +kernel
theorem dX8_reached_7 : decode cX8_reached 7 = .ok (.astore_n 3, 1) := by decide +kernel
theorem dX8_reached_8 : decode cX8_reached 8 = .ok (.aload_n 3, 1) := by decide +kernel
theorem dX8_reached_9 : decode cX8_reached 9 = .ok (.iconst 5, 1) := by decide +kernel
theorem dX8_reached_10 : decode cX8_reached 10 = .ok (.iload_n 1, 1) := by decide +kernel
theorem dX8_reached_11 : decode cX8_reached 11 = .ok (.invokevirtual 171, 3) := by decide +kernel
theorem dX8_reached_14 : decode cX8_reached 14 = .ok (.iconst 1, 1) := by decide +kernel
theorem dX8_reached_15 : decode cX8_reached 15 = .ok (.if_icmp .ne 14, 3) := by decide +kernel
theorem dX8_reached_18 : decode cX8_reached 18 = .ok (.aload_n 3, 1) := by decide +kernel
theorem dX8_reached_19 : decode cX8_reached 19 = .ok (.bipush 7, 2) := by decide +kernel
theorem dX8_reached_21 : decode cX8_reached 21 = .ok (.iload_n 1, 1) := by decide +kernel
theorem dX8_reached_22 : decode cX8_reached 22 = .ok (.invokevirtual 171, 3) := by decide +kernel
theorem dX8_reached_25 : decode cX8_reached 25 = .ok (.iconst 1, 1) := by decide +kernel
theorem dX8_reached_26 : decode cX8_reached 26 = .ok (.if_icmp .ge 5, 3) := by decide +kernel
theorem dX8_reached_29 : decode cX8_reached 29 = .ok (.iconst (-1), 1) := by decide +kernel
theorem dX8_reached_30 : decode cX8_reached 30 = .ok (.ireturn, 1) := by decide +kernel
theorem dX8_reached_31 : decode cX8_reached 31 = .ok (.aload_n 0, 1) := by decide +kernel
theorem dX8_reached_32 : decode cX8_reached 32 = .ok (.getfield 12, 3) := by decide +kernel
theorem dX8_reached_35 : decode cX8_reached 35 = .ok (.iload_n 1, 1) := by decide +kernel
theorem dX8_reached_36 : decode cX8_reached 36 = .ok (.aload_n 3, 1) := by decide +kernel
theorem dX8_reached_37 : decode cX8_reached 37 = .ok (.bipush 7, 2) := by decide +kernel
theorem dX8_reached_39 : decode cX8_reached 39 = .ok (.iload_n 1, 1) := by decide +kernel
theorem dX8_reached_40 : decode cX8_reached 40 = .ok (.invokevirtual 171, 3) := by decide +kernel
theorem dX8_reached_43 : decode cX8_reached 43 = .ok (.invokestatic 270, 3) := by decide +kernel
theorem dX8_reached_46 : decode cX8_reached 46 = .ok (.iload_n 2, 1) := by decide +kernel
theorem dX8_reached_47 : decode cX8_reached 47 = .ok (.lookupswitch 41 #[(0, 25), (1, 33)], 25) := by decide +kernel
theorem dX8_reached_72 : decode cX8_reached 72 = .ok (.aload_n 0, 1) := by decide +kernel
theorem dX8_reached_73 : decode cX8_reached 73 = .ok (.getfield 12, 3) := by decide +kernel
theorem dX8_reached_76 : decode cX8_reached 76 = .ok (.invokestatic 274, 3) := by decide +kernel
theorem dX8_reached_79 : decode cX8_reached 79 = .ok (.ireturn, 1) := by decide +kernel
theorem dX8_reached_80 : decode cX8_reached 80 = .ok (.aload_n 0, 1) := by decide +kernel
theorem dX8_reached_81 : decode cX8_reached 81 = .ok (.getfield 12, 3) := by decide +kernel
theorem dX8_reached_84 : decode cX8_reached 84 = .ok (.getfield 278, 3) := by decide +kernel
theorem dX8_reached_87 : decode cX8_reached 87 = .ok (.ireturn, 1) := by decide +kernel
theorem dX8_reached_88 : decode cX8_reached 88 = .ok (.iconst (-1), 1) := by decide +kernel
theorem dX8_reached_89 : decode cX8_reached 89 = .ok (.ireturn, 1) := by decide +kernel
theorem dX8_run_0 : decode cX8_run 0 = .ok (.iload_n 1, 1) := by decide +kernel
theorem dX8_run_1 : decode cX8_run 1 = .ok (.iconst 1, 1) := by decide +kernel
theorem dX8_run_2 : decode cX8_run 2 = .ok (.bipush 24, 2) := by decide +kernel
theorem dX8_run_4 : decode cX8_run 4 = .ok (.invokestatic 43, 3) := by decide +kernel
theorem dX8_run_7 : decode cX8_run 7 = .ok (.ifCond .ne 5, 3) := by decide +kernel
theorem dX8_run_10 : decode cX8_run 10 = .ok (.iconst (-1), 1) := by decide +kernel
theorem dX8_run_11 : decode cX8_run 11 = .ok (.ireturn, 1) := by decide +kernel
theorem dX8_run_12 : decode cX8_run 12 = .ok (.iconst 0, 1) := by decide +kernel
theorem dX8_run_13 : decode cX8_run 13 = .ok (.istore_n 2, 1) := by decide +kernel
theorem dX8_run_14 : decode cX8_run 14 = .ok (.iconst 0, 1) := by decide +kernel
theorem dX8_run_15 : decode cX8_run 15 = .ok (.istore_n 3, 1) := by decide +kernel
theorem dX8_run_16 : decode cX8_run 16 = .ok (.iload_n 3, 1) := by decide +kernel
theorem dX8_run_17 : decode cX8_run 17 = .ok (.iload_n 1, 1) := by decide +kernel
theorem dX8_run_18 : decode cX8_run 18 = .ok (.if_icmp .ge 120, 3) := by decide +kernel
theorem dX8_run_21 : decode cX8_run 21 = .ok (.aload_n 0, 1) := by decide +kernel
theorem dX8_run_22 : decode cX8_run 22 = .ok (.getfield 12, 3) := by decide +kernel
theorem dX8_run_25 : decode cX8_run 25 = .ok (.getfield 162, 3) := by decide +kernel
theorem dX8_run_28 : decode cX8_run 28 = .ok (.aload_n 0, 1) := by decide +kernel
theorem dX8_run_29 : decode cX8_run 29 = .ok (.getfield 12, 3) := by decide +kernel
theorem dX8_run_32 : decode cX8_run 32 = .ok (.getfield 152, 3) := by decide +kernel
theorem dX8_run_35 : decode cX8_run 35 = .ok (.invokevirtual 51, 3) := by decide +kernel
theorem dX8_run_38 : decode cX8_run 38 = .ok (.if_icmp .ge 100, 3) := by decide +kernel
theorem dX8_run_41 : decode cX8_run 41 = .ok (.aload_n 0, 1) := by decide +kernel
theorem dX8_run_42 : decode cX8_run 42 = .ok (.getfield 12, 3) := by decide +kernel
theorem dX8_run_45 : decode cX8_run 45 = .ok (.getfield 162, 3) := by decide +kernel
theorem dX8_run_48 : decode cX8_run 48 = .ok (.istore 4, 2) := by decide +kernel
theorem dX8_run_50 : decode cX8_run 50 = .ok (.aload_n 0, 1) := by decide +kernel
theorem dX8_run_51 : decode cX8_run 51 = .ok (.getfield 12, 3) := by decide +kernel
theorem dX8_run_54 : decode cX8_run 54 = .ok (.dup, 1) := by decide +kernel
theorem dX8_run_55 : decode cX8_run 55 = .ok (.getfield 162, 3) := by decide +kernel
theorem dX8_run_58 : decode cX8_run 58 = .ok (.iconst 1, 1) := by decide +kernel
theorem dX8_run_59 : decode cX8_run 59 = .ok (.iadd, 1) := by decide +kernel
theorem dX8_run_60 : decode cX8_run 60 = .ok (.putfield 162, 3) := by decide +kernel
theorem dX8_run_63 : decode cX8_run 63 = .ok (.aload_n 0, 1) := by decide +kernel
theorem dX8_run_64 : decode cX8_run 64 = .ok (.getfield 12, 3) := by decide +kernel
theorem dX8_run_67 : decode cX8_run 67 = .ok (.getfield 152, 3) := by decide +kernel
theorem dX8_run_70 : decode cX8_run 70 = .ok (.iconst 0, 1) := by decide +kernel
theorem dX8_run_71 : decode cX8_run 71 = .ok (.iload 4, 2) := by decide +kernel
theorem dX8_run_73 : decode cX8_run 73 = .ok (.invokevirtual 171, 3) := by decide +kernel
theorem dX8_run_76 : decode cX8_run 76 = .ok (.bipush 9, 2) := by decide +kernel
theorem dX8_run_78 : decode cX8_run 78 = .ok (.if_icmp .ne 7, 3) := by decide +kernel
theorem dX8_run_81 : decode cX8_run 81 = .ok (.iconst 1, 1) := by decide +kernel
theorem dX8_run_82 : decode cX8_run 82 = .ok (.goto 4, 3) := by decide +kernel
theorem dX8_run_85 : decode cX8_run 85 = .ok (.iconst 0, 1) := by decide +kernel
theorem dX8_run_86 : decode cX8_run 86 = .ok (.istore 5, 2) := by decide +kernel
theorem dX8_run_88 : decode cX8_run 88 = .ok (.iload 5, 2) := by decide +kernel
theorem dX8_run_90 : decode cX8_run 90 = .ok (.ifCond .eq 30, 3) := by decide +kernel
theorem dX8_run_93 : decode cX8_run 93 = .ok (.aload_n 0, 1) := by decide +kernel
theorem dX8_run_94 : decode cX8_run 94 = .ok (.getfield 12, 3) := by decide +kernel
theorem dX8_run_97 : decode cX8_run 97 = .ok (.aload_n 0, 1) := by decide +kernel
theorem dX8_run_98 : decode cX8_run 98 = .ok (.getfield 12, 3) := by decide +kernel
theorem dX8_run_101 : decode cX8_run 101 = .ok (.getfield 152, 3) := by decide +kernel
theorem dX8_run_104 : decode cX8_run 104 = .ok (.iconst 1, 1) := by decide +kernel
theorem dX8_run_105 : decode cX8_run 105 = .ok (.iload 4, 2) := by decide +kernel
theorem dX8_run_107 : decode cX8_run 107 = .ok (.invokevirtual 171, 3) := by decide +kernel
theorem dX8_run_110 : decode cX8_run 110 = .ok (.invokestatic 123, 3) := by decide +kernel
theorem dX8_run_113 : decode cX8_run 113 = .ok (.iconst (-1), 1) := by decide +kernel
theorem dX8_run_114 : decode cX8_run 114 = .ok (.if_icmp .eq 18, 3) := by decide +kernel
theorem dX8_run_117 : decode cX8_run 117 = .ok (.goto 12, 3) := by decide +kernel
theorem dX8_run_120 : decode cX8_run 120 = .ok (.aload_n 0, 1) := by decide +kernel
theorem dX8_run_121 : decode cX8_run 121 = .ok (.iload 4, 2) := by decide +kernel
theorem dX8_run_123 : decode cX8_run 123 = .ok (.invokevirtual 175, 3) := by decide +kernel
theorem dX8_run_126 : decode cX8_run 126 = .ok (.ifCond .eq 6, 3) := by decide +kernel
theorem dX8_run_129 : decode cX8_run 129 = .ok (.iinc 2 1, 3) := by decide +kernel
theorem dX8_run_132 : decode cX8_run 132 = .ok (.iinc 3 1, 3) := by decide +kernel
theorem dX8_run_135 : decode cX8_run 135 = .ok (.goto (-119), 3) := by decide +kernel
theorem dX8_run_138 : decode cX8_run 138 = .ok (.iload_n 2, 1) := by decide +kernel
theorem dX8_run_139 : decode cX8_run 139 = .ok (.ireturn, 1) := by decide +kernel
theorem dX8_set_0 : decode cX8_set 0 = .ok (.iload_n 1, 1) := by decide +kernel
theorem dX8_set_1 : decode cX8_set 1 = .ok (.ifCond .lt 28, 3) := by decide +kernel
theorem dX8_set_4 : decode cX8_set 4 = .ok (.iload_n 1, 1) := by decide +kernel
theorem dX8_set_5 : decode cX8_set 5 = .ok (.getstatic 33, 3) := by decide +kernel
theorem dX8_set_8 : decode cX8_set 8 = .ok (.arraylength, 1) := by decide +kernel
theorem dX8_set_9 : decode cX8_set 9 = .ok (.if_icmp .ge 20, 3) := by decide +kernel
theorem dX8_set_12 : decode cX8_set 12 = .ok (.iload_n 2, 1) := by decide +kernel
theorem dX8_set_13 : decode cX8_set 13 = .ok (.getstatic 37, 3) := by decide +kernel
theorem dX8_set_16 : decode cX8_set 16 = .ok (.iload_n 1, 1) := by decide +kernel
theorem dX8_set_17 : decode cX8_set 17 = .ok (.iaload, 1) := by decide +kernel
theorem dX8_set_18 : decode cX8_set 18 = .ok (.getstatic 40, 3) := by decide +kernel
theorem dX8_set_21 : decode cX8_set 21 = .ok (.iload_n 1, 1) := by decide +kernel
theorem dX8_set_22 : decode cX8_set 22 = .ok (.iaload, 1) := by decide +kernel
theorem dX8_set_23 : decode cX8_set 23 = .ok (.invokestatic 43, 3) := by decide +kernel
theorem dX8_set_26 : decode cX8_set 26 = .ok (.ifCond .ne 5, 3) := by decide +kernel
theorem dX8_set_29 : decode cX8_set 29 = .ok (.iconst 0, 1) := by decide +kernel
theorem dX8_set_30 : decode cX8_set 30 = .ok (.ireturn, 1) := by decide +kernel
theorem dX8_set_31 : decode cX8_set 31 = .ok (.iload_n 1, 1) := by decide +kernel
theorem dX8_set_32 : decode cX8_set 32 = .ok (.ifCond .ne 18, 3) := by decide +kernel
theorem dX8_set_35 : decode cX8_set 35 = .ok (.aload_n 0, 1) := by decide +kernel
theorem dX8_set_36 : decode cX8_set 36 = .ok (.getfield 12, 3) := by decide +kernel
theorem dX8_set_39 : decode cX8_set 39 = .ok (.getfield 47, 3) := by decide +kernel
theorem dX8_set_42 : decode cX8_set 42 = .ok (.invokevirtual 51, 3) := by decide +kernel
theorem dX8_set_45 : decode cX8_set 45 = .ok (.ifCond .le 5, 3) := by decide +kernel
theorem dX8_set_48 : decode cX8_set 48 = .ok (.iconst 0, 1) := by decide +kernel
theorem dX8_set_49 : decode cX8_set 49 = .ok (.ireturn, 1) := by decide +kernel
theorem dX8_set_50 : decode cX8_set 50 = .ok (.aload_n 0, 1) := by decide +kernel
theorem dX8_set_51 : decode cX8_set 51 = .ok (.getfield 12, 3) := by decide +kernel
theorem dX8_set_54 : decode cX8_set 54 = .ok (.getfield 57, 3) := by decide +kernel
theorem dX8_set_57 : decode cX8_set 57 = .ok (.iload_n 1, 1) := by decide +kernel
theorem dX8_set_58 : decode cX8_set 58 = .ok (.iload_n 2, 1) := by decide +kernel
theorem dX8_set_59 : decode cX8_set 59 = .ok (.iastore, 1) := by decide +kernel
theorem dX8_set_60 : decode cX8_set 60 = .ok (.iconst 1, 1) := by decide +kernel
theorem dX8_set_61 : decode cX8_set 61 = .ok (.ireturn, 1) := by decide +kernel
theorem dX8_split_0 : decode cX8_split 0 = .ok (.iload_n 1, 1) := by decide +kernel
theorem dX8_split_1 : decode cX8_split 1 = .ok (.invokestatic 68, 3) := by decide +kernel
theorem dX8_split_4 : decode cX8_split 4 = .ok (.ifCond .eq 23, 3) := by decide +kernel
theorem dX8_split_7 : decode cX8_split 7 = .ok (.iload_n 2, 1) := by decide +kernel
theorem dX8_split_8 : decode cX8_split 8 = .ok (.iconst 2, 1) := by decide +kernel
theorem dX8_split_9 : decode cX8_split 9 = .ok (.iconst 5, 1) := by decide +kernel
theorem dX8_split_10 : decode cX8_split 10 = .ok (.invokestatic 43, 3) := by decide +kernel
theorem dX8_split_13 : decode cX8_split 13 = .ok (.ifCond .eq 14, 3) := by decide +kernel
theorem dX8_split_16 : decode cX8_split 16 = .ok (.aload_n 0, 1) := by decide +kernel
theorem dX8_split_17 : decode cX8_split 17 = .ok (.getfield 12, 3) := by decide +kernel
theorem dX8_split_20 : decode cX8_split 20 = .ok (.iload_n 1, 1) := by decide +kernel
theorem dX8_split_21 : decode cX8_split 21 = .ok (.invokevirtual 106, 3) := by decide +kernel
theorem dX8_split_24 : decode cX8_split 24 = .ok (.ifCond .eq 5, 3) := by decide +kernel
theorem dX8_split_27 : decode cX8_split 27 = .ok (.iconst 0, 1) := by decide +kernel
theorem dX8_split_28 : decode cX8_split 28 = .ok (.ireturn, 1) := by decide +kernel
theorem dX8_split_29 : decode cX8_split 29 = .ok (.aload_n 0, 1) := by decide +kernel
theorem dX8_split_30 : decode cX8_split 30 = .ok (.getfield 12, 3) := by decide +kernel
theorem dX8_split_33 : decode cX8_split 33 = .ok (.getfield 72, 3) := by decide +kernel
theorem dX8_split_36 : decode cX8_split 36 = .ok (.iload_n 1, 1) := by decide +kernel
theorem dX8_split_37 : decode cX8_split 37 = .ok (.aaload, 1) := by decide +kernel
theorem dX8_split_38 : decode cX8_split 38 = .ok (.iload_n 2, 1) := by decide +kernel
theorem dX8_split_39 : decode cX8_split 39 = .ok (.aload_n 0, 1) := by decide +kernel
theorem dX8_split_40 : decode cX8_split 40 = .ok (.getfield 12, 3) := by decide +kernel
theorem dX8_split_43 : decode cX8_split 43 = .ok (.invokevirtual 109, 3) := by decide +kernel
theorem dX8_split_46 : decode cX8_split 46 = .ok (.invokevirtual 112, 3) := by decide +kernel
theorem dX8_split_49 : decode cX8_split 49 = .ok (.ireturn, 1) := by decide +kernel
theorem dX8_statement_0 : decode cX8_statement 0 = .ok (.aload_n 0, 1) := by decide +kernel
theorem dX8_statement_1 : decode cX8_statement 1 = .ok (.getfield 12, 3) := by decide +kernel
theorem dX8_statement_4 : decode cX8_statement 4 = .ok (.iload_n 1, 1) := by decide +kernel
theorem dX8_statement_5 : decode cX8_statement 5 = .ok (.invokevirtual 60, 3) := by decide +kernel
theorem dX8_statement_8 : decode cX8_statement 8 = .ok (.ifCond .eq 12, 3) := by decide +kernel
theorem dX8_statement_11 : decode cX8_statement 11 = .ok (.iload_n 2, 1) := by decide +kernel
theorem dX8_statement_12 : decode cX8_statement 12 = .ok (.iconst 0, 1) := by decide +kernel
theorem dX8_statement_13 : decode cX8_statement 13 = .ok (.iconst 4, 1) := by decide +kernel
theorem dX8_statement_14 : decode cX8_statement 14 = .ok (.invokestatic 43, 3) := by decide +kernel
theorem dX8_statement_17 : decode cX8_statement 17 = .ok (.ifCond .ne 5, 3) := by decide +kernel
theorem dX8_statement_20 : decode cX8_statement 20 = .ok (.iconst (-1), 1) := by decide +kernel
theorem dX8_statement_21 : decode cX8_statement 21 = .ok (.ireturn, 1) := by decide +kernel
theorem dX8_statement_22 : decode cX8_statement 22 = .ok (.aload_n 0, 1) := by decide +kernel
theorem dX8_statement_23 : decode cX8_statement 23 = .ok (.getfield 12, 3) := by decide +kernel
theorem dX8_statement_26 : decode cX8_statement 26 = .ok (.getfield 221, 3) := by decide +kernel
theorem dX8_statement_29 : decode cX8_statement 29 = .ok (.iload_n 1, 1) := by decide +kernel
theorem dX8_statement_30 : decode cX8_statement 30 = .ok (.iload_n 2, 1) := by decide +kernel
theorem dX8_statement_31 : decode cX8_statement 31 = .ok (.iload_n 3, 1) := by decide +kernel
theorem dX8_statement_32 : decode cX8_statement 32 = .ok (.ifCond .eq 7, 3) := by decide +kernel
theorem dX8_statement_35 : decode cX8_statement 35 = .ok (.iconst 4, 1) := by decide +kernel
theorem dX8_statement_36 : decode cX8_statement 36 = .ok (.goto 4, 3) := by decide +kernel
theorem dX8_statement_39 : decode cX8_statement 39 = .ok (.iconst 3, 1) := by decide +kernel
theorem dX8_statement_40 : decode cX8_statement 40 = .ok (.invokestatic 257, 3) := by decide +kernel
theorem dX8_statement_43 : decode cX8_statement 43 = .ok (.ireturn, 1) := by decide +kernel
theorem dX8_stress_0 : decode cX8_stress 0 = .ok (.iload_n 1, 1) := by decide +kernel
theorem dX8_stress_1 : decode cX8_stress 1 = .ok (.bipush (-99), 2) := by decide +kernel
theorem dX8_stress_3 : decode cX8_stress 3 = .ok (.bipush 99, 2) := by decide +kernel
theorem dX8_stress_5 : decode cX8_stress 5 = .ok (.invokestatic 43, 3) := by decide +kernel
theorem dX8_stress_8 : decode cX8_stress 8 = .ok (.ifCond .eq 14, 3) := by decide +kernel
theorem dX8_stress_11 : decode cX8_stress 11 = .ok (.aload_n 0, 1) := by decide +kernel
theorem dX8_stress_12 : decode cX8_stress 12 = .ok (.getfield 12, 3) := by decide +kernel
theorem dX8_stress_15 : decode cX8_stress 15 = .ok (.iload_n 1, 1) := by decide +kernel
theorem dX8_stress_16 : decode cX8_stress 16 = .ok (.invokestatic 233, 3) := by decide +kernel
theorem dX8_stress_19 : decode cX8_stress 19 = .ok (.goto 4, 3) := by decide +kernel
theorem dX8_stress_22 : decode cX8_stress 22 = .ok (.iconst (-1), 1) := by decide +kernel
theorem dX8_stress_23 : decode cX8_stress 23 = .ok (.ireturn, 1) := by decide +kernel
theorem dX8_suspend_0 : decode cX8_suspend 0 = .ok (.aload_n 0, 1) := by decide +kernel
theorem dX8_suspend_1 : decode cX8_suspend 1 = .ok (.getfield 12, 3) := by decide +kernel
theorem dX8_suspend_4 : decode cX8_suspend 4 = .ok (.iload_n 1, 1) := by decide +kernel
theorem dX8_suspend_5 : decode cX8_suspend 5 = .ok (.invokevirtual 60, 3) := by decide +kernel
theorem dX8_suspend_8 : decode cX8_suspend 8 = .ok (.ifCond .ne 5, 3) := by decide +kernel
theorem dX8_suspend_11 : decode cX8_suspend 11 = .ok (.iconst 0, 1) := by decide +kernel
theorem dX8_suspend_12 : decode cX8_suspend 12 = .ok (.ireturn, 1) := by decide +kernel
theorem dX8_suspend_13 : decode cX8_suspend 13 = .ok (.aload_n 0, 1) := by decide +kernel
theorem dX8_suspend_14 : decode cX8_suspend 14 = .ok (.getfield 12, 3) := by decide +kernel
theorem dX8_suspend_17 : decode cX8_suspend 17 = .ok (.getfield 115, 3) := by decide +kernel
theorem dX8_suspend_20 : decode cX8_suspend 20 = .ok (.iload_n 1, 1) := by decide +kernel
theorem dX8_suspend_21 : decode cX8_suspend 21 = .ok (.iload_n 2, 1) := by decide +kernel
theorem dX8_suspend_22 : decode cX8_suspend 22 = .ok (.bastore, 1) := by decide +kernel
theorem dX8_suspend_23 : decode cX8_suspend 23 = .ok (.iconst 1, 1) := by decide +kernel
theorem dX8_suspend_24 : decode cX8_suspend 24 = .ok (.ireturn, 1) := by decide +kernel
theorem dX8_tell_0 : decode cX8_tell 0 = .ok (.aload_n 0, 1) := by decide +kernel
theorem dX8_tell_1 : decode cX8_tell 1 = .ok (.getfield 12, 3) := by decide +kernel
theorem dX8_tell_4 : decode cX8_tell 4 = .ok (.iload_n 1, 1) := by decide +kernel
theorem dX8_tell_5 : decode cX8_tell 5 = .ok (.invokevirtual 60, 3) := by decide +kernel
theorem dX8_tell_8 : decode cX8_tell 8 = .ok (.ifCond .ne 5, 3) := by decide +kernel
theorem dX8_tell_11 : decode cX8_tell 11 = .ok (.iconst 0, 1) := by decide +kernel
theorem dX8_tell_12 : decode cX8_tell 12 = .ok (.ireturn, 1) := by decide +kernel
theorem dX8_tell_13 : decode cX8_tell 13 = .ok (.iload_n 3, 1) := by decide +kernel
theorem dX8_tell_14 : decode cX8_tell 14 = .ok (.iconst 3, 1) := by decide +kernel
theorem dX8_tell_15 : decode cX8_tell 15 = .ok (.if_icmp .ne 11, 3) := by decide +kernel
theorem dX8_tell_18 : decode cX8_tell 18 = .ok (.aload_n 0, 1) := by decide +kernel
theorem dX8_tell_19 : decode cX8_tell 19 = .ok (.iload_n 1, 1) := by decide +kernel
theorem dX8_tell_20 : decode cX8_tell 20 = .ok (.iload 4, 2) := by decide +kernel
theorem dX8_tell_22 : decode cX8_tell 22 = .ok (.invokevirtual 64, 3) := by decide +kernel
theorem dX8_tell_25 : decode cX8_tell 25 = .ok (.ireturn, 1) := by decide +kernel
theorem dX8_tell_26 : decode cX8_tell 26 = .ok (.iload_n 2, 1) := by decide +kernel
theorem dX8_tell_27 : decode cX8_tell 27 = .ok (.invokestatic 68, 3) := by decide +kernel
theorem dX8_tell_30 : decode cX8_tell 30 = .ok (.ifCond .eq 14, 3) := by decide +kernel
theorem dX8_tell_33 : decode cX8_tell 33 = .ok (.iload 4, 2) := by decide +kernel
theorem dX8_tell_35 : decode cX8_tell 35 = .ok (.iconst 0, 1) := by decide +kernel
theorem dX8_tell_36 : decode cX8_tell 36 = .ok (.ldc 71, 2) := by decide +kernel
theorem dX8_tell_38 : decode cX8_tell 38 = .ok (.invokestatic 43, 3) := by decide +kernel
theorem dX8_tell_41 : decode cX8_tell 41 = .ok (.ifCond .ne 5, 3) := by decide +kernel
theorem dX8_tell_44 : decode cX8_tell 44 = .ok (.iconst 0, 1) := by decide +kernel
theorem dX8_tell_45 : decode cX8_tell 45 = .ok (.ireturn, 1) := by decide +kernel
theorem dX8_tell_46 : decode cX8_tell 46 = .ok (.aload_n 0, 1) := by decide +kernel
theorem dX8_tell_47 : decode cX8_tell 47 = .ok (.getfield 12, 3) := by decide +kernel
theorem dX8_tell_50 : decode cX8_tell 50 = .ok (.getfield 72, 3) := by decide +kernel
theorem dX8_tell_53 : decode cX8_tell 53 = .ok (.iload_n 2, 1) := by decide +kernel
theorem dX8_tell_54 : decode cX8_tell 54 = .ok (.aaload, 1) := by decide +kernel
theorem dX8_tell_55 : decode cX8_tell 55 = .ok (.astore 5, 2) := by decide +kernel
theorem dX8_tell_57 : decode cX8_tell 57 = .ok (.iload_n 3, 1) := by decide +kernel
theorem dX8_tell_58 : decode cX8_tell 58 = .ok (.tableswitch 60 0 2 #[26, 38, 49], 26) := by decide +kernel
theorem dX8_tell_84 : decode cX8_tell 84 = .ok (.aload 5, 2) := by decide +kernel
theorem dX8_tell_86 : decode cX8_tell 86 = .ok (.getfield 76, 3) := by decide +kernel
theorem dX8_tell_89 : decode cX8_tell 89 = .ok (.iload_n 1, 1) := by decide +kernel
theorem dX8_tell_90 : decode cX8_tell 90 = .ok (.iload 4, 2) := by decide +kernel
theorem dX8_tell_92 : decode cX8_tell 92 = .ok (.i2l, 1) := by decide +kernel
theorem dX8_tell_93 : decode cX8_tell 93 = .ok (.lastore, 1) := by decide +kernel
theorem dX8_tell_94 : decode cX8_tell 94 = .ok (.iconst 1, 1) := by decide +kernel
theorem dX8_tell_95 : decode cX8_tell 95 = .ok (.ireturn, 1) := by decide +kernel
theorem dX8_tell_96 : decode cX8_tell 96 = .ok (.aload 5, 2) := by decide +kernel
theorem dX8_tell_98 : decode cX8_tell 98 = .ok (.getfield 82, 3) := by decide +kernel
theorem dX8_tell_101 : decode cX8_tell 101 = .ok (.iload_n 1, 1) := by decide +kernel
theorem dX8_tell_102 : decode cX8_tell 102 = .ok (.iload 4, 2) := by decide +kernel
theorem dX8_tell_104 : decode cX8_tell 104 = .ok (.iastore, 1) := by decide +kernel
theorem dX8_tell_105 : decode cX8_tell 105 = .ok (.iconst 1, 1) := by decide +kernel
theorem dX8_tell_106 : decode cX8_tell 106 = .ok (.ireturn, 1) := by decide +kernel
theorem dX8_tell_107 : decode cX8_tell 107 = .ok (.aload 5, 2) := by decide +kernel
theorem dX8_tell_109 : decode cX8_tell 109 = .ok (.getfield 85, 3) := by decide +kernel
theorem dX8_tell_112 : decode cX8_tell 112 = .ok (.iload_n 1, 1) := by decide +kernel
theorem dX8_tell_113 : decode cX8_tell 113 = .ok (.iload 4, 2) := by decide +kernel
theorem dX8_tell_115 : decode cX8_tell 115 = .ok (.iastore, 1) := by decide +kernel
theorem dX8_tell_116 : decode cX8_tell 116 = .ok (.iconst 1, 1) := by decide +kernel
theorem dX8_tell_117 : decode cX8_tell 117 = .ok (.ireturn, 1) := by decide +kernel
theorem dX8_tell_118 : decode cX8_tell 118 = .ok (.iconst 0, 1) := by decide +kernel
theorem dX8_tell_119 : decode cX8_tell 119 = .ok (.ireturn, 1) := by decide +kernel
theorem dX8_tellRank_0 : decode cX8_tellRank 0 = .ok (.iload_n 2, 1) := by decide +kernel
theorem dX8_tellRank_1 : decode cX8_tellRank 1 = .ok (.iconst 0, 1) := by decide +kernel
theorem dX8_tellRank_2 : decode cX8_tellRank 2 = .ok (.bipush 9, 2) := by decide +kernel
theorem dX8_tellRank_4 : decode cX8_tellRank 4 = .ok (.invokestatic 43, 3) := by decide +kernel
theorem dX8_tellRank_7 : decode cX8_tellRank 7 = .ok (.ifCond .ne 5, 3) := by decide +kernel
theorem dX8_tellRank_10 : decode cX8_tellRank 10 = .ok (.iconst 0, 1) := by decide +kernel
theorem dX8_tellRank_11 : decode cX8_tellRank 11 = .ok (.ireturn, 1) := by decide +kernel
theorem dX8_tellRank_12 : decode cX8_tellRank 12 = .ok (.aload_n 0, 1) := by decide +kernel
theorem dX8_tellRank_13 : decode cX8_tellRank 13 = .ok (.getfield 12, 3) := by decide +kernel
theorem dX8_tellRank_16 : decode cX8_tellRank 16 = .ok (.getfield 88, 3) := by decide +kernel
theorem dX8_tellRank_19 : decode cX8_tellRank 19 = .ok (.iload_n 1, 1) := by decide +kernel
theorem dX8_tellRank_20 : decode cX8_tellRank 20 = .ok (.iload_n 2, 1) := by decide +kernel
theorem dX8_tellRank_21 : decode cX8_tellRank 21 = .ok (.iastore, 1) := by decide +kernel
theorem dX8_tellRank_22 : decode cX8_tellRank 22 = .ok (.iconst 1, 1) := by decide +kernel
theorem dX8_tellRank_23 : decode cX8_tellRank 23 = .ok (.ireturn, 1) := by decide +kernel
theorem dX8_tomorrow_0 : decode cX8_tomorrow 0 = .ok (.aload_n 0, 1) := by decide +kernel
theorem dX8_tomorrow_1 : decode cX8_tomorrow 1 = .ok (.getfield 12, 3) := by decide +kernel
theorem dX8_tomorrow_4 : decode cX8_tomorrow 4 = .ok (.iload_n 1, 1) := by decide +kernel
theorem dX8_tomorrow_5 : decode cX8_tomorrow 5 = .ok (.invokevirtual 60, 3) := by decide +kernel
theorem dX8_tomorrow_8 : decode cX8_tomorrow 8 = .ok (.ifCond .eq 22, 3) := by decide +kernel
theorem dX8_tomorrow_11 : decode cX8_tomorrow 11 = .ok (.iload_n 2, 1) := by decide +kernel
theorem dX8_tomorrow_12 : decode cX8_tomorrow 12 = .ok (.invokestatic 68, 3) := by decide +kernel
theorem dX8_tomorrow_15 : decode cX8_tomorrow 15 = .ok (.ifCond .eq 15, 3) := by decide +kernel
theorem dX8_tomorrow_18 : decode cX8_tomorrow 18 = .ok (.aload_n 0, 1) := by decide +kernel
theorem dX8_tomorrow_19 : decode cX8_tomorrow 19 = .ok (.getfield 12, 3) := by decide +kernel
theorem dX8_tomorrow_22 : decode cX8_tomorrow 22 = .ok (.getfield 261, 3) := by decide +kernel
theorem dX8_tomorrow_25 : decode cX8_tomorrow 25 = .ok (.bipush 99, 2) := by decide +kernel
theorem dX8_tomorrow_27 : decode cX8_tomorrow 27 = .ok (.if_icmp .lt 6, 3) := by decide +kernel
theorem dX8_tomorrow_30 : decode cX8_tomorrow 30 = .ok (.ldc 194, 2) := by decide +kernel
theorem dX8_tomorrow_32 : decode cX8_tomorrow 32 = .ok (.ireturn, 1) := by decide +kernel
theorem dX8_tomorrow_33 : decode cX8_tomorrow 33 = .ok (.aload_n 0, 1) := by decide +kernel
theorem dX8_tomorrow_34 : decode cX8_tomorrow 34 = .ok (.getfield 19, 3) := by decide +kernel
theorem dX8_tomorrow_37 : decode cX8_tomorrow 37 = .ok (.aload_n 0, 1) := by decide +kernel
theorem dX8_tomorrow_38 : decode cX8_tomorrow 38 = .ok (.getfield 12, 3) := by decide +kernel
theorem dX8_tomorrow_41 : decode cX8_tomorrow 41 = .ok (.invokevirtual 191, 3) := by decide +kernel
theorem dX8_tomorrow_44 : decode cX8_tomorrow 44 = .ok (.aload_n 0, 1) := by decide +kernel
theorem dX8_tomorrow_45 : decode cX8_tomorrow 45 = .ok (.getfield 19, 3) := by decide +kernel
theorem dX8_tomorrow_48 : decode cX8_tomorrow 48 = .ok (.iconst 1, 1) := by decide +kernel
theorem dX8_tomorrow_49 : decode cX8_tomorrow 49 = .ok (.invokestatic 123, 3) := by decide +kernel
theorem dX8_tomorrow_52 : decode cX8_tomorrow 52 = .ok (.pop, 1) := by decide +kernel
theorem dX8_tomorrow_53 : decode cX8_tomorrow 53 = .ok (.iload_n 3, 1) := by decide +kernel
theorem dX8_tomorrow_54 : decode cX8_tomorrow 54 = .ok (.bipush 9, 2) := by decide +kernel
theorem dX8_tomorrow_56 : decode cX8_tomorrow 56 = .ok (.if_icmp .ne 24, 3) := by decide +kernel
theorem dX8_tomorrow_59 : decode cX8_tomorrow 59 = .ok (.aload_n 0, 1) := by decide +kernel
theorem dX8_tomorrow_60 : decode cX8_tomorrow 60 = .ok (.getfield 19, 3) := by decide +kernel
theorem dX8_tomorrow_63 : decode cX8_tomorrow 63 = .ok (.getfield 209, 3) := by decide +kernel
theorem dX8_tomorrow_66 : decode cX8_tomorrow 66 = .ok (.iload_n 1, 1) := by decide +kernel
theorem dX8_tomorrow_67 : decode cX8_tomorrow 67 = .ok (.laload, 1) := by decide +kernel
theorem dX8_tomorrow_68 : decode cX8_tomorrow 68 = .ok (.aload_n 0, 1) := by decide +kernel
theorem dX8_tomorrow_69 : decode cX8_tomorrow 69 = .ok (.getfield 12, 3) := by decide +kernel
theorem dX8_tomorrow_72 : decode cX8_tomorrow 72 = .ok (.getfield 209, 3) := by decide +kernel
theorem dX8_tomorrow_75 : decode cX8_tomorrow 75 = .ok (.iload_n 1, 1) := by decide +kernel
theorem dX8_tomorrow_76 : decode cX8_tomorrow 76 = .ok (.laload, 1) := by decide +kernel
theorem dX8_tomorrow_77 : decode cX8_tomorrow 77 = .ok (.lsub, 1) := by decide +kernel
theorem dX8_tomorrow_78 : decode cX8_tomorrow 78 = .ok (.l2i, 1) := by decide +kernel
theorem dX8_tomorrow_79 : decode cX8_tomorrow 79 = .ok (.ireturn, 1) := by decide +kernel
theorem dX8_tomorrow_80 : decode cX8_tomorrow 80 = .ok (.aload_n 0, 1) := by decide +kernel
theorem dX8_tomorrow_81 : decode cX8_tomorrow 81 = .ok (.getfield 19, 3) := by decide +kernel
theorem dX8_tomorrow_84 : decode cX8_tomorrow 84 = .ok (.iload_n 1, 1) := by decide +kernel
theorem dX8_tomorrow_85 : decode cX8_tomorrow 85 = .ok (.iload_n 2, 1) := by decide +kernel
theorem dX8_tomorrow_86 : decode cX8_tomorrow 86 = .ok (.iload_n 3, 1) := by decide +kernel
theorem dX8_tomorrow_87 : decode cX8_tomorrow 87 = .ok (.invokevirtual 198, 3) := by decide +kernel
theorem dX8_tomorrow_90 : decode cX8_tomorrow 90 = .ok (.ireturn, 1) := by decide +kernel
theorem dX8_trade_0 : decode cX8_trade 0 = .ok (.aload_n 0, 1) := by decide +kernel
theorem dX8_trade_1 : decode cX8_trade 1 = .ok (.getfield 12, 3) := by decide +kernel
theorem dX8_trade_4 : decode cX8_trade 4 = .ok (.iload_n 1, 1) := by decide +kernel
theorem dX8_trade_5 : decode cX8_trade 5 = .ok (.iload_n 2, 1) := by decide +kernel
theorem dX8_trade_6 : decode cX8_trade 6 = .ok (.iload_n 3, 1) := by decide +kernel
theorem dX8_trade_7 : decode cX8_trade 7 = .ok (.iload 4, 2) := by decide +kernel
theorem dX8_trade_9 : decode cX8_trade 9 = .ok (.iload 5, 2) := by decide +kernel
theorem dX8_trade_11 : decode cX8_trade 11 = .ok (.iconst 0, 1) := by decide +kernel
theorem dX8_trade_12 : decode cX8_trade 12 = .ok (.invokevirtual 95, 3) := by decide +kernel
theorem dX8_trade_15 : decode cX8_trade 15 = .ok (.ireturn, 1) := by decide +kernel
theorem dX8_within_0 : decode cX8_within 0 = .ok (.iload_n 0, 1) := by decide +kernel
theorem dX8_within_1 : decode cX8_within 1 = .ok (.iload_n 1, 1) := by decide +kernel
theorem dX8_within_2 : decode cX8_within 2 = .ok (.if_icmp .lt 12, 3) := by decide +kernel
theorem dX8_within_5 : decode cX8_within 5 = .ok (.iload_n 0, 1) := by decide +kernel
theorem dX8_within_6 : decode cX8_within 6 = .ok (.iload_n 2, 1) := by decide +kernel
theorem dX8_within_7 : decode cX8_within 7 = .ok (.if_icmp .gt 7, 3) := by decide +kernel
theorem dX8_within_10 : decode cX8_within 10 = .ok (.iconst 1, 1) := by decide +kernel
theorem dX8_within_11 : decode cX8_within 11 = .ok (.goto 4, 3) := by decide +kernel
theorem dX8_within_14 : decode cX8_within 14 = .ok (.iconst 0, 1) := by decide +kernel
theorem dX8_within_15 : decode cX8_within 15 = .ok (.ireturn, 1) := by decide +kernel
theorem dX9_adds_0 : decode cX9_adds 0 = .ok (.iload_n 3, 1) := by decide +kernel
theorem dX9_adds_1 : decode cX9_adds 1 = .ok (.istore 5, 2) := by decide +kernel
theorem dX9_adds_3 : decode cX9_adds 3 = .ok (.iload_n 3, 1) := by decide +kernel
theorem dX9_adds_4 : decode cX9_adds 4 = .ok (.ifCond .le 12, 3) := by decide +kernel
theorem dX9_adds_7 : decode cX9_adds 7 = .ok (.aload_n 0, 1) := by decide +kernel
theorem dX9_adds_8 : decode cX9_adds 8 = .ok (.iload_n 1, 1) := by decide +kernel
theorem dX9_adds_9 : decode cX9_adds 9 = .ok (.iload_n 2, 1) := by decide +kernel
theorem dX9_adds_10 : decode cX9_adds 10 = .ok (.invokevirtual 116, 3) := by decide +kernel
theorem dX9_adds_13 : decode cX9_adds 13 = .ok (.ifCond .ne 16, 3) := by decide +kernel
theorem dX9_adds_16 : decode cX9_adds 16 = .ok (.iload_n 3, 1) := by decide +kernel
theorem dX9_adds_17 : decode cX9_adds 17 = .ok (.ifCond .ge 67, 3) := by decide +kernel
theorem dX9_adds_20 : decode cX9_adds 20 = .ok (.aload_n 0, 1) := by decide +kernel
theorem dX9_adds_21 : decode cX9_adds 21 = .ok (.iload_n 1, 1) := by decide +kernel
theorem dX9_adds_22 : decode cX9_adds 22 = .ok (.iload_n 2, 1) := by decide +kernel
theorem dX9_adds_23 : decode cX9_adds 23 = .ok (.invokevirtual 122, 3) := by decide +kernel
theorem dX9_adds_26 : decode cX9_adds 26 = .ok (.ifCond .eq 58, 3) := by decide +kernel
theorem dX9_adds_29 : decode cX9_adds 29 = .ok (.aload_n 0, 1) := by decide +kernel
theorem dX9_adds_30 : decode cX9_adds 30 = .ok (.iload_n 1, 1) := by decide +kernel
theorem dX9_adds_31 : decode cX9_adds 31 = .ok (.iload_n 2, 1) := by decide +kernel
theorem dX9_adds_32 : decode cX9_adds 32 = .ok (.invokevirtual 119, 3) := by decide +kernel
theorem dX9_adds_35 : decode cX9_adds 35 = .ok (.istore 6, 2) := by decide +kernel
theorem dX9_adds_37 : decode cX9_adds 37 = .ok (.aload_n 0, 1) := by decide +kernel
theorem dX9_adds_38 : decode cX9_adds 38 = .ok (.aload_n 0, 1) := by decide +kernel
theorem dX9_adds_39 : decode cX9_adds 39 = .ok (.iload_n 3, 1) := by decide +kernel
theorem dX9_adds_40 : decode cX9_adds 40 = .ok (.iload_n 3, 1) := by decide +kernel
theorem dX9_adds_41 : decode cX9_adds 41 = .ok (.ineg, 1) := by decide +kernel
theorem dX9_adds_42 : decode cX9_adds 42 = .ok (.invokevirtual 76, 3) := by decide +kernel
theorem dX9_adds_45 : decode cX9_adds 45 = .ok (.aload_n 0, 1) := by decide +kernel
theorem dX9_adds_46 : decode cX9_adds 46 = .ok (.iload 6, 2) := by decide +kernel
theorem dX9_adds_48 : decode cX9_adds 48 = .ok (.iload 6, 2) := by decide +kernel
theorem dX9_adds_50 : decode cX9_adds 50 = .ok (.ineg, 1) := by decide +kernel
theorem dX9_adds_51 : decode cX9_adds 51 = .ok (.invokevirtual 76, 3) := by decide +kernel
theorem dX9_adds_54 : decode cX9_adds 54 = .ok (.invokevirtual 131, 3) := by decide +kernel
theorem dX9_adds_57 : decode cX9_adds 57 = .ok (.istore 7, 2) := by decide +kernel
theorem dX9_adds_59 : decode cX9_adds 59 = .ok (.aload_n 0, 1) := by decide +kernel
theorem dX9_adds_60 : decode cX9_adds 60 = .ok (.iload_n 1, 1) := by decide +kernel
theorem dX9_adds_61 : decode cX9_adds 61 = .ok (.iload_n 2, 1) := by decide +kernel
theorem dX9_adds_62 : decode cX9_adds 62 = .ok (.iload 7, 2) := by decide +kernel
theorem dX9_adds_64 : decode cX9_adds 64 = .ok (.invokevirtual 138, 3) := by decide +kernel
theorem dX9_adds_67 : decode cX9_adds 67 = .ok (.iload_n 3, 1) := by decide +kernel
theorem dX9_adds_68 : decode cX9_adds 68 = .ok (.ifCond .le 10, 3) := by decide +kernel
theorem dX9_adds_71 : decode cX9_adds 71 = .ok (.iload_n 3, 1) := by decide +kernel
theorem dX9_adds_72 : decode cX9_adds 72 = .ok (.iload 7, 2) := by decide +kernel
theorem dX9_adds_74 : decode cX9_adds 74 = .ok (.isub, 1) := by decide +kernel
theorem dX9_adds_75 : decode cX9_adds 75 = .ok (.goto 7, 3) := by decide +kernel
theorem dX9_adds_78 : decode cX9_adds 78 = .ok (.iload_n 3, 1) := by decide +kernel
theorem dX9_adds_79 : decode cX9_adds 79 = .ok (.iload 7, 2) := by decide +kernel
theorem dX9_adds_81 : decode cX9_adds 81 = .ok (.iadd, 1) := by decide +kernel
theorem dX9_adds_82 : decode cX9_adds 82 = .ok (.istore 5, 2) := by decide +kernel
theorem dX9_adds_84 : decode cX9_adds 84 = .ok (.iload 5, 2) := by decide +kernel
theorem dX9_adds_86 : decode cX9_adds 86 = .ok (.ifCond .ne 4, 3) := by decide +kernel
theorem dX9_adds_89 : decode cX9_adds 89 = .ok (.return_, 1) := by decide +kernel
theorem dX9_adds_90 : decode cX9_adds 90 = .ok (.aload_n 0, 1) := by decide +kernel
theorem dX9_adds_91 : decode cX9_adds 91 = .ok (.iload_n 1, 1) := by decide +kernel
theorem dX9_adds_92 : decode cX9_adds 92 = .ok (.iload_n 2, 1) := by decide +kernel
theorem dX9_adds_93 : decode cX9_adds 93 = .ok (.invokevirtual 110, 3) := by decide +kernel
theorem dX9_adds_96 : decode cX9_adds 96 = .ok (.iconst 1, 1) := by decide +kernel
theorem dX9_adds_97 : decode cX9_adds 97 = .ok (.isub, 1) := by decide +kernel
theorem dX9_adds_98 : decode cX9_adds 98 = .ok (.istore 6, 2) := by decide +kernel
theorem dX9_adds_100 : decode cX9_adds 100 = .ok (.iload 6, 2) := by decide +kernel
theorem dX9_adds_102 : decode cX9_adds 102 = .ok (.ifCond .lt 45, 3) := by decide +kernel
theorem dX9_adds_105 : decode cX9_adds 105 = .ok (.aload_n 0, 1) := by decide +kernel
theorem dX9_adds_106 : decode cX9_adds 106 = .ok (.iload_n 1, 1) := by decide +kernel
theorem dX9_adds_107 : decode cX9_adds 107 = .ok (.iload_n 2, 1) := by decide +kernel
theorem dX9_adds_108 : decode cX9_adds 108 = .ok (.iload 6, 2) := by decide +kernel
theorem dX9_adds_110 : decode cX9_adds 110 = .ok (.invokevirtual 125, 3) := by decide +kernel
theorem dX9_adds_113 : decode cX9_adds 113 = .ok (.iload 4, 2) := by decide +kernel
theorem dX9_adds_115 : decode cX9_adds 115 = .ok (.if_icmp .ne 32, 3) := by decide +kernel
theorem dX9_adds_118 : decode cX9_adds 118 = .ok (.aload_n 0, 1) := by decide +kernel
theorem dX9_adds_119 : decode cX9_adds 119 = .ok (.getfield 7, 3) := by decide +kernel
theorem dX9_adds_122 : decode cX9_adds 122 = .ok (.sipush 7764, 3) := by decide +kernel
theorem dX9_adds_125 : decode cX9_adds 125 = .ok (.aload_n 0, 1) := by decide +kernel
theorem dX9_adds_126 : decode cX9_adds 126 = .ok (.iload_n 1, 1) := by decide +kernel
theorem dX9_adds_127 : decode cX9_adds 127 = .ok (.iload_n 2, 1) := by decide +kernel
theorem dX9_adds_128 : decode cX9_adds 128 = .ok (.iload 6, 2) := by decide +kernel
theorem dX9_adds_130 : decode cX9_adds 130 = .ok (.invokevirtual 106, 3) := by decide +kernel
theorem dX9_adds_133 : decode cX9_adds 133 = .ok (.iadd, 1) := by decide +kernel
theorem dX9_adds_134 : decode cX9_adds 134 = .ok (.aload_n 0, 1) := by decide +kernel
theorem dX9_adds_135 : decode cX9_adds 135 = .ok (.iload_n 1, 1) := by decide +kernel
theorem dX9_adds_136 : decode cX9_adds 136 = .ok (.iload_n 2, 1) := by decide +kernel
theorem dX9_adds_137 : decode cX9_adds 137 = .ok (.iload 6, 2) := by decide +kernel
theorem dX9_adds_139 : decode cX9_adds 139 = .ok (.invokevirtual 113, 3) := by decide +kernel
theorem dX9_adds_142 : decode cX9_adds 142 = .ok (.iload 5, 2) := by decide +kernel
theorem dX9_adds_144 : decode cX9_adds 144 = .ok (.iadd, 1) := by decide +kernel
theorem dX9_adds_145 : decode cX9_adds 145 = .ok (.iastore, 1) := by decide +kernel
theorem dX9_adds_146 : decode cX9_adds 146 = .ok (.return_, 1) := by decide +kernel
theorem dX9_adds_147 : decode cX9_adds 147 = .ok (.aload_n 0, 1) := by decide +kernel
theorem dX9_adds_148 : decode cX9_adds 148 = .ok (.getfield 7, 3) := by decide +kernel
theorem dX9_adds_151 : decode cX9_adds 151 = .ok (.sipush 420, 3) := by decide +kernel
theorem dX9_adds_154 : decode cX9_adds 154 = .ok (.aload_n 0, 1) := by decide +kernel
theorem dX9_adds_155 : decode cX9_adds 155 = .ok (.iload_n 1, 1) := by decide +kernel
theorem dX9_adds_156 : decode cX9_adds 156 = .ok (.iload_n 2, 1) := by decide +kernel
theorem dX9_adds_157 : decode cX9_adds 157 = .ok (.iload 6, 2) := by decide +kernel
theorem dX9_adds_159 : decode cX9_adds 159 = .ok (.iconst 1, 1) := by decide +kernel
theorem dX9_adds_160 : decode cX9_adds 160 = .ok (.iadd, 1) := by decide +kernel
theorem dX9_adds_161 : decode cX9_adds 161 = .ok (.invokevirtual 106, 3) := by decide +kernel
theorem dX9_adds_164 : decode cX9_adds 164 = .ok (.iadd, 1) := by decide +kernel
theorem dX9_adds_165 : decode cX9_adds 165 = .ok (.iload 4, 2) := by decide +kernel
theorem dX9_adds_167 : decode cX9_adds 167 = .ok (.iastore, 1) := by decide +kernel
theorem dX9_adds_168 : decode cX9_adds 168 = .ok (.aload_n 0, 1) := by decide +kernel
theorem dX9_adds_169 : decode cX9_adds 169 = .ok (.getfield 7, 3) := by decide +kernel
theorem dX9_adds_172 : decode cX9_adds 172 = .ok (.sipush 7764, 3) := by decide +kernel
theorem dX9_adds_175 : decode cX9_adds 175 = .ok (.aload_n 0, 1) := by decide +kernel
theorem dX9_adds_176 : decode cX9_adds 176 = .ok (.iload_n 1, 1) := by decide +kernel
theorem dX9_adds_177 : decode cX9_adds 177 = .ok (.iload_n 2, 1) := by decide +kernel
theorem dX9_adds_178 : decode cX9_adds 178 = .ok (.iload 6, 2) := by decide +kernel
theorem dX9_adds_180 : decode cX9_adds 180 = .ok (.iconst 1, 1) := by decide +kernel
theorem dX9_adds_181 : decode cX9_adds 181 = .ok (.iadd, 1) := by decide +kernel
theorem dX9_adds_182 : decode cX9_adds 182 = .ok (.invokevirtual 106, 3) := by decide +kernel
theorem dX9_adds_185 : decode cX9_adds 185 = .ok (.iadd, 1) := by decide +kernel
theorem dX9_adds_186 : decode cX9_adds 186 = .ok (.iload 5, 2) := by decide +kernel
theorem dX9_adds_188 : decode cX9_adds 188 = .ok (.iastore, 1) := by decide +kernel
theorem dX9_adds_189 : decode cX9_adds 189 = .ok (.aload_n 0, 1) := by decide +kernel
theorem dX9_adds_190 : decode cX9_adds 190 = .ok (.getfield 7, 3) := by decide +kernel
theorem dX9_adds_193 : decode cX9_adds 193 = .ok (.sipush 348, 3) := by decide +kernel
theorem dX9_adds_196 : decode cX9_adds 196 = .ok (.aload_n 0, 1) := by decide +kernel
theorem dX9_adds_197 : decode cX9_adds 197 = .ok (.iload_n 1, 1) := by decide +kernel
theorem dX9_adds_198 : decode cX9_adds 198 = .ok (.iload_n 2, 1) := by decide +kernel
theorem dX9_adds_199 : decode cX9_adds 199 = .ok (.invokevirtual 65, 3) := by decide +kernel
theorem dX9_adds_202 : decode cX9_adds 202 = .ok (.iadd, 1) := by decide +kernel
theorem dX9_adds_203 : decode cX9_adds 203 = .ok (.iload 6, 2) := by decide +kernel
theorem dX9_adds_205 : decode cX9_adds 205 = .ok (.iconst 2, 1) := by decide +kernel
theorem dX9_adds_206 : decode cX9_adds 206 = .ok (.iadd, 1) := by decide +kernel
theorem dX9_adds_207 : decode cX9_adds 207 = .ok (.iastore, 1) := by decide +kernel
theorem dX9_adds_208 : decode cX9_adds 208 = .ok (.return_, 1) := by decide +kernel
theorem dX9_aged_0 : decode cX9_aged 0 = .ok (.aload_n 0, 1) := by decide +kernel
theorem dX9_aged_1 : decode cX9_aged 1 = .ok (.iconst 0, 1) := by decide +kernel
theorem dX9_aged_2 : decode cX9_aged 2 = .ok (.putfield 58, 3) := by decide +kernel
theorem dX9_aged_5 : decode cX9_aged 5 = .ok (.aload_n 0, 1) := by decide +kernel
theorem dX9_aged_6 : decode cX9_aged 6 = .ok (.iload_n 1, 1) := by decide +kernel
theorem dX9_aged_7 : decode cX9_aged 7 = .ok (.invokevirtual 94, 3) := by decide +kernel
theorem dX9_aged_10 : decode cX9_aged 10 = .ok (.ifCond .eq 14, 3) := by decide +kernel
theorem dX9_aged_13 : decode cX9_aged 13 = .ok (.aload_n 0, 1) := by decide +kernel
theorem dX9_aged_14 : decode cX9_aged 14 = .ok (.iload_n 2, 1) := by decide +kernel
theorem dX9_aged_15 : decode cX9_aged 15 = .ok (.iconst 0, 1) := by decide +kernel
theorem dX9_aged_16 : decode cX9_aged 16 = .ok (.bipush 99, 2) := by decide +kernel
theorem dX9_aged_18 : decode cX9_aged 18 = .ok (.invokevirtual 79, 3) := by decide +kernel
theorem dX9_aged_21 : decode cX9_aged 21 = .ok (.ifCond .ne 5, 3) := by decide +kernel
theorem dX9_aged_24 : decode cX9_aged 24 = .ok (.iconst (-1), 1) := by decide +kernel
theorem dX9_aged_25 : decode cX9_aged 25 = .ok (.ireturn, 1) := by decide +kernel
theorem dX9_aged_26 : decode cX9_aged 26 = .ok (.iconst 0, 1) := by decide +kernel
theorem dX9_aged_27 : decode cX9_aged 27 = .ok (.istore_n 3, 1) := by decide +kernel
theorem dX9_aged_28 : decode cX9_aged 28 = .ok (.iconst 0, 1) := by decide +kernel
theorem dX9_aged_29 : decode cX9_aged 29 = .ok (.istore 4, 2) := by decide +kernel
theorem dX9_aged_31 : decode cX9_aged 31 = .ok (.iload 4, 2) := by decide +kernel
theorem dX9_aged_33 : decode cX9_aged 33 = .ok (.aload_n 0, 1) := by decide +kernel
theorem dX9_aged_34 : decode cX9_aged 34 = .ok (.invokevirtual 61, 3) := by decide +kernel
theorem dX9_aged_37 : decode cX9_aged 37 = .ok (.if_icmp .ge 73, 3) := by decide +kernel
theorem dX9_aged_40 : decode cX9_aged 40 = .ok (.iconst 0, 1) := by decide +kernel
theorem dX9_aged_41 : decode cX9_aged 41 = .ok (.istore 5, 2) := by decide +kernel
theorem dX9_aged_43 : decode cX9_aged 43 = .ok (.iload 5, 2) := by decide +kernel
theorem dX9_aged_45 : decode cX9_aged 45 = .ok (.aload_n 0, 1) := by decide +kernel
theorem dX9_aged_46 : decode cX9_aged 46 = .ok (.iload 4, 2) := by decide +kernel
theorem dX9_aged_48 : decode cX9_aged 48 = .ok (.iload_n 1, 1) := by decide +kernel
theorem dX9_aged_49 : decode cX9_aged 49 = .ok (.invokevirtual 110, 3) := by decide +kernel
theorem dX9_aged_52 : decode cX9_aged 52 = .ok (.if_icmp .ge 52, 3) := by decide +kernel
theorem dX9_aged_55 : decode cX9_aged 55 = .ok (.aload_n 0, 1) := by decide +kernel
theorem dX9_aged_56 : decode cX9_aged 56 = .ok (.iload 4, 2) := by decide +kernel
theorem dX9_aged_58 : decode cX9_aged 58 = .ok (.iload_n 1, 1) := by decide +kernel
theorem dX9_aged_59 : decode cX9_aged 59 = .ok (.invokevirtual 116, 3) := by decide +kernel
theorem dX9_aged_62 : decode cX9_aged 62 = .ok (.ifCond .eq 42, 3) := by decide +kernel
theorem dX9_aged_65 : decode cX9_aged 65 = .ok (.aload_n 0, 1) := by decide +kernel
theorem dX9_aged_66 : decode cX9_aged 66 = .ok (.getfield 7, 3) := by decide +kernel
theorem dX9_aged_69 : decode cX9_aged 69 = .ok (.bipush 6, 2) := by decide +kernel
theorem dX9_aged_71 : decode cX9_aged 71 = .ok (.iaload, 1) := by decide +kernel
theorem dX9_aged_72 : decode cX9_aged 72 = .ok (.aload_n 0, 1) := by decide +kernel
theorem dX9_aged_73 : decode cX9_aged 73 = .ok (.iload 4, 2) := by decide +kernel
theorem dX9_aged_75 : decode cX9_aged 75 = .ok (.iload_n 1, 1) := by decide +kernel
theorem dX9_aged_76 : decode cX9_aged 76 = .ok (.iload 5, 2) := by decide +kernel
theorem dX9_aged_78 : decode cX9_aged 78 = .ok (.invokevirtual 125, 3) := by decide +kernel
theorem dX9_aged_81 : decode cX9_aged 81 = .ok (.isub, 1) := by decide +kernel
theorem dX9_aged_82 : decode cX9_aged 82 = .ok (.iload_n 2, 1) := by decide +kernel
theorem dX9_aged_83 : decode cX9_aged 83 = .ok (.if_icmp .lt 15, 3) := by decide +kernel
theorem dX9_aged_86 : decode cX9_aged 86 = .ok (.iload_n 3, 1) := by decide +kernel
theorem dX9_aged_87 : decode cX9_aged 87 = .ok (.aload_n 0, 1) := by decide +kernel
theorem dX9_aged_88 : decode cX9_aged 88 = .ok (.iload 4, 2) := by decide +kernel
theorem dX9_aged_90 : decode cX9_aged 90 = .ok (.iload_n 1, 1) := by decide +kernel
theorem dX9_aged_91 : decode cX9_aged 91 = .ok (.iload 5, 2) := by decide +kernel
theorem dX9_aged_93 : decode cX9_aged 93 = .ok (.invokevirtual 113, 3) := by decide +kernel
theorem dX9_aged_96 : decode cX9_aged 96 = .ok (.isub, 1) := by decide +kernel
theorem dX9_aged_97 : decode cX9_aged 97 = .ok (.istore_n 3, 1) := by decide +kernel
theorem dX9_aged_98 : decode cX9_aged 98 = .ok (.iinc 5 1, 3) := by decide +kernel
theorem dX9_aged_101 : decode cX9_aged 101 = .ok (.goto (-58), 3) := by decide +kernel
theorem dX9_aged_104 : decode cX9_aged 104 = .ok (.iinc 4 1, 3) := by decide +kernel
theorem dX9_aged_107 : decode cX9_aged 107 = .ok (.goto (-76), 3) := by decide +kernel
theorem dX9_aged_110 : decode cX9_aged 110 = .ok (.iload_n 3, 1) := by decide +kernel
theorem dX9_aged_111 : decode cX9_aged 111 = .ok (.ireturn, 1) := by decide +kernel
theorem dX9_ahead_0 : decode cX9_ahead 0 = .ok (.aload_n 0, 1) := by decide +kernel
theorem dX9_ahead_1 : decode cX9_ahead 1 = .ok (.iconst 0, 1) := by decide +kernel
theorem dX9_ahead_2 : decode cX9_ahead 2 = .ok (.putfield 58, 3) := by decide +kernel
theorem dX9_ahead_5 : decode cX9_ahead 5 = .ok (.aload_n 0, 1) := by decide +kernel
theorem dX9_ahead_6 : decode cX9_ahead 6 = .ok (.iload_n 1, 1) := by decide +kernel
theorem dX9_ahead_7 : decode cX9_ahead 7 = .ok (.invokevirtual 90, 3) := by decide +kernel
theorem dX9_ahead_10 : decode cX9_ahead 10 = .ok (.ifCond .eq 20, 3) := by decide +kernel
theorem dX9_ahead_13 : decode cX9_ahead 13 = .ok (.aload_n 0, 1) := by decide +kernel
theorem dX9_ahead_14 : decode cX9_ahead 14 = .ok (.iload_n 2, 1) := by decide +kernel
theorem dX9_ahead_15 : decode cX9_ahead 15 = .ok (.invokevirtual 94, 3) := by decide +kernel
theorem dX9_ahead_18 : decode cX9_ahead 18 = .ok (.ifCond .eq 12, 3) := by decide +kernel
theorem dX9_ahead_21 : decode cX9_ahead 21 = .ok (.aload_n 0, 1) := by decide +kernel
theorem dX9_ahead_22 : decode cX9_ahead 22 = .ok (.iload_n 1, 1) := by decide +kernel
theorem dX9_ahead_23 : decode cX9_ahead 23 = .ok (.iload_n 2, 1) := by decide +kernel
theorem dX9_ahead_24 : decode cX9_ahead 24 = .ok (.invokevirtual 122, 3) := by decide +kernel
theorem dX9_ahead_27 : decode cX9_ahead 27 = .ok (.ifCond .ne 5, 3) := by decide +kernel
theorem dX9_ahead_30 : decode cX9_ahead 30 = .ok (.iconst (-1), 1) := by decide +kernel
theorem dX9_ahead_31 : decode cX9_ahead 31 = .ok (.ireturn, 1) := by decide +kernel
theorem dX9_ahead_32 : decode cX9_ahead 32 = .ok (.aload_n 0, 1) := by decide +kernel
theorem dX9_ahead_33 : decode cX9_ahead 33 = .ok (.iload_n 2, 1) := by decide +kernel
theorem dX9_ahead_34 : decode cX9_ahead 34 = .ok (.bipush 99, 2) := by decide +kernel
theorem dX9_ahead_36 : decode cX9_ahead 36 = .ok (.invokevirtual 271, 3) := by decide +kernel
theorem dX9_ahead_39 : decode cX9_ahead 39 = .ok (.iconst 0, 1) := by decide +kernel
theorem dX9_ahead_40 : decode cX9_ahead 40 = .ok (.istore_n 3, 1) := by decide +kernel
theorem dX9_ahead_41 : decode cX9_ahead 41 = .ok (.iconst 0, 1) := by decide +kernel
theorem dX9_ahead_42 : decode cX9_ahead 42 = .ok (.istore 4, 2) := by decide +kernel
theorem dX9_ahead_44 : decode cX9_ahead 44 = .ok (.iload 4, 2) := by decide +kernel
theorem dX9_ahead_46 : decode cX9_ahead 46 = .ok (.aload_n 0, 1) := by decide +kernel
theorem dX9_ahead_47 : decode cX9_ahead 47 = .ok (.getfield 240, 3) := by decide +kernel
theorem dX9_ahead_50 : decode cX9_ahead 50 = .ok (.if_icmp .ge 30, 3) := by decide +kernel
theorem dX9_ahead_53 : decode cX9_ahead 53 = .ok (.aload_n 0, 1) := by decide +kernel
theorem dX9_ahead_54 : decode cX9_ahead 54 = .ok (.getfield 26, 3) := by decide +kernel
theorem dX9_ahead_57 : decode cX9_ahead 57 = .ok (.iload 4, 2) := by decide +kernel
theorem dX9_ahead_59 : decode cX9_ahead 59 = .ok (.iaload, 1) := by decide +kernel
theorem dX9_ahead_60 : decode cX9_ahead 60 = .ok (.iload_n 1, 1) := by decide +kernel
theorem dX9_ahead_61 : decode cX9_ahead 61 = .ok (.if_icmp .eq 19, 3) := by decide +kernel
theorem dX9_ahead_64 : decode cX9_ahead 64 = .ok (.iload_n 3, 1) := by decide +kernel
theorem dX9_ahead_65 : decode cX9_ahead 65 = .ok (.aload_n 0, 1) := by decide +kernel
theorem dX9_ahead_66 : decode cX9_ahead 66 = .ok (.getfield 32, 3) := by decide +kernel
theorem dX9_ahead_69 : decode cX9_ahead 69 = .ok (.iload 4, 2) := by decide +kernel
theorem dX9_ahead_71 : decode cX9_ahead 71 = .ok (.iaload, 1) := by decide +kernel
theorem dX9_ahead_72 : decode cX9_ahead 72 = .ok (.iadd, 1) := by decide +kernel
theorem dX9_ahead_73 : decode cX9_ahead 73 = .ok (.istore_n 3, 1) := by decide +kernel
theorem dX9_ahead_74 : decode cX9_ahead 74 = .ok (.iinc 4 1, 3) := by decide +kernel
theorem dX9_ahead_77 : decode cX9_ahead 77 = .ok (.goto (-33), 3) := by decide +kernel
theorem dX9_ahead_80 : decode cX9_ahead 80 = .ok (.iload_n 3, 1) := by decide +kernel
theorem dX9_ahead_81 : decode cX9_ahead 81 = .ok (.ireturn, 1) := by decide +kernel
theorem dX9_allCash_0 : decode cX9_allCash 0 = .ok (.lconst 0, 1) := by decide +kernel
theorem dX9_allCash_1 : decode cX9_allCash 1 = .ok (.lstore_n 1, 1) := by decide +kernel
theorem dX9_allCash_2 : decode cX9_allCash 2 = .ok (.iconst 0, 1) := by decide +kernel
theorem dX9_allCash_3 : decode cX9_allCash 3 = .ok (.istore_n 3, 1) := by decide +kernel
theorem dX9_allCash_4 : decode cX9_allCash 4 = .ok (.iload_n 3, 1) := by decide +kernel
theorem dX9_allCash_5 : decode cX9_allCash 5 = .ok (.bipush 12, 2) := by decide +kernel
theorem dX9_allCash_7 : decode cX9_allCash 7 = .ok (.if_icmp .ge 18, 3) := by decide +kernel
theorem dX9_allCash_10 : decode cX9_allCash 10 = .ok (.lload_n 1, 1) := by decide +kernel
theorem dX9_allCash_11 : decode cX9_allCash 11 = .ok (.aload_n 0, 1) := by decide +kernel
theorem dX9_allCash_12 : decode cX9_allCash 12 = .ok (.getfield 16, 3) := by decide +kernel
theorem dX9_allCash_15 : decode cX9_allCash 15 = .ok (.iload_n 3, 1) := by decide +kernel
theorem dX9_allCash_16 : decode cX9_allCash 16 = .ok (.laload, 1) := by decide +kernel
theorem dX9_allCash_17 : decode cX9_allCash 17 = .ok (.ladd, 1) := by decide +kernel
theorem dX9_allCash_18 : decode cX9_allCash 18 = .ok (.lstore_n 1, 1) := by decide +kernel
theorem dX9_allCash_19 : decode cX9_allCash 19 = .ok (.iinc 3 1, 3) := by decide +kernel
theorem dX9_allCash_22 : decode cX9_allCash 22 = .ok (.goto (-18), 3) := by decide +kernel
theorem dX9_allCash_25 : decode cX9_allCash 25 = .ok (.lload_n 1, 1) := by decide +kernel
theorem dX9_allCash_26 : decode cX9_allCash 26 = .ok (.l2i, 1) := by decide +kernel
theorem dX9_allCash_27 : decode cX9_allCash 27 = .ok (.ireturn, 1) := by decide +kernel
theorem dX9_allots_0 : decode cX9_allots 0 = .ok (.aload_n 0, 1) := by decide +kernel
theorem dX9_allots_1 : decode cX9_allots 1 = .ok (.getfield 250, 3) := by decide +kernel
theorem dX9_allots_4 : decode cX9_allots 4 = .ok (.ifCond .le 120, 3) := by decide +kernel
theorem dX9_allots_7 : decode cX9_allots 7 = .ok (.aload_n 0, 1) := by decide +kernel
theorem dX9_allots_8 : decode cX9_allots 8 = .ok (.iload_n 1, 1) := by decide +kernel
theorem dX9_allots_9 : decode cX9_allots 9 = .ok (.invokevirtual 259, 3) := by decide +kernel
theorem dX9_allots_12 : decode cX9_allots 12 = .ok (.istore_n 2, 1) := by decide +kernel
theorem dX9_allots_13 : decode cX9_allots 13 = .ok (.iload_n 2, 1) := by decide +kernel
theorem dX9_allots_14 : decode cX9_allots 14 = .ok (.iconst (-1), 1) := by decide +kernel
theorem dX9_allots_15 : decode cX9_allots 15 = .ok (.if_icmp .ne 4, 3) := by decide +kernel
theorem dX9_allots_18 : decode cX9_allots 18 = .ok (.return_, 1) := by decide +kernel
theorem dX9_allots_19 : decode cX9_allots 19 = .ok (.aload_n 0, 1) := by decide +kernel
theorem dX9_allots_20 : decode cX9_allots 20 = .ok (.aload_n 0, 1) := by decide +kernel
theorem dX9_allots_21 : decode cX9_allots 21 = .ok (.getfield 250, 3) := by decide +kernel
theorem dX9_allots_24 : decode cX9_allots 24 = .ok (.aload_n 0, 1) := by decide +kernel
theorem dX9_allots_25 : decode cX9_allots 25 = .ok (.iload_n 2, 1) := by decide +kernel
theorem dX9_allots_26 : decode cX9_allots 26 = .ok (.iload_n 1, 1) := by decide +kernel
theorem dX9_allots_27 : decode cX9_allots 27 = .ok (.iconst 0, 1) := by decide +kernel
theorem dX9_allots_28 : decode cX9_allots 28 = .ok (.invokevirtual 113, 3) := by decide +kernel
theorem dX9_allots_31 : decode cX9_allots 31 = .ok (.invokevirtual 131, 3) := by decide +kernel
theorem dX9_allots_34 : decode cX9_allots 34 = .ok (.istore_n 3, 1) := by decide +kernel
theorem dX9_allots_35 : decode cX9_allots 35 = .ok (.aload_n 0, 1) := by decide +kernel
theorem dX9_allots_36 : decode cX9_allots 36 = .ok (.iload_n 2, 1) := by decide +kernel
theorem dX9_allots_37 : decode cX9_allots 37 = .ok (.iload_n 1, 1) := by decide +kernel
theorem dX9_allots_38 : decode cX9_allots 38 = .ok (.iload_n 3, 1) := by decide +kernel
theorem dX9_allots_39 : decode cX9_allots 39 = .ok (.invokevirtual 101, 3) := by decide +kernel
theorem dX9_allots_42 : decode cX9_allots 42 = .ok (.aload_n 0, 1) := by decide +kernel
theorem dX9_allots_43 : decode cX9_allots 43 = .ok (.iload_n 2, 1) := by decide +kernel
theorem dX9_allots_44 : decode cX9_allots 44 = .ok (.iload_n 3, 1) := by decide +kernel
theorem dX9_allots_45 : decode cX9_allots 45 = .ok (.i2l, 1) := by decide +kernel
theorem dX9_allots_46 : decode cX9_allots 46 = .ok (.lneg, 1) := by decide +kernel
theorem dX9_allots_47 : decode cX9_allots 47 = .ok (.aload_n 0, 1) := by decide +kernel
theorem dX9_allots_48 : decode cX9_allots 48 = .ok (.iload_n 1, 1) := by decide +kernel
theorem dX9_allots_49 : decode cX9_allots 49 = .ok (.invokevirtual 203, 3) := by decide +kernel
theorem dX9_allots_52 : decode cX9_allots 52 = .ok (.i2l, 1) := by decide +kernel
theorem dX9_allots_53 : decode cX9_allots 53 = .ok (.lmul, 1) := by decide +kernel
theorem dX9_allots_54 : decode cX9_allots 54 = .ok (.invokevirtual 206, 3) := by decide +kernel
theorem dX9_allots_57 : decode cX9_allots 57 = .ok (.aload_n 0, 1) := by decide +kernel
theorem dX9_allots_58 : decode cX9_allots 58 = .ok (.iload_n 2, 1) := by decide +kernel
theorem dX9_allots_59 : decode cX9_allots 59 = .ok (.iload_n 1, 1) := by decide +kernel
theorem dX9_allots_60 : decode cX9_allots 60 = .ok (.iconst 0, 1) := by decide +kernel
theorem dX9_allots_61 : decode cX9_allots 61 = .ok (.iload_n 3, 1) := by decide +kernel
theorem dX9_allots_62 : decode cX9_allots 62 = .ok (.invokevirtual 134, 3) := by decide +kernel
theorem dX9_allots_65 : decode cX9_allots 65 = .ok (.aload_n 0, 1) := by decide +kernel
theorem dX9_allots_66 : decode cX9_allots 66 = .ok (.getfield 7, 3) := by decide +kernel
theorem dX9_allots_69 : decode cX9_allots 69 = .ok (.sipush 276, 3) := by decide +kernel
theorem dX9_allots_72 : decode cX9_allots 72 = .ok (.aload_n 0, 1) := by decide +kernel
theorem dX9_allots_73 : decode cX9_allots 73 = .ok (.iload_n 2, 1) := by decide +kernel
theorem dX9_allots_74 : decode cX9_allots 74 = .ok (.iload_n 1, 1) := by decide +kernel
theorem dX9_allots_75 : decode cX9_allots 75 = .ok (.invokevirtual 65, 3) := by decide +kernel
theorem dX9_allots_78 : decode cX9_allots 78 = .ok (.iadd, 1) := by decide +kernel
theorem dX9_allots_79 : decode cX9_allots 79 = .ok (.aload_n 0, 1) := by decide +kernel
theorem dX9_allots_80 : decode cX9_allots 80 = .ok (.iconst 0, 1) := by decide +kernel
theorem dX9_allots_81 : decode cX9_allots 81 = .ok (.aload_n 0, 1) := by decide +kernel
theorem dX9_allots_82 : decode cX9_allots 82 = .ok (.getfield 7, 3) := by decide +kernel
theorem dX9_allots_85 : decode cX9_allots 85 = .ok (.sipush 276, 3) := by decide +kernel
theorem dX9_allots_88 : decode cX9_allots 88 = .ok (.aload_n 0, 1) := by decide +kernel
theorem dX9_allots_89 : decode cX9_allots 89 = .ok (.iload_n 2, 1) := by decide +kernel
theorem dX9_allots_90 : decode cX9_allots 90 = .ok (.iload_n 1, 1) := by decide +kernel
theorem dX9_allots_91 : decode cX9_allots 91 = .ok (.invokevirtual 65, 3) := by decide +kernel
theorem dX9_allots_94 : decode cX9_allots 94 = .ok (.iadd, 1) := by decide +kernel
theorem dX9_allots_95 : decode cX9_allots 95 = .ok (.iaload, 1) := by decide +kernel
theorem dX9_allots_96 : decode cX9_allots 96 = .ok (.iload_n 3, 1) := by decide +kernel
theorem dX9_allots_97 : decode cX9_allots 97 = .ok (.isub, 1) := by decide +kernel
theorem dX9_allots_98 : decode cX9_allots 98 = .ok (.invokevirtual 76, 3) := by decide +kernel
theorem dX9_allots_101 : decode cX9_allots 101 = .ok (.iastore, 1) := by decide +kernel
theorem dX9_allots_102 : decode cX9_allots 102 = .ok (.aload_n 0, 1) := by decide +kernel
theorem dX9_allots_103 : decode cX9_allots 103 = .ok (.iconst 1, 1) := by decide +kernel
theorem dX9_allots_104 : decode cX9_allots 104 = .ok (.iload_n 1, 1) := by decide +kernel
theorem dX9_allots_105 : decode cX9_allots 105 = .ok (.iconst (-1), 1) := by decide +kernel
theorem dX9_allots_106 : decode cX9_allots 106 = .ok (.iload_n 2, 1) := by decide +kernel
theorem dX9_allots_107 : decode cX9_allots 107 = .ok (.iload_n 3, 1) := by decide +kernel
theorem dX9_allots_108 : decode cX9_allots 108 = .ok (.invokevirtual 213, 3) := by decide +kernel
theorem dX9_allots_111 : decode cX9_allots 111 = .ok (.aload_n 0, 1) := by decide +kernel
theorem dX9_allots_112 : decode cX9_allots 112 = .ok (.aload_n 0, 1) := by decide +kernel
theorem dX9_allots_113 : decode cX9_allots 113 = .ok (.getfield 250, 3) := by decide +kernel
theorem dX9_allots_116 : decode cX9_allots 116 = .ok (.iload_n 3, 1) := by decide +kernel
theorem dX9_allots_117 : decode cX9_allots 117 = .ok (.isub, 1) := by decide +kernel
theorem dX9_allots_118 : decode cX9_allots 118 = .ok (.putfield 250, 3) := by decide +kernel
theorem dX9_allots_121 : decode cX9_allots 121 = .ok (.goto (-121), 3) := by decide +kernel
theorem dX9_allots_124 : decode cX9_allots 124 = .ok (.return_, 1) := by decide +kernel
theorem dX9_apart_0 : decode cX9_apart 0 = .ok (.aload_n 0, 1) := by decide +kernel
theorem dX9_apart_1 : decode cX9_apart 1 = .ok (.iconst 0, 1) := by decide +kernel
theorem dX9_apart_2 : decode cX9_apart 2 = .ok (.putfield 58, 3) := by decide +kernel
theorem dX9_apart_5 : decode cX9_apart 5 = .ok (.aload_n 0, 1) := by decide +kernel
theorem dX9_apart_6 : decode cX9_apart 6 = .ok (.iload_n 1, 1) := by decide +kernel
theorem dX9_apart_7 : decode cX9_apart 7 = .ok (.iload_n 2, 1) := by decide +kernel
theorem dX9_apart_8 : decode cX9_apart 8 = .ok (.iload_n 3, 1) := by decide +kernel
theorem dX9_apart_9 : decode cX9_apart 9 = .ok (.iload 4, 2) := by decide +kernel
theorem dX9_apart_11 : decode cX9_apart 11 = .ok (.iload 5, 2) := by decide +kernel
theorem dX9_apart_13 : decode cX9_apart 13 = .ok (.iconst 1, 1) := by decide +kernel
theorem dX9_apart_14 : decode cX9_apart 14 = .ok (.invokevirtual 147, 3) := by decide +kernel
theorem dX9_apart_17 : decode cX9_apart 17 = .ok (.ireturn, 1) := by decide +kernel
theorem dX9_assignedTo_0 : decode cX9_assignedTo 0 = .ok (.iconst 0, 1) := by decide +kernel
theorem dX9_assignedTo_1 : decode cX9_assignedTo 1 = .ok (.istore_n 3, 1) := by decide +kernel
theorem dX9_assignedTo_2 : decode cX9_assignedTo 2 = .ok (.iconst 0, 1) := by decide +kernel
theorem dX9_assignedTo_3 : decode cX9_assignedTo 3 = .ok (.istore 4, 2) := by decide +kernel
theorem dX9_assignedTo_5 : decode cX9_assignedTo 5 = .ok (.iload 4, 2) := by decide +kernel
theorem dX9_assignedTo_7 : decode cX9_assignedTo 7 = .ok (.aload_n 0, 1) := by decide +kernel
theorem dX9_assignedTo_8 : decode cX9_assignedTo 8 = .ok (.getfield 7, 3) := by decide +kernel
theorem dX9_assignedTo_11 : decode cX9_assignedTo 11 = .ok (.bipush 8, 2) := by decide +kernel
theorem dX9_assignedTo_13 : decode cX9_assignedTo 13 = .ok (.iaload, 1) := by decide +kernel
theorem dX9_assignedTo_14 : decode cX9_assignedTo 14 = .ok (.if_icmp .ge 32, 3) := by decide +kernel
theorem dX9_assignedTo_17 : decode cX9_assignedTo 17 = .ok (.aload_n 0, 1) := by decide +kernel
theorem dX9_assignedTo_18 : decode cX9_assignedTo 18 = .ok (.iload 4, 2) := by decide +kernel
theorem dX9_assignedTo_20 : decode cX9_assignedTo 20 = .ok (.iload_n 2, 1) := by decide +kernel
theorem dX9_assignedTo_21 : decode cX9_assignedTo 21 = .ok (.invokevirtual 160, 3) := by decide +kernel
theorem dX9_assignedTo_24 : decode cX9_assignedTo 24 = .ok (.ifCond .eq 16, 3) := by decide +kernel
theorem dX9_assignedTo_27 : decode cX9_assignedTo 27 = .ok (.iload_n 3, 1) := by decide +kernel
theorem dX9_assignedTo_28 : decode cX9_assignedTo 28 = .ok (.aload_n 0, 1) := by decide +kernel
theorem dX9_assignedTo_29 : decode cX9_assignedTo 29 = .ok (.iload 4, 2) := by decide +kernel
theorem dX9_assignedTo_31 : decode cX9_assignedTo 31 = .ok (.bipush 8, 2) := by decide +kernel
theorem dX9_assignedTo_33 : decode cX9_assignedTo 33 = .ok (.iload_n 1, 1) := by decide +kernel
theorem dX9_assignedTo_34 : decode cX9_assignedTo 34 = .ok (.iadd, 1) := by decide +kernel
theorem dX9_assignedTo_35 : decode cX9_assignedTo 35 = .ok (.invokevirtual 157, 3) := by decide +kernel
theorem dX9_assignedTo_38 : decode cX9_assignedTo 38 = .ok (.iadd, 1) := by decide +kernel
theorem dX9_assignedTo_39 : decode cX9_assignedTo 39 = .ok (.istore_n 3, 1) := by decide +kernel
theorem dX9_assignedTo_40 : decode cX9_assignedTo 40 = .ok (.iinc 4 1, 3) := by decide +kernel
theorem dX9_assignedTo_43 : decode cX9_assignedTo 43 = .ok (.goto (-38), 3) := by decide +kernel
theorem dX9_assignedTo_46 : decode cX9_assignedTo 46 = .ok (.iload_n 3, 1) := by decide +kernel
theorem dX9_assignedTo_47 : decode cX9_assignedTo 47 = .ok (.ireturn, 1) := by decide +kernel
theorem dX9_at_0 : decode cX9_at 0 = .ok (.aload_n 0, 1) := by decide +kernel
theorem dX9_at_1 : decode cX9_at 1 = .ok (.iconst 0, 1) := by decide +kernel
theorem dX9_at_2 : decode cX9_at 2 = .ok (.putfield 58, 3) := by decide +kernel
theorem dX9_at_5 : decode cX9_at 5 = .ok (.aload_n 0, 1) := by decide +kernel
theorem dX9_at_6 : decode cX9_at 6 = .ok (.iload_n 1, 1) := by decide +kernel
theorem dX9_at_7 : decode cX9_at 7 = .ok (.invokevirtual 90, 3) := by decide +kernel
theorem dX9_at_10 : decode cX9_at 10 = .ok (.ifCond .eq 32, 3) := by decide +kernel
theorem dX9_at_13 : decode cX9_at 13 = .ok (.aload_n 0, 1) := by decide +kernel
theorem dX9_at_14 : decode cX9_at 14 = .ok (.iload_n 2, 1) := by decide +kernel
theorem dX9_at_15 : decode cX9_at 15 = .ok (.invokevirtual 94, 3) := by decide +kernel
theorem dX9_at_18 : decode cX9_at 18 = .ok (.ifCond .eq 24, 3) := by decide +kernel
theorem dX9_at_21 : decode cX9_at 21 = .ok (.aload_n 0, 1) := by decide +kernel
theorem dX9_at_22 : decode cX9_at 22 = .ok (.iload_n 3, 1) := by decide +kernel
theorem dX9_at_23 : decode cX9_at 23 = .ok (.iconst 0, 1) := by decide +kernel
theorem dX9_at_24 : decode cX9_at 24 = .ok (.bipush 9, 2) := by decide +kernel
theorem dX9_at_26 : decode cX9_at 26 = .ok (.invokevirtual 79, 3) := by decide +kernel
theorem dX9_at_29 : decode cX9_at 29 = .ok (.ifCond .eq 13, 3) := by decide +kernel
theorem dX9_at_32 : decode cX9_at 32 = .ok (.aload_n 0, 1) := by decide +kernel
theorem dX9_at_33 : decode cX9_at 33 = .ok (.iload_n 1, 1) := by decide +kernel
theorem dX9_at_34 : decode cX9_at 34 = .ok (.iload_n 2, 1) := by decide +kernel
theorem dX9_at_35 : decode cX9_at 35 = .ok (.iload_n 3, 1) := by decide +kernel
theorem dX9_at_36 : decode cX9_at 36 = .ok (.invokevirtual 327, 3) := by decide +kernel
theorem dX9_at_39 : decode cX9_at 39 = .ok (.goto 6, 3) := by decide +kernel
theorem dX9_at_42 : decode cX9_at 42 = .ok (.ldc_w 330, 3) := by decide +kernel
theorem dX9_at_45 : decode cX9_at 45 = .ok (.ireturn, 1) := by decide +kernel
theorem dX9_atOf_0 : decode cX9_atOf 0 = .ok (.iload_n 3, 1) := by decide +kernel
theorem dX9_atOf_1 : decode cX9_atOf 1 = .ok (.ifCond .ne 10, 3) := by decide +kernel
theorem dX9_atOf_4 : decode cX9_atOf 4 = .ok (.aload_n 0, 1) := by decide +kernel
theorem dX9_atOf_5 : decode cX9_atOf 5 = .ok (.iload_n 1, 1) := by decide +kernel
theorem dX9_atOf_6 : decode cX9_atOf 6 = .ok (.iload_n 2, 1) := by decide +kernel
theorem dX9_atOf_7 : decode cX9_atOf 7 = .ok (.invokevirtual 119, 3) := by decide +kernel
theorem dX9_atOf_10 : decode cX9_atOf 10 = .ok (.ireturn, 1) := by decide +kernel
theorem dX9_atOf_11 : decode cX9_atOf 11 = .ok (.iload_n 3, 1) := by decide +kernel
theorem dX9_atOf_12 : decode cX9_atOf 12 = .ok (.iconst 1, 1) := by decide +kernel
theorem dX9_atOf_13 : decode cX9_atOf 13 = .ok (.if_icmp .ne 10, 3) := by decide +kernel
theorem dX9_atOf_16 : decode cX9_atOf 16 = .ok (.aload_n 0, 1) := by decide +kernel
theorem dX9_atOf_17 : decode cX9_atOf 17 = .ok (.iload_n 1, 1) := by decide +kernel
theorem dX9_atOf_18 : decode cX9_atOf 18 = .ok (.iload_n 2, 1) := by decide +kernel
theorem dX9_atOf_19 : decode cX9_atOf 19 = .ok (.invokevirtual 73, 3) := by decide +kernel
theorem dX9_atOf_22 : decode cX9_atOf 22 = .ok (.ireturn, 1) := by decide +kernel
theorem dX9_atOf_23 : decode cX9_atOf 23 = .ok (.iload_n 3, 1) := by decide +kernel
theorem dX9_atOf_24 : decode cX9_atOf 24 = .ok (.iconst 2, 1) := by decide +kernel
theorem dX9_atOf_25 : decode cX9_atOf 25 = .ok (.if_icmp .ne 10, 3) := by decide +kernel
theorem dX9_atOf_28 : decode cX9_atOf 28 = .ok (.aload_n 0, 1) := by decide +kernel
theorem dX9_atOf_29 : decode cX9_atOf 29 = .ok (.iload_n 1, 1) := by decide +kernel
theorem dX9_atOf_30 : decode cX9_atOf 30 = .ok (.iload_n 2, 1) := by decide +kernel
theorem dX9_atOf_31 : decode cX9_atOf 31 = .ok (.invokevirtual 98, 3) := by decide +kernel
theorem dX9_atOf_34 : decode cX9_atOf 34 = .ok (.ireturn, 1) := by decide +kernel
theorem dX9_atOf_35 : decode cX9_atOf 35 = .ok (.iload_n 3, 1) := by decide +kernel
theorem dX9_atOf_36 : decode cX9_atOf 36 = .ok (.iconst 3, 1) := by decide +kernel
theorem dX9_atOf_37 : decode cX9_atOf 37 = .ok (.if_icmp .ne 19, 3) := by decide +kernel
theorem dX9_atOf_40 : decode cX9_atOf 40 = .ok (.aload_n 0, 1) := by decide +kernel
theorem dX9_atOf_41 : decode cX9_atOf 41 = .ok (.getfield 7, 3) := by decide +kernel
theorem dX9_atOf_44 : decode cX9_atOf 44 = .ok (.sipush 132, 3) := by decide +kernel
theorem dX9_atOf_47 : decode cX9_atOf 47 = .ok (.aload_n 0, 1) := by decide +kernel
theorem dX9_atOf_48 : decode cX9_atOf 48 = .ok (.iload_n 1, 1) := by decide +kernel
theorem dX9_atOf_49 : decode cX9_atOf 49 = .ok (.iload_n 2, 1) := by decide +kernel
theorem dX9_atOf_50 : decode cX9_atOf 50 = .ok (.invokevirtual 65, 3) := by decide +kernel
theorem dX9_atOf_53 : decode cX9_atOf 53 = .ok (.iadd, 1) := by decide +kernel
theorem dX9_atOf_54 : decode cX9_atOf 54 = .ok (.iaload, 1) := by decide +kernel
theorem dX9_atOf_55 : decode cX9_atOf 55 = .ok (.ireturn, 1) := by decide +kernel
theorem dX9_atOf_56 : decode cX9_atOf 56 = .ok (.iload_n 3, 1) := by decide +kernel
theorem dX9_atOf_57 : decode cX9_atOf 57 = .ok (.iconst 4, 1) := by decide +kernel
theorem dX9_atOf_58 : decode cX9_atOf 58 = .ok (.if_icmp .ne 19, 3) := by decide +kernel
theorem dX9_atOf_61 : decode cX9_atOf 61 = .ok (.aload_n 0, 1) := by decide +kernel
theorem dX9_atOf_62 : decode cX9_atOf 62 = .ok (.getfield 7, 3) := by decide +kernel
theorem dX9_atOf_65 : decode cX9_atOf 65 = .ok (.sipush 204, 3) := by decide +kernel
theorem dX9_atOf_68 : decode cX9_atOf 68 = .ok (.aload_n 0, 1) := by decide +kernel
theorem dX9_atOf_69 : decode cX9_atOf 69 = .ok (.iload_n 1, 1) := by decide +kernel
theorem dX9_atOf_70 : decode cX9_atOf 70 = .ok (.iload_n 2, 1) := by decide +kernel
theorem dX9_atOf_71 : decode cX9_atOf 71 = .ok (.invokevirtual 65, 3) := by decide +kernel
theorem dX9_atOf_74 : decode cX9_atOf 74 = .ok (.iadd, 1) := by decide +kernel
theorem dX9_atOf_75 : decode cX9_atOf 75 = .ok (.iaload, 1) := by decide +kernel
theorem dX9_atOf_76 : decode cX9_atOf 76 = .ok (.ireturn, 1) := by decide +kernel
theorem dX9_atOf_77 : decode cX9_atOf 77 = .ok (.iload_n 3, 1) := by decide +kernel
theorem dX9_atOf_78 : decode cX9_atOf 78 = .ok (.iconst 5, 1) := by decide +kernel
theorem dX9_atOf_79 : decode cX9_atOf 79 = .ok (.if_icmp .ne 19, 3) := by decide +kernel
theorem dX9_atOf_82 : decode cX9_atOf 82 = .ok (.aload_n 0, 1) := by decide +kernel
theorem dX9_atOf_83 : decode cX9_atOf 83 = .ok (.getfield 7, 3) := by decide +kernel
theorem dX9_atOf_86 : decode cX9_atOf 86 = .ok (.sipush 276, 3) := by decide +kernel
theorem dX9_atOf_89 : decode cX9_atOf 89 = .ok (.aload_n 0, 1) := by decide +kernel
theorem dX9_atOf_90 : decode cX9_atOf 90 = .ok (.iload_n 1, 1) := by decide +kernel
theorem dX9_atOf_91 : decode cX9_atOf 91 = .ok (.iload_n 2, 1) := by decide +kernel
theorem dX9_atOf_92 : decode cX9_atOf 92 = .ok (.invokevirtual 65, 3) := by decide +kernel
theorem dX9_atOf_95 : decode cX9_atOf 95 = .ok (.iadd, 1) := by decide +kernel
theorem dX9_atOf_96 : decode cX9_atOf 96 = .ok (.iaload, 1) := by decide +kernel
theorem dX9_atOf_97 : decode cX9_atOf 97 = .ok (.ireturn, 1) := by decide +kernel
theorem dX9_atOf_98 : decode cX9_atOf 98 = .ok (.iload_n 3, 1) := by decide +kernel
theorem dX9_atOf_99 : decode cX9_atOf 99 = .ok (.bipush 6, 2) := by decide +kernel
theorem dX9_atOf_101 : decode cX9_atOf 101 = .ok (.if_icmp .ne 10, 3) := by decide +kernel
theorem dX9_atOf_104 : decode cX9_atOf 104 = .ok (.aload_n 0, 1) := by decide +kernel
theorem dX9_atOf_105 : decode cX9_atOf 105 = .ok (.iload_n 1, 1) := by decide +kernel
theorem dX9_atOf_106 : decode cX9_atOf 106 = .ok (.iload_n 2, 1) := by decide +kernel
theorem dX9_atOf_107 : decode cX9_atOf 107 = .ok (.invokevirtual 110, 3) := by decide +kernel
theorem dX9_atOf_110 : decode cX9_atOf 110 = .ok (.ireturn, 1) := by decide +kernel
theorem dX9_atOf_111 : decode cX9_atOf 111 = .ok (.iload_n 3, 1) := by decide +kernel
theorem dX9_atOf_112 : decode cX9_atOf 112 = .ok (.bipush 7, 2) := by decide +kernel
theorem dX9_atOf_114 : decode cX9_atOf 114 = .ok (.if_icmp .ne 24, 3) := by decide +kernel
theorem dX9_atOf_117 : decode cX9_atOf 117 = .ok (.aload_n 0, 1) := by decide +kernel
theorem dX9_atOf_118 : decode cX9_atOf 118 = .ok (.iload_n 1, 1) := by decide +kernel
theorem dX9_atOf_119 : decode cX9_atOf 119 = .ok (.iload_n 2, 1) := by decide +kernel
theorem dX9_atOf_120 : decode cX9_atOf 120 = .ok (.invokevirtual 110, 3) := by decide +kernel
theorem dX9_atOf_123 : decode cX9_atOf 123 = .ok (.ifCond .ne 7, 3) := by decide +kernel
theorem dX9_atOf_126 : decode cX9_atOf 126 = .ok (.iconst (-1), 1) := by decide +kernel
theorem dX9_atOf_127 : decode cX9_atOf 127 = .ok (.goto 10, 3) := by decide +kernel
theorem dX9_atOf_130 : decode cX9_atOf 130 = .ok (.aload_n 0, 1) := by decide +kernel
theorem dX9_atOf_131 : decode cX9_atOf 131 = .ok (.iload_n 1, 1) := by decide +kernel
theorem dX9_atOf_132 : decode cX9_atOf 132 = .ok (.iload_n 2, 1) := by decide +kernel
theorem dX9_atOf_133 : decode cX9_atOf 133 = .ok (.iconst 0, 1) := by decide +kernel
theorem dX9_atOf_134 : decode cX9_atOf 134 = .ok (.invokevirtual 125, 3) := by decide +kernel
theorem dX9_atOf_137 : decode cX9_atOf 137 = .ok (.ireturn, 1) := by decide +kernel
theorem dX9_atOf_138 : decode cX9_atOf 138 = .ok (.iload_n 3, 1) := by decide +kernel
theorem dX9_atOf_139 : decode cX9_atOf 139 = .ok (.bipush 8, 2) := by decide +kernel
theorem dX9_atOf_141 : decode cX9_atOf 141 = .ok (.if_icmp .ne 12, 3) := by decide +kernel
theorem dX9_atOf_144 : decode cX9_atOf 144 = .ok (.aload_n 0, 1) := by decide +kernel
theorem dX9_atOf_145 : decode cX9_atOf 145 = .ok (.iload_n 1, 1) := by decide +kernel
theorem dX9_atOf_146 : decode cX9_atOf 146 = .ok (.iload_n 2, 1) := by decide +kernel
theorem dX9_atOf_147 : decode cX9_atOf 147 = .ok (.invokevirtual 262, 3) := by decide +kernel
theorem dX9_atOf_150 : decode cX9_atOf 150 = .ok (.goto 18, 3) := by decide +kernel
theorem dX9_atOf_153 : decode cX9_atOf 153 = .ok (.aload_n 0, 1) := by decide +kernel
theorem dX9_atOf_154 : decode cX9_atOf 154 = .ok (.getfield 7, 3) := by decide +kernel
theorem dX9_atOf_157 : decode cX9_atOf 157 = .ok (.sipush 19710, 3) := by decide +kernel
theorem dX9_atOf_160 : decode cX9_atOf 160 = .ok (.aload_n 0, 1) := by decide +kernel
theorem dX9_atOf_161 : decode cX9_atOf 161 = .ok (.iload_n 1, 1) := by decide +kernel
theorem dX9_atOf_162 : decode cX9_atOf 162 = .ok (.iload_n 2, 1) := by decide +kernel
theorem dX9_atOf_163 : decode cX9_atOf 163 = .ok (.invokevirtual 65, 3) := by decide +kernel
theorem dX9_atOf_166 : decode cX9_atOf 166 = .ok (.iadd, 1) := by decide +kernel
theorem dX9_atOf_167 : decode cX9_atOf 167 = .ok (.iaload, 1) := by decide +kernel
theorem dX9_atOf_168 : decode cX9_atOf 168 = .ok (.ireturn, 1) := by decide +kernel
theorem dX9_book_0 : decode cX9_book 0 = .ok (.aload_n 0, 1) := by decide +kernel
theorem dX9_book_1 : decode cX9_book 1 = .ok (.iconst 0, 1) := by decide +kernel
theorem dX9_book_2 : decode cX9_book 2 = .ok (.putfield 58, 3) := by decide +kernel
theorem dX9_book_5 : decode cX9_book 5 = .ok (.aload_n 0, 1) := by decide +kernel
theorem dX9_book_6 : decode cX9_book 6 = .ok (.iload_n 1, 1) := by decide +kernel
theorem dX9_book_7 : decode cX9_book 7 = .ok (.iconst 0, 1) := by decide +kernel
theorem dX9_book_8 : decode cX9_book 8 = .ok (.aload_n 0, 1) := by decide +kernel
theorem dX9_book_9 : decode cX9_book 9 = .ok (.getfield 7, 3) := by decide +kernel
theorem dX9_book_12 : decode cX9_book 12 = .ok (.bipush 9, 2) := by decide +kernel
theorem dX9_book_14 : decode cX9_book 14 = .ok (.iaload, 1) := by decide +kernel
theorem dX9_book_15 : decode cX9_book 15 = .ok (.iconst 1, 1) := by decide +kernel
theorem dX9_book_16 : decode cX9_book 16 = .ok (.isub, 1) := by decide +kernel
theorem dX9_book_17 : decode cX9_book 17 = .ok (.invokevirtual 79, 3) := by decide +kernel
theorem dX9_book_20 : decode cX9_book 20 = .ok (.ifCond .eq 13, 3) := by decide +kernel
theorem dX9_book_23 : decode cX9_book 23 = .ok (.aload_n 0, 1) := by decide +kernel
theorem dX9_book_24 : decode cX9_book 24 = .ok (.iload_n 2, 1) := by decide +kernel
theorem dX9_book_25 : decode cX9_book 25 = .ok (.iconst 0, 1) := by decide +kernel
theorem dX9_book_26 : decode cX9_book 26 = .ok (.iconst 5, 1) := by decide +kernel
theorem dX9_book_27 : decode cX9_book 27 = .ok (.invokevirtual 79, 3) := by decide +kernel
theorem dX9_book_30 : decode cX9_book 30 = .ok (.ifCond .ne 5, 3) := by decide +kernel
theorem dX9_book_33 : decode cX9_book 33 = .ok (.iconst (-1), 1) := by decide +kernel
theorem dX9_book_34 : decode cX9_book 34 = .ok (.ireturn, 1) := by decide +kernel
theorem dX9_book_35 : decode cX9_book 35 = .ok (.aload_n 0, 1) := by decide +kernel
theorem dX9_book_36 : decode cX9_book 36 = .ok (.getfield 7, 3) := by decide +kernel
theorem dX9_book_39 : decode cX9_book 39 = .ok (.sipush 17910, 3) := by decide +kernel
theorem dX9_book_42 : decode cX9_book 42 = .ok (.bipush 6, 2) := by decide +kernel
theorem dX9_book_44 : decode cX9_book 44 = .ok (.iload_n 1, 1) := by decide +kernel
theorem dX9_book_45 : decode cX9_book 45 = .ok (.imul, 1) := by decide +kernel
theorem dX9_book_46 : decode cX9_book 46 = .ok (.iadd, 1) := by decide +kernel
theorem dX9_book_47 : decode cX9_book 47 = .ok (.iload_n 2, 1) := by decide +kernel
theorem dX9_book_48 : decode cX9_book 48 = .ok (.iadd, 1) := by decide +kernel
theorem dX9_book_49 : decode cX9_book 49 = .ok (.iaload, 1) := by decide +kernel
theorem dX9_book_50 : decode cX9_book 50 = .ok (.istore_n 3, 1) := by decide +kernel
theorem dX9_book_51 : decode cX9_book 51 = .ok (.iload_n 2, 1) := by decide +kernel
theorem dX9_book_52 : decode cX9_book 52 = .ok (.iconst 3, 1) := by decide +kernel
theorem dX9_book_53 : decode cX9_book 53 = .ok (.if_icmp .eq 8, 3) := by decide +kernel
theorem dX9_book_56 : decode cX9_book 56 = .ok (.iload_n 2, 1) := by decide +kernel
theorem dX9_book_57 : decode cX9_book 57 = .ok (.iconst 4, 1) := by decide +kernel
theorem dX9_book_58 : decode cX9_book 58 = .ok (.if_icmp .ne 9, 3) := by decide +kernel
theorem dX9_book_61 : decode cX9_book 61 = .ok (.iload_n 3, 1) := by decide +kernel
theorem dX9_book_62 : decode cX9_book 62 = .ok (.iconst 1, 1) := by decide +kernel
theorem dX9_book_63 : decode cX9_book 63 = .ok (.isub, 1) := by decide +kernel
theorem dX9_book_64 : decode cX9_book 64 = .ok (.goto 4, 3) := by decide +kernel
theorem dX9_book_67 : decode cX9_book 67 = .ok (.iload_n 3, 1) := by decide +kernel
theorem dX9_book_68 : decode cX9_book 68 = .ok (.ireturn, 1) := by decide +kernel
theorem dX9_buyPrice_0 : decode cX9_buyPrice 0 = .ok (.aload_n 0, 1) := by decide +kernel
theorem dX9_buyPrice_1 : decode cX9_buyPrice 1 = .ok (.iload_n 1, 1) := by decide +kernel
theorem dX9_buyPrice_2 : decode cX9_buyPrice 2 = .ok (.invokevirtual 197, 3) := by decide +kernel
theorem dX9_buyPrice_5 : decode cX9_buyPrice 5 = .ok (.aload_n 0, 1) := by decide +kernel
theorem dX9_buyPrice_6 : decode cX9_buyPrice 6 = .ok (.iload_n 1, 1) := by decide +kernel
theorem dX9_buyPrice_7 : decode cX9_buyPrice 7 = .ok (.invokevirtual 197, 3) := by decide +kernel
theorem dX9_buyPrice_10 : decode cX9_buyPrice 10 = .ok (.aload_n 0, 1) := by decide +kernel
theorem dX9_buyPrice_11 : decode cX9_buyPrice 11 = .ok (.iconst 5, 1) := by decide +kernel
theorem dX9_buyPrice_12 : decode cX9_buyPrice 12 = .ok (.invokevirtual 144, 3) := by decide +kernel
theorem dX9_buyPrice_15 : decode cX9_buyPrice 15 = .ok (.imul, 1) := by decide +kernel
theorem dX9_buyPrice_16 : decode cX9_buyPrice 16 = .ok (.bipush 100, 2) := by decide +kernel
theorem dX9_buyPrice_18 : decode cX9_buyPrice 18 = .ok (.idiv, 1) := by decide +kernel
theorem dX9_buyPrice_19 : decode cX9_buyPrice 19 = .ok (.iadd, 1) := by decide +kernel
theorem dX9_buyPrice_20 : decode cX9_buyPrice 20 = .ok (.ireturn, 1) := by decide +kernel
theorem dX9_call_0 : decode cX9_call 0 = .ok (.aload_n 0, 1) := by decide +kernel
theorem dX9_call_1 : decode cX9_call 1 = .ok (.iconst 0, 1) := by decide +kernel
theorem dX9_call_2 : decode cX9_call 2 = .ok (.putfield 58, 3) := by decide +kernel
theorem dX9_call_5 : decode cX9_call 5 = .ok (.aload_n 0, 1) := by decide +kernel
theorem dX9_call_6 : decode cX9_call 6 = .ok (.iload_n 1, 1) := by decide +kernel
theorem dX9_call_7 : decode cX9_call 7 = .ok (.invokevirtual 191, 3) := by decide +kernel
theorem dX9_call_10 : decode cX9_call 10 = .ok (.ifCond .eq 46, 3) := by decide +kernel
theorem dX9_call_13 : decode cX9_call 13 = .ok (.aload_n 0, 1) := by decide +kernel
theorem dX9_call_14 : decode cX9_call 14 = .ok (.iload_n 1, 1) := by decide +kernel
theorem dX9_call_15 : decode cX9_call 15 = .ok (.bipush 6, 2) := by decide +kernel
theorem dX9_call_17 : decode cX9_call 17 = .ok (.invokevirtual 151, 3) := by decide +kernel
theorem dX9_call_20 : decode cX9_call 20 = .ok (.aload_n 0, 1) := by decide +kernel
theorem dX9_call_21 : decode cX9_call 21 = .ok (.getfield 7, 3) := by decide +kernel
theorem dX9_call_24 : decode cX9_call 24 = .ok (.bipush 6, 2) := by decide +kernel
theorem dX9_call_26 : decode cX9_call 26 = .ok (.iaload, 1) := by decide +kernel
theorem dX9_call_27 : decode cX9_call 27 = .ok (.aload_n 0, 1) := by decide +kernel
theorem dX9_call_28 : decode cX9_call 28 = .ok (.iconst 3, 1) := by decide +kernel
theorem dX9_call_29 : decode cX9_call 29 = .ok (.invokevirtual 144, 3) := by decide +kernel
theorem dX9_call_32 : decode cX9_call 32 = .ok (.isub, 1) := by decide +kernel
theorem dX9_call_33 : decode cX9_call 33 = .ok (.if_icmp .gt 23, 3) := by decide +kernel
theorem dX9_call_36 : decode cX9_call 36 = .ok (.aload_n 0, 1) := by decide +kernel
theorem dX9_call_37 : decode cX9_call 37 = .ok (.iload_n 1, 1) := by decide +kernel
theorem dX9_call_38 : decode cX9_call 38 = .ok (.invokevirtual 194, 3) := by decide +kernel
theorem dX9_call_41 : decode cX9_call 41 = .ok (.ifCond .ne 15, 3) := by decide +kernel
theorem dX9_call_44 : decode cX9_call 44 = .ok (.aload_n 0, 1) := by decide +kernel
theorem dX9_call_45 : decode cX9_call 45 = .ok (.getfield 7, 3) := by decide +kernel
theorem dX9_call_48 : decode cX9_call 48 = .ok (.bipush 8, 2) := by decide +kernel
theorem dX9_call_50 : decode cX9_call 50 = .ok (.iaload, 1) := by decide +kernel
theorem dX9_call_51 : decode cX9_call 51 = .ok (.bipush 60, 2) := by decide +kernel
theorem dX9_call_53 : decode cX9_call 53 = .ok (.if_icmp .ne 5, 3) := by decide +kernel
theorem dX9_call_56 : decode cX9_call 56 = .ok (.iconst (-1), 1) := by decide +kernel
theorem dX9_call_57 : decode cX9_call 57 = .ok (.ireturn, 1) := by decide +kernel
theorem dX9_call_58 : decode cX9_call 58 = .ok (.aload_n 0, 1) := by decide +kernel
theorem dX9_call_59 : decode cX9_call 59 = .ok (.aload_n 0, 1) := by decide +kernel
theorem dX9_call_60 : decode cX9_call 60 = .ok (.iload_n 1, 1) := by decide +kernel
theorem dX9_call_61 : decode cX9_call 61 = .ok (.iconst 0, 1) := by decide +kernel
theorem dX9_call_62 : decode cX9_call 62 = .ok (.invokevirtual 151, 3) := by decide +kernel
theorem dX9_call_65 : decode cX9_call 65 = .ok (.aload_n 0, 1) := by decide +kernel
theorem dX9_call_66 : decode cX9_call 66 = .ok (.iload_n 1, 1) := by decide +kernel
theorem dX9_call_67 : decode cX9_call 67 = .ok (.iconst 2, 1) := by decide +kernel
theorem dX9_call_68 : decode cX9_call 68 = .ok (.invokevirtual 151, 3) := by decide +kernel
theorem dX9_call_71 : decode cX9_call 71 = .ok (.aload_n 0, 1) := by decide +kernel
theorem dX9_call_72 : decode cX9_call 72 = .ok (.iload_n 1, 1) := by decide +kernel
theorem dX9_call_73 : decode cX9_call 73 = .ok (.bipush 7, 2) := by decide +kernel
theorem dX9_call_75 : decode cX9_call 75 = .ok (.invokevirtual 151, 3) := by decide +kernel
theorem dX9_call_78 : decode cX9_call 78 = .ok (.iload_n 1, 1) := by decide +kernel
theorem dX9_call_79 : decode cX9_call 79 = .ok (.invokevirtual 175, 3) := by decide +kernel
theorem dX9_call_82 : decode cX9_call 82 = .ok (.pop, 1) := by decide +kernel
theorem dX9_call_83 : decode cX9_call 83 = .ok (.aload_n 0, 1) := by decide +kernel
theorem dX9_call_84 : decode cX9_call 84 = .ok (.getfield 7, 3) := by decide +kernel
theorem dX9_call_87 : decode cX9_call 87 = .ok (.bipush 8, 2) := by decide +kernel
theorem dX9_call_89 : decode cX9_call 89 = .ok (.aload_n 0, 1) := by decide +kernel
theorem dX9_call_90 : decode cX9_call 90 = .ok (.getfield 7, 3) := by decide +kernel
theorem dX9_call_93 : decode cX9_call 93 = .ok (.bipush 8, 2) := by decide +kernel
theorem dX9_call_95 : decode cX9_call 95 = .ok (.iaload, 1) := by decide +kernel
theorem dX9_call_96 : decode cX9_call 96 = .ok (.iconst 1, 1) := by decide +kernel
theorem dX9_call_97 : decode cX9_call 97 = .ok (.iadd, 1) := by decide +kernel
theorem dX9_call_98 : decode cX9_call 98 = .ok (.iastore, 1) := by decide +kernel
theorem dX9_call_99 : decode cX9_call 99 = .ok (.aload_n 0, 1) := by decide +kernel
theorem dX9_call_100 : decode cX9_call 100 = .ok (.getfield 7, 3) := by decide +kernel
theorem dX9_call_103 : decode cX9_call 103 = .ok (.bipush 8, 2) := by decide +kernel
theorem dX9_call_105 : decode cX9_call 105 = .ok (.iaload, 1) := by decide +kernel
theorem dX9_call_106 : decode cX9_call 106 = .ok (.iconst 1, 1) := by decide +kernel
theorem dX9_call_107 : decode cX9_call 107 = .ok (.isub, 1) := by decide +kernel
theorem dX9_call_108 : decode cX9_call 108 = .ok (.ireturn, 1) := by decide +kernel
theorem dX9_canGrow_0 : decode cX9_canGrow 0 = .ok (.aload_n 0, 1) := by decide +kernel
theorem dX9_canGrow_1 : decode cX9_canGrow 1 = .ok (.iload_n 1, 1) := by decide +kernel
theorem dX9_canGrow_2 : decode cX9_canGrow 2 = .ok (.iload_n 1, 1) := by decide +kernel
theorem dX9_canGrow_3 : decode cX9_canGrow 3 = .ok (.ineg, 1) := by decide +kernel
theorem dX9_canGrow_4 : decode cX9_canGrow 4 = .ok (.invokevirtual 76, 3) := by decide +kernel
theorem dX9_canGrow_7 : decode cX9_canGrow 7 = .ok (.ldc_w 306, 3) := by decide +kernel
theorem dX9_canGrow_10 : decode cX9_canGrow 10 = .ok (.iload_n 2, 1) := by decide +kernel
theorem dX9_canGrow_11 : decode cX9_canGrow 11 = .ok (.idiv, 1) := by decide +kernel
theorem dX9_canGrow_12 : decode cX9_canGrow 12 = .ok (.if_icmp .gt 7, 3) := by decide +kernel
theorem dX9_canGrow_15 : decode cX9_canGrow 15 = .ok (.iconst 1, 1) := by decide +kernel
theorem dX9_canGrow_16 : decode cX9_canGrow 16 = .ok (.goto 4, 3) := by decide +kernel
theorem dX9_canGrow_19 : decode cX9_canGrow 19 = .ok (.iconst 0, 1) := by decide +kernel
theorem dX9_canGrow_20 : decode cX9_canGrow 20 = .ok (.ireturn, 1) := by decide +kernel
theorem dX9_canLend_0 : decode cX9_canLend 0 = .ok (.aload_n 0, 1) := by decide +kernel
theorem dX9_canLend_1 : decode cX9_canLend 1 = .ok (.iload_n 1, 1) := by decide +kernel
theorem dX9_canLend_2 : decode cX9_canLend 2 = .ok (.iload_n 2, 1) := by decide +kernel
theorem dX9_canLend_3 : decode cX9_canLend 3 = .ok (.invokevirtual 116, 3) := by decide +kernel
theorem dX9_canLend_6 : decode cX9_canLend 6 = .ok (.ifCond .eq 7, 3) := by decide +kernel
theorem dX9_canLend_9 : decode cX9_canLend 9 = .ok (.iconst 0, 1) := by decide +kernel
theorem dX9_canLend_10 : decode cX9_canLend 10 = .ok (.goto 49, 3) := by decide +kernel
theorem dX9_canLend_13 : decode cX9_canLend 13 = .ok (.aload_n 0, 1) := by decide +kernel
theorem dX9_canLend_14 : decode cX9_canLend 14 = .ok (.iconst 0, 1) := by decide +kernel
theorem dX9_canLend_15 : decode cX9_canLend 15 = .ok (.aload_n 0, 1) := by decide +kernel
theorem dX9_canLend_16 : decode cX9_canLend 16 = .ok (.aload_n 0, 1) := by decide +kernel
theorem dX9_canLend_17 : decode cX9_canLend 17 = .ok (.iload_n 1, 1) := by decide +kernel
theorem dX9_canLend_18 : decode cX9_canLend 18 = .ok (.iload_n 2, 1) := by decide +kernel
theorem dX9_canLend_19 : decode cX9_canLend 19 = .ok (.invokevirtual 98, 3) := by decide +kernel
theorem dX9_canLend_22 : decode cX9_canLend 22 = .ok (.aload_n 0, 1) := by decide +kernel
theorem dX9_canLend_23 : decode cX9_canLend 23 = .ok (.getfield 7, 3) := by decide +kernel
theorem dX9_canLend_26 : decode cX9_canLend 26 = .ok (.sipush 204, 3) := by decide +kernel
theorem dX9_canLend_29 : decode cX9_canLend 29 = .ok (.aload_n 0, 1) := by decide +kernel
theorem dX9_canLend_30 : decode cX9_canLend 30 = .ok (.iload_n 1, 1) := by decide +kernel
theorem dX9_canLend_31 : decode cX9_canLend 31 = .ok (.iload_n 2, 1) := by decide +kernel
theorem dX9_canLend_32 : decode cX9_canLend 32 = .ok (.invokevirtual 65, 3) := by decide +kernel
theorem dX9_canLend_35 : decode cX9_canLend 35 = .ok (.iadd, 1) := by decide +kernel
theorem dX9_canLend_36 : decode cX9_canLend 36 = .ok (.iaload, 1) := by decide +kernel
theorem dX9_canLend_37 : decode cX9_canLend 37 = .ok (.aload_n 0, 1) := by decide +kernel
theorem dX9_canLend_38 : decode cX9_canLend 38 = .ok (.getfield 7, 3) := by decide +kernel
theorem dX9_canLend_41 : decode cX9_canLend 41 = .ok (.sipush 276, 3) := by decide +kernel
theorem dX9_canLend_44 : decode cX9_canLend 44 = .ok (.aload_n 0, 1) := by decide +kernel
theorem dX9_canLend_45 : decode cX9_canLend 45 = .ok (.iload_n 1, 1) := by decide +kernel
theorem dX9_canLend_46 : decode cX9_canLend 46 = .ok (.iload_n 2, 1) := by decide +kernel
theorem dX9_canLend_47 : decode cX9_canLend 47 = .ok (.invokevirtual 65, 3) := by decide +kernel
theorem dX9_canLend_50 : decode cX9_canLend 50 = .ok (.iadd, 1) := by decide +kernel
theorem dX9_canLend_51 : decode cX9_canLend 51 = .ok (.iaload, 1) := by decide +kernel
theorem dX9_canLend_52 : decode cX9_canLend 52 = .ok (.isub, 1) := by decide +kernel
theorem dX9_canLend_53 : decode cX9_canLend 53 = .ok (.invokevirtual 131, 3) := by decide +kernel
theorem dX9_canLend_56 : decode cX9_canLend 56 = .ok (.invokevirtual 76, 3) := by decide +kernel
theorem dX9_canLend_59 : decode cX9_canLend 59 = .ok (.ireturn, 1) := by decide +kernel
theorem dX9_canSet_0 : decode cX9_canSet 0 = .ok (.iload_n 1, 1) := by decide +kernel
theorem dX9_canSet_1 : decode cX9_canSet 1 = .ok (.ifCond .ne 30, 3) := by decide +kernel
theorem dX9_canSet_4 : decode cX9_canSet 4 = .ok (.aload_n 0, 1) := by decide +kernel
theorem dX9_canSet_5 : decode cX9_canSet 5 = .ok (.iload_n 2, 1) := by decide +kernel
theorem dX9_canSet_6 : decode cX9_canSet 6 = .ok (.iconst 2, 1) := by decide +kernel
theorem dX9_canSet_7 : decode cX9_canSet 7 = .ok (.bipush 12, 2) := by decide +kernel
theorem dX9_canSet_9 : decode cX9_canSet 9 = .ok (.invokevirtual 79, 3) := by decide +kernel
theorem dX9_canSet_12 : decode cX9_canSet 12 = .ok (.ifCond .eq 17, 3) := by decide +kernel
theorem dX9_canSet_15 : decode cX9_canSet 15 = .ok (.aload_n 0, 1) := by decide +kernel
theorem dX9_canSet_16 : decode cX9_canSet 16 = .ok (.getfield 7, 3) := by decide +kernel
theorem dX9_canSet_19 : decode cX9_canSet 19 = .ok (.bipush 7, 2) := by decide +kernel
theorem dX9_canSet_21 : decode cX9_canSet 21 = .ok (.iaload, 1) := by decide +kernel
theorem dX9_canSet_22 : decode cX9_canSet 22 = .ok (.ifCond .ne 7, 3) := by decide +kernel
theorem dX9_canSet_25 : decode cX9_canSet 25 = .ok (.iconst 1, 1) := by decide +kernel
theorem dX9_canSet_26 : decode cX9_canSet 26 = .ok (.goto 4, 3) := by decide +kernel
theorem dX9_canSet_29 : decode cX9_canSet 29 = .ok (.iconst 0, 1) := by decide +kernel
theorem dX9_canSet_30 : decode cX9_canSet 30 = .ok (.ireturn, 1) := by decide +kernel
theorem dX9_canSet_31 : decode cX9_canSet 31 = .ok (.iload_n 1, 1) := by decide +kernel
theorem dX9_canSet_32 : decode cX9_canSet 32 = .ok (.iconst 1, 1) := by decide +kernel
theorem dX9_canSet_33 : decode cX9_canSet 33 = .ok (.if_icmp .ne 11, 3) := by decide +kernel
theorem dX9_canSet_36 : decode cX9_canSet 36 = .ok (.aload_n 0, 1) := by decide +kernel
theorem dX9_canSet_37 : decode cX9_canSet 37 = .ok (.iload_n 2, 1) := by decide +kernel
theorem dX9_canSet_38 : decode cX9_canSet 38 = .ok (.iconst 0, 1) := by decide +kernel
theorem dX9_canSet_39 : decode cX9_canSet 39 = .ok (.iconst 3, 1) := by decide +kernel
theorem dX9_canSet_40 : decode cX9_canSet 40 = .ok (.invokevirtual 79, 3) := by decide +kernel
theorem dX9_canSet_43 : decode cX9_canSet 43 = .ok (.ireturn, 1) := by decide +kernel
theorem dX9_canSet_44 : decode cX9_canSet 44 = .ok (.iload_n 1, 1) := by decide +kernel
theorem dX9_canSet_45 : decode cX9_canSet 45 = .ok (.iconst 2, 1) := by decide +kernel
theorem dX9_canSet_46 : decode cX9_canSet 46 = .ok (.if_icmp .eq 8, 3) := by decide +kernel
theorem dX9_canSet_49 : decode cX9_canSet 49 = .ok (.iload_n 1, 1) := by decide +kernel
theorem dX9_canSet_50 : decode cX9_canSet 50 = .ok (.iconst 3, 1) := by decide +kernel
theorem dX9_canSet_51 : decode cX9_canSet 51 = .ok (.if_icmp .ne 12, 3) := by decide +kernel
theorem dX9_canSet_54 : decode cX9_canSet 54 = .ok (.aload_n 0, 1) := by decide +kernel
theorem dX9_canSet_55 : decode cX9_canSet 55 = .ok (.iload_n 2, 1) := by decide +kernel
theorem dX9_canSet_56 : decode cX9_canSet 56 = .ok (.iconst 1, 1) := by decide +kernel
theorem dX9_canSet_57 : decode cX9_canSet 57 = .ok (.bipush 9, 2) := by decide +kernel
theorem dX9_canSet_59 : decode cX9_canSet 59 = .ok (.invokevirtual 79, 3) := by decide +kernel
theorem dX9_canSet_62 : decode cX9_canSet 62 = .ok (.ireturn, 1) := by decide +kernel
theorem dX9_canSet_63 : decode cX9_canSet 63 = .ok (.iload_n 1, 1) := by decide +kernel
theorem dX9_canSet_64 : decode cX9_canSet 64 = .ok (.iconst 4, 1) := by decide +kernel
theorem dX9_canSet_65 : decode cX9_canSet 65 = .ok (.if_icmp .ne 13, 3) := by decide +kernel
theorem dX9_canSet_68 : decode cX9_canSet 68 = .ok (.aload_n 0, 1) := by decide +kernel
theorem dX9_canSet_69 : decode cX9_canSet 69 = .ok (.iload_n 2, 1) := by decide +kernel
theorem dX9_canSet_70 : decode cX9_canSet 70 = .ok (.iconst 0, 1) := by decide +kernel
theorem dX9_canSet_71 : decode cX9_canSet 71 = .ok (.iconst 5, 1) := by decide +kernel
theorem dX9_canSet_72 : decode cX9_canSet 72 = .ok (.invokevirtual 79, 3) := by decide +kernel
theorem dX9_canSet_75 : decode cX9_canSet 75 = .ok (.goto 30, 3) := by decide +kernel
theorem dX9_canSet_78 : decode cX9_canSet 78 = .ok (.iload_n 1, 1) := by decide +kernel
theorem dX9_canSet_79 : decode cX9_canSet 79 = .ok (.iconst 5, 1) := by decide +kernel
theorem dX9_canSet_80 : decode cX9_canSet 80 = .ok (.if_icmp .eq 9, 3) := by decide +kernel
theorem dX9_canSet_83 : decode cX9_canSet 83 = .ok (.iload_n 1, 1) := by decide +kernel
theorem dX9_canSet_84 : decode cX9_canSet 84 = .ok (.bipush 6, 2) := by decide +kernel
theorem dX9_canSet_86 : decode cX9_canSet 86 = .ok (.if_icmp .ne 18, 3) := by decide +kernel
theorem dX9_canSet_89 : decode cX9_canSet 89 = .ok (.aload_n 0, 1) := by decide +kernel
theorem dX9_canSet_90 : decode cX9_canSet 90 = .ok (.iload_n 2, 1) := by decide +kernel
theorem dX9_canSet_91 : decode cX9_canSet 91 = .ok (.iconst 0, 1) := by decide +kernel
theorem dX9_canSet_92 : decode cX9_canSet 92 = .ok (.bipush 100, 2) := by decide +kernel
theorem dX9_canSet_94 : decode cX9_canSet 94 = .ok (.invokevirtual 79, 3) := by decide +kernel
theorem dX9_canSet_97 : decode cX9_canSet 97 = .ok (.ifCond .eq 7, 3) := by decide +kernel
theorem dX9_canSet_100 : decode cX9_canSet 100 = .ok (.iconst 1, 1) := by decide +kernel
theorem dX9_canSet_101 : decode cX9_canSet 101 = .ok (.goto 4, 3) := by decide +kernel
theorem dX9_canSet_104 : decode cX9_canSet 104 = .ok (.iconst 0, 1) := by decide +kernel
theorem dX9_canSet_105 : decode cX9_canSet 105 = .ok (.ireturn, 1) := by decide +kernel
theorem dX9_canSplit_0 : decode cX9_canSplit 0 = .ok (.iconst 0, 1) := by decide +kernel
theorem dX9_canSplit_1 : decode cX9_canSplit 1 = .ok (.istore_n 3, 1) := by decide +kernel
theorem dX9_canSplit_2 : decode cX9_canSplit 2 = .ok (.iload_n 3, 1) := by decide +kernel
theorem dX9_canSplit_3 : decode cX9_canSplit 3 = .ok (.aload_n 0, 1) := by decide +kernel
theorem dX9_canSplit_4 : decode cX9_canSplit 4 = .ok (.invokevirtual 61, 3) := by decide +kernel
theorem dX9_canSplit_7 : decode cX9_canSplit 7 = .ok (.if_icmp .ge 70, 3) := by decide +kernel
theorem dX9_canSplit_10 : decode cX9_canSplit 10 = .ok (.iconst 0, 1) := by decide +kernel
theorem dX9_canSplit_11 : decode cX9_canSplit 11 = .ok (.istore 4, 2) := by decide +kernel
theorem dX9_canSplit_13 : decode cX9_canSplit 13 = .ok (.iload 4, 2) := by decide +kernel
theorem dX9_canSplit_15 : decode cX9_canSplit 15 = .ok (.iconst 4, 1) := by decide +kernel
theorem dX9_canSplit_16 : decode cX9_canSplit 16 = .ok (.if_icmp .ge 39, 3) := by decide +kernel
theorem dX9_canSplit_19 : decode cX9_canSplit 19 = .ok (.aload_n 0, 1) := by decide +kernel
theorem dX9_canSplit_20 : decode cX9_canSplit 20 = .ok (.aload_n 0, 1) := by decide +kernel
theorem dX9_canSplit_21 : decode cX9_canSplit 21 = .ok (.getfield 7, 3) := by decide +kernel
theorem dX9_canSplit_24 : decode cX9_canSplit 24 = .ok (.bipush 60, 2) := by decide +kernel
theorem dX9_canSplit_26 : decode cX9_canSplit 26 = .ok (.bipush 72, 2) := by decide +kernel
theorem dX9_canSplit_28 : decode cX9_canSplit 28 = .ok (.iload 4, 2) := by decide +kernel
theorem dX9_canSplit_30 : decode cX9_canSplit 30 = .ok (.imul, 1) := by decide +kernel
theorem dX9_canSplit_31 : decode cX9_canSplit 31 = .ok (.iadd, 1) := by decide +kernel
theorem dX9_canSplit_32 : decode cX9_canSplit 32 = .ok (.aload_n 0, 1) := by decide +kernel
theorem dX9_canSplit_33 : decode cX9_canSplit 33 = .ok (.iload_n 3, 1) := by decide +kernel
theorem dX9_canSplit_34 : decode cX9_canSplit 34 = .ok (.iload_n 1, 1) := by decide +kernel
theorem dX9_canSplit_35 : decode cX9_canSplit 35 = .ok (.invokevirtual 65, 3) := by decide +kernel
theorem dX9_canSplit_38 : decode cX9_canSplit 38 = .ok (.iadd, 1) := by decide +kernel
theorem dX9_canSplit_39 : decode cX9_canSplit 39 = .ok (.iaload, 1) := by decide +kernel
theorem dX9_canSplit_40 : decode cX9_canSplit 40 = .ok (.iload_n 2, 1) := by decide +kernel
theorem dX9_canSplit_41 : decode cX9_canSplit 41 = .ok (.invokevirtual 307, 3) := by decide +kernel
theorem dX9_canSplit_44 : decode cX9_canSplit 44 = .ok (.ifCond .ne 5, 3) := by decide +kernel
theorem dX9_canSplit_47 : decode cX9_canSplit 47 = .ok (.iconst 0, 1) := by decide +kernel
theorem dX9_canSplit_48 : decode cX9_canSplit 48 = .ok (.ireturn, 1) := by decide +kernel
theorem dX9_canSplit_49 : decode cX9_canSplit 49 = .ok (.iinc 4 1, 3) := by decide +kernel
theorem dX9_canSplit_52 : decode cX9_canSplit 52 = .ok (.goto (-39), 3) := by decide +kernel
theorem dX9_canSplit_55 : decode cX9_canSplit 55 = .ok (.aload_n 0, 1) := by decide +kernel
theorem dX9_canSplit_56 : decode cX9_canSplit 56 = .ok (.aload_n 0, 1) := by decide +kernel
theorem dX9_canSplit_57 : decode cX9_canSplit 57 = .ok (.iload_n 3, 1) := by decide +kernel
theorem dX9_canSplit_58 : decode cX9_canSplit 58 = .ok (.iload_n 1, 1) := by decide +kernel
theorem dX9_canSplit_59 : decode cX9_canSplit 59 = .ok (.invokevirtual 119, 3) := by decide +kernel
theorem dX9_canSplit_62 : decode cX9_canSplit 62 = .ok (.iload_n 2, 1) := by decide +kernel
theorem dX9_canSplit_63 : decode cX9_canSplit 63 = .ok (.invokevirtual 307, 3) := by decide +kernel
theorem dX9_canSplit_66 : decode cX9_canSplit 66 = .ok (.ifCond .ne 5, 3) := by decide +kernel
theorem dX9_canSplit_69 : decode cX9_canSplit 69 = .ok (.iconst 0, 1) := by decide +kernel
theorem dX9_canSplit_70 : decode cX9_canSplit 70 = .ok (.ireturn, 1) := by decide +kernel
theorem dX9_canSplit_71 : decode cX9_canSplit 71 = .ok (.iinc 3 1, 3) := by decide +kernel
theorem dX9_canSplit_74 : decode cX9_canSplit 74 = .ok (.goto (-72), 3) := by decide +kernel
theorem dX9_canSplit_77 : decode cX9_canSplit 77 = .ok (.iconst 1, 1) := by decide +kernel
theorem dX9_canSplit_78 : decode cX9_canSplit 78 = .ok (.ireturn, 1) := by decide +kernel
theorem dX9_cash_0 : decode cX9_cash 0 = .ok (.aload_n 0, 1) := by decide +kernel
theorem dX9_cash_1 : decode cX9_cash 1 = .ok (.iconst 0, 1) := by decide +kernel
theorem dX9_cash_2 : decode cX9_cash 2 = .ok (.putfield 58, 3) := by decide +kernel
theorem dX9_cash_5 : decode cX9_cash 5 = .ok (.aload_n 0, 1) := by decide +kernel
theorem dX9_cash_6 : decode cX9_cash 6 = .ok (.iload_n 1, 1) := by decide +kernel
theorem dX9_cash_7 : decode cX9_cash 7 = .ok (.invokevirtual 90, 3) := by decide +kernel
theorem dX9_cash_10 : decode cX9_cash 10 = .ok (.ifCond .eq 12, 3) := by decide +kernel
theorem dX9_cash_13 : decode cX9_cash 13 = .ok (.aload_n 0, 1) := by decide +kernel
theorem dX9_cash_14 : decode cX9_cash 14 = .ok (.getfield 16, 3) := by decide +kernel
theorem dX9_cash_17 : decode cX9_cash 17 = .ok (.iload_n 1, 1) := by decide +kernel
theorem dX9_cash_18 : decode cX9_cash 18 = .ok (.laload, 1) := by decide +kernel
theorem dX9_cash_19 : decode cX9_cash 19 = .ok (.goto 4, 3) := by decide +kernel
theorem dX9_cash_22 : decode cX9_cash 22 = .ok (.lconst 0, 1) := by decide +kernel
theorem dX9_cash_23 : decode cX9_cash 23 = .ok (.lreturn, 1) := by decide +kernel
theorem dX9_cashMore_0 : decode cX9_cashMore 0 = .ok (.aload_n 0, 1) := by decide +kernel
theorem dX9_cashMore_1 : decode cX9_cashMore 1 = .ok (.getfield 16, 3) := by decide +kernel
theorem dX9_cashMore_4 : decode cX9_cashMore 4 = .ok (.iload_n 1, 1) := by decide +kernel
theorem dX9_cashMore_5 : decode cX9_cashMore 5 = .ok (.aload_n 0, 1) := by decide +kernel
theorem dX9_cashMore_6 : decode cX9_cashMore 6 = .ok (.getfield 16, 3) := by decide +kernel
theorem dX9_cashMore_9 : decode cX9_cashMore 9 = .ok (.iload_n 1, 1) := by decide +kernel
theorem dX9_cashMore_10 : decode cX9_cashMore 10 = .ok (.laload, 1) := by decide +kernel
theorem dX9_cashMore_11 : decode cX9_cashMore 11 = .ok (.lload_n 2, 1) := by decide +kernel
theorem dX9_cashMore_12 : decode cX9_cashMore 12 = .ok (.ladd, 1) := by decide +kernel
theorem dX9_cashMore_13 : decode cX9_cashMore 13 = .ok (.lastore, 1) := by decide +kernel
theorem dX9_cashMore_14 : decode cX9_cashMore 14 = .ok (.return_, 1) := by decide +kernel
theorem dX9_cellOf_0 : decode cX9_cellOf 0 = .ok (.bipush 6, 2) := by decide +kernel
theorem dX9_cellOf_2 : decode cX9_cellOf 2 = .ok (.iload_n 1, 1) := by decide +kernel
theorem dX9_cellOf_3 : decode cX9_cellOf 3 = .ok (.imul, 1) := by decide +kernel
theorem dX9_cellOf_4 : decode cX9_cellOf 4 = .ok (.iload_n 2, 1) := by decide +kernel
theorem dX9_cellOf_5 : decode cX9_cellOf 5 = .ok (.iadd, 1) := by decide +kernel
theorem dX9_cellOf_6 : decode cX9_cellOf 6 = .ok (.ireturn, 1) := by decide +kernel
theorem dX9_closes_0 : decode cX9_closes 0 = .ok (.aload_n 0, 1) := by decide +kernel
theorem dX9_closes_1 : decode cX9_closes 1 = .ok (.iload_n 1, 1) := by decide +kernel
theorem dX9_closes_2 : decode cX9_closes 2 = .ok (.invokevirtual 154, 3) := by decide +kernel
theorem dX9_closes_5 : decode cX9_closes 5 = .ok (.istore_n 2, 1) := by decide +kernel
theorem dX9_closes_6 : decode cX9_closes 6 = .ok (.aload_n 0, 1) := by decide +kernel
theorem dX9_closes_7 : decode cX9_closes 7 = .ok (.getfield 7, 3) := by decide +kernel
theorem dX9_closes_10 : decode cX9_closes 10 = .ok (.iload_n 2, 1) := by decide +kernel
theorem dX9_closes_11 : decode cX9_closes 11 = .ok (.iconst 5, 1) := by decide +kernel
theorem dX9_closes_12 : decode cX9_closes 12 = .ok (.iadd, 1) := by decide +kernel
theorem dX9_closes_13 : decode cX9_closes 13 = .ok (.iaload, 1) := by decide +kernel
theorem dX9_closes_14 : decode cX9_closes 14 = .ok (.ifCond .le 11, 3) := by decide +kernel
theorem dX9_closes_17 : decode cX9_closes 17 = .ok (.aload_n 0, 1) := by decide +kernel
theorem dX9_closes_18 : decode cX9_closes 18 = .ok (.iload_n 2, 1) := by decide +kernel
theorem dX9_closes_19 : decode cX9_closes 19 = .ok (.invokevirtual 233, 3) := by decide +kernel
theorem dX9_closes_22 : decode cX9_closes 22 = .ok (.goto 25, 3) := by decide +kernel
theorem dX9_closes_25 : decode cX9_closes 25 = .ok (.iconst 0, 1) := by decide +kernel
theorem dX9_closes_26 : decode cX9_closes 26 = .ok (.istore_n 3, 1) := by decide +kernel
theorem dX9_closes_27 : decode cX9_closes 27 = .ok (.iload_n 3, 1) := by decide +kernel
theorem dX9_closes_28 : decode cX9_closes 28 = .ok (.aload_n 0, 1) := by decide +kernel
theorem dX9_closes_29 : decode cX9_closes 29 = .ok (.invokevirtual 61, 3) := by decide +kernel
theorem dX9_closes_32 : decode cX9_closes 32 = .ok (.if_icmp .ge 15, 3) := by decide +kernel
theorem dX9_closes_35 : decode cX9_closes 35 = .ok (.aload_n 0, 1) := by decide +kernel
theorem dX9_closes_36 : decode cX9_closes 36 = .ok (.iload_n 2, 1) := by decide +kernel
theorem dX9_closes_37 : decode cX9_closes 37 = .ok (.iload_n 3, 1) := by decide +kernel
theorem dX9_closes_38 : decode cX9_closes 38 = .ok (.invokevirtual 237, 3) := by decide +kernel
theorem dX9_closes_41 : decode cX9_closes 41 = .ok (.iinc 3 1, 3) := by decide +kernel
theorem dX9_closes_44 : decode cX9_closes 44 = .ok (.goto (-17), 3) := by decide +kernel
theorem dX9_closes_47 : decode cX9_closes 47 = .ok (.aload_n 0, 1) := by decide +kernel
theorem dX9_closes_48 : decode cX9_closes 48 = .ok (.getfield 7, 3) := by decide +kernel
theorem dX9_closes_51 : decode cX9_closes 51 = .ok (.iload_n 2, 1) := by decide +kernel
theorem dX9_closes_52 : decode cX9_closes 52 = .ok (.iconst 4, 1) := by decide +kernel
theorem dX9_closes_53 : decode cX9_closes 53 = .ok (.iadd, 1) := by decide +kernel
theorem dX9_closes_54 : decode cX9_closes 54 = .ok (.iconst 0, 1) := by decide +kernel
theorem dX9_closes_55 : decode cX9_closes 55 = .ok (.iastore, 1) := by decide +kernel
theorem dX9_closes_56 : decode cX9_closes 56 = .ok (.return_, 1) := by decide +kernel
theorem dX9_closesApart_0 : decode cX9_closesApart 0 = .ok (.aload_n 0, 1) := by decide +kernel
theorem dX9_closesApart_1 : decode cX9_closesApart 1 = .ok (.getfield 7, 3) := by decide +kernel
theorem dX9_closesApart_4 : decode cX9_closesApart 4 = .ok (.iload_n 1, 1) := by decide +kernel
theorem dX9_closesApart_5 : decode cX9_closesApart 5 = .ok (.iconst 5, 1) := by decide +kernel
theorem dX9_closesApart_6 : decode cX9_closesApart 6 = .ok (.iadd, 1) := by decide +kernel
theorem dX9_closesApart_7 : decode cX9_closesApart 7 = .ok (.iaload, 1) := by decide +kernel
theorem dX9_closesApart_8 : decode cX9_closesApart 8 = .ok (.iconst 1, 1) := by decide +kernel
theorem dX9_closesApart_9 : decode cX9_closesApart 9 = .ok (.isub, 1) := by decide +kernel
theorem dX9_closesApart_10 : decode cX9_closesApart 10 = .ok (.istore_n 2, 1) := by decide +kernel
theorem dX9_closesApart_11 : decode cX9_closesApart 11 = .ok (.aload_n 0, 1) := by decide +kernel
theorem dX9_closesApart_12 : decode cX9_closesApart 12 = .ok (.getfield 7, 3) := by decide +kernel
theorem dX9_closesApart_15 : decode cX9_closesApart 15 = .ok (.iload_n 1, 1) := by decide +kernel
theorem dX9_closesApart_16 : decode cX9_closesApart 16 = .ok (.iconst 2, 1) := by decide +kernel
theorem dX9_closesApart_17 : decode cX9_closesApart 17 = .ok (.iadd, 1) := by decide +kernel
theorem dX9_closesApart_18 : decode cX9_closesApart 18 = .ok (.iaload, 1) := by decide +kernel
theorem dX9_closesApart_19 : decode cX9_closesApart 19 = .ok (.istore_n 3, 1) := by decide +kernel
theorem dX9_closesApart_20 : decode cX9_closesApart 20 = .ok (.aload_n 0, 1) := by decide +kernel
theorem dX9_closesApart_21 : decode cX9_closesApart 21 = .ok (.iload_n 2, 1) := by decide +kernel
theorem dX9_closesApart_22 : decode cX9_closesApart 22 = .ok (.bipush 7, 2) := by decide +kernel
theorem dX9_closesApart_24 : decode cX9_closesApart 24 = .ok (.invokevirtual 151, 3) := by decide +kernel
theorem dX9_closesApart_27 : decode cX9_closesApart 27 = .ok (.iload_n 3, 1) := by decide +kernel
theorem dX9_closesApart_28 : decode cX9_closesApart 28 = .ok (.if_icmp .ge 4, 3) := by decide +kernel
theorem dX9_closesApart_31 : decode cX9_closesApart 31 = .ok (.return_, 1) := by decide +kernel
theorem dX9_closesApart_32 : decode cX9_closesApart 32 = .ok (.aload_n 0, 1) := by decide +kernel
theorem dX9_closesApart_33 : decode cX9_closesApart 33 = .ok (.iload_n 2, 1) := by decide +kernel
theorem dX9_closesApart_34 : decode cX9_closesApart 34 = .ok (.iconst 2, 1) := by decide +kernel
theorem dX9_closesApart_35 : decode cX9_closesApart 35 = .ok (.invokevirtual 151, 3) := by decide +kernel
theorem dX9_closesApart_38 : decode cX9_closesApart 38 = .ok (.istore 4, 2) := by decide +kernel
theorem dX9_closesApart_40 : decode cX9_closesApart 40 = .ok (.aload_n 0, 1) := by decide +kernel
theorem dX9_closesApart_41 : decode cX9_closesApart 41 = .ok (.iload_n 2, 1) := by decide +kernel
theorem dX9_closesApart_42 : decode cX9_closesApart 42 = .ok (.iload_n 3, 1) := by decide +kernel
theorem dX9_closesApart_43 : decode cX9_closesApart 43 = .ok (.invokevirtual 229, 3) := by decide +kernel
theorem dX9_closesApart_46 : decode cX9_closesApart 46 = .ok (.iload_n 3, 1) := by decide +kernel
theorem dX9_closesApart_47 : decode cX9_closesApart 47 = .ok (.i2l, 1) := by decide +kernel
theorem dX9_closesApart_48 : decode cX9_closesApart 48 = .ok (.aload_n 0, 1) := by decide +kernel
theorem dX9_closesApart_49 : decode cX9_closesApart 49 = .ok (.iload 4, 2) := by decide +kernel
theorem dX9_closesApart_51 : decode cX9_closesApart 51 = .ok (.invokevirtual 210, 3) := by decide +kernel
theorem dX9_closesApart_54 : decode cX9_closesApart 54 = .ok (.i2l, 1) := by decide +kernel
theorem dX9_closesApart_55 : decode cX9_closesApart 55 = .ok (.lmul, 1) := by decide +kernel
theorem dX9_closesApart_56 : decode cX9_closesApart 56 = .ok (.lstore 5, 2) := by decide +kernel
theorem dX9_closesApart_58 : decode cX9_closesApart 58 = .ok (.aload_n 0, 1) := by decide +kernel
theorem dX9_closesApart_59 : decode cX9_closesApart 59 = .ok (.aload_n 0, 1) := by decide +kernel
theorem dX9_closesApart_60 : decode cX9_closesApart 60 = .ok (.getfield 223, 3) := by decide +kernel
theorem dX9_closesApart_63 : decode cX9_closesApart 63 = .ok (.lload 5, 2) := by decide +kernel
theorem dX9_closesApart_65 : decode cX9_closesApart 65 = .ok (.lneg, 1) := by decide +kernel
theorem dX9_closesApart_66 : decode cX9_closesApart 66 = .ok (.invokevirtual 206, 3) := by decide +kernel
theorem dX9_closesApart_69 : decode cX9_closesApart 69 = .ok (.aload_n 0, 1) := by decide +kernel
theorem dX9_closesApart_70 : decode cX9_closesApart 70 = .ok (.getfield 16, 3) := by decide +kernel
theorem dX9_closesApart_73 : decode cX9_closesApart 73 = .ok (.bipush 12, 2) := by decide +kernel
theorem dX9_closesApart_75 : decode cX9_closesApart 75 = .ok (.aload_n 0, 1) := by decide +kernel
theorem dX9_closesApart_76 : decode cX9_closesApart 76 = .ok (.getfield 16, 3) := by decide +kernel
theorem dX9_closesApart_79 : decode cX9_closesApart 79 = .ok (.bipush 12, 2) := by decide +kernel
theorem dX9_closesApart_81 : decode cX9_closesApart 81 = .ok (.laload, 1) := by decide +kernel
theorem dX9_closesApart_82 : decode cX9_closesApart 82 = .ok (.lload 5, 2) := by decide +kernel
theorem dX9_closesApart_84 : decode cX9_closesApart 84 = .ok (.ladd, 1) := by decide +kernel
theorem dX9_closesApart_85 : decode cX9_closesApart 85 = .ok (.lastore, 1) := by decide +kernel
theorem dX9_closesApart_86 : decode cX9_closesApart 86 = .ok (.aload_n 0, 1) := by decide +kernel
theorem dX9_closesApart_87 : decode cX9_closesApart 87 = .ok (.aload_n 0, 1) := by decide +kernel
theorem dX9_closesApart_88 : decode cX9_closesApart 88 = .ok (.iload_n 2, 1) := by decide +kernel
theorem dX9_closesApart_89 : decode cX9_closesApart 89 = .ok (.iconst 0, 1) := by decide +kernel
theorem dX9_closesApart_90 : decode cX9_closesApart 90 = .ok (.invokevirtual 151, 3) := by decide +kernel
theorem dX9_closesApart_93 : decode cX9_closesApart 93 = .ok (.iload 4, 2) := by decide +kernel
theorem dX9_closesApart_95 : decode cX9_closesApart 95 = .ok (.iload_n 3, 1) := by decide +kernel
theorem dX9_closesApart_96 : decode cX9_closesApart 96 = .ok (.invokevirtual 101, 3) := by decide +kernel
theorem dX9_closesApart_99 : decode cX9_closesApart 99 = .ok (.iconst 0, 1) := by decide +kernel
theorem dX9_closesApart_100 : decode cX9_closesApart 100 = .ok (.istore 7, 2) := by decide +kernel
theorem dX9_closesApart_102 : decode cX9_closesApart 102 = .ok (.iload 7, 2) := by decide +kernel
theorem dX9_closesApart_104 : decode cX9_closesApart 104 = .ok (.aload_n 0, 1) := by decide +kernel
theorem dX9_closesApart_105 : decode cX9_closesApart 105 = .ok (.getfield 220, 3) := by decide +kernel
theorem dX9_closesApart_108 : decode cX9_closesApart 108 = .ok (.if_icmp .ge 87, 3) := by decide +kernel
