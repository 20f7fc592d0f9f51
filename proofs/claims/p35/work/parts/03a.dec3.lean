theorem dX9_newNotice_106 : decode cX9_newNotice 106 = .ok (.iload 5, 2) := by decide +kernel
theorem dX9_newNotice_108 : decode cX9_newNotice 108 = .ok (.iconst 5, 1) := by decide +kernel
theorem dX9_newNotice_109 : decode cX9_newNotice 109 = .ok (.iadd, 1) := by decide +kernel
theorem dX9_newNotice_110 : decode cX9_newNotice 110 = .ok (.iload 4, 2) := by decide +kernel
theorem dX9_newNotice_112 : decode cX9_newNotice 112 = .ok (.iconst 1, 1) := by decide +kernel
theorem dX9_newNotice_113 : decode cX9_newNotice 113 = .ok (.iadd, 1) := by decide +kernel
theorem dX9_newNotice_114 : decode cX9_newNotice 114 = .ok (.iastore, 1) := by decide +kernel
theorem dX9_newNotice_115 : decode cX9_newNotice 115 = .ok (.iload 5, 2) := by decide +kernel
theorem dX9_newNotice_117 : decode cX9_newNotice 117 = .ok (.ireturn, 1) := by decide +kernel
theorem dX9_nextOfChain_0 : decode cX9_nextOfChain 0 = .ok (.iconst (-1), 1) := by decide +kernel
theorem dX9_nextOfChain_1 : decode cX9_nextOfChain 1 = .ok (.istore 5, 2) := by decide +kernel
theorem dX9_nextOfChain_3 : decode cX9_nextOfChain 3 = .ok (.iconst 0, 1) := by decide +kernel
theorem dX9_nextOfChain_4 : decode cX9_nextOfChain 4 = .ok (.istore 6, 2) := by decide +kernel
theorem dX9_nextOfChain_6 : decode cX9_nextOfChain 6 = .ok (.iload 6, 2) := by decide +kernel
theorem dX9_nextOfChain_8 : decode cX9_nextOfChain 8 = .ok (.aload_n 0, 1) := by decide +kernel
theorem dX9_nextOfChain_9 : decode cX9_nextOfChain 9 = .ok (.getfield 7, 3) := by decide +kernel
theorem dX9_nextOfChain_12 : decode cX9_nextOfChain 12 = .ok (.bipush 7, 2) := by decide +kernel
theorem dX9_nextOfChain_14 : decode cX9_nextOfChain 14 = .ok (.iaload, 1) := by decide +kernel
theorem dX9_nextOfChain_15 : decode cX9_nextOfChain 15 = .ok (.if_icmp .ge 91, 3) := by decide +kernel
theorem dX9_nextOfChain_18 : decode cX9_nextOfChain 18 = .ok (.aload_n 0, 1) := by decide +kernel
theorem dX9_nextOfChain_19 : decode cX9_nextOfChain 19 = .ok (.iload 6, 2) := by decide +kernel
theorem dX9_nextOfChain_21 : decode cX9_nextOfChain 21 = .ok (.iload_n 2, 1) := by decide +kernel
theorem dX9_nextOfChain_22 : decode cX9_nextOfChain 22 = .ok (.iconst 1, 1) := by decide +kernel
theorem dX9_nextOfChain_23 : decode cX9_nextOfChain 23 = .ok (.invokevirtual 217, 3) := by decide +kernel
theorem dX9_nextOfChain_26 : decode cX9_nextOfChain 26 = .ok (.ifCond .eq 74, 3) := by decide +kernel
theorem dX9_nextOfChain_29 : decode cX9_nextOfChain 29 = .ok (.aload_n 0, 1) := by decide +kernel
theorem dX9_nextOfChain_30 : decode cX9_nextOfChain 30 = .ok (.iload 6, 2) := by decide +kernel
theorem dX9_nextOfChain_32 : decode cX9_nextOfChain 32 = .ok (.iconst 0, 1) := by decide +kernel
theorem dX9_nextOfChain_33 : decode cX9_nextOfChain 33 = .ok (.invokevirtual 151, 3) := by decide +kernel
theorem dX9_nextOfChain_36 : decode cX9_nextOfChain 36 = .ok (.iload_n 1, 1) := by decide +kernel
theorem dX9_nextOfChain_37 : decode cX9_nextOfChain 37 = .ok (.if_icmp .ne 63, 3) := by decide +kernel
theorem dX9_nextOfChain_40 : decode cX9_nextOfChain 40 = .ok (.aload_n 0, 1) := by decide +kernel
theorem dX9_nextOfChain_41 : decode cX9_nextOfChain 41 = .ok (.iload 6, 2) := by decide +kernel
theorem dX9_nextOfChain_43 : decode cX9_nextOfChain 43 = .ok (.bipush 7, 2) := by decide +kernel
theorem dX9_nextOfChain_45 : decode cX9_nextOfChain 45 = .ok (.invokevirtual 151, 3) := by decide +kernel
theorem dX9_nextOfChain_48 : decode cX9_nextOfChain 48 = .ok (.iload_n 3, 1) := by decide +kernel
theorem dX9_nextOfChain_49 : decode cX9_nextOfChain 49 = .ok (.if_icmp .lt 51, 3) := by decide +kernel
theorem dX9_nextOfChain_52 : decode cX9_nextOfChain 52 = .ok (.aload_n 0, 1) := by decide +kernel
theorem dX9_nextOfChain_53 : decode cX9_nextOfChain 53 = .ok (.iload 4, 2) := by decide +kernel
theorem dX9_nextOfChain_55 : decode cX9_nextOfChain 55 = .ok (.aload_n 0, 1) := by decide +kernel
theorem dX9_nextOfChain_56 : decode cX9_nextOfChain 56 = .ok (.iload 6, 2) := by decide +kernel
theorem dX9_nextOfChain_58 : decode cX9_nextOfChain 58 = .ok (.iconst 1, 1) := by decide +kernel
theorem dX9_nextOfChain_59 : decode cX9_nextOfChain 59 = .ok (.invokevirtual 151, 3) := by decide +kernel
theorem dX9_nextOfChain_62 : decode cX9_nextOfChain 62 = .ok (.invokevirtual 69, 3) := by decide +kernel
theorem dX9_nextOfChain_65 : decode cX9_nextOfChain 65 = .ok (.ifCond .eq 6, 3) := by decide +kernel
theorem dX9_nextOfChain_68 : decode cX9_nextOfChain 68 = .ok (.goto 32, 3) := by decide +kernel
theorem dX9_nextOfChain_71 : decode cX9_nextOfChain 71 = .ok (.iload 5, 2) := by decide +kernel
theorem dX9_nextOfChain_73 : decode cX9_nextOfChain 73 = .ok (.iconst (-1), 1) := by decide +kernel
theorem dX9_nextOfChain_74 : decode cX9_nextOfChain 74 = .ok (.if_icmp .eq 22, 3) := by decide +kernel
theorem dX9_nextOfChain_77 : decode cX9_nextOfChain 77 = .ok (.aload_n 0, 1) := by decide +kernel
theorem dX9_nextOfChain_78 : decode cX9_nextOfChain 78 = .ok (.iload 6, 2) := by decide +kernel
theorem dX9_nextOfChain_80 : decode cX9_nextOfChain 80 = .ok (.bipush 6, 2) := by decide +kernel
theorem dX9_nextOfChain_82 : decode cX9_nextOfChain 82 = .ok (.invokevirtual 151, 3) := by decide +kernel
theorem dX9_nextOfChain_85 : decode cX9_nextOfChain 85 = .ok (.aload_n 0, 1) := by decide +kernel
theorem dX9_nextOfChain_86 : decode cX9_nextOfChain 86 = .ok (.iload 5, 2) := by decide +kernel
theorem dX9_nextOfChain_88 : decode cX9_nextOfChain 88 = .ok (.bipush 6, 2) := by decide +kernel
theorem dX9_nextOfChain_90 : decode cX9_nextOfChain 90 = .ok (.invokevirtual 151, 3) := by decide +kernel
theorem dX9_nextOfChain_93 : decode cX9_nextOfChain 93 = .ok (.if_icmp .ge 7, 3) := by decide +kernel
theorem dX9_nextOfChain_96 : decode cX9_nextOfChain 96 = .ok (.iload 6, 2) := by decide +kernel
theorem dX9_nextOfChain_98 : decode cX9_nextOfChain 98 = .ok (.istore 5, 2) := by decide +kernel
theorem dX9_nextOfChain_100 : decode cX9_nextOfChain 100 = .ok (.iinc 6 1, 3) := by decide +kernel
theorem dX9_nextOfChain_103 : decode cX9_nextOfChain 103 = .ok (.goto (-97), 3) := by decide +kernel
theorem dX9_nextOfChain_106 : decode cX9_nextOfChain 106 = .ok (.iload 5, 2) := by decide +kernel
theorem dX9_nextOfChain_108 : decode cX9_nextOfChain 108 = .ok (.ireturn, 1) := by decide +kernel
theorem dX9_nextShort_0 : decode cX9_nextShort 0 = .ok (.iconst (-1), 1) := by decide +kernel
theorem dX9_nextShort_1 : decode cX9_nextShort 1 = .ok (.istore 4, 2) := by decide +kernel
theorem dX9_nextShort_3 : decode cX9_nextShort 3 = .ok (.aload_n 0, 1) := by decide +kernel
theorem dX9_nextShort_4 : decode cX9_nextShort 4 = .ok (.iconst 0, 1) := by decide +kernel
theorem dX9_nextShort_5 : decode cX9_nextShort 5 = .ok (.putfield 163, 3) := by decide +kernel
theorem dX9_nextShort_8 : decode cX9_nextShort 8 = .ok (.iconst 0, 1) := by decide +kernel
theorem dX9_nextShort_9 : decode cX9_nextShort 9 = .ok (.istore 5, 2) := by decide +kernel
theorem dX9_nextShort_11 : decode cX9_nextShort 11 = .ok (.iload 5, 2) := by decide +kernel
theorem dX9_nextShort_13 : decode cX9_nextShort 13 = .ok (.aload_n 0, 1) := by decide +kernel
theorem dX9_nextShort_14 : decode cX9_nextShort 14 = .ok (.invokevirtual 61, 3) := by decide +kernel
theorem dX9_nextShort_17 : decode cX9_nextShort 17 = .ok (.if_icmp .ge 115, 3) := by decide +kernel
theorem dX9_nextShort_20 : decode cX9_nextShort 20 = .ok (.iconst 0, 1) := by decide +kernel
theorem dX9_nextShort_21 : decode cX9_nextShort 21 = .ok (.istore 6, 2) := by decide +kernel
theorem dX9_nextShort_23 : decode cX9_nextShort 23 = .ok (.iload 6, 2) := by decide +kernel
theorem dX9_nextShort_25 : decode cX9_nextShort 25 = .ok (.aload_n 0, 1) := by decide +kernel
theorem dX9_nextShort_26 : decode cX9_nextShort 26 = .ok (.iload 5, 2) := by decide +kernel
theorem dX9_nextShort_28 : decode cX9_nextShort 28 = .ok (.iload_n 1, 1) := by decide +kernel
theorem dX9_nextShort_29 : decode cX9_nextShort 29 = .ok (.invokevirtual 110, 3) := by decide +kernel
theorem dX9_nextShort_32 : decode cX9_nextShort 32 = .ok (.if_icmp .ge 94, 3) := by decide +kernel
theorem dX9_nextShort_35 : decode cX9_nextShort 35 = .ok (.aload_n 0, 1) := by decide +kernel
theorem dX9_nextShort_36 : decode cX9_nextShort 36 = .ok (.iload 5, 2) := by decide +kernel
theorem dX9_nextShort_38 : decode cX9_nextShort 38 = .ok (.iload_n 1, 1) := by decide +kernel
theorem dX9_nextShort_39 : decode cX9_nextShort 39 = .ok (.invokevirtual 116, 3) := by decide +kernel
theorem dX9_nextShort_42 : decode cX9_nextShort 42 = .ok (.ifCond .eq 84, 3) := by decide +kernel
theorem dX9_nextShort_45 : decode cX9_nextShort 45 = .ok (.aload_n 0, 1) := by decide +kernel
theorem dX9_nextShort_46 : decode cX9_nextShort 46 = .ok (.iload 5, 2) := by decide +kernel
theorem dX9_nextShort_48 : decode cX9_nextShort 48 = .ok (.iload_n 1, 1) := by decide +kernel
theorem dX9_nextShort_49 : decode cX9_nextShort 49 = .ok (.iload 6, 2) := by decide +kernel
theorem dX9_nextShort_51 : decode cX9_nextShort 51 = .ok (.invokevirtual 125, 3) := by decide +kernel
theorem dX9_nextShort_54 : decode cX9_nextShort 54 = .ok (.istore 7, 2) := by decide +kernel
theorem dX9_nextShort_56 : decode cX9_nextShort 56 = .ok (.iload 7, 2) := by decide +kernel
theorem dX9_nextShort_58 : decode cX9_nextShort 58 = .ok (.iload_n 2, 1) := by decide +kernel
theorem dX9_nextShort_59 : decode cX9_nextShort 59 = .ok (.if_icmp .gt 15, 3) := by decide +kernel
theorem dX9_nextShort_62 : decode cX9_nextShort 62 = .ok (.iload 7, 2) := by decide +kernel
theorem dX9_nextShort_64 : decode cX9_nextShort 64 = .ok (.iload_n 2, 1) := by decide +kernel
theorem dX9_nextShort_65 : decode cX9_nextShort 65 = .ok (.if_icmp .ne 13, 3) := by decide +kernel
theorem dX9_nextShort_68 : decode cX9_nextShort 68 = .ok (.iload 5, 2) := by decide +kernel
theorem dX9_nextShort_70 : decode cX9_nextShort 70 = .ok (.iload_n 3, 1) := by decide +kernel
theorem dX9_nextShort_71 : decode cX9_nextShort 71 = .ok (.if_icmp .le 7, 3) := by decide +kernel
theorem dX9_nextShort_74 : decode cX9_nextShort 74 = .ok (.iconst 1, 1) := by decide +kernel
theorem dX9_nextShort_75 : decode cX9_nextShort 75 = .ok (.goto 4, 3) := by decide +kernel
theorem dX9_nextShort_78 : decode cX9_nextShort 78 = .ok (.iconst 0, 1) := by decide +kernel
theorem dX9_nextShort_79 : decode cX9_nextShort 79 = .ok (.istore 8, 2) := by decide +kernel
theorem dX9_nextShort_81 : decode cX9_nextShort 81 = .ok (.iload 8, 2) := by decide +kernel
theorem dX9_nextShort_83 : decode cX9_nextShort 83 = .ok (.ifCond .eq 37, 3) := by decide +kernel
theorem dX9_nextShort_86 : decode cX9_nextShort 86 = .ok (.iload 4, 2) := by decide +kernel
theorem dX9_nextShort_88 : decode cX9_nextShort 88 = .ok (.iconst (-1), 1) := by decide +kernel
theorem dX9_nextShort_89 : decode cX9_nextShort 89 = .ok (.if_icmp .eq 15, 3) := by decide +kernel
theorem dX9_nextShort_92 : decode cX9_nextShort 92 = .ok (.iload 7, 2) := by decide +kernel
theorem dX9_nextShort_94 : decode cX9_nextShort 94 = .ok (.aload_n 0, 1) := by decide +kernel
theorem dX9_nextShort_95 : decode cX9_nextShort 95 = .ok (.getfield 163, 3) := by decide +kernel
theorem dX9_nextShort_98 : decode cX9_nextShort 98 = .ok (.if_icmp .lt 6, 3) := by decide +kernel
theorem dX9_nextShort_101 : decode cX9_nextShort 101 = .ok (.goto 19, 3) := by decide +kernel
theorem dX9_nextShort_104 : decode cX9_nextShort 104 = .ok (.iload 5, 2) := by decide +kernel
theorem dX9_nextShort_106 : decode cX9_nextShort 106 = .ok (.istore 4, 2) := by decide +kernel
theorem dX9_nextShort_108 : decode cX9_nextShort 108 = .ok (.aload_n 0, 1) := by decide +kernel
theorem dX9_nextShort_109 : decode cX9_nextShort 109 = .ok (.iload 7, 2) := by decide +kernel
theorem dX9_nextShort_111 : decode cX9_nextShort 111 = .ok (.putfield 163, 3) := by decide +kernel
theorem dX9_nextShort_114 : decode cX9_nextShort 114 = .ok (.aload_n 0, 1) := by decide +kernel
theorem dX9_nextShort_115 : decode cX9_nextShort 115 = .ok (.iload 6, 2) := by decide +kernel
theorem dX9_nextShort_117 : decode cX9_nextShort 117 = .ok (.putfield 166, 3) := by decide +kernel
theorem dX9_nextShort_120 : decode cX9_nextShort 120 = .ok (.iinc 6 1, 3) := by decide +kernel
theorem dX9_nextShort_123 : decode cX9_nextShort 123 = .ok (.goto (-100), 3) := by decide +kernel
theorem dX9_nextShort_126 : decode cX9_nextShort 126 = .ok (.iinc 5 1, 3) := by decide +kernel
theorem dX9_nextShort_129 : decode cX9_nextShort 129 = .ok (.goto (-118), 3) := by decide +kernel
theorem dX9_nextShort_132 : decode cX9_nextShort 132 = .ok (.iload 4, 2) := by decide +kernel
theorem dX9_nextShort_134 : decode cX9_nextShort 134 = .ok (.ireturn, 1) := by decide +kernel
theorem dX9_night_0 : decode cX9_night 0 = .ok (.aload_n 0, 1) := by decide +kernel
theorem dX9_night_1 : decode cX9_night 1 = .ok (.iconst 0, 1) := by decide +kernel
theorem dX9_night_2 : decode cX9_night 2 = .ok (.putfield 58, 3) := by decide +kernel
theorem dX9_night_5 : decode cX9_night 5 = .ok (.aload_n 0, 1) := by decide +kernel
theorem dX9_night_6 : decode cX9_night 6 = .ok (.iload_n 1, 1) := by decide +kernel
theorem dX9_night_7 : decode cX9_night 7 = .ok (.iconst 1, 1) := by decide +kernel
theorem dX9_night_8 : decode cX9_night 8 = .ok (.bipush 20, 2) := by decide +kernel
theorem dX9_night_10 : decode cX9_night 10 = .ok (.invokevirtual 79, 3) := by decide +kernel
theorem dX9_night_13 : decode cX9_night 13 = .ok (.ifCond .eq 15, 3) := by decide +kernel
theorem dX9_night_16 : decode cX9_night 16 = .ok (.aload_n 0, 1) := by decide +kernel
theorem dX9_night_17 : decode cX9_night 17 = .ok (.getfield 7, 3) := by decide +kernel
theorem dX9_night_20 : decode cX9_night 20 = .ok (.bipush 6, 2) := by decide +kernel
theorem dX9_night_22 : decode cX9_night 22 = .ok (.iaload, 1) := by decide +kernel
theorem dX9_night_23 : decode cX9_night 23 = .ok (.bipush 99, 2) := by decide +kernel
theorem dX9_night_25 : decode cX9_night 25 = .ok (.if_icmp .ne 5, 3) := by decide +kernel
theorem dX9_night_28 : decode cX9_night 28 = .ok (.iconst (-1), 1) := by decide +kernel
theorem dX9_night_29 : decode cX9_night 29 = .ok (.ireturn, 1) := by decide +kernel
theorem dX9_night_30 : decode cX9_night 30 = .ok (.iconst 0, 1) := by decide +kernel
theorem dX9_night_31 : decode cX9_night 31 = .ok (.istore_n 2, 1) := by decide +kernel
theorem dX9_night_32 : decode cX9_night 32 = .ok (.iload_n 2, 1) := by decide +kernel
theorem dX9_night_33 : decode cX9_night 33 = .ok (.iload_n 1, 1) := by decide +kernel
theorem dX9_night_34 : decode cX9_night 34 = .ok (.if_icmp .ge 26, 3) := by decide +kernel
theorem dX9_night_37 : decode cX9_night 37 = .ok (.aload_n 0, 1) := by decide +kernel
theorem dX9_night_38 : decode cX9_night 38 = .ok (.getfield 7, 3) := by decide +kernel
theorem dX9_night_41 : decode cX9_night 41 = .ok (.bipush 6, 2) := by decide +kernel
theorem dX9_night_43 : decode cX9_night 43 = .ok (.iaload, 1) := by decide +kernel
theorem dX9_night_44 : decode cX9_night 44 = .ok (.bipush 99, 2) := by decide +kernel
theorem dX9_night_46 : decode cX9_night 46 = .ok (.if_icmp .ge 14, 3) := by decide +kernel
theorem dX9_night_49 : decode cX9_night 49 = .ok (.aload_n 0, 1) := by decide +kernel
theorem dX9_night_50 : decode cX9_night 50 = .ok (.invokevirtual 303, 3) := by decide +kernel
theorem dX9_night_53 : decode cX9_night 53 = .ok (.iload_n 2, 1) := by decide +kernel
theorem dX9_night_54 : decode cX9_night 54 = .ok (.iconst 1, 1) := by decide +kernel
theorem dX9_night_55 : decode cX9_night 55 = .ok (.iadd, 1) := by decide +kernel
theorem dX9_night_56 : decode cX9_night 56 = .ok (.istore_n 2, 1) := by decide +kernel
theorem dX9_night_57 : decode cX9_night 57 = .ok (.goto (-25), 3) := by decide +kernel
theorem dX9_night_60 : decode cX9_night 60 = .ok (.iload_n 2, 1) := by decide +kernel
theorem dX9_night_61 : decode cX9_night 61 = .ok (.ireturn, 1) := by decide +kernel
theorem dX9_notice_0 : decode cX9_notice 0 = .ok (.aload_n 0, 1) := by decide +kernel
theorem dX9_notice_1 : decode cX9_notice 1 = .ok (.iconst 0, 1) := by decide +kernel
theorem dX9_notice_2 : decode cX9_notice 2 = .ok (.putfield 58, 3) := by decide +kernel
theorem dX9_notice_5 : decode cX9_notice 5 = .ok (.aload_n 0, 1) := by decide +kernel
theorem dX9_notice_6 : decode cX9_notice 6 = .ok (.iload_n 1, 1) := by decide +kernel
theorem dX9_notice_7 : decode cX9_notice 7 = .ok (.iconst 0, 1) := by decide +kernel
theorem dX9_notice_8 : decode cX9_notice 8 = .ok (.aload_n 0, 1) := by decide +kernel
theorem dX9_notice_9 : decode cX9_notice 9 = .ok (.getfield 7, 3) := by decide +kernel
theorem dX9_notice_12 : decode cX9_notice 12 = .ok (.bipush 8, 2) := by decide +kernel
theorem dX9_notice_14 : decode cX9_notice 14 = .ok (.iaload, 1) := by decide +kernel
theorem dX9_notice_15 : decode cX9_notice 15 = .ok (.iconst 1, 1) := by decide +kernel
theorem dX9_notice_16 : decode cX9_notice 16 = .ok (.isub, 1) := by decide +kernel
theorem dX9_notice_17 : decode cX9_notice 17 = .ok (.invokevirtual 79, 3) := by decide +kernel
theorem dX9_notice_20 : decode cX9_notice 20 = .ok (.ifCond .ne 5, 3) := by decide +kernel
theorem dX9_notice_23 : decode cX9_notice 23 = .ok (.iconst (-1), 1) := by decide +kernel
theorem dX9_notice_24 : decode cX9_notice 24 = .ok (.ireturn, 1) := by decide +kernel
theorem dX9_notice_25 : decode cX9_notice 25 = .ok (.aload_n 0, 1) := by decide +kernel
theorem dX9_notice_26 : decode cX9_notice 26 = .ok (.iload_n 2, 1) := by decide +kernel
theorem dX9_notice_27 : decode cX9_notice 27 = .ok (.bipush 10, 2) := by decide +kernel
theorem dX9_notice_29 : decode cX9_notice 29 = .ok (.bipush 9, 2) := by decide +kernel
theorem dX9_notice_31 : decode cX9_notice 31 = .ok (.aload_n 0, 1) := by decide +kernel
theorem dX9_notice_32 : decode cX9_notice 32 = .ok (.invokevirtual 61, 3) := by decide +kernel
theorem dX9_notice_35 : decode cX9_notice 35 = .ok (.iadd, 1) := by decide +kernel
theorem dX9_notice_36 : decode cX9_notice 36 = .ok (.invokevirtual 79, 3) := by decide +kernel
theorem dX9_notice_39 : decode cX9_notice 39 = .ok (.ifCond .eq 16, 3) := by decide +kernel
theorem dX9_notice_42 : decode cX9_notice 42 = .ok (.aload_n 0, 1) := by decide +kernel
theorem dX9_notice_43 : decode cX9_notice 43 = .ok (.iload_n 1, 1) := by decide +kernel
theorem dX9_notice_44 : decode cX9_notice 44 = .ok (.bipush 8, 2) := by decide +kernel
theorem dX9_notice_46 : decode cX9_notice 46 = .ok (.iload_n 2, 1) := by decide +kernel
theorem dX9_notice_47 : decode cX9_notice 47 = .ok (.iadd, 1) := by decide +kernel
theorem dX9_notice_48 : decode cX9_notice 48 = .ok (.bipush 10, 2) := by decide +kernel
theorem dX9_notice_50 : decode cX9_notice 50 = .ok (.isub, 1) := by decide +kernel
theorem dX9_notice_51 : decode cX9_notice 51 = .ok (.invokevirtual 157, 3) := by decide +kernel
theorem dX9_notice_54 : decode cX9_notice 54 = .ok (.ireturn, 1) := by decide +kernel
theorem dX9_notice_55 : decode cX9_notice 55 = .ok (.aload_n 0, 1) := by decide +kernel
theorem dX9_notice_56 : decode cX9_notice 56 = .ok (.iload_n 2, 1) := by decide +kernel
theorem dX9_notice_57 : decode cX9_notice 57 = .ok (.iconst 0, 1) := by decide +kernel
theorem dX9_notice_58 : decode cX9_notice 58 = .ok (.bipush 6, 2) := by decide +kernel
theorem dX9_notice_60 : decode cX9_notice 60 = .ok (.invokevirtual 79, 3) := by decide +kernel
theorem dX9_notice_63 : decode cX9_notice 63 = .ok (.ifCond .ne 7, 3) := by decide +kernel
theorem dX9_notice_66 : decode cX9_notice 66 = .ok (.iconst (-1), 1) := by decide +kernel
theorem dX9_notice_67 : decode cX9_notice 67 = .ok (.goto 25, 3) := by decide +kernel
theorem dX9_notice_70 : decode cX9_notice 70 = .ok (.iload_n 2, 1) := by decide +kernel
theorem dX9_notice_71 : decode cX9_notice 71 = .ok (.iconst 5, 1) := by decide +kernel
theorem dX9_notice_72 : decode cX9_notice 72 = .ok (.if_icmp .ne 14, 3) := by decide +kernel
theorem dX9_notice_75 : decode cX9_notice 75 = .ok (.aload_n 0, 1) := by decide +kernel
theorem dX9_notice_76 : decode cX9_notice 76 = .ok (.iload_n 1, 1) := by decide +kernel
theorem dX9_notice_77 : decode cX9_notice 77 = .ok (.iconst 5, 1) := by decide +kernel
theorem dX9_notice_78 : decode cX9_notice 78 = .ok (.invokevirtual 157, 3) := by decide +kernel
theorem dX9_notice_81 : decode cX9_notice 81 = .ok (.iconst 1, 1) := by decide +kernel
theorem dX9_notice_82 : decode cX9_notice 82 = .ok (.isub, 1) := by decide +kernel
theorem dX9_notice_83 : decode cX9_notice 83 = .ok (.goto 9, 3) := by decide +kernel
theorem dX9_notice_86 : decode cX9_notice 86 = .ok (.aload_n 0, 1) := by decide +kernel
theorem dX9_notice_87 : decode cX9_notice 87 = .ok (.iload_n 1, 1) := by decide +kernel
theorem dX9_notice_88 : decode cX9_notice 88 = .ok (.iload_n 2, 1) := by decide +kernel
theorem dX9_notice_89 : decode cX9_notice 89 = .ok (.invokevirtual 157, 3) := by decide +kernel
theorem dX9_notice_92 : decode cX9_notice 92 = .ok (.ireturn, 1) := by decide +kernel
theorem dX9_noticeAt_0 : decode cX9_noticeAt 0 = .ok (.sipush 16710, 3) := by decide +kernel
theorem dX9_noticeAt_3 : decode cX9_noticeAt 3 = .ok (.bipush 20, 2) := by decide +kernel
theorem dX9_noticeAt_5 : decode cX9_noticeAt 5 = .ok (.iload_n 1, 1) := by decide +kernel
theorem dX9_noticeAt_6 : decode cX9_noticeAt 6 = .ok (.imul, 1) := by decide +kernel
theorem dX9_noticeAt_7 : decode cX9_noticeAt 7 = .ok (.iadd, 1) := by decide +kernel
theorem dX9_noticeAt_8 : decode cX9_noticeAt 8 = .ok (.ireturn, 1) := by decide +kernel
theorem dX9_noticeOf_0 : decode cX9_noticeOf 0 = .ok (.aload_n 0, 1) := by decide +kernel
theorem dX9_noticeOf_1 : decode cX9_noticeOf 1 = .ok (.getfield 7, 3) := by decide +kernel
theorem dX9_noticeOf_4 : decode cX9_noticeOf 4 = .ok (.aload_n 0, 1) := by decide +kernel
theorem dX9_noticeOf_5 : decode cX9_noticeOf 5 = .ok (.iload_n 1, 1) := by decide +kernel
theorem dX9_noticeOf_6 : decode cX9_noticeOf 6 = .ok (.invokevirtual 154, 3) := by decide +kernel
theorem dX9_noticeOf_9 : decode cX9_noticeOf 9 = .ok (.iload_n 2, 1) := by decide +kernel
theorem dX9_noticeOf_10 : decode cX9_noticeOf 10 = .ok (.iadd, 1) := by decide +kernel
theorem dX9_noticeOf_11 : decode cX9_noticeOf 11 = .ok (.iaload, 1) := by decide +kernel
theorem dX9_noticeOf_12 : decode cX9_noticeOf 12 = .ok (.ireturn, 1) := by decide +kernel
theorem dX9_oldLong_0 : decode cX9_oldLong 0 = .ok (.iconst 0, 1) := by decide +kernel
theorem dX9_oldLong_1 : decode cX9_oldLong 1 = .ok (.istore_n 3, 1) := by decide +kernel
theorem dX9_oldLong_2 : decode cX9_oldLong 2 = .ok (.iconst 0, 1) := by decide +kernel
theorem dX9_oldLong_3 : decode cX9_oldLong 3 = .ok (.istore 4, 2) := by decide +kernel
theorem dX9_oldLong_5 : decode cX9_oldLong 5 = .ok (.iload 4, 2) := by decide +kernel
theorem dX9_oldLong_7 : decode cX9_oldLong 7 = .ok (.aload_n 0, 1) := by decide +kernel
theorem dX9_oldLong_8 : decode cX9_oldLong 8 = .ok (.iload_n 1, 1) := by decide +kernel
theorem dX9_oldLong_9 : decode cX9_oldLong 9 = .ok (.iload_n 2, 1) := by decide +kernel
theorem dX9_oldLong_10 : decode cX9_oldLong 10 = .ok (.invokevirtual 110, 3) := by decide +kernel
theorem dX9_oldLong_13 : decode cX9_oldLong 13 = .ok (.if_icmp .ge 53, 3) := by decide +kernel
theorem dX9_oldLong_16 : decode cX9_oldLong 16 = .ok (.aload_n 0, 1) := by decide +kernel
theorem dX9_oldLong_17 : decode cX9_oldLong 17 = .ok (.iload_n 1, 1) := by decide +kernel
theorem dX9_oldLong_18 : decode cX9_oldLong 18 = .ok (.iload_n 2, 1) := by decide +kernel
theorem dX9_oldLong_19 : decode cX9_oldLong 19 = .ok (.invokevirtual 122, 3) := by decide +kernel
theorem dX9_oldLong_22 : decode cX9_oldLong 22 = .ok (.ifCond .eq 44, 3) := by decide +kernel
theorem dX9_oldLong_25 : decode cX9_oldLong 25 = .ok (.aload_n 0, 1) := by decide +kernel
theorem dX9_oldLong_26 : decode cX9_oldLong 26 = .ok (.iload_n 1, 1) := by decide +kernel
theorem dX9_oldLong_27 : decode cX9_oldLong 27 = .ok (.iload_n 2, 1) := by decide +kernel
theorem dX9_oldLong_28 : decode cX9_oldLong 28 = .ok (.iload 4, 2) := by decide +kernel
theorem dX9_oldLong_30 : decode cX9_oldLong 30 = .ok (.invokevirtual 125, 3) := by decide +kernel
theorem dX9_oldLong_33 : decode cX9_oldLong 33 = .ok (.aload_n 0, 1) := by decide +kernel
theorem dX9_oldLong_34 : decode cX9_oldLong 34 = .ok (.getfield 7, 3) := by decide +kernel
theorem dX9_oldLong_37 : decode cX9_oldLong 37 = .ok (.bipush 6, 2) := by decide +kernel
theorem dX9_oldLong_39 : decode cX9_oldLong 39 = .ok (.iaload, 1) := by decide +kernel
theorem dX9_oldLong_40 : decode cX9_oldLong 40 = .ok (.aload_n 0, 1) := by decide +kernel
theorem dX9_oldLong_41 : decode cX9_oldLong 41 = .ok (.iconst 3, 1) := by decide +kernel
theorem dX9_oldLong_42 : decode cX9_oldLong 42 = .ok (.invokevirtual 144, 3) := by decide +kernel
theorem dX9_oldLong_45 : decode cX9_oldLong 45 = .ok (.isub, 1) := by decide +kernel
theorem dX9_oldLong_46 : decode cX9_oldLong 46 = .ok (.if_icmp .gt 14, 3) := by decide +kernel
theorem dX9_oldLong_49 : decode cX9_oldLong 49 = .ok (.iload_n 3, 1) := by decide +kernel
theorem dX9_oldLong_50 : decode cX9_oldLong 50 = .ok (.aload_n 0, 1) := by decide +kernel
theorem dX9_oldLong_51 : decode cX9_oldLong 51 = .ok (.iload_n 1, 1) := by decide +kernel
theorem dX9_oldLong_52 : decode cX9_oldLong 52 = .ok (.iload_n 2, 1) := by decide +kernel
theorem dX9_oldLong_53 : decode cX9_oldLong 53 = .ok (.iload 4, 2) := by decide +kernel
theorem dX9_oldLong_55 : decode cX9_oldLong 55 = .ok (.invokevirtual 113, 3) := by decide +kernel
theorem dX9_oldLong_58 : decode cX9_oldLong 58 = .ok (.iadd, 1) := by decide +kernel
theorem dX9_oldLong_59 : decode cX9_oldLong 59 = .ok (.istore_n 3, 1) := by decide +kernel
theorem dX9_oldLong_60 : decode cX9_oldLong 60 = .ok (.iinc 4 1, 3) := by decide +kernel
theorem dX9_oldLong_63 : decode cX9_oldLong 63 = .ok (.goto (-58), 3) := by decide +kernel
theorem dX9_oldLong_66 : decode cX9_oldLong 66 = .ok (.iload_n 3, 1) := by decide +kernel
theorem dX9_oldLong_67 : decode cX9_oldLong 67 = .ok (.ireturn, 1) := by decide +kernel
theorem dX9_openNotices_0 : decode cX9_openNotices 0 = .ok (.iconst 0, 1) := by decide +kernel
theorem dX9_openNotices_1 : decode cX9_openNotices 1 = .ok (.istore_n 1, 1) := by decide +kernel
theorem dX9_openNotices_2 : decode cX9_openNotices 2 = .ok (.iconst 0, 1) := by decide +kernel
theorem dX9_openNotices_3 : decode cX9_openNotices 3 = .ok (.istore_n 2, 1) := by decide +kernel
theorem dX9_openNotices_4 : decode cX9_openNotices 4 = .ok (.iload_n 2, 1) := by decide +kernel
theorem dX9_openNotices_5 : decode cX9_openNotices 5 = .ok (.aload_n 0, 1) := by decide +kernel
theorem dX9_openNotices_6 : decode cX9_openNotices 6 = .ok (.getfield 7, 3) := by decide +kernel
theorem dX9_openNotices_9 : decode cX9_openNotices 9 = .ok (.bipush 8, 2) := by decide +kernel
theorem dX9_openNotices_11 : decode cX9_openNotices 11 = .ok (.iaload, 1) := by decide +kernel
theorem dX9_openNotices_12 : decode cX9_openNotices 12 = .ok (.if_icmp .ge 18, 3) := by decide +kernel
theorem dX9_openNotices_15 : decode cX9_openNotices 15 = .ok (.iload_n 1, 1) := by decide +kernel
theorem dX9_openNotices_16 : decode cX9_openNotices 16 = .ok (.aload_n 0, 1) := by decide +kernel
theorem dX9_openNotices_17 : decode cX9_openNotices 17 = .ok (.iload_n 2, 1) := by decide +kernel
theorem dX9_openNotices_18 : decode cX9_openNotices 18 = .ok (.iconst 4, 1) := by decide +kernel
theorem dX9_openNotices_19 : decode cX9_openNotices 19 = .ok (.invokevirtual 157, 3) := by decide +kernel
theorem dX9_openNotices_22 : decode cX9_openNotices 22 = .ok (.iadd, 1) := by decide +kernel
theorem dX9_openNotices_23 : decode cX9_openNotices 23 = .ok (.istore_n 1, 1) := by decide +kernel
theorem dX9_openNotices_24 : decode cX9_openNotices 24 = .ok (.iinc 2 1, 3) := by decide +kernel
theorem dX9_openNotices_27 : decode cX9_openNotices 27 = .ok (.goto (-23), 3) := by decide +kernel
theorem dX9_openNotices_30 : decode cX9_openNotices 30 = .ok (.iload_n 1, 1) := by decide +kernel
theorem dX9_openNotices_31 : decode cX9_openNotices 31 = .ok (.ireturn, 1) := by decide +kernel
theorem dX9_openOf_0 : decode cX9_openOf 0 = .ok (.iconst 0, 1) := by decide +kernel
theorem dX9_openOf_1 : decode cX9_openOf 1 = .ok (.istore_n 3, 1) := by decide +kernel
theorem dX9_openOf_2 : decode cX9_openOf 2 = .ok (.iconst 0, 1) := by decide +kernel
theorem dX9_openOf_3 : decode cX9_openOf 3 = .ok (.istore 4, 2) := by decide +kernel
theorem dX9_openOf_5 : decode cX9_openOf 5 = .ok (.iload 4, 2) := by decide +kernel
theorem dX9_openOf_7 : decode cX9_openOf 7 = .ok (.aload_n 0, 1) := by decide +kernel
theorem dX9_openOf_8 : decode cX9_openOf 8 = .ok (.getfield 7, 3) := by decide +kernel
theorem dX9_openOf_11 : decode cX9_openOf 11 = .ok (.bipush 7, 2) := by decide +kernel
theorem dX9_openOf_13 : decode cX9_openOf 13 = .ok (.iaload, 1) := by decide +kernel
theorem dX9_openOf_14 : decode cX9_openOf 14 = .ok (.if_icmp .ge 47, 3) := by decide +kernel
theorem dX9_openOf_17 : decode cX9_openOf 17 = .ok (.iload_n 1, 1) := by decide +kernel
theorem dX9_openOf_18 : decode cX9_openOf 18 = .ok (.iconst (-1), 1) := by decide +kernel
theorem dX9_openOf_19 : decode cX9_openOf 19 = .ok (.if_icmp .eq 14, 3) := by decide +kernel
theorem dX9_openOf_22 : decode cX9_openOf 22 = .ok (.aload_n 0, 1) := by decide +kernel
theorem dX9_openOf_23 : decode cX9_openOf 23 = .ok (.iload 4, 2) := by decide +kernel
theorem dX9_openOf_25 : decode cX9_openOf 25 = .ok (.iconst 2, 1) := by decide +kernel
theorem dX9_openOf_26 : decode cX9_openOf 26 = .ok (.invokevirtual 151, 3) := by decide +kernel
theorem dX9_openOf_29 : decode cX9_openOf 29 = .ok (.iload_n 1, 1) := by decide +kernel
theorem dX9_openOf_30 : decode cX9_openOf 30 = .ok (.if_icmp .ne 25, 3) := by decide +kernel
theorem dX9_openOf_33 : decode cX9_openOf 33 = .ok (.aload_n 0, 1) := by decide +kernel
theorem dX9_openOf_34 : decode cX9_openOf 34 = .ok (.iload 4, 2) := by decide +kernel
theorem dX9_openOf_36 : decode cX9_openOf 36 = .ok (.iconst 5, 1) := by decide +kernel
theorem dX9_openOf_37 : decode cX9_openOf 37 = .ok (.invokevirtual 151, 3) := by decide +kernel
theorem dX9_openOf_40 : decode cX9_openOf 40 = .ok (.iload_n 2, 1) := by decide +kernel
theorem dX9_openOf_41 : decode cX9_openOf 41 = .ok (.if_icmp .ne 14, 3) := by decide +kernel
theorem dX9_openOf_44 : decode cX9_openOf 44 = .ok (.iload_n 3, 1) := by decide +kernel
theorem dX9_openOf_45 : decode cX9_openOf 45 = .ok (.aload_n 0, 1) := by decide +kernel
theorem dX9_openOf_46 : decode cX9_openOf 46 = .ok (.iload 4, 2) := by decide +kernel
theorem dX9_openOf_48 : decode cX9_openOf 48 = .ok (.bipush 7, 2) := by decide +kernel
theorem dX9_openOf_50 : decode cX9_openOf 50 = .ok (.invokevirtual 151, 3) := by decide +kernel
theorem dX9_openOf_53 : decode cX9_openOf 53 = .ok (.iadd, 1) := by decide +kernel
theorem dX9_openOf_54 : decode cX9_openOf 54 = .ok (.istore_n 3, 1) := by decide +kernel
theorem dX9_openOf_55 : decode cX9_openOf 55 = .ok (.iinc 4 1, 3) := by decide +kernel
theorem dX9_openOf_58 : decode cX9_openOf 58 = .ok (.goto (-53), 3) := by decide +kernel
theorem dX9_openOf_61 : decode cX9_openOf 61 = .ok (.iload_n 3, 1) := by decide +kernel
theorem dX9_openOf_62 : decode cX9_openOf 62 = .ok (.ireturn, 1) := by decide +kernel
theorem dX9_plan_0 : decode cX9_plan 0 = .ok (.aload_n 0, 1) := by decide +kernel
theorem dX9_plan_1 : decode cX9_plan 1 = .ok (.iconst 0, 1) := by decide +kernel
theorem dX9_plan_2 : decode cX9_plan 2 = .ok (.putfield 58, 3) := by decide +kernel
theorem dX9_plan_5 : decode cX9_plan 5 = .ok (.aload_n 0, 1) := by decide +kernel
theorem dX9_plan_6 : decode cX9_plan 6 = .ok (.iconst 0, 1) := by decide +kernel
theorem dX9_plan_7 : decode cX9_plan 7 = .ok (.putfield 401, 3) := by decide +kernel
theorem dX9_plan_10 : decode cX9_plan 10 = .ok (.aload_n 0, 1) := by decide +kernel
theorem dX9_plan_11 : decode cX9_plan 11 = .ok (.iconst (-1), 1) := by decide +kernel
theorem dX9_plan_12 : decode cX9_plan 12 = .ok (.putfield 45, 3) := by decide +kernel
theorem dX9_plan_15 : decode cX9_plan 15 = .ok (.aload_n 0, 1) := by decide +kernel
theorem dX9_plan_16 : decode cX9_plan 16 = .ok (.invokevirtual 404, 3) := by decide +kernel
theorem dX9_plan_19 : decode cX9_plan 19 = .ok (.istore_n 1, 1) := by decide +kernel
theorem dX9_plan_20 : decode cX9_plan 20 = .ok (.iload_n 1, 1) := by decide +kernel
theorem dX9_plan_21 : decode cX9_plan 21 = .ok (.iconst (-1), 1) := by decide +kernel
theorem dX9_plan_22 : decode cX9_plan 22 = .ok (.if_icmp .ne 19, 3) := by decide +kernel
theorem dX9_plan_25 : decode cX9_plan 25 = .ok (.aload_n 0, 1) := by decide +kernel
theorem dX9_plan_26 : decode cX9_plan 26 = .ok (.aload_n 0, 1) := by decide +kernel
theorem dX9_plan_27 : decode cX9_plan 27 = .ok (.getfield 374, 3) := by decide +kernel
theorem dX9_plan_30 : decode cX9_plan 30 = .ok (.putfield 401, 3) := by decide +kernel
theorem dX9_plan_33 : decode cX9_plan 33 = .ok (.aload_n 0, 1) := by decide +kernel
theorem dX9_plan_34 : decode cX9_plan 34 = .ok (.aload_n 0, 1) := by decide +kernel
theorem dX9_plan_35 : decode cX9_plan 35 = .ok (.getfield 377, 3) := by decide +kernel
theorem dX9_plan_38 : decode cX9_plan 38 = .ok (.putfield 45, 3) := by decide +kernel
theorem dX9_plan_41 : decode cX9_plan 41 = .ok (.aload_n 0, 1) := by decide +kernel
theorem dX9_plan_42 : decode cX9_plan 42 = .ok (.iconst 0, 1) := by decide +kernel
theorem dX9_plan_43 : decode cX9_plan 43 = .ok (.putfield 344, 3) := by decide +kernel
theorem dX9_plan_46 : decode cX9_plan 46 = .ok (.iload_n 1, 1) := by decide +kernel
theorem dX9_plan_47 : decode cX9_plan 47 = .ok (.iconst (-1), 1) := by decide +kernel
theorem dX9_plan_48 : decode cX9_plan 48 = .ok (.if_icmp .ne 5, 3) := by decide +kernel
theorem dX9_plan_51 : decode cX9_plan 51 = .ok (.iconst (-1), 1) := by decide +kernel
theorem dX9_plan_52 : decode cX9_plan 52 = .ok (.ireturn, 1) := by decide +kernel
theorem dX9_plan_53 : decode cX9_plan 53 = .ok (.iconst 0, 1) := by decide +kernel
theorem dX9_plan_54 : decode cX9_plan 54 = .ok (.istore_n 2, 1) := by decide +kernel
theorem dX9_plan_55 : decode cX9_plan 55 = .ok (.iload_n 2, 1) := by decide +kernel
theorem dX9_plan_56 : decode cX9_plan 56 = .ok (.bipush 6, 2) := by decide +kernel
theorem dX9_plan_58 : decode cX9_plan 58 = .ok (.iload_n 1, 1) := by decide +kernel
theorem dX9_plan_59 : decode cX9_plan 59 = .ok (.imul, 1) := by decide +kernel
theorem dX9_plan_60 : decode cX9_plan 60 = .ok (.if_icmp .ge 25, 3) := by decide +kernel
theorem dX9_plan_63 : decode cX9_plan 63 = .ok (.aload_n 0, 1) := by decide +kernel
theorem dX9_plan_64 : decode cX9_plan 64 = .ok (.getfield 49, 3) := by decide +kernel
theorem dX9_plan_67 : decode cX9_plan 67 = .ok (.iload_n 2, 1) := by decide +kernel
theorem dX9_plan_68 : decode cX9_plan 68 = .ok (.aload_n 0, 1) := by decide +kernel
theorem dX9_plan_69 : decode cX9_plan 69 = .ok (.getfield 49, 3) := by decide +kernel
theorem dX9_plan_72 : decode cX9_plan 72 = .ok (.sipush 144, 3) := by decide +kernel
theorem dX9_plan_75 : decode cX9_plan 75 = .ok (.iload_n 2, 1) := by decide +kernel
theorem dX9_plan_76 : decode cX9_plan 76 = .ok (.iadd, 1) := by decide +kernel
theorem dX9_plan_77 : decode cX9_plan 77 = .ok (.iaload, 1) := by decide +kernel
theorem dX9_plan_78 : decode cX9_plan 78 = .ok (.iastore, 1) := by decide +kernel
theorem dX9_plan_79 : decode cX9_plan 79 = .ok (.iinc 2 1, 3) := by decide +kernel
theorem dX9_plan_82 : decode cX9_plan 82 = .ok (.goto (-27), 3) := by decide +kernel
theorem dX9_plan_85 : decode cX9_plan 85 = .ok (.aload_n 0, 1) := by decide +kernel
theorem dX9_plan_86 : decode cX9_plan 86 = .ok (.iload_n 1, 1) := by decide +kernel
theorem dX9_plan_87 : decode cX9_plan 87 = .ok (.putfield 407, 3) := by decide +kernel
theorem dX9_plan_90 : decode cX9_plan 90 = .ok (.aload_n 0, 1) := by decide +kernel
theorem dX9_plan_91 : decode cX9_plan 91 = .ok (.getfield 7, 3) := by decide +kernel
theorem dX9_plan_94 : decode cX9_plan 94 = .ok (.bipush 10, 2) := by decide +kernel
theorem dX9_plan_96 : decode cX9_plan 96 = .ok (.iconst 0, 1) := by decide +kernel
theorem dX9_plan_97 : decode cX9_plan 97 = .ok (.iastore, 1) := by decide +kernel
theorem dX9_plan_98 : decode cX9_plan 98 = .ok (.iload_n 1, 1) := by decide +kernel
theorem dX9_plan_99 : decode cX9_plan 99 = .ok (.ireturn, 1) := by decide +kernel
theorem dX9_positionOf_0 : decode cX9_positionOf 0 = .ok (.iconst 0, 1) := by decide +kernel
theorem dX9_positionOf_1 : decode cX9_positionOf 1 = .ok (.istore_n 3, 1) := by decide +kernel
theorem dX9_positionOf_2 : decode cX9_positionOf 2 = .ok (.iconst 0, 1) := by decide +kernel
theorem dX9_positionOf_3 : decode cX9_positionOf 3 = .ok (.istore 4, 2) := by decide +kernel
theorem dX9_positionOf_5 : decode cX9_positionOf 5 = .ok (.iload 4, 2) := by decide +kernel
theorem dX9_positionOf_7 : decode cX9_positionOf 7 = .ok (.aload_n 0, 1) := by decide +kernel
theorem dX9_positionOf_8 : decode cX9_positionOf 8 = .ok (.iload_n 1, 1) := by decide +kernel
theorem dX9_positionOf_9 : decode cX9_positionOf 9 = .ok (.iload_n 2, 1) := by decide +kernel
theorem dX9_positionOf_10 : decode cX9_positionOf 10 = .ok (.invokevirtual 110, 3) := by decide +kernel
theorem dX9_positionOf_13 : decode cX9_positionOf 13 = .ok (.if_icmp .ge 20, 3) := by decide +kernel
theorem dX9_positionOf_16 : decode cX9_positionOf 16 = .ok (.iload_n 3, 1) := by decide +kernel
theorem dX9_positionOf_17 : decode cX9_positionOf 17 = .ok (.aload_n 0, 1) := by decide +kernel
theorem dX9_positionOf_18 : decode cX9_positionOf 18 = .ok (.iload_n 1, 1) := by decide +kernel
theorem dX9_positionOf_19 : decode cX9_positionOf 19 = .ok (.iload_n 2, 1) := by decide +kernel
theorem dX9_positionOf_20 : decode cX9_positionOf 20 = .ok (.iload 4, 2) := by decide +kernel
theorem dX9_positionOf_22 : decode cX9_positionOf 22 = .ok (.invokevirtual 113, 3) := by decide +kernel
theorem dX9_positionOf_25 : decode cX9_positionOf 25 = .ok (.iadd, 1) := by decide +kernel
theorem dX9_positionOf_26 : decode cX9_positionOf 26 = .ok (.istore_n 3, 1) := by decide +kernel
theorem dX9_positionOf_27 : decode cX9_positionOf 27 = .ok (.iinc 4 1, 3) := by decide +kernel
theorem dX9_positionOf_30 : decode cX9_positionOf 30 = .ok (.goto (-25), 3) := by decide +kernel
theorem dX9_positionOf_33 : decode cX9_positionOf 33 = .ok (.iload_n 3, 1) := by decide +kernel
theorem dX9_positionOf_34 : decode cX9_positionOf 34 = .ok (.ireturn, 1) := by decide +kernel
theorem dX9_price_0 : decode cX9_price 0 = .ok (.aload_n 0, 1) := by decide +kernel
theorem dX9_price_1 : decode cX9_price 1 = .ok (.iconst 0, 1) := by decide +kernel
theorem dX9_price_2 : decode cX9_price 2 = .ok (.putfield 58, 3) := by decide +kernel
theorem dX9_price_5 : decode cX9_price 5 = .ok (.aload_n 0, 1) := by decide +kernel
theorem dX9_price_6 : decode cX9_price 6 = .ok (.iload_n 1, 1) := by decide +kernel
theorem dX9_price_7 : decode cX9_price 7 = .ok (.invokevirtual 94, 3) := by decide +kernel
theorem dX9_price_10 : decode cX9_price 10 = .ok (.ifCond .eq 15, 3) := by decide +kernel
theorem dX9_price_13 : decode cX9_price 13 = .ok (.aload_n 0, 1) := by decide +kernel
theorem dX9_price_14 : decode cX9_price 14 = .ok (.iload_n 2, 1) := by decide +kernel
theorem dX9_price_15 : decode cX9_price 15 = .ok (.iconst 1, 1) := by decide +kernel
theorem dX9_price_16 : decode cX9_price 16 = .ok (.sipush 9999, 3) := by decide +kernel
theorem dX9_price_19 : decode cX9_price 19 = .ok (.invokevirtual 79, 3) := by decide +kernel
theorem dX9_price_22 : decode cX9_price 22 = .ok (.ifCond .ne 5, 3) := by decide +kernel
theorem dX9_price_25 : decode cX9_price 25 = .ok (.iconst 0, 1) := by decide +kernel
theorem dX9_price_26 : decode cX9_price 26 = .ok (.ireturn, 1) := by decide +kernel
theorem dX9_price_27 : decode cX9_price 27 = .ok (.aload_n 0, 1) := by decide +kernel
theorem dX9_price_28 : decode cX9_price 28 = .ok (.getfield 7, 3) := by decide +kernel
theorem dX9_price_31 : decode cX9_price 31 = .ok (.bipush 16, 2) := by decide +kernel
theorem dX9_price_33 : decode cX9_price 33 = .ok (.iload_n 1, 1) := by decide +kernel
theorem dX9_price_34 : decode cX9_price 34 = .ok (.iadd, 1) := by decide +kernel
theorem dX9_price_35 : decode cX9_price 35 = .ok (.iload_n 2, 1) := by decide +kernel
theorem dX9_price_36 : decode cX9_price 36 = .ok (.bipush 100, 2) := by decide +kernel
theorem dX9_price_38 : decode cX9_price 38 = .ok (.isub, 1) := by decide +kernel
theorem dX9_price_39 : decode cX9_price 39 = .ok (.iastore, 1) := by decide +kernel
theorem dX9_price_40 : decode cX9_price 40 = .ok (.iconst 1, 1) := by decide +kernel
theorem dX9_price_41 : decode cX9_price 41 = .ok (.ireturn, 1) := by decide +kernel
theorem dX9_priceOf_0 : decode cX9_priceOf 0 = .ok (.aload_n 0, 1) := by decide +kernel
theorem dX9_priceOf_1 : decode cX9_priceOf 1 = .ok (.getfield 7, 3) := by decide +kernel
theorem dX9_priceOf_4 : decode cX9_priceOf 4 = .ok (.bipush 16, 2) := by decide +kernel
theorem dX9_priceOf_6 : decode cX9_priceOf 6 = .ok (.iload_n 1, 1) := by decide +kernel
theorem dX9_priceOf_7 : decode cX9_priceOf 7 = .ok (.iadd, 1) := by decide +kernel
theorem dX9_priceOf_8 : decode cX9_priceOf 8 = .ok (.iaload, 1) := by decide +kernel
theorem dX9_priceOf_9 : decode cX9_priceOf 9 = .ok (.bipush 100, 2) := by decide +kernel
theorem dX9_priceOf_11 : decode cX9_priceOf 11 = .ok (.iadd, 1) := by decide +kernel
theorem dX9_priceOf_12 : decode cX9_priceOf 12 = .ok (.ireturn, 1) := by decide +kernel
theorem dX9_queue_0 : decode cX9_queue 0 = .ok (.aload_n 0, 1) := by decide +kernel
theorem dX9_queue_1 : decode cX9_queue 1 = .ok (.iconst 0, 1) := by decide +kernel
theorem dX9_queue_2 : decode cX9_queue 2 = .ok (.putfield 58, 3) := by decide +kernel
theorem dX9_queue_5 : decode cX9_queue 5 = .ok (.aload_n 0, 1) := by decide +kernel
theorem dX9_queue_6 : decode cX9_queue 6 = .ok (.iload_n 1, 1) := by decide +kernel
theorem dX9_queue_7 : decode cX9_queue 7 = .ok (.invokevirtual 94, 3) := by decide +kernel
theorem dX9_queue_10 : decode cX9_queue 10 = .ok (.ifCond .ne 5, 3) := by decide +kernel
theorem dX9_queue_13 : decode cX9_queue 13 = .ok (.iconst (-1), 1) := by decide +kernel
theorem dX9_queue_14 : decode cX9_queue 14 = .ok (.ireturn, 1) := by decide +kernel
theorem dX9_queue_15 : decode cX9_queue 15 = .ok (.aload_n 0, 1) := by decide +kernel
theorem dX9_queue_16 : decode cX9_queue 16 = .ok (.iload_n 1, 1) := by decide +kernel
theorem dX9_queue_17 : decode cX9_queue 17 = .ok (.bipush 99, 2) := by decide +kernel
theorem dX9_queue_19 : decode cX9_queue 19 = .ok (.invokevirtual 271, 3) := by decide +kernel
theorem dX9_queue_22 : decode cX9_queue 22 = .ok (.iload_n 2, 1) := by decide +kernel
theorem dX9_queue_23 : decode cX9_queue 23 = .ok (.iconst (-1), 1) := by decide +kernel
theorem dX9_queue_24 : decode cX9_queue 24 = .ok (.if_icmp .ne 8, 3) := by decide +kernel
theorem dX9_queue_27 : decode cX9_queue 27 = .ok (.aload_n 0, 1) := by decide +kernel
theorem dX9_queue_28 : decode cX9_queue 28 = .ok (.getfield 240, 3) := by decide +kernel
theorem dX9_queue_31 : decode cX9_queue 31 = .ok (.ireturn, 1) := by decide +kernel
theorem dX9_queue_32 : decode cX9_queue 32 = .ok (.aload_n 0, 1) := by decide +kernel
theorem dX9_queue_33 : decode cX9_queue 33 = .ok (.iload_n 2, 1) := by decide +kernel
theorem dX9_queue_34 : decode cX9_queue 34 = .ok (.iconst 0, 1) := by decide +kernel
theorem dX9_queue_35 : decode cX9_queue 35 = .ok (.aload_n 0, 1) := by decide +kernel
theorem dX9_queue_36 : decode cX9_queue 36 = .ok (.getfield 240, 3) := by decide +kernel
theorem dX9_queue_39 : decode cX9_queue 39 = .ok (.iconst 1, 1) := by decide +kernel
theorem dX9_queue_40 : decode cX9_queue 40 = .ok (.isub, 1) := by decide +kernel
theorem dX9_queue_41 : decode cX9_queue 41 = .ok (.invokevirtual 79, 3) := by decide +kernel
theorem dX9_queue_44 : decode cX9_queue 44 = .ok (.ifCond .eq 13, 3) := by decide +kernel
theorem dX9_queue_47 : decode cX9_queue 47 = .ok (.aload_n 0, 1) := by decide +kernel
theorem dX9_queue_48 : decode cX9_queue 48 = .ok (.iload_n 3, 1) := by decide +kernel
theorem dX9_queue_49 : decode cX9_queue 49 = .ok (.iconst 0, 1) := by decide +kernel
theorem dX9_queue_50 : decode cX9_queue 50 = .ok (.iconst 2, 1) := by decide +kernel
theorem dX9_queue_51 : decode cX9_queue 51 = .ok (.invokevirtual 79, 3) := by decide +kernel
theorem dX9_queue_54 : decode cX9_queue 54 = .ok (.ifCond .ne 5, 3) := by decide +kernel
theorem dX9_queue_57 : decode cX9_queue 57 = .ok (.iconst (-1), 1) := by decide +kernel
theorem dX9_queue_58 : decode cX9_queue 58 = .ok (.ireturn, 1) := by decide +kernel
theorem dX9_queue_59 : decode cX9_queue 59 = .ok (.iload_n 3, 1) := by decide +kernel
theorem dX9_queue_60 : decode cX9_queue 60 = .ok (.ifCond .ne 12, 3) := by decide +kernel
theorem dX9_queue_63 : decode cX9_queue 63 = .ok (.aload_n 0, 1) := by decide +kernel
theorem dX9_queue_64 : decode cX9_queue 64 = .ok (.getfield 26, 3) := by decide +kernel
theorem dX9_queue_67 : decode cX9_queue 67 = .ok (.iload_n 2, 1) := by decide +kernel
theorem dX9_queue_68 : decode cX9_queue 68 = .ok (.iaload, 1) := by decide +kernel
theorem dX9_queue_69 : decode cX9_queue 69 = .ok (.goto 23, 3) := by decide +kernel
theorem dX9_queue_72 : decode cX9_queue 72 = .ok (.iload_n 3, 1) := by decide +kernel
theorem dX9_queue_73 : decode cX9_queue 73 = .ok (.iconst 1, 1) := by decide +kernel
theorem dX9_queue_74 : decode cX9_queue 74 = .ok (.if_icmp .ne 12, 3) := by decide +kernel
theorem dX9_queue_77 : decode cX9_queue 77 = .ok (.aload_n 0, 1) := by decide +kernel
theorem dX9_queue_78 : decode cX9_queue 78 = .ok (.getfield 29, 3) := by decide +kernel
theorem dX9_queue_81 : decode cX9_queue 81 = .ok (.iload_n 2, 1) := by decide +kernel
theorem dX9_queue_82 : decode cX9_queue 82 = .ok (.iaload, 1) := by decide +kernel
theorem dX9_queue_83 : decode cX9_queue 83 = .ok (.goto 9, 3) := by decide +kernel
theorem dX9_queue_86 : decode cX9_queue 86 = .ok (.aload_n 0, 1) := by decide +kernel
theorem dX9_queue_87 : decode cX9_queue 87 = .ok (.getfield 32, 3) := by decide +kernel
theorem dX9_queue_90 : decode cX9_queue 90 = .ok (.iload_n 2, 1) := by decide +kernel
theorem dX9_queue_91 : decode cX9_queue 91 = .ok (.iaload, 1) := by decide +kernel
theorem dX9_queue_92 : decode cX9_queue 92 = .ok (.ireturn, 1) := by decide +kernel
theorem dX9_raw_0 : decode cX9_raw 0 = .ok (.iload_n 1, 1) := by decide +kernel
theorem dX9_raw_1 : decode cX9_raw 1 = .ok (.aload_n 0, 1) := by decide +kernel
theorem dX9_raw_2 : decode cX9_raw 2 = .ok (.getfield 344, 3) := by decide +kernel
theorem dX9_raw_5 : decode cX9_raw 5 = .ok (.if_icmp .ge 12, 3) := by decide +kernel
theorem dX9_raw_8 : decode cX9_raw 8 = .ok (.aload_n 0, 1) := by decide +kernel
theorem dX9_raw_9 : decode cX9_raw 9 = .ok (.getfield 39, 3) := by decide +kernel
theorem dX9_raw_12 : decode cX9_raw 12 = .ok (.iload_n 1, 1) := by decide +kernel
theorem dX9_raw_13 : decode cX9_raw 13 = .ok (.iaload, 1) := by decide +kernel
theorem dX9_raw_14 : decode cX9_raw 14 = .ok (.goto 4, 3) := by decide +kernel
theorem dX9_raw_17 : decode cX9_raw 17 = .ok (.iconst (-1), 1) := by decide +kernel
theorem dX9_raw_18 : decode cX9_raw 18 = .ok (.ireturn, 1) := by decide +kernel
theorem dX9_reached_0 : decode cX9_reached 0 = .ok (.aload_n 0, 1) := by decide +kernel
theorem dX9_reached_1 : decode cX9_reached 1 = .ok (.iconst 0, 1) := by decide +kernel
theorem dX9_reached_2 : decode cX9_reached 2 = .ok (.putfield 58, 3) := by decide +kernel
theorem dX9_reached_5 : decode cX9_reached 5 = .ok (.aload_n 0, 1) := by decide +kernel
theorem dX9_reached_6 : decode cX9_reached 6 = .ok (.iload_n 1, 1) := by decide +kernel
theorem dX9_reached_7 : decode cX9_reached 7 = .ok (.invokevirtual 191, 3) := by decide +kernel
theorem dX9_reached_10 : decode cX9_reached 10 = .ok (.ifCond .eq 13, 3) := by decide +kernel
theorem dX9_reached_13 : decode cX9_reached 13 = .ok (.aload_n 0, 1) := by decide +kernel
theorem dX9_reached_14 : decode cX9_reached 14 = .ok (.iload_n 2, 1) := by decide +kernel
theorem dX9_reached_15 : decode cX9_reached 15 = .ok (.iconst 0, 1) := by decide +kernel
theorem dX9_reached_16 : decode cX9_reached 16 = .ok (.iconst 1, 1) := by decide +kernel
theorem dX9_reached_17 : decode cX9_reached 17 = .ok (.invokevirtual 79, 3) := by decide +kernel
theorem dX9_reached_20 : decode cX9_reached 20 = .ok (.ifCond .ne 5, 3) := by decide +kernel
theorem dX9_reached_23 : decode cX9_reached 23 = .ok (.iconst (-1), 1) := by decide +kernel
theorem dX9_reached_24 : decode cX9_reached 24 = .ok (.ireturn, 1) := by decide +kernel
theorem dX9_reached_25 : decode cX9_reached 25 = .ok (.aload_n 0, 1) := by decide +kernel
theorem dX9_reached_26 : decode cX9_reached 26 = .ok (.iload_n 1, 1) := by decide +kernel
theorem dX9_reached_27 : decode cX9_reached 27 = .ok (.aload_n 0, 1) := by decide +kernel
theorem dX9_reached_28 : decode cX9_reached 28 = .ok (.iload_n 1, 1) := by decide +kernel
theorem dX9_reached_29 : decode cX9_reached 29 = .ok (.bipush 7, 2) := by decide +kernel
theorem dX9_reached_31 : decode cX9_reached 31 = .ok (.invokevirtual 151, 3) := by decide +kernel
theorem dX9_reached_34 : decode cX9_reached 34 = .ok (.invokevirtual 229, 3) := by decide +kernel
theorem dX9_reached_37 : decode cX9_reached 37 = .ok (.iload_n 2, 1) := by decide +kernel
theorem dX9_reached_38 : decode cX9_reached 38 = .ok (.ifCond .ne 10, 3) := by decide +kernel
theorem dX9_reached_41 : decode cX9_reached 41 = .ok (.aload_n 0, 1) := by decide +kernel
theorem dX9_reached_42 : decode cX9_reached 42 = .ok (.getfield 223, 3) := by decide +kernel
theorem dX9_reached_45 : decode cX9_reached 45 = .ok (.goto 7, 3) := by decide +kernel
theorem dX9_reached_48 : decode cX9_reached 48 = .ok (.aload_n 0, 1) := by decide +kernel
theorem dX9_reached_49 : decode cX9_reached 49 = .ok (.getfield 220, 3) := by decide +kernel
theorem dX9_reached_52 : decode cX9_reached 52 = .ok (.ireturn, 1) := by decide +kernel
theorem dX9_readLine_0 : decode cX9_readLine 0 = .ok (.aload_n 0, 1) := by decide +kernel
theorem dX9_readLine_1 : decode cX9_readLine 1 = .ok (.getfield 359, 3) := by decide +kernel
theorem dX9_readLine_4 : decode cX9_readLine 4 = .ok (.iconst 2, 1) := by decide +kernel
theorem dX9_readLine_5 : decode cX9_readLine 5 = .ok (.if_icmp .eq 9, 3) := by decide +kernel
theorem dX9_readLine_8 : decode cX9_readLine 8 = .ok (.aload_n 0, 1) := by decide +kernel
theorem dX9_readLine_9 : decode cX9_readLine 9 = .ok (.iconst 1, 1) := by decide +kernel
theorem dX9_readLine_10 : decode cX9_readLine 10 = .ok (.invokevirtual 380, 3) := by decide +kernel
theorem dX9_readLine_13 : decode cX9_readLine 13 = .ok (.ireturn, 1) := by decide +kernel
theorem dX9_readLine_14 : decode cX9_readLine 14 = .ok (.iload_n 1, 1) := by decide +kernel
theorem dX9_readLine_15 : decode cX9_readLine 15 = .ok (.bipush 24, 2) := by decide +kernel
theorem dX9_readLine_17 : decode cX9_readLine 17 = .ok (.if_icmp .ne 9, 3) := by decide +kernel
theorem dX9_readLine_20 : decode cX9_readLine 20 = .ok (.aload_n 0, 1) := by decide +kernel
theorem dX9_readLine_21 : decode cX9_readLine 21 = .ok (.iconst 3, 1) := by decide +kernel
theorem dX9_readLine_22 : decode cX9_readLine 22 = .ok (.invokevirtual 380, 3) := by decide +kernel
theorem dX9_readLine_25 : decode cX9_readLine 25 = .ok (.ireturn, 1) := by decide +kernel
theorem dX9_readLine_26 : decode cX9_readLine 26 = .ok (.sipush 144, 3) := by decide +kernel
theorem dX9_readLine_29 : decode cX9_readLine 29 = .ok (.bipush 6, 2) := by decide +kernel
theorem dX9_readLine_31 : decode cX9_readLine 31 = .ok (.iload_n 1, 1) := by decide +kernel
theorem dX9_readLine_32 : decode cX9_readLine 32 = .ok (.imul, 1) := by decide +kernel
theorem dX9_readLine_33 : decode cX9_readLine 33 = .ok (.iadd, 1) := by decide +kernel
theorem dX9_readLine_34 : decode cX9_readLine 34 = .ok (.istore_n 2, 1) := by decide +kernel
theorem dX9_readLine_35 : decode cX9_readLine 35 = .ok (.aload_n 0, 1) := by decide +kernel
theorem dX9_readLine_36 : decode cX9_readLine 36 = .ok (.getfield 362, 3) := by decide +kernel
theorem dX9_readLine_39 : decode cX9_readLine 39 = .ok (.istore_n 3, 1) := by decide +kernel
theorem dX9_readLine_40 : decode cX9_readLine 40 = .ok (.aload_n 0, 1) := by decide +kernel
theorem dX9_readLine_41 : decode cX9_readLine 41 = .ok (.getfield 49, 3) := by decide +kernel
theorem dX9_readLine_44 : decode cX9_readLine 44 = .ok (.iload_n 2, 1) := by decide +kernel
theorem dX9_readLine_45 : decode cX9_readLine 45 = .ok (.iload_n 3, 1) := by decide +kernel
theorem dX9_readLine_46 : decode cX9_readLine 46 = .ok (.iastore, 1) := by decide +kernel
theorem dX9_readLine_47 : decode cX9_readLine 47 = .ok (.aload_n 0, 1) := by decide +kernel
theorem dX9_readLine_48 : decode cX9_readLine 48 = .ok (.invokevirtual 383, 3) := by decide +kernel
theorem dX9_readLine_51 : decode cX9_readLine 51 = .ok (.iconst 0, 1) := by decide +kernel
theorem dX9_readLine_52 : decode cX9_readLine 52 = .ok (.istore 4, 2) := by decide +kernel
theorem dX9_readLine_54 : decode cX9_readLine 54 = .ok (.iload 4, 2) := by decide +kernel
theorem dX9_readLine_56 : decode cX9_readLine 56 = .ok (.aload_n 0, 1) := by decide +kernel
theorem dX9_readLine_57 : decode cX9_readLine 57 = .ok (.iload_n 3, 1) := by decide +kernel
theorem dX9_readLine_58 : decode cX9_readLine 58 = .ok (.invokevirtual 386, 3) := by decide +kernel
theorem dX9_readLine_61 : decode cX9_readLine 61 = .ok (.if_icmp .ge 55, 3) := by decide +kernel
theorem dX9_readLine_64 : decode cX9_readLine 64 = .ok (.aload_n 0, 1) := by decide +kernel
theorem dX9_readLine_65 : decode cX9_readLine 65 = .ok (.getfield 49, 3) := by decide +kernel
theorem dX9_readLine_68 : decode cX9_readLine 68 = .ok (.iload_n 2, 1) := by decide +kernel
theorem dX9_readLine_69 : decode cX9_readLine 69 = .ok (.iconst 1, 1) := by decide +kernel
theorem dX9_readLine_70 : decode cX9_readLine 70 = .ok (.iadd, 1) := by decide +kernel
theorem dX9_readLine_71 : decode cX9_readLine 71 = .ok (.iload 4, 2) := by decide +kernel
theorem dX9_readLine_73 : decode cX9_readLine 73 = .ok (.iadd, 1) := by decide +kernel
theorem dX9_readLine_74 : decode cX9_readLine 74 = .ok (.aload_n 0, 1) := by decide +kernel
theorem dX9_readLine_75 : decode cX9_readLine 75 = .ok (.aload_n 0, 1) := by decide +kernel
theorem dX9_readLine_76 : decode cX9_readLine 76 = .ok (.iload_n 3, 1) := by decide +kernel
theorem dX9_readLine_77 : decode cX9_readLine 77 = .ok (.iload 4, 2) := by decide +kernel
theorem dX9_readLine_79 : decode cX9_readLine 79 = .ok (.invokevirtual 389, 3) := by decide +kernel
theorem dX9_readLine_82 : decode cX9_readLine 82 = .ok (.aload_n 0, 1) := by decide +kernel
theorem dX9_readLine_83 : decode cX9_readLine 83 = .ok (.iload_n 3, 1) := by decide +kernel
theorem dX9_readLine_84 : decode cX9_readLine 84 = .ok (.iload 4, 2) := by decide +kernel
theorem dX9_readLine_86 : decode cX9_readLine 86 = .ok (.invokevirtual 392, 3) := by decide +kernel
theorem dX9_readLine_89 : decode cX9_readLine 89 = .ok (.invokevirtual 395, 3) := by decide +kernel
theorem dX9_readLine_92 : decode cX9_readLine 92 = .ok (.iastore, 1) := by decide +kernel
theorem dX9_readLine_93 : decode cX9_readLine 93 = .ok (.aload_n 0, 1) := by decide +kernel
theorem dX9_readLine_94 : decode cX9_readLine 94 = .ok (.getfield 49, 3) := by decide +kernel
theorem dX9_readLine_97 : decode cX9_readLine 97 = .ok (.iload_n 2, 1) := by decide +kernel
theorem dX9_readLine_98 : decode cX9_readLine 98 = .ok (.iconst 1, 1) := by decide +kernel
theorem dX9_readLine_99 : decode cX9_readLine 99 = .ok (.iadd, 1) := by decide +kernel
theorem dX9_readLine_100 : decode cX9_readLine 100 = .ok (.iload 4, 2) := by decide +kernel
theorem dX9_readLine_102 : decode cX9_readLine 102 = .ok (.iadd, 1) := by decide +kernel
theorem dX9_readLine_103 : decode cX9_readLine 103 = .ok (.iaload, 1) := by decide +kernel
theorem dX9_readLine_104 : decode cX9_readLine 104 = .ok (.iconst (-1), 1) := by decide +kernel
theorem dX9_readLine_105 : decode cX9_readLine 105 = .ok (.if_icmp .ne 5, 3) := by decide +kernel
theorem dX9_readLine_108 : decode cX9_readLine 108 = .ok (.iconst (-1), 1) := by decide +kernel
theorem dX9_readLine_109 : decode cX9_readLine 109 = .ok (.ireturn, 1) := by decide +kernel
theorem dX9_readLine_110 : decode cX9_readLine 110 = .ok (.iinc 4 1, 3) := by decide +kernel
theorem dX9_readLine_113 : decode cX9_readLine 113 = .ok (.goto (-59), 3) := by decide +kernel
theorem dX9_readLine_116 : decode cX9_readLine 116 = .ok (.aload_n 0, 1) := by decide +kernel
theorem dX9_readLine_117 : decode cX9_readLine 117 = .ok (.getfield 359, 3) := by decide +kernel
theorem dX9_readLine_120 : decode cX9_readLine 120 = .ok (.iconst 4, 1) := by decide +kernel
theorem dX9_readLine_121 : decode cX9_readLine 121 = .ok (.if_icmp .eq 9, 3) := by decide +kernel
theorem dX9_readLine_124 : decode cX9_readLine 124 = .ok (.aload_n 0, 1) := by decide +kernel
theorem dX9_readLine_125 : decode cX9_readLine 125 = .ok (.iconst 1, 1) := by decide +kernel
theorem dX9_readLine_126 : decode cX9_readLine 126 = .ok (.invokevirtual 380, 3) := by decide +kernel
theorem dX9_readLine_129 : decode cX9_readLine 129 = .ok (.ireturn, 1) := by decide +kernel
theorem dX9_readLine_130 : decode cX9_readLine 130 = .ok (.aload_n 0, 1) := by decide +kernel
theorem dX9_readLine_131 : decode cX9_readLine 131 = .ok (.invokevirtual 383, 3) := by decide +kernel
theorem dX9_readLine_134 : decode cX9_readLine 134 = .ok (.iconst 0, 1) := by decide +kernel
theorem dX9_readLine_135 : decode cX9_readLine 135 = .ok (.ireturn, 1) := by decide +kernel
theorem dX9_readNumber_0 : decode cX9_readNumber 0 = .ok (.aload_n 0, 1) := by decide +kernel
theorem dX9_readNumber_1 : decode cX9_readNumber 1 = .ok (.getfield 359, 3) := by decide +kernel
theorem dX9_readNumber_4 : decode cX9_readNumber 4 = .ok (.iconst 3, 1) := by decide +kernel
theorem dX9_readNumber_5 : decode cX9_readNumber 5 = .ok (.if_icmp .eq 9, 3) := by decide +kernel
theorem dX9_readNumber_8 : decode cX9_readNumber 8 = .ok (.aload_n 0, 1) := by decide +kernel
theorem dX9_readNumber_9 : decode cX9_readNumber 9 = .ok (.iconst 1, 1) := by decide +kernel
theorem dX9_readNumber_10 : decode cX9_readNumber 10 = .ok (.invokevirtual 380, 3) := by decide +kernel
theorem dX9_readNumber_13 : decode cX9_readNumber 13 = .ok (.ireturn, 1) := by decide +kernel
theorem dX9_readNumber_14 : decode cX9_readNumber 14 = .ok (.aload_n 0, 1) := by decide +kernel
theorem dX9_readNumber_15 : decode cX9_readNumber 15 = .ok (.aload_n 0, 1) := by decide +kernel
theorem dX9_readNumber_16 : decode cX9_readNumber 16 = .ok (.getfield 362, 3) := by decide +kernel
theorem dX9_readNumber_19 : decode cX9_readNumber 19 = .ok (.iload_n 1, 1) := by decide +kernel
theorem dX9_readNumber_20 : decode cX9_readNumber 20 = .ok (.iload_n 2, 1) := by decide +kernel
theorem dX9_readNumber_21 : decode cX9_readNumber 21 = .ok (.invokevirtual 79, 3) := by decide +kernel
theorem dX9_readNumber_24 : decode cX9_readNumber 24 = .ok (.ifCond .ne 9, 3) := by decide +kernel
theorem dX9_readNumber_27 : decode cX9_readNumber 27 = .ok (.aload_n 0, 1) := by decide +kernel
theorem dX9_readNumber_28 : decode cX9_readNumber 28 = .ok (.iconst 2, 1) := by decide +kernel
theorem dX9_readNumber_29 : decode cX9_readNumber 29 = .ok (.invokevirtual 380, 3) := by decide +kernel
theorem dX9_readNumber_32 : decode cX9_readNumber 32 = .ok (.ireturn, 1) := by decide +kernel
theorem dX9_readNumber_33 : decode cX9_readNumber 33 = .ok (.aload_n 0, 1) := by decide +kernel
theorem dX9_readNumber_34 : decode cX9_readNumber 34 = .ok (.getfield 362, 3) := by decide +kernel
theorem dX9_readNumber_37 : decode cX9_readNumber 37 = .ok (.istore_n 3, 1) := by decide +kernel
theorem dX9_readNumber_38 : decode cX9_readNumber 38 = .ok (.aload_n 0, 1) := by decide +kernel
theorem dX9_readNumber_39 : decode cX9_readNumber 39 = .ok (.invokevirtual 383, 3) := by decide +kernel
theorem dX9_readNumber_42 : decode cX9_readNumber 42 = .ok (.iload_n 3, 1) := by decide +kernel
theorem dX9_readNumber_43 : decode cX9_readNumber 43 = .ok (.ireturn, 1) := by decide +kernel
theorem dX9_readPlan_0 : decode cX9_readPlan 0 = .ok (.iconst 0, 1) := by decide +kernel
theorem dX9_readPlan_1 : decode cX9_readPlan 1 = .ok (.istore_n 1, 1) := by decide +kernel
theorem dX9_readPlan_2 : decode cX9_readPlan 2 = .ok (.aload_n 0, 1) := by decide +kernel
theorem dX9_readPlan_3 : decode cX9_readPlan 3 = .ok (.iconst 0, 1) := by decide +kernel
theorem dX9_readPlan_4 : decode cX9_readPlan 4 = .ok (.putfield 350, 3) := by decide +kernel
theorem dX9_readPlan_7 : decode cX9_readPlan 7 = .ok (.aload_n 0, 1) := by decide +kernel
theorem dX9_readPlan_8 : decode cX9_readPlan 8 = .ok (.invokevirtual 383, 3) := by decide +kernel
theorem dX9_readPlan_11 : decode cX9_readPlan 11 = .ok (.aload_n 0, 1) := by decide +kernel
theorem dX9_readPlan_12 : decode cX9_readPlan 12 = .ok (.getfield 359, 3) := by decide +kernel
theorem dX9_readPlan_15 : decode cX9_readPlan 15 = .ok (.ifCond .eq 21, 3) := by decide +kernel
theorem dX9_readPlan_18 : decode cX9_readPlan 18 = .ok (.aload_n 0, 1) := by decide +kernel
theorem dX9_readPlan_19 : decode cX9_readPlan 19 = .ok (.iload_n 1, 1) := by decide +kernel
theorem dX9_readPlan_20 : decode cX9_readPlan 20 = .ok (.invokevirtual 398, 3) := by decide +kernel
theorem dX9_readPlan_23 : decode cX9_readPlan 23 = .ok (.iconst (-1), 1) := by decide +kernel
theorem dX9_readPlan_24 : decode cX9_readPlan 24 = .ok (.if_icmp .ne 5, 3) := by decide +kernel
theorem dX9_readPlan_27 : decode cX9_readPlan 27 = .ok (.iconst (-1), 1) := by decide +kernel
theorem dX9_readPlan_28 : decode cX9_readPlan 28 = .ok (.ireturn, 1) := by decide +kernel
theorem dX9_readPlan_29 : decode cX9_readPlan 29 = .ok (.iload_n 1, 1) := by decide +kernel
theorem dX9_readPlan_30 : decode cX9_readPlan 30 = .ok (.iconst 1, 1) := by decide +kernel
theorem dX9_readPlan_31 : decode cX9_readPlan 31 = .ok (.iadd, 1) := by decide +kernel
theorem dX9_readPlan_32 : decode cX9_readPlan 32 = .ok (.istore_n 1, 1) := by decide +kernel
theorem dX9_readPlan_33 : decode cX9_readPlan 33 = .ok (.goto (-22), 3) := by decide +kernel
theorem dX9_readPlan_36 : decode cX9_readPlan 36 = .ok (.iload_n 1, 1) := by decide +kernel
theorem dX9_readPlan_37 : decode cX9_readPlan 37 = .ok (.ireturn, 1) := by decide +kernel
theorem dX9_reads_0 : decode cX9_reads 0 = .ok (.aload_n 0, 1) := by decide +kernel
theorem dX9_reads_1 : decode cX9_reads 1 = .ok (.aload_n 0, 1) := by decide +kernel
theorem dX9_reads_2 : decode cX9_reads 2 = .ok (.getfield 350, 3) := by decide +kernel
theorem dX9_reads_5 : decode cX9_reads 5 = .ok (.invokevirtual 353, 3) := by decide +kernel
theorem dX9_reads_8 : decode cX9_reads 8 = .ok (.bipush 32, 2) := by decide +kernel
theorem dX9_reads_10 : decode cX9_reads 10 = .ok (.if_icmp .eq 16, 3) := by decide +kernel
theorem dX9_reads_13 : decode cX9_reads 13 = .ok (.aload_n 0, 1) := by decide +kernel
theorem dX9_reads_14 : decode cX9_reads 14 = .ok (.aload_n 0, 1) := by decide +kernel
theorem dX9_reads_15 : decode cX9_reads 15 = .ok (.getfield 350, 3) := by decide +kernel
theorem dX9_reads_18 : decode cX9_reads 18 = .ok (.invokevirtual 353, 3) := by decide +kernel
theorem dX9_reads_21 : decode cX9_reads 21 = .ok (.bipush 10, 2) := by decide +kernel
theorem dX9_reads_23 : decode cX9_reads 23 = .ok (.if_icmp .ne 16, 3) := by decide +kernel
theorem dX9_reads_26 : decode cX9_reads 26 = .ok (.aload_n 0, 1) := by decide +kernel
theorem dX9_reads_27 : decode cX9_reads 27 = .ok (.aload_n 0, 1) := by decide +kernel
theorem dX9_reads_28 : decode cX9_reads 28 = .ok (.getfield 350, 3) := by decide +kernel
theorem dX9_reads_31 : decode cX9_reads 31 = .ok (.iconst 1, 1) := by decide +kernel
theorem dX9_reads_32 : decode cX9_reads 32 = .ok (.iadd, 1) := by decide +kernel
theorem dX9_reads_33 : decode cX9_reads 33 = .ok (.putfield 350, 3) := by decide +kernel
theorem dX9_reads_36 : decode cX9_reads 36 = .ok (.goto (-36), 3) := by decide +kernel
theorem dX9_reads_39 : decode cX9_reads 39 = .ok (.aload_n 0, 1) := by decide +kernel
theorem dX9_reads_40 : decode cX9_reads 40 = .ok (.aload_n 0, 1) := by decide +kernel
theorem dX9_reads_41 : decode cX9_reads 41 = .ok (.getfield 350, 3) := by decide +kernel
theorem dX9_reads_44 : decode cX9_reads 44 = .ok (.putfield 356, 3) := by decide +kernel
theorem dX9_reads_47 : decode cX9_reads 47 = .ok (.aload_n 0, 1) := by decide +kernel
theorem dX9_reads_48 : decode cX9_reads 48 = .ok (.iconst 1, 1) := by decide +kernel
theorem dX9_reads_49 : decode cX9_reads 49 = .ok (.putfield 359, 3) := by decide +kernel
theorem dX9_reads_52 : decode cX9_reads 52 = .ok (.aload_n 0, 1) := by decide +kernel
theorem dX9_reads_53 : decode cX9_reads 53 = .ok (.aload_n 0, 1) := by decide +kernel
theorem dX9_reads_54 : decode cX9_reads 54 = .ok (.getfield 350, 3) := by decide +kernel
theorem dX9_reads_57 : decode cX9_reads 57 = .ok (.invokevirtual 353, 3) := by decide +kernel
theorem dX9_reads_60 : decode cX9_reads 60 = .ok (.istore_n 1, 1) := by decide +kernel
theorem dX9_reads_61 : decode cX9_reads 61 = .ok (.iload_n 1, 1) := by decide +kernel
theorem dX9_reads_62 : decode cX9_reads 62 = .ok (.iconst (-1), 1) := by decide +kernel
theorem dX9_reads_63 : decode cX9_reads 63 = .ok (.if_icmp .ne 9, 3) := by decide +kernel
theorem dX9_reads_66 : decode cX9_reads 66 = .ok (.aload_n 0, 1) := by decide +kernel
theorem dX9_reads_67 : decode cX9_reads 67 = .ok (.iconst 0, 1) := by decide +kernel
theorem dX9_reads_68 : decode cX9_reads 68 = .ok (.putfield 359, 3) := by decide +kernel
theorem dX9_reads_71 : decode cX9_reads 71 = .ok (.return_, 1) := by decide +kernel
theorem dX9_reads_72 : decode cX9_reads 72 = .ok (.aload_n 0, 1) := by decide +kernel
theorem dX9_reads_73 : decode cX9_reads 73 = .ok (.aload_n 0, 1) := by decide +kernel
theorem dX9_reads_74 : decode cX9_reads 74 = .ok (.getfield 350, 3) := by decide +kernel
theorem dX9_reads_77 : decode cX9_reads 77 = .ok (.iconst 1, 1) := by decide +kernel
theorem dX9_reads_78 : decode cX9_reads 78 = .ok (.iadd, 1) := by decide +kernel
theorem dX9_reads_79 : decode cX9_reads 79 = .ok (.putfield 350, 3) := by decide +kernel
theorem dX9_reads_82 : decode cX9_reads 82 = .ok (.aload_n 0, 1) := by decide +kernel
theorem dX9_reads_83 : decode cX9_reads 83 = .ok (.iload_n 1, 1) := by decide +kernel
theorem dX9_reads_84 : decode cX9_reads 84 = .ok (.putfield 362, 3) := by decide +kernel
theorem dX9_reads_87 : decode cX9_reads 87 = .ok (.aload_n 0, 1) := by decide +kernel
theorem dX9_reads_88 : decode cX9_reads 88 = .ok (.iload_n 1, 1) := by decide +kernel
theorem dX9_reads_89 : decode cX9_reads 89 = .ok (.invokevirtual 365, 3) := by decide +kernel
theorem dX9_reads_92 : decode cX9_reads 92 = .ok (.ifCond .eq 63, 3) := by decide +kernel
theorem dX9_reads_95 : decode cX9_reads 95 = .ok (.aload_n 0, 1) := by decide +kernel
theorem dX9_reads_96 : decode cX9_reads 96 = .ok (.aload_n 0, 1) := by decide +kernel
theorem dX9_reads_97 : decode cX9_reads 97 = .ok (.aload_n 0, 1) := by decide +kernel
theorem dX9_reads_98 : decode cX9_reads 98 = .ok (.getfield 350, 3) := by decide +kernel
theorem dX9_reads_101 : decode cX9_reads 101 = .ok (.invokevirtual 353, 3) := by decide +kernel
theorem dX9_reads_104 : decode cX9_reads 104 = .ok (.invokevirtual 365, 3) := by decide +kernel
theorem dX9_reads_107 : decode cX9_reads 107 = .ok (.ifCond .eq 16, 3) := by decide +kernel
theorem dX9_reads_110 : decode cX9_reads 110 = .ok (.aload_n 0, 1) := by decide +kernel
theorem dX9_reads_111 : decode cX9_reads 111 = .ok (.aload_n 0, 1) := by decide +kernel
theorem dX9_reads_112 : decode cX9_reads 112 = .ok (.getfield 350, 3) := by decide +kernel
theorem dX9_reads_115 : decode cX9_reads 115 = .ok (.iconst 1, 1) := by decide +kernel
theorem dX9_reads_116 : decode cX9_reads 116 = .ok (.iadd, 1) := by decide +kernel
theorem dX9_reads_117 : decode cX9_reads 117 = .ok (.putfield 350, 3) := by decide +kernel
theorem dX9_reads_120 : decode cX9_reads 120 = .ok (.goto (-25), 3) := by decide +kernel
theorem dX9_reads_123 : decode cX9_reads 123 = .ok (.aload_n 0, 1) := by decide +kernel
theorem dX9_reads_124 : decode cX9_reads 124 = .ok (.aload_n 0, 1) := by decide +kernel
theorem dX9_reads_125 : decode cX9_reads 125 = .ok (.aload_n 0, 1) := by decide +kernel
theorem dX9_reads_126 : decode cX9_reads 126 = .ok (.getfield 356, 3) := by decide +kernel
theorem dX9_reads_129 : decode cX9_reads 129 = .ok (.aload_n 0, 1) := by decide +kernel
theorem dX9_reads_130 : decode cX9_reads 130 = .ok (.getfield 350, 3) := by decide +kernel
theorem dX9_reads_133 : decode cX9_reads 133 = .ok (.invokevirtual 368, 3) := by decide +kernel
theorem dX9_reads_136 : decode cX9_reads 136 = .ok (.putfield 362, 3) := by decide +kernel
theorem dX9_reads_139 : decode cX9_reads 139 = .ok (.aload_n 0, 1) := by decide +kernel
theorem dX9_reads_140 : decode cX9_reads 140 = .ok (.getfield 362, 3) := by decide +kernel
theorem dX9_reads_143 : decode cX9_reads 143 = .ok (.iconst (-1), 1) := by decide +kernel
theorem dX9_reads_144 : decode cX9_reads 144 = .ok (.if_icmp .eq 127, 3) := by decide +kernel
theorem dX9_reads_147 : decode cX9_reads 147 = .ok (.aload_n 0, 1) := by decide +kernel
theorem dX9_reads_148 : decode cX9_reads 148 = .ok (.iconst 2, 1) := by decide +kernel
theorem dX9_reads_149 : decode cX9_reads 149 = .ok (.putfield 359, 3) := by decide +kernel
theorem dX9_reads_152 : decode cX9_reads 152 = .ok (.goto 119, 3) := by decide +kernel
theorem dX9_reads_155 : decode cX9_reads 155 = .ok (.aload_n 0, 1) := by decide +kernel
theorem dX9_reads_156 : decode cX9_reads 156 = .ok (.iload_n 1, 1) := by decide +kernel
theorem dX9_reads_157 : decode cX9_reads 157 = .ok (.invokevirtual 371, 3) := by decide +kernel
theorem dX9_reads_160 : decode cX9_reads 160 = .ok (.ifCond .eq 100, 3) := by decide +kernel
theorem dX9_reads_163 : decode cX9_reads 163 = .ok (.aload_n 0, 1) := by decide +kernel
theorem dX9_reads_164 : decode cX9_reads 164 = .ok (.iload_n 1, 1) := by decide +kernel
theorem dX9_reads_165 : decode cX9_reads 165 = .ok (.bipush 48, 2) := by decide +kernel
theorem dX9_reads_167 : decode cX9_reads 167 = .ok (.isub, 1) := by decide +kernel
theorem dX9_reads_168 : decode cX9_reads 168 = .ok (.putfield 362, 3) := by decide +kernel
theorem dX9_reads_171 : decode cX9_reads 171 = .ok (.aload_n 0, 1) := by decide +kernel
theorem dX9_reads_172 : decode cX9_reads 172 = .ok (.aload_n 0, 1) := by decide +kernel
theorem dX9_reads_173 : decode cX9_reads 173 = .ok (.aload_n 0, 1) := by decide +kernel
theorem dX9_reads_174 : decode cX9_reads 174 = .ok (.getfield 350, 3) := by decide +kernel
theorem dX9_reads_177 : decode cX9_reads 177 = .ok (.invokevirtual 353, 3) := by decide +kernel
theorem dX9_reads_180 : decode cX9_reads 180 = .ok (.invokevirtual 371, 3) := by decide +kernel
theorem dX9_reads_183 : decode cX9_reads 183 = .ok (.ifCond .eq 56, 3) := by decide +kernel
theorem dX9_reads_186 : decode cX9_reads 186 = .ok (.aload_n 0, 1) := by decide +kernel
theorem dX9_reads_187 : decode cX9_reads 187 = .ok (.aload_n 0, 1) := by decide +kernel
theorem dX9_reads_188 : decode cX9_reads 188 = .ok (.getfield 362, 3) := by decide +kernel
theorem dX9_reads_191 : decode cX9_reads 191 = .ok (.sipush 10000, 3) := by decide +kernel
theorem dX9_reads_194 : decode cX9_reads 194 = .ok (.if_icmp .ge 25, 3) := by decide +kernel
theorem dX9_reads_197 : decode cX9_reads 197 = .ok (.bipush 10, 2) := by decide +kernel
theorem dX9_reads_199 : decode cX9_reads 199 = .ok (.aload_n 0, 1) := by decide +kernel
theorem dX9_reads_200 : decode cX9_reads 200 = .ok (.getfield 362, 3) := by decide +kernel
theorem dX9_reads_203 : decode cX9_reads 203 = .ok (.imul, 1) := by decide +kernel
theorem dX9_reads_204 : decode cX9_reads 204 = .ok (.aload_n 0, 1) := by decide +kernel
theorem dX9_reads_205 : decode cX9_reads 205 = .ok (.aload_n 0, 1) := by decide +kernel
theorem dX9_reads_206 : decode cX9_reads 206 = .ok (.getfield 350, 3) := by decide +kernel
theorem dX9_reads_209 : decode cX9_reads 209 = .ok (.invokevirtual 353, 3) := by decide +kernel
theorem dX9_reads_212 : decode cX9_reads 212 = .ok (.iadd, 1) := by decide +kernel
theorem dX9_reads_213 : decode cX9_reads 213 = .ok (.bipush 48, 2) := by decide +kernel
theorem dX9_reads_215 : decode cX9_reads 215 = .ok (.isub, 1) := by decide +kernel
theorem dX9_reads_216 : decode cX9_reads 216 = .ok (.goto 7, 3) := by decide +kernel
theorem dX9_reads_219 : decode cX9_reads 219 = .ok (.aload_n 0, 1) := by decide +kernel
theorem dX9_reads_220 : decode cX9_reads 220 = .ok (.getfield 362, 3) := by decide +kernel
theorem dX9_reads_223 : decode cX9_reads 223 = .ok (.putfield 362, 3) := by decide +kernel
theorem dX9_reads_226 : decode cX9_reads 226 = .ok (.aload_n 0, 1) := by decide +kernel
theorem dX9_reads_227 : decode cX9_reads 227 = .ok (.aload_n 0, 1) := by decide +kernel
theorem dX9_reads_228 : decode cX9_reads 228 = .ok (.getfield 350, 3) := by decide +kernel
theorem dX9_reads_231 : decode cX9_reads 231 = .ok (.iconst 1, 1) := by decide +kernel
theorem dX9_reads_232 : decode cX9_reads 232 = .ok (.iadd, 1) := by decide +kernel
theorem dX9_reads_233 : decode cX9_reads 233 = .ok (.putfield 350, 3) := by decide +kernel
theorem dX9_reads_236 : decode cX9_reads 236 = .ok (.goto (-65), 3) := by decide +kernel
theorem dX9_reads_239 : decode cX9_reads 239 = .ok (.aload_n 0, 1) := by decide +kernel
theorem dX9_reads_240 : decode cX9_reads 240 = .ok (.getfield 350, 3) := by decide +kernel
theorem dX9_reads_243 : decode cX9_reads 243 = .ok (.aload_n 0, 1) := by decide +kernel
theorem dX9_reads_244 : decode cX9_reads 244 = .ok (.getfield 356, 3) := by decide +kernel
theorem dX9_reads_247 : decode cX9_reads 247 = .ok (.isub, 1) := by decide +kernel
theorem dX9_reads_248 : decode cX9_reads 248 = .ok (.iconst 5, 1) := by decide +kernel
theorem dX9_reads_249 : decode cX9_reads 249 = .ok (.if_icmp .ge 22, 3) := by decide +kernel
theorem dX9_reads_252 : decode cX9_reads 252 = .ok (.aload_n 0, 1) := by decide +kernel
theorem dX9_reads_253 : decode cX9_reads 253 = .ok (.iconst 3, 1) := by decide +kernel
theorem dX9_reads_254 : decode cX9_reads 254 = .ok (.putfield 359, 3) := by decide +kernel
theorem dX9_reads_257 : decode cX9_reads 257 = .ok (.goto 14, 3) := by decide +kernel
theorem dX9_reads_260 : decode cX9_reads 260 = .ok (.iload_n 1, 1) := by decide +kernel
theorem dX9_reads_261 : decode cX9_reads 261 = .ok (.bipush 59, 2) := by decide +kernel
theorem dX9_reads_263 : decode cX9_reads 263 = .ok (.if_icmp .ne 8, 3) := by decide +kernel
theorem dX9_reads_266 : decode cX9_reads 266 = .ok (.aload_n 0, 1) := by decide +kernel
theorem dX9_reads_267 : decode cX9_reads 267 = .ok (.iconst 4, 1) := by decide +kernel
theorem dX9_reads_268 : decode cX9_reads 268 = .ok (.putfield 359, 3) := by decide +kernel
theorem dX9_reads_271 : decode cX9_reads 271 = .ok (.return_, 1) := by decide +kernel
theorem dX9_run_0 : decode cX9_run 0 = .ok (.aload_n 0, 1) := by decide +kernel
theorem dX9_run_1 : decode cX9_run 1 = .ok (.iconst 0, 1) := by decide +kernel
theorem dX9_run_2 : decode cX9_run 2 = .ok (.putfield 58, 3) := by decide +kernel
theorem dX9_run_5 : decode cX9_run 5 = .ok (.aload_n 0, 1) := by decide +kernel
theorem dX9_run_6 : decode cX9_run 6 = .ok (.iload_n 1, 1) := by decide +kernel
theorem dX9_run_7 : decode cX9_run 7 = .ok (.iconst 1, 1) := by decide +kernel
theorem dX9_run_8 : decode cX9_run 8 = .ok (.bipush 24, 2) := by decide +kernel
theorem dX9_run_10 : decode cX9_run 10 = .ok (.invokevirtual 79, 3) := by decide +kernel
theorem dX9_run_13 : decode cX9_run 13 = .ok (.ifCond .ne 5, 3) := by decide +kernel
theorem dX9_run_16 : decode cX9_run 16 = .ok (.iconst (-1), 1) := by decide +kernel
theorem dX9_run_17 : decode cX9_run 17 = .ok (.ireturn, 1) := by decide +kernel
theorem dX9_run_18 : decode cX9_run 18 = .ok (.iconst 0, 1) := by decide +kernel
theorem dX9_run_19 : decode cX9_run 19 = .ok (.istore_n 2, 1) := by decide +kernel
theorem dX9_run_20 : decode cX9_run 20 = .ok (.iconst 0, 1) := by decide +kernel
theorem dX9_run_21 : decode cX9_run 21 = .ok (.istore_n 3, 1) := by decide +kernel
theorem dX9_run_22 : decode cX9_run 22 = .ok (.iload_n 3, 1) := by decide +kernel
theorem dX9_run_23 : decode cX9_run 23 = .ok (.iload_n 1, 1) := by decide +kernel
theorem dX9_run_24 : decode cX9_run 24 = .ok (.if_icmp .ge 60, 3) := by decide +kernel
theorem dX9_run_27 : decode cX9_run 27 = .ok (.aload_n 0, 1) := by decide +kernel
theorem dX9_run_28 : decode cX9_run 28 = .ok (.getfield 7, 3) := by decide +kernel
theorem dX9_run_31 : decode cX9_run 31 = .ok (.bipush 10, 2) := by decide +kernel
theorem dX9_run_33 : decode cX9_run 33 = .ok (.iaload, 1) := by decide +kernel
theorem dX9_run_34 : decode cX9_run 34 = .ok (.aload_n 0, 1) := by decide +kernel
theorem dX9_run_35 : decode cX9_run 35 = .ok (.getfield 407, 3) := by decide +kernel
theorem dX9_run_38 : decode cX9_run 38 = .ok (.if_icmp .ge 46, 3) := by decide +kernel
theorem dX9_run_41 : decode cX9_run 41 = .ok (.aload_n 0, 1) := by decide +kernel
theorem dX9_run_42 : decode cX9_run 42 = .ok (.bipush 6, 2) := by decide +kernel
theorem dX9_run_44 : decode cX9_run 44 = .ok (.aload_n 0, 1) := by decide +kernel
theorem dX9_run_45 : decode cX9_run 45 = .ok (.getfield 7, 3) := by decide +kernel
theorem dX9_run_48 : decode cX9_run 48 = .ok (.bipush 10, 2) := by decide +kernel
theorem dX9_run_50 : decode cX9_run 50 = .ok (.iaload, 1) := by decide +kernel
theorem dX9_run_51 : decode cX9_run 51 = .ok (.imul, 1) := by decide +kernel
theorem dX9_run_52 : decode cX9_run 52 = .ok (.invokevirtual 426, 3) := by decide +kernel
theorem dX9_run_55 : decode cX9_run 55 = .ok (.ifCond .eq 7, 3) := by decide +kernel
theorem dX9_run_58 : decode cX9_run 58 = .ok (.iload_n 2, 1) := by decide +kernel
theorem dX9_run_59 : decode cX9_run 59 = .ok (.iconst 1, 1) := by decide +kernel
theorem dX9_run_60 : decode cX9_run 60 = .ok (.iadd, 1) := by decide +kernel
theorem dX9_run_61 : decode cX9_run 61 = .ok (.istore_n 2, 1) := by decide +kernel
theorem dX9_run_62 : decode cX9_run 62 = .ok (.aload_n 0, 1) := by decide +kernel
theorem dX9_run_63 : decode cX9_run 63 = .ok (.getfield 7, 3) := by decide +kernel
theorem dX9_run_66 : decode cX9_run 66 = .ok (.bipush 10, 2) := by decide +kernel
theorem dX9_run_68 : decode cX9_run 68 = .ok (.aload_n 0, 1) := by decide +kernel
theorem dX9_run_69 : decode cX9_run 69 = .ok (.getfield 7, 3) := by decide +kernel
theorem dX9_run_72 : decode cX9_run 72 = .ok (.bipush 10, 2) := by decide +kernel
theorem dX9_run_74 : decode cX9_run 74 = .ok (.iaload, 1) := by decide +kernel
theorem dX9_run_75 : decode cX9_run 75 = .ok (.iconst 1, 1) := by decide +kernel
theorem dX9_run_76 : decode cX9_run 76 = .ok (.iadd, 1) := by decide +kernel
theorem dX9_run_77 : decode cX9_run 77 = .ok (.iastore, 1) := by decide +kernel
theorem dX9_run_78 : decode cX9_run 78 = .ok (.iinc 3 1, 3) := by decide +kernel
theorem dX9_run_81 : decode cX9_run 81 = .ok (.goto (-59), 3) := by decide +kernel
theorem dX9_run_84 : decode cX9_run 84 = .ok (.iload_n 2, 1) := by decide +kernel
theorem dX9_run_85 : decode cX9_run 85 = .ok (.ireturn, 1) := by decide +kernel
theorem dX9_runsLine_0 : decode cX9_runsLine 0 = .ok (.aload_n 0, 1) := by decide +kernel
theorem dX9_runsLine_1 : decode cX9_runsLine 1 = .ok (.getfield 49, 3) := by decide +kernel
theorem dX9_runsLine_4 : decode cX9_runsLine 4 = .ok (.iload_n 1, 1) := by decide +kernel
theorem dX9_runsLine_5 : decode cX9_runsLine 5 = .ok (.iaload, 1) := by decide +kernel
theorem dX9_runsLine_6 : decode cX9_runsLine 6 = .ok (.istore_n 2, 1) := by decide +kernel
theorem dX9_runsLine_7 : decode cX9_runsLine 7 = .ok (.aload_n 0, 1) := by decide +kernel
theorem dX9_runsLine_8 : decode cX9_runsLine 8 = .ok (.getfield 49, 3) := by decide +kernel
theorem dX9_runsLine_11 : decode cX9_runsLine 11 = .ok (.iload_n 1, 1) := by decide +kernel
theorem dX9_runsLine_12 : decode cX9_runsLine 12 = .ok (.iconst 1, 1) := by decide +kernel
theorem dX9_runsLine_13 : decode cX9_runsLine 13 = .ok (.iadd, 1) := by decide +kernel
theorem dX9_runsLine_14 : decode cX9_runsLine 14 = .ok (.iaload, 1) := by decide +kernel
theorem dX9_runsLine_15 : decode cX9_runsLine 15 = .ok (.istore_n 3, 1) := by decide +kernel
theorem dX9_runsLine_16 : decode cX9_runsLine 16 = .ok (.aload_n 0, 1) := by decide +kernel
theorem dX9_runsLine_17 : decode cX9_runsLine 17 = .ok (.getfield 49, 3) := by decide +kernel
theorem dX9_runsLine_20 : decode cX9_runsLine 20 = .ok (.iload_n 1, 1) := by decide +kernel
theorem dX9_runsLine_21 : decode cX9_runsLine 21 = .ok (.iconst 2, 1) := by decide +kernel
theorem dX9_runsLine_22 : decode cX9_runsLine 22 = .ok (.iadd, 1) := by decide +kernel
theorem dX9_runsLine_23 : decode cX9_runsLine 23 = .ok (.iaload, 1) := by decide +kernel
theorem dX9_runsLine_24 : decode cX9_runsLine 24 = .ok (.istore 4, 2) := by decide +kernel
theorem dX9_runsLine_26 : decode cX9_runsLine 26 = .ok (.aload_n 0, 1) := by decide +kernel
theorem dX9_runsLine_27 : decode cX9_runsLine 27 = .ok (.getfield 49, 3) := by decide +kernel
theorem dX9_runsLine_30 : decode cX9_runsLine 30 = .ok (.iload_n 1, 1) := by decide +kernel
theorem dX9_runsLine_31 : decode cX9_runsLine 31 = .ok (.iconst 3, 1) := by decide +kernel
theorem dX9_runsLine_32 : decode cX9_runsLine 32 = .ok (.iadd, 1) := by decide +kernel
theorem dX9_runsLine_33 : decode cX9_runsLine 33 = .ok (.iaload, 1) := by decide +kernel
theorem dX9_runsLine_34 : decode cX9_runsLine 34 = .ok (.istore 5, 2) := by decide +kernel
theorem dX9_runsLine_36 : decode cX9_runsLine 36 = .ok (.iload_n 2, 1) := by decide +kernel
theorem dX9_runsLine_37 : decode cX9_runsLine 37 = .ok (.iconst 2, 1) := by decide +kernel
theorem dX9_runsLine_38 : decode cX9_runsLine 38 = .ok (.if_icmp .ge 39, 3) := by decide +kernel
theorem dX9_runsLine_41 : decode cX9_runsLine 41 = .ok (.aload_n 0, 1) := by decide +kernel
theorem dX9_runsLine_42 : decode cX9_runsLine 42 = .ok (.iload_n 3, 1) := by decide +kernel
theorem dX9_runsLine_43 : decode cX9_runsLine 43 = .ok (.iload 4, 2) := by decide +kernel
theorem dX9_runsLine_45 : decode cX9_runsLine 45 = .ok (.iload 5, 2) := by decide +kernel
theorem dX9_runsLine_47 : decode cX9_runsLine 47 = .ok (.aload_n 0, 1) := by decide +kernel
theorem dX9_runsLine_48 : decode cX9_runsLine 48 = .ok (.getfield 49, 3) := by decide +kernel
theorem dX9_runsLine_51 : decode cX9_runsLine 51 = .ok (.iload_n 1, 1) := by decide +kernel
theorem dX9_runsLine_52 : decode cX9_runsLine 52 = .ok (.iconst 4, 1) := by decide +kernel
theorem dX9_runsLine_53 : decode cX9_runsLine 53 = .ok (.iadd, 1) := by decide +kernel
theorem dX9_runsLine_54 : decode cX9_runsLine 54 = .ok (.iaload, 1) := by decide +kernel
theorem dX9_runsLine_55 : decode cX9_runsLine 55 = .ok (.aload_n 0, 1) := by decide +kernel
theorem dX9_runsLine_56 : decode cX9_runsLine 56 = .ok (.getfield 49, 3) := by decide +kernel
theorem dX9_runsLine_59 : decode cX9_runsLine 59 = .ok (.iload_n 1, 1) := by decide +kernel
theorem dX9_runsLine_60 : decode cX9_runsLine 60 = .ok (.iconst 5, 1) := by decide +kernel
theorem dX9_runsLine_61 : decode cX9_runsLine 61 = .ok (.iadd, 1) := by decide +kernel
theorem dX9_runsLine_62 : decode cX9_runsLine 62 = .ok (.iaload, 1) := by decide +kernel
theorem dX9_runsLine_63 : decode cX9_runsLine 63 = .ok (.iload_n 2, 1) := by decide +kernel
theorem dX9_runsLine_64 : decode cX9_runsLine 64 = .ok (.invokevirtual 147, 3) := by decide +kernel
theorem dX9_runsLine_67 : decode cX9_runsLine 67 = .ok (.iconst (-1), 1) := by decide +kernel
theorem dX9_runsLine_68 : decode cX9_runsLine 68 = .ok (.if_icmp .eq 7, 3) := by decide +kernel
theorem dX9_runsLine_71 : decode cX9_runsLine 71 = .ok (.iconst 1, 1) := by decide +kernel
theorem dX9_runsLine_72 : decode cX9_runsLine 72 = .ok (.goto 4, 3) := by decide +kernel
theorem dX9_runsLine_75 : decode cX9_runsLine 75 = .ok (.iconst 0, 1) := by decide +kernel
theorem dX9_runsLine_76 : decode cX9_runsLine 76 = .ok (.ireturn, 1) := by decide +kernel
theorem dX9_runsLine_77 : decode cX9_runsLine 77 = .ok (.iload_n 2, 1) := by decide +kernel
theorem dX9_runsLine_78 : decode cX9_runsLine 78 = .ok (.iconst 4, 1) := by decide +kernel
theorem dX9_runsLine_79 : decode cX9_runsLine 79 = .ok (.if_icmp .gt 16, 3) := by decide +kernel
theorem dX9_runsLine_82 : decode cX9_runsLine 82 = .ok (.aload_n 0, 1) := by decide +kernel
theorem dX9_runsLine_83 : decode cX9_runsLine 83 = .ok (.iload_n 3, 1) := by decide +kernel
theorem dX9_runsLine_84 : decode cX9_runsLine 84 = .ok (.iload 4, 2) := by decide +kernel
theorem dX9_runsLine_86 : decode cX9_runsLine 86 = .ok (.iload_n 2, 1) := by decide +kernel
theorem dX9_runsLine_87 : decode cX9_runsLine 87 = .ok (.iconst 2, 1) := by decide +kernel
theorem dX9_runsLine_88 : decode cX9_runsLine 88 = .ok (.isub, 1) := by decide +kernel
theorem dX9_runsLine_89 : decode cX9_runsLine 89 = .ok (.iload 5, 2) := by decide +kernel
theorem dX9_runsLine_91 : decode cX9_runsLine 91 = .ok (.invokevirtual 410, 3) := by decide +kernel
theorem dX9_runsLine_94 : decode cX9_runsLine 94 = .ok (.ireturn, 1) := by decide +kernel
theorem dX9_runsLine_95 : decode cX9_runsLine 95 = .ok (.iload_n 2, 1) := by decide +kernel
theorem dX9_runsLine_96 : decode cX9_runsLine 96 = .ok (.iconst 5, 1) := by decide +kernel
theorem dX9_runsLine_97 : decode cX9_runsLine 97 = .ok (.if_icmp .ne 13, 3) := by decide +kernel
theorem dX9_runsLine_100 : decode cX9_runsLine 100 = .ok (.aload_n 0, 1) := by decide +kernel
theorem dX9_runsLine_101 : decode cX9_runsLine 101 = .ok (.iload_n 3, 1) := by decide +kernel
theorem dX9_runsLine_102 : decode cX9_runsLine 102 = .ok (.iconst 0, 1) := by decide +kernel
theorem dX9_runsLine_103 : decode cX9_runsLine 103 = .ok (.iconst 3, 1) := by decide +kernel
theorem dX9_runsLine_104 : decode cX9_runsLine 104 = .ok (.iload 4, 2) := by decide +kernel
theorem dX9_runsLine_106 : decode cX9_runsLine 106 = .ok (.invokevirtual 410, 3) := by decide +kernel
theorem dX9_runsLine_109 : decode cX9_runsLine 109 = .ok (.ireturn, 1) := by decide +kernel
theorem dX9_runsLine_110 : decode cX9_runsLine 110 = .ok (.iload_n 2, 1) := by decide +kernel
theorem dX9_runsLine_111 : decode cX9_runsLine 111 = .ok (.bipush 6, 2) := by decide +kernel
theorem dX9_runsLine_113 : decode cX9_runsLine 113 = .ok (.if_icmp .ne 11, 3) := by decide +kernel
theorem dX9_runsLine_116 : decode cX9_runsLine 116 = .ok (.aload_n 0, 1) := by decide +kernel
theorem dX9_runsLine_117 : decode cX9_runsLine 117 = .ok (.iload_n 3, 1) := by decide +kernel
theorem dX9_runsLine_118 : decode cX9_runsLine 118 = .ok (.iload 4, 2) := by decide +kernel
theorem dX9_runsLine_120 : decode cX9_runsLine 120 = .ok (.invokevirtual 414, 3) := by decide +kernel
theorem dX9_runsLine_123 : decode cX9_runsLine 123 = .ok (.ireturn, 1) := by decide +kernel
theorem dX9_runsLine_124 : decode cX9_runsLine 124 = .ok (.iload_n 2, 1) := by decide +kernel
theorem dX9_runsLine_125 : decode cX9_runsLine 125 = .ok (.bipush 7, 2) := by decide +kernel
theorem dX9_runsLine_127 : decode cX9_runsLine 127 = .ok (.if_icmp .ne 22, 3) := by decide +kernel
theorem dX9_runsLine_130 : decode cX9_runsLine 130 = .ok (.aload_n 0, 1) := by decide +kernel
theorem dX9_runsLine_131 : decode cX9_runsLine 131 = .ok (.iload_n 3, 1) := by decide +kernel
theorem dX9_runsLine_132 : decode cX9_runsLine 132 = .ok (.iload 4, 2) := by decide +kernel
theorem dX9_runsLine_134 : decode cX9_runsLine 134 = .ok (.iload 5, 2) := by decide +kernel
theorem dX9_runsLine_136 : decode cX9_runsLine 136 = .ok (.invokevirtual 417, 3) := by decide +kernel
theorem dX9_runsLine_139 : decode cX9_runsLine 139 = .ok (.iconst (-1), 1) := by decide +kernel
theorem dX9_runsLine_140 : decode cX9_runsLine 140 = .ok (.if_icmp .eq 7, 3) := by decide +kernel
theorem dX9_runsLine_143 : decode cX9_runsLine 143 = .ok (.iconst 1, 1) := by decide +kernel
theorem dX9_runsLine_144 : decode cX9_runsLine 144 = .ok (.goto 4, 3) := by decide +kernel
theorem dX9_runsLine_147 : decode cX9_runsLine 147 = .ok (.iconst 0, 1) := by decide +kernel
theorem dX9_runsLine_148 : decode cX9_runsLine 148 = .ok (.ireturn, 1) := by decide +kernel
theorem dX9_runsLine_149 : decode cX9_runsLine 149 = .ok (.iload_n 2, 1) := by decide +kernel
theorem dX9_runsLine_150 : decode cX9_runsLine 150 = .ok (.bipush 8, 2) := by decide +kernel
theorem dX9_runsLine_152 : decode cX9_runsLine 152 = .ok (.if_icmp .ne 20, 3) := by decide +kernel
theorem dX9_runsLine_155 : decode cX9_runsLine 155 = .ok (.aload_n 0, 1) := by decide +kernel
theorem dX9_runsLine_156 : decode cX9_runsLine 156 = .ok (.iload_n 3, 1) := by decide +kernel
theorem dX9_runsLine_157 : decode cX9_runsLine 157 = .ok (.invokevirtual 420, 3) := by decide +kernel
theorem dX9_runsLine_160 : decode cX9_runsLine 160 = .ok (.iconst (-1), 1) := by decide +kernel
theorem dX9_runsLine_161 : decode cX9_runsLine 161 = .ok (.if_icmp .eq 7, 3) := by decide +kernel
theorem dX9_runsLine_164 : decode cX9_runsLine 164 = .ok (.iconst 1, 1) := by decide +kernel
theorem dX9_runsLine_165 : decode cX9_runsLine 165 = .ok (.goto 21, 3) := by decide +kernel
theorem dX9_runsLine_168 : decode cX9_runsLine 168 = .ok (.iconst 0, 1) := by decide +kernel
theorem dX9_runsLine_169 : decode cX9_runsLine 169 = .ok (.goto 17, 3) := by decide +kernel
theorem dX9_runsLine_172 : decode cX9_runsLine 172 = .ok (.aload_n 0, 1) := by decide +kernel
theorem dX9_runsLine_173 : decode cX9_runsLine 173 = .ok (.iload_n 3, 1) := by decide +kernel
theorem dX9_runsLine_174 : decode cX9_runsLine 174 = .ok (.invokevirtual 423, 3) := by decide +kernel
theorem dX9_runsLine_177 : decode cX9_runsLine 177 = .ok (.iconst (-1), 1) := by decide +kernel
theorem dX9_runsLine_178 : decode cX9_runsLine 178 = .ok (.if_icmp .eq 7, 3) := by decide +kernel
theorem dX9_runsLine_181 : decode cX9_runsLine 181 = .ok (.iconst 1, 1) := by decide +kernel
theorem dX9_runsLine_182 : decode cX9_runsLine 182 = .ok (.goto 4, 3) := by decide +kernel
theorem dX9_runsLine_185 : decode cX9_runsLine 185 = .ok (.iconst 0, 1) := by decide +kernel
theorem dX9_runsLine_186 : decode cX9_runsLine 186 = .ok (.ireturn, 1) := by decide +kernel
theorem dX9_set_0 : decode cX9_set 0 = .ok (.aload_n 0, 1) := by decide +kernel
theorem dX9_set_1 : decode cX9_set 1 = .ok (.iconst 0, 1) := by decide +kernel
theorem dX9_set_2 : decode cX9_set 2 = .ok (.putfield 58, 3) := by decide +kernel
theorem dX9_set_5 : decode cX9_set 5 = .ok (.aload_n 0, 1) := by decide +kernel
theorem dX9_set_6 : decode cX9_set 6 = .ok (.iload_n 1, 1) := by decide +kernel
theorem dX9_set_7 : decode cX9_set 7 = .ok (.iload_n 2, 1) := by decide +kernel
theorem dX9_set_8 : decode cX9_set 8 = .ok (.invokevirtual 87, 3) := by decide +kernel
theorem dX9_set_11 : decode cX9_set 11 = .ok (.ifCond .ne 5, 3) := by decide +kernel
theorem dX9_set_14 : decode cX9_set 14 = .ok (.iconst 0, 1) := by decide +kernel
theorem dX9_set_15 : decode cX9_set 15 = .ok (.ireturn, 1) := by decide +kernel
theorem dX9_set_16 : decode cX9_set 16 = .ok (.iload_n 1, 1) := by decide +kernel
theorem dX9_set_17 : decode cX9_set 17 = .ok (.bipush 6, 2) := by decide +kernel
theorem dX9_set_19 : decode cX9_set 19 = .ok (.if_icmp .ne 14, 3) := by decide +kernel
theorem dX9_set_22 : decode cX9_set 22 = .ok (.aload_n 0, 1) := by decide +kernel
theorem dX9_set_23 : decode cX9_set 23 = .ok (.getfield 7, 3) := by decide +kernel
theorem dX9_set_26 : decode cX9_set 26 = .ok (.bipush 12, 2) := by decide +kernel
theorem dX9_set_28 : decode cX9_set 28 = .ok (.iload_n 2, 1) := by decide +kernel
theorem dX9_set_29 : decode cX9_set 29 = .ok (.iastore, 1) := by decide +kernel
theorem dX9_set_30 : decode cX9_set 30 = .ok (.goto 16, 3) := by decide +kernel
theorem dX9_set_33 : decode cX9_set 33 = .ok (.aload_n 0, 1) := by decide +kernel
theorem dX9_set_34 : decode cX9_set 34 = .ok (.getfield 7, 3) := by decide +kernel
theorem dX9_set_37 : decode cX9_set 37 = .ok (.iload_n 1, 1) := by decide +kernel
theorem dX9_set_38 : decode cX9_set 38 = .ok (.iload_n 2, 1) := by decide +kernel
theorem dX9_set_39 : decode cX9_set 39 = .ok (.aload_n 0, 1) := by decide +kernel
theorem dX9_set_40 : decode cX9_set 40 = .ok (.iload_n 1, 1) := by decide +kernel
theorem dX9_set_41 : decode cX9_set 41 = .ok (.invokevirtual 83, 3) := by decide +kernel
theorem dX9_set_44 : decode cX9_set 44 = .ok (.isub, 1) := by decide +kernel
theorem dX9_set_45 : decode cX9_set 45 = .ok (.iastore, 1) := by decide +kernel
theorem dX9_set_46 : decode cX9_set 46 = .ok (.iconst 1, 1) := by decide +kernel
theorem dX9_set_47 : decode cX9_set 47 = .ok (.ireturn, 1) := by decide +kernel
theorem dX9_settingOf_0 : decode cX9_settingOf 0 = .ok (.aload_n 0, 1) := by decide +kernel
theorem dX9_settingOf_1 : decode cX9_settingOf 1 = .ok (.getfield 7, 3) := by decide +kernel
theorem dX9_settingOf_4 : decode cX9_settingOf 4 = .ok (.iload_n 1, 1) := by decide +kernel
theorem dX9_settingOf_5 : decode cX9_settingOf 5 = .ok (.iaload, 1) := by decide +kernel
theorem dX9_settingOf_6 : decode cX9_settingOf 6 = .ok (.aload_n 0, 1) := by decide +kernel
theorem dX9_settingOf_7 : decode cX9_settingOf 7 = .ok (.iload_n 1, 1) := by decide +kernel
theorem dX9_settingOf_8 : decode cX9_settingOf 8 = .ok (.invokevirtual 83, 3) := by decide +kernel
theorem dX9_settingOf_11 : decode cX9_settingOf 11 = .ok (.iadd, 1) := by decide +kernel
theorem dX9_settingOf_12 : decode cX9_settingOf 12 = .ok (.ireturn, 1) := by decide +kernel
theorem dX9_sharesOf_0 : decode cX9_sharesOf 0 = .ok (.aload_n 0, 1) := by decide +kernel
theorem dX9_sharesOf_1 : decode cX9_sharesOf 1 = .ok (.getfield 7, 3) := by decide +kernel
theorem dX9_sharesOf_4 : decode cX9_sharesOf 4 = .ok (.sipush 7764, 3) := by decide +kernel
theorem dX9_sharesOf_7 : decode cX9_sharesOf 7 = .ok (.aload_n 0, 1) := by decide +kernel
theorem dX9_sharesOf_8 : decode cX9_sharesOf 8 = .ok (.iload_n 1, 1) := by decide +kernel
theorem dX9_sharesOf_9 : decode cX9_sharesOf 9 = .ok (.iload_n 2, 1) := by decide +kernel
theorem dX9_sharesOf_10 : decode cX9_sharesOf 10 = .ok (.iload_n 3, 1) := by decide +kernel
theorem dX9_sharesOf_11 : decode cX9_sharesOf 11 = .ok (.invokevirtual 106, 3) := by decide +kernel
theorem dX9_sharesOf_14 : decode cX9_sharesOf 14 = .ok (.iadd, 1) := by decide +kernel
theorem dX9_sharesOf_15 : decode cX9_sharesOf 15 = .ok (.iaload, 1) := by decide +kernel
theorem dX9_sharesOf_16 : decode cX9_sharesOf 16 = .ok (.ireturn, 1) := by decide +kernel
theorem dX9_shortOf_0 : decode cX9_shortOf 0 = .ok (.aload_n 0, 1) := by decide +kernel
theorem dX9_shortOf_1 : decode cX9_shortOf 1 = .ok (.iload_n 1, 1) := by decide +kernel
theorem dX9_shortOf_2 : decode cX9_shortOf 2 = .ok (.iload_n 2, 1) := by decide +kernel
theorem dX9_shortOf_3 : decode cX9_shortOf 3 = .ok (.invokevirtual 116, 3) := by decide +kernel
theorem dX9_shortOf_6 : decode cX9_shortOf 6 = .ok (.ifCond .eq 13, 3) := by decide +kernel
theorem dX9_shortOf_9 : decode cX9_shortOf 9 = .ok (.aload_n 0, 1) := by decide +kernel
theorem dX9_shortOf_10 : decode cX9_shortOf 10 = .ok (.iload_n 1, 1) := by decide +kernel
theorem dX9_shortOf_11 : decode cX9_shortOf 11 = .ok (.iload_n 2, 1) := by decide +kernel
theorem dX9_shortOf_12 : decode cX9_shortOf 12 = .ok (.invokevirtual 119, 3) := by decide +kernel
theorem dX9_shortOf_15 : decode cX9_shortOf 15 = .ok (.ineg, 1) := by decide +kernel
theorem dX9_shortOf_16 : decode cX9_shortOf 16 = .ok (.goto 4, 3) := by decide +kernel
theorem dX9_shortOf_19 : decode cX9_shortOf 19 = .ok (.iconst 0, 1) := by decide +kernel
theorem dX9_shortOf_20 : decode cX9_shortOf 20 = .ok (.ireturn, 1) := by decide +kernel
theorem dX9_shortSet_0 : decode cX9_shortSet 0 = .ok (.iconst 0, 1) := by decide +kernel
theorem dX9_shortSet_1 : decode cX9_shortSet 1 = .ok (.istore_n 1, 1) := by decide +kernel
theorem dX9_shortSet_2 : decode cX9_shortSet 2 = .ok (.iconst 0, 1) := by decide +kernel
theorem dX9_shortSet_3 : decode cX9_shortSet 3 = .ok (.istore_n 2, 1) := by decide +kernel
theorem dX9_shortSet_4 : decode cX9_shortSet 4 = .ok (.iload_n 2, 1) := by decide +kernel
theorem dX9_shortSet_5 : decode cX9_shortSet 5 = .ok (.aload_n 0, 1) := by decide +kernel
theorem dX9_shortSet_6 : decode cX9_shortSet 6 = .ok (.invokevirtual 61, 3) := by decide +kernel
theorem dX9_shortSet_9 : decode cX9_shortSet 9 = .ok (.if_icmp .ge 38, 3) := by decide +kernel
theorem dX9_shortSet_12 : decode cX9_shortSet 12 = .ok (.iconst 0, 1) := by decide +kernel
theorem dX9_shortSet_13 : decode cX9_shortSet 13 = .ok (.istore_n 3, 1) := by decide +kernel
theorem dX9_shortSet_14 : decode cX9_shortSet 14 = .ok (.iload_n 3, 1) := by decide +kernel
theorem dX9_shortSet_15 : decode cX9_shortSet 15 = .ok (.bipush 6, 2) := by decide +kernel
theorem dX9_shortSet_17 : decode cX9_shortSet 17 = .ok (.if_icmp .ge 24, 3) := by decide +kernel
theorem dX9_shortSet_20 : decode cX9_shortSet 20 = .ok (.aload_n 0, 1) := by decide +kernel
theorem dX9_shortSet_21 : decode cX9_shortSet 21 = .ok (.iload_n 2, 1) := by decide +kernel
theorem dX9_shortSet_22 : decode cX9_shortSet 22 = .ok (.iload_n 3, 1) := by decide +kernel
theorem dX9_shortSet_23 : decode cX9_shortSet 23 = .ok (.invokevirtual 116, 3) := by decide +kernel
theorem dX9_shortSet_26 : decode cX9_shortSet 26 = .ok (.ifCond .eq 9, 3) := by decide +kernel
theorem dX9_shortSet_29 : decode cX9_shortSet 29 = .ok (.iload_n 1, 1) := by decide +kernel
theorem dX9_shortSet_30 : decode cX9_shortSet 30 = .ok (.iconst 1, 1) := by decide +kernel
theorem dX9_shortSet_31 : decode cX9_shortSet 31 = .ok (.iload_n 2, 1) := by decide +kernel
theorem dX9_shortSet_32 : decode cX9_shortSet 32 = .ok (.ishl, 1) := by decide +kernel
theorem dX9_shortSet_33 : decode cX9_shortSet 33 = .ok (.ior, 1) := by decide +kernel
theorem dX9_shortSet_34 : decode cX9_shortSet 34 = .ok (.istore_n 1, 1) := by decide +kernel
theorem dX9_shortSet_35 : decode cX9_shortSet 35 = .ok (.iinc 3 1, 3) := by decide +kernel
theorem dX9_shortSet_38 : decode cX9_shortSet 38 = .ok (.goto (-24), 3) := by decide +kernel
theorem dX9_shortSet_41 : decode cX9_shortSet 41 = .ok (.iinc 2 1, 3) := by decide +kernel
theorem dX9_shortSet_44 : decode cX9_shortSet 44 = .ok (.goto (-40), 3) := by decide +kernel
theorem dX9_shortSet_47 : decode cX9_shortSet 47 = .ok (.iload_n 1, 1) := by decide +kernel
theorem dX9_shortSet_48 : decode cX9_shortSet 48 = .ok (.ireturn, 1) := by decide +kernel
theorem dX9_split_0 : decode cX9_split 0 = .ok (.aload_n 0, 1) := by decide +kernel
theorem dX9_split_1 : decode cX9_split 1 = .ok (.iconst 0, 1) := by decide +kernel
theorem dX9_split_2 : decode cX9_split 2 = .ok (.putfield 58, 3) := by decide +kernel
theorem dX9_split_5 : decode cX9_split 5 = .ok (.aload_n 0, 1) := by decide +kernel
theorem dX9_split_6 : decode cX9_split 6 = .ok (.iload_n 1, 1) := by decide +kernel
theorem dX9_split_7 : decode cX9_split 7 = .ok (.invokevirtual 94, 3) := by decide +kernel
theorem dX9_split_10 : decode cX9_split 10 = .ok (.ifCond .eq 50, 3) := by decide +kernel
theorem dX9_split_13 : decode cX9_split 13 = .ok (.aload_n 0, 1) := by decide +kernel
theorem dX9_split_14 : decode cX9_split 14 = .ok (.iload_n 2, 1) := by decide +kernel
theorem dX9_split_15 : decode cX9_split 15 = .ok (.iconst 2, 1) := by decide +kernel
theorem dX9_split_16 : decode cX9_split 16 = .ok (.iconst 5, 1) := by decide +kernel
theorem dX9_split_17 : decode cX9_split 17 = .ok (.invokevirtual 79, 3) := by decide +kernel
theorem dX9_split_20 : decode cX9_split 20 = .ok (.ifCond .eq 40, 3) := by decide +kernel
theorem dX9_split_23 : decode cX9_split 23 = .ok (.aload_n 0, 1) := by decide +kernel
theorem dX9_split_24 : decode cX9_split 24 = .ok (.iload_n 1, 1) := by decide +kernel
theorem dX9_split_25 : decode cX9_split 25 = .ok (.invokevirtual 310, 3) := by decide +kernel
theorem dX9_split_28 : decode cX9_split 28 = .ok (.ifCond .eq 32, 3) := by decide +kernel
theorem dX9_split_31 : decode cX9_split 31 = .ok (.aload_n 0, 1) := by decide +kernel
theorem dX9_split_32 : decode cX9_split 32 = .ok (.iload_n 1, 1) := by decide +kernel
theorem dX9_split_33 : decode cX9_split 33 = .ok (.invokevirtual 197, 3) := by decide +kernel
theorem dX9_split_36 : decode cX9_split 36 = .ok (.iload_n 2, 1) := by decide +kernel
theorem dX9_split_37 : decode cX9_split 37 = .ok (.irem, 1) := by decide +kernel
theorem dX9_split_38 : decode cX9_split 38 = .ok (.ifCond .ne 22, 3) := by decide +kernel
theorem dX9_split_41 : decode cX9_split 41 = .ok (.aload_n 0, 1) := by decide +kernel
theorem dX9_split_42 : decode cX9_split 42 = .ok (.iload_n 1, 1) := by decide +kernel
theorem dX9_split_43 : decode cX9_split 43 = .ok (.invokevirtual 203, 3) := by decide +kernel
theorem dX9_split_46 : decode cX9_split 46 = .ok (.iload_n 2, 1) := by decide +kernel
theorem dX9_split_47 : decode cX9_split 47 = .ok (.irem, 1) := by decide +kernel
theorem dX9_split_48 : decode cX9_split 48 = .ok (.ifCond .ne 12, 3) := by decide +kernel
theorem dX9_split_51 : decode cX9_split 51 = .ok (.aload_n 0, 1) := by decide +kernel
theorem dX9_split_52 : decode cX9_split 52 = .ok (.iload_n 1, 1) := by decide +kernel
theorem dX9_split_53 : decode cX9_split 53 = .ok (.iload_n 2, 1) := by decide +kernel
theorem dX9_split_54 : decode cX9_split 54 = .ok (.invokevirtual 313, 3) := by decide +kernel
theorem dX9_split_57 : decode cX9_split 57 = .ok (.ifCond .ne 5, 3) := by decide +kernel
theorem dX9_split_60 : decode cX9_split 60 = .ok (.iconst 0, 1) := by decide +kernel
theorem dX9_split_61 : decode cX9_split 61 = .ok (.ireturn, 1) := by decide +kernel
theorem dX9_split_62 : decode cX9_split 62 = .ok (.iconst 0, 1) := by decide +kernel
theorem dX9_split_63 : decode cX9_split 63 = .ok (.istore_n 3, 1) := by decide +kernel
theorem dX9_split_64 : decode cX9_split 64 = .ok (.iload_n 3, 1) := by decide +kernel
theorem dX9_split_65 : decode cX9_split 65 = .ok (.aload_n 0, 1) := by decide +kernel
theorem dX9_split_66 : decode cX9_split 66 = .ok (.invokevirtual 61, 3) := by decide +kernel
theorem dX9_split_69 : decode cX9_split 69 = .ok (.if_icmp .ge 113, 3) := by decide +kernel
theorem dX9_split_72 : decode cX9_split 72 = .ok (.iconst 0, 1) := by decide +kernel
theorem dX9_split_73 : decode cX9_split 73 = .ok (.istore 4, 2) := by decide +kernel
theorem dX9_split_75 : decode cX9_split 75 = .ok (.iload 4, 2) := by decide +kernel
theorem dX9_split_77 : decode cX9_split 77 = .ok (.iconst 4, 1) := by decide +kernel
theorem dX9_split_78 : decode cX9_split 78 = .ok (.if_icmp .ge 51, 3) := by decide +kernel
theorem dX9_split_81 : decode cX9_split 81 = .ok (.aload_n 0, 1) := by decide +kernel
theorem dX9_split_82 : decode cX9_split 82 = .ok (.getfield 7, 3) := by decide +kernel
theorem dX9_split_85 : decode cX9_split 85 = .ok (.bipush 60, 2) := by decide +kernel
theorem dX9_split_87 : decode cX9_split 87 = .ok (.bipush 72, 2) := by decide +kernel
theorem dX9_split_89 : decode cX9_split 89 = .ok (.iload 4, 2) := by decide +kernel
theorem dX9_split_91 : decode cX9_split 91 = .ok (.imul, 1) := by decide +kernel
theorem dX9_split_92 : decode cX9_split 92 = .ok (.iadd, 1) := by decide +kernel
theorem dX9_split_93 : decode cX9_split 93 = .ok (.aload_n 0, 1) := by decide +kernel
theorem dX9_split_94 : decode cX9_split 94 = .ok (.iload_n 3, 1) := by decide +kernel
theorem dX9_split_95 : decode cX9_split 95 = .ok (.iload_n 1, 1) := by decide +kernel
theorem dX9_split_96 : decode cX9_split 96 = .ok (.invokevirtual 65, 3) := by decide +kernel
theorem dX9_split_99 : decode cX9_split 99 = .ok (.iadd, 1) := by decide +kernel
theorem dX9_split_100 : decode cX9_split 100 = .ok (.iload_n 2, 1) := by decide +kernel
theorem dX9_split_101 : decode cX9_split 101 = .ok (.aload_n 0, 1) := by decide +kernel
theorem dX9_split_102 : decode cX9_split 102 = .ok (.getfield 7, 3) := by decide +kernel
theorem dX9_split_105 : decode cX9_split 105 = .ok (.bipush 60, 2) := by decide +kernel
theorem dX9_split_107 : decode cX9_split 107 = .ok (.bipush 72, 2) := by decide +kernel
theorem dX9_split_109 : decode cX9_split 109 = .ok (.iload 4, 2) := by decide +kernel
theorem dX9_split_111 : decode cX9_split 111 = .ok (.imul, 1) := by decide +kernel
theorem dX9_split_112 : decode cX9_split 112 = .ok (.iadd, 1) := by decide +kernel
theorem dX9_split_113 : decode cX9_split 113 = .ok (.aload_n 0, 1) := by decide +kernel
theorem dX9_split_114 : decode cX9_split 114 = .ok (.iload_n 3, 1) := by decide +kernel
theorem dX9_split_115 : decode cX9_split 115 = .ok (.iload_n 1, 1) := by decide +kernel
theorem dX9_split_116 : decode cX9_split 116 = .ok (.invokevirtual 65, 3) := by decide +kernel
theorem dX9_split_119 : decode cX9_split 119 = .ok (.iadd, 1) := by decide +kernel
theorem dX9_split_120 : decode cX9_split 120 = .ok (.iaload, 1) := by decide +kernel
theorem dX9_split_121 : decode cX9_split 121 = .ok (.imul, 1) := by decide +kernel
theorem dX9_split_122 : decode cX9_split 122 = .ok (.iastore, 1) := by decide +kernel
theorem dX9_split_123 : decode cX9_split 123 = .ok (.iinc 4 1, 3) := by decide +kernel
theorem dX9_split_126 : decode cX9_split 126 = .ok (.goto (-51), 3) := by decide +kernel
theorem dX9_split_129 : decode cX9_split 129 = .ok (.iconst 0, 1) := by decide +kernel
theorem dX9_split_130 : decode cX9_split 130 = .ok (.istore 4, 2) := by decide +kernel
theorem dX9_split_132 : decode cX9_split 132 = .ok (.iload 4, 2) := by decide +kernel
theorem dX9_split_134 : decode cX9_split 134 = .ok (.aload_n 0, 1) := by decide +kernel
theorem dX9_split_135 : decode cX9_split 135 = .ok (.iload_n 3, 1) := by decide +kernel
theorem dX9_split_136 : decode cX9_split 136 = .ok (.iload_n 1, 1) := by decide +kernel
theorem dX9_split_137 : decode cX9_split 137 = .ok (.invokevirtual 110, 3) := by decide +kernel
theorem dX9_split_140 : decode cX9_split 140 = .ok (.if_icmp .ge 36, 3) := by decide +kernel
theorem dX9_split_143 : decode cX9_split 143 = .ok (.aload_n 0, 1) := by decide +kernel
theorem dX9_split_144 : decode cX9_split 144 = .ok (.getfield 7, 3) := by decide +kernel
theorem dX9_split_147 : decode cX9_split 147 = .ok (.sipush 7764, 3) := by decide +kernel
theorem dX9_split_150 : decode cX9_split 150 = .ok (.aload_n 0, 1) := by decide +kernel
theorem dX9_split_151 : decode cX9_split 151 = .ok (.iload_n 3, 1) := by decide +kernel
theorem dX9_split_152 : decode cX9_split 152 = .ok (.iload_n 1, 1) := by decide +kernel
theorem dX9_split_153 : decode cX9_split 153 = .ok (.iload 4, 2) := by decide +kernel
theorem dX9_split_155 : decode cX9_split 155 = .ok (.invokevirtual 106, 3) := by decide +kernel
theorem dX9_split_158 : decode cX9_split 158 = .ok (.iadd, 1) := by decide +kernel
theorem dX9_split_159 : decode cX9_split 159 = .ok (.iload_n 2, 1) := by decide +kernel
theorem dX9_split_160 : decode cX9_split 160 = .ok (.aload_n 0, 1) := by decide +kernel
theorem dX9_split_161 : decode cX9_split 161 = .ok (.iload_n 3, 1) := by decide +kernel
theorem dX9_split_162 : decode cX9_split 162 = .ok (.iload_n 1, 1) := by decide +kernel
theorem dX9_split_163 : decode cX9_split 163 = .ok (.iload 4, 2) := by decide +kernel
theorem dX9_split_165 : decode cX9_split 165 = .ok (.invokevirtual 113, 3) := by decide +kernel
theorem dX9_split_168 : decode cX9_split 168 = .ok (.imul, 1) := by decide +kernel
theorem dX9_split_169 : decode cX9_split 169 = .ok (.iastore, 1) := by decide +kernel
theorem dX9_split_170 : decode cX9_split 170 = .ok (.iinc 4 1, 3) := by decide +kernel
theorem dX9_split_173 : decode cX9_split 173 = .ok (.goto (-41), 3) := by decide +kernel
theorem dX9_split_176 : decode cX9_split 176 = .ok (.iinc 3 1, 3) := by decide +kernel
theorem dX9_split_179 : decode cX9_split 179 = .ok (.goto (-115), 3) := by decide +kernel
theorem dX9_split_182 : decode cX9_split 182 = .ok (.aload_n 0, 1) := by decide +kernel
theorem dX9_split_183 : decode cX9_split 183 = .ok (.getfield 7, 3) := by decide +kernel
theorem dX9_split_186 : decode cX9_split 186 = .ok (.bipush 16, 2) := by decide +kernel
theorem dX9_split_188 : decode cX9_split 188 = .ok (.iload_n 1, 1) := by decide +kernel
theorem dX9_split_189 : decode cX9_split 189 = .ok (.iadd, 1) := by decide +kernel
theorem dX9_split_190 : decode cX9_split 190 = .ok (.aload_n 0, 1) := by decide +kernel
theorem dX9_split_191 : decode cX9_split 191 = .ok (.iload_n 1, 1) := by decide +kernel
theorem dX9_split_192 : decode cX9_split 192 = .ok (.invokevirtual 197, 3) := by decide +kernel
theorem dX9_split_195 : decode cX9_split 195 = .ok (.iload_n 2, 1) := by decide +kernel
theorem dX9_split_196 : decode cX9_split 196 = .ok (.idiv, 1) := by decide +kernel
theorem dX9_split_197 : decode cX9_split 197 = .ok (.bipush 100, 2) := by decide +kernel
theorem dX9_split_199 : decode cX9_split 199 = .ok (.isub, 1) := by decide +kernel
theorem dX9_split_200 : decode cX9_split 200 = .ok (.iastore, 1) := by decide +kernel
theorem dX9_split_201 : decode cX9_split 201 = .ok (.aload_n 0, 1) := by decide +kernel
theorem dX9_split_202 : decode cX9_split 202 = .ok (.getfield 7, 3) := by decide +kernel
theorem dX9_split_205 : decode cX9_split 205 = .ok (.bipush 22, 2) := by decide +kernel
theorem dX9_split_207 : decode cX9_split 207 = .ok (.iload_n 1, 1) := by decide +kernel
theorem dX9_split_208 : decode cX9_split 208 = .ok (.iadd, 1) := by decide +kernel
theorem dX9_split_209 : decode cX9_split 209 = .ok (.aload_n 0, 1) := by decide +kernel
theorem dX9_split_210 : decode cX9_split 210 = .ok (.iload_n 1, 1) := by decide +kernel
theorem dX9_split_211 : decode cX9_split 211 = .ok (.invokevirtual 203, 3) := by decide +kernel
theorem dX9_split_214 : decode cX9_split 214 = .ok (.iload_n 2, 1) := by decide +kernel
theorem dX9_split_215 : decode cX9_split 215 = .ok (.idiv, 1) := by decide +kernel
theorem dX9_split_216 : decode cX9_split 216 = .ok (.bipush 100, 2) := by decide +kernel
theorem dX9_split_218 : decode cX9_split 218 = .ok (.isub, 1) := by decide +kernel
theorem dX9_split_219 : decode cX9_split 219 = .ok (.iastore, 1) := by decide +kernel
theorem dX9_split_220 : decode cX9_split 220 = .ok (.iconst 1, 1) := by decide +kernel
theorem dX9_split_221 : decode cX9_split 221 = .ok (.ireturn, 1) := by decide +kernel
theorem dX9_statement_0 : decode cX9_statement 0 = .ok (.aload_n 0, 1) := by decide +kernel
theorem dX9_statement_1 : decode cX9_statement 1 = .ok (.iconst 0, 1) := by decide +kernel
theorem dX9_statement_2 : decode cX9_statement 2 = .ok (.putfield 58, 3) := by decide +kernel
theorem dX9_statement_5 : decode cX9_statement 5 = .ok (.aload_n 0, 1) := by decide +kernel
theorem dX9_statement_6 : decode cX9_statement 6 = .ok (.iload_n 1, 1) := by decide +kernel
theorem dX9_statement_7 : decode cX9_statement 7 = .ok (.invokevirtual 90, 3) := by decide +kernel
theorem dX9_statement_10 : decode cX9_statement 10 = .ok (.ifCond .eq 13, 3) := by decide +kernel
theorem dX9_statement_13 : decode cX9_statement 13 = .ok (.aload_n 0, 1) := by decide +kernel
theorem dX9_statement_14 : decode cX9_statement 14 = .ok (.iload_n 2, 1) := by decide +kernel
theorem dX9_statement_15 : decode cX9_statement 15 = .ok (.iconst 0, 1) := by decide +kernel
theorem dX9_statement_16 : decode cX9_statement 16 = .ok (.iconst 4, 1) := by decide +kernel
theorem dX9_statement_17 : decode cX9_statement 17 = .ok (.invokevirtual 79, 3) := by decide +kernel
theorem dX9_statement_20 : decode cX9_statement 20 = .ok (.ifCond .ne 5, 3) := by decide +kernel
theorem dX9_statement_23 : decode cX9_statement 23 = .ok (.iconst (-1), 1) := by decide +kernel
theorem dX9_statement_24 : decode cX9_statement 24 = .ok (.ireturn, 1) := by decide +kernel
theorem dX9_statement_25 : decode cX9_statement 25 = .ok (.iconst 0, 1) := by decide +kernel
theorem dX9_statement_26 : decode cX9_statement 26 = .ok (.istore 4, 2) := by decide +kernel
theorem dX9_statement_28 : decode cX9_statement 28 = .ok (.iconst 0, 1) := by decide +kernel
theorem dX9_statement_29 : decode cX9_statement 29 = .ok (.istore 5, 2) := by decide +kernel
theorem dX9_statement_31 : decode cX9_statement 31 = .ok (.iload 5, 2) := by decide +kernel
theorem dX9_statement_33 : decode cX9_statement 33 = .ok (.aload_n 0, 1) := by decide +kernel
theorem dX9_statement_34 : decode cX9_statement 34 = .ok (.getfield 7, 3) := by decide +kernel
theorem dX9_statement_37 : decode cX9_statement 37 = .ok (.bipush 9, 2) := by decide +kernel
theorem dX9_statement_39 : decode cX9_statement 39 = .ok (.iaload, 1) := by decide +kernel
theorem dX9_statement_40 : decode cX9_statement 40 = .ok (.if_icmp .ge 70, 3) := by decide +kernel
theorem dX9_statement_43 : decode cX9_statement 43 = .ok (.sipush 17910, 3) := by decide +kernel
theorem dX9_statement_46 : decode cX9_statement 46 = .ok (.bipush 6, 2) := by decide +kernel
theorem dX9_statement_48 : decode cX9_statement 48 = .ok (.iload 5, 2) := by decide +kernel
theorem dX9_statement_50 : decode cX9_statement 50 = .ok (.imul, 1) := by decide +kernel
theorem dX9_statement_51 : decode cX9_statement 51 = .ok (.iadd, 1) := by decide +kernel
theorem dX9_statement_52 : decode cX9_statement 52 = .ok (.istore 6, 2) := by decide +kernel
theorem dX9_statement_54 : decode cX9_statement 54 = .ok (.aload_n 0, 1) := by decide +kernel
theorem dX9_statement_55 : decode cX9_statement 55 = .ok (.getfield 7, 3) := by decide +kernel
theorem dX9_statement_58 : decode cX9_statement 58 = .ok (.iload 6, 2) := by decide +kernel
theorem dX9_statement_60 : decode cX9_statement 60 = .ok (.iconst 1, 1) := by decide +kernel
theorem dX9_statement_61 : decode cX9_statement 61 = .ok (.iadd, 1) := by decide +kernel
theorem dX9_statement_62 : decode cX9_statement 62 = .ok (.iaload, 1) := by decide +kernel
theorem dX9_statement_63 : decode cX9_statement 63 = .ok (.iload_n 2, 1) := by decide +kernel
theorem dX9_statement_64 : decode cX9_statement 64 = .ok (.if_icmp .ne 40, 3) := by decide +kernel
theorem dX9_statement_67 : decode cX9_statement 67 = .ok (.aload_n 0, 1) := by decide +kernel
theorem dX9_statement_68 : decode cX9_statement 68 = .ok (.getfield 7, 3) := by decide +kernel
theorem dX9_statement_71 : decode cX9_statement 71 = .ok (.iload 6, 2) := by decide +kernel
theorem dX9_statement_73 : decode cX9_statement 73 = .ok (.iload_n 3, 1) := by decide +kernel
theorem dX9_statement_74 : decode cX9_statement 74 = .ok (.ifCond .eq 7, 3) := by decide +kernel
theorem dX9_statement_77 : decode cX9_statement 77 = .ok (.iconst 4, 1) := by decide +kernel
theorem dX9_statement_78 : decode cX9_statement 78 = .ok (.goto 4, 3) := by decide +kernel
theorem dX9_statement_81 : decode cX9_statement 81 = .ok (.iconst 3, 1) := by decide +kernel
theorem dX9_statement_82 : decode cX9_statement 82 = .ok (.iadd, 1) := by decide +kernel
theorem dX9_statement_83 : decode cX9_statement 83 = .ok (.iaload, 1) := by decide +kernel
theorem dX9_statement_84 : decode cX9_statement 84 = .ok (.iload_n 1, 1) := by decide +kernel
theorem dX9_statement_85 : decode cX9_statement 85 = .ok (.iconst 1, 1) := by decide +kernel
theorem dX9_statement_86 : decode cX9_statement 86 = .ok (.iadd, 1) := by decide +kernel
theorem dX9_statement_87 : decode cX9_statement 87 = .ok (.if_icmp .ne 17, 3) := by decide +kernel
theorem dX9_statement_90 : decode cX9_statement 90 = .ok (.iload 4, 2) := by decide +kernel
theorem dX9_statement_92 : decode cX9_statement 92 = .ok (.aload_n 0, 1) := by decide +kernel
theorem dX9_statement_93 : decode cX9_statement 93 = .ok (.getfield 7, 3) := by decide +kernel
theorem dX9_statement_96 : decode cX9_statement 96 = .ok (.iload 6, 2) := by decide +kernel
theorem dX9_statement_98 : decode cX9_statement 98 = .ok (.iconst 5, 1) := by decide +kernel
theorem dX9_statement_99 : decode cX9_statement 99 = .ok (.iadd, 1) := by decide +kernel
theorem dX9_statement_100 : decode cX9_statement 100 = .ok (.iaload, 1) := by decide +kernel
theorem dX9_statement_101 : decode cX9_statement 101 = .ok (.iadd, 1) := by decide +kernel
theorem dX9_statement_102 : decode cX9_statement 102 = .ok (.istore 4, 2) := by decide +kernel
theorem dX9_statement_104 : decode cX9_statement 104 = .ok (.iinc 5 1, 3) := by decide +kernel
theorem dX9_statement_107 : decode cX9_statement 107 = .ok (.goto (-76), 3) := by decide +kernel
theorem dX9_statement_110 : decode cX9_statement 110 = .ok (.iload 4, 2) := by decide +kernel
theorem dX9_statement_112 : decode cX9_statement 112 = .ok (.ireturn, 1) := by decide +kernel
theorem dX9_stockMore_0 : decode cX9_stockMore 0 = .ok (.aload_n 0, 1) := by decide +kernel
theorem dX9_stockMore_1 : decode cX9_stockMore 1 = .ok (.getfield 7, 3) := by decide +kernel
theorem dX9_stockMore_4 : decode cX9_stockMore 4 = .ok (.bipush 60, 2) := by decide +kernel
theorem dX9_stockMore_6 : decode cX9_stockMore 6 = .ok (.aload_n 0, 1) := by decide +kernel
theorem dX9_stockMore_7 : decode cX9_stockMore 7 = .ok (.iload_n 1, 1) := by decide +kernel
theorem dX9_stockMore_8 : decode cX9_stockMore 8 = .ok (.iload_n 2, 1) := by decide +kernel
theorem dX9_stockMore_9 : decode cX9_stockMore 9 = .ok (.invokevirtual 65, 3) := by decide +kernel
theorem dX9_stockMore_12 : decode cX9_stockMore 12 = .ok (.iadd, 1) := by decide +kernel
theorem dX9_stockMore_13 : decode cX9_stockMore 13 = .ok (.aload_n 0, 1) := by decide +kernel
theorem dX9_stockMore_14 : decode cX9_stockMore 14 = .ok (.getfield 7, 3) := by decide +kernel
theorem dX9_stockMore_17 : decode cX9_stockMore 17 = .ok (.bipush 60, 2) := by decide +kernel
theorem dX9_stockMore_19 : decode cX9_stockMore 19 = .ok (.aload_n 0, 1) := by decide +kernel
theorem dX9_stockMore_20 : decode cX9_stockMore 20 = .ok (.iload_n 1, 1) := by decide +kernel
theorem dX9_stockMore_21 : decode cX9_stockMore 21 = .ok (.iload_n 2, 1) := by decide +kernel
theorem dX9_stockMore_22 : decode cX9_stockMore 22 = .ok (.invokevirtual 65, 3) := by decide +kernel
theorem dX9_stockMore_25 : decode cX9_stockMore 25 = .ok (.iadd, 1) := by decide +kernel
theorem dX9_stockMore_26 : decode cX9_stockMore 26 = .ok (.iaload, 1) := by decide +kernel
theorem dX9_stockMore_27 : decode cX9_stockMore 27 = .ok (.iload_n 3, 1) := by decide +kernel
theorem dX9_stockMore_28 : decode cX9_stockMore 28 = .ok (.iadd, 1) := by decide +kernel
theorem dX9_stockMore_29 : decode cX9_stockMore 29 = .ok (.iastore, 1) := by decide +kernel
theorem dX9_stockMore_30 : decode cX9_stockMore 30 = .ok (.return_, 1) := by decide +kernel
theorem dX9_stockOf_0 : decode cX9_stockOf 0 = .ok (.aload_n 0, 1) := by decide +kernel
theorem dX9_stockOf_1 : decode cX9_stockOf 1 = .ok (.getfield 7, 3) := by decide +kernel
theorem dX9_stockOf_4 : decode cX9_stockOf 4 = .ok (.bipush 60, 2) := by decide +kernel
theorem dX9_stockOf_6 : decode cX9_stockOf 6 = .ok (.aload_n 0, 1) := by decide +kernel
theorem dX9_stockOf_7 : decode cX9_stockOf 7 = .ok (.iload_n 1, 1) := by decide +kernel
theorem dX9_stockOf_8 : decode cX9_stockOf 8 = .ok (.iload_n 2, 1) := by decide +kernel
theorem dX9_stockOf_9 : decode cX9_stockOf 9 = .ok (.invokevirtual 65, 3) := by decide +kernel
theorem dX9_stockOf_12 : decode cX9_stockOf 12 = .ok (.iadd, 1) := by decide +kernel
theorem dX9_stockOf_13 : decode cX9_stockOf 13 = .ok (.iaload, 1) := by decide +kernel
theorem dX9_stockOf_14 : decode cX9_stockOf 14 = .ok (.ireturn, 1) := by decide +kernel
theorem dX9_stress_0 : decode cX9_stress 0 = .ok (.aload_n 0, 1) := by decide +kernel
theorem dX9_stress_1 : decode cX9_stress 1 = .ok (.iconst 0, 1) := by decide +kernel
theorem dX9_stress_2 : decode cX9_stress 2 = .ok (.putfield 58, 3) := by decide +kernel
theorem dX9_stress_5 : decode cX9_stress 5 = .ok (.aload_n 0, 1) := by decide +kernel
theorem dX9_stress_6 : decode cX9_stress 6 = .ok (.iload_n 1, 1) := by decide +kernel
theorem dX9_stress_7 : decode cX9_stress 7 = .ok (.bipush (-99), 2) := by decide +kernel
theorem dX9_stress_9 : decode cX9_stress 9 = .ok (.bipush 99, 2) := by decide +kernel
theorem dX9_stress_11 : decode cX9_stress 11 = .ok (.invokevirtual 79, 3) := by decide +kernel
theorem dX9_stress_14 : decode cX9_stress 14 = .ok (.ifCond .ne 5, 3) := by decide +kernel
theorem dX9_stress_17 : decode cX9_stress 17 = .ok (.iconst (-1), 1) := by decide +kernel
theorem dX9_stress_18 : decode cX9_stress 18 = .ok (.ireturn, 1) := by decide +kernel
theorem dX9_stress_19 : decode cX9_stress 19 = .ok (.iconst 0, 1) := by decide +kernel
theorem dX9_stress_20 : decode cX9_stress 20 = .ok (.istore_n 2, 1) := by decide +kernel
theorem dX9_stress_21 : decode cX9_stress 21 = .ok (.iconst 0, 1) := by decide +kernel
theorem dX9_stress_22 : decode cX9_stress 22 = .ok (.istore_n 3, 1) := by decide +kernel
theorem dX9_stress_23 : decode cX9_stress 23 = .ok (.iload_n 3, 1) := by decide +kernel
theorem dX9_stress_24 : decode cX9_stress 24 = .ok (.aload_n 0, 1) := by decide +kernel
theorem dX9_stress_25 : decode cX9_stress 25 = .ok (.invokevirtual 61, 3) := by decide +kernel
theorem dX9_stress_28 : decode cX9_stress 28 = .ok (.if_icmp .ge 85, 3) := by decide +kernel
theorem dX9_stress_31 : decode cX9_stress 31 = .ok (.aload_n 0, 1) := by decide +kernel
theorem dX9_stress_32 : decode cX9_stress 32 = .ok (.getfield 16, 3) := by decide +kernel
theorem dX9_stress_35 : decode cX9_stress 35 = .ok (.iload_n 3, 1) := by decide +kernel
theorem dX9_stress_36 : decode cX9_stress 36 = .ok (.laload, 1) := by decide +kernel
theorem dX9_stress_37 : decode cX9_stress 37 = .ok (.aload_n 0, 1) := by decide +kernel
theorem dX9_stress_38 : decode cX9_stress 38 = .ok (.getfield 7, 3) := by decide +kernel
theorem dX9_stress_41 : decode cX9_stress 41 = .ok (.bipush 46, 2) := by decide +kernel
theorem dX9_stress_43 : decode cX9_stress 43 = .ok (.iload_n 3, 1) := by decide +kernel
theorem dX9_stress_44 : decode cX9_stress 44 = .ok (.iadd, 1) := by decide +kernel
theorem dX9_stress_45 : decode cX9_stress 45 = .ok (.iaload, 1) := by decide +kernel
theorem dX9_stress_46 : decode cX9_stress 46 = .ok (.i2l, 1) := by decide +kernel
theorem dX9_stress_47 : decode cX9_stress 47 = .ok (.ladd, 1) := by decide +kernel
theorem dX9_stress_48 : decode cX9_stress 48 = .ok (.lstore 4, 2) := by decide +kernel
theorem dX9_stress_50 : decode cX9_stress 50 = .ok (.iconst 0, 1) := by decide +kernel
theorem dX9_stress_51 : decode cX9_stress 51 = .ok (.istore 6, 2) := by decide +kernel
theorem dX9_stress_53 : decode cX9_stress 53 = .ok (.iload 6, 2) := by decide +kernel
theorem dX9_stress_55 : decode cX9_stress 55 = .ok (.bipush 6, 2) := by decide +kernel
theorem dX9_stress_57 : decode cX9_stress 57 = .ok (.if_icmp .ge 37, 3) := by decide +kernel
theorem dX9_stress_60 : decode cX9_stress 60 = .ok (.lload 4, 2) := by decide +kernel
theorem dX9_stress_62 : decode cX9_stress 62 = .ok (.aload_n 0, 1) := by decide +kernel
theorem dX9_stress_63 : decode cX9_stress 63 = .ok (.iload_n 3, 1) := by decide +kernel
theorem dX9_stress_64 : decode cX9_stress 64 = .ok (.iload 6, 2) := by decide +kernel
theorem dX9_stress_66 : decode cX9_stress 66 = .ok (.invokevirtual 119, 3) := by decide +kernel
theorem dX9_stress_69 : decode cX9_stress 69 = .ok (.i2l, 1) := by decide +kernel
theorem dX9_stress_70 : decode cX9_stress 70 = .ok (.aload_n 0, 1) := by decide +kernel
theorem dX9_stress_71 : decode cX9_stress 71 = .ok (.iload 6, 2) := by decide +kernel
theorem dX9_stress_73 : decode cX9_stress 73 = .ok (.invokevirtual 203, 3) := by decide +kernel
theorem dX9_stress_76 : decode cX9_stress 76 = .ok (.i2l, 1) := by decide +kernel
theorem dX9_stress_77 : decode cX9_stress 77 = .ok (.lmul, 1) := by decide +kernel
theorem dX9_stress_78 : decode cX9_stress 78 = .ok (.iload_n 1, 1) := by decide +kernel
theorem dX9_stress_79 : decode cX9_stress 79 = .ok (.i2l, 1) := by decide +kernel
theorem dX9_stress_80 : decode cX9_stress 80 = .ok (.lmul, 1) := by decide +kernel
theorem dX9_stress_81 : decode cX9_stress 81 = .ok (.ldc2_w 316, 3) := by decide +kernel
theorem dX9_stress_84 : decode cX9_stress 84 = .ok (.ldiv, 1) := by decide +kernel
theorem dX9_stress_85 : decode cX9_stress 85 = .ok (.ladd, 1) := by decide +kernel
theorem dX9_stress_86 : decode cX9_stress 86 = .ok (.lstore 4, 2) := by decide +kernel
theorem dX9_stress_88 : decode cX9_stress 88 = .ok (.iinc 6 1, 3) := by decide +kernel
theorem dX9_stress_91 : decode cX9_stress 91 = .ok (.goto (-38), 3) := by decide +kernel
theorem dX9_stress_94 : decode cX9_stress 94 = .ok (.lload 4, 2) := by decide +kernel
theorem dX9_stress_96 : decode cX9_stress 96 = .ok (.lconst 0, 1) := by decide +kernel
theorem dX9_stress_97 : decode cX9_stress 97 = .ok (.lcmp, 1) := by decide +kernel
theorem dX9_stress_98 : decode cX9_stress 98 = .ok (.ifCond .ge 9, 3) := by decide +kernel
theorem dX9_stress_101 : decode cX9_stress 101 = .ok (.iload_n 2, 1) := by decide +kernel
theorem dX9_stress_102 : decode cX9_stress 102 = .ok (.iconst 1, 1) := by decide +kernel
theorem dX9_stress_103 : decode cX9_stress 103 = .ok (.iload_n 3, 1) := by decide +kernel
theorem dX9_stress_104 : decode cX9_stress 104 = .ok (.ishl, 1) := by decide +kernel
theorem dX9_stress_105 : decode cX9_stress 105 = .ok (.ior, 1) := by decide +kernel
theorem dX9_stress_106 : decode cX9_stress 106 = .ok (.istore_n 2, 1) := by decide +kernel
theorem dX9_stress_107 : decode cX9_stress 107 = .ok (.iinc 3 1, 3) := by decide +kernel
theorem dX9_stress_110 : decode cX9_stress 110 = .ok (.goto (-87), 3) := by decide +kernel
theorem dX9_stress_113 : decode cX9_stress 113 = .ok (.iload_n 2, 1) := by decide +kernel
theorem dX9_stress_114 : decode cX9_stress 114 = .ok (.ireturn, 1) := by decide +kernel
theorem dX9_sumOf_0 : decode cX9_sumOf 0 = .ok (.iconst 0, 1) := by decide +kernel
theorem dX9_sumOf_1 : decode cX9_sumOf 1 = .ok (.istore_n 3, 1) := by decide +kernel
theorem dX9_sumOf_2 : decode cX9_sumOf 2 = .ok (.iconst 0, 1) := by decide +kernel
theorem dX9_sumOf_3 : decode cX9_sumOf 3 = .ok (.istore 4, 2) := by decide +kernel
theorem dX9_sumOf_5 : decode cX9_sumOf 5 = .ok (.iload 4, 2) := by decide +kernel
theorem dX9_sumOf_7 : decode cX9_sumOf 7 = .ok (.aload_n 0, 1) := by decide +kernel
theorem dX9_sumOf_8 : decode cX9_sumOf 8 = .ok (.invokevirtual 61, 3) := by decide +kernel
theorem dX9_sumOf_11 : decode cX9_sumOf 11 = .ok (.if_icmp .ge 49, 3) := by decide +kernel
theorem dX9_sumOf_14 : decode cX9_sumOf 14 = .ok (.iload_n 3, 1) := by decide +kernel
theorem dX9_sumOf_15 : decode cX9_sumOf 15 = .ok (.iload_n 2, 1) := by decide +kernel
theorem dX9_sumOf_16 : decode cX9_sumOf 16 = .ok (.iconst 2, 1) := by decide +kernel
theorem dX9_sumOf_17 : decode cX9_sumOf 17 = .ok (.if_icmp .ne 13, 3) := by decide +kernel
theorem dX9_sumOf_20 : decode cX9_sumOf 20 = .ok (.aload_n 0, 1) := by decide +kernel
theorem dX9_sumOf_21 : decode cX9_sumOf 21 = .ok (.iload 4, 2) := by decide +kernel
theorem dX9_sumOf_23 : decode cX9_sumOf 23 = .ok (.iload_n 1, 1) := by decide +kernel
theorem dX9_sumOf_24 : decode cX9_sumOf 24 = .ok (.invokevirtual 200, 3) := by decide +kernel
theorem dX9_sumOf_27 : decode cX9_sumOf 27 = .ok (.goto 25, 3) := by decide +kernel
theorem dX9_sumOf_30 : decode cX9_sumOf 30 = .ok (.iload_n 2, 1) := by decide +kernel
theorem dX9_sumOf_31 : decode cX9_sumOf 31 = .ok (.iconst 3, 1) := by decide +kernel
theorem dX9_sumOf_32 : decode cX9_sumOf 32 = .ok (.if_icmp .ne 13, 3) := by decide +kernel
theorem dX9_sumOf_35 : decode cX9_sumOf 35 = .ok (.aload_n 0, 1) := by decide +kernel
theorem dX9_sumOf_36 : decode cX9_sumOf 36 = .ok (.iload 4, 2) := by decide +kernel
theorem dX9_sumOf_38 : decode cX9_sumOf 38 = .ok (.iload_n 1, 1) := by decide +kernel
theorem dX9_sumOf_39 : decode cX9_sumOf 39 = .ok (.invokevirtual 182, 3) := by decide +kernel
theorem dX9_sumOf_42 : decode cX9_sumOf 42 = .ok (.goto 10, 3) := by decide +kernel
theorem dX9_sumOf_45 : decode cX9_sumOf 45 = .ok (.aload_n 0, 1) := by decide +kernel
theorem dX9_sumOf_46 : decode cX9_sumOf 46 = .ok (.iload 4, 2) := by decide +kernel
theorem dX9_sumOf_48 : decode cX9_sumOf 48 = .ok (.iload_n 1, 1) := by decide +kernel
theorem dX9_sumOf_49 : decode cX9_sumOf 49 = .ok (.invokevirtual 73, 3) := by decide +kernel
theorem dX9_sumOf_52 : decode cX9_sumOf 52 = .ok (.iadd, 1) := by decide +kernel
theorem dX9_sumOf_53 : decode cX9_sumOf 53 = .ok (.istore_n 3, 1) := by decide +kernel
theorem dX9_sumOf_54 : decode cX9_sumOf 54 = .ok (.iinc 4 1, 3) := by decide +kernel
theorem dX9_sumOf_57 : decode cX9_sumOf 57 = .ok (.goto (-52), 3) := by decide +kernel
theorem dX9_sumOf_60 : decode cX9_sumOf 60 = .ok (.iload_n 3, 1) := by decide +kernel
theorem dX9_sumOf_61 : decode cX9_sumOf 61 = .ok (.ireturn, 1) := by decide +kernel
theorem dX9_suspend_0 : decode cX9_suspend 0 = .ok (.aload_n 0, 1) := by decide +kernel
theorem dX9_suspend_1 : decode cX9_suspend 1 = .ok (.iconst 0, 1) := by decide +kernel
theorem dX9_suspend_2 : decode cX9_suspend 2 = .ok (.putfield 58, 3) := by decide +kernel
theorem dX9_suspend_5 : decode cX9_suspend 5 = .ok (.aload_n 0, 1) := by decide +kernel
theorem dX9_suspend_6 : decode cX9_suspend 6 = .ok (.iload_n 1, 1) := by decide +kernel
theorem dX9_suspend_7 : decode cX9_suspend 7 = .ok (.invokevirtual 90, 3) := by decide +kernel
theorem dX9_suspend_10 : decode cX9_suspend 10 = .ok (.ifCond .ne 5, 3) := by decide +kernel
theorem dX9_suspend_13 : decode cX9_suspend 13 = .ok (.iconst 0, 1) := by decide +kernel
theorem dX9_suspend_14 : decode cX9_suspend 14 = .ok (.ireturn, 1) := by decide +kernel
theorem dX9_suspend_15 : decode cX9_suspend 15 = .ok (.aload_n 0, 1) := by decide +kernel
theorem dX9_suspend_16 : decode cX9_suspend 16 = .ok (.getfield 7, 3) := by decide +kernel
theorem dX9_suspend_19 : decode cX9_suspend 19 = .ok (.bipush 11, 2) := by decide +kernel
theorem dX9_suspend_21 : decode cX9_suspend 21 = .ok (.iload_n 2, 1) := by decide +kernel
theorem dX9_suspend_22 : decode cX9_suspend 22 = .ok (.ifCond .eq 17, 3) := by decide +kernel
theorem dX9_suspend_25 : decode cX9_suspend 25 = .ok (.aload_n 0, 1) := by decide +kernel
theorem dX9_suspend_26 : decode cX9_suspend 26 = .ok (.getfield 7, 3) := by decide +kernel
theorem dX9_suspend_29 : decode cX9_suspend 29 = .ok (.bipush 11, 2) := by decide +kernel
theorem dX9_suspend_31 : decode cX9_suspend 31 = .ok (.iaload, 1) := by decide +kernel
theorem dX9_suspend_32 : decode cX9_suspend 32 = .ok (.iconst 1, 1) := by decide +kernel
theorem dX9_suspend_33 : decode cX9_suspend 33 = .ok (.iload_n 1, 1) := by decide +kernel
theorem dX9_suspend_34 : decode cX9_suspend 34 = .ok (.ishl, 1) := by decide +kernel
theorem dX9_suspend_35 : decode cX9_suspend 35 = .ok (.ior, 1) := by decide +kernel
theorem dX9_suspend_36 : decode cX9_suspend 36 = .ok (.goto 16, 3) := by decide +kernel
theorem dX9_suspend_39 : decode cX9_suspend 39 = .ok (.aload_n 0, 1) := by decide +kernel
theorem dX9_suspend_40 : decode cX9_suspend 40 = .ok (.getfield 7, 3) := by decide +kernel
theorem dX9_suspend_43 : decode cX9_suspend 43 = .ok (.bipush 11, 2) := by decide +kernel
theorem dX9_suspend_45 : decode cX9_suspend 45 = .ok (.iaload, 1) := by decide +kernel
theorem dX9_suspend_46 : decode cX9_suspend 46 = .ok (.iconst 1, 1) := by decide +kernel
theorem dX9_suspend_47 : decode cX9_suspend 47 = .ok (.iload_n 1, 1) := by decide +kernel
theorem dX9_suspend_48 : decode cX9_suspend 48 = .ok (.ishl, 1) := by decide +kernel
theorem dX9_suspend_49 : decode cX9_suspend 49 = .ok (.iconst (-1), 1) := by decide +kernel
theorem dX9_suspend_50 : decode cX9_suspend 50 = .ok (.ixor, 1) := by decide +kernel
theorem dX9_suspend_51 : decode cX9_suspend 51 = .ok (.iand, 1) := by decide +kernel
theorem dX9_suspend_52 : decode cX9_suspend 52 = .ok (.iastore, 1) := by decide +kernel
theorem dX9_suspend_53 : decode cX9_suspend 53 = .ok (.iconst 1, 1) := by decide +kernel
theorem dX9_suspend_54 : decode cX9_suspend 54 = .ok (.ireturn, 1) := by decide +kernel
theorem dX9_takesAssigned_0 : decode cX9_takesAssigned 0 = .ok (.iload_n 3, 1) := by decide +kernel
theorem dX9_takesAssigned_1 : decode cX9_takesAssigned 1 = .ok (.istore 4, 2) := by decide +kernel
theorem dX9_takesAssigned_3 : decode cX9_takesAssigned 3 = .ok (.iconst 0, 1) := by decide +kernel
theorem dX9_takesAssigned_4 : decode cX9_takesAssigned 4 = .ok (.istore 5, 2) := by decide +kernel
theorem dX9_takesAssigned_6 : decode cX9_takesAssigned 6 = .ok (.iload 5, 2) := by decide +kernel
theorem dX9_takesAssigned_8 : decode cX9_takesAssigned 8 = .ok (.aload_n 0, 1) := by decide +kernel
theorem dX9_takesAssigned_9 : decode cX9_takesAssigned 9 = .ok (.getfield 7, 3) := by decide +kernel
theorem dX9_takesAssigned_12 : decode cX9_takesAssigned 12 = .ok (.bipush 8, 2) := by decide +kernel
theorem dX9_takesAssigned_14 : decode cX9_takesAssigned 14 = .ok (.iaload, 1) := by decide +kernel
theorem dX9_takesAssigned_15 : decode cX9_takesAssigned 15 = .ok (.if_icmp .ge 76, 3) := by decide +kernel
theorem dX9_takesAssigned_18 : decode cX9_takesAssigned 18 = .ok (.aload_n 0, 1) := by decide +kernel
theorem dX9_takesAssigned_19 : decode cX9_takesAssigned 19 = .ok (.iload 5, 2) := by decide +kernel
theorem dX9_takesAssigned_21 : decode cX9_takesAssigned 21 = .ok (.iload_n 2, 1) := by decide +kernel
theorem dX9_takesAssigned_22 : decode cX9_takesAssigned 22 = .ok (.invokevirtual 160, 3) := by decide +kernel
theorem dX9_takesAssigned_25 : decode cX9_takesAssigned 25 = .ok (.ifCond .ne 6, 3) := by decide +kernel
theorem dX9_takesAssigned_28 : decode cX9_takesAssigned 28 = .ok (.goto 57, 3) := by decide +kernel
theorem dX9_takesAssigned_31 : decode cX9_takesAssigned 31 = .ok (.aload_n 0, 1) := by decide +kernel
theorem dX9_takesAssigned_32 : decode cX9_takesAssigned 32 = .ok (.iload 4, 2) := by decide +kernel
theorem dX9_takesAssigned_34 : decode cX9_takesAssigned 34 = .ok (.aload_n 0, 1) := by decide +kernel
theorem dX9_takesAssigned_35 : decode cX9_takesAssigned 35 = .ok (.iload 5, 2) := by decide +kernel
theorem dX9_takesAssigned_37 : decode cX9_takesAssigned 37 = .ok (.bipush 8, 2) := by decide +kernel
theorem dX9_takesAssigned_39 : decode cX9_takesAssigned 39 = .ok (.iload_n 1, 1) := by decide +kernel
theorem dX9_takesAssigned_40 : decode cX9_takesAssigned 40 = .ok (.iadd, 1) := by decide +kernel
theorem dX9_takesAssigned_41 : decode cX9_takesAssigned 41 = .ok (.invokevirtual 157, 3) := by decide +kernel
theorem dX9_takesAssigned_44 : decode cX9_takesAssigned 44 = .ok (.invokevirtual 131, 3) := by decide +kernel
theorem dX9_takesAssigned_47 : decode cX9_takesAssigned 47 = .ok (.istore 6, 2) := by decide +kernel
theorem dX9_takesAssigned_49 : decode cX9_takesAssigned 49 = .ok (.aload_n 0, 1) := by decide +kernel
theorem dX9_takesAssigned_50 : decode cX9_takesAssigned 50 = .ok (.getfield 7, 3) := by decide +kernel
theorem dX9_takesAssigned_53 : decode cX9_takesAssigned 53 = .ok (.aload_n 0, 1) := by decide +kernel
theorem dX9_takesAssigned_54 : decode cX9_takesAssigned 54 = .ok (.iload 5, 2) := by decide +kernel
theorem dX9_takesAssigned_56 : decode cX9_takesAssigned 56 = .ok (.invokevirtual 154, 3) := by decide +kernel
theorem dX9_takesAssigned_59 : decode cX9_takesAssigned 59 = .ok (.bipush 8, 2) := by decide +kernel
theorem dX9_takesAssigned_61 : decode cX9_takesAssigned 61 = .ok (.iadd, 1) := by decide +kernel
theorem dX9_takesAssigned_62 : decode cX9_takesAssigned 62 = .ok (.iload_n 1, 1) := by decide +kernel
theorem dX9_takesAssigned_63 : decode cX9_takesAssigned 63 = .ok (.iadd, 1) := by decide +kernel
theorem dX9_takesAssigned_64 : decode cX9_takesAssigned 64 = .ok (.aload_n 0, 1) := by decide +kernel
theorem dX9_takesAssigned_65 : decode cX9_takesAssigned 65 = .ok (.iload 5, 2) := by decide +kernel
theorem dX9_takesAssigned_67 : decode cX9_takesAssigned 67 = .ok (.bipush 8, 2) := by decide +kernel
theorem dX9_takesAssigned_69 : decode cX9_takesAssigned 69 = .ok (.iload_n 1, 1) := by decide +kernel
theorem dX9_takesAssigned_70 : decode cX9_takesAssigned 70 = .ok (.iadd, 1) := by decide +kernel
theorem dX9_takesAssigned_71 : decode cX9_takesAssigned 71 = .ok (.invokevirtual 157, 3) := by decide +kernel
theorem dX9_takesAssigned_74 : decode cX9_takesAssigned 74 = .ok (.iload 6, 2) := by decide +kernel
theorem dX9_takesAssigned_76 : decode cX9_takesAssigned 76 = .ok (.isub, 1) := by decide +kernel
theorem dX9_takesAssigned_77 : decode cX9_takesAssigned 77 = .ok (.iastore, 1) := by decide +kernel
theorem dX9_takesAssigned_78 : decode cX9_takesAssigned 78 = .ok (.iload 4, 2) := by decide +kernel
theorem dX9_takesAssigned_80 : decode cX9_takesAssigned 80 = .ok (.iload 6, 2) := by decide +kernel
theorem dX9_takesAssigned_82 : decode cX9_takesAssigned 82 = .ok (.isub, 1) := by decide +kernel
theorem dX9_takesAssigned_83 : decode cX9_takesAssigned 83 = .ok (.istore 4, 2) := by decide +kernel
theorem dX9_takesAssigned_85 : decode cX9_takesAssigned 85 = .ok (.iinc 5 1, 3) := by decide +kernel
theorem dX9_takesAssigned_88 : decode cX9_takesAssigned 88 = .ok (.goto (-82), 3) := by decide +kernel
theorem dX9_takesAssigned_91 : decode cX9_takesAssigned 91 = .ok (.return_, 1) := by decide +kernel
theorem dX9_takesOf_0 : decode cX9_takesOf 0 = .ok (.sipush 7764, 3) := by decide +kernel
theorem dX9_takesOf_3 : decode cX9_takesOf 3 = .ok (.aload_n 0, 1) := by decide +kernel
theorem dX9_takesOf_4 : decode cX9_takesOf 4 = .ok (.iload_n 1, 1) := by decide +kernel
theorem dX9_takesOf_5 : decode cX9_takesOf 5 = .ok (.iload_n 2, 1) := by decide +kernel
theorem dX9_takesOf_6 : decode cX9_takesOf 6 = .ok (.iload_n 3, 1) := by decide +kernel
theorem dX9_takesOf_7 : decode cX9_takesOf 7 = .ok (.invokevirtual 106, 3) := by decide +kernel
theorem dX9_takesOf_10 : decode cX9_takesOf 10 = .ok (.iadd, 1) := by decide +kernel
theorem dX9_takesOf_11 : decode cX9_takesOf 11 = .ok (.istore 5, 2) := by decide +kernel
theorem dX9_takesOf_13 : decode cX9_takesOf 13 = .ok (.aload_n 0, 1) := by decide +kernel
theorem dX9_takesOf_14 : decode cX9_takesOf 14 = .ok (.getfield 7, 3) := by decide +kernel
theorem dX9_takesOf_17 : decode cX9_takesOf 17 = .ok (.iload 5, 2) := by decide +kernel
theorem dX9_takesOf_19 : decode cX9_takesOf 19 = .ok (.aload_n 0, 1) := by decide +kernel
theorem dX9_takesOf_20 : decode cX9_takesOf 20 = .ok (.getfield 7, 3) := by decide +kernel
theorem dX9_takesOf_23 : decode cX9_takesOf 23 = .ok (.iload 5, 2) := by decide +kernel
theorem dX9_takesOf_25 : decode cX9_takesOf 25 = .ok (.iaload, 1) := by decide +kernel
theorem dX9_takesOf_26 : decode cX9_takesOf 26 = .ok (.ifCond .le 16, 3) := by decide +kernel
theorem dX9_takesOf_29 : decode cX9_takesOf 29 = .ok (.aload_n 0, 1) := by decide +kernel
theorem dX9_takesOf_30 : decode cX9_takesOf 30 = .ok (.getfield 7, 3) := by decide +kernel
theorem dX9_takesOf_33 : decode cX9_takesOf 33 = .ok (.iload 5, 2) := by decide +kernel
theorem dX9_takesOf_35 : decode cX9_takesOf 35 = .ok (.iaload, 1) := by decide +kernel
theorem dX9_takesOf_36 : decode cX9_takesOf 36 = .ok (.iload 4, 2) := by decide +kernel
theorem dX9_takesOf_38 : decode cX9_takesOf 38 = .ok (.isub, 1) := by decide +kernel
theorem dX9_takesOf_39 : decode cX9_takesOf 39 = .ok (.goto 13, 3) := by decide +kernel
theorem dX9_takesOf_42 : decode cX9_takesOf 42 = .ok (.aload_n 0, 1) := by decide +kernel
theorem dX9_takesOf_43 : decode cX9_takesOf 43 = .ok (.getfield 7, 3) := by decide +kernel
theorem dX9_takesOf_46 : decode cX9_takesOf 46 = .ok (.iload 5, 2) := by decide +kernel
theorem dX9_takesOf_48 : decode cX9_takesOf 48 = .ok (.iaload, 1) := by decide +kernel
theorem dX9_takesOf_49 : decode cX9_takesOf 49 = .ok (.iload 4, 2) := by decide +kernel
theorem dX9_takesOf_51 : decode cX9_takesOf 51 = .ok (.iadd, 1) := by decide +kernel
theorem dX9_takesOf_52 : decode cX9_takesOf 52 = .ok (.iastore, 1) := by decide +kernel
theorem dX9_takesOf_53 : decode cX9_takesOf 53 = .ok (.aload_n 0, 1) := by decide +kernel
theorem dX9_takesOf_54 : decode cX9_takesOf 54 = .ok (.getfield 7, 3) := by decide +kernel
theorem dX9_takesOf_57 : decode cX9_takesOf 57 = .ok (.iload 5, 2) := by decide +kernel
theorem dX9_takesOf_59 : decode cX9_takesOf 59 = .ok (.iaload, 1) := by decide +kernel
theorem dX9_takesOf_60 : decode cX9_takesOf 60 = .ok (.ifCond .ne 10, 3) := by decide +kernel
theorem dX9_takesOf_63 : decode cX9_takesOf 63 = .ok (.aload_n 0, 1) := by decide +kernel
theorem dX9_takesOf_64 : decode cX9_takesOf 64 = .ok (.iload_n 1, 1) := by decide +kernel
theorem dX9_takesOf_65 : decode cX9_takesOf 65 = .ok (.iload_n 2, 1) := by decide +kernel
theorem dX9_takesOf_66 : decode cX9_takesOf 66 = .ok (.iload_n 3, 1) := by decide +kernel
theorem dX9_takesOf_67 : decode cX9_takesOf 67 = .ok (.invokevirtual 128, 3) := by decide +kernel
theorem dX9_takesOf_70 : decode cX9_takesOf 70 = .ok (.return_, 1) := by decide +kernel
theorem dX9_takesOff_0 : decode cX9_takesOff 0 = .ok (.iload_n 3, 1) := by decide +kernel
theorem dX9_takesOff_1 : decode cX9_takesOff 1 = .ok (.istore 4, 2) := by decide +kernel
theorem dX9_takesOff_3 : decode cX9_takesOff 3 = .ok (.iload 4, 2) := by decide +kernel
theorem dX9_takesOff_5 : decode cX9_takesOff 5 = .ok (.ifCond .le 57, 3) := by decide +kernel
theorem dX9_takesOff_8 : decode cX9_takesOff 8 = .ok (.aload_n 0, 1) := by decide +kernel
theorem dX9_takesOff_9 : decode cX9_takesOff 9 = .ok (.iload_n 1, 1) := by decide +kernel
theorem dX9_takesOff_10 : decode cX9_takesOff 10 = .ok (.iload_n 2, 1) := by decide +kernel
theorem dX9_takesOff_11 : decode cX9_takesOff 11 = .ok (.invokevirtual 110, 3) := by decide +kernel
theorem dX9_takesOff_14 : decode cX9_takesOff 14 = .ok (.ifCond .le 48, 3) := by decide +kernel
theorem dX9_takesOff_17 : decode cX9_takesOff 17 = .ok (.aload_n 0, 1) := by decide +kernel
theorem dX9_takesOff_18 : decode cX9_takesOff 18 = .ok (.iload_n 1, 1) := by decide +kernel
theorem dX9_takesOff_19 : decode cX9_takesOff 19 = .ok (.iload_n 2, 1) := by decide +kernel
theorem dX9_takesOff_20 : decode cX9_takesOff 20 = .ok (.iconst 0, 1) := by decide +kernel
theorem dX9_takesOff_21 : decode cX9_takesOff 21 = .ok (.invokevirtual 113, 3) := by decide +kernel
theorem dX9_takesOff_24 : decode cX9_takesOff 24 = .ok (.istore 5, 2) := by decide +kernel
theorem dX9_takesOff_26 : decode cX9_takesOff 26 = .ok (.aload_n 0, 1) := by decide +kernel
theorem dX9_takesOff_27 : decode cX9_takesOff 27 = .ok (.iload 4, 2) := by decide +kernel
theorem dX9_takesOff_29 : decode cX9_takesOff 29 = .ok (.aload_n 0, 1) := by decide +kernel
theorem dX9_takesOff_30 : decode cX9_takesOff 30 = .ok (.iload 5, 2) := by decide +kernel
theorem dX9_takesOff_32 : decode cX9_takesOff 32 = .ok (.iload 5, 2) := by decide +kernel
theorem dX9_takesOff_34 : decode cX9_takesOff 34 = .ok (.ineg, 1) := by decide +kernel
theorem dX9_takesOff_35 : decode cX9_takesOff 35 = .ok (.invokevirtual 76, 3) := by decide +kernel
theorem dX9_takesOff_38 : decode cX9_takesOff 38 = .ok (.invokevirtual 131, 3) := by decide +kernel
theorem dX9_takesOff_41 : decode cX9_takesOff 41 = .ok (.istore 6, 2) := by decide +kernel
theorem dX9_takesOff_43 : decode cX9_takesOff 43 = .ok (.aload_n 0, 1) := by decide +kernel
theorem dX9_takesOff_44 : decode cX9_takesOff 44 = .ok (.iload_n 1, 1) := by decide +kernel
theorem dX9_takesOff_45 : decode cX9_takesOff 45 = .ok (.iload_n 2, 1) := by decide +kernel
theorem dX9_takesOff_46 : decode cX9_takesOff 46 = .ok (.iconst 0, 1) := by decide +kernel
theorem dX9_takesOff_47 : decode cX9_takesOff 47 = .ok (.iload 6, 2) := by decide +kernel
theorem dX9_takesOff_49 : decode cX9_takesOff 49 = .ok (.invokevirtual 134, 3) := by decide +kernel
theorem dX9_takesOff_52 : decode cX9_takesOff 52 = .ok (.iload 4, 2) := by decide +kernel
theorem dX9_takesOff_54 : decode cX9_takesOff 54 = .ok (.iload 6, 2) := by decide +kernel
theorem dX9_takesOff_56 : decode cX9_takesOff 56 = .ok (.isub, 1) := by decide +kernel
theorem dX9_takesOff_57 : decode cX9_takesOff 57 = .ok (.istore 4, 2) := by decide +kernel
theorem dX9_takesOff_59 : decode cX9_takesOff 59 = .ok (.goto (-56), 3) := by decide +kernel
theorem dX9_takesOff_62 : decode cX9_takesOff 62 = .ok (.return_, 1) := by decide +kernel
theorem dX9_tell_0 : decode cX9_tell 0 = .ok (.aload_n 0, 1) := by decide +kernel
theorem dX9_tell_1 : decode cX9_tell 1 = .ok (.iconst 0, 1) := by decide +kernel
theorem dX9_tell_2 : decode cX9_tell 2 = .ok (.putfield 58, 3) := by decide +kernel
theorem dX9_tell_5 : decode cX9_tell 5 = .ok (.aload_n 0, 1) := by decide +kernel
theorem dX9_tell_6 : decode cX9_tell 6 = .ok (.iload_n 1, 1) := by decide +kernel
theorem dX9_tell_7 : decode cX9_tell 7 = .ok (.invokevirtual 90, 3) := by decide +kernel
theorem dX9_tell_10 : decode cX9_tell 10 = .ok (.ifCond .eq 13, 3) := by decide +kernel
theorem dX9_tell_13 : decode cX9_tell 13 = .ok (.aload_n 0, 1) := by decide +kernel
theorem dX9_tell_14 : decode cX9_tell 14 = .ok (.iload_n 3, 1) := by decide +kernel
theorem dX9_tell_15 : decode cX9_tell 15 = .ok (.iconst 0, 1) := by decide +kernel
theorem dX9_tell_16 : decode cX9_tell 16 = .ok (.iconst 3, 1) := by decide +kernel
theorem dX9_tell_17 : decode cX9_tell 17 = .ok (.invokevirtual 79, 3) := by decide +kernel
theorem dX9_tell_20 : decode cX9_tell 20 = .ok (.ifCond .ne 5, 3) := by decide +kernel
theorem dX9_tell_23 : decode cX9_tell 23 = .ok (.iconst 0, 1) := by decide +kernel
theorem dX9_tell_24 : decode cX9_tell 24 = .ok (.ireturn, 1) := by decide +kernel
theorem dX9_tell_25 : decode cX9_tell 25 = .ok (.iload_n 3, 1) := by decide +kernel
theorem dX9_tell_26 : decode cX9_tell 26 = .ok (.iconst 3, 1) := by decide +kernel
theorem dX9_tell_27 : decode cX9_tell 27 = .ok (.if_icmp .ne 30, 3) := by decide +kernel
theorem dX9_tell_30 : decode cX9_tell 30 = .ok (.aload_n 0, 1) := by decide +kernel
theorem dX9_tell_31 : decode cX9_tell 31 = .ok (.iload 4, 2) := by decide +kernel
theorem dX9_tell_33 : decode cX9_tell 33 = .ok (.iconst 0, 1) := by decide +kernel
theorem dX9_tell_34 : decode cX9_tell 34 = .ok (.bipush 9, 2) := by decide +kernel
theorem dX9_tell_36 : decode cX9_tell 36 = .ok (.invokevirtual 79, 3) := by decide +kernel
theorem dX9_tell_39 : decode cX9_tell 39 = .ok (.ifCond .ne 5, 3) := by decide +kernel
theorem dX9_tell_42 : decode cX9_tell 42 = .ok (.iconst 0, 1) := by decide +kernel
theorem dX9_tell_43 : decode cX9_tell 43 = .ok (.ireturn, 1) := by decide +kernel
theorem dX9_tell_44 : decode cX9_tell 44 = .ok (.aload_n 0, 1) := by decide +kernel
theorem dX9_tell_45 : decode cX9_tell 45 = .ok (.getfield 7, 3) := by decide +kernel
theorem dX9_tell_48 : decode cX9_tell 48 = .ok (.bipush 34, 2) := by decide +kernel
theorem dX9_tell_50 : decode cX9_tell 50 = .ok (.iload_n 1, 1) := by decide +kernel
theorem dX9_tell_51 : decode cX9_tell 51 = .ok (.iadd, 1) := by decide +kernel
theorem dX9_tell_52 : decode cX9_tell 52 = .ok (.iload 4, 2) := by decide +kernel
theorem dX9_tell_54 : decode cX9_tell 54 = .ok (.iastore, 1) := by decide +kernel
theorem dX9_tell_55 : decode cX9_tell 55 = .ok (.iconst 1, 1) := by decide +kernel
theorem dX9_tell_56 : decode cX9_tell 56 = .ok (.ireturn, 1) := by decide +kernel
theorem dX9_tell_57 : decode cX9_tell 57 = .ok (.aload_n 0, 1) := by decide +kernel
theorem dX9_tell_58 : decode cX9_tell 58 = .ok (.iload_n 2, 1) := by decide +kernel
theorem dX9_tell_59 : decode cX9_tell 59 = .ok (.invokevirtual 94, 3) := by decide +kernel
theorem dX9_tell_62 : decode cX9_tell 62 = .ok (.ifCond .eq 15, 3) := by decide +kernel
theorem dX9_tell_65 : decode cX9_tell 65 = .ok (.aload_n 0, 1) := by decide +kernel
theorem dX9_tell_66 : decode cX9_tell 66 = .ok (.iload 4, 2) := by decide +kernel
theorem dX9_tell_68 : decode cX9_tell 68 = .ok (.iconst 0, 1) := by decide +kernel
theorem dX9_tell_69 : decode cX9_tell 69 = .ok (.ldc 97, 2) := by decide +kernel
theorem dX9_tell_71 : decode cX9_tell 71 = .ok (.invokevirtual 79, 3) := by decide +kernel
theorem dX9_tell_74 : decode cX9_tell 74 = .ok (.ifCond .ne 5, 3) := by decide +kernel
theorem dX9_tell_77 : decode cX9_tell 77 = .ok (.iconst 0, 1) := by decide +kernel
theorem dX9_tell_78 : decode cX9_tell 78 = .ok (.ireturn, 1) := by decide +kernel
theorem dX9_tell_79 : decode cX9_tell 79 = .ok (.aload_n 0, 1) := by decide +kernel
theorem dX9_tell_80 : decode cX9_tell 80 = .ok (.getfield 7, 3) := by decide +kernel
theorem dX9_tell_83 : decode cX9_tell 83 = .ok (.bipush 60, 2) := by decide +kernel
theorem dX9_tell_85 : decode cX9_tell 85 = .ok (.bipush 72, 2) := by decide +kernel
theorem dX9_tell_87 : decode cX9_tell 87 = .ok (.iload_n 3, 1) := by decide +kernel
theorem dX9_tell_88 : decode cX9_tell 88 = .ok (.imul, 1) := by decide +kernel
theorem dX9_tell_89 : decode cX9_tell 89 = .ok (.iadd, 1) := by decide +kernel
theorem dX9_tell_90 : decode cX9_tell 90 = .ok (.aload_n 0, 1) := by decide +kernel
theorem dX9_tell_91 : decode cX9_tell 91 = .ok (.iload_n 1, 1) := by decide +kernel
theorem dX9_tell_92 : decode cX9_tell 92 = .ok (.iload_n 2, 1) := by decide +kernel
theorem dX9_tell_93 : decode cX9_tell 93 = .ok (.invokevirtual 65, 3) := by decide +kernel
theorem dX9_tell_96 : decode cX9_tell 96 = .ok (.iadd, 1) := by decide +kernel
theorem dX9_tell_97 : decode cX9_tell 97 = .ok (.iload 4, 2) := by decide +kernel
theorem dX9_tell_99 : decode cX9_tell 99 = .ok (.iastore, 1) := by decide +kernel
theorem dX9_tell_100 : decode cX9_tell 100 = .ok (.iconst 1, 1) := by decide +kernel
theorem dX9_tell_101 : decode cX9_tell 101 = .ok (.ireturn, 1) := by decide +kernel
theorem dX9_tomorrow_0 : decode cX9_tomorrow 0 = .ok (.aload_n 0, 1) := by decide +kernel
theorem dX9_tomorrow_1 : decode cX9_tomorrow 1 = .ok (.iconst 0, 1) := by decide +kernel
theorem dX9_tomorrow_2 : decode cX9_tomorrow 2 = .ok (.putfield 58, 3) := by decide +kernel
theorem dX9_tomorrow_5 : decode cX9_tomorrow 5 = .ok (.aload_n 0, 1) := by decide +kernel
theorem dX9_tomorrow_6 : decode cX9_tomorrow 6 = .ok (.iload_n 1, 1) := by decide +kernel
theorem dX9_tomorrow_7 : decode cX9_tomorrow 7 = .ok (.invokevirtual 90, 3) := by decide +kernel
theorem dX9_tomorrow_10 : decode cX9_tomorrow 10 = .ok (.ifCond .eq 34, 3) := by decide +kernel
theorem dX9_tomorrow_13 : decode cX9_tomorrow 13 = .ok (.aload_n 0, 1) := by decide +kernel
theorem dX9_tomorrow_14 : decode cX9_tomorrow 14 = .ok (.iload_n 2, 1) := by decide +kernel
theorem dX9_tomorrow_15 : decode cX9_tomorrow 15 = .ok (.invokevirtual 94, 3) := by decide +kernel
theorem dX9_tomorrow_18 : decode cX9_tomorrow 18 = .ok (.ifCond .eq 26, 3) := by decide +kernel
theorem dX9_tomorrow_21 : decode cX9_tomorrow 21 = .ok (.aload_n 0, 1) := by decide +kernel
theorem dX9_tomorrow_22 : decode cX9_tomorrow 22 = .ok (.iload_n 3, 1) := by decide +kernel
theorem dX9_tomorrow_23 : decode cX9_tomorrow 23 = .ok (.iconst 0, 1) := by decide +kernel
theorem dX9_tomorrow_24 : decode cX9_tomorrow 24 = .ok (.bipush 9, 2) := by decide +kernel
theorem dX9_tomorrow_26 : decode cX9_tomorrow 26 = .ok (.invokevirtual 79, 3) := by decide +kernel
theorem dX9_tomorrow_29 : decode cX9_tomorrow 29 = .ok (.ifCond .eq 15, 3) := by decide +kernel
theorem dX9_tomorrow_32 : decode cX9_tomorrow 32 = .ok (.aload_n 0, 1) := by decide +kernel
theorem dX9_tomorrow_33 : decode cX9_tomorrow 33 = .ok (.getfield 7, 3) := by decide +kernel
theorem dX9_tomorrow_36 : decode cX9_tomorrow 36 = .ok (.bipush 6, 2) := by decide +kernel
theorem dX9_tomorrow_38 : decode cX9_tomorrow 38 = .ok (.iaload, 1) := by decide +kernel
theorem dX9_tomorrow_39 : decode cX9_tomorrow 39 = .ok (.bipush 99, 2) := by decide +kernel
theorem dX9_tomorrow_41 : decode cX9_tomorrow 41 = .ok (.if_icmp .ne 7, 3) := by decide +kernel
theorem dX9_tomorrow_44 : decode cX9_tomorrow 44 = .ok (.ldc_w 330, 3) := by decide +kernel
theorem dX9_tomorrow_47 : decode cX9_tomorrow 47 = .ok (.ireturn, 1) := by decide +kernel
theorem dX9_tomorrow_48 : decode cX9_tomorrow 48 = .ok (.iconst 0, 1) := by decide +kernel
theorem dX9_tomorrow_49 : decode cX9_tomorrow 49 = .ok (.istore 4, 2) := by decide +kernel
theorem dX9_tomorrow_51 : decode cX9_tomorrow 51 = .ok (.iload 4, 2) := by decide +kernel
theorem dX9_tomorrow_53 : decode cX9_tomorrow 53 = .ok (.sipush 19782, 3) := by decide +kernel
theorem dX9_tomorrow_56 : decode cX9_tomorrow 56 = .ok (.if_icmp .ge 23, 3) := by decide +kernel
theorem dX9_tomorrow_59 : decode cX9_tomorrow 59 = .ok (.aload_n 0, 1) := by decide +kernel
theorem dX9_tomorrow_60 : decode cX9_tomorrow 60 = .ok (.getfield 13, 3) := by decide +kernel
theorem dX9_tomorrow_63 : decode cX9_tomorrow 63 = .ok (.iload 4, 2) := by decide +kernel
theorem dX9_tomorrow_65 : decode cX9_tomorrow 65 = .ok (.aload_n 0, 1) := by decide +kernel
theorem dX9_tomorrow_66 : decode cX9_tomorrow 66 = .ok (.getfield 7, 3) := by decide +kernel
theorem dX9_tomorrow_69 : decode cX9_tomorrow 69 = .ok (.iload 4, 2) := by decide +kernel
theorem dX9_tomorrow_71 : decode cX9_tomorrow 71 = .ok (.iaload, 1) := by decide +kernel
theorem dX9_tomorrow_72 : decode cX9_tomorrow 72 = .ok (.iastore, 1) := by decide +kernel
theorem dX9_tomorrow_73 : decode cX9_tomorrow 73 = .ok (.iinc 4 1, 3) := by decide +kernel
theorem dX9_tomorrow_76 : decode cX9_tomorrow 76 = .ok (.goto (-25), 3) := by decide +kernel
theorem dX9_tomorrow_79 : decode cX9_tomorrow 79 = .ok (.iconst 0, 1) := by decide +kernel
theorem dX9_tomorrow_80 : decode cX9_tomorrow 80 = .ok (.istore 4, 2) := by decide +kernel
theorem dX9_tomorrow_82 : decode cX9_tomorrow 82 = .ok (.iload 4, 2) := by decide +kernel
theorem dX9_tomorrow_84 : decode cX9_tomorrow 84 = .ok (.bipush 13, 2) := by decide +kernel
theorem dX9_tomorrow_86 : decode cX9_tomorrow 86 = .ok (.if_icmp .ge 23, 3) := by decide +kernel
theorem dX9_tomorrow_89 : decode cX9_tomorrow 89 = .ok (.aload_n 0, 1) := by decide +kernel
theorem dX9_tomorrow_90 : decode cX9_tomorrow 90 = .ok (.getfield 20, 3) := by decide +kernel
theorem dX9_tomorrow_93 : decode cX9_tomorrow 93 = .ok (.iload 4, 2) := by decide +kernel
theorem dX9_tomorrow_95 : decode cX9_tomorrow 95 = .ok (.aload_n 0, 1) := by decide +kernel
theorem dX9_tomorrow_96 : decode cX9_tomorrow 96 = .ok (.getfield 16, 3) := by decide +kernel
theorem dX9_tomorrow_99 : decode cX9_tomorrow 99 = .ok (.iload 4, 2) := by decide +kernel
theorem dX9_tomorrow_101 : decode cX9_tomorrow 101 = .ok (.laload, 1) := by decide +kernel
theorem dX9_tomorrow_102 : decode cX9_tomorrow 102 = .ok (.lastore, 1) := by decide +kernel
theorem dX9_tomorrow_103 : decode cX9_tomorrow 103 = .ok (.iinc 4 1, 3) := by decide +kernel
theorem dX9_tomorrow_106 : decode cX9_tomorrow 106 = .ok (.goto (-24), 3) := by decide +kernel
theorem dX9_tomorrow_109 : decode cX9_tomorrow 109 = .ok (.aload_n 0, 1) := by decide +kernel
theorem dX9_tomorrow_110 : decode cX9_tomorrow 110 = .ok (.invokevirtual 303, 3) := by decide +kernel
theorem dX9_tomorrow_113 : decode cX9_tomorrow 113 = .ok (.iload_n 3, 1) := by decide +kernel
theorem dX9_tomorrow_114 : decode cX9_tomorrow 114 = .ok (.bipush 9, 2) := by decide +kernel
theorem dX9_tomorrow_116 : decode cX9_tomorrow 116 = .ok (.if_icmp .ne 20, 3) := by decide +kernel
theorem dX9_tomorrow_119 : decode cX9_tomorrow 119 = .ok (.aload_n 0, 1) := by decide +kernel
theorem dX9_tomorrow_120 : decode cX9_tomorrow 120 = .ok (.getfield 16, 3) := by decide +kernel
theorem dX9_tomorrow_123 : decode cX9_tomorrow 123 = .ok (.iload_n 1, 1) := by decide +kernel
theorem dX9_tomorrow_124 : decode cX9_tomorrow 124 = .ok (.laload, 1) := by decide +kernel
theorem dX9_tomorrow_125 : decode cX9_tomorrow 125 = .ok (.aload_n 0, 1) := by decide +kernel
theorem dX9_tomorrow_126 : decode cX9_tomorrow 126 = .ok (.getfield 20, 3) := by decide +kernel
theorem dX9_tomorrow_129 : decode cX9_tomorrow 129 = .ok (.iload_n 1, 1) := by decide +kernel
theorem dX9_tomorrow_130 : decode cX9_tomorrow 130 = .ok (.laload, 1) := by decide +kernel
theorem dX9_tomorrow_131 : decode cX9_tomorrow 131 = .ok (.lsub, 1) := by decide +kernel
theorem dX9_tomorrow_132 : decode cX9_tomorrow 132 = .ok (.l2i, 1) := by decide +kernel
theorem dX9_tomorrow_133 : decode cX9_tomorrow 133 = .ok (.goto 10, 3) := by decide +kernel
theorem dX9_tomorrow_136 : decode cX9_tomorrow 136 = .ok (.aload_n 0, 1) := by decide +kernel
theorem dX9_tomorrow_137 : decode cX9_tomorrow 137 = .ok (.iload_n 1, 1) := by decide +kernel
theorem dX9_tomorrow_138 : decode cX9_tomorrow 138 = .ok (.iload_n 2, 1) := by decide +kernel
theorem dX9_tomorrow_139 : decode cX9_tomorrow 139 = .ok (.iload_n 3, 1) := by decide +kernel
theorem dX9_tomorrow_140 : decode cX9_tomorrow 140 = .ok (.invokevirtual 327, 3) := by decide +kernel
theorem dX9_tomorrow_143 : decode cX9_tomorrow 143 = .ok (.istore 4, 2) := by decide +kernel
theorem dX9_tomorrow_145 : decode cX9_tomorrow 145 = .ok (.iconst 0, 1) := by decide +kernel
theorem dX9_tomorrow_146 : decode cX9_tomorrow 146 = .ok (.istore 5, 2) := by decide +kernel
theorem dX9_tomorrow_148 : decode cX9_tomorrow 148 = .ok (.iload 5, 2) := by decide +kernel
theorem dX9_tomorrow_150 : decode cX9_tomorrow 150 = .ok (.sipush 19782, 3) := by decide +kernel
theorem dX9_tomorrow_153 : decode cX9_tomorrow 153 = .ok (.if_icmp .ge 23, 3) := by decide +kernel
theorem dX9_tomorrow_156 : decode cX9_tomorrow 156 = .ok (.aload_n 0, 1) := by decide +kernel
theorem dX9_tomorrow_157 : decode cX9_tomorrow 157 = .ok (.getfield 7, 3) := by decide +kernel
theorem dX9_tomorrow_160 : decode cX9_tomorrow 160 = .ok (.iload 5, 2) := by decide +kernel
theorem dX9_tomorrow_162 : decode cX9_tomorrow 162 = .ok (.aload_n 0, 1) := by decide +kernel
theorem dX9_tomorrow_163 : decode cX9_tomorrow 163 = .ok (.getfield 13, 3) := by decide +kernel
theorem dX9_tomorrow_166 : decode cX9_tomorrow 166 = .ok (.iload 5, 2) := by decide +kernel
theorem dX9_tomorrow_168 : decode cX9_tomorrow 168 = .ok (.iaload, 1) := by decide +kernel
theorem dX9_tomorrow_169 : decode cX9_tomorrow 169 = .ok (.iastore, 1) := by decide +kernel
theorem dX9_tomorrow_170 : decode cX9_tomorrow 170 = .ok (.iinc 5 1, 3) := by decide +kernel
theorem dX9_tomorrow_173 : decode cX9_tomorrow 173 = .ok (.goto (-25), 3) := by decide +kernel
theorem dX9_tomorrow_176 : decode cX9_tomorrow 176 = .ok (.iconst 0, 1) := by decide +kernel
theorem dX9_tomorrow_177 : decode cX9_tomorrow 177 = .ok (.istore 5, 2) := by decide +kernel
theorem dX9_tomorrow_179 : decode cX9_tomorrow 179 = .ok (.iload 5, 2) := by decide +kernel
theorem dX9_tomorrow_181 : decode cX9_tomorrow 181 = .ok (.bipush 13, 2) := by decide +kernel
theorem dX9_tomorrow_183 : decode cX9_tomorrow 183 = .ok (.if_icmp .ge 23, 3) := by decide +kernel
theorem dX9_tomorrow_186 : decode cX9_tomorrow 186 = .ok (.aload_n 0, 1) := by decide +kernel
theorem dX9_tomorrow_187 : decode cX9_tomorrow 187 = .ok (.getfield 16, 3) := by decide +kernel
theorem dX9_tomorrow_190 : decode cX9_tomorrow 190 = .ok (.iload 5, 2) := by decide +kernel
theorem dX9_tomorrow_192 : decode cX9_tomorrow 192 = .ok (.aload_n 0, 1) := by decide +kernel
theorem dX9_tomorrow_193 : decode cX9_tomorrow 193 = .ok (.getfield 20, 3) := by decide +kernel
theorem dX9_tomorrow_196 : decode cX9_tomorrow 196 = .ok (.iload 5, 2) := by decide +kernel
theorem dX9_tomorrow_198 : decode cX9_tomorrow 198 = .ok (.laload, 1) := by decide +kernel
theorem dX9_tomorrow_199 : decode cX9_tomorrow 199 = .ok (.lastore, 1) := by decide +kernel
theorem dX9_tomorrow_200 : decode cX9_tomorrow 200 = .ok (.iinc 5 1, 3) := by decide +kernel
theorem dX9_tomorrow_203 : decode cX9_tomorrow 203 = .ok (.goto (-24), 3) := by decide +kernel
theorem dX9_tomorrow_206 : decode cX9_tomorrow 206 = .ok (.iload 4, 2) := by decide +kernel
theorem dX9_tomorrow_208 : decode cX9_tomorrow 208 = .ok (.ireturn, 1) := by decide +kernel
theorem dX9_trade_0 : decode cX9_trade 0 = .ok (.aload_n 0, 1) := by decide +kernel
theorem dX9_trade_1 : decode cX9_trade 1 = .ok (.iconst 0, 1) := by decide +kernel
theorem dX9_trade_2 : decode cX9_trade 2 = .ok (.putfield 58, 3) := by decide +kernel
theorem dX9_trade_5 : decode cX9_trade 5 = .ok (.aload_n 0, 1) := by decide +kernel
theorem dX9_trade_6 : decode cX9_trade 6 = .ok (.iload_n 1, 1) := by decide +kernel
theorem dX9_trade_7 : decode cX9_trade 7 = .ok (.iload_n 2, 1) := by decide +kernel
theorem dX9_trade_8 : decode cX9_trade 8 = .ok (.iload_n 3, 1) := by decide +kernel
theorem dX9_trade_9 : decode cX9_trade 9 = .ok (.iload 4, 2) := by decide +kernel
theorem dX9_trade_11 : decode cX9_trade 11 = .ok (.iload 5, 2) := by decide +kernel
theorem dX9_trade_13 : decode cX9_trade 13 = .ok (.iconst 0, 1) := by decide +kernel
theorem dX9_trade_14 : decode cX9_trade 14 = .ok (.invokevirtual 147, 3) := by decide +kernel
theorem dX9_trade_17 : decode cX9_trade 17 = .ok (.ireturn, 1) := by decide +kernel
theorem dX9_tradeAt_0 : decode cX9_tradeAt 0 = .ok (.sipush 15110, 3) := by decide +kernel
theorem dX9_tradeAt_3 : decode cX9_tradeAt 3 = .ok (.bipush 8, 2) := by decide +kernel
theorem dX9_tradeAt_5 : decode cX9_tradeAt 5 = .ok (.iload_n 1, 1) := by decide +kernel
theorem dX9_tradeAt_6 : decode cX9_tradeAt 6 = .ok (.imul, 1) := by decide +kernel
theorem dX9_tradeAt_7 : decode cX9_tradeAt 7 = .ok (.iadd, 1) := by decide +kernel
theorem dX9_tradeAt_8 : decode cX9_tradeAt 8 = .ok (.ireturn, 1) := by decide +kernel
theorem dX9_tradeOf_0 : decode cX9_tradeOf 0 = .ok (.aload_n 0, 1) := by decide +kernel
theorem dX9_tradeOf_1 : decode cX9_tradeOf 1 = .ok (.getfield 7, 3) := by decide +kernel
theorem dX9_tradeOf_4 : decode cX9_tradeOf 4 = .ok (.aload_n 0, 1) := by decide +kernel
theorem dX9_tradeOf_5 : decode cX9_tradeOf 5 = .ok (.iload_n 1, 1) := by decide +kernel
theorem dX9_tradeOf_6 : decode cX9_tradeOf 6 = .ok (.invokevirtual 141, 3) := by decide +kernel
theorem dX9_tradeOf_9 : decode cX9_tradeOf 9 = .ok (.iload_n 2, 1) := by decide +kernel
theorem dX9_tradeOf_10 : decode cX9_tradeOf 10 = .ok (.iadd, 1) := by decide +kernel
theorem dX9_tradeOf_11 : decode cX9_tradeOf 11 = .ok (.iaload, 1) := by decide +kernel
theorem dX9_tradeOf_12 : decode cX9_tradeOf 12 = .ok (.ireturn, 1) := by decide +kernel
theorem dX9_tradedOf_0 : decode cX9_tradedOf 0 = .ok (.iconst 0, 1) := by decide +kernel
theorem dX9_tradedOf_1 : decode cX9_tradedOf 1 = .ok (.istore_n 3, 1) := by decide +kernel
theorem dX9_tradedOf_2 : decode cX9_tradedOf 2 = .ok (.iconst 0, 1) := by decide +kernel
theorem dX9_tradedOf_3 : decode cX9_tradedOf 3 = .ok (.istore 4, 2) := by decide +kernel
theorem dX9_tradedOf_5 : decode cX9_tradedOf 5 = .ok (.iload 4, 2) := by decide +kernel
theorem dX9_tradedOf_7 : decode cX9_tradedOf 7 = .ok (.aload_n 0, 1) := by decide +kernel
theorem dX9_tradedOf_8 : decode cX9_tradedOf 8 = .ok (.getfield 7, 3) := by decide +kernel
theorem dX9_tradedOf_11 : decode cX9_tradedOf 11 = .ok (.bipush 7, 2) := by decide +kernel
theorem dX9_tradedOf_13 : decode cX9_tradedOf 13 = .ok (.iaload, 1) := by decide +kernel
theorem dX9_tradedOf_14 : decode cX9_tradedOf 14 = .ok (.if_icmp .ge 38, 3) := by decide +kernel
theorem dX9_tradedOf_17 : decode cX9_tradedOf 17 = .ok (.aload_n 0, 1) := by decide +kernel
theorem dX9_tradedOf_18 : decode cX9_tradedOf 18 = .ok (.iload 4, 2) := by decide +kernel
theorem dX9_tradedOf_20 : decode cX9_tradedOf 20 = .ok (.iconst 2, 1) := by decide +kernel
theorem dX9_tradedOf_21 : decode cX9_tradedOf 21 = .ok (.invokevirtual 151, 3) := by decide +kernel
theorem dX9_tradedOf_24 : decode cX9_tradedOf 24 = .ok (.iload_n 1, 1) := by decide +kernel
theorem dX9_tradedOf_25 : decode cX9_tradedOf 25 = .ok (.if_icmp .ne 21, 3) := by decide +kernel
theorem dX9_tradedOf_28 : decode cX9_tradedOf 28 = .ok (.iload_n 3, 1) := by decide +kernel
theorem dX9_tradedOf_29 : decode cX9_tradedOf 29 = .ok (.iload_n 2, 1) := by decide +kernel
theorem dX9_tradedOf_30 : decode cX9_tradedOf 30 = .ok (.ifCond .eq 13, 3) := by decide +kernel
theorem dX9_tradedOf_33 : decode cX9_tradedOf 33 = .ok (.aload_n 0, 1) := by decide +kernel
theorem dX9_tradedOf_34 : decode cX9_tradedOf 34 = .ok (.iload 4, 2) := by decide +kernel
theorem dX9_tradedOf_36 : decode cX9_tradedOf 36 = .ok (.iconst 3, 1) := by decide +kernel
theorem dX9_tradedOf_37 : decode cX9_tradedOf 37 = .ok (.invokevirtual 151, 3) := by decide +kernel
theorem dX9_tradedOf_40 : decode cX9_tradedOf 40 = .ok (.goto 4, 3) := by decide +kernel
theorem dX9_tradedOf_43 : decode cX9_tradedOf 43 = .ok (.iconst 1, 1) := by decide +kernel
theorem dX9_tradedOf_44 : decode cX9_tradedOf 44 = .ok (.iadd, 1) := by decide +kernel
theorem dX9_tradedOf_45 : decode cX9_tradedOf 45 = .ok (.istore_n 3, 1) := by decide +kernel
theorem dX9_tradedOf_46 : decode cX9_tradedOf 46 = .ok (.iinc 4 1, 3) := by decide +kernel
theorem dX9_tradedOf_49 : decode cX9_tradedOf 49 = .ok (.goto (-44), 3) := by decide +kernel
theorem dX9_tradedOf_52 : decode cX9_tradedOf 52 = .ok (.iload_n 3, 1) := by decide +kernel
theorem dX9_tradedOf_53 : decode cX9_tradedOf 53 = .ok (.ireturn, 1) := by decide +kernel
theorem dX9_trades_0 : decode cX9_trades 0 = .ok (.aload_n 0, 1) := by decide +kernel
theorem dX9_trades_1 : decode cX9_trades 1 = .ok (.iload_n 1, 1) := by decide +kernel
theorem dX9_trades_2 : decode cX9_trades 2 = .ok (.invokevirtual 90, 3) := by decide +kernel
theorem dX9_trades_5 : decode cX9_trades 5 = .ok (.ifCond .eq 63, 3) := by decide +kernel
theorem dX9_trades_8 : decode cX9_trades 8 = .ok (.aload_n 0, 1) := by decide +kernel
theorem dX9_trades_9 : decode cX9_trades 9 = .ok (.iload_n 2, 1) := by decide +kernel
theorem dX9_trades_10 : decode cX9_trades 10 = .ok (.invokevirtual 90, 3) := by decide +kernel
theorem dX9_trades_13 : decode cX9_trades 13 = .ok (.ifCond .eq 55, 3) := by decide +kernel
theorem dX9_trades_16 : decode cX9_trades 16 = .ok (.iload_n 1, 1) := by decide +kernel
theorem dX9_trades_17 : decode cX9_trades 17 = .ok (.iload_n 2, 1) := by decide +kernel
theorem dX9_trades_18 : decode cX9_trades 18 = .ok (.if_icmp .eq 50, 3) := by decide +kernel
theorem dX9_trades_21 : decode cX9_trades 21 = .ok (.aload_n 0, 1) := by decide +kernel
theorem dX9_trades_22 : decode cX9_trades 22 = .ok (.iload_n 3, 1) := by decide +kernel
theorem dX9_trades_23 : decode cX9_trades 23 = .ok (.invokevirtual 94, 3) := by decide +kernel
theorem dX9_trades_26 : decode cX9_trades 26 = .ok (.ifCond .eq 42, 3) := by decide +kernel
theorem dX9_trades_29 : decode cX9_trades 29 = .ok (.aload_n 0, 1) := by decide +kernel
theorem dX9_trades_30 : decode cX9_trades 30 = .ok (.iload 4, 2) := by decide +kernel
theorem dX9_trades_32 : decode cX9_trades 32 = .ok (.iconst 1, 1) := by decide +kernel
theorem dX9_trades_33 : decode cX9_trades 33 = .ok (.sipush 9999, 3) := by decide +kernel
theorem dX9_trades_36 : decode cX9_trades 36 = .ok (.invokevirtual 79, 3) := by decide +kernel
theorem dX9_trades_39 : decode cX9_trades 39 = .ok (.ifCond .eq 29, 3) := by decide +kernel
theorem dX9_trades_42 : decode cX9_trades 42 = .ok (.aload_n 0, 1) := by decide +kernel
theorem dX9_trades_43 : decode cX9_trades 43 = .ok (.iload 5, 2) := by decide +kernel
theorem dX9_trades_45 : decode cX9_trades 45 = .ok (.iconst 1, 1) := by decide +kernel
theorem dX9_trades_46 : decode cX9_trades 46 = .ok (.sipush 9999, 3) := by decide +kernel
theorem dX9_trades_49 : decode cX9_trades 49 = .ok (.invokevirtual 79, 3) := by decide +kernel
theorem dX9_trades_52 : decode cX9_trades 52 = .ok (.ifCond .eq 16, 3) := by decide +kernel
theorem dX9_trades_55 : decode cX9_trades 55 = .ok (.aload_n 0, 1) := by decide +kernel
theorem dX9_trades_56 : decode cX9_trades 56 = .ok (.getfield 7, 3) := by decide +kernel
theorem dX9_trades_59 : decode cX9_trades 59 = .ok (.bipush 7, 2) := by decide +kernel
theorem dX9_trades_61 : decode cX9_trades 61 = .ok (.iaload, 1) := by decide +kernel
theorem dX9_trades_62 : decode cX9_trades 62 = .ok (.sipush 200, 3) := by decide +kernel
theorem dX9_trades_65 : decode cX9_trades 65 = .ok (.if_icmp .ne 5, 3) := by decide +kernel
theorem dX9_trades_68 : decode cX9_trades 68 = .ok (.iconst (-1), 1) := by decide +kernel
theorem dX9_trades_69 : decode cX9_trades 69 = .ok (.ireturn, 1) := by decide +kernel
theorem dX9_trades_70 : decode cX9_trades 70 = .ok (.aload_n 0, 1) := by decide +kernel
theorem dX9_trades_71 : decode cX9_trades 71 = .ok (.aload_n 0, 1) := by decide +kernel
theorem dX9_trades_72 : decode cX9_trades 72 = .ok (.getfield 7, 3) := by decide +kernel
theorem dX9_trades_75 : decode cX9_trades 75 = .ok (.bipush 7, 2) := by decide +kernel
theorem dX9_trades_77 : decode cX9_trades 77 = .ok (.iaload, 1) := by decide +kernel
theorem dX9_trades_78 : decode cX9_trades 78 = .ok (.invokevirtual 141, 3) := by decide +kernel
theorem dX9_trades_81 : decode cX9_trades 81 = .ok (.istore 7, 2) := by decide +kernel
theorem dX9_trades_83 : decode cX9_trades 83 = .ok (.aload_n 0, 1) := by decide +kernel
theorem dX9_trades_84 : decode cX9_trades 84 = .ok (.getfield 7, 3) := by decide +kernel
theorem dX9_trades_87 : decode cX9_trades 87 = .ok (.iload 7, 2) := by decide +kernel
theorem dX9_trades_89 : decode cX9_trades 89 = .ok (.iconst 0, 1) := by decide +kernel
theorem dX9_trades_90 : decode cX9_trades 90 = .ok (.iadd, 1) := by decide +kernel
theorem dX9_trades_91 : decode cX9_trades 91 = .ok (.iload_n 1, 1) := by decide +kernel
theorem dX9_trades_92 : decode cX9_trades 92 = .ok (.iastore, 1) := by decide +kernel
theorem dX9_trades_93 : decode cX9_trades 93 = .ok (.aload_n 0, 1) := by decide +kernel
theorem dX9_trades_94 : decode cX9_trades 94 = .ok (.getfield 7, 3) := by decide +kernel
theorem dX9_trades_97 : decode cX9_trades 97 = .ok (.iload 7, 2) := by decide +kernel
theorem dX9_trades_99 : decode cX9_trades 99 = .ok (.iconst 1, 1) := by decide +kernel
theorem dX9_trades_100 : decode cX9_trades 100 = .ok (.iadd, 1) := by decide +kernel
theorem dX9_trades_101 : decode cX9_trades 101 = .ok (.iload_n 2, 1) := by decide +kernel
theorem dX9_trades_102 : decode cX9_trades 102 = .ok (.iastore, 1) := by decide +kernel
theorem dX9_trades_103 : decode cX9_trades 103 = .ok (.aload_n 0, 1) := by decide +kernel
theorem dX9_trades_104 : decode cX9_trades 104 = .ok (.getfield 7, 3) := by decide +kernel
theorem dX9_trades_107 : decode cX9_trades 107 = .ok (.iload 7, 2) := by decide +kernel
theorem dX9_trades_109 : decode cX9_trades 109 = .ok (.iconst 2, 1) := by decide +kernel
theorem dX9_trades_110 : decode cX9_trades 110 = .ok (.iadd, 1) := by decide +kernel
theorem dX9_trades_111 : decode cX9_trades 111 = .ok (.iload_n 3, 1) := by decide +kernel
theorem dX9_trades_112 : decode cX9_trades 112 = .ok (.iastore, 1) := by decide +kernel
theorem dX9_trades_113 : decode cX9_trades 113 = .ok (.aload_n 0, 1) := by decide +kernel
theorem dX9_trades_114 : decode cX9_trades 114 = .ok (.getfield 7, 3) := by decide +kernel
theorem dX9_trades_117 : decode cX9_trades 117 = .ok (.iload 7, 2) := by decide +kernel
theorem dX9_trades_119 : decode cX9_trades 119 = .ok (.iconst 3, 1) := by decide +kernel
theorem dX9_trades_120 : decode cX9_trades 120 = .ok (.iadd, 1) := by decide +kernel
theorem dX9_trades_121 : decode cX9_trades 121 = .ok (.iload 4, 2) := by decide +kernel
theorem dX9_trades_123 : decode cX9_trades 123 = .ok (.iastore, 1) := by decide +kernel
theorem dX9_trades_124 : decode cX9_trades 124 = .ok (.aload_n 0, 1) := by decide +kernel
theorem dX9_trades_125 : decode cX9_trades 125 = .ok (.getfield 7, 3) := by decide +kernel
theorem dX9_trades_128 : decode cX9_trades 128 = .ok (.iload 7, 2) := by decide +kernel
theorem dX9_trades_130 : decode cX9_trades 130 = .ok (.iconst 4, 1) := by decide +kernel
theorem dX9_trades_131 : decode cX9_trades 131 = .ok (.iadd, 1) := by decide +kernel
theorem dX9_trades_132 : decode cX9_trades 132 = .ok (.iload 5, 2) := by decide +kernel
theorem dX9_trades_134 : decode cX9_trades 134 = .ok (.iastore, 1) := by decide +kernel
theorem dX9_trades_135 : decode cX9_trades 135 = .ok (.aload_n 0, 1) := by decide +kernel
theorem dX9_trades_136 : decode cX9_trades 136 = .ok (.getfield 7, 3) := by decide +kernel
theorem dX9_trades_139 : decode cX9_trades 139 = .ok (.iload 7, 2) := by decide +kernel
theorem dX9_trades_141 : decode cX9_trades 141 = .ok (.iconst 5, 1) := by decide +kernel
theorem dX9_trades_142 : decode cX9_trades 142 = .ok (.iadd, 1) := by decide +kernel
theorem dX9_trades_143 : decode cX9_trades 143 = .ok (.iload 6, 2) := by decide +kernel
theorem dX9_trades_145 : decode cX9_trades 145 = .ok (.iastore, 1) := by decide +kernel
theorem dX9_trades_146 : decode cX9_trades 146 = .ok (.aload_n 0, 1) := by decide +kernel
theorem dX9_trades_147 : decode cX9_trades 147 = .ok (.getfield 7, 3) := by decide +kernel
theorem dX9_trades_150 : decode cX9_trades 150 = .ok (.iload 7, 2) := by decide +kernel
theorem dX9_trades_152 : decode cX9_trades 152 = .ok (.bipush 6, 2) := by decide +kernel
theorem dX9_trades_154 : decode cX9_trades 154 = .ok (.iadd, 1) := by decide +kernel
theorem dX9_trades_155 : decode cX9_trades 155 = .ok (.aload_n 0, 1) := by decide +kernel
theorem dX9_trades_156 : decode cX9_trades 156 = .ok (.getfield 7, 3) := by decide +kernel
theorem dX9_trades_159 : decode cX9_trades 159 = .ok (.bipush 6, 2) := by decide +kernel
theorem dX9_trades_161 : decode cX9_trades 161 = .ok (.iaload, 1) := by decide +kernel
theorem dX9_trades_162 : decode cX9_trades 162 = .ok (.aload_n 0, 1) := by decide +kernel
theorem dX9_trades_163 : decode cX9_trades 163 = .ok (.iconst 1, 1) := by decide +kernel
theorem dX9_trades_164 : decode cX9_trades 164 = .ok (.invokevirtual 144, 3) := by decide +kernel
theorem dX9_trades_167 : decode cX9_trades 167 = .ok (.iadd, 1) := by decide +kernel
theorem dX9_trades_168 : decode cX9_trades 168 = .ok (.iastore, 1) := by decide +kernel
theorem dX9_trades_169 : decode cX9_trades 169 = .ok (.aload_n 0, 1) := by decide +kernel
theorem dX9_trades_170 : decode cX9_trades 170 = .ok (.getfield 7, 3) := by decide +kernel
theorem dX9_trades_173 : decode cX9_trades 173 = .ok (.iload 7, 2) := by decide +kernel
theorem dX9_trades_175 : decode cX9_trades 175 = .ok (.bipush 7, 2) := by decide +kernel
theorem dX9_trades_177 : decode cX9_trades 177 = .ok (.iadd, 1) := by decide +kernel
theorem dX9_trades_178 : decode cX9_trades 178 = .ok (.iload 4, 2) := by decide +kernel
theorem dX9_trades_180 : decode cX9_trades 180 = .ok (.iastore, 1) := by decide +kernel
theorem dX9_trades_181 : decode cX9_trades 181 = .ok (.aload_n 0, 1) := by decide +kernel
theorem dX9_trades_182 : decode cX9_trades 182 = .ok (.getfield 7, 3) := by decide +kernel
theorem dX9_trades_185 : decode cX9_trades 185 = .ok (.bipush 7, 2) := by decide +kernel
theorem dX9_trades_187 : decode cX9_trades 187 = .ok (.aload_n 0, 1) := by decide +kernel
theorem dX9_trades_188 : decode cX9_trades 188 = .ok (.getfield 7, 3) := by decide +kernel
theorem dX9_trades_191 : decode cX9_trades 191 = .ok (.bipush 7, 2) := by decide +kernel
theorem dX9_trades_193 : decode cX9_trades 193 = .ok (.iaload, 1) := by decide +kernel
theorem dX9_trades_194 : decode cX9_trades 194 = .ok (.iconst 1, 1) := by decide +kernel
theorem dX9_trades_195 : decode cX9_trades 195 = .ok (.iadd, 1) := by decide +kernel
theorem dX9_trades_196 : decode cX9_trades 196 = .ok (.iastore, 1) := by decide +kernel
theorem dX9_trades_197 : decode cX9_trades 197 = .ok (.aload_n 0, 1) := by decide +kernel
theorem dX9_trades_198 : decode cX9_trades 198 = .ok (.getfield 7, 3) := by decide +kernel
theorem dX9_trades_201 : decode cX9_trades 201 = .ok (.bipush 7, 2) := by decide +kernel
theorem dX9_trades_203 : decode cX9_trades 203 = .ok (.iaload, 1) := by decide +kernel
theorem dX9_trades_204 : decode cX9_trades 204 = .ok (.iconst 1, 1) := by decide +kernel
theorem dX9_trades_205 : decode cX9_trades 205 = .ok (.isub, 1) := by decide +kernel
theorem dX9_trades_206 : decode cX9_trades 206 = .ok (.ireturn, 1) := by decide +kernel
theorem dX9_types_0 : decode cX9_types 0 = .ok (.bipush 24, 2) := by decide +kernel
theorem dX9_types_2 : decode cX9_types 2 = .ok (.istore_n 2, 1) := by decide +kernel
theorem dX9_types_3 : decode cX9_types 3 = .ok (.iload_n 2, 1) := by decide +kernel
theorem dX9_types_4 : decode cX9_types 4 = .ok (.ifCond .lt 35, 3) := by decide +kernel
theorem dX9_types_7 : decode cX9_types 7 = .ok (.aload_n 0, 1) := by decide +kernel
theorem dX9_types_8 : decode cX9_types 8 = .ok (.getfield 39, 3) := by decide +kernel
theorem dX9_types_11 : decode cX9_types 11 = .ok (.aload_n 0, 1) := by decide +kernel
theorem dX9_types_12 : decode cX9_types 12 = .ok (.getfield 344, 3) := by decide +kernel
theorem dX9_types_15 : decode cX9_types 15 = .ok (.iload_n 1, 1) := by decide +kernel
theorem dX9_types_16 : decode cX9_types 16 = .ok (.iload_n 2, 1) := by decide +kernel
theorem dX9_types_17 : decode cX9_types 17 = .ok (.ishr, 1) := by decide +kernel
theorem dX9_types_18 : decode cX9_types 18 = .ok (.sipush 255, 3) := by decide +kernel
theorem dX9_types_21 : decode cX9_types 21 = .ok (.iand, 1) := by decide +kernel
theorem dX9_types_22 : decode cX9_types 22 = .ok (.iastore, 1) := by decide +kernel
theorem dX9_types_23 : decode cX9_types 23 = .ok (.aload_n 0, 1) := by decide +kernel
theorem dX9_types_24 : decode cX9_types 24 = .ok (.aload_n 0, 1) := by decide +kernel
theorem dX9_types_25 : decode cX9_types 25 = .ok (.getfield 344, 3) := by decide +kernel
theorem dX9_types_28 : decode cX9_types 28 = .ok (.iconst 1, 1) := by decide +kernel
theorem dX9_types_29 : decode cX9_types 29 = .ok (.iadd, 1) := by decide +kernel
theorem dX9_types_30 : decode cX9_types 30 = .ok (.putfield 344, 3) := by decide +kernel
theorem dX9_types_33 : decode cX9_types 33 = .ok (.iinc 2 (-8), 3) := by decide +kernel
theorem dX9_types_36 : decode cX9_types 36 = .ok (.goto (-33), 3) := by decide +kernel
theorem dX9_types_39 : decode cX9_types 39 = .ok (.return_, 1) := by decide +kernel
theorem dX9_wordAt_0 : decode cX9_wordAt 0 = .ok (.iconst (-1), 1) := by decide +kernel
theorem dX9_wordAt_1 : decode cX9_wordAt 1 = .ok (.istore_n 3, 1) := by decide +kernel
theorem dX9_wordAt_2 : decode cX9_wordAt 2 = .ok (.iconst 0, 1) := by decide +kernel
theorem dX9_wordAt_3 : decode cX9_wordAt 3 = .ok (.istore 4, 2) := by decide +kernel
theorem dX9_wordAt_5 : decode cX9_wordAt 5 = .ok (.iload 4, 2) := by decide +kernel
theorem dX9_wordAt_7 : decode cX9_wordAt 7 = .ok (.bipush 56, 2) := by decide +kernel
theorem dX9_wordAt_9 : decode cX9_wordAt 9 = .ok (.if_icmp .ge 108, 3) := by decide +kernel
theorem dX9_wordAt_12 : decode cX9_wordAt 12 = .ok (.iconst 0, 1) := by decide +kernel
theorem dX9_wordAt_13 : decode cX9_wordAt 13 = .ok (.istore 5, 2) := by decide +kernel
theorem dX9_wordAt_15 : decode cX9_wordAt 15 = .ok (.iload_n 3, 1) := by decide +kernel
theorem dX9_wordAt_16 : decode cX9_wordAt 16 = .ok (.iconst 1, 1) := by decide +kernel
theorem dX9_wordAt_17 : decode cX9_wordAt 17 = .ok (.iadd, 1) := by decide +kernel
theorem dX9_wordAt_18 : decode cX9_wordAt 18 = .ok (.istore_n 3, 1) := by decide +kernel
theorem dX9_wordAt_19 : decode cX9_wordAt 19 = .ok (.iload_n 1, 1) := by decide +kernel
theorem dX9_wordAt_20 : decode cX9_wordAt 20 = .ok (.iload 5, 2) := by decide +kernel
theorem dX9_wordAt_22 : decode cX9_wordAt 22 = .ok (.iadd, 1) := by decide +kernel
theorem dX9_wordAt_23 : decode cX9_wordAt 23 = .ok (.iload_n 2, 1) := by decide +kernel
theorem dX9_wordAt_24 : decode cX9_wordAt 24 = .ok (.if_icmp .ge 36, 3) := by decide +kernel
theorem dX9_wordAt_27 : decode cX9_wordAt 27 = .ok (.aload_n 0, 1) := by decide +kernel
theorem dX9_wordAt_28 : decode cX9_wordAt 28 = .ok (.getfield 42, 3) := by decide +kernel
theorem dX9_wordAt_31 : decode cX9_wordAt 31 = .ok (.iload 4, 2) := by decide +kernel
theorem dX9_wordAt_33 : decode cX9_wordAt 33 = .ok (.iconst 1, 1) := by decide +kernel
theorem dX9_wordAt_34 : decode cX9_wordAt 34 = .ok (.iadd, 1) := by decide +kernel
theorem dX9_wordAt_35 : decode cX9_wordAt 35 = .ok (.iload 5, 2) := by decide +kernel
theorem dX9_wordAt_37 : decode cX9_wordAt 37 = .ok (.iadd, 1) := by decide +kernel
theorem dX9_wordAt_38 : decode cX9_wordAt 38 = .ok (.iaload, 1) := by decide +kernel
theorem dX9_wordAt_39 : decode cX9_wordAt 39 = .ok (.aload_n 0, 1) := by decide +kernel
theorem dX9_wordAt_40 : decode cX9_wordAt 40 = .ok (.getfield 39, 3) := by decide +kernel
theorem dX9_wordAt_43 : decode cX9_wordAt 43 = .ok (.iload_n 1, 1) := by decide +kernel
theorem dX9_wordAt_44 : decode cX9_wordAt 44 = .ok (.iload 5, 2) := by decide +kernel
theorem dX9_wordAt_46 : decode cX9_wordAt 46 = .ok (.iadd, 1) := by decide +kernel
theorem dX9_wordAt_47 : decode cX9_wordAt 47 = .ok (.iaload, 1) := by decide +kernel
theorem dX9_wordAt_48 : decode cX9_wordAt 48 = .ok (.if_icmp .ne 12, 3) := by decide +kernel
theorem dX9_wordAt_51 : decode cX9_wordAt 51 = .ok (.iload 5, 2) := by decide +kernel
theorem dX9_wordAt_53 : decode cX9_wordAt 53 = .ok (.iconst 1, 1) := by decide +kernel
theorem dX9_wordAt_54 : decode cX9_wordAt 54 = .ok (.iadd, 1) := by decide +kernel
theorem dX9_wordAt_55 : decode cX9_wordAt 55 = .ok (.istore 5, 2) := by decide +kernel
theorem dX9_wordAt_57 : decode cX9_wordAt 57 = .ok (.goto (-38), 3) := by decide +kernel
theorem dX9_wordAt_60 : decode cX9_wordAt 60 = .ok (.iload_n 1, 1) := by decide +kernel
theorem dX9_wordAt_61 : decode cX9_wordAt 61 = .ok (.iload 5, 2) := by decide +kernel
theorem dX9_wordAt_63 : decode cX9_wordAt 63 = .ok (.iadd, 1) := by decide +kernel
theorem dX9_wordAt_64 : decode cX9_wordAt 64 = .ok (.iload_n 2, 1) := by decide +kernel
theorem dX9_wordAt_65 : decode cX9_wordAt 65 = .ok (.if_icmp .ne 22, 3) := by decide +kernel
theorem dX9_wordAt_68 : decode cX9_wordAt 68 = .ok (.aload_n 0, 1) := by decide +kernel
theorem dX9_wordAt_69 : decode cX9_wordAt 69 = .ok (.getfield 42, 3) := by decide +kernel
theorem dX9_wordAt_72 : decode cX9_wordAt 72 = .ok (.iload 4, 2) := by decide +kernel
theorem dX9_wordAt_74 : decode cX9_wordAt 74 = .ok (.iconst 1, 1) := by decide +kernel
theorem dX9_wordAt_75 : decode cX9_wordAt 75 = .ok (.iadd, 1) := by decide +kernel
theorem dX9_wordAt_76 : decode cX9_wordAt 76 = .ok (.iload 5, 2) := by decide +kernel
theorem dX9_wordAt_78 : decode cX9_wordAt 78 = .ok (.iadd, 1) := by decide +kernel
theorem dX9_wordAt_79 : decode cX9_wordAt 79 = .ok (.iaload, 1) := by decide +kernel
theorem dX9_wordAt_80 : decode cX9_wordAt 80 = .ok (.bipush 32, 2) := by decide +kernel
theorem dX9_wordAt_82 : decode cX9_wordAt 82 = .ok (.if_icmp .ne 5, 3) := by decide +kernel
theorem dX9_wordAt_85 : decode cX9_wordAt 85 = .ok (.iload_n 3, 1) := by decide +kernel
theorem dX9_wordAt_86 : decode cX9_wordAt 86 = .ok (.ireturn, 1) := by decide +kernel
theorem dX9_wordAt_87 : decode cX9_wordAt 87 = .ok (.iload 4, 2) := by decide +kernel
theorem dX9_wordAt_89 : decode cX9_wordAt 89 = .ok (.iconst 1, 1) := by decide +kernel
theorem dX9_wordAt_90 : decode cX9_wordAt 90 = .ok (.iadd, 1) := by decide +kernel
theorem dX9_wordAt_91 : decode cX9_wordAt 91 = .ok (.istore 4, 2) := by decide +kernel
theorem dX9_wordAt_93 : decode cX9_wordAt 93 = .ok (.aload_n 0, 1) := by decide +kernel
theorem dX9_wordAt_94 : decode cX9_wordAt 94 = .ok (.getfield 42, 3) := by decide +kernel
theorem dX9_wordAt_97 : decode cX9_wordAt 97 = .ok (.iload 4, 2) := by decide +kernel
theorem dX9_wordAt_99 : decode cX9_wordAt 99 = .ok (.iaload, 1) := by decide +kernel
theorem dX9_wordAt_100 : decode cX9_wordAt 100 = .ok (.bipush 32, 2) := by decide +kernel
theorem dX9_wordAt_102 : decode cX9_wordAt 102 = .ok (.if_icmp .eq 12, 3) := by decide +kernel
theorem dX9_wordAt_105 : decode cX9_wordAt 105 = .ok (.iload 4, 2) := by decide +kernel
theorem dX9_wordAt_107 : decode cX9_wordAt 107 = .ok (.iconst 1, 1) := by decide +kernel
theorem dX9_wordAt_108 : decode cX9_wordAt 108 = .ok (.iadd, 1) := by decide +kernel
theorem dX9_wordAt_109 : decode cX9_wordAt 109 = .ok (.istore 4, 2) := by decide +kernel
theorem dX9_wordAt_111 : decode cX9_wordAt 111 = .ok (.goto (-18), 3) := by decide +kernel
theorem dX9_wordAt_114 : decode cX9_wordAt 114 = .ok (.goto (-109), 3) := by decide +kernel
theorem dX9_wordAt_117 : decode cX9_wordAt 117 = .ok (.iconst (-1), 1) := by decide +kernel
theorem dX9_wordAt_118 : decode cX9_wordAt 118 = .ok (.ireturn, 1) := by decide +kernel
theorem dX9_writes_0 : decode cX9_writes 0 = .ok (.aload_n 0, 1) := by decide +kernel
theorem dX9_writes_1 : decode cX9_writes 1 = .ok (.getfield 7, 3) := by decide +kernel
theorem dX9_writes_4 : decode cX9_writes 4 = .ok (.bipush 9, 2) := by decide +kernel
theorem dX9_writes_6 : decode cX9_writes 6 = .ok (.iaload, 1) := by decide +kernel
theorem dX9_writes_7 : decode cX9_writes 7 = .ok (.sipush 300, 3) := by decide +kernel
theorem dX9_writes_10 : decode cX9_writes 10 = .ok (.if_icmp .ne 4, 3) := by decide +kernel
theorem dX9_writes_13 : decode cX9_writes 13 = .ok (.return_, 1) := by decide +kernel
theorem dX9_writes_14 : decode cX9_writes 14 = .ok (.sipush 17910, 3) := by decide +kernel
theorem dX9_writes_17 : decode cX9_writes 17 = .ok (.bipush 6, 2) := by decide +kernel
theorem dX9_writes_19 : decode cX9_writes 19 = .ok (.aload_n 0, 1) := by decide +kernel
theorem dX9_writes_20 : decode cX9_writes 20 = .ok (.getfield 7, 3) := by decide +kernel
theorem dX9_writes_23 : decode cX9_writes 23 = .ok (.bipush 9, 2) := by decide +kernel
theorem dX9_writes_25 : decode cX9_writes 25 = .ok (.iaload, 1) := by decide +kernel
theorem dX9_writes_26 : decode cX9_writes 26 = .ok (.imul, 1) := by decide +kernel
theorem dX9_writes_27 : decode cX9_writes 27 = .ok (.iadd, 1) := by decide +kernel
theorem dX9_writes_28 : decode cX9_writes 28 = .ok (.istore 6, 2) := by decide +kernel
theorem dX9_writes_30 : decode cX9_writes 30 = .ok (.aload_n 0, 1) := by decide +kernel
theorem dX9_writes_31 : decode cX9_writes 31 = .ok (.getfield 7, 3) := by decide +kernel
theorem dX9_writes_34 : decode cX9_writes 34 = .ok (.iload 6, 2) := by decide +kernel
theorem dX9_writes_36 : decode cX9_writes 36 = .ok (.aload_n 0, 1) := by decide +kernel
theorem dX9_writes_37 : decode cX9_writes 37 = .ok (.getfield 7, 3) := by decide +kernel
theorem dX9_writes_40 : decode cX9_writes 40 = .ok (.bipush 6, 2) := by decide +kernel
theorem dX9_writes_42 : decode cX9_writes 42 = .ok (.iaload, 1) := by decide +kernel
theorem dX9_writes_43 : decode cX9_writes 43 = .ok (.iastore, 1) := by decide +kernel
theorem dX9_writes_44 : decode cX9_writes 44 = .ok (.aload_n 0, 1) := by decide +kernel
theorem dX9_writes_45 : decode cX9_writes 45 = .ok (.getfield 7, 3) := by decide +kernel
theorem dX9_writes_48 : decode cX9_writes 48 = .ok (.iload 6, 2) := by decide +kernel
theorem dX9_writes_50 : decode cX9_writes 50 = .ok (.iconst 1, 1) := by decide +kernel
theorem dX9_writes_51 : decode cX9_writes 51 = .ok (.iadd, 1) := by decide +kernel
theorem dX9_writes_52 : decode cX9_writes 52 = .ok (.iload_n 1, 1) := by decide +kernel
theorem dX9_writes_53 : decode cX9_writes 53 = .ok (.iastore, 1) := by decide +kernel
theorem dX9_writes_54 : decode cX9_writes 54 = .ok (.aload_n 0, 1) := by decide +kernel
theorem dX9_writes_55 : decode cX9_writes 55 = .ok (.getfield 7, 3) := by decide +kernel
theorem dX9_writes_58 : decode cX9_writes 58 = .ok (.iload 6, 2) := by decide +kernel
theorem dX9_writes_60 : decode cX9_writes 60 = .ok (.iconst 2, 1) := by decide +kernel
theorem dX9_writes_61 : decode cX9_writes 61 = .ok (.iadd, 1) := by decide +kernel
theorem dX9_writes_62 : decode cX9_writes 62 = .ok (.iload_n 2, 1) := by decide +kernel
theorem dX9_writes_63 : decode cX9_writes 63 = .ok (.iastore, 1) := by decide +kernel
theorem dX9_writes_64 : decode cX9_writes 64 = .ok (.aload_n 0, 1) := by decide +kernel
theorem dX9_writes_65 : decode cX9_writes 65 = .ok (.getfield 7, 3) := by decide +kernel
theorem dX9_writes_68 : decode cX9_writes 68 = .ok (.iload 6, 2) := by decide +kernel
theorem dX9_writes_70 : decode cX9_writes 70 = .ok (.iconst 3, 1) := by decide +kernel
theorem dX9_writes_71 : decode cX9_writes 71 = .ok (.iadd, 1) := by decide +kernel
theorem dX9_writes_72 : decode cX9_writes 72 = .ok (.iload_n 3, 1) := by decide +kernel
theorem dX9_writes_73 : decode cX9_writes 73 = .ok (.iconst 1, 1) := by decide +kernel
theorem dX9_writes_74 : decode cX9_writes 74 = .ok (.iadd, 1) := by decide +kernel
theorem dX9_writes_75 : decode cX9_writes 75 = .ok (.iastore, 1) := by decide +kernel
theorem dX9_writes_76 : decode cX9_writes 76 = .ok (.aload_n 0, 1) := by decide +kernel
theorem dX9_writes_77 : decode cX9_writes 77 = .ok (.getfield 7, 3) := by decide +kernel
theorem dX9_writes_80 : decode cX9_writes 80 = .ok (.iload 6, 2) := by decide +kernel
theorem dX9_writes_82 : decode cX9_writes 82 = .ok (.iconst 4, 1) := by decide +kernel
theorem dX9_writes_83 : decode cX9_writes 83 = .ok (.iadd, 1) := by decide +kernel
theorem dX9_writes_84 : decode cX9_writes 84 = .ok (.iload 4, 2) := by decide +kernel
theorem dX9_writes_86 : decode cX9_writes 86 = .ok (.iconst 1, 1) := by decide +kernel
theorem dX9_writes_87 : decode cX9_writes 87 = .ok (.iadd, 1) := by decide +kernel
theorem dX9_writes_88 : decode cX9_writes 88 = .ok (.iastore, 1) := by decide +kernel
theorem dX9_writes_89 : decode cX9_writes 89 = .ok (.aload_n 0, 1) := by decide +kernel
theorem dX9_writes_90 : decode cX9_writes 90 = .ok (.getfield 7, 3) := by decide +kernel
theorem dX9_writes_93 : decode cX9_writes 93 = .ok (.iload 6, 2) := by decide +kernel
theorem dX9_writes_95 : decode cX9_writes 95 = .ok (.iconst 5, 1) := by decide +kernel
theorem dX9_writes_96 : decode cX9_writes 96 = .ok (.iadd, 1) := by decide +kernel
theorem dX9_writes_97 : decode cX9_writes 97 = .ok (.iload 5, 2) := by decide +kernel
theorem dX9_writes_99 : decode cX9_writes 99 = .ok (.iastore, 1) := by decide +kernel
theorem dX9_writes_100 : decode cX9_writes 100 = .ok (.aload_n 0, 1) := by decide +kernel
theorem dX9_writes_101 : decode cX9_writes 101 = .ok (.getfield 7, 3) := by decide +kernel
theorem dX9_writes_104 : decode cX9_writes 104 = .ok (.bipush 9, 2) := by decide +kernel
theorem dX9_writes_106 : decode cX9_writes 106 = .ok (.aload_n 0, 1) := by decide +kernel
theorem dX9_writes_107 : decode cX9_writes 107 = .ok (.getfield 7, 3) := by decide +kernel
theorem dX9_writes_110 : decode cX9_writes 110 = .ok (.bipush 9, 2) := by decide +kernel
theorem dX9_writes_112 : decode cX9_writes 112 = .ok (.iaload, 1) := by decide +kernel
theorem dX9_writes_113 : decode cX9_writes 113 = .ok (.iconst 1, 1) := by decide +kernel
theorem dX9_writes_114 : decode cX9_writes 114 = .ok (.iadd, 1) := by decide +kernel
theorem dX9_writes_115 : decode cX9_writes 115 = .ok (.iastore, 1) := by decide +kernel
theorem dX9_writes_116 : decode cX9_writes 116 = .ok (.return_, 1) := by decide +kernel
