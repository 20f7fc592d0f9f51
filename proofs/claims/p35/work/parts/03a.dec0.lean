theorem dX0_agedShort_0 : decode cX0_agedShort 0 = .ok (.aload_n 0, 1) := by decide +kernel
theorem dX0_agedShort_1 : decode cX0_agedShort 1 = .ok (.getfield 9, 3) := by decide +kernel
theorem dX0_agedShort_4 : decode cX0_agedShort 4 = .ok (.iload_n 1, 1) := by decide +kernel
theorem dX0_agedShort_5 : decode cX0_agedShort 5 = .ok (.aaload, 1) := by decide +kernel
theorem dX0_agedShort_6 : decode cX0_agedShort 6 = .ok (.astore_n 3, 1) := by decide +kernel
theorem dX0_agedShort_7 : decode cX0_agedShort 7 = .ok (.aload_n 3, 1) := by decide +kernel
theorem dX0_agedShort_8 : decode cX0_agedShort 8 = .ok (.getfield 83, 3) := by decide +kernel
theorem dX0_agedShort_11 : decode cX0_agedShort 11 = .ok (.aload_n 0, 1) := by decide +kernel
theorem dX0_agedShort_12 : decode cX0_agedShort 12 = .ok (.getfield 90, 3) := by decide +kernel
theorem dX0_agedShort_15 : decode cX0_agedShort 15 = .ok (.iload_n 2, 1) := by decide +kernel
theorem dX0_agedShort_16 : decode cX0_agedShort 16 = .ok (.isub, 1) := by decide +kernel
theorem dX0_agedShort_17 : decode cX0_agedShort 17 = .ok (.iconst 1, 1) := by decide +kernel
theorem dX0_agedShort_18 : decode cX0_agedShort 18 = .ok (.iadd, 1) := by decide +kernel
theorem dX0_agedShort_19 : decode cX0_agedShort 19 = .ok (.invokestatic 93, 3) := by decide +kernel
theorem dX0_agedShort_22 : decode cX0_agedShort 22 = .ok (.istore 4, 2) := by decide +kernel
theorem dX0_agedShort_24 : decode cX0_agedShort 24 = .ok (.iconst 0, 1) := by decide +kernel
theorem dX0_agedShort_25 : decode cX0_agedShort 25 = .ok (.istore 5, 2) := by decide +kernel
theorem dX0_agedShort_27 : decode cX0_agedShort 27 = .ok (.iconst 0, 1) := by decide +kernel
theorem dX0_agedShort_28 : decode cX0_agedShort 28 = .ok (.istore 6, 2) := by decide +kernel
theorem dX0_agedShort_30 : decode cX0_agedShort 30 = .ok (.iload 6, 2) := by decide +kernel
theorem dX0_agedShort_32 : decode cX0_agedShort 32 = .ok (.iload 4, 2) := by decide +kernel
theorem dX0_agedShort_34 : decode cX0_agedShort 34 = .ok (.if_icmp .ge 47, 3) := by decide +kernel
theorem dX0_agedShort_37 : decode cX0_agedShort 37 = .ok (.iconst 0, 1) := by decide +kernel
theorem dX0_agedShort_38 : decode cX0_agedShort 38 = .ok (.istore 7, 2) := by decide +kernel
theorem dX0_agedShort_40 : decode cX0_agedShort 40 = .ok (.iload 7, 2) := by decide +kernel
theorem dX0_agedShort_42 : decode cX0_agedShort 42 = .ok (.aload_n 0, 1) := by decide +kernel
theorem dX0_agedShort_43 : decode cX0_agedShort 43 = .ok (.invokevirtual 42, 3) := by decide +kernel
theorem dX0_agedShort_46 : decode cX0_agedShort 46 = .ok (.if_icmp .ge 29, 3) := by decide +kernel
theorem dX0_agedShort_49 : decode cX0_agedShort 49 = .ok (.iload 5, 2) := by decide +kernel
theorem dX0_agedShort_51 : decode cX0_agedShort 51 = .ok (.iconst 0, 1) := by decide +kernel
theorem dX0_agedShort_52 : decode cX0_agedShort 52 = .ok (.aload_n 3, 1) := by decide +kernel
theorem dX0_agedShort_53 : decode cX0_agedShort 53 = .ok (.getfield 86, 3) := by decide +kernel
theorem dX0_agedShort_56 : decode cX0_agedShort 56 = .ok (.iload 7, 2) := by decide +kernel
theorem dX0_agedShort_58 : decode cX0_agedShort 58 = .ok (.aaload, 1) := by decide +kernel
theorem dX0_agedShort_59 : decode cX0_agedShort 59 = .ok (.iload 6, 2) := by decide +kernel
theorem dX0_agedShort_61 : decode cX0_agedShort 61 = .ok (.iaload, 1) := by decide +kernel
theorem dX0_agedShort_62 : decode cX0_agedShort 62 = .ok (.ineg, 1) := by decide +kernel
theorem dX0_agedShort_63 : decode cX0_agedShort 63 = .ok (.invokestatic 125, 3) := by decide +kernel
theorem dX0_agedShort_66 : decode cX0_agedShort 66 = .ok (.iadd, 1) := by decide +kernel
theorem dX0_agedShort_67 : decode cX0_agedShort 67 = .ok (.istore 5, 2) := by decide +kernel
theorem dX0_agedShort_69 : decode cX0_agedShort 69 = .ok (.iinc 7 1, 3) := by decide +kernel
theorem dX0_agedShort_72 : decode cX0_agedShort 72 = .ok (.goto (-32), 3) := by decide +kernel
theorem dX0_agedShort_75 : decode cX0_agedShort 75 = .ok (.iinc 6 1, 3) := by decide +kernel
theorem dX0_agedShort_78 : decode cX0_agedShort 78 = .ok (.goto (-48), 3) := by decide +kernel
theorem dX0_agedShort_81 : decode cX0_agedShort 81 = .ok (.iload 5, 2) := by decide +kernel
theorem dX0_agedShort_83 : decode cX0_agedShort 83 = .ok (.ireturn, 1) := by decide +kernel
theorem dX0_aheadOf_0 : decode cX0_aheadOf 0 = .ok (.aload_n 0, 1) := by decide +kernel
theorem dX0_aheadOf_1 : decode cX0_aheadOf 1 = .ok (.getfield 127, 3) := by decide +kernel
theorem dX0_aheadOf_4 : decode cX0_aheadOf 4 = .ok (.astore_n 3, 1) := by decide +kernel
theorem dX0_aheadOf_5 : decode cX0_aheadOf 5 = .ok (.aload_n 3, 1) := by decide +kernel
theorem dX0_aheadOf_6 : decode cX0_aheadOf 6 = .ok (.aload_n 0, 1) := by decide +kernel
theorem dX0_aheadOf_7 : decode cX0_aheadOf 7 = .ok (.iload_n 2, 1) := by decide +kernel
theorem dX0_aheadOf_8 : decode cX0_aheadOf 8 = .ok (.invokevirtual 131, 3) := by decide +kernel
theorem dX0_aheadOf_11 : decode cX0_aheadOf 11 = .ok (.iconst 0, 1) := by decide +kernel
theorem dX0_aheadOf_12 : decode cX0_aheadOf 12 = .ok (.istore 4, 2) := by decide +kernel
theorem dX0_aheadOf_14 : decode cX0_aheadOf 14 = .ok (.iconst 0, 1) := by decide +kernel
theorem dX0_aheadOf_15 : decode cX0_aheadOf 15 = .ok (.istore 5, 2) := by decide +kernel
theorem dX0_aheadOf_17 : decode cX0_aheadOf 17 = .ok (.iload 5, 2) := by decide +kernel
theorem dX0_aheadOf_19 : decode cX0_aheadOf 19 = .ok (.aload_n 3, 1) := by decide +kernel
theorem dX0_aheadOf_20 : decode cX0_aheadOf 20 = .ok (.getfield 137, 3) := by decide +kernel
theorem dX0_aheadOf_23 : decode cX0_aheadOf 23 = .ok (.if_icmp .ge 50, 3) := by decide +kernel
theorem dX0_aheadOf_26 : decode cX0_aheadOf 26 = .ok (.aload_n 3, 1) := by decide +kernel
theorem dX0_aheadOf_27 : decode cX0_aheadOf 27 = .ok (.getfield 139, 3) := by decide +kernel
theorem dX0_aheadOf_30 : decode cX0_aheadOf 30 = .ok (.iload 5, 2) := by decide +kernel
theorem dX0_aheadOf_32 : decode cX0_aheadOf 32 = .ok (.iaload, 1) := by decide +kernel
theorem dX0_aheadOf_33 : decode cX0_aheadOf 33 = .ok (.iload_n 1, 1) := by decide +kernel
theorem dX0_aheadOf_34 : decode cX0_aheadOf 34 = .ok (.if_icmp .eq 39, 3) := by decide +kernel
theorem dX0_aheadOf_37 : decode cX0_aheadOf 37 = .ok (.iload 4, 2) := by decide +kernel
theorem dX0_aheadOf_39 : decode cX0_aheadOf 39 = .ok (.aload_n 0, 1) := by decide +kernel
theorem dX0_aheadOf_40 : decode cX0_aheadOf 40 = .ok (.getfield 9, 3) := by decide +kernel
theorem dX0_aheadOf_43 : decode cX0_aheadOf 43 = .ok (.iload_n 2, 1) := by decide +kernel
theorem dX0_aheadOf_44 : decode cX0_aheadOf 44 = .ok (.aaload, 1) := by decide +kernel
theorem dX0_aheadOf_45 : decode cX0_aheadOf 45 = .ok (.getfield 86, 3) := by decide +kernel
theorem dX0_aheadOf_48 : decode cX0_aheadOf 48 = .ok (.aload_n 3, 1) := by decide +kernel
theorem dX0_aheadOf_49 : decode cX0_aheadOf 49 = .ok (.getfield 139, 3) := by decide +kernel
theorem dX0_aheadOf_52 : decode cX0_aheadOf 52 = .ok (.iload 5, 2) := by decide +kernel
theorem dX0_aheadOf_54 : decode cX0_aheadOf 54 = .ok (.iaload, 1) := by decide +kernel
theorem dX0_aheadOf_55 : decode cX0_aheadOf 55 = .ok (.aaload, 1) := by decide +kernel
theorem dX0_aheadOf_56 : decode cX0_aheadOf 56 = .ok (.aload_n 3, 1) := by decide +kernel
theorem dX0_aheadOf_57 : decode cX0_aheadOf 57 = .ok (.getfield 142, 3) := by decide +kernel
theorem dX0_aheadOf_60 : decode cX0_aheadOf 60 = .ok (.iload 5, 2) := by decide +kernel
theorem dX0_aheadOf_62 : decode cX0_aheadOf 62 = .ok (.iaload, 1) := by decide +kernel
theorem dX0_aheadOf_63 : decode cX0_aheadOf 63 = .ok (.iaload, 1) := by decide +kernel
theorem dX0_aheadOf_64 : decode cX0_aheadOf 64 = .ok (.iadd, 1) := by decide +kernel
theorem dX0_aheadOf_65 : decode cX0_aheadOf 65 = .ok (.istore 4, 2) := by decide +kernel
theorem dX0_aheadOf_67 : decode cX0_aheadOf 67 = .ok (.iinc 5 1, 3) := by decide +kernel
theorem dX0_aheadOf_70 : decode cX0_aheadOf 70 = .ok (.goto (-53), 3) := by decide +kernel
theorem dX0_aheadOf_73 : decode cX0_aheadOf 73 = .ok (.iload 4, 2) := by decide +kernel
theorem dX0_aheadOf_75 : decode cX0_aheadOf 75 = .ok (.ireturn, 1) := by decide +kernel
theorem dX0_allCash_0 : decode cX0_allCash 0 = .ok (.lconst 0, 1) := by decide +kernel
theorem dX0_allCash_1 : decode cX0_allCash 1 = .ok (.lstore_n 1, 1) := by decide +kernel
theorem dX0_allCash_2 : decode cX0_allCash 2 = .ok (.iconst 0, 1) := by decide +kernel
theorem dX0_allCash_3 : decode cX0_allCash 3 = .ok (.istore_n 3, 1) := by decide +kernel
theorem dX0_allCash_4 : decode cX0_allCash 4 = .ok (.iload_n 3, 1) := by decide +kernel
theorem dX0_allCash_5 : decode cX0_allCash 5 = .ok (.bipush 12, 2) := by decide +kernel
theorem dX0_allCash_7 : decode cX0_allCash 7 = .ok (.if_icmp .ge 18, 3) := by decide +kernel
theorem dX0_allCash_10 : decode cX0_allCash 10 = .ok (.lload_n 1, 1) := by decide +kernel
theorem dX0_allCash_11 : decode cX0_allCash 11 = .ok (.aload_n 0, 1) := by decide +kernel
theorem dX0_allCash_12 : decode cX0_allCash 12 = .ok (.getfield 76, 3) := by decide +kernel
theorem dX0_allCash_15 : decode cX0_allCash 15 = .ok (.iload_n 3, 1) := by decide +kernel
theorem dX0_allCash_16 : decode cX0_allCash 16 = .ok (.laload, 1) := by decide +kernel
theorem dX0_allCash_17 : decode cX0_allCash 17 = .ok (.ladd, 1) := by decide +kernel
theorem dX0_allCash_18 : decode cX0_allCash 18 = .ok (.lstore_n 1, 1) := by decide +kernel
theorem dX0_allCash_19 : decode cX0_allCash 19 = .ok (.iinc 3 1, 3) := by decide +kernel
theorem dX0_allCash_22 : decode cX0_allCash 22 = .ok (.goto (-18), 3) := by decide +kernel
theorem dX0_allCash_25 : decode cX0_allCash 25 = .ok (.lload_n 1, 1) := by decide +kernel
theorem dX0_allCash_26 : decode cX0_allCash 26 = .ok (.lreturn, 1) := by decide +kernel
theorem dX0_booked_0 : decode cX0_booked 0 = .ok (.iconst 0, 1) := by decide +kernel
theorem dX0_booked_1 : decode cX0_booked 1 = .ok (.istore 4, 2) := by decide +kernel
theorem dX0_booked_3 : decode cX0_booked 3 = .ok (.iconst 0, 1) := by decide +kernel
theorem dX0_booked_4 : decode cX0_booked 4 = .ok (.istore 5, 2) := by decide +kernel
theorem dX0_booked_6 : decode cX0_booked 6 = .ok (.iload 5, 2) := by decide +kernel
theorem dX0_booked_8 : decode cX0_booked 8 = .ok (.aload_n 0, 1) := by decide +kernel
theorem dX0_booked_9 : decode cX0_booked 9 = .ok (.invokevirtual 65, 3) := by decide +kernel
theorem dX0_booked_12 : decode cX0_booked 12 = .ok (.if_icmp .ge 43, 3) := by decide +kernel
theorem dX0_booked_15 : decode cX0_booked 15 = .ok (.aload_n 0, 1) := by decide +kernel
theorem dX0_booked_16 : decode cX0_booked 16 = .ok (.iconst 1, 1) := by decide +kernel
theorem dX0_booked_17 : decode cX0_booked 17 = .ok (.iload 5, 2) := by decide +kernel
theorem dX0_booked_19 : decode cX0_booked 19 = .ok (.invokevirtual 70, 3) := by decide +kernel
theorem dX0_booked_22 : decode cX0_booked 22 = .ok (.iload_n 2, 1) := by decide +kernel
theorem dX0_booked_23 : decode cX0_booked 23 = .ok (.if_icmp .ne 26, 3) := by decide +kernel
theorem dX0_booked_26 : decode cX0_booked 26 = .ok (.aload_n 0, 1) := by decide +kernel
theorem dX0_booked_27 : decode cX0_booked 27 = .ok (.iload_n 3, 1) := by decide +kernel
theorem dX0_booked_28 : decode cX0_booked 28 = .ok (.iload 5, 2) := by decide +kernel
theorem dX0_booked_30 : decode cX0_booked 30 = .ok (.invokevirtual 70, 3) := by decide +kernel
theorem dX0_booked_33 : decode cX0_booked 33 = .ok (.iload_n 1, 1) := by decide +kernel
theorem dX0_booked_34 : decode cX0_booked 34 = .ok (.if_icmp .ne 15, 3) := by decide +kernel
theorem dX0_booked_37 : decode cX0_booked 37 = .ok (.iload 4, 2) := by decide +kernel
theorem dX0_booked_39 : decode cX0_booked 39 = .ok (.aload_n 0, 1) := by decide +kernel
theorem dX0_booked_40 : decode cX0_booked 40 = .ok (.iconst 5, 1) := by decide +kernel
theorem dX0_booked_41 : decode cX0_booked 41 = .ok (.iload 5, 2) := by decide +kernel
theorem dX0_booked_43 : decode cX0_booked 43 = .ok (.invokevirtual 70, 3) := by decide +kernel
theorem dX0_booked_46 : decode cX0_booked 46 = .ok (.iadd, 1) := by decide +kernel
theorem dX0_booked_47 : decode cX0_booked 47 = .ok (.istore 4, 2) := by decide +kernel
theorem dX0_booked_49 : decode cX0_booked 49 = .ok (.iinc 5 1, 3) := by decide +kernel
theorem dX0_booked_52 : decode cX0_booked 52 = .ok (.goto (-46), 3) := by decide +kernel
theorem dX0_booked_55 : decode cX0_booked 55 = .ok (.iload 4, 2) := by decide +kernel
theorem dX0_booked_57 : decode cX0_booked 57 = .ok (.ireturn, 1) := by decide +kernel
theorem dX0_countDeals_0 : decode cX0_countDeals 0 = .ok (.iconst 0, 1) := by decide +kernel
theorem dX0_countDeals_1 : decode cX0_countDeals 1 = .ok (.istore_n 2, 1) := by decide +kernel
theorem dX0_countDeals_2 : decode cX0_countDeals 2 = .ok (.iconst 0, 1) := by decide +kernel
theorem dX0_countDeals_3 : decode cX0_countDeals 3 = .ok (.istore_n 3, 1) := by decide +kernel
theorem dX0_countDeals_4 : decode cX0_countDeals 4 = .ok (.iload_n 3, 1) := by decide +kernel
theorem dX0_countDeals_5 : decode cX0_countDeals 5 = .ok (.aload_n 0, 1) := by decide +kernel
theorem dX0_countDeals_6 : decode cX0_countDeals 6 = .ok (.getfield 61, 3) := by decide +kernel
theorem dX0_countDeals_9 : decode cX0_countDeals 9 = .ok (.invokevirtual 65, 3) := by decide +kernel
theorem dX0_countDeals_12 : decode cX0_countDeals 12 = .ok (.if_icmp .ge 25, 3) := by decide +kernel
theorem dX0_countDeals_15 : decode cX0_countDeals 15 = .ok (.aload_n 0, 1) := by decide +kernel
theorem dX0_countDeals_16 : decode cX0_countDeals 16 = .ok (.getfield 61, 3) := by decide +kernel
theorem dX0_countDeals_19 : decode cX0_countDeals 19 = .ok (.iconst 2, 1) := by decide +kernel
theorem dX0_countDeals_20 : decode cX0_countDeals 20 = .ok (.iload_n 3, 1) := by decide +kernel
theorem dX0_countDeals_21 : decode cX0_countDeals 21 = .ok (.invokevirtual 70, 3) := by decide +kernel
theorem dX0_countDeals_24 : decode cX0_countDeals 24 = .ok (.iload_n 1, 1) := by decide +kernel
theorem dX0_countDeals_25 : decode cX0_countDeals 25 = .ok (.if_icmp .ne 6, 3) := by decide +kernel
theorem dX0_countDeals_28 : decode cX0_countDeals 28 = .ok (.iinc 2 1, 3) := by decide +kernel
theorem dX0_countDeals_31 : decode cX0_countDeals 31 = .ok (.iinc 3 1, 3) := by decide +kernel
theorem dX0_countDeals_34 : decode cX0_countDeals 34 = .ok (.goto (-30), 3) := by decide +kernel
theorem dX0_countDeals_37 : decode cX0_countDeals 37 = .ok (.iload_n 2, 1) := by decide +kernel
theorem dX0_countDeals_38 : decode cX0_countDeals 38 = .ok (.ireturn, 1) := by decide +kernel
theorem dX0_demand_0 : decode cX0_demand 0 = .ok (.lconst 0, 1) := by decide +kernel
theorem dX0_demand_1 : decode cX0_demand 1 = .ok (.lstore_n 2, 1) := by decide +kernel
theorem dX0_demand_2 : decode cX0_demand 2 = .ok (.iconst 0, 1) := by decide +kernel
theorem dX0_demand_3 : decode cX0_demand 3 = .ok (.istore 4, 2) := by decide +kernel
theorem dX0_demand_5 : decode cX0_demand 5 = .ok (.iload 4, 2) := by decide +kernel
theorem dX0_demand_7 : decode cX0_demand 7 = .ok (.bipush 6, 2) := by decide +kernel
theorem dX0_demand_9 : decode cX0_demand 9 = .ok (.if_icmp .ge 102, 3) := by decide +kernel
theorem dX0_demand_12 : decode cX0_demand 12 = .ok (.aload_n 0, 1) := by decide +kernel
theorem dX0_demand_13 : decode cX0_demand 13 = .ok (.getfield 9, 3) := by decide +kernel
theorem dX0_demand_16 : decode cX0_demand 16 = .ok (.iload 4, 2) := by decide +kernel
theorem dX0_demand_18 : decode cX0_demand 18 = .ok (.aaload, 1) := by decide +kernel
theorem dX0_demand_19 : decode cX0_demand 19 = .ok (.astore 5, 2) := by decide +kernel
theorem dX0_demand_21 : decode cX0_demand 21 = .ok (.iconst 0, 1) := by decide +kernel
theorem dX0_demand_22 : decode cX0_demand 22 = .ok (.istore 6, 2) := by decide +kernel
theorem dX0_demand_24 : decode cX0_demand 24 = .ok (.iload 6, 2) := by decide +kernel
theorem dX0_demand_26 : decode cX0_demand 26 = .ok (.aload 5, 2) := by decide +kernel
theorem dX0_demand_28 : decode cX0_demand 28 = .ok (.getfield 83, 3) := by decide +kernel
theorem dX0_demand_31 : decode cX0_demand 31 = .ok (.if_icmp .ge 74, 3) := by decide +kernel
theorem dX0_demand_34 : decode cX0_demand 34 = .ok (.aload 5, 2) := by decide +kernel
theorem dX0_demand_36 : decode cX0_demand 36 = .ok (.getfield 86, 3) := by decide +kernel
theorem dX0_demand_39 : decode cX0_demand 39 = .ok (.iload_n 1, 1) := by decide +kernel
theorem dX0_demand_40 : decode cX0_demand 40 = .ok (.aaload, 1) := by decide +kernel
theorem dX0_demand_41 : decode cX0_demand 41 = .ok (.iload 6, 2) := by decide +kernel
theorem dX0_demand_43 : decode cX0_demand 43 = .ok (.iaload, 1) := by decide +kernel
theorem dX0_demand_44 : decode cX0_demand 44 = .ok (.istore 7, 2) := by decide +kernel
theorem dX0_demand_46 : decode cX0_demand 46 = .ok (.iload 7, 2) := by decide +kernel
theorem dX0_demand_48 : decode cX0_demand 48 = .ok (.ifCond .ge 15, 3) := by decide +kernel
theorem dX0_demand_51 : decode cX0_demand 51 = .ok (.iconst 5, 1) := by decide +kernel
theorem dX0_demand_52 : decode cX0_demand 52 = .ok (.aload_n 0, 1) := by decide +kernel
theorem dX0_demand_53 : decode cX0_demand 53 = .ok (.getfield 90, 3) := by decide +kernel
theorem dX0_demand_56 : decode cX0_demand 56 = .ok (.iload 6, 2) := by decide +kernel
theorem dX0_demand_58 : decode cX0_demand 58 = .ok (.isub, 1) := by decide +kernel
theorem dX0_demand_59 : decode cX0_demand 59 = .ok (.imul, 1) := by decide +kernel
theorem dX0_demand_60 : decode cX0_demand 60 = .ok (.goto 4, 3) := by decide +kernel
theorem dX0_demand_63 : decode cX0_demand 63 = .ok (.iconst 0, 1) := by decide +kernel
theorem dX0_demand_64 : decode cX0_demand 64 = .ok (.istore 8, 2) := by decide +kernel
theorem dX0_demand_66 : decode cX0_demand 66 = .ok (.bipush 100, 2) := by decide +kernel
theorem dX0_demand_68 : decode cX0_demand 68 = .ok (.bipush 10, 2) := by decide +kernel
theorem dX0_demand_70 : decode cX0_demand 70 = .ok (.iload 8, 2) := by decide +kernel
theorem dX0_demand_72 : decode cX0_demand 72 = .ok (.iadd, 1) := by decide +kernel
theorem dX0_demand_73 : decode cX0_demand 73 = .ok (.invokestatic 93, 3) := by decide +kernel
theorem dX0_demand_76 : decode cX0_demand 76 = .ok (.istore 9, 2) := by decide +kernel
theorem dX0_demand_78 : decode cX0_demand 78 = .ok (.lload_n 2, 1) := by decide +kernel
theorem dX0_demand_79 : decode cX0_demand 79 = .ok (.aload 5, 2) := by decide +kernel
theorem dX0_demand_81 : decode cX0_demand 81 = .ok (.iload 7, 2) := by decide +kernel
theorem dX0_demand_83 : decode cX0_demand 83 = .ok (.invokestatic 98, 3) := by decide +kernel
theorem dX0_demand_86 : decode cX0_demand 86 = .ok (.invokevirtual 101, 3) := by decide +kernel
theorem dX0_demand_89 : decode cX0_demand 89 = .ok (.iload 9, 2) := by decide +kernel
theorem dX0_demand_91 : decode cX0_demand 91 = .ok (.i2l, 1) := by decide +kernel
theorem dX0_demand_92 : decode cX0_demand 92 = .ok (.lmul, 1) := by decide +kernel
theorem dX0_demand_93 : decode cX0_demand 93 = .ok (.ldc2_w 105, 3) := by decide +kernel
theorem dX0_demand_96 : decode cX0_demand 96 = .ok (.ldiv, 1) := by decide +kernel
theorem dX0_demand_97 : decode cX0_demand 97 = .ok (.ladd, 1) := by decide +kernel
theorem dX0_demand_98 : decode cX0_demand 98 = .ok (.lstore_n 2, 1) := by decide +kernel
theorem dX0_demand_99 : decode cX0_demand 99 = .ok (.iinc 6 1, 3) := by decide +kernel
theorem dX0_demand_102 : decode cX0_demand 102 = .ok (.goto (-78), 3) := by decide +kernel
theorem dX0_demand_105 : decode cX0_demand 105 = .ok (.iinc 4 1, 3) := by decide +kernel
theorem dX0_demand_108 : decode cX0_demand 108 = .ok (.goto (-103), 3) := by decide +kernel
theorem dX0_demand_111 : decode cX0_demand 111 = .ok (.lload_n 2, 1) := by decide +kernel
theorem dX0_demand_112 : decode cX0_demand 112 = .ok (.lreturn, 1) := by decide +kernel
theorem dX0_eldestDay_0 : decode cX0_eldestDay 0 = .ok (.iconst (-1), 1) := by decide +kernel
theorem dX0_eldestDay_1 : decode cX0_eldestDay 1 = .ok (.istore_n 2, 1) := by decide +kernel
theorem dX0_eldestDay_2 : decode cX0_eldestDay 2 = .ok (.iconst 0, 1) := by decide +kernel
theorem dX0_eldestDay_3 : decode cX0_eldestDay 3 = .ok (.istore_n 3, 1) := by decide +kernel
theorem dX0_eldestDay_4 : decode cX0_eldestDay 4 = .ok (.iload_n 3, 1) := by decide +kernel
theorem dX0_eldestDay_5 : decode cX0_eldestDay 5 = .ok (.aload_n 0, 1) := by decide +kernel
theorem dX0_eldestDay_6 : decode cX0_eldestDay 6 = .ok (.invokevirtual 42, 3) := by decide +kernel
theorem dX0_eldestDay_9 : decode cX0_eldestDay 9 = .ok (.if_icmp .ge 37, 3) := by decide +kernel
theorem dX0_eldestDay_12 : decode cX0_eldestDay 12 = .ok (.aload_n 1, 1) := by decide +kernel
theorem dX0_eldestDay_13 : decode cX0_eldestDay 13 = .ok (.iload_n 3, 1) := by decide +kernel
theorem dX0_eldestDay_14 : decode cX0_eldestDay 14 = .ok (.iconst 0, 1) := by decide +kernel
theorem dX0_eldestDay_15 : decode cX0_eldestDay 15 = .ok (.invokevirtual 57, 3) := by decide +kernel
theorem dX0_eldestDay_18 : decode cX0_eldestDay 18 = .ok (.istore 4, 2) := by decide +kernel
theorem dX0_eldestDay_20 : decode cX0_eldestDay 20 = .ok (.iload 4, 2) := by decide +kernel
theorem dX0_eldestDay_22 : decode cX0_eldestDay 22 = .ok (.iconst (-1), 1) := by decide +kernel
theorem dX0_eldestDay_23 : decode cX0_eldestDay 23 = .ok (.if_icmp .eq 17, 3) := by decide +kernel
theorem dX0_eldestDay_26 : decode cX0_eldestDay 26 = .ok (.iload_n 2, 1) := by decide +kernel
theorem dX0_eldestDay_27 : decode cX0_eldestDay 27 = .ok (.iconst (-1), 1) := by decide +kernel
theorem dX0_eldestDay_28 : decode cX0_eldestDay 28 = .ok (.if_icmp .eq 9, 3) := by decide +kernel
theorem dX0_eldestDay_31 : decode cX0_eldestDay 31 = .ok (.iload 4, 2) := by decide +kernel
theorem dX0_eldestDay_33 : decode cX0_eldestDay 33 = .ok (.iload_n 2, 1) := by decide +kernel
theorem dX0_eldestDay_34 : decode cX0_eldestDay 34 = .ok (.if_icmp .ge 6, 3) := by decide +kernel
theorem dX0_eldestDay_37 : decode cX0_eldestDay 37 = .ok (.iload 4, 2) := by decide +kernel
theorem dX0_eldestDay_39 : decode cX0_eldestDay 39 = .ok (.istore_n 2, 1) := by decide +kernel
theorem dX0_eldestDay_40 : decode cX0_eldestDay 40 = .ok (.iinc 3 1, 3) := by decide +kernel
theorem dX0_eldestDay_43 : decode cX0_eldestDay 43 = .ok (.goto (-39), 3) := by decide +kernel
theorem dX0_eldestDay_46 : decode cX0_eldestDay 46 = .ok (.iload_n 2, 1) := by decide +kernel
theorem dX0_eldestDay_47 : decode cX0_eldestDay 47 = .ok (.ireturn, 1) := by decide +kernel
theorem dX0_lacking_0 : decode cX0_lacking 0 = .ok (.iconst 0, 1) := by decide +kernel
theorem dX0_lacking_1 : decode cX0_lacking 1 = .ok (.istore_n 1, 1) := by decide +kernel
theorem dX0_lacking_2 : decode cX0_lacking 2 = .ok (.iconst 0, 1) := by decide +kernel
theorem dX0_lacking_3 : decode cX0_lacking 3 = .ok (.istore_n 2, 1) := by decide +kernel
theorem dX0_lacking_4 : decode cX0_lacking 4 = .ok (.iload_n 2, 1) := by decide +kernel
theorem dX0_lacking_5 : decode cX0_lacking 5 = .ok (.aload_n 0, 1) := by decide +kernel
theorem dX0_lacking_6 : decode cX0_lacking 6 = .ok (.invokevirtual 42, 3) := by decide +kernel
theorem dX0_lacking_9 : decode cX0_lacking 9 = .ok (.if_icmp .ge 22, 3) := by decide +kernel
theorem dX0_lacking_12 : decode cX0_lacking 12 = .ok (.aload_n 0, 1) := by decide +kernel
theorem dX0_lacking_13 : decode cX0_lacking 13 = .ok (.iload_n 2, 1) := by decide +kernel
theorem dX0_lacking_14 : decode cX0_lacking 14 = .ok (.invokestatic 119, 3) := by decide +kernel
theorem dX0_lacking_17 : decode cX0_lacking 17 = .ok (.lconst 0, 1) := by decide +kernel
theorem dX0_lacking_18 : decode cX0_lacking 18 = .ok (.lcmp, 1) := by decide +kernel
theorem dX0_lacking_19 : decode cX0_lacking 19 = .ok (.ifCond .le 6, 3) := by decide +kernel
theorem dX0_lacking_22 : decode cX0_lacking 22 = .ok (.iinc 1 1, 3) := by decide +kernel
theorem dX0_lacking_25 : decode cX0_lacking 25 = .ok (.iinc 2 1, 3) := by decide +kernel
theorem dX0_lacking_28 : decode cX0_lacking 28 = .ok (.goto (-24), 3) := by decide +kernel
theorem dX0_lacking_31 : decode cX0_lacking 31 = .ok (.iload_n 1, 1) := by decide +kernel
theorem dX0_lacking_32 : decode cX0_lacking 32 = .ok (.ireturn, 1) := by decide +kernel
theorem dX0_lacks_0 : decode cX0_lacks 0 = .ok (.lconst 0, 1) := by decide +kernel
theorem dX0_lacks_1 : decode cX0_lacks 1 = .ok (.aload_n 0, 1) := by decide +kernel
theorem dX0_lacks_2 : decode cX0_lacks 2 = .ok (.iload_n 1, 1) := by decide +kernel
theorem dX0_lacks_3 : decode cX0_lacks 3 = .ok (.invokestatic 107, 3) := by decide +kernel
theorem dX0_lacks_6 : decode cX0_lacks 6 = .ok (.aload_n 0, 1) := by decide +kernel
theorem dX0_lacks_7 : decode cX0_lacks 7 = .ok (.getfield 111, 3) := by decide +kernel
theorem dX0_lacks_10 : decode cX0_lacks 10 = .ok (.iload_n 1, 1) := by decide +kernel
theorem dX0_lacks_11 : decode cX0_lacks 11 = .ok (.iaload, 1) := by decide +kernel
theorem dX0_lacks_12 : decode cX0_lacks 12 = .ok (.i2l, 1) := by decide +kernel
theorem dX0_lacks_13 : decode cX0_lacks 13 = .ok (.lsub, 1) := by decide +kernel
theorem dX0_lacks_14 : decode cX0_lacks 14 = .ok (.invokestatic 115, 3) := by decide +kernel
theorem dX0_lacks_17 : decode cX0_lacks 17 = .ok (.lreturn, 1) := by decide +kernel
theorem dX0_ofIssue_0 : decode cX0_ofIssue 0 = .ok (.aload_n 0, 1) := by decide +kernel
theorem dX0_ofIssue_1 : decode cX0_ofIssue 1 = .ok (.getfield 9, 3) := by decide +kernel
theorem dX0_ofIssue_4 : decode cX0_ofIssue 4 = .ok (.iload_n 1, 1) := by decide +kernel
theorem dX0_ofIssue_5 : decode cX0_ofIssue 5 = .ok (.aaload, 1) := by decide +kernel
theorem dX0_ofIssue_6 : decode cX0_ofIssue 6 = .ok (.astore_n 3, 1) := by decide +kernel
theorem dX0_ofIssue_7 : decode cX0_ofIssue 7 = .ok (.iload_n 2, 1) := by decide +kernel
theorem dX0_ofIssue_8 : decode cX0_ofIssue 8 = .ok (.tableswitch 98 0 8 #[52, 57, 62, 62, 62, 69, 75, 84, 90], 52) := by decide +kernel
theorem dX0_ofIssue_60 : decode cX0_ofIssue 60 = .ok (.aload_n 3, 1) := by decide +kernel
theorem dX0_ofIssue_61 : decode cX0_ofIssue 61 = .ok (.getfield 15, 3) := by decide +kernel
theorem dX0_ofIssue_64 : decode cX0_ofIssue 64 = .ok (.ireturn, 1) := by decide +kernel
theorem dX0_ofIssue_65 : decode cX0_ofIssue 65 = .ok (.aload_n 3, 1) := by decide +kernel
theorem dX0_ofIssue_66 : decode cX0_ofIssue 66 = .ok (.getfield 21, 3) := by decide +kernel
theorem dX0_ofIssue_69 : decode cX0_ofIssue 69 = .ok (.ireturn, 1) := by decide +kernel
theorem dX0_ofIssue_70 : decode cX0_ofIssue 70 = .ok (.aload_n 0, 1) := by decide +kernel
theorem dX0_ofIssue_71 : decode cX0_ofIssue 71 = .ok (.aload_n 3, 1) := by decide +kernel
theorem dX0_ofIssue_72 : decode cX0_ofIssue 72 = .ok (.iload_n 2, 1) := by decide +kernel
theorem dX0_ofIssue_73 : decode cX0_ofIssue 73 = .ok (.invokestatic 24, 3) := by decide +kernel
theorem dX0_ofIssue_76 : decode cX0_ofIssue 76 = .ok (.ireturn, 1) := by decide +kernel
theorem dX0_ofIssue_77 : decode cX0_ofIssue 77 = .ok (.aload_n 0, 1) := by decide +kernel
theorem dX0_ofIssue_78 : decode cX0_ofIssue 78 = .ok (.aload_n 3, 1) := by decide +kernel
theorem dX0_ofIssue_79 : decode cX0_ofIssue 79 = .ok (.invokestatic 30, 3) := by decide +kernel
theorem dX0_ofIssue_82 : decode cX0_ofIssue 82 = .ok (.ireturn, 1) := by decide +kernel
theorem dX0_ofIssue_83 : decode cX0_ofIssue 83 = .ok (.aload_n 0, 1) := by decide +kernel
theorem dX0_ofIssue_84 : decode cX0_ofIssue 84 = .ok (.iload_n 1, 1) := by decide +kernel
theorem dX0_ofIssue_85 : decode cX0_ofIssue 85 = .ok (.iconst 1, 1) := by decide +kernel
theorem dX0_ofIssue_86 : decode cX0_ofIssue 86 = .ok (.bipush 7, 2) := by decide +kernel
theorem dX0_ofIssue_88 : decode cX0_ofIssue 88 = .ok (.invokestatic 34, 3) := by decide +kernel
theorem dX0_ofIssue_91 : decode cX0_ofIssue 91 = .ok (.ireturn, 1) := by decide +kernel
theorem dX0_ofIssue_92 : decode cX0_ofIssue 92 = .ok (.aload_n 0, 1) := by decide +kernel
theorem dX0_ofIssue_93 : decode cX0_ofIssue 93 = .ok (.iload_n 1, 1) := by decide +kernel
theorem dX0_ofIssue_94 : decode cX0_ofIssue 94 = .ok (.invokestatic 38, 3) := by decide +kernel
theorem dX0_ofIssue_97 : decode cX0_ofIssue 97 = .ok (.ireturn, 1) := by decide +kernel
theorem dX0_ofIssue_98 : decode cX0_ofIssue 98 = .ok (.aload_n 0, 1) := by decide +kernel
theorem dX0_ofIssue_99 : decode cX0_ofIssue 99 = .ok (.iload_n 1, 1) := by decide +kernel
theorem dX0_ofIssue_100 : decode cX0_ofIssue 100 = .ok (.iconst (-1), 1) := by decide +kernel
theorem dX0_ofIssue_101 : decode cX0_ofIssue 101 = .ok (.iconst 3, 1) := by decide +kernel
theorem dX0_ofIssue_102 : decode cX0_ofIssue 102 = .ok (.invokestatic 34, 3) := by decide +kernel
theorem dX0_ofIssue_105 : decode cX0_ofIssue 105 = .ok (.ireturn, 1) := by decide +kernel
theorem dX0_ofIssue_106 : decode cX0_ofIssue 106 = .ok (.iconst (-1), 1) := by decide +kernel
theorem dX0_ofIssue_107 : decode cX0_ofIssue 107 = .ok (.ireturn, 1) := by decide +kernel
theorem dX0_openNotices_0 : decode cX0_openNotices 0 = .ok (.iconst 0, 1) := by decide +kernel
theorem dX0_openNotices_1 : decode cX0_openNotices 1 = .ok (.istore_n 1, 1) := by decide +kernel
theorem dX0_openNotices_2 : decode cX0_openNotices 2 = .ok (.iconst 0, 1) := by decide +kernel
theorem dX0_openNotices_3 : decode cX0_openNotices 3 = .ok (.istore_n 2, 1) := by decide +kernel
theorem dX0_openNotices_4 : decode cX0_openNotices 4 = .ok (.iload_n 2, 1) := by decide +kernel
theorem dX0_openNotices_5 : decode cX0_openNotices 5 = .ok (.aload_n 0, 1) := by decide +kernel
theorem dX0_openNotices_6 : decode cX0_openNotices 6 = .ok (.getfield 73, 3) := by decide +kernel
theorem dX0_openNotices_9 : decode cX0_openNotices 9 = .ok (.invokevirtual 65, 3) := by decide +kernel
theorem dX0_openNotices_12 : decode cX0_openNotices 12 = .ok (.if_icmp .ge 21, 3) := by decide +kernel
theorem dX0_openNotices_15 : decode cX0_openNotices 15 = .ok (.iload_n 1, 1) := by decide +kernel
theorem dX0_openNotices_16 : decode cX0_openNotices 16 = .ok (.aload_n 0, 1) := by decide +kernel
theorem dX0_openNotices_17 : decode cX0_openNotices 17 = .ok (.getfield 73, 3) := by decide +kernel
theorem dX0_openNotices_20 : decode cX0_openNotices 20 = .ok (.iconst 4, 1) := by decide +kernel
theorem dX0_openNotices_21 : decode cX0_openNotices 21 = .ok (.iload_n 2, 1) := by decide +kernel
theorem dX0_openNotices_22 : decode cX0_openNotices 22 = .ok (.invokevirtual 70, 3) := by decide +kernel
theorem dX0_openNotices_25 : decode cX0_openNotices 25 = .ok (.iadd, 1) := by decide +kernel
theorem dX0_openNotices_26 : decode cX0_openNotices 26 = .ok (.istore_n 1, 1) := by decide +kernel
theorem dX0_openNotices_27 : decode cX0_openNotices 27 = .ok (.iinc 2 1, 3) := by decide +kernel
theorem dX0_openNotices_30 : decode cX0_openNotices 30 = .ok (.goto (-26), 3) := by decide +kernel
theorem dX0_openNotices_33 : decode cX0_openNotices 33 = .ok (.iload_n 1, 1) := by decide +kernel
theorem dX0_openNotices_34 : decode cX0_openNotices 34 = .ok (.ireturn, 1) := by decide +kernel
theorem dX0_overDeals_0 : decode cX0_overDeals 0 = .ok (.aload_n 0, 1) := by decide +kernel
theorem dX0_overDeals_1 : decode cX0_overDeals 1 = .ok (.getfield 61, 3) := by decide +kernel
theorem dX0_overDeals_4 : decode cX0_overDeals 4 = .ok (.astore 4, 2) := by decide +kernel
theorem dX0_overDeals_6 : decode cX0_overDeals 6 = .ok (.iconst 0, 1) := by decide +kernel
theorem dX0_overDeals_7 : decode cX0_overDeals 7 = .ok (.istore 5, 2) := by decide +kernel
theorem dX0_overDeals_9 : decode cX0_overDeals 9 = .ok (.iconst 0, 1) := by decide +kernel
theorem dX0_overDeals_10 : decode cX0_overDeals 10 = .ok (.istore 6, 2) := by decide +kernel
theorem dX0_overDeals_12 : decode cX0_overDeals 12 = .ok (.iload 6, 2) := by decide +kernel
theorem dX0_overDeals_14 : decode cX0_overDeals 14 = .ok (.aload 4, 2) := by decide +kernel
theorem dX0_overDeals_16 : decode cX0_overDeals 16 = .ok (.invokevirtual 65, 3) := by decide +kernel
theorem dX0_overDeals_19 : decode cX0_overDeals 19 = .ok (.if_icmp .ge 68, 3) := by decide +kernel
theorem dX0_overDeals_22 : decode cX0_overDeals 22 = .ok (.iload_n 1, 1) := by decide +kernel
theorem dX0_overDeals_23 : decode cX0_overDeals 23 = .ok (.iconst (-1), 1) := by decide +kernel
theorem dX0_overDeals_24 : decode cX0_overDeals 24 = .ok (.if_icmp .eq 15, 3) := by decide +kernel
theorem dX0_overDeals_27 : decode cX0_overDeals 27 = .ok (.aload 4, 2) := by decide +kernel
theorem dX0_overDeals_29 : decode cX0_overDeals 29 = .ok (.iconst 2, 1) := by decide +kernel
theorem dX0_overDeals_30 : decode cX0_overDeals 30 = .ok (.iload 6, 2) := by decide +kernel
theorem dX0_overDeals_32 : decode cX0_overDeals 32 = .ok (.invokevirtual 70, 3) := by decide +kernel
theorem dX0_overDeals_35 : decode cX0_overDeals 35 = .ok (.iload_n 1, 1) := by decide +kernel
theorem dX0_overDeals_36 : decode cX0_overDeals 36 = .ok (.if_icmp .ne 7, 3) := by decide +kernel
theorem dX0_overDeals_39 : decode cX0_overDeals 39 = .ok (.iconst 1, 1) := by decide +kernel
theorem dX0_overDeals_40 : decode cX0_overDeals 40 = .ok (.goto 4, 3) := by decide +kernel
theorem dX0_overDeals_43 : decode cX0_overDeals 43 = .ok (.iconst 0, 1) := by decide +kernel
theorem dX0_overDeals_44 : decode cX0_overDeals 44 = .ok (.istore 7, 2) := by decide +kernel
theorem dX0_overDeals_46 : decode cX0_overDeals 46 = .ok (.iload 7, 2) := by decide +kernel
theorem dX0_overDeals_48 : decode cX0_overDeals 48 = .ok (.ifCond .eq 33, 3) := by decide +kernel
theorem dX0_overDeals_51 : decode cX0_overDeals 51 = .ok (.iload_n 2, 1) := by decide +kernel
theorem dX0_overDeals_52 : decode cX0_overDeals 52 = .ok (.iconst (-1), 1) := by decide +kernel
theorem dX0_overDeals_53 : decode cX0_overDeals 53 = .ok (.if_icmp .eq 15, 3) := by decide +kernel
theorem dX0_overDeals_56 : decode cX0_overDeals 56 = .ok (.aload 4, 2) := by decide +kernel
theorem dX0_overDeals_58 : decode cX0_overDeals 58 = .ok (.iconst 5, 1) := by decide +kernel
theorem dX0_overDeals_59 : decode cX0_overDeals 59 = .ok (.iload 6, 2) := by decide +kernel
theorem dX0_overDeals_61 : decode cX0_overDeals 61 = .ok (.invokevirtual 70, 3) := by decide +kernel
theorem dX0_overDeals_64 : decode cX0_overDeals 64 = .ok (.iload_n 2, 1) := by decide +kernel
theorem dX0_overDeals_65 : decode cX0_overDeals 65 = .ok (.if_icmp .ne 16, 3) := by decide +kernel
theorem dX0_overDeals_68 : decode cX0_overDeals 68 = .ok (.iload 5, 2) := by decide +kernel
theorem dX0_overDeals_70 : decode cX0_overDeals 70 = .ok (.aload 4, 2) := by decide +kernel
theorem dX0_overDeals_72 : decode cX0_overDeals 72 = .ok (.iload_n 3, 1) := by decide +kernel
theorem dX0_overDeals_73 : decode cX0_overDeals 73 = .ok (.iload 6, 2) := by decide +kernel
theorem dX0_overDeals_75 : decode cX0_overDeals 75 = .ok (.invokevirtual 70, 3) := by decide +kernel
theorem dX0_overDeals_78 : decode cX0_overDeals 78 = .ok (.iadd, 1) := by decide +kernel
theorem dX0_overDeals_79 : decode cX0_overDeals 79 = .ok (.istore 5, 2) := by decide +kernel
theorem dX0_overDeals_81 : decode cX0_overDeals 81 = .ok (.iinc 6 1, 3) := by decide +kernel
theorem dX0_overDeals_84 : decode cX0_overDeals 84 = .ok (.goto (-72), 3) := by decide +kernel
theorem dX0_overDeals_87 : decode cX0_overDeals 87 = .ok (.iload 5, 2) := by decide +kernel
theorem dX0_overDeals_89 : decode cX0_overDeals 89 = .ok (.ireturn, 1) := by decide +kernel
theorem dX0_overMembers_0 : decode cX0_overMembers 0 = .ok (.lconst 0, 1) := by decide +kernel
theorem dX0_overMembers_1 : decode cX0_overMembers 1 = .ok (.lstore_n 3, 1) := by decide +kernel
theorem dX0_overMembers_2 : decode cX0_overMembers 2 = .ok (.iconst 0, 1) := by decide +kernel
theorem dX0_overMembers_3 : decode cX0_overMembers 3 = .ok (.istore 5, 2) := by decide +kernel
theorem dX0_overMembers_5 : decode cX0_overMembers 5 = .ok (.iload 5, 2) := by decide +kernel
theorem dX0_overMembers_7 : decode cX0_overMembers 7 = .ok (.aload_n 0, 1) := by decide +kernel
theorem dX0_overMembers_8 : decode cX0_overMembers 8 = .ok (.invokevirtual 42, 3) := by decide +kernel
theorem dX0_overMembers_11 : decode cX0_overMembers 11 = .ok (.if_icmp .ge 52, 3) := by decide +kernel
theorem dX0_overMembers_14 : decode cX0_overMembers 14 = .ok (.iload_n 2, 1) := by decide +kernel
theorem dX0_overMembers_15 : decode cX0_overMembers 15 = .ok (.iconst 4, 1) := by decide +kernel
theorem dX0_overMembers_16 : decode cX0_overMembers 16 = .ok (.if_icmp .ne 16, 3) := by decide +kernel
theorem dX0_overMembers_19 : decode cX0_overMembers 19 = .ok (.lload_n 3, 1) := by decide +kernel
theorem dX0_overMembers_20 : decode cX0_overMembers 20 = .ok (.aload_n 1, 1) := by decide +kernel
theorem dX0_overMembers_21 : decode cX0_overMembers 21 = .ok (.getfield 46, 3) := by decide +kernel
theorem dX0_overMembers_24 : decode cX0_overMembers 24 = .ok (.iload 5, 2) := by decide +kernel
theorem dX0_overMembers_26 : decode cX0_overMembers 26 = .ok (.laload, 1) := by decide +kernel
theorem dX0_overMembers_27 : decode cX0_overMembers 27 = .ok (.ladd, 1) := by decide +kernel
theorem dX0_overMembers_28 : decode cX0_overMembers 28 = .ok (.lstore_n 3, 1) := by decide +kernel
theorem dX0_overMembers_29 : decode cX0_overMembers 29 = .ok (.goto 28, 3) := by decide +kernel
theorem dX0_overMembers_32 : decode cX0_overMembers 32 = .ok (.lload_n 3, 1) := by decide +kernel
theorem dX0_overMembers_33 : decode cX0_overMembers 33 = .ok (.iload_n 2, 1) := by decide +kernel
theorem dX0_overMembers_34 : decode cX0_overMembers 34 = .ok (.iconst 2, 1) := by decide +kernel
theorem dX0_overMembers_35 : decode cX0_overMembers 35 = .ok (.if_icmp .ne 13, 3) := by decide +kernel
theorem dX0_overMembers_38 : decode cX0_overMembers 38 = .ok (.aload_n 1, 1) := by decide +kernel
theorem dX0_overMembers_39 : decode cX0_overMembers 39 = .ok (.iload 5, 2) := by decide +kernel
theorem dX0_overMembers_41 : decode cX0_overMembers 41 = .ok (.invokevirtual 50, 3) := by decide +kernel
theorem dX0_overMembers_44 : decode cX0_overMembers 44 = .ok (.i2l, 1) := by decide +kernel
theorem dX0_overMembers_45 : decode cX0_overMembers 45 = .ok (.goto 10, 3) := by decide +kernel
theorem dX0_overMembers_48 : decode cX0_overMembers 48 = .ok (.aload_n 1, 1) := by decide +kernel
theorem dX0_overMembers_49 : decode cX0_overMembers 49 = .ok (.iload 5, 2) := by decide +kernel
theorem dX0_overMembers_51 : decode cX0_overMembers 51 = .ok (.invokevirtual 54, 3) := by decide +kernel
theorem dX0_overMembers_54 : decode cX0_overMembers 54 = .ok (.i2l, 1) := by decide +kernel
theorem dX0_overMembers_55 : decode cX0_overMembers 55 = .ok (.ladd, 1) := by decide +kernel
theorem dX0_overMembers_56 : decode cX0_overMembers 56 = .ok (.lstore_n 3, 1) := by decide +kernel
theorem dX0_overMembers_57 : decode cX0_overMembers 57 = .ok (.iinc 5 1, 3) := by decide +kernel
theorem dX0_overMembers_60 : decode cX0_overMembers 60 = .ok (.goto (-55), 3) := by decide +kernel
theorem dX0_overMembers_63 : decode cX0_overMembers 63 = .ok (.lload_n 3, 1) := by decide +kernel
theorem dX0_overMembers_64 : decode cX0_overMembers 64 = .ok (.l2i, 1) := by decide +kernel
theorem dX0_overMembers_65 : decode cX0_overMembers 65 = .ok (.ireturn, 1) := by decide +kernel
theorem dX0_shortSet_0 : decode cX0_shortSet 0 = .ok (.iconst 0, 1) := by decide +kernel
theorem dX0_shortSet_1 : decode cX0_shortSet 1 = .ok (.istore_n 1, 1) := by decide +kernel
theorem dX0_shortSet_2 : decode cX0_shortSet 2 = .ok (.iconst 0, 1) := by decide +kernel
theorem dX0_shortSet_3 : decode cX0_shortSet 3 = .ok (.istore_n 2, 1) := by decide +kernel
theorem dX0_shortSet_4 : decode cX0_shortSet 4 = .ok (.iload_n 2, 1) := by decide +kernel
theorem dX0_shortSet_5 : decode cX0_shortSet 5 = .ok (.bipush 6, 2) := by decide +kernel
theorem dX0_shortSet_7 : decode cX0_shortSet 7 = .ok (.if_icmp .ge 44, 3) := by decide +kernel
theorem dX0_shortSet_10 : decode cX0_shortSet 10 = .ok (.iconst 0, 1) := by decide +kernel
theorem dX0_shortSet_11 : decode cX0_shortSet 11 = .ok (.istore_n 3, 1) := by decide +kernel
theorem dX0_shortSet_12 : decode cX0_shortSet 12 = .ok (.iload_n 3, 1) := by decide +kernel
theorem dX0_shortSet_13 : decode cX0_shortSet 13 = .ok (.aload_n 0, 1) := by decide +kernel
theorem dX0_shortSet_14 : decode cX0_shortSet 14 = .ok (.invokevirtual 42, 3) := by decide +kernel
theorem dX0_shortSet_17 : decode cX0_shortSet 17 = .ok (.if_icmp .ge 28, 3) := by decide +kernel
theorem dX0_shortSet_20 : decode cX0_shortSet 20 = .ok (.aload_n 0, 1) := by decide +kernel
theorem dX0_shortSet_21 : decode cX0_shortSet 21 = .ok (.getfield 9, 3) := by decide +kernel
theorem dX0_shortSet_24 : decode cX0_shortSet 24 = .ok (.iload_n 2, 1) := by decide +kernel
theorem dX0_shortSet_25 : decode cX0_shortSet 25 = .ok (.aaload, 1) := by decide +kernel
theorem dX0_shortSet_26 : decode cX0_shortSet 26 = .ok (.iload_n 3, 1) := by decide +kernel
theorem dX0_shortSet_27 : decode cX0_shortSet 27 = .ok (.invokevirtual 54, 3) := by decide +kernel
theorem dX0_shortSet_30 : decode cX0_shortSet 30 = .ok (.ifCond .le 9, 3) := by decide +kernel
theorem dX0_shortSet_33 : decode cX0_shortSet 33 = .ok (.iload_n 1, 1) := by decide +kernel
theorem dX0_shortSet_34 : decode cX0_shortSet 34 = .ok (.iconst 1, 1) := by decide +kernel
theorem dX0_shortSet_35 : decode cX0_shortSet 35 = .ok (.iload_n 3, 1) := by decide +kernel
theorem dX0_shortSet_36 : decode cX0_shortSet 36 = .ok (.ishl, 1) := by decide +kernel
theorem dX0_shortSet_37 : decode cX0_shortSet 37 = .ok (.ior, 1) := by decide +kernel
theorem dX0_shortSet_38 : decode cX0_shortSet 38 = .ok (.istore_n 1, 1) := by decide +kernel
theorem dX0_shortSet_39 : decode cX0_shortSet 39 = .ok (.iinc 3 1, 3) := by decide +kernel
theorem dX0_shortSet_42 : decode cX0_shortSet 42 = .ok (.goto (-30), 3) := by decide +kernel
theorem dX0_shortSet_45 : decode cX0_shortSet 45 = .ok (.iinc 2 1, 3) := by decide +kernel
theorem dX0_shortSet_48 : decode cX0_shortSet 48 = .ok (.goto (-44), 3) := by decide +kernel
theorem dX0_shortSet_51 : decode cX0_shortSet 51 = .ok (.iload_n 1, 1) := by decide +kernel
theorem dX0_shortSet_52 : decode cX0_shortSet 52 = .ok (.ireturn, 1) := by decide +kernel
theorem dX0_sunk_0 : decode cX0_sunk 0 = .ok (.iconst 0, 1) := by decide +kernel
theorem dX0_sunk_1 : decode cX0_sunk 1 = .ok (.istore_n 2, 1) := by decide +kernel
theorem dX0_sunk_2 : decode cX0_sunk 2 = .ok (.iconst 0, 1) := by decide +kernel
theorem dX0_sunk_3 : decode cX0_sunk 3 = .ok (.istore_n 3, 1) := by decide +kernel
theorem dX0_sunk_4 : decode cX0_sunk 4 = .ok (.iload_n 3, 1) := by decide +kernel
theorem dX0_sunk_5 : decode cX0_sunk 5 = .ok (.aload_n 0, 1) := by decide +kernel
theorem dX0_sunk_6 : decode cX0_sunk 6 = .ok (.invokevirtual 42, 3) := by decide +kernel
theorem dX0_sunk_9 : decode cX0_sunk 9 = .ok (.if_icmp .ge 87, 3) := by decide +kernel
theorem dX0_sunk_12 : decode cX0_sunk 12 = .ok (.aload_n 0, 1) := by decide +kernel
theorem dX0_sunk_13 : decode cX0_sunk 13 = .ok (.getfield 76, 3) := by decide +kernel
theorem dX0_sunk_16 : decode cX0_sunk 16 = .ok (.iload_n 3, 1) := by decide +kernel
theorem dX0_sunk_17 : decode cX0_sunk 17 = .ok (.laload, 1) := by decide +kernel
theorem dX0_sunk_18 : decode cX0_sunk 18 = .ok (.aload_n 0, 1) := by decide +kernel
theorem dX0_sunk_19 : decode cX0_sunk 19 = .ok (.getfield 111, 3) := by decide +kernel
theorem dX0_sunk_22 : decode cX0_sunk 22 = .ok (.iload_n 3, 1) := by decide +kernel
theorem dX0_sunk_23 : decode cX0_sunk 23 = .ok (.iaload, 1) := by decide +kernel
theorem dX0_sunk_24 : decode cX0_sunk 24 = .ok (.i2l, 1) := by decide +kernel
theorem dX0_sunk_25 : decode cX0_sunk 25 = .ok (.ladd, 1) := by decide +kernel
theorem dX0_sunk_26 : decode cX0_sunk 26 = .ok (.lstore 4, 2) := by decide +kernel
theorem dX0_sunk_28 : decode cX0_sunk 28 = .ok (.iconst 0, 1) := by decide +kernel
theorem dX0_sunk_29 : decode cX0_sunk 29 = .ok (.istore 6, 2) := by decide +kernel
theorem dX0_sunk_31 : decode cX0_sunk 31 = .ok (.iload 6, 2) := by decide +kernel
theorem dX0_sunk_33 : decode cX0_sunk 33 = .ok (.bipush 6, 2) := by decide +kernel
theorem dX0_sunk_35 : decode cX0_sunk 35 = .ok (.if_icmp .ge 42, 3) := by decide +kernel
theorem dX0_sunk_38 : decode cX0_sunk 38 = .ok (.aload_n 0, 1) := by decide +kernel
theorem dX0_sunk_39 : decode cX0_sunk 39 = .ok (.getfield 9, 3) := by decide +kernel
theorem dX0_sunk_42 : decode cX0_sunk 42 = .ok (.iload 6, 2) := by decide +kernel
theorem dX0_sunk_44 : decode cX0_sunk 44 = .ok (.aaload, 1) := by decide +kernel
theorem dX0_sunk_45 : decode cX0_sunk 45 = .ok (.astore 7, 2) := by decide +kernel
theorem dX0_sunk_47 : decode cX0_sunk 47 = .ok (.lload 4, 2) := by decide +kernel
theorem dX0_sunk_49 : decode cX0_sunk 49 = .ok (.aload 7, 2) := by decide +kernel
theorem dX0_sunk_51 : decode cX0_sunk 51 = .ok (.aload 7, 2) := by decide +kernel
theorem dX0_sunk_53 : decode cX0_sunk 53 = .ok (.getfield 122, 3) := by decide +kernel
theorem dX0_sunk_56 : decode cX0_sunk 56 = .ok (.iload_n 3, 1) := by decide +kernel
theorem dX0_sunk_57 : decode cX0_sunk 57 = .ok (.iaload, 1) := by decide +kernel
theorem dX0_sunk_58 : decode cX0_sunk 58 = .ok (.invokevirtual 101, 3) := by decide +kernel
theorem dX0_sunk_61 : decode cX0_sunk 61 = .ok (.iload_n 1, 1) := by decide +kernel
theorem dX0_sunk_62 : decode cX0_sunk 62 = .ok (.i2l, 1) := by decide +kernel
theorem dX0_sunk_63 : decode cX0_sunk 63 = .ok (.lmul, 1) := by decide +kernel
theorem dX0_sunk_64 : decode cX0_sunk 64 = .ok (.ldc2_w 105, 3) := by decide +kernel
theorem dX0_sunk_67 : decode cX0_sunk 67 = .ok (.ldiv, 1) := by decide +kernel
theorem dX0_sunk_68 : decode cX0_sunk 68 = .ok (.ladd, 1) := by decide +kernel
theorem dX0_sunk_69 : decode cX0_sunk 69 = .ok (.lstore 4, 2) := by decide +kernel
theorem dX0_sunk_71 : decode cX0_sunk 71 = .ok (.iinc 6 1, 3) := by decide +kernel
theorem dX0_sunk_74 : decode cX0_sunk 74 = .ok (.goto (-43), 3) := by decide +kernel
theorem dX0_sunk_77 : decode cX0_sunk 77 = .ok (.lload 4, 2) := by decide +kernel
theorem dX0_sunk_79 : decode cX0_sunk 79 = .ok (.lconst 0, 1) := by decide +kernel
theorem dX0_sunk_80 : decode cX0_sunk 80 = .ok (.lcmp, 1) := by decide +kernel
theorem dX0_sunk_81 : decode cX0_sunk 81 = .ok (.ifCond .ge 9, 3) := by decide +kernel
theorem dX0_sunk_84 : decode cX0_sunk 84 = .ok (.iload_n 2, 1) := by decide +kernel
theorem dX0_sunk_85 : decode cX0_sunk 85 = .ok (.iconst 1, 1) := by decide +kernel
theorem dX0_sunk_86 : decode cX0_sunk 86 = .ok (.iload_n 3, 1) := by decide +kernel
theorem dX0_sunk_87 : decode cX0_sunk 87 = .ok (.ishl, 1) := by decide +kernel
theorem dX0_sunk_88 : decode cX0_sunk 88 = .ok (.ior, 1) := by decide +kernel
theorem dX0_sunk_89 : decode cX0_sunk 89 = .ok (.istore_n 2, 1) := by decide +kernel
theorem dX0_sunk_90 : decode cX0_sunk 90 = .ok (.iinc 3 1, 3) := by decide +kernel
theorem dX0_sunk_93 : decode cX0_sunk 93 = .ok (.goto (-89), 3) := by decide +kernel
theorem dX0_sunk_96 : decode cX0_sunk 96 = .ok (.iload_n 2, 1) := by decide +kernel
theorem dX0_sunk_97 : decode cX0_sunk 97 = .ok (.ireturn, 1) := by decide +kernel
theorem dX0_suspendedSet_0 : decode cX0_suspendedSet 0 = .ok (.iconst 0, 1) := by decide +kernel
theorem dX0_suspendedSet_1 : decode cX0_suspendedSet 1 = .ok (.istore_n 1, 1) := by decide +kernel
theorem dX0_suspendedSet_2 : decode cX0_suspendedSet 2 = .ok (.iconst 0, 1) := by decide +kernel
theorem dX0_suspendedSet_3 : decode cX0_suspendedSet 3 = .ok (.istore_n 2, 1) := by decide +kernel
theorem dX0_suspendedSet_4 : decode cX0_suspendedSet 4 = .ok (.iload_n 2, 1) := by decide +kernel
theorem dX0_suspendedSet_5 : decode cX0_suspendedSet 5 = .ok (.aload_n 0, 1) := by decide +kernel
theorem dX0_suspendedSet_6 : decode cX0_suspendedSet 6 = .ok (.invokevirtual 42, 3) := by decide +kernel
theorem dX0_suspendedSet_9 : decode cX0_suspendedSet 9 = .ok (.if_icmp .ge 24, 3) := by decide +kernel
theorem dX0_suspendedSet_12 : decode cX0_suspendedSet 12 = .ok (.aload_n 0, 1) := by decide +kernel
theorem dX0_suspendedSet_13 : decode cX0_suspendedSet 13 = .ok (.getfield 79, 3) := by decide +kernel
theorem dX0_suspendedSet_16 : decode cX0_suspendedSet 16 = .ok (.iload_n 2, 1) := by decide +kernel
theorem dX0_suspendedSet_17 : decode cX0_suspendedSet 17 = .ok (.baload, 1) := by decide +kernel
theorem dX0_suspendedSet_18 : decode cX0_suspendedSet 18 = .ok (.ifCond .eq 9, 3) := by decide +kernel
theorem dX0_suspendedSet_21 : decode cX0_suspendedSet 21 = .ok (.iload_n 1, 1) := by decide +kernel
theorem dX0_suspendedSet_22 : decode cX0_suspendedSet 22 = .ok (.iconst 1, 1) := by decide +kernel
theorem dX0_suspendedSet_23 : decode cX0_suspendedSet 23 = .ok (.iload_n 2, 1) := by decide +kernel
theorem dX0_suspendedSet_24 : decode cX0_suspendedSet 24 = .ok (.ishl, 1) := by decide +kernel
theorem dX0_suspendedSet_25 : decode cX0_suspendedSet 25 = .ok (.ior, 1) := by decide +kernel
theorem dX0_suspendedSet_26 : decode cX0_suspendedSet 26 = .ok (.istore_n 1, 1) := by decide +kernel
theorem dX0_suspendedSet_27 : decode cX0_suspendedSet 27 = .ok (.iinc 2 1, 3) := by decide +kernel
theorem dX0_suspendedSet_30 : decode cX0_suspendedSet 30 = .ok (.goto (-26), 3) := by decide +kernel
theorem dX0_suspendedSet_33 : decode cX0_suspendedSet 33 = .ok (.iload_n 1, 1) := by decide +kernel
theorem dX0_suspendedSet_34 : decode cX0_suspendedSet 34 = .ok (.ireturn, 1) := by decide +kernel
theorem dX1_addDeal_0 : decode cX1_addDeal 0 = .ok (.aload_n 0, 1) := by decide +kernel
theorem dX1_addDeal_1 : decode cX1_addDeal 1 = .ok (.iload_n 1, 1) := by decide +kernel
theorem dX1_addDeal_2 : decode cX1_addDeal 2 = .ok (.invokevirtual 122, 3) := by decide +kernel
theorem dX1_addDeal_5 : decode cX1_addDeal 5 = .ok (.ifCond .eq 23, 3) := by decide +kernel
theorem dX1_addDeal_8 : decode cX1_addDeal 8 = .ok (.aload_n 0, 1) := by decide +kernel
theorem dX1_addDeal_9 : decode cX1_addDeal 9 = .ok (.iload_n 2, 1) := by decide +kernel
theorem dX1_addDeal_10 : decode cX1_addDeal 10 = .ok (.invokevirtual 122, 3) := by decide +kernel
theorem dX1_addDeal_13 : decode cX1_addDeal 13 = .ok (.ifCond .eq 15, 3) := by decide +kernel
theorem dX1_addDeal_16 : decode cX1_addDeal 16 = .ok (.iload_n 1, 1) := by decide +kernel
theorem dX1_addDeal_17 : decode cX1_addDeal 17 = .ok (.iload_n 2, 1) := by decide +kernel
theorem dX1_addDeal_18 : decode cX1_addDeal 18 = .ok (.if_icmp .eq 10, 3) := by decide +kernel
theorem dX1_addDeal_21 : decode cX1_addDeal 21 = .ok (.iload_n 3, 1) := by decide +kernel
theorem dX1_addDeal_22 : decode cX1_addDeal 22 = .ok (.invokestatic 134, 3) := by decide +kernel
theorem dX1_addDeal_25 : decode cX1_addDeal 25 = .ok (.ifCond .ne 5, 3) := by decide +kernel
theorem dX1_addDeal_28 : decode cX1_addDeal 28 = .ok (.iconst (-1), 1) := by decide +kernel
theorem dX1_addDeal_29 : decode cX1_addDeal 29 = .ok (.ireturn, 1) := by decide +kernel
theorem dX1_addDeal_30 : decode cX1_addDeal 30 = .ok (.iload 4, 2) := by decide +kernel
theorem dX1_addDeal_32 : decode cX1_addDeal 32 = .ok (.iconst 1, 1) := by decide +kernel
theorem dX1_addDeal_33 : decode cX1_addDeal 33 = .ok (.sipush 9999, 3) := by decide +kernel
theorem dX1_addDeal_36 : decode cX1_addDeal 36 = .ok (.invokestatic 137, 3) := by decide +kernel
theorem dX1_addDeal_39 : decode cX1_addDeal 39 = .ok (.ifCond .eq 15, 3) := by decide +kernel
theorem dX1_addDeal_42 : decode cX1_addDeal 42 = .ok (.iload 5, 2) := by decide +kernel
theorem dX1_addDeal_44 : decode cX1_addDeal 44 = .ok (.iconst 1, 1) := by decide +kernel
theorem dX1_addDeal_45 : decode cX1_addDeal 45 = .ok (.sipush 9999, 3) := by decide +kernel
theorem dX1_addDeal_48 : decode cX1_addDeal 48 = .ok (.invokestatic 137, 3) := by decide +kernel
theorem dX1_addDeal_51 : decode cX1_addDeal 51 = .ok (.ifCond .ne 5, 3) := by decide +kernel
theorem dX1_addDeal_54 : decode cX1_addDeal 54 = .ok (.iconst (-1), 1) := by decide +kernel
theorem dX1_addDeal_55 : decode cX1_addDeal 55 = .ok (.ireturn, 1) := by decide +kernel
theorem dX1_addDeal_56 : decode cX1_addDeal 56 = .ok (.aload_n 0, 1) := by decide +kernel
theorem dX1_addDeal_57 : decode cX1_addDeal 57 = .ok (.getfield 43, 3) := by decide +kernel
theorem dX1_addDeal_60 : decode cX1_addDeal 60 = .ok (.invokevirtual 126, 3) := by decide +kernel
theorem dX1_addDeal_63 : decode cX1_addDeal 63 = .ok (.istore 7, 2) := by decide +kernel
theorem dX1_addDeal_65 : decode cX1_addDeal 65 = .ok (.aload_n 0, 1) := by decide +kernel
theorem dX1_addDeal_66 : decode cX1_addDeal 66 = .ok (.getfield 43, 3) := by decide +kernel
theorem dX1_addDeal_69 : decode cX1_addDeal 69 = .ok (.iconst 0, 1) := by decide +kernel
theorem dX1_addDeal_70 : decode cX1_addDeal 70 = .ok (.iload 7, 2) := by decide +kernel
theorem dX1_addDeal_72 : decode cX1_addDeal 72 = .ok (.iload_n 1, 1) := by decide +kernel
theorem dX1_addDeal_73 : decode cX1_addDeal 73 = .ok (.invokevirtual 130, 3) := by decide +kernel
theorem dX1_addDeal_76 : decode cX1_addDeal 76 = .ok (.aload_n 0, 1) := by decide +kernel
theorem dX1_addDeal_77 : decode cX1_addDeal 77 = .ok (.getfield 43, 3) := by decide +kernel
theorem dX1_addDeal_80 : decode cX1_addDeal 80 = .ok (.iconst 1, 1) := by decide +kernel
theorem dX1_addDeal_81 : decode cX1_addDeal 81 = .ok (.iload 7, 2) := by decide +kernel
theorem dX1_addDeal_83 : decode cX1_addDeal 83 = .ok (.iload_n 2, 1) := by decide +kernel
theorem dX1_addDeal_84 : decode cX1_addDeal 84 = .ok (.invokevirtual 130, 3) := by decide +kernel
theorem dX1_addDeal_87 : decode cX1_addDeal 87 = .ok (.aload_n 0, 1) := by decide +kernel
theorem dX1_addDeal_88 : decode cX1_addDeal 88 = .ok (.getfield 43, 3) := by decide +kernel
theorem dX1_addDeal_91 : decode cX1_addDeal 91 = .ok (.iconst 2, 1) := by decide +kernel
theorem dX1_addDeal_92 : decode cX1_addDeal 92 = .ok (.iload 7, 2) := by decide +kernel
theorem dX1_addDeal_94 : decode cX1_addDeal 94 = .ok (.iload_n 3, 1) := by decide +kernel
theorem dX1_addDeal_95 : decode cX1_addDeal 95 = .ok (.invokevirtual 130, 3) := by decide +kernel
theorem dX1_addDeal_98 : decode cX1_addDeal 98 = .ok (.aload_n 0, 1) := by decide +kernel
theorem dX1_addDeal_99 : decode cX1_addDeal 99 = .ok (.getfield 43, 3) := by decide +kernel
theorem dX1_addDeal_102 : decode cX1_addDeal 102 = .ok (.iconst 3, 1) := by decide +kernel
theorem dX1_addDeal_103 : decode cX1_addDeal 103 = .ok (.iload 7, 2) := by decide +kernel
theorem dX1_addDeal_105 : decode cX1_addDeal 105 = .ok (.iload 4, 2) := by decide +kernel
theorem dX1_addDeal_107 : decode cX1_addDeal 107 = .ok (.invokevirtual 130, 3) := by decide +kernel
theorem dX1_addDeal_110 : decode cX1_addDeal 110 = .ok (.aload_n 0, 1) := by decide +kernel
theorem dX1_addDeal_111 : decode cX1_addDeal 111 = .ok (.getfield 43, 3) := by decide +kernel
theorem dX1_addDeal_114 : decode cX1_addDeal 114 = .ok (.iconst 4, 1) := by decide +kernel
theorem dX1_addDeal_115 : decode cX1_addDeal 115 = .ok (.iload 7, 2) := by decide +kernel
theorem dX1_addDeal_117 : decode cX1_addDeal 117 = .ok (.iload 5, 2) := by decide +kernel
theorem dX1_addDeal_119 : decode cX1_addDeal 119 = .ok (.invokevirtual 130, 3) := by decide +kernel
theorem dX1_addDeal_122 : decode cX1_addDeal 122 = .ok (.aload_n 0, 1) := by decide +kernel
theorem dX1_addDeal_123 : decode cX1_addDeal 123 = .ok (.getfield 43, 3) := by decide +kernel
theorem dX1_addDeal_126 : decode cX1_addDeal 126 = .ok (.iconst 5, 1) := by decide +kernel
theorem dX1_addDeal_127 : decode cX1_addDeal 127 = .ok (.iload 7, 2) := by decide +kernel
theorem dX1_addDeal_129 : decode cX1_addDeal 129 = .ok (.iload 6, 2) := by decide +kernel
theorem dX1_addDeal_131 : decode cX1_addDeal 131 = .ok (.invokevirtual 130, 3) := by decide +kernel
theorem dX1_addDeal_134 : decode cX1_addDeal 134 = .ok (.aload_n 0, 1) := by decide +kernel
theorem dX1_addDeal_135 : decode cX1_addDeal 135 = .ok (.getfield 43, 3) := by decide +kernel
theorem dX1_addDeal_138 : decode cX1_addDeal 138 = .ok (.bipush 6, 2) := by decide +kernel
theorem dX1_addDeal_140 : decode cX1_addDeal 140 = .ok (.iload 7, 2) := by decide +kernel
theorem dX1_addDeal_142 : decode cX1_addDeal 142 = .ok (.aload_n 0, 1) := by decide +kernel
theorem dX1_addDeal_143 : decode cX1_addDeal 143 = .ok (.getfield 60, 3) := by decide +kernel
theorem dX1_addDeal_146 : decode cX1_addDeal 146 = .ok (.aload_n 0, 1) := by decide +kernel
theorem dX1_addDeal_147 : decode cX1_addDeal 147 = .ok (.getfield 13, 3) := by decide +kernel
theorem dX1_addDeal_150 : decode cX1_addDeal 150 = .ok (.iconst 1, 1) := by decide +kernel
theorem dX1_addDeal_151 : decode cX1_addDeal 151 = .ok (.iaload, 1) := by decide +kernel
theorem dX1_addDeal_152 : decode cX1_addDeal 152 = .ok (.iadd, 1) := by decide +kernel
theorem dX1_addDeal_153 : decode cX1_addDeal 153 = .ok (.invokevirtual 130, 3) := by decide +kernel
theorem dX1_addDeal_156 : decode cX1_addDeal 156 = .ok (.aload_n 0, 1) := by decide +kernel
theorem dX1_addDeal_157 : decode cX1_addDeal 157 = .ok (.getfield 43, 3) := by decide +kernel
theorem dX1_addDeal_160 : decode cX1_addDeal 160 = .ok (.bipush 7, 2) := by decide +kernel
theorem dX1_addDeal_162 : decode cX1_addDeal 162 = .ok (.iload 7, 2) := by decide +kernel
theorem dX1_addDeal_164 : decode cX1_addDeal 164 = .ok (.iload 4, 2) := by decide +kernel
theorem dX1_addDeal_166 : decode cX1_addDeal 166 = .ok (.invokevirtual 130, 3) := by decide +kernel
theorem dX1_addDeal_169 : decode cX1_addDeal 169 = .ok (.iload 7, 2) := by decide +kernel
theorem dX1_addDeal_171 : decode cX1_addDeal 171 = .ok (.ireturn, 1) := by decide +kernel
theorem dX1_buyPrice_0 : decode cX1_buyPrice 0 = .ok (.aload_n 0, 1) := by decide +kernel
theorem dX1_buyPrice_1 : decode cX1_buyPrice 1 = .ok (.getfield 34, 3) := by decide +kernel
theorem dX1_buyPrice_4 : decode cX1_buyPrice 4 = .ok (.iload_n 1, 1) := by decide +kernel
theorem dX1_buyPrice_5 : decode cX1_buyPrice 5 = .ok (.aaload, 1) := by decide +kernel
theorem dX1_buyPrice_6 : decode cX1_buyPrice 6 = .ok (.getfield 119, 3) := by decide +kernel
theorem dX1_buyPrice_9 : decode cX1_buyPrice 9 = .ok (.istore_n 2, 1) := by decide +kernel
theorem dX1_buyPrice_10 : decode cX1_buyPrice 10 = .ok (.iload_n 2, 1) := by decide +kernel
theorem dX1_buyPrice_11 : decode cX1_buyPrice 11 = .ok (.iload_n 2, 1) := by decide +kernel
theorem dX1_buyPrice_12 : decode cX1_buyPrice 12 = .ok (.aload_n 0, 1) := by decide +kernel
theorem dX1_buyPrice_13 : decode cX1_buyPrice 13 = .ok (.getfield 13, 3) := by decide +kernel
theorem dX1_buyPrice_16 : decode cX1_buyPrice 16 = .ok (.iconst 5, 1) := by decide +kernel
theorem dX1_buyPrice_17 : decode cX1_buyPrice 17 = .ok (.iaload, 1) := by decide +kernel
theorem dX1_buyPrice_18 : decode cX1_buyPrice 18 = .ok (.imul, 1) := by decide +kernel
theorem dX1_buyPrice_19 : decode cX1_buyPrice 19 = .ok (.bipush 100, 2) := by decide +kernel
theorem dX1_buyPrice_21 : decode cX1_buyPrice 21 = .ok (.idiv, 1) := by decide +kernel
theorem dX1_buyPrice_22 : decode cX1_buyPrice 22 = .ok (.iadd, 1) := by decide +kernel
theorem dX1_buyPrice_23 : decode cX1_buyPrice 23 = .ok (.ireturn, 1) := by decide +kernel
theorem dX1_canLend_0 : decode cX1_canLend 0 = .ok (.aload_n 0, 1) := by decide +kernel
theorem dX1_canLend_1 : decode cX1_canLend 1 = .ok (.getfield 34, 3) := by decide +kernel
theorem dX1_canLend_4 : decode cX1_canLend 4 = .ok (.iload_n 1, 1) := by decide +kernel
theorem dX1_canLend_5 : decode cX1_canLend 5 = .ok (.aaload, 1) := by decide +kernel
theorem dX1_canLend_6 : decode cX1_canLend 6 = .ok (.astore_n 3, 1) := by decide +kernel
theorem dX1_canLend_7 : decode cX1_canLend 7 = .ok (.aload_n 3, 1) := by decide +kernel
theorem dX1_canLend_8 : decode cX1_canLend 8 = .ok (.iload_n 2, 1) := by decide +kernel
theorem dX1_canLend_9 : decode cX1_canLend 9 = .ok (.invokevirtual 102, 3) := by decide +kernel
theorem dX1_canLend_12 : decode cX1_canLend 12 = .ok (.ifCond .le 5, 3) := by decide +kernel
theorem dX1_canLend_15 : decode cX1_canLend 15 = .ok (.iconst 0, 1) := by decide +kernel
theorem dX1_canLend_16 : decode cX1_canLend 16 = .ok (.ireturn, 1) := by decide +kernel
theorem dX1_canLend_17 : decode cX1_canLend 17 = .ok (.aload_n 3, 1) := by decide +kernel
theorem dX1_canLend_18 : decode cX1_canLend 18 = .ok (.getfield 106, 3) := by decide +kernel
theorem dX1_canLend_21 : decode cX1_canLend 21 = .ok (.iload_n 2, 1) := by decide +kernel
theorem dX1_canLend_22 : decode cX1_canLend 22 = .ok (.iaload, 1) := by decide +kernel
theorem dX1_canLend_23 : decode cX1_canLend 23 = .ok (.aload_n 3, 1) := by decide +kernel
theorem dX1_canLend_24 : decode cX1_canLend 24 = .ok (.getfield 109, 3) := by decide +kernel
theorem dX1_canLend_27 : decode cX1_canLend 27 = .ok (.iload_n 2, 1) := by decide +kernel
theorem dX1_canLend_28 : decode cX1_canLend 28 = .ok (.iaload, 1) := by decide +kernel
theorem dX1_canLend_29 : decode cX1_canLend 29 = .ok (.isub, 1) := by decide +kernel
theorem dX1_canLend_30 : decode cX1_canLend 30 = .ok (.i2l, 1) := by decide +kernel
theorem dX1_canLend_31 : decode cX1_canLend 31 = .ok (.lstore 4, 2) := by decide +kernel
theorem dX1_canLend_33 : decode cX1_canLend 33 = .ok (.lconst 0, 1) := by decide +kernel
theorem dX1_canLend_34 : decode cX1_canLend 34 = .ok (.aload_n 0, 1) := by decide +kernel
theorem dX1_canLend_35 : decode cX1_canLend 35 = .ok (.iload_n 1, 1) := by decide +kernel
theorem dX1_canLend_36 : decode cX1_canLend 36 = .ok (.iload_n 2, 1) := by decide +kernel
theorem dX1_canLend_37 : decode cX1_canLend 37 = .ok (.invokevirtual 112, 3) := by decide +kernel
theorem dX1_canLend_40 : decode cX1_canLend 40 = .ok (.lload 4, 2) := by decide +kernel
theorem dX1_canLend_42 : decode cX1_canLend 42 = .ok (.invokestatic 116, 3) := by decide +kernel
theorem dX1_canLend_45 : decode cX1_canLend 45 = .ok (.invokestatic 96, 3) := by decide +kernel
theorem dX1_canLend_48 : decode cX1_canLend 48 = .ok (.l2i, 1) := by decide +kernel
theorem dX1_canLend_49 : decode cX1_canLend 49 = .ok (.ireturn, 1) := by decide +kernel
theorem dX1_copyFrom_0 : decode cX1_copyFrom 0 = .ok (.aload_n 1, 1) := by decide +kernel
theorem dX1_copyFrom_1 : decode cX1_copyFrom 1 = .ok (.getfield 13, 3) := by decide +kernel
theorem dX1_copyFrom_4 : decode cX1_copyFrom 4 = .ok (.iconst 0, 1) := by decide +kernel
theorem dX1_copyFrom_5 : decode cX1_copyFrom 5 = .ok (.aload_n 0, 1) := by decide +kernel
theorem dX1_copyFrom_6 : decode cX1_copyFrom 6 = .ok (.getfield 13, 3) := by decide +kernel
theorem dX1_copyFrom_9 : decode cX1_copyFrom 9 = .ok (.iconst 0, 1) := by decide +kernel
theorem dX1_copyFrom_10 : decode cX1_copyFrom 10 = .ok (.aload_n 0, 1) := by decide +kernel
theorem dX1_copyFrom_11 : decode cX1_copyFrom 11 = .ok (.getfield 13, 3) := by decide +kernel
theorem dX1_copyFrom_14 : decode cX1_copyFrom 14 = .ok (.arraylength, 1) := by decide +kernel
theorem dX1_copyFrom_15 : decode cX1_copyFrom 15 = .ok (.invokestatic 83, 3) := by decide +kernel
theorem dX1_copyFrom_18 : decode cX1_copyFrom 18 = .ok (.iconst 0, 1) := by decide +kernel
theorem dX1_copyFrom_19 : decode cX1_copyFrom 19 = .ok (.istore_n 2, 1) := by decide +kernel
theorem dX1_copyFrom_20 : decode cX1_copyFrom 20 = .ok (.iload_n 2, 1) := by decide +kernel
theorem dX1_copyFrom_21 : decode cX1_copyFrom 21 = .ok (.bipush 12, 2) := by decide +kernel
theorem dX1_copyFrom_23 : decode cX1_copyFrom 23 = .ok (.if_icmp .ge 57, 3) := by decide +kernel
theorem dX1_copyFrom_26 : decode cX1_copyFrom 26 = .ok (.aload_n 0, 1) := by decide +kernel
theorem dX1_copyFrom_27 : decode cX1_copyFrom 27 = .ok (.getfield 18, 3) := by decide +kernel
theorem dX1_copyFrom_30 : decode cX1_copyFrom 30 = .ok (.iload_n 2, 1) := by decide +kernel
theorem dX1_copyFrom_31 : decode cX1_copyFrom 31 = .ok (.aload_n 1, 1) := by decide +kernel
theorem dX1_copyFrom_32 : decode cX1_copyFrom 32 = .ok (.getfield 18, 3) := by decide +kernel
theorem dX1_copyFrom_35 : decode cX1_copyFrom 35 = .ok (.iload_n 2, 1) := by decide +kernel
theorem dX1_copyFrom_36 : decode cX1_copyFrom 36 = .ok (.laload, 1) := by decide +kernel
theorem dX1_copyFrom_37 : decode cX1_copyFrom 37 = .ok (.lastore, 1) := by decide +kernel
theorem dX1_copyFrom_38 : decode cX1_copyFrom 38 = .ok (.aload_n 0, 1) := by decide +kernel
theorem dX1_copyFrom_39 : decode cX1_copyFrom 39 = .ok (.getfield 22, 3) := by decide +kernel
theorem dX1_copyFrom_42 : decode cX1_copyFrom 42 = .ok (.iload_n 2, 1) := by decide +kernel
theorem dX1_copyFrom_43 : decode cX1_copyFrom 43 = .ok (.aload_n 1, 1) := by decide +kernel
theorem dX1_copyFrom_44 : decode cX1_copyFrom 44 = .ok (.getfield 22, 3) := by decide +kernel
theorem dX1_copyFrom_47 : decode cX1_copyFrom 47 = .ok (.iload_n 2, 1) := by decide +kernel
theorem dX1_copyFrom_48 : decode cX1_copyFrom 48 = .ok (.iaload, 1) := by decide +kernel
theorem dX1_copyFrom_49 : decode cX1_copyFrom 49 = .ok (.iastore, 1) := by decide +kernel
theorem dX1_copyFrom_50 : decode cX1_copyFrom 50 = .ok (.aload_n 0, 1) := by decide +kernel
theorem dX1_copyFrom_51 : decode cX1_copyFrom 51 = .ok (.getfield 25, 3) := by decide +kernel
theorem dX1_copyFrom_54 : decode cX1_copyFrom 54 = .ok (.iload_n 2, 1) := by decide +kernel
theorem dX1_copyFrom_55 : decode cX1_copyFrom 55 = .ok (.aload_n 1, 1) := by decide +kernel
theorem dX1_copyFrom_56 : decode cX1_copyFrom 56 = .ok (.getfield 25, 3) := by decide +kernel
theorem dX1_copyFrom_59 : decode cX1_copyFrom 59 = .ok (.iload_n 2, 1) := by decide +kernel
theorem dX1_copyFrom_60 : decode cX1_copyFrom 60 = .ok (.iaload, 1) := by decide +kernel
theorem dX1_copyFrom_61 : decode cX1_copyFrom 61 = .ok (.iastore, 1) := by decide +kernel
theorem dX1_copyFrom_62 : decode cX1_copyFrom 62 = .ok (.aload_n 0, 1) := by decide +kernel
theorem dX1_copyFrom_63 : decode cX1_copyFrom 63 = .ok (.getfield 28, 3) := by decide +kernel
theorem dX1_copyFrom_66 : decode cX1_copyFrom 66 = .ok (.iload_n 2, 1) := by decide +kernel
theorem dX1_copyFrom_67 : decode cX1_copyFrom 67 = .ok (.aload_n 1, 1) := by decide +kernel
theorem dX1_copyFrom_68 : decode cX1_copyFrom 68 = .ok (.getfield 28, 3) := by decide +kernel
theorem dX1_copyFrom_71 : decode cX1_copyFrom 71 = .ok (.iload_n 2, 1) := by decide +kernel
theorem dX1_copyFrom_72 : decode cX1_copyFrom 72 = .ok (.baload, 1) := by decide +kernel
theorem dX1_copyFrom_73 : decode cX1_copyFrom 73 = .ok (.bastore, 1) := by decide +kernel
theorem dX1_copyFrom_74 : decode cX1_copyFrom 74 = .ok (.iinc 2 1, 3) := by decide +kernel
theorem dX1_copyFrom_77 : decode cX1_copyFrom 77 = .ok (.goto (-57), 3) := by decide +kernel
theorem dX1_copyFrom_80 : decode cX1_copyFrom 80 = .ok (.iconst 0, 1) := by decide +kernel
theorem dX1_copyFrom_81 : decode cX1_copyFrom 81 = .ok (.istore_n 2, 1) := by decide +kernel
theorem dX1_copyFrom_82 : decode cX1_copyFrom 82 = .ok (.iload_n 2, 1) := by decide +kernel
theorem dX1_copyFrom_83 : decode cX1_copyFrom 83 = .ok (.bipush 6, 2) := by decide +kernel
theorem dX1_copyFrom_85 : decode cX1_copyFrom 85 = .ok (.if_icmp .ge 24, 3) := by decide +kernel
theorem dX1_copyFrom_88 : decode cX1_copyFrom 88 = .ok (.aload_n 0, 1) := by decide +kernel
theorem dX1_copyFrom_89 : decode cX1_copyFrom 89 = .ok (.getfield 34, 3) := by decide +kernel
theorem dX1_copyFrom_92 : decode cX1_copyFrom 92 = .ok (.iload_n 2, 1) := by decide +kernel
theorem dX1_copyFrom_93 : decode cX1_copyFrom 93 = .ok (.aaload, 1) := by decide +kernel
theorem dX1_copyFrom_94 : decode cX1_copyFrom 94 = .ok (.aload_n 1, 1) := by decide +kernel
theorem dX1_copyFrom_95 : decode cX1_copyFrom 95 = .ok (.getfield 34, 3) := by decide +kernel
theorem dX1_copyFrom_98 : decode cX1_copyFrom 98 = .ok (.iload_n 2, 1) := by decide +kernel
theorem dX1_copyFrom_99 : decode cX1_copyFrom 99 = .ok (.aaload, 1) := by decide +kernel
theorem dX1_copyFrom_100 : decode cX1_copyFrom 100 = .ok (.invokevirtual 165, 3) := by decide +kernel
theorem dX1_copyFrom_103 : decode cX1_copyFrom 103 = .ok (.iinc 2 1, 3) := by decide +kernel
theorem dX1_copyFrom_106 : decode cX1_copyFrom 106 = .ok (.goto (-24), 3) := by decide +kernel
theorem dX1_copyFrom_109 : decode cX1_copyFrom 109 = .ok (.aload_n 0, 1) := by decide +kernel
theorem dX1_copyFrom_110 : decode cX1_copyFrom 110 = .ok (.getfield 43, 3) := by decide +kernel
theorem dX1_copyFrom_113 : decode cX1_copyFrom 113 = .ok (.aload_n 1, 1) := by decide +kernel
theorem dX1_copyFrom_114 : decode cX1_copyFrom 114 = .ok (.getfield 43, 3) := by decide +kernel
theorem dX1_copyFrom_117 : decode cX1_copyFrom 117 = .ok (.invokevirtual 169, 3) := by decide +kernel
theorem dX1_copyFrom_120 : decode cX1_copyFrom 120 = .ok (.aload_n 0, 1) := by decide +kernel
theorem dX1_copyFrom_121 : decode cX1_copyFrom 121 = .ok (.getfield 47, 3) := by decide +kernel
theorem dX1_copyFrom_124 : decode cX1_copyFrom 124 = .ok (.aload_n 1, 1) := by decide +kernel
theorem dX1_copyFrom_125 : decode cX1_copyFrom 125 = .ok (.getfield 47, 3) := by decide +kernel
theorem dX1_copyFrom_128 : decode cX1_copyFrom 128 = .ok (.invokevirtual 169, 3) := by decide +kernel
theorem dX1_copyFrom_131 : decode cX1_copyFrom 131 = .ok (.aload_n 0, 1) := by decide +kernel
theorem dX1_copyFrom_132 : decode cX1_copyFrom 132 = .ok (.getfield 50, 3) := by decide +kernel
theorem dX1_copyFrom_135 : decode cX1_copyFrom 135 = .ok (.aload_n 1, 1) := by decide +kernel
theorem dX1_copyFrom_136 : decode cX1_copyFrom 136 = .ok (.getfield 50, 3) := by decide +kernel
theorem dX1_copyFrom_139 : decode cX1_copyFrom 139 = .ok (.invokevirtual 169, 3) := by decide +kernel
theorem dX1_copyFrom_142 : decode cX1_copyFrom 142 = .ok (.aload_n 0, 1) := by decide +kernel
theorem dX1_copyFrom_143 : decode cX1_copyFrom 143 = .ok (.getfield 53, 3) := by decide +kernel
theorem dX1_copyFrom_146 : decode cX1_copyFrom 146 = .ok (.aload_n 1, 1) := by decide +kernel
theorem dX1_copyFrom_147 : decode cX1_copyFrom 147 = .ok (.getfield 53, 3) := by decide +kernel
theorem dX1_copyFrom_150 : decode cX1_copyFrom 150 = .ok (.invokevirtual 169, 3) := by decide +kernel
theorem dX1_copyFrom_153 : decode cX1_copyFrom 153 = .ok (.aload_n 0, 1) := by decide +kernel
theorem dX1_copyFrom_154 : decode cX1_copyFrom 154 = .ok (.aload_n 1, 1) := by decide +kernel
theorem dX1_copyFrom_155 : decode cX1_copyFrom 155 = .ok (.getfield 56, 3) := by decide +kernel
theorem dX1_copyFrom_158 : decode cX1_copyFrom 158 = .ok (.putfield 56, 3) := by decide +kernel
theorem dX1_copyFrom_161 : decode cX1_copyFrom 161 = .ok (.aload_n 0, 1) := by decide +kernel
theorem dX1_copyFrom_162 : decode cX1_copyFrom 162 = .ok (.aload_n 1, 1) := by decide +kernel
theorem dX1_copyFrom_163 : decode cX1_copyFrom 163 = .ok (.getfield 60, 3) := by decide +kernel
theorem dX1_copyFrom_166 : decode cX1_copyFrom 166 = .ok (.putfield 60, 3) := by decide +kernel
theorem dX1_copyFrom_169 : decode cX1_copyFrom 169 = .ok (.aload_n 0, 1) := by decide +kernel
theorem dX1_copyFrom_170 : decode cX1_copyFrom 170 = .ok (.aload_n 1, 1) := by decide +kernel
theorem dX1_copyFrom_171 : decode cX1_copyFrom 171 = .ok (.getfield 63, 3) := by decide +kernel
theorem dX1_copyFrom_174 : decode cX1_copyFrom 174 = .ok (.putfield 63, 3) := by decide +kernel
theorem dX1_copyFrom_177 : decode cX1_copyFrom 177 = .ok (.return_, 1) := by decide +kernel
theorem dX1_freeOf_0 : decode cX1_freeOf 0 = .ok (.aload_n 0, 1) := by decide +kernel
theorem dX1_freeOf_1 : decode cX1_freeOf 1 = .ok (.getfield 34, 3) := by decide +kernel
theorem dX1_freeOf_4 : decode cX1_freeOf 4 = .ok (.iload_n 1, 1) := by decide +kernel
theorem dX1_freeOf_5 : decode cX1_freeOf 5 = .ok (.aaload, 1) := by decide +kernel
theorem dX1_freeOf_6 : decode cX1_freeOf 6 = .ok (.astore_n 3, 1) := by decide +kernel
theorem dX1_freeOf_7 : decode cX1_freeOf 7 = .ok (.aload_n 0, 1) := by decide +kernel
theorem dX1_freeOf_8 : decode cX1_freeOf 8 = .ok (.getfield 28, 3) := by decide +kernel
theorem dX1_freeOf_11 : decode cX1_freeOf 11 = .ok (.iload_n 2, 1) := by decide +kernel
theorem dX1_freeOf_12 : decode cX1_freeOf 12 = .ok (.baload, 1) := by decide +kernel
theorem dX1_freeOf_13 : decode cX1_freeOf 13 = .ok (.ifCond .eq 7, 3) := by decide +kernel
theorem dX1_freeOf_16 : decode cX1_freeOf 16 = .ok (.lconst 0, 1) := by decide +kernel
theorem dX1_freeOf_17 : decode cX1_freeOf 17 = .ok (.goto 21, 3) := by decide +kernel
theorem dX1_freeOf_20 : decode cX1_freeOf 20 = .ok (.lconst 0, 1) := by decide +kernel
theorem dX1_freeOf_21 : decode cX1_freeOf 21 = .ok (.aload_n 3, 1) := by decide +kernel
theorem dX1_freeOf_22 : decode cX1_freeOf 22 = .ok (.getfield 90, 3) := by decide +kernel
theorem dX1_freeOf_25 : decode cX1_freeOf 25 = .ok (.iload_n 2, 1) := by decide +kernel
theorem dX1_freeOf_26 : decode cX1_freeOf 26 = .ok (.laload, 1) := by decide +kernel
theorem dX1_freeOf_27 : decode cX1_freeOf 27 = .ok (.aload_n 3, 1) := by decide +kernel
theorem dX1_freeOf_28 : decode cX1_freeOf 28 = .ok (.getfield 93, 3) := by decide +kernel
theorem dX1_freeOf_31 : decode cX1_freeOf 31 = .ok (.iload_n 2, 1) := by decide +kernel
theorem dX1_freeOf_32 : decode cX1_freeOf 32 = .ok (.iaload, 1) := by decide +kernel
theorem dX1_freeOf_33 : decode cX1_freeOf 33 = .ok (.i2l, 1) := by decide +kernel
theorem dX1_freeOf_34 : decode cX1_freeOf 34 = .ok (.lsub, 1) := by decide +kernel
theorem dX1_freeOf_35 : decode cX1_freeOf 35 = .ok (.invokestatic 96, 3) := by decide +kernel
theorem dX1_freeOf_38 : decode cX1_freeOf 38 = .ok (.lreturn, 1) := by decide +kernel
theorem dX1_hasMember_0 : decode cX1_hasMember 0 = .ok (.iload_n 1, 1) := by decide +kernel
theorem dX1_hasMember_1 : decode cX1_hasMember 1 = .ok (.ifCond .lt 17, 3) := by decide +kernel
theorem dX1_hasMember_4 : decode cX1_hasMember 4 = .ok (.iload_n 1, 1) := by decide +kernel
theorem dX1_hasMember_5 : decode cX1_hasMember 5 = .ok (.aload_n 0, 1) := by decide +kernel
theorem dX1_hasMember_6 : decode cX1_hasMember 6 = .ok (.getfield 13, 3) := by decide +kernel
theorem dX1_hasMember_9 : decode cX1_hasMember 9 = .ok (.iconst 0, 1) := by decide +kernel
theorem dX1_hasMember_10 : decode cX1_hasMember 10 = .ok (.iaload, 1) := by decide +kernel
theorem dX1_hasMember_11 : decode cX1_hasMember 11 = .ok (.if_icmp .ge 7, 3) := by decide +kernel
theorem dX1_hasMember_14 : decode cX1_hasMember 14 = .ok (.iconst 1, 1) := by decide +kernel
theorem dX1_hasMember_15 : decode cX1_hasMember 15 = .ok (.goto 4, 3) := by decide +kernel
theorem dX1_hasMember_18 : decode cX1_hasMember 18 = .ok (.iconst 0, 1) := by decide +kernel
theorem dX1_hasMember_19 : decode cX1_hasMember 19 = .ok (.ireturn, 1) := by decide +kernel
theorem dX1_hasOpen_0 : decode cX1_hasOpen 0 = .ok (.iconst 0, 1) := by decide +kernel
theorem dX1_hasOpen_1 : decode cX1_hasOpen 1 = .ok (.istore_n 2, 1) := by decide +kernel
theorem dX1_hasOpen_2 : decode cX1_hasOpen 2 = .ok (.iload_n 2, 1) := by decide +kernel
theorem dX1_hasOpen_3 : decode cX1_hasOpen 3 = .ok (.aload_n 0, 1) := by decide +kernel
theorem dX1_hasOpen_4 : decode cX1_hasOpen 4 = .ok (.getfield 43, 3) := by decide +kernel
theorem dX1_hasOpen_7 : decode cX1_hasOpen 7 = .ok (.invokevirtual 145, 3) := by decide +kernel
theorem dX1_hasOpen_10 : decode cX1_hasOpen 10 = .ok (.if_icmp .ge 37, 3) := by decide +kernel
theorem dX1_hasOpen_13 : decode cX1_hasOpen 13 = .ok (.aload_n 0, 1) := by decide +kernel
theorem dX1_hasOpen_14 : decode cX1_hasOpen 14 = .ok (.getfield 43, 3) := by decide +kernel
theorem dX1_hasOpen_17 : decode cX1_hasOpen 17 = .ok (.iconst 2, 1) := by decide +kernel
theorem dX1_hasOpen_18 : decode cX1_hasOpen 18 = .ok (.iload_n 2, 1) := by decide +kernel
theorem dX1_hasOpen_19 : decode cX1_hasOpen 19 = .ok (.invokevirtual 141, 3) := by decide +kernel
theorem dX1_hasOpen_22 : decode cX1_hasOpen 22 = .ok (.iload_n 1, 1) := by decide +kernel
theorem dX1_hasOpen_23 : decode cX1_hasOpen 23 = .ok (.if_icmp .ne 18, 3) := by decide +kernel
theorem dX1_hasOpen_26 : decode cX1_hasOpen 26 = .ok (.aload_n 0, 1) := by decide +kernel
theorem dX1_hasOpen_27 : decode cX1_hasOpen 27 = .ok (.getfield 43, 3) := by decide +kernel
theorem dX1_hasOpen_30 : decode cX1_hasOpen 30 = .ok (.bipush 7, 2) := by decide +kernel
theorem dX1_hasOpen_32 : decode cX1_hasOpen 32 = .ok (.iload_n 2, 1) := by decide +kernel
theorem dX1_hasOpen_33 : decode cX1_hasOpen 33 = .ok (.invokevirtual 141, 3) := by decide +kernel
theorem dX1_hasOpen_36 : decode cX1_hasOpen 36 = .ok (.ifCond .le 5, 3) := by decide +kernel
theorem dX1_hasOpen_39 : decode cX1_hasOpen 39 = .ok (.iconst 1, 1) := by decide +kernel
theorem dX1_hasOpen_40 : decode cX1_hasOpen 40 = .ok (.ireturn, 1) := by decide +kernel
theorem dX1_hasOpen_41 : decode cX1_hasOpen 41 = .ok (.iinc 2 1, 3) := by decide +kernel
theorem dX1_hasOpen_44 : decode cX1_hasOpen 44 = .ok (.goto (-42), 3) := by decide +kernel
theorem dX1_hasOpen_47 : decode cX1_hasOpen 47 = .ok (.iconst 0, 1) := by decide +kernel
theorem dX1_hasOpen_48 : decode cX1_hasOpen 48 = .ok (.istore_n 2, 1) := by decide +kernel
theorem dX1_hasOpen_49 : decode cX1_hasOpen 49 = .ok (.iload_n 2, 1) := by decide +kernel
theorem dX1_hasOpen_50 : decode cX1_hasOpen 50 = .ok (.aload_n 0, 1) := by decide +kernel
theorem dX1_hasOpen_51 : decode cX1_hasOpen 51 = .ok (.getfield 47, 3) := by decide +kernel
theorem dX1_hasOpen_54 : decode cX1_hasOpen 54 = .ok (.invokevirtual 145, 3) := by decide +kernel
theorem dX1_hasOpen_57 : decode cX1_hasOpen 57 = .ok (.if_icmp .ge 20, 3) := by decide +kernel
theorem dX1_hasOpen_60 : decode cX1_hasOpen 60 = .ok (.aload_n 0, 1) := by decide +kernel
theorem dX1_hasOpen_61 : decode cX1_hasOpen 61 = .ok (.iload_n 2, 1) := by decide +kernel
theorem dX1_hasOpen_62 : decode cX1_hasOpen 62 = .ok (.iload_n 1, 1) := by decide +kernel
theorem dX1_hasOpen_63 : decode cX1_hasOpen 63 = .ok (.invokevirtual 148, 3) := by decide +kernel
theorem dX1_hasOpen_66 : decode cX1_hasOpen 66 = .ok (.ifCond .eq 5, 3) := by decide +kernel
theorem dX1_hasOpen_69 : decode cX1_hasOpen 69 = .ok (.iconst 1, 1) := by decide +kernel
theorem dX1_hasOpen_70 : decode cX1_hasOpen 70 = .ok (.ireturn, 1) := by decide +kernel
theorem dX1_hasOpen_71 : decode cX1_hasOpen 71 = .ok (.iinc 2 1, 3) := by decide +kernel
theorem dX1_hasOpen_74 : decode cX1_hasOpen 74 = .ok (.goto (-25), 3) := by decide +kernel
theorem dX1_hasOpen_77 : decode cX1_hasOpen 77 = .ok (.iconst 0, 1) := by decide +kernel
theorem dX1_hasOpen_78 : decode cX1_hasOpen 78 = .ok (.ireturn, 1) := by decide +kernel
theorem dX1_holding_0 : decode cX1_holding 0 = .ok (.aload_n 0, 1) := by decide +kernel
theorem dX1_holding_1 : decode cX1_holding 1 = .ok (.getfield 34, 3) := by decide +kernel
theorem dX1_holding_4 : decode cX1_holding 4 = .ok (.iload_n 2, 1) := by decide +kernel
theorem dX1_holding_5 : decode cX1_holding 5 = .ok (.aaload, 1) := by decide +kernel
theorem dX1_holding_6 : decode cX1_holding 6 = .ok (.astore 4, 2) := by decide +kernel
theorem dX1_holding_8 : decode cX1_holding 8 = .ok (.iload_n 3, 1) := by decide +kernel
theorem dX1_holding_9 : decode cX1_holding 9 = .ok (.tableswitch 122 0 8 #[51, 59, 68, 76, 84, 92, 100, 107, 115], 51) := by decide +kernel
theorem dX1_holding_60 : decode cX1_holding 60 = .ok (.aload 4, 2) := by decide +kernel
theorem dX1_holding_62 : decode cX1_holding 62 = .ok (.getfield 152, 3) := by decide +kernel
theorem dX1_holding_65 : decode cX1_holding 65 = .ok (.iload_n 1, 1) := by decide +kernel
theorem dX1_holding_66 : decode cX1_holding 66 = .ok (.iaload, 1) := by decide +kernel
theorem dX1_holding_67 : decode cX1_holding 67 = .ok (.ireturn, 1) := by decide +kernel
theorem dX1_holding_68 : decode cX1_holding 68 = .ok (.aload 4, 2) := by decide +kernel
theorem dX1_holding_70 : decode cX1_holding 70 = .ok (.getfield 90, 3) := by decide +kernel
theorem dX1_holding_73 : decode cX1_holding 73 = .ok (.iload_n 1, 1) := by decide +kernel
theorem dX1_holding_74 : decode cX1_holding 74 = .ok (.laload, 1) := by decide +kernel
theorem dX1_holding_75 : decode cX1_holding 75 = .ok (.l2i, 1) := by decide +kernel
theorem dX1_holding_76 : decode cX1_holding 76 = .ok (.ireturn, 1) := by decide +kernel
theorem dX1_holding_77 : decode cX1_holding 77 = .ok (.aload_n 0, 1) := by decide +kernel
theorem dX1_holding_78 : decode cX1_holding 78 = .ok (.iload_n 2, 1) := by decide +kernel
theorem dX1_holding_79 : decode cX1_holding 79 = .ok (.iload_n 1, 1) := by decide +kernel
theorem dX1_holding_80 : decode cX1_holding 80 = .ok (.invokevirtual 112, 3) := by decide +kernel
theorem dX1_holding_83 : decode cX1_holding 83 = .ok (.l2i, 1) := by decide +kernel
theorem dX1_holding_84 : decode cX1_holding 84 = .ok (.ireturn, 1) := by decide +kernel
theorem dX1_holding_85 : decode cX1_holding 85 = .ok (.aload 4, 2) := by decide +kernel
theorem dX1_holding_87 : decode cX1_holding 87 = .ok (.getfield 93, 3) := by decide +kernel
theorem dX1_holding_90 : decode cX1_holding 90 = .ok (.iload_n 1, 1) := by decide +kernel
theorem dX1_holding_91 : decode cX1_holding 91 = .ok (.iaload, 1) := by decide +kernel
theorem dX1_holding_92 : decode cX1_holding 92 = .ok (.ireturn, 1) := by decide +kernel
theorem dX1_holding_93 : decode cX1_holding 93 = .ok (.aload 4, 2) := by decide +kernel
theorem dX1_holding_95 : decode cX1_holding 95 = .ok (.getfield 106, 3) := by decide +kernel
theorem dX1_holding_98 : decode cX1_holding 98 = .ok (.iload_n 1, 1) := by decide +kernel
theorem dX1_holding_99 : decode cX1_holding 99 = .ok (.iaload, 1) := by decide +kernel
theorem dX1_holding_100 : decode cX1_holding 100 = .ok (.ireturn, 1) := by decide +kernel
theorem dX1_holding_101 : decode cX1_holding 101 = .ok (.aload 4, 2) := by decide +kernel
theorem dX1_holding_103 : decode cX1_holding 103 = .ok (.getfield 109, 3) := by decide +kernel
theorem dX1_holding_106 : decode cX1_holding 106 = .ok (.iload_n 1, 1) := by decide +kernel
theorem dX1_holding_107 : decode cX1_holding 107 = .ok (.iaload, 1) := by decide +kernel
theorem dX1_holding_108 : decode cX1_holding 108 = .ok (.ireturn, 1) := by decide +kernel
theorem dX1_holding_109 : decode cX1_holding 109 = .ok (.aload 4, 2) := by decide +kernel
theorem dX1_holding_111 : decode cX1_holding 111 = .ok (.iload_n 1, 1) := by decide +kernel
theorem dX1_holding_112 : decode cX1_holding 112 = .ok (.invokevirtual 155, 3) := by decide +kernel
theorem dX1_holding_115 : decode cX1_holding 115 = .ok (.ireturn, 1) := by decide +kernel
theorem dX1_holding_116 : decode cX1_holding 116 = .ok (.aload 4, 2) := by decide +kernel
theorem dX1_holding_118 : decode cX1_holding 118 = .ok (.iload_n 1, 1) := by decide +kernel
theorem dX1_holding_119 : decode cX1_holding 119 = .ok (.iconst 0, 1) := by decide +kernel
theorem dX1_holding_120 : decode cX1_holding 120 = .ok (.invokevirtual 158, 3) := by decide +kernel
theorem dX1_holding_123 : decode cX1_holding 123 = .ok (.ireturn, 1) := by decide +kernel
theorem dX1_holding_124 : decode cX1_holding 124 = .ok (.aload_n 0, 1) := by decide +kernel
theorem dX1_holding_125 : decode cX1_holding 125 = .ok (.iload_n 2, 1) := by decide +kernel
theorem dX1_holding_126 : decode cX1_holding 126 = .ok (.iload_n 1, 1) := by decide +kernel
theorem dX1_holding_127 : decode cX1_holding 127 = .ok (.invokevirtual 161, 3) := by decide +kernel
theorem dX1_holding_130 : decode cX1_holding 130 = .ok (.ireturn, 1) := by decide +kernel
theorem dX1_holding_131 : decode cX1_holding 131 = .ok (.ldc 164, 2) := by decide +kernel
theorem dX1_holding_133 : decode cX1_holding 133 = .ok (.ireturn, 1) := by decide +kernel
theorem dX1_init_0 : decode cX1_init 0 = .ok (.aload_n 0, 1) := by decide +kernel
theorem dX1_init_1 : decode cX1_init 1 = .ok (.invokespecial 3, 3) := by decide +kernel
theorem dX1_init_4 : decode cX1_init 4 = .ok (.aload_n 0, 1) := by decide +kernel
theorem dX1_init_5 : decode cX1_init 5 = .ok (.getstatic 9, 3) := by decide +kernel
theorem dX1_init_8 : decode cX1_init 8 = .ok (.arraylength, 1) := by decide +kernel
theorem dX1_init_9 : decode cX1_init 9 = .ok (.newarray .int, 2) := by decide +kernel
theorem dX1_init_11 : decode cX1_init 11 = .ok (.putfield 13, 3) := by decide +kernel
theorem dX1_init_14 : decode cX1_init 14 = .ok (.aload_n 0, 1) := by decide +kernel
theorem dX1_init_15 : decode cX1_init 15 = .ok (.bipush 12, 2) := by decide +kernel
theorem dX1_init_17 : decode cX1_init 17 = .ok (.newarray .long, 2) := by decide +kernel
theorem dX1_init_19 : decode cX1_init 19 = .ok (.putfield 18, 3) := by decide +kernel
theorem dX1_init_22 : decode cX1_init 22 = .ok (.aload_n 0, 1) := by decide +kernel
theorem dX1_init_23 : decode cX1_init 23 = .ok (.bipush 12, 2) := by decide +kernel
theorem dX1_init_25 : decode cX1_init 25 = .ok (.newarray .int, 2) := by decide +kernel
theorem dX1_init_27 : decode cX1_init 27 = .ok (.putfield 22, 3) := by decide +kernel
theorem dX1_init_30 : decode cX1_init 30 = .ok (.aload_n 0, 1) := by decide +kernel
theorem dX1_init_31 : decode cX1_init 31 = .ok (.bipush 12, 2) := by decide +kernel
theorem dX1_init_33 : decode cX1_init 33 = .ok (.newarray .int, 2) := by decide +kernel
theorem dX1_init_35 : decode cX1_init 35 = .ok (.putfield 25, 3) := by decide +kernel
theorem dX1_init_38 : decode cX1_init 38 = .ok (.aload_n 0, 1) := by decide +kernel
theorem dX1_init_39 : decode cX1_init 39 = .ok (.bipush 12, 2) := by decide +kernel
theorem dX1_init_41 : decode cX1_init 41 = .ok (.newarray .boolean, 2) := by decide +kernel
theorem dX1_init_43 : decode cX1_init 43 = .ok (.putfield 28, 3) := by decide +kernel
theorem dX1_init_46 : decode cX1_init 46 = .ok (.aload_n 0, 1) := by decide +kernel
theorem dX1_init_47 : decode cX1_init 47 = .ok (.bipush 6, 2) := by decide +kernel
theorem dX1_init_49 : decode cX1_init 49 = .ok (.anewarray 32, 3) := by decide +kernel
theorem dX1_init_52 : decode cX1_init 52 = .ok (.putfield 34, 3) := by decide +kernel
theorem dX1_init_55 : decode cX1_init 55 = .ok (.aload_n 0, 1) := by decide +kernel
theorem dX1_init_56 : decode cX1_init 56 = .ok (.new 38, 3) := by decide +kernel
theorem dX1_init_59 : decode cX1_init 59 = .ok (.dup, 1) := by decide +kernel
theorem dX1_init_60 : decode cX1_init 60 = .ok (.bipush 8, 2) := by decide +kernel
theorem dX1_init_62 : decode cX1_init 62 = .ok (.sipush 200, 3) := by decide +kernel
theorem dX1_init_65 : decode cX1_init 65 = .ok (.invokespecial 40, 3) := by decide +kernel
theorem dX1_init_68 : decode cX1_init 68 = .ok (.putfield 43, 3) := by decide +kernel
theorem dX1_init_71 : decode cX1_init 71 = .ok (.aload_n 0, 1) := by decide +kernel
theorem dX1_init_72 : decode cX1_init 72 = .ok (.new 38, 3) := by decide +kernel
theorem dX1_init_75 : decode cX1_init 75 = .ok (.dup, 1) := by decide +kernel
theorem dX1_init_76 : decode cX1_init 76 = .ok (.bipush 19, 2) := by decide +kernel
theorem dX1_init_78 : decode cX1_init 78 = .ok (.bipush 60, 2) := by decide +kernel
theorem dX1_init_80 : decode cX1_init 80 = .ok (.invokespecial 40, 3) := by decide +kernel
theorem dX1_init_83 : decode cX1_init 83 = .ok (.putfield 47, 3) := by decide +kernel
theorem dX1_init_86 : decode cX1_init 86 = .ok (.aload_n 0, 1) := by decide +kernel
theorem dX1_init_87 : decode cX1_init 87 = .ok (.new 38, 3) := by decide +kernel
theorem dX1_init_90 : decode cX1_init 90 = .ok (.dup, 1) := by decide +kernel
theorem dX1_init_91 : decode cX1_init 91 = .ok (.bipush 6, 2) := by decide +kernel
theorem dX1_init_93 : decode cX1_init 93 = .ok (.sipush 300, 3) := by decide +kernel
theorem dX1_init_96 : decode cX1_init 96 = .ok (.invokespecial 40, 3) := by decide +kernel
theorem dX1_init_99 : decode cX1_init 99 = .ok (.putfield 50, 3) := by decide +kernel
theorem dX1_init_102 : decode cX1_init 102 = .ok (.aload_n 0, 1) := by decide +kernel
theorem dX1_init_103 : decode cX1_init 103 = .ok (.new 38, 3) := by decide +kernel
theorem dX1_init_106 : decode cX1_init 106 = .ok (.dup, 1) := by decide +kernel
theorem dX1_init_107 : decode cX1_init 107 = .ok (.bipush 6, 2) := by decide +kernel
theorem dX1_init_109 : decode cX1_init 109 = .ok (.bipush 24, 2) := by decide +kernel
theorem dX1_init_111 : decode cX1_init 111 = .ok (.invokespecial 40, 3) := by decide +kernel
theorem dX1_init_114 : decode cX1_init 114 = .ok (.putfield 53, 3) := by decide +kernel
theorem dX1_init_117 : decode cX1_init 117 = .ok (.aload_n 0, 1) := by decide +kernel
theorem dX1_init_118 : decode cX1_init 118 = .ok (.iconst 0, 1) := by decide +kernel
theorem dX1_init_119 : decode cX1_init 119 = .ok (.putfield 56, 3) := by decide +kernel
theorem dX1_init_122 : decode cX1_init 122 = .ok (.aload_n 0, 1) := by decide +kernel
theorem dX1_init_123 : decode cX1_init 123 = .ok (.iconst 0, 1) := by decide +kernel
theorem dX1_init_124 : decode cX1_init 124 = .ok (.putfield 60, 3) := by decide +kernel
theorem dX1_init_127 : decode cX1_init 127 = .ok (.aload_n 0, 1) := by decide +kernel
theorem dX1_init_128 : decode cX1_init 128 = .ok (.lconst 0, 1) := by decide +kernel
theorem dX1_init_129 : decode cX1_init 129 = .ok (.putfield 63, 3) := by decide +kernel
theorem dX1_init_132 : decode cX1_init 132 = .ok (.aload_n 0, 1) := by decide +kernel
theorem dX1_init_133 : decode cX1_init 133 = .ok (.new 67, 3) := by decide +kernel
theorem dX1_init_136 : decode cX1_init 136 = .ok (.dup, 1) := by decide +kernel
theorem dX1_init_137 : decode cX1_init 137 = .ok (.invokespecial 69, 3) := by decide +kernel
theorem dX1_init_140 : decode cX1_init 140 = .ok (.putfield 70, 3) := by decide +kernel
theorem dX1_init_143 : decode cX1_init 143 = .ok (.aload_n 0, 1) := by decide +kernel
theorem dX1_init_144 : decode cX1_init 144 = .ok (.bipush 12, 2) := by decide +kernel
theorem dX1_init_146 : decode cX1_init 146 = .ok (.newarray .int, 2) := by decide +kernel
theorem dX1_init_148 : decode cX1_init 148 = .ok (.putfield 74, 3) := by decide +kernel
theorem dX1_init_151 : decode cX1_init 151 = .ok (.aload_n 0, 1) := by decide +kernel
theorem dX1_init_152 : decode cX1_init 152 = .ok (.iconst 0, 1) := by decide +kernel
theorem dX1_init_153 : decode cX1_init 153 = .ok (.putfield 77, 3) := by decide +kernel
theorem dX1_init_156 : decode cX1_init 156 = .ok (.aload_n 0, 1) := by decide +kernel
theorem dX1_init_157 : decode cX1_init 157 = .ok (.bipush 12, 2) := by decide +kernel
theorem dX1_init_159 : decode cX1_init 159 = .ok (.newarray .int, 2) := by decide +kernel
theorem dX1_init_161 : decode cX1_init 161 = .ok (.putfield 80, 3) := by decide +kernel
theorem dX1_init_164 : decode cX1_init 164 = .ok (.getstatic 9, 3) := by decide +kernel
theorem dX1_init_167 : decode cX1_init 167 = .ok (.iconst 0, 1) := by decide +kernel
theorem dX1_init_168 : decode cX1_init 168 = .ok (.aload_n 0, 1) := by decide +kernel
theorem dX1_init_169 : decode cX1_init 169 = .ok (.getfield 13, 3) := by decide +kernel
theorem dX1_init_172 : decode cX1_init 172 = .ok (.iconst 0, 1) := by decide +kernel
theorem dX1_init_173 : decode cX1_init 173 = .ok (.aload_n 0, 1) := by decide +kernel
theorem dX1_init_174 : decode cX1_init 174 = .ok (.getfield 13, 3) := by decide +kernel
theorem dX1_init_177 : decode cX1_init 177 = .ok (.arraylength, 1) := by decide +kernel
theorem dX1_init_178 : decode cX1_init 178 = .ok (.invokestatic 83, 3) := by decide +kernel
theorem dX1_init_181 : decode cX1_init 181 = .ok (.iconst 0, 1) := by decide +kernel
theorem dX1_init_182 : decode cX1_init 182 = .ok (.istore_n 1, 1) := by decide +kernel
theorem dX1_init_183 : decode cX1_init 183 = .ok (.iload_n 1, 1) := by decide +kernel
theorem dX1_init_184 : decode cX1_init 184 = .ok (.bipush 6, 2) := by decide +kernel
theorem dX1_init_186 : decode cX1_init 186 = .ok (.if_icmp .ge 22, 3) := by decide +kernel
theorem dX1_init_189 : decode cX1_init 189 = .ok (.aload_n 0, 1) := by decide +kernel
theorem dX1_init_190 : decode cX1_init 190 = .ok (.getfield 34, 3) := by decide +kernel
theorem dX1_init_193 : decode cX1_init 193 = .ok (.iload_n 1, 1) := by decide +kernel
theorem dX1_init_194 : decode cX1_init 194 = .ok (.new 32, 3) := by decide +kernel
theorem dX1_init_197 : decode cX1_init 197 = .ok (.dup, 1) := by decide +kernel
theorem dX1_init_198 : decode cX1_init 198 = .ok (.invokespecial 89, 3) := by decide +kernel
theorem dX1_init_201 : decode cX1_init 201 = .ok (.aastore, 1) := by decide +kernel
theorem dX1_init_202 : decode cX1_init 202 = .ok (.iinc 1 1, 3) := by decide +kernel
theorem dX1_init_205 : decode cX1_init 205 = .ok (.goto (-22), 3) := by decide +kernel
theorem dX1_init_208 : decode cX1_init 208 = .ok (.return_, 1) := by decide +kernel
theorem dX1_isDue_0 : decode cX1_isDue 0 = .ok (.aload_n 0, 1) := by decide +kernel
theorem dX1_isDue_1 : decode cX1_isDue 1 = .ok (.getfield 43, 3) := by decide +kernel
theorem dX1_isDue_4 : decode cX1_isDue 4 = .ok (.bipush 7, 2) := by decide +kernel
theorem dX1_isDue_6 : decode cX1_isDue 6 = .ok (.iload_n 1, 1) := by decide +kernel
theorem dX1_isDue_7 : decode cX1_isDue 7 = .ok (.invokevirtual 141, 3) := by decide +kernel
theorem dX1_isDue_10 : decode cX1_isDue 10 = .ok (.ifCond .le 24, 3) := by decide +kernel
theorem dX1_isDue_13 : decode cX1_isDue 13 = .ok (.aload_n 0, 1) := by decide +kernel
theorem dX1_isDue_14 : decode cX1_isDue 14 = .ok (.getfield 43, 3) := by decide +kernel
theorem dX1_isDue_17 : decode cX1_isDue 17 = .ok (.bipush 6, 2) := by decide +kernel
theorem dX1_isDue_19 : decode cX1_isDue 19 = .ok (.iload_n 1, 1) := by decide +kernel
theorem dX1_isDue_20 : decode cX1_isDue 20 = .ok (.invokevirtual 141, 3) := by decide +kernel
theorem dX1_isDue_23 : decode cX1_isDue 23 = .ok (.aload_n 0, 1) := by decide +kernel
theorem dX1_isDue_24 : decode cX1_isDue 24 = .ok (.getfield 60, 3) := by decide +kernel
theorem dX1_isDue_27 : decode cX1_isDue 27 = .ok (.if_icmp .gt 7, 3) := by decide +kernel
theorem dX1_isDue_30 : decode cX1_isDue 30 = .ok (.iconst 1, 1) := by decide +kernel
theorem dX1_isDue_31 : decode cX1_isDue 31 = .ok (.goto 4, 3) := by decide +kernel
theorem dX1_isDue_34 : decode cX1_isDue 34 = .ok (.iconst 0, 1) := by decide +kernel
theorem dX1_isDue_35 : decode cX1_isDue 35 = .ok (.istore 4, 2) := by decide +kernel
theorem dX1_isDue_37 : decode cX1_isDue 37 = .ok (.iload 4, 2) := by decide +kernel
theorem dX1_isDue_39 : decode cX1_isDue 39 = .ok (.ifCond .eq 65, 3) := by decide +kernel
theorem dX1_isDue_42 : decode cX1_isDue 42 = .ok (.aload_n 0, 1) := by decide +kernel
theorem dX1_isDue_43 : decode cX1_isDue 43 = .ok (.getfield 43, 3) := by decide +kernel
theorem dX1_isDue_46 : decode cX1_isDue 46 = .ok (.iconst 2, 1) := by decide +kernel
theorem dX1_isDue_47 : decode cX1_isDue 47 = .ok (.iload_n 1, 1) := by decide +kernel
theorem dX1_isDue_48 : decode cX1_isDue 48 = .ok (.invokevirtual 141, 3) := by decide +kernel
theorem dX1_isDue_51 : decode cX1_isDue 51 = .ok (.iload_n 2, 1) := by decide +kernel
theorem dX1_isDue_52 : decode cX1_isDue 52 = .ok (.if_icmp .ne 52, 3) := by decide +kernel
theorem dX1_isDue_55 : decode cX1_isDue 55 = .ok (.aload_n 0, 1) := by decide +kernel
theorem dX1_isDue_56 : decode cX1_isDue 56 = .ok (.getfield 43, 3) := by decide +kernel
theorem dX1_isDue_59 : decode cX1_isDue 59 = .ok (.iconst 5, 1) := by decide +kernel
theorem dX1_isDue_60 : decode cX1_isDue 60 = .ok (.iload_n 1, 1) := by decide +kernel
theorem dX1_isDue_61 : decode cX1_isDue 61 = .ok (.invokevirtual 141, 3) := by decide +kernel
theorem dX1_isDue_64 : decode cX1_isDue 64 = .ok (.iload_n 3, 1) := by decide +kernel
theorem dX1_isDue_65 : decode cX1_isDue 65 = .ok (.if_icmp .ne 39, 3) := by decide +kernel
theorem dX1_isDue_68 : decode cX1_isDue 68 = .ok (.aload_n 0, 1) := by decide +kernel
theorem dX1_isDue_69 : decode cX1_isDue 69 = .ok (.aload_n 0, 1) := by decide +kernel
theorem dX1_isDue_70 : decode cX1_isDue 70 = .ok (.getfield 43, 3) := by decide +kernel
theorem dX1_isDue_73 : decode cX1_isDue 73 = .ok (.iconst 0, 1) := by decide +kernel
theorem dX1_isDue_74 : decode cX1_isDue 74 = .ok (.iload_n 1, 1) := by decide +kernel
theorem dX1_isDue_75 : decode cX1_isDue 75 = .ok (.invokevirtual 141, 3) := by decide +kernel
theorem dX1_isDue_78 : decode cX1_isDue 78 = .ok (.invokevirtual 122, 3) := by decide +kernel
theorem dX1_isDue_81 : decode cX1_isDue 81 = .ok (.ifCond .eq 23, 3) := by decide +kernel
theorem dX1_isDue_84 : decode cX1_isDue 84 = .ok (.aload_n 0, 1) := by decide +kernel
theorem dX1_isDue_85 : decode cX1_isDue 85 = .ok (.aload_n 0, 1) := by decide +kernel
theorem dX1_isDue_86 : decode cX1_isDue 86 = .ok (.getfield 43, 3) := by decide +kernel
theorem dX1_isDue_89 : decode cX1_isDue 89 = .ok (.iconst 1, 1) := by decide +kernel
theorem dX1_isDue_90 : decode cX1_isDue 90 = .ok (.iload_n 1, 1) := by decide +kernel
theorem dX1_isDue_91 : decode cX1_isDue 91 = .ok (.invokevirtual 141, 3) := by decide +kernel
theorem dX1_isDue_94 : decode cX1_isDue 94 = .ok (.invokevirtual 122, 3) := by decide +kernel
theorem dX1_isDue_97 : decode cX1_isDue 97 = .ok (.ifCond .eq 7, 3) := by decide +kernel
theorem dX1_isDue_100 : decode cX1_isDue 100 = .ok (.iconst 1, 1) := by decide +kernel
theorem dX1_isDue_101 : decode cX1_isDue 101 = .ok (.goto 4, 3) := by decide +kernel
theorem dX1_isDue_104 : decode cX1_isDue 104 = .ok (.iconst 0, 1) := by decide +kernel
theorem dX1_isDue_105 : decode cX1_isDue 105 = .ok (.ireturn, 1) := by decide +kernel
theorem dX1_isOpenNotice_0 : decode cX1_isOpenNotice 0 = .ok (.aload_n 0, 1) := by decide +kernel
theorem dX1_isOpenNotice_1 : decode cX1_isOpenNotice 1 = .ok (.getfield 47, 3) := by decide +kernel
theorem dX1_isOpenNotice_4 : decode cX1_isOpenNotice 4 = .ok (.iconst 4, 1) := by decide +kernel
theorem dX1_isOpenNotice_5 : decode cX1_isOpenNotice 5 = .ok (.iload_n 1, 1) := by decide +kernel
theorem dX1_isOpenNotice_6 : decode cX1_isOpenNotice 6 = .ok (.invokevirtual 141, 3) := by decide +kernel
theorem dX1_isOpenNotice_9 : decode cX1_isOpenNotice 9 = .ok (.iconst 1, 1) := by decide +kernel
theorem dX1_isOpenNotice_10 : decode cX1_isOpenNotice 10 = .ok (.if_icmp .ne 20, 3) := by decide +kernel
theorem dX1_isOpenNotice_13 : decode cX1_isOpenNotice 13 = .ok (.aload_n 0, 1) := by decide +kernel
theorem dX1_isOpenNotice_14 : decode cX1_isOpenNotice 14 = .ok (.getfield 47, 3) := by decide +kernel
theorem dX1_isOpenNotice_17 : decode cX1_isOpenNotice 17 = .ok (.iconst 1, 1) := by decide +kernel
theorem dX1_isOpenNotice_18 : decode cX1_isOpenNotice 18 = .ok (.iload_n 1, 1) := by decide +kernel
theorem dX1_isOpenNotice_19 : decode cX1_isOpenNotice 19 = .ok (.invokevirtual 141, 3) := by decide +kernel
theorem dX1_isOpenNotice_22 : decode cX1_isOpenNotice 22 = .ok (.iload_n 2, 1) := by decide +kernel
theorem dX1_isOpenNotice_23 : decode cX1_isOpenNotice 23 = .ok (.if_icmp .ne 7, 3) := by decide +kernel
theorem dX1_isOpenNotice_26 : decode cX1_isOpenNotice 26 = .ok (.iconst 1, 1) := by decide +kernel
theorem dX1_isOpenNotice_27 : decode cX1_isOpenNotice 27 = .ok (.goto 4, 3) := by decide +kernel
theorem dX1_isOpenNotice_30 : decode cX1_isOpenNotice 30 = .ok (.iconst 0, 1) := by decide +kernel
theorem dX1_isOpenNotice_31 : decode cX1_isOpenNotice 31 = .ok (.ireturn, 1) := by decide +kernel
theorem dX1_members_0 : decode cX1_members 0 = .ok (.aload_n 0, 1) := by decide +kernel
theorem dX1_members_1 : decode cX1_members 1 = .ok (.getfield 13, 3) := by decide +kernel
theorem dX1_members_4 : decode cX1_members 4 = .ok (.iconst 0, 1) := by decide +kernel
theorem dX1_members_5 : decode cX1_members 5 = .ok (.iaload, 1) := by decide +kernel
theorem dX1_members_6 : decode cX1_members 6 = .ok (.ireturn, 1) := by decide +kernel
theorem dX1_pay_0 : decode cX1_pay 0 = .ok (.aload_n 0, 1) := by decide +kernel
theorem dX1_pay_1 : decode cX1_pay 1 = .ok (.iload_n 1, 1) := by decide +kernel
theorem dX1_pay_2 : decode cX1_pay 2 = .ok (.invokevirtual 122, 3) := by decide +kernel
theorem dX1_pay_5 : decode cX1_pay 5 = .ok (.ifCond .eq 31, 3) := by decide +kernel
theorem dX1_pay_8 : decode cX1_pay 8 = .ok (.aload_n 0, 1) := by decide +kernel
theorem dX1_pay_9 : decode cX1_pay 9 = .ok (.iload_n 2, 1) := by decide +kernel
theorem dX1_pay_10 : decode cX1_pay 10 = .ok (.invokevirtual 122, 3) := by decide +kernel
theorem dX1_pay_13 : decode cX1_pay 13 = .ok (.ifCond .eq 23, 3) := by decide +kernel
theorem dX1_pay_16 : decode cX1_pay 16 = .ok (.aload_n 0, 1) := by decide +kernel
theorem dX1_pay_17 : decode cX1_pay 17 = .ok (.getfield 18, 3) := by decide +kernel
theorem dX1_pay_20 : decode cX1_pay 20 = .ok (.iload_n 1, 1) := by decide +kernel
theorem dX1_pay_21 : decode cX1_pay 21 = .ok (.dup2, 1) := by decide +kernel
theorem dX1_pay_22 : decode cX1_pay 22 = .ok (.laload, 1) := by decide +kernel
theorem dX1_pay_23 : decode cX1_pay 23 = .ok (.lload_n 3, 1) := by decide +kernel
theorem dX1_pay_24 : decode cX1_pay 24 = .ok (.lsub, 1) := by decide +kernel
theorem dX1_pay_25 : decode cX1_pay 25 = .ok (.lastore, 1) := by decide +kernel
theorem dX1_pay_26 : decode cX1_pay 26 = .ok (.aload_n 0, 1) := by decide +kernel
theorem dX1_pay_27 : decode cX1_pay 27 = .ok (.getfield 18, 3) := by decide +kernel
theorem dX1_pay_30 : decode cX1_pay 30 = .ok (.iload_n 2, 1) := by decide +kernel
theorem dX1_pay_31 : decode cX1_pay 31 = .ok (.dup2, 1) := by decide +kernel
theorem dX1_pay_32 : decode cX1_pay 32 = .ok (.laload, 1) := by decide +kernel
theorem dX1_pay_33 : decode cX1_pay 33 = .ok (.lload_n 3, 1) := by decide +kernel
theorem dX1_pay_34 : decode cX1_pay 34 = .ok (.ladd, 1) := by decide +kernel
theorem dX1_pay_35 : decode cX1_pay 35 = .ok (.lastore, 1) := by decide +kernel
theorem dX1_pay_36 : decode cX1_pay 36 = .ok (.return_, 1) := by decide +kernel
theorem dX1_write_0 : decode cX1_write 0 = .ok (.aload_n 0, 1) := by decide +kernel
theorem dX1_write_1 : decode cX1_write 1 = .ok (.getfield 50, 3) := by decide +kernel
theorem dX1_write_4 : decode cX1_write 4 = .ok (.invokevirtual 126, 3) := by decide +kernel
theorem dX1_write_7 : decode cX1_write 7 = .ok (.istore 6, 2) := by decide +kernel
theorem dX1_write_9 : decode cX1_write 9 = .ok (.aload_n 0, 1) := by decide +kernel
theorem dX1_write_10 : decode cX1_write 10 = .ok (.getfield 50, 3) := by decide +kernel
theorem dX1_write_13 : decode cX1_write 13 = .ok (.iconst 0, 1) := by decide +kernel
theorem dX1_write_14 : decode cX1_write 14 = .ok (.iload 6, 2) := by decide +kernel
theorem dX1_write_16 : decode cX1_write 16 = .ok (.aload_n 0, 1) := by decide +kernel
theorem dX1_write_17 : decode cX1_write 17 = .ok (.getfield 60, 3) := by decide +kernel
theorem dX1_write_20 : decode cX1_write 20 = .ok (.invokevirtual 130, 3) := by decide +kernel
theorem dX1_write_23 : decode cX1_write 23 = .ok (.aload_n 0, 1) := by decide +kernel
theorem dX1_write_24 : decode cX1_write 24 = .ok (.getfield 50, 3) := by decide +kernel
theorem dX1_write_27 : decode cX1_write 27 = .ok (.iconst 1, 1) := by decide +kernel
theorem dX1_write_28 : decode cX1_write 28 = .ok (.iload 6, 2) := by decide +kernel
theorem dX1_write_30 : decode cX1_write 30 = .ok (.iload_n 1, 1) := by decide +kernel
theorem dX1_write_31 : decode cX1_write 31 = .ok (.invokevirtual 130, 3) := by decide +kernel
theorem dX1_write_34 : decode cX1_write 34 = .ok (.aload_n 0, 1) := by decide +kernel
theorem dX1_write_35 : decode cX1_write 35 = .ok (.getfield 50, 3) := by decide +kernel
theorem dX1_write_38 : decode cX1_write 38 = .ok (.iconst 2, 1) := by decide +kernel
theorem dX1_write_39 : decode cX1_write 39 = .ok (.iload 6, 2) := by decide +kernel
theorem dX1_write_41 : decode cX1_write 41 = .ok (.iload_n 2, 1) := by decide +kernel
theorem dX1_write_42 : decode cX1_write 42 = .ok (.invokevirtual 130, 3) := by decide +kernel
theorem dX1_write_45 : decode cX1_write 45 = .ok (.aload_n 0, 1) := by decide +kernel
theorem dX1_write_46 : decode cX1_write 46 = .ok (.getfield 50, 3) := by decide +kernel
theorem dX1_write_49 : decode cX1_write 49 = .ok (.iconst 3, 1) := by decide +kernel
theorem dX1_write_50 : decode cX1_write 50 = .ok (.iload 6, 2) := by decide +kernel
theorem dX1_write_52 : decode cX1_write 52 = .ok (.iload_n 3, 1) := by decide +kernel
theorem dX1_write_53 : decode cX1_write 53 = .ok (.invokevirtual 130, 3) := by decide +kernel
theorem dX1_write_56 : decode cX1_write 56 = .ok (.aload_n 0, 1) := by decide +kernel
theorem dX1_write_57 : decode cX1_write 57 = .ok (.getfield 50, 3) := by decide +kernel
theorem dX1_write_60 : decode cX1_write 60 = .ok (.iconst 4, 1) := by decide +kernel
theorem dX1_write_61 : decode cX1_write 61 = .ok (.iload 6, 2) := by decide +kernel
theorem dX1_write_63 : decode cX1_write 63 = .ok (.iload 4, 2) := by decide +kernel
theorem dX1_write_65 : decode cX1_write 65 = .ok (.invokevirtual 130, 3) := by decide +kernel
theorem dX1_write_68 : decode cX1_write 68 = .ok (.aload_n 0, 1) := by decide +kernel
theorem dX1_write_69 : decode cX1_write 69 = .ok (.getfield 50, 3) := by decide +kernel
theorem dX1_write_72 : decode cX1_write 72 = .ok (.iconst 5, 1) := by decide +kernel
theorem dX1_write_73 : decode cX1_write 73 = .ok (.iload 6, 2) := by decide +kernel
theorem dX1_write_75 : decode cX1_write 75 = .ok (.iload 5, 2) := by decide +kernel
theorem dX1_write_77 : decode cX1_write 77 = .ok (.invokevirtual 130, 3) := by decide +kernel
theorem dX1_write_80 : decode cX1_write 80 = .ok (.return_, 1) := by decide +kernel
theorem dX2_addGroup_0 : decode cX2_addGroup 0 = .ok (.iload_n 2, 1) := by decide +kernel
theorem dX2_addGroup_1 : decode cX2_addGroup 1 = .ok (.ifCond .ne 4, 3) := by decide +kernel
theorem dX2_addGroup_4 : decode cX2_addGroup 4 = .ok (.return_, 1) := by decide +kernel
theorem dX2_addGroup_5 : decode cX2_addGroup 5 = .ok (.iconst 0, 1) := by decide +kernel
theorem dX2_addGroup_6 : decode cX2_addGroup 6 = .ok (.istore_n 3, 1) := by decide +kernel
theorem dX2_addGroup_7 : decode cX2_addGroup 7 = .ok (.iload_n 3, 1) := by decide +kernel
theorem dX2_addGroup_8 : decode cX2_addGroup 8 = .ok (.aload_n 1, 1) := by decide +kernel
theorem dX2_addGroup_9 : decode cX2_addGroup 9 = .ok (.getfield 58, 3) := by decide +kernel
theorem dX2_addGroup_12 : decode cX2_addGroup 12 = .ok (.if_icmp .ge 98, 3) := by decide +kernel
theorem dX2_addGroup_15 : decode cX2_addGroup 15 = .ok (.iconst 0, 1) := by decide +kernel
theorem dX2_addGroup_16 : decode cX2_addGroup 16 = .ok (.istore 4, 2) := by decide +kernel
theorem dX2_addGroup_18 : decode cX2_addGroup 18 = .ok (.iload 4, 2) := by decide +kernel
theorem dX2_addGroup_20 : decode cX2_addGroup 20 = .ok (.bipush 12, 2) := by decide +kernel
theorem dX2_addGroup_22 : decode cX2_addGroup 22 = .ok (.if_icmp .ge 82, 3) := by decide +kernel
theorem dX2_addGroup_25 : decode cX2_addGroup 25 = .ok (.aload_n 0, 1) := by decide +kernel
theorem dX2_addGroup_26 : decode cX2_addGroup 26 = .ok (.getfield 22, 3) := by decide +kernel
theorem dX2_addGroup_29 : decode cX2_addGroup 29 = .ok (.iload 4, 2) := by decide +kernel
theorem dX2_addGroup_31 : decode cX2_addGroup 31 = .ok (.iaload, 1) := by decide +kernel
theorem dX2_addGroup_32 : decode cX2_addGroup 32 = .ok (.istore 5, 2) := by decide +kernel
theorem dX2_addGroup_34 : decode cX2_addGroup 34 = .ok (.iload_n 2, 1) := by decide +kernel
theorem dX2_addGroup_35 : decode cX2_addGroup 35 = .ok (.iload 5, 2) := by decide +kernel
theorem dX2_addGroup_37 : decode cX2_addGroup 37 = .ok (.ishr, 1) := by decide +kernel
theorem dX2_addGroup_38 : decode cX2_addGroup 38 = .ok (.iconst 1, 1) := by decide +kernel
theorem dX2_addGroup_39 : decode cX2_addGroup 39 = .ok (.iand, 1) := by decide +kernel
theorem dX2_addGroup_40 : decode cX2_addGroup 40 = .ok (.ifCond .eq 58, 3) := by decide +kernel
theorem dX2_addGroup_43 : decode cX2_addGroup 43 = .ok (.aload_n 1, 1) := by decide +kernel
theorem dX2_addGroup_44 : decode cX2_addGroup 44 = .ok (.getfield 63, 3) := by decide +kernel
theorem dX2_addGroup_47 : decode cX2_addGroup 47 = .ok (.iload 5, 2) := by decide +kernel
theorem dX2_addGroup_49 : decode cX2_addGroup 49 = .ok (.aaload, 1) := by decide +kernel
theorem dX2_addGroup_50 : decode cX2_addGroup 50 = .ok (.iload_n 3, 1) := by decide +kernel
theorem dX2_addGroup_51 : decode cX2_addGroup 51 = .ok (.iaload, 1) := by decide +kernel
theorem dX2_addGroup_52 : decode cX2_addGroup 52 = .ok (.ifCond .le 46, 3) := by decide +kernel
theorem dX2_addGroup_55 : decode cX2_addGroup 55 = .ok (.aload_n 0, 1) := by decide +kernel
theorem dX2_addGroup_56 : decode cX2_addGroup 56 = .ok (.getfield 18, 3) := by decide +kernel
theorem dX2_addGroup_59 : decode cX2_addGroup 59 = .ok (.aload_n 0, 1) := by decide +kernel
theorem dX2_addGroup_60 : decode cX2_addGroup 60 = .ok (.getfield 9, 3) := by decide +kernel
theorem dX2_addGroup_63 : decode cX2_addGroup 63 = .ok (.arraylength, 1) := by decide +kernel
theorem dX2_addGroup_64 : decode cX2_addGroup 64 = .ok (.if_icmp .ge 34, 3) := by decide +kernel
theorem dX2_addGroup_67 : decode cX2_addGroup 67 = .ok (.aload_n 0, 1) := by decide +kernel
theorem dX2_addGroup_68 : decode cX2_addGroup 68 = .ok (.getfield 9, 3) := by decide +kernel
theorem dX2_addGroup_71 : decode cX2_addGroup 71 = .ok (.aload_n 0, 1) := by decide +kernel
theorem dX2_addGroup_72 : decode cX2_addGroup 72 = .ok (.getfield 18, 3) := by decide +kernel
theorem dX2_addGroup_75 : decode cX2_addGroup 75 = .ok (.iload 5, 2) := by decide +kernel
theorem dX2_addGroup_77 : decode cX2_addGroup 77 = .ok (.iastore, 1) := by decide +kernel
theorem dX2_addGroup_78 : decode cX2_addGroup 78 = .ok (.aload_n 0, 1) := by decide +kernel
theorem dX2_addGroup_79 : decode cX2_addGroup 79 = .ok (.getfield 15, 3) := by decide +kernel
theorem dX2_addGroup_82 : decode cX2_addGroup 82 = .ok (.aload_n 0, 1) := by decide +kernel
theorem dX2_addGroup_83 : decode cX2_addGroup 83 = .ok (.getfield 18, 3) := by decide +kernel
theorem dX2_addGroup_86 : decode cX2_addGroup 86 = .ok (.iload_n 3, 1) := by decide +kernel
theorem dX2_addGroup_87 : decode cX2_addGroup 87 = .ok (.iastore, 1) := by decide +kernel
theorem dX2_addGroup_88 : decode cX2_addGroup 88 = .ok (.aload_n 0, 1) := by decide +kernel
theorem dX2_addGroup_89 : decode cX2_addGroup 89 = .ok (.dup, 1) := by decide +kernel
theorem dX2_addGroup_90 : decode cX2_addGroup 90 = .ok (.getfield 18, 3) := by decide +kernel
theorem dX2_addGroup_93 : decode cX2_addGroup 93 = .ok (.iconst 1, 1) := by decide +kernel
theorem dX2_addGroup_94 : decode cX2_addGroup 94 = .ok (.iadd, 1) := by decide +kernel
theorem dX2_addGroup_95 : decode cX2_addGroup 95 = .ok (.putfield 18, 3) := by decide +kernel
theorem dX2_addGroup_98 : decode cX2_addGroup 98 = .ok (.iinc 4 1, 3) := by decide +kernel
theorem dX2_addGroup_101 : decode cX2_addGroup 101 = .ok (.goto (-83), 3) := by decide +kernel
theorem dX2_addGroup_104 : decode cX2_addGroup 104 = .ok (.iinc 3 1, 3) := by decide +kernel
theorem dX2_addGroup_107 : decode cX2_addGroup 107 = .ok (.goto (-100), 3) := by decide +kernel
theorem dX2_addGroup_110 : decode cX2_addGroup 110 = .ok (.return_, 1) := by decide +kernel
theorem dX2_form_0 : decode cX2_form 0 = .ok (.aload_n 0, 1) := by decide +kernel
theorem dX2_form_1 : decode cX2_form 1 = .ok (.iconst 0, 1) := by decide +kernel
theorem dX2_form_2 : decode cX2_form 2 = .ok (.putfield 18, 3) := by decide +kernel
theorem dX2_form_5 : decode cX2_form 5 = .ok (.aload_n 0, 1) := by decide +kernel
theorem dX2_form_6 : decode cX2_form 6 = .ok (.aload_n 1, 1) := by decide +kernel
theorem dX2_form_7 : decode cX2_form 7 = .ok (.invokevirtual 25, 3) := by decide +kernel
theorem dX2_form_10 : decode cX2_form 10 = .ok (.aload_n 1, 1) := by decide +kernel
theorem dX2_form_11 : decode cX2_form 11 = .ok (.getfield 29, 3) := by decide +kernel
theorem dX2_form_14 : decode cX2_form 14 = .ok (.iload_n 2, 1) := by decide +kernel
theorem dX2_form_15 : decode cX2_form 15 = .ok (.aaload, 1) := by decide +kernel
theorem dX2_form_16 : decode cX2_form 16 = .ok (.astore_n 3, 1) := by decide +kernel
theorem dX2_form_17 : decode cX2_form 17 = .ok (.iconst 1, 1) := by decide +kernel
theorem dX2_form_18 : decode cX2_form 18 = .ok (.aload_n 1, 1) := by decide +kernel
theorem dX2_form_19 : decode cX2_form 19 = .ok (.invokevirtual 35, 3) := by decide +kernel
theorem dX2_form_22 : decode cX2_form 22 = .ok (.ishl, 1) := by decide +kernel
theorem dX2_form_23 : decode cX2_form 23 = .ok (.iconst 1, 1) := by decide +kernel
theorem dX2_form_24 : decode cX2_form 24 = .ok (.isub, 1) := by decide +kernel
theorem dX2_form_25 : decode cX2_form 25 = .ok (.istore 4, 2) := by decide +kernel
theorem dX2_form_27 : decode cX2_form 27 = .ok (.aload_n 1, 1) := by decide +kernel
theorem dX2_form_28 : decode cX2_form 28 = .ok (.invokestatic 39, 3) := by decide +kernel
theorem dX2_form_31 : decode cX2_form 31 = .ok (.istore 5, 2) := by decide +kernel
theorem dX2_form_33 : decode cX2_form 33 = .ok (.aload_n 1, 1) := by decide +kernel
theorem dX2_form_34 : decode cX2_form 34 = .ok (.iload_n 2, 1) := by decide +kernel
theorem dX2_form_35 : decode cX2_form 35 = .ok (.invokestatic 45, 3) := by decide +kernel
theorem dX2_form_38 : decode cX2_form 38 = .ok (.istore 6, 2) := by decide +kernel
theorem dX2_form_40 : decode cX2_form 40 = .ok (.aload_n 0, 1) := by decide +kernel
theorem dX2_form_41 : decode cX2_form 41 = .ok (.aload_n 3, 1) := by decide +kernel
theorem dX2_form_42 : decode cX2_form 42 = .ok (.iload 4, 2) := by decide +kernel
theorem dX2_form_44 : decode cX2_form 44 = .ok (.iload 5, 2) := by decide +kernel
theorem dX2_form_46 : decode cX2_form 46 = .ok (.iconst (-1), 1) := by decide +kernel
theorem dX2_form_47 : decode cX2_form 47 = .ok (.ixor, 1) := by decide +kernel
theorem dX2_form_48 : decode cX2_form 48 = .ok (.iand, 1) := by decide +kernel
theorem dX2_form_49 : decode cX2_form 49 = .ok (.iload 6, 2) := by decide +kernel
theorem dX2_form_51 : decode cX2_form 51 = .ok (.iand, 1) := by decide +kernel
theorem dX2_form_52 : decode cX2_form 52 = .ok (.invokevirtual 51, 3) := by decide +kernel
theorem dX2_form_55 : decode cX2_form 55 = .ok (.aload_n 0, 1) := by decide +kernel
theorem dX2_form_56 : decode cX2_form 56 = .ok (.aload_n 3, 1) := by decide +kernel
theorem dX2_form_57 : decode cX2_form 57 = .ok (.iload 4, 2) := by decide +kernel
theorem dX2_form_59 : decode cX2_form 59 = .ok (.iload 5, 2) := by decide +kernel
theorem dX2_form_61 : decode cX2_form 61 = .ok (.iconst (-1), 1) := by decide +kernel
theorem dX2_form_62 : decode cX2_form 62 = .ok (.ixor, 1) := by decide +kernel
theorem dX2_form_63 : decode cX2_form 63 = .ok (.iand, 1) := by decide +kernel
theorem dX2_form_64 : decode cX2_form 64 = .ok (.iload 6, 2) := by decide +kernel
theorem dX2_form_66 : decode cX2_form 66 = .ok (.iconst (-1), 1) := by decide +kernel
theorem dX2_form_67 : decode cX2_form 67 = .ok (.ixor, 1) := by decide +kernel
theorem dX2_form_68 : decode cX2_form 68 = .ok (.iand, 1) := by decide +kernel
theorem dX2_form_69 : decode cX2_form 69 = .ok (.invokevirtual 51, 3) := by decide +kernel
theorem dX2_form_72 : decode cX2_form 72 = .ok (.aload_n 0, 1) := by decide +kernel
theorem dX2_form_73 : decode cX2_form 73 = .ok (.aload_n 3, 1) := by decide +kernel
theorem dX2_form_74 : decode cX2_form 74 = .ok (.iload 5, 2) := by decide +kernel
theorem dX2_form_76 : decode cX2_form 76 = .ok (.iload 6, 2) := by decide +kernel
theorem dX2_form_78 : decode cX2_form 78 = .ok (.iand, 1) := by decide +kernel
theorem dX2_form_79 : decode cX2_form 79 = .ok (.invokevirtual 51, 3) := by decide +kernel
theorem dX2_form_82 : decode cX2_form 82 = .ok (.aload_n 0, 1) := by decide +kernel
theorem dX2_form_83 : decode cX2_form 83 = .ok (.aload_n 3, 1) := by decide +kernel
theorem dX2_form_84 : decode cX2_form 84 = .ok (.iload 5, 2) := by decide +kernel
theorem dX2_form_86 : decode cX2_form 86 = .ok (.iload 6, 2) := by decide +kernel
theorem dX2_form_88 : decode cX2_form 88 = .ok (.iconst (-1), 1) := by decide +kernel
theorem dX2_form_89 : decode cX2_form 89 = .ok (.ixor, 1) := by decide +kernel
theorem dX2_form_90 : decode cX2_form 90 = .ok (.iand, 1) := by decide +kernel
theorem dX2_form_91 : decode cX2_form 91 = .ok (.invokevirtual 51, 3) := by decide +kernel
theorem dX2_form_94 : decode cX2_form 94 = .ok (.return_, 1) := by decide +kernel
theorem dX2_init_0 : decode cX2_init 0 = .ok (.aload_n 0, 1) := by decide +kernel
theorem dX2_init_1 : decode cX2_init 1 = .ok (.invokespecial 3, 3) := by decide +kernel
theorem dX2_init_4 : decode cX2_init 4 = .ok (.aload_n 0, 1) := by decide +kernel
theorem dX2_init_5 : decode cX2_init 5 = .ok (.sipush 1200, 3) := by decide +kernel
theorem dX2_init_8 : decode cX2_init 8 = .ok (.newarray .int, 2) := by decide +kernel
theorem dX2_init_10 : decode cX2_init 10 = .ok (.putfield 9, 3) := by decide +kernel
theorem dX2_init_13 : decode cX2_init 13 = .ok (.aload_n 0, 1) := by decide +kernel
theorem dX2_init_14 : decode cX2_init 14 = .ok (.sipush 1200, 3) := by decide +kernel
theorem dX2_init_17 : decode cX2_init 17 = .ok (.newarray .int, 2) := by decide +kernel
theorem dX2_init_19 : decode cX2_init 19 = .ok (.putfield 15, 3) := by decide +kernel
theorem dX2_init_22 : decode cX2_init 22 = .ok (.aload_n 0, 1) := by decide +kernel
theorem dX2_init_23 : decode cX2_init 23 = .ok (.iconst 0, 1) := by decide +kernel
theorem dX2_init_24 : decode cX2_init 24 = .ok (.putfield 18, 3) := by decide +kernel
theorem dX2_init_27 : decode cX2_init 27 = .ok (.aload_n 0, 1) := by decide +kernel
theorem dX2_init_28 : decode cX2_init 28 = .ok (.bipush 12, 2) := by decide +kernel
theorem dX2_init_30 : decode cX2_init 30 = .ok (.newarray .int, 2) := by decide +kernel
theorem dX2_init_32 : decode cX2_init 32 = .ok (.putfield 22, 3) := by decide +kernel
theorem dX2_init_35 : decode cX2_init 35 = .ok (.return_, 1) := by decide +kernel
theorem dX2_sortByRank_0 : decode cX2_sortByRank 0 = .ok (.iconst 0, 1) := by decide +kernel
theorem dX2_sortByRank_1 : decode cX2_sortByRank 1 = .ok (.istore_n 2, 1) := by decide +kernel
theorem dX2_sortByRank_2 : decode cX2_sortByRank 2 = .ok (.bipush 9, 2) := by decide +kernel
theorem dX2_sortByRank_4 : decode cX2_sortByRank 4 = .ok (.istore_n 3, 1) := by decide +kernel
theorem dX2_sortByRank_5 : decode cX2_sortByRank 5 = .ok (.iload_n 3, 1) := by decide +kernel
theorem dX2_sortByRank_6 : decode cX2_sortByRank 6 = .ok (.ifCond .lt 55, 3) := by decide +kernel
theorem dX2_sortByRank_9 : decode cX2_sortByRank 9 = .ok (.iconst 0, 1) := by decide +kernel
theorem dX2_sortByRank_10 : decode cX2_sortByRank 10 = .ok (.istore 4, 2) := by decide +kernel
theorem dX2_sortByRank_12 : decode cX2_sortByRank 12 = .ok (.iload 4, 2) := by decide +kernel
theorem dX2_sortByRank_14 : decode cX2_sortByRank 14 = .ok (.aload_n 1, 1) := by decide +kernel
theorem dX2_sortByRank_15 : decode cX2_sortByRank 15 = .ok (.invokevirtual 35, 3) := by decide +kernel
theorem dX2_sortByRank_18 : decode cX2_sortByRank 18 = .ok (.if_icmp .ge 37, 3) := by decide +kernel
theorem dX2_sortByRank_21 : decode cX2_sortByRank 21 = .ok (.iload_n 2, 1) := by decide +kernel
theorem dX2_sortByRank_22 : decode cX2_sortByRank 22 = .ok (.bipush 12, 2) := by decide +kernel
theorem dX2_sortByRank_24 : decode cX2_sortByRank 24 = .ok (.if_icmp .ge 31, 3) := by decide +kernel
theorem dX2_sortByRank_27 : decode cX2_sortByRank 27 = .ok (.aload_n 1, 1) := by decide +kernel
theorem dX2_sortByRank_28 : decode cX2_sortByRank 28 = .ok (.getfield 55, 3) := by decide +kernel
theorem dX2_sortByRank_31 : decode cX2_sortByRank 31 = .ok (.iload 4, 2) := by decide +kernel
theorem dX2_sortByRank_33 : decode cX2_sortByRank 33 = .ok (.iaload, 1) := by decide +kernel
theorem dX2_sortByRank_34 : decode cX2_sortByRank 34 = .ok (.iload_n 3, 1) := by decide +kernel
theorem dX2_sortByRank_35 : decode cX2_sortByRank 35 = .ok (.if_icmp .ne 14, 3) := by decide +kernel
theorem dX2_sortByRank_38 : decode cX2_sortByRank 38 = .ok (.aload_n 0, 1) := by decide +kernel
theorem dX2_sortByRank_39 : decode cX2_sortByRank 39 = .ok (.getfield 22, 3) := by decide +kernel
theorem dX2_sortByRank_42 : decode cX2_sortByRank 42 = .ok (.iload_n 2, 1) := by decide +kernel
theorem dX2_sortByRank_43 : decode cX2_sortByRank 43 = .ok (.iload 4, 2) := by decide +kernel
theorem dX2_sortByRank_45 : decode cX2_sortByRank 45 = .ok (.iastore, 1) := by decide +kernel
theorem dX2_sortByRank_46 : decode cX2_sortByRank 46 = .ok (.iinc 2 1, 3) := by decide +kernel
theorem dX2_sortByRank_49 : decode cX2_sortByRank 49 = .ok (.iinc 4 1, 3) := by decide +kernel
theorem dX2_sortByRank_52 : decode cX2_sortByRank 52 = .ok (.goto (-40), 3) := by decide +kernel
theorem dX2_sortByRank_55 : decode cX2_sortByRank 55 = .ok (.iinc 3 (-1), 3) := by decide +kernel
theorem dX2_sortByRank_58 : decode cX2_sortByRank 58 = .ok (.goto (-53), 3) := by decide +kernel
theorem dX2_sortByRank_61 : decode cX2_sortByRank 61 = .ok (.iload_n 2, 1) := by decide +kernel
theorem dX2_sortByRank_62 : decode cX2_sortByRank 62 = .ok (.istore_n 3, 1) := by decide +kernel
theorem dX2_sortByRank_63 : decode cX2_sortByRank 63 = .ok (.iload_n 3, 1) := by decide +kernel
theorem dX2_sortByRank_64 : decode cX2_sortByRank 64 = .ok (.bipush 12, 2) := by decide +kernel
theorem dX2_sortByRank_66 : decode cX2_sortByRank 66 = .ok (.if_icmp .ge 16, 3) := by decide +kernel
theorem dX2_sortByRank_69 : decode cX2_sortByRank 69 = .ok (.aload_n 0, 1) := by decide +kernel
theorem dX2_sortByRank_70 : decode cX2_sortByRank 70 = .ok (.getfield 22, 3) := by decide +kernel
theorem dX2_sortByRank_73 : decode cX2_sortByRank 73 = .ok (.iload_n 3, 1) := by decide +kernel
theorem dX2_sortByRank_74 : decode cX2_sortByRank 74 = .ok (.iload_n 3, 1) := by decide +kernel
theorem dX2_sortByRank_75 : decode cX2_sortByRank 75 = .ok (.iastore, 1) := by decide +kernel
theorem dX2_sortByRank_76 : decode cX2_sortByRank 76 = .ok (.iinc 3 1, 3) := by decide +kernel
theorem dX2_sortByRank_79 : decode cX2_sortByRank 79 = .ok (.goto (-16), 3) := by decide +kernel
theorem dX2_sortByRank_82 : decode cX2_sortByRank 82 = .ok (.return_, 1) := by decide +kernel
theorem dX3_addLot_0 : decode cX3_addLot 0 = .ok (.iload_n 2, 1) := by decide +kernel
theorem dX3_addLot_1 : decode cX3_addLot 1 = .ok (.invokestatic 55, 3) := by decide +kernel
theorem dX3_addLot_4 : decode cX3_addLot 4 = .ok (.iload_n 2, 1) := by decide +kernel
theorem dX3_addLot_5 : decode cX3_addLot 5 = .ok (.ifCond .le 11, 3) := by decide +kernel
theorem dX3_addLot_8 : decode cX3_addLot 8 = .ok (.aload_n 0, 1) := by decide +kernel
theorem dX3_addLot_9 : decode cX3_addLot 9 = .ok (.iload_n 1, 1) := by decide +kernel
theorem dX3_addLot_10 : decode cX3_addLot 10 = .ok (.invokevirtual 66, 3) := by decide +kernel
theorem dX3_addLot_13 : decode cX3_addLot 13 = .ok (.goto 8, 3) := by decide +kernel
theorem dX3_addLot_16 : decode cX3_addLot 16 = .ok (.aload_n 0, 1) := by decide +kernel
theorem dX3_addLot_17 : decode cX3_addLot 17 = .ok (.iload_n 1, 1) := by decide +kernel
theorem dX3_addLot_18 : decode cX3_addLot 18 = .ok (.invokevirtual 69, 3) := by decide +kernel
theorem dX3_addLot_21 : decode cX3_addLot 21 = .ok (.invokestatic 59, 3) := by decide +kernel
theorem dX3_addLot_24 : decode cX3_addLot 24 = .ok (.istore 4, 2) := by decide +kernel
theorem dX3_addLot_26 : decode cX3_addLot 26 = .ok (.aload_n 0, 1) := by decide +kernel
theorem dX3_addLot_27 : decode cX3_addLot 27 = .ok (.iload_n 1, 1) := by decide +kernel
theorem dX3_addLot_28 : decode cX3_addLot 28 = .ok (.iload 4, 2) := by decide +kernel
theorem dX3_addLot_30 : decode cX3_addLot 30 = .ok (.invokevirtual 72, 3) := by decide +kernel
theorem dX3_addLot_33 : decode cX3_addLot 33 = .ok (.aload_n 0, 1) := by decide +kernel
theorem dX3_addLot_34 : decode cX3_addLot 34 = .ok (.aload_n 0, 1) := by decide +kernel
theorem dX3_addLot_35 : decode cX3_addLot 35 = .ok (.getfield 46, 3) := by decide +kernel
theorem dX3_addLot_38 : decode cX3_addLot 38 = .ok (.iload_n 3, 1) := by decide +kernel
theorem dX3_addLot_39 : decode cX3_addLot 39 = .ok (.iconst 1, 1) := by decide +kernel
theorem dX3_addLot_40 : decode cX3_addLot 40 = .ok (.iadd, 1) := by decide +kernel
theorem dX3_addLot_41 : decode cX3_addLot 41 = .ok (.invokestatic 49, 3) := by decide +kernel
theorem dX3_addLot_44 : decode cX3_addLot 44 = .ok (.putfield 46, 3) := by decide +kernel
theorem dX3_addLot_47 : decode cX3_addLot 47 = .ok (.aload_n 0, 1) := by decide +kernel
theorem dX3_addLot_48 : decode cX3_addLot 48 = .ok (.iload_n 1, 1) := by decide +kernel
theorem dX3_addLot_49 : decode cX3_addLot 49 = .ok (.iload_n 3, 1) := by decide +kernel
theorem dX3_addLot_50 : decode cX3_addLot 50 = .ok (.iload_n 2, 1) := by decide +kernel
theorem dX3_addLot_51 : decode cX3_addLot 51 = .ok (.ifCond .le 10, 3) := by decide +kernel
theorem dX3_addLot_54 : decode cX3_addLot 54 = .ok (.iload_n 2, 1) := by decide +kernel
theorem dX3_addLot_55 : decode cX3_addLot 55 = .ok (.iload 4, 2) := by decide +kernel
theorem dX3_addLot_57 : decode cX3_addLot 57 = .ok (.isub, 1) := by decide +kernel
theorem dX3_addLot_58 : decode cX3_addLot 58 = .ok (.goto 7, 3) := by decide +kernel
theorem dX3_addLot_61 : decode cX3_addLot 61 = .ok (.iload_n 2, 1) := by decide +kernel
theorem dX3_addLot_62 : decode cX3_addLot 62 = .ok (.iload 4, 2) := by decide +kernel
theorem dX3_addLot_64 : decode cX3_addLot 64 = .ok (.iadd, 1) := by decide +kernel
theorem dX3_addLot_65 : decode cX3_addLot 65 = .ok (.invokevirtual 62, 3) := by decide +kernel
theorem dX3_addLot_68 : decode cX3_addLot 68 = .ok (.return_, 1) := by decide +kernel
theorem dX3_changeLot_0 : decode cX3_changeLot 0 = .ok (.aload_n 0, 1) := by decide +kernel
theorem dX3_changeLot_1 : decode cX3_changeLot 1 = .ok (.getfield 33, 3) := by decide +kernel
theorem dX3_changeLot_4 : decode cX3_changeLot 4 = .ok (.iload_n 1, 1) := by decide +kernel
theorem dX3_changeLot_5 : decode cX3_changeLot 5 = .ok (.aaload, 1) := by decide +kernel
theorem dX3_changeLot_6 : decode cX3_changeLot 6 = .ok (.iload_n 2, 1) := by decide +kernel
theorem dX3_changeLot_7 : decode cX3_changeLot 7 = .ok (.dup2, 1) := by decide +kernel
theorem dX3_changeLot_8 : decode cX3_changeLot 8 = .ok (.iaload, 1) := by decide +kernel
theorem dX3_changeLot_9 : decode cX3_changeLot 9 = .ok (.iload_n 3, 1) := by decide +kernel
theorem dX3_changeLot_10 : decode cX3_changeLot 10 = .ok (.iadd, 1) := by decide +kernel
theorem dX3_changeLot_11 : decode cX3_changeLot 11 = .ok (.iastore, 1) := by decide +kernel
theorem dX3_changeLot_12 : decode cX3_changeLot 12 = .ok (.aload_n 0, 1) := by decide +kernel
theorem dX3_changeLot_13 : decode cX3_changeLot 13 = .ok (.getfield 28, 3) := by decide +kernel
theorem dX3_changeLot_16 : decode cX3_changeLot 16 = .ok (.iload_n 1, 1) := by decide +kernel
theorem dX3_changeLot_17 : decode cX3_changeLot 17 = .ok (.dup2, 1) := by decide +kernel
theorem dX3_changeLot_18 : decode cX3_changeLot 18 = .ok (.iaload, 1) := by decide +kernel
theorem dX3_changeLot_19 : decode cX3_changeLot 19 = .ok (.iload_n 3, 1) := by decide +kernel
theorem dX3_changeLot_20 : decode cX3_changeLot 20 = .ok (.iadd, 1) := by decide +kernel
theorem dX3_changeLot_21 : decode cX3_changeLot 21 = .ok (.iastore, 1) := by decide +kernel
theorem dX3_changeLot_22 : decode cX3_changeLot 22 = .ok (.return_, 1) := by decide +kernel
theorem dX3_copyFrom_0 : decode cX3_copyFrom 0 = .ok (.aload_n 0, 1) := by decide +kernel
theorem dX3_copyFrom_1 : decode cX3_copyFrom 1 = .ok (.getfield 46, 3) := by decide +kernel
theorem dX3_copyFrom_4 : decode cX3_copyFrom 4 = .ok (.aload_n 1, 1) := by decide +kernel
theorem dX3_copyFrom_5 : decode cX3_copyFrom 5 = .ok (.getfield 46, 3) := by decide +kernel
theorem dX3_copyFrom_8 : decode cX3_copyFrom 8 = .ok (.invokestatic 49, 3) := by decide +kernel
theorem dX3_copyFrom_11 : decode cX3_copyFrom 11 = .ok (.istore_n 2, 1) := by decide +kernel
theorem dX3_copyFrom_12 : decode cX3_copyFrom 12 = .ok (.iconst 0, 1) := by decide +kernel
theorem dX3_copyFrom_13 : decode cX3_copyFrom 13 = .ok (.istore_n 3, 1) := by decide +kernel
theorem dX3_copyFrom_14 : decode cX3_copyFrom 14 = .ok (.iload_n 3, 1) := by decide +kernel
theorem dX3_copyFrom_15 : decode cX3_copyFrom 15 = .ok (.bipush 12, 2) := by decide +kernel
theorem dX3_copyFrom_17 : decode cX3_copyFrom 17 = .ok (.if_icmp .ge 99, 3) := by decide +kernel
theorem dX3_copyFrom_20 : decode cX3_copyFrom 20 = .ok (.aload_n 0, 1) := by decide +kernel
theorem dX3_copyFrom_21 : decode cX3_copyFrom 21 = .ok (.getfield 9, 3) := by decide +kernel
theorem dX3_copyFrom_24 : decode cX3_copyFrom 24 = .ok (.iload_n 3, 1) := by decide +kernel
theorem dX3_copyFrom_25 : decode cX3_copyFrom 25 = .ok (.aload_n 1, 1) := by decide +kernel
theorem dX3_copyFrom_26 : decode cX3_copyFrom 26 = .ok (.getfield 9, 3) := by decide +kernel
theorem dX3_copyFrom_29 : decode cX3_copyFrom 29 = .ok (.iload_n 3, 1) := by decide +kernel
theorem dX3_copyFrom_30 : decode cX3_copyFrom 30 = .ok (.laload, 1) := by decide +kernel
theorem dX3_copyFrom_31 : decode cX3_copyFrom 31 = .ok (.lastore, 1) := by decide +kernel
theorem dX3_copyFrom_32 : decode cX3_copyFrom 32 = .ok (.aload_n 0, 1) := by decide +kernel
theorem dX3_copyFrom_33 : decode cX3_copyFrom 33 = .ok (.getfield 15, 3) := by decide +kernel
theorem dX3_copyFrom_36 : decode cX3_copyFrom 36 = .ok (.iload_n 3, 1) := by decide +kernel
theorem dX3_copyFrom_37 : decode cX3_copyFrom 37 = .ok (.aload_n 1, 1) := by decide +kernel
theorem dX3_copyFrom_38 : decode cX3_copyFrom 38 = .ok (.getfield 15, 3) := by decide +kernel
theorem dX3_copyFrom_41 : decode cX3_copyFrom 41 = .ok (.iload_n 3, 1) := by decide +kernel
theorem dX3_copyFrom_42 : decode cX3_copyFrom 42 = .ok (.iaload, 1) := by decide +kernel
theorem dX3_copyFrom_43 : decode cX3_copyFrom 43 = .ok (.iastore, 1) := by decide +kernel
theorem dX3_copyFrom_44 : decode cX3_copyFrom 44 = .ok (.aload_n 0, 1) := by decide +kernel
theorem dX3_copyFrom_45 : decode cX3_copyFrom 45 = .ok (.getfield 19, 3) := by decide +kernel
theorem dX3_copyFrom_48 : decode cX3_copyFrom 48 = .ok (.iload_n 3, 1) := by decide +kernel
theorem dX3_copyFrom_49 : decode cX3_copyFrom 49 = .ok (.aload_n 1, 1) := by decide +kernel
theorem dX3_copyFrom_50 : decode cX3_copyFrom 50 = .ok (.getfield 19, 3) := by decide +kernel
theorem dX3_copyFrom_53 : decode cX3_copyFrom 53 = .ok (.iload_n 3, 1) := by decide +kernel
theorem dX3_copyFrom_54 : decode cX3_copyFrom 54 = .ok (.iaload, 1) := by decide +kernel
theorem dX3_copyFrom_55 : decode cX3_copyFrom 55 = .ok (.iastore, 1) := by decide +kernel
theorem dX3_copyFrom_56 : decode cX3_copyFrom 56 = .ok (.aload_n 0, 1) := by decide +kernel
theorem dX3_copyFrom_57 : decode cX3_copyFrom 57 = .ok (.getfield 22, 3) := by decide +kernel
theorem dX3_copyFrom_60 : decode cX3_copyFrom 60 = .ok (.iload_n 3, 1) := by decide +kernel
theorem dX3_copyFrom_61 : decode cX3_copyFrom 61 = .ok (.aload_n 1, 1) := by decide +kernel
theorem dX3_copyFrom_62 : decode cX3_copyFrom 62 = .ok (.getfield 22, 3) := by decide +kernel
theorem dX3_copyFrom_65 : decode cX3_copyFrom 65 = .ok (.iload_n 3, 1) := by decide +kernel
theorem dX3_copyFrom_66 : decode cX3_copyFrom 66 = .ok (.iaload, 1) := by decide +kernel
theorem dX3_copyFrom_67 : decode cX3_copyFrom 67 = .ok (.iastore, 1) := by decide +kernel
theorem dX3_copyFrom_68 : decode cX3_copyFrom 68 = .ok (.aload_n 0, 1) := by decide +kernel
theorem dX3_copyFrom_69 : decode cX3_copyFrom 69 = .ok (.getfield 25, 3) := by decide +kernel
theorem dX3_copyFrom_72 : decode cX3_copyFrom 72 = .ok (.iload_n 3, 1) := by decide +kernel
theorem dX3_copyFrom_73 : decode cX3_copyFrom 73 = .ok (.aload_n 1, 1) := by decide +kernel
theorem dX3_copyFrom_74 : decode cX3_copyFrom 74 = .ok (.getfield 25, 3) := by decide +kernel
theorem dX3_copyFrom_77 : decode cX3_copyFrom 77 = .ok (.iload_n 3, 1) := by decide +kernel
theorem dX3_copyFrom_78 : decode cX3_copyFrom 78 = .ok (.iaload, 1) := by decide +kernel
theorem dX3_copyFrom_79 : decode cX3_copyFrom 79 = .ok (.iastore, 1) := by decide +kernel
theorem dX3_copyFrom_80 : decode cX3_copyFrom 80 = .ok (.aload_n 0, 1) := by decide +kernel
theorem dX3_copyFrom_81 : decode cX3_copyFrom 81 = .ok (.getfield 28, 3) := by decide +kernel
theorem dX3_copyFrom_84 : decode cX3_copyFrom 84 = .ok (.iload_n 3, 1) := by decide +kernel
theorem dX3_copyFrom_85 : decode cX3_copyFrom 85 = .ok (.aload_n 1, 1) := by decide +kernel
theorem dX3_copyFrom_86 : decode cX3_copyFrom 86 = .ok (.getfield 28, 3) := by decide +kernel
theorem dX3_copyFrom_89 : decode cX3_copyFrom 89 = .ok (.iload_n 3, 1) := by decide +kernel
theorem dX3_copyFrom_90 : decode cX3_copyFrom 90 = .ok (.iaload, 1) := by decide +kernel
theorem dX3_copyFrom_91 : decode cX3_copyFrom 91 = .ok (.iastore, 1) := by decide +kernel
theorem dX3_copyFrom_92 : decode cX3_copyFrom 92 = .ok (.aload_n 1, 1) := by decide +kernel
theorem dX3_copyFrom_93 : decode cX3_copyFrom 93 = .ok (.getfield 33, 3) := by decide +kernel
theorem dX3_copyFrom_96 : decode cX3_copyFrom 96 = .ok (.iload_n 3, 1) := by decide +kernel
theorem dX3_copyFrom_97 : decode cX3_copyFrom 97 = .ok (.aaload, 1) := by decide +kernel
theorem dX3_copyFrom_98 : decode cX3_copyFrom 98 = .ok (.iconst 0, 1) := by decide +kernel
theorem dX3_copyFrom_99 : decode cX3_copyFrom 99 = .ok (.aload_n 0, 1) := by decide +kernel
theorem dX3_copyFrom_100 : decode cX3_copyFrom 100 = .ok (.getfield 33, 3) := by decide +kernel
theorem dX3_copyFrom_103 : decode cX3_copyFrom 103 = .ok (.iload_n 3, 1) := by decide +kernel
theorem dX3_copyFrom_104 : decode cX3_copyFrom 104 = .ok (.aaload, 1) := by decide +kernel
theorem dX3_copyFrom_105 : decode cX3_copyFrom 105 = .ok (.iconst 0, 1) := by decide +kernel
theorem dX3_copyFrom_106 : decode cX3_copyFrom 106 = .ok (.iload_n 2, 1) := by decide +kernel
theorem dX3_copyFrom_107 : decode cX3_copyFrom 107 = .ok (.invokestatic 87, 3) := by decide +kernel
theorem dX3_copyFrom_110 : decode cX3_copyFrom 110 = .ok (.iinc 3 1, 3) := by decide +kernel
theorem dX3_copyFrom_113 : decode cX3_copyFrom 113 = .ok (.goto (-99), 3) := by decide +kernel
theorem dX3_copyFrom_116 : decode cX3_copyFrom 116 = .ok (.aload_n 0, 1) := by decide +kernel
theorem dX3_copyFrom_117 : decode cX3_copyFrom 117 = .ok (.aload_n 1, 1) := by decide +kernel
theorem dX3_copyFrom_118 : decode cX3_copyFrom 118 = .ok (.getfield 36, 3) := by decide +kernel
theorem dX3_copyFrom_121 : decode cX3_copyFrom 121 = .ok (.putfield 36, 3) := by decide +kernel
theorem dX3_copyFrom_124 : decode cX3_copyFrom 124 = .ok (.aload_n 0, 1) := by decide +kernel
theorem dX3_copyFrom_125 : decode cX3_copyFrom 125 = .ok (.aload_n 1, 1) := by decide +kernel
theorem dX3_copyFrom_126 : decode cX3_copyFrom 126 = .ok (.getfield 40, 3) := by decide +kernel
theorem dX3_copyFrom_129 : decode cX3_copyFrom 129 = .ok (.putfield 40, 3) := by decide +kernel
theorem dX3_copyFrom_132 : decode cX3_copyFrom 132 = .ok (.aload_n 0, 1) := by decide +kernel
theorem dX3_copyFrom_133 : decode cX3_copyFrom 133 = .ok (.aload_n 1, 1) := by decide +kernel
theorem dX3_copyFrom_134 : decode cX3_copyFrom 134 = .ok (.getfield 43, 3) := by decide +kernel
theorem dX3_copyFrom_137 : decode cX3_copyFrom 137 = .ok (.putfield 43, 3) := by decide +kernel
theorem dX3_copyFrom_140 : decode cX3_copyFrom 140 = .ok (.aload_n 0, 1) := by decide +kernel
theorem dX3_copyFrom_141 : decode cX3_copyFrom 141 = .ok (.aload_n 1, 1) := by decide +kernel
theorem dX3_copyFrom_142 : decode cX3_copyFrom 142 = .ok (.getfield 46, 3) := by decide +kernel
theorem dX3_copyFrom_145 : decode cX3_copyFrom 145 = .ok (.putfield 46, 3) := by decide +kernel
theorem dX3_copyFrom_148 : decode cX3_copyFrom 148 = .ok (.return_, 1) := by decide +kernel
theorem dX3_countLots_0 : decode cX3_countLots 0 = .ok (.iconst 0, 1) := by decide +kernel
theorem dX3_countLots_1 : decode cX3_countLots 1 = .ok (.istore_n 2, 1) := by decide +kernel
theorem dX3_countLots_2 : decode cX3_countLots 2 = .ok (.iconst 0, 1) := by decide +kernel
theorem dX3_countLots_3 : decode cX3_countLots 3 = .ok (.istore_n 3, 1) := by decide +kernel
theorem dX3_countLots_4 : decode cX3_countLots 4 = .ok (.iload_n 3, 1) := by decide +kernel
theorem dX3_countLots_5 : decode cX3_countLots 5 = .ok (.aload_n 0, 1) := by decide +kernel
theorem dX3_countLots_6 : decode cX3_countLots 6 = .ok (.getfield 46, 3) := by decide +kernel
theorem dX3_countLots_9 : decode cX3_countLots 9 = .ok (.if_icmp .ge 23, 3) := by decide +kernel
theorem dX3_countLots_12 : decode cX3_countLots 12 = .ok (.aload_n 0, 1) := by decide +kernel
theorem dX3_countLots_13 : decode cX3_countLots 13 = .ok (.getfield 33, 3) := by decide +kernel
theorem dX3_countLots_16 : decode cX3_countLots 16 = .ok (.iload_n 1, 1) := by decide +kernel
theorem dX3_countLots_17 : decode cX3_countLots 17 = .ok (.aaload, 1) := by decide +kernel
theorem dX3_countLots_18 : decode cX3_countLots 18 = .ok (.iload_n 3, 1) := by decide +kernel
theorem dX3_countLots_19 : decode cX3_countLots 19 = .ok (.iaload, 1) := by decide +kernel
theorem dX3_countLots_20 : decode cX3_countLots 20 = .ok (.ifCond .eq 6, 3) := by decide +kernel
theorem dX3_countLots_23 : decode cX3_countLots 23 = .ok (.iinc 2 1, 3) := by decide +kernel
theorem dX3_countLots_26 : decode cX3_countLots 26 = .ok (.iinc 3 1, 3) := by decide +kernel
theorem dX3_countLots_29 : decode cX3_countLots 29 = .ok (.goto (-25), 3) := by decide +kernel
theorem dX3_countLots_32 : decode cX3_countLots 32 = .ok (.iload_n 2, 1) := by decide +kernel
theorem dX3_countLots_33 : decode cX3_countLots 33 = .ok (.ireturn, 1) := by decide +kernel
theorem dX3_dayOfLot_0 : decode cX3_dayOfLot 0 = .ok (.iconst 0, 1) := by decide +kernel
theorem dX3_dayOfLot_1 : decode cX3_dayOfLot 1 = .ok (.istore_n 3, 1) := by decide +kernel
theorem dX3_dayOfLot_2 : decode cX3_dayOfLot 2 = .ok (.iconst 0, 1) := by decide +kernel
theorem dX3_dayOfLot_3 : decode cX3_dayOfLot 3 = .ok (.istore 4, 2) := by decide +kernel
theorem dX3_dayOfLot_5 : decode cX3_dayOfLot 5 = .ok (.iload 4, 2) := by decide +kernel
theorem dX3_dayOfLot_7 : decode cX3_dayOfLot 7 = .ok (.aload_n 0, 1) := by decide +kernel
theorem dX3_dayOfLot_8 : decode cX3_dayOfLot 8 = .ok (.getfield 46, 3) := by decide +kernel
theorem dX3_dayOfLot_11 : decode cX3_dayOfLot 11 = .ok (.if_icmp .ge 32, 3) := by decide +kernel
theorem dX3_dayOfLot_14 : decode cX3_dayOfLot 14 = .ok (.aload_n 0, 1) := by decide +kernel
theorem dX3_dayOfLot_15 : decode cX3_dayOfLot 15 = .ok (.getfield 33, 3) := by decide +kernel
theorem dX3_dayOfLot_18 : decode cX3_dayOfLot 18 = .ok (.iload_n 1, 1) := by decide +kernel
theorem dX3_dayOfLot_19 : decode cX3_dayOfLot 19 = .ok (.aaload, 1) := by decide +kernel
theorem dX3_dayOfLot_20 : decode cX3_dayOfLot 20 = .ok (.iload 4, 2) := by decide +kernel
theorem dX3_dayOfLot_22 : decode cX3_dayOfLot 22 = .ok (.iaload, 1) := by decide +kernel
theorem dX3_dayOfLot_23 : decode cX3_dayOfLot 23 = .ok (.ifCond .eq 14, 3) := by decide +kernel
theorem dX3_dayOfLot_26 : decode cX3_dayOfLot 26 = .ok (.iload_n 3, 1) := by decide +kernel
theorem dX3_dayOfLot_27 : decode cX3_dayOfLot 27 = .ok (.iload_n 2, 1) := by decide +kernel
theorem dX3_dayOfLot_28 : decode cX3_dayOfLot 28 = .ok (.if_icmp .ne 6, 3) := by decide +kernel
theorem dX3_dayOfLot_31 : decode cX3_dayOfLot 31 = .ok (.iload 4, 2) := by decide +kernel
theorem dX3_dayOfLot_33 : decode cX3_dayOfLot 33 = .ok (.ireturn, 1) := by decide +kernel
theorem dX3_dayOfLot_34 : decode cX3_dayOfLot 34 = .ok (.iinc 3 1, 3) := by decide +kernel
theorem dX3_dayOfLot_37 : decode cX3_dayOfLot 37 = .ok (.iinc 4 1, 3) := by decide +kernel
theorem dX3_dayOfLot_40 : decode cX3_dayOfLot 40 = .ok (.goto (-35), 3) := by decide +kernel
theorem dX3_dayOfLot_43 : decode cX3_dayOfLot 43 = .ok (.iconst (-1), 1) := by decide +kernel
theorem dX3_dayOfLot_44 : decode cX3_dayOfLot 44 = .ok (.ireturn, 1) := by decide +kernel
theorem dX3_greatest_0 : decode cX3_greatest 0 = .ok (.aload_n 0, 1) := by decide +kernel
theorem dX3_greatest_1 : decode cX3_greatest 1 = .ok (.getfield 9, 3) := by decide +kernel
theorem dX3_greatest_4 : decode cX3_greatest 4 = .ok (.iload_n 1, 1) := by decide +kernel
theorem dX3_greatest_5 : decode cX3_greatest 5 = .ok (.laload, 1) := by decide +kernel
theorem dX3_greatest_6 : decode cX3_greatest 6 = .ok (.aload_n 0, 1) := by decide +kernel
theorem dX3_greatest_7 : decode cX3_greatest 7 = .ok (.getfield 15, 3) := by decide +kernel
theorem dX3_greatest_10 : decode cX3_greatest 10 = .ok (.iload_n 1, 1) := by decide +kernel
theorem dX3_greatest_11 : decode cX3_greatest 11 = .ok (.iaload, 1) := by decide +kernel
theorem dX3_greatest_12 : decode cX3_greatest 12 = .ok (.i2l, 1) := by decide +kernel
theorem dX3_greatest_13 : decode cX3_greatest 13 = .ok (.invokestatic 84, 3) := by decide +kernel
theorem dX3_greatest_16 : decode cX3_greatest 16 = .ok (.lstore_n 2, 1) := by decide +kernel
theorem dX3_greatest_17 : decode cX3_greatest 17 = .ok (.aload_n 0, 1) := by decide +kernel
theorem dX3_greatest_18 : decode cX3_greatest 18 = .ok (.getfield 19, 3) := by decide +kernel
theorem dX3_greatest_21 : decode cX3_greatest 21 = .ok (.iload_n 1, 1) := by decide +kernel
theorem dX3_greatest_22 : decode cX3_greatest 22 = .ok (.iaload, 1) := by decide +kernel
theorem dX3_greatest_23 : decode cX3_greatest 23 = .ok (.aload_n 0, 1) := by decide +kernel
theorem dX3_greatest_24 : decode cX3_greatest 24 = .ok (.getfield 22, 3) := by decide +kernel
theorem dX3_greatest_27 : decode cX3_greatest 27 = .ok (.iload_n 1, 1) := by decide +kernel
theorem dX3_greatest_28 : decode cX3_greatest 28 = .ok (.iaload, 1) := by decide +kernel
theorem dX3_greatest_29 : decode cX3_greatest 29 = .ok (.invokestatic 49, 3) := by decide +kernel
theorem dX3_greatest_32 : decode cX3_greatest 32 = .ok (.istore 4, 2) := by decide +kernel
theorem dX3_greatest_34 : decode cX3_greatest 34 = .ok (.lload_n 2, 1) := by decide +kernel
theorem dX3_greatest_35 : decode cX3_greatest 35 = .ok (.iload 4, 2) := by decide +kernel
theorem dX3_greatest_37 : decode cX3_greatest 37 = .ok (.i2l, 1) := by decide +kernel
theorem dX3_greatest_38 : decode cX3_greatest 38 = .ok (.invokestatic 84, 3) := by decide +kernel
theorem dX3_greatest_41 : decode cX3_greatest 41 = .ok (.aload_n 0, 1) := by decide +kernel
theorem dX3_greatest_42 : decode cX3_greatest 42 = .ok (.getfield 28, 3) := by decide +kernel
theorem dX3_greatest_45 : decode cX3_greatest 45 = .ok (.iload_n 1, 1) := by decide +kernel
theorem dX3_greatest_46 : decode cX3_greatest 46 = .ok (.iaload, 1) := by decide +kernel
theorem dX3_greatest_47 : decode cX3_greatest 47 = .ok (.invokestatic 55, 3) := by decide +kernel
theorem dX3_greatest_50 : decode cX3_greatest 50 = .ok (.i2l, 1) := by decide +kernel
theorem dX3_greatest_51 : decode cX3_greatest 51 = .ok (.invokestatic 84, 3) := by decide +kernel
theorem dX3_greatest_54 : decode cX3_greatest 54 = .ok (.lreturn, 1) := by decide +kernel
theorem dX3_init_0 : decode cX3_init 0 = .ok (.aload_n 0, 1) := by decide +kernel
theorem dX3_init_1 : decode cX3_init 1 = .ok (.invokespecial 3, 3) := by decide +kernel
theorem dX3_init_4 : decode cX3_init 4 = .ok (.aload_n 0, 1) := by decide +kernel
theorem dX3_init_5 : decode cX3_init 5 = .ok (.bipush 12, 2) := by decide +kernel
theorem dX3_init_7 : decode cX3_init 7 = .ok (.newarray .long, 2) := by decide +kernel
theorem dX3_init_9 : decode cX3_init 9 = .ok (.putfield 9, 3) := by decide +kernel
theorem dX3_init_12 : decode cX3_init 12 = .ok (.aload_n 0, 1) := by decide +kernel
theorem dX3_init_13 : decode cX3_init 13 = .ok (.bipush 12, 2) := by decide +kernel
theorem dX3_init_15 : decode cX3_init 15 = .ok (.newarray .int, 2) := by decide +kernel
theorem dX3_init_17 : decode cX3_init 17 = .ok (.putfield 15, 3) := by decide +kernel
theorem dX3_init_20 : decode cX3_init 20 = .ok (.aload_n 0, 1) := by decide +kernel
theorem dX3_init_21 : decode cX3_init 21 = .ok (.bipush 12, 2) := by decide +kernel
theorem dX3_init_23 : decode cX3_init 23 = .ok (.newarray .int, 2) := by decide +kernel
theorem dX3_init_25 : decode cX3_init 25 = .ok (.putfield 19, 3) := by decide +kernel
theorem dX3_init_28 : decode cX3_init 28 = .ok (.aload_n 0, 1) := by decide +kernel
theorem dX3_init_29 : decode cX3_init 29 = .ok (.bipush 12, 2) := by decide +kernel
theorem dX3_init_31 : decode cX3_init 31 = .ok (.newarray .int, 2) := by decide +kernel
theorem dX3_init_33 : decode cX3_init 33 = .ok (.putfield 22, 3) := by decide +kernel
theorem dX3_init_36 : decode cX3_init 36 = .ok (.aload_n 0, 1) := by decide +kernel
theorem dX3_init_37 : decode cX3_init 37 = .ok (.bipush 12, 2) := by decide +kernel
theorem dX3_init_39 : decode cX3_init 39 = .ok (.newarray .int, 2) := by decide +kernel
theorem dX3_init_41 : decode cX3_init 41 = .ok (.putfield 25, 3) := by decide +kernel
theorem dX3_init_44 : decode cX3_init 44 = .ok (.aload_n 0, 1) := by decide +kernel
theorem dX3_init_45 : decode cX3_init 45 = .ok (.bipush 12, 2) := by decide +kernel
theorem dX3_init_47 : decode cX3_init 47 = .ok (.newarray .int, 2) := by decide +kernel
theorem dX3_init_49 : decode cX3_init 49 = .ok (.putfield 28, 3) := by decide +kernel
theorem dX3_init_52 : decode cX3_init 52 = .ok (.aload_n 0, 1) := by decide +kernel
theorem dX3_init_53 : decode cX3_init 53 = .ok (.bipush 12, 2) := by decide +kernel
theorem dX3_init_55 : decode cX3_init 55 = .ok (.bipush 100, 2) := by decide +kernel
theorem dX3_init_57 : decode cX3_init 57 = .ok (.multianewarray 31 2, 4) := by decide +kernel
theorem dX3_init_61 : decode cX3_init 61 = .ok (.putfield 33, 3) := by decide +kernel
theorem dX3_init_64 : decode cX3_init 64 = .ok (.aload_n 0, 1) := by decide +kernel
theorem dX3_init_65 : decode cX3_init 65 = .ok (.bipush 100, 2) := by decide +kernel
theorem dX3_init_67 : decode cX3_init 67 = .ok (.putfield 36, 3) := by decide +kernel
theorem dX3_init_70 : decode cX3_init 70 = .ok (.aload_n 0, 1) := by decide +kernel
theorem dX3_init_71 : decode cX3_init 71 = .ok (.bipush 100, 2) := by decide +kernel
theorem dX3_init_73 : decode cX3_init 73 = .ok (.putfield 40, 3) := by decide +kernel
theorem dX3_init_76 : decode cX3_init 76 = .ok (.aload_n 0, 1) := by decide +kernel
theorem dX3_init_77 : decode cX3_init 77 = .ok (.iconst 0, 1) := by decide +kernel
theorem dX3_init_78 : decode cX3_init 78 = .ok (.putfield 43, 3) := by decide +kernel
theorem dX3_init_81 : decode cX3_init 81 = .ok (.aload_n 0, 1) := by decide +kernel
theorem dX3_init_82 : decode cX3_init 82 = .ok (.iconst 0, 1) := by decide +kernel
theorem dX3_init_83 : decode cX3_init 83 = .ok (.putfield 46, 3) := by decide +kernel
theorem dX3_init_86 : decode cX3_init 86 = .ok (.return_, 1) := by decide +kernel
theorem dX3_longOf_0 : decode cX3_longOf 0 = .ok (.iconst 0, 1) := by decide +kernel
theorem dX3_longOf_1 : decode cX3_longOf 1 = .ok (.aload_n 0, 1) := by decide +kernel
theorem dX3_longOf_2 : decode cX3_longOf 2 = .ok (.getfield 28, 3) := by decide +kernel
theorem dX3_longOf_5 : decode cX3_longOf 5 = .ok (.iload_n 1, 1) := by decide +kernel
theorem dX3_longOf_6 : decode cX3_longOf 6 = .ok (.iaload, 1) := by decide +kernel
theorem dX3_longOf_7 : decode cX3_longOf 7 = .ok (.invokestatic 49, 3) := by decide +kernel
theorem dX3_longOf_10 : decode cX3_longOf 10 = .ok (.ireturn, 1) := by decide +kernel
theorem dX3_multiply_0 : decode cX3_multiply 0 = .ok (.iload_n 1, 1) := by decide +kernel
theorem dX3_multiply_1 : decode cX3_multiply 1 = .ok (.iconst 1, 1) := by decide +kernel
theorem dX3_multiply_2 : decode cX3_multiply 2 = .ok (.if_icmp .lt 21, 3) := by decide +kernel
theorem dX3_multiply_5 : decode cX3_multiply 5 = .ok (.aload_n 0, 1) := by decide +kernel
theorem dX3_multiply_6 : decode cX3_multiply 6 = .ok (.getfield 36, 3) := by decide +kernel
theorem dX3_multiply_9 : decode cX3_multiply 9 = .ok (.iload_n 1, 1) := by decide +kernel
theorem dX3_multiply_10 : decode cX3_multiply 10 = .ok (.irem, 1) := by decide +kernel
theorem dX3_multiply_11 : decode cX3_multiply 11 = .ok (.ifCond .ne 12, 3) := by decide +kernel
theorem dX3_multiply_14 : decode cX3_multiply 14 = .ok (.aload_n 0, 1) := by decide +kernel
theorem dX3_multiply_15 : decode cX3_multiply 15 = .ok (.getfield 40, 3) := by decide +kernel
theorem dX3_multiply_18 : decode cX3_multiply 18 = .ok (.iload_n 1, 1) := by decide +kernel
theorem dX3_multiply_19 : decode cX3_multiply 19 = .ok (.irem, 1) := by decide +kernel
theorem dX3_multiply_20 : decode cX3_multiply 20 = .ok (.ifCond .eq 5, 3) := by decide +kernel
theorem dX3_multiply_23 : decode cX3_multiply 23 = .ok (.iconst 0, 1) := by decide +kernel
theorem dX3_multiply_24 : decode cX3_multiply 24 = .ok (.ireturn, 1) := by decide +kernel
theorem dX3_multiply_25 : decode cX3_multiply 25 = .ok (.ldc 76, 2) := by decide +kernel
theorem dX3_multiply_27 : decode cX3_multiply 27 = .ok (.iload_n 1, 1) := by decide +kernel
theorem dX3_multiply_28 : decode cX3_multiply 28 = .ok (.idiv, 1) := by decide +kernel
theorem dX3_multiply_29 : decode cX3_multiply 29 = .ok (.istore_n 3, 1) := by decide +kernel
theorem dX3_multiply_30 : decode cX3_multiply 30 = .ok (.iconst 0, 1) := by decide +kernel
theorem dX3_multiply_31 : decode cX3_multiply 31 = .ok (.istore 4, 2) := by decide +kernel
theorem dX3_multiply_33 : decode cX3_multiply 33 = .ok (.iload 4, 2) := by decide +kernel
theorem dX3_multiply_35 : decode cX3_multiply 35 = .ok (.iload_n 2, 1) := by decide +kernel
theorem dX3_multiply_36 : decode cX3_multiply 36 = .ok (.if_icmp .ge 23, 3) := by decide +kernel
theorem dX3_multiply_39 : decode cX3_multiply 39 = .ok (.aload_n 0, 1) := by decide +kernel
theorem dX3_multiply_40 : decode cX3_multiply 40 = .ok (.iload 4, 2) := by decide +kernel
theorem dX3_multiply_42 : decode cX3_multiply 42 = .ok (.invokevirtual 77, 3) := by decide +kernel
theorem dX3_multiply_45 : decode cX3_multiply 45 = .ok (.iload_n 3, 1) := by decide +kernel
theorem dX3_multiply_46 : decode cX3_multiply 46 = .ok (.i2l, 1) := by decide +kernel
theorem dX3_multiply_47 : decode cX3_multiply 47 = .ok (.lcmp, 1) := by decide +kernel
theorem dX3_multiply_48 : decode cX3_multiply 48 = .ok (.ifCond .le 5, 3) := by decide +kernel
theorem dX3_multiply_51 : decode cX3_multiply 51 = .ok (.iconst 0, 1) := by decide +kernel
theorem dX3_multiply_52 : decode cX3_multiply 52 = .ok (.ireturn, 1) := by decide +kernel
theorem dX3_multiply_53 : decode cX3_multiply 53 = .ok (.iinc 4 1, 3) := by decide +kernel
theorem dX3_multiply_56 : decode cX3_multiply 56 = .ok (.goto (-23), 3) := by decide +kernel
theorem dX3_multiply_59 : decode cX3_multiply 59 = .ok (.iconst 0, 1) := by decide +kernel
theorem dX3_multiply_60 : decode cX3_multiply 60 = .ok (.istore 4, 2) := by decide +kernel
theorem dX3_multiply_62 : decode cX3_multiply 62 = .ok (.iload 4, 2) := by decide +kernel
theorem dX3_multiply_64 : decode cX3_multiply 64 = .ok (.iload_n 2, 1) := by decide +kernel
theorem dX3_multiply_65 : decode cX3_multiply 65 = .ok (.if_icmp .ge 16, 3) := by decide +kernel
theorem dX3_multiply_68 : decode cX3_multiply 68 = .ok (.aload_n 0, 1) := by decide +kernel
theorem dX3_multiply_69 : decode cX3_multiply 69 = .ok (.iload 4, 2) := by decide +kernel
theorem dX3_multiply_71 : decode cX3_multiply 71 = .ok (.iload_n 1, 1) := by decide +kernel
theorem dX3_multiply_72 : decode cX3_multiply 72 = .ok (.invokevirtual 81, 3) := by decide +kernel
theorem dX3_multiply_75 : decode cX3_multiply 75 = .ok (.iinc 4 1, 3) := by decide +kernel
theorem dX3_multiply_78 : decode cX3_multiply 78 = .ok (.goto (-16), 3) := by decide +kernel
theorem dX3_multiply_81 : decode cX3_multiply 81 = .ok (.aload_n 0, 1) := by decide +kernel
theorem dX3_multiply_82 : decode cX3_multiply 82 = .ok (.dup, 1) := by decide +kernel
theorem dX3_multiply_83 : decode cX3_multiply 83 = .ok (.getfield 36, 3) := by decide +kernel
theorem dX3_multiply_86 : decode cX3_multiply 86 = .ok (.iload_n 1, 1) := by decide +kernel
theorem dX3_multiply_87 : decode cX3_multiply 87 = .ok (.idiv, 1) := by decide +kernel
theorem dX3_multiply_88 : decode cX3_multiply 88 = .ok (.putfield 36, 3) := by decide +kernel
theorem dX3_multiply_91 : decode cX3_multiply 91 = .ok (.aload_n 0, 1) := by decide +kernel
theorem dX3_multiply_92 : decode cX3_multiply 92 = .ok (.dup, 1) := by decide +kernel
theorem dX3_multiply_93 : decode cX3_multiply 93 = .ok (.getfield 40, 3) := by decide +kernel
theorem dX3_multiply_96 : decode cX3_multiply 96 = .ok (.iload_n 1, 1) := by decide +kernel
theorem dX3_multiply_97 : decode cX3_multiply 97 = .ok (.idiv, 1) := by decide +kernel
theorem dX3_multiply_98 : decode cX3_multiply 98 = .ok (.putfield 40, 3) := by decide +kernel
theorem dX3_multiply_101 : decode cX3_multiply 101 = .ok (.iconst 1, 1) := by decide +kernel
theorem dX3_multiply_102 : decode cX3_multiply 102 = .ok (.ireturn, 1) := by decide +kernel
theorem dX3_multiplyMember_0 : decode cX3_multiplyMember 0 = .ok (.aload_n 0, 1) := by decide +kernel
theorem dX3_multiplyMember_1 : decode cX3_multiplyMember 1 = .ok (.getfield 9, 3) := by decide +kernel
theorem dX3_multiplyMember_4 : decode cX3_multiplyMember 4 = .ok (.iload_n 1, 1) := by decide +kernel
theorem dX3_multiplyMember_5 : decode cX3_multiplyMember 5 = .ok (.dup2, 1) := by decide +kernel
theorem dX3_multiplyMember_6 : decode cX3_multiplyMember 6 = .ok (.laload, 1) := by decide +kernel
theorem dX3_multiplyMember_7 : decode cX3_multiplyMember 7 = .ok (.iload_n 2, 1) := by decide +kernel
theorem dX3_multiplyMember_8 : decode cX3_multiplyMember 8 = .ok (.i2l, 1) := by decide +kernel
theorem dX3_multiplyMember_9 : decode cX3_multiplyMember 9 = .ok (.lmul, 1) := by decide +kernel
theorem dX3_multiplyMember_10 : decode cX3_multiplyMember 10 = .ok (.lastore, 1) := by decide +kernel
theorem dX3_multiplyMember_11 : decode cX3_multiplyMember 11 = .ok (.aload_n 0, 1) := by decide +kernel
theorem dX3_multiplyMember_12 : decode cX3_multiplyMember 12 = .ok (.getfield 15, 3) := by decide +kernel
theorem dX3_multiplyMember_15 : decode cX3_multiplyMember 15 = .ok (.iload_n 1, 1) := by decide +kernel
theorem dX3_multiplyMember_16 : decode cX3_multiplyMember 16 = .ok (.dup2, 1) := by decide +kernel
theorem dX3_multiplyMember_17 : decode cX3_multiplyMember 17 = .ok (.iaload, 1) := by decide +kernel
theorem dX3_multiplyMember_18 : decode cX3_multiplyMember 18 = .ok (.iload_n 2, 1) := by decide +kernel
theorem dX3_multiplyMember_19 : decode cX3_multiplyMember 19 = .ok (.imul, 1) := by decide +kernel
theorem dX3_multiplyMember_20 : decode cX3_multiplyMember 20 = .ok (.iastore, 1) := by decide +kernel
theorem dX3_multiplyMember_21 : decode cX3_multiplyMember 21 = .ok (.aload_n 0, 1) := by decide +kernel
theorem dX3_multiplyMember_22 : decode cX3_multiplyMember 22 = .ok (.getfield 19, 3) := by decide +kernel
theorem dX3_multiplyMember_25 : decode cX3_multiplyMember 25 = .ok (.iload_n 1, 1) := by decide +kernel
theorem dX3_multiplyMember_26 : decode cX3_multiplyMember 26 = .ok (.dup2, 1) := by decide +kernel
theorem dX3_multiplyMember_27 : decode cX3_multiplyMember 27 = .ok (.iaload, 1) := by decide +kernel
theorem dX3_multiplyMember_28 : decode cX3_multiplyMember 28 = .ok (.iload_n 2, 1) := by decide +kernel
theorem dX3_multiplyMember_29 : decode cX3_multiplyMember 29 = .ok (.imul, 1) := by decide +kernel
theorem dX3_multiplyMember_30 : decode cX3_multiplyMember 30 = .ok (.iastore, 1) := by decide +kernel
theorem dX3_multiplyMember_31 : decode cX3_multiplyMember 31 = .ok (.aload_n 0, 1) := by decide +kernel
theorem dX3_multiplyMember_32 : decode cX3_multiplyMember 32 = .ok (.getfield 22, 3) := by decide +kernel
theorem dX3_multiplyMember_35 : decode cX3_multiplyMember 35 = .ok (.iload_n 1, 1) := by decide +kernel
theorem dX3_multiplyMember_36 : decode cX3_multiplyMember 36 = .ok (.dup2, 1) := by decide +kernel
theorem dX3_multiplyMember_37 : decode cX3_multiplyMember 37 = .ok (.iaload, 1) := by decide +kernel
theorem dX3_multiplyMember_38 : decode cX3_multiplyMember 38 = .ok (.iload_n 2, 1) := by decide +kernel
theorem dX3_multiplyMember_39 : decode cX3_multiplyMember 39 = .ok (.imul, 1) := by decide +kernel
theorem dX3_multiplyMember_40 : decode cX3_multiplyMember 40 = .ok (.iastore, 1) := by decide +kernel
theorem dX3_multiplyMember_41 : decode cX3_multiplyMember 41 = .ok (.aload_n 0, 1) := by decide +kernel
theorem dX3_multiplyMember_42 : decode cX3_multiplyMember 42 = .ok (.getfield 28, 3) := by decide +kernel
theorem dX3_multiplyMember_45 : decode cX3_multiplyMember 45 = .ok (.iload_n 1, 1) := by decide +kernel
theorem dX3_multiplyMember_46 : decode cX3_multiplyMember 46 = .ok (.dup2, 1) := by decide +kernel
theorem dX3_multiplyMember_47 : decode cX3_multiplyMember 47 = .ok (.iaload, 1) := by decide +kernel
theorem dX3_multiplyMember_48 : decode cX3_multiplyMember 48 = .ok (.iload_n 2, 1) := by decide +kernel
theorem dX3_multiplyMember_49 : decode cX3_multiplyMember 49 = .ok (.imul, 1) := by decide +kernel
theorem dX3_multiplyMember_50 : decode cX3_multiplyMember 50 = .ok (.iastore, 1) := by decide +kernel
theorem dX3_multiplyMember_51 : decode cX3_multiplyMember 51 = .ok (.iconst 0, 1) := by decide +kernel
theorem dX3_multiplyMember_52 : decode cX3_multiplyMember 52 = .ok (.istore_n 3, 1) := by decide +kernel
theorem dX3_multiplyMember_53 : decode cX3_multiplyMember 53 = .ok (.iload_n 3, 1) := by decide +kernel
theorem dX3_multiplyMember_54 : decode cX3_multiplyMember 54 = .ok (.aload_n 0, 1) := by decide +kernel
theorem dX3_multiplyMember_55 : decode cX3_multiplyMember 55 = .ok (.getfield 46, 3) := by decide +kernel
theorem dX3_multiplyMember_58 : decode cX3_multiplyMember 58 = .ok (.if_icmp .ge 21, 3) := by decide +kernel
theorem dX3_multiplyMember_61 : decode cX3_multiplyMember 61 = .ok (.aload_n 0, 1) := by decide +kernel
theorem dX3_multiplyMember_62 : decode cX3_multiplyMember 62 = .ok (.getfield 33, 3) := by decide +kernel
theorem dX3_multiplyMember_65 : decode cX3_multiplyMember 65 = .ok (.iload_n 1, 1) := by decide +kernel
theorem dX3_multiplyMember_66 : decode cX3_multiplyMember 66 = .ok (.aaload, 1) := by decide +kernel
theorem dX3_multiplyMember_67 : decode cX3_multiplyMember 67 = .ok (.iload_n 3, 1) := by decide +kernel
theorem dX3_multiplyMember_68 : decode cX3_multiplyMember 68 = .ok (.dup2, 1) := by decide +kernel
theorem dX3_multiplyMember_69 : decode cX3_multiplyMember 69 = .ok (.iaload, 1) := by decide +kernel
theorem dX3_multiplyMember_70 : decode cX3_multiplyMember 70 = .ok (.iload_n 2, 1) := by decide +kernel
theorem dX3_multiplyMember_71 : decode cX3_multiplyMember 71 = .ok (.imul, 1) := by decide +kernel
theorem dX3_multiplyMember_72 : decode cX3_multiplyMember 72 = .ok (.iastore, 1) := by decide +kernel
theorem dX3_multiplyMember_73 : decode cX3_multiplyMember 73 = .ok (.iinc 3 1, 3) := by decide +kernel
theorem dX3_multiplyMember_76 : decode cX3_multiplyMember 76 = .ok (.goto (-23), 3) := by decide +kernel
theorem dX3_multiplyMember_79 : decode cX3_multiplyMember 79 = .ok (.return_, 1) := by decide +kernel
theorem dX3_shortOf_0 : decode cX3_shortOf 0 = .ok (.iconst 0, 1) := by decide +kernel
theorem dX3_shortOf_1 : decode cX3_shortOf 1 = .ok (.aload_n 0, 1) := by decide +kernel
theorem dX3_shortOf_2 : decode cX3_shortOf 2 = .ok (.getfield 28, 3) := by decide +kernel
theorem dX3_shortOf_5 : decode cX3_shortOf 5 = .ok (.iload_n 1, 1) := by decide +kernel
theorem dX3_shortOf_6 : decode cX3_shortOf 6 = .ok (.iaload, 1) := by decide +kernel
theorem dX3_shortOf_7 : decode cX3_shortOf 7 = .ok (.ineg, 1) := by decide +kernel
theorem dX3_shortOf_8 : decode cX3_shortOf 8 = .ok (.invokestatic 49, 3) := by decide +kernel
theorem dX3_shortOf_11 : decode cX3_shortOf 11 = .ok (.ireturn, 1) := by decide +kernel
theorem dX3_takeOff_0 : decode cX3_takeOff 0 = .ok (.iload_n 2, 1) := by decide +kernel
theorem dX3_takeOff_1 : decode cX3_takeOff 1 = .ok (.istore_n 3, 1) := by decide +kernel
theorem dX3_takeOff_2 : decode cX3_takeOff 2 = .ok (.iconst 0, 1) := by decide +kernel
theorem dX3_takeOff_3 : decode cX3_takeOff 3 = .ok (.istore 4, 2) := by decide +kernel
theorem dX3_takeOff_5 : decode cX3_takeOff 5 = .ok (.iload 4, 2) := by decide +kernel
theorem dX3_takeOff_7 : decode cX3_takeOff 7 = .ok (.aload_n 0, 1) := by decide +kernel
theorem dX3_takeOff_8 : decode cX3_takeOff 8 = .ok (.getfield 46, 3) := by decide +kernel
theorem dX3_takeOff_11 : decode cX3_takeOff 11 = .ok (.if_icmp .ge 60, 3) := by decide +kernel
theorem dX3_takeOff_14 : decode cX3_takeOff 14 = .ok (.iload_n 3, 1) := by decide +kernel
theorem dX3_takeOff_15 : decode cX3_takeOff 15 = .ok (.ifCond .le 56, 3) := by decide +kernel
theorem dX3_takeOff_18 : decode cX3_takeOff 18 = .ok (.aload_n 0, 1) := by decide +kernel
theorem dX3_takeOff_19 : decode cX3_takeOff 19 = .ok (.getfield 33, 3) := by decide +kernel
theorem dX3_takeOff_22 : decode cX3_takeOff 22 = .ok (.iload_n 1, 1) := by decide +kernel
theorem dX3_takeOff_23 : decode cX3_takeOff 23 = .ok (.aaload, 1) := by decide +kernel
theorem dX3_takeOff_24 : decode cX3_takeOff 24 = .ok (.iload 4, 2) := by decide +kernel
theorem dX3_takeOff_26 : decode cX3_takeOff 26 = .ok (.iaload, 1) := by decide +kernel
theorem dX3_takeOff_27 : decode cX3_takeOff 27 = .ok (.istore 5, 2) := by decide +kernel
theorem dX3_takeOff_29 : decode cX3_takeOff 29 = .ok (.iload_n 3, 1) := by decide +kernel
theorem dX3_takeOff_30 : decode cX3_takeOff 30 = .ok (.iload 5, 2) := by decide +kernel
theorem dX3_takeOff_32 : decode cX3_takeOff 32 = .ok (.invokestatic 55, 3) := by decide +kernel
theorem dX3_takeOff_35 : decode cX3_takeOff 35 = .ok (.invokestatic 59, 3) := by decide +kernel
theorem dX3_takeOff_38 : decode cX3_takeOff 38 = .ok (.istore 6, 2) := by decide +kernel
theorem dX3_takeOff_40 : decode cX3_takeOff 40 = .ok (.aload_n 0, 1) := by decide +kernel
theorem dX3_takeOff_41 : decode cX3_takeOff 41 = .ok (.iload_n 1, 1) := by decide +kernel
theorem dX3_takeOff_42 : decode cX3_takeOff 42 = .ok (.iload 4, 2) := by decide +kernel
theorem dX3_takeOff_44 : decode cX3_takeOff 44 = .ok (.iload 5, 2) := by decide +kernel
theorem dX3_takeOff_46 : decode cX3_takeOff 46 = .ok (.ifCond .le 9, 3) := by decide +kernel
theorem dX3_takeOff_49 : decode cX3_takeOff 49 = .ok (.iload 6, 2) := by decide +kernel
theorem dX3_takeOff_51 : decode cX3_takeOff 51 = .ok (.ineg, 1) := by decide +kernel
theorem dX3_takeOff_52 : decode cX3_takeOff 52 = .ok (.goto 5, 3) := by decide +kernel
theorem dX3_takeOff_55 : decode cX3_takeOff 55 = .ok (.iload 6, 2) := by decide +kernel
theorem dX3_takeOff_57 : decode cX3_takeOff 57 = .ok (.invokevirtual 62, 3) := by decide +kernel
theorem dX3_takeOff_60 : decode cX3_takeOff 60 = .ok (.iload_n 3, 1) := by decide +kernel
theorem dX3_takeOff_61 : decode cX3_takeOff 61 = .ok (.iload 6, 2) := by decide +kernel
theorem dX3_takeOff_63 : decode cX3_takeOff 63 = .ok (.isub, 1) := by decide +kernel
theorem dX3_takeOff_64 : decode cX3_takeOff 64 = .ok (.istore_n 3, 1) := by decide +kernel
theorem dX3_takeOff_65 : decode cX3_takeOff 65 = .ok (.iinc 4 1, 3) := by decide +kernel
theorem dX3_takeOff_68 : decode cX3_takeOff 68 = .ok (.goto (-63), 3) := by decide +kernel
theorem dX3_takeOff_71 : decode cX3_takeOff 71 = .ok (.return_, 1) := by decide +kernel
theorem dX3_worth_0 : decode cX3_worth 0 = .ok (.iload_n 1, 1) := by decide +kernel
theorem dX3_worth_1 : decode cX3_worth 1 = .ok (.i2l, 1) := by decide +kernel
theorem dX3_worth_2 : decode cX3_worth 2 = .ok (.aload_n 0, 1) := by decide +kernel
theorem dX3_worth_3 : decode cX3_worth 3 = .ok (.getfield 40, 3) := by decide +kernel
theorem dX3_worth_6 : decode cX3_worth 6 = .ok (.i2l, 1) := by decide +kernel
theorem dX3_worth_7 : decode cX3_worth 7 = .ok (.lmul, 1) := by decide +kernel
theorem dX3_worth_8 : decode cX3_worth 8 = .ok (.lreturn, 1) := by decide +kernel
theorem dX4_allot_0 : decode cX4_allot 0 = .ok (.iload_n 2, 1) := by decide +kernel
theorem dX4_allot_1 : decode cX4_allot 1 = .ok (.ifCond .ne 4, 3) := by decide +kernel
theorem dX4_allot_4 : decode cX4_allot 4 = .ok (.return_, 1) := by decide +kernel
theorem dX4_allot_5 : decode cX4_allot 5 = .ok (.aload_n 0, 1) := by decide +kernel
theorem dX4_allot_6 : decode cX4_allot 6 = .ok (.getfield 57, 3) := by decide +kernel
theorem dX4_allot_9 : decode cX4_allot 9 = .ok (.iload_n 1, 1) := by decide +kernel
theorem dX4_allot_10 : decode cX4_allot 10 = .ok (.aaload, 1) := by decide +kernel
theorem dX4_allot_11 : decode cX4_allot 11 = .ok (.astore_n 3, 1) := by decide +kernel
theorem dX4_allot_12 : decode cX4_allot 12 = .ok (.aload_n 0, 1) := by decide +kernel
theorem dX4_allot_13 : decode cX4_allot 13 = .ok (.getfield 141, 3) := by decide +kernel
theorem dX4_allot_16 : decode cX4_allot 16 = .ok (.astore 4, 2) := by decide +kernel
theorem dX4_allot_18 : decode cX4_allot 18 = .ok (.aload 4, 2) := by decide +kernel
theorem dX4_allot_20 : decode cX4_allot 20 = .ok (.aload_n 0, 1) := by decide +kernel
theorem dX4_allot_21 : decode cX4_allot 21 = .ok (.iload_n 1, 1) := by decide +kernel
theorem dX4_allot_22 : decode cX4_allot 22 = .ok (.invokevirtual 145, 3) := by decide +kernel
theorem dX4_allot_25 : decode cX4_allot 25 = .ok (.iload_n 2, 1) := by decide +kernel
theorem dX4_allot_26 : decode cX4_allot 26 = .ok (.istore 5, 2) := by decide +kernel
theorem dX4_allot_28 : decode cX4_allot 28 = .ok (.iconst 0, 1) := by decide +kernel
theorem dX4_allot_29 : decode cX4_allot 29 = .ok (.istore 6, 2) := by decide +kernel
theorem dX4_allot_31 : decode cX4_allot 31 = .ok (.iload 6, 2) := by decide +kernel
theorem dX4_allot_33 : decode cX4_allot 33 = .ok (.aload 4, 2) := by decide +kernel
theorem dX4_allot_35 : decode cX4_allot 35 = .ok (.getfield 150, 3) := by decide +kernel
theorem dX4_allot_38 : decode cX4_allot 38 = .ok (.if_icmp .ge 132, 3) := by decide +kernel
theorem dX4_allot_41 : decode cX4_allot 41 = .ok (.iload 5, 2) := by decide +kernel
theorem dX4_allot_43 : decode cX4_allot 43 = .ok (.ifCond .le 127, 3) := by decide +kernel
theorem dX4_allot_46 : decode cX4_allot 46 = .ok (.aload 4, 2) := by decide +kernel
theorem dX4_allot_48 : decode cX4_allot 48 = .ok (.getfield 152, 3) := by decide +kernel
theorem dX4_allot_51 : decode cX4_allot 51 = .ok (.iload 6, 2) := by decide +kernel
theorem dX4_allot_53 : decode cX4_allot 53 = .ok (.iaload, 1) := by decide +kernel
theorem dX4_allot_54 : decode cX4_allot 54 = .ok (.istore 7, 2) := by decide +kernel
theorem dX4_allot_56 : decode cX4_allot 56 = .ok (.iload 5, 2) := by decide +kernel
theorem dX4_allot_58 : decode cX4_allot 58 = .ok (.aload_n 3, 1) := by decide +kernel
theorem dX4_allot_59 : decode cX4_allot 59 = .ok (.getfield 96, 3) := by decide +kernel
theorem dX4_allot_62 : decode cX4_allot 62 = .ok (.iload 7, 2) := by decide +kernel
theorem dX4_allot_64 : decode cX4_allot 64 = .ok (.aaload, 1) := by decide +kernel
theorem dX4_allot_65 : decode cX4_allot 65 = .ok (.aload 4, 2) := by decide +kernel
theorem dX4_allot_67 : decode cX4_allot 67 = .ok (.getfield 156, 3) := by decide +kernel
theorem dX4_allot_70 : decode cX4_allot 70 = .ok (.iload 6, 2) := by decide +kernel
theorem dX4_allot_72 : decode cX4_allot 72 = .ok (.iaload, 1) := by decide +kernel
theorem dX4_allot_73 : decode cX4_allot 73 = .ok (.iaload, 1) := by decide +kernel
theorem dX4_allot_74 : decode cX4_allot 74 = .ok (.invokestatic 158, 3) := by decide +kernel
theorem dX4_allot_77 : decode cX4_allot 77 = .ok (.istore 8, 2) := by decide +kernel
theorem dX4_allot_79 : decode cX4_allot 79 = .ok (.aload_n 3, 1) := by decide +kernel
theorem dX4_allot_80 : decode cX4_allot 80 = .ok (.getfield 118, 3) := by decide +kernel
theorem dX4_allot_83 : decode cX4_allot 83 = .ok (.iload 7, 2) := by decide +kernel
theorem dX4_allot_85 : decode cX4_allot 85 = .ok (.dup2, 1) := by decide +kernel
theorem dX4_allot_86 : decode cX4_allot 86 = .ok (.laload, 1) := by decide +kernel
theorem dX4_allot_87 : decode cX4_allot 87 = .ok (.iload 8, 2) := by decide +kernel
theorem dX4_allot_89 : decode cX4_allot 89 = .ok (.i2l, 1) := by decide +kernel
theorem dX4_allot_90 : decode cX4_allot 90 = .ok (.ladd, 1) := by decide +kernel
theorem dX4_allot_91 : decode cX4_allot 91 = .ok (.lastore, 1) := by decide +kernel
theorem dX4_allot_92 : decode cX4_allot 92 = .ok (.aload_n 3, 1) := by decide +kernel
theorem dX4_allot_93 : decode cX4_allot 93 = .ok (.getfield 160, 3) := by decide +kernel
theorem dX4_allot_96 : decode cX4_allot 96 = .ok (.iload 7, 2) := by decide +kernel
theorem dX4_allot_98 : decode cX4_allot 98 = .ok (.iconst 0, 1) := by decide +kernel
theorem dX4_allot_99 : decode cX4_allot 99 = .ok (.aload_n 3, 1) := by decide +kernel
theorem dX4_allot_100 : decode cX4_allot 100 = .ok (.getfield 160, 3) := by decide +kernel
theorem dX4_allot_103 : decode cX4_allot 103 = .ok (.iload 7, 2) := by decide +kernel
theorem dX4_allot_105 : decode cX4_allot 105 = .ok (.iaload, 1) := by decide +kernel
theorem dX4_allot_106 : decode cX4_allot 106 = .ok (.iload 8, 2) := by decide +kernel
theorem dX4_allot_108 : decode cX4_allot 108 = .ok (.isub, 1) := by decide +kernel
theorem dX4_allot_109 : decode cX4_allot 109 = .ok (.invokestatic 163, 3) := by decide +kernel
theorem dX4_allot_112 : decode cX4_allot 112 = .ok (.iastore, 1) := by decide +kernel
theorem dX4_allot_113 : decode cX4_allot 113 = .ok (.aload_n 0, 1) := by decide +kernel
theorem dX4_allot_114 : decode cX4_allot 114 = .ok (.getfield 122, 3) := by decide +kernel
theorem dX4_allot_117 : decode cX4_allot 117 = .ok (.iload 7, 2) := by decide +kernel
theorem dX4_allot_119 : decode cX4_allot 119 = .ok (.dup2, 1) := by decide +kernel
theorem dX4_allot_120 : decode cX4_allot 120 = .ok (.laload, 1) := by decide +kernel
theorem dX4_allot_121 : decode cX4_allot 121 = .ok (.aload_n 3, 1) := by decide +kernel
theorem dX4_allot_122 : decode cX4_allot 122 = .ok (.iload 8, 2) := by decide +kernel
theorem dX4_allot_124 : decode cX4_allot 124 = .ok (.invokevirtual 125, 3) := by decide +kernel
theorem dX4_allot_127 : decode cX4_allot 127 = .ok (.lsub, 1) := by decide +kernel
theorem dX4_allot_128 : decode cX4_allot 128 = .ok (.lastore, 1) := by decide +kernel
theorem dX4_allot_129 : decode cX4_allot 129 = .ok (.aload_n 3, 1) := by decide +kernel
theorem dX4_allot_130 : decode cX4_allot 130 = .ok (.iload 7, 2) := by decide +kernel
theorem dX4_allot_132 : decode cX4_allot 132 = .ok (.aload 4, 2) := by decide +kernel
theorem dX4_allot_134 : decode cX4_allot 134 = .ok (.getfield 156, 3) := by decide +kernel
theorem dX4_allot_137 : decode cX4_allot 137 = .ok (.iload 6, 2) := by decide +kernel
theorem dX4_allot_139 : decode cX4_allot 139 = .ok (.iaload, 1) := by decide +kernel
theorem dX4_allot_140 : decode cX4_allot 140 = .ok (.iload 8, 2) := by decide +kernel
theorem dX4_allot_142 : decode cX4_allot 142 = .ok (.ineg, 1) := by decide +kernel
theorem dX4_allot_143 : decode cX4_allot 143 = .ok (.invokevirtual 166, 3) := by decide +kernel
theorem dX4_allot_146 : decode cX4_allot 146 = .ok (.aload_n 0, 1) := by decide +kernel
theorem dX4_allot_147 : decode cX4_allot 147 = .ok (.iconst 1, 1) := by decide +kernel
theorem dX4_allot_148 : decode cX4_allot 148 = .ok (.iload_n 1, 1) := by decide +kernel
theorem dX4_allot_149 : decode cX4_allot 149 = .ok (.iconst (-1), 1) := by decide +kernel
theorem dX4_allot_150 : decode cX4_allot 150 = .ok (.iload 7, 2) := by decide +kernel
theorem dX4_allot_152 : decode cX4_allot 152 = .ok (.iload 8, 2) := by decide +kernel
theorem dX4_allot_154 : decode cX4_allot 154 = .ok (.invokevirtual 133, 3) := by decide +kernel
theorem dX4_allot_157 : decode cX4_allot 157 = .ok (.iload 5, 2) := by decide +kernel
theorem dX4_allot_159 : decode cX4_allot 159 = .ok (.iload 8, 2) := by decide +kernel
theorem dX4_allot_161 : decode cX4_allot 161 = .ok (.isub, 1) := by decide +kernel
theorem dX4_allot_162 : decode cX4_allot 162 = .ok (.istore 5, 2) := by decide +kernel
theorem dX4_allot_164 : decode cX4_allot 164 = .ok (.iinc 6 1, 3) := by decide +kernel
theorem dX4_allot_167 : decode cX4_allot 167 = .ok (.goto (-136), 3) := by decide +kernel
theorem dX4_allot_170 : decode cX4_allot 170 = .ok (.return_, 1) := by decide +kernel
theorem dX4_bestLender_0 : decode cX4_bestLender 0 = .ok (.iconst (-1), 1) := by decide +kernel
theorem dX4_bestLender_1 : decode cX4_bestLender 1 = .ok (.istore_n 3, 1) := by decide +kernel
theorem dX4_bestLender_2 : decode cX4_bestLender 2 = .ok (.iconst 0, 1) := by decide +kernel
theorem dX4_bestLender_3 : decode cX4_bestLender 3 = .ok (.istore 4, 2) := by decide +kernel
theorem dX4_bestLender_5 : decode cX4_bestLender 5 = .ok (.iconst 0, 1) := by decide +kernel
theorem dX4_bestLender_6 : decode cX4_bestLender 6 = .ok (.istore 5, 2) := by decide +kernel
theorem dX4_bestLender_8 : decode cX4_bestLender 8 = .ok (.iload 5, 2) := by decide +kernel
theorem dX4_bestLender_10 : decode cX4_bestLender 10 = .ok (.aload_n 0, 1) := by decide +kernel
theorem dX4_bestLender_11 : decode cX4_bestLender 11 = .ok (.invokevirtual 93, 3) := by decide +kernel
theorem dX4_bestLender_14 : decode cX4_bestLender 14 = .ok (.if_icmp .ge 42, 3) := by decide +kernel
theorem dX4_bestLender_17 : decode cX4_bestLender 17 = .ok (.iload 5, 2) := by decide +kernel
theorem dX4_bestLender_19 : decode cX4_bestLender 19 = .ok (.iload_n 2, 1) := by decide +kernel
theorem dX4_bestLender_20 : decode cX4_bestLender 20 = .ok (.if_icmp .ne 7, 3) := by decide +kernel
theorem dX4_bestLender_23 : decode cX4_bestLender 23 = .ok (.iconst 0, 1) := by decide +kernel
theorem dX4_bestLender_24 : decode cX4_bestLender 24 = .ok (.goto 10, 3) := by decide +kernel
theorem dX4_bestLender_27 : decode cX4_bestLender 27 = .ok (.aload_n 0, 1) := by decide +kernel
theorem dX4_bestLender_28 : decode cX4_bestLender 28 = .ok (.iload_n 1, 1) := by decide +kernel
theorem dX4_bestLender_29 : decode cX4_bestLender 29 = .ok (.iload 5, 2) := by decide +kernel
theorem dX4_bestLender_31 : decode cX4_bestLender 31 = .ok (.invokevirtual 178, 3) := by decide +kernel
theorem dX4_bestLender_34 : decode cX4_bestLender 34 = .ok (.istore 6, 2) := by decide +kernel
theorem dX4_bestLender_36 : decode cX4_bestLender 36 = .ok (.iload 6, 2) := by decide +kernel
theorem dX4_bestLender_38 : decode cX4_bestLender 38 = .ok (.iload 4, 2) := by decide +kernel
theorem dX4_bestLender_40 : decode cX4_bestLender 40 = .ok (.if_icmp .le 10, 3) := by decide +kernel
theorem dX4_bestLender_43 : decode cX4_bestLender 43 = .ok (.iload 6, 2) := by decide +kernel
theorem dX4_bestLender_45 : decode cX4_bestLender 45 = .ok (.istore 4, 2) := by decide +kernel
theorem dX4_bestLender_47 : decode cX4_bestLender 47 = .ok (.iload 5, 2) := by decide +kernel
theorem dX4_bestLender_49 : decode cX4_bestLender 49 = .ok (.istore_n 3, 1) := by decide +kernel
theorem dX4_bestLender_50 : decode cX4_bestLender 50 = .ok (.iinc 5 1, 3) := by decide +kernel
theorem dX4_bestLender_53 : decode cX4_bestLender 53 = .ok (.goto (-45), 3) := by decide +kernel
theorem dX4_bestLender_56 : decode cX4_bestLender 56 = .ok (.iload_n 3, 1) := by decide +kernel
theorem dX4_bestLender_57 : decode cX4_bestLender 57 = .ok (.ireturn, 1) := by decide +kernel
theorem dX4_countFails_0 : decode cX4_countFails 0 = .ok (.aload_n 0, 1) := by decide +kernel
theorem dX4_countFails_1 : decode cX4_countFails 1 = .ok (.getfield 57, 3) := by decide +kernel
theorem dX4_countFails_4 : decode cX4_countFails 4 = .ok (.iload_n 1, 1) := by decide +kernel
theorem dX4_countFails_5 : decode cX4_countFails 5 = .ok (.aaload, 1) := by decide +kernel
theorem dX4_countFails_6 : decode cX4_countFails 6 = .ok (.astore_n 2, 1) := by decide +kernel
theorem dX4_countFails_7 : decode cX4_countFails 7 = .ok (.iconst 0, 1) := by decide +kernel
theorem dX4_countFails_8 : decode cX4_countFails 8 = .ok (.istore_n 3, 1) := by decide +kernel
theorem dX4_countFails_9 : decode cX4_countFails 9 = .ok (.iload_n 3, 1) := by decide +kernel
theorem dX4_countFails_10 : decode cX4_countFails 10 = .ok (.aload_n 0, 1) := by decide +kernel
theorem dX4_countFails_11 : decode cX4_countFails 11 = .ok (.invokevirtual 93, 3) := by decide +kernel
theorem dX4_countFails_14 : decode cX4_countFails 14 = .ok (.if_icmp .ge 74, 3) := by decide +kernel
theorem dX4_countFails_17 : decode cX4_countFails 17 = .ok (.aload_n 2, 1) := by decide +kernel
theorem dX4_countFails_18 : decode cX4_countFails 18 = .ok (.iload_n 3, 1) := by decide +kernel
theorem dX4_countFails_19 : decode cX4_countFails 19 = .ok (.invokevirtual 104, 3) := by decide +kernel
theorem dX4_countFails_22 : decode cX4_countFails 22 = .ok (.istore 4, 2) := by decide +kernel
theorem dX4_countFails_24 : decode cX4_countFails 24 = .ok (.iload 4, 2) := by decide +kernel
theorem dX4_countFails_26 : decode cX4_countFails 26 = .ok (.ifCond .le 56, 3) := by decide +kernel
theorem dX4_countFails_29 : decode cX4_countFails 29 = .ok (.aload_n 2, 1) := by decide +kernel
theorem dX4_countFails_30 : decode cX4_countFails 30 = .ok (.iload 4, 2) := by decide +kernel
theorem dX4_countFails_32 : decode cX4_countFails 32 = .ok (.invokevirtual 125, 3) := by decide +kernel
theorem dX4_countFails_35 : decode cX4_countFails 35 = .ok (.aload_n 0, 1) := by decide +kernel
theorem dX4_countFails_36 : decode cX4_countFails 36 = .ok (.getfield 169, 3) := by decide +kernel
theorem dX4_countFails_39 : decode cX4_countFails 39 = .ok (.bipush 6, 2) := by decide +kernel
theorem dX4_countFails_41 : decode cX4_countFails 41 = .ok (.iaload, 1) := by decide +kernel
theorem dX4_countFails_42 : decode cX4_countFails 42 = .ok (.i2l, 1) := by decide +kernel
theorem dX4_countFails_43 : decode cX4_countFails 43 = .ok (.lmul, 1) := by decide +kernel
theorem dX4_countFails_44 : decode cX4_countFails 44 = .ok (.ldc2_w 194, 3) := by decide +kernel
theorem dX4_countFails_47 : decode cX4_countFails 47 = .ok (.ldiv, 1) := by decide +kernel
theorem dX4_countFails_48 : decode cX4_countFails 48 = .ok (.lstore 5, 2) := by decide +kernel
theorem dX4_countFails_50 : decode cX4_countFails 50 = .ok (.aload_n 2, 1) := by decide +kernel
theorem dX4_countFails_51 : decode cX4_countFails 51 = .ok (.getfield 196, 3) := by decide +kernel
theorem dX4_countFails_54 : decode cX4_countFails 54 = .ok (.iload_n 3, 1) := by decide +kernel
theorem dX4_countFails_55 : decode cX4_countFails 55 = .ok (.dup2, 1) := by decide +kernel
theorem dX4_countFails_56 : decode cX4_countFails 56 = .ok (.iaload, 1) := by decide +kernel
theorem dX4_countFails_57 : decode cX4_countFails 57 = .ok (.iconst 1, 1) := by decide +kernel
theorem dX4_countFails_58 : decode cX4_countFails 58 = .ok (.iadd, 1) := by decide +kernel
theorem dX4_countFails_59 : decode cX4_countFails 59 = .ok (.iastore, 1) := by decide +kernel
theorem dX4_countFails_60 : decode cX4_countFails 60 = .ok (.aload_n 0, 1) := by decide +kernel
theorem dX4_countFails_61 : decode cX4_countFails 61 = .ok (.getfield 122, 3) := by decide +kernel
theorem dX4_countFails_64 : decode cX4_countFails 64 = .ok (.iload_n 3, 1) := by decide +kernel
theorem dX4_countFails_65 : decode cX4_countFails 65 = .ok (.dup2, 1) := by decide +kernel
theorem dX4_countFails_66 : decode cX4_countFails 66 = .ok (.laload, 1) := by decide +kernel
theorem dX4_countFails_67 : decode cX4_countFails 67 = .ok (.lload 5, 2) := by decide +kernel
theorem dX4_countFails_69 : decode cX4_countFails 69 = .ok (.lsub, 1) := by decide +kernel
theorem dX4_countFails_70 : decode cX4_countFails 70 = .ok (.lastore, 1) := by decide +kernel
theorem dX4_countFails_71 : decode cX4_countFails 71 = .ok (.aload_n 0, 1) := by decide +kernel
theorem dX4_countFails_72 : decode cX4_countFails 72 = .ok (.dup, 1) := by decide +kernel
theorem dX4_countFails_73 : decode cX4_countFails 73 = .ok (.getfield 190, 3) := by decide +kernel
theorem dX4_countFails_76 : decode cX4_countFails 76 = .ok (.lload 5, 2) := by decide +kernel
theorem dX4_countFails_78 : decode cX4_countFails 78 = .ok (.ladd, 1) := by decide +kernel
theorem dX4_countFails_79 : decode cX4_countFails 79 = .ok (.putfield 190, 3) := by decide +kernel
theorem dX4_countFails_82 : decode cX4_countFails 82 = .ok (.iinc 3 1, 3) := by decide +kernel
theorem dX4_countFails_85 : decode cX4_countFails 85 = .ok (.goto (-76), 3) := by decide +kernel
theorem dX4_countFails_88 : decode cX4_countFails 88 = .ok (.return_, 1) := by decide +kernel
theorem dX4_deliver_0 : decode cX4_deliver 0 = .ok (.aload_n 0, 1) := by decide +kernel
theorem dX4_deliver_1 : decode cX4_deliver 1 = .ok (.getfield 57, 3) := by decide +kernel
theorem dX4_deliver_4 : decode cX4_deliver 4 = .ok (.iload_n 1, 1) := by decide +kernel
theorem dX4_deliver_5 : decode cX4_deliver 5 = .ok (.aaload, 1) := by decide +kernel
theorem dX4_deliver_6 : decode cX4_deliver 6 = .ok (.astore_n 3, 1) := by decide +kernel
theorem dX4_deliver_7 : decode cX4_deliver 7 = .ok (.aload_n 3, 1) := by decide +kernel
theorem dX4_deliver_8 : decode cX4_deliver 8 = .ok (.iload_n 2, 1) := by decide +kernel
theorem dX4_deliver_9 : decode cX4_deliver 9 = .ok (.invokevirtual 104, 3) := by decide +kernel
theorem dX4_deliver_12 : decode cX4_deliver 12 = .ok (.i2l, 1) := by decide +kernel
theorem dX4_deliver_13 : decode cX4_deliver 13 = .ok (.aload_n 0, 1) := by decide +kernel
theorem dX4_deliver_14 : decode cX4_deliver 14 = .ok (.iload_n 1, 1) := by decide +kernel
theorem dX4_deliver_15 : decode cX4_deliver 15 = .ok (.iload_n 2, 1) := by decide +kernel
theorem dX4_deliver_16 : decode cX4_deliver 16 = .ok (.invokevirtual 108, 3) := by decide +kernel
theorem dX4_deliver_19 : decode cX4_deliver 19 = .ok (.invokestatic 112, 3) := by decide +kernel
theorem dX4_deliver_22 : decode cX4_deliver 22 = .ok (.l2i, 1) := by decide +kernel
theorem dX4_deliver_23 : decode cX4_deliver 23 = .ok (.istore 4, 2) := by decide +kernel
theorem dX4_deliver_25 : decode cX4_deliver 25 = .ok (.iload 4, 2) := by decide +kernel
theorem dX4_deliver_27 : decode cX4_deliver 27 = .ok (.ifCond .ne 5, 3) := by decide +kernel
theorem dX4_deliver_30 : decode cX4_deliver 30 = .ok (.iconst 0, 1) := by decide +kernel
theorem dX4_deliver_31 : decode cX4_deliver 31 = .ok (.ireturn, 1) := by decide +kernel
theorem dX4_deliver_32 : decode cX4_deliver 32 = .ok (.aload_n 3, 1) := by decide +kernel
theorem dX4_deliver_33 : decode cX4_deliver 33 = .ok (.getfield 118, 3) := by decide +kernel
theorem dX4_deliver_36 : decode cX4_deliver 36 = .ok (.iload_n 2, 1) := by decide +kernel
theorem dX4_deliver_37 : decode cX4_deliver 37 = .ok (.dup2, 1) := by decide +kernel
theorem dX4_deliver_38 : decode cX4_deliver 38 = .ok (.laload, 1) := by decide +kernel
theorem dX4_deliver_39 : decode cX4_deliver 39 = .ok (.iload 4, 2) := by decide +kernel
theorem dX4_deliver_41 : decode cX4_deliver 41 = .ok (.i2l, 1) := by decide +kernel
theorem dX4_deliver_42 : decode cX4_deliver 42 = .ok (.lsub, 1) := by decide +kernel
theorem dX4_deliver_43 : decode cX4_deliver 43 = .ok (.lastore, 1) := by decide +kernel
theorem dX4_deliver_44 : decode cX4_deliver 44 = .ok (.aload_n 0, 1) := by decide +kernel
theorem dX4_deliver_45 : decode cX4_deliver 45 = .ok (.getfield 122, 3) := by decide +kernel
theorem dX4_deliver_48 : decode cX4_deliver 48 = .ok (.iload_n 2, 1) := by decide +kernel
theorem dX4_deliver_49 : decode cX4_deliver 49 = .ok (.dup2, 1) := by decide +kernel
theorem dX4_deliver_50 : decode cX4_deliver 50 = .ok (.laload, 1) := by decide +kernel
theorem dX4_deliver_51 : decode cX4_deliver 51 = .ok (.aload_n 3, 1) := by decide +kernel
theorem dX4_deliver_52 : decode cX4_deliver 52 = .ok (.iload 4, 2) := by decide +kernel
theorem dX4_deliver_54 : decode cX4_deliver 54 = .ok (.invokevirtual 125, 3) := by decide +kernel
theorem dX4_deliver_57 : decode cX4_deliver 57 = .ok (.ladd, 1) := by decide +kernel
theorem dX4_deliver_58 : decode cX4_deliver 58 = .ok (.lastore, 1) := by decide +kernel
theorem dX4_deliver_59 : decode cX4_deliver 59 = .ok (.aload_n 3, 1) := by decide +kernel
theorem dX4_deliver_60 : decode cX4_deliver 60 = .ok (.iload_n 2, 1) := by decide +kernel
theorem dX4_deliver_61 : decode cX4_deliver 61 = .ok (.iload 4, 2) := by decide +kernel
theorem dX4_deliver_63 : decode cX4_deliver 63 = .ok (.invokevirtual 129, 3) := by decide +kernel
theorem dX4_deliver_66 : decode cX4_deliver 66 = .ok (.aload_n 0, 1) := by decide +kernel
theorem dX4_deliver_67 : decode cX4_deliver 67 = .ok (.iconst 0, 1) := by decide +kernel
theorem dX4_deliver_68 : decode cX4_deliver 68 = .ok (.iload_n 1, 1) := by decide +kernel
theorem dX4_deliver_69 : decode cX4_deliver 69 = .ok (.iload_n 2, 1) := by decide +kernel
theorem dX4_deliver_70 : decode cX4_deliver 70 = .ok (.iconst (-1), 1) := by decide +kernel
theorem dX4_deliver_71 : decode cX4_deliver 71 = .ok (.iload 4, 2) := by decide +kernel
theorem dX4_deliver_73 : decode cX4_deliver 73 = .ok (.invokevirtual 133, 3) := by decide +kernel
theorem dX4_deliver_76 : decode cX4_deliver 76 = .ok (.aload_n 0, 1) := by decide +kernel
theorem dX4_deliver_77 : decode cX4_deliver 77 = .ok (.iload_n 1, 1) := by decide +kernel
theorem dX4_deliver_78 : decode cX4_deliver 78 = .ok (.iload_n 2, 1) := by decide +kernel
theorem dX4_deliver_79 : decode cX4_deliver 79 = .ok (.iload 4, 2) := by decide +kernel
theorem dX4_deliver_81 : decode cX4_deliver 81 = .ok (.invokestatic 137, 3) := by decide +kernel
theorem dX4_deliver_84 : decode cX4_deliver 84 = .ok (.iload 4, 2) := by decide +kernel
theorem dX4_deliver_86 : decode cX4_deliver 86 = .ok (.ireturn, 1) := by decide +kernel
theorem dX4_deliverAll_0 : decode cX4_deliverAll 0 = .ok (.aload_n 0, 1) := by decide +kernel
theorem dX4_deliverAll_1 : decode cX4_deliverAll 1 = .ok (.getfield 57, 3) := by decide +kernel
theorem dX4_deliverAll_4 : decode cX4_deliverAll 4 = .ok (.iload_n 1, 1) := by decide +kernel
theorem dX4_deliverAll_5 : decode cX4_deliverAll 5 = .ok (.aaload, 1) := by decide +kernel
theorem dX4_deliverAll_6 : decode cX4_deliverAll 6 = .ok (.astore_n 2, 1) := by decide +kernel
theorem dX4_deliverAll_7 : decode cX4_deliverAll 7 = .ok (.iconst 0, 1) := by decide +kernel
theorem dX4_deliverAll_8 : decode cX4_deliverAll 8 = .ok (.istore_n 3, 1) := by decide +kernel
theorem dX4_deliverAll_9 : decode cX4_deliverAll 9 = .ok (.iconst 0, 1) := by decide +kernel
theorem dX4_deliverAll_10 : decode cX4_deliverAll 10 = .ok (.istore 4, 2) := by decide +kernel
theorem dX4_deliverAll_12 : decode cX4_deliverAll 12 = .ok (.iload 4, 2) := by decide +kernel
theorem dX4_deliverAll_14 : decode cX4_deliverAll 14 = .ok (.aload_n 2, 1) := by decide +kernel
theorem dX4_deliverAll_15 : decode cX4_deliverAll 15 = .ok (.getfield 90, 3) := by decide +kernel
theorem dX4_deliverAll_18 : decode cX4_deliverAll 18 = .ok (.if_icmp .ge 50, 3) := by decide +kernel
theorem dX4_deliverAll_21 : decode cX4_deliverAll 21 = .ok (.iconst 0, 1) := by decide +kernel
theorem dX4_deliverAll_22 : decode cX4_deliverAll 22 = .ok (.istore 5, 2) := by decide +kernel
theorem dX4_deliverAll_24 : decode cX4_deliverAll 24 = .ok (.iload 5, 2) := by decide +kernel
theorem dX4_deliverAll_26 : decode cX4_deliverAll 26 = .ok (.aload_n 0, 1) := by decide +kernel
theorem dX4_deliverAll_27 : decode cX4_deliverAll 27 = .ok (.invokevirtual 93, 3) := by decide +kernel
theorem dX4_deliverAll_30 : decode cX4_deliverAll 30 = .ok (.if_icmp .ge 32, 3) := by decide +kernel
theorem dX4_deliverAll_33 : decode cX4_deliverAll 33 = .ok (.aload_n 2, 1) := by decide +kernel
theorem dX4_deliverAll_34 : decode cX4_deliverAll 34 = .ok (.getfield 96, 3) := by decide +kernel
theorem dX4_deliverAll_37 : decode cX4_deliverAll 37 = .ok (.iload 5, 2) := by decide +kernel
theorem dX4_deliverAll_39 : decode cX4_deliverAll 39 = .ok (.aaload, 1) := by decide +kernel
theorem dX4_deliverAll_40 : decode cX4_deliverAll 40 = .ok (.iload 4, 2) := by decide +kernel
theorem dX4_deliverAll_42 : decode cX4_deliverAll 42 = .ok (.iaload, 1) := by decide +kernel
theorem dX4_deliverAll_43 : decode cX4_deliverAll 43 = .ok (.ifCond .ge 13, 3) := by decide +kernel
theorem dX4_deliverAll_46 : decode cX4_deliverAll 46 = .ok (.iload_n 3, 1) := by decide +kernel
theorem dX4_deliverAll_47 : decode cX4_deliverAll 47 = .ok (.aload_n 0, 1) := by decide +kernel
theorem dX4_deliverAll_48 : decode cX4_deliverAll 48 = .ok (.iload_n 1, 1) := by decide +kernel
theorem dX4_deliverAll_49 : decode cX4_deliverAll 49 = .ok (.iload 5, 2) := by decide +kernel
theorem dX4_deliverAll_51 : decode cX4_deliverAll 51 = .ok (.invokestatic 100, 3) := by decide +kernel
theorem dX4_deliverAll_54 : decode cX4_deliverAll 54 = .ok (.iadd, 1) := by decide +kernel
theorem dX4_deliverAll_55 : decode cX4_deliverAll 55 = .ok (.istore_n 3, 1) := by decide +kernel
theorem dX4_deliverAll_56 : decode cX4_deliverAll 56 = .ok (.iinc 5 1, 3) := by decide +kernel
theorem dX4_deliverAll_59 : decode cX4_deliverAll 59 = .ok (.goto (-35), 3) := by decide +kernel
theorem dX4_deliverAll_62 : decode cX4_deliverAll 62 = .ok (.iinc 4 1, 3) := by decide +kernel
theorem dX4_deliverAll_65 : decode cX4_deliverAll 65 = .ok (.goto (-53), 3) := by decide +kernel
theorem dX4_deliverAll_68 : decode cX4_deliverAll 68 = .ok (.iload_n 3, 1) := by decide +kernel
theorem dX4_deliverAll_69 : decode cX4_deliverAll 69 = .ok (.ireturn, 1) := by decide +kernel
theorem dX4_lendTo_0 : decode cX4_lendTo 0 = .ok (.aload_n 0, 1) := by decide +kernel
theorem dX4_lendTo_1 : decode cX4_lendTo 1 = .ok (.getfield 57, 3) := by decide +kernel
theorem dX4_lendTo_4 : decode cX4_lendTo 4 = .ok (.iload_n 1, 1) := by decide +kernel
theorem dX4_lendTo_5 : decode cX4_lendTo 5 = .ok (.aaload, 1) := by decide +kernel
theorem dX4_lendTo_6 : decode cX4_lendTo 6 = .ok (.astore 4, 2) := by decide +kernel
theorem dX4_lendTo_8 : decode cX4_lendTo 8 = .ok (.iconst 0, 1) := by decide +kernel
theorem dX4_lendTo_9 : decode cX4_lendTo 9 = .ok (.istore 5, 2) := by decide +kernel
theorem dX4_lendTo_11 : decode cX4_lendTo 11 = .ok (.iload 5, 2) := by decide +kernel
theorem dX4_lendTo_13 : decode cX4_lendTo 13 = .ok (.aload_n 0, 1) := by decide +kernel
theorem dX4_lendTo_14 : decode cX4_lendTo 14 = .ok (.invokevirtual 93, 3) := by decide +kernel
theorem dX4_lendTo_17 : decode cX4_lendTo 17 = .ok (.if_icmp .ge 145, 3) := by decide +kernel
theorem dX4_lendTo_20 : decode cX4_lendTo 20 = .ok (.aload 4, 2) := by decide +kernel
theorem dX4_lendTo_22 : decode cX4_lendTo 22 = .ok (.getfield 96, 3) := by decide +kernel
theorem dX4_lendTo_25 : decode cX4_lendTo 25 = .ok (.iload_n 2, 1) := by decide +kernel
theorem dX4_lendTo_26 : decode cX4_lendTo 26 = .ok (.aaload, 1) := by decide +kernel
theorem dX4_lendTo_27 : decode cX4_lendTo 27 = .ok (.iload_n 3, 1) := by decide +kernel
theorem dX4_lendTo_28 : decode cX4_lendTo 28 = .ok (.iaload, 1) := by decide +kernel
theorem dX4_lendTo_29 : decode cX4_lendTo 29 = .ok (.ifCond .le 133, 3) := by decide +kernel
theorem dX4_lendTo_32 : decode cX4_lendTo 32 = .ok (.aload_n 0, 1) := by decide +kernel
theorem dX4_lendTo_33 : decode cX4_lendTo 33 = .ok (.iload_n 1, 1) := by decide +kernel
theorem dX4_lendTo_34 : decode cX4_lendTo 34 = .ok (.iload_n 2, 1) := by decide +kernel
theorem dX4_lendTo_35 : decode cX4_lendTo 35 = .ok (.invokestatic 175, 3) := by decide +kernel
theorem dX4_lendTo_38 : decode cX4_lendTo 38 = .ok (.istore 6, 2) := by decide +kernel
theorem dX4_lendTo_40 : decode cX4_lendTo 40 = .ok (.iload 6, 2) := by decide +kernel
theorem dX4_lendTo_42 : decode cX4_lendTo 42 = .ok (.iconst (-1), 1) := by decide +kernel
theorem dX4_lendTo_43 : decode cX4_lendTo 43 = .ok (.if_icmp .ne 4, 3) := by decide +kernel
theorem dX4_lendTo_46 : decode cX4_lendTo 46 = .ok (.return_, 1) := by decide +kernel
theorem dX4_lendTo_47 : decode cX4_lendTo 47 = .ok (.aload 4, 2) := by decide +kernel
theorem dX4_lendTo_49 : decode cX4_lendTo 49 = .ok (.getfield 96, 3) := by decide +kernel
theorem dX4_lendTo_52 : decode cX4_lendTo 52 = .ok (.iload_n 2, 1) := by decide +kernel
theorem dX4_lendTo_53 : decode cX4_lendTo 53 = .ok (.aaload, 1) := by decide +kernel
theorem dX4_lendTo_54 : decode cX4_lendTo 54 = .ok (.iload_n 3, 1) := by decide +kernel
theorem dX4_lendTo_55 : decode cX4_lendTo 55 = .ok (.iaload, 1) := by decide +kernel
theorem dX4_lendTo_56 : decode cX4_lendTo 56 = .ok (.aload_n 0, 1) := by decide +kernel
theorem dX4_lendTo_57 : decode cX4_lendTo 57 = .ok (.iload_n 1, 1) := by decide +kernel
theorem dX4_lendTo_58 : decode cX4_lendTo 58 = .ok (.iload 6, 2) := by decide +kernel
theorem dX4_lendTo_60 : decode cX4_lendTo 60 = .ok (.invokevirtual 178, 3) := by decide +kernel
theorem dX4_lendTo_63 : decode cX4_lendTo 63 = .ok (.invokestatic 158, 3) := by decide +kernel
theorem dX4_lendTo_66 : decode cX4_lendTo 66 = .ok (.istore 7, 2) := by decide +kernel
theorem dX4_lendTo_68 : decode cX4_lendTo 68 = .ok (.aload 4, 2) := by decide +kernel
theorem dX4_lendTo_70 : decode cX4_lendTo 70 = .ok (.getfield 118, 3) := by decide +kernel
theorem dX4_lendTo_73 : decode cX4_lendTo 73 = .ok (.iload 6, 2) := by decide +kernel
theorem dX4_lendTo_75 : decode cX4_lendTo 75 = .ok (.dup2, 1) := by decide +kernel
theorem dX4_lendTo_76 : decode cX4_lendTo 76 = .ok (.laload, 1) := by decide +kernel
theorem dX4_lendTo_77 : decode cX4_lendTo 77 = .ok (.iload 7, 2) := by decide +kernel
theorem dX4_lendTo_79 : decode cX4_lendTo 79 = .ok (.i2l, 1) := by decide +kernel
theorem dX4_lendTo_80 : decode cX4_lendTo 80 = .ok (.lsub, 1) := by decide +kernel
theorem dX4_lendTo_81 : decode cX4_lendTo 81 = .ok (.lastore, 1) := by decide +kernel
theorem dX4_lendTo_82 : decode cX4_lendTo 82 = .ok (.aload 4, 2) := by decide +kernel
theorem dX4_lendTo_84 : decode cX4_lendTo 84 = .ok (.getfield 160, 3) := by decide +kernel
theorem dX4_lendTo_87 : decode cX4_lendTo 87 = .ok (.iload 6, 2) := by decide +kernel
theorem dX4_lendTo_89 : decode cX4_lendTo 89 = .ok (.dup2, 1) := by decide +kernel
theorem dX4_lendTo_90 : decode cX4_lendTo 90 = .ok (.iaload, 1) := by decide +kernel
theorem dX4_lendTo_91 : decode cX4_lendTo 91 = .ok (.iload 7, 2) := by decide +kernel
theorem dX4_lendTo_93 : decode cX4_lendTo 93 = .ok (.iadd, 1) := by decide +kernel
theorem dX4_lendTo_94 : decode cX4_lendTo 94 = .ok (.iastore, 1) := by decide +kernel
theorem dX4_lendTo_95 : decode cX4_lendTo 95 = .ok (.aload 4, 2) := by decide +kernel
theorem dX4_lendTo_97 : decode cX4_lendTo 97 = .ok (.iload 6, 2) := by decide +kernel
theorem dX4_lendTo_99 : decode cX4_lendTo 99 = .ok (.iload 7, 2) := by decide +kernel
theorem dX4_lendTo_101 : decode cX4_lendTo 101 = .ok (.aload_n 0, 1) := by decide +kernel
theorem dX4_lendTo_102 : decode cX4_lendTo 102 = .ok (.getfield 13, 3) := by decide +kernel
theorem dX4_lendTo_105 : decode cX4_lendTo 105 = .ok (.invokevirtual 83, 3) := by decide +kernel
theorem dX4_lendTo_108 : decode cX4_lendTo 108 = .ok (.aload 4, 2) := by decide +kernel
theorem dX4_lendTo_110 : decode cX4_lendTo 110 = .ok (.getfield 118, 3) := by decide +kernel
theorem dX4_lendTo_113 : decode cX4_lendTo 113 = .ok (.iload_n 2, 1) := by decide +kernel
theorem dX4_lendTo_114 : decode cX4_lendTo 114 = .ok (.dup2, 1) := by decide +kernel
theorem dX4_lendTo_115 : decode cX4_lendTo 115 = .ok (.laload, 1) := by decide +kernel
theorem dX4_lendTo_116 : decode cX4_lendTo 116 = .ok (.iload 7, 2) := by decide +kernel
theorem dX4_lendTo_118 : decode cX4_lendTo 118 = .ok (.i2l, 1) := by decide +kernel
theorem dX4_lendTo_119 : decode cX4_lendTo 119 = .ok (.ladd, 1) := by decide +kernel
theorem dX4_lendTo_120 : decode cX4_lendTo 120 = .ok (.lastore, 1) := by decide +kernel
theorem dX4_lendTo_121 : decode cX4_lendTo 121 = .ok (.aload 4, 2) := by decide +kernel
theorem dX4_lendTo_123 : decode cX4_lendTo 123 = .ok (.iload_n 2, 1) := by decide +kernel
theorem dX4_lendTo_124 : decode cX4_lendTo 124 = .ok (.iload_n 3, 1) := by decide +kernel
theorem dX4_lendTo_125 : decode cX4_lendTo 125 = .ok (.iload 7, 2) := by decide +kernel
theorem dX4_lendTo_127 : decode cX4_lendTo 127 = .ok (.ineg, 1) := by decide +kernel
theorem dX4_lendTo_128 : decode cX4_lendTo 128 = .ok (.invokevirtual 166, 3) := by decide +kernel
theorem dX4_lendTo_131 : decode cX4_lendTo 131 = .ok (.aload_n 0, 1) := by decide +kernel
theorem dX4_lendTo_132 : decode cX4_lendTo 132 = .ok (.iload_n 2, 1) := by decide +kernel
theorem dX4_lendTo_133 : decode cX4_lendTo 133 = .ok (.iload 6, 2) := by decide +kernel
theorem dX4_lendTo_135 : decode cX4_lendTo 135 = .ok (.aload 4, 2) := by decide +kernel
theorem dX4_lendTo_137 : decode cX4_lendTo 137 = .ok (.iload 7, 2) := by decide +kernel
theorem dX4_lendTo_139 : decode cX4_lendTo 139 = .ok (.invokevirtual 125, 3) := by decide +kernel
theorem dX4_lendTo_142 : decode cX4_lendTo 142 = .ok (.invokevirtual 79, 3) := by decide +kernel
theorem dX4_lendTo_145 : decode cX4_lendTo 145 = .ok (.aload_n 0, 1) := by decide +kernel
theorem dX4_lendTo_146 : decode cX4_lendTo 146 = .ok (.iconst 2, 1) := by decide +kernel
theorem dX4_lendTo_147 : decode cX4_lendTo 147 = .ok (.iload_n 1, 1) := by decide +kernel
theorem dX4_lendTo_148 : decode cX4_lendTo 148 = .ok (.iload 6, 2) := by decide +kernel
theorem dX4_lendTo_150 : decode cX4_lendTo 150 = .ok (.iload_n 2, 1) := by decide +kernel
theorem dX4_lendTo_151 : decode cX4_lendTo 151 = .ok (.iload 7, 2) := by decide +kernel
theorem dX4_lendTo_153 : decode cX4_lendTo 153 = .ok (.invokevirtual 133, 3) := by decide +kernel
theorem dX4_lendTo_156 : decode cX4_lendTo 156 = .ok (.iinc 5 1, 3) := by decide +kernel
theorem dX4_lendTo_159 : decode cX4_lendTo 159 = .ok (.goto (-148), 3) := by decide +kernel
theorem dX4_lendTo_162 : decode cX4_lendTo 162 = .ok (.return_, 1) := by decide +kernel
theorem dX4_lendToAged_0 : decode cX4_lendToAged 0 = .ok (.aload_n 0, 1) := by decide +kernel
theorem dX4_lendToAged_1 : decode cX4_lendToAged 1 = .ok (.getfield 13, 3) := by decide +kernel
theorem dX4_lendToAged_4 : decode cX4_lendToAged 4 = .ok (.aload_n 0, 1) := by decide +kernel
theorem dX4_lendToAged_5 : decode cX4_lendToAged 5 = .ok (.getfield 169, 3) := by decide +kernel
theorem dX4_lendToAged_8 : decode cX4_lendToAged 8 = .ok (.iconst 2, 1) := by decide +kernel
theorem dX4_lendToAged_9 : decode cX4_lendToAged 9 = .ok (.iaload, 1) := by decide +kernel
theorem dX4_lendToAged_10 : decode cX4_lendToAged 10 = .ok (.isub, 1) := by decide +kernel
theorem dX4_lendToAged_11 : decode cX4_lendToAged 11 = .ok (.istore_n 2, 1) := by decide +kernel
theorem dX4_lendToAged_12 : decode cX4_lendToAged 12 = .ok (.aload_n 0, 1) := by decide +kernel
theorem dX4_lendToAged_13 : decode cX4_lendToAged 13 = .ok (.getfield 141, 3) := by decide +kernel
theorem dX4_lendToAged_16 : decode cX4_lendToAged 16 = .ok (.astore_n 3, 1) := by decide +kernel
theorem dX4_lendToAged_17 : decode cX4_lendToAged 17 = .ok (.aload_n 3, 1) := by decide +kernel
theorem dX4_lendToAged_18 : decode cX4_lendToAged 18 = .ok (.aload_n 0, 1) := by decide +kernel
theorem dX4_lendToAged_19 : decode cX4_lendToAged 19 = .ok (.iload_n 1, 1) := by decide +kernel
theorem dX4_lendToAged_20 : decode cX4_lendToAged 20 = .ok (.invokevirtual 145, 3) := by decide +kernel
theorem dX4_lendToAged_23 : decode cX4_lendToAged 23 = .ok (.iconst 0, 1) := by decide +kernel
theorem dX4_lendToAged_24 : decode cX4_lendToAged 24 = .ok (.istore 4, 2) := by decide +kernel
theorem dX4_lendToAged_26 : decode cX4_lendToAged 26 = .ok (.iload 4, 2) := by decide +kernel
theorem dX4_lendToAged_28 : decode cX4_lendToAged 28 = .ok (.aload_n 3, 1) := by decide +kernel
theorem dX4_lendToAged_29 : decode cX4_lendToAged 29 = .ok (.getfield 150, 3) := by decide +kernel
theorem dX4_lendToAged_32 : decode cX4_lendToAged 32 = .ok (.if_icmp .ge 39, 3) := by decide +kernel
theorem dX4_lendToAged_35 : decode cX4_lendToAged 35 = .ok (.aload_n 3, 1) := by decide +kernel
theorem dX4_lendToAged_36 : decode cX4_lendToAged 36 = .ok (.getfield 156, 3) := by decide +kernel
theorem dX4_lendToAged_39 : decode cX4_lendToAged 39 = .ok (.iload 4, 2) := by decide +kernel
theorem dX4_lendToAged_41 : decode cX4_lendToAged 41 = .ok (.iaload, 1) := by decide +kernel
theorem dX4_lendToAged_42 : decode cX4_lendToAged 42 = .ok (.iload_n 2, 1) := by decide +kernel
theorem dX4_lendToAged_43 : decode cX4_lendToAged 43 = .ok (.if_icmp .gt 22, 3) := by decide +kernel
theorem dX4_lendToAged_46 : decode cX4_lendToAged 46 = .ok (.aload_n 0, 1) := by decide +kernel
theorem dX4_lendToAged_47 : decode cX4_lendToAged 47 = .ok (.iload_n 1, 1) := by decide +kernel
theorem dX4_lendToAged_48 : decode cX4_lendToAged 48 = .ok (.aload_n 3, 1) := by decide +kernel
theorem dX4_lendToAged_49 : decode cX4_lendToAged 49 = .ok (.getfield 152, 3) := by decide +kernel
theorem dX4_lendToAged_52 : decode cX4_lendToAged 52 = .ok (.iload 4, 2) := by decide +kernel
theorem dX4_lendToAged_54 : decode cX4_lendToAged 54 = .ok (.iaload, 1) := by decide +kernel
theorem dX4_lendToAged_55 : decode cX4_lendToAged 55 = .ok (.aload_n 3, 1) := by decide +kernel
theorem dX4_lendToAged_56 : decode cX4_lendToAged 56 = .ok (.getfield 156, 3) := by decide +kernel
theorem dX4_lendToAged_59 : decode cX4_lendToAged 59 = .ok (.iload 4, 2) := by decide +kernel
theorem dX4_lendToAged_61 : decode cX4_lendToAged 61 = .ok (.iaload, 1) := by decide +kernel
theorem dX4_lendToAged_62 : decode cX4_lendToAged 62 = .ok (.invokestatic 172, 3) := by decide +kernel
theorem dX4_lendToAged_65 : decode cX4_lendToAged 65 = .ok (.iinc 4 1, 3) := by decide +kernel
theorem dX4_lendToAged_68 : decode cX4_lendToAged 68 = .ok (.goto (-42), 3) := by decide +kernel
theorem dX4_lendToAged_71 : decode cX4_lendToAged 71 = .ok (.return_, 1) := by decide +kernel
theorem dX4_mark_0 : decode cX4_mark 0 = .ok (.aload_n 0, 1) := by decide +kernel
theorem dX4_mark_1 : decode cX4_mark 1 = .ok (.getfield 57, 3) := by decide +kernel
theorem dX4_mark_4 : decode cX4_mark 4 = .ok (.iload_n 1, 1) := by decide +kernel
theorem dX4_mark_5 : decode cX4_mark 5 = .ok (.aaload, 1) := by decide +kernel
theorem dX4_mark_6 : decode cX4_mark 6 = .ok (.astore_n 2, 1) := by decide +kernel
theorem dX4_mark_7 : decode cX4_mark 7 = .ok (.aload_n 2, 1) := by decide +kernel
theorem dX4_mark_8 : decode cX4_mark 8 = .ok (.getfield 181, 3) := by decide +kernel
theorem dX4_mark_11 : decode cX4_mark 11 = .ok (.aload_n 2, 1) := by decide +kernel
theorem dX4_mark_12 : decode cX4_mark 12 = .ok (.getfield 74, 3) := by decide +kernel
theorem dX4_mark_15 : decode cX4_mark 15 = .ok (.isub, 1) := by decide +kernel
theorem dX4_mark_16 : decode cX4_mark 16 = .ok (.i2l, 1) := by decide +kernel
theorem dX4_mark_17 : decode cX4_mark 17 = .ok (.lstore_n 3, 1) := by decide +kernel
theorem dX4_mark_18 : decode cX4_mark 18 = .ok (.iconst 0, 1) := by decide +kernel
theorem dX4_mark_19 : decode cX4_mark 19 = .ok (.istore 5, 2) := by decide +kernel
theorem dX4_mark_21 : decode cX4_mark 21 = .ok (.iload 5, 2) := by decide +kernel
theorem dX4_mark_23 : decode cX4_mark 23 = .ok (.aload_n 0, 1) := by decide +kernel
theorem dX4_mark_24 : decode cX4_mark 24 = .ok (.invokevirtual 93, 3) := by decide +kernel
theorem dX4_mark_27 : decode cX4_mark 27 = .ok (.if_icmp .ge 29, 3) := by decide +kernel
theorem dX4_mark_30 : decode cX4_mark 30 = .ok (.aload_n 0, 1) := by decide +kernel
theorem dX4_mark_31 : decode cX4_mark 31 = .ok (.getfield 122, 3) := by decide +kernel
theorem dX4_mark_34 : decode cX4_mark 34 = .ok (.iload 5, 2) := by decide +kernel
theorem dX4_mark_36 : decode cX4_mark 36 = .ok (.dup2, 1) := by decide +kernel
theorem dX4_mark_37 : decode cX4_mark 37 = .ok (.laload, 1) := by decide +kernel
theorem dX4_mark_38 : decode cX4_mark 38 = .ok (.aload_n 2, 1) := by decide +kernel
theorem dX4_mark_39 : decode cX4_mark 39 = .ok (.getfield 184, 3) := by decide +kernel
theorem dX4_mark_42 : decode cX4_mark 42 = .ok (.iload 5, 2) := by decide +kernel
theorem dX4_mark_44 : decode cX4_mark 44 = .ok (.iaload, 1) := by decide +kernel
theorem dX4_mark_45 : decode cX4_mark 45 = .ok (.i2l, 1) := by decide +kernel
theorem dX4_mark_46 : decode cX4_mark 46 = .ok (.lload_n 3, 1) := by decide +kernel
theorem dX4_mark_47 : decode cX4_mark 47 = .ok (.lmul, 1) := by decide +kernel
theorem dX4_mark_48 : decode cX4_mark 48 = .ok (.ladd, 1) := by decide +kernel
theorem dX4_mark_49 : decode cX4_mark 49 = .ok (.lastore, 1) := by decide +kernel
theorem dX4_mark_50 : decode cX4_mark 50 = .ok (.iinc 5 1, 3) := by decide +kernel
theorem dX4_mark_53 : decode cX4_mark 53 = .ok (.goto (-32), 3) := by decide +kernel
theorem dX4_mark_56 : decode cX4_mark 56 = .ok (.aload_n 2, 1) := by decide +kernel
theorem dX4_mark_57 : decode cX4_mark 57 = .ok (.aload_n 2, 1) := by decide +kernel
theorem dX4_mark_58 : decode cX4_mark 58 = .ok (.getfield 181, 3) := by decide +kernel
theorem dX4_mark_61 : decode cX4_mark 61 = .ok (.putfield 74, 3) := by decide +kernel
theorem dX4_mark_64 : decode cX4_mark 64 = .ok (.return_, 1) := by decide +kernel
theorem dX4_netDue_0 : decode cX4_netDue 0 = .ok (.aload_n 0, 1) := by decide +kernel
theorem dX4_netDue_1 : decode cX4_netDue 1 = .ok (.getfield 53, 3) := by decide +kernel
theorem dX4_netDue_4 : decode cX4_netDue 4 = .ok (.astore_n 2, 1) := by decide +kernel
theorem dX4_netDue_5 : decode cX4_netDue 5 = .ok (.aload_n 0, 1) := by decide +kernel
theorem dX4_netDue_6 : decode cX4_netDue 6 = .ok (.getfield 57, 3) := by decide +kernel
theorem dX4_netDue_9 : decode cX4_netDue 9 = .ok (.iload_n 1, 1) := by decide +kernel
theorem dX4_netDue_10 : decode cX4_netDue 10 = .ok (.aaload, 1) := by decide +kernel
theorem dX4_netDue_11 : decode cX4_netDue 11 = .ok (.astore_n 3, 1) := by decide +kernel
theorem dX4_netDue_12 : decode cX4_netDue 12 = .ok (.iconst 0, 1) := by decide +kernel
theorem dX4_netDue_13 : decode cX4_netDue 13 = .ok (.istore 4, 2) := by decide +kernel
theorem dX4_netDue_15 : decode cX4_netDue 15 = .ok (.iload 4, 2) := by decide +kernel
theorem dX4_netDue_17 : decode cX4_netDue 17 = .ok (.aload_n 2, 1) := by decide +kernel
theorem dX4_netDue_18 : decode cX4_netDue 18 = .ok (.invokevirtual 61, 3) := by decide +kernel
theorem dX4_netDue_21 : decode cX4_netDue 21 = .ok (.if_icmp .ge 106, 3) := by decide +kernel
theorem dX4_netDue_24 : decode cX4_netDue 24 = .ok (.aload_n 0, 1) := by decide +kernel
theorem dX4_netDue_25 : decode cX4_netDue 25 = .ok (.iload 4, 2) := by decide +kernel
theorem dX4_netDue_27 : decode cX4_netDue 27 = .ok (.iload_n 1, 1) := by decide +kernel
theorem dX4_netDue_28 : decode cX4_netDue 28 = .ok (.iconst 0, 1) := by decide +kernel
theorem dX4_netDue_29 : decode cX4_netDue 29 = .ok (.invokevirtual 67, 3) := by decide +kernel
theorem dX4_netDue_32 : decode cX4_netDue 32 = .ok (.ifCond .eq 89, 3) := by decide +kernel
theorem dX4_netDue_35 : decode cX4_netDue 35 = .ok (.aload_n 2, 1) := by decide +kernel
theorem dX4_netDue_36 : decode cX4_netDue 36 = .ok (.iconst 0, 1) := by decide +kernel
theorem dX4_netDue_37 : decode cX4_netDue 37 = .ok (.iload 4, 2) := by decide +kernel
theorem dX4_netDue_39 : decode cX4_netDue 39 = .ok (.invokevirtual 70, 3) := by decide +kernel
theorem dX4_netDue_42 : decode cX4_netDue 42 = .ok (.istore 5, 2) := by decide +kernel
theorem dX4_netDue_44 : decode cX4_netDue 44 = .ok (.aload_n 2, 1) := by decide +kernel
theorem dX4_netDue_45 : decode cX4_netDue 45 = .ok (.iconst 1, 1) := by decide +kernel
theorem dX4_netDue_46 : decode cX4_netDue 46 = .ok (.iload 4, 2) := by decide +kernel
theorem dX4_netDue_48 : decode cX4_netDue 48 = .ok (.invokevirtual 70, 3) := by decide +kernel
theorem dX4_netDue_51 : decode cX4_netDue 51 = .ok (.istore 6, 2) := by decide +kernel
theorem dX4_netDue_53 : decode cX4_netDue 53 = .ok (.aload_n 2, 1) := by decide +kernel
theorem dX4_netDue_54 : decode cX4_netDue 54 = .ok (.iconst 3, 1) := by decide +kernel
theorem dX4_netDue_55 : decode cX4_netDue 55 = .ok (.iload 4, 2) := by decide +kernel
theorem dX4_netDue_57 : decode cX4_netDue 57 = .ok (.invokevirtual 70, 3) := by decide +kernel
theorem dX4_netDue_60 : decode cX4_netDue 60 = .ok (.istore 7, 2) := by decide +kernel
theorem dX4_netDue_62 : decode cX4_netDue 62 = .ok (.aload_n 0, 1) := by decide +kernel
theorem dX4_netDue_63 : decode cX4_netDue 63 = .ok (.iload 5, 2) := by decide +kernel
theorem dX4_netDue_65 : decode cX4_netDue 65 = .ok (.iload 6, 2) := by decide +kernel
theorem dX4_netDue_67 : decode cX4_netDue 67 = .ok (.iload 7, 2) := by decide +kernel
theorem dX4_netDue_69 : decode cX4_netDue 69 = .ok (.i2l, 1) := by decide +kernel
theorem dX4_netDue_70 : decode cX4_netDue 70 = .ok (.aload_n 2, 1) := by decide +kernel
theorem dX4_netDue_71 : decode cX4_netDue 71 = .ok (.iconst 4, 1) := by decide +kernel
theorem dX4_netDue_72 : decode cX4_netDue 72 = .ok (.iload 4, 2) := by decide +kernel
theorem dX4_netDue_74 : decode cX4_netDue 74 = .ok (.invokevirtual 70, 3) := by decide +kernel
theorem dX4_netDue_77 : decode cX4_netDue 77 = .ok (.aload_n 3, 1) := by decide +kernel
theorem dX4_netDue_78 : decode cX4_netDue 78 = .ok (.getfield 74, 3) := by decide +kernel
theorem dX4_netDue_81 : decode cX4_netDue 81 = .ok (.isub, 1) := by decide +kernel
theorem dX4_netDue_82 : decode cX4_netDue 82 = .ok (.i2l, 1) := by decide +kernel
theorem dX4_netDue_83 : decode cX4_netDue 83 = .ok (.lmul, 1) := by decide +kernel
theorem dX4_netDue_84 : decode cX4_netDue 84 = .ok (.invokevirtual 79, 3) := by decide +kernel
theorem dX4_netDue_87 : decode cX4_netDue 87 = .ok (.aload_n 3, 1) := by decide +kernel
theorem dX4_netDue_88 : decode cX4_netDue 88 = .ok (.iload 5, 2) := by decide +kernel
theorem dX4_netDue_90 : decode cX4_netDue 90 = .ok (.iload 7, 2) := by decide +kernel
theorem dX4_netDue_92 : decode cX4_netDue 92 = .ok (.aload_n 0, 1) := by decide +kernel
theorem dX4_netDue_93 : decode cX4_netDue 93 = .ok (.getfield 13, 3) := by decide +kernel
theorem dX4_netDue_96 : decode cX4_netDue 96 = .ok (.invokevirtual 83, 3) := by decide +kernel
theorem dX4_netDue_99 : decode cX4_netDue 99 = .ok (.aload_n 3, 1) := by decide +kernel
theorem dX4_netDue_100 : decode cX4_netDue 100 = .ok (.iload 6, 2) := by decide +kernel
theorem dX4_netDue_102 : decode cX4_netDue 102 = .ok (.iload 7, 2) := by decide +kernel
theorem dX4_netDue_104 : decode cX4_netDue 104 = .ok (.ineg, 1) := by decide +kernel
theorem dX4_netDue_105 : decode cX4_netDue 105 = .ok (.aload_n 0, 1) := by decide +kernel
theorem dX4_netDue_106 : decode cX4_netDue 106 = .ok (.getfield 13, 3) := by decide +kernel
theorem dX4_netDue_109 : decode cX4_netDue 109 = .ok (.invokevirtual 83, 3) := by decide +kernel
theorem dX4_netDue_112 : decode cX4_netDue 112 = .ok (.aload_n 2, 1) := by decide +kernel
theorem dX4_netDue_113 : decode cX4_netDue 113 = .ok (.bipush 7, 2) := by decide +kernel
theorem dX4_netDue_115 : decode cX4_netDue 115 = .ok (.iload 4, 2) := by decide +kernel
theorem dX4_netDue_117 : decode cX4_netDue 117 = .ok (.iconst 0, 1) := by decide +kernel
theorem dX4_netDue_118 : decode cX4_netDue 118 = .ok (.invokevirtual 87, 3) := by decide +kernel
theorem dX4_netDue_121 : decode cX4_netDue 121 = .ok (.iinc 4 1, 3) := by decide +kernel
theorem dX4_netDue_124 : decode cX4_netDue 124 = .ok (.goto (-109), 3) := by decide +kernel
theorem dX4_netDue_127 : decode cX4_netDue 127 = .ok (.return_, 1) := by decide +kernel
theorem dX4_pass_0 : decode cX4_pass 0 = .ok (.iload_n 1, 1) := by decide +kernel
theorem dX4_pass_1 : decode cX4_pass 1 = .ok (.iconst 1, 1) := by decide +kernel
theorem dX4_pass_2 : decode cX4_pass 2 = .ok (.bipush 20, 2) := by decide +kernel
theorem dX4_pass_4 : decode cX4_pass 4 = .ok (.invokestatic 9, 3) := by decide +kernel
theorem dX4_pass_7 : decode cX4_pass 7 = .ok (.ifCond .eq 12, 3) := by decide +kernel
theorem dX4_pass_10 : decode cX4_pass 10 = .ok (.aload_n 0, 1) := by decide +kernel
theorem dX4_pass_11 : decode cX4_pass 11 = .ok (.getfield 13, 3) := by decide +kernel
theorem dX4_pass_14 : decode cX4_pass 14 = .ok (.bipush 99, 2) := by decide +kernel
theorem dX4_pass_16 : decode cX4_pass 16 = .ok (.if_icmp .lt 5, 3) := by decide +kernel
theorem dX4_pass_19 : decode cX4_pass 19 = .ok (.iconst (-1), 1) := by decide +kernel
theorem dX4_pass_20 : decode cX4_pass 20 = .ok (.ireturn, 1) := by decide +kernel
theorem dX4_pass_21 : decode cX4_pass 21 = .ok (.iconst 0, 1) := by decide +kernel
theorem dX4_pass_22 : decode cX4_pass 22 = .ok (.istore_n 2, 1) := by decide +kernel
theorem dX4_pass_23 : decode cX4_pass 23 = .ok (.iload_n 2, 1) := by decide +kernel
theorem dX4_pass_24 : decode cX4_pass 24 = .ok (.iload_n 1, 1) := by decide +kernel
theorem dX4_pass_25 : decode cX4_pass 25 = .ok (.if_icmp .ge 91, 3) := by decide +kernel
theorem dX4_pass_28 : decode cX4_pass 28 = .ok (.aload_n 0, 1) := by decide +kernel
theorem dX4_pass_29 : decode cX4_pass 29 = .ok (.getfield 13, 3) := by decide +kernel
theorem dX4_pass_32 : decode cX4_pass 32 = .ok (.bipush 99, 2) := by decide +kernel
theorem dX4_pass_34 : decode cX4_pass 34 = .ok (.if_icmp .ge 82, 3) := by decide +kernel
theorem dX4_pass_37 : decode cX4_pass 37 = .ok (.iconst 0, 1) := by decide +kernel
theorem dX4_pass_38 : decode cX4_pass 38 = .ok (.istore_n 3, 1) := by decide +kernel
theorem dX4_pass_39 : decode cX4_pass 39 = .ok (.iload_n 3, 1) := by decide +kernel
theorem dX4_pass_40 : decode cX4_pass 40 = .ok (.bipush 6, 2) := by decide +kernel
theorem dX4_pass_42 : decode cX4_pass 42 = .ok (.if_icmp .ge 58, 3) := by decide +kernel
theorem dX4_pass_45 : decode cX4_pass 45 = .ok (.aload_n 0, 1) := by decide +kernel
theorem dX4_pass_46 : decode cX4_pass 46 = .ok (.iload_n 3, 1) := by decide +kernel
theorem dX4_pass_47 : decode cX4_pass 47 = .ok (.invokestatic 19, 3) := by decide +kernel
theorem dX4_pass_50 : decode cX4_pass 50 = .ok (.aload_n 0, 1) := by decide +kernel
theorem dX4_pass_51 : decode cX4_pass 51 = .ok (.iload_n 3, 1) := by decide +kernel
theorem dX4_pass_52 : decode cX4_pass 52 = .ok (.invokestatic 25, 3) := by decide +kernel
theorem dX4_pass_55 : decode cX4_pass 55 = .ok (.istore 4, 2) := by decide +kernel
theorem dX4_pass_57 : decode cX4_pass 57 = .ok (.aload_n 0, 1) := by decide +kernel
theorem dX4_pass_58 : decode cX4_pass 58 = .ok (.iload_n 3, 1) := by decide +kernel
theorem dX4_pass_59 : decode cX4_pass 59 = .ok (.iload 4, 2) := by decide +kernel
theorem dX4_pass_61 : decode cX4_pass 61 = .ok (.invokestatic 29, 3) := by decide +kernel
theorem dX4_pass_64 : decode cX4_pass 64 = .ok (.aload_n 0, 1) := by decide +kernel
theorem dX4_pass_65 : decode cX4_pass 65 = .ok (.iload_n 3, 1) := by decide +kernel
theorem dX4_pass_66 : decode cX4_pass 66 = .ok (.invokestatic 33, 3) := by decide +kernel
theorem dX4_pass_69 : decode cX4_pass 69 = .ok (.aload_n 0, 1) := by decide +kernel
theorem dX4_pass_70 : decode cX4_pass 70 = .ok (.iload_n 3, 1) := by decide +kernel
theorem dX4_pass_71 : decode cX4_pass 71 = .ok (.invokestatic 36, 3) := by decide +kernel
theorem dX4_pass_74 : decode cX4_pass 74 = .ok (.aload_n 0, 1) := by decide +kernel
theorem dX4_pass_75 : decode cX4_pass 75 = .ok (.iload_n 3, 1) := by decide +kernel
theorem dX4_pass_76 : decode cX4_pass 76 = .ok (.invokestatic 39, 3) := by decide +kernel
theorem dX4_pass_79 : decode cX4_pass 79 = .ok (.aload_n 0, 1) := by decide +kernel
theorem dX4_pass_80 : decode cX4_pass 80 = .ok (.iload_n 3, 1) := by decide +kernel
theorem dX4_pass_81 : decode cX4_pass 81 = .ok (.invokestatic 44, 3) := by decide +kernel
theorem dX4_pass_84 : decode cX4_pass 84 = .ok (.aload_n 0, 1) := by decide +kernel
theorem dX4_pass_85 : decode cX4_pass 85 = .ok (.iload_n 3, 1) := by decide +kernel
theorem dX4_pass_86 : decode cX4_pass 86 = .ok (.invokestatic 47, 3) := by decide +kernel
theorem dX4_pass_89 : decode cX4_pass 89 = .ok (.aload_n 0, 1) := by decide +kernel
theorem dX4_pass_90 : decode cX4_pass 90 = .ok (.iload_n 3, 1) := by decide +kernel
theorem dX4_pass_91 : decode cX4_pass 91 = .ok (.invokestatic 50, 3) := by decide +kernel
theorem dX4_pass_94 : decode cX4_pass 94 = .ok (.iinc 3 1, 3) := by decide +kernel
theorem dX4_pass_97 : decode cX4_pass 97 = .ok (.goto (-58), 3) := by decide +kernel
theorem dX4_pass_100 : decode cX4_pass 100 = .ok (.aload_n 0, 1) := by decide +kernel
theorem dX4_pass_101 : decode cX4_pass 101 = .ok (.dup, 1) := by decide +kernel
theorem dX4_pass_102 : decode cX4_pass 102 = .ok (.getfield 13, 3) := by decide +kernel
theorem dX4_pass_105 : decode cX4_pass 105 = .ok (.iconst 1, 1) := by decide +kernel
theorem dX4_pass_106 : decode cX4_pass 106 = .ok (.iadd, 1) := by decide +kernel
theorem dX4_pass_107 : decode cX4_pass 107 = .ok (.putfield 13, 3) := by decide +kernel
theorem dX4_pass_110 : decode cX4_pass 110 = .ok (.iinc 2 1, 3) := by decide +kernel
theorem dX4_pass_113 : decode cX4_pass 113 = .ok (.goto (-90), 3) := by decide +kernel
theorem dX4_pass_116 : decode cX4_pass 116 = .ok (.iload_n 2, 1) := by decide +kernel
theorem dX4_pass_117 : decode cX4_pass 117 = .ok (.ireturn, 1) := by decide +kernel
theorem dX4_passApart_0 : decode cX4_passApart 0 = .ok (.aload_n 0, 1) := by decide +kernel
theorem dX4_passApart_1 : decode cX4_passApart 1 = .ok (.getfield 53, 3) := by decide +kernel
theorem dX4_passApart_4 : decode cX4_passApart 4 = .ok (.astore_n 2, 1) := by decide +kernel
theorem dX4_passApart_5 : decode cX4_passApart 5 = .ok (.aload_n 0, 1) := by decide +kernel
theorem dX4_passApart_6 : decode cX4_passApart 6 = .ok (.getfield 57, 3) := by decide +kernel
theorem dX4_passApart_9 : decode cX4_passApart 9 = .ok (.iload_n 1, 1) := by decide +kernel
theorem dX4_passApart_10 : decode cX4_passApart 10 = .ok (.aaload, 1) := by decide +kernel
theorem dX4_passApart_11 : decode cX4_passApart 11 = .ok (.astore_n 3, 1) := by decide +kernel
theorem dX4_passApart_12 : decode cX4_passApart 12 = .ok (.iconst 0, 1) := by decide +kernel
theorem dX4_passApart_13 : decode cX4_passApart 13 = .ok (.istore 4, 2) := by decide +kernel
theorem dX4_passApart_15 : decode cX4_passApart 15 = .ok (.iload 4, 2) := by decide +kernel
theorem dX4_passApart_17 : decode cX4_passApart 17 = .ok (.aload_n 2, 1) := by decide +kernel
theorem dX4_passApart_18 : decode cX4_passApart 18 = .ok (.invokevirtual 61, 3) := by decide +kernel
theorem dX4_passApart_21 : decode cX4_passApart 21 = .ok (.if_icmp .ge 132, 3) := by decide +kernel
theorem dX4_passApart_24 : decode cX4_passApart 24 = .ok (.aload_n 0, 1) := by decide +kernel
theorem dX4_passApart_25 : decode cX4_passApart 25 = .ok (.iload 4, 2) := by decide +kernel
theorem dX4_passApart_27 : decode cX4_passApart 27 = .ok (.iload_n 1, 1) := by decide +kernel
theorem dX4_passApart_28 : decode cX4_passApart 28 = .ok (.iconst 1, 1) := by decide +kernel
theorem dX4_passApart_29 : decode cX4_passApart 29 = .ok (.invokevirtual 67, 3) := by decide +kernel
theorem dX4_passApart_32 : decode cX4_passApart 32 = .ok (.ifCond .ne 6, 3) := by decide +kernel
theorem dX4_passApart_35 : decode cX4_passApart 35 = .ok (.goto 112, 3) := by decide +kernel
theorem dX4_passApart_38 : decode cX4_passApart 38 = .ok (.aload_n 2, 1) := by decide +kernel
theorem dX4_passApart_39 : decode cX4_passApart 39 = .ok (.iconst 0, 1) := by decide +kernel
theorem dX4_passApart_40 : decode cX4_passApart 40 = .ok (.iload 4, 2) := by decide +kernel
theorem dX4_passApart_42 : decode cX4_passApart 42 = .ok (.invokevirtual 70, 3) := by decide +kernel
theorem dX4_passApart_45 : decode cX4_passApart 45 = .ok (.istore 5, 2) := by decide +kernel
theorem dX4_passApart_47 : decode cX4_passApart 47 = .ok (.aload_n 2, 1) := by decide +kernel
theorem dX4_passApart_48 : decode cX4_passApart 48 = .ok (.iconst 1, 1) := by decide +kernel
theorem dX4_passApart_49 : decode cX4_passApart 49 = .ok (.iload 4, 2) := by decide +kernel
theorem dX4_passApart_51 : decode cX4_passApart 51 = .ok (.invokevirtual 70, 3) := by decide +kernel
theorem dX4_passApart_54 : decode cX4_passApart 54 = .ok (.istore 6, 2) := by decide +kernel
theorem dX4_passApart_56 : decode cX4_passApart 56 = .ok (.aload_n 2, 1) := by decide +kernel
theorem dX4_passApart_57 : decode cX4_passApart 57 = .ok (.bipush 7, 2) := by decide +kernel
theorem dX4_passApart_59 : decode cX4_passApart 59 = .ok (.iload 4, 2) := by decide +kernel
theorem dX4_passApart_61 : decode cX4_passApart 61 = .ok (.invokevirtual 70, 3) := by decide +kernel
theorem dX4_passApart_64 : decode cX4_passApart 64 = .ok (.istore 7, 2) := by decide +kernel
theorem dX4_passApart_66 : decode cX4_passApart 66 = .ok (.aload_n 0, 1) := by decide +kernel
theorem dX4_passApart_67 : decode cX4_passApart 67 = .ok (.iload_n 1, 1) := by decide +kernel
theorem dX4_passApart_68 : decode cX4_passApart 68 = .ok (.iload 6, 2) := by decide +kernel
theorem dX4_passApart_70 : decode cX4_passApart 70 = .ok (.invokevirtual 108, 3) := by decide +kernel
theorem dX4_passApart_73 : decode cX4_passApart 73 = .ok (.iload 7, 2) := by decide +kernel
theorem dX4_passApart_75 : decode cX4_passApart 75 = .ok (.i2l, 1) := by decide +kernel
theorem dX4_passApart_76 : decode cX4_passApart 76 = .ok (.lcmp, 1) := by decide +kernel
theorem dX4_passApart_77 : decode cX4_passApart 77 = .ok (.ifCond .lt 70, 3) := by decide +kernel
theorem dX4_passApart_80 : decode cX4_passApart 80 = .ok (.aload_n 3, 1) := by decide +kernel
theorem dX4_passApart_81 : decode cX4_passApart 81 = .ok (.getfield 118, 3) := by decide +kernel
theorem dX4_passApart_84 : decode cX4_passApart 84 = .ok (.iload 6, 2) := by decide +kernel
theorem dX4_passApart_86 : decode cX4_passApart 86 = .ok (.dup2, 1) := by decide +kernel
theorem dX4_passApart_87 : decode cX4_passApart 87 = .ok (.laload, 1) := by decide +kernel
theorem dX4_passApart_88 : decode cX4_passApart 88 = .ok (.iload 7, 2) := by decide +kernel
theorem dX4_passApart_90 : decode cX4_passApart 90 = .ok (.i2l, 1) := by decide +kernel
theorem dX4_passApart_91 : decode cX4_passApart 91 = .ok (.lsub, 1) := by decide +kernel
theorem dX4_passApart_92 : decode cX4_passApart 92 = .ok (.lastore, 1) := by decide +kernel
theorem dX4_passApart_93 : decode cX4_passApart 93 = .ok (.aload_n 3, 1) := by decide +kernel
theorem dX4_passApart_94 : decode cX4_passApart 94 = .ok (.getfield 118, 3) := by decide +kernel
theorem dX4_passApart_97 : decode cX4_passApart 97 = .ok (.iload 5, 2) := by decide +kernel
theorem dX4_passApart_99 : decode cX4_passApart 99 = .ok (.dup2, 1) := by decide +kernel
theorem dX4_passApart_100 : decode cX4_passApart 100 = .ok (.laload, 1) := by decide +kernel
theorem dX4_passApart_101 : decode cX4_passApart 101 = .ok (.iload 7, 2) := by decide +kernel
theorem dX4_passApart_103 : decode cX4_passApart 103 = .ok (.i2l, 1) := by decide +kernel
theorem dX4_passApart_104 : decode cX4_passApart 104 = .ok (.ladd, 1) := by decide +kernel
theorem dX4_passApart_105 : decode cX4_passApart 105 = .ok (.lastore, 1) := by decide +kernel
theorem dX4_passApart_106 : decode cX4_passApart 106 = .ok (.aload_n 0, 1) := by decide +kernel
theorem dX4_passApart_107 : decode cX4_passApart 107 = .ok (.iload 5, 2) := by decide +kernel
theorem dX4_passApart_109 : decode cX4_passApart 109 = .ok (.iload 6, 2) := by decide +kernel
theorem dX4_passApart_111 : decode cX4_passApart 111 = .ok (.iload 7, 2) := by decide +kernel
theorem dX4_passApart_113 : decode cX4_passApart 113 = .ok (.i2l, 1) := by decide +kernel
theorem dX4_passApart_114 : decode cX4_passApart 114 = .ok (.aload_n 2, 1) := by decide +kernel
theorem dX4_passApart_115 : decode cX4_passApart 115 = .ok (.iconst 4, 1) := by decide +kernel
theorem dX4_passApart_116 : decode cX4_passApart 116 = .ok (.iload 4, 2) := by decide +kernel
theorem dX4_passApart_118 : decode cX4_passApart 118 = .ok (.invokevirtual 70, 3) := by decide +kernel
theorem dX4_passApart_121 : decode cX4_passApart 121 = .ok (.i2l, 1) := by decide +kernel
theorem dX4_passApart_122 : decode cX4_passApart 122 = .ok (.lmul, 1) := by decide +kernel
theorem dX4_passApart_123 : decode cX4_passApart 123 = .ok (.invokevirtual 79, 3) := by decide +kernel
theorem dX4_passApart_126 : decode cX4_passApart 126 = .ok (.aload_n 2, 1) := by decide +kernel
theorem dX4_passApart_127 : decode cX4_passApart 127 = .ok (.bipush 7, 2) := by decide +kernel
theorem dX4_passApart_129 : decode cX4_passApart 129 = .ok (.iload 4, 2) := by decide +kernel
theorem dX4_passApart_131 : decode cX4_passApart 131 = .ok (.iconst 0, 1) := by decide +kernel
theorem dX4_passApart_132 : decode cX4_passApart 132 = .ok (.invokevirtual 87, 3) := by decide +kernel
theorem dX4_passApart_135 : decode cX4_passApart 135 = .ok (.aload_n 0, 1) := by decide +kernel
theorem dX4_passApart_136 : decode cX4_passApart 136 = .ok (.iconst 3, 1) := by decide +kernel
theorem dX4_passApart_137 : decode cX4_passApart 137 = .ok (.iload_n 1, 1) := by decide +kernel
theorem dX4_passApart_138 : decode cX4_passApart 138 = .ok (.iload 6, 2) := by decide +kernel
theorem dX4_passApart_140 : decode cX4_passApart 140 = .ok (.iload 5, 2) := by decide +kernel
theorem dX4_passApart_142 : decode cX4_passApart 142 = .ok (.iload 7, 2) := by decide +kernel
theorem dX4_passApart_144 : decode cX4_passApart 144 = .ok (.invokevirtual 133, 3) := by decide +kernel
theorem dX4_passApart_147 : decode cX4_passApart 147 = .ok (.iinc 4 1, 3) := by decide +kernel
theorem dX4_passApart_150 : decode cX4_passApart 150 = .ok (.goto (-135), 3) := by decide +kernel
theorem dX4_passApart_153 : decode cX4_passApart 153 = .ok (.return_, 1) := by decide +kernel
theorem dX4_payOut_0 : decode cX4_payOut 0 = .ok (.aload_n 0, 1) := by decide +kernel
theorem dX4_payOut_1 : decode cX4_payOut 1 = .ok (.getfield 57, 3) := by decide +kernel
theorem dX4_payOut_4 : decode cX4_payOut 4 = .ok (.iload_n 1, 1) := by decide +kernel
theorem dX4_payOut_5 : decode cX4_payOut 5 = .ok (.aaload, 1) := by decide +kernel
theorem dX4_payOut_6 : decode cX4_payOut 6 = .ok (.astore_n 2, 1) := by decide +kernel
theorem dX4_payOut_7 : decode cX4_payOut 7 = .ok (.aload_n 2, 1) := by decide +kernel
theorem dX4_payOut_8 : decode cX4_payOut 8 = .ok (.getfield 187, 3) := by decide +kernel
theorem dX4_payOut_11 : decode cX4_payOut 11 = .ok (.i2l, 1) := by decide +kernel
theorem dX4_payOut_12 : decode cX4_payOut 12 = .ok (.lstore_n 3, 1) := by decide +kernel
theorem dX4_payOut_13 : decode cX4_payOut 13 = .ok (.iconst 0, 1) := by decide +kernel
theorem dX4_payOut_14 : decode cX4_payOut 14 = .ok (.istore 5, 2) := by decide +kernel
theorem dX4_payOut_16 : decode cX4_payOut 16 = .ok (.iload 5, 2) := by decide +kernel
theorem dX4_payOut_18 : decode cX4_payOut 18 = .ok (.aload_n 0, 1) := by decide +kernel
theorem dX4_payOut_19 : decode cX4_payOut 19 = .ok (.invokevirtual 93, 3) := by decide +kernel
theorem dX4_payOut_22 : decode cX4_payOut 22 = .ok (.if_icmp .ge 54, 3) := by decide +kernel
theorem dX4_payOut_25 : decode cX4_payOut 25 = .ok (.aload_n 2, 1) := by decide +kernel
theorem dX4_payOut_26 : decode cX4_payOut 26 = .ok (.getfield 118, 3) := by decide +kernel
theorem dX4_payOut_29 : decode cX4_payOut 29 = .ok (.iload 5, 2) := by decide +kernel
theorem dX4_payOut_31 : decode cX4_payOut 31 = .ok (.laload, 1) := by decide +kernel
theorem dX4_payOut_32 : decode cX4_payOut 32 = .ok (.lstore 6, 2) := by decide +kernel
theorem dX4_payOut_34 : decode cX4_payOut 34 = .ok (.aload_n 0, 1) := by decide +kernel
theorem dX4_payOut_35 : decode cX4_payOut 35 = .ok (.getfield 122, 3) := by decide +kernel
theorem dX4_payOut_38 : decode cX4_payOut 38 = .ok (.iload 5, 2) := by decide +kernel
theorem dX4_payOut_40 : decode cX4_payOut 40 = .ok (.dup2, 1) := by decide +kernel
theorem dX4_payOut_41 : decode cX4_payOut 41 = .ok (.laload, 1) := by decide +kernel
theorem dX4_payOut_42 : decode cX4_payOut 42 = .ok (.lload_n 3, 1) := by decide +kernel
theorem dX4_payOut_43 : decode cX4_payOut 43 = .ok (.lload 6, 2) := by decide +kernel
theorem dX4_payOut_45 : decode cX4_payOut 45 = .ok (.aload_n 2, 1) := by decide +kernel
theorem dX4_payOut_46 : decode cX4_payOut 46 = .ok (.getfield 184, 3) := by decide +kernel
theorem dX4_payOut_49 : decode cX4_payOut 49 = .ok (.iload 5, 2) := by decide +kernel
theorem dX4_payOut_51 : decode cX4_payOut 51 = .ok (.iaload, 1) := by decide +kernel
theorem dX4_payOut_52 : decode cX4_payOut 52 = .ok (.i2l, 1) := by decide +kernel
theorem dX4_payOut_53 : decode cX4_payOut 53 = .ok (.ladd, 1) := by decide +kernel
theorem dX4_payOut_54 : decode cX4_payOut 54 = .ok (.lmul, 1) := by decide +kernel
theorem dX4_payOut_55 : decode cX4_payOut 55 = .ok (.ladd, 1) := by decide +kernel
theorem dX4_payOut_56 : decode cX4_payOut 56 = .ok (.lastore, 1) := by decide +kernel
theorem dX4_payOut_57 : decode cX4_payOut 57 = .ok (.aload_n 0, 1) := by decide +kernel
theorem dX4_payOut_58 : decode cX4_payOut 58 = .ok (.dup, 1) := by decide +kernel
theorem dX4_payOut_59 : decode cX4_payOut 59 = .ok (.getfield 190, 3) := by decide +kernel
theorem dX4_payOut_62 : decode cX4_payOut 62 = .ok (.lload_n 3, 1) := by decide +kernel
theorem dX4_payOut_63 : decode cX4_payOut 63 = .ok (.lload 6, 2) := by decide +kernel
theorem dX4_payOut_65 : decode cX4_payOut 65 = .ok (.lmul, 1) := by decide +kernel
theorem dX4_payOut_66 : decode cX4_payOut 66 = .ok (.lsub, 1) := by decide +kernel
theorem dX4_payOut_67 : decode cX4_payOut 67 = .ok (.putfield 190, 3) := by decide +kernel
theorem dX4_payOut_70 : decode cX4_payOut 70 = .ok (.iinc 5 1, 3) := by decide +kernel
theorem dX4_payOut_73 : decode cX4_payOut 73 = .ok (.goto (-57), 3) := by decide +kernel
theorem dX4_payOut_76 : decode cX4_payOut 76 = .ok (.aload_n 2, 1) := by decide +kernel
theorem dX4_payOut_77 : decode cX4_payOut 77 = .ok (.iconst 0, 1) := by decide +kernel
theorem dX4_payOut_78 : decode cX4_payOut 78 = .ok (.putfield 187, 3) := by decide +kernel
theorem dX4_payOut_81 : decode cX4_payOut 81 = .ok (.return_, 1) := by decide +kernel
theorem dX5_addNotice_0 : decode cX5_addNotice 0 = .ok (.aload_n 0, 1) := by decide +kernel
theorem dX5_addNotice_1 : decode cX5_addNotice 1 = .ok (.getfield 9, 3) := by decide +kernel
theorem dX5_addNotice_4 : decode cX5_addNotice 4 = .ok (.astore 5, 2) := by decide +kernel
theorem dX5_addNotice_6 : decode cX5_addNotice 6 = .ok (.aload 5, 2) := by decide +kernel
theorem dX5_addNotice_8 : decode cX5_addNotice 8 = .ok (.invokevirtual 103, 3) := by decide +kernel
theorem dX5_addNotice_11 : decode cX5_addNotice 11 = .ok (.istore 6, 2) := by decide +kernel
theorem dX5_addNotice_13 : decode cX5_addNotice 13 = .ok (.aload 5, 2) := by decide +kernel
theorem dX5_addNotice_15 : decode cX5_addNotice 15 = .ok (.iconst 0, 1) := by decide +kernel
theorem dX5_addNotice_16 : decode cX5_addNotice 16 = .ok (.iload 6, 2) := by decide +kernel
theorem dX5_addNotice_18 : decode cX5_addNotice 18 = .ok (.iload_n 1, 1) := by decide +kernel
theorem dX5_addNotice_19 : decode cX5_addNotice 19 = .ok (.invokevirtual 64, 3) := by decide +kernel
theorem dX5_addNotice_22 : decode cX5_addNotice 22 = .ok (.aload 5, 2) := by decide +kernel
theorem dX5_addNotice_24 : decode cX5_addNotice 24 = .ok (.iconst 1, 1) := by decide +kernel
theorem dX5_addNotice_25 : decode cX5_addNotice 25 = .ok (.iload 6, 2) := by decide +kernel
theorem dX5_addNotice_27 : decode cX5_addNotice 27 = .ok (.iload_n 2, 1) := by decide +kernel
theorem dX5_addNotice_28 : decode cX5_addNotice 28 = .ok (.invokevirtual 64, 3) := by decide +kernel
theorem dX5_addNotice_31 : decode cX5_addNotice 31 = .ok (.aload 5, 2) := by decide +kernel
theorem dX5_addNotice_33 : decode cX5_addNotice 33 = .ok (.iconst 2, 1) := by decide +kernel
theorem dX5_addNotice_34 : decode cX5_addNotice 34 = .ok (.iload 6, 2) := by decide +kernel
theorem dX5_addNotice_36 : decode cX5_addNotice 36 = .ok (.iload_n 3, 1) := by decide +kernel
theorem dX5_addNotice_37 : decode cX5_addNotice 37 = .ok (.invokevirtual 64, 3) := by decide +kernel
theorem dX5_addNotice_40 : decode cX5_addNotice 40 = .ok (.aload 5, 2) := by decide +kernel
theorem dX5_addNotice_42 : decode cX5_addNotice 42 = .ok (.iconst 3, 1) := by decide +kernel
theorem dX5_addNotice_43 : decode cX5_addNotice 43 = .ok (.iload 6, 2) := by decide +kernel
theorem dX5_addNotice_45 : decode cX5_addNotice 45 = .ok (.aload_n 0, 1) := by decide +kernel
theorem dX5_addNotice_46 : decode cX5_addNotice 46 = .ok (.getfield 78, 3) := by decide +kernel
theorem dX5_addNotice_49 : decode cX5_addNotice 49 = .ok (.aload_n 0, 1) := by decide +kernel
theorem dX5_addNotice_50 : decode cX5_addNotice 50 = .ok (.getfield 81, 3) := by decide +kernel
theorem dX5_addNotice_53 : decode cX5_addNotice 53 = .ok (.iconst 4, 1) := by decide +kernel
theorem dX5_addNotice_54 : decode cX5_addNotice 54 = .ok (.iaload, 1) := by decide +kernel
theorem dX5_addNotice_55 : decode cX5_addNotice 55 = .ok (.iadd, 1) := by decide +kernel
theorem dX5_addNotice_56 : decode cX5_addNotice 56 = .ok (.invokevirtual 64, 3) := by decide +kernel
theorem dX5_addNotice_59 : decode cX5_addNotice 59 = .ok (.aload 5, 2) := by decide +kernel
theorem dX5_addNotice_61 : decode cX5_addNotice 61 = .ok (.iconst 4, 1) := by decide +kernel
theorem dX5_addNotice_62 : decode cX5_addNotice 62 = .ok (.iload 6, 2) := by decide +kernel
theorem dX5_addNotice_64 : decode cX5_addNotice 64 = .ok (.iconst 1, 1) := by decide +kernel
theorem dX5_addNotice_65 : decode cX5_addNotice 65 = .ok (.invokevirtual 64, 3) := by decide +kernel
theorem dX5_addNotice_68 : decode cX5_addNotice 68 = .ok (.aload 5, 2) := by decide +kernel
theorem dX5_addNotice_70 : decode cX5_addNotice 70 = .ok (.iconst 5, 1) := by decide +kernel
theorem dX5_addNotice_71 : decode cX5_addNotice 71 = .ok (.iload 6, 2) := by decide +kernel
theorem dX5_addNotice_73 : decode cX5_addNotice 73 = .ok (.iload 4, 2) := by decide +kernel
theorem dX5_addNotice_75 : decode cX5_addNotice 75 = .ok (.invokevirtual 64, 3) := by decide +kernel
theorem dX5_addNotice_78 : decode cX5_addNotice 78 = .ok (.iload 6, 2) := by decide +kernel
theorem dX5_addNotice_80 : decode cX5_addNotice 80 = .ok (.ireturn, 1) := by decide +kernel
theorem dX5_agedLong_0 : decode cX5_agedLong 0 = .ok (.aload_n 0, 1) := by decide +kernel
theorem dX5_agedLong_1 : decode cX5_agedLong 1 = .ok (.getfield 68, 3) := by decide +kernel
theorem dX5_agedLong_4 : decode cX5_agedLong 4 = .ok (.iload_n 2, 1) := by decide +kernel
theorem dX5_agedLong_5 : decode cX5_agedLong 5 = .ok (.aaload, 1) := by decide +kernel
theorem dX5_agedLong_6 : decode cX5_agedLong 6 = .ok (.astore_n 3, 1) := by decide +kernel
theorem dX5_agedLong_7 : decode cX5_agedLong 7 = .ok (.aload_n 3, 1) := by decide +kernel
theorem dX5_agedLong_8 : decode cX5_agedLong 8 = .ok (.getfield 72, 3) := by decide +kernel
theorem dX5_agedLong_11 : decode cX5_agedLong 11 = .ok (.aload_n 0, 1) := by decide +kernel
theorem dX5_agedLong_12 : decode cX5_agedLong 12 = .ok (.getfield 78, 3) := by decide +kernel
theorem dX5_agedLong_15 : decode cX5_agedLong 15 = .ok (.aload_n 0, 1) := by decide +kernel
theorem dX5_agedLong_16 : decode cX5_agedLong 16 = .ok (.getfield 81, 3) := by decide +kernel
theorem dX5_agedLong_19 : decode cX5_agedLong 19 = .ok (.iconst 3, 1) := by decide +kernel
theorem dX5_agedLong_20 : decode cX5_agedLong 20 = .ok (.iaload, 1) := by decide +kernel
theorem dX5_agedLong_21 : decode cX5_agedLong 21 = .ok (.isub, 1) := by decide +kernel
theorem dX5_agedLong_22 : decode cX5_agedLong 22 = .ok (.iconst 1, 1) := by decide +kernel
theorem dX5_agedLong_23 : decode cX5_agedLong 23 = .ok (.iadd, 1) := by decide +kernel
theorem dX5_agedLong_24 : decode cX5_agedLong 24 = .ok (.invokestatic 84, 3) := by decide +kernel
theorem dX5_agedLong_27 : decode cX5_agedLong 27 = .ok (.istore 4, 2) := by decide +kernel
theorem dX5_agedLong_29 : decode cX5_agedLong 29 = .ok (.iconst 0, 1) := by decide +kernel
theorem dX5_agedLong_30 : decode cX5_agedLong 30 = .ok (.istore 5, 2) := by decide +kernel
theorem dX5_agedLong_32 : decode cX5_agedLong 32 = .ok (.iconst 0, 1) := by decide +kernel
theorem dX5_agedLong_33 : decode cX5_agedLong 33 = .ok (.istore 6, 2) := by decide +kernel
theorem dX5_agedLong_35 : decode cX5_agedLong 35 = .ok (.iload 6, 2) := by decide +kernel
theorem dX5_agedLong_37 : decode cX5_agedLong 37 = .ok (.iload 4, 2) := by decide +kernel
theorem dX5_agedLong_39 : decode cX5_agedLong 39 = .ok (.if_icmp .ge 27, 3) := by decide +kernel
theorem dX5_agedLong_42 : decode cX5_agedLong 42 = .ok (.iload 5, 2) := by decide +kernel
theorem dX5_agedLong_44 : decode cX5_agedLong 44 = .ok (.iconst 0, 1) := by decide +kernel
theorem dX5_agedLong_45 : decode cX5_agedLong 45 = .ok (.aload_n 3, 1) := by decide +kernel
theorem dX5_agedLong_46 : decode cX5_agedLong 46 = .ok (.getfield 89, 3) := by decide +kernel
theorem dX5_agedLong_49 : decode cX5_agedLong 49 = .ok (.iload_n 1, 1) := by decide +kernel
theorem dX5_agedLong_50 : decode cX5_agedLong 50 = .ok (.aaload, 1) := by decide +kernel
theorem dX5_agedLong_51 : decode cX5_agedLong 51 = .ok (.iload 6, 2) := by decide +kernel
theorem dX5_agedLong_53 : decode cX5_agedLong 53 = .ok (.iaload, 1) := by decide +kernel
theorem dX5_agedLong_54 : decode cX5_agedLong 54 = .ok (.invokestatic 93, 3) := by decide +kernel
theorem dX5_agedLong_57 : decode cX5_agedLong 57 = .ok (.iadd, 1) := by decide +kernel
theorem dX5_agedLong_58 : decode cX5_agedLong 58 = .ok (.istore 5, 2) := by decide +kernel
theorem dX5_agedLong_60 : decode cX5_agedLong 60 = .ok (.iinc 6 1, 3) := by decide +kernel
theorem dX5_agedLong_63 : decode cX5_agedLong 63 = .ok (.goto (-28), 3) := by decide +kernel
theorem dX5_agedLong_66 : decode cX5_agedLong 66 = .ok (.iload 5, 2) := by decide +kernel
theorem dX5_agedLong_68 : decode cX5_agedLong 68 = .ok (.ireturn, 1) := by decide +kernel
theorem dX5_assign_0 : decode cX5_assign 0 = .ok (.aload_n 0, 1) := by decide +kernel
theorem dX5_assign_1 : decode cX5_assign 1 = .ok (.getfield 68, 3) := by decide +kernel
theorem dX5_assign_4 : decode cX5_assign 4 = .ok (.iload_n 1, 1) := by decide +kernel
theorem dX5_assign_5 : decode cX5_assign 5 = .ok (.aaload, 1) := by decide +kernel
theorem dX5_assign_6 : decode cX5_assign 6 = .ok (.astore_n 3, 1) := by decide +kernel
theorem dX5_assign_7 : decode cX5_assign 7 = .ok (.aload_n 0, 1) := by decide +kernel
theorem dX5_assign_8 : decode cX5_assign 8 = .ok (.getfield 60, 3) := by decide +kernel
theorem dX5_assign_11 : decode cX5_assign 11 = .ok (.astore 4, 2) := by decide +kernel
theorem dX5_assign_13 : decode cX5_assign 13 = .ok (.iconst 0, 1) := by decide +kernel
theorem dX5_assign_14 : decode cX5_assign 14 = .ok (.istore 5, 2) := by decide +kernel
theorem dX5_assign_16 : decode cX5_assign 16 = .ok (.iload 5, 2) := by decide +kernel
theorem dX5_assign_18 : decode cX5_assign 18 = .ok (.bipush 12, 2) := by decide +kernel
theorem dX5_assign_20 : decode cX5_assign 20 = .ok (.if_icmp .ge 15, 3) := by decide +kernel
theorem dX5_assign_23 : decode cX5_assign 23 = .ok (.aload 4, 2) := by decide +kernel
theorem dX5_assign_25 : decode cX5_assign 25 = .ok (.iload 5, 2) := by decide +kernel
theorem dX5_assign_27 : decode cX5_assign 27 = .ok (.iconst 0, 1) := by decide +kernel
theorem dX5_assign_28 : decode cX5_assign 28 = .ok (.iastore, 1) := by decide +kernel
theorem dX5_assign_29 : decode cX5_assign 29 = .ok (.iinc 5 1, 3) := by decide +kernel
theorem dX5_assign_32 : decode cX5_assign 32 = .ok (.goto (-16), 3) := by decide +kernel
theorem dX5_assign_35 : decode cX5_assign 35 = .ok (.iload_n 2, 1) := by decide +kernel
theorem dX5_assign_36 : decode cX5_assign 36 = .ok (.istore 5, 2) := by decide +kernel
theorem dX5_assign_38 : decode cX5_assign 38 = .ok (.iconst 0, 1) := by decide +kernel
theorem dX5_assign_39 : decode cX5_assign 39 = .ok (.istore 6, 2) := by decide +kernel
theorem dX5_assign_41 : decode cX5_assign 41 = .ok (.iload 6, 2) := by decide +kernel
theorem dX5_assign_43 : decode cX5_assign 43 = .ok (.aload_n 3, 1) := by decide +kernel
theorem dX5_assign_44 : decode cX5_assign 44 = .ok (.getfield 72, 3) := by decide +kernel
theorem dX5_assign_47 : decode cX5_assign 47 = .ok (.if_icmp .ge 107, 3) := by decide +kernel
theorem dX5_assign_50 : decode cX5_assign 50 = .ok (.iconst 0, 1) := by decide +kernel
theorem dX5_assign_51 : decode cX5_assign 51 = .ok (.istore 7, 2) := by decide +kernel
theorem dX5_assign_53 : decode cX5_assign 53 = .ok (.iload 7, 2) := by decide +kernel
theorem dX5_assign_55 : decode cX5_assign 55 = .ok (.aload_n 0, 1) := by decide +kernel
theorem dX5_assign_56 : decode cX5_assign 56 = .ok (.invokevirtual 57, 3) := by decide +kernel
theorem dX5_assign_59 : decode cX5_assign 59 = .ok (.if_icmp .ge 89, 3) := by decide +kernel
theorem dX5_assign_62 : decode cX5_assign 62 = .ok (.aload_n 3, 1) := by decide +kernel
theorem dX5_assign_63 : decode cX5_assign 63 = .ok (.getfield 89, 3) := by decide +kernel
theorem dX5_assign_66 : decode cX5_assign 66 = .ok (.iload 7, 2) := by decide +kernel
theorem dX5_assign_68 : decode cX5_assign 68 = .ok (.aaload, 1) := by decide +kernel
theorem dX5_assign_69 : decode cX5_assign 69 = .ok (.iload 6, 2) := by decide +kernel
theorem dX5_assign_71 : decode cX5_assign 71 = .ok (.iaload, 1) := by decide +kernel
theorem dX5_assign_72 : decode cX5_assign 72 = .ok (.ineg, 1) := by decide +kernel
theorem dX5_assign_73 : decode cX5_assign 73 = .ok (.istore 8, 2) := by decide +kernel
theorem dX5_assign_75 : decode cX5_assign 75 = .ok (.iload 8, 2) := by decide +kernel
theorem dX5_assign_77 : decode cX5_assign 77 = .ok (.ifCond .le 65, 3) := by decide +kernel
theorem dX5_assign_80 : decode cX5_assign 80 = .ok (.iload 5, 2) := by decide +kernel
theorem dX5_assign_82 : decode cX5_assign 82 = .ok (.ifCond .le 60, 3) := by decide +kernel
theorem dX5_assign_85 : decode cX5_assign 85 = .ok (.aload_n 3, 1) := by decide +kernel
theorem dX5_assign_86 : decode cX5_assign 86 = .ok (.iload 7, 2) := by decide +kernel
theorem dX5_assign_88 : decode cX5_assign 88 = .ok (.invokevirtual 96, 3) := by decide +kernel
theorem dX5_assign_91 : decode cX5_assign 91 = .ok (.aload_n 0, 1) := by decide +kernel
theorem dX5_assign_92 : decode cX5_assign 92 = .ok (.iload_n 1, 1) := by decide +kernel
theorem dX5_assign_93 : decode cX5_assign 93 = .ok (.iload 7, 2) := by decide +kernel
theorem dX5_assign_95 : decode cX5_assign 95 = .ok (.invokestatic 100, 3) := by decide +kernel
theorem dX5_assign_98 : decode cX5_assign 98 = .ok (.isub, 1) := by decide +kernel
theorem dX5_assign_99 : decode cX5_assign 99 = .ok (.aload 4, 2) := by decide +kernel
theorem dX5_assign_101 : decode cX5_assign 101 = .ok (.iload 7, 2) := by decide +kernel
theorem dX5_assign_103 : decode cX5_assign 103 = .ok (.iaload, 1) := by decide +kernel
theorem dX5_assign_104 : decode cX5_assign 104 = .ok (.isub, 1) := by decide +kernel
theorem dX5_assign_105 : decode cX5_assign 105 = .ok (.istore 9, 2) := by decide +kernel
theorem dX5_assign_107 : decode cX5_assign 107 = .ok (.iconst 0, 1) := by decide +kernel
theorem dX5_assign_108 : decode cX5_assign 108 = .ok (.iload 5, 2) := by decide +kernel
theorem dX5_assign_110 : decode cX5_assign 110 = .ok (.iload 8, 2) := by decide +kernel
theorem dX5_assign_112 : decode cX5_assign 112 = .ok (.iload 9, 2) := by decide +kernel
theorem dX5_assign_114 : decode cX5_assign 114 = .ok (.invokestatic 84, 3) := by decide +kernel
theorem dX5_assign_117 : decode cX5_assign 117 = .ok (.invokestatic 84, 3) := by decide +kernel
theorem dX5_assign_120 : decode cX5_assign 120 = .ok (.invokestatic 93, 3) := by decide +kernel
theorem dX5_assign_123 : decode cX5_assign 123 = .ok (.istore 10, 2) := by decide +kernel
theorem dX5_assign_125 : decode cX5_assign 125 = .ok (.aload 4, 2) := by decide +kernel
theorem dX5_assign_127 : decode cX5_assign 127 = .ok (.iload 7, 2) := by decide +kernel
theorem dX5_assign_129 : decode cX5_assign 129 = .ok (.dup2, 1) := by decide +kernel
theorem dX5_assign_130 : decode cX5_assign 130 = .ok (.iaload, 1) := by decide +kernel
theorem dX5_assign_131 : decode cX5_assign 131 = .ok (.iload 10, 2) := by decide +kernel
theorem dX5_assign_133 : decode cX5_assign 133 = .ok (.iadd, 1) := by decide +kernel
theorem dX5_assign_134 : decode cX5_assign 134 = .ok (.iastore, 1) := by decide +kernel
theorem dX5_assign_135 : decode cX5_assign 135 = .ok (.iload 5, 2) := by decide +kernel
theorem dX5_assign_137 : decode cX5_assign 137 = .ok (.iload 10, 2) := by decide +kernel
theorem dX5_assign_139 : decode cX5_assign 139 = .ok (.isub, 1) := by decide +kernel
theorem dX5_assign_140 : decode cX5_assign 140 = .ok (.istore 5, 2) := by decide +kernel
theorem dX5_assign_142 : decode cX5_assign 142 = .ok (.iinc 7 1, 3) := by decide +kernel
theorem dX5_assign_145 : decode cX5_assign 145 = .ok (.goto (-92), 3) := by decide +kernel
theorem dX5_assign_148 : decode cX5_assign 148 = .ok (.iinc 6 1, 3) := by decide +kernel
theorem dX5_assign_151 : decode cX5_assign 151 = .ok (.goto (-110), 3) := by decide +kernel
theorem dX5_assign_154 : decode cX5_assign 154 = .ok (.iload_n 2, 1) := by decide +kernel
theorem dX5_assign_155 : decode cX5_assign 155 = .ok (.iload 5, 2) := by decide +kernel
theorem dX5_assign_157 : decode cX5_assign 157 = .ok (.isub, 1) := by decide +kernel
theorem dX5_assign_158 : decode cX5_assign 158 = .ok (.ireturn, 1) := by decide +kernel
theorem dX5_assignedTo_0 : decode cX5_assignedTo 0 = .ok (.iconst 0, 1) := by decide +kernel
theorem dX5_assignedTo_1 : decode cX5_assignedTo 1 = .ok (.istore_n 3, 1) := by decide +kernel
theorem dX5_assignedTo_2 : decode cX5_assignedTo 2 = .ok (.iconst 0, 1) := by decide +kernel
theorem dX5_assignedTo_3 : decode cX5_assignedTo 3 = .ok (.istore 4, 2) := by decide +kernel
theorem dX5_assignedTo_5 : decode cX5_assignedTo 5 = .ok (.iload 4, 2) := by decide +kernel
theorem dX5_assignedTo_7 : decode cX5_assignedTo 7 = .ok (.aload_n 0, 1) := by decide +kernel
theorem dX5_assignedTo_8 : decode cX5_assignedTo 8 = .ok (.getfield 9, 3) := by decide +kernel
theorem dX5_assignedTo_11 : decode cX5_assignedTo 11 = .ok (.invokevirtual 15, 3) := by decide +kernel
theorem dX5_assignedTo_14 : decode cX5_assignedTo 14 = .ok (.if_icmp .ge 35, 3) := by decide +kernel
theorem dX5_assignedTo_17 : decode cX5_assignedTo 17 = .ok (.aload_n 0, 1) := by decide +kernel
theorem dX5_assignedTo_18 : decode cX5_assignedTo 18 = .ok (.iload 4, 2) := by decide +kernel
theorem dX5_assignedTo_20 : decode cX5_assignedTo 20 = .ok (.iload_n 1, 1) := by decide +kernel
theorem dX5_assignedTo_21 : decode cX5_assignedTo 21 = .ok (.invokevirtual 21, 3) := by decide +kernel
theorem dX5_assignedTo_24 : decode cX5_assignedTo 24 = .ok (.ifCond .eq 19, 3) := by decide +kernel
theorem dX5_assignedTo_27 : decode cX5_assignedTo 27 = .ok (.iload_n 3, 1) := by decide +kernel
theorem dX5_assignedTo_28 : decode cX5_assignedTo 28 = .ok (.aload_n 0, 1) := by decide +kernel
theorem dX5_assignedTo_29 : decode cX5_assignedTo 29 = .ok (.getfield 9, 3) := by decide +kernel
theorem dX5_assignedTo_32 : decode cX5_assignedTo 32 = .ok (.bipush 7, 2) := by decide +kernel
theorem dX5_assignedTo_34 : decode cX5_assignedTo 34 = .ok (.iload_n 2, 1) := by decide +kernel
theorem dX5_assignedTo_35 : decode cX5_assignedTo 35 = .ok (.iadd, 1) := by decide +kernel
theorem dX5_assignedTo_36 : decode cX5_assignedTo 36 = .ok (.iload 4, 2) := by decide +kernel
theorem dX5_assignedTo_38 : decode cX5_assignedTo 38 = .ok (.invokevirtual 25, 3) := by decide +kernel
theorem dX5_assignedTo_41 : decode cX5_assignedTo 41 = .ok (.iadd, 1) := by decide +kernel
theorem dX5_assignedTo_42 : decode cX5_assignedTo 42 = .ok (.istore_n 3, 1) := by decide +kernel
theorem dX5_assignedTo_43 : decode cX5_assignedTo 43 = .ok (.iinc 4 1, 3) := by decide +kernel
theorem dX5_assignedTo_46 : decode cX5_assignedTo 46 = .ok (.goto (-41), 3) := by decide +kernel
theorem dX5_assignedTo_49 : decode cX5_assignedTo 49 = .ok (.iload_n 3, 1) := by decide +kernel
theorem dX5_assignedTo_50 : decode cX5_assignedTo 50 = .ok (.ireturn, 1) := by decide +kernel
theorem dX5_closeApart_0 : decode cX5_closeApart 0 = .ok (.aload_n 0, 1) := by decide +kernel
theorem dX5_closeApart_1 : decode cX5_closeApart 1 = .ok (.getfield 106, 3) := by decide +kernel
theorem dX5_closeApart_4 : decode cX5_closeApart 4 = .ok (.astore 4, 2) := by decide +kernel
theorem dX5_closeApart_6 : decode cX5_closeApart 6 = .ok (.aload_n 0, 1) := by decide +kernel
theorem dX5_closeApart_7 : decode cX5_closeApart 7 = .ok (.getfield 9, 3) := by decide +kernel
theorem dX5_closeApart_10 : decode cX5_closeApart 10 = .ok (.iconst 5, 1) := by decide +kernel
theorem dX5_closeApart_11 : decode cX5_closeApart 11 = .ok (.iload_n 3, 1) := by decide +kernel
theorem dX5_closeApart_12 : decode cX5_closeApart 12 = .ok (.invokevirtual 25, 3) := by decide +kernel
theorem dX5_closeApart_15 : decode cX5_closeApart 15 = .ok (.istore 5, 2) := by decide +kernel
theorem dX5_closeApart_17 : decode cX5_closeApart 17 = .ok (.aload_n 0, 1) := by decide +kernel
theorem dX5_closeApart_18 : decode cX5_closeApart 18 = .ok (.getfield 9, 3) := by decide +kernel
theorem dX5_closeApart_21 : decode cX5_closeApart 21 = .ok (.iconst 2, 1) := by decide +kernel
theorem dX5_closeApart_22 : decode cX5_closeApart 22 = .ok (.iload_n 3, 1) := by decide +kernel
theorem dX5_closeApart_23 : decode cX5_closeApart 23 = .ok (.invokevirtual 25, 3) := by decide +kernel
theorem dX5_closeApart_26 : decode cX5_closeApart 26 = .ok (.istore 6, 2) := by decide +kernel
theorem dX5_closeApart_28 : decode cX5_closeApart 28 = .ok (.aload 4, 2) := by decide +kernel
theorem dX5_closeApart_30 : decode cX5_closeApart 30 = .ok (.bipush 7, 2) := by decide +kernel
theorem dX5_closeApart_32 : decode cX5_closeApart 32 = .ok (.iload 5, 2) := by decide +kernel
theorem dX5_closeApart_34 : decode cX5_closeApart 34 = .ok (.invokevirtual 25, 3) := by decide +kernel
theorem dX5_closeApart_37 : decode cX5_closeApart 37 = .ok (.iload 6, 2) := by decide +kernel
theorem dX5_closeApart_39 : decode cX5_closeApart 39 = .ok (.if_icmp .ge 4, 3) := by decide +kernel
theorem dX5_closeApart_42 : decode cX5_closeApart 42 = .ok (.return_, 1) := by decide +kernel
theorem dX5_closeApart_43 : decode cX5_closeApart 43 = .ok (.aload_n 0, 1) := by decide +kernel
theorem dX5_closeApart_44 : decode cX5_closeApart 44 = .ok (.iload 5, 2) := by decide +kernel
theorem dX5_closeApart_46 : decode cX5_closeApart 46 = .ok (.iload 6, 2) := by decide +kernel
theorem dX5_closeApart_48 : decode cX5_closeApart 48 = .ok (.invokestatic 153, 3) := by decide +kernel
theorem dX5_closeApart_51 : decode cX5_closeApart 51 = .ok (.aload_n 0, 1) := by decide +kernel
theorem dX5_closeApart_52 : decode cX5_closeApart 52 = .ok (.invokestatic 157, 3) := by decide +kernel
theorem dX5_closeApart_55 : decode cX5_closeApart 55 = .ok (.istore 7, 2) := by decide +kernel
theorem dX5_closeApart_57 : decode cX5_closeApart 57 = .ok (.aload_n 0, 1) := by decide +kernel
theorem dX5_closeApart_58 : decode cX5_closeApart 58 = .ok (.iload 7, 2) := by decide +kernel
theorem dX5_closeApart_60 : decode cX5_closeApart 60 = .ok (.invokevirtual 29, 3) := by decide +kernel
theorem dX5_closeApart_63 : decode cX5_closeApart 63 = .ok (.ifCond .ne 4, 3) := by decide +kernel
theorem dX5_closeApart_66 : decode cX5_closeApart 66 = .ok (.return_, 1) := by decide +kernel
theorem dX5_closeApart_67 : decode cX5_closeApart 67 = .ok (.iload 6, 2) := by decide +kernel
theorem dX5_closeApart_69 : decode cX5_closeApart 69 = .ok (.i2l, 1) := by decide +kernel
theorem dX5_closeApart_70 : decode cX5_closeApart 70 = .ok (.aload_n 0, 1) := by decide +kernel
theorem dX5_closeApart_71 : decode cX5_closeApart 71 = .ok (.iload_n 1, 1) := by decide +kernel
theorem dX5_closeApart_72 : decode cX5_closeApart 72 = .ok (.invokevirtual 123, 3) := by decide +kernel
theorem dX5_closeApart_75 : decode cX5_closeApart 75 = .ok (.i2l, 1) := by decide +kernel
theorem dX5_closeApart_76 : decode cX5_closeApart 76 = .ok (.lmul, 1) := by decide +kernel
theorem dX5_closeApart_77 : decode cX5_closeApart 77 = .ok (.lstore 8, 2) := by decide +kernel
theorem dX5_closeApart_79 : decode cX5_closeApart 79 = .ok (.aload_n 0, 1) := by decide +kernel
theorem dX5_closeApart_80 : decode cX5_closeApart 80 = .ok (.getfield 142, 3) := by decide +kernel
theorem dX5_closeApart_83 : decode cX5_closeApart 83 = .ok (.iload 7, 2) := by decide +kernel
theorem dX5_closeApart_85 : decode cX5_closeApart 85 = .ok (.dup2, 1) := by decide +kernel
theorem dX5_closeApart_86 : decode cX5_closeApart 86 = .ok (.laload, 1) := by decide +kernel
theorem dX5_closeApart_87 : decode cX5_closeApart 87 = .ok (.lload 8, 2) := by decide +kernel
theorem dX5_closeApart_89 : decode cX5_closeApart 89 = .ok (.lsub, 1) := by decide +kernel
theorem dX5_closeApart_90 : decode cX5_closeApart 90 = .ok (.lastore, 1) := by decide +kernel
theorem dX5_closeApart_91 : decode cX5_closeApart 91 = .ok (.aload_n 0, 1) := by decide +kernel
theorem dX5_closeApart_92 : decode cX5_closeApart 92 = .ok (.dup, 1) := by decide +kernel
theorem dX5_closeApart_93 : decode cX5_closeApart 93 = .ok (.getfield 145, 3) := by decide +kernel
theorem dX5_closeApart_96 : decode cX5_closeApart 96 = .ok (.lload 8, 2) := by decide +kernel
theorem dX5_closeApart_98 : decode cX5_closeApart 98 = .ok (.ladd, 1) := by decide +kernel
theorem dX5_closeApart_99 : decode cX5_closeApart 99 = .ok (.putfield 145, 3) := by decide +kernel
theorem dX5_closeApart_102 : decode cX5_closeApart 102 = .ok (.aload_n 0, 1) := by decide +kernel
theorem dX5_closeApart_103 : decode cX5_closeApart 103 = .ok (.getfield 68, 3) := by decide +kernel
theorem dX5_closeApart_106 : decode cX5_closeApart 106 = .ok (.iload_n 1, 1) := by decide +kernel
theorem dX5_closeApart_107 : decode cX5_closeApart 107 = .ok (.aaload, 1) := by decide +kernel
theorem dX5_closeApart_108 : decode cX5_closeApart 108 = .ok (.getfield 126, 3) := by decide +kernel
theorem dX5_closeApart_111 : decode cX5_closeApart 111 = .ok (.iload_n 2, 1) := by decide +kernel
theorem dX5_closeApart_112 : decode cX5_closeApart 112 = .ok (.dup2, 1) := by decide +kernel
theorem dX5_closeApart_113 : decode cX5_closeApart 113 = .ok (.laload, 1) := by decide +kernel
theorem dX5_closeApart_114 : decode cX5_closeApart 114 = .ok (.iload 6, 2) := by decide +kernel
theorem dX5_closeApart_116 : decode cX5_closeApart 116 = .ok (.i2l, 1) := by decide +kernel
theorem dX5_closeApart_117 : decode cX5_closeApart 117 = .ok (.ladd, 1) := by decide +kernel
theorem dX5_closeApart_118 : decode cX5_closeApart 118 = .ok (.lastore, 1) := by decide +kernel
theorem dX5_closeApart_119 : decode cX5_closeApart 119 = .ok (.iconst 0, 1) := by decide +kernel
theorem dX5_closeApart_120 : decode cX5_closeApart 120 = .ok (.istore 10, 2) := by decide +kernel
theorem dX5_closeApart_122 : decode cX5_closeApart 122 = .ok (.iload 10, 2) := by decide +kernel
theorem dX5_closeApart_124 : decode cX5_closeApart 124 = .ok (.aload_n 0, 1) := by decide +kernel
theorem dX5_closeApart_125 : decode cX5_closeApart 125 = .ok (.getfield 161, 3) := by decide +kernel
theorem dX5_closeApart_128 : decode cX5_closeApart 128 = .ok (.if_icmp .ge 76, 3) := by decide +kernel
theorem dX5_closeApart_131 : decode cX5_closeApart 131 = .ok (.aload_n 0, 1) := by decide +kernel
theorem dX5_closeApart_132 : decode cX5_closeApart 132 = .ok (.getfield 164, 3) := by decide +kernel
theorem dX5_closeApart_135 : decode cX5_closeApart 135 = .ok (.iload 10, 2) := by decide +kernel
theorem dX5_closeApart_137 : decode cX5_closeApart 137 = .ok (.iaload, 1) := by decide +kernel
theorem dX5_closeApart_138 : decode cX5_closeApart 138 = .ok (.istore 11, 2) := by decide +kernel
theorem dX5_closeApart_140 : decode cX5_closeApart 140 = .ok (.iload 6, 2) := by decide +kernel
theorem dX5_closeApart_142 : decode cX5_closeApart 142 = .ok (.i2l, 1) := by decide +kernel
theorem dX5_closeApart_143 : decode cX5_closeApart 143 = .ok (.aload 4, 2) := by decide +kernel
theorem dX5_closeApart_145 : decode cX5_closeApart 145 = .ok (.iconst 4, 1) := by decide +kernel
theorem dX5_closeApart_146 : decode cX5_closeApart 146 = .ok (.iload 11, 2) := by decide +kernel
theorem dX5_closeApart_148 : decode cX5_closeApart 148 = .ok (.invokevirtual 25, 3) := by decide +kernel
theorem dX5_closeApart_151 : decode cX5_closeApart 151 = .ok (.i2l, 1) := by decide +kernel
theorem dX5_closeApart_152 : decode cX5_closeApart 152 = .ok (.lmul, 1) := by decide +kernel
theorem dX5_closeApart_153 : decode cX5_closeApart 153 = .ok (.lstore 12, 2) := by decide +kernel
theorem dX5_closeApart_155 : decode cX5_closeApart 155 = .ok (.aload_n 0, 1) := by decide +kernel
theorem dX5_closeApart_156 : decode cX5_closeApart 156 = .ok (.aload 4, 2) := by decide +kernel
theorem dX5_closeApart_158 : decode cX5_closeApart 158 = .ok (.iconst 0, 1) := by decide +kernel
theorem dX5_closeApart_159 : decode cX5_closeApart 159 = .ok (.iload 11, 2) := by decide +kernel
theorem dX5_closeApart_161 : decode cX5_closeApart 161 = .ok (.invokevirtual 25, 3) := by decide +kernel
theorem dX5_closeApart_164 : decode cX5_closeApart 164 = .ok (.aload 4, 2) := by decide +kernel
theorem dX5_closeApart_166 : decode cX5_closeApart 166 = .ok (.iconst 1, 1) := by decide +kernel
theorem dX5_closeApart_167 : decode cX5_closeApart 167 = .ok (.iload 11, 2) := by decide +kernel
theorem dX5_closeApart_169 : decode cX5_closeApart 169 = .ok (.invokevirtual 25, 3) := by decide +kernel
theorem dX5_closeApart_172 : decode cX5_closeApart 172 = .ok (.lload 12, 2) := by decide +kernel
theorem dX5_closeApart_174 : decode cX5_closeApart 174 = .ok (.invokevirtual 138, 3) := by decide +kernel
theorem dX5_closeApart_177 : decode cX5_closeApart 177 = .ok (.aload 4, 2) := by decide +kernel
theorem dX5_closeApart_179 : decode cX5_closeApart 179 = .ok (.bipush 7, 2) := by decide +kernel
theorem dX5_closeApart_181 : decode cX5_closeApart 181 = .ok (.iload 11, 2) := by decide +kernel
theorem dX5_closeApart_183 : decode cX5_closeApart 183 = .ok (.aload 4, 2) := by decide +kernel
theorem dX5_closeApart_185 : decode cX5_closeApart 185 = .ok (.bipush 7, 2) := by decide +kernel
theorem dX5_closeApart_187 : decode cX5_closeApart 187 = .ok (.iload 11, 2) := by decide +kernel
theorem dX5_closeApart_189 : decode cX5_closeApart 189 = .ok (.invokevirtual 25, 3) := by decide +kernel
theorem dX5_closeApart_192 : decode cX5_closeApart 192 = .ok (.iload 6, 2) := by decide +kernel
theorem dX5_closeApart_194 : decode cX5_closeApart 194 = .ok (.isub, 1) := by decide +kernel
theorem dX5_closeApart_195 : decode cX5_closeApart 195 = .ok (.invokevirtual 64, 3) := by decide +kernel
theorem dX5_closeApart_198 : decode cX5_closeApart 198 = .ok (.iinc 10 1, 3) := by decide +kernel
theorem dX5_closeApart_201 : decode cX5_closeApart 201 = .ok (.goto (-79), 3) := by decide +kernel
theorem dX5_closeApart_204 : decode cX5_closeApart 204 = .ok (.aload_n 0, 1) := by decide +kernel
theorem dX5_closeApart_205 : decode cX5_closeApart 205 = .ok (.getfield 9, 3) := by decide +kernel
theorem dX5_closeApart_208 : decode cX5_closeApart 208 = .ok (.bipush 6, 2) := by decide +kernel
theorem dX5_closeApart_210 : decode cX5_closeApart 210 = .ok (.iload_n 3, 1) := by decide +kernel
theorem dX5_closeApart_211 : decode cX5_closeApart 211 = .ok (.iload 6, 2) := by decide +kernel
theorem dX5_closeApart_213 : decode cX5_closeApart 213 = .ok (.invokevirtual 64, 3) := by decide +kernel
theorem dX5_closeApart_216 : decode cX5_closeApart 216 = .ok (.aload_n 0, 1) := by decide +kernel
theorem dX5_closeApart_217 : decode cX5_closeApart 217 = .ok (.iconst 4, 1) := by decide +kernel
theorem dX5_closeApart_218 : decode cX5_closeApart 218 = .ok (.iload_n 1, 1) := by decide +kernel
theorem dX5_closeApart_219 : decode cX5_closeApart 219 = .ok (.iload 7, 2) := by decide +kernel
theorem dX5_closeApart_221 : decode cX5_closeApart 221 = .ok (.iload_n 2, 1) := by decide +kernel
theorem dX5_closeApart_222 : decode cX5_closeApart 222 = .ok (.iload 6, 2) := by decide +kernel
theorem dX5_closeApart_224 : decode cX5_closeApart 224 = .ok (.invokevirtual 149, 3) := by decide +kernel
theorem dX5_closeApart_227 : decode cX5_closeApart 227 = .ok (.return_, 1) := by decide +kernel
theorem dX5_closeDue_0 : decode cX5_closeDue 0 = .ok (.aload_n 0, 1) := by decide +kernel
theorem dX5_closeDue_1 : decode cX5_closeDue 1 = .ok (.getfield 9, 3) := by decide +kernel
theorem dX5_closeDue_4 : decode cX5_closeDue 4 = .ok (.astore_n 2, 1) := by decide +kernel
theorem dX5_closeDue_5 : decode cX5_closeDue 5 = .ok (.iconst 0, 1) := by decide +kernel
theorem dX5_closeDue_6 : decode cX5_closeDue 6 = .ok (.istore_n 3, 1) := by decide +kernel
theorem dX5_closeDue_7 : decode cX5_closeDue 7 = .ok (.iload_n 3, 1) := by decide +kernel
theorem dX5_closeDue_8 : decode cX5_closeDue 8 = .ok (.aload_n 2, 1) := by decide +kernel
theorem dX5_closeDue_9 : decode cX5_closeDue 9 = .ok (.invokevirtual 15, 3) := by decide +kernel
theorem dX5_closeDue_12 : decode cX5_closeDue 12 = .ok (.if_icmp .ge 93, 3) := by decide +kernel
theorem dX5_closeDue_15 : decode cX5_closeDue 15 = .ok (.aload_n 0, 1) := by decide +kernel
theorem dX5_closeDue_16 : decode cX5_closeDue 16 = .ok (.iload_n 3, 1) := by decide +kernel
theorem dX5_closeDue_17 : decode cX5_closeDue 17 = .ok (.iload_n 1, 1) := by decide +kernel
theorem dX5_closeDue_18 : decode cX5_closeDue 18 = .ok (.invokevirtual 21, 3) := by decide +kernel
theorem dX5_closeDue_21 : decode cX5_closeDue 21 = .ok (.ifCond .eq 78, 3) := by decide +kernel
theorem dX5_closeDue_24 : decode cX5_closeDue 24 = .ok (.aload_n 2, 1) := by decide +kernel
theorem dX5_closeDue_25 : decode cX5_closeDue 25 = .ok (.iconst 3, 1) := by decide +kernel
theorem dX5_closeDue_26 : decode cX5_closeDue 26 = .ok (.iload_n 3, 1) := by decide +kernel
theorem dX5_closeDue_27 : decode cX5_closeDue 27 = .ok (.invokevirtual 25, 3) := by decide +kernel
theorem dX5_closeDue_30 : decode cX5_closeDue 30 = .ok (.aload_n 0, 1) := by decide +kernel
theorem dX5_closeDue_31 : decode cX5_closeDue 31 = .ok (.getfield 78, 3) := by decide +kernel
theorem dX5_closeDue_34 : decode cX5_closeDue 34 = .ok (.if_icmp .gt 65, 3) := by decide +kernel
theorem dX5_closeDue_37 : decode cX5_closeDue 37 = .ok (.aload_n 2, 1) := by decide +kernel
theorem dX5_closeDue_38 : decode cX5_closeDue 38 = .ok (.iconst 0, 1) := by decide +kernel
theorem dX5_closeDue_39 : decode cX5_closeDue 39 = .ok (.iload_n 3, 1) := by decide +kernel
theorem dX5_closeDue_40 : decode cX5_closeDue 40 = .ok (.invokevirtual 25, 3) := by decide +kernel
theorem dX5_closeDue_43 : decode cX5_closeDue 43 = .ok (.istore 4, 2) := by decide +kernel
theorem dX5_closeDue_45 : decode cX5_closeDue 45 = .ok (.aload_n 0, 1) := by decide +kernel
theorem dX5_closeDue_46 : decode cX5_closeDue 46 = .ok (.iload 4, 2) := by decide +kernel
theorem dX5_closeDue_48 : decode cX5_closeDue 48 = .ok (.invokevirtual 29, 3) := by decide +kernel
theorem dX5_closeDue_51 : decode cX5_closeDue 51 = .ok (.ifCond .eq 24, 3) := by decide +kernel
theorem dX5_closeDue_54 : decode cX5_closeDue 54 = .ok (.aload_n 2, 1) := by decide +kernel
theorem dX5_closeDue_55 : decode cX5_closeDue 55 = .ok (.iconst 5, 1) := by decide +kernel
theorem dX5_closeDue_56 : decode cX5_closeDue 56 = .ok (.iload_n 3, 1) := by decide +kernel
theorem dX5_closeDue_57 : decode cX5_closeDue 57 = .ok (.invokevirtual 25, 3) := by decide +kernel
theorem dX5_closeDue_60 : decode cX5_closeDue 60 = .ok (.iconst (-1), 1) := by decide +kernel
theorem dX5_closeDue_61 : decode cX5_closeDue 61 = .ok (.if_icmp .ne 14, 3) := by decide +kernel
theorem dX5_closeDue_64 : decode cX5_closeDue 64 = .ok (.aload_n 0, 1) := by decide +kernel
theorem dX5_closeDue_65 : decode cX5_closeDue 65 = .ok (.iload_n 1, 1) := by decide +kernel
theorem dX5_closeDue_66 : decode cX5_closeDue 66 = .ok (.iload 4, 2) := by decide +kernel
theorem dX5_closeDue_68 : decode cX5_closeDue 68 = .ok (.iload_n 3, 1) := by decide +kernel
theorem dX5_closeDue_69 : decode cX5_closeDue 69 = .ok (.invokestatic 113, 3) := by decide +kernel
theorem dX5_closeDue_72 : decode cX5_closeDue 72 = .ok (.goto 20, 3) := by decide +kernel
theorem dX5_closeDue_75 : decode cX5_closeDue 75 = .ok (.aload_n 0, 1) := by decide +kernel
theorem dX5_closeDue_76 : decode cX5_closeDue 76 = .ok (.iload 4, 2) := by decide +kernel
theorem dX5_closeDue_78 : decode cX5_closeDue 78 = .ok (.invokevirtual 29, 3) := by decide +kernel
theorem dX5_closeDue_81 : decode cX5_closeDue 81 = .ok (.ifCond .eq 11, 3) := by decide +kernel
theorem dX5_closeDue_84 : decode cX5_closeDue 84 = .ok (.aload_n 0, 1) := by decide +kernel
theorem dX5_closeDue_85 : decode cX5_closeDue 85 = .ok (.iload_n 1, 1) := by decide +kernel
theorem dX5_closeDue_86 : decode cX5_closeDue 86 = .ok (.iload 4, 2) := by decide +kernel
theorem dX5_closeDue_88 : decode cX5_closeDue 88 = .ok (.iload_n 3, 1) := by decide +kernel
theorem dX5_closeDue_89 : decode cX5_closeDue 89 = .ok (.invokestatic 117, 3) := by decide +kernel
theorem dX5_closeDue_92 : decode cX5_closeDue 92 = .ok (.aload_n 2, 1) := by decide +kernel
theorem dX5_closeDue_93 : decode cX5_closeDue 93 = .ok (.iconst 4, 1) := by decide +kernel
theorem dX5_closeDue_94 : decode cX5_closeDue 94 = .ok (.iload_n 3, 1) := by decide +kernel
theorem dX5_closeDue_95 : decode cX5_closeDue 95 = .ok (.iconst 0, 1) := by decide +kernel
theorem dX5_closeDue_96 : decode cX5_closeDue 96 = .ok (.invokevirtual 64, 3) := by decide +kernel
theorem dX5_closeDue_99 : decode cX5_closeDue 99 = .ok (.iinc 3 1, 3) := by decide +kernel
theorem dX5_closeDue_102 : decode cX5_closeDue 102 = .ok (.goto (-95), 3) := by decide +kernel
theorem dX5_closeDue_105 : decode cX5_closeDue 105 = .ok (.return_, 1) := by decide +kernel
theorem dX5_closeNet_0 : decode cX5_closeNet 0 = .ok (.aload_n 0, 1) := by decide +kernel
theorem dX5_closeNet_1 : decode cX5_closeNet 1 = .ok (.getfield 9, 3) := by decide +kernel
theorem dX5_closeNet_4 : decode cX5_closeNet 4 = .ok (.astore 4, 2) := by decide +kernel
theorem dX5_closeNet_6 : decode cX5_closeNet 6 = .ok (.aload_n 0, 1) := by decide +kernel
theorem dX5_closeNet_7 : decode cX5_closeNet 7 = .ok (.getfield 68, 3) := by decide +kernel
theorem dX5_closeNet_10 : decode cX5_closeNet 10 = .ok (.iload_n 1, 1) := by decide +kernel
theorem dX5_closeNet_11 : decode cX5_closeNet 11 = .ok (.aaload, 1) := by decide +kernel
theorem dX5_closeNet_12 : decode cX5_closeNet 12 = .ok (.astore 5, 2) := by decide +kernel
theorem dX5_closeNet_14 : decode cX5_closeNet 14 = .ok (.iconst 0, 1) := by decide +kernel
theorem dX5_closeNet_15 : decode cX5_closeNet 15 = .ok (.istore 6, 2) := by decide +kernel
theorem dX5_closeNet_17 : decode cX5_closeNet 17 = .ok (.iload 6, 2) := by decide +kernel
theorem dX5_closeNet_19 : decode cX5_closeNet 19 = .ok (.aload_n 0, 1) := by decide +kernel
theorem dX5_closeNet_20 : decode cX5_closeNet 20 = .ok (.invokevirtual 57, 3) := by decide +kernel
theorem dX5_closeNet_23 : decode cX5_closeNet 23 = .ok (.if_icmp .ge 159, 3) := by decide +kernel
theorem dX5_closeNet_26 : decode cX5_closeNet 26 = .ok (.aload 4, 2) := by decide +kernel
theorem dX5_closeNet_28 : decode cX5_closeNet 28 = .ok (.bipush 7, 2) := by decide +kernel
theorem dX5_closeNet_30 : decode cX5_closeNet 30 = .ok (.iload 6, 2) := by decide +kernel
theorem dX5_closeNet_32 : decode cX5_closeNet 32 = .ok (.iadd, 1) := by decide +kernel
theorem dX5_closeNet_33 : decode cX5_closeNet 33 = .ok (.iload_n 3, 1) := by decide +kernel
theorem dX5_closeNet_34 : decode cX5_closeNet 34 = .ok (.invokevirtual 25, 3) := by decide +kernel
theorem dX5_closeNet_37 : decode cX5_closeNet 37 = .ok (.aload 5, 2) := by decide +kernel
theorem dX5_closeNet_39 : decode cX5_closeNet 39 = .ok (.iload 6, 2) := by decide +kernel
theorem dX5_closeNet_41 : decode cX5_closeNet 41 = .ok (.invokevirtual 96, 3) := by decide +kernel
theorem dX5_closeNet_44 : decode cX5_closeNet 44 = .ok (.invokestatic 84, 3) := by decide +kernel
theorem dX5_closeNet_47 : decode cX5_closeNet 47 = .ok (.istore 7, 2) := by decide +kernel
theorem dX5_closeNet_49 : decode cX5_closeNet 49 = .ok (.iload 7, 2) := by decide +kernel
theorem dX5_closeNet_51 : decode cX5_closeNet 51 = .ok (.aload 5, 2) := by decide +kernel
theorem dX5_closeNet_53 : decode cX5_closeNet 53 = .ok (.iload_n 2, 1) := by decide +kernel
theorem dX5_closeNet_54 : decode cX5_closeNet 54 = .ok (.invokevirtual 120, 3) := by decide +kernel
theorem dX5_closeNet_57 : decode cX5_closeNet 57 = .ok (.invokestatic 84, 3) := by decide +kernel
theorem dX5_closeNet_60 : decode cX5_closeNet 60 = .ok (.istore 8, 2) := by decide +kernel
theorem dX5_closeNet_62 : decode cX5_closeNet 62 = .ok (.iload 8, 2) := by decide +kernel
theorem dX5_closeNet_64 : decode cX5_closeNet 64 = .ok (.ifCond .le 112, 3) := by decide +kernel
theorem dX5_closeNet_67 : decode cX5_closeNet 67 = .ok (.iload 8, 2) := by decide +kernel
theorem dX5_closeNet_69 : decode cX5_closeNet 69 = .ok (.i2l, 1) := by decide +kernel
theorem dX5_closeNet_70 : decode cX5_closeNet 70 = .ok (.aload_n 0, 1) := by decide +kernel
theorem dX5_closeNet_71 : decode cX5_closeNet 71 = .ok (.iload_n 1, 1) := by decide +kernel
theorem dX5_closeNet_72 : decode cX5_closeNet 72 = .ok (.invokevirtual 123, 3) := by decide +kernel
theorem dX5_closeNet_75 : decode cX5_closeNet 75 = .ok (.i2l, 1) := by decide +kernel
theorem dX5_closeNet_76 : decode cX5_closeNet 76 = .ok (.lmul, 1) := by decide +kernel
theorem dX5_closeNet_77 : decode cX5_closeNet 77 = .ok (.lstore 9, 2) := by decide +kernel
theorem dX5_closeNet_79 : decode cX5_closeNet 79 = .ok (.aload 5, 2) := by decide +kernel
theorem dX5_closeNet_81 : decode cX5_closeNet 81 = .ok (.getfield 126, 3) := by decide +kernel
theorem dX5_closeNet_84 : decode cX5_closeNet 84 = .ok (.iload_n 2, 1) := by decide +kernel
theorem dX5_closeNet_85 : decode cX5_closeNet 85 = .ok (.dup2, 1) := by decide +kernel
theorem dX5_closeNet_86 : decode cX5_closeNet 86 = .ok (.laload, 1) := by decide +kernel
theorem dX5_closeNet_87 : decode cX5_closeNet 87 = .ok (.iload 8, 2) := by decide +kernel
theorem dX5_closeNet_89 : decode cX5_closeNet 89 = .ok (.i2l, 1) := by decide +kernel
theorem dX5_closeNet_90 : decode cX5_closeNet 90 = .ok (.ladd, 1) := by decide +kernel
theorem dX5_closeNet_91 : decode cX5_closeNet 91 = .ok (.lastore, 1) := by decide +kernel
theorem dX5_closeNet_92 : decode cX5_closeNet 92 = .ok (.aload 5, 2) := by decide +kernel
theorem dX5_closeNet_94 : decode cX5_closeNet 94 = .ok (.iload_n 2, 1) := by decide +kernel
theorem dX5_closeNet_95 : decode cX5_closeNet 95 = .ok (.iload 8, 2) := by decide +kernel
theorem dX5_closeNet_97 : decode cX5_closeNet 97 = .ok (.invokevirtual 130, 3) := by decide +kernel
theorem dX5_closeNet_100 : decode cX5_closeNet 100 = .ok (.aload 5, 2) := by decide +kernel
theorem dX5_closeNet_102 : decode cX5_closeNet 102 = .ok (.iload 6, 2) := by decide +kernel
theorem dX5_closeNet_104 : decode cX5_closeNet 104 = .ok (.iload 8, 2) := by decide +kernel
theorem dX5_closeNet_106 : decode cX5_closeNet 106 = .ok (.invokevirtual 130, 3) := by decide +kernel
theorem dX5_closeNet_109 : decode cX5_closeNet 109 = .ok (.aload_n 0, 1) := by decide +kernel
theorem dX5_closeNet_110 : decode cX5_closeNet 110 = .ok (.iload_n 2, 1) := by decide +kernel
theorem dX5_closeNet_111 : decode cX5_closeNet 111 = .ok (.iload 6, 2) := by decide +kernel
theorem dX5_closeNet_113 : decode cX5_closeNet 113 = .ok (.aload 5, 2) := by decide +kernel
theorem dX5_closeNet_115 : decode cX5_closeNet 115 = .ok (.iload 8, 2) := by decide +kernel
theorem dX5_closeNet_117 : decode cX5_closeNet 117 = .ok (.invokevirtual 134, 3) := by decide +kernel
theorem dX5_closeNet_120 : decode cX5_closeNet 120 = .ok (.invokevirtual 138, 3) := by decide +kernel
theorem dX5_closeNet_123 : decode cX5_closeNet 123 = .ok (.aload_n 0, 1) := by decide +kernel
theorem dX5_closeNet_124 : decode cX5_closeNet 124 = .ok (.getfield 142, 3) := by decide +kernel
theorem dX5_closeNet_127 : decode cX5_closeNet 127 = .ok (.iload 6, 2) := by decide +kernel
theorem dX5_closeNet_129 : decode cX5_closeNet 129 = .ok (.dup2, 1) := by decide +kernel
theorem dX5_closeNet_130 : decode cX5_closeNet 130 = .ok (.laload, 1) := by decide +kernel
theorem dX5_closeNet_131 : decode cX5_closeNet 131 = .ok (.lload 9, 2) := by decide +kernel
theorem dX5_closeNet_133 : decode cX5_closeNet 133 = .ok (.lsub, 1) := by decide +kernel
theorem dX5_closeNet_134 : decode cX5_closeNet 134 = .ok (.lastore, 1) := by decide +kernel
theorem dX5_closeNet_135 : decode cX5_closeNet 135 = .ok (.aload_n 0, 1) := by decide +kernel
theorem dX5_closeNet_136 : decode cX5_closeNet 136 = .ok (.dup, 1) := by decide +kernel
theorem dX5_closeNet_137 : decode cX5_closeNet 137 = .ok (.getfield 145, 3) := by decide +kernel
theorem dX5_closeNet_140 : decode cX5_closeNet 140 = .ok (.lload 9, 2) := by decide +kernel
theorem dX5_closeNet_142 : decode cX5_closeNet 142 = .ok (.ladd, 1) := by decide +kernel
theorem dX5_closeNet_143 : decode cX5_closeNet 143 = .ok (.putfield 145, 3) := by decide +kernel
theorem dX5_closeNet_146 : decode cX5_closeNet 146 = .ok (.aload 4, 2) := by decide +kernel
theorem dX5_closeNet_148 : decode cX5_closeNet 148 = .ok (.bipush 6, 2) := by decide +kernel
theorem dX5_closeNet_150 : decode cX5_closeNet 150 = .ok (.iload_n 3, 1) := by decide +kernel
theorem dX5_closeNet_151 : decode cX5_closeNet 151 = .ok (.aload 4, 2) := by decide +kernel
theorem dX5_closeNet_153 : decode cX5_closeNet 153 = .ok (.bipush 6, 2) := by decide +kernel
theorem dX5_closeNet_155 : decode cX5_closeNet 155 = .ok (.iload_n 3, 1) := by decide +kernel
theorem dX5_closeNet_156 : decode cX5_closeNet 156 = .ok (.invokevirtual 25, 3) := by decide +kernel
theorem dX5_closeNet_159 : decode cX5_closeNet 159 = .ok (.iload 8, 2) := by decide +kernel
theorem dX5_closeNet_161 : decode cX5_closeNet 161 = .ok (.iadd, 1) := by decide +kernel
theorem dX5_closeNet_162 : decode cX5_closeNet 162 = .ok (.invokevirtual 64, 3) := by decide +kernel
theorem dX5_closeNet_165 : decode cX5_closeNet 165 = .ok (.aload_n 0, 1) := by decide +kernel
theorem dX5_closeNet_166 : decode cX5_closeNet 166 = .ok (.iconst 4, 1) := by decide +kernel
theorem dX5_closeNet_167 : decode cX5_closeNet 167 = .ok (.iload_n 1, 1) := by decide +kernel
theorem dX5_closeNet_168 : decode cX5_closeNet 168 = .ok (.iload 6, 2) := by decide +kernel
theorem dX5_closeNet_170 : decode cX5_closeNet 170 = .ok (.iload_n 2, 1) := by decide +kernel
theorem dX5_closeNet_171 : decode cX5_closeNet 171 = .ok (.iload 8, 2) := by decide +kernel
theorem dX5_closeNet_173 : decode cX5_closeNet 173 = .ok (.invokevirtual 149, 3) := by decide +kernel
theorem dX5_closeNet_176 : decode cX5_closeNet 176 = .ok (.iinc 6 1, 3) := by decide +kernel
theorem dX5_closeNet_179 : decode cX5_closeNet 179 = .ok (.goto (-162), 3) := by decide +kernel
theorem dX5_closeNet_182 : decode cX5_closeNet 182 = .ok (.return_, 1) := by decide +kernel
theorem dX5_giveApart_0 : decode cX5_giveApart 0 = .ok (.aload_n 0, 1) := by decide +kernel
theorem dX5_giveApart_1 : decode cX5_giveApart 1 = .ok (.getfield 106, 3) := by decide +kernel
