theorem dX0_init_0 : decode cX0_init 0 = .ok (.aload_n 0, 1) := by decide +kernel
theorem dX0_init_1 : decode cX0_init 1 = .ok (.invokespecial 3, 3) := by decide +kernel
theorem dX0_init_4 : decode cX0_init 4 = .ok (.aload_n 0, 1) := by decide +kernel
theorem dX0_init_5 : decode cX0_init 5 = .ok (.bipush 8, 2) := by decide +kernel
theorem dX0_init_7 : decode cX0_init 7 = .ok (.newarray .int, 2) := by decide +kernel
theorem dX0_init_9 : decode cX0_init 9 = .ok (.putfield 9, 3) := by decide +kernel
theorem dX0_init_12 : decode cX0_init 12 = .ok (.aload_n 0, 1) := by decide +kernel
theorem dX0_init_13 : decode cX0_init 13 = .ok (.aload_n 1, 1) := by decide +kernel
theorem dX0_init_14 : decode cX0_init 14 = .ok (.putfield 15, 3) := by decide +kernel
theorem dX0_init_17 : decode cX0_init 17 = .ok (.aload_n 0, 1) := by decide +kernel
theorem dX0_init_18 : decode cX0_init 18 = .ok (.aload_n 2, 1) := by decide +kernel
theorem dX0_init_19 : decode cX0_init 19 = .ok (.putfield 19, 3) := by decide +kernel
theorem dX0_init_22 : decode cX0_init 22 = .ok (.return_, 1) := by decide +kernel
theorem dX0_roomComeTo_0 : decode cX0_roomComeTo 0 = .ok (.aload_n 0, 1) := by decide +kernel
theorem dX0_roomComeTo_1 : decode cX0_roomComeTo 1 = .ok (.getfield 15, 3) := by decide +kernel
theorem dX0_roomComeTo_4 : decode cX0_roomComeTo 4 = .ok (.aload_n 0, 1) := by decide +kernel
theorem dX0_roomComeTo_5 : decode cX0_roomComeTo 5 = .ok (.getfield 19, 3) := by decide +kernel
theorem dX0_roomComeTo_8 : decode cX0_roomComeTo 8 = .ok (.getfield 23, 3) := by decide +kernel
theorem dX0_roomComeTo_11 : decode cX0_roomComeTo 11 = .ok (.iload_n 1, 1) := by decide +kernel
theorem dX0_roomComeTo_12 : decode cX0_roomComeTo 12 = .ok (.iaload, 1) := by decide +kernel
theorem dX0_roomComeTo_13 : decode cX0_roomComeTo 13 = .ok (.aload_n 0, 1) := by decide +kernel
theorem dX0_roomComeTo_14 : decode cX0_roomComeTo 14 = .ok (.getfield 19, 3) := by decide +kernel
theorem dX0_roomComeTo_17 : decode cX0_roomComeTo 17 = .ok (.iload_n 1, 1) := by decide +kernel
theorem dX0_roomComeTo_18 : decode cX0_roomComeTo 18 = .ok (.invokevirtual 28, 3) := by decide +kernel
theorem dX0_roomComeTo_21 : decode cX0_roomComeTo 21 = .ok (.invokevirtual 32, 3) := by decide +kernel
theorem dX0_roomComeTo_24 : decode cX0_roomComeTo 24 = .ok (.ireturn, 1) := by decide +kernel
theorem dX0_isFromOutside_0 : decode cX0_isFromOutside 0 = .ok (.aload_n 0, 1) := by decide +kernel
theorem dX0_isFromOutside_1 : decode cX0_isFromOutside 1 = .ok (.getfield 15, 3) := by decide +kernel
theorem dX0_isFromOutside_4 : decode cX0_isFromOutside 4 = .ok (.aload_n 0, 1) := by decide +kernel
theorem dX0_isFromOutside_5 : decode cX0_isFromOutside 5 = .ok (.getfield 19, 3) := by decide +kernel
theorem dX0_isFromOutside_8 : decode cX0_isFromOutside 8 = .ok (.getfield 23, 3) := by decide +kernel
theorem dX0_isFromOutside_11 : decode cX0_isFromOutside 11 = .ok (.iload_n 1, 1) := by decide +kernel
theorem dX0_isFromOutside_12 : decode cX0_isFromOutside 12 = .ok (.iaload, 1) := by decide +kernel
theorem dX0_isFromOutside_13 : decode cX0_isFromOutside 13 = .ok (.aload_n 0, 1) := by decide +kernel
theorem dX0_isFromOutside_14 : decode cX0_isFromOutside 14 = .ok (.getfield 19, 3) := by decide +kernel
theorem dX0_isFromOutside_17 : decode cX0_isFromOutside 17 = .ok (.iload_n 1, 1) := by decide +kernel
theorem dX0_isFromOutside_18 : decode cX0_isFromOutside 18 = .ok (.invokevirtual 28, 3) := by decide +kernel
theorem dX0_isFromOutside_21 : decode cX0_isFromOutside 21 = .ok (.invokevirtual 38, 3) := by decide +kernel
theorem dX0_isFromOutside_24 : decode cX0_isFromOutside 24 = .ok (.ifCond .ne 7, 3) := by decide +kernel
theorem dX0_isFromOutside_27 : decode cX0_isFromOutside 27 = .ok (.iconst 1, 1) := by decide +kernel
theorem dX0_isFromOutside_28 : decode cX0_isFromOutside 28 = .ok (.goto 4, 3) := by decide +kernel
theorem dX0_isFromOutside_31 : decode cX0_isFromOutside 31 = .ok (.iconst 0, 1) := by decide +kernel
theorem dX0_isFromOutside_32 : decode cX0_isFromOutside 32 = .ok (.ireturn, 1) := by decide +kernel
theorem dX0_isFirst_0 : decode cX0_isFirst 0 = .ok (.aload_n 0, 1) := by decide +kernel
theorem dX0_isFirst_1 : decode cX0_isFirst 1 = .ok (.iload_n 1, 1) := by decide +kernel
theorem dX0_isFirst_2 : decode cX0_isFirst 2 = .ok (.invokevirtual 41, 3) := by decide +kernel
theorem dX0_isFirst_5 : decode cX0_isFirst 5 = .ok (.istore_n 2, 1) := by decide +kernel
theorem dX0_isFirst_6 : decode cX0_isFirst 6 = .ok (.iconst 0, 1) := by decide +kernel
theorem dX0_isFirst_7 : decode cX0_isFirst 7 = .ok (.istore_n 3, 1) := by decide +kernel
theorem dX0_isFirst_8 : decode cX0_isFirst 8 = .ok (.iload_n 3, 1) := by decide +kernel
theorem dX0_isFirst_9 : decode cX0_isFirst 9 = .ok (.iload_n 1, 1) := by decide +kernel
theorem dX0_isFirst_10 : decode cX0_isFirst 10 = .ok (.if_icmp .ge 40, 3) := by decide +kernel
theorem dX0_isFirst_13 : decode cX0_isFirst 13 = .ok (.aload_n 0, 1) := by decide +kernel
theorem dX0_isFirst_14 : decode cX0_isFirst 14 = .ok (.getfield 19, 3) := by decide +kernel
theorem dX0_isFirst_17 : decode cX0_isFirst 17 = .ok (.iload_n 3, 1) := by decide +kernel
theorem dX0_isFirst_18 : decode cX0_isFirst 18 = .ok (.aload_n 0, 1) := by decide +kernel
theorem dX0_isFirst_19 : decode cX0_isFirst 19 = .ok (.getfield 19, 3) := by decide +kernel
theorem dX0_isFirst_22 : decode cX0_isFirst 22 = .ok (.getfield 44, 3) := by decide +kernel
theorem dX0_isFirst_25 : decode cX0_isFirst 25 = .ok (.iload_n 1, 1) := by decide +kernel
theorem dX0_isFirst_26 : decode cX0_isFirst 26 = .ok (.iaload, 1) := by decide +kernel
theorem dX0_isFirst_27 : decode cX0_isFirst 27 = .ok (.invokevirtual 47, 3) := by decide +kernel
theorem dX0_isFirst_30 : decode cX0_isFirst 30 = .ok (.ifCond .eq 14, 3) := by decide +kernel
theorem dX0_isFirst_33 : decode cX0_isFirst 33 = .ok (.aload_n 0, 1) := by decide +kernel
theorem dX0_isFirst_34 : decode cX0_isFirst 34 = .ok (.iload_n 3, 1) := by decide +kernel
theorem dX0_isFirst_35 : decode cX0_isFirst 35 = .ok (.invokevirtual 41, 3) := by decide +kernel
theorem dX0_isFirst_38 : decode cX0_isFirst 38 = .ok (.iload_n 2, 1) := by decide +kernel
theorem dX0_isFirst_39 : decode cX0_isFirst 39 = .ok (.if_icmp .ne 5, 3) := by decide +kernel
theorem dX0_isFirst_42 : decode cX0_isFirst 42 = .ok (.iconst 0, 1) := by decide +kernel
theorem dX0_isFirst_43 : decode cX0_isFirst 43 = .ok (.ireturn, 1) := by decide +kernel
theorem dX0_isFirst_44 : decode cX0_isFirst 44 = .ok (.iinc 3 1, 3) := by decide +kernel
theorem dX0_isFirst_47 : decode cX0_isFirst 47 = .ok (.goto (-39), 3) := by decide +kernel
theorem dX0_isFirst_50 : decode cX0_isFirst 50 = .ok (.iconst 1, 1) := by decide +kernel
theorem dX0_isFirst_51 : decode cX0_isFirst 51 = .ok (.ireturn, 1) := by decide +kernel
theorem dX0_daysAhead_0 : decode cX0_daysAhead 0 = .ok (.aload_n 0, 1) := by decide +kernel
theorem dX0_daysAhead_1 : decode cX0_daysAhead 1 = .ok (.iload_n 1, 1) := by decide +kernel
theorem dX0_daysAhead_2 : decode cX0_daysAhead 2 = .ok (.invokevirtual 51, 3) := by decide +kernel
theorem dX0_daysAhead_5 : decode cX0_daysAhead 5 = .ok (.iconst 0, 1) := by decide +kernel
theorem dX0_daysAhead_6 : decode cX0_daysAhead 6 = .ok (.istore_n 2, 1) := by decide +kernel
theorem dX0_daysAhead_7 : decode cX0_daysAhead 7 = .ok (.iconst 0, 1) := by decide +kernel
theorem dX0_daysAhead_8 : decode cX0_daysAhead 8 = .ok (.istore_n 3, 1) := by decide +kernel
theorem dX0_daysAhead_9 : decode cX0_daysAhead 9 = .ok (.iload_n 3, 1) := by decide +kernel
theorem dX0_daysAhead_10 : decode cX0_daysAhead 10 = .ok (.aload_n 0, 1) := by decide +kernel
theorem dX0_daysAhead_11 : decode cX0_daysAhead 11 = .ok (.iload_n 1, 1) := by decide +kernel
theorem dX0_daysAhead_12 : decode cX0_daysAhead 12 = .ok (.invokevirtual 55, 3) := by decide +kernel
theorem dX0_daysAhead_15 : decode cX0_daysAhead 15 = .ok (.if_icmp .ge 22, 3) := by decide +kernel
theorem dX0_daysAhead_18 : decode cX0_daysAhead 18 = .ok (.aload_n 0, 1) := by decide +kernel
theorem dX0_daysAhead_19 : decode cX0_daysAhead 19 = .ok (.getfield 9, 3) := by decide +kernel
theorem dX0_daysAhead_22 : decode cX0_daysAhead 22 = .ok (.iload_n 3, 1) := by decide +kernel
theorem dX0_daysAhead_23 : decode cX0_daysAhead 23 = .ok (.iaload, 1) := by decide +kernel
theorem dX0_daysAhead_24 : decode cX0_daysAhead 24 = .ok (.iconst (-1), 1) := by decide +kernel
theorem dX0_daysAhead_25 : decode cX0_daysAhead 25 = .ok (.if_icmp .eq 6, 3) := by decide +kernel
theorem dX0_daysAhead_28 : decode cX0_daysAhead 28 = .ok (.iinc 2 1, 3) := by decide +kernel
theorem dX0_daysAhead_31 : decode cX0_daysAhead 31 = .ok (.iinc 3 1, 3) := by decide +kernel
theorem dX0_daysAhead_34 : decode cX0_daysAhead 34 = .ok (.goto (-25), 3) := by decide +kernel
theorem dX0_daysAhead_37 : decode cX0_daysAhead 37 = .ok (.iload_n 2, 1) := by decide +kernel
theorem dX0_daysAhead_38 : decode cX0_daysAhead 38 = .ok (.ireturn, 1) := by decide +kernel
theorem dX0_daysAsLate_0 : decode cX0_daysAsLate 0 = .ok (.aload_n 0, 1) := by decide +kernel
theorem dX0_daysAsLate_1 : decode cX0_daysAsLate 1 = .ok (.iload_n 1, 1) := by decide +kernel
theorem dX0_daysAsLate_2 : decode cX0_daysAsLate 2 = .ok (.invokevirtual 51, 3) := by decide +kernel
theorem dX0_daysAsLate_5 : decode cX0_daysAsLate 5 = .ok (.aload_n 0, 1) := by decide +kernel
theorem dX0_daysAsLate_6 : decode cX0_daysAsLate 6 = .ok (.getfield 19, 3) := by decide +kernel
theorem dX0_daysAsLate_9 : decode cX0_daysAsLate 9 = .ok (.getfield 58, 3) := by decide +kernel
theorem dX0_daysAsLate_12 : decode cX0_daysAsLate 12 = .ok (.iload_n 1, 1) := by decide +kernel
theorem dX0_daysAsLate_13 : decode cX0_daysAsLate 13 = .ok (.iaload, 1) := by decide +kernel
theorem dX0_daysAsLate_14 : decode cX0_daysAsLate 14 = .ok (.bipush 25, 2) := by decide +kernel
theorem dX0_daysAsLate_16 : decode cX0_daysAsLate 16 = .ok (.irem, 1) := by decide +kernel
theorem dX0_daysAsLate_17 : decode cX0_daysAsLate 17 = .ok (.istore_n 2, 1) := by decide +kernel
theorem dX0_daysAsLate_18 : decode cX0_daysAsLate 18 = .ok (.iconst 0, 1) := by decide +kernel
theorem dX0_daysAsLate_19 : decode cX0_daysAsLate 19 = .ok (.istore_n 3, 1) := by decide +kernel
theorem dX0_daysAsLate_20 : decode cX0_daysAsLate 20 = .ok (.iconst 0, 1) := by decide +kernel
theorem dX0_daysAsLate_21 : decode cX0_daysAsLate 21 = .ok (.istore 4, 2) := by decide +kernel
theorem dX0_daysAsLate_23 : decode cX0_daysAsLate 23 = .ok (.iload 4, 2) := by decide +kernel
theorem dX0_daysAsLate_25 : decode cX0_daysAsLate 25 = .ok (.aload_n 0, 1) := by decide +kernel
theorem dX0_daysAsLate_26 : decode cX0_daysAsLate 26 = .ok (.iload_n 1, 1) := by decide +kernel
theorem dX0_daysAsLate_27 : decode cX0_daysAsLate 27 = .ok (.invokevirtual 55, 3) := by decide +kernel
theorem dX0_daysAsLate_30 : decode cX0_daysAsLate 30 = .ok (.if_icmp .ge 37, 3) := by decide +kernel
theorem dX0_daysAsLate_33 : decode cX0_daysAsLate 33 = .ok (.aload_n 0, 1) := by decide +kernel
theorem dX0_daysAsLate_34 : decode cX0_daysAsLate 34 = .ok (.getfield 9, 3) := by decide +kernel
theorem dX0_daysAsLate_37 : decode cX0_daysAsLate 37 = .ok (.iload 4, 2) := by decide +kernel
theorem dX0_daysAsLate_39 : decode cX0_daysAsLate 39 = .ok (.iaload, 1) := by decide +kernel
theorem dX0_daysAsLate_40 : decode cX0_daysAsLate 40 = .ok (.iconst (-1), 1) := by decide +kernel
theorem dX0_daysAsLate_41 : decode cX0_daysAsLate 41 = .ok (.if_icmp .eq 20, 3) := by decide +kernel
theorem dX0_daysAsLate_44 : decode cX0_daysAsLate 44 = .ok (.aload_n 0, 1) := by decide +kernel
theorem dX0_daysAsLate_45 : decode cX0_daysAsLate 45 = .ok (.getfield 9, 3) := by decide +kernel
theorem dX0_daysAsLate_48 : decode cX0_daysAsLate 48 = .ok (.iload 4, 2) := by decide +kernel
theorem dX0_daysAsLate_50 : decode cX0_daysAsLate 50 = .ok (.iaload, 1) := by decide +kernel
theorem dX0_daysAsLate_51 : decode cX0_daysAsLate 51 = .ok (.bipush 25, 2) := by decide +kernel
theorem dX0_daysAsLate_53 : decode cX0_daysAsLate 53 = .ok (.irem, 1) := by decide +kernel
theorem dX0_daysAsLate_54 : decode cX0_daysAsLate 54 = .ok (.iload_n 2, 1) := by decide +kernel
theorem dX0_daysAsLate_55 : decode cX0_daysAsLate 55 = .ok (.if_icmp .lt 6, 3) := by decide +kernel
theorem dX0_daysAsLate_58 : decode cX0_daysAsLate 58 = .ok (.iinc 3 1, 3) := by decide +kernel
theorem dX0_daysAsLate_61 : decode cX0_daysAsLate 61 = .ok (.iinc 4 1, 3) := by decide +kernel
theorem dX0_daysAsLate_64 : decode cX0_daysAsLate 64 = .ok (.goto (-41), 3) := by decide +kernel
theorem dX0_daysAsLate_67 : decode cX0_daysAsLate 67 = .ok (.iload_n 3, 1) := by decide +kernel
theorem dX0_daysAsLate_68 : decode cX0_daysAsLate 68 = .ok (.ireturn, 1) := by decide +kernel
theorem dX0_findEarliest_0 : decode cX0_findEarliest 0 = .ok (.aload_n 0, 1) := by decide +kernel
theorem dX0_findEarliest_1 : decode cX0_findEarliest 1 = .ok (.getfield 9, 3) := by decide +kernel
theorem dX0_findEarliest_4 : decode cX0_findEarliest 4 = .ok (.iconst (-1), 1) := by decide +kernel
theorem dX0_findEarliest_5 : decode cX0_findEarliest 5 = .ok (.invokestatic 61, 3) := by decide +kernel
theorem dX0_findEarliest_8 : decode cX0_findEarliest 8 = .ok (.iconst 0, 1) := by decide +kernel
theorem dX0_findEarliest_9 : decode cX0_findEarliest 9 = .ok (.istore_n 2, 1) := by decide +kernel
theorem dX0_findEarliest_10 : decode cX0_findEarliest 10 = .ok (.iload_n 2, 1) := by decide +kernel
theorem dX0_findEarliest_11 : decode cX0_findEarliest 11 = .ok (.iload_n 1, 1) := by decide +kernel
theorem dX0_findEarliest_12 : decode cX0_findEarliest 12 = .ok (.if_icmp .ge 86, 3) := by decide +kernel
theorem dX0_findEarliest_15 : decode cX0_findEarliest 15 = .ok (.aload_n 0, 1) := by decide +kernel
theorem dX0_findEarliest_16 : decode cX0_findEarliest 16 = .ok (.getfield 19, 3) := by decide +kernel
theorem dX0_findEarliest_19 : decode cX0_findEarliest 19 = .ok (.iload_n 2, 1) := by decide +kernel
theorem dX0_findEarliest_20 : decode cX0_findEarliest 20 = .ok (.aload_n 0, 1) := by decide +kernel
theorem dX0_findEarliest_21 : decode cX0_findEarliest 21 = .ok (.getfield 19, 3) := by decide +kernel
theorem dX0_findEarliest_24 : decode cX0_findEarliest 24 = .ok (.getfield 44, 3) := by decide +kernel
theorem dX0_findEarliest_27 : decode cX0_findEarliest 27 = .ok (.iload_n 1, 1) := by decide +kernel
theorem dX0_findEarliest_28 : decode cX0_findEarliest 28 = .ok (.iaload, 1) := by decide +kernel
theorem dX0_findEarliest_29 : decode cX0_findEarliest 29 = .ok (.invokevirtual 47, 3) := by decide +kernel
theorem dX0_findEarliest_32 : decode cX0_findEarliest 32 = .ok (.ifCond .eq 60, 3) := by decide +kernel
theorem dX0_findEarliest_35 : decode cX0_findEarliest 35 = .ok (.aload_n 0, 1) := by decide +kernel
theorem dX0_findEarliest_36 : decode cX0_findEarliest 36 = .ok (.iload_n 2, 1) := by decide +kernel
theorem dX0_findEarliest_37 : decode cX0_findEarliest 37 = .ok (.invokevirtual 67, 3) := by decide +kernel
theorem dX0_findEarliest_40 : decode cX0_findEarliest 40 = .ok (.ifCond .eq 52, 3) := by decide +kernel
theorem dX0_findEarliest_43 : decode cX0_findEarliest 43 = .ok (.aload_n 0, 1) := by decide +kernel
theorem dX0_findEarliest_44 : decode cX0_findEarliest 44 = .ok (.iload_n 2, 1) := by decide +kernel
theorem dX0_findEarliest_45 : decode cX0_findEarliest 45 = .ok (.invokevirtual 55, 3) := by decide +kernel
theorem dX0_findEarliest_48 : decode cX0_findEarliest 48 = .ok (.istore_n 3, 1) := by decide +kernel
theorem dX0_findEarliest_49 : decode cX0_findEarliest 49 = .ok (.aload_n 0, 1) := by decide +kernel
theorem dX0_findEarliest_50 : decode cX0_findEarliest 50 = .ok (.getfield 9, 3) := by decide +kernel
theorem dX0_findEarliest_53 : decode cX0_findEarliest 53 = .ok (.iload_n 3, 1) := by decide +kernel
theorem dX0_findEarliest_54 : decode cX0_findEarliest 54 = .ok (.iaload, 1) := by decide +kernel
theorem dX0_findEarliest_55 : decode cX0_findEarliest 55 = .ok (.iconst (-1), 1) := by decide +kernel
theorem dX0_findEarliest_56 : decode cX0_findEarliest 56 = .ok (.if_icmp .eq 21, 3) := by decide +kernel
theorem dX0_findEarliest_59 : decode cX0_findEarliest 59 = .ok (.aload_n 0, 1) := by decide +kernel
theorem dX0_findEarliest_60 : decode cX0_findEarliest 60 = .ok (.getfield 19, 3) := by decide +kernel
theorem dX0_findEarliest_63 : decode cX0_findEarliest 63 = .ok (.getfield 58, 3) := by decide +kernel
theorem dX0_findEarliest_66 : decode cX0_findEarliest 66 = .ok (.iload_n 2, 1) := by decide +kernel
theorem dX0_findEarliest_67 : decode cX0_findEarliest 67 = .ok (.iaload, 1) := by decide +kernel
theorem dX0_findEarliest_68 : decode cX0_findEarliest 68 = .ok (.aload_n 0, 1) := by decide +kernel
theorem dX0_findEarliest_69 : decode cX0_findEarliest 69 = .ok (.getfield 9, 3) := by decide +kernel
theorem dX0_findEarliest_72 : decode cX0_findEarliest 72 = .ok (.iload_n 3, 1) := by decide +kernel
theorem dX0_findEarliest_73 : decode cX0_findEarliest 73 = .ok (.iaload, 1) := by decide +kernel
theorem dX0_findEarliest_74 : decode cX0_findEarliest 74 = .ok (.if_icmp .ge 18, 3) := by decide +kernel
theorem dX0_findEarliest_77 : decode cX0_findEarliest 77 = .ok (.aload_n 0, 1) := by decide +kernel
theorem dX0_findEarliest_78 : decode cX0_findEarliest 78 = .ok (.getfield 9, 3) := by decide +kernel
theorem dX0_findEarliest_81 : decode cX0_findEarliest 81 = .ok (.iload_n 3, 1) := by decide +kernel
theorem dX0_findEarliest_82 : decode cX0_findEarliest 82 = .ok (.aload_n 0, 1) := by decide +kernel
theorem dX0_findEarliest_83 : decode cX0_findEarliest 83 = .ok (.getfield 19, 3) := by decide +kernel
theorem dX0_findEarliest_86 : decode cX0_findEarliest 86 = .ok (.getfield 58, 3) := by decide +kernel
theorem dX0_findEarliest_89 : decode cX0_findEarliest 89 = .ok (.iload_n 2, 1) := by decide +kernel
theorem dX0_findEarliest_90 : decode cX0_findEarliest 90 = .ok (.iaload, 1) := by decide +kernel
theorem dX0_findEarliest_91 : decode cX0_findEarliest 91 = .ok (.iastore, 1) := by decide +kernel
theorem dX0_findEarliest_92 : decode cX0_findEarliest 92 = .ok (.iinc 2 1, 3) := by decide +kernel
theorem dX0_findEarliest_95 : decode cX0_findEarliest 95 = .ok (.goto (-85), 3) := by decide +kernel
theorem dX0_findEarliest_98 : decode cX0_findEarliest 98 = .ok (.return_, 1) := by decide +kernel
theorem dX0_daysOf_0 : decode cX0_daysOf 0 = .ok (.iconst 0, 1) := by decide +kernel
theorem dX0_daysOf_1 : decode cX0_daysOf 1 = .ok (.istore_n 2, 1) := by decide +kernel
theorem dX0_daysOf_2 : decode cX0_daysOf 2 = .ok (.iconst 0, 1) := by decide +kernel
theorem dX0_daysOf_3 : decode cX0_daysOf 3 = .ok (.istore_n 3, 1) := by decide +kernel
theorem dX0_daysOf_4 : decode cX0_daysOf 4 = .ok (.iload_n 3, 1) := by decide +kernel
theorem dX0_daysOf_5 : decode cX0_daysOf 5 = .ok (.aload_n 0, 1) := by decide +kernel
theorem dX0_daysOf_6 : decode cX0_daysOf 6 = .ok (.getfield 19, 3) := by decide +kernel
theorem dX0_daysOf_9 : decode cX0_daysOf 9 = .ok (.getfield 70, 3) := by decide +kernel
theorem dX0_daysOf_12 : decode cX0_daysOf 12 = .ok (.if_icmp .ge 31, 3) := by decide +kernel
theorem dX0_daysOf_15 : decode cX0_daysOf 15 = .ok (.aload_n 0, 1) := by decide +kernel
theorem dX0_daysOf_16 : decode cX0_daysOf 16 = .ok (.getfield 19, 3) := by decide +kernel
theorem dX0_daysOf_19 : decode cX0_daysOf 19 = .ok (.iload_n 3, 1) := by decide +kernel
theorem dX0_daysOf_20 : decode cX0_daysOf 20 = .ok (.iload_n 1, 1) := by decide +kernel
theorem dX0_daysOf_21 : decode cX0_daysOf 21 = .ok (.invokevirtual 47, 3) := by decide +kernel
theorem dX0_daysOf_24 : decode cX0_daysOf 24 = .ok (.ifCond .eq 13, 3) := by decide +kernel
theorem dX0_daysOf_27 : decode cX0_daysOf 27 = .ok (.iload_n 2, 1) := by decide +kernel
theorem dX0_daysOf_28 : decode cX0_daysOf 28 = .ok (.iconst 1, 1) := by decide +kernel
theorem dX0_daysOf_29 : decode cX0_daysOf 29 = .ok (.aload_n 0, 1) := by decide +kernel
theorem dX0_daysOf_30 : decode cX0_daysOf 30 = .ok (.iload_n 3, 1) := by decide +kernel
theorem dX0_daysOf_31 : decode cX0_daysOf 31 = .ok (.invokevirtual 55, 3) := by decide +kernel
theorem dX0_daysOf_34 : decode cX0_daysOf 34 = .ok (.ishl, 1) := by decide +kernel
theorem dX0_daysOf_35 : decode cX0_daysOf 35 = .ok (.ior, 1) := by decide +kernel
theorem dX0_daysOf_36 : decode cX0_daysOf 36 = .ok (.istore_n 2, 1) := by decide +kernel
theorem dX0_daysOf_37 : decode cX0_daysOf 37 = .ok (.iinc 3 1, 3) := by decide +kernel
theorem dX0_daysOf_40 : decode cX0_daysOf 40 = .ok (.goto (-36), 3) := by decide +kernel
theorem dX0_daysOf_43 : decode cX0_daysOf 43 = .ok (.iload_n 2, 1) := by decide +kernel
theorem dX0_daysOf_44 : decode cX0_daysOf 44 = .ok (.ireturn, 1) := by decide +kernel
theorem dX0_daysTogether_0 : decode cX0_daysTogether 0 = .ok (.iconst 0, 1) := by decide +kernel
theorem dX0_daysTogether_1 : decode cX0_daysTogether 1 = .ok (.istore 4, 2) := by decide +kernel
theorem dX0_daysTogether_3 : decode cX0_daysTogether 3 = .ok (.iconst 0, 1) := by decide +kernel
theorem dX0_daysTogether_4 : decode cX0_daysTogether 4 = .ok (.istore 5, 2) := by decide +kernel
theorem dX0_daysTogether_6 : decode cX0_daysTogether 6 = .ok (.iload 5, 2) := by decide +kernel
theorem dX0_daysTogether_8 : decode cX0_daysTogether 8 = .ok (.aload_n 0, 1) := by decide +kernel
theorem dX0_daysTogether_9 : decode cX0_daysTogether 9 = .ok (.getfield 19, 3) := by decide +kernel
theorem dX0_daysTogether_12 : decode cX0_daysTogether 12 = .ok (.getfield 70, 3) := by decide +kernel
theorem dX0_daysTogether_15 : decode cX0_daysTogether 15 = .ok (.if_icmp .ge 46, 3) := by decide +kernel
theorem dX0_daysTogether_18 : decode cX0_daysTogether 18 = .ok (.aload_n 0, 1) := by decide +kernel
theorem dX0_daysTogether_19 : decode cX0_daysTogether 19 = .ok (.getfield 19, 3) := by decide +kernel
theorem dX0_daysTogether_22 : decode cX0_daysTogether 22 = .ok (.iload 5, 2) := by decide +kernel
theorem dX0_daysTogether_24 : decode cX0_daysTogether 24 = .ok (.iload_n 1, 1) := by decide +kernel
theorem dX0_daysTogether_25 : decode cX0_daysTogether 25 = .ok (.invokevirtual 47, 3) := by decide +kernel
theorem dX0_daysTogether_28 : decode cX0_daysTogether 28 = .ok (.ifCond .eq 27, 3) := by decide +kernel
theorem dX0_daysTogether_31 : decode cX0_daysTogether 31 = .ok (.aload_n 0, 1) := by decide +kernel
theorem dX0_daysTogether_32 : decode cX0_daysTogether 32 = .ok (.iload 5, 2) := by decide +kernel
theorem dX0_daysTogether_34 : decode cX0_daysTogether 34 = .ok (.iload_n 2, 1) := by decide +kernel
theorem dX0_daysTogether_35 : decode cX0_daysTogether 35 = .ok (.iload_n 3, 1) := by decide +kernel
theorem dX0_daysTogether_36 : decode cX0_daysTogether 36 = .ok (.invokevirtual 74, 3) := by decide +kernel
theorem dX0_daysTogether_39 : decode cX0_daysTogether 39 = .ok (.ifCond .eq 16, 3) := by decide +kernel
theorem dX0_daysTogether_42 : decode cX0_daysTogether 42 = .ok (.iload 4, 2) := by decide +kernel
theorem dX0_daysTogether_44 : decode cX0_daysTogether 44 = .ok (.iconst 1, 1) := by decide +kernel
theorem dX0_daysTogether_45 : decode cX0_daysTogether 45 = .ok (.aload_n 0, 1) := by decide +kernel
theorem dX0_daysTogether_46 : decode cX0_daysTogether 46 = .ok (.iload 5, 2) := by decide +kernel
theorem dX0_daysTogether_48 : decode cX0_daysTogether 48 = .ok (.invokevirtual 55, 3) := by decide +kernel
theorem dX0_daysTogether_51 : decode cX0_daysTogether 51 = .ok (.ishl, 1) := by decide +kernel
theorem dX0_daysTogether_52 : decode cX0_daysTogether 52 = .ok (.ior, 1) := by decide +kernel
theorem dX0_daysTogether_53 : decode cX0_daysTogether 53 = .ok (.istore 4, 2) := by decide +kernel
theorem dX0_daysTogether_55 : decode cX0_daysTogether 55 = .ok (.iinc 5 1, 3) := by decide +kernel
theorem dX0_daysTogether_58 : decode cX0_daysTogether 58 = .ok (.goto (-52), 3) := by decide +kernel
theorem dX0_daysTogether_61 : decode cX0_daysTogether 61 = .ok (.iload 4, 2) := by decide +kernel
theorem dX0_daysTogether_63 : decode cX0_daysTogether 63 = .ok (.ireturn, 1) := by decide +kernel
theorem dX0_isNear_0 : decode cX0_isNear 0 = .ok (.iconst 0, 1) := by decide +kernel
theorem dX0_isNear_1 : decode cX0_isNear 1 = .ok (.istore 4, 2) := by decide +kernel
theorem dX0_isNear_3 : decode cX0_isNear 3 = .ok (.iload 4, 2) := by decide +kernel
theorem dX0_isNear_5 : decode cX0_isNear 5 = .ok (.aload_n 0, 1) := by decide +kernel
theorem dX0_isNear_6 : decode cX0_isNear 6 = .ok (.getfield 19, 3) := by decide +kernel
theorem dX0_isNear_9 : decode cX0_isNear 9 = .ok (.getfield 70, 3) := by decide +kernel
theorem dX0_isNear_12 : decode cX0_isNear 12 = .ok (.if_icmp .ge 109, 3) := by decide +kernel
theorem dX0_isNear_15 : decode cX0_isNear 15 = .ok (.aload_n 0, 1) := by decide +kernel
theorem dX0_isNear_16 : decode cX0_isNear 16 = .ok (.getfield 19, 3) := by decide +kernel
theorem dX0_isNear_19 : decode cX0_isNear 19 = .ok (.iload 4, 2) := by decide +kernel
theorem dX0_isNear_21 : decode cX0_isNear 21 = .ok (.iload_n 2, 1) := by decide +kernel
theorem dX0_isNear_22 : decode cX0_isNear 22 = .ok (.invokevirtual 47, 3) := by decide +kernel
theorem dX0_isNear_25 : decode cX0_isNear 25 = .ok (.ifCond .eq 90, 3) := by decide +kernel
theorem dX0_isNear_28 : decode cX0_isNear 28 = .ok (.aload_n 0, 1) := by decide +kernel
theorem dX0_isNear_29 : decode cX0_isNear 29 = .ok (.getfield 19, 3) := by decide +kernel
theorem dX0_isNear_32 : decode cX0_isNear 32 = .ok (.getfield 23, 3) := by decide +kernel
theorem dX0_isNear_35 : decode cX0_isNear 35 = .ok (.iload 4, 2) := by decide +kernel
theorem dX0_isNear_37 : decode cX0_isNear 37 = .ok (.iaload, 1) := by decide +kernel
theorem dX0_isNear_38 : decode cX0_isNear 38 = .ok (.aload_n 0, 1) := by decide +kernel
theorem dX0_isNear_39 : decode cX0_isNear 39 = .ok (.getfield 19, 3) := by decide +kernel
theorem dX0_isNear_42 : decode cX0_isNear 42 = .ok (.getfield 23, 3) := by decide +kernel
theorem dX0_isNear_45 : decode cX0_isNear 45 = .ok (.iload_n 1, 1) := by decide +kernel
theorem dX0_isNear_46 : decode cX0_isNear 46 = .ok (.iaload, 1) := by decide +kernel
theorem dX0_isNear_47 : decode cX0_isNear 47 = .ok (.if_icmp .ne 68, 3) := by decide +kernel
theorem dX0_isNear_50 : decode cX0_isNear 50 = .ok (.aload_n 0, 1) := by decide +kernel
theorem dX0_isNear_51 : decode cX0_isNear 51 = .ok (.getfield 19, 3) := by decide +kernel
theorem dX0_isNear_54 : decode cX0_isNear 54 = .ok (.getfield 78, 3) := by decide +kernel
theorem dX0_isNear_57 : decode cX0_isNear 57 = .ok (.iload 4, 2) := by decide +kernel
theorem dX0_isNear_59 : decode cX0_isNear 59 = .ok (.iaload, 1) := by decide +kernel
theorem dX0_isNear_60 : decode cX0_isNear 60 = .ok (.aload_n 0, 1) := by decide +kernel
theorem dX0_isNear_61 : decode cX0_isNear 61 = .ok (.getfield 19, 3) := by decide +kernel
theorem dX0_isNear_64 : decode cX0_isNear 64 = .ok (.getfield 78, 3) := by decide +kernel
theorem dX0_isNear_67 : decode cX0_isNear 67 = .ok (.iload_n 1, 1) := by decide +kernel
theorem dX0_isNear_68 : decode cX0_isNear 68 = .ok (.iaload, 1) := by decide +kernel
theorem dX0_isNear_69 : decode cX0_isNear 69 = .ok (.if_icmp .ne 46, 3) := by decide +kernel
theorem dX0_isNear_72 : decode cX0_isNear 72 = .ok (.aload_n 0, 1) := by decide +kernel
theorem dX0_isNear_73 : decode cX0_isNear 73 = .ok (.iload 4, 2) := by decide +kernel
theorem dX0_isNear_75 : decode cX0_isNear 75 = .ok (.invokevirtual 55, 3) := by decide +kernel
theorem dX0_isNear_78 : decode cX0_isNear 78 = .ok (.aload_n 0, 1) := by decide +kernel
theorem dX0_isNear_79 : decode cX0_isNear 79 = .ok (.iload_n 1, 1) := by decide +kernel
theorem dX0_isNear_80 : decode cX0_isNear 80 = .ok (.invokevirtual 55, 3) := by decide +kernel
theorem dX0_isNear_83 : decode cX0_isNear 83 = .ok (.if_icmp .ne 32, 3) := by decide +kernel
theorem dX0_isNear_86 : decode cX0_isNear 86 = .ok (.aload_n 0, 1) := by decide +kernel
theorem dX0_isNear_87 : decode cX0_isNear 87 = .ok (.getfield 19, 3) := by decide +kernel
theorem dX0_isNear_90 : decode cX0_isNear 90 = .ok (.getfield 58, 3) := by decide +kernel
theorem dX0_isNear_93 : decode cX0_isNear 93 = .ok (.iload 4, 2) := by decide +kernel
theorem dX0_isNear_95 : decode cX0_isNear 95 = .ok (.iaload, 1) := by decide +kernel
theorem dX0_isNear_96 : decode cX0_isNear 96 = .ok (.aload_n 0, 1) := by decide +kernel
theorem dX0_isNear_97 : decode cX0_isNear 97 = .ok (.getfield 19, 3) := by decide +kernel
theorem dX0_isNear_100 : decode cX0_isNear 100 = .ok (.getfield 58, 3) := by decide +kernel
theorem dX0_isNear_103 : decode cX0_isNear 103 = .ok (.iload_n 1, 1) := by decide +kernel
theorem dX0_isNear_104 : decode cX0_isNear 104 = .ok (.iaload, 1) := by decide +kernel
theorem dX0_isNear_105 : decode cX0_isNear 105 = .ok (.isub, 1) := by decide +kernel
theorem dX0_isNear_106 : decode cX0_isNear 106 = .ok (.invokestatic 81, 3) := by decide +kernel
theorem dX0_isNear_109 : decode cX0_isNear 109 = .ok (.iload_n 3, 1) := by decide +kernel
theorem dX0_isNear_110 : decode cX0_isNear 110 = .ok (.if_icmp .gt 5, 3) := by decide +kernel
theorem dX0_isNear_113 : decode cX0_isNear 113 = .ok (.iconst 1, 1) := by decide +kernel
theorem dX0_isNear_114 : decode cX0_isNear 114 = .ok (.ireturn, 1) := by decide +kernel
theorem dX0_isNear_115 : decode cX0_isNear 115 = .ok (.iinc 4 1, 3) := by decide +kernel
theorem dX0_isNear_118 : decode cX0_isNear 118 = .ok (.goto (-115), 3) := by decide +kernel
theorem dX0_isNear_121 : decode cX0_isNear 121 = .ok (.iconst 0, 1) := by decide +kernel
theorem dX0_isNear_122 : decode cX0_isNear 122 = .ok (.ireturn, 1) := by decide +kernel
theorem dX0_dayOf_0 : decode cX0_dayOf 0 = .ok (.aload_n 0, 1) := by decide +kernel
theorem dX0_dayOf_1 : decode cX0_dayOf 1 = .ok (.getfield 19, 3) := by decide +kernel
theorem dX0_dayOf_4 : decode cX0_dayOf 4 = .ok (.getfield 58, 3) := by decide +kernel
theorem dX0_dayOf_7 : decode cX0_dayOf 7 = .ok (.iload_n 1, 1) := by decide +kernel
theorem dX0_dayOf_8 : decode cX0_dayOf 8 = .ok (.iaload, 1) := by decide +kernel
theorem dX0_dayOf_9 : decode cX0_dayOf 9 = .ok (.bipush 25, 2) := by decide +kernel
theorem dX0_dayOf_11 : decode cX0_dayOf 11 = .ok (.idiv, 1) := by decide +kernel
theorem dX0_dayOf_12 : decode cX0_dayOf 12 = .ok (.ireturn, 1) := by decide +kernel
theorem dX1_init_0 : decode cX1_init 0 = .ok (.aload_n 0, 1) := by decide +kernel
theorem dX1_init_1 : decode cX1_init 1 = .ok (.invokespecial 3, 3) := by decide +kernel
theorem dX1_init_4 : decode cX1_init 4 = .ok (.aload_n 0, 1) := by decide +kernel
theorem dX1_init_5 : decode cX1_init 5 = .ok (.bipush 10, 2) := by decide +kernel
theorem dX1_init_7 : decode cX1_init 7 = .ok (.newarray .int, 2) := by decide +kernel
theorem dX1_init_9 : decode cX1_init 9 = .ok (.putfield 9, 3) := by decide +kernel
theorem dX1_init_12 : decode cX1_init 12 = .ok (.aload_n 0, 1) := by decide +kernel
theorem dX1_init_13 : decode cX1_init 13 = .ok (.sipush 2000, 3) := by decide +kernel
theorem dX1_init_16 : decode cX1_init 16 = .ok (.newarray .int, 2) := by decide +kernel
theorem dX1_init_18 : decode cX1_init 18 = .ok (.putfield 15, 3) := by decide +kernel
theorem dX1_init_21 : decode cX1_init 21 = .ok (.aload_n 0, 1) := by decide +kernel
theorem dX1_init_22 : decode cX1_init 22 = .ok (.iconst (-1), 1) := by decide +kernel
theorem dX1_init_23 : decode cX1_init 23 = .ok (.putfield 18, 3) := by decide +kernel
theorem dX1_init_26 : decode cX1_init 26 = .ok (.aload_n 0, 1) := by decide +kernel
theorem dX1_init_27 : decode cX1_init 27 = .ok (.sipush 200, 3) := by decide +kernel
theorem dX1_init_30 : decode cX1_init 30 = .ok (.newarray .int, 2) := by decide +kernel
theorem dX1_init_32 : decode cX1_init 32 = .ok (.putfield 22, 3) := by decide +kernel
theorem dX1_init_35 : decode cX1_init 35 = .ok (.aload_n 0, 1) := by decide +kernel
theorem dX1_init_36 : decode cX1_init 36 = .ok (.aload_n 1, 1) := by decide +kernel
theorem dX1_init_37 : decode cX1_init 37 = .ok (.putfield 25, 3) := by decide +kernel
theorem dX1_init_40 : decode cX1_init 40 = .ok (.aload_n 0, 1) := by decide +kernel
theorem dX1_init_41 : decode cX1_init 41 = .ok (.aload_n 2, 1) := by decide +kernel
theorem dX1_init_42 : decode cX1_init 42 = .ok (.putfield 29, 3) := by decide +kernel
theorem dX1_init_45 : decode cX1_init 45 = .ok (.return_, 1) := by decide +kernel
theorem dX1_forget_0 : decode cX1_forget 0 = .ok (.aload_n 0, 1) := by decide +kernel
theorem dX1_forget_1 : decode cX1_forget 1 = .ok (.getfield 29, 3) := by decide +kernel
theorem dX1_forget_4 : decode cX1_forget 4 = .ok (.invokevirtual 33, 3) := by decide +kernel
theorem dX1_forget_7 : decode cX1_forget 7 = .ok (.aload_n 0, 1) := by decide +kernel
theorem dX1_forget_8 : decode cX1_forget 8 = .ok (.getfield 9, 3) := by decide +kernel
theorem dX1_forget_11 : decode cX1_forget 11 = .ok (.iconst (-1), 1) := by decide +kernel
theorem dX1_forget_12 : decode cX1_forget 12 = .ok (.invokestatic 38, 3) := by decide +kernel
theorem dX1_forget_15 : decode cX1_forget 15 = .ok (.aload_n 0, 1) := by decide +kernel
theorem dX1_forget_16 : decode cX1_forget 16 = .ok (.iconst (-1), 1) := by decide +kernel
theorem dX1_forget_17 : decode cX1_forget 17 = .ok (.putfield 18, 3) := by decide +kernel
theorem dX1_forget_20 : decode cX1_forget 20 = .ok (.return_, 1) := by decide +kernel
theorem dX1_roomsOf_0 : decode cX1_roomsOf 0 = .ok (.aload_n 0, 1) := by decide +kernel
theorem dX1_roomsOf_1 : decode cX1_roomsOf 1 = .ok (.getfield 25, 3) := by decide +kernel
theorem dX1_roomsOf_4 : decode cX1_roomsOf 4 = .ok (.iload_n 1, 1) := by decide +kernel
theorem dX1_roomsOf_5 : decode cX1_roomsOf 5 = .ok (.iload_n 3, 1) := by decide +kernel
theorem dX1_roomsOf_6 : decode cX1_roomsOf 6 = .ok (.invokevirtual 44, 3) := by decide +kernel
theorem dX1_roomsOf_9 : decode cX1_roomsOf 9 = .ok (.istore 4, 2) := by decide +kernel
theorem dX1_roomsOf_11 : decode cX1_roomsOf 11 = .ok (.aload_n 0, 1) := by decide +kernel
theorem dX1_roomsOf_12 : decode cX1_roomsOf 12 = .ok (.getfield 9, 3) := by decide +kernel
theorem dX1_roomsOf_15 : decode cX1_roomsOf 15 = .ok (.iload_n 1, 1) := by decide +kernel
theorem dX1_roomsOf_16 : decode cX1_roomsOf 16 = .ok (.iaload, 1) := by decide +kernel
theorem dX1_roomsOf_17 : decode cX1_roomsOf 17 = .ok (.iload 4, 2) := by decide +kernel
theorem dX1_roomsOf_19 : decode cX1_roomsOf 19 = .ok (.if_icmp .eq 45, 3) := by decide +kernel
theorem dX1_roomsOf_22 : decode cX1_roomsOf 22 = .ok (.aload_n 0, 1) := by decide +kernel
theorem dX1_roomsOf_23 : decode cX1_roomsOf 23 = .ok (.getfield 29, 3) := by decide +kernel
theorem dX1_roomsOf_26 : decode cX1_roomsOf 26 = .ok (.iload_n 1, 1) := by decide +kernel
theorem dX1_roomsOf_27 : decode cX1_roomsOf 27 = .ok (.iload_n 3, 1) := by decide +kernel
theorem dX1_roomsOf_28 : decode cX1_roomsOf 28 = .ok (.invokevirtual 50, 3) := by decide +kernel
theorem dX1_roomsOf_31 : decode cX1_roomsOf 31 = .ok (.aload_n 0, 1) := by decide +kernel
theorem dX1_roomsOf_32 : decode cX1_roomsOf 32 = .ok (.getfield 29, 3) := by decide +kernel
theorem dX1_roomsOf_35 : decode cX1_roomsOf 35 = .ok (.iload_n 1, 1) := by decide +kernel
theorem dX1_roomsOf_36 : decode cX1_roomsOf 36 = .ok (.iload_n 3, 1) := by decide +kernel
theorem dX1_roomsOf_37 : decode cX1_roomsOf 37 = .ok (.invokevirtual 54, 3) := by decide +kernel
theorem dX1_roomsOf_40 : decode cX1_roomsOf 40 = .ok (.aload_n 0, 1) := by decide +kernel
theorem dX1_roomsOf_41 : decode cX1_roomsOf 41 = .ok (.getfield 29, 3) := by decide +kernel
theorem dX1_roomsOf_44 : decode cX1_roomsOf 44 = .ok (.aload_n 0, 1) := by decide +kernel
theorem dX1_roomsOf_45 : decode cX1_roomsOf 45 = .ok (.getfield 15, 3) := by decide +kernel
theorem dX1_roomsOf_48 : decode cX1_roomsOf 48 = .ok (.iload_n 1, 1) := by decide +kernel
theorem dX1_roomsOf_49 : decode cX1_roomsOf 49 = .ok (.sipush 200, 3) := by decide +kernel
theorem dX1_roomsOf_52 : decode cX1_roomsOf 52 = .ok (.imul, 1) := by decide +kernel
theorem dX1_roomsOf_53 : decode cX1_roomsOf 53 = .ok (.invokevirtual 57, 3) := by decide +kernel
theorem dX1_roomsOf_56 : decode cX1_roomsOf 56 = .ok (.aload_n 0, 1) := by decide +kernel
theorem dX1_roomsOf_57 : decode cX1_roomsOf 57 = .ok (.getfield 9, 3) := by decide +kernel
theorem dX1_roomsOf_60 : decode cX1_roomsOf 60 = .ok (.iload_n 1, 1) := by decide +kernel
theorem dX1_roomsOf_61 : decode cX1_roomsOf 61 = .ok (.iload 4, 2) := by decide +kernel
theorem dX1_roomsOf_63 : decode cX1_roomsOf 63 = .ok (.iastore, 1) := by decide +kernel
theorem dX1_roomsOf_64 : decode cX1_roomsOf 64 = .ok (.aload_n 0, 1) := by decide +kernel
theorem dX1_roomsOf_65 : decode cX1_roomsOf 65 = .ok (.getfield 15, 3) := by decide +kernel
theorem dX1_roomsOf_68 : decode cX1_roomsOf 68 = .ok (.iload_n 1, 1) := by decide +kernel
theorem dX1_roomsOf_69 : decode cX1_roomsOf 69 = .ok (.sipush 200, 3) := by decide +kernel
theorem dX1_roomsOf_72 : decode cX1_roomsOf 72 = .ok (.imul, 1) := by decide +kernel
theorem dX1_roomsOf_73 : decode cX1_roomsOf 73 = .ok (.iload_n 2, 1) := by decide +kernel
theorem dX1_roomsOf_74 : decode cX1_roomsOf 74 = .ok (.iadd, 1) := by decide +kernel
theorem dX1_roomsOf_75 : decode cX1_roomsOf 75 = .ok (.iaload, 1) := by decide +kernel
theorem dX1_roomsOf_76 : decode cX1_roomsOf 76 = .ok (.ireturn, 1) := by decide +kernel
theorem dX1_breakOf_0 : decode cX1_breakOf 0 = .ok (.aload_n 0, 1) := by decide +kernel
theorem dX1_breakOf_1 : decode cX1_breakOf 1 = .ok (.getfield 29, 3) := by decide +kernel
theorem dX1_breakOf_4 : decode cX1_breakOf 4 = .ok (.iload_n 1, 1) := by decide +kernel
theorem dX1_breakOf_5 : decode cX1_breakOf 5 = .ok (.iload_n 2, 1) := by decide +kernel
theorem dX1_breakOf_6 : decode cX1_breakOf 6 = .ok (.invokevirtual 50, 3) := by decide +kernel
theorem dX1_breakOf_9 : decode cX1_breakOf 9 = .ok (.aload_n 0, 1) := by decide +kernel
theorem dX1_breakOf_10 : decode cX1_breakOf 10 = .ok (.getfield 29, 3) := by decide +kernel
theorem dX1_breakOf_13 : decode cX1_breakOf 13 = .ok (.invokevirtual 60, 3) := by decide +kernel
theorem dX1_breakOf_16 : decode cX1_breakOf 16 = .ok (.ireturn, 1) := by decide +kernel
theorem dX1_roomOnFirstWay_0 : decode cX1_roomOnFirstWay 0 = .ok (.aload_n 0, 1) := by decide +kernel
theorem dX1_roomOnFirstWay_1 : decode cX1_roomOnFirstWay 1 = .ok (.getfield 18, 3) := by decide +kernel
theorem dX1_roomOnFirstWay_4 : decode cX1_roomOnFirstWay 4 = .ok (.aload_n 0, 1) := by decide +kernel
theorem dX1_roomOnFirstWay_5 : decode cX1_roomOnFirstWay 5 = .ok (.getfield 25, 3) := by decide +kernel
theorem dX1_roomOnFirstWay_8 : decode cX1_roomOnFirstWay 8 = .ok (.getfield 64, 3) := by decide +kernel
theorem dX1_roomOnFirstWay_11 : decode cX1_roomOnFirstWay 11 = .ok (.if_icmp .ne 31, 3) := by decide +kernel
theorem dX1_roomOnFirstWay_14 : decode cX1_roomOnFirstWay 14 = .ok (.aload_n 0, 1) := by decide +kernel
theorem dX1_roomOnFirstWay_15 : decode cX1_roomOnFirstWay 15 = .ok (.getfield 67, 3) := by decide +kernel
theorem dX1_roomOnFirstWay_18 : decode cX1_roomOnFirstWay 18 = .ok (.iload_n 1, 1) := by decide +kernel
theorem dX1_roomOnFirstWay_19 : decode cX1_roomOnFirstWay 19 = .ok (.if_icmp .ne 23, 3) := by decide +kernel
theorem dX1_roomOnFirstWay_22 : decode cX1_roomOnFirstWay 22 = .ok (.aload_n 0, 1) := by decide +kernel
theorem dX1_roomOnFirstWay_23 : decode cX1_roomOnFirstWay 23 = .ok (.getfield 70, 3) := by decide +kernel
theorem dX1_roomOnFirstWay_26 : decode cX1_roomOnFirstWay 26 = .ok (.iload_n 2, 1) := by decide +kernel
theorem dX1_roomOnFirstWay_27 : decode cX1_roomOnFirstWay 27 = .ok (.if_icmp .ne 15, 3) := by decide +kernel
theorem dX1_roomOnFirstWay_30 : decode cX1_roomOnFirstWay 30 = .ok (.aload_n 0, 1) := by decide +kernel
theorem dX1_roomOnFirstWay_31 : decode cX1_roomOnFirstWay 31 = .ok (.getfield 73, 3) := by decide +kernel
theorem dX1_roomOnFirstWay_34 : decode cX1_roomOnFirstWay 34 = .ok (.iload_n 3, 1) := by decide +kernel
theorem dX1_roomOnFirstWay_35 : decode cX1_roomOnFirstWay 35 = .ok (.if_icmp .ne 7, 3) := by decide +kernel
theorem dX1_roomOnFirstWay_38 : decode cX1_roomOnFirstWay 38 = .ok (.iconst 1, 1) := by decide +kernel
theorem dX1_roomOnFirstWay_39 : decode cX1_roomOnFirstWay 39 = .ok (.goto 4, 3) := by decide +kernel
theorem dX1_roomOnFirstWay_42 : decode cX1_roomOnFirstWay 42 = .ok (.iconst 0, 1) := by decide +kernel
theorem dX1_roomOnFirstWay_43 : decode cX1_roomOnFirstWay 43 = .ok (.istore 5, 2) := by decide +kernel
theorem dX1_roomOnFirstWay_45 : decode cX1_roomOnFirstWay 45 = .ok (.iload 5, 2) := by decide +kernel
theorem dX1_roomOnFirstWay_47 : decode cX1_roomOnFirstWay 47 = .ok (.ifCond .ne 83, 3) := by decide +kernel
theorem dX1_roomOnFirstWay_50 : decode cX1_roomOnFirstWay 50 = .ok (.aload_n 0, 1) := by decide +kernel
theorem dX1_roomOnFirstWay_51 : decode cX1_roomOnFirstWay 51 = .ok (.getfield 29, 3) := by decide +kernel
theorem dX1_roomOnFirstWay_54 : decode cX1_roomOnFirstWay 54 = .ok (.iload_n 1, 1) := by decide +kernel
theorem dX1_roomOnFirstWay_55 : decode cX1_roomOnFirstWay 55 = .ok (.aload_n 0, 1) := by decide +kernel
theorem dX1_roomOnFirstWay_56 : decode cX1_roomOnFirstWay 56 = .ok (.getfield 25, 3) := by decide +kernel
theorem dX1_roomOnFirstWay_59 : decode cX1_roomOnFirstWay 59 = .ok (.getfield 64, 3) := by decide +kernel
theorem dX1_roomOnFirstWay_62 : decode cX1_roomOnFirstWay 62 = .ok (.invokevirtual 50, 3) := by decide +kernel
theorem dX1_roomOnFirstWay_65 : decode cX1_roomOnFirstWay 65 = .ok (.aload_n 0, 1) := by decide +kernel
theorem dX1_roomOnFirstWay_66 : decode cX1_roomOnFirstWay 66 = .ok (.getfield 29, 3) := by decide +kernel
theorem dX1_roomOnFirstWay_69 : decode cX1_roomOnFirstWay 69 = .ok (.iload_n 1, 1) := by decide +kernel
theorem dX1_roomOnFirstWay_70 : decode cX1_roomOnFirstWay 70 = .ok (.aload_n 0, 1) := by decide +kernel
theorem dX1_roomOnFirstWay_71 : decode cX1_roomOnFirstWay 71 = .ok (.getfield 25, 3) := by decide +kernel
theorem dX1_roomOnFirstWay_74 : decode cX1_roomOnFirstWay 74 = .ok (.getfield 64, 3) := by decide +kernel
theorem dX1_roomOnFirstWay_77 : decode cX1_roomOnFirstWay 77 = .ok (.invokevirtual 54, 3) := by decide +kernel
theorem dX1_roomOnFirstWay_80 : decode cX1_roomOnFirstWay 80 = .ok (.aload_n 0, 1) := by decide +kernel
theorem dX1_roomOnFirstWay_81 : decode cX1_roomOnFirstWay 81 = .ok (.getfield 29, 3) := by decide +kernel
theorem dX1_roomOnFirstWay_84 : decode cX1_roomOnFirstWay 84 = .ok (.iload_n 3, 1) := by decide +kernel
theorem dX1_roomOnFirstWay_85 : decode cX1_roomOnFirstWay 85 = .ok (.iload_n 2, 1) := by decide +kernel
theorem dX1_roomOnFirstWay_86 : decode cX1_roomOnFirstWay 86 = .ok (.invokevirtual 76, 3) := by decide +kernel
theorem dX1_roomOnFirstWay_89 : decode cX1_roomOnFirstWay 89 = .ok (.aload_n 0, 1) := by decide +kernel
theorem dX1_roomOnFirstWay_90 : decode cX1_roomOnFirstWay 90 = .ok (.aload_n 0, 1) := by decide +kernel
theorem dX1_roomOnFirstWay_91 : decode cX1_roomOnFirstWay 91 = .ok (.getfield 29, 3) := by decide +kernel
theorem dX1_roomOnFirstWay_94 : decode cX1_roomOnFirstWay 94 = .ok (.aload_n 0, 1) := by decide +kernel
theorem dX1_roomOnFirstWay_95 : decode cX1_roomOnFirstWay 95 = .ok (.getfield 22, 3) := by decide +kernel
theorem dX1_roomOnFirstWay_98 : decode cX1_roomOnFirstWay 98 = .ok (.invokevirtual 79, 3) := by decide +kernel
theorem dX1_roomOnFirstWay_101 : decode cX1_roomOnFirstWay 101 = .ok (.putfield 83, 3) := by decide +kernel
theorem dX1_roomOnFirstWay_104 : decode cX1_roomOnFirstWay 104 = .ok (.aload_n 0, 1) := by decide +kernel
theorem dX1_roomOnFirstWay_105 : decode cX1_roomOnFirstWay 105 = .ok (.aload_n 0, 1) := by decide +kernel
theorem dX1_roomOnFirstWay_106 : decode cX1_roomOnFirstWay 106 = .ok (.getfield 25, 3) := by decide +kernel
theorem dX1_roomOnFirstWay_109 : decode cX1_roomOnFirstWay 109 = .ok (.getfield 64, 3) := by decide +kernel
theorem dX1_roomOnFirstWay_112 : decode cX1_roomOnFirstWay 112 = .ok (.putfield 18, 3) := by decide +kernel
theorem dX1_roomOnFirstWay_115 : decode cX1_roomOnFirstWay 115 = .ok (.aload_n 0, 1) := by decide +kernel
theorem dX1_roomOnFirstWay_116 : decode cX1_roomOnFirstWay 116 = .ok (.iload_n 1, 1) := by decide +kernel
theorem dX1_roomOnFirstWay_117 : decode cX1_roomOnFirstWay 117 = .ok (.putfield 67, 3) := by decide +kernel
theorem dX1_roomOnFirstWay_120 : decode cX1_roomOnFirstWay 120 = .ok (.aload_n 0, 1) := by decide +kernel
theorem dX1_roomOnFirstWay_121 : decode cX1_roomOnFirstWay 121 = .ok (.iload_n 2, 1) := by decide +kernel
theorem dX1_roomOnFirstWay_122 : decode cX1_roomOnFirstWay 122 = .ok (.putfield 70, 3) := by decide +kernel
theorem dX1_roomOnFirstWay_125 : decode cX1_roomOnFirstWay 125 = .ok (.aload_n 0, 1) := by decide +kernel
theorem dX1_roomOnFirstWay_126 : decode cX1_roomOnFirstWay 126 = .ok (.iload_n 3, 1) := by decide +kernel
theorem dX1_roomOnFirstWay_127 : decode cX1_roomOnFirstWay 127 = .ok (.putfield 73, 3) := by decide +kernel
theorem dX1_roomOnFirstWay_130 : decode cX1_roomOnFirstWay 130 = .ok (.aload_n 0, 1) := by decide +kernel
theorem dX1_roomOnFirstWay_131 : decode cX1_roomOnFirstWay 131 = .ok (.getfield 83, 3) := by decide +kernel
theorem dX1_roomOnFirstWay_134 : decode cX1_roomOnFirstWay 134 = .ok (.ifCond .eq 13, 3) := by decide +kernel
theorem dX1_roomOnFirstWay_137 : decode cX1_roomOnFirstWay 137 = .ok (.aload_n 0, 1) := by decide +kernel
theorem dX1_roomOnFirstWay_138 : decode cX1_roomOnFirstWay 138 = .ok (.getfield 22, 3) := by decide +kernel
theorem dX1_roomOnFirstWay_141 : decode cX1_roomOnFirstWay 141 = .ok (.iload 4, 2) := by decide +kernel
theorem dX1_roomOnFirstWay_143 : decode cX1_roomOnFirstWay 143 = .ok (.iaload, 1) := by decide +kernel
theorem dX1_roomOnFirstWay_144 : decode cX1_roomOnFirstWay 144 = .ok (.goto 4, 3) := by decide +kernel
theorem dX1_roomOnFirstWay_147 : decode cX1_roomOnFirstWay 147 = .ok (.iconst (-1), 1) := by decide +kernel
theorem dX1_roomOnFirstWay_148 : decode cX1_roomOnFirstWay 148 = .ok (.ireturn, 1) := by decide +kernel
theorem dX2_init_0 : decode cX2_init 0 = .ok (.aload_n 0, 1) := by decide +kernel
theorem dX2_init_1 : decode cX2_init 1 = .ok (.invokespecial 3, 3) := by decide +kernel
theorem dX2_init_4 : decode cX2_init 4 = .ok (.aload_n 0, 1) := by decide +kernel
theorem dX2_init_5 : decode cX2_init 5 = .ok (.bipush 100, 2) := by decide +kernel
theorem dX2_init_7 : decode cX2_init 7 = .ok (.newarray .int, 2) := by decide +kernel
theorem dX2_init_9 : decode cX2_init 9 = .ok (.putfield 9, 3) := by decide +kernel
theorem dX2_init_12 : decode cX2_init 12 = .ok (.aload_n 0, 1) := by decide +kernel
theorem dX2_init_13 : decode cX2_init 13 = .ok (.bipush 100, 2) := by decide +kernel
theorem dX2_init_15 : decode cX2_init 15 = .ok (.newarray .int, 2) := by decide +kernel
theorem dX2_init_17 : decode cX2_init 17 = .ok (.putfield 15, 3) := by decide +kernel
theorem dX2_init_20 : decode cX2_init 20 = .ok (.aload_n 0, 1) := by decide +kernel
theorem dX2_init_21 : decode cX2_init 21 = .ok (.bipush 100, 2) := by decide +kernel
theorem dX2_init_23 : decode cX2_init 23 = .ok (.newarray .int, 2) := by decide +kernel
theorem dX2_init_25 : decode cX2_init 25 = .ok (.putfield 18, 3) := by decide +kernel
theorem dX2_init_28 : decode cX2_init 28 = .ok (.aload_n 0, 1) := by decide +kernel
theorem dX2_init_29 : decode cX2_init 29 = .ok (.bipush 100, 2) := by decide +kernel
theorem dX2_init_31 : decode cX2_init 31 = .ok (.newarray .int, 2) := by decide +kernel
theorem dX2_init_33 : decode cX2_init 33 = .ok (.putfield 21, 3) := by decide +kernel
theorem dX2_init_36 : decode cX2_init 36 = .ok (.aload_n 0, 1) := by decide +kernel
theorem dX2_init_37 : decode cX2_init 37 = .ok (.bipush 100, 2) := by decide +kernel
theorem dX2_init_39 : decode cX2_init 39 = .ok (.newarray .int, 2) := by decide +kernel
theorem dX2_init_41 : decode cX2_init 41 = .ok (.putfield 24, 3) := by decide +kernel
theorem dX2_init_44 : decode cX2_init 44 = .ok (.return_, 1) := by decide +kernel
theorem dX2_clear_0 : decode cX2_clear 0 = .ok (.aload_n 0, 1) := by decide +kernel
theorem dX2_clear_1 : decode cX2_clear 1 = .ok (.iconst 0, 1) := by decide +kernel
theorem dX2_clear_2 : decode cX2_clear 2 = .ok (.putfield 27, 3) := by decide +kernel
theorem dX2_clear_5 : decode cX2_clear 5 = .ok (.return_, 1) := by decide +kernel
theorem dX2_add_0 : decode cX2_add 0 = .ok (.aload_n 0, 1) := by decide +kernel
theorem dX2_add_1 : decode cX2_add 1 = .ok (.getfield 27, 3) := by decide +kernel
theorem dX2_add_4 : decode cX2_add 4 = .ok (.bipush 100, 2) := by decide +kernel
theorem dX2_add_6 : decode cX2_add 6 = .ok (.if_icmp .lt 5, 3) := by decide +kernel
theorem dX2_add_9 : decode cX2_add 9 = .ok (.iconst (-1), 1) := by decide +kernel
theorem dX2_add_10 : decode cX2_add 10 = .ok (.ireturn, 1) := by decide +kernel
theorem dX2_add_11 : decode cX2_add 11 = .ok (.aload_n 0, 1) := by decide +kernel
theorem dX2_add_12 : decode cX2_add 12 = .ok (.getfield 9, 3) := by decide +kernel
theorem dX2_add_15 : decode cX2_add 15 = .ok (.aload_n 0, 1) := by decide +kernel
theorem dX2_add_16 : decode cX2_add 16 = .ok (.getfield 27, 3) := by decide +kernel
theorem dX2_add_19 : decode cX2_add 19 = .ok (.iload_n 1, 1) := by decide +kernel
theorem dX2_add_20 : decode cX2_add 20 = .ok (.iastore, 1) := by decide +kernel
theorem dX2_add_21 : decode cX2_add 21 = .ok (.aload_n 0, 1) := by decide +kernel
theorem dX2_add_22 : decode cX2_add 22 = .ok (.getfield 15, 3) := by decide +kernel
theorem dX2_add_25 : decode cX2_add 25 = .ok (.aload_n 0, 1) := by decide +kernel
theorem dX2_add_26 : decode cX2_add 26 = .ok (.getfield 27, 3) := by decide +kernel
theorem dX2_add_29 : decode cX2_add 29 = .ok (.iload_n 2, 1) := by decide +kernel
theorem dX2_add_30 : decode cX2_add 30 = .ok (.iastore, 1) := by decide +kernel
theorem dX2_add_31 : decode cX2_add 31 = .ok (.aload_n 0, 1) := by decide +kernel
theorem dX2_add_32 : decode cX2_add 32 = .ok (.getfield 18, 3) := by decide +kernel
theorem dX2_add_35 : decode cX2_add 35 = .ok (.aload_n 0, 1) := by decide +kernel
theorem dX2_add_36 : decode cX2_add 36 = .ok (.getfield 27, 3) := by decide +kernel
theorem dX2_add_39 : decode cX2_add 39 = .ok (.iload_n 3, 1) := by decide +kernel
theorem dX2_add_40 : decode cX2_add 40 = .ok (.iastore, 1) := by decide +kernel
theorem dX2_add_41 : decode cX2_add 41 = .ok (.aload_n 0, 1) := by decide +kernel
theorem dX2_add_42 : decode cX2_add 42 = .ok (.getfield 21, 3) := by decide +kernel
theorem dX2_add_45 : decode cX2_add 45 = .ok (.aload_n 0, 1) := by decide +kernel
theorem dX2_add_46 : decode cX2_add 46 = .ok (.getfield 27, 3) := by decide +kernel
theorem dX2_add_49 : decode cX2_add 49 = .ok (.iload 4, 2) := by decide +kernel
theorem dX2_add_51 : decode cX2_add 51 = .ok (.iastore, 1) := by decide +kernel
theorem dX2_add_52 : decode cX2_add 52 = .ok (.aload_n 0, 1) := by decide +kernel
theorem dX2_add_53 : decode cX2_add 53 = .ok (.getfield 24, 3) := by decide +kernel
theorem dX2_add_56 : decode cX2_add 56 = .ok (.aload_n 0, 1) := by decide +kernel
theorem dX2_add_57 : decode cX2_add 57 = .ok (.getfield 27, 3) := by decide +kernel
theorem dX2_add_60 : decode cX2_add 60 = .ok (.iload 5, 2) := by decide +kernel
theorem dX2_add_62 : decode cX2_add 62 = .ok (.iastore, 1) := by decide +kernel
theorem dX2_add_63 : decode cX2_add 63 = .ok (.aload_n 0, 1) := by decide +kernel
theorem dX2_add_64 : decode cX2_add 64 = .ok (.dup, 1) := by decide +kernel
theorem dX2_add_65 : decode cX2_add 65 = .ok (.getfield 27, 3) := by decide +kernel
theorem dX2_add_68 : decode cX2_add 68 = .ok (.iconst 1, 1) := by decide +kernel
theorem dX2_add_69 : decode cX2_add 69 = .ok (.iadd, 1) := by decide +kernel
theorem dX2_add_70 : decode cX2_add 70 = .ok (.putfield 27, 3) := by decide +kernel
theorem dX2_add_73 : decode cX2_add 73 = .ok (.aload_n 0, 1) := by decide +kernel
theorem dX2_add_74 : decode cX2_add 74 = .ok (.getfield 27, 3) := by decide +kernel
theorem dX2_add_77 : decode cX2_add 77 = .ok (.iconst 1, 1) := by decide +kernel
theorem dX2_add_78 : decode cX2_add 78 = .ok (.isub, 1) := by decide +kernel
theorem dX2_add_79 : decode cX2_add 79 = .ok (.ireturn, 1) := by decide +kernel
theorem dX2_has_0 : decode cX2_has 0 = .ok (.iload_n 1, 1) := by decide +kernel
theorem dX2_has_1 : decode cX2_has 1 = .ok (.ifCond .lt 15, 3) := by decide +kernel
theorem dX2_has_4 : decode cX2_has 4 = .ok (.iload_n 1, 1) := by decide +kernel
theorem dX2_has_5 : decode cX2_has 5 = .ok (.aload_n 0, 1) := by decide +kernel
theorem dX2_has_6 : decode cX2_has 6 = .ok (.getfield 27, 3) := by decide +kernel
theorem dX2_has_9 : decode cX2_has 9 = .ok (.if_icmp .ge 7, 3) := by decide +kernel
theorem dX2_has_12 : decode cX2_has 12 = .ok (.iconst 1, 1) := by decide +kernel
theorem dX2_has_13 : decode cX2_has 13 = .ok (.goto 4, 3) := by decide +kernel
theorem dX2_has_16 : decode cX2_has 16 = .ok (.iconst 0, 1) := by decide +kernel
theorem dX2_has_17 : decode cX2_has 17 = .ok (.ireturn, 1) := by decide +kernel
theorem dX2_isPass_0 : decode cX2_isPass 0 = .ok (.aload_n 0, 1) := by decide +kernel
theorem dX2_isPass_1 : decode cX2_isPass 1 = .ok (.iload_n 1, 1) := by decide +kernel
theorem dX2_isPass_2 : decode cX2_isPass 2 = .ok (.invokevirtual 31, 3) := by decide +kernel
theorem dX2_isPass_5 : decode cX2_isPass 5 = .ok (.ifCond .eq 16, 3) := by decide +kernel
theorem dX2_isPass_8 : decode cX2_isPass 8 = .ok (.aload_n 0, 1) := by decide +kernel
theorem dX2_isPass_9 : decode cX2_isPass 9 = .ok (.getfield 9, 3) := by decide +kernel
theorem dX2_isPass_12 : decode cX2_isPass 12 = .ok (.iload_n 1, 1) := by decide +kernel
theorem dX2_isPass_13 : decode cX2_isPass 13 = .ok (.iaload, 1) := by decide +kernel
theorem dX2_isPass_14 : decode cX2_isPass 14 = .ok (.ifCond .ne 7, 3) := by decide +kernel
theorem dX2_isPass_17 : decode cX2_isPass 17 = .ok (.iconst 1, 1) := by decide +kernel
theorem dX2_isPass_18 : decode cX2_isPass 18 = .ok (.goto 4, 3) := by decide +kernel
theorem dX2_isPass_21 : decode cX2_isPass 21 = .ok (.iconst 0, 1) := by decide +kernel
theorem dX2_isPass_22 : decode cX2_isPass 22 = .ok (.ireturn, 1) := by decide +kernel
theorem dX2_isPassOf_0 : decode cX2_isPassOf 0 = .ok (.aload_n 0, 1) := by decide +kernel
theorem dX2_isPassOf_1 : decode cX2_isPassOf 1 = .ok (.iload_n 1, 1) := by decide +kernel
theorem dX2_isPassOf_2 : decode cX2_isPassOf 2 = .ok (.invokevirtual 35, 3) := by decide +kernel
theorem dX2_isPassOf_5 : decode cX2_isPassOf 5 = .ok (.ifCond .eq 17, 3) := by decide +kernel
theorem dX2_isPassOf_8 : decode cX2_isPassOf 8 = .ok (.aload_n 0, 1) := by decide +kernel
theorem dX2_isPassOf_9 : decode cX2_isPassOf 9 = .ok (.getfield 15, 3) := by decide +kernel
theorem dX2_isPassOf_12 : decode cX2_isPassOf 12 = .ok (.iload_n 1, 1) := by decide +kernel
theorem dX2_isPassOf_13 : decode cX2_isPassOf 13 = .ok (.iaload, 1) := by decide +kernel
theorem dX2_isPassOf_14 : decode cX2_isPassOf 14 = .ok (.iload_n 2, 1) := by decide +kernel
theorem dX2_isPassOf_15 : decode cX2_isPassOf 15 = .ok (.if_icmp .ne 7, 3) := by decide +kernel
theorem dX2_isPassOf_18 : decode cX2_isPassOf 18 = .ok (.iconst 1, 1) := by decide +kernel
theorem dX2_isPassOf_19 : decode cX2_isPassOf 19 = .ok (.goto 4, 3) := by decide +kernel
theorem dX2_isPassOf_22 : decode cX2_isPassOf 22 = .ok (.iconst 0, 1) := by decide +kernel
theorem dX2_isPassOf_23 : decode cX2_isPassOf 23 = .ok (.ireturn, 1) := by decide +kernel
theorem dX2_isBack_0 : decode cX2_isBack 0 = .ok (.aload_n 0, 1) := by decide +kernel
theorem dX2_isBack_1 : decode cX2_isBack 1 = .ok (.getfield 24, 3) := by decide +kernel
theorem dX2_isBack_4 : decode cX2_isBack 4 = .ok (.iload_n 1, 1) := by decide +kernel
theorem dX2_isBack_5 : decode cX2_isBack 5 = .ok (.iaload, 1) := by decide +kernel
theorem dX2_isBack_6 : decode cX2_isBack 6 = .ok (.iconst 1, 1) := by decide +kernel
theorem dX2_isBack_7 : decode cX2_isBack 7 = .ok (.if_icmp .ne 7, 3) := by decide +kernel
theorem dX2_isBack_10 : decode cX2_isBack 10 = .ok (.iconst 1, 1) := by decide +kernel
theorem dX2_isBack_11 : decode cX2_isBack 11 = .ok (.goto 4, 3) := by decide +kernel
theorem dX2_isBack_14 : decode cX2_isBack 14 = .ok (.iconst 0, 1) := by decide +kernel
theorem dX2_isBack_15 : decode cX2_isBack 15 = .ok (.ireturn, 1) := by decide +kernel
theorem dX2_passesOf_0 : decode cX2_passesOf 0 = .ok (.iconst 0, 1) := by decide +kernel
theorem dX2_passesOf_1 : decode cX2_passesOf 1 = .ok (.istore_n 2, 1) := by decide +kernel
theorem dX2_passesOf_2 : decode cX2_passesOf 2 = .ok (.iconst 0, 1) := by decide +kernel
theorem dX2_passesOf_3 : decode cX2_passesOf 3 = .ok (.istore_n 3, 1) := by decide +kernel
theorem dX2_passesOf_4 : decode cX2_passesOf 4 = .ok (.iload_n 3, 1) := by decide +kernel
theorem dX2_passesOf_5 : decode cX2_passesOf 5 = .ok (.aload_n 0, 1) := by decide +kernel
theorem dX2_passesOf_6 : decode cX2_passesOf 6 = .ok (.getfield 27, 3) := by decide +kernel
theorem dX2_passesOf_9 : decode cX2_passesOf 9 = .ok (.if_icmp .ge 21, 3) := by decide +kernel
theorem dX2_passesOf_12 : decode cX2_passesOf 12 = .ok (.aload_n 0, 1) := by decide +kernel
theorem dX2_passesOf_13 : decode cX2_passesOf 13 = .ok (.iload_n 3, 1) := by decide +kernel
theorem dX2_passesOf_14 : decode cX2_passesOf 14 = .ok (.iload_n 1, 1) := by decide +kernel
theorem dX2_passesOf_15 : decode cX2_passesOf 15 = .ok (.invokevirtual 38, 3) := by decide +kernel
theorem dX2_passesOf_18 : decode cX2_passesOf 18 = .ok (.ifCond .eq 6, 3) := by decide +kernel
theorem dX2_passesOf_21 : decode cX2_passesOf 21 = .ok (.iinc 2 1, 3) := by decide +kernel
theorem dX2_passesOf_24 : decode cX2_passesOf 24 = .ok (.iinc 3 1, 3) := by decide +kernel
theorem dX2_passesOf_27 : decode cX2_passesOf 27 = .ok (.goto (-23), 3) := by decide +kernel
theorem dX2_passesOf_30 : decode cX2_passesOf 30 = .ok (.iload_n 2, 1) := by decide +kernel
theorem dX2_passesOf_31 : decode cX2_passesOf 31 = .ok (.ireturn, 1) := by decide +kernel
theorem dX2_tellingOf_0 : decode cX2_tellingOf 0 = .ok (.iload_n 2, 1) := by decide +kernel
theorem dX2_tellingOf_1 : decode cX2_tellingOf 1 = .ok (.aload_n 0, 1) := by decide +kernel
theorem dX2_tellingOf_2 : decode cX2_tellingOf 2 = .ok (.getfield 27, 3) := by decide +kernel
theorem dX2_tellingOf_5 : decode cX2_tellingOf 5 = .ok (.invokestatic 42, 3) := by decide +kernel
theorem dX2_tellingOf_8 : decode cX2_tellingOf 8 = .ok (.iconst 1, 1) := by decide +kernel
theorem dX2_tellingOf_9 : decode cX2_tellingOf 9 = .ok (.isub, 1) := by decide +kernel
theorem dX2_tellingOf_10 : decode cX2_tellingOf 10 = .ok (.istore_n 3, 1) := by decide +kernel
theorem dX2_tellingOf_11 : decode cX2_tellingOf 11 = .ok (.iload_n 3, 1) := by decide +kernel
theorem dX2_tellingOf_12 : decode cX2_tellingOf 12 = .ok (.ifCond .lt 33, 3) := by decide +kernel
theorem dX2_tellingOf_15 : decode cX2_tellingOf 15 = .ok (.aload_n 0, 1) := by decide +kernel
theorem dX2_tellingOf_16 : decode cX2_tellingOf 16 = .ok (.getfield 15, 3) := by decide +kernel
theorem dX2_tellingOf_19 : decode cX2_tellingOf 19 = .ok (.iload_n 3, 1) := by decide +kernel
theorem dX2_tellingOf_20 : decode cX2_tellingOf 20 = .ok (.iaload, 1) := by decide +kernel
theorem dX2_tellingOf_21 : decode cX2_tellingOf 21 = .ok (.iload_n 1, 1) := by decide +kernel
theorem dX2_tellingOf_22 : decode cX2_tellingOf 22 = .ok (.if_icmp .eq 13, 3) := by decide +kernel
theorem dX2_tellingOf_25 : decode cX2_tellingOf 25 = .ok (.aload_n 0, 1) := by decide +kernel
theorem dX2_tellingOf_26 : decode cX2_tellingOf 26 = .ok (.getfield 9, 3) := by decide +kernel
theorem dX2_tellingOf_29 : decode cX2_tellingOf 29 = .ok (.iload_n 3, 1) := by decide +kernel
theorem dX2_tellingOf_30 : decode cX2_tellingOf 30 = .ok (.iaload, 1) := by decide +kernel
theorem dX2_tellingOf_31 : decode cX2_tellingOf 31 = .ok (.iconst 1, 1) := by decide +kernel
theorem dX2_tellingOf_32 : decode cX2_tellingOf 32 = .ok (.if_icmp .ne 7, 3) := by decide +kernel
theorem dX2_tellingOf_35 : decode cX2_tellingOf 35 = .ok (.iload_n 3, 1) := by decide +kernel
theorem dX2_tellingOf_36 : decode cX2_tellingOf 36 = .ok (.iconst 1, 1) := by decide +kernel
theorem dX2_tellingOf_37 : decode cX2_tellingOf 37 = .ok (.iadd, 1) := by decide +kernel
theorem dX2_tellingOf_38 : decode cX2_tellingOf 38 = .ok (.ireturn, 1) := by decide +kernel
theorem dX2_tellingOf_39 : decode cX2_tellingOf 39 = .ok (.iinc 3 (-1), 3) := by decide +kernel
theorem dX2_tellingOf_42 : decode cX2_tellingOf 42 = .ok (.goto (-31), 3) := by decide +kernel
theorem dX2_tellingOf_45 : decode cX2_tellingOf 45 = .ok (.iconst 0, 1) := by decide +kernel
theorem dX2_tellingOf_46 : decode cX2_tellingOf 46 = .ok (.ireturn, 1) := by decide +kernel
theorem dX3_init_0 : decode cX3_init 0 = .ok (.aload_n 0, 1) := by decide +kernel
theorem dX3_init_1 : decode cX3_init 1 = .ok (.invokespecial 3, 3) := by decide +kernel
theorem dX3_init_4 : decode cX3_init 4 = .ok (.aload_n 0, 1) := by decide +kernel
theorem dX3_init_5 : decode cX3_init 5 = .ok (.bipush 8, 2) := by decide +kernel
theorem dX3_init_7 : decode cX3_init 7 = .ok (.newarray .long, 2) := by decide +kernel
theorem dX3_init_9 : decode cX3_init 9 = .ok (.putfield 9, 3) := by decide +kernel
theorem dX3_init_12 : decode cX3_init 12 = .ok (.aload_n 0, 1) := by decide +kernel
theorem dX3_init_13 : decode cX3_init 13 = .ok (.bipush 8, 2) := by decide +kernel
theorem dX3_init_15 : decode cX3_init 15 = .ok (.newarray .int, 2) := by decide +kernel
theorem dX3_init_17 : decode cX3_init 17 = .ok (.putfield 15, 3) := by decide +kernel
theorem dX3_init_20 : decode cX3_init 20 = .ok (.aload_n 0, 1) := by decide +kernel
theorem dX3_init_21 : decode cX3_init 21 = .ok (.bipush 10, 2) := by decide +kernel
theorem dX3_init_23 : decode cX3_init 23 = .ok (.newarray .long, 2) := by decide +kernel
theorem dX3_init_25 : decode cX3_init 25 = .ok (.putfield 19, 3) := by decide +kernel
theorem dX3_init_28 : decode cX3_init 28 = .ok (.aload_n 0, 1) := by decide +kernel
theorem dX3_init_29 : decode cX3_init 29 = .ok (.bipush 10, 2) := by decide +kernel
theorem dX3_init_31 : decode cX3_init 31 = .ok (.newarray .int, 2) := by decide +kernel
theorem dX3_init_33 : decode cX3_init 33 = .ok (.putfield 22, 3) := by decide +kernel
theorem dX3_init_36 : decode cX3_init 36 = .ok (.aload_n 0, 1) := by decide +kernel
theorem dX3_init_37 : decode cX3_init 37 = .ok (.bipush 10, 2) := by decide +kernel
theorem dX3_init_39 : decode cX3_init 39 = .ok (.newarray .int, 2) := by decide +kernel
theorem dX3_init_41 : decode cX3_init 41 = .ok (.putfield 25, 3) := by decide +kernel
theorem dX3_init_44 : decode cX3_init 44 = .ok (.aload_n 0, 1) := by decide +kernel
theorem dX3_init_45 : decode cX3_init 45 = .ok (.bipush 10, 2) := by decide +kernel
theorem dX3_init_47 : decode cX3_init 47 = .ok (.newarray .int, 2) := by decide +kernel
theorem dX3_init_49 : decode cX3_init 49 = .ok (.putfield 28, 3) := by decide +kernel
theorem dX3_init_52 : decode cX3_init 52 = .ok (.return_, 1) := by decide +kernel
theorem dX3_clear_0 : decode cX3_clear 0 = .ok (.aload_n 0, 1) := by decide +kernel
theorem dX3_clear_1 : decode cX3_clear 1 = .ok (.iconst 0, 1) := by decide +kernel
theorem dX3_clear_2 : decode cX3_clear 2 = .ok (.putfield 31, 3) := by decide +kernel
theorem dX3_clear_5 : decode cX3_clear 5 = .ok (.aload_n 0, 1) := by decide +kernel
theorem dX3_clear_6 : decode cX3_clear 6 = .ok (.iconst 0, 1) := by decide +kernel
theorem dX3_clear_7 : decode cX3_clear 7 = .ok (.putfield 35, 3) := by decide +kernel
theorem dX3_clear_10 : decode cX3_clear 10 = .ok (.return_, 1) := by decide +kernel
theorem dX3_copyFrom_0 : decode cX3_copyFrom 0 = .ok (.aload_n 0, 1) := by decide +kernel
theorem dX3_copyFrom_1 : decode cX3_copyFrom 1 = .ok (.aload_n 1, 1) := by decide +kernel
theorem dX3_copyFrom_2 : decode cX3_copyFrom 2 = .ok (.getfield 31, 3) := by decide +kernel
theorem dX3_copyFrom_5 : decode cX3_copyFrom 5 = .ok (.putfield 31, 3) := by decide +kernel
theorem dX3_copyFrom_8 : decode cX3_copyFrom 8 = .ok (.aload_n 0, 1) := by decide +kernel
theorem dX3_copyFrom_9 : decode cX3_copyFrom 9 = .ok (.aload_n 1, 1) := by decide +kernel
theorem dX3_copyFrom_10 : decode cX3_copyFrom 10 = .ok (.getfield 35, 3) := by decide +kernel
theorem dX3_copyFrom_13 : decode cX3_copyFrom 13 = .ok (.putfield 35, 3) := by decide +kernel
theorem dX3_copyFrom_16 : decode cX3_copyFrom 16 = .ok (.aload_n 1, 1) := by decide +kernel
theorem dX3_copyFrom_17 : decode cX3_copyFrom 17 = .ok (.getfield 15, 3) := by decide +kernel
theorem dX3_copyFrom_20 : decode cX3_copyFrom 20 = .ok (.iconst 0, 1) := by decide +kernel
theorem dX3_copyFrom_21 : decode cX3_copyFrom 21 = .ok (.aload_n 0, 1) := by decide +kernel
theorem dX3_copyFrom_22 : decode cX3_copyFrom 22 = .ok (.getfield 15, 3) := by decide +kernel
theorem dX3_copyFrom_25 : decode cX3_copyFrom 25 = .ok (.iconst 0, 1) := by decide +kernel
theorem dX3_copyFrom_26 : decode cX3_copyFrom 26 = .ok (.bipush 8, 2) := by decide +kernel
theorem dX3_copyFrom_28 : decode cX3_copyFrom 28 = .ok (.invokestatic 38, 3) := by decide +kernel
theorem dX3_copyFrom_31 : decode cX3_copyFrom 31 = .ok (.aload_n 1, 1) := by decide +kernel
theorem dX3_copyFrom_32 : decode cX3_copyFrom 32 = .ok (.getfield 22, 3) := by decide +kernel
theorem dX3_copyFrom_35 : decode cX3_copyFrom 35 = .ok (.iconst 0, 1) := by decide +kernel
theorem dX3_copyFrom_36 : decode cX3_copyFrom 36 = .ok (.aload_n 0, 1) := by decide +kernel
theorem dX3_copyFrom_37 : decode cX3_copyFrom 37 = .ok (.getfield 22, 3) := by decide +kernel
theorem dX3_copyFrom_40 : decode cX3_copyFrom 40 = .ok (.iconst 0, 1) := by decide +kernel
theorem dX3_copyFrom_41 : decode cX3_copyFrom 41 = .ok (.bipush 10, 2) := by decide +kernel
theorem dX3_copyFrom_43 : decode cX3_copyFrom 43 = .ok (.invokestatic 38, 3) := by decide +kernel
theorem dX3_copyFrom_46 : decode cX3_copyFrom 46 = .ok (.aload_n 1, 1) := by decide +kernel
theorem dX3_copyFrom_47 : decode cX3_copyFrom 47 = .ok (.getfield 25, 3) := by decide +kernel
theorem dX3_copyFrom_50 : decode cX3_copyFrom 50 = .ok (.iconst 0, 1) := by decide +kernel
theorem dX3_copyFrom_51 : decode cX3_copyFrom 51 = .ok (.aload_n 0, 1) := by decide +kernel
theorem dX3_copyFrom_52 : decode cX3_copyFrom 52 = .ok (.getfield 25, 3) := by decide +kernel
theorem dX3_copyFrom_55 : decode cX3_copyFrom 55 = .ok (.iconst 0, 1) := by decide +kernel
theorem dX3_copyFrom_56 : decode cX3_copyFrom 56 = .ok (.bipush 10, 2) := by decide +kernel
theorem dX3_copyFrom_58 : decode cX3_copyFrom 58 = .ok (.invokestatic 38, 3) := by decide +kernel
theorem dX3_copyFrom_61 : decode cX3_copyFrom 61 = .ok (.aload_n 1, 1) := by decide +kernel
theorem dX3_copyFrom_62 : decode cX3_copyFrom 62 = .ok (.getfield 28, 3) := by decide +kernel
theorem dX3_copyFrom_65 : decode cX3_copyFrom 65 = .ok (.iconst 0, 1) := by decide +kernel
theorem dX3_copyFrom_66 : decode cX3_copyFrom 66 = .ok (.aload_n 0, 1) := by decide +kernel
theorem dX3_copyFrom_67 : decode cX3_copyFrom 67 = .ok (.getfield 28, 3) := by decide +kernel
theorem dX3_copyFrom_70 : decode cX3_copyFrom 70 = .ok (.iconst 0, 1) := by decide +kernel
theorem dX3_copyFrom_71 : decode cX3_copyFrom 71 = .ok (.bipush 10, 2) := by decide +kernel
theorem dX3_copyFrom_73 : decode cX3_copyFrom 73 = .ok (.invokestatic 38, 3) := by decide +kernel
theorem dX3_copyFrom_76 : decode cX3_copyFrom 76 = .ok (.return_, 1) := by decide +kernel
theorem dX3_roomNamed_0 : decode cX3_roomNamed 0 = .ok (.iconst 0, 1) := by decide +kernel
theorem dX3_roomNamed_1 : decode cX3_roomNamed 1 = .ok (.istore_n 3, 1) := by decide +kernel
theorem dX3_roomNamed_2 : decode cX3_roomNamed 2 = .ok (.iload_n 3, 1) := by decide +kernel
theorem dX3_roomNamed_3 : decode cX3_roomNamed 3 = .ok (.aload_n 0, 1) := by decide +kernel
theorem dX3_roomNamed_4 : decode cX3_roomNamed 4 = .ok (.getfield 31, 3) := by decide +kernel
theorem dX3_roomNamed_7 : decode cX3_roomNamed 7 = .ok (.if_icmp .ge 22, 3) := by decide +kernel
theorem dX3_roomNamed_10 : decode cX3_roomNamed 10 = .ok (.aload_n 0, 1) := by decide +kernel
theorem dX3_roomNamed_11 : decode cX3_roomNamed 11 = .ok (.getfield 9, 3) := by decide +kernel
theorem dX3_roomNamed_14 : decode cX3_roomNamed 14 = .ok (.iload_n 3, 1) := by decide +kernel
theorem dX3_roomNamed_15 : decode cX3_roomNamed 15 = .ok (.laload, 1) := by decide +kernel
theorem dX3_roomNamed_16 : decode cX3_roomNamed 16 = .ok (.lload_n 1, 1) := by decide +kernel
theorem dX3_roomNamed_17 : decode cX3_roomNamed 17 = .ok (.lcmp, 1) := by decide +kernel
theorem dX3_roomNamed_18 : decode cX3_roomNamed 18 = .ok (.ifCond .ne 5, 3) := by decide +kernel
theorem dX3_roomNamed_21 : decode cX3_roomNamed 21 = .ok (.iload_n 3, 1) := by decide +kernel
theorem dX3_roomNamed_22 : decode cX3_roomNamed 22 = .ok (.ireturn, 1) := by decide +kernel
theorem dX3_roomNamed_23 : decode cX3_roomNamed 23 = .ok (.iinc 3 1, 3) := by decide +kernel
theorem dX3_roomNamed_26 : decode cX3_roomNamed 26 = .ok (.goto (-24), 3) := by decide +kernel
theorem dX3_roomNamed_29 : decode cX3_roomNamed 29 = .ok (.iconst (-1), 1) := by decide +kernel
theorem dX3_roomNamed_30 : decode cX3_roomNamed 30 = .ok (.ireturn, 1) := by decide +kernel
theorem dX3_hasName_0 : decode cX3_hasName 0 = .ok (.iconst 0, 1) := by decide +kernel
theorem dX3_hasName_1 : decode cX3_hasName 1 = .ok (.istore_n 3, 1) := by decide +kernel
theorem dX3_hasName_2 : decode cX3_hasName 2 = .ok (.iload_n 3, 1) := by decide +kernel
theorem dX3_hasName_3 : decode cX3_hasName 3 = .ok (.aload_n 0, 1) := by decide +kernel
theorem dX3_hasName_4 : decode cX3_hasName 4 = .ok (.getfield 35, 3) := by decide +kernel
theorem dX3_hasName_7 : decode cX3_hasName 7 = .ok (.if_icmp .ge 22, 3) := by decide +kernel
theorem dX3_hasName_10 : decode cX3_hasName 10 = .ok (.aload_n 0, 1) := by decide +kernel
theorem dX3_hasName_11 : decode cX3_hasName 11 = .ok (.getfield 19, 3) := by decide +kernel
theorem dX3_hasName_14 : decode cX3_hasName 14 = .ok (.iload_n 3, 1) := by decide +kernel
theorem dX3_hasName_15 : decode cX3_hasName 15 = .ok (.laload, 1) := by decide +kernel
theorem dX3_hasName_16 : decode cX3_hasName 16 = .ok (.lload_n 1, 1) := by decide +kernel
theorem dX3_hasName_17 : decode cX3_hasName 17 = .ok (.lcmp, 1) := by decide +kernel
theorem dX3_hasName_18 : decode cX3_hasName 18 = .ok (.ifCond .ne 5, 3) := by decide +kernel
theorem dX3_hasName_21 : decode cX3_hasName 21 = .ok (.iconst 1, 1) := by decide +kernel
theorem dX3_hasName_22 : decode cX3_hasName 22 = .ok (.ireturn, 1) := by decide +kernel
theorem dX3_hasName_23 : decode cX3_hasName 23 = .ok (.iinc 3 1, 3) := by decide +kernel
theorem dX3_hasName_26 : decode cX3_hasName 26 = .ok (.goto (-24), 3) := by decide +kernel
theorem dX3_hasName_29 : decode cX3_hasName 29 = .ok (.aload_n 0, 1) := by decide +kernel
theorem dX3_hasName_30 : decode cX3_hasName 30 = .ok (.lload_n 1, 1) := by decide +kernel
theorem dX3_hasName_31 : decode cX3_hasName 31 = .ok (.invokevirtual 44, 3) := by decide +kernel
theorem dX3_hasName_34 : decode cX3_hasName 34 = .ok (.iconst (-1), 1) := by decide +kernel
theorem dX3_hasName_35 : decode cX3_hasName 35 = .ok (.if_icmp .eq 7, 3) := by decide +kernel
theorem dX3_hasName_38 : decode cX3_hasName 38 = .ok (.iconst 1, 1) := by decide +kernel
theorem dX3_hasName_39 : decode cX3_hasName 39 = .ok (.goto 4, 3) := by decide +kernel
theorem dX3_hasName_42 : decode cX3_hasName 42 = .ok (.iconst 0, 1) := by decide +kernel
theorem dX3_hasName_43 : decode cX3_hasName 43 = .ok (.ireturn, 1) := by decide +kernel
theorem dX3_addRoom_0 : decode cX3_addRoom 0 = .ok (.aload_n 0, 1) := by decide +kernel
theorem dX3_addRoom_1 : decode cX3_addRoom 1 = .ok (.getfield 31, 3) := by decide +kernel
theorem dX3_addRoom_4 : decode cX3_addRoom 4 = .ok (.bipush 8, 2) := by decide +kernel
theorem dX3_addRoom_6 : decode cX3_addRoom 6 = .ok (.if_icmp .ge 33, 3) := by decide +kernel
theorem dX3_addRoom_9 : decode cX3_addRoom 9 = .ok (.aload_n 0, 1) := by decide +kernel
theorem dX3_addRoom_10 : decode cX3_addRoom 10 = .ok (.getfield 9, 3) := by decide +kernel
theorem dX3_addRoom_13 : decode cX3_addRoom 13 = .ok (.aload_n 0, 1) := by decide +kernel
theorem dX3_addRoom_14 : decode cX3_addRoom 14 = .ok (.getfield 31, 3) := by decide +kernel
theorem dX3_addRoom_17 : decode cX3_addRoom 17 = .ok (.lload_n 1, 1) := by decide +kernel
theorem dX3_addRoom_18 : decode cX3_addRoom 18 = .ok (.lastore, 1) := by decide +kernel
theorem dX3_addRoom_19 : decode cX3_addRoom 19 = .ok (.aload_n 0, 1) := by decide +kernel
theorem dX3_addRoom_20 : decode cX3_addRoom 20 = .ok (.getfield 15, 3) := by decide +kernel
theorem dX3_addRoom_23 : decode cX3_addRoom 23 = .ok (.aload_n 0, 1) := by decide +kernel
theorem dX3_addRoom_24 : decode cX3_addRoom 24 = .ok (.getfield 31, 3) := by decide +kernel
theorem dX3_addRoom_27 : decode cX3_addRoom 27 = .ok (.iload_n 3, 1) := by decide +kernel
theorem dX3_addRoom_28 : decode cX3_addRoom 28 = .ok (.iastore, 1) := by decide +kernel
theorem dX3_addRoom_29 : decode cX3_addRoom 29 = .ok (.aload_n 0, 1) := by decide +kernel
theorem dX3_addRoom_30 : decode cX3_addRoom 30 = .ok (.dup, 1) := by decide +kernel
theorem dX3_addRoom_31 : decode cX3_addRoom 31 = .ok (.getfield 31, 3) := by decide +kernel
theorem dX3_addRoom_34 : decode cX3_addRoom 34 = .ok (.iconst 1, 1) := by decide +kernel
theorem dX3_addRoom_35 : decode cX3_addRoom 35 = .ok (.iadd, 1) := by decide +kernel
theorem dX3_addRoom_36 : decode cX3_addRoom 36 = .ok (.putfield 31, 3) := by decide +kernel
theorem dX3_addRoom_39 : decode cX3_addRoom 39 = .ok (.return_, 1) := by decide +kernel
theorem dX3_addDoor_0 : decode cX3_addDoor 0 = .ok (.aload_n 0, 1) := by decide +kernel
theorem dX3_addDoor_1 : decode cX3_addDoor 1 = .ok (.getfield 35, 3) := by decide +kernel
theorem dX3_addDoor_4 : decode cX3_addDoor 4 = .ok (.bipush 10, 2) := by decide +kernel
theorem dX3_addDoor_6 : decode cX3_addDoor 6 = .ok (.if_icmp .ge 55, 3) := by decide +kernel
theorem dX3_addDoor_9 : decode cX3_addDoor 9 = .ok (.aload_n 0, 1) := by decide +kernel
theorem dX3_addDoor_10 : decode cX3_addDoor 10 = .ok (.getfield 19, 3) := by decide +kernel
theorem dX3_addDoor_13 : decode cX3_addDoor 13 = .ok (.aload_n 0, 1) := by decide +kernel
theorem dX3_addDoor_14 : decode cX3_addDoor 14 = .ok (.getfield 35, 3) := by decide +kernel
theorem dX3_addDoor_17 : decode cX3_addDoor 17 = .ok (.lload_n 1, 1) := by decide +kernel
theorem dX3_addDoor_18 : decode cX3_addDoor 18 = .ok (.lastore, 1) := by decide +kernel
theorem dX3_addDoor_19 : decode cX3_addDoor 19 = .ok (.aload_n 0, 1) := by decide +kernel
theorem dX3_addDoor_20 : decode cX3_addDoor 20 = .ok (.getfield 22, 3) := by decide +kernel
theorem dX3_addDoor_23 : decode cX3_addDoor 23 = .ok (.aload_n 0, 1) := by decide +kernel
theorem dX3_addDoor_24 : decode cX3_addDoor 24 = .ok (.getfield 35, 3) := by decide +kernel
theorem dX3_addDoor_27 : decode cX3_addDoor 27 = .ok (.iload_n 3, 1) := by decide +kernel
theorem dX3_addDoor_28 : decode cX3_addDoor 28 = .ok (.iastore, 1) := by decide +kernel
theorem dX3_addDoor_29 : decode cX3_addDoor 29 = .ok (.aload_n 0, 1) := by decide +kernel
theorem dX3_addDoor_30 : decode cX3_addDoor 30 = .ok (.getfield 25, 3) := by decide +kernel
theorem dX3_addDoor_33 : decode cX3_addDoor 33 = .ok (.aload_n 0, 1) := by decide +kernel
theorem dX3_addDoor_34 : decode cX3_addDoor 34 = .ok (.getfield 35, 3) := by decide +kernel
theorem dX3_addDoor_37 : decode cX3_addDoor 37 = .ok (.iload 4, 2) := by decide +kernel
theorem dX3_addDoor_39 : decode cX3_addDoor 39 = .ok (.iastore, 1) := by decide +kernel
theorem dX3_addDoor_40 : decode cX3_addDoor 40 = .ok (.aload_n 0, 1) := by decide +kernel
theorem dX3_addDoor_41 : decode cX3_addDoor 41 = .ok (.getfield 28, 3) := by decide +kernel
theorem dX3_addDoor_44 : decode cX3_addDoor 44 = .ok (.aload_n 0, 1) := by decide +kernel
theorem dX3_addDoor_45 : decode cX3_addDoor 45 = .ok (.getfield 35, 3) := by decide +kernel
theorem dX3_addDoor_48 : decode cX3_addDoor 48 = .ok (.iload 5, 2) := by decide +kernel
theorem dX3_addDoor_50 : decode cX3_addDoor 50 = .ok (.iastore, 1) := by decide +kernel
theorem dX3_addDoor_51 : decode cX3_addDoor 51 = .ok (.aload_n 0, 1) := by decide +kernel
theorem dX3_addDoor_52 : decode cX3_addDoor 52 = .ok (.dup, 1) := by decide +kernel
theorem dX3_addDoor_53 : decode cX3_addDoor 53 = .ok (.getfield 35, 3) := by decide +kernel
theorem dX3_addDoor_56 : decode cX3_addDoor 56 = .ok (.iconst 1, 1) := by decide +kernel
theorem dX3_addDoor_57 : decode cX3_addDoor 57 = .ok (.iadd, 1) := by decide +kernel
theorem dX3_addDoor_58 : decode cX3_addDoor 58 = .ok (.putfield 35, 3) := by decide +kernel
theorem dX3_addDoor_61 : decode cX3_addDoor 61 = .ok (.return_, 1) := by decide +kernel
theorem dX3_roomLeft_0 : decode cX3_roomLeft 0 = .ok (.iload_n 2, 1) := by decide +kernel
theorem dX3_roomLeft_1 : decode cX3_roomLeft 1 = .ok (.ifCond .eq 12, 3) := by decide +kernel
theorem dX3_roomLeft_4 : decode cX3_roomLeft 4 = .ok (.aload_n 0, 1) := by decide +kernel
theorem dX3_roomLeft_5 : decode cX3_roomLeft 5 = .ok (.getfield 25, 3) := by decide +kernel
theorem dX3_roomLeft_8 : decode cX3_roomLeft 8 = .ok (.iload_n 1, 1) := by decide +kernel
theorem dX3_roomLeft_9 : decode cX3_roomLeft 9 = .ok (.iaload, 1) := by decide +kernel
theorem dX3_roomLeft_10 : decode cX3_roomLeft 10 = .ok (.goto 9, 3) := by decide +kernel
theorem dX3_roomLeft_13 : decode cX3_roomLeft 13 = .ok (.aload_n 0, 1) := by decide +kernel
theorem dX3_roomLeft_14 : decode cX3_roomLeft 14 = .ok (.getfield 22, 3) := by decide +kernel
theorem dX3_roomLeft_17 : decode cX3_roomLeft 17 = .ok (.iload_n 1, 1) := by decide +kernel
theorem dX3_roomLeft_18 : decode cX3_roomLeft 18 = .ok (.iaload, 1) := by decide +kernel
theorem dX3_roomLeft_19 : decode cX3_roomLeft 19 = .ok (.ireturn, 1) := by decide +kernel
theorem dX3_roomComeTo_0 : decode cX3_roomComeTo 0 = .ok (.iload_n 2, 1) := by decide +kernel
theorem dX3_roomComeTo_1 : decode cX3_roomComeTo 1 = .ok (.ifCond .eq 12, 3) := by decide +kernel
theorem dX3_roomComeTo_4 : decode cX3_roomComeTo 4 = .ok (.aload_n 0, 1) := by decide +kernel
theorem dX3_roomComeTo_5 : decode cX3_roomComeTo 5 = .ok (.getfield 22, 3) := by decide +kernel
theorem dX3_roomComeTo_8 : decode cX3_roomComeTo 8 = .ok (.iload_n 1, 1) := by decide +kernel
theorem dX3_roomComeTo_9 : decode cX3_roomComeTo 9 = .ok (.iaload, 1) := by decide +kernel
theorem dX3_roomComeTo_10 : decode cX3_roomComeTo 10 = .ok (.goto 9, 3) := by decide +kernel
theorem dX3_roomComeTo_13 : decode cX3_roomComeTo 13 = .ok (.aload_n 0, 1) := by decide +kernel
theorem dX3_roomComeTo_14 : decode cX3_roomComeTo 14 = .ok (.getfield 25, 3) := by decide +kernel
theorem dX3_roomComeTo_17 : decode cX3_roomComeTo 17 = .ok (.iload_n 1, 1) := by decide +kernel
theorem dX3_roomComeTo_18 : decode cX3_roomComeTo 18 = .ok (.iaload, 1) := by decide +kernel
theorem dX3_roomComeTo_19 : decode cX3_roomComeTo 19 = .ok (.ireturn, 1) := by decide +kernel
theorem dX4_init_0 : decode cX4_init 0 = .ok (.aload_n 0, 1) := by decide +kernel
theorem dX4_init_1 : decode cX4_init 1 = .ok (.invokespecial 3, 3) := by decide +kernel
theorem dX4_init_4 : decode cX4_init 4 = .ok (.aload_n 0, 1) := by decide +kernel
theorem dX4_init_5 : decode cX4_init 5 = .ok (.bipush 100, 2) := by decide +kernel
theorem dX4_init_7 : decode cX4_init 7 = .ok (.newarray .int, 2) := by decide +kernel
theorem dX4_init_9 : decode cX4_init 9 = .ok (.putfield 9, 3) := by decide +kernel
theorem dX4_init_12 : decode cX4_init 12 = .ok (.aload_n 0, 1) := by decide +kernel
theorem dX4_init_13 : decode cX4_init 13 = .ok (.bipush 100, 2) := by decide +kernel
theorem dX4_init_15 : decode cX4_init 15 = .ok (.newarray .int, 2) := by decide +kernel
theorem dX4_init_17 : decode cX4_init 17 = .ok (.putfield 15, 3) := by decide +kernel
theorem dX4_init_20 : decode cX4_init 20 = .ok (.aload_n 0, 1) := by decide +kernel
theorem dX4_init_21 : decode cX4_init 21 = .ok (.bipush 100, 2) := by decide +kernel
theorem dX4_init_23 : decode cX4_init 23 = .ok (.newarray .int, 2) := by decide +kernel
theorem dX4_init_25 : decode cX4_init 25 = .ok (.putfield 18, 3) := by decide +kernel
theorem dX4_init_28 : decode cX4_init 28 = .ok (.aload_n 0, 1) := by decide +kernel
theorem dX4_init_29 : decode cX4_init 29 = .ok (.bipush 100, 2) := by decide +kernel
theorem dX4_init_31 : decode cX4_init 31 = .ok (.newarray .int, 2) := by decide +kernel
theorem dX4_init_33 : decode cX4_init 33 = .ok (.putfield 21, 3) := by decide +kernel
theorem dX4_init_36 : decode cX4_init 36 = .ok (.aload_n 0, 1) := by decide +kernel
theorem dX4_init_37 : decode cX4_init 37 = .ok (.bipush 100, 2) := by decide +kernel
theorem dX4_init_39 : decode cX4_init 39 = .ok (.newarray .boolean, 2) := by decide +kernel
theorem dX4_init_41 : decode cX4_init 41 = .ok (.putfield 24, 3) := by decide +kernel
theorem dX4_init_44 : decode cX4_init 44 = .ok (.return_, 1) := by decide +kernel
theorem dX4_clear_0 : decode cX4_clear 0 = .ok (.aload_n 0, 1) := by decide +kernel
theorem dX4_clear_1 : decode cX4_clear 1 = .ok (.iconst 0, 1) := by decide +kernel
theorem dX4_clear_2 : decode cX4_clear 2 = .ok (.putfield 28, 3) := by decide +kernel
theorem dX4_clear_5 : decode cX4_clear 5 = .ok (.return_, 1) := by decide +kernel
theorem dX4_add_0 : decode cX4_add 0 = .ok (.aload_n 0, 1) := by decide +kernel
theorem dX4_add_1 : decode cX4_add 1 = .ok (.getfield 28, 3) := by decide +kernel
theorem dX4_add_4 : decode cX4_add 4 = .ok (.bipush 100, 2) := by decide +kernel
theorem dX4_add_6 : decode cX4_add 6 = .ok (.if_icmp .lt 5, 3) := by decide +kernel
theorem dX4_add_9 : decode cX4_add 9 = .ok (.iconst (-1), 1) := by decide +kernel
theorem dX4_add_10 : decode cX4_add 10 = .ok (.ireturn, 1) := by decide +kernel
theorem dX4_add_11 : decode cX4_add 11 = .ok (.aload_n 0, 1) := by decide +kernel
theorem dX4_add_12 : decode cX4_add 12 = .ok (.getfield 9, 3) := by decide +kernel
theorem dX4_add_15 : decode cX4_add 15 = .ok (.aload_n 0, 1) := by decide +kernel
theorem dX4_add_16 : decode cX4_add 16 = .ok (.getfield 28, 3) := by decide +kernel
theorem dX4_add_19 : decode cX4_add 19 = .ok (.iload_n 1, 1) := by decide +kernel
theorem dX4_add_20 : decode cX4_add 20 = .ok (.iastore, 1) := by decide +kernel
theorem dX4_add_21 : decode cX4_add 21 = .ok (.aload_n 0, 1) := by decide +kernel
theorem dX4_add_22 : decode cX4_add 22 = .ok (.getfield 15, 3) := by decide +kernel
theorem dX4_add_25 : decode cX4_add 25 = .ok (.aload_n 0, 1) := by decide +kernel
theorem dX4_add_26 : decode cX4_add 26 = .ok (.getfield 28, 3) := by decide +kernel
theorem dX4_add_29 : decode cX4_add 29 = .ok (.iload_n 2, 1) := by decide +kernel
theorem dX4_add_30 : decode cX4_add 30 = .ok (.iastore, 1) := by decide +kernel
theorem dX4_add_31 : decode cX4_add 31 = .ok (.aload_n 0, 1) := by decide +kernel
theorem dX4_add_32 : decode cX4_add 32 = .ok (.getfield 18, 3) := by decide +kernel
theorem dX4_add_35 : decode cX4_add 35 = .ok (.aload_n 0, 1) := by decide +kernel
theorem dX4_add_36 : decode cX4_add 36 = .ok (.getfield 28, 3) := by decide +kernel
theorem dX4_add_39 : decode cX4_add 39 = .ok (.iload_n 3, 1) := by decide +kernel
theorem dX4_add_40 : decode cX4_add 40 = .ok (.iastore, 1) := by decide +kernel
theorem dX4_add_41 : decode cX4_add 41 = .ok (.aload_n 0, 1) := by decide +kernel
theorem dX4_add_42 : decode cX4_add 42 = .ok (.getfield 21, 3) := by decide +kernel
theorem dX4_add_45 : decode cX4_add 45 = .ok (.aload_n 0, 1) := by decide +kernel
theorem dX4_add_46 : decode cX4_add 46 = .ok (.getfield 28, 3) := by decide +kernel
theorem dX4_add_49 : decode cX4_add 49 = .ok (.iload 4, 2) := by decide +kernel
theorem dX4_add_51 : decode cX4_add 51 = .ok (.iastore, 1) := by decide +kernel
theorem dX4_add_52 : decode cX4_add 52 = .ok (.aload_n 0, 1) := by decide +kernel
theorem dX4_add_53 : decode cX4_add 53 = .ok (.getfield 24, 3) := by decide +kernel
theorem dX4_add_56 : decode cX4_add 56 = .ok (.aload_n 0, 1) := by decide +kernel
theorem dX4_add_57 : decode cX4_add 57 = .ok (.getfield 28, 3) := by decide +kernel
theorem dX4_add_60 : decode cX4_add 60 = .ok (.iload 5, 2) := by decide +kernel
theorem dX4_add_62 : decode cX4_add 62 = .ok (.bastore, 1) := by decide +kernel
theorem dX4_add_63 : decode cX4_add 63 = .ok (.aload_n 0, 1) := by decide +kernel
theorem dX4_add_64 : decode cX4_add 64 = .ok (.dup, 1) := by decide +kernel
theorem dX4_add_65 : decode cX4_add 65 = .ok (.getfield 28, 3) := by decide +kernel
theorem dX4_add_68 : decode cX4_add 68 = .ok (.iconst 1, 1) := by decide +kernel
theorem dX4_add_69 : decode cX4_add 69 = .ok (.iadd, 1) := by decide +kernel
theorem dX4_add_70 : decode cX4_add 70 = .ok (.putfield 28, 3) := by decide +kernel
theorem dX4_add_73 : decode cX4_add 73 = .ok (.aload_n 0, 1) := by decide +kernel
theorem dX4_add_74 : decode cX4_add 74 = .ok (.getfield 28, 3) := by decide +kernel
theorem dX4_add_77 : decode cX4_add 77 = .ok (.iconst 1, 1) := by decide +kernel
theorem dX4_add_78 : decode cX4_add 78 = .ok (.isub, 1) := by decide +kernel
theorem dX4_add_79 : decode cX4_add 79 = .ok (.ireturn, 1) := by decide +kernel
theorem dX4_allows_0 : decode cX4_allows 0 = .ok (.aload_n 0, 1) := by decide +kernel
theorem dX4_allows_1 : decode cX4_allows 1 = .ok (.getfield 28, 3) := by decide +kernel
theorem dX4_allows_4 : decode cX4_allows 4 = .ok (.iconst 1, 1) := by decide +kernel
theorem dX4_allows_5 : decode cX4_allows 5 = .ok (.isub, 1) := by decide +kernel
theorem dX4_allows_6 : decode cX4_allows 6 = .ok (.istore 4, 2) := by decide +kernel
theorem dX4_allows_8 : decode cX4_allows 8 = .ok (.iload 4, 2) := by decide +kernel
theorem dX4_allows_10 : decode cX4_allows 10 = .ok (.ifCond .lt 61, 3) := by decide +kernel
theorem dX4_allows_13 : decode cX4_allows 13 = .ok (.aload_n 0, 1) := by decide +kernel
theorem dX4_allows_14 : decode cX4_allows 14 = .ok (.getfield 9, 3) := by decide +kernel
theorem dX4_allows_17 : decode cX4_allows 17 = .ok (.iload 4, 2) := by decide +kernel
theorem dX4_allows_19 : decode cX4_allows 19 = .ok (.iaload, 1) := by decide +kernel
theorem dX4_allows_20 : decode cX4_allows 20 = .ok (.iload_n 1, 1) := by decide +kernel
theorem dX4_allows_21 : decode cX4_allows 21 = .ok (.if_icmp .ne 44, 3) := by decide +kernel
theorem dX4_allows_24 : decode cX4_allows 24 = .ok (.aload_n 0, 1) := by decide +kernel
theorem dX4_allows_25 : decode cX4_allows 25 = .ok (.getfield 15, 3) := by decide +kernel
theorem dX4_allows_28 : decode cX4_allows 28 = .ok (.iload 4, 2) := by decide +kernel
theorem dX4_allows_30 : decode cX4_allows 30 = .ok (.iaload, 1) := by decide +kernel
theorem dX4_allows_31 : decode cX4_allows 31 = .ok (.iload_n 2, 1) := by decide +kernel
theorem dX4_allows_32 : decode cX4_allows 32 = .ok (.if_icmp .ne 33, 3) := by decide +kernel
theorem dX4_allows_35 : decode cX4_allows 35 = .ok (.aload_n 0, 1) := by decide +kernel
theorem dX4_allows_36 : decode cX4_allows 36 = .ok (.getfield 18, 3) := by decide +kernel
theorem dX4_allows_39 : decode cX4_allows 39 = .ok (.iload 4, 2) := by decide +kernel
theorem dX4_allows_41 : decode cX4_allows 41 = .ok (.iaload, 1) := by decide +kernel
theorem dX4_allows_42 : decode cX4_allows 42 = .ok (.iload_n 3, 1) := by decide +kernel
theorem dX4_allows_43 : decode cX4_allows 43 = .ok (.if_icmp .gt 22, 3) := by decide +kernel
theorem dX4_allows_46 : decode cX4_allows 46 = .ok (.iload_n 3, 1) := by decide +kernel
theorem dX4_allows_47 : decode cX4_allows 47 = .ok (.aload_n 0, 1) := by decide +kernel
theorem dX4_allows_48 : decode cX4_allows 48 = .ok (.getfield 21, 3) := by decide +kernel
theorem dX4_allows_51 : decode cX4_allows 51 = .ok (.iload 4, 2) := by decide +kernel
theorem dX4_allows_53 : decode cX4_allows 53 = .ok (.iaload, 1) := by decide +kernel
theorem dX4_allows_54 : decode cX4_allows 54 = .ok (.if_icmp .gt 11, 3) := by decide +kernel
theorem dX4_allows_57 : decode cX4_allows 57 = .ok (.aload_n 0, 1) := by decide +kernel
theorem dX4_allows_58 : decode cX4_allows 58 = .ok (.getfield 24, 3) := by decide +kernel
theorem dX4_allows_61 : decode cX4_allows 61 = .ok (.iload 4, 2) := by decide +kernel
theorem dX4_allows_63 : decode cX4_allows 63 = .ok (.baload, 1) := by decide +kernel
theorem dX4_allows_64 : decode cX4_allows 64 = .ok (.ireturn, 1) := by decide +kernel
theorem dX4_allows_65 : decode cX4_allows 65 = .ok (.iinc 4 (-1), 3) := by decide +kernel
theorem dX4_allows_68 : decode cX4_allows 68 = .ok (.goto (-60), 3) := by decide +kernel
theorem dX4_allows_71 : decode cX4_allows 71 = .ok (.iload_n 2, 1) := by decide +kernel
theorem dX4_allows_72 : decode cX4_allows 72 = .ok (.ifCond .ne 7, 3) := by decide +kernel
theorem dX4_allows_75 : decode cX4_allows 75 = .ok (.iconst 1, 1) := by decide +kernel
theorem dX4_allows_76 : decode cX4_allows 76 = .ok (.goto 4, 3) := by decide +kernel
theorem dX4_allows_79 : decode cX4_allows 79 = .ok (.iconst 0, 1) := by decide +kernel
theorem dX4_allows_80 : decode cX4_allows 80 = .ok (.ireturn, 1) := by decide +kernel
theorem dX5_init_0 : decode cX5_init 0 = .ok (.aload_n 0, 1) := by decide +kernel
theorem dX5_init_1 : decode cX5_init 1 = .ok (.invokespecial 3, 3) := by decide +kernel
theorem dX5_init_4 : decode cX5_init 4 = .ok (.aload_n 0, 1) := by decide +kernel
theorem dX5_init_5 : decode cX5_init 5 = .ok (.aload_n 1, 1) := by decide +kernel
theorem dX5_init_6 : decode cX5_init 6 = .ok (.putfield 9, 3) := by decide +kernel
theorem dX5_init_9 : decode cX5_init 9 = .ok (.return_, 1) := by decide +kernel
theorem dX5_readInto_0 : decode cX5_readInto 0 = .ok (.aload_n 1, 1) := by decide +kernel
theorem dX5_readInto_1 : decode cX5_readInto 1 = .ok (.invokevirtual 15, 3) := by decide +kernel
theorem dX5_readInto_4 : decode cX5_readInto 4 = .ok (.aload_n 0, 1) := by decide +kernel
theorem dX5_readInto_5 : decode cX5_readInto 5 = .ok (.iload_n 2, 1) := by decide +kernel
theorem dX5_readInto_6 : decode cX5_readInto 6 = .ok (.aload_n 0, 1) := by decide +kernel
theorem dX5_readInto_7 : decode cX5_readInto 7 = .ok (.getfield 9, 3) := by decide +kernel
theorem dX5_readInto_10 : decode cX5_readInto 10 = .ok (.arraylength, 1) := by decide +kernel
theorem dX5_readInto_11 : decode cX5_readInto 11 = .ok (.invokestatic 20, 3) := by decide +kernel
theorem dX5_readInto_14 : decode cX5_readInto 14 = .ok (.putfield 26, 3) := by decide +kernel
theorem dX5_readInto_17 : decode cX5_readInto 17 = .ok (.aload_n 0, 1) := by decide +kernel
theorem dX5_readInto_18 : decode cX5_readInto 18 = .ok (.iconst 0, 1) := by decide +kernel
theorem dX5_readInto_19 : decode cX5_readInto 19 = .ok (.putfield 30, 3) := by decide +kernel
theorem dX5_readInto_22 : decode cX5_readInto 22 = .ok (.aload_n 0, 1) := by decide +kernel
theorem dX5_readInto_23 : decode cX5_readInto 23 = .ok (.iconst 0, 1) := by decide +kernel
theorem dX5_readInto_24 : decode cX5_readInto 24 = .ok (.putfield 33, 3) := by decide +kernel
theorem dX5_readInto_27 : decode cX5_readInto 27 = .ok (.aload_n 0, 1) := by decide +kernel
theorem dX5_readInto_28 : decode cX5_readInto 28 = .ok (.iconst (-1), 1) := by decide +kernel
theorem dX5_readInto_29 : decode cX5_readInto 29 = .ok (.putfield 36, 3) := by decide +kernel
theorem dX5_readInto_32 : decode cX5_readInto 32 = .ok (.aload_n 0, 1) := by decide +kernel
theorem dX5_readInto_33 : decode cX5_readInto 33 = .ok (.invokevirtual 39, 3) := by decide +kernel
theorem dX5_readInto_36 : decode cX5_readInto 36 = .ok (.iconst 0, 1) := by decide +kernel
theorem dX5_readInto_37 : decode cX5_readInto 37 = .ok (.istore_n 3, 1) := by decide +kernel
theorem dX5_readInto_38 : decode cX5_readInto 38 = .ok (.iload_n 3, 1) := by decide +kernel
theorem dX5_readInto_39 : decode cX5_readInto 39 = .ok (.sipush 600, 3) := by decide +kernel
theorem dX5_readInto_42 : decode cX5_readInto 42 = .ok (.if_icmp .gt 82, 3) := by decide +kernel
theorem dX5_readInto_45 : decode cX5_readInto 45 = .ok (.aload_n 0, 1) := by decide +kernel
theorem dX5_readInto_46 : decode cX5_readInto 46 = .ok (.getfield 33, 3) := by decide +kernel
theorem dX5_readInto_49 : decode cX5_readInto 49 = .ok (.ifCond .ne 75, 3) := by decide +kernel
theorem dX5_readInto_52 : decode cX5_readInto 52 = .ok (.aload_n 0, 1) := by decide +kernel
theorem dX5_readInto_53 : decode cX5_readInto 53 = .ok (.getfield 42, 3) := by decide +kernel
theorem dX5_readInto_56 : decode cX5_readInto 56 = .ok (.ifCond .eq 68, 3) := by decide +kernel
theorem dX5_readInto_59 : decode cX5_readInto 59 = .ok (.aload_n 0, 1) := by decide +kernel
theorem dX5_readInto_60 : decode cX5_readInto 60 = .ok (.getfield 42, 3) := by decide +kernel
theorem dX5_readInto_63 : decode cX5_readInto 63 = .ok (.iconst 1, 1) := by decide +kernel
theorem dX5_readInto_64 : decode cX5_readInto 64 = .ok (.if_icmp .ne 22, 3) := by decide +kernel
theorem dX5_readInto_67 : decode cX5_readInto 67 = .ok (.aload_n 0, 1) := by decide +kernel
theorem dX5_readInto_68 : decode cX5_readInto 68 = .ok (.getfield 45, 3) := by decide +kernel
theorem dX5_readInto_71 : decode cX5_readInto 71 = .ok (.ldc2_w 49, 3) := by decide +kernel
theorem dX5_readInto_74 : decode cX5_readInto 74 = .ok (.lcmp, 1) := by decide +kernel
theorem dX5_readInto_75 : decode cX5_readInto 75 = .ok (.ifCond .ne 11, 3) := by decide +kernel
theorem dX5_readInto_78 : decode cX5_readInto 78 = .ok (.aload_n 0, 1) := by decide +kernel
theorem dX5_readInto_79 : decode cX5_readInto 79 = .ok (.aload_n 1, 1) := by decide +kernel
theorem dX5_readInto_80 : decode cX5_readInto 80 = .ok (.invokevirtual 51, 3) := by decide +kernel
theorem dX5_readInto_83 : decode cX5_readInto 83 = .ok (.goto 35, 3) := by decide +kernel
theorem dX5_readInto_86 : decode cX5_readInto 86 = .ok (.aload_n 0, 1) := by decide +kernel
theorem dX5_readInto_87 : decode cX5_readInto 87 = .ok (.getfield 42, 3) := by decide +kernel
theorem dX5_readInto_90 : decode cX5_readInto 90 = .ok (.iconst 1, 1) := by decide +kernel
theorem dX5_readInto_91 : decode cX5_readInto 91 = .ok (.if_icmp .ne 22, 3) := by decide +kernel
theorem dX5_readInto_94 : decode cX5_readInto 94 = .ok (.aload_n 0, 1) := by decide +kernel
theorem dX5_readInto_95 : decode cX5_readInto 95 = .ok (.getfield 45, 3) := by decide +kernel
theorem dX5_readInto_98 : decode cX5_readInto 98 = .ok (.ldc2_w 55, 3) := by decide +kernel
theorem dX5_readInto_101 : decode cX5_readInto 101 = .ok (.lcmp, 1) := by decide +kernel
theorem dX5_readInto_102 : decode cX5_readInto 102 = .ok (.ifCond .ne 11, 3) := by decide +kernel
theorem dX5_readInto_105 : decode cX5_readInto 105 = .ok (.aload_n 0, 1) := by decide +kernel
theorem dX5_readInto_106 : decode cX5_readInto 106 = .ok (.aload_n 1, 1) := by decide +kernel
theorem dX5_readInto_107 : decode cX5_readInto 107 = .ok (.invokevirtual 57, 3) := by decide +kernel
theorem dX5_readInto_110 : decode cX5_readInto 110 = .ok (.goto 8, 3) := by decide +kernel
theorem dX5_readInto_113 : decode cX5_readInto 113 = .ok (.aload_n 0, 1) := by decide +kernel
theorem dX5_readInto_114 : decode cX5_readInto 114 = .ok (.iconst 1, 1) := by decide +kernel
theorem dX5_readInto_115 : decode cX5_readInto 115 = .ok (.invokevirtual 60, 3) := by decide +kernel
theorem dX5_readInto_118 : decode cX5_readInto 118 = .ok (.iinc 3 1, 3) := by decide +kernel
theorem dX5_readInto_121 : decode cX5_readInto 121 = .ok (.goto (-83), 3) := by decide +kernel
theorem dX5_readInto_124 : decode cX5_readInto 124 = .ok (.aload_n 0, 1) := by decide +kernel
theorem dX5_readInto_125 : decode cX5_readInto 125 = .ok (.getfield 33, 3) := by decide +kernel
theorem dX5_readInto_128 : decode cX5_readInto 128 = .ok (.ifCond .ne 17, 3) := by decide +kernel
theorem dX5_readInto_131 : decode cX5_readInto 131 = .ok (.aload_n 1, 1) := by decide +kernel
theorem dX5_readInto_132 : decode cX5_readInto 132 = .ok (.getfield 64, 3) := by decide +kernel
theorem dX5_readInto_135 : decode cX5_readInto 135 = .ok (.iconst 2, 1) := by decide +kernel
theorem dX5_readInto_136 : decode cX5_readInto 136 = .ok (.if_icmp .ge 9, 3) := by decide +kernel
theorem dX5_readInto_139 : decode cX5_readInto 139 = .ok (.aload_n 0, 1) := by decide +kernel
theorem dX5_readInto_140 : decode cX5_readInto 140 = .ok (.bipush 6, 2) := by decide +kernel
theorem dX5_readInto_142 : decode cX5_readInto 142 = .ok (.invokevirtual 60, 3) := by decide +kernel
theorem dX5_readInto_145 : decode cX5_readInto 145 = .ok (.aload_n 0, 1) := by decide +kernel
theorem dX5_readInto_146 : decode cX5_readInto 146 = .ok (.getfield 33, 3) := by decide +kernel
theorem dX5_readInto_149 : decode cX5_readInto 149 = .ok (.ireturn, 1) := by decide +kernel
theorem dX5_readRoom_0 : decode cX5_readRoom 0 = .ok (.aload_n 1, 1) := by decide +kernel
theorem dX5_readRoom_1 : decode cX5_readRoom 1 = .ok (.getfield 64, 3) := by decide +kernel
theorem dX5_readRoom_4 : decode cX5_readRoom 4 = .ok (.bipush 8, 2) := by decide +kernel
theorem dX5_readRoom_6 : decode cX5_readRoom 6 = .ok (.if_icmp .lt 9, 3) := by decide +kernel
theorem dX5_readRoom_9 : decode cX5_readRoom 9 = .ok (.aload_n 0, 1) := by decide +kernel
theorem dX5_readRoom_10 : decode cX5_readRoom 10 = .ok (.iconst 2, 1) := by decide +kernel
theorem dX5_readRoom_11 : decode cX5_readRoom 11 = .ok (.invokevirtual 60, 3) := by decide +kernel
theorem dX5_readRoom_14 : decode cX5_readRoom 14 = .ok (.return_, 1) := by decide +kernel
theorem dX5_readRoom_15 : decode cX5_readRoom 15 = .ok (.aload_n 0, 1) := by decide +kernel
theorem dX5_readRoom_16 : decode cX5_readRoom 16 = .ok (.invokevirtual 39, 3) := by decide +kernel
theorem dX5_readRoom_19 : decode cX5_readRoom 19 = .ok (.aload_n 0, 1) := by decide +kernel
theorem dX5_readRoom_20 : decode cX5_readRoom 20 = .ok (.aload_n 1, 1) := by decide +kernel
theorem dX5_readRoom_21 : decode cX5_readRoom 21 = .ok (.invokevirtual 67, 3) := by decide +kernel
theorem dX5_readRoom_24 : decode cX5_readRoom 24 = .ok (.lstore_n 2, 1) := by decide +kernel
theorem dX5_readRoom_25 : decode cX5_readRoom 25 = .ok (.aload_n 0, 1) := by decide +kernel
theorem dX5_readRoom_26 : decode cX5_readRoom 26 = .ok (.iconst 4, 1) := by decide +kernel
theorem dX5_readRoom_27 : decode cX5_readRoom 27 = .ok (.invokevirtual 71, 3) := by decide +kernel
theorem dX5_readRoom_30 : decode cX5_readRoom 30 = .ok (.istore 4, 2) := by decide +kernel
theorem dX5_readRoom_32 : decode cX5_readRoom 32 = .ok (.aload_n 0, 1) := by decide +kernel
theorem dX5_readRoom_33 : decode cX5_readRoom 33 = .ok (.invokevirtual 75, 3) := by decide +kernel
theorem dX5_readRoom_36 : decode cX5_readRoom 36 = .ok (.aload_n 0, 1) := by decide +kernel
theorem dX5_readRoom_37 : decode cX5_readRoom 37 = .ok (.getfield 33, 3) := by decide +kernel
theorem dX5_readRoom_40 : decode cX5_readRoom 40 = .ok (.ifCond .ne 10, 3) := by decide +kernel
theorem dX5_readRoom_43 : decode cX5_readRoom 43 = .ok (.aload_n 1, 1) := by decide +kernel
theorem dX5_readRoom_44 : decode cX5_readRoom 44 = .ok (.lload_n 2, 1) := by decide +kernel
theorem dX5_readRoom_45 : decode cX5_readRoom 45 = .ok (.iload 4, 2) := by decide +kernel
theorem dX5_readRoom_47 : decode cX5_readRoom 47 = .ok (.invokevirtual 78, 3) := by decide +kernel
theorem dX5_readRoom_50 : decode cX5_readRoom 50 = .ok (.return_, 1) := by decide +kernel
theorem dX5_readDoor_0 : decode cX5_readDoor 0 = .ok (.aload_n 1, 1) := by decide +kernel
theorem dX5_readDoor_1 : decode cX5_readDoor 1 = .ok (.getfield 82, 3) := by decide +kernel
theorem dX5_readDoor_4 : decode cX5_readDoor 4 = .ok (.bipush 10, 2) := by decide +kernel
theorem dX5_readDoor_6 : decode cX5_readDoor 6 = .ok (.if_icmp .lt 9, 3) := by decide +kernel
theorem dX5_readDoor_9 : decode cX5_readDoor 9 = .ok (.aload_n 0, 1) := by decide +kernel
theorem dX5_readDoor_10 : decode cX5_readDoor 10 = .ok (.iconst 2, 1) := by decide +kernel
theorem dX5_readDoor_11 : decode cX5_readDoor 11 = .ok (.invokevirtual 60, 3) := by decide +kernel
theorem dX5_readDoor_14 : decode cX5_readDoor 14 = .ok (.return_, 1) := by decide +kernel
theorem dX5_readDoor_15 : decode cX5_readDoor 15 = .ok (.aload_n 0, 1) := by decide +kernel
theorem dX5_readDoor_16 : decode cX5_readDoor 16 = .ok (.invokevirtual 39, 3) := by decide +kernel
theorem dX5_readDoor_19 : decode cX5_readDoor 19 = .ok (.aload_n 0, 1) := by decide +kernel
theorem dX5_readDoor_20 : decode cX5_readDoor 20 = .ok (.aload_n 1, 1) := by decide +kernel
theorem dX5_readDoor_21 : decode cX5_readDoor 21 = .ok (.invokevirtual 67, 3) := by decide +kernel
theorem dX5_readDoor_24 : decode cX5_readDoor 24 = .ok (.lstore_n 2, 1) := by decide +kernel
theorem dX5_readDoor_25 : decode cX5_readDoor 25 = .ok (.aload_n 0, 1) := by decide +kernel
theorem dX5_readDoor_26 : decode cX5_readDoor 26 = .ok (.aload_n 1, 1) := by decide +kernel
theorem dX5_readDoor_27 : decode cX5_readDoor 27 = .ok (.iconst (-1), 1) := by decide +kernel
theorem dX5_readDoor_28 : decode cX5_readDoor 28 = .ok (.invokevirtual 85, 3) := by decide +kernel
theorem dX5_readDoor_31 : decode cX5_readDoor 31 = .ok (.istore 4, 2) := by decide +kernel
theorem dX5_readDoor_33 : decode cX5_readDoor 33 = .ok (.aload_n 0, 1) := by decide +kernel
theorem dX5_readDoor_34 : decode cX5_readDoor 34 = .ok (.aload_n 1, 1) := by decide +kernel
theorem dX5_readDoor_35 : decode cX5_readDoor 35 = .ok (.iload 4, 2) := by decide +kernel
theorem dX5_readDoor_37 : decode cX5_readDoor 37 = .ok (.invokevirtual 85, 3) := by decide +kernel
theorem dX5_readDoor_40 : decode cX5_readDoor 40 = .ok (.istore 5, 2) := by decide +kernel
theorem dX5_readDoor_42 : decode cX5_readDoor 42 = .ok (.aload_n 0, 1) := by decide +kernel
theorem dX5_readDoor_43 : decode cX5_readDoor 43 = .ok (.bipush 6, 2) := by decide +kernel
theorem dX5_readDoor_45 : decode cX5_readDoor 45 = .ok (.invokevirtual 71, 3) := by decide +kernel
theorem dX5_readDoor_48 : decode cX5_readDoor 48 = .ok (.istore 6, 2) := by decide +kernel
theorem dX5_readDoor_50 : decode cX5_readDoor 50 = .ok (.aload_n 0, 1) := by decide +kernel
theorem dX5_readDoor_51 : decode cX5_readDoor 51 = .ok (.invokevirtual 75, 3) := by decide +kernel
theorem dX5_readDoor_54 : decode cX5_readDoor 54 = .ok (.aload_n 0, 1) := by decide +kernel
theorem dX5_readDoor_55 : decode cX5_readDoor 55 = .ok (.getfield 33, 3) := by decide +kernel
theorem dX5_readDoor_58 : decode cX5_readDoor 58 = .ok (.ifCond .ne 14, 3) := by decide +kernel
theorem dX5_readDoor_61 : decode cX5_readDoor 61 = .ok (.aload_n 1, 1) := by decide +kernel
theorem dX5_readDoor_62 : decode cX5_readDoor 62 = .ok (.lload_n 2, 1) := by decide +kernel
theorem dX5_readDoor_63 : decode cX5_readDoor 63 = .ok (.iload 4, 2) := by decide +kernel
theorem dX5_readDoor_65 : decode cX5_readDoor 65 = .ok (.iload 5, 2) := by decide +kernel
theorem dX5_readDoor_67 : decode cX5_readDoor 67 = .ok (.iload 6, 2) := by decide +kernel
theorem dX5_readDoor_69 : decode cX5_readDoor 69 = .ok (.invokevirtual 89, 3) := by decide +kernel
theorem dX5_readDoor_72 : decode cX5_readDoor 72 = .ok (.return_, 1) := by decide +kernel
theorem dX5_takeNewName_0 : decode cX5_takeNewName 0 = .ok (.aload_n 0, 1) := by decide +kernel
theorem dX5_takeNewName_1 : decode cX5_takeNewName 1 = .ok (.invokevirtual 93, 3) := by decide +kernel
theorem dX5_takeNewName_4 : decode cX5_takeNewName 4 = .ok (.ifCond .ne 11, 3) := by decide +kernel
theorem dX5_takeNewName_7 : decode cX5_takeNewName 7 = .ok (.aload_n 0, 1) := by decide +kernel
theorem dX5_takeNewName_8 : decode cX5_takeNewName 8 = .ok (.iconst 1, 1) := by decide +kernel
theorem dX5_takeNewName_9 : decode cX5_takeNewName 9 = .ok (.invokevirtual 60, 3) := by decide +kernel
theorem dX5_takeNewName_12 : decode cX5_takeNewName 12 = .ok (.goto 19, 3) := by decide +kernel
theorem dX5_takeNewName_15 : decode cX5_takeNewName 15 = .ok (.aload_n 1, 1) := by decide +kernel
theorem dX5_takeNewName_16 : decode cX5_takeNewName 16 = .ok (.aload_n 0, 1) := by decide +kernel
theorem dX5_takeNewName_17 : decode cX5_takeNewName 17 = .ok (.getfield 45, 3) := by decide +kernel
theorem dX5_takeNewName_20 : decode cX5_takeNewName 20 = .ok (.invokevirtual 97, 3) := by decide +kernel
theorem dX5_takeNewName_23 : decode cX5_takeNewName 23 = .ok (.ifCond .eq 8, 3) := by decide +kernel
theorem dX5_takeNewName_26 : decode cX5_takeNewName 26 = .ok (.aload_n 0, 1) := by decide +kernel
theorem dX5_takeNewName_27 : decode cX5_takeNewName 27 = .ok (.iconst 3, 1) := by decide +kernel
theorem dX5_takeNewName_28 : decode cX5_takeNewName 28 = .ok (.invokevirtual 60, 3) := by decide +kernel
theorem dX5_takeNewName_31 : decode cX5_takeNewName 31 = .ok (.aload_n 0, 1) := by decide +kernel
theorem dX5_takeNewName_32 : decode cX5_takeNewName 32 = .ok (.getfield 45, 3) := by decide +kernel
theorem dX5_takeNewName_35 : decode cX5_takeNewName 35 = .ok (.lstore_n 2, 1) := by decide +kernel
theorem dX5_takeNewName_36 : decode cX5_takeNewName 36 = .ok (.aload_n 0, 1) := by decide +kernel
theorem dX5_takeNewName_37 : decode cX5_takeNewName 37 = .ok (.invokevirtual 39, 3) := by decide +kernel
theorem dX5_takeNewName_40 : decode cX5_takeNewName 40 = .ok (.lload_n 2, 1) := by decide +kernel
theorem dX5_takeNewName_41 : decode cX5_takeNewName 41 = .ok (.lreturn, 1) := by decide +kernel
theorem dX5_takeRoom_0 : decode cX5_takeRoom 0 = .ok (.aload_n 1, 1) := by decide +kernel
theorem dX5_takeRoom_1 : decode cX5_takeRoom 1 = .ok (.aload_n 0, 1) := by decide +kernel
theorem dX5_takeRoom_2 : decode cX5_takeRoom 2 = .ok (.getfield 45, 3) := by decide +kernel
theorem dX5_takeRoom_5 : decode cX5_takeRoom 5 = .ok (.invokevirtual 101, 3) := by decide +kernel
theorem dX5_takeRoom_8 : decode cX5_takeRoom 8 = .ok (.istore_n 3, 1) := by decide +kernel
theorem dX5_takeRoom_9 : decode cX5_takeRoom 9 = .ok (.aload_n 0, 1) := by decide +kernel
theorem dX5_takeRoom_10 : decode cX5_takeRoom 10 = .ok (.invokevirtual 93, 3) := by decide +kernel
theorem dX5_takeRoom_13 : decode cX5_takeRoom 13 = .ok (.ifCond .ne 11, 3) := by decide +kernel
theorem dX5_takeRoom_16 : decode cX5_takeRoom 16 = .ok (.aload_n 0, 1) := by decide +kernel
theorem dX5_takeRoom_17 : decode cX5_takeRoom 17 = .ok (.iconst 1, 1) := by decide +kernel
theorem dX5_takeRoom_18 : decode cX5_takeRoom 18 = .ok (.invokevirtual 60, 3) := by decide +kernel
theorem dX5_takeRoom_21 : decode cX5_takeRoom 21 = .ok (.goto 18, 3) := by decide +kernel
theorem dX5_takeRoom_24 : decode cX5_takeRoom 24 = .ok (.iload_n 3, 1) := by decide +kernel
theorem dX5_takeRoom_25 : decode cX5_takeRoom 25 = .ok (.iconst (-1), 1) := by decide +kernel
theorem dX5_takeRoom_26 : decode cX5_takeRoom 26 = .ok (.if_icmp .eq 8, 3) := by decide +kernel
theorem dX5_takeRoom_29 : decode cX5_takeRoom 29 = .ok (.iload_n 3, 1) := by decide +kernel
theorem dX5_takeRoom_30 : decode cX5_takeRoom 30 = .ok (.iload_n 2, 1) := by decide +kernel
theorem dX5_takeRoom_31 : decode cX5_takeRoom 31 = .ok (.if_icmp .ne 8, 3) := by decide +kernel
theorem dX5_takeRoom_34 : decode cX5_takeRoom 34 = .ok (.aload_n 0, 1) := by decide +kernel
theorem dX5_takeRoom_35 : decode cX5_takeRoom 35 = .ok (.iconst 4, 1) := by decide +kernel
theorem dX5_takeRoom_36 : decode cX5_takeRoom 36 = .ok (.invokevirtual 60, 3) := by decide +kernel
theorem dX5_takeRoom_39 : decode cX5_takeRoom 39 = .ok (.aload_n 0, 1) := by decide +kernel
theorem dX5_takeRoom_40 : decode cX5_takeRoom 40 = .ok (.invokevirtual 39, 3) := by decide +kernel
theorem dX5_takeRoom_43 : decode cX5_takeRoom 43 = .ok (.iload_n 3, 1) := by decide +kernel
theorem dX5_takeRoom_44 : decode cX5_takeRoom 44 = .ok (.ireturn, 1) := by decide +kernel
theorem dX5_takeNumber_0 : decode cX5_takeNumber 0 = .ok (.aload_n 0, 1) := by decide +kernel
theorem dX5_takeNumber_1 : decode cX5_takeNumber 1 = .ok (.getfield 42, 3) := by decide +kernel
theorem dX5_takeNumber_4 : decode cX5_takeNumber 4 = .ok (.iconst 2, 1) := by decide +kernel
theorem dX5_takeNumber_5 : decode cX5_takeNumber 5 = .ok (.if_icmp .ne 11, 3) := by decide +kernel
theorem dX5_takeNumber_8 : decode cX5_takeNumber 8 = .ok (.aload_n 0, 1) := by decide +kernel
theorem dX5_takeNumber_9 : decode cX5_takeNumber 9 = .ok (.getfield 105, 3) := by decide +kernel
theorem dX5_takeNumber_12 : decode cX5_takeNumber 12 = .ok (.iconst 4, 1) := by decide +kernel
theorem dX5_takeNumber_13 : decode cX5_takeNumber 13 = .ok (.if_icmp .le 11, 3) := by decide +kernel
theorem dX5_takeNumber_16 : decode cX5_takeNumber 16 = .ok (.aload_n 0, 1) := by decide +kernel
theorem dX5_takeNumber_17 : decode cX5_takeNumber 17 = .ok (.iconst 1, 1) := by decide +kernel
theorem dX5_takeNumber_18 : decode cX5_takeNumber 18 = .ok (.invokevirtual 60, 3) := by decide +kernel
theorem dX5_takeNumber_21 : decode cX5_takeNumber 21 = .ok (.goto 18, 3) := by decide +kernel
theorem dX5_takeNumber_24 : decode cX5_takeNumber 24 = .ok (.aload_n 0, 1) := by decide +kernel
theorem dX5_takeNumber_25 : decode cX5_takeNumber 25 = .ok (.getfield 45, 3) := by decide +kernel
theorem dX5_takeNumber_28 : decode cX5_takeNumber 28 = .ok (.iload_n 1, 1) := by decide +kernel
theorem dX5_takeNumber_29 : decode cX5_takeNumber 29 = .ok (.i2l, 1) := by decide +kernel
theorem dX5_takeNumber_30 : decode cX5_takeNumber 30 = .ok (.lcmp, 1) := by decide +kernel
theorem dX5_takeNumber_31 : decode cX5_takeNumber 31 = .ok (.ifCond .le 8, 3) := by decide +kernel
theorem dX5_takeNumber_34 : decode cX5_takeNumber 34 = .ok (.aload_n 0, 1) := by decide +kernel
theorem dX5_takeNumber_35 : decode cX5_takeNumber 35 = .ok (.iconst 5, 1) := by decide +kernel
theorem dX5_takeNumber_36 : decode cX5_takeNumber 36 = .ok (.invokevirtual 60, 3) := by decide +kernel
theorem dX5_takeNumber_39 : decode cX5_takeNumber 39 = .ok (.aload_n 0, 1) := by decide +kernel
theorem dX5_takeNumber_40 : decode cX5_takeNumber 40 = .ok (.getfield 45, 3) := by decide +kernel
theorem dX5_takeNumber_43 : decode cX5_takeNumber 43 = .ok (.l2i, 1) := by decide +kernel
theorem dX5_takeNumber_44 : decode cX5_takeNumber 44 = .ok (.istore_n 2, 1) := by decide +kernel
theorem dX5_takeNumber_45 : decode cX5_takeNumber 45 = .ok (.aload_n 0, 1) := by decide +kernel
theorem dX5_takeNumber_46 : decode cX5_takeNumber 46 = .ok (.invokevirtual 39, 3) := by decide +kernel
theorem dX5_takeNumber_49 : decode cX5_takeNumber 49 = .ok (.iload_n 2, 1) := by decide +kernel
theorem dX5_takeNumber_50 : decode cX5_takeNumber 50 = .ok (.ireturn, 1) := by decide +kernel
theorem dX5_takeSign_0 : decode cX5_takeSign 0 = .ok (.aload_n 0, 1) := by decide +kernel
theorem dX5_takeSign_1 : decode cX5_takeSign 1 = .ok (.getfield 42, 3) := by decide +kernel
theorem dX5_takeSign_4 : decode cX5_takeSign 4 = .ok (.iconst 3, 1) := by decide +kernel
theorem dX5_takeSign_5 : decode cX5_takeSign 5 = .ok (.if_icmp .eq 8, 3) := by decide +kernel
theorem dX5_takeSign_8 : decode cX5_takeSign 8 = .ok (.aload_n 0, 1) := by decide +kernel
theorem dX5_takeSign_9 : decode cX5_takeSign 9 = .ok (.iconst 1, 1) := by decide +kernel
theorem dX5_takeSign_10 : decode cX5_takeSign 10 = .ok (.invokevirtual 60, 3) := by decide +kernel
theorem dX5_takeSign_13 : decode cX5_takeSign 13 = .ok (.aload_n 0, 1) := by decide +kernel
theorem dX5_takeSign_14 : decode cX5_takeSign 14 = .ok (.invokevirtual 39, 3) := by decide +kernel
theorem dX5_takeSign_17 : decode cX5_takeSign 17 = .ok (.return_, 1) := by decide +kernel
theorem dX5_isName_0 : decode cX5_isName 0 = .ok (.aload_n 0, 1) := by decide +kernel
theorem dX5_isName_1 : decode cX5_isName 1 = .ok (.getfield 42, 3) := by decide +kernel
theorem dX5_isName_4 : decode cX5_isName 4 = .ok (.iconst 1, 1) := by decide +kernel
theorem dX5_isName_5 : decode cX5_isName 5 = .ok (.if_icmp .ne 38, 3) := by decide +kernel
theorem dX5_isName_8 : decode cX5_isName 8 = .ok (.aload_n 0, 1) := by decide +kernel
theorem dX5_isName_9 : decode cX5_isName 9 = .ok (.getfield 45, 3) := by decide +kernel
theorem dX5_isName_12 : decode cX5_isName 12 = .ok (.lconst 0, 1) := by decide +kernel
theorem dX5_isName_13 : decode cX5_isName 13 = .ok (.lcmp, 1) := by decide +kernel
theorem dX5_isName_14 : decode cX5_isName 14 = .ok (.ifCond .eq 29, 3) := by decide +kernel
theorem dX5_isName_17 : decode cX5_isName 17 = .ok (.aload_n 0, 1) := by decide +kernel
theorem dX5_isName_18 : decode cX5_isName 18 = .ok (.getfield 45, 3) := by decide +kernel
theorem dX5_isName_21 : decode cX5_isName 21 = .ok (.ldc2_w 49, 3) := by decide +kernel
theorem dX5_isName_24 : decode cX5_isName 24 = .ok (.lcmp, 1) := by decide +kernel
theorem dX5_isName_25 : decode cX5_isName 25 = .ok (.ifCond .eq 18, 3) := by decide +kernel
theorem dX5_isName_28 : decode cX5_isName 28 = .ok (.aload_n 0, 1) := by decide +kernel
theorem dX5_isName_29 : decode cX5_isName 29 = .ok (.getfield 45, 3) := by decide +kernel
theorem dX5_isName_32 : decode cX5_isName 32 = .ok (.ldc2_w 55, 3) := by decide +kernel
theorem dX5_isName_35 : decode cX5_isName 35 = .ok (.lcmp, 1) := by decide +kernel
theorem dX5_isName_36 : decode cX5_isName 36 = .ok (.ifCond .eq 7, 3) := by decide +kernel
theorem dX5_isName_39 : decode cX5_isName 39 = .ok (.iconst 1, 1) := by decide +kernel
theorem dX5_isName_40 : decode cX5_isName 40 = .ok (.goto 4, 3) := by decide +kernel
theorem dX5_isName_43 : decode cX5_isName 43 = .ok (.iconst 0, 1) := by decide +kernel
theorem dX5_isName_44 : decode cX5_isName 44 = .ok (.ireturn, 1) := by decide +kernel
theorem dX5_faultHere_0 : decode cX5_faultHere 0 = .ok (.aload_n 0, 1) := by decide +kernel
theorem dX5_faultHere_1 : decode cX5_faultHere 1 = .ok (.getfield 33, 3) := by decide +kernel
theorem dX5_faultHere_4 : decode cX5_faultHere 4 = .ok (.ifCond .ne 16, 3) := by decide +kernel
theorem dX5_faultHere_7 : decode cX5_faultHere 7 = .ok (.aload_n 0, 1) := by decide +kernel
theorem dX5_faultHere_8 : decode cX5_faultHere 8 = .ok (.iload_n 1, 1) := by decide +kernel
theorem dX5_faultHere_9 : decode cX5_faultHere 9 = .ok (.putfield 33, 3) := by decide +kernel
theorem dX5_faultHere_12 : decode cX5_faultHere 12 = .ok (.aload_n 0, 1) := by decide +kernel
theorem dX5_faultHere_13 : decode cX5_faultHere 13 = .ok (.aload_n 0, 1) := by decide +kernel
theorem dX5_faultHere_14 : decode cX5_faultHere 14 = .ok (.getfield 108, 3) := by decide +kernel
theorem dX5_faultHere_17 : decode cX5_faultHere 17 = .ok (.putfield 36, 3) := by decide +kernel
theorem dX5_faultHere_20 : decode cX5_faultHere 20 = .ok (.return_, 1) := by decide +kernel
theorem dX5_nextToken_0 : decode cX5_nextToken 0 = .ok (.aload_n 0, 1) := by decide +kernel
theorem dX5_nextToken_1 : decode cX5_nextToken 1 = .ok (.getfield 30, 3) := by decide +kernel
theorem dX5_nextToken_4 : decode cX5_nextToken 4 = .ok (.aload_n 0, 1) := by decide +kernel
theorem dX5_nextToken_5 : decode cX5_nextToken 5 = .ok (.getfield 26, 3) := by decide +kernel
theorem dX5_nextToken_8 : decode cX5_nextToken 8 = .ok (.if_icmp .ge 31, 3) := by decide +kernel
theorem dX5_nextToken_11 : decode cX5_nextToken 11 = .ok (.aload_n 0, 1) := by decide +kernel
theorem dX5_nextToken_12 : decode cX5_nextToken 12 = .ok (.getfield 9, 3) := by decide +kernel
theorem dX5_nextToken_15 : decode cX5_nextToken 15 = .ok (.aload_n 0, 1) := by decide +kernel
theorem dX5_nextToken_16 : decode cX5_nextToken 16 = .ok (.getfield 30, 3) := by decide +kernel
theorem dX5_nextToken_19 : decode cX5_nextToken 19 = .ok (.baload, 1) := by decide +kernel
theorem dX5_nextToken_20 : decode cX5_nextToken 20 = .ok (.invokestatic 111, 3) := by decide +kernel
theorem dX5_nextToken_23 : decode cX5_nextToken 23 = .ok (.ifCond .eq 16, 3) := by decide +kernel
theorem dX5_nextToken_26 : decode cX5_nextToken 26 = .ok (.aload_n 0, 1) := by decide +kernel
theorem dX5_nextToken_27 : decode cX5_nextToken 27 = .ok (.dup, 1) := by decide +kernel
theorem dX5_nextToken_28 : decode cX5_nextToken 28 = .ok (.getfield 30, 3) := by decide +kernel
theorem dX5_nextToken_31 : decode cX5_nextToken 31 = .ok (.iconst 1, 1) := by decide +kernel
theorem dX5_nextToken_32 : decode cX5_nextToken 32 = .ok (.iadd, 1) := by decide +kernel
theorem dX5_nextToken_33 : decode cX5_nextToken 33 = .ok (.putfield 30, 3) := by decide +kernel
theorem dX5_nextToken_36 : decode cX5_nextToken 36 = .ok (.goto (-36), 3) := by decide +kernel
theorem dX5_nextToken_39 : decode cX5_nextToken 39 = .ok (.aload_n 0, 1) := by decide +kernel
theorem dX5_nextToken_40 : decode cX5_nextToken 40 = .ok (.aload_n 0, 1) := by decide +kernel
theorem dX5_nextToken_41 : decode cX5_nextToken 41 = .ok (.getfield 30, 3) := by decide +kernel
theorem dX5_nextToken_44 : decode cX5_nextToken 44 = .ok (.putfield 108, 3) := by decide +kernel
theorem dX5_nextToken_47 : decode cX5_nextToken 47 = .ok (.aload_n 0, 1) := by decide +kernel
theorem dX5_nextToken_48 : decode cX5_nextToken 48 = .ok (.lconst 0, 1) := by decide +kernel
theorem dX5_nextToken_49 : decode cX5_nextToken 49 = .ok (.putfield 45, 3) := by decide +kernel
theorem dX5_nextToken_52 : decode cX5_nextToken 52 = .ok (.aload_n 0, 1) := by decide +kernel
theorem dX5_nextToken_53 : decode cX5_nextToken 53 = .ok (.getfield 30, 3) := by decide +kernel
theorem dX5_nextToken_56 : decode cX5_nextToken 56 = .ok (.aload_n 0, 1) := by decide +kernel
theorem dX5_nextToken_57 : decode cX5_nextToken 57 = .ok (.getfield 26, 3) := by decide +kernel
theorem dX5_nextToken_60 : decode cX5_nextToken 60 = .ok (.if_icmp .lt 11, 3) := by decide +kernel
theorem dX5_nextToken_63 : decode cX5_nextToken 63 = .ok (.aload_n 0, 1) := by decide +kernel
theorem dX5_nextToken_64 : decode cX5_nextToken 64 = .ok (.iconst 0, 1) := by decide +kernel
theorem dX5_nextToken_65 : decode cX5_nextToken 65 = .ok (.putfield 42, 3) := by decide +kernel
theorem dX5_nextToken_68 : decode cX5_nextToken 68 = .ok (.goto 80, 3) := by decide +kernel
theorem dX5_nextToken_71 : decode cX5_nextToken 71 = .ok (.aload_n 0, 1) := by decide +kernel
theorem dX5_nextToken_72 : decode cX5_nextToken 72 = .ok (.getfield 9, 3) := by decide +kernel
theorem dX5_nextToken_75 : decode cX5_nextToken 75 = .ok (.aload_n 0, 1) := by decide +kernel
theorem dX5_nextToken_76 : decode cX5_nextToken 76 = .ok (.getfield 30, 3) := by decide +kernel
theorem dX5_nextToken_79 : decode cX5_nextToken 79 = .ok (.baload, 1) := by decide +kernel
theorem dX5_nextToken_80 : decode cX5_nextToken 80 = .ok (.invokestatic 115, 3) := by decide +kernel
theorem dX5_nextToken_83 : decode cX5_nextToken 83 = .ok (.ifCond .eq 10, 3) := by decide +kernel
theorem dX5_nextToken_86 : decode cX5_nextToken 86 = .ok (.aload_n 0, 1) := by decide +kernel
theorem dX5_nextToken_87 : decode cX5_nextToken 87 = .ok (.invokevirtual 118, 3) := by decide +kernel
theorem dX5_nextToken_90 : decode cX5_nextToken 90 = .ok (.goto 58, 3) := by decide +kernel
theorem dX5_nextToken_93 : decode cX5_nextToken 93 = .ok (.aload_n 0, 1) := by decide +kernel
theorem dX5_nextToken_94 : decode cX5_nextToken 94 = .ok (.getfield 9, 3) := by decide +kernel
theorem dX5_nextToken_97 : decode cX5_nextToken 97 = .ok (.aload_n 0, 1) := by decide +kernel
theorem dX5_nextToken_98 : decode cX5_nextToken 98 = .ok (.getfield 30, 3) := by decide +kernel
theorem dX5_nextToken_101 : decode cX5_nextToken 101 = .ok (.baload, 1) := by decide +kernel
theorem dX5_nextToken_102 : decode cX5_nextToken 102 = .ok (.invokestatic 121, 3) := by decide +kernel
theorem dX5_nextToken_105 : decode cX5_nextToken 105 = .ok (.ifCond .eq 10, 3) := by decide +kernel
theorem dX5_nextToken_108 : decode cX5_nextToken 108 = .ok (.aload_n 0, 1) := by decide +kernel
theorem dX5_nextToken_109 : decode cX5_nextToken 109 = .ok (.invokevirtual 124, 3) := by decide +kernel
theorem dX5_nextToken_112 : decode cX5_nextToken 112 = .ok (.goto 36, 3) := by decide +kernel
theorem dX5_nextToken_115 : decode cX5_nextToken 115 = .ok (.aload_n 0, 1) := by decide +kernel
theorem dX5_nextToken_116 : decode cX5_nextToken 116 = .ok (.aload_n 0, 1) := by decide +kernel
theorem dX5_nextToken_117 : decode cX5_nextToken 117 = .ok (.getfield 9, 3) := by decide +kernel
theorem dX5_nextToken_120 : decode cX5_nextToken 120 = .ok (.aload_n 0, 1) := by decide +kernel
theorem dX5_nextToken_121 : decode cX5_nextToken 121 = .ok (.getfield 30, 3) := by decide +kernel
theorem dX5_nextToken_124 : decode cX5_nextToken 124 = .ok (.baload, 1) := by decide +kernel
theorem dX5_nextToken_125 : decode cX5_nextToken 125 = .ok (.bipush 59, 2) := by decide +kernel
theorem dX5_nextToken_127 : decode cX5_nextToken 127 = .ok (.if_icmp .ne 7, 3) := by decide +kernel
theorem dX5_nextToken_130 : decode cX5_nextToken 130 = .ok (.iconst 3, 1) := by decide +kernel
theorem dX5_nextToken_131 : decode cX5_nextToken 131 = .ok (.goto 4, 3) := by decide +kernel
theorem dX5_nextToken_134 : decode cX5_nextToken 134 = .ok (.iconst 4, 1) := by decide +kernel
theorem dX5_nextToken_135 : decode cX5_nextToken 135 = .ok (.putfield 42, 3) := by decide +kernel
theorem dX5_nextToken_138 : decode cX5_nextToken 138 = .ok (.aload_n 0, 1) := by decide +kernel
theorem dX5_nextToken_139 : decode cX5_nextToken 139 = .ok (.dup, 1) := by decide +kernel
theorem dX5_nextToken_140 : decode cX5_nextToken 140 = .ok (.getfield 30, 3) := by decide +kernel
theorem dX5_nextToken_143 : decode cX5_nextToken 143 = .ok (.iconst 1, 1) := by decide +kernel
theorem dX5_nextToken_144 : decode cX5_nextToken 144 = .ok (.iadd, 1) := by decide +kernel
theorem dX5_nextToken_145 : decode cX5_nextToken 145 = .ok (.putfield 30, 3) := by decide +kernel
theorem dX5_nextToken_148 : decode cX5_nextToken 148 = .ok (.aload_n 0, 1) := by decide +kernel
theorem dX5_nextToken_149 : decode cX5_nextToken 149 = .ok (.aload_n 0, 1) := by decide +kernel
theorem dX5_nextToken_150 : decode cX5_nextToken 150 = .ok (.getfield 30, 3) := by decide +kernel
theorem dX5_nextToken_153 : decode cX5_nextToken 153 = .ok (.aload_n 0, 1) := by decide +kernel
theorem dX5_nextToken_154 : decode cX5_nextToken 154 = .ok (.getfield 108, 3) := by decide +kernel
theorem dX5_nextToken_157 : decode cX5_nextToken 157 = .ok (.isub, 1) := by decide +kernel
theorem dX5_nextToken_158 : decode cX5_nextToken 158 = .ok (.putfield 105, 3) := by decide +kernel
theorem dX5_nextToken_161 : decode cX5_nextToken 161 = .ok (.return_, 1) := by decide +kernel
theorem dX5_readWord_0 : decode cX5_readWord 0 = .ok (.aload_n 0, 1) := by decide +kernel
theorem dX5_readWord_1 : decode cX5_readWord 1 = .ok (.iconst 1, 1) := by decide +kernel
theorem dX5_readWord_2 : decode cX5_readWord 2 = .ok (.putfield 42, 3) := by decide +kernel
theorem dX5_readWord_5 : decode cX5_readWord 5 = .ok (.aload_n 0, 1) := by decide +kernel
theorem dX5_readWord_6 : decode cX5_readWord 6 = .ok (.getfield 30, 3) := by decide +kernel
theorem dX5_readWord_9 : decode cX5_readWord 9 = .ok (.aload_n 0, 1) := by decide +kernel
theorem dX5_readWord_10 : decode cX5_readWord 10 = .ok (.getfield 26, 3) := by decide +kernel
theorem dX5_readWord_13 : decode cX5_readWord 13 = .ok (.if_icmp .ge 57, 3) := by decide +kernel
theorem dX5_readWord_16 : decode cX5_readWord 16 = .ok (.aload_n 0, 1) := by decide +kernel
theorem dX5_readWord_17 : decode cX5_readWord 17 = .ok (.getfield 9, 3) := by decide +kernel
theorem dX5_readWord_20 : decode cX5_readWord 20 = .ok (.aload_n 0, 1) := by decide +kernel
theorem dX5_readWord_21 : decode cX5_readWord 21 = .ok (.getfield 30, 3) := by decide +kernel
theorem dX5_readWord_24 : decode cX5_readWord 24 = .ok (.baload, 1) := by decide +kernel
theorem dX5_readWord_25 : decode cX5_readWord 25 = .ok (.invokestatic 115, 3) := by decide +kernel
theorem dX5_readWord_28 : decode cX5_readWord 28 = .ok (.ifCond .eq 42, 3) := by decide +kernel
theorem dX5_readWord_31 : decode cX5_readWord 31 = .ok (.aload_n 0, 1) := by decide +kernel
theorem dX5_readWord_32 : decode cX5_readWord 32 = .ok (.aload_n 0, 1) := by decide +kernel
theorem dX5_readWord_33 : decode cX5_readWord 33 = .ok (.getfield 45, 3) := by decide +kernel
theorem dX5_readWord_36 : decode cX5_readWord 36 = .ok (.iconst 5, 1) := by decide +kernel
theorem dX5_readWord_37 : decode cX5_readWord 37 = .ok (.lshl, 1) := by decide +kernel
theorem dX5_readWord_38 : decode cX5_readWord 38 = .ok (.aload_n 0, 1) := by decide +kernel
theorem dX5_readWord_39 : decode cX5_readWord 39 = .ok (.getfield 9, 3) := by decide +kernel
theorem dX5_readWord_42 : decode cX5_readWord 42 = .ok (.aload_n 0, 1) := by decide +kernel
theorem dX5_readWord_43 : decode cX5_readWord 43 = .ok (.getfield 30, 3) := by decide +kernel
theorem dX5_readWord_46 : decode cX5_readWord 46 = .ok (.baload, 1) := by decide +kernel
theorem dX5_readWord_47 : decode cX5_readWord 47 = .ok (.bipush 97, 2) := by decide +kernel
theorem dX5_readWord_49 : decode cX5_readWord 49 = .ok (.isub, 1) := by decide +kernel
theorem dX5_readWord_50 : decode cX5_readWord 50 = .ok (.iconst 1, 1) := by decide +kernel
theorem dX5_readWord_51 : decode cX5_readWord 51 = .ok (.iadd, 1) := by decide +kernel
theorem dX5_readWord_52 : decode cX5_readWord 52 = .ok (.i2l, 1) := by decide +kernel
theorem dX5_readWord_53 : decode cX5_readWord 53 = .ok (.lor, 1) := by decide +kernel
theorem dX5_readWord_54 : decode cX5_readWord 54 = .ok (.putfield 45, 3) := by decide +kernel
theorem dX5_readWord_57 : decode cX5_readWord 57 = .ok (.aload_n 0, 1) := by decide +kernel
theorem dX5_readWord_58 : decode cX5_readWord 58 = .ok (.dup, 1) := by decide +kernel
theorem dX5_readWord_59 : decode cX5_readWord 59 = .ok (.getfield 30, 3) := by decide +kernel
theorem dX5_readWord_62 : decode cX5_readWord 62 = .ok (.iconst 1, 1) := by decide +kernel
theorem dX5_readWord_63 : decode cX5_readWord 63 = .ok (.iadd, 1) := by decide +kernel
theorem dX5_readWord_64 : decode cX5_readWord 64 = .ok (.putfield 30, 3) := by decide +kernel
theorem dX5_readWord_67 : decode cX5_readWord 67 = .ok (.goto (-62), 3) := by decide +kernel
theorem dX5_readWord_70 : decode cX5_readWord 70 = .ok (.aload_n 0, 1) := by decide +kernel
theorem dX5_readWord_71 : decode cX5_readWord 71 = .ok (.getfield 30, 3) := by decide +kernel
theorem dX5_readWord_74 : decode cX5_readWord 74 = .ok (.aload_n 0, 1) := by decide +kernel
theorem dX5_readWord_75 : decode cX5_readWord 75 = .ok (.getfield 108, 3) := by decide +kernel
theorem dX5_readWord_78 : decode cX5_readWord 78 = .ok (.isub, 1) := by decide +kernel
theorem dX5_readWord_79 : decode cX5_readWord 79 = .ok (.bipush 8, 2) := by decide +kernel
theorem dX5_readWord_81 : decode cX5_readWord 81 = .ok (.if_icmp .le 8, 3) := by decide +kernel
theorem dX5_readWord_84 : decode cX5_readWord 84 = .ok (.aload_n 0, 1) := by decide +kernel
theorem dX5_readWord_85 : decode cX5_readWord 85 = .ok (.lconst 0, 1) := by decide +kernel
theorem dX5_readWord_86 : decode cX5_readWord 86 = .ok (.putfield 45, 3) := by decide +kernel
theorem dX5_readWord_89 : decode cX5_readWord 89 = .ok (.return_, 1) := by decide +kernel
theorem dX5_readNumber_0 : decode cX5_readNumber 0 = .ok (.aload_n 0, 1) := by decide +kernel
theorem dX5_readNumber_1 : decode cX5_readNumber 1 = .ok (.iconst 2, 1) := by decide +kernel
theorem dX5_readNumber_2 : decode cX5_readNumber 2 = .ok (.putfield 42, 3) := by decide +kernel
theorem dX5_readNumber_5 : decode cX5_readNumber 5 = .ok (.aload_n 0, 1) := by decide +kernel
theorem dX5_readNumber_6 : decode cX5_readNumber 6 = .ok (.getfield 30, 3) := by decide +kernel
theorem dX5_readNumber_9 : decode cX5_readNumber 9 = .ok (.aload_n 0, 1) := by decide +kernel
theorem dX5_readNumber_10 : decode cX5_readNumber 10 = .ok (.getfield 26, 3) := by decide +kernel
theorem dX5_readNumber_13 : decode cX5_readNumber 13 = .ok (.if_icmp .ge 57, 3) := by decide +kernel
theorem dX5_readNumber_16 : decode cX5_readNumber 16 = .ok (.aload_n 0, 1) := by decide +kernel
theorem dX5_readNumber_17 : decode cX5_readNumber 17 = .ok (.getfield 9, 3) := by decide +kernel
theorem dX5_readNumber_20 : decode cX5_readNumber 20 = .ok (.aload_n 0, 1) := by decide +kernel
theorem dX5_readNumber_21 : decode cX5_readNumber 21 = .ok (.getfield 30, 3) := by decide +kernel
theorem dX5_readNumber_24 : decode cX5_readNumber 24 = .ok (.baload, 1) := by decide +kernel
theorem dX5_readNumber_25 : decode cX5_readNumber 25 = .ok (.invokestatic 121, 3) := by decide +kernel
theorem dX5_readNumber_28 : decode cX5_readNumber 28 = .ok (.ifCond .eq 42, 3) := by decide +kernel
theorem dX5_readNumber_31 : decode cX5_readNumber 31 = .ok (.aload_n 0, 1) := by decide +kernel
theorem dX5_readNumber_32 : decode cX5_readNumber 32 = .ok (.aload_n 0, 1) := by decide +kernel
theorem dX5_readNumber_33 : decode cX5_readNumber 33 = .ok (.getfield 45, 3) := by decide +kernel
theorem dX5_readNumber_36 : decode cX5_readNumber 36 = .ok (.ldc2_w 127, 3) := by decide +kernel
theorem dX5_readNumber_39 : decode cX5_readNumber 39 = .ok (.lmul, 1) := by decide +kernel
theorem dX5_readNumber_40 : decode cX5_readNumber 40 = .ok (.aload_n 0, 1) := by decide +kernel
theorem dX5_readNumber_41 : decode cX5_readNumber 41 = .ok (.getfield 9, 3) := by decide +kernel
theorem dX5_readNumber_44 : decode cX5_readNumber 44 = .ok (.aload_n 0, 1) := by decide +kernel
theorem dX5_readNumber_45 : decode cX5_readNumber 45 = .ok (.getfield 30, 3) := by decide +kernel
theorem dX5_readNumber_48 : decode cX5_readNumber 48 = .ok (.baload, 1) := by decide +kernel
theorem dX5_readNumber_49 : decode cX5_readNumber 49 = .ok (.bipush 48, 2) := by decide +kernel
theorem dX5_readNumber_51 : decode cX5_readNumber 51 = .ok (.isub, 1) := by decide +kernel
theorem dX5_readNumber_52 : decode cX5_readNumber 52 = .ok (.i2l, 1) := by decide +kernel
theorem dX5_readNumber_53 : decode cX5_readNumber 53 = .ok (.ladd, 1) := by decide +kernel
theorem dX5_readNumber_54 : decode cX5_readNumber 54 = .ok (.putfield 45, 3) := by decide +kernel
