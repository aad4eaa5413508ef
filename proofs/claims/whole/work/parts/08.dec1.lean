theorem dX5_readNumber_57 : decode cX5_readNumber 57 = .ok (.aload_n 0, 1) := by decide +kernel
theorem dX5_readNumber_58 : decode cX5_readNumber 58 = .ok (.dup, 1) := by decide +kernel
theorem dX5_readNumber_59 : decode cX5_readNumber 59 = .ok (.getfield 30, 3) := by decide +kernel
theorem dX5_readNumber_62 : decode cX5_readNumber 62 = .ok (.iconst 1, 1) := by decide +kernel
theorem dX5_readNumber_63 : decode cX5_readNumber 63 = .ok (.iadd, 1) := by decide +kernel
theorem dX5_readNumber_64 : decode cX5_readNumber 64 = .ok (.putfield 30, 3) := by decide +kernel
theorem dX5_readNumber_67 : decode cX5_readNumber 67 = .ok (.goto (-62), 3) := by decide +kernel
theorem dX5_readNumber_70 : decode cX5_readNumber 70 = .ok (.return_, 1) := by decide +kernel
theorem dX5_isBlank_0 : decode cX5_isBlank 0 = .ok (.iload_n 0, 1) := by decide +kernel
theorem dX5_isBlank_1 : decode cX5_isBlank 1 = .ok (.bipush 32, 2) := by decide +kernel
theorem dX5_isBlank_3 : decode cX5_isBlank 3 = .ok (.if_icmp .eq 9, 3) := by decide +kernel
theorem dX5_isBlank_6 : decode cX5_isBlank 6 = .ok (.iload_n 0, 1) := by decide +kernel
theorem dX5_isBlank_7 : decode cX5_isBlank 7 = .ok (.bipush 10, 2) := by decide +kernel
theorem dX5_isBlank_9 : decode cX5_isBlank 9 = .ok (.if_icmp .ne 7, 3) := by decide +kernel
theorem dX5_isBlank_12 : decode cX5_isBlank 12 = .ok (.iconst 1, 1) := by decide +kernel
theorem dX5_isBlank_13 : decode cX5_isBlank 13 = .ok (.goto 4, 3) := by decide +kernel
theorem dX5_isBlank_16 : decode cX5_isBlank 16 = .ok (.iconst 0, 1) := by decide +kernel
theorem dX5_isBlank_17 : decode cX5_isBlank 17 = .ok (.ireturn, 1) := by decide +kernel
theorem dX5_isLetter_0 : decode cX5_isLetter 0 = .ok (.iload_n 0, 1) := by decide +kernel
theorem dX5_isLetter_1 : decode cX5_isLetter 1 = .ok (.bipush 97, 2) := by decide +kernel
theorem dX5_isLetter_3 : decode cX5_isLetter 3 = .ok (.if_icmp .lt 13, 3) := by decide +kernel
theorem dX5_isLetter_6 : decode cX5_isLetter 6 = .ok (.iload_n 0, 1) := by decide +kernel
theorem dX5_isLetter_7 : decode cX5_isLetter 7 = .ok (.bipush 122, 2) := by decide +kernel
theorem dX5_isLetter_9 : decode cX5_isLetter 9 = .ok (.if_icmp .gt 7, 3) := by decide +kernel
theorem dX5_isLetter_12 : decode cX5_isLetter 12 = .ok (.iconst 1, 1) := by decide +kernel
theorem dX5_isLetter_13 : decode cX5_isLetter 13 = .ok (.goto 4, 3) := by decide +kernel
theorem dX5_isLetter_16 : decode cX5_isLetter 16 = .ok (.iconst 0, 1) := by decide +kernel
theorem dX5_isLetter_17 : decode cX5_isLetter 17 = .ok (.ireturn, 1) := by decide +kernel
theorem dX5_isDigit_0 : decode cX5_isDigit 0 = .ok (.iload_n 0, 1) := by decide +kernel
theorem dX5_isDigit_1 : decode cX5_isDigit 1 = .ok (.bipush 48, 2) := by decide +kernel
theorem dX5_isDigit_3 : decode cX5_isDigit 3 = .ok (.if_icmp .lt 13, 3) := by decide +kernel
theorem dX5_isDigit_6 : decode cX5_isDigit 6 = .ok (.iload_n 0, 1) := by decide +kernel
theorem dX5_isDigit_7 : decode cX5_isDigit 7 = .ok (.bipush 57, 2) := by decide +kernel
theorem dX5_isDigit_9 : decode cX5_isDigit 9 = .ok (.if_icmp .gt 7, 3) := by decide +kernel
theorem dX5_isDigit_12 : decode cX5_isDigit 12 = .ok (.iconst 1, 1) := by decide +kernel
theorem dX5_isDigit_13 : decode cX5_isDigit 13 = .ok (.goto 4, 3) := by decide +kernel
theorem dX5_isDigit_16 : decode cX5_isDigit 16 = .ok (.iconst 0, 1) := by decide +kernel
theorem dX5_isDigit_17 : decode cX5_isDigit 17 = .ok (.ireturn, 1) := by decide +kernel
theorem dX6_init_0 : decode cX6_init 0 = .ok (.aload_n 0, 1) := by decide +kernel
theorem dX6_init_1 : decode cX6_init 1 = .ok (.invokespecial 3, 3) := by decide +kernel
theorem dX6_init_4 : decode cX6_init 4 = .ok (.aload_n 0, 1) := by decide +kernel
theorem dX6_init_5 : decode cX6_init 5 = .ok (.bipush 12, 2) := by decide +kernel
theorem dX6_init_7 : decode cX6_init 7 = .ok (.newarray .int, 2) := by decide +kernel
theorem dX6_init_9 : decode cX6_init 9 = .ok (.putfield 9, 3) := by decide +kernel
theorem dX6_init_12 : decode cX6_init 12 = .ok (.aload_n 0, 1) := by decide +kernel
theorem dX6_init_13 : decode cX6_init 13 = .ok (.bipush 12, 2) := by decide +kernel
theorem dX6_init_15 : decode cX6_init 15 = .ok (.newarray .int, 2) := by decide +kernel
theorem dX6_init_17 : decode cX6_init 17 = .ok (.putfield 15, 3) := by decide +kernel
theorem dX6_init_20 : decode cX6_init 20 = .ok (.aload_n 0, 1) := by decide +kernel
theorem dX6_init_21 : decode cX6_init 21 = .ok (.bipush 12, 2) := by decide +kernel
theorem dX6_init_23 : decode cX6_init 23 = .ok (.newarray .int, 2) := by decide +kernel
theorem dX6_init_25 : decode cX6_init 25 = .ok (.putfield 18, 3) := by decide +kernel
theorem dX6_init_28 : decode cX6_init 28 = .ok (.aload_n 0, 1) := by decide +kernel
theorem dX6_init_29 : decode cX6_init 29 = .ok (.bipush 12, 2) := by decide +kernel
theorem dX6_init_31 : decode cX6_init 31 = .ok (.newarray .int, 2) := by decide +kernel
theorem dX6_init_33 : decode cX6_init 33 = .ok (.putfield 21, 3) := by decide +kernel
theorem dX6_init_36 : decode cX6_init 36 = .ok (.aload_n 0, 1) := by decide +kernel
theorem dX6_init_37 : decode cX6_init 37 = .ok (.bipush 12, 2) := by decide +kernel
theorem dX6_init_39 : decode cX6_init 39 = .ok (.newarray .int, 2) := by decide +kernel
theorem dX6_init_41 : decode cX6_init 41 = .ok (.putfield 24, 3) := by decide +kernel
theorem dX6_init_44 : decode cX6_init 44 = .ok (.aload_n 0, 1) := by decide +kernel
theorem dX6_init_45 : decode cX6_init 45 = .ok (.iconst (-1), 1) := by decide +kernel
theorem dX6_init_46 : decode cX6_init 46 = .ok (.putfield 27, 3) := by decide +kernel
theorem dX6_init_49 : decode cX6_init 49 = .ok (.aload_n 0, 1) := by decide +kernel
theorem dX6_init_50 : decode cX6_init 50 = .ok (.sipush 200, 3) := by decide +kernel
theorem dX6_init_53 : decode cX6_init 53 = .ok (.newarray .int, 2) := by decide +kernel
theorem dX6_init_55 : decode cX6_init 55 = .ok (.putfield 31, 3) := by decide +kernel
theorem dX6_init_58 : decode cX6_init 58 = .ok (.aload_n 0, 1) := by decide +kernel
theorem dX6_init_59 : decode cX6_init 59 = .ok (.sipush 200, 3) := by decide +kernel
theorem dX6_init_62 : decode cX6_init 62 = .ok (.newarray .long, 2) := by decide +kernel
theorem dX6_init_64 : decode cX6_init 64 = .ok (.putfield 34, 3) := by decide +kernel
theorem dX6_init_67 : decode cX6_init 67 = .ok (.aload_n 0, 1) := by decide +kernel
theorem dX6_init_68 : decode cX6_init 68 = .ok (.bipush 8, 2) := by decide +kernel
theorem dX6_init_70 : decode cX6_init 70 = .ok (.newarray .long, 2) := by decide +kernel
theorem dX6_init_72 : decode cX6_init 72 = .ok (.putfield 38, 3) := by decide +kernel
theorem dX6_init_75 : decode cX6_init 75 = .ok (.aload_n 0, 1) := by decide +kernel
theorem dX6_init_76 : decode cX6_init 76 = .ok (.sipush 2600, 3) := by decide +kernel
theorem dX6_init_79 : decode cX6_init 79 = .ok (.newarray .long, 2) := by decide +kernel
theorem dX6_init_81 : decode cX6_init 81 = .ok (.putfield 41, 3) := by decide +kernel
theorem dX6_init_84 : decode cX6_init 84 = .ok (.aload_n 0, 1) := by decide +kernel
theorem dX6_init_85 : decode cX6_init 85 = .ok (.bipush 13, 2) := by decide +kernel
theorem dX6_init_87 : decode cX6_init 87 = .ok (.newarray .long, 2) := by decide +kernel
theorem dX6_init_89 : decode cX6_init 89 = .ok (.putfield 44, 3) := by decide +kernel
theorem dX6_init_92 : decode cX6_init 92 = .ok (.aload_n 0, 1) := by decide +kernel
theorem dX6_init_93 : decode cX6_init 93 = .ok (.aload_n 1, 1) := by decide +kernel
theorem dX6_init_94 : decode cX6_init 94 = .ok (.putfield 47, 3) := by decide +kernel
theorem dX6_init_97 : decode cX6_init 97 = .ok (.aload_n 0, 1) := by decide +kernel
theorem dX6_init_98 : decode cX6_init 98 = .ok (.aload_n 2, 1) := by decide +kernel
theorem dX6_init_99 : decode cX6_init 99 = .ok (.putfield 51, 3) := by decide +kernel
theorem dX6_init_102 : decode cX6_init 102 = .ok (.return_, 1) := by decide +kernel
theorem dX6_forget_0 : decode cX6_forget 0 = .ok (.aload_n 0, 1) := by decide +kernel
theorem dX6_forget_1 : decode cX6_forget 1 = .ok (.iconst (-1), 1) := by decide +kernel
theorem dX6_forget_2 : decode cX6_forget 2 = .ok (.putfield 27, 3) := by decide +kernel
theorem dX6_forget_5 : decode cX6_forget 5 = .ok (.iconst 0, 1) := by decide +kernel
theorem dX6_forget_6 : decode cX6_forget 6 = .ok (.istore_n 1, 1) := by decide +kernel
theorem dX6_forget_7 : decode cX6_forget 7 = .ok (.iload_n 1, 1) := by decide +kernel
theorem dX6_forget_8 : decode cX6_forget 8 = .ok (.aload_n 0, 1) := by decide +kernel
theorem dX6_forget_9 : decode cX6_forget 9 = .ok (.getfield 47, 3) := by decide +kernel
theorem dX6_forget_12 : decode cX6_forget 12 = .ok (.getfield 55, 3) := by decide +kernel
theorem dX6_forget_15 : decode cX6_forget 15 = .ok (.if_icmp .ge 31, 3) := by decide +kernel
theorem dX6_forget_18 : decode cX6_forget 18 = .ok (.aload_n 0, 1) := by decide +kernel
theorem dX6_forget_19 : decode cX6_forget 19 = .ok (.getfield 38, 3) := by decide +kernel
theorem dX6_forget_22 : decode cX6_forget 22 = .ok (.iload_n 1, 1) := by decide +kernel
theorem dX6_forget_23 : decode cX6_forget 23 = .ok (.lconst 1, 1) := by decide +kernel
theorem dX6_forget_24 : decode cX6_forget 24 = .ok (.bipush 8, 2) := by decide +kernel
theorem dX6_forget_26 : decode cX6_forget 26 = .ok (.aload_n 0, 1) := by decide +kernel
theorem dX6_forget_27 : decode cX6_forget 27 = .ok (.getfield 47, 3) := by decide +kernel
theorem dX6_forget_30 : decode cX6_forget 30 = .ok (.getfield 60, 3) := by decide +kernel
theorem dX6_forget_33 : decode cX6_forget 33 = .ok (.iload_n 1, 1) := by decide +kernel
theorem dX6_forget_34 : decode cX6_forget 34 = .ok (.iaload, 1) := by decide +kernel
theorem dX6_forget_35 : decode cX6_forget 35 = .ok (.imul, 1) := by decide +kernel
theorem dX6_forget_36 : decode cX6_forget 36 = .ok (.iload_n 1, 1) := by decide +kernel
theorem dX6_forget_37 : decode cX6_forget 37 = .ok (.iadd, 1) := by decide +kernel
theorem dX6_forget_38 : decode cX6_forget 38 = .ok (.lshl, 1) := by decide +kernel
theorem dX6_forget_39 : decode cX6_forget 39 = .ok (.lastore, 1) := by decide +kernel
theorem dX6_forget_40 : decode cX6_forget 40 = .ok (.iinc 1 1, 3) := by decide +kernel
theorem dX6_forget_43 : decode cX6_forget 43 = .ok (.goto (-36), 3) := by decide +kernel
theorem dX6_forget_46 : decode cX6_forget 46 = .ok (.return_, 1) := by decide +kernel
theorem dX6_lookAt_0 : decode cX6_lookAt 0 = .ok (.aload_n 0, 1) := by decide +kernel
theorem dX6_lookAt_1 : decode cX6_lookAt 1 = .ok (.iload_n 2, 1) := by decide +kernel
theorem dX6_lookAt_2 : decode cX6_lookAt 2 = .ok (.invokevirtual 63, 3) := by decide +kernel
theorem dX6_lookAt_5 : decode cX6_lookAt 5 = .ok (.aload_n 0, 1) := by decide +kernel
theorem dX6_lookAt_6 : decode cX6_lookAt 6 = .ok (.iconst 0, 1) := by decide +kernel
theorem dX6_lookAt_7 : decode cX6_lookAt 7 = .ok (.putfield 67, 3) := by decide +kernel
theorem dX6_lookAt_10 : decode cX6_lookAt 10 = .ok (.iconst 0, 1) := by decide +kernel
theorem dX6_lookAt_11 : decode cX6_lookAt 11 = .ok (.istore_n 3, 1) := by decide +kernel
theorem dX6_lookAt_12 : decode cX6_lookAt 12 = .ok (.iload_n 3, 1) := by decide +kernel
theorem dX6_lookAt_13 : decode cX6_lookAt 13 = .ok (.iload_n 2, 1) := by decide +kernel
theorem dX6_lookAt_14 : decode cX6_lookAt 14 = .ok (.if_icmp .ge 26, 3) := by decide +kernel
theorem dX6_lookAt_17 : decode cX6_lookAt 17 = .ok (.aload_n 0, 1) := by decide +kernel
theorem dX6_lookAt_18 : decode cX6_lookAt 18 = .ok (.getfield 51, 3) := by decide +kernel
theorem dX6_lookAt_21 : decode cX6_lookAt 21 = .ok (.iload_n 3, 1) := by decide +kernel
theorem dX6_lookAt_22 : decode cX6_lookAt 22 = .ok (.iload_n 1, 1) := by decide +kernel
theorem dX6_lookAt_23 : decode cX6_lookAt 23 = .ok (.invokevirtual 70, 3) := by decide +kernel
theorem dX6_lookAt_26 : decode cX6_lookAt 26 = .ok (.ifCond .eq 8, 3) := by decide +kernel
theorem dX6_lookAt_29 : decode cX6_lookAt 29 = .ok (.aload_n 0, 1) := by decide +kernel
theorem dX6_lookAt_30 : decode cX6_lookAt 30 = .ok (.iload_n 3, 1) := by decide +kernel
theorem dX6_lookAt_31 : decode cX6_lookAt 31 = .ok (.invokevirtual 76, 3) := by decide +kernel
theorem dX6_lookAt_34 : decode cX6_lookAt 34 = .ok (.iinc 3 1, 3) := by decide +kernel
theorem dX6_lookAt_37 : decode cX6_lookAt 37 = .ok (.goto (-25), 3) := by decide +kernel
theorem dX6_lookAt_40 : decode cX6_lookAt 40 = .ok (.iconst 0, 1) := by decide +kernel
theorem dX6_lookAt_41 : decode cX6_lookAt 41 = .ok (.istore_n 3, 1) := by decide +kernel
theorem dX6_lookAt_42 : decode cX6_lookAt 42 = .ok (.iload_n 3, 1) := by decide +kernel
theorem dX6_lookAt_43 : decode cX6_lookAt 43 = .ok (.aload_n 0, 1) := by decide +kernel
theorem dX6_lookAt_44 : decode cX6_lookAt 44 = .ok (.getfield 67, 3) := by decide +kernel
theorem dX6_lookAt_47 : decode cX6_lookAt 47 = .ok (.if_icmp .ge 14, 3) := by decide +kernel
theorem dX6_lookAt_50 : decode cX6_lookAt 50 = .ok (.aload_n 0, 1) := by decide +kernel
theorem dX6_lookAt_51 : decode cX6_lookAt 51 = .ok (.iload_n 3, 1) := by decide +kernel
theorem dX6_lookAt_52 : decode cX6_lookAt 52 = .ok (.invokevirtual 79, 3) := by decide +kernel
theorem dX6_lookAt_55 : decode cX6_lookAt 55 = .ok (.iinc 3 1, 3) := by decide +kernel
theorem dX6_lookAt_58 : decode cX6_lookAt 58 = .ok (.goto (-16), 3) := by decide +kernel
theorem dX6_lookAt_61 : decode cX6_lookAt 61 = .ok (.aload_n 0, 1) := by decide +kernel
theorem dX6_lookAt_62 : decode cX6_lookAt 62 = .ok (.getfield 34, 3) := by decide +kernel
theorem dX6_lookAt_65 : decode cX6_lookAt 65 = .ok (.ldc2_w 82, 3) := by decide +kernel
theorem dX6_lookAt_68 : decode cX6_lookAt 68 = .ok (.invokestatic 84, 3) := by decide +kernel
theorem dX6_lookAt_71 : decode cX6_lookAt 71 = .ok (.return_, 1) := by decide +kernel
theorem dX6_addSights_0 : decode cX6_addSights 0 = .ok (.iconst 0, 1) := by decide +kernel
theorem dX6_addSights_1 : decode cX6_addSights 1 = .ok (.istore_n 3, 1) := by decide +kernel
theorem dX6_addSights_2 : decode cX6_addSights 2 = .ok (.iload_n 3, 1) := by decide +kernel
theorem dX6_addSights_3 : decode cX6_addSights 3 = .ok (.iload_n 2, 1) := by decide +kernel
theorem dX6_addSights_4 : decode cX6_addSights 4 = .ok (.if_icmp .ge 57, 3) := by decide +kernel
theorem dX6_addSights_7 : decode cX6_addSights 7 = .ok (.aload_n 0, 1) := by decide +kernel
theorem dX6_addSights_8 : decode cX6_addSights 8 = .ok (.getfield 51, 3) := by decide +kernel
theorem dX6_addSights_11 : decode cX6_addSights 11 = .ok (.getfield 90, 3) := by decide +kernel
theorem dX6_addSights_14 : decode cX6_addSights 14 = .ok (.iload_n 3, 1) := by decide +kernel
theorem dX6_addSights_15 : decode cX6_addSights 15 = .ok (.iaload, 1) := by decide +kernel
theorem dX6_addSights_16 : decode cX6_addSights 16 = .ok (.iconst 2, 1) := by decide +kernel
theorem dX6_addSights_17 : decode cX6_addSights 17 = .ok (.if_icmp .ne 38, 3) := by decide +kernel
theorem dX6_addSights_20 : decode cX6_addSights 20 = .ok (.aload_n 0, 1) := by decide +kernel
theorem dX6_addSights_21 : decode cX6_addSights 21 = .ok (.getfield 51, 3) := by decide +kernel
theorem dX6_addSights_24 : decode cX6_addSights 24 = .ok (.getfield 93, 3) := by decide +kernel
theorem dX6_addSights_27 : decode cX6_addSights 27 = .ok (.iload_n 3, 1) := by decide +kernel
theorem dX6_addSights_28 : decode cX6_addSights 28 = .ok (.iaload, 1) := by decide +kernel
theorem dX6_addSights_29 : decode cX6_addSights 29 = .ok (.iload_n 1, 1) := by decide +kernel
theorem dX6_addSights_30 : decode cX6_addSights 30 = .ok (.if_icmp .ne 25, 3) := by decide +kernel
theorem dX6_addSights_33 : decode cX6_addSights 33 = .ok (.aload_n 0, 1) := by decide +kernel
theorem dX6_addSights_34 : decode cX6_addSights 34 = .ok (.aload_n 0, 1) := by decide +kernel
theorem dX6_addSights_35 : decode cX6_addSights 35 = .ok (.getfield 51, 3) := by decide +kernel
theorem dX6_addSights_38 : decode cX6_addSights 38 = .ok (.getfield 96, 3) := by decide +kernel
theorem dX6_addSights_41 : decode cX6_addSights 41 = .ok (.iload_n 3, 1) := by decide +kernel
theorem dX6_addSights_42 : decode cX6_addSights 42 = .ok (.iaload, 1) := by decide +kernel
theorem dX6_addSights_43 : decode cX6_addSights 43 = .ok (.aload_n 0, 1) := by decide +kernel
theorem dX6_addSights_44 : decode cX6_addSights 44 = .ok (.getfield 51, 3) := by decide +kernel
theorem dX6_addSights_47 : decode cX6_addSights 47 = .ok (.getfield 99, 3) := by decide +kernel
theorem dX6_addSights_50 : decode cX6_addSights 50 = .ok (.iload_n 3, 1) := by decide +kernel
theorem dX6_addSights_51 : decode cX6_addSights 51 = .ok (.iaload, 1) := by decide +kernel
theorem dX6_addSights_52 : decode cX6_addSights 52 = .ok (.invokevirtual 102, 3) := by decide +kernel
theorem dX6_addSights_55 : decode cX6_addSights 55 = .ok (.iinc 3 1, 3) := by decide +kernel
theorem dX6_addSights_58 : decode cX6_addSights 58 = .ok (.goto (-56), 3) := by decide +kernel
theorem dX6_addSights_61 : decode cX6_addSights 61 = .ok (.return_, 1) := by decide +kernel
theorem dX6_demand_0 : decode cX6_demand 0 = .ok (.aload_n 0, 1) := by decide +kernel
theorem dX6_demand_1 : decode cX6_demand 1 = .ok (.getfield 34, 3) := by decide +kernel
theorem dX6_demand_4 : decode cX6_demand 4 = .ok (.iload_n 2, 1) := by decide +kernel
theorem dX6_demand_5 : decode cX6_demand 5 = .ok (.dup2, 1) := by decide +kernel
theorem dX6_demand_6 : decode cX6_demand 6 = .ok (.laload, 1) := by decide +kernel
theorem dX6_demand_7 : decode cX6_demand 7 = .ok (.ldc2_w 106, 3) := by decide +kernel
theorem dX6_demand_10 : decode cX6_demand 10 = .ok (.iload_n 1, 1) := by decide +kernel
theorem dX6_demand_11 : decode cX6_demand 11 = .ok (.lshl, 1) := by decide +kernel
theorem dX6_demand_12 : decode cX6_demand 12 = .ok (.land, 1) := by decide +kernel
theorem dX6_demand_13 : decode cX6_demand 13 = .ok (.lastore, 1) := by decide +kernel
theorem dX6_demand_14 : decode cX6_demand 14 = .ok (.return_, 1) := by decide +kernel
theorem dX6_openGaps_0 : decode cX6_openGaps 0 = .ok (.aload_n 0, 1) := by decide +kernel
theorem dX6_openGaps_1 : decode cX6_openGaps 1 = .ok (.getfield 27, 3) := by decide +kernel
theorem dX6_openGaps_4 : decode cX6_openGaps 4 = .ok (.iload_n 1, 1) := by decide +kernel
theorem dX6_openGaps_5 : decode cX6_openGaps 5 = .ok (.if_icmp .ne 4, 3) := by decide +kernel
theorem dX6_openGaps_8 : decode cX6_openGaps 8 = .ok (.return_, 1) := by decide +kernel
theorem dX6_openGaps_9 : decode cX6_openGaps 9 = .ok (.aload_n 0, 1) := by decide +kernel
theorem dX6_openGaps_10 : decode cX6_openGaps 10 = .ok (.iload_n 1, 1) := by decide +kernel
theorem dX6_openGaps_11 : decode cX6_openGaps 11 = .ok (.putfield 27, 3) := by decide +kernel
theorem dX6_openGaps_14 : decode cX6_openGaps 14 = .ok (.aload_n 0, 1) := by decide +kernel
theorem dX6_openGaps_15 : decode cX6_openGaps 15 = .ok (.getfield 31, 3) := by decide +kernel
theorem dX6_openGaps_18 : decode cX6_openGaps 18 = .ok (.iconst 0, 1) := by decide +kernel
theorem dX6_openGaps_19 : decode cX6_openGaps 19 = .ok (.invokestatic 108, 3) := by decide +kernel
theorem dX6_openGaps_22 : decode cX6_openGaps 22 = .ok (.iconst 0, 1) := by decide +kernel
theorem dX6_openGaps_23 : decode cX6_openGaps 23 = .ok (.istore_n 2, 1) := by decide +kernel
theorem dX6_openGaps_24 : decode cX6_openGaps 24 = .ok (.iload_n 2, 1) := by decide +kernel
theorem dX6_openGaps_25 : decode cX6_openGaps 25 = .ok (.iload_n 1, 1) := by decide +kernel
theorem dX6_openGaps_26 : decode cX6_openGaps 26 = .ok (.if_icmp .ge 53, 3) := by decide +kernel
theorem dX6_openGaps_29 : decode cX6_openGaps 29 = .ok (.aload_n 0, 1) := by decide +kernel
theorem dX6_openGaps_30 : decode cX6_openGaps 30 = .ok (.getfield 51, 3) := by decide +kernel
theorem dX6_openGaps_33 : decode cX6_openGaps 33 = .ok (.getfield 90, 3) := by decide +kernel
theorem dX6_openGaps_36 : decode cX6_openGaps 36 = .ok (.iload_n 2, 1) := by decide +kernel
theorem dX6_openGaps_37 : decode cX6_openGaps 37 = .ok (.iaload, 1) := by decide +kernel
theorem dX6_openGaps_38 : decode cX6_openGaps 38 = .ok (.iconst 1, 1) := by decide +kernel
theorem dX6_openGaps_39 : decode cX6_openGaps 39 = .ok (.if_icmp .ne 34, 3) := by decide +kernel
theorem dX6_openGaps_42 : decode cX6_openGaps 42 = .ok (.aload_n 0, 1) := by decide +kernel
theorem dX6_openGaps_43 : decode cX6_openGaps 43 = .ok (.aload_n 0, 1) := by decide +kernel
theorem dX6_openGaps_44 : decode cX6_openGaps 44 = .ok (.getfield 51, 3) := by decide +kernel
theorem dX6_openGaps_47 : decode cX6_openGaps 47 = .ok (.getfield 96, 3) := by decide +kernel
theorem dX6_openGaps_50 : decode cX6_openGaps 50 = .ok (.iload_n 2, 1) := by decide +kernel
theorem dX6_openGaps_51 : decode cX6_openGaps 51 = .ok (.iaload, 1) := by decide +kernel
theorem dX6_openGaps_52 : decode cX6_openGaps 52 = .ok (.aload_n 0, 1) := by decide +kernel
theorem dX6_openGaps_53 : decode cX6_openGaps 53 = .ok (.getfield 51, 3) := by decide +kernel
theorem dX6_openGaps_56 : decode cX6_openGaps 56 = .ok (.getfield 99, 3) := by decide +kernel
theorem dX6_openGaps_59 : decode cX6_openGaps 59 = .ok (.iload_n 2, 1) := by decide +kernel
theorem dX6_openGaps_60 : decode cX6_openGaps 60 = .ok (.iaload, 1) := by decide +kernel
theorem dX6_openGaps_61 : decode cX6_openGaps 61 = .ok (.aload_n 0, 1) := by decide +kernel
theorem dX6_openGaps_62 : decode cX6_openGaps 62 = .ok (.getfield 51, 3) := by decide +kernel
theorem dX6_openGaps_65 : decode cX6_openGaps 65 = .ok (.getfield 111, 3) := by decide +kernel
theorem dX6_openGaps_68 : decode cX6_openGaps 68 = .ok (.iload_n 2, 1) := by decide +kernel
theorem dX6_openGaps_69 : decode cX6_openGaps 69 = .ok (.iaload, 1) := by decide +kernel
theorem dX6_openGaps_70 : decode cX6_openGaps 70 = .ok (.invokevirtual 114, 3) := by decide +kernel
theorem dX6_openGaps_73 : decode cX6_openGaps 73 = .ok (.iinc 2 1, 3) := by decide +kernel
theorem dX6_openGaps_76 : decode cX6_openGaps 76 = .ok (.goto (-52), 3) := by decide +kernel
theorem dX6_openGaps_79 : decode cX6_openGaps 79 = .ok (.return_, 1) := by decide +kernel
theorem dX6_openGap_0 : decode cX6_openGap 0 = .ok (.iload_n 2, 1) := by decide +kernel
theorem dX6_openGap_1 : decode cX6_openGap 1 = .ok (.aload_n 0, 1) := by decide +kernel
theorem dX6_openGap_2 : decode cX6_openGap 2 = .ok (.getfield 47, 3) := by decide +kernel
theorem dX6_openGap_5 : decode cX6_openGap 5 = .ok (.getfield 118, 3) := by decide +kernel
theorem dX6_openGap_8 : decode cX6_openGap 8 = .ok (.iload_n 1, 1) := by decide +kernel
theorem dX6_openGap_9 : decode cX6_openGap 9 = .ok (.iaload, 1) := by decide +kernel
theorem dX6_openGap_10 : decode cX6_openGap 10 = .ok (.isub, 1) := by decide +kernel
theorem dX6_openGap_11 : decode cX6_openGap 11 = .ok (.iconst 0, 1) := by decide +kernel
theorem dX6_openGap_12 : decode cX6_openGap 12 = .ok (.invokestatic 121, 3) := by decide +kernel
theorem dX6_openGap_15 : decode cX6_openGap 15 = .ok (.istore 4, 2) := by decide +kernel
theorem dX6_openGap_17 : decode cX6_openGap 17 = .ok (.iload_n 3, 1) := by decide +kernel
theorem dX6_openGap_18 : decode cX6_openGap 18 = .ok (.aload_n 0, 1) := by decide +kernel
theorem dX6_openGap_19 : decode cX6_openGap 19 = .ok (.getfield 47, 3) := by decide +kernel
theorem dX6_openGap_22 : decode cX6_openGap 22 = .ok (.getfield 118, 3) := by decide +kernel
theorem dX6_openGap_25 : decode cX6_openGap 25 = .ok (.iload_n 1, 1) := by decide +kernel
theorem dX6_openGap_26 : decode cX6_openGap 26 = .ok (.iaload, 1) := by decide +kernel
theorem dX6_openGap_27 : decode cX6_openGap 27 = .ok (.iadd, 1) := by decide +kernel
theorem dX6_openGap_28 : decode cX6_openGap 28 = .ok (.sipush 199, 3) := by decide +kernel
theorem dX6_openGap_31 : decode cX6_openGap 31 = .ok (.invokestatic 127, 3) := by decide +kernel
theorem dX6_openGap_34 : decode cX6_openGap 34 = .ok (.istore 5, 2) := by decide +kernel
theorem dX6_openGap_36 : decode cX6_openGap 36 = .ok (.iload 4, 2) := by decide +kernel
theorem dX6_openGap_38 : decode cX6_openGap 38 = .ok (.istore 6, 2) := by decide +kernel
theorem dX6_openGap_40 : decode cX6_openGap 40 = .ok (.iload 6, 2) := by decide +kernel
theorem dX6_openGap_42 : decode cX6_openGap 42 = .ok (.iload 5, 2) := by decide +kernel
theorem dX6_openGap_44 : decode cX6_openGap 44 = .ok (.if_icmp .gt 22, 3) := by decide +kernel
theorem dX6_openGap_47 : decode cX6_openGap 47 = .ok (.aload_n 0, 1) := by decide +kernel
theorem dX6_openGap_48 : decode cX6_openGap 48 = .ok (.getfield 31, 3) := by decide +kernel
theorem dX6_openGap_51 : decode cX6_openGap 51 = .ok (.iload 6, 2) := by decide +kernel
theorem dX6_openGap_53 : decode cX6_openGap 53 = .ok (.dup2, 1) := by decide +kernel
theorem dX6_openGap_54 : decode cX6_openGap 54 = .ok (.iaload, 1) := by decide +kernel
theorem dX6_openGap_55 : decode cX6_openGap 55 = .ok (.iconst 1, 1) := by decide +kernel
theorem dX6_openGap_56 : decode cX6_openGap 56 = .ok (.iload_n 1, 1) := by decide +kernel
theorem dX6_openGap_57 : decode cX6_openGap 57 = .ok (.ishl, 1) := by decide +kernel
theorem dX6_openGap_58 : decode cX6_openGap 58 = .ok (.ior, 1) := by decide +kernel
theorem dX6_openGap_59 : decode cX6_openGap 59 = .ok (.iastore, 1) := by decide +kernel
theorem dX6_openGap_60 : decode cX6_openGap 60 = .ok (.iinc 6 1, 3) := by decide +kernel
theorem dX6_openGap_63 : decode cX6_openGap 63 = .ok (.goto (-23), 3) := by decide +kernel
theorem dX6_openGap_66 : decode cX6_openGap 66 = .ok (.return_, 1) := by decide +kernel
theorem dX6_insertPass_0 : decode cX6_insertPass 0 = .ok (.aload_n 0, 1) := by decide +kernel
theorem dX6_insertPass_1 : decode cX6_insertPass 1 = .ok (.getfield 67, 3) := by decide +kernel
theorem dX6_insertPass_4 : decode cX6_insertPass 4 = .ok (.bipush 12, 2) := by decide +kernel
theorem dX6_insertPass_6 : decode cX6_insertPass 6 = .ok (.if_icmp .lt 4, 3) := by decide +kernel
theorem dX6_insertPass_9 : decode cX6_insertPass 9 = .ok (.return_, 1) := by decide +kernel
theorem dX6_insertPass_10 : decode cX6_insertPass 10 = .ok (.aload_n 0, 1) := by decide +kernel
theorem dX6_insertPass_11 : decode cX6_insertPass 11 = .ok (.getfield 67, 3) := by decide +kernel
theorem dX6_insertPass_14 : decode cX6_insertPass 14 = .ok (.istore_n 2, 1) := by decide +kernel
theorem dX6_insertPass_15 : decode cX6_insertPass 15 = .ok (.iload_n 2, 1) := by decide +kernel
theorem dX6_insertPass_16 : decode cX6_insertPass 16 = .ok (.ifCond .le 51, 3) := by decide +kernel
theorem dX6_insertPass_19 : decode cX6_insertPass 19 = .ok (.aload_n 0, 1) := by decide +kernel
theorem dX6_insertPass_20 : decode cX6_insertPass 20 = .ok (.getfield 51, 3) := by decide +kernel
theorem dX6_insertPass_23 : decode cX6_insertPass 23 = .ok (.getfield 99, 3) := by decide +kernel
theorem dX6_insertPass_26 : decode cX6_insertPass 26 = .ok (.aload_n 0, 1) := by decide +kernel
theorem dX6_insertPass_27 : decode cX6_insertPass 27 = .ok (.getfield 9, 3) := by decide +kernel
theorem dX6_insertPass_30 : decode cX6_insertPass 30 = .ok (.iload_n 2, 1) := by decide +kernel
theorem dX6_insertPass_31 : decode cX6_insertPass 31 = .ok (.iconst 1, 1) := by decide +kernel
theorem dX6_insertPass_32 : decode cX6_insertPass 32 = .ok (.isub, 1) := by decide +kernel
theorem dX6_insertPass_33 : decode cX6_insertPass 33 = .ok (.iaload, 1) := by decide +kernel
theorem dX6_insertPass_34 : decode cX6_insertPass 34 = .ok (.iaload, 1) := by decide +kernel
theorem dX6_insertPass_35 : decode cX6_insertPass 35 = .ok (.aload_n 0, 1) := by decide +kernel
theorem dX6_insertPass_36 : decode cX6_insertPass 36 = .ok (.getfield 51, 3) := by decide +kernel
theorem dX6_insertPass_39 : decode cX6_insertPass 39 = .ok (.getfield 99, 3) := by decide +kernel
theorem dX6_insertPass_42 : decode cX6_insertPass 42 = .ok (.iload_n 1, 1) := by decide +kernel
theorem dX6_insertPass_43 : decode cX6_insertPass 43 = .ok (.iaload, 1) := by decide +kernel
theorem dX6_insertPass_44 : decode cX6_insertPass 44 = .ok (.if_icmp .le 23, 3) := by decide +kernel
theorem dX6_insertPass_47 : decode cX6_insertPass 47 = .ok (.aload_n 0, 1) := by decide +kernel
theorem dX6_insertPass_48 : decode cX6_insertPass 48 = .ok (.getfield 9, 3) := by decide +kernel
theorem dX6_insertPass_51 : decode cX6_insertPass 51 = .ok (.iload_n 2, 1) := by decide +kernel
theorem dX6_insertPass_52 : decode cX6_insertPass 52 = .ok (.aload_n 0, 1) := by decide +kernel
theorem dX6_insertPass_53 : decode cX6_insertPass 53 = .ok (.getfield 9, 3) := by decide +kernel
theorem dX6_insertPass_56 : decode cX6_insertPass 56 = .ok (.iload_n 2, 1) := by decide +kernel
theorem dX6_insertPass_57 : decode cX6_insertPass 57 = .ok (.iconst 1, 1) := by decide +kernel
theorem dX6_insertPass_58 : decode cX6_insertPass 58 = .ok (.isub, 1) := by decide +kernel
theorem dX6_insertPass_59 : decode cX6_insertPass 59 = .ok (.iaload, 1) := by decide +kernel
theorem dX6_insertPass_60 : decode cX6_insertPass 60 = .ok (.iastore, 1) := by decide +kernel
theorem dX6_insertPass_61 : decode cX6_insertPass 61 = .ok (.iinc 2 (-1), 3) := by decide +kernel
theorem dX6_insertPass_64 : decode cX6_insertPass 64 = .ok (.goto (-49), 3) := by decide +kernel
theorem dX6_insertPass_67 : decode cX6_insertPass 67 = .ok (.aload_n 0, 1) := by decide +kernel
theorem dX6_insertPass_68 : decode cX6_insertPass 68 = .ok (.getfield 9, 3) := by decide +kernel
theorem dX6_insertPass_71 : decode cX6_insertPass 71 = .ok (.iload_n 2, 1) := by decide +kernel
theorem dX6_insertPass_72 : decode cX6_insertPass 72 = .ok (.iload_n 1, 1) := by decide +kernel
theorem dX6_insertPass_73 : decode cX6_insertPass 73 = .ok (.iastore, 1) := by decide +kernel
theorem dX6_insertPass_74 : decode cX6_insertPass 74 = .ok (.aload_n 0, 1) := by decide +kernel
theorem dX6_insertPass_75 : decode cX6_insertPass 75 = .ok (.dup, 1) := by decide +kernel
theorem dX6_insertPass_76 : decode cX6_insertPass 76 = .ok (.getfield 67, 3) := by decide +kernel
theorem dX6_insertPass_79 : decode cX6_insertPass 79 = .ok (.iconst 1, 1) := by decide +kernel
theorem dX6_insertPass_80 : decode cX6_insertPass 80 = .ok (.iadd, 1) := by decide +kernel
theorem dX6_insertPass_81 : decode cX6_insertPass 81 = .ok (.putfield 67, 3) := by decide +kernel
theorem dX6_insertPass_84 : decode cX6_insertPass 84 = .ok (.return_, 1) := by decide +kernel
theorem dX6_readPass_0 : decode cX6_readPass 0 = .ok (.aload_n 0, 1) := by decide +kernel
theorem dX6_readPass_1 : decode cX6_readPass 1 = .ok (.getfield 9, 3) := by decide +kernel
theorem dX6_readPass_4 : decode cX6_readPass 4 = .ok (.iload_n 1, 1) := by decide +kernel
theorem dX6_readPass_5 : decode cX6_readPass 5 = .ok (.iaload, 1) := by decide +kernel
theorem dX6_readPass_6 : decode cX6_readPass 6 = .ok (.istore_n 2, 1) := by decide +kernel
theorem dX6_readPass_7 : decode cX6_readPass 7 = .ok (.aload_n 0, 1) := by decide +kernel
theorem dX6_readPass_8 : decode cX6_readPass 8 = .ok (.getfield 51, 3) := by decide +kernel
theorem dX6_readPass_11 : decode cX6_readPass 11 = .ok (.getfield 96, 3) := by decide +kernel
theorem dX6_readPass_14 : decode cX6_readPass 14 = .ok (.iload_n 2, 1) := by decide +kernel
theorem dX6_readPass_15 : decode cX6_readPass 15 = .ok (.iaload, 1) := by decide +kernel
theorem dX6_readPass_16 : decode cX6_readPass 16 = .ok (.istore_n 3, 1) := by decide +kernel
theorem dX6_readPass_17 : decode cX6_readPass 17 = .ok (.aload_n 0, 1) := by decide +kernel
theorem dX6_readPass_18 : decode cX6_readPass 18 = .ok (.getfield 15, 3) := by decide +kernel
theorem dX6_readPass_21 : decode cX6_readPass 21 = .ok (.iload_n 1, 1) := by decide +kernel
theorem dX6_readPass_22 : decode cX6_readPass 22 = .ok (.aload_n 0, 1) := by decide +kernel
theorem dX6_readPass_23 : decode cX6_readPass 23 = .ok (.getfield 47, 3) := by decide +kernel
theorem dX6_readPass_26 : decode cX6_readPass 26 = .ok (.iload_n 3, 1) := by decide +kernel
theorem dX6_readPass_27 : decode cX6_readPass 27 = .ok (.aload_n 0, 1) := by decide +kernel
theorem dX6_readPass_28 : decode cX6_readPass 28 = .ok (.getfield 51, 3) := by decide +kernel
theorem dX6_readPass_31 : decode cX6_readPass 31 = .ok (.iload_n 2, 1) := by decide +kernel
theorem dX6_readPass_32 : decode cX6_readPass 32 = .ok (.invokevirtual 130, 3) := by decide +kernel
theorem dX6_readPass_35 : decode cX6_readPass 35 = .ok (.invokevirtual 134, 3) := by decide +kernel
theorem dX6_readPass_38 : decode cX6_readPass 38 = .ok (.iastore, 1) := by decide +kernel
theorem dX6_readPass_39 : decode cX6_readPass 39 = .ok (.aload_n 0, 1) := by decide +kernel
theorem dX6_readPass_40 : decode cX6_readPass 40 = .ok (.getfield 18, 3) := by decide +kernel
theorem dX6_readPass_43 : decode cX6_readPass 43 = .ok (.iload_n 1, 1) := by decide +kernel
theorem dX6_readPass_44 : decode cX6_readPass 44 = .ok (.aload_n 0, 1) := by decide +kernel
theorem dX6_readPass_45 : decode cX6_readPass 45 = .ok (.getfield 47, 3) := by decide +kernel
theorem dX6_readPass_48 : decode cX6_readPass 48 = .ok (.iload_n 3, 1) := by decide +kernel
theorem dX6_readPass_49 : decode cX6_readPass 49 = .ok (.aload_n 0, 1) := by decide +kernel
theorem dX6_readPass_50 : decode cX6_readPass 50 = .ok (.getfield 51, 3) := by decide +kernel
theorem dX6_readPass_53 : decode cX6_readPass 53 = .ok (.iload_n 2, 1) := by decide +kernel
theorem dX6_readPass_54 : decode cX6_readPass 54 = .ok (.invokevirtual 130, 3) := by decide +kernel
theorem dX6_readPass_57 : decode cX6_readPass 57 = .ok (.invokevirtual 138, 3) := by decide +kernel
theorem dX6_readPass_60 : decode cX6_readPass 60 = .ok (.iastore, 1) := by decide +kernel
theorem dX6_readPass_61 : decode cX6_readPass 61 = .ok (.aload_n 0, 1) := by decide +kernel
theorem dX6_readPass_62 : decode cX6_readPass 62 = .ok (.getfield 21, 3) := by decide +kernel
theorem dX6_readPass_65 : decode cX6_readPass 65 = .ok (.iload_n 1, 1) := by decide +kernel
theorem dX6_readPass_66 : decode cX6_readPass 66 = .ok (.aload_n 0, 1) := by decide +kernel
theorem dX6_readPass_67 : decode cX6_readPass 67 = .ok (.getfield 51, 3) := by decide +kernel
theorem dX6_readPass_70 : decode cX6_readPass 70 = .ok (.getfield 99, 3) := by decide +kernel
theorem dX6_readPass_73 : decode cX6_readPass 73 = .ok (.iload_n 2, 1) := by decide +kernel
theorem dX6_readPass_74 : decode cX6_readPass 74 = .ok (.iaload, 1) := by decide +kernel
theorem dX6_readPass_75 : decode cX6_readPass 75 = .ok (.aload_n 0, 1) := by decide +kernel
theorem dX6_readPass_76 : decode cX6_readPass 76 = .ok (.getfield 47, 3) := by decide +kernel
theorem dX6_readPass_79 : decode cX6_readPass 79 = .ok (.getfield 118, 3) := by decide +kernel
theorem dX6_readPass_82 : decode cX6_readPass 82 = .ok (.iload_n 3, 1) := by decide +kernel
theorem dX6_readPass_83 : decode cX6_readPass 83 = .ok (.iaload, 1) := by decide +kernel
theorem dX6_readPass_84 : decode cX6_readPass 84 = .ok (.isub, 1) := by decide +kernel
theorem dX6_readPass_85 : decode cX6_readPass 85 = .ok (.iastore, 1) := by decide +kernel
theorem dX6_readPass_86 : decode cX6_readPass 86 = .ok (.aload_n 0, 1) := by decide +kernel
theorem dX6_readPass_87 : decode cX6_readPass 87 = .ok (.getfield 24, 3) := by decide +kernel
theorem dX6_readPass_90 : decode cX6_readPass 90 = .ok (.iload_n 1, 1) := by decide +kernel
theorem dX6_readPass_91 : decode cX6_readPass 91 = .ok (.aload_n 0, 1) := by decide +kernel
theorem dX6_readPass_92 : decode cX6_readPass 92 = .ok (.getfield 51, 3) := by decide +kernel
theorem dX6_readPass_95 : decode cX6_readPass 95 = .ok (.getfield 99, 3) := by decide +kernel
theorem dX6_readPass_98 : decode cX6_readPass 98 = .ok (.iload_n 2, 1) := by decide +kernel
theorem dX6_readPass_99 : decode cX6_readPass 99 = .ok (.iaload, 1) := by decide +kernel
theorem dX6_readPass_100 : decode cX6_readPass 100 = .ok (.aload_n 0, 1) := by decide +kernel
theorem dX6_readPass_101 : decode cX6_readPass 101 = .ok (.getfield 47, 3) := by decide +kernel
theorem dX6_readPass_104 : decode cX6_readPass 104 = .ok (.getfield 118, 3) := by decide +kernel
theorem dX6_readPass_107 : decode cX6_readPass 107 = .ok (.iload_n 3, 1) := by decide +kernel
theorem dX6_readPass_108 : decode cX6_readPass 108 = .ok (.iaload, 1) := by decide +kernel
theorem dX6_readPass_109 : decode cX6_readPass 109 = .ok (.iadd, 1) := by decide +kernel
theorem dX6_readPass_110 : decode cX6_readPass 110 = .ok (.iastore, 1) := by decide +kernel
theorem dX6_readPass_111 : decode cX6_readPass 111 = .ok (.return_, 1) := by decide +kernel
theorem dX6_isInTime_0 : decode cX6_isInTime 0 = .ok (.aload_n 0, 1) := by decide +kernel
theorem dX6_isInTime_1 : decode cX6_isInTime 1 = .ok (.getfield 21, 3) := by decide +kernel
theorem dX6_isInTime_4 : decode cX6_isInTime 4 = .ok (.iload_n 1, 1) := by decide +kernel
theorem dX6_isInTime_5 : decode cX6_isInTime 5 = .ok (.iaload, 1) := by decide +kernel
theorem dX6_isInTime_6 : decode cX6_isInTime 6 = .ok (.iload_n 2, 1) := by decide +kernel
theorem dX6_isInTime_7 : decode cX6_isInTime 7 = .ok (.if_icmp .gt 17, 3) := by decide +kernel
theorem dX6_isInTime_10 : decode cX6_isInTime 10 = .ok (.iload_n 2, 1) := by decide +kernel
theorem dX6_isInTime_11 : decode cX6_isInTime 11 = .ok (.aload_n 0, 1) := by decide +kernel
theorem dX6_isInTime_12 : decode cX6_isInTime 12 = .ok (.getfield 24, 3) := by decide +kernel
theorem dX6_isInTime_15 : decode cX6_isInTime 15 = .ok (.iload_n 1, 1) := by decide +kernel
theorem dX6_isInTime_16 : decode cX6_isInTime 16 = .ok (.iaload, 1) := by decide +kernel
theorem dX6_isInTime_17 : decode cX6_isInTime 17 = .ok (.if_icmp .gt 7, 3) := by decide +kernel
theorem dX6_isInTime_20 : decode cX6_isInTime 20 = .ok (.iconst 1, 1) := by decide +kernel
theorem dX6_isInTime_21 : decode cX6_isInTime 21 = .ok (.goto 4, 3) := by decide +kernel
theorem dX6_isInTime_24 : decode cX6_isInTime 24 = .ok (.iconst 0, 1) := by decide +kernel
theorem dX6_isInTime_25 : decode cX6_isInTime 25 = .ok (.ireturn, 1) := by decide +kernel
theorem dX6_findHopeful_0 : decode cX6_findHopeful 0 = .ok (.sipush 199, 3) := by decide +kernel
theorem dX6_findHopeful_3 : decode cX6_findHopeful 3 = .ok (.istore_n 1, 1) := by decide +kernel
theorem dX6_findHopeful_4 : decode cX6_findHopeful 4 = .ok (.iconst 0, 1) := by decide +kernel
theorem dX6_findHopeful_5 : decode cX6_findHopeful 5 = .ok (.istore_n 2, 1) := by decide +kernel
theorem dX6_findHopeful_6 : decode cX6_findHopeful 6 = .ok (.iload_n 2, 1) := by decide +kernel
theorem dX6_findHopeful_7 : decode cX6_findHopeful 7 = .ok (.aload_n 0, 1) := by decide +kernel
theorem dX6_findHopeful_8 : decode cX6_findHopeful 8 = .ok (.getfield 67, 3) := by decide +kernel
theorem dX6_findHopeful_11 : decode cX6_findHopeful 11 = .ok (.if_icmp .gt 38, 3) := by decide +kernel
theorem dX6_findHopeful_14 : decode cX6_findHopeful 14 = .ok (.aload_n 0, 1) := by decide +kernel
theorem dX6_findHopeful_15 : decode cX6_findHopeful 15 = .ok (.getfield 41, 3) := by decide +kernel
theorem dX6_findHopeful_18 : decode cX6_findHopeful 18 = .ok (.iload_n 1, 1) := by decide +kernel
theorem dX6_findHopeful_19 : decode cX6_findHopeful 19 = .ok (.bipush 13, 2) := by decide +kernel
theorem dX6_findHopeful_21 : decode cX6_findHopeful 21 = .ok (.imul, 1) := by decide +kernel
theorem dX6_findHopeful_22 : decode cX6_findHopeful 22 = .ok (.iload_n 2, 1) := by decide +kernel
theorem dX6_findHopeful_23 : decode cX6_findHopeful 23 = .ok (.iadd, 1) := by decide +kernel
theorem dX6_findHopeful_24 : decode cX6_findHopeful 24 = .ok (.iload_n 2, 1) := by decide +kernel
theorem dX6_findHopeful_25 : decode cX6_findHopeful 25 = .ok (.aload_n 0, 1) := by decide +kernel
theorem dX6_findHopeful_26 : decode cX6_findHopeful 26 = .ok (.getfield 67, 3) := by decide +kernel
theorem dX6_findHopeful_29 : decode cX6_findHopeful 29 = .ok (.if_icmp .ne 12, 3) := by decide +kernel
theorem dX6_findHopeful_32 : decode cX6_findHopeful 32 = .ok (.aload_n 0, 1) := by decide +kernel
theorem dX6_findHopeful_33 : decode cX6_findHopeful 33 = .ok (.getfield 34, 3) := by decide +kernel
theorem dX6_findHopeful_36 : decode cX6_findHopeful 36 = .ok (.iload_n 1, 1) := by decide +kernel
theorem dX6_findHopeful_37 : decode cX6_findHopeful 37 = .ok (.laload, 1) := by decide +kernel
theorem dX6_findHopeful_38 : decode cX6_findHopeful 38 = .ok (.goto 4, 3) := by decide +kernel
theorem dX6_findHopeful_41 : decode cX6_findHopeful 41 = .ok (.lconst 0, 1) := by decide +kernel
theorem dX6_findHopeful_42 : decode cX6_findHopeful 42 = .ok (.lastore, 1) := by decide +kernel
theorem dX6_findHopeful_43 : decode cX6_findHopeful 43 = .ok (.iinc 2 1, 3) := by decide +kernel
theorem dX6_findHopeful_46 : decode cX6_findHopeful 46 = .ok (.goto (-40), 3) := by decide +kernel
theorem dX6_findHopeful_49 : decode cX6_findHopeful 49 = .ok (.iload_n 1, 1) := by decide +kernel
theorem dX6_findHopeful_50 : decode cX6_findHopeful 50 = .ok (.istore_n 2, 1) := by decide +kernel
theorem dX6_findHopeful_51 : decode cX6_findHopeful 51 = .ok (.iload_n 2, 1) := by decide +kernel
theorem dX6_findHopeful_52 : decode cX6_findHopeful 52 = .ok (.ifCond .le 53, 3) := by decide +kernel
theorem dX6_findHopeful_55 : decode cX6_findHopeful 55 = .ok (.iconst 0, 1) := by decide +kernel
theorem dX6_findHopeful_56 : decode cX6_findHopeful 56 = .ok (.istore_n 3, 1) := by decide +kernel
theorem dX6_findHopeful_57 : decode cX6_findHopeful 57 = .ok (.iload_n 3, 1) := by decide +kernel
theorem dX6_findHopeful_58 : decode cX6_findHopeful 58 = .ok (.aload_n 0, 1) := by decide +kernel
theorem dX6_findHopeful_59 : decode cX6_findHopeful 59 = .ok (.getfield 67, 3) := by decide +kernel
theorem dX6_findHopeful_62 : decode cX6_findHopeful 62 = .ok (.if_icmp .gt 37, 3) := by decide +kernel
theorem dX6_findHopeful_65 : decode cX6_findHopeful 65 = .ok (.aload_n 0, 1) := by decide +kernel
theorem dX6_findHopeful_66 : decode cX6_findHopeful 66 = .ok (.getfield 41, 3) := by decide +kernel
theorem dX6_findHopeful_69 : decode cX6_findHopeful 69 = .ok (.iload_n 2, 1) := by decide +kernel
theorem dX6_findHopeful_70 : decode cX6_findHopeful 70 = .ok (.iconst 1, 1) := by decide +kernel
theorem dX6_findHopeful_71 : decode cX6_findHopeful 71 = .ok (.isub, 1) := by decide +kernel
theorem dX6_findHopeful_72 : decode cX6_findHopeful 72 = .ok (.bipush 13, 2) := by decide +kernel
theorem dX6_findHopeful_74 : decode cX6_findHopeful 74 = .ok (.imul, 1) := by decide +kernel
theorem dX6_findHopeful_75 : decode cX6_findHopeful 75 = .ok (.iload_n 3, 1) := by decide +kernel
theorem dX6_findHopeful_76 : decode cX6_findHopeful 76 = .ok (.iadd, 1) := by decide +kernel
theorem dX6_findHopeful_77 : decode cX6_findHopeful 77 = .ok (.aload_n 0, 1) := by decide +kernel
theorem dX6_findHopeful_78 : decode cX6_findHopeful 78 = .ok (.iload_n 2, 1) := by decide +kernel
theorem dX6_findHopeful_79 : decode cX6_findHopeful 79 = .ok (.iload_n 3, 1) := by decide +kernel
theorem dX6_findHopeful_80 : decode cX6_findHopeful 80 = .ok (.invokevirtual 141, 3) := by decide +kernel
theorem dX6_findHopeful_83 : decode cX6_findHopeful 83 = .ok (.aload_n 0, 1) := by decide +kernel
theorem dX6_findHopeful_84 : decode cX6_findHopeful 84 = .ok (.getfield 34, 3) := by decide +kernel
theorem dX6_findHopeful_87 : decode cX6_findHopeful 87 = .ok (.iload_n 2, 1) := by decide +kernel
theorem dX6_findHopeful_88 : decode cX6_findHopeful 88 = .ok (.iconst 1, 1) := by decide +kernel
theorem dX6_findHopeful_89 : decode cX6_findHopeful 89 = .ok (.isub, 1) := by decide +kernel
theorem dX6_findHopeful_90 : decode cX6_findHopeful 90 = .ok (.laload, 1) := by decide +kernel
theorem dX6_findHopeful_91 : decode cX6_findHopeful 91 = .ok (.land, 1) := by decide +kernel
theorem dX6_findHopeful_92 : decode cX6_findHopeful 92 = .ok (.lastore, 1) := by decide +kernel
theorem dX6_findHopeful_93 : decode cX6_findHopeful 93 = .ok (.iinc 3 1, 3) := by decide +kernel
theorem dX6_findHopeful_96 : decode cX6_findHopeful 96 = .ok (.goto (-39), 3) := by decide +kernel
theorem dX6_findHopeful_99 : decode cX6_findHopeful 99 = .ok (.iinc 2 (-1), 3) := by decide +kernel
theorem dX6_findHopeful_102 : decode cX6_findHopeful 102 = .ok (.goto (-51), 3) := by decide +kernel
theorem dX6_findHopeful_105 : decode cX6_findHopeful 105 = .ok (.return_, 1) := by decide +kernel
theorem dX6_hopefulAhead_0 : decode cX6_hopefulAhead 0 = .ok (.aload_n 0, 1) := by decide +kernel
theorem dX6_hopefulAhead_1 : decode cX6_hopefulAhead 1 = .ok (.getfield 41, 3) := by decide +kernel
theorem dX6_hopefulAhead_4 : decode cX6_hopefulAhead 4 = .ok (.iload_n 1, 1) := by decide +kernel
theorem dX6_hopefulAhead_5 : decode cX6_hopefulAhead 5 = .ok (.bipush 13, 2) := by decide +kernel
theorem dX6_hopefulAhead_7 : decode cX6_hopefulAhead 7 = .ok (.imul, 1) := by decide +kernel
theorem dX6_hopefulAhead_8 : decode cX6_hopefulAhead 8 = .ok (.iload_n 2, 1) := by decide +kernel
theorem dX6_hopefulAhead_9 : decode cX6_hopefulAhead 9 = .ok (.iadd, 1) := by decide +kernel
theorem dX6_hopefulAhead_10 : decode cX6_hopefulAhead 10 = .ok (.laload, 1) := by decide +kernel
theorem dX6_hopefulAhead_11 : decode cX6_hopefulAhead 11 = .ok (.lstore_n 3, 1) := by decide +kernel
theorem dX6_hopefulAhead_12 : decode cX6_hopefulAhead 12 = .ok (.lconst 0, 1) := by decide +kernel
theorem dX6_hopefulAhead_13 : decode cX6_hopefulAhead 13 = .ok (.lstore 5, 2) := by decide +kernel
theorem dX6_hopefulAhead_15 : decode cX6_hopefulAhead 15 = .ok (.lload_n 3, 1) := by decide +kernel
theorem dX6_hopefulAhead_16 : decode cX6_hopefulAhead 16 = .ok (.lconst 0, 1) := by decide +kernel
theorem dX6_hopefulAhead_17 : decode cX6_hopefulAhead 17 = .ok (.lcmp, 1) := by decide +kernel
theorem dX6_hopefulAhead_18 : decode cX6_hopefulAhead 18 = .ok (.ifCond .eq 44, 3) := by decide +kernel
theorem dX6_hopefulAhead_21 : decode cX6_hopefulAhead 21 = .ok (.lload_n 3, 1) := by decide +kernel
theorem dX6_hopefulAhead_22 : decode cX6_hopefulAhead 22 = .ok (.bipush 8, 2) := by decide +kernel
theorem dX6_hopefulAhead_24 : decode cX6_hopefulAhead 24 = .ok (.lshl, 1) := by decide +kernel
theorem dX6_hopefulAhead_25 : decode cX6_hopefulAhead 25 = .ok (.ldc2_w 82, 3) := by decide +kernel
theorem dX6_hopefulAhead_28 : decode cX6_hopefulAhead 28 = .ok (.land, 1) := by decide +kernel
theorem dX6_hopefulAhead_29 : decode cX6_hopefulAhead 29 = .ok (.lload_n 3, 1) := by decide +kernel
theorem dX6_hopefulAhead_30 : decode cX6_hopefulAhead 30 = .ok (.ldc2_w 145, 3) := by decide +kernel
theorem dX6_hopefulAhead_33 : decode cX6_hopefulAhead 33 = .ok (.land, 1) := by decide +kernel
theorem dX6_hopefulAhead_34 : decode cX6_hopefulAhead 34 = .ok (.lor, 1) := by decide +kernel
theorem dX6_hopefulAhead_35 : decode cX6_hopefulAhead 35 = .ok (.lstore 5, 2) := by decide +kernel
theorem dX6_hopefulAhead_37 : decode cX6_hopefulAhead 37 = .ok (.aload_n 0, 1) := by decide +kernel
theorem dX6_hopefulAhead_38 : decode cX6_hopefulAhead 38 = .ok (.getfield 31, 3) := by decide +kernel
theorem dX6_hopefulAhead_41 : decode cX6_hopefulAhead 41 = .ok (.iload_n 1, 1) := by decide +kernel
theorem dX6_hopefulAhead_42 : decode cX6_hopefulAhead 42 = .ok (.iaload, 1) := by decide +kernel
theorem dX6_hopefulAhead_43 : decode cX6_hopefulAhead 43 = .ok (.ifCond .eq 19, 3) := by decide +kernel
theorem dX6_hopefulAhead_46 : decode cX6_hopefulAhead 46 = .ok (.lload 5, 2) := by decide +kernel
theorem dX6_hopefulAhead_48 : decode cX6_hopefulAhead 48 = .ok (.aload_n 0, 1) := by decide +kernel
theorem dX6_hopefulAhead_49 : decode cX6_hopefulAhead 49 = .ok (.lload_n 3, 1) := by decide +kernel
theorem dX6_hopefulAhead_50 : decode cX6_hopefulAhead 50 = .ok (.aload_n 0, 1) := by decide +kernel
theorem dX6_hopefulAhead_51 : decode cX6_hopefulAhead 51 = .ok (.getfield 31, 3) := by decide +kernel
theorem dX6_hopefulAhead_54 : decode cX6_hopefulAhead 54 = .ok (.iload_n 1, 1) := by decide +kernel
theorem dX6_hopefulAhead_55 : decode cX6_hopefulAhead 55 = .ok (.iaload, 1) := by decide +kernel
theorem dX6_hopefulAhead_56 : decode cX6_hopefulAhead 56 = .ok (.invokevirtual 147, 3) := by decide +kernel
theorem dX6_hopefulAhead_59 : decode cX6_hopefulAhead 59 = .ok (.lor, 1) := by decide +kernel
theorem dX6_hopefulAhead_60 : decode cX6_hopefulAhead 60 = .ok (.lstore 5, 2) := by decide +kernel
theorem dX6_hopefulAhead_62 : decode cX6_hopefulAhead 62 = .ok (.iload_n 2, 1) := by decide +kernel
theorem dX6_hopefulAhead_63 : decode cX6_hopefulAhead 63 = .ok (.aload_n 0, 1) := by decide +kernel
theorem dX6_hopefulAhead_64 : decode cX6_hopefulAhead 64 = .ok (.getfield 67, 3) := by decide +kernel
theorem dX6_hopefulAhead_67 : decode cX6_hopefulAhead 67 = .ok (.if_icmp .ge 55, 3) := by decide +kernel
theorem dX6_hopefulAhead_70 : decode cX6_hopefulAhead 70 = .ok (.aload_n 0, 1) := by decide +kernel
theorem dX6_hopefulAhead_71 : decode cX6_hopefulAhead 71 = .ok (.iload_n 2, 1) := by decide +kernel
theorem dX6_hopefulAhead_72 : decode cX6_hopefulAhead 72 = .ok (.iload_n 1, 1) := by decide +kernel
theorem dX6_hopefulAhead_73 : decode cX6_hopefulAhead 73 = .ok (.invokevirtual 151, 3) := by decide +kernel
theorem dX6_hopefulAhead_76 : decode cX6_hopefulAhead 76 = .ok (.ifCond .eq 46, 3) := by decide +kernel
theorem dX6_hopefulAhead_79 : decode cX6_hopefulAhead 79 = .ok (.aload_n 0, 1) := by decide +kernel
theorem dX6_hopefulAhead_80 : decode cX6_hopefulAhead 80 = .ok (.getfield 41, 3) := by decide +kernel
theorem dX6_hopefulAhead_83 : decode cX6_hopefulAhead 83 = .ok (.iload_n 1, 1) := by decide +kernel
theorem dX6_hopefulAhead_84 : decode cX6_hopefulAhead 84 = .ok (.bipush 13, 2) := by decide +kernel
theorem dX6_hopefulAhead_86 : decode cX6_hopefulAhead 86 = .ok (.imul, 1) := by decide +kernel
theorem dX6_hopefulAhead_87 : decode cX6_hopefulAhead 87 = .ok (.iload_n 2, 1) := by decide +kernel
theorem dX6_hopefulAhead_88 : decode cX6_hopefulAhead 88 = .ok (.iadd, 1) := by decide +kernel
theorem dX6_hopefulAhead_89 : decode cX6_hopefulAhead 89 = .ok (.iconst 1, 1) := by decide +kernel
theorem dX6_hopefulAhead_90 : decode cX6_hopefulAhead 90 = .ok (.iadd, 1) := by decide +kernel
theorem dX6_hopefulAhead_91 : decode cX6_hopefulAhead 91 = .ok (.laload, 1) := by decide +kernel
theorem dX6_hopefulAhead_92 : decode cX6_hopefulAhead 92 = .ok (.aload_n 0, 1) := by decide +kernel
theorem dX6_hopefulAhead_93 : decode cX6_hopefulAhead 93 = .ok (.getfield 38, 3) := by decide +kernel
theorem dX6_hopefulAhead_96 : decode cX6_hopefulAhead 96 = .ok (.aload_n 0, 1) := by decide +kernel
theorem dX6_hopefulAhead_97 : decode cX6_hopefulAhead 97 = .ok (.getfield 18, 3) := by decide +kernel
theorem dX6_hopefulAhead_100 : decode cX6_hopefulAhead 100 = .ok (.iload_n 2, 1) := by decide +kernel
theorem dX6_hopefulAhead_101 : decode cX6_hopefulAhead 101 = .ok (.iaload, 1) := by decide +kernel
theorem dX6_hopefulAhead_102 : decode cX6_hopefulAhead 102 = .ok (.laload, 1) := by decide +kernel
theorem dX6_hopefulAhead_103 : decode cX6_hopefulAhead 103 = .ok (.land, 1) := by decide +kernel
theorem dX6_hopefulAhead_104 : decode cX6_hopefulAhead 104 = .ok (.lconst 0, 1) := by decide +kernel
theorem dX6_hopefulAhead_105 : decode cX6_hopefulAhead 105 = .ok (.lcmp, 1) := by decide +kernel
theorem dX6_hopefulAhead_106 : decode cX6_hopefulAhead 106 = .ok (.ifCond .eq 16, 3) := by decide +kernel
theorem dX6_hopefulAhead_109 : decode cX6_hopefulAhead 109 = .ok (.lload 5, 2) := by decide +kernel
theorem dX6_hopefulAhead_111 : decode cX6_hopefulAhead 111 = .ok (.lconst 1, 1) := by decide +kernel
theorem dX6_hopefulAhead_112 : decode cX6_hopefulAhead 112 = .ok (.aload_n 0, 1) := by decide +kernel
theorem dX6_hopefulAhead_113 : decode cX6_hopefulAhead 113 = .ok (.getfield 15, 3) := by decide +kernel
theorem dX6_hopefulAhead_116 : decode cX6_hopefulAhead 116 = .ok (.iload_n 2, 1) := by decide +kernel
theorem dX6_hopefulAhead_117 : decode cX6_hopefulAhead 117 = .ok (.iaload, 1) := by decide +kernel
theorem dX6_hopefulAhead_118 : decode cX6_hopefulAhead 118 = .ok (.lshl, 1) := by decide +kernel
theorem dX6_hopefulAhead_119 : decode cX6_hopefulAhead 119 = .ok (.lor, 1) := by decide +kernel
theorem dX6_hopefulAhead_120 : decode cX6_hopefulAhead 120 = .ok (.lstore 5, 2) := by decide +kernel
theorem dX6_hopefulAhead_122 : decode cX6_hopefulAhead 122 = .ok (.lload 5, 2) := by decide +kernel
theorem dX6_hopefulAhead_124 : decode cX6_hopefulAhead 124 = .ok (.lreturn, 1) := by decide +kernel
theorem dX6_freeInto_0 : decode cX6_freeInto 0 = .ok (.lconst 0, 1) := by decide +kernel
theorem dX6_freeInto_1 : decode cX6_freeInto 1 = .ok (.lstore 4, 2) := by decide +kernel
theorem dX6_freeInto_3 : decode cX6_freeInto 3 = .ok (.iconst 0, 1) := by decide +kernel
theorem dX6_freeInto_4 : decode cX6_freeInto 4 = .ok (.istore 6, 2) := by decide +kernel
theorem dX6_freeInto_6 : decode cX6_freeInto 6 = .ok (.iload 6, 2) := by decide +kernel
theorem dX6_freeInto_8 : decode cX6_freeInto 8 = .ok (.aload_n 0, 1) := by decide +kernel
theorem dX6_freeInto_9 : decode cX6_freeInto 9 = .ok (.getfield 47, 3) := by decide +kernel
theorem dX6_freeInto_12 : decode cX6_freeInto 12 = .ok (.getfield 154, 3) := by decide +kernel
theorem dX6_freeInto_15 : decode cX6_freeInto 15 = .ok (.if_icmp .ge 88, 3) := by decide +kernel
theorem dX6_freeInto_18 : decode cX6_freeInto 18 = .ok (.iload_n 3, 1) := by decide +kernel
theorem dX6_freeInto_19 : decode cX6_freeInto 19 = .ok (.iload 6, 2) := by decide +kernel
theorem dX6_freeInto_21 : decode cX6_freeInto 21 = .ok (.iushr, 1) := by decide +kernel
theorem dX6_freeInto_22 : decode cX6_freeInto 22 = .ok (.iconst 1, 1) := by decide +kernel
theorem dX6_freeInto_23 : decode cX6_freeInto 23 = .ok (.iand, 1) := by decide +kernel
theorem dX6_freeInto_24 : decode cX6_freeInto 24 = .ok (.ifCond .eq 73, 3) := by decide +kernel
theorem dX6_freeInto_27 : decode cX6_freeInto 27 = .ok (.aload_n 0, 1) := by decide +kernel
theorem dX6_freeInto_28 : decode cX6_freeInto 28 = .ok (.getfield 47, 3) := by decide +kernel
theorem dX6_freeInto_31 : decode cX6_freeInto 31 = .ok (.getfield 157, 3) := by decide +kernel
theorem dX6_freeInto_34 : decode cX6_freeInto 34 = .ok (.iload 6, 2) := by decide +kernel
theorem dX6_freeInto_36 : decode cX6_freeInto 36 = .ok (.iaload, 1) := by decide +kernel
theorem dX6_freeInto_37 : decode cX6_freeInto 37 = .ok (.istore 7, 2) := by decide +kernel
theorem dX6_freeInto_39 : decode cX6_freeInto 39 = .ok (.aload_n 0, 1) := by decide +kernel
theorem dX6_freeInto_40 : decode cX6_freeInto 40 = .ok (.getfield 47, 3) := by decide +kernel
theorem dX6_freeInto_43 : decode cX6_freeInto 43 = .ok (.getfield 160, 3) := by decide +kernel
theorem dX6_freeInto_46 : decode cX6_freeInto 46 = .ok (.iload 6, 2) := by decide +kernel
theorem dX6_freeInto_48 : decode cX6_freeInto 48 = .ok (.iaload, 1) := by decide +kernel
theorem dX6_freeInto_49 : decode cX6_freeInto 49 = .ok (.istore 8, 2) := by decide +kernel
theorem dX6_freeInto_51 : decode cX6_freeInto 51 = .ok (.lload_n 1, 1) := by decide +kernel
theorem dX6_freeInto_52 : decode cX6_freeInto 52 = .ok (.aload_n 0, 1) := by decide +kernel
theorem dX6_freeInto_53 : decode cX6_freeInto 53 = .ok (.getfield 38, 3) := by decide +kernel
theorem dX6_freeInto_56 : decode cX6_freeInto 56 = .ok (.iload 8, 2) := by decide +kernel
theorem dX6_freeInto_58 : decode cX6_freeInto 58 = .ok (.laload, 1) := by decide +kernel
theorem dX6_freeInto_59 : decode cX6_freeInto 59 = .ok (.land, 1) := by decide +kernel
theorem dX6_freeInto_60 : decode cX6_freeInto 60 = .ok (.lconst 0, 1) := by decide +kernel
theorem dX6_freeInto_61 : decode cX6_freeInto 61 = .ok (.lcmp, 1) := by decide +kernel
theorem dX6_freeInto_62 : decode cX6_freeInto 62 = .ok (.ifCond .eq 12, 3) := by decide +kernel
theorem dX6_freeInto_65 : decode cX6_freeInto 65 = .ok (.lload 4, 2) := by decide +kernel
theorem dX6_freeInto_67 : decode cX6_freeInto 67 = .ok (.lconst 1, 1) := by decide +kernel
theorem dX6_freeInto_68 : decode cX6_freeInto 68 = .ok (.iload 7, 2) := by decide +kernel
theorem dX6_freeInto_70 : decode cX6_freeInto 70 = .ok (.lshl, 1) := by decide +kernel
theorem dX6_freeInto_71 : decode cX6_freeInto 71 = .ok (.lor, 1) := by decide +kernel
theorem dX6_freeInto_72 : decode cX6_freeInto 72 = .ok (.lstore 4, 2) := by decide +kernel
theorem dX6_freeInto_74 : decode cX6_freeInto 74 = .ok (.lload_n 1, 1) := by decide +kernel
theorem dX6_freeInto_75 : decode cX6_freeInto 75 = .ok (.aload_n 0, 1) := by decide +kernel
theorem dX6_freeInto_76 : decode cX6_freeInto 76 = .ok (.getfield 38, 3) := by decide +kernel
theorem dX6_freeInto_79 : decode cX6_freeInto 79 = .ok (.iload 7, 2) := by decide +kernel
theorem dX6_freeInto_81 : decode cX6_freeInto 81 = .ok (.laload, 1) := by decide +kernel
theorem dX6_freeInto_82 : decode cX6_freeInto 82 = .ok (.land, 1) := by decide +kernel
theorem dX6_freeInto_83 : decode cX6_freeInto 83 = .ok (.lconst 0, 1) := by decide +kernel
theorem dX6_freeInto_84 : decode cX6_freeInto 84 = .ok (.lcmp, 1) := by decide +kernel
theorem dX6_freeInto_85 : decode cX6_freeInto 85 = .ok (.ifCond .eq 12, 3) := by decide +kernel
theorem dX6_freeInto_88 : decode cX6_freeInto 88 = .ok (.lload 4, 2) := by decide +kernel
theorem dX6_freeInto_90 : decode cX6_freeInto 90 = .ok (.lconst 1, 1) := by decide +kernel
theorem dX6_freeInto_91 : decode cX6_freeInto 91 = .ok (.iload 8, 2) := by decide +kernel
theorem dX6_freeInto_93 : decode cX6_freeInto 93 = .ok (.lshl, 1) := by decide +kernel
theorem dX6_freeInto_94 : decode cX6_freeInto 94 = .ok (.lor, 1) := by decide +kernel
theorem dX6_freeInto_95 : decode cX6_freeInto 95 = .ok (.lstore 4, 2) := by decide +kernel
theorem dX6_freeInto_97 : decode cX6_freeInto 97 = .ok (.iinc 6 1, 3) := by decide +kernel
theorem dX6_freeInto_100 : decode cX6_freeInto 100 = .ok (.goto (-94), 3) := by decide +kernel
theorem dX6_freeInto_103 : decode cX6_freeInto 103 = .ok (.lload 4, 2) := by decide +kernel
theorem dX6_freeInto_105 : decode cX6_freeInto 105 = .ok (.lreturn, 1) := by decide +kernel
theorem dX6_startOutside_0 : decode cX6_startOutside 0 = .ok (.aload_n 0, 1) := by decide +kernel
theorem dX6_startOutside_1 : decode cX6_startOutside 1 = .ok (.getfield 44, 3) := by decide +kernel
theorem dX6_startOutside_4 : decode cX6_startOutside 4 = .ok (.lconst 0, 1) := by decide +kernel
theorem dX6_startOutside_5 : decode cX6_startOutside 5 = .ok (.invokestatic 84, 3) := by decide +kernel
theorem dX6_startOutside_8 : decode cX6_startOutside 8 = .ok (.aload_n 0, 1) := by decide +kernel
theorem dX6_startOutside_9 : decode cX6_startOutside 9 = .ok (.getfield 44, 3) := by decide +kernel
theorem dX6_startOutside_12 : decode cX6_startOutside 12 = .ok (.iconst 0, 1) := by decide +kernel
theorem dX6_startOutside_13 : decode cX6_startOutside 13 = .ok (.lconst 1, 1) := by decide +kernel
theorem dX6_startOutside_14 : decode cX6_startOutside 14 = .ok (.lastore, 1) := by decide +kernel
theorem dX6_startOutside_15 : decode cX6_startOutside 15 = .ok (.return_, 1) := by decide +kernel
theorem dX6_goOn_0 : decode cX6_goOn 0 = .ok (.aload_n 0, 1) := by decide +kernel
theorem dX6_goOn_1 : decode cX6_goOn 1 = .ok (.getfield 67, 3) := by decide +kernel
theorem dX6_goOn_4 : decode cX6_goOn 4 = .ok (.istore_n 2, 1) := by decide +kernel
theorem dX6_goOn_5 : decode cX6_goOn 5 = .ok (.iload_n 2, 1) := by decide +kernel
theorem dX6_goOn_6 : decode cX6_goOn 6 = .ok (.ifCond .lt 134, 3) := by decide +kernel
theorem dX6_goOn_9 : decode cX6_goOn 9 = .ok (.aload_n 0, 1) := by decide +kernel
theorem dX6_goOn_10 : decode cX6_goOn 10 = .ok (.getfield 44, 3) := by decide +kernel
theorem dX6_goOn_13 : decode cX6_goOn 13 = .ok (.iload_n 2, 1) := by decide +kernel
theorem dX6_goOn_14 : decode cX6_goOn 14 = .ok (.laload, 1) := by decide +kernel
theorem dX6_goOn_15 : decode cX6_goOn 15 = .ok (.lstore_n 3, 1) := by decide +kernel
theorem dX6_goOn_16 : decode cX6_goOn 16 = .ok (.lconst 0, 1) := by decide +kernel
theorem dX6_goOn_17 : decode cX6_goOn 17 = .ok (.lstore 5, 2) := by decide +kernel
theorem dX6_goOn_19 : decode cX6_goOn 19 = .ok (.lload_n 3, 1) := by decide +kernel
theorem dX6_goOn_20 : decode cX6_goOn 20 = .ok (.lconst 0, 1) := by decide +kernel
theorem dX6_goOn_21 : decode cX6_goOn 21 = .ok (.lcmp, 1) := by decide +kernel
theorem dX6_goOn_22 : decode cX6_goOn 22 = .ok (.ifCond .eq 40, 3) := by decide +kernel
theorem dX6_goOn_25 : decode cX6_goOn 25 = .ok (.lload_n 3, 1) := by decide +kernel
theorem dX6_goOn_26 : decode cX6_goOn 26 = .ok (.bipush 8, 2) := by decide +kernel
theorem dX6_goOn_28 : decode cX6_goOn 28 = .ok (.lushr, 1) := by decide +kernel
theorem dX6_goOn_29 : decode cX6_goOn 29 = .ok (.lload_n 3, 1) := by decide +kernel
theorem dX6_goOn_30 : decode cX6_goOn 30 = .ok (.ldc2_w 145, 3) := by decide +kernel
theorem dX6_goOn_33 : decode cX6_goOn 33 = .ok (.land, 1) := by decide +kernel
theorem dX6_goOn_34 : decode cX6_goOn 34 = .ok (.lor, 1) := by decide +kernel
theorem dX6_goOn_35 : decode cX6_goOn 35 = .ok (.lstore 5, 2) := by decide +kernel
theorem dX6_goOn_37 : decode cX6_goOn 37 = .ok (.aload_n 0, 1) := by decide +kernel
theorem dX6_goOn_38 : decode cX6_goOn 38 = .ok (.getfield 31, 3) := by decide +kernel
theorem dX6_goOn_41 : decode cX6_goOn 41 = .ok (.iload_n 1, 1) := by decide +kernel
theorem dX6_goOn_42 : decode cX6_goOn 42 = .ok (.iaload, 1) := by decide +kernel
theorem dX6_goOn_43 : decode cX6_goOn 43 = .ok (.ifCond .eq 19, 3) := by decide +kernel
theorem dX6_goOn_46 : decode cX6_goOn 46 = .ok (.lload 5, 2) := by decide +kernel
theorem dX6_goOn_48 : decode cX6_goOn 48 = .ok (.aload_n 0, 1) := by decide +kernel
theorem dX6_goOn_49 : decode cX6_goOn 49 = .ok (.lload_n 3, 1) := by decide +kernel
theorem dX6_goOn_50 : decode cX6_goOn 50 = .ok (.aload_n 0, 1) := by decide +kernel
theorem dX6_goOn_51 : decode cX6_goOn 51 = .ok (.getfield 31, 3) := by decide +kernel
theorem dX6_goOn_54 : decode cX6_goOn 54 = .ok (.iload_n 1, 1) := by decide +kernel
theorem dX6_goOn_55 : decode cX6_goOn 55 = .ok (.iaload, 1) := by decide +kernel
theorem dX6_goOn_56 : decode cX6_goOn 56 = .ok (.invokevirtual 163, 3) := by decide +kernel
theorem dX6_goOn_59 : decode cX6_goOn 59 = .ok (.lor, 1) := by decide +kernel
theorem dX6_goOn_60 : decode cX6_goOn 60 = .ok (.lstore 5, 2) := by decide +kernel
theorem dX6_goOn_62 : decode cX6_goOn 62 = .ok (.iload_n 2, 1) := by decide +kernel
theorem dX6_goOn_63 : decode cX6_goOn 63 = .ok (.ifCond .le 56, 3) := by decide +kernel
theorem dX6_goOn_66 : decode cX6_goOn 66 = .ok (.aload_n 0, 1) := by decide +kernel
theorem dX6_goOn_67 : decode cX6_goOn 67 = .ok (.iload_n 2, 1) := by decide +kernel
theorem dX6_goOn_68 : decode cX6_goOn 68 = .ok (.iconst 1, 1) := by decide +kernel
theorem dX6_goOn_69 : decode cX6_goOn 69 = .ok (.isub, 1) := by decide +kernel
theorem dX6_goOn_70 : decode cX6_goOn 70 = .ok (.iload_n 1, 1) := by decide +kernel
theorem dX6_goOn_71 : decode cX6_goOn 71 = .ok (.invokevirtual 151, 3) := by decide +kernel
theorem dX6_goOn_74 : decode cX6_goOn 74 = .ok (.ifCond .eq 45, 3) := by decide +kernel
theorem dX6_goOn_77 : decode cX6_goOn 77 = .ok (.aload_n 0, 1) := by decide +kernel
theorem dX6_goOn_78 : decode cX6_goOn 78 = .ok (.getfield 44, 3) := by decide +kernel
theorem dX6_goOn_81 : decode cX6_goOn 81 = .ok (.iload_n 2, 1) := by decide +kernel
theorem dX6_goOn_82 : decode cX6_goOn 82 = .ok (.iconst 1, 1) := by decide +kernel
theorem dX6_goOn_83 : decode cX6_goOn 83 = .ok (.isub, 1) := by decide +kernel
theorem dX6_goOn_84 : decode cX6_goOn 84 = .ok (.laload, 1) := by decide +kernel
theorem dX6_goOn_85 : decode cX6_goOn 85 = .ok (.aload_n 0, 1) := by decide +kernel
theorem dX6_goOn_86 : decode cX6_goOn 86 = .ok (.getfield 15, 3) := by decide +kernel
theorem dX6_goOn_89 : decode cX6_goOn 89 = .ok (.iload_n 2, 1) := by decide +kernel
theorem dX6_goOn_90 : decode cX6_goOn 90 = .ok (.iconst 1, 1) := by decide +kernel
theorem dX6_goOn_91 : decode cX6_goOn 91 = .ok (.isub, 1) := by decide +kernel
theorem dX6_goOn_92 : decode cX6_goOn 92 = .ok (.iaload, 1) := by decide +kernel
theorem dX6_goOn_93 : decode cX6_goOn 93 = .ok (.lushr, 1) := by decide +kernel
theorem dX6_goOn_94 : decode cX6_goOn 94 = .ok (.lconst 1, 1) := by decide +kernel
theorem dX6_goOn_95 : decode cX6_goOn 95 = .ok (.land, 1) := by decide +kernel
theorem dX6_goOn_96 : decode cX6_goOn 96 = .ok (.lconst 0, 1) := by decide +kernel
theorem dX6_goOn_97 : decode cX6_goOn 97 = .ok (.lcmp, 1) := by decide +kernel
theorem dX6_goOn_98 : decode cX6_goOn 98 = .ok (.ifCond .eq 21, 3) := by decide +kernel
theorem dX6_goOn_101 : decode cX6_goOn 101 = .ok (.lload 5, 2) := by decide +kernel
theorem dX6_goOn_103 : decode cX6_goOn 103 = .ok (.aload_n 0, 1) := by decide +kernel
theorem dX6_goOn_104 : decode cX6_goOn 104 = .ok (.getfield 38, 3) := by decide +kernel
theorem dX6_goOn_107 : decode cX6_goOn 107 = .ok (.aload_n 0, 1) := by decide +kernel
theorem dX6_goOn_108 : decode cX6_goOn 108 = .ok (.getfield 18, 3) := by decide +kernel
theorem dX6_goOn_111 : decode cX6_goOn 111 = .ok (.iload_n 2, 1) := by decide +kernel
theorem dX6_goOn_112 : decode cX6_goOn 112 = .ok (.iconst 1, 1) := by decide +kernel
theorem dX6_goOn_113 : decode cX6_goOn 113 = .ok (.isub, 1) := by decide +kernel
theorem dX6_goOn_114 : decode cX6_goOn 114 = .ok (.iaload, 1) := by decide +kernel
theorem dX6_goOn_115 : decode cX6_goOn 115 = .ok (.laload, 1) := by decide +kernel
theorem dX6_goOn_116 : decode cX6_goOn 116 = .ok (.lor, 1) := by decide +kernel
theorem dX6_goOn_117 : decode cX6_goOn 117 = .ok (.lstore 5, 2) := by decide +kernel
theorem dX6_goOn_119 : decode cX6_goOn 119 = .ok (.aload_n 0, 1) := by decide +kernel
theorem dX6_goOn_120 : decode cX6_goOn 120 = .ok (.getfield 44, 3) := by decide +kernel
theorem dX6_goOn_123 : decode cX6_goOn 123 = .ok (.iload_n 2, 1) := by decide +kernel
theorem dX6_goOn_124 : decode cX6_goOn 124 = .ok (.lload 5, 2) := by decide +kernel
theorem dX6_goOn_126 : decode cX6_goOn 126 = .ok (.aload_n 0, 1) := by decide +kernel
theorem dX6_goOn_127 : decode cX6_goOn 127 = .ok (.getfield 34, 3) := by decide +kernel
theorem dX6_goOn_130 : decode cX6_goOn 130 = .ok (.iload_n 1, 1) := by decide +kernel
theorem dX6_goOn_131 : decode cX6_goOn 131 = .ok (.laload, 1) := by decide +kernel
theorem dX6_goOn_132 : decode cX6_goOn 132 = .ok (.land, 1) := by decide +kernel
theorem dX6_goOn_133 : decode cX6_goOn 133 = .ok (.lastore, 1) := by decide +kernel
theorem dX6_goOn_134 : decode cX6_goOn 134 = .ok (.iinc 2 (-1), 3) := by decide +kernel
theorem dX6_goOn_137 : decode cX6_goOn 137 = .ok (.goto (-132), 3) := by decide +kernel
theorem dX6_goOn_140 : decode cX6_goOn 140 = .ok (.return_, 1) := by decide +kernel
theorem dX6_freeOutOf_0 : decode cX6_freeOutOf 0 = .ok (.lconst 0, 1) := by decide +kernel
theorem dX6_freeOutOf_1 : decode cX6_freeOutOf 1 = .ok (.lstore 4, 2) := by decide +kernel
theorem dX6_freeOutOf_3 : decode cX6_freeOutOf 3 = .ok (.iconst 0, 1) := by decide +kernel
theorem dX6_freeOutOf_4 : decode cX6_freeOutOf 4 = .ok (.istore 6, 2) := by decide +kernel
theorem dX6_freeOutOf_6 : decode cX6_freeOutOf 6 = .ok (.iload 6, 2) := by decide +kernel
theorem dX6_freeOutOf_8 : decode cX6_freeOutOf 8 = .ok (.aload_n 0, 1) := by decide +kernel
theorem dX6_freeOutOf_9 : decode cX6_freeOutOf 9 = .ok (.getfield 47, 3) := by decide +kernel
theorem dX6_freeOutOf_12 : decode cX6_freeOutOf 12 = .ok (.getfield 154, 3) := by decide +kernel
theorem dX6_freeOutOf_15 : decode cX6_freeOutOf 15 = .ok (.if_icmp .ge 88, 3) := by decide +kernel
theorem dX6_freeOutOf_18 : decode cX6_freeOutOf 18 = .ok (.iload_n 3, 1) := by decide +kernel
theorem dX6_freeOutOf_19 : decode cX6_freeOutOf 19 = .ok (.iload 6, 2) := by decide +kernel
theorem dX6_freeOutOf_21 : decode cX6_freeOutOf 21 = .ok (.iushr, 1) := by decide +kernel
theorem dX6_freeOutOf_22 : decode cX6_freeOutOf 22 = .ok (.iconst 1, 1) := by decide +kernel
theorem dX6_freeOutOf_23 : decode cX6_freeOutOf 23 = .ok (.iand, 1) := by decide +kernel
theorem dX6_freeOutOf_24 : decode cX6_freeOutOf 24 = .ok (.ifCond .eq 73, 3) := by decide +kernel
theorem dX6_freeOutOf_27 : decode cX6_freeOutOf 27 = .ok (.aload_n 0, 1) := by decide +kernel
theorem dX6_freeOutOf_28 : decode cX6_freeOutOf 28 = .ok (.getfield 47, 3) := by decide +kernel
theorem dX6_freeOutOf_31 : decode cX6_freeOutOf 31 = .ok (.getfield 157, 3) := by decide +kernel
theorem dX6_freeOutOf_34 : decode cX6_freeOutOf 34 = .ok (.iload 6, 2) := by decide +kernel
theorem dX6_freeOutOf_36 : decode cX6_freeOutOf 36 = .ok (.iaload, 1) := by decide +kernel
theorem dX6_freeOutOf_37 : decode cX6_freeOutOf 37 = .ok (.istore 7, 2) := by decide +kernel
theorem dX6_freeOutOf_39 : decode cX6_freeOutOf 39 = .ok (.aload_n 0, 1) := by decide +kernel
theorem dX6_freeOutOf_40 : decode cX6_freeOutOf 40 = .ok (.getfield 47, 3) := by decide +kernel
theorem dX6_freeOutOf_43 : decode cX6_freeOutOf 43 = .ok (.getfield 160, 3) := by decide +kernel
theorem dX6_freeOutOf_46 : decode cX6_freeOutOf 46 = .ok (.iload 6, 2) := by decide +kernel
theorem dX6_freeOutOf_48 : decode cX6_freeOutOf 48 = .ok (.iaload, 1) := by decide +kernel
theorem dX6_freeOutOf_49 : decode cX6_freeOutOf 49 = .ok (.istore 8, 2) := by decide +kernel
theorem dX6_freeOutOf_51 : decode cX6_freeOutOf 51 = .ok (.lload_n 1, 1) := by decide +kernel
theorem dX6_freeOutOf_52 : decode cX6_freeOutOf 52 = .ok (.iload 7, 2) := by decide +kernel
theorem dX6_freeOutOf_54 : decode cX6_freeOutOf 54 = .ok (.lushr, 1) := by decide +kernel
theorem dX6_freeOutOf_55 : decode cX6_freeOutOf 55 = .ok (.lconst 1, 1) := by decide +kernel
theorem dX6_freeOutOf_56 : decode cX6_freeOutOf 56 = .ok (.land, 1) := by decide +kernel
theorem dX6_freeOutOf_57 : decode cX6_freeOutOf 57 = .ok (.lconst 0, 1) := by decide +kernel
theorem dX6_freeOutOf_58 : decode cX6_freeOutOf 58 = .ok (.lcmp, 1) := by decide +kernel
theorem dX6_freeOutOf_59 : decode cX6_freeOutOf 59 = .ok (.ifCond .eq 15, 3) := by decide +kernel
theorem dX6_freeOutOf_62 : decode cX6_freeOutOf 62 = .ok (.lload 4, 2) := by decide +kernel
theorem dX6_freeOutOf_64 : decode cX6_freeOutOf 64 = .ok (.aload_n 0, 1) := by decide +kernel
theorem dX6_freeOutOf_65 : decode cX6_freeOutOf 65 = .ok (.getfield 38, 3) := by decide +kernel
theorem dX6_freeOutOf_68 : decode cX6_freeOutOf 68 = .ok (.iload 8, 2) := by decide +kernel
theorem dX6_freeOutOf_70 : decode cX6_freeOutOf 70 = .ok (.laload, 1) := by decide +kernel
theorem dX6_freeOutOf_71 : decode cX6_freeOutOf 71 = .ok (.lor, 1) := by decide +kernel
theorem dX6_freeOutOf_72 : decode cX6_freeOutOf 72 = .ok (.lstore 4, 2) := by decide +kernel
theorem dX6_freeOutOf_74 : decode cX6_freeOutOf 74 = .ok (.lload_n 1, 1) := by decide +kernel
theorem dX6_freeOutOf_75 : decode cX6_freeOutOf 75 = .ok (.iload 8, 2) := by decide +kernel
theorem dX6_freeOutOf_77 : decode cX6_freeOutOf 77 = .ok (.lushr, 1) := by decide +kernel
theorem dX6_freeOutOf_78 : decode cX6_freeOutOf 78 = .ok (.lconst 1, 1) := by decide +kernel
theorem dX6_freeOutOf_79 : decode cX6_freeOutOf 79 = .ok (.land, 1) := by decide +kernel
theorem dX6_freeOutOf_80 : decode cX6_freeOutOf 80 = .ok (.lconst 0, 1) := by decide +kernel
theorem dX6_freeOutOf_81 : decode cX6_freeOutOf 81 = .ok (.lcmp, 1) := by decide +kernel
theorem dX6_freeOutOf_82 : decode cX6_freeOutOf 82 = .ok (.ifCond .eq 15, 3) := by decide +kernel
theorem dX6_freeOutOf_85 : decode cX6_freeOutOf 85 = .ok (.lload 4, 2) := by decide +kernel
theorem dX6_freeOutOf_87 : decode cX6_freeOutOf 87 = .ok (.aload_n 0, 1) := by decide +kernel
theorem dX6_freeOutOf_88 : decode cX6_freeOutOf 88 = .ok (.getfield 38, 3) := by decide +kernel
theorem dX6_freeOutOf_91 : decode cX6_freeOutOf 91 = .ok (.iload 7, 2) := by decide +kernel
theorem dX6_freeOutOf_93 : decode cX6_freeOutOf 93 = .ok (.laload, 1) := by decide +kernel
theorem dX6_freeOutOf_94 : decode cX6_freeOutOf 94 = .ok (.lor, 1) := by decide +kernel
theorem dX6_freeOutOf_95 : decode cX6_freeOutOf 95 = .ok (.lstore 4, 2) := by decide +kernel
theorem dX6_freeOutOf_97 : decode cX6_freeOutOf 97 = .ok (.iinc 6 1, 3) := by decide +kernel
theorem dX6_freeOutOf_100 : decode cX6_freeOutOf 100 = .ok (.goto (-94), 3) := by decide +kernel
theorem dX6_freeOutOf_103 : decode cX6_freeOutOf 103 = .ok (.lload 4, 2) := by decide +kernel
theorem dX6_freeOutOf_105 : decode cX6_freeOutOf 105 = .ok (.lreturn, 1) := by decide +kernel
theorem dX6_findRooms_0 : decode cX6_findRooms 0 = .ok (.aload_n 0, 1) := by decide +kernel
theorem dX6_findRooms_1 : decode cX6_findRooms 1 = .ok (.invokevirtual 166, 3) := by decide +kernel
theorem dX6_findRooms_4 : decode cX6_findRooms 4 = .ok (.aload_n 0, 1) := by decide +kernel
theorem dX6_findRooms_5 : decode cX6_findRooms 5 = .ok (.invokevirtual 169, 3) := by decide +kernel
theorem dX6_findRooms_8 : decode cX6_findRooms 8 = .ok (.iconst 0, 1) := by decide +kernel
theorem dX6_findRooms_9 : decode cX6_findRooms 9 = .ok (.istore_n 3, 1) := by decide +kernel
theorem dX6_findRooms_10 : decode cX6_findRooms 10 = .ok (.iload_n 3, 1) := by decide +kernel
theorem dX6_findRooms_11 : decode cX6_findRooms 11 = .ok (.sipush 200, 3) := by decide +kernel
theorem dX6_findRooms_14 : decode cX6_findRooms 14 = .ok (.if_icmp .ge 79, 3) := by decide +kernel
theorem dX6_findRooms_17 : decode cX6_findRooms 17 = .ok (.aload_n 0, 1) := by decide +kernel
theorem dX6_findRooms_18 : decode cX6_findRooms 18 = .ok (.iload_n 3, 1) := by decide +kernel
theorem dX6_findRooms_19 : decode cX6_findRooms 19 = .ok (.invokevirtual 172, 3) := by decide +kernel
theorem dX6_findRooms_22 : decode cX6_findRooms 22 = .ok (.lconst 0, 1) := by decide +kernel
theorem dX6_findRooms_23 : decode cX6_findRooms 23 = .ok (.lstore 4, 2) := by decide +kernel
theorem dX6_findRooms_25 : decode cX6_findRooms 25 = .ok (.iconst 0, 1) := by decide +kernel
theorem dX6_findRooms_26 : decode cX6_findRooms 26 = .ok (.istore 6, 2) := by decide +kernel
theorem dX6_findRooms_28 : decode cX6_findRooms 28 = .ok (.iload 6, 2) := by decide +kernel
theorem dX6_findRooms_30 : decode cX6_findRooms 30 = .ok (.aload_n 0, 1) := by decide +kernel
theorem dX6_findRooms_31 : decode cX6_findRooms 31 = .ok (.getfield 67, 3) := by decide +kernel
theorem dX6_findRooms_34 : decode cX6_findRooms 34 = .ok (.if_icmp .gt 43, 3) := by decide +kernel
theorem dX6_findRooms_37 : decode cX6_findRooms 37 = .ok (.aload_n 0, 1) := by decide +kernel
theorem dX6_findRooms_38 : decode cX6_findRooms 38 = .ok (.getfield 44, 3) := by decide +kernel
theorem dX6_findRooms_41 : decode cX6_findRooms 41 = .ok (.iload 6, 2) := by decide +kernel
theorem dX6_findRooms_43 : decode cX6_findRooms 43 = .ok (.dup2, 1) := by decide +kernel
theorem dX6_findRooms_44 : decode cX6_findRooms 44 = .ok (.laload, 1) := by decide +kernel
theorem dX6_findRooms_45 : decode cX6_findRooms 45 = .ok (.aload_n 0, 1) := by decide +kernel
theorem dX6_findRooms_46 : decode cX6_findRooms 46 = .ok (.getfield 41, 3) := by decide +kernel
theorem dX6_findRooms_49 : decode cX6_findRooms 49 = .ok (.iload_n 3, 1) := by decide +kernel
theorem dX6_findRooms_50 : decode cX6_findRooms 50 = .ok (.bipush 13, 2) := by decide +kernel
theorem dX6_findRooms_52 : decode cX6_findRooms 52 = .ok (.imul, 1) := by decide +kernel
theorem dX6_findRooms_53 : decode cX6_findRooms 53 = .ok (.iload 6, 2) := by decide +kernel
theorem dX6_findRooms_55 : decode cX6_findRooms 55 = .ok (.iadd, 1) := by decide +kernel
theorem dX6_findRooms_56 : decode cX6_findRooms 56 = .ok (.laload, 1) := by decide +kernel
theorem dX6_findRooms_57 : decode cX6_findRooms 57 = .ok (.land, 1) := by decide +kernel
theorem dX6_findRooms_58 : decode cX6_findRooms 58 = .ok (.lastore, 1) := by decide +kernel
theorem dX6_findRooms_59 : decode cX6_findRooms 59 = .ok (.lload 4, 2) := by decide +kernel
theorem dX6_findRooms_61 : decode cX6_findRooms 61 = .ok (.aload_n 0, 1) := by decide +kernel
theorem dX6_findRooms_62 : decode cX6_findRooms 62 = .ok (.getfield 44, 3) := by decide +kernel
theorem dX6_findRooms_65 : decode cX6_findRooms 65 = .ok (.iload 6, 2) := by decide +kernel
theorem dX6_findRooms_67 : decode cX6_findRooms 67 = .ok (.laload, 1) := by decide +kernel
theorem dX6_findRooms_68 : decode cX6_findRooms 68 = .ok (.lor, 1) := by decide +kernel
theorem dX6_findRooms_69 : decode cX6_findRooms 69 = .ok (.lstore 4, 2) := by decide +kernel
theorem dX6_findRooms_71 : decode cX6_findRooms 71 = .ok (.iinc 6 1, 3) := by decide +kernel
theorem dX6_findRooms_74 : decode cX6_findRooms 74 = .ok (.goto (-46), 3) := by decide +kernel
theorem dX6_findRooms_77 : decode cX6_findRooms 77 = .ok (.aload_n 1, 1) := by decide +kernel
theorem dX6_findRooms_78 : decode cX6_findRooms 78 = .ok (.iload_n 2, 1) := by decide +kernel
theorem dX6_findRooms_79 : decode cX6_findRooms 79 = .ok (.iload_n 3, 1) := by decide +kernel
theorem dX6_findRooms_80 : decode cX6_findRooms 80 = .ok (.iadd, 1) := by decide +kernel
theorem dX6_findRooms_81 : decode cX6_findRooms 81 = .ok (.lload 4, 2) := by decide +kernel
theorem dX6_findRooms_83 : decode cX6_findRooms 83 = .ok (.invokestatic 175, 3) := by decide +kernel
theorem dX6_findRooms_86 : decode cX6_findRooms 86 = .ok (.iastore, 1) := by decide +kernel
theorem dX6_findRooms_87 : decode cX6_findRooms 87 = .ok (.iinc 3 1, 3) := by decide +kernel
theorem dX6_findRooms_90 : decode cX6_findRooms 90 = .ok (.goto (-80), 3) := by decide +kernel
theorem dX6_findRooms_93 : decode cX6_findRooms 93 = .ok (.return_, 1) := by decide +kernel
theorem dX6_roomsIn_0 : decode cX6_roomsIn 0 = .ok (.iconst 0, 1) := by decide +kernel
theorem dX6_roomsIn_1 : decode cX6_roomsIn 1 = .ok (.istore_n 2, 1) := by decide +kernel
theorem dX6_roomsIn_2 : decode cX6_roomsIn 2 = .ok (.iconst 0, 1) := by decide +kernel
theorem dX6_roomsIn_3 : decode cX6_roomsIn 3 = .ok (.istore_n 3, 1) := by decide +kernel
theorem dX6_roomsIn_4 : decode cX6_roomsIn 4 = .ok (.iload_n 3, 1) := by decide +kernel
theorem dX6_roomsIn_5 : decode cX6_roomsIn 5 = .ok (.iconst 4, 1) := by decide +kernel
theorem dX6_roomsIn_6 : decode cX6_roomsIn 6 = .ok (.if_icmp .gt 23, 3) := by decide +kernel
theorem dX6_roomsIn_9 : decode cX6_roomsIn 9 = .ok (.iload_n 2, 1) := by decide +kernel
theorem dX6_roomsIn_10 : decode cX6_roomsIn 10 = .ok (.lload_n 0, 1) := by decide +kernel
theorem dX6_roomsIn_11 : decode cX6_roomsIn 11 = .ok (.bipush 8, 2) := by decide +kernel
theorem dX6_roomsIn_13 : decode cX6_roomsIn 13 = .ok (.iload_n 3, 1) := by decide +kernel
theorem dX6_roomsIn_14 : decode cX6_roomsIn 14 = .ok (.imul, 1) := by decide +kernel
theorem dX6_roomsIn_15 : decode cX6_roomsIn 15 = .ok (.lushr, 1) := by decide +kernel
theorem dX6_roomsIn_16 : decode cX6_roomsIn 16 = .ok (.ldc2_w 145, 3) := by decide +kernel
theorem dX6_roomsIn_19 : decode cX6_roomsIn 19 = .ok (.land, 1) := by decide +kernel
theorem dX6_roomsIn_20 : decode cX6_roomsIn 20 = .ok (.l2i, 1) := by decide +kernel
theorem dX6_roomsIn_21 : decode cX6_roomsIn 21 = .ok (.ior, 1) := by decide +kernel
theorem dX6_roomsIn_22 : decode cX6_roomsIn 22 = .ok (.istore_n 2, 1) := by decide +kernel
theorem dX6_roomsIn_23 : decode cX6_roomsIn 23 = .ok (.iinc 3 1, 3) := by decide +kernel
theorem dX6_roomsIn_26 : decode cX6_roomsIn 26 = .ok (.goto (-22), 3) := by decide +kernel
theorem dX6_roomsIn_29 : decode cX6_roomsIn 29 = .ok (.iload_n 2, 1) := by decide +kernel
theorem dX6_roomsIn_30 : decode cX6_roomsIn 30 = .ok (.ireturn, 1) := by decide +kernel
theorem dX6_findBreak_0 : decode cX6_findBreak 0 = .ok (.aload_n 0, 1) := by decide +kernel
theorem dX6_findBreak_1 : decode cX6_findBreak 1 = .ok (.invokevirtual 169, 3) := by decide +kernel
theorem dX6_findBreak_4 : decode cX6_findBreak 4 = .ok (.iconst 0, 1) := by decide +kernel
theorem dX6_findBreak_5 : decode cX6_findBreak 5 = .ok (.istore_n 1, 1) := by decide +kernel
theorem dX6_findBreak_6 : decode cX6_findBreak 6 = .ok (.iload_n 1, 1) := by decide +kernel
theorem dX6_findBreak_7 : decode cX6_findBreak 7 = .ok (.sipush 200, 3) := by decide +kernel
theorem dX6_findBreak_10 : decode cX6_findBreak 10 = .ok (.if_icmp .ge 28, 3) := by decide +kernel
theorem dX6_findBreak_13 : decode cX6_findBreak 13 = .ok (.aload_n 0, 1) := by decide +kernel
theorem dX6_findBreak_14 : decode cX6_findBreak 14 = .ok (.getfield 44, 3) := by decide +kernel
theorem dX6_findBreak_17 : decode cX6_findBreak 17 = .ok (.aload_n 0, 1) := by decide +kernel
theorem dX6_findBreak_18 : decode cX6_findBreak 18 = .ok (.getfield 67, 3) := by decide +kernel
theorem dX6_findBreak_21 : decode cX6_findBreak 21 = .ok (.laload, 1) := by decide +kernel
theorem dX6_findBreak_22 : decode cX6_findBreak 22 = .ok (.lconst 0, 1) := by decide +kernel
theorem dX6_findBreak_23 : decode cX6_findBreak 23 = .ok (.lcmp, 1) := by decide +kernel
theorem dX6_findBreak_24 : decode cX6_findBreak 24 = .ok (.ifCond .ne 14, 3) := by decide +kernel
theorem dX6_findBreak_27 : decode cX6_findBreak 27 = .ok (.aload_n 0, 1) := by decide +kernel
theorem dX6_findBreak_28 : decode cX6_findBreak 28 = .ok (.iload_n 1, 1) := by decide +kernel
theorem dX6_findBreak_29 : decode cX6_findBreak 29 = .ok (.invokevirtual 172, 3) := by decide +kernel
theorem dX6_findBreak_32 : decode cX6_findBreak 32 = .ok (.iinc 1 1, 3) := by decide +kernel
theorem dX6_findBreak_35 : decode cX6_findBreak 35 = .ok (.goto (-29), 3) := by decide +kernel
theorem dX6_findBreak_38 : decode cX6_findBreak 38 = .ok (.aload_n 0, 1) := by decide +kernel
theorem dX6_findBreak_39 : decode cX6_findBreak 39 = .ok (.getfield 67, 3) := by decide +kernel
theorem dX6_findBreak_42 : decode cX6_findBreak 42 = .ok (.iconst 1, 1) := by decide +kernel
theorem dX6_findBreak_43 : decode cX6_findBreak 43 = .ok (.isub, 1) := by decide +kernel
theorem dX6_findBreak_44 : decode cX6_findBreak 44 = .ok (.istore_n 1, 1) := by decide +kernel
theorem dX6_findBreak_45 : decode cX6_findBreak 45 = .ok (.iload_n 1, 1) := by decide +kernel
theorem dX6_findBreak_46 : decode cX6_findBreak 46 = .ok (.ifCond .lt 41, 3) := by decide +kernel
theorem dX6_findBreak_49 : decode cX6_findBreak 49 = .ok (.aload_n 0, 1) := by decide +kernel
theorem dX6_findBreak_50 : decode cX6_findBreak 50 = .ok (.getfield 44, 3) := by decide +kernel
theorem dX6_findBreak_53 : decode cX6_findBreak 53 = .ok (.aload_n 0, 1) := by decide +kernel
theorem dX6_findBreak_54 : decode cX6_findBreak 54 = .ok (.getfield 67, 3) := by decide +kernel
theorem dX6_findBreak_57 : decode cX6_findBreak 57 = .ok (.laload, 1) := by decide +kernel
theorem dX6_findBreak_58 : decode cX6_findBreak 58 = .ok (.lconst 0, 1) := by decide +kernel
theorem dX6_findBreak_59 : decode cX6_findBreak 59 = .ok (.lcmp, 1) := by decide +kernel
theorem dX6_findBreak_60 : decode cX6_findBreak 60 = .ok (.ifCond .ne 27, 3) := by decide +kernel
theorem dX6_findBreak_63 : decode cX6_findBreak 63 = .ok (.aload_n 0, 1) := by decide +kernel
theorem dX6_findBreak_64 : decode cX6_findBreak 64 = .ok (.getfield 44, 3) := by decide +kernel
theorem dX6_findBreak_67 : decode cX6_findBreak 67 = .ok (.iload_n 1, 1) := by decide +kernel
theorem dX6_findBreak_68 : decode cX6_findBreak 68 = .ok (.laload, 1) := by decide +kernel
theorem dX6_findBreak_69 : decode cX6_findBreak 69 = .ok (.lconst 0, 1) := by decide +kernel
theorem dX6_findBreak_70 : decode cX6_findBreak 70 = .ok (.lcmp, 1) := by decide +kernel
theorem dX6_findBreak_71 : decode cX6_findBreak 71 = .ok (.ifCond .eq 10, 3) := by decide +kernel
theorem dX6_findBreak_74 : decode cX6_findBreak 74 = .ok (.aload_n 0, 1) := by decide +kernel
theorem dX6_findBreak_75 : decode cX6_findBreak 75 = .ok (.getfield 9, 3) := by decide +kernel
theorem dX6_findBreak_78 : decode cX6_findBreak 78 = .ok (.iload_n 1, 1) := by decide +kernel
theorem dX6_findBreak_79 : decode cX6_findBreak 79 = .ok (.iaload, 1) := by decide +kernel
theorem dX6_findBreak_80 : decode cX6_findBreak 80 = .ok (.ireturn, 1) := by decide +kernel
theorem dX6_findBreak_81 : decode cX6_findBreak 81 = .ok (.iinc 1 (-1), 3) := by decide +kernel
theorem dX6_findBreak_84 : decode cX6_findBreak 84 = .ok (.goto (-39), 3) := by decide +kernel
theorem dX6_findBreak_87 : decode cX6_findBreak 87 = .ok (.iconst (-1), 1) := by decide +kernel
theorem dX6_findBreak_88 : decode cX6_findBreak 88 = .ok (.ireturn, 1) := by decide +kernel
theorem dX6_findFirstWay_0 : decode cX6_findFirstWay 0 = .ok (.aload_n 0, 1) := by decide +kernel
theorem dX6_findFirstWay_1 : decode cX6_findFirstWay 1 = .ok (.invokevirtual 166, 3) := by decide +kernel
theorem dX6_findFirstWay_4 : decode cX6_findFirstWay 4 = .ok (.iconst 0, 1) := by decide +kernel
theorem dX6_findFirstWay_5 : decode cX6_findFirstWay 5 = .ok (.istore_n 2, 1) := by decide +kernel
theorem dX6_findFirstWay_6 : decode cX6_findFirstWay 6 = .ok (.iconst 0, 1) := by decide +kernel
theorem dX6_findFirstWay_7 : decode cX6_findFirstWay 7 = .ok (.istore_n 3, 1) := by decide +kernel
theorem dX6_findFirstWay_8 : decode cX6_findFirstWay 8 = .ok (.iconst 1, 1) := by decide +kernel
theorem dX6_findFirstWay_9 : decode cX6_findFirstWay 9 = .ok (.istore 4, 2) := by decide +kernel
theorem dX6_findFirstWay_11 : decode cX6_findFirstWay 11 = .ok (.iconst 0, 1) := by decide +kernel
theorem dX6_findFirstWay_12 : decode cX6_findFirstWay 12 = .ok (.istore 5, 2) := by decide +kernel
theorem dX6_findFirstWay_14 : decode cX6_findFirstWay 14 = .ok (.iload 5, 2) := by decide +kernel
theorem dX6_findFirstWay_16 : decode cX6_findFirstWay 16 = .ok (.sipush 200, 3) := by decide +kernel
theorem dX6_findFirstWay_19 : decode cX6_findFirstWay 19 = .ok (.if_icmp .ge 157, 3) := by decide +kernel
theorem dX6_findFirstWay_22 : decode cX6_findFirstWay 22 = .ok (.iload_n 3, 1) := by decide +kernel
theorem dX6_findFirstWay_23 : decode cX6_findFirstWay 23 = .ok (.ifCond .le 9, 3) := by decide +kernel
theorem dX6_findFirstWay_26 : decode cX6_findFirstWay 26 = .ok (.iload_n 3, 1) := by decide +kernel
theorem dX6_findFirstWay_27 : decode cX6_findFirstWay 27 = .ok (.iconst 1, 1) := by decide +kernel
theorem dX6_findFirstWay_28 : decode cX6_findFirstWay 28 = .ok (.isub, 1) := by decide +kernel
theorem dX6_findFirstWay_29 : decode cX6_findFirstWay 29 = .ok (.goto 4, 3) := by decide +kernel
theorem dX6_findFirstWay_32 : decode cX6_findFirstWay 32 = .ok (.iconst 0, 1) := by decide +kernel
theorem dX6_findFirstWay_33 : decode cX6_findFirstWay 33 = .ok (.istore 6, 2) := by decide +kernel
theorem dX6_findFirstWay_35 : decode cX6_findFirstWay 35 = .ok (.iconst (-1), 1) := by decide +kernel
theorem dX6_findFirstWay_36 : decode cX6_findFirstWay 36 = .ok (.istore 7, 2) := by decide +kernel
theorem dX6_findFirstWay_38 : decode cX6_findFirstWay 38 = .ok (.iconst 0, 1) := by decide +kernel
theorem dX6_findFirstWay_39 : decode cX6_findFirstWay 39 = .ok (.istore 8, 2) := by decide +kernel
theorem dX6_findFirstWay_41 : decode cX6_findFirstWay 41 = .ok (.iconst 0, 1) := by decide +kernel
theorem dX6_findFirstWay_42 : decode cX6_findFirstWay 42 = .ok (.istore 9, 2) := by decide +kernel
theorem dX6_findFirstWay_44 : decode cX6_findFirstWay 44 = .ok (.iload 9, 2) := by decide +kernel
theorem dX6_findFirstWay_46 : decode cX6_findFirstWay 46 = .ok (.aload_n 0, 1) := by decide +kernel
theorem dX6_findFirstWay_47 : decode cX6_findFirstWay 47 = .ok (.getfield 47, 3) := by decide +kernel
theorem dX6_findFirstWay_50 : decode cX6_findFirstWay 50 = .ok (.getfield 55, 3) := by decide +kernel
theorem dX6_findFirstWay_53 : decode cX6_findFirstWay 53 = .ok (.if_icmp .ge 76, 3) := by decide +kernel
theorem dX6_findFirstWay_56 : decode cX6_findFirstWay 56 = .ok (.iload 8, 2) := by decide +kernel
theorem dX6_findFirstWay_58 : decode cX6_findFirstWay 58 = .ok (.ifCond .ne 71, 3) := by decide +kernel
theorem dX6_findFirstWay_61 : decode cX6_findFirstWay 61 = .ok (.iload 9, 2) := by decide +kernel
theorem dX6_findFirstWay_63 : decode cX6_findFirstWay 63 = .ok (.istore 7, 2) := by decide +kernel
theorem dX6_findFirstWay_65 : decode cX6_findFirstWay 65 = .ok (.iload 9, 2) := by decide +kernel
theorem dX6_findFirstWay_67 : decode cX6_findFirstWay 67 = .ok (.iload_n 2, 1) := by decide +kernel
theorem dX6_findFirstWay_68 : decode cX6_findFirstWay 68 = .ok (.if_icmp .ne 25, 3) := by decide +kernel
theorem dX6_findFirstWay_71 : decode cX6_findFirstWay 71 = .ok (.aload_n 0, 1) := by decide +kernel
theorem dX6_findFirstWay_72 : decode cX6_findFirstWay 72 = .ok (.iload 5, 2) := by decide +kernel
theorem dX6_findFirstWay_74 : decode cX6_findFirstWay 74 = .ok (.iload 4, 2) := by decide +kernel
theorem dX6_findFirstWay_76 : decode cX6_findFirstWay 76 = .ok (.lconst 1, 1) := by decide +kernel
theorem dX6_findFirstWay_77 : decode cX6_findFirstWay 77 = .ok (.bipush 8, 2) := by decide +kernel
theorem dX6_findFirstWay_79 : decode cX6_findFirstWay 79 = .ok (.iload 6, 2) := by decide +kernel
theorem dX6_findFirstWay_81 : decode cX6_findFirstWay 81 = .ok (.imul, 1) := by decide +kernel
theorem dX6_findFirstWay_82 : decode cX6_findFirstWay 82 = .ok (.iload_n 2, 1) := by decide +kernel
theorem dX6_findFirstWay_83 : decode cX6_findFirstWay 83 = .ok (.iadd, 1) := by decide +kernel
theorem dX6_findFirstWay_84 : decode cX6_findFirstWay 84 = .ok (.lshl, 1) := by decide +kernel
theorem dX6_findFirstWay_85 : decode cX6_findFirstWay 85 = .ok (.invokevirtual 179, 3) := by decide +kernel
theorem dX6_findFirstWay_88 : decode cX6_findFirstWay 88 = .ok (.istore 8, 2) := by decide +kernel
theorem dX6_findFirstWay_90 : decode cX6_findFirstWay 90 = .ok (.goto 33, 3) := by decide +kernel
theorem dX6_findFirstWay_93 : decode cX6_findFirstWay 93 = .ok (.iload_n 3, 1) := by decide +kernel
theorem dX6_findFirstWay_94 : decode cX6_findFirstWay 94 = .ok (.ifCond .ne 29, 3) := by decide +kernel
theorem dX6_findFirstWay_97 : decode cX6_findFirstWay 97 = .ok (.aload_n 0, 1) := by decide +kernel
theorem dX6_findFirstWay_98 : decode cX6_findFirstWay 98 = .ok (.iload 5, 2) := by decide +kernel
theorem dX6_findFirstWay_100 : decode cX6_findFirstWay 100 = .ok (.aload_n 0, 1) := by decide +kernel
theorem dX6_findFirstWay_101 : decode cX6_findFirstWay 101 = .ok (.iload 5, 2) := by decide +kernel
theorem dX6_findFirstWay_103 : decode cX6_findFirstWay 103 = .ok (.iload 4, 2) := by decide +kernel
theorem dX6_findFirstWay_105 : decode cX6_findFirstWay 105 = .ok (.iload_n 2, 1) := by decide +kernel
theorem dX6_findFirstWay_106 : decode cX6_findFirstWay 106 = .ok (.iload 9, 2) := by decide +kernel
theorem dX6_findFirstWay_108 : decode cX6_findFirstWay 108 = .ok (.invokevirtual 183, 3) := by decide +kernel
theorem dX6_findFirstWay_111 : decode cX6_findFirstWay 111 = .ok (.aload_n 0, 1) := by decide +kernel
theorem dX6_findFirstWay_112 : decode cX6_findFirstWay 112 = .ok (.getfield 38, 3) := by decide +kernel
theorem dX6_findFirstWay_115 : decode cX6_findFirstWay 115 = .ok (.iload 9, 2) := by decide +kernel
theorem dX6_findFirstWay_117 : decode cX6_findFirstWay 117 = .ok (.laload, 1) := by decide +kernel
theorem dX6_findFirstWay_118 : decode cX6_findFirstWay 118 = .ok (.invokevirtual 179, 3) := by decide +kernel
theorem dX6_findFirstWay_121 : decode cX6_findFirstWay 121 = .ok (.istore 8, 2) := by decide +kernel
theorem dX6_findFirstWay_123 : decode cX6_findFirstWay 123 = .ok (.iinc 9 1, 3) := by decide +kernel
theorem dX6_findFirstWay_126 : decode cX6_findFirstWay 126 = .ok (.goto (-82), 3) := by decide +kernel
theorem dX6_findFirstWay_129 : decode cX6_findFirstWay 129 = .ok (.iload 8, 2) := by decide +kernel
theorem dX6_findFirstWay_131 : decode cX6_findFirstWay 131 = .ok (.ifCond .ne 5, 3) := by decide +kernel
theorem dX6_findFirstWay_134 : decode cX6_findFirstWay 134 = .ok (.iconst 0, 1) := by decide +kernel
theorem dX6_findFirstWay_135 : decode cX6_findFirstWay 135 = .ok (.ireturn, 1) := by decide +kernel
theorem dX6_findFirstWay_136 : decode cX6_findFirstWay 136 = .ok (.iload 7, 2) := by decide +kernel
theorem dX6_findFirstWay_138 : decode cX6_findFirstWay 138 = .ok (.iload_n 2, 1) := by decide +kernel
theorem dX6_findFirstWay_139 : decode cX6_findFirstWay 139 = .ok (.if_icmp .ne 8, 3) := by decide +kernel
theorem dX6_findFirstWay_142 : decode cX6_findFirstWay 142 = .ok (.iload 6, 2) := by decide +kernel
theorem dX6_findFirstWay_144 : decode cX6_findFirstWay 144 = .ok (.goto 13, 3) := by decide +kernel
theorem dX6_findFirstWay_147 : decode cX6_findFirstWay 147 = .ok (.aload_n 0, 1) := by decide +kernel
theorem dX6_findFirstWay_148 : decode cX6_findFirstWay 148 = .ok (.getfield 47, 3) := by decide +kernel
theorem dX6_findFirstWay_151 : decode cX6_findFirstWay 151 = .ok (.getfield 60, 3) := by decide +kernel
theorem dX6_findFirstWay_154 : decode cX6_findFirstWay 154 = .ok (.iload 7, 2) := by decide +kernel
theorem dX6_findFirstWay_156 : decode cX6_findFirstWay 156 = .ok (.iaload, 1) := by decide +kernel
theorem dX6_findFirstWay_157 : decode cX6_findFirstWay 157 = .ok (.istore_n 3, 1) := by decide +kernel
theorem dX6_findFirstWay_158 : decode cX6_findFirstWay 158 = .ok (.iload 7, 2) := by decide +kernel
theorem dX6_findFirstWay_160 : decode cX6_findFirstWay 160 = .ok (.istore_n 2, 1) := by decide +kernel
theorem dX6_findFirstWay_161 : decode cX6_findFirstWay 161 = .ok (.iload 8, 2) := by decide +kernel
theorem dX6_findFirstWay_163 : decode cX6_findFirstWay 163 = .ok (.istore 4, 2) := by decide +kernel
theorem dX6_findFirstWay_165 : decode cX6_findFirstWay 165 = .ok (.aload_n 1, 1) := by decide +kernel
theorem dX6_findFirstWay_166 : decode cX6_findFirstWay 166 = .ok (.iload 5, 2) := by decide +kernel
theorem dX6_findFirstWay_168 : decode cX6_findFirstWay 168 = .ok (.iload_n 2, 1) := by decide +kernel
theorem dX6_findFirstWay_169 : decode cX6_findFirstWay 169 = .ok (.iastore, 1) := by decide +kernel
theorem dX6_findFirstWay_170 : decode cX6_findFirstWay 170 = .ok (.iinc 5 1, 3) := by decide +kernel
theorem dX6_findFirstWay_173 : decode cX6_findFirstWay 173 = .ok (.goto (-159), 3) := by decide +kernel
theorem dX6_findFirstWay_176 : decode cX6_findFirstWay 176 = .ok (.iconst 1, 1) := by decide +kernel
theorem dX6_findFirstWay_177 : decode cX6_findFirstWay 177 = .ok (.ireturn, 1) := by decide +kernel
theorem dX6_stagesGoing_0 : decode cX6_stagesGoing 0 = .ok (.aload_n 0, 1) := by decide +kernel
theorem dX6_stagesGoing_1 : decode cX6_stagesGoing 1 = .ok (.aload_n 0, 1) := by decide +kernel
theorem dX6_stagesGoing_2 : decode cX6_stagesGoing 2 = .ok (.getfield 31, 3) := by decide +kernel
theorem dX6_stagesGoing_5 : decode cX6_stagesGoing 5 = .ok (.iload_n 1, 1) := by decide +kernel
theorem dX6_stagesGoing_6 : decode cX6_stagesGoing 6 = .ok (.iaload, 1) := by decide +kernel
theorem dX6_stagesGoing_7 : decode cX6_stagesGoing 7 = .ok (.iload_n 3, 1) := by decide +kernel
theorem dX6_stagesGoing_8 : decode cX6_stagesGoing 8 = .ok (.iload 4, 2) := by decide +kernel
theorem dX6_stagesGoing_10 : decode cX6_stagesGoing 10 = .ok (.invokevirtual 187, 3) := by decide +kernel
theorem dX6_stagesGoing_13 : decode cX6_stagesGoing 13 = .ok (.ifCond .eq 7, 3) := by decide +kernel
theorem dX6_stagesGoing_16 : decode cX6_stagesGoing 16 = .ok (.iload_n 2, 1) := by decide +kernel
theorem dX6_stagesGoing_17 : decode cX6_stagesGoing 17 = .ok (.goto 4, 3) := by decide +kernel
theorem dX6_stagesGoing_20 : decode cX6_stagesGoing 20 = .ok (.iconst 0, 1) := by decide +kernel
theorem dX6_stagesGoing_21 : decode cX6_stagesGoing 21 = .ok (.istore 5, 2) := by decide +kernel
theorem dX6_stagesGoing_23 : decode cX6_stagesGoing 23 = .ok (.iconst 0, 1) := by decide +kernel
theorem dX6_stagesGoing_24 : decode cX6_stagesGoing 24 = .ok (.istore 6, 2) := by decide +kernel
theorem dX6_stagesGoing_26 : decode cX6_stagesGoing 26 = .ok (.iload 6, 2) := by decide +kernel
theorem dX6_stagesGoing_28 : decode cX6_stagesGoing 28 = .ok (.aload_n 0, 1) := by decide +kernel
theorem dX6_stagesGoing_29 : decode cX6_stagesGoing 29 = .ok (.getfield 67, 3) := by decide +kernel
theorem dX6_stagesGoing_32 : decode cX6_stagesGoing 32 = .ok (.if_icmp .ge 62, 3) := by decide +kernel
theorem dX6_stagesGoing_35 : decode cX6_stagesGoing 35 = .ok (.iload_n 2, 1) := by decide +kernel
theorem dX6_stagesGoing_36 : decode cX6_stagesGoing 36 = .ok (.iload 6, 2) := by decide +kernel
theorem dX6_stagesGoing_38 : decode cX6_stagesGoing 38 = .ok (.iushr, 1) := by decide +kernel
theorem dX6_stagesGoing_39 : decode cX6_stagesGoing 39 = .ok (.iconst 1, 1) := by decide +kernel
theorem dX6_stagesGoing_40 : decode cX6_stagesGoing 40 = .ok (.iand, 1) := by decide +kernel
theorem dX6_stagesGoing_41 : decode cX6_stagesGoing 41 = .ok (.ifCond .eq 47, 3) := by decide +kernel
theorem dX6_stagesGoing_44 : decode cX6_stagesGoing 44 = .ok (.aload_n 0, 1) := by decide +kernel
theorem dX6_stagesGoing_45 : decode cX6_stagesGoing 45 = .ok (.getfield 15, 3) := by decide +kernel
theorem dX6_stagesGoing_48 : decode cX6_stagesGoing 48 = .ok (.iload 6, 2) := by decide +kernel
theorem dX6_stagesGoing_50 : decode cX6_stagesGoing 50 = .ok (.iaload, 1) := by decide +kernel
theorem dX6_stagesGoing_51 : decode cX6_stagesGoing 51 = .ok (.iload_n 3, 1) := by decide +kernel
theorem dX6_stagesGoing_52 : decode cX6_stagesGoing 52 = .ok (.if_icmp .ne 36, 3) := by decide +kernel
theorem dX6_stagesGoing_55 : decode cX6_stagesGoing 55 = .ok (.aload_n 0, 1) := by decide +kernel
theorem dX6_stagesGoing_56 : decode cX6_stagesGoing 56 = .ok (.getfield 18, 3) := by decide +kernel
theorem dX6_stagesGoing_59 : decode cX6_stagesGoing 59 = .ok (.iload 6, 2) := by decide +kernel
theorem dX6_stagesGoing_61 : decode cX6_stagesGoing 61 = .ok (.iaload, 1) := by decide +kernel
theorem dX6_stagesGoing_62 : decode cX6_stagesGoing 62 = .ok (.iload 4, 2) := by decide +kernel
theorem dX6_stagesGoing_64 : decode cX6_stagesGoing 64 = .ok (.if_icmp .ne 24, 3) := by decide +kernel
theorem dX6_stagesGoing_67 : decode cX6_stagesGoing 67 = .ok (.aload_n 0, 1) := by decide +kernel
theorem dX6_stagesGoing_68 : decode cX6_stagesGoing 68 = .ok (.iload 6, 2) := by decide +kernel
theorem dX6_stagesGoing_70 : decode cX6_stagesGoing 70 = .ok (.iload_n 1, 1) := by decide +kernel
theorem dX6_stagesGoing_71 : decode cX6_stagesGoing 71 = .ok (.invokevirtual 151, 3) := by decide +kernel
theorem dX6_stagesGoing_74 : decode cX6_stagesGoing 74 = .ok (.ifCond .eq 14, 3) := by decide +kernel
theorem dX6_stagesGoing_77 : decode cX6_stagesGoing 77 = .ok (.iload 5, 2) := by decide +kernel
theorem dX6_stagesGoing_79 : decode cX6_stagesGoing 79 = .ok (.iconst 1, 1) := by decide +kernel
theorem dX6_stagesGoing_80 : decode cX6_stagesGoing 80 = .ok (.iload 6, 2) := by decide +kernel
theorem dX6_stagesGoing_82 : decode cX6_stagesGoing 82 = .ok (.iconst 1, 1) := by decide +kernel
theorem dX6_stagesGoing_83 : decode cX6_stagesGoing 83 = .ok (.iadd, 1) := by decide +kernel
theorem dX6_stagesGoing_84 : decode cX6_stagesGoing 84 = .ok (.ishl, 1) := by decide +kernel
theorem dX6_stagesGoing_85 : decode cX6_stagesGoing 85 = .ok (.ior, 1) := by decide +kernel
theorem dX6_stagesGoing_86 : decode cX6_stagesGoing 86 = .ok (.istore 5, 2) := by decide +kernel
theorem dX6_stagesGoing_88 : decode cX6_stagesGoing 88 = .ok (.iinc 6 1, 3) := by decide +kernel
theorem dX6_stagesGoing_91 : decode cX6_stagesGoing 91 = .ok (.goto (-65), 3) := by decide +kernel
theorem dX6_stagesGoing_94 : decode cX6_stagesGoing 94 = .ok (.iload 5, 2) := by decide +kernel
theorem dX6_stagesGoing_96 : decode cX6_stagesGoing 96 = .ok (.ireturn, 1) := by decide +kernel
theorem dX6_isOpenBetween_0 : decode cX6_isOpenBetween 0 = .ok (.iconst 0, 1) := by decide +kernel
theorem dX6_isOpenBetween_1 : decode cX6_isOpenBetween 1 = .ok (.istore 4, 2) := by decide +kernel
theorem dX6_isOpenBetween_3 : decode cX6_isOpenBetween 3 = .ok (.iload_n 1, 1) := by decide +kernel
theorem dX6_isOpenBetween_4 : decode cX6_isOpenBetween 4 = .ok (.ifCond .eq 88, 3) := by decide +kernel
theorem dX6_isOpenBetween_7 : decode cX6_isOpenBetween 7 = .ok (.iload 4, 2) := by decide +kernel
theorem dX6_isOpenBetween_9 : decode cX6_isOpenBetween 9 = .ok (.aload_n 0, 1) := by decide +kernel
theorem dX6_isOpenBetween_10 : decode cX6_isOpenBetween 10 = .ok (.getfield 47, 3) := by decide +kernel
theorem dX6_isOpenBetween_13 : decode cX6_isOpenBetween 13 = .ok (.getfield 154, 3) := by decide +kernel
theorem dX6_isOpenBetween_16 : decode cX6_isOpenBetween 16 = .ok (.if_icmp .ge 76, 3) := by decide +kernel
theorem dX6_isOpenBetween_19 : decode cX6_isOpenBetween 19 = .ok (.iload_n 1, 1) := by decide +kernel
theorem dX6_isOpenBetween_20 : decode cX6_isOpenBetween 20 = .ok (.iload 4, 2) := by decide +kernel
theorem dX6_isOpenBetween_22 : decode cX6_isOpenBetween 22 = .ok (.iushr, 1) := by decide +kernel
theorem dX6_isOpenBetween_23 : decode cX6_isOpenBetween 23 = .ok (.iconst 1, 1) := by decide +kernel
theorem dX6_isOpenBetween_24 : decode cX6_isOpenBetween 24 = .ok (.iand, 1) := by decide +kernel
theorem dX6_isOpenBetween_25 : decode cX6_isOpenBetween 25 = .ok (.ifCond .eq 61, 3) := by decide +kernel
theorem dX6_isOpenBetween_28 : decode cX6_isOpenBetween 28 = .ok (.aload_n 0, 1) := by decide +kernel
theorem dX6_isOpenBetween_29 : decode cX6_isOpenBetween 29 = .ok (.getfield 47, 3) := by decide +kernel
theorem dX6_isOpenBetween_32 : decode cX6_isOpenBetween 32 = .ok (.getfield 157, 3) := by decide +kernel
theorem dX6_isOpenBetween_35 : decode cX6_isOpenBetween 35 = .ok (.iload 4, 2) := by decide +kernel
theorem dX6_isOpenBetween_37 : decode cX6_isOpenBetween 37 = .ok (.iaload, 1) := by decide +kernel
theorem dX6_isOpenBetween_38 : decode cX6_isOpenBetween 38 = .ok (.iload_n 2, 1) := by decide +kernel
theorem dX6_isOpenBetween_39 : decode cX6_isOpenBetween 39 = .ok (.if_icmp .ne 17, 3) := by decide +kernel
theorem dX6_isOpenBetween_42 : decode cX6_isOpenBetween 42 = .ok (.aload_n 0, 1) := by decide +kernel
theorem dX6_isOpenBetween_43 : decode cX6_isOpenBetween 43 = .ok (.getfield 47, 3) := by decide +kernel
theorem dX6_isOpenBetween_46 : decode cX6_isOpenBetween 46 = .ok (.getfield 160, 3) := by decide +kernel
theorem dX6_isOpenBetween_49 : decode cX6_isOpenBetween 49 = .ok (.iload 4, 2) := by decide +kernel
theorem dX6_isOpenBetween_51 : decode cX6_isOpenBetween 51 = .ok (.iaload, 1) := by decide +kernel
theorem dX6_isOpenBetween_52 : decode cX6_isOpenBetween 52 = .ok (.iload_n 3, 1) := by decide +kernel
theorem dX6_isOpenBetween_53 : decode cX6_isOpenBetween 53 = .ok (.if_icmp .eq 31, 3) := by decide +kernel
theorem dX6_isOpenBetween_56 : decode cX6_isOpenBetween 56 = .ok (.aload_n 0, 1) := by decide +kernel
theorem dX6_isOpenBetween_57 : decode cX6_isOpenBetween 57 = .ok (.getfield 47, 3) := by decide +kernel
theorem dX6_isOpenBetween_60 : decode cX6_isOpenBetween 60 = .ok (.getfield 157, 3) := by decide +kernel
theorem dX6_isOpenBetween_63 : decode cX6_isOpenBetween 63 = .ok (.iload 4, 2) := by decide +kernel
theorem dX6_isOpenBetween_65 : decode cX6_isOpenBetween 65 = .ok (.iaload, 1) := by decide +kernel
theorem dX6_isOpenBetween_66 : decode cX6_isOpenBetween 66 = .ok (.iload_n 3, 1) := by decide +kernel
theorem dX6_isOpenBetween_67 : decode cX6_isOpenBetween 67 = .ok (.if_icmp .ne 19, 3) := by decide +kernel
theorem dX6_isOpenBetween_70 : decode cX6_isOpenBetween 70 = .ok (.aload_n 0, 1) := by decide +kernel
theorem dX6_isOpenBetween_71 : decode cX6_isOpenBetween 71 = .ok (.getfield 47, 3) := by decide +kernel
theorem dX6_isOpenBetween_74 : decode cX6_isOpenBetween 74 = .ok (.getfield 160, 3) := by decide +kernel
theorem dX6_isOpenBetween_77 : decode cX6_isOpenBetween 77 = .ok (.iload 4, 2) := by decide +kernel
theorem dX6_isOpenBetween_79 : decode cX6_isOpenBetween 79 = .ok (.iaload, 1) := by decide +kernel
theorem dX6_isOpenBetween_80 : decode cX6_isOpenBetween 80 = .ok (.iload_n 2, 1) := by decide +kernel
theorem dX6_isOpenBetween_81 : decode cX6_isOpenBetween 81 = .ok (.if_icmp .ne 5, 3) := by decide +kernel
theorem dX6_isOpenBetween_84 : decode cX6_isOpenBetween 84 = .ok (.iconst 1, 1) := by decide +kernel
theorem dX6_isOpenBetween_85 : decode cX6_isOpenBetween 85 = .ok (.ireturn, 1) := by decide +kernel
theorem dX6_isOpenBetween_86 : decode cX6_isOpenBetween 86 = .ok (.iinc 4 1, 3) := by decide +kernel
theorem dX6_isOpenBetween_89 : decode cX6_isOpenBetween 89 = .ok (.goto (-86), 3) := by decide +kernel
theorem dX6_isOpenBetween_92 : decode cX6_isOpenBetween 92 = .ok (.iconst 0, 1) := by decide +kernel
theorem dX6_isOpenBetween_93 : decode cX6_isOpenBetween 93 = .ok (.ireturn, 1) := by decide +kernel
theorem dX6_withHope_0 : decode cX6_withHope 0 = .ok (.iconst 0, 1) := by decide +kernel
theorem dX6_withHope_1 : decode cX6_withHope 1 = .ok (.istore 5, 2) := by decide +kernel
theorem dX6_withHope_3 : decode cX6_withHope 3 = .ok (.iconst 0, 1) := by decide +kernel
theorem dX6_withHope_4 : decode cX6_withHope 4 = .ok (.istore 6, 2) := by decide +kernel
theorem dX6_withHope_6 : decode cX6_withHope 6 = .ok (.iload 6, 2) := by decide +kernel
theorem dX6_withHope_8 : decode cX6_withHope 8 = .ok (.aload_n 0, 1) := by decide +kernel
theorem dX6_withHope_9 : decode cX6_withHope 9 = .ok (.getfield 67, 3) := by decide +kernel
theorem dX6_withHope_12 : decode cX6_withHope 12 = .ok (.if_icmp .gt 46, 3) := by decide +kernel
theorem dX6_withHope_15 : decode cX6_withHope 15 = .ok (.iload_n 2, 1) := by decide +kernel
theorem dX6_withHope_16 : decode cX6_withHope 16 = .ok (.iload 6, 2) := by decide +kernel
theorem dX6_withHope_18 : decode cX6_withHope 18 = .ok (.iushr, 1) := by decide +kernel
theorem dX6_withHope_19 : decode cX6_withHope 19 = .ok (.iconst 1, 1) := by decide +kernel
theorem dX6_withHope_20 : decode cX6_withHope 20 = .ok (.iand, 1) := by decide +kernel
theorem dX6_withHope_21 : decode cX6_withHope 21 = .ok (.ifCond .eq 31, 3) := by decide +kernel
theorem dX6_withHope_24 : decode cX6_withHope 24 = .ok (.aload_n 0, 1) := by decide +kernel
theorem dX6_withHope_25 : decode cX6_withHope 25 = .ok (.getfield 41, 3) := by decide +kernel
theorem dX6_withHope_28 : decode cX6_withHope 28 = .ok (.iload_n 1, 1) := by decide +kernel
theorem dX6_withHope_29 : decode cX6_withHope 29 = .ok (.bipush 13, 2) := by decide +kernel
theorem dX6_withHope_31 : decode cX6_withHope 31 = .ok (.imul, 1) := by decide +kernel
theorem dX6_withHope_32 : decode cX6_withHope 32 = .ok (.iload 6, 2) := by decide +kernel
theorem dX6_withHope_34 : decode cX6_withHope 34 = .ok (.iadd, 1) := by decide +kernel
theorem dX6_withHope_35 : decode cX6_withHope 35 = .ok (.laload, 1) := by decide +kernel
theorem dX6_withHope_36 : decode cX6_withHope 36 = .ok (.lload_n 3, 1) := by decide +kernel
theorem dX6_withHope_37 : decode cX6_withHope 37 = .ok (.land, 1) := by decide +kernel
theorem dX6_withHope_38 : decode cX6_withHope 38 = .ok (.lconst 0, 1) := by decide +kernel
theorem dX6_withHope_39 : decode cX6_withHope 39 = .ok (.lcmp, 1) := by decide +kernel
theorem dX6_withHope_40 : decode cX6_withHope 40 = .ok (.ifCond .eq 12, 3) := by decide +kernel
theorem dX6_withHope_43 : decode cX6_withHope 43 = .ok (.iload 5, 2) := by decide +kernel
theorem dX6_withHope_45 : decode cX6_withHope 45 = .ok (.iconst 1, 1) := by decide +kernel
theorem dX6_withHope_46 : decode cX6_withHope 46 = .ok (.iload 6, 2) := by decide +kernel
theorem dX6_withHope_48 : decode cX6_withHope 48 = .ok (.ishl, 1) := by decide +kernel
theorem dX6_withHope_49 : decode cX6_withHope 49 = .ok (.ior, 1) := by decide +kernel
theorem dX6_withHope_50 : decode cX6_withHope 50 = .ok (.istore 5, 2) := by decide +kernel
theorem dX6_withHope_52 : decode cX6_withHope 52 = .ok (.iinc 6 1, 3) := by decide +kernel
theorem dX6_withHope_55 : decode cX6_withHope 55 = .ok (.goto (-49), 3) := by decide +kernel
theorem dX6_withHope_58 : decode cX6_withHope 58 = .ok (.iload 5, 2) := by decide +kernel
theorem dX6_withHope_60 : decode cX6_withHope 60 = .ok (.ireturn, 1) := by decide +kernel
theorem dX7_init_0 : decode cX7_init 0 = .ok (.aload_n 0, 1) := by decide +kernel
theorem dX7_init_1 : decode cX7_init 1 = .ok (.invokespecial 3, 3) := by decide +kernel
theorem dX7_init_4 : decode cX7_init 4 = .ok (.aload_n 0, 1) := by decide +kernel
theorem dX7_init_5 : decode cX7_init 5 = .ok (.sipush 600, 3) := by decide +kernel
theorem dX7_init_8 : decode cX7_init 8 = .ok (.newarray .byte, 2) := by decide +kernel
theorem dX7_init_10 : decode cX7_init 10 = .ok (.putfield 9, 3) := by decide +kernel
theorem dX7_init_13 : decode cX7_init 13 = .ok (.aload_n 0, 1) := by decide +kernel
theorem dX7_init_14 : decode cX7_init 14 = .ok (.iconst (-1), 1) := by decide +kernel
theorem dX7_init_15 : decode cX7_init 15 = .ok (.putfield 13, 3) := by decide +kernel
theorem dX7_init_18 : decode cX7_init 18 = .ok (.aload_n 0, 1) := by decide +kernel
theorem dX7_init_19 : decode cX7_init 19 = .ok (.new 17, 3) := by decide +kernel
theorem dX7_init_22 : decode cX7_init 22 = .ok (.dup, 1) := by decide +kernel
theorem dX7_init_23 : decode cX7_init 23 = .ok (.invokespecial 19, 3) := by decide +kernel
theorem dX7_init_26 : decode cX7_init 26 = .ok (.putfield 20, 3) := by decide +kernel
theorem dX7_init_29 : decode cX7_init 29 = .ok (.aload_n 0, 1) := by decide +kernel
theorem dX7_init_30 : decode cX7_init 30 = .ok (.new 17, 3) := by decide +kernel
theorem dX7_init_33 : decode cX7_init 33 = .ok (.dup, 1) := by decide +kernel
theorem dX7_init_34 : decode cX7_init 34 = .ok (.invokespecial 19, 3) := by decide +kernel
theorem dX7_init_37 : decode cX7_init 37 = .ok (.putfield 24, 3) := by decide +kernel
theorem dX7_init_40 : decode cX7_init 40 = .ok (.aload_n 0, 1) := by decide +kernel
theorem dX7_init_41 : decode cX7_init 41 = .ok (.new 27, 3) := by decide +kernel
theorem dX7_init_44 : decode cX7_init 44 = .ok (.dup, 1) := by decide +kernel
theorem dX7_init_45 : decode cX7_init 45 = .ok (.aload_n 0, 1) := by decide +kernel
theorem dX7_init_46 : decode cX7_init 46 = .ok (.getfield 9, 3) := by decide +kernel
theorem dX7_init_49 : decode cX7_init 49 = .ok (.invokespecial 29, 3) := by decide +kernel
theorem dX7_init_52 : decode cX7_init 52 = .ok (.putfield 32, 3) := by decide +kernel
theorem dX7_init_55 : decode cX7_init 55 = .ok (.aload_n 0, 1) := by decide +kernel
theorem dX7_init_56 : decode cX7_init 56 = .ok (.new 36, 3) := by decide +kernel
theorem dX7_init_59 : decode cX7_init 59 = .ok (.dup, 1) := by decide +kernel
theorem dX7_init_60 : decode cX7_init 60 = .ok (.invokespecial 38, 3) := by decide +kernel
theorem dX7_init_63 : decode cX7_init 63 = .ok (.putfield 39, 3) := by decide +kernel
theorem dX7_init_66 : decode cX7_init 66 = .ok (.aload_n 0, 1) := by decide +kernel
theorem dX7_init_67 : decode cX7_init 67 = .ok (.new 43, 3) := by decide +kernel
theorem dX7_init_70 : decode cX7_init 70 = .ok (.dup, 1) := by decide +kernel
theorem dX7_init_71 : decode cX7_init 71 = .ok (.invokespecial 45, 3) := by decide +kernel
theorem dX7_init_74 : decode cX7_init 74 = .ok (.putfield 46, 3) := by decide +kernel
theorem dX7_init_77 : decode cX7_init 77 = .ok (.aload_n 0, 1) := by decide +kernel
theorem dX7_init_78 : decode cX7_init 78 = .ok (.new 50, 3) := by decide +kernel
theorem dX7_init_81 : decode cX7_init 81 = .ok (.dup, 1) := by decide +kernel
theorem dX7_init_82 : decode cX7_init 82 = .ok (.aload_n 0, 1) := by decide +kernel
theorem dX7_init_83 : decode cX7_init 83 = .ok (.getfield 20, 3) := by decide +kernel
theorem dX7_init_86 : decode cX7_init 86 = .ok (.aload_n 0, 1) := by decide +kernel
theorem dX7_init_87 : decode cX7_init 87 = .ok (.getfield 39, 3) := by decide +kernel
theorem dX7_init_90 : decode cX7_init 90 = .ok (.invokespecial 52, 3) := by decide +kernel
theorem dX7_init_93 : decode cX7_init 93 = .ok (.putfield 55, 3) := by decide +kernel
theorem dX7_init_96 : decode cX7_init 96 = .ok (.aload_n 0, 1) := by decide +kernel
theorem dX7_init_97 : decode cX7_init 97 = .ok (.new 59, 3) := by decide +kernel
theorem dX7_init_100 : decode cX7_init 100 = .ok (.dup, 1) := by decide +kernel
theorem dX7_init_101 : decode cX7_init 101 = .ok (.aload_n 0, 1) := by decide +kernel
theorem dX7_init_102 : decode cX7_init 102 = .ok (.getfield 39, 3) := by decide +kernel
theorem dX7_init_105 : decode cX7_init 105 = .ok (.new 61, 3) := by decide +kernel
theorem dX7_init_108 : decode cX7_init 108 = .ok (.dup, 1) := by decide +kernel
theorem dX7_init_109 : decode cX7_init 109 = .ok (.aload_n 0, 1) := by decide +kernel
theorem dX7_init_110 : decode cX7_init 110 = .ok (.getfield 20, 3) := by decide +kernel
theorem dX7_init_113 : decode cX7_init 113 = .ok (.aload_n 0, 1) := by decide +kernel
theorem dX7_init_114 : decode cX7_init 114 = .ok (.getfield 39, 3) := by decide +kernel
theorem dX7_init_117 : decode cX7_init 117 = .ok (.invokespecial 63, 3) := by decide +kernel
theorem dX7_init_120 : decode cX7_init 120 = .ok (.invokespecial 64, 3) := by decide +kernel
theorem dX7_init_123 : decode cX7_init 123 = .ok (.putfield 67, 3) := by decide +kernel
theorem dX7_init_126 : decode cX7_init 126 = .ok (.return_, 1) := by decide +kernel
theorem dX7_feed_0 : decode cX7_feed 0 = .ok (.aload_n 0, 1) := by decide +kernel
theorem dX7_feed_1 : decode cX7_feed 1 = .ok (.getfield 71, 3) := by decide +kernel
theorem dX7_feed_4 : decode cX7_feed 4 = .ok (.bipush 20, 2) := by decide +kernel
theorem dX7_feed_6 : decode cX7_feed 6 = .ok (.iadd, 1) := by decide +kernel
theorem dX7_feed_7 : decode cX7_feed 7 = .ok (.sipush 600, 3) := by decide +kernel
theorem dX7_feed_10 : decode cX7_feed 10 = .ok (.if_icmp .le 5, 3) := by decide +kernel
theorem dX7_feed_13 : decode cX7_feed 13 = .ok (.iconst (-1), 1) := by decide +kernel
theorem dX7_feed_14 : decode cX7_feed 14 = .ok (.ireturn, 1) := by decide +kernel
theorem dX7_feed_15 : decode cX7_feed 15 = .ok (.aload_n 0, 1) := by decide +kernel
theorem dX7_feed_16 : decode cX7_feed 16 = .ok (.iload_n 1, 1) := by decide +kernel
theorem dX7_feed_17 : decode cX7_feed 17 = .ok (.invokevirtual 74, 3) := by decide +kernel
theorem dX7_feed_20 : decode cX7_feed 20 = .ok (.aload_n 0, 1) := by decide +kernel
theorem dX7_feed_21 : decode cX7_feed 21 = .ok (.iload_n 2, 1) := by decide +kernel
theorem dX7_feed_22 : decode cX7_feed 22 = .ok (.invokevirtual 74, 3) := by decide +kernel
theorem dX7_feed_25 : decode cX7_feed 25 = .ok (.aload_n 0, 1) := by decide +kernel
theorem dX7_feed_26 : decode cX7_feed 26 = .ok (.iload_n 3, 1) := by decide +kernel
theorem dX7_feed_27 : decode cX7_feed 27 = .ok (.invokevirtual 74, 3) := by decide +kernel
theorem dX7_feed_30 : decode cX7_feed 30 = .ok (.aload_n 0, 1) := by decide +kernel
theorem dX7_feed_31 : decode cX7_feed 31 = .ok (.iload 4, 2) := by decide +kernel
theorem dX7_feed_33 : decode cX7_feed 33 = .ok (.invokevirtual 74, 3) := by decide +kernel
theorem dX7_feed_36 : decode cX7_feed 36 = .ok (.aload_n 0, 1) := by decide +kernel
theorem dX7_feed_37 : decode cX7_feed 37 = .ok (.iload 5, 2) := by decide +kernel
theorem dX7_feed_39 : decode cX7_feed 39 = .ok (.invokevirtual 74, 3) := by decide +kernel
theorem dX7_feed_42 : decode cX7_feed 42 = .ok (.aload_n 0, 1) := by decide +kernel
theorem dX7_feed_43 : decode cX7_feed 43 = .ok (.getfield 71, 3) := by decide +kernel
theorem dX7_feed_46 : decode cX7_feed 46 = .ok (.ireturn, 1) := by decide +kernel
theorem dX7_end_0 : decode cX7_end 0 = .ok (.iload_n 1, 1) := by decide +kernel
theorem dX7_end_1 : decode cX7_end 1 = .ok (.ifCond .lt 11, 3) := by decide +kernel
theorem dX7_end_4 : decode cX7_end 4 = .ok (.iload_n 1, 1) := by decide +kernel
theorem dX7_end_5 : decode cX7_end 5 = .ok (.aload_n 0, 1) := by decide +kernel
theorem dX7_end_6 : decode cX7_end 6 = .ok (.getfield 71, 3) := by decide +kernel
theorem dX7_end_9 : decode cX7_end 9 = .ok (.if_icmp .le 5, 3) := by decide +kernel
theorem dX7_end_12 : decode cX7_end 12 = .ok (.iconst (-1), 1) := by decide +kernel
theorem dX7_end_13 : decode cX7_end 13 = .ok (.ireturn, 1) := by decide +kernel
theorem dX7_end_14 : decode cX7_end 14 = .ok (.aload_n 0, 1) := by decide +kernel
theorem dX7_end_15 : decode cX7_end 15 = .ok (.iload_n 1, 1) := by decide +kernel
theorem dX7_end_16 : decode cX7_end 16 = .ok (.putfield 71, 3) := by decide +kernel
theorem dX7_end_19 : decode cX7_end 19 = .ok (.iload_n 1, 1) := by decide +kernel
theorem dX7_end_20 : decode cX7_end 20 = .ok (.ireturn, 1) := by decide +kernel
theorem dX7_building_0 : decode cX7_building 0 = .ok (.aload_n 0, 1) := by decide +kernel
theorem dX7_building_1 : decode cX7_building 1 = .ok (.getfield 32, 3) := by decide +kernel
theorem dX7_building_4 : decode cX7_building 4 = .ok (.aload_n 0, 1) := by decide +kernel
theorem dX7_building_5 : decode cX7_building 5 = .ok (.getfield 24, 3) := by decide +kernel
theorem dX7_building_8 : decode cX7_building 8 = .ok (.aload_n 0, 1) := by decide +kernel
theorem dX7_building_9 : decode cX7_building 9 = .ok (.getfield 71, 3) := by decide +kernel
theorem dX7_building_12 : decode cX7_building 12 = .ok (.invokevirtual 78, 3) := by decide +kernel
theorem dX7_building_15 : decode cX7_building 15 = .ok (.istore_n 1, 1) := by decide +kernel
theorem dX7_building_16 : decode cX7_building 16 = .ok (.aload_n 0, 1) := by decide +kernel
theorem dX7_building_17 : decode cX7_building 17 = .ok (.iconst 0, 1) := by decide +kernel
theorem dX7_building_18 : decode cX7_building 18 = .ok (.putfield 71, 3) := by decide +kernel
theorem dX7_building_21 : decode cX7_building 21 = .ok (.iload_n 1, 1) := by decide +kernel
theorem dX7_building_22 : decode cX7_building 22 = .ok (.ifCond .eq 18, 3) := by decide +kernel
theorem dX7_building_25 : decode cX7_building 25 = .ok (.aload_n 0, 1) := by decide +kernel
theorem dX7_building_26 : decode cX7_building 26 = .ok (.aload_n 0, 1) := by decide +kernel
theorem dX7_building_27 : decode cX7_building 27 = .ok (.getfield 32, 3) := by decide +kernel
theorem dX7_building_30 : decode cX7_building 30 = .ok (.getfield 82, 3) := by decide +kernel
theorem dX7_building_33 : decode cX7_building 33 = .ok (.putfield 13, 3) := by decide +kernel
theorem dX7_building_36 : decode cX7_building 36 = .ok (.iconst (-1), 1) := by decide +kernel
theorem dX7_building_37 : decode cX7_building 37 = .ok (.iload_n 1, 1) := by decide +kernel
theorem dX7_building_38 : decode cX7_building 38 = .ok (.isub, 1) := by decide +kernel
theorem dX7_building_39 : decode cX7_building 39 = .ok (.ireturn, 1) := by decide +kernel
theorem dX7_building_40 : decode cX7_building 40 = .ok (.aload_n 0, 1) := by decide +kernel
theorem dX7_building_41 : decode cX7_building 41 = .ok (.iconst (-1), 1) := by decide +kernel
theorem dX7_building_42 : decode cX7_building 42 = .ok (.putfield 13, 3) := by decide +kernel
theorem dX7_building_45 : decode cX7_building 45 = .ok (.aload_n 0, 1) := by decide +kernel
theorem dX7_building_46 : decode cX7_building 46 = .ok (.getfield 20, 3) := by decide +kernel
theorem dX7_building_49 : decode cX7_building 49 = .ok (.aload_n 0, 1) := by decide +kernel
theorem dX7_building_50 : decode cX7_building 50 = .ok (.getfield 24, 3) := by decide +kernel
theorem dX7_building_53 : decode cX7_building 53 = .ok (.invokevirtual 83, 3) := by decide +kernel
theorem dX7_building_56 : decode cX7_building 56 = .ok (.aload_n 0, 1) := by decide +kernel
theorem dX7_building_57 : decode cX7_building 57 = .ok (.iconst 0, 1) := by decide +kernel
theorem dX7_building_58 : decode cX7_building 58 = .ok (.putfield 87, 3) := by decide +kernel
theorem dX7_building_61 : decode cX7_building 61 = .ok (.aload_n 0, 1) := by decide +kernel
theorem dX7_building_62 : decode cX7_building 62 = .ok (.getfield 39, 3) := by decide +kernel
theorem dX7_building_65 : decode cX7_building 65 = .ok (.invokevirtual 90, 3) := by decide +kernel
theorem dX7_building_68 : decode cX7_building 68 = .ok (.aload_n 0, 1) := by decide +kernel
theorem dX7_building_69 : decode cX7_building 69 = .ok (.getfield 46, 3) := by decide +kernel
theorem dX7_building_72 : decode cX7_building 72 = .ok (.invokevirtual 93, 3) := by decide +kernel
theorem dX7_building_75 : decode cX7_building 75 = .ok (.aload_n 0, 1) := by decide +kernel
theorem dX7_building_76 : decode cX7_building 76 = .ok (.getfield 67, 3) := by decide +kernel
theorem dX7_building_79 : decode cX7_building 79 = .ok (.invokevirtual 94, 3) := by decide +kernel
theorem dX7_building_82 : decode cX7_building 82 = .ok (.aload_n 0, 1) := by decide +kernel
theorem dX7_building_83 : decode cX7_building 83 = .ok (.getfield 20, 3) := by decide +kernel
theorem dX7_building_86 : decode cX7_building 86 = .ok (.getfield 97, 3) := by decide +kernel
theorem dX7_building_89 : decode cX7_building 89 = .ok (.ireturn, 1) := by decide +kernel
theorem dX7_place_0 : decode cX7_place 0 = .ok (.aload_n 0, 1) := by decide +kernel
theorem dX7_place_1 : decode cX7_place 1 = .ok (.getfield 13, 3) := by decide +kernel
theorem dX7_place_4 : decode cX7_place 4 = .ok (.ireturn, 1) := by decide +kernel
theorem dX7_card_0 : decode cX7_card 0 = .ok (.aload_n 0, 1) := by decide +kernel
theorem dX7_card_1 : decode cX7_card 1 = .ok (.getfield 20, 3) := by decide +kernel
theorem dX7_card_4 : decode cX7_card 4 = .ok (.getfield 97, 3) := by decide +kernel
theorem dX7_card_7 : decode cX7_card 7 = .ok (.ifCond .eq 12, 3) := by decide +kernel
theorem dX7_card_10 : decode cX7_card 10 = .ok (.aload_n 0, 1) := by decide +kernel
theorem dX7_card_11 : decode cX7_card 11 = .ok (.getfield 87, 3) := by decide +kernel
theorem dX7_card_14 : decode cX7_card 14 = .ok (.bipush 10, 2) := by decide +kernel
theorem dX7_card_16 : decode cX7_card 16 = .ok (.if_icmp .ne 5, 3) := by decide +kernel
theorem dX7_card_19 : decode cX7_card 19 = .ok (.iconst (-1), 1) := by decide +kernel
theorem dX7_card_20 : decode cX7_card 20 = .ok (.ireturn, 1) := by decide +kernel
theorem dX7_card_21 : decode cX7_card 21 = .ok (.aload_n 0, 1) := by decide +kernel
theorem dX7_card_22 : decode cX7_card 22 = .ok (.dup, 1) := by decide +kernel
theorem dX7_card_23 : decode cX7_card 23 = .ok (.getfield 87, 3) := by decide +kernel
theorem dX7_card_26 : decode cX7_card 26 = .ok (.iconst 1, 1) := by decide +kernel
theorem dX7_card_27 : decode cX7_card 27 = .ok (.iadd, 1) := by decide +kernel
theorem dX7_card_28 : decode cX7_card 28 = .ok (.putfield 87, 3) := by decide +kernel
theorem dX7_card_31 : decode cX7_card 31 = .ok (.aload_n 0, 1) := by decide +kernel
theorem dX7_card_32 : decode cX7_card 32 = .ok (.getfield 87, 3) := by decide +kernel
theorem dX7_card_35 : decode cX7_card 35 = .ok (.iconst 1, 1) := by decide +kernel
theorem dX7_card_36 : decode cX7_card 36 = .ok (.isub, 1) := by decide +kernel
theorem dX7_card_37 : decode cX7_card 37 = .ok (.ireturn, 1) := by decide +kernel
theorem dX7_pass_0 : decode cX7_pass 0 = .ok (.aload_n 0, 1) := by decide +kernel
theorem dX7_pass_1 : decode cX7_pass 1 = .ok (.iload_n 1, 1) := by decide +kernel
theorem dX7_pass_2 : decode cX7_pass 2 = .ok (.invokevirtual 100, 3) := by decide +kernel
theorem dX7_pass_5 : decode cX7_pass 5 = .ok (.ifCond .eq 33, 3) := by decide +kernel
theorem dX7_pass_8 : decode cX7_pass 8 = .ok (.aload_n 0, 1) := by decide +kernel
theorem dX7_pass_9 : decode cX7_pass 9 = .ok (.iload_n 2, 1) := by decide +kernel
theorem dX7_pass_10 : decode cX7_pass 10 = .ok (.invokevirtual 104, 3) := by decide +kernel
theorem dX7_pass_13 : decode cX7_pass 13 = .ok (.ifCond .eq 25, 3) := by decide +kernel
theorem dX7_pass_16 : decode cX7_pass 16 = .ok (.aload_n 0, 1) := by decide +kernel
theorem dX7_pass_17 : decode cX7_pass 17 = .ok (.iload 4, 2) := by decide +kernel
theorem dX7_pass_19 : decode cX7_pass 19 = .ok (.invokevirtual 107, 3) := by decide +kernel
theorem dX7_pass_22 : decode cX7_pass 22 = .ok (.ifCond .eq 16, 3) := by decide +kernel
theorem dX7_pass_25 : decode cX7_pass 25 = .ok (.aload_n 0, 1) := by decide +kernel
theorem dX7_pass_26 : decode cX7_pass 26 = .ok (.getfield 39, 3) := by decide +kernel
theorem dX7_pass_29 : decode cX7_pass 29 = .ok (.iload_n 1, 1) := by decide +kernel
theorem dX7_pass_30 : decode cX7_pass 30 = .ok (.invokevirtual 110, 3) := by decide +kernel
theorem dX7_pass_33 : decode cX7_pass 33 = .ok (.bipush 12, 2) := by decide +kernel
theorem dX7_pass_35 : decode cX7_pass 35 = .ok (.if_icmp .lt 5, 3) := by decide +kernel
theorem dX7_pass_38 : decode cX7_pass 38 = .ok (.iconst (-1), 1) := by decide +kernel
theorem dX7_pass_39 : decode cX7_pass 39 = .ok (.ireturn, 1) := by decide +kernel
theorem dX7_pass_40 : decode cX7_pass 40 = .ok (.aload_n 0, 1) := by decide +kernel
theorem dX7_pass_41 : decode cX7_pass 41 = .ok (.getfield 39, 3) := by decide +kernel
theorem dX7_pass_44 : decode cX7_pass 44 = .ok (.iconst 0, 1) := by decide +kernel
theorem dX7_pass_45 : decode cX7_pass 45 = .ok (.iload_n 1, 1) := by decide +kernel
theorem dX7_pass_46 : decode cX7_pass 46 = .ok (.iload_n 2, 1) := by decide +kernel
theorem dX7_pass_47 : decode cX7_pass 47 = .ok (.iload 4, 2) := by decide +kernel
theorem dX7_pass_49 : decode cX7_pass 49 = .ok (.iload_n 3, 1) := by decide +kernel
theorem dX7_pass_50 : decode cX7_pass 50 = .ok (.ifCond .eq 7, 3) := by decide +kernel
theorem dX7_pass_53 : decode cX7_pass 53 = .ok (.iconst 1, 1) := by decide +kernel
theorem dX7_pass_54 : decode cX7_pass 54 = .ok (.goto 4, 3) := by decide +kernel
theorem dX7_pass_57 : decode cX7_pass 57 = .ok (.iconst 0, 1) := by decide +kernel
theorem dX7_pass_58 : decode cX7_pass 58 = .ok (.invokevirtual 114, 3) := by decide +kernel
theorem dX7_pass_61 : decode cX7_pass 61 = .ok (.ireturn, 1) := by decide +kernel
theorem dX7_gap_0 : decode cX7_gap 0 = .ok (.aload_n 0, 1) := by decide +kernel
theorem dX7_gap_1 : decode cX7_gap 1 = .ok (.iload_n 1, 1) := by decide +kernel
theorem dX7_gap_2 : decode cX7_gap 2 = .ok (.invokevirtual 104, 3) := by decide +kernel
theorem dX7_gap_5 : decode cX7_gap 5 = .ok (.ifCond .eq 24, 3) := by decide +kernel
theorem dX7_gap_8 : decode cX7_gap 8 = .ok (.aload_n 0, 1) := by decide +kernel
theorem dX7_gap_9 : decode cX7_gap 9 = .ok (.iload_n 2, 1) := by decide +kernel
theorem dX7_gap_10 : decode cX7_gap 10 = .ok (.invokevirtual 107, 3) := by decide +kernel
theorem dX7_gap_13 : decode cX7_gap 13 = .ok (.ifCond .eq 16, 3) := by decide +kernel
theorem dX7_gap_16 : decode cX7_gap 16 = .ok (.aload_n 0, 1) := by decide +kernel
theorem dX7_gap_17 : decode cX7_gap 17 = .ok (.iload_n 3, 1) := by decide +kernel
theorem dX7_gap_18 : decode cX7_gap 18 = .ok (.invokevirtual 107, 3) := by decide +kernel
theorem dX7_gap_21 : decode cX7_gap 21 = .ok (.ifCond .eq 8, 3) := by decide +kernel
theorem dX7_gap_24 : decode cX7_gap 24 = .ok (.iload_n 2, 1) := by decide +kernel
theorem dX7_gap_25 : decode cX7_gap 25 = .ok (.iload_n 3, 1) := by decide +kernel
theorem dX7_gap_26 : decode cX7_gap 26 = .ok (.if_icmp .le 5, 3) := by decide +kernel
theorem dX7_gap_29 : decode cX7_gap 29 = .ok (.iconst (-1), 1) := by decide +kernel
theorem dX7_gap_30 : decode cX7_gap 30 = .ok (.ireturn, 1) := by decide +kernel
theorem dX7_gap_31 : decode cX7_gap 31 = .ok (.aload_n 0, 1) := by decide +kernel
theorem dX7_gap_32 : decode cX7_gap 32 = .ok (.getfield 39, 3) := by decide +kernel
theorem dX7_gap_35 : decode cX7_gap 35 = .ok (.iconst 1, 1) := by decide +kernel
theorem dX7_gap_36 : decode cX7_gap 36 = .ok (.iconst (-1), 1) := by decide +kernel
theorem dX7_gap_37 : decode cX7_gap 37 = .ok (.iload_n 1, 1) := by decide +kernel
theorem dX7_gap_38 : decode cX7_gap 38 = .ok (.iload_n 2, 1) := by decide +kernel
theorem dX7_gap_39 : decode cX7_gap 39 = .ok (.iload_n 3, 1) := by decide +kernel
theorem dX7_gap_40 : decode cX7_gap 40 = .ok (.invokevirtual 114, 3) := by decide +kernel
theorem dX7_gap_43 : decode cX7_gap 43 = .ok (.ireturn, 1) := by decide +kernel
theorem dX7_sight_0 : decode cX7_sight 0 = .ok (.aload_n 0, 1) := by decide +kernel
theorem dX7_sight_1 : decode cX7_sight 1 = .ok (.iload_n 1, 1) := by decide +kernel
theorem dX7_sight_2 : decode cX7_sight 2 = .ok (.invokevirtual 100, 3) := by decide +kernel
theorem dX7_sight_5 : decode cX7_sight 5 = .ok (.ifCond .eq 19, 3) := by decide +kernel
theorem dX7_sight_8 : decode cX7_sight 8 = .ok (.aload_n 0, 1) := by decide +kernel
theorem dX7_sight_9 : decode cX7_sight 9 = .ok (.iload_n 2, 1) := by decide +kernel
theorem dX7_sight_10 : decode cX7_sight 10 = .ok (.invokevirtual 118, 3) := by decide +kernel
theorem dX7_sight_13 : decode cX7_sight 13 = .ok (.ifCond .eq 11, 3) := by decide +kernel
theorem dX7_sight_16 : decode cX7_sight 16 = .ok (.aload_n 0, 1) := by decide +kernel
theorem dX7_sight_17 : decode cX7_sight 17 = .ok (.iload_n 3, 1) := by decide +kernel
theorem dX7_sight_18 : decode cX7_sight 18 = .ok (.invokevirtual 107, 3) := by decide +kernel
theorem dX7_sight_21 : decode cX7_sight 21 = .ok (.ifCond .ne 5, 3) := by decide +kernel
theorem dX7_sight_24 : decode cX7_sight 24 = .ok (.iconst (-1), 1) := by decide +kernel
theorem dX7_sight_25 : decode cX7_sight 25 = .ok (.ireturn, 1) := by decide +kernel
theorem dX7_sight_26 : decode cX7_sight 26 = .ok (.aload_n 0, 1) := by decide +kernel
theorem dX7_sight_27 : decode cX7_sight 27 = .ok (.getfield 39, 3) := by decide +kernel
theorem dX7_sight_30 : decode cX7_sight 30 = .ok (.iconst 2, 1) := by decide +kernel
theorem dX7_sight_31 : decode cX7_sight 31 = .ok (.iload_n 1, 1) := by decide +kernel
theorem dX7_sight_32 : decode cX7_sight 32 = .ok (.iload_n 2, 1) := by decide +kernel
theorem dX7_sight_33 : decode cX7_sight 33 = .ok (.iload_n 3, 1) := by decide +kernel
theorem dX7_sight_34 : decode cX7_sight 34 = .ok (.iconst (-1), 1) := by decide +kernel
theorem dX7_sight_35 : decode cX7_sight 35 = .ok (.invokevirtual 114, 3) := by decide +kernel
theorem dX7_sight_38 : decode cX7_sight 38 = .ok (.ireturn, 1) := by decide +kernel
theorem dX7_right_0 : decode cX7_right 0 = .ok (.aload_n 0, 1) := by decide +kernel
theorem dX7_right_1 : decode cX7_right 1 = .ok (.iload_n 1, 1) := by decide +kernel
