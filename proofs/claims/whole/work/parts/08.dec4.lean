theorem dX8_broken_25 : decode cX8_broken 25 = .ok (.iconst (-1), 1) := by decide +kernel
theorem dX8_broken_26 : decode cX8_broken 26 = .ok (.ireturn, 1) := by decide +kernel
theorem dX8_broken_27 : decode cX8_broken 27 = .ok (.aload_n 0, 1) := by decide +kernel
theorem dX8_broken_28 : decode cX8_broken 28 = .ok (.iload_n 1, 1) := by decide +kernel
theorem dX8_broken_29 : decode cX8_broken 29 = .ok (.iload_n 2, 1) := by decide +kernel
theorem dX8_broken_30 : decode cX8_broken 30 = .ok (.iconst 0, 1) := by decide +kernel
theorem dX8_broken_31 : decode cX8_broken 31 = .ok (.invokevirtual 289, 3) := by decide +kernel
theorem dX8_broken_34 : decode cX8_broken 34 = .ok (.iconst 1, 1) := by decide +kernel
theorem dX8_broken_35 : decode cX8_broken 35 = .ok (.istore_n 3, 1) := by decide +kernel
theorem dX8_broken_36 : decode cX8_broken 36 = .ok (.iload_n 3, 1) := by decide +kernel
theorem dX8_broken_37 : decode cX8_broken 37 = .ok (.aload_n 0, 1) := by decide +kernel
theorem dX8_broken_38 : decode cX8_broken 38 = .ok (.getfield 235, 3) := by decide +kernel
theorem dX8_broken_41 : decode cX8_broken 41 = .ok (.if_icmp .gt 26, 3) := by decide +kernel
theorem dX8_broken_44 : decode cX8_broken 44 = .ok (.aload_n 0, 1) := by decide +kernel
theorem dX8_broken_45 : decode cX8_broken 45 = .ok (.iload_n 3, 1) := by decide +kernel
theorem dX8_broken_46 : decode cX8_broken 46 = .ok (.invokevirtual 306, 3) := by decide +kernel
theorem dX8_broken_49 : decode cX8_broken 49 = .ok (.ifCond .ne 12, 3) := by decide +kernel
theorem dX8_broken_52 : decode cX8_broken 52 = .ok (.aload_n 0, 1) := by decide +kernel
theorem dX8_broken_53 : decode cX8_broken 53 = .ok (.getfield 82, 3) := by decide +kernel
theorem dX8_broken_56 : decode cX8_broken 56 = .ok (.iload_n 3, 1) := by decide +kernel
theorem dX8_broken_57 : decode cX8_broken 57 = .ok (.iconst 1, 1) := by decide +kernel
theorem dX8_broken_58 : decode cX8_broken 58 = .ok (.isub, 1) := by decide +kernel
theorem dX8_broken_59 : decode cX8_broken 59 = .ok (.iaload, 1) := by decide +kernel
theorem dX8_broken_60 : decode cX8_broken 60 = .ok (.ireturn, 1) := by decide +kernel
theorem dX8_broken_61 : decode cX8_broken 61 = .ok (.iinc 3 1, 3) := by decide +kernel
theorem dX8_broken_64 : decode cX8_broken 64 = .ok (.goto (-28), 3) := by decide +kernel
theorem dX8_broken_67 : decode cX8_broken 67 = .ok (.iconst (-1), 1) := by decide +kernel
theorem dX8_broken_68 : decode cX8_broken 68 = .ok (.ireturn, 1) := by decide +kernel
theorem dX8_many_0 : decode cX8_many 0 = .ok (.aload_n 0, 1) := by decide +kernel
theorem dX8_many_1 : decode cX8_many 1 = .ok (.iconst 0, 1) := by decide +kernel
theorem dX8_many_2 : decode cX8_many 2 = .ok (.putfield 1, 3) := by decide +kernel
theorem dX8_many_5 : decode cX8_many 5 = .ok (.aload_n 0, 1) := by decide +kernel
theorem dX8_many_6 : decode cX8_many 6 = .ok (.iload_n 1, 1) := by decide +kernel
theorem dX8_many_7 : decode cX8_many 7 = .ok (.invokevirtual 227, 3) := by decide +kernel
theorem dX8_many_10 : decode cX8_many 10 = .ok (.ifCond .eq 32, 3) := by decide +kernel
theorem dX8_many_13 : decode cX8_many 13 = .ok (.iload_n 2, 1) := by decide +kernel
theorem dX8_many_14 : decode cX8_many 14 = .ok (.invokestatic 220, 3) := by decide +kernel
theorem dX8_many_17 : decode cX8_many 17 = .ok (.ifCond .eq 25, 3) := by decide +kernel
theorem dX8_many_20 : decode cX8_many 20 = .ok (.iload_n 3, 1) := by decide +kernel
theorem dX8_many_21 : decode cX8_many 21 = .ok (.iconst 0, 1) := by decide +kernel
theorem dX8_many_22 : decode cX8_many 22 = .ok (.aload_n 0, 1) := by decide +kernel
theorem dX8_many_23 : decode cX8_many 23 = .ok (.getfield 207, 3) := by decide +kernel
theorem dX8_many_26 : decode cX8_many 26 = .ok (.invokestatic 216, 3) := by decide +kernel
theorem dX8_many_29 : decode cX8_many 29 = .ok (.ifCond .eq 13, 3) := by decide +kernel
theorem dX8_many_32 : decode cX8_many 32 = .ok (.iload 4, 2) := by decide +kernel
theorem dX8_many_34 : decode cX8_many 34 = .ok (.iconst 0, 1) := by decide +kernel
theorem dX8_many_35 : decode cX8_many 35 = .ok (.iconst 1, 1) := by decide +kernel
theorem dX8_many_36 : decode cX8_many 36 = .ok (.invokestatic 216, 3) := by decide +kernel
theorem dX8_many_39 : decode cX8_many 39 = .ok (.ifCond .ne 5, 3) := by decide +kernel
theorem dX8_many_42 : decode cX8_many 42 = .ok (.iconst (-1), 1) := by decide +kernel
theorem dX8_many_43 : decode cX8_many 43 = .ok (.ireturn, 1) := by decide +kernel
theorem dX8_many_44 : decode cX8_many 44 = .ok (.iconst 0, 1) := by decide +kernel
theorem dX8_many_45 : decode cX8_many 45 = .ok (.istore 5, 2) := by decide +kernel
theorem dX8_many_47 : decode cX8_many 47 = .ok (.iconst 0, 1) := by decide +kernel
theorem dX8_many_48 : decode cX8_many 48 = .ok (.istore 6, 2) := by decide +kernel
theorem dX8_many_50 : decode cX8_many 50 = .ok (.iload 6, 2) := by decide +kernel
theorem dX8_many_52 : decode cX8_many 52 = .ok (.aload_n 0, 1) := by decide +kernel
theorem dX8_many_53 : decode cX8_many 53 = .ok (.getfield 204, 3) := by decide +kernel
theorem dX8_many_56 : decode cX8_many 56 = .ok (.if_icmp .ge 48, 3) := by decide +kernel
theorem dX8_many_59 : decode cX8_many 59 = .ok (.aload_n 0, 1) := by decide +kernel
theorem dX8_many_60 : decode cX8_many 60 = .ok (.iload 6, 2) := by decide +kernel
theorem dX8_many_62 : decode cX8_many 62 = .ok (.iload_n 2, 1) := by decide +kernel
theorem dX8_many_63 : decode cX8_many 63 = .ok (.iload_n 3, 1) := by decide +kernel
theorem dX8_many_64 : decode cX8_many 64 = .ok (.invokevirtual 299, 3) := by decide +kernel
theorem dX8_many_67 : decode cX8_many 67 = .ok (.istore 7, 2) := by decide +kernel
theorem dX8_many_69 : decode cX8_many 69 = .ok (.iload 4, 2) := by decide +kernel
theorem dX8_many_71 : decode cX8_many 71 = .ok (.ifCond .ne 14, 3) := by decide +kernel
theorem dX8_many_74 : decode cX8_many 74 = .ok (.iload 7, 2) := by decide +kernel
theorem dX8_many_76 : decode cX8_many 76 = .ok (.iconst 1, 1) := by decide +kernel
theorem dX8_many_77 : decode cX8_many 77 = .ok (.iload_n 1, 1) := by decide +kernel
theorem dX8_many_78 : decode cX8_many 78 = .ok (.ishl, 1) := by decide +kernel
theorem dX8_many_79 : decode cX8_many 79 = .ok (.if_icmp .ne 19, 3) := by decide +kernel
theorem dX8_many_82 : decode cX8_many 82 = .ok (.goto 13, 3) := by decide +kernel
theorem dX8_many_85 : decode cX8_many 85 = .ok (.iload 7, 2) := by decide +kernel
theorem dX8_many_87 : decode cX8_many 87 = .ok (.iload_n 1, 1) := by decide +kernel
theorem dX8_many_88 : decode cX8_many 88 = .ok (.ishr, 1) := by decide +kernel
theorem dX8_many_89 : decode cX8_many 89 = .ok (.iconst 1, 1) := by decide +kernel
theorem dX8_many_90 : decode cX8_many 90 = .ok (.iand, 1) := by decide +kernel
theorem dX8_many_91 : decode cX8_many 91 = .ok (.iconst 1, 1) := by decide +kernel
theorem dX8_many_92 : decode cX8_many 92 = .ok (.if_icmp .ne 6, 3) := by decide +kernel
theorem dX8_many_95 : decode cX8_many 95 = .ok (.iinc 5 1, 3) := by decide +kernel
theorem dX8_many_98 : decode cX8_many 98 = .ok (.iinc 6 1, 3) := by decide +kernel
theorem dX8_many_101 : decode cX8_many 101 = .ok (.goto (-51), 3) := by decide +kernel
theorem dX8_many_104 : decode cX8_many 104 = .ok (.iload 5, 2) := by decide +kernel
theorem dX8_many_106 : decode cX8_many 106 = .ok (.ireturn, 1) := by decide +kernel
theorem dX8_inside_0 : decode cX8_inside 0 = .ok (.aload_n 0, 1) := by decide +kernel
theorem dX8_inside_1 : decode cX8_inside 1 = .ok (.iconst 0, 1) := by decide +kernel
theorem dX8_inside_2 : decode cX8_inside 2 = .ok (.putfield 1, 3) := by decide +kernel
theorem dX8_inside_5 : decode cX8_inside 5 = .ok (.iload_n 1, 1) := by decide +kernel
theorem dX8_inside_6 : decode cX8_inside 6 = .ok (.invokestatic 220, 3) := by decide +kernel
theorem dX8_inside_9 : decode cX8_inside 9 = .ok (.ifCond .eq 24, 3) := by decide +kernel
theorem dX8_inside_12 : decode cX8_inside 12 = .ok (.iload_n 2, 1) := by decide +kernel
theorem dX8_inside_13 : decode cX8_inside 13 = .ok (.iconst 0, 1) := by decide +kernel
theorem dX8_inside_14 : decode cX8_inside 14 = .ok (.aload_n 0, 1) := by decide +kernel
theorem dX8_inside_15 : decode cX8_inside 15 = .ok (.getfield 207, 3) := by decide +kernel
theorem dX8_inside_18 : decode cX8_inside 18 = .ok (.invokestatic 216, 3) := by decide +kernel
theorem dX8_inside_21 : decode cX8_inside 21 = .ok (.ifCond .eq 12, 3) := by decide +kernel
theorem dX8_inside_24 : decode cX8_inside 24 = .ok (.iload_n 3, 1) := by decide +kernel
theorem dX8_inside_25 : decode cX8_inside 25 = .ok (.iconst 0, 1) := by decide +kernel
theorem dX8_inside_26 : decode cX8_inside 26 = .ok (.iconst 2, 1) := by decide +kernel
theorem dX8_inside_27 : decode cX8_inside 27 = .ok (.invokestatic 216, 3) := by decide +kernel
theorem dX8_inside_30 : decode cX8_inside 30 = .ok (.ifCond .ne 5, 3) := by decide +kernel
theorem dX8_inside_33 : decode cX8_inside 33 = .ok (.iconst (-1), 1) := by decide +kernel
theorem dX8_inside_34 : decode cX8_inside 34 = .ok (.ireturn, 1) := by decide +kernel
theorem dX8_inside_35 : decode cX8_inside 35 = .ok (.iconst 0, 1) := by decide +kernel
theorem dX8_inside_36 : decode cX8_inside 36 = .ok (.istore 4, 2) := by decide +kernel
theorem dX8_inside_38 : decode cX8_inside 38 = .ok (.iconst 0, 1) := by decide +kernel
theorem dX8_inside_39 : decode cX8_inside 39 = .ok (.istore 5, 2) := by decide +kernel
theorem dX8_inside_41 : decode cX8_inside 41 = .ok (.iconst 0, 1) := by decide +kernel
theorem dX8_inside_42 : decode cX8_inside 42 = .ok (.istore 6, 2) := by decide +kernel
theorem dX8_inside_44 : decode cX8_inside 44 = .ok (.iconst 0, 1) := by decide +kernel
theorem dX8_inside_45 : decode cX8_inside 45 = .ok (.istore 7, 2) := by decide +kernel
theorem dX8_inside_47 : decode cX8_inside 47 = .ok (.iload 7, 2) := by decide +kernel
theorem dX8_inside_49 : decode cX8_inside 49 = .ok (.aload_n 0, 1) := by decide +kernel
theorem dX8_inside_50 : decode cX8_inside 50 = .ok (.getfield 204, 3) := by decide +kernel
theorem dX8_inside_53 : decode cX8_inside 53 = .ok (.if_icmp .ge 55, 3) := by decide +kernel
theorem dX8_inside_56 : decode cX8_inside 56 = .ok (.aload_n 0, 1) := by decide +kernel
theorem dX8_inside_57 : decode cX8_inside 57 = .ok (.iload 7, 2) := by decide +kernel
theorem dX8_inside_59 : decode cX8_inside 59 = .ok (.iload_n 1, 1) := by decide +kernel
theorem dX8_inside_60 : decode cX8_inside 60 = .ok (.iload_n 2, 1) := by decide +kernel
theorem dX8_inside_61 : decode cX8_inside 61 = .ok (.invokevirtual 299, 3) := by decide +kernel
theorem dX8_inside_64 : decode cX8_inside 64 = .ok (.istore 8, 2) := by decide +kernel
theorem dX8_inside_66 : decode cX8_inside 66 = .ok (.iload 8, 2) := by decide +kernel
theorem dX8_inside_68 : decode cX8_inside 68 = .ok (.ifCond .eq 13, 3) := by decide +kernel
theorem dX8_inside_71 : decode cX8_inside 71 = .ok (.iload 8, 2) := by decide +kernel
theorem dX8_inside_73 : decode cX8_inside 73 = .ok (.iconst 1, 1) := by decide +kernel
theorem dX8_inside_74 : decode cX8_inside 74 = .ok (.iand, 1) := by decide +kernel
theorem dX8_inside_75 : decode cX8_inside 75 = .ok (.ifCond .ne 6, 3) := by decide +kernel
theorem dX8_inside_78 : decode cX8_inside 78 = .ok (.iinc 4 1, 3) := by decide +kernel
theorem dX8_inside_81 : decode cX8_inside 81 = .ok (.iload 8, 2) := by decide +kernel
theorem dX8_inside_83 : decode cX8_inside 83 = .ok (.iconst 2, 1) := by decide +kernel
theorem dX8_inside_84 : decode cX8_inside 84 = .ok (.if_icmp .ge 6, 3) := by decide +kernel
theorem dX8_inside_87 : decode cX8_inside 87 = .ok (.goto 15, 3) := by decide +kernel
theorem dX8_inside_90 : decode cX8_inside 90 = .ok (.iinc 5 1, 3) := by decide +kernel
theorem dX8_inside_93 : decode cX8_inside 93 = .ok (.iload 6, 2) := by decide +kernel
theorem dX8_inside_95 : decode cX8_inside 95 = .ok (.iconst 1, 1) := by decide +kernel
theorem dX8_inside_96 : decode cX8_inside 96 = .ok (.iload 7, 2) := by decide +kernel
theorem dX8_inside_98 : decode cX8_inside 98 = .ok (.ishl, 1) := by decide +kernel
theorem dX8_inside_99 : decode cX8_inside 99 = .ok (.ior, 1) := by decide +kernel
theorem dX8_inside_100 : decode cX8_inside 100 = .ok (.istore 6, 2) := by decide +kernel
theorem dX8_inside_102 : decode cX8_inside 102 = .ok (.iinc 7 1, 3) := by decide +kernel
theorem dX8_inside_105 : decode cX8_inside 105 = .ok (.goto (-58), 3) := by decide +kernel
theorem dX8_inside_108 : decode cX8_inside 108 = .ok (.iload_n 3, 1) := by decide +kernel
theorem dX8_inside_109 : decode cX8_inside 109 = .ok (.ifCond .ne 8, 3) := by decide +kernel
theorem dX8_inside_112 : decode cX8_inside 112 = .ok (.iload 4, 2) := by decide +kernel
theorem dX8_inside_114 : decode cX8_inside 114 = .ok (.goto 15, 3) := by decide +kernel
theorem dX8_inside_117 : decode cX8_inside 117 = .ok (.iload_n 3, 1) := by decide +kernel
theorem dX8_inside_118 : decode cX8_inside 118 = .ok (.iconst 1, 1) := by decide +kernel
theorem dX8_inside_119 : decode cX8_inside 119 = .ok (.if_icmp .ne 8, 3) := by decide +kernel
theorem dX8_inside_122 : decode cX8_inside 122 = .ok (.iload 5, 2) := by decide +kernel
theorem dX8_inside_124 : decode cX8_inside 124 = .ok (.goto 5, 3) := by decide +kernel
theorem dX8_inside_127 : decode cX8_inside 127 = .ok (.iload 6, 2) := by decide +kernel
theorem dX8_inside_129 : decode cX8_inside 129 = .ok (.ireturn, 1) := by decide +kernel
theorem dX8_dayOf_0 : decode cX8_dayOf 0 = .ok (.iload_n 0, 1) := by decide +kernel
theorem dX8_dayOf_1 : decode cX8_dayOf 1 = .ok (.bipush 25, 2) := by decide +kernel
theorem dX8_dayOf_3 : decode cX8_dayOf 3 = .ok (.idiv, 1) := by decide +kernel
theorem dX8_dayOf_4 : decode cX8_dayOf 4 = .ok (.ireturn, 1) := by decide +kernel
theorem dX8_isPassOf_0 : decode cX8_isPassOf 0 = .ok (.aload_n 0, 1) := by decide +kernel
theorem dX8_isPassOf_1 : decode cX8_isPassOf 1 = .ok (.getfield 51, 3) := by decide +kernel
theorem dX8_isPassOf_4 : decode cX8_isPassOf 4 = .ok (.iload_n 1, 1) := by decide +kernel
theorem dX8_isPassOf_5 : decode cX8_isPassOf 5 = .ok (.iaload, 1) := by decide +kernel
theorem dX8_isPassOf_6 : decode cX8_isPassOf 6 = .ok (.ifCond .ne 17, 3) := by decide +kernel
theorem dX8_isPassOf_9 : decode cX8_isPassOf 9 = .ok (.aload_n 0, 1) := by decide +kernel
theorem dX8_isPassOf_10 : decode cX8_isPassOf 10 = .ok (.getfield 54, 3) := by decide +kernel
theorem dX8_isPassOf_13 : decode cX8_isPassOf 13 = .ok (.iload_n 1, 1) := by decide +kernel
theorem dX8_isPassOf_14 : decode cX8_isPassOf 14 = .ok (.iaload, 1) := by decide +kernel
theorem dX8_isPassOf_15 : decode cX8_isPassOf 15 = .ok (.iload_n 2, 1) := by decide +kernel
theorem dX8_isPassOf_16 : decode cX8_isPassOf 16 = .ok (.if_icmp .ne 7, 3) := by decide +kernel
theorem dX8_isPassOf_19 : decode cX8_isPassOf 19 = .ok (.iconst 1, 1) := by decide +kernel
theorem dX8_isPassOf_20 : decode cX8_isPassOf 20 = .ok (.goto 4, 3) := by decide +kernel
theorem dX8_isPassOf_23 : decode cX8_isPassOf 23 = .ok (.iconst 0, 1) := by decide +kernel
theorem dX8_isPassOf_24 : decode cX8_isPassOf 24 = .ok (.ireturn, 1) := by decide +kernel
theorem dX8_isFirst_0 : decode cX8_isFirst 0 = .ok (.iconst 0, 1) := by decide +kernel
theorem dX8_isFirst_1 : decode cX8_isFirst 1 = .ok (.istore_n 2, 1) := by decide +kernel
theorem dX8_isFirst_2 : decode cX8_isFirst 2 = .ok (.iload_n 2, 1) := by decide +kernel
theorem dX8_isFirst_3 : decode cX8_isFirst 3 = .ok (.iload_n 1, 1) := by decide +kernel
theorem dX8_isFirst_4 : decode cX8_isFirst 4 = .ok (.if_icmp .ge 38, 3) := by decide +kernel
theorem dX8_isFirst_7 : decode cX8_isFirst 7 = .ok (.aload_n 0, 1) := by decide +kernel
theorem dX8_isFirst_8 : decode cX8_isFirst 8 = .ok (.iload_n 2, 1) := by decide +kernel
theorem dX8_isFirst_9 : decode cX8_isFirst 9 = .ok (.aload_n 0, 1) := by decide +kernel
theorem dX8_isFirst_10 : decode cX8_isFirst 10 = .ok (.getfield 54, 3) := by decide +kernel
theorem dX8_isFirst_13 : decode cX8_isFirst 13 = .ok (.iload_n 1, 1) := by decide +kernel
theorem dX8_isFirst_14 : decode cX8_isFirst 14 = .ok (.iaload, 1) := by decide +kernel
theorem dX8_isFirst_15 : decode cX8_isFirst 15 = .ok (.invokevirtual 309, 3) := by decide +kernel
theorem dX8_isFirst_18 : decode cX8_isFirst 18 = .ok (.ifCond .eq 18, 3) := by decide +kernel
theorem dX8_isFirst_21 : decode cX8_isFirst 21 = .ok (.aload_n 0, 1) := by decide +kernel
theorem dX8_isFirst_22 : decode cX8_isFirst 22 = .ok (.iload_n 2, 1) := by decide +kernel
theorem dX8_isFirst_23 : decode cX8_isFirst 23 = .ok (.invokevirtual 272, 3) := by decide +kernel
theorem dX8_isFirst_26 : decode cX8_isFirst 26 = .ok (.aload_n 0, 1) := by decide +kernel
theorem dX8_isFirst_27 : decode cX8_isFirst 27 = .ok (.iload_n 1, 1) := by decide +kernel
theorem dX8_isFirst_28 : decode cX8_isFirst 28 = .ok (.invokevirtual 272, 3) := by decide +kernel
theorem dX8_isFirst_31 : decode cX8_isFirst 31 = .ok (.if_icmp .ne 5, 3) := by decide +kernel
theorem dX8_isFirst_34 : decode cX8_isFirst 34 = .ok (.iconst 0, 1) := by decide +kernel
theorem dX8_isFirst_35 : decode cX8_isFirst 35 = .ok (.ireturn, 1) := by decide +kernel
theorem dX8_isFirst_36 : decode cX8_isFirst 36 = .ok (.iinc 2 1, 3) := by decide +kernel
theorem dX8_isFirst_39 : decode cX8_isFirst 39 = .ok (.goto (-37), 3) := by decide +kernel
theorem dX8_isFirst_42 : decode cX8_isFirst 42 = .ok (.iconst 1, 1) := by decide +kernel
theorem dX8_isFirst_43 : decode cX8_isFirst 43 = .ok (.ireturn, 1) := by decide +kernel
theorem dX8_earliest_0 : decode cX8_earliest 0 = .ok (.iconst (-1), 1) := by decide +kernel
theorem dX8_earliest_1 : decode cX8_earliest 1 = .ok (.istore_n 3, 1) := by decide +kernel
theorem dX8_earliest_2 : decode cX8_earliest 2 = .ok (.iconst 0, 1) := by decide +kernel
theorem dX8_earliest_3 : decode cX8_earliest 3 = .ok (.istore 4, 2) := by decide +kernel
theorem dX8_earliest_5 : decode cX8_earliest 5 = .ok (.iload 4, 2) := by decide +kernel
theorem dX8_earliest_7 : decode cX8_earliest 7 = .ok (.iload_n 1, 1) := by decide +kernel
theorem dX8_earliest_8 : decode cX8_earliest 8 = .ok (.if_icmp .ge 83, 3) := by decide +kernel
theorem dX8_earliest_11 : decode cX8_earliest 11 = .ok (.aload_n 0, 1) := by decide +kernel
theorem dX8_earliest_12 : decode cX8_earliest 12 = .ok (.iload 4, 2) := by decide +kernel
theorem dX8_earliest_14 : decode cX8_earliest 14 = .ok (.aload_n 0, 1) := by decide +kernel
theorem dX8_earliest_15 : decode cX8_earliest 15 = .ok (.getfield 54, 3) := by decide +kernel
theorem dX8_earliest_18 : decode cX8_earliest 18 = .ok (.iload_n 1, 1) := by decide +kernel
theorem dX8_earliest_19 : decode cX8_earliest 19 = .ok (.iaload, 1) := by decide +kernel
theorem dX8_earliest_20 : decode cX8_earliest 20 = .ok (.invokevirtual 309, 3) := by decide +kernel
theorem dX8_earliest_23 : decode cX8_earliest 23 = .ok (.ifCond .eq 30, 3) := by decide +kernel
theorem dX8_earliest_26 : decode cX8_earliest 26 = .ok (.aload_n 0, 1) := by decide +kernel
theorem dX8_earliest_27 : decode cX8_earliest 27 = .ok (.iload 4, 2) := by decide +kernel
theorem dX8_earliest_29 : decode cX8_earliest 29 = .ok (.invokevirtual 269, 3) := by decide +kernel
theorem dX8_earliest_32 : decode cX8_earliest 32 = .ok (.ifCond .ne 21, 3) := by decide +kernel
theorem dX8_earliest_35 : decode cX8_earliest 35 = .ok (.aload_n 0, 1) := by decide +kernel
theorem dX8_earliest_36 : decode cX8_earliest 36 = .ok (.getfield 60, 3) := by decide +kernel
theorem dX8_earliest_39 : decode cX8_earliest 39 = .ok (.iload 4, 2) := by decide +kernel
theorem dX8_earliest_41 : decode cX8_earliest 41 = .ok (.iaload, 1) := by decide +kernel
theorem dX8_earliest_42 : decode cX8_earliest 42 = .ok (.invokestatic 312, 3) := by decide +kernel
theorem dX8_earliest_45 : decode cX8_earliest 45 = .ok (.iload_n 2, 1) := by decide +kernel
theorem dX8_earliest_46 : decode cX8_earliest 46 = .ok (.if_icmp .ne 7, 3) := by decide +kernel
theorem dX8_earliest_49 : decode cX8_earliest 49 = .ok (.iconst 1, 1) := by decide +kernel
theorem dX8_earliest_50 : decode cX8_earliest 50 = .ok (.goto 4, 3) := by decide +kernel
theorem dX8_earliest_53 : decode cX8_earliest 53 = .ok (.iconst 0, 1) := by decide +kernel
theorem dX8_earliest_54 : decode cX8_earliest 54 = .ok (.istore 5, 2) := by decide +kernel
theorem dX8_earliest_56 : decode cX8_earliest 56 = .ok (.iload 5, 2) := by decide +kernel
theorem dX8_earliest_58 : decode cX8_earliest 58 = .ok (.ifCond .eq 27, 3) := by decide +kernel
theorem dX8_earliest_61 : decode cX8_earliest 61 = .ok (.iload_n 3, 1) := by decide +kernel
theorem dX8_earliest_62 : decode cX8_earliest 62 = .ok (.iconst (-1), 1) := by decide +kernel
theorem dX8_earliest_63 : decode cX8_earliest 63 = .ok (.if_icmp .eq 14, 3) := by decide +kernel
theorem dX8_earliest_66 : decode cX8_earliest 66 = .ok (.aload_n 0, 1) := by decide +kernel
theorem dX8_earliest_67 : decode cX8_earliest 67 = .ok (.getfield 60, 3) := by decide +kernel
theorem dX8_earliest_70 : decode cX8_earliest 70 = .ok (.iload 4, 2) := by decide +kernel
theorem dX8_earliest_72 : decode cX8_earliest 72 = .ok (.iaload, 1) := by decide +kernel
theorem dX8_earliest_73 : decode cX8_earliest 73 = .ok (.iload_n 3, 1) := by decide +kernel
theorem dX8_earliest_74 : decode cX8_earliest 74 = .ok (.if_icmp .ge 11, 3) := by decide +kernel
theorem dX8_earliest_77 : decode cX8_earliest 77 = .ok (.aload_n 0, 1) := by decide +kernel
theorem dX8_earliest_78 : decode cX8_earliest 78 = .ok (.getfield 60, 3) := by decide +kernel
theorem dX8_earliest_81 : decode cX8_earliest 81 = .ok (.iload 4, 2) := by decide +kernel
theorem dX8_earliest_83 : decode cX8_earliest 83 = .ok (.iaload, 1) := by decide +kernel
theorem dX8_earliest_84 : decode cX8_earliest 84 = .ok (.istore_n 3, 1) := by decide +kernel
theorem dX8_earliest_85 : decode cX8_earliest 85 = .ok (.iinc 4 1, 3) := by decide +kernel
theorem dX8_earliest_88 : decode cX8_earliest 88 = .ok (.goto (-83), 3) := by decide +kernel
theorem dX8_earliest_91 : decode cX8_earliest 91 = .ok (.iload_n 3, 1) := by decide +kernel
theorem dX8_earliest_92 : decode cX8_earliest 92 = .ok (.ireturn, 1) := by decide +kernel
theorem dX8_odd_0 : decode cX8_odd 0 = .ok (.aload_n 0, 1) := by decide +kernel
theorem dX8_odd_1 : decode cX8_odd 1 = .ok (.iconst 0, 1) := by decide +kernel
theorem dX8_odd_2 : decode cX8_odd 2 = .ok (.putfield 1, 3) := by decide +kernel
theorem dX8_odd_5 : decode cX8_odd 5 = .ok (.iload_n 1, 1) := by decide +kernel
theorem dX8_odd_6 : decode cX8_odd 6 = .ok (.ifCond .lt 29, 3) := by decide +kernel
theorem dX8_odd_9 : decode cX8_odd 9 = .ok (.iload_n 1, 1) := by decide +kernel
theorem dX8_odd_10 : decode cX8_odd 10 = .ok (.aload_n 0, 1) := by decide +kernel
theorem dX8_odd_11 : decode cX8_odd 11 = .ok (.getfield 207, 3) := by decide +kernel
theorem dX8_odd_14 : decode cX8_odd 14 = .ok (.if_icmp .ge 21, 3) := by decide +kernel
theorem dX8_odd_17 : decode cX8_odd 17 = .ok (.aload_n 0, 1) := by decide +kernel
theorem dX8_odd_18 : decode cX8_odd 18 = .ok (.getfield 51, 3) := by decide +kernel
theorem dX8_odd_21 : decode cX8_odd 21 = .ok (.iload_n 1, 1) := by decide +kernel
theorem dX8_odd_22 : decode cX8_odd 22 = .ok (.iaload, 1) := by decide +kernel
theorem dX8_odd_23 : decode cX8_odd 23 = .ok (.ifCond .ne 12, 3) := by decide +kernel
theorem dX8_odd_26 : decode cX8_odd 26 = .ok (.iload_n 2, 1) := by decide +kernel
theorem dX8_odd_27 : decode cX8_odd 27 = .ok (.iconst 0, 1) := by decide +kernel
theorem dX8_odd_28 : decode cX8_odd 28 = .ok (.iconst 3, 1) := by decide +kernel
theorem dX8_odd_29 : decode cX8_odd 29 = .ok (.invokestatic 216, 3) := by decide +kernel
theorem dX8_odd_32 : decode cX8_odd 32 = .ok (.ifCond .ne 5, 3) := by decide +kernel
theorem dX8_odd_35 : decode cX8_odd 35 = .ok (.iconst (-1), 1) := by decide +kernel
theorem dX8_odd_36 : decode cX8_odd 36 = .ok (.ireturn, 1) := by decide +kernel
theorem dX8_odd_37 : decode cX8_odd 37 = .ok (.iload_n 2, 1) := by decide +kernel
theorem dX8_odd_38 : decode cX8_odd 38 = .ok (.ifCond .ne 17, 3) := by decide +kernel
theorem dX8_odd_41 : decode cX8_odd 41 = .ok (.aload_n 0, 1) := by decide +kernel
theorem dX8_odd_42 : decode cX8_odd 42 = .ok (.iload_n 1, 1) := by decide +kernel
theorem dX8_odd_43 : decode cX8_odd 43 = .ok (.invokevirtual 315, 3) := by decide +kernel
theorem dX8_odd_46 : decode cX8_odd 46 = .ok (.ifCond .eq 7, 3) := by decide +kernel
theorem dX8_odd_49 : decode cX8_odd 49 = .ok (.iconst 1, 1) := by decide +kernel
theorem dX8_odd_50 : decode cX8_odd 50 = .ok (.goto 4, 3) := by decide +kernel
theorem dX8_odd_53 : decode cX8_odd 53 = .ok (.iconst 0, 1) := by decide +kernel
theorem dX8_odd_54 : decode cX8_odd 54 = .ok (.ireturn, 1) := by decide +kernel
theorem dX8_odd_55 : decode cX8_odd 55 = .ok (.iload_n 2, 1) := by decide +kernel
theorem dX8_odd_56 : decode cX8_odd 56 = .ok (.iconst 1, 1) := by decide +kernel
theorem dX8_odd_57 : decode cX8_odd 57 = .ok (.if_icmp .ne 33, 3) := by decide +kernel
theorem dX8_odd_60 : decode cX8_odd 60 = .ok (.aload_n 0, 1) := by decide +kernel
theorem dX8_odd_61 : decode cX8_odd 61 = .ok (.aload_n 0, 1) := by decide +kernel
theorem dX8_odd_62 : decode cX8_odd 62 = .ok (.getfield 54, 3) := by decide +kernel
theorem dX8_odd_65 : decode cX8_odd 65 = .ok (.iload_n 1, 1) := by decide +kernel
theorem dX8_odd_66 : decode cX8_odd 66 = .ok (.iaload, 1) := by decide +kernel
theorem dX8_odd_67 : decode cX8_odd 67 = .ok (.aload_n 0, 1) := by decide +kernel
theorem dX8_odd_68 : decode cX8_odd 68 = .ok (.iload_n 1, 1) := by decide +kernel
theorem dX8_odd_69 : decode cX8_odd 69 = .ok (.invokevirtual 272, 3) := by decide +kernel
theorem dX8_odd_72 : decode cX8_odd 72 = .ok (.aload_n 0, 1) := by decide +kernel
theorem dX8_odd_73 : decode cX8_odd 73 = .ok (.getfield 60, 3) := by decide +kernel
theorem dX8_odd_76 : decode cX8_odd 76 = .ok (.iload_n 1, 1) := by decide +kernel
theorem dX8_odd_77 : decode cX8_odd 77 = .ok (.iaload, 1) := by decide +kernel
theorem dX8_odd_78 : decode cX8_odd 78 = .ok (.invokevirtual 230, 3) := by decide +kernel
theorem dX8_odd_81 : decode cX8_odd 81 = .ok (.ifCond .eq 7, 3) := by decide +kernel
theorem dX8_odd_84 : decode cX8_odd 84 = .ok (.iconst 1, 1) := by decide +kernel
theorem dX8_odd_85 : decode cX8_odd 85 = .ok (.goto 4, 3) := by decide +kernel
theorem dX8_odd_88 : decode cX8_odd 88 = .ok (.iconst 0, 1) := by decide +kernel
theorem dX8_odd_89 : decode cX8_odd 89 = .ok (.ireturn, 1) := by decide +kernel
theorem dX8_odd_90 : decode cX8_odd 90 = .ok (.aload_n 0, 1) := by decide +kernel
theorem dX8_odd_91 : decode cX8_odd 91 = .ok (.iload_n 1, 1) := by decide +kernel
theorem dX8_odd_92 : decode cX8_odd 92 = .ok (.invokevirtual 269, 3) := by decide +kernel
theorem dX8_odd_95 : decode cX8_odd 95 = .ok (.ifCond .eq 5, 3) := by decide +kernel
theorem dX8_odd_98 : decode cX8_odd 98 = .ok (.iconst (-1), 1) := by decide +kernel
theorem dX8_odd_99 : decode cX8_odd 99 = .ok (.ireturn, 1) := by decide +kernel
theorem dX8_odd_100 : decode cX8_odd 100 = .ok (.iconst 0, 1) := by decide +kernel
theorem dX8_odd_101 : decode cX8_odd 101 = .ok (.istore_n 3, 1) := by decide +kernel
theorem dX8_odd_102 : decode cX8_odd 102 = .ok (.iconst 0, 1) := by decide +kernel
theorem dX8_odd_103 : decode cX8_odd 103 = .ok (.istore 4, 2) := by decide +kernel
theorem dX8_odd_105 : decode cX8_odd 105 = .ok (.iconst 0, 1) := by decide +kernel
theorem dX8_odd_106 : decode cX8_odd 106 = .ok (.istore 5, 2) := by decide +kernel
theorem dX8_odd_108 : decode cX8_odd 108 = .ok (.iload 5, 2) := by decide +kernel
theorem dX8_odd_110 : decode cX8_odd 110 = .ok (.aload_n 0, 1) := by decide +kernel
theorem dX8_odd_111 : decode cX8_odd 111 = .ok (.getfield 60, 3) := by decide +kernel
theorem dX8_odd_114 : decode cX8_odd 114 = .ok (.iload_n 1, 1) := by decide +kernel
theorem dX8_odd_115 : decode cX8_odd 115 = .ok (.iaload, 1) := by decide +kernel
theorem dX8_odd_116 : decode cX8_odd 116 = .ok (.invokestatic 312, 3) := by decide +kernel
theorem dX8_odd_119 : decode cX8_odd 119 = .ok (.if_icmp .ge 50, 3) := by decide +kernel
theorem dX8_odd_122 : decode cX8_odd 122 = .ok (.aload_n 0, 1) := by decide +kernel
theorem dX8_odd_123 : decode cX8_odd 123 = .ok (.iload_n 1, 1) := by decide +kernel
theorem dX8_odd_124 : decode cX8_odd 124 = .ok (.iload 5, 2) := by decide +kernel
theorem dX8_odd_126 : decode cX8_odd 126 = .ok (.invokevirtual 318, 3) := by decide +kernel
theorem dX8_odd_129 : decode cX8_odd 129 = .ok (.istore 6, 2) := by decide +kernel
theorem dX8_odd_131 : decode cX8_odd 131 = .ok (.iload 6, 2) := by decide +kernel
theorem dX8_odd_133 : decode cX8_odd 133 = .ok (.iconst (-1), 1) := by decide +kernel
theorem dX8_odd_134 : decode cX8_odd 134 = .ok (.if_icmp .ne 6, 3) := by decide +kernel
theorem dX8_odd_137 : decode cX8_odd 137 = .ok (.goto 26, 3) := by decide +kernel
theorem dX8_odd_140 : decode cX8_odd 140 = .ok (.iinc 4 1, 3) := by decide +kernel
theorem dX8_odd_143 : decode cX8_odd 143 = .ok (.iload 6, 2) := by decide +kernel
theorem dX8_odd_145 : decode cX8_odd 145 = .ok (.bipush 25, 2) := by decide +kernel
theorem dX8_odd_147 : decode cX8_odd 147 = .ok (.irem, 1) := by decide +kernel
theorem dX8_odd_148 : decode cX8_odd 148 = .ok (.aload_n 0, 1) := by decide +kernel
theorem dX8_odd_149 : decode cX8_odd 149 = .ok (.getfield 60, 3) := by decide +kernel
theorem dX8_odd_152 : decode cX8_odd 152 = .ok (.iload_n 1, 1) := by decide +kernel
theorem dX8_odd_153 : decode cX8_odd 153 = .ok (.iaload, 1) := by decide +kernel
theorem dX8_odd_154 : decode cX8_odd 154 = .ok (.bipush 25, 2) := by decide +kernel
theorem dX8_odd_156 : decode cX8_odd 156 = .ok (.irem, 1) := by decide +kernel
theorem dX8_odd_157 : decode cX8_odd 157 = .ok (.if_icmp .lt 6, 3) := by decide +kernel
theorem dX8_odd_160 : decode cX8_odd 160 = .ok (.iinc 3 1, 3) := by decide +kernel
theorem dX8_odd_163 : decode cX8_odd 163 = .ok (.iinc 5 1, 3) := by decide +kernel
theorem dX8_odd_166 : decode cX8_odd 166 = .ok (.goto (-58), 3) := by decide +kernel
theorem dX8_odd_169 : decode cX8_odd 169 = .ok (.iload_n 2, 1) := by decide +kernel
theorem dX8_odd_170 : decode cX8_odd 170 = .ok (.iconst 2, 1) := by decide +kernel
theorem dX8_odd_171 : decode cX8_odd 171 = .ok (.if_icmp .ne 7, 3) := by decide +kernel
theorem dX8_odd_174 : decode cX8_odd 174 = .ok (.iload_n 3, 1) := by decide +kernel
theorem dX8_odd_175 : decode cX8_odd 175 = .ok (.goto 5, 3) := by decide +kernel
theorem dX8_odd_178 : decode cX8_odd 178 = .ok (.iload 4, 2) := by decide +kernel
theorem dX8_odd_180 : decode cX8_odd 180 = .ok (.ireturn, 1) := by decide +kernel
theorem dX8_isTogether_0 : decode cX8_isTogether 0 = .ok (.aload_n 0, 1) := by decide +kernel
theorem dX8_isTogether_1 : decode cX8_isTogether 1 = .ok (.getfield 60, 3) := by decide +kernel
theorem dX8_isTogether_4 : decode cX8_isTogether 4 = .ok (.iload_n 1, 1) := by decide +kernel
theorem dX8_isTogether_5 : decode cX8_isTogether 5 = .ok (.iaload, 1) := by decide +kernel
theorem dX8_isTogether_6 : decode cX8_isTogether 6 = .ok (.aload_n 0, 1) := by decide +kernel
theorem dX8_isTogether_7 : decode cX8_isTogether 7 = .ok (.getfield 60, 3) := by decide +kernel
theorem dX8_isTogether_10 : decode cX8_isTogether 10 = .ok (.iload_n 2, 1) := by decide +kernel
theorem dX8_isTogether_11 : decode cX8_isTogether 11 = .ok (.iaload, 1) := by decide +kernel
theorem dX8_isTogether_12 : decode cX8_isTogether 12 = .ok (.isub, 1) := by decide +kernel
theorem dX8_isTogether_13 : decode cX8_isTogether 13 = .ok (.istore 4, 2) := by decide +kernel
theorem dX8_isTogether_15 : decode cX8_isTogether 15 = .ok (.aload_n 0, 1) := by decide +kernel
theorem dX8_isTogether_16 : decode cX8_isTogether 16 = .ok (.getfield 57, 3) := by decide +kernel
theorem dX8_isTogether_19 : decode cX8_isTogether 19 = .ok (.iload_n 1, 1) := by decide +kernel
theorem dX8_isTogether_20 : decode cX8_isTogether 20 = .ok (.iaload, 1) := by decide +kernel
theorem dX8_isTogether_21 : decode cX8_isTogether 21 = .ok (.aload_n 0, 1) := by decide +kernel
theorem dX8_isTogether_22 : decode cX8_isTogether 22 = .ok (.getfield 57, 3) := by decide +kernel
theorem dX8_isTogether_25 : decode cX8_isTogether 25 = .ok (.iload_n 2, 1) := by decide +kernel
theorem dX8_isTogether_26 : decode cX8_isTogether 26 = .ok (.iaload, 1) := by decide +kernel
theorem dX8_isTogether_27 : decode cX8_isTogether 27 = .ok (.if_icmp .ne 39, 3) := by decide +kernel
theorem dX8_isTogether_30 : decode cX8_isTogether 30 = .ok (.aload_n 0, 1) := by decide +kernel
theorem dX8_isTogether_31 : decode cX8_isTogether 31 = .ok (.getfield 63, 3) := by decide +kernel
theorem dX8_isTogether_34 : decode cX8_isTogether 34 = .ok (.iload_n 1, 1) := by decide +kernel
theorem dX8_isTogether_35 : decode cX8_isTogether 35 = .ok (.iaload, 1) := by decide +kernel
theorem dX8_isTogether_36 : decode cX8_isTogether 36 = .ok (.aload_n 0, 1) := by decide +kernel
theorem dX8_isTogether_37 : decode cX8_isTogether 37 = .ok (.getfield 63, 3) := by decide +kernel
theorem dX8_isTogether_40 : decode cX8_isTogether 40 = .ok (.iload_n 2, 1) := by decide +kernel
theorem dX8_isTogether_41 : decode cX8_isTogether 41 = .ok (.iaload, 1) := by decide +kernel
theorem dX8_isTogether_42 : decode cX8_isTogether 42 = .ok (.if_icmp .ne 24, 3) := by decide +kernel
theorem dX8_isTogether_45 : decode cX8_isTogether 45 = .ok (.iload 4, 2) := by decide +kernel
theorem dX8_isTogether_47 : decode cX8_isTogether 47 = .ok (.ifCond .ge 9, 3) := by decide +kernel
theorem dX8_isTogether_50 : decode cX8_isTogether 50 = .ok (.iload 4, 2) := by decide +kernel
theorem dX8_isTogether_52 : decode cX8_isTogether 52 = .ok (.ineg, 1) := by decide +kernel
theorem dX8_isTogether_53 : decode cX8_isTogether 53 = .ok (.goto 5, 3) := by decide +kernel
theorem dX8_isTogether_56 : decode cX8_isTogether 56 = .ok (.iload 4, 2) := by decide +kernel
theorem dX8_isTogether_58 : decode cX8_isTogether 58 = .ok (.iload_n 3, 1) := by decide +kernel
theorem dX8_isTogether_59 : decode cX8_isTogether 59 = .ok (.if_icmp .gt 7, 3) := by decide +kernel
theorem dX8_isTogether_62 : decode cX8_isTogether 62 = .ok (.iconst 1, 1) := by decide +kernel
theorem dX8_isTogether_63 : decode cX8_isTogether 63 = .ok (.goto 4, 3) := by decide +kernel
theorem dX8_isTogether_66 : decode cX8_isTogether 66 = .ok (.iconst 0, 1) := by decide +kernel
theorem dX8_isTogether_67 : decode cX8_isTogether 67 = .ok (.ireturn, 1) := by decide +kernel
theorem dX8_pairs_0 : decode cX8_pairs 0 = .ok (.aload_n 0, 1) := by decide +kernel
theorem dX8_pairs_1 : decode cX8_pairs 1 = .ok (.iconst 0, 1) := by decide +kernel
theorem dX8_pairs_2 : decode cX8_pairs 2 = .ok (.putfield 1, 3) := by decide +kernel
theorem dX8_pairs_5 : decode cX8_pairs 5 = .ok (.aload_n 0, 1) := by decide +kernel
theorem dX8_pairs_6 : decode cX8_pairs 6 = .ok (.iload_n 1, 1) := by decide +kernel
theorem dX8_pairs_7 : decode cX8_pairs 7 = .ok (.invokevirtual 213, 3) := by decide +kernel
theorem dX8_pairs_10 : decode cX8_pairs 10 = .ok (.ifCond .eq 36, 3) := by decide +kernel
theorem dX8_pairs_13 : decode cX8_pairs 13 = .ok (.aload_n 0, 1) := by decide +kernel
theorem dX8_pairs_14 : decode cX8_pairs 14 = .ok (.iload_n 2, 1) := by decide +kernel
theorem dX8_pairs_15 : decode cX8_pairs 15 = .ok (.invokevirtual 213, 3) := by decide +kernel
theorem dX8_pairs_18 : decode cX8_pairs 18 = .ok (.ifCond .eq 28, 3) := by decide +kernel
theorem dX8_pairs_21 : decode cX8_pairs 21 = .ok (.iload_n 1, 1) := by decide +kernel
theorem dX8_pairs_22 : decode cX8_pairs 22 = .ok (.iload_n 2, 1) := by decide +kernel
theorem dX8_pairs_23 : decode cX8_pairs 23 = .ok (.if_icmp .eq 23, 3) := by decide +kernel
theorem dX8_pairs_26 : decode cX8_pairs 26 = .ok (.iload_n 3, 1) := by decide +kernel
theorem dX8_pairs_27 : decode cX8_pairs 27 = .ok (.iconst 0, 1) := by decide +kernel
theorem dX8_pairs_28 : decode cX8_pairs 28 = .ok (.bipush 24, 2) := by decide +kernel
theorem dX8_pairs_30 : decode cX8_pairs 30 = .ok (.invokestatic 216, 3) := by decide +kernel
theorem dX8_pairs_33 : decode cX8_pairs 33 = .ok (.ifCond .eq 13, 3) := by decide +kernel
theorem dX8_pairs_36 : decode cX8_pairs 36 = .ok (.iload 4, 2) := by decide +kernel
theorem dX8_pairs_38 : decode cX8_pairs 38 = .ok (.iconst 0, 1) := by decide +kernel
theorem dX8_pairs_39 : decode cX8_pairs 39 = .ok (.iconst 1, 1) := by decide +kernel
theorem dX8_pairs_40 : decode cX8_pairs 40 = .ok (.invokestatic 216, 3) := by decide +kernel
theorem dX8_pairs_43 : decode cX8_pairs 43 = .ok (.ifCond .ne 5, 3) := by decide +kernel
theorem dX8_pairs_46 : decode cX8_pairs 46 = .ok (.iconst (-1), 1) := by decide +kernel
theorem dX8_pairs_47 : decode cX8_pairs 47 = .ok (.ireturn, 1) := by decide +kernel
theorem dX8_pairs_48 : decode cX8_pairs 48 = .ok (.iconst 0, 1) := by decide +kernel
theorem dX8_pairs_49 : decode cX8_pairs 49 = .ok (.istore 5, 2) := by decide +kernel
theorem dX8_pairs_51 : decode cX8_pairs 51 = .ok (.iconst 0, 1) := by decide +kernel
theorem dX8_pairs_52 : decode cX8_pairs 52 = .ok (.istore 6, 2) := by decide +kernel
theorem dX8_pairs_54 : decode cX8_pairs 54 = .ok (.iload 6, 2) := by decide +kernel
theorem dX8_pairs_56 : decode cX8_pairs 56 = .ok (.bipush 8, 2) := by decide +kernel
theorem dX8_pairs_58 : decode cX8_pairs 58 = .ok (.if_icmp .ge 136, 3) := by decide +kernel
theorem dX8_pairs_61 : decode cX8_pairs 61 = .ok (.iconst 0, 1) := by decide +kernel
theorem dX8_pairs_62 : decode cX8_pairs 62 = .ok (.istore 7, 2) := by decide +kernel
theorem dX8_pairs_64 : decode cX8_pairs 64 = .ok (.iconst 0, 1) := by decide +kernel
theorem dX8_pairs_65 : decode cX8_pairs 65 = .ok (.istore 8, 2) := by decide +kernel
theorem dX8_pairs_67 : decode cX8_pairs 67 = .ok (.iload 8, 2) := by decide +kernel
theorem dX8_pairs_69 : decode cX8_pairs 69 = .ok (.aload_n 0, 1) := by decide +kernel
theorem dX8_pairs_70 : decode cX8_pairs 70 = .ok (.getfield 207, 3) := by decide +kernel
theorem dX8_pairs_73 : decode cX8_pairs 73 = .ok (.if_icmp .ge 107, 3) := by decide +kernel
theorem dX8_pairs_76 : decode cX8_pairs 76 = .ok (.iconst 0, 1) := by decide +kernel
theorem dX8_pairs_77 : decode cX8_pairs 77 = .ok (.istore 9, 2) := by decide +kernel
theorem dX8_pairs_79 : decode cX8_pairs 79 = .ok (.iload 9, 2) := by decide +kernel
theorem dX8_pairs_81 : decode cX8_pairs 81 = .ok (.aload_n 0, 1) := by decide +kernel
theorem dX8_pairs_82 : decode cX8_pairs 82 = .ok (.getfield 207, 3) := by decide +kernel
theorem dX8_pairs_85 : decode cX8_pairs 85 = .ok (.if_icmp .ge 89, 3) := by decide +kernel
theorem dX8_pairs_88 : decode cX8_pairs 88 = .ok (.aload_n 0, 1) := by decide +kernel
theorem dX8_pairs_89 : decode cX8_pairs 89 = .ok (.iload 8, 2) := by decide +kernel
theorem dX8_pairs_91 : decode cX8_pairs 91 = .ok (.iload_n 1, 1) := by decide +kernel
theorem dX8_pairs_92 : decode cX8_pairs 92 = .ok (.invokevirtual 309, 3) := by decide +kernel
theorem dX8_pairs_95 : decode cX8_pairs 95 = .ok (.ifCond .eq 79, 3) := by decide +kernel
theorem dX8_pairs_98 : decode cX8_pairs 98 = .ok (.aload_n 0, 1) := by decide +kernel
theorem dX8_pairs_99 : decode cX8_pairs 99 = .ok (.getfield 60, 3) := by decide +kernel
theorem dX8_pairs_102 : decode cX8_pairs 102 = .ok (.iload 8, 2) := by decide +kernel
theorem dX8_pairs_104 : decode cX8_pairs 104 = .ok (.iaload, 1) := by decide +kernel
theorem dX8_pairs_105 : decode cX8_pairs 105 = .ok (.invokestatic 312, 3) := by decide +kernel
theorem dX8_pairs_108 : decode cX8_pairs 108 = .ok (.iload 6, 2) := by decide +kernel
theorem dX8_pairs_110 : decode cX8_pairs 110 = .ok (.if_icmp .ne 64, 3) := by decide +kernel
theorem dX8_pairs_113 : decode cX8_pairs 113 = .ok (.aload_n 0, 1) := by decide +kernel
theorem dX8_pairs_114 : decode cX8_pairs 114 = .ok (.iload 9, 2) := by decide +kernel
theorem dX8_pairs_116 : decode cX8_pairs 116 = .ok (.iload_n 2, 1) := by decide +kernel
theorem dX8_pairs_117 : decode cX8_pairs 117 = .ok (.invokevirtual 309, 3) := by decide +kernel
theorem dX8_pairs_120 : decode cX8_pairs 120 = .ok (.ifCond .eq 48, 3) := by decide +kernel
theorem dX8_pairs_123 : decode cX8_pairs 123 = .ok (.aload_n 0, 1) := by decide +kernel
theorem dX8_pairs_124 : decode cX8_pairs 124 = .ok (.getfield 60, 3) := by decide +kernel
theorem dX8_pairs_127 : decode cX8_pairs 127 = .ok (.iload 9, 2) := by decide +kernel
theorem dX8_pairs_129 : decode cX8_pairs 129 = .ok (.iaload, 1) := by decide +kernel
theorem dX8_pairs_130 : decode cX8_pairs 130 = .ok (.invokestatic 312, 3) := by decide +kernel
theorem dX8_pairs_133 : decode cX8_pairs 133 = .ok (.iload 6, 2) := by decide +kernel
theorem dX8_pairs_135 : decode cX8_pairs 135 = .ok (.if_icmp .ne 33, 3) := by decide +kernel
theorem dX8_pairs_138 : decode cX8_pairs 138 = .ok (.iload 7, 2) := by decide +kernel
theorem dX8_pairs_140 : decode cX8_pairs 140 = .ok (.ifCond .ne 21, 3) := by decide +kernel
theorem dX8_pairs_143 : decode cX8_pairs 143 = .ok (.iload 4, 2) := by decide +kernel
theorem dX8_pairs_145 : decode cX8_pairs 145 = .ok (.iconst 1, 1) := by decide +kernel
theorem dX8_pairs_146 : decode cX8_pairs 146 = .ok (.if_icmp .eq 15, 3) := by decide +kernel
theorem dX8_pairs_149 : decode cX8_pairs 149 = .ok (.aload_n 0, 1) := by decide +kernel
theorem dX8_pairs_150 : decode cX8_pairs 150 = .ok (.iload 8, 2) := by decide +kernel
theorem dX8_pairs_152 : decode cX8_pairs 152 = .ok (.iload 9, 2) := by decide +kernel
theorem dX8_pairs_154 : decode cX8_pairs 154 = .ok (.iload_n 3, 1) := by decide +kernel
theorem dX8_pairs_155 : decode cX8_pairs 155 = .ok (.invokevirtual 321, 3) := by decide +kernel
theorem dX8_pairs_158 : decode cX8_pairs 158 = .ok (.ifCond .eq 7, 3) := by decide +kernel
theorem dX8_pairs_161 : decode cX8_pairs 161 = .ok (.iconst 1, 1) := by decide +kernel
theorem dX8_pairs_162 : decode cX8_pairs 162 = .ok (.goto 4, 3) := by decide +kernel
theorem dX8_pairs_165 : decode cX8_pairs 165 = .ok (.iconst 0, 1) := by decide +kernel
theorem dX8_pairs_166 : decode cX8_pairs 166 = .ok (.istore 7, 2) := by decide +kernel
theorem dX8_pairs_168 : decode cX8_pairs 168 = .ok (.iinc 9 1, 3) := by decide +kernel
theorem dX8_pairs_171 : decode cX8_pairs 171 = .ok (.goto (-92), 3) := by decide +kernel
theorem dX8_pairs_174 : decode cX8_pairs 174 = .ok (.iinc 8 1, 3) := by decide +kernel
theorem dX8_pairs_177 : decode cX8_pairs 177 = .ok (.goto (-110), 3) := by decide +kernel
theorem dX8_pairs_180 : decode cX8_pairs 180 = .ok (.iload 7, 2) := by decide +kernel
theorem dX8_pairs_182 : decode cX8_pairs 182 = .ok (.ifCond .eq 6, 3) := by decide +kernel
theorem dX8_pairs_185 : decode cX8_pairs 185 = .ok (.iinc 5 1, 3) := by decide +kernel
theorem dX8_pairs_188 : decode cX8_pairs 188 = .ok (.iinc 6 1, 3) := by decide +kernel
theorem dX8_pairs_191 : decode cX8_pairs 191 = .ok (.goto (-137), 3) := by decide +kernel
theorem dX8_pairs_194 : decode cX8_pairs 194 = .ok (.iload 5, 2) := by decide +kernel
theorem dX8_pairs_196 : decode cX8_pairs 196 = .ok (.ireturn, 1) := by decide +kernel
theorem dX8_log__0 : decode cX8_log_ 0 = .ok (.aload_n 0, 1) := by decide +kernel
theorem dX8_log__1 : decode cX8_log_ 1 = .ok (.iconst 0, 1) := by decide +kernel
theorem dX8_log__2 : decode cX8_log_ 2 = .ok (.putfield 1, 3) := by decide +kernel
theorem dX8_log__5 : decode cX8_log_ 5 = .ok (.iload_n 1, 1) := by decide +kernel
theorem dX8_log__6 : decode cX8_log_ 6 = .ok (.ifCond .lt 11, 3) := by decide +kernel
theorem dX8_log__9 : decode cX8_log_ 9 = .ok (.iload_n 1, 1) := by decide +kernel
theorem dX8_log__10 : decode cX8_log_ 10 = .ok (.aload_n 0, 1) := by decide +kernel
theorem dX8_log__11 : decode cX8_log_ 11 = .ok (.getfield 207, 3) := by decide +kernel
theorem dX8_log__14 : decode cX8_log_ 14 = .ok (.if_icmp .lt 5, 3) := by decide +kernel
theorem dX8_log__17 : decode cX8_log_ 17 = .ok (.iconst (-1), 1) := by decide +kernel
theorem dX8_log__18 : decode cX8_log_ 18 = .ok (.ireturn, 1) := by decide +kernel
theorem dX8_log__19 : decode cX8_log_ 19 = .ok (.iload_n 2, 1) := by decide +kernel
theorem dX8_log__20 : decode cX8_log_ 20 = .ok (.tableswitch 71 0 4 #[36, 43, 50, 57, 64], 36) := by decide +kernel
theorem dX8_log__56 : decode cX8_log_ 56 = .ok (.aload_n 0, 1) := by decide +kernel
theorem dX8_log__57 : decode cX8_log_ 57 = .ok (.getfield 51, 3) := by decide +kernel
theorem dX8_log__60 : decode cX8_log_ 60 = .ok (.iload_n 1, 1) := by decide +kernel
theorem dX8_log__61 : decode cX8_log_ 61 = .ok (.iaload, 1) := by decide +kernel
theorem dX8_log__62 : decode cX8_log_ 62 = .ok (.ireturn, 1) := by decide +kernel
theorem dX8_log__63 : decode cX8_log_ 63 = .ok (.aload_n 0, 1) := by decide +kernel
theorem dX8_log__64 : decode cX8_log_ 64 = .ok (.getfield 54, 3) := by decide +kernel
theorem dX8_log__67 : decode cX8_log_ 67 = .ok (.iload_n 1, 1) := by decide +kernel
theorem dX8_log__68 : decode cX8_log_ 68 = .ok (.iaload, 1) := by decide +kernel
theorem dX8_log__69 : decode cX8_log_ 69 = .ok (.ireturn, 1) := by decide +kernel
theorem dX8_log__70 : decode cX8_log_ 70 = .ok (.aload_n 0, 1) := by decide +kernel
theorem dX8_log__71 : decode cX8_log_ 71 = .ok (.getfield 57, 3) := by decide +kernel
theorem dX8_log__74 : decode cX8_log_ 74 = .ok (.iload_n 1, 1) := by decide +kernel
theorem dX8_log__75 : decode cX8_log_ 75 = .ok (.iaload, 1) := by decide +kernel
theorem dX8_log__76 : decode cX8_log_ 76 = .ok (.ireturn, 1) := by decide +kernel
theorem dX8_log__77 : decode cX8_log_ 77 = .ok (.aload_n 0, 1) := by decide +kernel
theorem dX8_log__78 : decode cX8_log_ 78 = .ok (.getfield 60, 3) := by decide +kernel
theorem dX8_log__81 : decode cX8_log_ 81 = .ok (.iload_n 1, 1) := by decide +kernel
theorem dX8_log__82 : decode cX8_log_ 82 = .ok (.iaload, 1) := by decide +kernel
theorem dX8_log__83 : decode cX8_log_ 83 = .ok (.ireturn, 1) := by decide +kernel
theorem dX8_log__84 : decode cX8_log_ 84 = .ok (.aload_n 0, 1) := by decide +kernel
theorem dX8_log__85 : decode cX8_log_ 85 = .ok (.getfield 63, 3) := by decide +kernel
theorem dX8_log__88 : decode cX8_log_ 88 = .ok (.iload_n 1, 1) := by decide +kernel
theorem dX8_log__89 : decode cX8_log_ 89 = .ok (.iaload, 1) := by decide +kernel
theorem dX8_log__90 : decode cX8_log_ 90 = .ok (.ireturn, 1) := by decide +kernel
theorem dX8_log__91 : decode cX8_log_ 91 = .ok (.iconst (-1), 1) := by decide +kernel
theorem dX8_log__92 : decode cX8_log_ 92 = .ok (.ireturn, 1) := by decide +kernel
theorem dX8_door_0 : decode cX8_door 0 = .ok (.aload_n 0, 1) := by decide +kernel
theorem dX8_door_1 : decode cX8_door 1 = .ok (.iconst 0, 1) := by decide +kernel
theorem dX8_door_2 : decode cX8_door 2 = .ok (.putfield 1, 3) := by decide +kernel
theorem dX8_door_5 : decode cX8_door 5 = .ok (.iload_n 1, 1) := by decide +kernel
theorem dX8_door_6 : decode cX8_door 6 = .ok (.ifCond .lt 11, 3) := by decide +kernel
theorem dX8_door_9 : decode cX8_door 9 = .ok (.iload_n 1, 1) := by decide +kernel
theorem dX8_door_10 : decode cX8_door 10 = .ok (.aload_n 0, 1) := by decide +kernel
theorem dX8_door_11 : decode cX8_door 11 = .ok (.getfield 201, 3) := by decide +kernel
theorem dX8_door_14 : decode cX8_door 14 = .ok (.if_icmp .lt 5, 3) := by decide +kernel
theorem dX8_door_17 : decode cX8_door 17 = .ok (.iconst (-1), 1) := by decide +kernel
theorem dX8_door_18 : decode cX8_door 18 = .ok (.ireturn, 1) := by decide +kernel
theorem dX8_door_19 : decode cX8_door 19 = .ok (.iload_n 2, 1) := by decide +kernel
theorem dX8_door_20 : decode cX8_door 20 = .ok (.ifCond .ne 12, 3) := by decide +kernel
theorem dX8_door_23 : decode cX8_door 23 = .ok (.aload_n 0, 1) := by decide +kernel
theorem dX8_door_24 : decode cX8_door 24 = .ok (.getfield 42, 3) := by decide +kernel
theorem dX8_door_27 : decode cX8_door 27 = .ok (.iload_n 1, 1) := by decide +kernel
theorem dX8_door_28 : decode cX8_door 28 = .ok (.iaload, 1) := by decide +kernel
theorem dX8_door_29 : decode cX8_door 29 = .ok (.goto 32, 3) := by decide +kernel
theorem dX8_door_32 : decode cX8_door 32 = .ok (.iload_n 2, 1) := by decide +kernel
theorem dX8_door_33 : decode cX8_door 33 = .ok (.iconst 1, 1) := by decide +kernel
theorem dX8_door_34 : decode cX8_door 34 = .ok (.if_icmp .ne 12, 3) := by decide +kernel
theorem dX8_door_37 : decode cX8_door 37 = .ok (.aload_n 0, 1) := by decide +kernel
theorem dX8_door_38 : decode cX8_door 38 = .ok (.getfield 45, 3) := by decide +kernel
theorem dX8_door_41 : decode cX8_door 41 = .ok (.iload_n 1, 1) := by decide +kernel
theorem dX8_door_42 : decode cX8_door 42 = .ok (.iaload, 1) := by decide +kernel
theorem dX8_door_43 : decode cX8_door 43 = .ok (.goto 18, 3) := by decide +kernel
theorem dX8_door_46 : decode cX8_door 46 = .ok (.iload_n 2, 1) := by decide +kernel
theorem dX8_door_47 : decode cX8_door 47 = .ok (.iconst 2, 1) := by decide +kernel
theorem dX8_door_48 : decode cX8_door 48 = .ok (.if_icmp .ne 12, 3) := by decide +kernel
theorem dX8_door_51 : decode cX8_door 51 = .ok (.aload_n 0, 1) := by decide +kernel
theorem dX8_door_52 : decode cX8_door 52 = .ok (.getfield 48, 3) := by decide +kernel
theorem dX8_door_55 : decode cX8_door 55 = .ok (.iload_n 1, 1) := by decide +kernel
theorem dX8_door_56 : decode cX8_door 56 = .ok (.iaload, 1) := by decide +kernel
theorem dX8_door_57 : decode cX8_door 57 = .ok (.goto 4, 3) := by decide +kernel
theorem dX8_door_60 : decode cX8_door 60 = .ok (.iconst (-1), 1) := by decide +kernel
theorem dX8_door_61 : decode cX8_door 61 = .ok (.ireturn, 1) := by decide +kernel
theorem dX8_wide_0 : decode cX8_wide 0 = .ok (.aload_n 0, 1) := by decide +kernel
theorem dX8_wide_1 : decode cX8_wide 1 = .ok (.iconst 0, 1) := by decide +kernel
theorem dX8_wide_2 : decode cX8_wide 2 = .ok (.putfield 1, 3) := by decide +kernel
theorem dX8_wide_5 : decode cX8_wide 5 = .ok (.aload_n 0, 1) := by decide +kernel
theorem dX8_wide_6 : decode cX8_wide 6 = .ok (.iload_n 1, 1) := by decide +kernel
theorem dX8_wide_7 : decode cX8_wide 7 = .ok (.invokevirtual 227, 3) := by decide +kernel
theorem dX8_wide_10 : decode cX8_wide 10 = .ok (.ifCond .eq 12, 3) := by decide +kernel
theorem dX8_wide_13 : decode cX8_wide 13 = .ok (.aload_n 0, 1) := by decide +kernel
theorem dX8_wide_14 : decode cX8_wide 14 = .ok (.getfield 39, 3) := by decide +kernel
theorem dX8_wide_17 : decode cX8_wide 17 = .ok (.iload_n 1, 1) := by decide +kernel
theorem dX8_wide_18 : decode cX8_wide 18 = .ok (.iaload, 1) := by decide +kernel
theorem dX8_wide_19 : decode cX8_wide 19 = .ok (.goto 4, 3) := by decide +kernel
theorem dX8_wide_22 : decode cX8_wide 22 = .ok (.iconst (-1), 1) := by decide +kernel
theorem dX8_wide_23 : decode cX8_wide 23 = .ok (.ireturn, 1) := by decide +kernel
theorem dX8_count_0 : decode cX8_count 0 = .ok (.aload_n 0, 1) := by decide +kernel
theorem dX8_count_1 : decode cX8_count 1 = .ok (.iconst 0, 1) := by decide +kernel
theorem dX8_count_2 : decode cX8_count 2 = .ok (.putfield 1, 3) := by decide +kernel
theorem dX8_count_5 : decode cX8_count 5 = .ok (.iload_n 1, 1) := by decide +kernel
theorem dX8_count_6 : decode cX8_count 6 = .ok (.tableswitch 68 0 5 #[38, 43, 48, 53, 58, 63], 38) := by decide +kernel
theorem dX8_count_44 : decode cX8_count 44 = .ok (.aload_n 0, 1) := by decide +kernel
theorem dX8_count_45 : decode cX8_count 45 = .ok (.getfield 198, 3) := by decide +kernel
theorem dX8_count_48 : decode cX8_count 48 = .ok (.ireturn, 1) := by decide +kernel
theorem dX8_count_49 : decode cX8_count 49 = .ok (.aload_n 0, 1) := by decide +kernel
theorem dX8_count_50 : decode cX8_count 50 = .ok (.getfield 201, 3) := by decide +kernel
theorem dX8_count_53 : decode cX8_count 53 = .ok (.ireturn, 1) := by decide +kernel
theorem dX8_count_54 : decode cX8_count 54 = .ok (.aload_n 0, 1) := by decide +kernel
theorem dX8_count_55 : decode cX8_count 55 = .ok (.getfield 204, 3) := by decide +kernel
theorem dX8_count_58 : decode cX8_count 58 = .ok (.ireturn, 1) := by decide +kernel
theorem dX8_count_59 : decode cX8_count 59 = .ok (.aload_n 0, 1) := by decide +kernel
theorem dX8_count_60 : decode cX8_count 60 = .ok (.getfield 207, 3) := by decide +kernel
theorem dX8_count_63 : decode cX8_count 63 = .ok (.ireturn, 1) := by decide +kernel
theorem dX8_count_64 : decode cX8_count 64 = .ok (.aload_n 0, 1) := by decide +kernel
theorem dX8_count_65 : decode cX8_count 65 = .ok (.getfield 210, 3) := by decide +kernel
theorem dX8_count_68 : decode cX8_count 68 = .ok (.ireturn, 1) := by decide +kernel
theorem dX8_count_69 : decode cX8_count 69 = .ok (.aload_n 0, 1) := by decide +kernel
theorem dX8_count_70 : decode cX8_count 70 = .ok (.getfield 104, 3) := by decide +kernel
theorem dX8_count_73 : decode cX8_count 73 = .ok (.ireturn, 1) := by decide +kernel
theorem dX8_count_74 : decode cX8_count 74 = .ok (.iconst (-1), 1) := by decide +kernel
theorem dX8_count_75 : decode cX8_count 75 = .ok (.ireturn, 1) := by decide +kernel
theorem dJ6_bitCount_0f7a4_0 : decode cJ6_bitCount_0f7a4 0 = .ok (.iload_n 0, 1) := by decide +kernel
theorem dJ6_bitCount_0f7a4_1 : decode cJ6_bitCount_0f7a4 1 = .ok (.iload_n 0, 1) := by decide +kernel
theorem dJ6_bitCount_0f7a4_2 : decode cJ6_bitCount_0f7a4 2 = .ok (.iconst 1, 1) := by decide +kernel
theorem dJ6_bitCount_0f7a4_3 : decode cJ6_bitCount_0f7a4 3 = .ok (.iushr, 1) := by decide +kernel
theorem dJ6_bitCount_0f7a4_4 : decode cJ6_bitCount_0f7a4 4 = .ok (.ldc_w 265, 3) := by decide +kernel
theorem dJ6_bitCount_0f7a4_7 : decode cJ6_bitCount_0f7a4 7 = .ok (.iand, 1) := by decide +kernel
theorem dJ6_bitCount_0f7a4_8 : decode cJ6_bitCount_0f7a4 8 = .ok (.isub, 1) := by decide +kernel
theorem dJ6_bitCount_0f7a4_9 : decode cJ6_bitCount_0f7a4 9 = .ok (.istore_n 0, 1) := by decide +kernel
theorem dJ6_bitCount_0f7a4_10 : decode cJ6_bitCount_0f7a4 10 = .ok (.iload_n 0, 1) := by decide +kernel
theorem dJ6_bitCount_0f7a4_11 : decode cJ6_bitCount_0f7a4 11 = .ok (.ldc_w 266, 3) := by decide +kernel
theorem dJ6_bitCount_0f7a4_14 : decode cJ6_bitCount_0f7a4 14 = .ok (.iand, 1) := by decide +kernel
theorem dJ6_bitCount_0f7a4_15 : decode cJ6_bitCount_0f7a4 15 = .ok (.iload_n 0, 1) := by decide +kernel
theorem dJ6_bitCount_0f7a4_16 : decode cJ6_bitCount_0f7a4 16 = .ok (.iconst 2, 1) := by decide +kernel
theorem dJ6_bitCount_0f7a4_17 : decode cJ6_bitCount_0f7a4 17 = .ok (.iushr, 1) := by decide +kernel
theorem dJ6_bitCount_0f7a4_18 : decode cJ6_bitCount_0f7a4 18 = .ok (.ldc_w 266, 3) := by decide +kernel
theorem dJ6_bitCount_0f7a4_21 : decode cJ6_bitCount_0f7a4 21 = .ok (.iand, 1) := by decide +kernel
theorem dJ6_bitCount_0f7a4_22 : decode cJ6_bitCount_0f7a4 22 = .ok (.iadd, 1) := by decide +kernel
theorem dJ6_bitCount_0f7a4_23 : decode cJ6_bitCount_0f7a4 23 = .ok (.istore_n 0, 1) := by decide +kernel
theorem dJ6_bitCount_0f7a4_24 : decode cJ6_bitCount_0f7a4 24 = .ok (.iload_n 0, 1) := by decide +kernel
theorem dJ6_bitCount_0f7a4_25 : decode cJ6_bitCount_0f7a4 25 = .ok (.iload_n 0, 1) := by decide +kernel
theorem dJ6_bitCount_0f7a4_26 : decode cJ6_bitCount_0f7a4 26 = .ok (.iconst 4, 1) := by decide +kernel
theorem dJ6_bitCount_0f7a4_27 : decode cJ6_bitCount_0f7a4 27 = .ok (.iushr, 1) := by decide +kernel
theorem dJ6_bitCount_0f7a4_28 : decode cJ6_bitCount_0f7a4 28 = .ok (.iadd, 1) := by decide +kernel
theorem dJ6_bitCount_0f7a4_29 : decode cJ6_bitCount_0f7a4 29 = .ok (.ldc_w 267, 3) := by decide +kernel
theorem dJ6_bitCount_0f7a4_32 : decode cJ6_bitCount_0f7a4 32 = .ok (.iand, 1) := by decide +kernel
theorem dJ6_bitCount_0f7a4_33 : decode cJ6_bitCount_0f7a4 33 = .ok (.istore_n 0, 1) := by decide +kernel
theorem dJ6_bitCount_0f7a4_34 : decode cJ6_bitCount_0f7a4 34 = .ok (.iload_n 0, 1) := by decide +kernel
theorem dJ6_bitCount_0f7a4_35 : decode cJ6_bitCount_0f7a4 35 = .ok (.iload_n 0, 1) := by decide +kernel
theorem dJ6_bitCount_0f7a4_36 : decode cJ6_bitCount_0f7a4 36 = .ok (.bipush 8, 2) := by decide +kernel
theorem dJ6_bitCount_0f7a4_38 : decode cJ6_bitCount_0f7a4 38 = .ok (.iushr, 1) := by decide +kernel
theorem dJ6_bitCount_0f7a4_39 : decode cJ6_bitCount_0f7a4 39 = .ok (.iadd, 1) := by decide +kernel
theorem dJ6_bitCount_0f7a4_40 : decode cJ6_bitCount_0f7a4 40 = .ok (.istore_n 0, 1) := by decide +kernel
theorem dJ6_bitCount_0f7a4_41 : decode cJ6_bitCount_0f7a4 41 = .ok (.iload_n 0, 1) := by decide +kernel
theorem dJ6_bitCount_0f7a4_42 : decode cJ6_bitCount_0f7a4 42 = .ok (.iload_n 0, 1) := by decide +kernel
theorem dJ6_bitCount_0f7a4_43 : decode cJ6_bitCount_0f7a4 43 = .ok (.bipush 16, 2) := by decide +kernel
theorem dJ6_bitCount_0f7a4_45 : decode cJ6_bitCount_0f7a4 45 = .ok (.iushr, 1) := by decide +kernel
theorem dJ6_bitCount_0f7a4_46 : decode cJ6_bitCount_0f7a4 46 = .ok (.iadd, 1) := by decide +kernel
theorem dJ6_bitCount_0f7a4_47 : decode cJ6_bitCount_0f7a4 47 = .ok (.istore_n 0, 1) := by decide +kernel
theorem dJ6_bitCount_0f7a4_48 : decode cJ6_bitCount_0f7a4 48 = .ok (.iload_n 0, 1) := by decide +kernel
theorem dJ6_bitCount_0f7a4_49 : decode cJ6_bitCount_0f7a4 49 = .ok (.bipush 63, 2) := by decide +kernel
theorem dJ6_bitCount_0f7a4_51 : decode cJ6_bitCount_0f7a4 51 = .ok (.iand, 1) := by decide +kernel
theorem dJ6_bitCount_0f7a4_52 : decode cJ6_bitCount_0f7a4 52 = .ok (.ireturn, 1) := by decide +kernel
theorem dJ9_abs_0f7a4_0 : decode cJ9_abs_0f7a4 0 = .ok (.iload_n 0, 1) := by decide +kernel
theorem dJ9_abs_0f7a4_1 : decode cJ9_abs_0f7a4 1 = .ok (.ifCond .ge 8, 3) := by decide +kernel
theorem dJ9_abs_0f7a4_4 : decode cJ9_abs_0f7a4 4 = .ok (.iload_n 0, 1) := by decide +kernel
theorem dJ9_abs_0f7a4_5 : decode cJ9_abs_0f7a4 5 = .ok (.ineg, 1) := by decide +kernel
theorem dJ9_abs_0f7a4_6 : decode cJ9_abs_0f7a4 6 = .ok (.goto 4, 3) := by decide +kernel
theorem dJ9_abs_0f7a4_9 : decode cJ9_abs_0f7a4 9 = .ok (.iload_n 0, 1) := by decide +kernel
theorem dJ9_abs_0f7a4_10 : decode cJ9_abs_0f7a4 10 = .ok (.ireturn, 1) := by decide +kernel
theorem dJ9_max_7cf53_0 : decode cJ9_max_7cf53 0 = .ok (.iload_n 0, 1) := by decide +kernel
theorem dJ9_max_7cf53_1 : decode cJ9_max_7cf53 1 = .ok (.iload_n 1, 1) := by decide +kernel
theorem dJ9_max_7cf53_2 : decode cJ9_max_7cf53 2 = .ok (.if_icmp .lt 7, 3) := by decide +kernel
theorem dJ9_max_7cf53_5 : decode cJ9_max_7cf53 5 = .ok (.iload_n 0, 1) := by decide +kernel
theorem dJ9_max_7cf53_6 : decode cJ9_max_7cf53 6 = .ok (.goto 4, 3) := by decide +kernel
theorem dJ9_max_7cf53_9 : decode cJ9_max_7cf53 9 = .ok (.iload_n 1, 1) := by decide +kernel
theorem dJ9_max_7cf53_10 : decode cJ9_max_7cf53 10 = .ok (.ireturn, 1) := by decide +kernel
theorem dJ9_min_7cf53_0 : decode cJ9_min_7cf53 0 = .ok (.iload_n 0, 1) := by decide +kernel
theorem dJ9_min_7cf53_1 : decode cJ9_min_7cf53 1 = .ok (.iload_n 1, 1) := by decide +kernel
theorem dJ9_min_7cf53_2 : decode cJ9_min_7cf53 2 = .ok (.if_icmp .gt 7, 3) := by decide +kernel
theorem dJ9_min_7cf53_5 : decode cJ9_min_7cf53 5 = .ok (.iload_n 0, 1) := by decide +kernel
theorem dJ9_min_7cf53_6 : decode cJ9_min_7cf53 6 = .ok (.goto 4, 3) := by decide +kernel
theorem dJ9_min_7cf53_9 : decode cJ9_min_7cf53 9 = .ok (.iload_n 1, 1) := by decide +kernel
theorem dJ9_min_7cf53_10 : decode cJ9_min_7cf53 10 = .ok (.ireturn, 1) := by decide +kernel
theorem dJ0_length_8abf5_0 : decode cJ0_length_8abf5 0 = .ok (.aload_n 0, 1) := by decide +kernel
theorem dJ0_length_8abf5_1 : decode cJ0_length_8abf5 1 = .ok (.getfield 9, 3) := by decide +kernel
theorem dJ0_length_8abf5_4 : decode cJ0_length_8abf5 4 = .ok (.arraylength, 1) := by decide +kernel
theorem dJ0_length_8abf5_5 : decode cJ0_length_8abf5 5 = .ok (.aload_n 0, 1) := by decide +kernel
theorem dJ0_length_8abf5_6 : decode cJ0_length_8abf5 6 = .ok (.invokevirtual 335, 3) := by decide +kernel
theorem dJ0_length_8abf5_9 : decode cJ0_length_8abf5 9 = .ok (.ishr, 1) := by decide +kernel
theorem dJ0_length_8abf5_10 : decode cJ0_length_8abf5 10 = .ok (.ireturn, 1) := by decide +kernel
theorem dJ0_charAt_5068e_0 : decode cJ0_charAt_5068e 0 = .ok (.aload_n 0, 1) := by decide +kernel
theorem dJ0_charAt_5068e_1 : decode cJ0_charAt_5068e 1 = .ok (.invokevirtual 492, 3) := by decide +kernel
theorem dJ0_charAt_5068e_4 : decode cJ0_charAt_5068e 4 = .ok (.ifCond .eq 12, 3) := by decide +kernel
theorem dJ0_charAt_5068e_7 : decode cJ0_charAt_5068e 7 = .ok (.aload_n 0, 1) := by decide +kernel
theorem dJ0_charAt_5068e_8 : decode cJ0_charAt_5068e 8 = .ok (.getfield 9, 3) := by decide +kernel
theorem dJ0_charAt_5068e_11 : decode cJ0_charAt_5068e 11 = .ok (.iload_n 1, 1) := by decide +kernel
theorem dJ0_charAt_5068e_12 : decode cJ0_charAt_5068e 12 = .ok (.invokestatic 495, 3) := by decide +kernel
theorem dJ0_charAt_5068e_15 : decode cJ0_charAt_5068e 15 = .ok (.ireturn, 1) := by decide +kernel
theorem dJ0_charAt_5068e_16 : decode cJ0_charAt_5068e 16 = .ok (.aload_n 0, 1) := by decide +kernel
theorem dJ0_charAt_5068e_17 : decode cJ0_charAt_5068e 17 = .ok (.getfield 9, 3) := by decide +kernel
theorem dJ0_charAt_5068e_20 : decode cJ0_charAt_5068e 20 = .ok (.iload_n 1, 1) := by decide +kernel
theorem dJ0_charAt_5068e_21 : decode cJ0_charAt_5068e 21 = .ok (.invokestatic 498, 3) := by decide +kernel
theorem dJ0_charAt_5068e_24 : decode cJ0_charAt_5068e 24 = .ok (.ireturn, 1) := by decide +kernel
theorem dJ0_coder_7d493_0 : decode cJ0_coder_7d493 0 = .ok (.getstatic 38, 3) := by decide +kernel
theorem dJ0_coder_7d493_3 : decode cJ0_coder_7d493 3 = .ok (.ifCond .eq 10, 3) := by decide +kernel
theorem dJ0_coder_7d493_6 : decode cJ0_coder_7d493 6 = .ok (.aload_n 0, 1) := by decide +kernel
theorem dJ0_coder_7d493_7 : decode cJ0_coder_7d493 7 = .ok (.getfield 15, 3) := by decide +kernel
theorem dJ0_coder_7d493_10 : decode cJ0_coder_7d493 10 = .ok (.goto 4, 3) := by decide +kernel
theorem dJ0_coder_7d493_13 : decode cJ0_coder_7d493 13 = .ok (.iconst 1, 1) := by decide +kernel
theorem dJ0_coder_7d493_14 : decode cJ0_coder_7d493 14 = .ok (.ireturn, 1) := by decide +kernel
theorem dJ0_isLatin1_aae02_0 : decode cJ0_isLatin1_aae02 0 = .ok (.getstatic 38, 3) := by decide +kernel
theorem dJ0_isLatin1_aae02_3 : decode cJ0_isLatin1_aae02 3 = .ok (.ifCond .eq 14, 3) := by decide +kernel
theorem dJ0_isLatin1_aae02_6 : decode cJ0_isLatin1_aae02 6 = .ok (.aload_n 0, 1) := by decide +kernel
theorem dJ0_isLatin1_aae02_7 : decode cJ0_isLatin1_aae02 7 = .ok (.getfield 15, 3) := by decide +kernel
theorem dJ0_isLatin1_aae02_10 : decode cJ0_isLatin1_aae02 10 = .ok (.ifCond .ne 7, 3) := by decide +kernel
theorem dJ0_isLatin1_aae02_13 : decode cJ0_isLatin1_aae02 13 = .ok (.iconst 1, 1) := by decide +kernel
theorem dJ0_isLatin1_aae02_14 : decode cJ0_isLatin1_aae02 14 = .ok (.goto 4, 3) := by decide +kernel
theorem dJ0_isLatin1_aae02_17 : decode cJ0_isLatin1_aae02 17 = .ok (.iconst 0, 1) := by decide +kernel
theorem dJ0_isLatin1_aae02_18 : decode cJ0_isLatin1_aae02 18 = .ok (.ireturn, 1) := by decide +kernel
theorem dJ0_checkIndex_df160_0 : decode cJ0_checkIndex_df160 0 = .ok (.iload_n 0, 1) := by decide +kernel
theorem dJ0_checkIndex_df160_1 : decode cJ0_checkIndex_df160 1 = .ok (.iload_n 1, 1) := by decide +kernel
theorem dJ0_checkIndex_df160_2 : decode cJ0_checkIndex_df160 2 = .ok (.getstatic 1053, 3) := by decide +kernel
theorem dJ0_checkIndex_df160_5 : decode cJ0_checkIndex_df160 5 = .ok (.invokestatic 1059, 3) := by decide +kernel
theorem dJ0_checkIndex_df160_8 : decode cJ0_checkIndex_df160 8 = .ok (.pop, 1) := by decide +kernel
theorem dJ0_checkIndex_df160_9 : decode cJ0_checkIndex_df160 9 = .ok (.return_, 1) := by decide +kernel
theorem dJ1_charAt_3b067_0 : decode cJ1_charAt_3b067 0 = .ok (.iload_n 1, 1) := by decide +kernel
theorem dJ1_charAt_3b067_1 : decode cJ1_charAt_3b067 1 = .ok (.aload_n 0, 1) := by decide +kernel
theorem dJ1_charAt_3b067_2 : decode cJ1_charAt_3b067 2 = .ok (.arraylength, 1) := by decide +kernel
theorem dJ1_charAt_3b067_3 : decode cJ1_charAt_3b067 3 = .ok (.invokestatic 9, 3) := by decide +kernel
theorem dJ1_charAt_3b067_6 : decode cJ1_charAt_3b067 6 = .ok (.aload_n 0, 1) := by decide +kernel
theorem dJ1_charAt_3b067_7 : decode cJ1_charAt_3b067 7 = .ok (.iload_n 1, 1) := by decide +kernel
theorem dJ1_charAt_3b067_8 : decode cJ1_charAt_3b067 8 = .ok (.baload, 1) := by decide +kernel
theorem dJ1_charAt_3b067_9 : decode cJ1_charAt_3b067 9 = .ok (.sipush 255, 3) := by decide +kernel
theorem dJ1_charAt_3b067_12 : decode cJ1_charAt_3b067 12 = .ok (.iand, 1) := by decide +kernel
theorem dJ1_charAt_3b067_13 : decode cJ1_charAt_3b067 13 = .ok (.i2c, 1) := by decide +kernel
theorem dJ1_charAt_3b067_14 : decode cJ1_charAt_3b067 14 = .ok (.ireturn, 1) := by decide +kernel
theorem dJ2_getChar_3b067_0 : decode cJ2_getChar_3b067 0 = .ok (.getstatic 44, 3) := by decide +kernel
theorem dJ2_getChar_3b067_3 : decode cJ2_getChar_3b067 3 = .ok (.ifCond .ne 25, 3) := by decide +kernel
theorem dJ2_getChar_3b067_6 : decode cJ2_getChar_3b067 6 = .ok (.iload_n 1, 1) := by decide +kernel
theorem dJ2_getChar_3b067_7 : decode cJ2_getChar_3b067 7 = .ok (.ifCond .lt 11, 3) := by decide +kernel
theorem dJ2_getChar_3b067_10 : decode cJ2_getChar_3b067 10 = .ok (.iload_n 1, 1) := by decide +kernel
theorem dJ2_getChar_3b067_11 : decode cJ2_getChar_3b067 11 = .ok (.aload_n 0, 1) := by decide +kernel
theorem dJ2_getChar_3b067_12 : decode cJ2_getChar_3b067 12 = .ok (.invokestatic 48, 3) := by decide +kernel
theorem dJ2_getChar_3b067_15 : decode cJ2_getChar_3b067 15 = .ok (.if_icmp .lt 13, 3) := by decide +kernel
theorem dJ2_getChar_3b067_18 : decode cJ2_getChar_3b067 18 = .ok (.new 52, 3) := by decide +kernel
theorem dJ2_getChar_3b067_21 : decode cJ2_getChar_3b067 21 = .ok (.dup, 1) := by decide +kernel
theorem dJ2_getChar_3b067_22 : decode cJ2_getChar_3b067 22 = .ok (.ldc 54, 2) := by decide +kernel
theorem dJ2_getChar_3b067_24 : decode cJ2_getChar_3b067 24 = .ok (.invokespecial 56, 3) := by decide +kernel
theorem dJ2_getChar_3b067_27 : decode cJ2_getChar_3b067 27 = .ok (.athrow, 1) := by decide +kernel
theorem dJ2_getChar_3b067_28 : decode cJ2_getChar_3b067 28 = .ok (.iload_n 1, 1) := by decide +kernel
theorem dJ2_getChar_3b067_29 : decode cJ2_getChar_3b067 29 = .ok (.iconst 1, 1) := by decide +kernel
theorem dJ2_getChar_3b067_30 : decode cJ2_getChar_3b067 30 = .ok (.ishl, 1) := by decide +kernel
theorem dJ2_getChar_3b067_31 : decode cJ2_getChar_3b067 31 = .ok (.istore_n 1, 1) := by decide +kernel
theorem dJ2_getChar_3b067_32 : decode cJ2_getChar_3b067 32 = .ok (.aload_n 0, 1) := by decide +kernel
theorem dJ2_getChar_3b067_33 : decode cJ2_getChar_3b067 33 = .ok (.iload_n 1, 1) := by decide +kernel
theorem dJ2_getChar_3b067_34 : decode cJ2_getChar_3b067 34 = .ok (.iinc 1 1, 3) := by decide +kernel
theorem dJ2_getChar_3b067_37 : decode cJ2_getChar_3b067 37 = .ok (.baload, 1) := by decide +kernel
theorem dJ2_getChar_3b067_38 : decode cJ2_getChar_3b067 38 = .ok (.sipush 255, 3) := by decide +kernel
theorem dJ2_getChar_3b067_41 : decode cJ2_getChar_3b067 41 = .ok (.iand, 1) := by decide +kernel
theorem dJ2_getChar_3b067_42 : decode cJ2_getChar_3b067 42 = .ok (.getstatic 59, 3) := by decide +kernel
theorem dJ2_getChar_3b067_45 : decode cJ2_getChar_3b067 45 = .ok (.ishl, 1) := by decide +kernel
theorem dJ2_getChar_3b067_46 : decode cJ2_getChar_3b067 46 = .ok (.aload_n 0, 1) := by decide +kernel
theorem dJ2_getChar_3b067_47 : decode cJ2_getChar_3b067 47 = .ok (.iload_n 1, 1) := by decide +kernel
theorem dJ2_getChar_3b067_48 : decode cJ2_getChar_3b067 48 = .ok (.baload, 1) := by decide +kernel
theorem dJ2_getChar_3b067_49 : decode cJ2_getChar_3b067 49 = .ok (.sipush 255, 3) := by decide +kernel
theorem dJ2_getChar_3b067_52 : decode cJ2_getChar_3b067 52 = .ok (.iand, 1) := by decide +kernel
theorem dJ2_getChar_3b067_53 : decode cJ2_getChar_3b067 53 = .ok (.getstatic 63, 3) := by decide +kernel
theorem dJ2_getChar_3b067_56 : decode cJ2_getChar_3b067 56 = .ok (.ishl, 1) := by decide +kernel
theorem dJ2_getChar_3b067_57 : decode cJ2_getChar_3b067 57 = .ok (.ior, 1) := by decide +kernel
theorem dJ2_getChar_3b067_58 : decode cJ2_getChar_3b067 58 = .ok (.i2c, 1) := by decide +kernel
theorem dJ2_getChar_3b067_59 : decode cJ2_getChar_3b067 59 = .ok (.ireturn, 1) := by decide +kernel
theorem dJ2_length_9d52b_0 : decode cJ2_length_9d52b 0 = .ok (.aload_n 0, 1) := by decide +kernel
theorem dJ2_length_9d52b_1 : decode cJ2_length_9d52b 1 = .ok (.arraylength, 1) := by decide +kernel
theorem dJ2_length_9d52b_2 : decode cJ2_length_9d52b 2 = .ok (.iconst 1, 1) := by decide +kernel
theorem dJ2_length_9d52b_3 : decode cJ2_length_9d52b 3 = .ok (.ishr, 1) := by decide +kernel
theorem dJ2_length_9d52b_4 : decode cJ2_length_9d52b 4 = .ok (.ireturn, 1) := by decide +kernel
theorem dJ2_charAt_3b067_0 : decode cJ2_charAt_3b067 0 = .ok (.iload_n 1, 1) := by decide +kernel
theorem dJ2_charAt_3b067_1 : decode cJ2_charAt_3b067 1 = .ok (.aload_n 0, 1) := by decide +kernel
theorem dJ2_charAt_3b067_2 : decode cJ2_charAt_3b067 2 = .ok (.invokestatic 67, 3) := by decide +kernel
theorem dJ2_charAt_3b067_5 : decode cJ2_charAt_3b067 5 = .ok (.aload_n 0, 1) := by decide +kernel
theorem dJ2_charAt_3b067_6 : decode cJ2_charAt_3b067 6 = .ok (.iload_n 1, 1) := by decide +kernel
theorem dJ2_charAt_3b067_7 : decode cJ2_charAt_3b067 7 = .ok (.invokestatic 71, 3) := by decide +kernel
theorem dJ2_charAt_3b067_10 : decode cJ2_charAt_3b067 10 = .ok (.ireturn, 1) := by decide +kernel
theorem dJ2_checkIndex_2214a_0 : decode cJ2_checkIndex_2214a 0 = .ok (.iload_n 0, 1) := by decide +kernel
theorem dJ2_checkIndex_2214a_1 : decode cJ2_checkIndex_2214a 1 = .ok (.aload_n 1, 1) := by decide +kernel
theorem dJ2_checkIndex_2214a_2 : decode cJ2_checkIndex_2214a 2 = .ok (.invokestatic 48, 3) := by decide +kernel
theorem dJ2_checkIndex_2214a_5 : decode cJ2_checkIndex_2214a 5 = .ok (.invokestatic 414, 3) := by decide +kernel
theorem dJ2_checkIndex_2214a_8 : decode cJ2_checkIndex_2214a 8 = .ok (.return_, 1) := by decide +kernel
theorem dJ7_fill_d0a16_0 : decode cJ7_fill_d0a16 0 = .ok (.iconst 0, 1) := by decide +kernel
theorem dJ7_fill_d0a16_1 : decode cJ7_fill_d0a16 1 = .ok (.istore_n 3, 1) := by decide +kernel
theorem dJ7_fill_d0a16_2 : decode cJ7_fill_d0a16 2 = .ok (.aload_n 0, 1) := by decide +kernel
theorem dJ7_fill_d0a16_3 : decode cJ7_fill_d0a16 3 = .ok (.arraylength, 1) := by decide +kernel
theorem dJ7_fill_d0a16_4 : decode cJ7_fill_d0a16 4 = .ok (.istore 4, 2) := by decide +kernel
theorem dJ7_fill_d0a16_6 : decode cJ7_fill_d0a16 6 = .ok (.iload_n 3, 1) := by decide +kernel
theorem dJ7_fill_d0a16_7 : decode cJ7_fill_d0a16 7 = .ok (.iload 4, 2) := by decide +kernel
theorem dJ7_fill_d0a16_9 : decode cJ7_fill_d0a16 9 = .ok (.if_icmp .ge 13, 3) := by decide +kernel
theorem dJ7_fill_d0a16_12 : decode cJ7_fill_d0a16 12 = .ok (.aload_n 0, 1) := by decide +kernel
theorem dJ7_fill_d0a16_13 : decode cJ7_fill_d0a16 13 = .ok (.iload_n 3, 1) := by decide +kernel
theorem dJ7_fill_d0a16_14 : decode cJ7_fill_d0a16 14 = .ok (.lload_n 1, 1) := by decide +kernel
theorem dJ7_fill_d0a16_15 : decode cJ7_fill_d0a16 15 = .ok (.lastore, 1) := by decide +kernel
theorem dJ7_fill_d0a16_16 : decode cJ7_fill_d0a16 16 = .ok (.iinc 3 1, 3) := by decide +kernel
theorem dJ7_fill_d0a16_19 : decode cJ7_fill_d0a16 19 = .ok (.goto (-13), 3) := by decide +kernel
theorem dJ7_fill_d0a16_22 : decode cJ7_fill_d0a16 22 = .ok (.return_, 1) := by decide +kernel
theorem dJ7_fill_53178_0 : decode cJ7_fill_53178 0 = .ok (.iconst 0, 1) := by decide +kernel
theorem dJ7_fill_53178_1 : decode cJ7_fill_53178 1 = .ok (.istore_n 2, 1) := by decide +kernel
theorem dJ7_fill_53178_2 : decode cJ7_fill_53178 2 = .ok (.aload_n 0, 1) := by decide +kernel
theorem dJ7_fill_53178_3 : decode cJ7_fill_53178 3 = .ok (.arraylength, 1) := by decide +kernel
theorem dJ7_fill_53178_4 : decode cJ7_fill_53178 4 = .ok (.istore_n 3, 1) := by decide +kernel
theorem dJ7_fill_53178_5 : decode cJ7_fill_53178 5 = .ok (.iload_n 2, 1) := by decide +kernel
theorem dJ7_fill_53178_6 : decode cJ7_fill_53178 6 = .ok (.iload_n 3, 1) := by decide +kernel
theorem dJ7_fill_53178_7 : decode cJ7_fill_53178 7 = .ok (.if_icmp .ge 13, 3) := by decide +kernel
theorem dJ7_fill_53178_10 : decode cJ7_fill_53178 10 = .ok (.aload_n 0, 1) := by decide +kernel
theorem dJ7_fill_53178_11 : decode cJ7_fill_53178 11 = .ok (.iload_n 2, 1) := by decide +kernel
theorem dJ7_fill_53178_12 : decode cJ7_fill_53178 12 = .ok (.iload_n 1, 1) := by decide +kernel
theorem dJ7_fill_53178_13 : decode cJ7_fill_53178 13 = .ok (.iastore, 1) := by decide +kernel
theorem dJ7_fill_53178_14 : decode cJ7_fill_53178 14 = .ok (.iinc 2 1, 3) := by decide +kernel
theorem dJ7_fill_53178_17 : decode cJ7_fill_53178 17 = .ok (.goto (-12), 3) := by decide +kernel
theorem dJ7_fill_53178_20 : decode cJ7_fill_53178 20 = .ok (.return_, 1) := by decide +kernel
theorem dJ3_checkIndex_8e157_0 : decode cJ3_checkIndex_8e157 0 = .ok (.iload_n 0, 1) := by decide +kernel
theorem dJ3_checkIndex_8e157_1 : decode cJ3_checkIndex_8e157 1 = .ok (.ifCond .lt 8, 3) := by decide +kernel
theorem dJ3_checkIndex_8e157_4 : decode cJ3_checkIndex_8e157 4 = .ok (.iload_n 0, 1) := by decide +kernel
theorem dJ3_checkIndex_8e157_5 : decode cJ3_checkIndex_8e157 5 = .ok (.iload_n 1, 1) := by decide +kernel
theorem dJ3_checkIndex_8e157_6 : decode cJ3_checkIndex_8e157 6 = .ok (.if_icmp .lt 10, 3) := by decide +kernel
theorem dJ3_checkIndex_8e157_9 : decode cJ3_checkIndex_8e157 9 = .ok (.aload_n 2, 1) := by decide +kernel
theorem dJ3_checkIndex_8e157_10 : decode cJ3_checkIndex_8e157 10 = .ok (.iload_n 0, 1) := by decide +kernel
theorem dJ3_checkIndex_8e157_11 : decode cJ3_checkIndex_8e157 11 = .ok (.iload_n 1, 1) := by decide +kernel
theorem dJ3_checkIndex_8e157_12 : decode cJ3_checkIndex_8e157 12 = .ok (.invokestatic 95, 3) := by decide +kernel
theorem dJ3_checkIndex_8e157_15 : decode cJ3_checkIndex_8e157 15 = .ok (.athrow, 1) := by decide +kernel
theorem dJ3_checkIndex_8e157_16 : decode cJ3_checkIndex_8e157 16 = .ok (.iload_n 0, 1) := by decide +kernel
theorem dJ3_checkIndex_8e157_17 : decode cJ3_checkIndex_8e157 17 = .ok (.ireturn, 1) := by decide +kernel
theorem dL_way_0 : decode cL_way 0 = .ok (.aload 5, 2) := by decide +kernel
theorem dL_way_2 : decode cL_way 2 = .ok (.iconst 0, 1) := by decide +kernel
theorem dL_way_3 : decode cL_way 3 = .ok (.aload_n 0, 1) := by decide +kernel
theorem dL_way_4 : decode cL_way 4 = .ok (.iload_n 1, 1) := by decide +kernel
theorem dL_way_5 : decode cL_way 5 = .ok (.iload_n 2, 1) := by decide +kernel
theorem dL_way_6 : decode cL_way 6 = .ok (.iload_n 3, 1) := by decide +kernel
theorem dL_way_7 : decode cL_way 7 = .ok (.iload 4, 2) := by decide +kernel
theorem dL_way_9 : decode cL_way 9 = .ok (.invokevirtual 7, 3) := by decide +kernel
theorem dL_way_12 : decode cL_way 12 = .ok (.i2l, 1) := by decide +kernel
theorem dL_way_13 : decode cL_way 13 = .ok (.lastore, 1) := by decide +kernel
theorem dL_way_14 : decode cL_way 14 = .ok (.goto 7, 3) := by decide +kernel
theorem dL_way_17 : decode cL_way 17 = .ok (.astore 6, 2) := by decide +kernel
theorem dL_way_19 : decode cL_way 19 = .ok (.iconst 1, 1) := by decide +kernel
theorem dL_way_20 : decode cL_way 20 = .ok (.ireturn, 1) := by decide +kernel
theorem dL_way_21 : decode cL_way 21 = .ok (.iconst 0, 1) := by decide +kernel
theorem dL_way_22 : decode cL_way 22 = .ok (.ireturn, 1) := by decide +kernel
theorem dL_law_0 : decode cL_law 0 = .ok (.new 8, 3) := by decide +kernel
theorem dL_law_3 : decode cL_law 3 = .ok (.dup, 1) := by decide +kernel
theorem dL_law_4 : decode cL_law 4 = .ok (.invokespecial 15, 3) := by decide +kernel
theorem dL_law_7 : decode cL_law 7 = .ok (.astore_n 1, 1) := by decide +kernel
theorem dL_law_8 : decode cL_law 8 = .ok (.new 16, 3) := by decide +kernel
theorem dL_law_11 : decode cL_law 11 = .ok (.dup, 1) := by decide +kernel
theorem dL_law_12 : decode cL_law 12 = .ok (.invokespecial 18, 3) := by decide +kernel
theorem dL_law_15 : decode cL_law 15 = .ok (.astore_n 2, 1) := by decide +kernel
theorem dL_law_16 : decode cL_law 16 = .ok (.iconst 1, 1) := by decide +kernel
theorem dL_law_17 : decode cL_law 17 = .ok (.newarray .long, 2) := by decide +kernel
theorem dL_law_19 : decode cL_law 19 = .ok (.astore_n 3, 1) := by decide +kernel
theorem dL_law_20 : decode cL_law 20 = .ok (.iconst 0, 1) := by decide +kernel
theorem dL_law_21 : decode cL_law 21 = .ok (.istore 4, 2) := by decide +kernel
theorem dL_law_23 : decode cL_law 23 = .ok (.iload 4, 2) := by decide +kernel
theorem dL_law_25 : decode cL_law 25 = .ok (.aload_n 0, 1) := by decide +kernel
theorem dL_law_26 : decode cL_law 26 = .ok (.arraylength, 1) := by decide +kernel
theorem dL_law_27 : decode cL_law 27 = .ok (.bipush 6, 2) := by decide +kernel
theorem dL_law_29 : decode cL_law 29 = .ok (.isub, 1) := by decide +kernel
theorem dL_law_30 : decode cL_law 30 = .ok (.if_icmp .gt 1076, 3) := by decide +kernel
theorem dL_law_33 : decode cL_law 33 = .ok (.aload_n 0, 1) := by decide +kernel
theorem dL_law_34 : decode cL_law 34 = .ok (.iload 4, 2) := by decide +kernel
theorem dL_law_36 : decode cL_law 36 = .ok (.iaload, 1) := by decide +kernel
theorem dL_law_37 : decode cL_law 37 = .ok (.bipush 31, 2) := by decide +kernel
theorem dL_law_39 : decode cL_law 39 = .ok (.iand, 1) := by decide +kernel
theorem dL_law_40 : decode cL_law 40 = .ok (.tableswitch 1060 0 20 #[100, 173, 198, 211, 224, 237, 314, 363, 412, 501, 550, 642, 679, 740, 789, 838, 875, 936, 973, 1010, 1035], 100) := by decide +kernel
theorem dL_law_140 : decode cL_law 140 = .ok (.aload_n 1, 1) := by decide +kernel
theorem dL_law_141 : decode cL_law 141 = .ok (.aload_n 0, 1) := by decide +kernel
theorem dL_law_142 : decode cL_law 142 = .ok (.iload 4, 2) := by decide +kernel
theorem dL_law_144 : decode cL_law 144 = .ok (.iconst 1, 1) := by decide +kernel
theorem dL_law_145 : decode cL_law 145 = .ok (.iadd, 1) := by decide +kernel
theorem dL_law_146 : decode cL_law 146 = .ok (.iaload, 1) := by decide +kernel
theorem dL_law_147 : decode cL_law 147 = .ok (.aload_n 0, 1) := by decide +kernel
theorem dL_law_148 : decode cL_law 148 = .ok (.iload 4, 2) := by decide +kernel
theorem dL_law_150 : decode cL_law 150 = .ok (.iconst 2, 1) := by decide +kernel
theorem dL_law_151 : decode cL_law 151 = .ok (.iadd, 1) := by decide +kernel
theorem dL_law_152 : decode cL_law 152 = .ok (.iaload, 1) := by decide +kernel
theorem dL_law_153 : decode cL_law 153 = .ok (.aload_n 0, 1) := by decide +kernel
theorem dL_law_154 : decode cL_law 154 = .ok (.iload 4, 2) := by decide +kernel
theorem dL_law_156 : decode cL_law 156 = .ok (.iconst 3, 1) := by decide +kernel
theorem dL_law_157 : decode cL_law 157 = .ok (.iadd, 1) := by decide +kernel
theorem dL_law_158 : decode cL_law 158 = .ok (.iaload, 1) := by decide +kernel
theorem dL_law_159 : decode cL_law 159 = .ok (.aload_n 0, 1) := by decide +kernel
theorem dL_law_160 : decode cL_law 160 = .ok (.iload 4, 2) := by decide +kernel
theorem dL_law_162 : decode cL_law 162 = .ok (.iconst 4, 1) := by decide +kernel
theorem dL_law_163 : decode cL_law 163 = .ok (.iadd, 1) := by decide +kernel
theorem dL_law_164 : decode cL_law 164 = .ok (.iaload, 1) := by decide +kernel
theorem dL_law_165 : decode cL_law 165 = .ok (.aload_n 0, 1) := by decide +kernel
theorem dL_law_166 : decode cL_law 166 = .ok (.iload 4, 2) := by decide +kernel
theorem dL_law_168 : decode cL_law 168 = .ok (.iconst 5, 1) := by decide +kernel
theorem dL_law_169 : decode cL_law 169 = .ok (.iadd, 1) := by decide +kernel
theorem dL_law_170 : decode cL_law 170 = .ok (.iaload, 1) := by decide +kernel
theorem dL_law_171 : decode cL_law 171 = .ok (.invokevirtual 19, 3) := by decide +kernel
theorem dL_law_174 : decode cL_law 174 = .ok (.aload_n 2, 1) := by decide +kernel
theorem dL_law_175 : decode cL_law 175 = .ok (.aload_n 0, 1) := by decide +kernel
theorem dL_law_176 : decode cL_law 176 = .ok (.iload 4, 2) := by decide +kernel
theorem dL_law_178 : decode cL_law 178 = .ok (.iconst 1, 1) := by decide +kernel
theorem dL_law_179 : decode cL_law 179 = .ok (.iadd, 1) := by decide +kernel
theorem dL_law_180 : decode cL_law 180 = .ok (.iaload, 1) := by decide +kernel
theorem dL_law_181 : decode cL_law 181 = .ok (.aload_n 0, 1) := by decide +kernel
theorem dL_law_182 : decode cL_law 182 = .ok (.iload 4, 2) := by decide +kernel
theorem dL_law_184 : decode cL_law 184 = .ok (.iconst 2, 1) := by decide +kernel
theorem dL_law_185 : decode cL_law 185 = .ok (.iadd, 1) := by decide +kernel
theorem dL_law_186 : decode cL_law 186 = .ok (.iaload, 1) := by decide +kernel
theorem dL_law_187 : decode cL_law 187 = .ok (.aload_n 0, 1) := by decide +kernel
theorem dL_law_188 : decode cL_law 188 = .ok (.iload 4, 2) := by decide +kernel
theorem dL_law_190 : decode cL_law 190 = .ok (.iconst 3, 1) := by decide +kernel
theorem dL_law_191 : decode cL_law 191 = .ok (.iadd, 1) := by decide +kernel
theorem dL_law_192 : decode cL_law 192 = .ok (.iaload, 1) := by decide +kernel
theorem dL_law_193 : decode cL_law 193 = .ok (.aload_n 0, 1) := by decide +kernel
theorem dL_law_194 : decode cL_law 194 = .ok (.iload 4, 2) := by decide +kernel
theorem dL_law_196 : decode cL_law 196 = .ok (.iconst 4, 1) := by decide +kernel
theorem dL_law_197 : decode cL_law 197 = .ok (.iadd, 1) := by decide +kernel
theorem dL_law_198 : decode cL_law 198 = .ok (.iaload, 1) := by decide +kernel
theorem dL_law_199 : decode cL_law 199 = .ok (.aload_n 0, 1) := by decide +kernel
theorem dL_law_200 : decode cL_law 200 = .ok (.iload 4, 2) := by decide +kernel
theorem dL_law_202 : decode cL_law 202 = .ok (.iconst 5, 1) := by decide +kernel
theorem dL_law_203 : decode cL_law 203 = .ok (.iadd, 1) := by decide +kernel
theorem dL_law_204 : decode cL_law 204 = .ok (.iaload, 1) := by decide +kernel
theorem dL_law_205 : decode cL_law 205 = .ok (.invokevirtual 23, 3) := by decide +kernel
theorem dL_law_208 : decode cL_law 208 = .ok (.if_icmp .eq 892, 3) := by decide +kernel
theorem dL_law_211 : decode cL_law 211 = .ok (.iconst 0, 1) := by decide +kernel
theorem dL_law_212 : decode cL_law 212 = .ok (.ireturn, 1) := by decide +kernel
theorem dL_law_213 : decode cL_law 213 = .ok (.aload_n 1, 1) := by decide +kernel
theorem dL_law_214 : decode cL_law 214 = .ok (.aload_n 0, 1) := by decide +kernel
theorem dL_law_215 : decode cL_law 215 = .ok (.iload 4, 2) := by decide +kernel
theorem dL_law_217 : decode cL_law 217 = .ok (.iconst 1, 1) := by decide +kernel
theorem dL_law_218 : decode cL_law 218 = .ok (.iadd, 1) := by decide +kernel
theorem dL_law_219 : decode cL_law 219 = .ok (.iaload, 1) := by decide +kernel
theorem dL_law_220 : decode cL_law 220 = .ok (.invokevirtual 24, 3) := by decide +kernel
theorem dL_law_223 : decode cL_law 223 = .ok (.aload_n 2, 1) := by decide +kernel
theorem dL_law_224 : decode cL_law 224 = .ok (.aload_n 0, 1) := by decide +kernel
theorem dL_law_225 : decode cL_law 225 = .ok (.iload 4, 2) := by decide +kernel
theorem dL_law_227 : decode cL_law 227 = .ok (.iconst 1, 1) := by decide +kernel
theorem dL_law_228 : decode cL_law 228 = .ok (.iadd, 1) := by decide +kernel
theorem dL_law_229 : decode cL_law 229 = .ok (.iaload, 1) := by decide +kernel
theorem dL_law_230 : decode cL_law 230 = .ok (.invokevirtual 28, 3) := by decide +kernel
theorem dL_law_233 : decode cL_law 233 = .ok (.if_icmp .eq 867, 3) := by decide +kernel
theorem dL_law_236 : decode cL_law 236 = .ok (.iconst 0, 1) := by decide +kernel
theorem dL_law_237 : decode cL_law 237 = .ok (.ireturn, 1) := by decide +kernel
theorem dL_law_238 : decode cL_law 238 = .ok (.aload_n 1, 1) := by decide +kernel
theorem dL_law_239 : decode cL_law 239 = .ok (.invokevirtual 29, 3) := by decide +kernel
theorem dL_law_242 : decode cL_law 242 = .ok (.aload_n 2, 1) := by decide +kernel
theorem dL_law_243 : decode cL_law 243 = .ok (.invokevirtual 33, 3) := by decide +kernel
theorem dL_law_246 : decode cL_law 246 = .ok (.if_icmp .eq 854, 3) := by decide +kernel
theorem dL_law_249 : decode cL_law 249 = .ok (.iconst 0, 1) := by decide +kernel
theorem dL_law_250 : decode cL_law 250 = .ok (.ireturn, 1) := by decide +kernel
theorem dL_law_251 : decode cL_law 251 = .ok (.aload_n 1, 1) := by decide +kernel
theorem dL_law_252 : decode cL_law 252 = .ok (.invokevirtual 34, 3) := by decide +kernel
theorem dL_law_255 : decode cL_law 255 = .ok (.aload_n 2, 1) := by decide +kernel
theorem dL_law_256 : decode cL_law 256 = .ok (.invokevirtual 37, 3) := by decide +kernel
theorem dL_law_259 : decode cL_law 259 = .ok (.if_icmp .eq 841, 3) := by decide +kernel
theorem dL_law_262 : decode cL_law 262 = .ok (.iconst 0, 1) := by decide +kernel
theorem dL_law_263 : decode cL_law 263 = .ok (.ireturn, 1) := by decide +kernel
theorem dL_law_264 : decode cL_law 264 = .ok (.aload_n 1, 1) := by decide +kernel
theorem dL_law_265 : decode cL_law 265 = .ok (.invokevirtual 38, 3) := by decide +kernel
theorem dL_law_268 : decode cL_law 268 = .ok (.aload_n 2, 1) := by decide +kernel
theorem dL_law_269 : decode cL_law 269 = .ok (.invokevirtual 41, 3) := by decide +kernel
theorem dL_law_272 : decode cL_law 272 = .ok (.if_icmp .eq 828, 3) := by decide +kernel
theorem dL_law_275 : decode cL_law 275 = .ok (.iconst 0, 1) := by decide +kernel
theorem dL_law_276 : decode cL_law 276 = .ok (.ireturn, 1) := by decide +kernel
theorem dL_law_277 : decode cL_law 277 = .ok (.aload_n 1, 1) := by decide +kernel
theorem dL_law_278 : decode cL_law 278 = .ok (.aload_n 0, 1) := by decide +kernel
theorem dL_law_279 : decode cL_law 279 = .ok (.iload 4, 2) := by decide +kernel
theorem dL_law_281 : decode cL_law 281 = .ok (.iconst 1, 1) := by decide +kernel
theorem dL_law_282 : decode cL_law 282 = .ok (.iadd, 1) := by decide +kernel
theorem dL_law_283 : decode cL_law 283 = .ok (.iaload, 1) := by decide +kernel
theorem dL_law_284 : decode cL_law 284 = .ok (.aload_n 0, 1) := by decide +kernel
theorem dL_law_285 : decode cL_law 285 = .ok (.iload 4, 2) := by decide +kernel
theorem dL_law_287 : decode cL_law 287 = .ok (.iconst 2, 1) := by decide +kernel
theorem dL_law_288 : decode cL_law 288 = .ok (.iadd, 1) := by decide +kernel
theorem dL_law_289 : decode cL_law 289 = .ok (.iaload, 1) := by decide +kernel
theorem dL_law_290 : decode cL_law 290 = .ok (.aload_n 0, 1) := by decide +kernel
theorem dL_law_291 : decode cL_law 291 = .ok (.iload 4, 2) := by decide +kernel
theorem dL_law_293 : decode cL_law 293 = .ok (.iconst 3, 1) := by decide +kernel
theorem dL_law_294 : decode cL_law 294 = .ok (.iadd, 1) := by decide +kernel
theorem dL_law_295 : decode cL_law 295 = .ok (.iaload, 1) := by decide +kernel
theorem dL_law_296 : decode cL_law 296 = .ok (.ifCond .eq 7, 3) := by decide +kernel
theorem dL_law_299 : decode cL_law 299 = .ok (.iconst 1, 1) := by decide +kernel
theorem dL_law_300 : decode cL_law 300 = .ok (.goto 4, 3) := by decide +kernel
theorem dL_law_303 : decode cL_law 303 = .ok (.iconst 0, 1) := by decide +kernel
theorem dL_law_304 : decode cL_law 304 = .ok (.aload_n 0, 1) := by decide +kernel
theorem dL_law_305 : decode cL_law 305 = .ok (.iload 4, 2) := by decide +kernel
theorem dL_law_307 : decode cL_law 307 = .ok (.iconst 4, 1) := by decide +kernel
theorem dL_law_308 : decode cL_law 308 = .ok (.iadd, 1) := by decide +kernel
theorem dL_law_309 : decode cL_law 309 = .ok (.iaload, 1) := by decide +kernel
theorem dL_law_310 : decode cL_law 310 = .ok (.invokevirtual 42, 3) := by decide +kernel
theorem dL_law_313 : decode cL_law 313 = .ok (.aload_n 2, 1) := by decide +kernel
theorem dL_law_314 : decode cL_law 314 = .ok (.aload_n 0, 1) := by decide +kernel
theorem dL_law_315 : decode cL_law 315 = .ok (.iload 4, 2) := by decide +kernel
theorem dL_law_317 : decode cL_law 317 = .ok (.iconst 1, 1) := by decide +kernel
theorem dL_law_318 : decode cL_law 318 = .ok (.iadd, 1) := by decide +kernel
theorem dL_law_319 : decode cL_law 319 = .ok (.iaload, 1) := by decide +kernel
theorem dL_law_320 : decode cL_law 320 = .ok (.aload_n 0, 1) := by decide +kernel
theorem dL_law_321 : decode cL_law 321 = .ok (.iload 4, 2) := by decide +kernel
theorem dL_law_323 : decode cL_law 323 = .ok (.iconst 2, 1) := by decide +kernel
theorem dL_law_324 : decode cL_law 324 = .ok (.iadd, 1) := by decide +kernel
theorem dL_law_325 : decode cL_law 325 = .ok (.iaload, 1) := by decide +kernel
theorem dL_law_326 : decode cL_law 326 = .ok (.aload_n 0, 1) := by decide +kernel
theorem dL_law_327 : decode cL_law 327 = .ok (.iload 4, 2) := by decide +kernel
theorem dL_law_329 : decode cL_law 329 = .ok (.iconst 3, 1) := by decide +kernel
theorem dL_law_330 : decode cL_law 330 = .ok (.iadd, 1) := by decide +kernel
theorem dL_law_331 : decode cL_law 331 = .ok (.iaload, 1) := by decide +kernel
theorem dL_law_332 : decode cL_law 332 = .ok (.ifCond .eq 7, 3) := by decide +kernel
theorem dL_law_335 : decode cL_law 335 = .ok (.iconst 1, 1) := by decide +kernel
theorem dL_law_336 : decode cL_law 336 = .ok (.goto 4, 3) := by decide +kernel
theorem dL_law_339 : decode cL_law 339 = .ok (.iconst 0, 1) := by decide +kernel
theorem dL_law_340 : decode cL_law 340 = .ok (.aload_n 0, 1) := by decide +kernel
theorem dL_law_341 : decode cL_law 341 = .ok (.iload 4, 2) := by decide +kernel
theorem dL_law_343 : decode cL_law 343 = .ok (.iconst 4, 1) := by decide +kernel
theorem dL_law_344 : decode cL_law 344 = .ok (.iadd, 1) := by decide +kernel
theorem dL_law_345 : decode cL_law 345 = .ok (.iaload, 1) := by decide +kernel
theorem dL_law_346 : decode cL_law 346 = .ok (.invokevirtual 46, 3) := by decide +kernel
theorem dL_law_349 : decode cL_law 349 = .ok (.if_icmp .eq 751, 3) := by decide +kernel
theorem dL_law_352 : decode cL_law 352 = .ok (.iconst 0, 1) := by decide +kernel
theorem dL_law_353 : decode cL_law 353 = .ok (.ireturn, 1) := by decide +kernel
theorem dL_law_354 : decode cL_law 354 = .ok (.aload_n 1, 1) := by decide +kernel
theorem dL_law_355 : decode cL_law 355 = .ok (.aload_n 0, 1) := by decide +kernel
theorem dL_law_356 : decode cL_law 356 = .ok (.iload 4, 2) := by decide +kernel
theorem dL_law_358 : decode cL_law 358 = .ok (.iconst 1, 1) := by decide +kernel
theorem dL_law_359 : decode cL_law 359 = .ok (.iadd, 1) := by decide +kernel
theorem dL_law_360 : decode cL_law 360 = .ok (.iaload, 1) := by decide +kernel
theorem dL_law_361 : decode cL_law 361 = .ok (.aload_n 0, 1) := by decide +kernel
theorem dL_law_362 : decode cL_law 362 = .ok (.iload 4, 2) := by decide +kernel
theorem dL_law_364 : decode cL_law 364 = .ok (.iconst 2, 1) := by decide +kernel
theorem dL_law_365 : decode cL_law 365 = .ok (.iadd, 1) := by decide +kernel
theorem dL_law_366 : decode cL_law 366 = .ok (.iaload, 1) := by decide +kernel
theorem dL_law_367 : decode cL_law 367 = .ok (.aload_n 0, 1) := by decide +kernel
theorem dL_law_368 : decode cL_law 368 = .ok (.iload 4, 2) := by decide +kernel
theorem dL_law_370 : decode cL_law 370 = .ok (.iconst 3, 1) := by decide +kernel
theorem dL_law_371 : decode cL_law 371 = .ok (.iadd, 1) := by decide +kernel
theorem dL_law_372 : decode cL_law 372 = .ok (.iaload, 1) := by decide +kernel
theorem dL_law_373 : decode cL_law 373 = .ok (.invokevirtual 47, 3) := by decide +kernel
theorem dL_law_376 : decode cL_law 376 = .ok (.aload_n 2, 1) := by decide +kernel
theorem dL_law_377 : decode cL_law 377 = .ok (.aload_n 0, 1) := by decide +kernel
theorem dL_law_378 : decode cL_law 378 = .ok (.iload 4, 2) := by decide +kernel
theorem dL_law_380 : decode cL_law 380 = .ok (.iconst 1, 1) := by decide +kernel
theorem dL_law_381 : decode cL_law 381 = .ok (.iadd, 1) := by decide +kernel
theorem dL_law_382 : decode cL_law 382 = .ok (.iaload, 1) := by decide +kernel
theorem dL_law_383 : decode cL_law 383 = .ok (.aload_n 0, 1) := by decide +kernel
theorem dL_law_384 : decode cL_law 384 = .ok (.iload 4, 2) := by decide +kernel
theorem dL_law_386 : decode cL_law 386 = .ok (.iconst 2, 1) := by decide +kernel
theorem dL_law_387 : decode cL_law 387 = .ok (.iadd, 1) := by decide +kernel
theorem dL_law_388 : decode cL_law 388 = .ok (.iaload, 1) := by decide +kernel
theorem dL_law_389 : decode cL_law 389 = .ok (.aload_n 0, 1) := by decide +kernel
theorem dL_law_390 : decode cL_law 390 = .ok (.iload 4, 2) := by decide +kernel
theorem dL_law_392 : decode cL_law 392 = .ok (.iconst 3, 1) := by decide +kernel
theorem dL_law_393 : decode cL_law 393 = .ok (.iadd, 1) := by decide +kernel
theorem dL_law_394 : decode cL_law 394 = .ok (.iaload, 1) := by decide +kernel
theorem dL_law_395 : decode cL_law 395 = .ok (.invokevirtual 51, 3) := by decide +kernel
theorem dL_law_398 : decode cL_law 398 = .ok (.if_icmp .eq 702, 3) := by decide +kernel
theorem dL_law_401 : decode cL_law 401 = .ok (.iconst 0, 1) := by decide +kernel
theorem dL_law_402 : decode cL_law 402 = .ok (.ireturn, 1) := by decide +kernel
theorem dL_law_403 : decode cL_law 403 = .ok (.aload_n 1, 1) := by decide +kernel
theorem dL_law_404 : decode cL_law 404 = .ok (.aload_n 0, 1) := by decide +kernel
theorem dL_law_405 : decode cL_law 405 = .ok (.iload 4, 2) := by decide +kernel
theorem dL_law_407 : decode cL_law 407 = .ok (.iconst 1, 1) := by decide +kernel
theorem dL_law_408 : decode cL_law 408 = .ok (.iadd, 1) := by decide +kernel
theorem dL_law_409 : decode cL_law 409 = .ok (.iaload, 1) := by decide +kernel
theorem dL_law_410 : decode cL_law 410 = .ok (.aload_n 0, 1) := by decide +kernel
theorem dL_law_411 : decode cL_law 411 = .ok (.iload 4, 2) := by decide +kernel
theorem dL_law_413 : decode cL_law 413 = .ok (.iconst 2, 1) := by decide +kernel
theorem dL_law_414 : decode cL_law 414 = .ok (.iadd, 1) := by decide +kernel
theorem dL_law_415 : decode cL_law 415 = .ok (.iaload, 1) := by decide +kernel
theorem dL_law_416 : decode cL_law 416 = .ok (.aload_n 0, 1) := by decide +kernel
theorem dL_law_417 : decode cL_law 417 = .ok (.iload 4, 2) := by decide +kernel
theorem dL_law_419 : decode cL_law 419 = .ok (.iconst 3, 1) := by decide +kernel
theorem dL_law_420 : decode cL_law 420 = .ok (.iadd, 1) := by decide +kernel
theorem dL_law_421 : decode cL_law 421 = .ok (.iaload, 1) := by decide +kernel
theorem dL_law_422 : decode cL_law 422 = .ok (.invokevirtual 52, 3) := by decide +kernel
theorem dL_law_425 : decode cL_law 425 = .ok (.aload_n 2, 1) := by decide +kernel
theorem dL_law_426 : decode cL_law 426 = .ok (.aload_n 0, 1) := by decide +kernel
theorem dL_law_427 : decode cL_law 427 = .ok (.iload 4, 2) := by decide +kernel
theorem dL_law_429 : decode cL_law 429 = .ok (.iconst 1, 1) := by decide +kernel
theorem dL_law_430 : decode cL_law 430 = .ok (.iadd, 1) := by decide +kernel
theorem dL_law_431 : decode cL_law 431 = .ok (.iaload, 1) := by decide +kernel
theorem dL_law_432 : decode cL_law 432 = .ok (.aload_n 0, 1) := by decide +kernel
theorem dL_law_433 : decode cL_law 433 = .ok (.iload 4, 2) := by decide +kernel
theorem dL_law_435 : decode cL_law 435 = .ok (.iconst 2, 1) := by decide +kernel
theorem dL_law_436 : decode cL_law 436 = .ok (.iadd, 1) := by decide +kernel
theorem dL_law_437 : decode cL_law 437 = .ok (.iaload, 1) := by decide +kernel
theorem dL_law_438 : decode cL_law 438 = .ok (.aload_n 0, 1) := by decide +kernel
theorem dL_law_439 : decode cL_law 439 = .ok (.iload 4, 2) := by decide +kernel
theorem dL_law_441 : decode cL_law 441 = .ok (.iconst 3, 1) := by decide +kernel
theorem dL_law_442 : decode cL_law 442 = .ok (.iadd, 1) := by decide +kernel
theorem dL_law_443 : decode cL_law 443 = .ok (.iaload, 1) := by decide +kernel
theorem dL_law_444 : decode cL_law 444 = .ok (.invokevirtual 55, 3) := by decide +kernel
theorem dL_law_447 : decode cL_law 447 = .ok (.if_icmp .eq 653, 3) := by decide +kernel
theorem dL_law_450 : decode cL_law 450 = .ok (.iconst 0, 1) := by decide +kernel
theorem dL_law_451 : decode cL_law 451 = .ok (.ireturn, 1) := by decide +kernel
theorem dL_law_452 : decode cL_law 452 = .ok (.aload_n 1, 1) := by decide +kernel
theorem dL_law_453 : decode cL_law 453 = .ok (.aload_n 0, 1) := by decide +kernel
theorem dL_law_454 : decode cL_law 454 = .ok (.iload 4, 2) := by decide +kernel
theorem dL_law_456 : decode cL_law 456 = .ok (.iconst 1, 1) := by decide +kernel
theorem dL_law_457 : decode cL_law 457 = .ok (.iadd, 1) := by decide +kernel
theorem dL_law_458 : decode cL_law 458 = .ok (.iaload, 1) := by decide +kernel
theorem dL_law_459 : decode cL_law 459 = .ok (.aload_n 0, 1) := by decide +kernel
theorem dL_law_460 : decode cL_law 460 = .ok (.iload 4, 2) := by decide +kernel
theorem dL_law_462 : decode cL_law 462 = .ok (.iconst 2, 1) := by decide +kernel
theorem dL_law_463 : decode cL_law 463 = .ok (.iadd, 1) := by decide +kernel
theorem dL_law_464 : decode cL_law 464 = .ok (.iaload, 1) := by decide +kernel
theorem dL_law_465 : decode cL_law 465 = .ok (.aload_n 0, 1) := by decide +kernel
theorem dL_law_466 : decode cL_law 466 = .ok (.iload 4, 2) := by decide +kernel
theorem dL_law_468 : decode cL_law 468 = .ok (.iconst 3, 1) := by decide +kernel
theorem dL_law_469 : decode cL_law 469 = .ok (.iadd, 1) := by decide +kernel
theorem dL_law_470 : decode cL_law 470 = .ok (.iaload, 1) := by decide +kernel
theorem dL_law_471 : decode cL_law 471 = .ok (.aload_n 0, 1) := by decide +kernel
theorem dL_law_472 : decode cL_law 472 = .ok (.iload 4, 2) := by decide +kernel
theorem dL_law_474 : decode cL_law 474 = .ok (.iconst 4, 1) := by decide +kernel
theorem dL_law_475 : decode cL_law 475 = .ok (.iadd, 1) := by decide +kernel
theorem dL_law_476 : decode cL_law 476 = .ok (.iaload, 1) := by decide +kernel
theorem dL_law_477 : decode cL_law 477 = .ok (.aload_n 0, 1) := by decide +kernel
theorem dL_law_478 : decode cL_law 478 = .ok (.iload 4, 2) := by decide +kernel
theorem dL_law_480 : decode cL_law 480 = .ok (.iconst 5, 1) := by decide +kernel
theorem dL_law_481 : decode cL_law 481 = .ok (.iadd, 1) := by decide +kernel
theorem dL_law_482 : decode cL_law 482 = .ok (.iaload, 1) := by decide +kernel
theorem dL_law_483 : decode cL_law 483 = .ok (.ifCond .eq 7, 3) := by decide +kernel
theorem dL_law_486 : decode cL_law 486 = .ok (.iconst 1, 1) := by decide +kernel
theorem dL_law_487 : decode cL_law 487 = .ok (.goto 4, 3) := by decide +kernel
theorem dL_law_490 : decode cL_law 490 = .ok (.iconst 0, 1) := by decide +kernel
theorem dL_law_491 : decode cL_law 491 = .ok (.invokevirtual 56, 3) := by decide +kernel
theorem dL_law_494 : decode cL_law 494 = .ok (.aload_n 2, 1) := by decide +kernel
theorem dL_law_495 : decode cL_law 495 = .ok (.aload_n 0, 1) := by decide +kernel
theorem dL_law_496 : decode cL_law 496 = .ok (.iload 4, 2) := by decide +kernel
theorem dL_law_498 : decode cL_law 498 = .ok (.iconst 1, 1) := by decide +kernel
theorem dL_law_499 : decode cL_law 499 = .ok (.iadd, 1) := by decide +kernel
theorem dL_law_500 : decode cL_law 500 = .ok (.iaload, 1) := by decide +kernel
theorem dL_law_501 : decode cL_law 501 = .ok (.aload_n 0, 1) := by decide +kernel
theorem dL_law_502 : decode cL_law 502 = .ok (.iload 4, 2) := by decide +kernel
theorem dL_law_504 : decode cL_law 504 = .ok (.iconst 2, 1) := by decide +kernel
theorem dL_law_505 : decode cL_law 505 = .ok (.iadd, 1) := by decide +kernel
theorem dL_law_506 : decode cL_law 506 = .ok (.iaload, 1) := by decide +kernel
theorem dL_law_507 : decode cL_law 507 = .ok (.aload_n 0, 1) := by decide +kernel
theorem dL_law_508 : decode cL_law 508 = .ok (.iload 4, 2) := by decide +kernel
theorem dL_law_510 : decode cL_law 510 = .ok (.iconst 3, 1) := by decide +kernel
theorem dL_law_511 : decode cL_law 511 = .ok (.iadd, 1) := by decide +kernel
theorem dL_law_512 : decode cL_law 512 = .ok (.iaload, 1) := by decide +kernel
theorem dL_law_513 : decode cL_law 513 = .ok (.aload_n 0, 1) := by decide +kernel
theorem dL_law_514 : decode cL_law 514 = .ok (.iload 4, 2) := by decide +kernel
theorem dL_law_516 : decode cL_law 516 = .ok (.iconst 4, 1) := by decide +kernel
theorem dL_law_517 : decode cL_law 517 = .ok (.iadd, 1) := by decide +kernel
theorem dL_law_518 : decode cL_law 518 = .ok (.iaload, 1) := by decide +kernel
theorem dL_law_519 : decode cL_law 519 = .ok (.aload_n 0, 1) := by decide +kernel
theorem dL_law_520 : decode cL_law 520 = .ok (.iload 4, 2) := by decide +kernel
theorem dL_law_522 : decode cL_law 522 = .ok (.iconst 5, 1) := by decide +kernel
theorem dL_law_523 : decode cL_law 523 = .ok (.iadd, 1) := by decide +kernel
theorem dL_law_524 : decode cL_law 524 = .ok (.iaload, 1) := by decide +kernel
theorem dL_law_525 : decode cL_law 525 = .ok (.ifCond .eq 7, 3) := by decide +kernel
theorem dL_law_528 : decode cL_law 528 = .ok (.iconst 1, 1) := by decide +kernel
theorem dL_law_529 : decode cL_law 529 = .ok (.goto 4, 3) := by decide +kernel
theorem dL_law_532 : decode cL_law 532 = .ok (.iconst 0, 1) := by decide +kernel
theorem dL_law_533 : decode cL_law 533 = .ok (.invokevirtual 60, 3) := by decide +kernel
theorem dL_law_536 : decode cL_law 536 = .ok (.if_icmp .eq 564, 3) := by decide +kernel
theorem dL_law_539 : decode cL_law 539 = .ok (.iconst 0, 1) := by decide +kernel
theorem dL_law_540 : decode cL_law 540 = .ok (.ireturn, 1) := by decide +kernel
theorem dL_law_541 : decode cL_law 541 = .ok (.aload_n 1, 1) := by decide +kernel
theorem dL_law_542 : decode cL_law 542 = .ok (.aload_n 0, 1) := by decide +kernel
theorem dL_law_543 : decode cL_law 543 = .ok (.iload 4, 2) := by decide +kernel
theorem dL_law_545 : decode cL_law 545 = .ok (.iconst 1, 1) := by decide +kernel
theorem dL_law_546 : decode cL_law 546 = .ok (.iadd, 1) := by decide +kernel
theorem dL_law_547 : decode cL_law 547 = .ok (.iaload, 1) := by decide +kernel
theorem dL_law_548 : decode cL_law 548 = .ok (.aload_n 0, 1) := by decide +kernel
theorem dL_law_549 : decode cL_law 549 = .ok (.iload 4, 2) := by decide +kernel
theorem dL_law_551 : decode cL_law 551 = .ok (.iconst 2, 1) := by decide +kernel
theorem dL_law_552 : decode cL_law 552 = .ok (.iadd, 1) := by decide +kernel
theorem dL_law_553 : decode cL_law 553 = .ok (.iaload, 1) := by decide +kernel
theorem dL_law_554 : decode cL_law 554 = .ok (.aload_n 0, 1) := by decide +kernel
theorem dL_law_555 : decode cL_law 555 = .ok (.iload 4, 2) := by decide +kernel
theorem dL_law_557 : decode cL_law 557 = .ok (.iconst 3, 1) := by decide +kernel
theorem dL_law_558 : decode cL_law 558 = .ok (.iadd, 1) := by decide +kernel
theorem dL_law_559 : decode cL_law 559 = .ok (.iaload, 1) := by decide +kernel
theorem dL_law_560 : decode cL_law 560 = .ok (.invokevirtual 61, 3) := by decide +kernel
theorem dL_law_563 : decode cL_law 563 = .ok (.aload_n 2, 1) := by decide +kernel
theorem dL_law_564 : decode cL_law 564 = .ok (.aload_n 0, 1) := by decide +kernel
theorem dL_law_565 : decode cL_law 565 = .ok (.iload 4, 2) := by decide +kernel
theorem dL_law_567 : decode cL_law 567 = .ok (.iconst 1, 1) := by decide +kernel
theorem dL_law_568 : decode cL_law 568 = .ok (.iadd, 1) := by decide +kernel
theorem dL_law_569 : decode cL_law 569 = .ok (.iaload, 1) := by decide +kernel
theorem dL_law_570 : decode cL_law 570 = .ok (.aload_n 0, 1) := by decide +kernel
theorem dL_law_571 : decode cL_law 571 = .ok (.iload 4, 2) := by decide +kernel
theorem dL_law_573 : decode cL_law 573 = .ok (.iconst 2, 1) := by decide +kernel
theorem dL_law_574 : decode cL_law 574 = .ok (.iadd, 1) := by decide +kernel
theorem dL_law_575 : decode cL_law 575 = .ok (.iaload, 1) := by decide +kernel
theorem dL_law_576 : decode cL_law 576 = .ok (.aload_n 0, 1) := by decide +kernel
theorem dL_law_577 : decode cL_law 577 = .ok (.iload 4, 2) := by decide +kernel
theorem dL_law_579 : decode cL_law 579 = .ok (.iconst 3, 1) := by decide +kernel
theorem dL_law_580 : decode cL_law 580 = .ok (.iadd, 1) := by decide +kernel
theorem dL_law_581 : decode cL_law 581 = .ok (.iaload, 1) := by decide +kernel
theorem dL_law_582 : decode cL_law 582 = .ok (.invokevirtual 64, 3) := by decide +kernel
theorem dL_law_585 : decode cL_law 585 = .ok (.if_icmp .eq 515, 3) := by decide +kernel
theorem dL_law_588 : decode cL_law 588 = .ok (.iconst 0, 1) := by decide +kernel
theorem dL_law_589 : decode cL_law 589 = .ok (.ireturn, 1) := by decide +kernel
theorem dL_law_590 : decode cL_law 590 = .ok (.aload_n 1, 1) := by decide +kernel
theorem dL_law_591 : decode cL_law 591 = .ok (.aload_n 0, 1) := by decide +kernel
theorem dL_law_592 : decode cL_law 592 = .ok (.iload 4, 2) := by decide +kernel
theorem dL_law_594 : decode cL_law 594 = .ok (.iconst 1, 1) := by decide +kernel
theorem dL_law_595 : decode cL_law 595 = .ok (.iadd, 1) := by decide +kernel
theorem dL_law_596 : decode cL_law 596 = .ok (.iaload, 1) := by decide +kernel
theorem dL_law_597 : decode cL_law 597 = .ok (.aload_n 0, 1) := by decide +kernel
theorem dL_law_598 : decode cL_law 598 = .ok (.iload 4, 2) := by decide +kernel
theorem dL_law_600 : decode cL_law 600 = .ok (.iconst 2, 1) := by decide +kernel
theorem dL_law_601 : decode cL_law 601 = .ok (.iadd, 1) := by decide +kernel
theorem dL_law_602 : decode cL_law 602 = .ok (.iaload, 1) := by decide +kernel
theorem dL_law_603 : decode cL_law 603 = .ok (.aload_n 0, 1) := by decide +kernel
theorem dL_law_604 : decode cL_law 604 = .ok (.iload 4, 2) := by decide +kernel
theorem dL_law_606 : decode cL_law 606 = .ok (.iconst 3, 1) := by decide +kernel
theorem dL_law_607 : decode cL_law 607 = .ok (.iadd, 1) := by decide +kernel
theorem dL_law_608 : decode cL_law 608 = .ok (.iaload, 1) := by decide +kernel
theorem dL_law_609 : decode cL_law 609 = .ok (.aload_n 0, 1) := by decide +kernel
theorem dL_law_610 : decode cL_law 610 = .ok (.iload 4, 2) := by decide +kernel
theorem dL_law_612 : decode cL_law 612 = .ok (.iconst 4, 1) := by decide +kernel
theorem dL_law_613 : decode cL_law 613 = .ok (.iadd, 1) := by decide +kernel
theorem dL_law_614 : decode cL_law 614 = .ok (.iaload, 1) := by decide +kernel
theorem dL_law_615 : decode cL_law 615 = .ok (.aload_n 3, 1) := by decide +kernel
theorem dL_law_616 : decode cL_law 616 = .ok (.invokestatic 65, 3) := by decide +kernel
theorem dL_law_619 : decode cL_law 619 = .ok (.istore 5, 2) := by decide +kernel
theorem dL_law_621 : decode cL_law 621 = .ok (.aload_n 2, 1) := by decide +kernel
theorem dL_law_622 : decode cL_law 622 = .ok (.aload_n 0, 1) := by decide +kernel
theorem dL_law_623 : decode cL_law 623 = .ok (.iload 4, 2) := by decide +kernel
theorem dL_law_625 : decode cL_law 625 = .ok (.iconst 1, 1) := by decide +kernel
theorem dL_law_626 : decode cL_law 626 = .ok (.iadd, 1) := by decide +kernel
theorem dL_law_627 : decode cL_law 627 = .ok (.iaload, 1) := by decide +kernel
theorem dL_law_628 : decode cL_law 628 = .ok (.aload_n 0, 1) := by decide +kernel
theorem dL_law_629 : decode cL_law 629 = .ok (.iload 4, 2) := by decide +kernel
theorem dL_law_631 : decode cL_law 631 = .ok (.iconst 2, 1) := by decide +kernel
theorem dL_law_632 : decode cL_law 632 = .ok (.iadd, 1) := by decide +kernel
theorem dL_law_633 : decode cL_law 633 = .ok (.iaload, 1) := by decide +kernel
theorem dL_law_634 : decode cL_law 634 = .ok (.aload_n 0, 1) := by decide +kernel
theorem dL_law_635 : decode cL_law 635 = .ok (.iload 4, 2) := by decide +kernel
theorem dL_law_637 : decode cL_law 637 = .ok (.iconst 3, 1) := by decide +kernel
theorem dL_law_638 : decode cL_law 638 = .ok (.iadd, 1) := by decide +kernel
theorem dL_law_639 : decode cL_law 639 = .ok (.iaload, 1) := by decide +kernel
theorem dL_law_640 : decode cL_law 640 = .ok (.aload_n 0, 1) := by decide +kernel
theorem dL_law_641 : decode cL_law 641 = .ok (.iload 4, 2) := by decide +kernel
theorem dL_law_643 : decode cL_law 643 = .ok (.iconst 4, 1) := by decide +kernel
theorem dL_law_644 : decode cL_law 644 = .ok (.iadd, 1) := by decide +kernel
theorem dL_law_645 : decode cL_law 645 = .ok (.iaload, 1) := by decide +kernel
theorem dL_law_646 : decode cL_law 646 = .ok (.invokevirtual 70, 3) := by decide +kernel
theorem dL_law_649 : decode cL_law 649 = .ok (.istore 6, 2) := by decide +kernel
theorem dL_law_651 : decode cL_law 651 = .ok (.aload_n 2, 1) := by decide +kernel
theorem dL_law_652 : decode cL_law 652 = .ok (.invokevirtual 71, 3) := by decide +kernel
theorem dL_law_655 : decode cL_law 655 = .ok (.iload 5, 2) := by decide +kernel
theorem dL_law_657 : decode cL_law 657 = .ok (.if_icmp .eq 5, 3) := by decide +kernel
theorem dL_law_660 : decode cL_law 660 = .ok (.iconst 0, 1) := by decide +kernel
theorem dL_law_661 : decode cL_law 661 = .ok (.ireturn, 1) := by decide +kernel
theorem dL_law_662 : decode cL_law 662 = .ok (.iload 5, 2) := by decide +kernel
theorem dL_law_664 : decode cL_law 664 = .ok (.ifCond .ne 15, 3) := by decide +kernel
theorem dL_law_667 : decode cL_law 667 = .ok (.aload_n 3, 1) := by decide +kernel
theorem dL_law_668 : decode cL_law 668 = .ok (.iconst 0, 1) := by decide +kernel
theorem dL_law_669 : decode cL_law 669 = .ok (.laload, 1) := by decide +kernel
theorem dL_law_670 : decode cL_law 670 = .ok (.iload 6, 2) := by decide +kernel
theorem dL_law_672 : decode cL_law 672 = .ok (.i2l, 1) := by decide +kernel
theorem dL_law_673 : decode cL_law 673 = .ok (.lcmp, 1) := by decide +kernel
theorem dL_law_674 : decode cL_law 674 = .ok (.ifCond .eq 5, 3) := by decide +kernel
theorem dL_law_677 : decode cL_law 677 = .ok (.iconst 0, 1) := by decide +kernel
theorem dL_law_678 : decode cL_law 678 = .ok (.ireturn, 1) := by decide +kernel
theorem dL_law_679 : decode cL_law 679 = .ok (.goto 421, 3) := by decide +kernel
theorem dL_law_682 : decode cL_law 682 = .ok (.aload_n 1, 1) := by decide +kernel
theorem dL_law_683 : decode cL_law 683 = .ok (.aload_n 0, 1) := by decide +kernel
theorem dL_law_684 : decode cL_law 684 = .ok (.iload 4, 2) := by decide +kernel
theorem dL_law_686 : decode cL_law 686 = .ok (.iconst 1, 1) := by decide +kernel
theorem dL_law_687 : decode cL_law 687 = .ok (.iadd, 1) := by decide +kernel
theorem dL_law_688 : decode cL_law 688 = .ok (.iaload, 1) := by decide +kernel
theorem dL_law_689 : decode cL_law 689 = .ok (.aload_n 0, 1) := by decide +kernel
theorem dL_law_690 : decode cL_law 690 = .ok (.iload 4, 2) := by decide +kernel
theorem dL_law_692 : decode cL_law 692 = .ok (.iconst 2, 1) := by decide +kernel
theorem dL_law_693 : decode cL_law 693 = .ok (.iadd, 1) := by decide +kernel
theorem dL_law_694 : decode cL_law 694 = .ok (.iaload, 1) := by decide +kernel
theorem dL_law_695 : decode cL_law 695 = .ok (.invokevirtual 74, 3) := by decide +kernel
theorem dL_law_698 : decode cL_law 698 = .ok (.aload_n 2, 1) := by decide +kernel
theorem dL_law_699 : decode cL_law 699 = .ok (.aload_n 0, 1) := by decide +kernel
theorem dL_law_700 : decode cL_law 700 = .ok (.iload 4, 2) := by decide +kernel
theorem dL_law_702 : decode cL_law 702 = .ok (.iconst 1, 1) := by decide +kernel
theorem dL_law_703 : decode cL_law 703 = .ok (.iadd, 1) := by decide +kernel
theorem dL_law_704 : decode cL_law 704 = .ok (.iaload, 1) := by decide +kernel
theorem dL_law_705 : decode cL_law 705 = .ok (.aload_n 0, 1) := by decide +kernel
theorem dL_law_706 : decode cL_law 706 = .ok (.iload 4, 2) := by decide +kernel
theorem dL_law_708 : decode cL_law 708 = .ok (.iconst 2, 1) := by decide +kernel
theorem dL_law_709 : decode cL_law 709 = .ok (.iadd, 1) := by decide +kernel
theorem dL_law_710 : decode cL_law 710 = .ok (.iaload, 1) := by decide +kernel
theorem dL_law_711 : decode cL_law 711 = .ok (.invokevirtual 78, 3) := by decide +kernel
theorem dL_law_714 : decode cL_law 714 = .ok (.if_icmp .eq 386, 3) := by decide +kernel
theorem dL_law_717 : decode cL_law 717 = .ok (.iconst 0, 1) := by decide +kernel
theorem dL_law_718 : decode cL_law 718 = .ok (.ireturn, 1) := by decide +kernel
theorem dL_law_719 : decode cL_law 719 = .ok (.aload_n 1, 1) := by decide +kernel
theorem dL_law_720 : decode cL_law 720 = .ok (.aload_n 0, 1) := by decide +kernel
theorem dL_law_721 : decode cL_law 721 = .ok (.iload 4, 2) := by decide +kernel
theorem dL_law_723 : decode cL_law 723 = .ok (.iconst 1, 1) := by decide +kernel
theorem dL_law_724 : decode cL_law 724 = .ok (.iadd, 1) := by decide +kernel
theorem dL_law_725 : decode cL_law 725 = .ok (.iaload, 1) := by decide +kernel
theorem dL_law_726 : decode cL_law 726 = .ok (.aload_n 0, 1) := by decide +kernel
theorem dL_law_727 : decode cL_law 727 = .ok (.iload 4, 2) := by decide +kernel
theorem dL_law_729 : decode cL_law 729 = .ok (.iconst 2, 1) := by decide +kernel
theorem dL_law_730 : decode cL_law 730 = .ok (.iadd, 1) := by decide +kernel
theorem dL_law_731 : decode cL_law 731 = .ok (.iaload, 1) := by decide +kernel
theorem dL_law_732 : decode cL_law 732 = .ok (.aload_n 0, 1) := by decide +kernel
theorem dL_law_733 : decode cL_law 733 = .ok (.iload 4, 2) := by decide +kernel
theorem dL_law_735 : decode cL_law 735 = .ok (.iconst 3, 1) := by decide +kernel
theorem dL_law_736 : decode cL_law 736 = .ok (.iadd, 1) := by decide +kernel
theorem dL_law_737 : decode cL_law 737 = .ok (.iaload, 1) := by decide +kernel
theorem dL_law_738 : decode cL_law 738 = .ok (.aload_n 0, 1) := by decide +kernel
theorem dL_law_739 : decode cL_law 739 = .ok (.iload 4, 2) := by decide +kernel
theorem dL_law_741 : decode cL_law 741 = .ok (.iconst 4, 1) := by decide +kernel
theorem dL_law_742 : decode cL_law 742 = .ok (.iadd, 1) := by decide +kernel
theorem dL_law_743 : decode cL_law 743 = .ok (.iaload, 1) := by decide +kernel
theorem dL_law_744 : decode cL_law 744 = .ok (.invokevirtual 79, 3) := by decide +kernel
theorem dL_law_747 : decode cL_law 747 = .ok (.aload_n 2, 1) := by decide +kernel
theorem dL_law_748 : decode cL_law 748 = .ok (.aload_n 0, 1) := by decide +kernel
theorem dL_law_749 : decode cL_law 749 = .ok (.iload 4, 2) := by decide +kernel
theorem dL_law_751 : decode cL_law 751 = .ok (.iconst 1, 1) := by decide +kernel
theorem dL_law_752 : decode cL_law 752 = .ok (.iadd, 1) := by decide +kernel
theorem dL_law_753 : decode cL_law 753 = .ok (.iaload, 1) := by decide +kernel
theorem dL_law_754 : decode cL_law 754 = .ok (.aload_n 0, 1) := by decide +kernel
theorem dL_law_755 : decode cL_law 755 = .ok (.iload 4, 2) := by decide +kernel
theorem dL_law_757 : decode cL_law 757 = .ok (.iconst 2, 1) := by decide +kernel
theorem dL_law_758 : decode cL_law 758 = .ok (.iadd, 1) := by decide +kernel
theorem dL_law_759 : decode cL_law 759 = .ok (.iaload, 1) := by decide +kernel
theorem dL_law_760 : decode cL_law 760 = .ok (.aload_n 0, 1) := by decide +kernel
theorem dL_law_761 : decode cL_law 761 = .ok (.iload 4, 2) := by decide +kernel
theorem dL_law_763 : decode cL_law 763 = .ok (.iconst 3, 1) := by decide +kernel
theorem dL_law_764 : decode cL_law 764 = .ok (.iadd, 1) := by decide +kernel
theorem dL_law_765 : decode cL_law 765 = .ok (.iaload, 1) := by decide +kernel
theorem dL_law_766 : decode cL_law 766 = .ok (.aload_n 0, 1) := by decide +kernel
theorem dL_law_767 : decode cL_law 767 = .ok (.iload 4, 2) := by decide +kernel
theorem dL_law_769 : decode cL_law 769 = .ok (.iconst 4, 1) := by decide +kernel
theorem dL_law_770 : decode cL_law 770 = .ok (.iadd, 1) := by decide +kernel
theorem dL_law_771 : decode cL_law 771 = .ok (.iaload, 1) := by decide +kernel
theorem dL_law_772 : decode cL_law 772 = .ok (.invokevirtual 82, 3) := by decide +kernel
theorem dL_law_775 : decode cL_law 775 = .ok (.if_icmp .eq 325, 3) := by decide +kernel
theorem dL_law_778 : decode cL_law 778 = .ok (.iconst 0, 1) := by decide +kernel
theorem dL_law_779 : decode cL_law 779 = .ok (.ireturn, 1) := by decide +kernel
theorem dL_law_780 : decode cL_law 780 = .ok (.aload_n 1, 1) := by decide +kernel
theorem dL_law_781 : decode cL_law 781 = .ok (.aload_n 0, 1) := by decide +kernel
theorem dL_law_782 : decode cL_law 782 = .ok (.iload 4, 2) := by decide +kernel
theorem dL_law_784 : decode cL_law 784 = .ok (.iconst 1, 1) := by decide +kernel
theorem dL_law_785 : decode cL_law 785 = .ok (.iadd, 1) := by decide +kernel
theorem dL_law_786 : decode cL_law 786 = .ok (.iaload, 1) := by decide +kernel
theorem dL_law_787 : decode cL_law 787 = .ok (.aload_n 0, 1) := by decide +kernel
theorem dL_law_788 : decode cL_law 788 = .ok (.iload 4, 2) := by decide +kernel
theorem dL_law_790 : decode cL_law 790 = .ok (.iconst 2, 1) := by decide +kernel
theorem dL_law_791 : decode cL_law 791 = .ok (.iadd, 1) := by decide +kernel
theorem dL_law_792 : decode cL_law 792 = .ok (.iaload, 1) := by decide +kernel
theorem dL_law_793 : decode cL_law 793 = .ok (.aload_n 0, 1) := by decide +kernel
theorem dL_law_794 : decode cL_law 794 = .ok (.iload 4, 2) := by decide +kernel
theorem dL_law_796 : decode cL_law 796 = .ok (.iconst 3, 1) := by decide +kernel
theorem dL_law_797 : decode cL_law 797 = .ok (.iadd, 1) := by decide +kernel
theorem dL_law_798 : decode cL_law 798 = .ok (.iaload, 1) := by decide +kernel
theorem dL_law_799 : decode cL_law 799 = .ok (.invokevirtual 83, 3) := by decide +kernel
theorem dL_law_802 : decode cL_law 802 = .ok (.aload_n 2, 1) := by decide +kernel
theorem dL_law_803 : decode cL_law 803 = .ok (.aload_n 0, 1) := by decide +kernel
theorem dL_law_804 : decode cL_law 804 = .ok (.iload 4, 2) := by decide +kernel
theorem dL_law_806 : decode cL_law 806 = .ok (.iconst 1, 1) := by decide +kernel
theorem dL_law_807 : decode cL_law 807 = .ok (.iadd, 1) := by decide +kernel
theorem dL_law_808 : decode cL_law 808 = .ok (.iaload, 1) := by decide +kernel
theorem dL_law_809 : decode cL_law 809 = .ok (.aload_n 0, 1) := by decide +kernel
theorem dL_law_810 : decode cL_law 810 = .ok (.iload 4, 2) := by decide +kernel
theorem dL_law_812 : decode cL_law 812 = .ok (.iconst 2, 1) := by decide +kernel
theorem dL_law_813 : decode cL_law 813 = .ok (.iadd, 1) := by decide +kernel
theorem dL_law_814 : decode cL_law 814 = .ok (.iaload, 1) := by decide +kernel
theorem dL_law_815 : decode cL_law 815 = .ok (.aload_n 0, 1) := by decide +kernel
theorem dL_law_816 : decode cL_law 816 = .ok (.iload 4, 2) := by decide +kernel
theorem dL_law_818 : decode cL_law 818 = .ok (.iconst 3, 1) := by decide +kernel
theorem dL_law_819 : decode cL_law 819 = .ok (.iadd, 1) := by decide +kernel
theorem dL_law_820 : decode cL_law 820 = .ok (.iaload, 1) := by decide +kernel
theorem dL_law_821 : decode cL_law 821 = .ok (.invokevirtual 86, 3) := by decide +kernel
theorem dL_law_824 : decode cL_law 824 = .ok (.if_icmp .eq 276, 3) := by decide +kernel
theorem dL_law_827 : decode cL_law 827 = .ok (.iconst 0, 1) := by decide +kernel
theorem dL_law_828 : decode cL_law 828 = .ok (.ireturn, 1) := by decide +kernel
theorem dL_law_829 : decode cL_law 829 = .ok (.aload_n 1, 1) := by decide +kernel
theorem dL_law_830 : decode cL_law 830 = .ok (.aload_n 0, 1) := by decide +kernel
theorem dL_law_831 : decode cL_law 831 = .ok (.iload 4, 2) := by decide +kernel
theorem dL_law_833 : decode cL_law 833 = .ok (.iconst 1, 1) := by decide +kernel
theorem dL_law_834 : decode cL_law 834 = .ok (.iadd, 1) := by decide +kernel
theorem dL_law_835 : decode cL_law 835 = .ok (.iaload, 1) := by decide +kernel
theorem dL_law_836 : decode cL_law 836 = .ok (.aload_n 0, 1) := by decide +kernel
theorem dL_law_837 : decode cL_law 837 = .ok (.iload 4, 2) := by decide +kernel
theorem dL_law_839 : decode cL_law 839 = .ok (.iconst 2, 1) := by decide +kernel
theorem dL_law_840 : decode cL_law 840 = .ok (.iadd, 1) := by decide +kernel
theorem dL_law_841 : decode cL_law 841 = .ok (.iaload, 1) := by decide +kernel
theorem dL_law_842 : decode cL_law 842 = .ok (.aload_n 0, 1) := by decide +kernel
theorem dL_law_843 : decode cL_law 843 = .ok (.iload 4, 2) := by decide +kernel
theorem dL_law_845 : decode cL_law 845 = .ok (.iconst 3, 1) := by decide +kernel
theorem dL_law_846 : decode cL_law 846 = .ok (.iadd, 1) := by decide +kernel
theorem dL_law_847 : decode cL_law 847 = .ok (.iaload, 1) := by decide +kernel
theorem dL_law_848 : decode cL_law 848 = .ok (.invokevirtual 87, 3) := by decide +kernel
theorem dL_law_851 : decode cL_law 851 = .ok (.aload_n 2, 1) := by decide +kernel
theorem dL_law_852 : decode cL_law 852 = .ok (.aload_n 0, 1) := by decide +kernel
theorem dL_law_853 : decode cL_law 853 = .ok (.iload 4, 2) := by decide +kernel
theorem dL_law_855 : decode cL_law 855 = .ok (.iconst 1, 1) := by decide +kernel
theorem dL_law_856 : decode cL_law 856 = .ok (.iadd, 1) := by decide +kernel
theorem dL_law_857 : decode cL_law 857 = .ok (.iaload, 1) := by decide +kernel
theorem dL_law_858 : decode cL_law 858 = .ok (.aload_n 0, 1) := by decide +kernel
theorem dL_law_859 : decode cL_law 859 = .ok (.iload 4, 2) := by decide +kernel
theorem dL_law_861 : decode cL_law 861 = .ok (.iconst 2, 1) := by decide +kernel
theorem dL_law_862 : decode cL_law 862 = .ok (.iadd, 1) := by decide +kernel
theorem dL_law_863 : decode cL_law 863 = .ok (.iaload, 1) := by decide +kernel
theorem dL_law_864 : decode cL_law 864 = .ok (.aload_n 0, 1) := by decide +kernel
theorem dL_law_865 : decode cL_law 865 = .ok (.iload 4, 2) := by decide +kernel
theorem dL_law_867 : decode cL_law 867 = .ok (.iconst 3, 1) := by decide +kernel
theorem dL_law_868 : decode cL_law 868 = .ok (.iadd, 1) := by decide +kernel
theorem dL_law_869 : decode cL_law 869 = .ok (.iaload, 1) := by decide +kernel
theorem dL_law_870 : decode cL_law 870 = .ok (.invokevirtual 90, 3) := by decide +kernel
theorem dL_law_873 : decode cL_law 873 = .ok (.if_icmp .eq 227, 3) := by decide +kernel
theorem dL_law_876 : decode cL_law 876 = .ok (.iconst 0, 1) := by decide +kernel
theorem dL_law_877 : decode cL_law 877 = .ok (.ireturn, 1) := by decide +kernel
theorem dL_law_878 : decode cL_law 878 = .ok (.aload_n 1, 1) := by decide +kernel
theorem dL_law_879 : decode cL_law 879 = .ok (.aload_n 0, 1) := by decide +kernel
theorem dL_law_880 : decode cL_law 880 = .ok (.iload 4, 2) := by decide +kernel
theorem dL_law_882 : decode cL_law 882 = .ok (.iconst 1, 1) := by decide +kernel
theorem dL_law_883 : decode cL_law 883 = .ok (.iadd, 1) := by decide +kernel
theorem dL_law_884 : decode cL_law 884 = .ok (.iaload, 1) := by decide +kernel
theorem dL_law_885 : decode cL_law 885 = .ok (.aload_n 0, 1) := by decide +kernel
theorem dL_law_886 : decode cL_law 886 = .ok (.iload 4, 2) := by decide +kernel
theorem dL_law_888 : decode cL_law 888 = .ok (.iconst 2, 1) := by decide +kernel
