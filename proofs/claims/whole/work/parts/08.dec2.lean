theorem dX7_right_2 : decode cX7_right 2 = .ok (.invokevirtual 100, 3) := by decide +kernel
theorem dX7_right_5 : decode cX7_right 5 = .ok (.ifCond .eq 34, 3) := by decide +kernel
theorem dX7_right_8 : decode cX7_right 8 = .ok (.aload_n 0, 1) := by decide +kernel
theorem dX7_right_9 : decode cX7_right 9 = .ok (.iload_n 2, 1) := by decide +kernel
theorem dX7_right_10 : decode cX7_right 10 = .ok (.invokevirtual 118, 3) := by decide +kernel
theorem dX7_right_13 : decode cX7_right 13 = .ok (.ifCond .eq 26, 3) := by decide +kernel
theorem dX7_right_16 : decode cX7_right 16 = .ok (.aload_n 0, 1) := by decide +kernel
theorem dX7_right_17 : decode cX7_right 17 = .ok (.iload_n 3, 1) := by decide +kernel
theorem dX7_right_18 : decode cX7_right 18 = .ok (.invokevirtual 107, 3) := by decide +kernel
theorem dX7_right_21 : decode cX7_right 21 = .ok (.ifCond .eq 18, 3) := by decide +kernel
theorem dX7_right_24 : decode cX7_right 24 = .ok (.aload_n 0, 1) := by decide +kernel
theorem dX7_right_25 : decode cX7_right 25 = .ok (.iload 4, 2) := by decide +kernel
theorem dX7_right_27 : decode cX7_right 27 = .ok (.invokevirtual 107, 3) := by decide +kernel
theorem dX7_right_30 : decode cX7_right 30 = .ok (.ifCond .eq 9, 3) := by decide +kernel
theorem dX7_right_33 : decode cX7_right 33 = .ok (.iload_n 3, 1) := by decide +kernel
theorem dX7_right_34 : decode cX7_right 34 = .ok (.iload 4, 2) := by decide +kernel
theorem dX7_right_36 : decode cX7_right 36 = .ok (.if_icmp .le 5, 3) := by decide +kernel
theorem dX7_right_39 : decode cX7_right 39 = .ok (.iconst (-1), 1) := by decide +kernel
theorem dX7_right_40 : decode cX7_right 40 = .ok (.ireturn, 1) := by decide +kernel
theorem dX7_right_41 : decode cX7_right 41 = .ok (.aload_n 0, 1) := by decide +kernel
theorem dX7_right_42 : decode cX7_right 42 = .ok (.getfield 46, 3) := by decide +kernel
theorem dX7_right_45 : decode cX7_right 45 = .ok (.iload_n 1, 1) := by decide +kernel
theorem dX7_right_46 : decode cX7_right 46 = .ok (.iload_n 2, 1) := by decide +kernel
theorem dX7_right_47 : decode cX7_right 47 = .ok (.iload_n 3, 1) := by decide +kernel
theorem dX7_right_48 : decode cX7_right 48 = .ok (.iload 4, 2) := by decide +kernel
theorem dX7_right_50 : decode cX7_right 50 = .ok (.iload 5, 2) := by decide +kernel
theorem dX7_right_52 : decode cX7_right 52 = .ok (.invokevirtual 121, 3) := by decide +kernel
theorem dX7_right_55 : decode cX7_right 55 = .ok (.ireturn, 1) := by decide +kernel
theorem dX7_rooms_0 : decode cX7_rooms 0 = .ok (.aload_n 0, 1) := by decide +kernel
theorem dX7_rooms_1 : decode cX7_rooms 1 = .ok (.iload_n 1, 1) := by decide +kernel
theorem dX7_rooms_2 : decode cX7_rooms 2 = .ok (.invokevirtual 100, 3) := by decide +kernel
theorem dX7_rooms_5 : decode cX7_rooms 5 = .ok (.ifCond .eq 19, 3) := by decide +kernel
theorem dX7_rooms_8 : decode cX7_rooms 8 = .ok (.aload_n 0, 1) := by decide +kernel
theorem dX7_rooms_9 : decode cX7_rooms 9 = .ok (.iload_n 2, 1) := by decide +kernel
theorem dX7_rooms_10 : decode cX7_rooms 10 = .ok (.invokevirtual 107, 3) := by decide +kernel
theorem dX7_rooms_13 : decode cX7_rooms 13 = .ok (.ifCond .eq 11, 3) := by decide +kernel
theorem dX7_rooms_16 : decode cX7_rooms 16 = .ok (.aload_n 0, 1) := by decide +kernel
theorem dX7_rooms_17 : decode cX7_rooms 17 = .ok (.iload_n 3, 1) := by decide +kernel
theorem dX7_rooms_18 : decode cX7_rooms 18 = .ok (.invokevirtual 124, 3) := by decide +kernel
theorem dX7_rooms_21 : decode cX7_rooms 21 = .ok (.ifCond .ne 5, 3) := by decide +kernel
theorem dX7_rooms_24 : decode cX7_rooms 24 = .ok (.iconst (-1), 1) := by decide +kernel
theorem dX7_rooms_25 : decode cX7_rooms 25 = .ok (.ireturn, 1) := by decide +kernel
theorem dX7_rooms_26 : decode cX7_rooms 26 = .ok (.aload_n 0, 1) := by decide +kernel
theorem dX7_rooms_27 : decode cX7_rooms 27 = .ok (.getfield 67, 3) := by decide +kernel
theorem dX7_rooms_30 : decode cX7_rooms 30 = .ok (.iload_n 1, 1) := by decide +kernel
theorem dX7_rooms_31 : decode cX7_rooms 31 = .ok (.iload_n 2, 1) := by decide +kernel
theorem dX7_rooms_32 : decode cX7_rooms 32 = .ok (.iload_n 3, 1) := by decide +kernel
theorem dX7_rooms_33 : decode cX7_rooms 33 = .ok (.invokevirtual 127, 3) := by decide +kernel
theorem dX7_rooms_36 : decode cX7_rooms 36 = .ok (.ireturn, 1) := by decide +kernel
theorem dX7_way_0 : decode cX7_way 0 = .ok (.aload_n 0, 1) := by decide +kernel
theorem dX7_way_1 : decode cX7_way 1 = .ok (.iload_n 1, 1) := by decide +kernel
theorem dX7_way_2 : decode cX7_way 2 = .ok (.invokevirtual 100, 3) := by decide +kernel
theorem dX7_way_5 : decode cX7_way 5 = .ok (.ifCond .eq 28, 3) := by decide +kernel
theorem dX7_way_8 : decode cX7_way 8 = .ok (.aload_n 0, 1) := by decide +kernel
theorem dX7_way_9 : decode cX7_way 9 = .ok (.iload_n 2, 1) := by decide +kernel
theorem dX7_way_10 : decode cX7_way 10 = .ok (.invokevirtual 107, 3) := by decide +kernel
theorem dX7_way_13 : decode cX7_way 13 = .ok (.ifCond .eq 20, 3) := by decide +kernel
theorem dX7_way_16 : decode cX7_way 16 = .ok (.aload_n 0, 1) := by decide +kernel
theorem dX7_way_17 : decode cX7_way 17 = .ok (.iload_n 3, 1) := by decide +kernel
theorem dX7_way_18 : decode cX7_way 18 = .ok (.invokevirtual 118, 3) := by decide +kernel
theorem dX7_way_21 : decode cX7_way 21 = .ok (.ifCond .eq 12, 3) := by decide +kernel
theorem dX7_way_24 : decode cX7_way 24 = .ok (.aload_n 0, 1) := by decide +kernel
theorem dX7_way_25 : decode cX7_way 25 = .ok (.iload 4, 2) := by decide +kernel
theorem dX7_way_27 : decode cX7_way 27 = .ok (.invokevirtual 107, 3) := by decide +kernel
theorem dX7_way_30 : decode cX7_way 30 = .ok (.ifCond .ne 13, 3) := by decide +kernel
theorem dX7_way_33 : decode cX7_way 33 = .ok (.new 131, 3) := by decide +kernel
theorem dX7_way_36 : decode cX7_way 36 = .ok (.dup, 1) := by decide +kernel
theorem dX7_way_37 : decode cX7_way 37 = .ok (.ldc 133, 2) := by decide +kernel
theorem dX7_way_39 : decode cX7_way 39 = .ok (.invokespecial 135, 3) := by decide +kernel
theorem dX7_way_42 : decode cX7_way 42 = .ok (.athrow, 1) := by decide +kernel
theorem dX7_way_43 : decode cX7_way 43 = .ok (.aload_n 0, 1) := by decide +kernel
theorem dX7_way_44 : decode cX7_way 44 = .ok (.getfield 67, 3) := by decide +kernel
theorem dX7_way_47 : decode cX7_way 47 = .ok (.iload_n 1, 1) := by decide +kernel
theorem dX7_way_48 : decode cX7_way 48 = .ok (.iload_n 2, 1) := by decide +kernel
theorem dX7_way_49 : decode cX7_way 49 = .ok (.iload_n 3, 1) := by decide +kernel
theorem dX7_way_50 : decode cX7_way 50 = .ok (.iload 4, 2) := by decide +kernel
theorem dX7_way_52 : decode cX7_way 52 = .ok (.invokevirtual 138, 3) := by decide +kernel
theorem dX7_way_55 : decode cX7_way 55 = .ok (.ireturn, 1) := by decide +kernel
theorem dX7_broken_0 : decode cX7_broken 0 = .ok (.aload_n 0, 1) := by decide +kernel
theorem dX7_broken_1 : decode cX7_broken 1 = .ok (.iload_n 1, 1) := by decide +kernel
theorem dX7_broken_2 : decode cX7_broken 2 = .ok (.invokevirtual 100, 3) := by decide +kernel
theorem dX7_broken_5 : decode cX7_broken 5 = .ok (.ifCond .eq 11, 3) := by decide +kernel
theorem dX7_broken_8 : decode cX7_broken 8 = .ok (.aload_n 0, 1) := by decide +kernel
theorem dX7_broken_9 : decode cX7_broken 9 = .ok (.iload_n 2, 1) := by decide +kernel
theorem dX7_broken_10 : decode cX7_broken 10 = .ok (.invokevirtual 124, 3) := by decide +kernel
theorem dX7_broken_13 : decode cX7_broken 13 = .ok (.ifCond .ne 5, 3) := by decide +kernel
theorem dX7_broken_16 : decode cX7_broken 16 = .ok (.iconst (-1), 1) := by decide +kernel
theorem dX7_broken_17 : decode cX7_broken 17 = .ok (.ireturn, 1) := by decide +kernel
theorem dX7_broken_18 : decode cX7_broken 18 = .ok (.aload_n 0, 1) := by decide +kernel
theorem dX7_broken_19 : decode cX7_broken 19 = .ok (.getfield 67, 3) := by decide +kernel
theorem dX7_broken_22 : decode cX7_broken 22 = .ok (.iload_n 1, 1) := by decide +kernel
theorem dX7_broken_23 : decode cX7_broken 23 = .ok (.iload_n 2, 1) := by decide +kernel
theorem dX7_broken_24 : decode cX7_broken 24 = .ok (.invokevirtual 142, 3) := by decide +kernel
theorem dX7_broken_27 : decode cX7_broken 27 = .ok (.ireturn, 1) := by decide +kernel
theorem dX7_many_0 : decode cX7_many 0 = .ok (.aload_n 0, 1) := by decide +kernel
theorem dX7_many_1 : decode cX7_many 1 = .ok (.iload_n 1, 1) := by decide +kernel
theorem dX7_many_2 : decode cX7_many 2 = .ok (.invokevirtual 118, 3) := by decide +kernel
theorem dX7_many_5 : decode cX7_many 5 = .ok (.ifCond .eq 30, 3) := by decide +kernel
theorem dX7_many_8 : decode cX7_many 8 = .ok (.aload_n 0, 1) := by decide +kernel
theorem dX7_many_9 : decode cX7_many 9 = .ok (.iload_n 2, 1) := by decide +kernel
theorem dX7_many_10 : decode cX7_many 10 = .ok (.invokevirtual 107, 3) := by decide +kernel
theorem dX7_many_13 : decode cX7_many 13 = .ok (.ifCond .eq 22, 3) := by decide +kernel
theorem dX7_many_16 : decode cX7_many 16 = .ok (.aload_n 0, 1) := by decide +kernel
theorem dX7_many_17 : decode cX7_many 17 = .ok (.iload_n 3, 1) := by decide +kernel
theorem dX7_many_18 : decode cX7_many 18 = .ok (.invokevirtual 124, 3) := by decide +kernel
theorem dX7_many_21 : decode cX7_many 21 = .ok (.ifCond .eq 14, 3) := by decide +kernel
theorem dX7_many_24 : decode cX7_many 24 = .ok (.iload 4, 2) := by decide +kernel
theorem dX7_many_26 : decode cX7_many 26 = .ok (.ifCond .lt 9, 3) := by decide +kernel
theorem dX7_many_29 : decode cX7_many 29 = .ok (.iload 4, 2) := by decide +kernel
theorem dX7_many_31 : decode cX7_many 31 = .ok (.iconst 1, 1) := by decide +kernel
theorem dX7_many_32 : decode cX7_many 32 = .ok (.if_icmp .le 5, 3) := by decide +kernel
theorem dX7_many_35 : decode cX7_many 35 = .ok (.iconst (-1), 1) := by decide +kernel
theorem dX7_many_36 : decode cX7_many 36 = .ok (.ireturn, 1) := by decide +kernel
theorem dX7_many_37 : decode cX7_many 37 = .ok (.iconst 1, 1) := by decide +kernel
theorem dX7_many_38 : decode cX7_many 38 = .ok (.iload_n 1, 1) := by decide +kernel
theorem dX7_many_39 : decode cX7_many 39 = .ok (.ishl, 1) := by decide +kernel
theorem dX7_many_40 : decode cX7_many 40 = .ok (.istore 5, 2) := by decide +kernel
theorem dX7_many_42 : decode cX7_many 42 = .ok (.iconst 0, 1) := by decide +kernel
theorem dX7_many_43 : decode cX7_many 43 = .ok (.istore 6, 2) := by decide +kernel
theorem dX7_many_45 : decode cX7_many 45 = .ok (.iconst 0, 1) := by decide +kernel
theorem dX7_many_46 : decode cX7_many 46 = .ok (.istore 7, 2) := by decide +kernel
theorem dX7_many_48 : decode cX7_many 48 = .ok (.iload 7, 2) := by decide +kernel
theorem dX7_many_50 : decode cX7_many 50 = .ok (.aload_n 0, 1) := by decide +kernel
theorem dX7_many_51 : decode cX7_many 51 = .ok (.getfield 87, 3) := by decide +kernel
theorem dX7_many_54 : decode cX7_many 54 = .ok (.if_icmp .ge 48, 3) := by decide +kernel
theorem dX7_many_57 : decode cX7_many 57 = .ok (.aload_n 0, 1) := by decide +kernel
theorem dX7_many_58 : decode cX7_many 58 = .ok (.getfield 67, 3) := by decide +kernel
theorem dX7_many_61 : decode cX7_many 61 = .ok (.iload 7, 2) := by decide +kernel
theorem dX7_many_63 : decode cX7_many 63 = .ok (.iload_n 2, 1) := by decide +kernel
theorem dX7_many_64 : decode cX7_many 64 = .ok (.iload_n 3, 1) := by decide +kernel
theorem dX7_many_65 : decode cX7_many 65 = .ok (.invokevirtual 127, 3) := by decide +kernel
theorem dX7_many_68 : decode cX7_many 68 = .ok (.istore 8, 2) := by decide +kernel
theorem dX7_many_70 : decode cX7_many 70 = .ok (.iload 4, 2) := by decide +kernel
theorem dX7_many_72 : decode cX7_many 72 = .ok (.ifCond .ne 13, 3) := by decide +kernel
theorem dX7_many_75 : decode cX7_many 75 = .ok (.iload 8, 2) := by decide +kernel
theorem dX7_many_77 : decode cX7_many 77 = .ok (.iload 5, 2) := by decide +kernel
theorem dX7_many_79 : decode cX7_many 79 = .ok (.if_icmp .ne 17, 3) := by decide +kernel
theorem dX7_many_82 : decode cX7_many 82 = .ok (.goto 11, 3) := by decide +kernel
theorem dX7_many_85 : decode cX7_many 85 = .ok (.iload 8, 2) := by decide +kernel
theorem dX7_many_87 : decode cX7_many 87 = .ok (.iload 5, 2) := by decide +kernel
theorem dX7_many_89 : decode cX7_many 89 = .ok (.iand, 1) := by decide +kernel
theorem dX7_many_90 : decode cX7_many 90 = .ok (.ifCond .eq 6, 3) := by decide +kernel
theorem dX7_many_93 : decode cX7_many 93 = .ok (.iinc 6 1, 3) := by decide +kernel
theorem dX7_many_96 : decode cX7_many 96 = .ok (.iinc 7 1, 3) := by decide +kernel
theorem dX7_many_99 : decode cX7_many 99 = .ok (.goto (-51), 3) := by decide +kernel
theorem dX7_many_102 : decode cX7_many 102 = .ok (.iload 6, 2) := by decide +kernel
theorem dX7_many_104 : decode cX7_many 104 = .ok (.ireturn, 1) := by decide +kernel
theorem dX7_inside_0 : decode cX7_inside 0 = .ok (.aload_n 0, 1) := by decide +kernel
theorem dX7_inside_1 : decode cX7_inside 1 = .ok (.iload_n 1, 1) := by decide +kernel
theorem dX7_inside_2 : decode cX7_inside 2 = .ok (.invokevirtual 107, 3) := by decide +kernel
theorem dX7_inside_5 : decode cX7_inside 5 = .ok (.ifCond .eq 20, 3) := by decide +kernel
theorem dX7_inside_8 : decode cX7_inside 8 = .ok (.aload_n 0, 1) := by decide +kernel
theorem dX7_inside_9 : decode cX7_inside 9 = .ok (.iload_n 2, 1) := by decide +kernel
theorem dX7_inside_10 : decode cX7_inside 10 = .ok (.invokevirtual 124, 3) := by decide +kernel
theorem dX7_inside_13 : decode cX7_inside 13 = .ok (.ifCond .eq 12, 3) := by decide +kernel
theorem dX7_inside_16 : decode cX7_inside 16 = .ok (.iload_n 3, 1) := by decide +kernel
theorem dX7_inside_17 : decode cX7_inside 17 = .ok (.ifCond .lt 8, 3) := by decide +kernel
theorem dX7_inside_20 : decode cX7_inside 20 = .ok (.iload_n 3, 1) := by decide +kernel
theorem dX7_inside_21 : decode cX7_inside 21 = .ok (.iconst 2, 1) := by decide +kernel
theorem dX7_inside_22 : decode cX7_inside 22 = .ok (.if_icmp .le 5, 3) := by decide +kernel
theorem dX7_inside_25 : decode cX7_inside 25 = .ok (.iconst (-1), 1) := by decide +kernel
theorem dX7_inside_26 : decode cX7_inside 26 = .ok (.ireturn, 1) := by decide +kernel
theorem dX7_inside_27 : decode cX7_inside 27 = .ok (.iconst 1, 1) := by decide +kernel
theorem dX7_inside_28 : decode cX7_inside 28 = .ok (.istore 4, 2) := by decide +kernel
theorem dX7_inside_30 : decode cX7_inside 30 = .ok (.iconst 0, 1) := by decide +kernel
theorem dX7_inside_31 : decode cX7_inside 31 = .ok (.istore 5, 2) := by decide +kernel
theorem dX7_inside_33 : decode cX7_inside 33 = .ok (.iconst 0, 1) := by decide +kernel
theorem dX7_inside_34 : decode cX7_inside 34 = .ok (.istore 6, 2) := by decide +kernel
theorem dX7_inside_36 : decode cX7_inside 36 = .ok (.iconst 0, 1) := by decide +kernel
theorem dX7_inside_37 : decode cX7_inside 37 = .ok (.istore 7, 2) := by decide +kernel
theorem dX7_inside_39 : decode cX7_inside 39 = .ok (.iload 7, 2) := by decide +kernel
theorem dX7_inside_41 : decode cX7_inside 41 = .ok (.aload_n 0, 1) := by decide +kernel
theorem dX7_inside_42 : decode cX7_inside 42 = .ok (.getfield 87, 3) := by decide +kernel
theorem dX7_inside_45 : decode cX7_inside 45 = .ok (.if_icmp .ge 52, 3) := by decide +kernel
theorem dX7_inside_48 : decode cX7_inside 48 = .ok (.aload_n 0, 1) := by decide +kernel
theorem dX7_inside_49 : decode cX7_inside 49 = .ok (.getfield 67, 3) := by decide +kernel
theorem dX7_inside_52 : decode cX7_inside 52 = .ok (.iload 7, 2) := by decide +kernel
theorem dX7_inside_54 : decode cX7_inside 54 = .ok (.iload_n 1, 1) := by decide +kernel
theorem dX7_inside_55 : decode cX7_inside 55 = .ok (.iload_n 2, 1) := by decide +kernel
theorem dX7_inside_56 : decode cX7_inside 56 = .ok (.invokevirtual 127, 3) := by decide +kernel
theorem dX7_inside_59 : decode cX7_inside 59 = .ok (.istore 8, 2) := by decide +kernel
theorem dX7_inside_61 : decode cX7_inside 61 = .ok (.iload 8, 2) := by decide +kernel
theorem dX7_inside_63 : decode cX7_inside 63 = .ok (.iload 4, 2) := by decide +kernel
theorem dX7_inside_65 : decode cX7_inside 65 = .ok (.iconst (-1), 1) := by decide +kernel
theorem dX7_inside_66 : decode cX7_inside 66 = .ok (.ixor, 1) := by decide +kernel
theorem dX7_inside_67 : decode cX7_inside 67 = .ok (.iand, 1) := by decide +kernel
theorem dX7_inside_68 : decode cX7_inside 68 = .ok (.ifCond .eq 23, 3) := by decide +kernel
theorem dX7_inside_71 : decode cX7_inside 71 = .ok (.iload 6, 2) := by decide +kernel
theorem dX7_inside_73 : decode cX7_inside 73 = .ok (.iconst 1, 1) := by decide +kernel
theorem dX7_inside_74 : decode cX7_inside 74 = .ok (.iload 7, 2) := by decide +kernel
theorem dX7_inside_76 : decode cX7_inside 76 = .ok (.ishl, 1) := by decide +kernel
theorem dX7_inside_77 : decode cX7_inside 77 = .ok (.ior, 1) := by decide +kernel
theorem dX7_inside_78 : decode cX7_inside 78 = .ok (.istore 6, 2) := by decide +kernel
theorem dX7_inside_80 : decode cX7_inside 80 = .ok (.iload 8, 2) := by decide +kernel
theorem dX7_inside_82 : decode cX7_inside 82 = .ok (.iload 4, 2) := by decide +kernel
theorem dX7_inside_84 : decode cX7_inside 84 = .ok (.iand, 1) := by decide +kernel
theorem dX7_inside_85 : decode cX7_inside 85 = .ok (.ifCond .ne 6, 3) := by decide +kernel
theorem dX7_inside_88 : decode cX7_inside 88 = .ok (.iinc 5 1, 3) := by decide +kernel
theorem dX7_inside_91 : decode cX7_inside 91 = .ok (.iinc 7 1, 3) := by decide +kernel
theorem dX7_inside_94 : decode cX7_inside 94 = .ok (.goto (-55), 3) := by decide +kernel
theorem dX7_inside_97 : decode cX7_inside 97 = .ok (.iload_n 3, 1) := by decide +kernel
theorem dX7_inside_98 : decode cX7_inside 98 = .ok (.ifCond .ne 6, 3) := by decide +kernel
theorem dX7_inside_101 : decode cX7_inside 101 = .ok (.iload 5, 2) := by decide +kernel
theorem dX7_inside_103 : decode cX7_inside 103 = .ok (.ireturn, 1) := by decide +kernel
theorem dX7_inside_104 : decode cX7_inside 104 = .ok (.iload_n 3, 1) := by decide +kernel
theorem dX7_inside_105 : decode cX7_inside 105 = .ok (.iconst 1, 1) := by decide +kernel
theorem dX7_inside_106 : decode cX7_inside 106 = .ok (.if_icmp .ne 11, 3) := by decide +kernel
theorem dX7_inside_109 : decode cX7_inside 109 = .ok (.iload 6, 2) := by decide +kernel
theorem dX7_inside_111 : decode cX7_inside 111 = .ok (.invokestatic 146, 3) := by decide +kernel
theorem dX7_inside_114 : decode cX7_inside 114 = .ok (.goto 5, 3) := by decide +kernel
theorem dX7_inside_117 : decode cX7_inside 117 = .ok (.iload 6, 2) := by decide +kernel
theorem dX7_inside_119 : decode cX7_inside 119 = .ok (.ireturn, 1) := by decide +kernel
theorem dX7_allowed_0 : decode cX7_allowed 0 = .ok (.aload_n 0, 1) := by decide +kernel
theorem dX7_allowed_1 : decode cX7_allowed 1 = .ok (.iload_n 1, 1) := by decide +kernel
theorem dX7_allowed_2 : decode cX7_allowed 2 = .ok (.invokevirtual 100, 3) := by decide +kernel
theorem dX7_allowed_5 : decode cX7_allowed 5 = .ok (.ifCond .eq 19, 3) := by decide +kernel
theorem dX7_allowed_8 : decode cX7_allowed 8 = .ok (.aload_n 0, 1) := by decide +kernel
theorem dX7_allowed_9 : decode cX7_allowed 9 = .ok (.iload_n 2, 1) := by decide +kernel
theorem dX7_allowed_10 : decode cX7_allowed 10 = .ok (.invokevirtual 118, 3) := by decide +kernel
theorem dX7_allowed_13 : decode cX7_allowed 13 = .ok (.ifCond .eq 11, 3) := by decide +kernel
theorem dX7_allowed_16 : decode cX7_allowed 16 = .ok (.aload_n 0, 1) := by decide +kernel
theorem dX7_allowed_17 : decode cX7_allowed 17 = .ok (.iload_n 3, 1) := by decide +kernel
theorem dX7_allowed_18 : decode cX7_allowed 18 = .ok (.invokevirtual 107, 3) := by decide +kernel
theorem dX7_allowed_21 : decode cX7_allowed 21 = .ok (.ifCond .ne 5, 3) := by decide +kernel
theorem dX7_allowed_24 : decode cX7_allowed 24 = .ok (.iconst (-1), 1) := by decide +kernel
theorem dX7_allowed_25 : decode cX7_allowed 25 = .ok (.ireturn, 1) := by decide +kernel
theorem dX7_allowed_26 : decode cX7_allowed 26 = .ok (.aload_n 0, 1) := by decide +kernel
theorem dX7_allowed_27 : decode cX7_allowed 27 = .ok (.getfield 46, 3) := by decide +kernel
theorem dX7_allowed_30 : decode cX7_allowed 30 = .ok (.iload_n 1, 1) := by decide +kernel
theorem dX7_allowed_31 : decode cX7_allowed 31 = .ok (.iload_n 2, 1) := by decide +kernel
theorem dX7_allowed_32 : decode cX7_allowed 32 = .ok (.iload_n 3, 1) := by decide +kernel
theorem dX7_allowed_33 : decode cX7_allowed 33 = .ok (.invokevirtual 151, 3) := by decide +kernel
theorem dX7_allowed_36 : decode cX7_allowed 36 = .ok (.ifCond .eq 7, 3) := by decide +kernel
theorem dX7_allowed_39 : decode cX7_allowed 39 = .ok (.iconst 1, 1) := by decide +kernel
theorem dX7_allowed_40 : decode cX7_allowed 40 = .ok (.goto 4, 3) := by decide +kernel
theorem dX7_allowed_43 : decode cX7_allowed 43 = .ok (.iconst 0, 1) := by decide +kernel
theorem dX7_allowed_44 : decode cX7_allowed 44 = .ok (.ireturn, 1) := by decide +kernel
theorem dX7_odd_0 : decode cX7_odd 0 = .ok (.aload_n 0, 1) := by decide +kernel
theorem dX7_odd_1 : decode cX7_odd 1 = .ok (.getfield 39, 3) := by decide +kernel
theorem dX7_odd_4 : decode cX7_odd 4 = .ok (.iload_n 1, 1) := by decide +kernel
theorem dX7_odd_5 : decode cX7_odd 5 = .ok (.invokevirtual 155, 3) := by decide +kernel
theorem dX7_odd_8 : decode cX7_odd 8 = .ok (.ifCond .ne 5, 3) := by decide +kernel
theorem dX7_odd_11 : decode cX7_odd 11 = .ok (.iconst (-1), 1) := by decide +kernel
theorem dX7_odd_12 : decode cX7_odd 12 = .ok (.ireturn, 1) := by decide +kernel
theorem dX7_odd_13 : decode cX7_odd 13 = .ok (.iload_n 2, 1) := by decide +kernel
theorem dX7_odd_14 : decode cX7_odd 14 = .ok (.tableswitch 137 0 3 #[30, 47, 89, 113], 30) := by decide +kernel
theorem dX7_odd_44 : decode cX7_odd 44 = .ok (.aload_n 0, 1) := by decide +kernel
theorem dX7_odd_45 : decode cX7_odd 45 = .ok (.getfield 55, 3) := by decide +kernel
theorem dX7_odd_48 : decode cX7_odd 48 = .ok (.iload_n 1, 1) := by decide +kernel
theorem dX7_odd_49 : decode cX7_odd 49 = .ok (.invokevirtual 158, 3) := by decide +kernel
theorem dX7_odd_52 : decode cX7_odd 52 = .ok (.ifCond .eq 7, 3) := by decide +kernel
theorem dX7_odd_55 : decode cX7_odd 55 = .ok (.iconst 1, 1) := by decide +kernel
theorem dX7_odd_56 : decode cX7_odd 56 = .ok (.goto 4, 3) := by decide +kernel
theorem dX7_odd_59 : decode cX7_odd 59 = .ok (.iconst 0, 1) := by decide +kernel
theorem dX7_odd_60 : decode cX7_odd 60 = .ok (.ireturn, 1) := by decide +kernel
theorem dX7_odd_61 : decode cX7_odd 61 = .ok (.aload_n 0, 1) := by decide +kernel
theorem dX7_odd_62 : decode cX7_odd 62 = .ok (.getfield 46, 3) := by decide +kernel
theorem dX7_odd_65 : decode cX7_odd 65 = .ok (.aload_n 0, 1) := by decide +kernel
theorem dX7_odd_66 : decode cX7_odd 66 = .ok (.getfield 39, 3) := by decide +kernel
theorem dX7_odd_69 : decode cX7_odd 69 = .ok (.getfield 161, 3) := by decide +kernel
theorem dX7_odd_72 : decode cX7_odd 72 = .ok (.iload_n 1, 1) := by decide +kernel
theorem dX7_odd_73 : decode cX7_odd 73 = .ok (.iaload, 1) := by decide +kernel
theorem dX7_odd_74 : decode cX7_odd 74 = .ok (.aload_n 0, 1) := by decide +kernel
theorem dX7_odd_75 : decode cX7_odd 75 = .ok (.getfield 55, 3) := by decide +kernel
theorem dX7_odd_78 : decode cX7_odd 78 = .ok (.iload_n 1, 1) := by decide +kernel
theorem dX7_odd_79 : decode cX7_odd 79 = .ok (.invokevirtual 165, 3) := by decide +kernel
theorem dX7_odd_82 : decode cX7_odd 82 = .ok (.aload_n 0, 1) := by decide +kernel
theorem dX7_odd_83 : decode cX7_odd 83 = .ok (.getfield 39, 3) := by decide +kernel
theorem dX7_odd_86 : decode cX7_odd 86 = .ok (.getfield 168, 3) := by decide +kernel
theorem dX7_odd_89 : decode cX7_odd 89 = .ok (.iload_n 1, 1) := by decide +kernel
theorem dX7_odd_90 : decode cX7_odd 90 = .ok (.iaload, 1) := by decide +kernel
theorem dX7_odd_91 : decode cX7_odd 91 = .ok (.invokevirtual 151, 3) := by decide +kernel
theorem dX7_odd_94 : decode cX7_odd 94 = .ok (.ifCond .eq 7, 3) := by decide +kernel
theorem dX7_odd_97 : decode cX7_odd 97 = .ok (.iconst 1, 1) := by decide +kernel
theorem dX7_odd_98 : decode cX7_odd 98 = .ok (.goto 4, 3) := by decide +kernel
theorem dX7_odd_101 : decode cX7_odd 101 = .ok (.iconst 0, 1) := by decide +kernel
theorem dX7_odd_102 : decode cX7_odd 102 = .ok (.ireturn, 1) := by decide +kernel
theorem dX7_odd_103 : decode cX7_odd 103 = .ok (.aload_n 0, 1) := by decide +kernel
theorem dX7_odd_104 : decode cX7_odd 104 = .ok (.getfield 55, 3) := by decide +kernel
theorem dX7_odd_107 : decode cX7_odd 107 = .ok (.iload_n 1, 1) := by decide +kernel
theorem dX7_odd_108 : decode cX7_odd 108 = .ok (.invokevirtual 171, 3) := by decide +kernel
theorem dX7_odd_111 : decode cX7_odd 111 = .ok (.ifCond .eq 14, 3) := by decide +kernel
theorem dX7_odd_114 : decode cX7_odd 114 = .ok (.aload_n 0, 1) := by decide +kernel
theorem dX7_odd_115 : decode cX7_odd 115 = .ok (.getfield 55, 3) := by decide +kernel
theorem dX7_odd_118 : decode cX7_odd 118 = .ok (.iload_n 1, 1) := by decide +kernel
theorem dX7_odd_119 : decode cX7_odd 119 = .ok (.invokevirtual 174, 3) := by decide +kernel
theorem dX7_odd_122 : decode cX7_odd 122 = .ok (.goto 4, 3) := by decide +kernel
theorem dX7_odd_125 : decode cX7_odd 125 = .ok (.iconst (-1), 1) := by decide +kernel
theorem dX7_odd_126 : decode cX7_odd 126 = .ok (.ireturn, 1) := by decide +kernel
theorem dX7_odd_127 : decode cX7_odd 127 = .ok (.aload_n 0, 1) := by decide +kernel
theorem dX7_odd_128 : decode cX7_odd 128 = .ok (.getfield 55, 3) := by decide +kernel
theorem dX7_odd_131 : decode cX7_odd 131 = .ok (.iload_n 1, 1) := by decide +kernel
theorem dX7_odd_132 : decode cX7_odd 132 = .ok (.invokevirtual 171, 3) := by decide +kernel
theorem dX7_odd_135 : decode cX7_odd 135 = .ok (.ifCond .eq 14, 3) := by decide +kernel
theorem dX7_odd_138 : decode cX7_odd 138 = .ok (.aload_n 0, 1) := by decide +kernel
theorem dX7_odd_139 : decode cX7_odd 139 = .ok (.getfield 55, 3) := by decide +kernel
theorem dX7_odd_142 : decode cX7_odd 142 = .ok (.iload_n 1, 1) := by decide +kernel
theorem dX7_odd_143 : decode cX7_odd 143 = .ok (.invokevirtual 177, 3) := by decide +kernel
theorem dX7_odd_146 : decode cX7_odd 146 = .ok (.goto 4, 3) := by decide +kernel
theorem dX7_odd_149 : decode cX7_odd 149 = .ok (.iconst (-1), 1) := by decide +kernel
theorem dX7_odd_150 : decode cX7_odd 150 = .ok (.ireturn, 1) := by decide +kernel
theorem dX7_odd_151 : decode cX7_odd 151 = .ok (.iconst (-1), 1) := by decide +kernel
theorem dX7_odd_152 : decode cX7_odd 152 = .ok (.ireturn, 1) := by decide +kernel
theorem dX7_pairs_0 : decode cX7_pairs 0 = .ok (.aload_n 0, 1) := by decide +kernel
theorem dX7_pairs_1 : decode cX7_pairs 1 = .ok (.iload_n 1, 1) := by decide +kernel
theorem dX7_pairs_2 : decode cX7_pairs 2 = .ok (.invokevirtual 100, 3) := by decide +kernel
theorem dX7_pairs_5 : decode cX7_pairs 5 = .ok (.ifCond .eq 26, 3) := by decide +kernel
theorem dX7_pairs_8 : decode cX7_pairs 8 = .ok (.aload_n 0, 1) := by decide +kernel
theorem dX7_pairs_9 : decode cX7_pairs 9 = .ok (.iload_n 2, 1) := by decide +kernel
theorem dX7_pairs_10 : decode cX7_pairs 10 = .ok (.invokevirtual 100, 3) := by decide +kernel
theorem dX7_pairs_13 : decode cX7_pairs 13 = .ok (.ifCond .eq 18, 3) := by decide +kernel
theorem dX7_pairs_16 : decode cX7_pairs 16 = .ok (.iload_n 1, 1) := by decide +kernel
theorem dX7_pairs_17 : decode cX7_pairs 17 = .ok (.iload_n 2, 1) := by decide +kernel
theorem dX7_pairs_18 : decode cX7_pairs 18 = .ok (.if_icmp .eq 13, 3) := by decide +kernel
theorem dX7_pairs_21 : decode cX7_pairs 21 = .ok (.iload_n 3, 1) := by decide +kernel
theorem dX7_pairs_22 : decode cX7_pairs 22 = .ok (.ifCond .lt 9, 3) := by decide +kernel
theorem dX7_pairs_25 : decode cX7_pairs 25 = .ok (.iload_n 3, 1) := by decide +kernel
theorem dX7_pairs_26 : decode cX7_pairs 26 = .ok (.bipush 25, 2) := by decide +kernel
theorem dX7_pairs_28 : decode cX7_pairs 28 = .ok (.if_icmp .lt 5, 3) := by decide +kernel
theorem dX7_pairs_31 : decode cX7_pairs 31 = .ok (.iconst (-1), 1) := by decide +kernel
theorem dX7_pairs_32 : decode cX7_pairs 32 = .ok (.ireturn, 1) := by decide +kernel
theorem dX7_pairs_33 : decode cX7_pairs 33 = .ok (.iload 4, 2) := by decide +kernel
theorem dX7_pairs_35 : decode cX7_pairs 35 = .ok (.lookupswitch 60 #[(0, 25), (1, 39)], 25) := by decide +kernel
theorem dX7_pairs_60 : decode cX7_pairs 60 = .ok (.aload_n 0, 1) := by decide +kernel
theorem dX7_pairs_61 : decode cX7_pairs 61 = .ok (.getfield 55, 3) := by decide +kernel
theorem dX7_pairs_64 : decode cX7_pairs 64 = .ok (.iload_n 1, 1) := by decide +kernel
theorem dX7_pairs_65 : decode cX7_pairs 65 = .ok (.iload_n 2, 1) := by decide +kernel
theorem dX7_pairs_66 : decode cX7_pairs 66 = .ok (.iload_n 3, 1) := by decide +kernel
theorem dX7_pairs_67 : decode cX7_pairs 67 = .ok (.invokevirtual 180, 3) := by decide +kernel
theorem dX7_pairs_70 : decode cX7_pairs 70 = .ok (.invokestatic 146, 3) := by decide +kernel
theorem dX7_pairs_73 : decode cX7_pairs 73 = .ok (.ireturn, 1) := by decide +kernel
theorem dX7_pairs_74 : decode cX7_pairs 74 = .ok (.aload_n 0, 1) := by decide +kernel
theorem dX7_pairs_75 : decode cX7_pairs 75 = .ok (.getfield 55, 3) := by decide +kernel
theorem dX7_pairs_78 : decode cX7_pairs 78 = .ok (.iload_n 1, 1) := by decide +kernel
theorem dX7_pairs_79 : decode cX7_pairs 79 = .ok (.invokevirtual 183, 3) := by decide +kernel
theorem dX7_pairs_82 : decode cX7_pairs 82 = .ok (.aload_n 0, 1) := by decide +kernel
theorem dX7_pairs_83 : decode cX7_pairs 83 = .ok (.getfield 55, 3) := by decide +kernel
theorem dX7_pairs_86 : decode cX7_pairs 86 = .ok (.iload_n 2, 1) := by decide +kernel
theorem dX7_pairs_87 : decode cX7_pairs 87 = .ok (.invokevirtual 183, 3) := by decide +kernel
theorem dX7_pairs_90 : decode cX7_pairs 90 = .ok (.iand, 1) := by decide +kernel
theorem dX7_pairs_91 : decode cX7_pairs 91 = .ok (.invokestatic 146, 3) := by decide +kernel
theorem dX7_pairs_94 : decode cX7_pairs 94 = .ok (.ireturn, 1) := by decide +kernel
theorem dX7_pairs_95 : decode cX7_pairs 95 = .ok (.iconst (-1), 1) := by decide +kernel
theorem dX7_pairs_96 : decode cX7_pairs 96 = .ok (.ireturn, 1) := by decide +kernel
theorem dX7_log_0 : decode cX7_log 0 = .ok (.aload_n 0, 1) := by decide +kernel
theorem dX7_log_1 : decode cX7_log 1 = .ok (.getfield 39, 3) := by decide +kernel
theorem dX7_log_4 : decode cX7_log 4 = .ok (.iload_n 1, 1) := by decide +kernel
theorem dX7_log_5 : decode cX7_log 5 = .ok (.invokevirtual 186, 3) := by decide +kernel
theorem dX7_log_8 : decode cX7_log 8 = .ok (.ifCond .ne 5, 3) := by decide +kernel
theorem dX7_log_11 : decode cX7_log 11 = .ok (.iconst (-1), 1) := by decide +kernel
theorem dX7_log_12 : decode cX7_log 12 = .ok (.ireturn, 1) := by decide +kernel
theorem dX7_log_13 : decode cX7_log 13 = .ok (.iload_n 2, 1) := by decide +kernel
theorem dX7_log_14 : decode cX7_log 14 = .ok (.tableswitch 84 0 4 #[34, 44, 54, 64, 74], 34) := by decide +kernel
theorem dX7_log_48 : decode cX7_log 48 = .ok (.aload_n 0, 1) := by decide +kernel
theorem dX7_log_49 : decode cX7_log 49 = .ok (.getfield 39, 3) := by decide +kernel
theorem dX7_log_52 : decode cX7_log 52 = .ok (.getfield 189, 3) := by decide +kernel
theorem dX7_log_55 : decode cX7_log 55 = .ok (.iload_n 1, 1) := by decide +kernel
theorem dX7_log_56 : decode cX7_log 56 = .ok (.iaload, 1) := by decide +kernel
theorem dX7_log_57 : decode cX7_log 57 = .ok (.ireturn, 1) := by decide +kernel
theorem dX7_log_58 : decode cX7_log 58 = .ok (.aload_n 0, 1) := by decide +kernel
theorem dX7_log_59 : decode cX7_log 59 = .ok (.getfield 39, 3) := by decide +kernel
theorem dX7_log_62 : decode cX7_log 62 = .ok (.getfield 161, 3) := by decide +kernel
theorem dX7_log_65 : decode cX7_log 65 = .ok (.iload_n 1, 1) := by decide +kernel
theorem dX7_log_66 : decode cX7_log 66 = .ok (.iaload, 1) := by decide +kernel
theorem dX7_log_67 : decode cX7_log 67 = .ok (.ireturn, 1) := by decide +kernel
theorem dX7_log_68 : decode cX7_log 68 = .ok (.aload_n 0, 1) := by decide +kernel
theorem dX7_log_69 : decode cX7_log 69 = .ok (.getfield 39, 3) := by decide +kernel
theorem dX7_log_72 : decode cX7_log 72 = .ok (.getfield 192, 3) := by decide +kernel
theorem dX7_log_75 : decode cX7_log 75 = .ok (.iload_n 1, 1) := by decide +kernel
theorem dX7_log_76 : decode cX7_log 76 = .ok (.iaload, 1) := by decide +kernel
theorem dX7_log_77 : decode cX7_log 77 = .ok (.ireturn, 1) := by decide +kernel
theorem dX7_log_78 : decode cX7_log 78 = .ok (.aload_n 0, 1) := by decide +kernel
theorem dX7_log_79 : decode cX7_log 79 = .ok (.getfield 39, 3) := by decide +kernel
theorem dX7_log_82 : decode cX7_log 82 = .ok (.getfield 168, 3) := by decide +kernel
theorem dX7_log_85 : decode cX7_log 85 = .ok (.iload_n 1, 1) := by decide +kernel
theorem dX7_log_86 : decode cX7_log 86 = .ok (.iaload, 1) := by decide +kernel
theorem dX7_log_87 : decode cX7_log 87 = .ok (.ireturn, 1) := by decide +kernel
theorem dX7_log_88 : decode cX7_log 88 = .ok (.aload_n 0, 1) := by decide +kernel
theorem dX7_log_89 : decode cX7_log 89 = .ok (.getfield 39, 3) := by decide +kernel
theorem dX7_log_92 : decode cX7_log 92 = .ok (.getfield 195, 3) := by decide +kernel
theorem dX7_log_95 : decode cX7_log 95 = .ok (.iload_n 1, 1) := by decide +kernel
theorem dX7_log_96 : decode cX7_log 96 = .ok (.iaload, 1) := by decide +kernel
theorem dX7_log_97 : decode cX7_log 97 = .ok (.ireturn, 1) := by decide +kernel
theorem dX7_log_98 : decode cX7_log 98 = .ok (.iconst (-1), 1) := by decide +kernel
theorem dX7_log_99 : decode cX7_log 99 = .ok (.ireturn, 1) := by decide +kernel
theorem dX7_door_0 : decode cX7_door 0 = .ok (.aload_n 0, 1) := by decide +kernel
theorem dX7_door_1 : decode cX7_door 1 = .ok (.iload_n 1, 1) := by decide +kernel
theorem dX7_door_2 : decode cX7_door 2 = .ok (.invokevirtual 104, 3) := by decide +kernel
theorem dX7_door_5 : decode cX7_door 5 = .ok (.ifCond .ne 5, 3) := by decide +kernel
theorem dX7_door_8 : decode cX7_door 8 = .ok (.iconst (-1), 1) := by decide +kernel
theorem dX7_door_9 : decode cX7_door 9 = .ok (.ireturn, 1) := by decide +kernel
theorem dX7_door_10 : decode cX7_door 10 = .ok (.iload_n 2, 1) := by decide +kernel
theorem dX7_door_11 : decode cX7_door 11 = .ok (.tableswitch 55 0 2 #[25, 35, 45], 25) := by decide +kernel
theorem dX7_door_36 : decode cX7_door 36 = .ok (.aload_n 0, 1) := by decide +kernel
theorem dX7_door_37 : decode cX7_door 37 = .ok (.getfield 20, 3) := by decide +kernel
theorem dX7_door_40 : decode cX7_door 40 = .ok (.getfield 198, 3) := by decide +kernel
theorem dX7_door_43 : decode cX7_door 43 = .ok (.iload_n 1, 1) := by decide +kernel
theorem dX7_door_44 : decode cX7_door 44 = .ok (.iaload, 1) := by decide +kernel
theorem dX7_door_45 : decode cX7_door 45 = .ok (.ireturn, 1) := by decide +kernel
theorem dX7_door_46 : decode cX7_door 46 = .ok (.aload_n 0, 1) := by decide +kernel
theorem dX7_door_47 : decode cX7_door 47 = .ok (.getfield 20, 3) := by decide +kernel
theorem dX7_door_50 : decode cX7_door 50 = .ok (.getfield 201, 3) := by decide +kernel
theorem dX7_door_53 : decode cX7_door 53 = .ok (.iload_n 1, 1) := by decide +kernel
theorem dX7_door_54 : decode cX7_door 54 = .ok (.iaload, 1) := by decide +kernel
theorem dX7_door_55 : decode cX7_door 55 = .ok (.ireturn, 1) := by decide +kernel
theorem dX7_door_56 : decode cX7_door 56 = .ok (.aload_n 0, 1) := by decide +kernel
theorem dX7_door_57 : decode cX7_door 57 = .ok (.getfield 20, 3) := by decide +kernel
theorem dX7_door_60 : decode cX7_door 60 = .ok (.getfield 204, 3) := by decide +kernel
theorem dX7_door_63 : decode cX7_door 63 = .ok (.iload_n 1, 1) := by decide +kernel
theorem dX7_door_64 : decode cX7_door 64 = .ok (.iaload, 1) := by decide +kernel
theorem dX7_door_65 : decode cX7_door 65 = .ok (.ireturn, 1) := by decide +kernel
theorem dX7_door_66 : decode cX7_door 66 = .ok (.iconst (-1), 1) := by decide +kernel
theorem dX7_door_67 : decode cX7_door 67 = .ok (.ireturn, 1) := by decide +kernel
theorem dX7_wide_0 : decode cX7_wide 0 = .ok (.aload_n 0, 1) := by decide +kernel
theorem dX7_wide_1 : decode cX7_wide 1 = .ok (.iload_n 1, 1) := by decide +kernel
theorem dX7_wide_2 : decode cX7_wide 2 = .ok (.invokevirtual 118, 3) := by decide +kernel
theorem dX7_wide_5 : decode cX7_wide 5 = .ok (.ifCond .eq 15, 3) := by decide +kernel
theorem dX7_wide_8 : decode cX7_wide 8 = .ok (.aload_n 0, 1) := by decide +kernel
theorem dX7_wide_9 : decode cX7_wide 9 = .ok (.getfield 20, 3) := by decide +kernel
theorem dX7_wide_12 : decode cX7_wide 12 = .ok (.getfield 207, 3) := by decide +kernel
theorem dX7_wide_15 : decode cX7_wide 15 = .ok (.iload_n 1, 1) := by decide +kernel
theorem dX7_wide_16 : decode cX7_wide 16 = .ok (.iaload, 1) := by decide +kernel
theorem dX7_wide_17 : decode cX7_wide 17 = .ok (.goto 4, 3) := by decide +kernel
theorem dX7_wide_20 : decode cX7_wide 20 = .ok (.iconst (-1), 1) := by decide +kernel
theorem dX7_wide_21 : decode cX7_wide 21 = .ok (.ireturn, 1) := by decide +kernel
theorem dX7_count_0 : decode cX7_count 0 = .ok (.iload_n 1, 1) := by decide +kernel
theorem dX7_count_1 : decode cX7_count 1 = .ok (.tableswitch 81 0 5 #[39, 47, 55, 60, 68, 76], 39) := by decide +kernel
theorem dX7_count_40 : decode cX7_count 40 = .ok (.aload_n 0, 1) := by decide +kernel
theorem dX7_count_41 : decode cX7_count 41 = .ok (.getfield 20, 3) := by decide +kernel
theorem dX7_count_44 : decode cX7_count 44 = .ok (.getfield 97, 3) := by decide +kernel
theorem dX7_count_47 : decode cX7_count 47 = .ok (.ireturn, 1) := by decide +kernel
theorem dX7_count_48 : decode cX7_count 48 = .ok (.aload_n 0, 1) := by decide +kernel
theorem dX7_count_49 : decode cX7_count 49 = .ok (.getfield 20, 3) := by decide +kernel
theorem dX7_count_52 : decode cX7_count 52 = .ok (.getfield 210, 3) := by decide +kernel
theorem dX7_count_55 : decode cX7_count 55 = .ok (.ireturn, 1) := by decide +kernel
theorem dX7_count_56 : decode cX7_count 56 = .ok (.aload_n 0, 1) := by decide +kernel
theorem dX7_count_57 : decode cX7_count 57 = .ok (.getfield 87, 3) := by decide +kernel
theorem dX7_count_60 : decode cX7_count 60 = .ok (.ireturn, 1) := by decide +kernel
theorem dX7_count_61 : decode cX7_count 61 = .ok (.aload_n 0, 1) := by decide +kernel
theorem dX7_count_62 : decode cX7_count 62 = .ok (.getfield 39, 3) := by decide +kernel
theorem dX7_count_65 : decode cX7_count 65 = .ok (.getfield 213, 3) := by decide +kernel
theorem dX7_count_68 : decode cX7_count 68 = .ok (.ireturn, 1) := by decide +kernel
theorem dX7_count_69 : decode cX7_count 69 = .ok (.aload_n 0, 1) := by decide +kernel
theorem dX7_count_70 : decode cX7_count 70 = .ok (.getfield 46, 3) := by decide +kernel
theorem dX7_count_73 : decode cX7_count 73 = .ok (.getfield 216, 3) := by decide +kernel
theorem dX7_count_76 : decode cX7_count 76 = .ok (.ireturn, 1) := by decide +kernel
theorem dX7_count_77 : decode cX7_count 77 = .ok (.aload_n 0, 1) := by decide +kernel
theorem dX7_count_78 : decode cX7_count 78 = .ok (.getfield 71, 3) := by decide +kernel
theorem dX7_count_81 : decode cX7_count 81 = .ok (.ireturn, 1) := by decide +kernel
theorem dX7_count_82 : decode cX7_count 82 = .ok (.iconst (-1), 1) := by decide +kernel
theorem dX7_count_83 : decode cX7_count 83 = .ok (.ireturn, 1) := by decide +kernel
theorem dX7_putNumber_0 : decode cX7_putNumber 0 = .ok (.bipush 24, 2) := by decide +kernel
theorem dX7_putNumber_2 : decode cX7_putNumber 2 = .ok (.istore_n 2, 1) := by decide +kernel
theorem dX7_putNumber_3 : decode cX7_putNumber 3 = .ok (.iload_n 2, 1) := by decide +kernel
theorem dX7_putNumber_4 : decode cX7_putNumber 4 = .ok (.ifCond .lt 42, 3) := by decide +kernel
theorem dX7_putNumber_7 : decode cX7_putNumber 7 = .ok (.aload_n 0, 1) := by decide +kernel
theorem dX7_putNumber_8 : decode cX7_putNumber 8 = .ok (.getfield 71, 3) := by decide +kernel
theorem dX7_putNumber_11 : decode cX7_putNumber 11 = .ok (.sipush 600, 3) := by decide +kernel
theorem dX7_putNumber_14 : decode cX7_putNumber 14 = .ok (.if_icmp .ge 32, 3) := by decide +kernel
theorem dX7_putNumber_17 : decode cX7_putNumber 17 = .ok (.aload_n 0, 1) := by decide +kernel
theorem dX7_putNumber_18 : decode cX7_putNumber 18 = .ok (.getfield 9, 3) := by decide +kernel
theorem dX7_putNumber_21 : decode cX7_putNumber 21 = .ok (.aload_n 0, 1) := by decide +kernel
theorem dX7_putNumber_22 : decode cX7_putNumber 22 = .ok (.getfield 71, 3) := by decide +kernel
theorem dX7_putNumber_25 : decode cX7_putNumber 25 = .ok (.iload_n 1, 1) := by decide +kernel
theorem dX7_putNumber_26 : decode cX7_putNumber 26 = .ok (.iload_n 2, 1) := by decide +kernel
theorem dX7_putNumber_27 : decode cX7_putNumber 27 = .ok (.iushr, 1) := by decide +kernel
theorem dX7_putNumber_28 : decode cX7_putNumber 28 = .ok (.i2b, 1) := by decide +kernel
theorem dX7_putNumber_29 : decode cX7_putNumber 29 = .ok (.bastore, 1) := by decide +kernel
theorem dX7_putNumber_30 : decode cX7_putNumber 30 = .ok (.aload_n 0, 1) := by decide +kernel
theorem dX7_putNumber_31 : decode cX7_putNumber 31 = .ok (.dup, 1) := by decide +kernel
theorem dX7_putNumber_32 : decode cX7_putNumber 32 = .ok (.getfield 71, 3) := by decide +kernel
theorem dX7_putNumber_35 : decode cX7_putNumber 35 = .ok (.iconst 1, 1) := by decide +kernel
theorem dX7_putNumber_36 : decode cX7_putNumber 36 = .ok (.iadd, 1) := by decide +kernel
theorem dX7_putNumber_37 : decode cX7_putNumber 37 = .ok (.putfield 71, 3) := by decide +kernel
theorem dX7_putNumber_40 : decode cX7_putNumber 40 = .ok (.iinc 2 (-8), 3) := by decide +kernel
theorem dX7_putNumber_43 : decode cX7_putNumber 43 = .ok (.goto (-40), 3) := by decide +kernel
theorem dX7_putNumber_46 : decode cX7_putNumber 46 = .ok (.return_, 1) := by decide +kernel
theorem dX7_hasCard_0 : decode cX7_hasCard 0 = .ok (.iload_n 1, 1) := by decide +kernel
theorem dX7_hasCard_1 : decode cX7_hasCard 1 = .ok (.ifCond .lt 15, 3) := by decide +kernel
theorem dX7_hasCard_4 : decode cX7_hasCard 4 = .ok (.iload_n 1, 1) := by decide +kernel
theorem dX7_hasCard_5 : decode cX7_hasCard 5 = .ok (.aload_n 0, 1) := by decide +kernel
theorem dX7_hasCard_6 : decode cX7_hasCard 6 = .ok (.getfield 87, 3) := by decide +kernel
theorem dX7_hasCard_9 : decode cX7_hasCard 9 = .ok (.if_icmp .ge 7, 3) := by decide +kernel
theorem dX7_hasCard_12 : decode cX7_hasCard 12 = .ok (.iconst 1, 1) := by decide +kernel
theorem dX7_hasCard_13 : decode cX7_hasCard 13 = .ok (.goto 4, 3) := by decide +kernel
theorem dX7_hasCard_16 : decode cX7_hasCard 16 = .ok (.iconst 0, 1) := by decide +kernel
theorem dX7_hasCard_17 : decode cX7_hasCard 17 = .ok (.ireturn, 1) := by decide +kernel
theorem dX7_hasRoom_0 : decode cX7_hasRoom 0 = .ok (.iload_n 1, 1) := by decide +kernel
theorem dX7_hasRoom_1 : decode cX7_hasRoom 1 = .ok (.ifCond .lt 18, 3) := by decide +kernel
theorem dX7_hasRoom_4 : decode cX7_hasRoom 4 = .ok (.iload_n 1, 1) := by decide +kernel
theorem dX7_hasRoom_5 : decode cX7_hasRoom 5 = .ok (.aload_n 0, 1) := by decide +kernel
theorem dX7_hasRoom_6 : decode cX7_hasRoom 6 = .ok (.getfield 20, 3) := by decide +kernel
theorem dX7_hasRoom_9 : decode cX7_hasRoom 9 = .ok (.getfield 97, 3) := by decide +kernel
theorem dX7_hasRoom_12 : decode cX7_hasRoom 12 = .ok (.if_icmp .ge 7, 3) := by decide +kernel
theorem dX7_hasRoom_15 : decode cX7_hasRoom 15 = .ok (.iconst 1, 1) := by decide +kernel
theorem dX7_hasRoom_16 : decode cX7_hasRoom 16 = .ok (.goto 4, 3) := by decide +kernel
theorem dX7_hasRoom_19 : decode cX7_hasRoom 19 = .ok (.iconst 0, 1) := by decide +kernel
theorem dX7_hasRoom_20 : decode cX7_hasRoom 20 = .ok (.ireturn, 1) := by decide +kernel
theorem dX7_hasDoor_0 : decode cX7_hasDoor 0 = .ok (.iload_n 1, 1) := by decide +kernel
theorem dX7_hasDoor_1 : decode cX7_hasDoor 1 = .ok (.ifCond .lt 18, 3) := by decide +kernel
theorem dX7_hasDoor_4 : decode cX7_hasDoor 4 = .ok (.iload_n 1, 1) := by decide +kernel
theorem dX7_hasDoor_5 : decode cX7_hasDoor 5 = .ok (.aload_n 0, 1) := by decide +kernel
theorem dX7_hasDoor_6 : decode cX7_hasDoor 6 = .ok (.getfield 20, 3) := by decide +kernel
theorem dX7_hasDoor_9 : decode cX7_hasDoor 9 = .ok (.getfield 210, 3) := by decide +kernel
theorem dX7_hasDoor_12 : decode cX7_hasDoor 12 = .ok (.if_icmp .ge 7, 3) := by decide +kernel
theorem dX7_hasDoor_15 : decode cX7_hasDoor 15 = .ok (.iconst 1, 1) := by decide +kernel
theorem dX7_hasDoor_16 : decode cX7_hasDoor 16 = .ok (.goto 4, 3) := by decide +kernel
theorem dX7_hasDoor_19 : decode cX7_hasDoor 19 = .ok (.iconst 0, 1) := by decide +kernel
theorem dX7_hasDoor_20 : decode cX7_hasDoor 20 = .ok (.ireturn, 1) := by decide +kernel
theorem dX7_isTick_0 : decode cX7_isTick 0 = .ok (.iload_n 1, 1) := by decide +kernel
theorem dX7_isTick_1 : decode cX7_isTick 1 = .ok (.ifCond .lt 14, 3) := by decide +kernel
theorem dX7_isTick_4 : decode cX7_isTick 4 = .ok (.iload_n 1, 1) := by decide +kernel
theorem dX7_isTick_5 : decode cX7_isTick 5 = .ok (.sipush 200, 3) := by decide +kernel
theorem dX7_isTick_8 : decode cX7_isTick 8 = .ok (.if_icmp .ge 7, 3) := by decide +kernel
theorem dX7_isTick_11 : decode cX7_isTick 11 = .ok (.iconst 1, 1) := by decide +kernel
theorem dX7_isTick_12 : decode cX7_isTick 12 = .ok (.goto 4, 3) := by decide +kernel
theorem dX7_isTick_15 : decode cX7_isTick 15 = .ok (.iconst 0, 1) := by decide +kernel
theorem dX7_isTick_16 : decode cX7_isTick 16 = .ok (.ireturn, 1) := by decide +kernel
theorem dX7_isBehind_0 : decode cX7_isBehind 0 = .ok (.iload_n 1, 1) := by decide +kernel
theorem dX7_isBehind_1 : decode cX7_isBehind 1 = .ok (.ifCond .lt 18, 3) := by decide +kernel
theorem dX7_isBehind_4 : decode cX7_isBehind 4 = .ok (.iload_n 1, 1) := by decide +kernel
theorem dX7_isBehind_5 : decode cX7_isBehind 5 = .ok (.aload_n 0, 1) := by decide +kernel
theorem dX7_isBehind_6 : decode cX7_isBehind 6 = .ok (.getfield 39, 3) := by decide +kernel
theorem dX7_isBehind_9 : decode cX7_isBehind 9 = .ok (.getfield 213, 3) := by decide +kernel
theorem dX7_isBehind_12 : decode cX7_isBehind 12 = .ok (.if_icmp .gt 7, 3) := by decide +kernel
theorem dX7_isBehind_15 : decode cX7_isBehind 15 = .ok (.iconst 1, 1) := by decide +kernel
theorem dX7_isBehind_16 : decode cX7_isBehind 16 = .ok (.goto 4, 3) := by decide +kernel
theorem dX7_isBehind_19 : decode cX7_isBehind 19 = .ok (.iconst 0, 1) := by decide +kernel
theorem dX7_isBehind_20 : decode cX7_isBehind 20 = .ok (.ireturn, 1) := by decide +kernel
theorem dX8_thrown_0 : decode cX8_thrown 0 = .ok (.aload_n 0, 1) := by decide +kernel
theorem dX8_thrown_1 : decode cX8_thrown 1 = .ok (.getfield 1, 3) := by decide +kernel
theorem dX8_thrown_4 : decode cX8_thrown 4 = .ok (.ireturn, 1) := by decide +kernel
theorem dX8_within_0 : decode cX8_within 0 = .ok (.iload_n 0, 1) := by decide +kernel
theorem dX8_within_1 : decode cX8_within 1 = .ok (.iload_n 1, 1) := by decide +kernel
theorem dX8_within_2 : decode cX8_within 2 = .ok (.if_icmp .lt 12, 3) := by decide +kernel
theorem dX8_within_5 : decode cX8_within 5 = .ok (.iload_n 0, 1) := by decide +kernel
theorem dX8_within_6 : decode cX8_within 6 = .ok (.iload_n 2, 1) := by decide +kernel
theorem dX8_within_7 : decode cX8_within 7 = .ok (.if_icmp .gt 7, 3) := by decide +kernel
theorem dX8_within_10 : decode cX8_within 10 = .ok (.iconst 1, 1) := by decide +kernel
theorem dX8_within_11 : decode cX8_within 11 = .ok (.goto 4, 3) := by decide +kernel
theorem dX8_within_14 : decode cX8_within 14 = .ok (.iconst 0, 1) := by decide +kernel
theorem dX8_within_15 : decode cX8_within 15 = .ok (.ireturn, 1) := by decide +kernel
theorem dX8_init_0 : decode cX8_init 0 = .ok (.aload_n 0, 1) := by decide +kernel
theorem dX8_init_1 : decode cX8_init 1 = .ok (.invokespecial 7, 3) := by decide +kernel
theorem dX8_init_4 : decode cX8_init 4 = .ok (.aload_n 0, 1) := by decide +kernel
theorem dX8_init_5 : decode cX8_init 5 = .ok (.sipush 600, 3) := by decide +kernel
theorem dX8_init_8 : decode cX8_init 8 = .ok (.newarray .byte, 2) := by decide +kernel
theorem dX8_init_10 : decode cX8_init 10 = .ok (.putfield 13, 3) := by decide +kernel
theorem dX8_init_13 : decode cX8_init 13 = .ok (.aload_n 0, 1) := by decide +kernel
theorem dX8_init_14 : decode cX8_init 14 = .ok (.iconst (-1), 1) := by decide +kernel
theorem dX8_init_15 : decode cX8_init 15 = .ok (.putfield 17, 3) := by decide +kernel
theorem dX8_init_18 : decode cX8_init 18 = .ok (.aload_n 0, 1) := by decide +kernel
theorem dX8_init_19 : decode cX8_init 19 = .ok (.sipush 144, 3) := by decide +kernel
theorem dX8_init_22 : decode cX8_init 22 = .ok (.newarray .byte, 2) := by decide +kernel
theorem dX8_init_24 : decode cX8_init 24 = .ok (.putfield 20, 3) := by decide +kernel
theorem dX8_init_27 : decode cX8_init 27 = .ok (.aload_n 0, 1) := by decide +kernel
theorem dX8_init_28 : decode cX8_init 28 = .ok (.bipush 18, 2) := by decide +kernel
theorem dX8_init_30 : decode cX8_init 30 = .ok (.newarray .int, 2) := by decide +kernel
theorem dX8_init_32 : decode cX8_init 32 = .ok (.putfield 23, 3) := by decide +kernel
theorem dX8_init_35 : decode cX8_init 35 = .ok (.aload_n 0, 1) := by decide +kernel
theorem dX8_init_36 : decode cX8_init 36 = .ok (.bipush 8, 2) := by decide +kernel
theorem dX8_init_38 : decode cX8_init 38 = .ok (.newarray .int, 2) := by decide +kernel
theorem dX8_init_40 : decode cX8_init 40 = .ok (.putfield 27, 3) := by decide +kernel
theorem dX8_init_43 : decode cX8_init 43 = .ok (.aload_n 0, 1) := by decide +kernel
theorem dX8_init_44 : decode cX8_init 44 = .ok (.bipush 10, 2) := by decide +kernel
theorem dX8_init_46 : decode cX8_init 46 = .ok (.newarray .int, 2) := by decide +kernel
theorem dX8_init_48 : decode cX8_init 48 = .ok (.putfield 30, 3) := by decide +kernel
theorem dX8_init_51 : decode cX8_init 51 = .ok (.aload_n 0, 1) := by decide +kernel
theorem dX8_init_52 : decode cX8_init 52 = .ok (.bipush 10, 2) := by decide +kernel
theorem dX8_init_54 : decode cX8_init 54 = .ok (.newarray .int, 2) := by decide +kernel
theorem dX8_init_56 : decode cX8_init 56 = .ok (.putfield 33, 3) := by decide +kernel
theorem dX8_init_59 : decode cX8_init 59 = .ok (.aload_n 0, 1) := by decide +kernel
theorem dX8_init_60 : decode cX8_init 60 = .ok (.bipush 10, 2) := by decide +kernel
theorem dX8_init_62 : decode cX8_init 62 = .ok (.newarray .int, 2) := by decide +kernel
theorem dX8_init_64 : decode cX8_init 64 = .ok (.putfield 36, 3) := by decide +kernel
theorem dX8_init_67 : decode cX8_init 67 = .ok (.aload_n 0, 1) := by decide +kernel
theorem dX8_init_68 : decode cX8_init 68 = .ok (.bipush 8, 2) := by decide +kernel
theorem dX8_init_70 : decode cX8_init 70 = .ok (.newarray .int, 2) := by decide +kernel
theorem dX8_init_72 : decode cX8_init 72 = .ok (.putfield 39, 3) := by decide +kernel
theorem dX8_init_75 : decode cX8_init 75 = .ok (.aload_n 0, 1) := by decide +kernel
theorem dX8_init_76 : decode cX8_init 76 = .ok (.bipush 10, 2) := by decide +kernel
theorem dX8_init_78 : decode cX8_init 78 = .ok (.newarray .int, 2) := by decide +kernel
theorem dX8_init_80 : decode cX8_init 80 = .ok (.putfield 42, 3) := by decide +kernel
theorem dX8_init_83 : decode cX8_init 83 = .ok (.aload_n 0, 1) := by decide +kernel
theorem dX8_init_84 : decode cX8_init 84 = .ok (.bipush 10, 2) := by decide +kernel
theorem dX8_init_86 : decode cX8_init 86 = .ok (.newarray .int, 2) := by decide +kernel
theorem dX8_init_88 : decode cX8_init 88 = .ok (.putfield 45, 3) := by decide +kernel
theorem dX8_init_91 : decode cX8_init 91 = .ok (.aload_n 0, 1) := by decide +kernel
theorem dX8_init_92 : decode cX8_init 92 = .ok (.bipush 10, 2) := by decide +kernel
theorem dX8_init_94 : decode cX8_init 94 = .ok (.newarray .int, 2) := by decide +kernel
theorem dX8_init_96 : decode cX8_init 96 = .ok (.putfield 48, 3) := by decide +kernel
theorem dX8_init_99 : decode cX8_init 99 = .ok (.aload_n 0, 1) := by decide +kernel
theorem dX8_init_100 : decode cX8_init 100 = .ok (.bipush 100, 2) := by decide +kernel
theorem dX8_init_102 : decode cX8_init 102 = .ok (.newarray .int, 2) := by decide +kernel
theorem dX8_init_104 : decode cX8_init 104 = .ok (.putfield 51, 3) := by decide +kernel
theorem dX8_init_107 : decode cX8_init 107 = .ok (.aload_n 0, 1) := by decide +kernel
theorem dX8_init_108 : decode cX8_init 108 = .ok (.bipush 100, 2) := by decide +kernel
theorem dX8_init_110 : decode cX8_init 110 = .ok (.newarray .int, 2) := by decide +kernel
theorem dX8_init_112 : decode cX8_init 112 = .ok (.putfield 54, 3) := by decide +kernel
theorem dX8_init_115 : decode cX8_init 115 = .ok (.aload_n 0, 1) := by decide +kernel
theorem dX8_init_116 : decode cX8_init 116 = .ok (.bipush 100, 2) := by decide +kernel
theorem dX8_init_118 : decode cX8_init 118 = .ok (.newarray .int, 2) := by decide +kernel
theorem dX8_init_120 : decode cX8_init 120 = .ok (.putfield 57, 3) := by decide +kernel
theorem dX8_init_123 : decode cX8_init 123 = .ok (.aload_n 0, 1) := by decide +kernel
theorem dX8_init_124 : decode cX8_init 124 = .ok (.bipush 100, 2) := by decide +kernel
theorem dX8_init_126 : decode cX8_init 126 = .ok (.newarray .int, 2) := by decide +kernel
theorem dX8_init_128 : decode cX8_init 128 = .ok (.putfield 60, 3) := by decide +kernel
theorem dX8_init_131 : decode cX8_init 131 = .ok (.aload_n 0, 1) := by decide +kernel
theorem dX8_init_132 : decode cX8_init 132 = .ok (.bipush 100, 2) := by decide +kernel
theorem dX8_init_134 : decode cX8_init 134 = .ok (.newarray .int, 2) := by decide +kernel
theorem dX8_init_136 : decode cX8_init 136 = .ok (.putfield 63, 3) := by decide +kernel
theorem dX8_init_139 : decode cX8_init 139 = .ok (.aload_n 0, 1) := by decide +kernel
theorem dX8_init_140 : decode cX8_init 140 = .ok (.bipush 100, 2) := by decide +kernel
theorem dX8_init_142 : decode cX8_init 142 = .ok (.newarray .int, 2) := by decide +kernel
theorem dX8_init_144 : decode cX8_init 144 = .ok (.putfield 66, 3) := by decide +kernel
theorem dX8_init_147 : decode cX8_init 147 = .ok (.aload_n 0, 1) := by decide +kernel
theorem dX8_init_148 : decode cX8_init 148 = .ok (.bipush 100, 2) := by decide +kernel
theorem dX8_init_150 : decode cX8_init 150 = .ok (.newarray .int, 2) := by decide +kernel
theorem dX8_init_152 : decode cX8_init 152 = .ok (.putfield 69, 3) := by decide +kernel
theorem dX8_init_155 : decode cX8_init 155 = .ok (.aload_n 0, 1) := by decide +kernel
theorem dX8_init_156 : decode cX8_init 156 = .ok (.bipush 100, 2) := by decide +kernel
theorem dX8_init_158 : decode cX8_init 158 = .ok (.newarray .int, 2) := by decide +kernel
theorem dX8_init_160 : decode cX8_init 160 = .ok (.putfield 72, 3) := by decide +kernel
theorem dX8_init_163 : decode cX8_init 163 = .ok (.aload_n 0, 1) := by decide +kernel
theorem dX8_init_164 : decode cX8_init 164 = .ok (.bipush 100, 2) := by decide +kernel
theorem dX8_init_166 : decode cX8_init 166 = .ok (.newarray .int, 2) := by decide +kernel
theorem dX8_init_168 : decode cX8_init 168 = .ok (.putfield 75, 3) := by decide +kernel
theorem dX8_init_171 : decode cX8_init 171 = .ok (.aload_n 0, 1) := by decide +kernel
theorem dX8_init_172 : decode cX8_init 172 = .ok (.bipush 100, 2) := by decide +kernel
theorem dX8_init_174 : decode cX8_init 174 = .ok (.newarray .boolean, 2) := by decide +kernel
theorem dX8_init_176 : decode cX8_init 176 = .ok (.putfield 78, 3) := by decide +kernel
theorem dX8_init_179 : decode cX8_init 179 = .ok (.aload_n 0, 1) := by decide +kernel
theorem dX8_init_180 : decode cX8_init 180 = .ok (.bipush 12, 2) := by decide +kernel
theorem dX8_init_182 : decode cX8_init 182 = .ok (.newarray .int, 2) := by decide +kernel
theorem dX8_init_184 : decode cX8_init 184 = .ok (.putfield 82, 3) := by decide +kernel
theorem dX8_init_187 : decode cX8_init 187 = .ok (.aload_n 0, 1) := by decide +kernel
theorem dX8_init_188 : decode cX8_init 188 = .ok (.sipush 200, 3) := by decide +kernel
theorem dX8_init_191 : decode cX8_init 191 = .ok (.newarray .long, 2) := by decide +kernel
theorem dX8_init_193 : decode cX8_init 193 = .ok (.putfield 85, 3) := by decide +kernel
theorem dX8_init_196 : decode cX8_init 196 = .ok (.aload_n 0, 1) := by decide +kernel
theorem dX8_init_197 : decode cX8_init 197 = .ok (.sipush 2000, 3) := by decide +kernel
theorem dX8_init_200 : decode cX8_init 200 = .ok (.newarray .boolean, 2) := by decide +kernel
theorem dX8_init_202 : decode cX8_init 202 = .ok (.putfield 89, 3) := by decide +kernel
theorem dX8_init_205 : decode cX8_init 205 = .ok (.aload_n 0, 1) := by decide +kernel
theorem dX8_init_206 : decode cX8_init 206 = .ok (.sipush 2613, 3) := by decide +kernel
theorem dX8_init_209 : decode cX8_init 209 = .ok (.newarray .long, 2) := by decide +kernel
theorem dX8_init_211 : decode cX8_init 211 = .ok (.putfield 92, 3) := by decide +kernel
theorem dX8_init_214 : decode cX8_init 214 = .ok (.aload_n 0, 1) := by decide +kernel
theorem dX8_init_215 : decode cX8_init 215 = .ok (.sipush 2613, 3) := by decide +kernel
theorem dX8_init_218 : decode cX8_init 218 = .ok (.newarray .long, 2) := by decide +kernel
theorem dX8_init_220 : decode cX8_init 220 = .ok (.putfield 95, 3) := by decide +kernel
theorem dX8_init_223 : decode cX8_init 223 = .ok (.aload_n 0, 1) := by decide +kernel
theorem dX8_init_224 : decode cX8_init 224 = .ok (.bipush 13, 2) := by decide +kernel
theorem dX8_init_226 : decode cX8_init 226 = .ok (.newarray .long, 2) := by decide +kernel
theorem dX8_init_228 : decode cX8_init 228 = .ok (.putfield 98, 3) := by decide +kernel
theorem dX8_init_231 : decode cX8_init 231 = .ok (.aload_n 0, 1) := by decide +kernel
theorem dX8_init_232 : decode cX8_init 232 = .ok (.bipush 13, 2) := by decide +kernel
theorem dX8_init_234 : decode cX8_init 234 = .ok (.newarray .long, 2) := by decide +kernel
theorem dX8_init_236 : decode cX8_init 236 = .ok (.putfield 101, 3) := by decide +kernel
theorem dX8_init_239 : decode cX8_init 239 = .ok (.return_, 1) := by decide +kernel
theorem dX8_feed_0 : decode cX8_feed 0 = .ok (.aload_n 0, 1) := by decide +kernel
theorem dX8_feed_1 : decode cX8_feed 1 = .ok (.iconst 0, 1) := by decide +kernel
theorem dX8_feed_2 : decode cX8_feed 2 = .ok (.putfield 1, 3) := by decide +kernel
theorem dX8_feed_5 : decode cX8_feed 5 = .ok (.aload_n 0, 1) := by decide +kernel
theorem dX8_feed_6 : decode cX8_feed 6 = .ok (.getfield 104, 3) := by decide +kernel
theorem dX8_feed_9 : decode cX8_feed 9 = .ok (.bipush 20, 2) := by decide +kernel
theorem dX8_feed_11 : decode cX8_feed 11 = .ok (.iadd, 1) := by decide +kernel
theorem dX8_feed_12 : decode cX8_feed 12 = .ok (.sipush 600, 3) := by decide +kernel
theorem dX8_feed_15 : decode cX8_feed 15 = .ok (.if_icmp .le 5, 3) := by decide +kernel
theorem dX8_feed_18 : decode cX8_feed 18 = .ok (.iconst (-1), 1) := by decide +kernel
theorem dX8_feed_19 : decode cX8_feed 19 = .ok (.ireturn, 1) := by decide +kernel
theorem dX8_feed_20 : decode cX8_feed 20 = .ok (.iconst 0, 1) := by decide +kernel
theorem dX8_feed_21 : decode cX8_feed 21 = .ok (.istore 6, 2) := by decide +kernel
theorem dX8_feed_23 : decode cX8_feed 23 = .ok (.iload 6, 2) := by decide +kernel
theorem dX8_feed_25 : decode cX8_feed 25 = .ok (.bipush 20, 2) := by decide +kernel
theorem dX8_feed_27 : decode cX8_feed 27 = .ok (.if_icmp .ge 90, 3) := by decide +kernel
theorem dX8_feed_30 : decode cX8_feed 30 = .ok (.iload 6, 2) := by decide +kernel
theorem dX8_feed_32 : decode cX8_feed 32 = .ok (.iconst 4, 1) := by decide +kernel
theorem dX8_feed_33 : decode cX8_feed 33 = .ok (.if_icmp .ge 7, 3) := by decide +kernel
theorem dX8_feed_36 : decode cX8_feed 36 = .ok (.iload_n 1, 1) := by decide +kernel
theorem dX8_feed_37 : decode cX8_feed 37 = .ok (.goto 39, 3) := by decide +kernel
theorem dX8_feed_40 : decode cX8_feed 40 = .ok (.iload 6, 2) := by decide +kernel
theorem dX8_feed_42 : decode cX8_feed 42 = .ok (.bipush 8, 2) := by decide +kernel
theorem dX8_feed_44 : decode cX8_feed 44 = .ok (.if_icmp .ge 7, 3) := by decide +kernel
theorem dX8_feed_47 : decode cX8_feed 47 = .ok (.iload_n 2, 1) := by decide +kernel
theorem dX8_feed_48 : decode cX8_feed 48 = .ok (.goto 28, 3) := by decide +kernel
theorem dX8_feed_51 : decode cX8_feed 51 = .ok (.iload 6, 2) := by decide +kernel
theorem dX8_feed_53 : decode cX8_feed 53 = .ok (.bipush 12, 2) := by decide +kernel
theorem dX8_feed_55 : decode cX8_feed 55 = .ok (.if_icmp .ge 7, 3) := by decide +kernel
theorem dX8_feed_58 : decode cX8_feed 58 = .ok (.iload_n 3, 1) := by decide +kernel
theorem dX8_feed_59 : decode cX8_feed 59 = .ok (.goto 17, 3) := by decide +kernel
theorem dX8_feed_62 : decode cX8_feed 62 = .ok (.iload 6, 2) := by decide +kernel
theorem dX8_feed_64 : decode cX8_feed 64 = .ok (.bipush 16, 2) := by decide +kernel
theorem dX8_feed_66 : decode cX8_feed 66 = .ok (.if_icmp .ge 8, 3) := by decide +kernel
theorem dX8_feed_69 : decode cX8_feed 69 = .ok (.iload 4, 2) := by decide +kernel
theorem dX8_feed_71 : decode cX8_feed 71 = .ok (.goto 5, 3) := by decide +kernel
theorem dX8_feed_74 : decode cX8_feed 74 = .ok (.iload 5, 2) := by decide +kernel
theorem dX8_feed_76 : decode cX8_feed 76 = .ok (.istore 7, 2) := by decide +kernel
theorem dX8_feed_78 : decode cX8_feed 78 = .ok (.aload_n 0, 1) := by decide +kernel
theorem dX8_feed_79 : decode cX8_feed 79 = .ok (.getfield 13, 3) := by decide +kernel
theorem dX8_feed_82 : decode cX8_feed 82 = .ok (.aload_n 0, 1) := by decide +kernel
theorem dX8_feed_83 : decode cX8_feed 83 = .ok (.getfield 104, 3) := by decide +kernel
theorem dX8_feed_86 : decode cX8_feed 86 = .ok (.iload 7, 2) := by decide +kernel
theorem dX8_feed_88 : decode cX8_feed 88 = .ok (.bipush 24, 2) := by decide +kernel
theorem dX8_feed_90 : decode cX8_feed 90 = .ok (.bipush 8, 2) := by decide +kernel
theorem dX8_feed_92 : decode cX8_feed 92 = .ok (.iload 6, 2) := by decide +kernel
theorem dX8_feed_94 : decode cX8_feed 94 = .ok (.iconst 4, 1) := by decide +kernel
theorem dX8_feed_95 : decode cX8_feed 95 = .ok (.irem, 1) := by decide +kernel
theorem dX8_feed_96 : decode cX8_feed 96 = .ok (.imul, 1) := by decide +kernel
theorem dX8_feed_97 : decode cX8_feed 97 = .ok (.isub, 1) := by decide +kernel
theorem dX8_feed_98 : decode cX8_feed 98 = .ok (.ishr, 1) := by decide +kernel
theorem dX8_feed_99 : decode cX8_feed 99 = .ok (.i2b, 1) := by decide +kernel
theorem dX8_feed_100 : decode cX8_feed 100 = .ok (.bastore, 1) := by decide +kernel
theorem dX8_feed_101 : decode cX8_feed 101 = .ok (.aload_n 0, 1) := by decide +kernel
theorem dX8_feed_102 : decode cX8_feed 102 = .ok (.dup, 1) := by decide +kernel
theorem dX8_feed_103 : decode cX8_feed 103 = .ok (.getfield 104, 3) := by decide +kernel
theorem dX8_feed_106 : decode cX8_feed 106 = .ok (.iconst 1, 1) := by decide +kernel
theorem dX8_feed_107 : decode cX8_feed 107 = .ok (.iadd, 1) := by decide +kernel
theorem dX8_feed_108 : decode cX8_feed 108 = .ok (.putfield 104, 3) := by decide +kernel
theorem dX8_feed_111 : decode cX8_feed 111 = .ok (.iinc 6 1, 3) := by decide +kernel
theorem dX8_feed_114 : decode cX8_feed 114 = .ok (.goto (-91), 3) := by decide +kernel
theorem dX8_feed_117 : decode cX8_feed 117 = .ok (.aload_n 0, 1) := by decide +kernel
theorem dX8_feed_118 : decode cX8_feed 118 = .ok (.getfield 104, 3) := by decide +kernel
theorem dX8_feed_121 : decode cX8_feed 121 = .ok (.ireturn, 1) := by decide +kernel
theorem dX8_end_0 : decode cX8_end 0 = .ok (.aload_n 0, 1) := by decide +kernel
theorem dX8_end_1 : decode cX8_end 1 = .ok (.iconst 0, 1) := by decide +kernel
theorem dX8_end_2 : decode cX8_end 2 = .ok (.putfield 1, 3) := by decide +kernel
theorem dX8_end_5 : decode cX8_end 5 = .ok (.iload_n 1, 1) := by decide +kernel
theorem dX8_end_6 : decode cX8_end 6 = .ok (.ifCond .lt 11, 3) := by decide +kernel
theorem dX8_end_9 : decode cX8_end 9 = .ok (.iload_n 1, 1) := by decide +kernel
theorem dX8_end_10 : decode cX8_end 10 = .ok (.aload_n 0, 1) := by decide +kernel
theorem dX8_end_11 : decode cX8_end 11 = .ok (.getfield 104, 3) := by decide +kernel
theorem dX8_end_14 : decode cX8_end 14 = .ok (.if_icmp .le 5, 3) := by decide +kernel
theorem dX8_end_17 : decode cX8_end 17 = .ok (.iconst (-1), 1) := by decide +kernel
theorem dX8_end_18 : decode cX8_end 18 = .ok (.ireturn, 1) := by decide +kernel
theorem dX8_end_19 : decode cX8_end 19 = .ok (.aload_n 0, 1) := by decide +kernel
theorem dX8_end_20 : decode cX8_end 20 = .ok (.iload_n 1, 1) := by decide +kernel
theorem dX8_end_21 : decode cX8_end 21 = .ok (.putfield 104, 3) := by decide +kernel
theorem dX8_end_24 : decode cX8_end 24 = .ok (.iload_n 1, 1) := by decide +kernel
theorem dX8_end_25 : decode cX8_end 25 = .ok (.ireturn, 1) := by decide +kernel
theorem dX8_see_0 : decode cX8_see 0 = .ok (.iload_n 1, 1) := by decide +kernel
theorem dX8_see_1 : decode cX8_see 1 = .ok (.aload_n 0, 1) := by decide +kernel
theorem dX8_see_2 : decode cX8_see 2 = .ok (.getfield 104, 3) := by decide +kernel
theorem dX8_see_5 : decode cX8_see 5 = .ok (.if_icmp .ge 12, 3) := by decide +kernel
theorem dX8_see_8 : decode cX8_see 8 = .ok (.aload_n 0, 1) := by decide +kernel
theorem dX8_see_9 : decode cX8_see 9 = .ok (.getfield 13, 3) := by decide +kernel
theorem dX8_see_12 : decode cX8_see 12 = .ok (.iload_n 1, 1) := by decide +kernel
theorem dX8_see_13 : decode cX8_see 13 = .ok (.baload, 1) := by decide +kernel
theorem dX8_see_14 : decode cX8_see 14 = .ok (.goto 4, 3) := by decide +kernel
theorem dX8_see_17 : decode cX8_see 17 = .ok (.iconst 0, 1) := by decide +kernel
theorem dX8_see_18 : decode cX8_see 18 = .ok (.ireturn, 1) := by decide +kernel
theorem dX8_isSmall_0 : decode cX8_isSmall 0 = .ok (.iload_n 0, 1) := by decide +kernel
theorem dX8_isSmall_1 : decode cX8_isSmall 1 = .ok (.bipush 97, 2) := by decide +kernel
theorem dX8_isSmall_3 : decode cX8_isSmall 3 = .ok (.if_icmp .lt 13, 3) := by decide +kernel
theorem dX8_isSmall_6 : decode cX8_isSmall 6 = .ok (.iload_n 0, 1) := by decide +kernel
theorem dX8_isSmall_7 : decode cX8_isSmall 7 = .ok (.bipush 122, 2) := by decide +kernel
theorem dX8_isSmall_9 : decode cX8_isSmall 9 = .ok (.if_icmp .gt 7, 3) := by decide +kernel
theorem dX8_isSmall_12 : decode cX8_isSmall 12 = .ok (.iconst 1, 1) := by decide +kernel
theorem dX8_isSmall_13 : decode cX8_isSmall 13 = .ok (.goto 4, 3) := by decide +kernel
theorem dX8_isSmall_16 : decode cX8_isSmall 16 = .ok (.iconst 0, 1) := by decide +kernel
theorem dX8_isSmall_17 : decode cX8_isSmall 17 = .ok (.ireturn, 1) := by decide +kernel
theorem dX8_isDigit_0 : decode cX8_isDigit 0 = .ok (.iload_n 0, 1) := by decide +kernel
theorem dX8_isDigit_1 : decode cX8_isDigit 1 = .ok (.bipush 48, 2) := by decide +kernel
theorem dX8_isDigit_3 : decode cX8_isDigit 3 = .ok (.if_icmp .lt 13, 3) := by decide +kernel
theorem dX8_isDigit_6 : decode cX8_isDigit 6 = .ok (.iload_n 0, 1) := by decide +kernel
theorem dX8_isDigit_7 : decode cX8_isDigit 7 = .ok (.bipush 57, 2) := by decide +kernel
theorem dX8_isDigit_9 : decode cX8_isDigit 9 = .ok (.if_icmp .gt 7, 3) := by decide +kernel
theorem dX8_isDigit_12 : decode cX8_isDigit 12 = .ok (.iconst 1, 1) := by decide +kernel
theorem dX8_isDigit_13 : decode cX8_isDigit 13 = .ok (.goto 4, 3) := by decide +kernel
theorem dX8_isDigit_16 : decode cX8_isDigit 16 = .ok (.iconst 0, 1) := by decide +kernel
theorem dX8_isDigit_17 : decode cX8_isDigit 17 = .ok (.ireturn, 1) := by decide +kernel
theorem dX8_next_0 : decode cX8_next 0 = .ok (.aload_n 0, 1) := by decide +kernel
theorem dX8_next_1 : decode cX8_next 1 = .ok (.getfield 107, 3) := by decide +kernel
theorem dX8_next_4 : decode cX8_next 4 = .ok (.aload_n 0, 1) := by decide +kernel
theorem dX8_next_5 : decode cX8_next 5 = .ok (.getfield 104, 3) := by decide +kernel
theorem dX8_next_8 : decode cX8_next 8 = .ok (.if_icmp .ge 44, 3) := by decide +kernel
theorem dX8_next_11 : decode cX8_next 11 = .ok (.aload_n 0, 1) := by decide +kernel
theorem dX8_next_12 : decode cX8_next 12 = .ok (.getfield 13, 3) := by decide +kernel
theorem dX8_next_15 : decode cX8_next 15 = .ok (.aload_n 0, 1) := by decide +kernel
theorem dX8_next_16 : decode cX8_next 16 = .ok (.getfield 107, 3) := by decide +kernel
theorem dX8_next_19 : decode cX8_next 19 = .ok (.baload, 1) := by decide +kernel
theorem dX8_next_20 : decode cX8_next 20 = .ok (.bipush 32, 2) := by decide +kernel
theorem dX8_next_22 : decode cX8_next 22 = .ok (.if_icmp .eq 17, 3) := by decide +kernel
theorem dX8_next_25 : decode cX8_next 25 = .ok (.aload_n 0, 1) := by decide +kernel
theorem dX8_next_26 : decode cX8_next 26 = .ok (.getfield 13, 3) := by decide +kernel
theorem dX8_next_29 : decode cX8_next 29 = .ok (.aload_n 0, 1) := by decide +kernel
theorem dX8_next_30 : decode cX8_next 30 = .ok (.getfield 107, 3) := by decide +kernel
theorem dX8_next_33 : decode cX8_next 33 = .ok (.baload, 1) := by decide +kernel
theorem dX8_next_34 : decode cX8_next 34 = .ok (.bipush 10, 2) := by decide +kernel
theorem dX8_next_36 : decode cX8_next 36 = .ok (.if_icmp .ne 16, 3) := by decide +kernel
theorem dX8_next_39 : decode cX8_next 39 = .ok (.aload_n 0, 1) := by decide +kernel
theorem dX8_next_40 : decode cX8_next 40 = .ok (.dup, 1) := by decide +kernel
theorem dX8_next_41 : decode cX8_next 41 = .ok (.getfield 107, 3) := by decide +kernel
theorem dX8_next_44 : decode cX8_next 44 = .ok (.iconst 1, 1) := by decide +kernel
theorem dX8_next_45 : decode cX8_next 45 = .ok (.iadd, 1) := by decide +kernel
theorem dX8_next_46 : decode cX8_next 46 = .ok (.putfield 107, 3) := by decide +kernel
theorem dX8_next_49 : decode cX8_next 49 = .ok (.goto (-49), 3) := by decide +kernel
theorem dX8_next_52 : decode cX8_next 52 = .ok (.aload_n 0, 1) := by decide +kernel
theorem dX8_next_53 : decode cX8_next 53 = .ok (.aload_n 0, 1) := by decide +kernel
theorem dX8_next_54 : decode cX8_next 54 = .ok (.getfield 107, 3) := by decide +kernel
theorem dX8_next_57 : decode cX8_next 57 = .ok (.putfield 110, 3) := by decide +kernel
theorem dX8_next_60 : decode cX8_next 60 = .ok (.aload_n 0, 1) := by decide +kernel
theorem dX8_next_61 : decode cX8_next 61 = .ok (.getfield 107, 3) := by decide +kernel
theorem dX8_next_64 : decode cX8_next 64 = .ok (.aload_n 0, 1) := by decide +kernel
theorem dX8_next_65 : decode cX8_next 65 = .ok (.getfield 104, 3) := by decide +kernel
theorem dX8_next_68 : decode cX8_next 68 = .ok (.if_icmp .lt 9, 3) := by decide +kernel
theorem dX8_next_71 : decode cX8_next 71 = .ok (.aload_n 0, 1) := by decide +kernel
theorem dX8_next_72 : decode cX8_next 72 = .ok (.iconst 0, 1) := by decide +kernel
theorem dX8_next_73 : decode cX8_next 73 = .ok (.putfield 113, 3) := by decide +kernel
theorem dX8_next_76 : decode cX8_next 76 = .ok (.return_, 1) := by decide +kernel
theorem dX8_next_77 : decode cX8_next 77 = .ok (.aload_n 0, 1) := by decide +kernel
theorem dX8_next_78 : decode cX8_next 78 = .ok (.getfield 13, 3) := by decide +kernel
theorem dX8_next_81 : decode cX8_next 81 = .ok (.aload_n 0, 1) := by decide +kernel
theorem dX8_next_82 : decode cX8_next 82 = .ok (.getfield 107, 3) := by decide +kernel
theorem dX8_next_85 : decode cX8_next 85 = .ok (.baload, 1) := by decide +kernel
theorem dX8_next_86 : decode cX8_next 86 = .ok (.istore_n 1, 1) := by decide +kernel
theorem dX8_next_87 : decode cX8_next 87 = .ok (.aload_n 0, 1) := by decide +kernel
theorem dX8_next_88 : decode cX8_next 88 = .ok (.dup, 1) := by decide +kernel
theorem dX8_next_89 : decode cX8_next 89 = .ok (.getfield 107, 3) := by decide +kernel
theorem dX8_next_92 : decode cX8_next 92 = .ok (.iconst 1, 1) := by decide +kernel
theorem dX8_next_93 : decode cX8_next 93 = .ok (.iadd, 1) := by decide +kernel
theorem dX8_next_94 : decode cX8_next 94 = .ok (.putfield 107, 3) := by decide +kernel
theorem dX8_next_97 : decode cX8_next 97 = .ok (.iload_n 1, 1) := by decide +kernel
theorem dX8_next_98 : decode cX8_next 98 = .ok (.invokestatic 116, 3) := by decide +kernel
theorem dX8_next_101 : decode cX8_next 101 = .ok (.ifCond .eq 56, 3) := by decide +kernel
theorem dX8_next_104 : decode cX8_next 104 = .ok (.aload_n 0, 1) := by decide +kernel
theorem dX8_next_105 : decode cX8_next 105 = .ok (.aload_n 0, 1) := by decide +kernel
theorem dX8_next_106 : decode cX8_next 106 = .ok (.getfield 107, 3) := by decide +kernel
theorem dX8_next_109 : decode cX8_next 109 = .ok (.invokevirtual 120, 3) := by decide +kernel
theorem dX8_next_112 : decode cX8_next 112 = .ok (.invokestatic 116, 3) := by decide +kernel
theorem dX8_next_115 : decode cX8_next 115 = .ok (.ifCond .eq 16, 3) := by decide +kernel
theorem dX8_next_118 : decode cX8_next 118 = .ok (.aload_n 0, 1) := by decide +kernel
theorem dX8_next_119 : decode cX8_next 119 = .ok (.dup, 1) := by decide +kernel
theorem dX8_next_120 : decode cX8_next 120 = .ok (.getfield 107, 3) := by decide +kernel
theorem dX8_next_123 : decode cX8_next 123 = .ok (.iconst 1, 1) := by decide +kernel
theorem dX8_next_124 : decode cX8_next 124 = .ok (.iadd, 1) := by decide +kernel
theorem dX8_next_125 : decode cX8_next 125 = .ok (.putfield 107, 3) := by decide +kernel
theorem dX8_next_128 : decode cX8_next 128 = .ok (.goto (-24), 3) := by decide +kernel
theorem dX8_next_131 : decode cX8_next 131 = .ok (.aload_n 0, 1) := by decide +kernel
theorem dX8_next_132 : decode cX8_next 132 = .ok (.aload_n 0, 1) := by decide +kernel
theorem dX8_next_133 : decode cX8_next 133 = .ok (.getfield 107, 3) := by decide +kernel
theorem dX8_next_136 : decode cX8_next 136 = .ok (.aload_n 0, 1) := by decide +kernel
theorem dX8_next_137 : decode cX8_next 137 = .ok (.getfield 110, 3) := by decide +kernel
theorem dX8_next_140 : decode cX8_next 140 = .ok (.isub, 1) := by decide +kernel
theorem dX8_next_141 : decode cX8_next 141 = .ok (.bipush 8, 2) := by decide +kernel
theorem dX8_next_143 : decode cX8_next 143 = .ok (.if_icmp .le 7, 3) := by decide +kernel
theorem dX8_next_146 : decode cX8_next 146 = .ok (.iconst 1, 1) := by decide +kernel
theorem dX8_next_147 : decode cX8_next 147 = .ok (.goto 4, 3) := by decide +kernel
theorem dX8_next_150 : decode cX8_next 150 = .ok (.iconst 3, 1) := by decide +kernel
theorem dX8_next_151 : decode cX8_next 151 = .ok (.putfield 113, 3) := by decide +kernel
theorem dX8_next_154 : decode cX8_next 154 = .ok (.goto 121, 3) := by decide +kernel
theorem dX8_next_157 : decode cX8_next 157 = .ok (.iload_n 1, 1) := by decide +kernel
theorem dX8_next_158 : decode cX8_next 158 = .ok (.invokestatic 124, 3) := by decide +kernel
theorem dX8_next_161 : decode cX8_next 161 = .ok (.ifCond .eq 99, 3) := by decide +kernel
theorem dX8_next_164 : decode cX8_next 164 = .ok (.aload_n 0, 1) := by decide +kernel
theorem dX8_next_165 : decode cX8_next 165 = .ok (.iload_n 1, 1) := by decide +kernel
theorem dX8_next_166 : decode cX8_next 166 = .ok (.bipush 48, 2) := by decide +kernel
theorem dX8_next_168 : decode cX8_next 168 = .ok (.isub, 1) := by decide +kernel
theorem dX8_next_169 : decode cX8_next 169 = .ok (.putfield 127, 3) := by decide +kernel
theorem dX8_next_172 : decode cX8_next 172 = .ok (.aload_n 0, 1) := by decide +kernel
theorem dX8_next_173 : decode cX8_next 173 = .ok (.aload_n 0, 1) := by decide +kernel
theorem dX8_next_174 : decode cX8_next 174 = .ok (.getfield 107, 3) := by decide +kernel
theorem dX8_next_177 : decode cX8_next 177 = .ok (.invokevirtual 120, 3) := by decide +kernel
theorem dX8_next_180 : decode cX8_next 180 = .ok (.invokestatic 124, 3) := by decide +kernel
theorem dX8_next_183 : decode cX8_next 183 = .ok (.ifCond .eq 52, 3) := by decide +kernel
theorem dX8_next_186 : decode cX8_next 186 = .ok (.aload_n 0, 1) := by decide +kernel
theorem dX8_next_187 : decode cX8_next 187 = .ok (.getfield 107, 3) := by decide +kernel
theorem dX8_next_190 : decode cX8_next 190 = .ok (.aload_n 0, 1) := by decide +kernel
theorem dX8_next_191 : decode cX8_next 191 = .ok (.getfield 110, 3) := by decide +kernel
theorem dX8_next_194 : decode cX8_next 194 = .ok (.isub, 1) := by decide +kernel
theorem dX8_next_195 : decode cX8_next 195 = .ok (.iconst 4, 1) := by decide +kernel
theorem dX8_next_196 : decode cX8_next 196 = .ok (.if_icmp .ge 26, 3) := by decide +kernel
theorem dX8_next_199 : decode cX8_next 199 = .ok (.aload_n 0, 1) := by decide +kernel
theorem dX8_next_200 : decode cX8_next 200 = .ok (.bipush 10, 2) := by decide +kernel
theorem dX8_next_202 : decode cX8_next 202 = .ok (.aload_n 0, 1) := by decide +kernel
theorem dX8_next_203 : decode cX8_next 203 = .ok (.getfield 127, 3) := by decide +kernel
theorem dX8_next_206 : decode cX8_next 206 = .ok (.imul, 1) := by decide +kernel
theorem dX8_next_207 : decode cX8_next 207 = .ok (.aload_n 0, 1) := by decide +kernel
theorem dX8_next_208 : decode cX8_next 208 = .ok (.aload_n 0, 1) := by decide +kernel
theorem dX8_next_209 : decode cX8_next 209 = .ok (.getfield 107, 3) := by decide +kernel
theorem dX8_next_212 : decode cX8_next 212 = .ok (.invokevirtual 120, 3) := by decide +kernel
theorem dX8_next_215 : decode cX8_next 215 = .ok (.iadd, 1) := by decide +kernel
theorem dX8_next_216 : decode cX8_next 216 = .ok (.bipush 48, 2) := by decide +kernel
theorem dX8_next_218 : decode cX8_next 218 = .ok (.isub, 1) := by decide +kernel
theorem dX8_next_219 : decode cX8_next 219 = .ok (.putfield 127, 3) := by decide +kernel
theorem dX8_next_222 : decode cX8_next 222 = .ok (.aload_n 0, 1) := by decide +kernel
theorem dX8_next_223 : decode cX8_next 223 = .ok (.dup, 1) := by decide +kernel
theorem dX8_next_224 : decode cX8_next 224 = .ok (.getfield 107, 3) := by decide +kernel
theorem dX8_next_227 : decode cX8_next 227 = .ok (.iconst 1, 1) := by decide +kernel
theorem dX8_next_228 : decode cX8_next 228 = .ok (.iadd, 1) := by decide +kernel
theorem dX8_next_229 : decode cX8_next 229 = .ok (.putfield 107, 3) := by decide +kernel
theorem dX8_next_232 : decode cX8_next 232 = .ok (.goto (-60), 3) := by decide +kernel
theorem dX8_next_235 : decode cX8_next 235 = .ok (.aload_n 0, 1) := by decide +kernel
theorem dX8_next_236 : decode cX8_next 236 = .ok (.aload_n 0, 1) := by decide +kernel
theorem dX8_next_237 : decode cX8_next 237 = .ok (.getfield 107, 3) := by decide +kernel
theorem dX8_next_240 : decode cX8_next 240 = .ok (.aload_n 0, 1) := by decide +kernel
theorem dX8_next_241 : decode cX8_next 241 = .ok (.getfield 110, 3) := by decide +kernel
theorem dX8_next_244 : decode cX8_next 244 = .ok (.isub, 1) := by decide +kernel
theorem dX8_next_245 : decode cX8_next 245 = .ok (.iconst 4, 1) := by decide +kernel
theorem dX8_next_246 : decode cX8_next 246 = .ok (.if_icmp .le 7, 3) := by decide +kernel
theorem dX8_next_249 : decode cX8_next 249 = .ok (.iconst 1, 1) := by decide +kernel
theorem dX8_next_250 : decode cX8_next 250 = .ok (.goto 4, 3) := by decide +kernel
theorem dX8_next_253 : decode cX8_next 253 = .ok (.iconst 2, 1) := by decide +kernel
theorem dX8_next_254 : decode cX8_next 254 = .ok (.putfield 113, 3) := by decide +kernel
theorem dX8_next_257 : decode cX8_next 257 = .ok (.goto 18, 3) := by decide +kernel
theorem dX8_next_260 : decode cX8_next 260 = .ok (.aload_n 0, 1) := by decide +kernel
theorem dX8_next_261 : decode cX8_next 261 = .ok (.iload_n 1, 1) := by decide +kernel
theorem dX8_next_262 : decode cX8_next 262 = .ok (.bipush 59, 2) := by decide +kernel
theorem dX8_next_264 : decode cX8_next 264 = .ok (.if_icmp .ne 7, 3) := by decide +kernel
theorem dX8_next_267 : decode cX8_next 267 = .ok (.iconst 4, 1) := by decide +kernel
theorem dX8_next_268 : decode cX8_next 268 = .ok (.goto 4, 3) := by decide +kernel
theorem dX8_next_271 : decode cX8_next 271 = .ok (.iconst 1, 1) := by decide +kernel
theorem dX8_next_272 : decode cX8_next 272 = .ok (.putfield 113, 3) := by decide +kernel
theorem dX8_next_275 : decode cX8_next 275 = .ok (.return_, 1) := by decide +kernel
theorem dX8_isWord_0 : decode cX8_isWord 0 = .ok (.aload_n 0, 1) := by decide +kernel
theorem dX8_isWord_1 : decode cX8_isWord 1 = .ok (.getfield 113, 3) := by decide +kernel
theorem dX8_isWord_4 : decode cX8_isWord 4 = .ok (.iconst 3, 1) := by decide +kernel
theorem dX8_isWord_5 : decode cX8_isWord 5 = .ok (.if_icmp .ne 19, 3) := by decide +kernel
theorem dX8_isWord_8 : decode cX8_isWord 8 = .ok (.aload_n 0, 1) := by decide +kernel
theorem dX8_isWord_9 : decode cX8_isWord 9 = .ok (.getfield 107, 3) := by decide +kernel
theorem dX8_isWord_12 : decode cX8_isWord 12 = .ok (.aload_n 0, 1) := by decide +kernel
theorem dX8_isWord_13 : decode cX8_isWord 13 = .ok (.getfield 110, 3) := by decide +kernel
theorem dX8_isWord_16 : decode cX8_isWord 16 = .ok (.isub, 1) := by decide +kernel
theorem dX8_isWord_17 : decode cX8_isWord 17 = .ok (.aload_n 1, 1) := by decide +kernel
theorem dX8_isWord_18 : decode cX8_isWord 18 = .ok (.invokevirtual 130, 3) := by decide +kernel
theorem dX8_isWord_21 : decode cX8_isWord 21 = .ok (.if_icmp .eq 5, 3) := by decide +kernel
theorem dX8_isWord_24 : decode cX8_isWord 24 = .ok (.iconst 0, 1) := by decide +kernel
theorem dX8_isWord_25 : decode cX8_isWord 25 = .ok (.ireturn, 1) := by decide +kernel
theorem dX8_isWord_26 : decode cX8_isWord 26 = .ok (.iconst 0, 1) := by decide +kernel
theorem dX8_isWord_27 : decode cX8_isWord 27 = .ok (.istore_n 2, 1) := by decide +kernel
theorem dX8_isWord_28 : decode cX8_isWord 28 = .ok (.iload_n 2, 1) := by decide +kernel
theorem dX8_isWord_29 : decode cX8_isWord 29 = .ok (.aload_n 1, 1) := by decide +kernel
theorem dX8_isWord_30 : decode cX8_isWord 30 = .ok (.invokevirtual 130, 3) := by decide +kernel
theorem dX8_isWord_33 : decode cX8_isWord 33 = .ok (.if_icmp .ge 30, 3) := by decide +kernel
theorem dX8_isWord_36 : decode cX8_isWord 36 = .ok (.aload_n 0, 1) := by decide +kernel
theorem dX8_isWord_37 : decode cX8_isWord 37 = .ok (.getfield 13, 3) := by decide +kernel
theorem dX8_isWord_40 : decode cX8_isWord 40 = .ok (.aload_n 0, 1) := by decide +kernel
theorem dX8_isWord_41 : decode cX8_isWord 41 = .ok (.getfield 110, 3) := by decide +kernel
theorem dX8_isWord_44 : decode cX8_isWord 44 = .ok (.iload_n 2, 1) := by decide +kernel
theorem dX8_isWord_45 : decode cX8_isWord 45 = .ok (.iadd, 1) := by decide +kernel
theorem dX8_isWord_46 : decode cX8_isWord 46 = .ok (.baload, 1) := by decide +kernel
theorem dX8_isWord_47 : decode cX8_isWord 47 = .ok (.aload_n 1, 1) := by decide +kernel
theorem dX8_isWord_48 : decode cX8_isWord 48 = .ok (.iload_n 2, 1) := by decide +kernel
theorem dX8_isWord_49 : decode cX8_isWord 49 = .ok (.invokevirtual 136, 3) := by decide +kernel
theorem dX8_isWord_52 : decode cX8_isWord 52 = .ok (.if_icmp .eq 5, 3) := by decide +kernel
theorem dX8_isWord_55 : decode cX8_isWord 55 = .ok (.iconst 0, 1) := by decide +kernel
theorem dX8_isWord_56 : decode cX8_isWord 56 = .ok (.ireturn, 1) := by decide +kernel
theorem dX8_isWord_57 : decode cX8_isWord 57 = .ok (.iinc 2 1, 3) := by decide +kernel
theorem dX8_isWord_60 : decode cX8_isWord 60 = .ok (.goto (-32), 3) := by decide +kernel
theorem dX8_isWord_63 : decode cX8_isWord 63 = .ok (.iconst 1, 1) := by decide +kernel
theorem dX8_isWord_64 : decode cX8_isWord 64 = .ok (.ireturn, 1) := by decide +kernel
theorem dX8_isName_0 : decode cX8_isName 0 = .ok (.aload_n 0, 1) := by decide +kernel
theorem dX8_isName_1 : decode cX8_isName 1 = .ok (.getfield 113, 3) := by decide +kernel
theorem dX8_isName_4 : decode cX8_isName 4 = .ok (.iconst 3, 1) := by decide +kernel
theorem dX8_isName_5 : decode cX8_isName 5 = .ok (.if_icmp .ne 25, 3) := by decide +kernel
theorem dX8_isName_8 : decode cX8_isName 8 = .ok (.aload_n 0, 1) := by decide +kernel
theorem dX8_isName_9 : decode cX8_isName 9 = .ok (.ldc 140, 2) := by decide +kernel
theorem dX8_isName_11 : decode cX8_isName 11 = .ok (.invokevirtual 142, 3) := by decide +kernel
theorem dX8_isName_14 : decode cX8_isName 14 = .ok (.ifCond .ne 16, 3) := by decide +kernel
theorem dX8_isName_17 : decode cX8_isName 17 = .ok (.aload_n 0, 1) := by decide +kernel
theorem dX8_isName_18 : decode cX8_isName 18 = .ok (.ldc 146, 2) := by decide +kernel
theorem dX8_isName_20 : decode cX8_isName 20 = .ok (.invokevirtual 142, 3) := by decide +kernel
theorem dX8_isName_23 : decode cX8_isName 23 = .ok (.ifCond .ne 7, 3) := by decide +kernel
theorem dX8_isName_26 : decode cX8_isName 26 = .ok (.iconst 1, 1) := by decide +kernel
theorem dX8_isName_27 : decode cX8_isName 27 = .ok (.goto 4, 3) := by decide +kernel
theorem dX8_isName_30 : decode cX8_isName 30 = .ok (.iconst 0, 1) := by decide +kernel
theorem dX8_isName_31 : decode cX8_isName 31 = .ok (.ireturn, 1) := by decide +kernel
theorem dX8_fails_0 : decode cX8_fails 0 = .ok (.aload_n 0, 1) := by decide +kernel
theorem dX8_fails_1 : decode cX8_fails 1 = .ok (.getfield 148, 3) := by decide +kernel
theorem dX8_fails_4 : decode cX8_fails 4 = .ok (.ifCond .eq 4, 3) := by decide +kernel
theorem dX8_fails_7 : decode cX8_fails 7 = .ok (.return_, 1) := by decide +kernel
theorem dX8_fails_8 : decode cX8_fails 8 = .ok (.aload_n 0, 1) := by decide +kernel
theorem dX8_fails_9 : decode cX8_fails 9 = .ok (.iload_n 1, 1) := by decide +kernel
theorem dX8_fails_10 : decode cX8_fails 10 = .ok (.putfield 148, 3) := by decide +kernel
theorem dX8_fails_13 : decode cX8_fails 13 = .ok (.aload_n 0, 1) := by decide +kernel
theorem dX8_fails_14 : decode cX8_fails 14 = .ok (.aload_n 0, 1) := by decide +kernel
theorem dX8_fails_15 : decode cX8_fails 15 = .ok (.getfield 110, 3) := by decide +kernel
theorem dX8_fails_18 : decode cX8_fails 18 = .ok (.putfield 151, 3) := by decide +kernel
theorem dX8_fails_21 : decode cX8_fails 21 = .ok (.return_, 1) := by decide +kernel
theorem dX8_isWell_0 : decode cX8_isWell 0 = .ok (.aload_n 0, 1) := by decide +kernel
theorem dX8_isWell_1 : decode cX8_isWell 1 = .ok (.getfield 148, 3) := by decide +kernel
theorem dX8_isWell_4 : decode cX8_isWell 4 = .ok (.ifCond .ne 7, 3) := by decide +kernel
theorem dX8_isWell_7 : decode cX8_isWell 7 = .ok (.iconst 1, 1) := by decide +kernel
theorem dX8_isWell_8 : decode cX8_isWell 8 = .ok (.goto 4, 3) := by decide +kernel
theorem dX8_isWell_11 : decode cX8_isWell 11 = .ok (.iconst 0, 1) := by decide +kernel
theorem dX8_isWell_12 : decode cX8_isWell 12 = .ok (.ireturn, 1) := by decide +kernel
theorem dX8_isAt_0 : decode cX8_isAt 0 = .ok (.aload_n 0, 1) := by decide +kernel
theorem dX8_isAt_1 : decode cX8_isAt 1 = .ok (.getfield 23, 3) := by decide +kernel
theorem dX8_isAt_4 : decode cX8_isAt 4 = .ok (.iload_n 1, 1) := by decide +kernel
theorem dX8_isAt_5 : decode cX8_isAt 5 = .ok (.iaload, 1) := by decide +kernel
theorem dX8_isAt_6 : decode cX8_isAt 6 = .ok (.aload_n 0, 1) := by decide +kernel
theorem dX8_isAt_7 : decode cX8_isAt 7 = .ok (.getfield 107, 3) := by decide +kernel
theorem dX8_isAt_10 : decode cX8_isAt 10 = .ok (.aload_n 0, 1) := by decide +kernel
theorem dX8_isAt_11 : decode cX8_isAt 11 = .ok (.getfield 110, 3) := by decide +kernel
theorem dX8_isAt_14 : decode cX8_isAt 14 = .ok (.isub, 1) := by decide +kernel
theorem dX8_isAt_15 : decode cX8_isAt 15 = .ok (.if_icmp .eq 5, 3) := by decide +kernel
theorem dX8_isAt_18 : decode cX8_isAt 18 = .ok (.iconst 0, 1) := by decide +kernel
theorem dX8_isAt_19 : decode cX8_isAt 19 = .ok (.ireturn, 1) := by decide +kernel
theorem dX8_isAt_20 : decode cX8_isAt 20 = .ok (.iconst 0, 1) := by decide +kernel
theorem dX8_isAt_21 : decode cX8_isAt 21 = .ok (.istore_n 2, 1) := by decide +kernel
theorem dX8_isAt_22 : decode cX8_isAt 22 = .ok (.iload_n 2, 1) := by decide +kernel
theorem dX8_isAt_23 : decode cX8_isAt 23 = .ok (.aload_n 0, 1) := by decide +kernel
theorem dX8_isAt_24 : decode cX8_isAt 24 = .ok (.getfield 23, 3) := by decide +kernel
theorem dX8_isAt_27 : decode cX8_isAt 27 = .ok (.iload_n 1, 1) := by decide +kernel
theorem dX8_isAt_28 : decode cX8_isAt 28 = .ok (.iaload, 1) := by decide +kernel
theorem dX8_isAt_29 : decode cX8_isAt 29 = .ok (.if_icmp .ge 36, 3) := by decide +kernel
theorem dX8_isAt_32 : decode cX8_isAt 32 = .ok (.aload_n 0, 1) := by decide +kernel
theorem dX8_isAt_33 : decode cX8_isAt 33 = .ok (.getfield 20, 3) := by decide +kernel
theorem dX8_isAt_36 : decode cX8_isAt 36 = .ok (.bipush 8, 2) := by decide +kernel
theorem dX8_isAt_38 : decode cX8_isAt 38 = .ok (.iload_n 1, 1) := by decide +kernel
theorem dX8_isAt_39 : decode cX8_isAt 39 = .ok (.imul, 1) := by decide +kernel
theorem dX8_isAt_40 : decode cX8_isAt 40 = .ok (.iload_n 2, 1) := by decide +kernel
theorem dX8_isAt_41 : decode cX8_isAt 41 = .ok (.iadd, 1) := by decide +kernel
theorem dX8_isAt_42 : decode cX8_isAt 42 = .ok (.baload, 1) := by decide +kernel
theorem dX8_isAt_43 : decode cX8_isAt 43 = .ok (.aload_n 0, 1) := by decide +kernel
theorem dX8_isAt_44 : decode cX8_isAt 44 = .ok (.getfield 13, 3) := by decide +kernel
theorem dX8_isAt_47 : decode cX8_isAt 47 = .ok (.aload_n 0, 1) := by decide +kernel
theorem dX8_isAt_48 : decode cX8_isAt 48 = .ok (.getfield 110, 3) := by decide +kernel
theorem dX8_isAt_51 : decode cX8_isAt 51 = .ok (.iload_n 2, 1) := by decide +kernel
theorem dX8_isAt_52 : decode cX8_isAt 52 = .ok (.iadd, 1) := by decide +kernel
theorem dX8_isAt_53 : decode cX8_isAt 53 = .ok (.baload, 1) := by decide +kernel
theorem dX8_isAt_54 : decode cX8_isAt 54 = .ok (.if_icmp .eq 5, 3) := by decide +kernel
theorem dX8_isAt_57 : decode cX8_isAt 57 = .ok (.iconst 0, 1) := by decide +kernel
theorem dX8_isAt_58 : decode cX8_isAt 58 = .ok (.ireturn, 1) := by decide +kernel
theorem dX8_isAt_59 : decode cX8_isAt 59 = .ok (.iinc 2 1, 3) := by decide +kernel
theorem dX8_isAt_62 : decode cX8_isAt 62 = .ok (.goto (-40), 3) := by decide +kernel
theorem dX8_isAt_65 : decode cX8_isAt 65 = .ok (.iconst 1, 1) := by decide +kernel
theorem dX8_isAt_66 : decode cX8_isAt 66 = .ok (.ireturn, 1) := by decide +kernel
theorem dX8_roomHere_0 : decode cX8_roomHere 0 = .ok (.iconst 0, 1) := by decide +kernel
theorem dX8_roomHere_1 : decode cX8_roomHere 1 = .ok (.istore_n 1, 1) := by decide +kernel
theorem dX8_roomHere_2 : decode cX8_roomHere 2 = .ok (.iload_n 1, 1) := by decide +kernel
theorem dX8_roomHere_3 : decode cX8_roomHere 3 = .ok (.aload_n 0, 1) := by decide +kernel
theorem dX8_roomHere_4 : decode cX8_roomHere 4 = .ok (.getfield 154, 3) := by decide +kernel
theorem dX8_roomHere_7 : decode cX8_roomHere 7 = .ok (.if_icmp .ge 19, 3) := by decide +kernel
theorem dX8_roomHere_10 : decode cX8_roomHere 10 = .ok (.aload_n 0, 1) := by decide +kernel
theorem dX8_roomHere_11 : decode cX8_roomHere 11 = .ok (.iload_n 1, 1) := by decide +kernel
theorem dX8_roomHere_12 : decode cX8_roomHere 12 = .ok (.invokevirtual 157, 3) := by decide +kernel
theorem dX8_roomHere_15 : decode cX8_roomHere 15 = .ok (.ifCond .eq 5, 3) := by decide +kernel
theorem dX8_roomHere_18 : decode cX8_roomHere 18 = .ok (.iload_n 1, 1) := by decide +kernel
theorem dX8_roomHere_19 : decode cX8_roomHere 19 = .ok (.ireturn, 1) := by decide +kernel
theorem dX8_roomHere_20 : decode cX8_roomHere 20 = .ok (.iinc 1 1, 3) := by decide +kernel
theorem dX8_roomHere_23 : decode cX8_roomHere 23 = .ok (.goto (-21), 3) := by decide +kernel
theorem dX8_roomHere_26 : decode cX8_roomHere 26 = .ok (.iconst (-1), 1) := by decide +kernel
theorem dX8_roomHere_27 : decode cX8_roomHere 27 = .ok (.ireturn, 1) := by decide +kernel
theorem dX8_isDoorHere_0 : decode cX8_isDoorHere 0 = .ok (.iconst 0, 1) := by decide +kernel
theorem dX8_isDoorHere_1 : decode cX8_isDoorHere 1 = .ok (.istore_n 1, 1) := by decide +kernel
theorem dX8_isDoorHere_2 : decode cX8_isDoorHere 2 = .ok (.iload_n 1, 1) := by decide +kernel
theorem dX8_isDoorHere_3 : decode cX8_isDoorHere 3 = .ok (.aload_n 0, 1) := by decide +kernel
theorem dX8_isDoorHere_4 : decode cX8_isDoorHere 4 = .ok (.getfield 160, 3) := by decide +kernel
theorem dX8_isDoorHere_7 : decode cX8_isDoorHere 7 = .ok (.if_icmp .ge 22, 3) := by decide +kernel
theorem dX8_isDoorHere_10 : decode cX8_isDoorHere 10 = .ok (.aload_n 0, 1) := by decide +kernel
theorem dX8_isDoorHere_11 : decode cX8_isDoorHere 11 = .ok (.bipush 8, 2) := by decide +kernel
theorem dX8_isDoorHere_13 : decode cX8_isDoorHere 13 = .ok (.iload_n 1, 1) := by decide +kernel
theorem dX8_isDoorHere_14 : decode cX8_isDoorHere 14 = .ok (.iadd, 1) := by decide +kernel
theorem dX8_isDoorHere_15 : decode cX8_isDoorHere 15 = .ok (.invokevirtual 157, 3) := by decide +kernel
theorem dX8_isDoorHere_18 : decode cX8_isDoorHere 18 = .ok (.ifCond .eq 5, 3) := by decide +kernel
theorem dX8_isDoorHere_21 : decode cX8_isDoorHere 21 = .ok (.iconst 1, 1) := by decide +kernel
theorem dX8_isDoorHere_22 : decode cX8_isDoorHere 22 = .ok (.ireturn, 1) := by decide +kernel
theorem dX8_isDoorHere_23 : decode cX8_isDoorHere 23 = .ok (.iinc 1 1, 3) := by decide +kernel
theorem dX8_isDoorHere_26 : decode cX8_isDoorHere 26 = .ok (.goto (-24), 3) := by decide +kernel
theorem dX8_isDoorHere_29 : decode cX8_isDoorHere 29 = .ok (.iconst 0, 1) := by decide +kernel
theorem dX8_isDoorHere_30 : decode cX8_isDoorHere 30 = .ok (.ireturn, 1) := by decide +kernel
theorem dX8_newName_0 : decode cX8_newName 0 = .ok (.aload_n 0, 1) := by decide +kernel
theorem dX8_newName_1 : decode cX8_newName 1 = .ok (.invokevirtual 163, 3) := by decide +kernel
theorem dX8_newName_4 : decode cX8_newName 4 = .ok (.ifCond .ne 11, 3) := by decide +kernel
theorem dX8_newName_7 : decode cX8_newName 7 = .ok (.aload_n 0, 1) := by decide +kernel
theorem dX8_newName_8 : decode cX8_newName 8 = .ok (.iconst 1, 1) := by decide +kernel
theorem dX8_newName_9 : decode cX8_newName 9 = .ok (.invokevirtual 167, 3) := by decide +kernel
theorem dX8_newName_12 : decode cX8_newName 12 = .ok (.goto 23, 3) := by decide +kernel
theorem dX8_newName_15 : decode cX8_newName 15 = .ok (.aload_n 0, 1) := by decide +kernel
theorem dX8_newName_16 : decode cX8_newName 16 = .ok (.invokevirtual 171, 3) := by decide +kernel
theorem dX8_newName_19 : decode cX8_newName 19 = .ok (.iconst (-1), 1) := by decide +kernel
theorem dX8_newName_20 : decode cX8_newName 20 = .ok (.if_icmp .ne 10, 3) := by decide +kernel
theorem dX8_newName_23 : decode cX8_newName 23 = .ok (.aload_n 0, 1) := by decide +kernel
theorem dX8_newName_24 : decode cX8_newName 24 = .ok (.invokevirtual 174, 3) := by decide +kernel
theorem dX8_newName_27 : decode cX8_newName 27 = .ok (.ifCond .eq 8, 3) := by decide +kernel
theorem dX8_newName_30 : decode cX8_newName 30 = .ok (.aload_n 0, 1) := by decide +kernel
theorem dX8_newName_31 : decode cX8_newName 31 = .ok (.iconst 3, 1) := by decide +kernel
theorem dX8_newName_32 : decode cX8_newName 32 = .ok (.invokevirtual 167, 3) := by decide +kernel
theorem dX8_newName_35 : decode cX8_newName 35 = .ok (.aload_n 0, 1) := by decide +kernel
theorem dX8_newName_36 : decode cX8_newName 36 = .ok (.invokevirtual 177, 3) := by decide +kernel
theorem dX8_newName_39 : decode cX8_newName 39 = .ok (.ifCond .ne 4, 3) := by decide +kernel
theorem dX8_newName_42 : decode cX8_newName 42 = .ok (.return_, 1) := by decide +kernel
theorem dX8_newName_43 : decode cX8_newName 43 = .ok (.aload_n 0, 1) := by decide +kernel
theorem dX8_newName_44 : decode cX8_newName 44 = .ok (.getfield 23, 3) := by decide +kernel
theorem dX8_newName_47 : decode cX8_newName 47 = .ok (.iload_n 1, 1) := by decide +kernel
theorem dX8_newName_48 : decode cX8_newName 48 = .ok (.aload_n 0, 1) := by decide +kernel
theorem dX8_newName_49 : decode cX8_newName 49 = .ok (.getfield 107, 3) := by decide +kernel
theorem dX8_newName_52 : decode cX8_newName 52 = .ok (.aload_n 0, 1) := by decide +kernel
theorem dX8_newName_53 : decode cX8_newName 53 = .ok (.getfield 110, 3) := by decide +kernel
theorem dX8_newName_56 : decode cX8_newName 56 = .ok (.isub, 1) := by decide +kernel
theorem dX8_newName_57 : decode cX8_newName 57 = .ok (.iastore, 1) := by decide +kernel
theorem dX8_newName_58 : decode cX8_newName 58 = .ok (.iconst 0, 1) := by decide +kernel
theorem dX8_newName_59 : decode cX8_newName 59 = .ok (.istore_n 2, 1) := by decide +kernel
theorem dX8_newName_60 : decode cX8_newName 60 = .ok (.iload_n 2, 1) := by decide +kernel
theorem dX8_newName_61 : decode cX8_newName 61 = .ok (.aload_n 0, 1) := by decide +kernel
theorem dX8_newName_62 : decode cX8_newName 62 = .ok (.getfield 23, 3) := by decide +kernel
theorem dX8_newName_65 : decode cX8_newName 65 = .ok (.iload_n 1, 1) := by decide +kernel
theorem dX8_newName_66 : decode cX8_newName 66 = .ok (.iaload, 1) := by decide +kernel
theorem dX8_newName_67 : decode cX8_newName 67 = .ok (.if_icmp .ge 31, 3) := by decide +kernel
theorem dX8_newName_70 : decode cX8_newName 70 = .ok (.aload_n 0, 1) := by decide +kernel
theorem dX8_newName_71 : decode cX8_newName 71 = .ok (.getfield 20, 3) := by decide +kernel
theorem dX8_newName_74 : decode cX8_newName 74 = .ok (.bipush 8, 2) := by decide +kernel
theorem dX8_newName_76 : decode cX8_newName 76 = .ok (.iload_n 1, 1) := by decide +kernel
theorem dX8_newName_77 : decode cX8_newName 77 = .ok (.imul, 1) := by decide +kernel
theorem dX8_newName_78 : decode cX8_newName 78 = .ok (.iload_n 2, 1) := by decide +kernel
theorem dX8_newName_79 : decode cX8_newName 79 = .ok (.iadd, 1) := by decide +kernel
theorem dX8_newName_80 : decode cX8_newName 80 = .ok (.aload_n 0, 1) := by decide +kernel
theorem dX8_newName_81 : decode cX8_newName 81 = .ok (.getfield 13, 3) := by decide +kernel
theorem dX8_newName_84 : decode cX8_newName 84 = .ok (.aload_n 0, 1) := by decide +kernel
theorem dX8_newName_85 : decode cX8_newName 85 = .ok (.getfield 110, 3) := by decide +kernel
theorem dX8_newName_88 : decode cX8_newName 88 = .ok (.iload_n 2, 1) := by decide +kernel
theorem dX8_newName_89 : decode cX8_newName 89 = .ok (.iadd, 1) := by decide +kernel
theorem dX8_newName_90 : decode cX8_newName 90 = .ok (.baload, 1) := by decide +kernel
theorem dX8_newName_91 : decode cX8_newName 91 = .ok (.bastore, 1) := by decide +kernel
theorem dX8_newName_92 : decode cX8_newName 92 = .ok (.iinc 2 1, 3) := by decide +kernel
theorem dX8_newName_95 : decode cX8_newName 95 = .ok (.goto (-35), 3) := by decide +kernel
theorem dX8_newName_98 : decode cX8_newName 98 = .ok (.aload_n 0, 1) := by decide +kernel
theorem dX8_newName_99 : decode cX8_newName 99 = .ok (.invokevirtual 180, 3) := by decide +kernel
theorem dX8_newName_102 : decode cX8_newName 102 = .ok (.return_, 1) := by decide +kernel
theorem dX8_number_0 : decode cX8_number 0 = .ok (.aload_n 0, 1) := by decide +kernel
theorem dX8_number_1 : decode cX8_number 1 = .ok (.invokevirtual 177, 3) := by decide +kernel
theorem dX8_number_4 : decode cX8_number 4 = .ok (.ifCond .ne 5, 3) := by decide +kernel
theorem dX8_number_7 : decode cX8_number 7 = .ok (.iconst 0, 1) := by decide +kernel
theorem dX8_number_8 : decode cX8_number 8 = .ok (.ireturn, 1) := by decide +kernel
theorem dX8_number_9 : decode cX8_number 9 = .ok (.aload_n 0, 1) := by decide +kernel
theorem dX8_number_10 : decode cX8_number 10 = .ok (.getfield 113, 3) := by decide +kernel
theorem dX8_number_13 : decode cX8_number 13 = .ok (.iconst 2, 1) := by decide +kernel
theorem dX8_number_14 : decode cX8_number 14 = .ok (.if_icmp .eq 11, 3) := by decide +kernel
theorem dX8_number_17 : decode cX8_number 17 = .ok (.aload_n 0, 1) := by decide +kernel
theorem dX8_number_18 : decode cX8_number 18 = .ok (.iconst 1, 1) := by decide +kernel
theorem dX8_number_19 : decode cX8_number 19 = .ok (.invokevirtual 167, 3) := by decide +kernel
theorem dX8_number_22 : decode cX8_number 22 = .ok (.goto 16, 3) := by decide +kernel
theorem dX8_number_25 : decode cX8_number 25 = .ok (.aload_n 0, 1) := by decide +kernel
theorem dX8_number_26 : decode cX8_number 26 = .ok (.getfield 127, 3) := by decide +kernel
theorem dX8_number_29 : decode cX8_number 29 = .ok (.iload_n 1, 1) := by decide +kernel
theorem dX8_number_30 : decode cX8_number 30 = .ok (.if_icmp .le 8, 3) := by decide +kernel
theorem dX8_number_33 : decode cX8_number 33 = .ok (.aload_n 0, 1) := by decide +kernel
theorem dX8_number_34 : decode cX8_number 34 = .ok (.iconst 5, 1) := by decide +kernel
theorem dX8_number_35 : decode cX8_number 35 = .ok (.invokevirtual 167, 3) := by decide +kernel
theorem dX8_number_38 : decode cX8_number 38 = .ok (.aload_n 0, 1) := by decide +kernel
theorem dX8_number_39 : decode cX8_number 39 = .ok (.invokevirtual 177, 3) := by decide +kernel
theorem dX8_number_42 : decode cX8_number 42 = .ok (.ifCond .ne 5, 3) := by decide +kernel
theorem dX8_number_45 : decode cX8_number 45 = .ok (.iconst 0, 1) := by decide +kernel
theorem dX8_number_46 : decode cX8_number 46 = .ok (.ireturn, 1) := by decide +kernel
theorem dX8_number_47 : decode cX8_number 47 = .ok (.aload_n 0, 1) := by decide +kernel
theorem dX8_number_48 : decode cX8_number 48 = .ok (.getfield 127, 3) := by decide +kernel
theorem dX8_number_51 : decode cX8_number 51 = .ok (.istore_n 2, 1) := by decide +kernel
theorem dX8_number_52 : decode cX8_number 52 = .ok (.aload_n 0, 1) := by decide +kernel
theorem dX8_number_53 : decode cX8_number 53 = .ok (.invokevirtual 180, 3) := by decide +kernel
theorem dX8_number_56 : decode cX8_number 56 = .ok (.iload_n 2, 1) := by decide +kernel
theorem dX8_number_57 : decode cX8_number 57 = .ok (.ireturn, 1) := by decide +kernel
theorem dX8_ends_0 : decode cX8_ends 0 = .ok (.aload_n 0, 1) := by decide +kernel
theorem dX8_ends_1 : decode cX8_ends 1 = .ok (.invokevirtual 177, 3) := by decide +kernel
theorem dX8_ends_4 : decode cX8_ends 4 = .ok (.ifCond .ne 4, 3) := by decide +kernel
theorem dX8_ends_7 : decode cX8_ends 7 = .ok (.return_, 1) := by decide +kernel
theorem dX8_ends_8 : decode cX8_ends 8 = .ok (.aload_n 0, 1) := by decide +kernel
theorem dX8_ends_9 : decode cX8_ends 9 = .ok (.getfield 113, 3) := by decide +kernel
theorem dX8_ends_12 : decode cX8_ends 12 = .ok (.iconst 4, 1) := by decide +kernel
theorem dX8_ends_13 : decode cX8_ends 13 = .ok (.if_icmp .ne 10, 3) := by decide +kernel
theorem dX8_ends_16 : decode cX8_ends 16 = .ok (.aload_n 0, 1) := by decide +kernel
theorem dX8_ends_17 : decode cX8_ends 17 = .ok (.invokevirtual 180, 3) := by decide +kernel
theorem dX8_ends_20 : decode cX8_ends 20 = .ok (.goto 8, 3) := by decide +kernel
theorem dX8_ends_23 : decode cX8_ends 23 = .ok (.aload_n 0, 1) := by decide +kernel
theorem dX8_ends_24 : decode cX8_ends 24 = .ok (.iconst 1, 1) := by decide +kernel
theorem dX8_ends_25 : decode cX8_ends 25 = .ok (.invokevirtual 167, 3) := by decide +kernel
theorem dX8_ends_28 : decode cX8_ends 28 = .ok (.return_, 1) := by decide +kernel
theorem dX8_roomTold_0 : decode cX8_roomTold 0 = .ok (.aload_n 0, 1) := by decide +kernel
theorem dX8_roomTold_1 : decode cX8_roomTold 1 = .ok (.invokevirtual 177, 3) := by decide +kernel
theorem dX8_roomTold_4 : decode cX8_roomTold 4 = .ok (.ifCond .ne 5, 3) := by decide +kernel
theorem dX8_roomTold_7 : decode cX8_roomTold 7 = .ok (.iconst 0, 1) := by decide +kernel
theorem dX8_roomTold_8 : decode cX8_roomTold 8 = .ok (.ireturn, 1) := by decide +kernel
theorem dX8_roomTold_9 : decode cX8_roomTold 9 = .ok (.aload_n 0, 1) := by decide +kernel
theorem dX8_roomTold_10 : decode cX8_roomTold 10 = .ok (.invokevirtual 163, 3) := by decide +kernel
theorem dX8_roomTold_13 : decode cX8_roomTold 13 = .ok (.ifCond .eq 10, 3) := by decide +kernel
theorem dX8_roomTold_16 : decode cX8_roomTold 16 = .ok (.aload_n 0, 1) := by decide +kernel
theorem dX8_roomTold_17 : decode cX8_roomTold 17 = .ok (.invokevirtual 171, 3) := by decide +kernel
theorem dX8_roomTold_20 : decode cX8_roomTold 20 = .ok (.goto 4, 3) := by decide +kernel
theorem dX8_roomTold_23 : decode cX8_roomTold 23 = .ok (.iconst (-1), 1) := by decide +kernel
theorem dX8_roomTold_24 : decode cX8_roomTold 24 = .ok (.istore_n 2, 1) := by decide +kernel
theorem dX8_roomTold_25 : decode cX8_roomTold 25 = .ok (.aload_n 0, 1) := by decide +kernel
theorem dX8_roomTold_26 : decode cX8_roomTold 26 = .ok (.invokevirtual 163, 3) := by decide +kernel
theorem dX8_roomTold_29 : decode cX8_roomTold 29 = .ok (.ifCond .ne 11, 3) := by decide +kernel
theorem dX8_roomTold_32 : decode cX8_roomTold 32 = .ok (.aload_n 0, 1) := by decide +kernel
theorem dX8_roomTold_33 : decode cX8_roomTold 33 = .ok (.iconst 1, 1) := by decide +kernel
theorem dX8_roomTold_34 : decode cX8_roomTold 34 = .ok (.invokevirtual 167, 3) := by decide +kernel
theorem dX8_roomTold_37 : decode cX8_roomTold 37 = .ok (.goto 18, 3) := by decide +kernel
theorem dX8_roomTold_40 : decode cX8_roomTold 40 = .ok (.iload_n 2, 1) := by decide +kernel
theorem dX8_roomTold_41 : decode cX8_roomTold 41 = .ok (.iconst (-1), 1) := by decide +kernel
theorem dX8_roomTold_42 : decode cX8_roomTold 42 = .ok (.if_icmp .eq 8, 3) := by decide +kernel
theorem dX8_roomTold_45 : decode cX8_roomTold 45 = .ok (.iload_n 2, 1) := by decide +kernel
theorem dX8_roomTold_46 : decode cX8_roomTold 46 = .ok (.iload_n 1, 1) := by decide +kernel
theorem dX8_roomTold_47 : decode cX8_roomTold 47 = .ok (.if_icmp .ne 8, 3) := by decide +kernel
theorem dX8_roomTold_50 : decode cX8_roomTold 50 = .ok (.aload_n 0, 1) := by decide +kernel
theorem dX8_roomTold_51 : decode cX8_roomTold 51 = .ok (.iconst 4, 1) := by decide +kernel
theorem dX8_roomTold_52 : decode cX8_roomTold 52 = .ok (.invokevirtual 167, 3) := by decide +kernel
theorem dX8_roomTold_55 : decode cX8_roomTold 55 = .ok (.aload_n 0, 1) := by decide +kernel
theorem dX8_roomTold_56 : decode cX8_roomTold 56 = .ok (.invokevirtual 177, 3) := by decide +kernel
theorem dX8_roomTold_59 : decode cX8_roomTold 59 = .ok (.ifCond .eq 7, 3) := by decide +kernel
theorem dX8_roomTold_62 : decode cX8_roomTold 62 = .ok (.aload_n 0, 1) := by decide +kernel
theorem dX8_roomTold_63 : decode cX8_roomTold 63 = .ok (.invokevirtual 180, 3) := by decide +kernel
theorem dX8_roomTold_66 : decode cX8_roomTold 66 = .ok (.iload_n 2, 1) := by decide +kernel
theorem dX8_roomTold_67 : decode cX8_roomTold 67 = .ok (.ireturn, 1) := by decide +kernel
theorem dX8_thing_0 : decode cX8_thing 0 = .ok (.aload_n 0, 1) := by decide +kernel
theorem dX8_thing_1 : decode cX8_thing 1 = .ok (.ldc 140, 2) := by decide +kernel
theorem dX8_thing_3 : decode cX8_thing 3 = .ok (.invokevirtual 142, 3) := by decide +kernel
theorem dX8_thing_6 : decode cX8_thing 6 = .ok (.ifCond .eq 61, 3) := by decide +kernel
theorem dX8_thing_9 : decode cX8_thing 9 = .ok (.aload_n 0, 1) := by decide +kernel
theorem dX8_thing_10 : decode cX8_thing 10 = .ok (.getfield 154, 3) := by decide +kernel
theorem dX8_thing_13 : decode cX8_thing 13 = .ok (.bipush 8, 2) := by decide +kernel
theorem dX8_thing_15 : decode cX8_thing 15 = .ok (.if_icmp .ne 9, 3) := by decide +kernel
theorem dX8_thing_18 : decode cX8_thing 18 = .ok (.aload_n 0, 1) := by decide +kernel
theorem dX8_thing_19 : decode cX8_thing 19 = .ok (.iconst 2, 1) := by decide +kernel
theorem dX8_thing_20 : decode cX8_thing 20 = .ok (.invokevirtual 167, 3) := by decide +kernel
theorem dX8_thing_23 : decode cX8_thing 23 = .ok (.return_, 1) := by decide +kernel
theorem dX8_thing_24 : decode cX8_thing 24 = .ok (.aload_n 0, 1) := by decide +kernel
theorem dX8_thing_25 : decode cX8_thing 25 = .ok (.invokevirtual 180, 3) := by decide +kernel
theorem dX8_thing_28 : decode cX8_thing 28 = .ok (.aload_n 0, 1) := by decide +kernel
theorem dX8_thing_29 : decode cX8_thing 29 = .ok (.aload_n 0, 1) := by decide +kernel
theorem dX8_thing_30 : decode cX8_thing 30 = .ok (.getfield 154, 3) := by decide +kernel
theorem dX8_thing_33 : decode cX8_thing 33 = .ok (.invokevirtual 183, 3) := by decide +kernel
theorem dX8_thing_36 : decode cX8_thing 36 = .ok (.aload_n 0, 1) := by decide +kernel
theorem dX8_thing_37 : decode cX8_thing 37 = .ok (.getfield 27, 3) := by decide +kernel
theorem dX8_thing_40 : decode cX8_thing 40 = .ok (.aload_n 0, 1) := by decide +kernel
theorem dX8_thing_41 : decode cX8_thing 41 = .ok (.getfield 154, 3) := by decide +kernel
theorem dX8_thing_44 : decode cX8_thing 44 = .ok (.aload_n 0, 1) := by decide +kernel
theorem dX8_thing_45 : decode cX8_thing 45 = .ok (.iconst 4, 1) := by decide +kernel
theorem dX8_thing_46 : decode cX8_thing 46 = .ok (.invokevirtual 186, 3) := by decide +kernel
theorem dX8_thing_49 : decode cX8_thing 49 = .ok (.iastore, 1) := by decide +kernel
theorem dX8_thing_50 : decode cX8_thing 50 = .ok (.aload_n 0, 1) := by decide +kernel
theorem dX8_thing_51 : decode cX8_thing 51 = .ok (.invokevirtual 189, 3) := by decide +kernel
theorem dX8_thing_54 : decode cX8_thing 54 = .ok (.aload_n 0, 1) := by decide +kernel
theorem dX8_thing_55 : decode cX8_thing 55 = .ok (.dup, 1) := by decide +kernel
theorem dX8_thing_56 : decode cX8_thing 56 = .ok (.getfield 154, 3) := by decide +kernel
theorem dX8_thing_59 : decode cX8_thing 59 = .ok (.iconst 1, 1) := by decide +kernel
theorem dX8_thing_60 : decode cX8_thing 60 = .ok (.iadd, 1) := by decide +kernel
theorem dX8_thing_61 : decode cX8_thing 61 = .ok (.putfield 154, 3) := by decide +kernel
theorem dX8_thing_64 : decode cX8_thing 64 = .ok (.goto 115, 3) := by decide +kernel
theorem dX8_thing_67 : decode cX8_thing 67 = .ok (.aload_n 0, 1) := by decide +kernel
theorem dX8_thing_68 : decode cX8_thing 68 = .ok (.ldc 146, 2) := by decide +kernel
theorem dX8_thing_70 : decode cX8_thing 70 = .ok (.invokevirtual 142, 3) := by decide +kernel
theorem dX8_thing_73 : decode cX8_thing 73 = .ok (.ifCond .eq 101, 3) := by decide +kernel
theorem dX8_thing_76 : decode cX8_thing 76 = .ok (.aload_n 0, 1) := by decide +kernel
theorem dX8_thing_77 : decode cX8_thing 77 = .ok (.getfield 160, 3) := by decide +kernel
theorem dX8_thing_80 : decode cX8_thing 80 = .ok (.bipush 10, 2) := by decide +kernel
theorem dX8_thing_82 : decode cX8_thing 82 = .ok (.if_icmp .ne 9, 3) := by decide +kernel
theorem dX8_thing_85 : decode cX8_thing 85 = .ok (.aload_n 0, 1) := by decide +kernel
theorem dX8_thing_86 : decode cX8_thing 86 = .ok (.iconst 2, 1) := by decide +kernel
theorem dX8_thing_87 : decode cX8_thing 87 = .ok (.invokevirtual 167, 3) := by decide +kernel
theorem dX8_thing_90 : decode cX8_thing 90 = .ok (.return_, 1) := by decide +kernel
theorem dX8_thing_91 : decode cX8_thing 91 = .ok (.aload_n 0, 1) := by decide +kernel
theorem dX8_thing_92 : decode cX8_thing 92 = .ok (.invokevirtual 180, 3) := by decide +kernel
theorem dX8_thing_95 : decode cX8_thing 95 = .ok (.aload_n 0, 1) := by decide +kernel
theorem dX8_thing_96 : decode cX8_thing 96 = .ok (.bipush 8, 2) := by decide +kernel
theorem dX8_thing_98 : decode cX8_thing 98 = .ok (.aload_n 0, 1) := by decide +kernel
theorem dX8_thing_99 : decode cX8_thing 99 = .ok (.getfield 160, 3) := by decide +kernel
theorem dX8_thing_102 : decode cX8_thing 102 = .ok (.iadd, 1) := by decide +kernel
theorem dX8_thing_103 : decode cX8_thing 103 = .ok (.invokevirtual 183, 3) := by decide +kernel
theorem dX8_thing_106 : decode cX8_thing 106 = .ok (.aload_n 0, 1) := by decide +kernel
theorem dX8_thing_107 : decode cX8_thing 107 = .ok (.getfield 30, 3) := by decide +kernel
theorem dX8_thing_110 : decode cX8_thing 110 = .ok (.aload_n 0, 1) := by decide +kernel
theorem dX8_thing_111 : decode cX8_thing 111 = .ok (.getfield 160, 3) := by decide +kernel
theorem dX8_thing_114 : decode cX8_thing 114 = .ok (.aload_n 0, 1) := by decide +kernel
theorem dX8_thing_115 : decode cX8_thing 115 = .ok (.iconst (-1), 1) := by decide +kernel
theorem dX8_thing_116 : decode cX8_thing 116 = .ok (.invokevirtual 192, 3) := by decide +kernel
theorem dX8_thing_119 : decode cX8_thing 119 = .ok (.iastore, 1) := by decide +kernel
theorem dX8_thing_120 : decode cX8_thing 120 = .ok (.aload_n 0, 1) := by decide +kernel
theorem dX8_thing_121 : decode cX8_thing 121 = .ok (.getfield 33, 3) := by decide +kernel
theorem dX8_thing_124 : decode cX8_thing 124 = .ok (.aload_n 0, 1) := by decide +kernel
theorem dX8_thing_125 : decode cX8_thing 125 = .ok (.getfield 160, 3) := by decide +kernel
theorem dX8_thing_128 : decode cX8_thing 128 = .ok (.aload_n 0, 1) := by decide +kernel
theorem dX8_thing_129 : decode cX8_thing 129 = .ok (.aload_n 0, 1) := by decide +kernel
theorem dX8_thing_130 : decode cX8_thing 130 = .ok (.getfield 30, 3) := by decide +kernel
theorem dX8_thing_133 : decode cX8_thing 133 = .ok (.aload_n 0, 1) := by decide +kernel
theorem dX8_thing_134 : decode cX8_thing 134 = .ok (.getfield 160, 3) := by decide +kernel
theorem dX8_thing_137 : decode cX8_thing 137 = .ok (.iaload, 1) := by decide +kernel
theorem dX8_thing_138 : decode cX8_thing 138 = .ok (.invokevirtual 192, 3) := by decide +kernel
theorem dX8_thing_141 : decode cX8_thing 141 = .ok (.iastore, 1) := by decide +kernel
theorem dX8_thing_142 : decode cX8_thing 142 = .ok (.aload_n 0, 1) := by decide +kernel
theorem dX8_thing_143 : decode cX8_thing 143 = .ok (.getfield 36, 3) := by decide +kernel
theorem dX8_thing_146 : decode cX8_thing 146 = .ok (.aload_n 0, 1) := by decide +kernel
theorem dX8_thing_147 : decode cX8_thing 147 = .ok (.getfield 160, 3) := by decide +kernel
theorem dX8_thing_150 : decode cX8_thing 150 = .ok (.aload_n 0, 1) := by decide +kernel
theorem dX8_thing_151 : decode cX8_thing 151 = .ok (.bipush 6, 2) := by decide +kernel
theorem dX8_thing_153 : decode cX8_thing 153 = .ok (.invokevirtual 186, 3) := by decide +kernel
theorem dX8_thing_156 : decode cX8_thing 156 = .ok (.iastore, 1) := by decide +kernel
theorem dX8_thing_157 : decode cX8_thing 157 = .ok (.aload_n 0, 1) := by decide +kernel
theorem dX8_thing_158 : decode cX8_thing 158 = .ok (.invokevirtual 189, 3) := by decide +kernel
theorem dX8_thing_161 : decode cX8_thing 161 = .ok (.aload_n 0, 1) := by decide +kernel
theorem dX8_thing_162 : decode cX8_thing 162 = .ok (.dup, 1) := by decide +kernel
theorem dX8_thing_163 : decode cX8_thing 163 = .ok (.getfield 160, 3) := by decide +kernel
theorem dX8_thing_166 : decode cX8_thing 166 = .ok (.iconst 1, 1) := by decide +kernel
theorem dX8_thing_167 : decode cX8_thing 167 = .ok (.iadd, 1) := by decide +kernel
theorem dX8_thing_168 : decode cX8_thing 168 = .ok (.putfield 160, 3) := by decide +kernel
theorem dX8_thing_171 : decode cX8_thing 171 = .ok (.goto 8, 3) := by decide +kernel
theorem dX8_thing_174 : decode cX8_thing 174 = .ok (.aload_n 0, 1) := by decide +kernel
theorem dX8_thing_175 : decode cX8_thing 175 = .ok (.iconst 1, 1) := by decide +kernel
theorem dX8_thing_176 : decode cX8_thing 176 = .ok (.invokevirtual 167, 3) := by decide +kernel
theorem dX8_thing_179 : decode cX8_thing 179 = .ok (.return_, 1) := by decide +kernel
theorem dX8_building_0 : decode cX8_building 0 = .ok (.aload_n 0, 1) := by decide +kernel
theorem dX8_building_1 : decode cX8_building 1 = .ok (.iconst 0, 1) := by decide +kernel
theorem dX8_building_2 : decode cX8_building 2 = .ok (.putfield 1, 3) := by decide +kernel
theorem dX8_building_5 : decode cX8_building 5 = .ok (.aload_n 0, 1) := by decide +kernel
theorem dX8_building_6 : decode cX8_building 6 = .ok (.iconst 0, 1) := by decide +kernel
theorem dX8_building_7 : decode cX8_building 7 = .ok (.putfield 148, 3) := by decide +kernel
theorem dX8_building_10 : decode cX8_building 10 = .ok (.aload_n 0, 1) := by decide +kernel
theorem dX8_building_11 : decode cX8_building 11 = .ok (.iconst 0, 1) := by decide +kernel
theorem dX8_building_12 : decode cX8_building 12 = .ok (.putfield 154, 3) := by decide +kernel
theorem dX8_building_15 : decode cX8_building 15 = .ok (.aload_n 0, 1) := by decide +kernel
theorem dX8_building_16 : decode cX8_building 16 = .ok (.iconst 0, 1) := by decide +kernel
theorem dX8_building_17 : decode cX8_building 17 = .ok (.putfield 160, 3) := by decide +kernel
theorem dX8_building_20 : decode cX8_building 20 = .ok (.aload_n 0, 1) := by decide +kernel
theorem dX8_building_21 : decode cX8_building 21 = .ok (.iconst 0, 1) := by decide +kernel
theorem dX8_building_22 : decode cX8_building 22 = .ok (.putfield 107, 3) := by decide +kernel
theorem dX8_building_25 : decode cX8_building 25 = .ok (.aload_n 0, 1) := by decide +kernel
theorem dX8_building_26 : decode cX8_building 26 = .ok (.invokevirtual 180, 3) := by decide +kernel
theorem dX8_building_29 : decode cX8_building 29 = .ok (.aload_n 0, 1) := by decide +kernel
theorem dX8_building_30 : decode cX8_building 30 = .ok (.invokevirtual 177, 3) := by decide +kernel
theorem dX8_building_33 : decode cX8_building 33 = .ok (.ifCond .eq 17, 3) := by decide +kernel
theorem dX8_building_36 : decode cX8_building 36 = .ok (.aload_n 0, 1) := by decide +kernel
theorem dX8_building_37 : decode cX8_building 37 = .ok (.getfield 113, 3) := by decide +kernel
theorem dX8_building_40 : decode cX8_building 40 = .ok (.ifCond .eq 10, 3) := by decide +kernel
theorem dX8_building_43 : decode cX8_building 43 = .ok (.aload_n 0, 1) := by decide +kernel
theorem dX8_building_44 : decode cX8_building 44 = .ok (.invokevirtual 195, 3) := by decide +kernel
theorem dX8_building_47 : decode cX8_building 47 = .ok (.goto (-18), 3) := by decide +kernel
theorem dX8_building_50 : decode cX8_building 50 = .ok (.aload_n 0, 1) := by decide +kernel
theorem dX8_building_51 : decode cX8_building 51 = .ok (.invokevirtual 177, 3) := by decide +kernel
theorem dX8_building_54 : decode cX8_building 54 = .ok (.ifCond .eq 17, 3) := by decide +kernel
theorem dX8_building_57 : decode cX8_building 57 = .ok (.aload_n 0, 1) := by decide +kernel
theorem dX8_building_58 : decode cX8_building 58 = .ok (.getfield 154, 3) := by decide +kernel
theorem dX8_building_61 : decode cX8_building 61 = .ok (.iconst 2, 1) := by decide +kernel
theorem dX8_building_62 : decode cX8_building 62 = .ok (.if_icmp .ge 9, 3) := by decide +kernel
theorem dX8_building_65 : decode cX8_building 65 = .ok (.aload_n 0, 1) := by decide +kernel
theorem dX8_building_66 : decode cX8_building 66 = .ok (.bipush 6, 2) := by decide +kernel
theorem dX8_building_68 : decode cX8_building 68 = .ok (.invokevirtual 167, 3) := by decide +kernel
theorem dX8_building_71 : decode cX8_building 71 = .ok (.aload_n 0, 1) := by decide +kernel
theorem dX8_building_72 : decode cX8_building 72 = .ok (.iconst 0, 1) := by decide +kernel
theorem dX8_building_73 : decode cX8_building 73 = .ok (.putfield 104, 3) := by decide +kernel
theorem dX8_building_76 : decode cX8_building 76 = .ok (.aload_n 0, 1) := by decide +kernel
theorem dX8_building_77 : decode cX8_building 77 = .ok (.aload_n 0, 1) := by decide +kernel
theorem dX8_building_78 : decode cX8_building 78 = .ok (.invokevirtual 177, 3) := by decide +kernel
theorem dX8_building_81 : decode cX8_building 81 = .ok (.ifCond .eq 7, 3) := by decide +kernel
theorem dX8_building_84 : decode cX8_building 84 = .ok (.iconst (-1), 1) := by decide +kernel
theorem dX8_building_85 : decode cX8_building 85 = .ok (.goto 7, 3) := by decide +kernel
theorem dX8_building_88 : decode cX8_building 88 = .ok (.aload_n 0, 1) := by decide +kernel
theorem dX8_building_89 : decode cX8_building 89 = .ok (.getfield 151, 3) := by decide +kernel
theorem dX8_building_92 : decode cX8_building 92 = .ok (.putfield 17, 3) := by decide +kernel
theorem dX8_building_95 : decode cX8_building 95 = .ok (.aload_n 0, 1) := by decide +kernel
theorem dX8_building_96 : decode cX8_building 96 = .ok (.invokevirtual 177, 3) := by decide +kernel
theorem dX8_building_99 : decode cX8_building 99 = .ok (.ifCond .ne 10, 3) := by decide +kernel
theorem dX8_building_102 : decode cX8_building 102 = .ok (.iconst (-1), 1) := by decide +kernel
theorem dX8_building_103 : decode cX8_building 103 = .ok (.aload_n 0, 1) := by decide +kernel
theorem dX8_building_104 : decode cX8_building 104 = .ok (.getfield 148, 3) := by decide +kernel
theorem dX8_building_107 : decode cX8_building 107 = .ok (.isub, 1) := by decide +kernel
theorem dX8_building_108 : decode cX8_building 108 = .ok (.ireturn, 1) := by decide +kernel
theorem dX8_building_109 : decode cX8_building 109 = .ok (.aload_n 0, 1) := by decide +kernel
theorem dX8_building_110 : decode cX8_building 110 = .ok (.aload_n 0, 1) := by decide +kernel
theorem dX8_building_111 : decode cX8_building 111 = .ok (.getfield 154, 3) := by decide +kernel
theorem dX8_building_114 : decode cX8_building 114 = .ok (.putfield 198, 3) := by decide +kernel
theorem dX8_building_117 : decode cX8_building 117 = .ok (.aload_n 0, 1) := by decide +kernel
theorem dX8_building_118 : decode cX8_building 118 = .ok (.aload_n 0, 1) := by decide +kernel
theorem dX8_building_119 : decode cX8_building 119 = .ok (.getfield 160, 3) := by decide +kernel
theorem dX8_building_122 : decode cX8_building 122 = .ok (.putfield 201, 3) := by decide +kernel
theorem dX8_building_125 : decode cX8_building 125 = .ok (.iconst 0, 1) := by decide +kernel
theorem dX8_building_126 : decode cX8_building 126 = .ok (.istore_n 1, 1) := by decide +kernel
theorem dX8_building_127 : decode cX8_building 127 = .ok (.iload_n 1, 1) := by decide +kernel
theorem dX8_building_128 : decode cX8_building 128 = .ok (.aload_n 0, 1) := by decide +kernel
theorem dX8_building_129 : decode cX8_building 129 = .ok (.getfield 198, 3) := by decide +kernel
theorem dX8_building_132 : decode cX8_building 132 = .ok (.if_icmp .ge 21, 3) := by decide +kernel
theorem dX8_building_135 : decode cX8_building 135 = .ok (.aload_n 0, 1) := by decide +kernel
theorem dX8_building_136 : decode cX8_building 136 = .ok (.getfield 39, 3) := by decide +kernel
theorem dX8_building_139 : decode cX8_building 139 = .ok (.iload_n 1, 1) := by decide +kernel
theorem dX8_building_140 : decode cX8_building 140 = .ok (.aload_n 0, 1) := by decide +kernel
theorem dX8_building_141 : decode cX8_building 141 = .ok (.getfield 27, 3) := by decide +kernel
theorem dX8_building_144 : decode cX8_building 144 = .ok (.iload_n 1, 1) := by decide +kernel
theorem dX8_building_145 : decode cX8_building 145 = .ok (.iaload, 1) := by decide +kernel
theorem dX8_building_146 : decode cX8_building 146 = .ok (.iastore, 1) := by decide +kernel
theorem dX8_building_147 : decode cX8_building 147 = .ok (.iinc 1 1, 3) := by decide +kernel
theorem dX8_building_150 : decode cX8_building 150 = .ok (.goto (-23), 3) := by decide +kernel
theorem dX8_building_153 : decode cX8_building 153 = .ok (.iconst 0, 1) := by decide +kernel
theorem dX8_building_154 : decode cX8_building 154 = .ok (.istore_n 1, 1) := by decide +kernel
theorem dX8_building_155 : decode cX8_building 155 = .ok (.iload_n 1, 1) := by decide +kernel
theorem dX8_building_156 : decode cX8_building 156 = .ok (.aload_n 0, 1) := by decide +kernel
theorem dX8_building_157 : decode cX8_building 157 = .ok (.getfield 201, 3) := by decide +kernel
theorem dX8_building_160 : decode cX8_building 160 = .ok (.if_icmp .ge 45, 3) := by decide +kernel
theorem dX8_building_163 : decode cX8_building 163 = .ok (.aload_n 0, 1) := by decide +kernel
theorem dX8_building_164 : decode cX8_building 164 = .ok (.getfield 42, 3) := by decide +kernel
theorem dX8_building_167 : decode cX8_building 167 = .ok (.iload_n 1, 1) := by decide +kernel
theorem dX8_building_168 : decode cX8_building 168 = .ok (.aload_n 0, 1) := by decide +kernel
theorem dX8_building_169 : decode cX8_building 169 = .ok (.getfield 30, 3) := by decide +kernel
theorem dX8_building_172 : decode cX8_building 172 = .ok (.iload_n 1, 1) := by decide +kernel
theorem dX8_building_173 : decode cX8_building 173 = .ok (.iaload, 1) := by decide +kernel
theorem dX8_building_174 : decode cX8_building 174 = .ok (.iastore, 1) := by decide +kernel
theorem dX8_building_175 : decode cX8_building 175 = .ok (.aload_n 0, 1) := by decide +kernel
theorem dX8_building_176 : decode cX8_building 176 = .ok (.getfield 45, 3) := by decide +kernel
theorem dX8_building_179 : decode cX8_building 179 = .ok (.iload_n 1, 1) := by decide +kernel
theorem dX8_building_180 : decode cX8_building 180 = .ok (.aload_n 0, 1) := by decide +kernel
theorem dX8_building_181 : decode cX8_building 181 = .ok (.getfield 33, 3) := by decide +kernel
theorem dX8_building_184 : decode cX8_building 184 = .ok (.iload_n 1, 1) := by decide +kernel
theorem dX8_building_185 : decode cX8_building 185 = .ok (.iaload, 1) := by decide +kernel
