theorem dX8_building_186 : decode cX8_building 186 = .ok (.iastore, 1) := by decide +kernel
theorem dX8_building_187 : decode cX8_building 187 = .ok (.aload_n 0, 1) := by decide +kernel
theorem dX8_building_188 : decode cX8_building 188 = .ok (.getfield 48, 3) := by decide +kernel
theorem dX8_building_191 : decode cX8_building 191 = .ok (.iload_n 1, 1) := by decide +kernel
theorem dX8_building_192 : decode cX8_building 192 = .ok (.aload_n 0, 1) := by decide +kernel
theorem dX8_building_193 : decode cX8_building 193 = .ok (.getfield 36, 3) := by decide +kernel
theorem dX8_building_196 : decode cX8_building 196 = .ok (.iload_n 1, 1) := by decide +kernel
theorem dX8_building_197 : decode cX8_building 197 = .ok (.iaload, 1) := by decide +kernel
theorem dX8_building_198 : decode cX8_building 198 = .ok (.iastore, 1) := by decide +kernel
theorem dX8_building_199 : decode cX8_building 199 = .ok (.iinc 1 1, 3) := by decide +kernel
theorem dX8_building_202 : decode cX8_building 202 = .ok (.goto (-47), 3) := by decide +kernel
theorem dX8_building_205 : decode cX8_building 205 = .ok (.aload_n 0, 1) := by decide +kernel
theorem dX8_building_206 : decode cX8_building 206 = .ok (.iconst 0, 1) := by decide +kernel
theorem dX8_building_207 : decode cX8_building 207 = .ok (.putfield 204, 3) := by decide +kernel
theorem dX8_building_210 : decode cX8_building 210 = .ok (.aload_n 0, 1) := by decide +kernel
theorem dX8_building_211 : decode cX8_building 211 = .ok (.iconst 0, 1) := by decide +kernel
theorem dX8_building_212 : decode cX8_building 212 = .ok (.putfield 207, 3) := by decide +kernel
theorem dX8_building_215 : decode cX8_building 215 = .ok (.aload_n 0, 1) := by decide +kernel
theorem dX8_building_216 : decode cX8_building 216 = .ok (.iconst 0, 1) := by decide +kernel
theorem dX8_building_217 : decode cX8_building 217 = .ok (.putfield 210, 3) := by decide +kernel
theorem dX8_building_220 : decode cX8_building 220 = .ok (.aload_n 0, 1) := by decide +kernel
theorem dX8_building_221 : decode cX8_building 221 = .ok (.getfield 198, 3) := by decide +kernel
theorem dX8_building_224 : decode cX8_building 224 = .ok (.ireturn, 1) := by decide +kernel
theorem dX8_place_0 : decode cX8_place 0 = .ok (.aload_n 0, 1) := by decide +kernel
theorem dX8_place_1 : decode cX8_place 1 = .ok (.iconst 0, 1) := by decide +kernel
theorem dX8_place_2 : decode cX8_place 2 = .ok (.putfield 1, 3) := by decide +kernel
theorem dX8_place_5 : decode cX8_place 5 = .ok (.aload_n 0, 1) := by decide +kernel
theorem dX8_place_6 : decode cX8_place 6 = .ok (.getfield 17, 3) := by decide +kernel
theorem dX8_place_9 : decode cX8_place 9 = .ok (.ireturn, 1) := by decide +kernel
theorem dX8_isCard_0 : decode cX8_isCard 0 = .ok (.iload_n 1, 1) := by decide +kernel
theorem dX8_isCard_1 : decode cX8_isCard 1 = .ok (.ifCond .lt 15, 3) := by decide +kernel
theorem dX8_isCard_4 : decode cX8_isCard 4 = .ok (.iload_n 1, 1) := by decide +kernel
theorem dX8_isCard_5 : decode cX8_isCard 5 = .ok (.aload_n 0, 1) := by decide +kernel
theorem dX8_isCard_6 : decode cX8_isCard 6 = .ok (.getfield 204, 3) := by decide +kernel
theorem dX8_isCard_9 : decode cX8_isCard 9 = .ok (.if_icmp .ge 7, 3) := by decide +kernel
theorem dX8_isCard_12 : decode cX8_isCard 12 = .ok (.iconst 1, 1) := by decide +kernel
theorem dX8_isCard_13 : decode cX8_isCard 13 = .ok (.goto 4, 3) := by decide +kernel
theorem dX8_isCard_16 : decode cX8_isCard 16 = .ok (.iconst 0, 1) := by decide +kernel
theorem dX8_isCard_17 : decode cX8_isCard 17 = .ok (.ireturn, 1) := by decide +kernel
theorem dX8_isRoom_0 : decode cX8_isRoom 0 = .ok (.iload_n 1, 1) := by decide +kernel
theorem dX8_isRoom_1 : decode cX8_isRoom 1 = .ok (.ifCond .lt 15, 3) := by decide +kernel
theorem dX8_isRoom_4 : decode cX8_isRoom 4 = .ok (.iload_n 1, 1) := by decide +kernel
theorem dX8_isRoom_5 : decode cX8_isRoom 5 = .ok (.aload_n 0, 1) := by decide +kernel
theorem dX8_isRoom_6 : decode cX8_isRoom 6 = .ok (.getfield 198, 3) := by decide +kernel
theorem dX8_isRoom_9 : decode cX8_isRoom 9 = .ok (.if_icmp .ge 7, 3) := by decide +kernel
theorem dX8_isRoom_12 : decode cX8_isRoom 12 = .ok (.iconst 1, 1) := by decide +kernel
theorem dX8_isRoom_13 : decode cX8_isRoom 13 = .ok (.goto 4, 3) := by decide +kernel
theorem dX8_isRoom_16 : decode cX8_isRoom 16 = .ok (.iconst 0, 1) := by decide +kernel
theorem dX8_isRoom_17 : decode cX8_isRoom 17 = .ok (.ireturn, 1) := by decide +kernel
theorem dX8_isTick_0 : decode cX8_isTick 0 = .ok (.iload_n 0, 1) := by decide +kernel
theorem dX8_isTick_1 : decode cX8_isTick 1 = .ok (.ifCond .lt 14, 3) := by decide +kernel
theorem dX8_isTick_4 : decode cX8_isTick 4 = .ok (.iload_n 0, 1) := by decide +kernel
theorem dX8_isTick_5 : decode cX8_isTick 5 = .ok (.sipush 200, 3) := by decide +kernel
theorem dX8_isTick_8 : decode cX8_isTick 8 = .ok (.if_icmp .ge 7, 3) := by decide +kernel
theorem dX8_isTick_11 : decode cX8_isTick 11 = .ok (.iconst 1, 1) := by decide +kernel
theorem dX8_isTick_12 : decode cX8_isTick 12 = .ok (.goto 4, 3) := by decide +kernel
theorem dX8_isTick_15 : decode cX8_isTick 15 = .ok (.iconst 0, 1) := by decide +kernel
theorem dX8_isTick_16 : decode cX8_isTick 16 = .ok (.ireturn, 1) := by decide +kernel
theorem dX8_card_0 : decode cX8_card 0 = .ok (.aload_n 0, 1) := by decide +kernel
theorem dX8_card_1 : decode cX8_card 1 = .ok (.iconst 0, 1) := by decide +kernel
theorem dX8_card_2 : decode cX8_card 2 = .ok (.putfield 1, 3) := by decide +kernel
theorem dX8_card_5 : decode cX8_card 5 = .ok (.aload_n 0, 1) := by decide +kernel
theorem dX8_card_6 : decode cX8_card 6 = .ok (.getfield 198, 3) := by decide +kernel
theorem dX8_card_9 : decode cX8_card 9 = .ok (.ifCond .eq 12, 3) := by decide +kernel
theorem dX8_card_12 : decode cX8_card 12 = .ok (.aload_n 0, 1) := by decide +kernel
theorem dX8_card_13 : decode cX8_card 13 = .ok (.getfield 204, 3) := by decide +kernel
theorem dX8_card_16 : decode cX8_card 16 = .ok (.bipush 10, 2) := by decide +kernel
theorem dX8_card_18 : decode cX8_card 18 = .ok (.if_icmp .ne 5, 3) := by decide +kernel
theorem dX8_card_21 : decode cX8_card 21 = .ok (.iconst (-1), 1) := by decide +kernel
theorem dX8_card_22 : decode cX8_card 22 = .ok (.ireturn, 1) := by decide +kernel
theorem dX8_card_23 : decode cX8_card 23 = .ok (.aload_n 0, 1) := by decide +kernel
theorem dX8_card_24 : decode cX8_card 24 = .ok (.dup, 1) := by decide +kernel
theorem dX8_card_25 : decode cX8_card 25 = .ok (.getfield 204, 3) := by decide +kernel
theorem dX8_card_28 : decode cX8_card 28 = .ok (.iconst 1, 1) := by decide +kernel
theorem dX8_card_29 : decode cX8_card 29 = .ok (.iadd, 1) := by decide +kernel
theorem dX8_card_30 : decode cX8_card 30 = .ok (.putfield 204, 3) := by decide +kernel
theorem dX8_card_33 : decode cX8_card 33 = .ok (.aload_n 0, 1) := by decide +kernel
theorem dX8_card_34 : decode cX8_card 34 = .ok (.getfield 204, 3) := by decide +kernel
theorem dX8_card_37 : decode cX8_card 37 = .ok (.iconst 1, 1) := by decide +kernel
theorem dX8_card_38 : decode cX8_card 38 = .ok (.isub, 1) := by decide +kernel
theorem dX8_card_39 : decode cX8_card 39 = .ok (.ireturn, 1) := by decide +kernel
theorem dX8_log_0 : decode cX8_log 0 = .ok (.aload_n 0, 1) := by decide +kernel
theorem dX8_log_1 : decode cX8_log 1 = .ok (.getfield 51, 3) := by decide +kernel
theorem dX8_log_4 : decode cX8_log 4 = .ok (.aload_n 0, 1) := by decide +kernel
theorem dX8_log_5 : decode cX8_log 5 = .ok (.getfield 207, 3) := by decide +kernel
theorem dX8_log_8 : decode cX8_log 8 = .ok (.iload_n 1, 1) := by decide +kernel
theorem dX8_log_9 : decode cX8_log 9 = .ok (.iastore, 1) := by decide +kernel
theorem dX8_log_10 : decode cX8_log 10 = .ok (.aload_n 0, 1) := by decide +kernel
theorem dX8_log_11 : decode cX8_log 11 = .ok (.getfield 54, 3) := by decide +kernel
theorem dX8_log_14 : decode cX8_log 14 = .ok (.aload_n 0, 1) := by decide +kernel
theorem dX8_log_15 : decode cX8_log 15 = .ok (.getfield 207, 3) := by decide +kernel
theorem dX8_log_18 : decode cX8_log 18 = .ok (.iload_n 2, 1) := by decide +kernel
theorem dX8_log_19 : decode cX8_log 19 = .ok (.iastore, 1) := by decide +kernel
theorem dX8_log_20 : decode cX8_log 20 = .ok (.aload_n 0, 1) := by decide +kernel
theorem dX8_log_21 : decode cX8_log 21 = .ok (.getfield 57, 3) := by decide +kernel
theorem dX8_log_24 : decode cX8_log 24 = .ok (.aload_n 0, 1) := by decide +kernel
theorem dX8_log_25 : decode cX8_log 25 = .ok (.getfield 207, 3) := by decide +kernel
theorem dX8_log_28 : decode cX8_log 28 = .ok (.iload_n 3, 1) := by decide +kernel
theorem dX8_log_29 : decode cX8_log 29 = .ok (.iastore, 1) := by decide +kernel
theorem dX8_log_30 : decode cX8_log 30 = .ok (.aload_n 0, 1) := by decide +kernel
theorem dX8_log_31 : decode cX8_log 31 = .ok (.getfield 60, 3) := by decide +kernel
theorem dX8_log_34 : decode cX8_log 34 = .ok (.aload_n 0, 1) := by decide +kernel
theorem dX8_log_35 : decode cX8_log 35 = .ok (.getfield 207, 3) := by decide +kernel
theorem dX8_log_38 : decode cX8_log 38 = .ok (.iload 4, 2) := by decide +kernel
theorem dX8_log_40 : decode cX8_log 40 = .ok (.iastore, 1) := by decide +kernel
theorem dX8_log_41 : decode cX8_log 41 = .ok (.aload_n 0, 1) := by decide +kernel
theorem dX8_log_42 : decode cX8_log 42 = .ok (.getfield 63, 3) := by decide +kernel
theorem dX8_log_45 : decode cX8_log 45 = .ok (.aload_n 0, 1) := by decide +kernel
theorem dX8_log_46 : decode cX8_log 46 = .ok (.getfield 207, 3) := by decide +kernel
theorem dX8_log_49 : decode cX8_log 49 = .ok (.iload 5, 2) := by decide +kernel
theorem dX8_log_51 : decode cX8_log 51 = .ok (.iastore, 1) := by decide +kernel
theorem dX8_log_52 : decode cX8_log 52 = .ok (.aload_n 0, 1) := by decide +kernel
theorem dX8_log_53 : decode cX8_log 53 = .ok (.dup, 1) := by decide +kernel
theorem dX8_log_54 : decode cX8_log 54 = .ok (.getfield 207, 3) := by decide +kernel
theorem dX8_log_57 : decode cX8_log 57 = .ok (.iconst 1, 1) := by decide +kernel
theorem dX8_log_58 : decode cX8_log 58 = .ok (.iadd, 1) := by decide +kernel
theorem dX8_log_59 : decode cX8_log 59 = .ok (.putfield 207, 3) := by decide +kernel
theorem dX8_log_62 : decode cX8_log 62 = .ok (.aload_n 0, 1) := by decide +kernel
theorem dX8_log_63 : decode cX8_log 63 = .ok (.getfield 207, 3) := by decide +kernel
theorem dX8_log_66 : decode cX8_log 66 = .ok (.iconst 1, 1) := by decide +kernel
theorem dX8_log_67 : decode cX8_log 67 = .ok (.isub, 1) := by decide +kernel
theorem dX8_log_68 : decode cX8_log 68 = .ok (.ireturn, 1) := by decide +kernel
theorem dX8_pass_0 : decode cX8_pass 0 = .ok (.aload_n 0, 1) := by decide +kernel
theorem dX8_pass_1 : decode cX8_pass 1 = .ok (.iconst 0, 1) := by decide +kernel
theorem dX8_pass_2 : decode cX8_pass 2 = .ok (.putfield 1, 3) := by decide +kernel
theorem dX8_pass_5 : decode cX8_pass 5 = .ok (.aload_n 0, 1) := by decide +kernel
theorem dX8_pass_6 : decode cX8_pass 6 = .ok (.iload_n 1, 1) := by decide +kernel
theorem dX8_pass_7 : decode cX8_pass 7 = .ok (.invokevirtual 213, 3) := by decide +kernel
theorem dX8_pass_10 : decode cX8_pass 10 = .ok (.ifCond .eq 34, 3) := by decide +kernel
theorem dX8_pass_13 : decode cX8_pass 13 = .ok (.iload_n 2, 1) := by decide +kernel
theorem dX8_pass_14 : decode cX8_pass 14 = .ok (.iconst 0, 1) := by decide +kernel
theorem dX8_pass_15 : decode cX8_pass 15 = .ok (.aload_n 0, 1) := by decide +kernel
theorem dX8_pass_16 : decode cX8_pass 16 = .ok (.getfield 201, 3) := by decide +kernel
theorem dX8_pass_19 : decode cX8_pass 19 = .ok (.iconst 1, 1) := by decide +kernel
theorem dX8_pass_20 : decode cX8_pass 20 = .ok (.isub, 1) := by decide +kernel
theorem dX8_pass_21 : decode cX8_pass 21 = .ok (.invokestatic 216, 3) := by decide +kernel
theorem dX8_pass_24 : decode cX8_pass 24 = .ok (.ifCond .eq 20, 3) := by decide +kernel
theorem dX8_pass_27 : decode cX8_pass 27 = .ok (.iload 4, 2) := by decide +kernel
theorem dX8_pass_29 : decode cX8_pass 29 = .ok (.invokestatic 220, 3) := by decide +kernel
theorem dX8_pass_32 : decode cX8_pass 32 = .ok (.ifCond .eq 12, 3) := by decide +kernel
theorem dX8_pass_35 : decode cX8_pass 35 = .ok (.aload_n 0, 1) := by decide +kernel
theorem dX8_pass_36 : decode cX8_pass 36 = .ok (.getfield 207, 3) := by decide +kernel
theorem dX8_pass_39 : decode cX8_pass 39 = .ok (.bipush 100, 2) := by decide +kernel
theorem dX8_pass_41 : decode cX8_pass 41 = .ok (.if_icmp .ne 5, 3) := by decide +kernel
theorem dX8_pass_44 : decode cX8_pass 44 = .ok (.iconst (-1), 1) := by decide +kernel
theorem dX8_pass_45 : decode cX8_pass 45 = .ok (.ireturn, 1) := by decide +kernel
theorem dX8_pass_46 : decode cX8_pass 46 = .ok (.iconst 0, 1) := by decide +kernel
theorem dX8_pass_47 : decode cX8_pass 47 = .ok (.istore 5, 2) := by decide +kernel
theorem dX8_pass_49 : decode cX8_pass 49 = .ok (.iconst 0, 1) := by decide +kernel
theorem dX8_pass_50 : decode cX8_pass 50 = .ok (.istore 6, 2) := by decide +kernel
theorem dX8_pass_52 : decode cX8_pass 52 = .ok (.iload 6, 2) := by decide +kernel
theorem dX8_pass_54 : decode cX8_pass 54 = .ok (.aload_n 0, 1) := by decide +kernel
theorem dX8_pass_55 : decode cX8_pass 55 = .ok (.getfield 207, 3) := by decide +kernel
theorem dX8_pass_58 : decode cX8_pass 58 = .ok (.if_icmp .ge 33, 3) := by decide +kernel
theorem dX8_pass_61 : decode cX8_pass 61 = .ok (.aload_n 0, 1) := by decide +kernel
theorem dX8_pass_62 : decode cX8_pass 62 = .ok (.getfield 51, 3) := by decide +kernel
theorem dX8_pass_65 : decode cX8_pass 65 = .ok (.iload 6, 2) := by decide +kernel
theorem dX8_pass_67 : decode cX8_pass 67 = .ok (.iaload, 1) := by decide +kernel
theorem dX8_pass_68 : decode cX8_pass 68 = .ok (.ifCond .ne 17, 3) := by decide +kernel
theorem dX8_pass_71 : decode cX8_pass 71 = .ok (.aload_n 0, 1) := by decide +kernel
theorem dX8_pass_72 : decode cX8_pass 72 = .ok (.getfield 54, 3) := by decide +kernel
theorem dX8_pass_75 : decode cX8_pass 75 = .ok (.iload 6, 2) := by decide +kernel
theorem dX8_pass_77 : decode cX8_pass 77 = .ok (.iaload, 1) := by decide +kernel
theorem dX8_pass_78 : decode cX8_pass 78 = .ok (.iload_n 1, 1) := by decide +kernel
theorem dX8_pass_79 : decode cX8_pass 79 = .ok (.if_icmp .ne 6, 3) := by decide +kernel
theorem dX8_pass_82 : decode cX8_pass 82 = .ok (.iinc 5 1, 3) := by decide +kernel
theorem dX8_pass_85 : decode cX8_pass 85 = .ok (.iinc 6 1, 3) := by decide +kernel
theorem dX8_pass_88 : decode cX8_pass 88 = .ok (.goto (-36), 3) := by decide +kernel
theorem dX8_pass_91 : decode cX8_pass 91 = .ok (.iload 5, 2) := by decide +kernel
theorem dX8_pass_93 : decode cX8_pass 93 = .ok (.bipush 12, 2) := by decide +kernel
theorem dX8_pass_95 : decode cX8_pass 95 = .ok (.if_icmp .ne 7, 3) := by decide +kernel
theorem dX8_pass_98 : decode cX8_pass 98 = .ok (.iconst (-1), 1) := by decide +kernel
theorem dX8_pass_99 : decode cX8_pass 99 = .ok (.goto 21, 3) := by decide +kernel
theorem dX8_pass_102 : decode cX8_pass 102 = .ok (.aload_n 0, 1) := by decide +kernel
theorem dX8_pass_103 : decode cX8_pass 103 = .ok (.iconst 0, 1) := by decide +kernel
theorem dX8_pass_104 : decode cX8_pass 104 = .ok (.iload_n 1, 1) := by decide +kernel
theorem dX8_pass_105 : decode cX8_pass 105 = .ok (.iload_n 2, 1) := by decide +kernel
theorem dX8_pass_106 : decode cX8_pass 106 = .ok (.iload 4, 2) := by decide +kernel
theorem dX8_pass_108 : decode cX8_pass 108 = .ok (.iload_n 3, 1) := by decide +kernel
theorem dX8_pass_109 : decode cX8_pass 109 = .ok (.ifCond .eq 7, 3) := by decide +kernel
theorem dX8_pass_112 : decode cX8_pass 112 = .ok (.iconst 1, 1) := by decide +kernel
theorem dX8_pass_113 : decode cX8_pass 113 = .ok (.goto 4, 3) := by decide +kernel
theorem dX8_pass_116 : decode cX8_pass 116 = .ok (.iconst 0, 1) := by decide +kernel
theorem dX8_pass_117 : decode cX8_pass 117 = .ok (.invokevirtual 223, 3) := by decide +kernel
theorem dX8_pass_120 : decode cX8_pass 120 = .ok (.ireturn, 1) := by decide +kernel
theorem dX8_gap_0 : decode cX8_gap 0 = .ok (.aload_n 0, 1) := by decide +kernel
theorem dX8_gap_1 : decode cX8_gap 1 = .ok (.iconst 0, 1) := by decide +kernel
theorem dX8_gap_2 : decode cX8_gap 2 = .ok (.putfield 1, 3) := by decide +kernel
theorem dX8_gap_5 : decode cX8_gap 5 = .ok (.iload_n 1, 1) := by decide +kernel
theorem dX8_gap_6 : decode cX8_gap 6 = .ok (.iconst 0, 1) := by decide +kernel
theorem dX8_gap_7 : decode cX8_gap 7 = .ok (.aload_n 0, 1) := by decide +kernel
theorem dX8_gap_8 : decode cX8_gap 8 = .ok (.getfield 201, 3) := by decide +kernel
theorem dX8_gap_11 : decode cX8_gap 11 = .ok (.iconst 1, 1) := by decide +kernel
theorem dX8_gap_12 : decode cX8_gap 12 = .ok (.isub, 1) := by decide +kernel
theorem dX8_gap_13 : decode cX8_gap 13 = .ok (.invokestatic 216, 3) := by decide +kernel
theorem dX8_gap_16 : decode cX8_gap 16 = .ok (.ifCond .eq 31, 3) := by decide +kernel
theorem dX8_gap_19 : decode cX8_gap 19 = .ok (.iload_n 2, 1) := by decide +kernel
theorem dX8_gap_20 : decode cX8_gap 20 = .ok (.invokestatic 220, 3) := by decide +kernel
theorem dX8_gap_23 : decode cX8_gap 23 = .ok (.ifCond .eq 24, 3) := by decide +kernel
theorem dX8_gap_26 : decode cX8_gap 26 = .ok (.iload_n 3, 1) := by decide +kernel
theorem dX8_gap_27 : decode cX8_gap 27 = .ok (.invokestatic 220, 3) := by decide +kernel
theorem dX8_gap_30 : decode cX8_gap 30 = .ok (.ifCond .eq 17, 3) := by decide +kernel
theorem dX8_gap_33 : decode cX8_gap 33 = .ok (.iload_n 2, 1) := by decide +kernel
theorem dX8_gap_34 : decode cX8_gap 34 = .ok (.iload_n 3, 1) := by decide +kernel
theorem dX8_gap_35 : decode cX8_gap 35 = .ok (.if_icmp .gt 12, 3) := by decide +kernel
theorem dX8_gap_38 : decode cX8_gap 38 = .ok (.aload_n 0, 1) := by decide +kernel
theorem dX8_gap_39 : decode cX8_gap 39 = .ok (.getfield 207, 3) := by decide +kernel
theorem dX8_gap_42 : decode cX8_gap 42 = .ok (.bipush 100, 2) := by decide +kernel
theorem dX8_gap_44 : decode cX8_gap 44 = .ok (.if_icmp .ne 5, 3) := by decide +kernel
theorem dX8_gap_47 : decode cX8_gap 47 = .ok (.iconst (-1), 1) := by decide +kernel
theorem dX8_gap_48 : decode cX8_gap 48 = .ok (.ireturn, 1) := by decide +kernel
theorem dX8_gap_49 : decode cX8_gap 49 = .ok (.aload_n 0, 1) := by decide +kernel
theorem dX8_gap_50 : decode cX8_gap 50 = .ok (.iconst 1, 1) := by decide +kernel
theorem dX8_gap_51 : decode cX8_gap 51 = .ok (.iconst (-1), 1) := by decide +kernel
theorem dX8_gap_52 : decode cX8_gap 52 = .ok (.iload_n 1, 1) := by decide +kernel
theorem dX8_gap_53 : decode cX8_gap 53 = .ok (.iload_n 2, 1) := by decide +kernel
theorem dX8_gap_54 : decode cX8_gap 54 = .ok (.iload_n 3, 1) := by decide +kernel
theorem dX8_gap_55 : decode cX8_gap 55 = .ok (.invokevirtual 223, 3) := by decide +kernel
theorem dX8_gap_58 : decode cX8_gap 58 = .ok (.ireturn, 1) := by decide +kernel
theorem dX8_sight_0 : decode cX8_sight 0 = .ok (.aload_n 0, 1) := by decide +kernel
theorem dX8_sight_1 : decode cX8_sight 1 = .ok (.iconst 0, 1) := by decide +kernel
theorem dX8_sight_2 : decode cX8_sight 2 = .ok (.putfield 1, 3) := by decide +kernel
theorem dX8_sight_5 : decode cX8_sight 5 = .ok (.aload_n 0, 1) := by decide +kernel
theorem dX8_sight_6 : decode cX8_sight 6 = .ok (.iload_n 1, 1) := by decide +kernel
theorem dX8_sight_7 : decode cX8_sight 7 = .ok (.invokevirtual 213, 3) := by decide +kernel
theorem dX8_sight_10 : decode cX8_sight 10 = .ok (.ifCond .eq 27, 3) := by decide +kernel
theorem dX8_sight_13 : decode cX8_sight 13 = .ok (.aload_n 0, 1) := by decide +kernel
theorem dX8_sight_14 : decode cX8_sight 14 = .ok (.iload_n 2, 1) := by decide +kernel
theorem dX8_sight_15 : decode cX8_sight 15 = .ok (.invokevirtual 227, 3) := by decide +kernel
theorem dX8_sight_18 : decode cX8_sight 18 = .ok (.ifCond .eq 19, 3) := by decide +kernel
theorem dX8_sight_21 : decode cX8_sight 21 = .ok (.iload_n 3, 1) := by decide +kernel
theorem dX8_sight_22 : decode cX8_sight 22 = .ok (.invokestatic 220, 3) := by decide +kernel
theorem dX8_sight_25 : decode cX8_sight 25 = .ok (.ifCond .eq 12, 3) := by decide +kernel
theorem dX8_sight_28 : decode cX8_sight 28 = .ok (.aload_n 0, 1) := by decide +kernel
theorem dX8_sight_29 : decode cX8_sight 29 = .ok (.getfield 207, 3) := by decide +kernel
theorem dX8_sight_32 : decode cX8_sight 32 = .ok (.bipush 100, 2) := by decide +kernel
theorem dX8_sight_34 : decode cX8_sight 34 = .ok (.if_icmp .ne 5, 3) := by decide +kernel
theorem dX8_sight_37 : decode cX8_sight 37 = .ok (.iconst (-1), 1) := by decide +kernel
theorem dX8_sight_38 : decode cX8_sight 38 = .ok (.ireturn, 1) := by decide +kernel
theorem dX8_sight_39 : decode cX8_sight 39 = .ok (.aload_n 0, 1) := by decide +kernel
theorem dX8_sight_40 : decode cX8_sight 40 = .ok (.iconst 2, 1) := by decide +kernel
theorem dX8_sight_41 : decode cX8_sight 41 = .ok (.iload_n 1, 1) := by decide +kernel
theorem dX8_sight_42 : decode cX8_sight 42 = .ok (.iload_n 2, 1) := by decide +kernel
theorem dX8_sight_43 : decode cX8_sight 43 = .ok (.iload_n 3, 1) := by decide +kernel
theorem dX8_sight_44 : decode cX8_sight 44 = .ok (.iconst (-1), 1) := by decide +kernel
theorem dX8_sight_45 : decode cX8_sight 45 = .ok (.invokevirtual 223, 3) := by decide +kernel
theorem dX8_sight_48 : decode cX8_sight 48 = .ok (.ireturn, 1) := by decide +kernel
theorem dX8_right_0 : decode cX8_right 0 = .ok (.aload_n 0, 1) := by decide +kernel
theorem dX8_right_1 : decode cX8_right 1 = .ok (.iconst 0, 1) := by decide +kernel
theorem dX8_right_2 : decode cX8_right 2 = .ok (.putfield 1, 3) := by decide +kernel
theorem dX8_right_5 : decode cX8_right 5 = .ok (.aload_n 0, 1) := by decide +kernel
theorem dX8_right_6 : decode cX8_right 6 = .ok (.iload_n 1, 1) := by decide +kernel
theorem dX8_right_7 : decode cX8_right 7 = .ok (.invokevirtual 213, 3) := by decide +kernel
theorem dX8_right_10 : decode cX8_right 10 = .ok (.ifCond .eq 41, 3) := by decide +kernel
theorem dX8_right_13 : decode cX8_right 13 = .ok (.aload_n 0, 1) := by decide +kernel
theorem dX8_right_14 : decode cX8_right 14 = .ok (.iload_n 2, 1) := by decide +kernel
theorem dX8_right_15 : decode cX8_right 15 = .ok (.invokevirtual 227, 3) := by decide +kernel
theorem dX8_right_18 : decode cX8_right 18 = .ok (.ifCond .eq 33, 3) := by decide +kernel
theorem dX8_right_21 : decode cX8_right 21 = .ok (.iload_n 3, 1) := by decide +kernel
theorem dX8_right_22 : decode cX8_right 22 = .ok (.invokestatic 220, 3) := by decide +kernel
theorem dX8_right_25 : decode cX8_right 25 = .ok (.ifCond .eq 26, 3) := by decide +kernel
theorem dX8_right_28 : decode cX8_right 28 = .ok (.iload 4, 2) := by decide +kernel
theorem dX8_right_30 : decode cX8_right 30 = .ok (.invokestatic 220, 3) := by decide +kernel
theorem dX8_right_33 : decode cX8_right 33 = .ok (.ifCond .eq 18, 3) := by decide +kernel
theorem dX8_right_36 : decode cX8_right 36 = .ok (.iload_n 3, 1) := by decide +kernel
theorem dX8_right_37 : decode cX8_right 37 = .ok (.iload 4, 2) := by decide +kernel
theorem dX8_right_39 : decode cX8_right 39 = .ok (.if_icmp .gt 12, 3) := by decide +kernel
theorem dX8_right_42 : decode cX8_right 42 = .ok (.aload_n 0, 1) := by decide +kernel
theorem dX8_right_43 : decode cX8_right 43 = .ok (.getfield 210, 3) := by decide +kernel
theorem dX8_right_46 : decode cX8_right 46 = .ok (.bipush 100, 2) := by decide +kernel
theorem dX8_right_48 : decode cX8_right 48 = .ok (.if_icmp .ne 5, 3) := by decide +kernel
theorem dX8_right_51 : decode cX8_right 51 = .ok (.iconst (-1), 1) := by decide +kernel
theorem dX8_right_52 : decode cX8_right 52 = .ok (.ireturn, 1) := by decide +kernel
theorem dX8_right_53 : decode cX8_right 53 = .ok (.aload_n 0, 1) := by decide +kernel
theorem dX8_right_54 : decode cX8_right 54 = .ok (.getfield 66, 3) := by decide +kernel
theorem dX8_right_57 : decode cX8_right 57 = .ok (.aload_n 0, 1) := by decide +kernel
theorem dX8_right_58 : decode cX8_right 58 = .ok (.getfield 210, 3) := by decide +kernel
theorem dX8_right_61 : decode cX8_right 61 = .ok (.iload_n 1, 1) := by decide +kernel
theorem dX8_right_62 : decode cX8_right 62 = .ok (.iastore, 1) := by decide +kernel
theorem dX8_right_63 : decode cX8_right 63 = .ok (.aload_n 0, 1) := by decide +kernel
theorem dX8_right_64 : decode cX8_right 64 = .ok (.getfield 69, 3) := by decide +kernel
theorem dX8_right_67 : decode cX8_right 67 = .ok (.aload_n 0, 1) := by decide +kernel
theorem dX8_right_68 : decode cX8_right 68 = .ok (.getfield 210, 3) := by decide +kernel
theorem dX8_right_71 : decode cX8_right 71 = .ok (.iload_n 2, 1) := by decide +kernel
theorem dX8_right_72 : decode cX8_right 72 = .ok (.iastore, 1) := by decide +kernel
theorem dX8_right_73 : decode cX8_right 73 = .ok (.aload_n 0, 1) := by decide +kernel
theorem dX8_right_74 : decode cX8_right 74 = .ok (.getfield 72, 3) := by decide +kernel
theorem dX8_right_77 : decode cX8_right 77 = .ok (.aload_n 0, 1) := by decide +kernel
theorem dX8_right_78 : decode cX8_right 78 = .ok (.getfield 210, 3) := by decide +kernel
theorem dX8_right_81 : decode cX8_right 81 = .ok (.iload_n 3, 1) := by decide +kernel
theorem dX8_right_82 : decode cX8_right 82 = .ok (.iastore, 1) := by decide +kernel
theorem dX8_right_83 : decode cX8_right 83 = .ok (.aload_n 0, 1) := by decide +kernel
theorem dX8_right_84 : decode cX8_right 84 = .ok (.getfield 75, 3) := by decide +kernel
theorem dX8_right_87 : decode cX8_right 87 = .ok (.aload_n 0, 1) := by decide +kernel
theorem dX8_right_88 : decode cX8_right 88 = .ok (.getfield 210, 3) := by decide +kernel
theorem dX8_right_91 : decode cX8_right 91 = .ok (.iload 4, 2) := by decide +kernel
theorem dX8_right_93 : decode cX8_right 93 = .ok (.iastore, 1) := by decide +kernel
theorem dX8_right_94 : decode cX8_right 94 = .ok (.aload_n 0, 1) := by decide +kernel
theorem dX8_right_95 : decode cX8_right 95 = .ok (.getfield 78, 3) := by decide +kernel
theorem dX8_right_98 : decode cX8_right 98 = .ok (.aload_n 0, 1) := by decide +kernel
theorem dX8_right_99 : decode cX8_right 99 = .ok (.getfield 210, 3) := by decide +kernel
theorem dX8_right_102 : decode cX8_right 102 = .ok (.iload 5, 2) := by decide +kernel
theorem dX8_right_104 : decode cX8_right 104 = .ok (.bastore, 1) := by decide +kernel
theorem dX8_right_105 : decode cX8_right 105 = .ok (.aload_n 0, 1) := by decide +kernel
theorem dX8_right_106 : decode cX8_right 106 = .ok (.dup, 1) := by decide +kernel
theorem dX8_right_107 : decode cX8_right 107 = .ok (.getfield 210, 3) := by decide +kernel
theorem dX8_right_110 : decode cX8_right 110 = .ok (.iconst 1, 1) := by decide +kernel
theorem dX8_right_111 : decode cX8_right 111 = .ok (.iadd, 1) := by decide +kernel
theorem dX8_right_112 : decode cX8_right 112 = .ok (.putfield 210, 3) := by decide +kernel
theorem dX8_right_115 : decode cX8_right 115 = .ok (.aload_n 0, 1) := by decide +kernel
theorem dX8_right_116 : decode cX8_right 116 = .ok (.getfield 210, 3) := by decide +kernel
theorem dX8_right_119 : decode cX8_right 119 = .ok (.iconst 1, 1) := by decide +kernel
theorem dX8_right_120 : decode cX8_right 120 = .ok (.isub, 1) := by decide +kernel
theorem dX8_right_121 : decode cX8_right 121 = .ok (.ireturn, 1) := by decide +kernel
theorem dX8_isAllowed_0 : decode cX8_isAllowed 0 = .ok (.iload_n 2, 1) := by decide +kernel
theorem dX8_isAllowed_1 : decode cX8_isAllowed 1 = .ok (.ifCond .ne 7, 3) := by decide +kernel
theorem dX8_isAllowed_4 : decode cX8_isAllowed 4 = .ok (.iconst 1, 1) := by decide +kernel
theorem dX8_isAllowed_5 : decode cX8_isAllowed 5 = .ok (.goto 4, 3) := by decide +kernel
theorem dX8_isAllowed_8 : decode cX8_isAllowed 8 = .ok (.iconst 0, 1) := by decide +kernel
theorem dX8_isAllowed_9 : decode cX8_isAllowed 9 = .ok (.istore 4, 2) := by decide +kernel
theorem dX8_isAllowed_11 : decode cX8_isAllowed 11 = .ok (.iconst 0, 1) := by decide +kernel
theorem dX8_isAllowed_12 : decode cX8_isAllowed 12 = .ok (.istore 5, 2) := by decide +kernel
theorem dX8_isAllowed_14 : decode cX8_isAllowed 14 = .ok (.iload 5, 2) := by decide +kernel
theorem dX8_isAllowed_16 : decode cX8_isAllowed 16 = .ok (.aload_n 0, 1) := by decide +kernel
theorem dX8_isAllowed_17 : decode cX8_isAllowed 17 = .ok (.getfield 210, 3) := by decide +kernel
theorem dX8_isAllowed_20 : decode cX8_isAllowed 20 = .ok (.if_icmp .ge 61, 3) := by decide +kernel
theorem dX8_isAllowed_23 : decode cX8_isAllowed 23 = .ok (.aload_n 0, 1) := by decide +kernel
theorem dX8_isAllowed_24 : decode cX8_isAllowed 24 = .ok (.getfield 66, 3) := by decide +kernel
theorem dX8_isAllowed_27 : decode cX8_isAllowed 27 = .ok (.iload 5, 2) := by decide +kernel
theorem dX8_isAllowed_29 : decode cX8_isAllowed 29 = .ok (.iaload, 1) := by decide +kernel
theorem dX8_isAllowed_30 : decode cX8_isAllowed 30 = .ok (.iload_n 1, 1) := by decide +kernel
theorem dX8_isAllowed_31 : decode cX8_isAllowed 31 = .ok (.if_icmp .ne 44, 3) := by decide +kernel
theorem dX8_isAllowed_34 : decode cX8_isAllowed 34 = .ok (.aload_n 0, 1) := by decide +kernel
theorem dX8_isAllowed_35 : decode cX8_isAllowed 35 = .ok (.getfield 69, 3) := by decide +kernel
theorem dX8_isAllowed_38 : decode cX8_isAllowed 38 = .ok (.iload 5, 2) := by decide +kernel
theorem dX8_isAllowed_40 : decode cX8_isAllowed 40 = .ok (.iaload, 1) := by decide +kernel
theorem dX8_isAllowed_41 : decode cX8_isAllowed 41 = .ok (.iload_n 2, 1) := by decide +kernel
theorem dX8_isAllowed_42 : decode cX8_isAllowed 42 = .ok (.if_icmp .ne 33, 3) := by decide +kernel
theorem dX8_isAllowed_45 : decode cX8_isAllowed 45 = .ok (.iload_n 3, 1) := by decide +kernel
theorem dX8_isAllowed_46 : decode cX8_isAllowed 46 = .ok (.aload_n 0, 1) := by decide +kernel
theorem dX8_isAllowed_47 : decode cX8_isAllowed 47 = .ok (.getfield 72, 3) := by decide +kernel
theorem dX8_isAllowed_50 : decode cX8_isAllowed 50 = .ok (.iload 5, 2) := by decide +kernel
theorem dX8_isAllowed_52 : decode cX8_isAllowed 52 = .ok (.iaload, 1) := by decide +kernel
theorem dX8_isAllowed_53 : decode cX8_isAllowed 53 = .ok (.aload_n 0, 1) := by decide +kernel
theorem dX8_isAllowed_54 : decode cX8_isAllowed 54 = .ok (.getfield 75, 3) := by decide +kernel
theorem dX8_isAllowed_57 : decode cX8_isAllowed 57 = .ok (.iload 5, 2) := by decide +kernel
theorem dX8_isAllowed_59 : decode cX8_isAllowed 59 = .ok (.iaload, 1) := by decide +kernel
theorem dX8_isAllowed_60 : decode cX8_isAllowed 60 = .ok (.invokestatic 216, 3) := by decide +kernel
theorem dX8_isAllowed_63 : decode cX8_isAllowed 63 = .ok (.ifCond .eq 12, 3) := by decide +kernel
theorem dX8_isAllowed_66 : decode cX8_isAllowed 66 = .ok (.aload_n 0, 1) := by decide +kernel
theorem dX8_isAllowed_67 : decode cX8_isAllowed 67 = .ok (.getfield 78, 3) := by decide +kernel
theorem dX8_isAllowed_70 : decode cX8_isAllowed 70 = .ok (.iload 5, 2) := by decide +kernel
theorem dX8_isAllowed_72 : decode cX8_isAllowed 72 = .ok (.baload, 1) := by decide +kernel
theorem dX8_isAllowed_73 : decode cX8_isAllowed 73 = .ok (.istore 4, 2) := by decide +kernel
theorem dX8_isAllowed_75 : decode cX8_isAllowed 75 = .ok (.iinc 5 1, 3) := by decide +kernel
theorem dX8_isAllowed_78 : decode cX8_isAllowed 78 = .ok (.goto (-64), 3) := by decide +kernel
theorem dX8_isAllowed_81 : decode cX8_isAllowed 81 = .ok (.iload 4, 2) := by decide +kernel
theorem dX8_isAllowed_83 : decode cX8_isAllowed 83 = .ok (.ireturn, 1) := by decide +kernel
theorem dX8_allowed_0 : decode cX8_allowed 0 = .ok (.aload_n 0, 1) := by decide +kernel
theorem dX8_allowed_1 : decode cX8_allowed 1 = .ok (.iconst 0, 1) := by decide +kernel
theorem dX8_allowed_2 : decode cX8_allowed 2 = .ok (.putfield 1, 3) := by decide +kernel
theorem dX8_allowed_5 : decode cX8_allowed 5 = .ok (.aload_n 0, 1) := by decide +kernel
theorem dX8_allowed_6 : decode cX8_allowed 6 = .ok (.iload_n 1, 1) := by decide +kernel
theorem dX8_allowed_7 : decode cX8_allowed 7 = .ok (.invokevirtual 213, 3) := by decide +kernel
theorem dX8_allowed_10 : decode cX8_allowed 10 = .ok (.ifCond .eq 18, 3) := by decide +kernel
theorem dX8_allowed_13 : decode cX8_allowed 13 = .ok (.aload_n 0, 1) := by decide +kernel
theorem dX8_allowed_14 : decode cX8_allowed 14 = .ok (.iload_n 2, 1) := by decide +kernel
theorem dX8_allowed_15 : decode cX8_allowed 15 = .ok (.invokevirtual 227, 3) := by decide +kernel
theorem dX8_allowed_18 : decode cX8_allowed 18 = .ok (.ifCond .eq 10, 3) := by decide +kernel
theorem dX8_allowed_21 : decode cX8_allowed 21 = .ok (.iload_n 3, 1) := by decide +kernel
theorem dX8_allowed_22 : decode cX8_allowed 22 = .ok (.invokestatic 220, 3) := by decide +kernel
theorem dX8_allowed_25 : decode cX8_allowed 25 = .ok (.ifCond .ne 5, 3) := by decide +kernel
theorem dX8_allowed_28 : decode cX8_allowed 28 = .ok (.iconst (-1), 1) := by decide +kernel
theorem dX8_allowed_29 : decode cX8_allowed 29 = .ok (.ireturn, 1) := by decide +kernel
theorem dX8_allowed_30 : decode cX8_allowed 30 = .ok (.aload_n 0, 1) := by decide +kernel
theorem dX8_allowed_31 : decode cX8_allowed 31 = .ok (.iload_n 1, 1) := by decide +kernel
theorem dX8_allowed_32 : decode cX8_allowed 32 = .ok (.iload_n 2, 1) := by decide +kernel
theorem dX8_allowed_33 : decode cX8_allowed 33 = .ok (.iload_n 3, 1) := by decide +kernel
theorem dX8_allowed_34 : decode cX8_allowed 34 = .ok (.invokevirtual 230, 3) := by decide +kernel
theorem dX8_allowed_37 : decode cX8_allowed 37 = .ok (.ifCond .eq 7, 3) := by decide +kernel
theorem dX8_allowed_40 : decode cX8_allowed 40 = .ok (.iconst 1, 1) := by decide +kernel
theorem dX8_allowed_41 : decode cX8_allowed 41 = .ok (.goto 4, 3) := by decide +kernel
theorem dX8_allowed_44 : decode cX8_allowed 44 = .ok (.iconst 0, 1) := by decide +kernel
theorem dX8_allowed_45 : decode cX8_allowed 45 = .ok (.ireturn, 1) := by decide +kernel
theorem dX8_leaves_0 : decode cX8_leaves 0 = .ok (.aload_n 0, 1) := by decide +kernel
theorem dX8_leaves_1 : decode cX8_leaves 1 = .ok (.getfield 63, 3) := by decide +kernel
theorem dX8_leaves_4 : decode cX8_leaves 4 = .ok (.iload_n 1, 1) := by decide +kernel
theorem dX8_leaves_5 : decode cX8_leaves 5 = .ok (.iaload, 1) := by decide +kernel
theorem dX8_leaves_6 : decode cX8_leaves 6 = .ok (.iconst 1, 1) := by decide +kernel
theorem dX8_leaves_7 : decode cX8_leaves 7 = .ok (.if_icmp .ne 17, 3) := by decide +kernel
theorem dX8_leaves_10 : decode cX8_leaves 10 = .ok (.aload_n 0, 1) := by decide +kernel
theorem dX8_leaves_11 : decode cX8_leaves 11 = .ok (.getfield 45, 3) := by decide +kernel
theorem dX8_leaves_14 : decode cX8_leaves 14 = .ok (.aload_n 0, 1) := by decide +kernel
theorem dX8_leaves_15 : decode cX8_leaves 15 = .ok (.getfield 57, 3) := by decide +kernel
theorem dX8_leaves_18 : decode cX8_leaves 18 = .ok (.iload_n 1, 1) := by decide +kernel
theorem dX8_leaves_19 : decode cX8_leaves 19 = .ok (.iaload, 1) := by decide +kernel
theorem dX8_leaves_20 : decode cX8_leaves 20 = .ok (.iaload, 1) := by decide +kernel
theorem dX8_leaves_21 : decode cX8_leaves 21 = .ok (.goto 14, 3) := by decide +kernel
theorem dX8_leaves_24 : decode cX8_leaves 24 = .ok (.aload_n 0, 1) := by decide +kernel
theorem dX8_leaves_25 : decode cX8_leaves 25 = .ok (.getfield 42, 3) := by decide +kernel
theorem dX8_leaves_28 : decode cX8_leaves 28 = .ok (.aload_n 0, 1) := by decide +kernel
theorem dX8_leaves_29 : decode cX8_leaves 29 = .ok (.getfield 57, 3) := by decide +kernel
theorem dX8_leaves_32 : decode cX8_leaves 32 = .ok (.iload_n 1, 1) := by decide +kernel
theorem dX8_leaves_33 : decode cX8_leaves 33 = .ok (.iaload, 1) := by decide +kernel
theorem dX8_leaves_34 : decode cX8_leaves 34 = .ok (.iaload, 1) := by decide +kernel
theorem dX8_leaves_35 : decode cX8_leaves 35 = .ok (.ireturn, 1) := by decide +kernel
theorem dX8_enters_0 : decode cX8_enters 0 = .ok (.aload_n 0, 1) := by decide +kernel
theorem dX8_enters_1 : decode cX8_enters 1 = .ok (.getfield 63, 3) := by decide +kernel
theorem dX8_enters_4 : decode cX8_enters 4 = .ok (.iload_n 1, 1) := by decide +kernel
theorem dX8_enters_5 : decode cX8_enters 5 = .ok (.iaload, 1) := by decide +kernel
theorem dX8_enters_6 : decode cX8_enters 6 = .ok (.iconst 1, 1) := by decide +kernel
theorem dX8_enters_7 : decode cX8_enters 7 = .ok (.if_icmp .ne 17, 3) := by decide +kernel
theorem dX8_enters_10 : decode cX8_enters 10 = .ok (.aload_n 0, 1) := by decide +kernel
theorem dX8_enters_11 : decode cX8_enters 11 = .ok (.getfield 42, 3) := by decide +kernel
theorem dX8_enters_14 : decode cX8_enters 14 = .ok (.aload_n 0, 1) := by decide +kernel
theorem dX8_enters_15 : decode cX8_enters 15 = .ok (.getfield 57, 3) := by decide +kernel
theorem dX8_enters_18 : decode cX8_enters 18 = .ok (.iload_n 1, 1) := by decide +kernel
theorem dX8_enters_19 : decode cX8_enters 19 = .ok (.iaload, 1) := by decide +kernel
theorem dX8_enters_20 : decode cX8_enters 20 = .ok (.iaload, 1) := by decide +kernel
theorem dX8_enters_21 : decode cX8_enters 21 = .ok (.goto 14, 3) := by decide +kernel
theorem dX8_enters_24 : decode cX8_enters 24 = .ok (.aload_n 0, 1) := by decide +kernel
theorem dX8_enters_25 : decode cX8_enters 25 = .ok (.getfield 45, 3) := by decide +kernel
theorem dX8_enters_28 : decode cX8_enters 28 = .ok (.aload_n 0, 1) := by decide +kernel
theorem dX8_enters_29 : decode cX8_enters 29 = .ok (.getfield 57, 3) := by decide +kernel
theorem dX8_enters_32 : decode cX8_enters 32 = .ok (.iload_n 1, 1) := by decide +kernel
theorem dX8_enters_33 : decode cX8_enters 33 = .ok (.iaload, 1) := by decide +kernel
theorem dX8_enters_34 : decode cX8_enters 34 = .ok (.iaload, 1) := by decide +kernel
theorem dX8_enters_35 : decode cX8_enters 35 = .ok (.ireturn, 1) := by decide +kernel
theorem dX8_states_0 : decode cX8_states 0 = .ok (.ldc2_w 233, 3) := by decide +kernel
theorem dX8_states_3 : decode cX8_states 3 = .ok (.bipush 6, 2) := by decide +kernel
theorem dX8_states_5 : decode cX8_states 5 = .ok (.iload_n 0, 1) := by decide +kernel
theorem dX8_states_6 : decode cX8_states 6 = .ok (.imul, 1) := by decide +kernel
theorem dX8_states_7 : decode cX8_states 7 = .ok (.lshl, 1) := by decide +kernel
theorem dX8_states_8 : decode cX8_states 8 = .ok (.lreturn, 1) := by decide +kernel
theorem dX8_knows_0 : decode cX8_knows 0 = .ok (.aload_n 0, 1) := by decide +kernel
theorem dX8_knows_1 : decode cX8_knows 1 = .ok (.iconst 0, 1) := by decide +kernel
theorem dX8_knows_2 : decode cX8_knows 2 = .ok (.putfield 235, 3) := by decide +kernel
theorem dX8_knows_5 : decode cX8_knows 5 = .ok (.iconst 0, 1) := by decide +kernel
theorem dX8_knows_6 : decode cX8_knows 6 = .ok (.istore 4, 2) := by decide +kernel
theorem dX8_knows_8 : decode cX8_knows 8 = .ok (.iload 4, 2) := by decide +kernel
theorem dX8_knows_10 : decode cX8_knows 10 = .ok (.sipush 200, 3) := by decide +kernel
theorem dX8_knows_13 : decode cX8_knows 13 = .ok (.if_icmp .ge 19, 3) := by decide +kernel
theorem dX8_knows_16 : decode cX8_knows 16 = .ok (.aload_n 0, 1) := by decide +kernel
theorem dX8_knows_17 : decode cX8_knows 17 = .ok (.getfield 85, 3) := by decide +kernel
theorem dX8_knows_20 : decode cX8_knows 20 = .ok (.iload 4, 2) := by decide +kernel
theorem dX8_knows_22 : decode cX8_knows 22 = .ok (.ldc2_w 238, 3) := by decide +kernel
theorem dX8_knows_25 : decode cX8_knows 25 = .ok (.lastore, 1) := by decide +kernel
theorem dX8_knows_26 : decode cX8_knows 26 = .ok (.iinc 4 1, 3) := by decide +kernel
theorem dX8_knows_29 : decode cX8_knows 29 = .ok (.goto (-21), 3) := by decide +kernel
theorem dX8_knows_32 : decode cX8_knows 32 = .ok (.iconst 0, 1) := by decide +kernel
theorem dX8_knows_33 : decode cX8_knows 33 = .ok (.istore 4, 2) := by decide +kernel
theorem dX8_knows_35 : decode cX8_knows 35 = .ok (.iload 4, 2) := by decide +kernel
theorem dX8_knows_37 : decode cX8_knows 37 = .ok (.sipush 2000, 3) := by decide +kernel
theorem dX8_knows_40 : decode cX8_knows 40 = .ok (.if_icmp .ge 17, 3) := by decide +kernel
theorem dX8_knows_43 : decode cX8_knows 43 = .ok (.aload_n 0, 1) := by decide +kernel
theorem dX8_knows_44 : decode cX8_knows 44 = .ok (.getfield 89, 3) := by decide +kernel
theorem dX8_knows_47 : decode cX8_knows 47 = .ok (.iload 4, 2) := by decide +kernel
theorem dX8_knows_49 : decode cX8_knows 49 = .ok (.iconst 0, 1) := by decide +kernel
theorem dX8_knows_50 : decode cX8_knows 50 = .ok (.bastore, 1) := by decide +kernel
theorem dX8_knows_51 : decode cX8_knows 51 = .ok (.iinc 4 1, 3) := by decide +kernel
theorem dX8_knows_54 : decode cX8_knows 54 = .ok (.goto (-19), 3) := by decide +kernel
theorem dX8_knows_57 : decode cX8_knows 57 = .ok (.iconst 0, 1) := by decide +kernel
theorem dX8_knows_58 : decode cX8_knows 58 = .ok (.istore 4, 2) := by decide +kernel
theorem dX8_knows_60 : decode cX8_knows 60 = .ok (.iload 4, 2) := by decide +kernel
theorem dX8_knows_62 : decode cX8_knows 62 = .ok (.iload_n 2, 1) := by decide +kernel
theorem dX8_knows_63 : decode cX8_knows 63 = .ok (.if_icmp .ge 240, 3) := by decide +kernel
theorem dX8_knows_66 : decode cX8_knows 66 = .ok (.aload_n 0, 1) := by decide +kernel
theorem dX8_knows_67 : decode cX8_knows 67 = .ok (.getfield 51, 3) := by decide +kernel
theorem dX8_knows_70 : decode cX8_knows 70 = .ok (.iload 4, 2) := by decide +kernel
theorem dX8_knows_72 : decode cX8_knows 72 = .ok (.iaload, 1) := by decide +kernel
theorem dX8_knows_73 : decode cX8_knows 73 = .ok (.iconst 1, 1) := by decide +kernel
theorem dX8_knows_74 : decode cX8_knows 74 = .ok (.if_icmp .ne 82, 3) := by decide +kernel
theorem dX8_knows_77 : decode cX8_knows 77 = .ok (.aload_n 0, 1) := by decide +kernel
theorem dX8_knows_78 : decode cX8_knows 78 = .ok (.getfield 57, 3) := by decide +kernel
theorem dX8_knows_81 : decode cX8_knows 81 = .ok (.iload 4, 2) := by decide +kernel
theorem dX8_knows_83 : decode cX8_knows 83 = .ok (.iaload, 1) := by decide +kernel
theorem dX8_knows_84 : decode cX8_knows 84 = .ok (.istore 5, 2) := by decide +kernel
theorem dX8_knows_86 : decode cX8_knows 86 = .ok (.iconst 0, 1) := by decide +kernel
theorem dX8_knows_87 : decode cX8_knows 87 = .ok (.aload_n 0, 1) := by decide +kernel
theorem dX8_knows_88 : decode cX8_knows 88 = .ok (.getfield 60, 3) := by decide +kernel
theorem dX8_knows_91 : decode cX8_knows 91 = .ok (.iload 4, 2) := by decide +kernel
theorem dX8_knows_93 : decode cX8_knows 93 = .ok (.iaload, 1) := by decide +kernel
theorem dX8_knows_94 : decode cX8_knows 94 = .ok (.aload_n 0, 1) := by decide +kernel
theorem dX8_knows_95 : decode cX8_knows 95 = .ok (.getfield 48, 3) := by decide +kernel
theorem dX8_knows_98 : decode cX8_knows 98 = .ok (.iload 5, 2) := by decide +kernel
theorem dX8_knows_100 : decode cX8_knows 100 = .ok (.iaload, 1) := by decide +kernel
theorem dX8_knows_101 : decode cX8_knows 101 = .ok (.isub, 1) := by decide +kernel
theorem dX8_knows_102 : decode cX8_knows 102 = .ok (.invokestatic 240, 3) := by decide +kernel
theorem dX8_knows_105 : decode cX8_knows 105 = .ok (.istore 6, 2) := by decide +kernel
theorem dX8_knows_107 : decode cX8_knows 107 = .ok (.iload 6, 2) := by decide +kernel
theorem dX8_knows_109 : decode cX8_knows 109 = .ok (.sipush 199, 3) := by decide +kernel
theorem dX8_knows_112 : decode cX8_knows 112 = .ok (.aload_n 0, 1) := by decide +kernel
theorem dX8_knows_113 : decode cX8_knows 113 = .ok (.getfield 63, 3) := by decide +kernel
theorem dX8_knows_116 : decode cX8_knows 116 = .ok (.iload 4, 2) := by decide +kernel
theorem dX8_knows_118 : decode cX8_knows 118 = .ok (.iaload, 1) := by decide +kernel
theorem dX8_knows_119 : decode cX8_knows 119 = .ok (.aload_n 0, 1) := by decide +kernel
theorem dX8_knows_120 : decode cX8_knows 120 = .ok (.getfield 48, 3) := by decide +kernel
theorem dX8_knows_123 : decode cX8_knows 123 = .ok (.iload 5, 2) := by decide +kernel
theorem dX8_knows_125 : decode cX8_knows 125 = .ok (.iaload, 1) := by decide +kernel
theorem dX8_knows_126 : decode cX8_knows 126 = .ok (.iadd, 1) := by decide +kernel
theorem dX8_knows_127 : decode cX8_knows 127 = .ok (.invokestatic 246, 3) := by decide +kernel
theorem dX8_knows_130 : decode cX8_knows 130 = .ok (.if_icmp .gt 23, 3) := by decide +kernel
theorem dX8_knows_133 : decode cX8_knows 133 = .ok (.aload_n 0, 1) := by decide +kernel
theorem dX8_knows_134 : decode cX8_knows 134 = .ok (.getfield 89, 3) := by decide +kernel
theorem dX8_knows_137 : decode cX8_knows 137 = .ok (.bipush 10, 2) := by decide +kernel
theorem dX8_knows_139 : decode cX8_knows 139 = .ok (.iload 6, 2) := by decide +kernel
theorem dX8_knows_141 : decode cX8_knows 141 = .ok (.imul, 1) := by decide +kernel
theorem dX8_knows_142 : decode cX8_knows 142 = .ok (.iload 5, 2) := by decide +kernel
theorem dX8_knows_144 : decode cX8_knows 144 = .ok (.iadd, 1) := by decide +kernel
theorem dX8_knows_145 : decode cX8_knows 145 = .ok (.iconst 1, 1) := by decide +kernel
theorem dX8_knows_146 : decode cX8_knows 146 = .ok (.bastore, 1) := by decide +kernel
theorem dX8_knows_147 : decode cX8_knows 147 = .ok (.iinc 6 1, 3) := by decide +kernel
theorem dX8_knows_150 : decode cX8_knows 150 = .ok (.goto (-43), 3) := by decide +kernel
theorem dX8_knows_153 : decode cX8_knows 153 = .ok (.goto 144, 3) := by decide +kernel
theorem dX8_knows_156 : decode cX8_knows 156 = .ok (.aload_n 0, 1) := by decide +kernel
theorem dX8_knows_157 : decode cX8_knows 157 = .ok (.getfield 54, 3) := by decide +kernel
theorem dX8_knows_160 : decode cX8_knows 160 = .ok (.iload 4, 2) := by decide +kernel
theorem dX8_knows_162 : decode cX8_knows 162 = .ok (.iaload, 1) := by decide +kernel
theorem dX8_knows_163 : decode cX8_knows 163 = .ok (.iload_n 1, 1) := by decide +kernel
theorem dX8_knows_164 : decode cX8_knows 164 = .ok (.if_icmp .ne 46, 3) := by decide +kernel
theorem dX8_knows_167 : decode cX8_knows 167 = .ok (.aload_n 0, 1) := by decide +kernel
theorem dX8_knows_168 : decode cX8_knows 168 = .ok (.getfield 51, 3) := by decide +kernel
theorem dX8_knows_171 : decode cX8_knows 171 = .ok (.iload 4, 2) := by decide +kernel
theorem dX8_knows_173 : decode cX8_knows 173 = .ok (.iaload, 1) := by decide +kernel
theorem dX8_knows_174 : decode cX8_knows 174 = .ok (.iconst 2, 1) := by decide +kernel
theorem dX8_knows_175 : decode cX8_knows 175 = .ok (.if_icmp .ne 35, 3) := by decide +kernel
theorem dX8_knows_178 : decode cX8_knows 178 = .ok (.iload_n 3, 1) := by decide +kernel
theorem dX8_knows_179 : decode cX8_knows 179 = .ok (.ifCond .eq 118, 3) := by decide +kernel
theorem dX8_knows_182 : decode cX8_knows 182 = .ok (.aload_n 0, 1) := by decide +kernel
theorem dX8_knows_183 : decode cX8_knows 183 = .ok (.getfield 85, 3) := by decide +kernel
theorem dX8_knows_186 : decode cX8_knows 186 = .ok (.aload_n 0, 1) := by decide +kernel
theorem dX8_knows_187 : decode cX8_knows 187 = .ok (.getfield 60, 3) := by decide +kernel
theorem dX8_knows_190 : decode cX8_knows 190 = .ok (.iload 4, 2) := by decide +kernel
theorem dX8_knows_192 : decode cX8_knows 192 = .ok (.iaload, 1) := by decide +kernel
theorem dX8_knows_193 : decode cX8_knows 193 = .ok (.dup2, 1) := by decide +kernel
theorem dX8_knows_194 : decode cX8_knows 194 = .ok (.laload, 1) := by decide +kernel
theorem dX8_knows_195 : decode cX8_knows 195 = .ok (.aload_n 0, 1) := by decide +kernel
theorem dX8_knows_196 : decode cX8_knows 196 = .ok (.getfield 57, 3) := by decide +kernel
theorem dX8_knows_199 : decode cX8_knows 199 = .ok (.iload 4, 2) := by decide +kernel
theorem dX8_knows_201 : decode cX8_knows 201 = .ok (.iaload, 1) := by decide +kernel
theorem dX8_knows_202 : decode cX8_knows 202 = .ok (.invokestatic 249, 3) := by decide +kernel
theorem dX8_knows_205 : decode cX8_knows 205 = .ok (.land, 1) := by decide +kernel
theorem dX8_knows_206 : decode cX8_knows 206 = .ok (.lastore, 1) := by decide +kernel
theorem dX8_knows_207 : decode cX8_knows 207 = .ok (.goto 90, 3) := by decide +kernel
theorem dX8_knows_210 : decode cX8_knows 210 = .ok (.aload_n 0, 1) := by decide +kernel
theorem dX8_knows_211 : decode cX8_knows 211 = .ok (.getfield 54, 3) := by decide +kernel
theorem dX8_knows_214 : decode cX8_knows 214 = .ok (.iload 4, 2) := by decide +kernel
theorem dX8_knows_216 : decode cX8_knows 216 = .ok (.iaload, 1) := by decide +kernel
theorem dX8_knows_217 : decode cX8_knows 217 = .ok (.iload_n 1, 1) := by decide +kernel
theorem dX8_knows_218 : decode cX8_knows 218 = .ok (.if_icmp .ne 79, 3) := by decide +kernel
theorem dX8_knows_221 : decode cX8_knows 221 = .ok (.aload_n 0, 1) := by decide +kernel
theorem dX8_knows_222 : decode cX8_knows 222 = .ok (.getfield 235, 3) := by decide +kernel
theorem dX8_knows_225 : decode cX8_knows 225 = .ok (.istore 5, 2) := by decide +kernel
theorem dX8_knows_227 : decode cX8_knows 227 = .ok (.iload 5, 2) := by decide +kernel
theorem dX8_knows_229 : decode cX8_knows 229 = .ok (.ifCond .le 49, 3) := by decide +kernel
theorem dX8_knows_232 : decode cX8_knows 232 = .ok (.aload_n 0, 1) := by decide +kernel
theorem dX8_knows_233 : decode cX8_knows 233 = .ok (.getfield 60, 3) := by decide +kernel
theorem dX8_knows_236 : decode cX8_knows 236 = .ok (.aload_n 0, 1) := by decide +kernel
theorem dX8_knows_237 : decode cX8_knows 237 = .ok (.getfield 82, 3) := by decide +kernel
theorem dX8_knows_240 : decode cX8_knows 240 = .ok (.iload 5, 2) := by decide +kernel
theorem dX8_knows_242 : decode cX8_knows 242 = .ok (.iconst 1, 1) := by decide +kernel
theorem dX8_knows_243 : decode cX8_knows 243 = .ok (.isub, 1) := by decide +kernel
theorem dX8_knows_244 : decode cX8_knows 244 = .ok (.iaload, 1) := by decide +kernel
theorem dX8_knows_245 : decode cX8_knows 245 = .ok (.iaload, 1) := by decide +kernel
theorem dX8_knows_246 : decode cX8_knows 246 = .ok (.aload_n 0, 1) := by decide +kernel
theorem dX8_knows_247 : decode cX8_knows 247 = .ok (.getfield 60, 3) := by decide +kernel
theorem dX8_knows_250 : decode cX8_knows 250 = .ok (.iload 4, 2) := by decide +kernel
theorem dX8_knows_252 : decode cX8_knows 252 = .ok (.iaload, 1) := by decide +kernel
theorem dX8_knows_253 : decode cX8_knows 253 = .ok (.if_icmp .le 25, 3) := by decide +kernel
theorem dX8_knows_256 : decode cX8_knows 256 = .ok (.aload_n 0, 1) := by decide +kernel
theorem dX8_knows_257 : decode cX8_knows 257 = .ok (.getfield 82, 3) := by decide +kernel
theorem dX8_knows_260 : decode cX8_knows 260 = .ok (.iload 5, 2) := by decide +kernel
theorem dX8_knows_262 : decode cX8_knows 262 = .ok (.aload_n 0, 1) := by decide +kernel
theorem dX8_knows_263 : decode cX8_knows 263 = .ok (.getfield 82, 3) := by decide +kernel
theorem dX8_knows_266 : decode cX8_knows 266 = .ok (.iload 5, 2) := by decide +kernel
theorem dX8_knows_268 : decode cX8_knows 268 = .ok (.iconst 1, 1) := by decide +kernel
theorem dX8_knows_269 : decode cX8_knows 269 = .ok (.isub, 1) := by decide +kernel
theorem dX8_knows_270 : decode cX8_knows 270 = .ok (.iaload, 1) := by decide +kernel
theorem dX8_knows_271 : decode cX8_knows 271 = .ok (.iastore, 1) := by decide +kernel
theorem dX8_knows_272 : decode cX8_knows 272 = .ok (.iinc 5 (-1), 3) := by decide +kernel
theorem dX8_knows_275 : decode cX8_knows 275 = .ok (.goto (-48), 3) := by decide +kernel
theorem dX8_knows_278 : decode cX8_knows 278 = .ok (.aload_n 0, 1) := by decide +kernel
theorem dX8_knows_279 : decode cX8_knows 279 = .ok (.getfield 82, 3) := by decide +kernel
theorem dX8_knows_282 : decode cX8_knows 282 = .ok (.iload 5, 2) := by decide +kernel
theorem dX8_knows_284 : decode cX8_knows 284 = .ok (.iload 4, 2) := by decide +kernel
theorem dX8_knows_286 : decode cX8_knows 286 = .ok (.iastore, 1) := by decide +kernel
theorem dX8_knows_287 : decode cX8_knows 287 = .ok (.aload_n 0, 1) := by decide +kernel
theorem dX8_knows_288 : decode cX8_knows 288 = .ok (.dup, 1) := by decide +kernel
theorem dX8_knows_289 : decode cX8_knows 289 = .ok (.getfield 235, 3) := by decide +kernel
theorem dX8_knows_292 : decode cX8_knows 292 = .ok (.iconst 1, 1) := by decide +kernel
theorem dX8_knows_293 : decode cX8_knows 293 = .ok (.iadd, 1) := by decide +kernel
theorem dX8_knows_294 : decode cX8_knows 294 = .ok (.putfield 235, 3) := by decide +kernel
theorem dX8_knows_297 : decode cX8_knows 297 = .ok (.iinc 4 1, 3) := by decide +kernel
theorem dX8_knows_300 : decode cX8_knows 300 = .ok (.goto (-240), 3) := by decide +kernel
theorem dX8_knows_303 : decode cX8_knows 303 = .ok (.return_, 1) := by decide +kernel
theorem dX8_leaving_0 : decode cX8_leaving 0 = .ok (.ldc2_w 233, 3) := by decide +kernel
theorem dX8_leaving_3 : decode cX8_leaving 3 = .ok (.aload_n 0, 1) := by decide +kernel
theorem dX8_leaving_4 : decode cX8_leaving 4 = .ok (.getfield 39, 3) := by decide +kernel
theorem dX8_leaving_7 : decode cX8_leaving 7 = .ok (.iload_n 1, 1) := by decide +kernel
theorem dX8_leaving_8 : decode cX8_leaving 8 = .ok (.iaload, 1) := by decide +kernel
theorem dX8_leaving_9 : decode cX8_leaving 9 = .ok (.lshl, 1) := by decide +kernel
theorem dX8_leaving_10 : decode cX8_leaving 10 = .ok (.ldc2_w 233, 3) := by decide +kernel
theorem dX8_leaving_13 : decode cX8_leaving 13 = .ok (.land, 1) := by decide +kernel
theorem dX8_leaving_14 : decode cX8_leaving 14 = .ok (.bipush 6, 2) := by decide +kernel
theorem dX8_leaving_16 : decode cX8_leaving 16 = .ok (.iload_n 1, 1) := by decide +kernel
theorem dX8_leaving_17 : decode cX8_leaving 17 = .ok (.imul, 1) := by decide +kernel
theorem dX8_leaving_18 : decode cX8_leaving 18 = .ok (.lshl, 1) := by decide +kernel
theorem dX8_leaving_19 : decode cX8_leaving 19 = .ok (.lreturn, 1) := by decide +kernel
theorem dX8_come_0 : decode cX8_come 0 = .ok (.lconst 1, 1) := by decide +kernel
theorem dX8_come_1 : decode cX8_come 1 = .ok (.bipush 6, 2) := by decide +kernel
theorem dX8_come_3 : decode cX8_come 3 = .ok (.iload_n 0, 1) := by decide +kernel
theorem dX8_come_4 : decode cX8_come 4 = .ok (.imul, 1) := by decide +kernel
theorem dX8_come_5 : decode cX8_come 5 = .ok (.lshl, 1) := by decide +kernel
theorem dX8_come_6 : decode cX8_come 6 = .ok (.lreturn, 1) := by decide +kernel
theorem dX8_isPass_0 : decode cX8_isPass 0 = .ok (.aload_n 0, 1) := by decide +kernel
theorem dX8_isPass_1 : decode cX8_isPass 1 = .ok (.getfield 82, 3) := by decide +kernel
theorem dX8_isPass_4 : decode cX8_isPass 4 = .ok (.iload_n 1, 1) := by decide +kernel
theorem dX8_isPass_5 : decode cX8_isPass 5 = .ok (.iaload, 1) := by decide +kernel
theorem dX8_isPass_6 : decode cX8_isPass 6 = .ok (.istore_n 3, 1) := by decide +kernel
theorem dX8_isPass_7 : decode cX8_isPass 7 = .ok (.iload_n 2, 1) := by decide +kernel
theorem dX8_isPass_8 : decode cX8_isPass 8 = .ok (.aload_n 0, 1) := by decide +kernel
theorem dX8_isPass_9 : decode cX8_isPass 9 = .ok (.getfield 60, 3) := by decide +kernel
theorem dX8_isPass_12 : decode cX8_isPass 12 = .ok (.iload_n 3, 1) := by decide +kernel
theorem dX8_isPass_13 : decode cX8_isPass 13 = .ok (.iaload, 1) := by decide +kernel
theorem dX8_isPass_14 : decode cX8_isPass 14 = .ok (.isub, 1) := by decide +kernel
theorem dX8_isPass_15 : decode cX8_isPass 15 = .ok (.istore 4, 2) := by decide +kernel
theorem dX8_isPass_17 : decode cX8_isPass 17 = .ok (.iload 4, 2) := by decide +kernel
theorem dX8_isPass_19 : decode cX8_isPass 19 = .ok (.ifCond .ge 9, 3) := by decide +kernel
theorem dX8_isPass_22 : decode cX8_isPass 22 = .ok (.iload 4, 2) := by decide +kernel
theorem dX8_isPass_24 : decode cX8_isPass 24 = .ok (.ineg, 1) := by decide +kernel
theorem dX8_isPass_25 : decode cX8_isPass 25 = .ok (.goto 5, 3) := by decide +kernel
theorem dX8_isPass_28 : decode cX8_isPass 28 = .ok (.iload 4, 2) := by decide +kernel
theorem dX8_isPass_30 : decode cX8_isPass 30 = .ok (.aload_n 0, 1) := by decide +kernel
theorem dX8_isPass_31 : decode cX8_isPass 31 = .ok (.getfield 48, 3) := by decide +kernel
theorem dX8_isPass_34 : decode cX8_isPass 34 = .ok (.aload_n 0, 1) := by decide +kernel
theorem dX8_isPass_35 : decode cX8_isPass 35 = .ok (.getfield 57, 3) := by decide +kernel
theorem dX8_isPass_38 : decode cX8_isPass 38 = .ok (.iload_n 3, 1) := by decide +kernel
theorem dX8_isPass_39 : decode cX8_isPass 39 = .ok (.iaload, 1) := by decide +kernel
theorem dX8_isPass_40 : decode cX8_isPass 40 = .ok (.iaload, 1) := by decide +kernel
theorem dX8_isPass_41 : decode cX8_isPass 41 = .ok (.if_icmp .gt 7, 3) := by decide +kernel
theorem dX8_isPass_44 : decode cX8_isPass 44 = .ok (.iconst 1, 1) := by decide +kernel
theorem dX8_isPass_45 : decode cX8_isPass 45 = .ok (.goto 4, 3) := by decide +kernel
theorem dX8_isPass_48 : decode cX8_isPass 48 = .ok (.iconst 0, 1) := by decide +kernel
theorem dX8_isPass_49 : decode cX8_isPass 49 = .ok (.ireturn, 1) := by decide +kernel
theorem dX8_stays_0 : decode cX8_stays 0 = .ok (.lconst 0, 1) := by decide +kernel
theorem dX8_stays_1 : decode cX8_stays 1 = .ok (.lstore_n 3, 1) := by decide +kernel
theorem dX8_stays_2 : decode cX8_stays 2 = .ok (.iconst 0, 1) := by decide +kernel
theorem dX8_stays_3 : decode cX8_stays 3 = .ok (.istore 5, 2) := by decide +kernel
theorem dX8_stays_5 : decode cX8_stays 5 = .ok (.iload 5, 2) := by decide +kernel
theorem dX8_stays_7 : decode cX8_stays 7 = .ok (.aload_n 0, 1) := by decide +kernel
theorem dX8_stays_8 : decode cX8_stays 8 = .ok (.getfield 198, 3) := by decide +kernel
theorem dX8_stays_11 : decode cX8_stays 11 = .ok (.if_icmp .ge 46, 3) := by decide +kernel
theorem dX8_stays_14 : decode cX8_stays 14 = .ok (.lload_n 1, 1) := by decide +kernel
theorem dX8_stays_15 : decode cX8_stays 15 = .ok (.bipush 6, 2) := by decide +kernel
theorem dX8_stays_17 : decode cX8_stays 17 = .ok (.iload 5, 2) := by decide +kernel
theorem dX8_stays_19 : decode cX8_stays 19 = .ok (.imul, 1) := by decide +kernel
theorem dX8_stays_20 : decode cX8_stays 20 = .ok (.lushr, 1) := by decide +kernel
theorem dX8_stays_21 : decode cX8_stays 21 = .ok (.ldc2_w 233, 3) := by decide +kernel
theorem dX8_stays_24 : decode cX8_stays 24 = .ok (.land, 1) := by decide +kernel
theorem dX8_stays_25 : decode cX8_stays 25 = .ok (.lstore 6, 2) := by decide +kernel
theorem dX8_stays_27 : decode cX8_stays 27 = .ok (.lload_n 3, 1) := by decide +kernel
theorem dX8_stays_28 : decode cX8_stays 28 = .ok (.lload 6, 2) := by decide +kernel
theorem dX8_stays_30 : decode cX8_stays 30 = .ok (.iconst 1, 1) := by decide +kernel
theorem dX8_stays_31 : decode cX8_stays 31 = .ok (.lshl, 1) := by decide +kernel
theorem dX8_stays_32 : decode cX8_stays 32 = .ok (.ldc2_w 233, 3) := by decide +kernel
theorem dX8_stays_35 : decode cX8_stays 35 = .ok (.land, 1) := by decide +kernel
theorem dX8_stays_36 : decode cX8_stays 36 = .ok (.lload 6, 2) := by decide +kernel
theorem dX8_stays_38 : decode cX8_stays 38 = .ok (.ldc2_w 253, 3) := by decide +kernel
theorem dX8_stays_41 : decode cX8_stays 41 = .ok (.land, 1) := by decide +kernel
theorem dX8_stays_42 : decode cX8_stays 42 = .ok (.lor, 1) := by decide +kernel
theorem dX8_stays_43 : decode cX8_stays 43 = .ok (.bipush 6, 2) := by decide +kernel
theorem dX8_stays_45 : decode cX8_stays 45 = .ok (.iload 5, 2) := by decide +kernel
theorem dX8_stays_47 : decode cX8_stays 47 = .ok (.imul, 1) := by decide +kernel
theorem dX8_stays_48 : decode cX8_stays 48 = .ok (.lshl, 1) := by decide +kernel
theorem dX8_stays_49 : decode cX8_stays 49 = .ok (.lor, 1) := by decide +kernel
theorem dX8_stays_50 : decode cX8_stays 50 = .ok (.lstore_n 3, 1) := by decide +kernel
theorem dX8_stays_51 : decode cX8_stays 51 = .ok (.iinc 5 1, 3) := by decide +kernel
theorem dX8_stays_54 : decode cX8_stays 54 = .ok (.goto (-49), 3) := by decide +kernel
theorem dX8_stays_57 : decode cX8_stays 57 = .ok (.lload_n 3, 1) := by decide +kernel
theorem dX8_stays_58 : decode cX8_stays 58 = .ok (.lreturn, 1) := by decide +kernel
theorem dX8_goes_0 : decode cX8_goes 0 = .ok (.iconst 0, 1) := by decide +kernel
theorem dX8_goes_1 : decode cX8_goes 1 = .ok (.istore_n 3, 1) := by decide +kernel
theorem dX8_goes_2 : decode cX8_goes 2 = .ok (.iload_n 3, 1) := by decide +kernel
theorem dX8_goes_3 : decode cX8_goes 3 = .ok (.iload_n 2, 1) := by decide +kernel
theorem dX8_goes_4 : decode cX8_goes 4 = .ok (.if_icmp .gt 16, 3) := by decide +kernel
theorem dX8_goes_7 : decode cX8_goes 7 = .ok (.aload_n 0, 1) := by decide +kernel
theorem dX8_goes_8 : decode cX8_goes 8 = .ok (.getfield 101, 3) := by decide +kernel
theorem dX8_goes_11 : decode cX8_goes 11 = .ok (.iload_n 3, 1) := by decide +kernel
theorem dX8_goes_12 : decode cX8_goes 12 = .ok (.lconst 0, 1) := by decide +kernel
theorem dX8_goes_13 : decode cX8_goes 13 = .ok (.lastore, 1) := by decide +kernel
theorem dX8_goes_14 : decode cX8_goes 14 = .ok (.iinc 3 1, 3) := by decide +kernel
theorem dX8_goes_17 : decode cX8_goes 17 = .ok (.goto (-15), 3) := by decide +kernel
theorem dX8_goes_20 : decode cX8_goes 20 = .ok (.iconst 0, 1) := by decide +kernel
theorem dX8_goes_21 : decode cX8_goes 21 = .ok (.istore_n 3, 1) := by decide +kernel
theorem dX8_goes_22 : decode cX8_goes 22 = .ok (.iload_n 3, 1) := by decide +kernel
theorem dX8_goes_23 : decode cX8_goes 23 = .ok (.iload_n 2, 1) := by decide +kernel
theorem dX8_goes_24 : decode cX8_goes 24 = .ok (.if_icmp .gt 214, 3) := by decide +kernel
theorem dX8_goes_27 : decode cX8_goes 27 = .ok (.aload_n 0, 1) := by decide +kernel
theorem dX8_goes_28 : decode cX8_goes 28 = .ok (.getfield 98, 3) := by decide +kernel
theorem dX8_goes_31 : decode cX8_goes 31 = .ok (.iload_n 3, 1) := by decide +kernel
theorem dX8_goes_32 : decode cX8_goes 32 = .ok (.laload, 1) := by decide +kernel
theorem dX8_goes_33 : decode cX8_goes 33 = .ok (.lstore 4, 2) := by decide +kernel
theorem dX8_goes_35 : decode cX8_goes 35 = .ok (.lload 4, 2) := by decide +kernel
theorem dX8_goes_37 : decode cX8_goes 37 = .ok (.lconst 0, 1) := by decide +kernel
theorem dX8_goes_38 : decode cX8_goes 38 = .ok (.lcmp, 1) := by decide +kernel
theorem dX8_goes_39 : decode cX8_goes 39 = .ok (.ifCond .ne 6, 3) := by decide +kernel
theorem dX8_goes_42 : decode cX8_goes 42 = .ok (.goto 190, 3) := by decide +kernel
theorem dX8_goes_45 : decode cX8_goes 45 = .ok (.aload_n 0, 1) := by decide +kernel
theorem dX8_goes_46 : decode cX8_goes 46 = .ok (.getfield 101, 3) := by decide +kernel
theorem dX8_goes_49 : decode cX8_goes 49 = .ok (.iload_n 3, 1) := by decide +kernel
theorem dX8_goes_50 : decode cX8_goes 50 = .ok (.dup2, 1) := by decide +kernel
theorem dX8_goes_51 : decode cX8_goes 51 = .ok (.laload, 1) := by decide +kernel
theorem dX8_goes_52 : decode cX8_goes 52 = .ok (.aload_n 0, 1) := by decide +kernel
theorem dX8_goes_53 : decode cX8_goes 53 = .ok (.lload 4, 2) := by decide +kernel
theorem dX8_goes_55 : decode cX8_goes 55 = .ok (.invokevirtual 255, 3) := by decide +kernel
theorem dX8_goes_58 : decode cX8_goes 58 = .ok (.lor, 1) := by decide +kernel
theorem dX8_goes_59 : decode cX8_goes 59 = .ok (.lastore, 1) := by decide +kernel
theorem dX8_goes_60 : decode cX8_goes 60 = .ok (.iconst 0, 1) := by decide +kernel
theorem dX8_goes_61 : decode cX8_goes 61 = .ok (.istore 6, 2) := by decide +kernel
theorem dX8_goes_63 : decode cX8_goes 63 = .ok (.iload 6, 2) := by decide +kernel
theorem dX8_goes_65 : decode cX8_goes 65 = .ok (.aload_n 0, 1) := by decide +kernel
theorem dX8_goes_66 : decode cX8_goes 66 = .ok (.getfield 201, 3) := by decide +kernel
theorem dX8_goes_69 : decode cX8_goes 69 = .ok (.if_icmp .ge 103, 3) := by decide +kernel
theorem dX8_goes_72 : decode cX8_goes 72 = .ok (.aload_n 0, 1) := by decide +kernel
theorem dX8_goes_73 : decode cX8_goes 73 = .ok (.getfield 89, 3) := by decide +kernel
theorem dX8_goes_76 : decode cX8_goes 76 = .ok (.bipush 10, 2) := by decide +kernel
theorem dX8_goes_78 : decode cX8_goes 78 = .ok (.iload_n 1, 1) := by decide +kernel
theorem dX8_goes_79 : decode cX8_goes 79 = .ok (.imul, 1) := by decide +kernel
theorem dX8_goes_80 : decode cX8_goes 80 = .ok (.iload 6, 2) := by decide +kernel
theorem dX8_goes_82 : decode cX8_goes 82 = .ok (.iadd, 1) := by decide +kernel
theorem dX8_goes_83 : decode cX8_goes 83 = .ok (.baload, 1) := by decide +kernel
theorem dX8_goes_84 : decode cX8_goes 84 = .ok (.ifCond .ne 6, 3) := by decide +kernel
theorem dX8_goes_87 : decode cX8_goes 87 = .ok (.goto 79, 3) := by decide +kernel
theorem dX8_goes_90 : decode cX8_goes 90 = .ok (.lload 4, 2) := by decide +kernel
theorem dX8_goes_92 : decode cX8_goes 92 = .ok (.aload_n 0, 1) := by decide +kernel
theorem dX8_goes_93 : decode cX8_goes 93 = .ok (.aload_n 0, 1) := by decide +kernel
theorem dX8_goes_94 : decode cX8_goes 94 = .ok (.getfield 42, 3) := by decide +kernel
theorem dX8_goes_97 : decode cX8_goes 97 = .ok (.iload 6, 2) := by decide +kernel
theorem dX8_goes_99 : decode cX8_goes 99 = .ok (.iaload, 1) := by decide +kernel
theorem dX8_goes_100 : decode cX8_goes 100 = .ok (.invokevirtual 259, 3) := by decide +kernel
theorem dX8_goes_103 : decode cX8_goes 103 = .ok (.land, 1) := by decide +kernel
theorem dX8_goes_104 : decode cX8_goes 104 = .ok (.lconst 0, 1) := by decide +kernel
theorem dX8_goes_105 : decode cX8_goes 105 = .ok (.lcmp, 1) := by decide +kernel
theorem dX8_goes_106 : decode cX8_goes 106 = .ok (.ifCond .eq 22, 3) := by decide +kernel
theorem dX8_goes_109 : decode cX8_goes 109 = .ok (.aload_n 0, 1) := by decide +kernel
theorem dX8_goes_110 : decode cX8_goes 110 = .ok (.getfield 101, 3) := by decide +kernel
theorem dX8_goes_113 : decode cX8_goes 113 = .ok (.iload_n 3, 1) := by decide +kernel
theorem dX8_goes_114 : decode cX8_goes 114 = .ok (.dup2, 1) := by decide +kernel
theorem dX8_goes_115 : decode cX8_goes 115 = .ok (.laload, 1) := by decide +kernel
theorem dX8_goes_116 : decode cX8_goes 116 = .ok (.aload_n 0, 1) := by decide +kernel
theorem dX8_goes_117 : decode cX8_goes 117 = .ok (.getfield 45, 3) := by decide +kernel
theorem dX8_goes_120 : decode cX8_goes 120 = .ok (.iload 6, 2) := by decide +kernel
theorem dX8_goes_122 : decode cX8_goes 122 = .ok (.iaload, 1) := by decide +kernel
theorem dX8_goes_123 : decode cX8_goes 123 = .ok (.invokestatic 262, 3) := by decide +kernel
theorem dX8_goes_126 : decode cX8_goes 126 = .ok (.lor, 1) := by decide +kernel
theorem dX8_goes_127 : decode cX8_goes 127 = .ok (.lastore, 1) := by decide +kernel
theorem dX8_goes_128 : decode cX8_goes 128 = .ok (.lload 4, 2) := by decide +kernel
theorem dX8_goes_130 : decode cX8_goes 130 = .ok (.aload_n 0, 1) := by decide +kernel
theorem dX8_goes_131 : decode cX8_goes 131 = .ok (.aload_n 0, 1) := by decide +kernel
theorem dX8_goes_132 : decode cX8_goes 132 = .ok (.getfield 45, 3) := by decide +kernel
theorem dX8_goes_135 : decode cX8_goes 135 = .ok (.iload 6, 2) := by decide +kernel
theorem dX8_goes_137 : decode cX8_goes 137 = .ok (.iaload, 1) := by decide +kernel
theorem dX8_goes_138 : decode cX8_goes 138 = .ok (.invokevirtual 259, 3) := by decide +kernel
theorem dX8_goes_141 : decode cX8_goes 141 = .ok (.land, 1) := by decide +kernel
theorem dX8_goes_142 : decode cX8_goes 142 = .ok (.lconst 0, 1) := by decide +kernel
theorem dX8_goes_143 : decode cX8_goes 143 = .ok (.lcmp, 1) := by decide +kernel
theorem dX8_goes_144 : decode cX8_goes 144 = .ok (.ifCond .eq 22, 3) := by decide +kernel
theorem dX8_goes_147 : decode cX8_goes 147 = .ok (.aload_n 0, 1) := by decide +kernel
theorem dX8_goes_148 : decode cX8_goes 148 = .ok (.getfield 101, 3) := by decide +kernel
theorem dX8_goes_151 : decode cX8_goes 151 = .ok (.iload_n 3, 1) := by decide +kernel
theorem dX8_goes_152 : decode cX8_goes 152 = .ok (.dup2, 1) := by decide +kernel
theorem dX8_goes_153 : decode cX8_goes 153 = .ok (.laload, 1) := by decide +kernel
theorem dX8_goes_154 : decode cX8_goes 154 = .ok (.aload_n 0, 1) := by decide +kernel
theorem dX8_goes_155 : decode cX8_goes 155 = .ok (.getfield 42, 3) := by decide +kernel
theorem dX8_goes_158 : decode cX8_goes 158 = .ok (.iload 6, 2) := by decide +kernel
theorem dX8_goes_160 : decode cX8_goes 160 = .ok (.iaload, 1) := by decide +kernel
theorem dX8_goes_161 : decode cX8_goes 161 = .ok (.invokestatic 262, 3) := by decide +kernel
theorem dX8_goes_164 : decode cX8_goes 164 = .ok (.lor, 1) := by decide +kernel
theorem dX8_goes_165 : decode cX8_goes 165 = .ok (.lastore, 1) := by decide +kernel
theorem dX8_goes_166 : decode cX8_goes 166 = .ok (.iinc 6 1, 3) := by decide +kernel
theorem dX8_goes_169 : decode cX8_goes 169 = .ok (.goto (-106), 3) := by decide +kernel
theorem dX8_goes_172 : decode cX8_goes 172 = .ok (.iload_n 3, 1) := by decide +kernel
theorem dX8_goes_173 : decode cX8_goes 173 = .ok (.iload_n 2, 1) := by decide +kernel
theorem dX8_goes_174 : decode cX8_goes 174 = .ok (.if_icmp .ge 58, 3) := by decide +kernel
theorem dX8_goes_177 : decode cX8_goes 177 = .ok (.aload_n 0, 1) := by decide +kernel
theorem dX8_goes_178 : decode cX8_goes 178 = .ok (.iload_n 3, 1) := by decide +kernel
theorem dX8_goes_179 : decode cX8_goes 179 = .ok (.iload_n 1, 1) := by decide +kernel
theorem dX8_goes_180 : decode cX8_goes 180 = .ok (.invokevirtual 265, 3) := by decide +kernel
theorem dX8_goes_183 : decode cX8_goes 183 = .ok (.ifCond .eq 49, 3) := by decide +kernel
theorem dX8_goes_186 : decode cX8_goes 186 = .ok (.lload 4, 2) := by decide +kernel
theorem dX8_goes_188 : decode cX8_goes 188 = .ok (.aload_n 0, 1) := by decide +kernel
theorem dX8_goes_189 : decode cX8_goes 189 = .ok (.aload_n 0, 1) := by decide +kernel
theorem dX8_goes_190 : decode cX8_goes 190 = .ok (.aload_n 0, 1) := by decide +kernel
theorem dX8_goes_191 : decode cX8_goes 191 = .ok (.getfield 82, 3) := by decide +kernel
theorem dX8_goes_194 : decode cX8_goes 194 = .ok (.iload_n 3, 1) := by decide +kernel
theorem dX8_goes_195 : decode cX8_goes 195 = .ok (.iaload, 1) := by decide +kernel
theorem dX8_goes_196 : decode cX8_goes 196 = .ok (.invokevirtual 269, 3) := by decide +kernel
theorem dX8_goes_199 : decode cX8_goes 199 = .ok (.invokevirtual 259, 3) := by decide +kernel
theorem dX8_goes_202 : decode cX8_goes 202 = .ok (.land, 1) := by decide +kernel
theorem dX8_goes_203 : decode cX8_goes 203 = .ok (.lconst 0, 1) := by decide +kernel
theorem dX8_goes_204 : decode cX8_goes 204 = .ok (.lcmp, 1) := by decide +kernel
theorem dX8_goes_205 : decode cX8_goes 205 = .ok (.ifCond .eq 27, 3) := by decide +kernel
theorem dX8_goes_208 : decode cX8_goes 208 = .ok (.aload_n 0, 1) := by decide +kernel
theorem dX8_goes_209 : decode cX8_goes 209 = .ok (.getfield 101, 3) := by decide +kernel
theorem dX8_goes_212 : decode cX8_goes 212 = .ok (.iload_n 3, 1) := by decide +kernel
theorem dX8_goes_213 : decode cX8_goes 213 = .ok (.iconst 1, 1) := by decide +kernel
theorem dX8_goes_214 : decode cX8_goes 214 = .ok (.iadd, 1) := by decide +kernel
theorem dX8_goes_215 : decode cX8_goes 215 = .ok (.dup2, 1) := by decide +kernel
theorem dX8_goes_216 : decode cX8_goes 216 = .ok (.laload, 1) := by decide +kernel
theorem dX8_goes_217 : decode cX8_goes 217 = .ok (.aload_n 0, 1) := by decide +kernel
theorem dX8_goes_218 : decode cX8_goes 218 = .ok (.aload_n 0, 1) := by decide +kernel
theorem dX8_goes_219 : decode cX8_goes 219 = .ok (.getfield 82, 3) := by decide +kernel
theorem dX8_goes_222 : decode cX8_goes 222 = .ok (.iload_n 3, 1) := by decide +kernel
theorem dX8_goes_223 : decode cX8_goes 223 = .ok (.iaload, 1) := by decide +kernel
theorem dX8_goes_224 : decode cX8_goes 224 = .ok (.invokevirtual 272, 3) := by decide +kernel
theorem dX8_goes_227 : decode cX8_goes 227 = .ok (.invokestatic 262, 3) := by decide +kernel
theorem dX8_goes_230 : decode cX8_goes 230 = .ok (.lor, 1) := by decide +kernel
theorem dX8_goes_231 : decode cX8_goes 231 = .ok (.lastore, 1) := by decide +kernel
theorem dX8_goes_232 : decode cX8_goes 232 = .ok (.iinc 3 1, 3) := by decide +kernel
theorem dX8_goes_235 : decode cX8_goes 235 = .ok (.goto (-213), 3) := by decide +kernel
theorem dX8_goes_238 : decode cX8_goes 238 = .ok (.iconst 0, 1) := by decide +kernel
theorem dX8_goes_239 : decode cX8_goes 239 = .ok (.istore_n 3, 1) := by decide +kernel
theorem dX8_goes_240 : decode cX8_goes 240 = .ok (.iload_n 3, 1) := by decide +kernel
theorem dX8_goes_241 : decode cX8_goes 241 = .ok (.iload_n 2, 1) := by decide +kernel
theorem dX8_goes_242 : decode cX8_goes 242 = .ok (.if_icmp .gt 28, 3) := by decide +kernel
theorem dX8_goes_245 : decode cX8_goes 245 = .ok (.aload_n 0, 1) := by decide +kernel
theorem dX8_goes_246 : decode cX8_goes 246 = .ok (.getfield 98, 3) := by decide +kernel
theorem dX8_goes_249 : decode cX8_goes 249 = .ok (.iload_n 3, 1) := by decide +kernel
theorem dX8_goes_250 : decode cX8_goes 250 = .ok (.aload_n 0, 1) := by decide +kernel
theorem dX8_goes_251 : decode cX8_goes 251 = .ok (.getfield 101, 3) := by decide +kernel
theorem dX8_goes_254 : decode cX8_goes 254 = .ok (.iload_n 3, 1) := by decide +kernel
theorem dX8_goes_255 : decode cX8_goes 255 = .ok (.laload, 1) := by decide +kernel
theorem dX8_goes_256 : decode cX8_goes 256 = .ok (.aload_n 0, 1) := by decide +kernel
theorem dX8_goes_257 : decode cX8_goes 257 = .ok (.getfield 85, 3) := by decide +kernel
theorem dX8_goes_260 : decode cX8_goes 260 = .ok (.iload_n 1, 1) := by decide +kernel
theorem dX8_goes_261 : decode cX8_goes 261 = .ok (.laload, 1) := by decide +kernel
theorem dX8_goes_262 : decode cX8_goes 262 = .ok (.land, 1) := by decide +kernel
theorem dX8_goes_263 : decode cX8_goes 263 = .ok (.lastore, 1) := by decide +kernel
theorem dX8_goes_264 : decode cX8_goes 264 = .ok (.iinc 3 1, 3) := by decide +kernel
theorem dX8_goes_267 : decode cX8_goes 267 = .ok (.goto (-27), 3) := by decide +kernel
theorem dX8_goes_270 : decode cX8_goes 270 = .ok (.return_, 1) := by decide +kernel
theorem dX8_begins_0 : decode cX8_begins 0 = .ok (.iconst 0, 1) := by decide +kernel
theorem dX8_begins_1 : decode cX8_begins 1 = .ok (.istore_n 2, 1) := by decide +kernel
theorem dX8_begins_2 : decode cX8_begins 2 = .ok (.iload_n 2, 1) := by decide +kernel
theorem dX8_begins_3 : decode cX8_begins 3 = .ok (.iload_n 1, 1) := by decide +kernel
theorem dX8_begins_4 : decode cX8_begins 4 = .ok (.if_icmp .gt 16, 3) := by decide +kernel
theorem dX8_begins_7 : decode cX8_begins 7 = .ok (.aload_n 0, 1) := by decide +kernel
theorem dX8_begins_8 : decode cX8_begins 8 = .ok (.getfield 98, 3) := by decide +kernel
theorem dX8_begins_11 : decode cX8_begins 11 = .ok (.iload_n 2, 1) := by decide +kernel
theorem dX8_begins_12 : decode cX8_begins 12 = .ok (.lconst 0, 1) := by decide +kernel
theorem dX8_begins_13 : decode cX8_begins 13 = .ok (.lastore, 1) := by decide +kernel
theorem dX8_begins_14 : decode cX8_begins 14 = .ok (.iinc 2 1, 3) := by decide +kernel
theorem dX8_begins_17 : decode cX8_begins 17 = .ok (.goto (-15), 3) := by decide +kernel
theorem dX8_begins_20 : decode cX8_begins 20 = .ok (.aload_n 0, 1) := by decide +kernel
theorem dX8_begins_21 : decode cX8_begins 21 = .ok (.getfield 98, 3) := by decide +kernel
theorem dX8_begins_24 : decode cX8_begins 24 = .ok (.iconst 0, 1) := by decide +kernel
theorem dX8_begins_25 : decode cX8_begins 25 = .ok (.ldc2_w 253, 3) := by decide +kernel
theorem dX8_begins_28 : decode cX8_begins 28 = .ok (.lastore, 1) := by decide +kernel
theorem dX8_begins_29 : decode cX8_begins 29 = .ok (.return_, 1) := by decide +kernel
theorem dX8_fillFront_0 : decode cX8_fillFront 0 = .ok (.aload_n 0, 1) := by decide +kernel
theorem dX8_fillFront_1 : decode cX8_fillFront 1 = .ok (.aload_n 0, 1) := by decide +kernel
theorem dX8_fillFront_2 : decode cX8_fillFront 2 = .ok (.getfield 235, 3) := by decide +kernel
theorem dX8_fillFront_5 : decode cX8_fillFront 5 = .ok (.invokevirtual 275, 3) := by decide +kernel
theorem dX8_fillFront_8 : decode cX8_fillFront 8 = .ok (.iconst 0, 1) := by decide +kernel
theorem dX8_fillFront_9 : decode cX8_fillFront 9 = .ok (.istore_n 1, 1) := by decide +kernel
theorem dX8_fillFront_10 : decode cX8_fillFront 10 = .ok (.iload_n 1, 1) := by decide +kernel
theorem dX8_fillFront_11 : decode cX8_fillFront 11 = .ok (.sipush 200, 3) := by decide +kernel
theorem dX8_fillFront_14 : decode cX8_fillFront 14 = .ok (.if_icmp .gt 57, 3) := by decide +kernel
theorem dX8_fillFront_17 : decode cX8_fillFront 17 = .ok (.iload_n 1, 1) := by decide +kernel
theorem dX8_fillFront_18 : decode cX8_fillFront 18 = .ok (.ifCond .le 14, 3) := by decide +kernel
theorem dX8_fillFront_21 : decode cX8_fillFront 21 = .ok (.aload_n 0, 1) := by decide +kernel
theorem dX8_fillFront_22 : decode cX8_fillFront 22 = .ok (.iload_n 1, 1) := by decide +kernel
theorem dX8_fillFront_23 : decode cX8_fillFront 23 = .ok (.iconst 1, 1) := by decide +kernel
theorem dX8_fillFront_24 : decode cX8_fillFront 24 = .ok (.isub, 1) := by decide +kernel
theorem dX8_fillFront_25 : decode cX8_fillFront 25 = .ok (.aload_n 0, 1) := by decide +kernel
theorem dX8_fillFront_26 : decode cX8_fillFront 26 = .ok (.getfield 235, 3) := by decide +kernel
theorem dX8_fillFront_29 : decode cX8_fillFront 29 = .ok (.invokevirtual 278, 3) := by decide +kernel
theorem dX8_fillFront_32 : decode cX8_fillFront 32 = .ok (.iconst 0, 1) := by decide +kernel
theorem dX8_fillFront_33 : decode cX8_fillFront 33 = .ok (.istore_n 2, 1) := by decide +kernel
theorem dX8_fillFront_34 : decode cX8_fillFront 34 = .ok (.iload_n 2, 1) := by decide +kernel
theorem dX8_fillFront_35 : decode cX8_fillFront 35 = .ok (.aload_n 0, 1) := by decide +kernel
theorem dX8_fillFront_36 : decode cX8_fillFront 36 = .ok (.getfield 235, 3) := by decide +kernel
theorem dX8_fillFront_39 : decode cX8_fillFront 39 = .ok (.if_icmp .gt 26, 3) := by decide +kernel
theorem dX8_fillFront_42 : decode cX8_fillFront 42 = .ok (.aload_n 0, 1) := by decide +kernel
theorem dX8_fillFront_43 : decode cX8_fillFront 43 = .ok (.getfield 92, 3) := by decide +kernel
theorem dX8_fillFront_46 : decode cX8_fillFront 46 = .ok (.bipush 13, 2) := by decide +kernel
theorem dX8_fillFront_48 : decode cX8_fillFront 48 = .ok (.iload_n 1, 1) := by decide +kernel
theorem dX8_fillFront_49 : decode cX8_fillFront 49 = .ok (.imul, 1) := by decide +kernel
theorem dX8_fillFront_50 : decode cX8_fillFront 50 = .ok (.iload_n 2, 1) := by decide +kernel
theorem dX8_fillFront_51 : decode cX8_fillFront 51 = .ok (.iadd, 1) := by decide +kernel
theorem dX8_fillFront_52 : decode cX8_fillFront 52 = .ok (.aload_n 0, 1) := by decide +kernel
theorem dX8_fillFront_53 : decode cX8_fillFront 53 = .ok (.getfield 98, 3) := by decide +kernel
theorem dX8_fillFront_56 : decode cX8_fillFront 56 = .ok (.iload_n 2, 1) := by decide +kernel
theorem dX8_fillFront_57 : decode cX8_fillFront 57 = .ok (.laload, 1) := by decide +kernel
theorem dX8_fillFront_58 : decode cX8_fillFront 58 = .ok (.lastore, 1) := by decide +kernel
theorem dX8_fillFront_59 : decode cX8_fillFront 59 = .ok (.iinc 2 1, 3) := by decide +kernel
theorem dX8_fillFront_62 : decode cX8_fillFront 62 = .ok (.goto (-28), 3) := by decide +kernel
theorem dX8_fillFront_65 : decode cX8_fillFront 65 = .ok (.iinc 1 1, 3) := by decide +kernel
theorem dX8_fillFront_68 : decode cX8_fillFront 68 = .ok (.goto (-58), 3) := by decide +kernel
theorem dX8_fillFront_71 : decode cX8_fillFront 71 = .ok (.return_, 1) := by decide +kernel
theorem dX8_stayed_0 : decode cX8_stayed 0 = .ok (.lconst 0, 1) := by decide +kernel
theorem dX8_stayed_1 : decode cX8_stayed 1 = .ok (.lstore_n 3, 1) := by decide +kernel
theorem dX8_stayed_2 : decode cX8_stayed 2 = .ok (.iconst 0, 1) := by decide +kernel
theorem dX8_stayed_3 : decode cX8_stayed 3 = .ok (.istore 5, 2) := by decide +kernel
theorem dX8_stayed_5 : decode cX8_stayed 5 = .ok (.iload 5, 2) := by decide +kernel
theorem dX8_stayed_7 : decode cX8_stayed 7 = .ok (.aload_n 0, 1) := by decide +kernel
theorem dX8_stayed_8 : decode cX8_stayed 8 = .ok (.getfield 198, 3) := by decide +kernel
theorem dX8_stayed_11 : decode cX8_stayed 11 = .ok (.if_icmp .ge 42, 3) := by decide +kernel
theorem dX8_stayed_14 : decode cX8_stayed 14 = .ok (.lload_n 1, 1) := by decide +kernel
theorem dX8_stayed_15 : decode cX8_stayed 15 = .ok (.bipush 6, 2) := by decide +kernel
theorem dX8_stayed_17 : decode cX8_stayed 17 = .ok (.iload 5, 2) := by decide +kernel
theorem dX8_stayed_19 : decode cX8_stayed 19 = .ok (.imul, 1) := by decide +kernel
theorem dX8_stayed_20 : decode cX8_stayed 20 = .ok (.lushr, 1) := by decide +kernel
theorem dX8_stayed_21 : decode cX8_stayed 21 = .ok (.ldc2_w 233, 3) := by decide +kernel
theorem dX8_stayed_24 : decode cX8_stayed 24 = .ok (.land, 1) := by decide +kernel
theorem dX8_stayed_25 : decode cX8_stayed 25 = .ok (.lstore 6, 2) := by decide +kernel
theorem dX8_stayed_27 : decode cX8_stayed 27 = .ok (.lload_n 3, 1) := by decide +kernel
theorem dX8_stayed_28 : decode cX8_stayed 28 = .ok (.lload 6, 2) := by decide +kernel
theorem dX8_stayed_30 : decode cX8_stayed 30 = .ok (.iconst 1, 1) := by decide +kernel
theorem dX8_stayed_31 : decode cX8_stayed 31 = .ok (.lshr, 1) := by decide +kernel
theorem dX8_stayed_32 : decode cX8_stayed 32 = .ok (.lload 6, 2) := by decide +kernel
theorem dX8_stayed_34 : decode cX8_stayed 34 = .ok (.ldc2_w 253, 3) := by decide +kernel
theorem dX8_stayed_37 : decode cX8_stayed 37 = .ok (.land, 1) := by decide +kernel
theorem dX8_stayed_38 : decode cX8_stayed 38 = .ok (.lor, 1) := by decide +kernel
theorem dX8_stayed_39 : decode cX8_stayed 39 = .ok (.bipush 6, 2) := by decide +kernel
theorem dX8_stayed_41 : decode cX8_stayed 41 = .ok (.iload 5, 2) := by decide +kernel
theorem dX8_stayed_43 : decode cX8_stayed 43 = .ok (.imul, 1) := by decide +kernel
theorem dX8_stayed_44 : decode cX8_stayed 44 = .ok (.lshl, 1) := by decide +kernel
theorem dX8_stayed_45 : decode cX8_stayed 45 = .ok (.lor, 1) := by decide +kernel
theorem dX8_stayed_46 : decode cX8_stayed 46 = .ok (.lstore_n 3, 1) := by decide +kernel
theorem dX8_stayed_47 : decode cX8_stayed 47 = .ok (.iinc 5 1, 3) := by decide +kernel
theorem dX8_stayed_50 : decode cX8_stayed 50 = .ok (.goto (-45), 3) := by decide +kernel
theorem dX8_stayed_53 : decode cX8_stayed 53 = .ok (.lload_n 3, 1) := by decide +kernel
theorem dX8_stayed_54 : decode cX8_stayed 54 = .ok (.lreturn, 1) := by decide +kernel
theorem dX8_fillBack_0 : decode cX8_fillBack 0 = .ok (.lconst 0, 1) := by decide +kernel
theorem dX8_fillBack_1 : decode cX8_fillBack 1 = .ok (.lstore_n 1, 1) := by decide +kernel
theorem dX8_fillBack_2 : decode cX8_fillBack 2 = .ok (.iconst 0, 1) := by decide +kernel
theorem dX8_fillBack_3 : decode cX8_fillBack 3 = .ok (.istore_n 3, 1) := by decide +kernel
theorem dX8_fillBack_4 : decode cX8_fillBack 4 = .ok (.iload_n 3, 1) := by decide +kernel
theorem dX8_fillBack_5 : decode cX8_fillBack 5 = .ok (.aload_n 0, 1) := by decide +kernel
theorem dX8_fillBack_6 : decode cX8_fillBack 6 = .ok (.getfield 198, 3) := by decide +kernel
theorem dX8_fillBack_9 : decode cX8_fillBack 9 = .ok (.if_icmp .ge 16, 3) := by decide +kernel
theorem dX8_fillBack_12 : decode cX8_fillBack 12 = .ok (.lload_n 1, 1) := by decide +kernel
theorem dX8_fillBack_13 : decode cX8_fillBack 13 = .ok (.iload_n 3, 1) := by decide +kernel
theorem dX8_fillBack_14 : decode cX8_fillBack 14 = .ok (.invokestatic 249, 3) := by decide +kernel
theorem dX8_fillBack_17 : decode cX8_fillBack 17 = .ok (.lor, 1) := by decide +kernel
theorem dX8_fillBack_18 : decode cX8_fillBack 18 = .ok (.lstore_n 1, 1) := by decide +kernel
theorem dX8_fillBack_19 : decode cX8_fillBack 19 = .ok (.iinc 3 1, 3) := by decide +kernel
theorem dX8_fillBack_22 : decode cX8_fillBack 22 = .ok (.goto (-18), 3) := by decide +kernel
theorem dX8_fillBack_25 : decode cX8_fillBack 25 = .ok (.iconst 0, 1) := by decide +kernel
theorem dX8_fillBack_26 : decode cX8_fillBack 26 = .ok (.istore_n 3, 1) := by decide +kernel
theorem dX8_fillBack_27 : decode cX8_fillBack 27 = .ok (.iload_n 3, 1) := by decide +kernel
theorem dX8_fillBack_28 : decode cX8_fillBack 28 = .ok (.aload_n 0, 1) := by decide +kernel
theorem dX8_fillBack_29 : decode cX8_fillBack 29 = .ok (.getfield 235, 3) := by decide +kernel
theorem dX8_fillBack_32 : decode cX8_fillBack 32 = .ok (.if_icmp .gt 41, 3) := by decide +kernel
theorem dX8_fillBack_35 : decode cX8_fillBack 35 = .ok (.aload_n 0, 1) := by decide +kernel
theorem dX8_fillBack_36 : decode cX8_fillBack 36 = .ok (.getfield 95, 3) := by decide +kernel
theorem dX8_fillBack_39 : decode cX8_fillBack 39 = .ok (.sipush 2600, 3) := by decide +kernel
theorem dX8_fillBack_42 : decode cX8_fillBack 42 = .ok (.iload_n 3, 1) := by decide +kernel
theorem dX8_fillBack_43 : decode cX8_fillBack 43 = .ok (.iadd, 1) := by decide +kernel
theorem dX8_fillBack_44 : decode cX8_fillBack 44 = .ok (.iload_n 3, 1) := by decide +kernel
theorem dX8_fillBack_45 : decode cX8_fillBack 45 = .ok (.aload_n 0, 1) := by decide +kernel
theorem dX8_fillBack_46 : decode cX8_fillBack 46 = .ok (.getfield 235, 3) := by decide +kernel
theorem dX8_fillBack_49 : decode cX8_fillBack 49 = .ok (.if_icmp .ne 16, 3) := by decide +kernel
theorem dX8_fillBack_52 : decode cX8_fillBack 52 = .ok (.lload_n 1, 1) := by decide +kernel
theorem dX8_fillBack_53 : decode cX8_fillBack 53 = .ok (.aload_n 0, 1) := by decide +kernel
theorem dX8_fillBack_54 : decode cX8_fillBack 54 = .ok (.getfield 85, 3) := by decide +kernel
theorem dX8_fillBack_57 : decode cX8_fillBack 57 = .ok (.sipush 199, 3) := by decide +kernel
theorem dX8_fillBack_60 : decode cX8_fillBack 60 = .ok (.laload, 1) := by decide +kernel
theorem dX8_fillBack_61 : decode cX8_fillBack 61 = .ok (.land, 1) := by decide +kernel
theorem dX8_fillBack_62 : decode cX8_fillBack 62 = .ok (.goto 4, 3) := by decide +kernel
theorem dX8_fillBack_65 : decode cX8_fillBack 65 = .ok (.lconst 0, 1) := by decide +kernel
theorem dX8_fillBack_66 : decode cX8_fillBack 66 = .ok (.lastore, 1) := by decide +kernel
theorem dX8_fillBack_67 : decode cX8_fillBack 67 = .ok (.iinc 3 1, 3) := by decide +kernel
theorem dX8_fillBack_70 : decode cX8_fillBack 70 = .ok (.goto (-43), 3) := by decide +kernel
theorem dX8_fillBack_73 : decode cX8_fillBack 73 = .ok (.sipush 199, 3) := by decide +kernel
theorem dX8_fillBack_76 : decode cX8_fillBack 76 = .ok (.istore_n 3, 1) := by decide +kernel
theorem dX8_fillBack_77 : decode cX8_fillBack 77 = .ok (.iload_n 3, 1) := by decide +kernel
theorem dX8_fillBack_78 : decode cX8_fillBack 78 = .ok (.ifCond .lt 65, 3) := by decide +kernel
theorem dX8_fillBack_81 : decode cX8_fillBack 81 = .ok (.iconst 0, 1) := by decide +kernel
theorem dX8_fillBack_82 : decode cX8_fillBack 82 = .ok (.istore 4, 2) := by decide +kernel
theorem dX8_fillBack_84 : decode cX8_fillBack 84 = .ok (.iload 4, 2) := by decide +kernel
theorem dX8_fillBack_86 : decode cX8_fillBack 86 = .ok (.aload_n 0, 1) := by decide +kernel
theorem dX8_fillBack_87 : decode cX8_fillBack 87 = .ok (.getfield 235, 3) := by decide +kernel
theorem dX8_fillBack_90 : decode cX8_fillBack 90 = .ok (.if_icmp .gt 47, 3) := by decide +kernel
theorem dX8_fillBack_93 : decode cX8_fillBack 93 = .ok (.aload_n 0, 1) := by decide +kernel
theorem dX8_fillBack_94 : decode cX8_fillBack 94 = .ok (.getfield 95, 3) := by decide +kernel
theorem dX8_fillBack_97 : decode cX8_fillBack 97 = .ok (.bipush 13, 2) := by decide +kernel
theorem dX8_fillBack_99 : decode cX8_fillBack 99 = .ok (.iload_n 3, 1) := by decide +kernel
theorem dX8_fillBack_100 : decode cX8_fillBack 100 = .ok (.imul, 1) := by decide +kernel
theorem dX8_fillBack_101 : decode cX8_fillBack 101 = .ok (.iload 4, 2) := by decide +kernel
theorem dX8_fillBack_103 : decode cX8_fillBack 103 = .ok (.iadd, 1) := by decide +kernel
theorem dX8_fillBack_104 : decode cX8_fillBack 104 = .ok (.aload_n 0, 1) := by decide +kernel
theorem dX8_fillBack_105 : decode cX8_fillBack 105 = .ok (.iload_n 3, 1) := by decide +kernel
theorem dX8_fillBack_106 : decode cX8_fillBack 106 = .ok (.iload 4, 2) := by decide +kernel
theorem dX8_fillBack_108 : decode cX8_fillBack 108 = .ok (.invokevirtual 282, 3) := by decide +kernel
theorem dX8_fillBack_111 : decode cX8_fillBack 111 = .ok (.iload_n 3, 1) := by decide +kernel
theorem dX8_fillBack_112 : decode cX8_fillBack 112 = .ok (.ifCond .ne 9, 3) := by decide +kernel
theorem dX8_fillBack_115 : decode cX8_fillBack 115 = .ok (.ldc2_w 238, 3) := by decide +kernel
theorem dX8_fillBack_118 : decode cX8_fillBack 118 = .ok (.goto 11, 3) := by decide +kernel
theorem dX8_fillBack_121 : decode cX8_fillBack 121 = .ok (.aload_n 0, 1) := by decide +kernel
theorem dX8_fillBack_122 : decode cX8_fillBack 122 = .ok (.getfield 85, 3) := by decide +kernel
theorem dX8_fillBack_125 : decode cX8_fillBack 125 = .ok (.iload_n 3, 1) := by decide +kernel
theorem dX8_fillBack_126 : decode cX8_fillBack 126 = .ok (.iconst 1, 1) := by decide +kernel
theorem dX8_fillBack_127 : decode cX8_fillBack 127 = .ok (.isub, 1) := by decide +kernel
theorem dX8_fillBack_128 : decode cX8_fillBack 128 = .ok (.laload, 1) := by decide +kernel
theorem dX8_fillBack_129 : decode cX8_fillBack 129 = .ok (.land, 1) := by decide +kernel
theorem dX8_fillBack_130 : decode cX8_fillBack 130 = .ok (.lastore, 1) := by decide +kernel
theorem dX8_fillBack_131 : decode cX8_fillBack 131 = .ok (.iinc 4 1, 3) := by decide +kernel
theorem dX8_fillBack_134 : decode cX8_fillBack 134 = .ok (.goto (-50), 3) := by decide +kernel
theorem dX8_fillBack_137 : decode cX8_fillBack 137 = .ok (.iinc 3 (-1), 3) := by decide +kernel
theorem dX8_fillBack_140 : decode cX8_fillBack 140 = .ok (.goto (-63), 3) := by decide +kernel
theorem dX8_fillBack_143 : decode cX8_fillBack 143 = .ok (.return_, 1) := by decide +kernel
theorem dX8_ahead_0 : decode cX8_ahead 0 = .ok (.aload_n 0, 1) := by decide +kernel
theorem dX8_ahead_1 : decode cX8_ahead 1 = .ok (.getfield 95, 3) := by decide +kernel
theorem dX8_ahead_4 : decode cX8_ahead 4 = .ok (.bipush 13, 2) := by decide +kernel
theorem dX8_ahead_6 : decode cX8_ahead 6 = .ok (.iload_n 1, 1) := by decide +kernel
theorem dX8_ahead_7 : decode cX8_ahead 7 = .ok (.iconst 1, 1) := by decide +kernel
theorem dX8_ahead_8 : decode cX8_ahead 8 = .ok (.iadd, 1) := by decide +kernel
theorem dX8_ahead_9 : decode cX8_ahead 9 = .ok (.imul, 1) := by decide +kernel
theorem dX8_ahead_10 : decode cX8_ahead 10 = .ok (.iload_n 2, 1) := by decide +kernel
theorem dX8_ahead_11 : decode cX8_ahead 11 = .ok (.iadd, 1) := by decide +kernel
theorem dX8_ahead_12 : decode cX8_ahead 12 = .ok (.laload, 1) := by decide +kernel
theorem dX8_ahead_13 : decode cX8_ahead 13 = .ok (.lstore_n 3, 1) := by decide +kernel
theorem dX8_ahead_14 : decode cX8_ahead 14 = .ok (.aload_n 0, 1) := by decide +kernel
theorem dX8_ahead_15 : decode cX8_ahead 15 = .ok (.lload_n 3, 1) := by decide +kernel
theorem dX8_ahead_16 : decode cX8_ahead 16 = .ok (.invokevirtual 286, 3) := by decide +kernel
theorem dX8_ahead_19 : decode cX8_ahead 19 = .ok (.lstore 5, 2) := by decide +kernel
theorem dX8_ahead_21 : decode cX8_ahead 21 = .ok (.iconst 0, 1) := by decide +kernel
theorem dX8_ahead_22 : decode cX8_ahead 22 = .ok (.istore 7, 2) := by decide +kernel
theorem dX8_ahead_24 : decode cX8_ahead 24 = .ok (.iload 7, 2) := by decide +kernel
theorem dX8_ahead_26 : decode cX8_ahead 26 = .ok (.aload_n 0, 1) := by decide +kernel
theorem dX8_ahead_27 : decode cX8_ahead 27 = .ok (.getfield 201, 3) := by decide +kernel
theorem dX8_ahead_30 : decode cX8_ahead 30 = .ok (.if_icmp .ge 93, 3) := by decide +kernel
theorem dX8_ahead_33 : decode cX8_ahead 33 = .ok (.aload_n 0, 1) := by decide +kernel
theorem dX8_ahead_34 : decode cX8_ahead 34 = .ok (.getfield 89, 3) := by decide +kernel
theorem dX8_ahead_37 : decode cX8_ahead 37 = .ok (.bipush 10, 2) := by decide +kernel
theorem dX8_ahead_39 : decode cX8_ahead 39 = .ok (.iload_n 1, 1) := by decide +kernel
theorem dX8_ahead_40 : decode cX8_ahead 40 = .ok (.imul, 1) := by decide +kernel
theorem dX8_ahead_41 : decode cX8_ahead 41 = .ok (.iload 7, 2) := by decide +kernel
theorem dX8_ahead_43 : decode cX8_ahead 43 = .ok (.iadd, 1) := by decide +kernel
theorem dX8_ahead_44 : decode cX8_ahead 44 = .ok (.baload, 1) := by decide +kernel
theorem dX8_ahead_45 : decode cX8_ahead 45 = .ok (.ifCond .ne 6, 3) := by decide +kernel
theorem dX8_ahead_48 : decode cX8_ahead 48 = .ok (.goto 69, 3) := by decide +kernel
theorem dX8_ahead_51 : decode cX8_ahead 51 = .ok (.lload_n 3, 1) := by decide +kernel
theorem dX8_ahead_52 : decode cX8_ahead 52 = .ok (.aload_n 0, 1) := by decide +kernel
theorem dX8_ahead_53 : decode cX8_ahead 53 = .ok (.getfield 45, 3) := by decide +kernel
theorem dX8_ahead_56 : decode cX8_ahead 56 = .ok (.iload 7, 2) := by decide +kernel
theorem dX8_ahead_58 : decode cX8_ahead 58 = .ok (.iaload, 1) := by decide +kernel
theorem dX8_ahead_59 : decode cX8_ahead 59 = .ok (.invokestatic 262, 3) := by decide +kernel
theorem dX8_ahead_62 : decode cX8_ahead 62 = .ok (.land, 1) := by decide +kernel
theorem dX8_ahead_63 : decode cX8_ahead 63 = .ok (.lconst 0, 1) := by decide +kernel
theorem dX8_ahead_64 : decode cX8_ahead 64 = .ok (.lcmp, 1) := by decide +kernel
theorem dX8_ahead_65 : decode cX8_ahead 65 = .ok (.ifCond .eq 19, 3) := by decide +kernel
theorem dX8_ahead_68 : decode cX8_ahead 68 = .ok (.lload 5, 2) := by decide +kernel
theorem dX8_ahead_70 : decode cX8_ahead 70 = .ok (.aload_n 0, 1) := by decide +kernel
theorem dX8_ahead_71 : decode cX8_ahead 71 = .ok (.aload_n 0, 1) := by decide +kernel
theorem dX8_ahead_72 : decode cX8_ahead 72 = .ok (.getfield 42, 3) := by decide +kernel
theorem dX8_ahead_75 : decode cX8_ahead 75 = .ok (.iload 7, 2) := by decide +kernel
theorem dX8_ahead_77 : decode cX8_ahead 77 = .ok (.iaload, 1) := by decide +kernel
theorem dX8_ahead_78 : decode cX8_ahead 78 = .ok (.invokevirtual 259, 3) := by decide +kernel
theorem dX8_ahead_81 : decode cX8_ahead 81 = .ok (.lor, 1) := by decide +kernel
theorem dX8_ahead_82 : decode cX8_ahead 82 = .ok (.lstore 5, 2) := by decide +kernel
theorem dX8_ahead_84 : decode cX8_ahead 84 = .ok (.lload_n 3, 1) := by decide +kernel
theorem dX8_ahead_85 : decode cX8_ahead 85 = .ok (.aload_n 0, 1) := by decide +kernel
theorem dX8_ahead_86 : decode cX8_ahead 86 = .ok (.getfield 42, 3) := by decide +kernel
theorem dX8_ahead_89 : decode cX8_ahead 89 = .ok (.iload 7, 2) := by decide +kernel
theorem dX8_ahead_91 : decode cX8_ahead 91 = .ok (.iaload, 1) := by decide +kernel
theorem dX8_ahead_92 : decode cX8_ahead 92 = .ok (.invokestatic 262, 3) := by decide +kernel
theorem dX8_ahead_95 : decode cX8_ahead 95 = .ok (.land, 1) := by decide +kernel
theorem dX8_ahead_96 : decode cX8_ahead 96 = .ok (.lconst 0, 1) := by decide +kernel
theorem dX8_ahead_97 : decode cX8_ahead 97 = .ok (.lcmp, 1) := by decide +kernel
theorem dX8_ahead_98 : decode cX8_ahead 98 = .ok (.ifCond .eq 19, 3) := by decide +kernel
theorem dX8_ahead_101 : decode cX8_ahead 101 = .ok (.lload 5, 2) := by decide +kernel
theorem dX8_ahead_103 : decode cX8_ahead 103 = .ok (.aload_n 0, 1) := by decide +kernel
theorem dX8_ahead_104 : decode cX8_ahead 104 = .ok (.aload_n 0, 1) := by decide +kernel
theorem dX8_ahead_105 : decode cX8_ahead 105 = .ok (.getfield 45, 3) := by decide +kernel
theorem dX8_ahead_108 : decode cX8_ahead 108 = .ok (.iload 7, 2) := by decide +kernel
theorem dX8_ahead_110 : decode cX8_ahead 110 = .ok (.iaload, 1) := by decide +kernel
theorem dX8_ahead_111 : decode cX8_ahead 111 = .ok (.invokevirtual 259, 3) := by decide +kernel
theorem dX8_ahead_114 : decode cX8_ahead 114 = .ok (.lor, 1) := by decide +kernel
theorem dX8_ahead_115 : decode cX8_ahead 115 = .ok (.lstore 5, 2) := by decide +kernel
theorem dX8_ahead_117 : decode cX8_ahead 117 = .ok (.iinc 7 1, 3) := by decide +kernel
theorem dX8_ahead_120 : decode cX8_ahead 120 = .ok (.goto (-96), 3) := by decide +kernel
theorem dX8_ahead_123 : decode cX8_ahead 123 = .ok (.iload_n 2, 1) := by decide +kernel
theorem dX8_ahead_124 : decode cX8_ahead 124 = .ok (.aload_n 0, 1) := by decide +kernel
theorem dX8_ahead_125 : decode cX8_ahead 125 = .ok (.getfield 235, 3) := by decide +kernel
theorem dX8_ahead_128 : decode cX8_ahead 128 = .ok (.if_icmp .ge 65, 3) := by decide +kernel
theorem dX8_ahead_131 : decode cX8_ahead 131 = .ok (.aload_n 0, 1) := by decide +kernel
theorem dX8_ahead_132 : decode cX8_ahead 132 = .ok (.iload_n 2, 1) := by decide +kernel
theorem dX8_ahead_133 : decode cX8_ahead 133 = .ok (.iload_n 1, 1) := by decide +kernel
theorem dX8_ahead_134 : decode cX8_ahead 134 = .ok (.invokevirtual 265, 3) := by decide +kernel
theorem dX8_ahead_137 : decode cX8_ahead 137 = .ok (.ifCond .eq 56, 3) := by decide +kernel
theorem dX8_ahead_140 : decode cX8_ahead 140 = .ok (.aload_n 0, 1) := by decide +kernel
theorem dX8_ahead_141 : decode cX8_ahead 141 = .ok (.getfield 95, 3) := by decide +kernel
theorem dX8_ahead_144 : decode cX8_ahead 144 = .ok (.bipush 13, 2) := by decide +kernel
theorem dX8_ahead_146 : decode cX8_ahead 146 = .ok (.iload_n 1, 1) := by decide +kernel
theorem dX8_ahead_147 : decode cX8_ahead 147 = .ok (.iconst 1, 1) := by decide +kernel
theorem dX8_ahead_148 : decode cX8_ahead 148 = .ok (.iadd, 1) := by decide +kernel
theorem dX8_ahead_149 : decode cX8_ahead 149 = .ok (.imul, 1) := by decide +kernel
theorem dX8_ahead_150 : decode cX8_ahead 150 = .ok (.iload_n 2, 1) := by decide +kernel
theorem dX8_ahead_151 : decode cX8_ahead 151 = .ok (.iadd, 1) := by decide +kernel
theorem dX8_ahead_152 : decode cX8_ahead 152 = .ok (.iconst 1, 1) := by decide +kernel
theorem dX8_ahead_153 : decode cX8_ahead 153 = .ok (.iadd, 1) := by decide +kernel
theorem dX8_ahead_154 : decode cX8_ahead 154 = .ok (.laload, 1) := by decide +kernel
theorem dX8_ahead_155 : decode cX8_ahead 155 = .ok (.aload_n 0, 1) := by decide +kernel
theorem dX8_ahead_156 : decode cX8_ahead 156 = .ok (.aload_n 0, 1) := by decide +kernel
theorem dX8_ahead_157 : decode cX8_ahead 157 = .ok (.getfield 82, 3) := by decide +kernel
theorem dX8_ahead_160 : decode cX8_ahead 160 = .ok (.iload_n 2, 1) := by decide +kernel
theorem dX8_ahead_161 : decode cX8_ahead 161 = .ok (.iaload, 1) := by decide +kernel
theorem dX8_ahead_162 : decode cX8_ahead 162 = .ok (.invokevirtual 272, 3) := by decide +kernel
theorem dX8_ahead_165 : decode cX8_ahead 165 = .ok (.invokestatic 262, 3) := by decide +kernel
theorem dX8_ahead_168 : decode cX8_ahead 168 = .ok (.land, 1) := by decide +kernel
theorem dX8_ahead_169 : decode cX8_ahead 169 = .ok (.lconst 0, 1) := by decide +kernel
theorem dX8_ahead_170 : decode cX8_ahead 170 = .ok (.lcmp, 1) := by decide +kernel
theorem dX8_ahead_171 : decode cX8_ahead 171 = .ok (.ifCond .eq 22, 3) := by decide +kernel
theorem dX8_ahead_174 : decode cX8_ahead 174 = .ok (.lload 5, 2) := by decide +kernel
theorem dX8_ahead_176 : decode cX8_ahead 176 = .ok (.aload_n 0, 1) := by decide +kernel
theorem dX8_ahead_177 : decode cX8_ahead 177 = .ok (.aload_n 0, 1) := by decide +kernel
theorem dX8_ahead_178 : decode cX8_ahead 178 = .ok (.aload_n 0, 1) := by decide +kernel
theorem dX8_ahead_179 : decode cX8_ahead 179 = .ok (.getfield 82, 3) := by decide +kernel
theorem dX8_ahead_182 : decode cX8_ahead 182 = .ok (.iload_n 2, 1) := by decide +kernel
theorem dX8_ahead_183 : decode cX8_ahead 183 = .ok (.iaload, 1) := by decide +kernel
theorem dX8_ahead_184 : decode cX8_ahead 184 = .ok (.invokevirtual 269, 3) := by decide +kernel
theorem dX8_ahead_187 : decode cX8_ahead 187 = .ok (.invokevirtual 259, 3) := by decide +kernel
theorem dX8_ahead_190 : decode cX8_ahead 190 = .ok (.lor, 1) := by decide +kernel
theorem dX8_ahead_191 : decode cX8_ahead 191 = .ok (.lstore 5, 2) := by decide +kernel
theorem dX8_ahead_193 : decode cX8_ahead 193 = .ok (.lload 5, 2) := by decide +kernel
theorem dX8_ahead_195 : decode cX8_ahead 195 = .ok (.lreturn, 1) := by decide +kernel
theorem dX8_can_0 : decode cX8_can 0 = .ok (.aload_n 0, 1) := by decide +kernel
theorem dX8_can_1 : decode cX8_can 1 = .ok (.iload_n 1, 1) := by decide +kernel
theorem dX8_can_2 : decode cX8_can 2 = .ok (.iload_n 3, 1) := by decide +kernel
theorem dX8_can_3 : decode cX8_can 3 = .ok (.iconst 1, 1) := by decide +kernel
theorem dX8_can_4 : decode cX8_can 4 = .ok (.invokevirtual 289, 3) := by decide +kernel
theorem dX8_can_7 : decode cX8_can 7 = .ok (.aload_n 0, 1) := by decide +kernel
theorem dX8_can_8 : decode cX8_can 8 = .ok (.invokevirtual 293, 3) := by decide +kernel
theorem dX8_can_11 : decode cX8_can 11 = .ok (.aload_n 0, 1) := by decide +kernel
theorem dX8_can_12 : decode cX8_can 12 = .ok (.invokevirtual 296, 3) := by decide +kernel
theorem dX8_can_15 : decode cX8_can 15 = .ok (.iconst 0, 1) := by decide +kernel
theorem dX8_can_16 : decode cX8_can 16 = .ok (.istore 4, 2) := by decide +kernel
theorem dX8_can_18 : decode cX8_can 18 = .ok (.iconst 0, 1) := by decide +kernel
theorem dX8_can_19 : decode cX8_can 19 = .ok (.istore 5, 2) := by decide +kernel
theorem dX8_can_21 : decode cX8_can 21 = .ok (.iload 5, 2) := by decide +kernel
theorem dX8_can_23 : decode cX8_can 23 = .ok (.aload_n 0, 1) := by decide +kernel
theorem dX8_can_24 : decode cX8_can 24 = .ok (.getfield 235, 3) := by decide +kernel
theorem dX8_can_27 : decode cX8_can 27 = .ok (.if_icmp .gt 80, 3) := by decide +kernel
theorem dX8_can_30 : decode cX8_can 30 = .ok (.aload_n 0, 1) := by decide +kernel
theorem dX8_can_31 : decode cX8_can 31 = .ok (.getfield 92, 3) := by decide +kernel
theorem dX8_can_34 : decode cX8_can 34 = .ok (.bipush 13, 2) := by decide +kernel
theorem dX8_can_36 : decode cX8_can 36 = .ok (.iload_n 2, 1) := by decide +kernel
theorem dX8_can_37 : decode cX8_can 37 = .ok (.iconst 1, 1) := by decide +kernel
theorem dX8_can_38 : decode cX8_can 38 = .ok (.iadd, 1) := by decide +kernel
theorem dX8_can_39 : decode cX8_can 39 = .ok (.imul, 1) := by decide +kernel
theorem dX8_can_40 : decode cX8_can 40 = .ok (.iload 5, 2) := by decide +kernel
theorem dX8_can_42 : decode cX8_can 42 = .ok (.iadd, 1) := by decide +kernel
theorem dX8_can_43 : decode cX8_can 43 = .ok (.laload, 1) := by decide +kernel
theorem dX8_can_44 : decode cX8_can 44 = .ok (.aload_n 0, 1) := by decide +kernel
theorem dX8_can_45 : decode cX8_can 45 = .ok (.getfield 95, 3) := by decide +kernel
theorem dX8_can_48 : decode cX8_can 48 = .ok (.bipush 13, 2) := by decide +kernel
theorem dX8_can_50 : decode cX8_can 50 = .ok (.iload_n 2, 1) := by decide +kernel
theorem dX8_can_51 : decode cX8_can 51 = .ok (.iconst 1, 1) := by decide +kernel
theorem dX8_can_52 : decode cX8_can 52 = .ok (.iadd, 1) := by decide +kernel
theorem dX8_can_53 : decode cX8_can 53 = .ok (.imul, 1) := by decide +kernel
theorem dX8_can_54 : decode cX8_can 54 = .ok (.iload 5, 2) := by decide +kernel
theorem dX8_can_56 : decode cX8_can 56 = .ok (.iadd, 1) := by decide +kernel
theorem dX8_can_57 : decode cX8_can 57 = .ok (.laload, 1) := by decide +kernel
theorem dX8_can_58 : decode cX8_can 58 = .ok (.land, 1) := by decide +kernel
theorem dX8_can_59 : decode cX8_can 59 = .ok (.lstore 6, 2) := by decide +kernel
theorem dX8_can_61 : decode cX8_can 61 = .ok (.iconst 0, 1) := by decide +kernel
theorem dX8_can_62 : decode cX8_can 62 = .ok (.istore 8, 2) := by decide +kernel
theorem dX8_can_64 : decode cX8_can 64 = .ok (.iload 8, 2) := by decide +kernel
theorem dX8_can_66 : decode cX8_can 66 = .ok (.aload_n 0, 1) := by decide +kernel
theorem dX8_can_67 : decode cX8_can 67 = .ok (.getfield 198, 3) := by decide +kernel
theorem dX8_can_70 : decode cX8_can 70 = .ok (.if_icmp .ge 31, 3) := by decide +kernel
theorem dX8_can_73 : decode cX8_can 73 = .ok (.lload 6, 2) := by decide +kernel
theorem dX8_can_75 : decode cX8_can 75 = .ok (.iload 8, 2) := by decide +kernel
theorem dX8_can_77 : decode cX8_can 77 = .ok (.invokestatic 249, 3) := by decide +kernel
theorem dX8_can_80 : decode cX8_can 80 = .ok (.land, 1) := by decide +kernel
theorem dX8_can_81 : decode cX8_can 81 = .ok (.lconst 0, 1) := by decide +kernel
theorem dX8_can_82 : decode cX8_can 82 = .ok (.lcmp, 1) := by decide +kernel
theorem dX8_can_83 : decode cX8_can 83 = .ok (.ifCond .eq 12, 3) := by decide +kernel
theorem dX8_can_86 : decode cX8_can 86 = .ok (.iload 4, 2) := by decide +kernel
theorem dX8_can_88 : decode cX8_can 88 = .ok (.iconst 1, 1) := by decide +kernel
theorem dX8_can_89 : decode cX8_can 89 = .ok (.iload 8, 2) := by decide +kernel
theorem dX8_can_91 : decode cX8_can 91 = .ok (.ishl, 1) := by decide +kernel
theorem dX8_can_92 : decode cX8_can 92 = .ok (.ior, 1) := by decide +kernel
theorem dX8_can_93 : decode cX8_can 93 = .ok (.istore 4, 2) := by decide +kernel
theorem dX8_can_95 : decode cX8_can 95 = .ok (.iinc 8 1, 3) := by decide +kernel
theorem dX8_can_98 : decode cX8_can 98 = .ok (.goto (-34), 3) := by decide +kernel
theorem dX8_can_101 : decode cX8_can 101 = .ok (.iinc 5 1, 3) := by decide +kernel
theorem dX8_can_104 : decode cX8_can 104 = .ok (.goto (-83), 3) := by decide +kernel
theorem dX8_can_107 : decode cX8_can 107 = .ok (.iload 4, 2) := by decide +kernel
theorem dX8_can_109 : decode cX8_can 109 = .ok (.ireturn, 1) := by decide +kernel
theorem dX8_rooms_0 : decode cX8_rooms 0 = .ok (.aload_n 0, 1) := by decide +kernel
theorem dX8_rooms_1 : decode cX8_rooms 1 = .ok (.iconst 0, 1) := by decide +kernel
theorem dX8_rooms_2 : decode cX8_rooms 2 = .ok (.putfield 1, 3) := by decide +kernel
theorem dX8_rooms_5 : decode cX8_rooms 5 = .ok (.aload_n 0, 1) := by decide +kernel
theorem dX8_rooms_6 : decode cX8_rooms 6 = .ok (.iload_n 1, 1) := by decide +kernel
theorem dX8_rooms_7 : decode cX8_rooms 7 = .ok (.invokevirtual 213, 3) := by decide +kernel
theorem dX8_rooms_10 : decode cX8_rooms 10 = .ok (.ifCond .eq 32, 3) := by decide +kernel
theorem dX8_rooms_13 : decode cX8_rooms 13 = .ok (.iload_n 2, 1) := by decide +kernel
theorem dX8_rooms_14 : decode cX8_rooms 14 = .ok (.invokestatic 220, 3) := by decide +kernel
theorem dX8_rooms_17 : decode cX8_rooms 17 = .ok (.ifCond .eq 25, 3) := by decide +kernel
theorem dX8_rooms_20 : decode cX8_rooms 20 = .ok (.iload_n 3, 1) := by decide +kernel
theorem dX8_rooms_21 : decode cX8_rooms 21 = .ok (.iconst 0, 1) := by decide +kernel
theorem dX8_rooms_22 : decode cX8_rooms 22 = .ok (.aload_n 0, 1) := by decide +kernel
theorem dX8_rooms_23 : decode cX8_rooms 23 = .ok (.getfield 207, 3) := by decide +kernel
theorem dX8_rooms_26 : decode cX8_rooms 26 = .ok (.invokestatic 216, 3) := by decide +kernel
theorem dX8_rooms_29 : decode cX8_rooms 29 = .ok (.ifCond .eq 13, 3) := by decide +kernel
theorem dX8_rooms_32 : decode cX8_rooms 32 = .ok (.aload_n 0, 1) := by decide +kernel
theorem dX8_rooms_33 : decode cX8_rooms 33 = .ok (.iload_n 1, 1) := by decide +kernel
theorem dX8_rooms_34 : decode cX8_rooms 34 = .ok (.iload_n 2, 1) := by decide +kernel
theorem dX8_rooms_35 : decode cX8_rooms 35 = .ok (.iload_n 3, 1) := by decide +kernel
theorem dX8_rooms_36 : decode cX8_rooms 36 = .ok (.invokevirtual 299, 3) := by decide +kernel
theorem dX8_rooms_39 : decode cX8_rooms 39 = .ok (.goto 4, 3) := by decide +kernel
theorem dX8_rooms_42 : decode cX8_rooms 42 = .ok (.iconst (-1), 1) := by decide +kernel
theorem dX8_rooms_43 : decode cX8_rooms 43 = .ok (.ireturn, 1) := by decide +kernel
theorem dX8_leastRoom_0 : decode cX8_leastRoom 0 = .ok (.iconst 0, 1) := by decide +kernel
theorem dX8_leastRoom_1 : decode cX8_leastRoom 1 = .ok (.istore_n 1, 1) := by decide +kernel
theorem dX8_leastRoom_2 : decode cX8_leastRoom 2 = .ok (.iload_n 1, 1) := by decide +kernel
theorem dX8_leastRoom_3 : decode cX8_leastRoom 3 = .ok (.aload_n 0, 1) := by decide +kernel
theorem dX8_leastRoom_4 : decode cX8_leastRoom 4 = .ok (.getfield 198, 3) := by decide +kernel
theorem dX8_leastRoom_7 : decode cX8_leastRoom 7 = .ok (.if_icmp .ge 43, 3) := by decide +kernel
theorem dX8_leastRoom_10 : decode cX8_leastRoom 10 = .ok (.iconst 0, 1) := by decide +kernel
theorem dX8_leastRoom_11 : decode cX8_leastRoom 11 = .ok (.istore_n 2, 1) := by decide +kernel
theorem dX8_leastRoom_12 : decode cX8_leastRoom 12 = .ok (.iload_n 2, 1) := by decide +kernel
theorem dX8_leastRoom_13 : decode cX8_leastRoom 13 = .ok (.aload_n 0, 1) := by decide +kernel
theorem dX8_leastRoom_14 : decode cX8_leastRoom 14 = .ok (.getfield 235, 3) := by decide +kernel
theorem dX8_leastRoom_17 : decode cX8_leastRoom 17 = .ok (.if_icmp .gt 27, 3) := by decide +kernel
theorem dX8_leastRoom_20 : decode cX8_leastRoom 20 = .ok (.aload_n 0, 1) := by decide +kernel
theorem dX8_leastRoom_21 : decode cX8_leastRoom 21 = .ok (.getfield 98, 3) := by decide +kernel
theorem dX8_leastRoom_24 : decode cX8_leastRoom 24 = .ok (.iload_n 2, 1) := by decide +kernel
theorem dX8_leastRoom_25 : decode cX8_leastRoom 25 = .ok (.laload, 1) := by decide +kernel
theorem dX8_leastRoom_26 : decode cX8_leastRoom 26 = .ok (.iload_n 1, 1) := by decide +kernel
theorem dX8_leastRoom_27 : decode cX8_leastRoom 27 = .ok (.invokestatic 249, 3) := by decide +kernel
theorem dX8_leastRoom_30 : decode cX8_leastRoom 30 = .ok (.land, 1) := by decide +kernel
theorem dX8_leastRoom_31 : decode cX8_leastRoom 31 = .ok (.lconst 0, 1) := by decide +kernel
theorem dX8_leastRoom_32 : decode cX8_leastRoom 32 = .ok (.lcmp, 1) := by decide +kernel
theorem dX8_leastRoom_33 : decode cX8_leastRoom 33 = .ok (.ifCond .eq 5, 3) := by decide +kernel
theorem dX8_leastRoom_36 : decode cX8_leastRoom 36 = .ok (.iload_n 1, 1) := by decide +kernel
theorem dX8_leastRoom_37 : decode cX8_leastRoom 37 = .ok (.ireturn, 1) := by decide +kernel
theorem dX8_leastRoom_38 : decode cX8_leastRoom 38 = .ok (.iinc 2 1, 3) := by decide +kernel
theorem dX8_leastRoom_41 : decode cX8_leastRoom 41 = .ok (.goto (-29), 3) := by decide +kernel
theorem dX8_leastRoom_44 : decode cX8_leastRoom 44 = .ok (.iinc 1 1, 3) := by decide +kernel
theorem dX8_leastRoom_47 : decode cX8_leastRoom 47 = .ok (.goto (-45), 3) := by decide +kernel
theorem dX8_leastRoom_50 : decode cX8_leastRoom 50 = .ok (.iconst (-1), 1) := by decide +kernel
theorem dX8_leastRoom_51 : decode cX8_leastRoom 51 = .ok (.ireturn, 1) := by decide +kernel
theorem dX8_way_0 : decode cX8_way 0 = .ok (.aload_n 0, 1) := by decide +kernel
theorem dX8_way_1 : decode cX8_way 1 = .ok (.iconst 0, 1) := by decide +kernel
theorem dX8_way_2 : decode cX8_way 2 = .ok (.putfield 1, 3) := by decide +kernel
theorem dX8_way_5 : decode cX8_way 5 = .ok (.aload_n 0, 1) := by decide +kernel
theorem dX8_way_6 : decode cX8_way 6 = .ok (.iload_n 1, 1) := by decide +kernel
theorem dX8_way_7 : decode cX8_way 7 = .ok (.invokevirtual 213, 3) := by decide +kernel
theorem dX8_way_10 : decode cX8_way 10 = .ok (.ifCond .eq 26, 3) := by decide +kernel
theorem dX8_way_13 : decode cX8_way 13 = .ok (.iload_n 2, 1) := by decide +kernel
theorem dX8_way_14 : decode cX8_way 14 = .ok (.invokestatic 220, 3) := by decide +kernel
theorem dX8_way_17 : decode cX8_way 17 = .ok (.ifCond .eq 19, 3) := by decide +kernel
theorem dX8_way_20 : decode cX8_way 20 = .ok (.aload_n 0, 1) := by decide +kernel
theorem dX8_way_21 : decode cX8_way 21 = .ok (.iload_n 3, 1) := by decide +kernel
theorem dX8_way_22 : decode cX8_way 22 = .ok (.invokevirtual 227, 3) := by decide +kernel
theorem dX8_way_25 : decode cX8_way 25 = .ok (.ifCond .eq 11, 3) := by decide +kernel
theorem dX8_way_28 : decode cX8_way 28 = .ok (.iload 4, 2) := by decide +kernel
theorem dX8_way_30 : decode cX8_way 30 = .ok (.invokestatic 220, 3) := by decide +kernel
theorem dX8_way_33 : decode cX8_way 33 = .ok (.ifCond .ne 10, 3) := by decide +kernel
theorem dX8_way_36 : decode cX8_way 36 = .ok (.aload_n 0, 1) := by decide +kernel
theorem dX8_way_37 : decode cX8_way 37 = .ok (.iconst 1, 1) := by decide +kernel
theorem dX8_way_38 : decode cX8_way 38 = .ok (.putfield 1, 3) := by decide +kernel
theorem dX8_way_41 : decode cX8_way 41 = .ok (.iconst 0, 1) := by decide +kernel
theorem dX8_way_42 : decode cX8_way 42 = .ok (.ireturn, 1) := by decide +kernel
theorem dX8_way_43 : decode cX8_way 43 = .ok (.aload_n 0, 1) := by decide +kernel
theorem dX8_way_44 : decode cX8_way 44 = .ok (.iload_n 1, 1) := by decide +kernel
theorem dX8_way_45 : decode cX8_way 45 = .ok (.aload_n 0, 1) := by decide +kernel
theorem dX8_way_46 : decode cX8_way 46 = .ok (.getfield 207, 3) := by decide +kernel
theorem dX8_way_49 : decode cX8_way 49 = .ok (.iconst 1, 1) := by decide +kernel
theorem dX8_way_50 : decode cX8_way 50 = .ok (.invokevirtual 289, 3) := by decide +kernel
theorem dX8_way_53 : decode cX8_way 53 = .ok (.aload_n 0, 1) := by decide +kernel
theorem dX8_way_54 : decode cX8_way 54 = .ok (.getfield 85, 3) := by decide +kernel
theorem dX8_way_57 : decode cX8_way 57 = .ok (.iload_n 2, 1) := by decide +kernel
theorem dX8_way_58 : decode cX8_way 58 = .ok (.dup2, 1) := by decide +kernel
theorem dX8_way_59 : decode cX8_way 59 = .ok (.laload, 1) := by decide +kernel
theorem dX8_way_60 : decode cX8_way 60 = .ok (.iload_n 3, 1) := by decide +kernel
theorem dX8_way_61 : decode cX8_way 61 = .ok (.invokestatic 249, 3) := by decide +kernel
theorem dX8_way_64 : decode cX8_way 64 = .ok (.land, 1) := by decide +kernel
theorem dX8_way_65 : decode cX8_way 65 = .ok (.lastore, 1) := by decide +kernel
theorem dX8_way_66 : decode cX8_way 66 = .ok (.aload_n 0, 1) := by decide +kernel
theorem dX8_way_67 : decode cX8_way 67 = .ok (.invokevirtual 296, 3) := by decide +kernel
theorem dX8_way_70 : decode cX8_way 70 = .ok (.aload_n 0, 1) := by decide +kernel
theorem dX8_way_71 : decode cX8_way 71 = .ok (.aload_n 0, 1) := by decide +kernel
theorem dX8_way_72 : decode cX8_way 72 = .ok (.getfield 235, 3) := by decide +kernel
theorem dX8_way_75 : decode cX8_way 75 = .ok (.invokevirtual 275, 3) := by decide +kernel
theorem dX8_way_78 : decode cX8_way 78 = .ok (.aload_n 0, 1) := by decide +kernel
theorem dX8_way_79 : decode cX8_way 79 = .ok (.getfield 95, 3) := by decide +kernel
theorem dX8_way_82 : decode cX8_way 82 = .ok (.iconst 0, 1) := by decide +kernel
theorem dX8_way_83 : decode cX8_way 83 = .ok (.laload, 1) := by decide +kernel
theorem dX8_way_84 : decode cX8_way 84 = .ok (.ldc2_w 253, 3) := by decide +kernel
theorem dX8_way_87 : decode cX8_way 87 = .ok (.land, 1) := by decide +kernel
theorem dX8_way_88 : decode cX8_way 88 = .ok (.lconst 0, 1) := by decide +kernel
theorem dX8_way_89 : decode cX8_way 89 = .ok (.lcmp, 1) := by decide +kernel
theorem dX8_way_90 : decode cX8_way 90 = .ok (.ifCond .ne 5, 3) := by decide +kernel
theorem dX8_way_93 : decode cX8_way 93 = .ok (.iconst (-1), 1) := by decide +kernel
theorem dX8_way_94 : decode cX8_way 94 = .ok (.ireturn, 1) := by decide +kernel
theorem dX8_way_95 : decode cX8_way 95 = .ok (.iconst (-1), 1) := by decide +kernel
theorem dX8_way_96 : decode cX8_way 96 = .ok (.istore 5, 2) := by decide +kernel
theorem dX8_way_98 : decode cX8_way 98 = .ok (.iconst 0, 1) := by decide +kernel
theorem dX8_way_99 : decode cX8_way 99 = .ok (.istore 6, 2) := by decide +kernel
theorem dX8_way_101 : decode cX8_way 101 = .ok (.iload 6, 2) := by decide +kernel
theorem dX8_way_103 : decode cX8_way 103 = .ok (.iload 4, 2) := by decide +kernel
theorem dX8_way_105 : decode cX8_way 105 = .ok (.if_icmp .gt 101, 3) := by decide +kernel
theorem dX8_way_108 : decode cX8_way 108 = .ok (.aload_n 0, 1) := by decide +kernel
theorem dX8_way_109 : decode cX8_way 109 = .ok (.iload 6, 2) := by decide +kernel
theorem dX8_way_111 : decode cX8_way 111 = .ok (.aload_n 0, 1) := by decide +kernel
theorem dX8_way_112 : decode cX8_way 112 = .ok (.getfield 235, 3) := by decide +kernel
theorem dX8_way_115 : decode cX8_way 115 = .ok (.invokevirtual 278, 3) := by decide +kernel
theorem dX8_way_118 : decode cX8_way 118 = .ok (.iconst 0, 1) := by decide +kernel
theorem dX8_way_119 : decode cX8_way 119 = .ok (.istore 7, 2) := by decide +kernel
theorem dX8_way_121 : decode cX8_way 121 = .ok (.iload 7, 2) := by decide +kernel
theorem dX8_way_123 : decode cX8_way 123 = .ok (.aload_n 0, 1) := by decide +kernel
theorem dX8_way_124 : decode cX8_way 124 = .ok (.getfield 235, 3) := by decide +kernel
theorem dX8_way_127 : decode cX8_way 127 = .ok (.if_icmp .gt 34, 3) := by decide +kernel
theorem dX8_way_130 : decode cX8_way 130 = .ok (.aload_n 0, 1) := by decide +kernel
theorem dX8_way_131 : decode cX8_way 131 = .ok (.getfield 98, 3) := by decide +kernel
theorem dX8_way_134 : decode cX8_way 134 = .ok (.iload 7, 2) := by decide +kernel
theorem dX8_way_136 : decode cX8_way 136 = .ok (.dup2, 1) := by decide +kernel
theorem dX8_way_137 : decode cX8_way 137 = .ok (.laload, 1) := by decide +kernel
theorem dX8_way_138 : decode cX8_way 138 = .ok (.aload_n 0, 1) := by decide +kernel
theorem dX8_way_139 : decode cX8_way 139 = .ok (.getfield 95, 3) := by decide +kernel
theorem dX8_way_142 : decode cX8_way 142 = .ok (.bipush 13, 2) := by decide +kernel
theorem dX8_way_144 : decode cX8_way 144 = .ok (.iload 6, 2) := by decide +kernel
theorem dX8_way_146 : decode cX8_way 146 = .ok (.iconst 1, 1) := by decide +kernel
theorem dX8_way_147 : decode cX8_way 147 = .ok (.iadd, 1) := by decide +kernel
theorem dX8_way_148 : decode cX8_way 148 = .ok (.imul, 1) := by decide +kernel
theorem dX8_way_149 : decode cX8_way 149 = .ok (.iload 7, 2) := by decide +kernel
theorem dX8_way_151 : decode cX8_way 151 = .ok (.iadd, 1) := by decide +kernel
theorem dX8_way_152 : decode cX8_way 152 = .ok (.laload, 1) := by decide +kernel
theorem dX8_way_153 : decode cX8_way 153 = .ok (.land, 1) := by decide +kernel
theorem dX8_way_154 : decode cX8_way 154 = .ok (.lastore, 1) := by decide +kernel
theorem dX8_way_155 : decode cX8_way 155 = .ok (.iinc 7 1, 3) := by decide +kernel
theorem dX8_way_158 : decode cX8_way 158 = .ok (.goto (-37), 3) := by decide +kernel
theorem dX8_way_161 : decode cX8_way 161 = .ok (.aload_n 0, 1) := by decide +kernel
theorem dX8_way_162 : decode cX8_way 162 = .ok (.invokevirtual 303, 3) := by decide +kernel
theorem dX8_way_165 : decode cX8_way 165 = .ok (.istore 5, 2) := by decide +kernel
theorem dX8_way_167 : decode cX8_way 167 = .ok (.iconst 0, 1) := by decide +kernel
theorem dX8_way_168 : decode cX8_way 168 = .ok (.istore 7, 2) := by decide +kernel
theorem dX8_way_170 : decode cX8_way 170 = .ok (.iload 7, 2) := by decide +kernel
theorem dX8_way_172 : decode cX8_way 172 = .ok (.aload_n 0, 1) := by decide +kernel
theorem dX8_way_173 : decode cX8_way 173 = .ok (.getfield 235, 3) := by decide +kernel
theorem dX8_way_176 : decode cX8_way 176 = .ok (.if_icmp .gt 24, 3) := by decide +kernel
theorem dX8_way_179 : decode cX8_way 179 = .ok (.aload_n 0, 1) := by decide +kernel
theorem dX8_way_180 : decode cX8_way 180 = .ok (.getfield 98, 3) := by decide +kernel
theorem dX8_way_183 : decode cX8_way 183 = .ok (.iload 7, 2) := by decide +kernel
theorem dX8_way_185 : decode cX8_way 185 = .ok (.dup2, 1) := by decide +kernel
theorem dX8_way_186 : decode cX8_way 186 = .ok (.laload, 1) := by decide +kernel
theorem dX8_way_187 : decode cX8_way 187 = .ok (.iload 5, 2) := by decide +kernel
theorem dX8_way_189 : decode cX8_way 189 = .ok (.invokestatic 249, 3) := by decide +kernel
theorem dX8_way_192 : decode cX8_way 192 = .ok (.land, 1) := by decide +kernel
theorem dX8_way_193 : decode cX8_way 193 = .ok (.lastore, 1) := by decide +kernel
theorem dX8_way_194 : decode cX8_way 194 = .ok (.iinc 7 1, 3) := by decide +kernel
theorem dX8_way_197 : decode cX8_way 197 = .ok (.goto (-27), 3) := by decide +kernel
theorem dX8_way_200 : decode cX8_way 200 = .ok (.iinc 6 1, 3) := by decide +kernel
theorem dX8_way_203 : decode cX8_way 203 = .ok (.goto (-102), 3) := by decide +kernel
theorem dX8_way_206 : decode cX8_way 206 = .ok (.iload 5, 2) := by decide +kernel
theorem dX8_way_208 : decode cX8_way 208 = .ok (.ireturn, 1) := by decide +kernel
theorem dX8_isWalked_0 : decode cX8_isWalked 0 = .ok (.aload_n 0, 1) := by decide +kernel
theorem dX8_isWalked_1 : decode cX8_isWalked 1 = .ok (.iload_n 1, 1) := by decide +kernel
theorem dX8_isWalked_2 : decode cX8_isWalked 2 = .ok (.invokevirtual 275, 3) := by decide +kernel
theorem dX8_isWalked_5 : decode cX8_isWalked 5 = .ok (.iconst 0, 1) := by decide +kernel
theorem dX8_isWalked_6 : decode cX8_isWalked 6 = .ok (.istore_n 2, 1) := by decide +kernel
theorem dX8_isWalked_7 : decode cX8_isWalked 7 = .ok (.iload_n 2, 1) := by decide +kernel
theorem dX8_isWalked_8 : decode cX8_isWalked 8 = .ok (.sipush 200, 3) := by decide +kernel
theorem dX8_isWalked_11 : decode cX8_isWalked 11 = .ok (.if_icmp .ge 15, 3) := by decide +kernel
theorem dX8_isWalked_14 : decode cX8_isWalked 14 = .ok (.aload_n 0, 1) := by decide +kernel
theorem dX8_isWalked_15 : decode cX8_isWalked 15 = .ok (.iload_n 2, 1) := by decide +kernel
theorem dX8_isWalked_16 : decode cX8_isWalked 16 = .ok (.iload_n 1, 1) := by decide +kernel
theorem dX8_isWalked_17 : decode cX8_isWalked 17 = .ok (.invokevirtual 278, 3) := by decide +kernel
theorem dX8_isWalked_20 : decode cX8_isWalked 20 = .ok (.iinc 2 1, 3) := by decide +kernel
theorem dX8_isWalked_23 : decode cX8_isWalked 23 = .ok (.goto (-16), 3) := by decide +kernel
theorem dX8_isWalked_26 : decode cX8_isWalked 26 = .ok (.aload_n 0, 1) := by decide +kernel
theorem dX8_isWalked_27 : decode cX8_isWalked 27 = .ok (.getfield 98, 3) := by decide +kernel
theorem dX8_isWalked_30 : decode cX8_isWalked 30 = .ok (.iload_n 1, 1) := by decide +kernel
theorem dX8_isWalked_31 : decode cX8_isWalked 31 = .ok (.laload, 1) := by decide +kernel
theorem dX8_isWalked_32 : decode cX8_isWalked 32 = .ok (.lconst 0, 1) := by decide +kernel
theorem dX8_isWalked_33 : decode cX8_isWalked 33 = .ok (.lcmp, 1) := by decide +kernel
theorem dX8_isWalked_34 : decode cX8_isWalked 34 = .ok (.ifCond .eq 7, 3) := by decide +kernel
theorem dX8_isWalked_37 : decode cX8_isWalked 37 = .ok (.iconst 1, 1) := by decide +kernel
theorem dX8_isWalked_38 : decode cX8_isWalked 38 = .ok (.goto 4, 3) := by decide +kernel
theorem dX8_isWalked_41 : decode cX8_isWalked 41 = .ok (.iconst 0, 1) := by decide +kernel
theorem dX8_isWalked_42 : decode cX8_isWalked 42 = .ok (.ireturn, 1) := by decide +kernel
theorem dX8_broken_0 : decode cX8_broken 0 = .ok (.aload_n 0, 1) := by decide +kernel
theorem dX8_broken_1 : decode cX8_broken 1 = .ok (.iconst 0, 1) := by decide +kernel
theorem dX8_broken_2 : decode cX8_broken 2 = .ok (.putfield 1, 3) := by decide +kernel
theorem dX8_broken_5 : decode cX8_broken 5 = .ok (.aload_n 0, 1) := by decide +kernel
theorem dX8_broken_6 : decode cX8_broken 6 = .ok (.iload_n 1, 1) := by decide +kernel
theorem dX8_broken_7 : decode cX8_broken 7 = .ok (.invokevirtual 213, 3) := by decide +kernel
theorem dX8_broken_10 : decode cX8_broken 10 = .ok (.ifCond .eq 15, 3) := by decide +kernel
theorem dX8_broken_13 : decode cX8_broken 13 = .ok (.iload_n 2, 1) := by decide +kernel
theorem dX8_broken_14 : decode cX8_broken 14 = .ok (.iconst 0, 1) := by decide +kernel
theorem dX8_broken_15 : decode cX8_broken 15 = .ok (.aload_n 0, 1) := by decide +kernel
theorem dX8_broken_16 : decode cX8_broken 16 = .ok (.getfield 207, 3) := by decide +kernel
theorem dX8_broken_19 : decode cX8_broken 19 = .ok (.invokestatic 216, 3) := by decide +kernel
theorem dX8_broken_22 : decode cX8_broken 22 = .ok (.ifCond .ne 5, 3) := by decide +kernel
