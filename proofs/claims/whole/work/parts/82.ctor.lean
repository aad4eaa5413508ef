/-! ===== constructors (by program) ===== -/
abbrev TYk (k0 k1 k2 k3 : ClassId) : List (ClassId × FieldType) := [(k0, .int), (k1, .long), (k2, .byte), (k3, .boolean)]
theorem ar_int : Cond.arrayClass .int ∈ TB := tb_of (List.mem_append_right _ (List.mem_of_getElem? (i := 77) (by decide +kernel))) (by decide +kernel)
theorem ar_long : Cond.arrayClass .long ∈ TB := tb_of (List.mem_append_right _ (List.mem_of_getElem? (i := 76) (by decide +kernel))) (by decide +kernel)
theorem ar_byte : Cond.arrayClass .byte ∈ TB := tb_of (List.mem_append_right _ (List.mem_of_getElem? (i := 75) (by decide +kernel))) (by decide +kernel)
theorem ar_boolean : Cond.arrayClass .boolean ∈ TB := tb_of (List.mem_append_right _ (List.mem_of_getElem? (i := 181) (by decide +kernel))) (by decide +kernel)
theorem oi_i : Cond.instanceMethod objectInit ∈ TB := tb_of (List.mem_append_right _ (List.mem_of_getElem? (i := 28) (by decide +kernel))) (by decide +kernel)
theorem oi_c : Cond.code objectInit ⟨#[0xb1]⟩ 1 none ∈ TB := tb_of (List.mem_append_right _ (List.mem_of_getElem? (i := 29) (by decide +kernel))) (by decide +kernel)
theorem oi_0 : Cond.methodLink RX0 3 objectInit ∈ TB := tb_of (List.mem_append_right _ (List.mem_of_getElem? (i := 187) (by decide +kernel))) (by decide +kernel)
theorem cd_0 : Cond.code yX0_init cX0_init 3 none ∈ TB := tb_of (List.mem_append_right _ (List.mem_of_getElem? (i := 186) (by decide +kernel))) (by decide +kernel)
theorem im_0 : Cond.instanceMethod yX0_init ∈ TB := tb_of (List.mem_append_right _ (List.mem_of_getElem? (i := 185) (by decide +kernel))) (by decide +kernel)
theorem ii_0 : Cond.initialized RX0 ∈ TB := tb_of (List.mem_append_right _ (List.mem_of_getElem? (i := 6) (by decide +kernel))) (by decide +kernel)
theorem is_0 : Cond.instantiable RX0 3 ∈ TB := tb_of (List.mem_append_right _ (List.mem_of_getElem? (i := 183) (by decide +kernel))) (by decide +kernel)
theorem gd_0 : GoodIn TB (wsM M_X0_init) := by
  intro w hw
  rcases List.mem_cons.mp hw with rfl | hw
  · exact tb_good _ cd_0
  · exact tb_good _ hw
theorem oi_1 : Cond.methodLink RX1 3 objectInit ∈ TB := tb_of (List.mem_append_right _ (List.mem_of_getElem? (i := 252) (by decide +kernel))) (by decide +kernel)
theorem cd_1 : Cond.code yX1_init cX1_init 3 none ∈ TB := tb_of (List.mem_append_right _ (List.mem_of_getElem? (i := 251) (by decide +kernel))) (by decide +kernel)
theorem im_1 : Cond.instanceMethod yX1_init ∈ TB := tb_of (List.mem_append_right _ (List.mem_of_getElem? (i := 250) (by decide +kernel))) (by decide +kernel)
theorem ii_1 : Cond.initialized RX1 ∈ TB := tb_of (List.mem_append_right _ (List.mem_of_getElem? (i := 7) (by decide +kernel))) (by decide +kernel)
theorem is_1 : Cond.instantiable RX1 10 ∈ TB := tb_of (List.mem_append_right _ (List.mem_of_getElem? (i := 199) (by decide +kernel))) (by decide +kernel)
theorem gd_1 : GoodIn TB (wsM M_X1_init) := by
  intro w hw
  rcases List.mem_cons.mp hw with rfl | hw
  · exact tb_good _ cd_1
  · exact tb_good _ hw
theorem oi_2 : Cond.methodLink RX2 3 objectInit ∈ TB := tb_of (List.mem_append_right _ (List.mem_of_getElem? (i := 118) (by decide +kernel))) (by decide +kernel)
theorem cd_2 : Cond.code yX2_init cX2_init 1 none ∈ TB := tb_of (List.mem_append_right _ (List.mem_of_getElem? (i := 117) (by decide +kernel))) (by decide +kernel)
theorem im_2 : Cond.instanceMethod yX2_init ∈ TB := tb_of (List.mem_append_right _ (List.mem_of_getElem? (i := 116) (by decide +kernel))) (by decide +kernel)
theorem ii_2 : Cond.initialized RX2 ∈ TB := tb_of (List.mem_append_right _ (List.mem_of_getElem? (i := 4) (by decide +kernel))) (by decide +kernel)
theorem is_2 : Cond.instantiable RX2 6 ∈ TB := tb_of (List.mem_append_right _ (List.mem_of_getElem? (i := 114) (by decide +kernel))) (by decide +kernel)
theorem gd_2 : GoodIn TB (wsM M_X2_init) := by
  intro w hw
  rcases List.mem_cons.mp hw with rfl | hw
  · exact tb_good _ cd_2
  · exact tb_good _ hw
theorem oi_3 : Cond.methodLink RX3 3 objectInit ∈ TB := tb_of (List.mem_append_right _ (List.mem_of_getElem? (i := 35) (by decide +kernel))) (by decide +kernel)
theorem cd_3 : Cond.code yX3_init cX3_init 1 none ∈ TB := tb_of (List.mem_append_right _ (List.mem_of_getElem? (i := 34) (by decide +kernel))) (by decide +kernel)
theorem im_3 : Cond.instanceMethod yX3_init ∈ TB := tb_of (List.mem_append_right _ (List.mem_of_getElem? (i := 33) (by decide +kernel))) (by decide +kernel)
theorem ii_3 : Cond.initialized RX3 ∈ TB := tb_of (List.mem_append_right _ (List.mem_of_getElem? (i := 2) (by decide +kernel))) (by decide +kernel)
theorem is_3 : Cond.instantiable RX3 8 ∈ TB := tb_of (List.mem_append_right _ (List.mem_of_getElem? (i := 31) (by decide +kernel))) (by decide +kernel)
theorem gd_3 : GoodIn TB (wsM M_X3_init) := by
  intro w hw
  rcases List.mem_cons.mp hw with rfl | hw
  · exact tb_good _ cd_3
  · exact tb_good _ hw
theorem oi_4 : Cond.methodLink RX4 3 objectInit ∈ TB := tb_of (List.mem_append_right _ (List.mem_of_getElem? (i := 160) (by decide +kernel))) (by decide +kernel)
theorem cd_4 : Cond.code yX4_init cX4_init 1 none ∈ TB := tb_of (List.mem_append_right _ (List.mem_of_getElem? (i := 159) (by decide +kernel))) (by decide +kernel)
theorem im_4 : Cond.instanceMethod yX4_init ∈ TB := tb_of (List.mem_append_right _ (List.mem_of_getElem? (i := 158) (by decide +kernel))) (by decide +kernel)
theorem ii_4 : Cond.initialized RX4 ∈ TB := tb_of (List.mem_append_right _ (List.mem_of_getElem? (i := 5) (by decide +kernel))) (by decide +kernel)
theorem is_4 : Cond.instantiable RX4 6 ∈ TB := tb_of (List.mem_append_right _ (List.mem_of_getElem? (i := 156) (by decide +kernel))) (by decide +kernel)
theorem gd_4 : GoodIn TB (wsM M_X4_init) := by
  intro w hw
  rcases List.mem_cons.mp hw with rfl | hw
  · exact tb_good _ cd_4
  · exact tb_good _ hw
theorem oi_5 : Cond.methodLink RX5 3 objectInit ∈ TB := tb_of (List.mem_append_right _ (List.mem_of_getElem? (i := 83) (by decide +kernel))) (by decide +kernel)
theorem cd_5 : Cond.code yX5_init cX5_init 2 none ∈ TB := tb_of (List.mem_append_right _ (List.mem_of_getElem? (i := 82) (by decide +kernel))) (by decide +kernel)
theorem im_5 : Cond.instanceMethod yX5_init ∈ TB := tb_of (List.mem_append_right _ (List.mem_of_getElem? (i := 81) (by decide +kernel))) (by decide +kernel)
theorem ii_5 : Cond.initialized RX5 ∈ TB := tb_of (List.mem_append_right _ (List.mem_of_getElem? (i := 3) (by decide +kernel))) (by decide +kernel)
theorem is_5 : Cond.instantiable RX5 9 ∈ TB := tb_of (List.mem_append_right _ (List.mem_of_getElem? (i := 79) (by decide +kernel))) (by decide +kernel)
theorem gd_5 : GoodIn TB (wsM M_X5_init) := by
  intro w hw
  rcases List.mem_cons.mp hw with rfl | hw
  · exact tb_good _ cd_5
  · exact tb_good _ hw
theorem oi_6 : Cond.methodLink RX6 3 objectInit ∈ TB := tb_of (List.mem_append_right _ (List.mem_of_getElem? (i := 205) (by decide +kernel))) (by decide +kernel)
theorem cd_6 : Cond.code yX6_init cX6_init 3 none ∈ TB := tb_of (List.mem_append_right _ (List.mem_of_getElem? (i := 204) (by decide +kernel))) (by decide +kernel)
theorem im_6 : Cond.instanceMethod yX6_init ∈ TB := tb_of (List.mem_append_right _ (List.mem_of_getElem? (i := 203) (by decide +kernel))) (by decide +kernel)
theorem ii_6 : Cond.initialized RX6 ∈ TB := tb_of (List.mem_append_right _ (List.mem_of_getElem? (i := 8) (by decide +kernel))) (by decide +kernel)
theorem is_6 : Cond.instantiable RX6 14 ∈ TB := tb_of (List.mem_append_right _ (List.mem_of_getElem? (i := 201) (by decide +kernel))) (by decide +kernel)
theorem gd_6 : GoodIn TB (wsM M_X6_init) := by
  intro w hw
  rcases List.mem_cons.mp hw with rfl | hw
  · exact tb_good _ cd_6
  · exact tb_good _ hw
theorem oi_7 : Cond.methodLink RX7 3 objectInit ∈ TB := tb_of (List.mem_append_right _ (List.mem_of_getElem? (i := 27) (by decide +kernel))) (by decide +kernel)
theorem cd_7 : Cond.code yX7_init cX7_init 1 none ∈ TB := tb_of (List.mem_append_right _ (List.mem_of_getElem? (i := 26) (by decide +kernel))) (by decide +kernel)
theorem im_7 : Cond.instanceMethod yX7_init ∈ TB := tb_of (List.mem_append_right _ (List.mem_of_getElem? (i := 25) (by decide +kernel))) (by decide +kernel)
theorem ii_7 : Cond.initialized RX7 ∈ TB := tb_of (List.mem_append_right _ (List.mem_of_getElem? (i := 1) (by decide +kernel))) (by decide +kernel)
theorem is_7 : Cond.instantiable RX7 11 ∈ TB := tb_of (List.mem_append_right _ (List.mem_of_getElem? (i := 23) (by decide +kernel))) (by decide +kernel)
theorem gd_7 : GoodIn TB (wsM M_X7_init) := by
  intro w hw
  rcases List.mem_cons.mp hw with rfl | hw
  · exact tb_good _ cd_7
  · exact tb_good _ hw
theorem oi_8 : Cond.methodLink RX8 7 objectInit ∈ TB := tb_of (List.mem_append_right _ (List.mem_of_getElem? (i := 825) (by decide +kernel))) (by decide +kernel)
theorem cd_8 : Cond.code yX8_init cX8_init 1 none ∈ TB := tb_of (List.mem_append_right _ (List.mem_of_getElem? (i := 824) (by decide +kernel))) (by decide +kernel)
theorem im_8 : Cond.instanceMethod yX8_init ∈ TB := tb_of (List.mem_append_right _ (List.mem_of_getElem? (i := 823) (by decide +kernel))) (by decide +kernel)
theorem ii_8 : Cond.initialized RX8 ∈ TB := tb_of (List.mem_append_right _ (List.mem_of_getElem? (i := 9) (by decide +kernel))) (by decide +kernel)
theorem is_8 : Cond.instantiable RX8 45 ∈ TB := tb_of (List.mem_append_right _ (List.mem_of_getElem? (i := 821) (by decide +kernel))) (by decide +kernel)
theorem gd_8 : GoodIn TB (wsM M_X8_init) := by
  intro w hw
  rcases List.mem_cons.mp hw with rfl | hw
  · exact tb_good _ cd_8
  · exact tb_good _ hw
theorem cl_L_8 : Cond.classLink RL 8 RX7 ∈ TB := tb_of (List.mem_append_right _ (List.mem_of_getElem? (i := 22) (by decide +kernel))) (by decide +kernel)
theorem cl_X7_17 : Cond.classLink RX7 17 RX3 ∈ TB := tb_of (List.mem_append_right _ (List.mem_of_getElem? (i := 30) (by decide +kernel))) (by decide +kernel)
theorem cl_X7_27 : Cond.classLink RX7 27 RX5 ∈ TB := tb_of (List.mem_append_right _ (List.mem_of_getElem? (i := 78) (by decide +kernel))) (by decide +kernel)
theorem cl_X7_36 : Cond.classLink RX7 36 RX2 ∈ TB := tb_of (List.mem_append_right _ (List.mem_of_getElem? (i := 113) (by decide +kernel))) (by decide +kernel)
theorem cl_X7_43 : Cond.classLink RX7 43 RX4 ∈ TB := tb_of (List.mem_append_right _ (List.mem_of_getElem? (i := 155) (by decide +kernel))) (by decide +kernel)
theorem cl_X7_50 : Cond.classLink RX7 50 RX0 ∈ TB := tb_of (List.mem_append_right _ (List.mem_of_getElem? (i := 182) (by decide +kernel))) (by decide +kernel)
theorem cl_X7_59 : Cond.classLink RX7 59 RX1 ∈ TB := tb_of (List.mem_append_right _ (List.mem_of_getElem? (i := 198) (by decide +kernel))) (by decide +kernel)
theorem cl_X7_61 : Cond.classLink RX7 61 RX6 ∈ TB := tb_of (List.mem_append_right _ (List.mem_of_getElem? (i := 200) (by decide +kernel))) (by decide +kernel)
theorem cl_L_16 : Cond.classLink RL 16 RX8 ∈ TB := tb_of (List.mem_append_right _ (List.mem_of_getElem? (i := 820) (by decide +kernel))) (by decide +kernel)
theorem fi_X7_9 : Cond.fieldLink RX7 9 "DoorReader" "tape" "[B" ∈ TB := tb_of (List.mem_append_right _ (List.mem_of_getElem? (i := 284) (by decide +kernel))) (by decide +kernel)
theorem fi_X7_13 : Cond.fieldLink RX7 13 "DoorReader" "faultPlace" "I" ∈ TB := tb_of (List.mem_append_right _ (List.mem_of_getElem? (i := 286) (by decide +kernel))) (by decide +kernel)
theorem fi_X7_20 : Cond.fieldLink RX7 20 "DoorReader" "plan" "LDoorReader$Plan;" ∈ TB := tb_of (List.mem_append_right _ (List.mem_of_getElem? (i := 288) (by decide +kernel))) (by decide +kernel)
theorem fi_X7_24 : Cond.fieldLink RX7 24 "DoorReader" "draft" "LDoorReader$Plan;" ∈ TB := tb_of (List.mem_append_right _ (List.mem_of_getElem? (i := 289) (by decide +kernel))) (by decide +kernel)
theorem fi_X7_32 : Cond.fieldLink RX7 32 "DoorReader" "reader" "LDoorReader$TextReader;" ∈ TB := tb_of (List.mem_append_right _ (List.mem_of_getElem? (i := 290) (by decide +kernel))) (by decide +kernel)
theorem fi_X7_39 : Cond.fieldLink RX7 39 "DoorReader" "logs" "LDoorReader$LogBook;" ∈ TB := tb_of (List.mem_append_right _ (List.mem_of_getElem? (i := 291) (by decide +kernel))) (by decide +kernel)
theorem fi_X7_46 : Cond.fieldLink RX7 46 "DoorReader" "rights" "LDoorReader$RightBook;" ∈ TB := tb_of (List.mem_append_right _ (List.mem_of_getElem? (i := 292) (by decide +kernel))) (by decide +kernel)
theorem fi_X7_55 : Cond.fieldLink RX7 55 "DoorReader" "habits" "LDoorReader$Habits;" ∈ TB := tb_of (List.mem_append_right _ (List.mem_of_getElem? (i := 293) (by decide +kernel))) (by decide +kernel)
theorem fi_X7_67 : Cond.fieldLink RX7 67 "DoorReader" "known" "LDoorReader$Known;" ∈ TB := tb_of (List.mem_append_right _ (List.mem_of_getElem? (i := 294) (by decide +kernel))) (by decide +kernel)
theorem fi_X0_9 : Cond.fieldLink RX0 9 "DoorReader$Habits" "earliest" "[I" ∈ TB := tb_of (List.mem_append_right _ (List.mem_of_getElem? (i := 190) (by decide +kernel))) (by decide +kernel)
theorem fi_X0_15 : Cond.fieldLink RX0 15 "DoorReader$Habits" "plan" "LDoorReader$Plan;" ∈ TB := tb_of (List.mem_append_right _ (List.mem_of_getElem? (i := 188) (by decide +kernel))) (by decide +kernel)
theorem fi_X0_19 : Cond.fieldLink RX0 19 "DoorReader$Habits" "logs" "LDoorReader$LogBook;" ∈ TB := tb_of (List.mem_append_right _ (List.mem_of_getElem? (i := 189) (by decide +kernel))) (by decide +kernel)
theorem fi_X1_9 : Cond.fieldLink RX1 9 "DoorReader$Known" "roomsBehind" "[I" ∈ TB := tb_of (List.mem_append_right _ (List.mem_of_getElem? (i := 255) (by decide +kernel))) (by decide +kernel)
theorem fi_X1_15 : Cond.fieldLink RX1 15 "DoorReader$Known" "rooms" "[I" ∈ TB := tb_of (List.mem_append_right _ (List.mem_of_getElem? (i := 256) (by decide +kernel))) (by decide +kernel)
theorem fi_X1_18 : Cond.fieldLink RX1 18 "DoorReader$Known" "wayBehind" "I" ∈ TB := tb_of (List.mem_append_right _ (List.mem_of_getElem? (i := 257) (by decide +kernel))) (by decide +kernel)
theorem fi_X1_22 : Cond.fieldLink RX1 22 "DoorReader$Known" "way" "[I" ∈ TB := tb_of (List.mem_append_right _ (List.mem_of_getElem? (i := 262) (by decide +kernel))) (by decide +kernel)
theorem fi_X1_25 : Cond.fieldLink RX1 25 "DoorReader$Known" "logs" "LDoorReader$LogBook;" ∈ TB := tb_of (List.mem_append_right _ (List.mem_of_getElem? (i := 253) (by decide +kernel))) (by decide +kernel)
theorem fi_X1_29 : Cond.fieldLink RX1 29 "DoorReader$Known" "walks" "LDoorReader$Walks;" ∈ TB := tb_of (List.mem_append_right _ (List.mem_of_getElem? (i := 254) (by decide +kernel))) (by decide +kernel)
theorem fi_X2_9 : Cond.fieldLink RX2 9 "DoorReader$LogBook" "kind" "[I" ∈ TB := tb_of (List.mem_append_right _ (List.mem_of_getElem? (i := 123) (by decide +kernel))) (by decide +kernel)
theorem fi_X2_15 : Cond.fieldLink RX2 15 "DoorReader$LogBook" "card" "[I" ∈ TB := tb_of (List.mem_append_right _ (List.mem_of_getElem? (i := 126) (by decide +kernel))) (by decide +kernel)
theorem fi_X2_18 : Cond.fieldLink RX2 18 "DoorReader$LogBook" "target" "[I" ∈ TB := tb_of (List.mem_append_right _ (List.mem_of_getElem? (i := 130) (by decide +kernel))) (by decide +kernel)
theorem fi_X2_21 : Cond.fieldLink RX2 21 "DoorReader$LogBook" "tick" "[I" ∈ TB := tb_of (List.mem_append_right _ (List.mem_of_getElem? (i := 134) (by decide +kernel))) (by decide +kernel)
theorem fi_X2_24 : Cond.fieldLink RX2 24 "DoorReader$LogBook" "more" "[I" ∈ TB := tb_of (List.mem_append_right _ (List.mem_of_getElem? (i := 138) (by decide +kernel))) (by decide +kernel)
theorem fi_X3_9 : Cond.fieldLink RX3 9 "DoorReader$Plan" "roomName" "[J" ∈ TB := tb_of (List.mem_append_right _ (List.mem_of_getElem? (i := 44) (by decide +kernel))) (by decide +kernel)
theorem fi_X3_15 : Cond.fieldLink RX3 15 "DoorReader$Plan" "width" "[I" ∈ TB := tb_of (List.mem_append_right _ (List.mem_of_getElem? (i := 45) (by decide +kernel))) (by decide +kernel)
theorem fi_X3_19 : Cond.fieldLink RX3 19 "DoorReader$Plan" "doorName" "[J" ∈ TB := tb_of (List.mem_append_right _ (List.mem_of_getElem? (i := 48) (by decide +kernel))) (by decide +kernel)
theorem fi_X3_22 : Cond.fieldLink RX3 22 "DoorReader$Plan" "first" "[I" ∈ TB := tb_of (List.mem_append_right _ (List.mem_of_getElem? (i := 49) (by decide +kernel))) (by decide +kernel)
theorem fi_X3_25 : Cond.fieldLink RX3 25 "DoorReader$Plan" "second" "[I" ∈ TB := tb_of (List.mem_append_right _ (List.mem_of_getElem? (i := 52) (by decide +kernel))) (by decide +kernel)
theorem fi_X3_28 : Cond.fieldLink RX3 28 "DoorReader$Plan" "error" "[I" ∈ TB := tb_of (List.mem_append_right _ (List.mem_of_getElem? (i := 55) (by decide +kernel))) (by decide +kernel)
theorem fi_X4_9 : Cond.fieldLink RX4 9 "DoorReader$RightBook" "card" "[I" ∈ TB := tb_of (List.mem_append_right _ (List.mem_of_getElem? (i := 163) (by decide +kernel))) (by decide +kernel)
theorem fi_X4_15 : Cond.fieldLink RX4 15 "DoorReader$RightBook" "room" "[I" ∈ TB := tb_of (List.mem_append_right _ (List.mem_of_getElem? (i := 164) (by decide +kernel))) (by decide +kernel)
theorem fi_X4_18 : Cond.fieldLink RX4 18 "DoorReader$RightBook" "from" "[I" ∈ TB := tb_of (List.mem_append_right _ (List.mem_of_getElem? (i := 165) (by decide +kernel))) (by decide +kernel)
theorem fi_X4_21 : Cond.fieldLink RX4 21 "DoorReader$RightBook" "to" "[I" ∈ TB := tb_of (List.mem_append_right _ (List.mem_of_getElem? (i := 166) (by decide +kernel))) (by decide +kernel)
theorem fi_X4_24 : Cond.fieldLink RX4 24 "DoorReader$RightBook" "given" "[Z" ∈ TB := tb_of (List.mem_append_right _ (List.mem_of_getElem? (i := 167) (by decide +kernel))) (by decide +kernel)
theorem fi_X5_9 : Cond.fieldLink RX5 9 "DoorReader$TextReader" "text" "[B" ∈ TB := tb_of (List.mem_append_right _ (List.mem_of_getElem? (i := 84) (by decide +kernel))) (by decide +kernel)
theorem fi_X6_9 : Cond.fieldLink RX6 9 "DoorReader$Walks" "passLog" "[I" ∈ TB := tb_of (List.mem_append_right _ (List.mem_of_getElem? (i := 209) (by decide +kernel))) (by decide +kernel)
theorem fi_X6_15 : Cond.fieldLink RX6 15 "DoorReader$Walks" "leaves" "[I" ∈ TB := tb_of (List.mem_append_right _ (List.mem_of_getElem? (i := 210) (by decide +kernel))) (by decide +kernel)
theorem fi_X6_18 : Cond.fieldLink RX6 18 "DoorReader$Walks" "comesTo" "[I" ∈ TB := tb_of (List.mem_append_right _ (List.mem_of_getElem? (i := 211) (by decide +kernel))) (by decide +kernel)
theorem fi_X6_21 : Cond.fieldLink RX6 21 "DoorReader$Walks" "soonest" "[I" ∈ TB := tb_of (List.mem_append_right _ (List.mem_of_getElem? (i := 212) (by decide +kernel))) (by decide +kernel)
theorem fi_X6_24 : Cond.fieldLink RX6 24 "DoorReader$Walks" "latest" "[I" ∈ TB := tb_of (List.mem_append_right _ (List.mem_of_getElem? (i := 213) (by decide +kernel))) (by decide +kernel)
theorem fi_X6_27 : Cond.fieldLink RX6 27 "DoorReader$Walks" "openBehind" "I" ∈ TB := tb_of (List.mem_append_right _ (List.mem_of_getElem? (i := 214) (by decide +kernel))) (by decide +kernel)
theorem fi_X6_31 : Cond.fieldLink RX6 31 "DoorReader$Walks" "openDoors" "[I" ∈ TB := tb_of (List.mem_append_right _ (List.mem_of_getElem? (i := 215) (by decide +kernel))) (by decide +kernel)
theorem fi_X6_34 : Cond.fieldLink RX6 34 "DoorReader$Walks" "seen" "[J" ∈ TB := tb_of (List.mem_append_right _ (List.mem_of_getElem? (i := 216) (by decide +kernel))) (by decide +kernel)
theorem fi_X6_38 : Cond.fieldLink RX6 38 "DoorReader$Walks" "entry" "[J" ∈ TB := tb_of (List.mem_append_right _ (List.mem_of_getElem? (i := 217) (by decide +kernel))) (by decide +kernel)
theorem fi_X6_41 : Cond.fieldLink RX6 41 "DoorReader$Walks" "hopeful" "[J" ∈ TB := tb_of (List.mem_append_right _ (List.mem_of_getElem? (i := 218) (by decide +kernel))) (by decide +kernel)
theorem fi_X6_44 : Cond.fieldLink RX6 44 "DoorReader$Walks" "now" "[J" ∈ TB := tb_of (List.mem_append_right _ (List.mem_of_getElem? (i := 219) (by decide +kernel))) (by decide +kernel)
theorem fi_X6_47 : Cond.fieldLink RX6 47 "DoorReader$Walks" "plan" "LDoorReader$Plan;" ∈ TB := tb_of (List.mem_append_right _ (List.mem_of_getElem? (i := 206) (by decide +kernel))) (by decide +kernel)
theorem fi_X6_51 : Cond.fieldLink RX6 51 "DoorReader$Walks" "logs" "LDoorReader$LogBook;" ∈ TB := tb_of (List.mem_append_right _ (List.mem_of_getElem? (i := 207) (by decide +kernel))) (by decide +kernel)
theorem fi_X8_13 : Cond.fieldLink RX8 13 "DoorReaderModel" "tape" "[B" ∈ TB := tb_of (List.mem_append_right _ (List.mem_of_getElem? (i := 827) (by decide +kernel))) (by decide +kernel)
theorem fi_X8_17 : Cond.fieldLink RX8 17 "DoorReaderModel" "lastPlace" "I" ∈ TB := tb_of (List.mem_append_right _ (List.mem_of_getElem? (i := 835) (by decide +kernel))) (by decide +kernel)
theorem fi_X8_20 : Cond.fieldLink RX8 20 "DoorReaderModel" "names" "[B" ∈ TB := tb_of (List.mem_append_right _ (List.mem_of_getElem? (i := 836) (by decide +kernel))) (by decide +kernel)
theorem fi_X8_23 : Cond.fieldLink RX8 23 "DoorReaderModel" "nameSize" "[I" ∈ TB := tb_of (List.mem_append_right _ (List.mem_of_getElem? (i := 837) (by decide +kernel))) (by decide +kernel)
theorem fi_X8_27 : Cond.fieldLink RX8 27 "DoorReaderModel" "newWide" "[I" ∈ TB := tb_of (List.mem_append_right _ (List.mem_of_getElem? (i := 840) (by decide +kernel))) (by decide +kernel)
theorem fi_X8_30 : Cond.fieldLink RX8 30 "DoorReaderModel" "newFirst" "[I" ∈ TB := tb_of (List.mem_append_right _ (List.mem_of_getElem? (i := 841) (by decide +kernel))) (by decide +kernel)
theorem fi_X8_33 : Cond.fieldLink RX8 33 "DoorReaderModel" "newSecond" "[I" ∈ TB := tb_of (List.mem_append_right _ (List.mem_of_getElem? (i := 842) (by decide +kernel))) (by decide +kernel)
theorem fi_X8_36 : Cond.fieldLink RX8 36 "DoorReaderModel" "newErrs" "[I" ∈ TB := tb_of (List.mem_append_right _ (List.mem_of_getElem? (i := 843) (by decide +kernel))) (by decide +kernel)
theorem fi_X8_39 : Cond.fieldLink RX8 39 "DoorReaderModel" "wides" "[I" ∈ TB := tb_of (List.mem_append_right _ (List.mem_of_getElem? (i := 846) (by decide +kernel))) (by decide +kernel)
theorem fi_X8_42 : Cond.fieldLink RX8 42 "DoorReaderModel" "first" "[I" ∈ TB := tb_of (List.mem_append_right _ (List.mem_of_getElem? (i := 847) (by decide +kernel))) (by decide +kernel)
theorem fi_X8_45 : Cond.fieldLink RX8 45 "DoorReaderModel" "second" "[I" ∈ TB := tb_of (List.mem_append_right _ (List.mem_of_getElem? (i := 848) (by decide +kernel))) (by decide +kernel)
theorem fi_X8_48 : Cond.fieldLink RX8 48 "DoorReaderModel" "errs" "[I" ∈ TB := tb_of (List.mem_append_right _ (List.mem_of_getElem? (i := 849) (by decide +kernel))) (by decide +kernel)
theorem fi_X8_51 : Cond.fieldLink RX8 51 "DoorReaderModel" "kind" "[I" ∈ TB := tb_of (List.mem_append_right _ (List.mem_of_getElem? (i := 853) (by decide +kernel))) (by decide +kernel)
theorem fi_X8_54 : Cond.fieldLink RX8 54 "DoorReaderModel" "who" "[I" ∈ TB := tb_of (List.mem_append_right _ (List.mem_of_getElem? (i := 854) (by decide +kernel))) (by decide +kernel)
theorem fi_X8_57 : Cond.fieldLink RX8 57 "DoorReaderModel" "where" "[I" ∈ TB := tb_of (List.mem_append_right _ (List.mem_of_getElem? (i := 855) (by decide +kernel))) (by decide +kernel)
theorem fi_X8_60 : Cond.fieldLink RX8 60 "DoorReaderModel" "when" "[I" ∈ TB := tb_of (List.mem_append_right _ (List.mem_of_getElem? (i := 856) (by decide +kernel))) (by decide +kernel)
theorem fi_X8_63 : Cond.fieldLink RX8 63 "DoorReaderModel" "more" "[I" ∈ TB := tb_of (List.mem_append_right _ (List.mem_of_getElem? (i := 857) (by decide +kernel))) (by decide +kernel)
theorem fi_X8_66 : Cond.fieldLink RX8 66 "DoorReaderModel" "rightCard" "[I" ∈ TB := tb_of (List.mem_append_right _ (List.mem_of_getElem? (i := 858) (by decide +kernel))) (by decide +kernel)
theorem fi_X8_69 : Cond.fieldLink RX8 69 "DoorReaderModel" "rightRoom" "[I" ∈ TB := tb_of (List.mem_append_right _ (List.mem_of_getElem? (i := 859) (by decide +kernel))) (by decide +kernel)
theorem fi_X8_72 : Cond.fieldLink RX8 72 "DoorReaderModel" "rightFrom" "[I" ∈ TB := tb_of (List.mem_append_right _ (List.mem_of_getElem? (i := 860) (by decide +kernel))) (by decide +kernel)
theorem fi_X8_75 : Cond.fieldLink RX8 75 "DoorReaderModel" "rightTo" "[I" ∈ TB := tb_of (List.mem_append_right _ (List.mem_of_getElem? (i := 861) (by decide +kernel))) (by decide +kernel)
theorem fi_X8_78 : Cond.fieldLink RX8 78 "DoorReaderModel" "isGiven" "[Z" ∈ TB := tb_of (List.mem_append_right _ (List.mem_of_getElem? (i := 862) (by decide +kernel))) (by decide +kernel)
theorem fi_X8_82 : Cond.fieldLink RX8 82 "DoorReaderModel" "order" "[I" ∈ TB := tb_of (List.mem_append_right _ (List.mem_of_getElem? (i := 863) (by decide +kernel))) (by decide +kernel)
theorem fi_X8_85 : Cond.fieldLink RX8 85 "DoorReaderModel" "seenIn" "[J" ∈ TB := tb_of (List.mem_append_right _ (List.mem_of_getElem? (i := 865) (by decide +kernel))) (by decide +kernel)
theorem fi_X8_89 : Cond.fieldLink RX8 89 "DoorReaderModel" "isFree" "[Z" ∈ TB := tb_of (List.mem_append_right _ (List.mem_of_getElem? (i := 866) (by decide +kernel))) (by decide +kernel)
theorem fi_X8_92 : Cond.fieldLink RX8 92 "DoorReaderModel" "front" "[J" ∈ TB := tb_of (List.mem_append_right _ (List.mem_of_getElem? (i := 867) (by decide +kernel))) (by decide +kernel)
theorem fi_X8_95 : Cond.fieldLink RX8 95 "DoorReaderModel" "back" "[J" ∈ TB := tb_of (List.mem_append_right _ (List.mem_of_getElem? (i := 868) (by decide +kernel))) (by decide +kernel)
theorem fi_X8_98 : Cond.fieldLink RX8 98 "DoorReaderModel" "set" "[J" ∈ TB := tb_of (List.mem_append_right _ (List.mem_of_getElem? (i := 869) (by decide +kernel))) (by decide +kernel)
theorem fi_X8_101 : Cond.fieldLink RX8 101 "DoorReaderModel" "after" "[J" ∈ TB := tb_of (List.mem_append_right _ (List.mem_of_getElem? (i := 870) (by decide +kernel))) (by decide +kernel)
section NEWA
variable {p : Program} {l : Launch} {e : Env} {R : Room} {s : State} {m : MethodId} {args : Array Value} {below : List Frame} {meth : Method} {c : Code} {H : Heap} {locs : List Loc} {cells slots : Nat} {Q : State → Prop}
variable {cc : ByteArray} {pc : Nat} {ls : Array Slot} {rest : List Value} {D : va_G} {cl : List vw_C} {A : Nat → Prop} {tys : List (ClassId × FieldType)} {ws : va_W} {H0 : Heap}
theorem nw_newa (hexec : p.tables.exec = Jvm.exec) (hb : c.code = cc) {atype : ArrayType} (harr : (Cond.arrayClass (newarray.typeOf atype)).before args s = true) {ty : FieldType} (hty : newarray.typeOf atype = ty) (hK : va_K D cl tys s) (t : Nat) {cT : ClassId} (hT : tys[t]? = some (cT, ty)) (hp : ∀ (U : State) (cA : ClassId), va_RA U cA ty → U.vm.findClass ("[" ++ ty.toString) = some cA) (hP : va_P D cl ws H) (hD : va_D A ws) (hS : va_S A H0 H locs) (hA : ∀ q, H0.size ≤ q → A q)
    {n : Int32} {N' : Nat} {a0 : vp_A} (ha : ∀ cA : ClassId, vp_cell cA a0 = arrV cA N' (fun _ => defaultValue ty)) (hn : ¬ n < 0) (hN : n.toNatClampNeg = N') (hbytes : N' * componentBytes ty ≤ 536870912) (hcells : cells + 1 ≤ R.cells) (hslots : slots + N' ≤ R.slots) (hdg : decode cc pc = .ok (.newarray atype, 2))
    (kk : ∀ (q : Nat) (H1 : Heap), va_P D cl (ws ++ [(q, .inl (cT, a0))]) H1 → va_D A (ws ++ [(q, .inl (cT, a0))]) → va_S A H0 H1 locs → W p l e R s m args below meth c H1 locs (cells + 1) (slots + N') Q (F0 m (pc + 2) ls (.ref q :: rest))) : W p l e R s m args below meth c H locs cells slots Q (F0 m pc ls (.int n :: rest)) := by
  refine va_newa hexec hb harr hty hK hP hD hS hA ha hn hN hbytes hcells hslots hdg (fun q cA H1 hK1 hP1 hD1 hS1 => ?_)
  have e1 := hp _ _ (hK1.2 tys.length (cA, ty) (by simp)).2
  have e2 := hp _ _ (hK.2 t _ hT).2
  cases Option.some.inj (e1.symm.trans e2)
  exact kk q H1 hP1 hD1 hS1
end NEWA
