section
-- ===== PART A: goes FIRST, ahead of the names: the tables' words, and 'selects' of the private methods out of them =====
/-- a private method of a class that the tables say can be made, by its rows of tables_1 -/
def lw_okq (q : MethodName × Nat) : Prop := (q.1.cls ≠ "java/lang/invoke/MethodHandle" ∧ q.1.cls ≠ "java/lang/invoke/VarHandle") ∧ Cond.instantiable q.1.cls q.2 ∈ tables_1 ∧ Cond.privateMethod q.1 ∈ tables_1 ∧ Cond.instanceMethod q.1 ∈ tables_1
theorem lw_p0 : lw_okq (⟨"DoorReader", "putNumber", "(I)V"⟩, 11) := ⟨⟨by decide +kernel, by decide +kernel⟩, List.mem_of_getElem? (i := 23) (by decide +kernel), List.mem_of_getElem? (i := 323) (by decide +kernel), List.mem_of_getElem? (i := 324) (by decide +kernel)⟩
theorem lw_p1 : lw_okq (⟨"DoorReader$TextReader", "readInto", "(LDoorReader$Plan;I)I"⟩, 9) := ⟨⟨by decide +kernel, by decide +kernel⟩, List.mem_of_getElem? (i := 79) (by decide +kernel), List.mem_of_getElem? (i := 335) (by decide +kernel), List.mem_of_getElem? (i := 336) (by decide +kernel)⟩
theorem lw_p2 : lw_okq (⟨"DoorReader$Plan", "clear", "()V"⟩, 8) := ⟨⟨by decide +kernel, by decide +kernel⟩, List.mem_of_getElem? (i := 31) (by decide +kernel), List.mem_of_getElem? (i := 339) (by decide +kernel), List.mem_of_getElem? (i := 340) (by decide +kernel)⟩
theorem lw_p3 : lw_okq (⟨"DoorReader$TextReader", "nextToken", "()V"⟩, 9) := ⟨⟨by decide +kernel, by decide +kernel⟩, List.mem_of_getElem? (i := 79) (by decide +kernel), List.mem_of_getElem? (i := 346) (by decide +kernel), List.mem_of_getElem? (i := 347) (by decide +kernel)⟩
theorem lw_p4 : lw_okq (⟨"DoorReader$TextReader", "readWord", "()V"⟩, 9) := ⟨⟨by decide +kernel, by decide +kernel⟩, List.mem_of_getElem? (i := 79) (by decide +kernel), List.mem_of_getElem? (i := 356) (by decide +kernel), List.mem_of_getElem? (i := 357) (by decide +kernel)⟩
theorem lw_p5 : lw_okq (⟨"DoorReader$TextReader", "readNumber", "()V"⟩, 9) := ⟨⟨by decide +kernel, by decide +kernel⟩, List.mem_of_getElem? (i := 79) (by decide +kernel), List.mem_of_getElem? (i := 363) (by decide +kernel), List.mem_of_getElem? (i := 364) (by decide +kernel)⟩
theorem lw_p6 : lw_okq (⟨"DoorReader$TextReader", "readRoom", "(LDoorReader$Plan;)V"⟩, 9) := ⟨⟨by decide +kernel, by decide +kernel⟩, List.mem_of_getElem? (i := 79) (by decide +kernel), List.mem_of_getElem? (i := 369) (by decide +kernel), List.mem_of_getElem? (i := 370) (by decide +kernel)⟩
theorem lw_p7 : lw_okq (⟨"DoorReader$TextReader", "faultHere", "(I)V"⟩, 9) := ⟨⟨by decide +kernel, by decide +kernel⟩, List.mem_of_getElem? (i := 79) (by decide +kernel), List.mem_of_getElem? (i := 373) (by decide +kernel), List.mem_of_getElem? (i := 374) (by decide +kernel)⟩
theorem lw_p8 : lw_okq (⟨"DoorReader$TextReader", "takeNewName", "(LDoorReader$Plan;)J"⟩, 9) := ⟨⟨by decide +kernel, by decide +kernel⟩, List.mem_of_getElem? (i := 79) (by decide +kernel), List.mem_of_getElem? (i := 377) (by decide +kernel), List.mem_of_getElem? (i := 378) (by decide +kernel)⟩
theorem lw_p9 : lw_okq (⟨"DoorReader$TextReader", "isName", "()Z"⟩, 9) := ⟨⟨by decide +kernel, by decide +kernel⟩, List.mem_of_getElem? (i := 79) (by decide +kernel), List.mem_of_getElem? (i := 381) (by decide +kernel), List.mem_of_getElem? (i := 382) (by decide +kernel)⟩
theorem lw_p10 : lw_okq (⟨"DoorReader$Plan", "hasName", "(J)Z"⟩, 8) := ⟨⟨by decide +kernel, by decide +kernel⟩, List.mem_of_getElem? (i := 31) (by decide +kernel), List.mem_of_getElem? (i := 386) (by decide +kernel), List.mem_of_getElem? (i := 387) (by decide +kernel)⟩
theorem lw_p11 : lw_okq (⟨"DoorReader$Plan", "roomNamed", "(J)I"⟩, 8) := ⟨⟨by decide +kernel, by decide +kernel⟩, List.mem_of_getElem? (i := 31) (by decide +kernel), List.mem_of_getElem? (i := 390) (by decide +kernel), List.mem_of_getElem? (i := 391) (by decide +kernel)⟩
theorem lw_p12 : lw_okq (⟨"DoorReader$TextReader", "takeNumber", "(I)I"⟩, 9) := ⟨⟨by decide +kernel, by decide +kernel⟩, List.mem_of_getElem? (i := 79) (by decide +kernel), List.mem_of_getElem? (i := 394) (by decide +kernel), List.mem_of_getElem? (i := 395) (by decide +kernel)⟩
theorem lw_p13 : lw_okq (⟨"DoorReader$TextReader", "takeSign", "()V"⟩, 9) := ⟨⟨by decide +kernel, by decide +kernel⟩, List.mem_of_getElem? (i := 79) (by decide +kernel), List.mem_of_getElem? (i := 398) (by decide +kernel), List.mem_of_getElem? (i := 399) (by decide +kernel)⟩
theorem lw_p14 : lw_okq (⟨"DoorReader$Plan", "addRoom", "(JI)V"⟩, 8) := ⟨⟨by decide +kernel, by decide +kernel⟩, List.mem_of_getElem? (i := 31) (by decide +kernel), List.mem_of_getElem? (i := 402) (by decide +kernel), List.mem_of_getElem? (i := 403) (by decide +kernel)⟩
theorem lw_p15 : lw_okq (⟨"DoorReader$TextReader", "readDoor", "(LDoorReader$Plan;)V"⟩, 9) := ⟨⟨by decide +kernel, by decide +kernel⟩, List.mem_of_getElem? (i := 79) (by decide +kernel), List.mem_of_getElem? (i := 406) (by decide +kernel), List.mem_of_getElem? (i := 407) (by decide +kernel)⟩
def lw_privs_1 : List (MethodName × Nat) := [(⟨"DoorReader", "putNumber", "(I)V"⟩, 11), (⟨"DoorReader$TextReader", "readInto", "(LDoorReader$Plan;I)I"⟩, 9), (⟨"DoorReader$Plan", "clear", "()V"⟩, 8), (⟨"DoorReader$TextReader", "nextToken", "()V"⟩, 9), (⟨"DoorReader$TextReader", "readWord", "()V"⟩, 9), (⟨"DoorReader$TextReader", "readNumber", "()V"⟩, 9), (⟨"DoorReader$TextReader", "readRoom", "(LDoorReader$Plan;)V"⟩, 9), (⟨"DoorReader$TextReader", "faultHere", "(I)V"⟩, 9), (⟨"DoorReader$TextReader", "takeNewName", "(LDoorReader$Plan;)J"⟩, 9), (⟨"DoorReader$TextReader", "isName", "()Z"⟩, 9), (⟨"DoorReader$Plan", "hasName", "(J)Z"⟩, 8), (⟨"DoorReader$Plan", "roomNamed", "(J)I"⟩, 8), (⟨"DoorReader$TextReader", "takeNumber", "(I)I"⟩, 9), (⟨"DoorReader$TextReader", "takeSign", "()V"⟩, 9), (⟨"DoorReader$Plan", "addRoom", "(JI)V"⟩, 8), (⟨"DoorReader$TextReader", "readDoor", "(LDoorReader$Plan;)V"⟩, 9)]
theorem lw_r1 : ∀ q ∈ lw_privs_1, lw_okq q := List.forall_mem_cons.mpr ⟨lw_p0, List.forall_mem_cons.mpr ⟨lw_p1, List.forall_mem_cons.mpr ⟨lw_p2, List.forall_mem_cons.mpr ⟨lw_p3, List.forall_mem_cons.mpr ⟨lw_p4, List.forall_mem_cons.mpr ⟨lw_p5, List.forall_mem_cons.mpr ⟨lw_p6, List.forall_mem_cons.mpr ⟨lw_p7, List.forall_mem_cons.mpr ⟨lw_p8, List.forall_mem_cons.mpr ⟨lw_p9, List.forall_mem_cons.mpr ⟨lw_p10, List.forall_mem_cons.mpr ⟨lw_p11, List.forall_mem_cons.mpr ⟨lw_p12, List.forall_mem_cons.mpr ⟨lw_p13, List.forall_mem_cons.mpr ⟨lw_p14, List.forall_mem_cons.mpr ⟨lw_p15, fun _ h => absurd h List.not_mem_nil⟩⟩⟩⟩⟩⟩⟩⟩⟩⟩⟩⟩⟩⟩⟩⟩
theorem lw_p16 : lw_okq (⟨"DoorReader$TextReader", "takeRoom", "(LDoorReader$Plan;I)I"⟩, 9) := ⟨⟨by decide +kernel, by decide +kernel⟩, List.mem_of_getElem? (i := 79) (by decide +kernel), List.mem_of_getElem? (i := 410) (by decide +kernel), List.mem_of_getElem? (i := 411) (by decide +kernel)⟩
theorem lw_p17 : lw_okq (⟨"DoorReader$Plan", "addDoor", "(JIII)V"⟩, 8) := ⟨⟨by decide +kernel, by decide +kernel⟩, List.mem_of_getElem? (i := 31) (by decide +kernel), List.mem_of_getElem? (i := 415) (by decide +kernel), List.mem_of_getElem? (i := 416) (by decide +kernel)⟩
theorem lw_p18 : lw_okq (⟨"DoorReader$Plan", "copyFrom", "(LDoorReader$Plan;)V"⟩, 8) := ⟨⟨by decide +kernel, by decide +kernel⟩, List.mem_of_getElem? (i := 31) (by decide +kernel), List.mem_of_getElem? (i := 419) (by decide +kernel), List.mem_of_getElem? (i := 420) (by decide +kernel)⟩
theorem lw_p19 : lw_okq (⟨"DoorReader$LogBook", "clear", "()V"⟩, 6) := ⟨⟨by decide +kernel, by decide +kernel⟩, List.mem_of_getElem? (i := 114) (by decide +kernel), List.mem_of_getElem? (i := 426) (by decide +kernel), List.mem_of_getElem? (i := 427) (by decide +kernel)⟩
theorem lw_p20 : lw_okq (⟨"DoorReader$RightBook", "clear", "()V"⟩, 6) := ⟨⟨by decide +kernel, by decide +kernel⟩, List.mem_of_getElem? (i := 156) (by decide +kernel), List.mem_of_getElem? (i := 430) (by decide +kernel), List.mem_of_getElem? (i := 431) (by decide +kernel)⟩
theorem lw_p21 : lw_okq (⟨"DoorReader$Known", "forget", "()V"⟩, 10) := ⟨⟨by decide +kernel, by decide +kernel⟩, List.mem_of_getElem? (i := 199) (by decide +kernel), List.mem_of_getElem? (i := 434) (by decide +kernel), List.mem_of_getElem? (i := 435) (by decide +kernel)⟩
theorem lw_p22 : lw_okq (⟨"DoorReader$Walks", "forget", "()V"⟩, 14) := ⟨⟨by decide +kernel, by decide +kernel⟩, List.mem_of_getElem? (i := 201) (by decide +kernel), List.mem_of_getElem? (i := 438) (by decide +kernel), List.mem_of_getElem? (i := 439) (by decide +kernel)⟩
theorem lw_p23 : lw_okq (⟨"DoorReader", "hasCard", "(I)Z"⟩, 11) := ⟨⟨by decide +kernel, by decide +kernel⟩, List.mem_of_getElem? (i := 23) (by decide +kernel), List.mem_of_getElem? (i := 457) (by decide +kernel), List.mem_of_getElem? (i := 458) (by decide +kernel)⟩
theorem lw_p24 : lw_okq (⟨"DoorReader", "hasDoor", "(I)Z"⟩, 11) := ⟨⟨by decide +kernel, by decide +kernel⟩, List.mem_of_getElem? (i := 23) (by decide +kernel), List.mem_of_getElem? (i := 461) (by decide +kernel), List.mem_of_getElem? (i := 462) (by decide +kernel)⟩
theorem lw_p25 : lw_okq (⟨"DoorReader", "isTick", "(I)Z"⟩, 11) := ⟨⟨by decide +kernel, by decide +kernel⟩, List.mem_of_getElem? (i := 23) (by decide +kernel), List.mem_of_getElem? (i := 465) (by decide +kernel), List.mem_of_getElem? (i := 466) (by decide +kernel)⟩
theorem lw_p26 : lw_okq (⟨"DoorReader$LogBook", "passesOf", "(I)I"⟩, 6) := ⟨⟨by decide +kernel, by decide +kernel⟩, List.mem_of_getElem? (i := 114) (by decide +kernel), List.mem_of_getElem? (i := 469) (by decide +kernel), List.mem_of_getElem? (i := 470) (by decide +kernel)⟩
theorem lw_p27 : lw_okq (⟨"DoorReader$LogBook", "isPassOf", "(II)Z"⟩, 6) := ⟨⟨by decide +kernel, by decide +kernel⟩, List.mem_of_getElem? (i := 114) (by decide +kernel), List.mem_of_getElem? (i := 473) (by decide +kernel), List.mem_of_getElem? (i := 474) (by decide +kernel)⟩
theorem lw_p28 : lw_okq (⟨"DoorReader$LogBook", "isPass", "(I)Z"⟩, 6) := ⟨⟨by decide +kernel, by decide +kernel⟩, List.mem_of_getElem? (i := 114) (by decide +kernel), List.mem_of_getElem? (i := 477) (by decide +kernel), List.mem_of_getElem? (i := 478) (by decide +kernel)⟩
theorem lw_p29 : lw_okq (⟨"DoorReader$LogBook", "has", "(I)Z"⟩, 6) := ⟨⟨by decide +kernel, by decide +kernel⟩, List.mem_of_getElem? (i := 114) (by decide +kernel), List.mem_of_getElem? (i := 481) (by decide +kernel), List.mem_of_getElem? (i := 482) (by decide +kernel)⟩
theorem lw_p30 : lw_okq (⟨"DoorReader$LogBook", "add", "(IIIII)I"⟩, 6) := ⟨⟨by decide +kernel, by decide +kernel⟩, List.mem_of_getElem? (i := 114) (by decide +kernel), List.mem_of_getElem? (i := 485) (by decide +kernel), List.mem_of_getElem? (i := 486) (by decide +kernel)⟩
theorem lw_p31 : lw_okq (⟨"DoorReader", "hasRoom", "(I)Z"⟩, 11) := ⟨⟨by decide +kernel, by decide +kernel⟩, List.mem_of_getElem? (i := 23) (by decide +kernel), List.mem_of_getElem? (i := 497) (by decide +kernel), List.mem_of_getElem? (i := 498) (by decide +kernel)⟩
def lw_privs_2 : List (MethodName × Nat) := [(⟨"DoorReader$TextReader", "takeRoom", "(LDoorReader$Plan;I)I"⟩, 9), (⟨"DoorReader$Plan", "addDoor", "(JIII)V"⟩, 8), (⟨"DoorReader$Plan", "copyFrom", "(LDoorReader$Plan;)V"⟩, 8), (⟨"DoorReader$LogBook", "clear", "()V"⟩, 6), (⟨"DoorReader$RightBook", "clear", "()V"⟩, 6), (⟨"DoorReader$Known", "forget", "()V"⟩, 10), (⟨"DoorReader$Walks", "forget", "()V"⟩, 14), (⟨"DoorReader", "hasCard", "(I)Z"⟩, 11), (⟨"DoorReader", "hasDoor", "(I)Z"⟩, 11), (⟨"DoorReader", "isTick", "(I)Z"⟩, 11), (⟨"DoorReader$LogBook", "passesOf", "(I)I"⟩, 6), (⟨"DoorReader$LogBook", "isPassOf", "(II)Z"⟩, 6), (⟨"DoorReader$LogBook", "isPass", "(I)Z"⟩, 6), (⟨"DoorReader$LogBook", "has", "(I)Z"⟩, 6), (⟨"DoorReader$LogBook", "add", "(IIIII)I"⟩, 6), (⟨"DoorReader", "hasRoom", "(I)Z"⟩, 11)]
theorem lw_r2 : ∀ q ∈ lw_privs_2, lw_okq q := List.forall_mem_cons.mpr ⟨lw_p16, List.forall_mem_cons.mpr ⟨lw_p17, List.forall_mem_cons.mpr ⟨lw_p18, List.forall_mem_cons.mpr ⟨lw_p19, List.forall_mem_cons.mpr ⟨lw_p20, List.forall_mem_cons.mpr ⟨lw_p21, List.forall_mem_cons.mpr ⟨lw_p22, List.forall_mem_cons.mpr ⟨lw_p23, List.forall_mem_cons.mpr ⟨lw_p24, List.forall_mem_cons.mpr ⟨lw_p25, List.forall_mem_cons.mpr ⟨lw_p26, List.forall_mem_cons.mpr ⟨lw_p27, List.forall_mem_cons.mpr ⟨lw_p28, List.forall_mem_cons.mpr ⟨lw_p29, List.forall_mem_cons.mpr ⟨lw_p30, List.forall_mem_cons.mpr ⟨lw_p31, fun _ h => absurd h List.not_mem_nil⟩⟩⟩⟩⟩⟩⟩⟩⟩⟩⟩⟩⟩⟩⟩⟩
theorem lw_p32 : lw_okq (⟨"DoorReader$RightBook", "add", "(IIIIZ)I"⟩, 6) := ⟨⟨by decide +kernel, by decide +kernel⟩, List.mem_of_getElem? (i := 156) (by decide +kernel), List.mem_of_getElem? (i := 505) (by decide +kernel), List.mem_of_getElem? (i := 506) (by decide +kernel)⟩
theorem lw_p33 : lw_okq (⟨"DoorReader", "isBehind", "(I)Z"⟩, 11) := ⟨⟨by decide +kernel, by decide +kernel⟩, List.mem_of_getElem? (i := 23) (by decide +kernel), List.mem_of_getElem? (i := 513) (by decide +kernel), List.mem_of_getElem? (i := 514) (by decide +kernel)⟩
theorem lw_p34 : lw_okq (⟨"DoorReader$Known", "roomsOf", "(III)I"⟩, 10) := ⟨⟨by decide +kernel, by decide +kernel⟩, List.mem_of_getElem? (i := 199) (by decide +kernel), List.mem_of_getElem? (i := 517) (by decide +kernel), List.mem_of_getElem? (i := 518) (by decide +kernel)⟩
theorem lw_p35 : lw_okq (⟨"DoorReader$LogBook", "tellingOf", "(II)I"⟩, 6) := ⟨⟨by decide +kernel, by decide +kernel⟩, List.mem_of_getElem? (i := 114) (by decide +kernel), List.mem_of_getElem? (i := 521) (by decide +kernel), List.mem_of_getElem? (i := 522) (by decide +kernel)⟩
theorem lw_p36 : lw_okq (⟨"DoorReader$Walks", "lookAt", "(II)V"⟩, 14) := ⟨⟨by decide +kernel, by decide +kernel⟩, List.mem_of_getElem? (i := 201) (by decide +kernel), List.mem_of_getElem? (i := 526) (by decide +kernel), List.mem_of_getElem? (i := 527) (by decide +kernel)⟩
theorem lw_p37 : lw_okq (⟨"DoorReader$Walks", "openGaps", "(I)V"⟩, 14) := ⟨⟨by decide +kernel, by decide +kernel⟩, List.mem_of_getElem? (i := 201) (by decide +kernel), List.mem_of_getElem? (i := 530) (by decide +kernel), List.mem_of_getElem? (i := 531) (by decide +kernel)⟩
theorem lw_p38 : lw_okq (⟨"DoorReader$Walks", "openGap", "(III)V"⟩, 14) := ⟨⟨by decide +kernel, by decide +kernel⟩, List.mem_of_getElem? (i := 201) (by decide +kernel), List.mem_of_getElem? (i := 535) (by decide +kernel), List.mem_of_getElem? (i := 536) (by decide +kernel)⟩
theorem lw_p39 : lw_okq (⟨"DoorReader$Walks", "insertPass", "(I)V"⟩, 14) := ⟨⟨by decide +kernel, by decide +kernel⟩, List.mem_of_getElem? (i := 201) (by decide +kernel), List.mem_of_getElem? (i := 544) (by decide +kernel), List.mem_of_getElem? (i := 545) (by decide +kernel)⟩
theorem lw_p40 : lw_okq (⟨"DoorReader$Walks", "readPass", "(I)V"⟩, 14) := ⟨⟨by decide +kernel, by decide +kernel⟩, List.mem_of_getElem? (i := 201) (by decide +kernel), List.mem_of_getElem? (i := 548) (by decide +kernel), List.mem_of_getElem? (i := 549) (by decide +kernel)⟩
theorem lw_p41 : lw_okq (⟨"DoorReader$LogBook", "isBack", "(I)Z"⟩, 6) := ⟨⟨by decide +kernel, by decide +kernel⟩, List.mem_of_getElem? (i := 114) (by decide +kernel), List.mem_of_getElem? (i := 552) (by decide +kernel), List.mem_of_getElem? (i := 553) (by decide +kernel)⟩
theorem lw_p42 : lw_okq (⟨"DoorReader$Plan", "roomLeft", "(IZ)I"⟩, 8) := ⟨⟨by decide +kernel, by decide +kernel⟩, List.mem_of_getElem? (i := 31) (by decide +kernel), List.mem_of_getElem? (i := 556) (by decide +kernel), List.mem_of_getElem? (i := 557) (by decide +kernel)⟩
theorem lw_p43 : lw_okq (⟨"DoorReader$Plan", "roomComeTo", "(IZ)I"⟩, 8) := ⟨⟨by decide +kernel, by decide +kernel⟩, List.mem_of_getElem? (i := 31) (by decide +kernel), List.mem_of_getElem? (i := 560) (by decide +kernel), List.mem_of_getElem? (i := 561) (by decide +kernel)⟩
theorem lw_p44 : lw_okq (⟨"DoorReader$Walks", "addSights", "(II)V"⟩, 14) := ⟨⟨by decide +kernel, by decide +kernel⟩, List.mem_of_getElem? (i := 201) (by decide +kernel), List.mem_of_getElem? (i := 568) (by decide +kernel), List.mem_of_getElem? (i := 569) (by decide +kernel)⟩
theorem lw_p45 : lw_okq (⟨"DoorReader$Walks", "demand", "(II)V"⟩, 14) := ⟨⟨by decide +kernel, by decide +kernel⟩, List.mem_of_getElem? (i := 201) (by decide +kernel), List.mem_of_getElem? (i := 572) (by decide +kernel), List.mem_of_getElem? (i := 573) (by decide +kernel)⟩
theorem lw_p46 : lw_okq (⟨"DoorReader$Walks", "findRooms", "([II)V"⟩, 14) := ⟨⟨by decide +kernel, by decide +kernel⟩, List.mem_of_getElem? (i := 201) (by decide +kernel), List.mem_of_getElem? (i := 577) (by decide +kernel), List.mem_of_getElem? (i := 578) (by decide +kernel)⟩
theorem lw_p47 : lw_okq (⟨"DoorReader$Walks", "findHopeful", "()V"⟩, 14) := ⟨⟨by decide +kernel, by decide +kernel⟩, List.mem_of_getElem? (i := 201) (by decide +kernel), List.mem_of_getElem? (i := 581) (by decide +kernel), List.mem_of_getElem? (i := 582) (by decide +kernel)⟩
def lw_privs_3 : List (MethodName × Nat) := [(⟨"DoorReader$RightBook", "add", "(IIIIZ)I"⟩, 6), (⟨"DoorReader", "isBehind", "(I)Z"⟩, 11), (⟨"DoorReader$Known", "roomsOf", "(III)I"⟩, 10), (⟨"DoorReader$LogBook", "tellingOf", "(II)I"⟩, 6), (⟨"DoorReader$Walks", "lookAt", "(II)V"⟩, 14), (⟨"DoorReader$Walks", "openGaps", "(I)V"⟩, 14), (⟨"DoorReader$Walks", "openGap", "(III)V"⟩, 14), (⟨"DoorReader$Walks", "insertPass", "(I)V"⟩, 14), (⟨"DoorReader$Walks", "readPass", "(I)V"⟩, 14), (⟨"DoorReader$LogBook", "isBack", "(I)Z"⟩, 6), (⟨"DoorReader$Plan", "roomLeft", "(IZ)I"⟩, 8), (⟨"DoorReader$Plan", "roomComeTo", "(IZ)I"⟩, 8), (⟨"DoorReader$Walks", "addSights", "(II)V"⟩, 14), (⟨"DoorReader$Walks", "demand", "(II)V"⟩, 14), (⟨"DoorReader$Walks", "findRooms", "([II)V"⟩, 14), (⟨"DoorReader$Walks", "findHopeful", "()V"⟩, 14)]
theorem lw_r3 : ∀ q ∈ lw_privs_3, lw_okq q := List.forall_mem_cons.mpr ⟨lw_p32, List.forall_mem_cons.mpr ⟨lw_p33, List.forall_mem_cons.mpr ⟨lw_p34, List.forall_mem_cons.mpr ⟨lw_p35, List.forall_mem_cons.mpr ⟨lw_p36, List.forall_mem_cons.mpr ⟨lw_p37, List.forall_mem_cons.mpr ⟨lw_p38, List.forall_mem_cons.mpr ⟨lw_p39, List.forall_mem_cons.mpr ⟨lw_p40, List.forall_mem_cons.mpr ⟨lw_p41, List.forall_mem_cons.mpr ⟨lw_p42, List.forall_mem_cons.mpr ⟨lw_p43, List.forall_mem_cons.mpr ⟨lw_p44, List.forall_mem_cons.mpr ⟨lw_p45, List.forall_mem_cons.mpr ⟨lw_p46, List.forall_mem_cons.mpr ⟨lw_p47, fun _ h => absurd h List.not_mem_nil⟩⟩⟩⟩⟩⟩⟩⟩⟩⟩⟩⟩⟩⟩⟩⟩
theorem lw_p48 : lw_okq (⟨"DoorReader$Walks", "hopefulAhead", "(II)J"⟩, 14) := ⟨⟨by decide +kernel, by decide +kernel⟩, List.mem_of_getElem? (i := 201) (by decide +kernel), List.mem_of_getElem? (i := 585) (by decide +kernel), List.mem_of_getElem? (i := 586) (by decide +kernel)⟩
theorem lw_p49 : lw_okq (⟨"DoorReader$Walks", "freeInto", "(JI)J"⟩, 14) := ⟨⟨by decide +kernel, by decide +kernel⟩, List.mem_of_getElem? (i := 201) (by decide +kernel), List.mem_of_getElem? (i := 590) (by decide +kernel), List.mem_of_getElem? (i := 591) (by decide +kernel)⟩
theorem lw_p50 : lw_okq (⟨"DoorReader$Walks", "isInTime", "(II)Z"⟩, 14) := ⟨⟨by decide +kernel, by decide +kernel⟩, List.mem_of_getElem? (i := 201) (by decide +kernel), List.mem_of_getElem? (i := 594) (by decide +kernel), List.mem_of_getElem? (i := 595) (by decide +kernel)⟩
theorem lw_p51 : lw_okq (⟨"DoorReader$Walks", "startOutside", "()V"⟩, 14) := ⟨⟨by decide +kernel, by decide +kernel⟩, List.mem_of_getElem? (i := 201) (by decide +kernel), List.mem_of_getElem? (i := 598) (by decide +kernel), List.mem_of_getElem? (i := 599) (by decide +kernel)⟩
theorem lw_p52 : lw_okq (⟨"DoorReader$Walks", "goOn", "(I)V"⟩, 14) := ⟨⟨by decide +kernel, by decide +kernel⟩, List.mem_of_getElem? (i := 201) (by decide +kernel), List.mem_of_getElem? (i := 602) (by decide +kernel), List.mem_of_getElem? (i := 603) (by decide +kernel)⟩
theorem lw_p53 : lw_okq (⟨"DoorReader$Walks", "freeOutOf", "(JI)J"⟩, 14) := ⟨⟨by decide +kernel, by decide +kernel⟩, List.mem_of_getElem? (i := 201) (by decide +kernel), List.mem_of_getElem? (i := 606) (by decide +kernel), List.mem_of_getElem? (i := 607) (by decide +kernel)⟩
theorem lw_p54 : lw_okq (⟨"DoorReader$Known", "breakOf", "(II)I"⟩, 10) := ⟨⟨by decide +kernel, by decide +kernel⟩, List.mem_of_getElem? (i := 199) (by decide +kernel), List.mem_of_getElem? (i := 617) (by decide +kernel), List.mem_of_getElem? (i := 618) (by decide +kernel)⟩
theorem lw_p55 : lw_okq (⟨"DoorReader$Walks", "findBreak", "()I"⟩, 14) := ⟨⟨by decide +kernel, by decide +kernel⟩, List.mem_of_getElem? (i := 201) (by decide +kernel), List.mem_of_getElem? (i := 621) (by decide +kernel), List.mem_of_getElem? (i := 622) (by decide +kernel)⟩
theorem lw_p56 : lw_okq (⟨"DoorReader$RightBook", "allows", "(III)Z"⟩, 6) := ⟨⟨by decide +kernel, by decide +kernel⟩, List.mem_of_getElem? (i := 156) (by decide +kernel), List.mem_of_getElem? (i := 643) (by decide +kernel), List.mem_of_getElem? (i := 644) (by decide +kernel)⟩
theorem lw_p57 : lw_okq (⟨"DoorReader$Habits", "isFirst", "(I)Z"⟩, 3) := ⟨⟨by decide +kernel, by decide +kernel⟩, List.mem_of_getElem? (i := 183) (by decide +kernel), List.mem_of_getElem? (i := 652) (by decide +kernel), List.mem_of_getElem? (i := 653) (by decide +kernel)⟩
theorem lw_p58 : lw_okq (⟨"DoorReader$Habits", "roomComeTo", "(I)I"⟩, 3) := ⟨⟨by decide +kernel, by decide +kernel⟩, List.mem_of_getElem? (i := 183) (by decide +kernel), List.mem_of_getElem? (i := 656) (by decide +kernel), List.mem_of_getElem? (i := 657) (by decide +kernel)⟩
theorem lw_p59 : lw_okq (⟨"DoorReader$Habits", "isFromOutside", "(I)Z"⟩, 3) := ⟨⟨by decide +kernel, by decide +kernel⟩, List.mem_of_getElem? (i := 183) (by decide +kernel), List.mem_of_getElem? (i := 664) (by decide +kernel), List.mem_of_getElem? (i := 665) (by decide +kernel)⟩
theorem lw_p60 : lw_okq (⟨"DoorReader$Habits", "daysAsLate", "(I)I"⟩, 3) := ⟨⟨by decide +kernel, by decide +kernel⟩, List.mem_of_getElem? (i := 183) (by decide +kernel), List.mem_of_getElem? (i := 669) (by decide +kernel), List.mem_of_getElem? (i := 670) (by decide +kernel)⟩
theorem lw_p61 : lw_okq (⟨"DoorReader$Habits", "findEarliest", "(I)V"⟩, 3) := ⟨⟨by decide +kernel, by decide +kernel⟩, List.mem_of_getElem? (i := 183) (by decide +kernel), List.mem_of_getElem? (i := 673) (by decide +kernel), List.mem_of_getElem? (i := 674) (by decide +kernel)⟩
theorem lw_p62 : lw_okq (⟨"DoorReader$Habits", "dayOf", "(I)I"⟩, 3) := ⟨⟨by decide +kernel, by decide +kernel⟩, List.mem_of_getElem? (i := 183) (by decide +kernel), List.mem_of_getElem? (i := 679) (by decide +kernel), List.mem_of_getElem? (i := 680) (by decide +kernel)⟩
theorem lw_p63 : lw_okq (⟨"DoorReader$Habits", "daysAhead", "(I)I"⟩, 3) := ⟨⟨by decide +kernel, by decide +kernel⟩, List.mem_of_getElem? (i := 183) (by decide +kernel), List.mem_of_getElem? (i := 683) (by decide +kernel), List.mem_of_getElem? (i := 684) (by decide +kernel)⟩
def lw_privs_4 : List (MethodName × Nat) := [(⟨"DoorReader$Walks", "hopefulAhead", "(II)J"⟩, 14), (⟨"DoorReader$Walks", "freeInto", "(JI)J"⟩, 14), (⟨"DoorReader$Walks", "isInTime", "(II)Z"⟩, 14), (⟨"DoorReader$Walks", "startOutside", "()V"⟩, 14), (⟨"DoorReader$Walks", "goOn", "(I)V"⟩, 14), (⟨"DoorReader$Walks", "freeOutOf", "(JI)J"⟩, 14), (⟨"DoorReader$Known", "breakOf", "(II)I"⟩, 10), (⟨"DoorReader$Walks", "findBreak", "()I"⟩, 14), (⟨"DoorReader$RightBook", "allows", "(III)Z"⟩, 6), (⟨"DoorReader$Habits", "isFirst", "(I)Z"⟩, 3), (⟨"DoorReader$Habits", "roomComeTo", "(I)I"⟩, 3), (⟨"DoorReader$Habits", "isFromOutside", "(I)Z"⟩, 3), (⟨"DoorReader$Habits", "daysAsLate", "(I)I"⟩, 3), (⟨"DoorReader$Habits", "findEarliest", "(I)V"⟩, 3), (⟨"DoorReader$Habits", "dayOf", "(I)I"⟩, 3), (⟨"DoorReader$Habits", "daysAhead", "(I)I"⟩, 3)]
theorem lw_r4 : ∀ q ∈ lw_privs_4, lw_okq q := List.forall_mem_cons.mpr ⟨lw_p48, List.forall_mem_cons.mpr ⟨lw_p49, List.forall_mem_cons.mpr ⟨lw_p50, List.forall_mem_cons.mpr ⟨lw_p51, List.forall_mem_cons.mpr ⟨lw_p52, List.forall_mem_cons.mpr ⟨lw_p53, List.forall_mem_cons.mpr ⟨lw_p54, List.forall_mem_cons.mpr ⟨lw_p55, List.forall_mem_cons.mpr ⟨lw_p56, List.forall_mem_cons.mpr ⟨lw_p57, List.forall_mem_cons.mpr ⟨lw_p58, List.forall_mem_cons.mpr ⟨lw_p59, List.forall_mem_cons.mpr ⟨lw_p60, List.forall_mem_cons.mpr ⟨lw_p61, List.forall_mem_cons.mpr ⟨lw_p62, List.forall_mem_cons.mpr ⟨lw_p63, fun _ h => absurd h List.not_mem_nil⟩⟩⟩⟩⟩⟩⟩⟩⟩⟩⟩⟩⟩⟩⟩⟩
theorem lw_p64 : lw_okq (⟨"DoorReader$Habits", "daysTogether", "(III)I"⟩, 3) := ⟨⟨by decide +kernel, by decide +kernel⟩, List.mem_of_getElem? (i := 183) (by decide +kernel), List.mem_of_getElem? (i := 691) (by decide +kernel), List.mem_of_getElem? (i := 692) (by decide +kernel)⟩
theorem lw_p65 : lw_okq (⟨"DoorReader$Habits", "isNear", "(III)Z"⟩, 3) := ⟨⟨by decide +kernel, by decide +kernel⟩, List.mem_of_getElem? (i := 183) (by decide +kernel), List.mem_of_getElem? (i := 695) (by decide +kernel), List.mem_of_getElem? (i := 696) (by decide +kernel)⟩
theorem lw_p66 : lw_okq (⟨"DoorReader$Habits", "daysOf", "(I)I"⟩, 3) := ⟨⟨by decide +kernel, by decide +kernel⟩, List.mem_of_getElem? (i := 183) (by decide +kernel), List.mem_of_getElem? (i := 702) (by decide +kernel), List.mem_of_getElem? (i := 703) (by decide +kernel)⟩
theorem lw_p67 : lw_okq (⟨"java/lang/Throwable", "fillInStackTrace", "(I)Ljava/lang/Throwable;"⟩, 6) := ⟨⟨by decide +kernel, by decide +kernel⟩, List.mem_of_getElem? (i := 767) (by decide +kernel), List.mem_of_getElem? (i := 765) (by decide +kernel), List.mem_of_getElem? (i := 766) (by decide +kernel)⟩
theorem lw_p68 : lw_okq (⟨"DoorReader$Known", "roomOnFirstWay", "(IIII)I"⟩, 10) := ⟨⟨by decide +kernel, by decide +kernel⟩, List.mem_of_getElem? (i := 199) (by decide +kernel), List.mem_of_getElem? (i := 796) (by decide +kernel), List.mem_of_getElem? (i := 797) (by decide +kernel)⟩
theorem lw_p69 : lw_okq (⟨"DoorReader$Walks", "findFirstWay", "([I)Z"⟩, 14) := ⟨⟨by decide +kernel, by decide +kernel⟩, List.mem_of_getElem? (i := 201) (by decide +kernel), List.mem_of_getElem? (i := 801) (by decide +kernel), List.mem_of_getElem? (i := 802) (by decide +kernel)⟩
theorem lw_p70 : lw_okq (⟨"DoorReader$Walks", "withHope", "(IIJ)I"⟩, 14) := ⟨⟨by decide +kernel, by decide +kernel⟩, List.mem_of_getElem? (i := 201) (by decide +kernel), List.mem_of_getElem? (i := 805) (by decide +kernel), List.mem_of_getElem? (i := 806) (by decide +kernel)⟩
theorem lw_p71 : lw_okq (⟨"DoorReader$Walks", "stagesGoing", "(IIII)I"⟩, 14) := ⟨⟨by decide +kernel, by decide +kernel⟩, List.mem_of_getElem? (i := 201) (by decide +kernel), List.mem_of_getElem? (i := 809) (by decide +kernel), List.mem_of_getElem? (i := 810) (by decide +kernel)⟩
theorem lw_p72 : lw_okq (⟨"DoorReader$Walks", "isOpenBetween", "(III)Z"⟩, 14) := ⟨⟨by decide +kernel, by decide +kernel⟩, List.mem_of_getElem? (i := 201) (by decide +kernel), List.mem_of_getElem? (i := 813) (by decide +kernel), List.mem_of_getElem? (i := 814) (by decide +kernel)⟩
theorem lw_p73 : lw_okq (⟨"DoorReaderModel", "next", "()V"⟩, 45) := ⟨⟨by decide +kernel, by decide +kernel⟩, List.mem_of_getElem? (i := 821) (by decide +kernel), List.mem_of_getElem? (i := 975) (by decide +kernel), List.mem_of_getElem? (i := 976) (by decide +kernel)⟩
theorem lw_p74 : lw_okq (⟨"DoorReaderModel", "see", "(I)I"⟩, 45) := ⟨⟨by decide +kernel, by decide +kernel⟩, List.mem_of_getElem? (i := 821) (by decide +kernel), List.mem_of_getElem? (i := 982) (by decide +kernel), List.mem_of_getElem? (i := 983) (by decide +kernel)⟩
theorem lw_p75 : lw_okq (⟨"DoorReaderModel", "isWell", "()Z"⟩, 45) := ⟨⟨by decide +kernel, by decide +kernel⟩, List.mem_of_getElem? (i := 821) (by decide +kernel), List.mem_of_getElem? (i := 989) (by decide +kernel), List.mem_of_getElem? (i := 990) (by decide +kernel)⟩
theorem lw_p76 : lw_okq (⟨"DoorReaderModel", "thing", "()V"⟩, 45) := ⟨⟨by decide +kernel, by decide +kernel⟩, List.mem_of_getElem? (i := 821) (by decide +kernel), List.mem_of_getElem? (i := 993) (by decide +kernel), List.mem_of_getElem? (i := 994) (by decide +kernel)⟩
theorem lw_p77 : lw_okq (⟨"DoorReaderModel", "isWord", "(Ljava/lang/String;)Z"⟩, 45) := ⟨⟨by decide +kernel, by decide +kernel⟩, List.mem_of_getElem? (i := 821) (by decide +kernel), List.mem_of_getElem? (i := 998) (by decide +kernel), List.mem_of_getElem? (i := 999) (by decide +kernel)⟩
theorem lw_p78 : lw_okq (⟨"DoorReaderModel", "fails", "(I)V"⟩, 45) := ⟨⟨by decide +kernel, by decide +kernel⟩, List.mem_of_getElem? (i := 821) (by decide +kernel), List.mem_of_getElem? (i := 1050) (by decide +kernel), List.mem_of_getElem? (i := 1051) (by decide +kernel)⟩
theorem lw_p79 : lw_okq (⟨"DoorReaderModel", "newName", "(I)V"⟩, 45) := ⟨⟨by decide +kernel, by decide +kernel⟩, List.mem_of_getElem? (i := 821) (by decide +kernel), List.mem_of_getElem? (i := 1054) (by decide +kernel), List.mem_of_getElem? (i := 1055) (by decide +kernel)⟩
def lw_privs_5 : List (MethodName × Nat) := [(⟨"DoorReader$Habits", "daysTogether", "(III)I"⟩, 3), (⟨"DoorReader$Habits", "isNear", "(III)Z"⟩, 3), (⟨"DoorReader$Habits", "daysOf", "(I)I"⟩, 3), (⟨"java/lang/Throwable", "fillInStackTrace", "(I)Ljava/lang/Throwable;"⟩, 6), (⟨"DoorReader$Known", "roomOnFirstWay", "(IIII)I"⟩, 10), (⟨"DoorReader$Walks", "findFirstWay", "([I)Z"⟩, 14), (⟨"DoorReader$Walks", "withHope", "(IIJ)I"⟩, 14), (⟨"DoorReader$Walks", "stagesGoing", "(IIII)I"⟩, 14), (⟨"DoorReader$Walks", "isOpenBetween", "(III)Z"⟩, 14), (⟨"DoorReaderModel", "next", "()V"⟩, 45), (⟨"DoorReaderModel", "see", "(I)I"⟩, 45), (⟨"DoorReaderModel", "isWell", "()Z"⟩, 45), (⟨"DoorReaderModel", "thing", "()V"⟩, 45), (⟨"DoorReaderModel", "isWord", "(Ljava/lang/String;)Z"⟩, 45), (⟨"DoorReaderModel", "fails", "(I)V"⟩, 45), (⟨"DoorReaderModel", "newName", "(I)V"⟩, 45)]
theorem lw_r5 : ∀ q ∈ lw_privs_5, lw_okq q := List.forall_mem_cons.mpr ⟨lw_p64, List.forall_mem_cons.mpr ⟨lw_p65, List.forall_mem_cons.mpr ⟨lw_p66, List.forall_mem_cons.mpr ⟨lw_p67, List.forall_mem_cons.mpr ⟨lw_p68, List.forall_mem_cons.mpr ⟨lw_p69, List.forall_mem_cons.mpr ⟨lw_p70, List.forall_mem_cons.mpr ⟨lw_p71, List.forall_mem_cons.mpr ⟨lw_p72, List.forall_mem_cons.mpr ⟨lw_p73, List.forall_mem_cons.mpr ⟨lw_p74, List.forall_mem_cons.mpr ⟨lw_p75, List.forall_mem_cons.mpr ⟨lw_p76, List.forall_mem_cons.mpr ⟨lw_p77, List.forall_mem_cons.mpr ⟨lw_p78, List.forall_mem_cons.mpr ⟨lw_p79, fun _ h => absurd h List.not_mem_nil⟩⟩⟩⟩⟩⟩⟩⟩⟩⟩⟩⟩⟩⟩⟩⟩
theorem lw_p80 : lw_okq (⟨"DoorReaderModel", "isName", "()Z"⟩, 45) := ⟨⟨by decide +kernel, by decide +kernel⟩, List.mem_of_getElem? (i := 821) (by decide +kernel), List.mem_of_getElem? (i := 1058) (by decide +kernel), List.mem_of_getElem? (i := 1059) (by decide +kernel)⟩
theorem lw_p81 : lw_okq (⟨"DoorReaderModel", "roomHere", "()I"⟩, 45) := ⟨⟨by decide +kernel, by decide +kernel⟩, List.mem_of_getElem? (i := 821) (by decide +kernel), List.mem_of_getElem? (i := 1063) (by decide +kernel), List.mem_of_getElem? (i := 1064) (by decide +kernel)⟩
theorem lw_p82 : lw_okq (⟨"DoorReaderModel", "isAt", "(I)Z"⟩, 45) := ⟨⟨by decide +kernel, by decide +kernel⟩, List.mem_of_getElem? (i := 821) (by decide +kernel), List.mem_of_getElem? (i := 1067) (by decide +kernel), List.mem_of_getElem? (i := 1068) (by decide +kernel)⟩
theorem lw_p83 : lw_okq (⟨"DoorReaderModel", "isDoorHere", "()Z"⟩, 45) := ⟨⟨by decide +kernel, by decide +kernel⟩, List.mem_of_getElem? (i := 821) (by decide +kernel), List.mem_of_getElem? (i := 1071) (by decide +kernel), List.mem_of_getElem? (i := 1072) (by decide +kernel)⟩
theorem lw_p84 : lw_okq (⟨"DoorReaderModel", "number", "(I)I"⟩, 45) := ⟨⟨by decide +kernel, by decide +kernel⟩, List.mem_of_getElem? (i := 821) (by decide +kernel), List.mem_of_getElem? (i := 1075) (by decide +kernel), List.mem_of_getElem? (i := 1076) (by decide +kernel)⟩
theorem lw_p85 : lw_okq (⟨"DoorReaderModel", "ends", "()V"⟩, 45) := ⟨⟨by decide +kernel, by decide +kernel⟩, List.mem_of_getElem? (i := 821) (by decide +kernel), List.mem_of_getElem? (i := 1079) (by decide +kernel), List.mem_of_getElem? (i := 1080) (by decide +kernel)⟩
theorem lw_p86 : lw_okq (⟨"DoorReaderModel", "roomTold", "(I)I"⟩, 45) := ⟨⟨by decide +kernel, by decide +kernel⟩, List.mem_of_getElem? (i := 821) (by decide +kernel), List.mem_of_getElem? (i := 1083) (by decide +kernel), List.mem_of_getElem? (i := 1084) (by decide +kernel)⟩
theorem lw_p87 : lw_okq (⟨"DoorReaderModel", "isCard", "(I)Z"⟩, 45) := ⟨⟨by decide +kernel, by decide +kernel⟩, List.mem_of_getElem? (i := 821) (by decide +kernel), List.mem_of_getElem? (i := 1099) (by decide +kernel), List.mem_of_getElem? (i := 1100) (by decide +kernel)⟩
theorem lw_p88 : lw_okq (⟨"DoorReaderModel", "log", "(IIIII)I"⟩, 45) := ⟨⟨by decide +kernel, by decide +kernel⟩, List.mem_of_getElem? (i := 821) (by decide +kernel), List.mem_of_getElem? (i := 1109) (by decide +kernel), List.mem_of_getElem? (i := 1110) (by decide +kernel)⟩
theorem lw_p89 : lw_okq (⟨"DoorReaderModel", "isRoom", "(I)Z"⟩, 45) := ⟨⟨by decide +kernel, by decide +kernel⟩, List.mem_of_getElem? (i := 821) (by decide +kernel), List.mem_of_getElem? (i := 1121) (by decide +kernel), List.mem_of_getElem? (i := 1122) (by decide +kernel)⟩
theorem lw_p90 : lw_okq (⟨"DoorReaderModel", "isAllowed", "(III)Z"⟩, 45) := ⟨⟨by decide +kernel, by decide +kernel⟩, List.mem_of_getElem? (i := 821) (by decide +kernel), List.mem_of_getElem? (i := 1133) (by decide +kernel), List.mem_of_getElem? (i := 1134) (by decide +kernel)⟩
theorem lw_p91 : lw_okq (⟨"DoorReaderModel", "can", "(III)I"⟩, 45) := ⟨⟨by decide +kernel, by decide +kernel⟩, List.mem_of_getElem? (i := 821) (by decide +kernel), List.mem_of_getElem? (i := 1141) (by decide +kernel), List.mem_of_getElem? (i := 1142) (by decide +kernel)⟩
theorem lw_p92 : lw_okq (⟨"DoorReaderModel", "knows", "(IIZ)V"⟩, 45) := ⟨⟨by decide +kernel, by decide +kernel⟩, List.mem_of_getElem? (i := 821) (by decide +kernel), List.mem_of_getElem? (i := 1145) (by decide +kernel), List.mem_of_getElem? (i := 1146) (by decide +kernel)⟩
theorem lw_p93 : lw_okq (⟨"DoorReaderModel", "fillFront", "()V"⟩, 45) := ⟨⟨by decide +kernel, by decide +kernel⟩, List.mem_of_getElem? (i := 821) (by decide +kernel), List.mem_of_getElem? (i := 1156) (by decide +kernel), List.mem_of_getElem? (i := 1157) (by decide +kernel)⟩
theorem lw_p94 : lw_okq (⟨"DoorReaderModel", "begins", "(I)V"⟩, 45) := ⟨⟨by decide +kernel, by decide +kernel⟩, List.mem_of_getElem? (i := 821) (by decide +kernel), List.mem_of_getElem? (i := 1160) (by decide +kernel), List.mem_of_getElem? (i := 1161) (by decide +kernel)⟩
theorem lw_p95 : lw_okq (⟨"DoorReaderModel", "goes", "(II)V"⟩, 45) := ⟨⟨by decide +kernel, by decide +kernel⟩, List.mem_of_getElem? (i := 821) (by decide +kernel), List.mem_of_getElem? (i := 1165) (by decide +kernel), List.mem_of_getElem? (i := 1166) (by decide +kernel)⟩
def lw_privs_6 : List (MethodName × Nat) := [(⟨"DoorReaderModel", "isName", "()Z"⟩, 45), (⟨"DoorReaderModel", "roomHere", "()I"⟩, 45), (⟨"DoorReaderModel", "isAt", "(I)Z"⟩, 45), (⟨"DoorReaderModel", "isDoorHere", "()Z"⟩, 45), (⟨"DoorReaderModel", "number", "(I)I"⟩, 45), (⟨"DoorReaderModel", "ends", "()V"⟩, 45), (⟨"DoorReaderModel", "roomTold", "(I)I"⟩, 45), (⟨"DoorReaderModel", "isCard", "(I)Z"⟩, 45), (⟨"DoorReaderModel", "log", "(IIIII)I"⟩, 45), (⟨"DoorReaderModel", "isRoom", "(I)Z"⟩, 45), (⟨"DoorReaderModel", "isAllowed", "(III)Z"⟩, 45), (⟨"DoorReaderModel", "can", "(III)I"⟩, 45), (⟨"DoorReaderModel", "knows", "(IIZ)V"⟩, 45), (⟨"DoorReaderModel", "fillFront", "()V"⟩, 45), (⟨"DoorReaderModel", "begins", "(I)V"⟩, 45), (⟨"DoorReaderModel", "goes", "(II)V"⟩, 45)]
theorem lw_r6 : ∀ q ∈ lw_privs_6, lw_okq q := List.forall_mem_cons.mpr ⟨lw_p80, List.forall_mem_cons.mpr ⟨lw_p81, List.forall_mem_cons.mpr ⟨lw_p82, List.forall_mem_cons.mpr ⟨lw_p83, List.forall_mem_cons.mpr ⟨lw_p84, List.forall_mem_cons.mpr ⟨lw_p85, List.forall_mem_cons.mpr ⟨lw_p86, List.forall_mem_cons.mpr ⟨lw_p87, List.forall_mem_cons.mpr ⟨lw_p88, List.forall_mem_cons.mpr ⟨lw_p89, List.forall_mem_cons.mpr ⟨lw_p90, List.forall_mem_cons.mpr ⟨lw_p91, List.forall_mem_cons.mpr ⟨lw_p92, List.forall_mem_cons.mpr ⟨lw_p93, List.forall_mem_cons.mpr ⟨lw_p94, List.forall_mem_cons.mpr ⟨lw_p95, fun _ h => absurd h List.not_mem_nil⟩⟩⟩⟩⟩⟩⟩⟩⟩⟩⟩⟩⟩⟩⟩⟩
theorem lw_p96 : lw_okq (⟨"DoorReaderModel", "stays", "(J)J"⟩, 45) := ⟨⟨by decide +kernel, by decide +kernel⟩, List.mem_of_getElem? (i := 821) (by decide +kernel), List.mem_of_getElem? (i := 1169) (by decide +kernel), List.mem_of_getElem? (i := 1170) (by decide +kernel)⟩
theorem lw_p97 : lw_okq (⟨"DoorReaderModel", "leaving", "(I)J"⟩, 45) := ⟨⟨by decide +kernel, by decide +kernel⟩, List.mem_of_getElem? (i := 821) (by decide +kernel), List.mem_of_getElem? (i := 1173) (by decide +kernel), List.mem_of_getElem? (i := 1174) (by decide +kernel)⟩
theorem lw_p98 : lw_okq (⟨"DoorReaderModel", "isPass", "(II)Z"⟩, 45) := ⟨⟨by decide +kernel, by decide +kernel⟩, List.mem_of_getElem? (i := 821) (by decide +kernel), List.mem_of_getElem? (i := 1180) (by decide +kernel), List.mem_of_getElem? (i := 1181) (by decide +kernel)⟩
theorem lw_p99 : lw_okq (⟨"DoorReaderModel", "leaves", "(I)I"⟩, 45) := ⟨⟨by decide +kernel, by decide +kernel⟩, List.mem_of_getElem? (i := 821) (by decide +kernel), List.mem_of_getElem? (i := 1184) (by decide +kernel), List.mem_of_getElem? (i := 1185) (by decide +kernel)⟩
theorem lw_p100 : lw_okq (⟨"DoorReaderModel", "enters", "(I)I"⟩, 45) := ⟨⟨by decide +kernel, by decide +kernel⟩, List.mem_of_getElem? (i := 821) (by decide +kernel), List.mem_of_getElem? (i := 1188) (by decide +kernel), List.mem_of_getElem? (i := 1189) (by decide +kernel)⟩
theorem lw_p101 : lw_okq (⟨"DoorReaderModel", "fillBack", "()V"⟩, 45) := ⟨⟨by decide +kernel, by decide +kernel⟩, List.mem_of_getElem? (i := 821) (by decide +kernel), List.mem_of_getElem? (i := 1192) (by decide +kernel), List.mem_of_getElem? (i := 1193) (by decide +kernel)⟩
theorem lw_p102 : lw_okq (⟨"DoorReaderModel", "ahead", "(II)J"⟩, 45) := ⟨⟨by decide +kernel, by decide +kernel⟩, List.mem_of_getElem? (i := 821) (by decide +kernel), List.mem_of_getElem? (i := 1196) (by decide +kernel), List.mem_of_getElem? (i := 1197) (by decide +kernel)⟩
theorem lw_p103 : lw_okq (⟨"DoorReaderModel", "stayed", "(J)J"⟩, 45) := ⟨⟨by decide +kernel, by decide +kernel⟩, List.mem_of_getElem? (i := 821) (by decide +kernel), List.mem_of_getElem? (i := 1200) (by decide +kernel), List.mem_of_getElem? (i := 1201) (by decide +kernel)⟩
theorem lw_p104 : lw_okq (⟨"DoorReaderModel", "leastRoom", "()I"⟩, 45) := ⟨⟨by decide +kernel, by decide +kernel⟩, List.mem_of_getElem? (i := 821) (by decide +kernel), List.mem_of_getElem? (i := 1208) (by decide +kernel), List.mem_of_getElem? (i := 1209) (by decide +kernel)⟩
theorem lw_p105 : lw_okq (⟨"DoorReaderModel", "isWalked", "(I)Z"⟩, 45) := ⟨⟨by decide +kernel, by decide +kernel⟩, List.mem_of_getElem? (i := 821) (by decide +kernel), List.mem_of_getElem? (i := 1216) (by decide +kernel), List.mem_of_getElem? (i := 1217) (by decide +kernel)⟩
theorem lw_p106 : lw_okq (⟨"DoorReaderModel", "isFirst", "(I)Z"⟩, 45) := ⟨⟨by decide +kernel, by decide +kernel⟩, List.mem_of_getElem? (i := 821) (by decide +kernel), List.mem_of_getElem? (i := 1232) (by decide +kernel), List.mem_of_getElem? (i := 1233) (by decide +kernel)⟩
theorem lw_p107 : lw_okq (⟨"DoorReaderModel", "isPassOf", "(II)Z"⟩, 45) := ⟨⟨by decide +kernel, by decide +kernel⟩, List.mem_of_getElem? (i := 821) (by decide +kernel), List.mem_of_getElem? (i := 1236) (by decide +kernel), List.mem_of_getElem? (i := 1237) (by decide +kernel)⟩
theorem lw_p108 : lw_okq (⟨"DoorReaderModel", "earliest", "(II)I"⟩, 45) := ⟨⟨by decide +kernel, by decide +kernel⟩, List.mem_of_getElem? (i := 821) (by decide +kernel), List.mem_of_getElem? (i := 1243) (by decide +kernel), List.mem_of_getElem? (i := 1244) (by decide +kernel)⟩
theorem lw_p109 : lw_okq (⟨"DoorReaderModel", "isTogether", "(III)Z"⟩, 45) := ⟨⟨by decide +kernel, by decide +kernel⟩, List.mem_of_getElem? (i := 821) (by decide +kernel), List.mem_of_getElem? (i := 1251) (by decide +kernel), List.mem_of_getElem? (i := 1252) (by decide +kernel)⟩
def lw_privs_7 : List (MethodName × Nat) := [(⟨"DoorReaderModel", "stays", "(J)J"⟩, 45), (⟨"DoorReaderModel", "leaving", "(I)J"⟩, 45), (⟨"DoorReaderModel", "isPass", "(II)Z"⟩, 45), (⟨"DoorReaderModel", "leaves", "(I)I"⟩, 45), (⟨"DoorReaderModel", "enters", "(I)I"⟩, 45), (⟨"DoorReaderModel", "fillBack", "()V"⟩, 45), (⟨"DoorReaderModel", "ahead", "(II)J"⟩, 45), (⟨"DoorReaderModel", "stayed", "(J)J"⟩, 45), (⟨"DoorReaderModel", "leastRoom", "()I"⟩, 45), (⟨"DoorReaderModel", "isWalked", "(I)Z"⟩, 45), (⟨"DoorReaderModel", "isFirst", "(I)Z"⟩, 45), (⟨"DoorReaderModel", "isPassOf", "(II)Z"⟩, 45), (⟨"DoorReaderModel", "earliest", "(II)I"⟩, 45), (⟨"DoorReaderModel", "isTogether", "(III)Z"⟩, 45)]
theorem lw_r7 : ∀ q ∈ lw_privs_7, lw_okq q := List.forall_mem_cons.mpr ⟨lw_p96, List.forall_mem_cons.mpr ⟨lw_p97, List.forall_mem_cons.mpr ⟨lw_p98, List.forall_mem_cons.mpr ⟨lw_p99, List.forall_mem_cons.mpr ⟨lw_p100, List.forall_mem_cons.mpr ⟨lw_p101, List.forall_mem_cons.mpr ⟨lw_p102, List.forall_mem_cons.mpr ⟨lw_p103, List.forall_mem_cons.mpr ⟨lw_p104, List.forall_mem_cons.mpr ⟨lw_p105, List.forall_mem_cons.mpr ⟨lw_p106, List.forall_mem_cons.mpr ⟨lw_p107, List.forall_mem_cons.mpr ⟨lw_p108, List.forall_mem_cons.mpr ⟨lw_p109, fun _ h => absurd h List.not_mem_nil⟩⟩⟩⟩⟩⟩⟩⟩⟩⟩⟩⟩⟩⟩
def lw_privs : List (MethodName × Nat) := lw_privs_1 ++ (lw_privs_2 ++ (lw_privs_3 ++ (lw_privs_4 ++ (lw_privs_5 ++ (lw_privs_6 ++ (lw_privs_7))))))
def lw_tbl : List Cond := k2_sels lw_privs ++ tables_1
theorem lw_privs_ok : ∀ q ∈ lw_privs, lw_okq q := by
  show ∀ q ∈ lw_privs_1 ++ (lw_privs_2 ++ (lw_privs_3 ++ (lw_privs_4 ++ (lw_privs_5 ++ (lw_privs_6 ++ (lw_privs_7)))))), lw_okq q
  exact List.forall_mem_append.mpr ⟨lw_r1, List.forall_mem_append.mpr ⟨lw_r2, List.forall_mem_append.mpr ⟨lw_r3, List.forall_mem_append.mpr ⟨lw_r4, List.forall_mem_append.mpr ⟨lw_r5, List.forall_mem_append.mpr ⟨lw_r6, lw_r7⟩⟩⟩⟩⟩⟩
-- ===== end of PART A; then your names; then what follows =====
end
section
def RX0 : String := "DoorReader$Habits"
def TX0 : u_T := fun k => match k with
  | 0 => ("DoorReader$Habits", "plan", "LDoorReader$Plan;", true)
  | 1 => ("DoorReader$Habits", "logs", "LDoorReader$LogBook;", true)
  | _ => ("DoorReader$Habits", "earliest", "[I", true)
def tyX0 : Nat → FieldType := fun k => match k with
  | 0 => .object "DoorReader$Plan"
  | 1 => .object "DoorReader$LogBook"
  | _ => .array .int
abbrev wsX00 : List Cond := u_ws RX0 TX0 3
theorem nmX0 : ∀ a, a < 3 → ∀ b, b < 3 → a ≠ b → (TX0 a).2.1 ≠ (TX0 b).2.1 := by decide +kernel
theorem tyX0_ok : ∀ k, k < 3 → parseFieldDescriptor (TX0 k).2.2.1 = some (tyX0 k) := by decide +kernel
abbrev cX0_init : ByteArray := prog_2_method_1_code
def yX0_init : MethodName := ⟨RX0, "<init>", "(LDoorReader$Plan;LDoorReader$LogBook;)V"⟩
abbrev cX0_roomComeTo : ByteArray := prog_2_method_2_code
def yX0_roomComeTo : MethodName := ⟨RX0, "roomComeTo", "(I)I"⟩
abbrev cX0_isFromOutside : ByteArray := prog_2_method_3_code
def yX0_isFromOutside : MethodName := ⟨RX0, "isFromOutside", "(I)Z"⟩
abbrev cX0_isFirst : ByteArray := prog_2_method_4_code
def yX0_isFirst : MethodName := ⟨RX0, "isFirst", "(I)Z"⟩
abbrev cX0_daysAhead : ByteArray := prog_2_method_5_code
def yX0_daysAhead : MethodName := ⟨RX0, "daysAhead", "(I)I"⟩
abbrev cX0_daysAsLate : ByteArray := prog_2_method_6_code
def yX0_daysAsLate : MethodName := ⟨RX0, "daysAsLate", "(I)I"⟩
abbrev cX0_findEarliest : ByteArray := prog_2_method_7_code
def yX0_findEarliest : MethodName := ⟨RX0, "findEarliest", "(I)V"⟩
abbrev cX0_daysOf : ByteArray := prog_2_method_8_code
def yX0_daysOf : MethodName := ⟨RX0, "daysOf", "(I)I"⟩
abbrev cX0_daysTogether : ByteArray := prog_2_method_9_code
def yX0_daysTogether : MethodName := ⟨RX0, "daysTogether", "(III)I"⟩
abbrev cX0_isNear : ByteArray := prog_2_method_10_code
def yX0_isNear : MethodName := ⟨RX0, "isNear", "(III)Z"⟩
abbrev cX0_dayOf : ByteArray := prog_2_method_11_code
def yX0_dayOf : MethodName := ⟨RX0, "dayOf", "(I)I"⟩
def RX1 : String := "DoorReader$Known"
def TX1 : u_T := fun k => match k with
  | 0 => ("DoorReader$Known", "logs", "LDoorReader$LogBook;", true)
  | 1 => ("DoorReader$Known", "walks", "LDoorReader$Walks;", true)
  | 2 => ("DoorReader$Known", "roomsBehind", "[I", true)
  | 3 => ("DoorReader$Known", "rooms", "[I", true)
  | 4 => ("DoorReader$Known", "wayBehind", "I", false)
  | 5 => ("DoorReader$Known", "wayCard", "I", false)
  | 6 => ("DoorReader$Known", "wayTick", "I", false)
  | 7 => ("DoorReader$Known", "wayRoom", "I", false)
  | 8 => ("DoorReader$Known", "wayFound", "Z", false)
  | _ => ("DoorReader$Known", "way", "[I", true)
def tyX1 : Nat → FieldType := fun k => match k with
  | 0 => .object "DoorReader$LogBook"
  | 1 => .object "DoorReader$Walks"
  | 2 => .array .int
  | 3 => .array .int
  | 4 => .int
  | 5 => .int
  | 6 => .int
  | 7 => .int
  | 8 => .boolean
  | _ => .array .int
abbrev wsX10 : List Cond := u_ws RX1 TX1 10
theorem nmX1 : ∀ a, a < 10 → ∀ b, b < 10 → a ≠ b → (TX1 a).2.1 ≠ (TX1 b).2.1 := by decide +kernel
theorem tyX1_ok : ∀ k, k < 10 → parseFieldDescriptor (TX1 k).2.2.1 = some (tyX1 k) := by decide +kernel
abbrev cX1_init : ByteArray := prog_3_method_1_code
def yX1_init : MethodName := ⟨RX1, "<init>", "(LDoorReader$LogBook;LDoorReader$Walks;)V"⟩
abbrev cX1_forget : ByteArray := prog_3_method_2_code
def yX1_forget : MethodName := ⟨RX1, "forget", "()V"⟩
abbrev cX1_roomsOf : ByteArray := prog_3_method_3_code
def yX1_roomsOf : MethodName := ⟨RX1, "roomsOf", "(III)I"⟩
abbrev cX1_breakOf : ByteArray := prog_3_method_4_code
def yX1_breakOf : MethodName := ⟨RX1, "breakOf", "(II)I"⟩
abbrev cX1_roomOnFirstWay : ByteArray := prog_3_method_5_code
def yX1_roomOnFirstWay : MethodName := ⟨RX1, "roomOnFirstWay", "(IIII)I"⟩
def RX2 : String := "DoorReader$LogBook"
def TX2 : u_T := fun k => match k with
  | 0 => ("DoorReader$LogBook", "size", "I", false)
  | 1 => ("DoorReader$LogBook", "kind", "[I", true)
  | 2 => ("DoorReader$LogBook", "card", "[I", true)
  | 3 => ("DoorReader$LogBook", "target", "[I", true)
  | 4 => ("DoorReader$LogBook", "tick", "[I", true)
  | _ => ("DoorReader$LogBook", "more", "[I", true)
def tyX2 : Nat → FieldType := fun k => match k with
  | 0 => .int
  | 1 => .array .int
  | 2 => .array .int
  | 3 => .array .int
  | 4 => .array .int
  | _ => .array .int
abbrev wsX20 : List Cond := u_ws RX2 TX2 6
theorem nmX2 : ∀ a, a < 6 → ∀ b, b < 6 → a ≠ b → (TX2 a).2.1 ≠ (TX2 b).2.1 := by decide +kernel
theorem tyX2_ok : ∀ k, k < 6 → parseFieldDescriptor (TX2 k).2.2.1 = some (tyX2 k) := by decide +kernel
abbrev cX2_init : ByteArray := prog_4_method_1_code
def yX2_init : MethodName := ⟨RX2, "<init>", "()V"⟩
abbrev cX2_clear : ByteArray := prog_4_method_2_code
def yX2_clear : MethodName := ⟨RX2, "clear", "()V"⟩
abbrev cX2_add : ByteArray := prog_4_method_3_code
def yX2_add : MethodName := ⟨RX2, "add", "(IIIII)I"⟩
abbrev cX2_has : ByteArray := prog_4_method_4_code
def yX2_has : MethodName := ⟨RX2, "has", "(I)Z"⟩
abbrev cX2_isPass : ByteArray := prog_4_method_5_code
def yX2_isPass : MethodName := ⟨RX2, "isPass", "(I)Z"⟩
abbrev cX2_isPassOf : ByteArray := prog_4_method_6_code
def yX2_isPassOf : MethodName := ⟨RX2, "isPassOf", "(II)Z"⟩
abbrev cX2_isBack : ByteArray := prog_4_method_7_code
def yX2_isBack : MethodName := ⟨RX2, "isBack", "(I)Z"⟩
abbrev cX2_passesOf : ByteArray := prog_4_method_8_code
def yX2_passesOf : MethodName := ⟨RX2, "passesOf", "(I)I"⟩
abbrev cX2_tellingOf : ByteArray := prog_4_method_9_code
def yX2_tellingOf : MethodName := ⟨RX2, "tellingOf", "(II)I"⟩
def RX3 : String := "DoorReader$Plan"
def TX3 : u_T := fun k => match k with
  | 0 => ("DoorReader$Plan", "rooms", "I", false)
  | 1 => ("DoorReader$Plan", "doors", "I", false)
  | 2 => ("DoorReader$Plan", "roomName", "[J", true)
  | 3 => ("DoorReader$Plan", "width", "[I", true)
  | 4 => ("DoorReader$Plan", "doorName", "[J", true)
  | 5 => ("DoorReader$Plan", "first", "[I", true)
  | 6 => ("DoorReader$Plan", "second", "[I", true)
  | _ => ("DoorReader$Plan", "error", "[I", true)
def tyX3 : Nat → FieldType := fun k => match k with
  | 0 => .int
  | 1 => .int
  | 2 => .array .long
  | 3 => .array .int
  | 4 => .array .long
  | 5 => .array .int
  | 6 => .array .int
  | _ => .array .int
abbrev wsX30 : List Cond := u_ws RX3 TX3 8
theorem nmX3 : ∀ a, a < 8 → ∀ b, b < 8 → a ≠ b → (TX3 a).2.1 ≠ (TX3 b).2.1 := by decide +kernel
theorem tyX3_ok : ∀ k, k < 8 → parseFieldDescriptor (TX3 k).2.2.1 = some (tyX3 k) := by decide +kernel
abbrev cX3_init : ByteArray := prog_5_method_1_code
def yX3_init : MethodName := ⟨RX3, "<init>", "()V"⟩
abbrev cX3_clear : ByteArray := prog_5_method_2_code
def yX3_clear : MethodName := ⟨RX3, "clear", "()V"⟩
abbrev cX3_copyFrom : ByteArray := prog_5_method_3_code
def yX3_copyFrom : MethodName := ⟨RX3, "copyFrom", "(LDoorReader$Plan;)V"⟩
abbrev cX3_roomNamed : ByteArray := prog_5_method_4_code
def yX3_roomNamed : MethodName := ⟨RX3, "roomNamed", "(J)I"⟩
abbrev cX3_hasName : ByteArray := prog_5_method_5_code
def yX3_hasName : MethodName := ⟨RX3, "hasName", "(J)Z"⟩
abbrev cX3_addRoom : ByteArray := prog_5_method_6_code
def yX3_addRoom : MethodName := ⟨RX3, "addRoom", "(JI)V"⟩
abbrev cX3_addDoor : ByteArray := prog_5_method_7_code
def yX3_addDoor : MethodName := ⟨RX3, "addDoor", "(JIII)V"⟩
abbrev cX3_roomLeft : ByteArray := prog_5_method_8_code
def yX3_roomLeft : MethodName := ⟨RX3, "roomLeft", "(IZ)I"⟩
abbrev cX3_roomComeTo : ByteArray := prog_5_method_9_code
def yX3_roomComeTo : MethodName := ⟨RX3, "roomComeTo", "(IZ)I"⟩
def RX4 : String := "DoorReader$RightBook"
def TX4 : u_T := fun k => match k with
  | 0 => ("DoorReader$RightBook", "size", "I", false)
  | 1 => ("DoorReader$RightBook", "card", "[I", true)
  | 2 => ("DoorReader$RightBook", "room", "[I", true)
  | 3 => ("DoorReader$RightBook", "from", "[I", true)
  | 4 => ("DoorReader$RightBook", "to", "[I", true)
  | _ => ("DoorReader$RightBook", "given", "[Z", true)
def tyX4 : Nat → FieldType := fun k => match k with
  | 0 => .int
  | 1 => .array .int
  | 2 => .array .int
  | 3 => .array .int
  | 4 => .array .int
  | _ => .array .boolean
abbrev wsX40 : List Cond := u_ws RX4 TX4 6
theorem nmX4 : ∀ a, a < 6 → ∀ b, b < 6 → a ≠ b → (TX4 a).2.1 ≠ (TX4 b).2.1 := by decide +kernel
theorem tyX4_ok : ∀ k, k < 6 → parseFieldDescriptor (TX4 k).2.2.1 = some (tyX4 k) := by decide +kernel
abbrev cX4_init : ByteArray := prog_6_method_1_code
def yX4_init : MethodName := ⟨RX4, "<init>", "()V"⟩
abbrev cX4_clear : ByteArray := prog_6_method_2_code
def yX4_clear : MethodName := ⟨RX4, "clear", "()V"⟩
abbrev cX4_add : ByteArray := prog_6_method_3_code
def yX4_add : MethodName := ⟨RX4, "add", "(IIIIZ)I"⟩
abbrev cX4_allows : ByteArray := prog_6_method_4_code
def yX4_allows : MethodName := ⟨RX4, "allows", "(III)Z"⟩
def RX5 : String := "DoorReader$TextReader"
def TX5 : u_T := fun k => match k with
  | 0 => ("DoorReader$TextReader", "text", "[B", true)
  | 1 => ("DoorReader$TextReader", "length", "I", false)
  | 2 => ("DoorReader$TextReader", "at", "I", false)
  | 3 => ("DoorReader$TextReader", "token", "I", false)
  | 4 => ("DoorReader$TextReader", "start", "I", false)
  | 5 => ("DoorReader$TextReader", "size", "I", false)
  | 6 => ("DoorReader$TextReader", "value", "J", false)
  | 7 => ("DoorReader$TextReader", "fault", "I", false)
  | _ => ("DoorReader$TextReader", "faultPlace", "I", false)
def tyX5 : Nat → FieldType := fun k => match k with
  | 0 => .array .byte
  | 1 => .int
  | 2 => .int
  | 3 => .int
  | 4 => .int
  | 5 => .int
  | 6 => .long
  | 7 => .int
  | _ => .int
abbrev wsX50 : List Cond := u_ws RX5 TX5 9
theorem nmX5 : ∀ a, a < 9 → ∀ b, b < 9 → a ≠ b → (TX5 a).2.1 ≠ (TX5 b).2.1 := by decide +kernel
theorem tyX5_ok : ∀ k, k < 9 → parseFieldDescriptor (TX5 k).2.2.1 = some (tyX5 k) := by decide +kernel
abbrev cX5_init : ByteArray := prog_7_method_1_code
def yX5_init : MethodName := ⟨RX5, "<init>", "([B)V"⟩
abbrev cX5_readInto : ByteArray := prog_7_method_2_code
def yX5_readInto : MethodName := ⟨RX5, "readInto", "(LDoorReader$Plan;I)I"⟩
abbrev cX5_readRoom : ByteArray := prog_7_method_3_code
def yX5_readRoom : MethodName := ⟨RX5, "readRoom", "(LDoorReader$Plan;)V"⟩
abbrev cX5_readDoor : ByteArray := prog_7_method_4_code
def yX5_readDoor : MethodName := ⟨RX5, "readDoor", "(LDoorReader$Plan;)V"⟩
abbrev cX5_takeNewName : ByteArray := prog_7_method_5_code
def yX5_takeNewName : MethodName := ⟨RX5, "takeNewName", "(LDoorReader$Plan;)J"⟩
abbrev cX5_takeRoom : ByteArray := prog_7_method_6_code
def yX5_takeRoom : MethodName := ⟨RX5, "takeRoom", "(LDoorReader$Plan;I)I"⟩
abbrev cX5_takeNumber : ByteArray := prog_7_method_7_code
def yX5_takeNumber : MethodName := ⟨RX5, "takeNumber", "(I)I"⟩
abbrev cX5_takeSign : ByteArray := prog_7_method_8_code
def yX5_takeSign : MethodName := ⟨RX5, "takeSign", "()V"⟩
abbrev cX5_isName : ByteArray := prog_7_method_9_code
def yX5_isName : MethodName := ⟨RX5, "isName", "()Z"⟩
abbrev cX5_faultHere : ByteArray := prog_7_method_10_code
def yX5_faultHere : MethodName := ⟨RX5, "faultHere", "(I)V"⟩
abbrev cX5_nextToken : ByteArray := prog_7_method_11_code
def yX5_nextToken : MethodName := ⟨RX5, "nextToken", "()V"⟩
abbrev cX5_readWord : ByteArray := prog_7_method_12_code
def yX5_readWord : MethodName := ⟨RX5, "readWord", "()V"⟩
abbrev cX5_readNumber : ByteArray := prog_7_method_13_code
def yX5_readNumber : MethodName := ⟨RX5, "readNumber", "()V"⟩
abbrev cX5_isBlank : ByteArray := prog_7_method_14_code
def yX5_isBlank : MethodName := ⟨RX5, "isBlank", "(B)Z"⟩
abbrev cX5_isLetter : ByteArray := prog_7_method_15_code
def yX5_isLetter : MethodName := ⟨RX5, "isLetter", "(B)Z"⟩
abbrev cX5_isDigit : ByteArray := prog_7_method_16_code
def yX5_isDigit : MethodName := ⟨RX5, "isDigit", "(B)Z"⟩
def RX6 : String := "DoorReader$Walks"
def TX6 : u_T := fun k => match k with
  | 0 => ("DoorReader$Walks", "plan", "LDoorReader$Plan;", true)
  | 1 => ("DoorReader$Walks", "logs", "LDoorReader$LogBook;", true)
  | 2 => ("DoorReader$Walks", "passes", "I", false)
  | 3 => ("DoorReader$Walks", "passLog", "[I", true)
  | 4 => ("DoorReader$Walks", "leaves", "[I", true)
  | 5 => ("DoorReader$Walks", "comesTo", "[I", true)
  | 6 => ("DoorReader$Walks", "soonest", "[I", true)
  | 7 => ("DoorReader$Walks", "latest", "[I", true)
  | 8 => ("DoorReader$Walks", "openBehind", "I", false)
  | 9 => ("DoorReader$Walks", "openDoors", "[I", true)
  | 10 => ("DoorReader$Walks", "seen", "[J", true)
  | 11 => ("DoorReader$Walks", "entry", "[J", true)
  | 12 => ("DoorReader$Walks", "hopeful", "[J", true)
  | _ => ("DoorReader$Walks", "now", "[J", true)
def tyX6 : Nat → FieldType := fun k => match k with
  | 0 => .object "DoorReader$Plan"
  | 1 => .object "DoorReader$LogBook"
  | 2 => .int
  | 3 => .array .int
  | 4 => .array .int
  | 5 => .array .int
  | 6 => .array .int
  | 7 => .array .int
  | 8 => .int
  | 9 => .array .int
  | 10 => .array .long
  | 11 => .array .long
  | 12 => .array .long
  | _ => .array .long
abbrev wsX60 : List Cond := u_ws RX6 TX6 14
theorem nmX6 : ∀ a, a < 14 → ∀ b, b < 14 → a ≠ b → (TX6 a).2.1 ≠ (TX6 b).2.1 := by decide +kernel
theorem tyX6_ok : ∀ k, k < 14 → parseFieldDescriptor (TX6 k).2.2.1 = some (tyX6 k) := by decide +kernel
abbrev cX6_init : ByteArray := prog_8_method_1_code
def yX6_init : MethodName := ⟨RX6, "<init>", "(LDoorReader$Plan;LDoorReader$LogBook;)V"⟩
abbrev cX6_forget : ByteArray := prog_8_method_2_code
def yX6_forget : MethodName := ⟨RX6, "forget", "()V"⟩
abbrev cX6_lookAt : ByteArray := prog_8_method_3_code
def yX6_lookAt : MethodName := ⟨RX6, "lookAt", "(II)V"⟩
abbrev cX6_addSights : ByteArray := prog_8_method_4_code
def yX6_addSights : MethodName := ⟨RX6, "addSights", "(II)V"⟩
abbrev cX6_demand : ByteArray := prog_8_method_5_code
def yX6_demand : MethodName := ⟨RX6, "demand", "(II)V"⟩
abbrev cX6_openGaps : ByteArray := prog_8_method_6_code
def yX6_openGaps : MethodName := ⟨RX6, "openGaps", "(I)V"⟩
abbrev cX6_openGap : ByteArray := prog_8_method_7_code
def yX6_openGap : MethodName := ⟨RX6, "openGap", "(III)V"⟩
abbrev cX6_insertPass : ByteArray := prog_8_method_8_code
def yX6_insertPass : MethodName := ⟨RX6, "insertPass", "(I)V"⟩
abbrev cX6_readPass : ByteArray := prog_8_method_9_code
def yX6_readPass : MethodName := ⟨RX6, "readPass", "(I)V"⟩
abbrev cX6_isInTime : ByteArray := prog_8_method_10_code
def yX6_isInTime : MethodName := ⟨RX6, "isInTime", "(II)Z"⟩
abbrev cX6_findHopeful : ByteArray := prog_8_method_11_code
def yX6_findHopeful : MethodName := ⟨RX6, "findHopeful", "()V"⟩
abbrev cX6_hopefulAhead : ByteArray := prog_8_method_12_code
def yX6_hopefulAhead : MethodName := ⟨RX6, "hopefulAhead", "(II)J"⟩
abbrev cX6_freeInto : ByteArray := prog_8_method_13_code
def yX6_freeInto : MethodName := ⟨RX6, "freeInto", "(JI)J"⟩
abbrev cX6_startOutside : ByteArray := prog_8_method_14_code
def yX6_startOutside : MethodName := ⟨RX6, "startOutside", "()V"⟩
abbrev cX6_goOn : ByteArray := prog_8_method_15_code
def yX6_goOn : MethodName := ⟨RX6, "goOn", "(I)V"⟩
abbrev cX6_freeOutOf : ByteArray := prog_8_method_16_code
def yX6_freeOutOf : MethodName := ⟨RX6, "freeOutOf", "(JI)J"⟩
abbrev cX6_findRooms : ByteArray := prog_8_method_17_code
def yX6_findRooms : MethodName := ⟨RX6, "findRooms", "([II)V"⟩
abbrev cX6_roomsIn : ByteArray := prog_8_method_18_code
def yX6_roomsIn : MethodName := ⟨RX6, "roomsIn", "(J)I"⟩
abbrev cX6_findBreak : ByteArray := prog_8_method_19_code
def yX6_findBreak : MethodName := ⟨RX6, "findBreak", "()I"⟩
abbrev cX6_findFirstWay : ByteArray := prog_8_method_20_code
def yX6_findFirstWay : MethodName := ⟨RX6, "findFirstWay", "([I)Z"⟩
abbrev cX6_stagesGoing : ByteArray := prog_8_method_21_code
def yX6_stagesGoing : MethodName := ⟨RX6, "stagesGoing", "(IIII)I"⟩
abbrev cX6_isOpenBetween : ByteArray := prog_8_method_22_code
def yX6_isOpenBetween : MethodName := ⟨RX6, "isOpenBetween", "(III)Z"⟩
abbrev cX6_withHope : ByteArray := prog_8_method_23_code
def yX6_withHope : MethodName := ⟨RX6, "withHope", "(IIJ)I"⟩
def RX7 : String := "DoorReader"
def TX7 : u_T := fun k => match k with
  | 0 => ("DoorReader", "tape", "[B", true)
  | 1 => ("DoorReader", "bytes", "I", false)
  | 2 => ("DoorReader", "faultPlace", "I", false)
  | 3 => ("DoorReader", "cards", "I", false)
  | 4 => ("DoorReader", "plan", "LDoorReader$Plan;", true)
  | 5 => ("DoorReader", "draft", "LDoorReader$Plan;", true)
  | 6 => ("DoorReader", "reader", "LDoorReader$TextReader;", true)
  | 7 => ("DoorReader", "logs", "LDoorReader$LogBook;", true)
  | 8 => ("DoorReader", "rights", "LDoorReader$RightBook;", true)
  | 9 => ("DoorReader", "habits", "LDoorReader$Habits;", true)
  | _ => ("DoorReader", "known", "LDoorReader$Known;", true)
def tyX7 : Nat → FieldType := fun k => match k with
  | 0 => .array .byte
  | 1 => .int
  | 2 => .int
  | 3 => .int
  | 4 => .object "DoorReader$Plan"
  | 5 => .object "DoorReader$Plan"
  | 6 => .object "DoorReader$TextReader"
  | 7 => .object "DoorReader$LogBook"
  | 8 => .object "DoorReader$RightBook"
  | 9 => .object "DoorReader$Habits"
  | _ => .object "DoorReader$Known"
abbrev wsX70 : List Cond := u_ws RX7 TX7 11
theorem nmX7 : ∀ a, a < 11 → ∀ b, b < 11 → a ≠ b → (TX7 a).2.1 ≠ (TX7 b).2.1 := by decide +kernel
theorem tyX7_ok : ∀ k, k < 11 → parseFieldDescriptor (TX7 k).2.2.1 = some (tyX7 k) := by decide +kernel
abbrev cX7_init : ByteArray := prog_1_method_1_code
def yX7_init : MethodName := ⟨RX7, "<init>", "()V"⟩
abbrev cX7_feed : ByteArray := prog_1_method_2_code
def yX7_feed : MethodName := ⟨RX7, "feed", "(IIIII)I"⟩
abbrev cX7_end : ByteArray := prog_1_method_3_code
def yX7_end : MethodName := ⟨RX7, "end", "(I)I"⟩
abbrev cX7_building : ByteArray := prog_1_method_4_code
def yX7_building : MethodName := ⟨RX7, "building", "()I"⟩
abbrev cX7_place : ByteArray := prog_1_method_5_code
def yX7_place : MethodName := ⟨RX7, "place", "()I"⟩
abbrev cX7_card : ByteArray := prog_1_method_6_code
def yX7_card : MethodName := ⟨RX7, "card", "()I"⟩
abbrev cX7_pass : ByteArray := prog_1_method_7_code
def yX7_pass : MethodName := ⟨RX7, "pass", "(IIZI)I"⟩
abbrev cX7_gap : ByteArray := prog_1_method_8_code
def yX7_gap : MethodName := ⟨RX7, "gap", "(III)I"⟩
abbrev cX7_sight : ByteArray := prog_1_method_9_code
def yX7_sight : MethodName := ⟨RX7, "sight", "(III)I"⟩
abbrev cX7_right : ByteArray := prog_1_method_10_code
def yX7_right : MethodName := ⟨RX7, "right", "(IIIIZ)I"⟩
abbrev cX7_rooms : ByteArray := prog_1_method_11_code
def yX7_rooms : MethodName := ⟨RX7, "rooms", "(III)I"⟩
abbrev cX7_way : ByteArray := prog_1_method_12_code
def yX7_way : MethodName := ⟨RX7, "way", "(IIII)I"⟩
abbrev cX7_broken : ByteArray := prog_1_method_13_code
def yX7_broken : MethodName := ⟨RX7, "broken", "(II)I"⟩
abbrev cX7_many : ByteArray := prog_1_method_14_code
def yX7_many : MethodName := ⟨RX7, "many", "(IIII)I"⟩
abbrev cX7_inside : ByteArray := prog_1_method_15_code
def yX7_inside : MethodName := ⟨RX7, "inside", "(III)I"⟩
abbrev cX7_allowed : ByteArray := prog_1_method_16_code
def yX7_allowed : MethodName := ⟨RX7, "allowed", "(III)I"⟩
abbrev cX7_odd : ByteArray := prog_1_method_17_code
def yX7_odd : MethodName := ⟨RX7, "odd", "(II)I"⟩
abbrev cX7_pairs : ByteArray := prog_1_method_18_code
def yX7_pairs : MethodName := ⟨RX7, "pairs", "(IIII)I"⟩
abbrev cX7_log : ByteArray := prog_1_method_19_code
def yX7_log : MethodName := ⟨RX7, "log", "(II)I"⟩
abbrev cX7_door : ByteArray := prog_1_method_20_code
def yX7_door : MethodName := ⟨RX7, "door", "(II)I"⟩
abbrev cX7_wide : ByteArray := prog_1_method_21_code
def yX7_wide : MethodName := ⟨RX7, "wide", "(I)I"⟩
abbrev cX7_count : ByteArray := prog_1_method_22_code
def yX7_count : MethodName := ⟨RX7, "count", "(I)I"⟩
abbrev cX7_putNumber : ByteArray := prog_1_method_23_code
def yX7_putNumber : MethodName := ⟨RX7, "putNumber", "(I)V"⟩
abbrev cX7_hasCard : ByteArray := prog_1_method_24_code
def yX7_hasCard : MethodName := ⟨RX7, "hasCard", "(I)Z"⟩
abbrev cX7_hasRoom : ByteArray := prog_1_method_25_code
def yX7_hasRoom : MethodName := ⟨RX7, "hasRoom", "(I)Z"⟩
abbrev cX7_hasDoor : ByteArray := prog_1_method_26_code
def yX7_hasDoor : MethodName := ⟨RX7, "hasDoor", "(I)Z"⟩
abbrev cX7_isTick : ByteArray := prog_1_method_27_code
def yX7_isTick : MethodName := ⟨RX7, "isTick", "(I)Z"⟩
abbrev cX7_isBehind : ByteArray := prog_1_method_28_code
def yX7_isBehind : MethodName := ⟨RX7, "isBehind", "(I)Z"⟩
def RX8 : String := "DoorReaderModel"
def TX8 : u_T := fun k => match k with
  | 0 => ("DoorReaderModel", "thrown", "I", false)
  | 1 => ("DoorReaderModel", "tape", "[B", true)
  | 2 => ("DoorReaderModel", "taped", "I", false)
  | 3 => ("DoorReaderModel", "at", "I", false)
  | 4 => ("DoorReaderModel", "place", "I", false)
  | 5 => ("DoorReaderModel", "sort", "I", false)
  | 6 => ("DoorReaderModel", "value", "I", false)
  | 7 => ("DoorReaderModel", "fault", "I", false)
  | 8 => ("DoorReaderModel", "faultPlace", "I", false)
  | 9 => ("DoorReaderModel", "lastPlace", "I", false)
  | 10 => ("DoorReaderModel", "names", "[B", true)
  | 11 => ("DoorReaderModel", "nameSize", "[I", true)
  | 12 => ("DoorReaderModel", "newRooms", "I", false)
  | 13 => ("DoorReaderModel", "newDoors", "I", false)
  | 14 => ("DoorReaderModel", "newWide", "[I", true)
  | 15 => ("DoorReaderModel", "newFirst", "[I", true)
  | 16 => ("DoorReaderModel", "newSecond", "[I", true)
  | 17 => ("DoorReaderModel", "newErrs", "[I", true)
  | 18 => ("DoorReaderModel", "rooms", "I", false)
  | 19 => ("DoorReaderModel", "doors", "I", false)
  | 20 => ("DoorReaderModel", "wides", "[I", true)
  | 21 => ("DoorReaderModel", "first", "[I", true)
  | 22 => ("DoorReaderModel", "second", "[I", true)
  | 23 => ("DoorReaderModel", "errs", "[I", true)
  | 24 => ("DoorReaderModel", "cards", "I", false)
  | 25 => ("DoorReaderModel", "logs", "I", false)
  | 26 => ("DoorReaderModel", "rights", "I", false)
  | 27 => ("DoorReaderModel", "kind", "[I", true)
  | 28 => ("DoorReaderModel", "who", "[I", true)
  | 29 => ("DoorReaderModel", "where", "[I", true)
  | 30 => ("DoorReaderModel", "when", "[I", true)
  | 31 => ("DoorReaderModel", "more", "[I", true)
  | 32 => ("DoorReaderModel", "rightCard", "[I", true)
  | 33 => ("DoorReaderModel", "rightRoom", "[I", true)
  | 34 => ("DoorReaderModel", "rightFrom", "[I", true)
  | 35 => ("DoorReaderModel", "rightTo", "[I", true)
  | 36 => ("DoorReaderModel", "isGiven", "[Z", true)
  | 37 => ("DoorReaderModel", "order", "[I", true)
  | 38 => ("DoorReaderModel", "passes", "I", false)
  | 39 => ("DoorReaderModel", "seenIn", "[J", true)
  | 40 => ("DoorReaderModel", "isFree", "[Z", true)
  | 41 => ("DoorReaderModel", "front", "[J", true)
  | 42 => ("DoorReaderModel", "back", "[J", true)
  | 43 => ("DoorReaderModel", "set", "[J", true)
  | _ => ("DoorReaderModel", "after", "[J", true)
def tyX8 : Nat → FieldType := fun k => match k with
  | 0 => .int
  | 1 => .array .byte
  | 2 => .int
  | 3 => .int
  | 4 => .int
  | 5 => .int
  | 6 => .int
  | 7 => .int
  | 8 => .int
  | 9 => .int
  | 10 => .array .byte
  | 11 => .array .int
  | 12 => .int
  | 13 => .int
  | 14 => .array .int
  | 15 => .array .int
  | 16 => .array .int
  | 17 => .array .int
  | 18 => .int
  | 19 => .int
  | 20 => .array .int
  | 21 => .array .int
  | 22 => .array .int
  | 23 => .array .int
  | 24 => .int
  | 25 => .int
  | 26 => .int
  | 27 => .array .int
  | 28 => .array .int
  | 29 => .array .int
  | 30 => .array .int
  | 31 => .array .int
  | 32 => .array .int
  | 33 => .array .int
  | 34 => .array .int
  | 35 => .array .int
  | 36 => .array .boolean
  | 37 => .array .int
  | 38 => .int
  | 39 => .array .long
  | 40 => .array .boolean
  | 41 => .array .long
  | 42 => .array .long
  | 43 => .array .long
  | _ => .array .long
abbrev wsX80 : List Cond := u_ws RX8 TX8 45
theorem nmX8 : ∀ a, a < 45 → ∀ b, b < 45 → a ≠ b → (TX8 a).2.1 ≠ (TX8 b).2.1 := by decide +kernel
theorem tyX8_ok : ∀ k, k < 45 → parseFieldDescriptor (TX8 k).2.2.1 = some (tyX8 k) := by decide +kernel
abbrev cX8_thrown : ByteArray := prog_10_method_1_code
def yX8_thrown : MethodName := ⟨RX8, "thrown", "()I"⟩
abbrev cX8_within : ByteArray := prog_10_method_2_code
def yX8_within : MethodName := ⟨RX8, "within", "(III)Z"⟩
abbrev cX8_init : ByteArray := prog_10_method_3_code
def yX8_init : MethodName := ⟨RX8, "<init>", "()V"⟩
abbrev cX8_feed : ByteArray := prog_10_method_4_code
def yX8_feed : MethodName := ⟨RX8, "feed", "(IIIII)I"⟩
abbrev cX8_end : ByteArray := prog_10_method_5_code
def yX8_end : MethodName := ⟨RX8, "end", "(I)I"⟩
abbrev cX8_see : ByteArray := prog_10_method_6_code
def yX8_see : MethodName := ⟨RX8, "see", "(I)I"⟩
abbrev cX8_isSmall : ByteArray := prog_10_method_7_code
def yX8_isSmall : MethodName := ⟨RX8, "isSmall", "(I)Z"⟩
abbrev cX8_isDigit : ByteArray := prog_10_method_8_code
def yX8_isDigit : MethodName := ⟨RX8, "isDigit", "(I)Z"⟩
abbrev cX8_next : ByteArray := prog_10_method_9_code
def yX8_next : MethodName := ⟨RX8, "next", "()V"⟩
abbrev cX8_isWord : ByteArray := prog_10_method_10_code
def yX8_isWord : MethodName := ⟨RX8, "isWord", "(Ljava/lang/String;)Z"⟩
abbrev cX8_isName : ByteArray := prog_10_method_11_code
def yX8_isName : MethodName := ⟨RX8, "isName", "()Z"⟩
abbrev cX8_fails : ByteArray := prog_10_method_12_code
def yX8_fails : MethodName := ⟨RX8, "fails", "(I)V"⟩
abbrev cX8_isWell : ByteArray := prog_10_method_13_code
def yX8_isWell : MethodName := ⟨RX8, "isWell", "()Z"⟩
abbrev cX8_isAt : ByteArray := prog_10_method_14_code
def yX8_isAt : MethodName := ⟨RX8, "isAt", "(I)Z"⟩
abbrev cX8_roomHere : ByteArray := prog_10_method_15_code
def yX8_roomHere : MethodName := ⟨RX8, "roomHere", "()I"⟩
abbrev cX8_isDoorHere : ByteArray := prog_10_method_16_code
def yX8_isDoorHere : MethodName := ⟨RX8, "isDoorHere", "()Z"⟩
abbrev cX8_newName : ByteArray := prog_10_method_17_code
def yX8_newName : MethodName := ⟨RX8, "newName", "(I)V"⟩
abbrev cX8_number : ByteArray := prog_10_method_18_code
def yX8_number : MethodName := ⟨RX8, "number", "(I)I"⟩
abbrev cX8_ends : ByteArray := prog_10_method_19_code
def yX8_ends : MethodName := ⟨RX8, "ends", "()V"⟩
abbrev cX8_roomTold : ByteArray := prog_10_method_20_code
def yX8_roomTold : MethodName := ⟨RX8, "roomTold", "(I)I"⟩
abbrev cX8_thing : ByteArray := prog_10_method_21_code
def yX8_thing : MethodName := ⟨RX8, "thing", "()V"⟩
abbrev cX8_building : ByteArray := prog_10_method_22_code
def yX8_building : MethodName := ⟨RX8, "building", "()I"⟩
abbrev cX8_place : ByteArray := prog_10_method_23_code
def yX8_place : MethodName := ⟨RX8, "place", "()I"⟩
abbrev cX8_isCard : ByteArray := prog_10_method_24_code
def yX8_isCard : MethodName := ⟨RX8, "isCard", "(I)Z"⟩
abbrev cX8_isRoom : ByteArray := prog_10_method_25_code
def yX8_isRoom : MethodName := ⟨RX8, "isRoom", "(I)Z"⟩
abbrev cX8_isTick : ByteArray := prog_10_method_26_code
def yX8_isTick : MethodName := ⟨RX8, "isTick", "(I)Z"⟩
abbrev cX8_card : ByteArray := prog_10_method_27_code
def yX8_card : MethodName := ⟨RX8, "card", "()I"⟩
abbrev cX8_log : ByteArray := prog_10_method_28_code
def yX8_log : MethodName := ⟨RX8, "log", "(IIIII)I"⟩
abbrev cX8_pass : ByteArray := prog_10_method_29_code
def yX8_pass : MethodName := ⟨RX8, "pass", "(IIZI)I"⟩
abbrev cX8_gap : ByteArray := prog_10_method_30_code
def yX8_gap : MethodName := ⟨RX8, "gap", "(III)I"⟩
abbrev cX8_sight : ByteArray := prog_10_method_31_code
def yX8_sight : MethodName := ⟨RX8, "sight", "(III)I"⟩
abbrev cX8_right : ByteArray := prog_10_method_32_code
def yX8_right : MethodName := ⟨RX8, "right", "(IIIIZ)I"⟩
abbrev cX8_isAllowed : ByteArray := prog_10_method_33_code
def yX8_isAllowed : MethodName := ⟨RX8, "isAllowed", "(III)Z"⟩
abbrev cX8_allowed : ByteArray := prog_10_method_34_code
def yX8_allowed : MethodName := ⟨RX8, "allowed", "(III)I"⟩
abbrev cX8_leaves : ByteArray := prog_10_method_35_code
def yX8_leaves : MethodName := ⟨RX8, "leaves", "(I)I"⟩
abbrev cX8_enters : ByteArray := prog_10_method_36_code
def yX8_enters : MethodName := ⟨RX8, "enters", "(I)I"⟩
abbrev cX8_states : ByteArray := prog_10_method_37_code
def yX8_states : MethodName := ⟨RX8, "states", "(I)J"⟩
abbrev cX8_knows : ByteArray := prog_10_method_38_code
def yX8_knows : MethodName := ⟨RX8, "knows", "(IIZ)V"⟩
abbrev cX8_leaving : ByteArray := prog_10_method_39_code
def yX8_leaving : MethodName := ⟨RX8, "leaving", "(I)J"⟩
abbrev cX8_come : ByteArray := prog_10_method_40_code
def yX8_come : MethodName := ⟨RX8, "come", "(I)J"⟩
abbrev cX8_isPass : ByteArray := prog_10_method_41_code
def yX8_isPass : MethodName := ⟨RX8, "isPass", "(II)Z"⟩
abbrev cX8_stays : ByteArray := prog_10_method_42_code
def yX8_stays : MethodName := ⟨RX8, "stays", "(J)J"⟩
abbrev cX8_goes : ByteArray := prog_10_method_43_code
def yX8_goes : MethodName := ⟨RX8, "goes", "(II)V"⟩
abbrev cX8_begins : ByteArray := prog_10_method_44_code
def yX8_begins : MethodName := ⟨RX8, "begins", "(I)V"⟩
abbrev cX8_fillFront : ByteArray := prog_10_method_45_code
def yX8_fillFront : MethodName := ⟨RX8, "fillFront", "()V"⟩
abbrev cX8_stayed : ByteArray := prog_10_method_46_code
def yX8_stayed : MethodName := ⟨RX8, "stayed", "(J)J"⟩
abbrev cX8_fillBack : ByteArray := prog_10_method_47_code
def yX8_fillBack : MethodName := ⟨RX8, "fillBack", "()V"⟩
abbrev cX8_ahead : ByteArray := prog_10_method_48_code
def yX8_ahead : MethodName := ⟨RX8, "ahead", "(II)J"⟩
abbrev cX8_can : ByteArray := prog_10_method_49_code
def yX8_can : MethodName := ⟨RX8, "can", "(III)I"⟩
abbrev cX8_rooms : ByteArray := prog_10_method_50_code
def yX8_rooms : MethodName := ⟨RX8, "rooms", "(III)I"⟩
abbrev cX8_leastRoom : ByteArray := prog_10_method_51_code
def yX8_leastRoom : MethodName := ⟨RX8, "leastRoom", "()I"⟩
abbrev cX8_way : ByteArray := prog_10_method_52_code
def yX8_way : MethodName := ⟨RX8, "way", "(IIII)I"⟩
abbrev cX8_isWalked : ByteArray := prog_10_method_53_code
def yX8_isWalked : MethodName := ⟨RX8, "isWalked", "(I)Z"⟩
abbrev cX8_broken : ByteArray := prog_10_method_54_code
def yX8_broken : MethodName := ⟨RX8, "broken", "(II)I"⟩
abbrev cX8_many : ByteArray := prog_10_method_55_code
def yX8_many : MethodName := ⟨RX8, "many", "(IIII)I"⟩
abbrev cX8_inside : ByteArray := prog_10_method_56_code
def yX8_inside : MethodName := ⟨RX8, "inside", "(III)I"⟩
abbrev cX8_dayOf : ByteArray := prog_10_method_57_code
def yX8_dayOf : MethodName := ⟨RX8, "dayOf", "(I)I"⟩
abbrev cX8_isPassOf : ByteArray := prog_10_method_58_code
def yX8_isPassOf : MethodName := ⟨RX8, "isPassOf", "(II)Z"⟩
abbrev cX8_isFirst : ByteArray := prog_10_method_59_code
def yX8_isFirst : MethodName := ⟨RX8, "isFirst", "(I)Z"⟩
abbrev cX8_earliest : ByteArray := prog_10_method_60_code
def yX8_earliest : MethodName := ⟨RX8, "earliest", "(II)I"⟩
abbrev cX8_odd : ByteArray := prog_10_method_61_code
def yX8_odd : MethodName := ⟨RX8, "odd", "(II)I"⟩
abbrev cX8_isTogether : ByteArray := prog_10_method_62_code
def yX8_isTogether : MethodName := ⟨RX8, "isTogether", "(III)Z"⟩
abbrev cX8_pairs : ByteArray := prog_10_method_63_code
def yX8_pairs : MethodName := ⟨RX8, "pairs", "(IIII)I"⟩
abbrev cX8_log_ : ByteArray := prog_10_method_64_code
def yX8_log_ : MethodName := ⟨RX8, "log", "(II)I"⟩
abbrev cX8_door : ByteArray := prog_10_method_65_code
def yX8_door : MethodName := ⟨RX8, "door", "(II)I"⟩
abbrev cX8_wide : ByteArray := prog_10_method_66_code
def yX8_wide : MethodName := ⟨RX8, "wide", "(I)I"⟩
abbrev cX8_count : ByteArray := prog_10_method_67_code
def yX8_count : MethodName := ⟨RX8, "count", "(I)I"⟩
def RJ6 : String := "java/lang/Integer"
def TJ6 : u_T := fun k => match k with
  | _ => ("", "", "", false)
def tyJ6 : Nat → FieldType := fun k => match k with
  | _ => .int
abbrev wsJ60 : List Cond := u_ws RJ6 TJ6 0
theorem nmJ6 : ∀ a, a < 0 → ∀ b, b < 0 → a ≠ b → (TJ6 a).2.1 ≠ (TJ6 b).2.1 := by decide +kernel
theorem tyJ6_ok : ∀ k, k < 0 → parseFieldDescriptor (TJ6 k).2.2.1 = some (tyJ6 k) := by decide +kernel
abbrev cJ6_bitCount_0f7a4 : ByteArray := prog_12_method_49_code
def yJ6_bitCount_0f7a4 : MethodName := ⟨RJ6, "bitCount", "(I)I"⟩
def RJ9 : String := "java/lang/Math"
def TJ9 : u_T := fun k => match k with
  | _ => ("", "", "", false)
def tyJ9 : Nat → FieldType := fun k => match k with
  | _ => .int
abbrev wsJ90 : List Cond := u_ws RJ9 TJ9 0
theorem nmJ9 : ∀ a, a < 0 → ∀ b, b < 0 → a ≠ b → (TJ9 a).2.1 ≠ (TJ9 b).2.1 := by decide +kernel
theorem tyJ9_ok : ∀ k, k < 0 → parseFieldDescriptor (TJ9 k).2.2.1 = some (tyJ9 k) := by decide +kernel
abbrev cJ9_abs_0f7a4 : ByteArray := prog_13_method_59_code
def yJ9_abs_0f7a4 : MethodName := ⟨RJ9, "abs", "(I)I"⟩
abbrev cJ9_max_7cf53 : ByteArray := prog_13_method_65_code
def yJ9_max_7cf53 : MethodName := ⟨RJ9, "max", "(II)I"⟩
abbrev cJ9_min_7cf53 : ByteArray := prog_13_method_69_code
def yJ9_min_7cf53 : MethodName := ⟨RJ9, "min", "(II)I"⟩
def RJ0 : String := "java/lang/String"
def TJ0 : u_T := fun k => match k with
  | _ => ("", "", "", false)
def tyJ0 : Nat → FieldType := fun k => match k with
  | _ => .int
abbrev wsJ00 : List Cond := u_ws RJ0 TJ0 0
theorem nmJ0 : ∀ a, a < 0 → ∀ b, b < 0 → a ≠ b → (TJ0 a).2.1 ≠ (TJ0 b).2.1 := by decide +kernel
theorem tyJ0_ok : ∀ k, k < 0 → parseFieldDescriptor (TJ0 k).2.2.1 = some (tyJ0 k) := by decide +kernel
abbrev cJ0_length_8abf5 : ByteArray := prog_15_method_54_code
def yJ0_length_8abf5 : MethodName := ⟨RJ0, "length", "()I"⟩
abbrev cJ0_charAt_5068e : ByteArray := prog_15_method_56_code
def yJ0_charAt_5068e : MethodName := ⟨RJ0, "charAt", "(I)C"⟩
abbrev cJ0_coder_7d493 : ByteArray := prog_15_method_152_code
def yJ0_coder_7d493 : MethodName := ⟨RJ0, "coder", "()B"⟩
abbrev cJ0_isLatin1_aae02 : ByteArray := prog_15_method_154_code
def yJ0_isLatin1_aae02 : MethodName := ⟨RJ0, "isLatin1", "()Z"⟩
abbrev cJ0_checkIndex_df160 : ByteArray := prog_15_method_155_code
def yJ0_checkIndex_df160 : MethodName := ⟨RJ0, "checkIndex", "(II)V"⟩
def RJ1 : String := "java/lang/StringLatin1"
def TJ1 : u_T := fun k => match k with
  | _ => ("", "", "", false)
def tyJ1 : Nat → FieldType := fun k => match k with
  | _ => .int
abbrev wsJ10 : List Cond := u_ws RJ1 TJ1 0
theorem nmJ1 : ∀ a, a < 0 → ∀ b, b < 0 → a ≠ b → (TJ1 a).2.1 ≠ (TJ1 b).2.1 := by decide +kernel
theorem tyJ1_ok : ∀ k, k < 0 → parseFieldDescriptor (TJ1 k).2.2.1 = some (tyJ1 k) := by decide +kernel
abbrev cJ1_charAt_3b067 : ByteArray := prog_16_method_2_code
def yJ1_charAt_3b067 : MethodName := ⟨RJ1, "charAt", "([BI)C"⟩
def RJ2 : String := "java/lang/StringUTF16"
def TJ2 : u_T := fun k => match k with
  | _ => ("", "", "", false)
def tyJ2 : Nat → FieldType := fun k => match k with
  | _ => .int
abbrev wsJ20 : List Cond := u_ws RJ2 TJ2 0
theorem nmJ2 : ∀ a, a < 0 → ∀ b, b < 0 → a ≠ b → (TJ2 a).2.1 ≠ (TJ2 b).2.1 := by decide +kernel
theorem tyJ2_ok : ∀ k, k < 0 → parseFieldDescriptor (TJ2 k).2.2.1 = some (tyJ2 k) := by decide +kernel
abbrev cJ2_getChar_3b067 : ByteArray := prog_17_method_5_code
def yJ2_getChar_3b067 : MethodName := ⟨RJ2, "getChar", "([BI)C"⟩
abbrev cJ2_length_9d52b : ByteArray := prog_17_method_6_code
def yJ2_length_9d52b : MethodName := ⟨RJ2, "length", "([B)I"⟩
abbrev cJ2_charAt_3b067 : ByteArray := prog_17_method_83_code
def yJ2_charAt_3b067 : MethodName := ⟨RJ2, "charAt", "([BI)C"⟩
abbrev cJ2_checkIndex_2214a : ByteArray := prog_17_method_91_code
def yJ2_checkIndex_2214a : MethodName := ⟨RJ2, "checkIndex", "(I[B)V"⟩
def RJ10 : String := "java/lang/System"
def TJ10 : u_T := fun k => match k with
  | _ => ("", "", "", false)
def tyJ10 : Nat → FieldType := fun k => match k with
  | _ => .int
abbrev wsJ100 : List Cond := u_ws RJ10 TJ10 0
theorem nmJ10 : ∀ a, a < 0 → ∀ b, b < 0 → a ≠ b → (TJ10 a).2.1 ≠ (TJ10 b).2.1 := by decide +kernel
theorem tyJ10_ok : ∀ k, k < 0 → parseFieldDescriptor (TJ10 k).2.2.1 = some (tyJ10 k) := by decide +kernel
def RJ7 : String := "java/util/Arrays"
def TJ7 : u_T := fun k => match k with
  | _ => ("", "", "", false)
def tyJ7 : Nat → FieldType := fun k => match k with
  | _ => .int
abbrev wsJ70 : List Cond := u_ws RJ7 TJ7 0
theorem nmJ7 : ∀ a, a < 0 → ∀ b, b < 0 → a ≠ b → (TJ7 a).2.1 ≠ (TJ7 b).2.1 := by decide +kernel
theorem tyJ7_ok : ∀ k, k < 0 → parseFieldDescriptor (TJ7 k).2.2.1 = some (tyJ7 k) := by decide +kernel
abbrev cJ7_fill_d0a16 : ByteArray := prog_20_method_101_code
def yJ7_fill_d0a16 : MethodName := ⟨RJ7, "fill", "([JJ)V"⟩
abbrev cJ7_fill_53178 : ByteArray := prog_20_method_103_code
def yJ7_fill_53178 : MethodName := ⟨RJ7, "fill", "([II)V"⟩
def RJ3 : String := "jdk/internal/util/Preconditions"
def TJ3 : u_T := fun k => match k with
  | _ => ("", "", "", false)
def tyJ3 : Nat → FieldType := fun k => match k with
  | _ => .int
abbrev wsJ30 : List Cond := u_ws RJ3 TJ3 0
theorem nmJ3 : ∀ a, a < 0 → ∀ b, b < 0 → a ≠ b → (TJ3 a).2.1 ≠ (TJ3 b).2.1 := by decide +kernel
theorem tyJ3_ok : ∀ k, k < 0 → parseFieldDescriptor (TJ3 k).2.2.1 = some (tyJ3 k) := by decide +kernel
abbrev cJ3_checkIndex_8e157 : ByteArray := prog_22_method_11_code
def yJ3_checkIndex_8e157 : MethodName := ⟨RJ3, "checkIndex", "(IILjava/util/function/BiFunction;)I"⟩
def RL : String := "DoorReaderLaw"
abbrev cL_way : ByteArray := method_3_code
def yL_way : MethodName := ⟨RL, "way", "(LDoorReader;IIII[J)I"⟩
abbrev cL_law : ByteArray := code
def yL_law : MethodName := ⟨RL, "law", "([I)Z"⟩
abbrev vwCl : List vw_C := [(RX0, TX0, 3), (RX1, TX1, 10), (RX2, TX2, 6), (RX3, TX3, 8), (RX4, TX4, 6), (RX5, TX5, 9), (RX6, TX6, 14), (RX7, TX7, 11), (RX8, TX8, 45)]
end
section
/-! ===== the cells: 76 of them; which class, which array ===== -/
-- 0 reader ('o', 7)
-- 1 reader.tape ('a', 2, 600)
-- 2 plan ('o', 3)
-- 3 plan.roomName ('a', 1, 8)
-- 4 plan.width ('a', 0, 8)
-- 5 plan.doorName ('a', 1, 10)
-- 6 plan.first ('a', 0, 10)
-- 7 plan.second ('a', 0, 10)
-- 8 plan.error ('a', 0, 10)
-- 9 draft ('o', 3)
-- 10 draft.roomName ('a', 1, 8)
-- 11 draft.width ('a', 0, 8)
-- 12 draft.doorName ('a', 1, 10)
-- 13 draft.first ('a', 0, 10)
-- 14 draft.second ('a', 0, 10)
-- 15 draft.error ('a', 0, 10)
-- 16 text ('o', 5)
-- 17 logs ('o', 2)
-- 18 logs.kind ('a', 0, 100)
-- 19 logs.card ('a', 0, 100)
-- 20 logs.target ('a', 0, 100)
-- 21 logs.tick ('a', 0, 100)
-- 22 logs.more ('a', 0, 100)
-- 23 rights ('o', 4)
-- 24 rights.card ('a', 0, 100)
-- 25 rights.room ('a', 0, 100)
-- 26 rights.from ('a', 0, 100)
-- 27 rights.to ('a', 0, 100)
-- 28 rights.given ('a', 3, 100)
-- 29 habits ('o', 0)
-- 30 habits.earliest ('a', 0, 8)
-- 31 known ('o', 1)
-- 32 known.roomsBehind ('a', 0, 10)
-- 33 known.rooms ('a', 0, 2000)
-- 34 known.way ('a', 0, 200)
-- 35 walks ('o', 6)
-- 36 walks.passLog ('a', 0, 12)
-- 37 walks.leaves ('a', 0, 12)
-- 38 walks.comesTo ('a', 0, 12)
-- 39 walks.soonest ('a', 0, 12)
-- 40 walks.latest ('a', 0, 12)
-- 41 walks.openDoors ('a', 0, 200)
-- 42 walks.seen ('a', 1, 200)
-- 43 walks.entry ('a', 1, 8)
-- 44 walks.hopeful ('a', 1, 2600)
-- 45 walks.now ('a', 1, 13)
-- 46 model ('o', 8)
-- 47 model.tape ('a', 2, 600)
-- 48 model.names ('a', 2, 144)
-- 49 model.nameSize ('a', 0, 18)
-- 50 model.newWide ('a', 0, 8)
-- 51 model.newFirst ('a', 0, 10)
-- 52 model.newSecond ('a', 0, 10)
-- 53 model.newErrs ('a', 0, 10)
-- 54 model.wides ('a', 0, 8)
-- 55 model.first ('a', 0, 10)
-- 56 model.second ('a', 0, 10)
-- 57 model.errs ('a', 0, 10)
-- 58 model.kind ('a', 0, 100)
-- 59 model.who ('a', 0, 100)
-- 60 model.where ('a', 0, 100)
-- 61 model.when ('a', 0, 100)
-- 62 model.more ('a', 0, 100)
-- 63 model.rightCard ('a', 0, 100)
-- 64 model.rightRoom ('a', 0, 100)
-- 65 model.rightFrom ('a', 0, 100)
-- 66 model.rightTo ('a', 0, 100)
-- 67 model.isGiven ('a', 3, 100)
-- 68 model.order ('a', 0, 12)
-- 69 model.seenIn ('a', 1, 200)
-- 70 model.isFree ('a', 3, 2000)
-- 71 model.front ('a', 1, 2613)
-- 72 model.back ('a', 1, 2613)
-- 73 model.set ('a', 1, 13)
-- 74 model.after ('a', 1, 13)
-- 75 out ('a', 1, 1)
abbrev KC : Nat := 76
def SHAPES : List (Nat ⊕ (Nat × Nat)) := [.inl 7, .inr (2, 600), .inl 3, .inr (1, 8), .inr (0, 8), .inr (1, 10), .inr (0, 10), .inr (0, 10), .inr (0, 10), .inl 3, .inr (1, 8), .inr (0, 8), .inr (1, 10), .inr (0, 10), .inr (0, 10), .inr (0, 10), .inl 5, .inl 2, .inr (0, 100), .inr (0, 100), .inr (0, 100), .inr (0, 100), .inr (0, 100), .inl 4, .inr (0, 100), .inr (0, 100), .inr (0, 100), .inr (0, 100), .inr (3, 100), .inl 0, .inr (0, 8), .inl 1, .inr (0, 10), .inr (0, 2000), .inr (0, 200), .inl 6, .inr (0, 12), .inr (0, 12), .inr (0, 12), .inr (0, 12), .inr (0, 12), .inr (0, 200), .inr (1, 200), .inr (1, 8), .inr (1, 2600), .inr (1, 13), .inl 8, .inr (2, 600), .inr (2, 144), .inr (0, 18), .inr (0, 8), .inr (0, 10), .inr (0, 10), .inr (0, 10), .inr (0, 8), .inr (0, 10), .inr (0, 10), .inr (0, 10), .inr (0, 100), .inr (0, 100), .inr (0, 100), .inr (0, 100), .inr (0, 100), .inr (0, 100), .inr (0, 100), .inr (0, 100), .inr (0, 100), .inr (3, 100), .inr (0, 12), .inr (1, 200), .inr (3, 2000), .inr (1, 2613), .inr (1, 2613), .inr (1, 13), .inr (1, 13), .inr (1, 1)]
def KINDS : List (List Nat) := [[2, 2, 2], [2, 2, 2, 2, 0, 0, 0, 0, 3, 2], [0, 2, 2, 2, 2, 2], [0, 0, 2, 2, 2, 2, 2, 2], [0, 2, 2, 2, 2, 2], [2, 0, 0, 0, 0, 0, 1, 0, 0], [2, 2, 0, 2, 2, 2, 2, 2, 0, 2, 2, 2, 2, 2], [2, 0, 0, 0, 2, 2, 2, 2, 2, 2, 2], [0, 2, 0, 0, 0, 0, 0, 0, 0, 0, 2, 2, 0, 0, 2, 2, 2, 2, 0, 0, 2, 2, 2, 2, 0, 0, 0, 2, 2, 2, 2, 2, 2, 2, 2, 2, 2, 2, 0, 2, 2, 2, 2, 2, 2]]
def REFS : List (List Nat) := [[1, 99, 99, 99, 2, 9, 16, 17, 23, 29, 31], [], [99, 99, 3, 4, 5, 6, 7, 8], [], [], [], [], [], [], [99, 99, 10, 11, 12, 13, 14, 15], [], [], [], [], [], [], [1, 99, 99, 99, 99, 99, 99, 99, 99], [99, 18, 19, 20, 21, 22], [], [], [], [], [], [99, 24, 25, 26, 27, 28], [], [], [], [], [], [2, 17, 30], [], [17, 35, 32, 33, 99, 99, 99, 99, 99, 34], [], [], [], [2, 17, 99, 36, 37, 38, 39, 40, 99, 41, 42, 43, 44, 45], [], [], [], [], [], [], [], [], [], [], [99, 47, 99, 99, 99, 99, 99, 99, 99, 99, 48, 49, 99, 99, 50, 51, 52, 53, 99, 99, 54, 55, 56, 57, 99, 99, 99, 58, 59, 60, 61, 62, 63, 64, 65, 66, 67, 68, 99, 69, 70, 71, 72, 73, 74], [], [], [], [], [], [], [], [], [], [], [], [], [], [], [], [], [], [], [], [], [], [], [], [], [], [], [], [], []]
end
section
/-! ===== words: the good ones, and those of nest mates ===== -/
def TB : List Cond := lw_tbl.filter goodWord
def isNest : Cond → Bool
  | .fieldLinkNest .. => true
  | .methodLinkNest .. => true
  | _ => false
def NT : List Cond := lw_tbl.filter isNest
theorem tb_of {w : Cond} (h : w ∈ lw_tbl) (g : goodWord w = true) : w ∈ TB := List.mem_filter.mpr ⟨h, g⟩
theorem nt_of {w : Cond} (h : w ∈ lw_tbl) (g : isNest w = true) : w ∈ NT := List.mem_filter.mpr ⟨h, g⟩
theorem tb_good : GoodIn TB TB := fun w h => ⟨h, good_of_word (List.mem_filter.mp h).2⟩
theorem nt_warm {s U : State} (hW : s.WarmedH U.vm) (h : ∀ w ∈ NT, va_Nw w s) : ∀ w ∈ NT, va_Nw w U := by
  intro w hw
  have h1 := h w hw
  have h2 := (List.mem_filter.mp hw).2
  cases w <;> first | exact va_Nw.warmF hW h1 | exact va_Nw.warmM hW h1 | (simp [isNest] at h2)
theorem nt_tab {w : Cond} (hw : w ∈ NT) : w.onTables = true := by
  have h2 := (List.mem_filter.mp hw).2
  cases w <;> first | rfl | (simp [isNest] at h2)
/-! ===== the memory: what each cell holds, by its number ===== -/
abbrev Mem : Type := (Nat → Nat → Int32) × (Nat → Nat → Int64)
def setI (σ : Mem) (c k : Nat) (v : Int32) : Mem := (fun x => if x = c then upd (σ.1 c) k v else σ.1 x, σ.2)
def setJ (σ : Mem) (c k : Nat) (v : Int64) : Mem := (σ.1, fun x => if x = c then vp_updL (σ.2 c) k v else σ.2 x)
/-- the number of a class of an object; the kind (0 int, 1 long, 2 byte, 3 boolean) and length of an array -/
def shp : Nat → Nat ⊕ (Nat × Nat) := fun c => SHAPES.getD c (.inr (0, 0))
def fkd : Nat → Nat → Nat := fun ci k => (KINDS.getD ci []).getD k 9
def nfd : Nat → Nat := fun ci => (KINDS.getD ci []).length
def rfc : Nat → Nat → Nat := fun c k => (REFS.getD c []).getD k 99
/-- launch, class tables, addresses, array classes, what else holds of a state outside some cells -/
abbrev GG : Type := Launch × va_G × (Nat → Nat) × (Nat → ClassId) × ((Nat → Prop) → State → Prop)
abbrev gl (G : GG) : Launch := G.1
abbrev gD (G : GG) : va_G := G.2.1
abbrev ga (G : GG) : Nat → Nat := G.2.2.1
abbrev gc (G : GG) : Nat → ClassId := G.2.2.2.1
abbrev gm (G : GG) : (Nat → Prop) → State → Prop := G.2.2.2.2
def fldV (G : GG) (σ : Mem) (c ci k : Nat) : Value := match fkd ci k with
  | 0 => .int (σ.1 c k)
  | 1 => .long (σ.2 c k)
  | 3 => .int (σ.1 c k)
  | _ => .ref (ga G (rfc c k))
def cont (G : GG) (σ : Mem) (c : Nat) : va_E := match shp c with
  | .inl ci => .inr (ci, (List.range (nfd ci)).map (fldV G σ c ci))
  | .inr (ty, n) => .inl (gc G ty, n, if ty = 1 then .inr (.inl (σ.2 c)) else .inl (σ.1 c))
def wl (G : GG) (σ : Mem) : va_W := (List.range KC).map (fun c => (ga G c, cont G σ c))
def tyl (G : GG) : List (ClassId × FieldType) := [(gc G 0, .int), (gc G 1, .long), (gc G 2, .byte), (gc G 3, .boolean)]
def AK (G : GG) : Nat → Prop := fun q => ∃ c, c < KC ∧ ga G c = q
def Wok (G : GG) : Prop := (∀ i j, i < KC → j < KC → ga G i = ga G j → i = j) ∧ (∀ (A : Nat → Prop) (s U : State), (∀ q, AK G q → A q) → gm G A s → s.WarmedH U.vm → s.heap.size ≤ U.heap.size → (∀ q : Nat, q < s.heap.size → ¬ A q → U.heap[q]? = s.heap[q]?) → gm G (AK G) U) ∧ (∀ (A : Nat → Prop) (s U : State), U.vm = s.vm → U.heap = s.heap → gm G A s → gm G A U)
theorem wl_at (G : GG) (σ : Mem) {c : Nat} (h : c < KC) : (wl G σ)[c]? = some (ga G c, cont G σ c) := by
  simp [wl, h]
theorem wl_len (G : GG) (σ : Mem) : (wl G σ).length = KC := by simp [wl]
theorem wl_obj (G : GG) (σ : Mem) {c ci : Nat} (h : c < KC) (hs : shp c = .inl ci) : (wl G σ)[c]? = some (ga G c, .inr (ci, (List.range (nfd ci)).map (fldV G σ c ci))) := by
  rw [wl_at G σ h]; simp only [cont, hs]
theorem wl_arrI (G : GG) (σ : Mem) {c ty n : Nat} (h : c < KC) (hs : shp c = .inr (ty, n)) (ht : ty ≠ 1) : (wl G σ)[c]? = some (ga G c, .inl (gc G ty, n, .inl (σ.1 c))) := by
  rw [wl_at G σ h]; simp only [cont, hs, if_neg ht]
theorem wl_arrJ (G : GG) (σ : Mem) {c n : Nat} (h : c < KC) (hs : shp c = .inr (1, n)) : (wl G σ)[c]? = some (ga G c, .inl (gc G 1, n, .inr (.inl (σ.2 c)))) := by
  rw [wl_at G σ h]; simp only [cont, hs, if_true]
theorem wl_D (G : GG) (σ : Mem) (hG : ∀ i j, i < KC → j < KC → ga G i = ga G j → i = j) {A : Nat → Prop} (hA : ∀ q, AK G q → A q) : va_D A (wl G σ) := by
  have key : ∀ (k : Nat) (q : Nat × va_E), (wl G σ)[k]? = some q → k < KC ∧ q.1 = ga G k := by
    intro k q hk
    have hl : k < KC := by
      have := (List.getElem?_eq_some_iff.mp hk).1
      rwa [wl_len] at this
    rw [wl_at G σ hl] at hk
    cases hk
    exact ⟨hl, rfl⟩
  refine ⟨fun i j p q hi hj e => ?_, fun k q hk => ?_⟩
  · obtain ⟨h1, h2⟩ := key i p hi
    obtain ⟨h3, h4⟩ := key j q hj
    exact hG i j h1 h3 (by rw [← h2, ← h4]; exact e)
  · obtain ⟨h1, h2⟩ := key k q hk
    exact hA _ ⟨k, h1, h2.symm⟩
theorem wl_set (G : GG) (σ σ' : Mem) {c : Nat} (x : va_E) (h : c < KC) (hx : cont G σ' c = x) (ho : ∀ j, j ≠ c → cont G σ' j = cont G σ j) : (wl G σ).set c (ga G c, x) = wl G σ' := by
  apply List.ext_getElem?
  intro j
  by_cases hj : j < KC
  · rw [wl_at G σ' hj]
    by_cases e : c = j
    · subst e
      rw [List.getElem?_set_self (by rw [wl_len]; exact h), hx]
    · rw [List.getElem?_set_ne e, wl_at G σ hj, ho j (fun q => e q.symm)]
  · rw [List.getElem?_eq_none (by rw [List.length_set, wl_len]; omega), List.getElem?_eq_none (by rw [wl_len]; omega)]
theorem cont_setI_ne (G : GG) (σ : Mem) {c j : Nat} (k : Nat) (v : Int32) (h : j ≠ c) : cont G (setI σ c k v) j = cont G σ j := by
  have e1 : (setI σ c k v).1 j = σ.1 j := if_neg h
  have e2 : (setI σ c k v).2 j = σ.2 j := rfl
  unfold cont
  cases shp j with
  | inl ci =>
    have : fldV G (setI σ c k v) j ci = fldV G σ j ci := by
      funext x
      unfold fldV
      split <;> simp [e1, e2]
    simp only [this]
  | inr q => simp only [e1, e2]
theorem cont_setJ_ne (G : GG) (σ : Mem) {c j : Nat} (k : Nat) (v : Int64) (h : j ≠ c) : cont G (setJ σ c k v) j = cont G σ j := by
  have e1 : (setJ σ c k v).2 j = σ.2 j := if_neg h
  have e2 : (setJ σ c k v).1 j = σ.1 j := rfl
  unfold cont
  cases shp j with
  | inl ci =>
    have : fldV G (setJ σ c k v) j ci = fldV G σ j ci := by
      funext x
      unfold fldV
      split <;> simp [e1, e2]
    simp only [this]
  | inr q => simp only [e1, e2]
theorem cont_setI_f (G : GG) (σ : Mem) {c ci k : Nat} (v : Int32) (hs : shp c = .inl ci) (hk : k < nfd ci) (hd : fkd ci k = 0 ∨ fkd ci k = 3) : cont G (setI σ c k v) c = .inr (ci, ((List.range (nfd ci)).map (fldV G σ c ci)).set k (.int v)) := by
  simp only [cont, hs]
  congr 2
  apply List.ext_getElem?
  intro j
  by_cases e : k = j
  · subst e
    rw [List.getElem?_set_self (by simpa using hk)]
    simp only [List.getElem?_map, List.getElem?_range hk, Option.map_some]
    rcases hd with h | h <;> simp [fldV, h, setI, upd]
  · rw [List.getElem?_set_ne e]
    simp only [List.getElem?_map]
    by_cases hj : j < nfd ci
    · simp only [List.getElem?_range hj, Option.map_some]
      have : (setI σ c k v).1 c j = σ.1 c j := by simp [setI, upd, Ne.symm e]
      unfold fldV
      split <;> first | rfl | (simp only [this])
    · rw [List.getElem?_eq_none (by simpa using hj)]; rfl
theorem cont_setJ_f (G : GG) (σ : Mem) {c ci k : Nat} (v : Int64) (hs : shp c = .inl ci) (hk : k < nfd ci) (hd : fkd ci k = 1) : cont G (setJ σ c k v) c = .inr (ci, ((List.range (nfd ci)).map (fldV G σ c ci)).set k (.long v)) := by
  simp only [cont, hs]
  congr 2
  apply List.ext_getElem?
  intro j
  by_cases e : k = j
  · subst e
    rw [List.getElem?_set_self (by simpa using hk)]
    simp only [List.getElem?_map, List.getElem?_range hk, Option.map_some]
    simp [fldV, hd, setJ, vp_updL]
  · rw [List.getElem?_set_ne e]
    simp only [List.getElem?_map]
    by_cases hj : j < nfd ci
    · simp only [List.getElem?_range hj, Option.map_some]
      have : (setJ σ c k v).2 c j = σ.2 c j := by simp [setJ, vp_updL, Ne.symm e]
      unfold fldV
      split <;> first | rfl | (simp only [this])
    · rw [List.getElem?_eq_none (by simpa using hj)]; rfl
theorem cont_setI_a (G : GG) (σ : Mem) {c ty n : Nat} (k : Nat) (v : Int32) (hs : shp c = .inr (ty, n)) (ht : ty ≠ 1) : cont G (setI σ c k v) c = .inl (gc G ty, n, .inl (upd (σ.1 c) k v)) := by
  simp [cont, hs, if_neg ht, setI]
theorem cont_setJ_a (G : GG) (σ : Mem) {c n : Nat} (k : Nat) (v : Int64) (hs : shp c = .inr (1, n)) : cont G (setJ σ c k v) c = .inl (gc G 1, n, .inr (.inl (vp_updL (σ.2 c) k v))) := by
  simp [cont, hs, setJ]
end
section
/-! ===== values, locals ===== -/
def cv (G : GG) : Value → Value
  | .ref k => .ref (ga G k)
  | v => v
theorem cv_cat (G : GG) (v : Value) : (cv G v).category = v.category := by cases v <;> rfl
def lgt : List (Option Value) → Nat → Option Value
  | [], _ => none
  | a :: _, 0 => a
  | _ :: l, n + 1 => lgt l n
def klg : Option Value → Option Value
  | some (.long _) => none
  | some (.double _) => none
  | x => x
def ls1 : List (Option Value) → Nat → Value → List (Option Value)
  | [], _, _ => []
  | _ :: l, 0, v => some v :: l
  | a :: l, 1, v => klg a :: ls1 l 0 v
  | a :: l, n + 2, v => a :: ls1 l (n + 1) v
def ls2 : List (Option Value) → Nat → Value → List (Option Value)
  | a :: b :: l, 0, v => some v :: none :: l
  | a :: l, 1, v => klg a :: ls2 l 0 v
  | a :: l, n + 2, v => a :: ls2 l (n + 1) v
  | l, _, _ => l
theorem ls1_len : ∀ (L : List (Option Value)) (i : Nat) (v : Value), (ls1 L i v).length = L.length
  | [], _, _ => rfl
  | _ :: l, 0, v => rfl
  | a :: l, 1, v => by simp [ls1, ls1_len l 0 v]
  | a :: l, n + 2, v => by simp [ls1, ls1_len l (n + 1) v]
theorem ls2_len : ∀ (L : List (Option Value)) (i : Nat) (v : Value), (ls2 L i v).length = L.length
  | [], 0, _ => rfl
  | [], 1, _ => rfl
  | [], n + 2, _ => rfl
  | [a], 0, v => rfl
  | a :: b :: l, 0, v => rfl
  | a :: l, 1, v => by simp [ls2, ls2_len l 0 v]
  | a :: l, n + 2, v => by simp [ls2, ls2_len l (n + 1) v]
theorem lgt_out : ∀ (L : List (Option Value)) (i : Nat), L.length ≤ i → lgt L i = none
  | [], _, _ => rfl
  | a :: l, 0, h => by simp at h
  | a :: l, n + 1, h => lgt_out l n (by simpa using h)
theorem ls1_get : ∀ (L : List (Option Value)) (i : Nat) (v : Value) (j : Nat) (w : Value), lgt (ls1 L i v) j = some w → (j = i ∧ w = v) ∨ (j ≠ i ∧ lgt L j = some w ∧ ¬ (j + 1 = i ∧ w.category = 2))
  | [], _, _, _, _, h => by simp [ls1, lgt] at h
  | a :: l, 0, v, 0, w, h => by simp [ls1, lgt] at h; exact Or.inl ⟨rfl, h.symm⟩
  | a :: l, 0, v, j + 1, w, h => by
    simp only [ls1, lgt] at h ⊢
    exact Or.inr ⟨by omega, h, by omega⟩
  | a :: l, 1, v, 0, w, h => by
    simp only [ls1, lgt] at h ⊢
    refine Or.inr ⟨by omega, ?_, ?_⟩
    · cases a with
      | none => simp [klg] at h
      | some x => cases x <;> simp [klg] at h ⊢ <;> exact h
    · rintro ⟨-, hc⟩
      cases a with
      | none => simp [klg] at h
      | some x => cases x <;> simp [klg] at h <;> (subst h; simp [Value.category] at hc)
  | a :: l, 1, v, j + 1, w, h => by
    simp only [ls1, lgt] at h ⊢
    rcases ls1_get l 0 v j w h with ⟨h1, h2⟩ | ⟨h1, h2, h3⟩
    · exact Or.inl ⟨by omega, h2⟩
    · exact Or.inr ⟨by omega, h2, by omega⟩
  | a :: l, n + 2, v, 0, w, h => by
    simp only [ls1, lgt] at h ⊢
    exact Or.inr ⟨by omega, h, by omega⟩
  | a :: l, n + 2, v, j + 1, w, h => by
    simp only [ls1, lgt] at h ⊢
    rcases ls1_get l (n + 1) v j w h with ⟨h1, h2⟩ | ⟨h1, h2, h3⟩
    · exact Or.inl ⟨by omega, h2⟩
    · exact Or.inr ⟨by omega, h2, fun q => h3 ⟨by omega, q.2⟩⟩
theorem ls2_get : ∀ (L : List (Option Value)) (i : Nat) (v : Value) (j : Nat) (w : Value), i + 1 < L.length → lgt (ls2 L i v) j = some w → (j = i ∧ w = v) ∨ (j ≠ i ∧ j ≠ i + 1 ∧ lgt L j = some w ∧ ¬ (j + 1 = i ∧ w.category = 2))
  | [], _, _, _, _, hi, h => by simp at hi
  | [a], 0, _, _, _, hi, h => by simp at hi
  | a :: b :: l, 0, v, 0, w, hi, h => by simp [ls2, lgt] at h; exact Or.inl ⟨rfl, h.symm⟩
  | a :: b :: l, 0, v, 1, w, hi, h => by simp [ls2, lgt] at h
  | a :: b :: l, 0, v, j + 2, w, hi, h => by
    simp only [ls2, lgt] at h ⊢
    exact Or.inr ⟨by omega, by omega, h, by omega⟩
  | a :: l, 1, v, 0, w, hi, h => by
    simp only [ls2, lgt] at h ⊢
    refine Or.inr ⟨by omega, by omega, ?_, ?_⟩
    · cases a with
      | none => simp [klg] at h
      | some x => cases x <;> simp [klg] at h ⊢ <;> exact h
    · rintro ⟨-, hc⟩
      cases a with
      | none => simp [klg] at h
      | some x => cases x <;> simp [klg] at h <;> (subst h; simp [Value.category] at hc)
  | a :: l, 1, v, j + 1, w, hi, h => by
    simp only [ls2, lgt] at h ⊢
    rcases ls2_get l 0 v j w (by simp at hi ⊢; omega) h with ⟨h1, h2⟩ | ⟨h1, h2, h3, h4⟩
    · exact Or.inl ⟨by omega, h2⟩
    · exact Or.inr ⟨by omega, by omega, h3, by omega⟩
  | a :: l, n + 2, v, 0, w, hi, h => by
    simp only [ls2, lgt] at h ⊢
    exact Or.inr ⟨by omega, by omega, h, by omega⟩
  | a :: l, n + 2, v, j + 1, w, hi, h => by
    simp only [ls2, lgt] at h ⊢
    rcases ls2_get l (n + 1) v j w (by simp at hi ⊢; omega) h with ⟨h1, h2⟩ | ⟨h1, h2, h3, h4⟩
    · exact Or.inl ⟨by omega, h2⟩
    · exact Or.inr ⟨by omega, by omega, h3, fun q => h4 ⟨by omega, q.2⟩⟩
/-- the locals as pairs, from place k on -/
def lpr (G : GG) : Nat → List (Option Value) → List (Nat × Value)
  | _, [] => []
  | k, none :: l => lpr G (k + 1) l
  | k, some v :: l => (k, cv G v) :: lpr G (k + 1) l
theorem lpr_in (G : GG) : ∀ (L : List (Option Value)) (k i : Nat) (v : Value), lgt L i = some v → (k + i, cv G v) ∈ lpr G k L
  | [], _, _, _, h => by simp [lgt] at h
  | none :: l, k, 0, v, h => by simp [lgt] at h
  | some w :: l, k, 0, v, h => by simp [lgt] at h; subst h; simp [lpr]
  | none :: l, k, i + 1, v, h => by
    have := lpr_in G l (k + 1) i v h
    rw [show k + 1 + i = k + (i + 1) by omega] at this
    exact this
  | some w :: l, k, i + 1, v, h => by
    have := lpr_in G l (k + 1) i v h
    rw [show k + 1 + i = k + (i + 1) by omega] at this
    exact List.mem_cons_of_mem _ this
theorem lpr_out (G : GG) : ∀ (L : List (Option Value)) (k : Nat) (q : Nat × Value), q ∈ lpr G k L → ∃ (i : Nat) (v : Value), q = (k + i, cv G v) ∧ lgt L i = some v
  | [], _, _, h => by simp [lpr] at h
  | none :: l, k, q, h => by
    obtain ⟨i, v, h1, h2⟩ := lpr_out G l (k + 1) q h
    exact ⟨i + 1, v, by rw [h1]; congr 1; omega, h2⟩
  | some w :: l, k, q, h => by
    rcases List.mem_cons.mp h with h | h
    · exact ⟨0, w, h, rfl⟩
    · obtain ⟨i, v, h1, h2⟩ := lpr_out G l (k + 1) q h
      exact ⟨i + 1, v, by rw [h1]; congr 1; omega, h2⟩
def lvr (G : GG) (ls : Array Slot) (n : Nat) (L : List (Option Value)) : Prop := L.length = n ∧ lv_has ls n (lpr G 0 L)
theorem lvr_at {G : GG} {ls : Array Slot} {n : Nat} {L : List (Option Value)} (h : lvr G ls n L) {i : Nat} {v : Value} (hv : lgt L i = some v) : ls[i]? = some (.val (cv G v)) := by
  have := lpr_in G L 0 i v hv
  rw [Nat.zero_add] at this
  exact h.2.2.2 _ this
theorem lvr_lt {L : List (Option Value)} {i : Nat} {v : Value} (hv : lgt L i = some v) : i < L.length := by
  rcases Nat.lt_or_ge i L.length with h | h
  · exact h
  · rw [lgt_out L i h] at hv; cases hv
theorem lvr_of1 {G : GG} {ls' : Array Slot} {n : Nat} {L : List (Option Value)} {i : Nat} {v : Value} (h0 : L.length = n) (h : lv_has ls' n ((i, cv G v) :: (lpr G 0 L).filter (fun q => !(q.1 == i) && !(q.1 + 1 == i && q.2.category == 2)))) : lvr G ls' n (ls1 L i v) := by
  refine ⟨by rw [ls1_len]; exact h0, h.1, h.2.1, fun q hq => h.2.2 q ?_⟩
  obtain ⟨j, w, rfl, hw⟩ := lpr_out G _ _ _ hq
  simp only [Nat.zero_add] at *
  rcases ls1_get L i v j w hw with ⟨rfl, rfl⟩ | ⟨a1, a2, a3⟩
  · exact List.mem_cons_self
  · refine List.mem_cons_of_mem _ (List.mem_filter.mpr ⟨?_, ?_⟩)
    · have := lpr_in G L 0 j w a2
      rwa [Nat.zero_add] at this
    · simp only [cv_cat]
      simp [a1]
      exact Decidable.not_and_iff_or_not.mp a3
theorem lvr_of2 {G : GG} {ls' : Array Slot} {n : Nat} {L : List (Option Value)} {i : Nat} {v : Value} (h0 : L.length = n) (hi : i + 1 < L.length) (h : lv_has ls' n ((i, cv G v) :: (lpr G 0 L).filter (fun q => !(q.1 == i) && (!(q.1 == i + 1) && !(q.1 + 1 == i && q.2.category == 2))))) : lvr G ls' n (ls2 L i v) := by
  refine ⟨by rw [ls2_len]; exact h0, h.1, h.2.1, fun q hq => h.2.2 q ?_⟩
  obtain ⟨j, w, rfl, hw⟩ := lpr_out G _ _ _ hq
  simp only [Nat.zero_add] at *
  rcases ls2_get L i v j w hi hw with ⟨rfl, rfl⟩ | ⟨a1, a2, a3, a4⟩
  · exact List.mem_cons_self
  · refine List.mem_cons_of_mem _ (List.mem_filter.mpr ⟨?_, ?_⟩)
    · have := lpr_in G L 0 j w a3
      rwa [Nat.zero_add] at this
    · simp only [cv_cat]
      simp [a1, a2]
      exact Decidable.not_and_iff_or_not.mp a4
/-- a method's locals as it begins -/
def ent : Nat → List Value → List (Option Value)
  | n, [] => List.replicate n none
  | n, .long v :: vs => some (.long v) :: none :: ent (n - 2) vs
  | n, .double v :: vs => some (.double v) :: none :: ent (n - 2) vs
  | n, v :: vs => some v :: ent (n - 1) vs
def wds (vs : List Value) : Nat := (vs.map Value.category).sum
theorem ent_len : ∀ (n : Nat) (vs : List Value), wds vs ≤ n → (ent n vs).length = n
  | n, [], _ => by simp [ent]
  | n, v :: vs, h => by
    have hw : wds (v :: vs) = v.category + wds vs := by simp [wds]
    rw [hw] at h
    cases v <;> simp only [Value.category] at h <;> simp only [ent, List.length_cons] <;> rw [ent_len _ vs (by omega)] <;> omega
theorem ent_in (G : GG) : ∀ (vs : List Value) (n k i : Nat) (v : Value), lgt (ent n vs) i = some v → (k + i, cv G v) ∈ lv_args k (vs.map (cv G))
  | [], n, k, i, v, h => by
    exfalso
    have : ∀ (n i : Nat), lgt (List.replicate n none) i = none := by
      intro n
      induction n with
      | zero => intro i; rfl
      | succ n ih => intro i; cases i with
        | zero => rfl
        | succ i => exact ih i
    simp [ent, this] at h
  | w :: vs, n, k, i, v, h => by
    have two : (∃ m, ent n (w :: vs) = some w :: none :: ent m vs ∧ w.category = 2) ∨ (∃ m, ent n (w :: vs) = some w :: ent m vs ∧ w.category = 1) := by
      cases w <;> first | exact Or.inl ⟨_, rfl, rfl⟩ | exact Or.inr ⟨_, rfl, rfl⟩
    rcases two with ⟨m, e, hc⟩ | ⟨m, e, hc⟩
    · rw [e] at h
      simp only [List.map_cons, lv_args, cv_cat, hc, if_true]
      cases i with
      | zero => simp [lgt] at h; subst h; simp
      | succ i => cases i with
        | zero => simp [lgt] at h
        | succ i =>
          have := ent_in G vs m (k + 2) i v h
          rw [show k + 2 + i = k + (i + 1 + 1) by omega] at this
          exact List.mem_cons_of_mem _ this
    · rw [e] at h
      simp only [List.map_cons, lv_args, cv_cat, hc]
      cases i with
      | zero => simp [lgt] at h; subst h; simp
      | succ i =>
        have := ent_in G vs m (k + 1) i v h
        rw [show k + 1 + i = k + (i + 1) by omega] at this
        exact List.mem_cons_of_mem _ this
theorem sl_len (G : GG) (vs : List Value) : (lg_sl (vs.map (cv G))).length = wds vs := by
  induction vs with
  | nil => rfl
  | cons v vs ih =>
    have : lg_sl ((v :: vs).map (cv G)) = (if (cv G v).category = 2 then [.val (cv G v), .second] else [.val (cv G v)]) ++ lg_sl (vs.map (cv G)) := rfl
    rw [this, List.length_append, ih, cv_cat]
    simp only [wds, List.map_cons, List.sum_cons]
    rcases lv_cat v with h | h <;> simp [h]
theorem ent_ok (G : GG) {n : Nat} {vs : List Value} (h : wds vs ≤ n) : lvr G ((lg_sl (vs.map (cv G)) ++ List.replicate (n - (lg_sl (vs.map (cv G))).length) Slot.unset).toArray) n (ent n vs) := by
  have h1 := lv_entry (vs.map (cv G)) (n := n) (by rw [sl_len]; exact h)
  refine ⟨ent_len n vs h, h1.1, h1.2.1, fun q hq => h1.2.2 q ?_⟩
  obtain ⟨j, w, rfl, hw⟩ := lpr_out G _ _ _ hq
  exact ent_in G vs n 0 j w hw
end
section
/-! ===== the judgement: from here on the method runs to its end, with Q of its answer and of the memory ===== -/
abbrev MM : Type := ByteArray × MethodName × String × Nat × Option FieldType
def Cx (G : GG) (M : MM) (p : Program) (s : State) (m : MethodId) (args : Array Value) (meth : Method) (c : Code) (A : Nat → Prop) : Prop :=
  Wok G ∧ p.tables.exec = Jvm.exec ∧ c.code = M.1 ∧ c.maxLocals = M.2.2.2.1 ∧ s.vm.findClass M.2.2.1 = some m.cls ∧ (∀ w ∈ TB, w.before args s = true) ∧ (∀ w ∈ NT, va_Nw w s) ∧ va_K (gD G) vwCl (tyl G) s ∧ gm G A s ∧ (∀ q, AK G q → A q) ∧ meth.sig.returnType = M.2.2.2.2 ∧ meth.locks = false
/-- pc is a return of M that gives r -/
def retD (M : MM) (pc : Nat) : Option Value → Prop
  | none => decode M.1 pc = .ok (.return_, 1) ∧ M.2.2.2.2 = none
  | some (.int v) => decode M.1 pc = .ok (.ireturn, 1) ∧ ∃ ty, M.2.2.2.2 = some ty ∧ narrow ty (.int v) = .int v
  | some (.long _) => decode M.1 pc = .ok (.lreturn, 1) ∧ M.2.2.2.2 = some .long
  | _ => False
def SW (G : GG) (d : Nat) (M : MM) (pc : Nat) (L : List (Option Value)) (S : List Value) (σ : Mem) (Q : Option Value → Mem → Prop) : Prop :=
  ∀ (p : Program) (e : Env) (R : Room) (s : State) (m : MethodId) (args : Array Value) (below : List Frame) (meth : Method) (c : Code) (H : Heap) (locs : List Loc) (cells slots : Nat) (A : Nat → Prop) (Z : State → Prop) (ls : Array Slot),
    Cx G M p s m args meth c A → (d ≤ R.frames ∧ 31 * d ≤ R.locals ∧ cells ≤ R.cells ∧ slots ≤ R.slots) → va_P (gD G) vwCl (wl G σ) H → va_S A s.heap H locs → lvr G ls M.2.2.2.1 L →
    (∀ (r : Option Value) (σ' : Mem) (H' : Heap) (locs' : List Loc) (pc' : Nat) (ls' : Array Slot), Q r σ' → va_P (gD G) vwCl (wl G σ') H' → va_S A s.heap H' locs' → retD M pc' r → W p (gl G) e R s m args below meth c H' locs' cells slots Z (F0 m pc' ls' (r.toList.map (cv G)))) →
    W p (gl G) e R s m args below meth c H locs cells slots Z (F0 m pc ls (S.map (cv G)))
def cellA (c ty n : Nat) : Prop := c < KC ∧ shp c = .inr (ty, n)
def cellO (c ci : Nat) : Prop := c < KC ∧ shp c = .inl ci
section SWR
variable {G : GG} {d : Nat} {M : MM} {pc : Nat} {L : List (Option Value)} {S : List Value} {σ : Mem} {Q : Option Value → Mem → Prop}
theorem sw_iconst {n : Int} (hd : decode M.1 pc = .ok (.iconst n, 1))  (k : SW G d M (pc + 1) L (.int (Int32.ofInt n) :: S) σ Q) : SW G d M pc L (S) σ Q := by
  intro p e R s m args below meth c H locs cells slots A Z ls C hR hP hS hl hr
  exact lv_iconst C.2.1 C.2.2.1 hd rfl (k p e R s m args below meth c H locs cells slots A Z ls C hR hP hS hl hr)
theorem sw_bipush {n : Int} (hd : decode M.1 pc = .ok (.bipush n, 2))  (k : SW G d M (pc + 2) L (.int (Int8.ofInt n).toInt32 :: S) σ Q) : SW G d M pc L (S) σ Q := by
  intro p e R s m args below meth c H locs cells slots A Z ls C hR hP hS hl hr
  exact lv_bipush C.2.1 C.2.2.1 hd rfl (k p e R s m args below meth c H locs cells slots A Z ls C hR hP hS hl hr)
theorem sw_sipush {n : Int} (hd : decode M.1 pc = .ok (.sipush n, 3))  (k : SW G d M (pc + 3) L (.int (Int16.ofInt n).toInt32 :: S) σ Q) : SW G d M pc L (S) σ Q := by
  intro p e R s m args below meth c H locs cells slots A Z ls C hR hP hS hl hr
  exact lv_sipush C.2.1 C.2.2.1 hd rfl (k p e R s m args below meth c H locs cells slots A Z ls C hR hP hS hl hr)
theorem sw_lconst {n : Fin 2} (hd : decode M.1 pc = .ok (.lconst n, 1))  (k : SW G d M (pc + 1) L (.long (Int64.ofNat (n : Nat)) :: S) σ Q) : SW G d M pc L (S) σ Q := by
  intro p e R s m args below meth c H locs cells slots A Z ls C hR hP hS hl hr
  exact lv_lconst C.2.1 C.2.2.1 hd rfl (k p e R s m args below meth c H locs cells slots A Z ls C hR hP hS hl hr)
theorem sw_ldc2 {i : Nat} {v : Int64} (hd : decode M.1 pc = .ok (.ldc2_w i, 3)) (hc : Cond.constantLong M.2.2.1 i v ∈ TB) (k : SW G d M (pc + 3) L (.long v :: S) σ Q) : SW G d M pc L (S) σ Q := by
  intro p e R s m args below meth c H locs cells slots A Z ls C hR hP hS hl hr
  exact lv_ldc2 C.2.1 C.2.2.1 C.2.2.2.2.1 (C.2.2.2.2.2.1 _ hc) hd (k p e R s m args below meth c H locs cells slots A Z ls C hR hP hS hl hr)
theorem sw_iload {i : Nat} {x : Int32} (hd : decode M.1 pc = .ok (.iload i, 2)) (hv : lgt L i = some (.int x)) (k : SW G d M (pc + 2) L (.int x :: S) σ Q) : SW G d M pc L (S) σ Q := by
  intro p e R s m args below meth c H locs cells slots A Z ls C hR hP hS hl hr
  exact lv_iload C.2.1 C.2.2.1 hd (lvr_at hl hv) (k p e R s m args below meth c H locs cells slots A Z ls C hR hP hS hl hr)
theorem sw_iloadn {i : Fin 4} {x : Int32} (hd : decode M.1 pc = .ok (.iload_n i, 1)) (hv : lgt L (i : Nat) = some (.int x)) (k : SW G d M (pc + 1) L (.int x :: S) σ Q) : SW G d M pc L (S) σ Q := by
  intro p e R s m args below meth c H locs cells slots A Z ls C hR hP hS hl hr
  exact lv_iload_n C.2.1 C.2.2.1 hd rfl (lvr_at hl hv) (k p e R s m args below meth c H locs cells slots A Z ls C hR hP hS hl hr)
theorem sw_lload {i : Nat} {x : Int64} (hd : decode M.1 pc = .ok (.lload i, 2)) (hv : lgt L i = some (.long x)) (k : SW G d M (pc + 2) L (.long x :: S) σ Q) : SW G d M pc L (S) σ Q := by
  intro p e R s m args below meth c H locs cells slots A Z ls C hR hP hS hl hr
  exact lv_lload C.2.1 C.2.2.1 hd (lvr_at hl hv) (k p e R s m args below meth c H locs cells slots A Z ls C hR hP hS hl hr)
theorem sw_lloadn {i : Fin 4} {x : Int64} (hd : decode M.1 pc = .ok (.lload_n i, 1)) (hv : lgt L (i : Nat) = some (.long x)) (k : SW G d M (pc + 1) L (.long x :: S) σ Q) : SW G d M pc L (S) σ Q := by
  intro p e R s m args below meth c H locs cells slots A Z ls C hR hP hS hl hr
  exact lv_lload_n C.2.1 C.2.2.1 hd rfl (lvr_at hl hv) (k p e R s m args below meth c H locs cells slots A Z ls C hR hP hS hl hr)
theorem sw_aload {i : Nat} {x : Nat} (hd : decode M.1 pc = .ok (.aload i, 2)) (hv : lgt L i = some (.ref x)) (k : SW G d M (pc + 2) L (.ref x :: S) σ Q) : SW G d M pc L (S) σ Q := by
  intro p e R s m args below meth c H locs cells slots A Z ls C hR hP hS hl hr
  exact lv_aload C.2.1 C.2.2.1 hd (lvr_at hl hv) (k p e R s m args below meth c H locs cells slots A Z ls C hR hP hS hl hr)
theorem sw_aloadn {i : Fin 4} {x : Nat} (hd : decode M.1 pc = .ok (.aload_n i, 1)) (hv : lgt L (i : Nat) = some (.ref x)) (k : SW G d M (pc + 1) L (.ref x :: S) σ Q) : SW G d M pc L (S) σ Q := by
  intro p e R s m args below meth c H locs cells slots A Z ls C hR hP hS hl hr
  exact lv_aload_n C.2.1 C.2.2.1 hd rfl (lvr_at hl hv) (k p e R s m args below meth c H locs cells slots A Z ls C hR hP hS hl hr)
theorem sw_istore {i : Nat} {x : Int32} (hd : decode M.1 pc = .ok (.istore i, 2)) (hi : i < L.length) (k : SW G d M (pc + 2) (ls1 L i (.int x)) S σ Q) : SW G d M pc L (.int x :: S) σ Q := by
  intro p e R s m args below meth c H locs cells slots A Z ls C hR hP hS hl hr
  refine lv_istore C.2.1 C.2.2.1 hd hl.2 (hl.1 ▸ hi) rfl (fun ls' hl' => ?_)
  exact k p e R s m args below meth c H locs cells slots A Z ls' C hR hP hS (lvr_of1 (v := .int x) hl.1  hl') hr
theorem sw_istoren {i : Fin 4} {x : Int32} (hd : decode M.1 pc = .ok (.istore_n i, 1)) (hi : (i : Nat) < L.length) (k : SW G d M (pc + 1) (ls1 L (i : Nat) (.int x)) S σ Q) : SW G d M pc L (.int x :: S) σ Q := by
  intro p e R s m args below meth c H locs cells slots A Z ls C hR hP hS hl hr
  refine lv_istore_n C.2.1 C.2.2.1 hd rfl hl.2 (hl.1 ▸ hi) rfl (fun ls' hl' => ?_)
  exact k p e R s m args below meth c H locs cells slots A Z ls' C hR hP hS (lvr_of1 (v := .int x) hl.1  hl') hr
theorem sw_lstore {i : Nat} {x : Int64} (hd : decode M.1 pc = .ok (.lstore i, 2)) (hi : i + 1 < L.length) (k : SW G d M (pc + 2) (ls2 L i (.long x)) S σ Q) : SW G d M pc L (.long x :: S) σ Q := by
  intro p e R s m args below meth c H locs cells slots A Z ls C hR hP hS hl hr
  refine lv_lstore C.2.1 C.2.2.1 hd hl.2 (hl.1 ▸ hi) rfl (fun ls' hl' => ?_)
  exact k p e R s m args below meth c H locs cells slots A Z ls' C hR hP hS (lvr_of2 (v := .long x) hl.1 hi hl') hr
theorem sw_lstoren {i : Fin 4} {x : Int64} (hd : decode M.1 pc = .ok (.lstore_n i, 1)) (hi : (i : Nat) + 1 < L.length) (k : SW G d M (pc + 1) (ls2 L (i : Nat) (.long x)) S σ Q) : SW G d M pc L (.long x :: S) σ Q := by
  intro p e R s m args below meth c H locs cells slots A Z ls C hR hP hS hl hr
  refine lv_lstore_n C.2.1 C.2.2.1 hd rfl hl.2 (hl.1 ▸ hi) rfl (fun ls' hl' => ?_)
  exact k p e R s m args below meth c H locs cells slots A Z ls' C hR hP hS (lvr_of2 (v := .long x) hl.1 hi hl') hr
theorem sw_astore {i : Nat} {x : Nat} (hd : decode M.1 pc = .ok (.astore i, 2)) (hi : i < L.length) (k : SW G d M (pc + 2) (ls1 L i (.ref x)) S σ Q) : SW G d M pc L (.ref x :: S) σ Q := by
  intro p e R s m args below meth c H locs cells slots A Z ls C hR hP hS hl hr
  refine lv_astore C.2.1 C.2.2.1 hd hl.2 (hl.1 ▸ hi) rfl (fun ls' hl' => ?_)
  exact k p e R s m args below meth c H locs cells slots A Z ls' C hR hP hS (lvr_of1 (v := .ref x) hl.1  hl') hr
theorem sw_astoren {i : Fin 4} {x : Nat} (hd : decode M.1 pc = .ok (.astore_n i, 1)) (hi : (i : Nat) < L.length) (k : SW G d M (pc + 1) (ls1 L (i : Nat) (.ref x)) S σ Q) : SW G d M pc L (.ref x :: S) σ Q := by
  intro p e R s m args below meth c H locs cells slots A Z ls C hR hP hS hl hr
  refine lv_astore_n C.2.1 C.2.2.1 hd rfl hl.2 (hl.1 ▸ hi) rfl (fun ls' hl' => ?_)
  exact k p e R s m args below meth c H locs cells slots A Z ls' C hR hP hS (lvr_of1 (v := .ref x) hl.1  hl') hr
theorem sw_iinc {i : Nat} {n : Int} {x : Int32} (hd : decode M.1 pc = .ok (.iinc i n, 3)) (hv : lgt L i = some (.int x)) (k : SW G d M (pc + 3) (ls1 L i (.int (x + Int32.ofInt n))) S σ Q) : SW G d M pc L S σ Q := by
  intro p e R s m args below meth c H locs cells slots A Z ls C hR hP hS hl hr
  have h1 := lpr_in G L 0 i _ hv
  rw [Nat.zero_add] at h1
  obtain ⟨j, hj⟩ := List.getElem?_of_mem h1
  refine lv_iinc (k := j) (x := x) C.2.1 C.2.2.1 hd hl.2 hj rfl (hl.1 ▸ lvr_lt hv) rfl (fun ls' hl' => ?_)
  exact k p e R s m args below meth c H locs cells slots A Z ls' C hR hP hS (lvr_of1 (v := .int (x + Int32.ofInt n)) hl.1 hl') hr
theorem sw_iadd {x y : Int32} (hd : decode M.1 pc = .ok (.iadd, 1))  (k : SW G d M (pc + 1) L (.int (x + y) :: S) σ Q) : SW G d M pc L (.int y :: .int x :: S) σ Q := by
  intro p e R s m args below meth c H locs cells slots A Z ls C hR hP hS hl hr
  exact lv_iadd C.2.1 C.2.2.1 hd (k p e R s m args below meth c H locs cells slots A Z ls C hR hP hS hl hr)
theorem sw_isub {x y : Int32} (hd : decode M.1 pc = .ok (.isub, 1))  (k : SW G d M (pc + 1) L (.int (x - y) :: S) σ Q) : SW G d M pc L (.int y :: .int x :: S) σ Q := by
  intro p e R s m args below meth c H locs cells slots A Z ls C hR hP hS hl hr
  exact lv_isub C.2.1 C.2.2.1 hd (k p e R s m args below meth c H locs cells slots A Z ls C hR hP hS hl hr)
theorem sw_imul {x y : Int32} (hd : decode M.1 pc = .ok (.imul, 1))  (k : SW G d M (pc + 1) L (.int (x * y) :: S) σ Q) : SW G d M pc L (.int y :: .int x :: S) σ Q := by
  intro p e R s m args below meth c H locs cells slots A Z ls C hR hP hS hl hr
  exact lv_imul C.2.1 C.2.2.1 hd (k p e R s m args below meth c H locs cells slots A Z ls C hR hP hS hl hr)
theorem sw_iand {x y : Int32} (hd : decode M.1 pc = .ok (.iand, 1))  (k : SW G d M (pc + 1) L (.int (x &&& y) :: S) σ Q) : SW G d M pc L (.int y :: .int x :: S) σ Q := by
  intro p e R s m args below meth c H locs cells slots A Z ls C hR hP hS hl hr
  exact lv_iand C.2.1 C.2.2.1 hd (k p e R s m args below meth c H locs cells slots A Z ls C hR hP hS hl hr)
theorem sw_ior {x y : Int32} (hd : decode M.1 pc = .ok (.ior, 1))  (k : SW G d M (pc + 1) L (.int (x ||| y) :: S) σ Q) : SW G d M pc L (.int y :: .int x :: S) σ Q := by
  intro p e R s m args below meth c H locs cells slots A Z ls C hR hP hS hl hr
  exact lv_ior C.2.1 C.2.2.1 hd (k p e R s m args below meth c H locs cells slots A Z ls C hR hP hS hl hr)
theorem sw_ixor {x y : Int32} (hd : decode M.1 pc = .ok (.ixor, 1))  (k : SW G d M (pc + 1) L (.int (x ^^^ y) :: S) σ Q) : SW G d M pc L (.int y :: .int x :: S) σ Q := by
  intro p e R s m args below meth c H locs cells slots A Z ls C hR hP hS hl hr
  exact lv_ixor C.2.1 C.2.2.1 hd (k p e R s m args below meth c H locs cells slots A Z ls C hR hP hS hl hr)
theorem sw_ladd {x y : Int64} (hd : decode M.1 pc = .ok (.ladd, 1))  (k : SW G d M (pc + 1) L (.long (x + y) :: S) σ Q) : SW G d M pc L (.long y :: .long x :: S) σ Q := by
  intro p e R s m args below meth c H locs cells slots A Z ls C hR hP hS hl hr
  exact lv_ladd C.2.1 C.2.2.1 hd (k p e R s m args below meth c H locs cells slots A Z ls C hR hP hS hl hr)
theorem sw_lsub {x y : Int64} (hd : decode M.1 pc = .ok (.lsub, 1))  (k : SW G d M (pc + 1) L (.long (x - y) :: S) σ Q) : SW G d M pc L (.long y :: .long x :: S) σ Q := by
  intro p e R s m args below meth c H locs cells slots A Z ls C hR hP hS hl hr
  exact lv_lsub C.2.1 C.2.2.1 hd (k p e R s m args below meth c H locs cells slots A Z ls C hR hP hS hl hr)
theorem sw_lmul {x y : Int64} (hd : decode M.1 pc = .ok (.lmul, 1))  (k : SW G d M (pc + 1) L (.long (x * y) :: S) σ Q) : SW G d M pc L (.long y :: .long x :: S) σ Q := by
  intro p e R s m args below meth c H locs cells slots A Z ls C hR hP hS hl hr
  exact lv_lmul C.2.1 C.2.2.1 hd (k p e R s m args below meth c H locs cells slots A Z ls C hR hP hS hl hr)
theorem sw_land {x y : Int64} (hd : decode M.1 pc = .ok (.land, 1))  (k : SW G d M (pc + 1) L (.long (x &&& y) :: S) σ Q) : SW G d M pc L (.long y :: .long x :: S) σ Q := by
  intro p e R s m args below meth c H locs cells slots A Z ls C hR hP hS hl hr
  exact lv_land C.2.1 C.2.2.1 hd (k p e R s m args below meth c H locs cells slots A Z ls C hR hP hS hl hr)
theorem sw_lor {x y : Int64} (hd : decode M.1 pc = .ok (.lor, 1))  (k : SW G d M (pc + 1) L (.long (x ||| y) :: S) σ Q) : SW G d M pc L (.long y :: .long x :: S) σ Q := by
  intro p e R s m args below meth c H locs cells slots A Z ls C hR hP hS hl hr
  exact lv_lor C.2.1 C.2.2.1 hd (k p e R s m args below meth c H locs cells slots A Z ls C hR hP hS hl hr)
theorem sw_lxor {x y : Int64} (hd : decode M.1 pc = .ok (.lxor, 1))  (k : SW G d M (pc + 1) L (.long (x ^^^ y) :: S) σ Q) : SW G d M pc L (.long y :: .long x :: S) σ Q := by
  intro p e R s m args below meth c H locs cells slots A Z ls C hR hP hS hl hr
  exact lv_lxor C.2.1 C.2.2.1 hd (k p e R s m args below meth c H locs cells slots A Z ls C hR hP hS hl hr)
theorem sw_idiv {x y : Int32} (hd : decode M.1 pc = .ok (.idiv, 1)) (hy : ¬ y = 0) (k : SW G d M (pc + 1) L (.int (x / y) :: S) σ Q) : SW G d M pc L (.int y :: .int x :: S) σ Q := by
  intro p e R s m args below meth c H locs cells slots A Z ls C hR hP hS hl hr
  exact lv_idiv C.2.1 C.2.2.1 hd hy (k p e R s m args below meth c H locs cells slots A Z ls C hR hP hS hl hr)
theorem sw_irem {x y : Int32} (hd : decode M.1 pc = .ok (.irem, 1)) (hy : ¬ y = 0) (k : SW G d M (pc + 1) L (.int (x - x / y * y) :: S) σ Q) : SW G d M pc L (.int y :: .int x :: S) σ Q := by
  intro p e R s m args below meth c H locs cells slots A Z ls C hR hP hS hl hr
  exact lv_irem C.2.1 C.2.2.1 hd hy (k p e R s m args below meth c H locs cells slots A Z ls C hR hP hS hl hr)
theorem sw_ineg {x : Int32} (hd : decode M.1 pc = .ok (.ineg, 1))  (k : SW G d M (pc + 1) L (.int (-x) :: S) σ Q) : SW G d M pc L (.int x :: S) σ Q := by
  intro p e R s m args below meth c H locs cells slots A Z ls C hR hP hS hl hr
  exact lv_ineg C.2.1 C.2.2.1 hd (k p e R s m args below meth c H locs cells slots A Z ls C hR hP hS hl hr)
theorem sw_ishl {x y : Int32} (hd : decode M.1 pc = .ok (.ishl, 1))  (k : SW G d M (pc + 1) L (.int (x <<< (y &&& 31)) :: S) σ Q) : SW G d M pc L (.int y :: .int x :: S) σ Q := by
  intro p e R s m args below meth c H locs cells slots A Z ls C hR hP hS hl hr
  exact lv_ishl C.2.1 C.2.2.1 hd (k p e R s m args below meth c H locs cells slots A Z ls C hR hP hS hl hr)
theorem sw_ishr {x y : Int32} (hd : decode M.1 pc = .ok (.ishr, 1))  (k : SW G d M (pc + 1) L (.int (x >>> (y &&& 31)) :: S) σ Q) : SW G d M pc L (.int y :: .int x :: S) σ Q := by
  intro p e R s m args below meth c H locs cells slots A Z ls C hR hP hS hl hr
  exact lv_ishr C.2.1 C.2.2.1 hd (k p e R s m args below meth c H locs cells slots A Z ls C hR hP hS hl hr)
theorem sw_iushr {x y : Int32} (hd : decode M.1 pc = .ok (.iushr, 1))  (k : SW G d M (pc + 1) L (.int (x.toUInt32 >>> (y.toUInt32 &&& Int32.toUInt32 31)).toInt32 :: S) σ Q) : SW G d M pc L (.int y :: .int x :: S) σ Q := by
  intro p e R s m args below meth c H locs cells slots A Z ls C hR hP hS hl hr
  exact lv_iushr C.2.1 C.2.2.1 hd rfl (k p e R s m args below meth c H locs cells slots A Z ls C hR hP hS hl hr)
theorem sw_lshl {x : Int64} {y : Int32} (hd : decode M.1 pc = .ok (.lshl, 1))  (k : SW G d M (pc + 1) L (.long (x <<< (y.toInt64 &&& 63)) :: S) σ Q) : SW G d M pc L (.int y :: .long x :: S) σ Q := by
  intro p e R s m args below meth c H locs cells slots A Z ls C hR hP hS hl hr
  exact lv_lshl C.2.1 C.2.2.1 hd rfl (k p e R s m args below meth c H locs cells slots A Z ls C hR hP hS hl hr)
theorem sw_lshr {x : Int64} {y : Int32} (hd : decode M.1 pc = .ok (.lshr, 1))  (k : SW G d M (pc + 1) L (.long (x >>> (y.toInt64 &&& 63)) :: S) σ Q) : SW G d M pc L (.int y :: .long x :: S) σ Q := by
  intro p e R s m args below meth c H locs cells slots A Z ls C hR hP hS hl hr
  exact lv_lshr C.2.1 C.2.2.1 hd rfl (k p e R s m args below meth c H locs cells slots A Z ls C hR hP hS hl hr)
theorem sw_lushr {x : Int64} {y : Int32} (hd : decode M.1 pc = .ok (.lushr, 1))  (k : SW G d M (pc + 1) L (.long (x.toUInt64 >>> (y.toInt64.toUInt64 &&& Int64.toUInt64 63)).toInt64 :: S) σ Q) : SW G d M pc L (.int y :: .long x :: S) σ Q := by
  intro p e R s m args below meth c H locs cells slots A Z ls C hR hP hS hl hr
  exact lv_lushr C.2.1 C.2.2.1 hd rfl (k p e R s m args below meth c H locs cells slots A Z ls C hR hP hS hl hr)
theorem sw_i2l {x : Int32} (hd : decode M.1 pc = .ok (.i2l, 1))  (k : SW G d M (pc + 1) L (.long x.toInt64 :: S) σ Q) : SW G d M pc L (.int x :: S) σ Q := by
  intro p e R s m args below meth c H locs cells slots A Z ls C hR hP hS hl hr
  exact lv_i2l C.2.1 C.2.2.1 hd rfl (k p e R s m args below meth c H locs cells slots A Z ls C hR hP hS hl hr)
theorem sw_l2i {x : Int64} (hd : decode M.1 pc = .ok (.l2i, 1))  (k : SW G d M (pc + 1) L (.int x.toInt32 :: S) σ Q) : SW G d M pc L (.long x :: S) σ Q := by
  intro p e R s m args below meth c H locs cells slots A Z ls C hR hP hS hl hr
  exact lv_l2i C.2.1 C.2.2.1 hd rfl (k p e R s m args below meth c H locs cells slots A Z ls C hR hP hS hl hr)
theorem sw_i2b {x : Int32} (hd : decode M.1 pc = .ok (.i2b, 1))  (k : SW G d M (pc + 1) L (.int x.toInt8.toInt32 :: S) σ Q) : SW G d M pc L (.int x :: S) σ Q := by
  intro p e R s m args below meth c H locs cells slots A Z ls C hR hP hS hl hr
  exact lv_i2b C.2.1 C.2.2.1 hd rfl (k p e R s m args below meth c H locs cells slots A Z ls C hR hP hS hl hr)
theorem sw_lcmp {x y : Int64} (hd : decode M.1 pc = .ok (.lcmp, 1))  (k : SW G d M (pc + 1) L (.int (lg_cmp x y) :: S) σ Q) : SW G d M pc L (.long y :: .long x :: S) σ Q := by
  intro p e R s m args below meth c H locs cells slots A Z ls C hR hP hS hl hr
  exact W.lcmp C.2.1 C.2.2.1 hd (k p e R s m args below meth c H locs cells slots A Z ls C hR hP hS hl hr)
theorem sw_dup {v : Value} (hd : decode M.1 pc = .ok (.dup, 1)) (hv : v.category = 1) (k : SW G d M (pc + 1) L (v :: v :: S) σ Q) : SW G d M pc L (v :: S) σ Q := by
  intro p e R s m args below meth c H locs cells slots A Z ls C hR hP hS hl hr
  exact lv_dup C.2.1 C.2.2.1 hd (by rw [cv_cat]; exact hv) (k p e R s m args below meth c H locs cells slots A Z ls C hR hP hS hl hr)
theorem sw_dup2 {v u : Value} (hd : decode M.1 pc = .ok (.dup2, 1)) (hv : v.category = 1) (hu : u.category = 1) (k : SW G d M (pc + 1) L (v :: u :: v :: u :: S) σ Q) : SW G d M pc L (v :: u :: S) σ Q := by
  intro p e R s m args below meth c H locs cells slots A Z ls C hR hP hS hl hr
  exact lv_dup2_11 C.2.1 C.2.2.1 hd (by rw [cv_cat]; exact hv) (by rw [cv_cat]; exact hu) (k p e R s m args below meth c H locs cells slots A Z ls C hR hP hS hl hr)
-- branches
theorem sw_if_eq {x : Int32} {off : Int} {tgt : Nat} (hd : decode M.1 pc = .ok (.ifCond .eq off, 3)) (ht : (pc : Int) + off = (tgt : Int)) (kt : x = 0 → SW G d M tgt L S σ Q) (kf : ¬ x = 0 → SW G d M (pc + 3) L S σ Q) : SW G d M pc L (.int x :: S) σ Q := by
  intro p e R s m args below meth c H locs cells slots A Z ls C hR hP hS hl hr
  exact lv_if_eq C.2.1 C.2.2.1 hd ht (fun h => (kt (by first | exact h | exact Decidable.byContradiction h | omega) p e R s m args below meth c H locs cells slots A Z ls C hR hP hS hl hr)) (fun h => (kf (by first | exact h | exact Decidable.byContradiction h | omega) p e R s m args below meth c H locs cells slots A Z ls C hR hP hS hl hr))
theorem sw_if_ne {x : Int32} {off : Int} {tgt : Nat} (hd : decode M.1 pc = .ok (.ifCond .ne off, 3)) (ht : (pc : Int) + off = (tgt : Int)) (kt : ¬ x = 0 → SW G d M tgt L S σ Q) (kf : x = 0 → SW G d M (pc + 3) L S σ Q) : SW G d M pc L (.int x :: S) σ Q := by
  intro p e R s m args below meth c H locs cells slots A Z ls C hR hP hS hl hr
  exact lv_if_ne C.2.1 C.2.2.1 hd ht (fun h => (kt (by first | exact h | exact Decidable.byContradiction h | omega) p e R s m args below meth c H locs cells slots A Z ls C hR hP hS hl hr)) (fun h => (kf (by first | exact h | exact Decidable.byContradiction h | omega) p e R s m args below meth c H locs cells slots A Z ls C hR hP hS hl hr))
theorem sw_if_lt {x : Int32} {off : Int} {tgt : Nat} (hd : decode M.1 pc = .ok (.ifCond .lt off, 3)) (ht : (pc : Int) + off = (tgt : Int)) (kt : x < 0 → SW G d M tgt L S σ Q) (kf : ¬ x < 0 → SW G d M (pc + 3) L S σ Q) : SW G d M pc L (.int x :: S) σ Q := by
  intro p e R s m args below meth c H locs cells slots A Z ls C hR hP hS hl hr
  exact lv_if_lt C.2.1 C.2.2.1 hd ht (fun h => (kt (by first | exact h | exact Decidable.byContradiction h | omega) p e R s m args below meth c H locs cells slots A Z ls C hR hP hS hl hr)) (fun h => (kf (by first | exact h | exact Decidable.byContradiction h | omega) p e R s m args below meth c H locs cells slots A Z ls C hR hP hS hl hr))
theorem sw_if_ge {x : Int32} {off : Int} {tgt : Nat} (hd : decode M.1 pc = .ok (.ifCond .ge off, 3)) (ht : (pc : Int) + off = (tgt : Int)) (kt : 0 ≤ x → SW G d M tgt L S σ Q) (kf : ¬ 0 ≤ x → SW G d M (pc + 3) L S σ Q) : SW G d M pc L (.int x :: S) σ Q := by
  intro p e R s m args below meth c H locs cells slots A Z ls C hR hP hS hl hr
  exact lv_if_ge C.2.1 C.2.2.1 hd ht (fun h => (kt (by first | exact h | exact Decidable.byContradiction h | omega) p e R s m args below meth c H locs cells slots A Z ls C hR hP hS hl hr)) (fun h => (kf (by first | exact h | exact Decidable.byContradiction h | omega) p e R s m args below meth c H locs cells slots A Z ls C hR hP hS hl hr))
theorem sw_if_gt {x : Int32} {off : Int} {tgt : Nat} (hd : decode M.1 pc = .ok (.ifCond .gt off, 3)) (ht : (pc : Int) + off = (tgt : Int)) (kt : 0 < x → SW G d M tgt L S σ Q) (kf : ¬ 0 < x → SW G d M (pc + 3) L S σ Q) : SW G d M pc L (.int x :: S) σ Q := by
  intro p e R s m args below meth c H locs cells slots A Z ls C hR hP hS hl hr
  exact lv_if_gt C.2.1 C.2.2.1 hd ht (fun h => (kt (by first | exact h | exact Decidable.byContradiction h | omega) p e R s m args below meth c H locs cells slots A Z ls C hR hP hS hl hr)) (fun h => (kf (by first | exact h | exact Decidable.byContradiction h | omega) p e R s m args below meth c H locs cells slots A Z ls C hR hP hS hl hr))
theorem sw_if_le {x : Int32} {off : Int} {tgt : Nat} (hd : decode M.1 pc = .ok (.ifCond .le off, 3)) (ht : (pc : Int) + off = (tgt : Int)) (kt : x ≤ 0 → SW G d M tgt L S σ Q) (kf : ¬ x ≤ 0 → SW G d M (pc + 3) L S σ Q) : SW G d M pc L (.int x :: S) σ Q := by
  intro p e R s m args below meth c H locs cells slots A Z ls C hR hP hS hl hr
  exact lv_if_le C.2.1 C.2.2.1 hd ht (fun h => (kt (by first | exact h | exact Decidable.byContradiction h | omega) p e R s m args below meth c H locs cells slots A Z ls C hR hP hS hl hr)) (fun h => (kf (by first | exact h | exact Decidable.byContradiction h | omega) p e R s m args below meth c H locs cells slots A Z ls C hR hP hS hl hr))
theorem sw_icmp_eq {x y : Int32} {off : Int} {tgt : Nat} (hd : decode M.1 pc = .ok (.if_icmp .eq off, 3)) (ht : (pc : Int) + off = (tgt : Int)) (kt : x = y → SW G d M tgt L S σ Q) (kf : ¬ x = y → SW G d M (pc + 3) L S σ Q) : SW G d M pc L (.int y :: .int x :: S) σ Q := by
  intro p e R s m args below meth c H locs cells slots A Z ls C hR hP hS hl hr
  exact lv_icmp_eq C.2.1 C.2.2.1 hd ht (fun h => (kt (by first | exact h | exact Decidable.byContradiction h | omega) p e R s m args below meth c H locs cells slots A Z ls C hR hP hS hl hr)) (fun h => (kf (by first | exact h | exact Decidable.byContradiction h | omega) p e R s m args below meth c H locs cells slots A Z ls C hR hP hS hl hr))
theorem sw_icmp_ne {x y : Int32} {off : Int} {tgt : Nat} (hd : decode M.1 pc = .ok (.if_icmp .ne off, 3)) (ht : (pc : Int) + off = (tgt : Int)) (kt : ¬ x = y → SW G d M tgt L S σ Q) (kf : x = y → SW G d M (pc + 3) L S σ Q) : SW G d M pc L (.int y :: .int x :: S) σ Q := by
  intro p e R s m args below meth c H locs cells slots A Z ls C hR hP hS hl hr
  exact lv_icmp_ne C.2.1 C.2.2.1 hd ht (fun h => (kt (by first | exact h | exact Decidable.byContradiction h | omega) p e R s m args below meth c H locs cells slots A Z ls C hR hP hS hl hr)) (fun h => (kf (by first | exact h | exact Decidable.byContradiction h | omega) p e R s m args below meth c H locs cells slots A Z ls C hR hP hS hl hr))
theorem sw_icmp_lt {x y : Int32} {off : Int} {tgt : Nat} (hd : decode M.1 pc = .ok (.if_icmp .lt off, 3)) (ht : (pc : Int) + off = (tgt : Int)) (kt : x < y → SW G d M tgt L S σ Q) (kf : ¬ x < y → SW G d M (pc + 3) L S σ Q) : SW G d M pc L (.int y :: .int x :: S) σ Q := by
  intro p e R s m args below meth c H locs cells slots A Z ls C hR hP hS hl hr
  exact lv_icmp_lt C.2.1 C.2.2.1 hd ht (fun h => (kt (by first | exact h | exact Decidable.byContradiction h | omega) p e R s m args below meth c H locs cells slots A Z ls C hR hP hS hl hr)) (fun h => (kf (by first | exact h | exact Decidable.byContradiction h | omega) p e R s m args below meth c H locs cells slots A Z ls C hR hP hS hl hr))
theorem sw_icmp_ge {x y : Int32} {off : Int} {tgt : Nat} (hd : decode M.1 pc = .ok (.if_icmp .ge off, 3)) (ht : (pc : Int) + off = (tgt : Int)) (kt : y ≤ x → SW G d M tgt L S σ Q) (kf : ¬ y ≤ x → SW G d M (pc + 3) L S σ Q) : SW G d M pc L (.int y :: .int x :: S) σ Q := by
  intro p e R s m args below meth c H locs cells slots A Z ls C hR hP hS hl hr
  exact lv_icmp_ge C.2.1 C.2.2.1 hd ht (fun h => (kt (by first | exact h | exact Decidable.byContradiction h | omega) p e R s m args below meth c H locs cells slots A Z ls C hR hP hS hl hr)) (fun h => (kf (by first | exact h | exact Decidable.byContradiction h | omega) p e R s m args below meth c H locs cells slots A Z ls C hR hP hS hl hr))
theorem sw_icmp_gt {x y : Int32} {off : Int} {tgt : Nat} (hd : decode M.1 pc = .ok (.if_icmp .gt off, 3)) (ht : (pc : Int) + off = (tgt : Int)) (kt : y < x → SW G d M tgt L S σ Q) (kf : ¬ y < x → SW G d M (pc + 3) L S σ Q) : SW G d M pc L (.int y :: .int x :: S) σ Q := by
  intro p e R s m args below meth c H locs cells slots A Z ls C hR hP hS hl hr
  exact lv_icmp_gt C.2.1 C.2.2.1 hd ht (fun h => (kt (by first | exact h | exact Decidable.byContradiction h | omega) p e R s m args below meth c H locs cells slots A Z ls C hR hP hS hl hr)) (fun h => (kf (by first | exact h | exact Decidable.byContradiction h | omega) p e R s m args below meth c H locs cells slots A Z ls C hR hP hS hl hr))
theorem sw_icmp_le {x y : Int32} {off : Int} {tgt : Nat} (hd : decode M.1 pc = .ok (.if_icmp .le off, 3)) (ht : (pc : Int) + off = (tgt : Int)) (kt : x ≤ y → SW G d M tgt L S σ Q) (kf : ¬ x ≤ y → SW G d M (pc + 3) L S σ Q) : SW G d M pc L (.int y :: .int x :: S) σ Q := by
  intro p e R s m args below meth c H locs cells slots A Z ls C hR hP hS hl hr
  exact lv_icmp_le C.2.1 C.2.2.1 hd ht (fun h => (kt (by first | exact h | exact Decidable.byContradiction h | omega) p e R s m args below meth c H locs cells slots A Z ls C hR hP hS hl hr)) (fun h => (kf (by first | exact h | exact Decidable.byContradiction h | omega) p e R s m args below meth c H locs cells slots A Z ls C hR hP hS hl hr))
theorem sw_goto {off : Int} {tgt : Nat} (hd : decode M.1 pc = .ok (.goto off, 3)) (ht : (pc : Int) + off = (tgt : Int)) (k : SW G d M tgt L S σ Q) : SW G d M pc L S σ Q := by
  intro p e R s m args below meth c H locs cells slots A Z ls C hR hP hS hl hr
  exact lv_goto C.2.1 C.2.2.1 hd ht (k p e R s m args below meth c H locs cells slots A Z ls C hR hP hS hl hr)
theorem sw_tabOut {dflt lo hi : Int} {offs : Array Int} {len : Nat} {x : Int32} {tgt : Nat} (hd : decode M.1 pc = .ok (.tableswitch dflt lo hi offs, len)) (h : x.toInt < lo ∨ hi < x.toInt) (ht : (pc : Int) + dflt = (tgt : Int)) (k : SW G d M tgt L S σ Q) : SW G d M pc L (.int x :: S) σ Q := by
  intro p e R s m args below meth c H locs cells slots A Z ls C hR hP hS hl hr
  exact lv_tableOut C.2.1 C.2.2.1 hd h ht (k p e R s m args below meth c H locs cells slots A Z ls C hR hP hS hl hr)
theorem sw_tabIn {dflt lo hi : Int} {offs : Array Int} {len : Nat} {x : Int32} {off : Int} {tgt : Nat} (hd : decode M.1 pc = .ok (.tableswitch dflt lo hi offs, len)) (h1 : ¬ x.toInt < lo) (h2 : ¬ hi < x.toInt) (ho : offs[(x.toInt - lo).toNat]? = some off) (ht : (pc : Int) + off = (tgt : Int)) (k : SW G d M tgt L S σ Q) : SW G d M pc L (.int x :: S) σ Q := by
  intro p e R s m args below meth c H locs cells slots A Z ls C hR hP hS hl hr
  exact lv_tableIn C.2.1 C.2.2.1 hd h1 h2 ho ht (k p e R s m args below meth c H locs cells slots A Z ls C hR hP hS hl hr)
theorem sw_lookup {dflt : Int} {ps : Array (Int × Int)} {len : Nat} {x : Int32} {off : Int} {tgt : Nat} (hd : decode M.1 pc = .ok (.lookupswitch dflt ps, len)) (hp : (ps.toList.zip (ps.toList.drop 1)).all (fun (a, next) => a.1 < next.1) = true) (ho : Op.lookupswitch.offset ps.toList dflt x.toInt = off) (ht : (pc : Int) + off = (tgt : Int)) (k : SW G d M tgt L S σ Q) : SW G d M pc L (.int x :: S) σ Q := by
  intro p e R s m args below meth c H locs cells slots A Z ls C hR hP hS hl hr
  exact lv_lookup C.2.1 C.2.2.1 hd hp ho ht (k p e R s m args below meth c H locs cells slots A Z ls C hR hP hS hl hr)
theorem sw_nmI {x : Int32} (k : ∀ y : Int32, y = x → SW G d M pc L (.int y :: S) σ Q) : SW G d M pc L (.int x :: S) σ Q := k x rfl
theorem sw_nmJ {x : Int64} (k : ∀ y : Int64, y = x → SW G d M pc L (.long y :: S) σ Q) : SW G d M pc L (.long x :: S) σ Q := k x rfl
theorem sw_topI {x y : Int32} (h : x = y) (k : SW G d M pc L (.int y :: S) σ Q) : SW G d M pc L (.int x :: S) σ Q := h ▸ k
theorem sw_topJ {x y : Int64} (h : x = y) (k : SW G d M pc L (.long y :: S) σ Q) : SW G d M pc L (.long x :: S) σ Q := h ▸ k
theorem sw_mem {σ' : Mem} (h : σ = σ') (k : SW G d M pc L S σ' Q) : SW G d M pc L S σ Q := h ▸ k
theorem sw_loc {L' : List (Option Value)} (h : L = L') (k : SW G d M pc L' S σ Q) : SW G d M pc L S σ Q := h ▸ k
theorem sw_mono {Q' : Option Value → Mem → Prop} (h : ∀ r σ', Q' r σ' → Q r σ') (k : SW G d M pc L S σ Q') : SW G d M pc L S σ Q := by
  intro p e R s m args below meth c H locs cells slots A Z ls C hR hP hS hl hr
  exact k p e R s m args below meth c H locs cells slots A Z ls C hR hP hS hl (fun r σ' H' locs' pc' ls' hq => hr r σ' H' locs' pc' ls' (h r σ' hq))
theorem sw_deep {d' : Nat} (h : d' ≤ d) (k : SW G d' M pc L S σ Q) : SW G d M pc L S σ Q := by
  intro p e R s m args below meth c H locs cells slots A Z ls C hR hP hS hl hr
  exact k p e R s m args below meth c H locs cells slots A Z ls C ⟨by omega, by omega, hR.2.2.1, hR.2.2.2⟩ hP hS hl hr
theorem sw_ret0 (hd : decode M.1 pc = .ok (.return_, 1)) (ht : M.2.2.2.2 = none) (h : Q none σ) : SW G d M pc L [] σ Q := by
  intro p e R s m args below meth c H locs cells slots A Z ls C hR hP hS hl hr
  exact hr none σ H locs pc ls h hP hS ⟨hd, ht⟩
theorem sw_reti {x : Int32} (hd : decode M.1 pc = .ok (.ireturn, 1)) (ht : M.2.2.2.2 = some .int) (h : Q (some (.int x)) σ) : SW G d M pc L [.int x] σ Q := by
  intro p e R s m args below meth c H locs cells slots A Z ls C hR hP hS hl hr
  exact hr (some (.int x)) σ H locs pc ls h hP hS ⟨hd, _, ht, rfl⟩
theorem sw_retz {x : Int32} (hd : decode M.1 pc = .ok (.ireturn, 1)) (ht : M.2.2.2.2 = some .boolean) (hx : x = 0 ∨ x = 1) (h : Q (some (.int x)) σ) : SW G d M pc L [.int x] σ Q := by
  intro p e R s m args below meth c H locs cells slots A Z ls C hR hP hS hl hr
  exact hr (some (.int x)) σ H locs pc ls h hP hS ⟨hd, _, ht, by rcases hx with rfl | rfl <;> decide⟩
theorem sw_retl {x : Int64} (hd : decode M.1 pc = .ok (.lreturn, 1)) (ht : M.2.2.2.2 = some .long) (h : Q (some (.long x)) σ) : SW G d M pc L [.long x] σ Q := by
  intro p e R s m args below meth c H locs cells slots A Z ls C hR hP hS hl hr
  exact hr (some (.long x)) σ H locs pc ls h hP hS ⟨hd, ht⟩
theorem sw_iald {i : Int32} {c n : Nat} (hd : decode M.1 pc = .ok (.iaload, 1)) (hc : cellA c 0 n) (hi : vp_in i n) (k : SW G d M (pc + 1) L (.int (σ.1 c i.toNatClampNeg) :: S) σ Q) : SW G d M pc L (.int i :: .ref c :: S) σ Q := by
  intro p e R s m args below meth cd H locs cells slots A Z ls C hR hP hS hl hr
  exact va_iald C.2.1 C.2.2.1 C.2.2.2.2.2.2.2.1 hP c 0 (wl_arrI G σ hc.1 hc.2 (by decide)) rfl hi hd (k p e R s m args below meth cd H locs cells slots A Z ls C hR hP hS hl hr)
theorem sw_bald {i : Int32} {c n : Nat} (hd : decode M.1 pc = .ok (.baload, 1)) (hc : cellA c 2 n) (hi : vp_in i n) (k : SW G d M (pc + 1) L (.int (σ.1 c i.toNatClampNeg) :: S) σ Q) : SW G d M pc L (.int i :: .ref c :: S) σ Q := by
  intro p e R s m args below meth cd H locs cells slots A Z ls C hR hP hS hl hr
  exact va_bald C.2.1 C.2.2.1 C.2.2.2.2.2.2.2.1 hP c 2 (wl_arrI G σ hc.1 hc.2 (by decide)) rfl hi hd (k p e R s m args below meth cd H locs cells slots A Z ls C hR hP hS hl hr)
theorem sw_zald {i : Int32} {c n : Nat} (hd : decode M.1 pc = .ok (.baload, 1)) (hc : cellA c 3 n) (hi : vp_in i n) (k : SW G d M (pc + 1) L (.int (σ.1 c i.toNatClampNeg) :: S) σ Q) : SW G d M pc L (.int i :: .ref c :: S) σ Q := by
  intro p e R s m args below meth cd H locs cells slots A Z ls C hR hP hS hl hr
  exact va_zald C.2.1 C.2.2.1 C.2.2.2.2.2.2.2.1 hP c 3 (wl_arrI G σ hc.1 hc.2 (by decide)) rfl hi hd (k p e R s m args below meth cd H locs cells slots A Z ls C hR hP hS hl hr)
theorem sw_lald {i : Int32} {c n : Nat} (hd : decode M.1 pc = .ok (.laload, 1)) (hc : cellA c 1 n) (hi : vp_in i n) (k : SW G d M (pc + 1) L (.long (σ.2 c i.toNatClampNeg) :: S) σ Q) : SW G d M pc L (.int i :: .ref c :: S) σ Q := by
  intro p e R s m args below meth cd H locs cells slots A Z ls C hR hP hS hl hr
  exact va_lald C.2.1 C.2.2.1 C.2.2.2.2.2.2.2.1 hP c 1 (wl_arrJ G σ hc.1 hc.2) rfl hi hd (k p e R s m args below meth cd H locs cells slots A Z ls C hR hP hS hl hr)
theorem sw_iast {i x : Int32} {c n : Nat} (hd : decode M.1 pc = .ok (.iastore, 1)) (hc : cellA c 0 n) (hi : vp_in i n) (k : SW G d M (pc + 1) L S (setI σ c i.toNatClampNeg (x)) Q) : SW G d M pc L (.int x :: .int i :: .ref c :: S) σ Q := by
  intro p e R s m args below meth cd H locs cells slots A Z ls C hR hP hS hl hr
  refine va_iast C.2.1 C.2.2.1 C.2.2.2.2.2.2.2.1 hP (wl_D G σ C.1.1 C.2.2.2.2.2.2.2.2.2.1) hS c 0 (wl_arrI G σ hc.1 hc.2 (by decide)) rfl hi hd (fun H1 locs1 hP1 _ hS1 => ?_)
  rw [wl_set G σ (setI σ c i.toNatClampNeg (x)) _ hc.1 (cont_setI_a G σ _ _ hc.2 (by decide)) (fun j hj => cont_setI_ne G σ _ _ hj)] at hP1
  exact k p e R s m args below meth cd H1 locs1 cells slots A Z ls C hR hP1 hS1 hl hr
theorem sw_bast {i x : Int32} {c n : Nat} (hd : decode M.1 pc = .ok (.bastore, 1)) (hc : cellA c 2 n) (hi : vp_in i n) (k : SW G d M (pc + 1) L S (setI σ c i.toNatClampNeg (vp_nar .byte x)) Q) : SW G d M pc L (.int x :: .int i :: .ref c :: S) σ Q := by
  intro p e R s m args below meth cd H locs cells slots A Z ls C hR hP hS hl hr
  refine va_bast C.2.1 C.2.2.1 C.2.2.2.2.2.2.2.1 hP (wl_D G σ C.1.1 C.2.2.2.2.2.2.2.2.2.1) hS c 2 (wl_arrI G σ hc.1 hc.2 (by decide)) rfl hi hd (fun H1 locs1 hP1 _ hS1 => ?_)
  rw [wl_set G σ (setI σ c i.toNatClampNeg (vp_nar .byte x)) _ hc.1 (cont_setI_a G σ _ _ hc.2 (by decide)) (fun j hj => cont_setI_ne G σ _ _ hj)] at hP1
  exact k p e R s m args below meth cd H1 locs1 cells slots A Z ls C hR hP1 hS1 hl hr
theorem sw_zast {i x : Int32} {c n : Nat} (hd : decode M.1 pc = .ok (.bastore, 1)) (hc : cellA c 3 n) (hi : vp_in i n) (k : SW G d M (pc + 1) L S (setI σ c i.toNatClampNeg (vp_nar .boolean x)) Q) : SW G d M pc L (.int x :: .int i :: .ref c :: S) σ Q := by
  intro p e R s m args below meth cd H locs cells slots A Z ls C hR hP hS hl hr
  refine va_zast C.2.1 C.2.2.1 C.2.2.2.2.2.2.2.1 hP (wl_D G σ C.1.1 C.2.2.2.2.2.2.2.2.2.1) hS c 3 (wl_arrI G σ hc.1 hc.2 (by decide)) rfl hi hd (fun H1 locs1 hP1 _ hS1 => ?_)
  rw [wl_set G σ (setI σ c i.toNatClampNeg (vp_nar .boolean x)) _ hc.1 (cont_setI_a G σ _ _ hc.2 (by decide)) (fun j hj => cont_setI_ne G σ _ _ hj)] at hP1
  exact k p e R s m args below meth cd H1 locs1 cells slots A Z ls C hR hP1 hS1 hl hr
theorem sw_last {i : Int32} {x : Int64} {c n : Nat} (hd : decode M.1 pc = .ok (.lastore, 1)) (hc : cellA c 1 n) (hi : vp_in i n) (k : SW G d M (pc + 1) L S (setJ σ c i.toNatClampNeg x) Q) : SW G d M pc L (.long x :: .int i :: .ref c :: S) σ Q := by
  intro p e R s m args below meth cd H locs cells slots A Z ls C hR hP hS hl hr
  refine va_last C.2.1 C.2.2.1 C.2.2.2.2.2.2.2.1 hP (wl_D G σ C.1.1 C.2.2.2.2.2.2.2.2.2.1) hS c 1 (wl_arrJ G σ hc.1 hc.2) rfl hi hd (fun H1 locs1 hP1 _ hS1 => ?_)
  rw [wl_set G σ (setJ σ c i.toNatClampNeg x) _ hc.1 (cont_setJ_a G σ _ _ hc.2) (fun j hj => cont_setJ_ne G σ _ _ hj)] at hP1
  exact k p e R s m args below meth cd H1 locs1 cells slots A Z ls C hR hP1 hS1 hl hr
theorem sw_alen {c ty n : Nat} (hd : decode M.1 pc = .ok (.arraylength, 1)) (hc : cellA c ty n) (hty : ty < 4) (k : SW G d M (pc + 1) L (.int (Int32.ofNat n) :: S) σ Q) : SW G d M pc L (.ref c :: S) σ Q := by
  intro p e R s m args below meth cd H locs cells slots A Z ls C hR hP hS hl hr
  have h1 := wl_at G σ hc.1
  simp only [cont, hc.2] at h1
  have ht : ∃ T, (tyl G)[ty]? = some (gc G ty, T) := by
    rcases (show ty = 0 ∨ ty = 1 ∨ ty = 2 ∨ ty = 3 by omega) with rfl | rfl | rfl | rfl <;> exact ⟨_, rfl⟩
  obtain ⟨T, hT⟩ := ht
  exact va_alen C.2.1 C.2.2.1 C.2.2.2.2.2.2.2.1 hP c ty h1 hT rfl hd (k p e R s m args below meth cd H locs cells slots A Z ls C hR hP hS hl hr)
end SWR
end
section
/-! ===== fields ===== -/
def ClsOk (ci : Nat) (C : String) (T : u_T) (N : Nat) (ty : Nat → FieldType) : Prop := vwCl[ci]? = some (C, T, N) ∧ (∀ w ∈ u_ws C T N, w ∈ TB) ∧ (∀ k, k < N → parseFieldDescriptor (T k).2.2.1 = some (ty k)) ∧ (∀ a, a < N → ∀ b, b < N → a ≠ b → (T a).2.1 ≠ (T b).2.1) ∧ nfd ci = N
/-- a field's place in the code of class own: pool number idx is field k of class ci, of kind kd, final or not -/
def FS (own : String) (idx ci k kd : Nat) (f : Bool) : Prop := ∃ (C : String) (T : u_T) (N : Nat) (ty : Nat → FieldType), ClsOk ci C T N ty ∧ k < N ∧ (T k).1 = C ∧ (T k).2.2.2 = f ∧ fkd ci k = kd ∧ (kd = 0 → ty k = .int) ∧ (kd = 1 → ty k = .long) ∧ (kd = 3 → ty k = .boolean) ∧ (Cond.fieldLink own idx C (T k).2.1 (T k).2.2.1 ∈ TB ∨ ∃ host, Cond.fieldLinkNest own idx C (T k).2.1 (T k).2.2.1 host ∈ NT)
section SWF
variable {G : GG} {d : Nat} {M : MM} {pc : Nat} {L : List (Option Value)} {S : List Value} {σ : Mem} {Q : Option Value → Mem → Prop}
theorem sw_getV {c idx ci k kd : Nat} {f : Bool} (hd : decode M.1 pc = .ok (.getfield idx, 3)) (hf : FS M.2.2.1 idx ci k kd f) (hc : cellO c ci) {v : Value} (hv : fldV G σ c ci k = cv G v) (kk : SW G d M (pc + 3) L (v :: S) σ Q) : SW G d M pc L (.ref c :: S) σ Q := by
  intro p e R s m args below meth cd H locs cells slots A Z ls C hR hP hS hl hr
  obtain ⟨C0, T, N, ty, ⟨h1, h2, h3, h4, h5⟩, hk, e1, -, -, -, -, -, hl0⟩ := hf
  have hfs : ((List.range (nfd ci)).map (fldV G σ c ci))[k]? = some (fldV G σ c ci k) := by
    rw [List.getElem?_map, List.getElem?_range (by omega)]; rfl
  have kk := kk p e R s m args below meth cd H locs cells slots A Z ls C hR hP hS hl hr
  have kk : W p (gl G) e R s m args below meth cd H locs cells slots Z (F0 m (pc + 3) ls (fldV G σ c ci k :: S.map (cv G))) := by rw [hv]; exact kk
  rcases hl0 with hl1 | ⟨host, hl1⟩
  · exact va_get C.2.1 C.2.2.1 C.2.2.2.2.2.1 h2 C.2.2.2.2.1 C.2.2.2.2.2.2.2.1 hP c (wl_obj G σ hc.1 hc.2) h1 k hk (C.2.2.2.2.2.1 _ hl1) (fun x hx => by rw [e1] at hx; exact hx) hfs hd kk
  · exact va_getN C.2.1 C.2.2.1 C.2.2.2.2.2.1 h2 C.2.2.2.2.1 C.2.2.2.2.2.2.2.1 hP c (wl_obj G σ hc.1 hc.2) h1 k hk (va_Nw.use rfl (C.2.2.2.2.2.2.1 _ hl1)) (fun x hx => by rw [e1] at hx; exact hx) hfs hd kk
theorem sw_getI {c idx ci k : Nat} {f : Bool} (hd : decode M.1 pc = .ok (.getfield idx, 3)) (hf : FS M.2.2.1 idx ci k 0 f) (hc : cellO c ci) (kk : SW G d M (pc + 3) L (.int (σ.1 c k) :: S) σ Q) : SW G d M pc L (.ref c :: S) σ Q := by
  have e : fkd ci k = 0 := by obtain ⟨_, _, _, _, -, -, -, -, e, -⟩ := hf; exact e
  exact sw_getV hd hf hc (v := .int (σ.1 c k)) (by simp [fldV, e, cv]) kk
theorem sw_getZ {c idx ci k : Nat} {f : Bool} (hd : decode M.1 pc = .ok (.getfield idx, 3)) (hf : FS M.2.2.1 idx ci k 3 f) (hc : cellO c ci) (kk : SW G d M (pc + 3) L (.int (σ.1 c k) :: S) σ Q) : SW G d M pc L (.ref c :: S) σ Q := by
  have e : fkd ci k = 3 := by obtain ⟨_, _, _, _, -, -, -, -, e, -⟩ := hf; exact e
  exact sw_getV hd hf hc (v := .int (σ.1 c k)) (by simp [fldV, e, cv]) kk
theorem sw_getJ {c idx ci k : Nat} {f : Bool} (hd : decode M.1 pc = .ok (.getfield idx, 3)) (hf : FS M.2.2.1 idx ci k 1 f) (hc : cellO c ci) (kk : SW G d M (pc + 3) L (.long (σ.2 c k) :: S) σ Q) : SW G d M pc L (.ref c :: S) σ Q := by
  have e : fkd ci k = 1 := by obtain ⟨_, _, _, _, -, -, -, -, e, -⟩ := hf; exact e
  exact sw_getV hd hf hc (v := .long (σ.2 c k)) (by simp [fldV, e, cv]) kk
theorem sw_getR {c idx ci k t : Nat} {f : Bool} (hd : decode M.1 pc = .ok (.getfield idx, 3)) (hf : FS M.2.2.1 idx ci k 2 f) (hc : cellO c ci) (ht : rfc c k = t) (kk : SW G d M (pc + 3) L (.ref t :: S) σ Q) : SW G d M pc L (.ref c :: S) σ Q := by
  have e : fkd ci k = 2 := by obtain ⟨_, _, _, _, -, -, -, -, e, -⟩ := hf; exact e
  exact sw_getV hd hf hc (v := .ref t) (by simp [fldV, e, cv, ht]) kk
theorem sw_putI {c idx ci k : Nat} {v : Int32} (hd : decode M.1 pc = .ok (.putfield idx, 3)) (hf : FS M.2.2.1 idx ci k 0 false) (hc : cellO c ci) (kk : SW G d M (pc + 3) L S (setI σ c k v) Q) : SW G d M pc L (.int v :: .ref c :: S) σ Q := by
  intro p e R s m args below meth cd H locs cells slots A Z ls C hR hP hS hl hr
  obtain ⟨C0, T, N, ty, ⟨h1, h2, h3, h4, h5⟩, hk, e1, e2, e3, e4, -, -, hl0⟩ := hf
  have hK := C.2.2.2.2.2.2.2.1
  have hD := wl_D G σ C.1.1 C.2.2.2.2.2.2.2.2.2.1
  have go : ∀ (H1 : Heap) (locs1 : List Loc), va_P (gD G) vwCl ((wl G σ).set c (ga G c, .inr (ci, ((List.range (nfd ci)).map (fldV G σ c ci)).set k (.int v)))) H1 → va_D A ((wl G σ).set c (ga G c, .inr (ci, ((List.range (nfd ci)).map (fldV G σ c ci)).set k (.int v)))) → va_S A s.heap H1 locs1 → W p (gl G) e R s m args below meth cd H1 locs1 cells slots Z (F0 m (pc + 3) ls (S.map (cv G))) := by
    intro H1 locs1 hP1 _ hS1
    rw [wl_set G σ (setI σ c k v) _ hc.1 (cont_setI_f G σ v hc.2 (by omega) (Or.inl e3)) (fun j hj => cont_setI_ne G σ _ _ hj)] at hP1
    exact kk p e R s m args below meth cd H1 locs1 cells slots A Z ls C hR hP1 hS1 hl hr
  rcases hl0 with hl1 | ⟨host, hl1⟩
  · exact va_put C.2.1 C.2.2.1 C.2.2.2.2.2.1 h2 ty h3 h4 C.2.2.2.2.1 hK hP hD hS c (wl_obj G σ hc.1 hc.2) h1 k hk (C.2.2.2.2.2.1 _ hl1) (fun x hx => by rw [e1] at hx; exact hx) e2 ((h3 k hk).trans (by rw [e4 rfl])) (vp_nar_int v) rfl (by simp; omega) hd go
  · exact va_putN C.2.1 C.2.2.1 C.2.2.2.2.2.1 h2 ty h3 h4 C.2.2.2.2.1 hK hP hD hS c (wl_obj G σ hc.1 hc.2) h1 k hk (va_Nw.use rfl (C.2.2.2.2.2.2.1 _ hl1)) (fun x hx => by rw [e1] at hx; exact hx) e2 ((h3 k hk).trans (by rw [e4 rfl])) (vp_nar_int v) rfl (by simp; omega) hd go
theorem sw_putZ {c idx ci k : Nat} {v : Int32} (hd : decode M.1 pc = .ok (.putfield idx, 3)) (hf : FS M.2.2.1 idx ci k 3 false) (hc : cellO c ci) (hv : v = 0 ∨ v = 1) (kk : SW G d M (pc + 3) L S (setI σ c k v) Q) : SW G d M pc L (.int v :: .ref c :: S) σ Q := by
  intro p e R s m args below meth cd H locs cells slots A Z ls C hR hP hS hl hr
  obtain ⟨C0, T, N, ty, ⟨h1, h2, h3, h4, h5⟩, hk, e1, e2, e3, -, -, e4, hl0⟩ := hf
  have hK := C.2.2.2.2.2.2.2.1
  have hD := wl_D G σ C.1.1 C.2.2.2.2.2.2.2.2.2.1
  have n1 : narrow .boolean (.int v) = .int v := by rcases hv with rfl | rfl <;> decide
  have n2 : fits .boolean (.int v) = true := by rcases hv with rfl | rfl <;> decide
  have go : ∀ (H1 : Heap) (locs1 : List Loc), va_P (gD G) vwCl ((wl G σ).set c (ga G c, .inr (ci, ((List.range (nfd ci)).map (fldV G σ c ci)).set k (.int v)))) H1 → va_D A ((wl G σ).set c (ga G c, .inr (ci, ((List.range (nfd ci)).map (fldV G σ c ci)).set k (.int v)))) → va_S A s.heap H1 locs1 → W p (gl G) e R s m args below meth cd H1 locs1 cells slots Z (F0 m (pc + 3) ls (S.map (cv G))) := by
    intro H1 locs1 hP1 _ hS1
    rw [wl_set G σ (setI σ c k v) _ hc.1 (cont_setI_f G σ v hc.2 (by omega) (Or.inr e3)) (fun j hj => cont_setI_ne G σ _ _ hj)] at hP1
    exact kk p e R s m args below meth cd H1 locs1 cells slots A Z ls C hR hP1 hS1 hl hr
  rcases hl0 with hl1 | ⟨host, hl1⟩
  · exact va_put C.2.1 C.2.2.1 C.2.2.2.2.2.1 h2 ty h3 h4 C.2.2.2.2.1 hK hP hD hS c (wl_obj G σ hc.1 hc.2) h1 k hk (C.2.2.2.2.2.1 _ hl1) (fun x hx => by rw [e1] at hx; exact hx) e2 ((h3 k hk).trans (by rw [e4 rfl])) n1 n2 (by simp; omega) hd go
  · exact va_putN C.2.1 C.2.2.1 C.2.2.2.2.2.1 h2 ty h3 h4 C.2.2.2.2.1 hK hP hD hS c (wl_obj G σ hc.1 hc.2) h1 k hk (va_Nw.use rfl (C.2.2.2.2.2.2.1 _ hl1)) (fun x hx => by rw [e1] at hx; exact hx) e2 ((h3 k hk).trans (by rw [e4 rfl])) n1 n2 (by simp; omega) hd go
theorem sw_putJ {c idx ci k : Nat} {v : Int64} (hd : decode M.1 pc = .ok (.putfield idx, 3)) (hf : FS M.2.2.1 idx ci k 1 false) (hc : cellO c ci) (kk : SW G d M (pc + 3) L S (setJ σ c k v) Q) : SW G d M pc L (.long v :: .ref c :: S) σ Q := by
  intro p e R s m args below meth cd H locs cells slots A Z ls C hR hP hS hl hr
  obtain ⟨C0, T, N, ty, ⟨h1, h2, h3, h4, h5⟩, hk, e1, e2, e3, -, e4, -, hl0⟩ := hf
  have hK := C.2.2.2.2.2.2.2.1
  have hD := wl_D G σ C.1.1 C.2.2.2.2.2.2.2.2.2.1
  have go : ∀ (H1 : Heap) (locs1 : List Loc), va_P (gD G) vwCl ((wl G σ).set c (ga G c, .inr (ci, ((List.range (nfd ci)).map (fldV G σ c ci)).set k (.long v)))) H1 → va_D A ((wl G σ).set c (ga G c, .inr (ci, ((List.range (nfd ci)).map (fldV G σ c ci)).set k (.long v)))) → va_S A s.heap H1 locs1 → W p (gl G) e R s m args below meth cd H1 locs1 cells slots Z (F0 m (pc + 3) ls (S.map (cv G))) := by
    intro H1 locs1 hP1 _ hS1
    rw [wl_set G σ (setJ σ c k v) _ hc.1 (cont_setJ_f G σ v hc.2 (by omega) e3) (fun j hj => cont_setJ_ne G σ _ _ hj)] at hP1
    exact kk p e R s m args below meth cd H1 locs1 cells slots A Z ls C hR hP1 hS1 hl hr
  rcases hl0 with hl1 | ⟨host, hl1⟩
  · exact va_put C.2.1 C.2.2.1 C.2.2.2.2.2.1 h2 ty h3 h4 C.2.2.2.2.1 hK hP hD hS c (wl_obj G σ hc.1 hc.2) h1 k hk (C.2.2.2.2.2.1 _ hl1) (fun x hx => by rw [e1] at hx; exact hx) e2 ((h3 k hk).trans (by rw [e4 rfl])) rfl rfl (by simp; omega) hd go
  · exact va_putN C.2.1 C.2.2.1 C.2.2.2.2.2.1 h2 ty h3 h4 C.2.2.2.2.1 hK hP hD hS c (wl_obj G σ hc.1 hc.2) h1 k hk (va_Nw.use rfl (C.2.2.2.2.2.2.1 _ hl1)) (fun x hx => by rw [e1] at hx; exact hx) e2 ((h3 k hk).trans (by rw [e4 rfl])) rfl rfl (by simp; omega) hd go
end SWF
/-! ===== calls ===== -/
/-- the room of a method that calls d deep -/
def rmD (d : Nat) : Room := { frames := d, cells := 0, slots := 0, locals := 31 * d }
def PcW (G : GG) (σ : Mem) (U : State) : Prop := va_P (gD G) vwCl (wl G σ) U.heap ∧ va_K (gD G) vwCl (tyl G) U ∧ (∀ w ∈ NT, va_Nw w U) ∧ gm G (AK G) U
def QcW (G : GG) (Q : Option Value → Mem → Prop) : Array Value → State → Outcome → State → Prop := fun _ st o t => (∃ (r : Option Value) (σ' : Mem), o = .returned (r.map (cv G)) ∧ Q r σ' ∧ va_P (gD G) vwCl (wl G σ') t.heap) ∧ va_F (AK G) st t
def wsM (M : MM) : List Cond := .code M.2.1 M.1 M.2.2.2.1 M.2.2.2.2 :: TB
/-- what is asked of a method that is called -/
def MOk (M : MM) : Prop := plainName M.2.1.cls = true ∧ M.2.1.cls = M.2.2.1 ∧ Cond.code M.2.1 M.1 M.2.2.2.1 M.2.2.2.2 ∈ TB ∧ Cond.initialized M.2.1.cls ∈ TB ∧ (M.2.1.cls ≠ "java/lang/invoke/MethodHandle" ∧ M.2.1.cls ≠ "java/lang/invoke/VarHandle") ∧ M.2.2.2.1 ≤ 12
theorem sw_met {G : GG} {d : Nat} {M : MM} {vs : List Value} {σ : Mem} {Q : Option Value → Mem → Prop} (hG : Wok G) (hM : MOk M) (hw : wds vs ≤ M.2.2.2.1) (h : SW G d M 0 (ent M.2.2.2.1 vs) [] σ Q) : Met (gl G) M.2.1 (wsM M) (rmD d) (va_Pc (vs.map (cv G)) (PcW G σ)) (QcW G Q) 0 0 (AK G) := by
  refine Met.ofW (cc := M.1) (maxL := M.2.2.2.1) (ret := M.2.2.2.2) hM.1 rfl ?_
  intro p e s m args below meth c s₁ B hml hv
  obtain ⟨rfl, hP, hK, hN, hg⟩ := hv
  have hts := atoms_spec (ws := wsM M) B.pre
  have hown : s.vm.findClass M.2.1.cls = some m.cls := findClass_of_methodNamed B.named
  rw [hM.2.1] at hown
  rw [lg_entry_eq]
  have key := h p e (rmD d) s m (vs.map (cv G)).toArray below meth c s.heap [] 0 0 (AK G) (MQ below (QcW G Q) (vs.map (cv G)).toArray s 0 0 (AK G)) _ ⟨hG, B.exec, B.bytes, hml, hown, fun w hw => hts w (List.mem_cons_of_mem _ hw), hN, hK, hg, fun _ h => h, B.returns, B.notSynchronized⟩ ⟨Nat.le_refl _, Nat.le_refl _, Nat.le_refl _, Nat.le_refl _⟩ hP va_S.rf (ent_ok G hw) ?_
  · exact key
  intro r σ' H' locs' pc' ls' hq hP' hS' hret
  have hpost : ∀ (t : State), t.heap = H' → QcW G Q (vs.map (cv G)).toArray s (.returned (r.map (cv G))) t := fun t ht => ⟨⟨r, σ', rfl, hq, by rw [ht]; exact hP'⟩, hS'.F ht⟩
  cases r with
  | none => exact W.vret B.exec B.bytes (B.returns.trans hret.2) (fun t ht _ => hpost t ht) hS'.2.2 hret.1 B.notSynchronized
  | some v =>
    cases v with
    | int v =>
      obtain ⟨h1, ty, h2, h3⟩ := hret
      exact W.zret B.exec B.bytes (B.returns.trans h2) h3 (fun t ht _ => hpost t ht) hS'.2.2 h1 B.notSynchronized
    | long v =>
      obtain ⟨h1, h2⟩ := hret
      exact W.lret B.exec B.bytes (B.returns.trans h2) (fun t ht _ => hpost t ht) hS'.2.2 h1 B.notSynchronized
    | _ => exact hret.elim
theorem pcw_blind {G : GG} (hG : Wok G) {σ : Mem} {vs : List Value} : FrameBlind (va_Pc vs (PcW G σ)) := by
  intro a U g mk q
  obtain ⟨q0, qP, qK, qN, qg⟩ := q
  exact ⟨q0, qP, va_K.moved (u := U) (U := U.calling g mk a) (Vm.Alike.refl U.vm) qK, fun w hw => va_Nw.same (u := U) (U := U.calling g mk a) (nt_tab hw) rfl (qN w hw), hG.2.2 _ U _ rfl rfl qg⟩
def LK (own : String) (idx : Nat) (y : MethodName) : Prop := Cond.methodLink own idx y ∈ TB ∨ ∃ host, Cond.methodLinkNest own idx y host ∈ NT
def VOk (M : MM) (n ci : Nat) : Prop := Cond.instanceMethod M.2.1 ∈ TB ∧ Cond.selects M.2.2.1 M.2.1 M.2.1 ∈ TB ∧ (parseMethodDescriptor M.2.1.desc).map (fun d => d.parameters.length) = some n ∧ ∃ (T : u_T) (N : Nat), vwCl[ci]? = some (M.2.2.1, T, N)
def SOk (M : MM) (n : Nat) : Prop := Cond.static M.2.1 ∈ TB ∧ (parseMethodDescriptor M.2.1.desc).map (fun d => d.parameters.length) = some n
theorem wsM_good {M : MM} (h : MOk M) : GoodIn TB (wsM M) := by
  intro w hw
  rcases List.mem_cons.mp hw with rfl | hw
  · exact tb_good _ h.2.2.1
  · exact tb_good _ hw
theorem sw_after {G : GG} {d : Nat} {M : MM} {pc : Nat} {L : List (Option Value)} {S : List Value} {Q : Option Value → Mem → Prop} {p : Program} {e : Env} {R : Room} {s : State} {m : MethodId} {args : Array Value} {below : List Frame} {meth : Method} {c : Code} {H : Heap} {locs : List Loc} {cells slots : Nat} {A : Nat → Prop} {Z : State → Prop} {ls : Array Slot} {a : Array Value} {st0 : List Value}
    (hrun : va_Run p (gl G) e R s m args below meth c H locs cells slots 0 0 (F0 m pc ls st0) (S.map (cv G)) (QcW G (fun r σ' => SW G d M (pc + 3) L (r.toList ++ S) σ' Q) a) (AK G))
    (C : Cx G M p s m args meth c A) (hR : d ≤ R.frames ∧ 31 * d ≤ R.locals ∧ cells ≤ R.cells ∧ slots ≤ R.slots) (hS : va_S A s.heap H locs) (hl : lvr G ls M.2.2.2.1 L)
    (hr : ∀ (r : Option Value) (σ' : Mem) (H' : Heap) (locs' : List Loc) (pc' : Nat) (ls' : Array Slot), Q r σ' → va_P (gD G) vwCl (wl G σ') H' → va_S A s.heap H' locs' → retD M pc' r → W p (gl G) e R s m args below meth c H' locs' cells slots Z (F0 m pc' ls' (r.toList.map (cv G)))) :
    W p (gl G) e R s m args below meth c H locs cells slots Z (F0 m pc ls st0) := by
  intro T hT X
  obtain ⟨v, st₀, t, T', Lc, h0, X', hL, e1, e2, ⟨⟨r, σ', hv, hq, hp⟩, hz, hk⟩, st⟩ := hrun T hT X
  have hv : v = r.map (cv G) := by injection hv
  subst hv
  rw [h0] at hz hk
  have hA := C.2.2.2.2.2.2.2.2.2.1
  have hS' : va_S A s.heap T'.heap (locs ++ Lc) := by
    refine ⟨Nat.le_trans hS.1 (by rw [e1]; exact hz), fun q h1 h2 => ?_, fun q hq => ?_⟩
    · rw [e1, hk q (Nat.lt_of_lt_of_le h1 hS.1) (fun z => h2 (hA q z))]
      exact hS.2.1 q h1 h2
    · rcases List.mem_append.mp hq with h | h
      · exact hS.2.2 q h
      · exact hA _ (hL q h)
  have hst : (r.toList ++ S).map (cv G) = (r.map (cv G)).toList ++ S.map (cv G) := by cases r <;> rfl
  have key := hq p e R s m args below meth c T'.heap (locs ++ Lc) cells slots A Z ls C hR (by rw [e1]; exact hp) hS' hl hr
  rw [hst] at key
  obtain ⟨t2, a1, b1⟩ := key T' rfl X'
  exact ⟨t2, st t2 a1, b1⟩
theorem pcw_at {G : GG} {M : MM} {p : Program} {s : State} {m : MethodId} {args : Array Value} {meth : Method} {c : Code} {A : Nat → Prop} {σ : Mem} {H : Heap} {locs : List Loc} (C : Cx G M p s m args meth c A) (hP : va_P (gD G) vwCl (wl G σ) H) (hS : va_S A s.heap H locs) {vs : List Value} : ∀ U : State, U.heap = H → s.WarmedH U.vm → va_Pc vs (PcW G σ) vs.toArray U := by
  intro U hU hW
  refine ⟨rfl, by rw [hU]; exact hP, va_K.moved hW.alike C.2.2.2.2.2.2.2.1, nt_warm hW C.2.2.2.2.2.2.1, C.1.2.1 A s U C.2.2.2.2.2.2.2.2.2.1 C.2.2.2.2.2.2.2.2.1 hW (by rw [hU]; exact hS.1) (fun q h1 h2 => by rw [hU]; exact hS.2.1 q h1 h2)⟩
theorem cats (G : GG) (S : List Value) : ((S.map (cv G)).map fun v => v.category).sum = (S.map Value.category).sum := by
  rw [List.map_map]
  congr 1
  apply List.map_congr_left
  intro v _
  exact cv_cat G v
theorem sw_inv {G : GG} {d : Nat} {M M' : MM} {pc : Nat} {L : List (Option Value)} {S : List Value} {σ : Mem} {Q : Option Value → Mem → Prop} {b ci n idx : Nat} (As : List Value) (hd : decode M.1 pc = .ok (.invokevirtual idx, 3)) (hM : MOk M') (hV : VOk M' n ci) (hk : LK M.2.2.1 idx M'.2.1) (hc : cellO b ci) (hn : As.length = n) (hw : wds (.ref b :: As) ≤ M'.2.2.2.1) (hs : (S.map Value.category).sum ≤ 8)
    (h : SW G d M' 0 (ent M'.2.2.2.1 (.ref b :: As)) [] σ (fun r σ' => SW G (d + 1) M (pc + 3) L (r.toList ++ S) σ' Q)) : SW G (d + 1) M pc L (As.reverse ++ .ref b :: S) σ Q := by
  intro p e R s m args below meth c H locs cells slots A Z ls C hR hP hS hl hr
  have hMet := sw_met C.1 hM hw h
  obtain ⟨v1, v2, v3, T, N, v4⟩ := hV
  have ht := C.2.2.2.2.2.1
  have hroom : (rmD d).frames + 1 ≤ R.frames ∧ 8 + (M'.2.2.2.1 + 11) + (rmD d).locals ≤ R.locals := by
    have h1 := hM.2.2.2.2.2
    have h2 := hR.1
    have h3 := hR.2.1
    refine ⟨h2, ?_⟩
    show 8 + (M'.2.2.2.1 + 11) + 31 * d ≤ R.locals
    omega
  have hpre : PreV s H M'.2.2.1 (ga G b) (va_Pc ((Value.ref b :: As).map (cv G)) (PcW G σ)) (As.map (cv G)) :=
    ⟨pcw_blind C.1, va_recv C.2.2.2.2.2.2.2.1 hP (ci := ci) (q0 := b) v4 (wl_obj G σ hc.1 hc.2), pcw_at C hP hS⟩
  have hstk : ((As.reverse ++ .ref b :: S).map (cv G)) = (As.map (cv G)).reverse ++ .ref (ga G b) :: S.map (cv G) := by simp [cv]
  rw [hstk]
  refine sw_after (S := S) ?_ C hR hS hl hr (a := (Value.ref (ga G b) :: As.map (cv G)).toArray)
  rcases hk with hk | ⟨host, hk⟩
  · exact va_runV ⟨C.2.1, C.2.2.1, C.2.2.2.1, C.2.2.2.2.1, ht⟩ hMet ⟨callB_of n ht (wsM_good hM) rfl rfl rfl (ht _ hM.2.2.2.1) (ht _ hk) ⟨hM.2.2.2.2.1.1, hM.2.2.2.2.1.2, v3⟩ hroom, ht _ v1, ht _ v2⟩ hpre rfl (by simpa using hn) hl.2.1 rfl (lv_room (by rw [cats]; exact hs)) hd ⟨by have := hR.2.2.1; omega, by have := hR.2.2.2; omega⟩
  · exact va_runVN (host := host) ⟨C.2.1, C.2.2.1, C.2.2.2.1, C.2.2.2.2.1, ht⟩ hMet ⟨va_cnB n ht (wsM_good hM) rfl rfl rfl (C.2.2.2.2.2.2.1 _ hk) (ht _ hM.2.2.2.1) ⟨hM.2.2.2.2.1.1, hM.2.2.2.2.1.2, v3⟩ hroom, ht _ v1, ht _ v2⟩ hpre rfl (by simpa using hn) hl.2.1 rfl (lv_room (by rw [cats]; exact hs)) hd ⟨by have := hR.2.2.1; omega, by have := hR.2.2.2; omega⟩
theorem sw_ins {G : GG} {d : Nat} {M M' : MM} {pc : Nat} {L : List (Option Value)} {S : List Value} {σ : Mem} {Q : Option Value → Mem → Prop} {n idx : Nat} (As : List Value) (hd : decode M.1 pc = .ok (.invokestatic idx, 3)) (hM : MOk M') (hV : SOk M' n) (hk : LK M.2.2.1 idx M'.2.1) (hn : As.length = n) (hw : wds As ≤ M'.2.2.2.1) (hs : (S.map Value.category).sum ≤ 8)
    (h : SW G d M' 0 (ent M'.2.2.2.1 As) [] σ (fun r σ' => SW G (d + 1) M (pc + 3) L (r.toList ++ S) σ' Q)) : SW G (d + 1) M pc L (As.reverse ++ S) σ Q := by
  intro p e R s m args below meth c H locs cells slots A Z ls C hR hP hS hl hr
  have hMet := sw_met C.1 hM hw h
  obtain ⟨v1, v3⟩ := hV
  have ht := C.2.2.2.2.2.1
  have hroom : (rmD d).frames + 1 ≤ R.frames ∧ 8 + (M'.2.2.2.1 + 11) + (rmD d).locals ≤ R.locals := by
    have h1 := hM.2.2.2.2.2
    have h2 := hR.1
    have h3 := hR.2.1
    refine ⟨h2, ?_⟩
    show 8 + (M'.2.2.2.1 + 11) + 31 * d ≤ R.locals
    omega
  have hpre : PreS s H (va_Pc (As.map (cv G)) (PcW G σ)) (As.map (cv G)) := ⟨pcw_blind C.1, pcw_at C hP hS⟩
  have hstk : ((As.reverse ++ S).map (cv G)) = (As.map (cv G)).reverse ++ S.map (cv G) := by simp
  rw [hstk]
  refine sw_after (S := S) ?_ C hR hS hl hr (a := (As.map (cv G)).toArray)
  rcases hk with hk | ⟨host, hk⟩
  · exact va_runS ⟨C.2.1, C.2.2.1, C.2.2.2.1, C.2.2.2.2.1, ht⟩ hMet ⟨callB_of n ht (wsM_good hM) rfl rfl rfl (ht _ hM.2.2.2.1) (ht _ hk) ⟨hM.2.2.2.2.1.1, hM.2.2.2.2.1.2, v3⟩ hroom, ht _ v1⟩ hpre rfl (by simpa using hn) hl.2.1 rfl (lv_room (by rw [cats]; exact hs)) hd ⟨by have := hR.2.2.1; omega, by have := hR.2.2.2; omega⟩
  · exact va_runSN (host := host) ⟨C.2.1, C.2.2.1, C.2.2.2.1, C.2.2.2.2.1, ht⟩ hMet ⟨va_cnB n ht (wsM_good hM) rfl rfl rfl (C.2.2.2.2.2.2.1 _ hk) (ht _ hM.2.2.2.1) ⟨hM.2.2.2.2.1.1, hM.2.2.2.2.1.2, v3⟩ hroom, ht _ v1, trivial⟩ hpre rfl (by simpa using hn) hl.2.1 rfl (lv_room (by rw [cats]; exact hs)) hd ⟨by have := hR.2.2.1; omega, by have := hR.2.2.2; omega⟩
end
