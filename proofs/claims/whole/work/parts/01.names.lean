-- ===== PART A: goes FIRST, ahead of the names: the tables' words, and 'selects' of the private methods out of them =====
/-- a private method of a class that the tables say can be made, by its rows of tables_1 -/
def lw_okq (q : MethodName × Nat) : Prop := (q.1.cls ≠ "java/lang/invoke/MethodHandle" ∧ q.1.cls ≠ "java/lang/invoke/VarHandle") ∧ Cond.instantiable q.1.cls q.2 ∈ tables_1 ∧ Cond.privateMethod q.1 ∈ tables_1 ∧ Cond.instanceMethod q.1 ∈ tables_1
theorem lw_p0 : lw_okq (⟨"CourtHouse$Docket", "enter", "(III)I"⟩, 9) := ⟨⟨by decide +kernel, by decide +kernel⟩, List.mem_of_getElem? (i := 23) (by decide +kernel), List.mem_of_getElem? (i := 239) (by decide +kernel), List.mem_of_getElem? (i := 240) (by decide +kernel)⟩
theorem lw_p1 : lw_okq (⟨"CourtHouse$Docket", "joinList", "(II)V"⟩, 9) := ⟨⟨by decide +kernel, by decide +kernel⟩, List.mem_of_getElem? (i := 23) (by decide +kernel), List.mem_of_getElem? (i := 243) (by decide +kernel), List.mem_of_getElem? (i := 244) (by decide +kernel)⟩
theorem lw_p2 : lw_okq (⟨"CourtHouse$People", "enter", "(II)I"⟩, 4) := ⟨⟨by decide +kernel, by decide +kernel⟩, List.mem_of_getElem? (i := 72) (by decide +kernel), List.mem_of_getElem? (i := 251) (by decide +kernel), List.mem_of_getElem? (i := 252) (by decide +kernel)⟩
theorem lw_p3 : lw_okq (⟨"CourtHouse$People", "has", "(I)Z"⟩, 4) := ⟨⟨by decide +kernel, by decide +kernel⟩, List.mem_of_getElem? (i := 72) (by decide +kernel), List.mem_of_getElem? (i := 259) (by decide +kernel), List.mem_of_getElem? (i := 260) (by decide +kernel)⟩
theorem lw_p4 : lw_okq (⟨"CourtHouse$Docket", "has", "(I)Z"⟩, 9) := ⟨⟨by decide +kernel, by decide +kernel⟩, List.mem_of_getElem? (i := 23) (by decide +kernel), List.mem_of_getElem? (i := 270) (by decide +kernel), List.mem_of_getElem? (i := 271) (by decide +kernel)⟩
theorem lw_p5 : lw_okq (⟨"CourtHouse$Docket", "callFor", "(III)V"⟩, 9) := ⟨⟨by decide +kernel, by decide +kernel⟩, List.mem_of_getElem? (i := 23) (by decide +kernel), List.mem_of_getElem? (i := 277) (by decide +kernel), List.mem_of_getElem? (i := 278) (by decide +kernel)⟩
theorem lw_p6 : lw_okq (⟨"CourtHouse$Docket", "placeOf", "(I)I"⟩, 9) := ⟨⟨by decide +kernel, by decide +kernel⟩, List.mem_of_getElem? (i := 23) (by decide +kernel), List.mem_of_getElem? (i := 289) (by decide +kernel), List.mem_of_getElem? (i := 290) (by decide +kernel)⟩
theorem lw_p7 : lw_okq (⟨"CourtHouse$Docket", "caseAt", "(II)I"⟩, 9) := ⟨⟨by decide +kernel, by decide +kernel⟩, List.mem_of_getElem? (i := 23) (by decide +kernel), List.mem_of_getElem? (i := 293) (by decide +kernel), List.mem_of_getElem? (i := 294) (by decide +kernel)⟩
theorem lw_p8 : lw_okq (⟨"CourtHouse$Chances", "weigh", "(LCourtHouse$Docket;I)V"⟩, 1) := ⟨⟨by decide +kernel, by decide +kernel⟩, List.mem_of_getElem? (i := 96) (by decide +kernel), List.mem_of_getElem? (i := 318) (by decide +kernel), List.mem_of_getElem? (i := 319) (by decide +kernel)⟩
theorem lw_p9 : lw_okq (⟨"CourtHouse$Chances", "putAhead", "(II)V"⟩, 1) := ⟨⟨by decide +kernel, by decide +kernel⟩, List.mem_of_getElem? (i := 96) (by decide +kernel), List.mem_of_getElem? (i := 327) (by decide +kernel), List.mem_of_getElem? (i := 328) (by decide +kernel)⟩
theorem lw_p10 : lw_okq (⟨"CourtHouse", "waitPrice", "(I)J"⟩, 8) := ⟨⟨by decide +kernel, by decide +kernel⟩, List.mem_of_getElem? (i := 15) (by decide +kernel), List.mem_of_getElem? (i := 335) (by decide +kernel), List.mem_of_getElem? (i := 336) (by decide +kernel)⟩
theorem lw_p11 : lw_okq (⟨"CourtHouse$Docket", "hasNeedOf", "(II)Z"⟩, 9) := ⟨⟨by decide +kernel, by decide +kernel⟩, List.mem_of_getElem? (i := 23) (by decide +kernel), List.mem_of_getElem? (i := 339) (by decide +kernel), List.mem_of_getElem? (i := 340) (by decide +kernel)⟩
theorem lw_p12 : lw_okq (⟨"CourtHouse$Chances", "costAt", "(IJJ)J"⟩, 1) := ⟨⟨by decide +kernel, by decide +kernel⟩, List.mem_of_getElem? (i := 96) (by decide +kernel), List.mem_of_getElem? (i := 346) (by decide +kernel), List.mem_of_getElem? (i := 347) (by decide +kernel)⟩
theorem lw_p13 : lw_okq (⟨"CourtHouse", "bestQuarter", "(I)I"⟩, 8) := ⟨⟨by decide +kernel, by decide +kernel⟩, List.mem_of_getElem? (i := 15) (by decide +kernel), List.mem_of_getElem? (i := 354) (by decide +kernel), List.mem_of_getElem? (i := 355) (by decide +kernel)⟩
theorem lw_p14 : lw_okq (⟨"CourtHouse", "greatestWay", "(I)I"⟩, 8) := ⟨⟨by decide +kernel, by decide +kernel⟩, List.mem_of_getElem? (i := 15) (by decide +kernel), List.mem_of_getElem? (i := 358) (by decide +kernel), List.mem_of_getElem? (i := 359) (by decide +kernel)⟩
theorem lw_p15 : lw_okq (⟨"CourtHouse$Chances", "cheapestFrom", "(IJJ)I"⟩, 1) := ⟨⟨by decide +kernel, by decide +kernel⟩, List.mem_of_getElem? (i := 96) (by decide +kernel), List.mem_of_getElem? (i := 365) (by decide +kernel), List.mem_of_getElem? (i := 366) (by decide +kernel)⟩
def lw_privs_1 : List (MethodName × Nat) := [(⟨"CourtHouse$Docket", "enter", "(III)I"⟩, 9), (⟨"CourtHouse$Docket", "joinList", "(II)V"⟩, 9), (⟨"CourtHouse$People", "enter", "(II)I"⟩, 4), (⟨"CourtHouse$People", "has", "(I)Z"⟩, 4), (⟨"CourtHouse$Docket", "has", "(I)Z"⟩, 9), (⟨"CourtHouse$Docket", "callFor", "(III)V"⟩, 9), (⟨"CourtHouse$Docket", "placeOf", "(I)I"⟩, 9), (⟨"CourtHouse$Docket", "caseAt", "(II)I"⟩, 9), (⟨"CourtHouse$Chances", "weigh", "(LCourtHouse$Docket;I)V"⟩, 1), (⟨"CourtHouse$Chances", "putAhead", "(II)V"⟩, 1), (⟨"CourtHouse", "waitPrice", "(I)J"⟩, 8), (⟨"CourtHouse$Docket", "hasNeedOf", "(II)Z"⟩, 9), (⟨"CourtHouse$Chances", "costAt", "(IJJ)J"⟩, 1), (⟨"CourtHouse", "bestQuarter", "(I)I"⟩, 8), (⟨"CourtHouse", "greatestWay", "(I)I"⟩, 8), (⟨"CourtHouse$Chances", "cheapestFrom", "(IJJ)I"⟩, 1)]
theorem lw_r1 : ∀ q ∈ lw_privs_1, lw_okq q := List.forall_mem_cons.mpr ⟨lw_p0, List.forall_mem_cons.mpr ⟨lw_p1, List.forall_mem_cons.mpr ⟨lw_p2, List.forall_mem_cons.mpr ⟨lw_p3, List.forall_mem_cons.mpr ⟨lw_p4, List.forall_mem_cons.mpr ⟨lw_p5, List.forall_mem_cons.mpr ⟨lw_p6, List.forall_mem_cons.mpr ⟨lw_p7, List.forall_mem_cons.mpr ⟨lw_p8, List.forall_mem_cons.mpr ⟨lw_p9, List.forall_mem_cons.mpr ⟨lw_p10, List.forall_mem_cons.mpr ⟨lw_p11, List.forall_mem_cons.mpr ⟨lw_p12, List.forall_mem_cons.mpr ⟨lw_p13, List.forall_mem_cons.mpr ⟨lw_p14, List.forall_mem_cons.mpr ⟨lw_p15, fun _ h => absurd h List.not_mem_nil⟩⟩⟩⟩⟩⟩⟩⟩⟩⟩⟩⟩⟩⟩⟩⟩
theorem lw_p16 : lw_okq (⟨"CourtHouse$Docket", "quarterFor", "(II)I"⟩, 9) := ⟨⟨by decide +kernel, by decide +kernel⟩, List.mem_of_getElem? (i := 23) (by decide +kernel), List.mem_of_getElem? (i := 375) (by decide +kernel), List.mem_of_getElem? (i := 376) (by decide +kernel)⟩
theorem lw_p17 : lw_okq (⟨"CourtHouse$Day", "run", "(LCourtHouse$Docket;)V"⟩, 7) := ⟨⟨by decide +kernel, by decide +kernel⟩, List.mem_of_getElem? (i := 108) (by decide +kernel), List.mem_of_getElem? (i := 395) (by decide +kernel), List.mem_of_getElem? (i := 396) (by decide +kernel)⟩
theorem lw_p18 : lw_okq (⟨"CourtHouse$Day", "passQuarter", "(LCourtHouse$Docket;II)V"⟩, 7) := ⟨⟨by decide +kernel, by decide +kernel⟩, List.mem_of_getElem? (i := 108) (by decide +kernel), List.mem_of_getElem? (i := 402) (by decide +kernel), List.mem_of_getElem? (i := 403) (by decide +kernel)⟩
theorem lw_p19 : lw_okq (⟨"CourtHouse$Day", "nextNotFolded", "(LCourtHouse$Docket;II)I"⟩, 7) := ⟨⟨by decide +kernel, by decide +kernel⟩, List.mem_of_getElem? (i := 108) (by decide +kernel), List.mem_of_getElem? (i := 406) (by decide +kernel), List.mem_of_getElem? (i := 407) (by decide +kernel)⟩
theorem lw_p20 : lw_okq (⟨"CourtHouse$Docket", "isFolded", "(I)Z"⟩, 9) := ⟨⟨by decide +kernel, by decide +kernel⟩, List.mem_of_getElem? (i := 23) (by decide +kernel), List.mem_of_getElem? (i := 411) (by decide +kernel), List.mem_of_getElem? (i := 412) (by decide +kernel)⟩
theorem lw_p21 : lw_okq (⟨"CourtHouse$Day", "close", "(IIII)V"⟩, 7) := ⟨⟨by decide +kernel, by decide +kernel⟩, List.mem_of_getElem? (i := 108) (by decide +kernel), List.mem_of_getElem? (i := 415) (by decide +kernel), List.mem_of_getElem? (i := 416) (by decide +kernel)⟩
theorem lw_p22 : lw_okq (⟨"CourtHouse$Day", "hindrance", "(LCourtHouse$Docket;II)I"⟩, 7) := ⟨⟨by decide +kernel, by decide +kernel⟩, List.mem_of_getElem? (i := 108) (by decide +kernel), List.mem_of_getElem? (i := 419) (by decide +kernel), List.mem_of_getElem? (i := 420) (by decide +kernel)⟩
theorem lw_p23 : lw_okq (⟨"CourtHouse$Day", "begin", "(LCourtHouse$Docket;II)V"⟩, 7) := ⟨⟨by decide +kernel, by decide +kernel⟩, List.mem_of_getElem? (i := 108) (by decide +kernel), List.mem_of_getElem? (i := 425) (by decide +kernel), List.mem_of_getElem? (i := 426) (by decide +kernel)⟩
theorem lw_p24 : lw_okq (⟨"CourtHouse$Docket", "takesQuarters", "(I)I"⟩, 9) := ⟨⟨by decide +kernel, by decide +kernel⟩, List.mem_of_getElem? (i := 23) (by decide +kernel), List.mem_of_getElem? (i := 429) (by decide +kernel), List.mem_of_getElem? (i := 430) (by decide +kernel)⟩
theorem lw_p25 : lw_okq (⟨"CourtHouse$Day", "waitFor", "(LCourtHouse$Docket;II)I"⟩, 7) := ⟨⟨by decide +kernel, by decide +kernel⟩, List.mem_of_getElem? (i := 108) (by decide +kernel), List.mem_of_getElem? (i := 438) (by decide +kernel), List.mem_of_getElem? (i := 439) (by decide +kernel)⟩
theorem lw_p26 : lw_okq (⟨"CourtHouse$Day", "waitOf", "(LCourtHouse$Docket;I)I"⟩, 7) := ⟨⟨by decide +kernel, by decide +kernel⟩, List.mem_of_getElem? (i := 108) (by decide +kernel), List.mem_of_getElem? (i := 454) (by decide +kernel), List.mem_of_getElem? (i := 455) (by decide +kernel)⟩
theorem lw_p27 : lw_okq (⟨"CourtHouse$Docket", "isCalled", "(I)Z"⟩, 9) := ⟨⟨by decide +kernel, by decide +kernel⟩, List.mem_of_getElem? (i := 23) (by decide +kernel), List.mem_of_getElem? (i := 463) (by decide +kernel), List.mem_of_getElem? (i := 464) (by decide +kernel)⟩
theorem lw_p28 : lw_okq (⟨"CourtHouse$Day", "hearingsOf", "(LCourtHouse$Docket;I)I"⟩, 7) := ⟨⟨by decide +kernel, by decide +kernel⟩, List.mem_of_getElem? (i := 108) (by decide +kernel), List.mem_of_getElem? (i := 469) (by decide +kernel), List.mem_of_getElem? (i := 470) (by decide +kernel)⟩
theorem lw_p29 : lw_okq (⟨"CourtHouse$People", "areApart", "(II)Z"⟩, 4) := ⟨⟨by decide +kernel, by decide +kernel⟩, List.mem_of_getElem? (i := 72) (by decide +kernel), List.mem_of_getElem? (i := 477) (by decide +kernel), List.mem_of_getElem? (i := 478) (by decide +kernel)⟩
theorem lw_p30 : lw_okq (⟨"CourtHouse$People", "setApart", "(IIZ)V"⟩, 4) := ⟨⟨by decide +kernel, by decide +kernel⟩, List.mem_of_getElem? (i := 72) (by decide +kernel), List.mem_of_getElem? (i := 482) (by decide +kernel), List.mem_of_getElem? (i := 483) (by decide +kernel)⟩
theorem lw_p31 : lw_okq (⟨"CourtHouse$Rooms", "give", "(LCourtHouse$People;LCourtHouse$Docket;LCourtHouse$Day;)Z"⟩, 5) := ⟨⟨by decide +kernel, by decide +kernel⟩, List.mem_of_getElem? (i := 140) (by decide +kernel), List.mem_of_getElem? (i := 491) (by decide +kernel), List.mem_of_getElem? (i := 492) (by decide +kernel)⟩
def lw_privs_2 : List (MethodName × Nat) := [(⟨"CourtHouse$Docket", "quarterFor", "(II)I"⟩, 9), (⟨"CourtHouse$Day", "run", "(LCourtHouse$Docket;)V"⟩, 7), (⟨"CourtHouse$Day", "passQuarter", "(LCourtHouse$Docket;II)V"⟩, 7), (⟨"CourtHouse$Day", "nextNotFolded", "(LCourtHouse$Docket;II)I"⟩, 7), (⟨"CourtHouse$Docket", "isFolded", "(I)Z"⟩, 9), (⟨"CourtHouse$Day", "close", "(IIII)V"⟩, 7), (⟨"CourtHouse$Day", "hindrance", "(LCourtHouse$Docket;II)I"⟩, 7), (⟨"CourtHouse$Day", "begin", "(LCourtHouse$Docket;II)V"⟩, 7), (⟨"CourtHouse$Docket", "takesQuarters", "(I)I"⟩, 9), (⟨"CourtHouse$Day", "waitFor", "(LCourtHouse$Docket;II)I"⟩, 7), (⟨"CourtHouse$Day", "waitOf", "(LCourtHouse$Docket;I)I"⟩, 7), (⟨"CourtHouse$Docket", "isCalled", "(I)Z"⟩, 9), (⟨"CourtHouse$Day", "hearingsOf", "(LCourtHouse$Docket;I)I"⟩, 7), (⟨"CourtHouse$People", "areApart", "(II)Z"⟩, 4), (⟨"CourtHouse$People", "setApart", "(IIZ)V"⟩, 4), (⟨"CourtHouse$Rooms", "give", "(LCourtHouse$People;LCourtHouse$Docket;LCourtHouse$Day;)Z"⟩, 5)]
theorem lw_r2 : ∀ q ∈ lw_privs_2, lw_okq q := List.forall_mem_cons.mpr ⟨lw_p16, List.forall_mem_cons.mpr ⟨lw_p17, List.forall_mem_cons.mpr ⟨lw_p18, List.forall_mem_cons.mpr ⟨lw_p19, List.forall_mem_cons.mpr ⟨lw_p20, List.forall_mem_cons.mpr ⟨lw_p21, List.forall_mem_cons.mpr ⟨lw_p22, List.forall_mem_cons.mpr ⟨lw_p23, List.forall_mem_cons.mpr ⟨lw_p24, List.forall_mem_cons.mpr ⟨lw_p25, List.forall_mem_cons.mpr ⟨lw_p26, List.forall_mem_cons.mpr ⟨lw_p27, List.forall_mem_cons.mpr ⟨lw_p28, List.forall_mem_cons.mpr ⟨lw_p29, List.forall_mem_cons.mpr ⟨lw_p30, List.forall_mem_cons.mpr ⟨lw_p31, fun _ h => absurd h List.not_mem_nil⟩⟩⟩⟩⟩⟩⟩⟩⟩⟩⟩⟩⟩⟩⟩⟩
theorem lw_p32 : lw_okq (⟨"CourtHouse$Rooms", "measureStay", "(LCourtHouse$Docket;LCourtHouse$Day;I)V"⟩, 5) := ⟨⟨by decide +kernel, by decide +kernel⟩, List.mem_of_getElem? (i := 140) (by decide +kernel), List.mem_of_getElem? (i := 496) (by decide +kernel), List.mem_of_getElem? (i := 497) (by decide +kernel)⟩
theorem lw_p33 : lw_okq (⟨"CourtHouse$Rooms", "findFoes", "(LCourtHouse$People;I)V"⟩, 5) := ⟨⟨by decide +kernel, by decide +kernel⟩, List.mem_of_getElem? (i := 140) (by decide +kernel), List.mem_of_getElem? (i := 504) (by decide +kernel), List.mem_of_getElem? (i := 505) (by decide +kernel)⟩
theorem lw_p34 : lw_okq (⟨"CourtHouse$Rooms", "isFree", "(II)Z"⟩, 5) := ⟨⟨by decide +kernel, by decide +kernel⟩, List.mem_of_getElem? (i := 140) (by decide +kernel), List.mem_of_getElem? (i := 512) (by decide +kernel), List.mem_of_getElem? (i := 513) (by decide +kernel)⟩
theorem lw_p35 : lw_okq (⟨"CourtHouse$Rooms", "enter", "(II)V"⟩, 5) := ⟨⟨by decide +kernel, by decide +kernel⟩, List.mem_of_getElem? (i := 140) (by decide +kernel), List.mem_of_getElem? (i := 516) (by decide +kernel), List.mem_of_getElem? (i := 517) (by decide +kernel)⟩
theorem lw_p36 : lw_okq (⟨"CourtHouse$Rooms", "leave", "(II)V"⟩, 5) := ⟨⟨by decide +kernel, by decide +kernel⟩, List.mem_of_getElem? (i := 140) (by decide +kernel), List.mem_of_getElem? (i := 520) (by decide +kernel), List.mem_of_getElem? (i := 521) (by decide +kernel)⟩
theorem lw_p37 : lw_okq (⟨"CourtHouse$Docket", "leaveList", "(I)V"⟩, 9) := ⟨⟨by decide +kernel, by decide +kernel⟩, List.mem_of_getElem? (i := 23) (by decide +kernel), List.mem_of_getElem? (i := 528) (by decide +kernel), List.mem_of_getElem? (i := 529) (by decide +kernel)⟩
theorem lw_p38 : lw_okq (⟨"CourtHouse$NoticeBook", "send", "(II)V"⟩, 4) := ⟨⟨by decide +kernel, by decide +kernel⟩, List.mem_of_getElem? (i := 163) (by decide +kernel), List.mem_of_getElem? (i := 534) (by decide +kernel), List.mem_of_getElem? (i := 535) (by decide +kernel)⟩
theorem lw_p39 : lw_okq (⟨"CourtHouse$NoticeBook", "isPending", "(II)Z"⟩, 4) := ⟨⟨by decide +kernel, by decide +kernel⟩, List.mem_of_getElem? (i := 163) (by decide +kernel), List.mem_of_getElem? (i := 538) (by decide +kernel), List.mem_of_getElem? (i := 539) (by decide +kernel)⟩
theorem lw_p40 : lw_okq (⟨"CourtHouse$NoticeBook", "readAll", "(I)I"⟩, 4) := ⟨⟨by decide +kernel, by decide +kernel⟩, List.mem_of_getElem? (i := 163) (by decide +kernel), List.mem_of_getElem? (i := 550) (by decide +kernel), List.mem_of_getElem? (i := 551) (by decide +kernel)⟩
theorem lw_p41 : lw_okq (⟨"CourtHouse$Sheets", "layOut", "(II)V"⟩, 2) := ⟨⟨by decide +kernel, by decide +kernel⟩, List.mem_of_getElem? (i := 187) (by decide +kernel), List.mem_of_getElem? (i := 562) (by decide +kernel), List.mem_of_getElem? (i := 563) (by decide +kernel)⟩
theorem lw_p42 : lw_okq (⟨"CourtHouse$Sheets", "isMissing", "(I)Z"⟩, 2) := ⟨⟨by decide +kernel, by decide +kernel⟩, List.mem_of_getElem? (i := 187) (by decide +kernel), List.mem_of_getElem? (i := 570) (by decide +kernel), List.mem_of_getElem? (i := 571) (by decide +kernel)⟩
theorem lw_p43 : lw_okq (⟨"CourtHouse$Sheets", "hasRun", "(III)Z"⟩, 2) := ⟨⟨by decide +kernel, by decide +kernel⟩, List.mem_of_getElem? (i := 187) (by decide +kernel), List.mem_of_getElem? (i := 575) (by decide +kernel), List.mem_of_getElem? (i := 576) (by decide +kernel)⟩
theorem lw_p44 : lw_okq (⟨"CourtHouse$Sheets", "valueAt", "(II)I"⟩, 2) := ⟨⟨by decide +kernel, by decide +kernel⟩, List.mem_of_getElem? (i := 187) (by decide +kernel), List.mem_of_getElem? (i := 580) (by decide +kernel), List.mem_of_getElem? (i := 581) (by decide +kernel)⟩
theorem lw_p45 : lw_okq (⟨"CourtHouse$Sheets", "put", "(IIB)V"⟩, 2) := ⟨⟨by decide +kernel, by decide +kernel⟩, List.mem_of_getElem? (i := 187) (by decide +kernel), List.mem_of_getElem? (i := 584) (by decide +kernel), List.mem_of_getElem? (i := 585) (by decide +kernel)⟩
theorem lw_p46 : lw_okq (⟨"CourtHouse$Sheets", "copyRun", "(IIIII)V"⟩, 2) := ⟨⟨by decide +kernel, by decide +kernel⟩, List.mem_of_getElem? (i := 187) (by decide +kernel), List.mem_of_getElem? (i := 592) (by decide +kernel), List.mem_of_getElem? (i := 593) (by decide +kernel)⟩
theorem lw_p47 : lw_okq (⟨"CourtHouse$NoticeBook", "unread", "()I"⟩, 4) := ⟨⟨by decide +kernel, by decide +kernel⟩, List.mem_of_getElem? (i := 163) (by decide +kernel), List.mem_of_getElem? (i := 608) (by decide +kernel), List.mem_of_getElem? (i := 609) (by decide +kernel)⟩
def lw_privs_3 : List (MethodName × Nat) := [(⟨"CourtHouse$Rooms", "measureStay", "(LCourtHouse$Docket;LCourtHouse$Day;I)V"⟩, 5), (⟨"CourtHouse$Rooms", "findFoes", "(LCourtHouse$People;I)V"⟩, 5), (⟨"CourtHouse$Rooms", "isFree", "(II)Z"⟩, 5), (⟨"CourtHouse$Rooms", "enter", "(II)V"⟩, 5), (⟨"CourtHouse$Rooms", "leave", "(II)V"⟩, 5), (⟨"CourtHouse$Docket", "leaveList", "(I)V"⟩, 9), (⟨"CourtHouse$NoticeBook", "send", "(II)V"⟩, 4), (⟨"CourtHouse$NoticeBook", "isPending", "(II)Z"⟩, 4), (⟨"CourtHouse$NoticeBook", "readAll", "(I)I"⟩, 4), (⟨"CourtHouse$Sheets", "layOut", "(II)V"⟩, 2), (⟨"CourtHouse$Sheets", "isMissing", "(I)Z"⟩, 2), (⟨"CourtHouse$Sheets", "hasRun", "(III)Z"⟩, 2), (⟨"CourtHouse$Sheets", "valueAt", "(II)I"⟩, 2), (⟨"CourtHouse$Sheets", "put", "(IIB)V"⟩, 2), (⟨"CourtHouse$Sheets", "copyRun", "(IIIII)V"⟩, 2), (⟨"CourtHouse$NoticeBook", "unread", "()I"⟩, 4)]
theorem lw_r3 : ∀ q ∈ lw_privs_3, lw_okq q := List.forall_mem_cons.mpr ⟨lw_p32, List.forall_mem_cons.mpr ⟨lw_p33, List.forall_mem_cons.mpr ⟨lw_p34, List.forall_mem_cons.mpr ⟨lw_p35, List.forall_mem_cons.mpr ⟨lw_p36, List.forall_mem_cons.mpr ⟨lw_p37, List.forall_mem_cons.mpr ⟨lw_p38, List.forall_mem_cons.mpr ⟨lw_p39, List.forall_mem_cons.mpr ⟨lw_p40, List.forall_mem_cons.mpr ⟨lw_p41, List.forall_mem_cons.mpr ⟨lw_p42, List.forall_mem_cons.mpr ⟨lw_p43, List.forall_mem_cons.mpr ⟨lw_p44, List.forall_mem_cons.mpr ⟨lw_p45, List.forall_mem_cons.mpr ⟨lw_p46, List.forall_mem_cons.mpr ⟨lw_p47, fun _ h => absurd h List.not_mem_nil⟩⟩⟩⟩⟩⟩⟩⟩⟩⟩⟩⟩⟩⟩⟩⟩
theorem lw_p48 : lw_okq (⟨"CourtHouse$People", "pairsApart", "()I"⟩, 4) := ⟨⟨by decide +kernel, by decide +kernel⟩, List.mem_of_getElem? (i := 72) (by decide +kernel), List.mem_of_getElem? (i := 612) (by decide +kernel), List.mem_of_getElem? (i := 613) (by decide +kernel)⟩
theorem lw_p49 : lw_okq (⟨"CourtHouse$Docket", "fatesTold", "()I"⟩, 9) := ⟨⟨by decide +kernel, by decide +kernel⟩, List.mem_of_getElem? (i := 23) (by decide +kernel), List.mem_of_getElem? (i := 622) (by decide +kernel), List.mem_of_getElem? (i := 623) (by decide +kernel)⟩
theorem lw_p50 : lw_okq (⟨"CourtHouse$Sheets", "present", "()I"⟩, 2) := ⟨⟨by decide +kernel, by decide +kernel⟩, List.mem_of_getElem? (i := 187) (by decide +kernel), List.mem_of_getElem? (i := 626) (by decide +kernel), List.mem_of_getElem? (i := 627) (by decide +kernel)⟩
theorem lw_p51 : lw_okq (⟨"CourtHouseModel", "enter", "(II)V"⟩, 31) := ⟨⟨by decide +kernel, by decide +kernel⟩, List.mem_of_getElem? (i := 631) (by decide +kernel), List.mem_of_getElem? (i := 743) (by decide +kernel), List.mem_of_getElem? (i := 744) (by decide +kernel)⟩
theorem lw_p52 : lw_okq (⟨"CourtHouseModel", "isWitness", "(I)Z"⟩, 31) := ⟨⟨by decide +kernel, by decide +kernel⟩, List.mem_of_getElem? (i := 631) (by decide +kernel), List.mem_of_getElem? (i := 755) (by decide +kernel), List.mem_of_getElem? (i := 756) (by decide +kernel)⟩
theorem lw_p53 : lw_okq (⟨"CourtHouseModel", "isCase", "(I)Z"⟩, 31) := ⟨⟨by decide +kernel, by decide +kernel⟩, List.mem_of_getElem? (i := 631) (by decide +kernel), List.mem_of_getElem? (i := 763) (by decide +kernel), List.mem_of_getElem? (i := 764) (by decide +kernel)⟩
theorem lw_p54 : lw_okq (⟨"CourtHouseModel", "needs1", "(II)Z"⟩, 31) := ⟨⟨by decide +kernel, by decide +kernel⟩, List.mem_of_getElem? (i := 631) (by decide +kernel), List.mem_of_getElem? (i := 767) (by decide +kernel), List.mem_of_getElem? (i := 768) (by decide +kernel)⟩
theorem lw_p55 : lw_okq (⟨"CourtHouseModel", "placeOf", "(I)I"⟩, 31) := ⟨⟨by decide +kernel, by decide +kernel⟩, List.mem_of_getElem? (i := 631) (by decide +kernel), List.mem_of_getElem? (i := 779) (by decide +kernel), List.mem_of_getElem? (i := 780) (by decide +kernel)⟩
theorem lw_p56 : lw_okq (⟨"CourtHouseModel", "weigh", "(I)V"⟩, 31) := ⟨⟨by decide +kernel, by decide +kernel⟩, List.mem_of_getElem? (i := 631) (by decide +kernel), List.mem_of_getElem? (i := 796) (by decide +kernel), List.mem_of_getElem? (i := 797) (by decide +kernel)⟩
theorem lw_p57 : lw_okq (⟨"CourtHouseModel", "costOf", "(II)J"⟩, 31) := ⟨⟨by decide +kernel, by decide +kernel⟩, List.mem_of_getElem? (i := 631) (by decide +kernel), List.mem_of_getElem? (i := 804) (by decide +kernel), List.mem_of_getElem? (i := 805) (by decide +kernel)⟩
theorem lw_p58 : lw_okq (⟨"CourtHouseModel", "weightOf", "(I)I"⟩, 31) := ⟨⟨by decide +kernel, by decide +kernel⟩, List.mem_of_getElem? (i := 631) (by decide +kernel), List.mem_of_getElem? (i := 808) (by decide +kernel), List.mem_of_getElem? (i := 809) (by decide +kernel)⟩
theorem lw_p59 : lw_okq (⟨"CourtHouseModel", "bestFor", "(I)I"⟩, 31) := ⟨⟨by decide +kernel, by decide +kernel⟩, List.mem_of_getElem? (i := 631) (by decide +kernel), List.mem_of_getElem? (i := 816) (by decide +kernel), List.mem_of_getElem? (i := 817) (by decide +kernel)⟩
theorem lw_p60 : lw_okq (⟨"CourtHouseModel", "runDay", "()V"⟩, 31) := ⟨⟨by decide +kernel, by decide +kernel⟩, List.mem_of_getElem? (i := 631) (by decide +kernel), List.mem_of_getElem? (i := 841) (by decide +kernel), List.mem_of_getElem? (i := 842) (by decide +kernel)⟩
theorem lw_p61 : lw_okq (⟨"CourtHouseModel", "goOn", "(II)V"⟩, 31) := ⟨⟨by decide +kernel, by decide +kernel⟩, List.mem_of_getElem? (i := 631) (by decide +kernel), List.mem_of_getElem? (i := 845) (by decide +kernel), List.mem_of_getElem? (i := 846) (by decide +kernel)⟩
theorem lw_p62 : lw_okq (⟨"CourtHouseModel", "isOn", "(II)Z"⟩, 31) := ⟨⟨by decide +kernel, by decide +kernel⟩, List.mem_of_getElem? (i := 631) (by decide +kernel), List.mem_of_getElem? (i := 849) (by decide +kernel), List.mem_of_getElem? (i := 850) (by decide +kernel)⟩
theorem lw_p63 : lw_okq (⟨"CourtHouseModel", "isFolded", "(I)Z"⟩, 31) := ⟨⟨by decide +kernel, by decide +kernel⟩, List.mem_of_getElem? (i := 631) (by decide +kernel), List.mem_of_getElem? (i := 853) (by decide +kernel), List.mem_of_getElem? (i := 854) (by decide +kernel)⟩
def lw_privs_4 : List (MethodName × Nat) := [(⟨"CourtHouse$People", "pairsApart", "()I"⟩, 4), (⟨"CourtHouse$Docket", "fatesTold", "()I"⟩, 9), (⟨"CourtHouse$Sheets", "present", "()I"⟩, 2), (⟨"CourtHouseModel", "enter", "(II)V"⟩, 31), (⟨"CourtHouseModel", "isWitness", "(I)Z"⟩, 31), (⟨"CourtHouseModel", "isCase", "(I)Z"⟩, 31), (⟨"CourtHouseModel", "needs1", "(II)Z"⟩, 31), (⟨"CourtHouseModel", "placeOf", "(I)I"⟩, 31), (⟨"CourtHouseModel", "weigh", "(I)V"⟩, 31), (⟨"CourtHouseModel", "costOf", "(II)J"⟩, 31), (⟨"CourtHouseModel", "weightOf", "(I)I"⟩, 31), (⟨"CourtHouseModel", "bestFor", "(I)I"⟩, 31), (⟨"CourtHouseModel", "runDay", "()V"⟩, 31), (⟨"CourtHouseModel", "goOn", "(II)V"⟩, 31), (⟨"CourtHouseModel", "isOn", "(II)Z"⟩, 31), (⟨"CourtHouseModel", "isFolded", "(I)Z"⟩, 31)]
theorem lw_r4 : ∀ q ∈ lw_privs_4, lw_okq q := List.forall_mem_cons.mpr ⟨lw_p48, List.forall_mem_cons.mpr ⟨lw_p49, List.forall_mem_cons.mpr ⟨lw_p50, List.forall_mem_cons.mpr ⟨lw_p51, List.forall_mem_cons.mpr ⟨lw_p52, List.forall_mem_cons.mpr ⟨lw_p53, List.forall_mem_cons.mpr ⟨lw_p54, List.forall_mem_cons.mpr ⟨lw_p55, List.forall_mem_cons.mpr ⟨lw_p56, List.forall_mem_cons.mpr ⟨lw_p57, List.forall_mem_cons.mpr ⟨lw_p58, List.forall_mem_cons.mpr ⟨lw_p59, List.forall_mem_cons.mpr ⟨lw_p60, List.forall_mem_cons.mpr ⟨lw_p61, List.forall_mem_cons.mpr ⟨lw_p62, List.forall_mem_cons.mpr ⟨lw_p63, fun _ h => absurd h List.not_mem_nil⟩⟩⟩⟩⟩⟩⟩⟩⟩⟩⟩⟩⟩⟩⟩⟩
theorem lw_p64 : lw_okq (⟨"CourtHouseModel", "whyNot", "(II)I"⟩, 31) := ⟨⟨by decide +kernel, by decide +kernel⟩, List.mem_of_getElem? (i := 631) (by decide +kernel), List.mem_of_getElem? (i := 857) (by decide +kernel), List.mem_of_getElem? (i := 858) (by decide +kernel)⟩
theorem lw_p65 : lw_okq (⟨"CourtHouseModel", "isBusy", "(III)Z"⟩, 31) := ⟨⟨by decide +kernel, by decide +kernel⟩, List.mem_of_getElem? (i := 631) (by decide +kernel), List.mem_of_getElem? (i := 861) (by decide +kernel), List.mem_of_getElem? (i := 862) (by decide +kernel)⟩
theorem lw_p66 : lw_okq (⟨"CourtHouseModel", "waitedFor", "(II)I"⟩, 31) := ⟨⟨by decide +kernel, by decide +kernel⟩, List.mem_of_getElem? (i := 631) (by decide +kernel), List.mem_of_getElem? (i := 869) (by decide +kernel), List.mem_of_getElem? (i := 870) (by decide +kernel)⟩
theorem lw_p67 : lw_okq (⟨"CourtHouseModel", "waitedIn", "(I)I"⟩, 31) := ⟨⟨by decide +kernel, by decide +kernel⟩, List.mem_of_getElem? (i := 631) (by decide +kernel), List.mem_of_getElem? (i := 881) (by decide +kernel), List.mem_of_getElem? (i := 882) (by decide +kernel)⟩
theorem lw_p68 : lw_okq (⟨"CourtHouseModel", "isCalled", "(I)Z"⟩, 31) := ⟨⟨by decide +kernel, by decide +kernel⟩, List.mem_of_getElem? (i := 631) (by decide +kernel), List.mem_of_getElem? (i := 889) (by decide +kernel), List.mem_of_getElem? (i := 890) (by decide +kernel)⟩
theorem lw_p69 : lw_okq (⟨"CourtHouseModel", "span", "(I)V"⟩, 31) := ⟨⟨by decide +kernel, by decide +kernel⟩, List.mem_of_getElem? (i := 631) (by decide +kernel), List.mem_of_getElem? (i := 902) (by decide +kernel), List.mem_of_getElem? (i := 903) (by decide +kernel)⟩
theorem lw_p70 : lw_okq (⟨"CourtHouseModel", "giveRooms", "(I)Z"⟩, 31) := ⟨⟨by decide +kernel, by decide +kernel⟩, List.mem_of_getElem? (i := 631) (by decide +kernel), List.mem_of_getElem? (i := 906) (by decide +kernel), List.mem_of_getElem? (i := 907) (by decide +kernel)⟩
theorem lw_p71 : lw_okq (⟨"CourtHouseModel", "mayBe", "(II)Z"⟩, 31) := ⟨⟨by decide +kernel, by decide +kernel⟩, List.mem_of_getElem? (i := 631) (by decide +kernel), List.mem_of_getElem? (i := 910) (by decide +kernel), List.mem_of_getElem? (i := 911) (by decide +kernel)⟩
theorem lw_p72 : lw_okq (⟨"CourtHouseModel", "notify", "(II)V"⟩, 31) := ⟨⟨by decide +kernel, by decide +kernel⟩, List.mem_of_getElem? (i := 631) (by decide +kernel), List.mem_of_getElem? (i := 918) (by decide +kernel), List.mem_of_getElem? (i := 919) (by decide +kernel)⟩
def lw_privs_5 : List (MethodName × Nat) := [(⟨"CourtHouseModel", "whyNot", "(II)I"⟩, 31), (⟨"CourtHouseModel", "isBusy", "(III)Z"⟩, 31), (⟨"CourtHouseModel", "waitedFor", "(II)I"⟩, 31), (⟨"CourtHouseModel", "waitedIn", "(I)I"⟩, 31), (⟨"CourtHouseModel", "isCalled", "(I)Z"⟩, 31), (⟨"CourtHouseModel", "span", "(I)V"⟩, 31), (⟨"CourtHouseModel", "giveRooms", "(I)Z"⟩, 31), (⟨"CourtHouseModel", "mayBe", "(II)Z"⟩, 31), (⟨"CourtHouseModel", "notify", "(II)V"⟩, 31)]
theorem lw_r5 : ∀ q ∈ lw_privs_5, lw_okq q := List.forall_mem_cons.mpr ⟨lw_p64, List.forall_mem_cons.mpr ⟨lw_p65, List.forall_mem_cons.mpr ⟨lw_p66, List.forall_mem_cons.mpr ⟨lw_p67, List.forall_mem_cons.mpr ⟨lw_p68, List.forall_mem_cons.mpr ⟨lw_p69, List.forall_mem_cons.mpr ⟨lw_p70, List.forall_mem_cons.mpr ⟨lw_p71, List.forall_mem_cons.mpr ⟨lw_p72, fun _ h => absurd h List.not_mem_nil⟩⟩⟩⟩⟩⟩⟩⟩⟩
def lw_privs : List (MethodName × Nat) := lw_privs_1 ++ (lw_privs_2 ++ (lw_privs_3 ++ (lw_privs_4 ++ (lw_privs_5))))
def lw_tbl : List Cond := k2_sels lw_privs ++ tables_1
theorem lw_privs_ok : ∀ q ∈ lw_privs, lw_okq q := by
  show ∀ q ∈ lw_privs_1 ++ (lw_privs_2 ++ (lw_privs_3 ++ (lw_privs_4 ++ (lw_privs_5)))), lw_okq q
  exact List.forall_mem_append.mpr ⟨lw_r1, List.forall_mem_append.mpr ⟨lw_r2, List.forall_mem_append.mpr ⟨lw_r3, List.forall_mem_append.mpr ⟨lw_r4, lw_r5⟩⟩⟩⟩
/-! ===== BEGIN words of one list among another's, by their places ===== -/
theorem goodIn_r {big : List Cond} (ws : List Cond) (ps : List Nat) (hp : ws = ps.filterMap (fun i => big[i]?)) (h : ws.all goodWord = true) : GoodIn big ws := by
  intro w hw
  have h1 := List.all_eq_true.mp h w hw
  rw [hp] at hw
  obtain ⟨i, -, hi⟩ := List.mem_filterMap.mp hw
  have hm : w ∈ big := by first | exact List.mem_of_getElem? hi | exact List.getElem?_mem hi
  exact ⟨hm, good_of_word h1⟩
theorem goodIn_app {big a b : List Cond} (ha : GoodIn big a) (hb : GoodIn big b) : GoodIn big (a ++ b) := fun w h => (List.mem_append.mp h).elim (ha w) (hb w)
theorem goodIn_ca {big a b : List Cond} {c : Cond} (ha : GoodIn big (c :: a)) (hb : GoodIn big b) : GoodIn big (c :: (a ++ b)) := fun w h => (List.mem_cons.mp h).elim (fun e => ha w (List.mem_cons.mpr (Or.inl e))) (fun h => (List.mem_append.mp h).elim (fun h => ha w (List.mem_cons.mpr (Or.inr h))) (hb w))
theorem goodIn_sub {big ws : List Cond} (hm : ∀ w ∈ ws, w ∈ big) (h : ws.all goodWord = true) : GoodIn big ws := fun w hw => ⟨hm w hw, good_of_word (List.all_eq_true.mp h w hw)⟩
/-! ===== END ===== -/

/-! ===== BEGIN printed: names, fields, word lists, decode rows ===== -/
def RX0 : String := "CourtHouse$Chances"
def TX0 : u_T := fun k => match k with
  | _ => ("CourtHouse$Chances", "weightAt", "[J", true)
def tyX0 : Nat → FieldType := fun k => match k with
  | _ => .array .long
abbrev wsX00 : List Cond := u_ws RX0 TX0 1
theorem nmX0 : ∀ a, a < 1 → ∀ b, b < 1 → a ≠ b → (TX0 a).2.1 ≠ (TX0 b).2.1 := by decide +kernel
theorem tyX0_ok : ∀ k, k < 1 → parseFieldDescriptor (TX0 k).2.2.1 = some (tyX0 k) := by decide +kernel
abbrev cX0_init : ByteArray := prog_2_method_1_code
def yX0_init : MethodName := ⟨RX0, "<init>", "()V"⟩
abbrev cX0_weigh : ByteArray := prog_2_method_2_code
def yX0_weigh : MethodName := ⟨RX0, "weigh", "(LCourtHouse$Docket;I)V"⟩
abbrev cX0_putAhead : ByteArray := prog_2_method_3_code
def yX0_putAhead : MethodName := ⟨RX0, "putAhead", "(II)V"⟩
abbrev cX0_costAt : ByteArray := prog_2_method_4_code
def yX0_costAt : MethodName := ⟨RX0, "costAt", "(IJJ)J"⟩
abbrev cX0_cheapestFrom : ByteArray := prog_2_method_5_code
def yX0_cheapestFrom : MethodName := ⟨RX0, "cheapestFrom", "(IJJ)I"⟩
def RX1 : String := "CourtHouse$Day"
def TX1 : u_T := fun k => match k with
  | 0 => ("CourtHouse$Day", "beganAt", "[I", true)
  | 1 => ("CourtHouse$Day", "endsAt", "[I", true)
  | 2 => ("CourtHouse$Day", "idleOf", "[I", true)
  | 3 => ("CourtHouse$Day", "nextPlace", "[I", true)
  | 4 => ("CourtHouse$Day", "courtFreeAt", "[I", true)
  | 5 => ("CourtHouse$Day", "witnessFreeAt", "[I", true)
  | _ => ("CourtHouse$Day", "open", "I", false)
def tyX1 : Nat → FieldType := fun k => match k with
  | 0 => .array .int
  | 1 => .array .int
  | 2 => .array .int
  | 3 => .array .int
  | 4 => .array .int
  | 5 => .array .int
  | _ => .int
abbrev wsX10 : List Cond := u_ws RX1 TX1 7
theorem nmX1 : ∀ a, a < 7 → ∀ b, b < 7 → a ≠ b → (TX1 a).2.1 ≠ (TX1 b).2.1 := by decide +kernel
theorem tyX1_ok : ∀ k, k < 7 → parseFieldDescriptor (TX1 k).2.2.1 = some (tyX1 k) := by decide +kernel
abbrev cX1_init : ByteArray := prog_3_method_1_code
def yX1_init : MethodName := ⟨RX1, "<init>", "()V"⟩
abbrev cX1_run : ByteArray := prog_3_method_2_code
def yX1_run : MethodName := ⟨RX1, "run", "(LCourtHouse$Docket;)V"⟩
abbrev cX1_passQuarter : ByteArray := prog_3_method_3_code
def yX1_passQuarter : MethodName := ⟨RX1, "passQuarter", "(LCourtHouse$Docket;II)V"⟩
abbrev cX1_nextNotFolded : ByteArray := prog_3_method_4_code
def yX1_nextNotFolded : MethodName := ⟨RX1, "nextNotFolded", "(LCourtHouse$Docket;II)I"⟩
abbrev cX1_hindrance : ByteArray := prog_3_method_5_code
def yX1_hindrance : MethodName := ⟨RX1, "hindrance", "(LCourtHouse$Docket;II)I"⟩
abbrev cX1_begin : ByteArray := prog_3_method_6_code
def yX1_begin : MethodName := ⟨RX1, "begin", "(LCourtHouse$Docket;II)V"⟩
abbrev cX1_close : ByteArray := prog_3_method_7_code
def yX1_close : MethodName := ⟨RX1, "close", "(IIII)V"⟩
abbrev cX1_waitFor : ByteArray := prog_3_method_8_code
def yX1_waitFor : MethodName := ⟨RX1, "waitFor", "(LCourtHouse$Docket;II)I"⟩
abbrev cX1_waitOf : ByteArray := prog_3_method_9_code
def yX1_waitOf : MethodName := ⟨RX1, "waitOf", "(LCourtHouse$Docket;I)I"⟩
abbrev cX1_hearingsOf : ByteArray := prog_3_method_10_code
def yX1_hearingsOf : MethodName := ⟨RX1, "hearingsOf", "(LCourtHouse$Docket;I)I"⟩
def RX2 : String := "CourtHouse$Docket"
def TX2 : u_T := fun k => match k with
  | 0 => ("CourtHouse$Docket", "courtOf", "[I", true)
  | 1 => ("CourtHouse$Docket", "lengthOf", "[I", true)
  | 2 => ("CourtHouse$Docket", "foldOf", "[I", true)
  | 3 => ("CourtHouse$Docket", "needed", "[I", true)
  | 4 => ("CourtHouse$Docket", "fateOf", "[I", true)
  | 5 => ("CourtHouse$Docket", "calledFor", "[I", true)
  | 6 => ("CourtHouse$Docket", "listed", "[I", true)
  | 7 => ("CourtHouse$Docket", "listSize", "[I", true)
  | _ => ("CourtHouse$Docket", "size", "I", false)
def tyX2 : Nat → FieldType := fun k => match k with
  | 0 => .array .int
  | 1 => .array .int
  | 2 => .array .int
  | 3 => .array .int
  | 4 => .array .int
  | 5 => .array .int
  | 6 => .array .int
  | 7 => .array .int
  | _ => .int
abbrev wsX20 : List Cond := u_ws RX2 TX2 9
theorem nmX2 : ∀ a, a < 9 → ∀ b, b < 9 → a ≠ b → (TX2 a).2.1 ≠ (TX2 b).2.1 := by decide +kernel
theorem tyX2_ok : ∀ k, k < 9 → parseFieldDescriptor (TX2 k).2.2.1 = some (tyX2 k) := by decide +kernel
abbrev cX2_init : ByteArray := prog_4_method_1_code
def yX2_init : MethodName := ⟨RX2, "<init>", "()V"⟩
abbrev cX2_has : ByteArray := prog_4_method_2_code
def yX2_has : MethodName := ⟨RX2, "has", "(I)Z"⟩
abbrev cX2_enter : ByteArray := prog_4_method_3_code
def yX2_enter : MethodName := ⟨RX2, "enter", "(III)I"⟩
abbrev cX2_caseAt : ByteArray := prog_4_method_4_code
def yX2_caseAt : MethodName := ⟨RX2, "caseAt", "(II)I"⟩
abbrev cX2_placeOf : ByteArray := prog_4_method_5_code
def yX2_placeOf : MethodName := ⟨RX2, "placeOf", "(I)I"⟩
abbrev cX2_joinList : ByteArray := prog_4_method_6_code
def yX2_joinList : MethodName := ⟨RX2, "joinList", "(II)V"⟩
abbrev cX2_leaveList : ByteArray := prog_4_method_7_code
def yX2_leaveList : MethodName := ⟨RX2, "leaveList", "(I)V"⟩
abbrev cX2_hasNeedOf : ByteArray := prog_4_method_8_code
def yX2_hasNeedOf : MethodName := ⟨RX2, "hasNeedOf", "(II)Z"⟩
abbrev cX2_isCalled : ByteArray := prog_4_method_9_code
def yX2_isCalled : MethodName := ⟨RX2, "isCalled", "(I)Z"⟩
abbrev cX2_quarterFor : ByteArray := prog_4_method_10_code
def yX2_quarterFor : MethodName := ⟨RX2, "quarterFor", "(II)I"⟩
abbrev cX2_callFor : ByteArray := prog_4_method_11_code
def yX2_callFor : MethodName := ⟨RX2, "callFor", "(III)V"⟩
abbrev cX2_isFolded : ByteArray := prog_4_method_12_code
def yX2_isFolded : MethodName := ⟨RX2, "isFolded", "(I)Z"⟩
abbrev cX2_takesQuarters : ByteArray := prog_4_method_13_code
def yX2_takesQuarters : MethodName := ⟨RX2, "takesQuarters", "(I)I"⟩
abbrev cX2_fatesTold : ByteArray := prog_4_method_14_code
def yX2_fatesTold : MethodName := ⟨RX2, "fatesTold", "()I"⟩
def RX3 : String := "CourtHouse$NoticeBook"
def TX3 : u_T := fun k => match k with
  | 0 => ("CourtHouse$NoticeBook", "witnessOf", "[I", true)
  | 1 => ("CourtHouse$NoticeBook", "caseOf", "[I", true)
  | 2 => ("CourtHouse$NoticeBook", "wasRead", "[Z", true)
  | _ => ("CourtHouse$NoticeBook", "size", "I", false)
def tyX3 : Nat → FieldType := fun k => match k with
  | 0 => .array .int
  | 1 => .array .int
  | 2 => .array .boolean
  | _ => .int
abbrev wsX30 : List Cond := u_ws RX3 TX3 4
theorem nmX3 : ∀ a, a < 4 → ∀ b, b < 4 → a ≠ b → (TX3 a).2.1 ≠ (TX3 b).2.1 := by decide +kernel
theorem tyX3_ok : ∀ k, k < 4 → parseFieldDescriptor (TX3 k).2.2.1 = some (tyX3 k) := by decide +kernel
abbrev cX3_init : ByteArray := prog_5_method_1_code
def yX3_init : MethodName := ⟨RX3, "<init>", "()V"⟩
abbrev cX3_send : ByteArray := prog_5_method_2_code
def yX3_send : MethodName := ⟨RX3, "send", "(II)V"⟩
abbrev cX3_isPending : ByteArray := prog_5_method_3_code
def yX3_isPending : MethodName := ⟨RX3, "isPending", "(II)Z"⟩
abbrev cX3_readAll : ByteArray := prog_5_method_4_code
def yX3_readAll : MethodName := ⟨RX3, "readAll", "(I)I"⟩
abbrev cX3_unread : ByteArray := prog_5_method_5_code
def yX3_unread : MethodName := ⟨RX3, "unread", "()I"⟩
def RX4 : String := "CourtHouse$People"
def TX4 : u_T := fun k => match k with
  | 0 => ("CourtHouse$People", "kindOf", "[I", true)
  | 1 => ("CourtHouse$People", "wayOf", "[I", true)
  | 2 => ("CourtHouse$People", "apartFrom", "[I", true)
  | _ => ("CourtHouse$People", "size", "I", false)
def tyX4 : Nat → FieldType := fun k => match k with
  | 0 => .array .int
  | 1 => .array .int
  | 2 => .array .int
  | _ => .int
abbrev wsX40 : List Cond := u_ws RX4 TX4 4
theorem nmX4 : ∀ a, a < 4 → ∀ b, b < 4 → a ≠ b → (TX4 a).2.1 ≠ (TX4 b).2.1 := by decide +kernel
theorem tyX4_ok : ∀ k, k < 4 → parseFieldDescriptor (TX4 k).2.2.1 = some (tyX4 k) := by decide +kernel
abbrev cX4_init : ByteArray := prog_6_method_1_code
def yX4_init : MethodName := ⟨RX4, "<init>", "()V"⟩
abbrev cX4_has : ByteArray := prog_6_method_2_code
def yX4_has : MethodName := ⟨RX4, "has", "(I)Z"⟩
abbrev cX4_enter : ByteArray := prog_6_method_3_code
def yX4_enter : MethodName := ⟨RX4, "enter", "(II)I"⟩
abbrev cX4_areApart : ByteArray := prog_6_method_4_code
def yX4_areApart : MethodName := ⟨RX4, "areApart", "(II)Z"⟩
abbrev cX4_setApart : ByteArray := prog_6_method_5_code
def yX4_setApart : MethodName := ⟨RX4, "setApart", "(IIZ)V"⟩
abbrev cX4_pairsApart : ByteArray := prog_6_method_6_code
def yX4_pairsApart : MethodName := ⟨RX4, "pairsApart", "()I"⟩
def RX5 : String := "CourtHouse$Rooms"
def TX5 : u_T := fun k => match k with
  | 0 => ("CourtHouse$Rooms", "roomOf", "[I", true)
  | 1 => ("CourtHouse$Rooms", "from", "[I", true)
  | 2 => ("CourtHouse$Rooms", "until", "[I", true)
  | 3 => ("CourtHouse$Rooms", "foes", "[I", true)
  | _ => ("CourtHouse$Rooms", "inRoom", "[I", true)
def tyX5 : Nat → FieldType := fun k => match k with
  | 0 => .array .int
  | 1 => .array .int
  | 2 => .array .int
  | 3 => .array .int
  | _ => .array .int
abbrev wsX50 : List Cond := u_ws RX5 TX5 5
theorem nmX5 : ∀ a, a < 5 → ∀ b, b < 5 → a ≠ b → (TX5 a).2.1 ≠ (TX5 b).2.1 := by decide +kernel
theorem tyX5_ok : ∀ k, k < 5 → parseFieldDescriptor (TX5 k).2.2.1 = some (tyX5 k) := by decide +kernel
abbrev cX5_init : ByteArray := prog_7_method_1_code
def yX5_init : MethodName := ⟨RX5, "<init>", "()V"⟩
abbrev cX5_give : ByteArray := prog_7_method_2_code
def yX5_give : MethodName := ⟨RX5, "give", "(LCourtHouse$People;LCourtHouse$Docket;LCourtHouse$Day;)Z"⟩
abbrev cX5_measureStay : ByteArray := prog_7_method_3_code
def yX5_measureStay : MethodName := ⟨RX5, "measureStay", "(LCourtHouse$Docket;LCourtHouse$Day;I)V"⟩
abbrev cX5_findFoes : ByteArray := prog_7_method_4_code
def yX5_findFoes : MethodName := ⟨RX5, "findFoes", "(LCourtHouse$People;I)V"⟩
abbrev cX5_settle : ByteArray := prog_7_method_5_code
def yX5_settle : MethodName := ⟨RX5, "settle", "(LCourtHouse$Rooms;LCourtHouse$People;I)Z"⟩
abbrev cX5_isFree : ByteArray := prog_7_method_6_code
def yX5_isFree : MethodName := ⟨RX5, "isFree", "(II)Z"⟩
abbrev cX5_enter : ByteArray := prog_7_method_7_code
def yX5_enter : MethodName := ⟨RX5, "enter", "(II)V"⟩
abbrev cX5_leave : ByteArray := prog_7_method_8_code
def yX5_leave : MethodName := ⟨RX5, "leave", "(II)V"⟩
def RX6 : String := "CourtHouse$Sheets"
def TX6 : u_T := fun k => match k with
  | 0 => ("CourtHouse$Sheets", "row", "[B", true)
  | _ => ("CourtHouse$Sheets", "sizeOf", "[I", true)
def tyX6 : Nat → FieldType := fun k => match k with
  | 0 => .array .byte
  | _ => .array .int
abbrev wsX60 : List Cond := u_ws RX6 TX6 2
theorem nmX6 : ∀ a, a < 2 → ∀ b, b < 2 → a ≠ b → (TX6 a).2.1 ≠ (TX6 b).2.1 := by decide +kernel
theorem tyX6_ok : ∀ k, k < 2 → parseFieldDescriptor (TX6 k).2.2.1 = some (tyX6 k) := by decide +kernel
abbrev cX6_init : ByteArray := prog_8_method_1_code
def yX6_init : MethodName := ⟨RX6, "<init>", "()V"⟩
abbrev cX6_isMissing : ByteArray := prog_8_method_2_code
def yX6_isMissing : MethodName := ⟨RX6, "isMissing", "(I)Z"⟩
abbrev cX6_layOut : ByteArray := prog_8_method_3_code
def yX6_layOut : MethodName := ⟨RX6, "layOut", "(II)V"⟩
abbrev cX6_hasRun : ByteArray := prog_8_method_4_code
def yX6_hasRun : MethodName := ⟨RX6, "hasRun", "(III)Z"⟩
abbrev cX6_valueAt : ByteArray := prog_8_method_5_code
def yX6_valueAt : MethodName := ⟨RX6, "valueAt", "(II)I"⟩
abbrev cX6_put : ByteArray := prog_8_method_6_code
def yX6_put : MethodName := ⟨RX6, "put", "(IIB)V"⟩
abbrev cX6_copyRun : ByteArray := prog_8_method_7_code
def yX6_copyRun : MethodName := ⟨RX6, "copyRun", "(IIIII)V"⟩
abbrev cX6_present : ByteArray := prog_8_method_8_code
def yX6_present : MethodName := ⟨RX6, "present", "()I"⟩
def RX7 : String := "CourtHouse"
def TX7 : u_T := fun k => match k with
  | 0 => ("CourtHouse", "docket", "LCourtHouse$Docket;", true)
  | 1 => ("CourtHouse", "people", "LCourtHouse$People;", true)
  | 2 => ("CourtHouse", "chances", "LCourtHouse$Chances;", true)
  | 3 => ("CourtHouse", "day", "LCourtHouse$Day;", true)
  | 4 => ("CourtHouse", "rooms", "LCourtHouse$Rooms;", true)
  | 5 => ("CourtHouse", "notices", "LCourtHouse$NoticeBook;", true)
  | 6 => ("CourtHouse", "sheets", "LCourtHouse$Sheets;", true)
  | _ => ("CourtHouse", "rules", "[I", true)
def tyX7 : Nat → FieldType := fun k => match k with
  | 0 => .object "CourtHouse$Docket"
  | 1 => .object "CourtHouse$People"
  | 2 => .object "CourtHouse$Chances"
  | 3 => .object "CourtHouse$Day"
  | 4 => .object "CourtHouse$Rooms"
  | 5 => .object "CourtHouse$NoticeBook"
  | 6 => .object "CourtHouse$Sheets"
  | _ => .array .int
abbrev wsX70 : List Cond := u_ws RX7 TX7 8
theorem nmX7 : ∀ a, a < 8 → ∀ b, b < 8 → a ≠ b → (TX7 a).2.1 ≠ (TX7 b).2.1 := by decide +kernel
theorem tyX7_ok : ∀ k, k < 8 → parseFieldDescriptor (TX7 k).2.2.1 = some (tyX7 k) := by decide +kernel
abbrev cX7_init : ByteArray := prog_1_method_1_code
def yX7_init : MethodName := ⟨RX7, "<init>", "()V"⟩
abbrev cX7_newCase : ByteArray := prog_1_method_2_code
def yX7_newCase : MethodName := ⟨RX7, "newCase", "(III)J"⟩
abbrev cX7_witness : ByteArray := prog_1_method_3_code
def yX7_witness : MethodName := ⟨RX7, "witness", "(II)J"⟩
abbrev cX7_isOf : ByteArray := prog_1_method_4_code
def yX7_isOf : MethodName := ⟨RX7, "isOf", "(II)J"⟩
abbrev cX7_needs : ByteArray := prog_1_method_5_code
def yX7_needs : MethodName := ⟨RX7, "needs", "(II)J"⟩
abbrev cX7_fold : ByteArray := prog_1_method_6_code
def yX7_fold : MethodName := ⟨RX7, "fold", "(II)J"⟩
abbrev cX7_told : ByteArray := prog_1_method_7_code
def yX7_told : MethodName := ⟨RX7, "told", "(II)J"⟩
abbrev cX7_inList : ByteArray := prog_1_method_8_code
def yX7_inList : MethodName := ⟨RX7, "inList", "(II)J"⟩
abbrev cX7_rule : ByteArray := prog_1_method_9_code
def yX7_rule : MethodName := ⟨RX7, "rule", "(II)J"⟩
abbrev cX7_weight : ByteArray := prog_1_method_10_code
def yX7_weight : MethodName := ⟨RX7, "weight", "(II)J"⟩
abbrev cX7_cost : ByteArray := prog_1_method_11_code
def yX7_cost : MethodName := ⟨RX7, "cost", "(II)J"⟩
abbrev cX7_best : ByteArray := prog_1_method_12_code
def yX7_best : MethodName := ⟨RX7, "best", "(I)J"⟩
abbrev cX7_call : ByteArray := prog_1_method_13_code
def yX7_call : MethodName := ⟨RX7, "call", "(III)J"⟩
abbrev cX7_called : ByteArray := prog_1_method_14_code
def yX7_called : MethodName := ⟨RX7, "called", "(II)J"⟩
abbrev cX7_plan : ByteArray := prog_1_method_15_code
def yX7_plan : MethodName := ⟨RX7, "plan", "(I)J"⟩
abbrev cX7_fate : ByteArray := prog_1_method_16_code
def yX7_fate : MethodName := ⟨RX7, "fate", "(II)J"⟩
abbrev cX7_begins : ByteArray := prog_1_method_17_code
def yX7_begins : MethodName := ⟨RX7, "begins", "(II)J"⟩
abbrev cX7_waited : ByteArray := prog_1_method_18_code
def yX7_waited : MethodName := ⟨RX7, "waited", "(II)J"⟩
abbrev cX7_idle : ByteArray := prog_1_method_19_code
def yX7_idle : MethodName := ⟨RX7, "idle", "(II)J"⟩
abbrev cX7_waits : ByteArray := prog_1_method_20_code
def yX7_waits : MethodName := ⟨RX7, "waits", "()J"⟩
abbrev cX7_pay : ByteArray := prog_1_method_21_code
def yX7_pay : MethodName := ⟨RX7, "pay", "(I)J"⟩
abbrev cX7_apart : ByteArray := prog_1_method_22_code
def yX7_apart : MethodName := ⟨RX7, "apart", "(III)J"⟩
abbrev cX7_room : ByteArray := prog_1_method_23_code
def yX7_room : MethodName := ⟨RX7, "room", "(I)J"⟩
abbrev cX7_move : ByteArray := prog_1_method_24_code
def yX7_move : MethodName := ⟨RX7, "move", "(II)J"⟩
abbrev cX7_notice : ByteArray := prog_1_method_25_code
def yX7_notice : MethodName := ⟨RX7, "notice", "(II)J"⟩
abbrev cX7_read : ByteArray := prog_1_method_26_code
def yX7_read : MethodName := ⟨RX7, "read", "(I)J"⟩
abbrev cX7_sheet : ByteArray := prog_1_method_27_code
def yX7_sheet : MethodName := ⟨RX7, "sheet", "(II)J"⟩
abbrev cX7_mark : ByteArray := prog_1_method_28_code
def yX7_mark : MethodName := ⟨RX7, "mark", "(III)J"⟩
abbrev cX7_copy : ByteArray := prog_1_method_29_code
def yX7_copy : MethodName := ⟨RX7, "copy", "(IIIII)J"⟩
abbrev cX7_take : ByteArray := prog_1_method_30_code
def yX7_take : MethodName := ⟨RX7, "take", "(I)J"⟩
abbrev cX7_count : ByteArray := prog_1_method_31_code
def yX7_count : MethodName := ⟨RX7, "count", "(I)J"⟩
abbrev cX7_isWithin : ByteArray := prog_1_method_32_code
def yX7_isWithin : MethodName := ⟨RX7, "isWithin", "(III)Z"⟩
abbrev cX7_isCourt : ByteArray := prog_1_method_33_code
def yX7_isCourt : MethodName := ⟨RX7, "isCourt", "(I)Z"⟩
abbrev cX7_isQuarter : ByteArray := prog_1_method_34_code
def yX7_isQuarter : MethodName := ⟨RX7, "isQuarter", "(I)Z"⟩
abbrev cX7_isSheet : ByteArray := prog_1_method_35_code
def yX7_isSheet : MethodName := ⟨RX7, "isSheet", "(I)Z"⟩
abbrev cX7_holds : ByteArray := prog_1_method_36_code
def yX7_holds : MethodName := ⟨RX7, "holds", "(II)Z"⟩
abbrev cX7_asLong : ByteArray := prog_1_method_37_code
def yX7_asLong : MethodName := ⟨RX7, "asLong", "(Z)J"⟩
abbrev cX7_waitPrice : ByteArray := prog_1_method_38_code
def yX7_waitPrice : MethodName := ⟨RX7, "waitPrice", "(I)J"⟩
abbrev cX7_greatestWay : ByteArray := prog_1_method_39_code
def yX7_greatestWay : MethodName := ⟨RX7, "greatestWay", "(I)I"⟩
abbrev cX7_bestQuarter : ByteArray := prog_1_method_40_code
def yX7_bestQuarter : MethodName := ⟨RX7, "bestQuarter", "(I)I"⟩
def RX8 : String := "CourtHouseModel"
def TX8 : u_T := fun k => match k with
  | 0 => ("CourtHouseModel", "many", "[I", true)
  | 1 => ("CourtHouseModel", "list", "[I", true)
  | 2 => ("CourtHouseModel", "cases", "I", false)
  | 3 => ("CourtHouseModel", "court", "[I", true)
  | 4 => ("CourtHouseModel", "length", "[I", true)
  | 5 => ("CourtHouseModel", "folds", "[I", true)
  | 6 => ("CourtHouseModel", "sets", "[I", true)
  | 7 => ("CourtHouseModel", "fates", "[I", true)
  | 8 => ("CourtHouseModel", "witnesses", "I", false)
  | 9 => ("CourtHouseModel", "kind", "[I", true)
  | 10 => ("CourtHouseModel", "way", "[I", true)
  | 11 => ("CourtHouseModel", "apart", "[I", true)
  | 12 => ("CourtHouseModel", "calls", "[I", true)
  | 13 => ("CourtHouseModel", "rules", "[I", true)
  | 14 => ("CourtHouseModel", "notices", "I", false)
  | 15 => ("CourtHouseModel", "nWho", "[I", true)
  | 16 => ("CourtHouseModel", "nCase", "[I", true)
  | 17 => ("CourtHouseModel", "nRead", "[I", true)
  | 18 => ("CourtHouseModel", "places", "[I", true)
  | 19 => ("CourtHouseModel", "numbers", "[I", true)
  | 20 => ("CourtHouseModel", "weights", "[J", true)
  | 21 => ("CourtHouseModel", "next", "[J", true)
  | 22 => ("CourtHouseModel", "begun", "[I", true)
  | 23 => ("CourtHouseModel", "ends", "[I", true)
  | 24 => ("CourtHouseModel", "idles", "[I", true)
  | 25 => ("CourtHouseModel", "come", "[I", true)
  | 26 => ("CourtHouseModel", "open", "I", false)
  | 27 => ("CourtHouseModel", "from", "[I", true)
  | 28 => ("CourtHouseModel", "last", "[I", true)
  | 29 => ("CourtHouseModel", "rooms", "[I", true)
  | _ => ("CourtHouseModel", "carried", "[I", true)
def tyX8 : Nat → FieldType := fun k => match k with
  | 0 => .array .int
  | 1 => .array .int
  | 2 => .int
  | 3 => .array .int
  | 4 => .array .int
  | 5 => .array .int
  | 6 => .array .int
  | 7 => .array .int
  | 8 => .int
  | 9 => .array .int
  | 10 => .array .int
  | 11 => .array .int
  | 12 => .array .int
  | 13 => .array .int
  | 14 => .int
  | 15 => .array .int
  | 16 => .array .int
  | 17 => .array .int
  | 18 => .array .int
  | 19 => .array .int
  | 20 => .array .long
  | 21 => .array .long
  | 22 => .array .int
  | 23 => .array .int
  | 24 => .array .int
  | 25 => .array .int
  | 26 => .int
  | 27 => .array .int
  | 28 => .array .int
  | 29 => .array .int
  | _ => .array .int
abbrev wsX80 : List Cond := u_ws RX8 TX8 31
theorem nmX8 : ∀ a, a < 31 → ∀ b, b < 31 → a ≠ b → (TX8 a).2.1 ≠ (TX8 b).2.1 := by decide +kernel
theorem tyX8_ok : ∀ k, k < 31 → parseFieldDescriptor (TX8 k).2.2.1 = some (tyX8 k) := by decide +kernel
abbrev cX8_init : ByteArray := prog_10_method_1_code
def yX8_init : MethodName := ⟨RX8, "<init>", "()V"⟩
abbrev cX8_isIn : ByteArray := prog_10_method_2_code
def yX8_isIn : MethodName := ⟨RX8, "isIn", "(III)Z"⟩
abbrev cX8_isCourt : ByteArray := prog_10_method_3_code
def yX8_isCourt : MethodName := ⟨RX8, "isCourt", "(I)Z"⟩
abbrev cX8_isCase : ByteArray := prog_10_method_4_code
def yX8_isCase : MethodName := ⟨RX8, "isCase", "(I)Z"⟩
abbrev cX8_isWitness : ByteArray := prog_10_method_5_code
def yX8_isWitness : MethodName := ⟨RX8, "isWitness", "(I)Z"⟩
abbrev cX8_needs1 : ByteArray := prog_10_method_6_code
def yX8_needs1 : MethodName := ⟨RX8, "needs1", "(II)Z"⟩
abbrev cX8_enter : ByteArray := prog_10_method_7_code
def yX8_enter : MethodName := ⟨RX8, "enter", "(II)V"⟩
abbrev cX8_newCase : ByteArray := prog_10_method_8_code
def yX8_newCase : MethodName := ⟨RX8, "newCase", "(III)J"⟩
abbrev cX8_witness : ByteArray := prog_10_method_9_code
def yX8_witness : MethodName := ⟨RX8, "witness", "(II)J"⟩
abbrev cX8_isOf : ByteArray := prog_10_method_10_code
def yX8_isOf : MethodName := ⟨RX8, "isOf", "(II)J"⟩
abbrev cX8_needs : ByteArray := prog_10_method_11_code
def yX8_needs : MethodName := ⟨RX8, "needs", "(II)J"⟩
abbrev cX8_fold : ByteArray := prog_10_method_12_code
def yX8_fold : MethodName := ⟨RX8, "fold", "(II)J"⟩
abbrev cX8_placeOf : ByteArray := prog_10_method_13_code
def yX8_placeOf : MethodName := ⟨RX8, "placeOf", "(I)I"⟩
abbrev cX8_told : ByteArray := prog_10_method_14_code
def yX8_told : MethodName := ⟨RX8, "told", "(II)J"⟩
abbrev cX8_inList : ByteArray := prog_10_method_15_code
def yX8_inList : MethodName := ⟨RX8, "inList", "(II)J"⟩
abbrev cX8_rule : ByteArray := prog_10_method_16_code
def yX8_rule : MethodName := ⟨RX8, "rule", "(II)J"⟩
abbrev cX8_weigh : ByteArray := prog_10_method_17_code
def yX8_weigh : MethodName := ⟨RX8, "weigh", "(I)V"⟩
abbrev cX8_weight : ByteArray := prog_10_method_18_code
def yX8_weight : MethodName := ⟨RX8, "weight", "(II)J"⟩
abbrev cX8_weightOf : ByteArray := prog_10_method_19_code
def yX8_weightOf : MethodName := ⟨RX8, "weightOf", "(I)I"⟩
abbrev cX8_costOf : ByteArray := prog_10_method_20_code
def yX8_costOf : MethodName := ⟨RX8, "costOf", "(II)J"⟩
abbrev cX8_cost : ByteArray := prog_10_method_21_code
def yX8_cost : MethodName := ⟨RX8, "cost", "(II)J"⟩
abbrev cX8_bestFor : ByteArray := prog_10_method_22_code
def yX8_bestFor : MethodName := ⟨RX8, "bestFor", "(I)I"⟩
abbrev cX8_best : ByteArray := prog_10_method_23_code
def yX8_best : MethodName := ⟨RX8, "best", "(I)J"⟩
abbrev cX8_call : ByteArray := prog_10_method_24_code
def yX8_call : MethodName := ⟨RX8, "call", "(III)J"⟩
abbrev cX8_called : ByteArray := prog_10_method_25_code
def yX8_called : MethodName := ⟨RX8, "called", "(II)J"⟩
abbrev cX8_plan : ByteArray := prog_10_method_26_code
def yX8_plan : MethodName := ⟨RX8, "plan", "(I)J"⟩
abbrev cX8_isFolded : ByteArray := prog_10_method_27_code
def yX8_isFolded : MethodName := ⟨RX8, "isFolded", "(I)Z"⟩
abbrev cX8_isOn : ByteArray := prog_10_method_28_code
def yX8_isOn : MethodName := ⟨RX8, "isOn", "(II)Z"⟩
abbrev cX8_isBusy : ByteArray := prog_10_method_29_code
def yX8_isBusy : MethodName := ⟨RX8, "isBusy", "(III)Z"⟩
abbrev cX8_whyNot : ByteArray := prog_10_method_30_code
def yX8_whyNot : MethodName := ⟨RX8, "whyNot", "(II)I"⟩
abbrev cX8_goOn : ByteArray := prog_10_method_31_code
def yX8_goOn : MethodName := ⟨RX8, "goOn", "(II)V"⟩
abbrev cX8_runDay : ByteArray := prog_10_method_32_code
def yX8_runDay : MethodName := ⟨RX8, "runDay", "()V"⟩
abbrev cX8_fate : ByteArray := prog_10_method_33_code
def yX8_fate : MethodName := ⟨RX8, "fate", "(II)J"⟩
abbrev cX8_begins : ByteArray := prog_10_method_34_code
def yX8_begins : MethodName := ⟨RX8, "begins", "(II)J"⟩
abbrev cX8_waitedFor : ByteArray := prog_10_method_35_code
def yX8_waitedFor : MethodName := ⟨RX8, "waitedFor", "(II)I"⟩
abbrev cX8_waited : ByteArray := prog_10_method_36_code
def yX8_waited : MethodName := ⟨RX8, "waited", "(II)J"⟩
abbrev cX8_idle : ByteArray := prog_10_method_37_code
def yX8_idle : MethodName := ⟨RX8, "idle", "(II)J"⟩
abbrev cX8_waitedIn : ByteArray := prog_10_method_38_code
def yX8_waitedIn : MethodName := ⟨RX8, "waitedIn", "(I)I"⟩
abbrev cX8_waits : ByteArray := prog_10_method_39_code
def yX8_waits : MethodName := ⟨RX8, "waits", "()J"⟩
abbrev cX8_isCalled : ByteArray := prog_10_method_40_code
def yX8_isCalled : MethodName := ⟨RX8, "isCalled", "(I)Z"⟩
abbrev cX8_pay : ByteArray := prog_10_method_41_code
def yX8_pay : MethodName := ⟨RX8, "pay", "(I)J"⟩
abbrev cX8_apart : ByteArray := prog_10_method_42_code
def yX8_apart : MethodName := ⟨RX8, "apart", "(III)J"⟩
abbrev cX8_span : ByteArray := prog_10_method_43_code
def yX8_span : MethodName := ⟨RX8, "span", "(I)V"⟩
abbrev cX8_mayBe : ByteArray := prog_10_method_44_code
def yX8_mayBe : MethodName := ⟨RX8, "mayBe", "(II)Z"⟩
abbrev cX8_giveRooms : ByteArray := prog_10_method_45_code
def yX8_giveRooms : MethodName := ⟨RX8, "giveRooms", "(I)Z"⟩
abbrev cX8_room : ByteArray := prog_10_method_46_code
def yX8_room : MethodName := ⟨RX8, "room", "(I)J"⟩
abbrev cX8_notify : ByteArray := prog_10_method_47_code
def yX8_notify : MethodName := ⟨RX8, "notify", "(II)V"⟩
abbrev cX8_move : ByteArray := prog_10_method_48_code
def yX8_move : MethodName := ⟨RX8, "move", "(II)J"⟩
abbrev cX8_notice : ByteArray := prog_10_method_49_code
def yX8_notice : MethodName := ⟨RX8, "notice", "(II)J"⟩
abbrev cX8_read : ByteArray := prog_10_method_50_code
def yX8_read : MethodName := ⟨RX8, "read", "(I)J"⟩
abbrev cX8_isSheet : ByteArray := prog_10_method_51_code
def yX8_isSheet : MethodName := ⟨RX8, "isSheet", "(I)Z"⟩
abbrev cX8_sheet : ByteArray := prog_10_method_52_code
def yX8_sheet : MethodName := ⟨RX8, "sheet", "(II)J"⟩
abbrev cX8_mark : ByteArray := prog_10_method_53_code
def yX8_mark : MethodName := ⟨RX8, "mark", "(III)J"⟩
abbrev cX8_copy : ByteArray := prog_10_method_54_code
def yX8_copy : MethodName := ⟨RX8, "copy", "(IIIII)J"⟩
abbrev cX8_take : ByteArray := prog_10_method_55_code
def yX8_take : MethodName := ⟨RX8, "take", "(I)J"⟩
abbrev cX8_count : ByteArray := prog_10_method_56_code
def yX8_count : MethodName := ⟨RX8, "count", "(I)J"⟩
def RJ6 : String := "java/lang/Integer"
def TJ6 : u_T := fun k => match k with
  | _ => ("", "", "", false)
def tyJ6 : Nat → FieldType := fun k => match k with
  | _ => .int
abbrev wsJ60 : List Cond := u_ws RJ6 TJ6 0
theorem nmJ6 : ∀ a, a < 0 → ∀ b, b < 0 → a ≠ b → (TJ6 a).2.1 ≠ (TJ6 b).2.1 := by decide +kernel
theorem tyJ6_ok : ∀ k, k < 0 → parseFieldDescriptor (TJ6 k).2.2.1 = some (tyJ6 k) := by decide +kernel
abbrev cJ6_bitCount_0f7a4 : ByteArray := prog_11_method_49_code
def yJ6_bitCount_0f7a4 : MethodName := ⟨RJ6, "bitCount", "(I)I"⟩
def RJ9 : String := "java/lang/Math"
def TJ9 : u_T := fun k => match k with
  | _ => ("", "", "", false)
def tyJ9 : Nat → FieldType := fun k => match k with
  | _ => .int
abbrev wsJ90 : List Cond := u_ws RJ9 TJ9 0
theorem nmJ9 : ∀ a, a < 0 → ∀ b, b < 0 → a ≠ b → (TJ9 a).2.1 ≠ (TJ9 b).2.1 := by decide +kernel
theorem tyJ9_ok : ∀ k, k < 0 → parseFieldDescriptor (TJ9 k).2.2.1 = some (tyJ9 k) := by decide +kernel
abbrev cJ9_max_7cf53 : ByteArray := prog_12_method_65_code
def yJ9_max_7cf53 : MethodName := ⟨RJ9, "max", "(II)I"⟩
abbrev cJ9_min_7cf53 : ByteArray := prog_12_method_69_code
def yJ9_min_7cf53 : MethodName := ⟨RJ9, "min", "(II)I"⟩
def RJ10 : String := "java/lang/System"
def TJ10 : u_T := fun k => match k with
  | _ => ("", "", "", false)
def tyJ10 : Nat → FieldType := fun k => match k with
  | _ => .int
abbrev wsJ100 : List Cond := u_ws RJ10 TJ10 0
theorem nmJ10 : ∀ a, a < 0 → ∀ b, b < 0 → a ≠ b → (TJ10 a).2.1 ≠ (TJ10 b).2.1 := by decide +kernel
theorem tyJ10_ok : ∀ k, k < 0 → parseFieldDescriptor (TJ10 k).2.2.1 = some (tyJ10 k) := by decide +kernel
def RJ7 : String := "java/util/Arrays"
def TJ7 : u_T := fun k => match k with
  | _ => ("", "", "", false)
def tyJ7 : Nat → FieldType := fun k => match k with
  | _ => .int
abbrev wsJ70 : List Cond := u_ws RJ7 TJ7 0
theorem nmJ7 : ∀ a, a < 0 → ∀ b, b < 0 → a ≠ b → (TJ7 a).2.1 ≠ (TJ7 b).2.1 := by decide +kernel
theorem tyJ7_ok : ∀ k, k < 0 → parseFieldDescriptor (TJ7 k).2.2.1 = some (tyJ7 k) := by decide +kernel
abbrev cJ7_fill_d0a16 : ByteArray := prog_14_method_101_code
def yJ7_fill_d0a16 : MethodName := ⟨RJ7, "fill", "([JJ)V"⟩
abbrev cJ7_fill_53178 : ByteArray := prog_14_method_103_code
def yJ7_fill_53178 : MethodName := ⟨RJ7, "fill", "([II)V"⟩
def RL : String := "CourtHouseLaw"
abbrev cL_law : ByteArray := code
def yL_law : MethodName := ⟨RL, "law", "([I)Z"⟩
