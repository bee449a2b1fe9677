section
-- ===== PART A: goes FIRST, ahead of the names: the tables' words, and 'selects' of the private methods out of them =====
/-- a private method of a class that the tables say can be made, by its rows of tables_1 -/
def lw_okq (q : MethodName × Nat) : Prop := (q.1.cls ≠ "java/lang/invoke/MethodHandle" ∧ q.1.cls ≠ "java/lang/invoke/VarHandle") ∧ Cond.instantiable q.1.cls q.2 ∈ tables_1 ∧ Cond.privateMethod q.1 ∈ tables_1 ∧ Cond.instanceMethod q.1 ∈ tables_1
theorem lw_p0 : lw_okq (⟨"CourtHouse$Docket", "enter", "(III)I"⟩, 9) := ⟨⟨by decide +kernel, by decide +kernel⟩, List.mem_of_getElem? (i := 23) (by decide +kernel), List.mem_of_getElem? (i := 239) (by decide +kernel), List.mem_of_getElem? (i := 240) (by decide +kernel)⟩
theorem lw_p1 : lw_okq (⟨"CourtHouse$Docket", "joinList", "(II)V"⟩, 9) := ⟨⟨by decide +kernel, by decide +kernel⟩, List.mem_of_getElem? (i := 23) (by decide +kernel), List.mem_of_getElem? (i := 243) (by decide +kernel), List.mem_of_getElem? (i := 244) (by decide +kernel)⟩
theorem lw_p2 : lw_okq (⟨"CourtHouse$People", "enter", "(II)I"⟩, 4) := ⟨⟨by decide +kernel, by decide +kernel⟩, List.mem_of_getElem? (i := 72) (by decide +kernel), List.mem_of_getElem? (i := 251) (by decide +kernel), List.mem_of_getElem? (i := 252) (by decide +kernel)⟩
theorem lw_p3 : lw_okq (⟨"CourtHouse$People", "has", "(I)Z"⟩, 4) := ⟨⟨by decide +kernel, by decide +kernel⟩, List.mem_of_getElem? (i := 72) (by decide +kernel), List.mem_of_getElem? (i := 259) (by decide +kernel), List.mem_of_getElem? (i := 260) (by decide +kernel)⟩
theorem lw_p4 : lw_okq (⟨"CourtHouse$Docket", "has", "(I)Z"⟩, 9) := ⟨⟨by decide +kernel, by decide +kernel⟩, List.mem_of_getElem? (i := 23) (by decide +kernel), List.mem_of_getElem? (i := 270) (by decide +kernel), List.mem_of_getElem? (i := 271) (by decide +kernel)⟩
theorem lw_p5 : lw_okq (⟨"CourtHouse$Docket", "callFor", "(III)V"⟩, 9) := ⟨⟨by decide +kernel, by decide +kernel⟩, List.mem_of_getElem? (i := 23) (by decide +kernel), List.mem_of_getElem? (i := 277) (by decide +kernel), List.mem_of_getElem? (i := 278) (by decide +kernel)⟩
theorem lw_p6 : lw_okq (⟨"CourtHouse$Docket", "placeOf", "(I)I"⟩, 9) := ⟨⟨by decide +kernel, by decide +kernel⟩, List.mem_of_getElem? (i := 23) (by decide +kernel), List.mem_of_getElem? (i := 289) (by decide +kernel), List.mem_of_getElem? (i := 290) (by decide +kernel)⟩
theorem lw_p7 : lw_okq (⟨"CourtHouse$Docket", "caseAt", "(II)I"⟩, 9) := ⟨⟨by decide +kernel, by decide +kernel⟩, List.mem_of_getElem? (i := 23) (by decide +kernel), List.mem_of_getElem? (i := 293) (by decide +kernel), List.mem_of_getElem? (i := 294) (by decide +kernel)⟩
theorem lw_p8 : lw_okq (⟨"CourtHouse$Chances", "weigh", "(LCourtHouse$Docket;I)V"⟩, 1) := ⟨⟨by decide +kernel, by decide +kernel⟩, List.mem_of_getElem? (i := 96) (by decide +kernel), List.mem_of_getElem? (i := 318) (by decide +kernel), List.mem_of_getElem? (i := 319) (by decide +kernel)⟩
theorem lw_p9 : lw_okq (⟨"CourtHouse$Chances", "putAhead", "(II)V"⟩, 1) := ⟨⟨by decide +kernel, by decide +kernel⟩, List.mem_of_getElem? (i := 96) (by decide +kernel), List.mem_of_getElem? (i := 327) (by decide +kernel), List.mem_of_getElem? (i := 328) (by decide +kernel)⟩
theorem lw_p10 : lw_okq (⟨"CourtHouse", "waitPrice", "(I)J"⟩, 8) := ⟨⟨by decide +kernel, by decide +kernel⟩, List.mem_of_getElem? (i := 15) (by decide +kernel), List.mem_of_getElem? (i := 335) (by decide +kernel), List.mem_of_getElem? (i := 336) (by decide +kernel)⟩
theorem lw_p11 : lw_okq (⟨"CourtHouse$Docket", "hasNeedOf", "(II)Z"⟩, 9) := ⟨⟨by decide +kernel, by decide +kernel⟩, List.mem_of_getElem? (i := 23) (by decide +kernel), List.mem_of_getElem? (i := 339) (by decide +kernel), List.mem_of_getElem? (i := 340) (by decide +kernel)⟩
theorem lw_p12 : lw_okq (⟨"CourtHouse$Chances", "costAt", "(IJJ)J"⟩, 1) := ⟨⟨by decide +kernel, by decide +kernel⟩, List.mem_of_getElem? (i := 96) (by decide +kernel), List.mem_of_getElem? (i := 346) (by decide +kernel), List.mem_of_getElem? (i := 347) (by decide +kernel)⟩
theorem lw_p13 : lw_okq (⟨"CourtHouse", "bestQuarter", "(I)I"⟩, 8) := ⟨⟨by decide +kernel, by decide +kernel⟩, List.mem_of_getElem? (i := 15) (by decide +kernel), List.mem_of_getElem? (i := 354) (by decide +kernel), List.mem_of_getElem? (i := 355) (by decide +kernel)⟩
theorem lw_p14 : lw_okq (⟨"CourtHouse", "greatestWay", "(I)I"⟩, 8) := ⟨⟨by decide +kernel, by decide +kernel⟩, List.mem_of_getElem? (i := 15) (by decide +kernel), List.mem_of_getElem? (i := 358) (by decide +kernel), List.mem_of_getElem? (i := 359) (by decide +kernel)⟩
theorem lw_p15 : lw_okq (⟨"CourtHouse$Chances", "cheapestFrom", "(IJJ)I"⟩, 1) := ⟨⟨by decide +kernel, by decide +kernel⟩, List.mem_of_getElem? (i := 96) (by decide +kernel), List.mem_of_getElem? (i := 365) (by decide +kernel), List.mem_of_getElem? (i := 366) (by decide +kernel)⟩
def lw_privs_1 : List (MethodName × Nat) := [(⟨"CourtHouse$Docket", "enter", "(III)I"⟩, 9), (⟨"CourtHouse$Docket", "joinList", "(II)V"⟩, 9), (⟨"CourtHouse$People", "enter", "(II)I"⟩, 4), (⟨"CourtHouse$People", "has", "(I)Z"⟩, 4), (⟨"CourtHouse$Docket", "has", "(I)Z"⟩, 9), (⟨"CourtHouse$Docket", "callFor", "(III)V"⟩, 9), (⟨"CourtHouse$Docket", "placeOf", "(I)I"⟩, 9), (⟨"CourtHouse$Docket", "caseAt", "(II)I"⟩, 9), (⟨"CourtHouse$Chances", "weigh", "(LCourtHouse$Docket;I)V"⟩, 1), (⟨"CourtHouse$Chances", "putAhead", "(II)V"⟩, 1), (⟨"CourtHouse", "waitPrice", "(I)J"⟩, 8), (⟨"CourtHouse$Docket", "hasNeedOf", "(II)Z"⟩, 9), (⟨"CourtHouse$Chances", "costAt", "(IJJ)J"⟩, 1), (⟨"CourtHouse", "bestQuarter", "(I)I"⟩, 8), (⟨"CourtHouse", "greatestWay", "(I)I"⟩, 8), (⟨"CourtHouse$Chances", "cheapestFrom", "(IJJ)I"⟩, 1)]
theorem lw_r1 : ∀ q ∈ lw_privs_1, lw_okq q := List.forall_mem_cons.mpr ⟨lw_p0, List.forall_mem_cons.mpr ⟨lw_p1, List.forall_mem_cons.mpr ⟨lw_p2, List.forall_mem_cons.mpr ⟨lw_p3, List.forall_mem_cons.mpr ⟨lw_p4, List.forall_mem_cons.mpr ⟨lw_p5, List.forall_mem_cons.mpr ⟨lw_p6, List.forall_mem_cons.mpr ⟨lw_p7, List.forall_mem_cons.mpr ⟨lw_p8, List.forall_mem_cons.mpr ⟨lw_p9, List.forall_mem_cons.mpr ⟨lw_p10, List.forall_mem_cons.mpr ⟨lw_p11, List.forall_mem_cons.mpr ⟨lw_p12, List.forall_mem_cons.mpr ⟨lw_p13, List.forall_mem_cons.mpr ⟨lw_p14, List.forall_mem_cons.mpr ⟨lw_p15, fun _ h => absurd h List.not_mem_nil⟩⟩⟩⟩⟩⟩⟩⟩⟩⟩⟩⟩⟩⟩⟩⟩
theorem lw_p16 : lw_okq (⟨"CourtHouse$Docket", "quarterFor", "(II)I"⟩, 9) := ⟨⟨by decide +kernel, by decide +kernel⟩, List.mem_of_getElem? (i := 23) (by decide +kernel), List.mem_of_getElem? (i := 375) (by decide +kernel), List.mem_of_getElem? (i := 376) (by decide +kernel)⟩
theorem lw_p17 : lw_okq (⟨"CourtHouse$Day", "run", "(LCourtHouse$Docket;)V"⟩, 7) := ⟨⟨by decide +kernel, by decide +kernel⟩, List.mem_of_getElem? (i := 108) (by decide +kernel), List.mem_of_getElem? (i := 395) (by decide +kernel), List.mem_of_getElem? (i := 396) (by decide +kernel)⟩
theorem lw_p18 : lw_okq (⟨"CourtHouse$Day", "passQuarter", "(LCourtHouse$Docket;II)V"⟩, 7) := ⟨⟨by decide +kernel, by decide +kernel⟩, List.mem_of_getElem? (i := 108) (by decide +kernel), List.mem_of_getElem? (i := 402) (by decide +kernel), List.mem_of_getElem? (i := 403) (by decide +kernel)⟩
theorem lw_p19 : lw_okq (⟨"CourtHouse$Day", "nextNotFolded", "(LCourtHouse$Docket;II)I"⟩, 7) := ⟨⟨by decide +kernel, by decide +kernel⟩, List.mem_of_getElem? (i := 108) (by decide +kernel), List.mem_of_getElem? (i := 406) (by decide +kernel), List.mem_of_getElem? (i := 407) (by decide +kernel)⟩
theorem lw_p20 : lw_okq (⟨"CourtHouse$Docket", "isFolded", "(I)Z"⟩, 9) := ⟨⟨by decide +kernel, by decide +kernel⟩, List.mem_of_getElem? (i := 23) (by decide +kernel), List.mem_of_getElem? (i := 411) (by decide +kernel), List.mem_of_getElem? (i := 412) (by decide +kernel)⟩
theorem lw_p21 : lw_okq (⟨"CourtHouse$Day", "close", "(IIII)V"⟩, 7) := ⟨⟨by decide +kernel, by decide +kernel⟩, List.mem_of_getElem? (i := 108) (by decide +kernel), List.mem_of_getElem? (i := 415) (by decide +kernel), List.mem_of_getElem? (i := 416) (by decide +kernel)⟩
theorem lw_p22 : lw_okq (⟨"CourtHouse$Day", "hindrance", "(LCourtHouse$Docket;II)I"⟩, 7) := ⟨⟨by decide +kernel, by decide +kernel⟩, List.mem_of_getElem? (i := 108) (by decide +kernel), List.mem_of_getElem? (i := 419) (by decide +kernel), List.mem_of_getElem? (i := 420) (by decide +kernel)⟩
theorem lw_p23 : lw_okq (⟨"CourtHouse$Day", "begin", "(LCourtHouse$Docket;II)V"⟩, 7) := ⟨⟨by decide +kernel, by decide +kernel⟩, List.mem_of_getElem? (i := 108) (by decide +kernel), List.mem_of_getElem? (i := 425) (by decide +kernel), List.mem_of_getElem? (i := 426) (by decide +kernel)⟩
theorem lw_p24 : lw_okq (⟨"CourtHouse$Docket", "takesQuarters", "(I)I"⟩, 9) := ⟨⟨by decide +kernel, by decide +kernel⟩, List.mem_of_getElem? (i := 23) (by decide +kernel), List.mem_of_getElem? (i := 429) (by decide +kernel), List.mem_of_getElem? (i := 430) (by decide +kernel)⟩
theorem lw_p25 : lw_okq (⟨"CourtHouse$Day", "waitFor", "(LCourtHouse$Docket;II)I"⟩, 7) := ⟨⟨by decide +kernel, by decide +kernel⟩, List.mem_of_getElem? (i := 108) (by decide +kernel), List.mem_of_getElem? (i := 438) (by decide +kernel), List.mem_of_getElem? (i := 439) (by decide +kernel)⟩
theorem lw_p26 : lw_okq (⟨"CourtHouse$Day", "waitOf", "(LCourtHouse$Docket;I)I"⟩, 7) := ⟨⟨by decide +kernel, by decide +kernel⟩, List.mem_of_getElem? (i := 108) (by decide +kernel), List.mem_of_getElem? (i := 454) (by decide +kernel), List.mem_of_getElem? (i := 455) (by decide +kernel)⟩
theorem lw_p27 : lw_okq (⟨"CourtHouse$Docket", "isCalled", "(I)Z"⟩, 9) := ⟨⟨by decide +kernel, by decide +kernel⟩, List.mem_of_getElem? (i := 23) (by decide +kernel), List.mem_of_getElem? (i := 463) (by decide +kernel), List.mem_of_getElem? (i := 464) (by decide +kernel)⟩
theorem lw_p28 : lw_okq (⟨"CourtHouse$Day", "hearingsOf", "(LCourtHouse$Docket;I)I"⟩, 7) := ⟨⟨by decide +kernel, by decide +kernel⟩, List.mem_of_getElem? (i := 108) (by decide +kernel), List.mem_of_getElem? (i := 469) (by decide +kernel), List.mem_of_getElem? (i := 470) (by decide +kernel)⟩
theorem lw_p29 : lw_okq (⟨"CourtHouse$People", "areApart", "(II)Z"⟩, 4) := ⟨⟨by decide +kernel, by decide +kernel⟩, List.mem_of_getElem? (i := 72) (by decide +kernel), List.mem_of_getElem? (i := 477) (by decide +kernel), List.mem_of_getElem? (i := 478) (by decide +kernel)⟩
theorem lw_p30 : lw_okq (⟨"CourtHouse$People", "setApart", "(IIZ)V"⟩, 4) := ⟨⟨by decide +kernel, by decide +kernel⟩, List.mem_of_getElem? (i := 72) (by decide +kernel), List.mem_of_getElem? (i := 482) (by decide +kernel), List.mem_of_getElem? (i := 483) (by decide +kernel)⟩
theorem lw_p31 : lw_okq (⟨"CourtHouse$Rooms", "give", "(LCourtHouse$People;LCourtHouse$Docket;LCourtHouse$Day;)Z"⟩, 5) := ⟨⟨by decide +kernel, by decide +kernel⟩, List.mem_of_getElem? (i := 140) (by decide +kernel), List.mem_of_getElem? (i := 491) (by decide +kernel), List.mem_of_getElem? (i := 492) (by decide +kernel)⟩
def lw_privs_2 : List (MethodName × Nat) := [(⟨"CourtHouse$Docket", "quarterFor", "(II)I"⟩, 9), (⟨"CourtHouse$Day", "run", "(LCourtHouse$Docket;)V"⟩, 7), (⟨"CourtHouse$Day", "passQuarter", "(LCourtHouse$Docket;II)V"⟩, 7), (⟨"CourtHouse$Day", "nextNotFolded", "(LCourtHouse$Docket;II)I"⟩, 7), (⟨"CourtHouse$Docket", "isFolded", "(I)Z"⟩, 9), (⟨"CourtHouse$Day", "close", "(IIII)V"⟩, 7), (⟨"CourtHouse$Day", "hindrance", "(LCourtHouse$Docket;II)I"⟩, 7), (⟨"CourtHouse$Day", "begin", "(LCourtHouse$Docket;II)V"⟩, 7), (⟨"CourtHouse$Docket", "takesQuarters", "(I)I"⟩, 9), (⟨"CourtHouse$Day", "waitFor", "(LCourtHouse$Docket;II)I"⟩, 7), (⟨"CourtHouse$Day", "waitOf", "(LCourtHouse$Docket;I)I"⟩, 7), (⟨"CourtHouse$Docket", "isCalled", "(I)Z"⟩, 9), (⟨"CourtHouse$Day", "hearingsOf", "(LCourtHouse$Docket;I)I"⟩, 7), (⟨"CourtHouse$People", "areApart", "(II)Z"⟩, 4), (⟨"CourtHouse$People", "setApart", "(IIZ)V"⟩, 4), (⟨"CourtHouse$Rooms", "give", "(LCourtHouse$People;LCourtHouse$Docket;LCourtHouse$Day;)Z"⟩, 5)]
theorem lw_r2 : ∀ q ∈ lw_privs_2, lw_okq q := List.forall_mem_cons.mpr ⟨lw_p16, List.forall_mem_cons.mpr ⟨lw_p17, List.forall_mem_cons.mpr ⟨lw_p18, List.forall_mem_cons.mpr ⟨lw_p19, List.forall_mem_cons.mpr ⟨lw_p20, List.forall_mem_cons.mpr ⟨lw_p21, List.forall_mem_cons.mpr ⟨lw_p22, List.forall_mem_cons.mpr ⟨lw_p23, List.forall_mem_cons.mpr ⟨lw_p24, List.forall_mem_cons.mpr ⟨lw_p25, List.forall_mem_cons.mpr ⟨lw_p26, List.forall_mem_cons.mpr ⟨lw_p27, List.forall_mem_cons.mpr ⟨lw_p28, List.forall_mem_cons.mpr ⟨lw_p29, List.forall_mem_cons.mpr ⟨lw_p30, List.forall_mem_cons.mpr ⟨lw_p31, fun _ h => absurd h List.not_mem_nil⟩⟩⟩⟩⟩⟩⟩⟩⟩⟩⟩⟩⟩⟩⟩⟩
theorem lw_p32 : lw_okq (⟨"CourtHouse$Rooms", "measureStay", "(LCourtHouse$Docket;LCourtHouse$Day;I)V"⟩, 5) := ⟨⟨by decide +kernel, by decide +kernel⟩, List.mem_of_getElem? (i := 140) (by decide +kernel), List.mem_of_getElem? (i := 496) (by decide +kernel), List.mem_of_getElem? (i := 497) (by decide +kernel)⟩
theorem lw_p33 : lw_okq (⟨"CourtHouse$Rooms", "findFoes", "(LCourtHouse$People;I)V"⟩, 5) := ⟨⟨by decide +kernel, by decide +kernel⟩, List.mem_of_getElem? (i := 140) (by decide +kernel), List.mem_of_getElem? (i := 504) (by decide +kernel), List.mem_of_getElem? (i := 505) (by decide +kernel)⟩
theorem lw_p34 : lw_okq (⟨"CourtHouse$Rooms", "isFree", "(II)Z"⟩, 5) := ⟨⟨by decide +kernel, by decide +kernel⟩, List.mem_of_getElem? (i := 140) (by decide +kernel), List.mem_of_getElem? (i := 512) (by decide +kernel), List.mem_of_getElem? (i := 513) (by decide +kernel)⟩
theorem lw_p35 : lw_okq (⟨"CourtHouse$Rooms", "enter", "(II)V"⟩, 5) := ⟨⟨by decide +kernel, by decide +kernel⟩, List.mem_of_getElem? (i := 140) (by decide +kernel), List.mem_of_getElem? (i := 516) (by decide +kernel), List.mem_of_getElem? (i := 517) (by decide +kernel)⟩
theorem lw_p36 : lw_okq (⟨"CourtHouse$Rooms", "leave", "(II)V"⟩, 5) := ⟨⟨by decide +kernel, by decide +kernel⟩, List.mem_of_getElem? (i := 140) (by decide +kernel), List.mem_of_getElem? (i := 520) (by decide +kernel), List.mem_of_getElem? (i := 521) (by decide +kernel)⟩
theorem lw_p37 : lw_okq (⟨"CourtHouse$Docket", "leaveList", "(I)V"⟩, 9) := ⟨⟨by decide +kernel, by decide +kernel⟩, List.mem_of_getElem? (i := 23) (by decide +kernel), List.mem_of_getElem? (i := 528) (by decide +kernel), List.mem_of_getElem? (i := 529) (by decide +kernel)⟩
theorem lw_p38 : lw_okq (⟨"CourtHouse$NoticeBook", "send", "(II)V"⟩, 4) := ⟨⟨by decide +kernel, by decide +kernel⟩, List.mem_of_getElem? (i := 163) (by decide +kernel), List.mem_of_getElem? (i := 534) (by decide +kernel), List.mem_of_getElem? (i := 535) (by decide +kernel)⟩
theorem lw_p39 : lw_okq (⟨"CourtHouse$NoticeBook", "isPending", "(II)Z"⟩, 4) := ⟨⟨by decide +kernel, by decide +kernel⟩, List.mem_of_getElem? (i := 163) (by decide +kernel), List.mem_of_getElem? (i := 538) (by decide +kernel), List.mem_of_getElem? (i := 539) (by decide +kernel)⟩
theorem lw_p40 : lw_okq (⟨"CourtHouse$NoticeBook", "readAll", "(I)I"⟩, 4) := ⟨⟨by decide +kernel, by decide +kernel⟩, List.mem_of_getElem? (i := 163) (by decide +kernel), List.mem_of_getElem? (i := 550) (by decide +kernel), List.mem_of_getElem? (i := 551) (by decide +kernel)⟩
theorem lw_p41 : lw_okq (⟨"CourtHouse$Sheets", "layOut", "(II)V"⟩, 2) := ⟨⟨by decide +kernel, by decide +kernel⟩, List.mem_of_getElem? (i := 187) (by decide +kernel), List.mem_of_getElem? (i := 562) (by decide +kernel), List.mem_of_getElem? (i := 563) (by decide +kernel)⟩
theorem lw_p42 : lw_okq (⟨"CourtHouse$Sheets", "isMissing", "(I)Z"⟩, 2) := ⟨⟨by decide +kernel, by decide +kernel⟩, List.mem_of_getElem? (i := 187) (by decide +kernel), List.mem_of_getElem? (i := 570) (by decide +kernel), List.mem_of_getElem? (i := 571) (by decide +kernel)⟩
theorem lw_p43 : lw_okq (⟨"CourtHouse$Sheets", "hasRun", "(III)Z"⟩, 2) := ⟨⟨by decide +kernel, by decide +kernel⟩, List.mem_of_getElem? (i := 187) (by decide +kernel), List.mem_of_getElem? (i := 575) (by decide +kernel), List.mem_of_getElem? (i := 576) (by decide +kernel)⟩
theorem lw_p44 : lw_okq (⟨"CourtHouse$Sheets", "valueAt", "(II)I"⟩, 2) := ⟨⟨by decide +kernel, by decide +kernel⟩, List.mem_of_getElem? (i := 187) (by decide +kernel), List.mem_of_getElem? (i := 580) (by decide +kernel), List.mem_of_getElem? (i := 581) (by decide +kernel)⟩
theorem lw_p45 : lw_okq (⟨"CourtHouse$Sheets", "put", "(IIB)V"⟩, 2) := ⟨⟨by decide +kernel, by decide +kernel⟩, List.mem_of_getElem? (i := 187) (by decide +kernel), List.mem_of_getElem? (i := 584) (by decide +kernel), List.mem_of_getElem? (i := 585) (by decide +kernel)⟩
theorem lw_p46 : lw_okq (⟨"CourtHouse$Sheets", "copyRun", "(IIIII)V"⟩, 2) := ⟨⟨by decide +kernel, by decide +kernel⟩, List.mem_of_getElem? (i := 187) (by decide +kernel), List.mem_of_getElem? (i := 592) (by decide +kernel), List.mem_of_getElem? (i := 593) (by decide +kernel)⟩
theorem lw_p47 : lw_okq (⟨"CourtHouse$NoticeBook", "unread", "()I"⟩, 4) := ⟨⟨by decide +kernel, by decide +kernel⟩, List.mem_of_getElem? (i := 163) (by decide +kernel), List.mem_of_getElem? (i := 608) (by decide +kernel), List.mem_of_getElem? (i := 609) (by decide +kernel)⟩
def lw_privs_3 : List (MethodName × Nat) := [(⟨"CourtHouse$Rooms", "measureStay", "(LCourtHouse$Docket;LCourtHouse$Day;I)V"⟩, 5), (⟨"CourtHouse$Rooms", "findFoes", "(LCourtHouse$People;I)V"⟩, 5), (⟨"CourtHouse$Rooms", "isFree", "(II)Z"⟩, 5), (⟨"CourtHouse$Rooms", "enter", "(II)V"⟩, 5), (⟨"CourtHouse$Rooms", "leave", "(II)V"⟩, 5), (⟨"CourtHouse$Docket", "leaveList", "(I)V"⟩, 9), (⟨"CourtHouse$NoticeBook", "send", "(II)V"⟩, 4), (⟨"CourtHouse$NoticeBook", "isPending", "(II)Z"⟩, 4), (⟨"CourtHouse$NoticeBook", "readAll", "(I)I"⟩, 4), (⟨"CourtHouse$Sheets", "layOut", "(II)V"⟩, 2), (⟨"CourtHouse$Sheets", "isMissing", "(I)Z"⟩, 2), (⟨"CourtHouse$Sheets", "hasRun", "(III)Z"⟩, 2), (⟨"CourtHouse$Sheets", "valueAt", "(II)I"⟩, 2), (⟨"CourtHouse$Sheets", "put", "(IIB)V"⟩, 2), (⟨"CourtHouse$Sheets", "copyRun", "(IIIII)V"⟩, 2), (⟨"CourtHouse$NoticeBook", "unread", "()I"⟩, 4)]
theorem lw_r3 : ∀ q ∈ lw_privs_3, lw_okq q := List.forall_mem_cons.mpr ⟨lw_p32, List.forall_mem_cons.mpr ⟨lw_p33, List.forall_mem_cons.mpr ⟨lw_p34, List.forall_mem_cons.mpr ⟨lw_p35, List.forall_mem_cons.mpr ⟨lw_p36, List.forall_mem_cons.mpr ⟨lw_p37, List.forall_mem_cons.mpr ⟨lw_p38, List.forall_mem_cons.mpr ⟨lw_p39, List.forall_mem_cons.mpr ⟨lw_p40, List.forall_mem_cons.mpr ⟨lw_p41, List.forall_mem_cons.mpr ⟨lw_p42, List.forall_mem_cons.mpr ⟨lw_p43, List.forall_mem_cons.mpr ⟨lw_p44, List.forall_mem_cons.mpr ⟨lw_p45, List.forall_mem_cons.mpr ⟨lw_p46, List.forall_mem_cons.mpr ⟨lw_p47, fun _ h => absurd h List.not_mem_nil⟩⟩⟩⟩⟩⟩⟩⟩⟩⟩⟩⟩⟩⟩⟩⟩
theorem lw_p48 : lw_okq (⟨"CourtHouse$People", "pairsApart", "()I"⟩, 4) := ⟨⟨by decide +kernel, by decide +kernel⟩, List.mem_of_getElem? (i := 72) (by decide +kernel), List.mem_of_getElem? (i := 612) (by decide +kernel), List.mem_of_getElem? (i := 613) (by decide +kernel)⟩
theorem lw_p49 : lw_okq (⟨"CourtHouse$Docket", "fatesTold", "()I"⟩, 9) := ⟨⟨by decide +kernel, by decide +kernel⟩, List.mem_of_getElem? (i := 23) (by decide +kernel), List.mem_of_getElem? (i := 622) (by decide +kernel), List.mem_of_getElem? (i := 623) (by decide +kernel)⟩
theorem lw_p50 : lw_okq (⟨"CourtHouse$Sheets", "present", "()I"⟩, 2) := ⟨⟨by decide +kernel, by decide +kernel⟩, List.mem_of_getElem? (i := 187) (by decide +kernel), List.mem_of_getElem? (i := 626) (by decide +kernel), List.mem_of_getElem? (i := 627) (by decide +kernel)⟩
theorem lw_p51 : lw_okq (⟨"CourtHouseModel", "enter", "(II)V"⟩, 31) := ⟨⟨by decide +kernel, by decide +kernel⟩, List.mem_of_getElem? (i := 631) (by decide +kernel), List.mem_of_getElem? (i := 743) (by decide +kernel), List.mem_of_getElem? (i := 744) (by decide +kernel)⟩
theorem lw_p52 : lw_okq (⟨"CourtHouseModel", "isWitness", "(I)Z"⟩, 31) := ⟨⟨by decide +kernel, by decide +kernel⟩, List.mem_of_getElem? (i := 631) (by decide +kernel), List.mem_of_getElem? (i := 755) (by decide +kernel), List.mem_of_getElem? (i := 756) (by decide +kernel)⟩
theorem lw_p53 : lw_okq (⟨"CourtHouseModel", "isCase", "(I)Z"⟩, 31) := ⟨⟨by decide +kernel, by decide +kernel⟩, List.mem_of_getElem? (i := 631) (by decide +kernel), List.mem_of_getElem? (i := 763) (by decide +kernel), List.mem_of_getElem? (i := 764) (by decide +kernel)⟩
theorem lw_p54 : lw_okq (⟨"CourtHouseModel", "needs1", "(II)Z"⟩, 31) := ⟨⟨by decide +kernel, by decide +kernel⟩, List.mem_of_getElem? (i := 631) (by decide +kernel), List.mem_of_getElem? (i := 767) (by decide +kernel), List.mem_of_getElem? (i := 768) (by decide +kernel)⟩
theorem lw_p55 : lw_okq (⟨"CourtHouseModel", "placeOf", "(I)I"⟩, 31) := ⟨⟨by decide +kernel, by decide +kernel⟩, List.mem_of_getElem? (i := 631) (by decide +kernel), List.mem_of_getElem? (i := 779) (by decide +kernel), List.mem_of_getElem? (i := 780) (by decide +kernel)⟩
theorem lw_p56 : lw_okq (⟨"CourtHouseModel", "weigh", "(I)V"⟩, 31) := ⟨⟨by decide +kernel, by decide +kernel⟩, List.mem_of_getElem? (i := 631) (by decide +kernel), List.mem_of_getElem? (i := 796) (by decide +kernel), List.mem_of_getElem? (i := 797) (by decide +kernel)⟩
theorem lw_p57 : lw_okq (⟨"CourtHouseModel", "costOf", "(II)J"⟩, 31) := ⟨⟨by decide +kernel, by decide +kernel⟩, List.mem_of_getElem? (i := 631) (by decide +kernel), List.mem_of_getElem? (i := 804) (by decide +kernel), List.mem_of_getElem? (i := 805) (by decide +kernel)⟩
theorem lw_p58 : lw_okq (⟨"CourtHouseModel", "weightOf", "(I)I"⟩, 31) := ⟨⟨by decide +kernel, by decide +kernel⟩, List.mem_of_getElem? (i := 631) (by decide +kernel), List.mem_of_getElem? (i := 808) (by decide +kernel), List.mem_of_getElem? (i := 809) (by decide +kernel)⟩
theorem lw_p59 : lw_okq (⟨"CourtHouseModel", "bestFor", "(I)I"⟩, 31) := ⟨⟨by decide +kernel, by decide +kernel⟩, List.mem_of_getElem? (i := 631) (by decide +kernel), List.mem_of_getElem? (i := 816) (by decide +kernel), List.mem_of_getElem? (i := 817) (by decide +kernel)⟩
theorem lw_p60 : lw_okq (⟨"CourtHouseModel", "runDay", "()V"⟩, 31) := ⟨⟨by decide +kernel, by decide +kernel⟩, List.mem_of_getElem? (i := 631) (by decide +kernel), List.mem_of_getElem? (i := 841) (by decide +kernel), List.mem_of_getElem? (i := 842) (by decide +kernel)⟩
theorem lw_p61 : lw_okq (⟨"CourtHouseModel", "goOn", "(II)V"⟩, 31) := ⟨⟨by decide +kernel, by decide +kernel⟩, List.mem_of_getElem? (i := 631) (by decide +kernel), List.mem_of_getElem? (i := 845) (by decide +kernel), List.mem_of_getElem? (i := 846) (by decide +kernel)⟩
theorem lw_p62 : lw_okq (⟨"CourtHouseModel", "isOn", "(II)Z"⟩, 31) := ⟨⟨by decide +kernel, by decide +kernel⟩, List.mem_of_getElem? (i := 631) (by decide +kernel), List.mem_of_getElem? (i := 849) (by decide +kernel), List.mem_of_getElem? (i := 850) (by decide +kernel)⟩
theorem lw_p63 : lw_okq (⟨"CourtHouseModel", "isFolded", "(I)Z"⟩, 31) := ⟨⟨by decide +kernel, by decide +kernel⟩, List.mem_of_getElem? (i := 631) (by decide +kernel), List.mem_of_getElem? (i := 853) (by decide +kernel), List.mem_of_getElem? (i := 854) (by decide +kernel)⟩
def lw_privs_4 : List (MethodName × Nat) := [(⟨"CourtHouse$People", "pairsApart", "()I"⟩, 4), (⟨"CourtHouse$Docket", "fatesTold", "()I"⟩, 9), (⟨"CourtHouse$Sheets", "present", "()I"⟩, 2), (⟨"CourtHouseModel", "enter", "(II)V"⟩, 31), (⟨"CourtHouseModel", "isWitness", "(I)Z"⟩, 31), (⟨"CourtHouseModel", "isCase", "(I)Z"⟩, 31), (⟨"CourtHouseModel", "needs1", "(II)Z"⟩, 31), (⟨"CourtHouseModel", "placeOf", "(I)I"⟩, 31), (⟨"CourtHouseModel", "weigh", "(I)V"⟩, 31), (⟨"CourtHouseModel", "costOf", "(II)J"⟩, 31), (⟨"CourtHouseModel", "weightOf", "(I)I"⟩, 31), (⟨"CourtHouseModel", "bestFor", "(I)I"⟩, 31), (⟨"CourtHouseModel", "runDay", "()V"⟩, 31), (⟨"CourtHouseModel", "goOn", "(II)V"⟩, 31), (⟨"CourtHouseModel", "isOn", "(II)Z"⟩, 31), (⟨"CourtHouseModel", "isFolded", "(I)Z"⟩, 31)]
theorem lw_r4 : ∀ q ∈ lw_privs_4, lw_okq q := List.forall_mem_cons.mpr ⟨lw_p48, List.forall_mem_cons.mpr ⟨lw_p49, List.forall_mem_cons.mpr ⟨lw_p50, List.forall_mem_cons.mpr ⟨lw_p51, List.forall_mem_cons.mpr ⟨lw_p52, List.forall_mem_cons.mpr ⟨lw_p53, List.forall_mem_cons.mpr ⟨lw_p54, List.forall_mem_cons.mpr ⟨lw_p55, List.forall_mem_cons.mpr ⟨lw_p56, List.forall_mem_cons.mpr ⟨lw_p57, List.forall_mem_cons.mpr ⟨lw_p58, List.forall_mem_cons.mpr ⟨lw_p59, List.forall_mem_cons.mpr ⟨lw_p60, List.forall_mem_cons.mpr ⟨lw_p61, List.forall_mem_cons.mpr ⟨lw_p62, List.forall_mem_cons.mpr ⟨lw_p63, fun _ h => absurd h List.not_mem_nil⟩⟩⟩⟩⟩⟩⟩⟩⟩⟩⟩⟩⟩⟩⟩⟩
theorem lw_p64 : lw_okq (⟨"CourtHouseModel", "whyNot", "(II)I"⟩, 31) := ⟨⟨by decide +kernel, by decide +kernel⟩, List.mem_of_getElem? (i := 631) (by decide +kernel), List.mem_of_getElem? (i := 857) (by decide +kernel), List.mem_of_getElem? (i := 858) (by decide +kernel)⟩
theorem lw_p65 : lw_okq (⟨"CourtHouseModel", "isBusy", "(III)Z"⟩, 31) := ⟨⟨by decide +kernel, by decide +kernel⟩, List.mem_of_getElem? (i := 631) (by decide +kernel), List.mem_of_getElem? (i := 861) (by decide +kernel), List.mem_of_getElem? (i := 862) (by decide +kernel)⟩
theorem lw_p66 : lw_okq (⟨"CourtHouseModel", "waitedFor", "(II)I"⟩, 31) := ⟨⟨by decide +kernel, by decide +kernel⟩, List.mem_of_getElem? (i := 631) (by decide +kernel), List.mem_of_getElem? (i := 869) (by decide +kernel), List.mem_of_getElem? (i := 870) (by decide +kernel)⟩
theorem lw_p67 : lw_okq (⟨"CourtHouseModel", "waitedIn", "(I)I"⟩, 31) := ⟨⟨by decide +kernel, by decide +kernel⟩, List.mem_of_getElem? (i := 631) (by decide +kernel), List.mem_of_getElem? (i := 881) (by decide +kernel), List.mem_of_getElem? (i := 882) (by decide +kernel)⟩
theorem lw_p68 : lw_okq (⟨"CourtHouseModel", "isCalled", "(I)Z"⟩, 31) := ⟨⟨by decide +kernel, by decide +kernel⟩, List.mem_of_getElem? (i := 631) (by decide +kernel), List.mem_of_getElem? (i := 889) (by decide +kernel), List.mem_of_getElem? (i := 890) (by decide +kernel)⟩
theorem lw_p69 : lw_okq (⟨"CourtHouseModel", "span", "(I)V"⟩, 31) := ⟨⟨by decide +kernel, by decide +kernel⟩, List.mem_of_getElem? (i := 631) (by decide +kernel), List.mem_of_getElem? (i := 902) (by decide +kernel), List.mem_of_getElem? (i := 903) (by decide +kernel)⟩
theorem lw_p70 : lw_okq (⟨"CourtHouseModel", "giveRooms", "(I)Z"⟩, 31) := ⟨⟨by decide +kernel, by decide +kernel⟩, List.mem_of_getElem? (i := 631) (by decide +kernel), List.mem_of_getElem? (i := 906) (by decide +kernel), List.mem_of_getElem? (i := 907) (by decide +kernel)⟩
theorem lw_p71 : lw_okq (⟨"CourtHouseModel", "mayBe", "(II)Z"⟩, 31) := ⟨⟨by decide +kernel, by decide +kernel⟩, List.mem_of_getElem? (i := 631) (by decide +kernel), List.mem_of_getElem? (i := 910) (by decide +kernel), List.mem_of_getElem? (i := 911) (by decide +kernel)⟩
theorem lw_p72 : lw_okq (⟨"CourtHouseModel", "notify", "(II)V"⟩, 31) := ⟨⟨by decide +kernel, by decide +kernel⟩, List.mem_of_getElem? (i := 631) (by decide +kernel), List.mem_of_getElem? (i := 918) (by decide +kernel), List.mem_of_getElem? (i := 919) (by decide +kernel)⟩
def lw_privs_5 : List (MethodName × Nat) := [(⟨"CourtHouseModel", "whyNot", "(II)I"⟩, 31), (⟨"CourtHouseModel", "isBusy", "(III)Z"⟩, 31), (⟨"CourtHouseModel", "waitedFor", "(II)I"⟩, 31), (⟨"CourtHouseModel", "waitedIn", "(I)I"⟩, 31), (⟨"CourtHouseModel", "isCalled", "(I)Z"⟩, 31), (⟨"CourtHouseModel", "span", "(I)V"⟩, 31), (⟨"CourtHouseModel", "giveRooms", "(I)Z"⟩, 31), (⟨"CourtHouseModel", "mayBe", "(II)Z"⟩, 31), (⟨"CourtHouseModel", "notify", "(II)V"⟩, 31)]
theorem lw_r5 : ∀ q ∈ lw_privs_5, lw_okq q := List.forall_mem_cons.mpr ⟨lw_p64, List.forall_mem_cons.mpr ⟨lw_p65, List.forall_mem_cons.mpr ⟨lw_p66, List.forall_mem_cons.mpr ⟨lw_p67, List.forall_mem_cons.mpr ⟨lw_p68, List.forall_mem_cons.mpr ⟨lw_p69, List.forall_mem_cons.mpr ⟨lw_p70, List.forall_mem_cons.mpr ⟨lw_p71, List.forall_mem_cons.mpr ⟨lw_p72, fun _ h => absurd h List.not_mem_nil⟩⟩⟩⟩⟩⟩⟩⟩⟩
def lw_privs : List (MethodName × Nat) := lw_privs_1 ++ (lw_privs_2 ++ (lw_privs_3 ++ (lw_privs_4 ++ (lw_privs_5))))
def lw_tbl : List Cond := k2_sels lw_privs ++ tables_1
theorem lw_privs_ok : ∀ q ∈ lw_privs, lw_okq q := by
  show ∀ q ∈ lw_privs_1 ++ (lw_privs_2 ++ (lw_privs_3 ++ (lw_privs_4 ++ (lw_privs_5)))), lw_okq q
  exact List.forall_mem_append.mpr ⟨lw_r1, List.forall_mem_append.mpr ⟨lw_r2, List.forall_mem_append.mpr ⟨lw_r3, List.forall_mem_append.mpr ⟨lw_r4, lw_r5⟩⟩⟩⟩
/-! ===== BEGIN words of one list among another's, by their places ===== -/
theorem goodIn_r {big : List Cond} (ws : List Cond) (ps : List Nat) (hp : ws = ps.filterMap (fun i => big[i]?)) (h : ws.all goodWord = true) : GoodIn big ws := by
  intro w hw
  have h1 := List.all_eq_true.mp h w hw
  rw [hp] at hw
  obtain ⟨i, -, hi⟩ := List.mem_filterMap.mp hw
  have hm : w ∈ big := by first | exact List.mem_of_getElem? hi | exact List.getElem?_mem hi
  exact ⟨hm, good_of_word h1⟩
theorem goodIn_app {big a b : List Cond} (ha : GoodIn big a) (hb : GoodIn big b) : GoodIn big (a ++ b) := fun w h => (List.mem_append.mp h).elim (ha w) (hb w)
theorem goodIn_ca {big a b : List Cond} {c : Cond} (ha : GoodIn big (c :: a)) (hb : GoodIn big b) : GoodIn big (c :: (a ++ b)) := fun w h => (List.mem_cons.mp h).elim (fun e => ha w (List.mem_cons.mpr (Or.inl e))) (fun h => (List.mem_append.mp h).elim (fun h => ha w (List.mem_cons.mpr (Or.inr h))) (hb w))
theorem goodIn_sub {big ws : List Cond} (hm : ∀ w ∈ ws, w ∈ big) (h : ws.all goodWord = true) : GoodIn big ws := fun w hw => ⟨hm w hw, good_of_word (List.all_eq_true.mp h w hw)⟩
/-! ===== END ===== -/

/-! ===== BEGIN printed: names, fields, word lists, decode rows ===== -/
def RX0 : String := "CourtHouse$Chances"
def TX0 : u_T := fun k => match k with
  | _ => ("CourtHouse$Chances", "weightAt", "[J", true)
def tyX0 : Nat → FieldType := fun k => match k with
  | _ => .array .long
abbrev wsX00 : List Cond := u_ws RX0 TX0 1
theorem nmX0 : ∀ a, a < 1 → ∀ b, b < 1 → a ≠ b → (TX0 a).2.1 ≠ (TX0 b).2.1 := by decide +kernel
theorem tyX0_ok : ∀ k, k < 1 → parseFieldDescriptor (TX0 k).2.2.1 = some (tyX0 k) := by decide +kernel
abbrev cX0_init : ByteArray := prog_2_method_1_code
def yX0_init : MethodName := ⟨RX0, "<init>", "()V"⟩
abbrev cX0_weigh : ByteArray := prog_2_method_2_code
def yX0_weigh : MethodName := ⟨RX0, "weigh", "(LCourtHouse$Docket;I)V"⟩
abbrev cX0_putAhead : ByteArray := prog_2_method_3_code
def yX0_putAhead : MethodName := ⟨RX0, "putAhead", "(II)V"⟩
abbrev cX0_costAt : ByteArray := prog_2_method_4_code
def yX0_costAt : MethodName := ⟨RX0, "costAt", "(IJJ)J"⟩
abbrev cX0_cheapestFrom : ByteArray := prog_2_method_5_code
def yX0_cheapestFrom : MethodName := ⟨RX0, "cheapestFrom", "(IJJ)I"⟩
def RX1 : String := "CourtHouse$Day"
def TX1 : u_T := fun k => match k with
  | 0 => ("CourtHouse$Day", "beganAt", "[I", true)
  | 1 => ("CourtHouse$Day", "endsAt", "[I", true)
  | 2 => ("CourtHouse$Day", "idleOf", "[I", true)
  | 3 => ("CourtHouse$Day", "nextPlace", "[I", true)
  | 4 => ("CourtHouse$Day", "courtFreeAt", "[I", true)
  | 5 => ("CourtHouse$Day", "witnessFreeAt", "[I", true)
  | _ => ("CourtHouse$Day", "open", "I", false)
def tyX1 : Nat → FieldType := fun k => match k with
  | 0 => .array .int
  | 1 => .array .int
  | 2 => .array .int
  | 3 => .array .int
  | 4 => .array .int
  | 5 => .array .int
  | _ => .int
abbrev wsX10 : List Cond := u_ws RX1 TX1 7
theorem nmX1 : ∀ a, a < 7 → ∀ b, b < 7 → a ≠ b → (TX1 a).2.1 ≠ (TX1 b).2.1 := by decide +kernel
theorem tyX1_ok : ∀ k, k < 7 → parseFieldDescriptor (TX1 k).2.2.1 = some (tyX1 k) := by decide +kernel
abbrev cX1_init : ByteArray := prog_3_method_1_code
def yX1_init : MethodName := ⟨RX1, "<init>", "()V"⟩
abbrev cX1_run : ByteArray := prog_3_method_2_code
def yX1_run : MethodName := ⟨RX1, "run", "(LCourtHouse$Docket;)V"⟩
abbrev cX1_passQuarter : ByteArray := prog_3_method_3_code
def yX1_passQuarter : MethodName := ⟨RX1, "passQuarter", "(LCourtHouse$Docket;II)V"⟩
abbrev cX1_nextNotFolded : ByteArray := prog_3_method_4_code
def yX1_nextNotFolded : MethodName := ⟨RX1, "nextNotFolded", "(LCourtHouse$Docket;II)I"⟩
abbrev cX1_hindrance : ByteArray := prog_3_method_5_code
def yX1_hindrance : MethodName := ⟨RX1, "hindrance", "(LCourtHouse$Docket;II)I"⟩
abbrev cX1_begin : ByteArray := prog_3_method_6_code
def yX1_begin : MethodName := ⟨RX1, "begin", "(LCourtHouse$Docket;II)V"⟩
abbrev cX1_close : ByteArray := prog_3_method_7_code
def yX1_close : MethodName := ⟨RX1, "close", "(IIII)V"⟩
abbrev cX1_waitFor : ByteArray := prog_3_method_8_code
def yX1_waitFor : MethodName := ⟨RX1, "waitFor", "(LCourtHouse$Docket;II)I"⟩
abbrev cX1_waitOf : ByteArray := prog_3_method_9_code
def yX1_waitOf : MethodName := ⟨RX1, "waitOf", "(LCourtHouse$Docket;I)I"⟩
abbrev cX1_hearingsOf : ByteArray := prog_3_method_10_code
def yX1_hearingsOf : MethodName := ⟨RX1, "hearingsOf", "(LCourtHouse$Docket;I)I"⟩
def RX2 : String := "CourtHouse$Docket"
def TX2 : u_T := fun k => match k with
  | 0 => ("CourtHouse$Docket", "courtOf", "[I", true)
  | 1 => ("CourtHouse$Docket", "lengthOf", "[I", true)
  | 2 => ("CourtHouse$Docket", "foldOf", "[I", true)
  | 3 => ("CourtHouse$Docket", "needed", "[I", true)
  | 4 => ("CourtHouse$Docket", "fateOf", "[I", true)
  | 5 => ("CourtHouse$Docket", "calledFor", "[I", true)
  | 6 => ("CourtHouse$Docket", "listed", "[I", true)
  | 7 => ("CourtHouse$Docket", "listSize", "[I", true)
  | _ => ("CourtHouse$Docket", "size", "I", false)
def tyX2 : Nat → FieldType := fun k => match k with
  | 0 => .array .int
  | 1 => .array .int
  | 2 => .array .int
  | 3 => .array .int
  | 4 => .array .int
  | 5 => .array .int
  | 6 => .array .int
  | 7 => .array .int
  | _ => .int
abbrev wsX20 : List Cond := u_ws RX2 TX2 9
theorem nmX2 : ∀ a, a < 9 → ∀ b, b < 9 → a ≠ b → (TX2 a).2.1 ≠ (TX2 b).2.1 := by decide +kernel
theorem tyX2_ok : ∀ k, k < 9 → parseFieldDescriptor (TX2 k).2.2.1 = some (tyX2 k) := by decide +kernel
abbrev cX2_init : ByteArray := prog_4_method_1_code
def yX2_init : MethodName := ⟨RX2, "<init>", "()V"⟩
abbrev cX2_has : ByteArray := prog_4_method_2_code
def yX2_has : MethodName := ⟨RX2, "has", "(I)Z"⟩
abbrev cX2_enter : ByteArray := prog_4_method_3_code
def yX2_enter : MethodName := ⟨RX2, "enter", "(III)I"⟩
abbrev cX2_caseAt : ByteArray := prog_4_method_4_code
def yX2_caseAt : MethodName := ⟨RX2, "caseAt", "(II)I"⟩
abbrev cX2_placeOf : ByteArray := prog_4_method_5_code
def yX2_placeOf : MethodName := ⟨RX2, "placeOf", "(I)I"⟩
abbrev cX2_joinList : ByteArray := prog_4_method_6_code
def yX2_joinList : MethodName := ⟨RX2, "joinList", "(II)V"⟩
abbrev cX2_leaveList : ByteArray := prog_4_method_7_code
def yX2_leaveList : MethodName := ⟨RX2, "leaveList", "(I)V"⟩
abbrev cX2_hasNeedOf : ByteArray := prog_4_method_8_code
def yX2_hasNeedOf : MethodName := ⟨RX2, "hasNeedOf", "(II)Z"⟩
abbrev cX2_isCalled : ByteArray := prog_4_method_9_code
def yX2_isCalled : MethodName := ⟨RX2, "isCalled", "(I)Z"⟩
abbrev cX2_quarterFor : ByteArray := prog_4_method_10_code
def yX2_quarterFor : MethodName := ⟨RX2, "quarterFor", "(II)I"⟩
abbrev cX2_callFor : ByteArray := prog_4_method_11_code
def yX2_callFor : MethodName := ⟨RX2, "callFor", "(III)V"⟩
abbrev cX2_isFolded : ByteArray := prog_4_method_12_code
def yX2_isFolded : MethodName := ⟨RX2, "isFolded", "(I)Z"⟩
abbrev cX2_takesQuarters : ByteArray := prog_4_method_13_code
def yX2_takesQuarters : MethodName := ⟨RX2, "takesQuarters", "(I)I"⟩
abbrev cX2_fatesTold : ByteArray := prog_4_method_14_code
def yX2_fatesTold : MethodName := ⟨RX2, "fatesTold", "()I"⟩
def RX3 : String := "CourtHouse$NoticeBook"
def TX3 : u_T := fun k => match k with
  | 0 => ("CourtHouse$NoticeBook", "witnessOf", "[I", true)
  | 1 => ("CourtHouse$NoticeBook", "caseOf", "[I", true)
  | 2 => ("CourtHouse$NoticeBook", "wasRead", "[Z", true)
  | _ => ("CourtHouse$NoticeBook", "size", "I", false)
def tyX3 : Nat → FieldType := fun k => match k with
  | 0 => .array .int
  | 1 => .array .int
  | 2 => .array .boolean
  | _ => .int
abbrev wsX30 : List Cond := u_ws RX3 TX3 4
theorem nmX3 : ∀ a, a < 4 → ∀ b, b < 4 → a ≠ b → (TX3 a).2.1 ≠ (TX3 b).2.1 := by decide +kernel
theorem tyX3_ok : ∀ k, k < 4 → parseFieldDescriptor (TX3 k).2.2.1 = some (tyX3 k) := by decide +kernel
abbrev cX3_init : ByteArray := prog_5_method_1_code
def yX3_init : MethodName := ⟨RX3, "<init>", "()V"⟩
abbrev cX3_send : ByteArray := prog_5_method_2_code
def yX3_send : MethodName := ⟨RX3, "send", "(II)V"⟩
abbrev cX3_isPending : ByteArray := prog_5_method_3_code
def yX3_isPending : MethodName := ⟨RX3, "isPending", "(II)Z"⟩
abbrev cX3_readAll : ByteArray := prog_5_method_4_code
def yX3_readAll : MethodName := ⟨RX3, "readAll", "(I)I"⟩
abbrev cX3_unread : ByteArray := prog_5_method_5_code
def yX3_unread : MethodName := ⟨RX3, "unread", "()I"⟩
def RX4 : String := "CourtHouse$People"
def TX4 : u_T := fun k => match k with
  | 0 => ("CourtHouse$People", "kindOf", "[I", true)
  | 1 => ("CourtHouse$People", "wayOf", "[I", true)
  | 2 => ("CourtHouse$People", "apartFrom", "[I", true)
  | _ => ("CourtHouse$People", "size", "I", false)
def tyX4 : Nat → FieldType := fun k => match k with
  | 0 => .array .int
  | 1 => .array .int
  | 2 => .array .int
  | _ => .int
abbrev wsX40 : List Cond := u_ws RX4 TX4 4
theorem nmX4 : ∀ a, a < 4 → ∀ b, b < 4 → a ≠ b → (TX4 a).2.1 ≠ (TX4 b).2.1 := by decide +kernel
theorem tyX4_ok : ∀ k, k < 4 → parseFieldDescriptor (TX4 k).2.2.1 = some (tyX4 k) := by decide +kernel
abbrev cX4_init : ByteArray := prog_6_method_1_code
def yX4_init : MethodName := ⟨RX4, "<init>", "()V"⟩
abbrev cX4_has : ByteArray := prog_6_method_2_code
def yX4_has : MethodName := ⟨RX4, "has", "(I)Z"⟩
abbrev cX4_enter : ByteArray := prog_6_method_3_code
def yX4_enter : MethodName := ⟨RX4, "enter", "(II)I"⟩
abbrev cX4_areApart : ByteArray := prog_6_method_4_code
def yX4_areApart : MethodName := ⟨RX4, "areApart", "(II)Z"⟩
abbrev cX4_setApart : ByteArray := prog_6_method_5_code
def yX4_setApart : MethodName := ⟨RX4, "setApart", "(IIZ)V"⟩
abbrev cX4_pairsApart : ByteArray := prog_6_method_6_code
def yX4_pairsApart : MethodName := ⟨RX4, "pairsApart", "()I"⟩
def RX5 : String := "CourtHouse$Rooms"
def TX5 : u_T := fun k => match k with
  | 0 => ("CourtHouse$Rooms", "roomOf", "[I", true)
  | 1 => ("CourtHouse$Rooms", "from", "[I", true)
  | 2 => ("CourtHouse$Rooms", "until", "[I", true)
  | 3 => ("CourtHouse$Rooms", "foes", "[I", true)
  | _ => ("CourtHouse$Rooms", "inRoom", "[I", true)
def tyX5 : Nat → FieldType := fun k => match k with
  | 0 => .array .int
  | 1 => .array .int
  | 2 => .array .int
  | 3 => .array .int
  | _ => .array .int
abbrev wsX50 : List Cond := u_ws RX5 TX5 5
theorem nmX5 : ∀ a, a < 5 → ∀ b, b < 5 → a ≠ b → (TX5 a).2.1 ≠ (TX5 b).2.1 := by decide +kernel
theorem tyX5_ok : ∀ k, k < 5 → parseFieldDescriptor (TX5 k).2.2.1 = some (tyX5 k) := by decide +kernel
abbrev cX5_init : ByteArray := prog_7_method_1_code
def yX5_init : MethodName := ⟨RX5, "<init>", "()V"⟩
abbrev cX5_give : ByteArray := prog_7_method_2_code
def yX5_give : MethodName := ⟨RX5, "give", "(LCourtHouse$People;LCourtHouse$Docket;LCourtHouse$Day;)Z"⟩
abbrev cX5_measureStay : ByteArray := prog_7_method_3_code
def yX5_measureStay : MethodName := ⟨RX5, "measureStay", "(LCourtHouse$Docket;LCourtHouse$Day;I)V"⟩
abbrev cX5_findFoes : ByteArray := prog_7_method_4_code
def yX5_findFoes : MethodName := ⟨RX5, "findFoes", "(LCourtHouse$People;I)V"⟩
abbrev cX5_settle : ByteArray := prog_7_method_5_code
def yX5_settle : MethodName := ⟨RX5, "settle", "(LCourtHouse$Rooms;LCourtHouse$People;I)Z"⟩
abbrev cX5_isFree : ByteArray := prog_7_method_6_code
def yX5_isFree : MethodName := ⟨RX5, "isFree", "(II)Z"⟩
abbrev cX5_enter : ByteArray := prog_7_method_7_code
def yX5_enter : MethodName := ⟨RX5, "enter", "(II)V"⟩
abbrev cX5_leave : ByteArray := prog_7_method_8_code
def yX5_leave : MethodName := ⟨RX5, "leave", "(II)V"⟩
def RX6 : String := "CourtHouse$Sheets"
def TX6 : u_T := fun k => match k with
  | 0 => ("CourtHouse$Sheets", "row", "[B", true)
  | _ => ("CourtHouse$Sheets", "sizeOf", "[I", true)
def tyX6 : Nat → FieldType := fun k => match k with
  | 0 => .array .byte
  | _ => .array .int
abbrev wsX60 : List Cond := u_ws RX6 TX6 2
theorem nmX6 : ∀ a, a < 2 → ∀ b, b < 2 → a ≠ b → (TX6 a).2.1 ≠ (TX6 b).2.1 := by decide +kernel
theorem tyX6_ok : ∀ k, k < 2 → parseFieldDescriptor (TX6 k).2.2.1 = some (tyX6 k) := by decide +kernel
abbrev cX6_init : ByteArray := prog_8_method_1_code
def yX6_init : MethodName := ⟨RX6, "<init>", "()V"⟩
abbrev cX6_isMissing : ByteArray := prog_8_method_2_code
def yX6_isMissing : MethodName := ⟨RX6, "isMissing", "(I)Z"⟩
abbrev cX6_layOut : ByteArray := prog_8_method_3_code
def yX6_layOut : MethodName := ⟨RX6, "layOut", "(II)V"⟩
abbrev cX6_hasRun : ByteArray := prog_8_method_4_code
def yX6_hasRun : MethodName := ⟨RX6, "hasRun", "(III)Z"⟩
abbrev cX6_valueAt : ByteArray := prog_8_method_5_code
def yX6_valueAt : MethodName := ⟨RX6, "valueAt", "(II)I"⟩
abbrev cX6_put : ByteArray := prog_8_method_6_code
def yX6_put : MethodName := ⟨RX6, "put", "(IIB)V"⟩
abbrev cX6_copyRun : ByteArray := prog_8_method_7_code
def yX6_copyRun : MethodName := ⟨RX6, "copyRun", "(IIIII)V"⟩
abbrev cX6_present : ByteArray := prog_8_method_8_code
def yX6_present : MethodName := ⟨RX6, "present", "()I"⟩
def RX7 : String := "CourtHouse"
def TX7 : u_T := fun k => match k with
  | 0 => ("CourtHouse", "docket", "LCourtHouse$Docket;", true)
  | 1 => ("CourtHouse", "people", "LCourtHouse$People;", true)
  | 2 => ("CourtHouse", "chances", "LCourtHouse$Chances;", true)
  | 3 => ("CourtHouse", "day", "LCourtHouse$Day;", true)
  | 4 => ("CourtHouse", "rooms", "LCourtHouse$Rooms;", true)
  | 5 => ("CourtHouse", "notices", "LCourtHouse$NoticeBook;", true)
  | 6 => ("CourtHouse", "sheets", "LCourtHouse$Sheets;", true)
  | _ => ("CourtHouse", "rules", "[I", true)
def tyX7 : Nat → FieldType := fun k => match k with
  | 0 => .object "CourtHouse$Docket"
  | 1 => .object "CourtHouse$People"
  | 2 => .object "CourtHouse$Chances"
  | 3 => .object "CourtHouse$Day"
  | 4 => .object "CourtHouse$Rooms"
  | 5 => .object "CourtHouse$NoticeBook"
  | 6 => .object "CourtHouse$Sheets"
  | _ => .array .int
abbrev wsX70 : List Cond := u_ws RX7 TX7 8
theorem nmX7 : ∀ a, a < 8 → ∀ b, b < 8 → a ≠ b → (TX7 a).2.1 ≠ (TX7 b).2.1 := by decide +kernel
theorem tyX7_ok : ∀ k, k < 8 → parseFieldDescriptor (TX7 k).2.2.1 = some (tyX7 k) := by decide +kernel
abbrev cX7_init : ByteArray := prog_1_method_1_code
def yX7_init : MethodName := ⟨RX7, "<init>", "()V"⟩
abbrev cX7_newCase : ByteArray := prog_1_method_2_code
def yX7_newCase : MethodName := ⟨RX7, "newCase", "(III)J"⟩
abbrev cX7_witness : ByteArray := prog_1_method_3_code
def yX7_witness : MethodName := ⟨RX7, "witness", "(II)J"⟩
abbrev cX7_isOf : ByteArray := prog_1_method_4_code
def yX7_isOf : MethodName := ⟨RX7, "isOf", "(II)J"⟩
abbrev cX7_needs : ByteArray := prog_1_method_5_code
def yX7_needs : MethodName := ⟨RX7, "needs", "(II)J"⟩
abbrev cX7_fold : ByteArray := prog_1_method_6_code
def yX7_fold : MethodName := ⟨RX7, "fold", "(II)J"⟩
abbrev cX7_told : ByteArray := prog_1_method_7_code
def yX7_told : MethodName := ⟨RX7, "told", "(II)J"⟩
abbrev cX7_inList : ByteArray := prog_1_method_8_code
def yX7_inList : MethodName := ⟨RX7, "inList", "(II)J"⟩
abbrev cX7_rule : ByteArray := prog_1_method_9_code
def yX7_rule : MethodName := ⟨RX7, "rule", "(II)J"⟩
abbrev cX7_weight : ByteArray := prog_1_method_10_code
def yX7_weight : MethodName := ⟨RX7, "weight", "(II)J"⟩
abbrev cX7_cost : ByteArray := prog_1_method_11_code
def yX7_cost : MethodName := ⟨RX7, "cost", "(II)J"⟩
abbrev cX7_best : ByteArray := prog_1_method_12_code
def yX7_best : MethodName := ⟨RX7, "best", "(I)J"⟩
abbrev cX7_call : ByteArray := prog_1_method_13_code
def yX7_call : MethodName := ⟨RX7, "call", "(III)J"⟩
abbrev cX7_called : ByteArray := prog_1_method_14_code
def yX7_called : MethodName := ⟨RX7, "called", "(II)J"⟩
abbrev cX7_plan : ByteArray := prog_1_method_15_code
def yX7_plan : MethodName := ⟨RX7, "plan", "(I)J"⟩
abbrev cX7_fate : ByteArray := prog_1_method_16_code
def yX7_fate : MethodName := ⟨RX7, "fate", "(II)J"⟩
abbrev cX7_begins : ByteArray := prog_1_method_17_code
def yX7_begins : MethodName := ⟨RX7, "begins", "(II)J"⟩
abbrev cX7_waited : ByteArray := prog_1_method_18_code
def yX7_waited : MethodName := ⟨RX7, "waited", "(II)J"⟩
abbrev cX7_idle : ByteArray := prog_1_method_19_code
def yX7_idle : MethodName := ⟨RX7, "idle", "(II)J"⟩
abbrev cX7_waits : ByteArray := prog_1_method_20_code
def yX7_waits : MethodName := ⟨RX7, "waits", "()J"⟩
abbrev cX7_pay : ByteArray := prog_1_method_21_code
def yX7_pay : MethodName := ⟨RX7, "pay", "(I)J"⟩
abbrev cX7_apart : ByteArray := prog_1_method_22_code
def yX7_apart : MethodName := ⟨RX7, "apart", "(III)J"⟩
abbrev cX7_room : ByteArray := prog_1_method_23_code
def yX7_room : MethodName := ⟨RX7, "room", "(I)J"⟩
abbrev cX7_move : ByteArray := prog_1_method_24_code
def yX7_move : MethodName := ⟨RX7, "move", "(II)J"⟩
abbrev cX7_notice : ByteArray := prog_1_method_25_code
def yX7_notice : MethodName := ⟨RX7, "notice", "(II)J"⟩
abbrev cX7_read : ByteArray := prog_1_method_26_code
def yX7_read : MethodName := ⟨RX7, "read", "(I)J"⟩
abbrev cX7_sheet : ByteArray := prog_1_method_27_code
def yX7_sheet : MethodName := ⟨RX7, "sheet", "(II)J"⟩
abbrev cX7_mark : ByteArray := prog_1_method_28_code
def yX7_mark : MethodName := ⟨RX7, "mark", "(III)J"⟩
abbrev cX7_copy : ByteArray := prog_1_method_29_code
def yX7_copy : MethodName := ⟨RX7, "copy", "(IIIII)J"⟩
abbrev cX7_take : ByteArray := prog_1_method_30_code
def yX7_take : MethodName := ⟨RX7, "take", "(I)J"⟩
abbrev cX7_count : ByteArray := prog_1_method_31_code
def yX7_count : MethodName := ⟨RX7, "count", "(I)J"⟩
abbrev cX7_isWithin : ByteArray := prog_1_method_32_code
def yX7_isWithin : MethodName := ⟨RX7, "isWithin", "(III)Z"⟩
abbrev cX7_isCourt : ByteArray := prog_1_method_33_code
def yX7_isCourt : MethodName := ⟨RX7, "isCourt", "(I)Z"⟩
abbrev cX7_isQuarter : ByteArray := prog_1_method_34_code
def yX7_isQuarter : MethodName := ⟨RX7, "isQuarter", "(I)Z"⟩
abbrev cX7_isSheet : ByteArray := prog_1_method_35_code
def yX7_isSheet : MethodName := ⟨RX7, "isSheet", "(I)Z"⟩
abbrev cX7_holds : ByteArray := prog_1_method_36_code
def yX7_holds : MethodName := ⟨RX7, "holds", "(II)Z"⟩
abbrev cX7_asLong : ByteArray := prog_1_method_37_code
def yX7_asLong : MethodName := ⟨RX7, "asLong", "(Z)J"⟩
abbrev cX7_waitPrice : ByteArray := prog_1_method_38_code
def yX7_waitPrice : MethodName := ⟨RX7, "waitPrice", "(I)J"⟩
abbrev cX7_greatestWay : ByteArray := prog_1_method_39_code
def yX7_greatestWay : MethodName := ⟨RX7, "greatestWay", "(I)I"⟩
abbrev cX7_bestQuarter : ByteArray := prog_1_method_40_code
def yX7_bestQuarter : MethodName := ⟨RX7, "bestQuarter", "(I)I"⟩
def RX8 : String := "CourtHouseModel"
def TX8 : u_T := fun k => match k with
  | 0 => ("CourtHouseModel", "many", "[I", true)
  | 1 => ("CourtHouseModel", "list", "[I", true)
  | 2 => ("CourtHouseModel", "cases", "I", false)
  | 3 => ("CourtHouseModel", "court", "[I", true)
  | 4 => ("CourtHouseModel", "length", "[I", true)
  | 5 => ("CourtHouseModel", "folds", "[I", true)
  | 6 => ("CourtHouseModel", "sets", "[I", true)
  | 7 => ("CourtHouseModel", "fates", "[I", true)
  | 8 => ("CourtHouseModel", "witnesses", "I", false)
  | 9 => ("CourtHouseModel", "kind", "[I", true)
  | 10 => ("CourtHouseModel", "way", "[I", true)
  | 11 => ("CourtHouseModel", "apart", "[I", true)
  | 12 => ("CourtHouseModel", "calls", "[I", true)
  | 13 => ("CourtHouseModel", "rules", "[I", true)
  | 14 => ("CourtHouseModel", "notices", "I", false)
  | 15 => ("CourtHouseModel", "nWho", "[I", true)
  | 16 => ("CourtHouseModel", "nCase", "[I", true)
  | 17 => ("CourtHouseModel", "nRead", "[I", true)
  | 18 => ("CourtHouseModel", "places", "[I", true)
  | 19 => ("CourtHouseModel", "numbers", "[I", true)
  | 20 => ("CourtHouseModel", "weights", "[J", true)
  | 21 => ("CourtHouseModel", "next", "[J", true)
  | 22 => ("CourtHouseModel", "begun", "[I", true)
  | 23 => ("CourtHouseModel", "ends", "[I", true)
  | 24 => ("CourtHouseModel", "idles", "[I", true)
  | 25 => ("CourtHouseModel", "come", "[I", true)
  | 26 => ("CourtHouseModel", "open", "I", false)
  | 27 => ("CourtHouseModel", "from", "[I", true)
  | 28 => ("CourtHouseModel", "last", "[I", true)
  | 29 => ("CourtHouseModel", "rooms", "[I", true)
  | _ => ("CourtHouseModel", "carried", "[I", true)
def tyX8 : Nat → FieldType := fun k => match k with
  | 0 => .array .int
  | 1 => .array .int
  | 2 => .int
  | 3 => .array .int
  | 4 => .array .int
  | 5 => .array .int
  | 6 => .array .int
  | 7 => .array .int
  | 8 => .int
  | 9 => .array .int
  | 10 => .array .int
  | 11 => .array .int
  | 12 => .array .int
  | 13 => .array .int
  | 14 => .int
  | 15 => .array .int
  | 16 => .array .int
  | 17 => .array .int
  | 18 => .array .int
  | 19 => .array .int
  | 20 => .array .long
  | 21 => .array .long
  | 22 => .array .int
  | 23 => .array .int
  | 24 => .array .int
  | 25 => .array .int
  | 26 => .int
  | 27 => .array .int
  | 28 => .array .int
  | 29 => .array .int
  | _ => .array .int
abbrev wsX80 : List Cond := u_ws RX8 TX8 31
theorem nmX8 : ∀ a, a < 31 → ∀ b, b < 31 → a ≠ b → (TX8 a).2.1 ≠ (TX8 b).2.1 := by decide +kernel
theorem tyX8_ok : ∀ k, k < 31 → parseFieldDescriptor (TX8 k).2.2.1 = some (tyX8 k) := by decide +kernel
abbrev cX8_init : ByteArray := prog_10_method_1_code
def yX8_init : MethodName := ⟨RX8, "<init>", "()V"⟩
abbrev cX8_isIn : ByteArray := prog_10_method_2_code
def yX8_isIn : MethodName := ⟨RX8, "isIn", "(III)Z"⟩
abbrev cX8_isCourt : ByteArray := prog_10_method_3_code
def yX8_isCourt : MethodName := ⟨RX8, "isCourt", "(I)Z"⟩
abbrev cX8_isCase : ByteArray := prog_10_method_4_code
def yX8_isCase : MethodName := ⟨RX8, "isCase", "(I)Z"⟩
abbrev cX8_isWitness : ByteArray := prog_10_method_5_code
def yX8_isWitness : MethodName := ⟨RX8, "isWitness", "(I)Z"⟩
abbrev cX8_needs1 : ByteArray := prog_10_method_6_code
def yX8_needs1 : MethodName := ⟨RX8, "needs1", "(II)Z"⟩
abbrev cX8_enter : ByteArray := prog_10_method_7_code
def yX8_enter : MethodName := ⟨RX8, "enter", "(II)V"⟩
abbrev cX8_newCase : ByteArray := prog_10_method_8_code
def yX8_newCase : MethodName := ⟨RX8, "newCase", "(III)J"⟩
abbrev cX8_witness : ByteArray := prog_10_method_9_code
def yX8_witness : MethodName := ⟨RX8, "witness", "(II)J"⟩
abbrev cX8_isOf : ByteArray := prog_10_method_10_code
def yX8_isOf : MethodName := ⟨RX8, "isOf", "(II)J"⟩
abbrev cX8_needs : ByteArray := prog_10_method_11_code
def yX8_needs : MethodName := ⟨RX8, "needs", "(II)J"⟩
abbrev cX8_fold : ByteArray := prog_10_method_12_code
def yX8_fold : MethodName := ⟨RX8, "fold", "(II)J"⟩
abbrev cX8_placeOf : ByteArray := prog_10_method_13_code
def yX8_placeOf : MethodName := ⟨RX8, "placeOf", "(I)I"⟩
abbrev cX8_told : ByteArray := prog_10_method_14_code
def yX8_told : MethodName := ⟨RX8, "told", "(II)J"⟩
abbrev cX8_inList : ByteArray := prog_10_method_15_code
def yX8_inList : MethodName := ⟨RX8, "inList", "(II)J"⟩
abbrev cX8_rule : ByteArray := prog_10_method_16_code
def yX8_rule : MethodName := ⟨RX8, "rule", "(II)J"⟩
abbrev cX8_weigh : ByteArray := prog_10_method_17_code
def yX8_weigh : MethodName := ⟨RX8, "weigh", "(I)V"⟩
abbrev cX8_weight : ByteArray := prog_10_method_18_code
def yX8_weight : MethodName := ⟨RX8, "weight", "(II)J"⟩
abbrev cX8_weightOf : ByteArray := prog_10_method_19_code
def yX8_weightOf : MethodName := ⟨RX8, "weightOf", "(I)I"⟩
abbrev cX8_costOf : ByteArray := prog_10_method_20_code
def yX8_costOf : MethodName := ⟨RX8, "costOf", "(II)J"⟩
abbrev cX8_cost : ByteArray := prog_10_method_21_code
def yX8_cost : MethodName := ⟨RX8, "cost", "(II)J"⟩
abbrev cX8_bestFor : ByteArray := prog_10_method_22_code
def yX8_bestFor : MethodName := ⟨RX8, "bestFor", "(I)I"⟩
abbrev cX8_best : ByteArray := prog_10_method_23_code
def yX8_best : MethodName := ⟨RX8, "best", "(I)J"⟩
abbrev cX8_call : ByteArray := prog_10_method_24_code
def yX8_call : MethodName := ⟨RX8, "call", "(III)J"⟩
abbrev cX8_called : ByteArray := prog_10_method_25_code
def yX8_called : MethodName := ⟨RX8, "called", "(II)J"⟩
abbrev cX8_plan : ByteArray := prog_10_method_26_code
def yX8_plan : MethodName := ⟨RX8, "plan", "(I)J"⟩
abbrev cX8_isFolded : ByteArray := prog_10_method_27_code
def yX8_isFolded : MethodName := ⟨RX8, "isFolded", "(I)Z"⟩
abbrev cX8_isOn : ByteArray := prog_10_method_28_code
def yX8_isOn : MethodName := ⟨RX8, "isOn", "(II)Z"⟩
abbrev cX8_isBusy : ByteArray := prog_10_method_29_code
def yX8_isBusy : MethodName := ⟨RX8, "isBusy", "(III)Z"⟩
abbrev cX8_whyNot : ByteArray := prog_10_method_30_code
def yX8_whyNot : MethodName := ⟨RX8, "whyNot", "(II)I"⟩
abbrev cX8_goOn : ByteArray := prog_10_method_31_code
def yX8_goOn : MethodName := ⟨RX8, "goOn", "(II)V"⟩
abbrev cX8_runDay : ByteArray := prog_10_method_32_code
def yX8_runDay : MethodName := ⟨RX8, "runDay", "()V"⟩
abbrev cX8_fate : ByteArray := prog_10_method_33_code
def yX8_fate : MethodName := ⟨RX8, "fate", "(II)J"⟩
abbrev cX8_begins : ByteArray := prog_10_method_34_code
def yX8_begins : MethodName := ⟨RX8, "begins", "(II)J"⟩
abbrev cX8_waitedFor : ByteArray := prog_10_method_35_code
def yX8_waitedFor : MethodName := ⟨RX8, "waitedFor", "(II)I"⟩
abbrev cX8_waited : ByteArray := prog_10_method_36_code
def yX8_waited : MethodName := ⟨RX8, "waited", "(II)J"⟩
abbrev cX8_idle : ByteArray := prog_10_method_37_code
def yX8_idle : MethodName := ⟨RX8, "idle", "(II)J"⟩
abbrev cX8_waitedIn : ByteArray := prog_10_method_38_code
def yX8_waitedIn : MethodName := ⟨RX8, "waitedIn", "(I)I"⟩
abbrev cX8_waits : ByteArray := prog_10_method_39_code
def yX8_waits : MethodName := ⟨RX8, "waits", "()J"⟩
abbrev cX8_isCalled : ByteArray := prog_10_method_40_code
def yX8_isCalled : MethodName := ⟨RX8, "isCalled", "(I)Z"⟩
abbrev cX8_pay : ByteArray := prog_10_method_41_code
def yX8_pay : MethodName := ⟨RX8, "pay", "(I)J"⟩
abbrev cX8_apart : ByteArray := prog_10_method_42_code
def yX8_apart : MethodName := ⟨RX8, "apart", "(III)J"⟩
abbrev cX8_span : ByteArray := prog_10_method_43_code
def yX8_span : MethodName := ⟨RX8, "span", "(I)V"⟩
abbrev cX8_mayBe : ByteArray := prog_10_method_44_code
def yX8_mayBe : MethodName := ⟨RX8, "mayBe", "(II)Z"⟩
abbrev cX8_giveRooms : ByteArray := prog_10_method_45_code
def yX8_giveRooms : MethodName := ⟨RX8, "giveRooms", "(I)Z"⟩
abbrev cX8_room : ByteArray := prog_10_method_46_code
def yX8_room : MethodName := ⟨RX8, "room", "(I)J"⟩
abbrev cX8_notify : ByteArray := prog_10_method_47_code
def yX8_notify : MethodName := ⟨RX8, "notify", "(II)V"⟩
abbrev cX8_move : ByteArray := prog_10_method_48_code
def yX8_move : MethodName := ⟨RX8, "move", "(II)J"⟩
abbrev cX8_notice : ByteArray := prog_10_method_49_code
def yX8_notice : MethodName := ⟨RX8, "notice", "(II)J"⟩
abbrev cX8_read : ByteArray := prog_10_method_50_code
def yX8_read : MethodName := ⟨RX8, "read", "(I)J"⟩
abbrev cX8_isSheet : ByteArray := prog_10_method_51_code
def yX8_isSheet : MethodName := ⟨RX8, "isSheet", "(I)Z"⟩
abbrev cX8_sheet : ByteArray := prog_10_method_52_code
def yX8_sheet : MethodName := ⟨RX8, "sheet", "(II)J"⟩
abbrev cX8_mark : ByteArray := prog_10_method_53_code
def yX8_mark : MethodName := ⟨RX8, "mark", "(III)J"⟩
abbrev cX8_copy : ByteArray := prog_10_method_54_code
def yX8_copy : MethodName := ⟨RX8, "copy", "(IIIII)J"⟩
abbrev cX8_take : ByteArray := prog_10_method_55_code
def yX8_take : MethodName := ⟨RX8, "take", "(I)J"⟩
abbrev cX8_count : ByteArray := prog_10_method_56_code
def yX8_count : MethodName := ⟨RX8, "count", "(I)J"⟩
def RJ6 : String := "java/lang/Integer"
def TJ6 : u_T := fun k => match k with
  | _ => ("", "", "", false)
def tyJ6 : Nat → FieldType := fun k => match k with
  | _ => .int
abbrev wsJ60 : List Cond := u_ws RJ6 TJ6 0
theorem nmJ6 : ∀ a, a < 0 → ∀ b, b < 0 → a ≠ b → (TJ6 a).2.1 ≠ (TJ6 b).2.1 := by decide +kernel
theorem tyJ6_ok : ∀ k, k < 0 → parseFieldDescriptor (TJ6 k).2.2.1 = some (tyJ6 k) := by decide +kernel
abbrev cJ6_bitCount_0f7a4 : ByteArray := prog_11_method_49_code
def yJ6_bitCount_0f7a4 : MethodName := ⟨RJ6, "bitCount", "(I)I"⟩
def RJ9 : String := "java/lang/Math"
def TJ9 : u_T := fun k => match k with
  | _ => ("", "", "", false)
def tyJ9 : Nat → FieldType := fun k => match k with
  | _ => .int
abbrev wsJ90 : List Cond := u_ws RJ9 TJ9 0
theorem nmJ9 : ∀ a, a < 0 → ∀ b, b < 0 → a ≠ b → (TJ9 a).2.1 ≠ (TJ9 b).2.1 := by decide +kernel
theorem tyJ9_ok : ∀ k, k < 0 → parseFieldDescriptor (TJ9 k).2.2.1 = some (tyJ9 k) := by decide +kernel
abbrev cJ9_max_7cf53 : ByteArray := prog_12_method_65_code
def yJ9_max_7cf53 : MethodName := ⟨RJ9, "max", "(II)I"⟩
abbrev cJ9_min_7cf53 : ByteArray := prog_12_method_69_code
def yJ9_min_7cf53 : MethodName := ⟨RJ9, "min", "(II)I"⟩
def RJ10 : String := "java/lang/System"
def TJ10 : u_T := fun k => match k with
  | _ => ("", "", "", false)
def tyJ10 : Nat → FieldType := fun k => match k with
  | _ => .int
abbrev wsJ100 : List Cond := u_ws RJ10 TJ10 0
theorem nmJ10 : ∀ a, a < 0 → ∀ b, b < 0 → a ≠ b → (TJ10 a).2.1 ≠ (TJ10 b).2.1 := by decide +kernel
theorem tyJ10_ok : ∀ k, k < 0 → parseFieldDescriptor (TJ10 k).2.2.1 = some (tyJ10 k) := by decide +kernel
def RJ7 : String := "java/util/Arrays"
def TJ7 : u_T := fun k => match k with
  | _ => ("", "", "", false)
def tyJ7 : Nat → FieldType := fun k => match k with
  | _ => .int
abbrev wsJ70 : List Cond := u_ws RJ7 TJ7 0
theorem nmJ7 : ∀ a, a < 0 → ∀ b, b < 0 → a ≠ b → (TJ7 a).2.1 ≠ (TJ7 b).2.1 := by decide +kernel
theorem tyJ7_ok : ∀ k, k < 0 → parseFieldDescriptor (TJ7 k).2.2.1 = some (tyJ7 k) := by decide +kernel
abbrev cJ7_fill_d0a16 : ByteArray := prog_14_method_101_code
def yJ7_fill_d0a16 : MethodName := ⟨RJ7, "fill", "([JJ)V"⟩
abbrev cJ7_fill_53178 : ByteArray := prog_14_method_103_code
def yJ7_fill_53178 : MethodName := ⟨RJ7, "fill", "([II)V"⟩
def RL : String := "CourtHouseLaw"
abbrev cL_law : ByteArray := code
def yL_law : MethodName := ⟨RL, "law", "([I)Z"⟩
end
section
theorem dX0_init_0 : decode cX0_init 0 = .ok (.aload_n 0, 1) := by decide +kernel
theorem dX0_init_1 : decode cX0_init 1 = .ok (.invokespecial 3, 3) := by decide +kernel
theorem dX0_init_4 : decode cX0_init 4 = .ok (.aload_n 0, 1) := by decide +kernel
theorem dX0_init_5 : decode cX0_init 5 = .ok (.bipush 49, 2) := by decide +kernel
theorem dX0_init_7 : decode cX0_init 7 = .ok (.newarray .long, 2) := by decide +kernel
theorem dX0_init_9 : decode cX0_init 9 = .ok (.putfield 9, 3) := by decide +kernel
theorem dX0_init_12 : decode cX0_init 12 = .ok (.return_, 1) := by decide +kernel
theorem dX0_weigh_0 : decode cX0_weigh 0 = .ok (.aload_n 0, 1) := by decide +kernel
theorem dX0_weigh_1 : decode cX0_weigh 1 = .ok (.getfield 9, 3) := by decide +kernel
theorem dX0_weigh_4 : decode cX0_weigh 4 = .ok (.lconst 0, 1) := by decide +kernel
theorem dX0_weigh_5 : decode cX0_weigh 5 = .ok (.invokestatic 15, 3) := by decide +kernel
theorem dX0_weigh_8 : decode cX0_weigh 8 = .ok (.aload_n 0, 1) := by decide +kernel
theorem dX0_weigh_9 : decode cX0_weigh 9 = .ok (.getfield 9, 3) := by decide +kernel
theorem dX0_weigh_12 : decode cX0_weigh 12 = .ok (.iconst 0, 1) := by decide +kernel
theorem dX0_weigh_13 : decode cX0_weigh 13 = .ok (.lconst 1, 1) := by decide +kernel
theorem dX0_weigh_14 : decode cX0_weigh 14 = .ok (.lastore, 1) := by decide +kernel
theorem dX0_weigh_15 : decode cX0_weigh 15 = .ok (.aload_n 1, 1) := by decide +kernel
theorem dX0_weigh_16 : decode cX0_weigh 16 = .ok (.getfield 21, 3) := by decide +kernel
theorem dX0_weigh_19 : decode cX0_weigh 19 = .ok (.iload_n 2, 1) := by decide +kernel
theorem dX0_weigh_20 : decode cX0_weigh 20 = .ok (.iaload, 1) := by decide +kernel
theorem dX0_weigh_21 : decode cX0_weigh 21 = .ok (.istore_n 3, 1) := by decide +kernel
theorem dX0_weigh_22 : decode cX0_weigh 22 = .ok (.aload_n 1, 1) := by decide +kernel
theorem dX0_weigh_23 : decode cX0_weigh 23 = .ok (.iload_n 2, 1) := by decide +kernel
theorem dX0_weigh_24 : decode cX0_weigh 24 = .ok (.invokevirtual 27, 3) := by decide +kernel
theorem dX0_weigh_27 : decode cX0_weigh 27 = .ok (.istore 4, 2) := by decide +kernel
theorem dX0_weigh_29 : decode cX0_weigh 29 = .ok (.iconst 0, 1) := by decide +kernel
theorem dX0_weigh_30 : decode cX0_weigh 30 = .ok (.istore 5, 2) := by decide +kernel
theorem dX0_weigh_32 : decode cX0_weigh 32 = .ok (.iload 5, 2) := by decide +kernel
theorem dX0_weigh_34 : decode cX0_weigh 34 = .ok (.iload 4, 2) := by decide +kernel
theorem dX0_weigh_36 : decode cX0_weigh 36 = .ok (.if_icmp .ge 42, 3) := by decide +kernel
theorem dX0_weigh_39 : decode cX0_weigh 39 = .ok (.aload_n 1, 1) := by decide +kernel
theorem dX0_weigh_40 : decode cX0_weigh 40 = .ok (.iload_n 3, 1) := by decide +kernel
theorem dX0_weigh_41 : decode cX0_weigh 41 = .ok (.iload 5, 2) := by decide +kernel
theorem dX0_weigh_43 : decode cX0_weigh 43 = .ok (.invokevirtual 31, 3) := by decide +kernel
theorem dX0_weigh_46 : decode cX0_weigh 46 = .ok (.istore 6, 2) := by decide +kernel
theorem dX0_weigh_48 : decode cX0_weigh 48 = .ok (.iload 6, 2) := by decide +kernel
theorem dX0_weigh_50 : decode cX0_weigh 50 = .ok (.iconst (-1), 1) := by decide +kernel
theorem dX0_weigh_51 : decode cX0_weigh 51 = .ok (.if_icmp .eq 21, 3) := by decide +kernel
theorem dX0_weigh_54 : decode cX0_weigh 54 = .ok (.aload_n 0, 1) := by decide +kernel
theorem dX0_weigh_55 : decode cX0_weigh 55 = .ok (.aload_n 1, 1) := by decide +kernel
theorem dX0_weigh_56 : decode cX0_weigh 56 = .ok (.getfield 35, 3) := by decide +kernel
theorem dX0_weigh_59 : decode cX0_weigh 59 = .ok (.iload 6, 2) := by decide +kernel
theorem dX0_weigh_61 : decode cX0_weigh 61 = .ok (.iaload, 1) := by decide +kernel
theorem dX0_weigh_62 : decode cX0_weigh 62 = .ok (.aload_n 1, 1) := by decide +kernel
theorem dX0_weigh_63 : decode cX0_weigh 63 = .ok (.getfield 38, 3) := by decide +kernel
theorem dX0_weigh_66 : decode cX0_weigh 66 = .ok (.iload 6, 2) := by decide +kernel
theorem dX0_weigh_68 : decode cX0_weigh 68 = .ok (.iaload, 1) := by decide +kernel
theorem dX0_weigh_69 : decode cX0_weigh 69 = .ok (.invokevirtual 41, 3) := by decide +kernel
theorem dX0_weigh_72 : decode cX0_weigh 72 = .ok (.iinc 5 1, 3) := by decide +kernel
theorem dX0_weigh_75 : decode cX0_weigh 75 = .ok (.goto (-43), 3) := by decide +kernel
theorem dX0_weigh_78 : decode cX0_weigh 78 = .ok (.return_, 1) := by decide +kernel
theorem dX0_putAhead_0 : decode cX0_putAhead 0 = .ok (.bipush 48, 2) := by decide +kernel
theorem dX0_putAhead_2 : decode cX0_putAhead 2 = .ok (.istore_n 3, 1) := by decide +kernel
theorem dX0_putAhead_3 : decode cX0_putAhead 3 = .ok (.iload_n 3, 1) := by decide +kernel
theorem dX0_putAhead_4 : decode cX0_putAhead 4 = .ok (.ifCond .lt 52, 3) := by decide +kernel
theorem dX0_putAhead_7 : decode cX0_putAhead 7 = .ok (.iload_n 3, 1) := by decide +kernel
theorem dX0_putAhead_8 : decode cX0_putAhead 8 = .ok (.iload_n 1, 1) := by decide +kernel
theorem dX0_putAhead_9 : decode cX0_putAhead 9 = .ok (.if_icmp .lt 14, 3) := by decide +kernel
theorem dX0_putAhead_12 : decode cX0_putAhead 12 = .ok (.aload_n 0, 1) := by decide +kernel
theorem dX0_putAhead_13 : decode cX0_putAhead 13 = .ok (.getfield 9, 3) := by decide +kernel
theorem dX0_putAhead_16 : decode cX0_putAhead 16 = .ok (.iload_n 3, 1) := by decide +kernel
theorem dX0_putAhead_17 : decode cX0_putAhead 17 = .ok (.iload_n 1, 1) := by decide +kernel
theorem dX0_putAhead_18 : decode cX0_putAhead 18 = .ok (.isub, 1) := by decide +kernel
theorem dX0_putAhead_19 : decode cX0_putAhead 19 = .ok (.laload, 1) := by decide +kernel
theorem dX0_putAhead_20 : decode cX0_putAhead 20 = .ok (.goto 4, 3) := by decide +kernel
theorem dX0_putAhead_23 : decode cX0_putAhead 23 = .ok (.lconst 0, 1) := by decide +kernel
theorem dX0_putAhead_24 : decode cX0_putAhead 24 = .ok (.lstore 4, 2) := by decide +kernel
theorem dX0_putAhead_26 : decode cX0_putAhead 26 = .ok (.aload_n 0, 1) := by decide +kernel
theorem dX0_putAhead_27 : decode cX0_putAhead 27 = .ok (.getfield 9, 3) := by decide +kernel
theorem dX0_putAhead_30 : decode cX0_putAhead 30 = .ok (.iload_n 3, 1) := by decide +kernel
theorem dX0_putAhead_31 : decode cX0_putAhead 31 = .ok (.aload_n 0, 1) := by decide +kernel
theorem dX0_putAhead_32 : decode cX0_putAhead 32 = .ok (.getfield 9, 3) := by decide +kernel
theorem dX0_putAhead_35 : decode cX0_putAhead 35 = .ok (.iload_n 3, 1) := by decide +kernel
theorem dX0_putAhead_36 : decode cX0_putAhead 36 = .ok (.laload, 1) := by decide +kernel
theorem dX0_putAhead_37 : decode cX0_putAhead 37 = .ok (.iload_n 2, 1) := by decide +kernel
theorem dX0_putAhead_38 : decode cX0_putAhead 38 = .ok (.i2l, 1) := by decide +kernel
theorem dX0_putAhead_39 : decode cX0_putAhead 39 = .ok (.lmul, 1) := by decide +kernel
theorem dX0_putAhead_40 : decode cX0_putAhead 40 = .ok (.lload 4, 2) := by decide +kernel
theorem dX0_putAhead_42 : decode cX0_putAhead 42 = .ok (.bipush 100, 2) := by decide +kernel
theorem dX0_putAhead_44 : decode cX0_putAhead 44 = .ok (.iload_n 2, 1) := by decide +kernel
theorem dX0_putAhead_45 : decode cX0_putAhead 45 = .ok (.isub, 1) := by decide +kernel
theorem dX0_putAhead_46 : decode cX0_putAhead 46 = .ok (.i2l, 1) := by decide +kernel
theorem dX0_putAhead_47 : decode cX0_putAhead 47 = .ok (.lmul, 1) := by decide +kernel
theorem dX0_putAhead_48 : decode cX0_putAhead 48 = .ok (.ladd, 1) := by decide +kernel
theorem dX0_putAhead_49 : decode cX0_putAhead 49 = .ok (.lastore, 1) := by decide +kernel
theorem dX0_putAhead_50 : decode cX0_putAhead 50 = .ok (.iinc 3 (-1), 3) := by decide +kernel
theorem dX0_putAhead_53 : decode cX0_putAhead 53 = .ok (.goto (-50), 3) := by decide +kernel
theorem dX0_putAhead_56 : decode cX0_putAhead 56 = .ok (.return_, 1) := by decide +kernel
theorem dX0_costAt_0 : decode cX0_costAt 0 = .ok (.lconst 0, 1) := by decide +kernel
theorem dX0_costAt_1 : decode cX0_costAt 1 = .ok (.lstore 6, 2) := by decide +kernel
theorem dX0_costAt_3 : decode cX0_costAt 3 = .ok (.iconst 0, 1) := by decide +kernel
theorem dX0_costAt_4 : decode cX0_costAt 4 = .ok (.istore 8, 2) := by decide +kernel
theorem dX0_costAt_6 : decode cX0_costAt 6 = .ok (.iload 8, 2) := by decide +kernel
theorem dX0_costAt_8 : decode cX0_costAt 8 = .ok (.bipush 48, 2) := by decide +kernel
theorem dX0_costAt_10 : decode cX0_costAt 10 = .ok (.if_icmp .gt 50, 3) := by decide +kernel
theorem dX0_costAt_13 : decode cX0_costAt 13 = .ok (.iload 8, 2) := by decide +kernel
theorem dX0_costAt_15 : decode cX0_costAt 15 = .ok (.iload_n 1, 1) := by decide +kernel
theorem dX0_costAt_16 : decode cX0_costAt 16 = .ok (.if_icmp .le 13, 3) := by decide +kernel
theorem dX0_costAt_19 : decode cX0_costAt 19 = .ok (.iload 8, 2) := by decide +kernel
theorem dX0_costAt_21 : decode cX0_costAt 21 = .ok (.iload_n 1, 1) := by decide +kernel
theorem dX0_costAt_22 : decode cX0_costAt 22 = .ok (.isub, 1) := by decide +kernel
theorem dX0_costAt_23 : decode cX0_costAt 23 = .ok (.i2l, 1) := by decide +kernel
theorem dX0_costAt_24 : decode cX0_costAt 24 = .ok (.lload_n 2, 1) := by decide +kernel
theorem dX0_costAt_25 : decode cX0_costAt 25 = .ok (.lmul, 1) := by decide +kernel
theorem dX0_costAt_26 : decode cX0_costAt 26 = .ok (.goto 11, 3) := by decide +kernel
theorem dX0_costAt_29 : decode cX0_costAt 29 = .ok (.iload_n 1, 1) := by decide +kernel
theorem dX0_costAt_30 : decode cX0_costAt 30 = .ok (.iload 8, 2) := by decide +kernel
theorem dX0_costAt_32 : decode cX0_costAt 32 = .ok (.isub, 1) := by decide +kernel
theorem dX0_costAt_33 : decode cX0_costAt 33 = .ok (.i2l, 1) := by decide +kernel
theorem dX0_costAt_34 : decode cX0_costAt 34 = .ok (.lload 4, 2) := by decide +kernel
theorem dX0_costAt_36 : decode cX0_costAt 36 = .ok (.lmul, 1) := by decide +kernel
theorem dX0_costAt_37 : decode cX0_costAt 37 = .ok (.lstore 9, 2) := by decide +kernel
theorem dX0_costAt_39 : decode cX0_costAt 39 = .ok (.lload 6, 2) := by decide +kernel
theorem dX0_costAt_41 : decode cX0_costAt 41 = .ok (.aload_n 0, 1) := by decide +kernel
theorem dX0_costAt_42 : decode cX0_costAt 42 = .ok (.getfield 9, 3) := by decide +kernel
theorem dX0_costAt_45 : decode cX0_costAt 45 = .ok (.iload 8, 2) := by decide +kernel
theorem dX0_costAt_47 : decode cX0_costAt 47 = .ok (.laload, 1) := by decide +kernel
theorem dX0_costAt_48 : decode cX0_costAt 48 = .ok (.lload 9, 2) := by decide +kernel
theorem dX0_costAt_50 : decode cX0_costAt 50 = .ok (.lmul, 1) := by decide +kernel
theorem dX0_costAt_51 : decode cX0_costAt 51 = .ok (.ladd, 1) := by decide +kernel
theorem dX0_costAt_52 : decode cX0_costAt 52 = .ok (.lstore 6, 2) := by decide +kernel
theorem dX0_costAt_54 : decode cX0_costAt 54 = .ok (.iinc 8 1, 3) := by decide +kernel
theorem dX0_costAt_57 : decode cX0_costAt 57 = .ok (.goto (-51), 3) := by decide +kernel
theorem dX0_costAt_60 : decode cX0_costAt 60 = .ok (.lload 6, 2) := by decide +kernel
theorem dX0_costAt_62 : decode cX0_costAt 62 = .ok (.lreturn, 1) := by decide +kernel
theorem dX0_cheapestFrom_0 : decode cX0_cheapestFrom 0 = .ok (.iload_n 1, 1) := by decide +kernel
theorem dX0_cheapestFrom_1 : decode cX0_cheapestFrom 1 = .ok (.istore 6, 2) := by decide +kernel
theorem dX0_cheapestFrom_3 : decode cX0_cheapestFrom 3 = .ok (.aload_n 0, 1) := by decide +kernel
theorem dX0_cheapestFrom_4 : decode cX0_cheapestFrom 4 = .ok (.iload_n 1, 1) := by decide +kernel
theorem dX0_cheapestFrom_5 : decode cX0_cheapestFrom 5 = .ok (.lload_n 2, 1) := by decide +kernel
theorem dX0_cheapestFrom_6 : decode cX0_cheapestFrom 6 = .ok (.lload 4, 2) := by decide +kernel
theorem dX0_cheapestFrom_8 : decode cX0_cheapestFrom 8 = .ok (.invokevirtual 45, 3) := by decide +kernel
theorem dX0_cheapestFrom_11 : decode cX0_cheapestFrom 11 = .ok (.lstore 7, 2) := by decide +kernel
theorem dX0_cheapestFrom_13 : decode cX0_cheapestFrom 13 = .ok (.iload_n 1, 1) := by decide +kernel
theorem dX0_cheapestFrom_14 : decode cX0_cheapestFrom 14 = .ok (.iconst 1, 1) := by decide +kernel
theorem dX0_cheapestFrom_15 : decode cX0_cheapestFrom 15 = .ok (.iadd, 1) := by decide +kernel
theorem dX0_cheapestFrom_16 : decode cX0_cheapestFrom 16 = .ok (.istore 9, 2) := by decide +kernel
theorem dX0_cheapestFrom_18 : decode cX0_cheapestFrom 18 = .ok (.iload 9, 2) := by decide +kernel
theorem dX0_cheapestFrom_20 : decode cX0_cheapestFrom 20 = .ok (.bipush 48, 2) := by decide +kernel
theorem dX0_cheapestFrom_22 : decode cX0_cheapestFrom 22 = .ok (.if_icmp .gt 36, 3) := by decide +kernel
theorem dX0_cheapestFrom_25 : decode cX0_cheapestFrom 25 = .ok (.aload_n 0, 1) := by decide +kernel
theorem dX0_cheapestFrom_26 : decode cX0_cheapestFrom 26 = .ok (.iload 9, 2) := by decide +kernel
theorem dX0_cheapestFrom_28 : decode cX0_cheapestFrom 28 = .ok (.lload_n 2, 1) := by decide +kernel
theorem dX0_cheapestFrom_29 : decode cX0_cheapestFrom 29 = .ok (.lload 4, 2) := by decide +kernel
theorem dX0_cheapestFrom_31 : decode cX0_cheapestFrom 31 = .ok (.invokevirtual 45, 3) := by decide +kernel
theorem dX0_cheapestFrom_34 : decode cX0_cheapestFrom 34 = .ok (.lstore 10, 2) := by decide +kernel
theorem dX0_cheapestFrom_36 : decode cX0_cheapestFrom 36 = .ok (.lload 10, 2) := by decide +kernel
theorem dX0_cheapestFrom_38 : decode cX0_cheapestFrom 38 = .ok (.lload 7, 2) := by decide +kernel
theorem dX0_cheapestFrom_40 : decode cX0_cheapestFrom 40 = .ok (.lcmp, 1) := by decide +kernel
theorem dX0_cheapestFrom_41 : decode cX0_cheapestFrom 41 = .ok (.ifCond .ge 11, 3) := by decide +kernel
theorem dX0_cheapestFrom_44 : decode cX0_cheapestFrom 44 = .ok (.lload 10, 2) := by decide +kernel
theorem dX0_cheapestFrom_46 : decode cX0_cheapestFrom 46 = .ok (.lstore 7, 2) := by decide +kernel
theorem dX0_cheapestFrom_48 : decode cX0_cheapestFrom 48 = .ok (.iload 9, 2) := by decide +kernel
theorem dX0_cheapestFrom_50 : decode cX0_cheapestFrom 50 = .ok (.istore 6, 2) := by decide +kernel
theorem dX0_cheapestFrom_52 : decode cX0_cheapestFrom 52 = .ok (.iinc 9 1, 3) := by decide +kernel
theorem dX0_cheapestFrom_55 : decode cX0_cheapestFrom 55 = .ok (.goto (-37), 3) := by decide +kernel
theorem dX0_cheapestFrom_58 : decode cX0_cheapestFrom 58 = .ok (.iload 6, 2) := by decide +kernel
theorem dX0_cheapestFrom_60 : decode cX0_cheapestFrom 60 = .ok (.ireturn, 1) := by decide +kernel
theorem dX1_init_0 : decode cX1_init 0 = .ok (.aload_n 0, 1) := by decide +kernel
theorem dX1_init_1 : decode cX1_init 1 = .ok (.invokespecial 3, 3) := by decide +kernel
theorem dX1_init_4 : decode cX1_init 4 = .ok (.aload_n 0, 1) := by decide +kernel
theorem dX1_init_5 : decode cX1_init 5 = .ok (.bipush 12, 2) := by decide +kernel
theorem dX1_init_7 : decode cX1_init 7 = .ok (.newarray .int, 2) := by decide +kernel
theorem dX1_init_9 : decode cX1_init 9 = .ok (.putfield 9, 3) := by decide +kernel
theorem dX1_init_12 : decode cX1_init 12 = .ok (.aload_n 0, 1) := by decide +kernel
theorem dX1_init_13 : decode cX1_init 13 = .ok (.bipush 12, 2) := by decide +kernel
theorem dX1_init_15 : decode cX1_init 15 = .ok (.newarray .int, 2) := by decide +kernel
theorem dX1_init_17 : decode cX1_init 17 = .ok (.putfield 15, 3) := by decide +kernel
theorem dX1_init_20 : decode cX1_init 20 = .ok (.aload_n 0, 1) := by decide +kernel
theorem dX1_init_21 : decode cX1_init 21 = .ok (.bipush 6, 2) := by decide +kernel
theorem dX1_init_23 : decode cX1_init 23 = .ok (.newarray .int, 2) := by decide +kernel
theorem dX1_init_25 : decode cX1_init 25 = .ok (.putfield 18, 3) := by decide +kernel
theorem dX1_init_28 : decode cX1_init 28 = .ok (.aload_n 0, 1) := by decide +kernel
theorem dX1_init_29 : decode cX1_init 29 = .ok (.iconst 3, 1) := by decide +kernel
theorem dX1_init_30 : decode cX1_init 30 = .ok (.newarray .int, 2) := by decide +kernel
theorem dX1_init_32 : decode cX1_init 32 = .ok (.putfield 21, 3) := by decide +kernel
theorem dX1_init_35 : decode cX1_init 35 = .ok (.aload_n 0, 1) := by decide +kernel
theorem dX1_init_36 : decode cX1_init 36 = .ok (.iconst 3, 1) := by decide +kernel
theorem dX1_init_37 : decode cX1_init 37 = .ok (.newarray .int, 2) := by decide +kernel
theorem dX1_init_39 : decode cX1_init 39 = .ok (.putfield 24, 3) := by decide +kernel
theorem dX1_init_42 : decode cX1_init 42 = .ok (.aload_n 0, 1) := by decide +kernel
theorem dX1_init_43 : decode cX1_init 43 = .ok (.bipush 10, 2) := by decide +kernel
theorem dX1_init_45 : decode cX1_init 45 = .ok (.newarray .int, 2) := by decide +kernel
theorem dX1_init_47 : decode cX1_init 47 = .ok (.putfield 27, 3) := by decide +kernel
theorem dX1_init_50 : decode cX1_init 50 = .ok (.return_, 1) := by decide +kernel
theorem dX1_run_0 : decode cX1_run 0 = .ok (.aload_n 0, 1) := by decide +kernel
theorem dX1_run_1 : decode cX1_run 1 = .ok (.getfield 9, 3) := by decide +kernel
theorem dX1_run_4 : decode cX1_run 4 = .ok (.iconst (-1), 1) := by decide +kernel
theorem dX1_run_5 : decode cX1_run 5 = .ok (.invokestatic 30, 3) := by decide +kernel
theorem dX1_run_8 : decode cX1_run 8 = .ok (.aload_n 0, 1) := by decide +kernel
theorem dX1_run_9 : decode cX1_run 9 = .ok (.getfield 15, 3) := by decide +kernel
theorem dX1_run_12 : decode cX1_run 12 = .ok (.iconst (-1), 1) := by decide +kernel
theorem dX1_run_13 : decode cX1_run 13 = .ok (.invokestatic 30, 3) := by decide +kernel
theorem dX1_run_16 : decode cX1_run 16 = .ok (.aload_n 0, 1) := by decide +kernel
theorem dX1_run_17 : decode cX1_run 17 = .ok (.getfield 18, 3) := by decide +kernel
theorem dX1_run_20 : decode cX1_run 20 = .ok (.iconst 0, 1) := by decide +kernel
theorem dX1_run_21 : decode cX1_run 21 = .ok (.invokestatic 30, 3) := by decide +kernel
theorem dX1_run_24 : decode cX1_run 24 = .ok (.aload_n 0, 1) := by decide +kernel
theorem dX1_run_25 : decode cX1_run 25 = .ok (.getfield 21, 3) := by decide +kernel
theorem dX1_run_28 : decode cX1_run 28 = .ok (.iconst 0, 1) := by decide +kernel
theorem dX1_run_29 : decode cX1_run 29 = .ok (.invokestatic 30, 3) := by decide +kernel
theorem dX1_run_32 : decode cX1_run 32 = .ok (.aload_n 0, 1) := by decide +kernel
theorem dX1_run_33 : decode cX1_run 33 = .ok (.getfield 24, 3) := by decide +kernel
theorem dX1_run_36 : decode cX1_run 36 = .ok (.iconst 0, 1) := by decide +kernel
theorem dX1_run_37 : decode cX1_run 37 = .ok (.invokestatic 30, 3) := by decide +kernel
theorem dX1_run_40 : decode cX1_run 40 = .ok (.aload_n 0, 1) := by decide +kernel
theorem dX1_run_41 : decode cX1_run 41 = .ok (.getfield 27, 3) := by decide +kernel
theorem dX1_run_44 : decode cX1_run 44 = .ok (.iconst 0, 1) := by decide +kernel
theorem dX1_run_45 : decode cX1_run 45 = .ok (.invokestatic 30, 3) := by decide +kernel
theorem dX1_run_48 : decode cX1_run 48 = .ok (.aload_n 0, 1) := by decide +kernel
theorem dX1_run_49 : decode cX1_run 49 = .ok (.aload_n 1, 1) := by decide +kernel
theorem dX1_run_50 : decode cX1_run 50 = .ok (.getfield 36, 3) := by decide +kernel
theorem dX1_run_53 : decode cX1_run 53 = .ok (.putfield 42, 3) := by decide +kernel
theorem dX1_run_56 : decode cX1_run 56 = .ok (.iconst 0, 1) := by decide +kernel
theorem dX1_run_57 : decode cX1_run 57 = .ok (.istore_n 2, 1) := by decide +kernel
theorem dX1_run_58 : decode cX1_run 58 = .ok (.iload_n 2, 1) := by decide +kernel
theorem dX1_run_59 : decode cX1_run 59 = .ok (.sipush 200, 3) := by decide +kernel
theorem dX1_run_62 : decode cX1_run 62 = .ok (.if_icmp .ge 36, 3) := by decide +kernel
theorem dX1_run_65 : decode cX1_run 65 = .ok (.aload_n 0, 1) := by decide +kernel
theorem dX1_run_66 : decode cX1_run 66 = .ok (.getfield 42, 3) := by decide +kernel
theorem dX1_run_69 : decode cX1_run 69 = .ok (.ifCond .le 29, 3) := by decide +kernel
theorem dX1_run_72 : decode cX1_run 72 = .ok (.iconst 0, 1) := by decide +kernel
theorem dX1_run_73 : decode cX1_run 73 = .ok (.istore_n 3, 1) := by decide +kernel
theorem dX1_run_74 : decode cX1_run 74 = .ok (.iload_n 3, 1) := by decide +kernel
theorem dX1_run_75 : decode cX1_run 75 = .ok (.iconst 3, 1) := by decide +kernel
theorem dX1_run_76 : decode cX1_run 76 = .ok (.if_icmp .ge 16, 3) := by decide +kernel
theorem dX1_run_79 : decode cX1_run 79 = .ok (.aload_n 0, 1) := by decide +kernel
theorem dX1_run_80 : decode cX1_run 80 = .ok (.aload_n 1, 1) := by decide +kernel
theorem dX1_run_81 : decode cX1_run 81 = .ok (.iload_n 3, 1) := by decide +kernel
theorem dX1_run_82 : decode cX1_run 82 = .ok (.iload_n 2, 1) := by decide +kernel
theorem dX1_run_83 : decode cX1_run 83 = .ok (.invokevirtual 45, 3) := by decide +kernel
theorem dX1_run_86 : decode cX1_run 86 = .ok (.iinc 3 1, 3) := by decide +kernel
theorem dX1_run_89 : decode cX1_run 89 = .ok (.goto (-15), 3) := by decide +kernel
theorem dX1_run_92 : decode cX1_run 92 = .ok (.iinc 2 1, 3) := by decide +kernel
theorem dX1_run_95 : decode cX1_run 95 = .ok (.goto (-37), 3) := by decide +kernel
theorem dX1_run_98 : decode cX1_run 98 = .ok (.return_, 1) := by decide +kernel
theorem dX1_passQuarter_0 : decode cX1_passQuarter 0 = .ok (.iload_n 3, 1) := by decide +kernel
theorem dX1_passQuarter_1 : decode cX1_passQuarter 1 = .ok (.aload_n 0, 1) := by decide +kernel
theorem dX1_passQuarter_2 : decode cX1_passQuarter 2 = .ok (.getfield 24, 3) := by decide +kernel
theorem dX1_passQuarter_5 : decode cX1_passQuarter 5 = .ok (.iload_n 2, 1) := by decide +kernel
theorem dX1_passQuarter_6 : decode cX1_passQuarter 6 = .ok (.iaload, 1) := by decide +kernel
theorem dX1_passQuarter_7 : decode cX1_passQuarter 7 = .ok (.if_icmp .ge 4, 3) := by decide +kernel
theorem dX1_passQuarter_10 : decode cX1_passQuarter 10 = .ok (.return_, 1) := by decide +kernel
theorem dX1_passQuarter_11 : decode cX1_passQuarter 11 = .ok (.aload_n 0, 1) := by decide +kernel
theorem dX1_passQuarter_12 : decode cX1_passQuarter 12 = .ok (.aload_n 1, 1) := by decide +kernel
theorem dX1_passQuarter_13 : decode cX1_passQuarter 13 = .ok (.iload_n 2, 1) := by decide +kernel
theorem dX1_passQuarter_14 : decode cX1_passQuarter 14 = .ok (.iload_n 3, 1) := by decide +kernel
theorem dX1_passQuarter_15 : decode cX1_passQuarter 15 = .ok (.invokevirtual 49, 3) := by decide +kernel
theorem dX1_passQuarter_18 : decode cX1_passQuarter 18 = .ok (.istore 4, 2) := by decide +kernel
theorem dX1_passQuarter_20 : decode cX1_passQuarter 20 = .ok (.iload 4, 2) := by decide +kernel
theorem dX1_passQuarter_22 : decode cX1_passQuarter 22 = .ok (.iconst (-1), 1) := by decide +kernel
theorem dX1_passQuarter_23 : decode cX1_passQuarter 23 = .ok (.if_icmp .ne 4, 3) := by decide +kernel
theorem dX1_passQuarter_26 : decode cX1_passQuarter 26 = .ok (.return_, 1) := by decide +kernel
theorem dX1_passQuarter_27 : decode cX1_passQuarter 27 = .ok (.aload_n 0, 1) := by decide +kernel
theorem dX1_passQuarter_28 : decode cX1_passQuarter 28 = .ok (.aload_n 1, 1) := by decide +kernel
theorem dX1_passQuarter_29 : decode cX1_passQuarter 29 = .ok (.iload 4, 2) := by decide +kernel
theorem dX1_passQuarter_31 : decode cX1_passQuarter 31 = .ok (.iload_n 3, 1) := by decide +kernel
theorem dX1_passQuarter_32 : decode cX1_passQuarter 32 = .ok (.invokevirtual 53, 3) := by decide +kernel
theorem dX1_passQuarter_35 : decode cX1_passQuarter 35 = .ok (.istore 5, 2) := by decide +kernel
theorem dX1_passQuarter_37 : decode cX1_passQuarter 37 = .ok (.iload 5, 2) := by decide +kernel
theorem dX1_passQuarter_39 : decode cX1_passQuarter 39 = .ok (.iconst (-1), 1) := by decide +kernel
theorem dX1_passQuarter_40 : decode cX1_passQuarter 40 = .ok (.if_icmp .ne 14, 3) := by decide +kernel
theorem dX1_passQuarter_43 : decode cX1_passQuarter 43 = .ok (.aload_n 0, 1) := by decide +kernel
theorem dX1_passQuarter_44 : decode cX1_passQuarter 44 = .ok (.aload_n 1, 1) := by decide +kernel
theorem dX1_passQuarter_45 : decode cX1_passQuarter 45 = .ok (.iload 4, 2) := by decide +kernel
theorem dX1_passQuarter_47 : decode cX1_passQuarter 47 = .ok (.iload_n 3, 1) := by decide +kernel
theorem dX1_passQuarter_48 : decode cX1_passQuarter 48 = .ok (.invokevirtual 56, 3) := by decide +kernel
theorem dX1_passQuarter_51 : decode cX1_passQuarter 51 = .ok (.goto 18, 3) := by decide +kernel
theorem dX1_passQuarter_54 : decode cX1_passQuarter 54 = .ok (.aload_n 0, 1) := by decide +kernel
theorem dX1_passQuarter_55 : decode cX1_passQuarter 55 = .ok (.getfield 18, 3) := by decide +kernel
theorem dX1_passQuarter_58 : decode cX1_passQuarter 58 = .ok (.iload_n 2, 1) := by decide +kernel
theorem dX1_passQuarter_59 : decode cX1_passQuarter 59 = .ok (.iconst 2, 1) := by decide +kernel
theorem dX1_passQuarter_60 : decode cX1_passQuarter 60 = .ok (.imul, 1) := by decide +kernel
theorem dX1_passQuarter_61 : decode cX1_passQuarter 61 = .ok (.iload 5, 2) := by decide +kernel
theorem dX1_passQuarter_63 : decode cX1_passQuarter 63 = .ok (.iadd, 1) := by decide +kernel
theorem dX1_passQuarter_64 : decode cX1_passQuarter 64 = .ok (.dup2, 1) := by decide +kernel
theorem dX1_passQuarter_65 : decode cX1_passQuarter 65 = .ok (.iaload, 1) := by decide +kernel
theorem dX1_passQuarter_66 : decode cX1_passQuarter 66 = .ok (.iconst 1, 1) := by decide +kernel
theorem dX1_passQuarter_67 : decode cX1_passQuarter 67 = .ok (.iadd, 1) := by decide +kernel
theorem dX1_passQuarter_68 : decode cX1_passQuarter 68 = .ok (.iastore, 1) := by decide +kernel
theorem dX1_passQuarter_69 : decode cX1_passQuarter 69 = .ok (.return_, 1) := by decide +kernel
theorem dX1_nextNotFolded_0 : decode cX1_nextNotFolded 0 = .ok (.aload_n 0, 1) := by decide +kernel
theorem dX1_nextNotFolded_1 : decode cX1_nextNotFolded 1 = .ok (.getfield 21, 3) := by decide +kernel
theorem dX1_nextNotFolded_4 : decode cX1_nextNotFolded 4 = .ok (.iload_n 2, 1) := by decide +kernel
theorem dX1_nextNotFolded_5 : decode cX1_nextNotFolded 5 = .ok (.iaload, 1) := by decide +kernel
theorem dX1_nextNotFolded_6 : decode cX1_nextNotFolded 6 = .ok (.istore 4, 2) := by decide +kernel
theorem dX1_nextNotFolded_8 : decode cX1_nextNotFolded 8 = .ok (.iload 4, 2) := by decide +kernel
theorem dX1_nextNotFolded_10 : decode cX1_nextNotFolded 10 = .ok (.aload_n 1, 1) := by decide +kernel
theorem dX1_nextNotFolded_11 : decode cX1_nextNotFolded 11 = .ok (.getfield 59, 3) := by decide +kernel
theorem dX1_nextNotFolded_14 : decode cX1_nextNotFolded 14 = .ok (.iload_n 2, 1) := by decide +kernel
theorem dX1_nextNotFolded_15 : decode cX1_nextNotFolded 15 = .ok (.iaload, 1) := by decide +kernel
theorem dX1_nextNotFolded_16 : decode cX1_nextNotFolded 16 = .ok (.if_icmp .ge 45, 3) := by decide +kernel
theorem dX1_nextNotFolded_19 : decode cX1_nextNotFolded 19 = .ok (.aload_n 1, 1) := by decide +kernel
theorem dX1_nextNotFolded_20 : decode cX1_nextNotFolded 20 = .ok (.iload_n 2, 1) := by decide +kernel
theorem dX1_nextNotFolded_21 : decode cX1_nextNotFolded 21 = .ok (.iload 4, 2) := by decide +kernel
theorem dX1_nextNotFolded_23 : decode cX1_nextNotFolded 23 = .ok (.invokevirtual 62, 3) := by decide +kernel
theorem dX1_nextNotFolded_26 : decode cX1_nextNotFolded 26 = .ok (.istore 5, 2) := by decide +kernel
theorem dX1_nextNotFolded_28 : decode cX1_nextNotFolded 28 = .ok (.iload 5, 2) := by decide +kernel
theorem dX1_nextNotFolded_30 : decode cX1_nextNotFolded 30 = .ok (.iconst (-1), 1) := by decide +kernel
theorem dX1_nextNotFolded_31 : decode cX1_nextNotFolded 31 = .ok (.if_icmp .eq 12, 3) := by decide +kernel
theorem dX1_nextNotFolded_34 : decode cX1_nextNotFolded 34 = .ok (.aload_n 1, 1) := by decide +kernel
theorem dX1_nextNotFolded_35 : decode cX1_nextNotFolded 35 = .ok (.iload 5, 2) := by decide +kernel
theorem dX1_nextNotFolded_37 : decode cX1_nextNotFolded 37 = .ok (.invokevirtual 66, 3) := by decide +kernel
theorem dX1_nextNotFolded_40 : decode cX1_nextNotFolded 40 = .ok (.ifCond .ne 6, 3) := by decide +kernel
theorem dX1_nextNotFolded_43 : decode cX1_nextNotFolded 43 = .ok (.iload 5, 2) := by decide +kernel
theorem dX1_nextNotFolded_45 : decode cX1_nextNotFolded 45 = .ok (.ireturn, 1) := by decide +kernel
theorem dX1_nextNotFolded_46 : decode cX1_nextNotFolded 46 = .ok (.aload_n 0, 1) := by decide +kernel
theorem dX1_nextNotFolded_47 : decode cX1_nextNotFolded 47 = .ok (.iload 5, 2) := by decide +kernel
theorem dX1_nextNotFolded_49 : decode cX1_nextNotFolded 49 = .ok (.iload_n 2, 1) := by decide +kernel
theorem dX1_nextNotFolded_50 : decode cX1_nextNotFolded 50 = .ok (.iload_n 3, 1) := by decide +kernel
theorem dX1_nextNotFolded_51 : decode cX1_nextNotFolded 51 = .ok (.iload_n 3, 1) := by decide +kernel
theorem dX1_nextNotFolded_52 : decode cX1_nextNotFolded 52 = .ok (.invokevirtual 70, 3) := by decide +kernel
theorem dX1_nextNotFolded_55 : decode cX1_nextNotFolded 55 = .ok (.iinc 4 1, 3) := by decide +kernel
theorem dX1_nextNotFolded_58 : decode cX1_nextNotFolded 58 = .ok (.goto (-50), 3) := by decide +kernel
theorem dX1_nextNotFolded_61 : decode cX1_nextNotFolded 61 = .ok (.iconst (-1), 1) := by decide +kernel
theorem dX1_nextNotFolded_62 : decode cX1_nextNotFolded 62 = .ok (.ireturn, 1) := by decide +kernel
theorem dX1_hindrance_0 : decode cX1_hindrance 0 = .ok (.iconst (-1), 1) := by decide +kernel
theorem dX1_hindrance_1 : decode cX1_hindrance 1 = .ok (.istore 4, 2) := by decide +kernel
theorem dX1_hindrance_3 : decode cX1_hindrance 3 = .ok (.iconst 0, 1) := by decide +kernel
theorem dX1_hindrance_4 : decode cX1_hindrance 4 = .ok (.istore 5, 2) := by decide +kernel
theorem dX1_hindrance_6 : decode cX1_hindrance 6 = .ok (.iload 5, 2) := by decide +kernel
theorem dX1_hindrance_8 : decode cX1_hindrance 8 = .ok (.bipush 10, 2) := by decide +kernel
theorem dX1_hindrance_10 : decode cX1_hindrance 10 = .ok (.if_icmp .ge 46, 3) := by decide +kernel
theorem dX1_hindrance_13 : decode cX1_hindrance 13 = .ok (.aload_n 1, 1) := by decide +kernel
theorem dX1_hindrance_14 : decode cX1_hindrance 14 = .ok (.iload_n 2, 1) := by decide +kernel
theorem dX1_hindrance_15 : decode cX1_hindrance 15 = .ok (.iload 5, 2) := by decide +kernel
theorem dX1_hindrance_17 : decode cX1_hindrance 17 = .ok (.invokevirtual 74, 3) := by decide +kernel
theorem dX1_hindrance_20 : decode cX1_hindrance 20 = .ok (.ifCond .eq 30, 3) := by decide +kernel
theorem dX1_hindrance_23 : decode cX1_hindrance 23 = .ok (.aload_n 1, 1) := by decide +kernel
theorem dX1_hindrance_24 : decode cX1_hindrance 24 = .ok (.iload_n 2, 1) := by decide +kernel
theorem dX1_hindrance_25 : decode cX1_hindrance 25 = .ok (.iload 5, 2) := by decide +kernel
theorem dX1_hindrance_27 : decode cX1_hindrance 27 = .ok (.invokevirtual 78, 3) := by decide +kernel
theorem dX1_hindrance_30 : decode cX1_hindrance 30 = .ok (.iload_n 3, 1) := by decide +kernel
theorem dX1_hindrance_31 : decode cX1_hindrance 31 = .ok (.if_icmp .le 5, 3) := by decide +kernel
theorem dX1_hindrance_34 : decode cX1_hindrance 34 = .ok (.iconst 0, 1) := by decide +kernel
theorem dX1_hindrance_35 : decode cX1_hindrance 35 = .ok (.ireturn, 1) := by decide +kernel
theorem dX1_hindrance_36 : decode cX1_hindrance 36 = .ok (.aload_n 0, 1) := by decide +kernel
theorem dX1_hindrance_37 : decode cX1_hindrance 37 = .ok (.getfield 27, 3) := by decide +kernel
theorem dX1_hindrance_40 : decode cX1_hindrance 40 = .ok (.iload 5, 2) := by decide +kernel
theorem dX1_hindrance_42 : decode cX1_hindrance 42 = .ok (.iaload, 1) := by decide +kernel
theorem dX1_hindrance_43 : decode cX1_hindrance 43 = .ok (.iload_n 3, 1) := by decide +kernel
theorem dX1_hindrance_44 : decode cX1_hindrance 44 = .ok (.if_icmp .le 6, 3) := by decide +kernel
theorem dX1_hindrance_47 : decode cX1_hindrance 47 = .ok (.iconst 1, 1) := by decide +kernel
theorem dX1_hindrance_48 : decode cX1_hindrance 48 = .ok (.istore 4, 2) := by decide +kernel
theorem dX1_hindrance_50 : decode cX1_hindrance 50 = .ok (.iinc 5 1, 3) := by decide +kernel
theorem dX1_hindrance_53 : decode cX1_hindrance 53 = .ok (.goto (-47), 3) := by decide +kernel
theorem dX1_hindrance_56 : decode cX1_hindrance 56 = .ok (.iload 4, 2) := by decide +kernel
theorem dX1_hindrance_58 : decode cX1_hindrance 58 = .ok (.ireturn, 1) := by decide +kernel
theorem dX1_begin_0 : decode cX1_begin 0 = .ok (.aload_n 1, 1) := by decide +kernel
theorem dX1_begin_1 : decode cX1_begin 1 = .ok (.getfield 81, 3) := by decide +kernel
theorem dX1_begin_4 : decode cX1_begin 4 = .ok (.iload_n 2, 1) := by decide +kernel
theorem dX1_begin_5 : decode cX1_begin 5 = .ok (.iaload, 1) := by decide +kernel
theorem dX1_begin_6 : decode cX1_begin 6 = .ok (.istore 4, 2) := by decide +kernel
theorem dX1_begin_8 : decode cX1_begin 8 = .ok (.iload_n 3, 1) := by decide +kernel
theorem dX1_begin_9 : decode cX1_begin 9 = .ok (.aload_n 1, 1) := by decide +kernel
theorem dX1_begin_10 : decode cX1_begin 10 = .ok (.iload_n 2, 1) := by decide +kernel
theorem dX1_begin_11 : decode cX1_begin 11 = .ok (.invokevirtual 84, 3) := by decide +kernel
theorem dX1_begin_14 : decode cX1_begin 14 = .ok (.iadd, 1) := by decide +kernel
theorem dX1_begin_15 : decode cX1_begin 15 = .ok (.istore 5, 2) := by decide +kernel
theorem dX1_begin_17 : decode cX1_begin 17 = .ok (.aload_n 0, 1) := by decide +kernel
theorem dX1_begin_18 : decode cX1_begin 18 = .ok (.iload_n 2, 1) := by decide +kernel
theorem dX1_begin_19 : decode cX1_begin 19 = .ok (.iload 4, 2) := by decide +kernel
theorem dX1_begin_21 : decode cX1_begin 21 = .ok (.iload_n 3, 1) := by decide +kernel
theorem dX1_begin_22 : decode cX1_begin 22 = .ok (.iload 5, 2) := by decide +kernel
theorem dX1_begin_24 : decode cX1_begin 24 = .ok (.invokevirtual 70, 3) := by decide +kernel
theorem dX1_begin_27 : decode cX1_begin 27 = .ok (.aload_n 0, 1) := by decide +kernel
theorem dX1_begin_28 : decode cX1_begin 28 = .ok (.getfield 24, 3) := by decide +kernel
theorem dX1_begin_31 : decode cX1_begin 31 = .ok (.iload 4, 2) := by decide +kernel
theorem dX1_begin_33 : decode cX1_begin 33 = .ok (.iload 5, 2) := by decide +kernel
theorem dX1_begin_35 : decode cX1_begin 35 = .ok (.iastore, 1) := by decide +kernel
theorem dX1_begin_36 : decode cX1_begin 36 = .ok (.iconst 0, 1) := by decide +kernel
theorem dX1_begin_37 : decode cX1_begin 37 = .ok (.istore 6, 2) := by decide +kernel
theorem dX1_begin_39 : decode cX1_begin 39 = .ok (.iload 6, 2) := by decide +kernel
theorem dX1_begin_41 : decode cX1_begin 41 = .ok (.bipush 10, 2) := by decide +kernel
theorem dX1_begin_43 : decode cX1_begin 43 = .ok (.if_icmp .ge 28, 3) := by decide +kernel
theorem dX1_begin_46 : decode cX1_begin 46 = .ok (.aload_n 1, 1) := by decide +kernel
theorem dX1_begin_47 : decode cX1_begin 47 = .ok (.iload_n 2, 1) := by decide +kernel
theorem dX1_begin_48 : decode cX1_begin 48 = .ok (.iload 6, 2) := by decide +kernel
theorem dX1_begin_50 : decode cX1_begin 50 = .ok (.invokevirtual 74, 3) := by decide +kernel
theorem dX1_begin_53 : decode cX1_begin 53 = .ok (.ifCond .eq 12, 3) := by decide +kernel
theorem dX1_begin_56 : decode cX1_begin 56 = .ok (.aload_n 0, 1) := by decide +kernel
theorem dX1_begin_57 : decode cX1_begin 57 = .ok (.getfield 27, 3) := by decide +kernel
theorem dX1_begin_60 : decode cX1_begin 60 = .ok (.iload 6, 2) := by decide +kernel
theorem dX1_begin_62 : decode cX1_begin 62 = .ok (.iload 5, 2) := by decide +kernel
theorem dX1_begin_64 : decode cX1_begin 64 = .ok (.iastore, 1) := by decide +kernel
theorem dX1_begin_65 : decode cX1_begin 65 = .ok (.iinc 6 1, 3) := by decide +kernel
theorem dX1_begin_68 : decode cX1_begin 68 = .ok (.goto (-29), 3) := by decide +kernel
theorem dX1_begin_71 : decode cX1_begin 71 = .ok (.return_, 1) := by decide +kernel
theorem dX1_close_0 : decode cX1_close 0 = .ok (.aload_n 0, 1) := by decide +kernel
theorem dX1_close_1 : decode cX1_close 1 = .ok (.getfield 9, 3) := by decide +kernel
theorem dX1_close_4 : decode cX1_close 4 = .ok (.iload_n 1, 1) := by decide +kernel
theorem dX1_close_5 : decode cX1_close 5 = .ok (.iload_n 3, 1) := by decide +kernel
theorem dX1_close_6 : decode cX1_close 6 = .ok (.iastore, 1) := by decide +kernel
theorem dX1_close_7 : decode cX1_close 7 = .ok (.aload_n 0, 1) := by decide +kernel
theorem dX1_close_8 : decode cX1_close 8 = .ok (.getfield 15, 3) := by decide +kernel
theorem dX1_close_11 : decode cX1_close 11 = .ok (.iload_n 1, 1) := by decide +kernel
theorem dX1_close_12 : decode cX1_close 12 = .ok (.iload 4, 2) := by decide +kernel
theorem dX1_close_14 : decode cX1_close 14 = .ok (.iastore, 1) := by decide +kernel
theorem dX1_close_15 : decode cX1_close 15 = .ok (.aload_n 0, 1) := by decide +kernel
theorem dX1_close_16 : decode cX1_close 16 = .ok (.getfield 21, 3) := by decide +kernel
theorem dX1_close_19 : decode cX1_close 19 = .ok (.iload_n 2, 1) := by decide +kernel
theorem dX1_close_20 : decode cX1_close 20 = .ok (.dup2, 1) := by decide +kernel
theorem dX1_close_21 : decode cX1_close 21 = .ok (.iaload, 1) := by decide +kernel
theorem dX1_close_22 : decode cX1_close 22 = .ok (.iconst 1, 1) := by decide +kernel
theorem dX1_close_23 : decode cX1_close 23 = .ok (.iadd, 1) := by decide +kernel
theorem dX1_close_24 : decode cX1_close 24 = .ok (.iastore, 1) := by decide +kernel
theorem dX1_close_25 : decode cX1_close 25 = .ok (.aload_n 0, 1) := by decide +kernel
theorem dX1_close_26 : decode cX1_close 26 = .ok (.dup, 1) := by decide +kernel
theorem dX1_close_27 : decode cX1_close 27 = .ok (.getfield 42, 3) := by decide +kernel
theorem dX1_close_30 : decode cX1_close 30 = .ok (.iconst 1, 1) := by decide +kernel
theorem dX1_close_31 : decode cX1_close 31 = .ok (.isub, 1) := by decide +kernel
theorem dX1_close_32 : decode cX1_close 32 = .ok (.putfield 42, 3) := by decide +kernel
theorem dX1_close_35 : decode cX1_close 35 = .ok (.return_, 1) := by decide +kernel
theorem dX1_waitFor_0 : decode cX1_waitFor 0 = .ok (.aload_n 1, 1) := by decide +kernel
theorem dX1_waitFor_1 : decode cX1_waitFor 1 = .ok (.iload_n 3, 1) := by decide +kernel
theorem dX1_waitFor_2 : decode cX1_waitFor 2 = .ok (.iload_n 2, 1) := by decide +kernel
theorem dX1_waitFor_3 : decode cX1_waitFor 3 = .ok (.invokevirtual 78, 3) := by decide +kernel
theorem dX1_waitFor_6 : decode cX1_waitFor 6 = .ok (.istore 4, 2) := by decide +kernel
theorem dX1_waitFor_8 : decode cX1_waitFor 8 = .ok (.aload_n 0, 1) := by decide +kernel
theorem dX1_waitFor_9 : decode cX1_waitFor 9 = .ok (.getfield 9, 3) := by decide +kernel
theorem dX1_waitFor_12 : decode cX1_waitFor 12 = .ok (.iload_n 3, 1) := by decide +kernel
theorem dX1_waitFor_13 : decode cX1_waitFor 13 = .ok (.iaload, 1) := by decide +kernel
theorem dX1_waitFor_14 : decode cX1_waitFor 14 = .ok (.iconst (-1), 1) := by decide +kernel
theorem dX1_waitFor_15 : decode cX1_waitFor 15 = .ok (.if_icmp .ne 9, 3) := by decide +kernel
theorem dX1_waitFor_18 : decode cX1_waitFor 18 = .ok (.sipush 200, 3) := by decide +kernel
theorem dX1_waitFor_21 : decode cX1_waitFor 21 = .ok (.goto 9, 3) := by decide +kernel
theorem dX1_waitFor_24 : decode cX1_waitFor 24 = .ok (.aload_n 0, 1) := by decide +kernel
theorem dX1_waitFor_25 : decode cX1_waitFor 25 = .ok (.getfield 9, 3) := by decide +kernel
theorem dX1_waitFor_28 : decode cX1_waitFor 28 = .ok (.iload_n 3, 1) := by decide +kernel
theorem dX1_waitFor_29 : decode cX1_waitFor 29 = .ok (.iaload, 1) := by decide +kernel
theorem dX1_waitFor_30 : decode cX1_waitFor 30 = .ok (.istore 5, 2) := by decide +kernel
theorem dX1_waitFor_32 : decode cX1_waitFor 32 = .ok (.iload 5, 2) := by decide +kernel
theorem dX1_waitFor_34 : decode cX1_waitFor 34 = .ok (.iload 4, 2) := by decide +kernel
theorem dX1_waitFor_36 : decode cX1_waitFor 36 = .ok (.if_icmp .gt 5, 3) := by decide +kernel
theorem dX1_waitFor_39 : decode cX1_waitFor 39 = .ok (.iconst 0, 1) := by decide +kernel
theorem dX1_waitFor_40 : decode cX1_waitFor 40 = .ok (.ireturn, 1) := by decide +kernel
theorem dX1_waitFor_41 : decode cX1_waitFor 41 = .ok (.iload 5, 2) := by decide +kernel
theorem dX1_waitFor_43 : decode cX1_waitFor 43 = .ok (.iload 4, 2) := by decide +kernel
theorem dX1_waitFor_45 : decode cX1_waitFor 45 = .ok (.isub, 1) := by decide +kernel
theorem dX1_waitFor_46 : decode cX1_waitFor 46 = .ok (.istore 6, 2) := by decide +kernel
theorem dX1_waitFor_48 : decode cX1_waitFor 48 = .ok (.iconst 0, 1) := by decide +kernel
theorem dX1_waitFor_49 : decode cX1_waitFor 49 = .ok (.istore 7, 2) := by decide +kernel
theorem dX1_waitFor_51 : decode cX1_waitFor 51 = .ok (.iload 7, 2) := by decide +kernel
theorem dX1_waitFor_53 : decode cX1_waitFor 53 = .ok (.aload_n 1, 1) := by decide +kernel
theorem dX1_waitFor_54 : decode cX1_waitFor 54 = .ok (.getfield 36, 3) := by decide +kernel
theorem dX1_waitFor_57 : decode cX1_waitFor 57 = .ok (.if_icmp .ge 70, 3) := by decide +kernel
theorem dX1_waitFor_60 : decode cX1_waitFor 60 = .ok (.iload 7, 2) := by decide +kernel
theorem dX1_waitFor_62 : decode cX1_waitFor 62 = .ok (.iload_n 3, 1) := by decide +kernel
theorem dX1_waitFor_63 : decode cX1_waitFor 63 = .ok (.if_icmp .eq 58, 3) := by decide +kernel
theorem dX1_waitFor_66 : decode cX1_waitFor 66 = .ok (.aload_n 0, 1) := by decide +kernel
theorem dX1_waitFor_67 : decode cX1_waitFor 67 = .ok (.getfield 9, 3) := by decide +kernel
theorem dX1_waitFor_70 : decode cX1_waitFor 70 = .ok (.iload 7, 2) := by decide +kernel
theorem dX1_waitFor_72 : decode cX1_waitFor 72 = .ok (.iaload, 1) := by decide +kernel
theorem dX1_waitFor_73 : decode cX1_waitFor 73 = .ok (.iconst (-1), 1) := by decide +kernel
theorem dX1_waitFor_74 : decode cX1_waitFor 74 = .ok (.if_icmp .eq 47, 3) := by decide +kernel
theorem dX1_waitFor_77 : decode cX1_waitFor 77 = .ok (.aload_n 1, 1) := by decide +kernel
theorem dX1_waitFor_78 : decode cX1_waitFor 78 = .ok (.iload 7, 2) := by decide +kernel
theorem dX1_waitFor_80 : decode cX1_waitFor 80 = .ok (.iload_n 2, 1) := by decide +kernel
theorem dX1_waitFor_81 : decode cX1_waitFor 81 = .ok (.invokevirtual 74, 3) := by decide +kernel
theorem dX1_waitFor_84 : decode cX1_waitFor 84 = .ok (.ifCond .eq 37, 3) := by decide +kernel
theorem dX1_waitFor_87 : decode cX1_waitFor 87 = .ok (.iload 6, 2) := by decide +kernel
theorem dX1_waitFor_89 : decode cX1_waitFor 89 = .ok (.iconst 0, 1) := by decide +kernel
theorem dX1_waitFor_90 : decode cX1_waitFor 90 = .ok (.iload 5, 2) := by decide +kernel
theorem dX1_waitFor_92 : decode cX1_waitFor 92 = .ok (.aload_n 0, 1) := by decide +kernel
theorem dX1_waitFor_93 : decode cX1_waitFor 93 = .ok (.getfield 15, 3) := by decide +kernel
theorem dX1_waitFor_96 : decode cX1_waitFor 96 = .ok (.iload 7, 2) := by decide +kernel
theorem dX1_waitFor_98 : decode cX1_waitFor 98 = .ok (.iaload, 1) := by decide +kernel
theorem dX1_waitFor_99 : decode cX1_waitFor 99 = .ok (.invokestatic 88, 3) := by decide +kernel
theorem dX1_waitFor_102 : decode cX1_waitFor 102 = .ok (.iload 4, 2) := by decide +kernel
theorem dX1_waitFor_104 : decode cX1_waitFor 104 = .ok (.aload_n 0, 1) := by decide +kernel
theorem dX1_waitFor_105 : decode cX1_waitFor 105 = .ok (.getfield 9, 3) := by decide +kernel
theorem dX1_waitFor_108 : decode cX1_waitFor 108 = .ok (.iload 7, 2) := by decide +kernel
theorem dX1_waitFor_110 : decode cX1_waitFor 110 = .ok (.iaload, 1) := by decide +kernel
theorem dX1_waitFor_111 : decode cX1_waitFor 111 = .ok (.invokestatic 93, 3) := by decide +kernel
theorem dX1_waitFor_114 : decode cX1_waitFor 114 = .ok (.isub, 1) := by decide +kernel
theorem dX1_waitFor_115 : decode cX1_waitFor 115 = .ok (.invokestatic 93, 3) := by decide +kernel
theorem dX1_waitFor_118 : decode cX1_waitFor 118 = .ok (.isub, 1) := by decide +kernel
theorem dX1_waitFor_119 : decode cX1_waitFor 119 = .ok (.istore 6, 2) := by decide +kernel
theorem dX1_waitFor_121 : decode cX1_waitFor 121 = .ok (.iinc 7 1, 3) := by decide +kernel
theorem dX1_waitFor_124 : decode cX1_waitFor 124 = .ok (.goto (-73), 3) := by decide +kernel
theorem dX1_waitFor_127 : decode cX1_waitFor 127 = .ok (.iload 6, 2) := by decide +kernel
theorem dX1_waitFor_129 : decode cX1_waitFor 129 = .ok (.ireturn, 1) := by decide +kernel
theorem dX1_waitOf_0 : decode cX1_waitOf 0 = .ok (.iconst 0, 1) := by decide +kernel
theorem dX1_waitOf_1 : decode cX1_waitOf 1 = .ok (.istore_n 3, 1) := by decide +kernel
theorem dX1_waitOf_2 : decode cX1_waitOf 2 = .ok (.iconst 0, 1) := by decide +kernel
theorem dX1_waitOf_3 : decode cX1_waitOf 3 = .ok (.istore 4, 2) := by decide +kernel
theorem dX1_waitOf_5 : decode cX1_waitOf 5 = .ok (.iload 4, 2) := by decide +kernel
theorem dX1_waitOf_7 : decode cX1_waitOf 7 = .ok (.aload_n 1, 1) := by decide +kernel
theorem dX1_waitOf_8 : decode cX1_waitOf 8 = .ok (.getfield 36, 3) := by decide +kernel
theorem dX1_waitOf_11 : decode cX1_waitOf 11 = .ok (.if_icmp .ge 30, 3) := by decide +kernel
theorem dX1_waitOf_14 : decode cX1_waitOf 14 = .ok (.aload_n 1, 1) := by decide +kernel
theorem dX1_waitOf_15 : decode cX1_waitOf 15 = .ok (.iload 4, 2) := by decide +kernel
theorem dX1_waitOf_17 : decode cX1_waitOf 17 = .ok (.iload_n 2, 1) := by decide +kernel
theorem dX1_waitOf_18 : decode cX1_waitOf 18 = .ok (.invokevirtual 74, 3) := by decide +kernel
theorem dX1_waitOf_21 : decode cX1_waitOf 21 = .ok (.ifCond .eq 14, 3) := by decide +kernel
theorem dX1_waitOf_24 : decode cX1_waitOf 24 = .ok (.iload_n 3, 1) := by decide +kernel
theorem dX1_waitOf_25 : decode cX1_waitOf 25 = .ok (.aload_n 0, 1) := by decide +kernel
theorem dX1_waitOf_26 : decode cX1_waitOf 26 = .ok (.aload_n 1, 1) := by decide +kernel
theorem dX1_waitOf_27 : decode cX1_waitOf 27 = .ok (.iload_n 2, 1) := by decide +kernel
theorem dX1_waitOf_28 : decode cX1_waitOf 28 = .ok (.iload 4, 2) := by decide +kernel
theorem dX1_waitOf_30 : decode cX1_waitOf 30 = .ok (.invokevirtual 96, 3) := by decide +kernel
theorem dX1_waitOf_33 : decode cX1_waitOf 33 = .ok (.iadd, 1) := by decide +kernel
theorem dX1_waitOf_34 : decode cX1_waitOf 34 = .ok (.istore_n 3, 1) := by decide +kernel
theorem dX1_waitOf_35 : decode cX1_waitOf 35 = .ok (.iinc 4 1, 3) := by decide +kernel
theorem dX1_waitOf_38 : decode cX1_waitOf 38 = .ok (.goto (-33), 3) := by decide +kernel
theorem dX1_waitOf_41 : decode cX1_waitOf 41 = .ok (.iload_n 3, 1) := by decide +kernel
theorem dX1_waitOf_42 : decode cX1_waitOf 42 = .ok (.ireturn, 1) := by decide +kernel
theorem dX1_hearingsOf_0 : decode cX1_hearingsOf 0 = .ok (.iconst 0, 1) := by decide +kernel
theorem dX1_hearingsOf_1 : decode cX1_hearingsOf 1 = .ok (.istore_n 3, 1) := by decide +kernel
theorem dX1_hearingsOf_2 : decode cX1_hearingsOf 2 = .ok (.iconst 0, 1) := by decide +kernel
theorem dX1_hearingsOf_3 : decode cX1_hearingsOf 3 = .ok (.istore 4, 2) := by decide +kernel
theorem dX1_hearingsOf_5 : decode cX1_hearingsOf 5 = .ok (.iload 4, 2) := by decide +kernel
theorem dX1_hearingsOf_7 : decode cX1_hearingsOf 7 = .ok (.aload_n 1, 1) := by decide +kernel
theorem dX1_hearingsOf_8 : decode cX1_hearingsOf 8 = .ok (.getfield 36, 3) := by decide +kernel
theorem dX1_hearingsOf_11 : decode cX1_hearingsOf 11 = .ok (.if_icmp .ge 42, 3) := by decide +kernel
theorem dX1_hearingsOf_14 : decode cX1_hearingsOf 14 = .ok (.aload_n 1, 1) := by decide +kernel
theorem dX1_hearingsOf_15 : decode cX1_hearingsOf 15 = .ok (.iload 4, 2) := by decide +kernel
theorem dX1_hearingsOf_17 : decode cX1_hearingsOf 17 = .ok (.iload_n 2, 1) := by decide +kernel
theorem dX1_hearingsOf_18 : decode cX1_hearingsOf 18 = .ok (.invokevirtual 74, 3) := by decide +kernel
theorem dX1_hearingsOf_21 : decode cX1_hearingsOf 21 = .ok (.ifCond .eq 26, 3) := by decide +kernel
theorem dX1_hearingsOf_24 : decode cX1_hearingsOf 24 = .ok (.aload_n 0, 1) := by decide +kernel
theorem dX1_hearingsOf_25 : decode cX1_hearingsOf 25 = .ok (.getfield 9, 3) := by decide +kernel
theorem dX1_hearingsOf_28 : decode cX1_hearingsOf 28 = .ok (.iload 4, 2) := by decide +kernel
theorem dX1_hearingsOf_30 : decode cX1_hearingsOf 30 = .ok (.iaload, 1) := by decide +kernel
theorem dX1_hearingsOf_31 : decode cX1_hearingsOf 31 = .ok (.iconst (-1), 1) := by decide +kernel
theorem dX1_hearingsOf_32 : decode cX1_hearingsOf 32 = .ok (.if_icmp .eq 15, 3) := by decide +kernel
theorem dX1_hearingsOf_35 : decode cX1_hearingsOf 35 = .ok (.aload_n 1, 1) := by decide +kernel
theorem dX1_hearingsOf_36 : decode cX1_hearingsOf 36 = .ok (.iload 4, 2) := by decide +kernel
theorem dX1_hearingsOf_38 : decode cX1_hearingsOf 38 = .ok (.invokevirtual 66, 3) := by decide +kernel
theorem dX1_hearingsOf_41 : decode cX1_hearingsOf 41 = .ok (.ifCond .ne 6, 3) := by decide +kernel
theorem dX1_hearingsOf_44 : decode cX1_hearingsOf 44 = .ok (.iinc 3 1, 3) := by decide +kernel
theorem dX1_hearingsOf_47 : decode cX1_hearingsOf 47 = .ok (.iinc 4 1, 3) := by decide +kernel
theorem dX1_hearingsOf_50 : decode cX1_hearingsOf 50 = .ok (.goto (-45), 3) := by decide +kernel
theorem dX1_hearingsOf_53 : decode cX1_hearingsOf 53 = .ok (.iload_n 3, 1) := by decide +kernel
theorem dX1_hearingsOf_54 : decode cX1_hearingsOf 54 = .ok (.ireturn, 1) := by decide +kernel
theorem dX2_init_0 : decode cX2_init 0 = .ok (.aload_n 0, 1) := by decide +kernel
theorem dX2_init_1 : decode cX2_init 1 = .ok (.invokespecial 3, 3) := by decide +kernel
theorem dX2_init_4 : decode cX2_init 4 = .ok (.aload_n 0, 1) := by decide +kernel
theorem dX2_init_5 : decode cX2_init 5 = .ok (.bipush 12, 2) := by decide +kernel
theorem dX2_init_7 : decode cX2_init 7 = .ok (.newarray .int, 2) := by decide +kernel
theorem dX2_init_9 : decode cX2_init 9 = .ok (.putfield 9, 3) := by decide +kernel
theorem dX2_init_12 : decode cX2_init 12 = .ok (.aload_n 0, 1) := by decide +kernel
theorem dX2_init_13 : decode cX2_init 13 = .ok (.bipush 12, 2) := by decide +kernel
theorem dX2_init_15 : decode cX2_init 15 = .ok (.newarray .int, 2) := by decide +kernel
theorem dX2_init_17 : decode cX2_init 17 = .ok (.putfield 15, 3) := by decide +kernel
theorem dX2_init_20 : decode cX2_init 20 = .ok (.aload_n 0, 1) := by decide +kernel
theorem dX2_init_21 : decode cX2_init 21 = .ok (.bipush 12, 2) := by decide +kernel
theorem dX2_init_23 : decode cX2_init 23 = .ok (.newarray .int, 2) := by decide +kernel
theorem dX2_init_25 : decode cX2_init 25 = .ok (.putfield 18, 3) := by decide +kernel
theorem dX2_init_28 : decode cX2_init 28 = .ok (.aload_n 0, 1) := by decide +kernel
theorem dX2_init_29 : decode cX2_init 29 = .ok (.bipush 12, 2) := by decide +kernel
theorem dX2_init_31 : decode cX2_init 31 = .ok (.newarray .int, 2) := by decide +kernel
theorem dX2_init_33 : decode cX2_init 33 = .ok (.putfield 21, 3) := by decide +kernel
theorem dX2_init_36 : decode cX2_init 36 = .ok (.aload_n 0, 1) := by decide +kernel
theorem dX2_init_37 : decode cX2_init 37 = .ok (.bipush 12, 2) := by decide +kernel
theorem dX2_init_39 : decode cX2_init 39 = .ok (.newarray .int, 2) := by decide +kernel
theorem dX2_init_41 : decode cX2_init 41 = .ok (.putfield 24, 3) := by decide +kernel
theorem dX2_init_44 : decode cX2_init 44 = .ok (.aload_n 0, 1) := by decide +kernel
theorem dX2_init_45 : decode cX2_init 45 = .ok (.bipush 120, 2) := by decide +kernel
theorem dX2_init_47 : decode cX2_init 47 = .ok (.newarray .int, 2) := by decide +kernel
theorem dX2_init_49 : decode cX2_init 49 = .ok (.putfield 27, 3) := by decide +kernel
theorem dX2_init_52 : decode cX2_init 52 = .ok (.aload_n 0, 1) := by decide +kernel
theorem dX2_init_53 : decode cX2_init 53 = .ok (.bipush 18, 2) := by decide +kernel
theorem dX2_init_55 : decode cX2_init 55 = .ok (.newarray .int, 2) := by decide +kernel
theorem dX2_init_57 : decode cX2_init 57 = .ok (.putfield 30, 3) := by decide +kernel
theorem dX2_init_60 : decode cX2_init 60 = .ok (.aload_n 0, 1) := by decide +kernel
theorem dX2_init_61 : decode cX2_init 61 = .ok (.iconst 3, 1) := by decide +kernel
theorem dX2_init_62 : decode cX2_init 62 = .ok (.newarray .int, 2) := by decide +kernel
theorem dX2_init_64 : decode cX2_init 64 = .ok (.putfield 33, 3) := by decide +kernel
theorem dX2_init_67 : decode cX2_init 67 = .ok (.return_, 1) := by decide +kernel
theorem dX2_has_0 : decode cX2_has 0 = .ok (.iload_n 1, 1) := by decide +kernel
theorem dX2_has_1 : decode cX2_has 1 = .ok (.ifCond .lt 15, 3) := by decide +kernel
theorem dX2_has_4 : decode cX2_has 4 = .ok (.iload_n 1, 1) := by decide +kernel
theorem dX2_has_5 : decode cX2_has 5 = .ok (.aload_n 0, 1) := by decide +kernel
theorem dX2_has_6 : decode cX2_has 6 = .ok (.getfield 36, 3) := by decide +kernel
theorem dX2_has_9 : decode cX2_has 9 = .ok (.if_icmp .ge 7, 3) := by decide +kernel
theorem dX2_has_12 : decode cX2_has 12 = .ok (.iconst 1, 1) := by decide +kernel
theorem dX2_has_13 : decode cX2_has 13 = .ok (.goto 4, 3) := by decide +kernel
theorem dX2_has_16 : decode cX2_has 16 = .ok (.iconst 0, 1) := by decide +kernel
theorem dX2_has_17 : decode cX2_has 17 = .ok (.ireturn, 1) := by decide +kernel
theorem dX2_enter_0 : decode cX2_enter 0 = .ok (.aload_n 0, 1) := by decide +kernel
theorem dX2_enter_1 : decode cX2_enter 1 = .ok (.getfield 36, 3) := by decide +kernel
theorem dX2_enter_4 : decode cX2_enter 4 = .ok (.istore 4, 2) := by decide +kernel
theorem dX2_enter_6 : decode cX2_enter 6 = .ok (.aload_n 0, 1) := by decide +kernel
theorem dX2_enter_7 : decode cX2_enter 7 = .ok (.dup, 1) := by decide +kernel
theorem dX2_enter_8 : decode cX2_enter 8 = .ok (.getfield 36, 3) := by decide +kernel
theorem dX2_enter_11 : decode cX2_enter 11 = .ok (.iconst 1, 1) := by decide +kernel
theorem dX2_enter_12 : decode cX2_enter 12 = .ok (.iadd, 1) := by decide +kernel
theorem dX2_enter_13 : decode cX2_enter 13 = .ok (.putfield 36, 3) := by decide +kernel
theorem dX2_enter_16 : decode cX2_enter 16 = .ok (.aload_n 0, 1) := by decide +kernel
theorem dX2_enter_17 : decode cX2_enter 17 = .ok (.getfield 15, 3) := by decide +kernel
theorem dX2_enter_20 : decode cX2_enter 20 = .ok (.iload 4, 2) := by decide +kernel
theorem dX2_enter_22 : decode cX2_enter 22 = .ok (.iload_n 2, 1) := by decide +kernel
theorem dX2_enter_23 : decode cX2_enter 23 = .ok (.iastore, 1) := by decide +kernel
theorem dX2_enter_24 : decode cX2_enter 24 = .ok (.aload_n 0, 1) := by decide +kernel
theorem dX2_enter_25 : decode cX2_enter 25 = .ok (.getfield 18, 3) := by decide +kernel
theorem dX2_enter_28 : decode cX2_enter 28 = .ok (.iload 4, 2) := by decide +kernel
theorem dX2_enter_30 : decode cX2_enter 30 = .ok (.iload_n 3, 1) := by decide +kernel
theorem dX2_enter_31 : decode cX2_enter 31 = .ok (.iastore, 1) := by decide +kernel
theorem dX2_enter_32 : decode cX2_enter 32 = .ok (.aload_n 0, 1) := by decide +kernel
theorem dX2_enter_33 : decode cX2_enter 33 = .ok (.getfield 24, 3) := by decide +kernel
theorem dX2_enter_36 : decode cX2_enter 36 = .ok (.iload 4, 2) := by decide +kernel
theorem dX2_enter_38 : decode cX2_enter 38 = .ok (.iconst (-1), 1) := by decide +kernel
theorem dX2_enter_39 : decode cX2_enter 39 = .ok (.iastore, 1) := by decide +kernel
theorem dX2_enter_40 : decode cX2_enter 40 = .ok (.aload_n 0, 1) := by decide +kernel
theorem dX2_enter_41 : decode cX2_enter 41 = .ok (.iload 4, 2) := by decide +kernel
theorem dX2_enter_43 : decode cX2_enter 43 = .ok (.iload_n 1, 1) := by decide +kernel
theorem dX2_enter_44 : decode cX2_enter 44 = .ok (.invokevirtual 40, 3) := by decide +kernel
theorem dX2_enter_47 : decode cX2_enter 47 = .ok (.iload 4, 2) := by decide +kernel
theorem dX2_enter_49 : decode cX2_enter 49 = .ok (.ireturn, 1) := by decide +kernel
theorem dX2_caseAt_0 : decode cX2_caseAt 0 = .ok (.iload_n 2, 1) := by decide +kernel
theorem dX2_caseAt_1 : decode cX2_caseAt 1 = .ok (.ifCond .lt 27, 3) := by decide +kernel
theorem dX2_caseAt_4 : decode cX2_caseAt 4 = .ok (.iload_n 2, 1) := by decide +kernel
theorem dX2_caseAt_5 : decode cX2_caseAt 5 = .ok (.aload_n 0, 1) := by decide +kernel
theorem dX2_caseAt_6 : decode cX2_caseAt 6 = .ok (.getfield 33, 3) := by decide +kernel
theorem dX2_caseAt_9 : decode cX2_caseAt 9 = .ok (.iload_n 1, 1) := by decide +kernel
theorem dX2_caseAt_10 : decode cX2_caseAt 10 = .ok (.iaload, 1) := by decide +kernel
theorem dX2_caseAt_11 : decode cX2_caseAt 11 = .ok (.if_icmp .ge 17, 3) := by decide +kernel
theorem dX2_caseAt_14 : decode cX2_caseAt 14 = .ok (.aload_n 0, 1) := by decide +kernel
theorem dX2_caseAt_15 : decode cX2_caseAt 15 = .ok (.getfield 30, 3) := by decide +kernel
theorem dX2_caseAt_18 : decode cX2_caseAt 18 = .ok (.iload_n 1, 1) := by decide +kernel
theorem dX2_caseAt_19 : decode cX2_caseAt 19 = .ok (.bipush 6, 2) := by decide +kernel
theorem dX2_caseAt_21 : decode cX2_caseAt 21 = .ok (.imul, 1) := by decide +kernel
theorem dX2_caseAt_22 : decode cX2_caseAt 22 = .ok (.iload_n 2, 1) := by decide +kernel
theorem dX2_caseAt_23 : decode cX2_caseAt 23 = .ok (.iadd, 1) := by decide +kernel
theorem dX2_caseAt_24 : decode cX2_caseAt 24 = .ok (.iaload, 1) := by decide +kernel
theorem dX2_caseAt_25 : decode cX2_caseAt 25 = .ok (.goto 4, 3) := by decide +kernel
theorem dX2_caseAt_28 : decode cX2_caseAt 28 = .ok (.iconst (-1), 1) := by decide +kernel
theorem dX2_caseAt_29 : decode cX2_caseAt 29 = .ok (.ireturn, 1) := by decide +kernel
theorem dX2_placeOf_0 : decode cX2_placeOf 0 = .ok (.aload_n 0, 1) := by decide +kernel
theorem dX2_placeOf_1 : decode cX2_placeOf 1 = .ok (.getfield 9, 3) := by decide +kernel
theorem dX2_placeOf_4 : decode cX2_placeOf 4 = .ok (.iload_n 1, 1) := by decide +kernel
theorem dX2_placeOf_5 : decode cX2_placeOf 5 = .ok (.iaload, 1) := by decide +kernel
theorem dX2_placeOf_6 : decode cX2_placeOf 6 = .ok (.istore_n 2, 1) := by decide +kernel
theorem dX2_placeOf_7 : decode cX2_placeOf 7 = .ok (.iconst 0, 1) := by decide +kernel
theorem dX2_placeOf_8 : decode cX2_placeOf 8 = .ok (.istore_n 3, 1) := by decide +kernel
theorem dX2_placeOf_9 : decode cX2_placeOf 9 = .ok (.iload_n 3, 1) := by decide +kernel
theorem dX2_placeOf_10 : decode cX2_placeOf 10 = .ok (.aload_n 0, 1) := by decide +kernel
theorem dX2_placeOf_11 : decode cX2_placeOf 11 = .ok (.getfield 33, 3) := by decide +kernel
theorem dX2_placeOf_14 : decode cX2_placeOf 14 = .ok (.iload_n 2, 1) := by decide +kernel
theorem dX2_placeOf_15 : decode cX2_placeOf 15 = .ok (.iaload, 1) := by decide +kernel
theorem dX2_placeOf_16 : decode cX2_placeOf 16 = .ok (.if_icmp .ge 19, 3) := by decide +kernel
theorem dX2_placeOf_19 : decode cX2_placeOf 19 = .ok (.aload_n 0, 1) := by decide +kernel
theorem dX2_placeOf_20 : decode cX2_placeOf 20 = .ok (.iload_n 2, 1) := by decide +kernel
theorem dX2_placeOf_21 : decode cX2_placeOf 21 = .ok (.iload_n 3, 1) := by decide +kernel
theorem dX2_placeOf_22 : decode cX2_placeOf 22 = .ok (.invokevirtual 44, 3) := by decide +kernel
theorem dX2_placeOf_25 : decode cX2_placeOf 25 = .ok (.iload_n 1, 1) := by decide +kernel
theorem dX2_placeOf_26 : decode cX2_placeOf 26 = .ok (.if_icmp .eq 9, 3) := by decide +kernel
theorem dX2_placeOf_29 : decode cX2_placeOf 29 = .ok (.iinc 3 1, 3) := by decide +kernel
theorem dX2_placeOf_32 : decode cX2_placeOf 32 = .ok (.goto (-23), 3) := by decide +kernel
theorem dX2_placeOf_35 : decode cX2_placeOf 35 = .ok (.iload_n 3, 1) := by decide +kernel
theorem dX2_placeOf_36 : decode cX2_placeOf 36 = .ok (.ireturn, 1) := by decide +kernel
theorem dX2_joinList_0 : decode cX2_joinList 0 = .ok (.aload_n 0, 1) := by decide +kernel
theorem dX2_joinList_1 : decode cX2_joinList 1 = .ok (.getfield 33, 3) := by decide +kernel
theorem dX2_joinList_4 : decode cX2_joinList 4 = .ok (.iload_n 2, 1) := by decide +kernel
theorem dX2_joinList_5 : decode cX2_joinList 5 = .ok (.iaload, 1) := by decide +kernel
theorem dX2_joinList_6 : decode cX2_joinList 6 = .ok (.bipush 6, 2) := by decide +kernel
theorem dX2_joinList_8 : decode cX2_joinList 8 = .ok (.if_icmp .ge 37, 3) := by decide +kernel
theorem dX2_joinList_11 : decode cX2_joinList 11 = .ok (.aload_n 0, 1) := by decide +kernel
theorem dX2_joinList_12 : decode cX2_joinList 12 = .ok (.getfield 30, 3) := by decide +kernel
theorem dX2_joinList_15 : decode cX2_joinList 15 = .ok (.iload_n 2, 1) := by decide +kernel
theorem dX2_joinList_16 : decode cX2_joinList 16 = .ok (.bipush 6, 2) := by decide +kernel
theorem dX2_joinList_18 : decode cX2_joinList 18 = .ok (.imul, 1) := by decide +kernel
theorem dX2_joinList_19 : decode cX2_joinList 19 = .ok (.aload_n 0, 1) := by decide +kernel
theorem dX2_joinList_20 : decode cX2_joinList 20 = .ok (.getfield 33, 3) := by decide +kernel
theorem dX2_joinList_23 : decode cX2_joinList 23 = .ok (.iload_n 2, 1) := by decide +kernel
theorem dX2_joinList_24 : decode cX2_joinList 24 = .ok (.iaload, 1) := by decide +kernel
theorem dX2_joinList_25 : decode cX2_joinList 25 = .ok (.iadd, 1) := by decide +kernel
theorem dX2_joinList_26 : decode cX2_joinList 26 = .ok (.iload_n 1, 1) := by decide +kernel
theorem dX2_joinList_27 : decode cX2_joinList 27 = .ok (.iastore, 1) := by decide +kernel
theorem dX2_joinList_28 : decode cX2_joinList 28 = .ok (.aload_n 0, 1) := by decide +kernel
theorem dX2_joinList_29 : decode cX2_joinList 29 = .ok (.getfield 33, 3) := by decide +kernel
theorem dX2_joinList_32 : decode cX2_joinList 32 = .ok (.iload_n 2, 1) := by decide +kernel
theorem dX2_joinList_33 : decode cX2_joinList 33 = .ok (.dup2, 1) := by decide +kernel
theorem dX2_joinList_34 : decode cX2_joinList 34 = .ok (.iaload, 1) := by decide +kernel
theorem dX2_joinList_35 : decode cX2_joinList 35 = .ok (.iconst 1, 1) := by decide +kernel
theorem dX2_joinList_36 : decode cX2_joinList 36 = .ok (.iadd, 1) := by decide +kernel
theorem dX2_joinList_37 : decode cX2_joinList 37 = .ok (.iastore, 1) := by decide +kernel
theorem dX2_joinList_38 : decode cX2_joinList 38 = .ok (.aload_n 0, 1) := by decide +kernel
theorem dX2_joinList_39 : decode cX2_joinList 39 = .ok (.getfield 9, 3) := by decide +kernel
theorem dX2_joinList_42 : decode cX2_joinList 42 = .ok (.iload_n 1, 1) := by decide +kernel
theorem dX2_joinList_43 : decode cX2_joinList 43 = .ok (.iload_n 2, 1) := by decide +kernel
theorem dX2_joinList_44 : decode cX2_joinList 44 = .ok (.iastore, 1) := by decide +kernel
theorem dX2_joinList_45 : decode cX2_joinList 45 = .ok (.return_, 1) := by decide +kernel
theorem dX2_leaveList_0 : decode cX2_leaveList 0 = .ok (.aload_n 0, 1) := by decide +kernel
theorem dX2_leaveList_1 : decode cX2_leaveList 1 = .ok (.getfield 9, 3) := by decide +kernel
theorem dX2_leaveList_4 : decode cX2_leaveList 4 = .ok (.iload_n 1, 1) := by decide +kernel
theorem dX2_leaveList_5 : decode cX2_leaveList 5 = .ok (.iaload, 1) := by decide +kernel
theorem dX2_leaveList_6 : decode cX2_leaveList 6 = .ok (.istore_n 2, 1) := by decide +kernel
theorem dX2_leaveList_7 : decode cX2_leaveList 7 = .ok (.aload_n 0, 1) := by decide +kernel
theorem dX2_leaveList_8 : decode cX2_leaveList 8 = .ok (.iload_n 1, 1) := by decide +kernel
theorem dX2_leaveList_9 : decode cX2_leaveList 9 = .ok (.invokevirtual 48, 3) := by decide +kernel
theorem dX2_leaveList_12 : decode cX2_leaveList 12 = .ok (.iconst 1, 1) := by decide +kernel
theorem dX2_leaveList_13 : decode cX2_leaveList 13 = .ok (.iadd, 1) := by decide +kernel
theorem dX2_leaveList_14 : decode cX2_leaveList 14 = .ok (.istore_n 3, 1) := by decide +kernel
theorem dX2_leaveList_15 : decode cX2_leaveList 15 = .ok (.iload_n 3, 1) := by decide +kernel
theorem dX2_leaveList_16 : decode cX2_leaveList 16 = .ok (.aload_n 0, 1) := by decide +kernel
theorem dX2_leaveList_17 : decode cX2_leaveList 17 = .ok (.getfield 33, 3) := by decide +kernel
theorem dX2_leaveList_20 : decode cX2_leaveList 20 = .ok (.iload_n 2, 1) := by decide +kernel
theorem dX2_leaveList_21 : decode cX2_leaveList 21 = .ok (.iaload, 1) := by decide +kernel
end
section
theorem dX2_leaveList_22 : decode cX2_leaveList 22 = .ok (.if_icmp .ge 33, 3) := by decide +kernel
theorem dX2_leaveList_25 : decode cX2_leaveList 25 = .ok (.aload_n 0, 1) := by decide +kernel
theorem dX2_leaveList_26 : decode cX2_leaveList 26 = .ok (.getfield 30, 3) := by decide +kernel
theorem dX2_leaveList_29 : decode cX2_leaveList 29 = .ok (.iload_n 2, 1) := by decide +kernel
theorem dX2_leaveList_30 : decode cX2_leaveList 30 = .ok (.bipush 6, 2) := by decide +kernel
theorem dX2_leaveList_32 : decode cX2_leaveList 32 = .ok (.imul, 1) := by decide +kernel
theorem dX2_leaveList_33 : decode cX2_leaveList 33 = .ok (.iload_n 3, 1) := by decide +kernel
theorem dX2_leaveList_34 : decode cX2_leaveList 34 = .ok (.iadd, 1) := by decide +kernel
theorem dX2_leaveList_35 : decode cX2_leaveList 35 = .ok (.iconst 1, 1) := by decide +kernel
theorem dX2_leaveList_36 : decode cX2_leaveList 36 = .ok (.isub, 1) := by decide +kernel
theorem dX2_leaveList_37 : decode cX2_leaveList 37 = .ok (.aload_n 0, 1) := by decide +kernel
theorem dX2_leaveList_38 : decode cX2_leaveList 38 = .ok (.getfield 30, 3) := by decide +kernel
theorem dX2_leaveList_41 : decode cX2_leaveList 41 = .ok (.iload_n 2, 1) := by decide +kernel
theorem dX2_leaveList_42 : decode cX2_leaveList 42 = .ok (.bipush 6, 2) := by decide +kernel
theorem dX2_leaveList_44 : decode cX2_leaveList 44 = .ok (.imul, 1) := by decide +kernel
theorem dX2_leaveList_45 : decode cX2_leaveList 45 = .ok (.iload_n 3, 1) := by decide +kernel
theorem dX2_leaveList_46 : decode cX2_leaveList 46 = .ok (.iadd, 1) := by decide +kernel
theorem dX2_leaveList_47 : decode cX2_leaveList 47 = .ok (.iaload, 1) := by decide +kernel
theorem dX2_leaveList_48 : decode cX2_leaveList 48 = .ok (.iastore, 1) := by decide +kernel
theorem dX2_leaveList_49 : decode cX2_leaveList 49 = .ok (.iinc 3 1, 3) := by decide +kernel
theorem dX2_leaveList_52 : decode cX2_leaveList 52 = .ok (.goto (-37), 3) := by decide +kernel
theorem dX2_leaveList_55 : decode cX2_leaveList 55 = .ok (.aload_n 0, 1) := by decide +kernel
theorem dX2_leaveList_56 : decode cX2_leaveList 56 = .ok (.getfield 33, 3) := by decide +kernel
theorem dX2_leaveList_59 : decode cX2_leaveList 59 = .ok (.iload_n 2, 1) := by decide +kernel
theorem dX2_leaveList_60 : decode cX2_leaveList 60 = .ok (.dup2, 1) := by decide +kernel
theorem dX2_leaveList_61 : decode cX2_leaveList 61 = .ok (.iaload, 1) := by decide +kernel
theorem dX2_leaveList_62 : decode cX2_leaveList 62 = .ok (.iconst 1, 1) := by decide +kernel
theorem dX2_leaveList_63 : decode cX2_leaveList 63 = .ok (.isub, 1) := by decide +kernel
theorem dX2_leaveList_64 : decode cX2_leaveList 64 = .ok (.iastore, 1) := by decide +kernel
theorem dX2_leaveList_65 : decode cX2_leaveList 65 = .ok (.return_, 1) := by decide +kernel
theorem dX2_hasNeedOf_0 : decode cX2_hasNeedOf 0 = .ok (.aload_n 0, 1) := by decide +kernel
theorem dX2_hasNeedOf_1 : decode cX2_hasNeedOf 1 = .ok (.getfield 21, 3) := by decide +kernel
theorem dX2_hasNeedOf_4 : decode cX2_hasNeedOf 4 = .ok (.iload_n 1, 1) := by decide +kernel
theorem dX2_hasNeedOf_5 : decode cX2_hasNeedOf 5 = .ok (.iaload, 1) := by decide +kernel
theorem dX2_hasNeedOf_6 : decode cX2_hasNeedOf 6 = .ok (.iload_n 2, 1) := by decide +kernel
theorem dX2_hasNeedOf_7 : decode cX2_hasNeedOf 7 = .ok (.invokestatic 52, 3) := by decide +kernel
theorem dX2_hasNeedOf_10 : decode cX2_hasNeedOf 10 = .ok (.ireturn, 1) := by decide +kernel
theorem dX2_isCalled_0 : decode cX2_isCalled 0 = .ok (.iconst 0, 1) := by decide +kernel
theorem dX2_isCalled_1 : decode cX2_isCalled 1 = .ok (.istore_n 2, 1) := by decide +kernel
theorem dX2_isCalled_2 : decode cX2_isCalled 2 = .ok (.iload_n 2, 1) := by decide +kernel
theorem dX2_isCalled_3 : decode cX2_isCalled 3 = .ok (.aload_n 0, 1) := by decide +kernel
theorem dX2_isCalled_4 : decode cX2_isCalled 4 = .ok (.getfield 36, 3) := by decide +kernel
theorem dX2_isCalled_7 : decode cX2_isCalled 7 = .ok (.if_icmp .ge 20, 3) := by decide +kernel
theorem dX2_isCalled_10 : decode cX2_isCalled 10 = .ok (.aload_n 0, 1) := by decide +kernel
theorem dX2_isCalled_11 : decode cX2_isCalled 11 = .ok (.iload_n 2, 1) := by decide +kernel
theorem dX2_isCalled_12 : decode cX2_isCalled 12 = .ok (.iload_n 1, 1) := by decide +kernel
theorem dX2_isCalled_13 : decode cX2_isCalled 13 = .ok (.invokevirtual 56, 3) := by decide +kernel
theorem dX2_isCalled_16 : decode cX2_isCalled 16 = .ok (.ifCond .eq 5, 3) := by decide +kernel
theorem dX2_isCalled_19 : decode cX2_isCalled 19 = .ok (.iconst 1, 1) := by decide +kernel
theorem dX2_isCalled_20 : decode cX2_isCalled 20 = .ok (.ireturn, 1) := by decide +kernel
theorem dX2_isCalled_21 : decode cX2_isCalled 21 = .ok (.iinc 2 1, 3) := by decide +kernel
theorem dX2_isCalled_24 : decode cX2_isCalled 24 = .ok (.goto (-22), 3) := by decide +kernel
theorem dX2_isCalled_27 : decode cX2_isCalled 27 = .ok (.iconst 0, 1) := by decide +kernel
theorem dX2_isCalled_28 : decode cX2_isCalled 28 = .ok (.ireturn, 1) := by decide +kernel
theorem dX2_quarterFor_0 : decode cX2_quarterFor 0 = .ok (.aload_n 0, 1) := by decide +kernel
theorem dX2_quarterFor_1 : decode cX2_quarterFor 1 = .ok (.getfield 27, 3) := by decide +kernel
theorem dX2_quarterFor_4 : decode cX2_quarterFor 4 = .ok (.iload_n 1, 1) := by decide +kernel
theorem dX2_quarterFor_5 : decode cX2_quarterFor 5 = .ok (.bipush 10, 2) := by decide +kernel
theorem dX2_quarterFor_7 : decode cX2_quarterFor 7 = .ok (.imul, 1) := by decide +kernel
theorem dX2_quarterFor_8 : decode cX2_quarterFor 8 = .ok (.iload_n 2, 1) := by decide +kernel
theorem dX2_quarterFor_9 : decode cX2_quarterFor 9 = .ok (.iadd, 1) := by decide +kernel
theorem dX2_quarterFor_10 : decode cX2_quarterFor 10 = .ok (.iaload, 1) := by decide +kernel
theorem dX2_quarterFor_11 : decode cX2_quarterFor 11 = .ok (.ireturn, 1) := by decide +kernel
theorem dX2_callFor_0 : decode cX2_callFor 0 = .ok (.aload_n 0, 1) := by decide +kernel
theorem dX2_callFor_1 : decode cX2_callFor 1 = .ok (.getfield 27, 3) := by decide +kernel
theorem dX2_callFor_4 : decode cX2_callFor 4 = .ok (.iload_n 1, 1) := by decide +kernel
theorem dX2_callFor_5 : decode cX2_callFor 5 = .ok (.bipush 10, 2) := by decide +kernel
theorem dX2_callFor_7 : decode cX2_callFor 7 = .ok (.imul, 1) := by decide +kernel
theorem dX2_callFor_8 : decode cX2_callFor 8 = .ok (.iload_n 2, 1) := by decide +kernel
theorem dX2_callFor_9 : decode cX2_callFor 9 = .ok (.iadd, 1) := by decide +kernel
theorem dX2_callFor_10 : decode cX2_callFor 10 = .ok (.iload_n 3, 1) := by decide +kernel
theorem dX2_callFor_11 : decode cX2_callFor 11 = .ok (.iastore, 1) := by decide +kernel
theorem dX2_callFor_12 : decode cX2_callFor 12 = .ok (.return_, 1) := by decide +kernel
theorem dX2_isFolded_0 : decode cX2_isFolded 0 = .ok (.aload_n 0, 1) := by decide +kernel
theorem dX2_isFolded_1 : decode cX2_isFolded 1 = .ok (.getfield 24, 3) := by decide +kernel
theorem dX2_isFolded_4 : decode cX2_isFolded 4 = .ok (.iload_n 1, 1) := by decide +kernel
theorem dX2_isFolded_5 : decode cX2_isFolded 5 = .ok (.iaload, 1) := by decide +kernel
theorem dX2_isFolded_6 : decode cX2_isFolded 6 = .ok (.ifCond .ne 7, 3) := by decide +kernel
theorem dX2_isFolded_9 : decode cX2_isFolded 9 = .ok (.iconst 1, 1) := by decide +kernel
theorem dX2_isFolded_10 : decode cX2_isFolded 10 = .ok (.goto 4, 3) := by decide +kernel
theorem dX2_isFolded_13 : decode cX2_isFolded 13 = .ok (.iconst 0, 1) := by decide +kernel
theorem dX2_isFolded_14 : decode cX2_isFolded 14 = .ok (.ireturn, 1) := by decide +kernel
theorem dX2_takesQuarters_0 : decode cX2_takesQuarters 0 = .ok (.aload_n 0, 1) := by decide +kernel
theorem dX2_takesQuarters_1 : decode cX2_takesQuarters 1 = .ok (.getfield 24, 3) := by decide +kernel
theorem dX2_takesQuarters_4 : decode cX2_takesQuarters 4 = .ok (.iload_n 1, 1) := by decide +kernel
theorem dX2_takesQuarters_5 : decode cX2_takesQuarters 5 = .ok (.iaload, 1) := by decide +kernel
theorem dX2_takesQuarters_6 : decode cX2_takesQuarters 6 = .ok (.iconst (-1), 1) := by decide +kernel
theorem dX2_takesQuarters_7 : decode cX2_takesQuarters 7 = .ok (.if_icmp .ne 12, 3) := by decide +kernel
theorem dX2_takesQuarters_10 : decode cX2_takesQuarters 10 = .ok (.aload_n 0, 1) := by decide +kernel
theorem dX2_takesQuarters_11 : decode cX2_takesQuarters 11 = .ok (.getfield 15, 3) := by decide +kernel
theorem dX2_takesQuarters_14 : decode cX2_takesQuarters 14 = .ok (.iload_n 1, 1) := by decide +kernel
theorem dX2_takesQuarters_15 : decode cX2_takesQuarters 15 = .ok (.iaload, 1) := by decide +kernel
theorem dX2_takesQuarters_16 : decode cX2_takesQuarters 16 = .ok (.goto 9, 3) := by decide +kernel
theorem dX2_takesQuarters_19 : decode cX2_takesQuarters 19 = .ok (.aload_n 0, 1) := by decide +kernel
theorem dX2_takesQuarters_20 : decode cX2_takesQuarters 20 = .ok (.getfield 24, 3) := by decide +kernel
theorem dX2_takesQuarters_23 : decode cX2_takesQuarters 23 = .ok (.iload_n 1, 1) := by decide +kernel
theorem dX2_takesQuarters_24 : decode cX2_takesQuarters 24 = .ok (.iaload, 1) := by decide +kernel
theorem dX2_takesQuarters_25 : decode cX2_takesQuarters 25 = .ok (.ireturn, 1) := by decide +kernel
theorem dX2_fatesTold_0 : decode cX2_fatesTold 0 = .ok (.iconst 0, 1) := by decide +kernel
theorem dX2_fatesTold_1 : decode cX2_fatesTold 1 = .ok (.istore_n 1, 1) := by decide +kernel
theorem dX2_fatesTold_2 : decode cX2_fatesTold 2 = .ok (.iconst 0, 1) := by decide +kernel
theorem dX2_fatesTold_3 : decode cX2_fatesTold 3 = .ok (.istore_n 2, 1) := by decide +kernel
theorem dX2_fatesTold_4 : decode cX2_fatesTold 4 = .ok (.iload_n 2, 1) := by decide +kernel
theorem dX2_fatesTold_5 : decode cX2_fatesTold 5 = .ok (.aload_n 0, 1) := by decide +kernel
theorem dX2_fatesTold_6 : decode cX2_fatesTold 6 = .ok (.getfield 36, 3) := by decide +kernel
theorem dX2_fatesTold_9 : decode cX2_fatesTold 9 = .ok (.if_icmp .ge 22, 3) := by decide +kernel
theorem dX2_fatesTold_12 : decode cX2_fatesTold 12 = .ok (.aload_n 0, 1) := by decide +kernel
theorem dX2_fatesTold_13 : decode cX2_fatesTold 13 = .ok (.getfield 24, 3) := by decide +kernel
theorem dX2_fatesTold_16 : decode cX2_fatesTold 16 = .ok (.iload_n 2, 1) := by decide +kernel
theorem dX2_fatesTold_17 : decode cX2_fatesTold 17 = .ok (.iaload, 1) := by decide +kernel
theorem dX2_fatesTold_18 : decode cX2_fatesTold 18 = .ok (.iconst (-1), 1) := by decide +kernel
theorem dX2_fatesTold_19 : decode cX2_fatesTold 19 = .ok (.if_icmp .eq 6, 3) := by decide +kernel
theorem dX2_fatesTold_22 : decode cX2_fatesTold 22 = .ok (.iinc 1 1, 3) := by decide +kernel
theorem dX2_fatesTold_25 : decode cX2_fatesTold 25 = .ok (.iinc 2 1, 3) := by decide +kernel
theorem dX2_fatesTold_28 : decode cX2_fatesTold 28 = .ok (.goto (-24), 3) := by decide +kernel
theorem dX2_fatesTold_31 : decode cX2_fatesTold 31 = .ok (.iload_n 1, 1) := by decide +kernel
theorem dX2_fatesTold_32 : decode cX2_fatesTold 32 = .ok (.ireturn, 1) := by decide +kernel
theorem dX3_init_0 : decode cX3_init 0 = .ok (.aload_n 0, 1) := by decide +kernel
theorem dX3_init_1 : decode cX3_init 1 = .ok (.invokespecial 3, 3) := by decide +kernel
theorem dX3_init_4 : decode cX3_init 4 = .ok (.aload_n 0, 1) := by decide +kernel
theorem dX3_init_5 : decode cX3_init 5 = .ok (.bipush 60, 2) := by decide +kernel
theorem dX3_init_7 : decode cX3_init 7 = .ok (.newarray .int, 2) := by decide +kernel
theorem dX3_init_9 : decode cX3_init 9 = .ok (.putfield 9, 3) := by decide +kernel
theorem dX3_init_12 : decode cX3_init 12 = .ok (.aload_n 0, 1) := by decide +kernel
theorem dX3_init_13 : decode cX3_init 13 = .ok (.bipush 60, 2) := by decide +kernel
theorem dX3_init_15 : decode cX3_init 15 = .ok (.newarray .int, 2) := by decide +kernel
theorem dX3_init_17 : decode cX3_init 17 = .ok (.putfield 15, 3) := by decide +kernel
theorem dX3_init_20 : decode cX3_init 20 = .ok (.aload_n 0, 1) := by decide +kernel
theorem dX3_init_21 : decode cX3_init 21 = .ok (.bipush 60, 2) := by decide +kernel
theorem dX3_init_23 : decode cX3_init 23 = .ok (.newarray .boolean, 2) := by decide +kernel
theorem dX3_init_25 : decode cX3_init 25 = .ok (.putfield 18, 3) := by decide +kernel
theorem dX3_init_28 : decode cX3_init 28 = .ok (.return_, 1) := by decide +kernel
theorem dX3_send_0 : decode cX3_send 0 = .ok (.aload_n 0, 1) := by decide +kernel
theorem dX3_send_1 : decode cX3_send 1 = .ok (.getfield 22, 3) := by decide +kernel
theorem dX3_send_4 : decode cX3_send 4 = .ok (.bipush 60, 2) := by decide +kernel
theorem dX3_send_6 : decode cX3_send 6 = .ok (.if_icmp .ge 42, 3) := by decide +kernel
theorem dX3_send_9 : decode cX3_send 9 = .ok (.aload_n 0, 1) := by decide +kernel
theorem dX3_send_10 : decode cX3_send 10 = .ok (.iload_n 1, 1) := by decide +kernel
theorem dX3_send_11 : decode cX3_send 11 = .ok (.iload_n 2, 1) := by decide +kernel
theorem dX3_send_12 : decode cX3_send 12 = .ok (.invokevirtual 26, 3) := by decide +kernel
theorem dX3_send_15 : decode cX3_send 15 = .ok (.ifCond .ne 33, 3) := by decide +kernel
theorem dX3_send_18 : decode cX3_send 18 = .ok (.aload_n 0, 1) := by decide +kernel
theorem dX3_send_19 : decode cX3_send 19 = .ok (.getfield 9, 3) := by decide +kernel
theorem dX3_send_22 : decode cX3_send 22 = .ok (.aload_n 0, 1) := by decide +kernel
theorem dX3_send_23 : decode cX3_send 23 = .ok (.getfield 22, 3) := by decide +kernel
theorem dX3_send_26 : decode cX3_send 26 = .ok (.iload_n 1, 1) := by decide +kernel
theorem dX3_send_27 : decode cX3_send 27 = .ok (.iastore, 1) := by decide +kernel
theorem dX3_send_28 : decode cX3_send 28 = .ok (.aload_n 0, 1) := by decide +kernel
theorem dX3_send_29 : decode cX3_send 29 = .ok (.getfield 15, 3) := by decide +kernel
theorem dX3_send_32 : decode cX3_send 32 = .ok (.aload_n 0, 1) := by decide +kernel
theorem dX3_send_33 : decode cX3_send 33 = .ok (.getfield 22, 3) := by decide +kernel
theorem dX3_send_36 : decode cX3_send 36 = .ok (.iload_n 2, 1) := by decide +kernel
theorem dX3_send_37 : decode cX3_send 37 = .ok (.iastore, 1) := by decide +kernel
theorem dX3_send_38 : decode cX3_send 38 = .ok (.aload_n 0, 1) := by decide +kernel
theorem dX3_send_39 : decode cX3_send 39 = .ok (.dup, 1) := by decide +kernel
theorem dX3_send_40 : decode cX3_send 40 = .ok (.getfield 22, 3) := by decide +kernel
theorem dX3_send_43 : decode cX3_send 43 = .ok (.iconst 1, 1) := by decide +kernel
theorem dX3_send_44 : decode cX3_send 44 = .ok (.iadd, 1) := by decide +kernel
theorem dX3_send_45 : decode cX3_send 45 = .ok (.putfield 22, 3) := by decide +kernel
theorem dX3_send_48 : decode cX3_send 48 = .ok (.return_, 1) := by decide +kernel
theorem dX3_isPending_0 : decode cX3_isPending 0 = .ok (.iconst 0, 1) := by decide +kernel
theorem dX3_isPending_1 : decode cX3_isPending 1 = .ok (.istore_n 3, 1) := by decide +kernel
theorem dX3_isPending_2 : decode cX3_isPending 2 = .ok (.iload_n 3, 1) := by decide +kernel
theorem dX3_isPending_3 : decode cX3_isPending 3 = .ok (.aload_n 0, 1) := by decide +kernel
theorem dX3_isPending_4 : decode cX3_isPending 4 = .ok (.getfield 22, 3) := by decide +kernel
theorem dX3_isPending_7 : decode cX3_isPending 7 = .ok (.if_icmp .ge 40, 3) := by decide +kernel
theorem dX3_isPending_10 : decode cX3_isPending 10 = .ok (.aload_n 0, 1) := by decide +kernel
theorem dX3_isPending_11 : decode cX3_isPending 11 = .ok (.getfield 9, 3) := by decide +kernel
theorem dX3_isPending_14 : decode cX3_isPending 14 = .ok (.iload_n 3, 1) := by decide +kernel
theorem dX3_isPending_15 : decode cX3_isPending 15 = .ok (.iaload, 1) := by decide +kernel
theorem dX3_isPending_16 : decode cX3_isPending 16 = .ok (.iload_n 1, 1) := by decide +kernel
theorem dX3_isPending_17 : decode cX3_isPending 17 = .ok (.if_icmp .ne 24, 3) := by decide +kernel
theorem dX3_isPending_20 : decode cX3_isPending 20 = .ok (.aload_n 0, 1) := by decide +kernel
theorem dX3_isPending_21 : decode cX3_isPending 21 = .ok (.getfield 15, 3) := by decide +kernel
theorem dX3_isPending_24 : decode cX3_isPending 24 = .ok (.iload_n 3, 1) := by decide +kernel
theorem dX3_isPending_25 : decode cX3_isPending 25 = .ok (.iaload, 1) := by decide +kernel
theorem dX3_isPending_26 : decode cX3_isPending 26 = .ok (.iload_n 2, 1) := by decide +kernel
theorem dX3_isPending_27 : decode cX3_isPending 27 = .ok (.if_icmp .ne 14, 3) := by decide +kernel
theorem dX3_isPending_30 : decode cX3_isPending 30 = .ok (.aload_n 0, 1) := by decide +kernel
theorem dX3_isPending_31 : decode cX3_isPending 31 = .ok (.getfield 18, 3) := by decide +kernel
theorem dX3_isPending_34 : decode cX3_isPending 34 = .ok (.iload_n 3, 1) := by decide +kernel
theorem dX3_isPending_35 : decode cX3_isPending 35 = .ok (.baload, 1) := by decide +kernel
theorem dX3_isPending_36 : decode cX3_isPending 36 = .ok (.ifCond .ne 5, 3) := by decide +kernel
theorem dX3_isPending_39 : decode cX3_isPending 39 = .ok (.iconst 1, 1) := by decide +kernel
theorem dX3_isPending_40 : decode cX3_isPending 40 = .ok (.ireturn, 1) := by decide +kernel
theorem dX3_isPending_41 : decode cX3_isPending 41 = .ok (.iinc 3 1, 3) := by decide +kernel
theorem dX3_isPending_44 : decode cX3_isPending 44 = .ok (.goto (-42), 3) := by decide +kernel
theorem dX3_isPending_47 : decode cX3_isPending 47 = .ok (.iconst 0, 1) := by decide +kernel
theorem dX3_isPending_48 : decode cX3_isPending 48 = .ok (.ireturn, 1) := by decide +kernel
theorem dX3_readAll_0 : decode cX3_readAll 0 = .ok (.iconst 0, 1) := by decide +kernel
theorem dX3_readAll_1 : decode cX3_readAll 1 = .ok (.istore_n 2, 1) := by decide +kernel
theorem dX3_readAll_2 : decode cX3_readAll 2 = .ok (.iconst 0, 1) := by decide +kernel
theorem dX3_readAll_3 : decode cX3_readAll 3 = .ok (.istore_n 3, 1) := by decide +kernel
theorem dX3_readAll_4 : decode cX3_readAll 4 = .ok (.iload_n 3, 1) := by decide +kernel
theorem dX3_readAll_5 : decode cX3_readAll 5 = .ok (.aload_n 0, 1) := by decide +kernel
theorem dX3_readAll_6 : decode cX3_readAll 6 = .ok (.getfield 22, 3) := by decide +kernel
theorem dX3_readAll_9 : decode cX3_readAll 9 = .ok (.if_icmp .ge 38, 3) := by decide +kernel
theorem dX3_readAll_12 : decode cX3_readAll 12 = .ok (.aload_n 0, 1) := by decide +kernel
theorem dX3_readAll_13 : decode cX3_readAll 13 = .ok (.getfield 9, 3) := by decide +kernel
theorem dX3_readAll_16 : decode cX3_readAll 16 = .ok (.iload_n 3, 1) := by decide +kernel
theorem dX3_readAll_17 : decode cX3_readAll 17 = .ok (.iaload, 1) := by decide +kernel
theorem dX3_readAll_18 : decode cX3_readAll 18 = .ok (.iload_n 1, 1) := by decide +kernel
theorem dX3_readAll_19 : decode cX3_readAll 19 = .ok (.if_icmp .ne 22, 3) := by decide +kernel
theorem dX3_readAll_22 : decode cX3_readAll 22 = .ok (.aload_n 0, 1) := by decide +kernel
theorem dX3_readAll_23 : decode cX3_readAll 23 = .ok (.getfield 18, 3) := by decide +kernel
theorem dX3_readAll_26 : decode cX3_readAll 26 = .ok (.iload_n 3, 1) := by decide +kernel
theorem dX3_readAll_27 : decode cX3_readAll 27 = .ok (.baload, 1) := by decide +kernel
theorem dX3_readAll_28 : decode cX3_readAll 28 = .ok (.ifCond .ne 13, 3) := by decide +kernel
theorem dX3_readAll_31 : decode cX3_readAll 31 = .ok (.aload_n 0, 1) := by decide +kernel
theorem dX3_readAll_32 : decode cX3_readAll 32 = .ok (.getfield 18, 3) := by decide +kernel
theorem dX3_readAll_35 : decode cX3_readAll 35 = .ok (.iload_n 3, 1) := by decide +kernel
theorem dX3_readAll_36 : decode cX3_readAll 36 = .ok (.iconst 1, 1) := by decide +kernel
theorem dX3_readAll_37 : decode cX3_readAll 37 = .ok (.bastore, 1) := by decide +kernel
theorem dX3_readAll_38 : decode cX3_readAll 38 = .ok (.iinc 2 1, 3) := by decide +kernel
theorem dX3_readAll_41 : decode cX3_readAll 41 = .ok (.iinc 3 1, 3) := by decide +kernel
theorem dX3_readAll_44 : decode cX3_readAll 44 = .ok (.goto (-40), 3) := by decide +kernel
theorem dX3_readAll_47 : decode cX3_readAll 47 = .ok (.iload_n 2, 1) := by decide +kernel
theorem dX3_readAll_48 : decode cX3_readAll 48 = .ok (.ireturn, 1) := by decide +kernel
theorem dX3_unread_0 : decode cX3_unread 0 = .ok (.iconst 0, 1) := by decide +kernel
theorem dX3_unread_1 : decode cX3_unread 1 = .ok (.istore_n 1, 1) := by decide +kernel
theorem dX3_unread_2 : decode cX3_unread 2 = .ok (.iconst 0, 1) := by decide +kernel
theorem dX3_unread_3 : decode cX3_unread 3 = .ok (.istore_n 2, 1) := by decide +kernel
theorem dX3_unread_4 : decode cX3_unread 4 = .ok (.iload_n 2, 1) := by decide +kernel
theorem dX3_unread_5 : decode cX3_unread 5 = .ok (.aload_n 0, 1) := by decide +kernel
theorem dX3_unread_6 : decode cX3_unread 6 = .ok (.getfield 22, 3) := by decide +kernel
theorem dX3_unread_9 : decode cX3_unread 9 = .ok (.if_icmp .ge 21, 3) := by decide +kernel
theorem dX3_unread_12 : decode cX3_unread 12 = .ok (.aload_n 0, 1) := by decide +kernel
theorem dX3_unread_13 : decode cX3_unread 13 = .ok (.getfield 18, 3) := by decide +kernel
theorem dX3_unread_16 : decode cX3_unread 16 = .ok (.iload_n 2, 1) := by decide +kernel
theorem dX3_unread_17 : decode cX3_unread 17 = .ok (.baload, 1) := by decide +kernel
theorem dX3_unread_18 : decode cX3_unread 18 = .ok (.ifCond .ne 6, 3) := by decide +kernel
theorem dX3_unread_21 : decode cX3_unread 21 = .ok (.iinc 1 1, 3) := by decide +kernel
theorem dX3_unread_24 : decode cX3_unread 24 = .ok (.iinc 2 1, 3) := by decide +kernel
theorem dX3_unread_27 : decode cX3_unread 27 = .ok (.goto (-23), 3) := by decide +kernel
theorem dX3_unread_30 : decode cX3_unread 30 = .ok (.iload_n 1, 1) := by decide +kernel
theorem dX3_unread_31 : decode cX3_unread 31 = .ok (.ireturn, 1) := by decide +kernel
theorem dX4_init_0 : decode cX4_init 0 = .ok (.aload_n 0, 1) := by decide +kernel
theorem dX4_init_1 : decode cX4_init 1 = .ok (.invokespecial 3, 3) := by decide +kernel
theorem dX4_init_4 : decode cX4_init 4 = .ok (.aload_n 0, 1) := by decide +kernel
theorem dX4_init_5 : decode cX4_init 5 = .ok (.bipush 10, 2) := by decide +kernel
theorem dX4_init_7 : decode cX4_init 7 = .ok (.newarray .int, 2) := by decide +kernel
theorem dX4_init_9 : decode cX4_init 9 = .ok (.putfield 9, 3) := by decide +kernel
theorem dX4_init_12 : decode cX4_init 12 = .ok (.aload_n 0, 1) := by decide +kernel
theorem dX4_init_13 : decode cX4_init 13 = .ok (.bipush 10, 2) := by decide +kernel
theorem dX4_init_15 : decode cX4_init 15 = .ok (.newarray .int, 2) := by decide +kernel
theorem dX4_init_17 : decode cX4_init 17 = .ok (.putfield 15, 3) := by decide +kernel
theorem dX4_init_20 : decode cX4_init 20 = .ok (.aload_n 0, 1) := by decide +kernel
theorem dX4_init_21 : decode cX4_init 21 = .ok (.bipush 10, 2) := by decide +kernel
theorem dX4_init_23 : decode cX4_init 23 = .ok (.newarray .int, 2) := by decide +kernel
theorem dX4_init_25 : decode cX4_init 25 = .ok (.putfield 18, 3) := by decide +kernel
theorem dX4_init_28 : decode cX4_init 28 = .ok (.return_, 1) := by decide +kernel
theorem dX4_has_0 : decode cX4_has 0 = .ok (.iload_n 1, 1) := by decide +kernel
theorem dX4_has_1 : decode cX4_has 1 = .ok (.ifCond .lt 15, 3) := by decide +kernel
theorem dX4_has_4 : decode cX4_has 4 = .ok (.iload_n 1, 1) := by decide +kernel
theorem dX4_has_5 : decode cX4_has 5 = .ok (.aload_n 0, 1) := by decide +kernel
theorem dX4_has_6 : decode cX4_has 6 = .ok (.getfield 21, 3) := by decide +kernel
theorem dX4_has_9 : decode cX4_has 9 = .ok (.if_icmp .ge 7, 3) := by decide +kernel
theorem dX4_has_12 : decode cX4_has 12 = .ok (.iconst 1, 1) := by decide +kernel
theorem dX4_has_13 : decode cX4_has 13 = .ok (.goto 4, 3) := by decide +kernel
theorem dX4_has_16 : decode cX4_has 16 = .ok (.iconst 0, 1) := by decide +kernel
theorem dX4_has_17 : decode cX4_has 17 = .ok (.ireturn, 1) := by decide +kernel
theorem dX4_enter_0 : decode cX4_enter 0 = .ok (.aload_n 0, 1) := by decide +kernel
theorem dX4_enter_1 : decode cX4_enter 1 = .ok (.getfield 21, 3) := by decide +kernel
theorem dX4_enter_4 : decode cX4_enter 4 = .ok (.istore_n 3, 1) := by decide +kernel
theorem dX4_enter_5 : decode cX4_enter 5 = .ok (.aload_n 0, 1) := by decide +kernel
theorem dX4_enter_6 : decode cX4_enter 6 = .ok (.dup, 1) := by decide +kernel
theorem dX4_enter_7 : decode cX4_enter 7 = .ok (.getfield 21, 3) := by decide +kernel
theorem dX4_enter_10 : decode cX4_enter 10 = .ok (.iconst 1, 1) := by decide +kernel
theorem dX4_enter_11 : decode cX4_enter 11 = .ok (.iadd, 1) := by decide +kernel
theorem dX4_enter_12 : decode cX4_enter 12 = .ok (.putfield 21, 3) := by decide +kernel
theorem dX4_enter_15 : decode cX4_enter 15 = .ok (.aload_n 0, 1) := by decide +kernel
theorem dX4_enter_16 : decode cX4_enter 16 = .ok (.getfield 9, 3) := by decide +kernel
theorem dX4_enter_19 : decode cX4_enter 19 = .ok (.iload_n 3, 1) := by decide +kernel
theorem dX4_enter_20 : decode cX4_enter 20 = .ok (.iload_n 1, 1) := by decide +kernel
theorem dX4_enter_21 : decode cX4_enter 21 = .ok (.iastore, 1) := by decide +kernel
theorem dX4_enter_22 : decode cX4_enter 22 = .ok (.aload_n 0, 1) := by decide +kernel
theorem dX4_enter_23 : decode cX4_enter 23 = .ok (.getfield 15, 3) := by decide +kernel
theorem dX4_enter_26 : decode cX4_enter 26 = .ok (.iload_n 3, 1) := by decide +kernel
theorem dX4_enter_27 : decode cX4_enter 27 = .ok (.iload_n 2, 1) := by decide +kernel
theorem dX4_enter_28 : decode cX4_enter 28 = .ok (.iastore, 1) := by decide +kernel
theorem dX4_enter_29 : decode cX4_enter 29 = .ok (.iload_n 3, 1) := by decide +kernel
theorem dX4_enter_30 : decode cX4_enter 30 = .ok (.ireturn, 1) := by decide +kernel
theorem dX4_areApart_0 : decode cX4_areApart 0 = .ok (.aload_n 0, 1) := by decide +kernel
theorem dX4_areApart_1 : decode cX4_areApart 1 = .ok (.getfield 18, 3) := by decide +kernel
theorem dX4_areApart_4 : decode cX4_areApart 4 = .ok (.iload_n 1, 1) := by decide +kernel
theorem dX4_areApart_5 : decode cX4_areApart 5 = .ok (.iaload, 1) := by decide +kernel
theorem dX4_areApart_6 : decode cX4_areApart 6 = .ok (.iload_n 2, 1) := by decide +kernel
theorem dX4_areApart_7 : decode cX4_areApart 7 = .ok (.invokestatic 25, 3) := by decide +kernel
theorem dX4_areApart_10 : decode cX4_areApart 10 = .ok (.ireturn, 1) := by decide +kernel
theorem dX4_setApart_0 : decode cX4_setApart 0 = .ok (.aload_n 0, 1) := by decide +kernel
theorem dX4_setApart_1 : decode cX4_setApart 1 = .ok (.iload_n 1, 1) := by decide +kernel
theorem dX4_setApart_2 : decode cX4_setApart 2 = .ok (.iload_n 2, 1) := by decide +kernel
theorem dX4_setApart_3 : decode cX4_setApart 3 = .ok (.invokevirtual 29, 3) := by decide +kernel
theorem dX4_setApart_6 : decode cX4_setApart 6 = .ok (.iload_n 3, 1) := by decide +kernel
theorem dX4_setApart_7 : decode cX4_setApart 7 = .ok (.if_icmp .eq 27, 3) := by decide +kernel
theorem dX4_setApart_10 : decode cX4_setApart 10 = .ok (.aload_n 0, 1) := by decide +kernel
theorem dX4_setApart_11 : decode cX4_setApart 11 = .ok (.getfield 18, 3) := by decide +kernel
theorem dX4_setApart_14 : decode cX4_setApart 14 = .ok (.iload_n 1, 1) := by decide +kernel
theorem dX4_setApart_15 : decode cX4_setApart 15 = .ok (.dup2, 1) := by decide +kernel
theorem dX4_setApart_16 : decode cX4_setApart 16 = .ok (.iaload, 1) := by decide +kernel
theorem dX4_setApart_17 : decode cX4_setApart 17 = .ok (.iconst 1, 1) := by decide +kernel
theorem dX4_setApart_18 : decode cX4_setApart 18 = .ok (.iload_n 2, 1) := by decide +kernel
theorem dX4_setApart_19 : decode cX4_setApart 19 = .ok (.ishl, 1) := by decide +kernel
theorem dX4_setApart_20 : decode cX4_setApart 20 = .ok (.ixor, 1) := by decide +kernel
theorem dX4_setApart_21 : decode cX4_setApart 21 = .ok (.iastore, 1) := by decide +kernel
theorem dX4_setApart_22 : decode cX4_setApart 22 = .ok (.aload_n 0, 1) := by decide +kernel
theorem dX4_setApart_23 : decode cX4_setApart 23 = .ok (.getfield 18, 3) := by decide +kernel
theorem dX4_setApart_26 : decode cX4_setApart 26 = .ok (.iload_n 2, 1) := by decide +kernel
theorem dX4_setApart_27 : decode cX4_setApart 27 = .ok (.dup2, 1) := by decide +kernel
theorem dX4_setApart_28 : decode cX4_setApart 28 = .ok (.iaload, 1) := by decide +kernel
theorem dX4_setApart_29 : decode cX4_setApart 29 = .ok (.iconst 1, 1) := by decide +kernel
theorem dX4_setApart_30 : decode cX4_setApart 30 = .ok (.iload_n 1, 1) := by decide +kernel
theorem dX4_setApart_31 : decode cX4_setApart 31 = .ok (.ishl, 1) := by decide +kernel
theorem dX4_setApart_32 : decode cX4_setApart 32 = .ok (.ixor, 1) := by decide +kernel
theorem dX4_setApart_33 : decode cX4_setApart 33 = .ok (.iastore, 1) := by decide +kernel
theorem dX4_setApart_34 : decode cX4_setApart 34 = .ok (.return_, 1) := by decide +kernel
theorem dX4_pairsApart_0 : decode cX4_pairsApart 0 = .ok (.iconst 0, 1) := by decide +kernel
theorem dX4_pairsApart_1 : decode cX4_pairsApart 1 = .ok (.istore_n 1, 1) := by decide +kernel
theorem dX4_pairsApart_2 : decode cX4_pairsApart 2 = .ok (.iconst 0, 1) := by decide +kernel
theorem dX4_pairsApart_3 : decode cX4_pairsApart 3 = .ok (.istore_n 2, 1) := by decide +kernel
theorem dX4_pairsApart_4 : decode cX4_pairsApart 4 = .ok (.iload_n 2, 1) := by decide +kernel
theorem dX4_pairsApart_5 : decode cX4_pairsApart 5 = .ok (.aload_n 0, 1) := by decide +kernel
theorem dX4_pairsApart_6 : decode cX4_pairsApart 6 = .ok (.getfield 21, 3) := by decide +kernel
theorem dX4_pairsApart_9 : decode cX4_pairsApart 9 = .ok (.if_icmp .ge 21, 3) := by decide +kernel
theorem dX4_pairsApart_12 : decode cX4_pairsApart 12 = .ok (.iload_n 1, 1) := by decide +kernel
theorem dX4_pairsApart_13 : decode cX4_pairsApart 13 = .ok (.aload_n 0, 1) := by decide +kernel
theorem dX4_pairsApart_14 : decode cX4_pairsApart 14 = .ok (.getfield 18, 3) := by decide +kernel
theorem dX4_pairsApart_17 : decode cX4_pairsApart 17 = .ok (.iload_n 2, 1) := by decide +kernel
theorem dX4_pairsApart_18 : decode cX4_pairsApart 18 = .ok (.iaload, 1) := by decide +kernel
theorem dX4_pairsApart_19 : decode cX4_pairsApart 19 = .ok (.invokestatic 32, 3) := by decide +kernel
theorem dX4_pairsApart_22 : decode cX4_pairsApart 22 = .ok (.iadd, 1) := by decide +kernel
theorem dX4_pairsApart_23 : decode cX4_pairsApart 23 = .ok (.istore_n 1, 1) := by decide +kernel
theorem dX4_pairsApart_24 : decode cX4_pairsApart 24 = .ok (.iinc 2 1, 3) := by decide +kernel
theorem dX4_pairsApart_27 : decode cX4_pairsApart 27 = .ok (.goto (-23), 3) := by decide +kernel
theorem dX4_pairsApart_30 : decode cX4_pairsApart 30 = .ok (.iload_n 1, 1) := by decide +kernel
theorem dX4_pairsApart_31 : decode cX4_pairsApart 31 = .ok (.iconst 2, 1) := by decide +kernel
theorem dX4_pairsApart_32 : decode cX4_pairsApart 32 = .ok (.idiv, 1) := by decide +kernel
theorem dX4_pairsApart_33 : decode cX4_pairsApart 33 = .ok (.ireturn, 1) := by decide +kernel
theorem dX5_init_0 : decode cX5_init 0 = .ok (.aload_n 0, 1) := by decide +kernel
theorem dX5_init_1 : decode cX5_init 1 = .ok (.invokespecial 3, 3) := by decide +kernel
theorem dX5_init_4 : decode cX5_init 4 = .ok (.aload_n 0, 1) := by decide +kernel
theorem dX5_init_5 : decode cX5_init 5 = .ok (.bipush 10, 2) := by decide +kernel
theorem dX5_init_7 : decode cX5_init 7 = .ok (.newarray .int, 2) := by decide +kernel
theorem dX5_init_9 : decode cX5_init 9 = .ok (.putfield 9, 3) := by decide +kernel
theorem dX5_init_12 : decode cX5_init 12 = .ok (.aload_n 0, 1) := by decide +kernel
theorem dX5_init_13 : decode cX5_init 13 = .ok (.bipush 10, 2) := by decide +kernel
theorem dX5_init_15 : decode cX5_init 15 = .ok (.newarray .int, 2) := by decide +kernel
theorem dX5_init_17 : decode cX5_init 17 = .ok (.putfield 15, 3) := by decide +kernel
theorem dX5_init_20 : decode cX5_init 20 = .ok (.aload_n 0, 1) := by decide +kernel
theorem dX5_init_21 : decode cX5_init 21 = .ok (.bipush 10, 2) := by decide +kernel
theorem dX5_init_23 : decode cX5_init 23 = .ok (.newarray .int, 2) := by decide +kernel
theorem dX5_init_25 : decode cX5_init 25 = .ok (.putfield 18, 3) := by decide +kernel
theorem dX5_init_28 : decode cX5_init 28 = .ok (.aload_n 0, 1) := by decide +kernel
theorem dX5_init_29 : decode cX5_init 29 = .ok (.bipush 10, 2) := by decide +kernel
theorem dX5_init_31 : decode cX5_init 31 = .ok (.newarray .int, 2) := by decide +kernel
theorem dX5_init_33 : decode cX5_init 33 = .ok (.putfield 21, 3) := by decide +kernel
theorem dX5_init_36 : decode cX5_init 36 = .ok (.aload_n 0, 1) := by decide +kernel
theorem dX5_init_37 : decode cX5_init 37 = .ok (.iconst 3, 1) := by decide +kernel
theorem dX5_init_38 : decode cX5_init 38 = .ok (.newarray .int, 2) := by decide +kernel
theorem dX5_init_40 : decode cX5_init 40 = .ok (.putfield 24, 3) := by decide +kernel
theorem dX5_init_43 : decode cX5_init 43 = .ok (.return_, 1) := by decide +kernel
theorem dX5_give_0 : decode cX5_give 0 = .ok (.aload_n 0, 1) := by decide +kernel
theorem dX5_give_1 : decode cX5_give 1 = .ok (.getfield 9, 3) := by decide +kernel
theorem dX5_give_4 : decode cX5_give 4 = .ok (.iconst (-1), 1) := by decide +kernel
theorem dX5_give_5 : decode cX5_give 5 = .ok (.invokestatic 27, 3) := by decide +kernel
theorem dX5_give_8 : decode cX5_give 8 = .ok (.aload_n 0, 1) := by decide +kernel
theorem dX5_give_9 : decode cX5_give 9 = .ok (.getfield 24, 3) := by decide +kernel
theorem dX5_give_12 : decode cX5_give 12 = .ok (.iconst 0, 1) := by decide +kernel
theorem dX5_give_13 : decode cX5_give 13 = .ok (.invokestatic 27, 3) := by decide +kernel
theorem dX5_give_16 : decode cX5_give 16 = .ok (.iconst 0, 1) := by decide +kernel
theorem dX5_give_17 : decode cX5_give 17 = .ok (.istore 4, 2) := by decide +kernel
theorem dX5_give_19 : decode cX5_give 19 = .ok (.iload 4, 2) := by decide +kernel
theorem dX5_give_21 : decode cX5_give 21 = .ok (.aload_n 1, 1) := by decide +kernel
theorem dX5_give_22 : decode cX5_give 22 = .ok (.getfield 33, 3) := by decide +kernel
theorem dX5_give_25 : decode cX5_give 25 = .ok (.if_icmp .ge 24, 3) := by decide +kernel
theorem dX5_give_28 : decode cX5_give 28 = .ok (.aload_n 0, 1) := by decide +kernel
theorem dX5_give_29 : decode cX5_give 29 = .ok (.aload_n 2, 1) := by decide +kernel
theorem dX5_give_30 : decode cX5_give 30 = .ok (.aload_n 3, 1) := by decide +kernel
theorem dX5_give_31 : decode cX5_give 31 = .ok (.iload 4, 2) := by decide +kernel
theorem dX5_give_33 : decode cX5_give 33 = .ok (.invokevirtual 39, 3) := by decide +kernel
theorem dX5_give_36 : decode cX5_give 36 = .ok (.aload_n 0, 1) := by decide +kernel
theorem dX5_give_37 : decode cX5_give 37 = .ok (.aload_n 1, 1) := by decide +kernel
theorem dX5_give_38 : decode cX5_give 38 = .ok (.iload 4, 2) := by decide +kernel
theorem dX5_give_40 : decode cX5_give 40 = .ok (.invokevirtual 43, 3) := by decide +kernel
theorem dX5_give_43 : decode cX5_give 43 = .ok (.iinc 4 1, 3) := by decide +kernel
theorem dX5_give_46 : decode cX5_give 46 = .ok (.goto (-27), 3) := by decide +kernel
theorem dX5_give_49 : decode cX5_give 49 = .ok (.aload_n 0, 1) := by decide +kernel
theorem dX5_give_50 : decode cX5_give 50 = .ok (.aload_n 1, 1) := by decide +kernel
theorem dX5_give_51 : decode cX5_give 51 = .ok (.iconst 0, 1) := by decide +kernel
theorem dX5_give_52 : decode cX5_give 52 = .ok (.invokestatic 47, 3) := by decide +kernel
theorem dX5_give_55 : decode cX5_give 55 = .ok (.ireturn, 1) := by decide +kernel
theorem dX5_measureStay_0 : decode cX5_measureStay 0 = .ok (.sipush 200, 3) := by decide +kernel
theorem dX5_measureStay_3 : decode cX5_measureStay 3 = .ok (.istore 4, 2) := by decide +kernel
theorem dX5_measureStay_5 : decode cX5_measureStay 5 = .ok (.iconst (-1), 1) := by decide +kernel
theorem dX5_measureStay_6 : decode cX5_measureStay 6 = .ok (.istore 5, 2) := by decide +kernel
theorem dX5_measureStay_8 : decode cX5_measureStay 8 = .ok (.iconst 0, 1) := by decide +kernel
theorem dX5_measureStay_9 : decode cX5_measureStay 9 = .ok (.istore 6, 2) := by decide +kernel
theorem dX5_measureStay_11 : decode cX5_measureStay 11 = .ok (.iload 6, 2) := by decide +kernel
theorem dX5_measureStay_13 : decode cX5_measureStay 13 = .ok (.aload_n 1, 1) := by decide +kernel
theorem dX5_measureStay_14 : decode cX5_measureStay 14 = .ok (.getfield 51, 3) := by decide +kernel
theorem dX5_measureStay_17 : decode cX5_measureStay 17 = .ok (.if_icmp .ge 64, 3) := by decide +kernel
theorem dX5_measureStay_20 : decode cX5_measureStay 20 = .ok (.aload_n 1, 1) := by decide +kernel
theorem dX5_measureStay_21 : decode cX5_measureStay 21 = .ok (.iload 6, 2) := by decide +kernel
theorem dX5_measureStay_23 : decode cX5_measureStay 23 = .ok (.iload_n 3, 1) := by decide +kernel
theorem dX5_measureStay_24 : decode cX5_measureStay 24 = .ok (.invokevirtual 54, 3) := by decide +kernel
theorem dX5_measureStay_27 : decode cX5_measureStay 27 = .ok (.ifCond .eq 48, 3) := by decide +kernel
theorem dX5_measureStay_30 : decode cX5_measureStay 30 = .ok (.iload 4, 2) := by decide +kernel
theorem dX5_measureStay_32 : decode cX5_measureStay 32 = .ok (.aload_n 1, 1) := by decide +kernel
theorem dX5_measureStay_33 : decode cX5_measureStay 33 = .ok (.iload 6, 2) := by decide +kernel
theorem dX5_measureStay_35 : decode cX5_measureStay 35 = .ok (.iload_n 3, 1) := by decide +kernel
theorem dX5_measureStay_36 : decode cX5_measureStay 36 = .ok (.invokevirtual 58, 3) := by decide +kernel
theorem dX5_measureStay_39 : decode cX5_measureStay 39 = .ok (.invokestatic 62, 3) := by decide +kernel
theorem dX5_measureStay_42 : decode cX5_measureStay 42 = .ok (.istore 4, 2) := by decide +kernel
theorem dX5_measureStay_44 : decode cX5_measureStay 44 = .ok (.iload 5, 2) := by decide +kernel
theorem dX5_measureStay_46 : decode cX5_measureStay 46 = .ok (.aload_n 2, 1) := by decide +kernel
theorem dX5_measureStay_47 : decode cX5_measureStay 47 = .ok (.getfield 67, 3) := by decide +kernel
theorem dX5_measureStay_50 : decode cX5_measureStay 50 = .ok (.iload 6, 2) := by decide +kernel
theorem dX5_measureStay_52 : decode cX5_measureStay 52 = .ok (.iaload, 1) := by decide +kernel
theorem dX5_measureStay_53 : decode cX5_measureStay 53 = .ok (.iconst (-1), 1) := by decide +kernel
theorem dX5_measureStay_54 : decode cX5_measureStay 54 = .ok (.if_icmp .ne 9, 3) := by decide +kernel
theorem dX5_measureStay_57 : decode cX5_measureStay 57 = .ok (.sipush 200, 3) := by decide +kernel
theorem dX5_measureStay_60 : decode cX5_measureStay 60 = .ok (.goto 10, 3) := by decide +kernel
theorem dX5_measureStay_63 : decode cX5_measureStay 63 = .ok (.aload_n 2, 1) := by decide +kernel
theorem dX5_measureStay_64 : decode cX5_measureStay 64 = .ok (.getfield 67, 3) := by decide +kernel
theorem dX5_measureStay_67 : decode cX5_measureStay 67 = .ok (.iload 6, 2) := by decide +kernel
theorem dX5_measureStay_69 : decode cX5_measureStay 69 = .ok (.iaload, 1) := by decide +kernel
theorem dX5_measureStay_70 : decode cX5_measureStay 70 = .ok (.invokestatic 72, 3) := by decide +kernel
theorem dX5_measureStay_73 : decode cX5_measureStay 73 = .ok (.istore 5, 2) := by decide +kernel
theorem dX5_measureStay_75 : decode cX5_measureStay 75 = .ok (.iinc 6 1, 3) := by decide +kernel
theorem dX5_measureStay_78 : decode cX5_measureStay 78 = .ok (.goto (-67), 3) := by decide +kernel
theorem dX5_measureStay_81 : decode cX5_measureStay 81 = .ok (.aload_n 0, 1) := by decide +kernel
theorem dX5_measureStay_82 : decode cX5_measureStay 82 = .ok (.getfield 15, 3) := by decide +kernel
theorem dX5_measureStay_85 : decode cX5_measureStay 85 = .ok (.iload_n 3, 1) := by decide +kernel
theorem dX5_measureStay_86 : decode cX5_measureStay 86 = .ok (.iload 4, 2) := by decide +kernel
theorem dX5_measureStay_88 : decode cX5_measureStay 88 = .ok (.iastore, 1) := by decide +kernel
theorem dX5_measureStay_89 : decode cX5_measureStay 89 = .ok (.aload_n 0, 1) := by decide +kernel
theorem dX5_measureStay_90 : decode cX5_measureStay 90 = .ok (.getfield 18, 3) := by decide +kernel
theorem dX5_measureStay_93 : decode cX5_measureStay 93 = .ok (.iload_n 3, 1) := by decide +kernel
theorem dX5_measureStay_94 : decode cX5_measureStay 94 = .ok (.iload 5, 2) := by decide +kernel
theorem dX5_measureStay_96 : decode cX5_measureStay 96 = .ok (.iconst (-1), 1) := by decide +kernel
theorem dX5_measureStay_97 : decode cX5_measureStay 97 = .ok (.if_icmp .ne 7, 3) := by decide +kernel
theorem dX5_measureStay_100 : decode cX5_measureStay 100 = .ok (.iconst (-1), 1) := by decide +kernel
theorem dX5_measureStay_101 : decode cX5_measureStay 101 = .ok (.goto 10, 3) := by decide +kernel
theorem dX5_measureStay_104 : decode cX5_measureStay 104 = .ok (.iload 4, 2) := by decide +kernel
theorem dX5_measureStay_106 : decode cX5_measureStay 106 = .ok (.iload 5, 2) := by decide +kernel
theorem dX5_measureStay_108 : decode cX5_measureStay 108 = .ok (.invokestatic 72, 3) := by decide +kernel
theorem dX5_measureStay_111 : decode cX5_measureStay 111 = .ok (.iastore, 1) := by decide +kernel
theorem dX5_measureStay_112 : decode cX5_measureStay 112 = .ok (.return_, 1) := by decide +kernel
theorem dX5_findFoes_0 : decode cX5_findFoes 0 = .ok (.aload_n 0, 1) := by decide +kernel
theorem dX5_findFoes_1 : decode cX5_findFoes 1 = .ok (.getfield 21, 3) := by decide +kernel
theorem dX5_findFoes_4 : decode cX5_findFoes 4 = .ok (.iload_n 2, 1) := by decide +kernel
theorem dX5_findFoes_5 : decode cX5_findFoes 5 = .ok (.iconst 0, 1) := by decide +kernel
theorem dX5_findFoes_6 : decode cX5_findFoes 6 = .ok (.iastore, 1) := by decide +kernel
theorem dX5_findFoes_7 : decode cX5_findFoes 7 = .ok (.iconst 0, 1) := by decide +kernel
theorem dX5_findFoes_8 : decode cX5_findFoes 8 = .ok (.istore_n 3, 1) := by decide +kernel
theorem dX5_findFoes_9 : decode cX5_findFoes 9 = .ok (.iload_n 3, 1) := by decide +kernel
theorem dX5_findFoes_10 : decode cX5_findFoes 10 = .ok (.iload_n 2, 1) := by decide +kernel
theorem dX5_findFoes_11 : decode cX5_findFoes 11 = .ok (.if_icmp .ge 72, 3) := by decide +kernel
theorem dX5_findFoes_14 : decode cX5_findFoes 14 = .ok (.aload_n 0, 1) := by decide +kernel
theorem dX5_findFoes_15 : decode cX5_findFoes 15 = .ok (.getfield 15, 3) := by decide +kernel
theorem dX5_findFoes_18 : decode cX5_findFoes 18 = .ok (.iload_n 3, 1) := by decide +kernel
theorem dX5_findFoes_19 : decode cX5_findFoes 19 = .ok (.iaload, 1) := by decide +kernel
theorem dX5_findFoes_20 : decode cX5_findFoes 20 = .ok (.aload_n 0, 1) := by decide +kernel
theorem dX5_findFoes_21 : decode cX5_findFoes 21 = .ok (.getfield 18, 3) := by decide +kernel
theorem dX5_findFoes_24 : decode cX5_findFoes 24 = .ok (.iload_n 2, 1) := by decide +kernel
theorem dX5_findFoes_25 : decode cX5_findFoes 25 = .ok (.iaload, 1) := by decide +kernel
theorem dX5_findFoes_26 : decode cX5_findFoes 26 = .ok (.if_icmp .gt 22, 3) := by decide +kernel
theorem dX5_findFoes_29 : decode cX5_findFoes 29 = .ok (.aload_n 0, 1) := by decide +kernel
theorem dX5_findFoes_30 : decode cX5_findFoes 30 = .ok (.getfield 15, 3) := by decide +kernel
theorem dX5_findFoes_33 : decode cX5_findFoes 33 = .ok (.iload_n 2, 1) := by decide +kernel
theorem dX5_findFoes_34 : decode cX5_findFoes 34 = .ok (.iaload, 1) := by decide +kernel
theorem dX5_findFoes_35 : decode cX5_findFoes 35 = .ok (.aload_n 0, 1) := by decide +kernel
theorem dX5_findFoes_36 : decode cX5_findFoes 36 = .ok (.getfield 18, 3) := by decide +kernel
theorem dX5_findFoes_39 : decode cX5_findFoes 39 = .ok (.iload_n 3, 1) := by decide +kernel
theorem dX5_findFoes_40 : decode cX5_findFoes 40 = .ok (.iaload, 1) := by decide +kernel
theorem dX5_findFoes_41 : decode cX5_findFoes 41 = .ok (.if_icmp .gt 7, 3) := by decide +kernel
theorem dX5_findFoes_44 : decode cX5_findFoes 44 = .ok (.iconst 1, 1) := by decide +kernel
theorem dX5_findFoes_45 : decode cX5_findFoes 45 = .ok (.goto 4, 3) := by decide +kernel
theorem dX5_findFoes_48 : decode cX5_findFoes 48 = .ok (.iconst 0, 1) := by decide +kernel
theorem dX5_findFoes_49 : decode cX5_findFoes 49 = .ok (.istore 4, 2) := by decide +kernel
theorem dX5_findFoes_51 : decode cX5_findFoes 51 = .ok (.iload 4, 2) := by decide +kernel
theorem dX5_findFoes_53 : decode cX5_findFoes 53 = .ok (.ifCond .eq 24, 3) := by decide +kernel
theorem dX5_findFoes_56 : decode cX5_findFoes 56 = .ok (.aload_n 1, 1) := by decide +kernel
theorem dX5_findFoes_57 : decode cX5_findFoes 57 = .ok (.iload_n 3, 1) := by decide +kernel
theorem dX5_findFoes_58 : decode cX5_findFoes 58 = .ok (.iload_n 2, 1) := by decide +kernel
theorem dX5_findFoes_59 : decode cX5_findFoes 59 = .ok (.invokevirtual 75, 3) := by decide +kernel
theorem dX5_findFoes_62 : decode cX5_findFoes 62 = .ok (.ifCond .eq 15, 3) := by decide +kernel
theorem dX5_findFoes_65 : decode cX5_findFoes 65 = .ok (.aload_n 0, 1) := by decide +kernel
theorem dX5_findFoes_66 : decode cX5_findFoes 66 = .ok (.getfield 21, 3) := by decide +kernel
theorem dX5_findFoes_69 : decode cX5_findFoes 69 = .ok (.iload_n 2, 1) := by decide +kernel
theorem dX5_findFoes_70 : decode cX5_findFoes 70 = .ok (.dup2, 1) := by decide +kernel
theorem dX5_findFoes_71 : decode cX5_findFoes 71 = .ok (.iaload, 1) := by decide +kernel
theorem dX5_findFoes_72 : decode cX5_findFoes 72 = .ok (.iconst 1, 1) := by decide +kernel
theorem dX5_findFoes_73 : decode cX5_findFoes 73 = .ok (.iload_n 3, 1) := by decide +kernel
theorem dX5_findFoes_74 : decode cX5_findFoes 74 = .ok (.ishl, 1) := by decide +kernel
theorem dX5_findFoes_75 : decode cX5_findFoes 75 = .ok (.ior, 1) := by decide +kernel
theorem dX5_findFoes_76 : decode cX5_findFoes 76 = .ok (.iastore, 1) := by decide +kernel
theorem dX5_findFoes_77 : decode cX5_findFoes 77 = .ok (.iinc 3 1, 3) := by decide +kernel
theorem dX5_findFoes_80 : decode cX5_findFoes 80 = .ok (.goto (-71), 3) := by decide +kernel
theorem dX5_findFoes_83 : decode cX5_findFoes 83 = .ok (.return_, 1) := by decide +kernel
theorem dX5_settle_0 : decode cX5_settle 0 = .ok (.iload_n 2, 1) := by decide +kernel
theorem dX5_settle_1 : decode cX5_settle 1 = .ok (.aload_n 1, 1) := by decide +kernel
theorem dX5_settle_2 : decode cX5_settle 2 = .ok (.getfield 33, 3) := by decide +kernel
theorem dX5_settle_5 : decode cX5_settle 5 = .ok (.if_icmp .lt 5, 3) := by decide +kernel
theorem dX5_settle_8 : decode cX5_settle 8 = .ok (.iconst 1, 1) := by decide +kernel
theorem dX5_settle_9 : decode cX5_settle 9 = .ok (.ireturn, 1) := by decide +kernel
theorem dX5_settle_10 : decode cX5_settle 10 = .ok (.aload_n 0, 1) := by decide +kernel
theorem dX5_settle_11 : decode cX5_settle 11 = .ok (.getfield 18, 3) := by decide +kernel
theorem dX5_settle_14 : decode cX5_settle 14 = .ok (.iload_n 2, 1) := by decide +kernel
theorem dX5_settle_15 : decode cX5_settle 15 = .ok (.iaload, 1) := by decide +kernel
theorem dX5_settle_16 : decode cX5_settle 16 = .ok (.iconst (-1), 1) := by decide +kernel
theorem dX5_settle_17 : decode cX5_settle 17 = .ok (.if_icmp .ne 12, 3) := by decide +kernel
theorem dX5_settle_20 : decode cX5_settle 20 = .ok (.aload_n 0, 1) := by decide +kernel
theorem dX5_settle_21 : decode cX5_settle 21 = .ok (.aload_n 1, 1) := by decide +kernel
theorem dX5_settle_22 : decode cX5_settle 22 = .ok (.iload_n 2, 1) := by decide +kernel
theorem dX5_settle_23 : decode cX5_settle 23 = .ok (.iconst 1, 1) := by decide +kernel
theorem dX5_settle_24 : decode cX5_settle 24 = .ok (.iadd, 1) := by decide +kernel
theorem dX5_settle_25 : decode cX5_settle 25 = .ok (.invokestatic 47, 3) := by decide +kernel
theorem dX5_settle_28 : decode cX5_settle 28 = .ok (.ireturn, 1) := by decide +kernel
theorem dX5_settle_29 : decode cX5_settle 29 = .ok (.aload_n 1, 1) := by decide +kernel
theorem dX5_settle_30 : decode cX5_settle 30 = .ok (.getfield 78, 3) := by decide +kernel
theorem dX5_settle_33 : decode cX5_settle 33 = .ok (.iload_n 2, 1) := by decide +kernel
theorem dX5_settle_34 : decode cX5_settle 34 = .ok (.iaload, 1) := by decide +kernel
theorem dX5_settle_35 : decode cX5_settle 35 = .ok (.iconst 4, 1) := by decide +kernel
theorem dX5_settle_36 : decode cX5_settle 36 = .ok (.if_icmp .ne 7, 3) := by decide +kernel
theorem dX5_settle_39 : decode cX5_settle 39 = .ok (.iconst 2, 1) := by decide +kernel
theorem dX5_settle_40 : decode cX5_settle 40 = .ok (.goto 4, 3) := by decide +kernel
theorem dX5_settle_43 : decode cX5_settle 43 = .ok (.iconst 0, 1) := by decide +kernel
theorem dX5_settle_44 : decode cX5_settle 44 = .ok (.istore_n 3, 1) := by decide +kernel
theorem dX5_settle_45 : decode cX5_settle 45 = .ok (.iload_n 3, 1) := by decide +kernel
theorem dX5_settle_46 : decode cX5_settle 46 = .ok (.istore 4, 2) := by decide +kernel
theorem dX5_settle_48 : decode cX5_settle 48 = .ok (.iload 4, 2) := by decide +kernel
theorem dX5_settle_50 : decode cX5_settle 50 = .ok (.iconst 3, 1) := by decide +kernel
theorem dX5_settle_51 : decode cX5_settle 51 = .ok (.if_icmp .ge 46, 3) := by decide +kernel
theorem dX5_settle_54 : decode cX5_settle 54 = .ok (.aload_n 0, 1) := by decide +kernel
theorem dX5_settle_55 : decode cX5_settle 55 = .ok (.iload 4, 2) := by decide +kernel
theorem dX5_settle_57 : decode cX5_settle 57 = .ok (.iload_n 2, 1) := by decide +kernel
theorem dX5_settle_58 : decode cX5_settle 58 = .ok (.invokevirtual 81, 3) := by decide +kernel
theorem dX5_settle_61 : decode cX5_settle 61 = .ok (.ifCond .eq 30, 3) := by decide +kernel
theorem dX5_settle_64 : decode cX5_settle 64 = .ok (.aload_n 0, 1) := by decide +kernel
theorem dX5_settle_65 : decode cX5_settle 65 = .ok (.iload 4, 2) := by decide +kernel
theorem dX5_settle_67 : decode cX5_settle 67 = .ok (.iload_n 2, 1) := by decide +kernel
theorem dX5_settle_68 : decode cX5_settle 68 = .ok (.invokevirtual 84, 3) := by decide +kernel
theorem dX5_settle_71 : decode cX5_settle 71 = .ok (.aload_n 0, 1) := by decide +kernel
theorem dX5_settle_72 : decode cX5_settle 72 = .ok (.aload_n 1, 1) := by decide +kernel
theorem dX5_settle_73 : decode cX5_settle 73 = .ok (.iload_n 2, 1) := by decide +kernel
theorem dX5_settle_74 : decode cX5_settle 74 = .ok (.iconst 1, 1) := by decide +kernel
theorem dX5_settle_75 : decode cX5_settle 75 = .ok (.iadd, 1) := by decide +kernel
theorem dX5_settle_76 : decode cX5_settle 76 = .ok (.invokestatic 47, 3) := by decide +kernel
theorem dX5_settle_79 : decode cX5_settle 79 = .ok (.ifCond .eq 5, 3) := by decide +kernel
theorem dX5_settle_82 : decode cX5_settle 82 = .ok (.iconst 1, 1) := by decide +kernel
theorem dX5_settle_83 : decode cX5_settle 83 = .ok (.ireturn, 1) := by decide +kernel
theorem dX5_settle_84 : decode cX5_settle 84 = .ok (.aload_n 0, 1) := by decide +kernel
theorem dX5_settle_85 : decode cX5_settle 85 = .ok (.iload 4, 2) := by decide +kernel
theorem dX5_settle_87 : decode cX5_settle 87 = .ok (.iload_n 2, 1) := by decide +kernel
theorem dX5_settle_88 : decode cX5_settle 88 = .ok (.invokevirtual 88, 3) := by decide +kernel
theorem dX5_settle_91 : decode cX5_settle 91 = .ok (.iinc 4 1, 3) := by decide +kernel
theorem dX5_settle_94 : decode cX5_settle 94 = .ok (.goto (-46), 3) := by decide +kernel
theorem dX5_settle_97 : decode cX5_settle 97 = .ok (.iconst 0, 1) := by decide +kernel
theorem dX5_settle_98 : decode cX5_settle 98 = .ok (.ireturn, 1) := by decide +kernel
theorem dX5_isFree_0 : decode cX5_isFree 0 = .ok (.aload_n 0, 1) := by decide +kernel
theorem dX5_isFree_1 : decode cX5_isFree 1 = .ok (.getfield 24, 3) := by decide +kernel
theorem dX5_isFree_4 : decode cX5_isFree 4 = .ok (.iload_n 1, 1) := by decide +kernel
theorem dX5_isFree_5 : decode cX5_isFree 5 = .ok (.iaload, 1) := by decide +kernel
theorem dX5_isFree_6 : decode cX5_isFree 6 = .ok (.aload_n 0, 1) := by decide +kernel
theorem dX5_isFree_7 : decode cX5_isFree 7 = .ok (.getfield 21, 3) := by decide +kernel
theorem dX5_isFree_10 : decode cX5_isFree 10 = .ok (.iload_n 2, 1) := by decide +kernel
theorem dX5_isFree_11 : decode cX5_isFree 11 = .ok (.iaload, 1) := by decide +kernel
theorem dX5_isFree_12 : decode cX5_isFree 12 = .ok (.iand, 1) := by decide +kernel
theorem dX5_isFree_13 : decode cX5_isFree 13 = .ok (.ifCond .ne 7, 3) := by decide +kernel
theorem dX5_isFree_16 : decode cX5_isFree 16 = .ok (.iconst 1, 1) := by decide +kernel
theorem dX5_isFree_17 : decode cX5_isFree 17 = .ok (.goto 4, 3) := by decide +kernel
theorem dX5_isFree_20 : decode cX5_isFree 20 = .ok (.iconst 0, 1) := by decide +kernel
theorem dX5_isFree_21 : decode cX5_isFree 21 = .ok (.ireturn, 1) := by decide +kernel
theorem dX5_enter_0 : decode cX5_enter 0 = .ok (.aload_n 0, 1) := by decide +kernel
theorem dX5_enter_1 : decode cX5_enter 1 = .ok (.getfield 9, 3) := by decide +kernel
theorem dX5_enter_4 : decode cX5_enter 4 = .ok (.iload_n 2, 1) := by decide +kernel
theorem dX5_enter_5 : decode cX5_enter 5 = .ok (.iload_n 1, 1) := by decide +kernel
theorem dX5_enter_6 : decode cX5_enter 6 = .ok (.iastore, 1) := by decide +kernel
theorem dX5_enter_7 : decode cX5_enter 7 = .ok (.aload_n 0, 1) := by decide +kernel
theorem dX5_enter_8 : decode cX5_enter 8 = .ok (.getfield 24, 3) := by decide +kernel
theorem dX5_enter_11 : decode cX5_enter 11 = .ok (.iload_n 1, 1) := by decide +kernel
theorem dX5_enter_12 : decode cX5_enter 12 = .ok (.dup2, 1) := by decide +kernel
theorem dX5_enter_13 : decode cX5_enter 13 = .ok (.iaload, 1) := by decide +kernel
theorem dX5_enter_14 : decode cX5_enter 14 = .ok (.iconst 1, 1) := by decide +kernel
theorem dX5_enter_15 : decode cX5_enter 15 = .ok (.iload_n 2, 1) := by decide +kernel
theorem dX5_enter_16 : decode cX5_enter 16 = .ok (.ishl, 1) := by decide +kernel
theorem dX5_enter_17 : decode cX5_enter 17 = .ok (.ior, 1) := by decide +kernel
theorem dX5_enter_18 : decode cX5_enter 18 = .ok (.iastore, 1) := by decide +kernel
theorem dX5_enter_19 : decode cX5_enter 19 = .ok (.return_, 1) := by decide +kernel
theorem dX5_leave_0 : decode cX5_leave 0 = .ok (.aload_n 0, 1) := by decide +kernel
theorem dX5_leave_1 : decode cX5_leave 1 = .ok (.getfield 9, 3) := by decide +kernel
theorem dX5_leave_4 : decode cX5_leave 4 = .ok (.iload_n 2, 1) := by decide +kernel
theorem dX5_leave_5 : decode cX5_leave 5 = .ok (.iconst (-1), 1) := by decide +kernel
theorem dX5_leave_6 : decode cX5_leave 6 = .ok (.iastore, 1) := by decide +kernel
theorem dX5_leave_7 : decode cX5_leave 7 = .ok (.aload_n 0, 1) := by decide +kernel
theorem dX5_leave_8 : decode cX5_leave 8 = .ok (.getfield 24, 3) := by decide +kernel
theorem dX5_leave_11 : decode cX5_leave 11 = .ok (.iload_n 1, 1) := by decide +kernel
theorem dX5_leave_12 : decode cX5_leave 12 = .ok (.dup2, 1) := by decide +kernel
theorem dX5_leave_13 : decode cX5_leave 13 = .ok (.iaload, 1) := by decide +kernel
theorem dX5_leave_14 : decode cX5_leave 14 = .ok (.iconst 1, 1) := by decide +kernel
theorem dX5_leave_15 : decode cX5_leave 15 = .ok (.iload_n 2, 1) := by decide +kernel
theorem dX5_leave_16 : decode cX5_leave 16 = .ok (.ishl, 1) := by decide +kernel
theorem dX5_leave_17 : decode cX5_leave 17 = .ok (.iconst (-1), 1) := by decide +kernel
theorem dX5_leave_18 : decode cX5_leave 18 = .ok (.ixor, 1) := by decide +kernel
theorem dX5_leave_19 : decode cX5_leave 19 = .ok (.iand, 1) := by decide +kernel
theorem dX5_leave_20 : decode cX5_leave 20 = .ok (.iastore, 1) := by decide +kernel
theorem dX5_leave_21 : decode cX5_leave 21 = .ok (.return_, 1) := by decide +kernel
theorem dX6_init_0 : decode cX6_init 0 = .ok (.aload_n 0, 1) := by decide +kernel
theorem dX6_init_1 : decode cX6_init 1 = .ok (.invokespecial 3, 3) := by decide +kernel
theorem dX6_init_4 : decode cX6_init 4 = .ok (.aload_n 0, 1) := by decide +kernel
theorem dX6_init_5 : decode cX6_init 5 = .ok (.bipush 24, 2) := by decide +kernel
theorem dX6_init_7 : decode cX6_init 7 = .ok (.newarray .byte, 2) := by decide +kernel
theorem dX6_init_9 : decode cX6_init 9 = .ok (.putfield 9, 3) := by decide +kernel
theorem dX6_init_12 : decode cX6_init 12 = .ok (.aload_n 0, 1) := by decide +kernel
theorem dX6_init_13 : decode cX6_init 13 = .ok (.iconst 2, 1) := by decide +kernel
theorem dX6_init_14 : decode cX6_init 14 = .ok (.newarray .int, 2) := by decide +kernel
theorem dX6_init_16 : decode cX6_init 16 = .ok (.dup, 1) := by decide +kernel
theorem dX6_init_17 : decode cX6_init 17 = .ok (.iconst 0, 1) := by decide +kernel
theorem dX6_init_18 : decode cX6_init 18 = .ok (.iconst (-1), 1) := by decide +kernel
theorem dX6_init_19 : decode cX6_init 19 = .ok (.iastore, 1) := by decide +kernel
theorem dX6_init_20 : decode cX6_init 20 = .ok (.dup, 1) := by decide +kernel
theorem dX6_init_21 : decode cX6_init 21 = .ok (.iconst 1, 1) := by decide +kernel
theorem dX6_init_22 : decode cX6_init 22 = .ok (.iconst (-1), 1) := by decide +kernel
theorem dX6_init_23 : decode cX6_init 23 = .ok (.iastore, 1) := by decide +kernel
theorem dX6_init_24 : decode cX6_init 24 = .ok (.putfield 15, 3) := by decide +kernel
theorem dX6_init_27 : decode cX6_init 27 = .ok (.return_, 1) := by decide +kernel
theorem dX6_isMissing_0 : decode cX6_isMissing 0 = .ok (.aload_n 0, 1) := by decide +kernel
theorem dX6_isMissing_1 : decode cX6_isMissing 1 = .ok (.getfield 15, 3) := by decide +kernel
theorem dX6_isMissing_4 : decode cX6_isMissing 4 = .ok (.iload_n 1, 1) := by decide +kernel
theorem dX6_isMissing_5 : decode cX6_isMissing 5 = .ok (.iaload, 1) := by decide +kernel
theorem dX6_isMissing_6 : decode cX6_isMissing 6 = .ok (.iconst (-1), 1) := by decide +kernel
theorem dX6_isMissing_7 : decode cX6_isMissing 7 = .ok (.if_icmp .ne 7, 3) := by decide +kernel
theorem dX6_isMissing_10 : decode cX6_isMissing 10 = .ok (.iconst 1, 1) := by decide +kernel
theorem dX6_isMissing_11 : decode cX6_isMissing 11 = .ok (.goto 4, 3) := by decide +kernel
theorem dX6_isMissing_14 : decode cX6_isMissing 14 = .ok (.iconst 0, 1) := by decide +kernel
theorem dX6_isMissing_15 : decode cX6_isMissing 15 = .ok (.ireturn, 1) := by decide +kernel
theorem dX6_layOut_0 : decode cX6_layOut 0 = .ok (.iconst 0, 1) := by decide +kernel
theorem dX6_layOut_1 : decode cX6_layOut 1 = .ok (.istore_n 3, 1) := by decide +kernel
theorem dX6_layOut_2 : decode cX6_layOut 2 = .ok (.iload_n 3, 1) := by decide +kernel
theorem dX6_layOut_3 : decode cX6_layOut 3 = .ok (.iload_n 2, 1) := by decide +kernel
theorem dX6_layOut_4 : decode cX6_layOut 4 = .ok (.if_icmp .ge 21, 3) := by decide +kernel
theorem dX6_layOut_7 : decode cX6_layOut 7 = .ok (.aload_n 0, 1) := by decide +kernel
theorem dX6_layOut_8 : decode cX6_layOut 8 = .ok (.getfield 9, 3) := by decide +kernel
theorem dX6_layOut_11 : decode cX6_layOut 11 = .ok (.iload_n 1, 1) := by decide +kernel
theorem dX6_layOut_12 : decode cX6_layOut 12 = .ok (.bipush 12, 2) := by decide +kernel
theorem dX6_layOut_14 : decode cX6_layOut 14 = .ok (.imul, 1) := by decide +kernel
theorem dX6_layOut_15 : decode cX6_layOut 15 = .ok (.iload_n 3, 1) := by decide +kernel
theorem dX6_layOut_16 : decode cX6_layOut 16 = .ok (.iadd, 1) := by decide +kernel
theorem dX6_layOut_17 : decode cX6_layOut 17 = .ok (.iconst 0, 1) := by decide +kernel
theorem dX6_layOut_18 : decode cX6_layOut 18 = .ok (.bastore, 1) := by decide +kernel
theorem dX6_layOut_19 : decode cX6_layOut 19 = .ok (.iinc 3 1, 3) := by decide +kernel
theorem dX6_layOut_22 : decode cX6_layOut 22 = .ok (.goto (-20), 3) := by decide +kernel
theorem dX6_layOut_25 : decode cX6_layOut 25 = .ok (.aload_n 0, 1) := by decide +kernel
theorem dX6_layOut_26 : decode cX6_layOut 26 = .ok (.getfield 15, 3) := by decide +kernel
theorem dX6_layOut_29 : decode cX6_layOut 29 = .ok (.iload_n 1, 1) := by decide +kernel
theorem dX6_layOut_30 : decode cX6_layOut 30 = .ok (.iload_n 2, 1) := by decide +kernel
theorem dX6_layOut_31 : decode cX6_layOut 31 = .ok (.iastore, 1) := by decide +kernel
theorem dX6_layOut_32 : decode cX6_layOut 32 = .ok (.return_, 1) := by decide +kernel
theorem dX6_hasRun_0 : decode cX6_hasRun 0 = .ok (.iload_n 2, 1) := by decide +kernel
theorem dX6_hasRun_1 : decode cX6_hasRun 1 = .ok (.ifCond .lt 33, 3) := by decide +kernel
theorem dX6_hasRun_4 : decode cX6_hasRun 4 = .ok (.iload_n 3, 1) := by decide +kernel
theorem dX6_hasRun_5 : decode cX6_hasRun 5 = .ok (.ifCond .lt 29, 3) := by decide +kernel
theorem dX6_hasRun_8 : decode cX6_hasRun 8 = .ok (.iload_n 2, 1) := by decide +kernel
theorem dX6_hasRun_9 : decode cX6_hasRun 9 = .ok (.aload_n 0, 1) := by decide +kernel
theorem dX6_hasRun_10 : decode cX6_hasRun 10 = .ok (.getfield 15, 3) := by decide +kernel
theorem dX6_hasRun_13 : decode cX6_hasRun 13 = .ok (.iload_n 1, 1) := by decide +kernel
theorem dX6_hasRun_14 : decode cX6_hasRun 14 = .ok (.iaload, 1) := by decide +kernel
theorem dX6_hasRun_15 : decode cX6_hasRun 15 = .ok (.if_icmp .gt 19, 3) := by decide +kernel
theorem dX6_hasRun_18 : decode cX6_hasRun 18 = .ok (.iload_n 3, 1) := by decide +kernel
theorem dX6_hasRun_19 : decode cX6_hasRun 19 = .ok (.aload_n 0, 1) := by decide +kernel
theorem dX6_hasRun_20 : decode cX6_hasRun 20 = .ok (.getfield 15, 3) := by decide +kernel
theorem dX6_hasRun_23 : decode cX6_hasRun 23 = .ok (.iload_n 1, 1) := by decide +kernel
theorem dX6_hasRun_24 : decode cX6_hasRun 24 = .ok (.iaload, 1) := by decide +kernel
theorem dX6_hasRun_25 : decode cX6_hasRun 25 = .ok (.iload_n 2, 1) := by decide +kernel
theorem dX6_hasRun_26 : decode cX6_hasRun 26 = .ok (.isub, 1) := by decide +kernel
theorem dX6_hasRun_27 : decode cX6_hasRun 27 = .ok (.if_icmp .gt 7, 3) := by decide +kernel
theorem dX6_hasRun_30 : decode cX6_hasRun 30 = .ok (.iconst 1, 1) := by decide +kernel
theorem dX6_hasRun_31 : decode cX6_hasRun 31 = .ok (.goto 4, 3) := by decide +kernel
theorem dX6_hasRun_34 : decode cX6_hasRun 34 = .ok (.iconst 0, 1) := by decide +kernel
theorem dX6_hasRun_35 : decode cX6_hasRun 35 = .ok (.ireturn, 1) := by decide +kernel
theorem dX6_valueAt_0 : decode cX6_valueAt 0 = .ok (.aload_n 0, 1) := by decide +kernel
theorem dX6_valueAt_1 : decode cX6_valueAt 1 = .ok (.getfield 9, 3) := by decide +kernel
theorem dX6_valueAt_4 : decode cX6_valueAt 4 = .ok (.iload_n 1, 1) := by decide +kernel
theorem dX6_valueAt_5 : decode cX6_valueAt 5 = .ok (.bipush 12, 2) := by decide +kernel
theorem dX6_valueAt_7 : decode cX6_valueAt 7 = .ok (.imul, 1) := by decide +kernel
theorem dX6_valueAt_8 : decode cX6_valueAt 8 = .ok (.iload_n 2, 1) := by decide +kernel
theorem dX6_valueAt_9 : decode cX6_valueAt 9 = .ok (.iadd, 1) := by decide +kernel
theorem dX6_valueAt_10 : decode cX6_valueAt 10 = .ok (.baload, 1) := by decide +kernel
theorem dX6_valueAt_11 : decode cX6_valueAt 11 = .ok (.ireturn, 1) := by decide +kernel
theorem dX6_put_0 : decode cX6_put 0 = .ok (.aload_n 0, 1) := by decide +kernel
theorem dX6_put_1 : decode cX6_put 1 = .ok (.getfield 9, 3) := by decide +kernel
theorem dX6_put_4 : decode cX6_put 4 = .ok (.iload_n 1, 1) := by decide +kernel
theorem dX6_put_5 : decode cX6_put 5 = .ok (.bipush 12, 2) := by decide +kernel
theorem dX6_put_7 : decode cX6_put 7 = .ok (.imul, 1) := by decide +kernel
theorem dX6_put_8 : decode cX6_put 8 = .ok (.iload_n 2, 1) := by decide +kernel
theorem dX6_put_9 : decode cX6_put 9 = .ok (.iadd, 1) := by decide +kernel
theorem dX6_put_10 : decode cX6_put 10 = .ok (.iload_n 3, 1) := by decide +kernel
theorem dX6_put_11 : decode cX6_put 11 = .ok (.bastore, 1) := by decide +kernel
theorem dX6_put_12 : decode cX6_put 12 = .ok (.return_, 1) := by decide +kernel
end
section
theorem dX6_copyRun_0 : decode cX6_copyRun 0 = .ok (.aload_n 0, 1) := by decide +kernel
theorem dX6_copyRun_1 : decode cX6_copyRun 1 = .ok (.getfield 9, 3) := by decide +kernel
theorem dX6_copyRun_4 : decode cX6_copyRun 4 = .ok (.iload_n 1, 1) := by decide +kernel
theorem dX6_copyRun_5 : decode cX6_copyRun 5 = .ok (.bipush 12, 2) := by decide +kernel
theorem dX6_copyRun_7 : decode cX6_copyRun 7 = .ok (.imul, 1) := by decide +kernel
theorem dX6_copyRun_8 : decode cX6_copyRun 8 = .ok (.iload_n 2, 1) := by decide +kernel
theorem dX6_copyRun_9 : decode cX6_copyRun 9 = .ok (.iadd, 1) := by decide +kernel
theorem dX6_copyRun_10 : decode cX6_copyRun 10 = .ok (.aload_n 0, 1) := by decide +kernel
theorem dX6_copyRun_11 : decode cX6_copyRun 11 = .ok (.getfield 9, 3) := by decide +kernel
theorem dX6_copyRun_14 : decode cX6_copyRun 14 = .ok (.iload_n 3, 1) := by decide +kernel
theorem dX6_copyRun_15 : decode cX6_copyRun 15 = .ok (.bipush 12, 2) := by decide +kernel
theorem dX6_copyRun_17 : decode cX6_copyRun 17 = .ok (.imul, 1) := by decide +kernel
theorem dX6_copyRun_18 : decode cX6_copyRun 18 = .ok (.iload 4, 2) := by decide +kernel
theorem dX6_copyRun_20 : decode cX6_copyRun 20 = .ok (.iadd, 1) := by decide +kernel
theorem dX6_copyRun_21 : decode cX6_copyRun 21 = .ok (.iload 5, 2) := by decide +kernel
theorem dX6_copyRun_23 : decode cX6_copyRun 23 = .ok (.invokestatic 19, 3) := by decide +kernel
theorem dX6_copyRun_26 : decode cX6_copyRun 26 = .ok (.return_, 1) := by decide +kernel
theorem dX6_present_0 : decode cX6_present 0 = .ok (.iconst 0, 1) := by decide +kernel
theorem dX6_present_1 : decode cX6_present 1 = .ok (.istore_n 1, 1) := by decide +kernel
theorem dX6_present_2 : decode cX6_present 2 = .ok (.iconst 0, 1) := by decide +kernel
theorem dX6_present_3 : decode cX6_present 3 = .ok (.istore_n 2, 1) := by decide +kernel
theorem dX6_present_4 : decode cX6_present 4 = .ok (.iload_n 2, 1) := by decide +kernel
theorem dX6_present_5 : decode cX6_present 5 = .ok (.iconst 2, 1) := by decide +kernel
theorem dX6_present_6 : decode cX6_present 6 = .ok (.if_icmp .ge 20, 3) := by decide +kernel
theorem dX6_present_9 : decode cX6_present 9 = .ok (.aload_n 0, 1) := by decide +kernel
theorem dX6_present_10 : decode cX6_present 10 = .ok (.iload_n 2, 1) := by decide +kernel
theorem dX6_present_11 : decode cX6_present 11 = .ok (.invokevirtual 25, 3) := by decide +kernel
theorem dX6_present_14 : decode cX6_present 14 = .ok (.ifCond .ne 6, 3) := by decide +kernel
theorem dX6_present_17 : decode cX6_present 17 = .ok (.iinc 1 1, 3) := by decide +kernel
theorem dX6_present_20 : decode cX6_present 20 = .ok (.iinc 2 1, 3) := by decide +kernel
theorem dX6_present_23 : decode cX6_present 23 = .ok (.goto (-19), 3) := by decide +kernel
theorem dX6_present_26 : decode cX6_present 26 = .ok (.iload_n 1, 1) := by decide +kernel
theorem dX6_present_27 : decode cX6_present 27 = .ok (.ireturn, 1) := by decide +kernel
theorem dX7_init_0 : decode cX7_init 0 = .ok (.aload_n 0, 1) := by decide +kernel
theorem dX7_init_1 : decode cX7_init 1 = .ok (.invokespecial 1, 3) := by decide +kernel
theorem dX7_init_4 : decode cX7_init 4 = .ok (.aload_n 0, 1) := by decide +kernel
theorem dX7_init_5 : decode cX7_init 5 = .ok (.new 7, 3) := by decide +kernel
theorem dX7_init_8 : decode cX7_init 8 = .ok (.dup, 1) := by decide +kernel
theorem dX7_init_9 : decode cX7_init 9 = .ok (.invokespecial 9, 3) := by decide +kernel
theorem dX7_init_12 : decode cX7_init 12 = .ok (.putfield 10, 3) := by decide +kernel
theorem dX7_init_15 : decode cX7_init 15 = .ok (.aload_n 0, 1) := by decide +kernel
theorem dX7_init_16 : decode cX7_init 16 = .ok (.new 16, 3) := by decide +kernel
theorem dX7_init_19 : decode cX7_init 19 = .ok (.dup, 1) := by decide +kernel
theorem dX7_init_20 : decode cX7_init 20 = .ok (.invokespecial 18, 3) := by decide +kernel
theorem dX7_init_23 : decode cX7_init 23 = .ok (.putfield 19, 3) := by decide +kernel
theorem dX7_init_26 : decode cX7_init 26 = .ok (.aload_n 0, 1) := by decide +kernel
theorem dX7_init_27 : decode cX7_init 27 = .ok (.new 23, 3) := by decide +kernel
theorem dX7_init_30 : decode cX7_init 30 = .ok (.dup, 1) := by decide +kernel
theorem dX7_init_31 : decode cX7_init 31 = .ok (.invokespecial 25, 3) := by decide +kernel
theorem dX7_init_34 : decode cX7_init 34 = .ok (.putfield 26, 3) := by decide +kernel
theorem dX7_init_37 : decode cX7_init 37 = .ok (.aload_n 0, 1) := by decide +kernel
theorem dX7_init_38 : decode cX7_init 38 = .ok (.new 30, 3) := by decide +kernel
theorem dX7_init_41 : decode cX7_init 41 = .ok (.dup, 1) := by decide +kernel
theorem dX7_init_42 : decode cX7_init 42 = .ok (.invokespecial 32, 3) := by decide +kernel
theorem dX7_init_45 : decode cX7_init 45 = .ok (.putfield 33, 3) := by decide +kernel
theorem dX7_init_48 : decode cX7_init 48 = .ok (.aload_n 0, 1) := by decide +kernel
theorem dX7_init_49 : decode cX7_init 49 = .ok (.new 37, 3) := by decide +kernel
theorem dX7_init_52 : decode cX7_init 52 = .ok (.dup, 1) := by decide +kernel
theorem dX7_init_53 : decode cX7_init 53 = .ok (.invokespecial 39, 3) := by decide +kernel
theorem dX7_init_56 : decode cX7_init 56 = .ok (.putfield 40, 3) := by decide +kernel
theorem dX7_init_59 : decode cX7_init 59 = .ok (.aload_n 0, 1) := by decide +kernel
theorem dX7_init_60 : decode cX7_init 60 = .ok (.new 44, 3) := by decide +kernel
theorem dX7_init_63 : decode cX7_init 63 = .ok (.dup, 1) := by decide +kernel
theorem dX7_init_64 : decode cX7_init 64 = .ok (.invokespecial 46, 3) := by decide +kernel
theorem dX7_init_67 : decode cX7_init 67 = .ok (.putfield 47, 3) := by decide +kernel
theorem dX7_init_70 : decode cX7_init 70 = .ok (.aload_n 0, 1) := by decide +kernel
theorem dX7_init_71 : decode cX7_init 71 = .ok (.new 51, 3) := by decide +kernel
theorem dX7_init_74 : decode cX7_init 74 = .ok (.dup, 1) := by decide +kernel
theorem dX7_init_75 : decode cX7_init 75 = .ok (.invokespecial 53, 3) := by decide +kernel
theorem dX7_init_78 : decode cX7_init 78 = .ok (.putfield 54, 3) := by decide +kernel
theorem dX7_init_81 : decode cX7_init 81 = .ok (.aload_n 0, 1) := by decide +kernel
theorem dX7_init_82 : decode cX7_init 82 = .ok (.iconst 5, 1) := by decide +kernel
theorem dX7_init_83 : decode cX7_init 83 = .ok (.newarray .int, 2) := by decide +kernel
theorem dX7_init_85 : decode cX7_init 85 = .ok (.dup, 1) := by decide +kernel
theorem dX7_init_86 : decode cX7_init 86 = .ok (.iconst 0, 1) := by decide +kernel
theorem dX7_init_87 : decode cX7_init 87 = .ok (.iconst 1, 1) := by decide +kernel
theorem dX7_init_88 : decode cX7_init 88 = .ok (.iastore, 1) := by decide +kernel
theorem dX7_init_89 : decode cX7_init 89 = .ok (.dup, 1) := by decide +kernel
theorem dX7_init_90 : decode cX7_init 90 = .ok (.iconst 1, 1) := by decide +kernel
theorem dX7_init_91 : decode cX7_init 91 = .ok (.iconst 4, 1) := by decide +kernel
theorem dX7_init_92 : decode cX7_init 92 = .ok (.iastore, 1) := by decide +kernel
theorem dX7_init_93 : decode cX7_init 93 = .ok (.dup, 1) := by decide +kernel
theorem dX7_init_94 : decode cX7_init 94 = .ok (.iconst 2, 1) := by decide +kernel
theorem dX7_init_95 : decode cX7_init 95 = .ok (.iconst 0, 1) := by decide +kernel
theorem dX7_init_96 : decode cX7_init 96 = .ok (.iastore, 1) := by decide +kernel
theorem dX7_init_97 : decode cX7_init 97 = .ok (.dup, 1) := by decide +kernel
theorem dX7_init_98 : decode cX7_init 98 = .ok (.iconst 3, 1) := by decide +kernel
theorem dX7_init_99 : decode cX7_init 99 = .ok (.iconst 0, 1) := by decide +kernel
theorem dX7_init_100 : decode cX7_init 100 = .ok (.iastore, 1) := by decide +kernel
theorem dX7_init_101 : decode cX7_init 101 = .ok (.dup, 1) := by decide +kernel
theorem dX7_init_102 : decode cX7_init 102 = .ok (.iconst 4, 1) := by decide +kernel
theorem dX7_init_103 : decode cX7_init 103 = .ok (.iconst 0, 1) := by decide +kernel
theorem dX7_init_104 : decode cX7_init 104 = .ok (.iastore, 1) := by decide +kernel
theorem dX7_init_105 : decode cX7_init 105 = .ok (.putfield 58, 3) := by decide +kernel
theorem dX7_init_108 : decode cX7_init 108 = .ok (.return_, 1) := by decide +kernel
theorem dX7_newCase_0 : decode cX7_newCase 0 = .ok (.iload_n 1, 1) := by decide +kernel
theorem dX7_newCase_1 : decode cX7_newCase 1 = .ok (.invokestatic 62, 3) := by decide +kernel
theorem dX7_newCase_4 : decode cX7_newCase 4 = .ok (.ifCond .eq 23, 3) := by decide +kernel
theorem dX7_newCase_7 : decode cX7_newCase 7 = .ok (.iload_n 2, 1) := by decide +kernel
theorem dX7_newCase_8 : decode cX7_newCase 8 = .ok (.iconst 1, 1) := by decide +kernel
theorem dX7_newCase_9 : decode cX7_newCase 9 = .ok (.bipush 8, 2) := by decide +kernel
theorem dX7_newCase_11 : decode cX7_newCase 11 = .ok (.invokestatic 66, 3) := by decide +kernel
theorem dX7_newCase_14 : decode cX7_newCase 14 = .ok (.ifCond .eq 13, 3) := by decide +kernel
theorem dX7_newCase_17 : decode cX7_newCase 17 = .ok (.iload_n 3, 1) := by decide +kernel
theorem dX7_newCase_18 : decode cX7_newCase 18 = .ok (.iconst 0, 1) := by decide +kernel
theorem dX7_newCase_19 : decode cX7_newCase 19 = .ok (.bipush 100, 2) := by decide +kernel
theorem dX7_newCase_21 : decode cX7_newCase 21 = .ok (.invokestatic 66, 3) := by decide +kernel
theorem dX7_newCase_24 : decode cX7_newCase 24 = .ok (.ifCond .ne 7, 3) := by decide +kernel
theorem dX7_newCase_27 : decode cX7_newCase 27 = .ok (.ldc2_w 70, 3) := by decide +kernel
theorem dX7_newCase_30 : decode cX7_newCase 30 = .ok (.lreturn, 1) := by decide +kernel
theorem dX7_newCase_31 : decode cX7_newCase 31 = .ok (.aload_n 0, 1) := by decide +kernel
theorem dX7_newCase_32 : decode cX7_newCase 32 = .ok (.getfield 10, 3) := by decide +kernel
theorem dX7_newCase_35 : decode cX7_newCase 35 = .ok (.getfield 72, 3) := by decide +kernel
theorem dX7_newCase_38 : decode cX7_newCase 38 = .ok (.bipush 12, 2) := by decide +kernel
theorem dX7_newCase_40 : decode cX7_newCase 40 = .ok (.if_icmp .ge 17, 3) := by decide +kernel
theorem dX7_newCase_43 : decode cX7_newCase 43 = .ok (.aload_n 0, 1) := by decide +kernel
theorem dX7_newCase_44 : decode cX7_newCase 44 = .ok (.getfield 10, 3) := by decide +kernel
theorem dX7_newCase_47 : decode cX7_newCase 47 = .ok (.getfield 76, 3) := by decide +kernel
theorem dX7_newCase_50 : decode cX7_newCase 50 = .ok (.iload_n 1, 1) := by decide +kernel
theorem dX7_newCase_51 : decode cX7_newCase 51 = .ok (.iaload, 1) := by decide +kernel
theorem dX7_newCase_52 : decode cX7_newCase 52 = .ok (.bipush 6, 2) := by decide +kernel
theorem dX7_newCase_54 : decode cX7_newCase 54 = .ok (.if_icmp .lt 7, 3) := by decide +kernel
theorem dX7_newCase_57 : decode cX7_newCase 57 = .ok (.ldc2_w 79, 3) := by decide +kernel
theorem dX7_newCase_60 : decode cX7_newCase 60 = .ok (.lreturn, 1) := by decide +kernel
theorem dX7_newCase_61 : decode cX7_newCase 61 = .ok (.aload_n 0, 1) := by decide +kernel
theorem dX7_newCase_62 : decode cX7_newCase 62 = .ok (.getfield 10, 3) := by decide +kernel
theorem dX7_newCase_65 : decode cX7_newCase 65 = .ok (.iload_n 1, 1) := by decide +kernel
theorem dX7_newCase_66 : decode cX7_newCase 66 = .ok (.iload_n 2, 1) := by decide +kernel
theorem dX7_newCase_67 : decode cX7_newCase 67 = .ok (.iload_n 3, 1) := by decide +kernel
theorem dX7_newCase_68 : decode cX7_newCase 68 = .ok (.invokevirtual 81, 3) := by decide +kernel
theorem dX7_newCase_71 : decode cX7_newCase 71 = .ok (.i2l, 1) := by decide +kernel
theorem dX7_newCase_72 : decode cX7_newCase 72 = .ok (.lreturn, 1) := by decide +kernel
theorem dX7_witness_0 : decode cX7_witness 0 = .ok (.iload_n 1, 1) := by decide +kernel
theorem dX7_witness_1 : decode cX7_witness 1 = .ok (.iconst 0, 1) := by decide +kernel
theorem dX7_witness_2 : decode cX7_witness 2 = .ok (.iconst 4, 1) := by decide +kernel
theorem dX7_witness_3 : decode cX7_witness 3 = .ok (.invokestatic 66, 3) := by decide +kernel
theorem dX7_witness_6 : decode cX7_witness 6 = .ok (.ifCond .eq 13, 3) := by decide +kernel
theorem dX7_witness_9 : decode cX7_witness 9 = .ok (.iload_n 2, 1) := by decide +kernel
theorem dX7_witness_10 : decode cX7_witness 10 = .ok (.iconst 0, 1) := by decide +kernel
theorem dX7_witness_11 : decode cX7_witness 11 = .ok (.bipush 12, 2) := by decide +kernel
theorem dX7_witness_13 : decode cX7_witness 13 = .ok (.invokestatic 66, 3) := by decide +kernel
theorem dX7_witness_16 : decode cX7_witness 16 = .ok (.ifCond .ne 7, 3) := by decide +kernel
theorem dX7_witness_19 : decode cX7_witness 19 = .ok (.ldc2_w 70, 3) := by decide +kernel
theorem dX7_witness_22 : decode cX7_witness 22 = .ok (.lreturn, 1) := by decide +kernel
theorem dX7_witness_23 : decode cX7_witness 23 = .ok (.aload_n 0, 1) := by decide +kernel
theorem dX7_witness_24 : decode cX7_witness 24 = .ok (.getfield 19, 3) := by decide +kernel
theorem dX7_witness_27 : decode cX7_witness 27 = .ok (.getfield 85, 3) := by decide +kernel
theorem dX7_witness_30 : decode cX7_witness 30 = .ok (.bipush 10, 2) := by decide +kernel
theorem dX7_witness_32 : decode cX7_witness 32 = .ok (.if_icmp .lt 7, 3) := by decide +kernel
theorem dX7_witness_35 : decode cX7_witness 35 = .ok (.ldc2_w 79, 3) := by decide +kernel
theorem dX7_witness_38 : decode cX7_witness 38 = .ok (.lreturn, 1) := by decide +kernel
theorem dX7_witness_39 : decode cX7_witness 39 = .ok (.aload_n 0, 1) := by decide +kernel
theorem dX7_witness_40 : decode cX7_witness 40 = .ok (.getfield 19, 3) := by decide +kernel
theorem dX7_witness_43 : decode cX7_witness 43 = .ok (.iload_n 1, 1) := by decide +kernel
theorem dX7_witness_44 : decode cX7_witness 44 = .ok (.iload_n 2, 1) := by decide +kernel
theorem dX7_witness_45 : decode cX7_witness 45 = .ok (.invokevirtual 86, 3) := by decide +kernel
theorem dX7_witness_48 : decode cX7_witness 48 = .ok (.i2l, 1) := by decide +kernel
theorem dX7_witness_49 : decode cX7_witness 49 = .ok (.lreturn, 1) := by decide +kernel
theorem dX7_isOf_0 : decode cX7_isOf 0 = .ok (.aload_n 0, 1) := by decide +kernel
theorem dX7_isOf_1 : decode cX7_isOf 1 = .ok (.getfield 19, 3) := by decide +kernel
theorem dX7_isOf_4 : decode cX7_isOf 4 = .ok (.iload_n 1, 1) := by decide +kernel
theorem dX7_isOf_5 : decode cX7_isOf 5 = .ok (.invokevirtual 89, 3) := by decide +kernel
theorem dX7_isOf_8 : decode cX7_isOf 8 = .ok (.ifCond .eq 12, 3) := by decide +kernel
theorem dX7_isOf_11 : decode cX7_isOf 11 = .ok (.iload_n 2, 1) := by decide +kernel
theorem dX7_isOf_12 : decode cX7_isOf 12 = .ok (.iconst 0, 1) := by decide +kernel
theorem dX7_isOf_13 : decode cX7_isOf 13 = .ok (.iconst 4, 1) := by decide +kernel
theorem dX7_isOf_14 : decode cX7_isOf 14 = .ok (.invokestatic 66, 3) := by decide +kernel
theorem dX7_isOf_17 : decode cX7_isOf 17 = .ok (.ifCond .ne 7, 3) := by decide +kernel
theorem dX7_isOf_20 : decode cX7_isOf 20 = .ok (.ldc2_w 70, 3) := by decide +kernel
theorem dX7_isOf_23 : decode cX7_isOf 23 = .ok (.lreturn, 1) := by decide +kernel
theorem dX7_isOf_24 : decode cX7_isOf 24 = .ok (.aload_n 0, 1) := by decide +kernel
theorem dX7_isOf_25 : decode cX7_isOf 25 = .ok (.getfield 19, 3) := by decide +kernel
theorem dX7_isOf_28 : decode cX7_isOf 28 = .ok (.getfield 92, 3) := by decide +kernel
theorem dX7_isOf_31 : decode cX7_isOf 31 = .ok (.iload_n 1, 1) := by decide +kernel
theorem dX7_isOf_32 : decode cX7_isOf 32 = .ok (.iaload, 1) := by decide +kernel
theorem dX7_isOf_33 : decode cX7_isOf 33 = .ok (.istore_n 3, 1) := by decide +kernel
theorem dX7_isOf_34 : decode cX7_isOf 34 = .ok (.iload_n 2, 1) := by decide +kernel
theorem dX7_isOf_35 : decode cX7_isOf 35 = .ok (.iconst 3, 1) := by decide +kernel
theorem dX7_isOf_36 : decode cX7_isOf 36 = .ok (.if_icmp .ne 12, 3) := by decide +kernel
theorem dX7_isOf_39 : decode cX7_isOf 39 = .ok (.iload_n 3, 1) := by decide +kernel
theorem dX7_isOf_40 : decode cX7_isOf 40 = .ok (.iconst 4, 1) := by decide +kernel
theorem dX7_isOf_41 : decode cX7_isOf 41 = .ok (.if_icmp .ne 7, 3) := by decide +kernel
theorem dX7_isOf_44 : decode cX7_isOf 44 = .ok (.iconst 1, 1) := by decide +kernel
theorem dX7_isOf_45 : decode cX7_isOf 45 = .ok (.goto 4, 3) := by decide +kernel
theorem dX7_isOf_48 : decode cX7_isOf 48 = .ok (.iconst 0, 1) := by decide +kernel
theorem dX7_isOf_49 : decode cX7_isOf 49 = .ok (.istore 4, 2) := by decide +kernel
theorem dX7_isOf_51 : decode cX7_isOf 51 = .ok (.iload_n 2, 1) := by decide +kernel
theorem dX7_isOf_52 : decode cX7_isOf 52 = .ok (.ifCond .eq 13, 3) := by decide +kernel
theorem dX7_isOf_55 : decode cX7_isOf 55 = .ok (.iload_n 2, 1) := by decide +kernel
theorem dX7_isOf_56 : decode cX7_isOf 56 = .ok (.iload_n 3, 1) := by decide +kernel
theorem dX7_isOf_57 : decode cX7_isOf 57 = .ok (.if_icmp .eq 8, 3) := by decide +kernel
theorem dX7_isOf_60 : decode cX7_isOf 60 = .ok (.iload 4, 2) := by decide +kernel
theorem dX7_isOf_62 : decode cX7_isOf 62 = .ok (.ifCond .eq 7, 3) := by decide +kernel
theorem dX7_isOf_65 : decode cX7_isOf 65 = .ok (.iconst 1, 1) := by decide +kernel
theorem dX7_isOf_66 : decode cX7_isOf 66 = .ok (.goto 4, 3) := by decide +kernel
theorem dX7_isOf_69 : decode cX7_isOf 69 = .ok (.iconst 0, 1) := by decide +kernel
theorem dX7_isOf_70 : decode cX7_isOf 70 = .ok (.invokestatic 95, 3) := by decide +kernel
theorem dX7_isOf_73 : decode cX7_isOf 73 = .ok (.lreturn, 1) := by decide +kernel
theorem dX7_needs_0 : decode cX7_needs 0 = .ok (.aload_n 0, 1) := by decide +kernel
theorem dX7_needs_1 : decode cX7_needs 1 = .ok (.getfield 10, 3) := by decide +kernel
theorem dX7_needs_4 : decode cX7_needs 4 = .ok (.iload_n 1, 1) := by decide +kernel
theorem dX7_needs_5 : decode cX7_needs 5 = .ok (.invokevirtual 99, 3) := by decide +kernel
theorem dX7_needs_8 : decode cX7_needs 8 = .ok (.ifCond .eq 19, 3) := by decide +kernel
theorem dX7_needs_11 : decode cX7_needs 11 = .ok (.iload_n 2, 1) := by decide +kernel
theorem dX7_needs_12 : decode cX7_needs 12 = .ok (.ifCond .lt 15, 3) := by decide +kernel
theorem dX7_needs_15 : decode cX7_needs 15 = .ok (.iload_n 2, 1) := by decide +kernel
theorem dX7_needs_16 : decode cX7_needs 16 = .ok (.aload_n 0, 1) := by decide +kernel
theorem dX7_needs_17 : decode cX7_needs 17 = .ok (.getfield 19, 3) := by decide +kernel
theorem dX7_needs_20 : decode cX7_needs 20 = .ok (.getfield 85, 3) := by decide +kernel
theorem dX7_needs_23 : decode cX7_needs 23 = .ok (.ishr, 1) := by decide +kernel
theorem dX7_needs_24 : decode cX7_needs 24 = .ok (.ifCond .eq 7, 3) := by decide +kernel
theorem dX7_needs_27 : decode cX7_needs 27 = .ok (.ldc2_w 70, 3) := by decide +kernel
theorem dX7_needs_30 : decode cX7_needs 30 = .ok (.lreturn, 1) := by decide +kernel
theorem dX7_needs_31 : decode cX7_needs 31 = .ok (.aload_n 0, 1) := by decide +kernel
theorem dX7_needs_32 : decode cX7_needs 32 = .ok (.getfield 10, 3) := by decide +kernel
theorem dX7_needs_35 : decode cX7_needs 35 = .ok (.getfield 100, 3) := by decide +kernel
theorem dX7_needs_38 : decode cX7_needs 38 = .ok (.iload_n 1, 1) := by decide +kernel
theorem dX7_needs_39 : decode cX7_needs 39 = .ok (.iaload, 1) := by decide +kernel
theorem dX7_needs_40 : decode cX7_needs 40 = .ok (.istore_n 3, 1) := by decide +kernel
theorem dX7_needs_41 : decode cX7_needs 41 = .ok (.iconst 0, 1) := by decide +kernel
theorem dX7_needs_42 : decode cX7_needs 42 = .ok (.istore 4, 2) := by decide +kernel
theorem dX7_needs_44 : decode cX7_needs 44 = .ok (.iload 4, 2) := by decide +kernel
theorem dX7_needs_46 : decode cX7_needs 46 = .ok (.aload_n 0, 1) := by decide +kernel
theorem dX7_needs_47 : decode cX7_needs 47 = .ok (.getfield 19, 3) := by decide +kernel
theorem dX7_needs_50 : decode cX7_needs 50 = .ok (.getfield 85, 3) := by decide +kernel
theorem dX7_needs_53 : decode cX7_needs 53 = .ok (.if_icmp .ge 47, 3) := by decide +kernel
theorem dX7_needs_56 : decode cX7_needs 56 = .ok (.iload_n 2, 1) := by decide +kernel
theorem dX7_needs_57 : decode cX7_needs 57 = .ok (.iload 4, 2) := by decide +kernel
theorem dX7_needs_59 : decode cX7_needs 59 = .ok (.invokestatic 103, 3) := by decide +kernel
theorem dX7_needs_62 : decode cX7_needs 62 = .ok (.ifCond .eq 32, 3) := by decide +kernel
theorem dX7_needs_65 : decode cX7_needs 65 = .ok (.iload_n 3, 1) := by decide +kernel
theorem dX7_needs_66 : decode cX7_needs 66 = .ok (.iload 4, 2) := by decide +kernel
theorem dX7_needs_68 : decode cX7_needs 68 = .ok (.invokestatic 103, 3) := by decide +kernel
theorem dX7_needs_71 : decode cX7_needs 71 = .ok (.ifCond .ne 23, 3) := by decide +kernel
theorem dX7_needs_74 : decode cX7_needs 74 = .ok (.aload_n 0, 1) := by decide +kernel
theorem dX7_needs_75 : decode cX7_needs 75 = .ok (.getfield 10, 3) := by decide +kernel
theorem dX7_needs_78 : decode cX7_needs 78 = .ok (.iload_n 1, 1) := by decide +kernel
theorem dX7_needs_79 : decode cX7_needs 79 = .ok (.iload 4, 2) := by decide +kernel
theorem dX7_needs_81 : decode cX7_needs 81 = .ok (.aload_n 0, 1) := by decide +kernel
theorem dX7_needs_82 : decode cX7_needs 82 = .ok (.getfield 19, 3) := by decide +kernel
theorem dX7_needs_85 : decode cX7_needs 85 = .ok (.getfield 107, 3) := by decide +kernel
theorem dX7_needs_88 : decode cX7_needs 88 = .ok (.iload 4, 2) := by decide +kernel
theorem dX7_needs_90 : decode cX7_needs 90 = .ok (.iaload, 1) := by decide +kernel
theorem dX7_needs_91 : decode cX7_needs 91 = .ok (.invokevirtual 110, 3) := by decide +kernel
theorem dX7_needs_94 : decode cX7_needs 94 = .ok (.iinc 4 1, 3) := by decide +kernel
theorem dX7_needs_97 : decode cX7_needs 97 = .ok (.goto (-53), 3) := by decide +kernel
theorem dX7_needs_100 : decode cX7_needs 100 = .ok (.aload_n 0, 1) := by decide +kernel
theorem dX7_needs_101 : decode cX7_needs 101 = .ok (.getfield 10, 3) := by decide +kernel
theorem dX7_needs_104 : decode cX7_needs 104 = .ok (.getfield 100, 3) := by decide +kernel
theorem dX7_needs_107 : decode cX7_needs 107 = .ok (.iload_n 1, 1) := by decide +kernel
theorem dX7_needs_108 : decode cX7_needs 108 = .ok (.iload_n 2, 1) := by decide +kernel
theorem dX7_needs_109 : decode cX7_needs 109 = .ok (.iastore, 1) := by decide +kernel
theorem dX7_needs_110 : decode cX7_needs 110 = .ok (.iload_n 3, 1) := by decide +kernel
theorem dX7_needs_111 : decode cX7_needs 111 = .ok (.i2l, 1) := by decide +kernel
theorem dX7_needs_112 : decode cX7_needs 112 = .ok (.lreturn, 1) := by decide +kernel
theorem dX7_fold_0 : decode cX7_fold 0 = .ok (.aload_n 0, 1) := by decide +kernel
theorem dX7_fold_1 : decode cX7_fold 1 = .ok (.getfield 10, 3) := by decide +kernel
theorem dX7_fold_4 : decode cX7_fold 4 = .ok (.iload_n 1, 1) := by decide +kernel
theorem dX7_fold_5 : decode cX7_fold 5 = .ok (.invokevirtual 99, 3) := by decide +kernel
theorem dX7_fold_8 : decode cX7_fold 8 = .ok (.ifCond .eq 13, 3) := by decide +kernel
theorem dX7_fold_11 : decode cX7_fold 11 = .ok (.iload_n 2, 1) := by decide +kernel
theorem dX7_fold_12 : decode cX7_fold 12 = .ok (.iconst 0, 1) := by decide +kernel
theorem dX7_fold_13 : decode cX7_fold 13 = .ok (.bipush 100, 2) := by decide +kernel
theorem dX7_fold_15 : decode cX7_fold 15 = .ok (.invokestatic 66, 3) := by decide +kernel
theorem dX7_fold_18 : decode cX7_fold 18 = .ok (.ifCond .ne 7, 3) := by decide +kernel
theorem dX7_fold_21 : decode cX7_fold 21 = .ok (.ldc2_w 70, 3) := by decide +kernel
theorem dX7_fold_24 : decode cX7_fold 24 = .ok (.lreturn, 1) := by decide +kernel
theorem dX7_fold_25 : decode cX7_fold 25 = .ok (.aload_n 0, 1) := by decide +kernel
theorem dX7_fold_26 : decode cX7_fold 26 = .ok (.getfield 10, 3) := by decide +kernel
theorem dX7_fold_29 : decode cX7_fold 29 = .ok (.getfield 114, 3) := by decide +kernel
theorem dX7_fold_32 : decode cX7_fold 32 = .ok (.iload_n 1, 1) := by decide +kernel
theorem dX7_fold_33 : decode cX7_fold 33 = .ok (.iaload, 1) := by decide +kernel
theorem dX7_fold_34 : decode cX7_fold 34 = .ok (.istore_n 3, 1) := by decide +kernel
theorem dX7_fold_35 : decode cX7_fold 35 = .ok (.aload_n 0, 1) := by decide +kernel
theorem dX7_fold_36 : decode cX7_fold 36 = .ok (.getfield 10, 3) := by decide +kernel
theorem dX7_fold_39 : decode cX7_fold 39 = .ok (.getfield 114, 3) := by decide +kernel
theorem dX7_fold_42 : decode cX7_fold 42 = .ok (.iload_n 1, 1) := by decide +kernel
theorem dX7_fold_43 : decode cX7_fold 43 = .ok (.iload_n 2, 1) := by decide +kernel
theorem dX7_fold_44 : decode cX7_fold 44 = .ok (.iastore, 1) := by decide +kernel
theorem dX7_fold_45 : decode cX7_fold 45 = .ok (.iload_n 3, 1) := by decide +kernel
theorem dX7_fold_46 : decode cX7_fold 46 = .ok (.i2l, 1) := by decide +kernel
theorem dX7_fold_47 : decode cX7_fold 47 = .ok (.lreturn, 1) := by decide +kernel
theorem dX7_told_0 : decode cX7_told 0 = .ok (.aload_n 0, 1) := by decide +kernel
theorem dX7_told_1 : decode cX7_told 1 = .ok (.getfield 10, 3) := by decide +kernel
theorem dX7_told_4 : decode cX7_told 4 = .ok (.iload_n 1, 1) := by decide +kernel
theorem dX7_told_5 : decode cX7_told 5 = .ok (.invokevirtual 99, 3) := by decide +kernel
theorem dX7_told_8 : decode cX7_told 8 = .ok (.ifCond .ne 7, 3) := by decide +kernel
theorem dX7_told_11 : decode cX7_told 11 = .ok (.ldc2_w 70, 3) := by decide +kernel
theorem dX7_told_14 : decode cX7_told 14 = .ok (.lreturn, 1) := by decide +kernel
theorem dX7_told_15 : decode cX7_told 15 = .ok (.iload_n 2, 1) := by decide +kernel
theorem dX7_told_16 : decode cX7_told 16 = .ok (.tableswitch 124 0 5 #[40, 51, 61, 72, 83, 94], 40) := by decide +kernel
theorem dX7_told_56 : decode cX7_told 56 = .ok (.aload_n 0, 1) := by decide +kernel
theorem dX7_told_57 : decode cX7_told 57 = .ok (.getfield 10, 3) := by decide +kernel
theorem dX7_told_60 : decode cX7_told 60 = .ok (.getfield 117, 3) := by decide +kernel
theorem dX7_told_63 : decode cX7_told 63 = .ok (.iload_n 1, 1) := by decide +kernel
theorem dX7_told_64 : decode cX7_told 64 = .ok (.iaload, 1) := by decide +kernel
theorem dX7_told_65 : decode cX7_told 65 = .ok (.i2l, 1) := by decide +kernel
theorem dX7_told_66 : decode cX7_told 66 = .ok (.lreturn, 1) := by decide +kernel
theorem dX7_told_67 : decode cX7_told 67 = .ok (.aload_n 0, 1) := by decide +kernel
theorem dX7_told_68 : decode cX7_told 68 = .ok (.getfield 10, 3) := by decide +kernel
theorem dX7_told_71 : decode cX7_told 71 = .ok (.iload_n 1, 1) := by decide +kernel
theorem dX7_told_72 : decode cX7_told 72 = .ok (.invokevirtual 120, 3) := by decide +kernel
theorem dX7_told_75 : decode cX7_told 75 = .ok (.i2l, 1) := by decide +kernel
theorem dX7_told_76 : decode cX7_told 76 = .ok (.lreturn, 1) := by decide +kernel
theorem dX7_told_77 : decode cX7_told 77 = .ok (.aload_n 0, 1) := by decide +kernel
theorem dX7_told_78 : decode cX7_told 78 = .ok (.getfield 10, 3) := by decide +kernel
theorem dX7_told_81 : decode cX7_told 81 = .ok (.getfield 124, 3) := by decide +kernel
theorem dX7_told_84 : decode cX7_told 84 = .ok (.iload_n 1, 1) := by decide +kernel
theorem dX7_told_85 : decode cX7_told 85 = .ok (.iaload, 1) := by decide +kernel
theorem dX7_told_86 : decode cX7_told 86 = .ok (.i2l, 1) := by decide +kernel
theorem dX7_told_87 : decode cX7_told 87 = .ok (.lreturn, 1) := by decide +kernel
theorem dX7_told_88 : decode cX7_told 88 = .ok (.aload_n 0, 1) := by decide +kernel
theorem dX7_told_89 : decode cX7_told 89 = .ok (.getfield 10, 3) := by decide +kernel
theorem dX7_told_92 : decode cX7_told 92 = .ok (.getfield 114, 3) := by decide +kernel
theorem dX7_told_95 : decode cX7_told 95 = .ok (.iload_n 1, 1) := by decide +kernel
theorem dX7_told_96 : decode cX7_told 96 = .ok (.iaload, 1) := by decide +kernel
theorem dX7_told_97 : decode cX7_told 97 = .ok (.i2l, 1) := by decide +kernel
theorem dX7_told_98 : decode cX7_told 98 = .ok (.lreturn, 1) := by decide +kernel
theorem dX7_told_99 : decode cX7_told 99 = .ok (.aload_n 0, 1) := by decide +kernel
theorem dX7_told_100 : decode cX7_told 100 = .ok (.getfield 10, 3) := by decide +kernel
theorem dX7_told_103 : decode cX7_told 103 = .ok (.getfield 100, 3) := by decide +kernel
theorem dX7_told_106 : decode cX7_told 106 = .ok (.iload_n 1, 1) := by decide +kernel
theorem dX7_told_107 : decode cX7_told 107 = .ok (.iaload, 1) := by decide +kernel
theorem dX7_told_108 : decode cX7_told 108 = .ok (.i2l, 1) := by decide +kernel
theorem dX7_told_109 : decode cX7_told 109 = .ok (.lreturn, 1) := by decide +kernel
theorem dX7_told_110 : decode cX7_told 110 = .ok (.aload_n 0, 1) := by decide +kernel
theorem dX7_told_111 : decode cX7_told 111 = .ok (.getfield 10, 3) := by decide +kernel
theorem dX7_told_114 : decode cX7_told 114 = .ok (.getfield 127, 3) := by decide +kernel
theorem dX7_told_117 : decode cX7_told 117 = .ok (.iload_n 1, 1) := by decide +kernel
theorem dX7_told_118 : decode cX7_told 118 = .ok (.iaload, 1) := by decide +kernel
theorem dX7_told_119 : decode cX7_told 119 = .ok (.iconst (-1), 1) := by decide +kernel
theorem dX7_told_120 : decode cX7_told 120 = .ok (.if_icmp .ne 9, 3) := by decide +kernel
theorem dX7_told_123 : decode cX7_told 123 = .ok (.ldc2_w 130, 3) := by decide +kernel
theorem dX7_told_126 : decode cX7_told 126 = .ok (.goto 13, 3) := by decide +kernel
theorem dX7_told_129 : decode cX7_told 129 = .ok (.aload_n 0, 1) := by decide +kernel
theorem dX7_told_130 : decode cX7_told 130 = .ok (.getfield 10, 3) := by decide +kernel
theorem dX7_told_133 : decode cX7_told 133 = .ok (.getfield 127, 3) := by decide +kernel
theorem dX7_told_136 : decode cX7_told 136 = .ok (.iload_n 1, 1) := by decide +kernel
theorem dX7_told_137 : decode cX7_told 137 = .ok (.iaload, 1) := by decide +kernel
theorem dX7_told_138 : decode cX7_told 138 = .ok (.i2l, 1) := by decide +kernel
theorem dX7_told_139 : decode cX7_told 139 = .ok (.lreturn, 1) := by decide +kernel
theorem dX7_told_140 : decode cX7_told 140 = .ok (.ldc2_w 70, 3) := by decide +kernel
theorem dX7_told_143 : decode cX7_told 143 = .ok (.lreturn, 1) := by decide +kernel
theorem dX7_inList_0 : decode cX7_inList 0 = .ok (.iload_n 1, 1) := by decide +kernel
theorem dX7_inList_1 : decode cX7_inList 1 = .ok (.invokestatic 62, 3) := by decide +kernel
theorem dX7_inList_4 : decode cX7_inList 4 = .ok (.ifCond .eq 7, 3) := by decide +kernel
theorem dX7_inList_7 : decode cX7_inList 7 = .ok (.iload_n 2, 1) := by decide +kernel
theorem dX7_inList_8 : decode cX7_inList 8 = .ok (.ifCond .ge 7, 3) := by decide +kernel
theorem dX7_inList_11 : decode cX7_inList 11 = .ok (.ldc2_w 70, 3) := by decide +kernel
theorem dX7_inList_14 : decode cX7_inList 14 = .ok (.lreturn, 1) := by decide +kernel
theorem dX7_inList_15 : decode cX7_inList 15 = .ok (.aload_n 0, 1) := by decide +kernel
theorem dX7_inList_16 : decode cX7_inList 16 = .ok (.getfield 10, 3) := by decide +kernel
theorem dX7_inList_19 : decode cX7_inList 19 = .ok (.iload_n 1, 1) := by decide +kernel
theorem dX7_inList_20 : decode cX7_inList 20 = .ok (.iload_n 2, 1) := by decide +kernel
theorem dX7_inList_21 : decode cX7_inList 21 = .ok (.invokevirtual 132, 3) := by decide +kernel
theorem dX7_inList_24 : decode cX7_inList 24 = .ok (.istore_n 3, 1) := by decide +kernel
theorem dX7_inList_25 : decode cX7_inList 25 = .ok (.iload_n 3, 1) := by decide +kernel
theorem dX7_inList_26 : decode cX7_inList 26 = .ok (.iconst (-1), 1) := by decide +kernel
theorem dX7_inList_27 : decode cX7_inList 27 = .ok (.if_icmp .ne 9, 3) := by decide +kernel
theorem dX7_inList_30 : decode cX7_inList 30 = .ok (.ldc2_w 130, 3) := by decide +kernel
theorem dX7_inList_33 : decode cX7_inList 33 = .ok (.goto 5, 3) := by decide +kernel
theorem dX7_inList_36 : decode cX7_inList 36 = .ok (.iload_n 3, 1) := by decide +kernel
theorem dX7_inList_37 : decode cX7_inList 37 = .ok (.i2l, 1) := by decide +kernel
theorem dX7_inList_38 : decode cX7_inList 38 = .ok (.lreturn, 1) := by decide +kernel
theorem dX7_rule_0 : decode cX7_rule 0 = .ok (.iload_n 1, 1) := by decide +kernel
theorem dX7_rule_1 : decode cX7_rule 1 = .ok (.iconst 0, 1) := by decide +kernel
theorem dX7_rule_2 : decode cX7_rule 2 = .ok (.iconst 4, 1) := by decide +kernel
theorem dX7_rule_3 : decode cX7_rule 3 = .ok (.invokestatic 66, 3) := by decide +kernel
theorem dX7_rule_6 : decode cX7_rule 6 = .ok (.ifCond .eq 20, 3) := by decide +kernel
theorem dX7_rule_9 : decode cX7_rule 9 = .ok (.iload_n 2, 1) := by decide +kernel
theorem dX7_rule_10 : decode cX7_rule 10 = .ok (.getstatic 135, 3) := by decide +kernel
theorem dX7_rule_13 : decode cX7_rule 13 = .ok (.iload_n 1, 1) := by decide +kernel
theorem dX7_rule_14 : decode cX7_rule 14 = .ok (.iaload, 1) := by decide +kernel
theorem dX7_rule_15 : decode cX7_rule 15 = .ok (.getstatic 138, 3) := by decide +kernel
theorem dX7_rule_18 : decode cX7_rule 18 = .ok (.iload_n 1, 1) := by decide +kernel
theorem dX7_rule_19 : decode cX7_rule 19 = .ok (.iaload, 1) := by decide +kernel
theorem dX7_rule_20 : decode cX7_rule 20 = .ok (.invokestatic 66, 3) := by decide +kernel
theorem dX7_rule_23 : decode cX7_rule 23 = .ok (.ifCond .ne 7, 3) := by decide +kernel
theorem dX7_rule_26 : decode cX7_rule 26 = .ok (.ldc2_w 70, 3) := by decide +kernel
theorem dX7_rule_29 : decode cX7_rule 29 = .ok (.lreturn, 1) := by decide +kernel
theorem dX7_rule_30 : decode cX7_rule 30 = .ok (.aload_n 0, 1) := by decide +kernel
theorem dX7_rule_31 : decode cX7_rule 31 = .ok (.getfield 58, 3) := by decide +kernel
theorem dX7_rule_34 : decode cX7_rule 34 = .ok (.iload_n 1, 1) := by decide +kernel
theorem dX7_rule_35 : decode cX7_rule 35 = .ok (.iaload, 1) := by decide +kernel
theorem dX7_rule_36 : decode cX7_rule 36 = .ok (.istore_n 3, 1) := by decide +kernel
theorem dX7_rule_37 : decode cX7_rule 37 = .ok (.aload_n 0, 1) := by decide +kernel
theorem dX7_rule_38 : decode cX7_rule 38 = .ok (.getfield 58, 3) := by decide +kernel
theorem dX7_rule_41 : decode cX7_rule 41 = .ok (.iload_n 1, 1) := by decide +kernel
theorem dX7_rule_42 : decode cX7_rule 42 = .ok (.iload_n 2, 1) := by decide +kernel
theorem dX7_rule_43 : decode cX7_rule 43 = .ok (.iastore, 1) := by decide +kernel
theorem dX7_rule_44 : decode cX7_rule 44 = .ok (.iload_n 3, 1) := by decide +kernel
theorem dX7_rule_45 : decode cX7_rule 45 = .ok (.i2l, 1) := by decide +kernel
theorem dX7_rule_46 : decode cX7_rule 46 = .ok (.lreturn, 1) := by decide +kernel
theorem dX7_weight_0 : decode cX7_weight 0 = .ok (.aload_n 0, 1) := by decide +kernel
theorem dX7_weight_1 : decode cX7_weight 1 = .ok (.getfield 10, 3) := by decide +kernel
theorem dX7_weight_4 : decode cX7_weight 4 = .ok (.iload_n 1, 1) := by decide +kernel
theorem dX7_weight_5 : decode cX7_weight 5 = .ok (.invokevirtual 99, 3) := by decide +kernel
theorem dX7_weight_8 : decode cX7_weight 8 = .ok (.ifCond .eq 10, 3) := by decide +kernel
theorem dX7_weight_11 : decode cX7_weight 11 = .ok (.iload_n 2, 1) := by decide +kernel
theorem dX7_weight_12 : decode cX7_weight 12 = .ok (.invokestatic 141, 3) := by decide +kernel
theorem dX7_weight_15 : decode cX7_weight 15 = .ok (.ifCond .ne 7, 3) := by decide +kernel
theorem dX7_weight_18 : decode cX7_weight 18 = .ok (.ldc2_w 70, 3) := by decide +kernel
theorem dX7_weight_21 : decode cX7_weight 21 = .ok (.lreturn, 1) := by decide +kernel
theorem dX7_weight_22 : decode cX7_weight 22 = .ok (.aload_n 0, 1) := by decide +kernel
theorem dX7_weight_23 : decode cX7_weight 23 = .ok (.getfield 26, 3) := by decide +kernel
theorem dX7_weight_26 : decode cX7_weight 26 = .ok (.aload_n 0, 1) := by decide +kernel
theorem dX7_weight_27 : decode cX7_weight 27 = .ok (.getfield 10, 3) := by decide +kernel
theorem dX7_weight_30 : decode cX7_weight 30 = .ok (.iload_n 1, 1) := by decide +kernel
theorem dX7_weight_31 : decode cX7_weight 31 = .ok (.invokevirtual 144, 3) := by decide +kernel
theorem dX7_weight_34 : decode cX7_weight 34 = .ok (.aload_n 0, 1) := by decide +kernel
theorem dX7_weight_35 : decode cX7_weight 35 = .ok (.getfield 26, 3) := by decide +kernel
theorem dX7_weight_38 : decode cX7_weight 38 = .ok (.getfield 148, 3) := by decide +kernel
theorem dX7_weight_41 : decode cX7_weight 41 = .ok (.iload_n 2, 1) := by decide +kernel
theorem dX7_weight_42 : decode cX7_weight 42 = .ok (.laload, 1) := by decide +kernel
theorem dX7_weight_43 : decode cX7_weight 43 = .ok (.lreturn, 1) := by decide +kernel
theorem dX7_cost_0 : decode cX7_cost 0 = .ok (.aload_n 0, 1) := by decide +kernel
theorem dX7_cost_1 : decode cX7_cost 1 = .ok (.getfield 10, 3) := by decide +kernel
theorem dX7_cost_4 : decode cX7_cost 4 = .ok (.iload_n 1, 1) := by decide +kernel
theorem dX7_cost_5 : decode cX7_cost 5 = .ok (.invokevirtual 99, 3) := by decide +kernel
theorem dX7_cost_8 : decode cX7_cost 8 = .ok (.ifCond .eq 10, 3) := by decide +kernel
theorem dX7_cost_11 : decode cX7_cost 11 = .ok (.iload_n 2, 1) := by decide +kernel
theorem dX7_cost_12 : decode cX7_cost 12 = .ok (.invokestatic 141, 3) := by decide +kernel
theorem dX7_cost_15 : decode cX7_cost 15 = .ok (.ifCond .ne 7, 3) := by decide +kernel
theorem dX7_cost_18 : decode cX7_cost 18 = .ok (.ldc2_w 70, 3) := by decide +kernel
theorem dX7_cost_21 : decode cX7_cost 21 = .ok (.lreturn, 1) := by decide +kernel
theorem dX7_cost_22 : decode cX7_cost 22 = .ok (.aload_n 0, 1) := by decide +kernel
theorem dX7_cost_23 : decode cX7_cost 23 = .ok (.getfield 26, 3) := by decide +kernel
theorem dX7_cost_26 : decode cX7_cost 26 = .ok (.aload_n 0, 1) := by decide +kernel
theorem dX7_cost_27 : decode cX7_cost 27 = .ok (.getfield 10, 3) := by decide +kernel
theorem dX7_cost_30 : decode cX7_cost 30 = .ok (.iload_n 1, 1) := by decide +kernel
theorem dX7_cost_31 : decode cX7_cost 31 = .ok (.invokevirtual 144, 3) := by decide +kernel
theorem dX7_cost_34 : decode cX7_cost 34 = .ok (.aload_n 0, 1) := by decide +kernel
theorem dX7_cost_35 : decode cX7_cost 35 = .ok (.getfield 26, 3) := by decide +kernel
theorem dX7_cost_38 : decode cX7_cost 38 = .ok (.iload_n 2, 1) := by decide +kernel
theorem dX7_cost_39 : decode cX7_cost 39 = .ok (.aload_n 0, 1) := by decide +kernel
theorem dX7_cost_40 : decode cX7_cost 40 = .ok (.iload_n 1, 1) := by decide +kernel
theorem dX7_cost_41 : decode cX7_cost 41 = .ok (.invokevirtual 152, 3) := by decide +kernel
theorem dX7_cost_44 : decode cX7_cost 44 = .ok (.aload_n 0, 1) := by decide +kernel
theorem dX7_cost_45 : decode cX7_cost 45 = .ok (.getfield 58, 3) := by decide +kernel
theorem dX7_cost_48 : decode cX7_cost 48 = .ok (.iconst 1, 1) := by decide +kernel
theorem dX7_cost_49 : decode cX7_cost 49 = .ok (.iaload, 1) := by decide +kernel
theorem dX7_cost_50 : decode cX7_cost 50 = .ok (.i2l, 1) := by decide +kernel
theorem dX7_cost_51 : decode cX7_cost 51 = .ok (.invokevirtual 156, 3) := by decide +kernel
theorem dX7_cost_54 : decode cX7_cost 54 = .ok (.lreturn, 1) := by decide +kernel
theorem dX7_best_0 : decode cX7_best 0 = .ok (.aload_n 0, 1) := by decide +kernel
theorem dX7_best_1 : decode cX7_best 1 = .ok (.getfield 10, 3) := by decide +kernel
theorem dX7_best_4 : decode cX7_best 4 = .ok (.iload_n 1, 1) := by decide +kernel
theorem dX7_best_5 : decode cX7_best 5 = .ok (.invokevirtual 99, 3) := by decide +kernel
theorem dX7_best_8 : decode cX7_best 8 = .ok (.ifCond .ne 7, 3) := by decide +kernel
theorem dX7_best_11 : decode cX7_best 11 = .ok (.ldc2_w 70, 3) := by decide +kernel
theorem dX7_best_14 : decode cX7_best 14 = .ok (.lreturn, 1) := by decide +kernel
theorem dX7_best_15 : decode cX7_best 15 = .ok (.aload_n 0, 1) := by decide +kernel
theorem dX7_best_16 : decode cX7_best 16 = .ok (.iload_n 1, 1) := by decide +kernel
theorem dX7_best_17 : decode cX7_best 17 = .ok (.invokevirtual 160, 3) := by decide +kernel
theorem dX7_best_20 : decode cX7_best 20 = .ok (.i2l, 1) := by decide +kernel
theorem dX7_best_21 : decode cX7_best 21 = .ok (.lreturn, 1) := by decide +kernel
theorem dX7_call_0 : decode cX7_call 0 = .ok (.aload_n 0, 1) := by decide +kernel
theorem dX7_call_1 : decode cX7_call 1 = .ok (.getfield 19, 3) := by decide +kernel
theorem dX7_call_4 : decode cX7_call 4 = .ok (.iload_n 1, 1) := by decide +kernel
theorem dX7_call_5 : decode cX7_call 5 = .ok (.invokevirtual 89, 3) := by decide +kernel
theorem dX7_call_8 : decode cX7_call 8 = .ok (.ifCond .eq 21, 3) := by decide +kernel
theorem dX7_call_11 : decode cX7_call 11 = .ok (.aload_n 0, 1) := by decide +kernel
theorem dX7_call_12 : decode cX7_call 12 = .ok (.getfield 10, 3) := by decide +kernel
theorem dX7_call_15 : decode cX7_call 15 = .ok (.iload_n 2, 1) := by decide +kernel
theorem dX7_call_16 : decode cX7_call 16 = .ok (.invokevirtual 99, 3) := by decide +kernel
theorem dX7_call_19 : decode cX7_call 19 = .ok (.ifCond .eq 10, 3) := by decide +kernel
theorem dX7_call_22 : decode cX7_call 22 = .ok (.iload_n 3, 1) := by decide +kernel
theorem dX7_call_23 : decode cX7_call 23 = .ok (.invokestatic 141, 3) := by decide +kernel
theorem dX7_call_26 : decode cX7_call 26 = .ok (.ifCond .ne 7, 3) := by decide +kernel
theorem dX7_call_29 : decode cX7_call 29 = .ok (.ldc2_w 70, 3) := by decide +kernel
theorem dX7_call_32 : decode cX7_call 32 = .ok (.lreturn, 1) := by decide +kernel
theorem dX7_call_33 : decode cX7_call 33 = .ok (.aload_n 0, 1) := by decide +kernel
theorem dX7_call_34 : decode cX7_call 34 = .ok (.getfield 10, 3) := by decide +kernel
theorem dX7_call_37 : decode cX7_call 37 = .ok (.iload_n 2, 1) := by decide +kernel
theorem dX7_call_38 : decode cX7_call 38 = .ok (.iload_n 1, 1) := by decide +kernel
theorem dX7_call_39 : decode cX7_call 39 = .ok (.invokevirtual 163, 3) := by decide +kernel
theorem dX7_call_42 : decode cX7_call 42 = .ok (.ifCond .eq 16, 3) := by decide +kernel
theorem dX7_call_45 : decode cX7_call 45 = .ok (.iload_n 3, 1) := by decide +kernel
theorem dX7_call_46 : decode cX7_call 46 = .ok (.aload_n 0, 1) := by decide +kernel
theorem dX7_call_47 : decode cX7_call 47 = .ok (.getfield 19, 3) := by decide +kernel
theorem dX7_call_50 : decode cX7_call 50 = .ok (.getfield 107, 3) := by decide +kernel
theorem dX7_call_53 : decode cX7_call 53 = .ok (.iload_n 1, 1) := by decide +kernel
theorem dX7_call_54 : decode cX7_call 54 = .ok (.iaload, 1) := by decide +kernel
theorem dX7_call_55 : decode cX7_call 55 = .ok (.if_icmp .ge 7, 3) := by decide +kernel
theorem dX7_call_58 : decode cX7_call 58 = .ok (.ldc2_w 166, 3) := by decide +kernel
theorem dX7_call_61 : decode cX7_call 61 = .ok (.lreturn, 1) := by decide +kernel
theorem dX7_call_62 : decode cX7_call 62 = .ok (.aload_n 0, 1) := by decide +kernel
theorem dX7_call_63 : decode cX7_call 63 = .ok (.getfield 10, 3) := by decide +kernel
theorem dX7_call_66 : decode cX7_call 66 = .ok (.iload_n 2, 1) := by decide +kernel
theorem dX7_call_67 : decode cX7_call 67 = .ok (.iload_n 1, 1) := by decide +kernel
theorem dX7_call_68 : decode cX7_call 68 = .ok (.invokevirtual 168, 3) := by decide +kernel
theorem dX7_call_71 : decode cX7_call 71 = .ok (.istore 4, 2) := by decide +kernel
theorem dX7_call_73 : decode cX7_call 73 = .ok (.aload_n 0, 1) := by decide +kernel
theorem dX7_call_74 : decode cX7_call 74 = .ok (.getfield 10, 3) := by decide +kernel
theorem dX7_call_77 : decode cX7_call 77 = .ok (.iload_n 2, 1) := by decide +kernel
theorem dX7_call_78 : decode cX7_call 78 = .ok (.iload_n 1, 1) := by decide +kernel
theorem dX7_call_79 : decode cX7_call 79 = .ok (.iload_n 3, 1) := by decide +kernel
theorem dX7_call_80 : decode cX7_call 80 = .ok (.invokevirtual 110, 3) := by decide +kernel
theorem dX7_call_83 : decode cX7_call 83 = .ok (.iload 4, 2) := by decide +kernel
theorem dX7_call_85 : decode cX7_call 85 = .ok (.i2l, 1) := by decide +kernel
theorem dX7_call_86 : decode cX7_call 86 = .ok (.lreturn, 1) := by decide +kernel
theorem dX7_called_0 : decode cX7_called 0 = .ok (.aload_n 0, 1) := by decide +kernel
theorem dX7_called_1 : decode cX7_called 1 = .ok (.getfield 19, 3) := by decide +kernel
theorem dX7_called_4 : decode cX7_called 4 = .ok (.iload_n 1, 1) := by decide +kernel
theorem dX7_called_5 : decode cX7_called 5 = .ok (.invokevirtual 89, 3) := by decide +kernel
theorem dX7_called_8 : decode cX7_called 8 = .ok (.ifCond .eq 14, 3) := by decide +kernel
theorem dX7_called_11 : decode cX7_called 11 = .ok (.aload_n 0, 1) := by decide +kernel
theorem dX7_called_12 : decode cX7_called 12 = .ok (.getfield 10, 3) := by decide +kernel
theorem dX7_called_15 : decode cX7_called 15 = .ok (.iload_n 2, 1) := by decide +kernel
theorem dX7_called_16 : decode cX7_called 16 = .ok (.invokevirtual 99, 3) := by decide +kernel
theorem dX7_called_19 : decode cX7_called 19 = .ok (.ifCond .ne 7, 3) := by decide +kernel
theorem dX7_called_22 : decode cX7_called 22 = .ok (.ldc2_w 70, 3) := by decide +kernel
theorem dX7_called_25 : decode cX7_called 25 = .ok (.lreturn, 1) := by decide +kernel
theorem dX7_called_26 : decode cX7_called 26 = .ok (.aload_n 0, 1) := by decide +kernel
theorem dX7_called_27 : decode cX7_called 27 = .ok (.getfield 10, 3) := by decide +kernel
theorem dX7_called_30 : decode cX7_called 30 = .ok (.iload_n 2, 1) := by decide +kernel
theorem dX7_called_31 : decode cX7_called 31 = .ok (.iload_n 1, 1) := by decide +kernel
theorem dX7_called_32 : decode cX7_called 32 = .ok (.invokevirtual 163, 3) := by decide +kernel
theorem dX7_called_35 : decode cX7_called 35 = .ok (.ifCond .eq 16, 3) := by decide +kernel
theorem dX7_called_38 : decode cX7_called 38 = .ok (.aload_n 0, 1) := by decide +kernel
theorem dX7_called_39 : decode cX7_called 39 = .ok (.getfield 10, 3) := by decide +kernel
theorem dX7_called_42 : decode cX7_called 42 = .ok (.iload_n 2, 1) := by decide +kernel
theorem dX7_called_43 : decode cX7_called 43 = .ok (.iload_n 1, 1) := by decide +kernel
theorem dX7_called_44 : decode cX7_called 44 = .ok (.invokevirtual 168, 3) := by decide +kernel
theorem dX7_called_47 : decode cX7_called 47 = .ok (.i2l, 1) := by decide +kernel
theorem dX7_called_48 : decode cX7_called 48 = .ok (.goto 6, 3) := by decide +kernel
theorem dX7_called_51 : decode cX7_called 51 = .ok (.ldc2_w 166, 3) := by decide +kernel
theorem dX7_called_54 : decode cX7_called 54 = .ok (.lreturn, 1) := by decide +kernel
theorem dX7_plan_0 : decode cX7_plan 0 = .ok (.aload_n 0, 1) := by decide +kernel
theorem dX7_plan_1 : decode cX7_plan 1 = .ok (.getfield 10, 3) := by decide +kernel
theorem dX7_plan_4 : decode cX7_plan 4 = .ok (.iload_n 1, 1) := by decide +kernel
theorem dX7_plan_5 : decode cX7_plan 5 = .ok (.invokevirtual 99, 3) := by decide +kernel
theorem dX7_plan_8 : decode cX7_plan 8 = .ok (.ifCond .ne 7, 3) := by decide +kernel
theorem dX7_plan_11 : decode cX7_plan 11 = .ok (.ldc2_w 70, 3) := by decide +kernel
theorem dX7_plan_14 : decode cX7_plan 14 = .ok (.lreturn, 1) := by decide +kernel
theorem dX7_plan_15 : decode cX7_plan 15 = .ok (.aload_n 0, 1) := by decide +kernel
theorem dX7_plan_16 : decode cX7_plan 16 = .ok (.iload_n 1, 1) := by decide +kernel
theorem dX7_plan_17 : decode cX7_plan 17 = .ok (.invokevirtual 160, 3) := by decide +kernel
theorem dX7_plan_20 : decode cX7_plan 20 = .ok (.istore_n 2, 1) := by decide +kernel
theorem dX7_plan_21 : decode cX7_plan 21 = .ok (.iconst 0, 1) := by decide +kernel
theorem dX7_plan_22 : decode cX7_plan 22 = .ok (.istore_n 3, 1) := by decide +kernel
theorem dX7_plan_23 : decode cX7_plan 23 = .ok (.iload_n 3, 1) := by decide +kernel
theorem dX7_plan_24 : decode cX7_plan 24 = .ok (.aload_n 0, 1) := by decide +kernel
theorem dX7_plan_25 : decode cX7_plan 25 = .ok (.getfield 19, 3) := by decide +kernel
theorem dX7_plan_28 : decode cX7_plan 28 = .ok (.getfield 85, 3) := by decide +kernel
theorem dX7_plan_31 : decode cX7_plan 31 = .ok (.if_icmp .ge 31, 3) := by decide +kernel
theorem dX7_plan_34 : decode cX7_plan 34 = .ok (.aload_n 0, 1) := by decide +kernel
theorem dX7_plan_35 : decode cX7_plan 35 = .ok (.getfield 10, 3) := by decide +kernel
theorem dX7_plan_38 : decode cX7_plan 38 = .ok (.iload_n 1, 1) := by decide +kernel
theorem dX7_plan_39 : decode cX7_plan 39 = .ok (.iload_n 3, 1) := by decide +kernel
theorem dX7_plan_40 : decode cX7_plan 40 = .ok (.invokevirtual 163, 3) := by decide +kernel
theorem dX7_plan_43 : decode cX7_plan 43 = .ok (.ifCond .eq 13, 3) := by decide +kernel
theorem dX7_plan_46 : decode cX7_plan 46 = .ok (.aload_n 0, 1) := by decide +kernel
theorem dX7_plan_47 : decode cX7_plan 47 = .ok (.getfield 10, 3) := by decide +kernel
theorem dX7_plan_50 : decode cX7_plan 50 = .ok (.iload_n 1, 1) := by decide +kernel
theorem dX7_plan_51 : decode cX7_plan 51 = .ok (.iload_n 3, 1) := by decide +kernel
theorem dX7_plan_52 : decode cX7_plan 52 = .ok (.iload_n 2, 1) := by decide +kernel
theorem dX7_plan_53 : decode cX7_plan 53 = .ok (.invokevirtual 110, 3) := by decide +kernel
theorem dX7_plan_56 : decode cX7_plan 56 = .ok (.iinc 3 1, 3) := by decide +kernel
theorem dX7_plan_59 : decode cX7_plan 59 = .ok (.goto (-36), 3) := by decide +kernel
theorem dX7_plan_62 : decode cX7_plan 62 = .ok (.iload_n 2, 1) := by decide +kernel
theorem dX7_plan_63 : decode cX7_plan 63 = .ok (.i2l, 1) := by decide +kernel
theorem dX7_plan_64 : decode cX7_plan 64 = .ok (.lreturn, 1) := by decide +kernel
theorem dX7_fate_0 : decode cX7_fate 0 = .ok (.aload_n 0, 1) := by decide +kernel
theorem dX7_fate_1 : decode cX7_fate 1 = .ok (.getfield 10, 3) := by decide +kernel
theorem dX7_fate_4 : decode cX7_fate 4 = .ok (.iload_n 1, 1) := by decide +kernel
theorem dX7_fate_5 : decode cX7_fate 5 = .ok (.invokevirtual 99, 3) := by decide +kernel
theorem dX7_fate_8 : decode cX7_fate 8 = .ok (.ifCond .eq 13, 3) := by decide +kernel
theorem dX7_fate_11 : decode cX7_fate 11 = .ok (.iload_n 2, 1) := by decide +kernel
theorem dX7_fate_12 : decode cX7_fate 12 = .ok (.iconst (-1), 1) := by decide +kernel
theorem dX7_fate_13 : decode cX7_fate 13 = .ok (.bipush 20, 2) := by decide +kernel
theorem dX7_fate_15 : decode cX7_fate 15 = .ok (.invokestatic 66, 3) := by decide +kernel
theorem dX7_fate_18 : decode cX7_fate 18 = .ok (.ifCond .ne 7, 3) := by decide +kernel
theorem dX7_fate_21 : decode cX7_fate 21 = .ok (.ldc2_w 70, 3) := by decide +kernel
theorem dX7_fate_24 : decode cX7_fate 24 = .ok (.lreturn, 1) := by decide +kernel
theorem dX7_fate_25 : decode cX7_fate 25 = .ok (.aload_n 0, 1) := by decide +kernel
theorem dX7_fate_26 : decode cX7_fate 26 = .ok (.getfield 10, 3) := by decide +kernel
theorem dX7_fate_29 : decode cX7_fate 29 = .ok (.getfield 127, 3) := by decide +kernel
theorem dX7_fate_32 : decode cX7_fate 32 = .ok (.iload_n 1, 1) := by decide +kernel
theorem dX7_fate_33 : decode cX7_fate 33 = .ok (.iaload, 1) := by decide +kernel
theorem dX7_fate_34 : decode cX7_fate 34 = .ok (.istore_n 3, 1) := by decide +kernel
theorem dX7_fate_35 : decode cX7_fate 35 = .ok (.aload_n 0, 1) := by decide +kernel
theorem dX7_fate_36 : decode cX7_fate 36 = .ok (.getfield 10, 3) := by decide +kernel
theorem dX7_fate_39 : decode cX7_fate 39 = .ok (.getfield 127, 3) := by decide +kernel
theorem dX7_fate_42 : decode cX7_fate 42 = .ok (.iload_n 1, 1) := by decide +kernel
theorem dX7_fate_43 : decode cX7_fate 43 = .ok (.iload_n 2, 1) := by decide +kernel
theorem dX7_fate_44 : decode cX7_fate 44 = .ok (.iastore, 1) := by decide +kernel
theorem dX7_fate_45 : decode cX7_fate 45 = .ok (.iload_n 3, 1) := by decide +kernel
theorem dX7_fate_46 : decode cX7_fate 46 = .ok (.i2l, 1) := by decide +kernel
theorem dX7_fate_47 : decode cX7_fate 47 = .ok (.lreturn, 1) := by decide +kernel
theorem dX7_begins_0 : decode cX7_begins 0 = .ok (.aload_n 0, 1) := by decide +kernel
theorem dX7_begins_1 : decode cX7_begins 1 = .ok (.getfield 10, 3) := by decide +kernel
theorem dX7_begins_4 : decode cX7_begins 4 = .ok (.iload_n 1, 1) := by decide +kernel
theorem dX7_begins_5 : decode cX7_begins 5 = .ok (.invokevirtual 99, 3) := by decide +kernel
theorem dX7_begins_8 : decode cX7_begins 8 = .ok (.ifCond .eq 12, 3) := by decide +kernel
theorem dX7_begins_11 : decode cX7_begins 11 = .ok (.iload_n 2, 1) := by decide +kernel
theorem dX7_begins_12 : decode cX7_begins 12 = .ok (.iconst 0, 1) := by decide +kernel
theorem dX7_begins_13 : decode cX7_begins 13 = .ok (.iconst 2, 1) := by decide +kernel
theorem dX7_begins_14 : decode cX7_begins 14 = .ok (.invokestatic 66, 3) := by decide +kernel
theorem dX7_begins_17 : decode cX7_begins 17 = .ok (.ifCond .ne 7, 3) := by decide +kernel
theorem dX7_begins_20 : decode cX7_begins 20 = .ok (.ldc2_w 70, 3) := by decide +kernel
theorem dX7_begins_23 : decode cX7_begins 23 = .ok (.lreturn, 1) := by decide +kernel
theorem dX7_begins_24 : decode cX7_begins 24 = .ok (.aload_n 0, 1) := by decide +kernel
theorem dX7_begins_25 : decode cX7_begins 25 = .ok (.getfield 33, 3) := by decide +kernel
theorem dX7_begins_28 : decode cX7_begins 28 = .ok (.aload_n 0, 1) := by decide +kernel
theorem dX7_begins_29 : decode cX7_begins 29 = .ok (.getfield 10, 3) := by decide +kernel
theorem dX7_begins_32 : decode cX7_begins 32 = .ok (.invokevirtual 171, 3) := by decide +kernel
theorem dX7_begins_35 : decode cX7_begins 35 = .ok (.aload_n 0, 1) := by decide +kernel
theorem dX7_begins_36 : decode cX7_begins 36 = .ok (.getfield 33, 3) := by decide +kernel
theorem dX7_begins_39 : decode cX7_begins 39 = .ok (.getfield 175, 3) := by decide +kernel
theorem dX7_begins_42 : decode cX7_begins 42 = .ok (.iload_n 1, 1) := by decide +kernel
theorem dX7_begins_43 : decode cX7_begins 43 = .ok (.iaload, 1) := by decide +kernel
theorem dX7_begins_44 : decode cX7_begins 44 = .ok (.iconst (-1), 1) := by decide +kernel
theorem dX7_begins_45 : decode cX7_begins 45 = .ok (.if_icmp .ne 7, 3) := by decide +kernel
theorem dX7_begins_48 : decode cX7_begins 48 = .ok (.ldc2_w 130, 3) := by decide +kernel
theorem dX7_begins_51 : decode cX7_begins 51 = .ok (.lreturn, 1) := by decide +kernel
theorem dX7_begins_52 : decode cX7_begins 52 = .ok (.iload_n 2, 1) := by decide +kernel
theorem dX7_begins_53 : decode cX7_begins 53 = .ok (.iconst 2, 1) := by decide +kernel
theorem dX7_begins_54 : decode cX7_begins 54 = .ok (.if_icmp .ne 15, 3) := by decide +kernel
theorem dX7_begins_57 : decode cX7_begins 57 = .ok (.aload_n 0, 1) := by decide +kernel
theorem dX7_begins_58 : decode cX7_begins 58 = .ok (.getfield 10, 3) := by decide +kernel
theorem dX7_begins_61 : decode cX7_begins 61 = .ok (.iload_n 1, 1) := by decide +kernel
theorem dX7_begins_62 : decode cX7_begins 62 = .ok (.invokevirtual 178, 3) := by decide +kernel
theorem dX7_begins_65 : decode cX7_begins 65 = .ok (.invokestatic 95, 3) := by decide +kernel
theorem dX7_begins_68 : decode cX7_begins 68 = .ok (.lreturn, 1) := by decide +kernel
theorem dX7_begins_69 : decode cX7_begins 69 = .ok (.iload_n 2, 1) := by decide +kernel
theorem dX7_begins_70 : decode cX7_begins 70 = .ok (.ifCond .ne 16, 3) := by decide +kernel
theorem dX7_begins_73 : decode cX7_begins 73 = .ok (.aload_n 0, 1) := by decide +kernel
theorem dX7_begins_74 : decode cX7_begins 74 = .ok (.getfield 33, 3) := by decide +kernel
theorem dX7_begins_77 : decode cX7_begins 77 = .ok (.getfield 175, 3) := by decide +kernel
theorem dX7_begins_80 : decode cX7_begins 80 = .ok (.iload_n 1, 1) := by decide +kernel
theorem dX7_begins_81 : decode cX7_begins 81 = .ok (.iaload, 1) := by decide +kernel
theorem dX7_begins_82 : decode cX7_begins 82 = .ok (.i2l, 1) := by decide +kernel
theorem dX7_begins_83 : decode cX7_begins 83 = .ok (.goto 13, 3) := by decide +kernel
theorem dX7_begins_86 : decode cX7_begins 86 = .ok (.aload_n 0, 1) := by decide +kernel
theorem dX7_begins_87 : decode cX7_begins 87 = .ok (.getfield 33, 3) := by decide +kernel
theorem dX7_begins_90 : decode cX7_begins 90 = .ok (.getfield 181, 3) := by decide +kernel
theorem dX7_begins_93 : decode cX7_begins 93 = .ok (.iload_n 1, 1) := by decide +kernel
theorem dX7_begins_94 : decode cX7_begins 94 = .ok (.iaload, 1) := by decide +kernel
theorem dX7_begins_95 : decode cX7_begins 95 = .ok (.i2l, 1) := by decide +kernel
theorem dX7_begins_96 : decode cX7_begins 96 = .ok (.lreturn, 1) := by decide +kernel
theorem dX7_waited_0 : decode cX7_waited 0 = .ok (.aload_n 0, 1) := by decide +kernel
theorem dX7_waited_1 : decode cX7_waited 1 = .ok (.getfield 19, 3) := by decide +kernel
theorem dX7_waited_4 : decode cX7_waited 4 = .ok (.iload_n 1, 1) := by decide +kernel
theorem dX7_waited_5 : decode cX7_waited 5 = .ok (.invokevirtual 89, 3) := by decide +kernel
theorem dX7_waited_8 : decode cX7_waited 8 = .ok (.ifCond .eq 14, 3) := by decide +kernel
theorem dX7_waited_11 : decode cX7_waited 11 = .ok (.aload_n 0, 1) := by decide +kernel
theorem dX7_waited_12 : decode cX7_waited 12 = .ok (.getfield 10, 3) := by decide +kernel
theorem dX7_waited_15 : decode cX7_waited 15 = .ok (.iload_n 2, 1) := by decide +kernel
theorem dX7_waited_16 : decode cX7_waited 16 = .ok (.invokevirtual 99, 3) := by decide +kernel
theorem dX7_waited_19 : decode cX7_waited 19 = .ok (.ifCond .ne 7, 3) := by decide +kernel
theorem dX7_waited_22 : decode cX7_waited 22 = .ok (.ldc2_w 70, 3) := by decide +kernel
theorem dX7_waited_25 : decode cX7_waited 25 = .ok (.lreturn, 1) := by decide +kernel
theorem dX7_waited_26 : decode cX7_waited 26 = .ok (.aload_n 0, 1) := by decide +kernel
theorem dX7_waited_27 : decode cX7_waited 27 = .ok (.getfield 10, 3) := by decide +kernel
theorem dX7_waited_30 : decode cX7_waited 30 = .ok (.iload_n 2, 1) := by decide +kernel
theorem dX7_waited_31 : decode cX7_waited 31 = .ok (.iload_n 1, 1) := by decide +kernel
theorem dX7_waited_32 : decode cX7_waited 32 = .ok (.invokevirtual 163, 3) := by decide +kernel
theorem dX7_waited_35 : decode cX7_waited 35 = .ok (.ifCond .ne 7, 3) := by decide +kernel
theorem dX7_waited_38 : decode cX7_waited 38 = .ok (.ldc2_w 166, 3) := by decide +kernel
theorem dX7_waited_41 : decode cX7_waited 41 = .ok (.lreturn, 1) := by decide +kernel
theorem dX7_waited_42 : decode cX7_waited 42 = .ok (.aload_n 0, 1) := by decide +kernel
theorem dX7_waited_43 : decode cX7_waited 43 = .ok (.getfield 33, 3) := by decide +kernel
theorem dX7_waited_46 : decode cX7_waited 46 = .ok (.aload_n 0, 1) := by decide +kernel
theorem dX7_waited_47 : decode cX7_waited 47 = .ok (.getfield 10, 3) := by decide +kernel
theorem dX7_waited_50 : decode cX7_waited 50 = .ok (.invokevirtual 171, 3) := by decide +kernel
theorem dX7_waited_53 : decode cX7_waited 53 = .ok (.aload_n 0, 1) := by decide +kernel
theorem dX7_waited_54 : decode cX7_waited 54 = .ok (.getfield 33, 3) := by decide +kernel
theorem dX7_waited_57 : decode cX7_waited 57 = .ok (.aload_n 0, 1) := by decide +kernel
theorem dX7_waited_58 : decode cX7_waited 58 = .ok (.getfield 10, 3) := by decide +kernel
theorem dX7_waited_61 : decode cX7_waited 61 = .ok (.iload_n 1, 1) := by decide +kernel
theorem dX7_waited_62 : decode cX7_waited 62 = .ok (.iload_n 2, 1) := by decide +kernel
theorem dX7_waited_63 : decode cX7_waited 63 = .ok (.invokevirtual 184, 3) := by decide +kernel
theorem dX7_waited_66 : decode cX7_waited 66 = .ok (.i2l, 1) := by decide +kernel
theorem dX7_waited_67 : decode cX7_waited 67 = .ok (.lreturn, 1) := by decide +kernel
theorem dX7_idle_0 : decode cX7_idle 0 = .ok (.iload_n 1, 1) := by decide +kernel
theorem dX7_idle_1 : decode cX7_idle 1 = .ok (.invokestatic 62, 3) := by decide +kernel
theorem dX7_idle_4 : decode cX7_idle 4 = .ok (.ifCond .eq 12, 3) := by decide +kernel
theorem dX7_idle_7 : decode cX7_idle 7 = .ok (.iload_n 2, 1) := by decide +kernel
theorem dX7_idle_8 : decode cX7_idle 8 = .ok (.iconst 0, 1) := by decide +kernel
theorem dX7_idle_9 : decode cX7_idle 9 = .ok (.iconst 1, 1) := by decide +kernel
theorem dX7_idle_10 : decode cX7_idle 10 = .ok (.invokestatic 66, 3) := by decide +kernel
theorem dX7_idle_13 : decode cX7_idle 13 = .ok (.ifCond .ne 7, 3) := by decide +kernel
theorem dX7_idle_16 : decode cX7_idle 16 = .ok (.ldc2_w 70, 3) := by decide +kernel
theorem dX7_idle_19 : decode cX7_idle 19 = .ok (.lreturn, 1) := by decide +kernel
theorem dX7_idle_20 : decode cX7_idle 20 = .ok (.aload_n 0, 1) := by decide +kernel
theorem dX7_idle_21 : decode cX7_idle 21 = .ok (.getfield 33, 3) := by decide +kernel
theorem dX7_idle_24 : decode cX7_idle 24 = .ok (.aload_n 0, 1) := by decide +kernel
theorem dX7_idle_25 : decode cX7_idle 25 = .ok (.getfield 10, 3) := by decide +kernel
theorem dX7_idle_28 : decode cX7_idle 28 = .ok (.invokevirtual 171, 3) := by decide +kernel
theorem dX7_idle_31 : decode cX7_idle 31 = .ok (.aload_n 0, 1) := by decide +kernel
theorem dX7_idle_32 : decode cX7_idle 32 = .ok (.getfield 33, 3) := by decide +kernel
theorem dX7_idle_35 : decode cX7_idle 35 = .ok (.getfield 188, 3) := by decide +kernel
theorem dX7_idle_38 : decode cX7_idle 38 = .ok (.iload_n 1, 1) := by decide +kernel
theorem dX7_idle_39 : decode cX7_idle 39 = .ok (.iconst 2, 1) := by decide +kernel
theorem dX7_idle_40 : decode cX7_idle 40 = .ok (.imul, 1) := by decide +kernel
theorem dX7_idle_41 : decode cX7_idle 41 = .ok (.iload_n 2, 1) := by decide +kernel
theorem dX7_idle_42 : decode cX7_idle 42 = .ok (.iadd, 1) := by decide +kernel
theorem dX7_idle_43 : decode cX7_idle 43 = .ok (.iaload, 1) := by decide +kernel
theorem dX7_idle_44 : decode cX7_idle 44 = .ok (.i2l, 1) := by decide +kernel
end
section
theorem dX7_idle_45 : decode cX7_idle 45 = .ok (.lreturn, 1) := by decide +kernel
theorem dX7_waits_0 : decode cX7_waits 0 = .ok (.aload_n 0, 1) := by decide +kernel
theorem dX7_waits_1 : decode cX7_waits 1 = .ok (.getfield 33, 3) := by decide +kernel
theorem dX7_waits_4 : decode cX7_waits 4 = .ok (.aload_n 0, 1) := by decide +kernel
theorem dX7_waits_5 : decode cX7_waits 5 = .ok (.getfield 10, 3) := by decide +kernel
theorem dX7_waits_8 : decode cX7_waits 8 = .ok (.invokevirtual 171, 3) := by decide +kernel
theorem dX7_waits_11 : decode cX7_waits 11 = .ok (.lconst 0, 1) := by decide +kernel
theorem dX7_waits_12 : decode cX7_waits 12 = .ok (.lstore_n 1, 1) := by decide +kernel
theorem dX7_waits_13 : decode cX7_waits 13 = .ok (.iconst 0, 1) := by decide +kernel
theorem dX7_waits_14 : decode cX7_waits 14 = .ok (.istore_n 3, 1) := by decide +kernel
theorem dX7_waits_15 : decode cX7_waits 15 = .ok (.iload_n 3, 1) := by decide +kernel
theorem dX7_waits_16 : decode cX7_waits 16 = .ok (.aload_n 0, 1) := by decide +kernel
theorem dX7_waits_17 : decode cX7_waits 17 = .ok (.getfield 19, 3) := by decide +kernel
theorem dX7_waits_20 : decode cX7_waits 20 = .ok (.getfield 85, 3) := by decide +kernel
theorem dX7_waits_23 : decode cX7_waits 23 = .ok (.if_icmp .ge 25, 3) := by decide +kernel
theorem dX7_waits_26 : decode cX7_waits 26 = .ok (.lload_n 1, 1) := by decide +kernel
theorem dX7_waits_27 : decode cX7_waits 27 = .ok (.aload_n 0, 1) := by decide +kernel
theorem dX7_waits_28 : decode cX7_waits 28 = .ok (.getfield 33, 3) := by decide +kernel
theorem dX7_waits_31 : decode cX7_waits 31 = .ok (.aload_n 0, 1) := by decide +kernel
theorem dX7_waits_32 : decode cX7_waits 32 = .ok (.getfield 10, 3) := by decide +kernel
theorem dX7_waits_35 : decode cX7_waits 35 = .ok (.iload_n 3, 1) := by decide +kernel
theorem dX7_waits_36 : decode cX7_waits 36 = .ok (.invokevirtual 191, 3) := by decide +kernel
theorem dX7_waits_39 : decode cX7_waits 39 = .ok (.i2l, 1) := by decide +kernel
theorem dX7_waits_40 : decode cX7_waits 40 = .ok (.ladd, 1) := by decide +kernel
theorem dX7_waits_41 : decode cX7_waits 41 = .ok (.lstore_n 1, 1) := by decide +kernel
theorem dX7_waits_42 : decode cX7_waits 42 = .ok (.iinc 3 1, 3) := by decide +kernel
theorem dX7_waits_45 : decode cX7_waits 45 = .ok (.goto (-30), 3) := by decide +kernel
theorem dX7_waits_48 : decode cX7_waits 48 = .ok (.lload_n 1, 1) := by decide +kernel
theorem dX7_waits_49 : decode cX7_waits 49 = .ok (.lreturn, 1) := by decide +kernel
theorem dX7_pay_0 : decode cX7_pay 0 = .ok (.aload_n 0, 1) := by decide +kernel
theorem dX7_pay_1 : decode cX7_pay 1 = .ok (.getfield 19, 3) := by decide +kernel
theorem dX7_pay_4 : decode cX7_pay 4 = .ok (.iload_n 1, 1) := by decide +kernel
theorem dX7_pay_5 : decode cX7_pay 5 = .ok (.invokevirtual 89, 3) := by decide +kernel
theorem dX7_pay_8 : decode cX7_pay 8 = .ok (.ifCond .ne 7, 3) := by decide +kernel
theorem dX7_pay_11 : decode cX7_pay 11 = .ok (.ldc2_w 70, 3) := by decide +kernel
theorem dX7_pay_14 : decode cX7_pay 14 = .ok (.lreturn, 1) := by decide +kernel
theorem dX7_pay_15 : decode cX7_pay 15 = .ok (.aload_n 0, 1) := by decide +kernel
theorem dX7_pay_16 : decode cX7_pay 16 = .ok (.getfield 19, 3) := by decide +kernel
theorem dX7_pay_19 : decode cX7_pay 19 = .ok (.getfield 92, 3) := by decide +kernel
theorem dX7_pay_22 : decode cX7_pay 22 = .ok (.iload_n 1, 1) := by decide +kernel
theorem dX7_pay_23 : decode cX7_pay 23 = .ok (.iaload, 1) := by decide +kernel
theorem dX7_pay_24 : decode cX7_pay 24 = .ok (.istore_n 2, 1) := by decide +kernel
theorem dX7_pay_25 : decode cX7_pay 25 = .ok (.iload_n 2, 1) := by decide +kernel
theorem dX7_pay_26 : decode cX7_pay 26 = .ok (.iconst 1, 1) := by decide +kernel
theorem dX7_pay_27 : decode cX7_pay 27 = .ok (.if_icmp .eq 14, 3) := by decide +kernel
theorem dX7_pay_30 : decode cX7_pay 30 = .ok (.aload_n 0, 1) := by decide +kernel
theorem dX7_pay_31 : decode cX7_pay 31 = .ok (.getfield 10, 3) := by decide +kernel
theorem dX7_pay_34 : decode cX7_pay 34 = .ok (.iload_n 1, 1) := by decide +kernel
theorem dX7_pay_35 : decode cX7_pay 35 = .ok (.invokevirtual 195, 3) := by decide +kernel
theorem dX7_pay_38 : decode cX7_pay 38 = .ok (.ifCond .ne 5, 3) := by decide +kernel
theorem dX7_pay_41 : decode cX7_pay 41 = .ok (.lconst 0, 1) := by decide +kernel
theorem dX7_pay_42 : decode cX7_pay 42 = .ok (.lreturn, 1) := by decide +kernel
theorem dX7_pay_43 : decode cX7_pay 43 = .ok (.ldc2_w 198, 3) := by decide +kernel
theorem dX7_pay_46 : decode cX7_pay 46 = .ok (.aload_n 0, 1) := by decide +kernel
theorem dX7_pay_47 : decode cX7_pay 47 = .ok (.getfield 19, 3) := by decide +kernel
theorem dX7_pay_50 : decode cX7_pay 50 = .ok (.getfield 107, 3) := by decide +kernel
theorem dX7_pay_53 : decode cX7_pay 53 = .ok (.iload_n 1, 1) := by decide +kernel
theorem dX7_pay_54 : decode cX7_pay 54 = .ok (.iaload, 1) := by decide +kernel
theorem dX7_pay_55 : decode cX7_pay 55 = .ok (.i2l, 1) := by decide +kernel
theorem dX7_pay_56 : decode cX7_pay 56 = .ok (.lmul, 1) := by decide +kernel
theorem dX7_pay_57 : decode cX7_pay 57 = .ok (.aload_n 0, 1) := by decide +kernel
theorem dX7_pay_58 : decode cX7_pay 58 = .ok (.getfield 58, 3) := by decide +kernel
theorem dX7_pay_61 : decode cX7_pay 61 = .ok (.iconst 3, 1) := by decide +kernel
theorem dX7_pay_62 : decode cX7_pay 62 = .ok (.iaload, 1) := by decide +kernel
theorem dX7_pay_63 : decode cX7_pay 63 = .ok (.i2l, 1) := by decide +kernel
theorem dX7_pay_64 : decode cX7_pay 64 = .ok (.lmul, 1) := by decide +kernel
theorem dX7_pay_65 : decode cX7_pay 65 = .ok (.lstore_n 3, 1) := by decide +kernel
theorem dX7_pay_66 : decode cX7_pay 66 = .ok (.iload_n 2, 1) := by decide +kernel
theorem dX7_pay_67 : decode cX7_pay 67 = .ok (.iconst 3, 1) := by decide +kernel
theorem dX7_pay_68 : decode cX7_pay 68 = .ok (.if_icmp .eq 8, 3) := by decide +kernel
theorem dX7_pay_71 : decode cX7_pay 71 = .ok (.iload_n 2, 1) := by decide +kernel
theorem dX7_pay_72 : decode cX7_pay 72 = .ok (.iconst 4, 1) := by decide +kernel
theorem dX7_pay_73 : decode cX7_pay 73 = .ok (.if_icmp .ne 5, 3) := by decide +kernel
theorem dX7_pay_76 : decode cX7_pay 76 = .ok (.lload_n 3, 1) := by decide +kernel
theorem dX7_pay_77 : decode cX7_pay 77 = .ok (.lreturn, 1) := by decide +kernel
theorem dX7_pay_78 : decode cX7_pay 78 = .ok (.aload_n 0, 1) := by decide +kernel
theorem dX7_pay_79 : decode cX7_pay 79 = .ok (.getfield 33, 3) := by decide +kernel
theorem dX7_pay_82 : decode cX7_pay 82 = .ok (.aload_n 0, 1) := by decide +kernel
theorem dX7_pay_83 : decode cX7_pay 83 = .ok (.getfield 10, 3) := by decide +kernel
theorem dX7_pay_86 : decode cX7_pay 86 = .ok (.invokevirtual 171, 3) := by decide +kernel
theorem dX7_pay_89 : decode cX7_pay 89 = .ok (.aload_n 0, 1) := by decide +kernel
theorem dX7_pay_90 : decode cX7_pay 90 = .ok (.getfield 33, 3) := by decide +kernel
theorem dX7_pay_93 : decode cX7_pay 93 = .ok (.aload_n 0, 1) := by decide +kernel
theorem dX7_pay_94 : decode cX7_pay 94 = .ok (.getfield 10, 3) := by decide +kernel
theorem dX7_pay_97 : decode cX7_pay 97 = .ok (.iload_n 1, 1) := by decide +kernel
theorem dX7_pay_98 : decode cX7_pay 98 = .ok (.invokevirtual 191, 3) := by decide +kernel
theorem dX7_pay_101 : decode cX7_pay 101 = .ok (.iconst 4, 1) := by decide +kernel
theorem dX7_pay_102 : decode cX7_pay 102 = .ok (.idiv, 1) := by decide +kernel
theorem dX7_pay_103 : decode cX7_pay 103 = .ok (.i2l, 1) := by decide +kernel
theorem dX7_pay_104 : decode cX7_pay 104 = .ok (.lstore 5, 2) := by decide +kernel
theorem dX7_pay_106 : decode cX7_pay 106 = .ok (.iload_n 2, 1) := by decide +kernel
theorem dX7_pay_107 : decode cX7_pay 107 = .ok (.iconst 2, 1) := by decide +kernel
theorem dX7_pay_108 : decode cX7_pay 108 = .ok (.if_icmp .ne 27, 3) := by decide +kernel
theorem dX7_pay_111 : decode cX7_pay 111 = .ok (.aload_n 0, 1) := by decide +kernel
theorem dX7_pay_112 : decode cX7_pay 112 = .ok (.getfield 33, 3) := by decide +kernel
theorem dX7_pay_115 : decode cX7_pay 115 = .ok (.aload_n 0, 1) := by decide +kernel
theorem dX7_pay_116 : decode cX7_pay 116 = .ok (.getfield 10, 3) := by decide +kernel
theorem dX7_pay_119 : decode cX7_pay 119 = .ok (.iload_n 1, 1) := by decide +kernel
theorem dX7_pay_120 : decode cX7_pay 120 = .ok (.invokevirtual 200, 3) := by decide +kernel
theorem dX7_pay_123 : decode cX7_pay 123 = .ok (.i2l, 1) := by decide +kernel
theorem dX7_pay_124 : decode cX7_pay 124 = .ok (.aload_n 0, 1) := by decide +kernel
theorem dX7_pay_125 : decode cX7_pay 125 = .ok (.getfield 58, 3) := by decide +kernel
theorem dX7_pay_128 : decode cX7_pay 128 = .ok (.iconst 4, 1) := by decide +kernel
theorem dX7_pay_129 : decode cX7_pay 129 = .ok (.iaload, 1) := by decide +kernel
theorem dX7_pay_130 : decode cX7_pay 130 = .ok (.i2l, 1) := by decide +kernel
theorem dX7_pay_131 : decode cX7_pay 131 = .ok (.lmul, 1) := by decide +kernel
theorem dX7_pay_132 : decode cX7_pay 132 = .ok (.goto 4, 3) := by decide +kernel
theorem dX7_pay_135 : decode cX7_pay 135 = .ok (.lconst 0, 1) := by decide +kernel
theorem dX7_pay_136 : decode cX7_pay 136 = .ok (.lstore 7, 2) := by decide +kernel
theorem dX7_pay_138 : decode cX7_pay 138 = .ok (.lload 5, 2) := by decide +kernel
theorem dX7_pay_140 : decode cX7_pay 140 = .ok (.aload_n 0, 1) := by decide +kernel
theorem dX7_pay_141 : decode cX7_pay 141 = .ok (.getfield 58, 3) := by decide +kernel
theorem dX7_pay_144 : decode cX7_pay 144 = .ok (.iconst 2, 1) := by decide +kernel
theorem dX7_pay_145 : decode cX7_pay 145 = .ok (.iaload, 1) := by decide +kernel
theorem dX7_pay_146 : decode cX7_pay 146 = .ok (.i2l, 1) := by decide +kernel
theorem dX7_pay_147 : decode cX7_pay 147 = .ok (.lmul, 1) := by decide +kernel
theorem dX7_pay_148 : decode cX7_pay 148 = .ok (.lload_n 3, 1) := by decide +kernel
theorem dX7_pay_149 : decode cX7_pay 149 = .ok (.ladd, 1) := by decide +kernel
theorem dX7_pay_150 : decode cX7_pay 150 = .ok (.lload 7, 2) := by decide +kernel
theorem dX7_pay_152 : decode cX7_pay 152 = .ok (.ladd, 1) := by decide +kernel
theorem dX7_pay_153 : decode cX7_pay 153 = .ok (.lreturn, 1) := by decide +kernel
theorem dX7_apart_0 : decode cX7_apart 0 = .ok (.aload_n 0, 1) := by decide +kernel
theorem dX7_apart_1 : decode cX7_apart 1 = .ok (.getfield 19, 3) := by decide +kernel
theorem dX7_apart_4 : decode cX7_apart 4 = .ok (.iload_n 1, 1) := by decide +kernel
theorem dX7_apart_5 : decode cX7_apart 5 = .ok (.invokevirtual 89, 3) := by decide +kernel
theorem dX7_apart_8 : decode cX7_apart 8 = .ok (.ifCond .eq 28, 3) := by decide +kernel
theorem dX7_apart_11 : decode cX7_apart 11 = .ok (.aload_n 0, 1) := by decide +kernel
theorem dX7_apart_12 : decode cX7_apart 12 = .ok (.getfield 19, 3) := by decide +kernel
theorem dX7_apart_15 : decode cX7_apart 15 = .ok (.iload_n 2, 1) := by decide +kernel
theorem dX7_apart_16 : decode cX7_apart 16 = .ok (.invokevirtual 89, 3) := by decide +kernel
theorem dX7_apart_19 : decode cX7_apart 19 = .ok (.ifCond .eq 17, 3) := by decide +kernel
theorem dX7_apart_22 : decode cX7_apart 22 = .ok (.iload_n 1, 1) := by decide +kernel
theorem dX7_apart_23 : decode cX7_apart 23 = .ok (.iload_n 2, 1) := by decide +kernel
theorem dX7_apart_24 : decode cX7_apart 24 = .ok (.if_icmp .eq 12, 3) := by decide +kernel
theorem dX7_apart_27 : decode cX7_apart 27 = .ok (.iload_n 3, 1) := by decide +kernel
theorem dX7_apart_28 : decode cX7_apart 28 = .ok (.iconst 0, 1) := by decide +kernel
theorem dX7_apart_29 : decode cX7_apart 29 = .ok (.iconst 1, 1) := by decide +kernel
theorem dX7_apart_30 : decode cX7_apart 30 = .ok (.invokestatic 66, 3) := by decide +kernel
theorem dX7_apart_33 : decode cX7_apart 33 = .ok (.ifCond .ne 7, 3) := by decide +kernel
theorem dX7_apart_36 : decode cX7_apart 36 = .ok (.ldc2_w 70, 3) := by decide +kernel
theorem dX7_apart_39 : decode cX7_apart 39 = .ok (.lreturn, 1) := by decide +kernel
theorem dX7_apart_40 : decode cX7_apart 40 = .ok (.aload_n 0, 1) := by decide +kernel
theorem dX7_apart_41 : decode cX7_apart 41 = .ok (.getfield 19, 3) := by decide +kernel
theorem dX7_apart_44 : decode cX7_apart 44 = .ok (.iload_n 1, 1) := by decide +kernel
theorem dX7_apart_45 : decode cX7_apart 45 = .ok (.iload_n 2, 1) := by decide +kernel
theorem dX7_apart_46 : decode cX7_apart 46 = .ok (.invokevirtual 203, 3) := by decide +kernel
theorem dX7_apart_49 : decode cX7_apart 49 = .ok (.istore 4, 2) := by decide +kernel
theorem dX7_apart_51 : decode cX7_apart 51 = .ok (.aload_n 0, 1) := by decide +kernel
theorem dX7_apart_52 : decode cX7_apart 52 = .ok (.getfield 19, 3) := by decide +kernel
theorem dX7_apart_55 : decode cX7_apart 55 = .ok (.iload_n 1, 1) := by decide +kernel
theorem dX7_apart_56 : decode cX7_apart 56 = .ok (.iload_n 2, 1) := by decide +kernel
theorem dX7_apart_57 : decode cX7_apart 57 = .ok (.iload_n 3, 1) := by decide +kernel
theorem dX7_apart_58 : decode cX7_apart 58 = .ok (.iconst 1, 1) := by decide +kernel
theorem dX7_apart_59 : decode cX7_apart 59 = .ok (.if_icmp .ne 7, 3) := by decide +kernel
theorem dX7_apart_62 : decode cX7_apart 62 = .ok (.iconst 1, 1) := by decide +kernel
theorem dX7_apart_63 : decode cX7_apart 63 = .ok (.goto 4, 3) := by decide +kernel
theorem dX7_apart_66 : decode cX7_apart 66 = .ok (.iconst 0, 1) := by decide +kernel
theorem dX7_apart_67 : decode cX7_apart 67 = .ok (.invokevirtual 206, 3) := by decide +kernel
theorem dX7_apart_70 : decode cX7_apart 70 = .ok (.iload 4, 2) := by decide +kernel
theorem dX7_apart_72 : decode cX7_apart 72 = .ok (.invokestatic 95, 3) := by decide +kernel
theorem dX7_apart_75 : decode cX7_apart 75 = .ok (.lreturn, 1) := by decide +kernel
theorem dX7_room_0 : decode cX7_room 0 = .ok (.aload_n 0, 1) := by decide +kernel
theorem dX7_room_1 : decode cX7_room 1 = .ok (.getfield 19, 3) := by decide +kernel
theorem dX7_room_4 : decode cX7_room 4 = .ok (.iload_n 1, 1) := by decide +kernel
theorem dX7_room_5 : decode cX7_room 5 = .ok (.invokevirtual 89, 3) := by decide +kernel
theorem dX7_room_8 : decode cX7_room 8 = .ok (.ifCond .ne 7, 3) := by decide +kernel
theorem dX7_room_11 : decode cX7_room 11 = .ok (.ldc2_w 70, 3) := by decide +kernel
theorem dX7_room_14 : decode cX7_room 14 = .ok (.lreturn, 1) := by decide +kernel
theorem dX7_room_15 : decode cX7_room 15 = .ok (.aload_n 0, 1) := by decide +kernel
theorem dX7_room_16 : decode cX7_room 16 = .ok (.getfield 33, 3) := by decide +kernel
theorem dX7_room_19 : decode cX7_room 19 = .ok (.aload_n 0, 1) := by decide +kernel
theorem dX7_room_20 : decode cX7_room 20 = .ok (.getfield 10, 3) := by decide +kernel
theorem dX7_room_23 : decode cX7_room 23 = .ok (.invokevirtual 171, 3) := by decide +kernel
theorem dX7_room_26 : decode cX7_room 26 = .ok (.aload_n 0, 1) := by decide +kernel
theorem dX7_room_27 : decode cX7_room 27 = .ok (.getfield 40, 3) := by decide +kernel
theorem dX7_room_30 : decode cX7_room 30 = .ok (.aload_n 0, 1) := by decide +kernel
theorem dX7_room_31 : decode cX7_room 31 = .ok (.getfield 19, 3) := by decide +kernel
theorem dX7_room_34 : decode cX7_room 34 = .ok (.aload_n 0, 1) := by decide +kernel
theorem dX7_room_35 : decode cX7_room 35 = .ok (.getfield 10, 3) := by decide +kernel
theorem dX7_room_38 : decode cX7_room 38 = .ok (.aload_n 0, 1) := by decide +kernel
theorem dX7_room_39 : decode cX7_room 39 = .ok (.getfield 33, 3) := by decide +kernel
theorem dX7_room_42 : decode cX7_room 42 = .ok (.invokevirtual 210, 3) := by decide +kernel
theorem dX7_room_45 : decode cX7_room 45 = .ok (.ifCond .ne 7, 3) := by decide +kernel
theorem dX7_room_48 : decode cX7_room 48 = .ok (.ldc2_w 166, 3) := by decide +kernel
theorem dX7_room_51 : decode cX7_room 51 = .ok (.lreturn, 1) := by decide +kernel
theorem dX7_room_52 : decode cX7_room 52 = .ok (.aload_n 0, 1) := by decide +kernel
theorem dX7_room_53 : decode cX7_room 53 = .ok (.getfield 40, 3) := by decide +kernel
theorem dX7_room_56 : decode cX7_room 56 = .ok (.getfield 214, 3) := by decide +kernel
theorem dX7_room_59 : decode cX7_room 59 = .ok (.iload_n 1, 1) := by decide +kernel
theorem dX7_room_60 : decode cX7_room 60 = .ok (.iaload, 1) := by decide +kernel
theorem dX7_room_61 : decode cX7_room 61 = .ok (.iconst (-1), 1) := by decide +kernel
theorem dX7_room_62 : decode cX7_room 62 = .ok (.if_icmp .ne 9, 3) := by decide +kernel
theorem dX7_room_65 : decode cX7_room 65 = .ok (.ldc2_w 130, 3) := by decide +kernel
theorem dX7_room_68 : decode cX7_room 68 = .ok (.goto 13, 3) := by decide +kernel
theorem dX7_room_71 : decode cX7_room 71 = .ok (.aload_n 0, 1) := by decide +kernel
theorem dX7_room_72 : decode cX7_room 72 = .ok (.getfield 40, 3) := by decide +kernel
theorem dX7_room_75 : decode cX7_room 75 = .ok (.getfield 214, 3) := by decide +kernel
theorem dX7_room_78 : decode cX7_room 78 = .ok (.iload_n 1, 1) := by decide +kernel
theorem dX7_room_79 : decode cX7_room 79 = .ok (.iaload, 1) := by decide +kernel
theorem dX7_room_80 : decode cX7_room 80 = .ok (.i2l, 1) := by decide +kernel
theorem dX7_room_81 : decode cX7_room 81 = .ok (.lreturn, 1) := by decide +kernel
theorem dX7_move_0 : decode cX7_move 0 = .ok (.aload_n 0, 1) := by decide +kernel
theorem dX7_move_1 : decode cX7_move 1 = .ok (.getfield 10, 3) := by decide +kernel
theorem dX7_move_4 : decode cX7_move 4 = .ok (.iload_n 1, 1) := by decide +kernel
theorem dX7_move_5 : decode cX7_move 5 = .ok (.invokevirtual 99, 3) := by decide +kernel
theorem dX7_move_8 : decode cX7_move 8 = .ok (.ifCond .eq 10, 3) := by decide +kernel
theorem dX7_move_11 : decode cX7_move 11 = .ok (.iload_n 2, 1) := by decide +kernel
theorem dX7_move_12 : decode cX7_move 12 = .ok (.invokestatic 62, 3) := by decide +kernel
theorem dX7_move_15 : decode cX7_move 15 = .ok (.ifCond .ne 7, 3) := by decide +kernel
theorem dX7_move_18 : decode cX7_move 18 = .ok (.ldc2_w 70, 3) := by decide +kernel
theorem dX7_move_21 : decode cX7_move 21 = .ok (.lreturn, 1) := by decide +kernel
theorem dX7_move_22 : decode cX7_move 22 = .ok (.aload_n 0, 1) := by decide +kernel
theorem dX7_move_23 : decode cX7_move 23 = .ok (.getfield 10, 3) := by decide +kernel
theorem dX7_move_26 : decode cX7_move 26 = .ok (.getfield 117, 3) := by decide +kernel
theorem dX7_move_29 : decode cX7_move 29 = .ok (.iload_n 1, 1) := by decide +kernel
theorem dX7_move_30 : decode cX7_move 30 = .ok (.iaload, 1) := by decide +kernel
theorem dX7_move_31 : decode cX7_move 31 = .ok (.iload_n 2, 1) := by decide +kernel
theorem dX7_move_32 : decode cX7_move 32 = .ok (.if_icmp .eq 21, 3) := by decide +kernel
theorem dX7_move_35 : decode cX7_move 35 = .ok (.aload_n 0, 1) := by decide +kernel
theorem dX7_move_36 : decode cX7_move 36 = .ok (.getfield 10, 3) := by decide +kernel
theorem dX7_move_39 : decode cX7_move 39 = .ok (.getfield 76, 3) := by decide +kernel
theorem dX7_move_42 : decode cX7_move 42 = .ok (.iload_n 2, 1) := by decide +kernel
theorem dX7_move_43 : decode cX7_move 43 = .ok (.iaload, 1) := by decide +kernel
theorem dX7_move_44 : decode cX7_move 44 = .ok (.bipush 6, 2) := by decide +kernel
theorem dX7_move_46 : decode cX7_move 46 = .ok (.if_icmp .lt 7, 3) := by decide +kernel
theorem dX7_move_49 : decode cX7_move 49 = .ok (.ldc2_w 79, 3) := by decide +kernel
theorem dX7_move_52 : decode cX7_move 52 = .ok (.lreturn, 1) := by decide +kernel
theorem dX7_move_53 : decode cX7_move 53 = .ok (.aload_n 0, 1) := by decide +kernel
theorem dX7_move_54 : decode cX7_move 54 = .ok (.getfield 10, 3) := by decide +kernel
theorem dX7_move_57 : decode cX7_move 57 = .ok (.iload_n 1, 1) := by decide +kernel
theorem dX7_move_58 : decode cX7_move 58 = .ok (.invokevirtual 217, 3) := by decide +kernel
theorem dX7_move_61 : decode cX7_move 61 = .ok (.aload_n 0, 1) := by decide +kernel
theorem dX7_move_62 : decode cX7_move 62 = .ok (.getfield 10, 3) := by decide +kernel
theorem dX7_move_65 : decode cX7_move 65 = .ok (.iload_n 1, 1) := by decide +kernel
theorem dX7_move_66 : decode cX7_move 66 = .ok (.iload_n 2, 1) := by decide +kernel
theorem dX7_move_67 : decode cX7_move 67 = .ok (.invokevirtual 221, 3) := by decide +kernel
theorem dX7_move_70 : decode cX7_move 70 = .ok (.iconst 0, 1) := by decide +kernel
theorem dX7_move_71 : decode cX7_move 71 = .ok (.istore_n 3, 1) := by decide +kernel
theorem dX7_move_72 : decode cX7_move 72 = .ok (.iload_n 3, 1) := by decide +kernel
theorem dX7_move_73 : decode cX7_move 73 = .ok (.aload_n 0, 1) := by decide +kernel
theorem dX7_move_74 : decode cX7_move 74 = .ok (.getfield 19, 3) := by decide +kernel
theorem dX7_move_77 : decode cX7_move 77 = .ok (.getfield 85, 3) := by decide +kernel
theorem dX7_move_80 : decode cX7_move 80 = .ok (.if_icmp .ge 30, 3) := by decide +kernel
theorem dX7_move_83 : decode cX7_move 83 = .ok (.aload_n 0, 1) := by decide +kernel
theorem dX7_move_84 : decode cX7_move 84 = .ok (.getfield 10, 3) := by decide +kernel
theorem dX7_move_87 : decode cX7_move 87 = .ok (.iload_n 1, 1) := by decide +kernel
theorem dX7_move_88 : decode cX7_move 88 = .ok (.iload_n 3, 1) := by decide +kernel
theorem dX7_move_89 : decode cX7_move 89 = .ok (.invokevirtual 163, 3) := by decide +kernel
theorem dX7_move_92 : decode cX7_move 92 = .ok (.ifCond .eq 12, 3) := by decide +kernel
theorem dX7_move_95 : decode cX7_move 95 = .ok (.aload_n 0, 1) := by decide +kernel
theorem dX7_move_96 : decode cX7_move 96 = .ok (.getfield 47, 3) := by decide +kernel
theorem dX7_move_99 : decode cX7_move 99 = .ok (.iload_n 3, 1) := by decide +kernel
theorem dX7_move_100 : decode cX7_move 100 = .ok (.iload_n 1, 1) := by decide +kernel
theorem dX7_move_101 : decode cX7_move 101 = .ok (.invokevirtual 225, 3) := by decide +kernel
theorem dX7_move_104 : decode cX7_move 104 = .ok (.iinc 3 1, 3) := by decide +kernel
theorem dX7_move_107 : decode cX7_move 107 = .ok (.goto (-35), 3) := by decide +kernel
theorem dX7_move_110 : decode cX7_move 110 = .ok (.aload_n 0, 1) := by decide +kernel
theorem dX7_move_111 : decode cX7_move 111 = .ok (.getfield 10, 3) := by decide +kernel
theorem dX7_move_114 : decode cX7_move 114 = .ok (.iload_n 1, 1) := by decide +kernel
theorem dX7_move_115 : decode cX7_move 115 = .ok (.invokevirtual 120, 3) := by decide +kernel
theorem dX7_move_118 : decode cX7_move 118 = .ok (.i2l, 1) := by decide +kernel
theorem dX7_move_119 : decode cX7_move 119 = .ok (.lreturn, 1) := by decide +kernel
theorem dX7_notice_0 : decode cX7_notice 0 = .ok (.iload_n 1, 1) := by decide +kernel
theorem dX7_notice_1 : decode cX7_notice 1 = .ok (.iconst 0, 1) := by decide +kernel
theorem dX7_notice_2 : decode cX7_notice 2 = .ok (.aload_n 0, 1) := by decide +kernel
theorem dX7_notice_3 : decode cX7_notice 3 = .ok (.getfield 47, 3) := by decide +kernel
theorem dX7_notice_6 : decode cX7_notice 6 = .ok (.getfield 228, 3) := by decide +kernel
theorem dX7_notice_9 : decode cX7_notice 9 = .ok (.iconst 1, 1) := by decide +kernel
theorem dX7_notice_10 : decode cX7_notice 10 = .ok (.isub, 1) := by decide +kernel
theorem dX7_notice_11 : decode cX7_notice 11 = .ok (.invokestatic 66, 3) := by decide +kernel
theorem dX7_notice_14 : decode cX7_notice 14 = .ok (.ifCond .ne 7, 3) := by decide +kernel
theorem dX7_notice_17 : decode cX7_notice 17 = .ok (.ldc2_w 70, 3) := by decide +kernel
theorem dX7_notice_20 : decode cX7_notice 20 = .ok (.lreturn, 1) := by decide +kernel
theorem dX7_notice_21 : decode cX7_notice 21 = .ok (.iload_n 2, 1) := by decide +kernel
theorem dX7_notice_22 : decode cX7_notice 22 = .ok (.tableswitch 61 0 2 #[26, 37, 48], 26) := by decide +kernel
theorem dX7_notice_48 : decode cX7_notice 48 = .ok (.aload_n 0, 1) := by decide +kernel
theorem dX7_notice_49 : decode cX7_notice 49 = .ok (.getfield 47, 3) := by decide +kernel
theorem dX7_notice_52 : decode cX7_notice 52 = .ok (.getfield 229, 3) := by decide +kernel
theorem dX7_notice_55 : decode cX7_notice 55 = .ok (.iload_n 1, 1) := by decide +kernel
theorem dX7_notice_56 : decode cX7_notice 56 = .ok (.iaload, 1) := by decide +kernel
theorem dX7_notice_57 : decode cX7_notice 57 = .ok (.i2l, 1) := by decide +kernel
theorem dX7_notice_58 : decode cX7_notice 58 = .ok (.lreturn, 1) := by decide +kernel
theorem dX7_notice_59 : decode cX7_notice 59 = .ok (.aload_n 0, 1) := by decide +kernel
theorem dX7_notice_60 : decode cX7_notice 60 = .ok (.getfield 47, 3) := by decide +kernel
theorem dX7_notice_63 : decode cX7_notice 63 = .ok (.getfield 232, 3) := by decide +kernel
theorem dX7_notice_66 : decode cX7_notice 66 = .ok (.iload_n 1, 1) := by decide +kernel
theorem dX7_notice_67 : decode cX7_notice 67 = .ok (.iaload, 1) := by decide +kernel
theorem dX7_notice_68 : decode cX7_notice 68 = .ok (.i2l, 1) := by decide +kernel
theorem dX7_notice_69 : decode cX7_notice 69 = .ok (.lreturn, 1) := by decide +kernel
theorem dX7_notice_70 : decode cX7_notice 70 = .ok (.aload_n 0, 1) := by decide +kernel
theorem dX7_notice_71 : decode cX7_notice 71 = .ok (.getfield 47, 3) := by decide +kernel
theorem dX7_notice_74 : decode cX7_notice 74 = .ok (.getfield 235, 3) := by decide +kernel
theorem dX7_notice_77 : decode cX7_notice 77 = .ok (.iload_n 1, 1) := by decide +kernel
theorem dX7_notice_78 : decode cX7_notice 78 = .ok (.baload, 1) := by decide +kernel
theorem dX7_notice_79 : decode cX7_notice 79 = .ok (.invokestatic 95, 3) := by decide +kernel
theorem dX7_notice_82 : decode cX7_notice 82 = .ok (.lreturn, 1) := by decide +kernel
theorem dX7_notice_83 : decode cX7_notice 83 = .ok (.ldc2_w 70, 3) := by decide +kernel
theorem dX7_notice_86 : decode cX7_notice 86 = .ok (.lreturn, 1) := by decide +kernel
theorem dX7_read_0 : decode cX7_read 0 = .ok (.aload_n 0, 1) := by decide +kernel
theorem dX7_read_1 : decode cX7_read 1 = .ok (.getfield 19, 3) := by decide +kernel
theorem dX7_read_4 : decode cX7_read 4 = .ok (.iload_n 1, 1) := by decide +kernel
theorem dX7_read_5 : decode cX7_read 5 = .ok (.invokevirtual 89, 3) := by decide +kernel
theorem dX7_read_8 : decode cX7_read 8 = .ok (.ifCond .ne 7, 3) := by decide +kernel
theorem dX7_read_11 : decode cX7_read 11 = .ok (.ldc2_w 70, 3) := by decide +kernel
theorem dX7_read_14 : decode cX7_read 14 = .ok (.lreturn, 1) := by decide +kernel
theorem dX7_read_15 : decode cX7_read 15 = .ok (.aload_n 0, 1) := by decide +kernel
theorem dX7_read_16 : decode cX7_read 16 = .ok (.getfield 47, 3) := by decide +kernel
theorem dX7_read_19 : decode cX7_read 19 = .ok (.iload_n 1, 1) := by decide +kernel
theorem dX7_read_20 : decode cX7_read 20 = .ok (.invokevirtual 239, 3) := by decide +kernel
theorem dX7_read_23 : decode cX7_read 23 = .ok (.i2l, 1) := by decide +kernel
theorem dX7_read_24 : decode cX7_read 24 = .ok (.lreturn, 1) := by decide +kernel
theorem dX7_sheet_0 : decode cX7_sheet 0 = .ok (.iload_n 1, 1) := by decide +kernel
theorem dX7_sheet_1 : decode cX7_sheet 1 = .ok (.invokestatic 242, 3) := by decide +kernel
theorem dX7_sheet_4 : decode cX7_sheet 4 = .ok (.ifCond .eq 9, 3) := by decide +kernel
theorem dX7_sheet_7 : decode cX7_sheet 7 = .ok (.iload_n 2, 1) := by decide +kernel
theorem dX7_sheet_8 : decode cX7_sheet 8 = .ok (.bipush 12, 2) := by decide +kernel
theorem dX7_sheet_10 : decode cX7_sheet 10 = .ok (.if_icmp .le 7, 3) := by decide +kernel
theorem dX7_sheet_13 : decode cX7_sheet 13 = .ok (.ldc2_w 70, 3) := by decide +kernel
theorem dX7_sheet_16 : decode cX7_sheet 16 = .ok (.lreturn, 1) := by decide +kernel
theorem dX7_sheet_17 : decode cX7_sheet 17 = .ok (.iload_n 2, 1) := by decide +kernel
theorem dX7_sheet_18 : decode cX7_sheet 18 = .ok (.ifCond .ge 7, 3) := by decide +kernel
theorem dX7_sheet_21 : decode cX7_sheet 21 = .ok (.ldc2_w 245, 3) := by decide +kernel
theorem dX7_sheet_24 : decode cX7_sheet 24 = .ok (.lreturn, 1) := by decide +kernel
theorem dX7_sheet_25 : decode cX7_sheet 25 = .ok (.aload_n 0, 1) := by decide +kernel
theorem dX7_sheet_26 : decode cX7_sheet 26 = .ok (.getfield 54, 3) := by decide +kernel
theorem dX7_sheet_29 : decode cX7_sheet 29 = .ok (.iload_n 1, 1) := by decide +kernel
theorem dX7_sheet_30 : decode cX7_sheet 30 = .ok (.iload_n 2, 1) := by decide +kernel
theorem dX7_sheet_31 : decode cX7_sheet 31 = .ok (.invokevirtual 247, 3) := by decide +kernel
theorem dX7_sheet_34 : decode cX7_sheet 34 = .ok (.iload_n 2, 1) := by decide +kernel
theorem dX7_sheet_35 : decode cX7_sheet 35 = .ok (.i2l, 1) := by decide +kernel
theorem dX7_sheet_36 : decode cX7_sheet 36 = .ok (.lreturn, 1) := by decide +kernel
theorem dX7_mark_0 : decode cX7_mark 0 = .ok (.iload_n 1, 1) := by decide +kernel
theorem dX7_mark_1 : decode cX7_mark 1 = .ok (.invokestatic 242, 3) := by decide +kernel
theorem dX7_mark_4 : decode cX7_mark 4 = .ok (.ifCond .ne 7, 3) := by decide +kernel
theorem dX7_mark_7 : decode cX7_mark 7 = .ok (.ldc2_w 70, 3) := by decide +kernel
theorem dX7_mark_10 : decode cX7_mark 10 = .ok (.lreturn, 1) := by decide +kernel
theorem dX7_mark_11 : decode cX7_mark 11 = .ok (.aload_n 0, 1) := by decide +kernel
theorem dX7_mark_12 : decode cX7_mark 12 = .ok (.getfield 54, 3) := by decide +kernel
theorem dX7_mark_15 : decode cX7_mark 15 = .ok (.iload_n 1, 1) := by decide +kernel
theorem dX7_mark_16 : decode cX7_mark 16 = .ok (.invokevirtual 250, 3) := by decide +kernel
theorem dX7_mark_19 : decode cX7_mark 19 = .ok (.ifCond .eq 7, 3) := by decide +kernel
theorem dX7_mark_22 : decode cX7_mark 22 = .ok (.ldc2_w 253, 3) := by decide +kernel
theorem dX7_mark_25 : decode cX7_mark 25 = .ok (.lreturn, 1) := by decide +kernel
theorem dX7_mark_26 : decode cX7_mark 26 = .ok (.aload_n 0, 1) := by decide +kernel
theorem dX7_mark_27 : decode cX7_mark 27 = .ok (.getfield 54, 3) := by decide +kernel
theorem dX7_mark_30 : decode cX7_mark 30 = .ok (.iload_n 1, 1) := by decide +kernel
theorem dX7_mark_31 : decode cX7_mark 31 = .ok (.iload_n 2, 1) := by decide +kernel
theorem dX7_mark_32 : decode cX7_mark 32 = .ok (.iconst 1, 1) := by decide +kernel
theorem dX7_mark_33 : decode cX7_mark 33 = .ok (.invokevirtual 255, 3) := by decide +kernel
theorem dX7_mark_36 : decode cX7_mark 36 = .ok (.ifCond .ne 7, 3) := by decide +kernel
theorem dX7_mark_39 : decode cX7_mark 39 = .ok (.ldc2_w 258, 3) := by decide +kernel
theorem dX7_mark_42 : decode cX7_mark 42 = .ok (.lreturn, 1) := by decide +kernel
theorem dX7_mark_43 : decode cX7_mark 43 = .ok (.aload_n 0, 1) := by decide +kernel
theorem dX7_mark_44 : decode cX7_mark 44 = .ok (.getfield 54, 3) := by decide +kernel
theorem dX7_mark_47 : decode cX7_mark 47 = .ok (.iload_n 1, 1) := by decide +kernel
theorem dX7_mark_48 : decode cX7_mark 48 = .ok (.iload_n 2, 1) := by decide +kernel
theorem dX7_mark_49 : decode cX7_mark 49 = .ok (.invokevirtual 260, 3) := by decide +kernel
theorem dX7_mark_52 : decode cX7_mark 52 = .ok (.istore 4, 2) := by decide +kernel
theorem dX7_mark_54 : decode cX7_mark 54 = .ok (.aload_n 0, 1) := by decide +kernel
theorem dX7_mark_55 : decode cX7_mark 55 = .ok (.getfield 54, 3) := by decide +kernel
theorem dX7_mark_58 : decode cX7_mark 58 = .ok (.iload_n 1, 1) := by decide +kernel
theorem dX7_mark_59 : decode cX7_mark 59 = .ok (.iload_n 2, 1) := by decide +kernel
theorem dX7_mark_60 : decode cX7_mark 60 = .ok (.iload_n 3, 1) := by decide +kernel
theorem dX7_mark_61 : decode cX7_mark 61 = .ok (.i2b, 1) := by decide +kernel
theorem dX7_mark_62 : decode cX7_mark 62 = .ok (.invokevirtual 263, 3) := by decide +kernel
theorem dX7_mark_65 : decode cX7_mark 65 = .ok (.iload 4, 2) := by decide +kernel
theorem dX7_mark_67 : decode cX7_mark 67 = .ok (.i2l, 1) := by decide +kernel
theorem dX7_mark_68 : decode cX7_mark 68 = .ok (.lreturn, 1) := by decide +kernel
theorem dX7_copy_0 : decode cX7_copy 0 = .ok (.iload_n 1, 1) := by decide +kernel
theorem dX7_copy_1 : decode cX7_copy 1 = .ok (.invokestatic 242, 3) := by decide +kernel
theorem dX7_copy_4 : decode cX7_copy 4 = .ok (.ifCond .eq 10, 3) := by decide +kernel
theorem dX7_copy_7 : decode cX7_copy 7 = .ok (.iload_n 3, 1) := by decide +kernel
theorem dX7_copy_8 : decode cX7_copy 8 = .ok (.invokestatic 242, 3) := by decide +kernel
theorem dX7_copy_11 : decode cX7_copy 11 = .ok (.ifCond .ne 7, 3) := by decide +kernel
theorem dX7_copy_14 : decode cX7_copy 14 = .ok (.ldc2_w 70, 3) := by decide +kernel
theorem dX7_copy_17 : decode cX7_copy 17 = .ok (.lreturn, 1) := by decide +kernel
theorem dX7_copy_18 : decode cX7_copy 18 = .ok (.aload_n 0, 1) := by decide +kernel
theorem dX7_copy_19 : decode cX7_copy 19 = .ok (.getfield 54, 3) := by decide +kernel
theorem dX7_copy_22 : decode cX7_copy 22 = .ok (.iload_n 1, 1) := by decide +kernel
theorem dX7_copy_23 : decode cX7_copy 23 = .ok (.invokevirtual 250, 3) := by decide +kernel
theorem dX7_copy_26 : decode cX7_copy 26 = .ok (.ifCond .ne 14, 3) := by decide +kernel
theorem dX7_copy_29 : decode cX7_copy 29 = .ok (.aload_n 0, 1) := by decide +kernel
theorem dX7_copy_30 : decode cX7_copy 30 = .ok (.getfield 54, 3) := by decide +kernel
theorem dX7_copy_33 : decode cX7_copy 33 = .ok (.iload_n 3, 1) := by decide +kernel
theorem dX7_copy_34 : decode cX7_copy 34 = .ok (.invokevirtual 250, 3) := by decide +kernel
theorem dX7_copy_37 : decode cX7_copy 37 = .ok (.ifCond .eq 7, 3) := by decide +kernel
theorem dX7_copy_40 : decode cX7_copy 40 = .ok (.ldc2_w 253, 3) := by decide +kernel
theorem dX7_copy_43 : decode cX7_copy 43 = .ok (.lreturn, 1) := by decide +kernel
theorem dX7_copy_44 : decode cX7_copy 44 = .ok (.aload_n 0, 1) := by decide +kernel
theorem dX7_copy_45 : decode cX7_copy 45 = .ok (.getfield 54, 3) := by decide +kernel
theorem dX7_copy_48 : decode cX7_copy 48 = .ok (.iload_n 1, 1) := by decide +kernel
theorem dX7_copy_49 : decode cX7_copy 49 = .ok (.iload_n 2, 1) := by decide +kernel
theorem dX7_copy_50 : decode cX7_copy 50 = .ok (.iload 5, 2) := by decide +kernel
theorem dX7_copy_52 : decode cX7_copy 52 = .ok (.invokevirtual 255, 3) := by decide +kernel
theorem dX7_copy_55 : decode cX7_copy 55 = .ok (.ifCond .eq 18, 3) := by decide +kernel
theorem dX7_copy_58 : decode cX7_copy 58 = .ok (.aload_n 0, 1) := by decide +kernel
theorem dX7_copy_59 : decode cX7_copy 59 = .ok (.getfield 54, 3) := by decide +kernel
theorem dX7_copy_62 : decode cX7_copy 62 = .ok (.iload_n 3, 1) := by decide +kernel
theorem dX7_copy_63 : decode cX7_copy 63 = .ok (.iload 4, 2) := by decide +kernel
theorem dX7_copy_65 : decode cX7_copy 65 = .ok (.iload 5, 2) := by decide +kernel
theorem dX7_copy_67 : decode cX7_copy 67 = .ok (.invokevirtual 255, 3) := by decide +kernel
theorem dX7_copy_70 : decode cX7_copy 70 = .ok (.ifCond .ne 7, 3) := by decide +kernel
theorem dX7_copy_73 : decode cX7_copy 73 = .ok (.ldc2_w 258, 3) := by decide +kernel
theorem dX7_copy_76 : decode cX7_copy 76 = .ok (.lreturn, 1) := by decide +kernel
theorem dX7_copy_77 : decode cX7_copy 77 = .ok (.aload_n 0, 1) := by decide +kernel
theorem dX7_copy_78 : decode cX7_copy 78 = .ok (.getfield 54, 3) := by decide +kernel
theorem dX7_copy_81 : decode cX7_copy 81 = .ok (.iload_n 1, 1) := by decide +kernel
theorem dX7_copy_82 : decode cX7_copy 82 = .ok (.iload_n 2, 1) := by decide +kernel
theorem dX7_copy_83 : decode cX7_copy 83 = .ok (.iload_n 3, 1) := by decide +kernel
theorem dX7_copy_84 : decode cX7_copy 84 = .ok (.iload 4, 2) := by decide +kernel
theorem dX7_copy_86 : decode cX7_copy 86 = .ok (.iload 5, 2) := by decide +kernel
theorem dX7_copy_88 : decode cX7_copy 88 = .ok (.invokevirtual 267, 3) := by decide +kernel
theorem dX7_copy_91 : decode cX7_copy 91 = .ok (.iload 5, 2) := by decide +kernel
theorem dX7_copy_93 : decode cX7_copy 93 = .ok (.i2l, 1) := by decide +kernel
theorem dX7_copy_94 : decode cX7_copy 94 = .ok (.lreturn, 1) := by decide +kernel
theorem dX7_take_0 : decode cX7_take 0 = .ok (.iload_n 1, 1) := by decide +kernel
theorem dX7_take_1 : decode cX7_take 1 = .ok (.invokestatic 242, 3) := by decide +kernel
theorem dX7_take_4 : decode cX7_take 4 = .ok (.ifCond .ne 7, 3) := by decide +kernel
theorem dX7_take_7 : decode cX7_take 7 = .ok (.ldc2_w 70, 3) := by decide +kernel
theorem dX7_take_10 : decode cX7_take 10 = .ok (.lreturn, 1) := by decide +kernel
theorem dX7_take_11 : decode cX7_take 11 = .ok (.aload_n 0, 1) := by decide +kernel
theorem dX7_take_12 : decode cX7_take 12 = .ok (.getfield 54, 3) := by decide +kernel
theorem dX7_take_15 : decode cX7_take 15 = .ok (.iload_n 1, 1) := by decide +kernel
theorem dX7_take_16 : decode cX7_take 16 = .ok (.invokevirtual 250, 3) := by decide +kernel
theorem dX7_take_19 : decode cX7_take 19 = .ok (.ifCond .eq 7, 3) := by decide +kernel
theorem dX7_take_22 : decode cX7_take 22 = .ok (.ldc2_w 253, 3) := by decide +kernel
theorem dX7_take_25 : decode cX7_take 25 = .ok (.lreturn, 1) := by decide +kernel
theorem dX7_take_26 : decode cX7_take 26 = .ok (.aload_n 0, 1) := by decide +kernel
theorem dX7_take_27 : decode cX7_take 27 = .ok (.getfield 54, 3) := by decide +kernel
theorem dX7_take_30 : decode cX7_take 30 = .ok (.getfield 271, 3) := by decide +kernel
theorem dX7_take_33 : decode cX7_take 33 = .ok (.iload_n 1, 1) := by decide +kernel
theorem dX7_take_34 : decode cX7_take 34 = .ok (.iaload, 1) := by decide +kernel
theorem dX7_take_35 : decode cX7_take 35 = .ok (.aload_n 0, 1) := by decide +kernel
theorem dX7_take_36 : decode cX7_take 36 = .ok (.getfield 10, 3) := by decide +kernel
theorem dX7_take_39 : decode cX7_take 39 = .ok (.getfield 72, 3) := by decide +kernel
theorem dX7_take_42 : decode cX7_take 42 = .ok (.invokestatic 274, 3) := by decide +kernel
theorem dX7_take_45 : decode cX7_take 45 = .ok (.istore_n 2, 1) := by decide +kernel
theorem dX7_take_46 : decode cX7_take 46 = .ok (.iconst 0, 1) := by decide +kernel
theorem dX7_take_47 : decode cX7_take 47 = .ok (.istore_n 3, 1) := by decide +kernel
theorem dX7_take_48 : decode cX7_take 48 = .ok (.iload_n 3, 1) := by decide +kernel
theorem dX7_take_49 : decode cX7_take 49 = .ok (.iload_n 2, 1) := by decide +kernel
theorem dX7_take_50 : decode cX7_take 50 = .ok (.if_icmp .ge 31, 3) := by decide +kernel
theorem dX7_take_53 : decode cX7_take 53 = .ok (.aload_n 0, 1) := by decide +kernel
theorem dX7_take_54 : decode cX7_take 54 = .ok (.getfield 54, 3) := by decide +kernel
theorem dX7_take_57 : decode cX7_take 57 = .ok (.iload_n 1, 1) := by decide +kernel
theorem dX7_take_58 : decode cX7_take 58 = .ok (.iload_n 3, 1) := by decide +kernel
theorem dX7_take_59 : decode cX7_take 59 = .ok (.invokevirtual 260, 3) := by decide +kernel
theorem dX7_take_62 : decode cX7_take 62 = .ok (.iconst 0, 1) := by decide +kernel
theorem dX7_take_63 : decode cX7_take 63 = .ok (.bipush 100, 2) := by decide +kernel
theorem dX7_take_65 : decode cX7_take 65 = .ok (.invokestatic 66, 3) := by decide +kernel
theorem dX7_take_68 : decode cX7_take 68 = .ok (.ifCond .ne 7, 3) := by decide +kernel
theorem dX7_take_71 : decode cX7_take 71 = .ok (.ldc2_w 166, 3) := by decide +kernel
theorem dX7_take_74 : decode cX7_take 74 = .ok (.lreturn, 1) := by decide +kernel
theorem dX7_take_75 : decode cX7_take 75 = .ok (.iinc 3 1, 3) := by decide +kernel
theorem dX7_take_78 : decode cX7_take 78 = .ok (.goto (-30), 3) := by decide +kernel
theorem dX7_take_81 : decode cX7_take 81 = .ok (.iconst 0, 1) := by decide +kernel
theorem dX7_take_82 : decode cX7_take 82 = .ok (.istore_n 3, 1) := by decide +kernel
theorem dX7_take_83 : decode cX7_take 83 = .ok (.iload_n 3, 1) := by decide +kernel
theorem dX7_take_84 : decode cX7_take 84 = .ok (.iload_n 2, 1) := by decide +kernel
theorem dX7_take_85 : decode cX7_take 85 = .ok (.if_icmp .ge 27, 3) := by decide +kernel
theorem dX7_take_88 : decode cX7_take 88 = .ok (.aload_n 0, 1) := by decide +kernel
theorem dX7_take_89 : decode cX7_take 89 = .ok (.getfield 10, 3) := by decide +kernel
theorem dX7_take_92 : decode cX7_take 92 = .ok (.getfield 114, 3) := by decide +kernel
theorem dX7_take_95 : decode cX7_take 95 = .ok (.iload_n 3, 1) := by decide +kernel
theorem dX7_take_96 : decode cX7_take 96 = .ok (.aload_n 0, 1) := by decide +kernel
theorem dX7_take_97 : decode cX7_take 97 = .ok (.getfield 54, 3) := by decide +kernel
theorem dX7_take_100 : decode cX7_take 100 = .ok (.iload_n 1, 1) := by decide +kernel
theorem dX7_take_101 : decode cX7_take 101 = .ok (.iload_n 3, 1) := by decide +kernel
theorem dX7_take_102 : decode cX7_take 102 = .ok (.invokevirtual 260, 3) := by decide +kernel
theorem dX7_take_105 : decode cX7_take 105 = .ok (.iastore, 1) := by decide +kernel
theorem dX7_take_106 : decode cX7_take 106 = .ok (.iinc 3 1, 3) := by decide +kernel
theorem dX7_take_109 : decode cX7_take 109 = .ok (.goto (-26), 3) := by decide +kernel
theorem dX7_take_112 : decode cX7_take 112 = .ok (.iload_n 2, 1) := by decide +kernel
theorem dX7_take_113 : decode cX7_take 113 = .ok (.i2l, 1) := by decide +kernel
theorem dX7_take_114 : decode cX7_take 114 = .ok (.lreturn, 1) := by decide +kernel
theorem dX7_count_0 : decode cX7_count 0 = .ok (.iload_n 1, 1) := by decide +kernel
theorem dX7_count_1 : decode cX7_count 1 = .ok (.tableswitch 106 0 6 #[43, 52, 61, 70, 79, 88, 97], 43) := by decide +kernel
theorem dX7_count_44 : decode cX7_count 44 = .ok (.aload_n 0, 1) := by decide +kernel
theorem dX7_count_45 : decode cX7_count 45 = .ok (.getfield 10, 3) := by decide +kernel
theorem dX7_count_48 : decode cX7_count 48 = .ok (.getfield 72, 3) := by decide +kernel
theorem dX7_count_51 : decode cX7_count 51 = .ok (.i2l, 1) := by decide +kernel
theorem dX7_count_52 : decode cX7_count 52 = .ok (.lreturn, 1) := by decide +kernel
theorem dX7_count_53 : decode cX7_count 53 = .ok (.aload_n 0, 1) := by decide +kernel
theorem dX7_count_54 : decode cX7_count 54 = .ok (.getfield 19, 3) := by decide +kernel
theorem dX7_count_57 : decode cX7_count 57 = .ok (.getfield 85, 3) := by decide +kernel
theorem dX7_count_60 : decode cX7_count 60 = .ok (.i2l, 1) := by decide +kernel
theorem dX7_count_61 : decode cX7_count 61 = .ok (.lreturn, 1) := by decide +kernel
theorem dX7_count_62 : decode cX7_count 62 = .ok (.aload_n 0, 1) := by decide +kernel
theorem dX7_count_63 : decode cX7_count 63 = .ok (.getfield 47, 3) := by decide +kernel
theorem dX7_count_66 : decode cX7_count 66 = .ok (.getfield 228, 3) := by decide +kernel
theorem dX7_count_69 : decode cX7_count 69 = .ok (.i2l, 1) := by decide +kernel
theorem dX7_count_70 : decode cX7_count 70 = .ok (.lreturn, 1) := by decide +kernel
theorem dX7_count_71 : decode cX7_count 71 = .ok (.aload_n 0, 1) := by decide +kernel
theorem dX7_count_72 : decode cX7_count 72 = .ok (.getfield 47, 3) := by decide +kernel
theorem dX7_count_75 : decode cX7_count 75 = .ok (.invokevirtual 279, 3) := by decide +kernel
theorem dX7_count_78 : decode cX7_count 78 = .ok (.i2l, 1) := by decide +kernel
theorem dX7_count_79 : decode cX7_count 79 = .ok (.lreturn, 1) := by decide +kernel
theorem dX7_count_80 : decode cX7_count 80 = .ok (.aload_n 0, 1) := by decide +kernel
theorem dX7_count_81 : decode cX7_count 81 = .ok (.getfield 19, 3) := by decide +kernel
theorem dX7_count_84 : decode cX7_count 84 = .ok (.invokevirtual 283, 3) := by decide +kernel
theorem dX7_count_87 : decode cX7_count 87 = .ok (.i2l, 1) := by decide +kernel
theorem dX7_count_88 : decode cX7_count 88 = .ok (.lreturn, 1) := by decide +kernel
theorem dX7_count_89 : decode cX7_count 89 = .ok (.aload_n 0, 1) := by decide +kernel
theorem dX7_count_90 : decode cX7_count 90 = .ok (.getfield 10, 3) := by decide +kernel
theorem dX7_count_93 : decode cX7_count 93 = .ok (.invokevirtual 286, 3) := by decide +kernel
theorem dX7_count_96 : decode cX7_count 96 = .ok (.i2l, 1) := by decide +kernel
theorem dX7_count_97 : decode cX7_count 97 = .ok (.lreturn, 1) := by decide +kernel
theorem dX7_count_98 : decode cX7_count 98 = .ok (.aload_n 0, 1) := by decide +kernel
theorem dX7_count_99 : decode cX7_count 99 = .ok (.getfield 54, 3) := by decide +kernel
theorem dX7_count_102 : decode cX7_count 102 = .ok (.invokevirtual 289, 3) := by decide +kernel
theorem dX7_count_105 : decode cX7_count 105 = .ok (.i2l, 1) := by decide +kernel
theorem dX7_count_106 : decode cX7_count 106 = .ok (.lreturn, 1) := by decide +kernel
theorem dX7_count_107 : decode cX7_count 107 = .ok (.ldc2_w 70, 3) := by decide +kernel
theorem dX7_count_110 : decode cX7_count 110 = .ok (.lreturn, 1) := by decide +kernel
theorem dX7_isWithin_0 : decode cX7_isWithin 0 = .ok (.iload_n 0, 1) := by decide +kernel
theorem dX7_isWithin_1 : decode cX7_isWithin 1 = .ok (.iload_n 1, 1) := by decide +kernel
theorem dX7_isWithin_2 : decode cX7_isWithin 2 = .ok (.if_icmp .lt 12, 3) := by decide +kernel
theorem dX7_isWithin_5 : decode cX7_isWithin 5 = .ok (.iload_n 0, 1) := by decide +kernel
theorem dX7_isWithin_6 : decode cX7_isWithin 6 = .ok (.iload_n 2, 1) := by decide +kernel
theorem dX7_isWithin_7 : decode cX7_isWithin 7 = .ok (.if_icmp .gt 7, 3) := by decide +kernel
theorem dX7_isWithin_10 : decode cX7_isWithin 10 = .ok (.iconst 1, 1) := by decide +kernel
theorem dX7_isWithin_11 : decode cX7_isWithin 11 = .ok (.goto 4, 3) := by decide +kernel
theorem dX7_isWithin_14 : decode cX7_isWithin 14 = .ok (.iconst 0, 1) := by decide +kernel
theorem dX7_isWithin_15 : decode cX7_isWithin 15 = .ok (.ireturn, 1) := by decide +kernel
theorem dX7_isCourt_0 : decode cX7_isCourt 0 = .ok (.iload_n 0, 1) := by decide +kernel
theorem dX7_isCourt_1 : decode cX7_isCourt 1 = .ok (.iconst 0, 1) := by decide +kernel
theorem dX7_isCourt_2 : decode cX7_isCourt 2 = .ok (.iconst 2, 1) := by decide +kernel
theorem dX7_isCourt_3 : decode cX7_isCourt 3 = .ok (.invokestatic 66, 3) := by decide +kernel
theorem dX7_isCourt_6 : decode cX7_isCourt 6 = .ok (.ireturn, 1) := by decide +kernel
theorem dX7_isQuarter_0 : decode cX7_isQuarter 0 = .ok (.iload_n 0, 1) := by decide +kernel
theorem dX7_isQuarter_1 : decode cX7_isQuarter 1 = .ok (.iconst 0, 1) := by decide +kernel
theorem dX7_isQuarter_2 : decode cX7_isQuarter 2 = .ok (.bipush 48, 2) := by decide +kernel
theorem dX7_isQuarter_4 : decode cX7_isQuarter 4 = .ok (.invokestatic 66, 3) := by decide +kernel
theorem dX7_isQuarter_7 : decode cX7_isQuarter 7 = .ok (.ireturn, 1) := by decide +kernel
theorem dX7_isSheet_0 : decode cX7_isSheet 0 = .ok (.iload_n 0, 1) := by decide +kernel
theorem dX7_isSheet_1 : decode cX7_isSheet 1 = .ok (.iconst 0, 1) := by decide +kernel
theorem dX7_isSheet_2 : decode cX7_isSheet 2 = .ok (.iconst 1, 1) := by decide +kernel
theorem dX7_isSheet_3 : decode cX7_isSheet 3 = .ok (.invokestatic 66, 3) := by decide +kernel
theorem dX7_isSheet_6 : decode cX7_isSheet 6 = .ok (.ireturn, 1) := by decide +kernel
theorem dX7_holds_0 : decode cX7_holds 0 = .ok (.iload_n 0, 1) := by decide +kernel
theorem dX7_holds_1 : decode cX7_holds 1 = .ok (.iload_n 1, 1) := by decide +kernel
theorem dX7_holds_2 : decode cX7_holds 2 = .ok (.ishr, 1) := by decide +kernel
theorem dX7_holds_3 : decode cX7_holds 3 = .ok (.iconst 1, 1) := by decide +kernel
theorem dX7_holds_4 : decode cX7_holds 4 = .ok (.iand, 1) := by decide +kernel
theorem dX7_holds_5 : decode cX7_holds 5 = .ok (.ifCond .eq 7, 3) := by decide +kernel
theorem dX7_holds_8 : decode cX7_holds 8 = .ok (.iconst 1, 1) := by decide +kernel
theorem dX7_holds_9 : decode cX7_holds 9 = .ok (.goto 4, 3) := by decide +kernel
theorem dX7_holds_12 : decode cX7_holds 12 = .ok (.iconst 0, 1) := by decide +kernel
theorem dX7_holds_13 : decode cX7_holds 13 = .ok (.ireturn, 1) := by decide +kernel
theorem dX7_asLong_0 : decode cX7_asLong 0 = .ok (.iload_n 0, 1) := by decide +kernel
theorem dX7_asLong_1 : decode cX7_asLong 1 = .ok (.ifCond .eq 7, 3) := by decide +kernel
theorem dX7_asLong_4 : decode cX7_asLong 4 = .ok (.lconst 1, 1) := by decide +kernel
theorem dX7_asLong_5 : decode cX7_asLong 5 = .ok (.goto 4, 3) := by decide +kernel
theorem dX7_asLong_8 : decode cX7_asLong 8 = .ok (.lconst 0, 1) := by decide +kernel
theorem dX7_asLong_9 : decode cX7_asLong 9 = .ok (.lreturn, 1) := by decide +kernel
theorem dX7_waitPrice_0 : decode cX7_waitPrice 0 = .ok (.iconst 0, 1) := by decide +kernel
theorem dX7_waitPrice_1 : decode cX7_waitPrice 1 = .ok (.istore_n 2, 1) := by decide +kernel
theorem dX7_waitPrice_2 : decode cX7_waitPrice 2 = .ok (.iconst 0, 1) := by decide +kernel
theorem dX7_waitPrice_3 : decode cX7_waitPrice 3 = .ok (.istore_n 3, 1) := by decide +kernel
theorem dX7_waitPrice_4 : decode cX7_waitPrice 4 = .ok (.iload_n 3, 1) := by decide +kernel
theorem dX7_waitPrice_5 : decode cX7_waitPrice 5 = .ok (.aload_n 0, 1) := by decide +kernel
theorem dX7_waitPrice_6 : decode cX7_waitPrice 6 = .ok (.getfield 19, 3) := by decide +kernel
theorem dX7_waitPrice_9 : decode cX7_waitPrice 9 = .ok (.getfield 85, 3) := by decide +kernel
theorem dX7_waitPrice_12 : decode cX7_waitPrice 12 = .ok (.if_icmp .ge 37, 3) := by decide +kernel
theorem dX7_waitPrice_15 : decode cX7_waitPrice 15 = .ok (.aload_n 0, 1) := by decide +kernel
theorem dX7_waitPrice_16 : decode cX7_waitPrice 16 = .ok (.getfield 10, 3) := by decide +kernel
theorem dX7_waitPrice_19 : decode cX7_waitPrice 19 = .ok (.iload_n 1, 1) := by decide +kernel
theorem dX7_waitPrice_20 : decode cX7_waitPrice 20 = .ok (.iload_n 3, 1) := by decide +kernel
theorem dX7_waitPrice_21 : decode cX7_waitPrice 21 = .ok (.invokevirtual 163, 3) := by decide +kernel
theorem dX7_waitPrice_24 : decode cX7_waitPrice 24 = .ok (.ifCond .eq 19, 3) := by decide +kernel
theorem dX7_waitPrice_27 : decode cX7_waitPrice 27 = .ok (.iload_n 2, 1) := by decide +kernel
theorem dX7_waitPrice_28 : decode cX7_waitPrice 28 = .ok (.getstatic 292, 3) := by decide +kernel
theorem dX7_waitPrice_31 : decode cX7_waitPrice 31 = .ok (.aload_n 0, 1) := by decide +kernel
theorem dX7_waitPrice_32 : decode cX7_waitPrice 32 = .ok (.getfield 19, 3) := by decide +kernel
theorem dX7_waitPrice_35 : decode cX7_waitPrice 35 = .ok (.getfield 92, 3) := by decide +kernel
theorem dX7_waitPrice_38 : decode cX7_waitPrice 38 = .ok (.iload_n 3, 1) := by decide +kernel
theorem dX7_waitPrice_39 : decode cX7_waitPrice 39 = .ok (.iaload, 1) := by decide +kernel
theorem dX7_waitPrice_40 : decode cX7_waitPrice 40 = .ok (.iaload, 1) := by decide +kernel
theorem dX7_waitPrice_41 : decode cX7_waitPrice 41 = .ok (.iadd, 1) := by decide +kernel
theorem dX7_waitPrice_42 : decode cX7_waitPrice 42 = .ok (.istore_n 2, 1) := by decide +kernel
theorem dX7_waitPrice_43 : decode cX7_waitPrice 43 = .ok (.iinc 3 1, 3) := by decide +kernel
theorem dX7_waitPrice_46 : decode cX7_waitPrice 46 = .ok (.goto (-42), 3) := by decide +kernel
theorem dX7_waitPrice_49 : decode cX7_waitPrice 49 = .ok (.iload_n 2, 1) := by decide +kernel
theorem dX7_waitPrice_50 : decode cX7_waitPrice 50 = .ok (.i2l, 1) := by decide +kernel
theorem dX7_waitPrice_51 : decode cX7_waitPrice 51 = .ok (.aload_n 0, 1) := by decide +kernel
theorem dX7_waitPrice_52 : decode cX7_waitPrice 52 = .ok (.getfield 58, 3) := by decide +kernel
theorem dX7_waitPrice_55 : decode cX7_waitPrice 55 = .ok (.iconst 0, 1) := by decide +kernel
theorem dX7_waitPrice_56 : decode cX7_waitPrice 56 = .ok (.iaload, 1) := by decide +kernel
theorem dX7_waitPrice_57 : decode cX7_waitPrice 57 = .ok (.i2l, 1) := by decide +kernel
theorem dX7_waitPrice_58 : decode cX7_waitPrice 58 = .ok (.lmul, 1) := by decide +kernel
theorem dX7_waitPrice_59 : decode cX7_waitPrice 59 = .ok (.lreturn, 1) := by decide +kernel
theorem dX7_greatestWay_0 : decode cX7_greatestWay 0 = .ok (.iconst 0, 1) := by decide +kernel
theorem dX7_greatestWay_1 : decode cX7_greatestWay 1 = .ok (.istore_n 2, 1) := by decide +kernel
theorem dX7_greatestWay_2 : decode cX7_greatestWay 2 = .ok (.iconst 0, 1) := by decide +kernel
theorem dX7_greatestWay_3 : decode cX7_greatestWay 3 = .ok (.istore_n 3, 1) := by decide +kernel
theorem dX7_greatestWay_4 : decode cX7_greatestWay 4 = .ok (.iload_n 3, 1) := by decide +kernel
theorem dX7_greatestWay_5 : decode cX7_greatestWay 5 = .ok (.aload_n 0, 1) := by decide +kernel
theorem dX7_greatestWay_6 : decode cX7_greatestWay 6 = .ok (.getfield 19, 3) := by decide +kernel
theorem dX7_greatestWay_9 : decode cX7_greatestWay 9 = .ok (.getfield 85, 3) := by decide +kernel
theorem dX7_greatestWay_12 : decode cX7_greatestWay 12 = .ok (.if_icmp .ge 35, 3) := by decide +kernel
theorem dX7_greatestWay_15 : decode cX7_greatestWay 15 = .ok (.aload_n 0, 1) := by decide +kernel
theorem dX7_greatestWay_16 : decode cX7_greatestWay 16 = .ok (.getfield 10, 3) := by decide +kernel
theorem dX7_greatestWay_19 : decode cX7_greatestWay 19 = .ok (.iload_n 1, 1) := by decide +kernel
theorem dX7_greatestWay_20 : decode cX7_greatestWay 20 = .ok (.iload_n 3, 1) := by decide +kernel
theorem dX7_greatestWay_21 : decode cX7_greatestWay 21 = .ok (.invokevirtual 163, 3) := by decide +kernel
theorem dX7_greatestWay_24 : decode cX7_greatestWay 24 = .ok (.ifCond .eq 17, 3) := by decide +kernel
theorem dX7_greatestWay_27 : decode cX7_greatestWay 27 = .ok (.iload_n 2, 1) := by decide +kernel
theorem dX7_greatestWay_28 : decode cX7_greatestWay 28 = .ok (.aload_n 0, 1) := by decide +kernel
theorem dX7_greatestWay_29 : decode cX7_greatestWay 29 = .ok (.getfield 19, 3) := by decide +kernel
theorem dX7_greatestWay_32 : decode cX7_greatestWay 32 = .ok (.getfield 107, 3) := by decide +kernel
theorem dX7_greatestWay_35 : decode cX7_greatestWay 35 = .ok (.iload_n 3, 1) := by decide +kernel
theorem dX7_greatestWay_36 : decode cX7_greatestWay 36 = .ok (.iaload, 1) := by decide +kernel
theorem dX7_greatestWay_37 : decode cX7_greatestWay 37 = .ok (.invokestatic 295, 3) := by decide +kernel
theorem dX7_greatestWay_40 : decode cX7_greatestWay 40 = .ok (.istore_n 2, 1) := by decide +kernel
theorem dX7_greatestWay_41 : decode cX7_greatestWay 41 = .ok (.iinc 3 1, 3) := by decide +kernel
theorem dX7_greatestWay_44 : decode cX7_greatestWay 44 = .ok (.goto (-40), 3) := by decide +kernel
theorem dX7_greatestWay_47 : decode cX7_greatestWay 47 = .ok (.iload_n 2, 1) := by decide +kernel
theorem dX7_greatestWay_48 : decode cX7_greatestWay 48 = .ok (.ireturn, 1) := by decide +kernel
theorem dX7_bestQuarter_0 : decode cX7_bestQuarter 0 = .ok (.aload_n 0, 1) := by decide +kernel
theorem dX7_bestQuarter_1 : decode cX7_bestQuarter 1 = .ok (.getfield 26, 3) := by decide +kernel
theorem dX7_bestQuarter_4 : decode cX7_bestQuarter 4 = .ok (.aload_n 0, 1) := by decide +kernel
theorem dX7_bestQuarter_5 : decode cX7_bestQuarter 5 = .ok (.getfield 10, 3) := by decide +kernel
theorem dX7_bestQuarter_8 : decode cX7_bestQuarter 8 = .ok (.iload_n 1, 1) := by decide +kernel
theorem dX7_bestQuarter_9 : decode cX7_bestQuarter 9 = .ok (.invokevirtual 144, 3) := by decide +kernel
theorem dX7_bestQuarter_12 : decode cX7_bestQuarter 12 = .ok (.aload_n 0, 1) := by decide +kernel
theorem dX7_bestQuarter_13 : decode cX7_bestQuarter 13 = .ok (.getfield 26, 3) := by decide +kernel
theorem dX7_bestQuarter_16 : decode cX7_bestQuarter 16 = .ok (.aload_n 0, 1) := by decide +kernel
theorem dX7_bestQuarter_17 : decode cX7_bestQuarter 17 = .ok (.iload_n 1, 1) := by decide +kernel
theorem dX7_bestQuarter_18 : decode cX7_bestQuarter 18 = .ok (.invokevirtual 298, 3) := by decide +kernel
theorem dX7_bestQuarter_21 : decode cX7_bestQuarter 21 = .ok (.aload_n 0, 1) := by decide +kernel
theorem dX7_bestQuarter_22 : decode cX7_bestQuarter 22 = .ok (.iload_n 1, 1) := by decide +kernel
theorem dX7_bestQuarter_23 : decode cX7_bestQuarter 23 = .ok (.invokevirtual 152, 3) := by decide +kernel
theorem dX7_bestQuarter_26 : decode cX7_bestQuarter 26 = .ok (.aload_n 0, 1) := by decide +kernel
theorem dX7_bestQuarter_27 : decode cX7_bestQuarter 27 = .ok (.getfield 58, 3) := by decide +kernel
theorem dX7_bestQuarter_30 : decode cX7_bestQuarter 30 = .ok (.iconst 1, 1) := by decide +kernel
theorem dX7_bestQuarter_31 : decode cX7_bestQuarter 31 = .ok (.iaload, 1) := by decide +kernel
theorem dX7_bestQuarter_32 : decode cX7_bestQuarter 32 = .ok (.i2l, 1) := by decide +kernel
theorem dX7_bestQuarter_33 : decode cX7_bestQuarter 33 = .ok (.invokevirtual 301, 3) := by decide +kernel
theorem dX7_bestQuarter_36 : decode cX7_bestQuarter 36 = .ok (.ireturn, 1) := by decide +kernel
theorem dX8_init_0 : decode cX8_init 0 = .ok (.aload_n 0, 1) := by decide +kernel
theorem dX8_init_1 : decode cX8_init 1 = .ok (.invokespecial 1, 3) := by decide +kernel
theorem dX8_init_4 : decode cX8_init 4 = .ok (.aload_n 0, 1) := by decide +kernel
theorem dX8_init_5 : decode cX8_init 5 = .ok (.iconst 3, 1) := by decide +kernel
theorem dX8_init_6 : decode cX8_init 6 = .ok (.newarray .int, 2) := by decide +kernel
theorem dX8_init_8 : decode cX8_init 8 = .ok (.putfield 7, 3) := by decide +kernel
theorem dX8_init_11 : decode cX8_init 11 = .ok (.aload_n 0, 1) := by decide +kernel
theorem dX8_init_12 : decode cX8_init 12 = .ok (.bipush 18, 2) := by decide +kernel
theorem dX8_init_14 : decode cX8_init 14 = .ok (.newarray .int, 2) := by decide +kernel
theorem dX8_init_16 : decode cX8_init 16 = .ok (.putfield 13, 3) := by decide +kernel
theorem dX8_init_19 : decode cX8_init 19 = .ok (.aload_n 0, 1) := by decide +kernel
theorem dX8_init_20 : decode cX8_init 20 = .ok (.bipush 12, 2) := by decide +kernel
theorem dX8_init_22 : decode cX8_init 22 = .ok (.newarray .int, 2) := by decide +kernel
theorem dX8_init_24 : decode cX8_init 24 = .ok (.putfield 16, 3) := by decide +kernel
theorem dX8_init_27 : decode cX8_init 27 = .ok (.aload_n 0, 1) := by decide +kernel
theorem dX8_init_28 : decode cX8_init 28 = .ok (.bipush 12, 2) := by decide +kernel
theorem dX8_init_30 : decode cX8_init 30 = .ok (.newarray .int, 2) := by decide +kernel
theorem dX8_init_32 : decode cX8_init 32 = .ok (.putfield 19, 3) := by decide +kernel
theorem dX8_init_35 : decode cX8_init 35 = .ok (.aload_n 0, 1) := by decide +kernel
theorem dX8_init_36 : decode cX8_init 36 = .ok (.bipush 12, 2) := by decide +kernel
theorem dX8_init_38 : decode cX8_init 38 = .ok (.newarray .int, 2) := by decide +kernel
theorem dX8_init_40 : decode cX8_init 40 = .ok (.putfield 22, 3) := by decide +kernel
theorem dX8_init_43 : decode cX8_init 43 = .ok (.aload_n 0, 1) := by decide +kernel
theorem dX8_init_44 : decode cX8_init 44 = .ok (.bipush 12, 2) := by decide +kernel
theorem dX8_init_46 : decode cX8_init 46 = .ok (.newarray .int, 2) := by decide +kernel
theorem dX8_init_48 : decode cX8_init 48 = .ok (.putfield 25, 3) := by decide +kernel
theorem dX8_init_51 : decode cX8_init 51 = .ok (.aload_n 0, 1) := by decide +kernel
theorem dX8_init_52 : decode cX8_init 52 = .ok (.bipush 12, 2) := by decide +kernel
theorem dX8_init_54 : decode cX8_init 54 = .ok (.newarray .int, 2) := by decide +kernel
theorem dX8_init_56 : decode cX8_init 56 = .ok (.putfield 28, 3) := by decide +kernel
theorem dX8_init_59 : decode cX8_init 59 = .ok (.aload_n 0, 1) := by decide +kernel
theorem dX8_init_60 : decode cX8_init 60 = .ok (.bipush 10, 2) := by decide +kernel
theorem dX8_init_62 : decode cX8_init 62 = .ok (.newarray .int, 2) := by decide +kernel
theorem dX8_init_64 : decode cX8_init 64 = .ok (.putfield 31, 3) := by decide +kernel
theorem dX8_init_67 : decode cX8_init 67 = .ok (.aload_n 0, 1) := by decide +kernel
theorem dX8_init_68 : decode cX8_init 68 = .ok (.bipush 10, 2) := by decide +kernel
theorem dX8_init_70 : decode cX8_init 70 = .ok (.newarray .int, 2) := by decide +kernel
theorem dX8_init_72 : decode cX8_init 72 = .ok (.putfield 34, 3) := by decide +kernel
theorem dX8_init_75 : decode cX8_init 75 = .ok (.aload_n 0, 1) := by decide +kernel
theorem dX8_init_76 : decode cX8_init 76 = .ok (.bipush 10, 2) := by decide +kernel
theorem dX8_init_78 : decode cX8_init 78 = .ok (.newarray .int, 2) := by decide +kernel
theorem dX8_init_80 : decode cX8_init 80 = .ok (.putfield 37, 3) := by decide +kernel
theorem dX8_init_83 : decode cX8_init 83 = .ok (.aload_n 0, 1) := by decide +kernel
theorem dX8_init_84 : decode cX8_init 84 = .ok (.bipush 120, 2) := by decide +kernel
theorem dX8_init_86 : decode cX8_init 86 = .ok (.newarray .int, 2) := by decide +kernel
theorem dX8_init_88 : decode cX8_init 88 = .ok (.putfield 40, 3) := by decide +kernel
theorem dX8_init_91 : decode cX8_init 91 = .ok (.aload_n 0, 1) := by decide +kernel
theorem dX8_init_92 : decode cX8_init 92 = .ok (.iconst 5, 1) := by decide +kernel
theorem dX8_init_93 : decode cX8_init 93 = .ok (.newarray .int, 2) := by decide +kernel
theorem dX8_init_95 : decode cX8_init 95 = .ok (.putfield 43, 3) := by decide +kernel
theorem dX8_init_98 : decode cX8_init 98 = .ok (.aload_n 0, 1) := by decide +kernel
theorem dX8_init_99 : decode cX8_init 99 = .ok (.bipush 60, 2) := by decide +kernel
theorem dX8_init_101 : decode cX8_init 101 = .ok (.newarray .int, 2) := by decide +kernel
theorem dX8_init_103 : decode cX8_init 103 = .ok (.putfield 46, 3) := by decide +kernel
theorem dX8_init_106 : decode cX8_init 106 = .ok (.aload_n 0, 1) := by decide +kernel
theorem dX8_init_107 : decode cX8_init 107 = .ok (.bipush 60, 2) := by decide +kernel
theorem dX8_init_109 : decode cX8_init 109 = .ok (.newarray .int, 2) := by decide +kernel
theorem dX8_init_111 : decode cX8_init 111 = .ok (.putfield 49, 3) := by decide +kernel
theorem dX8_init_114 : decode cX8_init 114 = .ok (.aload_n 0, 1) := by decide +kernel
theorem dX8_init_115 : decode cX8_init 115 = .ok (.bipush 60, 2) := by decide +kernel
theorem dX8_init_117 : decode cX8_init 117 = .ok (.newarray .int, 2) := by decide +kernel
end
section
theorem dX8_init_119 : decode cX8_init 119 = .ok (.putfield 52, 3) := by decide +kernel
theorem dX8_init_122 : decode cX8_init 122 = .ok (.aload_n 0, 1) := by decide +kernel
theorem dX8_init_123 : decode cX8_init 123 = .ok (.iconst 2, 1) := by decide +kernel
theorem dX8_init_124 : decode cX8_init 124 = .ok (.newarray .int, 2) := by decide +kernel
theorem dX8_init_126 : decode cX8_init 126 = .ok (.putfield 55, 3) := by decide +kernel
theorem dX8_init_129 : decode cX8_init 129 = .ok (.aload_n 0, 1) := by decide +kernel
theorem dX8_init_130 : decode cX8_init 130 = .ok (.bipush 24, 2) := by decide +kernel
theorem dX8_init_132 : decode cX8_init 132 = .ok (.newarray .int, 2) := by decide +kernel
theorem dX8_init_134 : decode cX8_init 134 = .ok (.putfield 58, 3) := by decide +kernel
theorem dX8_init_137 : decode cX8_init 137 = .ok (.aload_n 0, 1) := by decide +kernel
theorem dX8_init_138 : decode cX8_init 138 = .ok (.bipush 49, 2) := by decide +kernel
theorem dX8_init_140 : decode cX8_init 140 = .ok (.newarray .long, 2) := by decide +kernel
theorem dX8_init_142 : decode cX8_init 142 = .ok (.putfield 61, 3) := by decide +kernel
theorem dX8_init_145 : decode cX8_init 145 = .ok (.aload_n 0, 1) := by decide +kernel
theorem dX8_init_146 : decode cX8_init 146 = .ok (.bipush 49, 2) := by decide +kernel
theorem dX8_init_148 : decode cX8_init 148 = .ok (.newarray .long, 2) := by decide +kernel
theorem dX8_init_150 : decode cX8_init 150 = .ok (.putfield 65, 3) := by decide +kernel
theorem dX8_init_153 : decode cX8_init 153 = .ok (.aload_n 0, 1) := by decide +kernel
theorem dX8_init_154 : decode cX8_init 154 = .ok (.bipush 12, 2) := by decide +kernel
theorem dX8_init_156 : decode cX8_init 156 = .ok (.newarray .int, 2) := by decide +kernel
theorem dX8_init_158 : decode cX8_init 158 = .ok (.putfield 68, 3) := by decide +kernel
theorem dX8_init_161 : decode cX8_init 161 = .ok (.aload_n 0, 1) := by decide +kernel
theorem dX8_init_162 : decode cX8_init 162 = .ok (.bipush 12, 2) := by decide +kernel
theorem dX8_init_164 : decode cX8_init 164 = .ok (.newarray .int, 2) := by decide +kernel
theorem dX8_init_166 : decode cX8_init 166 = .ok (.putfield 71, 3) := by decide +kernel
theorem dX8_init_169 : decode cX8_init 169 = .ok (.aload_n 0, 1) := by decide +kernel
theorem dX8_init_170 : decode cX8_init 170 = .ok (.bipush 6, 2) := by decide +kernel
theorem dX8_init_172 : decode cX8_init 172 = .ok (.newarray .int, 2) := by decide +kernel
theorem dX8_init_174 : decode cX8_init 174 = .ok (.putfield 74, 3) := by decide +kernel
theorem dX8_init_177 : decode cX8_init 177 = .ok (.aload_n 0, 1) := by decide +kernel
theorem dX8_init_178 : decode cX8_init 178 = .ok (.iconst 3, 1) := by decide +kernel
theorem dX8_init_179 : decode cX8_init 179 = .ok (.newarray .int, 2) := by decide +kernel
theorem dX8_init_181 : decode cX8_init 181 = .ok (.putfield 77, 3) := by decide +kernel
theorem dX8_init_184 : decode cX8_init 184 = .ok (.aload_n 0, 1) := by decide +kernel
theorem dX8_init_185 : decode cX8_init 185 = .ok (.bipush 10, 2) := by decide +kernel
theorem dX8_init_187 : decode cX8_init 187 = .ok (.newarray .int, 2) := by decide +kernel
theorem dX8_init_189 : decode cX8_init 189 = .ok (.putfield 80, 3) := by decide +kernel
theorem dX8_init_192 : decode cX8_init 192 = .ok (.aload_n 0, 1) := by decide +kernel
theorem dX8_init_193 : decode cX8_init 193 = .ok (.bipush 10, 2) := by decide +kernel
theorem dX8_init_195 : decode cX8_init 195 = .ok (.newarray .int, 2) := by decide +kernel
theorem dX8_init_197 : decode cX8_init 197 = .ok (.putfield 83, 3) := by decide +kernel
theorem dX8_init_200 : decode cX8_init 200 = .ok (.aload_n 0, 1) := by decide +kernel
theorem dX8_init_201 : decode cX8_init 201 = .ok (.bipush 10, 2) := by decide +kernel
theorem dX8_init_203 : decode cX8_init 203 = .ok (.newarray .int, 2) := by decide +kernel
theorem dX8_init_205 : decode cX8_init 205 = .ok (.putfield 86, 3) := by decide +kernel
theorem dX8_init_208 : decode cX8_init 208 = .ok (.aload_n 0, 1) := by decide +kernel
theorem dX8_init_209 : decode cX8_init 209 = .ok (.bipush 12, 2) := by decide +kernel
theorem dX8_init_211 : decode cX8_init 211 = .ok (.newarray .int, 2) := by decide +kernel
theorem dX8_init_213 : decode cX8_init 213 = .ok (.putfield 89, 3) := by decide +kernel
theorem dX8_init_216 : decode cX8_init 216 = .ok (.aload_n 0, 1) := by decide +kernel
theorem dX8_init_217 : decode cX8_init 217 = .ok (.getfield 43, 3) := by decide +kernel
theorem dX8_init_220 : decode cX8_init 220 = .ok (.iconst 0, 1) := by decide +kernel
theorem dX8_init_221 : decode cX8_init 221 = .ok (.iconst 1, 1) := by decide +kernel
theorem dX8_init_222 : decode cX8_init 222 = .ok (.iastore, 1) := by decide +kernel
theorem dX8_init_223 : decode cX8_init 223 = .ok (.aload_n 0, 1) := by decide +kernel
theorem dX8_init_224 : decode cX8_init 224 = .ok (.getfield 43, 3) := by decide +kernel
theorem dX8_init_227 : decode cX8_init 227 = .ok (.iconst 1, 1) := by decide +kernel
theorem dX8_init_228 : decode cX8_init 228 = .ok (.iconst 4, 1) := by decide +kernel
theorem dX8_init_229 : decode cX8_init 229 = .ok (.iastore, 1) := by decide +kernel
theorem dX8_init_230 : decode cX8_init 230 = .ok (.aload_n 0, 1) := by decide +kernel
theorem dX8_init_231 : decode cX8_init 231 = .ok (.getfield 55, 3) := by decide +kernel
theorem dX8_init_234 : decode cX8_init 234 = .ok (.iconst 0, 1) := by decide +kernel
theorem dX8_init_235 : decode cX8_init 235 = .ok (.iconst (-1), 1) := by decide +kernel
theorem dX8_init_236 : decode cX8_init 236 = .ok (.iastore, 1) := by decide +kernel
theorem dX8_init_237 : decode cX8_init 237 = .ok (.aload_n 0, 1) := by decide +kernel
theorem dX8_init_238 : decode cX8_init 238 = .ok (.getfield 55, 3) := by decide +kernel
theorem dX8_init_241 : decode cX8_init 241 = .ok (.iconst 1, 1) := by decide +kernel
theorem dX8_init_242 : decode cX8_init 242 = .ok (.iconst (-1), 1) := by decide +kernel
theorem dX8_init_243 : decode cX8_init 243 = .ok (.iastore, 1) := by decide +kernel
theorem dX8_init_244 : decode cX8_init 244 = .ok (.return_, 1) := by decide +kernel
theorem dX8_isIn_0 : decode cX8_isIn 0 = .ok (.iload_n 0, 1) := by decide +kernel
theorem dX8_isIn_1 : decode cX8_isIn 1 = .ok (.iload_n 1, 1) := by decide +kernel
theorem dX8_isIn_2 : decode cX8_isIn 2 = .ok (.if_icmp .lt 12, 3) := by decide +kernel
theorem dX8_isIn_5 : decode cX8_isIn 5 = .ok (.iload_n 0, 1) := by decide +kernel
theorem dX8_isIn_6 : decode cX8_isIn 6 = .ok (.iload_n 2, 1) := by decide +kernel
theorem dX8_isIn_7 : decode cX8_isIn 7 = .ok (.if_icmp .gt 7, 3) := by decide +kernel
theorem dX8_isIn_10 : decode cX8_isIn 10 = .ok (.iconst 1, 1) := by decide +kernel
theorem dX8_isIn_11 : decode cX8_isIn 11 = .ok (.goto 4, 3) := by decide +kernel
theorem dX8_isIn_14 : decode cX8_isIn 14 = .ok (.iconst 0, 1) := by decide +kernel
theorem dX8_isIn_15 : decode cX8_isIn 15 = .ok (.ireturn, 1) := by decide +kernel
theorem dX8_isCourt_0 : decode cX8_isCourt 0 = .ok (.iload_n 0, 1) := by decide +kernel
theorem dX8_isCourt_1 : decode cX8_isCourt 1 = .ok (.iconst 0, 1) := by decide +kernel
theorem dX8_isCourt_2 : decode cX8_isCourt 2 = .ok (.iconst 2, 1) := by decide +kernel
theorem dX8_isCourt_3 : decode cX8_isCourt 3 = .ok (.invokestatic 92, 3) := by decide +kernel
theorem dX8_isCourt_6 : decode cX8_isCourt 6 = .ok (.ireturn, 1) := by decide +kernel
theorem dX8_isCase_0 : decode cX8_isCase 0 = .ok (.iload_n 1, 1) := by decide +kernel
theorem dX8_isCase_1 : decode cX8_isCase 1 = .ok (.iconst 0, 1) := by decide +kernel
theorem dX8_isCase_2 : decode cX8_isCase 2 = .ok (.aload_n 0, 1) := by decide +kernel
theorem dX8_isCase_3 : decode cX8_isCase 3 = .ok (.getfield 96, 3) := by decide +kernel
theorem dX8_isCase_6 : decode cX8_isCase 6 = .ok (.iconst 1, 1) := by decide +kernel
theorem dX8_isCase_7 : decode cX8_isCase 7 = .ok (.isub, 1) := by decide +kernel
theorem dX8_isCase_8 : decode cX8_isCase 8 = .ok (.invokestatic 92, 3) := by decide +kernel
theorem dX8_isCase_11 : decode cX8_isCase 11 = .ok (.ireturn, 1) := by decide +kernel
theorem dX8_isWitness_0 : decode cX8_isWitness 0 = .ok (.iload_n 1, 1) := by decide +kernel
theorem dX8_isWitness_1 : decode cX8_isWitness 1 = .ok (.iconst 0, 1) := by decide +kernel
theorem dX8_isWitness_2 : decode cX8_isWitness 2 = .ok (.aload_n 0, 1) := by decide +kernel
theorem dX8_isWitness_3 : decode cX8_isWitness 3 = .ok (.getfield 100, 3) := by decide +kernel
theorem dX8_isWitness_6 : decode cX8_isWitness 6 = .ok (.iconst 1, 1) := by decide +kernel
theorem dX8_isWitness_7 : decode cX8_isWitness 7 = .ok (.isub, 1) := by decide +kernel
theorem dX8_isWitness_8 : decode cX8_isWitness 8 = .ok (.invokestatic 92, 3) := by decide +kernel
theorem dX8_isWitness_11 : decode cX8_isWitness 11 = .ok (.ireturn, 1) := by decide +kernel
theorem dX8_needs1_0 : decode cX8_needs1 0 = .ok (.aload_n 0, 1) := by decide +kernel
theorem dX8_needs1_1 : decode cX8_needs1 1 = .ok (.getfield 25, 3) := by decide +kernel
theorem dX8_needs1_4 : decode cX8_needs1 4 = .ok (.iload_n 1, 1) := by decide +kernel
theorem dX8_needs1_5 : decode cX8_needs1 5 = .ok (.iaload, 1) := by decide +kernel
theorem dX8_needs1_6 : decode cX8_needs1 6 = .ok (.iload_n 2, 1) := by decide +kernel
theorem dX8_needs1_7 : decode cX8_needs1 7 = .ok (.ishr, 1) := by decide +kernel
theorem dX8_needs1_8 : decode cX8_needs1 8 = .ok (.iconst 1, 1) := by decide +kernel
theorem dX8_needs1_9 : decode cX8_needs1 9 = .ok (.iand, 1) := by decide +kernel
theorem dX8_needs1_10 : decode cX8_needs1 10 = .ok (.iconst 1, 1) := by decide +kernel
theorem dX8_needs1_11 : decode cX8_needs1 11 = .ok (.if_icmp .ne 7, 3) := by decide +kernel
theorem dX8_needs1_14 : decode cX8_needs1 14 = .ok (.iconst 1, 1) := by decide +kernel
theorem dX8_needs1_15 : decode cX8_needs1 15 = .ok (.goto 4, 3) := by decide +kernel
theorem dX8_needs1_18 : decode cX8_needs1 18 = .ok (.iconst 0, 1) := by decide +kernel
theorem dX8_needs1_19 : decode cX8_needs1 19 = .ok (.ireturn, 1) := by decide +kernel
theorem dX8_enter_0 : decode cX8_enter 0 = .ok (.aload_n 0, 1) := by decide +kernel
theorem dX8_enter_1 : decode cX8_enter 1 = .ok (.getfield 16, 3) := by decide +kernel
theorem dX8_enter_4 : decode cX8_enter 4 = .ok (.iload_n 1, 1) := by decide +kernel
theorem dX8_enter_5 : decode cX8_enter 5 = .ok (.iload_n 2, 1) := by decide +kernel
theorem dX8_enter_6 : decode cX8_enter 6 = .ok (.iastore, 1) := by decide +kernel
theorem dX8_enter_7 : decode cX8_enter 7 = .ok (.aload_n 0, 1) := by decide +kernel
theorem dX8_enter_8 : decode cX8_enter 8 = .ok (.getfield 13, 3) := by decide +kernel
theorem dX8_enter_11 : decode cX8_enter 11 = .ok (.bipush 6, 2) := by decide +kernel
theorem dX8_enter_13 : decode cX8_enter 13 = .ok (.iload_n 2, 1) := by decide +kernel
theorem dX8_enter_14 : decode cX8_enter 14 = .ok (.imul, 1) := by decide +kernel
theorem dX8_enter_15 : decode cX8_enter 15 = .ok (.aload_n 0, 1) := by decide +kernel
theorem dX8_enter_16 : decode cX8_enter 16 = .ok (.getfield 7, 3) := by decide +kernel
theorem dX8_enter_19 : decode cX8_enter 19 = .ok (.iload_n 2, 1) := by decide +kernel
theorem dX8_enter_20 : decode cX8_enter 20 = .ok (.iaload, 1) := by decide +kernel
theorem dX8_enter_21 : decode cX8_enter 21 = .ok (.iadd, 1) := by decide +kernel
theorem dX8_enter_22 : decode cX8_enter 22 = .ok (.iload_n 1, 1) := by decide +kernel
theorem dX8_enter_23 : decode cX8_enter 23 = .ok (.iastore, 1) := by decide +kernel
theorem dX8_enter_24 : decode cX8_enter 24 = .ok (.aload_n 0, 1) := by decide +kernel
theorem dX8_enter_25 : decode cX8_enter 25 = .ok (.getfield 7, 3) := by decide +kernel
theorem dX8_enter_28 : decode cX8_enter 28 = .ok (.iload_n 2, 1) := by decide +kernel
theorem dX8_enter_29 : decode cX8_enter 29 = .ok (.dup2, 1) := by decide +kernel
theorem dX8_enter_30 : decode cX8_enter 30 = .ok (.iaload, 1) := by decide +kernel
theorem dX8_enter_31 : decode cX8_enter 31 = .ok (.iconst 1, 1) := by decide +kernel
theorem dX8_enter_32 : decode cX8_enter 32 = .ok (.iadd, 1) := by decide +kernel
theorem dX8_enter_33 : decode cX8_enter 33 = .ok (.iastore, 1) := by decide +kernel
theorem dX8_enter_34 : decode cX8_enter 34 = .ok (.return_, 1) := by decide +kernel
theorem dX8_newCase_0 : decode cX8_newCase 0 = .ok (.iload_n 1, 1) := by decide +kernel
theorem dX8_newCase_1 : decode cX8_newCase 1 = .ok (.invokestatic 103, 3) := by decide +kernel
theorem dX8_newCase_4 : decode cX8_newCase 4 = .ok (.ifCond .eq 23, 3) := by decide +kernel
theorem dX8_newCase_7 : decode cX8_newCase 7 = .ok (.iload_n 2, 1) := by decide +kernel
theorem dX8_newCase_8 : decode cX8_newCase 8 = .ok (.iconst 1, 1) := by decide +kernel
theorem dX8_newCase_9 : decode cX8_newCase 9 = .ok (.bipush 8, 2) := by decide +kernel
theorem dX8_newCase_11 : decode cX8_newCase 11 = .ok (.invokestatic 92, 3) := by decide +kernel
theorem dX8_newCase_14 : decode cX8_newCase 14 = .ok (.ifCond .eq 13, 3) := by decide +kernel
theorem dX8_newCase_17 : decode cX8_newCase 17 = .ok (.iload_n 3, 1) := by decide +kernel
theorem dX8_newCase_18 : decode cX8_newCase 18 = .ok (.iconst 0, 1) := by decide +kernel
theorem dX8_newCase_19 : decode cX8_newCase 19 = .ok (.bipush 100, 2) := by decide +kernel
theorem dX8_newCase_21 : decode cX8_newCase 21 = .ok (.invokestatic 92, 3) := by decide +kernel
theorem dX8_newCase_24 : decode cX8_newCase 24 = .ok (.ifCond .ne 7, 3) := by decide +kernel
theorem dX8_newCase_27 : decode cX8_newCase 27 = .ok (.ldc2_w 107, 3) := by decide +kernel
theorem dX8_newCase_30 : decode cX8_newCase 30 = .ok (.lreturn, 1) := by decide +kernel
theorem dX8_newCase_31 : decode cX8_newCase 31 = .ok (.aload_n 0, 1) := by decide +kernel
theorem dX8_newCase_32 : decode cX8_newCase 32 = .ok (.getfield 96, 3) := by decide +kernel
theorem dX8_newCase_35 : decode cX8_newCase 35 = .ok (.bipush 12, 2) := by decide +kernel
theorem dX8_newCase_37 : decode cX8_newCase 37 = .ok (.if_icmp .eq 14, 3) := by decide +kernel
theorem dX8_newCase_40 : decode cX8_newCase 40 = .ok (.aload_n 0, 1) := by decide +kernel
theorem dX8_newCase_41 : decode cX8_newCase 41 = .ok (.getfield 7, 3) := by decide +kernel
theorem dX8_newCase_44 : decode cX8_newCase 44 = .ok (.iload_n 1, 1) := by decide +kernel
theorem dX8_newCase_45 : decode cX8_newCase 45 = .ok (.iaload, 1) := by decide +kernel
theorem dX8_newCase_46 : decode cX8_newCase 46 = .ok (.bipush 6, 2) := by decide +kernel
theorem dX8_newCase_48 : decode cX8_newCase 48 = .ok (.if_icmp .ne 7, 3) := by decide +kernel
theorem dX8_newCase_51 : decode cX8_newCase 51 = .ok (.ldc2_w 109, 3) := by decide +kernel
theorem dX8_newCase_54 : decode cX8_newCase 54 = .ok (.lreturn, 1) := by decide +kernel
theorem dX8_newCase_55 : decode cX8_newCase 55 = .ok (.aload_n 0, 1) := by decide +kernel
theorem dX8_newCase_56 : decode cX8_newCase 56 = .ok (.getfield 19, 3) := by decide +kernel
theorem dX8_newCase_59 : decode cX8_newCase 59 = .ok (.aload_n 0, 1) := by decide +kernel
theorem dX8_newCase_60 : decode cX8_newCase 60 = .ok (.getfield 96, 3) := by decide +kernel
theorem dX8_newCase_63 : decode cX8_newCase 63 = .ok (.iload_n 2, 1) := by decide +kernel
theorem dX8_newCase_64 : decode cX8_newCase 64 = .ok (.iastore, 1) := by decide +kernel
theorem dX8_newCase_65 : decode cX8_newCase 65 = .ok (.aload_n 0, 1) := by decide +kernel
theorem dX8_newCase_66 : decode cX8_newCase 66 = .ok (.getfield 22, 3) := by decide +kernel
theorem dX8_newCase_69 : decode cX8_newCase 69 = .ok (.aload_n 0, 1) := by decide +kernel
theorem dX8_newCase_70 : decode cX8_newCase 70 = .ok (.getfield 96, 3) := by decide +kernel
theorem dX8_newCase_73 : decode cX8_newCase 73 = .ok (.iload_n 3, 1) := by decide +kernel
theorem dX8_newCase_74 : decode cX8_newCase 74 = .ok (.iastore, 1) := by decide +kernel
theorem dX8_newCase_75 : decode cX8_newCase 75 = .ok (.aload_n 0, 1) := by decide +kernel
theorem dX8_newCase_76 : decode cX8_newCase 76 = .ok (.getfield 28, 3) := by decide +kernel
theorem dX8_newCase_79 : decode cX8_newCase 79 = .ok (.aload_n 0, 1) := by decide +kernel
theorem dX8_newCase_80 : decode cX8_newCase 80 = .ok (.getfield 96, 3) := by decide +kernel
theorem dX8_newCase_83 : decode cX8_newCase 83 = .ok (.iconst (-1), 1) := by decide +kernel
theorem dX8_newCase_84 : decode cX8_newCase 84 = .ok (.iastore, 1) := by decide +kernel
theorem dX8_newCase_85 : decode cX8_newCase 85 = .ok (.aload_n 0, 1) := by decide +kernel
theorem dX8_newCase_86 : decode cX8_newCase 86 = .ok (.aload_n 0, 1) := by decide +kernel
theorem dX8_newCase_87 : decode cX8_newCase 87 = .ok (.getfield 96, 3) := by decide +kernel
theorem dX8_newCase_90 : decode cX8_newCase 90 = .ok (.iload_n 1, 1) := by decide +kernel
theorem dX8_newCase_91 : decode cX8_newCase 91 = .ok (.invokevirtual 111, 3) := by decide +kernel
theorem dX8_newCase_94 : decode cX8_newCase 94 = .ok (.aload_n 0, 1) := by decide +kernel
theorem dX8_newCase_95 : decode cX8_newCase 95 = .ok (.dup, 1) := by decide +kernel
theorem dX8_newCase_96 : decode cX8_newCase 96 = .ok (.getfield 96, 3) := by decide +kernel
theorem dX8_newCase_99 : decode cX8_newCase 99 = .ok (.iconst 1, 1) := by decide +kernel
theorem dX8_newCase_100 : decode cX8_newCase 100 = .ok (.iadd, 1) := by decide +kernel
theorem dX8_newCase_101 : decode cX8_newCase 101 = .ok (.putfield 96, 3) := by decide +kernel
theorem dX8_newCase_104 : decode cX8_newCase 104 = .ok (.aload_n 0, 1) := by decide +kernel
theorem dX8_newCase_105 : decode cX8_newCase 105 = .ok (.getfield 96, 3) := by decide +kernel
theorem dX8_newCase_108 : decode cX8_newCase 108 = .ok (.iconst 1, 1) := by decide +kernel
theorem dX8_newCase_109 : decode cX8_newCase 109 = .ok (.isub, 1) := by decide +kernel
theorem dX8_newCase_110 : decode cX8_newCase 110 = .ok (.i2l, 1) := by decide +kernel
theorem dX8_newCase_111 : decode cX8_newCase 111 = .ok (.lreturn, 1) := by decide +kernel
theorem dX8_witness_0 : decode cX8_witness 0 = .ok (.iload_n 1, 1) := by decide +kernel
theorem dX8_witness_1 : decode cX8_witness 1 = .ok (.iconst 0, 1) := by decide +kernel
theorem dX8_witness_2 : decode cX8_witness 2 = .ok (.iconst 4, 1) := by decide +kernel
theorem dX8_witness_3 : decode cX8_witness 3 = .ok (.invokestatic 92, 3) := by decide +kernel
theorem dX8_witness_6 : decode cX8_witness 6 = .ok (.ifCond .eq 13, 3) := by decide +kernel
theorem dX8_witness_9 : decode cX8_witness 9 = .ok (.iload_n 2, 1) := by decide +kernel
theorem dX8_witness_10 : decode cX8_witness 10 = .ok (.iconst 0, 1) := by decide +kernel
theorem dX8_witness_11 : decode cX8_witness 11 = .ok (.bipush 12, 2) := by decide +kernel
theorem dX8_witness_13 : decode cX8_witness 13 = .ok (.invokestatic 92, 3) := by decide +kernel
theorem dX8_witness_16 : decode cX8_witness 16 = .ok (.ifCond .ne 7, 3) := by decide +kernel
theorem dX8_witness_19 : decode cX8_witness 19 = .ok (.ldc2_w 107, 3) := by decide +kernel
theorem dX8_witness_22 : decode cX8_witness 22 = .ok (.lreturn, 1) := by decide +kernel
theorem dX8_witness_23 : decode cX8_witness 23 = .ok (.aload_n 0, 1) := by decide +kernel
theorem dX8_witness_24 : decode cX8_witness 24 = .ok (.getfield 100, 3) := by decide +kernel
theorem dX8_witness_27 : decode cX8_witness 27 = .ok (.bipush 10, 2) := by decide +kernel
theorem dX8_witness_29 : decode cX8_witness 29 = .ok (.if_icmp .ne 7, 3) := by decide +kernel
theorem dX8_witness_32 : decode cX8_witness 32 = .ok (.ldc2_w 109, 3) := by decide +kernel
theorem dX8_witness_35 : decode cX8_witness 35 = .ok (.lreturn, 1) := by decide +kernel
theorem dX8_witness_36 : decode cX8_witness 36 = .ok (.aload_n 0, 1) := by decide +kernel
theorem dX8_witness_37 : decode cX8_witness 37 = .ok (.getfield 31, 3) := by decide +kernel
theorem dX8_witness_40 : decode cX8_witness 40 = .ok (.aload_n 0, 1) := by decide +kernel
theorem dX8_witness_41 : decode cX8_witness 41 = .ok (.getfield 100, 3) := by decide +kernel
theorem dX8_witness_44 : decode cX8_witness 44 = .ok (.iload_n 1, 1) := by decide +kernel
theorem dX8_witness_45 : decode cX8_witness 45 = .ok (.iastore, 1) := by decide +kernel
theorem dX8_witness_46 : decode cX8_witness 46 = .ok (.aload_n 0, 1) := by decide +kernel
theorem dX8_witness_47 : decode cX8_witness 47 = .ok (.getfield 34, 3) := by decide +kernel
theorem dX8_witness_50 : decode cX8_witness 50 = .ok (.aload_n 0, 1) := by decide +kernel
theorem dX8_witness_51 : decode cX8_witness 51 = .ok (.getfield 100, 3) := by decide +kernel
theorem dX8_witness_54 : decode cX8_witness 54 = .ok (.iload_n 2, 1) := by decide +kernel
theorem dX8_witness_55 : decode cX8_witness 55 = .ok (.iastore, 1) := by decide +kernel
theorem dX8_witness_56 : decode cX8_witness 56 = .ok (.aload_n 0, 1) := by decide +kernel
theorem dX8_witness_57 : decode cX8_witness 57 = .ok (.dup, 1) := by decide +kernel
theorem dX8_witness_58 : decode cX8_witness 58 = .ok (.getfield 100, 3) := by decide +kernel
theorem dX8_witness_61 : decode cX8_witness 61 = .ok (.iconst 1, 1) := by decide +kernel
theorem dX8_witness_62 : decode cX8_witness 62 = .ok (.iadd, 1) := by decide +kernel
theorem dX8_witness_63 : decode cX8_witness 63 = .ok (.putfield 100, 3) := by decide +kernel
theorem dX8_witness_66 : decode cX8_witness 66 = .ok (.aload_n 0, 1) := by decide +kernel
theorem dX8_witness_67 : decode cX8_witness 67 = .ok (.getfield 100, 3) := by decide +kernel
theorem dX8_witness_70 : decode cX8_witness 70 = .ok (.iconst 1, 1) := by decide +kernel
theorem dX8_witness_71 : decode cX8_witness 71 = .ok (.isub, 1) := by decide +kernel
theorem dX8_witness_72 : decode cX8_witness 72 = .ok (.i2l, 1) := by decide +kernel
theorem dX8_witness_73 : decode cX8_witness 73 = .ok (.lreturn, 1) := by decide +kernel
theorem dX8_isOf_0 : decode cX8_isOf 0 = .ok (.aload_n 0, 1) := by decide +kernel
theorem dX8_isOf_1 : decode cX8_isOf 1 = .ok (.iload_n 1, 1) := by decide +kernel
theorem dX8_isOf_2 : decode cX8_isOf 2 = .ok (.invokevirtual 115, 3) := by decide +kernel
theorem dX8_isOf_5 : decode cX8_isOf 5 = .ok (.ifCond .eq 12, 3) := by decide +kernel
theorem dX8_isOf_8 : decode cX8_isOf 8 = .ok (.iload_n 2, 1) := by decide +kernel
theorem dX8_isOf_9 : decode cX8_isOf 9 = .ok (.iconst 0, 1) := by decide +kernel
theorem dX8_isOf_10 : decode cX8_isOf 10 = .ok (.iconst 4, 1) := by decide +kernel
theorem dX8_isOf_11 : decode cX8_isOf 11 = .ok (.invokestatic 92, 3) := by decide +kernel
theorem dX8_isOf_14 : decode cX8_isOf 14 = .ok (.ifCond .ne 7, 3) := by decide +kernel
theorem dX8_isOf_17 : decode cX8_isOf 17 = .ok (.ldc2_w 107, 3) := by decide +kernel
theorem dX8_isOf_20 : decode cX8_isOf 20 = .ok (.lreturn, 1) := by decide +kernel
theorem dX8_isOf_21 : decode cX8_isOf 21 = .ok (.aload_n 0, 1) := by decide +kernel
theorem dX8_isOf_22 : decode cX8_isOf 22 = .ok (.getfield 31, 3) := by decide +kernel
theorem dX8_isOf_25 : decode cX8_isOf 25 = .ok (.iload_n 1, 1) := by decide +kernel
theorem dX8_isOf_26 : decode cX8_isOf 26 = .ok (.iaload, 1) := by decide +kernel
theorem dX8_isOf_27 : decode cX8_isOf 27 = .ok (.istore_n 3, 1) := by decide +kernel
theorem dX8_isOf_28 : decode cX8_isOf 28 = .ok (.iload_n 2, 1) := by decide +kernel
theorem dX8_isOf_29 : decode cX8_isOf 29 = .ok (.ifCond .eq 18, 3) := by decide +kernel
theorem dX8_isOf_32 : decode cX8_isOf 32 = .ok (.iload_n 2, 1) := by decide +kernel
theorem dX8_isOf_33 : decode cX8_isOf 33 = .ok (.iload_n 3, 1) := by decide +kernel
theorem dX8_isOf_34 : decode cX8_isOf 34 = .ok (.if_icmp .eq 13, 3) := by decide +kernel
theorem dX8_isOf_37 : decode cX8_isOf 37 = .ok (.iload_n 2, 1) := by decide +kernel
theorem dX8_isOf_38 : decode cX8_isOf 38 = .ok (.iconst 3, 1) := by decide +kernel
theorem dX8_isOf_39 : decode cX8_isOf 39 = .ok (.if_icmp .ne 12, 3) := by decide +kernel
theorem dX8_isOf_42 : decode cX8_isOf 42 = .ok (.iload_n 3, 1) := by decide +kernel
theorem dX8_isOf_43 : decode cX8_isOf 43 = .ok (.iconst 4, 1) := by decide +kernel
theorem dX8_isOf_44 : decode cX8_isOf 44 = .ok (.if_icmp .ne 7, 3) := by decide +kernel
theorem dX8_isOf_47 : decode cX8_isOf 47 = .ok (.lconst 1, 1) := by decide +kernel
theorem dX8_isOf_48 : decode cX8_isOf 48 = .ok (.goto 4, 3) := by decide +kernel
theorem dX8_isOf_51 : decode cX8_isOf 51 = .ok (.lconst 0, 1) := by decide +kernel
theorem dX8_isOf_52 : decode cX8_isOf 52 = .ok (.lreturn, 1) := by decide +kernel
theorem dX8_needs_0 : decode cX8_needs 0 = .ok (.aload_n 0, 1) := by decide +kernel
theorem dX8_needs_1 : decode cX8_needs 1 = .ok (.iload_n 1, 1) := by decide +kernel
theorem dX8_needs_2 : decode cX8_needs 2 = .ok (.invokevirtual 118, 3) := by decide +kernel
theorem dX8_needs_5 : decode cX8_needs 5 = .ok (.ifCond .eq 19, 3) := by decide +kernel
theorem dX8_needs_8 : decode cX8_needs 8 = .ok (.iload_n 2, 1) := by decide +kernel
theorem dX8_needs_9 : decode cX8_needs 9 = .ok (.iconst 0, 1) := by decide +kernel
theorem dX8_needs_10 : decode cX8_needs 10 = .ok (.iconst 1, 1) := by decide +kernel
theorem dX8_needs_11 : decode cX8_needs 11 = .ok (.aload_n 0, 1) := by decide +kernel
theorem dX8_needs_12 : decode cX8_needs 12 = .ok (.getfield 100, 3) := by decide +kernel
theorem dX8_needs_15 : decode cX8_needs 15 = .ok (.ishl, 1) := by decide +kernel
theorem dX8_needs_16 : decode cX8_needs 16 = .ok (.iconst 1, 1) := by decide +kernel
theorem dX8_needs_17 : decode cX8_needs 17 = .ok (.isub, 1) := by decide +kernel
theorem dX8_needs_18 : decode cX8_needs 18 = .ok (.invokestatic 92, 3) := by decide +kernel
theorem dX8_needs_21 : decode cX8_needs 21 = .ok (.ifCond .ne 7, 3) := by decide +kernel
theorem dX8_needs_24 : decode cX8_needs 24 = .ok (.ldc2_w 107, 3) := by decide +kernel
theorem dX8_needs_27 : decode cX8_needs 27 = .ok (.lreturn, 1) := by decide +kernel
theorem dX8_needs_28 : decode cX8_needs 28 = .ok (.aload_n 0, 1) := by decide +kernel
theorem dX8_needs_29 : decode cX8_needs 29 = .ok (.getfield 25, 3) := by decide +kernel
theorem dX8_needs_32 : decode cX8_needs 32 = .ok (.iload_n 1, 1) := by decide +kernel
theorem dX8_needs_33 : decode cX8_needs 33 = .ok (.iaload, 1) := by decide +kernel
theorem dX8_needs_34 : decode cX8_needs 34 = .ok (.istore_n 3, 1) := by decide +kernel
theorem dX8_needs_35 : decode cX8_needs 35 = .ok (.iconst 0, 1) := by decide +kernel
theorem dX8_needs_36 : decode cX8_needs 36 = .ok (.istore 4, 2) := by decide +kernel
theorem dX8_needs_38 : decode cX8_needs 38 = .ok (.iload 4, 2) := by decide +kernel
theorem dX8_needs_40 : decode cX8_needs 40 = .ok (.aload_n 0, 1) := by decide +kernel
theorem dX8_needs_41 : decode cX8_needs 41 = .ok (.getfield 100, 3) := by decide +kernel
theorem dX8_needs_44 : decode cX8_needs 44 = .ok (.if_icmp .ge 38, 3) := by decide +kernel
theorem dX8_needs_47 : decode cX8_needs 47 = .ok (.aload_n 0, 1) := by decide +kernel
theorem dX8_needs_48 : decode cX8_needs 48 = .ok (.iload_n 1, 1) := by decide +kernel
theorem dX8_needs_49 : decode cX8_needs 49 = .ok (.iload 4, 2) := by decide +kernel
theorem dX8_needs_51 : decode cX8_needs 51 = .ok (.invokevirtual 121, 3) := by decide +kernel
theorem dX8_needs_54 : decode cX8_needs 54 = .ok (.ifCond .ne 22, 3) := by decide +kernel
theorem dX8_needs_57 : decode cX8_needs 57 = .ok (.aload_n 0, 1) := by decide +kernel
theorem dX8_needs_58 : decode cX8_needs 58 = .ok (.getfield 40, 3) := by decide +kernel
theorem dX8_needs_61 : decode cX8_needs 61 = .ok (.bipush 10, 2) := by decide +kernel
theorem dX8_needs_63 : decode cX8_needs 63 = .ok (.iload_n 1, 1) := by decide +kernel
theorem dX8_needs_64 : decode cX8_needs 64 = .ok (.imul, 1) := by decide +kernel
theorem dX8_needs_65 : decode cX8_needs 65 = .ok (.iload 4, 2) := by decide +kernel
theorem dX8_needs_67 : decode cX8_needs 67 = .ok (.iadd, 1) := by decide +kernel
theorem dX8_needs_68 : decode cX8_needs 68 = .ok (.aload_n 0, 1) := by decide +kernel
theorem dX8_needs_69 : decode cX8_needs 69 = .ok (.getfield 34, 3) := by decide +kernel
theorem dX8_needs_72 : decode cX8_needs 72 = .ok (.iload 4, 2) := by decide +kernel
theorem dX8_needs_74 : decode cX8_needs 74 = .ok (.iaload, 1) := by decide +kernel
theorem dX8_needs_75 : decode cX8_needs 75 = .ok (.iastore, 1) := by decide +kernel
theorem dX8_needs_76 : decode cX8_needs 76 = .ok (.iinc 4 1, 3) := by decide +kernel
theorem dX8_needs_79 : decode cX8_needs 79 = .ok (.goto (-41), 3) := by decide +kernel
theorem dX8_needs_82 : decode cX8_needs 82 = .ok (.aload_n 0, 1) := by decide +kernel
theorem dX8_needs_83 : decode cX8_needs 83 = .ok (.getfield 25, 3) := by decide +kernel
theorem dX8_needs_86 : decode cX8_needs 86 = .ok (.iload_n 1, 1) := by decide +kernel
theorem dX8_needs_87 : decode cX8_needs 87 = .ok (.iload_n 2, 1) := by decide +kernel
theorem dX8_needs_88 : decode cX8_needs 88 = .ok (.iastore, 1) := by decide +kernel
theorem dX8_needs_89 : decode cX8_needs 89 = .ok (.iload_n 3, 1) := by decide +kernel
theorem dX8_needs_90 : decode cX8_needs 90 = .ok (.i2l, 1) := by decide +kernel
theorem dX8_needs_91 : decode cX8_needs 91 = .ok (.lreturn, 1) := by decide +kernel
theorem dX8_fold_0 : decode cX8_fold 0 = .ok (.aload_n 0, 1) := by decide +kernel
theorem dX8_fold_1 : decode cX8_fold 1 = .ok (.iload_n 1, 1) := by decide +kernel
theorem dX8_fold_2 : decode cX8_fold 2 = .ok (.invokevirtual 118, 3) := by decide +kernel
theorem dX8_fold_5 : decode cX8_fold 5 = .ok (.ifCond .eq 13, 3) := by decide +kernel
theorem dX8_fold_8 : decode cX8_fold 8 = .ok (.iload_n 2, 1) := by decide +kernel
theorem dX8_fold_9 : decode cX8_fold 9 = .ok (.iconst 0, 1) := by decide +kernel
theorem dX8_fold_10 : decode cX8_fold 10 = .ok (.bipush 100, 2) := by decide +kernel
theorem dX8_fold_12 : decode cX8_fold 12 = .ok (.invokestatic 92, 3) := by decide +kernel
theorem dX8_fold_15 : decode cX8_fold 15 = .ok (.ifCond .ne 7, 3) := by decide +kernel
theorem dX8_fold_18 : decode cX8_fold 18 = .ok (.ldc2_w 107, 3) := by decide +kernel
theorem dX8_fold_21 : decode cX8_fold 21 = .ok (.lreturn, 1) := by decide +kernel
theorem dX8_fold_22 : decode cX8_fold 22 = .ok (.aload_n 0, 1) := by decide +kernel
theorem dX8_fold_23 : decode cX8_fold 23 = .ok (.getfield 22, 3) := by decide +kernel
theorem dX8_fold_26 : decode cX8_fold 26 = .ok (.iload_n 1, 1) := by decide +kernel
theorem dX8_fold_27 : decode cX8_fold 27 = .ok (.iaload, 1) := by decide +kernel
theorem dX8_fold_28 : decode cX8_fold 28 = .ok (.istore_n 3, 1) := by decide +kernel
theorem dX8_fold_29 : decode cX8_fold 29 = .ok (.aload_n 0, 1) := by decide +kernel
theorem dX8_fold_30 : decode cX8_fold 30 = .ok (.getfield 22, 3) := by decide +kernel
theorem dX8_fold_33 : decode cX8_fold 33 = .ok (.iload_n 1, 1) := by decide +kernel
theorem dX8_fold_34 : decode cX8_fold 34 = .ok (.iload_n 2, 1) := by decide +kernel
theorem dX8_fold_35 : decode cX8_fold 35 = .ok (.iastore, 1) := by decide +kernel
theorem dX8_fold_36 : decode cX8_fold 36 = .ok (.iload_n 3, 1) := by decide +kernel
theorem dX8_fold_37 : decode cX8_fold 37 = .ok (.i2l, 1) := by decide +kernel
theorem dX8_fold_38 : decode cX8_fold 38 = .ok (.lreturn, 1) := by decide +kernel
theorem dX8_placeOf_0 : decode cX8_placeOf 0 = .ok (.aload_n 0, 1) := by decide +kernel
theorem dX8_placeOf_1 : decode cX8_placeOf 1 = .ok (.getfield 16, 3) := by decide +kernel
theorem dX8_placeOf_4 : decode cX8_placeOf 4 = .ok (.iload_n 1, 1) := by decide +kernel
theorem dX8_placeOf_5 : decode cX8_placeOf 5 = .ok (.iaload, 1) := by decide +kernel
theorem dX8_placeOf_6 : decode cX8_placeOf 6 = .ok (.istore_n 2, 1) := by decide +kernel
theorem dX8_placeOf_7 : decode cX8_placeOf 7 = .ok (.iconst 0, 1) := by decide +kernel
theorem dX8_placeOf_8 : decode cX8_placeOf 8 = .ok (.istore_n 3, 1) := by decide +kernel
theorem dX8_placeOf_9 : decode cX8_placeOf 9 = .ok (.aload_n 0, 1) := by decide +kernel
theorem dX8_placeOf_10 : decode cX8_placeOf 10 = .ok (.getfield 13, 3) := by decide +kernel
theorem dX8_placeOf_13 : decode cX8_placeOf 13 = .ok (.bipush 6, 2) := by decide +kernel
theorem dX8_placeOf_15 : decode cX8_placeOf 15 = .ok (.iload_n 2, 1) := by decide +kernel
theorem dX8_placeOf_16 : decode cX8_placeOf 16 = .ok (.imul, 1) := by decide +kernel
theorem dX8_placeOf_17 : decode cX8_placeOf 17 = .ok (.iload_n 3, 1) := by decide +kernel
theorem dX8_placeOf_18 : decode cX8_placeOf 18 = .ok (.iadd, 1) := by decide +kernel
theorem dX8_placeOf_19 : decode cX8_placeOf 19 = .ok (.iaload, 1) := by decide +kernel
theorem dX8_placeOf_20 : decode cX8_placeOf 20 = .ok (.iload_n 1, 1) := by decide +kernel
theorem dX8_placeOf_21 : decode cX8_placeOf 21 = .ok (.if_icmp .eq 9, 3) := by decide +kernel
theorem dX8_placeOf_24 : decode cX8_placeOf 24 = .ok (.iinc 3 1, 3) := by decide +kernel
theorem dX8_placeOf_27 : decode cX8_placeOf 27 = .ok (.goto (-18), 3) := by decide +kernel
theorem dX8_placeOf_30 : decode cX8_placeOf 30 = .ok (.iload_n 3, 1) := by decide +kernel
theorem dX8_placeOf_31 : decode cX8_placeOf 31 = .ok (.ireturn, 1) := by decide +kernel
theorem dX8_told_0 : decode cX8_told 0 = .ok (.aload_n 0, 1) := by decide +kernel
theorem dX8_told_1 : decode cX8_told 1 = .ok (.iload_n 1, 1) := by decide +kernel
theorem dX8_told_2 : decode cX8_told 2 = .ok (.invokevirtual 118, 3) := by decide +kernel
theorem dX8_told_5 : decode cX8_told 5 = .ok (.ifCond .eq 12, 3) := by decide +kernel
theorem dX8_told_8 : decode cX8_told 8 = .ok (.iload_n 2, 1) := by decide +kernel
theorem dX8_told_9 : decode cX8_told 9 = .ok (.iconst 0, 1) := by decide +kernel
theorem dX8_told_10 : decode cX8_told 10 = .ok (.iconst 5, 1) := by decide +kernel
theorem dX8_told_11 : decode cX8_told 11 = .ok (.invokestatic 92, 3) := by decide +kernel
theorem dX8_told_14 : decode cX8_told 14 = .ok (.ifCond .ne 7, 3) := by decide +kernel
theorem dX8_told_17 : decode cX8_told 17 = .ok (.ldc2_w 107, 3) := by decide +kernel
theorem dX8_told_20 : decode cX8_told 20 = .ok (.lreturn, 1) := by decide +kernel
theorem dX8_told_21 : decode cX8_told 21 = .ok (.iload_n 2, 1) := by decide +kernel
theorem dX8_told_22 : decode cX8_told 22 = .ok (.tableswitch 73 0 4 #[34, 42, 49, 57, 65], 34) := by decide +kernel
theorem dX8_told_56 : decode cX8_told 56 = .ok (.aload_n 0, 1) := by decide +kernel
theorem dX8_told_57 : decode cX8_told 57 = .ok (.getfield 16, 3) := by decide +kernel
theorem dX8_told_60 : decode cX8_told 60 = .ok (.iload_n 1, 1) := by decide +kernel
theorem dX8_told_61 : decode cX8_told 61 = .ok (.iaload, 1) := by decide +kernel
theorem dX8_told_62 : decode cX8_told 62 = .ok (.i2l, 1) := by decide +kernel
theorem dX8_told_63 : decode cX8_told 63 = .ok (.lreturn, 1) := by decide +kernel
theorem dX8_told_64 : decode cX8_told 64 = .ok (.aload_n 0, 1) := by decide +kernel
theorem dX8_told_65 : decode cX8_told 65 = .ok (.iload_n 1, 1) := by decide +kernel
theorem dX8_told_66 : decode cX8_told 66 = .ok (.invokevirtual 125, 3) := by decide +kernel
theorem dX8_told_69 : decode cX8_told 69 = .ok (.i2l, 1) := by decide +kernel
theorem dX8_told_70 : decode cX8_told 70 = .ok (.lreturn, 1) := by decide +kernel
theorem dX8_told_71 : decode cX8_told 71 = .ok (.aload_n 0, 1) := by decide +kernel
theorem dX8_told_72 : decode cX8_told 72 = .ok (.getfield 19, 3) := by decide +kernel
theorem dX8_told_75 : decode cX8_told 75 = .ok (.iload_n 1, 1) := by decide +kernel
theorem dX8_told_76 : decode cX8_told 76 = .ok (.iaload, 1) := by decide +kernel
theorem dX8_told_77 : decode cX8_told 77 = .ok (.i2l, 1) := by decide +kernel
theorem dX8_told_78 : decode cX8_told 78 = .ok (.lreturn, 1) := by decide +kernel
theorem dX8_told_79 : decode cX8_told 79 = .ok (.aload_n 0, 1) := by decide +kernel
theorem dX8_told_80 : decode cX8_told 80 = .ok (.getfield 22, 3) := by decide +kernel
theorem dX8_told_83 : decode cX8_told 83 = .ok (.iload_n 1, 1) := by decide +kernel
theorem dX8_told_84 : decode cX8_told 84 = .ok (.iaload, 1) := by decide +kernel
theorem dX8_told_85 : decode cX8_told 85 = .ok (.i2l, 1) := by decide +kernel
theorem dX8_told_86 : decode cX8_told 86 = .ok (.lreturn, 1) := by decide +kernel
theorem dX8_told_87 : decode cX8_told 87 = .ok (.aload_n 0, 1) := by decide +kernel
theorem dX8_told_88 : decode cX8_told 88 = .ok (.getfield 25, 3) := by decide +kernel
theorem dX8_told_91 : decode cX8_told 91 = .ok (.iload_n 1, 1) := by decide +kernel
theorem dX8_told_92 : decode cX8_told 92 = .ok (.iaload, 1) := by decide +kernel
theorem dX8_told_93 : decode cX8_told 93 = .ok (.i2l, 1) := by decide +kernel
theorem dX8_told_94 : decode cX8_told 94 = .ok (.lreturn, 1) := by decide +kernel
theorem dX8_told_95 : decode cX8_told 95 = .ok (.aload_n 0, 1) := by decide +kernel
theorem dX8_told_96 : decode cX8_told 96 = .ok (.getfield 28, 3) := by decide +kernel
theorem dX8_told_99 : decode cX8_told 99 = .ok (.iload_n 1, 1) := by decide +kernel
theorem dX8_told_100 : decode cX8_told 100 = .ok (.iaload, 1) := by decide +kernel
theorem dX8_told_101 : decode cX8_told 101 = .ok (.ifCond .ge 9, 3) := by decide +kernel
theorem dX8_told_104 : decode cX8_told 104 = .ok (.ldc2_w 129, 3) := by decide +kernel
theorem dX8_told_107 : decode cX8_told 107 = .ok (.goto 10, 3) := by decide +kernel
theorem dX8_told_110 : decode cX8_told 110 = .ok (.aload_n 0, 1) := by decide +kernel
theorem dX8_told_111 : decode cX8_told 111 = .ok (.getfield 28, 3) := by decide +kernel
theorem dX8_told_114 : decode cX8_told 114 = .ok (.iload_n 1, 1) := by decide +kernel
theorem dX8_told_115 : decode cX8_told 115 = .ok (.iaload, 1) := by decide +kernel
theorem dX8_told_116 : decode cX8_told 116 = .ok (.i2l, 1) := by decide +kernel
theorem dX8_told_117 : decode cX8_told 117 = .ok (.lreturn, 1) := by decide +kernel
theorem dX8_inList_0 : decode cX8_inList 0 = .ok (.iload_n 1, 1) := by decide +kernel
theorem dX8_inList_1 : decode cX8_inList 1 = .ok (.invokestatic 103, 3) := by decide +kernel
theorem dX8_inList_4 : decode cX8_inList 4 = .ok (.ifCond .eq 7, 3) := by decide +kernel
theorem dX8_inList_7 : decode cX8_inList 7 = .ok (.iload_n 2, 1) := by decide +kernel
theorem dX8_inList_8 : decode cX8_inList 8 = .ok (.ifCond .ge 7, 3) := by decide +kernel
theorem dX8_inList_11 : decode cX8_inList 11 = .ok (.ldc2_w 107, 3) := by decide +kernel
theorem dX8_inList_14 : decode cX8_inList 14 = .ok (.lreturn, 1) := by decide +kernel
theorem dX8_inList_15 : decode cX8_inList 15 = .ok (.iload_n 2, 1) := by decide +kernel
theorem dX8_inList_16 : decode cX8_inList 16 = .ok (.aload_n 0, 1) := by decide +kernel
theorem dX8_inList_17 : decode cX8_inList 17 = .ok (.getfield 7, 3) := by decide +kernel
theorem dX8_inList_20 : decode cX8_inList 20 = .ok (.iload_n 1, 1) := by decide +kernel
theorem dX8_inList_21 : decode cX8_inList 21 = .ok (.iaload, 1) := by decide +kernel
theorem dX8_inList_22 : decode cX8_inList 22 = .ok (.if_icmp .ge 18, 3) := by decide +kernel
theorem dX8_inList_25 : decode cX8_inList 25 = .ok (.aload_n 0, 1) := by decide +kernel
theorem dX8_inList_26 : decode cX8_inList 26 = .ok (.getfield 13, 3) := by decide +kernel
theorem dX8_inList_29 : decode cX8_inList 29 = .ok (.bipush 6, 2) := by decide +kernel
theorem dX8_inList_31 : decode cX8_inList 31 = .ok (.iload_n 1, 1) := by decide +kernel
theorem dX8_inList_32 : decode cX8_inList 32 = .ok (.imul, 1) := by decide +kernel
theorem dX8_inList_33 : decode cX8_inList 33 = .ok (.iload_n 2, 1) := by decide +kernel
theorem dX8_inList_34 : decode cX8_inList 34 = .ok (.iadd, 1) := by decide +kernel
theorem dX8_inList_35 : decode cX8_inList 35 = .ok (.iaload, 1) := by decide +kernel
theorem dX8_inList_36 : decode cX8_inList 36 = .ok (.i2l, 1) := by decide +kernel
theorem dX8_inList_37 : decode cX8_inList 37 = .ok (.goto 6, 3) := by decide +kernel
theorem dX8_inList_40 : decode cX8_inList 40 = .ok (.ldc2_w 129, 3) := by decide +kernel
theorem dX8_inList_43 : decode cX8_inList 43 = .ok (.lreturn, 1) := by decide +kernel
theorem dX8_rule_0 : decode cX8_rule 0 = .ok (.iload_n 1, 1) := by decide +kernel
theorem dX8_rule_1 : decode cX8_rule 1 = .ok (.iconst 0, 1) := by decide +kernel
theorem dX8_rule_2 : decode cX8_rule 2 = .ok (.iconst 4, 1) := by decide +kernel
theorem dX8_rule_3 : decode cX8_rule 3 = .ok (.invokestatic 92, 3) := by decide +kernel
theorem dX8_rule_6 : decode cX8_rule 6 = .ok (.istore_n 3, 1) := by decide +kernel
theorem dX8_rule_7 : decode cX8_rule 7 = .ok (.iload_n 3, 1) := by decide +kernel
theorem dX8_rule_8 : decode cX8_rule 8 = .ok (.ifCond .eq 36, 3) := by decide +kernel
theorem dX8_rule_11 : decode cX8_rule 11 = .ok (.iload_n 1, 1) := by decide +kernel
theorem dX8_rule_12 : decode cX8_rule 12 = .ok (.ifCond .ne 13, 3) := by decide +kernel
theorem dX8_rule_15 : decode cX8_rule 15 = .ok (.iload_n 2, 1) := by decide +kernel
theorem dX8_rule_16 : decode cX8_rule 16 = .ok (.iconst 1, 1) := by decide +kernel
theorem dX8_rule_17 : decode cX8_rule 17 = .ok (.bipush 20, 2) := by decide +kernel
theorem dX8_rule_19 : decode cX8_rule 19 = .ok (.invokestatic 92, 3) := by decide +kernel
theorem dX8_rule_22 : decode cX8_rule 22 = .ok (.goto 21, 3) := by decide +kernel
theorem dX8_rule_25 : decode cX8_rule 25 = .ok (.iload_n 2, 1) := by decide +kernel
theorem dX8_rule_26 : decode cX8_rule 26 = .ok (.iconst 0, 1) := by decide +kernel
theorem dX8_rule_27 : decode cX8_rule 27 = .ok (.iload_n 1, 1) := by decide +kernel
theorem dX8_rule_28 : decode cX8_rule 28 = .ok (.iconst 1, 1) := by decide +kernel
theorem dX8_rule_29 : decode cX8_rule 29 = .ok (.if_icmp .ne 9, 3) := by decide +kernel
theorem dX8_rule_32 : decode cX8_rule 32 = .ok (.sipush 200, 3) := by decide +kernel
theorem dX8_rule_35 : decode cX8_rule 35 = .ok (.goto 5, 3) := by decide +kernel
theorem dX8_rule_38 : decode cX8_rule 38 = .ok (.bipush 100, 2) := by decide +kernel
theorem dX8_rule_40 : decode cX8_rule 40 = .ok (.invokestatic 92, 3) := by decide +kernel
theorem dX8_rule_43 : decode cX8_rule 43 = .ok (.istore_n 3, 1) := by decide +kernel
theorem dX8_rule_44 : decode cX8_rule 44 = .ok (.iload_n 3, 1) := by decide +kernel
theorem dX8_rule_45 : decode cX8_rule 45 = .ok (.ifCond .ne 7, 3) := by decide +kernel
theorem dX8_rule_48 : decode cX8_rule 48 = .ok (.ldc2_w 107, 3) := by decide +kernel
theorem dX8_rule_51 : decode cX8_rule 51 = .ok (.lreturn, 1) := by decide +kernel
theorem dX8_rule_52 : decode cX8_rule 52 = .ok (.aload_n 0, 1) := by decide +kernel
theorem dX8_rule_53 : decode cX8_rule 53 = .ok (.getfield 43, 3) := by decide +kernel
theorem dX8_rule_56 : decode cX8_rule 56 = .ok (.iload_n 1, 1) := by decide +kernel
theorem dX8_rule_57 : decode cX8_rule 57 = .ok (.iaload, 1) := by decide +kernel
theorem dX8_rule_58 : decode cX8_rule 58 = .ok (.istore 4, 2) := by decide +kernel
theorem dX8_rule_60 : decode cX8_rule 60 = .ok (.aload_n 0, 1) := by decide +kernel
theorem dX8_rule_61 : decode cX8_rule 61 = .ok (.getfield 43, 3) := by decide +kernel
theorem dX8_rule_64 : decode cX8_rule 64 = .ok (.iload_n 1, 1) := by decide +kernel
theorem dX8_rule_65 : decode cX8_rule 65 = .ok (.iload_n 2, 1) := by decide +kernel
theorem dX8_rule_66 : decode cX8_rule 66 = .ok (.iastore, 1) := by decide +kernel
theorem dX8_rule_67 : decode cX8_rule 67 = .ok (.iload 4, 2) := by decide +kernel
theorem dX8_rule_69 : decode cX8_rule 69 = .ok (.i2l, 1) := by decide +kernel
theorem dX8_rule_70 : decode cX8_rule 70 = .ok (.lreturn, 1) := by decide +kernel
theorem dX8_weigh_0 : decode cX8_weigh 0 = .ok (.iconst 0, 1) := by decide +kernel
theorem dX8_weigh_1 : decode cX8_weigh 1 = .ok (.istore_n 2, 1) := by decide +kernel
theorem dX8_weigh_2 : decode cX8_weigh 2 = .ok (.iload_n 2, 1) := by decide +kernel
theorem dX8_weigh_3 : decode cX8_weigh 3 = .ok (.bipush 48, 2) := by decide +kernel
theorem dX8_weigh_5 : decode cX8_weigh 5 = .ok (.if_icmp .gt 24, 3) := by decide +kernel
theorem dX8_weigh_8 : decode cX8_weigh 8 = .ok (.aload_n 0, 1) := by decide +kernel
theorem dX8_weigh_9 : decode cX8_weigh 9 = .ok (.getfield 61, 3) := by decide +kernel
theorem dX8_weigh_12 : decode cX8_weigh 12 = .ok (.iload_n 2, 1) := by decide +kernel
theorem dX8_weigh_13 : decode cX8_weigh 13 = .ok (.iload_n 2, 1) := by decide +kernel
theorem dX8_weigh_14 : decode cX8_weigh 14 = .ok (.ifCond .ne 7, 3) := by decide +kernel
theorem dX8_weigh_17 : decode cX8_weigh 17 = .ok (.lconst 1, 1) := by decide +kernel
theorem dX8_weigh_18 : decode cX8_weigh 18 = .ok (.goto 4, 3) := by decide +kernel
theorem dX8_weigh_21 : decode cX8_weigh 21 = .ok (.lconst 0, 1) := by decide +kernel
theorem dX8_weigh_22 : decode cX8_weigh 22 = .ok (.lastore, 1) := by decide +kernel
theorem dX8_weigh_23 : decode cX8_weigh 23 = .ok (.iinc 2 1, 3) := by decide +kernel
theorem dX8_weigh_26 : decode cX8_weigh 26 = .ok (.goto (-24), 3) := by decide +kernel
theorem dX8_weigh_29 : decode cX8_weigh 29 = .ok (.aload_n 0, 1) := by decide +kernel
theorem dX8_weigh_30 : decode cX8_weigh 30 = .ok (.getfield 16, 3) := by decide +kernel
theorem dX8_weigh_33 : decode cX8_weigh 33 = .ok (.iload_n 1, 1) := by decide +kernel
theorem dX8_weigh_34 : decode cX8_weigh 34 = .ok (.iaload, 1) := by decide +kernel
theorem dX8_weigh_35 : decode cX8_weigh 35 = .ok (.istore_n 2, 1) := by decide +kernel
theorem dX8_weigh_36 : decode cX8_weigh 36 = .ok (.aload_n 0, 1) := by decide +kernel
theorem dX8_weigh_37 : decode cX8_weigh 37 = .ok (.iload_n 1, 1) := by decide +kernel
theorem dX8_weigh_38 : decode cX8_weigh 38 = .ok (.invokevirtual 125, 3) := by decide +kernel
theorem dX8_weigh_41 : decode cX8_weigh 41 = .ok (.istore_n 3, 1) := by decide +kernel
theorem dX8_weigh_42 : decode cX8_weigh 42 = .ok (.iconst 0, 1) := by decide +kernel
theorem dX8_weigh_43 : decode cX8_weigh 43 = .ok (.istore 4, 2) := by decide +kernel
theorem dX8_weigh_45 : decode cX8_weigh 45 = .ok (.iload 4, 2) := by decide +kernel
theorem dX8_weigh_47 : decode cX8_weigh 47 = .ok (.iload_n 3, 1) := by decide +kernel
theorem dX8_weigh_48 : decode cX8_weigh 48 = .ok (.if_icmp .ge 144, 3) := by decide +kernel
theorem dX8_weigh_51 : decode cX8_weigh 51 = .ok (.aload_n 0, 1) := by decide +kernel
theorem dX8_weigh_52 : decode cX8_weigh 52 = .ok (.getfield 13, 3) := by decide +kernel
theorem dX8_weigh_55 : decode cX8_weigh 55 = .ok (.bipush 6, 2) := by decide +kernel
theorem dX8_weigh_57 : decode cX8_weigh 57 = .ok (.iload_n 2, 1) := by decide +kernel
theorem dX8_weigh_58 : decode cX8_weigh 58 = .ok (.imul, 1) := by decide +kernel
theorem dX8_weigh_59 : decode cX8_weigh 59 = .ok (.iload 4, 2) := by decide +kernel
theorem dX8_weigh_61 : decode cX8_weigh 61 = .ok (.iadd, 1) := by decide +kernel
theorem dX8_weigh_62 : decode cX8_weigh 62 = .ok (.iaload, 1) := by decide +kernel
theorem dX8_weigh_63 : decode cX8_weigh 63 = .ok (.istore 5, 2) := by decide +kernel
theorem dX8_weigh_65 : decode cX8_weigh 65 = .ok (.iconst 0, 1) := by decide +kernel
theorem dX8_weigh_66 : decode cX8_weigh 66 = .ok (.istore 6, 2) := by decide +kernel
theorem dX8_weigh_68 : decode cX8_weigh 68 = .ok (.iload 6, 2) := by decide +kernel
theorem dX8_weigh_70 : decode cX8_weigh 70 = .ok (.bipush 48, 2) := by decide +kernel
theorem dX8_weigh_72 : decode cX8_weigh 72 = .ok (.if_icmp .gt 84, 3) := by decide +kernel
theorem dX8_weigh_75 : decode cX8_weigh 75 = .ok (.aload_n 0, 1) := by decide +kernel
theorem dX8_weigh_76 : decode cX8_weigh 76 = .ok (.getfield 61, 3) := by decide +kernel
theorem dX8_weigh_79 : decode cX8_weigh 79 = .ok (.iload 6, 2) := by decide +kernel
theorem dX8_weigh_81 : decode cX8_weigh 81 = .ok (.laload, 1) := by decide +kernel
theorem dX8_weigh_82 : decode cX8_weigh 82 = .ok (.aload_n 0, 1) := by decide +kernel
theorem dX8_weigh_83 : decode cX8_weigh 83 = .ok (.getfield 22, 3) := by decide +kernel
theorem dX8_weigh_86 : decode cX8_weigh 86 = .ok (.iload 5, 2) := by decide +kernel
theorem dX8_weigh_88 : decode cX8_weigh 88 = .ok (.iaload, 1) := by decide +kernel
theorem dX8_weigh_89 : decode cX8_weigh 89 = .ok (.i2l, 1) := by decide +kernel
theorem dX8_weigh_90 : decode cX8_weigh 90 = .ok (.lmul, 1) := by decide +kernel
theorem dX8_weigh_91 : decode cX8_weigh 91 = .ok (.lstore 7, 2) := by decide +kernel
theorem dX8_weigh_93 : decode cX8_weigh 93 = .ok (.iload 6, 2) := by decide +kernel
theorem dX8_weigh_95 : decode cX8_weigh 95 = .ok (.aload_n 0, 1) := by decide +kernel
theorem dX8_weigh_96 : decode cX8_weigh 96 = .ok (.getfield 19, 3) := by decide +kernel
theorem dX8_weigh_99 : decode cX8_weigh 99 = .ok (.iload 5, 2) := by decide +kernel
theorem dX8_weigh_101 : decode cX8_weigh 101 = .ok (.iaload, 1) := by decide +kernel
theorem dX8_weigh_102 : decode cX8_weigh 102 = .ok (.if_icmp .lt 33, 3) := by decide +kernel
theorem dX8_weigh_105 : decode cX8_weigh 105 = .ok (.aload_n 0, 1) := by decide +kernel
theorem dX8_weigh_106 : decode cX8_weigh 106 = .ok (.getfield 61, 3) := by decide +kernel
theorem dX8_weigh_109 : decode cX8_weigh 109 = .ok (.iload 6, 2) := by decide +kernel
theorem dX8_weigh_111 : decode cX8_weigh 111 = .ok (.aload_n 0, 1) := by decide +kernel
theorem dX8_weigh_112 : decode cX8_weigh 112 = .ok (.getfield 19, 3) := by decide +kernel
theorem dX8_weigh_115 : decode cX8_weigh 115 = .ok (.iload 5, 2) := by decide +kernel
theorem dX8_weigh_117 : decode cX8_weigh 117 = .ok (.iaload, 1) := by decide +kernel
theorem dX8_weigh_118 : decode cX8_weigh 118 = .ok (.isub, 1) := by decide +kernel
theorem dX8_weigh_119 : decode cX8_weigh 119 = .ok (.laload, 1) := by decide +kernel
theorem dX8_weigh_120 : decode cX8_weigh 120 = .ok (.bipush 100, 2) := by decide +kernel
theorem dX8_weigh_122 : decode cX8_weigh 122 = .ok (.aload_n 0, 1) := by decide +kernel
theorem dX8_weigh_123 : decode cX8_weigh 123 = .ok (.getfield 22, 3) := by decide +kernel
theorem dX8_weigh_126 : decode cX8_weigh 126 = .ok (.iload 5, 2) := by decide +kernel
theorem dX8_weigh_128 : decode cX8_weigh 128 = .ok (.iaload, 1) := by decide +kernel
theorem dX8_weigh_129 : decode cX8_weigh 129 = .ok (.isub, 1) := by decide +kernel
theorem dX8_weigh_130 : decode cX8_weigh 130 = .ok (.i2l, 1) := by decide +kernel
theorem dX8_weigh_131 : decode cX8_weigh 131 = .ok (.lmul, 1) := by decide +kernel
theorem dX8_weigh_132 : decode cX8_weigh 132 = .ok (.goto 4, 3) := by decide +kernel
theorem dX8_weigh_135 : decode cX8_weigh 135 = .ok (.lconst 0, 1) := by decide +kernel
theorem dX8_weigh_136 : decode cX8_weigh 136 = .ok (.lstore 9, 2) := by decide +kernel
theorem dX8_weigh_138 : decode cX8_weigh 138 = .ok (.aload_n 0, 1) := by decide +kernel
theorem dX8_weigh_139 : decode cX8_weigh 139 = .ok (.getfield 65, 3) := by decide +kernel
theorem dX8_weigh_142 : decode cX8_weigh 142 = .ok (.iload 6, 2) := by decide +kernel
theorem dX8_weigh_144 : decode cX8_weigh 144 = .ok (.lload 7, 2) := by decide +kernel
theorem dX8_weigh_146 : decode cX8_weigh 146 = .ok (.lload 9, 2) := by decide +kernel
theorem dX8_weigh_148 : decode cX8_weigh 148 = .ok (.ladd, 1) := by decide +kernel
theorem dX8_weigh_149 : decode cX8_weigh 149 = .ok (.lastore, 1) := by decide +kernel
theorem dX8_weigh_150 : decode cX8_weigh 150 = .ok (.iinc 6 1, 3) := by decide +kernel
theorem dX8_weigh_153 : decode cX8_weigh 153 = .ok (.goto (-85), 3) := by decide +kernel
theorem dX8_weigh_156 : decode cX8_weigh 156 = .ok (.iconst 0, 1) := by decide +kernel
theorem dX8_weigh_157 : decode cX8_weigh 157 = .ok (.istore 6, 2) := by decide +kernel
theorem dX8_weigh_159 : decode cX8_weigh 159 = .ok (.iload 6, 2) := by decide +kernel
theorem dX8_weigh_161 : decode cX8_weigh 161 = .ok (.bipush 48, 2) := by decide +kernel
theorem dX8_weigh_163 : decode cX8_weigh 163 = .ok (.if_icmp .gt 23, 3) := by decide +kernel
theorem dX8_weigh_166 : decode cX8_weigh 166 = .ok (.aload_n 0, 1) := by decide +kernel
theorem dX8_weigh_167 : decode cX8_weigh 167 = .ok (.getfield 61, 3) := by decide +kernel
theorem dX8_weigh_170 : decode cX8_weigh 170 = .ok (.iload 6, 2) := by decide +kernel
theorem dX8_weigh_172 : decode cX8_weigh 172 = .ok (.aload_n 0, 1) := by decide +kernel
theorem dX8_weigh_173 : decode cX8_weigh 173 = .ok (.getfield 65, 3) := by decide +kernel
theorem dX8_weigh_176 : decode cX8_weigh 176 = .ok (.iload 6, 2) := by decide +kernel
theorem dX8_weigh_178 : decode cX8_weigh 178 = .ok (.laload, 1) := by decide +kernel
theorem dX8_weigh_179 : decode cX8_weigh 179 = .ok (.lastore, 1) := by decide +kernel
theorem dX8_weigh_180 : decode cX8_weigh 180 = .ok (.iinc 6 1, 3) := by decide +kernel
theorem dX8_weigh_183 : decode cX8_weigh 183 = .ok (.goto (-24), 3) := by decide +kernel
theorem dX8_weigh_186 : decode cX8_weigh 186 = .ok (.iinc 4 1, 3) := by decide +kernel
theorem dX8_weigh_189 : decode cX8_weigh 189 = .ok (.goto (-144), 3) := by decide +kernel
theorem dX8_weigh_192 : decode cX8_weigh 192 = .ok (.return_, 1) := by decide +kernel
theorem dX8_weight_0 : decode cX8_weight 0 = .ok (.aload_n 0, 1) := by decide +kernel
theorem dX8_weight_1 : decode cX8_weight 1 = .ok (.iload_n 1, 1) := by decide +kernel
theorem dX8_weight_2 : decode cX8_weight 2 = .ok (.invokevirtual 118, 3) := by decide +kernel
theorem dX8_weight_5 : decode cX8_weight 5 = .ok (.ifCond .eq 13, 3) := by decide +kernel
theorem dX8_weight_8 : decode cX8_weight 8 = .ok (.iload_n 2, 1) := by decide +kernel
theorem dX8_weight_9 : decode cX8_weight 9 = .ok (.iconst 0, 1) := by decide +kernel
theorem dX8_weight_10 : decode cX8_weight 10 = .ok (.bipush 48, 2) := by decide +kernel
theorem dX8_weight_12 : decode cX8_weight 12 = .ok (.invokestatic 92, 3) := by decide +kernel
theorem dX8_weight_15 : decode cX8_weight 15 = .ok (.ifCond .ne 7, 3) := by decide +kernel
theorem dX8_weight_18 : decode cX8_weight 18 = .ok (.ldc2_w 107, 3) := by decide +kernel
theorem dX8_weight_21 : decode cX8_weight 21 = .ok (.lreturn, 1) := by decide +kernel
theorem dX8_weight_22 : decode cX8_weight 22 = .ok (.aload_n 0, 1) := by decide +kernel
theorem dX8_weight_23 : decode cX8_weight 23 = .ok (.iload_n 1, 1) := by decide +kernel
theorem dX8_weight_24 : decode cX8_weight 24 = .ok (.invokevirtual 131, 3) := by decide +kernel
theorem dX8_weight_27 : decode cX8_weight 27 = .ok (.aload_n 0, 1) := by decide +kernel
theorem dX8_weight_28 : decode cX8_weight 28 = .ok (.getfield 61, 3) := by decide +kernel
theorem dX8_weight_31 : decode cX8_weight 31 = .ok (.iload_n 2, 1) := by decide +kernel
theorem dX8_weight_32 : decode cX8_weight 32 = .ok (.laload, 1) := by decide +kernel
theorem dX8_weight_33 : decode cX8_weight 33 = .ok (.lreturn, 1) := by decide +kernel
theorem dX8_weightOf_0 : decode cX8_weightOf 0 = .ok (.iconst 0, 1) := by decide +kernel
theorem dX8_weightOf_1 : decode cX8_weightOf 1 = .ok (.istore_n 2, 1) := by decide +kernel
theorem dX8_weightOf_2 : decode cX8_weightOf 2 = .ok (.iconst 0, 1) := by decide +kernel
theorem dX8_weightOf_3 : decode cX8_weightOf 3 = .ok (.istore_n 3, 1) := by decide +kernel
theorem dX8_weightOf_4 : decode cX8_weightOf 4 = .ok (.iload_n 3, 1) := by decide +kernel
theorem dX8_weightOf_5 : decode cX8_weightOf 5 = .ok (.aload_n 0, 1) := by decide +kernel
theorem dX8_weightOf_6 : decode cX8_weightOf 6 = .ok (.getfield 100, 3) := by decide +kernel
theorem dX8_weightOf_9 : decode cX8_weightOf 9 = .ok (.if_icmp .ge 50, 3) := by decide +kernel
theorem dX8_weightOf_12 : decode cX8_weightOf 12 = .ok (.aload_n 0, 1) := by decide +kernel
theorem dX8_weightOf_13 : decode cX8_weightOf 13 = .ok (.iload_n 1, 1) := by decide +kernel
theorem dX8_weightOf_14 : decode cX8_weightOf 14 = .ok (.iload_n 3, 1) := by decide +kernel
theorem dX8_weightOf_15 : decode cX8_weightOf 15 = .ok (.invokevirtual 121, 3) := by decide +kernel
theorem dX8_weightOf_18 : decode cX8_weightOf 18 = .ok (.ifCond .eq 35, 3) := by decide +kernel
theorem dX8_weightOf_21 : decode cX8_weightOf 21 = .ok (.iload_n 2, 1) := by decide +kernel
theorem dX8_weightOf_22 : decode cX8_weightOf 22 = .ok (.aload_n 0, 1) := by decide +kernel
theorem dX8_weightOf_23 : decode cX8_weightOf 23 = .ok (.getfield 31, 3) := by decide +kernel
theorem dX8_weightOf_26 : decode cX8_weightOf 26 = .ok (.iload_n 3, 1) := by decide +kernel
theorem dX8_weightOf_27 : decode cX8_weightOf 27 = .ok (.iaload, 1) := by decide +kernel
theorem dX8_weightOf_28 : decode cX8_weightOf 28 = .ok (.iconst 3, 1) := by decide +kernel
theorem dX8_weightOf_29 : decode cX8_weightOf 29 = .ok (.if_icmp .lt 7, 3) := by decide +kernel
theorem dX8_weightOf_32 : decode cX8_weightOf 32 = .ok (.iconst 3, 1) := by decide +kernel
theorem dX8_weightOf_33 : decode cX8_weightOf 33 = .ok (.goto 18, 3) := by decide +kernel
theorem dX8_weightOf_36 : decode cX8_weightOf 36 = .ok (.aload_n 0, 1) := by decide +kernel
theorem dX8_weightOf_37 : decode cX8_weightOf 37 = .ok (.getfield 31, 3) := by decide +kernel
theorem dX8_weightOf_40 : decode cX8_weightOf 40 = .ok (.iload_n 3, 1) := by decide +kernel
theorem dX8_weightOf_41 : decode cX8_weightOf 41 = .ok (.iaload, 1) := by decide +kernel
theorem dX8_weightOf_42 : decode cX8_weightOf 42 = .ok (.iconst 1, 1) := by decide +kernel
theorem dX8_weightOf_43 : decode cX8_weightOf 43 = .ok (.if_icmp .ne 7, 3) := by decide +kernel
theorem dX8_weightOf_46 : decode cX8_weightOf 46 = .ok (.iconst 2, 1) := by decide +kernel
theorem dX8_weightOf_47 : decode cX8_weightOf 47 = .ok (.goto 4, 3) := by decide +kernel
theorem dX8_weightOf_50 : decode cX8_weightOf 50 = .ok (.iconst 1, 1) := by decide +kernel
theorem dX8_weightOf_51 : decode cX8_weightOf 51 = .ok (.iadd, 1) := by decide +kernel
theorem dX8_weightOf_52 : decode cX8_weightOf 52 = .ok (.istore_n 2, 1) := by decide +kernel
theorem dX8_weightOf_53 : decode cX8_weightOf 53 = .ok (.iinc 3 1, 3) := by decide +kernel
theorem dX8_weightOf_56 : decode cX8_weightOf 56 = .ok (.goto (-52), 3) := by decide +kernel
theorem dX8_weightOf_59 : decode cX8_weightOf 59 = .ok (.iload_n 2, 1) := by decide +kernel
theorem dX8_weightOf_60 : decode cX8_weightOf 60 = .ok (.ireturn, 1) := by decide +kernel
theorem dX8_costOf_0 : decode cX8_costOf 0 = .ok (.lconst 0, 1) := by decide +kernel
theorem dX8_costOf_1 : decode cX8_costOf 1 = .ok (.lstore_n 3, 1) := by decide +kernel
theorem dX8_costOf_2 : decode cX8_costOf 2 = .ok (.aload_n 0, 1) := by decide +kernel
theorem dX8_costOf_3 : decode cX8_costOf 3 = .ok (.iload_n 1, 1) := by decide +kernel
theorem dX8_costOf_4 : decode cX8_costOf 4 = .ok (.invokevirtual 135, 3) := by decide +kernel
theorem dX8_costOf_7 : decode cX8_costOf 7 = .ok (.istore 5, 2) := by decide +kernel
theorem dX8_costOf_9 : decode cX8_costOf 9 = .ok (.iconst 0, 1) := by decide +kernel
theorem dX8_costOf_10 : decode cX8_costOf 10 = .ok (.istore 6, 2) := by decide +kernel
theorem dX8_costOf_12 : decode cX8_costOf 12 = .ok (.iload 6, 2) := by decide +kernel
theorem dX8_costOf_14 : decode cX8_costOf 14 = .ok (.bipush 48, 2) := by decide +kernel
theorem dX8_costOf_16 : decode cX8_costOf 16 = .ok (.if_icmp .gt 59, 3) := by decide +kernel
theorem dX8_costOf_19 : decode cX8_costOf 19 = .ok (.lload_n 3, 1) := by decide +kernel
theorem dX8_costOf_20 : decode cX8_costOf 20 = .ok (.aload_n 0, 1) := by decide +kernel
theorem dX8_costOf_21 : decode cX8_costOf 21 = .ok (.getfield 61, 3) := by decide +kernel
theorem dX8_costOf_24 : decode cX8_costOf 24 = .ok (.iload 6, 2) := by decide +kernel
theorem dX8_costOf_26 : decode cX8_costOf 26 = .ok (.laload, 1) := by decide +kernel
theorem dX8_costOf_27 : decode cX8_costOf 27 = .ok (.iload 6, 2) := by decide +kernel
theorem dX8_costOf_29 : decode cX8_costOf 29 = .ok (.iload_n 2, 1) := by decide +kernel
theorem dX8_costOf_30 : decode cX8_costOf 30 = .ok (.if_icmp .le 23, 3) := by decide +kernel
theorem dX8_costOf_33 : decode cX8_costOf 33 = .ok (.iload 6, 2) := by decide +kernel
theorem dX8_costOf_35 : decode cX8_costOf 35 = .ok (.iload_n 2, 1) := by decide +kernel
theorem dX8_costOf_36 : decode cX8_costOf 36 = .ok (.isub, 1) := by decide +kernel
theorem dX8_costOf_37 : decode cX8_costOf 37 = .ok (.i2l, 1) := by decide +kernel
theorem dX8_costOf_38 : decode cX8_costOf 38 = .ok (.aload_n 0, 1) := by decide +kernel
theorem dX8_costOf_39 : decode cX8_costOf 39 = .ok (.getfield 43, 3) := by decide +kernel
theorem dX8_costOf_42 : decode cX8_costOf 42 = .ok (.iconst 0, 1) := by decide +kernel
theorem dX8_costOf_43 : decode cX8_costOf 43 = .ok (.iaload, 1) := by decide +kernel
theorem dX8_costOf_44 : decode cX8_costOf 44 = .ok (.i2l, 1) := by decide +kernel
theorem dX8_costOf_45 : decode cX8_costOf 45 = .ok (.lmul, 1) := by decide +kernel
theorem dX8_costOf_46 : decode cX8_costOf 46 = .ok (.iload 5, 2) := by decide +kernel
theorem dX8_costOf_48 : decode cX8_costOf 48 = .ok (.i2l, 1) := by decide +kernel
theorem dX8_costOf_49 : decode cX8_costOf 49 = .ok (.lmul, 1) := by decide +kernel
theorem dX8_costOf_50 : decode cX8_costOf 50 = .ok (.goto 16, 3) := by decide +kernel
theorem dX8_costOf_53 : decode cX8_costOf 53 = .ok (.iload_n 2, 1) := by decide +kernel
theorem dX8_costOf_54 : decode cX8_costOf 54 = .ok (.iload 6, 2) := by decide +kernel
theorem dX8_costOf_56 : decode cX8_costOf 56 = .ok (.isub, 1) := by decide +kernel
theorem dX8_costOf_57 : decode cX8_costOf 57 = .ok (.i2l, 1) := by decide +kernel
theorem dX8_costOf_58 : decode cX8_costOf 58 = .ok (.aload_n 0, 1) := by decide +kernel
theorem dX8_costOf_59 : decode cX8_costOf 59 = .ok (.getfield 43, 3) := by decide +kernel
theorem dX8_costOf_62 : decode cX8_costOf 62 = .ok (.iconst 1, 1) := by decide +kernel
end
section
theorem dX8_costOf_63 : decode cX8_costOf 63 = .ok (.iaload, 1) := by decide +kernel
theorem dX8_costOf_64 : decode cX8_costOf 64 = .ok (.i2l, 1) := by decide +kernel
theorem dX8_costOf_65 : decode cX8_costOf 65 = .ok (.lmul, 1) := by decide +kernel
theorem dX8_costOf_66 : decode cX8_costOf 66 = .ok (.lmul, 1) := by decide +kernel
theorem dX8_costOf_67 : decode cX8_costOf 67 = .ok (.ladd, 1) := by decide +kernel
theorem dX8_costOf_68 : decode cX8_costOf 68 = .ok (.lstore_n 3, 1) := by decide +kernel
theorem dX8_costOf_69 : decode cX8_costOf 69 = .ok (.iinc 6 1, 3) := by decide +kernel
theorem dX8_costOf_72 : decode cX8_costOf 72 = .ok (.goto (-60), 3) := by decide +kernel
theorem dX8_costOf_75 : decode cX8_costOf 75 = .ok (.lload_n 3, 1) := by decide +kernel
theorem dX8_costOf_76 : decode cX8_costOf 76 = .ok (.lreturn, 1) := by decide +kernel
theorem dX8_cost_0 : decode cX8_cost 0 = .ok (.aload_n 0, 1) := by decide +kernel
theorem dX8_cost_1 : decode cX8_cost 1 = .ok (.iload_n 1, 1) := by decide +kernel
theorem dX8_cost_2 : decode cX8_cost 2 = .ok (.invokevirtual 118, 3) := by decide +kernel
theorem dX8_cost_5 : decode cX8_cost 5 = .ok (.ifCond .eq 13, 3) := by decide +kernel
theorem dX8_cost_8 : decode cX8_cost 8 = .ok (.iload_n 2, 1) := by decide +kernel
theorem dX8_cost_9 : decode cX8_cost 9 = .ok (.iconst 0, 1) := by decide +kernel
theorem dX8_cost_10 : decode cX8_cost 10 = .ok (.bipush 48, 2) := by decide +kernel
theorem dX8_cost_12 : decode cX8_cost 12 = .ok (.invokestatic 92, 3) := by decide +kernel
theorem dX8_cost_15 : decode cX8_cost 15 = .ok (.ifCond .ne 7, 3) := by decide +kernel
theorem dX8_cost_18 : decode cX8_cost 18 = .ok (.ldc2_w 107, 3) := by decide +kernel
theorem dX8_cost_21 : decode cX8_cost 21 = .ok (.lreturn, 1) := by decide +kernel
theorem dX8_cost_22 : decode cX8_cost 22 = .ok (.aload_n 0, 1) := by decide +kernel
theorem dX8_cost_23 : decode cX8_cost 23 = .ok (.iload_n 1, 1) := by decide +kernel
theorem dX8_cost_24 : decode cX8_cost 24 = .ok (.invokevirtual 131, 3) := by decide +kernel
theorem dX8_cost_27 : decode cX8_cost 27 = .ok (.aload_n 0, 1) := by decide +kernel
theorem dX8_cost_28 : decode cX8_cost 28 = .ok (.iload_n 1, 1) := by decide +kernel
theorem dX8_cost_29 : decode cX8_cost 29 = .ok (.iload_n 2, 1) := by decide +kernel
theorem dX8_cost_30 : decode cX8_cost 30 = .ok (.invokevirtual 138, 3) := by decide +kernel
theorem dX8_cost_33 : decode cX8_cost 33 = .ok (.lreturn, 1) := by decide +kernel
theorem dX8_bestFor_0 : decode cX8_bestFor 0 = .ok (.iconst 0, 1) := by decide +kernel
theorem dX8_bestFor_1 : decode cX8_bestFor 1 = .ok (.istore_n 2, 1) := by decide +kernel
theorem dX8_bestFor_2 : decode cX8_bestFor 2 = .ok (.iconst 0, 1) := by decide +kernel
theorem dX8_bestFor_3 : decode cX8_bestFor 3 = .ok (.istore_n 3, 1) := by decide +kernel
theorem dX8_bestFor_4 : decode cX8_bestFor 4 = .ok (.iload_n 3, 1) := by decide +kernel
theorem dX8_bestFor_5 : decode cX8_bestFor 5 = .ok (.aload_n 0, 1) := by decide +kernel
theorem dX8_bestFor_6 : decode cX8_bestFor 6 = .ok (.getfield 100, 3) := by decide +kernel
theorem dX8_bestFor_9 : decode cX8_bestFor 9 = .ok (.if_icmp .ge 39, 3) := by decide +kernel
theorem dX8_bestFor_12 : decode cX8_bestFor 12 = .ok (.aload_n 0, 1) := by decide +kernel
theorem dX8_bestFor_13 : decode cX8_bestFor 13 = .ok (.iload_n 1, 1) := by decide +kernel
theorem dX8_bestFor_14 : decode cX8_bestFor 14 = .ok (.iload_n 3, 1) := by decide +kernel
theorem dX8_bestFor_15 : decode cX8_bestFor 15 = .ok (.invokevirtual 121, 3) := by decide +kernel
theorem dX8_bestFor_18 : decode cX8_bestFor 18 = .ok (.ifCond .eq 22, 3) := by decide +kernel
theorem dX8_bestFor_21 : decode cX8_bestFor 21 = .ok (.aload_n 0, 1) := by decide +kernel
theorem dX8_bestFor_22 : decode cX8_bestFor 22 = .ok (.getfield 34, 3) := by decide +kernel
theorem dX8_bestFor_25 : decode cX8_bestFor 25 = .ok (.iload_n 3, 1) := by decide +kernel
theorem dX8_bestFor_26 : decode cX8_bestFor 26 = .ok (.iaload, 1) := by decide +kernel
theorem dX8_bestFor_27 : decode cX8_bestFor 27 = .ok (.iload_n 2, 1) := by decide +kernel
theorem dX8_bestFor_28 : decode cX8_bestFor 28 = .ok (.if_icmp .le 12, 3) := by decide +kernel
theorem dX8_bestFor_31 : decode cX8_bestFor 31 = .ok (.aload_n 0, 1) := by decide +kernel
theorem dX8_bestFor_32 : decode cX8_bestFor 32 = .ok (.getfield 34, 3) := by decide +kernel
theorem dX8_bestFor_35 : decode cX8_bestFor 35 = .ok (.iload_n 3, 1) := by decide +kernel
theorem dX8_bestFor_36 : decode cX8_bestFor 36 = .ok (.iaload, 1) := by decide +kernel
theorem dX8_bestFor_37 : decode cX8_bestFor 37 = .ok (.goto 4, 3) := by decide +kernel
theorem dX8_bestFor_40 : decode cX8_bestFor 40 = .ok (.iload_n 2, 1) := by decide +kernel
theorem dX8_bestFor_41 : decode cX8_bestFor 41 = .ok (.istore_n 2, 1) := by decide +kernel
theorem dX8_bestFor_42 : decode cX8_bestFor 42 = .ok (.iinc 3 1, 3) := by decide +kernel
theorem dX8_bestFor_45 : decode cX8_bestFor 45 = .ok (.goto (-41), 3) := by decide +kernel
theorem dX8_bestFor_48 : decode cX8_bestFor 48 = .ok (.aload_n 0, 1) := by decide +kernel
theorem dX8_bestFor_49 : decode cX8_bestFor 49 = .ok (.iload_n 1, 1) := by decide +kernel
theorem dX8_bestFor_50 : decode cX8_bestFor 50 = .ok (.invokevirtual 131, 3) := by decide +kernel
theorem dX8_bestFor_53 : decode cX8_bestFor 53 = .ok (.iload_n 2, 1) := by decide +kernel
theorem dX8_bestFor_54 : decode cX8_bestFor 54 = .ok (.istore_n 3, 1) := by decide +kernel
theorem dX8_bestFor_55 : decode cX8_bestFor 55 = .ok (.aload_n 0, 1) := by decide +kernel
theorem dX8_bestFor_56 : decode cX8_bestFor 56 = .ok (.iload_n 1, 1) := by decide +kernel
theorem dX8_bestFor_57 : decode cX8_bestFor 57 = .ok (.iload_n 2, 1) := by decide +kernel
theorem dX8_bestFor_58 : decode cX8_bestFor 58 = .ok (.invokevirtual 138, 3) := by decide +kernel
theorem dX8_bestFor_61 : decode cX8_bestFor 61 = .ok (.lstore 4, 2) := by decide +kernel
theorem dX8_bestFor_63 : decode cX8_bestFor 63 = .ok (.iload_n 2, 1) := by decide +kernel
theorem dX8_bestFor_64 : decode cX8_bestFor 64 = .ok (.iconst 1, 1) := by decide +kernel
theorem dX8_bestFor_65 : decode cX8_bestFor 65 = .ok (.iadd, 1) := by decide +kernel
theorem dX8_bestFor_66 : decode cX8_bestFor 66 = .ok (.istore 6, 2) := by decide +kernel
theorem dX8_bestFor_68 : decode cX8_bestFor 68 = .ok (.iload 6, 2) := by decide +kernel
theorem dX8_bestFor_70 : decode cX8_bestFor 70 = .ok (.bipush 48, 2) := by decide +kernel
theorem dX8_bestFor_72 : decode cX8_bestFor 72 = .ok (.if_icmp .gt 33, 3) := by decide +kernel
theorem dX8_bestFor_75 : decode cX8_bestFor 75 = .ok (.aload_n 0, 1) := by decide +kernel
theorem dX8_bestFor_76 : decode cX8_bestFor 76 = .ok (.iload_n 1, 1) := by decide +kernel
theorem dX8_bestFor_77 : decode cX8_bestFor 77 = .ok (.iload 6, 2) := by decide +kernel
theorem dX8_bestFor_79 : decode cX8_bestFor 79 = .ok (.invokevirtual 138, 3) := by decide +kernel
theorem dX8_bestFor_82 : decode cX8_bestFor 82 = .ok (.lstore 7, 2) := by decide +kernel
theorem dX8_bestFor_84 : decode cX8_bestFor 84 = .ok (.lload 7, 2) := by decide +kernel
theorem dX8_bestFor_86 : decode cX8_bestFor 86 = .ok (.lload 4, 2) := by decide +kernel
theorem dX8_bestFor_88 : decode cX8_bestFor 88 = .ok (.lcmp, 1) := by decide +kernel
theorem dX8_bestFor_89 : decode cX8_bestFor 89 = .ok (.ifCond .ge 10, 3) := by decide +kernel
theorem dX8_bestFor_92 : decode cX8_bestFor 92 = .ok (.lload 7, 2) := by decide +kernel
theorem dX8_bestFor_94 : decode cX8_bestFor 94 = .ok (.lstore 4, 2) := by decide +kernel
theorem dX8_bestFor_96 : decode cX8_bestFor 96 = .ok (.iload 6, 2) := by decide +kernel
theorem dX8_bestFor_98 : decode cX8_bestFor 98 = .ok (.istore_n 3, 1) := by decide +kernel
theorem dX8_bestFor_99 : decode cX8_bestFor 99 = .ok (.iinc 6 1, 3) := by decide +kernel
theorem dX8_bestFor_102 : decode cX8_bestFor 102 = .ok (.goto (-34), 3) := by decide +kernel
theorem dX8_bestFor_105 : decode cX8_bestFor 105 = .ok (.iload_n 3, 1) := by decide +kernel
theorem dX8_bestFor_106 : decode cX8_bestFor 106 = .ok (.ireturn, 1) := by decide +kernel
theorem dX8_best_0 : decode cX8_best 0 = .ok (.aload_n 0, 1) := by decide +kernel
theorem dX8_best_1 : decode cX8_best 1 = .ok (.iload_n 1, 1) := by decide +kernel
theorem dX8_best_2 : decode cX8_best 2 = .ok (.invokevirtual 118, 3) := by decide +kernel
theorem dX8_best_5 : decode cX8_best 5 = .ok (.ifCond .eq 12, 3) := by decide +kernel
theorem dX8_best_8 : decode cX8_best 8 = .ok (.aload_n 0, 1) := by decide +kernel
theorem dX8_best_9 : decode cX8_best 9 = .ok (.iload_n 1, 1) := by decide +kernel
theorem dX8_best_10 : decode cX8_best 10 = .ok (.invokevirtual 142, 3) := by decide +kernel
theorem dX8_best_13 : decode cX8_best 13 = .ok (.i2l, 1) := by decide +kernel
theorem dX8_best_14 : decode cX8_best 14 = .ok (.goto 6, 3) := by decide +kernel
theorem dX8_best_17 : decode cX8_best 17 = .ok (.ldc2_w 107, 3) := by decide +kernel
theorem dX8_best_20 : decode cX8_best 20 = .ok (.lreturn, 1) := by decide +kernel
theorem dX8_call_0 : decode cX8_call 0 = .ok (.aload_n 0, 1) := by decide +kernel
theorem dX8_call_1 : decode cX8_call 1 = .ok (.iload_n 1, 1) := by decide +kernel
theorem dX8_call_2 : decode cX8_call 2 = .ok (.invokevirtual 115, 3) := by decide +kernel
theorem dX8_call_5 : decode cX8_call 5 = .ok (.ifCond .eq 21, 3) := by decide +kernel
theorem dX8_call_8 : decode cX8_call 8 = .ok (.aload_n 0, 1) := by decide +kernel
theorem dX8_call_9 : decode cX8_call 9 = .ok (.iload_n 2, 1) := by decide +kernel
theorem dX8_call_10 : decode cX8_call 10 = .ok (.invokevirtual 118, 3) := by decide +kernel
theorem dX8_call_13 : decode cX8_call 13 = .ok (.ifCond .eq 13, 3) := by decide +kernel
theorem dX8_call_16 : decode cX8_call 16 = .ok (.iload_n 3, 1) := by decide +kernel
theorem dX8_call_17 : decode cX8_call 17 = .ok (.iconst 0, 1) := by decide +kernel
theorem dX8_call_18 : decode cX8_call 18 = .ok (.bipush 48, 2) := by decide +kernel
theorem dX8_call_20 : decode cX8_call 20 = .ok (.invokestatic 92, 3) := by decide +kernel
theorem dX8_call_23 : decode cX8_call 23 = .ok (.ifCond .ne 7, 3) := by decide +kernel
theorem dX8_call_26 : decode cX8_call 26 = .ok (.ldc2_w 107, 3) := by decide +kernel
theorem dX8_call_29 : decode cX8_call 29 = .ok (.lreturn, 1) := by decide +kernel
theorem dX8_call_30 : decode cX8_call 30 = .ok (.aload_n 0, 1) := by decide +kernel
theorem dX8_call_31 : decode cX8_call 31 = .ok (.iload_n 2, 1) := by decide +kernel
theorem dX8_call_32 : decode cX8_call 32 = .ok (.iload_n 1, 1) := by decide +kernel
theorem dX8_call_33 : decode cX8_call 33 = .ok (.invokevirtual 121, 3) := by decide +kernel
theorem dX8_call_36 : decode cX8_call 36 = .ok (.ifCond .eq 13, 3) := by decide +kernel
theorem dX8_call_39 : decode cX8_call 39 = .ok (.iload_n 3, 1) := by decide +kernel
theorem dX8_call_40 : decode cX8_call 40 = .ok (.aload_n 0, 1) := by decide +kernel
theorem dX8_call_41 : decode cX8_call 41 = .ok (.getfield 34, 3) := by decide +kernel
theorem dX8_call_44 : decode cX8_call 44 = .ok (.iload_n 1, 1) := by decide +kernel
theorem dX8_call_45 : decode cX8_call 45 = .ok (.iaload, 1) := by decide +kernel
theorem dX8_call_46 : decode cX8_call 46 = .ok (.if_icmp .ge 7, 3) := by decide +kernel
theorem dX8_call_49 : decode cX8_call 49 = .ok (.ldc2_w 145, 3) := by decide +kernel
theorem dX8_call_52 : decode cX8_call 52 = .ok (.lreturn, 1) := by decide +kernel
theorem dX8_call_53 : decode cX8_call 53 = .ok (.bipush 10, 2) := by decide +kernel
theorem dX8_call_55 : decode cX8_call 55 = .ok (.iload_n 2, 1) := by decide +kernel
theorem dX8_call_56 : decode cX8_call 56 = .ok (.imul, 1) := by decide +kernel
theorem dX8_call_57 : decode cX8_call 57 = .ok (.iload_n 1, 1) := by decide +kernel
theorem dX8_call_58 : decode cX8_call 58 = .ok (.iadd, 1) := by decide +kernel
theorem dX8_call_59 : decode cX8_call 59 = .ok (.istore 4, 2) := by decide +kernel
theorem dX8_call_61 : decode cX8_call 61 = .ok (.aload_n 0, 1) := by decide +kernel
theorem dX8_call_62 : decode cX8_call 62 = .ok (.getfield 40, 3) := by decide +kernel
theorem dX8_call_65 : decode cX8_call 65 = .ok (.iload 4, 2) := by decide +kernel
theorem dX8_call_67 : decode cX8_call 67 = .ok (.iaload, 1) := by decide +kernel
theorem dX8_call_68 : decode cX8_call 68 = .ok (.istore 5, 2) := by decide +kernel
theorem dX8_call_70 : decode cX8_call 70 = .ok (.aload_n 0, 1) := by decide +kernel
theorem dX8_call_71 : decode cX8_call 71 = .ok (.getfield 40, 3) := by decide +kernel
theorem dX8_call_74 : decode cX8_call 74 = .ok (.iload 4, 2) := by decide +kernel
theorem dX8_call_76 : decode cX8_call 76 = .ok (.iload_n 3, 1) := by decide +kernel
theorem dX8_call_77 : decode cX8_call 77 = .ok (.iastore, 1) := by decide +kernel
theorem dX8_call_78 : decode cX8_call 78 = .ok (.iload 5, 2) := by decide +kernel
theorem dX8_call_80 : decode cX8_call 80 = .ok (.i2l, 1) := by decide +kernel
theorem dX8_call_81 : decode cX8_call 81 = .ok (.lreturn, 1) := by decide +kernel
theorem dX8_called_0 : decode cX8_called 0 = .ok (.aload_n 0, 1) := by decide +kernel
theorem dX8_called_1 : decode cX8_called 1 = .ok (.iload_n 1, 1) := by decide +kernel
theorem dX8_called_2 : decode cX8_called 2 = .ok (.invokevirtual 115, 3) := by decide +kernel
theorem dX8_called_5 : decode cX8_called 5 = .ok (.ifCond .eq 11, 3) := by decide +kernel
theorem dX8_called_8 : decode cX8_called 8 = .ok (.aload_n 0, 1) := by decide +kernel
theorem dX8_called_9 : decode cX8_called 9 = .ok (.iload_n 2, 1) := by decide +kernel
theorem dX8_called_10 : decode cX8_called 10 = .ok (.invokevirtual 118, 3) := by decide +kernel
theorem dX8_called_13 : decode cX8_called 13 = .ok (.ifCond .ne 7, 3) := by decide +kernel
theorem dX8_called_16 : decode cX8_called 16 = .ok (.ldc2_w 107, 3) := by decide +kernel
theorem dX8_called_19 : decode cX8_called 19 = .ok (.lreturn, 1) := by decide +kernel
theorem dX8_called_20 : decode cX8_called 20 = .ok (.aload_n 0, 1) := by decide +kernel
theorem dX8_called_21 : decode cX8_called 21 = .ok (.iload_n 2, 1) := by decide +kernel
theorem dX8_called_22 : decode cX8_called 22 = .ok (.iload_n 1, 1) := by decide +kernel
theorem dX8_called_23 : decode cX8_called 23 = .ok (.invokevirtual 121, 3) := by decide +kernel
theorem dX8_called_26 : decode cX8_called 26 = .ok (.ifCond .eq 18, 3) := by decide +kernel
theorem dX8_called_29 : decode cX8_called 29 = .ok (.aload_n 0, 1) := by decide +kernel
theorem dX8_called_30 : decode cX8_called 30 = .ok (.getfield 40, 3) := by decide +kernel
theorem dX8_called_33 : decode cX8_called 33 = .ok (.bipush 10, 2) := by decide +kernel
theorem dX8_called_35 : decode cX8_called 35 = .ok (.iload_n 2, 1) := by decide +kernel
theorem dX8_called_36 : decode cX8_called 36 = .ok (.imul, 1) := by decide +kernel
theorem dX8_called_37 : decode cX8_called 37 = .ok (.iload_n 1, 1) := by decide +kernel
theorem dX8_called_38 : decode cX8_called 38 = .ok (.iadd, 1) := by decide +kernel
theorem dX8_called_39 : decode cX8_called 39 = .ok (.iaload, 1) := by decide +kernel
theorem dX8_called_40 : decode cX8_called 40 = .ok (.i2l, 1) := by decide +kernel
theorem dX8_called_41 : decode cX8_called 41 = .ok (.goto 6, 3) := by decide +kernel
theorem dX8_called_44 : decode cX8_called 44 = .ok (.ldc2_w 145, 3) := by decide +kernel
theorem dX8_called_47 : decode cX8_called 47 = .ok (.lreturn, 1) := by decide +kernel
theorem dX8_plan_0 : decode cX8_plan 0 = .ok (.aload_n 0, 1) := by decide +kernel
theorem dX8_plan_1 : decode cX8_plan 1 = .ok (.iload_n 1, 1) := by decide +kernel
theorem dX8_plan_2 : decode cX8_plan 2 = .ok (.invokevirtual 118, 3) := by decide +kernel
theorem dX8_plan_5 : decode cX8_plan 5 = .ok (.ifCond .ne 7, 3) := by decide +kernel
theorem dX8_plan_8 : decode cX8_plan 8 = .ok (.ldc2_w 107, 3) := by decide +kernel
theorem dX8_plan_11 : decode cX8_plan 11 = .ok (.lreturn, 1) := by decide +kernel
theorem dX8_plan_12 : decode cX8_plan 12 = .ok (.aload_n 0, 1) := by decide +kernel
theorem dX8_plan_13 : decode cX8_plan 13 = .ok (.iload_n 1, 1) := by decide +kernel
theorem dX8_plan_14 : decode cX8_plan 14 = .ok (.invokevirtual 142, 3) := by decide +kernel
theorem dX8_plan_17 : decode cX8_plan 17 = .ok (.istore_n 2, 1) := by decide +kernel
theorem dX8_plan_18 : decode cX8_plan 18 = .ok (.iconst 0, 1) := by decide +kernel
theorem dX8_plan_19 : decode cX8_plan 19 = .ok (.istore_n 3, 1) := by decide +kernel
theorem dX8_plan_20 : decode cX8_plan 20 = .ok (.iload_n 3, 1) := by decide +kernel
theorem dX8_plan_21 : decode cX8_plan 21 = .ok (.aload_n 0, 1) := by decide +kernel
theorem dX8_plan_22 : decode cX8_plan 22 = .ok (.getfield 100, 3) := by decide +kernel
theorem dX8_plan_25 : decode cX8_plan 25 = .ok (.if_icmp .ge 30, 3) := by decide +kernel
theorem dX8_plan_28 : decode cX8_plan 28 = .ok (.aload_n 0, 1) := by decide +kernel
theorem dX8_plan_29 : decode cX8_plan 29 = .ok (.iload_n 1, 1) := by decide +kernel
theorem dX8_plan_30 : decode cX8_plan 30 = .ok (.iload_n 3, 1) := by decide +kernel
theorem dX8_plan_31 : decode cX8_plan 31 = .ok (.invokevirtual 121, 3) := by decide +kernel
theorem dX8_plan_34 : decode cX8_plan 34 = .ok (.ifCond .eq 15, 3) := by decide +kernel
theorem dX8_plan_37 : decode cX8_plan 37 = .ok (.aload_n 0, 1) := by decide +kernel
theorem dX8_plan_38 : decode cX8_plan 38 = .ok (.getfield 40, 3) := by decide +kernel
theorem dX8_plan_41 : decode cX8_plan 41 = .ok (.bipush 10, 2) := by decide +kernel
theorem dX8_plan_43 : decode cX8_plan 43 = .ok (.iload_n 1, 1) := by decide +kernel
theorem dX8_plan_44 : decode cX8_plan 44 = .ok (.imul, 1) := by decide +kernel
theorem dX8_plan_45 : decode cX8_plan 45 = .ok (.iload_n 3, 1) := by decide +kernel
theorem dX8_plan_46 : decode cX8_plan 46 = .ok (.iadd, 1) := by decide +kernel
theorem dX8_plan_47 : decode cX8_plan 47 = .ok (.iload_n 2, 1) := by decide +kernel
theorem dX8_plan_48 : decode cX8_plan 48 = .ok (.iastore, 1) := by decide +kernel
theorem dX8_plan_49 : decode cX8_plan 49 = .ok (.iinc 3 1, 3) := by decide +kernel
theorem dX8_plan_52 : decode cX8_plan 52 = .ok (.goto (-32), 3) := by decide +kernel
theorem dX8_plan_55 : decode cX8_plan 55 = .ok (.iload_n 2, 1) := by decide +kernel
theorem dX8_plan_56 : decode cX8_plan 56 = .ok (.i2l, 1) := by decide +kernel
theorem dX8_plan_57 : decode cX8_plan 57 = .ok (.lreturn, 1) := by decide +kernel
theorem dX8_isFolded_0 : decode cX8_isFolded 0 = .ok (.aload_n 0, 1) := by decide +kernel
theorem dX8_isFolded_1 : decode cX8_isFolded 1 = .ok (.getfield 28, 3) := by decide +kernel
theorem dX8_isFolded_4 : decode cX8_isFolded 4 = .ok (.iload_n 1, 1) := by decide +kernel
theorem dX8_isFolded_5 : decode cX8_isFolded 5 = .ok (.iaload, 1) := by decide +kernel
theorem dX8_isFolded_6 : decode cX8_isFolded 6 = .ok (.ifCond .ne 7, 3) := by decide +kernel
theorem dX8_isFolded_9 : decode cX8_isFolded 9 = .ok (.iconst 1, 1) := by decide +kernel
theorem dX8_isFolded_10 : decode cX8_isFolded 10 = .ok (.goto 4, 3) := by decide +kernel
theorem dX8_isFolded_13 : decode cX8_isFolded 13 = .ok (.iconst 0, 1) := by decide +kernel
theorem dX8_isFolded_14 : decode cX8_isFolded 14 = .ok (.ireturn, 1) := by decide +kernel
theorem dX8_isOn_0 : decode cX8_isOn 0 = .ok (.aload_n 0, 1) := by decide +kernel
theorem dX8_isOn_1 : decode cX8_isOn 1 = .ok (.getfield 68, 3) := by decide +kernel
theorem dX8_isOn_4 : decode cX8_isOn 4 = .ok (.iload_n 1, 1) := by decide +kernel
theorem dX8_isOn_5 : decode cX8_isOn 5 = .ok (.iaload, 1) := by decide +kernel
theorem dX8_isOn_6 : decode cX8_isOn 6 = .ok (.ifCond .lt 27, 3) := by decide +kernel
theorem dX8_isOn_9 : decode cX8_isOn 9 = .ok (.iload_n 2, 1) := by decide +kernel
theorem dX8_isOn_10 : decode cX8_isOn 10 = .ok (.aload_n 0, 1) := by decide +kernel
theorem dX8_isOn_11 : decode cX8_isOn 11 = .ok (.getfield 68, 3) := by decide +kernel
theorem dX8_isOn_14 : decode cX8_isOn 14 = .ok (.iload_n 1, 1) := by decide +kernel
theorem dX8_isOn_15 : decode cX8_isOn 15 = .ok (.iaload, 1) := by decide +kernel
theorem dX8_isOn_16 : decode cX8_isOn 16 = .ok (.if_icmp .lt 17, 3) := by decide +kernel
theorem dX8_isOn_19 : decode cX8_isOn 19 = .ok (.iload_n 2, 1) := by decide +kernel
theorem dX8_isOn_20 : decode cX8_isOn 20 = .ok (.aload_n 0, 1) := by decide +kernel
theorem dX8_isOn_21 : decode cX8_isOn 21 = .ok (.getfield 71, 3) := by decide +kernel
theorem dX8_isOn_24 : decode cX8_isOn 24 = .ok (.iload_n 1, 1) := by decide +kernel
theorem dX8_isOn_25 : decode cX8_isOn 25 = .ok (.iaload, 1) := by decide +kernel
theorem dX8_isOn_26 : decode cX8_isOn 26 = .ok (.if_icmp .ge 7, 3) := by decide +kernel
theorem dX8_isOn_29 : decode cX8_isOn 29 = .ok (.iconst 1, 1) := by decide +kernel
theorem dX8_isOn_30 : decode cX8_isOn 30 = .ok (.goto 4, 3) := by decide +kernel
theorem dX8_isOn_33 : decode cX8_isOn 33 = .ok (.iconst 0, 1) := by decide +kernel
theorem dX8_isOn_34 : decode cX8_isOn 34 = .ok (.ireturn, 1) := by decide +kernel
theorem dX8_isBusy_0 : decode cX8_isBusy 0 = .ok (.iconst 0, 1) := by decide +kernel
theorem dX8_isBusy_1 : decode cX8_isBusy 1 = .ok (.istore 4, 2) := by decide +kernel
theorem dX8_isBusy_3 : decode cX8_isBusy 3 = .ok (.iload 4, 2) := by decide +kernel
theorem dX8_isBusy_5 : decode cX8_isBusy 5 = .ok (.aload_n 0, 1) := by decide +kernel
theorem dX8_isBusy_6 : decode cX8_isBusy 6 = .ok (.getfield 96, 3) := by decide +kernel
theorem dX8_isBusy_9 : decode cX8_isBusy 9 = .ok (.if_icmp .ge 37, 3) := by decide +kernel
theorem dX8_isBusy_12 : decode cX8_isBusy 12 = .ok (.iload 4, 2) := by decide +kernel
theorem dX8_isBusy_14 : decode cX8_isBusy 14 = .ok (.iload_n 3, 1) := by decide +kernel
theorem dX8_isBusy_15 : decode cX8_isBusy 15 = .ok (.if_icmp .eq 25, 3) := by decide +kernel
theorem dX8_isBusy_18 : decode cX8_isBusy 18 = .ok (.aload_n 0, 1) := by decide +kernel
theorem dX8_isBusy_19 : decode cX8_isBusy 19 = .ok (.iload 4, 2) := by decide +kernel
theorem dX8_isBusy_21 : decode cX8_isBusy 21 = .ok (.iload_n 1, 1) := by decide +kernel
theorem dX8_isBusy_22 : decode cX8_isBusy 22 = .ok (.invokevirtual 121, 3) := by decide +kernel
theorem dX8_isBusy_25 : decode cX8_isBusy 25 = .ok (.ifCond .eq 15, 3) := by decide +kernel
theorem dX8_isBusy_28 : decode cX8_isBusy 28 = .ok (.aload_n 0, 1) := by decide +kernel
theorem dX8_isBusy_29 : decode cX8_isBusy 29 = .ok (.iload 4, 2) := by decide +kernel
theorem dX8_isBusy_31 : decode cX8_isBusy 31 = .ok (.iload_n 2, 1) := by decide +kernel
theorem dX8_isBusy_32 : decode cX8_isBusy 32 = .ok (.invokevirtual 147, 3) := by decide +kernel
theorem dX8_isBusy_35 : decode cX8_isBusy 35 = .ok (.ifCond .eq 5, 3) := by decide +kernel
theorem dX8_isBusy_38 : decode cX8_isBusy 38 = .ok (.iconst 1, 1) := by decide +kernel
theorem dX8_isBusy_39 : decode cX8_isBusy 39 = .ok (.ireturn, 1) := by decide +kernel
theorem dX8_isBusy_40 : decode cX8_isBusy 40 = .ok (.iinc 4 1, 3) := by decide +kernel
theorem dX8_isBusy_43 : decode cX8_isBusy 43 = .ok (.goto (-40), 3) := by decide +kernel
theorem dX8_isBusy_46 : decode cX8_isBusy 46 = .ok (.iconst 0, 1) := by decide +kernel
theorem dX8_isBusy_47 : decode cX8_isBusy 47 = .ok (.ireturn, 1) := by decide +kernel
theorem dX8_whyNot_0 : decode cX8_whyNot 0 = .ok (.iconst (-1), 1) := by decide +kernel
theorem dX8_whyNot_1 : decode cX8_whyNot 1 = .ok (.istore_n 3, 1) := by decide +kernel
theorem dX8_whyNot_2 : decode cX8_whyNot 2 = .ok (.iconst 0, 1) := by decide +kernel
theorem dX8_whyNot_3 : decode cX8_whyNot 3 = .ok (.istore 4, 2) := by decide +kernel
theorem dX8_whyNot_5 : decode cX8_whyNot 5 = .ok (.iload 4, 2) := by decide +kernel
theorem dX8_whyNot_7 : decode cX8_whyNot 7 = .ok (.aload_n 0, 1) := by decide +kernel
theorem dX8_whyNot_8 : decode cX8_whyNot 8 = .ok (.getfield 100, 3) := by decide +kernel
theorem dX8_whyNot_11 : decode cX8_whyNot 11 = .ok (.if_icmp .ge 57, 3) := by decide +kernel
theorem dX8_whyNot_14 : decode cX8_whyNot 14 = .ok (.aload_n 0, 1) := by decide +kernel
theorem dX8_whyNot_15 : decode cX8_whyNot 15 = .ok (.iload_n 1, 1) := by decide +kernel
theorem dX8_whyNot_16 : decode cX8_whyNot 16 = .ok (.iload 4, 2) := by decide +kernel
theorem dX8_whyNot_18 : decode cX8_whyNot 18 = .ok (.invokevirtual 121, 3) := by decide +kernel
theorem dX8_whyNot_21 : decode cX8_whyNot 21 = .ok (.ifCond .ne 6, 3) := by decide +kernel
theorem dX8_whyNot_24 : decode cX8_whyNot 24 = .ok (.goto 38, 3) := by decide +kernel
theorem dX8_whyNot_27 : decode cX8_whyNot 27 = .ok (.aload_n 0, 1) := by decide +kernel
theorem dX8_whyNot_28 : decode cX8_whyNot 28 = .ok (.getfield 40, 3) := by decide +kernel
theorem dX8_whyNot_31 : decode cX8_whyNot 31 = .ok (.bipush 10, 2) := by decide +kernel
theorem dX8_whyNot_33 : decode cX8_whyNot 33 = .ok (.iload_n 1, 1) := by decide +kernel
theorem dX8_whyNot_34 : decode cX8_whyNot 34 = .ok (.imul, 1) := by decide +kernel
theorem dX8_whyNot_35 : decode cX8_whyNot 35 = .ok (.iload 4, 2) := by decide +kernel
theorem dX8_whyNot_37 : decode cX8_whyNot 37 = .ok (.iadd, 1) := by decide +kernel
theorem dX8_whyNot_38 : decode cX8_whyNot 38 = .ok (.iaload, 1) := by decide +kernel
theorem dX8_whyNot_39 : decode cX8_whyNot 39 = .ok (.iload_n 2, 1) := by decide +kernel
theorem dX8_whyNot_40 : decode cX8_whyNot 40 = .ok (.if_icmp .le 5, 3) := by decide +kernel
theorem dX8_whyNot_43 : decode cX8_whyNot 43 = .ok (.iconst 0, 1) := by decide +kernel
theorem dX8_whyNot_44 : decode cX8_whyNot 44 = .ok (.ireturn, 1) := by decide +kernel
theorem dX8_whyNot_45 : decode cX8_whyNot 45 = .ok (.aload_n 0, 1) := by decide +kernel
theorem dX8_whyNot_46 : decode cX8_whyNot 46 = .ok (.iload 4, 2) := by decide +kernel
theorem dX8_whyNot_48 : decode cX8_whyNot 48 = .ok (.iload_n 2, 1) := by decide +kernel
theorem dX8_whyNot_49 : decode cX8_whyNot 49 = .ok (.iload_n 1, 1) := by decide +kernel
theorem dX8_whyNot_50 : decode cX8_whyNot 50 = .ok (.invokevirtual 150, 3) := by decide +kernel
theorem dX8_whyNot_53 : decode cX8_whyNot 53 = .ok (.ifCond .eq 7, 3) := by decide +kernel
theorem dX8_whyNot_56 : decode cX8_whyNot 56 = .ok (.iconst 1, 1) := by decide +kernel
theorem dX8_whyNot_57 : decode cX8_whyNot 57 = .ok (.goto 4, 3) := by decide +kernel
theorem dX8_whyNot_60 : decode cX8_whyNot 60 = .ok (.iload_n 3, 1) := by decide +kernel
theorem dX8_whyNot_61 : decode cX8_whyNot 61 = .ok (.istore_n 3, 1) := by decide +kernel
theorem dX8_whyNot_62 : decode cX8_whyNot 62 = .ok (.iinc 4 1, 3) := by decide +kernel
theorem dX8_whyNot_65 : decode cX8_whyNot 65 = .ok (.goto (-60), 3) := by decide +kernel
theorem dX8_whyNot_68 : decode cX8_whyNot 68 = .ok (.iload_n 3, 1) := by decide +kernel
theorem dX8_whyNot_69 : decode cX8_whyNot 69 = .ok (.ireturn, 1) := by decide +kernel
theorem dX8_goOn_0 : decode cX8_goOn 0 = .ok (.aload_n 0, 1) := by decide +kernel
theorem dX8_goOn_1 : decode cX8_goOn 1 = .ok (.getfield 77, 3) := by decide +kernel
theorem dX8_goOn_4 : decode cX8_goOn 4 = .ok (.iload_n 1, 1) := by decide +kernel
theorem dX8_goOn_5 : decode cX8_goOn 5 = .ok (.iaload, 1) := by decide +kernel
theorem dX8_goOn_6 : decode cX8_goOn 6 = .ok (.ifCond .le 30, 3) := by decide +kernel
theorem dX8_goOn_9 : decode cX8_goOn 9 = .ok (.aload_n 0, 1) := by decide +kernel
theorem dX8_goOn_10 : decode cX8_goOn 10 = .ok (.aload_n 0, 1) := by decide +kernel
theorem dX8_goOn_11 : decode cX8_goOn 11 = .ok (.getfield 13, 3) := by decide +kernel
theorem dX8_goOn_14 : decode cX8_goOn 14 = .ok (.bipush 6, 2) := by decide +kernel
theorem dX8_goOn_16 : decode cX8_goOn 16 = .ok (.iload_n 1, 1) := by decide +kernel
theorem dX8_goOn_17 : decode cX8_goOn 17 = .ok (.imul, 1) := by decide +kernel
theorem dX8_goOn_18 : decode cX8_goOn 18 = .ok (.aload_n 0, 1) := by decide +kernel
theorem dX8_goOn_19 : decode cX8_goOn 19 = .ok (.getfield 77, 3) := by decide +kernel
theorem dX8_goOn_22 : decode cX8_goOn 22 = .ok (.iload_n 1, 1) := by decide +kernel
theorem dX8_goOn_23 : decode cX8_goOn 23 = .ok (.iaload, 1) := by decide +kernel
theorem dX8_goOn_24 : decode cX8_goOn 24 = .ok (.iadd, 1) := by decide +kernel
theorem dX8_goOn_25 : decode cX8_goOn 25 = .ok (.iconst 1, 1) := by decide +kernel
theorem dX8_goOn_26 : decode cX8_goOn 26 = .ok (.isub, 1) := by decide +kernel
theorem dX8_goOn_27 : decode cX8_goOn 27 = .ok (.iaload, 1) := by decide +kernel
theorem dX8_goOn_28 : decode cX8_goOn 28 = .ok (.iload_n 2, 1) := by decide +kernel
theorem dX8_goOn_29 : decode cX8_goOn 29 = .ok (.invokevirtual 147, 3) := by decide +kernel
theorem dX8_goOn_32 : decode cX8_goOn 32 = .ok (.ifCond .eq 4, 3) := by decide +kernel
theorem dX8_goOn_35 : decode cX8_goOn 35 = .ok (.return_, 1) := by decide +kernel
theorem dX8_goOn_36 : decode cX8_goOn 36 = .ok (.aload_n 0, 1) := by decide +kernel
theorem dX8_goOn_37 : decode cX8_goOn 37 = .ok (.getfield 77, 3) := by decide +kernel
theorem dX8_goOn_40 : decode cX8_goOn 40 = .ok (.iload_n 1, 1) := by decide +kernel
theorem dX8_goOn_41 : decode cX8_goOn 41 = .ok (.iaload, 1) := by decide +kernel
theorem dX8_goOn_42 : decode cX8_goOn 42 = .ok (.aload_n 0, 1) := by decide +kernel
theorem dX8_goOn_43 : decode cX8_goOn 43 = .ok (.getfield 7, 3) := by decide +kernel
theorem dX8_goOn_46 : decode cX8_goOn 46 = .ok (.iload_n 1, 1) := by decide +kernel
theorem dX8_goOn_47 : decode cX8_goOn 47 = .ok (.iaload, 1) := by decide +kernel
theorem dX8_goOn_48 : decode cX8_goOn 48 = .ok (.if_icmp .ge 144, 3) := by decide +kernel
theorem dX8_goOn_51 : decode cX8_goOn 51 = .ok (.aload_n 0, 1) := by decide +kernel
theorem dX8_goOn_52 : decode cX8_goOn 52 = .ok (.getfield 13, 3) := by decide +kernel
theorem dX8_goOn_55 : decode cX8_goOn 55 = .ok (.bipush 6, 2) := by decide +kernel
theorem dX8_goOn_57 : decode cX8_goOn 57 = .ok (.iload_n 1, 1) := by decide +kernel
theorem dX8_goOn_58 : decode cX8_goOn 58 = .ok (.imul, 1) := by decide +kernel
theorem dX8_goOn_59 : decode cX8_goOn 59 = .ok (.aload_n 0, 1) := by decide +kernel
theorem dX8_goOn_60 : decode cX8_goOn 60 = .ok (.getfield 77, 3) := by decide +kernel
theorem dX8_goOn_63 : decode cX8_goOn 63 = .ok (.iload_n 1, 1) := by decide +kernel
theorem dX8_goOn_64 : decode cX8_goOn 64 = .ok (.iaload, 1) := by decide +kernel
theorem dX8_goOn_65 : decode cX8_goOn 65 = .ok (.iadd, 1) := by decide +kernel
theorem dX8_goOn_66 : decode cX8_goOn 66 = .ok (.iaload, 1) := by decide +kernel
theorem dX8_goOn_67 : decode cX8_goOn 67 = .ok (.istore_n 3, 1) := by decide +kernel
theorem dX8_goOn_68 : decode cX8_goOn 68 = .ok (.aload_n 0, 1) := by decide +kernel
theorem dX8_goOn_69 : decode cX8_goOn 69 = .ok (.iload_n 3, 1) := by decide +kernel
theorem dX8_goOn_70 : decode cX8_goOn 70 = .ok (.invokevirtual 153, 3) := by decide +kernel
theorem dX8_goOn_73 : decode cX8_goOn 73 = .ok (.ifCond .eq 7, 3) := by decide +kernel
theorem dX8_goOn_76 : decode cX8_goOn 76 = .ok (.iconst (-1), 1) := by decide +kernel
theorem dX8_goOn_77 : decode cX8_goOn 77 = .ok (.goto 9, 3) := by decide +kernel
theorem dX8_goOn_80 : decode cX8_goOn 80 = .ok (.aload_n 0, 1) := by decide +kernel
theorem dX8_goOn_81 : decode cX8_goOn 81 = .ok (.iload_n 3, 1) := by decide +kernel
theorem dX8_goOn_82 : decode cX8_goOn 82 = .ok (.iload_n 2, 1) := by decide +kernel
theorem dX8_goOn_83 : decode cX8_goOn 83 = .ok (.invokevirtual 156, 3) := by decide +kernel
theorem dX8_goOn_86 : decode cX8_goOn 86 = .ok (.istore 4, 2) := by decide +kernel
theorem dX8_goOn_88 : decode cX8_goOn 88 = .ok (.iload 4, 2) := by decide +kernel
theorem dX8_goOn_90 : decode cX8_goOn 90 = .ok (.ifCond .lt 19, 3) := by decide +kernel
theorem dX8_goOn_93 : decode cX8_goOn 93 = .ok (.aload_n 0, 1) := by decide +kernel
theorem dX8_goOn_94 : decode cX8_goOn 94 = .ok (.getfield 74, 3) := by decide +kernel
theorem dX8_goOn_97 : decode cX8_goOn 97 = .ok (.iconst 2, 1) := by decide +kernel
theorem dX8_goOn_98 : decode cX8_goOn 98 = .ok (.iload_n 1, 1) := by decide +kernel
theorem dX8_goOn_99 : decode cX8_goOn 99 = .ok (.imul, 1) := by decide +kernel
theorem dX8_goOn_100 : decode cX8_goOn 100 = .ok (.iload 4, 2) := by decide +kernel
theorem dX8_goOn_102 : decode cX8_goOn 102 = .ok (.iadd, 1) := by decide +kernel
theorem dX8_goOn_103 : decode cX8_goOn 103 = .ok (.dup2, 1) := by decide +kernel
theorem dX8_goOn_104 : decode cX8_goOn 104 = .ok (.iaload, 1) := by decide +kernel
theorem dX8_goOn_105 : decode cX8_goOn 105 = .ok (.iconst 1, 1) := by decide +kernel
theorem dX8_goOn_106 : decode cX8_goOn 106 = .ok (.iadd, 1) := by decide +kernel
theorem dX8_goOn_107 : decode cX8_goOn 107 = .ok (.iastore, 1) := by decide +kernel
theorem dX8_goOn_108 : decode cX8_goOn 108 = .ok (.return_, 1) := by decide +kernel
theorem dX8_goOn_109 : decode cX8_goOn 109 = .ok (.aload_n 0, 1) := by decide +kernel
theorem dX8_goOn_110 : decode cX8_goOn 110 = .ok (.getfield 68, 3) := by decide +kernel
theorem dX8_goOn_113 : decode cX8_goOn 113 = .ok (.iload_n 3, 1) := by decide +kernel
theorem dX8_goOn_114 : decode cX8_goOn 114 = .ok (.iload_n 2, 1) := by decide +kernel
theorem dX8_goOn_115 : decode cX8_goOn 115 = .ok (.iastore, 1) := by decide +kernel
theorem dX8_goOn_116 : decode cX8_goOn 116 = .ok (.aload_n 0, 1) := by decide +kernel
theorem dX8_goOn_117 : decode cX8_goOn 117 = .ok (.getfield 71, 3) := by decide +kernel
theorem dX8_goOn_120 : decode cX8_goOn 120 = .ok (.iload_n 3, 1) := by decide +kernel
theorem dX8_goOn_121 : decode cX8_goOn 121 = .ok (.aload_n 0, 1) := by decide +kernel
theorem dX8_goOn_122 : decode cX8_goOn 122 = .ok (.iload_n 3, 1) := by decide +kernel
theorem dX8_goOn_123 : decode cX8_goOn 123 = .ok (.invokevirtual 153, 3) := by decide +kernel
theorem dX8_goOn_126 : decode cX8_goOn 126 = .ok (.ifCond .eq 7, 3) := by decide +kernel
theorem dX8_goOn_129 : decode cX8_goOn 129 = .ok (.iload_n 2, 1) := by decide +kernel
theorem dX8_goOn_130 : decode cX8_goOn 130 = .ok (.goto 29, 3) := by decide +kernel
theorem dX8_goOn_133 : decode cX8_goOn 133 = .ok (.iload_n 2, 1) := by decide +kernel
theorem dX8_goOn_134 : decode cX8_goOn 134 = .ok (.aload_n 0, 1) := by decide +kernel
theorem dX8_goOn_135 : decode cX8_goOn 135 = .ok (.getfield 28, 3) := by decide +kernel
theorem dX8_goOn_138 : decode cX8_goOn 138 = .ok (.iload_n 3, 1) := by decide +kernel
theorem dX8_goOn_139 : decode cX8_goOn 139 = .ok (.iaload, 1) := by decide +kernel
theorem dX8_goOn_140 : decode cX8_goOn 140 = .ok (.ifCond .ge 12, 3) := by decide +kernel
theorem dX8_goOn_143 : decode cX8_goOn 143 = .ok (.aload_n 0, 1) := by decide +kernel
theorem dX8_goOn_144 : decode cX8_goOn 144 = .ok (.getfield 19, 3) := by decide +kernel
theorem dX8_goOn_147 : decode cX8_goOn 147 = .ok (.iload_n 3, 1) := by decide +kernel
theorem dX8_goOn_148 : decode cX8_goOn 148 = .ok (.iaload, 1) := by decide +kernel
theorem dX8_goOn_149 : decode cX8_goOn 149 = .ok (.goto 9, 3) := by decide +kernel
theorem dX8_goOn_152 : decode cX8_goOn 152 = .ok (.aload_n 0, 1) := by decide +kernel
theorem dX8_goOn_153 : decode cX8_goOn 153 = .ok (.getfield 28, 3) := by decide +kernel
theorem dX8_goOn_156 : decode cX8_goOn 156 = .ok (.iload_n 3, 1) := by decide +kernel
theorem dX8_goOn_157 : decode cX8_goOn 157 = .ok (.iaload, 1) := by decide +kernel
theorem dX8_goOn_158 : decode cX8_goOn 158 = .ok (.iadd, 1) := by decide +kernel
theorem dX8_goOn_159 : decode cX8_goOn 159 = .ok (.iastore, 1) := by decide +kernel
theorem dX8_goOn_160 : decode cX8_goOn 160 = .ok (.aload_n 0, 1) := by decide +kernel
theorem dX8_goOn_161 : decode cX8_goOn 161 = .ok (.getfield 77, 3) := by decide +kernel
theorem dX8_goOn_164 : decode cX8_goOn 164 = .ok (.iload_n 1, 1) := by decide +kernel
theorem dX8_goOn_165 : decode cX8_goOn 165 = .ok (.dup2, 1) := by decide +kernel
theorem dX8_goOn_166 : decode cX8_goOn 166 = .ok (.iaload, 1) := by decide +kernel
theorem dX8_goOn_167 : decode cX8_goOn 167 = .ok (.iconst 1, 1) := by decide +kernel
theorem dX8_goOn_168 : decode cX8_goOn 168 = .ok (.iadd, 1) := by decide +kernel
theorem dX8_goOn_169 : decode cX8_goOn 169 = .ok (.iastore, 1) := by decide +kernel
theorem dX8_goOn_170 : decode cX8_goOn 170 = .ok (.aload_n 0, 1) := by decide +kernel
theorem dX8_goOn_171 : decode cX8_goOn 171 = .ok (.dup, 1) := by decide +kernel
theorem dX8_goOn_172 : decode cX8_goOn 172 = .ok (.getfield 160, 3) := by decide +kernel
theorem dX8_goOn_175 : decode cX8_goOn 175 = .ok (.iconst 1, 1) := by decide +kernel
theorem dX8_goOn_176 : decode cX8_goOn 176 = .ok (.isub, 1) := by decide +kernel
theorem dX8_goOn_177 : decode cX8_goOn 177 = .ok (.putfield 160, 3) := by decide +kernel
theorem dX8_goOn_180 : decode cX8_goOn 180 = .ok (.aload_n 0, 1) := by decide +kernel
theorem dX8_goOn_181 : decode cX8_goOn 181 = .ok (.iload_n 3, 1) := by decide +kernel
theorem dX8_goOn_182 : decode cX8_goOn 182 = .ok (.invokevirtual 153, 3) := by decide +kernel
theorem dX8_goOn_185 : decode cX8_goOn 185 = .ok (.ifCond .ne 4, 3) := by decide +kernel
theorem dX8_goOn_188 : decode cX8_goOn 188 = .ok (.return_, 1) := by decide +kernel
theorem dX8_goOn_189 : decode cX8_goOn 189 = .ok (.goto (-153), 3) := by decide +kernel
theorem dX8_goOn_192 : decode cX8_goOn 192 = .ok (.return_, 1) := by decide +kernel
theorem dX8_runDay_0 : decode cX8_runDay 0 = .ok (.iconst 0, 1) := by decide +kernel
theorem dX8_runDay_1 : decode cX8_runDay 1 = .ok (.istore_n 1, 1) := by decide +kernel
theorem dX8_runDay_2 : decode cX8_runDay 2 = .ok (.iload_n 1, 1) := by decide +kernel
theorem dX8_runDay_3 : decode cX8_runDay 3 = .ok (.aload_n 0, 1) := by decide +kernel
theorem dX8_runDay_4 : decode cX8_runDay 4 = .ok (.getfield 96, 3) := by decide +kernel
theorem dX8_runDay_7 : decode cX8_runDay 7 = .ok (.if_icmp .ge 23, 3) := by decide +kernel
theorem dX8_runDay_10 : decode cX8_runDay 10 = .ok (.aload_n 0, 1) := by decide +kernel
theorem dX8_runDay_11 : decode cX8_runDay 11 = .ok (.getfield 68, 3) := by decide +kernel
theorem dX8_runDay_14 : decode cX8_runDay 14 = .ok (.iload_n 1, 1) := by decide +kernel
theorem dX8_runDay_15 : decode cX8_runDay 15 = .ok (.iconst (-1), 1) := by decide +kernel
theorem dX8_runDay_16 : decode cX8_runDay 16 = .ok (.iastore, 1) := by decide +kernel
theorem dX8_runDay_17 : decode cX8_runDay 17 = .ok (.aload_n 0, 1) := by decide +kernel
theorem dX8_runDay_18 : decode cX8_runDay 18 = .ok (.getfield 71, 3) := by decide +kernel
theorem dX8_runDay_21 : decode cX8_runDay 21 = .ok (.iload_n 1, 1) := by decide +kernel
theorem dX8_runDay_22 : decode cX8_runDay 22 = .ok (.iconst (-1), 1) := by decide +kernel
theorem dX8_runDay_23 : decode cX8_runDay 23 = .ok (.iastore, 1) := by decide +kernel
theorem dX8_runDay_24 : decode cX8_runDay 24 = .ok (.iinc 1 1, 3) := by decide +kernel
theorem dX8_runDay_27 : decode cX8_runDay 27 = .ok (.goto (-25), 3) := by decide +kernel
theorem dX8_runDay_30 : decode cX8_runDay 30 = .ok (.iconst 0, 1) := by decide +kernel
theorem dX8_runDay_31 : decode cX8_runDay 31 = .ok (.istore_n 1, 1) := by decide +kernel
theorem dX8_runDay_32 : decode cX8_runDay 32 = .ok (.iload_n 1, 1) := by decide +kernel
theorem dX8_runDay_33 : decode cX8_runDay 33 = .ok (.iconst 3, 1) := by decide +kernel
theorem dX8_runDay_34 : decode cX8_runDay 34 = .ok (.if_icmp .ge 36, 3) := by decide +kernel
theorem dX8_runDay_37 : decode cX8_runDay 37 = .ok (.aload_n 0, 1) := by decide +kernel
theorem dX8_runDay_38 : decode cX8_runDay 38 = .ok (.getfield 77, 3) := by decide +kernel
theorem dX8_runDay_41 : decode cX8_runDay 41 = .ok (.iload_n 1, 1) := by decide +kernel
theorem dX8_runDay_42 : decode cX8_runDay 42 = .ok (.iconst 0, 1) := by decide +kernel
theorem dX8_runDay_43 : decode cX8_runDay 43 = .ok (.iastore, 1) := by decide +kernel
theorem dX8_runDay_44 : decode cX8_runDay 44 = .ok (.aload_n 0, 1) := by decide +kernel
theorem dX8_runDay_45 : decode cX8_runDay 45 = .ok (.getfield 74, 3) := by decide +kernel
theorem dX8_runDay_48 : decode cX8_runDay 48 = .ok (.iconst 2, 1) := by decide +kernel
theorem dX8_runDay_49 : decode cX8_runDay 49 = .ok (.iload_n 1, 1) := by decide +kernel
theorem dX8_runDay_50 : decode cX8_runDay 50 = .ok (.imul, 1) := by decide +kernel
theorem dX8_runDay_51 : decode cX8_runDay 51 = .ok (.iconst 0, 1) := by decide +kernel
theorem dX8_runDay_52 : decode cX8_runDay 52 = .ok (.iastore, 1) := by decide +kernel
theorem dX8_runDay_53 : decode cX8_runDay 53 = .ok (.aload_n 0, 1) := by decide +kernel
theorem dX8_runDay_54 : decode cX8_runDay 54 = .ok (.getfield 74, 3) := by decide +kernel
theorem dX8_runDay_57 : decode cX8_runDay 57 = .ok (.iconst 2, 1) := by decide +kernel
theorem dX8_runDay_58 : decode cX8_runDay 58 = .ok (.iload_n 1, 1) := by decide +kernel
theorem dX8_runDay_59 : decode cX8_runDay 59 = .ok (.imul, 1) := by decide +kernel
theorem dX8_runDay_60 : decode cX8_runDay 60 = .ok (.iconst 1, 1) := by decide +kernel
theorem dX8_runDay_61 : decode cX8_runDay 61 = .ok (.iadd, 1) := by decide +kernel
theorem dX8_runDay_62 : decode cX8_runDay 62 = .ok (.iconst 0, 1) := by decide +kernel
theorem dX8_runDay_63 : decode cX8_runDay 63 = .ok (.iastore, 1) := by decide +kernel
theorem dX8_runDay_64 : decode cX8_runDay 64 = .ok (.iinc 1 1, 3) := by decide +kernel
theorem dX8_runDay_67 : decode cX8_runDay 67 = .ok (.goto (-35), 3) := by decide +kernel
theorem dX8_runDay_70 : decode cX8_runDay 70 = .ok (.aload_n 0, 1) := by decide +kernel
theorem dX8_runDay_71 : decode cX8_runDay 71 = .ok (.aload_n 0, 1) := by decide +kernel
theorem dX8_runDay_72 : decode cX8_runDay 72 = .ok (.getfield 96, 3) := by decide +kernel
theorem dX8_runDay_75 : decode cX8_runDay 75 = .ok (.putfield 160, 3) := by decide +kernel
theorem dX8_runDay_78 : decode cX8_runDay 78 = .ok (.iconst 0, 1) := by decide +kernel
theorem dX8_runDay_79 : decode cX8_runDay 79 = .ok (.istore_n 1, 1) := by decide +kernel
theorem dX8_runDay_80 : decode cX8_runDay 80 = .ok (.iload_n 1, 1) := by decide +kernel
theorem dX8_runDay_81 : decode cX8_runDay 81 = .ok (.sipush 200, 3) := by decide +kernel
theorem dX8_runDay_84 : decode cX8_runDay 84 = .ok (.if_icmp .ge 35, 3) := by decide +kernel
theorem dX8_runDay_87 : decode cX8_runDay 87 = .ok (.aload_n 0, 1) := by decide +kernel
theorem dX8_runDay_88 : decode cX8_runDay 88 = .ok (.getfield 160, 3) := by decide +kernel
theorem dX8_runDay_91 : decode cX8_runDay 91 = .ok (.ifCond .le 28, 3) := by decide +kernel
theorem dX8_runDay_94 : decode cX8_runDay 94 = .ok (.iconst 0, 1) := by decide +kernel
theorem dX8_runDay_95 : decode cX8_runDay 95 = .ok (.istore_n 2, 1) := by decide +kernel
theorem dX8_runDay_96 : decode cX8_runDay 96 = .ok (.iload_n 2, 1) := by decide +kernel
theorem dX8_runDay_97 : decode cX8_runDay 97 = .ok (.iconst 3, 1) := by decide +kernel
theorem dX8_runDay_98 : decode cX8_runDay 98 = .ok (.if_icmp .ge 15, 3) := by decide +kernel
theorem dX8_runDay_101 : decode cX8_runDay 101 = .ok (.aload_n 0, 1) := by decide +kernel
theorem dX8_runDay_102 : decode cX8_runDay 102 = .ok (.iload_n 2, 1) := by decide +kernel
theorem dX8_runDay_103 : decode cX8_runDay 103 = .ok (.iload_n 1, 1) := by decide +kernel
theorem dX8_runDay_104 : decode cX8_runDay 104 = .ok (.invokevirtual 163, 3) := by decide +kernel
theorem dX8_runDay_107 : decode cX8_runDay 107 = .ok (.iinc 2 1, 3) := by decide +kernel
theorem dX8_runDay_110 : decode cX8_runDay 110 = .ok (.goto (-14), 3) := by decide +kernel
theorem dX8_runDay_113 : decode cX8_runDay 113 = .ok (.iinc 1 1, 3) := by decide +kernel
theorem dX8_runDay_116 : decode cX8_runDay 116 = .ok (.goto (-36), 3) := by decide +kernel
theorem dX8_runDay_119 : decode cX8_runDay 119 = .ok (.return_, 1) := by decide +kernel
theorem dX8_fate_0 : decode cX8_fate 0 = .ok (.aload_n 0, 1) := by decide +kernel
theorem dX8_fate_1 : decode cX8_fate 1 = .ok (.iload_n 1, 1) := by decide +kernel
theorem dX8_fate_2 : decode cX8_fate 2 = .ok (.invokevirtual 118, 3) := by decide +kernel
theorem dX8_fate_5 : decode cX8_fate 5 = .ok (.ifCond .eq 13, 3) := by decide +kernel
theorem dX8_fate_8 : decode cX8_fate 8 = .ok (.iload_n 2, 1) := by decide +kernel
theorem dX8_fate_9 : decode cX8_fate 9 = .ok (.iconst (-1), 1) := by decide +kernel
theorem dX8_fate_10 : decode cX8_fate 10 = .ok (.bipush 20, 2) := by decide +kernel
theorem dX8_fate_12 : decode cX8_fate 12 = .ok (.invokestatic 92, 3) := by decide +kernel
theorem dX8_fate_15 : decode cX8_fate 15 = .ok (.ifCond .ne 7, 3) := by decide +kernel
theorem dX8_fate_18 : decode cX8_fate 18 = .ok (.ldc2_w 107, 3) := by decide +kernel
theorem dX8_fate_21 : decode cX8_fate 21 = .ok (.lreturn, 1) := by decide +kernel
theorem dX8_fate_22 : decode cX8_fate 22 = .ok (.aload_n 0, 1) := by decide +kernel
theorem dX8_fate_23 : decode cX8_fate 23 = .ok (.getfield 28, 3) := by decide +kernel
theorem dX8_fate_26 : decode cX8_fate 26 = .ok (.iload_n 1, 1) := by decide +kernel
theorem dX8_fate_27 : decode cX8_fate 27 = .ok (.iaload, 1) := by decide +kernel
theorem dX8_fate_28 : decode cX8_fate 28 = .ok (.istore_n 3, 1) := by decide +kernel
theorem dX8_fate_29 : decode cX8_fate 29 = .ok (.aload_n 0, 1) := by decide +kernel
theorem dX8_fate_30 : decode cX8_fate 30 = .ok (.getfield 28, 3) := by decide +kernel
theorem dX8_fate_33 : decode cX8_fate 33 = .ok (.iload_n 1, 1) := by decide +kernel
theorem dX8_fate_34 : decode cX8_fate 34 = .ok (.iload_n 2, 1) := by decide +kernel
theorem dX8_fate_35 : decode cX8_fate 35 = .ok (.iastore, 1) := by decide +kernel
theorem dX8_fate_36 : decode cX8_fate 36 = .ok (.iload_n 3, 1) := by decide +kernel
theorem dX8_fate_37 : decode cX8_fate 37 = .ok (.i2l, 1) := by decide +kernel
theorem dX8_fate_38 : decode cX8_fate 38 = .ok (.lreturn, 1) := by decide +kernel
theorem dX8_begins_0 : decode cX8_begins 0 = .ok (.aload_n 0, 1) := by decide +kernel
theorem dX8_begins_1 : decode cX8_begins 1 = .ok (.iload_n 1, 1) := by decide +kernel
theorem dX8_begins_2 : decode cX8_begins 2 = .ok (.invokevirtual 118, 3) := by decide +kernel
theorem dX8_begins_5 : decode cX8_begins 5 = .ok (.ifCond .eq 12, 3) := by decide +kernel
theorem dX8_begins_8 : decode cX8_begins 8 = .ok (.iload_n 2, 1) := by decide +kernel
theorem dX8_begins_9 : decode cX8_begins 9 = .ok (.iconst 0, 1) := by decide +kernel
theorem dX8_begins_10 : decode cX8_begins 10 = .ok (.iconst 2, 1) := by decide +kernel
theorem dX8_begins_11 : decode cX8_begins 11 = .ok (.invokestatic 92, 3) := by decide +kernel
theorem dX8_begins_14 : decode cX8_begins 14 = .ok (.ifCond .ne 7, 3) := by decide +kernel
theorem dX8_begins_17 : decode cX8_begins 17 = .ok (.ldc2_w 107, 3) := by decide +kernel
theorem dX8_begins_20 : decode cX8_begins 20 = .ok (.lreturn, 1) := by decide +kernel
theorem dX8_begins_21 : decode cX8_begins 21 = .ok (.aload_n 0, 1) := by decide +kernel
theorem dX8_begins_22 : decode cX8_begins 22 = .ok (.invokevirtual 166, 3) := by decide +kernel
theorem dX8_begins_25 : decode cX8_begins 25 = .ok (.aload_n 0, 1) := by decide +kernel
theorem dX8_begins_26 : decode cX8_begins 26 = .ok (.getfield 68, 3) := by decide +kernel
theorem dX8_begins_29 : decode cX8_begins 29 = .ok (.iload_n 1, 1) := by decide +kernel
theorem dX8_begins_30 : decode cX8_begins 30 = .ok (.iaload, 1) := by decide +kernel
theorem dX8_begins_31 : decode cX8_begins 31 = .ok (.ifCond .ge 7, 3) := by decide +kernel
theorem dX8_begins_34 : decode cX8_begins 34 = .ok (.ldc2_w 129, 3) := by decide +kernel
theorem dX8_begins_37 : decode cX8_begins 37 = .ok (.lreturn, 1) := by decide +kernel
theorem dX8_begins_38 : decode cX8_begins 38 = .ok (.iload_n 2, 1) := by decide +kernel
theorem dX8_begins_39 : decode cX8_begins 39 = .ok (.ifCond .ne 13, 3) := by decide +kernel
theorem dX8_begins_42 : decode cX8_begins 42 = .ok (.aload_n 0, 1) := by decide +kernel
theorem dX8_begins_43 : decode cX8_begins 43 = .ok (.getfield 68, 3) := by decide +kernel
theorem dX8_begins_46 : decode cX8_begins 46 = .ok (.iload_n 1, 1) := by decide +kernel
theorem dX8_begins_47 : decode cX8_begins 47 = .ok (.iaload, 1) := by decide +kernel
theorem dX8_begins_48 : decode cX8_begins 48 = .ok (.i2l, 1) := by decide +kernel
theorem dX8_begins_49 : decode cX8_begins 49 = .ok (.goto 31, 3) := by decide +kernel
theorem dX8_begins_52 : decode cX8_begins 52 = .ok (.iload_n 2, 1) := by decide +kernel
theorem dX8_begins_53 : decode cX8_begins 53 = .ok (.iconst 1, 1) := by decide +kernel
theorem dX8_begins_54 : decode cX8_begins 54 = .ok (.if_icmp .ne 13, 3) := by decide +kernel
theorem dX8_begins_57 : decode cX8_begins 57 = .ok (.aload_n 0, 1) := by decide +kernel
theorem dX8_begins_58 : decode cX8_begins 58 = .ok (.getfield 71, 3) := by decide +kernel
theorem dX8_begins_61 : decode cX8_begins 61 = .ok (.iload_n 1, 1) := by decide +kernel
theorem dX8_begins_62 : decode cX8_begins 62 = .ok (.iaload, 1) := by decide +kernel
theorem dX8_begins_63 : decode cX8_begins 63 = .ok (.i2l, 1) := by decide +kernel
theorem dX8_begins_64 : decode cX8_begins 64 = .ok (.goto 16, 3) := by decide +kernel
theorem dX8_begins_67 : decode cX8_begins 67 = .ok (.aload_n 0, 1) := by decide +kernel
theorem dX8_begins_68 : decode cX8_begins 68 = .ok (.iload_n 1, 1) := by decide +kernel
theorem dX8_begins_69 : decode cX8_begins 69 = .ok (.invokevirtual 153, 3) := by decide +kernel
theorem dX8_begins_72 : decode cX8_begins 72 = .ok (.ifCond .eq 7, 3) := by decide +kernel
theorem dX8_begins_75 : decode cX8_begins 75 = .ok (.lconst 1, 1) := by decide +kernel
theorem dX8_begins_76 : decode cX8_begins 76 = .ok (.goto 4, 3) := by decide +kernel
theorem dX8_begins_79 : decode cX8_begins 79 = .ok (.lconst 0, 1) := by decide +kernel
theorem dX8_begins_80 : decode cX8_begins 80 = .ok (.lreturn, 1) := by decide +kernel
theorem dX8_waitedFor_0 : decode cX8_waitedFor 0 = .ok (.aload_n 0, 1) := by decide +kernel
theorem dX8_waitedFor_1 : decode cX8_waitedFor 1 = .ok (.getfield 68, 3) := by decide +kernel
theorem dX8_waitedFor_4 : decode cX8_waitedFor 4 = .ok (.iload_n 2, 1) := by decide +kernel
theorem dX8_waitedFor_5 : decode cX8_waitedFor 5 = .ok (.iaload, 1) := by decide +kernel
theorem dX8_waitedFor_6 : decode cX8_waitedFor 6 = .ok (.ifCond .ge 9, 3) := by decide +kernel
theorem dX8_waitedFor_9 : decode cX8_waitedFor 9 = .ok (.sipush 200, 3) := by decide +kernel
theorem dX8_waitedFor_12 : decode cX8_waitedFor 12 = .ok (.goto 9, 3) := by decide +kernel
theorem dX8_waitedFor_15 : decode cX8_waitedFor 15 = .ok (.aload_n 0, 1) := by decide +kernel
theorem dX8_waitedFor_16 : decode cX8_waitedFor 16 = .ok (.getfield 68, 3) := by decide +kernel
theorem dX8_waitedFor_19 : decode cX8_waitedFor 19 = .ok (.iload_n 2, 1) := by decide +kernel
theorem dX8_waitedFor_20 : decode cX8_waitedFor 20 = .ok (.iaload, 1) := by decide +kernel
theorem dX8_waitedFor_21 : decode cX8_waitedFor 21 = .ok (.istore_n 3, 1) := by decide +kernel
theorem dX8_waitedFor_22 : decode cX8_waitedFor 22 = .ok (.iconst 0, 1) := by decide +kernel
theorem dX8_waitedFor_23 : decode cX8_waitedFor 23 = .ok (.istore 4, 2) := by decide +kernel
theorem dX8_waitedFor_25 : decode cX8_waitedFor 25 = .ok (.aload_n 0, 1) := by decide +kernel
theorem dX8_waitedFor_26 : decode cX8_waitedFor 26 = .ok (.getfield 40, 3) := by decide +kernel
theorem dX8_waitedFor_29 : decode cX8_waitedFor 29 = .ok (.bipush 10, 2) := by decide +kernel
theorem dX8_waitedFor_31 : decode cX8_waitedFor 31 = .ok (.iload_n 2, 1) := by decide +kernel
theorem dX8_waitedFor_32 : decode cX8_waitedFor 32 = .ok (.imul, 1) := by decide +kernel
theorem dX8_waitedFor_33 : decode cX8_waitedFor 33 = .ok (.iload_n 1, 1) := by decide +kernel
theorem dX8_waitedFor_34 : decode cX8_waitedFor 34 = .ok (.iadd, 1) := by decide +kernel
theorem dX8_waitedFor_35 : decode cX8_waitedFor 35 = .ok (.iaload, 1) := by decide +kernel
theorem dX8_waitedFor_36 : decode cX8_waitedFor 36 = .ok (.istore 5, 2) := by decide +kernel
theorem dX8_waitedFor_38 : decode cX8_waitedFor 38 = .ok (.iload 5, 2) := by decide +kernel
theorem dX8_waitedFor_40 : decode cX8_waitedFor 40 = .ok (.iload_n 3, 1) := by decide +kernel
theorem dX8_waitedFor_41 : decode cX8_waitedFor 41 = .ok (.if_icmp .ge 30, 3) := by decide +kernel
theorem dX8_waitedFor_44 : decode cX8_waitedFor 44 = .ok (.iload 4, 2) := by decide +kernel
theorem dX8_waitedFor_46 : decode cX8_waitedFor 46 = .ok (.aload_n 0, 1) := by decide +kernel
theorem dX8_waitedFor_47 : decode cX8_waitedFor 47 = .ok (.iload_n 1, 1) := by decide +kernel
theorem dX8_waitedFor_48 : decode cX8_waitedFor 48 = .ok (.iload 5, 2) := by decide +kernel
theorem dX8_waitedFor_50 : decode cX8_waitedFor 50 = .ok (.iload_n 2, 1) := by decide +kernel
theorem dX8_waitedFor_51 : decode cX8_waitedFor 51 = .ok (.invokevirtual 150, 3) := by decide +kernel
theorem dX8_waitedFor_54 : decode cX8_waitedFor 54 = .ok (.ifCond .eq 7, 3) := by decide +kernel
theorem dX8_waitedFor_57 : decode cX8_waitedFor 57 = .ok (.iconst 0, 1) := by decide +kernel
theorem dX8_waitedFor_58 : decode cX8_waitedFor 58 = .ok (.goto 4, 3) := by decide +kernel
theorem dX8_waitedFor_61 : decode cX8_waitedFor 61 = .ok (.iconst 1, 1) := by decide +kernel
theorem dX8_waitedFor_62 : decode cX8_waitedFor 62 = .ok (.iadd, 1) := by decide +kernel
theorem dX8_waitedFor_63 : decode cX8_waitedFor 63 = .ok (.istore 4, 2) := by decide +kernel
theorem dX8_waitedFor_65 : decode cX8_waitedFor 65 = .ok (.iinc 5 1, 3) := by decide +kernel
theorem dX8_waitedFor_68 : decode cX8_waitedFor 68 = .ok (.goto (-30), 3) := by decide +kernel
theorem dX8_waitedFor_71 : decode cX8_waitedFor 71 = .ok (.iload 4, 2) := by decide +kernel
theorem dX8_waitedFor_73 : decode cX8_waitedFor 73 = .ok (.ireturn, 1) := by decide +kernel
theorem dX8_waited_0 : decode cX8_waited 0 = .ok (.aload_n 0, 1) := by decide +kernel
theorem dX8_waited_1 : decode cX8_waited 1 = .ok (.iload_n 1, 1) := by decide +kernel
theorem dX8_waited_2 : decode cX8_waited 2 = .ok (.invokevirtual 115, 3) := by decide +kernel
theorem dX8_waited_5 : decode cX8_waited 5 = .ok (.ifCond .eq 11, 3) := by decide +kernel
theorem dX8_waited_8 : decode cX8_waited 8 = .ok (.aload_n 0, 1) := by decide +kernel
theorem dX8_waited_9 : decode cX8_waited 9 = .ok (.iload_n 2, 1) := by decide +kernel
theorem dX8_waited_10 : decode cX8_waited 10 = .ok (.invokevirtual 118, 3) := by decide +kernel
theorem dX8_waited_13 : decode cX8_waited 13 = .ok (.ifCond .ne 7, 3) := by decide +kernel
theorem dX8_waited_16 : decode cX8_waited 16 = .ok (.ldc2_w 107, 3) := by decide +kernel
theorem dX8_waited_19 : decode cX8_waited 19 = .ok (.lreturn, 1) := by decide +kernel
theorem dX8_waited_20 : decode cX8_waited 20 = .ok (.aload_n 0, 1) := by decide +kernel
theorem dX8_waited_21 : decode cX8_waited 21 = .ok (.iload_n 2, 1) := by decide +kernel
theorem dX8_waited_22 : decode cX8_waited 22 = .ok (.iload_n 1, 1) := by decide +kernel
theorem dX8_waited_23 : decode cX8_waited 23 = .ok (.invokevirtual 121, 3) := by decide +kernel
theorem dX8_waited_26 : decode cX8_waited 26 = .ok (.ifCond .ne 7, 3) := by decide +kernel
theorem dX8_waited_29 : decode cX8_waited 29 = .ok (.ldc2_w 145, 3) := by decide +kernel
theorem dX8_waited_32 : decode cX8_waited 32 = .ok (.lreturn, 1) := by decide +kernel
theorem dX8_waited_33 : decode cX8_waited 33 = .ok (.aload_n 0, 1) := by decide +kernel
theorem dX8_waited_34 : decode cX8_waited 34 = .ok (.invokevirtual 166, 3) := by decide +kernel
theorem dX8_waited_37 : decode cX8_waited 37 = .ok (.aload_n 0, 1) := by decide +kernel
theorem dX8_waited_38 : decode cX8_waited 38 = .ok (.iload_n 1, 1) := by decide +kernel
theorem dX8_waited_39 : decode cX8_waited 39 = .ok (.iload_n 2, 1) := by decide +kernel
theorem dX8_waited_40 : decode cX8_waited 40 = .ok (.invokevirtual 169, 3) := by decide +kernel
theorem dX8_waited_43 : decode cX8_waited 43 = .ok (.i2l, 1) := by decide +kernel
theorem dX8_waited_44 : decode cX8_waited 44 = .ok (.lreturn, 1) := by decide +kernel
theorem dX8_idle_0 : decode cX8_idle 0 = .ok (.iload_n 1, 1) := by decide +kernel
theorem dX8_idle_1 : decode cX8_idle 1 = .ok (.invokestatic 103, 3) := by decide +kernel
theorem dX8_idle_4 : decode cX8_idle 4 = .ok (.ifCond .eq 12, 3) := by decide +kernel
theorem dX8_idle_7 : decode cX8_idle 7 = .ok (.iload_n 2, 1) := by decide +kernel
theorem dX8_idle_8 : decode cX8_idle 8 = .ok (.iconst 0, 1) := by decide +kernel
theorem dX8_idle_9 : decode cX8_idle 9 = .ok (.iconst 1, 1) := by decide +kernel
theorem dX8_idle_10 : decode cX8_idle 10 = .ok (.invokestatic 92, 3) := by decide +kernel
theorem dX8_idle_13 : decode cX8_idle 13 = .ok (.ifCond .ne 7, 3) := by decide +kernel
theorem dX8_idle_16 : decode cX8_idle 16 = .ok (.ldc2_w 107, 3) := by decide +kernel
theorem dX8_idle_19 : decode cX8_idle 19 = .ok (.lreturn, 1) := by decide +kernel
theorem dX8_idle_20 : decode cX8_idle 20 = .ok (.aload_n 0, 1) := by decide +kernel
theorem dX8_idle_21 : decode cX8_idle 21 = .ok (.invokevirtual 166, 3) := by decide +kernel
theorem dX8_idle_24 : decode cX8_idle 24 = .ok (.aload_n 0, 1) := by decide +kernel
theorem dX8_idle_25 : decode cX8_idle 25 = .ok (.getfield 74, 3) := by decide +kernel
theorem dX8_idle_28 : decode cX8_idle 28 = .ok (.iconst 2, 1) := by decide +kernel
theorem dX8_idle_29 : decode cX8_idle 29 = .ok (.iload_n 1, 1) := by decide +kernel
theorem dX8_idle_30 : decode cX8_idle 30 = .ok (.imul, 1) := by decide +kernel
theorem dX8_idle_31 : decode cX8_idle 31 = .ok (.iload_n 2, 1) := by decide +kernel
theorem dX8_idle_32 : decode cX8_idle 32 = .ok (.iadd, 1) := by decide +kernel
theorem dX8_idle_33 : decode cX8_idle 33 = .ok (.iaload, 1) := by decide +kernel
theorem dX8_idle_34 : decode cX8_idle 34 = .ok (.i2l, 1) := by decide +kernel
theorem dX8_idle_35 : decode cX8_idle 35 = .ok (.lreturn, 1) := by decide +kernel
theorem dX8_waitedIn_0 : decode cX8_waitedIn 0 = .ok (.iconst 0, 1) := by decide +kernel
theorem dX8_waitedIn_1 : decode cX8_waitedIn 1 = .ok (.istore_n 2, 1) := by decide +kernel
theorem dX8_waitedIn_2 : decode cX8_waitedIn 2 = .ok (.iconst 0, 1) := by decide +kernel
theorem dX8_waitedIn_3 : decode cX8_waitedIn 3 = .ok (.istore_n 3, 1) := by decide +kernel
theorem dX8_waitedIn_4 : decode cX8_waitedIn 4 = .ok (.iload_n 3, 1) := by decide +kernel
theorem dX8_waitedIn_5 : decode cX8_waitedIn 5 = .ok (.aload_n 0, 1) := by decide +kernel
theorem dX8_waitedIn_6 : decode cX8_waitedIn 6 = .ok (.getfield 96, 3) := by decide +kernel
theorem dX8_waitedIn_9 : decode cX8_waitedIn 9 = .ok (.if_icmp .ge 31, 3) := by decide +kernel
theorem dX8_waitedIn_12 : decode cX8_waitedIn 12 = .ok (.iload_n 2, 1) := by decide +kernel
theorem dX8_waitedIn_13 : decode cX8_waitedIn 13 = .ok (.aload_n 0, 1) := by decide +kernel
theorem dX8_waitedIn_14 : decode cX8_waitedIn 14 = .ok (.iload_n 3, 1) := by decide +kernel
theorem dX8_waitedIn_15 : decode cX8_waitedIn 15 = .ok (.iload_n 1, 1) := by decide +kernel
theorem dX8_waitedIn_16 : decode cX8_waitedIn 16 = .ok (.invokevirtual 121, 3) := by decide +kernel
theorem dX8_waitedIn_19 : decode cX8_waitedIn 19 = .ok (.ifCond .eq 12, 3) := by decide +kernel
theorem dX8_waitedIn_22 : decode cX8_waitedIn 22 = .ok (.aload_n 0, 1) := by decide +kernel
theorem dX8_waitedIn_23 : decode cX8_waitedIn 23 = .ok (.iload_n 1, 1) := by decide +kernel
theorem dX8_waitedIn_24 : decode cX8_waitedIn 24 = .ok (.iload_n 3, 1) := by decide +kernel
theorem dX8_waitedIn_25 : decode cX8_waitedIn 25 = .ok (.invokevirtual 169, 3) := by decide +kernel
theorem dX8_waitedIn_28 : decode cX8_waitedIn 28 = .ok (.goto 4, 3) := by decide +kernel
theorem dX8_waitedIn_31 : decode cX8_waitedIn 31 = .ok (.iconst 0, 1) := by decide +kernel
theorem dX8_waitedIn_32 : decode cX8_waitedIn 32 = .ok (.iadd, 1) := by decide +kernel
theorem dX8_waitedIn_33 : decode cX8_waitedIn 33 = .ok (.istore_n 2, 1) := by decide +kernel
theorem dX8_waitedIn_34 : decode cX8_waitedIn 34 = .ok (.iinc 3 1, 3) := by decide +kernel
theorem dX8_waitedIn_37 : decode cX8_waitedIn 37 = .ok (.goto (-33), 3) := by decide +kernel
theorem dX8_waitedIn_40 : decode cX8_waitedIn 40 = .ok (.iload_n 2, 1) := by decide +kernel
theorem dX8_waitedIn_41 : decode cX8_waitedIn 41 = .ok (.ireturn, 1) := by decide +kernel
theorem dX8_waits_0 : decode cX8_waits 0 = .ok (.aload_n 0, 1) := by decide +kernel
theorem dX8_waits_1 : decode cX8_waits 1 = .ok (.invokevirtual 166, 3) := by decide +kernel
theorem dX8_waits_4 : decode cX8_waits 4 = .ok (.lconst 0, 1) := by decide +kernel
theorem dX8_waits_5 : decode cX8_waits 5 = .ok (.lstore_n 1, 1) := by decide +kernel
theorem dX8_waits_6 : decode cX8_waits 6 = .ok (.iconst 0, 1) := by decide +kernel
theorem dX8_waits_7 : decode cX8_waits 7 = .ok (.istore_n 3, 1) := by decide +kernel
theorem dX8_waits_8 : decode cX8_waits 8 = .ok (.iload_n 3, 1) := by decide +kernel
theorem dX8_waits_9 : decode cX8_waits 9 = .ok (.aload_n 0, 1) := by decide +kernel
theorem dX8_waits_10 : decode cX8_waits 10 = .ok (.getfield 100, 3) := by decide +kernel
theorem dX8_waits_13 : decode cX8_waits 13 = .ok (.if_icmp .ge 18, 3) := by decide +kernel
theorem dX8_waits_16 : decode cX8_waits 16 = .ok (.lload_n 1, 1) := by decide +kernel
theorem dX8_waits_17 : decode cX8_waits 17 = .ok (.aload_n 0, 1) := by decide +kernel
theorem dX8_waits_18 : decode cX8_waits 18 = .ok (.iload_n 3, 1) := by decide +kernel
theorem dX8_waits_19 : decode cX8_waits 19 = .ok (.invokevirtual 172, 3) := by decide +kernel
theorem dX8_waits_22 : decode cX8_waits 22 = .ok (.i2l, 1) := by decide +kernel
theorem dX8_waits_23 : decode cX8_waits 23 = .ok (.ladd, 1) := by decide +kernel
end
section
theorem dX8_waits_24 : decode cX8_waits 24 = .ok (.lstore_n 1, 1) := by decide +kernel
theorem dX8_waits_25 : decode cX8_waits 25 = .ok (.iinc 3 1, 3) := by decide +kernel
theorem dX8_waits_28 : decode cX8_waits 28 = .ok (.goto (-20), 3) := by decide +kernel
theorem dX8_waits_31 : decode cX8_waits 31 = .ok (.lload_n 1, 1) := by decide +kernel
theorem dX8_waits_32 : decode cX8_waits 32 = .ok (.lreturn, 1) := by decide +kernel
theorem dX8_isCalled_0 : decode cX8_isCalled 0 = .ok (.iconst 0, 1) := by decide +kernel
theorem dX8_isCalled_1 : decode cX8_isCalled 1 = .ok (.istore_n 2, 1) := by decide +kernel
theorem dX8_isCalled_2 : decode cX8_isCalled 2 = .ok (.iconst 0, 1) := by decide +kernel
theorem dX8_isCalled_3 : decode cX8_isCalled 3 = .ok (.istore_n 3, 1) := by decide +kernel
theorem dX8_isCalled_4 : decode cX8_isCalled 4 = .ok (.iload_n 3, 1) := by decide +kernel
theorem dX8_isCalled_5 : decode cX8_isCalled 5 = .ok (.aload_n 0, 1) := by decide +kernel
theorem dX8_isCalled_6 : decode cX8_isCalled 6 = .ok (.getfield 96, 3) := by decide +kernel
theorem dX8_isCalled_9 : decode cX8_isCalled 9 = .ok (.if_icmp .ge 28, 3) := by decide +kernel
theorem dX8_isCalled_12 : decode cX8_isCalled 12 = .ok (.iload_n 2, 1) := by decide +kernel
theorem dX8_isCalled_13 : decode cX8_isCalled 13 = .ok (.ifCond .ne 12, 3) := by decide +kernel
theorem dX8_isCalled_16 : decode cX8_isCalled 16 = .ok (.aload_n 0, 1) := by decide +kernel
theorem dX8_isCalled_17 : decode cX8_isCalled 17 = .ok (.iload_n 3, 1) := by decide +kernel
theorem dX8_isCalled_18 : decode cX8_isCalled 18 = .ok (.iload_n 1, 1) := by decide +kernel
theorem dX8_isCalled_19 : decode cX8_isCalled 19 = .ok (.invokevirtual 121, 3) := by decide +kernel
theorem dX8_isCalled_22 : decode cX8_isCalled 22 = .ok (.ifCond .eq 7, 3) := by decide +kernel
theorem dX8_isCalled_25 : decode cX8_isCalled 25 = .ok (.iconst 1, 1) := by decide +kernel
theorem dX8_isCalled_26 : decode cX8_isCalled 26 = .ok (.goto 4, 3) := by decide +kernel
theorem dX8_isCalled_29 : decode cX8_isCalled 29 = .ok (.iconst 0, 1) := by decide +kernel
theorem dX8_isCalled_30 : decode cX8_isCalled 30 = .ok (.istore_n 2, 1) := by decide +kernel
theorem dX8_isCalled_31 : decode cX8_isCalled 31 = .ok (.iinc 3 1, 3) := by decide +kernel
theorem dX8_isCalled_34 : decode cX8_isCalled 34 = .ok (.goto (-30), 3) := by decide +kernel
theorem dX8_isCalled_37 : decode cX8_isCalled 37 = .ok (.iload_n 2, 1) := by decide +kernel
theorem dX8_isCalled_38 : decode cX8_isCalled 38 = .ok (.ireturn, 1) := by decide +kernel
theorem dX8_pay_0 : decode cX8_pay 0 = .ok (.aload_n 0, 1) := by decide +kernel
theorem dX8_pay_1 : decode cX8_pay 1 = .ok (.iload_n 1, 1) := by decide +kernel
theorem dX8_pay_2 : decode cX8_pay 2 = .ok (.invokevirtual 115, 3) := by decide +kernel
theorem dX8_pay_5 : decode cX8_pay 5 = .ok (.ifCond .ne 7, 3) := by decide +kernel
theorem dX8_pay_8 : decode cX8_pay 8 = .ok (.ldc2_w 107, 3) := by decide +kernel
theorem dX8_pay_11 : decode cX8_pay 11 = .ok (.lreturn, 1) := by decide +kernel
theorem dX8_pay_12 : decode cX8_pay 12 = .ok (.aload_n 0, 1) := by decide +kernel
theorem dX8_pay_13 : decode cX8_pay 13 = .ok (.iload_n 1, 1) := by decide +kernel
theorem dX8_pay_14 : decode cX8_pay 14 = .ok (.invokevirtual 175, 3) := by decide +kernel
theorem dX8_pay_17 : decode cX8_pay 17 = .ok (.ifCond .eq 13, 3) := by decide +kernel
theorem dX8_pay_20 : decode cX8_pay 20 = .ok (.aload_n 0, 1) := by decide +kernel
theorem dX8_pay_21 : decode cX8_pay 21 = .ok (.getfield 31, 3) := by decide +kernel
theorem dX8_pay_24 : decode cX8_pay 24 = .ok (.iload_n 1, 1) := by decide +kernel
theorem dX8_pay_25 : decode cX8_pay 25 = .ok (.iaload, 1) := by decide +kernel
theorem dX8_pay_26 : decode cX8_pay 26 = .ok (.iconst 1, 1) := by decide +kernel
theorem dX8_pay_27 : decode cX8_pay 27 = .ok (.if_icmp .ne 5, 3) := by decide +kernel
theorem dX8_pay_30 : decode cX8_pay 30 = .ok (.lconst 0, 1) := by decide +kernel
theorem dX8_pay_31 : decode cX8_pay 31 = .ok (.lreturn, 1) := by decide +kernel
theorem dX8_pay_32 : decode cX8_pay 32 = .ok (.ldc2_w 178, 3) := by decide +kernel
theorem dX8_pay_35 : decode cX8_pay 35 = .ok (.aload_n 0, 1) := by decide +kernel
theorem dX8_pay_36 : decode cX8_pay 36 = .ok (.getfield 34, 3) := by decide +kernel
theorem dX8_pay_39 : decode cX8_pay 39 = .ok (.iload_n 1, 1) := by decide +kernel
theorem dX8_pay_40 : decode cX8_pay 40 = .ok (.iaload, 1) := by decide +kernel
theorem dX8_pay_41 : decode cX8_pay 41 = .ok (.i2l, 1) := by decide +kernel
theorem dX8_pay_42 : decode cX8_pay 42 = .ok (.lmul, 1) := by decide +kernel
theorem dX8_pay_43 : decode cX8_pay 43 = .ok (.aload_n 0, 1) := by decide +kernel
theorem dX8_pay_44 : decode cX8_pay 44 = .ok (.getfield 43, 3) := by decide +kernel
theorem dX8_pay_47 : decode cX8_pay 47 = .ok (.iconst 3, 1) := by decide +kernel
theorem dX8_pay_48 : decode cX8_pay 48 = .ok (.iaload, 1) := by decide +kernel
theorem dX8_pay_49 : decode cX8_pay 49 = .ok (.i2l, 1) := by decide +kernel
theorem dX8_pay_50 : decode cX8_pay 50 = .ok (.lmul, 1) := by decide +kernel
theorem dX8_pay_51 : decode cX8_pay 51 = .ok (.lstore_n 2, 1) := by decide +kernel
theorem dX8_pay_52 : decode cX8_pay 52 = .ok (.aload_n 0, 1) := by decide +kernel
theorem dX8_pay_53 : decode cX8_pay 53 = .ok (.getfield 31, 3) := by decide +kernel
theorem dX8_pay_56 : decode cX8_pay 56 = .ok (.iload_n 1, 1) := by decide +kernel
theorem dX8_pay_57 : decode cX8_pay 57 = .ok (.iaload, 1) := by decide +kernel
theorem dX8_pay_58 : decode cX8_pay 58 = .ok (.iconst 3, 1) := by decide +kernel
theorem dX8_pay_59 : decode cX8_pay 59 = .ok (.if_icmp .lt 5, 3) := by decide +kernel
theorem dX8_pay_62 : decode cX8_pay 62 = .ok (.lload_n 2, 1) := by decide +kernel
theorem dX8_pay_63 : decode cX8_pay 63 = .ok (.lreturn, 1) := by decide +kernel
theorem dX8_pay_64 : decode cX8_pay 64 = .ok (.aload_n 0, 1) := by decide +kernel
theorem dX8_pay_65 : decode cX8_pay 65 = .ok (.invokevirtual 166, 3) := by decide +kernel
theorem dX8_pay_68 : decode cX8_pay 68 = .ok (.lload_n 2, 1) := by decide +kernel
theorem dX8_pay_69 : decode cX8_pay 69 = .ok (.aload_n 0, 1) := by decide +kernel
theorem dX8_pay_70 : decode cX8_pay 70 = .ok (.iload_n 1, 1) := by decide +kernel
theorem dX8_pay_71 : decode cX8_pay 71 = .ok (.invokevirtual 172, 3) := by decide +kernel
theorem dX8_pay_74 : decode cX8_pay 74 = .ok (.iconst 4, 1) := by decide +kernel
theorem dX8_pay_75 : decode cX8_pay 75 = .ok (.idiv, 1) := by decide +kernel
theorem dX8_pay_76 : decode cX8_pay 76 = .ok (.i2l, 1) := by decide +kernel
theorem dX8_pay_77 : decode cX8_pay 77 = .ok (.aload_n 0, 1) := by decide +kernel
theorem dX8_pay_78 : decode cX8_pay 78 = .ok (.getfield 43, 3) := by decide +kernel
theorem dX8_pay_81 : decode cX8_pay 81 = .ok (.iconst 2, 1) := by decide +kernel
theorem dX8_pay_82 : decode cX8_pay 82 = .ok (.iaload, 1) := by decide +kernel
theorem dX8_pay_83 : decode cX8_pay 83 = .ok (.i2l, 1) := by decide +kernel
theorem dX8_pay_84 : decode cX8_pay 84 = .ok (.lmul, 1) := by decide +kernel
theorem dX8_pay_85 : decode cX8_pay 85 = .ok (.ladd, 1) := by decide +kernel
theorem dX8_pay_86 : decode cX8_pay 86 = .ok (.lstore 4, 2) := by decide +kernel
theorem dX8_pay_88 : decode cX8_pay 88 = .ok (.iconst 0, 1) := by decide +kernel
theorem dX8_pay_89 : decode cX8_pay 89 = .ok (.istore 6, 2) := by decide +kernel
theorem dX8_pay_91 : decode cX8_pay 91 = .ok (.iload 6, 2) := by decide +kernel
theorem dX8_pay_93 : decode cX8_pay 93 = .ok (.aload_n 0, 1) := by decide +kernel
theorem dX8_pay_94 : decode cX8_pay 94 = .ok (.getfield 96, 3) := by decide +kernel
theorem dX8_pay_97 : decode cX8_pay 97 = .ok (.if_icmp .ge 64, 3) := by decide +kernel
theorem dX8_pay_100 : decode cX8_pay 100 = .ok (.aload_n 0, 1) := by decide +kernel
theorem dX8_pay_101 : decode cX8_pay 101 = .ok (.getfield 31, 3) := by decide +kernel
theorem dX8_pay_104 : decode cX8_pay 104 = .ok (.iload_n 1, 1) := by decide +kernel
theorem dX8_pay_105 : decode cX8_pay 105 = .ok (.iaload, 1) := by decide +kernel
theorem dX8_pay_106 : decode cX8_pay 106 = .ok (.iconst 2, 1) := by decide +kernel
theorem dX8_pay_107 : decode cX8_pay 107 = .ok (.if_icmp .ne 54, 3) := by decide +kernel
theorem dX8_pay_110 : decode cX8_pay 110 = .ok (.lload 4, 2) := by decide +kernel
theorem dX8_pay_112 : decode cX8_pay 112 = .ok (.aload_n 0, 1) := by decide +kernel
theorem dX8_pay_113 : decode cX8_pay 113 = .ok (.iload 6, 2) := by decide +kernel
theorem dX8_pay_115 : decode cX8_pay 115 = .ok (.iload_n 1, 1) := by decide +kernel
theorem dX8_pay_116 : decode cX8_pay 116 = .ok (.invokevirtual 121, 3) := by decide +kernel
theorem dX8_pay_119 : decode cX8_pay 119 = .ok (.ifCond .eq 32, 3) := by decide +kernel
theorem dX8_pay_122 : decode cX8_pay 122 = .ok (.aload_n 0, 1) := by decide +kernel
theorem dX8_pay_123 : decode cX8_pay 123 = .ok (.getfield 68, 3) := by decide +kernel
theorem dX8_pay_126 : decode cX8_pay 126 = .ok (.iload 6, 2) := by decide +kernel
theorem dX8_pay_128 : decode cX8_pay 128 = .ok (.iaload, 1) := by decide +kernel
theorem dX8_pay_129 : decode cX8_pay 129 = .ok (.ifCond .lt 22, 3) := by decide +kernel
theorem dX8_pay_132 : decode cX8_pay 132 = .ok (.aload_n 0, 1) := by decide +kernel
theorem dX8_pay_133 : decode cX8_pay 133 = .ok (.iload 6, 2) := by decide +kernel
theorem dX8_pay_135 : decode cX8_pay 135 = .ok (.invokevirtual 153, 3) := by decide +kernel
theorem dX8_pay_138 : decode cX8_pay 138 = .ok (.ifCond .ne 13, 3) := by decide +kernel
theorem dX8_pay_141 : decode cX8_pay 141 = .ok (.aload_n 0, 1) := by decide +kernel
theorem dX8_pay_142 : decode cX8_pay 142 = .ok (.getfield 43, 3) := by decide +kernel
theorem dX8_pay_145 : decode cX8_pay 145 = .ok (.iconst 4, 1) := by decide +kernel
theorem dX8_pay_146 : decode cX8_pay 146 = .ok (.iaload, 1) := by decide +kernel
theorem dX8_pay_147 : decode cX8_pay 147 = .ok (.i2l, 1) := by decide +kernel
theorem dX8_pay_148 : decode cX8_pay 148 = .ok (.goto 4, 3) := by decide +kernel
theorem dX8_pay_151 : decode cX8_pay 151 = .ok (.lconst 0, 1) := by decide +kernel
theorem dX8_pay_152 : decode cX8_pay 152 = .ok (.ladd, 1) := by decide +kernel
theorem dX8_pay_153 : decode cX8_pay 153 = .ok (.lstore 4, 2) := by decide +kernel
theorem dX8_pay_155 : decode cX8_pay 155 = .ok (.iinc 6 1, 3) := by decide +kernel
theorem dX8_pay_158 : decode cX8_pay 158 = .ok (.goto (-67), 3) := by decide +kernel
theorem dX8_pay_161 : decode cX8_pay 161 = .ok (.lload 4, 2) := by decide +kernel
theorem dX8_pay_163 : decode cX8_pay 163 = .ok (.lreturn, 1) := by decide +kernel
theorem dX8_apart_0 : decode cX8_apart 0 = .ok (.aload_n 0, 1) := by decide +kernel
theorem dX8_apart_1 : decode cX8_apart 1 = .ok (.iload_n 1, 1) := by decide +kernel
theorem dX8_apart_2 : decode cX8_apart 2 = .ok (.invokevirtual 115, 3) := by decide +kernel
theorem dX8_apart_5 : decode cX8_apart 5 = .ok (.ifCond .eq 25, 3) := by decide +kernel
theorem dX8_apart_8 : decode cX8_apart 8 = .ok (.aload_n 0, 1) := by decide +kernel
theorem dX8_apart_9 : decode cX8_apart 9 = .ok (.iload_n 2, 1) := by decide +kernel
theorem dX8_apart_10 : decode cX8_apart 10 = .ok (.invokevirtual 115, 3) := by decide +kernel
theorem dX8_apart_13 : decode cX8_apart 13 = .ok (.ifCond .eq 17, 3) := by decide +kernel
theorem dX8_apart_16 : decode cX8_apart 16 = .ok (.iload_n 1, 1) := by decide +kernel
theorem dX8_apart_17 : decode cX8_apart 17 = .ok (.iload_n 2, 1) := by decide +kernel
theorem dX8_apart_18 : decode cX8_apart 18 = .ok (.if_icmp .eq 12, 3) := by decide +kernel
theorem dX8_apart_21 : decode cX8_apart 21 = .ok (.iload_n 3, 1) := by decide +kernel
theorem dX8_apart_22 : decode cX8_apart 22 = .ok (.iconst 0, 1) := by decide +kernel
theorem dX8_apart_23 : decode cX8_apart 23 = .ok (.iconst 1, 1) := by decide +kernel
theorem dX8_apart_24 : decode cX8_apart 24 = .ok (.invokestatic 92, 3) := by decide +kernel
theorem dX8_apart_27 : decode cX8_apart 27 = .ok (.ifCond .ne 7, 3) := by decide +kernel
theorem dX8_apart_30 : decode cX8_apart 30 = .ok (.ldc2_w 107, 3) := by decide +kernel
theorem dX8_apart_33 : decode cX8_apart 33 = .ok (.lreturn, 1) := by decide +kernel
theorem dX8_apart_34 : decode cX8_apart 34 = .ok (.aload_n 0, 1) := by decide +kernel
theorem dX8_apart_35 : decode cX8_apart 35 = .ok (.getfield 37, 3) := by decide +kernel
theorem dX8_apart_38 : decode cX8_apart 38 = .ok (.iload_n 1, 1) := by decide +kernel
theorem dX8_apart_39 : decode cX8_apart 39 = .ok (.iaload, 1) := by decide +kernel
theorem dX8_apart_40 : decode cX8_apart 40 = .ok (.iload_n 2, 1) := by decide +kernel
theorem dX8_apart_41 : decode cX8_apart 41 = .ok (.ishr, 1) := by decide +kernel
theorem dX8_apart_42 : decode cX8_apart 42 = .ok (.iconst 1, 1) := by decide +kernel
theorem dX8_apart_43 : decode cX8_apart 43 = .ok (.iand, 1) := by decide +kernel
theorem dX8_apart_44 : decode cX8_apart 44 = .ok (.istore 4, 2) := by decide +kernel
theorem dX8_apart_46 : decode cX8_apart 46 = .ok (.iload 4, 2) := by decide +kernel
theorem dX8_apart_48 : decode cX8_apart 48 = .ok (.iload_n 3, 1) := by decide +kernel
theorem dX8_apart_49 : decode cX8_apart 49 = .ok (.if_icmp .eq 27, 3) := by decide +kernel
theorem dX8_apart_52 : decode cX8_apart 52 = .ok (.aload_n 0, 1) := by decide +kernel
theorem dX8_apart_53 : decode cX8_apart 53 = .ok (.getfield 37, 3) := by decide +kernel
theorem dX8_apart_56 : decode cX8_apart 56 = .ok (.iload_n 1, 1) := by decide +kernel
theorem dX8_apart_57 : decode cX8_apart 57 = .ok (.dup2, 1) := by decide +kernel
theorem dX8_apart_58 : decode cX8_apart 58 = .ok (.iaload, 1) := by decide +kernel
theorem dX8_apart_59 : decode cX8_apart 59 = .ok (.iconst 1, 1) := by decide +kernel
theorem dX8_apart_60 : decode cX8_apart 60 = .ok (.iload_n 2, 1) := by decide +kernel
theorem dX8_apart_61 : decode cX8_apart 61 = .ok (.ishl, 1) := by decide +kernel
theorem dX8_apart_62 : decode cX8_apart 62 = .ok (.ixor, 1) := by decide +kernel
theorem dX8_apart_63 : decode cX8_apart 63 = .ok (.iastore, 1) := by decide +kernel
theorem dX8_apart_64 : decode cX8_apart 64 = .ok (.aload_n 0, 1) := by decide +kernel
theorem dX8_apart_65 : decode cX8_apart 65 = .ok (.getfield 37, 3) := by decide +kernel
theorem dX8_apart_68 : decode cX8_apart 68 = .ok (.iload_n 2, 1) := by decide +kernel
theorem dX8_apart_69 : decode cX8_apart 69 = .ok (.dup2, 1) := by decide +kernel
theorem dX8_apart_70 : decode cX8_apart 70 = .ok (.iaload, 1) := by decide +kernel
theorem dX8_apart_71 : decode cX8_apart 71 = .ok (.iconst 1, 1) := by decide +kernel
theorem dX8_apart_72 : decode cX8_apart 72 = .ok (.iload_n 1, 1) := by decide +kernel
theorem dX8_apart_73 : decode cX8_apart 73 = .ok (.ishl, 1) := by decide +kernel
theorem dX8_apart_74 : decode cX8_apart 74 = .ok (.ixor, 1) := by decide +kernel
theorem dX8_apart_75 : decode cX8_apart 75 = .ok (.iastore, 1) := by decide +kernel
theorem dX8_apart_76 : decode cX8_apart 76 = .ok (.iload 4, 2) := by decide +kernel
theorem dX8_apart_78 : decode cX8_apart 78 = .ok (.i2l, 1) := by decide +kernel
theorem dX8_apart_79 : decode cX8_apart 79 = .ok (.lreturn, 1) := by decide +kernel
theorem dX8_span_0 : decode cX8_span 0 = .ok (.aload_n 0, 1) := by decide +kernel
theorem dX8_span_1 : decode cX8_span 1 = .ok (.getfield 80, 3) := by decide +kernel
theorem dX8_span_4 : decode cX8_span 4 = .ok (.iload_n 1, 1) := by decide +kernel
theorem dX8_span_5 : decode cX8_span 5 = .ok (.iconst (-1), 1) := by decide +kernel
theorem dX8_span_6 : decode cX8_span 6 = .ok (.iastore, 1) := by decide +kernel
theorem dX8_span_7 : decode cX8_span 7 = .ok (.aload_n 0, 1) := by decide +kernel
theorem dX8_span_8 : decode cX8_span 8 = .ok (.getfield 83, 3) := by decide +kernel
theorem dX8_span_11 : decode cX8_span 11 = .ok (.iload_n 1, 1) := by decide +kernel
theorem dX8_span_12 : decode cX8_span 12 = .ok (.iconst (-1), 1) := by decide +kernel
theorem dX8_span_13 : decode cX8_span 13 = .ok (.iastore, 1) := by decide +kernel
theorem dX8_span_14 : decode cX8_span 14 = .ok (.iconst 0, 1) := by decide +kernel
theorem dX8_span_15 : decode cX8_span 15 = .ok (.istore_n 2, 1) := by decide +kernel
theorem dX8_span_16 : decode cX8_span 16 = .ok (.iload_n 2, 1) := by decide +kernel
theorem dX8_span_17 : decode cX8_span 17 = .ok (.aload_n 0, 1) := by decide +kernel
theorem dX8_span_18 : decode cX8_span 18 = .ok (.getfield 96, 3) := by decide +kernel
theorem dX8_span_21 : decode cX8_span 21 = .ok (.if_icmp .ge 119, 3) := by decide +kernel
theorem dX8_span_24 : decode cX8_span 24 = .ok (.aload_n 0, 1) := by decide +kernel
theorem dX8_span_25 : decode cX8_span 25 = .ok (.iload_n 2, 1) := by decide +kernel
theorem dX8_span_26 : decode cX8_span 26 = .ok (.iload_n 1, 1) := by decide +kernel
theorem dX8_span_27 : decode cX8_span 27 = .ok (.invokevirtual 121, 3) := by decide +kernel
theorem dX8_span_30 : decode cX8_span 30 = .ok (.ifCond .ne 6, 3) := by decide +kernel
theorem dX8_span_33 : decode cX8_span 33 = .ok (.goto 101, 3) := by decide +kernel
theorem dX8_span_36 : decode cX8_span 36 = .ok (.aload_n 0, 1) := by decide +kernel
theorem dX8_span_37 : decode cX8_span 37 = .ok (.getfield 40, 3) := by decide +kernel
theorem dX8_span_40 : decode cX8_span 40 = .ok (.bipush 10, 2) := by decide +kernel
theorem dX8_span_42 : decode cX8_span 42 = .ok (.iload_n 2, 1) := by decide +kernel
theorem dX8_span_43 : decode cX8_span 43 = .ok (.imul, 1) := by decide +kernel
theorem dX8_span_44 : decode cX8_span 44 = .ok (.iload_n 1, 1) := by decide +kernel
theorem dX8_span_45 : decode cX8_span 45 = .ok (.iadd, 1) := by decide +kernel
theorem dX8_span_46 : decode cX8_span 46 = .ok (.iaload, 1) := by decide +kernel
theorem dX8_span_47 : decode cX8_span 47 = .ok (.istore_n 3, 1) := by decide +kernel
theorem dX8_span_48 : decode cX8_span 48 = .ok (.aload_n 0, 1) := by decide +kernel
theorem dX8_span_49 : decode cX8_span 49 = .ok (.getfield 68, 3) := by decide +kernel
theorem dX8_span_52 : decode cX8_span 52 = .ok (.iload_n 2, 1) := by decide +kernel
theorem dX8_span_53 : decode cX8_span 53 = .ok (.iaload, 1) := by decide +kernel
theorem dX8_span_54 : decode cX8_span 54 = .ok (.ifCond .ge 9, 3) := by decide +kernel
theorem dX8_span_57 : decode cX8_span 57 = .ok (.sipush 200, 3) := by decide +kernel
theorem dX8_span_60 : decode cX8_span 60 = .ok (.goto 9, 3) := by decide +kernel
theorem dX8_span_63 : decode cX8_span 63 = .ok (.aload_n 0, 1) := by decide +kernel
theorem dX8_span_64 : decode cX8_span 64 = .ok (.getfield 68, 3) := by decide +kernel
theorem dX8_span_67 : decode cX8_span 67 = .ok (.iload_n 2, 1) := by decide +kernel
theorem dX8_span_68 : decode cX8_span 68 = .ok (.iaload, 1) := by decide +kernel
theorem dX8_span_69 : decode cX8_span 69 = .ok (.istore 4, 2) := by decide +kernel
theorem dX8_span_71 : decode cX8_span 71 = .ok (.aload_n 0, 1) := by decide +kernel
theorem dX8_span_72 : decode cX8_span 72 = .ok (.getfield 80, 3) := by decide +kernel
theorem dX8_span_75 : decode cX8_span 75 = .ok (.iload_n 1, 1) := by decide +kernel
theorem dX8_span_76 : decode cX8_span 76 = .ok (.aload_n 0, 1) := by decide +kernel
theorem dX8_span_77 : decode cX8_span 77 = .ok (.getfield 80, 3) := by decide +kernel
theorem dX8_span_80 : decode cX8_span 80 = .ok (.iload_n 1, 1) := by decide +kernel
theorem dX8_span_81 : decode cX8_span 81 = .ok (.iaload, 1) := by decide +kernel
theorem dX8_span_82 : decode cX8_span 82 = .ok (.ifCond .lt 13, 3) := by decide +kernel
theorem dX8_span_85 : decode cX8_span 85 = .ok (.iload_n 3, 1) := by decide +kernel
theorem dX8_span_86 : decode cX8_span 86 = .ok (.aload_n 0, 1) := by decide +kernel
theorem dX8_span_87 : decode cX8_span 87 = .ok (.getfield 80, 3) := by decide +kernel
theorem dX8_span_90 : decode cX8_span 90 = .ok (.iload_n 1, 1) := by decide +kernel
theorem dX8_span_91 : decode cX8_span 91 = .ok (.iaload, 1) := by decide +kernel
theorem dX8_span_92 : decode cX8_span 92 = .ok (.if_icmp .ge 7, 3) := by decide +kernel
theorem dX8_span_95 : decode cX8_span 95 = .ok (.iload_n 3, 1) := by decide +kernel
theorem dX8_span_96 : decode cX8_span 96 = .ok (.goto 9, 3) := by decide +kernel
theorem dX8_span_99 : decode cX8_span 99 = .ok (.aload_n 0, 1) := by decide +kernel
theorem dX8_span_100 : decode cX8_span 100 = .ok (.getfield 80, 3) := by decide +kernel
theorem dX8_span_103 : decode cX8_span 103 = .ok (.iload_n 1, 1) := by decide +kernel
theorem dX8_span_104 : decode cX8_span 104 = .ok (.iaload, 1) := by decide +kernel
theorem dX8_span_105 : decode cX8_span 105 = .ok (.iastore, 1) := by decide +kernel
theorem dX8_span_106 : decode cX8_span 106 = .ok (.aload_n 0, 1) := by decide +kernel
theorem dX8_span_107 : decode cX8_span 107 = .ok (.getfield 83, 3) := by decide +kernel
theorem dX8_span_110 : decode cX8_span 110 = .ok (.iload_n 1, 1) := by decide +kernel
theorem dX8_span_111 : decode cX8_span 111 = .ok (.iload 4, 2) := by decide +kernel
theorem dX8_span_113 : decode cX8_span 113 = .ok (.aload_n 0, 1) := by decide +kernel
theorem dX8_span_114 : decode cX8_span 114 = .ok (.getfield 83, 3) := by decide +kernel
theorem dX8_span_117 : decode cX8_span 117 = .ok (.iload_n 1, 1) := by decide +kernel
theorem dX8_span_118 : decode cX8_span 118 = .ok (.iaload, 1) := by decide +kernel
theorem dX8_span_119 : decode cX8_span 119 = .ok (.if_icmp .le 8, 3) := by decide +kernel
theorem dX8_span_122 : decode cX8_span 122 = .ok (.iload 4, 2) := by decide +kernel
theorem dX8_span_124 : decode cX8_span 124 = .ok (.goto 9, 3) := by decide +kernel
theorem dX8_span_127 : decode cX8_span 127 = .ok (.aload_n 0, 1) := by decide +kernel
theorem dX8_span_128 : decode cX8_span 128 = .ok (.getfield 83, 3) := by decide +kernel
theorem dX8_span_131 : decode cX8_span 131 = .ok (.iload_n 1, 1) := by decide +kernel
theorem dX8_span_132 : decode cX8_span 132 = .ok (.iaload, 1) := by decide +kernel
theorem dX8_span_133 : decode cX8_span 133 = .ok (.iastore, 1) := by decide +kernel
theorem dX8_span_134 : decode cX8_span 134 = .ok (.iinc 2 1, 3) := by decide +kernel
theorem dX8_span_137 : decode cX8_span 137 = .ok (.goto (-121), 3) := by decide +kernel
theorem dX8_span_140 : decode cX8_span 140 = .ok (.aload_n 0, 1) := by decide +kernel
theorem dX8_span_141 : decode cX8_span 141 = .ok (.getfield 83, 3) := by decide +kernel
theorem dX8_span_144 : decode cX8_span 144 = .ok (.iload_n 1, 1) := by decide +kernel
theorem dX8_span_145 : decode cX8_span 145 = .ok (.aload_n 0, 1) := by decide +kernel
theorem dX8_span_146 : decode cX8_span 146 = .ok (.getfield 83, 3) := by decide +kernel
theorem dX8_span_149 : decode cX8_span 149 = .ok (.iload_n 1, 1) := by decide +kernel
theorem dX8_span_150 : decode cX8_span 150 = .ok (.iaload, 1) := by decide +kernel
theorem dX8_span_151 : decode cX8_span 151 = .ok (.aload_n 0, 1) := by decide +kernel
theorem dX8_span_152 : decode cX8_span 152 = .ok (.getfield 80, 3) := by decide +kernel
theorem dX8_span_155 : decode cX8_span 155 = .ok (.iload_n 1, 1) := by decide +kernel
theorem dX8_span_156 : decode cX8_span 156 = .ok (.iaload, 1) := by decide +kernel
theorem dX8_span_157 : decode cX8_span 157 = .ok (.if_icmp .ge 12, 3) := by decide +kernel
theorem dX8_span_160 : decode cX8_span 160 = .ok (.aload_n 0, 1) := by decide +kernel
theorem dX8_span_161 : decode cX8_span 161 = .ok (.getfield 80, 3) := by decide +kernel
theorem dX8_span_164 : decode cX8_span 164 = .ok (.iload_n 1, 1) := by decide +kernel
theorem dX8_span_165 : decode cX8_span 165 = .ok (.iaload, 1) := by decide +kernel
theorem dX8_span_166 : decode cX8_span 166 = .ok (.goto 9, 3) := by decide +kernel
theorem dX8_span_169 : decode cX8_span 169 = .ok (.aload_n 0, 1) := by decide +kernel
theorem dX8_span_170 : decode cX8_span 170 = .ok (.getfield 83, 3) := by decide +kernel
theorem dX8_span_173 : decode cX8_span 173 = .ok (.iload_n 1, 1) := by decide +kernel
theorem dX8_span_174 : decode cX8_span 174 = .ok (.iaload, 1) := by decide +kernel
theorem dX8_span_175 : decode cX8_span 175 = .ok (.iastore, 1) := by decide +kernel
theorem dX8_span_176 : decode cX8_span 176 = .ok (.return_, 1) := by decide +kernel
theorem dX8_mayBe_0 : decode cX8_mayBe 0 = .ok (.aload_n 0, 1) := by decide +kernel
theorem dX8_mayBe_1 : decode cX8_mayBe 1 = .ok (.getfield 31, 3) := by decide +kernel
theorem dX8_mayBe_4 : decode cX8_mayBe 4 = .ok (.iload_n 1, 1) := by decide +kernel
theorem dX8_mayBe_5 : decode cX8_mayBe 5 = .ok (.iaload, 1) := by decide +kernel
theorem dX8_mayBe_6 : decode cX8_mayBe 6 = .ok (.iconst 4, 1) := by decide +kernel
theorem dX8_mayBe_7 : decode cX8_mayBe 7 = .ok (.if_icmp .ne 10, 3) := by decide +kernel
theorem dX8_mayBe_10 : decode cX8_mayBe 10 = .ok (.iload_n 2, 1) := by decide +kernel
theorem dX8_mayBe_11 : decode cX8_mayBe 11 = .ok (.iconst 2, 1) := by decide +kernel
theorem dX8_mayBe_12 : decode cX8_mayBe 12 = .ok (.if_icmp .eq 5, 3) := by decide +kernel
theorem dX8_mayBe_15 : decode cX8_mayBe 15 = .ok (.iconst 0, 1) := by decide +kernel
theorem dX8_mayBe_16 : decode cX8_mayBe 16 = .ok (.ireturn, 1) := by decide +kernel
theorem dX8_mayBe_17 : decode cX8_mayBe 17 = .ok (.iconst 0, 1) := by decide +kernel
theorem dX8_mayBe_18 : decode cX8_mayBe 18 = .ok (.istore_n 3, 1) := by decide +kernel
theorem dX8_mayBe_19 : decode cX8_mayBe 19 = .ok (.iload_n 3, 1) := by decide +kernel
theorem dX8_mayBe_20 : decode cX8_mayBe 20 = .ok (.iload_n 1, 1) := by decide +kernel
theorem dX8_mayBe_21 : decode cX8_mayBe 21 = .ok (.if_icmp .ge 86, 3) := by decide +kernel
theorem dX8_mayBe_24 : decode cX8_mayBe 24 = .ok (.aload_n 0, 1) := by decide +kernel
theorem dX8_mayBe_25 : decode cX8_mayBe 25 = .ok (.getfield 80, 3) := by decide +kernel
theorem dX8_mayBe_28 : decode cX8_mayBe 28 = .ok (.iload_n 3, 1) := by decide +kernel
theorem dX8_mayBe_29 : decode cX8_mayBe 29 = .ok (.iaload, 1) := by decide +kernel
theorem dX8_mayBe_30 : decode cX8_mayBe 30 = .ok (.ifCond .lt 47, 3) := by decide +kernel
theorem dX8_mayBe_33 : decode cX8_mayBe 33 = .ok (.aload_n 0, 1) := by decide +kernel
theorem dX8_mayBe_34 : decode cX8_mayBe 34 = .ok (.getfield 86, 3) := by decide +kernel
theorem dX8_mayBe_37 : decode cX8_mayBe 37 = .ok (.iload_n 3, 1) := by decide +kernel
theorem dX8_mayBe_38 : decode cX8_mayBe 38 = .ok (.iaload, 1) := by decide +kernel
theorem dX8_mayBe_39 : decode cX8_mayBe 39 = .ok (.iload_n 2, 1) := by decide +kernel
theorem dX8_mayBe_40 : decode cX8_mayBe 40 = .ok (.if_icmp .ne 37, 3) := by decide +kernel
theorem dX8_mayBe_43 : decode cX8_mayBe 43 = .ok (.aload_n 0, 1) := by decide +kernel
theorem dX8_mayBe_44 : decode cX8_mayBe 44 = .ok (.getfield 80, 3) := by decide +kernel
theorem dX8_mayBe_47 : decode cX8_mayBe 47 = .ok (.iload_n 3, 1) := by decide +kernel
theorem dX8_mayBe_48 : decode cX8_mayBe 48 = .ok (.iaload, 1) := by decide +kernel
theorem dX8_mayBe_49 : decode cX8_mayBe 49 = .ok (.aload_n 0, 1) := by decide +kernel
theorem dX8_mayBe_50 : decode cX8_mayBe 50 = .ok (.getfield 83, 3) := by decide +kernel
theorem dX8_mayBe_53 : decode cX8_mayBe 53 = .ok (.iload_n 1, 1) := by decide +kernel
theorem dX8_mayBe_54 : decode cX8_mayBe 54 = .ok (.iaload, 1) := by decide +kernel
theorem dX8_mayBe_55 : decode cX8_mayBe 55 = .ok (.if_icmp .gt 22, 3) := by decide +kernel
theorem dX8_mayBe_58 : decode cX8_mayBe 58 = .ok (.aload_n 0, 1) := by decide +kernel
theorem dX8_mayBe_59 : decode cX8_mayBe 59 = .ok (.getfield 80, 3) := by decide +kernel
theorem dX8_mayBe_62 : decode cX8_mayBe 62 = .ok (.iload_n 1, 1) := by decide +kernel
theorem dX8_mayBe_63 : decode cX8_mayBe 63 = .ok (.iaload, 1) := by decide +kernel
theorem dX8_mayBe_64 : decode cX8_mayBe 64 = .ok (.aload_n 0, 1) := by decide +kernel
theorem dX8_mayBe_65 : decode cX8_mayBe 65 = .ok (.getfield 83, 3) := by decide +kernel
theorem dX8_mayBe_68 : decode cX8_mayBe 68 = .ok (.iload_n 3, 1) := by decide +kernel
theorem dX8_mayBe_69 : decode cX8_mayBe 69 = .ok (.iaload, 1) := by decide +kernel
theorem dX8_mayBe_70 : decode cX8_mayBe 70 = .ok (.if_icmp .gt 7, 3) := by decide +kernel
theorem dX8_mayBe_73 : decode cX8_mayBe 73 = .ok (.iconst 1, 1) := by decide +kernel
theorem dX8_mayBe_74 : decode cX8_mayBe 74 = .ok (.goto 4, 3) := by decide +kernel
theorem dX8_mayBe_77 : decode cX8_mayBe 77 = .ok (.iconst 0, 1) := by decide +kernel
theorem dX8_mayBe_78 : decode cX8_mayBe 78 = .ok (.istore 4, 2) := by decide +kernel
theorem dX8_mayBe_80 : decode cX8_mayBe 80 = .ok (.iload 4, 2) := by decide +kernel
theorem dX8_mayBe_82 : decode cX8_mayBe 82 = .ok (.ifCond .eq 19, 3) := by decide +kernel
theorem dX8_mayBe_85 : decode cX8_mayBe 85 = .ok (.aload_n 0, 1) := by decide +kernel
theorem dX8_mayBe_86 : decode cX8_mayBe 86 = .ok (.getfield 37, 3) := by decide +kernel
theorem dX8_mayBe_89 : decode cX8_mayBe 89 = .ok (.iload_n 1, 1) := by decide +kernel
theorem dX8_mayBe_90 : decode cX8_mayBe 90 = .ok (.iaload, 1) := by decide +kernel
theorem dX8_mayBe_91 : decode cX8_mayBe 91 = .ok (.iload_n 3, 1) := by decide +kernel
theorem dX8_mayBe_92 : decode cX8_mayBe 92 = .ok (.ishr, 1) := by decide +kernel
theorem dX8_mayBe_93 : decode cX8_mayBe 93 = .ok (.iconst 1, 1) := by decide +kernel
theorem dX8_mayBe_94 : decode cX8_mayBe 94 = .ok (.iand, 1) := by decide +kernel
theorem dX8_mayBe_95 : decode cX8_mayBe 95 = .ok (.iconst 1, 1) := by decide +kernel
theorem dX8_mayBe_96 : decode cX8_mayBe 96 = .ok (.if_icmp .ne 5, 3) := by decide +kernel
theorem dX8_mayBe_99 : decode cX8_mayBe 99 = .ok (.iconst 0, 1) := by decide +kernel
theorem dX8_mayBe_100 : decode cX8_mayBe 100 = .ok (.ireturn, 1) := by decide +kernel
theorem dX8_mayBe_101 : decode cX8_mayBe 101 = .ok (.iinc 3 1, 3) := by decide +kernel
theorem dX8_mayBe_104 : decode cX8_mayBe 104 = .ok (.goto (-85), 3) := by decide +kernel
theorem dX8_mayBe_107 : decode cX8_mayBe 107 = .ok (.iconst 1, 1) := by decide +kernel
theorem dX8_mayBe_108 : decode cX8_mayBe 108 = .ok (.ireturn, 1) := by decide +kernel
theorem dX8_giveRooms_0 : decode cX8_giveRooms 0 = .ok (.iload_n 1, 1) := by decide +kernel
theorem dX8_giveRooms_1 : decode cX8_giveRooms 1 = .ok (.aload_n 0, 1) := by decide +kernel
theorem dX8_giveRooms_2 : decode cX8_giveRooms 2 = .ok (.getfield 100, 3) := by decide +kernel
theorem dX8_giveRooms_5 : decode cX8_giveRooms 5 = .ok (.if_icmp .ne 5, 3) := by decide +kernel
theorem dX8_giveRooms_8 : decode cX8_giveRooms 8 = .ok (.iconst 1, 1) := by decide +kernel
theorem dX8_giveRooms_9 : decode cX8_giveRooms 9 = .ok (.ireturn, 1) := by decide +kernel
theorem dX8_giveRooms_10 : decode cX8_giveRooms 10 = .ok (.aload_n 0, 1) := by decide +kernel
theorem dX8_giveRooms_11 : decode cX8_giveRooms 11 = .ok (.getfield 80, 3) := by decide +kernel
theorem dX8_giveRooms_14 : decode cX8_giveRooms 14 = .ok (.iload_n 1, 1) := by decide +kernel
theorem dX8_giveRooms_15 : decode cX8_giveRooms 15 = .ok (.iaload, 1) := by decide +kernel
theorem dX8_giveRooms_16 : decode cX8_giveRooms 16 = .ok (.ifCond .ge 11, 3) := by decide +kernel
theorem dX8_giveRooms_19 : decode cX8_giveRooms 19 = .ok (.aload_n 0, 1) := by decide +kernel
theorem dX8_giveRooms_20 : decode cX8_giveRooms 20 = .ok (.iload_n 1, 1) := by decide +kernel
theorem dX8_giveRooms_21 : decode cX8_giveRooms 21 = .ok (.iconst 1, 1) := by decide +kernel
theorem dX8_giveRooms_22 : decode cX8_giveRooms 22 = .ok (.iadd, 1) := by decide +kernel
theorem dX8_giveRooms_23 : decode cX8_giveRooms 23 = .ok (.invokevirtual 180, 3) := by decide +kernel
theorem dX8_giveRooms_26 : decode cX8_giveRooms 26 = .ok (.ireturn, 1) := by decide +kernel
theorem dX8_giveRooms_27 : decode cX8_giveRooms 27 = .ok (.iconst 0, 1) := by decide +kernel
theorem dX8_giveRooms_28 : decode cX8_giveRooms 28 = .ok (.istore_n 2, 1) := by decide +kernel
theorem dX8_giveRooms_29 : decode cX8_giveRooms 29 = .ok (.iload_n 2, 1) := by decide +kernel
theorem dX8_giveRooms_30 : decode cX8_giveRooms 30 = .ok (.iconst 3, 1) := by decide +kernel
theorem dX8_giveRooms_31 : decode cX8_giveRooms 31 = .ok (.if_icmp .ge 37, 3) := by decide +kernel
theorem dX8_giveRooms_34 : decode cX8_giveRooms 34 = .ok (.aload_n 0, 1) := by decide +kernel
theorem dX8_giveRooms_35 : decode cX8_giveRooms 35 = .ok (.iload_n 1, 1) := by decide +kernel
theorem dX8_giveRooms_36 : decode cX8_giveRooms 36 = .ok (.iload_n 2, 1) := by decide +kernel
theorem dX8_giveRooms_37 : decode cX8_giveRooms 37 = .ok (.invokevirtual 183, 3) := by decide +kernel
theorem dX8_giveRooms_40 : decode cX8_giveRooms 40 = .ok (.ifCond .eq 22, 3) := by decide +kernel
theorem dX8_giveRooms_43 : decode cX8_giveRooms 43 = .ok (.aload_n 0, 1) := by decide +kernel
theorem dX8_giveRooms_44 : decode cX8_giveRooms 44 = .ok (.getfield 86, 3) := by decide +kernel
theorem dX8_giveRooms_47 : decode cX8_giveRooms 47 = .ok (.iload_n 1, 1) := by decide +kernel
theorem dX8_giveRooms_48 : decode cX8_giveRooms 48 = .ok (.iload_n 2, 1) := by decide +kernel
theorem dX8_giveRooms_49 : decode cX8_giveRooms 49 = .ok (.iastore, 1) := by decide +kernel
theorem dX8_giveRooms_50 : decode cX8_giveRooms 50 = .ok (.aload_n 0, 1) := by decide +kernel
theorem dX8_giveRooms_51 : decode cX8_giveRooms 51 = .ok (.iload_n 1, 1) := by decide +kernel
theorem dX8_giveRooms_52 : decode cX8_giveRooms 52 = .ok (.iconst 1, 1) := by decide +kernel
theorem dX8_giveRooms_53 : decode cX8_giveRooms 53 = .ok (.iadd, 1) := by decide +kernel
theorem dX8_giveRooms_54 : decode cX8_giveRooms 54 = .ok (.invokevirtual 180, 3) := by decide +kernel
theorem dX8_giveRooms_57 : decode cX8_giveRooms 57 = .ok (.ifCond .eq 5, 3) := by decide +kernel
theorem dX8_giveRooms_60 : decode cX8_giveRooms 60 = .ok (.iconst 1, 1) := by decide +kernel
theorem dX8_giveRooms_61 : decode cX8_giveRooms 61 = .ok (.ireturn, 1) := by decide +kernel
theorem dX8_giveRooms_62 : decode cX8_giveRooms 62 = .ok (.iinc 2 1, 3) := by decide +kernel
theorem dX8_giveRooms_65 : decode cX8_giveRooms 65 = .ok (.goto (-36), 3) := by decide +kernel
theorem dX8_giveRooms_68 : decode cX8_giveRooms 68 = .ok (.iconst 0, 1) := by decide +kernel
theorem dX8_giveRooms_69 : decode cX8_giveRooms 69 = .ok (.ireturn, 1) := by decide +kernel
theorem dX8_room_0 : decode cX8_room 0 = .ok (.aload_n 0, 1) := by decide +kernel
theorem dX8_room_1 : decode cX8_room 1 = .ok (.iload_n 1, 1) := by decide +kernel
theorem dX8_room_2 : decode cX8_room 2 = .ok (.invokevirtual 115, 3) := by decide +kernel
theorem dX8_room_5 : decode cX8_room 5 = .ok (.ifCond .ne 7, 3) := by decide +kernel
theorem dX8_room_8 : decode cX8_room 8 = .ok (.ldc2_w 107, 3) := by decide +kernel
theorem dX8_room_11 : decode cX8_room 11 = .ok (.lreturn, 1) := by decide +kernel
theorem dX8_room_12 : decode cX8_room 12 = .ok (.aload_n 0, 1) := by decide +kernel
theorem dX8_room_13 : decode cX8_room 13 = .ok (.invokevirtual 166, 3) := by decide +kernel
theorem dX8_room_16 : decode cX8_room 16 = .ok (.iconst 0, 1) := by decide +kernel
theorem dX8_room_17 : decode cX8_room 17 = .ok (.istore_n 2, 1) := by decide +kernel
theorem dX8_room_18 : decode cX8_room 18 = .ok (.iload_n 2, 1) := by decide +kernel
theorem dX8_room_19 : decode cX8_room 19 = .ok (.aload_n 0, 1) := by decide +kernel
theorem dX8_room_20 : decode cX8_room 20 = .ok (.getfield 100, 3) := by decide +kernel
theorem dX8_room_23 : decode cX8_room 23 = .ok (.if_icmp .ge 14, 3) := by decide +kernel
theorem dX8_room_26 : decode cX8_room 26 = .ok (.aload_n 0, 1) := by decide +kernel
theorem dX8_room_27 : decode cX8_room 27 = .ok (.iload_n 2, 1) := by decide +kernel
theorem dX8_room_28 : decode cX8_room 28 = .ok (.invokevirtual 186, 3) := by decide +kernel
theorem dX8_room_31 : decode cX8_room 31 = .ok (.iinc 2 1, 3) := by decide +kernel
theorem dX8_room_34 : decode cX8_room 34 = .ok (.goto (-16), 3) := by decide +kernel
theorem dX8_room_37 : decode cX8_room 37 = .ok (.aload_n 0, 1) := by decide +kernel
theorem dX8_room_38 : decode cX8_room 38 = .ok (.iconst 0, 1) := by decide +kernel
theorem dX8_room_39 : decode cX8_room 39 = .ok (.invokevirtual 180, 3) := by decide +kernel
theorem dX8_room_42 : decode cX8_room 42 = .ok (.ifCond .ne 7, 3) := by decide +kernel
theorem dX8_room_45 : decode cX8_room 45 = .ok (.ldc2_w 145, 3) := by decide +kernel
theorem dX8_room_48 : decode cX8_room 48 = .ok (.lreturn, 1) := by decide +kernel
theorem dX8_room_49 : decode cX8_room 49 = .ok (.aload_n 0, 1) := by decide +kernel
theorem dX8_room_50 : decode cX8_room 50 = .ok (.getfield 80, 3) := by decide +kernel
theorem dX8_room_53 : decode cX8_room 53 = .ok (.iload_n 1, 1) := by decide +kernel
theorem dX8_room_54 : decode cX8_room 54 = .ok (.iaload, 1) := by decide +kernel
theorem dX8_room_55 : decode cX8_room 55 = .ok (.ifCond .ge 9, 3) := by decide +kernel
theorem dX8_room_58 : decode cX8_room 58 = .ok (.ldc2_w 129, 3) := by decide +kernel
theorem dX8_room_61 : decode cX8_room 61 = .ok (.goto 10, 3) := by decide +kernel
theorem dX8_room_64 : decode cX8_room 64 = .ok (.aload_n 0, 1) := by decide +kernel
theorem dX8_room_65 : decode cX8_room 65 = .ok (.getfield 86, 3) := by decide +kernel
theorem dX8_room_68 : decode cX8_room 68 = .ok (.iload_n 1, 1) := by decide +kernel
theorem dX8_room_69 : decode cX8_room 69 = .ok (.iaload, 1) := by decide +kernel
theorem dX8_room_70 : decode cX8_room 70 = .ok (.i2l, 1) := by decide +kernel
theorem dX8_room_71 : decode cX8_room 71 = .ok (.lreturn, 1) := by decide +kernel
theorem dX8_notify_0 : decode cX8_notify 0 = .ok (.iconst 0, 1) := by decide +kernel
theorem dX8_notify_1 : decode cX8_notify 1 = .ok (.istore_n 3, 1) := by decide +kernel
theorem dX8_notify_2 : decode cX8_notify 2 = .ok (.iload_n 3, 1) := by decide +kernel
theorem dX8_notify_3 : decode cX8_notify 3 = .ok (.aload_n 0, 1) := by decide +kernel
theorem dX8_notify_4 : decode cX8_notify 4 = .ok (.getfield 189, 3) := by decide +kernel
theorem dX8_notify_7 : decode cX8_notify 7 = .ok (.if_icmp .ge 39, 3) := by decide +kernel
theorem dX8_notify_10 : decode cX8_notify 10 = .ok (.aload_n 0, 1) := by decide +kernel
theorem dX8_notify_11 : decode cX8_notify 11 = .ok (.getfield 46, 3) := by decide +kernel
theorem dX8_notify_14 : decode cX8_notify 14 = .ok (.iload_n 3, 1) := by decide +kernel
theorem dX8_notify_15 : decode cX8_notify 15 = .ok (.iaload, 1) := by decide +kernel
theorem dX8_notify_16 : decode cX8_notify 16 = .ok (.iload_n 1, 1) := by decide +kernel
theorem dX8_notify_17 : decode cX8_notify 17 = .ok (.if_icmp .ne 23, 3) := by decide +kernel
theorem dX8_notify_20 : decode cX8_notify 20 = .ok (.aload_n 0, 1) := by decide +kernel
theorem dX8_notify_21 : decode cX8_notify 21 = .ok (.getfield 49, 3) := by decide +kernel
theorem dX8_notify_24 : decode cX8_notify 24 = .ok (.iload_n 3, 1) := by decide +kernel
theorem dX8_notify_25 : decode cX8_notify 25 = .ok (.iaload, 1) := by decide +kernel
theorem dX8_notify_26 : decode cX8_notify 26 = .ok (.iload_n 2, 1) := by decide +kernel
theorem dX8_notify_27 : decode cX8_notify 27 = .ok (.if_icmp .ne 13, 3) := by decide +kernel
theorem dX8_notify_30 : decode cX8_notify 30 = .ok (.aload_n 0, 1) := by decide +kernel
theorem dX8_notify_31 : decode cX8_notify 31 = .ok (.getfield 52, 3) := by decide +kernel
theorem dX8_notify_34 : decode cX8_notify 34 = .ok (.iload_n 3, 1) := by decide +kernel
theorem dX8_notify_35 : decode cX8_notify 35 = .ok (.iaload, 1) := by decide +kernel
theorem dX8_notify_36 : decode cX8_notify 36 = .ok (.ifCond .ne 4, 3) := by decide +kernel
theorem dX8_notify_39 : decode cX8_notify 39 = .ok (.return_, 1) := by decide +kernel
theorem dX8_notify_40 : decode cX8_notify 40 = .ok (.iinc 3 1, 3) := by decide +kernel
theorem dX8_notify_43 : decode cX8_notify 43 = .ok (.goto (-41), 3) := by decide +kernel
theorem dX8_notify_46 : decode cX8_notify 46 = .ok (.aload_n 0, 1) := by decide +kernel
theorem dX8_notify_47 : decode cX8_notify 47 = .ok (.getfield 189, 3) := by decide +kernel
theorem dX8_notify_50 : decode cX8_notify 50 = .ok (.bipush 60, 2) := by decide +kernel
theorem dX8_notify_52 : decode cX8_notify 52 = .ok (.if_icmp .ge 43, 3) := by decide +kernel
theorem dX8_notify_55 : decode cX8_notify 55 = .ok (.aload_n 0, 1) := by decide +kernel
theorem dX8_notify_56 : decode cX8_notify 56 = .ok (.getfield 46, 3) := by decide +kernel
theorem dX8_notify_59 : decode cX8_notify 59 = .ok (.aload_n 0, 1) := by decide +kernel
theorem dX8_notify_60 : decode cX8_notify 60 = .ok (.getfield 189, 3) := by decide +kernel
theorem dX8_notify_63 : decode cX8_notify 63 = .ok (.iload_n 1, 1) := by decide +kernel
theorem dX8_notify_64 : decode cX8_notify 64 = .ok (.iastore, 1) := by decide +kernel
theorem dX8_notify_65 : decode cX8_notify 65 = .ok (.aload_n 0, 1) := by decide +kernel
theorem dX8_notify_66 : decode cX8_notify 66 = .ok (.getfield 49, 3) := by decide +kernel
theorem dX8_notify_69 : decode cX8_notify 69 = .ok (.aload_n 0, 1) := by decide +kernel
theorem dX8_notify_70 : decode cX8_notify 70 = .ok (.getfield 189, 3) := by decide +kernel
theorem dX8_notify_73 : decode cX8_notify 73 = .ok (.iload_n 2, 1) := by decide +kernel
theorem dX8_notify_74 : decode cX8_notify 74 = .ok (.iastore, 1) := by decide +kernel
theorem dX8_notify_75 : decode cX8_notify 75 = .ok (.aload_n 0, 1) := by decide +kernel
theorem dX8_notify_76 : decode cX8_notify 76 = .ok (.getfield 52, 3) := by decide +kernel
theorem dX8_notify_79 : decode cX8_notify 79 = .ok (.aload_n 0, 1) := by decide +kernel
theorem dX8_notify_80 : decode cX8_notify 80 = .ok (.getfield 189, 3) := by decide +kernel
theorem dX8_notify_83 : decode cX8_notify 83 = .ok (.iconst 0, 1) := by decide +kernel
theorem dX8_notify_84 : decode cX8_notify 84 = .ok (.iastore, 1) := by decide +kernel
theorem dX8_notify_85 : decode cX8_notify 85 = .ok (.aload_n 0, 1) := by decide +kernel
theorem dX8_notify_86 : decode cX8_notify 86 = .ok (.dup, 1) := by decide +kernel
theorem dX8_notify_87 : decode cX8_notify 87 = .ok (.getfield 189, 3) := by decide +kernel
theorem dX8_notify_90 : decode cX8_notify 90 = .ok (.iconst 1, 1) := by decide +kernel
theorem dX8_notify_91 : decode cX8_notify 91 = .ok (.iadd, 1) := by decide +kernel
theorem dX8_notify_92 : decode cX8_notify 92 = .ok (.putfield 189, 3) := by decide +kernel
theorem dX8_notify_95 : decode cX8_notify 95 = .ok (.return_, 1) := by decide +kernel
theorem dX8_move_0 : decode cX8_move 0 = .ok (.aload_n 0, 1) := by decide +kernel
theorem dX8_move_1 : decode cX8_move 1 = .ok (.iload_n 1, 1) := by decide +kernel
theorem dX8_move_2 : decode cX8_move 2 = .ok (.invokevirtual 118, 3) := by decide +kernel
theorem dX8_move_5 : decode cX8_move 5 = .ok (.ifCond .eq 10, 3) := by decide +kernel
theorem dX8_move_8 : decode cX8_move 8 = .ok (.iload_n 2, 1) := by decide +kernel
theorem dX8_move_9 : decode cX8_move 9 = .ok (.invokestatic 103, 3) := by decide +kernel
theorem dX8_move_12 : decode cX8_move 12 = .ok (.ifCond .ne 7, 3) := by decide +kernel
theorem dX8_move_15 : decode cX8_move 15 = .ok (.ldc2_w 107, 3) := by decide +kernel
theorem dX8_move_18 : decode cX8_move 18 = .ok (.lreturn, 1) := by decide +kernel
theorem dX8_move_19 : decode cX8_move 19 = .ok (.iload_n 2, 1) := by decide +kernel
theorem dX8_move_20 : decode cX8_move 20 = .ok (.aload_n 0, 1) := by decide +kernel
theorem dX8_move_21 : decode cX8_move 21 = .ok (.getfield 16, 3) := by decide +kernel
theorem dX8_move_24 : decode cX8_move 24 = .ok (.iload_n 1, 1) := by decide +kernel
theorem dX8_move_25 : decode cX8_move 25 = .ok (.iaload, 1) := by decide +kernel
theorem dX8_move_26 : decode cX8_move 26 = .ok (.if_icmp .eq 18, 3) := by decide +kernel
theorem dX8_move_29 : decode cX8_move 29 = .ok (.aload_n 0, 1) := by decide +kernel
theorem dX8_move_30 : decode cX8_move 30 = .ok (.getfield 7, 3) := by decide +kernel
theorem dX8_move_33 : decode cX8_move 33 = .ok (.iload_n 2, 1) := by decide +kernel
theorem dX8_move_34 : decode cX8_move 34 = .ok (.iaload, 1) := by decide +kernel
theorem dX8_move_35 : decode cX8_move 35 = .ok (.bipush 6, 2) := by decide +kernel
theorem dX8_move_37 : decode cX8_move 37 = .ok (.if_icmp .ne 7, 3) := by decide +kernel
theorem dX8_move_40 : decode cX8_move 40 = .ok (.ldc2_w 109, 3) := by decide +kernel
theorem dX8_move_43 : decode cX8_move 43 = .ok (.lreturn, 1) := by decide +kernel
theorem dX8_move_44 : decode cX8_move 44 = .ok (.aload_n 0, 1) := by decide +kernel
theorem dX8_move_45 : decode cX8_move 45 = .ok (.getfield 16, 3) := by decide +kernel
theorem dX8_move_48 : decode cX8_move 48 = .ok (.iload_n 1, 1) := by decide +kernel
theorem dX8_move_49 : decode cX8_move 49 = .ok (.iaload, 1) := by decide +kernel
theorem dX8_move_50 : decode cX8_move 50 = .ok (.istore_n 3, 1) := by decide +kernel
theorem dX8_move_51 : decode cX8_move 51 = .ok (.aload_n 0, 1) := by decide +kernel
theorem dX8_move_52 : decode cX8_move 52 = .ok (.getfield 7, 3) := by decide +kernel
theorem dX8_move_55 : decode cX8_move 55 = .ok (.iload_n 3, 1) := by decide +kernel
theorem dX8_move_56 : decode cX8_move 56 = .ok (.dup2, 1) := by decide +kernel
theorem dX8_move_57 : decode cX8_move 57 = .ok (.iaload, 1) := by decide +kernel
theorem dX8_move_58 : decode cX8_move 58 = .ok (.iconst 1, 1) := by decide +kernel
theorem dX8_move_59 : decode cX8_move 59 = .ok (.isub, 1) := by decide +kernel
theorem dX8_move_60 : decode cX8_move 60 = .ok (.iastore, 1) := by decide +kernel
theorem dX8_move_61 : decode cX8_move 61 = .ok (.aload_n 0, 1) := by decide +kernel
theorem dX8_move_62 : decode cX8_move 62 = .ok (.iload_n 1, 1) := by decide +kernel
theorem dX8_move_63 : decode cX8_move 63 = .ok (.invokevirtual 125, 3) := by decide +kernel
theorem dX8_move_66 : decode cX8_move 66 = .ok (.istore 4, 2) := by decide +kernel
theorem dX8_move_68 : decode cX8_move 68 = .ok (.iload 4, 2) := by decide +kernel
theorem dX8_move_70 : decode cX8_move 70 = .ok (.aload_n 0, 1) := by decide +kernel
theorem dX8_move_71 : decode cX8_move 71 = .ok (.getfield 7, 3) := by decide +kernel
theorem dX8_move_74 : decode cX8_move 74 = .ok (.iload_n 3, 1) := by decide +kernel
theorem dX8_move_75 : decode cX8_move 75 = .ok (.iaload, 1) := by decide +kernel
theorem dX8_move_76 : decode cX8_move 76 = .ok (.if_icmp .ge 35, 3) := by decide +kernel
theorem dX8_move_79 : decode cX8_move 79 = .ok (.aload_n 0, 1) := by decide +kernel
theorem dX8_move_80 : decode cX8_move 80 = .ok (.getfield 13, 3) := by decide +kernel
theorem dX8_move_83 : decode cX8_move 83 = .ok (.bipush 6, 2) := by decide +kernel
theorem dX8_move_85 : decode cX8_move 85 = .ok (.iload_n 3, 1) := by decide +kernel
theorem dX8_move_86 : decode cX8_move 86 = .ok (.imul, 1) := by decide +kernel
theorem dX8_move_87 : decode cX8_move 87 = .ok (.iload 4, 2) := by decide +kernel
theorem dX8_move_89 : decode cX8_move 89 = .ok (.iadd, 1) := by decide +kernel
theorem dX8_move_90 : decode cX8_move 90 = .ok (.aload_n 0, 1) := by decide +kernel
theorem dX8_move_91 : decode cX8_move 91 = .ok (.getfield 13, 3) := by decide +kernel
theorem dX8_move_94 : decode cX8_move 94 = .ok (.bipush 6, 2) := by decide +kernel
theorem dX8_move_96 : decode cX8_move 96 = .ok (.iload_n 3, 1) := by decide +kernel
theorem dX8_move_97 : decode cX8_move 97 = .ok (.imul, 1) := by decide +kernel
theorem dX8_move_98 : decode cX8_move 98 = .ok (.iload 4, 2) := by decide +kernel
theorem dX8_move_100 : decode cX8_move 100 = .ok (.iadd, 1) := by decide +kernel
theorem dX8_move_101 : decode cX8_move 101 = .ok (.iconst 1, 1) := by decide +kernel
theorem dX8_move_102 : decode cX8_move 102 = .ok (.iadd, 1) := by decide +kernel
theorem dX8_move_103 : decode cX8_move 103 = .ok (.iaload, 1) := by decide +kernel
theorem dX8_move_104 : decode cX8_move 104 = .ok (.iastore, 1) := by decide +kernel
theorem dX8_move_105 : decode cX8_move 105 = .ok (.iinc 4 1, 3) := by decide +kernel
theorem dX8_move_108 : decode cX8_move 108 = .ok (.goto (-40), 3) := by decide +kernel
theorem dX8_move_111 : decode cX8_move 111 = .ok (.aload_n 0, 1) := by decide +kernel
theorem dX8_move_112 : decode cX8_move 112 = .ok (.iload_n 1, 1) := by decide +kernel
theorem dX8_move_113 : decode cX8_move 113 = .ok (.iload_n 2, 1) := by decide +kernel
theorem dX8_move_114 : decode cX8_move 114 = .ok (.invokevirtual 111, 3) := by decide +kernel
theorem dX8_move_117 : decode cX8_move 117 = .ok (.iconst 0, 1) := by decide +kernel
theorem dX8_move_118 : decode cX8_move 118 = .ok (.istore 4, 2) := by decide +kernel
theorem dX8_move_120 : decode cX8_move 120 = .ok (.iload 4, 2) := by decide +kernel
theorem dX8_move_122 : decode cX8_move 122 = .ok (.aload_n 0, 1) := by decide +kernel
theorem dX8_move_123 : decode cX8_move 123 = .ok (.getfield 100, 3) := by decide +kernel
theorem dX8_move_126 : decode cX8_move 126 = .ok (.if_icmp .ge 26, 3) := by decide +kernel
theorem dX8_move_129 : decode cX8_move 129 = .ok (.aload_n 0, 1) := by decide +kernel
theorem dX8_move_130 : decode cX8_move 130 = .ok (.iload_n 1, 1) := by decide +kernel
theorem dX8_move_131 : decode cX8_move 131 = .ok (.iload 4, 2) := by decide +kernel
theorem dX8_move_133 : decode cX8_move 133 = .ok (.invokevirtual 121, 3) := by decide +kernel
theorem dX8_move_136 : decode cX8_move 136 = .ok (.ifCond .eq 10, 3) := by decide +kernel
theorem dX8_move_139 : decode cX8_move 139 = .ok (.aload_n 0, 1) := by decide +kernel
theorem dX8_move_140 : decode cX8_move 140 = .ok (.iload 4, 2) := by decide +kernel
theorem dX8_move_142 : decode cX8_move 142 = .ok (.iload_n 1, 1) := by decide +kernel
theorem dX8_move_143 : decode cX8_move 143 = .ok (.invokevirtual 192, 3) := by decide +kernel
theorem dX8_move_146 : decode cX8_move 146 = .ok (.iinc 4 1, 3) := by decide +kernel
theorem dX8_move_149 : decode cX8_move 149 = .ok (.goto (-29), 3) := by decide +kernel
theorem dX8_move_152 : decode cX8_move 152 = .ok (.aload_n 0, 1) := by decide +kernel
theorem dX8_move_153 : decode cX8_move 153 = .ok (.getfield 7, 3) := by decide +kernel
theorem dX8_move_156 : decode cX8_move 156 = .ok (.iload_n 2, 1) := by decide +kernel
theorem dX8_move_157 : decode cX8_move 157 = .ok (.iaload, 1) := by decide +kernel
theorem dX8_move_158 : decode cX8_move 158 = .ok (.iconst 1, 1) := by decide +kernel
theorem dX8_move_159 : decode cX8_move 159 = .ok (.isub, 1) := by decide +kernel
theorem dX8_move_160 : decode cX8_move 160 = .ok (.i2l, 1) := by decide +kernel
theorem dX8_move_161 : decode cX8_move 161 = .ok (.lreturn, 1) := by decide +kernel
theorem dX8_notice_0 : decode cX8_notice 0 = .ok (.iload_n 1, 1) := by decide +kernel
theorem dX8_notice_1 : decode cX8_notice 1 = .ok (.iconst 0, 1) := by decide +kernel
theorem dX8_notice_2 : decode cX8_notice 2 = .ok (.aload_n 0, 1) := by decide +kernel
theorem dX8_notice_3 : decode cX8_notice 3 = .ok (.getfield 189, 3) := by decide +kernel
theorem dX8_notice_6 : decode cX8_notice 6 = .ok (.iconst 1, 1) := by decide +kernel
theorem dX8_notice_7 : decode cX8_notice 7 = .ok (.isub, 1) := by decide +kernel
theorem dX8_notice_8 : decode cX8_notice 8 = .ok (.invokestatic 92, 3) := by decide +kernel
theorem dX8_notice_11 : decode cX8_notice 11 = .ok (.ifCond .eq 12, 3) := by decide +kernel
theorem dX8_notice_14 : decode cX8_notice 14 = .ok (.iload_n 2, 1) := by decide +kernel
theorem dX8_notice_15 : decode cX8_notice 15 = .ok (.iconst 0, 1) := by decide +kernel
theorem dX8_notice_16 : decode cX8_notice 16 = .ok (.iconst 2, 1) := by decide +kernel
theorem dX8_notice_17 : decode cX8_notice 17 = .ok (.invokestatic 92, 3) := by decide +kernel
theorem dX8_notice_20 : decode cX8_notice 20 = .ok (.ifCond .ne 7, 3) := by decide +kernel
theorem dX8_notice_23 : decode cX8_notice 23 = .ok (.ldc2_w 107, 3) := by decide +kernel
theorem dX8_notice_26 : decode cX8_notice 26 = .ok (.lreturn, 1) := by decide +kernel
theorem dX8_notice_27 : decode cX8_notice 27 = .ok (.iload_n 2, 1) := by decide +kernel
theorem dX8_notice_28 : decode cX8_notice 28 = .ok (.ifCond .ne 13, 3) := by decide +kernel
theorem dX8_notice_31 : decode cX8_notice 31 = .ok (.aload_n 0, 1) := by decide +kernel
theorem dX8_notice_32 : decode cX8_notice 32 = .ok (.getfield 46, 3) := by decide +kernel
theorem dX8_notice_35 : decode cX8_notice 35 = .ok (.iload_n 1, 1) := by decide +kernel
theorem dX8_notice_36 : decode cX8_notice 36 = .ok (.iaload, 1) := by decide +kernel
theorem dX8_notice_37 : decode cX8_notice 37 = .ok (.i2l, 1) := by decide +kernel
theorem dX8_notice_38 : decode cX8_notice 38 = .ok (.goto 25, 3) := by decide +kernel
theorem dX8_notice_41 : decode cX8_notice 41 = .ok (.iload_n 2, 1) := by decide +kernel
theorem dX8_notice_42 : decode cX8_notice 42 = .ok (.iconst 1, 1) := by decide +kernel
theorem dX8_notice_43 : decode cX8_notice 43 = .ok (.if_icmp .ne 13, 3) := by decide +kernel
theorem dX8_notice_46 : decode cX8_notice 46 = .ok (.aload_n 0, 1) := by decide +kernel
theorem dX8_notice_47 : decode cX8_notice 47 = .ok (.getfield 49, 3) := by decide +kernel
theorem dX8_notice_50 : decode cX8_notice 50 = .ok (.iload_n 1, 1) := by decide +kernel
theorem dX8_notice_51 : decode cX8_notice 51 = .ok (.iaload, 1) := by decide +kernel
theorem dX8_notice_52 : decode cX8_notice 52 = .ok (.i2l, 1) := by decide +kernel
theorem dX8_notice_53 : decode cX8_notice 53 = .ok (.goto 10, 3) := by decide +kernel
theorem dX8_notice_56 : decode cX8_notice 56 = .ok (.aload_n 0, 1) := by decide +kernel
theorem dX8_notice_57 : decode cX8_notice 57 = .ok (.getfield 52, 3) := by decide +kernel
theorem dX8_notice_60 : decode cX8_notice 60 = .ok (.iload_n 1, 1) := by decide +kernel
theorem dX8_notice_61 : decode cX8_notice 61 = .ok (.iaload, 1) := by decide +kernel
theorem dX8_notice_62 : decode cX8_notice 62 = .ok (.i2l, 1) := by decide +kernel
theorem dX8_notice_63 : decode cX8_notice 63 = .ok (.lreturn, 1) := by decide +kernel
theorem dX8_read_0 : decode cX8_read 0 = .ok (.aload_n 0, 1) := by decide +kernel
theorem dX8_read_1 : decode cX8_read 1 = .ok (.iload_n 1, 1) := by decide +kernel
theorem dX8_read_2 : decode cX8_read 2 = .ok (.invokevirtual 115, 3) := by decide +kernel
theorem dX8_read_5 : decode cX8_read 5 = .ok (.ifCond .ne 7, 3) := by decide +kernel
theorem dX8_read_8 : decode cX8_read 8 = .ok (.ldc2_w 107, 3) := by decide +kernel
theorem dX8_read_11 : decode cX8_read 11 = .ok (.lreturn, 1) := by decide +kernel
theorem dX8_read_12 : decode cX8_read 12 = .ok (.iconst 0, 1) := by decide +kernel
theorem dX8_read_13 : decode cX8_read 13 = .ok (.istore_n 2, 1) := by decide +kernel
theorem dX8_read_14 : decode cX8_read 14 = .ok (.iconst 0, 1) := by decide +kernel
theorem dX8_read_15 : decode cX8_read 15 = .ok (.istore_n 3, 1) := by decide +kernel
theorem dX8_read_16 : decode cX8_read 16 = .ok (.iload_n 3, 1) := by decide +kernel
theorem dX8_read_17 : decode cX8_read 17 = .ok (.aload_n 0, 1) := by decide +kernel
theorem dX8_read_18 : decode cX8_read 18 = .ok (.getfield 189, 3) := by decide +kernel
theorem dX8_read_21 : decode cX8_read 21 = .ok (.if_icmp .ge 38, 3) := by decide +kernel
theorem dX8_read_24 : decode cX8_read 24 = .ok (.aload_n 0, 1) := by decide +kernel
theorem dX8_read_25 : decode cX8_read 25 = .ok (.getfield 46, 3) := by decide +kernel
theorem dX8_read_28 : decode cX8_read 28 = .ok (.iload_n 3, 1) := by decide +kernel
theorem dX8_read_29 : decode cX8_read 29 = .ok (.iaload, 1) := by decide +kernel
theorem dX8_read_30 : decode cX8_read 30 = .ok (.iload_n 1, 1) := by decide +kernel
theorem dX8_read_31 : decode cX8_read 31 = .ok (.if_icmp .ne 22, 3) := by decide +kernel
theorem dX8_read_34 : decode cX8_read 34 = .ok (.aload_n 0, 1) := by decide +kernel
theorem dX8_read_35 : decode cX8_read 35 = .ok (.getfield 52, 3) := by decide +kernel
theorem dX8_read_38 : decode cX8_read 38 = .ok (.iload_n 3, 1) := by decide +kernel
theorem dX8_read_39 : decode cX8_read 39 = .ok (.iaload, 1) := by decide +kernel
theorem dX8_read_40 : decode cX8_read 40 = .ok (.ifCond .ne 13, 3) := by decide +kernel
theorem dX8_read_43 : decode cX8_read 43 = .ok (.aload_n 0, 1) := by decide +kernel
theorem dX8_read_44 : decode cX8_read 44 = .ok (.getfield 52, 3) := by decide +kernel
theorem dX8_read_47 : decode cX8_read 47 = .ok (.iload_n 3, 1) := by decide +kernel
theorem dX8_read_48 : decode cX8_read 48 = .ok (.iconst 1, 1) := by decide +kernel
theorem dX8_read_49 : decode cX8_read 49 = .ok (.iastore, 1) := by decide +kernel
theorem dX8_read_50 : decode cX8_read 50 = .ok (.iinc 2 1, 3) := by decide +kernel
theorem dX8_read_53 : decode cX8_read 53 = .ok (.iinc 3 1, 3) := by decide +kernel
theorem dX8_read_56 : decode cX8_read 56 = .ok (.goto (-40), 3) := by decide +kernel
theorem dX8_read_59 : decode cX8_read 59 = .ok (.iload_n 2, 1) := by decide +kernel
theorem dX8_read_60 : decode cX8_read 60 = .ok (.i2l, 1) := by decide +kernel
theorem dX8_read_61 : decode cX8_read 61 = .ok (.lreturn, 1) := by decide +kernel
theorem dX8_isSheet_0 : decode cX8_isSheet 0 = .ok (.iload_n 0, 1) := by decide +kernel
theorem dX8_isSheet_1 : decode cX8_isSheet 1 = .ok (.iconst 0, 1) := by decide +kernel
theorem dX8_isSheet_2 : decode cX8_isSheet 2 = .ok (.iconst 1, 1) := by decide +kernel
theorem dX8_isSheet_3 : decode cX8_isSheet 3 = .ok (.invokestatic 92, 3) := by decide +kernel
theorem dX8_isSheet_6 : decode cX8_isSheet 6 = .ok (.ireturn, 1) := by decide +kernel
theorem dX8_sheet_0 : decode cX8_sheet 0 = .ok (.iload_n 1, 1) := by decide +kernel
theorem dX8_sheet_1 : decode cX8_sheet 1 = .ok (.invokestatic 195, 3) := by decide +kernel
theorem dX8_sheet_4 : decode cX8_sheet 4 = .ok (.ifCond .eq 9, 3) := by decide +kernel
theorem dX8_sheet_7 : decode cX8_sheet 7 = .ok (.iload_n 2, 1) := by decide +kernel
theorem dX8_sheet_8 : decode cX8_sheet 8 = .ok (.bipush 12, 2) := by decide +kernel
theorem dX8_sheet_10 : decode cX8_sheet 10 = .ok (.if_icmp .le 7, 3) := by decide +kernel
theorem dX8_sheet_13 : decode cX8_sheet 13 = .ok (.ldc2_w 107, 3) := by decide +kernel
theorem dX8_sheet_16 : decode cX8_sheet 16 = .ok (.lreturn, 1) := by decide +kernel
theorem dX8_sheet_17 : decode cX8_sheet 17 = .ok (.iload_n 2, 1) := by decide +kernel
theorem dX8_sheet_18 : decode cX8_sheet 18 = .ok (.ifCond .ge 7, 3) := by decide +kernel
theorem dX8_sheet_21 : decode cX8_sheet 21 = .ok (.ldc2_w 198, 3) := by decide +kernel
theorem dX8_sheet_24 : decode cX8_sheet 24 = .ok (.lreturn, 1) := by decide +kernel
theorem dX8_sheet_25 : decode cX8_sheet 25 = .ok (.aload_n 0, 1) := by decide +kernel
theorem dX8_sheet_26 : decode cX8_sheet 26 = .ok (.getfield 55, 3) := by decide +kernel
theorem dX8_sheet_29 : decode cX8_sheet 29 = .ok (.iload_n 1, 1) := by decide +kernel
theorem dX8_sheet_30 : decode cX8_sheet 30 = .ok (.iload_n 2, 1) := by decide +kernel
theorem dX8_sheet_31 : decode cX8_sheet 31 = .ok (.iastore, 1) := by decide +kernel
theorem dX8_sheet_32 : decode cX8_sheet 32 = .ok (.iconst 0, 1) := by decide +kernel
theorem dX8_sheet_33 : decode cX8_sheet 33 = .ok (.istore_n 3, 1) := by decide +kernel
theorem dX8_sheet_34 : decode cX8_sheet 34 = .ok (.iload_n 3, 1) := by decide +kernel
theorem dX8_sheet_35 : decode cX8_sheet 35 = .ok (.iload_n 2, 1) := by decide +kernel
theorem dX8_sheet_36 : decode cX8_sheet 36 = .ok (.if_icmp .ge 21, 3) := by decide +kernel
theorem dX8_sheet_39 : decode cX8_sheet 39 = .ok (.aload_n 0, 1) := by decide +kernel
theorem dX8_sheet_40 : decode cX8_sheet 40 = .ok (.getfield 58, 3) := by decide +kernel
theorem dX8_sheet_43 : decode cX8_sheet 43 = .ok (.bipush 12, 2) := by decide +kernel
theorem dX8_sheet_45 : decode cX8_sheet 45 = .ok (.iload_n 1, 1) := by decide +kernel
theorem dX8_sheet_46 : decode cX8_sheet 46 = .ok (.imul, 1) := by decide +kernel
theorem dX8_sheet_47 : decode cX8_sheet 47 = .ok (.iload_n 3, 1) := by decide +kernel
theorem dX8_sheet_48 : decode cX8_sheet 48 = .ok (.iadd, 1) := by decide +kernel
theorem dX8_sheet_49 : decode cX8_sheet 49 = .ok (.iconst 0, 1) := by decide +kernel
theorem dX8_sheet_50 : decode cX8_sheet 50 = .ok (.iastore, 1) := by decide +kernel
theorem dX8_sheet_51 : decode cX8_sheet 51 = .ok (.iinc 3 1, 3) := by decide +kernel
theorem dX8_sheet_54 : decode cX8_sheet 54 = .ok (.goto (-20), 3) := by decide +kernel
theorem dX8_sheet_57 : decode cX8_sheet 57 = .ok (.iload_n 2, 1) := by decide +kernel
theorem dX8_sheet_58 : decode cX8_sheet 58 = .ok (.i2l, 1) := by decide +kernel
theorem dX8_sheet_59 : decode cX8_sheet 59 = .ok (.lreturn, 1) := by decide +kernel
theorem dX8_mark_0 : decode cX8_mark 0 = .ok (.iload_n 1, 1) := by decide +kernel
theorem dX8_mark_1 : decode cX8_mark 1 = .ok (.invokestatic 195, 3) := by decide +kernel
theorem dX8_mark_4 : decode cX8_mark 4 = .ok (.ifCond .ne 7, 3) := by decide +kernel
end
section
theorem dX8_mark_7 : decode cX8_mark 7 = .ok (.ldc2_w 107, 3) := by decide +kernel
theorem dX8_mark_10 : decode cX8_mark 10 = .ok (.lreturn, 1) := by decide +kernel
theorem dX8_mark_11 : decode cX8_mark 11 = .ok (.aload_n 0, 1) := by decide +kernel
theorem dX8_mark_12 : decode cX8_mark 12 = .ok (.getfield 55, 3) := by decide +kernel
theorem dX8_mark_15 : decode cX8_mark 15 = .ok (.iload_n 1, 1) := by decide +kernel
theorem dX8_mark_16 : decode cX8_mark 16 = .ok (.iaload, 1) := by decide +kernel
theorem dX8_mark_17 : decode cX8_mark 17 = .ok (.ifCond .ge 7, 3) := by decide +kernel
theorem dX8_mark_20 : decode cX8_mark 20 = .ok (.ldc2_w 200, 3) := by decide +kernel
theorem dX8_mark_23 : decode cX8_mark 23 = .ok (.lreturn, 1) := by decide +kernel
theorem dX8_mark_24 : decode cX8_mark 24 = .ok (.iload_n 2, 1) := by decide +kernel
theorem dX8_mark_25 : decode cX8_mark 25 = .ok (.iconst 0, 1) := by decide +kernel
theorem dX8_mark_26 : decode cX8_mark 26 = .ok (.aload_n 0, 1) := by decide +kernel
theorem dX8_mark_27 : decode cX8_mark 27 = .ok (.getfield 55, 3) := by decide +kernel
theorem dX8_mark_30 : decode cX8_mark 30 = .ok (.iload_n 1, 1) := by decide +kernel
theorem dX8_mark_31 : decode cX8_mark 31 = .ok (.iaload, 1) := by decide +kernel
theorem dX8_mark_32 : decode cX8_mark 32 = .ok (.iconst 1, 1) := by decide +kernel
theorem dX8_mark_33 : decode cX8_mark 33 = .ok (.isub, 1) := by decide +kernel
theorem dX8_mark_34 : decode cX8_mark 34 = .ok (.invokestatic 92, 3) := by decide +kernel
theorem dX8_mark_37 : decode cX8_mark 37 = .ok (.ifCond .ne 7, 3) := by decide +kernel
theorem dX8_mark_40 : decode cX8_mark 40 = .ok (.ldc2_w 202, 3) := by decide +kernel
theorem dX8_mark_43 : decode cX8_mark 43 = .ok (.lreturn, 1) := by decide +kernel
theorem dX8_mark_44 : decode cX8_mark 44 = .ok (.aload_n 0, 1) := by decide +kernel
theorem dX8_mark_45 : decode cX8_mark 45 = .ok (.getfield 58, 3) := by decide +kernel
theorem dX8_mark_48 : decode cX8_mark 48 = .ok (.bipush 12, 2) := by decide +kernel
theorem dX8_mark_50 : decode cX8_mark 50 = .ok (.iload_n 1, 1) := by decide +kernel
theorem dX8_mark_51 : decode cX8_mark 51 = .ok (.imul, 1) := by decide +kernel
theorem dX8_mark_52 : decode cX8_mark 52 = .ok (.iload_n 2, 1) := by decide +kernel
theorem dX8_mark_53 : decode cX8_mark 53 = .ok (.iadd, 1) := by decide +kernel
theorem dX8_mark_54 : decode cX8_mark 54 = .ok (.iaload, 1) := by decide +kernel
theorem dX8_mark_55 : decode cX8_mark 55 = .ok (.istore 4, 2) := by decide +kernel
theorem dX8_mark_57 : decode cX8_mark 57 = .ok (.aload_n 0, 1) := by decide +kernel
theorem dX8_mark_58 : decode cX8_mark 58 = .ok (.getfield 58, 3) := by decide +kernel
theorem dX8_mark_61 : decode cX8_mark 61 = .ok (.bipush 12, 2) := by decide +kernel
theorem dX8_mark_63 : decode cX8_mark 63 = .ok (.iload_n 1, 1) := by decide +kernel
theorem dX8_mark_64 : decode cX8_mark 64 = .ok (.imul, 1) := by decide +kernel
theorem dX8_mark_65 : decode cX8_mark 65 = .ok (.iload_n 2, 1) := by decide +kernel
theorem dX8_mark_66 : decode cX8_mark 66 = .ok (.iadd, 1) := by decide +kernel
theorem dX8_mark_67 : decode cX8_mark 67 = .ok (.iload_n 3, 1) := by decide +kernel
theorem dX8_mark_68 : decode cX8_mark 68 = .ok (.i2b, 1) := by decide +kernel
theorem dX8_mark_69 : decode cX8_mark 69 = .ok (.iastore, 1) := by decide +kernel
theorem dX8_mark_70 : decode cX8_mark 70 = .ok (.iload 4, 2) := by decide +kernel
theorem dX8_mark_72 : decode cX8_mark 72 = .ok (.i2l, 1) := by decide +kernel
theorem dX8_mark_73 : decode cX8_mark 73 = .ok (.lreturn, 1) := by decide +kernel
theorem dX8_copy_0 : decode cX8_copy 0 = .ok (.iload_n 1, 1) := by decide +kernel
theorem dX8_copy_1 : decode cX8_copy 1 = .ok (.invokestatic 195, 3) := by decide +kernel
theorem dX8_copy_4 : decode cX8_copy 4 = .ok (.ifCond .eq 10, 3) := by decide +kernel
theorem dX8_copy_7 : decode cX8_copy 7 = .ok (.iload_n 3, 1) := by decide +kernel
theorem dX8_copy_8 : decode cX8_copy 8 = .ok (.invokestatic 195, 3) := by decide +kernel
theorem dX8_copy_11 : decode cX8_copy 11 = .ok (.ifCond .ne 7, 3) := by decide +kernel
theorem dX8_copy_14 : decode cX8_copy 14 = .ok (.ldc2_w 107, 3) := by decide +kernel
theorem dX8_copy_17 : decode cX8_copy 17 = .ok (.lreturn, 1) := by decide +kernel
theorem dX8_copy_18 : decode cX8_copy 18 = .ok (.aload_n 0, 1) := by decide +kernel
theorem dX8_copy_19 : decode cX8_copy 19 = .ok (.getfield 55, 3) := by decide +kernel
theorem dX8_copy_22 : decode cX8_copy 22 = .ok (.iload_n 1, 1) := by decide +kernel
theorem dX8_copy_23 : decode cX8_copy 23 = .ok (.iaload, 1) := by decide +kernel
theorem dX8_copy_24 : decode cX8_copy 24 = .ok (.ifCond .lt 12, 3) := by decide +kernel
theorem dX8_copy_27 : decode cX8_copy 27 = .ok (.aload_n 0, 1) := by decide +kernel
theorem dX8_copy_28 : decode cX8_copy 28 = .ok (.getfield 55, 3) := by decide +kernel
theorem dX8_copy_31 : decode cX8_copy 31 = .ok (.iload_n 3, 1) := by decide +kernel
theorem dX8_copy_32 : decode cX8_copy 32 = .ok (.iaload, 1) := by decide +kernel
theorem dX8_copy_33 : decode cX8_copy 33 = .ok (.ifCond .ge 7, 3) := by decide +kernel
theorem dX8_copy_36 : decode cX8_copy 36 = .ok (.ldc2_w 200, 3) := by decide +kernel
theorem dX8_copy_39 : decode cX8_copy 39 = .ok (.lreturn, 1) := by decide +kernel
theorem dX8_copy_40 : decode cX8_copy 40 = .ok (.iload_n 2, 1) := by decide +kernel
theorem dX8_copy_41 : decode cX8_copy 41 = .ok (.ifCond .lt 48, 3) := by decide +kernel
theorem dX8_copy_44 : decode cX8_copy 44 = .ok (.iload 4, 2) := by decide +kernel
theorem dX8_copy_46 : decode cX8_copy 46 = .ok (.ifCond .lt 43, 3) := by decide +kernel
theorem dX8_copy_49 : decode cX8_copy 49 = .ok (.iload 5, 2) := by decide +kernel
theorem dX8_copy_51 : decode cX8_copy 51 = .ok (.ifCond .lt 38, 3) := by decide +kernel
theorem dX8_copy_54 : decode cX8_copy 54 = .ok (.iload_n 2, 1) := by decide +kernel
theorem dX8_copy_55 : decode cX8_copy 55 = .ok (.i2l, 1) := by decide +kernel
theorem dX8_copy_56 : decode cX8_copy 56 = .ok (.iload 5, 2) := by decide +kernel
theorem dX8_copy_58 : decode cX8_copy 58 = .ok (.i2l, 1) := by decide +kernel
theorem dX8_copy_59 : decode cX8_copy 59 = .ok (.ladd, 1) := by decide +kernel
theorem dX8_copy_60 : decode cX8_copy 60 = .ok (.aload_n 0, 1) := by decide +kernel
theorem dX8_copy_61 : decode cX8_copy 61 = .ok (.getfield 55, 3) := by decide +kernel
theorem dX8_copy_64 : decode cX8_copy 64 = .ok (.iload_n 1, 1) := by decide +kernel
theorem dX8_copy_65 : decode cX8_copy 65 = .ok (.iaload, 1) := by decide +kernel
theorem dX8_copy_66 : decode cX8_copy 66 = .ok (.i2l, 1) := by decide +kernel
theorem dX8_copy_67 : decode cX8_copy 67 = .ok (.lcmp, 1) := by decide +kernel
theorem dX8_copy_68 : decode cX8_copy 68 = .ok (.ifCond .gt 21, 3) := by decide +kernel
theorem dX8_copy_71 : decode cX8_copy 71 = .ok (.iload 4, 2) := by decide +kernel
theorem dX8_copy_73 : decode cX8_copy 73 = .ok (.i2l, 1) := by decide +kernel
theorem dX8_copy_74 : decode cX8_copy 74 = .ok (.iload 5, 2) := by decide +kernel
theorem dX8_copy_76 : decode cX8_copy 76 = .ok (.i2l, 1) := by decide +kernel
theorem dX8_copy_77 : decode cX8_copy 77 = .ok (.ladd, 1) := by decide +kernel
theorem dX8_copy_78 : decode cX8_copy 78 = .ok (.aload_n 0, 1) := by decide +kernel
theorem dX8_copy_79 : decode cX8_copy 79 = .ok (.getfield 55, 3) := by decide +kernel
theorem dX8_copy_82 : decode cX8_copy 82 = .ok (.iload_n 3, 1) := by decide +kernel
theorem dX8_copy_83 : decode cX8_copy 83 = .ok (.iaload, 1) := by decide +kernel
theorem dX8_copy_84 : decode cX8_copy 84 = .ok (.i2l, 1) := by decide +kernel
theorem dX8_copy_85 : decode cX8_copy 85 = .ok (.lcmp, 1) := by decide +kernel
theorem dX8_copy_86 : decode cX8_copy 86 = .ok (.ifCond .le 7, 3) := by decide +kernel
theorem dX8_copy_89 : decode cX8_copy 89 = .ok (.ldc2_w 202, 3) := by decide +kernel
theorem dX8_copy_92 : decode cX8_copy 92 = .ok (.lreturn, 1) := by decide +kernel
theorem dX8_copy_93 : decode cX8_copy 93 = .ok (.iconst 0, 1) := by decide +kernel
theorem dX8_copy_94 : decode cX8_copy 94 = .ok (.istore 6, 2) := by decide +kernel
theorem dX8_copy_96 : decode cX8_copy 96 = .ok (.iload 6, 2) := by decide +kernel
theorem dX8_copy_98 : decode cX8_copy 98 = .ok (.iload 5, 2) := by decide +kernel
theorem dX8_copy_100 : decode cX8_copy 100 = .ok (.if_icmp .ge 30, 3) := by decide +kernel
theorem dX8_copy_103 : decode cX8_copy 103 = .ok (.aload_n 0, 1) := by decide +kernel
theorem dX8_copy_104 : decode cX8_copy 104 = .ok (.getfield 89, 3) := by decide +kernel
theorem dX8_copy_107 : decode cX8_copy 107 = .ok (.iload 6, 2) := by decide +kernel
theorem dX8_copy_109 : decode cX8_copy 109 = .ok (.aload_n 0, 1) := by decide +kernel
theorem dX8_copy_110 : decode cX8_copy 110 = .ok (.getfield 58, 3) := by decide +kernel
theorem dX8_copy_113 : decode cX8_copy 113 = .ok (.bipush 12, 2) := by decide +kernel
theorem dX8_copy_115 : decode cX8_copy 115 = .ok (.iload_n 1, 1) := by decide +kernel
theorem dX8_copy_116 : decode cX8_copy 116 = .ok (.imul, 1) := by decide +kernel
theorem dX8_copy_117 : decode cX8_copy 117 = .ok (.iload_n 2, 1) := by decide +kernel
theorem dX8_copy_118 : decode cX8_copy 118 = .ok (.iadd, 1) := by decide +kernel
theorem dX8_copy_119 : decode cX8_copy 119 = .ok (.iload 6, 2) := by decide +kernel
theorem dX8_copy_121 : decode cX8_copy 121 = .ok (.iadd, 1) := by decide +kernel
theorem dX8_copy_122 : decode cX8_copy 122 = .ok (.iaload, 1) := by decide +kernel
theorem dX8_copy_123 : decode cX8_copy 123 = .ok (.iastore, 1) := by decide +kernel
theorem dX8_copy_124 : decode cX8_copy 124 = .ok (.iinc 6 1, 3) := by decide +kernel
theorem dX8_copy_127 : decode cX8_copy 127 = .ok (.goto (-31), 3) := by decide +kernel
theorem dX8_copy_130 : decode cX8_copy 130 = .ok (.iconst 0, 1) := by decide +kernel
theorem dX8_copy_131 : decode cX8_copy 131 = .ok (.istore 6, 2) := by decide +kernel
theorem dX8_copy_133 : decode cX8_copy 133 = .ok (.iload 6, 2) := by decide +kernel
theorem dX8_copy_135 : decode cX8_copy 135 = .ok (.iload 5, 2) := by decide +kernel
theorem dX8_copy_137 : decode cX8_copy 137 = .ok (.if_icmp .ge 31, 3) := by decide +kernel
theorem dX8_copy_140 : decode cX8_copy 140 = .ok (.aload_n 0, 1) := by decide +kernel
theorem dX8_copy_141 : decode cX8_copy 141 = .ok (.getfield 58, 3) := by decide +kernel
theorem dX8_copy_144 : decode cX8_copy 144 = .ok (.bipush 12, 2) := by decide +kernel
theorem dX8_copy_146 : decode cX8_copy 146 = .ok (.iload_n 3, 1) := by decide +kernel
theorem dX8_copy_147 : decode cX8_copy 147 = .ok (.imul, 1) := by decide +kernel
theorem dX8_copy_148 : decode cX8_copy 148 = .ok (.iload 4, 2) := by decide +kernel
theorem dX8_copy_150 : decode cX8_copy 150 = .ok (.iadd, 1) := by decide +kernel
theorem dX8_copy_151 : decode cX8_copy 151 = .ok (.iload 6, 2) := by decide +kernel
theorem dX8_copy_153 : decode cX8_copy 153 = .ok (.iadd, 1) := by decide +kernel
theorem dX8_copy_154 : decode cX8_copy 154 = .ok (.aload_n 0, 1) := by decide +kernel
theorem dX8_copy_155 : decode cX8_copy 155 = .ok (.getfield 89, 3) := by decide +kernel
theorem dX8_copy_158 : decode cX8_copy 158 = .ok (.iload 6, 2) := by decide +kernel
theorem dX8_copy_160 : decode cX8_copy 160 = .ok (.iaload, 1) := by decide +kernel
theorem dX8_copy_161 : decode cX8_copy 161 = .ok (.iastore, 1) := by decide +kernel
theorem dX8_copy_162 : decode cX8_copy 162 = .ok (.iinc 6 1, 3) := by decide +kernel
theorem dX8_copy_165 : decode cX8_copy 165 = .ok (.goto (-32), 3) := by decide +kernel
theorem dX8_copy_168 : decode cX8_copy 168 = .ok (.iload 5, 2) := by decide +kernel
theorem dX8_copy_170 : decode cX8_copy 170 = .ok (.i2l, 1) := by decide +kernel
theorem dX8_copy_171 : decode cX8_copy 171 = .ok (.lreturn, 1) := by decide +kernel
theorem dX8_take_0 : decode cX8_take 0 = .ok (.iload_n 1, 1) := by decide +kernel
theorem dX8_take_1 : decode cX8_take 1 = .ok (.invokestatic 195, 3) := by decide +kernel
theorem dX8_take_4 : decode cX8_take 4 = .ok (.ifCond .ne 7, 3) := by decide +kernel
theorem dX8_take_7 : decode cX8_take 7 = .ok (.ldc2_w 107, 3) := by decide +kernel
theorem dX8_take_10 : decode cX8_take 10 = .ok (.lreturn, 1) := by decide +kernel
theorem dX8_take_11 : decode cX8_take 11 = .ok (.aload_n 0, 1) := by decide +kernel
theorem dX8_take_12 : decode cX8_take 12 = .ok (.getfield 55, 3) := by decide +kernel
theorem dX8_take_15 : decode cX8_take 15 = .ok (.iload_n 1, 1) := by decide +kernel
theorem dX8_take_16 : decode cX8_take 16 = .ok (.iaload, 1) := by decide +kernel
theorem dX8_take_17 : decode cX8_take 17 = .ok (.ifCond .ge 7, 3) := by decide +kernel
theorem dX8_take_20 : decode cX8_take 20 = .ok (.ldc2_w 200, 3) := by decide +kernel
theorem dX8_take_23 : decode cX8_take 23 = .ok (.lreturn, 1) := by decide +kernel
theorem dX8_take_24 : decode cX8_take 24 = .ok (.aload_n 0, 1) := by decide +kernel
theorem dX8_take_25 : decode cX8_take 25 = .ok (.getfield 55, 3) := by decide +kernel
theorem dX8_take_28 : decode cX8_take 28 = .ok (.iload_n 1, 1) := by decide +kernel
theorem dX8_take_29 : decode cX8_take 29 = .ok (.iaload, 1) := by decide +kernel
theorem dX8_take_30 : decode cX8_take 30 = .ok (.aload_n 0, 1) := by decide +kernel
theorem dX8_take_31 : decode cX8_take 31 = .ok (.getfield 96, 3) := by decide +kernel
theorem dX8_take_34 : decode cX8_take 34 = .ok (.if_icmp .ge 12, 3) := by decide +kernel
theorem dX8_take_37 : decode cX8_take 37 = .ok (.aload_n 0, 1) := by decide +kernel
theorem dX8_take_38 : decode cX8_take 38 = .ok (.getfield 55, 3) := by decide +kernel
theorem dX8_take_41 : decode cX8_take 41 = .ok (.iload_n 1, 1) := by decide +kernel
theorem dX8_take_42 : decode cX8_take 42 = .ok (.iaload, 1) := by decide +kernel
theorem dX8_take_43 : decode cX8_take 43 = .ok (.goto 7, 3) := by decide +kernel
theorem dX8_take_46 : decode cX8_take 46 = .ok (.aload_n 0, 1) := by decide +kernel
theorem dX8_take_47 : decode cX8_take 47 = .ok (.getfield 96, 3) := by decide +kernel
theorem dX8_take_50 : decode cX8_take 50 = .ok (.istore_n 2, 1) := by decide +kernel
theorem dX8_take_51 : decode cX8_take 51 = .ok (.iconst 0, 1) := by decide +kernel
theorem dX8_take_52 : decode cX8_take 52 = .ok (.istore_n 3, 1) := by decide +kernel
theorem dX8_take_53 : decode cX8_take 53 = .ok (.iload_n 3, 1) := by decide +kernel
theorem dX8_take_54 : decode cX8_take 54 = .ok (.iload_n 2, 1) := by decide +kernel
theorem dX8_take_55 : decode cX8_take 55 = .ok (.if_icmp .ge 33, 3) := by decide +kernel
theorem dX8_take_58 : decode cX8_take 58 = .ok (.aload_n 0, 1) := by decide +kernel
theorem dX8_take_59 : decode cX8_take 59 = .ok (.getfield 58, 3) := by decide +kernel
theorem dX8_take_62 : decode cX8_take 62 = .ok (.bipush 12, 2) := by decide +kernel
theorem dX8_take_64 : decode cX8_take 64 = .ok (.iload_n 1, 1) := by decide +kernel
theorem dX8_take_65 : decode cX8_take 65 = .ok (.imul, 1) := by decide +kernel
theorem dX8_take_66 : decode cX8_take 66 = .ok (.iload_n 3, 1) := by decide +kernel
theorem dX8_take_67 : decode cX8_take 67 = .ok (.iadd, 1) := by decide +kernel
theorem dX8_take_68 : decode cX8_take 68 = .ok (.iaload, 1) := by decide +kernel
theorem dX8_take_69 : decode cX8_take 69 = .ok (.iconst 0, 1) := by decide +kernel
theorem dX8_take_70 : decode cX8_take 70 = .ok (.bipush 100, 2) := by decide +kernel
theorem dX8_take_72 : decode cX8_take 72 = .ok (.invokestatic 92, 3) := by decide +kernel
theorem dX8_take_75 : decode cX8_take 75 = .ok (.ifCond .ne 7, 3) := by decide +kernel
theorem dX8_take_78 : decode cX8_take 78 = .ok (.ldc2_w 145, 3) := by decide +kernel
theorem dX8_take_81 : decode cX8_take 81 = .ok (.lreturn, 1) := by decide +kernel
theorem dX8_take_82 : decode cX8_take 82 = .ok (.iinc 3 1, 3) := by decide +kernel
theorem dX8_take_85 : decode cX8_take 85 = .ok (.goto (-32), 3) := by decide +kernel
theorem dX8_take_88 : decode cX8_take 88 = .ok (.iconst 0, 1) := by decide +kernel
theorem dX8_take_89 : decode cX8_take 89 = .ok (.istore_n 3, 1) := by decide +kernel
theorem dX8_take_90 : decode cX8_take 90 = .ok (.iload_n 3, 1) := by decide +kernel
theorem dX8_take_91 : decode cX8_take 91 = .ok (.iload_n 2, 1) := by decide +kernel
theorem dX8_take_92 : decode cX8_take 92 = .ok (.if_icmp .ge 26, 3) := by decide +kernel
theorem dX8_take_95 : decode cX8_take 95 = .ok (.aload_n 0, 1) := by decide +kernel
theorem dX8_take_96 : decode cX8_take 96 = .ok (.getfield 22, 3) := by decide +kernel
theorem dX8_take_99 : decode cX8_take 99 = .ok (.iload_n 3, 1) := by decide +kernel
theorem dX8_take_100 : decode cX8_take 100 = .ok (.aload_n 0, 1) := by decide +kernel
theorem dX8_take_101 : decode cX8_take 101 = .ok (.getfield 58, 3) := by decide +kernel
theorem dX8_take_104 : decode cX8_take 104 = .ok (.bipush 12, 2) := by decide +kernel
theorem dX8_take_106 : decode cX8_take 106 = .ok (.iload_n 1, 1) := by decide +kernel
theorem dX8_take_107 : decode cX8_take 107 = .ok (.imul, 1) := by decide +kernel
theorem dX8_take_108 : decode cX8_take 108 = .ok (.iload_n 3, 1) := by decide +kernel
theorem dX8_take_109 : decode cX8_take 109 = .ok (.iadd, 1) := by decide +kernel
theorem dX8_take_110 : decode cX8_take 110 = .ok (.iaload, 1) := by decide +kernel
theorem dX8_take_111 : decode cX8_take 111 = .ok (.iastore, 1) := by decide +kernel
theorem dX8_take_112 : decode cX8_take 112 = .ok (.iinc 3 1, 3) := by decide +kernel
theorem dX8_take_115 : decode cX8_take 115 = .ok (.goto (-25), 3) := by decide +kernel
theorem dX8_take_118 : decode cX8_take 118 = .ok (.iload_n 2, 1) := by decide +kernel
theorem dX8_take_119 : decode cX8_take 119 = .ok (.i2l, 1) := by decide +kernel
theorem dX8_take_120 : decode cX8_take 120 = .ok (.lreturn, 1) := by decide +kernel
theorem dX8_count_0 : decode cX8_count 0 = .ok (.iconst 0, 1) := by decide +kernel
theorem dX8_count_1 : decode cX8_count 1 = .ok (.istore_n 2, 1) := by decide +kernel
theorem dX8_count_2 : decode cX8_count 2 = .ok (.iload_n 1, 1) := by decide +kernel
theorem dX8_count_3 : decode cX8_count 3 = .ok (.tableswitch 204 0 6 #[41, 47, 53, 59, 89, 137, 173], 41) := by decide +kernel
theorem dX8_count_44 : decode cX8_count 44 = .ok (.aload_n 0, 1) := by decide +kernel
theorem dX8_count_45 : decode cX8_count 45 = .ok (.getfield 96, 3) := by decide +kernel
theorem dX8_count_48 : decode cX8_count 48 = .ok (.i2l, 1) := by decide +kernel
theorem dX8_count_49 : decode cX8_count 49 = .ok (.lreturn, 1) := by decide +kernel
theorem dX8_count_50 : decode cX8_count 50 = .ok (.aload_n 0, 1) := by decide +kernel
theorem dX8_count_51 : decode cX8_count 51 = .ok (.getfield 100, 3) := by decide +kernel
theorem dX8_count_54 : decode cX8_count 54 = .ok (.i2l, 1) := by decide +kernel
theorem dX8_count_55 : decode cX8_count 55 = .ok (.lreturn, 1) := by decide +kernel
theorem dX8_count_56 : decode cX8_count 56 = .ok (.aload_n 0, 1) := by decide +kernel
theorem dX8_count_57 : decode cX8_count 57 = .ok (.getfield 189, 3) := by decide +kernel
theorem dX8_count_60 : decode cX8_count 60 = .ok (.i2l, 1) := by decide +kernel
theorem dX8_count_61 : decode cX8_count 61 = .ok (.lreturn, 1) := by decide +kernel
theorem dX8_count_62 : decode cX8_count 62 = .ok (.iconst 0, 1) := by decide +kernel
theorem dX8_count_63 : decode cX8_count 63 = .ok (.istore_n 3, 1) := by decide +kernel
theorem dX8_count_64 : decode cX8_count 64 = .ok (.iload_n 3, 1) := by decide +kernel
theorem dX8_count_65 : decode cX8_count 65 = .ok (.aload_n 0, 1) := by decide +kernel
theorem dX8_count_66 : decode cX8_count 66 = .ok (.getfield 189, 3) := by decide +kernel
theorem dX8_count_69 : decode cX8_count 69 = .ok (.if_icmp .ge 20, 3) := by decide +kernel
theorem dX8_count_72 : decode cX8_count 72 = .ok (.iload_n 2, 1) := by decide +kernel
theorem dX8_count_73 : decode cX8_count 73 = .ok (.iconst 1, 1) := by decide +kernel
theorem dX8_count_74 : decode cX8_count 74 = .ok (.aload_n 0, 1) := by decide +kernel
theorem dX8_count_75 : decode cX8_count 75 = .ok (.getfield 52, 3) := by decide +kernel
theorem dX8_count_78 : decode cX8_count 78 = .ok (.iload_n 3, 1) := by decide +kernel
theorem dX8_count_79 : decode cX8_count 79 = .ok (.iaload, 1) := by decide +kernel
theorem dX8_count_80 : decode cX8_count 80 = .ok (.isub, 1) := by decide +kernel
theorem dX8_count_81 : decode cX8_count 81 = .ok (.iadd, 1) := by decide +kernel
theorem dX8_count_82 : decode cX8_count 82 = .ok (.istore_n 2, 1) := by decide +kernel
theorem dX8_count_83 : decode cX8_count 83 = .ok (.iinc 3 1, 3) := by decide +kernel
theorem dX8_count_86 : decode cX8_count 86 = .ok (.goto (-22), 3) := by decide +kernel
theorem dX8_count_89 : decode cX8_count 89 = .ok (.iload_n 2, 1) := by decide +kernel
theorem dX8_count_90 : decode cX8_count 90 = .ok (.i2l, 1) := by decide +kernel
theorem dX8_count_91 : decode cX8_count 91 = .ok (.lreturn, 1) := by decide +kernel
theorem dX8_count_92 : decode cX8_count 92 = .ok (.iconst 0, 1) := by decide +kernel
theorem dX8_count_93 : decode cX8_count 93 = .ok (.istore_n 3, 1) := by decide +kernel
theorem dX8_count_94 : decode cX8_count 94 = .ok (.iload_n 3, 1) := by decide +kernel
theorem dX8_count_95 : decode cX8_count 95 = .ok (.aload_n 0, 1) := by decide +kernel
theorem dX8_count_96 : decode cX8_count 96 = .ok (.getfield 100, 3) := by decide +kernel
theorem dX8_count_99 : decode cX8_count 99 = .ok (.if_icmp .ge 38, 3) := by decide +kernel
theorem dX8_count_102 : decode cX8_count 102 = .ok (.iconst 0, 1) := by decide +kernel
theorem dX8_count_103 : decode cX8_count 103 = .ok (.istore 4, 2) := by decide +kernel
theorem dX8_count_105 : decode cX8_count 105 = .ok (.iload 4, 2) := by decide +kernel
theorem dX8_count_107 : decode cX8_count 107 = .ok (.iload_n 3, 1) := by decide +kernel
theorem dX8_count_108 : decode cX8_count 108 = .ok (.if_icmp .ge 23, 3) := by decide +kernel
theorem dX8_count_111 : decode cX8_count 111 = .ok (.iload_n 2, 1) := by decide +kernel
theorem dX8_count_112 : decode cX8_count 112 = .ok (.aload_n 0, 1) := by decide +kernel
theorem dX8_count_113 : decode cX8_count 113 = .ok (.getfield 37, 3) := by decide +kernel
theorem dX8_count_116 : decode cX8_count 116 = .ok (.iload_n 3, 1) := by decide +kernel
theorem dX8_count_117 : decode cX8_count 117 = .ok (.iaload, 1) := by decide +kernel
theorem dX8_count_118 : decode cX8_count 118 = .ok (.iload 4, 2) := by decide +kernel
theorem dX8_count_120 : decode cX8_count 120 = .ok (.ishr, 1) := by decide +kernel
theorem dX8_count_121 : decode cX8_count 121 = .ok (.iconst 1, 1) := by decide +kernel
theorem dX8_count_122 : decode cX8_count 122 = .ok (.iand, 1) := by decide +kernel
theorem dX8_count_123 : decode cX8_count 123 = .ok (.iadd, 1) := by decide +kernel
theorem dX8_count_124 : decode cX8_count 124 = .ok (.istore_n 2, 1) := by decide +kernel
theorem dX8_count_125 : decode cX8_count 125 = .ok (.iinc 4 1, 3) := by decide +kernel
theorem dX8_count_128 : decode cX8_count 128 = .ok (.goto (-23), 3) := by decide +kernel
theorem dX8_count_131 : decode cX8_count 131 = .ok (.iinc 3 1, 3) := by decide +kernel
theorem dX8_count_134 : decode cX8_count 134 = .ok (.goto (-40), 3) := by decide +kernel
theorem dX8_count_137 : decode cX8_count 137 = .ok (.iload_n 2, 1) := by decide +kernel
theorem dX8_count_138 : decode cX8_count 138 = .ok (.i2l, 1) := by decide +kernel
theorem dX8_count_139 : decode cX8_count 139 = .ok (.lreturn, 1) := by decide +kernel
theorem dX8_count_140 : decode cX8_count 140 = .ok (.iconst 0, 1) := by decide +kernel
theorem dX8_count_141 : decode cX8_count 141 = .ok (.istore_n 3, 1) := by decide +kernel
theorem dX8_count_142 : decode cX8_count 142 = .ok (.iload_n 3, 1) := by decide +kernel
theorem dX8_count_143 : decode cX8_count 143 = .ok (.aload_n 0, 1) := by decide +kernel
theorem dX8_count_144 : decode cX8_count 144 = .ok (.getfield 96, 3) := by decide +kernel
theorem dX8_count_147 : decode cX8_count 147 = .ok (.if_icmp .ge 26, 3) := by decide +kernel
theorem dX8_count_150 : decode cX8_count 150 = .ok (.iload_n 2, 1) := by decide +kernel
theorem dX8_count_151 : decode cX8_count 151 = .ok (.aload_n 0, 1) := by decide +kernel
theorem dX8_count_152 : decode cX8_count 152 = .ok (.getfield 28, 3) := by decide +kernel
theorem dX8_count_155 : decode cX8_count 155 = .ok (.iload_n 3, 1) := by decide +kernel
theorem dX8_count_156 : decode cX8_count 156 = .ok (.iaload, 1) := by decide +kernel
theorem dX8_count_157 : decode cX8_count 157 = .ok (.ifCond .lt 7, 3) := by decide +kernel
theorem dX8_count_160 : decode cX8_count 160 = .ok (.iconst 1, 1) := by decide +kernel
theorem dX8_count_161 : decode cX8_count 161 = .ok (.goto 4, 3) := by decide +kernel
theorem dX8_count_164 : decode cX8_count 164 = .ok (.iconst 0, 1) := by decide +kernel
theorem dX8_count_165 : decode cX8_count 165 = .ok (.iadd, 1) := by decide +kernel
theorem dX8_count_166 : decode cX8_count 166 = .ok (.istore_n 2, 1) := by decide +kernel
theorem dX8_count_167 : decode cX8_count 167 = .ok (.iinc 3 1, 3) := by decide +kernel
theorem dX8_count_170 : decode cX8_count 170 = .ok (.goto (-28), 3) := by decide +kernel
theorem dX8_count_173 : decode cX8_count 173 = .ok (.iload_n 2, 1) := by decide +kernel
theorem dX8_count_174 : decode cX8_count 174 = .ok (.i2l, 1) := by decide +kernel
theorem dX8_count_175 : decode cX8_count 175 = .ok (.lreturn, 1) := by decide +kernel
theorem dX8_count_176 : decode cX8_count 176 = .ok (.aload_n 0, 1) := by decide +kernel
theorem dX8_count_177 : decode cX8_count 177 = .ok (.getfield 55, 3) := by decide +kernel
theorem dX8_count_180 : decode cX8_count 180 = .ok (.iconst 0, 1) := by decide +kernel
theorem dX8_count_181 : decode cX8_count 181 = .ok (.iaload, 1) := by decide +kernel
theorem dX8_count_182 : decode cX8_count 182 = .ok (.ifCond .ge 7, 3) := by decide +kernel
theorem dX8_count_185 : decode cX8_count 185 = .ok (.iconst 0, 1) := by decide +kernel
theorem dX8_count_186 : decode cX8_count 186 = .ok (.goto 4, 3) := by decide +kernel
theorem dX8_count_189 : decode cX8_count 189 = .ok (.iconst 1, 1) := by decide +kernel
theorem dX8_count_190 : decode cX8_count 190 = .ok (.aload_n 0, 1) := by decide +kernel
theorem dX8_count_191 : decode cX8_count 191 = .ok (.getfield 55, 3) := by decide +kernel
theorem dX8_count_194 : decode cX8_count 194 = .ok (.iconst 1, 1) := by decide +kernel
theorem dX8_count_195 : decode cX8_count 195 = .ok (.iaload, 1) := by decide +kernel
theorem dX8_count_196 : decode cX8_count 196 = .ok (.ifCond .ge 7, 3) := by decide +kernel
theorem dX8_count_199 : decode cX8_count 199 = .ok (.iconst 0, 1) := by decide +kernel
theorem dX8_count_200 : decode cX8_count 200 = .ok (.goto 4, 3) := by decide +kernel
theorem dX8_count_203 : decode cX8_count 203 = .ok (.iconst 1, 1) := by decide +kernel
theorem dX8_count_204 : decode cX8_count 204 = .ok (.iadd, 1) := by decide +kernel
theorem dX8_count_205 : decode cX8_count 205 = .ok (.i2l, 1) := by decide +kernel
theorem dX8_count_206 : decode cX8_count 206 = .ok (.lreturn, 1) := by decide +kernel
theorem dX8_count_207 : decode cX8_count 207 = .ok (.ldc2_w 107, 3) := by decide +kernel
theorem dX8_count_210 : decode cX8_count 210 = .ok (.lreturn, 1) := by decide +kernel
theorem dJ6_bitCount_0f7a4_0 : decode cJ6_bitCount_0f7a4 0 = .ok (.iload_n 0, 1) := by decide +kernel
theorem dJ6_bitCount_0f7a4_1 : decode cJ6_bitCount_0f7a4 1 = .ok (.iload_n 0, 1) := by decide +kernel
theorem dJ6_bitCount_0f7a4_2 : decode cJ6_bitCount_0f7a4 2 = .ok (.iconst 1, 1) := by decide +kernel
theorem dJ6_bitCount_0f7a4_3 : decode cJ6_bitCount_0f7a4 3 = .ok (.iushr, 1) := by decide +kernel
theorem dJ6_bitCount_0f7a4_4 : decode cJ6_bitCount_0f7a4 4 = .ok (.ldc_w 265, 3) := by decide +kernel
theorem dJ6_bitCount_0f7a4_7 : decode cJ6_bitCount_0f7a4 7 = .ok (.iand, 1) := by decide +kernel
theorem dJ6_bitCount_0f7a4_8 : decode cJ6_bitCount_0f7a4 8 = .ok (.isub, 1) := by decide +kernel
theorem dJ6_bitCount_0f7a4_9 : decode cJ6_bitCount_0f7a4 9 = .ok (.istore_n 0, 1) := by decide +kernel
theorem dJ6_bitCount_0f7a4_10 : decode cJ6_bitCount_0f7a4 10 = .ok (.iload_n 0, 1) := by decide +kernel
theorem dJ6_bitCount_0f7a4_11 : decode cJ6_bitCount_0f7a4 11 = .ok (.ldc_w 266, 3) := by decide +kernel
theorem dJ6_bitCount_0f7a4_14 : decode cJ6_bitCount_0f7a4 14 = .ok (.iand, 1) := by decide +kernel
theorem dJ6_bitCount_0f7a4_15 : decode cJ6_bitCount_0f7a4 15 = .ok (.iload_n 0, 1) := by decide +kernel
theorem dJ6_bitCount_0f7a4_16 : decode cJ6_bitCount_0f7a4 16 = .ok (.iconst 2, 1) := by decide +kernel
theorem dJ6_bitCount_0f7a4_17 : decode cJ6_bitCount_0f7a4 17 = .ok (.iushr, 1) := by decide +kernel
theorem dJ6_bitCount_0f7a4_18 : decode cJ6_bitCount_0f7a4 18 = .ok (.ldc_w 266, 3) := by decide +kernel
theorem dJ6_bitCount_0f7a4_21 : decode cJ6_bitCount_0f7a4 21 = .ok (.iand, 1) := by decide +kernel
theorem dJ6_bitCount_0f7a4_22 : decode cJ6_bitCount_0f7a4 22 = .ok (.iadd, 1) := by decide +kernel
theorem dJ6_bitCount_0f7a4_23 : decode cJ6_bitCount_0f7a4 23 = .ok (.istore_n 0, 1) := by decide +kernel
theorem dJ6_bitCount_0f7a4_24 : decode cJ6_bitCount_0f7a4 24 = .ok (.iload_n 0, 1) := by decide +kernel
theorem dJ6_bitCount_0f7a4_25 : decode cJ6_bitCount_0f7a4 25 = .ok (.iload_n 0, 1) := by decide +kernel
theorem dJ6_bitCount_0f7a4_26 : decode cJ6_bitCount_0f7a4 26 = .ok (.iconst 4, 1) := by decide +kernel
theorem dJ6_bitCount_0f7a4_27 : decode cJ6_bitCount_0f7a4 27 = .ok (.iushr, 1) := by decide +kernel
theorem dJ6_bitCount_0f7a4_28 : decode cJ6_bitCount_0f7a4 28 = .ok (.iadd, 1) := by decide +kernel
theorem dJ6_bitCount_0f7a4_29 : decode cJ6_bitCount_0f7a4 29 = .ok (.ldc_w 267, 3) := by decide +kernel
theorem dJ6_bitCount_0f7a4_32 : decode cJ6_bitCount_0f7a4 32 = .ok (.iand, 1) := by decide +kernel
theorem dJ6_bitCount_0f7a4_33 : decode cJ6_bitCount_0f7a4 33 = .ok (.istore_n 0, 1) := by decide +kernel
theorem dJ6_bitCount_0f7a4_34 : decode cJ6_bitCount_0f7a4 34 = .ok (.iload_n 0, 1) := by decide +kernel
theorem dJ6_bitCount_0f7a4_35 : decode cJ6_bitCount_0f7a4 35 = .ok (.iload_n 0, 1) := by decide +kernel
theorem dJ6_bitCount_0f7a4_36 : decode cJ6_bitCount_0f7a4 36 = .ok (.bipush 8, 2) := by decide +kernel
theorem dJ6_bitCount_0f7a4_38 : decode cJ6_bitCount_0f7a4 38 = .ok (.iushr, 1) := by decide +kernel
theorem dJ6_bitCount_0f7a4_39 : decode cJ6_bitCount_0f7a4 39 = .ok (.iadd, 1) := by decide +kernel
theorem dJ6_bitCount_0f7a4_40 : decode cJ6_bitCount_0f7a4 40 = .ok (.istore_n 0, 1) := by decide +kernel
theorem dJ6_bitCount_0f7a4_41 : decode cJ6_bitCount_0f7a4 41 = .ok (.iload_n 0, 1) := by decide +kernel
theorem dJ6_bitCount_0f7a4_42 : decode cJ6_bitCount_0f7a4 42 = .ok (.iload_n 0, 1) := by decide +kernel
theorem dJ6_bitCount_0f7a4_43 : decode cJ6_bitCount_0f7a4 43 = .ok (.bipush 16, 2) := by decide +kernel
theorem dJ6_bitCount_0f7a4_45 : decode cJ6_bitCount_0f7a4 45 = .ok (.iushr, 1) := by decide +kernel
theorem dJ6_bitCount_0f7a4_46 : decode cJ6_bitCount_0f7a4 46 = .ok (.iadd, 1) := by decide +kernel
theorem dJ6_bitCount_0f7a4_47 : decode cJ6_bitCount_0f7a4 47 = .ok (.istore_n 0, 1) := by decide +kernel
theorem dJ6_bitCount_0f7a4_48 : decode cJ6_bitCount_0f7a4 48 = .ok (.iload_n 0, 1) := by decide +kernel
theorem dJ6_bitCount_0f7a4_49 : decode cJ6_bitCount_0f7a4 49 = .ok (.bipush 63, 2) := by decide +kernel
theorem dJ6_bitCount_0f7a4_51 : decode cJ6_bitCount_0f7a4 51 = .ok (.iand, 1) := by decide +kernel
theorem dJ6_bitCount_0f7a4_52 : decode cJ6_bitCount_0f7a4 52 = .ok (.ireturn, 1) := by decide +kernel
theorem dJ9_max_7cf53_0 : decode cJ9_max_7cf53 0 = .ok (.iload_n 0, 1) := by decide +kernel
theorem dJ9_max_7cf53_1 : decode cJ9_max_7cf53 1 = .ok (.iload_n 1, 1) := by decide +kernel
theorem dJ9_max_7cf53_2 : decode cJ9_max_7cf53 2 = .ok (.if_icmp .lt 7, 3) := by decide +kernel
theorem dJ9_max_7cf53_5 : decode cJ9_max_7cf53 5 = .ok (.iload_n 0, 1) := by decide +kernel
theorem dJ9_max_7cf53_6 : decode cJ9_max_7cf53 6 = .ok (.goto 4, 3) := by decide +kernel
theorem dJ9_max_7cf53_9 : decode cJ9_max_7cf53 9 = .ok (.iload_n 1, 1) := by decide +kernel
theorem dJ9_max_7cf53_10 : decode cJ9_max_7cf53 10 = .ok (.ireturn, 1) := by decide +kernel
theorem dJ9_min_7cf53_0 : decode cJ9_min_7cf53 0 = .ok (.iload_n 0, 1) := by decide +kernel
theorem dJ9_min_7cf53_1 : decode cJ9_min_7cf53 1 = .ok (.iload_n 1, 1) := by decide +kernel
theorem dJ9_min_7cf53_2 : decode cJ9_min_7cf53 2 = .ok (.if_icmp .gt 7, 3) := by decide +kernel
theorem dJ9_min_7cf53_5 : decode cJ9_min_7cf53 5 = .ok (.iload_n 0, 1) := by decide +kernel
theorem dJ9_min_7cf53_6 : decode cJ9_min_7cf53 6 = .ok (.goto 4, 3) := by decide +kernel
theorem dJ9_min_7cf53_9 : decode cJ9_min_7cf53 9 = .ok (.iload_n 1, 1) := by decide +kernel
theorem dJ9_min_7cf53_10 : decode cJ9_min_7cf53 10 = .ok (.ireturn, 1) := by decide +kernel
theorem dJ7_fill_d0a16_0 : decode cJ7_fill_d0a16 0 = .ok (.iconst 0, 1) := by decide +kernel
theorem dJ7_fill_d0a16_1 : decode cJ7_fill_d0a16 1 = .ok (.istore_n 3, 1) := by decide +kernel
theorem dJ7_fill_d0a16_2 : decode cJ7_fill_d0a16 2 = .ok (.aload_n 0, 1) := by decide +kernel
theorem dJ7_fill_d0a16_3 : decode cJ7_fill_d0a16 3 = .ok (.arraylength, 1) := by decide +kernel
theorem dJ7_fill_d0a16_4 : decode cJ7_fill_d0a16 4 = .ok (.istore 4, 2) := by decide +kernel
theorem dJ7_fill_d0a16_6 : decode cJ7_fill_d0a16 6 = .ok (.iload_n 3, 1) := by decide +kernel
theorem dJ7_fill_d0a16_7 : decode cJ7_fill_d0a16 7 = .ok (.iload 4, 2) := by decide +kernel
theorem dJ7_fill_d0a16_9 : decode cJ7_fill_d0a16 9 = .ok (.if_icmp .ge 13, 3) := by decide +kernel
theorem dJ7_fill_d0a16_12 : decode cJ7_fill_d0a16 12 = .ok (.aload_n 0, 1) := by decide +kernel
theorem dJ7_fill_d0a16_13 : decode cJ7_fill_d0a16 13 = .ok (.iload_n 3, 1) := by decide +kernel
theorem dJ7_fill_d0a16_14 : decode cJ7_fill_d0a16 14 = .ok (.lload_n 1, 1) := by decide +kernel
theorem dJ7_fill_d0a16_15 : decode cJ7_fill_d0a16 15 = .ok (.lastore, 1) := by decide +kernel
theorem dJ7_fill_d0a16_16 : decode cJ7_fill_d0a16 16 = .ok (.iinc 3 1, 3) := by decide +kernel
theorem dJ7_fill_d0a16_19 : decode cJ7_fill_d0a16 19 = .ok (.goto (-13), 3) := by decide +kernel
theorem dJ7_fill_d0a16_22 : decode cJ7_fill_d0a16 22 = .ok (.return_, 1) := by decide +kernel
theorem dJ7_fill_53178_0 : decode cJ7_fill_53178 0 = .ok (.iconst 0, 1) := by decide +kernel
theorem dJ7_fill_53178_1 : decode cJ7_fill_53178 1 = .ok (.istore_n 2, 1) := by decide +kernel
theorem dJ7_fill_53178_2 : decode cJ7_fill_53178 2 = .ok (.aload_n 0, 1) := by decide +kernel
theorem dJ7_fill_53178_3 : decode cJ7_fill_53178 3 = .ok (.arraylength, 1) := by decide +kernel
theorem dJ7_fill_53178_4 : decode cJ7_fill_53178 4 = .ok (.istore_n 3, 1) := by decide +kernel
theorem dJ7_fill_53178_5 : decode cJ7_fill_53178 5 = .ok (.iload_n 2, 1) := by decide +kernel
theorem dJ7_fill_53178_6 : decode cJ7_fill_53178 6 = .ok (.iload_n 3, 1) := by decide +kernel
theorem dJ7_fill_53178_7 : decode cJ7_fill_53178 7 = .ok (.if_icmp .ge 13, 3) := by decide +kernel
theorem dJ7_fill_53178_10 : decode cJ7_fill_53178 10 = .ok (.aload_n 0, 1) := by decide +kernel
theorem dJ7_fill_53178_11 : decode cJ7_fill_53178 11 = .ok (.iload_n 2, 1) := by decide +kernel
theorem dJ7_fill_53178_12 : decode cJ7_fill_53178 12 = .ok (.iload_n 1, 1) := by decide +kernel
theorem dJ7_fill_53178_13 : decode cJ7_fill_53178 13 = .ok (.iastore, 1) := by decide +kernel
theorem dJ7_fill_53178_14 : decode cJ7_fill_53178 14 = .ok (.iinc 2 1, 3) := by decide +kernel
theorem dJ7_fill_53178_17 : decode cJ7_fill_53178 17 = .ok (.goto (-12), 3) := by decide +kernel
theorem dJ7_fill_53178_20 : decode cJ7_fill_53178 20 = .ok (.return_, 1) := by decide +kernel
theorem dL_law_0 : decode cL_law 0 = .ok (.new 7, 3) := by decide +kernel
theorem dL_law_3 : decode cL_law 3 = .ok (.dup, 1) := by decide +kernel
theorem dL_law_4 : decode cL_law 4 = .ok (.invokespecial 9, 3) := by decide +kernel
theorem dL_law_7 : decode cL_law 7 = .ok (.astore_n 1, 1) := by decide +kernel
theorem dL_law_8 : decode cL_law 8 = .ok (.new 10, 3) := by decide +kernel
theorem dL_law_11 : decode cL_law 11 = .ok (.dup, 1) := by decide +kernel
theorem dL_law_12 : decode cL_law 12 = .ok (.invokespecial 12, 3) := by decide +kernel
theorem dL_law_15 : decode cL_law 15 = .ok (.astore_n 2, 1) := by decide +kernel
theorem dL_law_16 : decode cL_law 16 = .ok (.iconst 0, 1) := by decide +kernel
theorem dL_law_17 : decode cL_law 17 = .ok (.istore_n 3, 1) := by decide +kernel
theorem dL_law_18 : decode cL_law 18 = .ok (.iload_n 3, 1) := by decide +kernel
theorem dL_law_19 : decode cL_law 19 = .ok (.aload_n 0, 1) := by decide +kernel
theorem dL_law_20 : decode cL_law 20 = .ok (.arraylength, 1) := by decide +kernel
theorem dL_law_21 : decode cL_law 21 = .ok (.bipush 6, 2) := by decide +kernel
theorem dL_law_23 : decode cL_law 23 = .ok (.isub, 1) := by decide +kernel
theorem dL_law_24 : decode cL_law 24 = .ok (.if_icmp .gt 1150, 3) := by decide +kernel
theorem dL_law_27 : decode cL_law 27 = .ok (.aload_n 0, 1) := by decide +kernel
theorem dL_law_28 : decode cL_law 28 = .ok (.iload_n 3, 1) := by decide +kernel
theorem dL_law_29 : decode cL_law 29 = .ok (.iaload, 1) := by decide +kernel
theorem dL_law_30 : decode cL_law 30 = .ok (.bipush 31, 2) := by decide +kernel
theorem dL_law_32 : decode cL_law 32 = .ok (.iand, 1) := by decide +kernel
theorem dL_law_33 : decode cL_law 33 = .ok (.tableswitch 1135 0 29 #[135, 179, 213, 247, 281, 315, 349, 383, 417, 451, 485, 509, 553, 587, 611, 645, 679, 713, 747, 761, 785, 829, 853, 887, 921, 945, 979, 1023, 1087, 1111], 135) := by decide +kernel
theorem dL_law_168 : decode cL_law 168 = .ok (.aload_n 1, 1) := by decide +kernel
theorem dL_law_169 : decode cL_law 169 = .ok (.aload_n 0, 1) := by decide +kernel
theorem dL_law_170 : decode cL_law 170 = .ok (.iload_n 3, 1) := by decide +kernel
theorem dL_law_171 : decode cL_law 171 = .ok (.iconst 1, 1) := by decide +kernel
theorem dL_law_172 : decode cL_law 172 = .ok (.iadd, 1) := by decide +kernel
theorem dL_law_173 : decode cL_law 173 = .ok (.iaload, 1) := by decide +kernel
theorem dL_law_174 : decode cL_law 174 = .ok (.aload_n 0, 1) := by decide +kernel
theorem dL_law_175 : decode cL_law 175 = .ok (.iload_n 3, 1) := by decide +kernel
theorem dL_law_176 : decode cL_law 176 = .ok (.iconst 2, 1) := by decide +kernel
theorem dL_law_177 : decode cL_law 177 = .ok (.iadd, 1) := by decide +kernel
theorem dL_law_178 : decode cL_law 178 = .ok (.iaload, 1) := by decide +kernel
theorem dL_law_179 : decode cL_law 179 = .ok (.aload_n 0, 1) := by decide +kernel
theorem dL_law_180 : decode cL_law 180 = .ok (.iload_n 3, 1) := by decide +kernel
theorem dL_law_181 : decode cL_law 181 = .ok (.iconst 3, 1) := by decide +kernel
theorem dL_law_182 : decode cL_law 182 = .ok (.iadd, 1) := by decide +kernel
theorem dL_law_183 : decode cL_law 183 = .ok (.iaload, 1) := by decide +kernel
theorem dL_law_184 : decode cL_law 184 = .ok (.invokevirtual 13, 3) := by decide +kernel
theorem dL_law_187 : decode cL_law 187 = .ok (.aload_n 2, 1) := by decide +kernel
theorem dL_law_188 : decode cL_law 188 = .ok (.aload_n 0, 1) := by decide +kernel
theorem dL_law_189 : decode cL_law 189 = .ok (.iload_n 3, 1) := by decide +kernel
theorem dL_law_190 : decode cL_law 190 = .ok (.iconst 1, 1) := by decide +kernel
theorem dL_law_191 : decode cL_law 191 = .ok (.iadd, 1) := by decide +kernel
theorem dL_law_192 : decode cL_law 192 = .ok (.iaload, 1) := by decide +kernel
theorem dL_law_193 : decode cL_law 193 = .ok (.aload_n 0, 1) := by decide +kernel
theorem dL_law_194 : decode cL_law 194 = .ok (.iload_n 3, 1) := by decide +kernel
theorem dL_law_195 : decode cL_law 195 = .ok (.iconst 2, 1) := by decide +kernel
theorem dL_law_196 : decode cL_law 196 = .ok (.iadd, 1) := by decide +kernel
theorem dL_law_197 : decode cL_law 197 = .ok (.iaload, 1) := by decide +kernel
theorem dL_law_198 : decode cL_law 198 = .ok (.aload_n 0, 1) := by decide +kernel
theorem dL_law_199 : decode cL_law 199 = .ok (.iload_n 3, 1) := by decide +kernel
theorem dL_law_200 : decode cL_law 200 = .ok (.iconst 3, 1) := by decide +kernel
theorem dL_law_201 : decode cL_law 201 = .ok (.iadd, 1) := by decide +kernel
theorem dL_law_202 : decode cL_law 202 = .ok (.iaload, 1) := by decide +kernel
theorem dL_law_203 : decode cL_law 203 = .ok (.invokevirtual 17, 3) := by decide +kernel
theorem dL_law_206 : decode cL_law 206 = .ok (.lcmp, 1) := by decide +kernel
theorem dL_law_207 : decode cL_law 207 = .ok (.ifCond .eq 961, 3) := by decide +kernel
theorem dL_law_210 : decode cL_law 210 = .ok (.iconst 0, 1) := by decide +kernel
theorem dL_law_211 : decode cL_law 211 = .ok (.ireturn, 1) := by decide +kernel
theorem dL_law_212 : decode cL_law 212 = .ok (.aload_n 1, 1) := by decide +kernel
theorem dL_law_213 : decode cL_law 213 = .ok (.aload_n 0, 1) := by decide +kernel
theorem dL_law_214 : decode cL_law 214 = .ok (.iload_n 3, 1) := by decide +kernel
theorem dL_law_215 : decode cL_law 215 = .ok (.iconst 1, 1) := by decide +kernel
theorem dL_law_216 : decode cL_law 216 = .ok (.iadd, 1) := by decide +kernel
theorem dL_law_217 : decode cL_law 217 = .ok (.iaload, 1) := by decide +kernel
theorem dL_law_218 : decode cL_law 218 = .ok (.aload_n 0, 1) := by decide +kernel
theorem dL_law_219 : decode cL_law 219 = .ok (.iload_n 3, 1) := by decide +kernel
theorem dL_law_220 : decode cL_law 220 = .ok (.iconst 2, 1) := by decide +kernel
theorem dL_law_221 : decode cL_law 221 = .ok (.iadd, 1) := by decide +kernel
theorem dL_law_222 : decode cL_law 222 = .ok (.iaload, 1) := by decide +kernel
theorem dL_law_223 : decode cL_law 223 = .ok (.invokevirtual 18, 3) := by decide +kernel
theorem dL_law_226 : decode cL_law 226 = .ok (.aload_n 2, 1) := by decide +kernel
theorem dL_law_227 : decode cL_law 227 = .ok (.aload_n 0, 1) := by decide +kernel
theorem dL_law_228 : decode cL_law 228 = .ok (.iload_n 3, 1) := by decide +kernel
theorem dL_law_229 : decode cL_law 229 = .ok (.iconst 1, 1) := by decide +kernel
theorem dL_law_230 : decode cL_law 230 = .ok (.iadd, 1) := by decide +kernel
theorem dL_law_231 : decode cL_law 231 = .ok (.iaload, 1) := by decide +kernel
theorem dL_law_232 : decode cL_law 232 = .ok (.aload_n 0, 1) := by decide +kernel
theorem dL_law_233 : decode cL_law 233 = .ok (.iload_n 3, 1) := by decide +kernel
theorem dL_law_234 : decode cL_law 234 = .ok (.iconst 2, 1) := by decide +kernel
theorem dL_law_235 : decode cL_law 235 = .ok (.iadd, 1) := by decide +kernel
theorem dL_law_236 : decode cL_law 236 = .ok (.iaload, 1) := by decide +kernel
theorem dL_law_237 : decode cL_law 237 = .ok (.invokevirtual 22, 3) := by decide +kernel
theorem dL_law_240 : decode cL_law 240 = .ok (.lcmp, 1) := by decide +kernel
theorem dL_law_241 : decode cL_law 241 = .ok (.ifCond .eq 927, 3) := by decide +kernel
theorem dL_law_244 : decode cL_law 244 = .ok (.iconst 0, 1) := by decide +kernel
theorem dL_law_245 : decode cL_law 245 = .ok (.ireturn, 1) := by decide +kernel
theorem dL_law_246 : decode cL_law 246 = .ok (.aload_n 1, 1) := by decide +kernel
theorem dL_law_247 : decode cL_law 247 = .ok (.aload_n 0, 1) := by decide +kernel
theorem dL_law_248 : decode cL_law 248 = .ok (.iload_n 3, 1) := by decide +kernel
theorem dL_law_249 : decode cL_law 249 = .ok (.iconst 1, 1) := by decide +kernel
theorem dL_law_250 : decode cL_law 250 = .ok (.iadd, 1) := by decide +kernel
theorem dL_law_251 : decode cL_law 251 = .ok (.iaload, 1) := by decide +kernel
theorem dL_law_252 : decode cL_law 252 = .ok (.aload_n 0, 1) := by decide +kernel
theorem dL_law_253 : decode cL_law 253 = .ok (.iload_n 3, 1) := by decide +kernel
theorem dL_law_254 : decode cL_law 254 = .ok (.iconst 2, 1) := by decide +kernel
theorem dL_law_255 : decode cL_law 255 = .ok (.iadd, 1) := by decide +kernel
theorem dL_law_256 : decode cL_law 256 = .ok (.iaload, 1) := by decide +kernel
theorem dL_law_257 : decode cL_law 257 = .ok (.invokevirtual 23, 3) := by decide +kernel
theorem dL_law_260 : decode cL_law 260 = .ok (.aload_n 2, 1) := by decide +kernel
theorem dL_law_261 : decode cL_law 261 = .ok (.aload_n 0, 1) := by decide +kernel
theorem dL_law_262 : decode cL_law 262 = .ok (.iload_n 3, 1) := by decide +kernel
theorem dL_law_263 : decode cL_law 263 = .ok (.iconst 1, 1) := by decide +kernel
theorem dL_law_264 : decode cL_law 264 = .ok (.iadd, 1) := by decide +kernel
theorem dL_law_265 : decode cL_law 265 = .ok (.iaload, 1) := by decide +kernel
theorem dL_law_266 : decode cL_law 266 = .ok (.aload_n 0, 1) := by decide +kernel
theorem dL_law_267 : decode cL_law 267 = .ok (.iload_n 3, 1) := by decide +kernel
theorem dL_law_268 : decode cL_law 268 = .ok (.iconst 2, 1) := by decide +kernel
theorem dL_law_269 : decode cL_law 269 = .ok (.iadd, 1) := by decide +kernel
theorem dL_law_270 : decode cL_law 270 = .ok (.iaload, 1) := by decide +kernel
theorem dL_law_271 : decode cL_law 271 = .ok (.invokevirtual 26, 3) := by decide +kernel
theorem dL_law_274 : decode cL_law 274 = .ok (.lcmp, 1) := by decide +kernel
theorem dL_law_275 : decode cL_law 275 = .ok (.ifCond .eq 893, 3) := by decide +kernel
theorem dL_law_278 : decode cL_law 278 = .ok (.iconst 0, 1) := by decide +kernel
theorem dL_law_279 : decode cL_law 279 = .ok (.ireturn, 1) := by decide +kernel
theorem dL_law_280 : decode cL_law 280 = .ok (.aload_n 1, 1) := by decide +kernel
theorem dL_law_281 : decode cL_law 281 = .ok (.aload_n 0, 1) := by decide +kernel
theorem dL_law_282 : decode cL_law 282 = .ok (.iload_n 3, 1) := by decide +kernel
theorem dL_law_283 : decode cL_law 283 = .ok (.iconst 1, 1) := by decide +kernel
theorem dL_law_284 : decode cL_law 284 = .ok (.iadd, 1) := by decide +kernel
theorem dL_law_285 : decode cL_law 285 = .ok (.iaload, 1) := by decide +kernel
theorem dL_law_286 : decode cL_law 286 = .ok (.aload_n 0, 1) := by decide +kernel
theorem dL_law_287 : decode cL_law 287 = .ok (.iload_n 3, 1) := by decide +kernel
theorem dL_law_288 : decode cL_law 288 = .ok (.iconst 2, 1) := by decide +kernel
theorem dL_law_289 : decode cL_law 289 = .ok (.iadd, 1) := by decide +kernel
theorem dL_law_290 : decode cL_law 290 = .ok (.iaload, 1) := by decide +kernel
theorem dL_law_291 : decode cL_law 291 = .ok (.invokevirtual 27, 3) := by decide +kernel
theorem dL_law_294 : decode cL_law 294 = .ok (.aload_n 2, 1) := by decide +kernel
theorem dL_law_295 : decode cL_law 295 = .ok (.aload_n 0, 1) := by decide +kernel
theorem dL_law_296 : decode cL_law 296 = .ok (.iload_n 3, 1) := by decide +kernel
theorem dL_law_297 : decode cL_law 297 = .ok (.iconst 1, 1) := by decide +kernel
theorem dL_law_298 : decode cL_law 298 = .ok (.iadd, 1) := by decide +kernel
theorem dL_law_299 : decode cL_law 299 = .ok (.iaload, 1) := by decide +kernel
theorem dL_law_300 : decode cL_law 300 = .ok (.aload_n 0, 1) := by decide +kernel
theorem dL_law_301 : decode cL_law 301 = .ok (.iload_n 3, 1) := by decide +kernel
theorem dL_law_302 : decode cL_law 302 = .ok (.iconst 2, 1) := by decide +kernel
theorem dL_law_303 : decode cL_law 303 = .ok (.iadd, 1) := by decide +kernel
theorem dL_law_304 : decode cL_law 304 = .ok (.iaload, 1) := by decide +kernel
theorem dL_law_305 : decode cL_law 305 = .ok (.invokevirtual 30, 3) := by decide +kernel
theorem dL_law_308 : decode cL_law 308 = .ok (.lcmp, 1) := by decide +kernel
theorem dL_law_309 : decode cL_law 309 = .ok (.ifCond .eq 859, 3) := by decide +kernel
theorem dL_law_312 : decode cL_law 312 = .ok (.iconst 0, 1) := by decide +kernel
theorem dL_law_313 : decode cL_law 313 = .ok (.ireturn, 1) := by decide +kernel
theorem dL_law_314 : decode cL_law 314 = .ok (.aload_n 1, 1) := by decide +kernel
theorem dL_law_315 : decode cL_law 315 = .ok (.aload_n 0, 1) := by decide +kernel
theorem dL_law_316 : decode cL_law 316 = .ok (.iload_n 3, 1) := by decide +kernel
theorem dL_law_317 : decode cL_law 317 = .ok (.iconst 1, 1) := by decide +kernel
theorem dL_law_318 : decode cL_law 318 = .ok (.iadd, 1) := by decide +kernel
theorem dL_law_319 : decode cL_law 319 = .ok (.iaload, 1) := by decide +kernel
theorem dL_law_320 : decode cL_law 320 = .ok (.aload_n 0, 1) := by decide +kernel
theorem dL_law_321 : decode cL_law 321 = .ok (.iload_n 3, 1) := by decide +kernel
theorem dL_law_322 : decode cL_law 322 = .ok (.iconst 2, 1) := by decide +kernel
theorem dL_law_323 : decode cL_law 323 = .ok (.iadd, 1) := by decide +kernel
theorem dL_law_324 : decode cL_law 324 = .ok (.iaload, 1) := by decide +kernel
theorem dL_law_325 : decode cL_law 325 = .ok (.invokevirtual 31, 3) := by decide +kernel
theorem dL_law_328 : decode cL_law 328 = .ok (.aload_n 2, 1) := by decide +kernel
theorem dL_law_329 : decode cL_law 329 = .ok (.aload_n 0, 1) := by decide +kernel
theorem dL_law_330 : decode cL_law 330 = .ok (.iload_n 3, 1) := by decide +kernel
theorem dL_law_331 : decode cL_law 331 = .ok (.iconst 1, 1) := by decide +kernel
theorem dL_law_332 : decode cL_law 332 = .ok (.iadd, 1) := by decide +kernel
theorem dL_law_333 : decode cL_law 333 = .ok (.iaload, 1) := by decide +kernel
theorem dL_law_334 : decode cL_law 334 = .ok (.aload_n 0, 1) := by decide +kernel
theorem dL_law_335 : decode cL_law 335 = .ok (.iload_n 3, 1) := by decide +kernel
theorem dL_law_336 : decode cL_law 336 = .ok (.iconst 2, 1) := by decide +kernel
theorem dL_law_337 : decode cL_law 337 = .ok (.iadd, 1) := by decide +kernel
theorem dL_law_338 : decode cL_law 338 = .ok (.iaload, 1) := by decide +kernel
theorem dL_law_339 : decode cL_law 339 = .ok (.invokevirtual 34, 3) := by decide +kernel
theorem dL_law_342 : decode cL_law 342 = .ok (.lcmp, 1) := by decide +kernel
theorem dL_law_343 : decode cL_law 343 = .ok (.ifCond .eq 825, 3) := by decide +kernel
theorem dL_law_346 : decode cL_law 346 = .ok (.iconst 0, 1) := by decide +kernel
theorem dL_law_347 : decode cL_law 347 = .ok (.ireturn, 1) := by decide +kernel
theorem dL_law_348 : decode cL_law 348 = .ok (.aload_n 1, 1) := by decide +kernel
theorem dL_law_349 : decode cL_law 349 = .ok (.aload_n 0, 1) := by decide +kernel
theorem dL_law_350 : decode cL_law 350 = .ok (.iload_n 3, 1) := by decide +kernel
theorem dL_law_351 : decode cL_law 351 = .ok (.iconst 1, 1) := by decide +kernel
theorem dL_law_352 : decode cL_law 352 = .ok (.iadd, 1) := by decide +kernel
theorem dL_law_353 : decode cL_law 353 = .ok (.iaload, 1) := by decide +kernel
theorem dL_law_354 : decode cL_law 354 = .ok (.aload_n 0, 1) := by decide +kernel
theorem dL_law_355 : decode cL_law 355 = .ok (.iload_n 3, 1) := by decide +kernel
theorem dL_law_356 : decode cL_law 356 = .ok (.iconst 2, 1) := by decide +kernel
theorem dL_law_357 : decode cL_law 357 = .ok (.iadd, 1) := by decide +kernel
theorem dL_law_358 : decode cL_law 358 = .ok (.iaload, 1) := by decide +kernel
theorem dL_law_359 : decode cL_law 359 = .ok (.invokevirtual 35, 3) := by decide +kernel
theorem dL_law_362 : decode cL_law 362 = .ok (.aload_n 2, 1) := by decide +kernel
theorem dL_law_363 : decode cL_law 363 = .ok (.aload_n 0, 1) := by decide +kernel
theorem dL_law_364 : decode cL_law 364 = .ok (.iload_n 3, 1) := by decide +kernel
theorem dL_law_365 : decode cL_law 365 = .ok (.iconst 1, 1) := by decide +kernel
theorem dL_law_366 : decode cL_law 366 = .ok (.iadd, 1) := by decide +kernel
theorem dL_law_367 : decode cL_law 367 = .ok (.iaload, 1) := by decide +kernel
theorem dL_law_368 : decode cL_law 368 = .ok (.aload_n 0, 1) := by decide +kernel
theorem dL_law_369 : decode cL_law 369 = .ok (.iload_n 3, 1) := by decide +kernel
theorem dL_law_370 : decode cL_law 370 = .ok (.iconst 2, 1) := by decide +kernel
theorem dL_law_371 : decode cL_law 371 = .ok (.iadd, 1) := by decide +kernel
theorem dL_law_372 : decode cL_law 372 = .ok (.iaload, 1) := by decide +kernel
theorem dL_law_373 : decode cL_law 373 = .ok (.invokevirtual 38, 3) := by decide +kernel
theorem dL_law_376 : decode cL_law 376 = .ok (.lcmp, 1) := by decide +kernel
theorem dL_law_377 : decode cL_law 377 = .ok (.ifCond .eq 791, 3) := by decide +kernel
theorem dL_law_380 : decode cL_law 380 = .ok (.iconst 0, 1) := by decide +kernel
theorem dL_law_381 : decode cL_law 381 = .ok (.ireturn, 1) := by decide +kernel
theorem dL_law_382 : decode cL_law 382 = .ok (.aload_n 1, 1) := by decide +kernel
theorem dL_law_383 : decode cL_law 383 = .ok (.aload_n 0, 1) := by decide +kernel
theorem dL_law_384 : decode cL_law 384 = .ok (.iload_n 3, 1) := by decide +kernel
theorem dL_law_385 : decode cL_law 385 = .ok (.iconst 1, 1) := by decide +kernel
theorem dL_law_386 : decode cL_law 386 = .ok (.iadd, 1) := by decide +kernel
theorem dL_law_387 : decode cL_law 387 = .ok (.iaload, 1) := by decide +kernel
theorem dL_law_388 : decode cL_law 388 = .ok (.aload_n 0, 1) := by decide +kernel
theorem dL_law_389 : decode cL_law 389 = .ok (.iload_n 3, 1) := by decide +kernel
theorem dL_law_390 : decode cL_law 390 = .ok (.iconst 2, 1) := by decide +kernel
theorem dL_law_391 : decode cL_law 391 = .ok (.iadd, 1) := by decide +kernel
theorem dL_law_392 : decode cL_law 392 = .ok (.iaload, 1) := by decide +kernel
theorem dL_law_393 : decode cL_law 393 = .ok (.invokevirtual 39, 3) := by decide +kernel
theorem dL_law_396 : decode cL_law 396 = .ok (.aload_n 2, 1) := by decide +kernel
theorem dL_law_397 : decode cL_law 397 = .ok (.aload_n 0, 1) := by decide +kernel
theorem dL_law_398 : decode cL_law 398 = .ok (.iload_n 3, 1) := by decide +kernel
theorem dL_law_399 : decode cL_law 399 = .ok (.iconst 1, 1) := by decide +kernel
theorem dL_law_400 : decode cL_law 400 = .ok (.iadd, 1) := by decide +kernel
theorem dL_law_401 : decode cL_law 401 = .ok (.iaload, 1) := by decide +kernel
theorem dL_law_402 : decode cL_law 402 = .ok (.aload_n 0, 1) := by decide +kernel
theorem dL_law_403 : decode cL_law 403 = .ok (.iload_n 3, 1) := by decide +kernel
theorem dL_law_404 : decode cL_law 404 = .ok (.iconst 2, 1) := by decide +kernel
theorem dL_law_405 : decode cL_law 405 = .ok (.iadd, 1) := by decide +kernel
theorem dL_law_406 : decode cL_law 406 = .ok (.iaload, 1) := by decide +kernel
theorem dL_law_407 : decode cL_law 407 = .ok (.invokevirtual 42, 3) := by decide +kernel
theorem dL_law_410 : decode cL_law 410 = .ok (.lcmp, 1) := by decide +kernel
theorem dL_law_411 : decode cL_law 411 = .ok (.ifCond .eq 757, 3) := by decide +kernel
theorem dL_law_414 : decode cL_law 414 = .ok (.iconst 0, 1) := by decide +kernel
theorem dL_law_415 : decode cL_law 415 = .ok (.ireturn, 1) := by decide +kernel
theorem dL_law_416 : decode cL_law 416 = .ok (.aload_n 1, 1) := by decide +kernel
theorem dL_law_417 : decode cL_law 417 = .ok (.aload_n 0, 1) := by decide +kernel
theorem dL_law_418 : decode cL_law 418 = .ok (.iload_n 3, 1) := by decide +kernel
theorem dL_law_419 : decode cL_law 419 = .ok (.iconst 1, 1) := by decide +kernel
theorem dL_law_420 : decode cL_law 420 = .ok (.iadd, 1) := by decide +kernel
theorem dL_law_421 : decode cL_law 421 = .ok (.iaload, 1) := by decide +kernel
theorem dL_law_422 : decode cL_law 422 = .ok (.aload_n 0, 1) := by decide +kernel
theorem dL_law_423 : decode cL_law 423 = .ok (.iload_n 3, 1) := by decide +kernel
theorem dL_law_424 : decode cL_law 424 = .ok (.iconst 2, 1) := by decide +kernel
theorem dL_law_425 : decode cL_law 425 = .ok (.iadd, 1) := by decide +kernel
theorem dL_law_426 : decode cL_law 426 = .ok (.iaload, 1) := by decide +kernel
theorem dL_law_427 : decode cL_law 427 = .ok (.invokevirtual 43, 3) := by decide +kernel
theorem dL_law_430 : decode cL_law 430 = .ok (.aload_n 2, 1) := by decide +kernel
theorem dL_law_431 : decode cL_law 431 = .ok (.aload_n 0, 1) := by decide +kernel
theorem dL_law_432 : decode cL_law 432 = .ok (.iload_n 3, 1) := by decide +kernel
theorem dL_law_433 : decode cL_law 433 = .ok (.iconst 1, 1) := by decide +kernel
theorem dL_law_434 : decode cL_law 434 = .ok (.iadd, 1) := by decide +kernel
theorem dL_law_435 : decode cL_law 435 = .ok (.iaload, 1) := by decide +kernel
theorem dL_law_436 : decode cL_law 436 = .ok (.aload_n 0, 1) := by decide +kernel
theorem dL_law_437 : decode cL_law 437 = .ok (.iload_n 3, 1) := by decide +kernel
theorem dL_law_438 : decode cL_law 438 = .ok (.iconst 2, 1) := by decide +kernel
theorem dL_law_439 : decode cL_law 439 = .ok (.iadd, 1) := by decide +kernel
theorem dL_law_440 : decode cL_law 440 = .ok (.iaload, 1) := by decide +kernel
theorem dL_law_441 : decode cL_law 441 = .ok (.invokevirtual 46, 3) := by decide +kernel
theorem dL_law_444 : decode cL_law 444 = .ok (.lcmp, 1) := by decide +kernel
theorem dL_law_445 : decode cL_law 445 = .ok (.ifCond .eq 723, 3) := by decide +kernel
theorem dL_law_448 : decode cL_law 448 = .ok (.iconst 0, 1) := by decide +kernel
theorem dL_law_449 : decode cL_law 449 = .ok (.ireturn, 1) := by decide +kernel
theorem dL_law_450 : decode cL_law 450 = .ok (.aload_n 1, 1) := by decide +kernel
theorem dL_law_451 : decode cL_law 451 = .ok (.aload_n 0, 1) := by decide +kernel
theorem dL_law_452 : decode cL_law 452 = .ok (.iload_n 3, 1) := by decide +kernel
theorem dL_law_453 : decode cL_law 453 = .ok (.iconst 1, 1) := by decide +kernel
theorem dL_law_454 : decode cL_law 454 = .ok (.iadd, 1) := by decide +kernel
theorem dL_law_455 : decode cL_law 455 = .ok (.iaload, 1) := by decide +kernel
theorem dL_law_456 : decode cL_law 456 = .ok (.aload_n 0, 1) := by decide +kernel
theorem dL_law_457 : decode cL_law 457 = .ok (.iload_n 3, 1) := by decide +kernel
theorem dL_law_458 : decode cL_law 458 = .ok (.iconst 2, 1) := by decide +kernel
theorem dL_law_459 : decode cL_law 459 = .ok (.iadd, 1) := by decide +kernel
theorem dL_law_460 : decode cL_law 460 = .ok (.iaload, 1) := by decide +kernel
theorem dL_law_461 : decode cL_law 461 = .ok (.invokevirtual 47, 3) := by decide +kernel
theorem dL_law_464 : decode cL_law 464 = .ok (.aload_n 2, 1) := by decide +kernel
theorem dL_law_465 : decode cL_law 465 = .ok (.aload_n 0, 1) := by decide +kernel
theorem dL_law_466 : decode cL_law 466 = .ok (.iload_n 3, 1) := by decide +kernel
theorem dL_law_467 : decode cL_law 467 = .ok (.iconst 1, 1) := by decide +kernel
theorem dL_law_468 : decode cL_law 468 = .ok (.iadd, 1) := by decide +kernel
theorem dL_law_469 : decode cL_law 469 = .ok (.iaload, 1) := by decide +kernel
theorem dL_law_470 : decode cL_law 470 = .ok (.aload_n 0, 1) := by decide +kernel
theorem dL_law_471 : decode cL_law 471 = .ok (.iload_n 3, 1) := by decide +kernel
theorem dL_law_472 : decode cL_law 472 = .ok (.iconst 2, 1) := by decide +kernel
theorem dL_law_473 : decode cL_law 473 = .ok (.iadd, 1) := by decide +kernel
theorem dL_law_474 : decode cL_law 474 = .ok (.iaload, 1) := by decide +kernel
theorem dL_law_475 : decode cL_law 475 = .ok (.invokevirtual 50, 3) := by decide +kernel
theorem dL_law_478 : decode cL_law 478 = .ok (.lcmp, 1) := by decide +kernel
theorem dL_law_479 : decode cL_law 479 = .ok (.ifCond .eq 689, 3) := by decide +kernel
theorem dL_law_482 : decode cL_law 482 = .ok (.iconst 0, 1) := by decide +kernel
theorem dL_law_483 : decode cL_law 483 = .ok (.ireturn, 1) := by decide +kernel
theorem dL_law_484 : decode cL_law 484 = .ok (.aload_n 1, 1) := by decide +kernel
theorem dL_law_485 : decode cL_law 485 = .ok (.aload_n 0, 1) := by decide +kernel
theorem dL_law_486 : decode cL_law 486 = .ok (.iload_n 3, 1) := by decide +kernel
theorem dL_law_487 : decode cL_law 487 = .ok (.iconst 1, 1) := by decide +kernel
theorem dL_law_488 : decode cL_law 488 = .ok (.iadd, 1) := by decide +kernel
theorem dL_law_489 : decode cL_law 489 = .ok (.iaload, 1) := by decide +kernel
theorem dL_law_490 : decode cL_law 490 = .ok (.aload_n 0, 1) := by decide +kernel
theorem dL_law_491 : decode cL_law 491 = .ok (.iload_n 3, 1) := by decide +kernel
theorem dL_law_492 : decode cL_law 492 = .ok (.iconst 2, 1) := by decide +kernel
theorem dL_law_493 : decode cL_law 493 = .ok (.iadd, 1) := by decide +kernel
theorem dL_law_494 : decode cL_law 494 = .ok (.iaload, 1) := by decide +kernel
theorem dL_law_495 : decode cL_law 495 = .ok (.invokevirtual 51, 3) := by decide +kernel
end
section
theorem dL_law_498 : decode cL_law 498 = .ok (.aload_n 2, 1) := by decide +kernel
theorem dL_law_499 : decode cL_law 499 = .ok (.aload_n 0, 1) := by decide +kernel
theorem dL_law_500 : decode cL_law 500 = .ok (.iload_n 3, 1) := by decide +kernel
theorem dL_law_501 : decode cL_law 501 = .ok (.iconst 1, 1) := by decide +kernel
theorem dL_law_502 : decode cL_law 502 = .ok (.iadd, 1) := by decide +kernel
theorem dL_law_503 : decode cL_law 503 = .ok (.iaload, 1) := by decide +kernel
theorem dL_law_504 : decode cL_law 504 = .ok (.aload_n 0, 1) := by decide +kernel
theorem dL_law_505 : decode cL_law 505 = .ok (.iload_n 3, 1) := by decide +kernel
theorem dL_law_506 : decode cL_law 506 = .ok (.iconst 2, 1) := by decide +kernel
theorem dL_law_507 : decode cL_law 507 = .ok (.iadd, 1) := by decide +kernel
theorem dL_law_508 : decode cL_law 508 = .ok (.iaload, 1) := by decide +kernel
theorem dL_law_509 : decode cL_law 509 = .ok (.invokevirtual 54, 3) := by decide +kernel
theorem dL_law_512 : decode cL_law 512 = .ok (.lcmp, 1) := by decide +kernel
theorem dL_law_513 : decode cL_law 513 = .ok (.ifCond .eq 655, 3) := by decide +kernel
theorem dL_law_516 : decode cL_law 516 = .ok (.iconst 0, 1) := by decide +kernel
theorem dL_law_517 : decode cL_law 517 = .ok (.ireturn, 1) := by decide +kernel
theorem dL_law_518 : decode cL_law 518 = .ok (.aload_n 1, 1) := by decide +kernel
theorem dL_law_519 : decode cL_law 519 = .ok (.aload_n 0, 1) := by decide +kernel
theorem dL_law_520 : decode cL_law 520 = .ok (.iload_n 3, 1) := by decide +kernel
theorem dL_law_521 : decode cL_law 521 = .ok (.iconst 1, 1) := by decide +kernel
theorem dL_law_522 : decode cL_law 522 = .ok (.iadd, 1) := by decide +kernel
theorem dL_law_523 : decode cL_law 523 = .ok (.iaload, 1) := by decide +kernel
theorem dL_law_524 : decode cL_law 524 = .ok (.invokevirtual 55, 3) := by decide +kernel
theorem dL_law_527 : decode cL_law 527 = .ok (.aload_n 2, 1) := by decide +kernel
theorem dL_law_528 : decode cL_law 528 = .ok (.aload_n 0, 1) := by decide +kernel
theorem dL_law_529 : decode cL_law 529 = .ok (.iload_n 3, 1) := by decide +kernel
theorem dL_law_530 : decode cL_law 530 = .ok (.iconst 1, 1) := by decide +kernel
theorem dL_law_531 : decode cL_law 531 = .ok (.iadd, 1) := by decide +kernel
theorem dL_law_532 : decode cL_law 532 = .ok (.iaload, 1) := by decide +kernel
theorem dL_law_533 : decode cL_law 533 = .ok (.invokevirtual 59, 3) := by decide +kernel
theorem dL_law_536 : decode cL_law 536 = .ok (.lcmp, 1) := by decide +kernel
theorem dL_law_537 : decode cL_law 537 = .ok (.ifCond .eq 631, 3) := by decide +kernel
theorem dL_law_540 : decode cL_law 540 = .ok (.iconst 0, 1) := by decide +kernel
theorem dL_law_541 : decode cL_law 541 = .ok (.ireturn, 1) := by decide +kernel
theorem dL_law_542 : decode cL_law 542 = .ok (.aload_n 1, 1) := by decide +kernel
theorem dL_law_543 : decode cL_law 543 = .ok (.aload_n 0, 1) := by decide +kernel
theorem dL_law_544 : decode cL_law 544 = .ok (.iload_n 3, 1) := by decide +kernel
theorem dL_law_545 : decode cL_law 545 = .ok (.iconst 1, 1) := by decide +kernel
theorem dL_law_546 : decode cL_law 546 = .ok (.iadd, 1) := by decide +kernel
theorem dL_law_547 : decode cL_law 547 = .ok (.iaload, 1) := by decide +kernel
theorem dL_law_548 : decode cL_law 548 = .ok (.aload_n 0, 1) := by decide +kernel
theorem dL_law_549 : decode cL_law 549 = .ok (.iload_n 3, 1) := by decide +kernel
theorem dL_law_550 : decode cL_law 550 = .ok (.iconst 2, 1) := by decide +kernel
theorem dL_law_551 : decode cL_law 551 = .ok (.iadd, 1) := by decide +kernel
theorem dL_law_552 : decode cL_law 552 = .ok (.iaload, 1) := by decide +kernel
theorem dL_law_553 : decode cL_law 553 = .ok (.aload_n 0, 1) := by decide +kernel
theorem dL_law_554 : decode cL_law 554 = .ok (.iload_n 3, 1) := by decide +kernel
theorem dL_law_555 : decode cL_law 555 = .ok (.iconst 3, 1) := by decide +kernel
theorem dL_law_556 : decode cL_law 556 = .ok (.iadd, 1) := by decide +kernel
theorem dL_law_557 : decode cL_law 557 = .ok (.iaload, 1) := by decide +kernel
theorem dL_law_558 : decode cL_law 558 = .ok (.invokevirtual 60, 3) := by decide +kernel
theorem dL_law_561 : decode cL_law 561 = .ok (.aload_n 2, 1) := by decide +kernel
theorem dL_law_562 : decode cL_law 562 = .ok (.aload_n 0, 1) := by decide +kernel
theorem dL_law_563 : decode cL_law 563 = .ok (.iload_n 3, 1) := by decide +kernel
theorem dL_law_564 : decode cL_law 564 = .ok (.iconst 1, 1) := by decide +kernel
theorem dL_law_565 : decode cL_law 565 = .ok (.iadd, 1) := by decide +kernel
theorem dL_law_566 : decode cL_law 566 = .ok (.iaload, 1) := by decide +kernel
theorem dL_law_567 : decode cL_law 567 = .ok (.aload_n 0, 1) := by decide +kernel
theorem dL_law_568 : decode cL_law 568 = .ok (.iload_n 3, 1) := by decide +kernel
theorem dL_law_569 : decode cL_law 569 = .ok (.iconst 2, 1) := by decide +kernel
theorem dL_law_570 : decode cL_law 570 = .ok (.iadd, 1) := by decide +kernel
theorem dL_law_571 : decode cL_law 571 = .ok (.iaload, 1) := by decide +kernel
theorem dL_law_572 : decode cL_law 572 = .ok (.aload_n 0, 1) := by decide +kernel
theorem dL_law_573 : decode cL_law 573 = .ok (.iload_n 3, 1) := by decide +kernel
theorem dL_law_574 : decode cL_law 574 = .ok (.iconst 3, 1) := by decide +kernel
theorem dL_law_575 : decode cL_law 575 = .ok (.iadd, 1) := by decide +kernel
theorem dL_law_576 : decode cL_law 576 = .ok (.iaload, 1) := by decide +kernel
theorem dL_law_577 : decode cL_law 577 = .ok (.invokevirtual 63, 3) := by decide +kernel
theorem dL_law_580 : decode cL_law 580 = .ok (.lcmp, 1) := by decide +kernel
theorem dL_law_581 : decode cL_law 581 = .ok (.ifCond .eq 587, 3) := by decide +kernel
theorem dL_law_584 : decode cL_law 584 = .ok (.iconst 0, 1) := by decide +kernel
theorem dL_law_585 : decode cL_law 585 = .ok (.ireturn, 1) := by decide +kernel
theorem dL_law_586 : decode cL_law 586 = .ok (.aload_n 1, 1) := by decide +kernel
theorem dL_law_587 : decode cL_law 587 = .ok (.aload_n 0, 1) := by decide +kernel
theorem dL_law_588 : decode cL_law 588 = .ok (.iload_n 3, 1) := by decide +kernel
theorem dL_law_589 : decode cL_law 589 = .ok (.iconst 1, 1) := by decide +kernel
theorem dL_law_590 : decode cL_law 590 = .ok (.iadd, 1) := by decide +kernel
theorem dL_law_591 : decode cL_law 591 = .ok (.iaload, 1) := by decide +kernel
theorem dL_law_592 : decode cL_law 592 = .ok (.aload_n 0, 1) := by decide +kernel
theorem dL_law_593 : decode cL_law 593 = .ok (.iload_n 3, 1) := by decide +kernel
theorem dL_law_594 : decode cL_law 594 = .ok (.iconst 2, 1) := by decide +kernel
theorem dL_law_595 : decode cL_law 595 = .ok (.iadd, 1) := by decide +kernel
theorem dL_law_596 : decode cL_law 596 = .ok (.iaload, 1) := by decide +kernel
theorem dL_law_597 : decode cL_law 597 = .ok (.invokevirtual 64, 3) := by decide +kernel
theorem dL_law_600 : decode cL_law 600 = .ok (.aload_n 2, 1) := by decide +kernel
theorem dL_law_601 : decode cL_law 601 = .ok (.aload_n 0, 1) := by decide +kernel
theorem dL_law_602 : decode cL_law 602 = .ok (.iload_n 3, 1) := by decide +kernel
theorem dL_law_603 : decode cL_law 603 = .ok (.iconst 1, 1) := by decide +kernel
theorem dL_law_604 : decode cL_law 604 = .ok (.iadd, 1) := by decide +kernel
theorem dL_law_605 : decode cL_law 605 = .ok (.iaload, 1) := by decide +kernel
theorem dL_law_606 : decode cL_law 606 = .ok (.aload_n 0, 1) := by decide +kernel
theorem dL_law_607 : decode cL_law 607 = .ok (.iload_n 3, 1) := by decide +kernel
theorem dL_law_608 : decode cL_law 608 = .ok (.iconst 2, 1) := by decide +kernel
theorem dL_law_609 : decode cL_law 609 = .ok (.iadd, 1) := by decide +kernel
theorem dL_law_610 : decode cL_law 610 = .ok (.iaload, 1) := by decide +kernel
theorem dL_law_611 : decode cL_law 611 = .ok (.invokevirtual 67, 3) := by decide +kernel
theorem dL_law_614 : decode cL_law 614 = .ok (.lcmp, 1) := by decide +kernel
theorem dL_law_615 : decode cL_law 615 = .ok (.ifCond .eq 553, 3) := by decide +kernel
theorem dL_law_618 : decode cL_law 618 = .ok (.iconst 0, 1) := by decide +kernel
theorem dL_law_619 : decode cL_law 619 = .ok (.ireturn, 1) := by decide +kernel
theorem dL_law_620 : decode cL_law 620 = .ok (.aload_n 1, 1) := by decide +kernel
theorem dL_law_621 : decode cL_law 621 = .ok (.aload_n 0, 1) := by decide +kernel
theorem dL_law_622 : decode cL_law 622 = .ok (.iload_n 3, 1) := by decide +kernel
theorem dL_law_623 : decode cL_law 623 = .ok (.iconst 1, 1) := by decide +kernel
theorem dL_law_624 : decode cL_law 624 = .ok (.iadd, 1) := by decide +kernel
theorem dL_law_625 : decode cL_law 625 = .ok (.iaload, 1) := by decide +kernel
theorem dL_law_626 : decode cL_law 626 = .ok (.invokevirtual 68, 3) := by decide +kernel
theorem dL_law_629 : decode cL_law 629 = .ok (.aload_n 2, 1) := by decide +kernel
theorem dL_law_630 : decode cL_law 630 = .ok (.aload_n 0, 1) := by decide +kernel
theorem dL_law_631 : decode cL_law 631 = .ok (.iload_n 3, 1) := by decide +kernel
theorem dL_law_632 : decode cL_law 632 = .ok (.iconst 1, 1) := by decide +kernel
theorem dL_law_633 : decode cL_law 633 = .ok (.iadd, 1) := by decide +kernel
theorem dL_law_634 : decode cL_law 634 = .ok (.iaload, 1) := by decide +kernel
theorem dL_law_635 : decode cL_law 635 = .ok (.invokevirtual 71, 3) := by decide +kernel
theorem dL_law_638 : decode cL_law 638 = .ok (.lcmp, 1) := by decide +kernel
theorem dL_law_639 : decode cL_law 639 = .ok (.ifCond .eq 529, 3) := by decide +kernel
theorem dL_law_642 : decode cL_law 642 = .ok (.iconst 0, 1) := by decide +kernel
theorem dL_law_643 : decode cL_law 643 = .ok (.ireturn, 1) := by decide +kernel
theorem dL_law_644 : decode cL_law 644 = .ok (.aload_n 1, 1) := by decide +kernel
theorem dL_law_645 : decode cL_law 645 = .ok (.aload_n 0, 1) := by decide +kernel
theorem dL_law_646 : decode cL_law 646 = .ok (.iload_n 3, 1) := by decide +kernel
theorem dL_law_647 : decode cL_law 647 = .ok (.iconst 1, 1) := by decide +kernel
theorem dL_law_648 : decode cL_law 648 = .ok (.iadd, 1) := by decide +kernel
theorem dL_law_649 : decode cL_law 649 = .ok (.iaload, 1) := by decide +kernel
theorem dL_law_650 : decode cL_law 650 = .ok (.aload_n 0, 1) := by decide +kernel
theorem dL_law_651 : decode cL_law 651 = .ok (.iload_n 3, 1) := by decide +kernel
theorem dL_law_652 : decode cL_law 652 = .ok (.iconst 2, 1) := by decide +kernel
theorem dL_law_653 : decode cL_law 653 = .ok (.iadd, 1) := by decide +kernel
theorem dL_law_654 : decode cL_law 654 = .ok (.iaload, 1) := by decide +kernel
theorem dL_law_655 : decode cL_law 655 = .ok (.invokevirtual 72, 3) := by decide +kernel
theorem dL_law_658 : decode cL_law 658 = .ok (.aload_n 2, 1) := by decide +kernel
theorem dL_law_659 : decode cL_law 659 = .ok (.aload_n 0, 1) := by decide +kernel
theorem dL_law_660 : decode cL_law 660 = .ok (.iload_n 3, 1) := by decide +kernel
theorem dL_law_661 : decode cL_law 661 = .ok (.iconst 1, 1) := by decide +kernel
theorem dL_law_662 : decode cL_law 662 = .ok (.iadd, 1) := by decide +kernel
theorem dL_law_663 : decode cL_law 663 = .ok (.iaload, 1) := by decide +kernel
theorem dL_law_664 : decode cL_law 664 = .ok (.aload_n 0, 1) := by decide +kernel
theorem dL_law_665 : decode cL_law 665 = .ok (.iload_n 3, 1) := by decide +kernel
theorem dL_law_666 : decode cL_law 666 = .ok (.iconst 2, 1) := by decide +kernel
theorem dL_law_667 : decode cL_law 667 = .ok (.iadd, 1) := by decide +kernel
theorem dL_law_668 : decode cL_law 668 = .ok (.iaload, 1) := by decide +kernel
theorem dL_law_669 : decode cL_law 669 = .ok (.invokevirtual 75, 3) := by decide +kernel
theorem dL_law_672 : decode cL_law 672 = .ok (.lcmp, 1) := by decide +kernel
theorem dL_law_673 : decode cL_law 673 = .ok (.ifCond .eq 495, 3) := by decide +kernel
theorem dL_law_676 : decode cL_law 676 = .ok (.iconst 0, 1) := by decide +kernel
theorem dL_law_677 : decode cL_law 677 = .ok (.ireturn, 1) := by decide +kernel
theorem dL_law_678 : decode cL_law 678 = .ok (.aload_n 1, 1) := by decide +kernel
theorem dL_law_679 : decode cL_law 679 = .ok (.aload_n 0, 1) := by decide +kernel
theorem dL_law_680 : decode cL_law 680 = .ok (.iload_n 3, 1) := by decide +kernel
theorem dL_law_681 : decode cL_law 681 = .ok (.iconst 1, 1) := by decide +kernel
theorem dL_law_682 : decode cL_law 682 = .ok (.iadd, 1) := by decide +kernel
theorem dL_law_683 : decode cL_law 683 = .ok (.iaload, 1) := by decide +kernel
theorem dL_law_684 : decode cL_law 684 = .ok (.aload_n 0, 1) := by decide +kernel
theorem dL_law_685 : decode cL_law 685 = .ok (.iload_n 3, 1) := by decide +kernel
theorem dL_law_686 : decode cL_law 686 = .ok (.iconst 2, 1) := by decide +kernel
theorem dL_law_687 : decode cL_law 687 = .ok (.iadd, 1) := by decide +kernel
theorem dL_law_688 : decode cL_law 688 = .ok (.iaload, 1) := by decide +kernel
theorem dL_law_689 : decode cL_law 689 = .ok (.invokevirtual 76, 3) := by decide +kernel
theorem dL_law_692 : decode cL_law 692 = .ok (.aload_n 2, 1) := by decide +kernel
theorem dL_law_693 : decode cL_law 693 = .ok (.aload_n 0, 1) := by decide +kernel
theorem dL_law_694 : decode cL_law 694 = .ok (.iload_n 3, 1) := by decide +kernel
theorem dL_law_695 : decode cL_law 695 = .ok (.iconst 1, 1) := by decide +kernel
theorem dL_law_696 : decode cL_law 696 = .ok (.iadd, 1) := by decide +kernel
theorem dL_law_697 : decode cL_law 697 = .ok (.iaload, 1) := by decide +kernel
theorem dL_law_698 : decode cL_law 698 = .ok (.aload_n 0, 1) := by decide +kernel
theorem dL_law_699 : decode cL_law 699 = .ok (.iload_n 3, 1) := by decide +kernel
theorem dL_law_700 : decode cL_law 700 = .ok (.iconst 2, 1) := by decide +kernel
theorem dL_law_701 : decode cL_law 701 = .ok (.iadd, 1) := by decide +kernel
theorem dL_law_702 : decode cL_law 702 = .ok (.iaload, 1) := by decide +kernel
theorem dL_law_703 : decode cL_law 703 = .ok (.invokevirtual 79, 3) := by decide +kernel
theorem dL_law_706 : decode cL_law 706 = .ok (.lcmp, 1) := by decide +kernel
theorem dL_law_707 : decode cL_law 707 = .ok (.ifCond .eq 461, 3) := by decide +kernel
theorem dL_law_710 : decode cL_law 710 = .ok (.iconst 0, 1) := by decide +kernel
theorem dL_law_711 : decode cL_law 711 = .ok (.ireturn, 1) := by decide +kernel
theorem dL_law_712 : decode cL_law 712 = .ok (.aload_n 1, 1) := by decide +kernel
theorem dL_law_713 : decode cL_law 713 = .ok (.aload_n 0, 1) := by decide +kernel
theorem dL_law_714 : decode cL_law 714 = .ok (.iload_n 3, 1) := by decide +kernel
theorem dL_law_715 : decode cL_law 715 = .ok (.iconst 1, 1) := by decide +kernel
theorem dL_law_716 : decode cL_law 716 = .ok (.iadd, 1) := by decide +kernel
theorem dL_law_717 : decode cL_law 717 = .ok (.iaload, 1) := by decide +kernel
theorem dL_law_718 : decode cL_law 718 = .ok (.aload_n 0, 1) := by decide +kernel
theorem dL_law_719 : decode cL_law 719 = .ok (.iload_n 3, 1) := by decide +kernel
theorem dL_law_720 : decode cL_law 720 = .ok (.iconst 2, 1) := by decide +kernel
theorem dL_law_721 : decode cL_law 721 = .ok (.iadd, 1) := by decide +kernel
theorem dL_law_722 : decode cL_law 722 = .ok (.iaload, 1) := by decide +kernel
theorem dL_law_723 : decode cL_law 723 = .ok (.invokevirtual 80, 3) := by decide +kernel
theorem dL_law_726 : decode cL_law 726 = .ok (.aload_n 2, 1) := by decide +kernel
theorem dL_law_727 : decode cL_law 727 = .ok (.aload_n 0, 1) := by decide +kernel
theorem dL_law_728 : decode cL_law 728 = .ok (.iload_n 3, 1) := by decide +kernel
theorem dL_law_729 : decode cL_law 729 = .ok (.iconst 1, 1) := by decide +kernel
theorem dL_law_730 : decode cL_law 730 = .ok (.iadd, 1) := by decide +kernel
theorem dL_law_731 : decode cL_law 731 = .ok (.iaload, 1) := by decide +kernel
theorem dL_law_732 : decode cL_law 732 = .ok (.aload_n 0, 1) := by decide +kernel
theorem dL_law_733 : decode cL_law 733 = .ok (.iload_n 3, 1) := by decide +kernel
theorem dL_law_734 : decode cL_law 734 = .ok (.iconst 2, 1) := by decide +kernel
theorem dL_law_735 : decode cL_law 735 = .ok (.iadd, 1) := by decide +kernel
theorem dL_law_736 : decode cL_law 736 = .ok (.iaload, 1) := by decide +kernel
theorem dL_law_737 : decode cL_law 737 = .ok (.invokevirtual 83, 3) := by decide +kernel
theorem dL_law_740 : decode cL_law 740 = .ok (.lcmp, 1) := by decide +kernel
theorem dL_law_741 : decode cL_law 741 = .ok (.ifCond .eq 427, 3) := by decide +kernel
theorem dL_law_744 : decode cL_law 744 = .ok (.iconst 0, 1) := by decide +kernel
theorem dL_law_745 : decode cL_law 745 = .ok (.ireturn, 1) := by decide +kernel
theorem dL_law_746 : decode cL_law 746 = .ok (.aload_n 1, 1) := by decide +kernel
theorem dL_law_747 : decode cL_law 747 = .ok (.aload_n 0, 1) := by decide +kernel
theorem dL_law_748 : decode cL_law 748 = .ok (.iload_n 3, 1) := by decide +kernel
theorem dL_law_749 : decode cL_law 749 = .ok (.iconst 1, 1) := by decide +kernel
theorem dL_law_750 : decode cL_law 750 = .ok (.iadd, 1) := by decide +kernel
theorem dL_law_751 : decode cL_law 751 = .ok (.iaload, 1) := by decide +kernel
theorem dL_law_752 : decode cL_law 752 = .ok (.aload_n 0, 1) := by decide +kernel
theorem dL_law_753 : decode cL_law 753 = .ok (.iload_n 3, 1) := by decide +kernel
theorem dL_law_754 : decode cL_law 754 = .ok (.iconst 2, 1) := by decide +kernel
theorem dL_law_755 : decode cL_law 755 = .ok (.iadd, 1) := by decide +kernel
theorem dL_law_756 : decode cL_law 756 = .ok (.iaload, 1) := by decide +kernel
theorem dL_law_757 : decode cL_law 757 = .ok (.invokevirtual 84, 3) := by decide +kernel
theorem dL_law_760 : decode cL_law 760 = .ok (.aload_n 2, 1) := by decide +kernel
theorem dL_law_761 : decode cL_law 761 = .ok (.aload_n 0, 1) := by decide +kernel
theorem dL_law_762 : decode cL_law 762 = .ok (.iload_n 3, 1) := by decide +kernel
theorem dL_law_763 : decode cL_law 763 = .ok (.iconst 1, 1) := by decide +kernel
theorem dL_law_764 : decode cL_law 764 = .ok (.iadd, 1) := by decide +kernel
theorem dL_law_765 : decode cL_law 765 = .ok (.iaload, 1) := by decide +kernel
theorem dL_law_766 : decode cL_law 766 = .ok (.aload_n 0, 1) := by decide +kernel
theorem dL_law_767 : decode cL_law 767 = .ok (.iload_n 3, 1) := by decide +kernel
theorem dL_law_768 : decode cL_law 768 = .ok (.iconst 2, 1) := by decide +kernel
theorem dL_law_769 : decode cL_law 769 = .ok (.iadd, 1) := by decide +kernel
theorem dL_law_770 : decode cL_law 770 = .ok (.iaload, 1) := by decide +kernel
theorem dL_law_771 : decode cL_law 771 = .ok (.invokevirtual 87, 3) := by decide +kernel
theorem dL_law_774 : decode cL_law 774 = .ok (.lcmp, 1) := by decide +kernel
theorem dL_law_775 : decode cL_law 775 = .ok (.ifCond .eq 393, 3) := by decide +kernel
theorem dL_law_778 : decode cL_law 778 = .ok (.iconst 0, 1) := by decide +kernel
theorem dL_law_779 : decode cL_law 779 = .ok (.ireturn, 1) := by decide +kernel
theorem dL_law_780 : decode cL_law 780 = .ok (.aload_n 1, 1) := by decide +kernel
theorem dL_law_781 : decode cL_law 781 = .ok (.invokevirtual 88, 3) := by decide +kernel
theorem dL_law_784 : decode cL_law 784 = .ok (.aload_n 2, 1) := by decide +kernel
theorem dL_law_785 : decode cL_law 785 = .ok (.invokevirtual 92, 3) := by decide +kernel
theorem dL_law_788 : decode cL_law 788 = .ok (.lcmp, 1) := by decide +kernel
theorem dL_law_789 : decode cL_law 789 = .ok (.ifCond .eq 379, 3) := by decide +kernel
theorem dL_law_792 : decode cL_law 792 = .ok (.iconst 0, 1) := by decide +kernel
theorem dL_law_793 : decode cL_law 793 = .ok (.ireturn, 1) := by decide +kernel
theorem dL_law_794 : decode cL_law 794 = .ok (.aload_n 1, 1) := by decide +kernel
theorem dL_law_795 : decode cL_law 795 = .ok (.aload_n 0, 1) := by decide +kernel
theorem dL_law_796 : decode cL_law 796 = .ok (.iload_n 3, 1) := by decide +kernel
theorem dL_law_797 : decode cL_law 797 = .ok (.iconst 1, 1) := by decide +kernel
theorem dL_law_798 : decode cL_law 798 = .ok (.iadd, 1) := by decide +kernel
theorem dL_law_799 : decode cL_law 799 = .ok (.iaload, 1) := by decide +kernel
theorem dL_law_800 : decode cL_law 800 = .ok (.invokevirtual 93, 3) := by decide +kernel
theorem dL_law_803 : decode cL_law 803 = .ok (.aload_n 2, 1) := by decide +kernel
theorem dL_law_804 : decode cL_law 804 = .ok (.aload_n 0, 1) := by decide +kernel
theorem dL_law_805 : decode cL_law 805 = .ok (.iload_n 3, 1) := by decide +kernel
theorem dL_law_806 : decode cL_law 806 = .ok (.iconst 1, 1) := by decide +kernel
theorem dL_law_807 : decode cL_law 807 = .ok (.iadd, 1) := by decide +kernel
theorem dL_law_808 : decode cL_law 808 = .ok (.iaload, 1) := by decide +kernel
theorem dL_law_809 : decode cL_law 809 = .ok (.invokevirtual 96, 3) := by decide +kernel
theorem dL_law_812 : decode cL_law 812 = .ok (.lcmp, 1) := by decide +kernel
theorem dL_law_813 : decode cL_law 813 = .ok (.ifCond .eq 355, 3) := by decide +kernel
theorem dL_law_816 : decode cL_law 816 = .ok (.iconst 0, 1) := by decide +kernel
theorem dL_law_817 : decode cL_law 817 = .ok (.ireturn, 1) := by decide +kernel
theorem dL_law_818 : decode cL_law 818 = .ok (.aload_n 1, 1) := by decide +kernel
theorem dL_law_819 : decode cL_law 819 = .ok (.aload_n 0, 1) := by decide +kernel
theorem dL_law_820 : decode cL_law 820 = .ok (.iload_n 3, 1) := by decide +kernel
theorem dL_law_821 : decode cL_law 821 = .ok (.iconst 1, 1) := by decide +kernel
theorem dL_law_822 : decode cL_law 822 = .ok (.iadd, 1) := by decide +kernel
theorem dL_law_823 : decode cL_law 823 = .ok (.iaload, 1) := by decide +kernel
theorem dL_law_824 : decode cL_law 824 = .ok (.aload_n 0, 1) := by decide +kernel
theorem dL_law_825 : decode cL_law 825 = .ok (.iload_n 3, 1) := by decide +kernel
theorem dL_law_826 : decode cL_law 826 = .ok (.iconst 2, 1) := by decide +kernel
theorem dL_law_827 : decode cL_law 827 = .ok (.iadd, 1) := by decide +kernel
theorem dL_law_828 : decode cL_law 828 = .ok (.iaload, 1) := by decide +kernel
theorem dL_law_829 : decode cL_law 829 = .ok (.aload_n 0, 1) := by decide +kernel
theorem dL_law_830 : decode cL_law 830 = .ok (.iload_n 3, 1) := by decide +kernel
theorem dL_law_831 : decode cL_law 831 = .ok (.iconst 3, 1) := by decide +kernel
theorem dL_law_832 : decode cL_law 832 = .ok (.iadd, 1) := by decide +kernel
theorem dL_law_833 : decode cL_law 833 = .ok (.iaload, 1) := by decide +kernel
theorem dL_law_834 : decode cL_law 834 = .ok (.invokevirtual 97, 3) := by decide +kernel
theorem dL_law_837 : decode cL_law 837 = .ok (.aload_n 2, 1) := by decide +kernel
theorem dL_law_838 : decode cL_law 838 = .ok (.aload_n 0, 1) := by decide +kernel
theorem dL_law_839 : decode cL_law 839 = .ok (.iload_n 3, 1) := by decide +kernel
theorem dL_law_840 : decode cL_law 840 = .ok (.iconst 1, 1) := by decide +kernel
theorem dL_law_841 : decode cL_law 841 = .ok (.iadd, 1) := by decide +kernel
theorem dL_law_842 : decode cL_law 842 = .ok (.iaload, 1) := by decide +kernel
theorem dL_law_843 : decode cL_law 843 = .ok (.aload_n 0, 1) := by decide +kernel
theorem dL_law_844 : decode cL_law 844 = .ok (.iload_n 3, 1) := by decide +kernel
theorem dL_law_845 : decode cL_law 845 = .ok (.iconst 2, 1) := by decide +kernel
theorem dL_law_846 : decode cL_law 846 = .ok (.iadd, 1) := by decide +kernel
theorem dL_law_847 : decode cL_law 847 = .ok (.iaload, 1) := by decide +kernel
theorem dL_law_848 : decode cL_law 848 = .ok (.aload_n 0, 1) := by decide +kernel
theorem dL_law_849 : decode cL_law 849 = .ok (.iload_n 3, 1) := by decide +kernel
theorem dL_law_850 : decode cL_law 850 = .ok (.iconst 3, 1) := by decide +kernel
theorem dL_law_851 : decode cL_law 851 = .ok (.iadd, 1) := by decide +kernel
theorem dL_law_852 : decode cL_law 852 = .ok (.iaload, 1) := by decide +kernel
theorem dL_law_853 : decode cL_law 853 = .ok (.invokevirtual 100, 3) := by decide +kernel
theorem dL_law_856 : decode cL_law 856 = .ok (.lcmp, 1) := by decide +kernel
theorem dL_law_857 : decode cL_law 857 = .ok (.ifCond .eq 311, 3) := by decide +kernel
theorem dL_law_860 : decode cL_law 860 = .ok (.iconst 0, 1) := by decide +kernel
theorem dL_law_861 : decode cL_law 861 = .ok (.ireturn, 1) := by decide +kernel
theorem dL_law_862 : decode cL_law 862 = .ok (.aload_n 1, 1) := by decide +kernel
theorem dL_law_863 : decode cL_law 863 = .ok (.aload_n 0, 1) := by decide +kernel
theorem dL_law_864 : decode cL_law 864 = .ok (.iload_n 3, 1) := by decide +kernel
theorem dL_law_865 : decode cL_law 865 = .ok (.iconst 1, 1) := by decide +kernel
theorem dL_law_866 : decode cL_law 866 = .ok (.iadd, 1) := by decide +kernel
theorem dL_law_867 : decode cL_law 867 = .ok (.iaload, 1) := by decide +kernel
theorem dL_law_868 : decode cL_law 868 = .ok (.invokevirtual 101, 3) := by decide +kernel
theorem dL_law_871 : decode cL_law 871 = .ok (.aload_n 2, 1) := by decide +kernel
theorem dL_law_872 : decode cL_law 872 = .ok (.aload_n 0, 1) := by decide +kernel
theorem dL_law_873 : decode cL_law 873 = .ok (.iload_n 3, 1) := by decide +kernel
theorem dL_law_874 : decode cL_law 874 = .ok (.iconst 1, 1) := by decide +kernel
theorem dL_law_875 : decode cL_law 875 = .ok (.iadd, 1) := by decide +kernel
theorem dL_law_876 : decode cL_law 876 = .ok (.iaload, 1) := by decide +kernel
theorem dL_law_877 : decode cL_law 877 = .ok (.invokevirtual 104, 3) := by decide +kernel
theorem dL_law_880 : decode cL_law 880 = .ok (.lcmp, 1) := by decide +kernel
theorem dL_law_881 : decode cL_law 881 = .ok (.ifCond .eq 287, 3) := by decide +kernel
theorem dL_law_884 : decode cL_law 884 = .ok (.iconst 0, 1) := by decide +kernel
theorem dL_law_885 : decode cL_law 885 = .ok (.ireturn, 1) := by decide +kernel
theorem dL_law_886 : decode cL_law 886 = .ok (.aload_n 1, 1) := by decide +kernel
theorem dL_law_887 : decode cL_law 887 = .ok (.aload_n 0, 1) := by decide +kernel
theorem dL_law_888 : decode cL_law 888 = .ok (.iload_n 3, 1) := by decide +kernel
theorem dL_law_889 : decode cL_law 889 = .ok (.iconst 1, 1) := by decide +kernel
theorem dL_law_890 : decode cL_law 890 = .ok (.iadd, 1) := by decide +kernel
theorem dL_law_891 : decode cL_law 891 = .ok (.iaload, 1) := by decide +kernel
theorem dL_law_892 : decode cL_law 892 = .ok (.aload_n 0, 1) := by decide +kernel
theorem dL_law_893 : decode cL_law 893 = .ok (.iload_n 3, 1) := by decide +kernel
theorem dL_law_894 : decode cL_law 894 = .ok (.iconst 2, 1) := by decide +kernel
theorem dL_law_895 : decode cL_law 895 = .ok (.iadd, 1) := by decide +kernel
theorem dL_law_896 : decode cL_law 896 = .ok (.iaload, 1) := by decide +kernel
theorem dL_law_897 : decode cL_law 897 = .ok (.invokevirtual 105, 3) := by decide +kernel
theorem dL_law_900 : decode cL_law 900 = .ok (.aload_n 2, 1) := by decide +kernel
theorem dL_law_901 : decode cL_law 901 = .ok (.aload_n 0, 1) := by decide +kernel
theorem dL_law_902 : decode cL_law 902 = .ok (.iload_n 3, 1) := by decide +kernel
theorem dL_law_903 : decode cL_law 903 = .ok (.iconst 1, 1) := by decide +kernel
theorem dL_law_904 : decode cL_law 904 = .ok (.iadd, 1) := by decide +kernel
theorem dL_law_905 : decode cL_law 905 = .ok (.iaload, 1) := by decide +kernel
theorem dL_law_906 : decode cL_law 906 = .ok (.aload_n 0, 1) := by decide +kernel
theorem dL_law_907 : decode cL_law 907 = .ok (.iload_n 3, 1) := by decide +kernel
theorem dL_law_908 : decode cL_law 908 = .ok (.iconst 2, 1) := by decide +kernel
theorem dL_law_909 : decode cL_law 909 = .ok (.iadd, 1) := by decide +kernel
theorem dL_law_910 : decode cL_law 910 = .ok (.iaload, 1) := by decide +kernel
theorem dL_law_911 : decode cL_law 911 = .ok (.invokevirtual 108, 3) := by decide +kernel
theorem dL_law_914 : decode cL_law 914 = .ok (.lcmp, 1) := by decide +kernel
theorem dL_law_915 : decode cL_law 915 = .ok (.ifCond .eq 253, 3) := by decide +kernel
theorem dL_law_918 : decode cL_law 918 = .ok (.iconst 0, 1) := by decide +kernel
theorem dL_law_919 : decode cL_law 919 = .ok (.ireturn, 1) := by decide +kernel
theorem dL_law_920 : decode cL_law 920 = .ok (.aload_n 1, 1) := by decide +kernel
theorem dL_law_921 : decode cL_law 921 = .ok (.aload_n 0, 1) := by decide +kernel
theorem dL_law_922 : decode cL_law 922 = .ok (.iload_n 3, 1) := by decide +kernel
theorem dL_law_923 : decode cL_law 923 = .ok (.iconst 1, 1) := by decide +kernel
theorem dL_law_924 : decode cL_law 924 = .ok (.iadd, 1) := by decide +kernel
theorem dL_law_925 : decode cL_law 925 = .ok (.iaload, 1) := by decide +kernel
theorem dL_law_926 : decode cL_law 926 = .ok (.aload_n 0, 1) := by decide +kernel
theorem dL_law_927 : decode cL_law 927 = .ok (.iload_n 3, 1) := by decide +kernel
theorem dL_law_928 : decode cL_law 928 = .ok (.iconst 2, 1) := by decide +kernel
theorem dL_law_929 : decode cL_law 929 = .ok (.iadd, 1) := by decide +kernel
theorem dL_law_930 : decode cL_law 930 = .ok (.iaload, 1) := by decide +kernel
theorem dL_law_931 : decode cL_law 931 = .ok (.invokevirtual 109, 3) := by decide +kernel
theorem dL_law_934 : decode cL_law 934 = .ok (.aload_n 2, 1) := by decide +kernel
theorem dL_law_935 : decode cL_law 935 = .ok (.aload_n 0, 1) := by decide +kernel
theorem dL_law_936 : decode cL_law 936 = .ok (.iload_n 3, 1) := by decide +kernel
theorem dL_law_937 : decode cL_law 937 = .ok (.iconst 1, 1) := by decide +kernel
theorem dL_law_938 : decode cL_law 938 = .ok (.iadd, 1) := by decide +kernel
theorem dL_law_939 : decode cL_law 939 = .ok (.iaload, 1) := by decide +kernel
theorem dL_law_940 : decode cL_law 940 = .ok (.aload_n 0, 1) := by decide +kernel
theorem dL_law_941 : decode cL_law 941 = .ok (.iload_n 3, 1) := by decide +kernel
theorem dL_law_942 : decode cL_law 942 = .ok (.iconst 2, 1) := by decide +kernel
theorem dL_law_943 : decode cL_law 943 = .ok (.iadd, 1) := by decide +kernel
theorem dL_law_944 : decode cL_law 944 = .ok (.iaload, 1) := by decide +kernel
theorem dL_law_945 : decode cL_law 945 = .ok (.invokevirtual 112, 3) := by decide +kernel
theorem dL_law_948 : decode cL_law 948 = .ok (.lcmp, 1) := by decide +kernel
theorem dL_law_949 : decode cL_law 949 = .ok (.ifCond .eq 219, 3) := by decide +kernel
theorem dL_law_952 : decode cL_law 952 = .ok (.iconst 0, 1) := by decide +kernel
theorem dL_law_953 : decode cL_law 953 = .ok (.ireturn, 1) := by decide +kernel
theorem dL_law_954 : decode cL_law 954 = .ok (.aload_n 1, 1) := by decide +kernel
theorem dL_law_955 : decode cL_law 955 = .ok (.aload_n 0, 1) := by decide +kernel
theorem dL_law_956 : decode cL_law 956 = .ok (.iload_n 3, 1) := by decide +kernel
theorem dL_law_957 : decode cL_law 957 = .ok (.iconst 1, 1) := by decide +kernel
theorem dL_law_958 : decode cL_law 958 = .ok (.iadd, 1) := by decide +kernel
theorem dL_law_959 : decode cL_law 959 = .ok (.iaload, 1) := by decide +kernel
theorem dL_law_960 : decode cL_law 960 = .ok (.invokevirtual 113, 3) := by decide +kernel
theorem dL_law_963 : decode cL_law 963 = .ok (.aload_n 2, 1) := by decide +kernel
theorem dL_law_964 : decode cL_law 964 = .ok (.aload_n 0, 1) := by decide +kernel
theorem dL_law_965 : decode cL_law 965 = .ok (.iload_n 3, 1) := by decide +kernel
theorem dL_law_966 : decode cL_law 966 = .ok (.iconst 1, 1) := by decide +kernel
theorem dL_law_967 : decode cL_law 967 = .ok (.iadd, 1) := by decide +kernel
theorem dL_law_968 : decode cL_law 968 = .ok (.iaload, 1) := by decide +kernel
theorem dL_law_969 : decode cL_law 969 = .ok (.invokevirtual 116, 3) := by decide +kernel
theorem dL_law_972 : decode cL_law 972 = .ok (.lcmp, 1) := by decide +kernel
theorem dL_law_973 : decode cL_law 973 = .ok (.ifCond .eq 195, 3) := by decide +kernel
theorem dL_law_976 : decode cL_law 976 = .ok (.iconst 0, 1) := by decide +kernel
theorem dL_law_977 : decode cL_law 977 = .ok (.ireturn, 1) := by decide +kernel
theorem dL_law_978 : decode cL_law 978 = .ok (.aload_n 1, 1) := by decide +kernel
theorem dL_law_979 : decode cL_law 979 = .ok (.aload_n 0, 1) := by decide +kernel
theorem dL_law_980 : decode cL_law 980 = .ok (.iload_n 3, 1) := by decide +kernel
theorem dL_law_981 : decode cL_law 981 = .ok (.iconst 1, 1) := by decide +kernel
theorem dL_law_982 : decode cL_law 982 = .ok (.iadd, 1) := by decide +kernel
theorem dL_law_983 : decode cL_law 983 = .ok (.iaload, 1) := by decide +kernel
theorem dL_law_984 : decode cL_law 984 = .ok (.aload_n 0, 1) := by decide +kernel
theorem dL_law_985 : decode cL_law 985 = .ok (.iload_n 3, 1) := by decide +kernel
theorem dL_law_986 : decode cL_law 986 = .ok (.iconst 2, 1) := by decide +kernel
theorem dL_law_987 : decode cL_law 987 = .ok (.iadd, 1) := by decide +kernel
theorem dL_law_988 : decode cL_law 988 = .ok (.iaload, 1) := by decide +kernel
theorem dL_law_989 : decode cL_law 989 = .ok (.invokevirtual 117, 3) := by decide +kernel
theorem dL_law_992 : decode cL_law 992 = .ok (.aload_n 2, 1) := by decide +kernel
theorem dL_law_993 : decode cL_law 993 = .ok (.aload_n 0, 1) := by decide +kernel
theorem dL_law_994 : decode cL_law 994 = .ok (.iload_n 3, 1) := by decide +kernel
theorem dL_law_995 : decode cL_law 995 = .ok (.iconst 1, 1) := by decide +kernel
theorem dL_law_996 : decode cL_law 996 = .ok (.iadd, 1) := by decide +kernel
theorem dL_law_997 : decode cL_law 997 = .ok (.iaload, 1) := by decide +kernel
theorem dL_law_998 : decode cL_law 998 = .ok (.aload_n 0, 1) := by decide +kernel
theorem dL_law_999 : decode cL_law 999 = .ok (.iload_n 3, 1) := by decide +kernel
theorem dL_law_1000 : decode cL_law 1000 = .ok (.iconst 2, 1) := by decide +kernel
theorem dL_law_1001 : decode cL_law 1001 = .ok (.iadd, 1) := by decide +kernel
theorem dL_law_1002 : decode cL_law 1002 = .ok (.iaload, 1) := by decide +kernel
theorem dL_law_1003 : decode cL_law 1003 = .ok (.invokevirtual 120, 3) := by decide +kernel
theorem dL_law_1006 : decode cL_law 1006 = .ok (.lcmp, 1) := by decide +kernel
theorem dL_law_1007 : decode cL_law 1007 = .ok (.ifCond .eq 161, 3) := by decide +kernel
theorem dL_law_1010 : decode cL_law 1010 = .ok (.iconst 0, 1) := by decide +kernel
theorem dL_law_1011 : decode cL_law 1011 = .ok (.ireturn, 1) := by decide +kernel
theorem dL_law_1012 : decode cL_law 1012 = .ok (.aload_n 1, 1) := by decide +kernel
theorem dL_law_1013 : decode cL_law 1013 = .ok (.aload_n 0, 1) := by decide +kernel
theorem dL_law_1014 : decode cL_law 1014 = .ok (.iload_n 3, 1) := by decide +kernel
theorem dL_law_1015 : decode cL_law 1015 = .ok (.iconst 1, 1) := by decide +kernel
theorem dL_law_1016 : decode cL_law 1016 = .ok (.iadd, 1) := by decide +kernel
theorem dL_law_1017 : decode cL_law 1017 = .ok (.iaload, 1) := by decide +kernel
theorem dL_law_1018 : decode cL_law 1018 = .ok (.aload_n 0, 1) := by decide +kernel
theorem dL_law_1019 : decode cL_law 1019 = .ok (.iload_n 3, 1) := by decide +kernel
theorem dL_law_1020 : decode cL_law 1020 = .ok (.iconst 2, 1) := by decide +kernel
theorem dL_law_1021 : decode cL_law 1021 = .ok (.iadd, 1) := by decide +kernel
theorem dL_law_1022 : decode cL_law 1022 = .ok (.iaload, 1) := by decide +kernel
theorem dL_law_1023 : decode cL_law 1023 = .ok (.aload_n 0, 1) := by decide +kernel
theorem dL_law_1024 : decode cL_law 1024 = .ok (.iload_n 3, 1) := by decide +kernel
theorem dL_law_1025 : decode cL_law 1025 = .ok (.iconst 3, 1) := by decide +kernel
theorem dL_law_1026 : decode cL_law 1026 = .ok (.iadd, 1) := by decide +kernel
theorem dL_law_1027 : decode cL_law 1027 = .ok (.iaload, 1) := by decide +kernel
theorem dL_law_1028 : decode cL_law 1028 = .ok (.invokevirtual 121, 3) := by decide +kernel
theorem dL_law_1031 : decode cL_law 1031 = .ok (.aload_n 2, 1) := by decide +kernel
theorem dL_law_1032 : decode cL_law 1032 = .ok (.aload_n 0, 1) := by decide +kernel
theorem dL_law_1033 : decode cL_law 1033 = .ok (.iload_n 3, 1) := by decide +kernel
theorem dL_law_1034 : decode cL_law 1034 = .ok (.iconst 1, 1) := by decide +kernel
theorem dL_law_1035 : decode cL_law 1035 = .ok (.iadd, 1) := by decide +kernel
theorem dL_law_1036 : decode cL_law 1036 = .ok (.iaload, 1) := by decide +kernel
theorem dL_law_1037 : decode cL_law 1037 = .ok (.aload_n 0, 1) := by decide +kernel
theorem dL_law_1038 : decode cL_law 1038 = .ok (.iload_n 3, 1) := by decide +kernel
theorem dL_law_1039 : decode cL_law 1039 = .ok (.iconst 2, 1) := by decide +kernel
theorem dL_law_1040 : decode cL_law 1040 = .ok (.iadd, 1) := by decide +kernel
theorem dL_law_1041 : decode cL_law 1041 = .ok (.iaload, 1) := by decide +kernel
theorem dL_law_1042 : decode cL_law 1042 = .ok (.aload_n 0, 1) := by decide +kernel
theorem dL_law_1043 : decode cL_law 1043 = .ok (.iload_n 3, 1) := by decide +kernel
theorem dL_law_1044 : decode cL_law 1044 = .ok (.iconst 3, 1) := by decide +kernel
theorem dL_law_1045 : decode cL_law 1045 = .ok (.iadd, 1) := by decide +kernel
theorem dL_law_1046 : decode cL_law 1046 = .ok (.iaload, 1) := by decide +kernel
theorem dL_law_1047 : decode cL_law 1047 = .ok (.invokevirtual 124, 3) := by decide +kernel
theorem dL_law_1050 : decode cL_law 1050 = .ok (.lcmp, 1) := by decide +kernel
theorem dL_law_1051 : decode cL_law 1051 = .ok (.ifCond .eq 117, 3) := by decide +kernel
theorem dL_law_1054 : decode cL_law 1054 = .ok (.iconst 0, 1) := by decide +kernel
theorem dL_law_1055 : decode cL_law 1055 = .ok (.ireturn, 1) := by decide +kernel
theorem dL_law_1056 : decode cL_law 1056 = .ok (.aload_n 1, 1) := by decide +kernel
theorem dL_law_1057 : decode cL_law 1057 = .ok (.aload_n 0, 1) := by decide +kernel
theorem dL_law_1058 : decode cL_law 1058 = .ok (.iload_n 3, 1) := by decide +kernel
theorem dL_law_1059 : decode cL_law 1059 = .ok (.iconst 1, 1) := by decide +kernel
theorem dL_law_1060 : decode cL_law 1060 = .ok (.iadd, 1) := by decide +kernel
theorem dL_law_1061 : decode cL_law 1061 = .ok (.iaload, 1) := by decide +kernel
theorem dL_law_1062 : decode cL_law 1062 = .ok (.aload_n 0, 1) := by decide +kernel
theorem dL_law_1063 : decode cL_law 1063 = .ok (.iload_n 3, 1) := by decide +kernel
theorem dL_law_1064 : decode cL_law 1064 = .ok (.iconst 2, 1) := by decide +kernel
theorem dL_law_1065 : decode cL_law 1065 = .ok (.iadd, 1) := by decide +kernel
theorem dL_law_1066 : decode cL_law 1066 = .ok (.iaload, 1) := by decide +kernel
theorem dL_law_1067 : decode cL_law 1067 = .ok (.aload_n 0, 1) := by decide +kernel
theorem dL_law_1068 : decode cL_law 1068 = .ok (.iload_n 3, 1) := by decide +kernel
theorem dL_law_1069 : decode cL_law 1069 = .ok (.iconst 3, 1) := by decide +kernel
theorem dL_law_1070 : decode cL_law 1070 = .ok (.iadd, 1) := by decide +kernel
theorem dL_law_1071 : decode cL_law 1071 = .ok (.iaload, 1) := by decide +kernel
theorem dL_law_1072 : decode cL_law 1072 = .ok (.aload_n 0, 1) := by decide +kernel
theorem dL_law_1073 : decode cL_law 1073 = .ok (.iload_n 3, 1) := by decide +kernel
theorem dL_law_1074 : decode cL_law 1074 = .ok (.iconst 4, 1) := by decide +kernel
theorem dL_law_1075 : decode cL_law 1075 = .ok (.iadd, 1) := by decide +kernel
theorem dL_law_1076 : decode cL_law 1076 = .ok (.iaload, 1) := by decide +kernel
theorem dL_law_1077 : decode cL_law 1077 = .ok (.aload_n 0, 1) := by decide +kernel
theorem dL_law_1078 : decode cL_law 1078 = .ok (.iload_n 3, 1) := by decide +kernel
theorem dL_law_1079 : decode cL_law 1079 = .ok (.iconst 5, 1) := by decide +kernel
theorem dL_law_1080 : decode cL_law 1080 = .ok (.iadd, 1) := by decide +kernel
theorem dL_law_1081 : decode cL_law 1081 = .ok (.iaload, 1) := by decide +kernel
theorem dL_law_1082 : decode cL_law 1082 = .ok (.invokevirtual 125, 3) := by decide +kernel
theorem dL_law_1085 : decode cL_law 1085 = .ok (.aload_n 2, 1) := by decide +kernel
theorem dL_law_1086 : decode cL_law 1086 = .ok (.aload_n 0, 1) := by decide +kernel
theorem dL_law_1087 : decode cL_law 1087 = .ok (.iload_n 3, 1) := by decide +kernel
theorem dL_law_1088 : decode cL_law 1088 = .ok (.iconst 1, 1) := by decide +kernel
theorem dL_law_1089 : decode cL_law 1089 = .ok (.iadd, 1) := by decide +kernel
theorem dL_law_1090 : decode cL_law 1090 = .ok (.iaload, 1) := by decide +kernel
theorem dL_law_1091 : decode cL_law 1091 = .ok (.aload_n 0, 1) := by decide +kernel
theorem dL_law_1092 : decode cL_law 1092 = .ok (.iload_n 3, 1) := by decide +kernel
theorem dL_law_1093 : decode cL_law 1093 = .ok (.iconst 2, 1) := by decide +kernel
theorem dL_law_1094 : decode cL_law 1094 = .ok (.iadd, 1) := by decide +kernel
theorem dL_law_1095 : decode cL_law 1095 = .ok (.iaload, 1) := by decide +kernel
theorem dL_law_1096 : decode cL_law 1096 = .ok (.aload_n 0, 1) := by decide +kernel
theorem dL_law_1097 : decode cL_law 1097 = .ok (.iload_n 3, 1) := by decide +kernel
theorem dL_law_1098 : decode cL_law 1098 = .ok (.iconst 3, 1) := by decide +kernel
theorem dL_law_1099 : decode cL_law 1099 = .ok (.iadd, 1) := by decide +kernel
theorem dL_law_1100 : decode cL_law 1100 = .ok (.iaload, 1) := by decide +kernel
theorem dL_law_1101 : decode cL_law 1101 = .ok (.aload_n 0, 1) := by decide +kernel
theorem dL_law_1102 : decode cL_law 1102 = .ok (.iload_n 3, 1) := by decide +kernel
theorem dL_law_1103 : decode cL_law 1103 = .ok (.iconst 4, 1) := by decide +kernel
theorem dL_law_1104 : decode cL_law 1104 = .ok (.iadd, 1) := by decide +kernel
theorem dL_law_1105 : decode cL_law 1105 = .ok (.iaload, 1) := by decide +kernel
theorem dL_law_1106 : decode cL_law 1106 = .ok (.aload_n 0, 1) := by decide +kernel
theorem dL_law_1107 : decode cL_law 1107 = .ok (.iload_n 3, 1) := by decide +kernel
theorem dL_law_1108 : decode cL_law 1108 = .ok (.iconst 5, 1) := by decide +kernel
theorem dL_law_1109 : decode cL_law 1109 = .ok (.iadd, 1) := by decide +kernel
theorem dL_law_1110 : decode cL_law 1110 = .ok (.iaload, 1) := by decide +kernel
theorem dL_law_1111 : decode cL_law 1111 = .ok (.invokevirtual 129, 3) := by decide +kernel
theorem dL_law_1114 : decode cL_law 1114 = .ok (.lcmp, 1) := by decide +kernel
theorem dL_law_1115 : decode cL_law 1115 = .ok (.ifCond .eq 53, 3) := by decide +kernel
theorem dL_law_1118 : decode cL_law 1118 = .ok (.iconst 0, 1) := by decide +kernel
theorem dL_law_1119 : decode cL_law 1119 = .ok (.ireturn, 1) := by decide +kernel
theorem dL_law_1120 : decode cL_law 1120 = .ok (.aload_n 1, 1) := by decide +kernel
theorem dL_law_1121 : decode cL_law 1121 = .ok (.aload_n 0, 1) := by decide +kernel
theorem dL_law_1122 : decode cL_law 1122 = .ok (.iload_n 3, 1) := by decide +kernel
theorem dL_law_1123 : decode cL_law 1123 = .ok (.iconst 1, 1) := by decide +kernel
theorem dL_law_1124 : decode cL_law 1124 = .ok (.iadd, 1) := by decide +kernel
theorem dL_law_1125 : decode cL_law 1125 = .ok (.iaload, 1) := by decide +kernel
theorem dL_law_1126 : decode cL_law 1126 = .ok (.invokevirtual 130, 3) := by decide +kernel
theorem dL_law_1129 : decode cL_law 1129 = .ok (.aload_n 2, 1) := by decide +kernel
theorem dL_law_1130 : decode cL_law 1130 = .ok (.aload_n 0, 1) := by decide +kernel
theorem dL_law_1131 : decode cL_law 1131 = .ok (.iload_n 3, 1) := by decide +kernel
theorem dL_law_1132 : decode cL_law 1132 = .ok (.iconst 1, 1) := by decide +kernel
theorem dL_law_1133 : decode cL_law 1133 = .ok (.iadd, 1) := by decide +kernel
theorem dL_law_1134 : decode cL_law 1134 = .ok (.iaload, 1) := by decide +kernel
theorem dL_law_1135 : decode cL_law 1135 = .ok (.invokevirtual 133, 3) := by decide +kernel
theorem dL_law_1138 : decode cL_law 1138 = .ok (.lcmp, 1) := by decide +kernel
theorem dL_law_1139 : decode cL_law 1139 = .ok (.ifCond .eq 29, 3) := by decide +kernel
theorem dL_law_1142 : decode cL_law 1142 = .ok (.iconst 0, 1) := by decide +kernel
theorem dL_law_1143 : decode cL_law 1143 = .ok (.ireturn, 1) := by decide +kernel
theorem dL_law_1144 : decode cL_law 1144 = .ok (.aload_n 1, 1) := by decide +kernel
theorem dL_law_1145 : decode cL_law 1145 = .ok (.aload_n 0, 1) := by decide +kernel
theorem dL_law_1146 : decode cL_law 1146 = .ok (.iload_n 3, 1) := by decide +kernel
theorem dL_law_1147 : decode cL_law 1147 = .ok (.iconst 1, 1) := by decide +kernel
theorem dL_law_1148 : decode cL_law 1148 = .ok (.iadd, 1) := by decide +kernel
theorem dL_law_1149 : decode cL_law 1149 = .ok (.iaload, 1) := by decide +kernel
theorem dL_law_1150 : decode cL_law 1150 = .ok (.invokevirtual 134, 3) := by decide +kernel
theorem dL_law_1153 : decode cL_law 1153 = .ok (.aload_n 2, 1) := by decide +kernel
theorem dL_law_1154 : decode cL_law 1154 = .ok (.aload_n 0, 1) := by decide +kernel
theorem dL_law_1155 : decode cL_law 1155 = .ok (.iload_n 3, 1) := by decide +kernel
theorem dL_law_1156 : decode cL_law 1156 = .ok (.iconst 1, 1) := by decide +kernel
theorem dL_law_1157 : decode cL_law 1157 = .ok (.iadd, 1) := by decide +kernel
theorem dL_law_1158 : decode cL_law 1158 = .ok (.iaload, 1) := by decide +kernel
theorem dL_law_1159 : decode cL_law 1159 = .ok (.invokevirtual 137, 3) := by decide +kernel
theorem dL_law_1162 : decode cL_law 1162 = .ok (.lcmp, 1) := by decide +kernel
theorem dL_law_1163 : decode cL_law 1163 = .ok (.ifCond .eq 5, 3) := by decide +kernel
theorem dL_law_1166 : decode cL_law 1166 = .ok (.iconst 0, 1) := by decide +kernel
theorem dL_law_1167 : decode cL_law 1167 = .ok (.ireturn, 1) := by decide +kernel
theorem dL_law_1168 : decode cL_law 1168 = .ok (.iinc 3 6, 3) := by decide +kernel
theorem dL_law_1171 : decode cL_law 1171 = .ok (.goto (-1153), 3) := by decide +kernel
theorem dL_law_1174 : decode cL_law 1174 = .ok (.iconst 1, 1) := by decide +kernel
theorem dL_law_1175 : decode cL_law 1175 = .ok (.ireturn, 1) := by decide +kernel
end
section
/-! THE WORLD: 65 cells, each with its kind and size; what they hold is a function of cell and place into the integers; jX: the machine's judgement W at a frame of a method, for every context that holds this world -/
abbrev jMem : Type := Nat → Int → Int
abbrev jG : Type := Launch × (Nat → ClassId) × (Nat → Nat → Nat) × (Nat → Nat) × (Nat → ClassId) × (Nat → Nat)
abbrev jMD : Type := MethodName × ByteArray × Nat × Option FieldType
def jI (x : Int) : Int32 := Int32.ofInt x
def jL (x : Int) : Int64 := Int64.ofInt x
def jad (G : jG) (k : Nat) : Nat := G.2.2.2.1 k
def jcy (G : jG) (k : Nat) : ClassId := G.2.2.2.2.1 k
def jsa (G : jG) (k : Nat) : Nat := G.2.2.2.2.2 k
def jNC : Nat := 65
def jshL : List (Nat × Nat) := [(17, 8), (12, 9), (14, 4), (10, 1), (11, 7), (15, 5), (13, 4), (16, 2), (18, 31), (0, 5), (0, 12), (0, 12), (0, 12), (0, 12), (0, 12), (0, 120), (0, 18), (0, 3), (0, 10), (0, 10), (0, 10), (1, 49), (0, 12), (0, 12), (0, 6), (0, 3), (0, 3), (0, 10), (0, 10), (0, 10), (0, 10), (0, 10), (0, 3), (0, 60), (0, 60), (3, 60), (2, 24), (0, 2), (0, 3), (0, 18), (0, 12), (0, 12), (0, 12), (0, 12), (0, 12), (0, 10), (0, 10), (0, 10), (0, 120), (0, 5), (0, 60), (0, 60), (0, 60), (0, 2), (0, 24), (1, 49), (1, 49), (0, 12), (0, 12), (0, 6), (0, 3), (0, 10), (0, 10), (0, 10), (0, 12)]
def jsh (k : Nat) : Nat × Nat := jshL.getD k (99, 0)
def jrfL : List (List (Option Nat)) := [[some 1, some 2, some 3, some 4, some 5, some 6, some 7, some 9], [some 10, some 11, some 12, some 13, some 14, some 15, some 16, some 17, none], [some 18, some 19, some 20, none], [some 21], [some 22, some 23, some 24, some 25, some 26, some 27, none], [some 28, some 29, some 30, some 31, some 32], [some 33, some 34, some 35, none], [some 36, some 37], [some 38, some 39, none, some 40, some 41, some 42, some 43, some 44, none, some 45, some 46, some 47, some 48, some 49, none, some 50, some 51, some 52, some 53, some 54, some 55, some 56, some 57, some 58, some 59, some 60, none, some 61, some 62, some 63, some 64]]
def jrf (k j : Nat) : Option Nat := (jrfL.getD k []).getD j none
def jfv (G : jG) (M : jMem) (k j : Nat) : Value := match jrf k j with
  | some r => .ref (jad G r)
  | none => .int (jI (M k (j : Int)))
def jcel (G : jG) (M : jMem) (k : Nat) : va_E :=
  if (jsh k).1 = 0 then .inl (jcy G 0, (jsh k).2, .inl (fun j => jI (M k (j : Int))))
  else if (jsh k).1 = 1 then .inl (jcy G 1, (jsh k).2, .inr (.inl (fun j => jL (M k (j : Int)))))
  else if (jsh k).1 = 2 then .inl (jcy G 2, (jsh k).2, .inl (fun j => jI (M k (j : Int))))
  else if (jsh k).1 = 3 then .inl (jcy G 3, (jsh k).2, .inl (fun j => jI (M k (j : Int))))
  else .inr ((jsh k).1 - 10, (List.range (jsh k).2).map (jfv G M k))
def jwd (G : jG) (M : jMem) : va_W := (List.range jNC).map (fun k => (jad G k, jcel G M k))
abbrev jcls : List vw_C := [(RX0, TX0, 1), (RX1, TX1, 7), (RX2, TX2, 9), (RX3, TX3, 4), (RX4, TX4, 4), (RX5, TX5, 5), (RX6, TX6, 2), (RX7, TX7, 8), (RX8, TX8, 31)]
def jtys (G : jG) : List (ClassId × FieldType) := [(jcy G 0, .int), (jcy G 1, .long), (jcy G 2, .byte), (jcy G 3, .boolean)]
def jA (G : jG) : Nat → Prop := fun q => ∃ k, k < jNC ∧ q = jad G k
def jis (w : Cond) : Bool := match w with
  | .fieldLinkNest _ _ _ _ _ _ => true
  | .methodLinkNest _ _ _ _ => true
  | _ => false
def jgd : List Cond := lw_tbl.filter goodWord
def jns : List Cond := lw_tbl.filter jis
def jsv (t : Nat) (j : Int) : Int := (([[1, 2, 1, 3, 3], [1, 0, 0, 0, 0], [20, 200, 100, 100, 100]] : List (List Int)).getD t []).getD j.toNat 0
def jsn (t : Nat) : String := (["COUNTS_FOR", "RULE_LEAST", "RULE_MOST"] : List String).getD t ""
def jst (G : jG) (U : State) (H : Heap) : Prop := ∀ t, t < 3 → va_Z "CourtHouse" (jsn t) "[I" (.ref (jsa G t)) (jA G) U H ∧ va_T .int (jsa G t) 5 (fun j => .int (jI (jsv t (j : Int)))) (jA G) U H
def jE (G : jG) (U : State) (H : Heap) : Prop := va_K (G.2.1, G.2.2.1) jcls (jtys G) U ∧ (∀ w ∈ jns, va_Nw w U) ∧ jst G U H
def jW (G : jG) (M : jMem) (H : Heap) : Prop := va_P (G.2.1, G.2.2.1) jcls (jwd G M) H ∧ va_D (jA G) (jwd G M)
def jpr : Nat → List Value → List (Nat × Value)
  | _, [] => []
  | i, v :: vs => match v with
    | .null => jpr (i + 1) vs
    | u => (i, u) :: jpr (i + 1) vs
def jl (ls : Array Slot) (n : Nat) (l : List Value) : Prop := lv_has ls n (jpr 0 l)
def jC (G : jG) (y : jMD) (E : Array Value → State → Prop) (l : List Value) (M : jMem) (p : Program) (s : State) (m : MethodId) (args : Array Value) (meth : Method) (c : Code) (H : Heap) (locs : List Loc) (ls : Array Slot) : Prop :=
  p.tables.exec = Jvm.exec ∧ c.code = y.2.1 ∧ c.maxLocals = y.2.2.1 ∧ s.vm.findClass y.1.cls = some m.cls ∧ (∀ w ∈ jgd, w.before args s = true) ∧ meth.sig.returnType = y.2.2.2 ∧ meth.locks = false ∧ E args s ∧ jE G s s.heap ∧ va_S (jA G) s.heap H locs ∧ jW G M H ∧ jl ls y.2.2.1 l
/-- the judgement: at pc, with locals l, stack st and the world's contents M, the machine comes to Z -/
def jX (G : jG) (y : jMD) (R : Room) (cl sl : Nat) (E : Array Value → State → Prop) (Z : List Frame → Array Value → State → State → Prop) (pc : Nat) (l st : List Value) (M : jMem) : Prop :=
  ∀ p e s m args below meth c H locs ls, jC G y E l M p s m args meth c H locs ls → W p G.1 e R s m args below meth c H locs cl sl (Z below args s) (F0 m pc ls st)
def jQc (G : jG) (Q : Option Value → jMem → Prop) : Array Value → State → Outcome → State → Prop := fun _ st o t => ∃ (v : Option Value) (M : jMem), o = .returned v ∧ Q v M ∧ jW G M t.heap ∧ va_F (jA G) st t
def jZ (G : jG) (Q : Option Value → jMem → Prop) : List Frame → Array Value → State → State → Prop := fun below args s => MQ below (jQc G Q) args s 0 0 (jA G)
def jrm (d : Nat) : Room := { frames := d, cells := 0, slots := 0, locals := 40 * d }
def jno : Array Value → State → Prop := fun _ _ => True
abbrev jM (G : jG) (y : jMD) (d : Nat) (pc : Nat) (l st : List Value) (M : jMem) (Q : Option Value → jMem → Prop) : Prop := jX G y (jrm d) 0 0 jno (jZ G Q) pc l st M
def jpad (n : Nat) (args : List Value) : List Value := match n, args with
  | 0, _ => []
  | n + 1, [] => .null :: jpad n []
  | n + 1, v :: vs => match v with
    | .long z => (match n with
      | 0 => [.long z]
      | n + 1 => .long z :: .null :: jpad n vs)
    | u => u :: jpad n vs
/-- a method from its entry -/
def jN (G : jG) (y : jMD) (d : Nat) (args : List Value) (M : jMem) (Q : Option Value → jMem → Prop) : Prop := jM G y d 0 (jpad y.2.2.1 args) [] M Q
def jup (M : jMem) (k : Nat) (i v : Int) : jMem := fun a b => if a = k ∧ b = i then v else M a b
def jpush : Option Value → List Value → List Value
  | none, st => st
  | some v, st => v :: st

-- numbers
theorem jI_add (x y : Int) : jI x + jI y = jI (x + y) := (Int32.ofInt_add x y).symm
theorem jI_sub (x y : Int) : jI x - jI y = jI (x - y) := (Int32.ofInt_sub x y).symm
theorem jI_mul (x y : Int) : jI x * jI y = jI (x * y) := (Int32.ofInt_mul x y).symm
theorem jL_add (x y : Int) : jL x + jL y = jL (x + y) := (Int64.ofInt_add x y).symm
theorem jL_sub (x y : Int) : jL x - jL y = jL (x - y) := (Int64.ofInt_sub x y).symm
theorem jL_mul (x y : Int) : jL x * jL y = jL (x * y) := (Int64.ofInt_mul x y).symm
abbrev jR (x : Int) : Prop := -2147483648 ≤ x ∧ x < 2147483648
theorem jI_toInt {x : Int} (h : jR x) : (jI x).toInt = x := by
  unfold jI
  rw [Int32.toInt_ofInt, show Int32.size = 4294967296 from rfl]
  exact Int.bmod_eq_of_le (by omega) (by omega)
theorem jI_of (v : Int32) : jI v.toInt = v := Int32.ofInt_toInt v
theorem jI_R (v : Int32) : jR v.toInt := ⟨by have := v.le_toInt; omega, by have := v.toInt_lt; omega⟩
theorem jI_lt {x y : Int} (hx : jR x) (hy : jR y) : jI x < jI y ↔ x < y := by
  rw [Int32.lt_iff_toInt_lt, jI_toInt hx, jI_toInt hy]
theorem jI_le {x y : Int} (hx : jR x) (hy : jR y) : jI x ≤ jI y ↔ x ≤ y := by
  rw [Int32.le_iff_toInt_le, jI_toInt hx, jI_toInt hy]
theorem jI_eq {x y : Int} (hx : jR x) (hy : jR y) : jI x = jI y ↔ x = y := by
  rw [← Int32.toInt_inj, jI_toInt hx, jI_toInt hy]
theorem jI_0 : jI 0 = 0 := by decide
theorem jI_cl {x : Int} (h0 : 0 ≤ x) (h1 : x < 2147483648) : (jI x).toNatClampNeg = x.toNat := by
  rw [Int32.toNatClampNeg, jI_toInt ⟨by omega, h1⟩]
theorem jI_in {x : Int} {n : Nat} (h0 : 0 ≤ x) (h1 : x < n) (hn : n < 100000) : vp_in (jI x) n := by
  rw [vp_in_iff, jI_toInt ⟨by omega, by omega⟩]
  exact ⟨h0, h1⟩
theorem jL_toInt {x : Int} (h : jR x) : (jL x).toInt = x := by
  unfold jL
  rw [Int64.toInt_ofInt, show Int64.size = 18446744073709551616 from rfl]
  exact Int.bmod_eq_of_le (by omega) (by omega)
theorem jI_l {x : Int} (h : jR x) : (jI x).toInt64 = jL x := Int64.toInt_inj.mp (by rw [Int32.toInt_toInt64, jI_toInt h, jL_toInt h])
-- the world
theorem jwd_get (G : jG) (M : jMem) {k : Nat} (h : k < jNC) : (jwd G M)[k]? = some (jad G k, jcel G M k) := by
  simp [jwd, h]
theorem jcel_congr (G : jG) {M M' : jMem} {k : Nat} (h : ∀ i, M k i = M' k i) : jcel G M k = jcel G M' k := by
  have e : M k = M' k := funext h
  have e2 : jfv G M k = jfv G M' k := funext fun j => by unfold jfv; rw [e]
  unfold jcel
  rw [e, e2]
theorem jwd_set (G : jG) {M M' : jMem} {k : Nat} {c : va_E} (hk : k < jNC) (hc : c = jcel G M' k) (ho : ∀ j, j ≠ k → ∀ i, M' j i = M j i) : (jwd G M).set k (jad G k, c) = jwd G M' := by
  subst hc
  apply List.ext_getElem?
  intro j
  rw [List.getElem?_set]
  by_cases hj : k = j
  · subst hj
    rw [if_pos rfl]
    simp [jwd, hk]
  · rw [if_neg hj]
    by_cases hl : j < jNC
    · rw [jwd_get G M hl, jwd_get G M' hl, jcel_congr G (fun i => ho j (fun e => hj e.symm) i)]
    · simp [jwd, hl]
theorem jA_in (G : jG) {k : Nat} (h : k < jNC) : jA G (jad G k) := ⟨k, h, rfl⟩
theorem jup_ne {M : jMem} {k a : Nat} {i v : Int} (h : a ≠ k) (b : Int) : jup M k i v a b = M a b := by
  unfold jup; rw [if_neg (fun z => h z.1)]
-- locals
theorem jpr_mem : ∀ (l : List Value) (i k : Nat) (v : Value), l[k]? = some v → v ≠ .null → (i + k, v) ∈ jpr i l
  | [], _, _, _, h, _ => by simp at h
  | u :: us, i, 0, v, h, hv => by
    have e : u = v := by simpa using h
    subst e
    cases u with
    | null => exact absurd rfl hv
    | _ => exact List.mem_cons_self
  | u :: us, i, k + 1, v, h, hv => by
    have h' : us[k]? = some v := by simpa using h
    have r := jpr_mem us (i + 1) k v h' hv
    have e : i + 1 + k = i + (k + 1) := by omega
    rw [e] at r
    cases u with
    | null => exact r
    | _ => exact List.mem_cons_of_mem _ r
theorem jpr_of : ∀ (l : List Value) (i : Nat) (q : Nat × Value), q ∈ jpr i l → ∃ k, l[k]? = some q.2 ∧ q.1 = i + k
  | [], _, _, h => by simp [jpr] at h
  | u :: us, i, q, h => by
    have go : q ∈ jpr (i + 1) us → ∃ k, (u :: us)[k]? = some q.2 ∧ q.1 = i + k := fun h => by
      obtain ⟨k, h1, h2⟩ := jpr_of us (i + 1) q h
      exact ⟨k + 1, by simpa using h1, by omega⟩
    have hd : ∀ w : Value, q ∈ (i, w) :: jpr (i + 1) us → w = u → ∃ k, (u :: us)[k]? = some q.2 ∧ q.1 = i + k := fun w h e => by
      rcases List.mem_cons.mp h with h | h
      · subst h; subst e
        exact ⟨0, by simp, rfl⟩
      · exact go h
    cases u with
    | null => exact go h
    | _ => exact hd _ h rfl
theorem jl_at {ls : Array Slot} {n : Nat} {l : List Value} (h : jl ls n l) {k : Nat} {v : Value} (hk : l[k]? = some v) (hv : v ≠ .null) : ls[k]? = some (.val v) := by
  have := h.2.2 _ (jpr_mem l 0 k v hk hv)
  simpa using this
theorem jl_of {ls : Array Slot} {n : Nat} {l : List (Nat × Value)} (h : lv_has ls n l) {l' : List Value} (hl : ∀ (k : Nat) (v : Value), l'[k]? = some v → v ≠ .null → (k, v) ∈ l) : jl ls n l' := by
  refine ⟨h.1, h.2.1, fun q hq => ?_⟩
  obtain ⟨k, h1, h2⟩ := jpr_of l' 0 q hq
  have hne : q.2 ≠ .null := by
    intro e
    have key : ∀ (l : List Value) (i : Nat), q ∈ jpr i l → q.2 ≠ .null := by
      intro l
      induction l with
      | nil => intro i h; simp [jpr] at h
      | cons u us ih =>
        intro i h
        cases u with
        | null => exact ih _ h
        | _ =>
          rcases List.mem_cons.mp h with h | h
          · subst h; intro z; cases z
          · exact ih _ h
    exact key _ _ hq e
  have := h.2.2 _ (hl k q.2 h1 hne)
  rw [show q.1 = k by omega]
  exact this
theorem jl_sub {ls : Array Slot} {n : Nat} {l l' : List Value} (h : jl ls n l) (hl : ∀ (k : Nat) (v : Value), l'[k]? = some v → v ≠ .null → l[k]? = some v) : jl ls n l' :=
  jl_of h (fun k v h1 h2 => by have := jpr_mem l 0 k v (hl k v h1 h2) h2; simpa using this)
-- a new value in the locals: the slots that stay are those of which the long at the place before isn't cut
def jcat (l : List Value) (k : Nat) : Bool := match k with
  | 0 => true
  | k + 1 => match l[k]? with
    | some (.long _) => false
    | some (.double _) => false
    | _ => true
theorem jl_st1 {ls : Array Slot} {n : Nat} {l : List Value} {k : Nat} {v : Value} (hk : k < l.length) (hc : jcat l k = true)
    (h : lv_has ls n ((k, v) :: (jpr 0 l).filter (fun q => !(q.1 == k) && !(q.1 + 1 == k && q.2.category == 2)))) : jl ls n (l.set k v) := by
  refine jl_of h (fun j u h1 h2 => ?_)
  rw [List.getElem?_set] at h1
  by_cases e : k = j
  · subst e
    rw [if_pos rfl, if_pos hk] at h1
    cases h1
    exact List.mem_cons_self
  · rw [if_neg e] at h1
    refine List.mem_cons_of_mem _ (List.mem_filter.mpr ⟨by have := jpr_mem l 0 j u h1 h2; simpa using this, ?_⟩)
    have e1 : (j == k) = false := by simp; omega
    have e2 : (j + 1 == k && u.category == 2) = false := by
      by_cases z : j + 1 = k
      · subst z
        have : u.category = 1 := by
          simp only [jcat] at hc
          rw [h1] at hc
          cases u <;> first | rfl | (simp at hc)
        simp [this]
      · have : (j + 1 == k) = false := by simp [z]
        simp [this]
    simp [e1, e2]
theorem jl_st2 {ls : Array Slot} {n : Nat} {l : List Value} {k : Nat} {v : Value} (hk : k + 1 < l.length) (hc : jcat l k = true)
    (h : lv_has ls n ((k, v) :: (jpr 0 l).filter (fun q => !(q.1 == k) && (!(q.1 == k + 1) && !(q.1 + 1 == k && q.2.category == 2))))) : jl ls n ((l.set k v).set (k + 1) .null) := by
  refine jl_of h (fun j u h1 h2 => ?_)
  rw [List.getElem?_set] at h1
  by_cases e0 : k + 1 = j
  · subst e0
    rw [if_pos rfl, if_pos (by simpa using hk)] at h1
    cases h1
    exact absurd rfl h2
  rw [if_neg e0, List.getElem?_set] at h1
  by_cases e : k = j
  · subst e
    rw [if_pos rfl, if_pos (by omega)] at h1
    cases h1
    exact List.mem_cons_self
  · rw [if_neg e] at h1
    refine List.mem_cons_of_mem _ (List.mem_filter.mpr ⟨by have := jpr_mem l 0 j u h1 h2; simpa using this, ?_⟩)
    have e1 : (j == k) = false := by simp; omega
    have e3 : (j == k + 1) = false := by simp; omega
    have e2 : (j + 1 == k && u.category == 2) = false := by
      by_cases z : j + 1 = k
      · subst z
        have : u.category = 1 := by
          simp only [jcat] at hc
          rw [h1] at hc
          cases u <;> first | rfl | (simp at hc)
        simp [this]
      · have : (j + 1 == k) = false := by simp [z]
        simp [this]
    simp [e1, e2, e3]
end
section
theorem jsh_lt {k : Nat} (h : (jsh k).1 < 99) : k < jNC := by
  rcases Nat.lt_or_ge k jNC with q | q
  · exact q
  · exfalso
    have e : jsh k = (99, 0) := by
      unfold jsh
      rw [List.getD_eq_getElem?_getD, List.getElem?_eq_none (by simpa [jshL, jNC] using q)]
      rfl
    rw [e] at h
    exact absurd h (by decide)
section JR
variable {G : jG} {y : jMD} {R : Room} {cl sl : Nat} {E : Array Value → State → Prop} {Z : List Frame → Array Value → State → State → Prop} {pc n : Nat} {l st : List Value} {M : jMem}
theorem jr_sub {l' : List Value} (h : ∀ (k : Nat) (v : Value), l'[k]? = some v → v ≠ .null → l[k]? = some v) (k : jX G y R cl sl E Z pc l' st M) : jX G y R cl sl E Z pc l st M := by
  intro p e s m args below meth c H locs ls hC
  obtain ⟨h1, h2, h3, h4, h5, h6, h7, h8, h9, h10, h11, h12⟩ := hC
  exact k _ _ _ _ _ _ _ _ _ _ _ ⟨h1, h2, h3, h4, h5, h6, h7, h8, h9, h10, h11, jl_sub h12 h⟩
theorem jr_iconst {x : Int} (hd : decode y.2.1 pc = .ok (.iconst x, 1)) (hn : n = pc + 1) (k : jX G y R cl sl E Z n l (.int (jI x) :: st) M) : jX G y R cl sl E Z pc l st M := by
  subst hn
  intro p e s m args below meth c H locs ls hC
  exact lv_iconst hC.1 hC.2.1 hd rfl (k _ _ _ _ _ _ _ _ _ _ _ hC)
theorem jr_bipush {x : Int} (hd : decode y.2.1 pc = .ok (.bipush x, 2)) (hn : n = pc + 2) (hv : (Int8.ofInt x).toInt32 = jI x) (k : jX G y R cl sl E Z n l (.int (jI x) :: st) M) : jX G y R cl sl E Z pc l st M := by
  subst hn
  intro p e s m args below meth c H locs ls hC
  exact lv_bipush hC.1 hC.2.1 hd hv (k _ _ _ _ _ _ _ _ _ _ _ hC)
theorem jr_sipush {x : Int} (hd : decode y.2.1 pc = .ok (.sipush x, 3)) (hn : n = pc + 3) (hv : (Int16.ofInt x).toInt32 = jI x) (k : jX G y R cl sl E Z n l (.int (jI x) :: st) M) : jX G y R cl sl E Z pc l st M := by
  subst hn
  intro p e s m args below meth c H locs ls hC
  exact lv_sipush hC.1 hC.2.1 hd hv (k _ _ _ _ _ _ _ _ _ _ _ hC)
theorem jr_lconst {a : Fin 2} {x : Int} (hd : decode y.2.1 pc = .ok (.lconst a, 1)) (hn : n = pc + 1) (hv : Int64.ofNat (a : Nat) = jL x) (k : jX G y R cl sl E Z n l (.long (jL x) :: st) M) : jX G y R cl sl E Z pc l st M := by
  subst hn
  intro p e s m args below meth c H locs ls hC
  exact lv_lconst hC.1 hC.2.1 hd hv (k _ _ _ _ _ _ _ _ _ _ _ hC)
theorem jr_ldc2 {own : String} {idx : Nat} {v : Int64} {x : Int} (hd : decode y.2.1 pc = .ok (.ldc2_w idx, 3)) (hn : n = pc + 3) (ho : y.1.cls = own) (hw : Cond.constantLong own idx v ∈ jgd) (hv : v = jL x) (k : jX G y R cl sl E Z n l (.long (jL x) :: st) M) : jX G y R cl sl E Z pc l st M := by
  subst hn; subst hv; subst ho
  intro p e s m args below meth c H locs ls hC
  exact lv_ldc2 hC.1 hC.2.1 hC.2.2.2.1 (hC.2.2.2.2.1 _ hw) hd (k _ _ _ _ _ _ _ _ _ _ _ hC)
theorem jr_ldcw {own : String} {idx : Nat} {v : Int32} {x : Int} (hd : decode y.2.1 pc = .ok (.ldc_w idx, 3)) (hn : n = pc + 3) (ho : y.1.cls = own) (hw : Cond.constant own idx v ∈ jgd) (hv : v = jI x) (k : jX G y R cl sl E Z n l (.int (jI x) :: st) M) : jX G y R cl sl E Z pc l st M := by
  subst hn; subst hv; subst ho
  intro p e s m args below meth c H locs ls hC
  exact lv_ldcw hC.1 hC.2.1 hC.2.2.2.1 (hC.2.2.2.2.1 _ hw) hd (k _ _ _ _ _ _ _ _ _ _ _ hC)
theorem jr_iload_n {a : Fin 4} {x : Int32} (hd : decode y.2.1 pc = .ok (.iload_n a, 1)) (hn : n = pc + 1) (hl : l[(a : Nat)]? = some (.int x)) (k : jX G y R cl sl E Z n l (.int x :: st) M) : jX G y R cl sl E Z pc l st M := by
  subst hn
  intro p e s m args below meth c H locs ls hC
  exact lv_iload_n hC.1 hC.2.1 hd rfl (jl_at hC.2.2.2.2.2.2.2.2.2.2.2 hl (by intro z; cases z)) (k _ _ _ _ _ _ _ _ _ _ _ hC)
theorem jr_iload {a : Nat} {x : Int32} (hd : decode y.2.1 pc = .ok (.iload a, 2)) (hn : n = pc + 2) (hl : l[a]? = some (.int x)) (k : jX G y R cl sl E Z n l (.int x :: st) M) : jX G y R cl sl E Z pc l st M := by
  subst hn
  intro p e s m args below meth c H locs ls hC
  exact lv_iload hC.1 hC.2.1 hd (jl_at hC.2.2.2.2.2.2.2.2.2.2.2 hl (by intro z; cases z)) (k _ _ _ _ _ _ _ _ _ _ _ hC)
theorem jr_lload_n {a : Fin 4} {x : Int64} (hd : decode y.2.1 pc = .ok (.lload_n a, 1)) (hn : n = pc + 1) (hl : l[(a : Nat)]? = some (.long x)) (k : jX G y R cl sl E Z n l (.long x :: st) M) : jX G y R cl sl E Z pc l st M := by
  subst hn
  intro p e s m args below meth c H locs ls hC
  exact lv_lload_n hC.1 hC.2.1 hd rfl (jl_at hC.2.2.2.2.2.2.2.2.2.2.2 hl (by intro z; cases z)) (k _ _ _ _ _ _ _ _ _ _ _ hC)
theorem jr_lload {a : Nat} {x : Int64} (hd : decode y.2.1 pc = .ok (.lload a, 2)) (hn : n = pc + 2) (hl : l[a]? = some (.long x)) (k : jX G y R cl sl E Z n l (.long x :: st) M) : jX G y R cl sl E Z pc l st M := by
  subst hn
  intro p e s m args below meth c H locs ls hC
  exact lv_lload hC.1 hC.2.1 hd (jl_at hC.2.2.2.2.2.2.2.2.2.2.2 hl (by intro z; cases z)) (k _ _ _ _ _ _ _ _ _ _ _ hC)
theorem jr_aload_n {a : Fin 4} {x : Nat} (hd : decode y.2.1 pc = .ok (.aload_n a, 1)) (hn : n = pc + 1) (hl : l[(a : Nat)]? = some (.ref x)) (k : jX G y R cl sl E Z n l (.ref x :: st) M) : jX G y R cl sl E Z pc l st M := by
  subst hn
  intro p e s m args below meth c H locs ls hC
  exact lv_aload_n hC.1 hC.2.1 hd rfl (jl_at hC.2.2.2.2.2.2.2.2.2.2.2 hl (by intro z; cases z)) (k _ _ _ _ _ _ _ _ _ _ _ hC)
theorem jr_aload {a : Nat} {x : Nat} (hd : decode y.2.1 pc = .ok (.aload a, 2)) (hn : n = pc + 2) (hl : l[a]? = some (.ref x)) (k : jX G y R cl sl E Z n l (.ref x :: st) M) : jX G y R cl sl E Z pc l st M := by
  subst hn
  intro p e s m args below meth c H locs ls hC
  exact lv_aload hC.1 hC.2.1 hd (jl_at hC.2.2.2.2.2.2.2.2.2.2.2 hl (by intro z; cases z)) (k _ _ _ _ _ _ _ _ _ _ _ hC)
theorem jg_istore_n {a : Fin 4} {x : Int32} (hd : decode y.2.1 pc = .ok (.istore_n a, 1)) (hn : n = pc + 1) (hk : (a : Nat) < l.length) (hm : (a : Nat) < y.2.2.1) (hc : jcat l a = true) (k : jX G y R cl sl E Z n (l.set a (.int x)) st M) : jX G y R cl sl E Z pc l (.int x :: st) M := by
  subst hn
  intro p e s m args below meth c H locs ls hC
  obtain ⟨h1, h2, h3, h4, h5, h6, h7, h8, h9, h10, h11, h12⟩ := hC
  exact lv_istore_n h1 h2 hd rfl h12 hm rfl (fun ls' h' => k _ _ _ _ _ _ _ _ _ _ _ ⟨h1, h2, h3, h4, h5, h6, h7, h8, h9, h10, h11, jl_st1 hk hc h'⟩)
theorem jg_istore {a : Nat} {x : Int32} (hd : decode y.2.1 pc = .ok (.istore a, 2)) (hn : n = pc + 2) (hk : (a : Nat) < l.length) (hm : (a : Nat) < y.2.2.1) (hc : jcat l a = true) (k : jX G y R cl sl E Z n (l.set a (.int x)) st M) : jX G y R cl sl E Z pc l (.int x :: st) M := by
  subst hn
  intro p e s m args below meth c H locs ls hC
  obtain ⟨h1, h2, h3, h4, h5, h6, h7, h8, h9, h10, h11, h12⟩ := hC
  exact lv_istore h1 h2 hd h12 hm rfl (fun ls' h' => k _ _ _ _ _ _ _ _ _ _ _ ⟨h1, h2, h3, h4, h5, h6, h7, h8, h9, h10, h11, jl_st1 hk hc h'⟩)
theorem jg_astore_n {a : Fin 4} {x : Nat} (hd : decode y.2.1 pc = .ok (.astore_n a, 1)) (hn : n = pc + 1) (hk : (a : Nat) < l.length) (hm : (a : Nat) < y.2.2.1) (hc : jcat l a = true) (k : jX G y R cl sl E Z n (l.set a (.ref x)) st M) : jX G y R cl sl E Z pc l (.ref x :: st) M := by
  subst hn
  intro p e s m args below meth c H locs ls hC
  obtain ⟨h1, h2, h3, h4, h5, h6, h7, h8, h9, h10, h11, h12⟩ := hC
  exact lv_astore_n h1 h2 hd rfl h12 hm rfl (fun ls' h' => k _ _ _ _ _ _ _ _ _ _ _ ⟨h1, h2, h3, h4, h5, h6, h7, h8, h9, h10, h11, jl_st1 hk hc h'⟩)
theorem jg_astore {a : Nat} {x : Nat} (hd : decode y.2.1 pc = .ok (.astore a, 2)) (hn : n = pc + 2) (hk : (a : Nat) < l.length) (hm : (a : Nat) < y.2.2.1) (hc : jcat l a = true) (k : jX G y R cl sl E Z n (l.set a (.ref x)) st M) : jX G y R cl sl E Z pc l (.ref x :: st) M := by
  subst hn
  intro p e s m args below meth c H locs ls hC
  obtain ⟨h1, h2, h3, h4, h5, h6, h7, h8, h9, h10, h11, h12⟩ := hC
  exact lv_astore h1 h2 hd h12 hm rfl (fun ls' h' => k _ _ _ _ _ _ _ _ _ _ _ ⟨h1, h2, h3, h4, h5, h6, h7, h8, h9, h10, h11, jl_st1 hk hc h'⟩)
theorem jg_lstore_n {a : Fin 4} {x : Int64} (hd : decode y.2.1 pc = .ok (.lstore_n a, 1)) (hn : n = pc + 1) (hk : (a : Nat) + 1 < l.length) (hm : (a : Nat) + 1 < y.2.2.1) (hc : jcat l a = true) (k : jX G y R cl sl E Z n ((l.set a (.long x)).set (a + 1) .null) st M) : jX G y R cl sl E Z pc l (.long x :: st) M := by
  subst hn
  intro p e s m args below meth c H locs ls hC
  obtain ⟨h1, h2, h3, h4, h5, h6, h7, h8, h9, h10, h11, h12⟩ := hC
  exact lv_lstore_n h1 h2 hd rfl h12 hm rfl (fun ls' h' => k _ _ _ _ _ _ _ _ _ _ _ ⟨h1, h2, h3, h4, h5, h6, h7, h8, h9, h10, h11, jl_st2 hk hc h'⟩)
theorem jg_lstore {a : Nat} {x : Int64} (hd : decode y.2.1 pc = .ok (.lstore a, 2)) (hn : n = pc + 2) (hk : (a : Nat) + 1 < l.length) (hm : (a : Nat) + 1 < y.2.2.1) (hc : jcat l a = true) (k : jX G y R cl sl E Z n ((l.set a (.long x)).set (a + 1) .null) st M) : jX G y R cl sl E Z pc l (.long x :: st) M := by
  subst hn
  intro p e s m args below meth c H locs ls hC
  obtain ⟨h1, h2, h3, h4, h5, h6, h7, h8, h9, h10, h11, h12⟩ := hC
  exact lv_lstore h1 h2 hd h12 hm rfl (fun ls' h' => k _ _ _ _ _ _ _ _ _ _ _ ⟨h1, h2, h3, h4, h5, h6, h7, h8, h9, h10, h11, jl_st2 hk hc h'⟩)
theorem jg_iinc {a : Nat} {z x : Int} (hd : decode y.2.1 pc = .ok (.iinc a z, 3)) (hn : n = pc + 3) (hl : l[a]? = some (.int (jI x))) (hm : a < y.2.2.1) (hc : jcat l a = true) (k : jX G y R cl sl E Z n (l.set a (.int (jI (x + z)))) st M) : jX G y R cl sl E Z pc l st M := by
  subst hn
  intro p e s m args below meth c H locs ls hC
  obtain ⟨h1, h2, h3, h4, h5, h6, h7, h8, h9, h10, h11, h12⟩ := hC
  have hk : a < l.length := (List.getElem?_eq_some_iff.mp hl).1
  have hmem : (a, Value.int (jI x)) ∈ jpr 0 l := by have := jpr_mem l 0 a _ hl (by intro z; cases z); simpa using this
  obtain ⟨q, hq⟩ := List.getElem?_of_mem hmem
  exact lv_iinc h1 h2 hd h12 hq (by rw [← jI_add]; rfl) hm rfl (fun ls' h' => k _ _ _ _ _ _ _ _ _ _ _ ⟨h1, h2, h3, h4, h5, h6, h7, h8, h9, h10, h11, jl_st1 hk hc h'⟩)
theorem jr_istore0 {a0 : Value} {r : List Value} {x : Int32} (hd : decode y.2.1 pc = .ok (.istore_n 0, 1)) (hn : n = pc + 1) (hm : 0 < y.2.2.1) (hc : jcat (a0 :: r) 0 = true) (k : jX G y R cl sl E Z n (.int x :: r) st M) : jX G y R cl sl E Z pc (a0 :: r) (.int x :: st) M := jg_istore_n hd hn (by simp only [List.length_cons]; first | omega | (show 3 < _; omega)) hm hc k
theorem jr_astore0 {a0 : Value} {r : List Value} {x : Nat} (hd : decode y.2.1 pc = .ok (.astore_n 0, 1)) (hn : n = pc + 1) (hm : 0 < y.2.2.1) (hc : jcat (a0 :: r) 0 = true) (k : jX G y R cl sl E Z n (.ref x :: r) st M) : jX G y R cl sl E Z pc (a0 :: r) (.ref x :: st) M := jg_astore_n hd hn (by simp only [List.length_cons]; first | omega | (show 3 < _; omega)) hm hc k
theorem jr_lstore0 {a0 b : Value} {r : List Value} {x : Int64} (hd : decode y.2.1 pc = .ok (.lstore_n 0, 1)) (hn : n = pc + 1) (hm : 0 + 1 < y.2.2.1) (hc : jcat (a0 :: b :: r) 0 = true) (k : jX G y R cl sl E Z n (.long x :: .null :: r) st M) : jX G y R cl sl E Z pc (a0 :: b :: r) (.long x :: st) M := jg_lstore_n hd hn (by simp only [List.length_cons]; first | omega | (show 3 + 1 < _; omega)) hm hc k
theorem jr_iinc0 {r : List Value} {z x : Int} (hd : decode y.2.1 pc = .ok (.iinc 0 z, 3)) (hn : n = pc + 3) (hm : 0 < y.2.2.1) (hc : jcat (.int (jI x) :: r) 0 = true) (k : jX G y R cl sl E Z n (.int (jI (x + z)) :: r) st M) : jX G y R cl sl E Z pc (.int (jI x) :: r) st M := jg_iinc hd hn rfl hm hc k
theorem jr_istore1 {a0 a1 : Value} {r : List Value} {x : Int32} (hd : decode y.2.1 pc = .ok (.istore_n 1, 1)) (hn : n = pc + 1) (hm : 1 < y.2.2.1) (hc : jcat (a0 :: a1 :: r) 1 = true) (k : jX G y R cl sl E Z n (a0 :: .int x :: r) st M) : jX G y R cl sl E Z pc (a0 :: a1 :: r) (.int x :: st) M := jg_istore_n hd hn (by simp only [List.length_cons]; first | omega | (show 3 < _; omega)) hm hc k
theorem jr_astore1 {a0 a1 : Value} {r : List Value} {x : Nat} (hd : decode y.2.1 pc = .ok (.astore_n 1, 1)) (hn : n = pc + 1) (hm : 1 < y.2.2.1) (hc : jcat (a0 :: a1 :: r) 1 = true) (k : jX G y R cl sl E Z n (a0 :: .ref x :: r) st M) : jX G y R cl sl E Z pc (a0 :: a1 :: r) (.ref x :: st) M := jg_astore_n hd hn (by simp only [List.length_cons]; first | omega | (show 3 < _; omega)) hm hc k
theorem jr_lstore1 {a0 a1 b : Value} {r : List Value} {x : Int64} (hd : decode y.2.1 pc = .ok (.lstore_n 1, 1)) (hn : n = pc + 1) (hm : 1 + 1 < y.2.2.1) (hc : jcat (a0 :: a1 :: b :: r) 1 = true) (k : jX G y R cl sl E Z n (a0 :: .long x :: .null :: r) st M) : jX G y R cl sl E Z pc (a0 :: a1 :: b :: r) (.long x :: st) M := jg_lstore_n hd hn (by simp only [List.length_cons]; first | omega | (show 3 + 1 < _; omega)) hm hc k
theorem jr_iinc1 {a0 : Value} {r : List Value} {z x : Int} (hd : decode y.2.1 pc = .ok (.iinc 1 z, 3)) (hn : n = pc + 3) (hm : 1 < y.2.2.1) (hc : jcat (a0 :: .int (jI x) :: r) 1 = true) (k : jX G y R cl sl E Z n (a0 :: .int (jI (x + z)) :: r) st M) : jX G y R cl sl E Z pc (a0 :: .int (jI x) :: r) st M := jg_iinc hd hn rfl hm hc k
theorem jr_istore2 {a0 a1 a2 : Value} {r : List Value} {x : Int32} (hd : decode y.2.1 pc = .ok (.istore_n 2, 1)) (hn : n = pc + 1) (hm : 2 < y.2.2.1) (hc : jcat (a0 :: a1 :: a2 :: r) 2 = true) (k : jX G y R cl sl E Z n (a0 :: a1 :: .int x :: r) st M) : jX G y R cl sl E Z pc (a0 :: a1 :: a2 :: r) (.int x :: st) M := jg_istore_n hd hn (by simp only [List.length_cons]; first | omega | (show 3 < _; omega)) hm hc k
theorem jr_astore2 {a0 a1 a2 : Value} {r : List Value} {x : Nat} (hd : decode y.2.1 pc = .ok (.astore_n 2, 1)) (hn : n = pc + 1) (hm : 2 < y.2.2.1) (hc : jcat (a0 :: a1 :: a2 :: r) 2 = true) (k : jX G y R cl sl E Z n (a0 :: a1 :: .ref x :: r) st M) : jX G y R cl sl E Z pc (a0 :: a1 :: a2 :: r) (.ref x :: st) M := jg_astore_n hd hn (by simp only [List.length_cons]; first | omega | (show 3 < _; omega)) hm hc k
theorem jr_lstore2 {a0 a1 a2 b : Value} {r : List Value} {x : Int64} (hd : decode y.2.1 pc = .ok (.lstore_n 2, 1)) (hn : n = pc + 1) (hm : 2 + 1 < y.2.2.1) (hc : jcat (a0 :: a1 :: a2 :: b :: r) 2 = true) (k : jX G y R cl sl E Z n (a0 :: a1 :: .long x :: .null :: r) st M) : jX G y R cl sl E Z pc (a0 :: a1 :: a2 :: b :: r) (.long x :: st) M := jg_lstore_n hd hn (by simp only [List.length_cons]; first | omega | (show 3 + 1 < _; omega)) hm hc k
theorem jr_iinc2 {a0 : Value} {a1 : Value} {r : List Value} {z x : Int} (hd : decode y.2.1 pc = .ok (.iinc 2 z, 3)) (hn : n = pc + 3) (hm : 2 < y.2.2.1) (hc : jcat (a0 :: a1 :: .int (jI x) :: r) 2 = true) (k : jX G y R cl sl E Z n (a0 :: a1 :: .int (jI (x + z)) :: r) st M) : jX G y R cl sl E Z pc (a0 :: a1 :: .int (jI x) :: r) st M := jg_iinc hd hn rfl hm hc k
theorem jr_istore3 {a0 a1 a2 a3 : Value} {r : List Value} {x : Int32} (hd : decode y.2.1 pc = .ok (.istore_n 3, 1)) (hn : n = pc + 1) (hm : 3 < y.2.2.1) (hc : jcat (a0 :: a1 :: a2 :: a3 :: r) 3 = true) (k : jX G y R cl sl E Z n (a0 :: a1 :: a2 :: .int x :: r) st M) : jX G y R cl sl E Z pc (a0 :: a1 :: a2 :: a3 :: r) (.int x :: st) M := jg_istore_n hd hn (by simp only [List.length_cons]; first | omega | (show 3 < _; omega)) hm hc k
theorem jr_astore3 {a0 a1 a2 a3 : Value} {r : List Value} {x : Nat} (hd : decode y.2.1 pc = .ok (.astore_n 3, 1)) (hn : n = pc + 1) (hm : 3 < y.2.2.1) (hc : jcat (a0 :: a1 :: a2 :: a3 :: r) 3 = true) (k : jX G y R cl sl E Z n (a0 :: a1 :: a2 :: .ref x :: r) st M) : jX G y R cl sl E Z pc (a0 :: a1 :: a2 :: a3 :: r) (.ref x :: st) M := jg_astore_n hd hn (by simp only [List.length_cons]; first | omega | (show 3 < _; omega)) hm hc k
theorem jr_lstore3 {a0 a1 a2 a3 b : Value} {r : List Value} {x : Int64} (hd : decode y.2.1 pc = .ok (.lstore_n 3, 1)) (hn : n = pc + 1) (hm : 3 + 1 < y.2.2.1) (hc : jcat (a0 :: a1 :: a2 :: a3 :: b :: r) 3 = true) (k : jX G y R cl sl E Z n (a0 :: a1 :: a2 :: .long x :: .null :: r) st M) : jX G y R cl sl E Z pc (a0 :: a1 :: a2 :: a3 :: b :: r) (.long x :: st) M := jg_lstore_n hd hn (by simp only [List.length_cons]; first | omega | (show 3 + 1 < _; omega)) hm hc k
theorem jr_iinc3 {a0 : Value} {a1 : Value} {a2 : Value} {r : List Value} {z x : Int} (hd : decode y.2.1 pc = .ok (.iinc 3 z, 3)) (hn : n = pc + 3) (hm : 3 < y.2.2.1) (hc : jcat (a0 :: a1 :: a2 :: .int (jI x) :: r) 3 = true) (k : jX G y R cl sl E Z n (a0 :: a1 :: a2 :: .int (jI (x + z)) :: r) st M) : jX G y R cl sl E Z pc (a0 :: a1 :: a2 :: .int (jI x) :: r) st M := jg_iinc hd hn rfl hm hc k
theorem jr_istore4 {a0 a1 a2 a3 a4 : Value} {r : List Value} {x : Int32} (hd : decode y.2.1 pc = .ok (.istore 4, 2)) (hn : n = pc + 2) (hm : 4 < y.2.2.1) (hc : jcat (a0 :: a1 :: a2 :: a3 :: a4 :: r) 4 = true) (k : jX G y R cl sl E Z n (a0 :: a1 :: a2 :: a3 :: .int x :: r) st M) : jX G y R cl sl E Z pc (a0 :: a1 :: a2 :: a3 :: a4 :: r) (.int x :: st) M := jg_istore hd hn (by simp only [List.length_cons]; first | omega | (show 3 < _; omega)) hm hc k
theorem jr_lstore4 {a0 a1 a2 a3 a4 b : Value} {r : List Value} {x : Int64} (hd : decode y.2.1 pc = .ok (.lstore 4, 2)) (hn : n = pc + 2) (hm : 4 + 1 < y.2.2.1) (hc : jcat (a0 :: a1 :: a2 :: a3 :: a4 :: b :: r) 4 = true) (k : jX G y R cl sl E Z n (a0 :: a1 :: a2 :: a3 :: .long x :: .null :: r) st M) : jX G y R cl sl E Z pc (a0 :: a1 :: a2 :: a3 :: a4 :: b :: r) (.long x :: st) M := jg_lstore hd hn (by simp only [List.length_cons]; first | omega | (show 3 + 1 < _; omega)) hm hc k
theorem jr_iinc4 {a0 : Value} {a1 : Value} {a2 : Value} {a3 : Value} {r : List Value} {z x : Int} (hd : decode y.2.1 pc = .ok (.iinc 4 z, 3)) (hn : n = pc + 3) (hm : 4 < y.2.2.1) (hc : jcat (a0 :: a1 :: a2 :: a3 :: .int (jI x) :: r) 4 = true) (k : jX G y R cl sl E Z n (a0 :: a1 :: a2 :: a3 :: .int (jI (x + z)) :: r) st M) : jX G y R cl sl E Z pc (a0 :: a1 :: a2 :: a3 :: .int (jI x) :: r) st M := jg_iinc hd hn rfl hm hc k
theorem jr_istore5 {a0 a1 a2 a3 a4 a5 : Value} {r : List Value} {x : Int32} (hd : decode y.2.1 pc = .ok (.istore 5, 2)) (hn : n = pc + 2) (hm : 5 < y.2.2.1) (hc : jcat (a0 :: a1 :: a2 :: a3 :: a4 :: a5 :: r) 5 = true) (k : jX G y R cl sl E Z n (a0 :: a1 :: a2 :: a3 :: a4 :: .int x :: r) st M) : jX G y R cl sl E Z pc (a0 :: a1 :: a2 :: a3 :: a4 :: a5 :: r) (.int x :: st) M := jg_istore hd hn (by simp only [List.length_cons]; first | omega | (show 3 < _; omega)) hm hc k
theorem jr_lstore5 {a0 a1 a2 a3 a4 a5 b : Value} {r : List Value} {x : Int64} (hd : decode y.2.1 pc = .ok (.lstore 5, 2)) (hn : n = pc + 2) (hm : 5 + 1 < y.2.2.1) (hc : jcat (a0 :: a1 :: a2 :: a3 :: a4 :: a5 :: b :: r) 5 = true) (k : jX G y R cl sl E Z n (a0 :: a1 :: a2 :: a3 :: a4 :: .long x :: .null :: r) st M) : jX G y R cl sl E Z pc (a0 :: a1 :: a2 :: a3 :: a4 :: a5 :: b :: r) (.long x :: st) M := jg_lstore hd hn (by simp only [List.length_cons]; first | omega | (show 3 + 1 < _; omega)) hm hc k
theorem jr_iinc5 {a0 : Value} {a1 : Value} {a2 : Value} {a3 : Value} {a4 : Value} {r : List Value} {z x : Int} (hd : decode y.2.1 pc = .ok (.iinc 5 z, 3)) (hn : n = pc + 3) (hm : 5 < y.2.2.1) (hc : jcat (a0 :: a1 :: a2 :: a3 :: a4 :: .int (jI x) :: r) 5 = true) (k : jX G y R cl sl E Z n (a0 :: a1 :: a2 :: a3 :: a4 :: .int (jI (x + z)) :: r) st M) : jX G y R cl sl E Z pc (a0 :: a1 :: a2 :: a3 :: a4 :: .int (jI x) :: r) st M := jg_iinc hd hn rfl hm hc k
theorem jr_istore6 {a0 a1 a2 a3 a4 a5 a6 : Value} {r : List Value} {x : Int32} (hd : decode y.2.1 pc = .ok (.istore 6, 2)) (hn : n = pc + 2) (hm : 6 < y.2.2.1) (hc : jcat (a0 :: a1 :: a2 :: a3 :: a4 :: a5 :: a6 :: r) 6 = true) (k : jX G y R cl sl E Z n (a0 :: a1 :: a2 :: a3 :: a4 :: a5 :: .int x :: r) st M) : jX G y R cl sl E Z pc (a0 :: a1 :: a2 :: a3 :: a4 :: a5 :: a6 :: r) (.int x :: st) M := jg_istore hd hn (by simp only [List.length_cons]; first | omega | (show 3 < _; omega)) hm hc k
theorem jr_lstore6 {a0 a1 a2 a3 a4 a5 a6 b : Value} {r : List Value} {x : Int64} (hd : decode y.2.1 pc = .ok (.lstore 6, 2)) (hn : n = pc + 2) (hm : 6 + 1 < y.2.2.1) (hc : jcat (a0 :: a1 :: a2 :: a3 :: a4 :: a5 :: a6 :: b :: r) 6 = true) (k : jX G y R cl sl E Z n (a0 :: a1 :: a2 :: a3 :: a4 :: a5 :: .long x :: .null :: r) st M) : jX G y R cl sl E Z pc (a0 :: a1 :: a2 :: a3 :: a4 :: a5 :: a6 :: b :: r) (.long x :: st) M := jg_lstore hd hn (by simp only [List.length_cons]; first | omega | (show 3 + 1 < _; omega)) hm hc k
theorem jr_iinc6 {a0 : Value} {a1 : Value} {a2 : Value} {a3 : Value} {a4 : Value} {a5 : Value} {r : List Value} {z x : Int} (hd : decode y.2.1 pc = .ok (.iinc 6 z, 3)) (hn : n = pc + 3) (hm : 6 < y.2.2.1) (hc : jcat (a0 :: a1 :: a2 :: a3 :: a4 :: a5 :: .int (jI x) :: r) 6 = true) (k : jX G y R cl sl E Z n (a0 :: a1 :: a2 :: a3 :: a4 :: a5 :: .int (jI (x + z)) :: r) st M) : jX G y R cl sl E Z pc (a0 :: a1 :: a2 :: a3 :: a4 :: a5 :: .int (jI x) :: r) st M := jg_iinc hd hn rfl hm hc k
theorem jr_istore7 {a0 a1 a2 a3 a4 a5 a6 a7 : Value} {r : List Value} {x : Int32} (hd : decode y.2.1 pc = .ok (.istore 7, 2)) (hn : n = pc + 2) (hm : 7 < y.2.2.1) (hc : jcat (a0 :: a1 :: a2 :: a3 :: a4 :: a5 :: a6 :: a7 :: r) 7 = true) (k : jX G y R cl sl E Z n (a0 :: a1 :: a2 :: a3 :: a4 :: a5 :: a6 :: .int x :: r) st M) : jX G y R cl sl E Z pc (a0 :: a1 :: a2 :: a3 :: a4 :: a5 :: a6 :: a7 :: r) (.int x :: st) M := jg_istore hd hn (by simp only [List.length_cons]; first | omega | (show 3 < _; omega)) hm hc k
theorem jr_lstore7 {a0 a1 a2 a3 a4 a5 a6 a7 b : Value} {r : List Value} {x : Int64} (hd : decode y.2.1 pc = .ok (.lstore 7, 2)) (hn : n = pc + 2) (hm : 7 + 1 < y.2.2.1) (hc : jcat (a0 :: a1 :: a2 :: a3 :: a4 :: a5 :: a6 :: a7 :: b :: r) 7 = true) (k : jX G y R cl sl E Z n (a0 :: a1 :: a2 :: a3 :: a4 :: a5 :: a6 :: .long x :: .null :: r) st M) : jX G y R cl sl E Z pc (a0 :: a1 :: a2 :: a3 :: a4 :: a5 :: a6 :: a7 :: b :: r) (.long x :: st) M := jg_lstore hd hn (by simp only [List.length_cons]; first | omega | (show 3 + 1 < _; omega)) hm hc k
theorem jr_iinc7 {a0 : Value} {a1 : Value} {a2 : Value} {a3 : Value} {a4 : Value} {a5 : Value} {a6 : Value} {r : List Value} {z x : Int} (hd : decode y.2.1 pc = .ok (.iinc 7 z, 3)) (hn : n = pc + 3) (hm : 7 < y.2.2.1) (hc : jcat (a0 :: a1 :: a2 :: a3 :: a4 :: a5 :: a6 :: .int (jI x) :: r) 7 = true) (k : jX G y R cl sl E Z n (a0 :: a1 :: a2 :: a3 :: a4 :: a5 :: a6 :: .int (jI (x + z)) :: r) st M) : jX G y R cl sl E Z pc (a0 :: a1 :: a2 :: a3 :: a4 :: a5 :: a6 :: .int (jI x) :: r) st M := jg_iinc hd hn rfl hm hc k
theorem jr_istore8 {a0 a1 a2 a3 a4 a5 a6 a7 a8 : Value} {r : List Value} {x : Int32} (hd : decode y.2.1 pc = .ok (.istore 8, 2)) (hn : n = pc + 2) (hm : 8 < y.2.2.1) (hc : jcat (a0 :: a1 :: a2 :: a3 :: a4 :: a5 :: a6 :: a7 :: a8 :: r) 8 = true) (k : jX G y R cl sl E Z n (a0 :: a1 :: a2 :: a3 :: a4 :: a5 :: a6 :: a7 :: .int x :: r) st M) : jX G y R cl sl E Z pc (a0 :: a1 :: a2 :: a3 :: a4 :: a5 :: a6 :: a7 :: a8 :: r) (.int x :: st) M := jg_istore hd hn (by simp only [List.length_cons]; first | omega | (show 3 < _; omega)) hm hc k
theorem jr_lstore8 {a0 a1 a2 a3 a4 a5 a6 a7 a8 b : Value} {r : List Value} {x : Int64} (hd : decode y.2.1 pc = .ok (.lstore 8, 2)) (hn : n = pc + 2) (hm : 8 + 1 < y.2.2.1) (hc : jcat (a0 :: a1 :: a2 :: a3 :: a4 :: a5 :: a6 :: a7 :: a8 :: b :: r) 8 = true) (k : jX G y R cl sl E Z n (a0 :: a1 :: a2 :: a3 :: a4 :: a5 :: a6 :: a7 :: .long x :: .null :: r) st M) : jX G y R cl sl E Z pc (a0 :: a1 :: a2 :: a3 :: a4 :: a5 :: a6 :: a7 :: a8 :: b :: r) (.long x :: st) M := jg_lstore hd hn (by simp only [List.length_cons]; first | omega | (show 3 + 1 < _; omega)) hm hc k
theorem jr_iinc8 {a0 : Value} {a1 : Value} {a2 : Value} {a3 : Value} {a4 : Value} {a5 : Value} {a6 : Value} {a7 : Value} {r : List Value} {z x : Int} (hd : decode y.2.1 pc = .ok (.iinc 8 z, 3)) (hn : n = pc + 3) (hm : 8 < y.2.2.1) (hc : jcat (a0 :: a1 :: a2 :: a3 :: a4 :: a5 :: a6 :: a7 :: .int (jI x) :: r) 8 = true) (k : jX G y R cl sl E Z n (a0 :: a1 :: a2 :: a3 :: a4 :: a5 :: a6 :: a7 :: .int (jI (x + z)) :: r) st M) : jX G y R cl sl E Z pc (a0 :: a1 :: a2 :: a3 :: a4 :: a5 :: a6 :: a7 :: .int (jI x) :: r) st M := jg_iinc hd hn rfl hm hc k
theorem jr_istore9 {a0 a1 a2 a3 a4 a5 a6 a7 a8 a9 : Value} {r : List Value} {x : Int32} (hd : decode y.2.1 pc = .ok (.istore 9, 2)) (hn : n = pc + 2) (hm : 9 < y.2.2.1) (hc : jcat (a0 :: a1 :: a2 :: a3 :: a4 :: a5 :: a6 :: a7 :: a8 :: a9 :: r) 9 = true) (k : jX G y R cl sl E Z n (a0 :: a1 :: a2 :: a3 :: a4 :: a5 :: a6 :: a7 :: a8 :: .int x :: r) st M) : jX G y R cl sl E Z pc (a0 :: a1 :: a2 :: a3 :: a4 :: a5 :: a6 :: a7 :: a8 :: a9 :: r) (.int x :: st) M := jg_istore hd hn (by simp only [List.length_cons]; first | omega | (show 3 < _; omega)) hm hc k
theorem jr_lstore9 {a0 a1 a2 a3 a4 a5 a6 a7 a8 a9 b : Value} {r : List Value} {x : Int64} (hd : decode y.2.1 pc = .ok (.lstore 9, 2)) (hn : n = pc + 2) (hm : 9 + 1 < y.2.2.1) (hc : jcat (a0 :: a1 :: a2 :: a3 :: a4 :: a5 :: a6 :: a7 :: a8 :: a9 :: b :: r) 9 = true) (k : jX G y R cl sl E Z n (a0 :: a1 :: a2 :: a3 :: a4 :: a5 :: a6 :: a7 :: a8 :: .long x :: .null :: r) st M) : jX G y R cl sl E Z pc (a0 :: a1 :: a2 :: a3 :: a4 :: a5 :: a6 :: a7 :: a8 :: a9 :: b :: r) (.long x :: st) M := jg_lstore hd hn (by simp only [List.length_cons]; first | omega | (show 3 + 1 < _; omega)) hm hc k
theorem jr_iinc9 {a0 : Value} {a1 : Value} {a2 : Value} {a3 : Value} {a4 : Value} {a5 : Value} {a6 : Value} {a7 : Value} {a8 : Value} {r : List Value} {z x : Int} (hd : decode y.2.1 pc = .ok (.iinc 9 z, 3)) (hn : n = pc + 3) (hm : 9 < y.2.2.1) (hc : jcat (a0 :: a1 :: a2 :: a3 :: a4 :: a5 :: a6 :: a7 :: a8 :: .int (jI x) :: r) 9 = true) (k : jX G y R cl sl E Z n (a0 :: a1 :: a2 :: a3 :: a4 :: a5 :: a6 :: a7 :: a8 :: .int (jI (x + z)) :: r) st M) : jX G y R cl sl E Z pc (a0 :: a1 :: a2 :: a3 :: a4 :: a5 :: a6 :: a7 :: a8 :: .int (jI x) :: r) st M := jg_iinc hd hn rfl hm hc k
theorem jr_istore10 {a0 a1 a2 a3 a4 a5 a6 a7 a8 a9 a10 : Value} {r : List Value} {x : Int32} (hd : decode y.2.1 pc = .ok (.istore 10, 2)) (hn : n = pc + 2) (hm : 10 < y.2.2.1) (hc : jcat (a0 :: a1 :: a2 :: a3 :: a4 :: a5 :: a6 :: a7 :: a8 :: a9 :: a10 :: r) 10 = true) (k : jX G y R cl sl E Z n (a0 :: a1 :: a2 :: a3 :: a4 :: a5 :: a6 :: a7 :: a8 :: a9 :: .int x :: r) st M) : jX G y R cl sl E Z pc (a0 :: a1 :: a2 :: a3 :: a4 :: a5 :: a6 :: a7 :: a8 :: a9 :: a10 :: r) (.int x :: st) M := jg_istore hd hn (by simp only [List.length_cons]; first | omega | (show 3 < _; omega)) hm hc k
theorem jr_lstore10 {a0 a1 a2 a3 a4 a5 a6 a7 a8 a9 a10 b : Value} {r : List Value} {x : Int64} (hd : decode y.2.1 pc = .ok (.lstore 10, 2)) (hn : n = pc + 2) (hm : 10 + 1 < y.2.2.1) (hc : jcat (a0 :: a1 :: a2 :: a3 :: a4 :: a5 :: a6 :: a7 :: a8 :: a9 :: a10 :: b :: r) 10 = true) (k : jX G y R cl sl E Z n (a0 :: a1 :: a2 :: a3 :: a4 :: a5 :: a6 :: a7 :: a8 :: a9 :: .long x :: .null :: r) st M) : jX G y R cl sl E Z pc (a0 :: a1 :: a2 :: a3 :: a4 :: a5 :: a6 :: a7 :: a8 :: a9 :: a10 :: b :: r) (.long x :: st) M := jg_lstore hd hn (by simp only [List.length_cons]; first | omega | (show 3 + 1 < _; omega)) hm hc k
theorem jr_iinc10 {a0 : Value} {a1 : Value} {a2 : Value} {a3 : Value} {a4 : Value} {a5 : Value} {a6 : Value} {a7 : Value} {a8 : Value} {a9 : Value} {r : List Value} {z x : Int} (hd : decode y.2.1 pc = .ok (.iinc 10 z, 3)) (hn : n = pc + 3) (hm : 10 < y.2.2.1) (hc : jcat (a0 :: a1 :: a2 :: a3 :: a4 :: a5 :: a6 :: a7 :: a8 :: a9 :: .int (jI x) :: r) 10 = true) (k : jX G y R cl sl E Z n (a0 :: a1 :: a2 :: a3 :: a4 :: a5 :: a6 :: a7 :: a8 :: a9 :: .int (jI (x + z)) :: r) st M) : jX G y R cl sl E Z pc (a0 :: a1 :: a2 :: a3 :: a4 :: a5 :: a6 :: a7 :: a8 :: a9 :: .int (jI x) :: r) st M := jg_iinc hd hn rfl hm hc k
theorem jr_istore11 {a0 a1 a2 a3 a4 a5 a6 a7 a8 a9 a10 a11 : Value} {r : List Value} {x : Int32} (hd : decode y.2.1 pc = .ok (.istore 11, 2)) (hn : n = pc + 2) (hm : 11 < y.2.2.1) (hc : jcat (a0 :: a1 :: a2 :: a3 :: a4 :: a5 :: a6 :: a7 :: a8 :: a9 :: a10 :: a11 :: r) 11 = true) (k : jX G y R cl sl E Z n (a0 :: a1 :: a2 :: a3 :: a4 :: a5 :: a6 :: a7 :: a8 :: a9 :: a10 :: .int x :: r) st M) : jX G y R cl sl E Z pc (a0 :: a1 :: a2 :: a3 :: a4 :: a5 :: a6 :: a7 :: a8 :: a9 :: a10 :: a11 :: r) (.int x :: st) M := jg_istore hd hn (by simp only [List.length_cons]; first | omega | (show 3 < _; omega)) hm hc k
theorem jr_lstore11 {a0 a1 a2 a3 a4 a5 a6 a7 a8 a9 a10 a11 b : Value} {r : List Value} {x : Int64} (hd : decode y.2.1 pc = .ok (.lstore 11, 2)) (hn : n = pc + 2) (hm : 11 + 1 < y.2.2.1) (hc : jcat (a0 :: a1 :: a2 :: a3 :: a4 :: a5 :: a6 :: a7 :: a8 :: a9 :: a10 :: a11 :: b :: r) 11 = true) (k : jX G y R cl sl E Z n (a0 :: a1 :: a2 :: a3 :: a4 :: a5 :: a6 :: a7 :: a8 :: a9 :: a10 :: .long x :: .null :: r) st M) : jX G y R cl sl E Z pc (a0 :: a1 :: a2 :: a3 :: a4 :: a5 :: a6 :: a7 :: a8 :: a9 :: a10 :: a11 :: b :: r) (.long x :: st) M := jg_lstore hd hn (by simp only [List.length_cons]; first | omega | (show 3 + 1 < _; omega)) hm hc k
theorem jr_iinc11 {a0 : Value} {a1 : Value} {a2 : Value} {a3 : Value} {a4 : Value} {a5 : Value} {a6 : Value} {a7 : Value} {a8 : Value} {a9 : Value} {a10 : Value} {r : List Value} {z x : Int} (hd : decode y.2.1 pc = .ok (.iinc 11 z, 3)) (hn : n = pc + 3) (hm : 11 < y.2.2.1) (hc : jcat (a0 :: a1 :: a2 :: a3 :: a4 :: a5 :: a6 :: a7 :: a8 :: a9 :: a10 :: .int (jI x) :: r) 11 = true) (k : jX G y R cl sl E Z n (a0 :: a1 :: a2 :: a3 :: a4 :: a5 :: a6 :: a7 :: a8 :: a9 :: a10 :: .int (jI (x + z)) :: r) st M) : jX G y R cl sl E Z pc (a0 :: a1 :: a2 :: a3 :: a4 :: a5 :: a6 :: a7 :: a8 :: a9 :: a10 :: .int (jI x) :: r) st M := jg_iinc hd hn rfl hm hc k
theorem jr_iadd {x z : Int} (hd : decode y.2.1 pc = .ok (.iadd, 1)) (hn : n = pc + 1)  (k : jX G y R cl sl E Z n l (.int (jI (x + z)) :: st) M) : jX G y R cl sl E Z pc l (.int (jI z) :: .int (jI x) :: st) M := by
  subst hn
  intro p e s m args below meth c H locs ls hC
  refine lv_iadd hC.1 hC.2.1 hd  ?_
  rw [jI_add]
  exact k _ _ _ _ _ _ _ _ _ _ _ hC
theorem jr_isub {x z : Int} (hd : decode y.2.1 pc = .ok (.isub, 1)) (hn : n = pc + 1)  (k : jX G y R cl sl E Z n l (.int (jI (x - z)) :: st) M) : jX G y R cl sl E Z pc l (.int (jI z) :: .int (jI x) :: st) M := by
  subst hn
  intro p e s m args below meth c H locs ls hC
  refine lv_isub hC.1 hC.2.1 hd  ?_
  rw [jI_sub]
  exact k _ _ _ _ _ _ _ _ _ _ _ hC
theorem jr_imul {x z : Int} (hd : decode y.2.1 pc = .ok (.imul, 1)) (hn : n = pc + 1)  (k : jX G y R cl sl E Z n l (.int (jI (x * z)) :: st) M) : jX G y R cl sl E Z pc l (.int (jI z) :: .int (jI x) :: st) M := by
  subst hn
  intro p e s m args below meth c H locs ls hC
  refine lv_imul hC.1 hC.2.1 hd  ?_
  rw [jI_mul]
  exact k _ _ _ _ _ _ _ _ _ _ _ hC
theorem jr_ladd {x z : Int} (hd : decode y.2.1 pc = .ok (.ladd, 1)) (hn : n = pc + 1)  (k : jX G y R cl sl E Z n l (.long (jL (x + z)) :: st) M) : jX G y R cl sl E Z pc l (.long (jL z) :: .long (jL x) :: st) M := by
  subst hn
  intro p e s m args below meth c H locs ls hC
  refine lv_ladd hC.1 hC.2.1 hd  ?_
  rw [jL_add]
  exact k _ _ _ _ _ _ _ _ _ _ _ hC
theorem jr_lsub {x z : Int} (hd : decode y.2.1 pc = .ok (.lsub, 1)) (hn : n = pc + 1)  (k : jX G y R cl sl E Z n l (.long (jL (x - z)) :: st) M) : jX G y R cl sl E Z pc l (.long (jL z) :: .long (jL x) :: st) M := by
  subst hn
  intro p e s m args below meth c H locs ls hC
  refine lv_lsub hC.1 hC.2.1 hd  ?_
  rw [jL_sub]
  exact k _ _ _ _ _ _ _ _ _ _ _ hC
theorem jr_lmul {x z : Int} (hd : decode y.2.1 pc = .ok (.lmul, 1)) (hn : n = pc + 1)  (k : jX G y R cl sl E Z n l (.long (jL (x * z)) :: st) M) : jX G y R cl sl E Z pc l (.long (jL z) :: .long (jL x) :: st) M := by
  subst hn
  intro p e s m args below meth c H locs ls hC
  refine lv_lmul hC.1 hC.2.1 hd  ?_
  rw [jL_mul]
  exact k _ _ _ _ _ _ _ _ _ _ _ hC
def jand (x z : Int) : Int := (jI x &&& jI z).toInt
def jor (x z : Int) : Int := (jI x ||| jI z).toInt
def jxor (x z : Int) : Int := (jI x ^^^ jI z).toInt
def jshl (x z : Int) : Int := (jI x <<< (jI z &&& 31)).toInt
def jshr (x z : Int) : Int := (jI x >>> (jI z &&& 31)).toInt
def jush (x z : Int) : Int := ((jI x).toUInt32 >>> ((jI z).toUInt32 &&& Int32.toUInt32 31)).toInt32.toInt
def jbyt (x : Int) : Int := (jI x).toInt8.toInt32.toInt
def jdiv (x z : Int) : Int := (jI x / jI z).toInt
def jlc (x z : Int) : Int := if jL x > jL z then 1 else if jL x = jL z then 0 else -1
theorem jlc_eq (x z : Int) : lg_cmp (jL x) (jL z) = jI (jlc x z) := by
  unfold lg_cmp jlc
  split
  · rfl
  · split <;> rfl
theorem jlc_R (x z : Int) : jR (jlc x z) := by
  unfold jlc
  split
  · omega
  · split <;> omega
theorem jr_iand {x z : Int} (hd : decode y.2.1 pc = .ok (.iand, 1)) (hn : n = pc + 1)  (k : jX G y R cl sl E Z n l (.int (jI (jand x z)) :: st) M) : jX G y R cl sl E Z pc l (.int (jI z) :: .int (jI x) :: st) M := by
  subst hn
  intro p e s m args below meth c H locs ls hC
  refine lv_iand hC.1 hC.2.1 hd  ?_
  rw [show _ = jI (jand x z) from (jI_of _).symm]
  exact k _ _ _ _ _ _ _ _ _ _ _ hC
theorem jr_ior {x z : Int} (hd : decode y.2.1 pc = .ok (.ior, 1)) (hn : n = pc + 1)  (k : jX G y R cl sl E Z n l (.int (jI (jor x z)) :: st) M) : jX G y R cl sl E Z pc l (.int (jI z) :: .int (jI x) :: st) M := by
  subst hn
  intro p e s m args below meth c H locs ls hC
  refine lv_ior hC.1 hC.2.1 hd  ?_
  rw [show _ = jI (jor x z) from (jI_of _).symm]
  exact k _ _ _ _ _ _ _ _ _ _ _ hC
theorem jr_ixor {x z : Int} (hd : decode y.2.1 pc = .ok (.ixor, 1)) (hn : n = pc + 1)  (k : jX G y R cl sl E Z n l (.int (jI (jxor x z)) :: st) M) : jX G y R cl sl E Z pc l (.int (jI z) :: .int (jI x) :: st) M := by
  subst hn
  intro p e s m args below meth c H locs ls hC
  refine lv_ixor hC.1 hC.2.1 hd  ?_
  rw [show _ = jI (jxor x z) from (jI_of _).symm]
  exact k _ _ _ _ _ _ _ _ _ _ _ hC
theorem jr_ishl {x z : Int} (hd : decode y.2.1 pc = .ok (.ishl, 1)) (hn : n = pc + 1)  (k : jX G y R cl sl E Z n l (.int (jI (jshl x z)) :: st) M) : jX G y R cl sl E Z pc l (.int (jI z) :: .int (jI x) :: st) M := by
  subst hn
  intro p e s m args below meth c H locs ls hC
  refine lv_ishl hC.1 hC.2.1 hd  ?_
  rw [show _ = jI (jshl x z) from (jI_of _).symm]
  exact k _ _ _ _ _ _ _ _ _ _ _ hC
theorem jr_ishr {x z : Int} (hd : decode y.2.1 pc = .ok (.ishr, 1)) (hn : n = pc + 1)  (k : jX G y R cl sl E Z n l (.int (jI (jshr x z)) :: st) M) : jX G y R cl sl E Z pc l (.int (jI z) :: .int (jI x) :: st) M := by
  subst hn
  intro p e s m args below meth c H locs ls hC
  refine lv_ishr hC.1 hC.2.1 hd  ?_
  rw [show _ = jI (jshr x z) from (jI_of _).symm]
  exact k _ _ _ _ _ _ _ _ _ _ _ hC
theorem jr_iushr {x z : Int} (hd : decode y.2.1 pc = .ok (.iushr, 1)) (hn : n = pc + 1)  (k : jX G y R cl sl E Z n l (.int (jI (jush x z)) :: st) M) : jX G y R cl sl E Z pc l (.int (jI z) :: .int (jI x) :: st) M := by
  subst hn
  intro p e s m args below meth c H locs ls hC
  refine lv_iushr hC.1 hC.2.1 hd (jI_of _).symm ?_
  exact k _ _ _ _ _ _ _ _ _ _ _ hC
theorem jr_i2b {x : Int} (hd : decode y.2.1 pc = .ok (.i2b, 1)) (hn : n = pc + 1)  (k : jX G y R cl sl E Z n l (.int (jI (jbyt x)) :: st) M) : jX G y R cl sl E Z pc l (.int (jI x) :: st) M := by
  subst hn
  intro p e s m args below meth c H locs ls hC
  refine lv_i2b hC.1 hC.2.1 hd (jI_of _).symm ?_
  exact k _ _ _ _ _ _ _ _ _ _ _ hC
theorem jr_i2l {x : Int} (hd : decode y.2.1 pc = .ok (.i2l, 1)) (hn : n = pc + 1) (hx : jR x) (k : jX G y R cl sl E Z n l (.long (jL x) :: st) M) : jX G y R cl sl E Z pc l (.int (jI x) :: st) M := by
  subst hn
  intro p e s m args below meth c H locs ls hC
  refine lv_i2l hC.1 hC.2.1 hd (jI_l hx) ?_
  exact k _ _ _ _ _ _ _ _ _ _ _ hC
theorem jr_idiv {x z : Int} (hd : decode y.2.1 pc = .ok (.idiv, 1)) (hn : n = pc + 1) (hz : ¬ jI z = 0) (k : jX G y R cl sl E Z n l (.int (jI (jdiv x z)) :: st) M) : jX G y R cl sl E Z pc l (.int (jI z) :: .int (jI x) :: st) M := by
  subst hn
  intro p e s m args below meth c H locs ls hC
  refine lv_idiv hC.1 hC.2.1 hd hz ?_
  rw [show _ = jI (jdiv x z) from (jI_of _).symm]
  exact k _ _ _ _ _ _ _ _ _ _ _ hC
theorem jr_lcmp {x z : Int} (hd : decode y.2.1 pc = .ok (.lcmp, 1)) (hn : n = pc + 1)  (k : jX G y R cl sl E Z n l (.int (jI (jlc x z)) :: st) M) : jX G y R cl sl E Z pc l (.long (jL z) :: .long (jL x) :: st) M := by
  subst hn
  intro p e s m args below meth c H locs ls hC
  refine W.lcmp hC.1 hC.2.1 hd  ?_
  rw [jlc_eq]
  exact k _ _ _ _ _ _ _ _ _ _ _ hC
theorem jr_dup {v : Value} (hd : decode y.2.1 pc = .ok (.dup, 1)) (hn : n = pc + 1) (hv : v.category = 1) (k : jX G y R cl sl E Z n l (v :: v :: st) M) : jX G y R cl sl E Z pc l (v :: st) M := by
  subst hn
  intro p e s m args below meth c H locs ls hC
  refine lv_dup hC.1 hC.2.1 hd hv ?_
  exact k _ _ _ _ _ _ _ _ _ _ _ hC
theorem jr_dup2 {v u : Value} (hd : decode y.2.1 pc = .ok (.dup2, 1)) (hn : n = pc + 1) (hv : v.category = 1) (hu : u.category = 1) (k : jX G y R cl sl E Z n l (v :: u :: v :: u :: st) M) : jX G y R cl sl E Z pc l (v :: u :: st) M := by
  subst hn
  intro p e s m args below meth c H locs ls hC
  refine lv_dup2_11 hC.1 hC.2.1 hd hv hu ?_
  exact k _ _ _ _ _ _ _ _ _ _ _ hC
theorem jr_icmp_eq {x z : Int} {t : Nat} {off : Int} (hd : decode y.2.1 pc = .ok (.if_icmp .eq off, 3)) (ht : (pc : Int) + off = (t : Int)) (hn : n = pc + 3) (hx : jR x) (hz : jR z) (kt : x = z → jX G y R cl sl E Z t l st M) (kf : x ≠ z → jX G y R cl sl E Z n l st M) : jX G y R cl sl E Z pc l (.int (jI z) :: .int (jI x) :: st) M := by
  subst hn
  intro p e s m args below meth c H locs ls hC
  refine lv_icmp_eq hC.1 hC.2.1 hd ht (fun q => kt ?_ _ _ _ _ _ _ _ _ _ _ _ hC) (fun q => kf ?_ _ _ _ _ _ _ _ _ _ _ _ hC)
  all_goals (simp only [ge_iff_le, gt_iff_lt, jI_lt hx hz, jI_lt hz hx, jI_le hx hz, jI_le hz hx, jI_eq hx hz] at q; omega)
theorem jr_if_eq {x : Int} {t : Nat} {off : Int} (hd : decode y.2.1 pc = .ok (.ifCond .eq off, 3)) (ht : (pc : Int) + off = (t : Int)) (hn : n = pc + 3) (hx : jR x) (kt : x = 0 → jX G y R cl sl E Z t l st M) (kf : x ≠ 0 → jX G y R cl sl E Z n l st M) : jX G y R cl sl E Z pc l (.int (jI x) :: st) M := by
  subst hn
  intro p e s m args below meth c H locs ls hC
  have hz : jR 0 := by omega
  refine lv_if_eq hC.1 hC.2.1 hd ht (fun q => kt ?_ _ _ _ _ _ _ _ _ _ _ _ hC) (fun q => kf ?_ _ _ _ _ _ _ _ _ _ _ _ hC)
  all_goals (rw [← jI_0] at q; simp only [ge_iff_le, gt_iff_lt, jI_lt hx hz, jI_lt hz hx, jI_le hx hz, jI_le hz hx, jI_eq hx hz] at q; omega)
theorem jr_ifT_eq {x : Int} {t : Nat} {off : Int} (hd : decode y.2.1 pc = .ok (.ifCond .eq off, 3)) (ht : (pc : Int) + off = (t : Int)) (hx : jR x) (h : x = 0) (kt : jX G y R cl sl E Z t l st M) : jX G y R cl sl E Z pc l (.int (jI x) :: st) M := jr_if_eq hd ht rfl hx (fun _ => kt) (fun q => absurd q (by omega))
theorem jr_ifF_eq {x : Int} {off : Int} (hd : decode y.2.1 pc = .ok (.ifCond .eq off, 3)) (hn : n = pc + 3) {t : Nat} (ht : (pc : Int) + off = (t : Int)) (hx : jR x) (h : x ≠ 0) (kf : jX G y R cl sl E Z n l st M) : jX G y R cl sl E Z pc l (.int (jI x) :: st) M := jr_if_eq hd ht hn hx (fun q => absurd q (by omega)) (fun _ => kf)
theorem jr_icmp_ne {x z : Int} {t : Nat} {off : Int} (hd : decode y.2.1 pc = .ok (.if_icmp .ne off, 3)) (ht : (pc : Int) + off = (t : Int)) (hn : n = pc + 3) (hx : jR x) (hz : jR z) (kt : x ≠ z → jX G y R cl sl E Z t l st M) (kf : x = z → jX G y R cl sl E Z n l st M) : jX G y R cl sl E Z pc l (.int (jI z) :: .int (jI x) :: st) M := by
  subst hn
  intro p e s m args below meth c H locs ls hC
  refine lv_icmp_ne hC.1 hC.2.1 hd ht (fun q => kt ?_ _ _ _ _ _ _ _ _ _ _ _ hC) (fun q => kf ?_ _ _ _ _ _ _ _ _ _ _ _ hC)
  all_goals (simp only [ge_iff_le, gt_iff_lt, jI_lt hx hz, jI_lt hz hx, jI_le hx hz, jI_le hz hx, jI_eq hx hz] at q; omega)
theorem jr_if_ne {x : Int} {t : Nat} {off : Int} (hd : decode y.2.1 pc = .ok (.ifCond .ne off, 3)) (ht : (pc : Int) + off = (t : Int)) (hn : n = pc + 3) (hx : jR x) (kt : x ≠ 0 → jX G y R cl sl E Z t l st M) (kf : x = 0 → jX G y R cl sl E Z n l st M) : jX G y R cl sl E Z pc l (.int (jI x) :: st) M := by
  subst hn
  intro p e s m args below meth c H locs ls hC
  have hz : jR 0 := by omega
  refine lv_if_ne hC.1 hC.2.1 hd ht (fun q => kt ?_ _ _ _ _ _ _ _ _ _ _ _ hC) (fun q => kf ?_ _ _ _ _ _ _ _ _ _ _ _ hC)
  all_goals (rw [← jI_0] at q; simp only [ge_iff_le, gt_iff_lt, jI_lt hx hz, jI_lt hz hx, jI_le hx hz, jI_le hz hx, jI_eq hx hz] at q; omega)
theorem jr_ifT_ne {x : Int} {t : Nat} {off : Int} (hd : decode y.2.1 pc = .ok (.ifCond .ne off, 3)) (ht : (pc : Int) + off = (t : Int)) (hx : jR x) (h : x ≠ 0) (kt : jX G y R cl sl E Z t l st M) : jX G y R cl sl E Z pc l (.int (jI x) :: st) M := jr_if_ne hd ht rfl hx (fun _ => kt) (fun q => absurd q (by omega))
theorem jr_ifF_ne {x : Int} {off : Int} (hd : decode y.2.1 pc = .ok (.ifCond .ne off, 3)) (hn : n = pc + 3) {t : Nat} (ht : (pc : Int) + off = (t : Int)) (hx : jR x) (h : x = 0) (kf : jX G y R cl sl E Z n l st M) : jX G y R cl sl E Z pc l (.int (jI x) :: st) M := jr_if_ne hd ht hn hx (fun q => absurd q (by omega)) (fun _ => kf)
theorem jr_icmp_lt {x z : Int} {t : Nat} {off : Int} (hd : decode y.2.1 pc = .ok (.if_icmp .lt off, 3)) (ht : (pc : Int) + off = (t : Int)) (hn : n = pc + 3) (hx : jR x) (hz : jR z) (kt : x < z → jX G y R cl sl E Z t l st M) (kf : z ≤ x → jX G y R cl sl E Z n l st M) : jX G y R cl sl E Z pc l (.int (jI z) :: .int (jI x) :: st) M := by
  subst hn
  intro p e s m args below meth c H locs ls hC
  refine lv_icmp_lt hC.1 hC.2.1 hd ht (fun q => kt ?_ _ _ _ _ _ _ _ _ _ _ _ hC) (fun q => kf ?_ _ _ _ _ _ _ _ _ _ _ _ hC)
  all_goals (simp only [ge_iff_le, gt_iff_lt, jI_lt hx hz, jI_lt hz hx, jI_le hx hz, jI_le hz hx, jI_eq hx hz] at q; omega)
theorem jr_if_lt {x : Int} {t : Nat} {off : Int} (hd : decode y.2.1 pc = .ok (.ifCond .lt off, 3)) (ht : (pc : Int) + off = (t : Int)) (hn : n = pc + 3) (hx : jR x) (kt : x < 0 → jX G y R cl sl E Z t l st M) (kf : 0 ≤ x → jX G y R cl sl E Z n l st M) : jX G y R cl sl E Z pc l (.int (jI x) :: st) M := by
  subst hn
  intro p e s m args below meth c H locs ls hC
  have hz : jR 0 := by omega
  refine lv_if_lt hC.1 hC.2.1 hd ht (fun q => kt ?_ _ _ _ _ _ _ _ _ _ _ _ hC) (fun q => kf ?_ _ _ _ _ _ _ _ _ _ _ _ hC)
  all_goals (rw [← jI_0] at q; simp only [ge_iff_le, gt_iff_lt, jI_lt hx hz, jI_lt hz hx, jI_le hx hz, jI_le hz hx, jI_eq hx hz] at q; omega)
theorem jr_ifT_lt {x : Int} {t : Nat} {off : Int} (hd : decode y.2.1 pc = .ok (.ifCond .lt off, 3)) (ht : (pc : Int) + off = (t : Int)) (hx : jR x) (h : x < 0) (kt : jX G y R cl sl E Z t l st M) : jX G y R cl sl E Z pc l (.int (jI x) :: st) M := jr_if_lt hd ht rfl hx (fun _ => kt) (fun q => absurd q (by omega))
theorem jr_ifF_lt {x : Int} {off : Int} (hd : decode y.2.1 pc = .ok (.ifCond .lt off, 3)) (hn : n = pc + 3) {t : Nat} (ht : (pc : Int) + off = (t : Int)) (hx : jR x) (h : 0 ≤ x) (kf : jX G y R cl sl E Z n l st M) : jX G y R cl sl E Z pc l (.int (jI x) :: st) M := jr_if_lt hd ht hn hx (fun q => absurd q (by omega)) (fun _ => kf)
theorem jr_icmp_ge {x z : Int} {t : Nat} {off : Int} (hd : decode y.2.1 pc = .ok (.if_icmp .ge off, 3)) (ht : (pc : Int) + off = (t : Int)) (hn : n = pc + 3) (hx : jR x) (hz : jR z) (kt : z ≤ x → jX G y R cl sl E Z t l st M) (kf : x < z → jX G y R cl sl E Z n l st M) : jX G y R cl sl E Z pc l (.int (jI z) :: .int (jI x) :: st) M := by
  subst hn
  intro p e s m args below meth c H locs ls hC
  refine lv_icmp_ge hC.1 hC.2.1 hd ht (fun q => kt ?_ _ _ _ _ _ _ _ _ _ _ _ hC) (fun q => kf ?_ _ _ _ _ _ _ _ _ _ _ _ hC)
  all_goals (simp only [ge_iff_le, gt_iff_lt, jI_lt hx hz, jI_lt hz hx, jI_le hx hz, jI_le hz hx, jI_eq hx hz] at q; omega)
theorem jr_if_ge {x : Int} {t : Nat} {off : Int} (hd : decode y.2.1 pc = .ok (.ifCond .ge off, 3)) (ht : (pc : Int) + off = (t : Int)) (hn : n = pc + 3) (hx : jR x) (kt : 0 ≤ x → jX G y R cl sl E Z t l st M) (kf : x < 0 → jX G y R cl sl E Z n l st M) : jX G y R cl sl E Z pc l (.int (jI x) :: st) M := by
  subst hn
  intro p e s m args below meth c H locs ls hC
  have hz : jR 0 := by omega
  refine lv_if_ge hC.1 hC.2.1 hd ht (fun q => kt ?_ _ _ _ _ _ _ _ _ _ _ _ hC) (fun q => kf ?_ _ _ _ _ _ _ _ _ _ _ _ hC)
  all_goals (rw [← jI_0] at q; simp only [ge_iff_le, gt_iff_lt, jI_lt hx hz, jI_lt hz hx, jI_le hx hz, jI_le hz hx, jI_eq hx hz] at q; omega)
theorem jr_ifT_ge {x : Int} {t : Nat} {off : Int} (hd : decode y.2.1 pc = .ok (.ifCond .ge off, 3)) (ht : (pc : Int) + off = (t : Int)) (hx : jR x) (h : 0 ≤ x) (kt : jX G y R cl sl E Z t l st M) : jX G y R cl sl E Z pc l (.int (jI x) :: st) M := jr_if_ge hd ht rfl hx (fun _ => kt) (fun q => absurd q (by omega))
theorem jr_ifF_ge {x : Int} {off : Int} (hd : decode y.2.1 pc = .ok (.ifCond .ge off, 3)) (hn : n = pc + 3) {t : Nat} (ht : (pc : Int) + off = (t : Int)) (hx : jR x) (h : x < 0) (kf : jX G y R cl sl E Z n l st M) : jX G y R cl sl E Z pc l (.int (jI x) :: st) M := jr_if_ge hd ht hn hx (fun q => absurd q (by omega)) (fun _ => kf)
theorem jr_icmp_gt {x z : Int} {t : Nat} {off : Int} (hd : decode y.2.1 pc = .ok (.if_icmp .gt off, 3)) (ht : (pc : Int) + off = (t : Int)) (hn : n = pc + 3) (hx : jR x) (hz : jR z) (kt : z < x → jX G y R cl sl E Z t l st M) (kf : x ≤ z → jX G y R cl sl E Z n l st M) : jX G y R cl sl E Z pc l (.int (jI z) :: .int (jI x) :: st) M := by
  subst hn
  intro p e s m args below meth c H locs ls hC
  refine lv_icmp_gt hC.1 hC.2.1 hd ht (fun q => kt ?_ _ _ _ _ _ _ _ _ _ _ _ hC) (fun q => kf ?_ _ _ _ _ _ _ _ _ _ _ _ hC)
  all_goals (simp only [ge_iff_le, gt_iff_lt, jI_lt hx hz, jI_lt hz hx, jI_le hx hz, jI_le hz hx, jI_eq hx hz] at q; omega)
theorem jr_if_gt {x : Int} {t : Nat} {off : Int} (hd : decode y.2.1 pc = .ok (.ifCond .gt off, 3)) (ht : (pc : Int) + off = (t : Int)) (hn : n = pc + 3) (hx : jR x) (kt : 0 < x → jX G y R cl sl E Z t l st M) (kf : x ≤ 0 → jX G y R cl sl E Z n l st M) : jX G y R cl sl E Z pc l (.int (jI x) :: st) M := by
  subst hn
  intro p e s m args below meth c H locs ls hC
  have hz : jR 0 := by omega
  refine lv_if_gt hC.1 hC.2.1 hd ht (fun q => kt ?_ _ _ _ _ _ _ _ _ _ _ _ hC) (fun q => kf ?_ _ _ _ _ _ _ _ _ _ _ _ hC)
  all_goals (rw [← jI_0] at q; simp only [ge_iff_le, gt_iff_lt, jI_lt hx hz, jI_lt hz hx, jI_le hx hz, jI_le hz hx, jI_eq hx hz] at q; omega)
theorem jr_ifT_gt {x : Int} {t : Nat} {off : Int} (hd : decode y.2.1 pc = .ok (.ifCond .gt off, 3)) (ht : (pc : Int) + off = (t : Int)) (hx : jR x) (h : 0 < x) (kt : jX G y R cl sl E Z t l st M) : jX G y R cl sl E Z pc l (.int (jI x) :: st) M := jr_if_gt hd ht rfl hx (fun _ => kt) (fun q => absurd q (by omega))
theorem jr_ifF_gt {x : Int} {off : Int} (hd : decode y.2.1 pc = .ok (.ifCond .gt off, 3)) (hn : n = pc + 3) {t : Nat} (ht : (pc : Int) + off = (t : Int)) (hx : jR x) (h : x ≤ 0) (kf : jX G y R cl sl E Z n l st M) : jX G y R cl sl E Z pc l (.int (jI x) :: st) M := jr_if_gt hd ht hn hx (fun q => absurd q (by omega)) (fun _ => kf)
theorem jr_icmp_le {x z : Int} {t : Nat} {off : Int} (hd : decode y.2.1 pc = .ok (.if_icmp .le off, 3)) (ht : (pc : Int) + off = (t : Int)) (hn : n = pc + 3) (hx : jR x) (hz : jR z) (kt : x ≤ z → jX G y R cl sl E Z t l st M) (kf : z < x → jX G y R cl sl E Z n l st M) : jX G y R cl sl E Z pc l (.int (jI z) :: .int (jI x) :: st) M := by
  subst hn
  intro p e s m args below meth c H locs ls hC
  refine lv_icmp_le hC.1 hC.2.1 hd ht (fun q => kt ?_ _ _ _ _ _ _ _ _ _ _ _ hC) (fun q => kf ?_ _ _ _ _ _ _ _ _ _ _ _ hC)
  all_goals (simp only [ge_iff_le, gt_iff_lt, jI_lt hx hz, jI_lt hz hx, jI_le hx hz, jI_le hz hx, jI_eq hx hz] at q; omega)
theorem jr_if_le {x : Int} {t : Nat} {off : Int} (hd : decode y.2.1 pc = .ok (.ifCond .le off, 3)) (ht : (pc : Int) + off = (t : Int)) (hn : n = pc + 3) (hx : jR x) (kt : x ≤ 0 → jX G y R cl sl E Z t l st M) (kf : 0 < x → jX G y R cl sl E Z n l st M) : jX G y R cl sl E Z pc l (.int (jI x) :: st) M := by
  subst hn
  intro p e s m args below meth c H locs ls hC
  have hz : jR 0 := by omega
  refine lv_if_le hC.1 hC.2.1 hd ht (fun q => kt ?_ _ _ _ _ _ _ _ _ _ _ _ hC) (fun q => kf ?_ _ _ _ _ _ _ _ _ _ _ _ hC)
  all_goals (rw [← jI_0] at q; simp only [ge_iff_le, gt_iff_lt, jI_lt hx hz, jI_lt hz hx, jI_le hx hz, jI_le hz hx, jI_eq hx hz] at q; omega)
theorem jr_ifT_le {x : Int} {t : Nat} {off : Int} (hd : decode y.2.1 pc = .ok (.ifCond .le off, 3)) (ht : (pc : Int) + off = (t : Int)) (hx : jR x) (h : x ≤ 0) (kt : jX G y R cl sl E Z t l st M) : jX G y R cl sl E Z pc l (.int (jI x) :: st) M := jr_if_le hd ht rfl hx (fun _ => kt) (fun q => absurd q (by omega))
theorem jr_ifF_le {x : Int} {off : Int} (hd : decode y.2.1 pc = .ok (.ifCond .le off, 3)) (hn : n = pc + 3) {t : Nat} (ht : (pc : Int) + off = (t : Int)) (hx : jR x) (h : 0 < x) (kf : jX G y R cl sl E Z n l st M) : jX G y R cl sl E Z pc l (.int (jI x) :: st) M := jr_if_le hd ht hn hx (fun q => absurd q (by omega)) (fun _ => kf)
theorem jr_goto {t : Nat} {off : Int} (hd : decode y.2.1 pc = .ok (.goto off, 3)) (ht : (pc : Int) + off = (t : Int)) (k : jX G y R cl sl E Z t l st M) : jX G y R cl sl E Z pc l st M := by
  intro p e s m args below meth c H locs ls hC
  exact lv_goto hC.1 hC.2.1 hd ht (k _ _ _ _ _ _ _ _ _ _ _ hC)
theorem jr_tabI {dflt lo hi : Int} {offs : Array Int} {len : Nat} {x off : Int} {t : Nat} (hd : decode y.2.1 pc = .ok (.tableswitch dflt lo hi offs, len)) (hx : jR x) (h1 : lo ≤ x) (h2 : x ≤ hi) (ho : offs[(x - lo).toNat]? = some off) (ht : (pc : Int) + off = (t : Int)) (k : jX G y R cl sl E Z t l st M) : jX G y R cl sl E Z pc l (.int (jI x) :: st) M := by
  intro p e s m args below meth c H locs ls hC
  exact lv_tableIn hC.1 hC.2.1 hd (by rw [jI_toInt hx]; omega) (by rw [jI_toInt hx]; omega) (by rw [jI_toInt hx]; exact ho) ht (k _ _ _ _ _ _ _ _ _ _ _ hC)
theorem jr_tabO {dflt lo hi : Int} {offs : Array Int} {len : Nat} {x : Int} {t : Nat} (hd : decode y.2.1 pc = .ok (.tableswitch dflt lo hi offs, len)) (hx : jR x) (h1 : x < lo ∨ hi < x) (ht : (pc : Int) + dflt = (t : Int)) (k : jX G y R cl sl E Z t l st M) : jX G y R cl sl E Z pc l (.int (jI x) :: st) M := by
  intro p e s m args below meth c H locs ls hC
  exact lv_tableOut hC.1 hC.2.1 hd (by rw [jI_toInt hx]; exact h1) ht (k _ _ _ _ _ _ _ _ _ _ _ hC)
theorem jr_iald {k N : Nat} {i : Int} (hd : decode y.2.1 pc = .ok (.iaload, 1)) (hn : n = pc + 1) (hk : jsh k = (0, N)) (hN : N < 1000) (h0 : 0 ≤ i) (h1 : i < N) (kk : jX G y R cl sl E Z n l (.int (jI (M k i)) :: st) M) : jX G y R cl sl E Z pc l (.int (jI i) :: .ref (jad G k) :: st) M := by
  subst hn
  intro p e s m args below meth c H locs ls hC
  have hC0 := hC
  obtain ⟨c1, c2, c3, c4, c5, c6, c7, c8, c9, c10, c11, c12⟩ := hC0
  have hkn : k < jNC := jsh_lt (by rw [hk]; exact (by decide : (0 : Nat) < 99))
  refine va_iald c1 c2 c9.1 c11.1 k 0 (by rw [jwd_get G M hkn]; unfold jcel; rw [hk]; rfl) (by rfl) (jI_in h0 h1 (by omega)) hd ?_
  have e : ((jI i).toNatClampNeg : Int) = i := by rw [jI_cl h0 (by omega)]; omega
  rw [e]
  exact kk _ _ _ _ _ _ _ _ _ _ _ hC
theorem jr_bald {k N : Nat} {i : Int} (hd : decode y.2.1 pc = .ok (.baload, 1)) (hn : n = pc + 1) (hk : jsh k = (2, N)) (hN : N < 1000) (h0 : 0 ≤ i) (h1 : i < N) (kk : jX G y R cl sl E Z n l (.int (jI (M k i)) :: st) M) : jX G y R cl sl E Z pc l (.int (jI i) :: .ref (jad G k) :: st) M := by
  subst hn
  intro p e s m args below meth c H locs ls hC
  have hC0 := hC
  obtain ⟨c1, c2, c3, c4, c5, c6, c7, c8, c9, c10, c11, c12⟩ := hC0
  have hkn : k < jNC := jsh_lt (by rw [hk]; exact (by decide : (2 : Nat) < 99))
  refine va_bald c1 c2 c9.1 c11.1 k 2 (by rw [jwd_get G M hkn]; unfold jcel; rw [hk]; rfl) (by rfl) (jI_in h0 h1 (by omega)) hd ?_
  have e : ((jI i).toNatClampNeg : Int) = i := by rw [jI_cl h0 (by omega)]; omega
  rw [e]
  exact kk _ _ _ _ _ _ _ _ _ _ _ hC
theorem jr_zald {k N : Nat} {i : Int} (hd : decode y.2.1 pc = .ok (.baload, 1)) (hn : n = pc + 1) (hk : jsh k = (3, N)) (hN : N < 1000) (h0 : 0 ≤ i) (h1 : i < N) (kk : jX G y R cl sl E Z n l (.int (jI (M k i)) :: st) M) : jX G y R cl sl E Z pc l (.int (jI i) :: .ref (jad G k) :: st) M := by
  subst hn
  intro p e s m args below meth c H locs ls hC
  have hC0 := hC
  obtain ⟨c1, c2, c3, c4, c5, c6, c7, c8, c9, c10, c11, c12⟩ := hC0
  have hkn : k < jNC := jsh_lt (by rw [hk]; exact (by decide : (3 : Nat) < 99))
  refine va_zald c1 c2 c9.1 c11.1 k 3 (by rw [jwd_get G M hkn]; unfold jcel; rw [hk]; rfl) (by rfl) (jI_in h0 h1 (by omega)) hd ?_
  have e : ((jI i).toNatClampNeg : Int) = i := by rw [jI_cl h0 (by omega)]; omega
  rw [e]
  exact kk _ _ _ _ _ _ _ _ _ _ _ hC
theorem jr_lald {k N : Nat} {i : Int} (hd : decode y.2.1 pc = .ok (.laload, 1)) (hn : n = pc + 1) (hk : jsh k = (1, N)) (hN : N < 1000) (h0 : 0 ≤ i) (h1 : i < N) (kk : jX G y R cl sl E Z n l (.long (jL (M k i)) :: st) M) : jX G y R cl sl E Z pc l (.int (jI i) :: .ref (jad G k) :: st) M := by
  subst hn
  intro p e s m args below meth c H locs ls hC
  have hC0 := hC
  obtain ⟨c1, c2, c3, c4, c5, c6, c7, c8, c9, c10, c11, c12⟩ := hC0
  have hkn : k < jNC := jsh_lt (by rw [hk]; exact (by decide : (1 : Nat) < 99))
  refine va_lald c1 c2 c9.1 c11.1 k 1 (by rw [jwd_get G M hkn]; unfold jcel; rw [hk]; rfl) (by rfl) (jI_in h0 h1 (by omega)) hd ?_
  have e : ((jI i).toNatClampNeg : Int) = i := by rw [jI_cl h0 (by omega)]; omega
  rw [e]
  exact kk _ _ _ _ _ _ _ _ _ _ _ hC
theorem jr_iast {k N : Nat} {i x : Int} (hd : decode y.2.1 pc = .ok (.iastore, 1)) (hn : n = pc + 1) (hk : jsh k = (0, N)) (hN : N < 1000) (h0 : 0 ≤ i) (h1 : i < N) (kk : jX G y R cl sl E Z n l st (jup M k i (x))) : jX G y R cl sl E Z pc l (.int (jI x) :: .int (jI i) :: .ref (jad G k) :: st) M := by
  subst hn
  intro p e s m args below meth c H locs ls hC
  obtain ⟨c1, c2, c3, c4, c5, c6, c7, c8, c9, c10, c11, c12⟩ := hC
  have hkn : k < jNC := jsh_lt (by rw [hk]; exact (by decide : (0 : Nat) < 99))
  have ex : jI x = jI (x) := rfl
  have ec : (Sum.inl (jcy G 0, N, Sum.inl (upd (fun j => jI (M k (j : Int))) (jI i).toNatClampNeg (jI x))) : va_E) = jcel G (jup M k i (x)) k := by
    unfold jcel
    rw [hk]
    have e : (jI i).toNatClampNeg = i.toNat := jI_cl h0 (by omega)
    rw [e, ex]
    have ef : ∀ j : Nat, upd (fun j => jI (M k (j : Int))) i.toNat (jI (x)) j = jI (jup M k i (x) k (j : Int)) := fun j => by
      unfold upd jup
      by_cases z : j = i.toNat
      · rw [if_pos z, if_pos ⟨rfl, by omega⟩]
      · rw [if_neg z, if_neg (fun q => z (by omega))]
    exact congrArg (fun f => (Sum.inl (jcy G 0, N, Sum.inl (f)) : va_E)) (funext ef)
  refine va_iast c1 c2 c9.1 c11.1 c11.2 c10 k 0 (by rw [jwd_get G M hkn]; unfold jcel; rw [hk]; rfl) (by rfl) (jI_in h0 h1 (by omega)) hd (fun H1 locs1 hP hD hS => ?_)
  rw [jwd_set G hkn ec (fun j hj i' => jup_ne hj i')] at hP hD
  exact kk _ _ _ _ _ _ _ _ _ _ _ ⟨c1, c2, c3, c4, c5, c6, c7, c8, c9, hS, ⟨hP, hD⟩, c12⟩
theorem jr_last {k N : Nat} {i x : Int} (hd : decode y.2.1 pc = .ok (.lastore, 1)) (hn : n = pc + 1) (hk : jsh k = (1, N)) (hN : N < 1000) (h0 : 0 ≤ i) (h1 : i < N) (kk : jX G y R cl sl E Z n l st (jup M k i (x))) : jX G y R cl sl E Z pc l (.long (jL x) :: .int (jI i) :: .ref (jad G k) :: st) M := by
  subst hn
  intro p e s m args below meth c H locs ls hC
  obtain ⟨c1, c2, c3, c4, c5, c6, c7, c8, c9, c10, c11, c12⟩ := hC
  have hkn : k < jNC := jsh_lt (by rw [hk]; exact (by decide : (1 : Nat) < 99))
  have ex : jL x = jL (x) := rfl
  have ec : (Sum.inl (jcy G 1, N, Sum.inr (Sum.inl (vp_updL (fun j => jL (M k (j : Int))) (jI i).toNatClampNeg (jL x)))) : va_E) = jcel G (jup M k i (x)) k := by
    unfold jcel
    rw [hk]
    have e : (jI i).toNatClampNeg = i.toNat := jI_cl h0 (by omega)
    rw [e, ex]
    have ef : ∀ j : Nat, vp_updL (fun j => jL (M k (j : Int))) i.toNat (jL (x)) j = jL (jup M k i (x) k (j : Int)) := fun j => by
      unfold vp_updL jup
      by_cases z : j = i.toNat
      · rw [if_pos z, if_pos ⟨rfl, by omega⟩]
      · rw [if_neg z, if_neg (fun q => z (by omega))]
    exact congrArg (fun f => (Sum.inl (jcy G 1, N, Sum.inr (Sum.inl (f))) : va_E)) (funext ef)
  refine va_last c1 c2 c9.1 c11.1 c11.2 c10 k 1 (by rw [jwd_get G M hkn]; unfold jcel; rw [hk]; rfl) (by rfl) (jI_in h0 h1 (by omega)) hd (fun H1 locs1 hP hD hS => ?_)
  rw [jwd_set G hkn ec (fun j hj i' => jup_ne hj i')] at hP hD
  exact kk _ _ _ _ _ _ _ _ _ _ _ ⟨c1, c2, c3, c4, c5, c6, c7, c8, c9, hS, ⟨hP, hD⟩, c12⟩
theorem jr_bast {k N : Nat} {i x : Int} (hd : decode y.2.1 pc = .ok (.bastore, 1)) (hn : n = pc + 1) (hk : jsh k = (2, N)) (hN : N < 1000) (h0 : 0 ≤ i) (h1 : i < N) (kk : jX G y R cl sl E Z n l st (jup M k i (jbyt x))) : jX G y R cl sl E Z pc l (.int (jI x) :: .int (jI i) :: .ref (jad G k) :: st) M := by
  subst hn
  intro p e s m args below meth c H locs ls hC
  obtain ⟨c1, c2, c3, c4, c5, c6, c7, c8, c9, c10, c11, c12⟩ := hC
  have hkn : k < jNC := jsh_lt (by rw [hk]; exact (by decide : (2 : Nat) < 99))
  have ex : vp_nar .byte (jI x) = jI (jbyt x) := (jI_of _).symm
  have ec : (Sum.inl (jcy G 2, N, Sum.inl (upd (fun j => jI (M k (j : Int))) (jI i).toNatClampNeg (vp_nar .byte (jI x)))) : va_E) = jcel G (jup M k i (jbyt x)) k := by
    unfold jcel
    rw [hk]
    have e : (jI i).toNatClampNeg = i.toNat := jI_cl h0 (by omega)
    rw [e, ex]
    have ef : ∀ j : Nat, upd (fun j => jI (M k (j : Int))) i.toNat (jI (jbyt x)) j = jI (jup M k i (jbyt x) k (j : Int)) := fun j => by
      unfold upd jup
      by_cases z : j = i.toNat
      · rw [if_pos z, if_pos ⟨rfl, by omega⟩]
      · rw [if_neg z, if_neg (fun q => z (by omega))]
    exact congrArg (fun f => (Sum.inl (jcy G 2, N, Sum.inl (f)) : va_E)) (funext ef)
  refine va_bast c1 c2 c9.1 c11.1 c11.2 c10 k 2 (by rw [jwd_get G M hkn]; unfold jcel; rw [hk]; rfl) (by rfl) (jI_in h0 h1 (by omega)) hd (fun H1 locs1 hP hD hS => ?_)
  rw [jwd_set G hkn ec (fun j hj i' => jup_ne hj i')] at hP hD
  exact kk _ _ _ _ _ _ _ _ _ _ _ ⟨c1, c2, c3, c4, c5, c6, c7, c8, c9, hS, ⟨hP, hD⟩, c12⟩
theorem jr_zast {k N : Nat} {i x : Int} (hd : decode y.2.1 pc = .ok (.bastore, 1)) (hn : n = pc + 1) (hk : jsh k = (3, N)) (hN : N < 1000) (h0 : 0 ≤ i) (h1 : i < N) (hx : x = 0 ∨ x = 1) (kk : jX G y R cl sl E Z n l st (jup M k i (x))) : jX G y R cl sl E Z pc l (.int (jI x) :: .int (jI i) :: .ref (jad G k) :: st) M := by
  subst hn
  intro p e s m args below meth c H locs ls hC
  obtain ⟨c1, c2, c3, c4, c5, c6, c7, c8, c9, c10, c11, c12⟩ := hC
  have hkn : k < jNC := jsh_lt (by rw [hk]; exact (by decide : (3 : Nat) < 99))
  have ex : vp_nar .boolean (jI x) = jI (x) := by rcases hx with h | h <;> subst h <;> rfl
  have ec : (Sum.inl (jcy G 3, N, Sum.inl (upd (fun j => jI (M k (j : Int))) (jI i).toNatClampNeg (vp_nar .boolean (jI x)))) : va_E) = jcel G (jup M k i (x)) k := by
    unfold jcel
    rw [hk]
    have e : (jI i).toNatClampNeg = i.toNat := jI_cl h0 (by omega)
    rw [e, ex]
    have ef : ∀ j : Nat, upd (fun j => jI (M k (j : Int))) i.toNat (jI (x)) j = jI (jup M k i (x) k (j : Int)) := fun j => by
      unfold upd jup
      by_cases z : j = i.toNat
      · rw [if_pos z, if_pos ⟨rfl, by omega⟩]
      · rw [if_neg z, if_neg (fun q => z (by omega))]
    exact congrArg (fun f => (Sum.inl (jcy G 3, N, Sum.inl (f)) : va_E)) (funext ef)
  refine va_zast c1 c2 c9.1 c11.1 c11.2 c10 k 3 (by rw [jwd_get G M hkn]; unfold jcel; rw [hk]; rfl) (by rfl) (jI_in h0 h1 (by omega)) hd (fun H1 locs1 hP hD hS => ?_)
  rw [jwd_set G hkn ec (fun j hj i' => jup_ne hj i')] at hP hD
  exact kk _ _ _ _ _ _ _ _ _ _ _ ⟨c1, c2, c3, c4, c5, c6, c7, c8, c9, hS, ⟨hP, hD⟩, c12⟩
theorem jr_alen {k N a : Nat} (hd : decode y.2.1 pc = .ok (.arraylength, 1)) (hn : n = pc + 1) (hk : jsh k = (a, N)) (ha : a = 0 ∨ a = 1) (kk : jX G y R cl sl E Z n l (.int (jI N) :: st) M) : jX G y R cl sl E Z pc l (.ref (jad G k) :: st) M := by
  subst hn
  intro p e s m args below meth c H locs ls hC
  have hC0 := hC
  obtain ⟨c1, c2, c3, c4, c5, c6, c7, c8, c9, c10, c11, c12⟩ := hC0
  have hkn : k < jNC := jsh_lt (by rw [hk]; show a < 99; omega)
  have ev : Int32.ofNat N = jI (N : Int) := (Int32.ofInt_eq_ofNat).symm
  rcases ha with ha | ha <;> subst ha
  · exact va_alen c1 c2 c9.1 c11.1 k 0 (by rw [jwd_get G M hkn]; unfold jcel; rw [hk]; rfl) (by rfl) ev hd (kk _ _ _ _ _ _ _ _ _ _ _ hC)
  · exact va_alen c1 c2 c9.1 c11.1 k 1 (by rw [jwd_get G M hkn]; unfold jcel; rw [hk]; rfl) (by rfl) ev hd (kk _ _ _ _ _ _ _ _ _ _ _ hC)
end JR
end
section

theorem jgd_good {w : Cond} (h : w ∈ jgd) : goodWord w = true := (List.mem_filter.mp h).2
theorem jgd_of {w : Cond} (h : w ∈ lw_tbl) (g : goodWord w = true) : w ∈ jgd := List.mem_filter.mpr ⟨h, g⟩
theorem jns_of {w : Cond} (h : w ∈ lw_tbl) (g : jis w = true) : w ∈ jns := List.mem_filter.mpr ⟨h, g⟩
theorem jgd_all {b : Cond} (hb : b ∈ jgd) : GoodIn jgd (b :: jgd) := fun w hw => by
  rcases List.mem_cons.mp hw with h | h
  · subst h; exact ⟨hb, good_of_word (jgd_good hb)⟩
  · exact ⟨h, good_of_word (jgd_good h)⟩
-- the world at a callee's start
theorem jE_kept {G : jG} {U : State} {H H1 : Heap} (h : jE G U H) (hq : ∀ a : Nat, a < H.size → ¬ jA G a → H1[a]? = H[a]?) : jE G U H1 :=
  ⟨h.1, h.2.1, fun t ht => ⟨(h.2.2 t ht).1.kept hq, (h.2.2 t ht).2.kept hq⟩⟩
theorem jE_warm {G : jG} {s U : State} {H : Heap} (hW : s.WarmedH U.vm) (h : jE G s H) : jE G U H := by
  refine ⟨va_K.moved hW.alike h.1, fun w hw => ?_, fun t ht => ⟨(h.2.2 t ht).1.moved hW.alike, (h.2.2 t ht).2.moved hW.alike⟩⟩
  have h1 := h.2.1 w hw
  have h2 : jis w = true := (List.mem_filter.mp hw).2
  cases w with
  | fieldLinkNest a i b n d h => exact va_Nw.warmF hW h1
  | methodLinkNest a i x h => exact va_Nw.warmM hW h1
  | _ => exact absurd h2 (by intro z; cases z)
theorem jE_same {G : jG} {s U : State} {H : Heap} (hv : s.vm = U.vm) (h : jE G s H) : jE G U H := by
  have ha : s.vm.Alike U.vm := by rw [hv]; exact Vm.Alike.refl U.vm
  refine ⟨va_K.moved ha h.1, fun w hw => ?_, fun t ht => ⟨(h.2.2 t ht).1.moved ha, (h.2.2 t ht).2.moved ha⟩⟩
  have h1 := h.2.1 w hw
  have h2 : jis w = true := (List.mem_filter.mp hw).2
  cases w with
  | fieldLinkNest a i b n d h => exact va_Nw.same rfl hv h1
  | methodLinkNest a i x h => exact va_Nw.same rfl hv h1
  | _ => exact absurd h2 (by intro z; cases z)
def jB (G : jG) (M : jMem) (U : State) : Prop := jE G U U.heap ∧ jW G M U.heap
theorem jB_blind (G : jG) (M : jMem) (av : List Value) : FrameBlind (va_Pc av (jB G M)) := fun a U g mk h => ⟨h.1, (show jE G (U.calling g mk a) U.heap from jE_same (s := U) rfl h.2.1), h.2.2⟩
theorem jB_at {G : jG} {M : jMem} {s U : State} {H : Heap} {locs : List Loc} (hE : jE G s s.heap) (hS : va_S (jA G) s.heap H locs) (hW : jW G M H) (hU : U.heap = H) (hw : s.WarmedH U.vm) : jB G M U := by
  subst hU
  exact ⟨jE_warm hw (jE_kept hE hS.2.1), hW⟩
-- methods
def jnd : List Value → Bool
  | [] => true
  | v :: vs => match v with
    | .double _ => false
    | _ => jnd vs
theorem jpad_in : ∀ (args : List Value) (n i k : Nat) (v : Value), jnd args = true → (jpad n args)[k]? = some v → v ≠ .null → (i + k, v) ∈ lv_args i args
  | [], n, i, k, v, _, h, hv => by
    exfalso
    have key : ∀ (n k : Nat), (jpad n [])[k]? = some v → v = .null := by
      intro n
      induction n with
      | zero => intro k h; simp [jpad] at h
      | succ n ih =>
        intro k h
        cases k with
        | zero => simp [jpad] at h; exact h.symm
        | succ k => exact ih k (by simpa [jpad] using h)
    exact hv (key n k h)
  | u :: us, 0, i, k, v, _, h, hv => by simp [jpad] at h
  | u :: us, n + 1, i, k, v, hd, h, hv => by
    have one : ∀ w : Value, w.category ≠ 2 → jpad (n + 1) (w :: us) = w :: jpad n us → u = w → jnd us = true → (i + k, v) ∈ lv_args i (u :: us) := by
      intro w hw hp hu hd
      subst hu
      rw [hp] at h
      unfold lv_args
      rw [if_neg hw]
      cases k with
      | zero =>
        have : u = v := by simpa using h
        subst this
        exact List.mem_cons_self
      | succ k =>
        have := jpad_in us n (i + 1) k v hd (by simpa using h) hv
        rw [show i + 1 + k = i + (k + 1) by omega] at this
        exact List.mem_cons_of_mem _ this
    cases u with
    | long z =>
      cases n with
      | zero =>
        have hk : k = 0 := by
          cases k with
          | zero => rfl
          | succ k => simp [jpad] at h
        subst hk
        have : Value.long z = v := by simpa [jpad] using h
        subst this
        exact List.mem_cons_self
      | succ n =>
        have hp : jpad (n + 1 + 1) (.long z :: us) = .long z :: .null :: jpad n us := rfl
        rw [hp] at h
        match k, h with
        | 0, h =>
          have : Value.long z = v := by simpa using h
          subst this
          exact List.mem_cons_self
        | 1, h =>
          have : Value.null = v := by simpa using h
          exact absurd this.symm hv
        | k + 2, h =>
          have := jpad_in us n (i + 2) k v hd (by simpa using h) hv
          rw [show i + 2 + k = i + (k + 2) by omega] at this
          exact List.mem_cons_of_mem _ this
    | double z => exact absurd hd (by intro q; cases q)
    | _ => exact one _ (by intro q; cases q) rfl rfl hd
def jMk (ν : jMD) (n : Nat) : Prop := Cond.code ν.1 ν.2.1 ν.2.2.1 ν.2.2.2 ∈ jgd ∧ Cond.initialized ν.1.cls ∈ jgd ∧ plainName ν.1.cls = true ∧ (ν.1.cls ≠ "java/lang/invoke/MethodHandle" ∧ ν.1.cls ≠ "java/lang/invoke/VarHandle" ∧ (parseMethodDescriptor ν.1.desc).map (fun d => d.parameters.length) = some n) ∧ ν.2.2.1 ≤ 20
def jIn (ν : jMD) : Prop := Cond.instanceMethod ν.1 ∈ jgd ∧ Cond.selects ν.1.cls ν.1 ν.1 ∈ jgd
def jSt (ν : jMD) : Prop := Cond.static ν.1 ∈ jgd
def jLn (own : String) (idx : Nat) (y : MethodName) : Prop := Cond.methodLink own idx y ∈ jgd ∨ ∃ host, Cond.methodLinkNest own idx y host ∈ jns
theorem jmet {G : jG} {ν : jMD} {na d : Nat} {args : List Value} {M : jMem} {Q : Option Value → jMem → Prop} (hm : jMk ν na) (hlen : (lg_sl args).length ≤ ν.2.2.1) (hnd : jnd args = true) (h : jN G ν d args M Q) : Met G.1 ν.1 (Cond.code ν.1 ν.2.1 ν.2.2.1 ν.2.2.2 :: jgd) (jrm d) (va_Pc args (jB G M)) (jQc G Q) 0 0 (jA G) := by
  refine Met.ofW (cc := ν.2.1) (maxL := ν.2.2.1) (ret := ν.2.2.2) hm.2.2.1 rfl ?_
  intro p e s m args' below meth c s₁ B hml hv
  obtain ⟨rfl, hE, hW⟩ := hv
  rw [lg_entry_eq]
  have hts := atoms_spec (ws := Cond.code ν.1 ν.2.1 ν.2.2.1 ν.2.2.2 :: jgd) B.pre
  exact h p e s m _ below meth c s.heap [] _ ⟨B.exec, B.bytes, hml, findClass_of_methodNamed B.named, fun w hw => hts w (List.mem_cons_of_mem _ hw), B.returns, B.notSynchronized, trivial, hE, va_S.rf, hW, jl_of (lv_entry args hlen) (fun k v h1 h2 => by have := jpad_in args _ 0 k v hnd h1 h2; simpa using this)⟩
section JC
variable {G : jG} {y : jMD} {R : Room} {cl sl : Nat} {E : Array Value → State → Prop} {Z : List Frame → Array Value → State → State → Prop} {pc n : Nat} {l st : List Value} {M : jMem}
theorem jrun {p : Program} {e : Env} {s : State} {m : MethodId} {args : Array Value} {below : List Frame} {meth : Method} {c : Code} {H : Heap} {locs : List Loc} {ls : Array Slot} {stk : List Value} {a : Array Value}
    (hC : jC G y E l M p s m args meth c H locs ls)
    (hr : va_Run p G.1 e R s m args below meth c H locs cl sl 0 0 (F0 m pc ls stk) st (jQc G (fun v M' => jX G y R cl sl E Z (pc + 3) l (jpush v st) M') a) (jA G)) : W p G.1 e R s m args below meth c H locs cl sl (Z below args s) (F0 m pc ls stk) := by
  intro T hT X
  obtain ⟨h1, h2, h3, h4, h5, h6, h7, h8, h9, h10, h11, h12⟩ := hC
  obtain ⟨v, st₀, t, T', L, h0, X', hL, e1, e2, ⟨v', M', hv, hq, hw, hz, hk⟩, stp⟩ := hr T hT X
  cases hv
  rw [h0] at hz hk
  have hS : va_S (jA G) s.heap T'.heap (locs ++ L) := ⟨Nat.le_trans h10.1 (by rw [e1]; exact hz), fun q q1 q2 => by rw [e1, hk q (Nat.lt_of_lt_of_le q1 h10.1) q2]; exact h10.2.1 q q1 q2, fun q hq => by
      rcases List.mem_append.mp hq with h | h
      · exact h10.2.2 q h
      · exact hL q h⟩
  have hst : v.toList ++ st = jpush v st := by cases v <;> rfl
  obtain ⟨t2, a1, b1⟩ := hq p e s m args below meth c T'.heap (locs ++ L) ls ⟨h1, h2, h3, h4, h5, h6, h7, h8, h9, hS, by rw [e1]; exact hw, h12⟩ T' rfl X'
  refine ⟨t2, stp t2 ?_, b1⟩
  show Steps _ _ _ (T'.setTop (F0 m (pc + 3) ls (v.toList ++ st))) t2
  rw [hst]
  exact a1
theorem jr_callV {ν : jMD} {k idx na ci N d : Nat} {As stk : List Value} (hd : decode y.2.1 pc = .ok (.invokevirtual idx, 3)) (hn : n = pc + 3) (hL : jLn y.1.cls idx ν.1) (hm : jMk ν na) (hi : jIn ν) (hk : jsh k = (10 + ci, N)) (hc : ∃ q, jcls[ci]? = some q ∧ q.1 = ν.1.cls) (hN : 10 + ci < 99) (hA : As.length = na) (hst : stk = As.reverse ++ .ref (jad G k) :: st) (hcat : (st.map fun v => v.category).sum ≤ 8) (hlen : (lg_sl (.ref (jad G k) :: As)).length ≤ ν.2.2.1) (hnd : jnd As = true) (hR : d + 1 ≤ R.frames ∧ 40 * d + 40 ≤ R.locals) (hcs : cl ≤ R.cells ∧ sl ≤ R.slots)
    (kk : jN G ν d (.ref (jad G k) :: As) M (fun v M' => jX G y R cl sl E Z n l (jpush v st) M')) : jX G y R cl sl E Z pc l stk M := by
  subst hn
  intro p e s m args below meth c H locs ls hC
  have hC0 := hC
  obtain ⟨h1, h2, h3, h4, h5, h6, h7, h8, h9, h10, h11, h12⟩ := hC0
  obtain ⟨q, hq1, hq2⟩ := hc
  have hkn : k < jNC := jsh_lt (by rw [hk]; exact hN)
  have hcell : (jwd G M)[k]? = some (jad G k, .inr (ci, (List.range N).map (jfv G M k))) := by
    rw [jwd_get G M hkn]
    unfold jcel
    rw [hk]
    rw [if_neg (show ¬ (10 + ci = 0) by omega), if_neg (show ¬ (10 + ci = 1) by omega), if_neg (show ¬ (10 + ci = 2) by omega), if_neg (show ¬ (10 + ci = 3) by omega), show 10 + ci - 10 = ci by omega]
  have hrecv := va_recv h9.1 h11.1 hq1 hcell
  rw [hq2] at hrecv
  have hM := jmet (args := .ref (jad G k) :: As) hm hlen hnd kk
  have hG := jgd_all hm.1
  have hR2 : (jrm d).frames + 1 ≤ R.frames ∧ 8 + (ν.2.2.1 + 11) + (jrm d).locals ≤ R.locals := ⟨hR.1, by have := hm.2.2.2.2; have := hR.2; show 8 + (ν.2.2.1 + 11) + 40 * d ≤ R.locals; omega⟩
  have hP : PreV s H ν.1.cls (jad G k) (va_Pc (.ref (jad G k) :: As) (jB G M)) As := ⟨jB_blind G M _, hrecv, fun U hU hW => ⟨rfl, jB_at h9 h10 h11 hU hW⟩⟩
  refine jrun (st := st) (a := (Value.ref (jad G k) :: As).toArray) hC ?_
  rcases hL with hL | ⟨host, hL⟩
  · exact va_runV (Ts := jgd) (C := ν.1.cls) (n := na) ⟨h1, h2, h3, h4, h5⟩ hM ⟨callB_of na h5 hG rfl rfl rfl (h5 _ hm.2.1) (h5 _ hL) hm.2.2.2.1 hR2, h5 _ hi.1, h5 _ hi.2⟩ hP rfl hA h12.1 hst (lv_room hcat) hd hcs
  · exact va_runVN (Ts := jgd) (C := ν.1.cls) (n := na) ⟨h1, h2, h3, h4, h5⟩ hM ⟨va_cnB na h5 hG rfl rfl rfl (h9.2.1 _ hL) (h5 _ hm.2.1) hm.2.2.2.1 hR2, h5 _ hi.1, h5 _ hi.2⟩ hP rfl hA h12.1 hst (lv_room hcat) hd hcs
theorem jr_callS {ν : jMD} {idx na d : Nat} {As stk : List Value} (hd : decode y.2.1 pc = .ok (.invokestatic idx, 3)) (hn : n = pc + 3) (hL : jLn y.1.cls idx ν.1) (hm : jMk ν na) (hi : jSt ν) (hA : As.length = na) (hst : stk = As.reverse ++ st) (hcat : (st.map fun v => v.category).sum ≤ 8) (hlen : (lg_sl As).length ≤ ν.2.2.1) (hnd : jnd As = true) (hR : d + 1 ≤ R.frames ∧ 40 * d + 40 ≤ R.locals) (hcs : cl ≤ R.cells ∧ sl ≤ R.slots)
    (kk : jN G ν d As M (fun v M' => jX G y R cl sl E Z n l (jpush v st) M')) : jX G y R cl sl E Z pc l stk M := by
  subst hn
  intro p e s m args below meth c H locs ls hC
  have hC0 := hC
  obtain ⟨h1, h2, h3, h4, h5, h6, h7, h8, h9, h10, h11, h12⟩ := hC0
  have hM := jmet (args := As) hm hlen hnd kk
  have hG := jgd_all hm.1
  have hR2 : (jrm d).frames + 1 ≤ R.frames ∧ 8 + (ν.2.2.1 + 11) + (jrm d).locals ≤ R.locals := ⟨hR.1, by have := hm.2.2.2.2; have := hR.2; show 8 + (ν.2.2.1 + 11) + 40 * d ≤ R.locals; omega⟩
  have hP : PreS s H (va_Pc As (jB G M)) As := ⟨jB_blind G M _, fun U hU hW => ⟨rfl, jB_at h9 h10 h11 hU hW⟩⟩
  refine jrun (st := st) (a := As.toArray) hC ?_
  rcases hL with hL | ⟨host, hL⟩
  · exact va_runS (Ts := jgd) (n := na) ⟨h1, h2, h3, h4, h5⟩ hM ⟨callB_of na h5 hG rfl rfl rfl (h5 _ hm.2.1) (h5 _ hL) hm.2.2.2.1 hR2, h5 _ hi⟩ hP rfl hA h12.1 hst (lv_room hcat) hd hcs
  · exact va_runSN (Ts := jgd) (n := na) ⟨h1, h2, h3, h4, h5⟩ hM ⟨va_cnB na h5 hG rfl rfl rfl (h9.2.1 _ hL) (h5 _ hm.2.1) hm.2.2.2.1 hR2, h5 _ hi, trivial⟩ hP rfl hA h12.1 hst (lv_room hcat) hd hcs
-- returns
theorem jr_iret {Q : Option Value → jMem → Prop} {v : Int32} (hd : decode y.2.1 pc = .ok (.ireturn, 1)) (hr : y.2.2.2 = some .int) (h : Q (some (.int v)) M) : jX G y R 0 0 E (jZ G Q) pc l [.int v] M := by
  intro p e s m args below meth c H locs ls hC
  obtain ⟨h1, h2, h3, h4, h5, h6, h7, h8, h9, h10, h11, h12⟩ := hC
  exact W.iret h1 h2 (h6.trans hr) (fun t ht hW => ⟨_, M, rfl, h, by rw [ht]; exact h11, h10.F ht⟩) h10.2.2 hd h7
theorem jr_zret {Q : Option Value → jMem → Prop} {x : Int} (hd : decode y.2.1 pc = .ok (.ireturn, 1)) (hr : y.2.2.2 = some .boolean) (hx : x = 0 ∨ x = 1) (h : Q (some (.int (jI x))) M) : jX G y R 0 0 E (jZ G Q) pc l [.int (jI x)] M := by
  intro p e s m args below meth c H locs ls hC
  obtain ⟨h1, h2, h3, h4, h5, h6, h7, h8, h9, h10, h11, h12⟩ := hC
  exact W.zret h1 h2 (h6.trans hr) (by rcases hx with q | q <;> subst q <;> rfl) (fun t ht hW => ⟨_, M, rfl, h, by rw [ht]; exact h11, h10.F ht⟩) h10.2.2 hd h7
theorem jr_lret {Q : Option Value → jMem → Prop} {v : Int64} (hd : decode y.2.1 pc = .ok (.lreturn, 1)) (hr : y.2.2.2 = some .long) (h : Q (some (.long v)) M) : jX G y R 0 0 E (jZ G Q) pc l [.long v] M := by
  intro p e s m args below meth c H locs ls hC
  obtain ⟨h1, h2, h3, h4, h5, h6, h7, h8, h9, h10, h11, h12⟩ := hC
  exact W.lret h1 h2 (h6.trans hr) (fun t ht hW => ⟨_, M, rfl, h, by rw [ht]; exact h11, h10.F ht⟩) h10.2.2 hd h7
theorem jr_vret {Q : Option Value → jMem → Prop} (hd : decode y.2.1 pc = .ok (.return_, 1)) (hr : y.2.2.2 = none) (h : Q none M) : jX G y R 0 0 E (jZ G Q) pc l [] M := by
  intro p e s m args below meth c H locs ls hC
  obtain ⟨h1, h2, h3, h4, h5, h6, h7, h8, h9, h10, h11, h12⟩ := hC
  exact W.vret h1 h2 (h6.trans hr) (fun t ht hW => ⟨_, M, rfl, h, by rw [ht]; exact h11, h10.F ht⟩) h10.2.2 hd h7
-- fields
def jFl (own : String) (idx ci j : Nat) : Prop := ∃ q : vw_C, jcls[ci]? = some q ∧ j < q.2.2 ∧ (∀ w ∈ u_ws q.1 q.2.1 q.2.2, w ∈ jgd) ∧ (Cond.fieldLink own idx (q.2.1 j).1 (q.2.1 j).2.1 (q.2.1 j).2.2.1 ∈ jgd ∨ ∃ host, Cond.fieldLinkNest own idx (q.2.1 j).1 (q.2.1 j).2.1 (q.2.1 j).2.2.1 host ∈ jns)
def jFw (ci j : Nat) : Prop := ∃ q : vw_C, jcls[ci]? = some q ∧ (q.2.1 j).2.2.2 = false ∧ parseFieldDescriptor (q.2.1 j).2.2.1 = some .int ∧ (∃ ty : Nat → FieldType, ∀ k, k < q.2.2 → parseFieldDescriptor (q.2.1 k).2.2.1 = some (ty k)) ∧ ∀ a, a < q.2.2 → ∀ b, b < q.2.2 → a ≠ b → (q.2.1 a).2.1 ≠ (q.2.1 b).2.1
theorem jcel_obj (G : jG) (M : jMem) {k ci N : Nat} (hk : jsh k = (10 + ci, N)) : jcel G M k = .inr (ci, (List.range N).map (jfv G M k)) := by
  unfold jcel
  rw [hk]
  rw [if_neg (show ¬ (10 + ci = 0) by omega), if_neg (show ¬ (10 + ci = 1) by omega), if_neg (show ¬ (10 + ci = 2) by omega), if_neg (show ¬ (10 + ci = 3) by omega), show 10 + ci - 10 = ci by omega]
theorem jr_get {k idx ci j N : Nat} {v : Value} (hd : decode y.2.1 pc = .ok (.getfield idx, 3)) (hn : n = pc + 3) (hL : jFl y.1.cls idx ci j) (hk : jsh k = (10 + ci, N)) (hN : 10 + ci < 99) (hj : j < N) (hv : jfv G M k j = v) (kk : jX G y R cl sl E Z n l (v :: st) M) : jX G y R cl sl E Z pc l (.ref (jad G k) :: st) M := by
  subst hn; subst hv
  intro p e s m args below meth c H locs ls hC
  have hC0 := hC
  obtain ⟨h1, h2, h3, h4, h5, h6, h7, h8, h9, h10, h11, h12⟩ := hC0
  obtain ⟨q, hq1, hq2, hq3, hq4⟩ := hL
  have hkn : k < jNC := jsh_lt (by rw [hk]; exact hN)
  have hcell : (jwd G M)[k]? = some (jad G k, .inr (ci, (List.range N).map (jfv G M k))) := by
    rw [jwd_get G M hkn, jcel_obj G M hk]
  have hfs : ((List.range N).map (jfv G M k))[j]? = some (jfv G M k j) := by simp [hj]
  rcases hq4 with hq4 | ⟨host, hq4⟩
  · exact va_get h1 h2 h5 hq3 h4 h9.1 h11.1 k hcell hq1 j hq2 (h5 _ hq4) (fun _ z => z) hfs hd (kk _ _ _ _ _ _ _ _ _ _ _ hC)
  · exact va_getN h1 h2 h5 hq3 h4 h9.1 h11.1 k hcell hq1 j hq2 (va_Nw.use rfl (h9.2.1 _ hq4)) (fun _ z => z) hfs hd (kk _ _ _ _ _ _ _ _ _ _ _ hC)
theorem jr_put {k idx ci j N : Nat} {x : Int} (hd : decode y.2.1 pc = .ok (.putfield idx, 3)) (hn : n = pc + 3) (hL : jFl y.1.cls idx ci j) (hF : jFw ci j) (hk : jsh k = (10 + ci, N)) (hN : 10 + ci < 99) (hj : j < N) (hr : jrf k j = none) (kk : jX G y R cl sl E Z n l st (jup M k j x)) : jX G y R cl sl E Z pc l (.int (jI x) :: .ref (jad G k) :: st) M := by
  subst hn
  intro p e s m args below meth c H locs ls hC
  have hC0 := hC
  obtain ⟨h1, h2, h3, h4, h5, h6, h7, h8, h9, h10, h11, h12⟩ := hC0
  obtain ⟨q, hq1, hq2, hq3, hq4⟩ := hL
  obtain ⟨q', hf1, hf2, hf3, ⟨ty, hf4⟩, hf5⟩ := hF
  cases hq1.symm.trans hf1
  have hkn : k < jNC := jsh_lt (by rw [hk]; exact hN)
  have hcell : (jwd G M)[k]? = some (jad G k, .inr (ci, (List.range N).map (jfv G M k))) := by
    rw [jwd_get G M hkn, jcel_obj G M hk]
  have hfl : j < ((List.range N).map (jfv G M k)).length := by simpa using hj
  have ec : (.inr (ci, ((List.range N).map (jfv G M k)).set j (.int (jI x))) : va_E) = jcel G (jup M k j x) k := by
    rw [jcel_obj G _ hk]
    congr 2
    apply List.ext_getElem?
    intro i
    rw [List.getElem?_set]
    by_cases hi : j = i
    · subst hi
      rw [if_pos rfl, if_pos hfl]
      simp [hj, jfv, hr, jup]
    · rw [if_neg hi]
      by_cases hl : i < N
      · simp only [List.getElem?_map, List.getElem?_range hl, Option.map_some]
        congr 1
        unfold jfv
        cases jrf k i with
        | some r => rfl
        | none =>
          show Value.int (jI (M k i)) = Value.int (jI (jup M k j x k i))
          unfold jup
          rw [if_neg (fun z => hi (by omega))]
      · simp [hl]
  have fin : ∀ (H1 : Heap) (locs1 : List Loc), va_P (G.2.1, G.2.2.1) jcls ((jwd G M).set k (jad G k, .inr (ci, ((List.range N).map (jfv G M k)).set j (.int (jI x))))) H1 → va_D (jA G) ((jwd G M).set k (jad G k, .inr (ci, ((List.range N).map (jfv G M k)).set j (.int (jI x))))) → va_S (jA G) s.heap H1 locs1 → W p G.1 e R s m args below meth c H1 locs1 cl sl (Z below args s) (F0 m (pc + 3) ls st) := by
    intro H1 locs1 hP hD hS
    rw [jwd_set G hkn ec (fun a ha i' => jup_ne ha i')] at hP hD
    exact kk _ _ _ _ _ _ _ _ _ _ _ ⟨h1, h2, h3, h4, h5, h6, h7, h8, h9, hS, ⟨hP, hD⟩, h12⟩
  rcases hq4 with hq4 | ⟨host, hq4⟩
  · exact va_put h1 h2 h5 hq3 ty hf4 hf5 h4 h9.1 h11.1 h11.2 h10 k hcell hq1 j hq2 (h5 _ hq4) (fun _ z => z) hf2 hf3 rfl rfl hfl hd fin
  · exact va_putN h1 h2 h5 hq3 ty hf4 hf5 h4 h9.1 h11.1 h11.2 h10 k hcell hq1 j hq2 (va_Nw.use rfl (h9.2.1 _ hq4)) (fun _ z => z) hf2 hf3 rfl rfl hfl hd fin
-- static arrays
theorem jr_gets {t idx : Nat} (hd : decode y.2.1 pc = .ok (.getstatic idx, 3)) (hn : n = pc + 3) (ht : t < 3) (hL : Cond.fieldLink y.1.cls idx "CourtHouse" (jsn t) "[I" ∈ jgd) (kk : jX G y R cl sl E Z n l (.ref (jsa G t) :: st) M) : jX G y R cl sl E Z pc l st M := by
  subst hn
  intro p e s m args below meth c H locs ls hC
  have hC0 := hC
  obtain ⟨h1, h2, h3, h4, h5, h6, h7, h8, h9, h10, h11, h12⟩ := hC0
  exact va_gets h1 h2 (h9.2.2 t ht).1 h10 h4 (h5 _ hL) (fun _ z => z) hd (kk _ _ _ _ _ _ _ _ _ _ _ hC)
theorem jr_sald {t : Nat} {i : Int} (hd : decode y.2.1 pc = .ok (.iaload, 1)) (hn : n = pc + 1) (ht : t < 3) (h0 : 0 ≤ i) (hi : i < 5) (kk : jX G y R cl sl E Z n l (.int (jI (jsv t i)) :: st) M) : jX G y R cl sl E Z pc l (.int (jI i) :: .ref (jsa G t) :: st) M := by
  subst hn
  intro p e s m args below meth c H locs ls hC
  have hC0 := hC
  obtain ⟨h1, h2, h3, h4, h5, h6, h7, h8, h9, h10, h11, h12⟩ := hC0
  have e1 : (((jI i).toNatClampNeg : Nat) : Int) = i := by rw [jI_cl h0 (by omega)]; omega
  exact va_ti h1 h2 (h9.2.2 t ht).2 h10 (jI_in h0 hi (by omega)) (by rw [e1]) hd (kk _ _ _ _ _ _ _ _ _ _ _ hC)
end JC
end
section
abbrev mX0_weigh : jMD := (yX0_weigh, cX0_weigh, 7, none)
theorem kX0_weigh : jMk mX0_weigh 2 := ⟨jgd_of (by decide +kernel) (by decide +kernel), jgd_of (by decide +kernel) (by decide +kernel), by decide +kernel, ⟨by decide +kernel, by decide +kernel, by decide +kernel⟩, by decide⟩
theorem iX0_weigh : jIn mX0_weigh := ⟨jgd_of (by decide +kernel) (by decide +kernel), jgd_of (by decide +kernel) (by decide +kernel)⟩
abbrev mX0_putAhead : jMD := (yX0_putAhead, cX0_putAhead, 6, none)
theorem kX0_putAhead : jMk mX0_putAhead 2 := ⟨jgd_of (by decide +kernel) (by decide +kernel), jgd_of (by decide +kernel) (by decide +kernel), by decide +kernel, ⟨by decide +kernel, by decide +kernel, by decide +kernel⟩, by decide⟩
theorem iX0_putAhead : jIn mX0_putAhead := ⟨jgd_of (by decide +kernel) (by decide +kernel), jgd_of (by decide +kernel) (by decide +kernel)⟩
abbrev mX0_costAt : jMD := (yX0_costAt, cX0_costAt, 11, some .long)
theorem kX0_costAt : jMk mX0_costAt 3 := ⟨jgd_of (by decide +kernel) (by decide +kernel), jgd_of (by decide +kernel) (by decide +kernel), by decide +kernel, ⟨by decide +kernel, by decide +kernel, by decide +kernel⟩, by decide⟩
theorem iX0_costAt : jIn mX0_costAt := ⟨jgd_of (by decide +kernel) (by decide +kernel), jgd_of (by decide +kernel) (by decide +kernel)⟩
abbrev mX0_cheapestFrom : jMD := (yX0_cheapestFrom, cX0_cheapestFrom, 12, some .int)
theorem kX0_cheapestFrom : jMk mX0_cheapestFrom 3 := ⟨jgd_of (by decide +kernel) (by decide +kernel), jgd_of (by decide +kernel) (by decide +kernel), by decide +kernel, ⟨by decide +kernel, by decide +kernel, by decide +kernel⟩, by decide⟩
theorem iX0_cheapestFrom : jIn mX0_cheapestFrom := ⟨jgd_of (by decide +kernel) (by decide +kernel), jgd_of (by decide +kernel) (by decide +kernel)⟩
abbrev mX1_run : jMD := (yX1_run, cX1_run, 4, none)
theorem kX1_run : jMk mX1_run 1 := ⟨jgd_of (by decide +kernel) (by decide +kernel), jgd_of (by decide +kernel) (by decide +kernel), by decide +kernel, ⟨by decide +kernel, by decide +kernel, by decide +kernel⟩, by decide⟩
theorem iX1_run : jIn mX1_run := ⟨jgd_of (by decide +kernel) (by decide +kernel), jgd_of (by decide +kernel) (by decide +kernel)⟩
abbrev mX1_passQuarter : jMD := (yX1_passQuarter, cX1_passQuarter, 6, none)
theorem kX1_passQuarter : jMk mX1_passQuarter 3 := ⟨jgd_of (by decide +kernel) (by decide +kernel), jgd_of (by decide +kernel) (by decide +kernel), by decide +kernel, ⟨by decide +kernel, by decide +kernel, by decide +kernel⟩, by decide⟩
theorem iX1_passQuarter : jIn mX1_passQuarter := ⟨jgd_of (by decide +kernel) (by decide +kernel), jgd_of (by decide +kernel) (by decide +kernel)⟩
abbrev mX1_nextNotFolded : jMD := (yX1_nextNotFolded, cX1_nextNotFolded, 6, some .int)
theorem kX1_nextNotFolded : jMk mX1_nextNotFolded 3 := ⟨jgd_of (by decide +kernel) (by decide +kernel), jgd_of (by decide +kernel) (by decide +kernel), by decide +kernel, ⟨by decide +kernel, by decide +kernel, by decide +kernel⟩, by decide⟩
theorem iX1_nextNotFolded : jIn mX1_nextNotFolded := ⟨jgd_of (by decide +kernel) (by decide +kernel), jgd_of (by decide +kernel) (by decide +kernel)⟩
abbrev mX1_hindrance : jMD := (yX1_hindrance, cX1_hindrance, 6, some .int)
theorem kX1_hindrance : jMk mX1_hindrance 3 := ⟨jgd_of (by decide +kernel) (by decide +kernel), jgd_of (by decide +kernel) (by decide +kernel), by decide +kernel, ⟨by decide +kernel, by decide +kernel, by decide +kernel⟩, by decide⟩
theorem iX1_hindrance : jIn mX1_hindrance := ⟨jgd_of (by decide +kernel) (by decide +kernel), jgd_of (by decide +kernel) (by decide +kernel)⟩
abbrev mX1_begin : jMD := (yX1_begin, cX1_begin, 7, none)
theorem kX1_begin : jMk mX1_begin 3 := ⟨jgd_of (by decide +kernel) (by decide +kernel), jgd_of (by decide +kernel) (by decide +kernel), by decide +kernel, ⟨by decide +kernel, by decide +kernel, by decide +kernel⟩, by decide⟩
theorem iX1_begin : jIn mX1_begin := ⟨jgd_of (by decide +kernel) (by decide +kernel), jgd_of (by decide +kernel) (by decide +kernel)⟩
abbrev mX1_close : jMD := (yX1_close, cX1_close, 5, none)
theorem kX1_close : jMk mX1_close 4 := ⟨jgd_of (by decide +kernel) (by decide +kernel), jgd_of (by decide +kernel) (by decide +kernel), by decide +kernel, ⟨by decide +kernel, by decide +kernel, by decide +kernel⟩, by decide⟩
theorem iX1_close : jIn mX1_close := ⟨jgd_of (by decide +kernel) (by decide +kernel), jgd_of (by decide +kernel) (by decide +kernel)⟩
abbrev mX1_waitFor : jMD := (yX1_waitFor, cX1_waitFor, 8, some .int)
theorem kX1_waitFor : jMk mX1_waitFor 3 := ⟨jgd_of (by decide +kernel) (by decide +kernel), jgd_of (by decide +kernel) (by decide +kernel), by decide +kernel, ⟨by decide +kernel, by decide +kernel, by decide +kernel⟩, by decide⟩
theorem iX1_waitFor : jIn mX1_waitFor := ⟨jgd_of (by decide +kernel) (by decide +kernel), jgd_of (by decide +kernel) (by decide +kernel)⟩
abbrev mX1_waitOf : jMD := (yX1_waitOf, cX1_waitOf, 5, some .int)
theorem kX1_waitOf : jMk mX1_waitOf 2 := ⟨jgd_of (by decide +kernel) (by decide +kernel), jgd_of (by decide +kernel) (by decide +kernel), by decide +kernel, ⟨by decide +kernel, by decide +kernel, by decide +kernel⟩, by decide⟩
theorem iX1_waitOf : jIn mX1_waitOf := ⟨jgd_of (by decide +kernel) (by decide +kernel), jgd_of (by decide +kernel) (by decide +kernel)⟩
abbrev mX1_hearingsOf : jMD := (yX1_hearingsOf, cX1_hearingsOf, 5, some .int)
theorem kX1_hearingsOf : jMk mX1_hearingsOf 2 := ⟨jgd_of (by decide +kernel) (by decide +kernel), jgd_of (by decide +kernel) (by decide +kernel), by decide +kernel, ⟨by decide +kernel, by decide +kernel, by decide +kernel⟩, by decide⟩
theorem iX1_hearingsOf : jIn mX1_hearingsOf := ⟨jgd_of (by decide +kernel) (by decide +kernel), jgd_of (by decide +kernel) (by decide +kernel)⟩
abbrev mX2_has : jMD := (yX2_has, cX2_has, 2, some .boolean)
theorem kX2_has : jMk mX2_has 1 := ⟨jgd_of (by decide +kernel) (by decide +kernel), jgd_of (by decide +kernel) (by decide +kernel), by decide +kernel, ⟨by decide +kernel, by decide +kernel, by decide +kernel⟩, by decide⟩
theorem iX2_has : jIn mX2_has := ⟨jgd_of (by decide +kernel) (by decide +kernel), jgd_of (by decide +kernel) (by decide +kernel)⟩
abbrev mX2_enter : jMD := (yX2_enter, cX2_enter, 5, some .int)
theorem kX2_enter : jMk mX2_enter 3 := ⟨jgd_of (by decide +kernel) (by decide +kernel), jgd_of (by decide +kernel) (by decide +kernel), by decide +kernel, ⟨by decide +kernel, by decide +kernel, by decide +kernel⟩, by decide⟩
theorem iX2_enter : jIn mX2_enter := ⟨jgd_of (by decide +kernel) (by decide +kernel), jgd_of (by decide +kernel) (by decide +kernel)⟩
abbrev mX2_caseAt : jMD := (yX2_caseAt, cX2_caseAt, 3, some .int)
theorem kX2_caseAt : jMk mX2_caseAt 2 := ⟨jgd_of (by decide +kernel) (by decide +kernel), jgd_of (by decide +kernel) (by decide +kernel), by decide +kernel, ⟨by decide +kernel, by decide +kernel, by decide +kernel⟩, by decide⟩
theorem iX2_caseAt : jIn mX2_caseAt := ⟨jgd_of (by decide +kernel) (by decide +kernel), jgd_of (by decide +kernel) (by decide +kernel)⟩
abbrev mX2_placeOf : jMD := (yX2_placeOf, cX2_placeOf, 4, some .int)
theorem kX2_placeOf : jMk mX2_placeOf 1 := ⟨jgd_of (by decide +kernel) (by decide +kernel), jgd_of (by decide +kernel) (by decide +kernel), by decide +kernel, ⟨by decide +kernel, by decide +kernel, by decide +kernel⟩, by decide⟩
theorem iX2_placeOf : jIn mX2_placeOf := ⟨jgd_of (by decide +kernel) (by decide +kernel), jgd_of (by decide +kernel) (by decide +kernel)⟩
abbrev mX2_joinList : jMD := (yX2_joinList, cX2_joinList, 3, none)
theorem kX2_joinList : jMk mX2_joinList 2 := ⟨jgd_of (by decide +kernel) (by decide +kernel), jgd_of (by decide +kernel) (by decide +kernel), by decide +kernel, ⟨by decide +kernel, by decide +kernel, by decide +kernel⟩, by decide⟩
theorem iX2_joinList : jIn mX2_joinList := ⟨jgd_of (by decide +kernel) (by decide +kernel), jgd_of (by decide +kernel) (by decide +kernel)⟩
abbrev mX2_leaveList : jMD := (yX2_leaveList, cX2_leaveList, 4, none)
theorem kX2_leaveList : jMk mX2_leaveList 1 := ⟨jgd_of (by decide +kernel) (by decide +kernel), jgd_of (by decide +kernel) (by decide +kernel), by decide +kernel, ⟨by decide +kernel, by decide +kernel, by decide +kernel⟩, by decide⟩
theorem iX2_leaveList : jIn mX2_leaveList := ⟨jgd_of (by decide +kernel) (by decide +kernel), jgd_of (by decide +kernel) (by decide +kernel)⟩
abbrev mX2_hasNeedOf : jMD := (yX2_hasNeedOf, cX2_hasNeedOf, 3, some .boolean)
theorem kX2_hasNeedOf : jMk mX2_hasNeedOf 2 := ⟨jgd_of (by decide +kernel) (by decide +kernel), jgd_of (by decide +kernel) (by decide +kernel), by decide +kernel, ⟨by decide +kernel, by decide +kernel, by decide +kernel⟩, by decide⟩
theorem iX2_hasNeedOf : jIn mX2_hasNeedOf := ⟨jgd_of (by decide +kernel) (by decide +kernel), jgd_of (by decide +kernel) (by decide +kernel)⟩
abbrev mX2_isCalled : jMD := (yX2_isCalled, cX2_isCalled, 3, some .boolean)
theorem kX2_isCalled : jMk mX2_isCalled 1 := ⟨jgd_of (by decide +kernel) (by decide +kernel), jgd_of (by decide +kernel) (by decide +kernel), by decide +kernel, ⟨by decide +kernel, by decide +kernel, by decide +kernel⟩, by decide⟩
theorem iX2_isCalled : jIn mX2_isCalled := ⟨jgd_of (by decide +kernel) (by decide +kernel), jgd_of (by decide +kernel) (by decide +kernel)⟩
abbrev mX2_quarterFor : jMD := (yX2_quarterFor, cX2_quarterFor, 3, some .int)
theorem kX2_quarterFor : jMk mX2_quarterFor 2 := ⟨jgd_of (by decide +kernel) (by decide +kernel), jgd_of (by decide +kernel) (by decide +kernel), by decide +kernel, ⟨by decide +kernel, by decide +kernel, by decide +kernel⟩, by decide⟩
theorem iX2_quarterFor : jIn mX2_quarterFor := ⟨jgd_of (by decide +kernel) (by decide +kernel), jgd_of (by decide +kernel) (by decide +kernel)⟩
abbrev mX2_callFor : jMD := (yX2_callFor, cX2_callFor, 4, none)
theorem kX2_callFor : jMk mX2_callFor 3 := ⟨jgd_of (by decide +kernel) (by decide +kernel), jgd_of (by decide +kernel) (by decide +kernel), by decide +kernel, ⟨by decide +kernel, by decide +kernel, by decide +kernel⟩, by decide⟩
theorem iX2_callFor : jIn mX2_callFor := ⟨jgd_of (by decide +kernel) (by decide +kernel), jgd_of (by decide +kernel) (by decide +kernel)⟩
abbrev mX2_isFolded : jMD := (yX2_isFolded, cX2_isFolded, 2, some .boolean)
theorem kX2_isFolded : jMk mX2_isFolded 1 := ⟨jgd_of (by decide +kernel) (by decide +kernel), jgd_of (by decide +kernel) (by decide +kernel), by decide +kernel, ⟨by decide +kernel, by decide +kernel, by decide +kernel⟩, by decide⟩
theorem iX2_isFolded : jIn mX2_isFolded := ⟨jgd_of (by decide +kernel) (by decide +kernel), jgd_of (by decide +kernel) (by decide +kernel)⟩
abbrev mX2_takesQuarters : jMD := (yX2_takesQuarters, cX2_takesQuarters, 2, some .int)
theorem kX2_takesQuarters : jMk mX2_takesQuarters 1 := ⟨jgd_of (by decide +kernel) (by decide +kernel), jgd_of (by decide +kernel) (by decide +kernel), by decide +kernel, ⟨by decide +kernel, by decide +kernel, by decide +kernel⟩, by decide⟩
theorem iX2_takesQuarters : jIn mX2_takesQuarters := ⟨jgd_of (by decide +kernel) (by decide +kernel), jgd_of (by decide +kernel) (by decide +kernel)⟩
abbrev mX2_fatesTold : jMD := (yX2_fatesTold, cX2_fatesTold, 3, some .int)
theorem kX2_fatesTold : jMk mX2_fatesTold 0 := ⟨jgd_of (by decide +kernel) (by decide +kernel), jgd_of (by decide +kernel) (by decide +kernel), by decide +kernel, ⟨by decide +kernel, by decide +kernel, by decide +kernel⟩, by decide⟩
theorem iX2_fatesTold : jIn mX2_fatesTold := ⟨jgd_of (by decide +kernel) (by decide +kernel), jgd_of (by decide +kernel) (by decide +kernel)⟩
abbrev mX3_send : jMD := (yX3_send, cX3_send, 3, none)
theorem kX3_send : jMk mX3_send 2 := ⟨jgd_of (by decide +kernel) (by decide +kernel), jgd_of (by decide +kernel) (by decide +kernel), by decide +kernel, ⟨by decide +kernel, by decide +kernel, by decide +kernel⟩, by decide⟩
theorem iX3_send : jIn mX3_send := ⟨jgd_of (by decide +kernel) (by decide +kernel), jgd_of (by decide +kernel) (by decide +kernel)⟩
abbrev mX3_isPending : jMD := (yX3_isPending, cX3_isPending, 4, some .boolean)
theorem kX3_isPending : jMk mX3_isPending 2 := ⟨jgd_of (by decide +kernel) (by decide +kernel), jgd_of (by decide +kernel) (by decide +kernel), by decide +kernel, ⟨by decide +kernel, by decide +kernel, by decide +kernel⟩, by decide⟩
theorem iX3_isPending : jIn mX3_isPending := ⟨jgd_of (by decide +kernel) (by decide +kernel), jgd_of (by decide +kernel) (by decide +kernel)⟩
abbrev mX3_readAll : jMD := (yX3_readAll, cX3_readAll, 4, some .int)
theorem kX3_readAll : jMk mX3_readAll 1 := ⟨jgd_of (by decide +kernel) (by decide +kernel), jgd_of (by decide +kernel) (by decide +kernel), by decide +kernel, ⟨by decide +kernel, by decide +kernel, by decide +kernel⟩, by decide⟩
theorem iX3_readAll : jIn mX3_readAll := ⟨jgd_of (by decide +kernel) (by decide +kernel), jgd_of (by decide +kernel) (by decide +kernel)⟩
abbrev mX3_unread : jMD := (yX3_unread, cX3_unread, 3, some .int)
theorem kX3_unread : jMk mX3_unread 0 := ⟨jgd_of (by decide +kernel) (by decide +kernel), jgd_of (by decide +kernel) (by decide +kernel), by decide +kernel, ⟨by decide +kernel, by decide +kernel, by decide +kernel⟩, by decide⟩
theorem iX3_unread : jIn mX3_unread := ⟨jgd_of (by decide +kernel) (by decide +kernel), jgd_of (by decide +kernel) (by decide +kernel)⟩
abbrev mX4_has : jMD := (yX4_has, cX4_has, 2, some .boolean)
theorem kX4_has : jMk mX4_has 1 := ⟨jgd_of (by decide +kernel) (by decide +kernel), jgd_of (by decide +kernel) (by decide +kernel), by decide +kernel, ⟨by decide +kernel, by decide +kernel, by decide +kernel⟩, by decide⟩
theorem iX4_has : jIn mX4_has := ⟨jgd_of (by decide +kernel) (by decide +kernel), jgd_of (by decide +kernel) (by decide +kernel)⟩
abbrev mX4_enter : jMD := (yX4_enter, cX4_enter, 4, some .int)
theorem kX4_enter : jMk mX4_enter 2 := ⟨jgd_of (by decide +kernel) (by decide +kernel), jgd_of (by decide +kernel) (by decide +kernel), by decide +kernel, ⟨by decide +kernel, by decide +kernel, by decide +kernel⟩, by decide⟩
theorem iX4_enter : jIn mX4_enter := ⟨jgd_of (by decide +kernel) (by decide +kernel), jgd_of (by decide +kernel) (by decide +kernel)⟩
abbrev mX4_areApart : jMD := (yX4_areApart, cX4_areApart, 3, some .boolean)
theorem kX4_areApart : jMk mX4_areApart 2 := ⟨jgd_of (by decide +kernel) (by decide +kernel), jgd_of (by decide +kernel) (by decide +kernel), by decide +kernel, ⟨by decide +kernel, by decide +kernel, by decide +kernel⟩, by decide⟩
theorem iX4_areApart : jIn mX4_areApart := ⟨jgd_of (by decide +kernel) (by decide +kernel), jgd_of (by decide +kernel) (by decide +kernel)⟩
abbrev mX4_setApart : jMD := (yX4_setApart, cX4_setApart, 4, none)
theorem kX4_setApart : jMk mX4_setApart 3 := ⟨jgd_of (by decide +kernel) (by decide +kernel), jgd_of (by decide +kernel) (by decide +kernel), by decide +kernel, ⟨by decide +kernel, by decide +kernel, by decide +kernel⟩, by decide⟩
theorem iX4_setApart : jIn mX4_setApart := ⟨jgd_of (by decide +kernel) (by decide +kernel), jgd_of (by decide +kernel) (by decide +kernel)⟩
abbrev mX4_pairsApart : jMD := (yX4_pairsApart, cX4_pairsApart, 3, some .int)
theorem kX4_pairsApart : jMk mX4_pairsApart 0 := ⟨jgd_of (by decide +kernel) (by decide +kernel), jgd_of (by decide +kernel) (by decide +kernel), by decide +kernel, ⟨by decide +kernel, by decide +kernel, by decide +kernel⟩, by decide⟩
theorem iX4_pairsApart : jIn mX4_pairsApart := ⟨jgd_of (by decide +kernel) (by decide +kernel), jgd_of (by decide +kernel) (by decide +kernel)⟩
abbrev mX5_give : jMD := (yX5_give, cX5_give, 5, some .boolean)
theorem kX5_give : jMk mX5_give 3 := ⟨jgd_of (by decide +kernel) (by decide +kernel), jgd_of (by decide +kernel) (by decide +kernel), by decide +kernel, ⟨by decide +kernel, by decide +kernel, by decide +kernel⟩, by decide⟩
theorem iX5_give : jIn mX5_give := ⟨jgd_of (by decide +kernel) (by decide +kernel), jgd_of (by decide +kernel) (by decide +kernel)⟩
abbrev mX5_measureStay : jMD := (yX5_measureStay, cX5_measureStay, 7, none)
theorem kX5_measureStay : jMk mX5_measureStay 3 := ⟨jgd_of (by decide +kernel) (by decide +kernel), jgd_of (by decide +kernel) (by decide +kernel), by decide +kernel, ⟨by decide +kernel, by decide +kernel, by decide +kernel⟩, by decide⟩
theorem iX5_measureStay : jIn mX5_measureStay := ⟨jgd_of (by decide +kernel) (by decide +kernel), jgd_of (by decide +kernel) (by decide +kernel)⟩
abbrev mX5_findFoes : jMD := (yX5_findFoes, cX5_findFoes, 5, none)
theorem kX5_findFoes : jMk mX5_findFoes 2 := ⟨jgd_of (by decide +kernel) (by decide +kernel), jgd_of (by decide +kernel) (by decide +kernel), by decide +kernel, ⟨by decide +kernel, by decide +kernel, by decide +kernel⟩, by decide⟩
theorem iX5_findFoes : jIn mX5_findFoes := ⟨jgd_of (by decide +kernel) (by decide +kernel), jgd_of (by decide +kernel) (by decide +kernel)⟩
abbrev mX5_settle : jMD := (yX5_settle, cX5_settle, 5, some .boolean)
theorem kX5_settle : jMk mX5_settle 3 := ⟨jgd_of (by decide +kernel) (by decide +kernel), jgd_of (by decide +kernel) (by decide +kernel), by decide +kernel, ⟨by decide +kernel, by decide +kernel, by decide +kernel⟩, by decide⟩
theorem iX5_settle : jSt mX5_settle := jgd_of (by decide +kernel) (by decide +kernel)
abbrev mX5_isFree : jMD := (yX5_isFree, cX5_isFree, 3, some .boolean)
theorem kX5_isFree : jMk mX5_isFree 2 := ⟨jgd_of (by decide +kernel) (by decide +kernel), jgd_of (by decide +kernel) (by decide +kernel), by decide +kernel, ⟨by decide +kernel, by decide +kernel, by decide +kernel⟩, by decide⟩
theorem iX5_isFree : jIn mX5_isFree := ⟨jgd_of (by decide +kernel) (by decide +kernel), jgd_of (by decide +kernel) (by decide +kernel)⟩
abbrev mX5_enter : jMD := (yX5_enter, cX5_enter, 3, none)
theorem kX5_enter : jMk mX5_enter 2 := ⟨jgd_of (by decide +kernel) (by decide +kernel), jgd_of (by decide +kernel) (by decide +kernel), by decide +kernel, ⟨by decide +kernel, by decide +kernel, by decide +kernel⟩, by decide⟩
theorem iX5_enter : jIn mX5_enter := ⟨jgd_of (by decide +kernel) (by decide +kernel), jgd_of (by decide +kernel) (by decide +kernel)⟩
abbrev mX5_leave : jMD := (yX5_leave, cX5_leave, 3, none)
theorem kX5_leave : jMk mX5_leave 2 := ⟨jgd_of (by decide +kernel) (by decide +kernel), jgd_of (by decide +kernel) (by decide +kernel), by decide +kernel, ⟨by decide +kernel, by decide +kernel, by decide +kernel⟩, by decide⟩
theorem iX5_leave : jIn mX5_leave := ⟨jgd_of (by decide +kernel) (by decide +kernel), jgd_of (by decide +kernel) (by decide +kernel)⟩
abbrev mX6_isMissing : jMD := (yX6_isMissing, cX6_isMissing, 2, some .boolean)
theorem kX6_isMissing : jMk mX6_isMissing 1 := ⟨jgd_of (by decide +kernel) (by decide +kernel), jgd_of (by decide +kernel) (by decide +kernel), by decide +kernel, ⟨by decide +kernel, by decide +kernel, by decide +kernel⟩, by decide⟩
theorem iX6_isMissing : jIn mX6_isMissing := ⟨jgd_of (by decide +kernel) (by decide +kernel), jgd_of (by decide +kernel) (by decide +kernel)⟩
abbrev mX6_layOut : jMD := (yX6_layOut, cX6_layOut, 4, none)
theorem kX6_layOut : jMk mX6_layOut 2 := ⟨jgd_of (by decide +kernel) (by decide +kernel), jgd_of (by decide +kernel) (by decide +kernel), by decide +kernel, ⟨by decide +kernel, by decide +kernel, by decide +kernel⟩, by decide⟩
theorem iX6_layOut : jIn mX6_layOut := ⟨jgd_of (by decide +kernel) (by decide +kernel), jgd_of (by decide +kernel) (by decide +kernel)⟩
abbrev mX6_hasRun : jMD := (yX6_hasRun, cX6_hasRun, 4, some .boolean)
theorem kX6_hasRun : jMk mX6_hasRun 3 := ⟨jgd_of (by decide +kernel) (by decide +kernel), jgd_of (by decide +kernel) (by decide +kernel), by decide +kernel, ⟨by decide +kernel, by decide +kernel, by decide +kernel⟩, by decide⟩
theorem iX6_hasRun : jIn mX6_hasRun := ⟨jgd_of (by decide +kernel) (by decide +kernel), jgd_of (by decide +kernel) (by decide +kernel)⟩
abbrev mX6_valueAt : jMD := (yX6_valueAt, cX6_valueAt, 3, some .int)
theorem kX6_valueAt : jMk mX6_valueAt 2 := ⟨jgd_of (by decide +kernel) (by decide +kernel), jgd_of (by decide +kernel) (by decide +kernel), by decide +kernel, ⟨by decide +kernel, by decide +kernel, by decide +kernel⟩, by decide⟩
theorem iX6_valueAt : jIn mX6_valueAt := ⟨jgd_of (by decide +kernel) (by decide +kernel), jgd_of (by decide +kernel) (by decide +kernel)⟩
abbrev mX6_put : jMD := (yX6_put, cX6_put, 4, none)
theorem kX6_put : jMk mX6_put 3 := ⟨jgd_of (by decide +kernel) (by decide +kernel), jgd_of (by decide +kernel) (by decide +kernel), by decide +kernel, ⟨by decide +kernel, by decide +kernel, by decide +kernel⟩, by decide⟩
theorem iX6_put : jIn mX6_put := ⟨jgd_of (by decide +kernel) (by decide +kernel), jgd_of (by decide +kernel) (by decide +kernel)⟩
abbrev mX6_copyRun : jMD := (yX6_copyRun, cX6_copyRun, 6, none)
theorem kX6_copyRun : jMk mX6_copyRun 5 := ⟨jgd_of (by decide +kernel) (by decide +kernel), jgd_of (by decide +kernel) (by decide +kernel), by decide +kernel, ⟨by decide +kernel, by decide +kernel, by decide +kernel⟩, by decide⟩
theorem iX6_copyRun : jIn mX6_copyRun := ⟨jgd_of (by decide +kernel) (by decide +kernel), jgd_of (by decide +kernel) (by decide +kernel)⟩
abbrev mX6_present : jMD := (yX6_present, cX6_present, 3, some .int)
theorem kX6_present : jMk mX6_present 0 := ⟨jgd_of (by decide +kernel) (by decide +kernel), jgd_of (by decide +kernel) (by decide +kernel), by decide +kernel, ⟨by decide +kernel, by decide +kernel, by decide +kernel⟩, by decide⟩
theorem iX6_present : jIn mX6_present := ⟨jgd_of (by decide +kernel) (by decide +kernel), jgd_of (by decide +kernel) (by decide +kernel)⟩
abbrev mX7_newCase : jMD := (yX7_newCase, cX7_newCase, 4, some .long)
theorem kX7_newCase : jMk mX7_newCase 3 := ⟨jgd_of (by decide +kernel) (by decide +kernel), jgd_of (by decide +kernel) (by decide +kernel), by decide +kernel, ⟨by decide +kernel, by decide +kernel, by decide +kernel⟩, by decide⟩
theorem iX7_newCase : jIn mX7_newCase := ⟨jgd_of (by decide +kernel) (by decide +kernel), jgd_of (by decide +kernel) (by decide +kernel)⟩
abbrev mX7_witness : jMD := (yX7_witness, cX7_witness, 3, some .long)
theorem kX7_witness : jMk mX7_witness 2 := ⟨jgd_of (by decide +kernel) (by decide +kernel), jgd_of (by decide +kernel) (by decide +kernel), by decide +kernel, ⟨by decide +kernel, by decide +kernel, by decide +kernel⟩, by decide⟩
theorem iX7_witness : jIn mX7_witness := ⟨jgd_of (by decide +kernel) (by decide +kernel), jgd_of (by decide +kernel) (by decide +kernel)⟩
abbrev mX7_isOf : jMD := (yX7_isOf, cX7_isOf, 5, some .long)
theorem kX7_isOf : jMk mX7_isOf 2 := ⟨jgd_of (by decide +kernel) (by decide +kernel), jgd_of (by decide +kernel) (by decide +kernel), by decide +kernel, ⟨by decide +kernel, by decide +kernel, by decide +kernel⟩, by decide⟩
theorem iX7_isOf : jIn mX7_isOf := ⟨jgd_of (by decide +kernel) (by decide +kernel), jgd_of (by decide +kernel) (by decide +kernel)⟩
abbrev mX7_needs : jMD := (yX7_needs, cX7_needs, 5, some .long)
theorem kX7_needs : jMk mX7_needs 2 := ⟨jgd_of (by decide +kernel) (by decide +kernel), jgd_of (by decide +kernel) (by decide +kernel), by decide +kernel, ⟨by decide +kernel, by decide +kernel, by decide +kernel⟩, by decide⟩
theorem iX7_needs : jIn mX7_needs := ⟨jgd_of (by decide +kernel) (by decide +kernel), jgd_of (by decide +kernel) (by decide +kernel)⟩
abbrev mX7_fold : jMD := (yX7_fold, cX7_fold, 4, some .long)
theorem kX7_fold : jMk mX7_fold 2 := ⟨jgd_of (by decide +kernel) (by decide +kernel), jgd_of (by decide +kernel) (by decide +kernel), by decide +kernel, ⟨by decide +kernel, by decide +kernel, by decide +kernel⟩, by decide⟩
theorem iX7_fold : jIn mX7_fold := ⟨jgd_of (by decide +kernel) (by decide +kernel), jgd_of (by decide +kernel) (by decide +kernel)⟩
abbrev mX7_told : jMD := (yX7_told, cX7_told, 3, some .long)
theorem kX7_told : jMk mX7_told 2 := ⟨jgd_of (by decide +kernel) (by decide +kernel), jgd_of (by decide +kernel) (by decide +kernel), by decide +kernel, ⟨by decide +kernel, by decide +kernel, by decide +kernel⟩, by decide⟩
theorem iX7_told : jIn mX7_told := ⟨jgd_of (by decide +kernel) (by decide +kernel), jgd_of (by decide +kernel) (by decide +kernel)⟩
abbrev mX7_inList : jMD := (yX7_inList, cX7_inList, 4, some .long)
theorem kX7_inList : jMk mX7_inList 2 := ⟨jgd_of (by decide +kernel) (by decide +kernel), jgd_of (by decide +kernel) (by decide +kernel), by decide +kernel, ⟨by decide +kernel, by decide +kernel, by decide +kernel⟩, by decide⟩
theorem iX7_inList : jIn mX7_inList := ⟨jgd_of (by decide +kernel) (by decide +kernel), jgd_of (by decide +kernel) (by decide +kernel)⟩
abbrev mX7_rule : jMD := (yX7_rule, cX7_rule, 4, some .long)
theorem kX7_rule : jMk mX7_rule 2 := ⟨jgd_of (by decide +kernel) (by decide +kernel), jgd_of (by decide +kernel) (by decide +kernel), by decide +kernel, ⟨by decide +kernel, by decide +kernel, by decide +kernel⟩, by decide⟩
theorem iX7_rule : jIn mX7_rule := ⟨jgd_of (by decide +kernel) (by decide +kernel), jgd_of (by decide +kernel) (by decide +kernel)⟩
abbrev mX7_weight : jMD := (yX7_weight, cX7_weight, 3, some .long)
theorem kX7_weight : jMk mX7_weight 2 := ⟨jgd_of (by decide +kernel) (by decide +kernel), jgd_of (by decide +kernel) (by decide +kernel), by decide +kernel, ⟨by decide +kernel, by decide +kernel, by decide +kernel⟩, by decide⟩
theorem iX7_weight : jIn mX7_weight := ⟨jgd_of (by decide +kernel) (by decide +kernel), jgd_of (by decide +kernel) (by decide +kernel)⟩
abbrev mX7_cost : jMD := (yX7_cost, cX7_cost, 3, some .long)
theorem kX7_cost : jMk mX7_cost 2 := ⟨jgd_of (by decide +kernel) (by decide +kernel), jgd_of (by decide +kernel) (by decide +kernel), by decide +kernel, ⟨by decide +kernel, by decide +kernel, by decide +kernel⟩, by decide⟩
theorem iX7_cost : jIn mX7_cost := ⟨jgd_of (by decide +kernel) (by decide +kernel), jgd_of (by decide +kernel) (by decide +kernel)⟩
abbrev mX7_best : jMD := (yX7_best, cX7_best, 2, some .long)
theorem kX7_best : jMk mX7_best 1 := ⟨jgd_of (by decide +kernel) (by decide +kernel), jgd_of (by decide +kernel) (by decide +kernel), by decide +kernel, ⟨by decide +kernel, by decide +kernel, by decide +kernel⟩, by decide⟩
theorem iX7_best : jIn mX7_best := ⟨jgd_of (by decide +kernel) (by decide +kernel), jgd_of (by decide +kernel) (by decide +kernel)⟩
abbrev mX7_call : jMD := (yX7_call, cX7_call, 5, some .long)
theorem kX7_call : jMk mX7_call 3 := ⟨jgd_of (by decide +kernel) (by decide +kernel), jgd_of (by decide +kernel) (by decide +kernel), by decide +kernel, ⟨by decide +kernel, by decide +kernel, by decide +kernel⟩, by decide⟩
theorem iX7_call : jIn mX7_call := ⟨jgd_of (by decide +kernel) (by decide +kernel), jgd_of (by decide +kernel) (by decide +kernel)⟩
abbrev mX7_called : jMD := (yX7_called, cX7_called, 3, some .long)
theorem kX7_called : jMk mX7_called 2 := ⟨jgd_of (by decide +kernel) (by decide +kernel), jgd_of (by decide +kernel) (by decide +kernel), by decide +kernel, ⟨by decide +kernel, by decide +kernel, by decide +kernel⟩, by decide⟩
theorem iX7_called : jIn mX7_called := ⟨jgd_of (by decide +kernel) (by decide +kernel), jgd_of (by decide +kernel) (by decide +kernel)⟩
abbrev mX7_plan : jMD := (yX7_plan, cX7_plan, 4, some .long)
theorem kX7_plan : jMk mX7_plan 1 := ⟨jgd_of (by decide +kernel) (by decide +kernel), jgd_of (by decide +kernel) (by decide +kernel), by decide +kernel, ⟨by decide +kernel, by decide +kernel, by decide +kernel⟩, by decide⟩
theorem iX7_plan : jIn mX7_plan := ⟨jgd_of (by decide +kernel) (by decide +kernel), jgd_of (by decide +kernel) (by decide +kernel)⟩
abbrev mX7_fate : jMD := (yX7_fate, cX7_fate, 4, some .long)
theorem kX7_fate : jMk mX7_fate 2 := ⟨jgd_of (by decide +kernel) (by decide +kernel), jgd_of (by decide +kernel) (by decide +kernel), by decide +kernel, ⟨by decide +kernel, by decide +kernel, by decide +kernel⟩, by decide⟩
theorem iX7_fate : jIn mX7_fate := ⟨jgd_of (by decide +kernel) (by decide +kernel), jgd_of (by decide +kernel) (by decide +kernel)⟩
abbrev mX7_begins : jMD := (yX7_begins, cX7_begins, 3, some .long)
theorem kX7_begins : jMk mX7_begins 2 := ⟨jgd_of (by decide +kernel) (by decide +kernel), jgd_of (by decide +kernel) (by decide +kernel), by decide +kernel, ⟨by decide +kernel, by decide +kernel, by decide +kernel⟩, by decide⟩
theorem iX7_begins : jIn mX7_begins := ⟨jgd_of (by decide +kernel) (by decide +kernel), jgd_of (by decide +kernel) (by decide +kernel)⟩
abbrev mX7_waited : jMD := (yX7_waited, cX7_waited, 3, some .long)
theorem kX7_waited : jMk mX7_waited 2 := ⟨jgd_of (by decide +kernel) (by decide +kernel), jgd_of (by decide +kernel) (by decide +kernel), by decide +kernel, ⟨by decide +kernel, by decide +kernel, by decide +kernel⟩, by decide⟩
theorem iX7_waited : jIn mX7_waited := ⟨jgd_of (by decide +kernel) (by decide +kernel), jgd_of (by decide +kernel) (by decide +kernel)⟩
abbrev mX7_idle : jMD := (yX7_idle, cX7_idle, 3, some .long)
theorem kX7_idle : jMk mX7_idle 2 := ⟨jgd_of (by decide +kernel) (by decide +kernel), jgd_of (by decide +kernel) (by decide +kernel), by decide +kernel, ⟨by decide +kernel, by decide +kernel, by decide +kernel⟩, by decide⟩
theorem iX7_idle : jIn mX7_idle := ⟨jgd_of (by decide +kernel) (by decide +kernel), jgd_of (by decide +kernel) (by decide +kernel)⟩
abbrev mX7_waits : jMD := (yX7_waits, cX7_waits, 4, some .long)
theorem kX7_waits : jMk mX7_waits 0 := ⟨jgd_of (by decide +kernel) (by decide +kernel), jgd_of (by decide +kernel) (by decide +kernel), by decide +kernel, ⟨by decide +kernel, by decide +kernel, by decide +kernel⟩, by decide⟩
theorem iX7_waits : jIn mX7_waits := ⟨jgd_of (by decide +kernel) (by decide +kernel), jgd_of (by decide +kernel) (by decide +kernel)⟩
abbrev mX7_pay : jMD := (yX7_pay, cX7_pay, 9, some .long)
theorem kX7_pay : jMk mX7_pay 1 := ⟨jgd_of (by decide +kernel) (by decide +kernel), jgd_of (by decide +kernel) (by decide +kernel), by decide +kernel, ⟨by decide +kernel, by decide +kernel, by decide +kernel⟩, by decide⟩
theorem iX7_pay : jIn mX7_pay := ⟨jgd_of (by decide +kernel) (by decide +kernel), jgd_of (by decide +kernel) (by decide +kernel)⟩
abbrev mX7_apart : jMD := (yX7_apart, cX7_apart, 5, some .long)
theorem kX7_apart : jMk mX7_apart 3 := ⟨jgd_of (by decide +kernel) (by decide +kernel), jgd_of (by decide +kernel) (by decide +kernel), by decide +kernel, ⟨by decide +kernel, by decide +kernel, by decide +kernel⟩, by decide⟩
theorem iX7_apart : jIn mX7_apart := ⟨jgd_of (by decide +kernel) (by decide +kernel), jgd_of (by decide +kernel) (by decide +kernel)⟩
abbrev mX7_room : jMD := (yX7_room, cX7_room, 2, some .long)
theorem kX7_room : jMk mX7_room 1 := ⟨jgd_of (by decide +kernel) (by decide +kernel), jgd_of (by decide +kernel) (by decide +kernel), by decide +kernel, ⟨by decide +kernel, by decide +kernel, by decide +kernel⟩, by decide⟩
theorem iX7_room : jIn mX7_room := ⟨jgd_of (by decide +kernel) (by decide +kernel), jgd_of (by decide +kernel) (by decide +kernel)⟩
abbrev mX7_move : jMD := (yX7_move, cX7_move, 4, some .long)
theorem kX7_move : jMk mX7_move 2 := ⟨jgd_of (by decide +kernel) (by decide +kernel), jgd_of (by decide +kernel) (by decide +kernel), by decide +kernel, ⟨by decide +kernel, by decide +kernel, by decide +kernel⟩, by decide⟩
theorem iX7_move : jIn mX7_move := ⟨jgd_of (by decide +kernel) (by decide +kernel), jgd_of (by decide +kernel) (by decide +kernel)⟩
abbrev mX7_notice : jMD := (yX7_notice, cX7_notice, 3, some .long)
theorem kX7_notice : jMk mX7_notice 2 := ⟨jgd_of (by decide +kernel) (by decide +kernel), jgd_of (by decide +kernel) (by decide +kernel), by decide +kernel, ⟨by decide +kernel, by decide +kernel, by decide +kernel⟩, by decide⟩
theorem iX7_notice : jIn mX7_notice := ⟨jgd_of (by decide +kernel) (by decide +kernel), jgd_of (by decide +kernel) (by decide +kernel)⟩
abbrev mX7_read : jMD := (yX7_read, cX7_read, 2, some .long)
theorem kX7_read : jMk mX7_read 1 := ⟨jgd_of (by decide +kernel) (by decide +kernel), jgd_of (by decide +kernel) (by decide +kernel), by decide +kernel, ⟨by decide +kernel, by decide +kernel, by decide +kernel⟩, by decide⟩
theorem iX7_read : jIn mX7_read := ⟨jgd_of (by decide +kernel) (by decide +kernel), jgd_of (by decide +kernel) (by decide +kernel)⟩
abbrev mX7_sheet : jMD := (yX7_sheet, cX7_sheet, 3, some .long)
theorem kX7_sheet : jMk mX7_sheet 2 := ⟨jgd_of (by decide +kernel) (by decide +kernel), jgd_of (by decide +kernel) (by decide +kernel), by decide +kernel, ⟨by decide +kernel, by decide +kernel, by decide +kernel⟩, by decide⟩
theorem iX7_sheet : jIn mX7_sheet := ⟨jgd_of (by decide +kernel) (by decide +kernel), jgd_of (by decide +kernel) (by decide +kernel)⟩
abbrev mX7_mark : jMD := (yX7_mark, cX7_mark, 5, some .long)
theorem kX7_mark : jMk mX7_mark 3 := ⟨jgd_of (by decide +kernel) (by decide +kernel), jgd_of (by decide +kernel) (by decide +kernel), by decide +kernel, ⟨by decide +kernel, by decide +kernel, by decide +kernel⟩, by decide⟩
theorem iX7_mark : jIn mX7_mark := ⟨jgd_of (by decide +kernel) (by decide +kernel), jgd_of (by decide +kernel) (by decide +kernel)⟩
abbrev mX7_copy : jMD := (yX7_copy, cX7_copy, 6, some .long)
theorem kX7_copy : jMk mX7_copy 5 := ⟨jgd_of (by decide +kernel) (by decide +kernel), jgd_of (by decide +kernel) (by decide +kernel), by decide +kernel, ⟨by decide +kernel, by decide +kernel, by decide +kernel⟩, by decide⟩
theorem iX7_copy : jIn mX7_copy := ⟨jgd_of (by decide +kernel) (by decide +kernel), jgd_of (by decide +kernel) (by decide +kernel)⟩
abbrev mX7_take : jMD := (yX7_take, cX7_take, 4, some .long)
theorem kX7_take : jMk mX7_take 1 := ⟨jgd_of (by decide +kernel) (by decide +kernel), jgd_of (by decide +kernel) (by decide +kernel), by decide +kernel, ⟨by decide +kernel, by decide +kernel, by decide +kernel⟩, by decide⟩
theorem iX7_take : jIn mX7_take := ⟨jgd_of (by decide +kernel) (by decide +kernel), jgd_of (by decide +kernel) (by decide +kernel)⟩
abbrev mX7_count : jMD := (yX7_count, cX7_count, 2, some .long)
theorem kX7_count : jMk mX7_count 1 := ⟨jgd_of (by decide +kernel) (by decide +kernel), jgd_of (by decide +kernel) (by decide +kernel), by decide +kernel, ⟨by decide +kernel, by decide +kernel, by decide +kernel⟩, by decide⟩
theorem iX7_count : jIn mX7_count := ⟨jgd_of (by decide +kernel) (by decide +kernel), jgd_of (by decide +kernel) (by decide +kernel)⟩
abbrev mX7_isWithin : jMD := (yX7_isWithin, cX7_isWithin, 3, some .boolean)
theorem kX7_isWithin : jMk mX7_isWithin 3 := ⟨jgd_of (by decide +kernel) (by decide +kernel), jgd_of (by decide +kernel) (by decide +kernel), by decide +kernel, ⟨by decide +kernel, by decide +kernel, by decide +kernel⟩, by decide⟩
theorem iX7_isWithin : jSt mX7_isWithin := jgd_of (by decide +kernel) (by decide +kernel)
abbrev mX7_isCourt : jMD := (yX7_isCourt, cX7_isCourt, 1, some .boolean)
theorem kX7_isCourt : jMk mX7_isCourt 1 := ⟨jgd_of (by decide +kernel) (by decide +kernel), jgd_of (by decide +kernel) (by decide +kernel), by decide +kernel, ⟨by decide +kernel, by decide +kernel, by decide +kernel⟩, by decide⟩
theorem iX7_isCourt : jSt mX7_isCourt := jgd_of (by decide +kernel) (by decide +kernel)
abbrev mX7_isQuarter : jMD := (yX7_isQuarter, cX7_isQuarter, 1, some .boolean)
theorem kX7_isQuarter : jMk mX7_isQuarter 1 := ⟨jgd_of (by decide +kernel) (by decide +kernel), jgd_of (by decide +kernel) (by decide +kernel), by decide +kernel, ⟨by decide +kernel, by decide +kernel, by decide +kernel⟩, by decide⟩
theorem iX7_isQuarter : jSt mX7_isQuarter := jgd_of (by decide +kernel) (by decide +kernel)
abbrev mX7_isSheet : jMD := (yX7_isSheet, cX7_isSheet, 1, some .boolean)
theorem kX7_isSheet : jMk mX7_isSheet 1 := ⟨jgd_of (by decide +kernel) (by decide +kernel), jgd_of (by decide +kernel) (by decide +kernel), by decide +kernel, ⟨by decide +kernel, by decide +kernel, by decide +kernel⟩, by decide⟩
theorem iX7_isSheet : jSt mX7_isSheet := jgd_of (by decide +kernel) (by decide +kernel)
abbrev mX7_holds : jMD := (yX7_holds, cX7_holds, 2, some .boolean)
theorem kX7_holds : jMk mX7_holds 2 := ⟨jgd_of (by decide +kernel) (by decide +kernel), jgd_of (by decide +kernel) (by decide +kernel), by decide +kernel, ⟨by decide +kernel, by decide +kernel, by decide +kernel⟩, by decide⟩
theorem iX7_holds : jSt mX7_holds := jgd_of (by decide +kernel) (by decide +kernel)
abbrev mX7_asLong : jMD := (yX7_asLong, cX7_asLong, 1, some .long)
theorem kX7_asLong : jMk mX7_asLong 1 := ⟨jgd_of (by decide +kernel) (by decide +kernel), jgd_of (by decide +kernel) (by decide +kernel), by decide +kernel, ⟨by decide +kernel, by decide +kernel, by decide +kernel⟩, by decide⟩
theorem iX7_asLong : jSt mX7_asLong := jgd_of (by decide +kernel) (by decide +kernel)
abbrev mX7_waitPrice : jMD := (yX7_waitPrice, cX7_waitPrice, 4, some .long)
theorem kX7_waitPrice : jMk mX7_waitPrice 1 := ⟨jgd_of (by decide +kernel) (by decide +kernel), jgd_of (by decide +kernel) (by decide +kernel), by decide +kernel, ⟨by decide +kernel, by decide +kernel, by decide +kernel⟩, by decide⟩
theorem iX7_waitPrice : jIn mX7_waitPrice := ⟨jgd_of (by decide +kernel) (by decide +kernel), jgd_of (by decide +kernel) (by decide +kernel)⟩
abbrev mX7_greatestWay : jMD := (yX7_greatestWay, cX7_greatestWay, 4, some .int)
theorem kX7_greatestWay : jMk mX7_greatestWay 1 := ⟨jgd_of (by decide +kernel) (by decide +kernel), jgd_of (by decide +kernel) (by decide +kernel), by decide +kernel, ⟨by decide +kernel, by decide +kernel, by decide +kernel⟩, by decide⟩
theorem iX7_greatestWay : jIn mX7_greatestWay := ⟨jgd_of (by decide +kernel) (by decide +kernel), jgd_of (by decide +kernel) (by decide +kernel)⟩
abbrev mX7_bestQuarter : jMD := (yX7_bestQuarter, cX7_bestQuarter, 2, some .int)
theorem kX7_bestQuarter : jMk mX7_bestQuarter 1 := ⟨jgd_of (by decide +kernel) (by decide +kernel), jgd_of (by decide +kernel) (by decide +kernel), by decide +kernel, ⟨by decide +kernel, by decide +kernel, by decide +kernel⟩, by decide⟩
theorem iX7_bestQuarter : jIn mX7_bestQuarter := ⟨jgd_of (by decide +kernel) (by decide +kernel), jgd_of (by decide +kernel) (by decide +kernel)⟩
abbrev mX8_isIn : jMD := (yX8_isIn, cX8_isIn, 3, some .boolean)
theorem kX8_isIn : jMk mX8_isIn 3 := ⟨jgd_of (by decide +kernel) (by decide +kernel), jgd_of (by decide +kernel) (by decide +kernel), by decide +kernel, ⟨by decide +kernel, by decide +kernel, by decide +kernel⟩, by decide⟩
theorem iX8_isIn : jSt mX8_isIn := jgd_of (by decide +kernel) (by decide +kernel)
abbrev mX8_isCourt : jMD := (yX8_isCourt, cX8_isCourt, 1, some .boolean)
theorem kX8_isCourt : jMk mX8_isCourt 1 := ⟨jgd_of (by decide +kernel) (by decide +kernel), jgd_of (by decide +kernel) (by decide +kernel), by decide +kernel, ⟨by decide +kernel, by decide +kernel, by decide +kernel⟩, by decide⟩
theorem iX8_isCourt : jSt mX8_isCourt := jgd_of (by decide +kernel) (by decide +kernel)
abbrev mX8_isCase : jMD := (yX8_isCase, cX8_isCase, 2, some .boolean)
theorem kX8_isCase : jMk mX8_isCase 1 := ⟨jgd_of (by decide +kernel) (by decide +kernel), jgd_of (by decide +kernel) (by decide +kernel), by decide +kernel, ⟨by decide +kernel, by decide +kernel, by decide +kernel⟩, by decide⟩
theorem iX8_isCase : jIn mX8_isCase := ⟨jgd_of (by decide +kernel) (by decide +kernel), jgd_of (by decide +kernel) (by decide +kernel)⟩
abbrev mX8_isWitness : jMD := (yX8_isWitness, cX8_isWitness, 2, some .boolean)
theorem kX8_isWitness : jMk mX8_isWitness 1 := ⟨jgd_of (by decide +kernel) (by decide +kernel), jgd_of (by decide +kernel) (by decide +kernel), by decide +kernel, ⟨by decide +kernel, by decide +kernel, by decide +kernel⟩, by decide⟩
theorem iX8_isWitness : jIn mX8_isWitness := ⟨jgd_of (by decide +kernel) (by decide +kernel), jgd_of (by decide +kernel) (by decide +kernel)⟩
abbrev mX8_needs1 : jMD := (yX8_needs1, cX8_needs1, 3, some .boolean)
theorem kX8_needs1 : jMk mX8_needs1 2 := ⟨jgd_of (by decide +kernel) (by decide +kernel), jgd_of (by decide +kernel) (by decide +kernel), by decide +kernel, ⟨by decide +kernel, by decide +kernel, by decide +kernel⟩, by decide⟩
theorem iX8_needs1 : jIn mX8_needs1 := ⟨jgd_of (by decide +kernel) (by decide +kernel), jgd_of (by decide +kernel) (by decide +kernel)⟩
abbrev mX8_enter : jMD := (yX8_enter, cX8_enter, 3, none)
theorem kX8_enter : jMk mX8_enter 2 := ⟨jgd_of (by decide +kernel) (by decide +kernel), jgd_of (by decide +kernel) (by decide +kernel), by decide +kernel, ⟨by decide +kernel, by decide +kernel, by decide +kernel⟩, by decide⟩
theorem iX8_enter : jIn mX8_enter := ⟨jgd_of (by decide +kernel) (by decide +kernel), jgd_of (by decide +kernel) (by decide +kernel)⟩
abbrev mX8_newCase : jMD := (yX8_newCase, cX8_newCase, 4, some .long)
theorem kX8_newCase : jMk mX8_newCase 3 := ⟨jgd_of (by decide +kernel) (by decide +kernel), jgd_of (by decide +kernel) (by decide +kernel), by decide +kernel, ⟨by decide +kernel, by decide +kernel, by decide +kernel⟩, by decide⟩
theorem iX8_newCase : jIn mX8_newCase := ⟨jgd_of (by decide +kernel) (by decide +kernel), jgd_of (by decide +kernel) (by decide +kernel)⟩
abbrev mX8_witness : jMD := (yX8_witness, cX8_witness, 3, some .long)
theorem kX8_witness : jMk mX8_witness 2 := ⟨jgd_of (by decide +kernel) (by decide +kernel), jgd_of (by decide +kernel) (by decide +kernel), by decide +kernel, ⟨by decide +kernel, by decide +kernel, by decide +kernel⟩, by decide⟩
theorem iX8_witness : jIn mX8_witness := ⟨jgd_of (by decide +kernel) (by decide +kernel), jgd_of (by decide +kernel) (by decide +kernel)⟩
abbrev mX8_isOf : jMD := (yX8_isOf, cX8_isOf, 4, some .long)
theorem kX8_isOf : jMk mX8_isOf 2 := ⟨jgd_of (by decide +kernel) (by decide +kernel), jgd_of (by decide +kernel) (by decide +kernel), by decide +kernel, ⟨by decide +kernel, by decide +kernel, by decide +kernel⟩, by decide⟩
theorem iX8_isOf : jIn mX8_isOf := ⟨jgd_of (by decide +kernel) (by decide +kernel), jgd_of (by decide +kernel) (by decide +kernel)⟩
abbrev mX8_needs : jMD := (yX8_needs, cX8_needs, 5, some .long)
theorem kX8_needs : jMk mX8_needs 2 := ⟨jgd_of (by decide +kernel) (by decide +kernel), jgd_of (by decide +kernel) (by decide +kernel), by decide +kernel, ⟨by decide +kernel, by decide +kernel, by decide +kernel⟩, by decide⟩
theorem iX8_needs : jIn mX8_needs := ⟨jgd_of (by decide +kernel) (by decide +kernel), jgd_of (by decide +kernel) (by decide +kernel)⟩
abbrev mX8_fold : jMD := (yX8_fold, cX8_fold, 4, some .long)
theorem kX8_fold : jMk mX8_fold 2 := ⟨jgd_of (by decide +kernel) (by decide +kernel), jgd_of (by decide +kernel) (by decide +kernel), by decide +kernel, ⟨by decide +kernel, by decide +kernel, by decide +kernel⟩, by decide⟩
theorem iX8_fold : jIn mX8_fold := ⟨jgd_of (by decide +kernel) (by decide +kernel), jgd_of (by decide +kernel) (by decide +kernel)⟩
abbrev mX8_placeOf : jMD := (yX8_placeOf, cX8_placeOf, 4, some .int)
theorem kX8_placeOf : jMk mX8_placeOf 1 := ⟨jgd_of (by decide +kernel) (by decide +kernel), jgd_of (by decide +kernel) (by decide +kernel), by decide +kernel, ⟨by decide +kernel, by decide +kernel, by decide +kernel⟩, by decide⟩
theorem iX8_placeOf : jIn mX8_placeOf := ⟨jgd_of (by decide +kernel) (by decide +kernel), jgd_of (by decide +kernel) (by decide +kernel)⟩
abbrev mX8_told : jMD := (yX8_told, cX8_told, 3, some .long)
theorem kX8_told : jMk mX8_told 2 := ⟨jgd_of (by decide +kernel) (by decide +kernel), jgd_of (by decide +kernel) (by decide +kernel), by decide +kernel, ⟨by decide +kernel, by decide +kernel, by decide +kernel⟩, by decide⟩
theorem iX8_told : jIn mX8_told := ⟨jgd_of (by decide +kernel) (by decide +kernel), jgd_of (by decide +kernel) (by decide +kernel)⟩
abbrev mX8_inList : jMD := (yX8_inList, cX8_inList, 3, some .long)
theorem kX8_inList : jMk mX8_inList 2 := ⟨jgd_of (by decide +kernel) (by decide +kernel), jgd_of (by decide +kernel) (by decide +kernel), by decide +kernel, ⟨by decide +kernel, by decide +kernel, by decide +kernel⟩, by decide⟩
theorem iX8_inList : jIn mX8_inList := ⟨jgd_of (by decide +kernel) (by decide +kernel), jgd_of (by decide +kernel) (by decide +kernel)⟩
abbrev mX8_rule : jMD := (yX8_rule, cX8_rule, 5, some .long)
theorem kX8_rule : jMk mX8_rule 2 := ⟨jgd_of (by decide +kernel) (by decide +kernel), jgd_of (by decide +kernel) (by decide +kernel), by decide +kernel, ⟨by decide +kernel, by decide +kernel, by decide +kernel⟩, by decide⟩
theorem iX8_rule : jIn mX8_rule := ⟨jgd_of (by decide +kernel) (by decide +kernel), jgd_of (by decide +kernel) (by decide +kernel)⟩
abbrev mX8_weigh : jMD := (yX8_weigh, cX8_weigh, 11, none)
theorem kX8_weigh : jMk mX8_weigh 1 := ⟨jgd_of (by decide +kernel) (by decide +kernel), jgd_of (by decide +kernel) (by decide +kernel), by decide +kernel, ⟨by decide +kernel, by decide +kernel, by decide +kernel⟩, by decide⟩
theorem iX8_weigh : jIn mX8_weigh := ⟨jgd_of (by decide +kernel) (by decide +kernel), jgd_of (by decide +kernel) (by decide +kernel)⟩
abbrev mX8_weight : jMD := (yX8_weight, cX8_weight, 3, some .long)
theorem kX8_weight : jMk mX8_weight 2 := ⟨jgd_of (by decide +kernel) (by decide +kernel), jgd_of (by decide +kernel) (by decide +kernel), by decide +kernel, ⟨by decide +kernel, by decide +kernel, by decide +kernel⟩, by decide⟩
theorem iX8_weight : jIn mX8_weight := ⟨jgd_of (by decide +kernel) (by decide +kernel), jgd_of (by decide +kernel) (by decide +kernel)⟩
abbrev mX8_weightOf : jMD := (yX8_weightOf, cX8_weightOf, 4, some .int)
theorem kX8_weightOf : jMk mX8_weightOf 1 := ⟨jgd_of (by decide +kernel) (by decide +kernel), jgd_of (by decide +kernel) (by decide +kernel), by decide +kernel, ⟨by decide +kernel, by decide +kernel, by decide +kernel⟩, by decide⟩
theorem iX8_weightOf : jIn mX8_weightOf := ⟨jgd_of (by decide +kernel) (by decide +kernel), jgd_of (by decide +kernel) (by decide +kernel)⟩
abbrev mX8_costOf : jMD := (yX8_costOf, cX8_costOf, 7, some .long)
theorem kX8_costOf : jMk mX8_costOf 2 := ⟨jgd_of (by decide +kernel) (by decide +kernel), jgd_of (by decide +kernel) (by decide +kernel), by decide +kernel, ⟨by decide +kernel, by decide +kernel, by decide +kernel⟩, by decide⟩
theorem iX8_costOf : jIn mX8_costOf := ⟨jgd_of (by decide +kernel) (by decide +kernel), jgd_of (by decide +kernel) (by decide +kernel)⟩
abbrev mX8_cost : jMD := (yX8_cost, cX8_cost, 3, some .long)
theorem kX8_cost : jMk mX8_cost 2 := ⟨jgd_of (by decide +kernel) (by decide +kernel), jgd_of (by decide +kernel) (by decide +kernel), by decide +kernel, ⟨by decide +kernel, by decide +kernel, by decide +kernel⟩, by decide⟩
theorem iX8_cost : jIn mX8_cost := ⟨jgd_of (by decide +kernel) (by decide +kernel), jgd_of (by decide +kernel) (by decide +kernel)⟩
abbrev mX8_bestFor : jMD := (yX8_bestFor, cX8_bestFor, 9, some .int)
theorem kX8_bestFor : jMk mX8_bestFor 1 := ⟨jgd_of (by decide +kernel) (by decide +kernel), jgd_of (by decide +kernel) (by decide +kernel), by decide +kernel, ⟨by decide +kernel, by decide +kernel, by decide +kernel⟩, by decide⟩
theorem iX8_bestFor : jIn mX8_bestFor := ⟨jgd_of (by decide +kernel) (by decide +kernel), jgd_of (by decide +kernel) (by decide +kernel)⟩
abbrev mX8_best : jMD := (yX8_best, cX8_best, 2, some .long)
theorem kX8_best : jMk mX8_best 1 := ⟨jgd_of (by decide +kernel) (by decide +kernel), jgd_of (by decide +kernel) (by decide +kernel), by decide +kernel, ⟨by decide +kernel, by decide +kernel, by decide +kernel⟩, by decide⟩
theorem iX8_best : jIn mX8_best := ⟨jgd_of (by decide +kernel) (by decide +kernel), jgd_of (by decide +kernel) (by decide +kernel)⟩
abbrev mX8_call : jMD := (yX8_call, cX8_call, 6, some .long)
theorem kX8_call : jMk mX8_call 3 := ⟨jgd_of (by decide +kernel) (by decide +kernel), jgd_of (by decide +kernel) (by decide +kernel), by decide +kernel, ⟨by decide +kernel, by decide +kernel, by decide +kernel⟩, by decide⟩
theorem iX8_call : jIn mX8_call := ⟨jgd_of (by decide +kernel) (by decide +kernel), jgd_of (by decide +kernel) (by decide +kernel)⟩
abbrev mX8_called : jMD := (yX8_called, cX8_called, 3, some .long)
theorem kX8_called : jMk mX8_called 2 := ⟨jgd_of (by decide +kernel) (by decide +kernel), jgd_of (by decide +kernel) (by decide +kernel), by decide +kernel, ⟨by decide +kernel, by decide +kernel, by decide +kernel⟩, by decide⟩
theorem iX8_called : jIn mX8_called := ⟨jgd_of (by decide +kernel) (by decide +kernel), jgd_of (by decide +kernel) (by decide +kernel)⟩
abbrev mX8_plan : jMD := (yX8_plan, cX8_plan, 4, some .long)
theorem kX8_plan : jMk mX8_plan 1 := ⟨jgd_of (by decide +kernel) (by decide +kernel), jgd_of (by decide +kernel) (by decide +kernel), by decide +kernel, ⟨by decide +kernel, by decide +kernel, by decide +kernel⟩, by decide⟩
theorem iX8_plan : jIn mX8_plan := ⟨jgd_of (by decide +kernel) (by decide +kernel), jgd_of (by decide +kernel) (by decide +kernel)⟩
abbrev mX8_isFolded : jMD := (yX8_isFolded, cX8_isFolded, 2, some .boolean)
theorem kX8_isFolded : jMk mX8_isFolded 1 := ⟨jgd_of (by decide +kernel) (by decide +kernel), jgd_of (by decide +kernel) (by decide +kernel), by decide +kernel, ⟨by decide +kernel, by decide +kernel, by decide +kernel⟩, by decide⟩
theorem iX8_isFolded : jIn mX8_isFolded := ⟨jgd_of (by decide +kernel) (by decide +kernel), jgd_of (by decide +kernel) (by decide +kernel)⟩
abbrev mX8_isOn : jMD := (yX8_isOn, cX8_isOn, 3, some .boolean)
theorem kX8_isOn : jMk mX8_isOn 2 := ⟨jgd_of (by decide +kernel) (by decide +kernel), jgd_of (by decide +kernel) (by decide +kernel), by decide +kernel, ⟨by decide +kernel, by decide +kernel, by decide +kernel⟩, by decide⟩
theorem iX8_isOn : jIn mX8_isOn := ⟨jgd_of (by decide +kernel) (by decide +kernel), jgd_of (by decide +kernel) (by decide +kernel)⟩
abbrev mX8_isBusy : jMD := (yX8_isBusy, cX8_isBusy, 5, some .boolean)
theorem kX8_isBusy : jMk mX8_isBusy 3 := ⟨jgd_of (by decide +kernel) (by decide +kernel), jgd_of (by decide +kernel) (by decide +kernel), by decide +kernel, ⟨by decide +kernel, by decide +kernel, by decide +kernel⟩, by decide⟩
theorem iX8_isBusy : jIn mX8_isBusy := ⟨jgd_of (by decide +kernel) (by decide +kernel), jgd_of (by decide +kernel) (by decide +kernel)⟩
abbrev mX8_whyNot : jMD := (yX8_whyNot, cX8_whyNot, 5, some .int)
theorem kX8_whyNot : jMk mX8_whyNot 2 := ⟨jgd_of (by decide +kernel) (by decide +kernel), jgd_of (by decide +kernel) (by decide +kernel), by decide +kernel, ⟨by decide +kernel, by decide +kernel, by decide +kernel⟩, by decide⟩
theorem iX8_whyNot : jIn mX8_whyNot := ⟨jgd_of (by decide +kernel) (by decide +kernel), jgd_of (by decide +kernel) (by decide +kernel)⟩
abbrev mX8_goOn : jMD := (yX8_goOn, cX8_goOn, 5, none)
theorem kX8_goOn : jMk mX8_goOn 2 := ⟨jgd_of (by decide +kernel) (by decide +kernel), jgd_of (by decide +kernel) (by decide +kernel), by decide +kernel, ⟨by decide +kernel, by decide +kernel, by decide +kernel⟩, by decide⟩
theorem iX8_goOn : jIn mX8_goOn := ⟨jgd_of (by decide +kernel) (by decide +kernel), jgd_of (by decide +kernel) (by decide +kernel)⟩
abbrev mX8_runDay : jMD := (yX8_runDay, cX8_runDay, 3, none)
theorem kX8_runDay : jMk mX8_runDay 0 := ⟨jgd_of (by decide +kernel) (by decide +kernel), jgd_of (by decide +kernel) (by decide +kernel), by decide +kernel, ⟨by decide +kernel, by decide +kernel, by decide +kernel⟩, by decide⟩
theorem iX8_runDay : jIn mX8_runDay := ⟨jgd_of (by decide +kernel) (by decide +kernel), jgd_of (by decide +kernel) (by decide +kernel)⟩
abbrev mX8_fate : jMD := (yX8_fate, cX8_fate, 4, some .long)
theorem kX8_fate : jMk mX8_fate 2 := ⟨jgd_of (by decide +kernel) (by decide +kernel), jgd_of (by decide +kernel) (by decide +kernel), by decide +kernel, ⟨by decide +kernel, by decide +kernel, by decide +kernel⟩, by decide⟩
theorem iX8_fate : jIn mX8_fate := ⟨jgd_of (by decide +kernel) (by decide +kernel), jgd_of (by decide +kernel) (by decide +kernel)⟩
abbrev mX8_begins : jMD := (yX8_begins, cX8_begins, 3, some .long)
theorem kX8_begins : jMk mX8_begins 2 := ⟨jgd_of (by decide +kernel) (by decide +kernel), jgd_of (by decide +kernel) (by decide +kernel), by decide +kernel, ⟨by decide +kernel, by decide +kernel, by decide +kernel⟩, by decide⟩
theorem iX8_begins : jIn mX8_begins := ⟨jgd_of (by decide +kernel) (by decide +kernel), jgd_of (by decide +kernel) (by decide +kernel)⟩
abbrev mX8_waitedFor : jMD := (yX8_waitedFor, cX8_waitedFor, 6, some .int)
theorem kX8_waitedFor : jMk mX8_waitedFor 2 := ⟨jgd_of (by decide +kernel) (by decide +kernel), jgd_of (by decide +kernel) (by decide +kernel), by decide +kernel, ⟨by decide +kernel, by decide +kernel, by decide +kernel⟩, by decide⟩
theorem iX8_waitedFor : jIn mX8_waitedFor := ⟨jgd_of (by decide +kernel) (by decide +kernel), jgd_of (by decide +kernel) (by decide +kernel)⟩
abbrev mX8_waited : jMD := (yX8_waited, cX8_waited, 3, some .long)
theorem kX8_waited : jMk mX8_waited 2 := ⟨jgd_of (by decide +kernel) (by decide +kernel), jgd_of (by decide +kernel) (by decide +kernel), by decide +kernel, ⟨by decide +kernel, by decide +kernel, by decide +kernel⟩, by decide⟩
theorem iX8_waited : jIn mX8_waited := ⟨jgd_of (by decide +kernel) (by decide +kernel), jgd_of (by decide +kernel) (by decide +kernel)⟩
abbrev mX8_idle : jMD := (yX8_idle, cX8_idle, 3, some .long)
theorem kX8_idle : jMk mX8_idle 2 := ⟨jgd_of (by decide +kernel) (by decide +kernel), jgd_of (by decide +kernel) (by decide +kernel), by decide +kernel, ⟨by decide +kernel, by decide +kernel, by decide +kernel⟩, by decide⟩
theorem iX8_idle : jIn mX8_idle := ⟨jgd_of (by decide +kernel) (by decide +kernel), jgd_of (by decide +kernel) (by decide +kernel)⟩
abbrev mX8_waitedIn : jMD := (yX8_waitedIn, cX8_waitedIn, 4, some .int)
theorem kX8_waitedIn : jMk mX8_waitedIn 1 := ⟨jgd_of (by decide +kernel) (by decide +kernel), jgd_of (by decide +kernel) (by decide +kernel), by decide +kernel, ⟨by decide +kernel, by decide +kernel, by decide +kernel⟩, by decide⟩
theorem iX8_waitedIn : jIn mX8_waitedIn := ⟨jgd_of (by decide +kernel) (by decide +kernel), jgd_of (by decide +kernel) (by decide +kernel)⟩
abbrev mX8_waits : jMD := (yX8_waits, cX8_waits, 4, some .long)
theorem kX8_waits : jMk mX8_waits 0 := ⟨jgd_of (by decide +kernel) (by decide +kernel), jgd_of (by decide +kernel) (by decide +kernel), by decide +kernel, ⟨by decide +kernel, by decide +kernel, by decide +kernel⟩, by decide⟩
theorem iX8_waits : jIn mX8_waits := ⟨jgd_of (by decide +kernel) (by decide +kernel), jgd_of (by decide +kernel) (by decide +kernel)⟩
abbrev mX8_isCalled : jMD := (yX8_isCalled, cX8_isCalled, 4, some .boolean)
theorem kX8_isCalled : jMk mX8_isCalled 1 := ⟨jgd_of (by decide +kernel) (by decide +kernel), jgd_of (by decide +kernel) (by decide +kernel), by decide +kernel, ⟨by decide +kernel, by decide +kernel, by decide +kernel⟩, by decide⟩
theorem iX8_isCalled : jIn mX8_isCalled := ⟨jgd_of (by decide +kernel) (by decide +kernel), jgd_of (by decide +kernel) (by decide +kernel)⟩
abbrev mX8_pay : jMD := (yX8_pay, cX8_pay, 7, some .long)
theorem kX8_pay : jMk mX8_pay 1 := ⟨jgd_of (by decide +kernel) (by decide +kernel), jgd_of (by decide +kernel) (by decide +kernel), by decide +kernel, ⟨by decide +kernel, by decide +kernel, by decide +kernel⟩, by decide⟩
theorem iX8_pay : jIn mX8_pay := ⟨jgd_of (by decide +kernel) (by decide +kernel), jgd_of (by decide +kernel) (by decide +kernel)⟩
abbrev mX8_apart : jMD := (yX8_apart, cX8_apart, 5, some .long)
theorem kX8_apart : jMk mX8_apart 3 := ⟨jgd_of (by decide +kernel) (by decide +kernel), jgd_of (by decide +kernel) (by decide +kernel), by decide +kernel, ⟨by decide +kernel, by decide +kernel, by decide +kernel⟩, by decide⟩
theorem iX8_apart : jIn mX8_apart := ⟨jgd_of (by decide +kernel) (by decide +kernel), jgd_of (by decide +kernel) (by decide +kernel)⟩
abbrev mX8_span : jMD := (yX8_span, cX8_span, 5, none)
theorem kX8_span : jMk mX8_span 1 := ⟨jgd_of (by decide +kernel) (by decide +kernel), jgd_of (by decide +kernel) (by decide +kernel), by decide +kernel, ⟨by decide +kernel, by decide +kernel, by decide +kernel⟩, by decide⟩
theorem iX8_span : jIn mX8_span := ⟨jgd_of (by decide +kernel) (by decide +kernel), jgd_of (by decide +kernel) (by decide +kernel)⟩
abbrev mX8_mayBe : jMD := (yX8_mayBe, cX8_mayBe, 5, some .boolean)
theorem kX8_mayBe : jMk mX8_mayBe 2 := ⟨jgd_of (by decide +kernel) (by decide +kernel), jgd_of (by decide +kernel) (by decide +kernel), by decide +kernel, ⟨by decide +kernel, by decide +kernel, by decide +kernel⟩, by decide⟩
theorem iX8_mayBe : jIn mX8_mayBe := ⟨jgd_of (by decide +kernel) (by decide +kernel), jgd_of (by decide +kernel) (by decide +kernel)⟩
abbrev mX8_giveRooms : jMD := (yX8_giveRooms, cX8_giveRooms, 3, some .boolean)
theorem kX8_giveRooms : jMk mX8_giveRooms 1 := ⟨jgd_of (by decide +kernel) (by decide +kernel), jgd_of (by decide +kernel) (by decide +kernel), by decide +kernel, ⟨by decide +kernel, by decide +kernel, by decide +kernel⟩, by decide⟩
theorem iX8_giveRooms : jIn mX8_giveRooms := ⟨jgd_of (by decide +kernel) (by decide +kernel), jgd_of (by decide +kernel) (by decide +kernel)⟩
abbrev mX8_room : jMD := (yX8_room, cX8_room, 3, some .long)
theorem kX8_room : jMk mX8_room 1 := ⟨jgd_of (by decide +kernel) (by decide +kernel), jgd_of (by decide +kernel) (by decide +kernel), by decide +kernel, ⟨by decide +kernel, by decide +kernel, by decide +kernel⟩, by decide⟩
theorem iX8_room : jIn mX8_room := ⟨jgd_of (by decide +kernel) (by decide +kernel), jgd_of (by decide +kernel) (by decide +kernel)⟩
abbrev mX8_notify : jMD := (yX8_notify, cX8_notify, 4, none)
theorem kX8_notify : jMk mX8_notify 2 := ⟨jgd_of (by decide +kernel) (by decide +kernel), jgd_of (by decide +kernel) (by decide +kernel), by decide +kernel, ⟨by decide +kernel, by decide +kernel, by decide +kernel⟩, by decide⟩
theorem iX8_notify : jIn mX8_notify := ⟨jgd_of (by decide +kernel) (by decide +kernel), jgd_of (by decide +kernel) (by decide +kernel)⟩
abbrev mX8_move : jMD := (yX8_move, cX8_move, 5, some .long)
theorem kX8_move : jMk mX8_move 2 := ⟨jgd_of (by decide +kernel) (by decide +kernel), jgd_of (by decide +kernel) (by decide +kernel), by decide +kernel, ⟨by decide +kernel, by decide +kernel, by decide +kernel⟩, by decide⟩
theorem iX8_move : jIn mX8_move := ⟨jgd_of (by decide +kernel) (by decide +kernel), jgd_of (by decide +kernel) (by decide +kernel)⟩
abbrev mX8_notice : jMD := (yX8_notice, cX8_notice, 3, some .long)
theorem kX8_notice : jMk mX8_notice 2 := ⟨jgd_of (by decide +kernel) (by decide +kernel), jgd_of (by decide +kernel) (by decide +kernel), by decide +kernel, ⟨by decide +kernel, by decide +kernel, by decide +kernel⟩, by decide⟩
theorem iX8_notice : jIn mX8_notice := ⟨jgd_of (by decide +kernel) (by decide +kernel), jgd_of (by decide +kernel) (by decide +kernel)⟩
abbrev mX8_read : jMD := (yX8_read, cX8_read, 4, some .long)
theorem kX8_read : jMk mX8_read 1 := ⟨jgd_of (by decide +kernel) (by decide +kernel), jgd_of (by decide +kernel) (by decide +kernel), by decide +kernel, ⟨by decide +kernel, by decide +kernel, by decide +kernel⟩, by decide⟩
theorem iX8_read : jIn mX8_read := ⟨jgd_of (by decide +kernel) (by decide +kernel), jgd_of (by decide +kernel) (by decide +kernel)⟩
abbrev mX8_isSheet : jMD := (yX8_isSheet, cX8_isSheet, 1, some .boolean)
theorem kX8_isSheet : jMk mX8_isSheet 1 := ⟨jgd_of (by decide +kernel) (by decide +kernel), jgd_of (by decide +kernel) (by decide +kernel), by decide +kernel, ⟨by decide +kernel, by decide +kernel, by decide +kernel⟩, by decide⟩
theorem iX8_isSheet : jSt mX8_isSheet := jgd_of (by decide +kernel) (by decide +kernel)
abbrev mX8_sheet : jMD := (yX8_sheet, cX8_sheet, 4, some .long)
theorem kX8_sheet : jMk mX8_sheet 2 := ⟨jgd_of (by decide +kernel) (by decide +kernel), jgd_of (by decide +kernel) (by decide +kernel), by decide +kernel, ⟨by decide +kernel, by decide +kernel, by decide +kernel⟩, by decide⟩
theorem iX8_sheet : jIn mX8_sheet := ⟨jgd_of (by decide +kernel) (by decide +kernel), jgd_of (by decide +kernel) (by decide +kernel)⟩
abbrev mX8_mark : jMD := (yX8_mark, cX8_mark, 5, some .long)
theorem kX8_mark : jMk mX8_mark 3 := ⟨jgd_of (by decide +kernel) (by decide +kernel), jgd_of (by decide +kernel) (by decide +kernel), by decide +kernel, ⟨by decide +kernel, by decide +kernel, by decide +kernel⟩, by decide⟩
theorem iX8_mark : jIn mX8_mark := ⟨jgd_of (by decide +kernel) (by decide +kernel), jgd_of (by decide +kernel) (by decide +kernel)⟩
abbrev mX8_copy : jMD := (yX8_copy, cX8_copy, 7, some .long)
theorem kX8_copy : jMk mX8_copy 5 := ⟨jgd_of (by decide +kernel) (by decide +kernel), jgd_of (by decide +kernel) (by decide +kernel), by decide +kernel, ⟨by decide +kernel, by decide +kernel, by decide +kernel⟩, by decide⟩
theorem iX8_copy : jIn mX8_copy := ⟨jgd_of (by decide +kernel) (by decide +kernel), jgd_of (by decide +kernel) (by decide +kernel)⟩
abbrev mX8_take : jMD := (yX8_take, cX8_take, 4, some .long)
theorem kX8_take : jMk mX8_take 1 := ⟨jgd_of (by decide +kernel) (by decide +kernel), jgd_of (by decide +kernel) (by decide +kernel), by decide +kernel, ⟨by decide +kernel, by decide +kernel, by decide +kernel⟩, by decide⟩
theorem iX8_take : jIn mX8_take := ⟨jgd_of (by decide +kernel) (by decide +kernel), jgd_of (by decide +kernel) (by decide +kernel)⟩
abbrev mX8_count : jMD := (yX8_count, cX8_count, 5, some .long)
theorem kX8_count : jMk mX8_count 1 := ⟨jgd_of (by decide +kernel) (by decide +kernel), jgd_of (by decide +kernel) (by decide +kernel), by decide +kernel, ⟨by decide +kernel, by decide +kernel, by decide +kernel⟩, by decide⟩
theorem iX8_count : jIn mX8_count := ⟨jgd_of (by decide +kernel) (by decide +kernel), jgd_of (by decide +kernel) (by decide +kernel)⟩
abbrev mJ6_bitCount_0f7a4 : jMD := (yJ6_bitCount_0f7a4, cJ6_bitCount_0f7a4, 1, some .int)
theorem kJ6_bitCount_0f7a4 : jMk mJ6_bitCount_0f7a4 1 := ⟨jgd_of (by decide +kernel) (by decide +kernel), jgd_of (by decide +kernel) (by decide +kernel), by decide +kernel, ⟨by decide +kernel, by decide +kernel, by decide +kernel⟩, by decide⟩
theorem iJ6_bitCount_0f7a4 : jSt mJ6_bitCount_0f7a4 := jgd_of (by decide +kernel) (by decide +kernel)
abbrev mJ7_fill_d0a16 : jMD := (yJ7_fill_d0a16, cJ7_fill_d0a16, 5, none)
theorem kJ7_fill_d0a16 : jMk mJ7_fill_d0a16 2 := ⟨jgd_of (by decide +kernel) (by decide +kernel), jgd_of (by decide +kernel) (by decide +kernel), by decide +kernel, ⟨by decide +kernel, by decide +kernel, by decide +kernel⟩, by decide⟩
theorem iJ7_fill_d0a16 : jSt mJ7_fill_d0a16 := jgd_of (by decide +kernel) (by decide +kernel)
abbrev mJ7_fill_53178 : jMD := (yJ7_fill_53178, cJ7_fill_53178, 4, none)
theorem kJ7_fill_53178 : jMk mJ7_fill_53178 2 := ⟨jgd_of (by decide +kernel) (by decide +kernel), jgd_of (by decide +kernel) (by decide +kernel), by decide +kernel, ⟨by decide +kernel, by decide +kernel, by decide +kernel⟩, by decide⟩
theorem iJ7_fill_53178 : jSt mJ7_fill_53178 := jgd_of (by decide +kernel) (by decide +kernel)
theorem jin_X0 : ∀ w ∈ u_ws RX0 TX0 1, w ∈ jgd := by decide +kernel
theorem jin_X1 : ∀ w ∈ u_ws RX1 TX1 7, w ∈ jgd := by decide +kernel
theorem jin_X2 : ∀ w ∈ u_ws RX2 TX2 9, w ∈ jgd := by decide +kernel
theorem jin_X3 : ∀ w ∈ u_ws RX3 TX3 4, w ∈ jgd := by decide +kernel
theorem jin_X4 : ∀ w ∈ u_ws RX4 TX4 4, w ∈ jgd := by decide +kernel
theorem jin_X5 : ∀ w ∈ u_ws RX5 TX5 5, w ∈ jgd := by decide +kernel
theorem jin_X6 : ∀ w ∈ u_ws RX6 TX6 2, w ∈ jgd := by decide +kernel
theorem jin_X7 : ∀ w ∈ u_ws RX7 TX7 8, w ∈ jgd := by decide +kernel
theorem jin_X8 : ∀ w ∈ u_ws RX8 TX8 31, w ∈ jgd := by decide +kernel
theorem fX0_9 : jFl RX0 9 0 0 := ⟨_, rfl, by decide, jin_X0, Or.inl (jgd_of (by decide +kernel) (by decide +kernel))⟩
theorem lX0_15 : jLn RX0 15 mJ7_fill_d0a16.1 := Or.inl (jgd_of (by decide +kernel) (by decide +kernel))
theorem fX0_21 : jFl RX0 21 2 0 := ⟨_, rfl, by decide, jin_X2, Or.inr ⟨"CourtHouse", jns_of (by decide +kernel) (by decide +kernel)⟩⟩
theorem lX0_27 : jLn RX0 27 mX2_placeOf.1 := Or.inr ⟨"CourtHouse", jns_of (by decide +kernel) (by decide +kernel)⟩
theorem lX0_31 : jLn RX0 31 mX2_caseAt.1 := Or.inr ⟨"CourtHouse", jns_of (by decide +kernel) (by decide +kernel)⟩
theorem fX0_35 : jFl RX0 35 2 1 := ⟨_, rfl, by decide, jin_X2, Or.inr ⟨"CourtHouse", jns_of (by decide +kernel) (by decide +kernel)⟩⟩
theorem fX0_38 : jFl RX0 38 2 2 := ⟨_, rfl, by decide, jin_X2, Or.inr ⟨"CourtHouse", jns_of (by decide +kernel) (by decide +kernel)⟩⟩
theorem lX0_41 : jLn RX0 41 mX0_putAhead.1 := Or.inl (jgd_of (by decide +kernel) (by decide +kernel))
theorem lX0_45 : jLn RX0 45 mX0_costAt.1 := Or.inl (jgd_of (by decide +kernel) (by decide +kernel))
theorem fX1_9 : jFl RX1 9 1 0 := ⟨_, rfl, by decide, jin_X1, Or.inl (jgd_of (by decide +kernel) (by decide +kernel))⟩
theorem lX1_30 : jLn RX1 30 mJ7_fill_53178.1 := Or.inl (jgd_of (by decide +kernel) (by decide +kernel))
theorem fX1_15 : jFl RX1 15 1 1 := ⟨_, rfl, by decide, jin_X1, Or.inl (jgd_of (by decide +kernel) (by decide +kernel))⟩
theorem fX1_18 : jFl RX1 18 1 2 := ⟨_, rfl, by decide, jin_X1, Or.inl (jgd_of (by decide +kernel) (by decide +kernel))⟩
theorem fX1_21 : jFl RX1 21 1 3 := ⟨_, rfl, by decide, jin_X1, Or.inl (jgd_of (by decide +kernel) (by decide +kernel))⟩
theorem fX1_24 : jFl RX1 24 1 4 := ⟨_, rfl, by decide, jin_X1, Or.inl (jgd_of (by decide +kernel) (by decide +kernel))⟩
theorem fX1_27 : jFl RX1 27 1 5 := ⟨_, rfl, by decide, jin_X1, Or.inl (jgd_of (by decide +kernel) (by decide +kernel))⟩
theorem fX1_36 : jFl RX1 36 2 8 := ⟨_, rfl, by decide, jin_X2, Or.inr ⟨"CourtHouse", jns_of (by decide +kernel) (by decide +kernel)⟩⟩
theorem fX1_42 : jFl RX1 42 1 6 := ⟨_, rfl, by decide, jin_X1, Or.inl (jgd_of (by decide +kernel) (by decide +kernel))⟩
theorem wX1_6 : jFw 1 6 := ⟨_, rfl, rfl, by decide +kernel, ⟨tyX1, tyX1_ok⟩, nmX1⟩
theorem lX1_45 : jLn RX1 45 mX1_passQuarter.1 := Or.inl (jgd_of (by decide +kernel) (by decide +kernel))
theorem lX1_49 : jLn RX1 49 mX1_nextNotFolded.1 := Or.inl (jgd_of (by decide +kernel) (by decide +kernel))
theorem lX1_53 : jLn RX1 53 mX1_hindrance.1 := Or.inl (jgd_of (by decide +kernel) (by decide +kernel))
theorem lX1_56 : jLn RX1 56 mX1_begin.1 := Or.inl (jgd_of (by decide +kernel) (by decide +kernel))
theorem fX1_59 : jFl RX1 59 2 7 := ⟨_, rfl, by decide, jin_X2, Or.inr ⟨"CourtHouse", jns_of (by decide +kernel) (by decide +kernel)⟩⟩
theorem lX1_62 : jLn RX1 62 mX2_caseAt.1 := Or.inr ⟨"CourtHouse", jns_of (by decide +kernel) (by decide +kernel)⟩
theorem lX1_66 : jLn RX1 66 mX2_isFolded.1 := Or.inr ⟨"CourtHouse", jns_of (by decide +kernel) (by decide +kernel)⟩
theorem lX1_70 : jLn RX1 70 mX1_close.1 := Or.inl (jgd_of (by decide +kernel) (by decide +kernel))
theorem lX1_74 : jLn RX1 74 mX2_hasNeedOf.1 := Or.inr ⟨"CourtHouse", jns_of (by decide +kernel) (by decide +kernel)⟩
theorem lX1_78 : jLn RX1 78 mX2_quarterFor.1 := Or.inr ⟨"CourtHouse", jns_of (by decide +kernel) (by decide +kernel)⟩
theorem fX1_81 : jFl RX1 81 2 0 := ⟨_, rfl, by decide, jin_X2, Or.inr ⟨"CourtHouse", jns_of (by decide +kernel) (by decide +kernel)⟩⟩
theorem lX1_84 : jLn RX1 84 mX2_takesQuarters.1 := Or.inr ⟨"CourtHouse", jns_of (by decide +kernel) (by decide +kernel)⟩
theorem lX1_88 : Cond.methodLink RX1 88 Lib.Math.min.name ∈ jgd := jgd_of (by decide +kernel) (by decide +kernel)
theorem lX1_93 : Cond.methodLink RX1 93 Lib.Math.max.name ∈ jgd := jgd_of (by decide +kernel) (by decide +kernel)
theorem lX1_96 : jLn RX1 96 mX1_waitFor.1 := Or.inl (jgd_of (by decide +kernel) (by decide +kernel))
theorem fX2_36 : jFl RX2 36 2 8 := ⟨_, rfl, by decide, jin_X2, Or.inl (jgd_of (by decide +kernel) (by decide +kernel))⟩
theorem fX2_15 : jFl RX2 15 2 1 := ⟨_, rfl, by decide, jin_X2, Or.inl (jgd_of (by decide +kernel) (by decide +kernel))⟩
theorem fX2_18 : jFl RX2 18 2 2 := ⟨_, rfl, by decide, jin_X2, Or.inl (jgd_of (by decide +kernel) (by decide +kernel))⟩
theorem fX2_24 : jFl RX2 24 2 4 := ⟨_, rfl, by decide, jin_X2, Or.inl (jgd_of (by decide +kernel) (by decide +kernel))⟩
theorem lX2_40 : jLn RX2 40 mX2_joinList.1 := Or.inl (jgd_of (by decide +kernel) (by decide +kernel))
theorem fX2_33 : jFl RX2 33 2 7 := ⟨_, rfl, by decide, jin_X2, Or.inl (jgd_of (by decide +kernel) (by decide +kernel))⟩
theorem fX2_30 : jFl RX2 30 2 6 := ⟨_, rfl, by decide, jin_X2, Or.inl (jgd_of (by decide +kernel) (by decide +kernel))⟩
theorem fX2_9 : jFl RX2 9 2 0 := ⟨_, rfl, by decide, jin_X2, Or.inl (jgd_of (by decide +kernel) (by decide +kernel))⟩
theorem lX2_44 : jLn RX2 44 mX2_caseAt.1 := Or.inl (jgd_of (by decide +kernel) (by decide +kernel))
theorem lX2_48 : jLn RX2 48 mX2_placeOf.1 := Or.inl (jgd_of (by decide +kernel) (by decide +kernel))
theorem fX2_21 : jFl RX2 21 2 3 := ⟨_, rfl, by decide, jin_X2, Or.inl (jgd_of (by decide +kernel) (by decide +kernel))⟩
theorem lX2_52 : jLn RX2 52 mX7_holds.1 := Or.inr ⟨"CourtHouse", jns_of (by decide +kernel) (by decide +kernel)⟩
theorem lX2_56 : jLn RX2 56 mX2_hasNeedOf.1 := Or.inl (jgd_of (by decide +kernel) (by decide +kernel))
theorem fX2_27 : jFl RX2 27 2 5 := ⟨_, rfl, by decide, jin_X2, Or.inl (jgd_of (by decide +kernel) (by decide +kernel))⟩
theorem fX3_22 : jFl RX3 22 3 3 := ⟨_, rfl, by decide, jin_X3, Or.inl (jgd_of (by decide +kernel) (by decide +kernel))⟩
theorem lX3_26 : jLn RX3 26 mX3_isPending.1 := Or.inl (jgd_of (by decide +kernel) (by decide +kernel))
theorem fX3_9 : jFl RX3 9 3 0 := ⟨_, rfl, by decide, jin_X3, Or.inl (jgd_of (by decide +kernel) (by decide +kernel))⟩
theorem fX3_15 : jFl RX3 15 3 1 := ⟨_, rfl, by decide, jin_X3, Or.inl (jgd_of (by decide +kernel) (by decide +kernel))⟩
theorem fX3_18 : jFl RX3 18 3 2 := ⟨_, rfl, by decide, jin_X3, Or.inl (jgd_of (by decide +kernel) (by decide +kernel))⟩
theorem fX4_21 : jFl RX4 21 4 3 := ⟨_, rfl, by decide, jin_X4, Or.inl (jgd_of (by decide +kernel) (by decide +kernel))⟩
theorem fX4_9 : jFl RX4 9 4 0 := ⟨_, rfl, by decide, jin_X4, Or.inl (jgd_of (by decide +kernel) (by decide +kernel))⟩
theorem fX4_15 : jFl RX4 15 4 1 := ⟨_, rfl, by decide, jin_X4, Or.inl (jgd_of (by decide +kernel) (by decide +kernel))⟩
theorem fX4_18 : jFl RX4 18 4 2 := ⟨_, rfl, by decide, jin_X4, Or.inl (jgd_of (by decide +kernel) (by decide +kernel))⟩
theorem lX4_25 : jLn RX4 25 mX7_holds.1 := Or.inr ⟨"CourtHouse", jns_of (by decide +kernel) (by decide +kernel)⟩
theorem lX4_29 : jLn RX4 29 mX4_areApart.1 := Or.inl (jgd_of (by decide +kernel) (by decide +kernel))
theorem lX4_32 : jLn RX4 32 mJ6_bitCount_0f7a4.1 := Or.inl (jgd_of (by decide +kernel) (by decide +kernel))
theorem fX5_9 : jFl RX5 9 5 0 := ⟨_, rfl, by decide, jin_X5, Or.inl (jgd_of (by decide +kernel) (by decide +kernel))⟩
theorem lX5_27 : jLn RX5 27 mJ7_fill_53178.1 := Or.inl (jgd_of (by decide +kernel) (by decide +kernel))
theorem fX5_24 : jFl RX5 24 5 4 := ⟨_, rfl, by decide, jin_X5, Or.inl (jgd_of (by decide +kernel) (by decide +kernel))⟩
theorem fX5_33 : jFl RX5 33 4 3 := ⟨_, rfl, by decide, jin_X4, Or.inr ⟨"CourtHouse", jns_of (by decide +kernel) (by decide +kernel)⟩⟩
theorem lX5_39 : jLn RX5 39 mX5_measureStay.1 := Or.inl (jgd_of (by decide +kernel) (by decide +kernel))
theorem lX5_43 : jLn RX5 43 mX5_findFoes.1 := Or.inl (jgd_of (by decide +kernel) (by decide +kernel))
theorem lX5_47 : jLn RX5 47 mX5_settle.1 := Or.inl (jgd_of (by decide +kernel) (by decide +kernel))
theorem fX5_51 : jFl RX5 51 2 8 := ⟨_, rfl, by decide, jin_X2, Or.inr ⟨"CourtHouse", jns_of (by decide +kernel) (by decide +kernel)⟩⟩
theorem lX5_54 : jLn RX5 54 mX2_hasNeedOf.1 := Or.inr ⟨"CourtHouse", jns_of (by decide +kernel) (by decide +kernel)⟩
theorem lX5_58 : jLn RX5 58 mX2_quarterFor.1 := Or.inr ⟨"CourtHouse", jns_of (by decide +kernel) (by decide +kernel)⟩
theorem lX5_62 : Cond.methodLink RX5 62 Lib.Math.min.name ∈ jgd := jgd_of (by decide +kernel) (by decide +kernel)
theorem fX5_67 : jFl RX5 67 1 0 := ⟨_, rfl, by decide, jin_X1, Or.inr ⟨"CourtHouse", jns_of (by decide +kernel) (by decide +kernel)⟩⟩
theorem lX5_72 : Cond.methodLink RX5 72 Lib.Math.max.name ∈ jgd := jgd_of (by decide +kernel) (by decide +kernel)
theorem fX5_15 : jFl RX5 15 5 1 := ⟨_, rfl, by decide, jin_X5, Or.inl (jgd_of (by decide +kernel) (by decide +kernel))⟩
theorem fX5_18 : jFl RX5 18 5 2 := ⟨_, rfl, by decide, jin_X5, Or.inl (jgd_of (by decide +kernel) (by decide +kernel))⟩
theorem fX5_21 : jFl RX5 21 5 3 := ⟨_, rfl, by decide, jin_X5, Or.inl (jgd_of (by decide +kernel) (by decide +kernel))⟩
theorem lX5_75 : jLn RX5 75 mX4_areApart.1 := Or.inr ⟨"CourtHouse", jns_of (by decide +kernel) (by decide +kernel)⟩
theorem fX5_78 : jFl RX5 78 4 0 := ⟨_, rfl, by decide, jin_X4, Or.inr ⟨"CourtHouse", jns_of (by decide +kernel) (by decide +kernel)⟩⟩
theorem lX5_81 : jLn RX5 81 mX5_isFree.1 := Or.inl (jgd_of (by decide +kernel) (by decide +kernel))
theorem lX5_84 : jLn RX5 84 mX5_enter.1 := Or.inl (jgd_of (by decide +kernel) (by decide +kernel))
theorem lX5_88 : jLn RX5 88 mX5_leave.1 := Or.inl (jgd_of (by decide +kernel) (by decide +kernel))
theorem fX6_15 : jFl RX6 15 6 1 := ⟨_, rfl, by decide, jin_X6, Or.inl (jgd_of (by decide +kernel) (by decide +kernel))⟩
theorem fX6_9 : jFl RX6 9 6 0 := ⟨_, rfl, by decide, jin_X6, Or.inl (jgd_of (by decide +kernel) (by decide +kernel))⟩
theorem lX6_25 : jLn RX6 25 mX6_isMissing.1 := Or.inl (jgd_of (by decide +kernel) (by decide +kernel))
theorem lX7_62 : jLn RX7 62 mX7_isCourt.1 := Or.inl (jgd_of (by decide +kernel) (by decide +kernel))
theorem lX7_66 : jLn RX7 66 mX7_isWithin.1 := Or.inl (jgd_of (by decide +kernel) (by decide +kernel))
theorem qX7_70 : Cond.constantLong RX7 70 (-9000000000000000001) ∈ jgd := jgd_of (by decide +kernel) (by decide +kernel)
theorem vX7_70 : ((-9000000000000000001) : Int64) = jL (-9000000000000000001) := by decide +kernel
theorem fX7_10 : jFl RX7 10 7 0 := ⟨_, rfl, by decide, jin_X7, Or.inl (jgd_of (by decide +kernel) (by decide +kernel))⟩
theorem fX7_72 : jFl RX7 72 2 8 := ⟨_, rfl, by decide, jin_X2, Or.inr ⟨"CourtHouse", jns_of (by decide +kernel) (by decide +kernel)⟩⟩
theorem fX7_76 : jFl RX7 76 2 7 := ⟨_, rfl, by decide, jin_X2, Or.inr ⟨"CourtHouse", jns_of (by decide +kernel) (by decide +kernel)⟩⟩
theorem qX7_79 : Cond.constantLong RX7 79 (-9000000000000000003) ∈ jgd := jgd_of (by decide +kernel) (by decide +kernel)
theorem vX7_79 : ((-9000000000000000003) : Int64) = jL (-9000000000000000003) := by decide +kernel
theorem lX7_81 : jLn RX7 81 mX2_enter.1 := Or.inr ⟨"CourtHouse", jns_of (by decide +kernel) (by decide +kernel)⟩
theorem fX7_19 : jFl RX7 19 7 1 := ⟨_, rfl, by decide, jin_X7, Or.inl (jgd_of (by decide +kernel) (by decide +kernel))⟩
theorem fX7_85 : jFl RX7 85 4 3 := ⟨_, rfl, by decide, jin_X4, Or.inr ⟨"CourtHouse", jns_of (by decide +kernel) (by decide +kernel)⟩⟩
theorem lX7_86 : jLn RX7 86 mX4_enter.1 := Or.inr ⟨"CourtHouse", jns_of (by decide +kernel) (by decide +kernel)⟩
theorem lX7_89 : jLn RX7 89 mX4_has.1 := Or.inr ⟨"CourtHouse", jns_of (by decide +kernel) (by decide +kernel)⟩
theorem fX7_92 : jFl RX7 92 4 0 := ⟨_, rfl, by decide, jin_X4, Or.inr ⟨"CourtHouse", jns_of (by decide +kernel) (by decide +kernel)⟩⟩
theorem lX7_95 : jLn RX7 95 mX7_asLong.1 := Or.inl (jgd_of (by decide +kernel) (by decide +kernel))
theorem lX7_99 : jLn RX7 99 mX2_has.1 := Or.inr ⟨"CourtHouse", jns_of (by decide +kernel) (by decide +kernel)⟩
theorem fX7_100 : jFl RX7 100 2 3 := ⟨_, rfl, by decide, jin_X2, Or.inr ⟨"CourtHouse", jns_of (by decide +kernel) (by decide +kernel)⟩⟩
theorem lX7_103 : jLn RX7 103 mX7_holds.1 := Or.inl (jgd_of (by decide +kernel) (by decide +kernel))
theorem fX7_107 : jFl RX7 107 4 1 := ⟨_, rfl, by decide, jin_X4, Or.inr ⟨"CourtHouse", jns_of (by decide +kernel) (by decide +kernel)⟩⟩
theorem lX7_110 : jLn RX7 110 mX2_callFor.1 := Or.inr ⟨"CourtHouse", jns_of (by decide +kernel) (by decide +kernel)⟩
theorem fX7_114 : jFl RX7 114 2 2 := ⟨_, rfl, by decide, jin_X2, Or.inr ⟨"CourtHouse", jns_of (by decide +kernel) (by decide +kernel)⟩⟩
theorem fX7_117 : jFl RX7 117 2 0 := ⟨_, rfl, by decide, jin_X2, Or.inr ⟨"CourtHouse", jns_of (by decide +kernel) (by decide +kernel)⟩⟩
theorem lX7_120 : jLn RX7 120 mX2_placeOf.1 := Or.inr ⟨"CourtHouse", jns_of (by decide +kernel) (by decide +kernel)⟩
theorem fX7_124 : jFl RX7 124 2 1 := ⟨_, rfl, by decide, jin_X2, Or.inr ⟨"CourtHouse", jns_of (by decide +kernel) (by decide +kernel)⟩⟩
theorem fX7_127 : jFl RX7 127 2 4 := ⟨_, rfl, by decide, jin_X2, Or.inr ⟨"CourtHouse", jns_of (by decide +kernel) (by decide +kernel)⟩⟩
theorem qX7_130 : Cond.constantLong RX7 130 (-9000000000000000005) ∈ jgd := jgd_of (by decide +kernel) (by decide +kernel)
theorem vX7_130 : ((-9000000000000000005) : Int64) = jL (-9000000000000000005) := by decide +kernel
theorem lX7_132 : jLn RX7 132 mX2_caseAt.1 := Or.inr ⟨"CourtHouse", jns_of (by decide +kernel) (by decide +kernel)⟩
theorem sX7_135 : Cond.fieldLink RX7 135 "CourtHouse" (jsn 1) "[I" ∈ jgd := jgd_of (by decide +kernel) (by decide +kernel)
theorem sX7_138 : Cond.fieldLink RX7 138 "CourtHouse" (jsn 2) "[I" ∈ jgd := jgd_of (by decide +kernel) (by decide +kernel)
theorem fX7_58 : jFl RX7 58 7 7 := ⟨_, rfl, by decide, jin_X7, Or.inl (jgd_of (by decide +kernel) (by decide +kernel))⟩
theorem lX7_141 : jLn RX7 141 mX7_isQuarter.1 := Or.inl (jgd_of (by decide +kernel) (by decide +kernel))
theorem fX7_26 : jFl RX7 26 7 2 := ⟨_, rfl, by decide, jin_X7, Or.inl (jgd_of (by decide +kernel) (by decide +kernel))⟩
theorem lX7_144 : jLn RX7 144 mX0_weigh.1 := Or.inr ⟨"CourtHouse", jns_of (by decide +kernel) (by decide +kernel)⟩
theorem fX7_148 : jFl RX7 148 0 0 := ⟨_, rfl, by decide, jin_X0, Or.inr ⟨"CourtHouse", jns_of (by decide +kernel) (by decide +kernel)⟩⟩
theorem lX7_152 : jLn RX7 152 mX7_waitPrice.1 := Or.inl (jgd_of (by decide +kernel) (by decide +kernel))
theorem lX7_156 : jLn RX7 156 mX0_costAt.1 := Or.inr ⟨"CourtHouse", jns_of (by decide +kernel) (by decide +kernel)⟩
theorem lX7_160 : jLn RX7 160 mX7_bestQuarter.1 := Or.inl (jgd_of (by decide +kernel) (by decide +kernel))
theorem lX7_163 : jLn RX7 163 mX2_hasNeedOf.1 := Or.inr ⟨"CourtHouse", jns_of (by decide +kernel) (by decide +kernel)⟩
theorem qX7_166 : Cond.constantLong RX7 166 (-9000000000000000002) ∈ jgd := jgd_of (by decide +kernel) (by decide +kernel)
theorem vX7_166 : ((-9000000000000000002) : Int64) = jL (-9000000000000000002) := by decide +kernel
theorem lX7_168 : jLn RX7 168 mX2_quarterFor.1 := Or.inr ⟨"CourtHouse", jns_of (by decide +kernel) (by decide +kernel)⟩
theorem fX7_33 : jFl RX7 33 7 3 := ⟨_, rfl, by decide, jin_X7, Or.inl (jgd_of (by decide +kernel) (by decide +kernel))⟩
theorem lX7_171 : jLn RX7 171 mX1_run.1 := Or.inr ⟨"CourtHouse", jns_of (by decide +kernel) (by decide +kernel)⟩
theorem fX7_175 : jFl RX7 175 1 0 := ⟨_, rfl, by decide, jin_X1, Or.inr ⟨"CourtHouse", jns_of (by decide +kernel) (by decide +kernel)⟩⟩
theorem lX7_178 : jLn RX7 178 mX2_isFolded.1 := Or.inr ⟨"CourtHouse", jns_of (by decide +kernel) (by decide +kernel)⟩
theorem fX7_181 : jFl RX7 181 1 1 := ⟨_, rfl, by decide, jin_X1, Or.inr ⟨"CourtHouse", jns_of (by decide +kernel) (by decide +kernel)⟩⟩
theorem lX7_184 : jLn RX7 184 mX1_waitFor.1 := Or.inr ⟨"CourtHouse", jns_of (by decide +kernel) (by decide +kernel)⟩
theorem fX7_188 : jFl RX7 188 1 2 := ⟨_, rfl, by decide, jin_X1, Or.inr ⟨"CourtHouse", jns_of (by decide +kernel) (by decide +kernel)⟩⟩
theorem lX7_191 : jLn RX7 191 mX1_waitOf.1 := Or.inr ⟨"CourtHouse", jns_of (by decide +kernel) (by decide +kernel)⟩
theorem lX7_195 : jLn RX7 195 mX2_isCalled.1 := Or.inr ⟨"CourtHouse", jns_of (by decide +kernel) (by decide +kernel)⟩
theorem qX7_198 : Cond.constantLong RX7 198 (2) ∈ jgd := jgd_of (by decide +kernel) (by decide +kernel)
theorem vX7_198 : ((2) : Int64) = jL (2) := by decide +kernel
theorem lX7_200 : jLn RX7 200 mX1_hearingsOf.1 := Or.inr ⟨"CourtHouse", jns_of (by decide +kernel) (by decide +kernel)⟩
theorem lX7_203 : jLn RX7 203 mX4_areApart.1 := Or.inr ⟨"CourtHouse", jns_of (by decide +kernel) (by decide +kernel)⟩
theorem lX7_206 : jLn RX7 206 mX4_setApart.1 := Or.inr ⟨"CourtHouse", jns_of (by decide +kernel) (by decide +kernel)⟩
theorem fX7_40 : jFl RX7 40 7 4 := ⟨_, rfl, by decide, jin_X7, Or.inl (jgd_of (by decide +kernel) (by decide +kernel))⟩
theorem lX7_210 : jLn RX7 210 mX5_give.1 := Or.inr ⟨"CourtHouse", jns_of (by decide +kernel) (by decide +kernel)⟩
theorem fX7_214 : jFl RX7 214 5 0 := ⟨_, rfl, by decide, jin_X5, Or.inr ⟨"CourtHouse", jns_of (by decide +kernel) (by decide +kernel)⟩⟩
theorem lX7_217 : jLn RX7 217 mX2_leaveList.1 := Or.inr ⟨"CourtHouse", jns_of (by decide +kernel) (by decide +kernel)⟩
theorem lX7_221 : jLn RX7 221 mX2_joinList.1 := Or.inr ⟨"CourtHouse", jns_of (by decide +kernel) (by decide +kernel)⟩
theorem fX7_47 : jFl RX7 47 7 5 := ⟨_, rfl, by decide, jin_X7, Or.inl (jgd_of (by decide +kernel) (by decide +kernel))⟩
theorem lX7_225 : jLn RX7 225 mX3_send.1 := Or.inr ⟨"CourtHouse", jns_of (by decide +kernel) (by decide +kernel)⟩
theorem fX7_228 : jFl RX7 228 3 3 := ⟨_, rfl, by decide, jin_X3, Or.inr ⟨"CourtHouse", jns_of (by decide +kernel) (by decide +kernel)⟩⟩
theorem fX7_229 : jFl RX7 229 3 0 := ⟨_, rfl, by decide, jin_X3, Or.inr ⟨"CourtHouse", jns_of (by decide +kernel) (by decide +kernel)⟩⟩
theorem fX7_232 : jFl RX7 232 3 1 := ⟨_, rfl, by decide, jin_X3, Or.inr ⟨"CourtHouse", jns_of (by decide +kernel) (by decide +kernel)⟩⟩
theorem fX7_235 : jFl RX7 235 3 2 := ⟨_, rfl, by decide, jin_X3, Or.inr ⟨"CourtHouse", jns_of (by decide +kernel) (by decide +kernel)⟩⟩
theorem lX7_239 : jLn RX7 239 mX3_readAll.1 := Or.inr ⟨"CourtHouse", jns_of (by decide +kernel) (by decide +kernel)⟩
theorem lX7_242 : jLn RX7 242 mX7_isSheet.1 := Or.inl (jgd_of (by decide +kernel) (by decide +kernel))
theorem qX7_245 : Cond.constantLong RX7 245 (-9000000000000000014) ∈ jgd := jgd_of (by decide +kernel) (by decide +kernel)
theorem vX7_245 : ((-9000000000000000014) : Int64) = jL (-9000000000000000014) := by decide +kernel
theorem fX7_54 : jFl RX7 54 7 6 := ⟨_, rfl, by decide, jin_X7, Or.inl (jgd_of (by decide +kernel) (by decide +kernel))⟩
theorem lX7_247 : jLn RX7 247 mX6_layOut.1 := Or.inr ⟨"CourtHouse", jns_of (by decide +kernel) (by decide +kernel)⟩
theorem lX7_250 : jLn RX7 250 mX6_isMissing.1 := Or.inr ⟨"CourtHouse", jns_of (by decide +kernel) (by decide +kernel)⟩
theorem qX7_253 : Cond.constantLong RX7 253 (-9000000000000000011) ∈ jgd := jgd_of (by decide +kernel) (by decide +kernel)
theorem vX7_253 : ((-9000000000000000011) : Int64) = jL (-9000000000000000011) := by decide +kernel
theorem lX7_255 : jLn RX7 255 mX6_hasRun.1 := Or.inr ⟨"CourtHouse", jns_of (by decide +kernel) (by decide +kernel)⟩
theorem qX7_258 : Cond.constantLong RX7 258 (-9000000000000000013) ∈ jgd := jgd_of (by decide +kernel) (by decide +kernel)
theorem vX7_258 : ((-9000000000000000013) : Int64) = jL (-9000000000000000013) := by decide +kernel
theorem lX7_260 : jLn RX7 260 mX6_valueAt.1 := Or.inr ⟨"CourtHouse", jns_of (by decide +kernel) (by decide +kernel)⟩
theorem lX7_263 : jLn RX7 263 mX6_put.1 := Or.inr ⟨"CourtHouse", jns_of (by decide +kernel) (by decide +kernel)⟩
theorem lX7_267 : jLn RX7 267 mX6_copyRun.1 := Or.inr ⟨"CourtHouse", jns_of (by decide +kernel) (by decide +kernel)⟩
theorem fX7_271 : jFl RX7 271 6 1 := ⟨_, rfl, by decide, jin_X6, Or.inr ⟨"CourtHouse", jns_of (by decide +kernel) (by decide +kernel)⟩⟩
theorem lX7_274 : Cond.methodLink RX7 274 Lib.Math.min.name ∈ jgd := jgd_of (by decide +kernel) (by decide +kernel)
theorem lX7_279 : jLn RX7 279 mX3_unread.1 := Or.inr ⟨"CourtHouse", jns_of (by decide +kernel) (by decide +kernel)⟩
theorem lX7_283 : jLn RX7 283 mX4_pairsApart.1 := Or.inr ⟨"CourtHouse", jns_of (by decide +kernel) (by decide +kernel)⟩
theorem lX7_286 : jLn RX7 286 mX2_fatesTold.1 := Or.inr ⟨"CourtHouse", jns_of (by decide +kernel) (by decide +kernel)⟩
theorem lX7_289 : jLn RX7 289 mX6_present.1 := Or.inr ⟨"CourtHouse", jns_of (by decide +kernel) (by decide +kernel)⟩
theorem sX7_292 : Cond.fieldLink RX7 292 "CourtHouse" (jsn 0) "[I" ∈ jgd := jgd_of (by decide +kernel) (by decide +kernel)
theorem lX7_295 : Cond.methodLink RX7 295 Lib.Math.max.name ∈ jgd := jgd_of (by decide +kernel) (by decide +kernel)
theorem lX7_298 : jLn RX7 298 mX7_greatestWay.1 := Or.inl (jgd_of (by decide +kernel) (by decide +kernel))
theorem lX7_301 : jLn RX7 301 mX0_cheapestFrom.1 := Or.inr ⟨"CourtHouse", jns_of (by decide +kernel) (by decide +kernel)⟩
theorem lX8_92 : jLn RX8 92 mX8_isIn.1 := Or.inl (jgd_of (by decide +kernel) (by decide +kernel))
theorem fX8_96 : jFl RX8 96 8 2 := ⟨_, rfl, by decide, jin_X8, Or.inl (jgd_of (by decide +kernel) (by decide +kernel))⟩
theorem fX8_100 : jFl RX8 100 8 8 := ⟨_, rfl, by decide, jin_X8, Or.inl (jgd_of (by decide +kernel) (by decide +kernel))⟩
theorem fX8_25 : jFl RX8 25 8 6 := ⟨_, rfl, by decide, jin_X8, Or.inl (jgd_of (by decide +kernel) (by decide +kernel))⟩
theorem fX8_16 : jFl RX8 16 8 3 := ⟨_, rfl, by decide, jin_X8, Or.inl (jgd_of (by decide +kernel) (by decide +kernel))⟩
theorem fX8_13 : jFl RX8 13 8 1 := ⟨_, rfl, by decide, jin_X8, Or.inl (jgd_of (by decide +kernel) (by decide +kernel))⟩
theorem fX8_7 : jFl RX8 7 8 0 := ⟨_, rfl, by decide, jin_X8, Or.inl (jgd_of (by decide +kernel) (by decide +kernel))⟩
theorem lX8_103 : jLn RX8 103 mX8_isCourt.1 := Or.inl (jgd_of (by decide +kernel) (by decide +kernel))
theorem qX8_107 : Cond.constantLong RX8 107 (-9000000000000000001) ∈ jgd := jgd_of (by decide +kernel) (by decide +kernel)
theorem vX8_107 : ((-9000000000000000001) : Int64) = jL (-9000000000000000001) := by decide +kernel
theorem qX8_109 : Cond.constantLong RX8 109 (-9000000000000000003) ∈ jgd := jgd_of (by decide +kernel) (by decide +kernel)
theorem vX8_109 : ((-9000000000000000003) : Int64) = jL (-9000000000000000003) := by decide +kernel
theorem fX8_19 : jFl RX8 19 8 4 := ⟨_, rfl, by decide, jin_X8, Or.inl (jgd_of (by decide +kernel) (by decide +kernel))⟩
theorem fX8_22 : jFl RX8 22 8 5 := ⟨_, rfl, by decide, jin_X8, Or.inl (jgd_of (by decide +kernel) (by decide +kernel))⟩
theorem fX8_28 : jFl RX8 28 8 7 := ⟨_, rfl, by decide, jin_X8, Or.inl (jgd_of (by decide +kernel) (by decide +kernel))⟩
theorem lX8_111 : jLn RX8 111 mX8_enter.1 := Or.inl (jgd_of (by decide +kernel) (by decide +kernel))
theorem fX8_31 : jFl RX8 31 8 9 := ⟨_, rfl, by decide, jin_X8, Or.inl (jgd_of (by decide +kernel) (by decide +kernel))⟩
theorem fX8_34 : jFl RX8 34 8 10 := ⟨_, rfl, by decide, jin_X8, Or.inl (jgd_of (by decide +kernel) (by decide +kernel))⟩
theorem lX8_115 : jLn RX8 115 mX8_isWitness.1 := Or.inl (jgd_of (by decide +kernel) (by decide +kernel))
theorem lX8_118 : jLn RX8 118 mX8_isCase.1 := Or.inl (jgd_of (by decide +kernel) (by decide +kernel))
theorem lX8_121 : jLn RX8 121 mX8_needs1.1 := Or.inl (jgd_of (by decide +kernel) (by decide +kernel))
theorem fX8_40 : jFl RX8 40 8 12 := ⟨_, rfl, by decide, jin_X8, Or.inl (jgd_of (by decide +kernel) (by decide +kernel))⟩
theorem lX8_125 : jLn RX8 125 mX8_placeOf.1 := Or.inl (jgd_of (by decide +kernel) (by decide +kernel))
theorem qX8_129 : Cond.constantLong RX8 129 (-9000000000000000005) ∈ jgd := jgd_of (by decide +kernel) (by decide +kernel)
theorem vX8_129 : ((-9000000000000000005) : Int64) = jL (-9000000000000000005) := by decide +kernel
theorem fX8_43 : jFl RX8 43 8 13 := ⟨_, rfl, by decide, jin_X8, Or.inl (jgd_of (by decide +kernel) (by decide +kernel))⟩
theorem fX8_61 : jFl RX8 61 8 20 := ⟨_, rfl, by decide, jin_X8, Or.inl (jgd_of (by decide +kernel) (by decide +kernel))⟩
theorem fX8_65 : jFl RX8 65 8 21 := ⟨_, rfl, by decide, jin_X8, Or.inl (jgd_of (by decide +kernel) (by decide +kernel))⟩
theorem lX8_131 : jLn RX8 131 mX8_weigh.1 := Or.inl (jgd_of (by decide +kernel) (by decide +kernel))
theorem lX8_135 : jLn RX8 135 mX8_weightOf.1 := Or.inl (jgd_of (by decide +kernel) (by decide +kernel))
theorem lX8_138 : jLn RX8 138 mX8_costOf.1 := Or.inl (jgd_of (by decide +kernel) (by decide +kernel))
theorem lX8_142 : jLn RX8 142 mX8_bestFor.1 := Or.inl (jgd_of (by decide +kernel) (by decide +kernel))
theorem qX8_145 : Cond.constantLong RX8 145 (-9000000000000000002) ∈ jgd := jgd_of (by decide +kernel) (by decide +kernel)
theorem vX8_145 : ((-9000000000000000002) : Int64) = jL (-9000000000000000002) := by decide +kernel
theorem fX8_68 : jFl RX8 68 8 22 := ⟨_, rfl, by decide, jin_X8, Or.inl (jgd_of (by decide +kernel) (by decide +kernel))⟩
theorem fX8_71 : jFl RX8 71 8 23 := ⟨_, rfl, by decide, jin_X8, Or.inl (jgd_of (by decide +kernel) (by decide +kernel))⟩
theorem lX8_147 : jLn RX8 147 mX8_isOn.1 := Or.inl (jgd_of (by decide +kernel) (by decide +kernel))
theorem lX8_150 : jLn RX8 150 mX8_isBusy.1 := Or.inl (jgd_of (by decide +kernel) (by decide +kernel))
theorem fX8_77 : jFl RX8 77 8 25 := ⟨_, rfl, by decide, jin_X8, Or.inl (jgd_of (by decide +kernel) (by decide +kernel))⟩
theorem lX8_153 : jLn RX8 153 mX8_isFolded.1 := Or.inl (jgd_of (by decide +kernel) (by decide +kernel))
theorem lX8_156 : jLn RX8 156 mX8_whyNot.1 := Or.inl (jgd_of (by decide +kernel) (by decide +kernel))
theorem fX8_74 : jFl RX8 74 8 24 := ⟨_, rfl, by decide, jin_X8, Or.inl (jgd_of (by decide +kernel) (by decide +kernel))⟩
theorem fX8_160 : jFl RX8 160 8 26 := ⟨_, rfl, by decide, jin_X8, Or.inl (jgd_of (by decide +kernel) (by decide +kernel))⟩
theorem lX8_163 : jLn RX8 163 mX8_goOn.1 := Or.inl (jgd_of (by decide +kernel) (by decide +kernel))
theorem lX8_166 : jLn RX8 166 mX8_runDay.1 := Or.inl (jgd_of (by decide +kernel) (by decide +kernel))
theorem lX8_169 : jLn RX8 169 mX8_waitedFor.1 := Or.inl (jgd_of (by decide +kernel) (by decide +kernel))
theorem lX8_172 : jLn RX8 172 mX8_waitedIn.1 := Or.inl (jgd_of (by decide +kernel) (by decide +kernel))
theorem lX8_175 : jLn RX8 175 mX8_isCalled.1 := Or.inl (jgd_of (by decide +kernel) (by decide +kernel))
theorem qX8_178 : Cond.constantLong RX8 178 (2) ∈ jgd := jgd_of (by decide +kernel) (by decide +kernel)
theorem vX8_178 : ((2) : Int64) = jL (2) := by decide +kernel
theorem fX8_37 : jFl RX8 37 8 11 := ⟨_, rfl, by decide, jin_X8, Or.inl (jgd_of (by decide +kernel) (by decide +kernel))⟩
theorem fX8_80 : jFl RX8 80 8 27 := ⟨_, rfl, by decide, jin_X8, Or.inl (jgd_of (by decide +kernel) (by decide +kernel))⟩
theorem fX8_83 : jFl RX8 83 8 28 := ⟨_, rfl, by decide, jin_X8, Or.inl (jgd_of (by decide +kernel) (by decide +kernel))⟩
theorem fX8_86 : jFl RX8 86 8 29 := ⟨_, rfl, by decide, jin_X8, Or.inl (jgd_of (by decide +kernel) (by decide +kernel))⟩
theorem lX8_180 : jLn RX8 180 mX8_giveRooms.1 := Or.inl (jgd_of (by decide +kernel) (by decide +kernel))
theorem lX8_183 : jLn RX8 183 mX8_mayBe.1 := Or.inl (jgd_of (by decide +kernel) (by decide +kernel))
theorem lX8_186 : jLn RX8 186 mX8_span.1 := Or.inl (jgd_of (by decide +kernel) (by decide +kernel))
theorem fX8_189 : jFl RX8 189 8 14 := ⟨_, rfl, by decide, jin_X8, Or.inl (jgd_of (by decide +kernel) (by decide +kernel))⟩
theorem fX8_46 : jFl RX8 46 8 15 := ⟨_, rfl, by decide, jin_X8, Or.inl (jgd_of (by decide +kernel) (by decide +kernel))⟩
theorem fX8_49 : jFl RX8 49 8 16 := ⟨_, rfl, by decide, jin_X8, Or.inl (jgd_of (by decide +kernel) (by decide +kernel))⟩
theorem fX8_52 : jFl RX8 52 8 17 := ⟨_, rfl, by decide, jin_X8, Or.inl (jgd_of (by decide +kernel) (by decide +kernel))⟩
theorem lX8_192 : jLn RX8 192 mX8_notify.1 := Or.inl (jgd_of (by decide +kernel) (by decide +kernel))
theorem lX8_195 : jLn RX8 195 mX8_isSheet.1 := Or.inl (jgd_of (by decide +kernel) (by decide +kernel))
theorem qX8_198 : Cond.constantLong RX8 198 (-9000000000000000014) ∈ jgd := jgd_of (by decide +kernel) (by decide +kernel)
theorem vX8_198 : ((-9000000000000000014) : Int64) = jL (-9000000000000000014) := by decide +kernel
theorem fX8_55 : jFl RX8 55 8 18 := ⟨_, rfl, by decide, jin_X8, Or.inl (jgd_of (by decide +kernel) (by decide +kernel))⟩
theorem fX8_58 : jFl RX8 58 8 19 := ⟨_, rfl, by decide, jin_X8, Or.inl (jgd_of (by decide +kernel) (by decide +kernel))⟩
theorem qX8_200 : Cond.constantLong RX8 200 (-9000000000000000011) ∈ jgd := jgd_of (by decide +kernel) (by decide +kernel)
theorem vX8_200 : ((-9000000000000000011) : Int64) = jL (-9000000000000000011) := by decide +kernel
theorem qX8_202 : Cond.constantLong RX8 202 (-9000000000000000013) ∈ jgd := jgd_of (by decide +kernel) (by decide +kernel)
theorem vX8_202 : ((-9000000000000000013) : Int64) = jL (-9000000000000000013) := by decide +kernel
theorem fX8_89 : jFl RX8 89 8 30 := ⟨_, rfl, by decide, jin_X8, Or.inl (jgd_of (by decide +kernel) (by decide +kernel))⟩
theorem qJ6_265 : Cond.constant RJ6 265 (1431655765) ∈ jgd := jgd_of (by decide +kernel) (by decide +kernel)
theorem vJ6_265 : ((1431655765) : Int32) = jI (1431655765) := by decide +kernel
theorem qJ6_266 : Cond.constant RJ6 266 (858993459) ∈ jgd := jgd_of (by decide +kernel) (by decide +kernel)
theorem vJ6_266 : ((858993459) : Int32) = jI (858993459) := by decide +kernel
theorem qJ6_267 : Cond.constant RJ6 267 (252645135) ∈ jgd := jgd_of (by decide +kernel) (by decide +kernel)
theorem vJ6_267 : ((252645135) : Int32) = jI (252645135) := by decide +kernel
theorem jm_max : Cond.static Lib.Math.max.name ∈ jgd ∧ Cond.initialized "java/lang/Math" ∈ jgd ∧ Cond.code Lib.Math.max.name Lib.Math.max.code 2 (some .int) ∈ jgd := ⟨jgd_of (by decide +kernel) (by decide +kernel), jgd_of (by decide +kernel) (by decide +kernel), jgd_of (by decide +kernel) (by decide +kernel)⟩
theorem jm_min : Cond.static Lib.Math.min.name ∈ jgd ∧ Cond.initialized "java/lang/Math" ∈ jgd ∧ Cond.code Lib.Math.min.name Lib.Math.min.code 2 (some .int) ∈ jgd := ⟨jgd_of (by decide +kernel) (by decide +kernel), jgd_of (by decide +kernel) (by decide +kernel), jgd_of (by decide +kernel) (by decide +kernel)⟩
theorem jm_copy : Cond.methodLink RX6 19 arraycopyName ∈ jgd ∧ Cond.native arraycopyName ∈ jgd ∧ Cond.static arraycopyName ∈ jgd ∧ Cond.initialized "java/lang/System" ∈ jgd := ⟨jgd_of (by decide +kernel) (by decide +kernel), jgd_of (by decide +kernel) (by decide +kernel), jgd_of (by decide +kernel) (by decide +kernel), jgd_of (by decide +kernel) (by decide +kernel)⟩
end
section
section JM
variable {G : jG} {y : jMD} {R : Room} {cl sl : Nat} {E : Array Value → State → Prop} {Z : List Frame → Array Value → State → State → Prop} {pc n d : Nat} {l st : List Value} {M : jMem}
def jle : List Value → List Value → Prop
  | [], _ => True
  | _ :: _, [] => False
  | u :: us, v :: vs => (u = .null ∨ u = v) ∧ jle us vs
theorem jle_at : ∀ (l' l : List Value), jle l' l → ∀ (k : Nat) (v : Value), l'[k]? = some v → v ≠ .null → l[k]? = some v
  | [], _, _, k, v, h, _ => by simp at h
  | u :: us, [], h, _, _, _, _ => h.elim
  | u :: us, w :: ws, h, 0, v, hk, hv => by
    have e : u = v := by simpa using hk
    subst e
    rcases h.1 with q | q
    · exact absurd q hv
    · simp [q]
  | u :: us, w :: ws, h, k + 1, v, hk, hv => by
    have := jle_at us ws h.2 k v (by simpa using hk) hv
    simpa using this
theorem jr_drop {l' : List Value} (k : jX G y R cl sl E Z pc l' st M) (h : jle l' l) : jX G y R cl sl E Z pc l st M := jr_sub (jle_at l' l h) k
theorem jr_getR {k idx ci j N r : Nat} (hd : decode y.2.1 pc = .ok (.getfield idx, 3)) (hn : n = pc + 3) (hL : jFl y.1.cls idx ci j) (hk : jsh k = (10 + ci, N)) (hN : 10 + ci < 99) (hj : j < N) (hr : jrf k j = some r) (kk : jX G y R cl sl E Z n l (.ref (jad G r) :: st) M) : jX G y R cl sl E Z pc l (.ref (jad G k) :: st) M := jr_get hd hn hL hk hN hj (by unfold jfv; rw [hr]) kk
theorem jr_getI {k idx ci j N : Nat} {i : Int} (hi : (j : Int) = i) (hd : decode y.2.1 pc = .ok (.getfield idx, 3)) (hn : n = pc + 3) (hL : jFl y.1.cls idx ci j) (hk : jsh k = (10 + ci, N)) (hN : 10 + ci < 99) (hj : j < N) (hr : jrf k j = none) (kk : jX G y R cl sl E Z n l (.int (jI (M k i)) :: st) M) : jX G y R cl sl E Z pc l (.ref (jad G k) :: st) M := jr_get hd hn hL hk hN hj (by unfold jfv; rw [hr, hi]) kk
theorem jr_putI {k idx ci j N : Nat} {i x : Int} (hi : (j : Int) = i) (hd : decode y.2.1 pc = .ok (.putfield idx, 3)) (hn : n = pc + 3) (hL : jFl y.1.cls idx ci j) (hF : jFw ci j) (hk : jsh k = (10 + ci, N)) (hN : 10 + ci < 99) (hj : j < N) (hr : jrf k j = none) (kk : jX G y R cl sl E Z n l st (jup M k i x)) : jX G y R cl sl E Z pc l (.int (jI x) :: .ref (jad G k) :: st) M := jr_put hd hn hL hF hk hN hj hr (by rw [hi]; exact kk)
theorem jr_max {idx : Nat} {x z : Int} (hd : decode y.2.1 pc = .ok (.invokestatic idx, 3)) (hn : n = pc + 3) (hL : Cond.methodLink y.1.cls idx Lib.Math.max.name ∈ jgd) (hx : jR x) (hz : jR z) (hcat : (st.map fun v => v.category).sum ≤ 8) (hR : 1 ≤ R.frames ∧ 40 ≤ R.locals) (hcs : cl ≤ R.cells ∧ sl ≤ R.slots) (kk : jX G y R cl sl E Z n l (.int (jI (max x z)) :: st) M) : jX G y R cl sl E Z pc l (.int (jI z) :: .int (jI x) :: st) M := by
  subst hn
  intro p e s m args below meth c H locs ls hC
  have hC0 := hC
  obtain ⟨h1, h2, h3, h4, h5, h6, h7, h8, h9, h10, h11, h12⟩ := hC0
  have e1 : (if jI x < jI z then jI z else jI x) = jI (max x z) := by
    by_cases q : x < z
    · rw [if_pos ((jI_lt hx hz).mpr q), Int.max_eq_right (by omega)]
    · rw [if_neg (fun r => q ((jI_lt hx hz).mp r)), Int.max_eq_left (by omega)]
  exact va_mmax h1 h2 (h3.trans h12.1.symm) h4 (h5 _ hL) (h5 _ jm_max.1) (h5 _ jm_max.2.1) (h5 _ jm_max.2.2) hR.1 (by omega) hcs.1 hcs.2 hd (by rw [e1]; exact kk _ _ _ _ _ _ _ _ _ _ _ hC)
theorem jr_min {idx : Nat} {x z : Int} (hd : decode y.2.1 pc = .ok (.invokestatic idx, 3)) (hn : n = pc + 3) (hL : Cond.methodLink y.1.cls idx Lib.Math.min.name ∈ jgd) (hx : jR x) (hz : jR z) (hcat : (st.map fun v => v.category).sum ≤ 8) (hR : 1 ≤ R.frames ∧ 40 ≤ R.locals) (hcs : cl ≤ R.cells ∧ sl ≤ R.slots) (kk : jX G y R cl sl E Z n l (.int (jI (min x z)) :: st) M) : jX G y R cl sl E Z pc l (.int (jI z) :: .int (jI x) :: st) M := by
  subst hn
  intro p e s m args below meth c H locs ls hC
  have hC0 := hC
  obtain ⟨h1, h2, h3, h4, h5, h6, h7, h8, h9, h10, h11, h12⟩ := hC0
  have e1 : (if jI z < jI x then jI z else jI x) = jI (min x z) := by
    by_cases q : z < x
    · rw [if_pos ((jI_lt hz hx).mpr q), Int.min_eq_right (by omega)]
    · rw [if_neg (fun r => q ((jI_lt hz hx).mp r)), Int.min_eq_left (by omega)]
  exact va_mmin h1 h2 (h3.trans h12.1.symm) h4 (h5 _ hL) (h5 _ jm_min.1) (h5 _ jm_min.2.1) (h5 _ jm_min.2.2) hR.1 (by omega) hcs.1 hcs.2 hd (by rw [e1]; exact kk _ _ _ _ _ _ _ _ _ _ _ hC)
def jcpy (M : jMem) (k : Nat) (sp dp n : Int) : jMem := fun a b => if a = k ∧ dp ≤ b ∧ b < dp + n then M k (sp + (b - dp)) else M a b
theorem jr_copy {k N : Nat} {sp dp z : Int} (hd : decode y.2.1 pc = .ok (.invokestatic 19, 3)) (hn : n = pc + 3) (ho : y.1.cls = RX6) (hk : jsh k = (2, N)) (hN : N < 1000) (h1 : 0 ≤ sp) (h2 : 0 ≤ dp) (h3 : 0 ≤ z) (h4 : sp + z ≤ N) (h5 : dp + z ≤ N) (hfit : ∀ i, -128 ≤ M k i ∧ M k i ≤ 127) (hcat : (st.map fun v => v.category).sum ≤ 8) (hR : 1 ≤ R.frames ∧ 40 ≤ R.locals) (kk : jX G y R cl sl E Z n l st (jcpy M k sp dp z)) : jX G y R cl sl E Z pc l (.int (jI z) :: .int (jI dp) :: .ref (jad G k) :: .int (jI sp) :: .ref (jad G k) :: st) M := by
  subst hn
  intro p e s m args below meth c H locs ls hC
  have hC0 := hC
  obtain ⟨c1, c2, c3, c4, c5, c6, c7, c8, c9, c10, c11, c12⟩ := hC0
  have hkn : k < jNC := jsh_lt (by rw [hk]; exact (by decide : (2 : Nat) < 99))
  have hcell : (jwd G M)[k]? = some (jad G k, .inl (jcy G 2, N, .inl (fun j => jI (M k (j : Int))))) := by
    rw [jwd_get G M hkn]; unfold jcel; rw [hk]; rfl
  have nn : ∀ x : Int, 0 ≤ x → x ≤ N → (jI x).toNatClampNeg = x.toNat ∧ ¬ jI x < 0 := fun x q1 q2 => ⟨jI_cl q1 (by omega), by rw [← jI_0, jI_lt ⟨by omega, by omega⟩ ⟨by omega, by omega⟩]; omega⟩
  have es := nn sp h1 (by omega)
  have ed := nn dp h2 (by omega)
  have en := nn z h3 (by omega)
  have ec : (Sum.inl (jcy G 2, N, Sum.inl (va_cpy (fun j => jI (M k (j : Int))) (fun j => jI (M k (j : Int))) (jI sp).toNatClampNeg (jI dp).toNatClampNeg (jI z).toNatClampNeg)) : va_E) = jcel G (jcpy M k sp dp z) k := by
    unfold jcel
    rw [hk, es.1, ed.1, en.1]
    have ef : ∀ j : Nat, va_cpy (fun j => jI (M k (j : Int))) (fun j => jI (M k (j : Int))) sp.toNat dp.toNat z.toNat j = jI (jcpy M k sp dp z k (j : Int)) := fun j => by
      unfold va_cpy jcpy
      by_cases q : dp.toNat ≤ j ∧ j < dp.toNat + z.toNat
      · rw [if_pos q, if_pos ⟨rfl, by omega, by omega⟩]
        show jI (M k ((sp.toNat + (j - dp.toNat) : Nat) : Int)) = _
        rw [show ((sp.toNat + (j - dp.toNat) : Nat) : Int) = sp + ((j : Int) - dp) by omega]
      · rw [if_neg q, if_neg (fun r => q ⟨by omega, by omega⟩)]
    exact congrArg (fun f => (Sum.inl (jcy G 2, N, Sum.inl f) : va_E)) (funext ef)
  have hfit' : ∀ i, i < (jI z).toNatClampNeg → fits .byte (.int ((fun j : Nat => jI (M k (j : Int))) ((jI sp).toNatClampNeg + i))) = true := fun i _ => by
    have hb := hfit (((jI sp).toNatClampNeg + i : Nat) : Int)
    show fits .byte (.int (jI (M k (((jI sp).toNatClampNeg + i : Nat) : Int)))) = true
    generalize M k (((jI sp).toNatClampNeg + i : Nat) : Int) = v at hb ⊢
    have : (jI v).toInt8.toInt32 = jI v := by
      rw [← Int32.toInt_inj, Int8.toInt_toInt32, Int32.toInt_toInt8, jI_toInt ⟨by omega, by omega⟩]
      exact Int.bmod_eq_of_le (by omega) (by omega)
    show fits .byte (.int (jI v)) = true
    rw [← this]
    exact pk_fb _
  have hloc : (st.map fun v => v.category).sum + (nativeFrameWords "java/lang/System" "arraycopy" 5 + 11) ≤ R.locals := by
    have : nativeFrameWords "java/lang/System" "arraycopy" 5 ≤ 20 := by decide +kernel
    omega
  refine va_copyi c1 c2 (c3.trans c12.1.symm) c4 (c5 _ (by rw [ho]; exact jm_copy.1)) (c5 _ jm_copy.2.1) (c5 _ jm_copy.2.2.1) (c5 _ jm_copy.2.2.2) c9.1 c11.1 c11.2 c10 k k 2 2 hcell hcell rfl rfl rfl es.2 ed.2 en.2 (by rw [es.1, en.1]; omega) (by rw [ed.1, en.1]; omega) hfit' hR.1 hloc hd (fun H1 locs1 hP hD hS => ?_)
  rw [jwd_set G hkn ec (fun j hj i' => by unfold jcpy; rw [if_neg (fun q => hj q.1)])] at hP hD
  exact kk _ _ _ _ _ _ _ _ _ _ _ ⟨c1, c2, c3, c4, c5, c6, c7, c8, c9, hS, ⟨hP, hD⟩, c12⟩
theorem jr_gV0 {ν : jMD} {k idx ci N : Nat} (hd : decode y.2.1 pc = .ok (.invokevirtual idx, 3)) (hn : n = pc + 3) (hL : jLn y.1.cls idx ν.1) (hm : jMk ν 0) (hi : jIn ν) (hk : jsh k = (10 + ci, N)) (hc : ∃ q, jcls[ci]? = some q ∧ q.1 = ν.1.cls) (hN : 10 + ci < 99) (hcat : (st.map fun v => v.category).sum ≤ 8) (hlen : (lg_sl [.ref (jad G k)]).length ≤ ν.2.2.1) (hnd : jnd [] = true) (hR : d + 1 ≤ R.frames ∧ 40 * d + 40 ≤ R.locals) (hcs : cl ≤ R.cells ∧ sl ≤ R.slots)
    (kk : jN G ν d [.ref (jad G k)] M (fun v M' => jX G y R cl sl E Z n l (jpush v st) M')) : jX G y R cl sl E Z pc l (.ref (jad G k) :: st) M := jr_callV (As := []) hd hn hL hm hi hk hc hN rfl rfl hcat hlen hnd hR hcs kk
theorem jr_cV0 {ν : jMD} {k idx ci N : Nat} {Q : Option Value → jMem → Prop} (hd : decode y.2.1 pc = .ok (.invokevirtual idx, 3)) (hn : n = pc + 3) (hL : jLn y.1.cls idx ν.1) (hm : jMk ν 0) (hi : jIn ν) (hk : jsh k = (10 + ci, N)) (hc : ∃ q, jcls[ci]? = some q ∧ q.1 = ν.1.cls) (hN : 10 + ci < 99) (hcat : (st.map fun v => v.category).sum ≤ 8) (hlen : (lg_sl [.ref (jad G k)]).length ≤ ν.2.2.1) (hnd : jnd [] = true)
    (kk : jN G ν d [.ref (jad G k)] M (fun v M' => jM G y (d + 1) n l (jpush v st) M' Q)) : jM G y (d + 1) pc l (.ref (jad G k) :: st) M Q := jr_callV (As := []) hd hn hL hm hi hk hc hN rfl rfl hcat hlen hnd ⟨Nat.le_refl _, Nat.le_refl _⟩ ⟨Nat.le_refl _, Nat.le_refl _⟩ kk
theorem jr_gV1 {ν : jMD} {k idx ci N : Nat} {b1 : Value} (hd : decode y.2.1 pc = .ok (.invokevirtual idx, 3)) (hn : n = pc + 3) (hL : jLn y.1.cls idx ν.1) (hm : jMk ν 1) (hi : jIn ν) (hk : jsh k = (10 + ci, N)) (hc : ∃ q, jcls[ci]? = some q ∧ q.1 = ν.1.cls) (hN : 10 + ci < 99) (hcat : (st.map fun v => v.category).sum ≤ 8) (hlen : (lg_sl [.ref (jad G k), b1]).length ≤ ν.2.2.1) (hnd : jnd [b1] = true) (hR : d + 1 ≤ R.frames ∧ 40 * d + 40 ≤ R.locals) (hcs : cl ≤ R.cells ∧ sl ≤ R.slots)
    (kk : jN G ν d [.ref (jad G k), b1] M (fun v M' => jX G y R cl sl E Z n l (jpush v st) M')) : jX G y R cl sl E Z pc l (b1 :: .ref (jad G k) :: st) M := jr_callV (As := [b1]) hd hn hL hm hi hk hc hN rfl rfl hcat hlen hnd hR hcs kk
theorem jr_cV1 {ν : jMD} {k idx ci N : Nat} {Q : Option Value → jMem → Prop} {b1 : Value} (hd : decode y.2.1 pc = .ok (.invokevirtual idx, 3)) (hn : n = pc + 3) (hL : jLn y.1.cls idx ν.1) (hm : jMk ν 1) (hi : jIn ν) (hk : jsh k = (10 + ci, N)) (hc : ∃ q, jcls[ci]? = some q ∧ q.1 = ν.1.cls) (hN : 10 + ci < 99) (hcat : (st.map fun v => v.category).sum ≤ 8) (hlen : (lg_sl [.ref (jad G k), b1]).length ≤ ν.2.2.1) (hnd : jnd [b1] = true)
    (kk : jN G ν d [.ref (jad G k), b1] M (fun v M' => jM G y (d + 1) n l (jpush v st) M' Q)) : jM G y (d + 1) pc l (b1 :: .ref (jad G k) :: st) M Q := jr_callV (As := [b1]) hd hn hL hm hi hk hc hN rfl rfl hcat hlen hnd ⟨Nat.le_refl _, Nat.le_refl _⟩ ⟨Nat.le_refl _, Nat.le_refl _⟩ kk
theorem jr_cS1 {ν : jMD} {idx : Nat} {Q : Option Value → jMem → Prop} {b1 : Value} (hd : decode y.2.1 pc = .ok (.invokestatic idx, 3)) (hn : n = pc + 3) (hL : jLn y.1.cls idx ν.1) (hm : jMk ν 1) (hi : jSt ν) (hcat : (st.map fun v => v.category).sum ≤ 8) (hlen : (lg_sl [b1]).length ≤ ν.2.2.1) (hnd : jnd [b1] = true)
    (kk : jN G ν d [b1] M (fun v M' => jM G y (d + 1) n l (jpush v st) M' Q)) : jM G y (d + 1) pc l (b1 :: st) M Q := jr_callS (As := [b1]) hd hn hL hm hi rfl rfl hcat hlen hnd ⟨Nat.le_refl _, Nat.le_refl _⟩ ⟨Nat.le_refl _, Nat.le_refl _⟩ kk
theorem jr_gV2 {ν : jMD} {k idx ci N : Nat} {b1 b2 : Value} (hd : decode y.2.1 pc = .ok (.invokevirtual idx, 3)) (hn : n = pc + 3) (hL : jLn y.1.cls idx ν.1) (hm : jMk ν 2) (hi : jIn ν) (hk : jsh k = (10 + ci, N)) (hc : ∃ q, jcls[ci]? = some q ∧ q.1 = ν.1.cls) (hN : 10 + ci < 99) (hcat : (st.map fun v => v.category).sum ≤ 8) (hlen : (lg_sl [.ref (jad G k), b1, b2]).length ≤ ν.2.2.1) (hnd : jnd [b1, b2] = true) (hR : d + 1 ≤ R.frames ∧ 40 * d + 40 ≤ R.locals) (hcs : cl ≤ R.cells ∧ sl ≤ R.slots)
    (kk : jN G ν d [.ref (jad G k), b1, b2] M (fun v M' => jX G y R cl sl E Z n l (jpush v st) M')) : jX G y R cl sl E Z pc l (b2 :: b1 :: .ref (jad G k) :: st) M := jr_callV (As := [b1, b2]) hd hn hL hm hi hk hc hN rfl rfl hcat hlen hnd hR hcs kk
theorem jr_cV2 {ν : jMD} {k idx ci N : Nat} {Q : Option Value → jMem → Prop} {b1 b2 : Value} (hd : decode y.2.1 pc = .ok (.invokevirtual idx, 3)) (hn : n = pc + 3) (hL : jLn y.1.cls idx ν.1) (hm : jMk ν 2) (hi : jIn ν) (hk : jsh k = (10 + ci, N)) (hc : ∃ q, jcls[ci]? = some q ∧ q.1 = ν.1.cls) (hN : 10 + ci < 99) (hcat : (st.map fun v => v.category).sum ≤ 8) (hlen : (lg_sl [.ref (jad G k), b1, b2]).length ≤ ν.2.2.1) (hnd : jnd [b1, b2] = true)
    (kk : jN G ν d [.ref (jad G k), b1, b2] M (fun v M' => jM G y (d + 1) n l (jpush v st) M' Q)) : jM G y (d + 1) pc l (b2 :: b1 :: .ref (jad G k) :: st) M Q := jr_callV (As := [b1, b2]) hd hn hL hm hi hk hc hN rfl rfl hcat hlen hnd ⟨Nat.le_refl _, Nat.le_refl _⟩ ⟨Nat.le_refl _, Nat.le_refl _⟩ kk
theorem jr_cS2 {ν : jMD} {idx : Nat} {Q : Option Value → jMem → Prop} {b1 b2 : Value} (hd : decode y.2.1 pc = .ok (.invokestatic idx, 3)) (hn : n = pc + 3) (hL : jLn y.1.cls idx ν.1) (hm : jMk ν 2) (hi : jSt ν) (hcat : (st.map fun v => v.category).sum ≤ 8) (hlen : (lg_sl [b1, b2]).length ≤ ν.2.2.1) (hnd : jnd [b1, b2] = true)
    (kk : jN G ν d [b1, b2] M (fun v M' => jM G y (d + 1) n l (jpush v st) M' Q)) : jM G y (d + 1) pc l (b2 :: b1 :: st) M Q := jr_callS (As := [b1, b2]) hd hn hL hm hi rfl rfl hcat hlen hnd ⟨Nat.le_refl _, Nat.le_refl _⟩ ⟨Nat.le_refl _, Nat.le_refl _⟩ kk
theorem jr_gV3 {ν : jMD} {k idx ci N : Nat} {b1 b2 b3 : Value} (hd : decode y.2.1 pc = .ok (.invokevirtual idx, 3)) (hn : n = pc + 3) (hL : jLn y.1.cls idx ν.1) (hm : jMk ν 3) (hi : jIn ν) (hk : jsh k = (10 + ci, N)) (hc : ∃ q, jcls[ci]? = some q ∧ q.1 = ν.1.cls) (hN : 10 + ci < 99) (hcat : (st.map fun v => v.category).sum ≤ 8) (hlen : (lg_sl [.ref (jad G k), b1, b2, b3]).length ≤ ν.2.2.1) (hnd : jnd [b1, b2, b3] = true) (hR : d + 1 ≤ R.frames ∧ 40 * d + 40 ≤ R.locals) (hcs : cl ≤ R.cells ∧ sl ≤ R.slots)
    (kk : jN G ν d [.ref (jad G k), b1, b2, b3] M (fun v M' => jX G y R cl sl E Z n l (jpush v st) M')) : jX G y R cl sl E Z pc l (b3 :: b2 :: b1 :: .ref (jad G k) :: st) M := jr_callV (As := [b1, b2, b3]) hd hn hL hm hi hk hc hN rfl rfl hcat hlen hnd hR hcs kk
theorem jr_cV3 {ν : jMD} {k idx ci N : Nat} {Q : Option Value → jMem → Prop} {b1 b2 b3 : Value} (hd : decode y.2.1 pc = .ok (.invokevirtual idx, 3)) (hn : n = pc + 3) (hL : jLn y.1.cls idx ν.1) (hm : jMk ν 3) (hi : jIn ν) (hk : jsh k = (10 + ci, N)) (hc : ∃ q, jcls[ci]? = some q ∧ q.1 = ν.1.cls) (hN : 10 + ci < 99) (hcat : (st.map fun v => v.category).sum ≤ 8) (hlen : (lg_sl [.ref (jad G k), b1, b2, b3]).length ≤ ν.2.2.1) (hnd : jnd [b1, b2, b3] = true)
    (kk : jN G ν d [.ref (jad G k), b1, b2, b3] M (fun v M' => jM G y (d + 1) n l (jpush v st) M' Q)) : jM G y (d + 1) pc l (b3 :: b2 :: b1 :: .ref (jad G k) :: st) M Q := jr_callV (As := [b1, b2, b3]) hd hn hL hm hi hk hc hN rfl rfl hcat hlen hnd ⟨Nat.le_refl _, Nat.le_refl _⟩ ⟨Nat.le_refl _, Nat.le_refl _⟩ kk
theorem jr_cS3 {ν : jMD} {idx : Nat} {Q : Option Value → jMem → Prop} {b1 b2 b3 : Value} (hd : decode y.2.1 pc = .ok (.invokestatic idx, 3)) (hn : n = pc + 3) (hL : jLn y.1.cls idx ν.1) (hm : jMk ν 3) (hi : jSt ν) (hcat : (st.map fun v => v.category).sum ≤ 8) (hlen : (lg_sl [b1, b2, b3]).length ≤ ν.2.2.1) (hnd : jnd [b1, b2, b3] = true)
    (kk : jN G ν d [b1, b2, b3] M (fun v M' => jM G y (d + 1) n l (jpush v st) M' Q)) : jM G y (d + 1) pc l (b3 :: b2 :: b1 :: st) M Q := jr_callS (As := [b1, b2, b3]) hd hn hL hm hi rfl rfl hcat hlen hnd ⟨Nat.le_refl _, Nat.le_refl _⟩ ⟨Nat.le_refl _, Nat.le_refl _⟩ kk
theorem jr_gV4 {ν : jMD} {k idx ci N : Nat} {b1 b2 b3 b4 : Value} (hd : decode y.2.1 pc = .ok (.invokevirtual idx, 3)) (hn : n = pc + 3) (hL : jLn y.1.cls idx ν.1) (hm : jMk ν 4) (hi : jIn ν) (hk : jsh k = (10 + ci, N)) (hc : ∃ q, jcls[ci]? = some q ∧ q.1 = ν.1.cls) (hN : 10 + ci < 99) (hcat : (st.map fun v => v.category).sum ≤ 8) (hlen : (lg_sl [.ref (jad G k), b1, b2, b3, b4]).length ≤ ν.2.2.1) (hnd : jnd [b1, b2, b3, b4] = true) (hR : d + 1 ≤ R.frames ∧ 40 * d + 40 ≤ R.locals) (hcs : cl ≤ R.cells ∧ sl ≤ R.slots)
    (kk : jN G ν d [.ref (jad G k), b1, b2, b3, b4] M (fun v M' => jX G y R cl sl E Z n l (jpush v st) M')) : jX G y R cl sl E Z pc l (b4 :: b3 :: b2 :: b1 :: .ref (jad G k) :: st) M := jr_callV (As := [b1, b2, b3, b4]) hd hn hL hm hi hk hc hN rfl rfl hcat hlen hnd hR hcs kk
theorem jr_cV4 {ν : jMD} {k idx ci N : Nat} {Q : Option Value → jMem → Prop} {b1 b2 b3 b4 : Value} (hd : decode y.2.1 pc = .ok (.invokevirtual idx, 3)) (hn : n = pc + 3) (hL : jLn y.1.cls idx ν.1) (hm : jMk ν 4) (hi : jIn ν) (hk : jsh k = (10 + ci, N)) (hc : ∃ q, jcls[ci]? = some q ∧ q.1 = ν.1.cls) (hN : 10 + ci < 99) (hcat : (st.map fun v => v.category).sum ≤ 8) (hlen : (lg_sl [.ref (jad G k), b1, b2, b3, b4]).length ≤ ν.2.2.1) (hnd : jnd [b1, b2, b3, b4] = true)
    (kk : jN G ν d [.ref (jad G k), b1, b2, b3, b4] M (fun v M' => jM G y (d + 1) n l (jpush v st) M' Q)) : jM G y (d + 1) pc l (b4 :: b3 :: b2 :: b1 :: .ref (jad G k) :: st) M Q := jr_callV (As := [b1, b2, b3, b4]) hd hn hL hm hi hk hc hN rfl rfl hcat hlen hnd ⟨Nat.le_refl _, Nat.le_refl _⟩ ⟨Nat.le_refl _, Nat.le_refl _⟩ kk
theorem jr_cS4 {ν : jMD} {idx : Nat} {Q : Option Value → jMem → Prop} {b1 b2 b3 b4 : Value} (hd : decode y.2.1 pc = .ok (.invokestatic idx, 3)) (hn : n = pc + 3) (hL : jLn y.1.cls idx ν.1) (hm : jMk ν 4) (hi : jSt ν) (hcat : (st.map fun v => v.category).sum ≤ 8) (hlen : (lg_sl [b1, b2, b3, b4]).length ≤ ν.2.2.1) (hnd : jnd [b1, b2, b3, b4] = true)
    (kk : jN G ν d [b1, b2, b3, b4] M (fun v M' => jM G y (d + 1) n l (jpush v st) M' Q)) : jM G y (d + 1) pc l (b4 :: b3 :: b2 :: b1 :: st) M Q := jr_callS (As := [b1, b2, b3, b4]) hd hn hL hm hi rfl rfl hcat hlen hnd ⟨Nat.le_refl _, Nat.le_refl _⟩ ⟨Nat.le_refl _, Nat.le_refl _⟩ kk
theorem jr_gV5 {ν : jMD} {k idx ci N : Nat} {b1 b2 b3 b4 b5 : Value} (hd : decode y.2.1 pc = .ok (.invokevirtual idx, 3)) (hn : n = pc + 3) (hL : jLn y.1.cls idx ν.1) (hm : jMk ν 5) (hi : jIn ν) (hk : jsh k = (10 + ci, N)) (hc : ∃ q, jcls[ci]? = some q ∧ q.1 = ν.1.cls) (hN : 10 + ci < 99) (hcat : (st.map fun v => v.category).sum ≤ 8) (hlen : (lg_sl [.ref (jad G k), b1, b2, b3, b4, b5]).length ≤ ν.2.2.1) (hnd : jnd [b1, b2, b3, b4, b5] = true) (hR : d + 1 ≤ R.frames ∧ 40 * d + 40 ≤ R.locals) (hcs : cl ≤ R.cells ∧ sl ≤ R.slots)
    (kk : jN G ν d [.ref (jad G k), b1, b2, b3, b4, b5] M (fun v M' => jX G y R cl sl E Z n l (jpush v st) M')) : jX G y R cl sl E Z pc l (b5 :: b4 :: b3 :: b2 :: b1 :: .ref (jad G k) :: st) M := jr_callV (As := [b1, b2, b3, b4, b5]) hd hn hL hm hi hk hc hN rfl rfl hcat hlen hnd hR hcs kk
theorem jr_cV5 {ν : jMD} {k idx ci N : Nat} {Q : Option Value → jMem → Prop} {b1 b2 b3 b4 b5 : Value} (hd : decode y.2.1 pc = .ok (.invokevirtual idx, 3)) (hn : n = pc + 3) (hL : jLn y.1.cls idx ν.1) (hm : jMk ν 5) (hi : jIn ν) (hk : jsh k = (10 + ci, N)) (hc : ∃ q, jcls[ci]? = some q ∧ q.1 = ν.1.cls) (hN : 10 + ci < 99) (hcat : (st.map fun v => v.category).sum ≤ 8) (hlen : (lg_sl [.ref (jad G k), b1, b2, b3, b4, b5]).length ≤ ν.2.2.1) (hnd : jnd [b1, b2, b3, b4, b5] = true)
    (kk : jN G ν d [.ref (jad G k), b1, b2, b3, b4, b5] M (fun v M' => jM G y (d + 1) n l (jpush v st) M' Q)) : jM G y (d + 1) pc l (b5 :: b4 :: b3 :: b2 :: b1 :: .ref (jad G k) :: st) M Q := jr_callV (As := [b1, b2, b3, b4, b5]) hd hn hL hm hi hk hc hN rfl rfl hcat hlen hnd ⟨Nat.le_refl _, Nat.le_refl _⟩ ⟨Nat.le_refl _, Nat.le_refl _⟩ kk
theorem jr_cS5 {ν : jMD} {idx : Nat} {Q : Option Value → jMem → Prop} {b1 b2 b3 b4 b5 : Value} (hd : decode y.2.1 pc = .ok (.invokestatic idx, 3)) (hn : n = pc + 3) (hL : jLn y.1.cls idx ν.1) (hm : jMk ν 5) (hi : jSt ν) (hcat : (st.map fun v => v.category).sum ≤ 8) (hlen : (lg_sl [b1, b2, b3, b4, b5]).length ≤ ν.2.2.1) (hnd : jnd [b1, b2, b3, b4, b5] = true)
    (kk : jN G ν d [b1, b2, b3, b4, b5] M (fun v M' => jM G y (d + 1) n l (jpush v st) M' Q)) : jM G y (d + 1) pc l (b5 :: b4 :: b3 :: b2 :: b1 :: st) M Q := jr_callS (As := [b1, b2, b3, b4, b5]) hd hn hL hm hi rfl rfl hcat hlen hnd ⟨Nat.le_refl _, Nat.le_refl _⟩ ⟨Nat.le_refl _, Nat.le_refl _⟩ kk
end JM
end
section
theorem wX2_8 : jFw 2 8 := ⟨_, rfl, rfl, by decide +kernel, ⟨tyX2, tyX2_ok⟩, nmX2⟩
theorem wX4_3 : jFw 4 3 := ⟨_, rfl, rfl, by decide +kernel, ⟨tyX4, tyX4_ok⟩, nmX4⟩
theorem wX3_3 : jFw 3 3 := ⟨_, rfl, rfl, by decide +kernel, ⟨tyX3, tyX3_ok⟩, nmX3⟩
theorem wX8_2 : jFw 8 2 := ⟨_, rfl, rfl, by decide +kernel, ⟨tyX8, tyX8_ok⟩, nmX8⟩
theorem wX8_8 : jFw 8 8 := ⟨_, rfl, rfl, by decide +kernel, ⟨tyX8, tyX8_ok⟩, nmX8⟩
theorem wX8_14 : jFw 8 14 := ⟨_, rfl, rfl, by decide +kernel, ⟨tyX8, tyX8_ok⟩, nmX8⟩
theorem wX8_26 : jFw 8 26 := ⟨_, rfl, rfl, by decide +kernel, ⟨tyX8, tyX8_ok⟩, nmX8⟩
end
section
/-! begun with the pasted family bt of the kit's laws/BITS.to-paste -/
def bt (x : Int32) (i : Nat) : Bool := x.toBitVec.getLsbD i
theorem b_ext {x y : Int32} (h : ∀ i, i < 32 → bt x i = bt y i) : x = y := Int32.toBitVec_inj.mp (BitVec.eq_of_getLsbD_eq (fun i hi => h i hi))
theorem b_or (x y : Int32) (i : Nat) : bt (x ||| y) i = (bt x i || bt y i) := by unfold bt; rw [Int32.toBitVec_or, BitVec.getLsbD_or]
theorem b_and (x y : Int32) (i : Nat) : bt (x &&& y) i = (bt x i && bt y i) := by unfold bt; rw [Int32.toBitVec_and, BitVec.getLsbD_and]
theorem b_xor (x y : Int32) (i : Nat) : bt (x ^^^ y) i = (bt x i ^^ bt y i) := by unfold bt; rw [Int32.toBitVec_xor, BitVec.getLsbD_xor]
theorem b_big {x : Int32} {i : Nat} (h : 32 ≤ i) : bt x i = false := BitVec.getLsbD_of_ge _ _ h
theorem b_255 (i : Nat) : bt 255 i = decide (i < 8) := by
  rcases Nat.lt_or_ge i 32 with h | h
  · exact (by decide +kernel : ∀ i, i < 32 → bt 255 i = decide (i < 8)) i h
  · rw [b_big h, decide_eq_false (by omega)]
theorem b_65535 (i : Nat) : bt 65535 i = decide (i < 16) := by
  rcases Nat.lt_or_ge i 32 with h | h
  · exact (by decide +kernel : ∀ i, i < 32 → bt 65535 i = decide (i < 16)) i h
  · rw [b_big h, decide_eq_false (by omega)]
theorem b_m1 : ∀ i, i < 32 → bt (-1) i = true := by decide +kernel
theorem b_0 (i : Nat) : bt 0 i = false := BitVec.getLsbD_zero
theorem s_l : ∀ n, n < 32 → ((nI n &&& 31).toBitVec.smod 32).toNat = n := by decide +kernel
theorem s_u : ∀ n, n < 32 → (((nI n).toUInt32 &&& Int32.toUInt32 31).toBitVec % 32).toNat = n := by decide +kernel
theorem b_shl (n : Nat) (hn : n < 32) (x : Int32) {i : Nat} (hi : i < 32) : bt (x <<< (nI n &&& 31)) i = (decide (n ≤ i) && bt x (i - n)) := by
  unfold bt
  rw [Int32.toBitVec_shiftLeft]
  show (x.toBitVec <<< ((nI n &&& 31).toBitVec.smod 32).toNat).getLsbD i = _
  rw [s_l n hn, BitVec.getLsbD_shiftLeft]
  rcases Nat.lt_or_ge i n with h | h
  · simp [h, Nat.not_le.mpr h]
  · simp [hi, h, Nat.not_lt.mpr h]
theorem b_ushr (n : Nat) (hn : n < 32) (x : Int32) (i : Nat) : bt ((x.toUInt32 >>> ((nI n).toUInt32 &&& Int32.toUInt32 31)).toInt32) i = bt x (n + i) := by
  show (x.toUInt32 >>> ((nI n).toUInt32 &&& Int32.toUInt32 31)).toBitVec.getLsbD i = x.toUInt32.toBitVec.getLsbD (n + i)
  rw [UInt32.toBitVec_shiftRight]
  show (x.toUInt32.toBitVec >>> (((nI n).toUInt32 &&& Int32.toUInt32 31).toBitVec % 32).toNat).getLsbD i = _
  rw [s_u n hn, BitVec.getLsbD_ushiftRight]
theorem b_sshr (n : Nat) (hn : n < 32) (x : Int32) {i : Nat} (hi : i < 32) : bt (x >>> (nI n &&& 31)) i = if n + i < 32 then bt x (n + i) else bt x 31 := by
  unfold bt
  rw [Int32.toBitVec_shiftRight]
  show (x.toBitVec.sshiftRight ((nI n &&& 31).toBitVec.smod 32).toNat).getLsbD i = _
  rw [s_l n hn, BitVec.getLsbD_sshiftRight, BitVec.msb_eq_getLsbD_last]
  simp [hi]
-- sets of bits held as integers
theorem jI_nat (n : Nat) : jI (n : Int) = nI n := Int32.ofInt_eq_ofNat
abbrev jbit (s v : Int) : Prop := jand (jshr s v) 1 ≠ 0
theorem bt1 : ∀ i, i < 32 → bt 1 i = decide (i = 0) := by decide +kernel
theorem and1_bt (v : Int32) : v &&& 1 = 0 ↔ bt v 0 = false := by
  constructor
  · intro h
    have h2 : bt (v &&& 1) 0 = bt 0 0 := by rw [h]
    rw [b_and, b_0, bt1 0 (by omega)] at h2
    simpa using h2
  · intro h
    apply b_ext
    intro i hi
    rw [b_and, b_0, bt1 i hi]
    by_cases e : i = 0
    · subst e; simp [h]
    · simp [e]
theorem jI_shr (s : Int) {n : Nat} : jI (jshr s n) = jI s >>> (nI n &&& 31) := by unfold jshr; rw [jI_of, jI_nat]
theorem jI_and (s z : Int) : jI (jand s z) = jI s &&& jI z := by unfold jand; rw [jI_of]
theorem jI_or (s z : Int) : jI (jor s z) = jI s ||| jI z := by unfold jor; rw [jI_of]
theorem jI_xor (s z : Int) : jI (jxor s z) = jI s ^^^ jI z := by unfold jxor; rw [jI_of]
theorem jI_shl (s : Int) {n : Nat} : jI (jshl s n) = jI s <<< (nI n &&& 31) := by unfold jshl; rw [jI_of, jI_nat]
theorem jand0 (x z : Int) : jand x z = 0 ↔ jI x &&& jI z = 0 := by
  unfold jand
  exact ⟨fun h => Int32.toInt_inj.mp h, fun h => by rw [h]; rfl⟩
theorem jbit_bt {s w : Int} (h0 : 0 ≤ w) (h1 : w < 32) : jbit s w ↔ bt (jI s) w.toNat = true := by
  obtain ⟨n, rfl⟩ : ∃ n : Nat, w = n := ⟨w.toNat, by omega⟩
  have hn : n < 32 := by omega
  have z : jand (jshr s n) 1 = 0 ↔ bt (jI s) n = false := by
    rw [jand0, jI_shr, show jI 1 = 1 from rfl, and1_bt, b_sshr n hn (jI s) (i := 0) (by omega), if_pos (by omega)]
    rfl
  show ¬ (jand (jshr s n) 1 = 0) ↔ _
  rw [z]
  simp
theorem bt_one {o j : Nat} (ho : o < 32) (hj : j < 32) : bt (jI (jshl 1 o)) j = decide (j = o) := by
  rw [jI_shl, show jI 1 = 1 from rfl, b_shl o ho 1 hj, bt1 (j - o) (by omega)]
  by_cases e : j = o
  · subst e; simp
  · by_cases q : o ≤ j
    · have : j - o ≠ 0 := by omega
      simp [e, this]
    · simp [e, q]
theorem jbit_xor {s o w : Int} (o0 : 0 ≤ o) (o1 : o < 32) (h0 : 0 ≤ w) (h1 : w < 32) : jbit (jxor s (jshl 1 o)) w ↔ ((jbit s w ∧ ¬ w = o) ∨ (¬ jbit s w ∧ w = o)) := by
  obtain ⟨a, rfl⟩ : ∃ n : Nat, o = n := ⟨o.toNat, by omega⟩
  obtain ⟨n, rfl⟩ : ∃ n : Nat, w = n := ⟨w.toNat, by omega⟩
  rw [jbit_bt h0 h1, jbit_bt (s := s) h0 h1, jI_xor, b_xor]
  show (bt (jI s) n ^^ bt (jI (jshl 1 a)) n) = true ↔ ((bt (jI s) n = true ∧ ¬ ((n : Int) = a)) ∨ (¬ bt (jI s) n = true ∧ (n : Int) = a))
  rw [bt_one (by omega) (by omega)]
  by_cases e : n = a
  · subst e; cases bt (jI s) n <;> simp
  · have e2 : ¬ ((n : Int) = a) := by omega
    cases bt (jI s) n <;> simp [e, e2]
theorem jbit_or {s o w : Int} (o0 : 0 ≤ o) (o1 : o < 32) (h0 : 0 ≤ w) (h1 : w < 32) : jbit (jor s (jshl 1 o)) w ↔ (jbit s w ∨ w = o) := by
  obtain ⟨a, rfl⟩ : ∃ n : Nat, o = n := ⟨o.toNat, by omega⟩
  obtain ⟨n, rfl⟩ : ∃ n : Nat, w = n := ⟨w.toNat, by omega⟩
  rw [jbit_bt h0 h1, jbit_bt (s := s) h0 h1, jI_or, b_or]
  show (bt (jI s) n || bt (jI (jshl 1 a)) n) = true ↔ (bt (jI s) n = true ∨ (n : Int) = a)
  rw [bt_one (by omega) (by omega)]
  by_cases e : n = a
  · subst e; cases bt (jI s) n <;> simp
  · have e2 : ¬ ((n : Int) = a) := by omega
    cases bt (jI s) n <;> simp [e, e2]
theorem jbit_andn {s o w : Int} (o0 : 0 ≤ o) (o1 : o < 32) (h0 : 0 ≤ w) (h1 : w < 32) : jbit (jand s (jxor (jshl 1 o) (-1))) w ↔ (jbit s w ∧ ¬ w = o) := by
  obtain ⟨a, rfl⟩ : ∃ n : Nat, o = n := ⟨o.toNat, by omega⟩
  obtain ⟨n, rfl⟩ : ∃ n : Nat, w = n := ⟨w.toNat, by omega⟩
  rw [jbit_bt h0 h1, jbit_bt (s := s) h0 h1, jI_and, b_and, jI_xor, b_xor]
  show (bt (jI s) n && (bt (jI (jshl 1 a)) n ^^ bt (-1) n)) = true ↔ (bt (jI s) n = true ∧ ¬ (n : Int) = a)
  rw [bt_one (by omega) (by omega), b_m1 n (by omega)]
  by_cases e : n = a
  · subst e; cases bt (jI s) n <;> simp
  · have e2 : ¬ ((n : Int) = a) := by omega
    cases bt (jI s) n <;> simp [e, e2]
theorem jbit_0 {w : Int} (h0 : 0 ≤ w) (h1 : w < 32) : ¬ jbit 0 w := by
  rw [jbit_bt h0 h1, show jI 0 = 0 from rfl, b_0]
  simp
theorem jand_none {a b : Int} : jand a b = 0 ↔ ∀ w, 0 ≤ w → w < 32 → ¬ (jbit a w ∧ jbit b w) := by
  rw [jand0]
  constructor
  · intro h w h0 h1 ⟨ha, hb⟩
    rw [jbit_bt h0 h1] at ha hb
    have : bt (jI a &&& jI b) w.toNat = bt 0 w.toNat := by rw [h]
    rw [b_and, ha, hb, b_0] at this
    simp at this
  · intro h
    apply b_ext
    intro i hi
    rw [b_and, b_0]
    have := h (i : Int) (by omega) (by omega)
    rw [jbit_bt (by omega) (by omega), jbit_bt (by omega) (by omega)] at this
    have e : ((i : Int)).toNat = i := by omega
    rw [e] at this
    cases h1 : bt (jI a) i <;> cases h2 : bt (jI b) i <;> simp_all
theorem bt_small {v : Int32} (h : ∀ j, 10 ≤ j → j < 32 → bt v j = false) : 0 ≤ v.toInt ∧ v.toInt < 1024 := by
  have h1 : v.toBitVec.toNat < 2 ^ 10 := by
    apply Nat.lt_pow_two_of_testBit
    intro i hi
    rcases Nat.lt_or_ge i 32 with q | q
    · exact h i hi q
    · exact b_big (x := v) q
  have h2 : v.toInt = (v.toBitVec.toNat : Int) := by
    rw [← Int32.toInt_toBitVec, BitVec.toInt_eq_toNat_of_lt (by omega)]
  rw [h2]
  omega
theorem small_bt {s : Int} (h0 : 0 ≤ s) (h1 : s < 1024) : ∀ j, 10 ≤ j → j < 32 → bt (jI s) j = false := by
  intro j hj hj2
  obtain ⟨n, rfl⟩ : ∃ n : Nat, s = n := ⟨s.toNat, by omega⟩
  rw [jI_nat]
  show (nI n).toBitVec.getLsbD j = false
  have e : (nI n).toBitVec.toNat = n := by
    show (BitVec.ofNat 32 n).toNat = n
    rw [BitVec.toNat_ofNat]
    omega
  rw [← BitVec.testBit_toNat, e]
  exact Nat.testBit_lt_two_pow (Nat.lt_of_lt_of_le (by omega : n < 2 ^ 10) (Nat.pow_le_pow_right (by omega) hj))
theorem jxor_small {s o : Int} (h0 : 0 ≤ s) (h1 : s < 1024) (o0 : 0 ≤ o) (o1 : o < 10) : 0 ≤ jxor s (jshl 1 o) ∧ jxor s (jshl 1 o) < 1024 := by
  obtain ⟨a, rfl⟩ : ∃ n : Nat, o = n := ⟨o.toNat, by omega⟩
  have := bt_small (v := jI s ^^^ jI (jshl 1 a)) (fun j hj hj2 => by
    rw [b_xor, small_bt h0 h1 j hj hj2, bt_one (by omega) hj2]
    have : ¬ j = a := by omega
    simp [this])
  exact this
theorem jor_small {s o : Int} (h0 : 0 ≤ s) (h1 : s < 1024) (o0 : 0 ≤ o) (o1 : o < 10) : 0 ≤ jor s (jshl 1 o) ∧ jor s (jshl 1 o) < 1024 := by
  obtain ⟨a, rfl⟩ : ∃ n : Nat, o = n := ⟨o.toNat, by omega⟩
  have := bt_small (v := jI s ||| jI (jshl 1 a)) (fun j hj hj2 => by
    rw [b_or, small_bt h0 h1 j hj hj2, bt_one (by omega) hj2]
    have : ¬ j = a := by omega
    simp [this])
  exact this
theorem jshr_eq {s p : Int} (hs : jR s) (h0 : 0 ≤ p) (h1 : p < 32) : jshr s p = s / 2 ^ p.toNat := by
  obtain ⟨a, rfl⟩ : ∃ n : Nat, p = n := ⟨p.toNat, by omega⟩
  unfold jshr
  rw [jI_nat, pk_shr _ _ a (s_l a (by omega)), jI_toInt hs, Int.shiftRight_eq_div_pow]
  rfl
theorem jshl_nat : ∀ n : Nat, n < 11 → jshl 1 (n : Int) = 2 ^ n := by decide +kernel
theorem jbit_hi {s w : Int} (hs : 0 ≤ s) (h1 : s < 1024) (w0 : 0 ≤ w) (w1 : w < 32) (hw : s < 2 ^ w.toNat) : ¬ jbit s w := by
  intro h
  apply h
  rw [jshr_eq (by omega) w0 w1, Int.ediv_eq_zero_of_lt hs hw]
  decide
theorem jset_ok {s p : Int} (hp : 0 ≤ p ∧ p ≤ 10) (hs : jR s) : (0 ≤ s ∧ jshr s p = 0) ↔ (0 ≤ s ∧ s ≤ jshl 1 p - 1) := by
  obtain ⟨a, rfl⟩ : ∃ n : Nat, p = n := ⟨p.toNat, by omega⟩
  rw [jshr_eq hs (by omega) (by omega), jshl_nat a (by omega), show ((a : Int)).toNat = a by omega]
  have hpos : (0 : Int) < 2 ^ a := Int.pow_pos (by decide)
  constructor
  · rintro ⟨h0, h⟩
    refine ⟨h0, ?_⟩
    have := Int.lt_mul_of_ediv_lt hpos (show s / 2 ^ a < 1 by omega)
    omega
  · rintro ⟨h0, h⟩
    exact ⟨h0, Int.ediv_eq_zero_of_lt h0 (by omega)⟩
theorem jset_bits {s p : Int} (hp : 0 ≤ p ∧ p ≤ 10) (h0 : 0 ≤ s) (h : s ≤ jshl 1 p - 1) : s < 1024 ∧ ∀ w, p ≤ w → w < 10 → ¬ jbit s w := by
  obtain ⟨a, rfl⟩ : ∃ n : Nat, p = n := ⟨p.toNat, by omega⟩
  rw [jshl_nat a (by omega)] at h
  have h1 : (2 : Int) ^ a ≤ 2 ^ 10 := by
    have : (2 : Nat) ^ a ≤ 2 ^ 10 := Nat.pow_le_pow_right (by omega) (by omega)
    exact_mod_cast this
  have h2 : s < 1024 := by
    have : (2 : Int) ^ 10 = 1024 := by decide
    omega
  refine ⟨h2, fun w w0 w1 => jbit_hi h0 h2 (by omega) (by omega) ?_⟩
  have : (2 : Nat) ^ a ≤ 2 ^ w.toNat := Nat.pow_le_pow_right (by omega) (by omega)
  have : (2 : Int) ^ a ≤ 2 ^ w.toNat := by exact_mod_cast this
  omega
end
section
theorem jand_R (x z : Int) : jR (jand x z) := jI_R _
theorem jshr_R (x z : Int) : jR (jshr x z) := jI_R _
theorem jand1 (x : Int) : jand x 1 = 0 ∨ jand x 1 = 1 := by
  have h : ∀ v : BitVec 32, v &&& 1#32 = 0#32 ∨ v &&& 1#32 = 1#32 := fun v => by
    have e : ∀ i, (hi : i < 32) → i ≠ 0 → (v &&& 1#32).getLsbD i = false := fun i hi h0 => by
      simp [BitVec.getLsbD_and, BitVec.getLsbD_one, h0]
    cases hb : (v &&& 1#32).getLsbD 0 with
    | false =>
      left
      apply BitVec.eq_of_getLsbD_eq
      intro i hi
      by_cases h0 : i = 0
      · subst h0; rw [hb]; rfl
      · rw [e i hi h0]; simp
    | true =>
      right
      apply BitVec.eq_of_getLsbD_eq
      intro i hi
      by_cases h0 : i = 0
      · subst h0; rw [hb]; rfl
      · rw [e i hi h0]; simp [BitVec.getLsbD_one, h0]
  have e : (jI x &&& jI 1).toBitVec = (jI x).toBitVec &&& 1#32 := rfl
  unfold jand
  rcases h (jI x).toBitVec with q | q
  · left
    rw [← Int32.toInt_toBitVec, e, q]; rfl
  · right
    rw [← Int32.toInt_toBitVec, e, q]; rfl
theorem jbit1 {s v : Int} : jbit s v ↔ jand (jshr s v) 1 = 1 := by
  unfold jbit
  have := jand1 (jshr s v)
  omega
theorem c_isWithin {G : jG} {d : Nat} {M : jMem} {Q : Option Value → jMem → Prop} {v a b : Int} (hv : jR v) (ha : jR a) (hb : jR b) (h1 : a ≤ v → v ≤ b → Q (some (.int (jI 1))) M) (h0 : ¬ (a ≤ v ∧ v ≤ b) → Q (some (.int (jI 0))) M) : jN G mX7_isWithin (d) [.int (jI v), .int (jI a), .int (jI b)] M Q := by
  show jM G mX7_isWithin (d) 0 [.int (jI v), .int (jI a), .int (jI b)] [] M Q
  refine jr_iload_n (n := 1) dX7_isWithin_0 rfl rfl ?_
  refine jr_iload_n (n := 2) dX7_isWithin_1 rfl rfl ?_
  refine jr_icmp_lt (n := 5) (t := 14) dX7_isWithin_2 (by decide) rfl (by omega) (by omega) (fun b2 => ?_) (fun b2 => ?_)
  · refine jr_iconst (n := 15) dX7_isWithin_14 rfl ?_
    refine jr_zret dX7_isWithin_15 rfl (by decide) ?_
    first | exact h1 (by omega) (by omega) | exact h0 (by omega)
  · refine jr_iload_n (n := 6) dX7_isWithin_5 rfl rfl ?_
    refine jr_iload_n (n := 7) dX7_isWithin_6 rfl rfl ?_
    refine jr_icmp_gt (n := 10) (t := 14) dX7_isWithin_7 (by decide) rfl (by omega) (by omega) (fun b7 => ?_) (fun b7 => ?_)
    · refine jr_iconst (n := 15) dX7_isWithin_14 rfl ?_
      refine jr_zret dX7_isWithin_15 rfl (by decide) ?_
      first | exact h1 (by omega) (by omega) | exact h0 (by omega)
    · refine jr_iconst (n := 11) dX7_isWithin_10 rfl ?_
      refine jr_goto (t := 15) dX7_isWithin_11 (by decide) ?_
      refine jr_zret dX7_isWithin_15 rfl (by decide) ?_
      first | exact h1 (by omega) (by omega) | exact h0 (by omega)

theorem e_isIn {G : jG} {d : Nat} {M : jMem} {Q : Option Value → jMem → Prop} {v a b : Int} (hv : jR v) (ha : jR a) (hb : jR b) (h1 : a ≤ v → v ≤ b → Q (some (.int (jI 1))) M) (h0 : ¬ (a ≤ v ∧ v ≤ b) → Q (some (.int (jI 0))) M) : jN G mX8_isIn (d) [.int (jI v), .int (jI a), .int (jI b)] M Q := by
  show jM G mX8_isIn (d) 0 [.int (jI v), .int (jI a), .int (jI b)] [] M Q
  refine jr_iload_n (n := 1) dX8_isIn_0 rfl rfl ?_
  refine jr_iload_n (n := 2) dX8_isIn_1 rfl rfl ?_
  refine jr_icmp_lt (n := 5) (t := 14) dX8_isIn_2 (by decide) rfl (by omega) (by omega) (fun b2 => ?_) (fun b2 => ?_)
  · refine jr_iconst (n := 15) dX8_isIn_14 rfl ?_
    refine jr_zret dX8_isIn_15 rfl (by decide) ?_
    first | exact h1 (by omega) (by omega) | exact h0 (by omega)
  · refine jr_iload_n (n := 6) dX8_isIn_5 rfl rfl ?_
    refine jr_iload_n (n := 7) dX8_isIn_6 rfl rfl ?_
    refine jr_icmp_gt (n := 10) (t := 14) dX8_isIn_7 (by decide) rfl (by omega) (by omega) (fun b7 => ?_) (fun b7 => ?_)
    · refine jr_iconst (n := 15) dX8_isIn_14 rfl ?_
      refine jr_zret dX8_isIn_15 rfl (by decide) ?_
      first | exact h1 (by omega) (by omega) | exact h0 (by omega)
    · refine jr_iconst (n := 11) dX8_isIn_10 rfl ?_
      refine jr_goto (t := 15) dX8_isIn_11 (by decide) ?_
      refine jr_zret dX8_isIn_15 rfl (by decide) ?_
      first | exact h1 (by omega) (by omega) | exact h0 (by omega)

theorem c_isCourt {G : jG} {d : Nat} {M : jMem} {Q : Option Value → jMem → Prop} {v : Int} (hv : jR v) (h1 : 0 ≤ v → v ≤ 2 → Q (some (.int (jI 1))) M) (h0 : ¬ (0 ≤ v ∧ v ≤ 2) → Q (some (.int (jI 0))) M) : jN G mX7_isCourt (d + 1) [.int (jI v)] M Q := by
  show jM G mX7_isCourt (d + 1) 0 [.int (jI v)] [] M Q
  refine jr_iload_n (n := 1) dX7_isCourt_0 rfl rfl ?_
  refine jr_iconst (n := 2) dX7_isCourt_1 rfl ?_
  refine jr_iconst (n := 3) dX7_isCourt_2 rfl ?_
  refine jr_cS3 (n := 6) (ν := mX7_isWithin) dX7_isCourt_3 rfl lX7_66 kX7_isWithin iX7_isWithin (Nat.le_of_ble_eq_true rfl) (Nat.le_of_ble_eq_true rfl) rfl ?_
  refine c_isWithin (by omega) (by omega) (by omega) (fun b3 b3b => ?_) (fun b3 => ?_)
  · refine jr_zret dX7_isCourt_6 rfl (by decide) ?_
    first | exact h1 (by omega) (by omega) | exact h0 (by omega)
  · refine jr_zret dX7_isCourt_6 rfl (by decide) ?_
    first | exact h1 (by omega) (by omega) | exact h0 (by omega)

theorem c_isQuarter {G : jG} {d : Nat} {M : jMem} {Q : Option Value → jMem → Prop} {v : Int} (hv : jR v) (h1 : 0 ≤ v → v ≤ 48 → Q (some (.int (jI 1))) M) (h0 : ¬ (0 ≤ v ∧ v ≤ 48) → Q (some (.int (jI 0))) M) : jN G mX7_isQuarter (d + 1) [.int (jI v)] M Q := by
  show jM G mX7_isQuarter (d + 1) 0 [.int (jI v)] [] M Q
  refine jr_iload_n (n := 1) dX7_isQuarter_0 rfl rfl ?_
  refine jr_iconst (n := 2) dX7_isQuarter_1 rfl ?_
  refine jr_bipush (n := 4) dX7_isQuarter_2 rfl (by decide) ?_
  refine jr_cS3 (n := 7) (ν := mX7_isWithin) dX7_isQuarter_4 rfl lX7_66 kX7_isWithin iX7_isWithin (Nat.le_of_ble_eq_true rfl) (Nat.le_of_ble_eq_true rfl) rfl ?_
  refine c_isWithin (by omega) (by omega) (by omega) (fun b4 b4b => ?_) (fun b4 => ?_)
  · refine jr_zret dX7_isQuarter_7 rfl (by decide) ?_
    first | exact h1 (by omega) (by omega) | exact h0 (by omega)
  · refine jr_zret dX7_isQuarter_7 rfl (by decide) ?_
    first | exact h1 (by omega) (by omega) | exact h0 (by omega)

theorem c_isSheet {G : jG} {d : Nat} {M : jMem} {Q : Option Value → jMem → Prop} {v : Int} (hv : jR v) (h1 : 0 ≤ v → v ≤ 1 → Q (some (.int (jI 1))) M) (h0 : ¬ (0 ≤ v ∧ v ≤ 1) → Q (some (.int (jI 0))) M) : jN G mX7_isSheet (d + 1) [.int (jI v)] M Q := by
  show jM G mX7_isSheet (d + 1) 0 [.int (jI v)] [] M Q
  refine jr_iload_n (n := 1) dX7_isSheet_0 rfl rfl ?_
  refine jr_iconst (n := 2) dX7_isSheet_1 rfl ?_
  refine jr_iconst (n := 3) dX7_isSheet_2 rfl ?_
  refine jr_cS3 (n := 6) (ν := mX7_isWithin) dX7_isSheet_3 rfl lX7_66 kX7_isWithin iX7_isWithin (Nat.le_of_ble_eq_true rfl) (Nat.le_of_ble_eq_true rfl) rfl ?_
  refine c_isWithin (by omega) (by omega) (by omega) (fun b3 b3b => ?_) (fun b3 => ?_)
  · refine jr_zret dX7_isSheet_6 rfl (by decide) ?_
    first | exact h1 (by omega) (by omega) | exact h0 (by omega)
  · refine jr_zret dX7_isSheet_6 rfl (by decide) ?_
    first | exact h1 (by omega) (by omega) | exact h0 (by omega)

theorem e_isCourt {G : jG} {d : Nat} {M : jMem} {Q : Option Value → jMem → Prop} {v : Int} (hv : jR v) (h1 : 0 ≤ v → v ≤ 2 → Q (some (.int (jI 1))) M) (h0 : ¬ (0 ≤ v ∧ v ≤ 2) → Q (some (.int (jI 0))) M) : jN G mX8_isCourt (d + 1) [.int (jI v)] M Q := by
  show jM G mX8_isCourt (d + 1) 0 [.int (jI v)] [] M Q
  refine jr_iload_n (n := 1) dX8_isCourt_0 rfl rfl ?_
  refine jr_iconst (n := 2) dX8_isCourt_1 rfl ?_
  refine jr_iconst (n := 3) dX8_isCourt_2 rfl ?_
  refine jr_cS3 (n := 6) (ν := mX8_isIn) dX8_isCourt_3 rfl lX8_92 kX8_isIn iX8_isIn (Nat.le_of_ble_eq_true rfl) (Nat.le_of_ble_eq_true rfl) rfl ?_
  refine e_isIn (by omega) (by omega) (by omega) (fun b3 b3b => ?_) (fun b3 => ?_)
  · refine jr_zret dX8_isCourt_6 rfl (by decide) ?_
    first | exact h1 (by omega) (by omega) | exact h0 (by omega)
  · refine jr_zret dX8_isCourt_6 rfl (by decide) ?_
    first | exact h1 (by omega) (by omega) | exact h0 (by omega)

theorem e_isSheet {G : jG} {d : Nat} {M : jMem} {Q : Option Value → jMem → Prop} {v : Int} (hv : jR v) (h1 : 0 ≤ v → v ≤ 1 → Q (some (.int (jI 1))) M) (h0 : ¬ (0 ≤ v ∧ v ≤ 1) → Q (some (.int (jI 0))) M) : jN G mX8_isSheet (d + 1) [.int (jI v)] M Q := by
  show jM G mX8_isSheet (d + 1) 0 [.int (jI v)] [] M Q
  refine jr_iload_n (n := 1) dX8_isSheet_0 rfl rfl ?_
  refine jr_iconst (n := 2) dX8_isSheet_1 rfl ?_
  refine jr_iconst (n := 3) dX8_isSheet_2 rfl ?_
  refine jr_cS3 (n := 6) (ν := mX8_isIn) dX8_isSheet_3 rfl lX8_92 kX8_isIn iX8_isIn (Nat.le_of_ble_eq_true rfl) (Nat.le_of_ble_eq_true rfl) rfl ?_
  refine e_isIn (by omega) (by omega) (by omega) (fun b3 b3b => ?_) (fun b3 => ?_)
  · refine jr_zret dX8_isSheet_6 rfl (by decide) ?_
    first | exact h1 (by omega) (by omega) | exact h0 (by omega)
  · refine jr_zret dX8_isSheet_6 rfl (by decide) ?_
    first | exact h1 (by omega) (by omega) | exact h0 (by omega)

theorem c_hasC {G : jG} {d : Nat} {M : jMem} {Q : Option Value → jMem → Prop} {v : Int} (hv : jR v) (hs : 0 ≤ M 1 8 ∧ M 1 8 ≤ 100) (h1 : 0 ≤ v → v < M 1 8 → Q (some (.int (jI 1))) M) (h0 : ¬ (0 ≤ v ∧ v < M 1 8) → Q (some (.int (jI 0))) M) : jN G mX2_has (d) [.ref (jad G 1), .int (jI v)] M Q := by
  show jM G mX2_has (d) 0 [.ref (jad G 1), .int (jI v)] [] M Q
  refine jr_iload_n (n := 1) dX2_has_0 rfl rfl ?_
  refine jr_if_lt (n := 4) (t := 16) dX2_has_1 (by decide) rfl (by omega) (fun b1 => ?_) (fun b1 => ?_)
  · refine jr_iconst (n := 17) dX2_has_16 rfl ?_
    refine jr_zret dX2_has_17 rfl (by decide) ?_
    first | exact h1 (by omega) (by omega) | exact h0 (by omega)
  · refine jr_iload_n (n := 5) dX2_has_4 rfl rfl ?_
    refine jr_aload_n (n := 6) dX2_has_5 rfl rfl ?_
    refine jr_getI (n := 9) (i := 8) rfl dX2_has_6 rfl fX2_36 rfl (by decide) (by decide) rfl ?_
    refine jr_icmp_ge (n := 12) (t := 16) dX2_has_9 (by decide) rfl (by omega) (by omega) (fun b9 => ?_) (fun b9 => ?_)
    · refine jr_iconst (n := 17) dX2_has_16 rfl ?_
      refine jr_zret dX2_has_17 rfl (by decide) ?_
      first | exact h1 (by omega) (by omega) | exact h0 (by omega)
    · refine jr_iconst (n := 13) dX2_has_12 rfl ?_
      refine jr_goto (t := 17) dX2_has_13 (by decide) ?_
      refine jr_zret dX2_has_17 rfl (by decide) ?_
      first | exact h1 (by omega) (by omega) | exact h0 (by omega)

theorem c_hasW {G : jG} {d : Nat} {M : jMem} {Q : Option Value → jMem → Prop} {v : Int} (hv : jR v) (hs : 0 ≤ M 2 3 ∧ M 2 3 ≤ 100) (h1 : 0 ≤ v → v < M 2 3 → Q (some (.int (jI 1))) M) (h0 : ¬ (0 ≤ v ∧ v < M 2 3) → Q (some (.int (jI 0))) M) : jN G mX4_has (d) [.ref (jad G 2), .int (jI v)] M Q := by
  show jM G mX4_has (d) 0 [.ref (jad G 2), .int (jI v)] [] M Q
  refine jr_iload_n (n := 1) dX4_has_0 rfl rfl ?_
  refine jr_if_lt (n := 4) (t := 16) dX4_has_1 (by decide) rfl (by omega) (fun b1 => ?_) (fun b1 => ?_)
  · refine jr_iconst (n := 17) dX4_has_16 rfl ?_
    refine jr_zret dX4_has_17 rfl (by decide) ?_
    first | exact h1 (by omega) (by omega) | exact h0 (by omega)
  · refine jr_iload_n (n := 5) dX4_has_4 rfl rfl ?_
    refine jr_aload_n (n := 6) dX4_has_5 rfl rfl ?_
    refine jr_getI (n := 9) (i := 3) rfl dX4_has_6 rfl fX4_21 rfl (by decide) (by decide) rfl ?_
    refine jr_icmp_ge (n := 12) (t := 16) dX4_has_9 (by decide) rfl (by omega) (by omega) (fun b9 => ?_) (fun b9 => ?_)
    · refine jr_iconst (n := 17) dX4_has_16 rfl ?_
      refine jr_zret dX4_has_17 rfl (by decide) ?_
      first | exact h1 (by omega) (by omega) | exact h0 (by omega)
    · refine jr_iconst (n := 13) dX4_has_12 rfl ?_
      refine jr_goto (t := 17) dX4_has_13 (by decide) ?_
      refine jr_zret dX4_has_17 rfl (by decide) ?_
      first | exact h1 (by omega) (by omega) | exact h0 (by omega)

theorem e_isCase {G : jG} {d : Nat} {M : jMem} {Q : Option Value → jMem → Prop} {v : Int} (hv : jR v) (hs : 0 ≤ M 8 2 ∧ M 8 2 ≤ 100) (h1 : 0 ≤ v → v < M 8 2 → Q (some (.int (jI 1))) M) (h0 : ¬ (0 ≤ v ∧ v < M 8 2) → Q (some (.int (jI 0))) M) : jN G mX8_isCase (d + 1) [.ref (jad G 8), .int (jI v)] M Q := by
  show jM G mX8_isCase (d + 1) 0 [.ref (jad G 8), .int (jI v)] [] M Q
  refine jr_iload_n (n := 1) dX8_isCase_0 rfl rfl ?_
  refine jr_iconst (n := 2) dX8_isCase_1 rfl ?_
  refine jr_aload_n (n := 3) dX8_isCase_2 rfl rfl ?_
  refine jr_getI (n := 6) (i := 2) rfl dX8_isCase_3 rfl fX8_96 rfl (by decide) (by decide) rfl ?_
  refine jr_iconst (n := 7) dX8_isCase_6 rfl ?_
  refine jr_isub (n := 8) dX8_isCase_7 rfl ?_
  refine jr_cS3 (n := 11) (ν := mX8_isIn) dX8_isCase_8 rfl lX8_92 kX8_isIn iX8_isIn (Nat.le_of_ble_eq_true rfl) (Nat.le_of_ble_eq_true rfl) rfl ?_
  refine e_isIn (by omega) (by omega) (by omega) (fun b8 b8b => ?_) (fun b8 => ?_)
  · refine jr_zret dX8_isCase_11 rfl (by decide) ?_
    first | exact h1 (by omega) (by omega) | exact h0 (by omega)
  · refine jr_zret dX8_isCase_11 rfl (by decide) ?_
    first | exact h1 (by omega) (by omega) | exact h0 (by omega)

theorem e_isWitness {G : jG} {d : Nat} {M : jMem} {Q : Option Value → jMem → Prop} {v : Int} (hv : jR v) (hs : 0 ≤ M 8 8 ∧ M 8 8 ≤ 100) (h1 : 0 ≤ v → v < M 8 8 → Q (some (.int (jI 1))) M) (h0 : ¬ (0 ≤ v ∧ v < M 8 8) → Q (some (.int (jI 0))) M) : jN G mX8_isWitness (d + 1) [.ref (jad G 8), .int (jI v)] M Q := by
  show jM G mX8_isWitness (d + 1) 0 [.ref (jad G 8), .int (jI v)] [] M Q
  refine jr_iload_n (n := 1) dX8_isWitness_0 rfl rfl ?_
  refine jr_iconst (n := 2) dX8_isWitness_1 rfl ?_
  refine jr_aload_n (n := 3) dX8_isWitness_2 rfl rfl ?_
  refine jr_getI (n := 6) (i := 8) rfl dX8_isWitness_3 rfl fX8_100 rfl (by decide) (by decide) rfl ?_
  refine jr_iconst (n := 7) dX8_isWitness_6 rfl ?_
  refine jr_isub (n := 8) dX8_isWitness_7 rfl ?_
  refine jr_cS3 (n := 11) (ν := mX8_isIn) dX8_isWitness_8 rfl lX8_92 kX8_isIn iX8_isIn (Nat.le_of_ble_eq_true rfl) (Nat.le_of_ble_eq_true rfl) rfl ?_
  refine e_isIn (by omega) (by omega) (by omega) (fun b8 b8b => ?_) (fun b8 => ?_)
  · refine jr_zret dX8_isWitness_11 rfl (by decide) ?_
    first | exact h1 (by omega) (by omega) | exact h0 (by omega)
  · refine jr_zret dX8_isWitness_11 rfl (by decide) ?_
    first | exact h1 (by omega) (by omega) | exact h0 (by omega)

theorem c_holds {G : jG} {d : Nat} {M : jMem} {Q : Option Value → jMem → Prop} {s v : Int} (h1 : jbit s v → Q (some (.int (jI 1))) M) (h0 : ¬ jbit s v → Q (some (.int (jI 0))) M) : jN G mX7_holds (d) [.int (jI s), .int (jI v)] M Q := by
  show jM G mX7_holds (d) 0 [.int (jI s), .int (jI v)] [] M Q
  refine jr_iload_n (n := 1) dX7_holds_0 rfl rfl ?_
  refine jr_iload_n (n := 2) dX7_holds_1 rfl rfl ?_
  refine jr_ishr (n := 3) dX7_holds_2 rfl ?_
  refine jr_iconst (n := 4) dX7_holds_3 rfl ?_
  refine jr_iand (n := 5) dX7_holds_4 rfl ?_
  refine jr_if_eq (n := 8) (t := 12) dX7_holds_5 (by decide) rfl (jand_R _ _) (fun b5 => ?_) (fun b5 => ?_)
  · refine jr_iconst (n := 13) dX7_holds_12 rfl ?_
    refine jr_zret dX7_holds_13 rfl (by decide) ?_
    first | exact h1 (by unfold jbit; omega) | exact h0 (by unfold jbit; omega)
  · refine jr_iconst (n := 9) dX7_holds_8 rfl ?_
    refine jr_goto (t := 13) dX7_holds_9 (by decide) ?_
    refine jr_zret dX7_holds_13 rfl (by decide) ?_
    first | exact h1 (by unfold jbit; omega) | exact h0 (by unfold jbit; omega)

theorem c_asLong {G : jG} {d : Nat} {M : jMem} {Q : Option Value → jMem → Prop} {v : Int} (hv : v = 0 ∨ v = 1) (h : Q (some (.long (jL v))) M) : jN G mX7_asLong (d) [.int (jI v)] M Q := by
  show jM G mX7_asLong (d) 0 [.int (jI v)] [] M Q
  refine jr_iload_n (n := 1) dX7_asLong_0 rfl rfl ?_
  refine jr_if_eq (n := 4) (t := 8) dX7_asLong_1 (by decide) rfl (by omega) (fun b1 => ?_) (fun b1 => ?_)
  · refine jr_lconst (n := 9) (x := 0) dX7_asLong_8 rfl (by decide) ?_
    refine jr_lret dX7_asLong_9 rfl ?_
    rcases hv with e | e <;> subst e <;> first | exact h | (exfalso; omega)
  · refine jr_lconst (n := 5) (x := 1) dX7_asLong_4 rfl (by decide) ?_
    refine jr_goto (t := 9) dX7_asLong_5 (by decide) ?_
    refine jr_lret dX7_asLong_9 rfl ?_
    rcases hv with e | e <;> subst e <;> first | exact h | (exfalso; omega)
end
section
/-- the place of case k in its court's list, the first one -/
def jpl (M : jMem) (k p : Int) : Prop := 0 ≤ p ∧ p < M 17 (M 10 k) ∧ M 16 (6 * M 10 k + p) = k ∧ ∀ q, 0 ≤ q → q < p → M 16 (6 * M 10 k + q) ≠ k
/-- a block of a cell, from lo to hi, holds f -/
def jblk (M : jMem) (k : Nat) (lo hi : Int) (f : Int → Int) : jMem := fun a b => if a = k ∧ lo ≤ b ∧ b < hi then f b else M a b
theorem jblk_0 (M : jMem) (k : Nat) (lo : Int) (f : Int → Int) : jblk M k lo lo f = M := by
  funext a b
  unfold jblk
  rw [if_neg (by omega)]
theorem jblk_up (M : jMem) (k : Nat) {lo hi x : Int} (f : Int → Int) (h : lo ≤ hi) (hx : x = f hi) : jup (jblk M k lo hi f) k hi x = jblk M k lo (hi + 1) f := by
  subst hx
  funext a b
  unfold jup jblk
  by_cases e : a = k ∧ b = hi
  · obtain ⟨rfl, rfl⟩ := e
    rw [if_pos ⟨rfl, rfl⟩, if_pos ⟨rfl, h, by omega⟩]
  · rw [if_neg e]
    by_cases q : a = k ∧ lo ≤ b ∧ b < hi
    · rw [if_pos q, if_pos ⟨q.1, q.2.1, by omega⟩]
    · rw [if_neg q, if_neg (fun r => q ⟨r.1, r.2.1, by have : b ≠ hi := fun z => e ⟨r.1, z⟩; omega⟩)]
theorem jblk_ne {M : jMem} {k a : Nat} {lo hi : Int} {f : Int → Int} (h : a ≠ k) (b : Int) : jblk M k lo hi f a b = M a b := by
  unfold jblk; rw [if_neg (fun z => h z.1)]
theorem jblk_out {M : jMem} {k : Nat} {lo hi b : Int} {f : Int → Int} (h : ¬ (lo ≤ b ∧ b < hi)) : jblk M k lo hi f k b = M k b := by
  unfold jblk; rw [if_neg (fun z => h z.2)]
theorem jblk_in {M : jMem} {k : Nat} {lo hi b : Int} {f : Int → Int} (h : lo ≤ b ∧ b < hi) : jblk M k lo hi f k b = f b := by
  unfold jblk; rw [if_pos ⟨rfl, h⟩]
theorem jup_at {M : jMem} {k : Nat} {i v : Int} : jup M k i v k i = v := by unfold jup; rw [if_pos ⟨rfl, rfl⟩]
theorem jup_off {M : jMem} {k : Nat} {i v b : Int} (h : b ≠ i) : jup M k i v k b = M k b := by unfold jup; rw [if_neg (fun z => h z.2)]

theorem c_caseAt {G : jG} {d : Nat} {M : jMem} {Q : Option Value → jMem → Prop} {c p : Int} (hc : 0 ≤ c ∧ c < 3) (hs : 0 ≤ M 17 c ∧ M 17 c ≤ 6) (hp : jR p) (h1 : 0 ≤ p → p < M 17 c → Q (some (.int (jI (M 16 (c * 6 + p))))) M) (h0 : ¬ (0 ≤ p ∧ p < M 17 c) → Q (some (.int (jI (-1)))) M) : jN G mX2_caseAt (d) [.ref (jad G 1), .int (jI c), .int (jI p)] M Q := by
  show jM G mX2_caseAt (d) 0 [.ref (jad G 1), .int (jI c), .int (jI p)] [] M Q
  refine jr_iload_n (n := 1) dX2_caseAt_0 rfl rfl ?_
  refine jr_if_lt (n := 4) (t := 28) dX2_caseAt_1 (by decide) rfl (by omega) (fun b1 => ?_) (fun b1 => ?_)
  · refine jr_iconst (n := 29) dX2_caseAt_28 rfl ?_
    refine jr_iret dX2_caseAt_29 rfl ?_
    first | exact h1 (by omega) (by omega) | exact h0 (by omega)
  · refine jr_iload_n (n := 5) dX2_caseAt_4 rfl rfl ?_
    refine jr_aload_n (n := 6) dX2_caseAt_5 rfl rfl ?_
    refine jr_getR (n := 9) dX2_caseAt_6 rfl fX2_33 rfl (by decide) (by decide) rfl ?_
    refine jr_iload_n (n := 10) dX2_caseAt_9 rfl rfl ?_
    refine jr_iald (n := 11) dX2_caseAt_10 rfl rfl (by decide) (by omega) (by omega) ?_
    refine jr_icmp_ge (n := 14) (t := 28) dX2_caseAt_11 (by decide) rfl (by omega) (by omega) (fun b11 => ?_) (fun b11 => ?_)
    · refine jr_iconst (n := 29) dX2_caseAt_28 rfl ?_
      refine jr_iret dX2_caseAt_29 rfl ?_
      first | exact h1 (by omega) (by omega) | exact h0 (by omega)
    · refine jr_aload_n (n := 15) dX2_caseAt_14 rfl rfl ?_
      refine jr_getR (n := 18) dX2_caseAt_15 rfl fX2_30 rfl (by decide) (by decide) rfl ?_
      refine jr_iload_n (n := 19) dX2_caseAt_18 rfl rfl ?_
      refine jr_bipush (n := 21) dX2_caseAt_19 rfl (by decide) ?_
      refine jr_imul (n := 22) dX2_caseAt_21 rfl ?_
      refine jr_iload_n (n := 23) dX2_caseAt_22 rfl rfl ?_
      refine jr_iadd (n := 24) dX2_caseAt_23 rfl ?_
      refine jr_iald (n := 25) dX2_caseAt_24 rfl rfl (by decide) (by omega) (by omega) ?_
      refine jr_goto (t := 29) dX2_caseAt_25 (by decide) ?_
      refine jr_iret dX2_caseAt_29 rfl ?_
      first | exact h1 (by omega) (by omega) | exact h0 (by omega)

theorem c_placeOf_l {G : jG} {d : Nat} {M : jMem} {Q : Option Value → jMem → Prop} {k p : Int} (hk : 0 ≤ k ∧ k < 12) (hc : 0 ≤ M 10 k ∧ M 10 k < 3) (hs : M 17 (M 10 k) ≤ 6) (hr : ∀ q, 0 ≤ q → q < M 17 (M 10 k) → jR (M 16 (6 * M 10 k + q))) (hp : jpl M k p) (hQ : Q (some (.int (jI p))) M) : ∀ (f : Nat) (i : Int), 0 ≤ i → i ≤ p → p - i < f → jM G mX2_placeOf (d + 1) 9 [.ref (jad G 1), .int (jI k), .int (jI (M 10 k)), .int (jI i)] [] (M) Q := by
  intro f
  induction f with
  | zero =>
    intro i h0 h1 hf
    exact absurd hf (by omega)
  | succ f ih =>
    intro i h0 h1 hf
    obtain ⟨p0, p1, p2, p3⟩ := hp
    have hri := hr i (by omega) (by omega)
    rw [Int.mul_comm] at hri
    refine jr_iload_n (n := 10) dX2_placeOf_9 rfl rfl ?_
    refine jr_aload_n (n := 11) dX2_placeOf_10 rfl rfl ?_
    refine jr_getR (n := 14) dX2_placeOf_11 rfl fX2_33 rfl (by decide) (by decide) rfl ?_
    refine jr_iload_n (n := 15) dX2_placeOf_14 rfl rfl ?_
    refine jr_iald (n := 16) dX2_placeOf_15 rfl rfl (by decide) (by omega) (by omega) ?_
    refine jr_icmp_ge (n := 19) (t := 35) dX2_placeOf_16 (by decide) rfl (by omega) (by omega) (fun b16 => ?_) (fun b16 => ?_)
    · exact absurd b16 (by omega)
    · refine jr_aload_n (n := 20) dX2_placeOf_19 rfl rfl ?_
      refine jr_iload_n (n := 21) dX2_placeOf_20 rfl rfl ?_
      refine jr_iload_n (n := 22) dX2_placeOf_21 rfl rfl ?_
      refine jr_cV2 (n := 25) (ci := 2) (ν := mX2_caseAt) dX2_placeOf_22 rfl lX2_44 kX2_caseAt iX2_caseAt rfl ⟨_, rfl, rfl⟩ (by decide) (Nat.le_of_ble_eq_true rfl) (Nat.le_of_ble_eq_true rfl) rfl ?_
      refine c_caseAt (by omega) (by omega) (by omega) (fun b22 b22b => ?_) (fun b22 => absurd b22 (by omega))
      refine jr_iload_n (n := 26) dX2_placeOf_25 rfl rfl ?_
      refine jr_icmp_eq (n := 29) (t := 35) dX2_placeOf_26 (by decide) rfl hri (by omega) (fun b26 => ?_) (fun b26 => ?_)
      · refine jr_iload_n (n := 36) dX2_placeOf_35 rfl rfl ?_
        refine jr_iret dX2_placeOf_36 rfl ?_
        have e : i = p := by
          by_cases e : i = p
          · exact e
          · exact absurd (by rw [Int.mul_comm]; exact b26) (p3 i h0 (by omega))
        subst e
        exact hQ
      · refine jr_iinc3 (n := 32) dX2_placeOf_29 rfl (by decide) rfl ?_
        refine jr_goto (t := 9) dX2_placeOf_32 (by decide) ?_
        have e : i ≠ p := fun e => b26 (by rw [e, Int.mul_comm]; exact p2)
        exact ih (i + 1) (by omega) (by omega) (by omega)

theorem c_placeOf {G : jG} {d : Nat} {M : jMem} {Q : Option Value → jMem → Prop} {k p : Int} (hk : 0 ≤ k ∧ k < 12) (hc : 0 ≤ M 10 k ∧ M 10 k < 3) (hs : M 17 (M 10 k) ≤ 6) (hr : ∀ q, 0 ≤ q → q < M 17 (M 10 k) → jR (M 16 (6 * M 10 k + q))) (hp : jpl M k p) (hQ : Q (some (.int (jI p))) M) : jN G mX2_placeOf (d + 1) [.ref (jad G 1), .int (jI k)] M Q := by
  show jM G mX2_placeOf (d + 1) 0 [.ref (jad G 1), .int (jI k), .null, .null] [] M Q
  refine jr_aload_n (n := 1) dX2_placeOf_0 rfl rfl ?_
  refine jr_getR (n := 4) dX2_placeOf_1 rfl fX2_9 rfl (by decide) (by decide) rfl ?_
  refine jr_iload_n (n := 5) dX2_placeOf_4 rfl rfl ?_
  refine jr_iald (n := 6) dX2_placeOf_5 rfl rfl (by decide) (by omega) (by omega) ?_
  refine jr_istore2 (n := 7) dX2_placeOf_6 rfl (by decide) rfl ?_
  refine jr_iconst (n := 8) dX2_placeOf_7 rfl ?_
  refine jr_istore3 (n := 9) dX2_placeOf_8 rfl (by decide) rfl ?_
  have p1 := hp.2.1
  have p0 := hp.1
  exact c_placeOf_l hk hc hs hr hp hQ (p.toNat + 1) 0 (by omega) (by omega) (by omega)

theorem c_hasNeedOf {G : jG} {d : Nat} {M : jMem} {Q : Option Value → jMem → Prop} {k v : Int} (hk : 0 ≤ k ∧ k < 12) (h1 : jbit (M 13 k) v → Q (some (.int (jI 1))) M) (h0 : ¬ jbit (M 13 k) v → Q (some (.int (jI 0))) M) : jN G mX2_hasNeedOf (d + 1) [.ref (jad G 1), .int (jI k), .int (jI v)] M Q := by
  show jM G mX2_hasNeedOf (d + 1) 0 [.ref (jad G 1), .int (jI k), .int (jI v)] [] M Q
  refine jr_aload_n (n := 1) dX2_hasNeedOf_0 rfl rfl ?_
  refine jr_getR (n := 4) dX2_hasNeedOf_1 rfl fX2_21 rfl (by decide) (by decide) rfl ?_
  refine jr_iload_n (n := 5) dX2_hasNeedOf_4 rfl rfl ?_
  refine jr_iald (n := 6) dX2_hasNeedOf_5 rfl rfl (by decide) (by omega) (by omega) ?_
  refine jr_iload_n (n := 7) dX2_hasNeedOf_6 rfl rfl ?_
  refine jr_cS2 (n := 10) (ν := mX7_holds) dX2_hasNeedOf_7 rfl lX2_52 kX7_holds iX7_holds (Nat.le_of_ble_eq_true rfl) (Nat.le_of_ble_eq_true rfl) rfl ?_
  refine c_holds (fun b7 => ?_) (fun b7 => ?_)
  · refine jr_zret dX2_hasNeedOf_10 rfl (by decide) ?_
    first | exact h1 (by assumption) | exact h0 (by assumption)
  · refine jr_zret dX2_hasNeedOf_10 rfl (by decide) ?_
    first | exact h1 (by assumption) | exact h0 (by assumption)

theorem c_quarterFor {G : jG} {d : Nat} {M : jMem} {Q : Option Value → jMem → Prop} {k v : Int} (hk : 0 ≤ k ∧ k < 12) (hv : 0 ≤ v ∧ v < 10) (hQ : Q (some (.int (jI (M 15 (k * 10 + v))))) M) : jN G mX2_quarterFor (d) [.ref (jad G 1), .int (jI k), .int (jI v)] M Q := by
  show jM G mX2_quarterFor (d) 0 [.ref (jad G 1), .int (jI k), .int (jI v)] [] M Q
  refine jr_aload_n (n := 1) dX2_quarterFor_0 rfl rfl ?_
  refine jr_getR (n := 4) dX2_quarterFor_1 rfl fX2_27 rfl (by decide) (by decide) rfl ?_
  refine jr_iload_n (n := 5) dX2_quarterFor_4 rfl rfl ?_
  refine jr_bipush (n := 7) dX2_quarterFor_5 rfl (by decide) ?_
  refine jr_imul (n := 8) dX2_quarterFor_7 rfl ?_
  refine jr_iload_n (n := 9) dX2_quarterFor_8 rfl rfl ?_
  refine jr_iadd (n := 10) dX2_quarterFor_9 rfl ?_
  refine jr_iald (n := 11) dX2_quarterFor_10 rfl rfl (by decide) (by omega) (by omega) ?_
  refine jr_iret dX2_quarterFor_11 rfl ?_
  exact hQ

theorem c_callFor {G : jG} {d : Nat} {M : jMem} {Q : Option Value → jMem → Prop} {k v z : Int} (hk : 0 ≤ k ∧ k < 12) (hv : 0 ≤ v ∧ v < 10) (hQ : Q none (jup M 15 (k * 10 + v) z)) : jN G mX2_callFor (d) [.ref (jad G 1), .int (jI k), .int (jI v), .int (jI z)] M Q := by
  show jM G mX2_callFor (d) 0 [.ref (jad G 1), .int (jI k), .int (jI v), .int (jI z)] [] M Q
  refine jr_aload_n (n := 1) dX2_callFor_0 rfl rfl ?_
  refine jr_getR (n := 4) dX2_callFor_1 rfl fX2_27 rfl (by decide) (by decide) rfl ?_
  refine jr_iload_n (n := 5) dX2_callFor_4 rfl rfl ?_
  refine jr_bipush (n := 7) dX2_callFor_5 rfl (by decide) ?_
  refine jr_imul (n := 8) dX2_callFor_7 rfl ?_
  refine jr_iload_n (n := 9) dX2_callFor_8 rfl rfl ?_
  refine jr_iadd (n := 10) dX2_callFor_9 rfl ?_
  refine jr_iload_n (n := 11) dX2_callFor_10 rfl rfl ?_
  refine jr_iast (n := 12) dX2_callFor_11 rfl rfl (by decide) (by omega) (by omega) ?_
  refine jr_vret dX2_callFor_12 rfl ?_
  exact hQ

theorem c_isFolded {G : jG} {d : Nat} {M : jMem} {Q : Option Value → jMem → Prop} {k : Int} (hk : 0 ≤ k ∧ k < 12) (hr : jR (M 14 k)) (h1 : M 14 k = 0 → Q (some (.int (jI 1))) M) (h0 : M 14 k ≠ 0 → Q (some (.int (jI 0))) M) : jN G mX2_isFolded (d) [.ref (jad G 1), .int (jI k)] M Q := by
  show jM G mX2_isFolded (d) 0 [.ref (jad G 1), .int (jI k)] [] M Q
  refine jr_aload_n (n := 1) dX2_isFolded_0 rfl rfl ?_
  refine jr_getR (n := 4) dX2_isFolded_1 rfl fX2_24 rfl (by decide) (by decide) rfl ?_
  refine jr_iload_n (n := 5) dX2_isFolded_4 rfl rfl ?_
  refine jr_iald (n := 6) dX2_isFolded_5 rfl rfl (by decide) (by omega) (by omega) ?_
  refine jr_if_ne (n := 9) (t := 13) dX2_isFolded_6 (by decide) rfl (by omega) (fun b6 => ?_) (fun b6 => ?_)
  · refine jr_iconst (n := 14) dX2_isFolded_13 rfl ?_
    refine jr_zret dX2_isFolded_14 rfl (by decide) ?_
    first | exact h1 (by assumption) | exact h0 (by assumption)
  · refine jr_iconst (n := 10) dX2_isFolded_9 rfl ?_
    refine jr_goto (t := 14) dX2_isFolded_10 (by decide) ?_
    refine jr_zret dX2_isFolded_14 rfl (by decide) ?_
    first | exact h1 (by assumption) | exact h0 (by assumption)

theorem c_takesQuarters {G : jG} {d : Nat} {M : jMem} {Q : Option Value → jMem → Prop} {k : Int} (hk : 0 ≤ k ∧ k < 12) (hr : jR (M 14 k)) (hQ : Q (some (.int (jI (if M 14 k = -1 then M 11 k else M 14 k)))) M) : jN G mX2_takesQuarters (d) [.ref (jad G 1), .int (jI k)] M Q := by
  show jM G mX2_takesQuarters (d) 0 [.ref (jad G 1), .int (jI k)] [] M Q
  refine jr_aload_n (n := 1) dX2_takesQuarters_0 rfl rfl ?_
  refine jr_getR (n := 4) dX2_takesQuarters_1 rfl fX2_24 rfl (by decide) (by decide) rfl ?_
  refine jr_iload_n (n := 5) dX2_takesQuarters_4 rfl rfl ?_
  refine jr_iald (n := 6) dX2_takesQuarters_5 rfl rfl (by decide) (by omega) (by omega) ?_
  refine jr_iconst (n := 7) dX2_takesQuarters_6 rfl ?_
  refine jr_icmp_ne (n := 10) (t := 19) dX2_takesQuarters_7 (by decide) rfl (by omega) (by omega) (fun b7 => ?_) (fun b7 => ?_)
  · refine jr_aload_n (n := 20) dX2_takesQuarters_19 rfl rfl ?_
    refine jr_getR (n := 23) dX2_takesQuarters_20 rfl fX2_24 rfl (by decide) (by decide) rfl ?_
    refine jr_iload_n (n := 24) dX2_takesQuarters_23 rfl rfl ?_
    refine jr_iald (n := 25) dX2_takesQuarters_24 rfl rfl (by decide) (by omega) (by omega) ?_
    refine jr_iret dX2_takesQuarters_25 rfl ?_
    first | (rw [if_pos (by assumption)] at hQ; exact hQ) | (rw [if_neg (by assumption)] at hQ; exact hQ)
  · refine jr_aload_n (n := 11) dX2_takesQuarters_10 rfl rfl ?_
    refine jr_getR (n := 14) dX2_takesQuarters_11 rfl fX2_15 rfl (by decide) (by decide) rfl ?_
    refine jr_iload_n (n := 15) dX2_takesQuarters_14 rfl rfl ?_
    refine jr_iald (n := 16) dX2_takesQuarters_15 rfl rfl (by decide) (by omega) (by omega) ?_
    refine jr_goto (t := 25) dX2_takesQuarters_16 (by decide) ?_
    refine jr_iret dX2_takesQuarters_25 rfl ?_
    first | (rw [if_pos (by assumption)] at hQ; exact hQ) | (rw [if_neg (by assumption)] at hQ; exact hQ)

theorem c_joinList {G : jG} {d : Nat} {M : jMem} {Q : Option Value → jMem → Prop} {k c : Int} (hk : 0 ≤ k ∧ k < 12) (hc : 0 ≤ c ∧ c < 3) (hs : 0 ≤ M 17 c ∧ M 17 c < 6) (hQ : Q none (jup (jup (jup M 16 (c * 6 + M 17 c) k) 17 c (M 17 c + 1)) 10 k c)) : jN G mX2_joinList (d) [.ref (jad G 1), .int (jI k), .int (jI c)] M Q := by
  show jM G mX2_joinList (d) 0 [.ref (jad G 1), .int (jI k), .int (jI c)] [] M Q
  refine jr_aload_n (n := 1) dX2_joinList_0 rfl rfl ?_
  refine jr_getR (n := 4) dX2_joinList_1 rfl fX2_33 rfl (by decide) (by decide) rfl ?_
  refine jr_iload_n (n := 5) dX2_joinList_4 rfl rfl ?_
  refine jr_iald (n := 6) dX2_joinList_5 rfl rfl (by decide) (by omega) (by omega) ?_
  refine jr_bipush (n := 8) dX2_joinList_6 rfl (by decide) ?_
  refine jr_icmp_ge (n := 11) (t := 45) dX2_joinList_8 (by decide) rfl (by omega) (by omega) (fun b8 => ?_) (fun b8 => ?_)
  · exact absurd b8 (by omega)
  · refine jr_aload_n (n := 12) dX2_joinList_11 rfl rfl ?_
    refine jr_getR (n := 15) dX2_joinList_12 rfl fX2_30 rfl (by decide) (by decide) rfl ?_
    refine jr_iload_n (n := 16) dX2_joinList_15 rfl rfl ?_
    refine jr_bipush (n := 18) dX2_joinList_16 rfl (by decide) ?_
    refine jr_imul (n := 19) dX2_joinList_18 rfl ?_
    refine jr_aload_n (n := 20) dX2_joinList_19 rfl rfl ?_
    refine jr_getR (n := 23) dX2_joinList_20 rfl fX2_33 rfl (by decide) (by decide) rfl ?_
    refine jr_iload_n (n := 24) dX2_joinList_23 rfl rfl ?_
    refine jr_iald (n := 25) dX2_joinList_24 rfl rfl (by decide) (by omega) (by omega) ?_
    refine jr_iadd (n := 26) dX2_joinList_25 rfl ?_
    refine jr_iload_n (n := 27) dX2_joinList_26 rfl rfl ?_
    refine jr_iast (n := 28) dX2_joinList_27 rfl rfl (by decide) (by omega) (by omega) ?_
    refine jr_aload_n (n := 29) dX2_joinList_28 rfl rfl ?_
    refine jr_getR (n := 32) dX2_joinList_29 rfl fX2_33 rfl (by decide) (by decide) rfl ?_
    refine jr_iload_n (n := 33) dX2_joinList_32 rfl rfl ?_
    refine jr_dup2 (n := 34) dX2_joinList_33 rfl rfl rfl ?_
    refine jr_iald (n := 35) dX2_joinList_34 rfl rfl (by decide) (by omega) (by omega) ?_
    rw [jup_ne (by decide)]
    refine jr_iconst (n := 36) dX2_joinList_35 rfl ?_
    refine jr_iadd (n := 37) dX2_joinList_36 rfl ?_
    refine jr_iast (n := 38) dX2_joinList_37 rfl rfl (by decide) (by omega) (by omega) ?_
    refine jr_aload_n (n := 39) dX2_joinList_38 rfl rfl ?_
    refine jr_getR (n := 42) dX2_joinList_39 rfl fX2_9 rfl (by decide) (by decide) rfl ?_
    refine jr_iload_n (n := 43) dX2_joinList_42 rfl rfl ?_
    refine jr_iload_n (n := 44) dX2_joinList_43 rfl rfl ?_
    refine jr_iast (n := 45) dX2_joinList_44 rfl rfl (by decide) (by omega) (by omega) ?_
    refine jr_vret dX2_joinList_45 rfl ?_
    exact hQ
end
section
/-! THE INVARIANT, of numbers and rows alone; once of the class's cells (jK), once of the reference's (jO) -/
def jJn (n p q : Int) (ru co le fo ne fa ca li ls ki wa ap nw nc nr ro si : Int → Int) : Prop :=
  ((0 ≤ n ∧ n ≤ 12) ∧ (0 ≤ p ∧ p ≤ 10) ∧ (0 ≤ q ∧ q ≤ 60)) ∧
  (∀ c, 0 ≤ c → c < 3 → 0 ≤ ls c ∧ ls c ≤ 6) ∧
  (∀ k, 0 ≤ k → k < 12 → (0 ≤ co k ∧ co k < 3) ∧ (0 ≤ le k ∧ le k ≤ 8) ∧ (0 ≤ fo k ∧ fo k ≤ 100) ∧ (0 ≤ ne k ∧ ne k < 1024) ∧ (-1 ≤ fa k ∧ fa k ≤ 20)) ∧
  (∀ k, 0 ≤ k → k < n → 1 ≤ le k) ∧
  (∀ i, 0 ≤ i → i < 120 → 0 ≤ ca i ∧ ca i ≤ 48) ∧
  (∀ c j, 0 ≤ c → c < 3 → 0 ≤ j → j < ls c → (0 ≤ li (6 * c + j) ∧ li (6 * c + j) < n) ∧ co (li (6 * c + j)) = c) ∧
  (∀ k, 0 ≤ k → k < n → ∃ j, 0 ≤ j ∧ j < ls (co k) ∧ li (6 * co k + j) = k) ∧
  (∀ c i j, 0 ≤ c → c < 3 → 0 ≤ i → i < j → j < ls c → li (6 * c + i) ≠ li (6 * c + j)) ∧
  (∀ w, 0 ≤ w → w < 10 → (0 ≤ ki w ∧ ki w ≤ 4) ∧ (0 ≤ wa w ∧ wa w ≤ 12) ∧ (0 ≤ ap w ∧ ap w < 1024)) ∧
  (∀ k w, 0 ≤ k → k < 12 → p ≤ w → w < 10 → ¬ jbit (ne k) w) ∧
  (∀ i, 0 ≤ i → i < 5 → 0 ≤ ru i ∧ ru i ≤ 200) ∧
  (∀ i, 0 ≤ i → i < 60 → (0 ≤ nw i ∧ nw i < 10) ∧ (0 ≤ nc i ∧ nc i < 12) ∧ (0 ≤ nr i ∧ nr i ≤ 1)) ∧
  (∀ i, q ≤ i → nr i = 0) ∧
  (∀ s, 0 ≤ s → s < 2 → -1 ≤ si s ∧ si s ≤ 12) ∧
  (∀ i, -128 ≤ ro i ∧ ro i ≤ 127) ∧
  (∀ u v, 0 ≤ u → u < 10 → 0 ≤ v → v < 10 → (jbit (ap u) v ↔ jbit (ap v) u) ∧ ¬ jbit (ap u) u ∧ (jbit (ap u) v → v < p))
theorem jn1 {n p q : Int} {ru co le fo ne fa ca li ls ki wa ap nw nc nr ro si : Int → Int} (h : jJn n p q ru co le fo ne fa ca li ls ki wa ap nw nc nr ro si) : (0 ≤ n ∧ n ≤ 12) ∧ (0 ≤ p ∧ p ≤ 10) ∧ (0 ≤ q ∧ q ≤ 60) := h.1
theorem jn2 {n p q : Int} {ru co le fo ne fa ca li ls ki wa ap nw nc nr ro si : Int → Int} (h : jJn n p q ru co le fo ne fa ca li ls ki wa ap nw nc nr ro si) : ∀ c, 0 ≤ c → c < 3 → 0 ≤ ls c ∧ ls c ≤ 6 := h.2.1
theorem jn3 {n p q : Int} {ru co le fo ne fa ca li ls ki wa ap nw nc nr ro si : Int → Int} (h : jJn n p q ru co le fo ne fa ca li ls ki wa ap nw nc nr ro si) : ∀ k, 0 ≤ k → k < 12 → (0 ≤ co k ∧ co k < 3) ∧ (0 ≤ le k ∧ le k ≤ 8) ∧ (0 ≤ fo k ∧ fo k ≤ 100) ∧ (0 ≤ ne k ∧ ne k < 1024) ∧ (-1 ≤ fa k ∧ fa k ≤ 20) := h.2.2.1
theorem jn4 {n p q : Int} {ru co le fo ne fa ca li ls ki wa ap nw nc nr ro si : Int → Int} (h : jJn n p q ru co le fo ne fa ca li ls ki wa ap nw nc nr ro si) : ∀ k, 0 ≤ k → k < n → 1 ≤ le k := h.2.2.2.1
theorem jn5 {n p q : Int} {ru co le fo ne fa ca li ls ki wa ap nw nc nr ro si : Int → Int} (h : jJn n p q ru co le fo ne fa ca li ls ki wa ap nw nc nr ro si) : ∀ i, 0 ≤ i → i < 120 → 0 ≤ ca i ∧ ca i ≤ 48 := h.2.2.2.2.1
theorem jn6 {n p q : Int} {ru co le fo ne fa ca li ls ki wa ap nw nc nr ro si : Int → Int} (h : jJn n p q ru co le fo ne fa ca li ls ki wa ap nw nc nr ro si) : ∀ c j, 0 ≤ c → c < 3 → 0 ≤ j → j < ls c → (0 ≤ li (6 * c + j) ∧ li (6 * c + j) < n) ∧ co (li (6 * c + j)) = c := h.2.2.2.2.2.1
theorem jn7 {n p q : Int} {ru co le fo ne fa ca li ls ki wa ap nw nc nr ro si : Int → Int} (h : jJn n p q ru co le fo ne fa ca li ls ki wa ap nw nc nr ro si) : ∀ k, 0 ≤ k → k < n → ∃ j, 0 ≤ j ∧ j < ls (co k) ∧ li (6 * co k + j) = k := h.2.2.2.2.2.2.1
theorem jn8 {n p q : Int} {ru co le fo ne fa ca li ls ki wa ap nw nc nr ro si : Int → Int} (h : jJn n p q ru co le fo ne fa ca li ls ki wa ap nw nc nr ro si) : ∀ c i j, 0 ≤ c → c < 3 → 0 ≤ i → i < j → j < ls c → li (6 * c + i) ≠ li (6 * c + j) := h.2.2.2.2.2.2.2.1
theorem jn9 {n p q : Int} {ru co le fo ne fa ca li ls ki wa ap nw nc nr ro si : Int → Int} (h : jJn n p q ru co le fo ne fa ca li ls ki wa ap nw nc nr ro si) : ∀ w, 0 ≤ w → w < 10 → (0 ≤ ki w ∧ ki w ≤ 4) ∧ (0 ≤ wa w ∧ wa w ≤ 12) ∧ (0 ≤ ap w ∧ ap w < 1024) := h.2.2.2.2.2.2.2.2.1
theorem jn10 {n p q : Int} {ru co le fo ne fa ca li ls ki wa ap nw nc nr ro si : Int → Int} (h : jJn n p q ru co le fo ne fa ca li ls ki wa ap nw nc nr ro si) : ∀ k w, 0 ≤ k → k < 12 → p ≤ w → w < 10 → ¬ jbit (ne k) w := h.2.2.2.2.2.2.2.2.2.1
theorem jn11 {n p q : Int} {ru co le fo ne fa ca li ls ki wa ap nw nc nr ro si : Int → Int} (h : jJn n p q ru co le fo ne fa ca li ls ki wa ap nw nc nr ro si) : ∀ i, 0 ≤ i → i < 5 → 0 ≤ ru i ∧ ru i ≤ 200 := h.2.2.2.2.2.2.2.2.2.2.1
theorem jn12 {n p q : Int} {ru co le fo ne fa ca li ls ki wa ap nw nc nr ro si : Int → Int} (h : jJn n p q ru co le fo ne fa ca li ls ki wa ap nw nc nr ro si) : ∀ i, 0 ≤ i → i < 60 → (0 ≤ nw i ∧ nw i < 10) ∧ (0 ≤ nc i ∧ nc i < 12) ∧ (0 ≤ nr i ∧ nr i ≤ 1) := h.2.2.2.2.2.2.2.2.2.2.2.1
theorem jn13 {n p q : Int} {ru co le fo ne fa ca li ls ki wa ap nw nc nr ro si : Int → Int} (h : jJn n p q ru co le fo ne fa ca li ls ki wa ap nw nc nr ro si) : ∀ i, q ≤ i → nr i = 0 := h.2.2.2.2.2.2.2.2.2.2.2.2.1
theorem jn14 {n p q : Int} {ru co le fo ne fa ca li ls ki wa ap nw nc nr ro si : Int → Int} (h : jJn n p q ru co le fo ne fa ca li ls ki wa ap nw nc nr ro si) : ∀ s, 0 ≤ s → s < 2 → -1 ≤ si s ∧ si s ≤ 12 := h.2.2.2.2.2.2.2.2.2.2.2.2.2.1
theorem jn15 {n p q : Int} {ru co le fo ne fa ca li ls ki wa ap nw nc nr ro si : Int → Int} (h : jJn n p q ru co le fo ne fa ca li ls ki wa ap nw nc nr ro si) : ∀ i, -128 ≤ ro i ∧ ro i ≤ 127 := h.2.2.2.2.2.2.2.2.2.2.2.2.2.2.1
theorem jn16 {n p q : Int} {ru co le fo ne fa ca li ls ki wa ap nw nc nr ro si : Int → Int} (h : jJn n p q ru co le fo ne fa ca li ls ki wa ap nw nc nr ro si) : ∀ u v, 0 ≤ u → u < 10 → 0 ≤ v → v < 10 → (jbit (ap u) v ↔ jbit (ap v) u) ∧ ¬ jbit (ap u) u ∧ (jbit (ap u) v → v < p) := h.2.2.2.2.2.2.2.2.2.2.2.2.2.2.2
def jK (M : jMem) : Prop := jJn (M 1 8) (M 2 3) (M 6 3) (M 9) (M 10) (M 11) (M 12) (M 13) (M 14) (M 15) (M 16) (M 17) (M 18) (M 19) (M 20) (M 33) (M 34) (M 35) (M 36) (M 37)
def jO (M : jMem) : Prop := jJn (M 8 2) (M 8 8) (M 8 14) (M 49) (M 40) (M 41) (M 42) (M 43) (M 44) (M 48) (M 39) (M 38) (M 45) (M 46) (M 47) (M 50) (M 51) (M 52) (M 54) (M 53)
/-- class and reference hold the same; of the calls, those that are needed -/
def jEq (M : jMem) : Prop := M 8 2 = M 1 8 ∧ M 8 8 = M 2 3 ∧ M 8 14 = M 6 3 ∧ M 49 = M 9 ∧ M 40 = M 10 ∧ M 41 = M 11 ∧ M 42 = M 12 ∧ M 43 = M 13 ∧ M 44 = M 14 ∧ M 39 = M 16 ∧ M 38 = M 17 ∧ M 45 = M 18 ∧ M 46 = M 19 ∧ M 47 = M 20 ∧ M 50 = M 33 ∧ M 51 = M 34 ∧ M 52 = M 35 ∧ M 54 = M 36 ∧ M 53 = M 37 ∧ ∀ k v, 0 ≤ k → k < 12 → 0 ≤ v → v < 10 → jbit (M 13 k) v → M 48 (10 * k + v) = M 15 (k * 10 + v)
theorem jq_cases {M : jMem} (h : jEq M) : M 8 2 = M 1 8 := h.1
theorem jq_witnesses {M : jMem} (h : jEq M) : M 8 8 = M 2 3 := h.2.1
theorem jq_notices {M : jMem} (h : jEq M) : M 8 14 = M 6 3 := h.2.2.1
theorem jq_rules {M : jMem} (h : jEq M) : M 49 = M 9 := h.2.2.2.1
theorem jq_court {M : jMem} (h : jEq M) : M 40 = M 10 := h.2.2.2.2.1
theorem jq_length {M : jMem} (h : jEq M) : M 41 = M 11 := h.2.2.2.2.2.1
theorem jq_folds {M : jMem} (h : jEq M) : M 42 = M 12 := h.2.2.2.2.2.2.1
theorem jq_sets {M : jMem} (h : jEq M) : M 43 = M 13 := h.2.2.2.2.2.2.2.1
theorem jq_fates {M : jMem} (h : jEq M) : M 44 = M 14 := h.2.2.2.2.2.2.2.2.1
theorem jq_list {M : jMem} (h : jEq M) : M 39 = M 16 := h.2.2.2.2.2.2.2.2.2.1
theorem jq_many {M : jMem} (h : jEq M) : M 38 = M 17 := h.2.2.2.2.2.2.2.2.2.2.1
theorem jq_kind {M : jMem} (h : jEq M) : M 45 = M 18 := h.2.2.2.2.2.2.2.2.2.2.2.1
theorem jq_way {M : jMem} (h : jEq M) : M 46 = M 19 := h.2.2.2.2.2.2.2.2.2.2.2.2.1
theorem jq_apart {M : jMem} (h : jEq M) : M 47 = M 20 := h.2.2.2.2.2.2.2.2.2.2.2.2.2.1
theorem jq_nWho {M : jMem} (h : jEq M) : M 50 = M 33 := h.2.2.2.2.2.2.2.2.2.2.2.2.2.2.1
theorem jq_nCase {M : jMem} (h : jEq M) : M 51 = M 34 := h.2.2.2.2.2.2.2.2.2.2.2.2.2.2.2.1
theorem jq_nRead {M : jMem} (h : jEq M) : M 52 = M 35 := h.2.2.2.2.2.2.2.2.2.2.2.2.2.2.2.2.1
theorem jq_numbers {M : jMem} (h : jEq M) : M 54 = M 36 := h.2.2.2.2.2.2.2.2.2.2.2.2.2.2.2.2.2.1
theorem jq_places {M : jMem} (h : jEq M) : M 53 = M 37 := h.2.2.2.2.2.2.2.2.2.2.2.2.2.2.2.2.2.2.1
theorem jq_calls {M : jMem} (h : jEq M) : ∀ k v, 0 ≤ k → k < 12 → 0 ≤ v → v < 10 → jbit (M 13 k) v → M 48 (10 * k + v) = M 15 (k * 10 + v) := h.2.2.2.2.2.2.2.2.2.2.2.2.2.2.2.2.2.2.2
def jJ (M : jMem) : Prop := jK M ∧ jEq M ∧ ∀ i, 0 ≤ i → i < 120 → 0 ≤ M 48 i ∧ M 48 i ≤ 48
theorem jJ_O {M : jMem} (h : jJ M) : jO M := by
  obtain ⟨hK, hE, hc⟩ := h
  unfold jK at hK
  unfold jO
  rw [jq_cases hE, jq_witnesses hE, jq_notices hE, jq_rules hE, jq_court hE, jq_length hE, jq_folds hE, jq_sets hE, jq_fates hE, jq_list hE, jq_many hE, jq_kind hE, jq_way hE, jq_apart hE, jq_nWho hE, jq_nCase hE, jq_nRead hE, jq_numbers hE, jq_places hE]
  obtain ⟨a1, a2, a3, a4, a5, a6, a7, a8, a9, a10, a11, a12, a13, a14, a15, a16⟩ := hK
  exact ⟨a1, a2, a3, a4, hc, a6, a7, a8, a9, a10, a11, a12, a13, a14, a15, a16⟩
theorem jK_cong {M M' : jMem} (e0 : M' 1 8 = M 1 8) (e1 : M' 2 3 = M 2 3) (e2 : M' 6 3 = M 6 3) (e3 : M' 9 = M 9) (e4 : M' 10 = M 10) (e5 : M' 11 = M 11) (e6 : M' 12 = M 12) (e7 : M' 13 = M 13) (e8 : M' 14 = M 14) (e9 : M' 15 = M 15) (e10 : M' 16 = M 16) (e11 : M' 17 = M 17) (e12 : M' 18 = M 18) (e13 : M' 19 = M 19) (e14 : M' 20 = M 20) (e15 : M' 33 = M 33) (e16 : M' 34 = M 34) (e17 : M' 35 = M 35) (e18 : M' 36 = M 36) (e19 : M' 37 = M 37) (h : jK M) : jK M' := by
  unfold jK at h ⊢
  rw [e0, e1, e2, e3, e4, e5, e6, e7, e8, e9, e10, e11, e12, e13, e14, e15, e16, e17, e18, e19]
  exact h
theorem jO_cong {M M' : jMem} (e0 : M' 8 2 = M 8 2) (e1 : M' 8 8 = M 8 8) (e2 : M' 8 14 = M 8 14) (e3 : M' 49 = M 49) (e4 : M' 40 = M 40) (e5 : M' 41 = M 41) (e6 : M' 42 = M 42) (e7 : M' 43 = M 43) (e8 : M' 44 = M 44) (e9 : M' 48 = M 48) (e10 : M' 39 = M 39) (e11 : M' 38 = M 38) (e12 : M' 45 = M 45) (e13 : M' 46 = M 46) (e14 : M' 47 = M 47) (e15 : M' 50 = M 50) (e16 : M' 51 = M 51) (e17 : M' 52 = M 52) (e18 : M' 54 = M 54) (e19 : M' 53 = M 53) (h : jO M) : jO M' := by
  unfold jO at h ⊢
  rw [e0, e1, e2, e3, e4, e5, e6, e7, e8, e9, e10, e11, e12, e13, e14, e15, e16, e17, e18, e19]
  exact h
theorem jpl_of {M : jMem} (h : jK M) {k : Int} (h0 : 0 ≤ k) (h1 : k < M 1 8) : ∃ p, jpl M k p := by
  have s := (jn1 h).1
  have r := (jn3 h k h0 (by omega)).1
  obtain ⟨j, j0, j1, j2⟩ := jn7 h k h0 h1
  exact ⟨j, j0, j1, j2, fun i i0 i1 e => jn8 h _ i j r.1 r.2 i0 i1 j1 (by rw [e, j2])⟩
theorem jpl_R {M : jMem} (h : jK M) {k : Int} (h0 : 0 ≤ k) (h1 : k < 12) : ∀ q, 0 ≤ q → q < M 17 (M 10 k) → jR (M 16 (6 * M 10 k + q)) := by
  intro q q0 q1
  have s := (jn1 h).1
  have r := (jn3 h k h0 h1).1
  have := (jn6 h _ q r.1 r.2 q0 q1).1
  omega
end
section
def jP (v v' : Option Value) (M : jMem) : Prop := ∃ x : Int, v = some (.long (jL x)) ∧ v' = some (.long (jL x)) ∧ jJ M
theorem e_needs1 {G : jG} {d : Nat} {M : jMem} {Q : Option Value → jMem → Prop} {k v : Int} (hk : 0 ≤ k ∧ k < 12) (h1 : jbit (M 43 k) v → Q (some (.int (jI 1))) M) (h0 : ¬ jbit (M 43 k) v → Q (some (.int (jI 0))) M) : jN G mX8_needs1 (d) [.ref (jad G 8), .int (jI k), .int (jI v)] M Q := by
  show jM G mX8_needs1 (d) 0 [.ref (jad G 8), .int (jI k), .int (jI v)] [] M Q
  refine jr_aload_n (n := 1) dX8_needs1_0 rfl rfl ?_
  refine jr_getR (n := 4) dX8_needs1_1 rfl fX8_25 rfl (by decide) (by decide) rfl ?_
  refine jr_iload_n (n := 5) dX8_needs1_4 rfl rfl ?_
  refine jr_iald (n := 6) dX8_needs1_5 rfl rfl (by decide) (by omega) (by omega) ?_
  refine jr_iload_n (n := 7) dX8_needs1_6 rfl rfl ?_
  refine jr_ishr (n := 8) dX8_needs1_7 rfl ?_
  refine jr_iconst (n := 9) dX8_needs1_8 rfl ?_
  refine jr_iand (n := 10) dX8_needs1_9 rfl ?_
  refine jr_iconst (n := 11) dX8_needs1_10 rfl ?_
  refine jr_icmp_ne (n := 14) (t := 18) dX8_needs1_11 (by decide) rfl (jand_R _ _) (by decide) (fun b11 => ?_) (fun b11 => ?_)
  · refine jr_iconst (n := 19) dX8_needs1_18 rfl ?_
    refine jr_zret dX8_needs1_19 rfl (by decide) ?_
    first | exact h1 (jbit1.mpr (by omega)) | exact h0 (fun z => by have := jbit1.mp z; omega)
  · refine jr_iconst (n := 15) dX8_needs1_14 rfl ?_
    refine jr_goto (t := 19) dX8_needs1_15 (by decide) ?_
    refine jr_zret dX8_needs1_19 rfl (by decide) ?_
    first | exact h1 (jbit1.mpr (by omega)) | exact h0 (fun z => by have := jbit1.mp z; omega)

theorem c_fold {G : jG} {d : Nat} {M : jMem} {Q : Option Value → jMem → Prop} (hI : jK M) {k v : Int} (hk : jR k) (hv : jR v) (hB : ¬ ((0 ≤ k ∧ k < M 1 8) ∧ (0 ≤ v ∧ v ≤ 100)) → Q (some (.long (jL (-9000000000000000001)))) M) (h : 0 ≤ k → k < M 1 8 → 0 ≤ v → v ≤ 100 → Q (some (.long (jL (M 12 k)))) (jup M 12 k v)) : jN G mX7_fold (d + 2) [.ref (jad G 0), .int (jI k), .int (jI v)] M Q := by
  show jM G mX7_fold (d + 2) 0 [.ref (jad G 0), .int (jI k), .int (jI v), .null] [] M Q
  have hz := jn1 hI
  refine jr_aload_n (n := 1) dX7_fold_0 rfl rfl ?_
  refine jr_getR (n := 4) dX7_fold_1 rfl fX7_10 rfl (by decide) (by decide) rfl ?_
  refine jr_iload_n (n := 5) dX7_fold_4 rfl rfl ?_
  refine jr_cV1 (n := 8) (ci := 2) (ν := mX2_has) dX7_fold_5 rfl lX7_99 kX2_has iX2_has rfl ⟨_, rfl, rfl⟩ (by decide) (Nat.le_of_ble_eq_true rfl) (Nat.le_of_ble_eq_true rfl) rfl ?_
  refine c_hasC (by omega) (by omega) (fun b5 b5b => ?_) (fun b5 => ?_)
  · refine jr_ifF_eq (n := 11) (t := 21) dX7_fold_8 rfl (by decide) (by decide) (by decide) ?_
    refine jr_iload_n (n := 12) dX7_fold_11 rfl rfl ?_
    refine jr_iconst (n := 13) dX7_fold_12 rfl ?_
    refine jr_bipush (n := 15) dX7_fold_13 rfl (by decide) ?_
    refine jr_cS3 (n := 18) (ν := mX7_isWithin) dX7_fold_15 rfl lX7_66 kX7_isWithin iX7_isWithin (Nat.le_of_ble_eq_true rfl) (Nat.le_of_ble_eq_true rfl) rfl ?_
    refine c_isWithin (by omega) (by omega) (by omega) (fun b15 b15b => ?_) (fun b15 => ?_)
    · refine jr_ifT_ne (t := 25) dX7_fold_18 (by decide) (by decide) (by decide) ?_
      refine jr_aload_n (n := 26) dX7_fold_25 rfl rfl ?_
      refine jr_getR (n := 29) dX7_fold_26 rfl fX7_10 rfl (by decide) (by decide) rfl ?_
      refine jr_getR (n := 32) dX7_fold_29 rfl fX7_114 rfl (by decide) (by decide) rfl ?_
      refine jr_iload_n (n := 33) dX7_fold_32 rfl rfl ?_
      refine jr_iald (n := 34) dX7_fold_33 rfl rfl (by decide) (by omega) (by omega) ?_
      refine jr_istore3 (n := 35) dX7_fold_34 rfl (by decide) rfl ?_
      refine jr_aload_n (n := 36) dX7_fold_35 rfl rfl ?_
      refine jr_getR (n := 39) dX7_fold_36 rfl fX7_10 rfl (by decide) (by decide) rfl ?_
      refine jr_getR (n := 42) dX7_fold_39 rfl fX7_114 rfl (by decide) (by decide) rfl ?_
      refine jr_iload_n (n := 43) dX7_fold_42 rfl rfl ?_
      refine jr_iload_n (n := 44) dX7_fold_43 rfl rfl ?_
      refine jr_iast (n := 45) dX7_fold_44 rfl rfl (by decide) (by omega) (by omega) ?_
      have hr := jn3 hI k (by omega) (by omega)
      refine jr_iload_n (n := 46) dX7_fold_45 rfl rfl ?_
      refine jr_i2l (n := 47) dX7_fold_46 rfl (by omega) ?_
      refine jr_lret dX7_fold_47 rfl ?_
      first | exact hB (by omega) | exact h (by omega) (by omega) (by omega) (by omega)
    · refine jr_ifF_ne (n := 21) (t := 25) dX7_fold_18 rfl (by decide) (by decide) (by decide) ?_
      refine jr_ldc2 (n := 24) dX7_fold_21 rfl rfl qX7_70 vX7_70 ?_
      refine jr_lret dX7_fold_24 rfl ?_
      first | exact hB (by omega) | exact h (by omega) (by omega) (by omega) (by omega)
  · refine jr_ifT_eq (t := 21) dX7_fold_8 (by decide) (by decide) (by decide) ?_
    refine jr_ldc2 (n := 24) dX7_fold_21 rfl rfl qX7_70 vX7_70 ?_
    refine jr_lret dX7_fold_24 rfl ?_
    first | exact hB (by omega) | exact h (by omega) (by omega) (by omega) (by omega)

theorem c_fate {G : jG} {d : Nat} {M : jMem} {Q : Option Value → jMem → Prop} (hI : jK M) {k v : Int} (hk : jR k) (hv : jR v) (hB : ¬ ((0 ≤ k ∧ k < M 1 8) ∧ (-1 ≤ v ∧ v ≤ 20)) → Q (some (.long (jL (-9000000000000000001)))) M) (h : 0 ≤ k → k < M 1 8 → -1 ≤ v → v ≤ 20 → Q (some (.long (jL (M 14 k)))) (jup M 14 k v)) : jN G mX7_fate (d + 2) [.ref (jad G 0), .int (jI k), .int (jI v)] M Q := by
  show jM G mX7_fate (d + 2) 0 [.ref (jad G 0), .int (jI k), .int (jI v), .null] [] M Q
  have hz := jn1 hI
  refine jr_aload_n (n := 1) dX7_fate_0 rfl rfl ?_
  refine jr_getR (n := 4) dX7_fate_1 rfl fX7_10 rfl (by decide) (by decide) rfl ?_
  refine jr_iload_n (n := 5) dX7_fate_4 rfl rfl ?_
  refine jr_cV1 (n := 8) (ci := 2) (ν := mX2_has) dX7_fate_5 rfl lX7_99 kX2_has iX2_has rfl ⟨_, rfl, rfl⟩ (by decide) (Nat.le_of_ble_eq_true rfl) (Nat.le_of_ble_eq_true rfl) rfl ?_
  refine c_hasC (by omega) (by omega) (fun b5 b5b => ?_) (fun b5 => ?_)
  · refine jr_ifF_eq (n := 11) (t := 21) dX7_fate_8 rfl (by decide) (by decide) (by decide) ?_
    refine jr_iload_n (n := 12) dX7_fate_11 rfl rfl ?_
    refine jr_iconst (n := 13) dX7_fate_12 rfl ?_
    refine jr_bipush (n := 15) dX7_fate_13 rfl (by decide) ?_
    refine jr_cS3 (n := 18) (ν := mX7_isWithin) dX7_fate_15 rfl lX7_66 kX7_isWithin iX7_isWithin (Nat.le_of_ble_eq_true rfl) (Nat.le_of_ble_eq_true rfl) rfl ?_
    refine c_isWithin (by omega) (by omega) (by omega) (fun b15 b15b => ?_) (fun b15 => ?_)
    · refine jr_ifT_ne (t := 25) dX7_fate_18 (by decide) (by decide) (by decide) ?_
      refine jr_aload_n (n := 26) dX7_fate_25 rfl rfl ?_
      refine jr_getR (n := 29) dX7_fate_26 rfl fX7_10 rfl (by decide) (by decide) rfl ?_
      refine jr_getR (n := 32) dX7_fate_29 rfl fX7_127 rfl (by decide) (by decide) rfl ?_
      refine jr_iload_n (n := 33) dX7_fate_32 rfl rfl ?_
      refine jr_iald (n := 34) dX7_fate_33 rfl rfl (by decide) (by omega) (by omega) ?_
      refine jr_istore3 (n := 35) dX7_fate_34 rfl (by decide) rfl ?_
      refine jr_aload_n (n := 36) dX7_fate_35 rfl rfl ?_
      refine jr_getR (n := 39) dX7_fate_36 rfl fX7_10 rfl (by decide) (by decide) rfl ?_
      refine jr_getR (n := 42) dX7_fate_39 rfl fX7_127 rfl (by decide) (by decide) rfl ?_
      refine jr_iload_n (n := 43) dX7_fate_42 rfl rfl ?_
      refine jr_iload_n (n := 44) dX7_fate_43 rfl rfl ?_
      refine jr_iast (n := 45) dX7_fate_44 rfl rfl (by decide) (by omega) (by omega) ?_
      have hr := jn3 hI k (by omega) (by omega)
      refine jr_iload_n (n := 46) dX7_fate_45 rfl rfl ?_
      refine jr_i2l (n := 47) dX7_fate_46 rfl (by omega) ?_
      refine jr_lret dX7_fate_47 rfl ?_
      first | exact hB (by omega) | exact h (by omega) (by omega) (by omega) (by omega)
    · refine jr_ifF_ne (n := 21) (t := 25) dX7_fate_18 rfl (by decide) (by decide) (by decide) ?_
      refine jr_ldc2 (n := 24) dX7_fate_21 rfl rfl qX7_70 vX7_70 ?_
      refine jr_lret dX7_fate_24 rfl ?_
      first | exact hB (by omega) | exact h (by omega) (by omega) (by omega) (by omega)
  · refine jr_ifT_eq (t := 21) dX7_fate_8 (by decide) (by decide) (by decide) ?_
    refine jr_ldc2 (n := 24) dX7_fate_21 rfl rfl qX7_70 vX7_70 ?_
    refine jr_lret dX7_fate_24 rfl ?_
    first | exact hB (by omega) | exact h (by omega) (by omega) (by omega) (by omega)

theorem c_isOf {G : jG} {d : Nat} {M : jMem} {Q : Option Value → jMem → Prop} (hI : jK M) {k v : Int} (hk : jR k) (hv : jR v) (hB : ¬ ((0 ≤ k ∧ k < M 2 3) ∧ (0 ≤ v ∧ v ≤ 4)) → Q (some (.long (jL (-9000000000000000001)))) M) (h : 0 ≤ k → k < M 2 3 → 0 ≤ v → v ≤ 4 → Q (some (.long (jL (if v = 0 ∨ v = M 18 k ∨ (v = 3 ∧ M 18 k = 4) then 1 else 0)))) M) : jN G mX7_isOf (d + 2) [.ref (jad G 0), .int (jI k), .int (jI v)] M Q := by
  show jM G mX7_isOf (d + 2) 0 [.ref (jad G 0), .int (jI k), .int (jI v), .null, .null] [] M Q
  have hz := jn1 hI
  refine jr_aload_n (n := 1) dX7_isOf_0 rfl rfl ?_
  refine jr_getR (n := 4) dX7_isOf_1 rfl fX7_19 rfl (by decide) (by decide) rfl ?_
  refine jr_iload_n (n := 5) dX7_isOf_4 rfl rfl ?_
  refine jr_cV1 (n := 8) (ci := 4) (ν := mX4_has) dX7_isOf_5 rfl lX7_89 kX4_has iX4_has rfl ⟨_, rfl, rfl⟩ (by decide) (Nat.le_of_ble_eq_true rfl) (Nat.le_of_ble_eq_true rfl) rfl ?_
  refine c_hasW (by omega) (by omega) (fun b5 b5b => ?_) (fun b5 => ?_)
  · refine jr_ifF_eq (n := 11) (t := 20) dX7_isOf_8 rfl (by decide) (by decide) (by decide) ?_
    refine jr_iload_n (n := 12) dX7_isOf_11 rfl rfl ?_
    refine jr_iconst (n := 13) dX7_isOf_12 rfl ?_
    refine jr_iconst (n := 14) dX7_isOf_13 rfl ?_
    refine jr_cS3 (n := 17) (ν := mX7_isWithin) dX7_isOf_14 rfl lX7_66 kX7_isWithin iX7_isWithin (Nat.le_of_ble_eq_true rfl) (Nat.le_of_ble_eq_true rfl) rfl ?_
    refine c_isWithin (by omega) (by omega) (by omega) (fun b14 b14b => ?_) (fun b14 => ?_)
    · refine jr_ifT_ne (t := 24) dX7_isOf_17 (by decide) (by decide) (by decide) ?_
      refine jr_aload_n (n := 25) dX7_isOf_24 rfl rfl ?_
      refine jr_getR (n := 28) dX7_isOf_25 rfl fX7_19 rfl (by decide) (by decide) rfl ?_
      refine jr_getR (n := 31) dX7_isOf_28 rfl fX7_92 rfl (by decide) (by decide) rfl ?_
      refine jr_iload_n (n := 32) dX7_isOf_31 rfl rfl ?_
      refine jr_iald (n := 33) dX7_isOf_32 rfl rfl (by decide) (by omega) (by omega) ?_
      have hr := jn9 hI k (by omega) (by omega)
      refine jr_istore3 (n := 34) dX7_isOf_33 rfl (by decide) rfl ?_
      refine jr_iload_n (n := 35) dX7_isOf_34 rfl rfl ?_
      refine jr_iconst (n := 36) dX7_isOf_35 rfl ?_
      refine jr_icmp_ne (n := 39) (t := 48) dX7_isOf_36 (by decide) rfl (by omega) (by omega) (fun b36 => ?_) (fun b36 => ?_)
      · refine jr_iconst (n := 49) dX7_isOf_48 rfl ?_
        refine jr_istore4 (n := 51) dX7_isOf_49 rfl (by decide) rfl ?_
        refine jr_iload_n (n := 52) dX7_isOf_51 rfl rfl ?_
        refine jr_if_eq (n := 55) (t := 65) dX7_isOf_52 (by decide) rfl (by omega) (fun b52 => ?_) (fun b52 => ?_)
        · refine jr_iconst (n := 66) dX7_isOf_65 rfl ?_
          refine jr_goto (t := 70) dX7_isOf_66 (by decide) ?_
          refine jr_cS1 (n := 73) (ν := mX7_asLong) dX7_isOf_70 rfl lX7_95 kX7_asLong iX7_asLong (Nat.le_of_ble_eq_true rfl) (Nat.le_of_ble_eq_true rfl) rfl ?_
          refine c_asLong (by omega) ?_
          refine jr_lret dX7_isOf_73 rfl ?_
          first | exact hB (by omega) | (have h := h (by omega) (by omega) (by omega) (by omega); rw [if_pos (by omega)] at h; exact h) | (have h := h (by omega) (by omega) (by omega) (by omega); rw [if_neg (by omega)] at h; exact h)
        · refine jr_iload_n (n := 56) dX7_isOf_55 rfl rfl ?_
          refine jr_iload_n (n := 57) dX7_isOf_56 rfl rfl ?_
          refine jr_icmp_eq (n := 60) (t := 65) dX7_isOf_57 (by decide) rfl (by omega) (by omega) (fun b57 => ?_) (fun b57 => ?_)
          · refine jr_iconst (n := 66) dX7_isOf_65 rfl ?_
            refine jr_goto (t := 70) dX7_isOf_66 (by decide) ?_
            refine jr_cS1 (n := 73) (ν := mX7_asLong) dX7_isOf_70 rfl lX7_95 kX7_asLong iX7_asLong (Nat.le_of_ble_eq_true rfl) (Nat.le_of_ble_eq_true rfl) rfl ?_
            refine c_asLong (by omega) ?_
            refine jr_lret dX7_isOf_73 rfl ?_
            first | exact hB (by omega) | (have h := h (by omega) (by omega) (by omega) (by omega); rw [if_pos (by omega)] at h; exact h) | (have h := h (by omega) (by omega) (by omega) (by omega); rw [if_neg (by omega)] at h; exact h)
          · refine jr_iload (n := 62) dX7_isOf_60 rfl rfl ?_
            refine jr_ifT_eq (t := 69) dX7_isOf_62 (by decide) (by decide) (by decide) ?_
            refine jr_iconst (n := 70) dX7_isOf_69 rfl ?_
            refine jr_cS1 (n := 73) (ν := mX7_asLong) dX7_isOf_70 rfl lX7_95 kX7_asLong iX7_asLong (Nat.le_of_ble_eq_true rfl) (Nat.le_of_ble_eq_true rfl) rfl ?_
            refine c_asLong (by omega) ?_
            refine jr_lret dX7_isOf_73 rfl ?_
            first | exact hB (by omega) | (have h := h (by omega) (by omega) (by omega) (by omega); rw [if_pos (by omega)] at h; exact h) | (have h := h (by omega) (by omega) (by omega) (by omega); rw [if_neg (by omega)] at h; exact h)
      · refine jr_iload_n (n := 40) dX7_isOf_39 rfl rfl ?_
        refine jr_iconst (n := 41) dX7_isOf_40 rfl ?_
        refine jr_icmp_ne (n := 44) (t := 48) dX7_isOf_41 (by decide) rfl (by omega) (by omega) (fun b41 => ?_) (fun b41 => ?_)
        · refine jr_iconst (n := 49) dX7_isOf_48 rfl ?_
          refine jr_istore4 (n := 51) dX7_isOf_49 rfl (by decide) rfl ?_
          refine jr_iload_n (n := 52) dX7_isOf_51 rfl rfl ?_
          refine jr_if_eq (n := 55) (t := 65) dX7_isOf_52 (by decide) rfl (by omega) (fun b52 => ?_) (fun b52 => ?_)
          · refine jr_iconst (n := 66) dX7_isOf_65 rfl ?_
            refine jr_goto (t := 70) dX7_isOf_66 (by decide) ?_
            refine jr_cS1 (n := 73) (ν := mX7_asLong) dX7_isOf_70 rfl lX7_95 kX7_asLong iX7_asLong (Nat.le_of_ble_eq_true rfl) (Nat.le_of_ble_eq_true rfl) rfl ?_
            refine c_asLong (by omega) ?_
            refine jr_lret dX7_isOf_73 rfl ?_
            first | exact hB (by omega) | (have h := h (by omega) (by omega) (by omega) (by omega); rw [if_pos (by omega)] at h; exact h) | (have h := h (by omega) (by omega) (by omega) (by omega); rw [if_neg (by omega)] at h; exact h)
          · refine jr_iload_n (n := 56) dX7_isOf_55 rfl rfl ?_
            refine jr_iload_n (n := 57) dX7_isOf_56 rfl rfl ?_
            refine jr_icmp_eq (n := 60) (t := 65) dX7_isOf_57 (by decide) rfl (by omega) (by omega) (fun b57 => ?_) (fun b57 => ?_)
            · refine jr_iconst (n := 66) dX7_isOf_65 rfl ?_
              refine jr_goto (t := 70) dX7_isOf_66 (by decide) ?_
              refine jr_cS1 (n := 73) (ν := mX7_asLong) dX7_isOf_70 rfl lX7_95 kX7_asLong iX7_asLong (Nat.le_of_ble_eq_true rfl) (Nat.le_of_ble_eq_true rfl) rfl ?_
              refine c_asLong (by omega) ?_
              refine jr_lret dX7_isOf_73 rfl ?_
              first | exact hB (by omega) | (have h := h (by omega) (by omega) (by omega) (by omega); rw [if_pos (by omega)] at h; exact h) | (have h := h (by omega) (by omega) (by omega) (by omega); rw [if_neg (by omega)] at h; exact h)
            · refine jr_iload (n := 62) dX7_isOf_60 rfl rfl ?_
              refine jr_ifT_eq (t := 69) dX7_isOf_62 (by decide) (by decide) (by decide) ?_
              refine jr_iconst (n := 70) dX7_isOf_69 rfl ?_
              refine jr_cS1 (n := 73) (ν := mX7_asLong) dX7_isOf_70 rfl lX7_95 kX7_asLong iX7_asLong (Nat.le_of_ble_eq_true rfl) (Nat.le_of_ble_eq_true rfl) rfl ?_
              refine c_asLong (by omega) ?_
              refine jr_lret dX7_isOf_73 rfl ?_
              first | exact hB (by omega) | (have h := h (by omega) (by omega) (by omega) (by omega); rw [if_pos (by omega)] at h; exact h) | (have h := h (by omega) (by omega) (by omega) (by omega); rw [if_neg (by omega)] at h; exact h)
        · refine jr_iconst (n := 45) dX7_isOf_44 rfl ?_
          refine jr_goto (t := 49) dX7_isOf_45 (by decide) ?_
          refine jr_istore4 (n := 51) dX7_isOf_49 rfl (by decide) rfl ?_
          refine jr_iload_n (n := 52) dX7_isOf_51 rfl rfl ?_
          refine jr_if_eq (n := 55) (t := 65) dX7_isOf_52 (by decide) rfl (by omega) (fun b52 => ?_) (fun b52 => ?_)
          · refine jr_iconst (n := 66) dX7_isOf_65 rfl ?_
            refine jr_goto (t := 70) dX7_isOf_66 (by decide) ?_
            refine jr_cS1 (n := 73) (ν := mX7_asLong) dX7_isOf_70 rfl lX7_95 kX7_asLong iX7_asLong (Nat.le_of_ble_eq_true rfl) (Nat.le_of_ble_eq_true rfl) rfl ?_
            refine c_asLong (by omega) ?_
            refine jr_lret dX7_isOf_73 rfl ?_
            first | exact hB (by omega) | (have h := h (by omega) (by omega) (by omega) (by omega); rw [if_pos (by omega)] at h; exact h) | (have h := h (by omega) (by omega) (by omega) (by omega); rw [if_neg (by omega)] at h; exact h)
          · refine jr_iload_n (n := 56) dX7_isOf_55 rfl rfl ?_
            refine jr_iload_n (n := 57) dX7_isOf_56 rfl rfl ?_
            refine jr_icmp_eq (n := 60) (t := 65) dX7_isOf_57 (by decide) rfl (by omega) (by omega) (fun b57 => ?_) (fun b57 => ?_)
            · refine jr_iconst (n := 66) dX7_isOf_65 rfl ?_
              refine jr_goto (t := 70) dX7_isOf_66 (by decide) ?_
              refine jr_cS1 (n := 73) (ν := mX7_asLong) dX7_isOf_70 rfl lX7_95 kX7_asLong iX7_asLong (Nat.le_of_ble_eq_true rfl) (Nat.le_of_ble_eq_true rfl) rfl ?_
              refine c_asLong (by omega) ?_
              refine jr_lret dX7_isOf_73 rfl ?_
              first | exact hB (by omega) | (have h := h (by omega) (by omega) (by omega) (by omega); rw [if_pos (by omega)] at h; exact h) | (have h := h (by omega) (by omega) (by omega) (by omega); rw [if_neg (by omega)] at h; exact h)
            · refine jr_iload (n := 62) dX7_isOf_60 rfl rfl ?_
              refine jr_ifF_eq (n := 65) (t := 69) dX7_isOf_62 rfl (by decide) (by decide) (by decide) ?_
              refine jr_iconst (n := 66) dX7_isOf_65 rfl ?_
              refine jr_goto (t := 70) dX7_isOf_66 (by decide) ?_
              refine jr_cS1 (n := 73) (ν := mX7_asLong) dX7_isOf_70 rfl lX7_95 kX7_asLong iX7_asLong (Nat.le_of_ble_eq_true rfl) (Nat.le_of_ble_eq_true rfl) rfl ?_
              refine c_asLong (by omega) ?_
              refine jr_lret dX7_isOf_73 rfl ?_
              first | exact hB (by omega) | (have h := h (by omega) (by omega) (by omega) (by omega); rw [if_pos (by omega)] at h; exact h) | (have h := h (by omega) (by omega) (by omega) (by omega); rw [if_neg (by omega)] at h; exact h)
    · refine jr_ifF_ne (n := 20) (t := 24) dX7_isOf_17 rfl (by decide) (by decide) (by decide) ?_
      refine jr_ldc2 (n := 23) dX7_isOf_20 rfl rfl qX7_70 vX7_70 ?_
      refine jr_lret dX7_isOf_23 rfl ?_
      first | exact hB (by omega) | (have h := h (by omega) (by omega) (by omega) (by omega); rw [if_pos (by omega)] at h; exact h) | (have h := h (by omega) (by omega) (by omega) (by omega); rw [if_neg (by omega)] at h; exact h)
  · refine jr_ifT_eq (t := 20) dX7_isOf_8 (by decide) (by decide) (by decide) ?_
    refine jr_ldc2 (n := 23) dX7_isOf_20 rfl rfl qX7_70 vX7_70 ?_
    refine jr_lret dX7_isOf_23 rfl ?_
    first | exact hB (by omega) | (have h := h (by omega) (by omega) (by omega) (by omega); rw [if_pos (by omega)] at h; exact h) | (have h := h (by omega) (by omega) (by omega) (by omega); rw [if_neg (by omega)] at h; exact h)

theorem e_fold {G : jG} {d : Nat} {M : jMem} {Q : Option Value → jMem → Prop} (hI : jO M) {k v : Int} (hk : jR k) (hv : jR v) (hB : ¬ ((0 ≤ k ∧ k < M 8 2) ∧ (0 ≤ v ∧ v ≤ 100)) → Q (some (.long (jL (-9000000000000000001)))) M) (h : 0 ≤ k → k < M 8 2 → 0 ≤ v → v ≤ 100 → Q (some (.long (jL (M 42 k)))) (jup M 42 k v)) : jN G mX8_fold (d + 2) [.ref (jad G 8), .int (jI k), .int (jI v)] M Q := by
  show jM G mX8_fold (d + 2) 0 [.ref (jad G 8), .int (jI k), .int (jI v), .null] [] M Q
  have hz := jn1 hI
  refine jr_aload_n (n := 1) dX8_fold_0 rfl rfl ?_
  refine jr_iload_n (n := 2) dX8_fold_1 rfl rfl ?_
  refine jr_cV1 (n := 5) (ci := 8) (ν := mX8_isCase) dX8_fold_2 rfl lX8_118 kX8_isCase iX8_isCase rfl ⟨_, rfl, rfl⟩ (by decide) (Nat.le_of_ble_eq_true rfl) (Nat.le_of_ble_eq_true rfl) rfl ?_
  refine e_isCase (by omega) (by omega) (fun b2 b2b => ?_) (fun b2 => ?_)
  · refine jr_ifF_eq (n := 8) (t := 18) dX8_fold_5 rfl (by decide) (by decide) (by decide) ?_
    refine jr_iload_n (n := 9) dX8_fold_8 rfl rfl ?_
    refine jr_iconst (n := 10) dX8_fold_9 rfl ?_
    refine jr_bipush (n := 12) dX8_fold_10 rfl (by decide) ?_
    refine jr_cS3 (n := 15) (ν := mX8_isIn) dX8_fold_12 rfl lX8_92 kX8_isIn iX8_isIn (Nat.le_of_ble_eq_true rfl) (Nat.le_of_ble_eq_true rfl) rfl ?_
    refine e_isIn (by omega) (by omega) (by omega) (fun b12 b12b => ?_) (fun b12 => ?_)
    · refine jr_ifT_ne (t := 22) dX8_fold_15 (by decide) (by decide) (by decide) ?_
      refine jr_aload_n (n := 23) dX8_fold_22 rfl rfl ?_
      refine jr_getR (n := 26) dX8_fold_23 rfl fX8_22 rfl (by decide) (by decide) rfl ?_
      refine jr_iload_n (n := 27) dX8_fold_26 rfl rfl ?_
      refine jr_iald (n := 28) dX8_fold_27 rfl rfl (by decide) (by omega) (by omega) ?_
      refine jr_istore3 (n := 29) dX8_fold_28 rfl (by decide) rfl ?_
      refine jr_aload_n (n := 30) dX8_fold_29 rfl rfl ?_
      refine jr_getR (n := 33) dX8_fold_30 rfl fX8_22 rfl (by decide) (by decide) rfl ?_
      refine jr_iload_n (n := 34) dX8_fold_33 rfl rfl ?_
      refine jr_iload_n (n := 35) dX8_fold_34 rfl rfl ?_
      refine jr_iast (n := 36) dX8_fold_35 rfl rfl (by decide) (by omega) (by omega) ?_
      have hr := jn3 hI k (by omega) (by omega)
      refine jr_iload_n (n := 37) dX8_fold_36 rfl rfl ?_
      refine jr_i2l (n := 38) dX8_fold_37 rfl (by omega) ?_
      refine jr_lret dX8_fold_38 rfl ?_
      first | exact hB (by omega) | exact h (by omega) (by omega) (by omega) (by omega)
    · refine jr_ifF_ne (n := 18) (t := 22) dX8_fold_15 rfl (by decide) (by decide) (by decide) ?_
      refine jr_ldc2 (n := 21) dX8_fold_18 rfl rfl qX8_107 vX8_107 ?_
      refine jr_lret dX8_fold_21 rfl ?_
      first | exact hB (by omega) | exact h (by omega) (by omega) (by omega) (by omega)
  · refine jr_ifT_eq (t := 18) dX8_fold_5 (by decide) (by decide) (by decide) ?_
    refine jr_ldc2 (n := 21) dX8_fold_18 rfl rfl qX8_107 vX8_107 ?_
    refine jr_lret dX8_fold_21 rfl ?_
    first | exact hB (by omega) | exact h (by omega) (by omega) (by omega) (by omega)

theorem e_fate {G : jG} {d : Nat} {M : jMem} {Q : Option Value → jMem → Prop} (hI : jO M) {k v : Int} (hk : jR k) (hv : jR v) (hB : ¬ ((0 ≤ k ∧ k < M 8 2) ∧ (-1 ≤ v ∧ v ≤ 20)) → Q (some (.long (jL (-9000000000000000001)))) M) (h : 0 ≤ k → k < M 8 2 → -1 ≤ v → v ≤ 20 → Q (some (.long (jL (M 44 k)))) (jup M 44 k v)) : jN G mX8_fate (d + 2) [.ref (jad G 8), .int (jI k), .int (jI v)] M Q := by
  show jM G mX8_fate (d + 2) 0 [.ref (jad G 8), .int (jI k), .int (jI v), .null] [] M Q
  have hz := jn1 hI
  refine jr_aload_n (n := 1) dX8_fate_0 rfl rfl ?_
  refine jr_iload_n (n := 2) dX8_fate_1 rfl rfl ?_
  refine jr_cV1 (n := 5) (ci := 8) (ν := mX8_isCase) dX8_fate_2 rfl lX8_118 kX8_isCase iX8_isCase rfl ⟨_, rfl, rfl⟩ (by decide) (Nat.le_of_ble_eq_true rfl) (Nat.le_of_ble_eq_true rfl) rfl ?_
  refine e_isCase (by omega) (by omega) (fun b2 b2b => ?_) (fun b2 => ?_)
  · refine jr_ifF_eq (n := 8) (t := 18) dX8_fate_5 rfl (by decide) (by decide) (by decide) ?_
    refine jr_iload_n (n := 9) dX8_fate_8 rfl rfl ?_
    refine jr_iconst (n := 10) dX8_fate_9 rfl ?_
    refine jr_bipush (n := 12) dX8_fate_10 rfl (by decide) ?_
    refine jr_cS3 (n := 15) (ν := mX8_isIn) dX8_fate_12 rfl lX8_92 kX8_isIn iX8_isIn (Nat.le_of_ble_eq_true rfl) (Nat.le_of_ble_eq_true rfl) rfl ?_
    refine e_isIn (by omega) (by omega) (by omega) (fun b12 b12b => ?_) (fun b12 => ?_)
    · refine jr_ifT_ne (t := 22) dX8_fate_15 (by decide) (by decide) (by decide) ?_
      refine jr_aload_n (n := 23) dX8_fate_22 rfl rfl ?_
      refine jr_getR (n := 26) dX8_fate_23 rfl fX8_28 rfl (by decide) (by decide) rfl ?_
      refine jr_iload_n (n := 27) dX8_fate_26 rfl rfl ?_
      refine jr_iald (n := 28) dX8_fate_27 rfl rfl (by decide) (by omega) (by omega) ?_
      refine jr_istore3 (n := 29) dX8_fate_28 rfl (by decide) rfl ?_
      refine jr_aload_n (n := 30) dX8_fate_29 rfl rfl ?_
      refine jr_getR (n := 33) dX8_fate_30 rfl fX8_28 rfl (by decide) (by decide) rfl ?_
      refine jr_iload_n (n := 34) dX8_fate_33 rfl rfl ?_
      refine jr_iload_n (n := 35) dX8_fate_34 rfl rfl ?_
      refine jr_iast (n := 36) dX8_fate_35 rfl rfl (by decide) (by omega) (by omega) ?_
      have hr := jn3 hI k (by omega) (by omega)
      refine jr_iload_n (n := 37) dX8_fate_36 rfl rfl ?_
      refine jr_i2l (n := 38) dX8_fate_37 rfl (by omega) ?_
      refine jr_lret dX8_fate_38 rfl ?_
      first | exact hB (by omega) | exact h (by omega) (by omega) (by omega) (by omega)
    · refine jr_ifF_ne (n := 18) (t := 22) dX8_fate_15 rfl (by decide) (by decide) (by decide) ?_
      refine jr_ldc2 (n := 21) dX8_fate_18 rfl rfl qX8_107 vX8_107 ?_
      refine jr_lret dX8_fate_21 rfl ?_
      first | exact hB (by omega) | exact h (by omega) (by omega) (by omega) (by omega)
  · refine jr_ifT_eq (t := 18) dX8_fate_5 (by decide) (by decide) (by decide) ?_
    refine jr_ldc2 (n := 21) dX8_fate_18 rfl rfl qX8_107 vX8_107 ?_
    refine jr_lret dX8_fate_21 rfl ?_
    first | exact hB (by omega) | exact h (by omega) (by omega) (by omega) (by omega)

theorem e_isOf {G : jG} {d : Nat} {M : jMem} {Q : Option Value → jMem → Prop} (hI : jO M) {k v : Int} (hk : jR k) (hv : jR v) (hB : ¬ ((0 ≤ k ∧ k < M 8 8) ∧ (0 ≤ v ∧ v ≤ 4)) → Q (some (.long (jL (-9000000000000000001)))) M) (h : 0 ≤ k → k < M 8 8 → 0 ≤ v → v ≤ 4 → Q (some (.long (jL (if v = 0 ∨ v = M 45 k ∨ (v = 3 ∧ M 45 k = 4) then 1 else 0)))) M) : jN G mX8_isOf (d + 2) [.ref (jad G 8), .int (jI k), .int (jI v)] M Q := by
  show jM G mX8_isOf (d + 2) 0 [.ref (jad G 8), .int (jI k), .int (jI v), .null] [] M Q
  have hz := jn1 hI
  refine jr_aload_n (n := 1) dX8_isOf_0 rfl rfl ?_
  refine jr_iload_n (n := 2) dX8_isOf_1 rfl rfl ?_
  refine jr_cV1 (n := 5) (ci := 8) (ν := mX8_isWitness) dX8_isOf_2 rfl lX8_115 kX8_isWitness iX8_isWitness rfl ⟨_, rfl, rfl⟩ (by decide) (Nat.le_of_ble_eq_true rfl) (Nat.le_of_ble_eq_true rfl) rfl ?_
  refine e_isWitness (by omega) (by omega) (fun b2 b2b => ?_) (fun b2 => ?_)
  · refine jr_ifF_eq (n := 8) (t := 17) dX8_isOf_5 rfl (by decide) (by decide) (by decide) ?_
    refine jr_iload_n (n := 9) dX8_isOf_8 rfl rfl ?_
    refine jr_iconst (n := 10) dX8_isOf_9 rfl ?_
    refine jr_iconst (n := 11) dX8_isOf_10 rfl ?_
    refine jr_cS3 (n := 14) (ν := mX8_isIn) dX8_isOf_11 rfl lX8_92 kX8_isIn iX8_isIn (Nat.le_of_ble_eq_true rfl) (Nat.le_of_ble_eq_true rfl) rfl ?_
    refine e_isIn (by omega) (by omega) (by omega) (fun b11 b11b => ?_) (fun b11 => ?_)
    · refine jr_ifT_ne (t := 21) dX8_isOf_14 (by decide) (by decide) (by decide) ?_
      refine jr_aload_n (n := 22) dX8_isOf_21 rfl rfl ?_
      refine jr_getR (n := 25) dX8_isOf_22 rfl fX8_31 rfl (by decide) (by decide) rfl ?_
      refine jr_iload_n (n := 26) dX8_isOf_25 rfl rfl ?_
      refine jr_iald (n := 27) dX8_isOf_26 rfl rfl (by decide) (by omega) (by omega) ?_
      have hr := jn9 hI k (by omega) (by omega)
      refine jr_istore3 (n := 28) dX8_isOf_27 rfl (by decide) rfl ?_
      refine jr_iload_n (n := 29) dX8_isOf_28 rfl rfl ?_
      refine jr_if_eq (n := 32) (t := 47) dX8_isOf_29 (by decide) rfl (by omega) (fun b29 => ?_) (fun b29 => ?_)
      · refine jr_lconst (n := 48) (x := 1) dX8_isOf_47 rfl (by decide) ?_
        refine jr_goto (t := 52) dX8_isOf_48 (by decide) ?_
        refine jr_lret dX8_isOf_52 rfl ?_
        first | exact hB (by omega) | (have h := h (by omega) (by omega) (by omega) (by omega); rw [if_pos (by omega)] at h; exact h) | (have h := h (by omega) (by omega) (by omega) (by omega); rw [if_neg (by omega)] at h; exact h)
      · refine jr_iload_n (n := 33) dX8_isOf_32 rfl rfl ?_
        refine jr_iload_n (n := 34) dX8_isOf_33 rfl rfl ?_
        refine jr_icmp_eq (n := 37) (t := 47) dX8_isOf_34 (by decide) rfl (by omega) (by omega) (fun b34 => ?_) (fun b34 => ?_)
        · refine jr_lconst (n := 48) (x := 1) dX8_isOf_47 rfl (by decide) ?_
          refine jr_goto (t := 52) dX8_isOf_48 (by decide) ?_
          refine jr_lret dX8_isOf_52 rfl ?_
          first | exact hB (by omega) | (have h := h (by omega) (by omega) (by omega) (by omega); rw [if_pos (by omega)] at h; exact h) | (have h := h (by omega) (by omega) (by omega) (by omega); rw [if_neg (by omega)] at h; exact h)
        · refine jr_iload_n (n := 38) dX8_isOf_37 rfl rfl ?_
          refine jr_iconst (n := 39) dX8_isOf_38 rfl ?_
          refine jr_icmp_ne (n := 42) (t := 51) dX8_isOf_39 (by decide) rfl (by omega) (by omega) (fun b39 => ?_) (fun b39 => ?_)
          · refine jr_lconst (n := 52) (x := 0) dX8_isOf_51 rfl (by decide) ?_
            refine jr_lret dX8_isOf_52 rfl ?_
            first | exact hB (by omega) | (have h := h (by omega) (by omega) (by omega) (by omega); rw [if_pos (by omega)] at h; exact h) | (have h := h (by omega) (by omega) (by omega) (by omega); rw [if_neg (by omega)] at h; exact h)
          · refine jr_iload_n (n := 43) dX8_isOf_42 rfl rfl ?_
            refine jr_iconst (n := 44) dX8_isOf_43 rfl ?_
            refine jr_icmp_ne (n := 47) (t := 51) dX8_isOf_44 (by decide) rfl (by omega) (by omega) (fun b44 => ?_) (fun b44 => ?_)
            · refine jr_lconst (n := 52) (x := 0) dX8_isOf_51 rfl (by decide) ?_
              refine jr_lret dX8_isOf_52 rfl ?_
              first | exact hB (by omega) | (have h := h (by omega) (by omega) (by omega) (by omega); rw [if_pos (by omega)] at h; exact h) | (have h := h (by omega) (by omega) (by omega) (by omega); rw [if_neg (by omega)] at h; exact h)
            · refine jr_lconst (n := 48) (x := 1) dX8_isOf_47 rfl (by decide) ?_
              refine jr_goto (t := 52) dX8_isOf_48 (by decide) ?_
              refine jr_lret dX8_isOf_52 rfl ?_
              first | exact hB (by omega) | (have h := h (by omega) (by omega) (by omega) (by omega); rw [if_pos (by omega)] at h; exact h) | (have h := h (by omega) (by omega) (by omega) (by omega); rw [if_neg (by omega)] at h; exact h)
    · refine jr_ifF_ne (n := 17) (t := 21) dX8_isOf_14 rfl (by decide) (by decide) (by decide) ?_
      refine jr_ldc2 (n := 20) dX8_isOf_17 rfl rfl qX8_107 vX8_107 ?_
      refine jr_lret dX8_isOf_20 rfl ?_
      first | exact hB (by omega) | (have h := h (by omega) (by omega) (by omega) (by omega); rw [if_pos (by omega)] at h; exact h) | (have h := h (by omega) (by omega) (by omega) (by omega); rw [if_neg (by omega)] at h; exact h)
  · refine jr_ifT_eq (t := 17) dX8_isOf_5 (by decide) (by decide) (by decide) ?_
    refine jr_ldc2 (n := 20) dX8_isOf_17 rfl rfl qX8_107 vX8_107 ?_
    refine jr_lret dX8_isOf_20 rfl ?_
    first | exact hB (by omega) | (have h := h (by omega) (by omega) (by omega) (by omega); rw [if_pos (by omega)] at h; exact h) | (have h := h (by omega) (by omega) (by omega) (by omega); rw [if_neg (by omega)] at h; exact h)

theorem c_enterW {G : jG} {d : Nat} {M : jMem} {Q : Option Value → jMem → Prop} {a b : Int} (hz : 0 ≤ M 2 3 ∧ M 2 3 < 10) (h : Q (some (.int (jI (M 2 3)))) (jup (jup (jup M 2 3 (M 2 3 + 1)) 18 (M 2 3) a) 19 (M 2 3) b)) : jN G mX4_enter (d) [.ref (jad G 2), .int (jI a), .int (jI b)] M Q := by
  show jM G mX4_enter (d) 0 [.ref (jad G 2), .int (jI a), .int (jI b), .null] [] M Q
  refine jr_aload_n (n := 1) dX4_enter_0 rfl rfl ?_
  refine jr_getI (n := 4) (i := 3) rfl dX4_enter_1 rfl fX4_21 rfl (by decide) (by decide) rfl ?_
  refine jr_istore3 (n := 5) dX4_enter_4 rfl (by decide) rfl ?_
  refine jr_aload_n (n := 6) dX4_enter_5 rfl rfl ?_
  refine jr_dup (n := 7) dX4_enter_6 rfl rfl ?_
  refine jr_getI (n := 10) (i := 3) rfl dX4_enter_7 rfl fX4_21 rfl (by decide) (by decide) rfl ?_
  refine jr_iconst (n := 11) dX4_enter_10 rfl ?_
  refine jr_iadd (n := 12) dX4_enter_11 rfl ?_
  refine jr_putI (n := 15) (i := 3) rfl dX4_enter_12 rfl fX4_21 wX4_3 rfl (by decide) (by decide) rfl ?_
  refine jr_aload_n (n := 16) dX4_enter_15 rfl rfl ?_
  refine jr_getR (n := 19) dX4_enter_16 rfl fX4_9 rfl (by decide) (by decide) rfl ?_
  refine jr_iload_n (n := 20) dX4_enter_19 rfl rfl ?_
  refine jr_iload_n (n := 21) dX4_enter_20 rfl rfl ?_
  refine jr_iast (n := 22) dX4_enter_21 rfl rfl (by decide) (by omega) (by omega) ?_
  refine jr_aload_n (n := 23) dX4_enter_22 rfl rfl ?_
  refine jr_getR (n := 26) dX4_enter_23 rfl fX4_15 rfl (by decide) (by decide) rfl ?_
  refine jr_iload_n (n := 27) dX4_enter_26 rfl rfl ?_
  refine jr_iload_n (n := 28) dX4_enter_27 rfl rfl ?_
  refine jr_iast (n := 29) dX4_enter_28 rfl rfl (by decide) (by omega) (by omega) ?_
  refine jr_iload_n (n := 30) dX4_enter_29 rfl rfl ?_
  refine jr_iret dX4_enter_30 rfl ?_
  exact h

theorem c_witness {G : jG} {d : Nat} {M : jMem} {Q : Option Value → jMem → Prop} (hI : jK M) {a b : Int} (ha : jR a) (hb : jR b) (hB : ¬ ((0 ≤ a ∧ a ≤ 4) ∧ (0 ≤ b ∧ b ≤ 12)) → Q (some (.long (jL (-9000000000000000001)))) M) (hF : M 2 3 = 10 → Q (some (.long (jL (-9000000000000000003)))) M) (h : 0 ≤ a → a ≤ 4 → 0 ≤ b → b ≤ 12 → M 2 3 < 10 → Q (some (.long (jL (M 2 3)))) (jup (jup (jup M 2 3 (M 2 3 + 1)) 18 (M 2 3) a) 19 (M 2 3) b)) : jN G mX7_witness (d + 2) [.ref (jad G 0), .int (jI a), .int (jI b)] M Q := by
  show jM G mX7_witness (d + 2) 0 [.ref (jad G 0), .int (jI a), .int (jI b)] [] M Q
  have hz := jn1 hI
  refine jr_iload_n (n := 1) dX7_witness_0 rfl rfl ?_
  refine jr_iconst (n := 2) dX7_witness_1 rfl ?_
  refine jr_iconst (n := 3) dX7_witness_2 rfl ?_
  refine jr_cS3 (n := 6) (ν := mX7_isWithin) dX7_witness_3 rfl lX7_66 kX7_isWithin iX7_isWithin (Nat.le_of_ble_eq_true rfl) (Nat.le_of_ble_eq_true rfl) rfl ?_
  refine c_isWithin (by omega) (by omega) (by omega) (fun b3 b3b => ?_) (fun b3 => ?_)
  · refine jr_ifF_eq (n := 9) (t := 19) dX7_witness_6 rfl (by decide) (by decide) (by decide) ?_
    refine jr_iload_n (n := 10) dX7_witness_9 rfl rfl ?_
    refine jr_iconst (n := 11) dX7_witness_10 rfl ?_
    refine jr_bipush (n := 13) dX7_witness_11 rfl (by decide) ?_
    refine jr_cS3 (n := 16) (ν := mX7_isWithin) dX7_witness_13 rfl lX7_66 kX7_isWithin iX7_isWithin (Nat.le_of_ble_eq_true rfl) (Nat.le_of_ble_eq_true rfl) rfl ?_
    refine c_isWithin (by omega) (by omega) (by omega) (fun b13 b13b => ?_) (fun b13 => ?_)
    · refine jr_ifT_ne (t := 23) dX7_witness_16 (by decide) (by decide) (by decide) ?_
      refine jr_aload_n (n := 24) dX7_witness_23 rfl rfl ?_
      refine jr_getR (n := 27) dX7_witness_24 rfl fX7_19 rfl (by decide) (by decide) rfl ?_
      refine jr_getI (n := 30) (i := 3) rfl dX7_witness_27 rfl fX7_85 rfl (by decide) (by decide) rfl ?_
      refine jr_bipush (n := 32) dX7_witness_30 rfl (by decide) ?_
      refine jr_icmp_lt (n := 35) (t := 39) dX7_witness_32 (by decide) rfl (by omega) (by omega) (fun b32 => ?_) (fun b32 => ?_)
      · refine jr_aload_n (n := 40) dX7_witness_39 rfl rfl ?_
        refine jr_getR (n := 43) dX7_witness_40 rfl fX7_19 rfl (by decide) (by decide) rfl ?_
        refine jr_iload_n (n := 44) dX7_witness_43 rfl rfl ?_
        refine jr_iload_n (n := 45) dX7_witness_44 rfl rfl ?_
        refine jr_cV2 (n := 48) (ci := 4) (ν := mX4_enter) dX7_witness_45 rfl lX7_86 kX4_enter iX4_enter rfl ⟨_, rfl, rfl⟩ (by decide) (Nat.le_of_ble_eq_true rfl) (Nat.le_of_ble_eq_true rfl) rfl ?_
        refine c_enterW (by omega) ?_
        refine jr_i2l (n := 49) dX7_witness_48 rfl (by omega) ?_
        refine jr_lret dX7_witness_49 rfl ?_
        first | exact hB (by omega) | exact hF (by omega) | exact h (by omega) (by omega) (by omega) (by omega) (by omega)
      · refine jr_ldc2 (n := 38) dX7_witness_35 rfl rfl qX7_79 vX7_79 ?_
        refine jr_lret dX7_witness_38 rfl ?_
        first | exact hB (by omega) | exact hF (by omega) | exact h (by omega) (by omega) (by omega) (by omega) (by omega)
    · refine jr_ifF_ne (n := 19) (t := 23) dX7_witness_16 rfl (by decide) (by decide) (by decide) ?_
      refine jr_ldc2 (n := 22) dX7_witness_19 rfl rfl qX7_70 vX7_70 ?_
      refine jr_lret dX7_witness_22 rfl ?_
      first | exact hB (by omega) | exact hF (by omega) | exact h (by omega) (by omega) (by omega) (by omega) (by omega)
  · refine jr_ifT_eq (t := 19) dX7_witness_6 (by decide) (by decide) (by decide) ?_
    refine jr_ldc2 (n := 22) dX7_witness_19 rfl rfl qX7_70 vX7_70 ?_
    refine jr_lret dX7_witness_22 rfl ?_
    first | exact hB (by omega) | exact hF (by omega) | exact h (by omega) (by omega) (by omega) (by omega) (by omega)

theorem e_witness {G : jG} {d : Nat} {M : jMem} {Q : Option Value → jMem → Prop} (hI : jO M) {a b : Int} (ha : jR a) (hb : jR b) (hB : ¬ ((0 ≤ a ∧ a ≤ 4) ∧ (0 ≤ b ∧ b ≤ 12)) → Q (some (.long (jL (-9000000000000000001)))) M) (hF : M 8 8 = 10 → Q (some (.long (jL (-9000000000000000003)))) M) (h : 0 ≤ a → a ≤ 4 → 0 ≤ b → b ≤ 12 → M 8 8 < 10 → Q (some (.long (jL (M 8 8 + 1 - 1)))) (jup (jup (jup M 45 (M 8 8) a) 46 (M 8 8) b) 8 8 (M 8 8 + 1))) : jN G mX8_witness (d + 2) [.ref (jad G 8), .int (jI a), .int (jI b)] M Q := by
  show jM G mX8_witness (d + 2) 0 [.ref (jad G 8), .int (jI a), .int (jI b)] [] M Q
  have hz := jn1 hI
  refine jr_iload_n (n := 1) dX8_witness_0 rfl rfl ?_
  refine jr_iconst (n := 2) dX8_witness_1 rfl ?_
  refine jr_iconst (n := 3) dX8_witness_2 rfl ?_
  refine jr_cS3 (n := 6) (ν := mX8_isIn) dX8_witness_3 rfl lX8_92 kX8_isIn iX8_isIn (Nat.le_of_ble_eq_true rfl) (Nat.le_of_ble_eq_true rfl) rfl ?_
  refine e_isIn (by omega) (by omega) (by omega) (fun b3 b3b => ?_) (fun b3 => ?_)
  · refine jr_ifF_eq (n := 9) (t := 19) dX8_witness_6 rfl (by decide) (by decide) (by decide) ?_
    refine jr_iload_n (n := 10) dX8_witness_9 rfl rfl ?_
    refine jr_iconst (n := 11) dX8_witness_10 rfl ?_
    refine jr_bipush (n := 13) dX8_witness_11 rfl (by decide) ?_
    refine jr_cS3 (n := 16) (ν := mX8_isIn) dX8_witness_13 rfl lX8_92 kX8_isIn iX8_isIn (Nat.le_of_ble_eq_true rfl) (Nat.le_of_ble_eq_true rfl) rfl ?_
    refine e_isIn (by omega) (by omega) (by omega) (fun b13 b13b => ?_) (fun b13 => ?_)
    · refine jr_ifT_ne (t := 23) dX8_witness_16 (by decide) (by decide) (by decide) ?_
      refine jr_aload_n (n := 24) dX8_witness_23 rfl rfl ?_
      refine jr_getI (n := 27) (i := 8) rfl dX8_witness_24 rfl fX8_100 rfl (by decide) (by decide) rfl ?_
      refine jr_bipush (n := 29) dX8_witness_27 rfl (by decide) ?_
      refine jr_icmp_ne (n := 32) (t := 36) dX8_witness_29 (by decide) rfl (by omega) (by omega) (fun b29 => ?_) (fun b29 => ?_)
      · refine jr_aload_n (n := 37) dX8_witness_36 rfl rfl ?_
        refine jr_getR (n := 40) dX8_witness_37 rfl fX8_31 rfl (by decide) (by decide) rfl ?_
        refine jr_aload_n (n := 41) dX8_witness_40 rfl rfl ?_
        refine jr_getI (n := 44) (i := 8) rfl dX8_witness_41 rfl fX8_100 rfl (by decide) (by decide) rfl ?_
        refine jr_iload_n (n := 45) dX8_witness_44 rfl rfl ?_
        refine jr_iast (n := 46) dX8_witness_45 rfl rfl (by decide) (by omega) (by omega) ?_
        refine jr_aload_n (n := 47) dX8_witness_46 rfl rfl ?_
        refine jr_getR (n := 50) dX8_witness_47 rfl fX8_34 rfl (by decide) (by decide) rfl ?_
        refine jr_aload_n (n := 51) dX8_witness_50 rfl rfl ?_
        refine jr_getI (n := 54) (i := 8) rfl dX8_witness_51 rfl fX8_100 rfl (by decide) (by decide) rfl ?_
        rw [jup_ne (show (8 : Nat) ≠ 45 by decide)]
        refine jr_iload_n (n := 55) dX8_witness_54 rfl rfl ?_
        refine jr_iast (n := 56) dX8_witness_55 rfl rfl (by decide) (by omega) (by omega) ?_
        refine jr_aload_n (n := 57) dX8_witness_56 rfl rfl ?_
        refine jr_dup (n := 58) dX8_witness_57 rfl rfl ?_
        refine jr_getI (n := 61) (i := 8) rfl dX8_witness_58 rfl fX8_100 rfl (by decide) (by decide) rfl ?_
        rw [jup_ne (show (8 : Nat) ≠ 46 by decide)]
        rw [jup_ne (show (8 : Nat) ≠ 45 by decide)]
        refine jr_iconst (n := 62) dX8_witness_61 rfl ?_
        refine jr_iadd (n := 63) dX8_witness_62 rfl ?_
        refine jr_putI (n := 66) (i := 8) rfl dX8_witness_63 rfl fX8_100 wX8_8 rfl (by decide) (by decide) rfl ?_
        refine jr_aload_n (n := 67) dX8_witness_66 rfl rfl ?_
        refine jr_getI (n := 70) (i := 8) rfl dX8_witness_67 rfl fX8_100 rfl (by decide) (by decide) rfl ?_
        rw [jup_at]
        refine jr_iconst (n := 71) dX8_witness_70 rfl ?_
        refine jr_isub (n := 72) dX8_witness_71 rfl ?_
        refine jr_i2l (n := 73) dX8_witness_72 rfl (by omega) ?_
        refine jr_lret dX8_witness_73 rfl ?_
        first | exact hB (by omega) | exact hF (by omega) | exact h (by omega) (by omega) (by omega) (by omega) (by omega)
      · refine jr_ldc2 (n := 35) dX8_witness_32 rfl rfl qX8_109 vX8_109 ?_
        refine jr_lret dX8_witness_35 rfl ?_
        first | exact hB (by omega) | exact hF (by omega) | exact h (by omega) (by omega) (by omega) (by omega) (by omega)
    · refine jr_ifF_ne (n := 19) (t := 23) dX8_witness_16 rfl (by decide) (by decide) (by decide) ?_
      refine jr_ldc2 (n := 22) dX8_witness_19 rfl rfl qX8_107 vX8_107 ?_
      refine jr_lret dX8_witness_22 rfl ?_
      first | exact hB (by omega) | exact hF (by omega) | exact h (by omega) (by omega) (by omega) (by omega) (by omega)
  · refine jr_ifT_eq (t := 19) dX8_witness_6 (by decide) (by decide) (by decide) ?_
    refine jr_ldc2 (n := 22) dX8_witness_19 rfl rfl qX8_107 vX8_107 ?_
    refine jr_lret dX8_witness_22 rfl ?_
    first | exact hB (by omega) | exact hF (by omega) | exact h (by omega) (by omega) (by omega) (by omega) (by omega)

theorem c_enterC {G : jG} {d : Nat} {M : jMem} {Q : Option Value → jMem → Prop} {a b e : Int} (ha : 0 ≤ a ∧ a < 3) (hz : 0 ≤ M 1 8 ∧ M 1 8 < 12) (hs : 0 ≤ M 17 a ∧ M 17 a < 6) (h : Q (some (.int (jI (M 1 8)))) (jup (jup (jup (jup (jup (jup (jup M 1 8 (M 1 8 + 1)) 11 (M 1 8) b) 12 (M 1 8) e) 14 (M 1 8) (-1)) 16 (a * 6 + M 17 a) (M 1 8)) 17 a (M 17 a + 1)) 10 (M 1 8) a)) : jN G mX2_enter (d + 1) [.ref (jad G 1), .int (jI a), .int (jI b), .int (jI e)] M Q := by
  show jM G mX2_enter (d + 1) 0 [.ref (jad G 1), .int (jI a), .int (jI b), .int (jI e), .null] [] M Q
  refine jr_aload_n (n := 1) dX2_enter_0 rfl rfl ?_
  refine jr_getI (n := 4) (i := 8) rfl dX2_enter_1 rfl fX2_36 rfl (by decide) (by decide) rfl ?_
  refine jr_istore4 (n := 6) dX2_enter_4 rfl (by decide) rfl ?_
  refine jr_aload_n (n := 7) dX2_enter_6 rfl rfl ?_
  refine jr_dup (n := 8) dX2_enter_7 rfl rfl ?_
  refine jr_getI (n := 11) (i := 8) rfl dX2_enter_8 rfl fX2_36 rfl (by decide) (by decide) rfl ?_
  refine jr_iconst (n := 12) dX2_enter_11 rfl ?_
  refine jr_iadd (n := 13) dX2_enter_12 rfl ?_
  refine jr_putI (n := 16) (i := 8) rfl dX2_enter_13 rfl fX2_36 wX2_8 rfl (by decide) (by decide) rfl ?_
  refine jr_aload_n (n := 17) dX2_enter_16 rfl rfl ?_
  refine jr_getR (n := 20) dX2_enter_17 rfl fX2_15 rfl (by decide) (by decide) rfl ?_
  refine jr_iload (n := 22) dX2_enter_20 rfl rfl ?_
  refine jr_iload_n (n := 23) dX2_enter_22 rfl rfl ?_
  refine jr_iast (n := 24) dX2_enter_23 rfl rfl (by decide) (by omega) (by omega) ?_
  refine jr_aload_n (n := 25) dX2_enter_24 rfl rfl ?_
  refine jr_getR (n := 28) dX2_enter_25 rfl fX2_18 rfl (by decide) (by decide) rfl ?_
  refine jr_iload (n := 30) dX2_enter_28 rfl rfl ?_
  refine jr_iload_n (n := 31) dX2_enter_30 rfl rfl ?_
  refine jr_iast (n := 32) dX2_enter_31 rfl rfl (by decide) (by omega) (by omega) ?_
  refine jr_aload_n (n := 33) dX2_enter_32 rfl rfl ?_
  refine jr_getR (n := 36) dX2_enter_33 rfl fX2_24 rfl (by decide) (by decide) rfl ?_
  refine jr_iload (n := 38) dX2_enter_36 rfl rfl ?_
  refine jr_iconst (n := 39) dX2_enter_38 rfl ?_
  refine jr_iast (n := 40) dX2_enter_39 rfl rfl (by decide) (by omega) (by omega) ?_
  refine jr_aload_n (n := 41) dX2_enter_40 rfl rfl ?_
  refine jr_iload (n := 43) dX2_enter_41 rfl rfl ?_
  refine jr_iload_n (n := 44) dX2_enter_43 rfl rfl ?_
  refine jr_cV2 (n := 47) (ci := 2) (ν := mX2_joinList) dX2_enter_44 rfl lX2_40 kX2_joinList iX2_joinList rfl ⟨_, rfl, rfl⟩ (by decide) (Nat.le_of_ble_eq_true rfl) (Nat.le_of_ble_eq_true rfl) rfl ?_
  refine c_joinList (by omega) (by omega) (by simp only [jup_ne (show (17 : Nat) ≠ 1 by decide), jup_ne (show (17 : Nat) ≠ 11 by decide), jup_ne (show (17 : Nat) ≠ 12 by decide), jup_ne (show (17 : Nat) ≠ 14 by decide)]; omega) ?_
  
  refine jr_iload (n := 49) dX2_enter_47 rfl rfl ?_
  refine jr_iret dX2_enter_49 rfl ?_
  simp only [jup_ne (show (17 : Nat) ≠ 1 by decide), jup_ne (show (17 : Nat) ≠ 11 by decide), jup_ne (show (17 : Nat) ≠ 12 by decide), jup_ne (show (17 : Nat) ≠ 14 by decide)]
  exact h

theorem c_newCase {G : jG} {d : Nat} {M : jMem} {Q : Option Value → jMem → Prop} (hI : jK M) {a b e : Int} (ha : jR a) (hb : jR b) (he : jR e) (hB : ¬ ((0 ≤ a ∧ a ≤ 2) ∧ (1 ≤ b ∧ b ≤ 8) ∧ (0 ≤ e ∧ e ≤ 100)) → Q (some (.long (jL (-9000000000000000001)))) M) (hF : 0 ≤ a → a ≤ 2 → M 1 8 = 12 ∨ M 17 a = 6 → Q (some (.long (jL (-9000000000000000003)))) M) (h : 0 ≤ a → a ≤ 2 → 1 ≤ b → b ≤ 8 → 0 ≤ e → e ≤ 100 → M 1 8 < 12 → M 17 a < 6 → Q (some (.long (jL (M 1 8)))) (jup (jup (jup (jup (jup (jup (jup M 1 8 (M 1 8 + 1)) 11 (M 1 8) b) 12 (M 1 8) e) 14 (M 1 8) (-1)) 16 (a * 6 + M 17 a) (M 1 8)) 17 a (M 17 a + 1)) 10 (M 1 8) a)) : jN G mX7_newCase (d + 3) [.ref (jad G 0), .int (jI a), .int (jI b), .int (jI e)] M Q := by
  show jM G mX7_newCase (d + 3) 0 [.ref (jad G 0), .int (jI a), .int (jI b), .int (jI e)] [] M Q
  have hz := jn1 hI
  refine jr_iload_n (n := 1) dX7_newCase_0 rfl rfl ?_
  refine jr_cS1 (n := 4) (ν := mX7_isCourt) dX7_newCase_1 rfl lX7_62 kX7_isCourt iX7_isCourt (Nat.le_of_ble_eq_true rfl) (Nat.le_of_ble_eq_true rfl) rfl ?_
  refine c_isCourt (by omega) (fun b1 b1b => ?_) (fun b1 => ?_)
  · refine jr_ifF_eq (n := 7) (t := 27) dX7_newCase_4 rfl (by decide) (by decide) (by decide) ?_
    refine jr_iload_n (n := 8) dX7_newCase_7 rfl rfl ?_
    refine jr_iconst (n := 9) dX7_newCase_8 rfl ?_
    refine jr_bipush (n := 11) dX7_newCase_9 rfl (by decide) ?_
    refine jr_cS3 (n := 14) (ν := mX7_isWithin) dX7_newCase_11 rfl lX7_66 kX7_isWithin iX7_isWithin (Nat.le_of_ble_eq_true rfl) (Nat.le_of_ble_eq_true rfl) rfl ?_
    refine c_isWithin (by omega) (by omega) (by omega) (fun b11 b11b => ?_) (fun b11 => ?_)
    · refine jr_ifF_eq (n := 17) (t := 27) dX7_newCase_14 rfl (by decide) (by decide) (by decide) ?_
      refine jr_iload_n (n := 18) dX7_newCase_17 rfl rfl ?_
      refine jr_iconst (n := 19) dX7_newCase_18 rfl ?_
      refine jr_bipush (n := 21) dX7_newCase_19 rfl (by decide) ?_
      refine jr_cS3 (n := 24) (ν := mX7_isWithin) dX7_newCase_21 rfl lX7_66 kX7_isWithin iX7_isWithin (Nat.le_of_ble_eq_true rfl) (Nat.le_of_ble_eq_true rfl) rfl ?_
      refine c_isWithin (by omega) (by omega) (by omega) (fun b21 b21b => ?_) (fun b21 => ?_)
      · refine jr_ifT_ne (t := 31) dX7_newCase_24 (by decide) (by decide) (by decide) ?_
        have hs := jn2 hI a (by omega) (by omega)
        refine jr_aload_n (n := 32) dX7_newCase_31 rfl rfl ?_
        refine jr_getR (n := 35) dX7_newCase_32 rfl fX7_10 rfl (by decide) (by decide) rfl ?_
        refine jr_getI (n := 38) (i := 8) rfl dX7_newCase_35 rfl fX7_72 rfl (by decide) (by decide) rfl ?_
        refine jr_bipush (n := 40) dX7_newCase_38 rfl (by decide) ?_
        refine jr_icmp_ge (n := 43) (t := 57) dX7_newCase_40 (by decide) rfl (by omega) (by omega) (fun b40 => ?_) (fun b40 => ?_)
        · refine jr_ldc2 (n := 60) dX7_newCase_57 rfl rfl qX7_79 vX7_79 ?_
          refine jr_lret dX7_newCase_60 rfl ?_
          first | exact hB (by omega) | exact hF (by omega) (by omega) (by omega) | exact h (by omega) (by omega) (by omega) (by omega) (by omega) (by omega) (by omega) (by omega)
        · refine jr_aload_n (n := 44) dX7_newCase_43 rfl rfl ?_
          refine jr_getR (n := 47) dX7_newCase_44 rfl fX7_10 rfl (by decide) (by decide) rfl ?_
          refine jr_getR (n := 50) dX7_newCase_47 rfl fX7_76 rfl (by decide) (by decide) rfl ?_
          refine jr_iload_n (n := 51) dX7_newCase_50 rfl rfl ?_
          refine jr_iald (n := 52) dX7_newCase_51 rfl rfl (by decide) (by omega) (by omega) ?_
          refine jr_bipush (n := 54) dX7_newCase_52 rfl (by decide) ?_
          refine jr_icmp_lt (n := 57) (t := 61) dX7_newCase_54 (by decide) rfl (by omega) (by omega) (fun b54 => ?_) (fun b54 => ?_)
          · refine jr_aload_n (n := 62) dX7_newCase_61 rfl rfl ?_
            refine jr_getR (n := 65) dX7_newCase_62 rfl fX7_10 rfl (by decide) (by decide) rfl ?_
            refine jr_iload_n (n := 66) dX7_newCase_65 rfl rfl ?_
            refine jr_iload_n (n := 67) dX7_newCase_66 rfl rfl ?_
            refine jr_iload_n (n := 68) dX7_newCase_67 rfl rfl ?_
            refine jr_cV3 (n := 71) (ci := 2) (ν := mX2_enter) dX7_newCase_68 rfl lX7_81 kX2_enter iX2_enter rfl ⟨_, rfl, rfl⟩ (by decide) (Nat.le_of_ble_eq_true rfl) (Nat.le_of_ble_eq_true rfl) rfl ?_
            refine c_enterC (by omega) (by omega) (by omega) ?_
            refine jr_i2l (n := 72) dX7_newCase_71 rfl (by omega) ?_
            refine jr_lret dX7_newCase_72 rfl ?_
            first | exact hB (by omega) | exact hF (by omega) (by omega) (by omega) | exact h (by omega) (by omega) (by omega) (by omega) (by omega) (by omega) (by omega) (by omega)
          · refine jr_ldc2 (n := 60) dX7_newCase_57 rfl rfl qX7_79 vX7_79 ?_
            refine jr_lret dX7_newCase_60 rfl ?_
            first | exact hB (by omega) | exact hF (by omega) (by omega) (by omega) | exact h (by omega) (by omega) (by omega) (by omega) (by omega) (by omega) (by omega) (by omega)
      · refine jr_ifF_ne (n := 27) (t := 31) dX7_newCase_24 rfl (by decide) (by decide) (by decide) ?_
        refine jr_ldc2 (n := 30) dX7_newCase_27 rfl rfl qX7_70 vX7_70 ?_
        refine jr_lret dX7_newCase_30 rfl ?_
        first | exact hB (by omega) | exact hF (by omega) (by omega) (by omega) | exact h (by omega) (by omega) (by omega) (by omega) (by omega) (by omega) (by omega) (by omega)
    · refine jr_ifT_eq (t := 27) dX7_newCase_14 (by decide) (by decide) (by decide) ?_
      refine jr_ldc2 (n := 30) dX7_newCase_27 rfl rfl qX7_70 vX7_70 ?_
      refine jr_lret dX7_newCase_30 rfl ?_
      first | exact hB (by omega) | exact hF (by omega) (by omega) (by omega) | exact h (by omega) (by omega) (by omega) (by omega) (by omega) (by omega) (by omega) (by omega)
  · refine jr_ifT_eq (t := 27) dX7_newCase_4 (by decide) (by decide) (by decide) ?_
    refine jr_ldc2 (n := 30) dX7_newCase_27 rfl rfl qX7_70 vX7_70 ?_
    refine jr_lret dX7_newCase_30 rfl ?_
    first | exact hB (by omega) | exact hF (by omega) (by omega) (by omega) | exact h (by omega) (by omega) (by omega) (by omega) (by omega) (by omega) (by omega) (by omega)

theorem e_enter {G : jG} {d : Nat} {M : jMem} {Q : Option Value → jMem → Prop} {k c : Int} (hk : 0 ≤ k ∧ k < 12) (hc : 0 ≤ c ∧ c < 3) (hs : 0 ≤ M 38 c ∧ M 38 c < 6) (h : Q none (jup (jup (jup M 40 k c) 39 (6 * c + M 38 c) k) 38 c (M 38 c + 1))) : jN G mX8_enter (d) [.ref (jad G 8), .int (jI k), .int (jI c)] M Q := by
  show jM G mX8_enter (d) 0 [.ref (jad G 8), .int (jI k), .int (jI c)] [] M Q
  refine jr_aload_n (n := 1) dX8_enter_0 rfl rfl ?_
  refine jr_getR (n := 4) dX8_enter_1 rfl fX8_16 rfl (by decide) (by decide) rfl ?_
  refine jr_iload_n (n := 5) dX8_enter_4 rfl rfl ?_
  refine jr_iload_n (n := 6) dX8_enter_5 rfl rfl ?_
  refine jr_iast (n := 7) dX8_enter_6 rfl rfl (by decide) (by omega) (by omega) ?_
  refine jr_aload_n (n := 8) dX8_enter_7 rfl rfl ?_
  refine jr_getR (n := 11) dX8_enter_8 rfl fX8_13 rfl (by decide) (by decide) rfl ?_
  refine jr_bipush (n := 13) dX8_enter_11 rfl (by decide) ?_
  refine jr_iload_n (n := 14) dX8_enter_13 rfl rfl ?_
  refine jr_imul (n := 15) dX8_enter_14 rfl ?_
  refine jr_aload_n (n := 16) dX8_enter_15 rfl rfl ?_
  refine jr_getR (n := 19) dX8_enter_16 rfl fX8_7 rfl (by decide) (by decide) rfl ?_
  refine jr_iload_n (n := 20) dX8_enter_19 rfl rfl ?_
  refine jr_iald (n := 21) dX8_enter_20 rfl rfl (by decide) (by omega) (by omega) ?_
  rw [jup_ne (show (38 : Nat) ≠ 40 by decide)]
  refine jr_iadd (n := 22) dX8_enter_21 rfl ?_
  refine jr_iload_n (n := 23) dX8_enter_22 rfl rfl ?_
  refine jr_iast (n := 24) dX8_enter_23 rfl rfl (by decide) (by omega) (by omega) ?_
  refine jr_aload_n (n := 25) dX8_enter_24 rfl rfl ?_
  refine jr_getR (n := 28) dX8_enter_25 rfl fX8_7 rfl (by decide) (by decide) rfl ?_
  refine jr_iload_n (n := 29) dX8_enter_28 rfl rfl ?_
  refine jr_dup2 (n := 30) dX8_enter_29 rfl rfl rfl ?_
  refine jr_iald (n := 31) dX8_enter_30 rfl rfl (by decide) (by omega) (by omega) ?_
  rw [jup_ne (show (38 : Nat) ≠ 39 by decide)]
  rw [jup_ne (show (38 : Nat) ≠ 40 by decide)]
  refine jr_iconst (n := 32) dX8_enter_31 rfl ?_
  refine jr_iadd (n := 33) dX8_enter_32 rfl ?_
  refine jr_iast (n := 34) dX8_enter_33 rfl rfl (by decide) (by omega) (by omega) ?_
  refine jr_vret dX8_enter_34 rfl ?_
  exact h

theorem e_newCase {G : jG} {d : Nat} {M : jMem} {Q : Option Value → jMem → Prop} (hI : jO M) {a b e : Int} (ha : jR a) (hb : jR b) (he : jR e) (hB : ¬ ((0 ≤ a ∧ a ≤ 2) ∧ (1 ≤ b ∧ b ≤ 8) ∧ (0 ≤ e ∧ e ≤ 100)) → Q (some (.long (jL (-9000000000000000001)))) M) (hF : 0 ≤ a → a ≤ 2 → M 8 2 = 12 ∨ M 38 a = 6 → Q (some (.long (jL (-9000000000000000003)))) M) (h : 0 ≤ a → a ≤ 2 → 1 ≤ b → b ≤ 8 → 0 ≤ e → e ≤ 100 → M 8 2 < 12 → M 38 a < 6 → Q (some (.long (jL (M 8 2 + 1 - 1)))) (jup (jup (jup (jup (jup (jup (jup M 41 (M 8 2) b) 42 (M 8 2) e) 44 (M 8 2) (-1)) 40 (M 8 2) a) 39 (6 * a + M 38 a) (M 8 2)) 38 a (M 38 a + 1)) 8 2 (M 8 2 + 1))) : jN G mX8_newCase (d + 3) [.ref (jad G 8), .int (jI a), .int (jI b), .int (jI e)] M Q := by
  show jM G mX8_newCase (d + 3) 0 [.ref (jad G 8), .int (jI a), .int (jI b), .int (jI e)] [] M Q
  have hz := jn1 hI
  refine jr_iload_n (n := 1) dX8_newCase_0 rfl rfl ?_
  refine jr_cS1 (n := 4) (ν := mX8_isCourt) dX8_newCase_1 rfl lX8_103 kX8_isCourt iX8_isCourt (Nat.le_of_ble_eq_true rfl) (Nat.le_of_ble_eq_true rfl) rfl ?_
  refine e_isCourt (by omega) (fun b1 b1b => ?_) (fun b1 => ?_)
  · refine jr_ifF_eq (n := 7) (t := 27) dX8_newCase_4 rfl (by decide) (by decide) (by decide) ?_
    refine jr_iload_n (n := 8) dX8_newCase_7 rfl rfl ?_
    refine jr_iconst (n := 9) dX8_newCase_8 rfl ?_
    refine jr_bipush (n := 11) dX8_newCase_9 rfl (by decide) ?_
    refine jr_cS3 (n := 14) (ν := mX8_isIn) dX8_newCase_11 rfl lX8_92 kX8_isIn iX8_isIn (Nat.le_of_ble_eq_true rfl) (Nat.le_of_ble_eq_true rfl) rfl ?_
    refine e_isIn (by omega) (by omega) (by omega) (fun b11 b11b => ?_) (fun b11 => ?_)
    · refine jr_ifF_eq (n := 17) (t := 27) dX8_newCase_14 rfl (by decide) (by decide) (by decide) ?_
      refine jr_iload_n (n := 18) dX8_newCase_17 rfl rfl ?_
      refine jr_iconst (n := 19) dX8_newCase_18 rfl ?_
      refine jr_bipush (n := 21) dX8_newCase_19 rfl (by decide) ?_
      refine jr_cS3 (n := 24) (ν := mX8_isIn) dX8_newCase_21 rfl lX8_92 kX8_isIn iX8_isIn (Nat.le_of_ble_eq_true rfl) (Nat.le_of_ble_eq_true rfl) rfl ?_
      refine e_isIn (by omega) (by omega) (by omega) (fun b21 b21b => ?_) (fun b21 => ?_)
      · refine jr_ifT_ne (t := 31) dX8_newCase_24 (by decide) (by decide) (by decide) ?_
        have hs := jn2 hI a (by omega) (by omega)
        refine jr_aload_n (n := 32) dX8_newCase_31 rfl rfl ?_
        refine jr_getI (n := 35) (i := 2) rfl dX8_newCase_32 rfl fX8_96 rfl (by decide) (by decide) rfl ?_
        refine jr_bipush (n := 37) dX8_newCase_35 rfl (by decide) ?_
        refine jr_icmp_eq (n := 40) (t := 51) dX8_newCase_37 (by decide) rfl (by omega) (by omega) (fun b37 => ?_) (fun b37 => ?_)
        · refine jr_ldc2 (n := 54) dX8_newCase_51 rfl rfl qX8_109 vX8_109 ?_
          refine jr_lret dX8_newCase_54 rfl ?_
          first | exact hB (by omega) | exact hF (by omega) (by omega) (by omega) | exact h (by omega) (by omega) (by omega) (by omega) (by omega) (by omega) (by omega) (by omega)
        · refine jr_aload_n (n := 41) dX8_newCase_40 rfl rfl ?_
          refine jr_getR (n := 44) dX8_newCase_41 rfl fX8_7 rfl (by decide) (by decide) rfl ?_
          refine jr_iload_n (n := 45) dX8_newCase_44 rfl rfl ?_
          refine jr_iald (n := 46) dX8_newCase_45 rfl rfl (by decide) (by omega) (by omega) ?_
          refine jr_bipush (n := 48) dX8_newCase_46 rfl (by decide) ?_
          refine jr_icmp_ne (n := 51) (t := 55) dX8_newCase_48 (by decide) rfl (by omega) (by omega) (fun b48 => ?_) (fun b48 => ?_)
          · refine jr_aload_n (n := 56) dX8_newCase_55 rfl rfl ?_
            refine jr_getR (n := 59) dX8_newCase_56 rfl fX8_19 rfl (by decide) (by decide) rfl ?_
            refine jr_aload_n (n := 60) dX8_newCase_59 rfl rfl ?_
            refine jr_getI (n := 63) (i := 2) rfl dX8_newCase_60 rfl fX8_96 rfl (by decide) (by decide) rfl ?_
            refine jr_iload_n (n := 64) dX8_newCase_63 rfl rfl ?_
            refine jr_iast (n := 65) dX8_newCase_64 rfl rfl (by decide) (by omega) (by omega) ?_
            refine jr_aload_n (n := 66) dX8_newCase_65 rfl rfl ?_
            refine jr_getR (n := 69) dX8_newCase_66 rfl fX8_22 rfl (by decide) (by decide) rfl ?_
            refine jr_aload_n (n := 70) dX8_newCase_69 rfl rfl ?_
            refine jr_getI (n := 73) (i := 2) rfl dX8_newCase_70 rfl fX8_96 rfl (by decide) (by decide) rfl ?_
            rw [jup_ne (show (8 : Nat) ≠ 41 by decide)]
            refine jr_iload_n (n := 74) dX8_newCase_73 rfl rfl ?_
            refine jr_iast (n := 75) dX8_newCase_74 rfl rfl (by decide) (by omega) (by omega) ?_
            refine jr_aload_n (n := 76) dX8_newCase_75 rfl rfl ?_
            refine jr_getR (n := 79) dX8_newCase_76 rfl fX8_28 rfl (by decide) (by decide) rfl ?_
            refine jr_aload_n (n := 80) dX8_newCase_79 rfl rfl ?_
            refine jr_getI (n := 83) (i := 2) rfl dX8_newCase_80 rfl fX8_96 rfl (by decide) (by decide) rfl ?_
            rw [jup_ne (show (8 : Nat) ≠ 42 by decide)]
            rw [jup_ne (show (8 : Nat) ≠ 41 by decide)]
            refine jr_iconst (n := 84) dX8_newCase_83 rfl ?_
            refine jr_iast (n := 85) dX8_newCase_84 rfl rfl (by decide) (by omega) (by omega) ?_
            refine jr_aload_n (n := 86) dX8_newCase_85 rfl rfl ?_
            refine jr_aload_n (n := 87) dX8_newCase_86 rfl rfl ?_
            refine jr_getI (n := 90) (i := 2) rfl dX8_newCase_87 rfl fX8_96 rfl (by decide) (by decide) rfl ?_
            rw [jup_ne (show (8 : Nat) ≠ 44 by decide)]
            rw [jup_ne (show (8 : Nat) ≠ 42 by decide)]
            rw [jup_ne (show (8 : Nat) ≠ 41 by decide)]
            refine jr_iload_n (n := 91) dX8_newCase_90 rfl rfl ?_
            refine jr_cV2 (n := 94) (ci := 8) (ν := mX8_enter) dX8_newCase_91 rfl lX8_111 kX8_enter iX8_enter rfl ⟨_, rfl, rfl⟩ (by decide) (Nat.le_of_ble_eq_true rfl) (Nat.le_of_ble_eq_true rfl) rfl ?_
            refine e_enter (by omega) (by omega) (by simp only [jup_ne (show (38 : Nat) ≠ 41 by decide), jup_ne (show (38 : Nat) ≠ 42 by decide), jup_ne (show (38 : Nat) ≠ 44 by decide)]; omega) ?_
            simp only [jup_ne (show (38 : Nat) ≠ 41 by decide), jup_ne (show (38 : Nat) ≠ 42 by decide), jup_ne (show (38 : Nat) ≠ 44 by decide)]
            refine jr_aload_n (n := 95) dX8_newCase_94 rfl rfl ?_
            refine jr_dup (n := 96) dX8_newCase_95 rfl rfl ?_
            refine jr_getI (n := 99) (i := 2) rfl dX8_newCase_96 rfl fX8_96 rfl (by decide) (by decide) rfl ?_
            rw [jup_ne (show (8 : Nat) ≠ 38 by decide)]
            rw [jup_ne (show (8 : Nat) ≠ 39 by decide)]
            rw [jup_ne (show (8 : Nat) ≠ 40 by decide)]
            rw [jup_ne (show (8 : Nat) ≠ 44 by decide)]
            rw [jup_ne (show (8 : Nat) ≠ 42 by decide)]
            rw [jup_ne (show (8 : Nat) ≠ 41 by decide)]
            refine jr_iconst (n := 100) dX8_newCase_99 rfl ?_
            refine jr_iadd (n := 101) dX8_newCase_100 rfl ?_
            refine jr_putI (n := 104) (i := 2) rfl dX8_newCase_101 rfl fX8_96 wX8_2 rfl (by decide) (by decide) rfl ?_
            refine jr_aload_n (n := 105) dX8_newCase_104 rfl rfl ?_
            refine jr_getI (n := 108) (i := 2) rfl dX8_newCase_105 rfl fX8_96 rfl (by decide) (by decide) rfl ?_
            rw [jup_at]
            refine jr_iconst (n := 109) dX8_newCase_108 rfl ?_
            refine jr_isub (n := 110) dX8_newCase_109 rfl ?_
            refine jr_i2l (n := 111) dX8_newCase_110 rfl (by omega) ?_
            refine jr_lret dX8_newCase_111 rfl ?_
            first | exact hB (by omega) | exact hF (by omega) (by omega) (by omega) | exact h (by omega) (by omega) (by omega) (by omega) (by omega) (by omega) (by omega) (by omega)
          · refine jr_ldc2 (n := 54) dX8_newCase_51 rfl rfl qX8_109 vX8_109 ?_
            refine jr_lret dX8_newCase_54 rfl ?_
            first | exact hB (by omega) | exact hF (by omega) (by omega) (by omega) | exact h (by omega) (by omega) (by omega) (by omega) (by omega) (by omega) (by omega) (by omega)
      · refine jr_ifF_ne (n := 27) (t := 31) dX8_newCase_24 rfl (by decide) (by decide) (by decide) ?_
        refine jr_ldc2 (n := 30) dX8_newCase_27 rfl rfl qX8_107 vX8_107 ?_
        refine jr_lret dX8_newCase_30 rfl ?_
        first | exact hB (by omega) | exact hF (by omega) (by omega) (by omega) | exact h (by omega) (by omega) (by omega) (by omega) (by omega) (by omega) (by omega) (by omega)
    · refine jr_ifT_eq (t := 27) dX8_newCase_14 (by decide) (by decide) (by decide) ?_
      refine jr_ldc2 (n := 30) dX8_newCase_27 rfl rfl qX8_107 vX8_107 ?_
      refine jr_lret dX8_newCase_30 rfl ?_
      first | exact hB (by omega) | exact hF (by omega) (by omega) (by omega) | exact h (by omega) (by omega) (by omega) (by omega) (by omega) (by omega) (by omega) (by omega)
  · refine jr_ifT_eq (t := 27) dX8_newCase_4 (by decide) (by decide) (by decide) ?_
    refine jr_ldc2 (n := 30) dX8_newCase_27 rfl rfl qX8_107 vX8_107 ?_
    refine jr_lret dX8_newCase_30 rfl ?_
    first | exact hB (by omega) | exact hF (by omega) (by omega) (by omega) | exact h (by omega) (by omega) (by omega) (by omega) (by omega) (by omega) (by omega) (by omega)
end
section
/-- of a block, the places that pr names hold f -/
def jcb (M : jMem) (c : Nat) (lo hi : Int) (pr : Int → Bool) (f : Int → Int) : jMem := fun a b => if a = c ∧ (lo ≤ b ∧ b < hi) ∧ pr b = true then f b else M a b
theorem jcb_0 (M : jMem) (c : Nat) (lo : Int) (pr : Int → Bool) (f : Int → Int) : jcb M c lo lo pr f = M := by
  funext a b
  unfold jcb
  rw [if_neg (by omega)]
theorem jcb_ne {M : jMem} {c a : Nat} {lo hi : Int} {pr : Int → Bool} {f : Int → Int} (h : a ≠ c) (b : Int) : jcb M c lo hi pr f a b = M a b := by
  unfold jcb; rw [if_neg (fun z => h z.1)]
theorem jcb_y (M : jMem) (c : Nat) {lo hi x : Int} (pr : Int → Bool) (f : Int → Int) (h : lo ≤ hi) (hp : pr hi = true) (hx : x = f hi) : jup (jcb M c lo hi pr f) c hi x = jcb M c lo (hi + 1) pr f := by
  subst hx
  funext a b
  unfold jup jcb
  by_cases e : a = c ∧ b = hi
  · obtain ⟨rfl, rfl⟩ := e
    rw [if_pos ⟨rfl, rfl⟩, if_pos ⟨rfl, ⟨h, by omega⟩, hp⟩]
  · rw [if_neg e]
    by_cases q : a = c ∧ (lo ≤ b ∧ b < hi) ∧ pr b = true
    · rw [if_pos q, if_pos ⟨q.1, ⟨q.2.1.1, by omega⟩, q.2.2⟩]
    · rw [if_neg q, if_neg (fun r => q ⟨r.1, ⟨r.2.1.1, by have : b ≠ hi := fun z => e ⟨r.1, z⟩; omega⟩, r.2.2⟩)]
theorem jcb_n (M : jMem) (c : Nat) {lo hi : Int} (pr : Int → Bool) (f : Int → Int) (hp : pr hi = false) : jcb M c lo hi pr f = jcb M c lo (hi + 1) pr f := by
  funext a b
  unfold jcb
  by_cases q : a = c ∧ (lo ≤ b ∧ b < hi) ∧ pr b = true
  · rw [if_pos q, if_pos ⟨q.1, ⟨q.2.1.1, by omega⟩, q.2.2⟩]
  · rw [if_neg q, if_neg (fun r => q ⟨r.1, ⟨r.2.1.1, by have : b ≠ hi := fun z => (by rw [z, hp] at r; exact absurd r.2.2 (by decide)); omega⟩, r.2.2⟩)]
theorem jcb_out {M : jMem} {c : Nat} {lo hi b : Int} {pr : Int → Bool} {f : Int → Int} (h : ¬ (lo ≤ b ∧ b < hi)) : jcb M c lo hi pr f c b = M c b := by
  unfold jcb; rw [if_neg (fun z => h z.2.1)]
theorem jcb_in {M : jMem} {c : Nat} {lo hi b : Int} {pr : Int → Bool} {f : Int → Int} (h : lo ≤ b ∧ b < hi) (hp : pr b = true) : jcb M c lo hi pr f c b = f b := by
  unfold jcb; rw [if_pos ⟨rfl, h, hp⟩]
theorem jcb_no {M : jMem} {c : Nat} {lo hi b : Int} {pr : Int → Bool} {f : Int → Int} (hp : pr b = false) : jcb M c lo hi pr f c b = M c b := by
  unfold jcb; rw [if_neg (fun z => by rw [hp] at z; exact absurd z.2.2 (by decide))]
/-- whom needs(k, s) calls at their way: class, reference -/
def jnC (M : jMem) (k s i : Int) : jMem := jcb M 15 (k * 10) (k * 10 + i) (fun b => decide (jbit s (b - k * 10) ∧ ¬ jbit (M 13 k) (b - k * 10))) (fun b => M 19 (b - k * 10))
def jnE (M : jMem) (k i : Int) : jMem := jcb M 48 (10 * k) (10 * k + i) (fun b => decide (¬ jbit (M 43 k) (b - 10 * k))) (fun b => M 46 (b - 10 * k))
theorem jnC_ne {M : jMem} {k s i : Int} {a : Nat} (h : a ≠ 15) (b : Int) : jnC M k s i a b = M a b := jcb_ne h b
theorem jnE_ne {M : jMem} {k i : Int} {a : Nat} (h : a ≠ 48) (b : Int) : jnE M k i a b = M a b := jcb_ne h b
theorem jnC_y {M : jMem} {k s i x : Int} (h : 0 ≤ i) (h1 : jbit s i) (h2 : ¬ jbit (M 13 k) i) (hx : x = M 19 i) : jup (jnC M k s i) 15 (k * 10 + i) x = jnC M k s (i + 1) := by
  have e : k * 10 + i - k * 10 = i := by omega
  unfold jnC
  rw [jcb_y _ _ _ _ (by omega) (by rw [e]; exact decide_eq_true ⟨h1, h2⟩) (by rw [e]; exact hx), Int.add_assoc]
theorem jnC_n {M : jMem} {k s i : Int} (h : ¬ (jbit s i ∧ ¬ jbit (M 13 k) i)) : jnC M k s i = jnC M k s (i + 1) := by
  have e : k * 10 + i - k * 10 = i := by omega
  unfold jnC
  rw [jcb_n _ _ _ _ (by rw [e]; exact decide_eq_false h), Int.add_assoc]
theorem jnE_y {M : jMem} {k i x : Int} (h : 0 ≤ i) (h2 : ¬ jbit (M 43 k) i) (hx : x = M 46 i) : jup (jnE M k i) 48 (10 * k + i) x = jnE M k (i + 1) := by
  have e : 10 * k + i - 10 * k = i := by omega
  unfold jnE
  rw [jcb_y _ _ _ _ (by omega) (by rw [e]; exact decide_eq_true h2) (by rw [e]; exact hx), Int.add_assoc]
theorem jnE_n {M : jMem} {k i : Int} (h : jbit (M 43 k) i) : jnE M k i = jnE M k (i + 1) := by
  have e : 10 * k + i - 10 * k = i := by omega
  unfold jnE
  rw [jcb_n _ _ _ _ (by rw [e]; exact decide_eq_false (fun z => z h)), Int.add_assoc]
theorem jshl_R {p : Int} (hp : 0 ≤ p ∧ p ≤ 10) : 1 ≤ jshl 1 p ∧ jshl 1 p ≤ 1024 := by
  obtain ⟨a, rfl⟩ : ∃ n : Nat, p = n := ⟨p.toNat, by omega⟩
  exact (by decide +kernel : ∀ a : Nat, a < 11 → 1 ≤ jshl 1 (a : Int) ∧ jshl 1 (a : Int) ≤ 1024) a (by omega)
theorem c_needs_l {G : jG} {d : Nat} {M : jMem} {Q : Option Value → jMem → Prop} (hI : jK M) {k s : Int} (hk : 0 ≤ k ∧ k < 12) (h : Q (some (.long (jL (M 13 k)))) (jup (jnC M k s (M 2 3)) 13 k s))  : ∀ (f : Nat) (i : Int), 0 ≤ i → i ≤ M 2 3 → M 2 3 - i < f → jM G mX7_needs (d + 2) 44 [.ref (jad G 0), .int (jI k), .int (jI s), .int (jI (M 13 k)), .int (jI i)] [] (jnC M k s i) Q := by
  intro f
  induction f with
  | zero =>
    intro i h0 h1 hf
    exact absurd hf (by omega)
  | succ f ih =>
    intro i h0 h1 hf
    have hz := jn1 hI
    have hr := jn3 hI k hk.1 hk.2
    refine jr_iload (n := 46) dX7_needs_44 rfl rfl ?_
    refine jr_aload_n (n := 47) dX7_needs_46 rfl rfl ?_
    refine jr_getR (n := 50) dX7_needs_47 rfl fX7_19 rfl (by decide) (by decide) rfl ?_
    refine jr_getI (n := 53) (i := 3) rfl dX7_needs_50 rfl fX7_85 rfl (by decide) (by decide) rfl ?_
    rw [jnC_ne (show (2 : Nat) ≠ 15 by decide)]
    refine jr_icmp_ge (n := 56) (t := 100) dX7_needs_53 (by decide) rfl (by omega) (by omega) (fun b53 => ?_) (fun b53 => ?_)
    · refine jr_aload_n (n := 101) dX7_needs_100 rfl rfl ?_
      refine jr_getR (n := 104) dX7_needs_101 rfl fX7_10 rfl (by decide) (by decide) rfl ?_
      refine jr_getR (n := 107) dX7_needs_104 rfl fX7_100 rfl (by decide) (by decide) rfl ?_
      refine jr_iload_n (n := 108) dX7_needs_107 rfl rfl ?_
      refine jr_iload_n (n := 109) dX7_needs_108 rfl rfl ?_
      refine jr_iast (n := 110) dX7_needs_109 rfl rfl (by decide) (by omega) (by omega) ?_
      refine jr_iload_n (n := 111) dX7_needs_110 rfl rfl ?_
      refine jr_i2l (n := 112) dX7_needs_111 rfl (by omega) ?_
      refine jr_lret dX7_needs_112 rfl ?_
      have e : i = M 2 3 := by omega
      subst e
      exact h
    · refine jr_iload_n (n := 57) dX7_needs_56 rfl rfl ?_
      refine jr_iload (n := 59) dX7_needs_57 rfl rfl ?_
      refine jr_cS2 (n := 62) (ν := mX7_holds) dX7_needs_59 rfl lX7_103 kX7_holds iX7_holds (Nat.le_of_ble_eq_true rfl) (Nat.le_of_ble_eq_true rfl) rfl ?_
      refine c_holds (fun b59 => ?_) (fun b59 => ?_)
      · refine jr_ifF_eq (n := 65) (t := 94) dX7_needs_62 rfl (by decide) (by decide) (by decide) ?_
        refine jr_iload_n (n := 66) dX7_needs_65 rfl rfl ?_
        refine jr_iload (n := 68) dX7_needs_66 rfl rfl ?_
        refine jr_cS2 (n := 71) (ν := mX7_holds) dX7_needs_68 rfl lX7_103 kX7_holds iX7_holds (Nat.le_of_ble_eq_true rfl) (Nat.le_of_ble_eq_true rfl) rfl ?_
        refine c_holds (fun b68 => ?_) (fun b68 => ?_)
        · refine jr_ifT_ne (t := 94) dX7_needs_71 (by decide) (by decide) (by decide) ?_
          refine jr_iinc4 (n := 97) dX7_needs_94 rfl (by decide) rfl ?_
          refine jr_goto (t := 44) dX7_needs_97 (by decide) ?_
          first
            | (rw [jnC_y h0 b59 b68 rfl]; exact ih (i + 1) (by omega) (by omega) (by omega))
            | (rw [jnC_n (by first | exact fun z => z.2 b68 | exact fun z => b59 z.1)]; exact ih (i + 1) (by omega) (by omega) (by omega))
        · refine jr_ifF_ne (n := 74) (t := 94) dX7_needs_71 rfl (by decide) (by decide) (by decide) ?_
          refine jr_aload_n (n := 75) dX7_needs_74 rfl rfl ?_
          refine jr_getR (n := 78) dX7_needs_75 rfl fX7_10 rfl (by decide) (by decide) rfl ?_
          refine jr_iload_n (n := 79) dX7_needs_78 rfl rfl ?_
          refine jr_iload (n := 81) dX7_needs_79 rfl rfl ?_
          refine jr_aload_n (n := 82) dX7_needs_81 rfl rfl ?_
          refine jr_getR (n := 85) dX7_needs_82 rfl fX7_19 rfl (by decide) (by decide) rfl ?_
          refine jr_getR (n := 88) dX7_needs_85 rfl fX7_107 rfl (by decide) (by decide) rfl ?_
          refine jr_iload (n := 90) dX7_needs_88 rfl rfl ?_
          refine jr_iald (n := 91) dX7_needs_90 rfl rfl (by decide) (by omega) (by omega) ?_
          rw [jnC_ne (show (19 : Nat) ≠ 15 by decide)]
          refine jr_cV3 (n := 94) (ci := 2) (ν := mX2_callFor) dX7_needs_91 rfl lX7_110 kX2_callFor iX2_callFor rfl ⟨_, rfl, rfl⟩ (by decide) (Nat.le_of_ble_eq_true rfl) (Nat.le_of_ble_eq_true rfl) rfl ?_
          refine c_callFor (by omega) (by omega) ?_
          refine jr_iinc4 (n := 97) dX7_needs_94 rfl (by decide) rfl ?_
          refine jr_goto (t := 44) dX7_needs_97 (by decide) ?_
          first
            | (rw [jnC_y h0 b59 b68 rfl]; exact ih (i + 1) (by omega) (by omega) (by omega))
            | (rw [jnC_n (by first | exact fun z => z.2 b68 | exact fun z => b59 z.1)]; exact ih (i + 1) (by omega) (by omega) (by omega))
      · refine jr_ifT_eq (t := 94) dX7_needs_62 (by decide) (by decide) (by decide) ?_
        refine jr_iinc4 (n := 97) dX7_needs_94 rfl (by decide) rfl ?_
        refine jr_goto (t := 44) dX7_needs_97 (by decide) ?_
        first
          | (rw [jnC_y h0 b59 b68 rfl]; exact ih (i + 1) (by omega) (by omega) (by omega))
          | (rw [jnC_n (by first | exact fun z => z.2 b68 | exact fun z => b59 z.1)]; exact ih (i + 1) (by omega) (by omega) (by omega))

theorem c_needs {G : jG} {d : Nat} {M : jMem} {Q : Option Value → jMem → Prop} (hI : jK M) {k s : Int} (hk : jR k) (hs : jR s) (hB : ¬ ((0 ≤ k ∧ k < M 1 8) ∧ (0 ≤ s ∧ s ≤ jshl 1 (M 2 3) - 1)) → Q (some (.long (jL (-9000000000000000001)))) M) (h : 0 ≤ k → k < M 1 8 → 0 ≤ s → s ≤ jshl 1 (M 2 3) - 1 → Q (some (.long (jL (M 13 k)))) (jup (jnC M k s (M 2 3)) 13 k s)) : jN G mX7_needs (d + 2) [.ref (jad G 0), .int (jI k), .int (jI s)] M Q := by
  show jM G mX7_needs (d + 2) 0 [.ref (jad G 0), .int (jI k), .int (jI s), .null, .null] [] M Q
  have hz := jn1 hI
  have hq := jset_ok hz.2.1 hs
  refine jr_aload_n (n := 1) dX7_needs_0 rfl rfl ?_
  refine jr_getR (n := 4) dX7_needs_1 rfl fX7_10 rfl (by decide) (by decide) rfl ?_
  refine jr_iload_n (n := 5) dX7_needs_4 rfl rfl ?_
  refine jr_cV1 (n := 8) (ci := 2) (ν := mX2_has) dX7_needs_5 rfl lX7_99 kX2_has iX2_has rfl ⟨_, rfl, rfl⟩ (by decide) (Nat.le_of_ble_eq_true rfl) (Nat.le_of_ble_eq_true rfl) rfl ?_
  refine c_hasC (by omega) (by omega) (fun b5 b5b => ?_) (fun b5 => ?_)
  · refine jr_ifF_eq (n := 11) (t := 27) dX7_needs_8 rfl (by decide) (by decide) (by decide) ?_
    refine jr_iload_n (n := 12) dX7_needs_11 rfl rfl ?_
    refine jr_if_lt (n := 15) (t := 27) dX7_needs_12 (by decide) rfl (by omega) (fun b12 => ?_) (fun b12 => ?_)
    · refine jr_ldc2 (n := 30) dX7_needs_27 rfl rfl qX7_70 vX7_70 ?_
      refine jr_lret dX7_needs_30 rfl ?_
      first | exact hB (by omega)
    · refine jr_iload_n (n := 16) dX7_needs_15 rfl rfl ?_
      refine jr_aload_n (n := 17) dX7_needs_16 rfl rfl ?_
      refine jr_getR (n := 20) dX7_needs_17 rfl fX7_19 rfl (by decide) (by decide) rfl ?_
      refine jr_getI (n := 23) (i := 3) rfl dX7_needs_20 rfl fX7_85 rfl (by decide) (by decide) rfl ?_
      refine jr_ishr (n := 24) dX7_needs_23 rfl ?_
      refine jr_if_eq (n := 27) (t := 31) dX7_needs_24 (by decide) rfl (jshr_R _ _) (fun b24 => ?_) (fun b24 => ?_)
      · refine jr_aload_n (n := 32) dX7_needs_31 rfl rfl ?_
        refine jr_getR (n := 35) dX7_needs_32 rfl fX7_10 rfl (by decide) (by decide) rfl ?_
        refine jr_getR (n := 38) dX7_needs_35 rfl fX7_100 rfl (by decide) (by decide) rfl ?_
        refine jr_iload_n (n := 39) dX7_needs_38 rfl rfl ?_
        refine jr_iald (n := 40) dX7_needs_39 rfl rfl (by decide) (by omega) (by omega) ?_
        refine jr_istore3 (n := 41) dX7_needs_40 rfl (by decide) rfl ?_
        refine jr_iconst (n := 42) dX7_needs_41 rfl ?_
        refine jr_istore4 (n := 44) dX7_needs_42 rfl (by decide) rfl ?_
        rw [show M = jnC M k s 0 from by unfold jnC; rw [Int.add_zero, jcb_0]]
        have hq2 := hq.mp ⟨by omega, by omega⟩
        exact c_needs_l hI (by omega) (h (by omega) (by omega) (by omega) (by omega)) ((M 2 3).toNat + 1) 0 (by omega) (by omega) (by omega)
      · refine jr_ldc2 (n := 30) dX7_needs_27 rfl rfl qX7_70 vX7_70 ?_
        refine jr_lret dX7_needs_30 rfl ?_
        first | exact hB (by omega)
  · refine jr_ifT_eq (t := 27) dX7_needs_8 (by decide) (by decide) (by decide) ?_
    refine jr_ldc2 (n := 30) dX7_needs_27 rfl rfl qX7_70 vX7_70 ?_
    refine jr_lret dX7_needs_30 rfl ?_
    first | exact hB (by omega)

theorem e_needs_l {G : jG} {d : Nat} {M : jMem} {Q : Option Value → jMem → Prop} (hI : jO M) {k s : Int} (hk : 0 ≤ k ∧ k < 12) (h : Q (some (.long (jL (M 43 k)))) (jup (jnE M k (M 8 8)) 43 k s))  : ∀ (f : Nat) (i : Int), 0 ≤ i → i ≤ M 8 8 → M 8 8 - i < f → jM G mX8_needs (d + 2) 38 [.ref (jad G 8), .int (jI k), .int (jI s), .int (jI (M 43 k)), .int (jI i)] [] (jnE M k i) Q := by
  intro f
  induction f with
  | zero =>
    intro i h0 h1 hf
    exact absurd hf (by omega)
  | succ f ih =>
    intro i h0 h1 hf
    have hz := jn1 hI
    have hr := jn3 hI k hk.1 hk.2
    refine jr_iload (n := 40) dX8_needs_38 rfl rfl ?_
    refine jr_aload_n (n := 41) dX8_needs_40 rfl rfl ?_
    refine jr_getI (n := 44) (i := 8) rfl dX8_needs_41 rfl fX8_100 rfl (by decide) (by decide) rfl ?_
    rw [jnE_ne (show (8 : Nat) ≠ 48 by decide)]
    refine jr_icmp_ge (n := 47) (t := 82) dX8_needs_44 (by decide) rfl (by omega) (by omega) (fun b44 => ?_) (fun b44 => ?_)
    · refine jr_aload_n (n := 83) dX8_needs_82 rfl rfl ?_
      refine jr_getR (n := 86) dX8_needs_83 rfl fX8_25 rfl (by decide) (by decide) rfl ?_
      refine jr_iload_n (n := 87) dX8_needs_86 rfl rfl ?_
      refine jr_iload_n (n := 88) dX8_needs_87 rfl rfl ?_
      refine jr_iast (n := 89) dX8_needs_88 rfl rfl (by decide) (by omega) (by omega) ?_
      refine jr_iload_n (n := 90) dX8_needs_89 rfl rfl ?_
      refine jr_i2l (n := 91) dX8_needs_90 rfl (by omega) ?_
      refine jr_lret dX8_needs_91 rfl ?_
      have e : i = M 8 8 := by omega
      subst e
      exact h
    · refine jr_aload_n (n := 48) dX8_needs_47 rfl rfl ?_
      refine jr_iload_n (n := 49) dX8_needs_48 rfl rfl ?_
      refine jr_iload (n := 51) dX8_needs_49 rfl rfl ?_
      refine jr_cV2 (n := 54) (ci := 8) (ν := mX8_needs1) dX8_needs_51 rfl lX8_121 kX8_needs1 iX8_needs1 rfl ⟨_, rfl, rfl⟩ (by decide) (Nat.le_of_ble_eq_true rfl) (Nat.le_of_ble_eq_true rfl) rfl ?_
      refine e_needs1 (by omega) (fun b51 => ?_) (fun b51 => ?_)
      all_goals rw [jnE_ne (show (43 : Nat) ≠ 48 by decide)] at b51
      · refine jr_ifT_ne (t := 76) dX8_needs_54 (by decide) (by decide) (by decide) ?_
        refine jr_iinc4 (n := 79) dX8_needs_76 rfl (by decide) rfl ?_
        refine jr_goto (t := 38) dX8_needs_79 (by decide) ?_
        first
          | (rw [jnE_y h0 b51 rfl]; exact ih (i + 1) (by omega) (by omega) (by omega))
          | (rw [jnE_n b51]; exact ih (i + 1) (by omega) (by omega) (by omega))
      · refine jr_ifF_ne (n := 57) (t := 76) dX8_needs_54 rfl (by decide) (by decide) (by decide) ?_
        refine jr_aload_n (n := 58) dX8_needs_57 rfl rfl ?_
        refine jr_getR (n := 61) dX8_needs_58 rfl fX8_40 rfl (by decide) (by decide) rfl ?_
        refine jr_bipush (n := 63) dX8_needs_61 rfl (by decide) ?_
        refine jr_iload_n (n := 64) dX8_needs_63 rfl rfl ?_
        refine jr_imul (n := 65) dX8_needs_64 rfl ?_
        refine jr_iload (n := 67) dX8_needs_65 rfl rfl ?_
        refine jr_iadd (n := 68) dX8_needs_67 rfl ?_
        refine jr_aload_n (n := 69) dX8_needs_68 rfl rfl ?_
        refine jr_getR (n := 72) dX8_needs_69 rfl fX8_34 rfl (by decide) (by decide) rfl ?_
        refine jr_iload (n := 74) dX8_needs_72 rfl rfl ?_
        refine jr_iald (n := 75) dX8_needs_74 rfl rfl (by decide) (by omega) (by omega) ?_
        rw [jnE_ne (show (46 : Nat) ≠ 48 by decide)]
        refine jr_iast (n := 76) dX8_needs_75 rfl rfl (by decide) (by omega) (by omega) ?_
        refine jr_iinc4 (n := 79) dX8_needs_76 rfl (by decide) rfl ?_
        refine jr_goto (t := 38) dX8_needs_79 (by decide) ?_
        first
          | (rw [jnE_y h0 b51 rfl]; exact ih (i + 1) (by omega) (by omega) (by omega))
          | (rw [jnE_n b51]; exact ih (i + 1) (by omega) (by omega) (by omega))

theorem e_needs {G : jG} {d : Nat} {M : jMem} {Q : Option Value → jMem → Prop} (hI : jO M) {k s : Int} (hk : jR k) (hs : jR s) (hB : ¬ ((0 ≤ k ∧ k < M 8 2) ∧ (0 ≤ s ∧ s ≤ jshl 1 (M 8 8) - 1)) → Q (some (.long (jL (-9000000000000000001)))) M) (h : 0 ≤ k → k < M 8 2 → 0 ≤ s → s ≤ jshl 1 (M 8 8) - 1 → Q (some (.long (jL (M 43 k)))) (jup (jnE M k (M 8 8)) 43 k s)) : jN G mX8_needs (d + 2) [.ref (jad G 8), .int (jI k), .int (jI s)] M Q := by
  show jM G mX8_needs (d + 2) 0 [.ref (jad G 8), .int (jI k), .int (jI s), .null, .null] [] M Q
  have hz := jn1 hI
  have hq := jshl_R hz.2.1
  refine jr_aload_n (n := 1) dX8_needs_0 rfl rfl ?_
  refine jr_iload_n (n := 2) dX8_needs_1 rfl rfl ?_
  refine jr_cV1 (n := 5) (ci := 8) (ν := mX8_isCase) dX8_needs_2 rfl lX8_118 kX8_isCase iX8_isCase rfl ⟨_, rfl, rfl⟩ (by decide) (Nat.le_of_ble_eq_true rfl) (Nat.le_of_ble_eq_true rfl) rfl ?_
  refine e_isCase (by omega) (by omega) (fun b2 b2b => ?_) (fun b2 => ?_)
  · refine jr_ifF_eq (n := 8) (t := 24) dX8_needs_5 rfl (by decide) (by decide) (by decide) ?_
    refine jr_iload_n (n := 9) dX8_needs_8 rfl rfl ?_
    refine jr_iconst (n := 10) dX8_needs_9 rfl ?_
    refine jr_iconst (n := 11) dX8_needs_10 rfl ?_
    refine jr_aload_n (n := 12) dX8_needs_11 rfl rfl ?_
    refine jr_getI (n := 15) (i := 8) rfl dX8_needs_12 rfl fX8_100 rfl (by decide) (by decide) rfl ?_
    refine jr_ishl (n := 16) dX8_needs_15 rfl ?_
    refine jr_iconst (n := 17) dX8_needs_16 rfl ?_
    refine jr_isub (n := 18) dX8_needs_17 rfl ?_
    refine jr_cS3 (n := 21) (ν := mX8_isIn) dX8_needs_18 rfl lX8_92 kX8_isIn iX8_isIn (Nat.le_of_ble_eq_true rfl) (Nat.le_of_ble_eq_true rfl) rfl ?_
    refine e_isIn (by omega) (by omega) (by omega) (fun b18 b18b => ?_) (fun b18 => ?_)
    · refine jr_ifT_ne (t := 28) dX8_needs_21 (by decide) (by decide) (by decide) ?_
      refine jr_aload_n (n := 29) dX8_needs_28 rfl rfl ?_
      refine jr_getR (n := 32) dX8_needs_29 rfl fX8_25 rfl (by decide) (by decide) rfl ?_
      refine jr_iload_n (n := 33) dX8_needs_32 rfl rfl ?_
      refine jr_iald (n := 34) dX8_needs_33 rfl rfl (by decide) (by omega) (by omega) ?_
      refine jr_istore3 (n := 35) dX8_needs_34 rfl (by decide) rfl ?_
      refine jr_iconst (n := 36) dX8_needs_35 rfl ?_
      refine jr_istore4 (n := 38) dX8_needs_36 rfl (by decide) rfl ?_
      rw [show M = jnE M k 0 from by unfold jnE; rw [Int.add_zero, jcb_0]]
      exact e_needs_l hI (by omega) (h (by omega) (by omega) (by omega) (by omega)) ((M 8 8).toNat + 1) 0 (by omega) (by omega) (by omega)
    · refine jr_ifF_ne (n := 24) (t := 28) dX8_needs_21 rfl (by decide) (by decide) (by decide) ?_
      refine jr_ldc2 (n := 27) dX8_needs_24 rfl rfl qX8_107 vX8_107 ?_
      refine jr_lret dX8_needs_27 rfl ?_
      first | exact hB (by omega)
  · refine jr_ifT_eq (t := 24) dX8_needs_5 (by decide) (by decide) (by decide) ?_
    refine jr_ldc2 (n := 27) dX8_needs_24 rfl rfl qX8_107 vX8_107 ?_
    refine jr_lret dX8_needs_27 rfl ?_
    first | exact hB (by omega)

def jplo (M : jMem) (k p : Int) : Prop := 0 ≤ p ∧ p < M 38 (M 40 k) ∧ M 39 (6 * M 40 k + p) = k ∧ ∀ q, 0 ≤ q → q < p → M 39 (6 * M 40 k + q) ≠ k
theorem jplo_of {M : jMem} (h : jO M) {k : Int} (h0 : 0 ≤ k) (h1 : k < M 8 2) : ∃ p, jplo M k p := by
  have s := (jn1 h).1
  have r := (jn3 h k h0 (by omega)).1
  obtain ⟨j, j0, j1, j2⟩ := jn7 h k h0 h1
  exact ⟨j, j0, j1, j2, fun i i0 i1 e => jn8 h _ i j r.1 r.2 i0 i1 j1 (by rw [e, j2])⟩
theorem jplo_R {M : jMem} (h : jO M) {k : Int} (h0 : 0 ≤ k) (h1 : k < 12) : ∀ q, 0 ≤ q → q < M 38 (M 40 k) → jR (M 39 (6 * M 40 k + q)) := by
  intro q q0 q1
  have s := (jn1 h).1
  have r := (jn3 h k h0 h1).1
  have := (jn6 h _ q r.1 r.2 q0 q1).1
  omega
theorem e_placeOf_l {G : jG} {d : Nat} {M : jMem} {Q : Option Value → jMem → Prop} {k p : Int} (hk : 0 ≤ k ∧ k < 12) (hc : 0 ≤ M 40 k ∧ M 40 k < 3) (hs : p < 6) (hr : ∀ q, 0 ≤ q → q ≤ p → jR (M 39 (6 * M 40 k + q))) (hp0 : 0 ≤ p) (hp : M 39 (6 * M 40 k + p) = k) (hp3 : ∀ q, 0 ≤ q → q < p → M 39 (6 * M 40 k + q) ≠ k) (hQ : Q (some (.int (jI p))) M) : ∀ (f : Nat) (i : Int), 0 ≤ i → i ≤ p → p - i < f → jM G mX8_placeOf (d) 9 [.ref (jad G 8), .int (jI k), .int (jI (M 40 k)), .int (jI i)] [] (M) Q := by
  intro f
  induction f with
  | zero =>
    intro i h0 h1 hf
    exact absurd hf (by omega)
  | succ f ih =>
    intro i h0 h1 hf
    have hri := hr i (by omega) (by omega)
    refine jr_aload_n (n := 10) dX8_placeOf_9 rfl rfl ?_
    refine jr_getR (n := 13) dX8_placeOf_10 rfl fX8_13 rfl (by decide) (by decide) rfl ?_
    refine jr_bipush (n := 15) dX8_placeOf_13 rfl (by decide) ?_
    refine jr_iload_n (n := 16) dX8_placeOf_15 rfl rfl ?_
    refine jr_imul (n := 17) dX8_placeOf_16 rfl ?_
    refine jr_iload_n (n := 18) dX8_placeOf_17 rfl rfl ?_
    refine jr_iadd (n := 19) dX8_placeOf_18 rfl ?_
    refine jr_iald (n := 20) dX8_placeOf_19 rfl rfl (by decide) (by omega) (by omega) ?_
    refine jr_iload_n (n := 21) dX8_placeOf_20 rfl rfl ?_
    refine jr_icmp_eq (n := 24) (t := 30) dX8_placeOf_21 (by decide) rfl hri (by omega) (fun b21 => ?_) (fun b21 => ?_)
    · refine jr_iload_n (n := 31) dX8_placeOf_30 rfl rfl ?_
      refine jr_iret dX8_placeOf_31 rfl ?_
      have e : i = p := by
        by_cases e : i = p
        · exact e
        · exact absurd b21 (hp3 i h0 (by omega))
      subst e
      exact hQ
    · refine jr_iinc3 (n := 27) dX8_placeOf_24 rfl (by decide) rfl ?_
      refine jr_goto (t := 9) dX8_placeOf_27 (by decide) ?_
      have e : i ≠ p := fun e => b21 (by rw [e]; exact hp)
      exact ih (i + 1) (by omega) (by omega) (by omega)

theorem e_placeOf {G : jG} {d : Nat} {M : jMem} {Q : Option Value → jMem → Prop} {k p : Int} (hk : 0 ≤ k ∧ k < 12) (hc : 0 ≤ M 40 k ∧ M 40 k < 3) (hs : p < 6) (hr : ∀ q, 0 ≤ q → q ≤ p → jR (M 39 (6 * M 40 k + q))) (hp0 : 0 ≤ p) (hp : M 39 (6 * M 40 k + p) = k) (hp3 : ∀ q, 0 ≤ q → q < p → M 39 (6 * M 40 k + q) ≠ k) (hQ : Q (some (.int (jI p))) M) : jN G mX8_placeOf (d) [.ref (jad G 8), .int (jI k)] M Q := by
  show jM G mX8_placeOf (d) 0 [.ref (jad G 8), .int (jI k), .null, .null] [] M Q
  refine jr_aload_n (n := 1) dX8_placeOf_0 rfl rfl ?_
  refine jr_getR (n := 4) dX8_placeOf_1 rfl fX8_16 rfl (by decide) (by decide) rfl ?_
  refine jr_iload_n (n := 5) dX8_placeOf_4 rfl rfl ?_
  refine jr_iald (n := 6) dX8_placeOf_5 rfl rfl (by decide) (by omega) (by omega) ?_
  refine jr_istore2 (n := 7) dX8_placeOf_6 rfl (by decide) rfl ?_
  refine jr_iconst (n := 8) dX8_placeOf_7 rfl ?_
  refine jr_istore3 (n := 9) dX8_placeOf_8 rfl (by decide) rfl ?_
  exact e_placeOf_l hk hc hs hr hp0 hp hp3 hQ (p.toNat + 1) 0 (by omega) (by omega) (by omega)

theorem c_told {G : jG} {d : Nat} {M : jMem} {Q : Option Value → jMem → Prop} (hI : jK M) {k v : Int} (hk : jR k) (hv : jR v) (hB : ¬ ((0 ≤ k ∧ k < M 1 8) ∧ (0 ≤ v ∧ v ≤ 5)) → Q (some (.long (jL (-9000000000000000001)))) M) (h0 : v = 0 → Q (some (.long (jL (M 10 k)))) M) (h1 : v = 1 → ∀ p, jpl M k p → Q (some (.long (jL p))) M) (h2 : v = 2 → Q (some (.long (jL (M 11 k)))) M) (h3 : v = 3 → Q (some (.long (jL (M 12 k)))) M) (h4 : v = 4 → Q (some (.long (jL (M 13 k)))) M) (h5 : v = 5 → M 14 k = -1 → Q (some (.long (jL (-9000000000000000005)))) M) (h6 : v = 5 → M 14 k ≠ -1 → Q (some (.long (jL (M 14 k)))) M) : jN G mX7_told (d + 2) [.ref (jad G 0), .int (jI k), .int (jI v)] M Q := by
  show jM G mX7_told (d + 2) 0 [.ref (jad G 0), .int (jI k), .int (jI v)] [] M Q
  have hz := jn1 hI
  refine jr_aload_n (n := 1) dX7_told_0 rfl rfl ?_
  refine jr_getR (n := 4) dX7_told_1 rfl fX7_10 rfl (by decide) (by decide) rfl ?_
  refine jr_iload_n (n := 5) dX7_told_4 rfl rfl ?_
  refine jr_cV1 (n := 8) (ci := 2) (ν := mX2_has) dX7_told_5 rfl lX7_99 kX2_has iX2_has rfl ⟨_, rfl, rfl⟩ (by decide) (Nat.le_of_ble_eq_true rfl) (Nat.le_of_ble_eq_true rfl) rfl ?_
  refine c_hasC (by omega) (by omega) (fun b5 b5b => ?_) (fun b5 => ?_)
  · refine jr_ifT_ne (t := 15) dX7_told_8 (by decide) (by decide) (by decide) ?_
    have hr := jn3 hI k (by omega) (by omega)
    refine jr_iload_n (n := 16) dX7_told_15 rfl rfl ?_
    by_cases hs16 : v < 0 ∨ 5 < v
    · refine jr_tabO (t := 140) dX7_told_16 (by omega) hs16 (by decide) ?_
      refine jr_ldc2 (n := 143) dX7_told_140 rfl rfl qX7_70 vX7_70 ?_
      refine jr_lret dX7_told_143 rfl ?_
      first | exact hB (by omega) | exact h0 (by omega) | exact h1 (by omega) _ hp | exact h2 (by omega) | exact h3 (by omega) | exact h4 (by omega) | exact h5 (by omega) (by omega) | exact h6 (by omega) (by omega)
    have hs16_ : v = 0 ∨ v = 1 ∨ v = 2 ∨ v = 3 ∨ v = 4 ∨ v = 5 := by omega
    rcases hs16_ with hv16 | hv16 | hv16 | hv16 | hv16 | hv16
    · refine jr_tabI (t := 56) (off := 40) dX7_told_16 (by omega) (by omega) (by omega) (by rw [hv16]; rfl) (by decide) ?_
      refine jr_aload_n (n := 57) dX7_told_56 rfl rfl ?_
      refine jr_getR (n := 60) dX7_told_57 rfl fX7_10 rfl (by decide) (by decide) rfl ?_
      refine jr_getR (n := 63) dX7_told_60 rfl fX7_117 rfl (by decide) (by decide) rfl ?_
      refine jr_iload_n (n := 64) dX7_told_63 rfl rfl ?_
      refine jr_iald (n := 65) dX7_told_64 rfl rfl (by decide) (by omega) (by omega) ?_
      refine jr_i2l (n := 66) dX7_told_65 rfl (by omega) ?_
      refine jr_lret dX7_told_66 rfl ?_
      first | exact hB (by omega) | exact h0 (by omega) | exact h1 (by omega) _ hp | exact h2 (by omega) | exact h3 (by omega) | exact h4 (by omega) | exact h5 (by omega) (by omega) | exact h6 (by omega) (by omega)
    · refine jr_tabI (t := 67) (off := 51) dX7_told_16 (by omega) (by omega) (by omega) (by rw [hv16]; rfl) (by decide) ?_
      refine jr_aload_n (n := 68) dX7_told_67 rfl rfl ?_
      refine jr_getR (n := 71) dX7_told_68 rfl fX7_10 rfl (by decide) (by decide) rfl ?_
      refine jr_iload_n (n := 72) dX7_told_71 rfl rfl ?_
      refine jr_cV1 (n := 75) (ci := 2) (ν := mX2_placeOf) dX7_told_72 rfl lX7_120 kX2_placeOf iX2_placeOf rfl ⟨_, rfl, rfl⟩ (by decide) (Nat.le_of_ble_eq_true rfl) (Nat.le_of_ble_eq_true rfl) rfl ?_
      obtain ⟨p, hp⟩ := jpl_of hI (k := k) (by omega) (by omega)
      have hs := jn2 hI _ hr.1.1 hr.1.2
      have hp0 := hp.1
      have hp1 := hp.2.1
      refine c_placeOf (by omega) hr.1 hs.2 (jpl_R hI (by omega) (by omega)) hp ?_
      refine jr_i2l (n := 76) dX7_told_75 rfl (by omega) ?_
      refine jr_lret dX7_told_76 rfl ?_
      first | exact hB (by omega) | exact h0 (by omega) | exact h1 (by omega) _ hp | exact h2 (by omega) | exact h3 (by omega) | exact h4 (by omega) | exact h5 (by omega) (by omega) | exact h6 (by omega) (by omega)
    · refine jr_tabI (t := 77) (off := 61) dX7_told_16 (by omega) (by omega) (by omega) (by rw [hv16]; rfl) (by decide) ?_
      refine jr_aload_n (n := 78) dX7_told_77 rfl rfl ?_
      refine jr_getR (n := 81) dX7_told_78 rfl fX7_10 rfl (by decide) (by decide) rfl ?_
      refine jr_getR (n := 84) dX7_told_81 rfl fX7_124 rfl (by decide) (by decide) rfl ?_
      refine jr_iload_n (n := 85) dX7_told_84 rfl rfl ?_
      refine jr_iald (n := 86) dX7_told_85 rfl rfl (by decide) (by omega) (by omega) ?_
      refine jr_i2l (n := 87) dX7_told_86 rfl (by omega) ?_
      refine jr_lret dX7_told_87 rfl ?_
      first | exact hB (by omega) | exact h0 (by omega) | exact h1 (by omega) _ hp | exact h2 (by omega) | exact h3 (by omega) | exact h4 (by omega) | exact h5 (by omega) (by omega) | exact h6 (by omega) (by omega)
    · refine jr_tabI (t := 88) (off := 72) dX7_told_16 (by omega) (by omega) (by omega) (by rw [hv16]; rfl) (by decide) ?_
      refine jr_aload_n (n := 89) dX7_told_88 rfl rfl ?_
      refine jr_getR (n := 92) dX7_told_89 rfl fX7_10 rfl (by decide) (by decide) rfl ?_
      refine jr_getR (n := 95) dX7_told_92 rfl fX7_114 rfl (by decide) (by decide) rfl ?_
      refine jr_iload_n (n := 96) dX7_told_95 rfl rfl ?_
      refine jr_iald (n := 97) dX7_told_96 rfl rfl (by decide) (by omega) (by omega) ?_
      refine jr_i2l (n := 98) dX7_told_97 rfl (by omega) ?_
      refine jr_lret dX7_told_98 rfl ?_
      first | exact hB (by omega) | exact h0 (by omega) | exact h1 (by omega) _ hp | exact h2 (by omega) | exact h3 (by omega) | exact h4 (by omega) | exact h5 (by omega) (by omega) | exact h6 (by omega) (by omega)
    · refine jr_tabI (t := 99) (off := 83) dX7_told_16 (by omega) (by omega) (by omega) (by rw [hv16]; rfl) (by decide) ?_
      refine jr_aload_n (n := 100) dX7_told_99 rfl rfl ?_
      refine jr_getR (n := 103) dX7_told_100 rfl fX7_10 rfl (by decide) (by decide) rfl ?_
      refine jr_getR (n := 106) dX7_told_103 rfl fX7_100 rfl (by decide) (by decide) rfl ?_
      refine jr_iload_n (n := 107) dX7_told_106 rfl rfl ?_
      refine jr_iald (n := 108) dX7_told_107 rfl rfl (by decide) (by omega) (by omega) ?_
      refine jr_i2l (n := 109) dX7_told_108 rfl (by omega) ?_
      refine jr_lret dX7_told_109 rfl ?_
      first | exact hB (by omega) | exact h0 (by omega) | exact h1 (by omega) _ hp | exact h2 (by omega) | exact h3 (by omega) | exact h4 (by omega) | exact h5 (by omega) (by omega) | exact h6 (by omega) (by omega)
    · refine jr_tabI (t := 110) (off := 94) dX7_told_16 (by omega) (by omega) (by omega) (by rw [hv16]; rfl) (by decide) ?_
      refine jr_aload_n (n := 111) dX7_told_110 rfl rfl ?_
      refine jr_getR (n := 114) dX7_told_111 rfl fX7_10 rfl (by decide) (by decide) rfl ?_
      refine jr_getR (n := 117) dX7_told_114 rfl fX7_127 rfl (by decide) (by decide) rfl ?_
      refine jr_iload_n (n := 118) dX7_told_117 rfl rfl ?_
      refine jr_iald (n := 119) dX7_told_118 rfl rfl (by decide) (by omega) (by omega) ?_
      refine jr_iconst (n := 120) dX7_told_119 rfl ?_
      refine jr_icmp_ne (n := 123) (t := 129) dX7_told_120 (by decide) rfl (by omega) (by omega) (fun b120 => ?_) (fun b120 => ?_)
      · refine jr_aload_n (n := 130) dX7_told_129 rfl rfl ?_
        refine jr_getR (n := 133) dX7_told_130 rfl fX7_10 rfl (by decide) (by decide) rfl ?_
        refine jr_getR (n := 136) dX7_told_133 rfl fX7_127 rfl (by decide) (by decide) rfl ?_
        refine jr_iload_n (n := 137) dX7_told_136 rfl rfl ?_
        refine jr_iald (n := 138) dX7_told_137 rfl rfl (by decide) (by omega) (by omega) ?_
        refine jr_i2l (n := 139) dX7_told_138 rfl (by omega) ?_
        refine jr_lret dX7_told_139 rfl ?_
        first | exact hB (by omega) | exact h0 (by omega) | exact h1 (by omega) _ hp | exact h2 (by omega) | exact h3 (by omega) | exact h4 (by omega) | exact h5 (by omega) (by omega) | exact h6 (by omega) (by omega)
      · refine jr_ldc2 (n := 126) dX7_told_123 rfl rfl qX7_130 vX7_130 ?_
        refine jr_goto (t := 139) dX7_told_126 (by decide) ?_
        refine jr_lret dX7_told_139 rfl ?_
        first | exact hB (by omega) | exact h0 (by omega) | exact h1 (by omega) _ hp | exact h2 (by omega) | exact h3 (by omega) | exact h4 (by omega) | exact h5 (by omega) (by omega) | exact h6 (by omega) (by omega)
  · refine jr_ifF_ne (n := 11) (t := 15) dX7_told_8 rfl (by decide) (by decide) (by decide) ?_
    refine jr_ldc2 (n := 14) dX7_told_11 rfl rfl qX7_70 vX7_70 ?_
    refine jr_lret dX7_told_14 rfl ?_
    first | exact hB (by omega) | exact h0 (by omega) | exact h1 (by omega) _ hp | exact h2 (by omega) | exact h3 (by omega) | exact h4 (by omega) | exact h5 (by omega) (by omega) | exact h6 (by omega) (by omega)

theorem e_told {G : jG} {d : Nat} {M : jMem} {Q : Option Value → jMem → Prop} (hI : jO M) {k v : Int} (hk : jR k) (hv : jR v) (hB : ¬ ((0 ≤ k ∧ k < M 8 2) ∧ (0 ≤ v ∧ v ≤ 5)) → Q (some (.long (jL (-9000000000000000001)))) M) (h0 : v = 0 → Q (some (.long (jL (M 40 k)))) M) (h1 : v = 1 → ∀ p, jplo M k p → Q (some (.long (jL p))) M) (h2 : v = 2 → Q (some (.long (jL (M 41 k)))) M) (h3 : v = 3 → Q (some (.long (jL (M 42 k)))) M) (h4 : v = 4 → Q (some (.long (jL (M 43 k)))) M) (h5 : v = 5 → M 44 k = -1 → Q (some (.long (jL (-9000000000000000005)))) M) (h6 : v = 5 → M 44 k ≠ -1 → Q (some (.long (jL (M 44 k)))) M) : jN G mX8_told (d + 2) [.ref (jad G 8), .int (jI k), .int (jI v)] M Q := by
  show jM G mX8_told (d + 2) 0 [.ref (jad G 8), .int (jI k), .int (jI v)] [] M Q
  have hz := jn1 hI
  refine jr_aload_n (n := 1) dX8_told_0 rfl rfl ?_
  refine jr_iload_n (n := 2) dX8_told_1 rfl rfl ?_
  refine jr_cV1 (n := 5) (ci := 8) (ν := mX8_isCase) dX8_told_2 rfl lX8_118 kX8_isCase iX8_isCase rfl ⟨_, rfl, rfl⟩ (by decide) (Nat.le_of_ble_eq_true rfl) (Nat.le_of_ble_eq_true rfl) rfl ?_
  refine e_isCase (by omega) (by omega) (fun b2 b2b => ?_) (fun b2 => ?_)
  · refine jr_ifF_eq (n := 8) (t := 17) dX8_told_5 rfl (by decide) (by decide) (by decide) ?_
    refine jr_iload_n (n := 9) dX8_told_8 rfl rfl ?_
    refine jr_iconst (n := 10) dX8_told_9 rfl ?_
    refine jr_iconst (n := 11) dX8_told_10 rfl ?_
    refine jr_cS3 (n := 14) (ν := mX8_isIn) dX8_told_11 rfl lX8_92 kX8_isIn iX8_isIn (Nat.le_of_ble_eq_true rfl) (Nat.le_of_ble_eq_true rfl) rfl ?_
    refine e_isIn (by omega) (by omega) (by omega) (fun b11 b11b => ?_) (fun b11 => ?_)
    · refine jr_ifT_ne (t := 21) dX8_told_14 (by decide) (by decide) (by decide) ?_
      have hr := jn3 hI k (by omega) (by omega)
      refine jr_iload_n (n := 22) dX8_told_21 rfl rfl ?_
      by_cases hs22 : v < 0 ∨ 4 < v
      · refine jr_tabO (t := 95) dX8_told_22 (by omega) hs22 (by decide) ?_
        refine jr_aload_n (n := 96) dX8_told_95 rfl rfl ?_
        refine jr_getR (n := 99) dX8_told_96 rfl fX8_28 rfl (by decide) (by decide) rfl ?_
        refine jr_iload_n (n := 100) dX8_told_99 rfl rfl ?_
        refine jr_iald (n := 101) dX8_told_100 rfl rfl (by decide) (by omega) (by omega) ?_
        refine jr_if_ge (n := 104) (t := 110) dX8_told_101 (by decide) rfl (by omega) (fun b101 => ?_) (fun b101 => ?_)
        · refine jr_aload_n (n := 111) dX8_told_110 rfl rfl ?_
          refine jr_getR (n := 114) dX8_told_111 rfl fX8_28 rfl (by decide) (by decide) rfl ?_
          refine jr_iload_n (n := 115) dX8_told_114 rfl rfl ?_
          refine jr_iald (n := 116) dX8_told_115 rfl rfl (by decide) (by omega) (by omega) ?_
          refine jr_i2l (n := 117) dX8_told_116 rfl (by omega) ?_
          refine jr_lret dX8_told_117 rfl ?_
          first | exact hB (by omega) | exact h0 (by omega) | exact h1 (by omega) _ hp | exact h2 (by omega) | exact h3 (by omega) | exact h4 (by omega) | exact h5 (by omega) (by omega) | exact h6 (by omega) (by omega)
        · refine jr_ldc2 (n := 107) dX8_told_104 rfl rfl qX8_129 vX8_129 ?_
          refine jr_goto (t := 117) dX8_told_107 (by decide) ?_
          refine jr_lret dX8_told_117 rfl ?_
          first | exact hB (by omega) | exact h0 (by omega) | exact h1 (by omega) _ hp | exact h2 (by omega) | exact h3 (by omega) | exact h4 (by omega) | exact h5 (by omega) (by omega) | exact h6 (by omega) (by omega)
      have hs22_ : v = 0 ∨ v = 1 ∨ v = 2 ∨ v = 3 ∨ v = 4 := by omega
      rcases hs22_ with hv22 | hv22 | hv22 | hv22 | hv22
      · refine jr_tabI (t := 56) (off := 34) dX8_told_22 (by omega) (by omega) (by omega) (by rw [hv22]; rfl) (by decide) ?_
        refine jr_aload_n (n := 57) dX8_told_56 rfl rfl ?_
        refine jr_getR (n := 60) dX8_told_57 rfl fX8_16 rfl (by decide) (by decide) rfl ?_
        refine jr_iload_n (n := 61) dX8_told_60 rfl rfl ?_
        refine jr_iald (n := 62) dX8_told_61 rfl rfl (by decide) (by omega) (by omega) ?_
        refine jr_i2l (n := 63) dX8_told_62 rfl (by omega) ?_
        refine jr_lret dX8_told_63 rfl ?_
        first | exact hB (by omega) | exact h0 (by omega) | exact h1 (by omega) _ hp | exact h2 (by omega) | exact h3 (by omega) | exact h4 (by omega) | exact h5 (by omega) (by omega) | exact h6 (by omega) (by omega)
      · refine jr_tabI (t := 64) (off := 42) dX8_told_22 (by omega) (by omega) (by omega) (by rw [hv22]; rfl) (by decide) ?_
        refine jr_aload_n (n := 65) dX8_told_64 rfl rfl ?_
        refine jr_iload_n (n := 66) dX8_told_65 rfl rfl ?_
        refine jr_cV1 (n := 69) (ci := 8) (ν := mX8_placeOf) dX8_told_66 rfl lX8_125 kX8_placeOf iX8_placeOf rfl ⟨_, rfl, rfl⟩ (by decide) (Nat.le_of_ble_eq_true rfl) (Nat.le_of_ble_eq_true rfl) rfl ?_
        obtain ⟨p, hp⟩ := jplo_of hI (k := k) (by omega) (by omega)
        have hs := jn2 hI _ hr.1.1 hr.1.2
        have hp0 := hp.1
        have hp1 := hp.2.1
        refine e_placeOf (by omega) hr.1 (by omega) (fun q q0 q1 => jplo_R hI (by omega) (by omega) q q0 (by omega)) hp0 hp.2.2.1 hp.2.2.2 ?_
        refine jr_i2l (n := 70) dX8_told_69 rfl (by omega) ?_
        refine jr_lret dX8_told_70 rfl ?_
        first | exact hB (by omega) | exact h0 (by omega) | exact h1 (by omega) _ hp | exact h2 (by omega) | exact h3 (by omega) | exact h4 (by omega) | exact h5 (by omega) (by omega) | exact h6 (by omega) (by omega)
      · refine jr_tabI (t := 71) (off := 49) dX8_told_22 (by omega) (by omega) (by omega) (by rw [hv22]; rfl) (by decide) ?_
        refine jr_aload_n (n := 72) dX8_told_71 rfl rfl ?_
        refine jr_getR (n := 75) dX8_told_72 rfl fX8_19 rfl (by decide) (by decide) rfl ?_
        refine jr_iload_n (n := 76) dX8_told_75 rfl rfl ?_
        refine jr_iald (n := 77) dX8_told_76 rfl rfl (by decide) (by omega) (by omega) ?_
        refine jr_i2l (n := 78) dX8_told_77 rfl (by omega) ?_
        refine jr_lret dX8_told_78 rfl ?_
        first | exact hB (by omega) | exact h0 (by omega) | exact h1 (by omega) _ hp | exact h2 (by omega) | exact h3 (by omega) | exact h4 (by omega) | exact h5 (by omega) (by omega) | exact h6 (by omega) (by omega)
      · refine jr_tabI (t := 79) (off := 57) dX8_told_22 (by omega) (by omega) (by omega) (by rw [hv22]; rfl) (by decide) ?_
        refine jr_aload_n (n := 80) dX8_told_79 rfl rfl ?_
        refine jr_getR (n := 83) dX8_told_80 rfl fX8_22 rfl (by decide) (by decide) rfl ?_
        refine jr_iload_n (n := 84) dX8_told_83 rfl rfl ?_
        refine jr_iald (n := 85) dX8_told_84 rfl rfl (by decide) (by omega) (by omega) ?_
        refine jr_i2l (n := 86) dX8_told_85 rfl (by omega) ?_
        refine jr_lret dX8_told_86 rfl ?_
        first | exact hB (by omega) | exact h0 (by omega) | exact h1 (by omega) _ hp | exact h2 (by omega) | exact h3 (by omega) | exact h4 (by omega) | exact h5 (by omega) (by omega) | exact h6 (by omega) (by omega)
      · refine jr_tabI (t := 87) (off := 65) dX8_told_22 (by omega) (by omega) (by omega) (by rw [hv22]; rfl) (by decide) ?_
        refine jr_aload_n (n := 88) dX8_told_87 rfl rfl ?_
        refine jr_getR (n := 91) dX8_told_88 rfl fX8_25 rfl (by decide) (by decide) rfl ?_
        refine jr_iload_n (n := 92) dX8_told_91 rfl rfl ?_
        refine jr_iald (n := 93) dX8_told_92 rfl rfl (by decide) (by omega) (by omega) ?_
        refine jr_i2l (n := 94) dX8_told_93 rfl (by omega) ?_
        refine jr_lret dX8_told_94 rfl ?_
        first | exact hB (by omega) | exact h0 (by omega) | exact h1 (by omega) _ hp | exact h2 (by omega) | exact h3 (by omega) | exact h4 (by omega) | exact h5 (by omega) (by omega) | exact h6 (by omega) (by omega)
    · refine jr_ifF_ne (n := 17) (t := 21) dX8_told_14 rfl (by decide) (by decide) (by decide) ?_
      refine jr_ldc2 (n := 20) dX8_told_17 rfl rfl qX8_107 vX8_107 ?_
      refine jr_lret dX8_told_20 rfl ?_
      first | exact hB (by omega) | exact h0 (by omega) | exact h1 (by omega) _ hp | exact h2 (by omega) | exact h3 (by omega) | exact h4 (by omega) | exact h5 (by omega) (by omega) | exact h6 (by omega) (by omega)
  · refine jr_ifT_eq (t := 17) dX8_told_5 (by decide) (by decide) (by decide) ?_
    refine jr_ldc2 (n := 20) dX8_told_17 rfl rfl qX8_107 vX8_107 ?_
    refine jr_lret dX8_told_20 rfl ?_
    first | exact hB (by omega) | exact h0 (by omega) | exact h1 (by omega) _ hp | exact h2 (by omega) | exact h3 (by omega) | exact h4 (by omega) | exact h5 (by omega) (by omega) | exact h6 (by omega) (by omega)

theorem c_inList {G : jG} {d : Nat} {M : jMem} {Q : Option Value → jMem → Prop} (hI : jK M) {c p : Int} (hc : jR c) (hp : jR p) (hB : ¬ ((0 ≤ c ∧ c ≤ 2) ∧ 0 ≤ p) → Q (some (.long (jL (-9000000000000000001)))) M) (hN : 0 ≤ c → c ≤ 2 → 0 ≤ p → M 17 c ≤ p → Q (some (.long (jL (-9000000000000000005)))) M) (h : 0 ≤ c → c ≤ 2 → 0 ≤ p → p < M 17 c → Q (some (.long (jL (M 16 (6 * c + p))))) M) : jN G mX7_inList (d + 2) [.ref (jad G 0), .int (jI c), .int (jI p)] M Q := by
  show jM G mX7_inList (d + 2) 0 [.ref (jad G 0), .int (jI c), .int (jI p), .null] [] M Q
  refine jr_iload_n (n := 1) dX7_inList_0 rfl rfl ?_
  refine jr_cS1 (n := 4) (ν := mX7_isCourt) dX7_inList_1 rfl lX7_62 kX7_isCourt iX7_isCourt (Nat.le_of_ble_eq_true rfl) (Nat.le_of_ble_eq_true rfl) rfl ?_
  refine c_isCourt (by omega) (fun b1 b1b => ?_) (fun b1 => ?_)
  · refine jr_ifF_eq (n := 7) (t := 11) dX7_inList_4 rfl (by decide) (by decide) (by decide) ?_
    refine jr_iload_n (n := 8) dX7_inList_7 rfl rfl ?_
    refine jr_if_ge (n := 11) (t := 15) dX7_inList_8 (by decide) rfl (by omega) (fun b8 => ?_) (fun b8 => ?_)
    · have hz := jn1 hI
      have hs := jn2 hI c (by omega) (by omega)
      refine jr_aload_n (n := 16) dX7_inList_15 rfl rfl ?_
      refine jr_getR (n := 19) dX7_inList_16 rfl fX7_10 rfl (by decide) (by decide) rfl ?_
      refine jr_iload_n (n := 20) dX7_inList_19 rfl rfl ?_
      refine jr_iload_n (n := 21) dX7_inList_20 rfl rfl ?_
      refine jr_cV2 (n := 24) (ci := 2) (ν := mX2_caseAt) dX7_inList_21 rfl lX7_132 kX2_caseAt iX2_caseAt rfl ⟨_, rfl, rfl⟩ (by decide) (Nat.le_of_ble_eq_true rfl) (Nat.le_of_ble_eq_true rfl) rfl ?_
      refine c_caseAt (by omega) (by omega) (by omega) (fun b21 b21b => ?_) (fun b21 => ?_)
      · refine jr_istore3 (n := 25) dX7_inList_24 rfl (by decide) rfl ?_
        refine jr_iload_n (n := 26) dX7_inList_25 rfl rfl ?_
        refine jr_iconst (n := 27) dX7_inList_26 rfl ?_
        refine jr_icmp_ne (n := 30) (t := 36) dX7_inList_27 (by decide) rfl (by first | omega | (have hr := (jn6 hI c p (by omega) (by omega) b21 b21b).1; rw [Int.mul_comm 6 c] at hr; omega)) (by omega) (fun b27 => ?_) (fun b27 => ?_)
        · refine jr_iload_n (n := 37) dX7_inList_36 rfl rfl ?_
          refine jr_i2l (n := 38) dX7_inList_37 rfl (by first | omega | (have hr := (jn6 hI c p (by omega) (by omega) b21 b21b).1; rw [Int.mul_comm 6 c] at hr; omega)) ?_
          refine jr_lret dX7_inList_38 rfl ?_
          first | exact hB (by omega) | exact hN (by omega) (by omega) (by omega) (by omega) | (rw [Int.mul_comm 6 c] at h; exact h (by omega) (by omega) (by omega) (by omega)) | (exfalso; have hr := (jn6 hI c p (by omega) (by omega) b21 b21b).1; rw [Int.mul_comm 6 c] at hr; omega) | (exfalso; omega)
        · refine jr_ldc2 (n := 33) dX7_inList_30 rfl rfl qX7_130 vX7_130 ?_
          refine jr_goto (t := 38) dX7_inList_33 (by decide) ?_
          refine jr_lret dX7_inList_38 rfl ?_
          first | exact hB (by omega) | exact hN (by omega) (by omega) (by omega) (by omega) | (rw [Int.mul_comm 6 c] at h; exact h (by omega) (by omega) (by omega) (by omega)) | (exfalso; have hr := (jn6 hI c p (by omega) (by omega) b21 b21b).1; rw [Int.mul_comm 6 c] at hr; omega) | (exfalso; omega)
      · refine jr_istore3 (n := 25) dX7_inList_24 rfl (by decide) rfl ?_
        refine jr_iload_n (n := 26) dX7_inList_25 rfl rfl ?_
        refine jr_iconst (n := 27) dX7_inList_26 rfl ?_
        refine jr_icmp_ne (n := 30) (t := 36) dX7_inList_27 (by decide) rfl (by first | omega | (have hr := (jn6 hI c p (by omega) (by omega) b21 b21b).1; rw [Int.mul_comm 6 c] at hr; omega)) (by omega) (fun b27 => ?_) (fun b27 => ?_)
        · refine jr_iload_n (n := 37) dX7_inList_36 rfl rfl ?_
          refine jr_i2l (n := 38) dX7_inList_37 rfl (by first | omega | (have hr := (jn6 hI c p (by omega) (by omega) b21 b21b).1; rw [Int.mul_comm 6 c] at hr; omega)) ?_
          refine jr_lret dX7_inList_38 rfl ?_
          first | exact hB (by omega) | exact hN (by omega) (by omega) (by omega) (by omega) | (rw [Int.mul_comm 6 c] at h; exact h (by omega) (by omega) (by omega) (by omega)) | (exfalso; have hr := (jn6 hI c p (by omega) (by omega) b21 b21b).1; rw [Int.mul_comm 6 c] at hr; omega) | (exfalso; omega)
        · refine jr_ldc2 (n := 33) dX7_inList_30 rfl rfl qX7_130 vX7_130 ?_
          refine jr_goto (t := 38) dX7_inList_33 (by decide) ?_
          refine jr_lret dX7_inList_38 rfl ?_
          first | exact hB (by omega) | exact hN (by omega) (by omega) (by omega) (by omega) | (rw [Int.mul_comm 6 c] at h; exact h (by omega) (by omega) (by omega) (by omega)) | (exfalso; have hr := (jn6 hI c p (by omega) (by omega) b21 b21b).1; rw [Int.mul_comm 6 c] at hr; omega) | (exfalso; omega)
    · refine jr_ldc2 (n := 14) dX7_inList_11 rfl rfl qX7_70 vX7_70 ?_
      refine jr_lret dX7_inList_14 rfl ?_
      first | exact hB (by omega) | exact hN (by omega) (by omega) (by omega) (by omega) | (rw [Int.mul_comm 6 c] at h; exact h (by omega) (by omega) (by omega) (by omega)) | (exfalso; have hr := (jn6 hI c p (by omega) (by omega) b21 b21b).1; rw [Int.mul_comm 6 c] at hr; omega) | (exfalso; omega)
  · refine jr_ifT_eq (t := 11) dX7_inList_4 (by decide) (by decide) (by decide) ?_
    refine jr_ldc2 (n := 14) dX7_inList_11 rfl rfl qX7_70 vX7_70 ?_
    refine jr_lret dX7_inList_14 rfl ?_
    first | exact hB (by omega) | exact hN (by omega) (by omega) (by omega) (by omega) | (rw [Int.mul_comm 6 c] at h; exact h (by omega) (by omega) (by omega) (by omega)) | (exfalso; have hr := (jn6 hI c p (by omega) (by omega) b21 b21b).1; rw [Int.mul_comm 6 c] at hr; omega) | (exfalso; omega)

theorem e_inList {G : jG} {d : Nat} {M : jMem} {Q : Option Value → jMem → Prop} (hI : jO M) {c p : Int} (hc : jR c) (hp : jR p) (hB : ¬ ((0 ≤ c ∧ c ≤ 2) ∧ 0 ≤ p) → Q (some (.long (jL (-9000000000000000001)))) M) (hN : 0 ≤ c → c ≤ 2 → 0 ≤ p → M 38 c ≤ p → Q (some (.long (jL (-9000000000000000005)))) M) (h : 0 ≤ c → c ≤ 2 → 0 ≤ p → p < M 38 c → Q (some (.long (jL (M 39 (6 * c + p))))) M) : jN G mX8_inList (d + 2) [.ref (jad G 8), .int (jI c), .int (jI p)] M Q := by
  show jM G mX8_inList (d + 2) 0 [.ref (jad G 8), .int (jI c), .int (jI p)] [] M Q
  refine jr_iload_n (n := 1) dX8_inList_0 rfl rfl ?_
  refine jr_cS1 (n := 4) (ν := mX8_isCourt) dX8_inList_1 rfl lX8_103 kX8_isCourt iX8_isCourt (Nat.le_of_ble_eq_true rfl) (Nat.le_of_ble_eq_true rfl) rfl ?_
  refine e_isCourt (by omega) (fun b1 b1b => ?_) (fun b1 => ?_)
  · refine jr_ifF_eq (n := 7) (t := 11) dX8_inList_4 rfl (by decide) (by decide) (by decide) ?_
    refine jr_iload_n (n := 8) dX8_inList_7 rfl rfl ?_
    refine jr_if_ge (n := 11) (t := 15) dX8_inList_8 (by decide) rfl (by omega) (fun b8 => ?_) (fun b8 => ?_)
    · have hz := jn1 hI
      have hs := jn2 hI c (by omega) (by omega)
      refine jr_iload_n (n := 16) dX8_inList_15 rfl rfl ?_
      refine jr_aload_n (n := 17) dX8_inList_16 rfl rfl ?_
      refine jr_getR (n := 20) dX8_inList_17 rfl fX8_7 rfl (by decide) (by decide) rfl ?_
      refine jr_iload_n (n := 21) dX8_inList_20 rfl rfl ?_
      refine jr_iald (n := 22) dX8_inList_21 rfl rfl (by decide) (by omega) (by omega) ?_
      refine jr_icmp_ge (n := 25) (t := 40) dX8_inList_22 (by decide) rfl (by omega) (by omega) (fun b22 => ?_) (fun b22 => ?_)
      · refine jr_ldc2 (n := 43) dX8_inList_40 rfl rfl qX8_129 vX8_129 ?_
        refine jr_lret dX8_inList_43 rfl ?_
        first | exact hB (by omega) | exact hN (by omega) (by omega) (by omega) (by omega) | exact h (by omega) (by omega) (by omega) (by omega)
      · refine jr_aload_n (n := 26) dX8_inList_25 rfl rfl ?_
        refine jr_getR (n := 29) dX8_inList_26 rfl fX8_13 rfl (by decide) (by decide) rfl ?_
        refine jr_bipush (n := 31) dX8_inList_29 rfl (by decide) ?_
        refine jr_iload_n (n := 32) dX8_inList_31 rfl rfl ?_
        refine jr_imul (n := 33) dX8_inList_32 rfl ?_
        refine jr_iload_n (n := 34) dX8_inList_33 rfl rfl ?_
        refine jr_iadd (n := 35) dX8_inList_34 rfl ?_
        refine jr_iald (n := 36) dX8_inList_35 rfl rfl (by decide) (by omega) (by omega) ?_
        refine jr_i2l (n := 37) dX8_inList_36 rfl (by have hr := (jn6 hI c p (by omega) (by omega) (by omega) (by omega)).1; omega) ?_
        refine jr_goto (t := 43) dX8_inList_37 (by decide) ?_
        refine jr_lret dX8_inList_43 rfl ?_
        first | exact hB (by omega) | exact hN (by omega) (by omega) (by omega) (by omega) | exact h (by omega) (by omega) (by omega) (by omega)
    · refine jr_ldc2 (n := 14) dX8_inList_11 rfl rfl qX8_107 vX8_107 ?_
      refine jr_lret dX8_inList_14 rfl ?_
      first | exact hB (by omega) | exact hN (by omega) (by omega) (by omega) (by omega) | exact h (by omega) (by omega) (by omega) (by omega)
  · refine jr_ifT_eq (t := 11) dX8_inList_4 (by decide) (by decide) (by decide) ?_
    refine jr_ldc2 (n := 14) dX8_inList_11 rfl rfl qX8_107 vX8_107 ?_
    refine jr_lret dX8_inList_14 rfl ?_
    first | exact hB (by omega) | exact hN (by omega) (by omega) (by omega) (by omega) | exact h (by omega) (by omega) (by omega) (by omega)

def jrl (v : Int) : Int := jsv 1 v
def jrh (v : Int) : Int := jsv 2 v
theorem jrule_R {v : Int} (h0 : 0 ≤ v) (h1 : v ≤ 4) : (v = 0 ∧ jsv 1 v = 1 ∧ jsv 2 v = 20) ∨ (v = 1 ∧ jsv 1 v = 0 ∧ jsv 2 v = 200) ∨ (2 ≤ v ∧ jsv 1 v = 0 ∧ jsv 2 v = 100) := by
  have : v = 0 ∨ v = 1 ∨ v = 2 ∨ v = 3 ∨ v = 4 := by omega
  rcases this with h | h | h | h | h <;> subst h <;> decide
theorem c_rule {G : jG} {d : Nat} {M : jMem} {Q : Option Value → jMem → Prop} (hI : jK M) {v z : Int} (hv : jR v) (hz : jR z) (hB : ¬ ((0 ≤ v ∧ v ≤ 4) ∧ (jsv 1 v ≤ z ∧ z ≤ jsv 2 v)) → Q (some (.long (jL (-9000000000000000001)))) M) (h : 0 ≤ v → v ≤ 4 → jsv 1 v ≤ z → z ≤ jsv 2 v → Q (some (.long (jL (M 9 v)))) (jup M 9 v z)) : jN G mX7_rule (d + 2) [.ref (jad G 0), .int (jI v), .int (jI z)] M Q := by
  show jM G mX7_rule (d + 2) 0 [.ref (jad G 0), .int (jI v), .int (jI z), .null] [] M Q
  refine jr_iload_n (n := 1) dX7_rule_0 rfl rfl ?_
  refine jr_iconst (n := 2) dX7_rule_1 rfl ?_
  refine jr_iconst (n := 3) dX7_rule_2 rfl ?_
  refine jr_cS3 (n := 6) (ν := mX7_isWithin) dX7_rule_3 rfl lX7_66 kX7_isWithin iX7_isWithin (Nat.le_of_ble_eq_true rfl) (Nat.le_of_ble_eq_true rfl) rfl ?_
  refine c_isWithin (by omega) (by omega) (by omega) (fun b3 b3b => ?_) (fun b3 => ?_)
  · refine jr_ifF_eq (n := 9) (t := 26) dX7_rule_6 rfl (by decide) (by decide) (by decide) ?_
    have hu := jrule_R (v := v) (by omega) (by omega)
    have hr := jn11 hI v (by omega) (by omega)
    refine jr_iload_n (n := 10) dX7_rule_9 rfl rfl ?_
    refine jr_gets (n := 13) (t := 1) dX7_rule_10 rfl (by decide) sX7_135 ?_
    refine jr_iload_n (n := 14) dX7_rule_13 rfl rfl ?_
    refine jr_sald (n := 15) dX7_rule_14 rfl (by decide) (by omega) (by omega) ?_
    refine jr_gets (n := 18) (t := 2) dX7_rule_15 rfl (by decide) sX7_138 ?_
    refine jr_iload_n (n := 19) dX7_rule_18 rfl rfl ?_
    refine jr_sald (n := 20) dX7_rule_19 rfl (by decide) (by omega) (by omega) ?_
    refine jr_cS3 (n := 23) (ν := mX7_isWithin) dX7_rule_20 rfl lX7_66 kX7_isWithin iX7_isWithin (Nat.le_of_ble_eq_true rfl) (Nat.le_of_ble_eq_true rfl) rfl ?_
    refine c_isWithin (by omega) (by omega) (by omega) (fun b20 b20b => ?_) (fun b20 => ?_)
    · refine jr_ifT_ne (t := 30) dX7_rule_23 (by decide) (by decide) (by decide) ?_
      refine jr_aload_n (n := 31) dX7_rule_30 rfl rfl ?_
      refine jr_getR (n := 34) dX7_rule_31 rfl fX7_58 rfl (by decide) (by decide) rfl ?_
      refine jr_iload_n (n := 35) dX7_rule_34 rfl rfl ?_
      refine jr_iald (n := 36) dX7_rule_35 rfl rfl (by decide) (by omega) (by omega) ?_
      refine jr_istore3 (n := 37) dX7_rule_36 rfl (by decide) rfl ?_
      refine jr_aload_n (n := 38) dX7_rule_37 rfl rfl ?_
      refine jr_getR (n := 41) dX7_rule_38 rfl fX7_58 rfl (by decide) (by decide) rfl ?_
      refine jr_iload_n (n := 42) dX7_rule_41 rfl rfl ?_
      refine jr_iload_n (n := 43) dX7_rule_42 rfl rfl ?_
      refine jr_iast (n := 44) dX7_rule_43 rfl rfl (by decide) (by omega) (by omega) ?_
      refine jr_iload_n (n := 45) dX7_rule_44 rfl rfl ?_
      refine jr_i2l (n := 46) dX7_rule_45 rfl (by omega) ?_
      refine jr_lret dX7_rule_46 rfl ?_
      first | exact hB (by omega) | exact h (by omega) (by omega) (by omega) (by omega)
    · refine jr_ifF_ne (n := 26) (t := 30) dX7_rule_23 rfl (by decide) (by decide) (by decide) ?_
      refine jr_ldc2 (n := 29) dX7_rule_26 rfl rfl qX7_70 vX7_70 ?_
      refine jr_lret dX7_rule_29 rfl ?_
      first | exact hB (by omega) | exact h (by omega) (by omega) (by omega) (by omega)
  · refine jr_ifT_eq (t := 26) dX7_rule_6 (by decide) (by decide) (by decide) ?_
    refine jr_ldc2 (n := 29) dX7_rule_26 rfl rfl qX7_70 vX7_70 ?_
    refine jr_lret dX7_rule_29 rfl ?_
    first | exact hB (by omega) | exact h (by omega) (by omega) (by omega) (by omega)

theorem e_rule {G : jG} {d : Nat} {M : jMem} {Q : Option Value → jMem → Prop} (hI : jO M) {v z : Int} (hv : jR v) (hz : jR z) (hB : ¬ ((0 ≤ v ∧ v ≤ 4) ∧ (jsv 1 v ≤ z ∧ z ≤ jsv 2 v)) → Q (some (.long (jL (-9000000000000000001)))) M) (h : 0 ≤ v → v ≤ 4 → jsv 1 v ≤ z → z ≤ jsv 2 v → Q (some (.long (jL (M 49 v)))) (jup M 49 v z)) : jN G mX8_rule (d + 2) [.ref (jad G 8), .int (jI v), .int (jI z)] M Q := by
  show jM G mX8_rule (d + 2) 0 [.ref (jad G 8), .int (jI v), .int (jI z), .null, .null] [] M Q
  refine jr_iload_n (n := 1) dX8_rule_0 rfl rfl ?_
  refine jr_iconst (n := 2) dX8_rule_1 rfl ?_
  refine jr_iconst (n := 3) dX8_rule_2 rfl ?_
  refine jr_cS3 (n := 6) (ν := mX8_isIn) dX8_rule_3 rfl lX8_92 kX8_isIn iX8_isIn (Nat.le_of_ble_eq_true rfl) (Nat.le_of_ble_eq_true rfl) rfl ?_
  refine e_isIn (by omega) (by omega) (by omega) (fun b3 b3b => ?_) (fun b3 => ?_)
  · refine jr_istore3 (n := 7) dX8_rule_6 rfl (by decide) rfl ?_
    refine jr_iload_n (n := 8) dX8_rule_7 rfl rfl ?_
    refine jr_ifF_eq (n := 11) (t := 44) dX8_rule_8 rfl (by decide) (by decide) (by decide) ?_
    have hu := jrule_R (v := v) (by omega) (by omega)
    have hr := jn11 hI v (by omega) (by omega)
    refine jr_iload_n (n := 12) dX8_rule_11 rfl rfl ?_
    refine jr_if_ne (n := 15) (t := 25) dX8_rule_12 (by decide) rfl (by omega) (fun b12 => ?_) (fun b12 => ?_)
    · refine jr_iload_n (n := 26) dX8_rule_25 rfl rfl ?_
      refine jr_iconst (n := 27) dX8_rule_26 rfl ?_
      refine jr_iload_n (n := 28) dX8_rule_27 rfl rfl ?_
      refine jr_iconst (n := 29) dX8_rule_28 rfl ?_
      refine jr_icmp_ne (n := 32) (t := 38) dX8_rule_29 (by decide) rfl (by omega) (by omega) (fun b29 => ?_) (fun b29 => ?_)
      · refine jr_bipush (n := 40) dX8_rule_38 rfl (by decide) ?_
        refine jr_cS3 (n := 43) (ν := mX8_isIn) dX8_rule_40 rfl lX8_92 kX8_isIn iX8_isIn (Nat.le_of_ble_eq_true rfl) (Nat.le_of_ble_eq_true rfl) rfl ?_
        refine e_isIn (by omega) (by omega) (by omega) (fun b40 b40b => ?_) (fun b40 => ?_)
        · refine jr_istore3 (n := 44) dX8_rule_43 rfl (by decide) rfl ?_
          refine jr_iload_n (n := 45) dX8_rule_44 rfl rfl ?_
          refine jr_ifT_ne (t := 52) dX8_rule_45 (by decide) (by decide) (by decide) ?_
          refine jr_aload_n (n := 53) dX8_rule_52 rfl rfl ?_
          refine jr_getR (n := 56) dX8_rule_53 rfl fX8_43 rfl (by decide) (by decide) rfl ?_
          refine jr_iload_n (n := 57) dX8_rule_56 rfl rfl ?_
          refine jr_iald (n := 58) dX8_rule_57 rfl rfl (by decide) (by omega) (by omega) ?_
          refine jr_istore4 (n := 60) dX8_rule_58 rfl (by decide) rfl ?_
          refine jr_aload_n (n := 61) dX8_rule_60 rfl rfl ?_
          refine jr_getR (n := 64) dX8_rule_61 rfl fX8_43 rfl (by decide) (by decide) rfl ?_
          refine jr_iload_n (n := 65) dX8_rule_64 rfl rfl ?_
          refine jr_iload_n (n := 66) dX8_rule_65 rfl rfl ?_
          refine jr_iast (n := 67) dX8_rule_66 rfl rfl (by decide) (by omega) (by omega) ?_
          refine jr_iload (n := 69) dX8_rule_67 rfl rfl ?_
          refine jr_i2l (n := 70) dX8_rule_69 rfl (by omega) ?_
          refine jr_lret dX8_rule_70 rfl ?_
          first | exact hB (by omega) | exact h (by omega) (by omega) (by omega) (by omega)
        · refine jr_istore3 (n := 44) dX8_rule_43 rfl (by decide) rfl ?_
          refine jr_iload_n (n := 45) dX8_rule_44 rfl rfl ?_
          refine jr_ifF_ne (n := 48) (t := 52) dX8_rule_45 rfl (by decide) (by decide) (by decide) ?_
          refine jr_ldc2 (n := 51) dX8_rule_48 rfl rfl qX8_107 vX8_107 ?_
          refine jr_lret dX8_rule_51 rfl ?_
          first | exact hB (by omega) | exact h (by omega) (by omega) (by omega) (by omega)
      · refine jr_sipush (n := 35) dX8_rule_32 rfl (by decide) ?_
        refine jr_goto (t := 40) dX8_rule_35 (by decide) ?_
        refine jr_cS3 (n := 43) (ν := mX8_isIn) dX8_rule_40 rfl lX8_92 kX8_isIn iX8_isIn (Nat.le_of_ble_eq_true rfl) (Nat.le_of_ble_eq_true rfl) rfl ?_
        refine e_isIn (by omega) (by omega) (by omega) (fun b40 b40b => ?_) (fun b40 => ?_)
        · refine jr_istore3 (n := 44) dX8_rule_43 rfl (by decide) rfl ?_
          refine jr_iload_n (n := 45) dX8_rule_44 rfl rfl ?_
          refine jr_ifT_ne (t := 52) dX8_rule_45 (by decide) (by decide) (by decide) ?_
          refine jr_aload_n (n := 53) dX8_rule_52 rfl rfl ?_
          refine jr_getR (n := 56) dX8_rule_53 rfl fX8_43 rfl (by decide) (by decide) rfl ?_
          refine jr_iload_n (n := 57) dX8_rule_56 rfl rfl ?_
          refine jr_iald (n := 58) dX8_rule_57 rfl rfl (by decide) (by omega) (by omega) ?_
          refine jr_istore4 (n := 60) dX8_rule_58 rfl (by decide) rfl ?_
          refine jr_aload_n (n := 61) dX8_rule_60 rfl rfl ?_
          refine jr_getR (n := 64) dX8_rule_61 rfl fX8_43 rfl (by decide) (by decide) rfl ?_
          refine jr_iload_n (n := 65) dX8_rule_64 rfl rfl ?_
          refine jr_iload_n (n := 66) dX8_rule_65 rfl rfl ?_
          refine jr_iast (n := 67) dX8_rule_66 rfl rfl (by decide) (by omega) (by omega) ?_
          refine jr_iload (n := 69) dX8_rule_67 rfl rfl ?_
          refine jr_i2l (n := 70) dX8_rule_69 rfl (by omega) ?_
          refine jr_lret dX8_rule_70 rfl ?_
          first | exact hB (by omega) | exact h (by omega) (by omega) (by omega) (by omega)
        · refine jr_istore3 (n := 44) dX8_rule_43 rfl (by decide) rfl ?_
          refine jr_iload_n (n := 45) dX8_rule_44 rfl rfl ?_
          refine jr_ifF_ne (n := 48) (t := 52) dX8_rule_45 rfl (by decide) (by decide) (by decide) ?_
          refine jr_ldc2 (n := 51) dX8_rule_48 rfl rfl qX8_107 vX8_107 ?_
          refine jr_lret dX8_rule_51 rfl ?_
          first | exact hB (by omega) | exact h (by omega) (by omega) (by omega) (by omega)
    · refine jr_iload_n (n := 16) dX8_rule_15 rfl rfl ?_
      refine jr_iconst (n := 17) dX8_rule_16 rfl ?_
      refine jr_bipush (n := 19) dX8_rule_17 rfl (by decide) ?_
      refine jr_cS3 (n := 22) (ν := mX8_isIn) dX8_rule_19 rfl lX8_92 kX8_isIn iX8_isIn (Nat.le_of_ble_eq_true rfl) (Nat.le_of_ble_eq_true rfl) rfl ?_
      refine e_isIn (by omega) (by omega) (by omega) (fun b19 b19b => ?_) (fun b19 => ?_)
      · refine jr_goto (t := 43) dX8_rule_22 (by decide) ?_
        refine jr_istore3 (n := 44) dX8_rule_43 rfl (by decide) rfl ?_
        refine jr_iload_n (n := 45) dX8_rule_44 rfl rfl ?_
        refine jr_ifT_ne (t := 52) dX8_rule_45 (by decide) (by decide) (by decide) ?_
        refine jr_aload_n (n := 53) dX8_rule_52 rfl rfl ?_
        refine jr_getR (n := 56) dX8_rule_53 rfl fX8_43 rfl (by decide) (by decide) rfl ?_
        refine jr_iload_n (n := 57) dX8_rule_56 rfl rfl ?_
        refine jr_iald (n := 58) dX8_rule_57 rfl rfl (by decide) (by omega) (by omega) ?_
        refine jr_istore4 (n := 60) dX8_rule_58 rfl (by decide) rfl ?_
        refine jr_aload_n (n := 61) dX8_rule_60 rfl rfl ?_
        refine jr_getR (n := 64) dX8_rule_61 rfl fX8_43 rfl (by decide) (by decide) rfl ?_
        refine jr_iload_n (n := 65) dX8_rule_64 rfl rfl ?_
        refine jr_iload_n (n := 66) dX8_rule_65 rfl rfl ?_
        refine jr_iast (n := 67) dX8_rule_66 rfl rfl (by decide) (by omega) (by omega) ?_
        refine jr_iload (n := 69) dX8_rule_67 rfl rfl ?_
        refine jr_i2l (n := 70) dX8_rule_69 rfl (by omega) ?_
        refine jr_lret dX8_rule_70 rfl ?_
        first | exact hB (by omega) | exact h (by omega) (by omega) (by omega) (by omega)
      · refine jr_goto (t := 43) dX8_rule_22 (by decide) ?_
        refine jr_istore3 (n := 44) dX8_rule_43 rfl (by decide) rfl ?_
        refine jr_iload_n (n := 45) dX8_rule_44 rfl rfl ?_
        refine jr_ifF_ne (n := 48) (t := 52) dX8_rule_45 rfl (by decide) (by decide) (by decide) ?_
        refine jr_ldc2 (n := 51) dX8_rule_48 rfl rfl qX8_107 vX8_107 ?_
        refine jr_lret dX8_rule_51 rfl ?_
        first | exact hB (by omega) | exact h (by omega) (by omega) (by omega) (by omega)
  · refine jr_istore3 (n := 7) dX8_rule_6 rfl (by decide) rfl ?_
    refine jr_iload_n (n := 8) dX8_rule_7 rfl rfl ?_
    refine jr_ifT_eq (t := 44) dX8_rule_8 (by decide) (by decide) (by decide) ?_
    refine jr_iload_n (n := 45) dX8_rule_44 rfl rfl ?_
    refine jr_ifF_ne (n := 48) (t := 52) dX8_rule_45 rfl (by decide) (by decide) (by decide) ?_
    refine jr_ldc2 (n := 51) dX8_rule_48 rfl rfl qX8_107 vX8_107 ?_
    refine jr_lret dX8_rule_51 rfl ?_
    first | exact hB (by omega) | exact h (by omega) (by omega) (by omega) (by omega)

theorem c_call {G : jG} {d : Nat} {M : jMem} {Q : Option Value → jMem → Prop} (hI : jK M) {v k z : Int} (hv : jR v) (hk : jR k) (hz : jR z) (hB : ¬ ((0 ≤ v ∧ v < M 2 3) ∧ (0 ≤ k ∧ k < M 1 8) ∧ (0 ≤ z ∧ z ≤ 48)) → Q (some (.long (jL (-9000000000000000001)))) M) (hN : 0 ≤ v → v < M 2 3 → 0 ≤ k → k < M 1 8 → ¬ (jbit (M 13 k) v ∧ M 19 v ≤ z) → Q (some (.long (jL (-9000000000000000002)))) M) (h : 0 ≤ v → v < M 2 3 → 0 ≤ k → k < M 1 8 → 0 ≤ z → z ≤ 48 → jbit (M 13 k) v → M 19 v ≤ z → Q (some (.long (jL (M 15 (k * 10 + v))))) (jup M 15 (k * 10 + v) z)) : jN G mX7_call (d + 2) [.ref (jad G 0), .int (jI v), .int (jI k), .int (jI z)] M Q := by
  show jM G mX7_call (d + 2) 0 [.ref (jad G 0), .int (jI v), .int (jI k), .int (jI z), .null] [] M Q
  have hs := jn1 hI
  refine jr_aload_n (n := 1) dX7_call_0 rfl rfl ?_
  refine jr_getR (n := 4) dX7_call_1 rfl fX7_19 rfl (by decide) (by decide) rfl ?_
  refine jr_iload_n (n := 5) dX7_call_4 rfl rfl ?_
  refine jr_cV1 (n := 8) (ci := 4) (ν := mX4_has) dX7_call_5 rfl lX7_89 kX4_has iX4_has rfl ⟨_, rfl, rfl⟩ (by decide) (Nat.le_of_ble_eq_true rfl) (Nat.le_of_ble_eq_true rfl) rfl ?_
  refine c_hasW (by omega) (by omega) (fun b5 b5b => ?_) (fun b5 => ?_)
  · refine jr_ifF_eq (n := 11) (t := 29) dX7_call_8 rfl (by decide) (by decide) (by decide) ?_
    refine jr_aload_n (n := 12) dX7_call_11 rfl rfl ?_
    refine jr_getR (n := 15) dX7_call_12 rfl fX7_10 rfl (by decide) (by decide) rfl ?_
    refine jr_iload_n (n := 16) dX7_call_15 rfl rfl ?_
    refine jr_cV1 (n := 19) (ci := 2) (ν := mX2_has) dX7_call_16 rfl lX7_99 kX2_has iX2_has rfl ⟨_, rfl, rfl⟩ (by decide) (Nat.le_of_ble_eq_true rfl) (Nat.le_of_ble_eq_true rfl) rfl ?_
    refine c_hasC (by omega) (by omega) (fun b16 b16b => ?_) (fun b16 => ?_)
    · refine jr_ifF_eq (n := 22) (t := 29) dX7_call_19 rfl (by decide) (by decide) (by decide) ?_
      refine jr_iload_n (n := 23) dX7_call_22 rfl rfl ?_
      refine jr_cS1 (n := 26) (ν := mX7_isQuarter) dX7_call_23 rfl lX7_141 kX7_isQuarter iX7_isQuarter (Nat.le_of_ble_eq_true rfl) (Nat.le_of_ble_eq_true rfl) rfl ?_
      refine c_isQuarter (by omega) (fun b23 b23b => ?_) (fun b23 => ?_)
      · refine jr_ifT_ne (t := 33) dX7_call_26 (by decide) (by decide) (by decide) ?_
        refine jr_aload_n (n := 34) dX7_call_33 rfl rfl ?_
        refine jr_getR (n := 37) dX7_call_34 rfl fX7_10 rfl (by decide) (by decide) rfl ?_
        refine jr_iload_n (n := 38) dX7_call_37 rfl rfl ?_
        refine jr_iload_n (n := 39) dX7_call_38 rfl rfl ?_
        refine jr_cV2 (n := 42) (ci := 2) (ν := mX2_hasNeedOf) dX7_call_39 rfl lX7_163 kX2_hasNeedOf iX2_hasNeedOf rfl ⟨_, rfl, rfl⟩ (by decide) (Nat.le_of_ble_eq_true rfl) (Nat.le_of_ble_eq_true rfl) rfl ?_
        refine c_hasNeedOf (by omega) (fun b39 => ?_) (fun b39 => ?_)
        · refine jr_ifF_eq (n := 45) (t := 58) dX7_call_42 rfl (by decide) (by decide) (by decide) ?_
          have hr := jn9 hI v (by omega) (by omega)
          refine jr_iload_n (n := 46) dX7_call_45 rfl rfl ?_
          refine jr_aload_n (n := 47) dX7_call_46 rfl rfl ?_
          refine jr_getR (n := 50) dX7_call_47 rfl fX7_19 rfl (by decide) (by decide) rfl ?_
          refine jr_getR (n := 53) dX7_call_50 rfl fX7_107 rfl (by decide) (by decide) rfl ?_
          refine jr_iload_n (n := 54) dX7_call_53 rfl rfl ?_
          refine jr_iald (n := 55) dX7_call_54 rfl rfl (by decide) (by omega) (by omega) ?_
          refine jr_icmp_ge (n := 58) (t := 62) dX7_call_55 (by decide) rfl (by omega) (by omega) (fun b55 => ?_) (fun b55 => ?_)
          · have hc := jn5 hI (k * 10 + v) (by omega) (by omega)
            refine jr_aload_n (n := 63) dX7_call_62 rfl rfl ?_
            refine jr_getR (n := 66) dX7_call_63 rfl fX7_10 rfl (by decide) (by decide) rfl ?_
            refine jr_iload_n (n := 67) dX7_call_66 rfl rfl ?_
            refine jr_iload_n (n := 68) dX7_call_67 rfl rfl ?_
            refine jr_cV2 (n := 71) (ci := 2) (ν := mX2_quarterFor) dX7_call_68 rfl lX7_168 kX2_quarterFor iX2_quarterFor rfl ⟨_, rfl, rfl⟩ (by decide) (Nat.le_of_ble_eq_true rfl) (Nat.le_of_ble_eq_true rfl) rfl ?_
            refine c_quarterFor (by omega) (by omega) ?_
            refine jr_istore4 (n := 73) dX7_call_71 rfl (by decide) rfl ?_
            refine jr_aload_n (n := 74) dX7_call_73 rfl rfl ?_
            refine jr_getR (n := 77) dX7_call_74 rfl fX7_10 rfl (by decide) (by decide) rfl ?_
            refine jr_iload_n (n := 78) dX7_call_77 rfl rfl ?_
            refine jr_iload_n (n := 79) dX7_call_78 rfl rfl ?_
            refine jr_iload_n (n := 80) dX7_call_79 rfl rfl ?_
            refine jr_cV3 (n := 83) (ci := 2) (ν := mX2_callFor) dX7_call_80 rfl lX7_110 kX2_callFor iX2_callFor rfl ⟨_, rfl, rfl⟩ (by decide) (Nat.le_of_ble_eq_true rfl) (Nat.le_of_ble_eq_true rfl) rfl ?_
            refine c_callFor (by omega) (by omega) ?_
            refine jr_iload (n := 85) dX7_call_83 rfl rfl ?_
            refine jr_i2l (n := 86) dX7_call_85 rfl (by omega) ?_
            refine jr_lret dX7_call_86 rfl ?_
            first | exact hB (by omega) | exact hN (by omega) (by omega) (by omega) (by omega) (fun z => b39 z.1) | exact hN (by omega) (by omega) (by omega) (by omega) (fun z => by omega) | exact h (by omega) (by omega) (by omega) (by omega) (by omega) (by omega) b39 (by omega)
          · refine jr_ldc2 (n := 61) dX7_call_58 rfl rfl qX7_166 vX7_166 ?_
            refine jr_lret dX7_call_61 rfl ?_
            first | exact hB (by omega) | exact hN (by omega) (by omega) (by omega) (by omega) (fun z => b39 z.1) | exact hN (by omega) (by omega) (by omega) (by omega) (fun z => by omega) | exact h (by omega) (by omega) (by omega) (by omega) (by omega) (by omega) b39 (by omega)
        · refine jr_ifT_eq (t := 58) dX7_call_42 (by decide) (by decide) (by decide) ?_
          refine jr_ldc2 (n := 61) dX7_call_58 rfl rfl qX7_166 vX7_166 ?_
          refine jr_lret dX7_call_61 rfl ?_
          first | exact hB (by omega) | exact hN (by omega) (by omega) (by omega) (by omega) (fun z => b39 z.1) | exact hN (by omega) (by omega) (by omega) (by omega) (fun z => by omega) | exact h (by omega) (by omega) (by omega) (by omega) (by omega) (by omega) b39 (by omega)
      · refine jr_ifF_ne (n := 29) (t := 33) dX7_call_26 rfl (by decide) (by decide) (by decide) ?_
        refine jr_ldc2 (n := 32) dX7_call_29 rfl rfl qX7_70 vX7_70 ?_
        refine jr_lret dX7_call_32 rfl ?_
        first | exact hB (by omega) | exact hN (by omega) (by omega) (by omega) (by omega) (fun z => b39 z.1) | exact hN (by omega) (by omega) (by omega) (by omega) (fun z => by omega) | exact h (by omega) (by omega) (by omega) (by omega) (by omega) (by omega) b39 (by omega)
    · refine jr_ifT_eq (t := 29) dX7_call_19 (by decide) (by decide) (by decide) ?_
      refine jr_ldc2 (n := 32) dX7_call_29 rfl rfl qX7_70 vX7_70 ?_
      refine jr_lret dX7_call_32 rfl ?_
      first | exact hB (by omega) | exact hN (by omega) (by omega) (by omega) (by omega) (fun z => b39 z.1) | exact hN (by omega) (by omega) (by omega) (by omega) (fun z => by omega) | exact h (by omega) (by omega) (by omega) (by omega) (by omega) (by omega) b39 (by omega)
  · refine jr_ifT_eq (t := 29) dX7_call_8 (by decide) (by decide) (by decide) ?_
    refine jr_ldc2 (n := 32) dX7_call_29 rfl rfl qX7_70 vX7_70 ?_
    refine jr_lret dX7_call_32 rfl ?_
    first | exact hB (by omega) | exact hN (by omega) (by omega) (by omega) (by omega) (fun z => b39 z.1) | exact hN (by omega) (by omega) (by omega) (by omega) (fun z => by omega) | exact h (by omega) (by omega) (by omega) (by omega) (by omega) (by omega) b39 (by omega)

theorem e_call {G : jG} {d : Nat} {M : jMem} {Q : Option Value → jMem → Prop} (hI : jO M) {v k z : Int} (hv : jR v) (hk : jR k) (hz : jR z) (hB : ¬ ((0 ≤ v ∧ v < M 8 8) ∧ (0 ≤ k ∧ k < M 8 2) ∧ (0 ≤ z ∧ z ≤ 48)) → Q (some (.long (jL (-9000000000000000001)))) M) (hN : 0 ≤ v → v < M 8 8 → 0 ≤ k → k < M 8 2 → ¬ (jbit (M 43 k) v ∧ M 46 v ≤ z) → Q (some (.long (jL (-9000000000000000002)))) M) (h : 0 ≤ v → v < M 8 8 → 0 ≤ k → k < M 8 2 → 0 ≤ z → z ≤ 48 → jbit (M 43 k) v → M 46 v ≤ z → Q (some (.long (jL (M 48 (10 * k + v))))) (jup M 48 (10 * k + v) z)) : jN G mX8_call (d + 2) [.ref (jad G 8), .int (jI v), .int (jI k), .int (jI z)] M Q := by
  show jM G mX8_call (d + 2) 0 [.ref (jad G 8), .int (jI v), .int (jI k), .int (jI z), .null, .null] [] M Q
  have hs := jn1 hI
  refine jr_aload_n (n := 1) dX8_call_0 rfl rfl ?_
  refine jr_iload_n (n := 2) dX8_call_1 rfl rfl ?_
  refine jr_cV1 (n := 5) (ci := 8) (ν := mX8_isWitness) dX8_call_2 rfl lX8_115 kX8_isWitness iX8_isWitness rfl ⟨_, rfl, rfl⟩ (by decide) (Nat.le_of_ble_eq_true rfl) (Nat.le_of_ble_eq_true rfl) rfl ?_
  refine e_isWitness (by omega) (by omega) (fun b2 b2b => ?_) (fun b2 => ?_)
  · refine jr_ifF_eq (n := 8) (t := 26) dX8_call_5 rfl (by decide) (by decide) (by decide) ?_
    refine jr_aload_n (n := 9) dX8_call_8 rfl rfl ?_
    refine jr_iload_n (n := 10) dX8_call_9 rfl rfl ?_
    refine jr_cV1 (n := 13) (ci := 8) (ν := mX8_isCase) dX8_call_10 rfl lX8_118 kX8_isCase iX8_isCase rfl ⟨_, rfl, rfl⟩ (by decide) (Nat.le_of_ble_eq_true rfl) (Nat.le_of_ble_eq_true rfl) rfl ?_
    refine e_isCase (by omega) (by omega) (fun b10 b10b => ?_) (fun b10 => ?_)
    · refine jr_ifF_eq (n := 16) (t := 26) dX8_call_13 rfl (by decide) (by decide) (by decide) ?_
      refine jr_iload_n (n := 17) dX8_call_16 rfl rfl ?_
      refine jr_iconst (n := 18) dX8_call_17 rfl ?_
      refine jr_bipush (n := 20) dX8_call_18 rfl (by decide) ?_
      refine jr_cS3 (n := 23) (ν := mX8_isIn) dX8_call_20 rfl lX8_92 kX8_isIn iX8_isIn (Nat.le_of_ble_eq_true rfl) (Nat.le_of_ble_eq_true rfl) rfl ?_
      refine e_isIn (by omega) (by omega) (by omega) (fun b20 b20b => ?_) (fun b20 => ?_)
      · refine jr_ifT_ne (t := 30) dX8_call_23 (by decide) (by decide) (by decide) ?_
        refine jr_aload_n (n := 31) dX8_call_30 rfl rfl ?_
        refine jr_iload_n (n := 32) dX8_call_31 rfl rfl ?_
        refine jr_iload_n (n := 33) dX8_call_32 rfl rfl ?_
        refine jr_cV2 (n := 36) (ci := 8) (ν := mX8_needs1) dX8_call_33 rfl lX8_121 kX8_needs1 iX8_needs1 rfl ⟨_, rfl, rfl⟩ (by decide) (Nat.le_of_ble_eq_true rfl) (Nat.le_of_ble_eq_true rfl) rfl ?_
        refine e_needs1 (by omega) (fun b33 => ?_) (fun b33 => ?_)
        · refine jr_ifF_eq (n := 39) (t := 49) dX8_call_36 rfl (by decide) (by decide) (by decide) ?_
          have hr := jn9 hI v (by omega) (by omega)
          refine jr_iload_n (n := 40) dX8_call_39 rfl rfl ?_
          refine jr_aload_n (n := 41) dX8_call_40 rfl rfl ?_
          refine jr_getR (n := 44) dX8_call_41 rfl fX8_34 rfl (by decide) (by decide) rfl ?_
          refine jr_iload_n (n := 45) dX8_call_44 rfl rfl ?_
          refine jr_iald (n := 46) dX8_call_45 rfl rfl (by decide) (by omega) (by omega) ?_
          refine jr_icmp_ge (n := 49) (t := 53) dX8_call_46 (by decide) rfl (by omega) (by omega) (fun b46 => ?_) (fun b46 => ?_)
          · have hc := jn5 hI (10 * k + v) (by omega) (by omega)
            refine jr_bipush (n := 55) dX8_call_53 rfl (by decide) ?_
            refine jr_iload_n (n := 56) dX8_call_55 rfl rfl ?_
            refine jr_imul (n := 57) dX8_call_56 rfl ?_
            refine jr_iload_n (n := 58) dX8_call_57 rfl rfl ?_
            refine jr_iadd (n := 59) dX8_call_58 rfl ?_
            refine jr_istore4 (n := 61) dX8_call_59 rfl (by decide) rfl ?_
            refine jr_aload_n (n := 62) dX8_call_61 rfl rfl ?_
            refine jr_getR (n := 65) dX8_call_62 rfl fX8_40 rfl (by decide) (by decide) rfl ?_
            refine jr_iload (n := 67) dX8_call_65 rfl rfl ?_
            refine jr_iald (n := 68) dX8_call_67 rfl rfl (by decide) (by omega) (by omega) ?_
            refine jr_istore5 (n := 70) dX8_call_68 rfl (by decide) rfl ?_
            refine jr_aload_n (n := 71) dX8_call_70 rfl rfl ?_
            refine jr_getR (n := 74) dX8_call_71 rfl fX8_40 rfl (by decide) (by decide) rfl ?_
            refine jr_iload (n := 76) dX8_call_74 rfl rfl ?_
            refine jr_iload_n (n := 77) dX8_call_76 rfl rfl ?_
            refine jr_iast (n := 78) dX8_call_77 rfl rfl (by decide) (by omega) (by omega) ?_
            refine jr_iload (n := 80) dX8_call_78 rfl rfl ?_
            refine jr_i2l (n := 81) dX8_call_80 rfl (by omega) ?_
            refine jr_lret dX8_call_81 rfl ?_
            first | exact hB (by omega) | exact hN (by omega) (by omega) (by omega) (by omega) (fun z => b33 z.1) | exact hN (by omega) (by omega) (by omega) (by omega) (fun z => by omega) | exact h (by omega) (by omega) (by omega) (by omega) (by omega) (by omega) b33 (by omega)
          · refine jr_ldc2 (n := 52) dX8_call_49 rfl rfl qX8_145 vX8_145 ?_
            refine jr_lret dX8_call_52 rfl ?_
            first | exact hB (by omega) | exact hN (by omega) (by omega) (by omega) (by omega) (fun z => b33 z.1) | exact hN (by omega) (by omega) (by omega) (by omega) (fun z => by omega) | exact h (by omega) (by omega) (by omega) (by omega) (by omega) (by omega) b33 (by omega)
        · refine jr_ifT_eq (t := 49) dX8_call_36 (by decide) (by decide) (by decide) ?_
          refine jr_ldc2 (n := 52) dX8_call_49 rfl rfl qX8_145 vX8_145 ?_
          refine jr_lret dX8_call_52 rfl ?_
          first | exact hB (by omega) | exact hN (by omega) (by omega) (by omega) (by omega) (fun z => b33 z.1) | exact hN (by omega) (by omega) (by omega) (by omega) (fun z => by omega) | exact h (by omega) (by omega) (by omega) (by omega) (by omega) (by omega) b33 (by omega)
      · refine jr_ifF_ne (n := 26) (t := 30) dX8_call_23 rfl (by decide) (by decide) (by decide) ?_
        refine jr_ldc2 (n := 29) dX8_call_26 rfl rfl qX8_107 vX8_107 ?_
        refine jr_lret dX8_call_29 rfl ?_
        first | exact hB (by omega) | exact hN (by omega) (by omega) (by omega) (by omega) (fun z => b33 z.1) | exact hN (by omega) (by omega) (by omega) (by omega) (fun z => by omega) | exact h (by omega) (by omega) (by omega) (by omega) (by omega) (by omega) b33 (by omega)
    · refine jr_ifT_eq (t := 26) dX8_call_13 (by decide) (by decide) (by decide) ?_
      refine jr_ldc2 (n := 29) dX8_call_26 rfl rfl qX8_107 vX8_107 ?_
      refine jr_lret dX8_call_29 rfl ?_
      first | exact hB (by omega) | exact hN (by omega) (by omega) (by omega) (by omega) (fun z => b33 z.1) | exact hN (by omega) (by omega) (by omega) (by omega) (fun z => by omega) | exact h (by omega) (by omega) (by omega) (by omega) (by omega) (by omega) b33 (by omega)
  · refine jr_ifT_eq (t := 26) dX8_call_5 (by decide) (by decide) (by decide) ?_
    refine jr_ldc2 (n := 29) dX8_call_26 rfl rfl qX8_107 vX8_107 ?_
    refine jr_lret dX8_call_29 rfl ?_
    first | exact hB (by omega) | exact hN (by omega) (by omega) (by omega) (by omega) (fun z => b33 z.1) | exact hN (by omega) (by omega) (by omega) (by omega) (fun z => by omega) | exact h (by omega) (by omega) (by omega) (by omega) (by omega) (by omega) b33 (by omega)

theorem c_called {G : jG} {d : Nat} {M : jMem} {Q : Option Value → jMem → Prop} (hI : jK M) {v k : Int} (hv : jR v) (hk : jR k) (hB : ¬ ((0 ≤ v ∧ v < M 2 3) ∧ (0 ≤ k ∧ k < M 1 8)) → Q (some (.long (jL (-9000000000000000001)))) M) (hN : 0 ≤ v → v < M 2 3 → 0 ≤ k → k < M 1 8 → ¬ jbit (M 13 k) v → Q (some (.long (jL (-9000000000000000002)))) M) (h : 0 ≤ v → v < M 2 3 → 0 ≤ k → k < M 1 8 → jbit (M 13 k) v → Q (some (.long (jL (M 15 (k * 10 + v))))) M) : jN G mX7_called (d + 2) [.ref (jad G 0), .int (jI v), .int (jI k)] M Q := by
  show jM G mX7_called (d + 2) 0 [.ref (jad G 0), .int (jI v), .int (jI k)] [] M Q
  have hs := jn1 hI
  refine jr_aload_n (n := 1) dX7_called_0 rfl rfl ?_
  refine jr_getR (n := 4) dX7_called_1 rfl fX7_19 rfl (by decide) (by decide) rfl ?_
  refine jr_iload_n (n := 5) dX7_called_4 rfl rfl ?_
  refine jr_cV1 (n := 8) (ci := 4) (ν := mX4_has) dX7_called_5 rfl lX7_89 kX4_has iX4_has rfl ⟨_, rfl, rfl⟩ (by decide) (Nat.le_of_ble_eq_true rfl) (Nat.le_of_ble_eq_true rfl) rfl ?_
  refine c_hasW (by omega) (by omega) (fun b5 b5b => ?_) (fun b5 => ?_)
  · refine jr_ifF_eq (n := 11) (t := 22) dX7_called_8 rfl (by decide) (by decide) (by decide) ?_
    refine jr_aload_n (n := 12) dX7_called_11 rfl rfl ?_
    refine jr_getR (n := 15) dX7_called_12 rfl fX7_10 rfl (by decide) (by decide) rfl ?_
    refine jr_iload_n (n := 16) dX7_called_15 rfl rfl ?_
    refine jr_cV1 (n := 19) (ci := 2) (ν := mX2_has) dX7_called_16 rfl lX7_99 kX2_has iX2_has rfl ⟨_, rfl, rfl⟩ (by decide) (Nat.le_of_ble_eq_true rfl) (Nat.le_of_ble_eq_true rfl) rfl ?_
    refine c_hasC (by omega) (by omega) (fun b16 b16b => ?_) (fun b16 => ?_)
    · refine jr_ifT_ne (t := 26) dX7_called_19 (by decide) (by decide) (by decide) ?_
      refine jr_aload_n (n := 27) dX7_called_26 rfl rfl ?_
      refine jr_getR (n := 30) dX7_called_27 rfl fX7_10 rfl (by decide) (by decide) rfl ?_
      refine jr_iload_n (n := 31) dX7_called_30 rfl rfl ?_
      refine jr_iload_n (n := 32) dX7_called_31 rfl rfl ?_
      refine jr_cV2 (n := 35) (ci := 2) (ν := mX2_hasNeedOf) dX7_called_32 rfl lX7_163 kX2_hasNeedOf iX2_hasNeedOf rfl ⟨_, rfl, rfl⟩ (by decide) (Nat.le_of_ble_eq_true rfl) (Nat.le_of_ble_eq_true rfl) rfl ?_
      refine c_hasNeedOf (by omega) (fun b32 => ?_) (fun b32 => ?_)
      · refine jr_ifF_eq (n := 38) (t := 51) dX7_called_35 rfl (by decide) (by decide) (by decide) ?_
        have hc := jn5 hI (k * 10 + v) (by omega) (by omega)
        refine jr_aload_n (n := 39) dX7_called_38 rfl rfl ?_
        refine jr_getR (n := 42) dX7_called_39 rfl fX7_10 rfl (by decide) (by decide) rfl ?_
        refine jr_iload_n (n := 43) dX7_called_42 rfl rfl ?_
        refine jr_iload_n (n := 44) dX7_called_43 rfl rfl ?_
        refine jr_cV2 (n := 47) (ci := 2) (ν := mX2_quarterFor) dX7_called_44 rfl lX7_168 kX2_quarterFor iX2_quarterFor rfl ⟨_, rfl, rfl⟩ (by decide) (Nat.le_of_ble_eq_true rfl) (Nat.le_of_ble_eq_true rfl) rfl ?_
        refine c_quarterFor (by omega) (by omega) ?_
        refine jr_i2l (n := 48) dX7_called_47 rfl (by omega) ?_
        refine jr_goto (t := 54) dX7_called_48 (by decide) ?_
        refine jr_lret dX7_called_54 rfl ?_
        first | exact hB (by omega) | exact hN (by omega) (by omega) (by omega) (by omega) b32 | exact h (by omega) (by omega) (by omega) (by omega) b32
      · refine jr_ifT_eq (t := 51) dX7_called_35 (by decide) (by decide) (by decide) ?_
        refine jr_ldc2 (n := 54) dX7_called_51 rfl rfl qX7_166 vX7_166 ?_
        refine jr_lret dX7_called_54 rfl ?_
        first | exact hB (by omega) | exact hN (by omega) (by omega) (by omega) (by omega) b32 | exact h (by omega) (by omega) (by omega) (by omega) b32
    · refine jr_ifF_ne (n := 22) (t := 26) dX7_called_19 rfl (by decide) (by decide) (by decide) ?_
      refine jr_ldc2 (n := 25) dX7_called_22 rfl rfl qX7_70 vX7_70 ?_
      refine jr_lret dX7_called_25 rfl ?_
      first | exact hB (by omega) | exact hN (by omega) (by omega) (by omega) (by omega) b32 | exact h (by omega) (by omega) (by omega) (by omega) b32
  · refine jr_ifT_eq (t := 22) dX7_called_8 (by decide) (by decide) (by decide) ?_
    refine jr_ldc2 (n := 25) dX7_called_22 rfl rfl qX7_70 vX7_70 ?_
    refine jr_lret dX7_called_25 rfl ?_
    first | exact hB (by omega) | exact hN (by omega) (by omega) (by omega) (by omega) b32 | exact h (by omega) (by omega) (by omega) (by omega) b32

theorem e_called {G : jG} {d : Nat} {M : jMem} {Q : Option Value → jMem → Prop} (hI : jO M) {v k : Int} (hv : jR v) (hk : jR k) (hB : ¬ ((0 ≤ v ∧ v < M 8 8) ∧ (0 ≤ k ∧ k < M 8 2)) → Q (some (.long (jL (-9000000000000000001)))) M) (hN : 0 ≤ v → v < M 8 8 → 0 ≤ k → k < M 8 2 → ¬ jbit (M 43 k) v → Q (some (.long (jL (-9000000000000000002)))) M) (h : 0 ≤ v → v < M 8 8 → 0 ≤ k → k < M 8 2 → jbit (M 43 k) v → Q (some (.long (jL (M 48 (10 * k + v))))) M) : jN G mX8_called (d + 2) [.ref (jad G 8), .int (jI v), .int (jI k)] M Q := by
  show jM G mX8_called (d + 2) 0 [.ref (jad G 8), .int (jI v), .int (jI k)] [] M Q
  have hs := jn1 hI
  refine jr_aload_n (n := 1) dX8_called_0 rfl rfl ?_
  refine jr_iload_n (n := 2) dX8_called_1 rfl rfl ?_
  refine jr_cV1 (n := 5) (ci := 8) (ν := mX8_isWitness) dX8_called_2 rfl lX8_115 kX8_isWitness iX8_isWitness rfl ⟨_, rfl, rfl⟩ (by decide) (Nat.le_of_ble_eq_true rfl) (Nat.le_of_ble_eq_true rfl) rfl ?_
  refine e_isWitness (by omega) (by omega) (fun b2 b2b => ?_) (fun b2 => ?_)
  · refine jr_ifF_eq (n := 8) (t := 16) dX8_called_5 rfl (by decide) (by decide) (by decide) ?_
    refine jr_aload_n (n := 9) dX8_called_8 rfl rfl ?_
    refine jr_iload_n (n := 10) dX8_called_9 rfl rfl ?_
    refine jr_cV1 (n := 13) (ci := 8) (ν := mX8_isCase) dX8_called_10 rfl lX8_118 kX8_isCase iX8_isCase rfl ⟨_, rfl, rfl⟩ (by decide) (Nat.le_of_ble_eq_true rfl) (Nat.le_of_ble_eq_true rfl) rfl ?_
    refine e_isCase (by omega) (by omega) (fun b10 b10b => ?_) (fun b10 => ?_)
    · refine jr_ifT_ne (t := 20) dX8_called_13 (by decide) (by decide) (by decide) ?_
      refine jr_aload_n (n := 21) dX8_called_20 rfl rfl ?_
      refine jr_iload_n (n := 22) dX8_called_21 rfl rfl ?_
      refine jr_iload_n (n := 23) dX8_called_22 rfl rfl ?_
      refine jr_cV2 (n := 26) (ci := 8) (ν := mX8_needs1) dX8_called_23 rfl lX8_121 kX8_needs1 iX8_needs1 rfl ⟨_, rfl, rfl⟩ (by decide) (Nat.le_of_ble_eq_true rfl) (Nat.le_of_ble_eq_true rfl) rfl ?_
      refine e_needs1 (by omega) (fun b23 => ?_) (fun b23 => ?_)
      · refine jr_ifF_eq (n := 29) (t := 44) dX8_called_26 rfl (by decide) (by decide) (by decide) ?_
        have hc := jn5 hI (10 * k + v) (by omega) (by omega)
        refine jr_aload_n (n := 30) dX8_called_29 rfl rfl ?_
        refine jr_getR (n := 33) dX8_called_30 rfl fX8_40 rfl (by decide) (by decide) rfl ?_
        refine jr_bipush (n := 35) dX8_called_33 rfl (by decide) ?_
        refine jr_iload_n (n := 36) dX8_called_35 rfl rfl ?_
        refine jr_imul (n := 37) dX8_called_36 rfl ?_
        refine jr_iload_n (n := 38) dX8_called_37 rfl rfl ?_
        refine jr_iadd (n := 39) dX8_called_38 rfl ?_
        refine jr_iald (n := 40) dX8_called_39 rfl rfl (by decide) (by omega) (by omega) ?_
        refine jr_i2l (n := 41) dX8_called_40 rfl (by omega) ?_
        refine jr_goto (t := 47) dX8_called_41 (by decide) ?_
        refine jr_lret dX8_called_47 rfl ?_
        first | exact hB (by omega) | exact hN (by omega) (by omega) (by omega) (by omega) b23 | exact h (by omega) (by omega) (by omega) (by omega) b23
      · refine jr_ifT_eq (t := 44) dX8_called_26 (by decide) (by decide) (by decide) ?_
        refine jr_ldc2 (n := 47) dX8_called_44 rfl rfl qX8_145 vX8_145 ?_
        refine jr_lret dX8_called_47 rfl ?_
        first | exact hB (by omega) | exact hN (by omega) (by omega) (by omega) (by omega) b23 | exact h (by omega) (by omega) (by omega) (by omega) b23
    · refine jr_ifF_ne (n := 16) (t := 20) dX8_called_13 rfl (by decide) (by decide) (by decide) ?_
      refine jr_ldc2 (n := 19) dX8_called_16 rfl rfl qX8_107 vX8_107 ?_
      refine jr_lret dX8_called_19 rfl ?_
      first | exact hB (by omega) | exact hN (by omega) (by omega) (by omega) (by omega) b23 | exact h (by omega) (by omega) (by omega) (by omega) b23
  · refine jr_ifT_eq (t := 16) dX8_called_5 (by decide) (by decide) (by decide) ?_
    refine jr_ldc2 (n := 19) dX8_called_16 rfl rfl qX8_107 vX8_107 ?_
    refine jr_lret dX8_called_19 rfl ?_
    first | exact hB (by omega) | exact hN (by omega) (by omega) (by omega) (by omega) b23 | exact h (by omega) (by omega) (by omega) (by omega) b23
end
