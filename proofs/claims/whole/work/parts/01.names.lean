-- ===== PART A: goes FIRST, ahead of the names: the tables' words, and 'selects' of the private methods out of them =====
/-- a private method of a class that the tables say can be made, by its rows of tables_1 -/
def lw_okq (q : MethodName × Nat) : Prop := (q.1.cls ≠ "java/lang/invoke/MethodHandle" ∧ q.1.cls ≠ "java/lang/invoke/VarHandle") ∧ Cond.instantiable q.1.cls q.2 ∈ tables_1 ∧ Cond.privateMethod q.1 ∈ tables_1 ∧ Cond.instanceMethod q.1 ∈ tables_1
theorem lw_p0 : lw_okq (⟨"RingInSand$Tape", "splitTokens", "()V"⟩, 14) := ⟨⟨by decide +kernel, by decide +kernel⟩, List.mem_of_getElem? (i := 67) (by decide +kernel), List.mem_of_getElem? (i := 273) (by decide +kernel), List.mem_of_getElem? (i := 274) (by decide +kernel)⟩
theorem lw_p1 : lw_okq (⟨"RingInSand$Tape", "byteAt", "(I)I"⟩, 14) := ⟨⟨by decide +kernel, by decide +kernel⟩, List.mem_of_getElem? (i := 67) (by decide +kernel), List.mem_of_getElem? (i := 277) (by decide +kernel), List.mem_of_getElem? (i := 278) (by decide +kernel)⟩
theorem lw_p2 : lw_okq (⟨"RingInSand$Tape", "endOfWord", "(I)I"⟩, 14) := ⟨⟨by decide +kernel, by decide +kernel⟩, List.mem_of_getElem? (i := 67) (by decide +kernel), List.mem_of_getElem? (i := 284) (by decide +kernel), List.mem_of_getElem? (i := 285) (by decide +kernel)⟩
theorem lw_p3 : lw_okq (⟨"RingInSand$Tape", "addWord", "(II)V"⟩, 14) := ⟨⟨by decide +kernel, by decide +kernel⟩, List.mem_of_getElem? (i := 67) (by decide +kernel), List.mem_of_getElem? (i := 288) (by decide +kernel), List.mem_of_getElem? (i := 289) (by decide +kernel)⟩
theorem lw_p4 : lw_okq (⟨"RingInSand$Tape", "nameOf", "(II)I"⟩, 14) := ⟨⟨by decide +kernel, by decide +kernel⟩, List.mem_of_getElem? (i := 67) (by decide +kernel), List.mem_of_getElem? (i := 292) (by decide +kernel), List.mem_of_getElem? (i := 293) (by decide +kernel)⟩
theorem lw_p5 : lw_okq (⟨"RingInSand$Tape", "isWord", "(Ljava/lang/String;II)Z"⟩, 14) := ⟨⟨by decide +kernel, by decide +kernel⟩, List.mem_of_getElem? (i := 67) (by decide +kernel), List.mem_of_getElem? (i := 297) (by decide +kernel), List.mem_of_getElem? (i := 298) (by decide +kernel)⟩
theorem lw_p6 : lw_okq (⟨"RingInSand$Tape", "addToken", "(III)V"⟩, 14) := ⟨⟨by decide +kernel, by decide +kernel⟩, List.mem_of_getElem? (i := 67) (by decide +kernel), List.mem_of_getElem? (i := 308) (by decide +kernel), List.mem_of_getElem? (i := 309) (by decide +kernel)⟩
theorem lw_p7 : lw_okq (⟨"RingInSand$Tape", "keyOf", "(II)I"⟩, 14) := ⟨⟨by decide +kernel, by decide +kernel⟩, List.mem_of_getElem? (i := 67) (by decide +kernel), List.mem_of_getElem? (i := 312) (by decide +kernel), List.mem_of_getElem? (i := 313) (by decide +kernel)⟩
theorem lw_p8 : lw_okq (⟨"RingInSand$Tape", "endOfNumber", "(I)I"⟩, 14) := ⟨⟨by decide +kernel, by decide +kernel⟩, List.mem_of_getElem? (i := 67) (by decide +kernel), List.mem_of_getElem? (i := 325) (by decide +kernel), List.mem_of_getElem? (i := 326) (by decide +kernel)⟩
theorem lw_p9 : lw_okq (⟨"RingInSand$Tape", "addNumber", "(II)V"⟩, 14) := ⟨⟨by decide +kernel, by decide +kernel⟩, List.mem_of_getElem? (i := 67) (by decide +kernel), List.mem_of_getElem? (i := 329) (by decide +kernel), List.mem_of_getElem? (i := 330) (by decide +kernel)⟩
theorem lw_p10 : lw_okq (⟨"RingInSand$Tape", "goTo", "(I)V"⟩, 14) := ⟨⟨by decide +kernel, by decide +kernel⟩, List.mem_of_getElem? (i := 67) (by decide +kernel), List.mem_of_getElem? (i := 336) (by decide +kernel), List.mem_of_getElem? (i := 337) (by decide +kernel)⟩
theorem lw_p11 : lw_okq (⟨"RingInSand$Tape", "readPart", "(I)Z"⟩, 14) := ⟨⟨by decide +kernel, by decide +kernel⟩, List.mem_of_getElem? (i := 67) (by decide +kernel), List.mem_of_getElem? (i := 343) (by decide +kernel), List.mem_of_getElem? (i := 344) (by decide +kernel)⟩
theorem lw_p12 : lw_okq (⟨"RingInSand$Tape", "expect", "(I)Z"⟩, 14) := ⟨⟨by decide +kernel, by decide +kernel⟩, List.mem_of_getElem? (i := 67) (by decide +kernel), List.mem_of_getElem? (i := 347) (by decide +kernel), List.mem_of_getElem? (i := 348) (by decide +kernel)⟩
theorem lw_p13 : lw_okq (⟨"RingInSand$Tape", "refuse", "()Z"⟩, 14) := ⟨⟨by decide +kernel, by decide +kernel⟩, List.mem_of_getElem? (i := 67) (by decide +kernel), List.mem_of_getElem? (i := 351) (by decide +kernel), List.mem_of_getElem? (i := 352) (by decide +kernel)⟩
theorem lw_p14 : lw_okq (⟨"RingInSand$Tape", "readOr", "()Z"⟩, 14) := ⟨⟨by decide +kernel, by decide +kernel⟩, List.mem_of_getElem? (i := 67) (by decide +kernel), List.mem_of_getElem? (i := 355) (by decide +kernel), List.mem_of_getElem? (i := 356) (by decide +kernel)⟩
theorem lw_p15 : lw_okq (⟨"RingInSand$Tape", "readAnd", "()Z"⟩, 14) := ⟨⟨by decide +kernel, by decide +kernel⟩, List.mem_of_getElem? (i := 67) (by decide +kernel), List.mem_of_getElem? (i := 359) (by decide +kernel), List.mem_of_getElem? (i := 360) (by decide +kernel)⟩
def lw_privs_1 : List (MethodName × Nat) := [(⟨"RingInSand$Tape", "splitTokens", "()V"⟩, 14), (⟨"RingInSand$Tape", "byteAt", "(I)I"⟩, 14), (⟨"RingInSand$Tape", "endOfWord", "(I)I"⟩, 14), (⟨"RingInSand$Tape", "addWord", "(II)V"⟩, 14), (⟨"RingInSand$Tape", "nameOf", "(II)I"⟩, 14), (⟨"RingInSand$Tape", "isWord", "(Ljava/lang/String;II)Z"⟩, 14), (⟨"RingInSand$Tape", "addToken", "(III)V"⟩, 14), (⟨"RingInSand$Tape", "keyOf", "(II)I"⟩, 14), (⟨"RingInSand$Tape", "endOfNumber", "(I)I"⟩, 14), (⟨"RingInSand$Tape", "addNumber", "(II)V"⟩, 14), (⟨"RingInSand$Tape", "goTo", "(I)V"⟩, 14), (⟨"RingInSand$Tape", "readPart", "(I)Z"⟩, 14), (⟨"RingInSand$Tape", "expect", "(I)Z"⟩, 14), (⟨"RingInSand$Tape", "refuse", "()Z"⟩, 14), (⟨"RingInSand$Tape", "readOr", "()Z"⟩, 14), (⟨"RingInSand$Tape", "readAnd", "()Z"⟩, 14)]
theorem lw_r1 : ∀ q ∈ lw_privs_1, lw_okq q := List.forall_mem_cons.mpr ⟨lw_p0, List.forall_mem_cons.mpr ⟨lw_p1, List.forall_mem_cons.mpr ⟨lw_p2, List.forall_mem_cons.mpr ⟨lw_p3, List.forall_mem_cons.mpr ⟨lw_p4, List.forall_mem_cons.mpr ⟨lw_p5, List.forall_mem_cons.mpr ⟨lw_p6, List.forall_mem_cons.mpr ⟨lw_p7, List.forall_mem_cons.mpr ⟨lw_p8, List.forall_mem_cons.mpr ⟨lw_p9, List.forall_mem_cons.mpr ⟨lw_p10, List.forall_mem_cons.mpr ⟨lw_p11, List.forall_mem_cons.mpr ⟨lw_p12, List.forall_mem_cons.mpr ⟨lw_p13, List.forall_mem_cons.mpr ⟨lw_p14, List.forall_mem_cons.mpr ⟨lw_p15, fun _ h => absurd h List.not_mem_nil⟩⟩⟩⟩⟩⟩⟩⟩⟩⟩⟩⟩⟩⟩⟩⟩
theorem lw_p16 : lw_okq (⟨"RingInSand$Tape", "readNot", "()Z"⟩, 14) := ⟨⟨by decide +kernel, by decide +kernel⟩, List.mem_of_getElem? (i := 67) (by decide +kernel), List.mem_of_getElem? (i := 363) (by decide +kernel), List.mem_of_getElem? (i := 364) (by decide +kernel)⟩
theorem lw_p17 : lw_okq (⟨"RingInSand$Tape", "readComparison", "()Z"⟩, 14) := ⟨⟨by decide +kernel, by decide +kernel⟩, List.mem_of_getElem? (i := 67) (by decide +kernel), List.mem_of_getElem? (i := 367) (by decide +kernel), List.mem_of_getElem? (i := 368) (by decide +kernel)⟩
theorem lw_p18 : lw_okq (⟨"RingInSand$Tape", "readSum", "()Z"⟩, 14) := ⟨⟨by decide +kernel, by decide +kernel⟩, List.mem_of_getElem? (i := 67) (by decide +kernel), List.mem_of_getElem? (i := 371) (by decide +kernel), List.mem_of_getElem? (i := 372) (by decide +kernel)⟩
theorem lw_p19 : lw_okq (⟨"RingInSand$Tape", "readTerm", "()Z"⟩, 14) := ⟨⟨by decide +kernel, by decide +kernel⟩, List.mem_of_getElem? (i := 67) (by decide +kernel), List.mem_of_getElem? (i := 375) (by decide +kernel), List.mem_of_getElem? (i := 376) (by decide +kernel)⟩
theorem lw_p20 : lw_okq (⟨"RingInSand$Tape", "readOne", "()Z"⟩, 14) := ⟨⟨by decide +kernel, by decide +kernel⟩, List.mem_of_getElem? (i := 67) (by decide +kernel), List.mem_of_getElem? (i := 379) (by decide +kernel), List.mem_of_getElem? (i := 380) (by decide +kernel)⟩
theorem lw_p21 : lw_okq (⟨"RingInSand$Tape", "worthHere", "()I"⟩, 14) := ⟨⟨by decide +kernel, by decide +kernel⟩, List.mem_of_getElem? (i := 67) (by decide +kernel), List.mem_of_getElem? (i := 383) (by decide +kernel), List.mem_of_getElem? (i := 384) (by decide +kernel)⟩
theorem lw_p22 : lw_okq (⟨"RingInSand$Tape", "emit", "(I)V"⟩, 14) := ⟨⟨by decide +kernel, by decide +kernel⟩, List.mem_of_getElem? (i := 67) (by decide +kernel), List.mem_of_getElem? (i := 387) (by decide +kernel), List.mem_of_getElem? (i := 388) (by decide +kernel)⟩
theorem lw_p23 : lw_okq (⟨"RingInSand$Tape", "readNegated", "()Z"⟩, 14) := ⟨⟨by decide +kernel, by decide +kernel⟩, List.mem_of_getElem? (i := 67) (by decide +kernel), List.mem_of_getElem? (i := 391) (by decide +kernel), List.mem_of_getElem? (i := 392) (by decide +kernel)⟩
theorem lw_p24 : lw_okq (⟨"RingInSand$Tape", "enter", "()Z"⟩, 14) := ⟨⟨by decide +kernel, by decide +kernel⟩, List.mem_of_getElem? (i := 67) (by decide +kernel), List.mem_of_getElem? (i := 395) (by decide +kernel), List.mem_of_getElem? (i := 396) (by decide +kernel)⟩
theorem lw_p25 : lw_okq (⟨"RingInSand$Tape", "readBracket", "()Z"⟩, 14) := ⟨⟨by decide +kernel, by decide +kernel⟩, List.mem_of_getElem? (i := 67) (by decide +kernel), List.mem_of_getElem? (i := 399) (by decide +kernel), List.mem_of_getElem? (i := 400) (by decide +kernel)⟩
theorem lw_p26 : lw_okq (⟨"RingInSand", "changeOdds", "(II)I"⟩, 14) := ⟨⟨by decide +kernel, by decide +kernel⟩, List.mem_of_getElem? (i := 22) (by decide +kernel), List.mem_of_getElem? (i := 467) (by decide +kernel), List.mem_of_getElem? (i := 468) (by decide +kernel)⟩
theorem lw_p27 : lw_okq (⟨"RingInSand", "changeTreads", "(II)I"⟩, 14) := ⟨⟨by decide +kernel, by decide +kernel⟩, List.mem_of_getElem? (i := 22) (by decide +kernel), List.mem_of_getElem? (i := 476) (by decide +kernel), List.mem_of_getElem? (i := 477) (by decide +kernel)⟩
theorem lw_p28 : lw_okq (⟨"RingInSand", "changeBag", "(I)I"⟩, 14) := ⟨⟨by decide +kernel, by decide +kernel⟩, List.mem_of_getElem? (i := 22) (by decide +kernel), List.mem_of_getElem? (i := 480) (by decide +kernel), List.mem_of_getElem? (i := 481) (by decide +kernel)⟩
theorem lw_p29 : lw_okq (⟨"RingInSand", "changeHour", "(I)I"⟩, 14) := ⟨⟨by decide +kernel, by decide +kernel⟩, List.mem_of_getElem? (i := 22) (by decide +kernel), List.mem_of_getElem? (i := 484) (by decide +kernel), List.mem_of_getElem? (i := 485) (by decide +kernel)⟩
theorem lw_p30 : lw_okq (⟨"RingInSand", "changeMinutes", "(I)I"⟩, 14) := ⟨⟨by decide +kernel, by decide +kernel⟩, List.mem_of_getElem? (i := 22) (by decide +kernel), List.mem_of_getElem? (i := 488) (by decide +kernel), List.mem_of_getElem? (i := 489) (by decide +kernel)⟩
theorem lw_p31 : lw_okq (⟨"RingInSand$Rules", "stand", "(III)V"⟩, 13) := ⟨⟨by decide +kernel, by decide +kernel⟩, List.mem_of_getElem? (i := 121) (by decide +kernel), List.mem_of_getElem? (i := 501) (by decide +kernel), List.mem_of_getElem? (i := 502) (by decide +kernel)⟩
def lw_privs_2 : List (MethodName × Nat) := [(⟨"RingInSand$Tape", "readNot", "()Z"⟩, 14), (⟨"RingInSand$Tape", "readComparison", "()Z"⟩, 14), (⟨"RingInSand$Tape", "readSum", "()Z"⟩, 14), (⟨"RingInSand$Tape", "readTerm", "()Z"⟩, 14), (⟨"RingInSand$Tape", "readOne", "()Z"⟩, 14), (⟨"RingInSand$Tape", "worthHere", "()I"⟩, 14), (⟨"RingInSand$Tape", "emit", "(I)V"⟩, 14), (⟨"RingInSand$Tape", "readNegated", "()Z"⟩, 14), (⟨"RingInSand$Tape", "enter", "()Z"⟩, 14), (⟨"RingInSand$Tape", "readBracket", "()Z"⟩, 14), (⟨"RingInSand", "changeOdds", "(II)I"⟩, 14), (⟨"RingInSand", "changeTreads", "(II)I"⟩, 14), (⟨"RingInSand", "changeBag", "(I)I"⟩, 14), (⟨"RingInSand", "changeHour", "(I)I"⟩, 14), (⟨"RingInSand", "changeMinutes", "(I)I"⟩, 14), (⟨"RingInSand$Rules", "stand", "(III)V"⟩, 13)]
theorem lw_r2 : ∀ q ∈ lw_privs_2, lw_okq q := List.forall_mem_cons.mpr ⟨lw_p16, List.forall_mem_cons.mpr ⟨lw_p17, List.forall_mem_cons.mpr ⟨lw_p18, List.forall_mem_cons.mpr ⟨lw_p19, List.forall_mem_cons.mpr ⟨lw_p20, List.forall_mem_cons.mpr ⟨lw_p21, List.forall_mem_cons.mpr ⟨lw_p22, List.forall_mem_cons.mpr ⟨lw_p23, List.forall_mem_cons.mpr ⟨lw_p24, List.forall_mem_cons.mpr ⟨lw_p25, List.forall_mem_cons.mpr ⟨lw_p26, List.forall_mem_cons.mpr ⟨lw_p27, List.forall_mem_cons.mpr ⟨lw_p28, List.forall_mem_cons.mpr ⟨lw_p29, List.forall_mem_cons.mpr ⟨lw_p30, List.forall_mem_cons.mpr ⟨lw_p31, fun _ h => absurd h List.not_mem_nil⟩⟩⟩⟩⟩⟩⟩⟩⟩⟩⟩⟩⟩⟩⟩⟩
theorem lw_p32 : lw_okq (⟨"RingInSand$Rules", "value", "(II)I"⟩, 13) := ⟨⟨by decide +kernel, by decide +kernel⟩, List.mem_of_getElem? (i := 121) (by decide +kernel), List.mem_of_getElem? (i := 511) (by decide +kernel), List.mem_of_getElem? (i := 512) (by decide +kernel)⟩
theorem lw_p33 : lw_okq (⟨"RingInSand$Rules", "take", "(I)V"⟩, 13) := ⟨⟨by decide +kernel, by decide +kernel⟩, List.mem_of_getElem? (i := 121) (by decide +kernel), List.mem_of_getElem? (i := 520) (by decide +kernel), List.mem_of_getElem? (i := 521) (by decide +kernel)⟩
theorem lw_p34 : lw_okq (⟨"RingInSand$Rules", "push", "(I)V"⟩, 13) := ⟨⟨by decide +kernel, by decide +kernel⟩, List.mem_of_getElem? (i := 121) (by decide +kernel), List.mem_of_getElem? (i := 524) (by decide +kernel), List.mem_of_getElem? (i := 525) (by decide +kernel)⟩
theorem lw_p35 : lw_okq (⟨"RingInSand$Rules", "pop", "()I"⟩, 13) := ⟨⟨by decide +kernel, by decide +kernel⟩, List.mem_of_getElem? (i := 121) (by decide +kernel), List.mem_of_getElem? (i := 528) (by decide +kernel), List.mem_of_getElem? (i := 529) (by decide +kernel)⟩
theorem lw_p36 : lw_okq (⟨"RingInSand", "lookerAt", "(I)LRingInSand$Eyes;"⟩, 14) := ⟨⟨by decide +kernel, by decide +kernel⟩, List.mem_of_getElem? (i := 22) (by decide +kernel), List.mem_of_getElem? (i := 618) (by decide +kernel), List.mem_of_getElem? (i := 619) (by decide +kernel)⟩
theorem lw_p37 : lw_okq (⟨"RingInSand", "goodHere", "(LRingInSand$Eyes;)I"⟩, 14) := ⟨⟨by decide +kernel, by decide +kernel⟩, List.mem_of_getElem? (i := 22) (by decide +kernel), List.mem_of_getElem? (i := 622) (by decide +kernel), List.mem_of_getElem? (i := 623) (by decide +kernel)⟩
theorem lw_p38 : lw_okq (⟨"RingInSand", "gainByLook", "(LRingInSand$Beach;LRingInSand$Eyes;I)I"⟩, 14) := ⟨⟨by decide +kernel, by decide +kernel⟩, List.mem_of_getElem? (i := 22) (by decide +kernel), List.mem_of_getElem? (i := 725) (by decide +kernel), List.mem_of_getElem? (i := 726) (by decide +kernel)⟩
theorem lw_p39 : lw_okq (⟨"RingInSand", "choose", "(LRingInSand$Beach;)Z"⟩, 14) := ⟨⟨by decide +kernel, by decide +kernel⟩, List.mem_of_getElem? (i := 22) (by decide +kernel), List.mem_of_getElem? (i := 746) (by decide +kernel), List.mem_of_getElem? (i := 747) (by decide +kernel)⟩
theorem lw_p40 : lw_okq (⟨"RingInSand", "weighParty", "(II)V"⟩, 14) := ⟨⟨by decide +kernel, by decide +kernel⟩, List.mem_of_getElem? (i := 22) (by decide +kernel), List.mem_of_getElem? (i := 750) (by decide +kernel), List.mem_of_getElem? (i := 751) (by decide +kernel)⟩
theorem lw_p41 : lw_okq (⟨"RingInSand", "makePlan", "(I)V"⟩, 14) := ⟨⟨by decide +kernel, by decide +kernel⟩, List.mem_of_getElem? (i := 22) (by decide +kernel), List.mem_of_getElem? (i := 758) (by decide +kernel), List.mem_of_getElem? (i := 759) (by decide +kernel)⟩
theorem lw_p42 : lw_okq (⟨"RingInSand", "isWetAt", "(II)Z"⟩, 14) := ⟨⟨by decide +kernel, by decide +kernel⟩, List.mem_of_getElem? (i := 22) (by decide +kernel), List.mem_of_getElem? (i := 834) (by decide +kernel), List.mem_of_getElem? (i := 835) (by decide +kernel)⟩
theorem lw_p43 : lw_okq (⟨"RingInSand", "oddsUnderWater", "(I)I"⟩, 14) := ⟨⟨by decide +kernel, by decide +kernel⟩, List.mem_of_getElem? (i := 22) (by decide +kernel), List.mem_of_getElem? (i := 846) (by decide +kernel), List.mem_of_getElem? (i := 847) (by decide +kernel)⟩
theorem lw_p44 : lw_okq (⟨"RingInSand", "hourOfMostDrowned", "()I"⟩, 14) := ⟨⟨by decide +kernel, by decide +kernel⟩, List.mem_of_getElem? (i := 22) (by decide +kernel), List.mem_of_getElem? (i := 850) (by decide +kernel), List.mem_of_getElem? (i := 851) (by decide +kernel)⟩
theorem lw_p45 : lw_okq (⟨"RingInSand", "sheetAt", "(I)LRingInSand$Sheet;"⟩, 14) := ⟨⟨by decide +kernel, by decide +kernel⟩, List.mem_of_getElem? (i := 22) (by decide +kernel), List.mem_of_getElem? (i := 858) (by decide +kernel), List.mem_of_getElem? (i := 859) (by decide +kernel)⟩
theorem lw_p46 : lw_okq (⟨"RingInSand", "addPicture", "(II)V"⟩, 14) := ⟨⟨by decide +kernel, by decide +kernel⟩, List.mem_of_getElem? (i := 22) (by decide +kernel), List.mem_of_getElem? (i := 878) (by decide +kernel), List.mem_of_getElem? (i := 879) (by decide +kernel)⟩
theorem lw_p47 : lw_okq (⟨"RingInSand", "firstWrongRow", "(LRingInSand$Sheet;)I"⟩, 14) := ⟨⟨by decide +kernel, by decide +kernel⟩, List.mem_of_getElem? (i := 22) (by decide +kernel), List.mem_of_getElem? (i := 899) (by decide +kernel), List.mem_of_getElem? (i := 900) (by decide +kernel)⟩
def lw_privs_3 : List (MethodName × Nat) := [(⟨"RingInSand$Rules", "value", "(II)I"⟩, 13), (⟨"RingInSand$Rules", "take", "(I)V"⟩, 13), (⟨"RingInSand$Rules", "push", "(I)V"⟩, 13), (⟨"RingInSand$Rules", "pop", "()I"⟩, 13), (⟨"RingInSand", "lookerAt", "(I)LRingInSand$Eyes;"⟩, 14), (⟨"RingInSand", "goodHere", "(LRingInSand$Eyes;)I"⟩, 14), (⟨"RingInSand", "gainByLook", "(LRingInSand$Beach;LRingInSand$Eyes;I)I"⟩, 14), (⟨"RingInSand", "choose", "(LRingInSand$Beach;)Z"⟩, 14), (⟨"RingInSand", "weighParty", "(II)V"⟩, 14), (⟨"RingInSand", "makePlan", "(I)V"⟩, 14), (⟨"RingInSand", "isWetAt", "(II)Z"⟩, 14), (⟨"RingInSand", "oddsUnderWater", "(I)I"⟩, 14), (⟨"RingInSand", "hourOfMostDrowned", "()I"⟩, 14), (⟨"RingInSand", "sheetAt", "(I)LRingInSand$Sheet;"⟩, 14), (⟨"RingInSand", "addPicture", "(II)V"⟩, 14), (⟨"RingInSand", "firstWrongRow", "(LRingInSand$Sheet;)I"⟩, 14)]
theorem lw_r3 : ∀ q ∈ lw_privs_3, lw_okq q := List.forall_mem_cons.mpr ⟨lw_p32, List.forall_mem_cons.mpr ⟨lw_p33, List.forall_mem_cons.mpr ⟨lw_p34, List.forall_mem_cons.mpr ⟨lw_p35, List.forall_mem_cons.mpr ⟨lw_p36, List.forall_mem_cons.mpr ⟨lw_p37, List.forall_mem_cons.mpr ⟨lw_p38, List.forall_mem_cons.mpr ⟨lw_p39, List.forall_mem_cons.mpr ⟨lw_p40, List.forall_mem_cons.mpr ⟨lw_p41, List.forall_mem_cons.mpr ⟨lw_p42, List.forall_mem_cons.mpr ⟨lw_p43, List.forall_mem_cons.mpr ⟨lw_p44, List.forall_mem_cons.mpr ⟨lw_p45, List.forall_mem_cons.mpr ⟨lw_p46, List.forall_mem_cons.mpr ⟨lw_p47, fun _ h => absurd h List.not_mem_nil⟩⟩⟩⟩⟩⟩⟩⟩⟩⟩⟩⟩⟩⟩⟩⟩
theorem lw_p48 : lw_okq (⟨"RingInSand$Sheet", "narrowed", "(I)I"⟩, 3) := ⟨⟨by decide +kernel, by decide +kernel⟩, List.mem_of_getElem? (i := 197) (by decide +kernel), List.mem_of_getElem? (i := 966) (by decide +kernel), List.mem_of_getElem? (i := 967) (by decide +kernel)⟩
theorem lw_p49 : lw_okq (⟨"RingInSandModel", "spell", "(IIIIIIIII)V"⟩, 54) := ⟨⟨by decide +kernel, by decide +kernel⟩, List.mem_of_getElem? (i := 991) (by decide +kernel), List.mem_of_getElem? (i := 997) (by decide +kernel), List.mem_of_getElem? (i := 998) (by decide +kernel)⟩
theorem lw_p50 : lw_okq (⟨"RingInSandModel", "read", "(II)I"⟩, 54) := ⟨⟨by decide +kernel, by decide +kernel⟩, List.mem_of_getElem? (i := 991) (by decide +kernel), List.mem_of_getElem? (i := 1195) (by decide +kernel), List.mem_of_getElem? (i := 1196) (by decide +kernel)⟩
theorem lw_p51 : lw_okq (⟨"RingInSandModel", "nextToken", "()V"⟩, 54) := ⟨⟨by decide +kernel, by decide +kernel⟩, List.mem_of_getElem? (i := 991) (by decide +kernel), List.mem_of_getElem? (i := 1199) (by decide +kernel), List.mem_of_getElem? (i := 1200) (by decide +kernel)⟩
theorem lw_p52 : lw_okq (⟨"RingInSandModel", "byteAt", "(I)I"⟩, 54) := ⟨⟨by decide +kernel, by decide +kernel⟩, List.mem_of_getElem? (i := 991) (by decide +kernel), List.mem_of_getElem? (i := 1203) (by decide +kernel), List.mem_of_getElem? (i := 1204) (by decide +kernel)⟩
theorem lw_p53 : lw_okq (⟨"RingInSandModel", "isWord", "(IIIIIIII)Z"⟩, 54) := ⟨⟨by decide +kernel, by decide +kernel⟩, List.mem_of_getElem? (i := 991) (by decide +kernel), List.mem_of_getElem? (i := 1212) (by decide +kernel), List.mem_of_getElem? (i := 1213) (by decide +kernel)⟩
theorem lw_p54 : lw_okq (⟨"RingInSandModel", "isLetter", "(II)Z"⟩, 54) := ⟨⟨by decide +kernel, by decide +kernel⟩, List.mem_of_getElem? (i := 991) (by decide +kernel), List.mem_of_getElem? (i := 1216) (by decide +kernel), List.mem_of_getElem? (i := 1217) (by decide +kernel)⟩
theorem lw_p55 : lw_okq (⟨"RingInSandModel", "part", "(Z)I"⟩, 54) := ⟨⟨by decide +kernel, by decide +kernel⟩, List.mem_of_getElem? (i := 991) (by decide +kernel), List.mem_of_getElem? (i := 1220) (by decide +kernel), List.mem_of_getElem? (i := 1221) (by decide +kernel)⟩
theorem lw_p56 : lw_okq (⟨"RingInSandModel", "fail", "()V"⟩, 54) := ⟨⟨by decide +kernel, by decide +kernel⟩, List.mem_of_getElem? (i := 991) (by decide +kernel), List.mem_of_getElem? (i := 1224) (by decide +kernel), List.mem_of_getElem? (i := 1225) (by decide +kernel)⟩
theorem lw_p57 : lw_okq (⟨"RingInSandModel", "either", "()I"⟩, 54) := ⟨⟨by decide +kernel, by decide +kernel⟩, List.mem_of_getElem? (i := 991) (by decide +kernel), List.mem_of_getElem? (i := 1228) (by decide +kernel), List.mem_of_getElem? (i := 1229) (by decide +kernel)⟩
theorem lw_p58 : lw_okq (⟨"RingInSandModel", "both", "()I"⟩, 54) := ⟨⟨by decide +kernel, by decide +kernel⟩, List.mem_of_getElem? (i := 991) (by decide +kernel), List.mem_of_getElem? (i := 1232) (by decide +kernel), List.mem_of_getElem? (i := 1233) (by decide +kernel)⟩
theorem lw_p59 : lw_okq (⟨"RingInSandModel", "not", "()I"⟩, 54) := ⟨⟨by decide +kernel, by decide +kernel⟩, List.mem_of_getElem? (i := 991) (by decide +kernel), List.mem_of_getElem? (i := 1236) (by decide +kernel), List.mem_of_getElem? (i := 1237) (by decide +kernel)⟩
theorem lw_p60 : lw_okq (⟨"RingInSandModel", "opens", "()Z"⟩, 54) := ⟨⟨by decide +kernel, by decide +kernel⟩, List.mem_of_getElem? (i := 991) (by decide +kernel), List.mem_of_getElem? (i := 1240) (by decide +kernel), List.mem_of_getElem? (i := 1241) (by decide +kernel)⟩
theorem lw_p61 : lw_okq (⟨"RingInSandModel", "added", "()I"⟩, 54) := ⟨⟨by decide +kernel, by decide +kernel⟩, List.mem_of_getElem? (i := 991) (by decide +kernel), List.mem_of_getElem? (i := 1244) (by decide +kernel), List.mem_of_getElem? (i := 1245) (by decide +kernel)⟩
theorem lw_p62 : lw_okq (⟨"RingInSandModel", "term", "()I"⟩, 54) := ⟨⟨by decide +kernel, by decide +kernel⟩, List.mem_of_getElem? (i := 991) (by decide +kernel), List.mem_of_getElem? (i := 1248) (by decide +kernel), List.mem_of_getElem? (i := 1249) (by decide +kernel)⟩
theorem lw_p63 : lw_okq (⟨"RingInSandModel", "atom", "()I"⟩, 54) := ⟨⟨by decide +kernel, by decide +kernel⟩, List.mem_of_getElem? (i := 991) (by decide +kernel), List.mem_of_getElem? (i := 1252) (by decide +kernel), List.mem_of_getElem? (i := 1253) (by decide +kernel)⟩
def lw_privs_4 : List (MethodName × Nat) := [(⟨"RingInSand$Sheet", "narrowed", "(I)I"⟩, 3), (⟨"RingInSandModel", "spell", "(IIIIIIIII)V"⟩, 54), (⟨"RingInSandModel", "read", "(II)I"⟩, 54), (⟨"RingInSandModel", "nextToken", "()V"⟩, 54), (⟨"RingInSandModel", "byteAt", "(I)I"⟩, 54), (⟨"RingInSandModel", "isWord", "(IIIIIIII)Z"⟩, 54), (⟨"RingInSandModel", "isLetter", "(II)Z"⟩, 54), (⟨"RingInSandModel", "part", "(Z)I"⟩, 54), (⟨"RingInSandModel", "fail", "()V"⟩, 54), (⟨"RingInSandModel", "either", "()I"⟩, 54), (⟨"RingInSandModel", "both", "()I"⟩, 54), (⟨"RingInSandModel", "not", "()I"⟩, 54), (⟨"RingInSandModel", "opens", "()Z"⟩, 54), (⟨"RingInSandModel", "added", "()I"⟩, 54), (⟨"RingInSandModel", "term", "()I"⟩, 54), (⟨"RingInSandModel", "atom", "()I"⟩, 54)]
theorem lw_r4 : ∀ q ∈ lw_privs_4, lw_okq q := List.forall_mem_cons.mpr ⟨lw_p48, List.forall_mem_cons.mpr ⟨lw_p49, List.forall_mem_cons.mpr ⟨lw_p50, List.forall_mem_cons.mpr ⟨lw_p51, List.forall_mem_cons.mpr ⟨lw_p52, List.forall_mem_cons.mpr ⟨lw_p53, List.forall_mem_cons.mpr ⟨lw_p54, List.forall_mem_cons.mpr ⟨lw_p55, List.forall_mem_cons.mpr ⟨lw_p56, List.forall_mem_cons.mpr ⟨lw_p57, List.forall_mem_cons.mpr ⟨lw_p58, List.forall_mem_cons.mpr ⟨lw_p59, List.forall_mem_cons.mpr ⟨lw_p60, List.forall_mem_cons.mpr ⟨lw_p61, List.forall_mem_cons.mpr ⟨lw_p62, List.forall_mem_cons.mpr ⟨lw_p63, fun _ h => absurd h List.not_mem_nil⟩⟩⟩⟩⟩⟩⟩⟩⟩⟩⟩⟩⟩⟩⟩⟩
theorem lw_p64 : lw_okq (⟨"RingInSandModel", "isSign", "(I)Z"⟩, 54) := ⟨⟨by decide +kernel, by decide +kernel⟩, List.mem_of_getElem? (i := 991) (by decide +kernel), List.mem_of_getElem? (i := 1256) (by decide +kernel), List.mem_of_getElem? (i := 1257) (by decide +kernel)⟩
theorem lw_p65 : lw_okq (⟨"RingInSandModel", "name", "()I"⟩, 54) := ⟨⟨by decide +kernel, by decide +kernel⟩, List.mem_of_getElem? (i := 991) (by decide +kernel), List.mem_of_getElem? (i := 1260) (by decide +kernel), List.mem_of_getElem? (i := 1261) (by decide +kernel)⟩
theorem lw_p66 : lw_okq (⟨"RingInSandModel", "deep", "(I)I"⟩, 54) := ⟨⟨by decide +kernel, by decide +kernel⟩, List.mem_of_getElem? (i := 991) (by decide +kernel), List.mem_of_getElem? (i := 1274) (by decide +kernel), List.mem_of_getElem? (i := 1275) (by decide +kernel)⟩
theorem lw_p67 : lw_okq (⟨"RingInSandModel", "says", "(III)I"⟩, 54) := ⟨⟨by decide +kernel, by decide +kernel⟩, List.mem_of_getElem? (i := 991) (by decide +kernel), List.mem_of_getElem? (i := 1278) (by decide +kernel), List.mem_of_getElem? (i := 1279) (by decide +kernel)⟩
theorem lw_p68 : lw_okq (⟨"RingInSandModel", "shine", "(I)I"⟩, 54) := ⟨⟨by decide +kernel, by decide +kernel⟩, List.mem_of_getElem? (i := 991) (by decide +kernel), List.mem_of_getElem? (i := 1285) (by decide +kernel), List.mem_of_getElem? (i := 1286) (by decide +kernel)⟩
theorem lw_p69 : lw_okq (⟨"RingInSandModel", "isUnder", "(I)Z"⟩, 54) := ⟨⟨by decide +kernel, by decide +kernel⟩, List.mem_of_getElem? (i := 991) (by decide +kernel), List.mem_of_getElem? (i := 1289) (by decide +kernel), List.mem_of_getElem? (i := 1290) (by decide +kernel)⟩
theorem lw_p70 : lw_okq (⟨"RingInSandModel", "isLooker", "(I)Z"⟩, 54) := ⟨⟨by decide +kernel, by decide +kernel⟩, List.mem_of_getElem? (i := 991) (by decide +kernel), List.mem_of_getElem? (i := 1297) (by decide +kernel), List.mem_of_getElem? (i := 1298) (by decide +kernel)⟩
theorem lw_p71 : lw_okq (⟨"RingInSandModel", "good", "(II)I"⟩, 54) := ⟨⟨by decide +kernel, by decide +kernel⟩, List.mem_of_getElem? (i := 991) (by decide +kernel), List.mem_of_getElem? (i := 1301) (by decide +kernel), List.mem_of_getElem? (i := 1302) (by decide +kernel)⟩
theorem lw_p72 : lw_okq (⟨"RingInSandModel", "finds", "(III)I"⟩, 54) := ⟨⟨by decide +kernel, by decide +kernel⟩, List.mem_of_getElem? (i := 991) (by decide +kernel), List.mem_of_getElem? (i := 1305) (by decide +kernel), List.mem_of_getElem? (i := 1306) (by decide +kernel)⟩
theorem lw_p73 : lw_okq (⟨"RingInSandModel", "takes", "(I)I"⟩, 54) := ⟨⟨by decide +kernel, by decide +kernel⟩, List.mem_of_getElem? (i := 991) (by decide +kernel), List.mem_of_getElem? (i := 1309) (by decide +kernel), List.mem_of_getElem? (i := 1310) (by decide +kernel)⟩
theorem lw_p74 : lw_okq (⟨"RingInSandModel", "stamps", "(I)I"⟩, 54) := ⟨⟨by decide +kernel, by decide +kernel⟩, List.mem_of_getElem? (i := 991) (by decide +kernel), List.mem_of_getElem? (i := 1313) (by decide +kernel), List.mem_of_getElem? (i := 1314) (by decide +kernel)⟩
theorem lw_p75 : lw_okq (⟨"RingInSandModel", "gain", "(II)I"⟩, 54) := ⟨⟨by decide +kernel, by decide +kernel⟩, List.mem_of_getElem? (i := 991) (by decide +kernel), List.mem_of_getElem? (i := 1317) (by decide +kernel), List.mem_of_getElem? (i := 1318) (by decide +kernel)⟩
theorem lw_p76 : lw_okq (⟨"RingInSandModel", "looks", "(II)V"⟩, 54) := ⟨⟨by decide +kernel, by decide +kernel⟩, List.mem_of_getElem? (i := 991) (by decide +kernel), List.mem_of_getElem? (i := 1325) (by decide +kernel), List.mem_of_getElem? (i := 1326) (by decide +kernel)⟩
theorem lw_p77 : lw_okq (⟨"RingInSandModel", "best", "()V"⟩, 54) := ⟨⟨by decide +kernel, by decide +kernel⟩, List.mem_of_getElem? (i := 991) (by decide +kernel), List.mem_of_getElem? (i := 1334) (by decide +kernel), List.mem_of_getElem? (i := 1335) (by decide +kernel)⟩
theorem lw_p78 : lw_okq (⟨"RingInSandModel", "plans", "(I)V"⟩, 54) := ⟨⟨by decide +kernel, by decide +kernel⟩, List.mem_of_getElem? (i := 991) (by decide +kernel), List.mem_of_getElem? (i := 1347) (by decide +kernel), List.mem_of_getElem? (i := 1348) (by decide +kernel)⟩
theorem lw_p79 : lw_okq (⟨"RingInSandModel", "laysAside", "()V"⟩, 54) := ⟨⟨by decide +kernel, by decide +kernel⟩, List.mem_of_getElem? (i := 991) (by decide +kernel), List.mem_of_getElem? (i := 1351) (by decide +kernel), List.mem_of_getElem? (i := 1352) (by decide +kernel)⟩
def lw_privs_5 : List (MethodName × Nat) := [(⟨"RingInSandModel", "isSign", "(I)Z"⟩, 54), (⟨"RingInSandModel", "name", "()I"⟩, 54), (⟨"RingInSandModel", "deep", "(I)I"⟩, 54), (⟨"RingInSandModel", "says", "(III)I"⟩, 54), (⟨"RingInSandModel", "shine", "(I)I"⟩, 54), (⟨"RingInSandModel", "isUnder", "(I)Z"⟩, 54), (⟨"RingInSandModel", "isLooker", "(I)Z"⟩, 54), (⟨"RingInSandModel", "good", "(II)I"⟩, 54), (⟨"RingInSandModel", "finds", "(III)I"⟩, 54), (⟨"RingInSandModel", "takes", "(I)I"⟩, 54), (⟨"RingInSandModel", "stamps", "(I)I"⟩, 54), (⟨"RingInSandModel", "gain", "(II)I"⟩, 54), (⟨"RingInSandModel", "looks", "(II)V"⟩, 54), (⟨"RingInSandModel", "best", "()V"⟩, 54), (⟨"RingInSandModel", "plans", "(I)V"⟩, 54), (⟨"RingInSandModel", "laysAside", "()V"⟩, 54)]
theorem lw_r5 : ∀ q ∈ lw_privs_5, lw_okq q := List.forall_mem_cons.mpr ⟨lw_p64, List.forall_mem_cons.mpr ⟨lw_p65, List.forall_mem_cons.mpr ⟨lw_p66, List.forall_mem_cons.mpr ⟨lw_p67, List.forall_mem_cons.mpr ⟨lw_p68, List.forall_mem_cons.mpr ⟨lw_p69, List.forall_mem_cons.mpr ⟨lw_p70, List.forall_mem_cons.mpr ⟨lw_p71, List.forall_mem_cons.mpr ⟨lw_p72, List.forall_mem_cons.mpr ⟨lw_p73, List.forall_mem_cons.mpr ⟨lw_p74, List.forall_mem_cons.mpr ⟨lw_p75, List.forall_mem_cons.mpr ⟨lw_p76, List.forall_mem_cons.mpr ⟨lw_p77, List.forall_mem_cons.mpr ⟨lw_p78, List.forall_mem_cons.mpr ⟨lw_p79, fun _ h => absurd h List.not_mem_nil⟩⟩⟩⟩⟩⟩⟩⟩⟩⟩⟩⟩⟩⟩⟩⟩
theorem lw_p80 : lw_okq (⟨"RingInSandModel", "laysBack", "()V"⟩, 54) := ⟨⟨by decide +kernel, by decide +kernel⟩, List.mem_of_getElem? (i := 991) (by decide +kernel), List.mem_of_getElem? (i := 1355) (by decide +kernel), List.mem_of_getElem? (i := 1356) (by decide +kernel)⟩
theorem lw_p81 : lw_okq (⟨"RingInSandModel", "onCells", "()I"⟩, 54) := ⟨⟨by decide +kernel, by decide +kernel⟩, List.mem_of_getElem? (i := 991) (by decide +kernel), List.mem_of_getElem? (i := 1372) (by decide +kernel), List.mem_of_getElem? (i := 1373) (by decide +kernel)⟩
theorem lw_p82 : lw_okq (⟨"RingInSandModel", "drownedNow", "()I"⟩, 54) := ⟨⟨by decide +kernel, by decide +kernel⟩, List.mem_of_getElem? (i := 991) (by decide +kernel), List.mem_of_getElem? (i := 1396) (by decide +kernel), List.mem_of_getElem? (i := 1397) (by decide +kernel)⟩
theorem lw_p83 : lw_okq (⟨"RingInSandModel", "more", "(II)V"⟩, 54) := ⟨⟨by decide +kernel, by decide +kernel⟩, List.mem_of_getElem? (i := 991) (by decide +kernel), List.mem_of_getElem? (i := 1409) (by decide +kernel), List.mem_of_getElem? (i := 1410) (by decide +kernel)⟩
theorem lw_p84 : lw_okq (⟨"RingInSandModel", "judges", "(I)I"⟩, 54) := ⟨⟨by decide +kernel, by decide +kernel⟩, List.mem_of_getElem? (i := 991) (by decide +kernel), List.mem_of_getElem? (i := 1423) (by decide +kernel), List.mem_of_getElem? (i := 1424) (by decide +kernel)⟩
def lw_privs_6 : List (MethodName × Nat) := [(⟨"RingInSandModel", "laysBack", "()V"⟩, 54), (⟨"RingInSandModel", "onCells", "()I"⟩, 54), (⟨"RingInSandModel", "drownedNow", "()I"⟩, 54), (⟨"RingInSandModel", "more", "(II)V"⟩, 54), (⟨"RingInSandModel", "judges", "(I)I"⟩, 54)]
theorem lw_r6 : ∀ q ∈ lw_privs_6, lw_okq q := List.forall_mem_cons.mpr ⟨lw_p80, List.forall_mem_cons.mpr ⟨lw_p81, List.forall_mem_cons.mpr ⟨lw_p82, List.forall_mem_cons.mpr ⟨lw_p83, List.forall_mem_cons.mpr ⟨lw_p84, fun _ h => absurd h List.not_mem_nil⟩⟩⟩⟩⟩
def lw_privs : List (MethodName × Nat) := lw_privs_1 ++ (lw_privs_2 ++ (lw_privs_3 ++ (lw_privs_4 ++ (lw_privs_5 ++ (lw_privs_6)))))
def lw_tbl : List Cond := k2_sels lw_privs ++ tables_1
theorem lw_privs_ok : ∀ q ∈ lw_privs, lw_okq q := by
  show ∀ q ∈ lw_privs_1 ++ (lw_privs_2 ++ (lw_privs_3 ++ (lw_privs_4 ++ (lw_privs_5 ++ (lw_privs_6))))), lw_okq q
  exact List.forall_mem_append.mpr ⟨lw_r1, List.forall_mem_append.mpr ⟨lw_r2, List.forall_mem_append.mpr ⟨lw_r3, List.forall_mem_append.mpr ⟨lw_r4, List.forall_mem_append.mpr ⟨lw_r5, lw_r6⟩⟩⟩⟩⟩
def RX0 : String := "RingInSand$Beach"
def TX0 : u_T := fun k => match k with
  | 0 => ("RingInSand$Beach", "odds", "[I", true)
  | 1 => ("RingInSand$Beach", "treads", "[I", true)
  | 2 => ("RingInSand$Beach", "bag", "I", false)
  | 3 => ("RingInSand$Beach", "hour", "I", false)
  | 4 => ("RingInSand$Beach", "minutes", "I", false)
  | _ => ("RingInSand$Beach", "rule", "I", false)
def tyX0 : Nat → FieldType := fun k => match k with
  | 0 => .array .int
  | 1 => .array .int
  | 2 => .int
  | 3 => .int
  | 4 => .int
  | _ => .int
abbrev wsX00 : List Cond := u_ws RX0 TX0 6
theorem nmX0 : ∀ a, a < 6 → ∀ b, b < 6 → a ≠ b → (TX0 a).2.1 ≠ (TX0 b).2.1 := by decide +kernel
theorem tyX0_ok : ∀ k, k < 6 → parseFieldDescriptor (TX0 k).2.2.1 = some (tyX0 k) := by decide +kernel
abbrev cX0_init : ByteArray := prog_2_method_1_code
def yX0_init : MethodName := ⟨RX0, "<init>", "()V"⟩
abbrev cX0_become : ByteArray := prog_2_method_2_code
def yX0_become : MethodName := ⟨RX0, "become", "(LRingInSand$Beach;)V"⟩
abbrev cX0_oddsAt : ByteArray := prog_2_method_3_code
def yX0_oddsAt : MethodName := ⟨RX0, "oddsAt", "(I)I"⟩
abbrev cX0_treadsAt : ByteArray := prog_2_method_4_code
def yX0_treadsAt : MethodName := ⟨RX0, "treadsAt", "(I)I"⟩
abbrev cX0_addOdds : ByteArray := prog_2_method_5_code
def yX0_addOdds : MethodName := ⟨RX0, "addOdds", "(II)V"⟩
abbrev cX0_addTreads : ByteArray := prog_2_method_6_code
def yX0_addTreads : MethodName := ⟨RX0, "addTreads", "(II)V"⟩
abbrev cX0_thinOdds : ByteArray := prog_2_method_7_code
def yX0_thinOdds : MethodName := ⟨RX0, "thinOdds", "(II)V"⟩
abbrev cX0_pass : ByteArray := prog_2_method_8_code
def yX0_pass : MethodName := ⟨RX0, "pass", "(I)V"⟩
abbrev cX0_oddsOnCells : ByteArray := prog_2_method_9_code
def yX0_oddsOnCells : MethodName := ⟨RX0, "oddsOnCells", "()I"⟩
abbrev cX0_allOdds : ByteArray := prog_2_method_10_code
def yX0_allOdds : MethodName := ⟨RX0, "allOdds", "()I"⟩
abbrev cX0_allTreads : ByteArray := prog_2_method_11_code
def yX0_allTreads : MethodName := ⟨RX0, "allTreads", "()I"⟩
abbrev cX0_cellOfMostOdds : ByteArray := prog_2_method_12_code
def yX0_cellOfMostOdds : MethodName := ⟨RX0, "cellOfMostOdds", "()I"⟩
abbrev cX0_cellBehind : ByteArray := prog_2_method_13_code
def yX0_cellBehind : MethodName := ⟨RX0, "cellBehind", "(I)I"⟩
def RX1 : String := "RingInSand$Eyes"
def TX1 : u_T := fun k => match k with
  | _ => ("RingInSand$Eyes", "number", "I", true)
def tyX1 : Nat → FieldType := fun k => match k with
  | _ => .int
abbrev wsX10 : List Cond := u_ws RX1 TX1 1
theorem nmX1 : ∀ a, a < 1 → ∀ b, b < 1 → a ≠ b → (TX1 a).2.1 ≠ (TX1 b).2.1 := by decide +kernel
theorem tyX1_ok : ∀ k, k < 1 → parseFieldDescriptor (TX1 k).2.2.1 = some (tyX1 k) := by decide +kernel
abbrev cX1_init : ByteArray := prog_3_method_1_code
def yX1_init : MethodName := ⟨RX1, "<init>", "(I)V"⟩
abbrev cX1_finds : ByteArray := prog_3_method_2_code
def yX1_finds : MethodName := ⟨RX1, "finds", "(II)I"⟩
abbrev cX1_takes : ByteArray := prog_3_method_3_code
def yX1_takes : MethodName := ⟨RX1, "takes", "()I"⟩
abbrev cX1_stamps : ByteArray := prog_3_method_4_code
def yX1_stamps : MethodName := ⟨RX1, "stamps", "()I"⟩
def RX2 : String := "RingInSand$Hands"
def TX2 : u_T := fun k => match k with
  | _ => ("RingInSand$Eyes", "number", "I", true)
def tyX2 : Nat → FieldType := fun k => match k with
  | _ => .int
abbrev wsX20 : List Cond := u_ws RX2 TX2 1
theorem nmX2 : ∀ a, a < 1 → ∀ b, b < 1 → a ≠ b → (TX2 a).2.1 ≠ (TX2 b).2.1 := by decide +kernel
theorem tyX2_ok : ∀ k, k < 1 → parseFieldDescriptor (TX2 k).2.2.1 = some (tyX2 k) := by decide +kernel
abbrev cX2_init : ByteArray := prog_4_method_1_code
def yX2_init : MethodName := ⟨RX2, "<init>", "(I)V"⟩
abbrev cX2_finds : ByteArray := prog_4_method_2_code
def yX2_finds : MethodName := ⟨RX2, "finds", "(II)I"⟩
abbrev cX2_takes : ByteArray := prog_4_method_3_code
def yX2_takes : MethodName := ⟨RX2, "takes", "()I"⟩
abbrev cX2_stamps : ByteArray := prog_4_method_4_code
def yX2_stamps : MethodName := ⟨RX2, "stamps", "()I"⟩
def RX3 : String := "RingInSand$Lad"
def TX3 : u_T := fun k => match k with
  | _ => ("RingInSand$Eyes", "number", "I", true)
def tyX3 : Nat → FieldType := fun k => match k with
  | _ => .int
abbrev wsX30 : List Cond := u_ws RX3 TX3 1
theorem nmX3 : ∀ a, a < 1 → ∀ b, b < 1 → a ≠ b → (TX3 a).2.1 ≠ (TX3 b).2.1 := by decide +kernel
theorem tyX3_ok : ∀ k, k < 1 → parseFieldDescriptor (TX3 k).2.2.1 = some (tyX3 k) := by decide +kernel
abbrev cX3_init : ByteArray := prog_5_method_1_code
def yX3_init : MethodName := ⟨RX3, "<init>", "(I)V"⟩
abbrev cX3_finds : ByteArray := prog_5_method_2_code
def yX3_finds : MethodName := ⟨RX3, "finds", "(II)I"⟩
abbrev cX3_takes : ByteArray := prog_5_method_3_code
def yX3_takes : MethodName := ⟨RX3, "takes", "()I"⟩
abbrev cX3_stamps : ByteArray := prog_5_method_4_code
def yX3_stamps : MethodName := ⟨RX3, "stamps", "()I"⟩
def RX4 : String := "RingInSand$Plate"
def TX4 : u_T := fun k => match k with
  | _ => ("RingInSand$Eyes", "number", "I", true)
def tyX4 : Nat → FieldType := fun k => match k with
  | _ => .int
abbrev wsX40 : List Cond := u_ws RX4 TX4 1
theorem nmX4 : ∀ a, a < 1 → ∀ b, b < 1 → a ≠ b → (TX4 a).2.1 ≠ (TX4 b).2.1 := by decide +kernel
theorem tyX4_ok : ∀ k, k < 1 → parseFieldDescriptor (TX4 k).2.2.1 = some (tyX4 k) := by decide +kernel
abbrev cX4_init : ByteArray := prog_6_method_1_code
def yX4_init : MethodName := ⟨RX4, "<init>", "(I)V"⟩
abbrev cX4_finds : ByteArray := prog_6_method_2_code
def yX4_finds : MethodName := ⟨RX4, "finds", "(II)I"⟩
abbrev cX4_takes : ByteArray := prog_6_method_3_code
def yX4_takes : MethodName := ⟨RX4, "takes", "()I"⟩
def RX5 : String := "RingInSand$Rules"
def TX5 : u_T := fun k => match k with
  | 0 => ("RingInSand$Rules", "code", "[I", true)
  | 1 => ("RingInSand$Rules", "ends", "[I", true)
  | 2 => ("RingInSand$Rules", "size", "I", false)
  | 3 => ("RingInSand$Rules", "names", "[I", true)
  | 4 => ("RingInSand$Rules", "stack", "[I", true)
  | 5 => ("RingInSand$Rules", "height", "I", false)
  | 6 => ("RingInSand$Rules", "keys", "[I", true)
  | 7 => ("RingInSand$Rules", "deeps", "[I", true)
  | 8 => ("RingInSand$Rules", "seas", "[I", true)
  | 9 => ("RingInSand$Rules", "shines", "[I", true)
  | 10 => ("RingInSand$Rules", "deep", "I", false)
  | 11 => ("RingInSand$Rules", "wet", "Z", false)
  | _ => ("RingInSand$Rules", "shine", "I", false)
def tyX5 : Nat → FieldType := fun k => match k with
  | 0 => .array .int
  | 1 => .array .int
  | 2 => .int
  | 3 => .array .int
  | 4 => .array .int
  | 5 => .int
  | 6 => .array .int
  | 7 => .array .int
  | 8 => .array .int
  | 9 => .array .int
  | 10 => .int
  | 11 => .boolean
  | _ => .int
abbrev wsX50 : List Cond := u_ws RX5 TX5 13
theorem nmX5 : ∀ a, a < 13 → ∀ b, b < 13 → a ≠ b → (TX5 a).2.1 ≠ (TX5 b).2.1 := by decide +kernel
theorem tyX5_ok : ∀ k, k < 13 → parseFieldDescriptor (TX5 k).2.2.1 = some (tyX5 k) := by decide +kernel
abbrev cX5_init : ByteArray := prog_7_method_1_code
def yX5_init : MethodName := ⟨RX5, "<init>", "()V"⟩
abbrev cX5_isFull : ByteArray := prog_7_method_2_code
def yX5_isFull : MethodName := ⟨RX5, "isFull", "()Z"⟩
abbrev cX5_hasText : ByteArray := prog_7_method_3_code
def yX5_hasText : MethodName := ⟨RX5, "hasText", "(I)Z"⟩
abbrev cX5_addFrom : ByteArray := prog_7_method_4_code
def yX5_addFrom : MethodName := ⟨RX5, "addFrom", "(LRingInSand$Tape;)V"⟩
abbrev cX5_survey : ByteArray := prog_7_method_5_code
def yX5_survey : MethodName := ⟨RX5, "survey", "(LRingInSand$Beach;I)V"⟩
abbrev cX5_isWetBy : ByteArray := prog_7_method_6_code
def yX5_isWetBy : MethodName := ⟨RX5, "isWetBy", "(IIII)Z"⟩
abbrev cX5_stand : ByteArray := prog_7_method_7_code
def yX5_stand : MethodName := ⟨RX5, "stand", "(III)V"⟩
abbrev cX5_value : ByteArray := prog_7_method_8_code
def yX5_value : MethodName := ⟨RX5, "value", "(II)I"⟩
abbrev cX5_take : ByteArray := prog_7_method_9_code
def yX5_take : MethodName := ⟨RX5, "take", "(I)V"⟩
abbrev cX5_joined : ByteArray := prog_7_method_10_code
def yX5_joined : MethodName := ⟨RX5, "joined", "(III)I"⟩
abbrev cX5_push : ByteArray := prog_7_method_11_code
def yX5_push : MethodName := ⟨RX5, "push", "(I)V"⟩
abbrev cX5_pop : ByteArray := prog_7_method_12_code
def yX5_pop : MethodName := ⟨RX5, "pop", "()I"⟩
def RX6 : String := "RingInSand$Sheet"
def TX6 : u_T := fun k => match k with
  | 0 => ("RingInSand$Sheet", "items", "[I", true)
  | 1 => ("RingInSand$Sheet", "sort", "I", false)
  | _ => ("RingInSand$Sheet", "size", "I", false)
def tyX6 : Nat → FieldType := fun k => match k with
  | 0 => .array .int
  | 1 => .int
  | _ => .int
abbrev wsX60 : List Cond := u_ws RX6 TX6 3
theorem nmX6 : ∀ a, a < 3 → ∀ b, b < 3 → a ≠ b → (TX6 a).2.1 ≠ (TX6 b).2.1 := by decide +kernel
theorem tyX6_ok : ∀ k, k < 3 → parseFieldDescriptor (TX6 k).2.2.1 = some (tyX6 k) := by decide +kernel
abbrev cX6_init : ByteArray := prog_8_method_1_code
def yX6_init : MethodName := ⟨RX6, "<init>", "()V"⟩
abbrev cX6_isMissing : ByteArray := prog_8_method_2_code
def yX6_isMissing : MethodName := ⟨RX6, "isMissing", "()Z"⟩
abbrev cX6_isOdd : ByteArray := prog_8_method_3_code
def yX6_isOdd : MethodName := ⟨RX6, "isOdd", "()Z"⟩
abbrev cX6_remove : ByteArray := prog_8_method_4_code
def yX6_remove : MethodName := ⟨RX6, "remove", "()V"⟩
abbrev cX6_lay : ByteArray := prog_8_method_5_code
def yX6_lay : MethodName := ⟨RX6, "lay", "(II)V"⟩
abbrev cX6_hasItem : ByteArray := prog_8_method_6_code
def yX6_hasItem : MethodName := ⟨RX6, "hasItem", "(I)Z"⟩
abbrev cX6_hasRange : ByteArray := prog_8_method_7_code
def yX6_hasRange : MethodName := ⟨RX6, "hasRange", "(II)Z"⟩
abbrev cX6_itemAt : ByteArray := prog_8_method_8_code
def yX6_itemAt : MethodName := ⟨RX6, "itemAt", "(I)I"⟩
abbrev cX6_put : ByteArray := prog_8_method_9_code
def yX6_put : MethodName := ⟨RX6, "put", "(II)V"⟩
abbrev cX6_narrowed : ByteArray := prog_8_method_10_code
def yX6_narrowed : MethodName := ⟨RX6, "narrowed", "(I)I"⟩
def RX7 : String := "RingInSand$Sieve"
def TX7 : u_T := fun k => match k with
  | _ => ("RingInSand$Eyes", "number", "I", true)
def tyX7 : Nat → FieldType := fun k => match k with
  | _ => .int
abbrev wsX70 : List Cond := u_ws RX7 TX7 1
theorem nmX7 : ∀ a, a < 1 → ∀ b, b < 1 → a ≠ b → (TX7 a).2.1 ≠ (TX7 b).2.1 := by decide +kernel
theorem tyX7_ok : ∀ k, k < 1 → parseFieldDescriptor (TX7 k).2.2.1 = some (tyX7 k) := by decide +kernel
abbrev cX7_init : ByteArray := prog_9_method_1_code
def yX7_init : MethodName := ⟨RX7, "<init>", "(I)V"⟩
abbrev cX7_finds : ByteArray := prog_9_method_2_code
def yX7_finds : MethodName := ⟨RX7, "finds", "(II)I"⟩
abbrev cX7_takes : ByteArray := prog_9_method_3_code
def yX7_takes : MethodName := ⟨RX7, "takes", "()I"⟩
abbrev cX7_stamps : ByteArray := prog_9_method_4_code
def yX7_stamps : MethodName := ⟨RX7, "stamps", "()I"⟩
def RX8 : String := "RingInSand$Spade"
def TX8 : u_T := fun k => match k with
  | _ => ("RingInSand$Eyes", "number", "I", true)
def tyX8 : Nat → FieldType := fun k => match k with
  | _ => .int
abbrev wsX80 : List Cond := u_ws RX8 TX8 1
theorem nmX8 : ∀ a, a < 1 → ∀ b, b < 1 → a ≠ b → (TX8 a).2.1 ≠ (TX8 b).2.1 := by decide +kernel
theorem tyX8_ok : ∀ k, k < 1 → parseFieldDescriptor (TX8 k).2.2.1 = some (tyX8 k) := by decide +kernel
abbrev cX8_init : ByteArray := prog_10_method_1_code
def yX8_init : MethodName := ⟨RX8, "<init>", "(I)V"⟩
abbrev cX8_finds : ByteArray := prog_10_method_2_code
def yX8_finds : MethodName := ⟨RX8, "finds", "(II)I"⟩
abbrev cX8_takes : ByteArray := prog_10_method_3_code
def yX8_takes : MethodName := ⟨RX8, "takes", "()I"⟩
def RX9 : String := "RingInSand$Steps"
def TX9 : u_T := fun k => match k with
  | 0 => ("RingInSand$Steps", "cells", "[I", true)
  | 1 => ("RingInSand$Steps", "gains", "[I", true)
  | 2 => ("RingInSand$Steps", "size", "I", false)
  | 3 => ("RingInSand$Steps", "allGains", "I", false)
  | _ => ("RingInSand$Steps", "allMinutes", "I", false)
def tyX9 : Nat → FieldType := fun k => match k with
  | 0 => .array .int
  | 1 => .array .int
  | 2 => .int
  | 3 => .int
  | _ => .int
abbrev wsX90 : List Cond := u_ws RX9 TX9 5
theorem nmX9 : ∀ a, a < 5 → ∀ b, b < 5 → a ≠ b → (TX9 a).2.1 ≠ (TX9 b).2.1 := by decide +kernel
theorem tyX9_ok : ∀ k, k < 5 → parseFieldDescriptor (TX9 k).2.2.1 = some (tyX9 k) := by decide +kernel
abbrev cX9_init : ByteArray := prog_11_method_1_code
def yX9_init : MethodName := ⟨RX9, "<init>", "()V"⟩
abbrev cX9_clear : ByteArray := prog_11_method_2_code
def yX9_clear : MethodName := ⟨RX9, "clear", "()V"⟩
abbrev cX9_add : ByteArray := prog_11_method_3_code
def yX9_add : MethodName := ⟨RX9, "add", "(III)V"⟩
abbrev cX9_cellAt : ByteArray := prog_11_method_4_code
def yX9_cellAt : MethodName := ⟨RX9, "cellAt", "(I)I"⟩
abbrev cX9_sizeAheadOf : ByteArray := prog_11_method_5_code
def yX9_sizeAheadOf : MethodName := ⟨RX9, "sizeAheadOf", "(I)I"⟩
abbrev cX9_hasCell : ByteArray := prog_11_method_6_code
def yX9_hasCell : MethodName := ⟨RX9, "hasCell", "(I)Z"⟩
def RX10 : String := "RingInSand$Tape"
def TX10 : u_T := fun k => match k with
  | 0 => ("RingInSand$Tape", "bytes", "[I", true)
  | 1 => ("RingInSand$Tape", "size", "I", false)
  | 2 => ("RingInSand$Tape", "fault", "I", false)
  | 3 => ("RingInSand$Tape", "tokens", "[I", true)
  | 4 => ("RingInSand$Tape", "worths", "[I", true)
  | 5 => ("RingInSand$Tape", "places", "[I", true)
  | 6 => ("RingInSand$Tape", "tokensSize", "I", false)
  | 7 => ("RingInSand$Tape", "at", "I", false)
  | 8 => ("RingInSand$Tape", "token", "I", false)
  | 9 => ("RingInSand$Tape", "open", "I", false)
  | 10 => ("RingInSand$Tape", "code", "[I", true)
  | 11 => ("RingInSand$Tape", "codeSize", "I", false)
  | 12 => ("RingInSand$Tape", "deepEnd", "I", false)
  | _ => ("RingInSand$Tape", "seaEnd", "I", false)
def tyX10 : Nat → FieldType := fun k => match k with
  | 0 => .array .int
  | 1 => .int
  | 2 => .int
  | 3 => .array .int
  | 4 => .array .int
  | 5 => .array .int
  | 6 => .int
  | 7 => .int
  | 8 => .int
  | 9 => .int
  | 10 => .array .int
  | 11 => .int
  | 12 => .int
  | _ => .int
abbrev wsX100 : List Cond := u_ws RX10 TX10 14
theorem nmX10 : ∀ a, a < 14 → ∀ b, b < 14 → a ≠ b → (TX10 a).2.1 ≠ (TX10 b).2.1 := by decide +kernel
theorem tyX10_ok : ∀ k, k < 14 → parseFieldDescriptor (TX10 k).2.2.1 = some (tyX10 k) := by decide +kernel
abbrev cX10_init : ByteArray := prog_12_method_1_code
def yX10_init : MethodName := ⟨RX10, "<init>", "()V"⟩
abbrev cX10_append : ByteArray := prog_12_method_2_code
def yX10_append : MethodName := ⟨RX10, "append", "(I)Z"⟩
abbrev cX10_clear : ByteArray := prog_12_method_3_code
def yX10_clear : MethodName := ⟨RX10, "clear", "()V"⟩
abbrev cX10_stepAt : ByteArray := prog_12_method_4_code
def yX10_stepAt : MethodName := ⟨RX10, "stepAt", "(I)I"⟩
abbrev cX10_readText : ByteArray := prog_12_method_5_code
def yX10_readText : MethodName := ⟨RX10, "readText", "()Z"⟩
abbrev cX10_readPart : ByteArray := prog_12_method_6_code
def yX10_readPart : MethodName := ⟨RX10, "readPart", "(I)Z"⟩
abbrev cX10_readOr : ByteArray := prog_12_method_7_code
def yX10_readOr : MethodName := ⟨RX10, "readOr", "()Z"⟩
abbrev cX10_readAnd : ByteArray := prog_12_method_8_code
def yX10_readAnd : MethodName := ⟨RX10, "readAnd", "()Z"⟩
abbrev cX10_readNot : ByteArray := prog_12_method_9_code
def yX10_readNot : MethodName := ⟨RX10, "readNot", "()Z"⟩
abbrev cX10_readComparison : ByteArray := prog_12_method_10_code
def yX10_readComparison : MethodName := ⟨RX10, "readComparison", "()Z"⟩
abbrev cX10_readSum : ByteArray := prog_12_method_11_code
def yX10_readSum : MethodName := ⟨RX10, "readSum", "()Z"⟩
abbrev cX10_readTerm : ByteArray := prog_12_method_12_code
def yX10_readTerm : MethodName := ⟨RX10, "readTerm", "()Z"⟩
abbrev cX10_readOne : ByteArray := prog_12_method_13_code
def yX10_readOne : MethodName := ⟨RX10, "readOne", "()Z"⟩
abbrev cX10_readNegated : ByteArray := prog_12_method_14_code
def yX10_readNegated : MethodName := ⟨RX10, "readNegated", "()Z"⟩
abbrev cX10_readBracket : ByteArray := prog_12_method_15_code
def yX10_readBracket : MethodName := ⟨RX10, "readBracket", "()Z"⟩
abbrev cX10_enter : ByteArray := prog_12_method_16_code
def yX10_enter : MethodName := ⟨RX10, "enter", "()Z"⟩
abbrev cX10_expect : ByteArray := prog_12_method_17_code
def yX10_expect : MethodName := ⟨RX10, "expect", "(I)Z"⟩
abbrev cX10_refuse : ByteArray := prog_12_method_18_code
def yX10_refuse : MethodName := ⟨RX10, "refuse", "()Z"⟩
abbrev cX10_goTo : ByteArray := prog_12_method_19_code
def yX10_goTo : MethodName := ⟨RX10, "goTo", "(I)V"⟩
abbrev cX10_worthHere : ByteArray := prog_12_method_20_code
def yX10_worthHere : MethodName := ⟨RX10, "worthHere", "()I"⟩
abbrev cX10_emit : ByteArray := prog_12_method_21_code
def yX10_emit : MethodName := ⟨RX10, "emit", "(I)V"⟩
abbrev cX10_splitTokens : ByteArray := prog_12_method_22_code
def yX10_splitTokens : MethodName := ⟨RX10, "splitTokens", "()V"⟩
abbrev cX10_addToken : ByteArray := prog_12_method_23_code
def yX10_addToken : MethodName := ⟨RX10, "addToken", "(III)V"⟩
abbrev cX10_addNumber : ByteArray := prog_12_method_24_code
def yX10_addNumber : MethodName := ⟨RX10, "addNumber", "(II)V"⟩
abbrev cX10_addWord : ByteArray := prog_12_method_25_code
def yX10_addWord : MethodName := ⟨RX10, "addWord", "(II)V"⟩
abbrev cX10_endOfWord : ByteArray := prog_12_method_26_code
def yX10_endOfWord : MethodName := ⟨RX10, "endOfWord", "(I)I"⟩
abbrev cX10_endOfNumber : ByteArray := prog_12_method_27_code
def yX10_endOfNumber : MethodName := ⟨RX10, "endOfNumber", "(I)I"⟩
abbrev cX10_nameOf : ByteArray := prog_12_method_28_code
def yX10_nameOf : MethodName := ⟨RX10, "nameOf", "(II)I"⟩
abbrev cX10_keyOf : ByteArray := prog_12_method_29_code
def yX10_keyOf : MethodName := ⟨RX10, "keyOf", "(II)I"⟩
abbrev cX10_isWord : ByteArray := prog_12_method_30_code
def yX10_isWord : MethodName := ⟨RX10, "isWord", "(Ljava/lang/String;II)Z"⟩
abbrev cX10_byteAt : ByteArray := prog_12_method_31_code
def yX10_byteAt : MethodName := ⟨RX10, "byteAt", "(I)I"⟩
abbrev cX10_isLetter : ByteArray := prog_12_method_32_code
def yX10_isLetter : MethodName := ⟨RX10, "isLetter", "(I)Z"⟩
abbrev cX10_isDigit : ByteArray := prog_12_method_33_code
def yX10_isDigit : MethodName := ⟨RX10, "isDigit", "(I)Z"⟩
abbrev cX10_isSign : ByteArray := prog_12_method_34_code
def yX10_isSign : MethodName := ⟨RX10, "isSign", "(I)Z"⟩
def RX11 : String := "RingInSand"
def TX11 : u_T := fun k => match k with
  | 0 => ("RingInSand", "now", "LRingInSand$Beach;", true)
  | 1 => ("RingInSand", "thought", "LRingInSand$Beach;", true)
  | 2 => ("RingInSand", "kept", "LRingInSand$Beach;", true)
  | 3 => ("RingInSand", "isKept", "Z", false)
  | 4 => ("RingInSand", "party", "[LRingInSand$Eyes;", true)
  | 5 => ("RingInSand", "partySize", "I", false)
  | 6 => ("RingInSand", "tape", "LRingInSand$Tape;", true)
  | 7 => ("RingInSand", "rules", "LRingInSand$Rules;", true)
  | 8 => ("RingInSand", "steps", "LRingInSand$Steps;", true)
  | 9 => ("RingInSand", "sheets", "[LRingInSand$Sheet;", true)
  | 10 => ("RingInSand", "bestLooker", "I", false)
  | 11 => ("RingInSand", "bestCell", "I", false)
  | 12 => ("RingInSand", "bestRate", "I", false)
  | _ => ("RingInSand", "judgedGains", "I", false)
def tyX11 : Nat → FieldType := fun k => match k with
  | 0 => .object "RingInSand$Beach"
  | 1 => .object "RingInSand$Beach"
  | 2 => .object "RingInSand$Beach"
  | 3 => .boolean
  | 4 => .array (.object "RingInSand$Eyes")
  | 5 => .int
  | 6 => .object "RingInSand$Tape"
  | 7 => .object "RingInSand$Rules"
  | 8 => .object "RingInSand$Steps"
  | 9 => .array (.object "RingInSand$Sheet")
  | 10 => .int
  | 11 => .int
  | 12 => .int
  | _ => .int
abbrev wsX110 : List Cond := u_ws RX11 TX11 14
theorem nmX11 : ∀ a, a < 14 → ∀ b, b < 14 → a ≠ b → (TX11 a).2.1 ≠ (TX11 b).2.1 := by decide +kernel
theorem tyX11_ok : ∀ k, k < 14 → parseFieldDescriptor (TX11 k).2.2.1 = some (tyX11 k) := by decide +kernel
abbrev cX11_init : ByteArray := prog_1_method_1_code
def yX11_init : MethodName := ⟨RX11, "<init>", "()V"⟩
abbrev cX11_set : ByteArray := prog_1_method_2_code
def yX11_set : MethodName := ⟨RX11, "set", "(III)I"⟩
abbrev cX11_told : ByteArray := prog_1_method_3_code
def yX11_told : MethodName := ⟨RX11, "told", "(II)I"⟩
abbrev cX11_looker : ByteArray := prog_1_method_4_code
def yX11_looker : MethodName := ⟨RX11, "looker", "(II)I"⟩
abbrev cX11_asks : ByteArray := prog_1_method_5_code
def yX11_asks : MethodName := ⟨RX11, "asks", "(III)I"⟩
abbrev cX11_feed : ByteArray := prog_1_method_6_code
def yX11_feed : MethodName := ⟨RX11, "feed", "(I)I"⟩
abbrev cX11_text : ByteArray := prog_1_method_7_code
def yX11_text : MethodName := ⟨RX11, "text", "()I"⟩
abbrev cX11_force : ByteArray := prog_1_method_8_code
def yX11_force : MethodName := ⟨RX11, "force", "(I)I"⟩
abbrev cX11_look : ByteArray := prog_1_method_9_code
def yX11_look : MethodName := ⟨RX11, "look", "(II)I"⟩
abbrev cX11_next : ByteArray := prog_1_method_10_code
def yX11_next : MethodName := ⟨RX11, "next", "(I)I"⟩
abbrev cX11_plan : ByteArray := prog_1_method_11_code
def yX11_plan : MethodName := ⟨RX11, "plan", "(II)I"⟩
abbrev cX11_planned : ByteArray := prog_1_method_12_code
def yX11_planned : MethodName := ⟨RX11, "planned", "(I)I"⟩
abbrev cX11_search : ByteArray := prog_1_method_13_code
def yX11_search : MethodName := ⟨RX11, "search", "()I"⟩
abbrev cX11_giveUp : ByteArray := prog_1_method_14_code
def yX11_giveUp : MethodName := ⟨RX11, "giveUp", "(I)I"⟩
abbrev cX11_likely : ByteArray := prog_1_method_15_code
def yX11_likely : MethodName := ⟨RX11, "likely", "(II)J"⟩
abbrev cX11_here : ByteArray := prog_1_method_16_code
def yX11_here : MethodName := ⟨RX11, "here", "(I)J"⟩
abbrev cX11_most : ByteArray := prog_1_method_17_code
def yX11_most : MethodName := ⟨RX11, "most", "(I)I"⟩
abbrev cX11_under : ByteArray := prog_1_method_18_code
def yX11_under : MethodName := ⟨RX11, "under", "(I)I"⟩
abbrev cX11_drowned : ByteArray := prog_1_method_19_code
def yX11_drowned : MethodName := ⟨RX11, "drowned", "(I)I"⟩
abbrev cX11_seen : ByteArray := prog_1_method_20_code
def yX11_seen : MethodName := ⟨RX11, "seen", "(II)I"⟩
abbrev cX11_crowd : ByteArray := prog_1_method_21_code
def yX11_crowd : MethodName := ⟨RX11, "crowd", "(III)I"⟩
abbrev cX11_judge : ByteArray := prog_1_method_22_code
def yX11_judge : MethodName := ⟨RX11, "judge", "(I)I"⟩
abbrev cX11_found : ByteArray := prog_1_method_23_code
def yX11_found : MethodName := ⟨RX11, "found", "(II)J"⟩
abbrev cX11_drawn : ByteArray := prog_1_method_24_code
def yX11_drawn : MethodName := ⟨RX11, "drawn", "(I)I"⟩
abbrev cX11_foundBy : ByteArray := prog_1_method_25_code
def yX11_foundBy : MethodName := ⟨RX11, "foundBy", "(II)I"⟩
abbrev cX11_image : ByteArray := prog_1_method_26_code
def yX11_image : MethodName := ⟨RX11, "image", "()I"⟩
abbrev cX11_back : ByteArray := prog_1_method_27_code
def yX11_back : MethodName := ⟨RX11, "back", "()I"⟩
abbrev cX11_count : ByteArray := prog_1_method_28_code
def yX11_count : MethodName := ⟨RX11, "count", "(I)I"⟩
abbrev cX11_sheet : ByteArray := prog_1_method_29_code
def yX11_sheet : MethodName := ⟨RX11, "sheet", "(III)I"⟩
abbrev cX11_cell : ByteArray := prog_1_method_30_code
def yX11_cell : MethodName := ⟨RX11, "cell", "(III)I"⟩
abbrev cX11_copy : ByteArray := prog_1_method_31_code
def yX11_copy : MethodName := ⟨RX11, "copy", "(IIIII)I"⟩
abbrev cX11_lookers : ByteArray := prog_1_method_32_code
def yX11_lookers : MethodName := ⟨RX11, "lookers", "(IIII)I"⟩
abbrev cX11_taken : ByteArray := prog_1_method_33_code
def yX11_taken : MethodName := ⟨RX11, "taken", "(II)I"⟩
abbrev cX11_isWithin : ByteArray := prog_1_method_34_code
def yX11_isWithin : MethodName := ⟨RX11, "isWithin", "(III)Z"⟩
abbrev cX11_bounded : ByteArray := prog_1_method_35_code
def yX11_bounded : MethodName := ⟨RX11, "bounded", "(III)I"⟩
abbrev cX11_isCell : ByteArray := prog_1_method_36_code
def yX11_isCell : MethodName := ⟨RX11, "isCell", "(I)Z"⟩
abbrev cX11_lookerAt : ByteArray := prog_1_method_37_code
def yX11_lookerAt : MethodName := ⟨RX11, "lookerAt", "(I)LRingInSand$Eyes;"⟩
abbrev cX11_sheetAt : ByteArray := prog_1_method_38_code
def yX11_sheetAt : MethodName := ⟨RX11, "sheetAt", "(I)LRingInSand$Sheet;"⟩
abbrev cX11_partOfQuotient : ByteArray := prog_1_method_39_code
def yX11_partOfQuotient : MethodName := ⟨RX11, "partOfQuotient", "(JJI)J"⟩
abbrev cX11_greatestDivisor : ByteArray := prog_1_method_40_code
def yX11_greatestDivisor : MethodName := ⟨RX11, "greatestDivisor", "(JJ)J"⟩
abbrev cX11_changeOdds : ByteArray := prog_1_method_41_code
def yX11_changeOdds : MethodName := ⟨RX11, "changeOdds", "(II)I"⟩
abbrev cX11_changeTreads : ByteArray := prog_1_method_42_code
def yX11_changeTreads : MethodName := ⟨RX11, "changeTreads", "(II)I"⟩
abbrev cX11_changeBag : ByteArray := prog_1_method_43_code
def yX11_changeBag : MethodName := ⟨RX11, "changeBag", "(I)I"⟩
abbrev cX11_changeHour : ByteArray := prog_1_method_44_code
def yX11_changeHour : MethodName := ⟨RX11, "changeHour", "(I)I"⟩
abbrev cX11_changeMinutes : ByteArray := prog_1_method_45_code
def yX11_changeMinutes : MethodName := ⟨RX11, "changeMinutes", "(I)I"⟩
abbrev cX11_ofKind : ByteArray := prog_1_method_46_code
def yX11_ofKind : MethodName := ⟨RX11, "ofKind", "(II)LRingInSand$Eyes;"⟩
abbrev cX11_isOfKind : ByteArray := prog_1_method_47_code
def yX11_isOfKind : MethodName := ⟨RX11, "isOfKind", "(LRingInSand$Eyes;I)Z"⟩
abbrev cX11_goodHere : ByteArray := prog_1_method_48_code
def yX11_goodHere : MethodName := ⟨RX11, "goodHere", "(LRingInSand$Eyes;)I"⟩
abbrev cX11_takesOf : ByteArray := prog_1_method_49_code
def yX11_takesOf : MethodName := ⟨RX11, "takesOf", "(LRingInSand$Eyes;)I"⟩
abbrev cX11_stampsOf : ByteArray := prog_1_method_50_code
def yX11_stampsOf : MethodName := ⟨RX11, "stampsOf", "(LRingInSand$Eyes;)I"⟩
abbrev cX11_gainOf : ByteArray := prog_1_method_51_code
def yX11_gainOf : MethodName := ⟨RX11, "gainOf", "(II)I"⟩
abbrev cX11_rateOf : ByteArray := prog_1_method_52_code
def yX11_rateOf : MethodName := ⟨RX11, "rateOf", "(II)I"⟩
abbrev cX11_gainByLook : ByteArray := prog_1_method_53_code
def yX11_gainByLook : MethodName := ⟨RX11, "gainByLook", "(LRingInSand$Beach;LRingInSand$Eyes;I)I"⟩
abbrev cX11_choose : ByteArray := prog_1_method_54_code
def yX11_choose : MethodName := ⟨RX11, "choose", "(LRingInSand$Beach;)Z"⟩
abbrev cX11_weighParty : ByteArray := prog_1_method_55_code
def yX11_weighParty : MethodName := ⟨RX11, "weighParty", "(II)V"⟩
abbrev cX11_makePlan : ByteArray := prog_1_method_56_code
def yX11_makePlan : MethodName := ⟨RX11, "makePlan", "(I)V"⟩
abbrev cX11_firstWrongRow : ByteArray := prog_1_method_57_code
def yX11_firstWrongRow : MethodName := ⟨RX11, "firstWrongRow", "(LRingInSand$Sheet;)I"⟩
abbrev cX11_isWetAt : ByteArray := prog_1_method_58_code
def yX11_isWetAt : MethodName := ⟨RX11, "isWetAt", "(II)Z"⟩
abbrev cX11_oddsUnderWater : ByteArray := prog_1_method_59_code
def yX11_oddsUnderWater : MethodName := ⟨RX11, "oddsUnderWater", "(I)I"⟩
abbrev cX11_hourOfMostDrowned : ByteArray := prog_1_method_60_code
def yX11_hourOfMostDrowned : MethodName := ⟨RX11, "hourOfMostDrowned", "()I"⟩
abbrev cX11_tellsCellsAlone : ByteArray := prog_1_method_61_code
def yX11_tellsCellsAlone : MethodName := ⟨RX11, "tellsCellsAlone", "(LRingInSand$Sheet;)Z"⟩
abbrev cX11_addPicture : ByteArray := prog_1_method_62_code
def yX11_addPicture : MethodName := ⟨RX11, "addPicture", "(II)V"⟩
def RX12 : String := "RingInSandModel"
def TX12 : u_T := fun k => match k with
  | 0 => ("RingInSandModel", "thrown", "I", false)
  | 1 => ("RingInSandModel", "texts", "[I", true)
  | 2 => ("RingInSandModel", "textSize", "[I", true)
  | 3 => ("RingInSandModel", "textCount", "I", false)
  | 4 => ("RingInSandModel", "rule", "I", false)
  | 5 => ("RingInSandModel", "tape", "[I", true)
  | 6 => ("RingInSandModel", "taped", "I", false)
  | 7 => ("RingInSandModel", "odds", "[I", true)
  | 8 => ("RingInSandModel", "treads", "[I", true)
  | 9 => ("RingInSandModel", "bag", "I", false)
  | 10 => ("RingInSandModel", "hour", "I", false)
  | 11 => ("RingInSandModel", "minute", "I", false)
  | 12 => ("RingInSandModel", "kinds", "[I", true)
  | 13 => ("RingInSandModel", "numbers", "[I", true)
  | 14 => ("RingInSandModel", "many", "I", false)
  | 15 => ("RingInSandModel", "ofY", "I", false)
  | 16 => ("RingInSandModel", "ofX", "I", false)
  | 17 => ("RingInSandModel", "ofDepth", "I", false)
  | 18 => ("RingInSandModel", "ofTrod", "I", false)
  | 19 => ("RingInSandModel", "ofHour", "I", false)
  | 20 => ("RingInSandModel", "ofSun", "I", false)
  | 21 => ("RingInSandModel", "from", "I", false)
  | 22 => ("RingInSandModel", "size", "I", false)
  | 23 => ("RingInSandModel", "here", "I", false)
  | 24 => ("RingInSandModel", "token", "I", false)
  | 25 => ("RingInSandModel", "tokenAt", "I", false)
  | 26 => ("RingInSandModel", "tokenWorth", "J", false)
  | 27 => ("RingInSandModel", "open", "I", false)
  | 28 => ("RingInSandModel", "bad", "Z", false)
  | 29 => ("RingInSandModel", "fault", "I", false)
  | 30 => ("RingInSandModel", "bestLooker", "I", false)
  | 31 => ("RingInSandModel", "bestCell", "I", false)
  | 32 => ("RingInSandModel", "bestPer", "I", false)
  | 33 => ("RingInSandModel", "firstPer", "[I", true)
  | 34 => ("RingInSandModel", "firstCell", "[I", true)
  | 35 => ("RingInSandModel", "oddsWas", "[I", true)
  | 36 => ("RingInSandModel", "treadsWas", "[I", true)
  | 37 => ("RingInSandModel", "hourWas", "I", false)
  | 38 => ("RingInSandModel", "minuteWas", "I", false)
  | 39 => ("RingInSandModel", "planCell", "[I", true)
  | 40 => ("RingInSandModel", "planGain", "[I", true)
  | 41 => ("RingInSandModel", "planLooks", "I", false)
  | 42 => ("RingInSandModel", "planTakes", "I", false)
  | 43 => ("RingInSandModel", "judgedGain", "I", false)
  | 44 => ("RingInSandModel", "oddsKept", "[I", true)
  | 45 => ("RingInSandModel", "treadsKept", "[I", true)
  | 46 => ("RingInSandModel", "hourKept", "I", false)
  | 47 => ("RingInSandModel", "minuteKept", "I", false)
  | 48 => ("RingInSandModel", "bagKept", "I", false)
  | 49 => ("RingInSandModel", "ruleKept", "I", false)
  | 50 => ("RingInSandModel", "isThere", "[Z", true)
  | 51 => ("RingInSandModel", "sorts", "[I", true)
  | 52 => ("RingInSandModel", "sheetSize", "[I", true)
  | _ => ("RingInSandModel", "items", "[I", true)
def tyX12 : Nat → FieldType := fun k => match k with
  | 0 => .int
  | 1 => .array .int
  | 2 => .array .int
  | 3 => .int
  | 4 => .int
  | 5 => .array .int
  | 6 => .int
  | 7 => .array .int
  | 8 => .array .int
  | 9 => .int
  | 10 => .int
  | 11 => .int
  | 12 => .array .int
  | 13 => .array .int
  | 14 => .int
  | 15 => .int
  | 16 => .int
  | 17 => .int
  | 18 => .int
  | 19 => .int
  | 20 => .int
  | 21 => .int
  | 22 => .int
  | 23 => .int
  | 24 => .int
  | 25 => .int
  | 26 => .long
  | 27 => .int
  | 28 => .boolean
  | 29 => .int
  | 30 => .int
  | 31 => .int
  | 32 => .int
  | 33 => .array .int
  | 34 => .array .int
  | 35 => .array .int
  | 36 => .array .int
  | 37 => .int
  | 38 => .int
  | 39 => .array .int
  | 40 => .array .int
  | 41 => .int
  | 42 => .int
  | 43 => .int
  | 44 => .array .int
  | 45 => .array .int
  | 46 => .int
  | 47 => .int
  | 48 => .int
  | 49 => .int
  | 50 => .array .boolean
  | 51 => .array .int
  | 52 => .array .int
  | _ => .array .int
abbrev wsX120 : List Cond := u_ws RX12 TX12 54
theorem nmX12 : ∀ a, a < 54 → ∀ b, b < 54 → a ≠ b → (TX12 a).2.1 ≠ (TX12 b).2.1 := by decide +kernel
theorem tyX12_ok : ∀ k, k < 54 → parseFieldDescriptor (TX12 k).2.2.1 = some (tyX12 k) := by decide +kernel
abbrev cX12_in : ByteArray := prog_14_method_2_code
def yX12_in : MethodName := ⟨RX12, "in", "(JJJ)Z"⟩
abbrev cX12_within : ByteArray := prog_14_method_3_code
def yX12_within : MethodName := ⟨RX12, "within", "(III)I"⟩
abbrev cX12_init : ByteArray := prog_14_method_4_code
def yX12_init : MethodName := ⟨RX12, "<init>", "()V"⟩
abbrev cX12_spell : ByteArray := prog_14_method_5_code
def yX12_spell : MethodName := ⟨RX12, "spell", "(IIIIIIIII)V"⟩
abbrev cX12_isCell : ByteArray := prog_14_method_6_code
def yX12_isCell : MethodName := ⟨RX12, "isCell", "(I)Z"⟩
abbrev cX12_isLooker : ByteArray := prog_14_method_7_code
def yX12_isLooker : MethodName := ⟨RX12, "isLooker", "(I)Z"⟩
abbrev cX12_set : ByteArray := prog_14_method_8_code
def yX12_set : MethodName := ⟨RX12, "set", "(III)I"⟩
abbrev cX12_looker : ByteArray := prog_14_method_9_code
def yX12_looker : MethodName := ⟨RX12, "looker", "(II)I"⟩
abbrev cX12_feed : ByteArray := prog_14_method_10_code
def yX12_feed : MethodName := ⟨RX12, "feed", "(I)I"⟩
abbrev cX12_byteAt : ByteArray := prog_14_method_11_code
def yX12_byteAt : MethodName := ⟨RX12, "byteAt", "(I)I"⟩
abbrev cX12_nextToken : ByteArray := prog_14_method_12_code
def yX12_nextToken : MethodName := ⟨RX12, "nextToken", "()V"⟩
abbrev cX12_fail : ByteArray := prog_14_method_13_code
def yX12_fail : MethodName := ⟨RX12, "fail", "()V"⟩
abbrev cX12_isLetter : ByteArray := prog_14_method_14_code
def yX12_isLetter : MethodName := ⟨RX12, "isLetter", "(II)Z"⟩
abbrev cX12_isWord : ByteArray := prog_14_method_15_code
def yX12_isWord : MethodName := ⟨RX12, "isWord", "(IIIIIIII)Z"⟩
abbrev cX12_isSign : ByteArray := prog_14_method_16_code
def yX12_isSign : MethodName := ⟨RX12, "isSign", "(I)Z"⟩
abbrev cX12_opens : ByteArray := prog_14_method_17_code
def yX12_opens : MethodName := ⟨RX12, "opens", "()Z"⟩
abbrev cX12_name : ByteArray := prog_14_method_18_code
def yX12_name : MethodName := ⟨RX12, "name", "()I"⟩
abbrev cX12_atom : ByteArray := prog_14_method_19_code
def yX12_atom : MethodName := ⟨RX12, "atom", "()I"⟩
abbrev cX12_term : ByteArray := prog_14_method_20_code
def yX12_term : MethodName := ⟨RX12, "term", "()I"⟩
abbrev cX12_added : ByteArray := prog_14_method_21_code
def yX12_added : MethodName := ⟨RX12, "added", "()I"⟩
abbrev cX12_not : ByteArray := prog_14_method_22_code
def yX12_not : MethodName := ⟨RX12, "not", "()I"⟩
abbrev cX12_both : ByteArray := prog_14_method_23_code
def yX12_both : MethodName := ⟨RX12, "both", "()I"⟩
abbrev cX12_either : ByteArray := prog_14_method_24_code
def yX12_either : MethodName := ⟨RX12, "either", "()I"⟩
abbrev cX12_part : ByteArray := prog_14_method_25_code
def yX12_part : MethodName := ⟨RX12, "part", "(Z)I"⟩
abbrev cX12_read : ByteArray := prog_14_method_26_code
def yX12_read : MethodName := ⟨RX12, "read", "(II)I"⟩
abbrev cX12_text : ByteArray := prog_14_method_27_code
def yX12_text : MethodName := ⟨RX12, "text", "()I"⟩
abbrev cX12_force : ByteArray := prog_14_method_28_code
def yX12_force : MethodName := ⟨RX12, "force", "(I)I"⟩
abbrev cX12_says : ByteArray := prog_14_method_29_code
def yX12_says : MethodName := ⟨RX12, "says", "(III)I"⟩
abbrev cX12_deep : ByteArray := prog_14_method_30_code
def yX12_deep : MethodName := ⟨RX12, "deep", "(I)I"⟩
abbrev cX12_isUnder : ByteArray := prog_14_method_31_code
def yX12_isUnder : MethodName := ⟨RX12, "isUnder", "(I)Z"⟩
abbrev cX12_shine : ByteArray := prog_14_method_32_code
def yX12_shine : MethodName := ⟨RX12, "shine", "(I)I"⟩
abbrev cX12_told : ByteArray := prog_14_method_33_code
def yX12_told : MethodName := ⟨RX12, "told", "(II)I"⟩
abbrev cX12_finds : ByteArray := prog_14_method_34_code
def yX12_finds : MethodName := ⟨RX12, "finds", "(III)I"⟩
abbrev cX12_takes : ByteArray := prog_14_method_35_code
def yX12_takes : MethodName := ⟨RX12, "takes", "(I)I"⟩
abbrev cX12_stamps : ByteArray := prog_14_method_36_code
def yX12_stamps : MethodName := ⟨RX12, "stamps", "(I)I"⟩
abbrev cX12_good : ByteArray := prog_14_method_37_code
def yX12_good : MethodName := ⟨RX12, "good", "(II)I"⟩
abbrev cX12_gain : ByteArray := prog_14_method_38_code
def yX12_gain : MethodName := ⟨RX12, "gain", "(II)I"⟩
abbrev cX12_asks : ByteArray := prog_14_method_39_code
def yX12_asks : MethodName := ⟨RX12, "asks", "(III)I"⟩
abbrev cX12_looks : ByteArray := prog_14_method_40_code
def yX12_looks : MethodName := ⟨RX12, "looks", "(II)V"⟩
abbrev cX12_look : ByteArray := prog_14_method_41_code
def yX12_look : MethodName := ⟨RX12, "look", "(II)I"⟩
abbrev cX12_best : ByteArray := prog_14_method_42_code
def yX12_best : MethodName := ⟨RX12, "best", "()V"⟩
abbrev cX12_next : ByteArray := prog_14_method_43_code
def yX12_next : MethodName := ⟨RX12, "next", "(I)I"⟩
abbrev cX12_search : ByteArray := prog_14_method_44_code
def yX12_search : MethodName := ⟨RX12, "search", "()I"⟩
abbrev cX12_laysAside : ByteArray := prog_14_method_45_code
def yX12_laysAside : MethodName := ⟨RX12, "laysAside", "()V"⟩
abbrev cX12_laysBack : ByteArray := prog_14_method_46_code
def yX12_laysBack : MethodName := ⟨RX12, "laysBack", "()V"⟩
abbrev cX12_plans : ByteArray := prog_14_method_47_code
def yX12_plans : MethodName := ⟨RX12, "plans", "(I)V"⟩
abbrev cX12_plan : ByteArray := prog_14_method_48_code
def yX12_plan : MethodName := ⟨RX12, "plan", "(II)I"⟩
abbrev cX12_planned : ByteArray := prog_14_method_49_code
def yX12_planned : MethodName := ⟨RX12, "planned", "(I)I"⟩
abbrev cX12_giveUp : ByteArray := prog_14_method_50_code
def yX12_giveUp : MethodName := ⟨RX12, "giveUp", "(I)I"⟩
abbrev cX12_onCells : ByteArray := prog_14_method_51_code
def yX12_onCells : MethodName := ⟨RX12, "onCells", "()I"⟩
abbrev cX12_lowest : ByteArray := prog_14_method_52_code
def yX12_lowest : MethodName := ⟨RX12, "lowest", "(JJI)J"⟩
abbrev cX12_likely : ByteArray := prog_14_method_53_code
def yX12_likely : MethodName := ⟨RX12, "likely", "(II)J"⟩
abbrev cX12_here : ByteArray := prog_14_method_54_code
def yX12_here : MethodName := ⟨RX12, "here", "(I)J"⟩
abbrev cX12_most : ByteArray := prog_14_method_55_code
def yX12_most : MethodName := ⟨RX12, "most", "(I)I"⟩
abbrev cX12_under : ByteArray := prog_14_method_56_code
def yX12_under : MethodName := ⟨RX12, "under", "(I)I"⟩
abbrev cX12_drownedNow : ByteArray := prog_14_method_57_code
def yX12_drownedNow : MethodName := ⟨RX12, "drownedNow", "()I"⟩
abbrev cX12_drowned : ByteArray := prog_14_method_58_code
def yX12_drowned : MethodName := ⟨RX12, "drowned", "(I)I"⟩
abbrev cX12_more : ByteArray := prog_14_method_59_code
def yX12_more : MethodName := ⟨RX12, "more", "(II)V"⟩
abbrev cX12_seen : ByteArray := prog_14_method_60_code
def yX12_seen : MethodName := ⟨RX12, "seen", "(II)I"⟩
abbrev cX12_crowd : ByteArray := prog_14_method_61_code
def yX12_crowd : MethodName := ⟨RX12, "crowd", "(III)I"⟩
abbrev cX12_judges : ByteArray := prog_14_method_62_code
def yX12_judges : MethodName := ⟨RX12, "judges", "(I)I"⟩
abbrev cX12_judge : ByteArray := prog_14_method_63_code
def yX12_judge : MethodName := ⟨RX12, "judge", "(I)I"⟩
abbrev cX12_found : ByteArray := prog_14_method_64_code
def yX12_found : MethodName := ⟨RX12, "found", "(II)J"⟩
abbrev cX12_drawn : ByteArray := prog_14_method_65_code
def yX12_drawn : MethodName := ⟨RX12, "drawn", "(I)I"⟩
abbrev cX12_foundBy : ByteArray := prog_14_method_66_code
def yX12_foundBy : MethodName := ⟨RX12, "foundBy", "(II)I"⟩
abbrev cX12_image : ByteArray := prog_14_method_67_code
def yX12_image : MethodName := ⟨RX12, "image", "()I"⟩
abbrev cX12_back : ByteArray := prog_14_method_68_code
def yX12_back : MethodName := ⟨RX12, "back", "()I"⟩
abbrev cX12_count : ByteArray := prog_14_method_69_code
def yX12_count : MethodName := ⟨RX12, "count", "(I)I"⟩
abbrev cX12_isSheet : ByteArray := prog_14_method_70_code
def yX12_isSheet : MethodName := ⟨RX12, "isSheet", "(I)Z"⟩
abbrev cX12_sheet : ByteArray := prog_14_method_71_code
def yX12_sheet : MethodName := ⟨RX12, "sheet", "(III)I"⟩
abbrev cX12_cell : ByteArray := prog_14_method_72_code
def yX12_cell : MethodName := ⟨RX12, "cell", "(III)I"⟩
abbrev cX12_copy : ByteArray := prog_14_method_73_code
def yX12_copy : MethodName := ⟨RX12, "copy", "(IIIII)I"⟩
abbrev cX12_lookers : ByteArray := prog_14_method_74_code
def yX12_lookers : MethodName := ⟨RX12, "lookers", "(IIII)I"⟩
abbrev cX12_over : ByteArray := prog_14_method_75_code
def yX12_over : MethodName := ⟨RX12, "over", "(I)I"⟩
abbrev cX12_taken : ByteArray := prog_14_method_76_code
def yX12_taken : MethodName := ⟨RX12, "taken", "(II)I"⟩
def RJx145de : String := "java/io/Serializable"
def TJx145de : u_T := fun k => match k with
  | _ => ("", "", "", false)
def tyJx145de : Nat → FieldType := fun k => match k with
  | _ => .int
theorem nmJx145de : ∀ a, a < 0 → ∀ b, b < 0 → a ≠ b → (TJx145de a).2.1 ≠ (TJx145de b).2.1 := by decide +kernel
theorem tyJx145de_ok : ∀ k, k < 0 → parseFieldDescriptor (TJx145de k).2.2.1 = some (tyJx145de k) := by decide +kernel
def RJx9f9b0 : String := "java/lang/CharSequence"
def TJx9f9b0 : u_T := fun k => match k with
  | _ => ("", "", "", false)
def tyJx9f9b0 : Nat → FieldType := fun k => match k with
  | _ => .int
theorem nmJx9f9b0 : ∀ a, a < 0 → ∀ b, b < 0 → a ≠ b → (TJx9f9b0 a).2.1 ≠ (TJx9f9b0 b).2.1 := by decide +kernel
theorem tyJx9f9b0_ok : ∀ k, k < 0 → parseFieldDescriptor (TJx9f9b0 k).2.2.1 = some (tyJx9f9b0 k) := by decide +kernel
def RJxb160c : String := "java/lang/Comparable"
def TJxb160c : u_T := fun k => match k with
  | _ => ("", "", "", false)
def tyJxb160c : Nat → FieldType := fun k => match k with
  | _ => .int
theorem nmJxb160c : ∀ a, a < 0 → ∀ b, b < 0 → a ≠ b → (TJxb160c a).2.1 ≠ (TJxb160c b).2.1 := by decide +kernel
theorem tyJxb160c_ok : ∀ k, k < 0 → parseFieldDescriptor (TJxb160c k).2.2.1 = some (tyJxb160c k) := by decide +kernel
def RJ9 : String := "java/lang/Math"
def TJ9 : u_T := fun k => match k with
  | _ => ("", "", "", false)
def tyJ9 : Nat → FieldType := fun k => match k with
  | _ => .int
theorem nmJ9 : ∀ a, a < 0 → ∀ b, b < 0 → a ≠ b → (TJ9 a).2.1 ≠ (TJ9 b).2.1 := by decide +kernel
theorem tyJ9_ok : ∀ k, k < 0 → parseFieldDescriptor (TJ9 k).2.2.1 = some (tyJ9 k) := by decide +kernel
abbrev cJ9_abs_0f7a4 : ByteArray := prog_15_method_59_code
def yJ9_abs_0f7a4 : MethodName := ⟨RJ9, "abs", "(I)I"⟩
abbrev cJ9_max_7cf53 : ByteArray := prog_15_method_65_code
def yJ9_max_7cf53 : MethodName := ⟨RJ9, "max", "(II)I"⟩
abbrev cJ9_min_7cf53 : ByteArray := prog_15_method_69_code
def yJ9_min_7cf53 : MethodName := ⟨RJ9, "min", "(II)I"⟩
def RJ0 : String := "java/lang/String"
def TJ0 : u_T := fun k => match k with
  | _ => ("", "", "", false)
def tyJ0 : Nat → FieldType := fun k => match k with
  | _ => .int
theorem nmJ0 : ∀ a, a < 0 → ∀ b, b < 0 → a ≠ b → (TJ0 a).2.1 ≠ (TJ0 b).2.1 := by decide +kernel
theorem tyJ0_ok : ∀ k, k < 0 → parseFieldDescriptor (TJ0 k).2.2.1 = some (tyJ0 k) := by decide +kernel
abbrev cJ0_length_8abf5 : ByteArray := prog_16_method_54_code
def yJ0_length_8abf5 : MethodName := ⟨RJ0, "length", "()I"⟩
abbrev cJ0_charAt_5068e : ByteArray := prog_16_method_56_code
def yJ0_charAt_5068e : MethodName := ⟨RJ0, "charAt", "(I)C"⟩
abbrev cJ0_coder_7d493 : ByteArray := prog_16_method_152_code
def yJ0_coder_7d493 : MethodName := ⟨RJ0, "coder", "()B"⟩
abbrev cJ0_isLatin1_aae02 : ByteArray := prog_16_method_154_code
def yJ0_isLatin1_aae02 : MethodName := ⟨RJ0, "isLatin1", "()Z"⟩
abbrev cJ0_checkIndex_df160 : ByteArray := prog_16_method_155_code
def yJ0_checkIndex_df160 : MethodName := ⟨RJ0, "checkIndex", "(II)V"⟩
def RJ1 : String := "java/lang/StringLatin1"
def TJ1 : u_T := fun k => match k with
  | _ => ("", "", "", false)
def tyJ1 : Nat → FieldType := fun k => match k with
  | _ => .int
theorem nmJ1 : ∀ a, a < 0 → ∀ b, b < 0 → a ≠ b → (TJ1 a).2.1 ≠ (TJ1 b).2.1 := by decide +kernel
theorem tyJ1_ok : ∀ k, k < 0 → parseFieldDescriptor (TJ1 k).2.2.1 = some (tyJ1 k) := by decide +kernel
abbrev cJ1_charAt_3b067 : ByteArray := prog_17_method_2_code
def yJ1_charAt_3b067 : MethodName := ⟨RJ1, "charAt", "([BI)C"⟩
def RJ2 : String := "java/lang/StringUTF16"
def TJ2 : u_T := fun k => match k with
  | _ => ("", "", "", false)
def tyJ2 : Nat → FieldType := fun k => match k with
  | _ => .int
theorem nmJ2 : ∀ a, a < 0 → ∀ b, b < 0 → a ≠ b → (TJ2 a).2.1 ≠ (TJ2 b).2.1 := by decide +kernel
theorem tyJ2_ok : ∀ k, k < 0 → parseFieldDescriptor (TJ2 k).2.2.1 = some (tyJ2 k) := by decide +kernel
abbrev cJ2_getChar_3b067 : ByteArray := prog_18_method_5_code
def yJ2_getChar_3b067 : MethodName := ⟨RJ2, "getChar", "([BI)C"⟩
abbrev cJ2_length_9d52b : ByteArray := prog_18_method_6_code
def yJ2_length_9d52b : MethodName := ⟨RJ2, "length", "([B)I"⟩
abbrev cJ2_charAt_3b067 : ByteArray := prog_18_method_83_code
def yJ2_charAt_3b067 : MethodName := ⟨RJ2, "charAt", "([BI)C"⟩
abbrev cJ2_checkIndex_2214a : ByteArray := prog_18_method_91_code
def yJ2_checkIndex_2214a : MethodName := ⟨RJ2, "checkIndex", "(I[B)V"⟩
def RJ10 : String := "java/lang/System"
def TJ10 : u_T := fun k => match k with
  | _ => ("", "", "", false)
def tyJ10 : Nat → FieldType := fun k => match k with
  | _ => .int
theorem nmJ10 : ∀ a, a < 0 → ∀ b, b < 0 → a ≠ b → (TJ10 a).2.1 ≠ (TJ10 b).2.1 := by decide +kernel
theorem tyJ10_ok : ∀ k, k < 0 → parseFieldDescriptor (TJ10 k).2.2.1 = some (tyJ10 k) := by decide +kernel
def RJxfd54e : String := "java/lang/constant/Constable"
def TJxfd54e : u_T := fun k => match k with
  | _ => ("", "", "", false)
def tyJxfd54e : Nat → FieldType := fun k => match k with
  | _ => .int
theorem nmJxfd54e : ∀ a, a < 0 → ∀ b, b < 0 → a ≠ b → (TJxfd54e a).2.1 ≠ (TJxfd54e b).2.1 := by decide +kernel
theorem tyJxfd54e_ok : ∀ k, k < 0 → parseFieldDescriptor (TJxfd54e k).2.2.1 = some (tyJxfd54e k) := by decide +kernel
def RJx3cf43 : String := "java/lang/constant/ConstantDesc"
def TJx3cf43 : u_T := fun k => match k with
  | _ => ("", "", "", false)
def tyJx3cf43 : Nat → FieldType := fun k => match k with
  | _ => .int
theorem nmJx3cf43 : ∀ a, a < 0 → ∀ b, b < 0 → a ≠ b → (TJx3cf43 a).2.1 ≠ (TJx3cf43 b).2.1 := by decide +kernel
theorem tyJx3cf43_ok : ∀ k, k < 0 → parseFieldDescriptor (TJx3cf43 k).2.2.1 = some (tyJx3cf43 k) := by decide +kernel
def RJ7 : String := "java/util/Arrays"
def TJ7 : u_T := fun k => match k with
  | _ => ("", "", "", false)
def tyJ7 : Nat → FieldType := fun k => match k with
  | _ => .int
theorem nmJ7 : ∀ a, a < 0 → ∀ b, b < 0 → a ≠ b → (TJ7 a).2.1 ≠ (TJ7 b).2.1 := by decide +kernel
theorem tyJ7_ok : ∀ k, k < 0 → parseFieldDescriptor (TJ7 k).2.2.1 = some (tyJ7 k) := by decide +kernel
abbrev cJ7_fill_53178 : ByteArray := prog_20_method_103_code
def yJ7_fill_53178 : MethodName := ⟨RJ7, "fill", "([II)V"⟩
def RJ3 : String := "jdk/internal/util/Preconditions"
def TJ3 : u_T := fun k => match k with
  | _ => ("", "", "", false)
def tyJ3 : Nat → FieldType := fun k => match k with
  | _ => .int
theorem nmJ3 : ∀ a, a < 0 → ∀ b, b < 0 → a ≠ b → (TJ3 a).2.1 ≠ (TJ3 b).2.1 := by decide +kernel
theorem tyJ3_ok : ∀ k, k < 0 → parseFieldDescriptor (TJ3 k).2.2.1 = some (tyJ3 k) := by decide +kernel
abbrev cJ3_checkIndex_8e157 : ByteArray := prog_21_method_11_code
def yJ3_checkIndex_8e157 : MethodName := ⟨RJ3, "checkIndex", "(IILjava/util/function/BiFunction;)I"⟩
def RL : String := "RingInSandLaw"
abbrev cL_law : ByteArray := code
def yL_law : MethodName := ⟨RL, "law", "([I)Z"⟩
abbrev vwCl : List vw_C := [(RX0, TX0, 6), (RX1, TX1, 1), (RX2, TX2, 1), (RX3, TX3, 1), (RX4, TX4, 1), (RX5, TX5, 13), (RX6, TX6, 3), (RX7, TX7, 1), (RX8, TX8, 1), (RX9, TX9, 5), (RX10, TX10, 14), (RX11, TX11, 14), (RX12, TX12, 54)]
