section
-- ===== PART A: goes FIRST, ahead of the names: the tables' words, and 'selects' of the private methods out of them =====
/-- a private method of a class that the tables say can be made, by its rows of tables_1 -/
def lw_okq (q : MethodName × Nat) : Prop := (q.1.cls ≠ "java/lang/invoke/MethodHandle" ∧ q.1.cls ≠ "java/lang/invoke/VarHandle") ∧ Cond.instantiable q.1.cls q.2 ∈ tables_1 ∧ Cond.privateMethod q.1 ∈ tables_1 ∧ Cond.instanceMethod q.1 ∈ tables_1
theorem lw_p0 : lw_okq (⟨"RingInSand$Tape", "splitTokens", "()V"⟩, 14) := ⟨⟨by decide +kernel, by decide +kernel⟩, List.mem_of_getElem? (i := 67) (by decide +kernel), List.mem_of_getElem? (i := 273) (by decide +kernel), List.mem_of_getElem? (i := 274) (by decide +kernel)⟩
theorem lw_p1 : lw_okq (⟨"RingInSand$Tape", "byteAt", "(I)I"⟩, 14) := ⟨⟨by decide +kernel, by decide +kernel⟩, List.mem_of_getElem? (i := 67) (by decide +kernel), List.mem_of_getElem? (i := 277) (by decide +kernel), List.mem_of_getElem? (i := 278) (by decide +kernel)⟩
theorem lw_p2 : lw_okq (⟨"RingInSand$Tape", "endOfWord", "(I)I"⟩, 14) := ⟨⟨by decide +kernel, by decide +kernel⟩, List.mem_of_getElem? (i := 67) (by decide +kernel), List.mem_of_getElem? (i := 284) (by decide +kernel), List.mem_of_getElem? (i := 285) (by decide +kernel)⟩
theorem lw_p3 : lw_okq (⟨"RingInSand$Tape", "addWord", "(II)V"⟩, 14) := ⟨⟨by decide +kernel, by decide +kernel⟩, List.mem_of_getElem? (i := 67) (by decide +kernel), List.mem_of_getElem? (i := 288) (by decide +kernel), List.mem_of_getElem? (i := 289) (by decide +kernel)⟩
theorem lw_p4 : lw_okq (⟨"RingInSand$Tape", "nameOf", "(II)I"⟩, 14) := ⟨⟨by decide +kernel, by decide +kernel⟩, List.mem_of_getElem? (i := 67) (by decide +kernel), List.mem_of_getElem? (i := 292) (by decide +kernel), List.mem_of_getElem? (i := 293) (by decide +kernel)⟩
theorem lw_p5 : lw_okq (⟨"RingInSand$Tape", "isWord", "(Ljava/lang/String;II)Z"⟩, 14) := ⟨⟨by decide +kernel, by decide +kernel⟩, List.mem_of_getElem? (i := 67) (by decide +kernel), List.mem_of_getElem? (i := 297) (by decide +kernel), List.mem_of_getElem? (i := 298) (by decide +kernel)⟩
theorem lw_p6 : lw_okq (⟨"RingInSand$Tape", "addToken", "(III)V"⟩, 14) := ⟨⟨by decide +kernel, by decide +kernel⟩, List.mem_of_getElem? (i := 67) (by decide +kernel), List.mem_of_getElem? (i := 308) (by decide +kernel), List.mem_of_getElem? (i := 309) (by decide +kernel)⟩
theorem lw_p7 : lw_okq (⟨"RingInSand$Tape", "keyOf", "(II)I"⟩, 14) := ⟨⟨by decide +kernel, by decide +kernel⟩, List.mem_of_getElem? (i := 67) (by decide +kernel), List.mem_of_getElem? (i := 312) (by decide +kernel), List.mem_of_getElem? (i := 313) (by decide +kernel)⟩
theorem lw_p8 : lw_okq (⟨"RingInSand$Tape", "endOfNumber", "(I)I"⟩, 14) := ⟨⟨by decide +kernel, by decide +kernel⟩, List.mem_of_getElem? (i := 67) (by decide +kernel), List.mem_of_getElem? (i := 325) (by decide +kernel), List.mem_of_getElem? (i := 326) (by decide +kernel)⟩
theorem lw_p9 : lw_okq (⟨"RingInSand$Tape", "addNumber", "(II)V"⟩, 14) := ⟨⟨by decide +kernel, by decide +kernel⟩, List.mem_of_getElem? (i := 67) (by decide +kernel), List.mem_of_getElem? (i := 329) (by decide +kernel), List.mem_of_getElem? (i := 330) (by decide +kernel)⟩
theorem lw_p10 : lw_okq (⟨"RingInSand$Tape", "goTo", "(I)V"⟩, 14) := ⟨⟨by decide +kernel, by decide +kernel⟩, List.mem_of_getElem? (i := 67) (by decide +kernel), List.mem_of_getElem? (i := 336) (by decide +kernel), List.mem_of_getElem? (i := 337) (by decide +kernel)⟩
theorem lw_p11 : lw_okq (⟨"RingInSand$Tape", "readPart", "(I)Z"⟩, 14) := ⟨⟨by decide +kernel, by decide +kernel⟩, List.mem_of_getElem? (i := 67) (by decide +kernel), List.mem_of_getElem? (i := 343) (by decide +kernel), List.mem_of_getElem? (i := 344) (by decide +kernel)⟩
theorem lw_p12 : lw_okq (⟨"RingInSand$Tape", "expect", "(I)Z"⟩, 14) := ⟨⟨by decide +kernel, by decide +kernel⟩, List.mem_of_getElem? (i := 67) (by decide +kernel), List.mem_of_getElem? (i := 347) (by decide +kernel), List.mem_of_getElem? (i := 348) (by decide +kernel)⟩
theorem lw_p13 : lw_okq (⟨"RingInSand$Tape", "refuse", "()Z"⟩, 14) := ⟨⟨by decide +kernel, by decide +kernel⟩, List.mem_of_getElem? (i := 67) (by decide +kernel), List.mem_of_getElem? (i := 351) (by decide +kernel), List.mem_of_getElem? (i := 352) (by decide +kernel)⟩
theorem lw_p14 : lw_okq (⟨"RingInSand$Tape", "readOr", "()Z"⟩, 14) := ⟨⟨by decide +kernel, by decide +kernel⟩, List.mem_of_getElem? (i := 67) (by decide +kernel), List.mem_of_getElem? (i := 355) (by decide +kernel), List.mem_of_getElem? (i := 356) (by decide +kernel)⟩
theorem lw_p15 : lw_okq (⟨"RingInSand$Tape", "readAnd", "()Z"⟩, 14) := ⟨⟨by decide +kernel, by decide +kernel⟩, List.mem_of_getElem? (i := 67) (by decide +kernel), List.mem_of_getElem? (i := 359) (by decide +kernel), List.mem_of_getElem? (i := 360) (by decide +kernel)⟩
def lw_privs_1 : List (MethodName × Nat) := [(⟨"RingInSand$Tape", "splitTokens", "()V"⟩, 14), (⟨"RingInSand$Tape", "byteAt", "(I)I"⟩, 14), (⟨"RingInSand$Tape", "endOfWord", "(I)I"⟩, 14), (⟨"RingInSand$Tape", "addWord", "(II)V"⟩, 14), (⟨"RingInSand$Tape", "nameOf", "(II)I"⟩, 14), (⟨"RingInSand$Tape", "isWord", "(Ljava/lang/String;II)Z"⟩, 14), (⟨"RingInSand$Tape", "addToken", "(III)V"⟩, 14), (⟨"RingInSand$Tape", "keyOf", "(II)I"⟩, 14), (⟨"RingInSand$Tape", "endOfNumber", "(I)I"⟩, 14), (⟨"RingInSand$Tape", "addNumber", "(II)V"⟩, 14), (⟨"RingInSand$Tape", "goTo", "(I)V"⟩, 14), (⟨"RingInSand$Tape", "readPart", "(I)Z"⟩, 14), (⟨"RingInSand$Tape", "expect", "(I)Z"⟩, 14), (⟨"RingInSand$Tape", "refuse", "()Z"⟩, 14), (⟨"RingInSand$Tape", "readOr", "()Z"⟩, 14), (⟨"RingInSand$Tape", "readAnd", "()Z"⟩, 14)]
theorem lw_r1 : ∀ q ∈ lw_privs_1, lw_okq q := List.forall_mem_cons.mpr ⟨lw_p0, List.forall_mem_cons.mpr ⟨lw_p1, List.forall_mem_cons.mpr ⟨lw_p2, List.forall_mem_cons.mpr ⟨lw_p3, List.forall_mem_cons.mpr ⟨lw_p4, List.forall_mem_cons.mpr ⟨lw_p5, List.forall_mem_cons.mpr ⟨lw_p6, List.forall_mem_cons.mpr ⟨lw_p7, List.forall_mem_cons.mpr ⟨lw_p8, List.forall_mem_cons.mpr ⟨lw_p9, List.forall_mem_cons.mpr ⟨lw_p10, List.forall_mem_cons.mpr ⟨lw_p11, List.forall_mem_cons.mpr ⟨lw_p12, List.forall_mem_cons.mpr ⟨lw_p13, List.forall_mem_cons.mpr ⟨lw_p14, List.forall_mem_cons.mpr ⟨lw_p15, fun _ h => absurd h List.not_mem_nil⟩⟩⟩⟩⟩⟩⟩⟩⟩⟩⟩⟩⟩⟩⟩⟩
theorem lw_p16 : lw_okq (⟨"RingInSand$Tape", "readNot", "()Z"⟩, 14) := ⟨⟨by decide +kernel, by decide +kernel⟩, List.mem_of_getElem? (i := 67) (by decide +kernel), List.mem_of_getElem? (i := 363) (by decide +kernel), List.mem_of_getElem? (i := 364) (by decide +kernel)⟩
theorem lw_p17 : lw_okq (⟨"RingInSand$Tape", "readComparison", "()Z"⟩, 14) := ⟨⟨by decide +kernel, by decide +kernel⟩, List.mem_of_getElem? (i := 67) (by decide +kernel), List.mem_of_getElem? (i := 367) (by decide +kernel), List.mem_of_getElem? (i := 368) (by decide +kernel)⟩
theorem lw_p18 : lw_okq (⟨"RingInSand$Tape", "readSum", "()Z"⟩, 14) := ⟨⟨by decide +kernel, by decide +kernel⟩, List.mem_of_getElem? (i := 67) (by decide +kernel), List.mem_of_getElem? (i := 371) (by decide +kernel), List.mem_of_getElem? (i := 372) (by decide +kernel)⟩
theorem lw_p19 : lw_okq (⟨"RingInSand$Tape", "readTerm", "()Z"⟩, 14) := ⟨⟨by decide +kernel, by decide +kernel⟩, List.mem_of_getElem? (i := 67) (by decide +kernel), List.mem_of_getElem? (i := 375) (by decide +kernel), List.mem_of_getElem? (i := 376) (by decide +kernel)⟩
theorem lw_p20 : lw_okq (⟨"RingInSand$Tape", "readOne", "()Z"⟩, 14) := ⟨⟨by decide +kernel, by decide +kernel⟩, List.mem_of_getElem? (i := 67) (by decide +kernel), List.mem_of_getElem? (i := 379) (by decide +kernel), List.mem_of_getElem? (i := 380) (by decide +kernel)⟩
theorem lw_p21 : lw_okq (⟨"RingInSand$Tape", "worthHere", "()I"⟩, 14) := ⟨⟨by decide +kernel, by decide +kernel⟩, List.mem_of_getElem? (i := 67) (by decide +kernel), List.mem_of_getElem? (i := 383) (by decide +kernel), List.mem_of_getElem? (i := 384) (by decide +kernel)⟩
theorem lw_p22 : lw_okq (⟨"RingInSand$Tape", "emit", "(I)V"⟩, 14) := ⟨⟨by decide +kernel, by decide +kernel⟩, List.mem_of_getElem? (i := 67) (by decide +kernel), List.mem_of_getElem? (i := 387) (by decide +kernel), List.mem_of_getElem? (i := 388) (by decide +kernel)⟩
theorem lw_p23 : lw_okq (⟨"RingInSand$Tape", "readNegated", "()Z"⟩, 14) := ⟨⟨by decide +kernel, by decide +kernel⟩, List.mem_of_getElem? (i := 67) (by decide +kernel), List.mem_of_getElem? (i := 391) (by decide +kernel), List.mem_of_getElem? (i := 392) (by decide +kernel)⟩
theorem lw_p24 : lw_okq (⟨"RingInSand$Tape", "enter", "()Z"⟩, 14) := ⟨⟨by decide +kernel, by decide +kernel⟩, List.mem_of_getElem? (i := 67) (by decide +kernel), List.mem_of_getElem? (i := 395) (by decide +kernel), List.mem_of_getElem? (i := 396) (by decide +kernel)⟩
theorem lw_p25 : lw_okq (⟨"RingInSand$Tape", "readBracket", "()Z"⟩, 14) := ⟨⟨by decide +kernel, by decide +kernel⟩, List.mem_of_getElem? (i := 67) (by decide +kernel), List.mem_of_getElem? (i := 399) (by decide +kernel), List.mem_of_getElem? (i := 400) (by decide +kernel)⟩
theorem lw_p26 : lw_okq (⟨"RingInSand", "changeOdds", "(II)I"⟩, 14) := ⟨⟨by decide +kernel, by decide +kernel⟩, List.mem_of_getElem? (i := 22) (by decide +kernel), List.mem_of_getElem? (i := 467) (by decide +kernel), List.mem_of_getElem? (i := 468) (by decide +kernel)⟩
theorem lw_p27 : lw_okq (⟨"RingInSand", "changeTreads", "(II)I"⟩, 14) := ⟨⟨by decide +kernel, by decide +kernel⟩, List.mem_of_getElem? (i := 22) (by decide +kernel), List.mem_of_getElem? (i := 476) (by decide +kernel), List.mem_of_getElem? (i := 477) (by decide +kernel)⟩
theorem lw_p28 : lw_okq (⟨"RingInSand", "changeBag", "(I)I"⟩, 14) := ⟨⟨by decide +kernel, by decide +kernel⟩, List.mem_of_getElem? (i := 22) (by decide +kernel), List.mem_of_getElem? (i := 480) (by decide +kernel), List.mem_of_getElem? (i := 481) (by decide +kernel)⟩
theorem lw_p29 : lw_okq (⟨"RingInSand", "changeHour", "(I)I"⟩, 14) := ⟨⟨by decide +kernel, by decide +kernel⟩, List.mem_of_getElem? (i := 22) (by decide +kernel), List.mem_of_getElem? (i := 484) (by decide +kernel), List.mem_of_getElem? (i := 485) (by decide +kernel)⟩
theorem lw_p30 : lw_okq (⟨"RingInSand", "changeMinutes", "(I)I"⟩, 14) := ⟨⟨by decide +kernel, by decide +kernel⟩, List.mem_of_getElem? (i := 22) (by decide +kernel), List.mem_of_getElem? (i := 488) (by decide +kernel), List.mem_of_getElem? (i := 489) (by decide +kernel)⟩
theorem lw_p31 : lw_okq (⟨"RingInSand$Rules", "stand", "(III)V"⟩, 13) := ⟨⟨by decide +kernel, by decide +kernel⟩, List.mem_of_getElem? (i := 121) (by decide +kernel), List.mem_of_getElem? (i := 501) (by decide +kernel), List.mem_of_getElem? (i := 502) (by decide +kernel)⟩
def lw_privs_2 : List (MethodName × Nat) := [(⟨"RingInSand$Tape", "readNot", "()Z"⟩, 14), (⟨"RingInSand$Tape", "readComparison", "()Z"⟩, 14), (⟨"RingInSand$Tape", "readSum", "()Z"⟩, 14), (⟨"RingInSand$Tape", "readTerm", "()Z"⟩, 14), (⟨"RingInSand$Tape", "readOne", "()Z"⟩, 14), (⟨"RingInSand$Tape", "worthHere", "()I"⟩, 14), (⟨"RingInSand$Tape", "emit", "(I)V"⟩, 14), (⟨"RingInSand$Tape", "readNegated", "()Z"⟩, 14), (⟨"RingInSand$Tape", "enter", "()Z"⟩, 14), (⟨"RingInSand$Tape", "readBracket", "()Z"⟩, 14), (⟨"RingInSand", "changeOdds", "(II)I"⟩, 14), (⟨"RingInSand", "changeTreads", "(II)I"⟩, 14), (⟨"RingInSand", "changeBag", "(I)I"⟩, 14), (⟨"RingInSand", "changeHour", "(I)I"⟩, 14), (⟨"RingInSand", "changeMinutes", "(I)I"⟩, 14), (⟨"RingInSand$Rules", "stand", "(III)V"⟩, 13)]
theorem lw_r2 : ∀ q ∈ lw_privs_2, lw_okq q := List.forall_mem_cons.mpr ⟨lw_p16, List.forall_mem_cons.mpr ⟨lw_p17, List.forall_mem_cons.mpr ⟨lw_p18, List.forall_mem_cons.mpr ⟨lw_p19, List.forall_mem_cons.mpr ⟨lw_p20, List.forall_mem_cons.mpr ⟨lw_p21, List.forall_mem_cons.mpr ⟨lw_p22, List.forall_mem_cons.mpr ⟨lw_p23, List.forall_mem_cons.mpr ⟨lw_p24, List.forall_mem_cons.mpr ⟨lw_p25, List.forall_mem_cons.mpr ⟨lw_p26, List.forall_mem_cons.mpr ⟨lw_p27, List.forall_mem_cons.mpr ⟨lw_p28, List.forall_mem_cons.mpr ⟨lw_p29, List.forall_mem_cons.mpr ⟨lw_p30, List.forall_mem_cons.mpr ⟨lw_p31, fun _ h => absurd h List.not_mem_nil⟩⟩⟩⟩⟩⟩⟩⟩⟩⟩⟩⟩⟩⟩⟩⟩
theorem lw_p32 : lw_okq (⟨"RingInSand$Rules", "value", "(II)I"⟩, 13) := ⟨⟨by decide +kernel, by decide +kernel⟩, List.mem_of_getElem? (i := 121) (by decide +kernel), List.mem_of_getElem? (i := 511) (by decide +kernel), List.mem_of_getElem? (i := 512) (by decide +kernel)⟩
theorem lw_p33 : lw_okq (⟨"RingInSand$Rules", "take", "(I)V"⟩, 13) := ⟨⟨by decide +kernel, by decide +kernel⟩, List.mem_of_getElem? (i := 121) (by decide +kernel), List.mem_of_getElem? (i := 520) (by decide +kernel), List.mem_of_getElem? (i := 521) (by decide +kernel)⟩
theorem lw_p34 : lw_okq (⟨"RingInSand$Rules", "push", "(I)V"⟩, 13) := ⟨⟨by decide +kernel, by decide +kernel⟩, List.mem_of_getElem? (i := 121) (by decide +kernel), List.mem_of_getElem? (i := 524) (by decide +kernel), List.mem_of_getElem? (i := 525) (by decide +kernel)⟩
theorem lw_p35 : lw_okq (⟨"RingInSand$Rules", "pop", "()I"⟩, 13) := ⟨⟨by decide +kernel, by decide +kernel⟩, List.mem_of_getElem? (i := 121) (by decide +kernel), List.mem_of_getElem? (i := 528) (by decide +kernel), List.mem_of_getElem? (i := 529) (by decide +kernel)⟩
theorem lw_p36 : lw_okq (⟨"RingInSand", "lookerAt", "(I)LRingInSand$Eyes;"⟩, 14) := ⟨⟨by decide +kernel, by decide +kernel⟩, List.mem_of_getElem? (i := 22) (by decide +kernel), List.mem_of_getElem? (i := 618) (by decide +kernel), List.mem_of_getElem? (i := 619) (by decide +kernel)⟩
theorem lw_p37 : lw_okq (⟨"RingInSand", "goodHere", "(LRingInSand$Eyes;)I"⟩, 14) := ⟨⟨by decide +kernel, by decide +kernel⟩, List.mem_of_getElem? (i := 22) (by decide +kernel), List.mem_of_getElem? (i := 622) (by decide +kernel), List.mem_of_getElem? (i := 623) (by decide +kernel)⟩
theorem lw_p38 : lw_okq (⟨"RingInSand", "gainByLook", "(LRingInSand$Beach;LRingInSand$Eyes;I)I"⟩, 14) := ⟨⟨by decide +kernel, by decide +kernel⟩, List.mem_of_getElem? (i := 22) (by decide +kernel), List.mem_of_getElem? (i := 725) (by decide +kernel), List.mem_of_getElem? (i := 726) (by decide +kernel)⟩
theorem lw_p39 : lw_okq (⟨"RingInSand", "choose", "(LRingInSand$Beach;)Z"⟩, 14) := ⟨⟨by decide +kernel, by decide +kernel⟩, List.mem_of_getElem? (i := 22) (by decide +kernel), List.mem_of_getElem? (i := 746) (by decide +kernel), List.mem_of_getElem? (i := 747) (by decide +kernel)⟩
theorem lw_p40 : lw_okq (⟨"RingInSand", "weighParty", "(II)V"⟩, 14) := ⟨⟨by decide +kernel, by decide +kernel⟩, List.mem_of_getElem? (i := 22) (by decide +kernel), List.mem_of_getElem? (i := 750) (by decide +kernel), List.mem_of_getElem? (i := 751) (by decide +kernel)⟩
theorem lw_p41 : lw_okq (⟨"RingInSand", "makePlan", "(I)V"⟩, 14) := ⟨⟨by decide +kernel, by decide +kernel⟩, List.mem_of_getElem? (i := 22) (by decide +kernel), List.mem_of_getElem? (i := 758) (by decide +kernel), List.mem_of_getElem? (i := 759) (by decide +kernel)⟩
theorem lw_p42 : lw_okq (⟨"RingInSand", "isWetAt", "(II)Z"⟩, 14) := ⟨⟨by decide +kernel, by decide +kernel⟩, List.mem_of_getElem? (i := 22) (by decide +kernel), List.mem_of_getElem? (i := 834) (by decide +kernel), List.mem_of_getElem? (i := 835) (by decide +kernel)⟩
theorem lw_p43 : lw_okq (⟨"RingInSand", "oddsUnderWater", "(I)I"⟩, 14) := ⟨⟨by decide +kernel, by decide +kernel⟩, List.mem_of_getElem? (i := 22) (by decide +kernel), List.mem_of_getElem? (i := 846) (by decide +kernel), List.mem_of_getElem? (i := 847) (by decide +kernel)⟩
theorem lw_p44 : lw_okq (⟨"RingInSand", "hourOfMostDrowned", "()I"⟩, 14) := ⟨⟨by decide +kernel, by decide +kernel⟩, List.mem_of_getElem? (i := 22) (by decide +kernel), List.mem_of_getElem? (i := 850) (by decide +kernel), List.mem_of_getElem? (i := 851) (by decide +kernel)⟩
theorem lw_p45 : lw_okq (⟨"RingInSand", "sheetAt", "(I)LRingInSand$Sheet;"⟩, 14) := ⟨⟨by decide +kernel, by decide +kernel⟩, List.mem_of_getElem? (i := 22) (by decide +kernel), List.mem_of_getElem? (i := 858) (by decide +kernel), List.mem_of_getElem? (i := 859) (by decide +kernel)⟩
theorem lw_p46 : lw_okq (⟨"RingInSand", "addPicture", "(II)V"⟩, 14) := ⟨⟨by decide +kernel, by decide +kernel⟩, List.mem_of_getElem? (i := 22) (by decide +kernel), List.mem_of_getElem? (i := 878) (by decide +kernel), List.mem_of_getElem? (i := 879) (by decide +kernel)⟩
theorem lw_p47 : lw_okq (⟨"RingInSand", "firstWrongRow", "(LRingInSand$Sheet;)I"⟩, 14) := ⟨⟨by decide +kernel, by decide +kernel⟩, List.mem_of_getElem? (i := 22) (by decide +kernel), List.mem_of_getElem? (i := 899) (by decide +kernel), List.mem_of_getElem? (i := 900) (by decide +kernel)⟩
def lw_privs_3 : List (MethodName × Nat) := [(⟨"RingInSand$Rules", "value", "(II)I"⟩, 13), (⟨"RingInSand$Rules", "take", "(I)V"⟩, 13), (⟨"RingInSand$Rules", "push", "(I)V"⟩, 13), (⟨"RingInSand$Rules", "pop", "()I"⟩, 13), (⟨"RingInSand", "lookerAt", "(I)LRingInSand$Eyes;"⟩, 14), (⟨"RingInSand", "goodHere", "(LRingInSand$Eyes;)I"⟩, 14), (⟨"RingInSand", "gainByLook", "(LRingInSand$Beach;LRingInSand$Eyes;I)I"⟩, 14), (⟨"RingInSand", "choose", "(LRingInSand$Beach;)Z"⟩, 14), (⟨"RingInSand", "weighParty", "(II)V"⟩, 14), (⟨"RingInSand", "makePlan", "(I)V"⟩, 14), (⟨"RingInSand", "isWetAt", "(II)Z"⟩, 14), (⟨"RingInSand", "oddsUnderWater", "(I)I"⟩, 14), (⟨"RingInSand", "hourOfMostDrowned", "()I"⟩, 14), (⟨"RingInSand", "sheetAt", "(I)LRingInSand$Sheet;"⟩, 14), (⟨"RingInSand", "addPicture", "(II)V"⟩, 14), (⟨"RingInSand", "firstWrongRow", "(LRingInSand$Sheet;)I"⟩, 14)]
theorem lw_r3 : ∀ q ∈ lw_privs_3, lw_okq q := List.forall_mem_cons.mpr ⟨lw_p32, List.forall_mem_cons.mpr ⟨lw_p33, List.forall_mem_cons.mpr ⟨lw_p34, List.forall_mem_cons.mpr ⟨lw_p35, List.forall_mem_cons.mpr ⟨lw_p36, List.forall_mem_cons.mpr ⟨lw_p37, List.forall_mem_cons.mpr ⟨lw_p38, List.forall_mem_cons.mpr ⟨lw_p39, List.forall_mem_cons.mpr ⟨lw_p40, List.forall_mem_cons.mpr ⟨lw_p41, List.forall_mem_cons.mpr ⟨lw_p42, List.forall_mem_cons.mpr ⟨lw_p43, List.forall_mem_cons.mpr ⟨lw_p44, List.forall_mem_cons.mpr ⟨lw_p45, List.forall_mem_cons.mpr ⟨lw_p46, List.forall_mem_cons.mpr ⟨lw_p47, fun _ h => absurd h List.not_mem_nil⟩⟩⟩⟩⟩⟩⟩⟩⟩⟩⟩⟩⟩⟩⟩⟩
theorem lw_p48 : lw_okq (⟨"RingInSand$Sheet", "narrowed", "(I)I"⟩, 3) := ⟨⟨by decide +kernel, by decide +kernel⟩, List.mem_of_getElem? (i := 197) (by decide +kernel), List.mem_of_getElem? (i := 966) (by decide +kernel), List.mem_of_getElem? (i := 967) (by decide +kernel)⟩
theorem lw_p49 : lw_okq (⟨"RingInSandModel", "spell", "(IIIIIIIII)V"⟩, 54) := ⟨⟨by decide +kernel, by decide +kernel⟩, List.mem_of_getElem? (i := 991) (by decide +kernel), List.mem_of_getElem? (i := 997) (by decide +kernel), List.mem_of_getElem? (i := 998) (by decide +kernel)⟩
theorem lw_p50 : lw_okq (⟨"RingInSandModel", "read", "(II)I"⟩, 54) := ⟨⟨by decide +kernel, by decide +kernel⟩, List.mem_of_getElem? (i := 991) (by decide +kernel), List.mem_of_getElem? (i := 1195) (by decide +kernel), List.mem_of_getElem? (i := 1196) (by decide +kernel)⟩
theorem lw_p51 : lw_okq (⟨"RingInSandModel", "nextToken", "()V"⟩, 54) := ⟨⟨by decide +kernel, by decide +kernel⟩, List.mem_of_getElem? (i := 991) (by decide +kernel), List.mem_of_getElem? (i := 1199) (by decide +kernel), List.mem_of_getElem? (i := 1200) (by decide +kernel)⟩
theorem lw_p52 : lw_okq (⟨"RingInSandModel", "byteAt", "(I)I"⟩, 54) := ⟨⟨by decide +kernel, by decide +kernel⟩, List.mem_of_getElem? (i := 991) (by decide +kernel), List.mem_of_getElem? (i := 1203) (by decide +kernel), List.mem_of_getElem? (i := 1204) (by decide +kernel)⟩
theorem lw_p53 : lw_okq (⟨"RingInSandModel", "isWord", "(IIIIIIII)Z"⟩, 54) := ⟨⟨by decide +kernel, by decide +kernel⟩, List.mem_of_getElem? (i := 991) (by decide +kernel), List.mem_of_getElem? (i := 1212) (by decide +kernel), List.mem_of_getElem? (i := 1213) (by decide +kernel)⟩
theorem lw_p54 : lw_okq (⟨"RingInSandModel", "isLetter", "(II)Z"⟩, 54) := ⟨⟨by decide +kernel, by decide +kernel⟩, List.mem_of_getElem? (i := 991) (by decide +kernel), List.mem_of_getElem? (i := 1216) (by decide +kernel), List.mem_of_getElem? (i := 1217) (by decide +kernel)⟩
theorem lw_p55 : lw_okq (⟨"RingInSandModel", "part", "(Z)I"⟩, 54) := ⟨⟨by decide +kernel, by decide +kernel⟩, List.mem_of_getElem? (i := 991) (by decide +kernel), List.mem_of_getElem? (i := 1220) (by decide +kernel), List.mem_of_getElem? (i := 1221) (by decide +kernel)⟩
theorem lw_p56 : lw_okq (⟨"RingInSandModel", "fail", "()V"⟩, 54) := ⟨⟨by decide +kernel, by decide +kernel⟩, List.mem_of_getElem? (i := 991) (by decide +kernel), List.mem_of_getElem? (i := 1224) (by decide +kernel), List.mem_of_getElem? (i := 1225) (by decide +kernel)⟩
theorem lw_p57 : lw_okq (⟨"RingInSandModel", "either", "()I"⟩, 54) := ⟨⟨by decide +kernel, by decide +kernel⟩, List.mem_of_getElem? (i := 991) (by decide +kernel), List.mem_of_getElem? (i := 1228) (by decide +kernel), List.mem_of_getElem? (i := 1229) (by decide +kernel)⟩
theorem lw_p58 : lw_okq (⟨"RingInSandModel", "both", "()I"⟩, 54) := ⟨⟨by decide +kernel, by decide +kernel⟩, List.mem_of_getElem? (i := 991) (by decide +kernel), List.mem_of_getElem? (i := 1232) (by decide +kernel), List.mem_of_getElem? (i := 1233) (by decide +kernel)⟩
theorem lw_p59 : lw_okq (⟨"RingInSandModel", "not", "()I"⟩, 54) := ⟨⟨by decide +kernel, by decide +kernel⟩, List.mem_of_getElem? (i := 991) (by decide +kernel), List.mem_of_getElem? (i := 1236) (by decide +kernel), List.mem_of_getElem? (i := 1237) (by decide +kernel)⟩
theorem lw_p60 : lw_okq (⟨"RingInSandModel", "opens", "()Z"⟩, 54) := ⟨⟨by decide +kernel, by decide +kernel⟩, List.mem_of_getElem? (i := 991) (by decide +kernel), List.mem_of_getElem? (i := 1240) (by decide +kernel), List.mem_of_getElem? (i := 1241) (by decide +kernel)⟩
theorem lw_p61 : lw_okq (⟨"RingInSandModel", "added", "()I"⟩, 54) := ⟨⟨by decide +kernel, by decide +kernel⟩, List.mem_of_getElem? (i := 991) (by decide +kernel), List.mem_of_getElem? (i := 1244) (by decide +kernel), List.mem_of_getElem? (i := 1245) (by decide +kernel)⟩
theorem lw_p62 : lw_okq (⟨"RingInSandModel", "term", "()I"⟩, 54) := ⟨⟨by decide +kernel, by decide +kernel⟩, List.mem_of_getElem? (i := 991) (by decide +kernel), List.mem_of_getElem? (i := 1248) (by decide +kernel), List.mem_of_getElem? (i := 1249) (by decide +kernel)⟩
theorem lw_p63 : lw_okq (⟨"RingInSandModel", "atom", "()I"⟩, 54) := ⟨⟨by decide +kernel, by decide +kernel⟩, List.mem_of_getElem? (i := 991) (by decide +kernel), List.mem_of_getElem? (i := 1252) (by decide +kernel), List.mem_of_getElem? (i := 1253) (by decide +kernel)⟩
def lw_privs_4 : List (MethodName × Nat) := [(⟨"RingInSand$Sheet", "narrowed", "(I)I"⟩, 3), (⟨"RingInSandModel", "spell", "(IIIIIIIII)V"⟩, 54), (⟨"RingInSandModel", "read", "(II)I"⟩, 54), (⟨"RingInSandModel", "nextToken", "()V"⟩, 54), (⟨"RingInSandModel", "byteAt", "(I)I"⟩, 54), (⟨"RingInSandModel", "isWord", "(IIIIIIII)Z"⟩, 54), (⟨"RingInSandModel", "isLetter", "(II)Z"⟩, 54), (⟨"RingInSandModel", "part", "(Z)I"⟩, 54), (⟨"RingInSandModel", "fail", "()V"⟩, 54), (⟨"RingInSandModel", "either", "()I"⟩, 54), (⟨"RingInSandModel", "both", "()I"⟩, 54), (⟨"RingInSandModel", "not", "()I"⟩, 54), (⟨"RingInSandModel", "opens", "()Z"⟩, 54), (⟨"RingInSandModel", "added", "()I"⟩, 54), (⟨"RingInSandModel", "term", "()I"⟩, 54), (⟨"RingInSandModel", "atom", "()I"⟩, 54)]
theorem lw_r4 : ∀ q ∈ lw_privs_4, lw_okq q := List.forall_mem_cons.mpr ⟨lw_p48, List.forall_mem_cons.mpr ⟨lw_p49, List.forall_mem_cons.mpr ⟨lw_p50, List.forall_mem_cons.mpr ⟨lw_p51, List.forall_mem_cons.mpr ⟨lw_p52, List.forall_mem_cons.mpr ⟨lw_p53, List.forall_mem_cons.mpr ⟨lw_p54, List.forall_mem_cons.mpr ⟨lw_p55, List.forall_mem_cons.mpr ⟨lw_p56, List.forall_mem_cons.mpr ⟨lw_p57, List.forall_mem_cons.mpr ⟨lw_p58, List.forall_mem_cons.mpr ⟨lw_p59, List.forall_mem_cons.mpr ⟨lw_p60, List.forall_mem_cons.mpr ⟨lw_p61, List.forall_mem_cons.mpr ⟨lw_p62, List.forall_mem_cons.mpr ⟨lw_p63, fun _ h => absurd h List.not_mem_nil⟩⟩⟩⟩⟩⟩⟩⟩⟩⟩⟩⟩⟩⟩⟩⟩
theorem lw_p64 : lw_okq (⟨"RingInSandModel", "isSign", "(I)Z"⟩, 54) := ⟨⟨by decide +kernel, by decide +kernel⟩, List.mem_of_getElem? (i := 991) (by decide +kernel), List.mem_of_getElem? (i := 1256) (by decide +kernel), List.mem_of_getElem? (i := 1257) (by decide +kernel)⟩
theorem lw_p65 : lw_okq (⟨"RingInSandModel", "name", "()I"⟩, 54) := ⟨⟨by decide +kernel, by decide +kernel⟩, List.mem_of_getElem? (i := 991) (by decide +kernel), List.mem_of_getElem? (i := 1260) (by decide +kernel), List.mem_of_getElem? (i := 1261) (by decide +kernel)⟩
theorem lw_p66 : lw_okq (⟨"RingInSandModel", "deep", "(I)I"⟩, 54) := ⟨⟨by decide +kernel, by decide +kernel⟩, List.mem_of_getElem? (i := 991) (by decide +kernel), List.mem_of_getElem? (i := 1274) (by decide +kernel), List.mem_of_getElem? (i := 1275) (by decide +kernel)⟩
theorem lw_p67 : lw_okq (⟨"RingInSandModel", "says", "(III)I"⟩, 54) := ⟨⟨by decide +kernel, by decide +kernel⟩, List.mem_of_getElem? (i := 991) (by decide +kernel), List.mem_of_getElem? (i := 1278) (by decide +kernel), List.mem_of_getElem? (i := 1279) (by decide +kernel)⟩
theorem lw_p68 : lw_okq (⟨"RingInSandModel", "shine", "(I)I"⟩, 54) := ⟨⟨by decide +kernel, by decide +kernel⟩, List.mem_of_getElem? (i := 991) (by decide +kernel), List.mem_of_getElem? (i := 1285) (by decide +kernel), List.mem_of_getElem? (i := 1286) (by decide +kernel)⟩
theorem lw_p69 : lw_okq (⟨"RingInSandModel", "isUnder", "(I)Z"⟩, 54) := ⟨⟨by decide +kernel, by decide +kernel⟩, List.mem_of_getElem? (i := 991) (by decide +kernel), List.mem_of_getElem? (i := 1289) (by decide +kernel), List.mem_of_getElem? (i := 1290) (by decide +kernel)⟩
theorem lw_p70 : lw_okq (⟨"RingInSandModel", "isLooker", "(I)Z"⟩, 54) := ⟨⟨by decide +kernel, by decide +kernel⟩, List.mem_of_getElem? (i := 991) (by decide +kernel), List.mem_of_getElem? (i := 1297) (by decide +kernel), List.mem_of_getElem? (i := 1298) (by decide +kernel)⟩
theorem lw_p71 : lw_okq (⟨"RingInSandModel", "good", "(II)I"⟩, 54) := ⟨⟨by decide +kernel, by decide +kernel⟩, List.mem_of_getElem? (i := 991) (by decide +kernel), List.mem_of_getElem? (i := 1301) (by decide +kernel), List.mem_of_getElem? (i := 1302) (by decide +kernel)⟩
theorem lw_p72 : lw_okq (⟨"RingInSandModel", "finds", "(III)I"⟩, 54) := ⟨⟨by decide +kernel, by decide +kernel⟩, List.mem_of_getElem? (i := 991) (by decide +kernel), List.mem_of_getElem? (i := 1305) (by decide +kernel), List.mem_of_getElem? (i := 1306) (by decide +kernel)⟩
theorem lw_p73 : lw_okq (⟨"RingInSandModel", "takes", "(I)I"⟩, 54) := ⟨⟨by decide +kernel, by decide +kernel⟩, List.mem_of_getElem? (i := 991) (by decide +kernel), List.mem_of_getElem? (i := 1309) (by decide +kernel), List.mem_of_getElem? (i := 1310) (by decide +kernel)⟩
theorem lw_p74 : lw_okq (⟨"RingInSandModel", "stamps", "(I)I"⟩, 54) := ⟨⟨by decide +kernel, by decide +kernel⟩, List.mem_of_getElem? (i := 991) (by decide +kernel), List.mem_of_getElem? (i := 1313) (by decide +kernel), List.mem_of_getElem? (i := 1314) (by decide +kernel)⟩
theorem lw_p75 : lw_okq (⟨"RingInSandModel", "gain", "(II)I"⟩, 54) := ⟨⟨by decide +kernel, by decide +kernel⟩, List.mem_of_getElem? (i := 991) (by decide +kernel), List.mem_of_getElem? (i := 1317) (by decide +kernel), List.mem_of_getElem? (i := 1318) (by decide +kernel)⟩
theorem lw_p76 : lw_okq (⟨"RingInSandModel", "looks", "(II)V"⟩, 54) := ⟨⟨by decide +kernel, by decide +kernel⟩, List.mem_of_getElem? (i := 991) (by decide +kernel), List.mem_of_getElem? (i := 1325) (by decide +kernel), List.mem_of_getElem? (i := 1326) (by decide +kernel)⟩
theorem lw_p77 : lw_okq (⟨"RingInSandModel", "best", "()V"⟩, 54) := ⟨⟨by decide +kernel, by decide +kernel⟩, List.mem_of_getElem? (i := 991) (by decide +kernel), List.mem_of_getElem? (i := 1334) (by decide +kernel), List.mem_of_getElem? (i := 1335) (by decide +kernel)⟩
theorem lw_p78 : lw_okq (⟨"RingInSandModel", "plans", "(I)V"⟩, 54) := ⟨⟨by decide +kernel, by decide +kernel⟩, List.mem_of_getElem? (i := 991) (by decide +kernel), List.mem_of_getElem? (i := 1347) (by decide +kernel), List.mem_of_getElem? (i := 1348) (by decide +kernel)⟩
theorem lw_p79 : lw_okq (⟨"RingInSandModel", "laysAside", "()V"⟩, 54) := ⟨⟨by decide +kernel, by decide +kernel⟩, List.mem_of_getElem? (i := 991) (by decide +kernel), List.mem_of_getElem? (i := 1351) (by decide +kernel), List.mem_of_getElem? (i := 1352) (by decide +kernel)⟩
def lw_privs_5 : List (MethodName × Nat) := [(⟨"RingInSandModel", "isSign", "(I)Z"⟩, 54), (⟨"RingInSandModel", "name", "()I"⟩, 54), (⟨"RingInSandModel", "deep", "(I)I"⟩, 54), (⟨"RingInSandModel", "says", "(III)I"⟩, 54), (⟨"RingInSandModel", "shine", "(I)I"⟩, 54), (⟨"RingInSandModel", "isUnder", "(I)Z"⟩, 54), (⟨"RingInSandModel", "isLooker", "(I)Z"⟩, 54), (⟨"RingInSandModel", "good", "(II)I"⟩, 54), (⟨"RingInSandModel", "finds", "(III)I"⟩, 54), (⟨"RingInSandModel", "takes", "(I)I"⟩, 54), (⟨"RingInSandModel", "stamps", "(I)I"⟩, 54), (⟨"RingInSandModel", "gain", "(II)I"⟩, 54), (⟨"RingInSandModel", "looks", "(II)V"⟩, 54), (⟨"RingInSandModel", "best", "()V"⟩, 54), (⟨"RingInSandModel", "plans", "(I)V"⟩, 54), (⟨"RingInSandModel", "laysAside", "()V"⟩, 54)]
theorem lw_r5 : ∀ q ∈ lw_privs_5, lw_okq q := List.forall_mem_cons.mpr ⟨lw_p64, List.forall_mem_cons.mpr ⟨lw_p65, List.forall_mem_cons.mpr ⟨lw_p66, List.forall_mem_cons.mpr ⟨lw_p67, List.forall_mem_cons.mpr ⟨lw_p68, List.forall_mem_cons.mpr ⟨lw_p69, List.forall_mem_cons.mpr ⟨lw_p70, List.forall_mem_cons.mpr ⟨lw_p71, List.forall_mem_cons.mpr ⟨lw_p72, List.forall_mem_cons.mpr ⟨lw_p73, List.forall_mem_cons.mpr ⟨lw_p74, List.forall_mem_cons.mpr ⟨lw_p75, List.forall_mem_cons.mpr ⟨lw_p76, List.forall_mem_cons.mpr ⟨lw_p77, List.forall_mem_cons.mpr ⟨lw_p78, List.forall_mem_cons.mpr ⟨lw_p79, fun _ h => absurd h List.not_mem_nil⟩⟩⟩⟩⟩⟩⟩⟩⟩⟩⟩⟩⟩⟩⟩⟩
theorem lw_p80 : lw_okq (⟨"RingInSandModel", "laysBack", "()V"⟩, 54) := ⟨⟨by decide +kernel, by decide +kernel⟩, List.mem_of_getElem? (i := 991) (by decide +kernel), List.mem_of_getElem? (i := 1355) (by decide +kernel), List.mem_of_getElem? (i := 1356) (by decide +kernel)⟩
theorem lw_p81 : lw_okq (⟨"RingInSandModel", "onCells", "()I"⟩, 54) := ⟨⟨by decide +kernel, by decide +kernel⟩, List.mem_of_getElem? (i := 991) (by decide +kernel), List.mem_of_getElem? (i := 1372) (by decide +kernel), List.mem_of_getElem? (i := 1373) (by decide +kernel)⟩
theorem lw_p82 : lw_okq (⟨"RingInSandModel", "drownedNow", "()I"⟩, 54) := ⟨⟨by decide +kernel, by decide +kernel⟩, List.mem_of_getElem? (i := 991) (by decide +kernel), List.mem_of_getElem? (i := 1396) (by decide +kernel), List.mem_of_getElem? (i := 1397) (by decide +kernel)⟩
theorem lw_p83 : lw_okq (⟨"RingInSandModel", "more", "(II)V"⟩, 54) := ⟨⟨by decide +kernel, by decide +kernel⟩, List.mem_of_getElem? (i := 991) (by decide +kernel), List.mem_of_getElem? (i := 1409) (by decide +kernel), List.mem_of_getElem? (i := 1410) (by decide +kernel)⟩
theorem lw_p84 : lw_okq (⟨"RingInSandModel", "judges", "(I)I"⟩, 54) := ⟨⟨by decide +kernel, by decide +kernel⟩, List.mem_of_getElem? (i := 991) (by decide +kernel), List.mem_of_getElem? (i := 1423) (by decide +kernel), List.mem_of_getElem? (i := 1424) (by decide +kernel)⟩
def lw_privs_6 : List (MethodName × Nat) := [(⟨"RingInSandModel", "laysBack", "()V"⟩, 54), (⟨"RingInSandModel", "onCells", "()I"⟩, 54), (⟨"RingInSandModel", "drownedNow", "()I"⟩, 54), (⟨"RingInSandModel", "more", "(II)V"⟩, 54), (⟨"RingInSandModel", "judges", "(I)I"⟩, 54)]
theorem lw_r6 : ∀ q ∈ lw_privs_6, lw_okq q := List.forall_mem_cons.mpr ⟨lw_p80, List.forall_mem_cons.mpr ⟨lw_p81, List.forall_mem_cons.mpr ⟨lw_p82, List.forall_mem_cons.mpr ⟨lw_p83, List.forall_mem_cons.mpr ⟨lw_p84, fun _ h => absurd h List.not_mem_nil⟩⟩⟩⟩⟩
def lw_privs : List (MethodName × Nat) := lw_privs_1 ++ (lw_privs_2 ++ (lw_privs_3 ++ (lw_privs_4 ++ (lw_privs_5 ++ (lw_privs_6)))))
def lw_tbl : List Cond := k2_sels lw_privs ++ tables_1
theorem lw_privs_ok : ∀ q ∈ lw_privs, lw_okq q := by
  show ∀ q ∈ lw_privs_1 ++ (lw_privs_2 ++ (lw_privs_3 ++ (lw_privs_4 ++ (lw_privs_5 ++ (lw_privs_6))))), lw_okq q
  exact List.forall_mem_append.mpr ⟨lw_r1, List.forall_mem_append.mpr ⟨lw_r2, List.forall_mem_append.mpr ⟨lw_r3, List.forall_mem_append.mpr ⟨lw_r4, List.forall_mem_append.mpr ⟨lw_r5, lw_r6⟩⟩⟩⟩⟩
def RX0 : String := "RingInSand$Beach"
def TX0 : u_T := fun k => match k with
  | 0 => ("RingInSand$Beach", "odds", "[I", true)
  | 1 => ("RingInSand$Beach", "treads", "[I", true)
  | 2 => ("RingInSand$Beach", "bag", "I", false)
  | 3 => ("RingInSand$Beach", "hour", "I", false)
  | 4 => ("RingInSand$Beach", "minutes", "I", false)
  | _ => ("RingInSand$Beach", "rule", "I", false)
def tyX0 : Nat → FieldType := fun k => match k with
  | 0 => .array .int
  | 1 => .array .int
  | 2 => .int
  | 3 => .int
  | 4 => .int
  | _ => .int
abbrev wsX00 : List Cond := u_ws RX0 TX0 6
theorem nmX0 : ∀ a, a < 6 → ∀ b, b < 6 → a ≠ b → (TX0 a).2.1 ≠ (TX0 b).2.1 := by decide +kernel
theorem tyX0_ok : ∀ k, k < 6 → parseFieldDescriptor (TX0 k).2.2.1 = some (tyX0 k) := by decide +kernel
abbrev cX0_init : ByteArray := prog_2_method_1_code
def yX0_init : MethodName := ⟨RX0, "<init>", "()V"⟩
abbrev cX0_become : ByteArray := prog_2_method_2_code
def yX0_become : MethodName := ⟨RX0, "become", "(LRingInSand$Beach;)V"⟩
abbrev cX0_oddsAt : ByteArray := prog_2_method_3_code
def yX0_oddsAt : MethodName := ⟨RX0, "oddsAt", "(I)I"⟩
abbrev cX0_treadsAt : ByteArray := prog_2_method_4_code
def yX0_treadsAt : MethodName := ⟨RX0, "treadsAt", "(I)I"⟩
abbrev cX0_addOdds : ByteArray := prog_2_method_5_code
def yX0_addOdds : MethodName := ⟨RX0, "addOdds", "(II)V"⟩
abbrev cX0_addTreads : ByteArray := prog_2_method_6_code
def yX0_addTreads : MethodName := ⟨RX0, "addTreads", "(II)V"⟩
abbrev cX0_thinOdds : ByteArray := prog_2_method_7_code
def yX0_thinOdds : MethodName := ⟨RX0, "thinOdds", "(II)V"⟩
abbrev cX0_pass : ByteArray := prog_2_method_8_code
def yX0_pass : MethodName := ⟨RX0, "pass", "(I)V"⟩
abbrev cX0_oddsOnCells : ByteArray := prog_2_method_9_code
def yX0_oddsOnCells : MethodName := ⟨RX0, "oddsOnCells", "()I"⟩
abbrev cX0_allOdds : ByteArray := prog_2_method_10_code
def yX0_allOdds : MethodName := ⟨RX0, "allOdds", "()I"⟩
abbrev cX0_allTreads : ByteArray := prog_2_method_11_code
def yX0_allTreads : MethodName := ⟨RX0, "allTreads", "()I"⟩
abbrev cX0_cellOfMostOdds : ByteArray := prog_2_method_12_code
def yX0_cellOfMostOdds : MethodName := ⟨RX0, "cellOfMostOdds", "()I"⟩
abbrev cX0_cellBehind : ByteArray := prog_2_method_13_code
def yX0_cellBehind : MethodName := ⟨RX0, "cellBehind", "(I)I"⟩
def RX1 : String := "RingInSand$Eyes"
def TX1 : u_T := fun k => match k with
  | _ => ("RingInSand$Eyes", "number", "I", true)
def tyX1 : Nat → FieldType := fun k => match k with
  | _ => .int
abbrev wsX10 : List Cond := u_ws RX1 TX1 1
theorem nmX1 : ∀ a, a < 1 → ∀ b, b < 1 → a ≠ b → (TX1 a).2.1 ≠ (TX1 b).2.1 := by decide +kernel
theorem tyX1_ok : ∀ k, k < 1 → parseFieldDescriptor (TX1 k).2.2.1 = some (tyX1 k) := by decide +kernel
abbrev cX1_init : ByteArray := prog_3_method_1_code
def yX1_init : MethodName := ⟨RX1, "<init>", "(I)V"⟩
abbrev cX1_finds : ByteArray := prog_3_method_2_code
def yX1_finds : MethodName := ⟨RX1, "finds", "(II)I"⟩
abbrev cX1_takes : ByteArray := prog_3_method_3_code
def yX1_takes : MethodName := ⟨RX1, "takes", "()I"⟩
abbrev cX1_stamps : ByteArray := prog_3_method_4_code
def yX1_stamps : MethodName := ⟨RX1, "stamps", "()I"⟩
def RX2 : String := "RingInSand$Hands"
def TX2 : u_T := fun k => match k with
  | _ => ("RingInSand$Eyes", "number", "I", true)
def tyX2 : Nat → FieldType := fun k => match k with
  | _ => .int
abbrev wsX20 : List Cond := u_ws RX2 TX2 1
theorem nmX2 : ∀ a, a < 1 → ∀ b, b < 1 → a ≠ b → (TX2 a).2.1 ≠ (TX2 b).2.1 := by decide +kernel
theorem tyX2_ok : ∀ k, k < 1 → parseFieldDescriptor (TX2 k).2.2.1 = some (tyX2 k) := by decide +kernel
abbrev cX2_init : ByteArray := prog_4_method_1_code
def yX2_init : MethodName := ⟨RX2, "<init>", "(I)V"⟩
abbrev cX2_finds : ByteArray := prog_4_method_2_code
def yX2_finds : MethodName := ⟨RX2, "finds", "(II)I"⟩
abbrev cX2_takes : ByteArray := prog_4_method_3_code
def yX2_takes : MethodName := ⟨RX2, "takes", "()I"⟩
abbrev cX2_stamps : ByteArray := prog_4_method_4_code
def yX2_stamps : MethodName := ⟨RX2, "stamps", "()I"⟩
def RX3 : String := "RingInSand$Lad"
def TX3 : u_T := fun k => match k with
  | _ => ("RingInSand$Eyes", "number", "I", true)
def tyX3 : Nat → FieldType := fun k => match k with
  | _ => .int
abbrev wsX30 : List Cond := u_ws RX3 TX3 1
theorem nmX3 : ∀ a, a < 1 → ∀ b, b < 1 → a ≠ b → (TX3 a).2.1 ≠ (TX3 b).2.1 := by decide +kernel
theorem tyX3_ok : ∀ k, k < 1 → parseFieldDescriptor (TX3 k).2.2.1 = some (tyX3 k) := by decide +kernel
abbrev cX3_init : ByteArray := prog_5_method_1_code
def yX3_init : MethodName := ⟨RX3, "<init>", "(I)V"⟩
abbrev cX3_finds : ByteArray := prog_5_method_2_code
def yX3_finds : MethodName := ⟨RX3, "finds", "(II)I"⟩
abbrev cX3_takes : ByteArray := prog_5_method_3_code
def yX3_takes : MethodName := ⟨RX3, "takes", "()I"⟩
abbrev cX3_stamps : ByteArray := prog_5_method_4_code
def yX3_stamps : MethodName := ⟨RX3, "stamps", "()I"⟩
def RX4 : String := "RingInSand$Plate"
def TX4 : u_T := fun k => match k with
  | _ => ("RingInSand$Eyes", "number", "I", true)
def tyX4 : Nat → FieldType := fun k => match k with
  | _ => .int
abbrev wsX40 : List Cond := u_ws RX4 TX4 1
theorem nmX4 : ∀ a, a < 1 → ∀ b, b < 1 → a ≠ b → (TX4 a).2.1 ≠ (TX4 b).2.1 := by decide +kernel
theorem tyX4_ok : ∀ k, k < 1 → parseFieldDescriptor (TX4 k).2.2.1 = some (tyX4 k) := by decide +kernel
abbrev cX4_init : ByteArray := prog_6_method_1_code
def yX4_init : MethodName := ⟨RX4, "<init>", "(I)V"⟩
abbrev cX4_finds : ByteArray := prog_6_method_2_code
def yX4_finds : MethodName := ⟨RX4, "finds", "(II)I"⟩
abbrev cX4_takes : ByteArray := prog_6_method_3_code
def yX4_takes : MethodName := ⟨RX4, "takes", "()I"⟩
def RX5 : String := "RingInSand$Rules"
def TX5 : u_T := fun k => match k with
  | 0 => ("RingInSand$Rules", "code", "[I", true)
  | 1 => ("RingInSand$Rules", "ends", "[I", true)
  | 2 => ("RingInSand$Rules", "size", "I", false)
  | 3 => ("RingInSand$Rules", "names", "[I", true)
  | 4 => ("RingInSand$Rules", "stack", "[I", true)
  | 5 => ("RingInSand$Rules", "height", "I", false)
  | 6 => ("RingInSand$Rules", "keys", "[I", true)
  | 7 => ("RingInSand$Rules", "deeps", "[I", true)
  | 8 => ("RingInSand$Rules", "seas", "[I", true)
  | 9 => ("RingInSand$Rules", "shines", "[I", true)
  | 10 => ("RingInSand$Rules", "deep", "I", false)
  | 11 => ("RingInSand$Rules", "wet", "Z", false)
  | _ => ("RingInSand$Rules", "shine", "I", false)
def tyX5 : Nat → FieldType := fun k => match k with
  | 0 => .array .int
  | 1 => .array .int
  | 2 => .int
  | 3 => .array .int
  | 4 => .array .int
  | 5 => .int
  | 6 => .array .int
  | 7 => .array .int
  | 8 => .array .int
  | 9 => .array .int
  | 10 => .int
  | 11 => .boolean
  | _ => .int
abbrev wsX50 : List Cond := u_ws RX5 TX5 13
theorem nmX5 : ∀ a, a < 13 → ∀ b, b < 13 → a ≠ b → (TX5 a).2.1 ≠ (TX5 b).2.1 := by decide +kernel
theorem tyX5_ok : ∀ k, k < 13 → parseFieldDescriptor (TX5 k).2.2.1 = some (tyX5 k) := by decide +kernel
abbrev cX5_init : ByteArray := prog_7_method_1_code
def yX5_init : MethodName := ⟨RX5, "<init>", "()V"⟩
abbrev cX5_isFull : ByteArray := prog_7_method_2_code
def yX5_isFull : MethodName := ⟨RX5, "isFull", "()Z"⟩
abbrev cX5_hasText : ByteArray := prog_7_method_3_code
def yX5_hasText : MethodName := ⟨RX5, "hasText", "(I)Z"⟩
abbrev cX5_addFrom : ByteArray := prog_7_method_4_code
def yX5_addFrom : MethodName := ⟨RX5, "addFrom", "(LRingInSand$Tape;)V"⟩
abbrev cX5_survey : ByteArray := prog_7_method_5_code
def yX5_survey : MethodName := ⟨RX5, "survey", "(LRingInSand$Beach;I)V"⟩
abbrev cX5_isWetBy : ByteArray := prog_7_method_6_code
def yX5_isWetBy : MethodName := ⟨RX5, "isWetBy", "(IIII)Z"⟩
abbrev cX5_stand : ByteArray := prog_7_method_7_code
def yX5_stand : MethodName := ⟨RX5, "stand", "(III)V"⟩
abbrev cX5_value : ByteArray := prog_7_method_8_code
def yX5_value : MethodName := ⟨RX5, "value", "(II)I"⟩
abbrev cX5_take : ByteArray := prog_7_method_9_code
def yX5_take : MethodName := ⟨RX5, "take", "(I)V"⟩
abbrev cX5_joined : ByteArray := prog_7_method_10_code
def yX5_joined : MethodName := ⟨RX5, "joined", "(III)I"⟩
abbrev cX5_push : ByteArray := prog_7_method_11_code
def yX5_push : MethodName := ⟨RX5, "push", "(I)V"⟩
abbrev cX5_pop : ByteArray := prog_7_method_12_code
def yX5_pop : MethodName := ⟨RX5, "pop", "()I"⟩
def RX6 : String := "RingInSand$Sheet"
def TX6 : u_T := fun k => match k with
  | 0 => ("RingInSand$Sheet", "items", "[I", true)
  | 1 => ("RingInSand$Sheet", "sort", "I", false)
  | _ => ("RingInSand$Sheet", "size", "I", false)
def tyX6 : Nat → FieldType := fun k => match k with
  | 0 => .array .int
  | 1 => .int
  | _ => .int
abbrev wsX60 : List Cond := u_ws RX6 TX6 3
theorem nmX6 : ∀ a, a < 3 → ∀ b, b < 3 → a ≠ b → (TX6 a).2.1 ≠ (TX6 b).2.1 := by decide +kernel
theorem tyX6_ok : ∀ k, k < 3 → parseFieldDescriptor (TX6 k).2.2.1 = some (tyX6 k) := by decide +kernel
abbrev cX6_init : ByteArray := prog_8_method_1_code
def yX6_init : MethodName := ⟨RX6, "<init>", "()V"⟩
abbrev cX6_isMissing : ByteArray := prog_8_method_2_code
def yX6_isMissing : MethodName := ⟨RX6, "isMissing", "()Z"⟩
abbrev cX6_isOdd : ByteArray := prog_8_method_3_code
def yX6_isOdd : MethodName := ⟨RX6, "isOdd", "()Z"⟩
abbrev cX6_remove : ByteArray := prog_8_method_4_code
def yX6_remove : MethodName := ⟨RX6, "remove", "()V"⟩
abbrev cX6_lay : ByteArray := prog_8_method_5_code
def yX6_lay : MethodName := ⟨RX6, "lay", "(II)V"⟩
abbrev cX6_hasItem : ByteArray := prog_8_method_6_code
def yX6_hasItem : MethodName := ⟨RX6, "hasItem", "(I)Z"⟩
abbrev cX6_hasRange : ByteArray := prog_8_method_7_code
def yX6_hasRange : MethodName := ⟨RX6, "hasRange", "(II)Z"⟩
abbrev cX6_itemAt : ByteArray := prog_8_method_8_code
def yX6_itemAt : MethodName := ⟨RX6, "itemAt", "(I)I"⟩
abbrev cX6_put : ByteArray := prog_8_method_9_code
def yX6_put : MethodName := ⟨RX6, "put", "(II)V"⟩
abbrev cX6_narrowed : ByteArray := prog_8_method_10_code
def yX6_narrowed : MethodName := ⟨RX6, "narrowed", "(I)I"⟩
def RX7 : String := "RingInSand$Sieve"
def TX7 : u_T := fun k => match k with
  | _ => ("RingInSand$Eyes", "number", "I", true)
def tyX7 : Nat → FieldType := fun k => match k with
  | _ => .int
abbrev wsX70 : List Cond := u_ws RX7 TX7 1
theorem nmX7 : ∀ a, a < 1 → ∀ b, b < 1 → a ≠ b → (TX7 a).2.1 ≠ (TX7 b).2.1 := by decide +kernel
theorem tyX7_ok : ∀ k, k < 1 → parseFieldDescriptor (TX7 k).2.2.1 = some (tyX7 k) := by decide +kernel
abbrev cX7_init : ByteArray := prog_9_method_1_code
def yX7_init : MethodName := ⟨RX7, "<init>", "(I)V"⟩
abbrev cX7_finds : ByteArray := prog_9_method_2_code
def yX7_finds : MethodName := ⟨RX7, "finds", "(II)I"⟩
abbrev cX7_takes : ByteArray := prog_9_method_3_code
def yX7_takes : MethodName := ⟨RX7, "takes", "()I"⟩
abbrev cX7_stamps : ByteArray := prog_9_method_4_code
def yX7_stamps : MethodName := ⟨RX7, "stamps", "()I"⟩
def RX8 : String := "RingInSand$Spade"
def TX8 : u_T := fun k => match k with
  | _ => ("RingInSand$Eyes", "number", "I", true)
def tyX8 : Nat → FieldType := fun k => match k with
  | _ => .int
abbrev wsX80 : List Cond := u_ws RX8 TX8 1
theorem nmX8 : ∀ a, a < 1 → ∀ b, b < 1 → a ≠ b → (TX8 a).2.1 ≠ (TX8 b).2.1 := by decide +kernel
theorem tyX8_ok : ∀ k, k < 1 → parseFieldDescriptor (TX8 k).2.2.1 = some (tyX8 k) := by decide +kernel
abbrev cX8_init : ByteArray := prog_10_method_1_code
def yX8_init : MethodName := ⟨RX8, "<init>", "(I)V"⟩
abbrev cX8_finds : ByteArray := prog_10_method_2_code
def yX8_finds : MethodName := ⟨RX8, "finds", "(II)I"⟩
abbrev cX8_takes : ByteArray := prog_10_method_3_code
def yX8_takes : MethodName := ⟨RX8, "takes", "()I"⟩
def RX9 : String := "RingInSand$Steps"
def TX9 : u_T := fun k => match k with
  | 0 => ("RingInSand$Steps", "cells", "[I", true)
  | 1 => ("RingInSand$Steps", "gains", "[I", true)
  | 2 => ("RingInSand$Steps", "size", "I", false)
  | 3 => ("RingInSand$Steps", "allGains", "I", false)
  | _ => ("RingInSand$Steps", "allMinutes", "I", false)
def tyX9 : Nat → FieldType := fun k => match k with
  | 0 => .array .int
  | 1 => .array .int
  | 2 => .int
  | 3 => .int
  | _ => .int
abbrev wsX90 : List Cond := u_ws RX9 TX9 5
theorem nmX9 : ∀ a, a < 5 → ∀ b, b < 5 → a ≠ b → (TX9 a).2.1 ≠ (TX9 b).2.1 := by decide +kernel
theorem tyX9_ok : ∀ k, k < 5 → parseFieldDescriptor (TX9 k).2.2.1 = some (tyX9 k) := by decide +kernel
abbrev cX9_init : ByteArray := prog_11_method_1_code
def yX9_init : MethodName := ⟨RX9, "<init>", "()V"⟩
abbrev cX9_clear : ByteArray := prog_11_method_2_code
def yX9_clear : MethodName := ⟨RX9, "clear", "()V"⟩
abbrev cX9_add : ByteArray := prog_11_method_3_code
def yX9_add : MethodName := ⟨RX9, "add", "(III)V"⟩
abbrev cX9_cellAt : ByteArray := prog_11_method_4_code
def yX9_cellAt : MethodName := ⟨RX9, "cellAt", "(I)I"⟩
abbrev cX9_sizeAheadOf : ByteArray := prog_11_method_5_code
def yX9_sizeAheadOf : MethodName := ⟨RX9, "sizeAheadOf", "(I)I"⟩
abbrev cX9_hasCell : ByteArray := prog_11_method_6_code
def yX9_hasCell : MethodName := ⟨RX9, "hasCell", "(I)Z"⟩
def RX10 : String := "RingInSand$Tape"
def TX10 : u_T := fun k => match k with
  | 0 => ("RingInSand$Tape", "bytes", "[I", true)
  | 1 => ("RingInSand$Tape", "size", "I", false)
  | 2 => ("RingInSand$Tape", "fault", "I", false)
  | 3 => ("RingInSand$Tape", "tokens", "[I", true)
  | 4 => ("RingInSand$Tape", "worths", "[I", true)
  | 5 => ("RingInSand$Tape", "places", "[I", true)
  | 6 => ("RingInSand$Tape", "tokensSize", "I", false)
  | 7 => ("RingInSand$Tape", "at", "I", false)
  | 8 => ("RingInSand$Tape", "token", "I", false)
  | 9 => ("RingInSand$Tape", "open", "I", false)
  | 10 => ("RingInSand$Tape", "code", "[I", true)
  | 11 => ("RingInSand$Tape", "codeSize", "I", false)
  | 12 => ("RingInSand$Tape", "deepEnd", "I", false)
  | _ => ("RingInSand$Tape", "seaEnd", "I", false)
def tyX10 : Nat → FieldType := fun k => match k with
  | 0 => .array .int
  | 1 => .int
  | 2 => .int
  | 3 => .array .int
  | 4 => .array .int
  | 5 => .array .int
  | 6 => .int
  | 7 => .int
  | 8 => .int
  | 9 => .int
  | 10 => .array .int
  | 11 => .int
  | 12 => .int
  | _ => .int
abbrev wsX100 : List Cond := u_ws RX10 TX10 14
theorem nmX10 : ∀ a, a < 14 → ∀ b, b < 14 → a ≠ b → (TX10 a).2.1 ≠ (TX10 b).2.1 := by decide +kernel
theorem tyX10_ok : ∀ k, k < 14 → parseFieldDescriptor (TX10 k).2.2.1 = some (tyX10 k) := by decide +kernel
abbrev cX10_init : ByteArray := prog_12_method_1_code
def yX10_init : MethodName := ⟨RX10, "<init>", "()V"⟩
abbrev cX10_append : ByteArray := prog_12_method_2_code
def yX10_append : MethodName := ⟨RX10, "append", "(I)Z"⟩
abbrev cX10_clear : ByteArray := prog_12_method_3_code
def yX10_clear : MethodName := ⟨RX10, "clear", "()V"⟩
abbrev cX10_stepAt : ByteArray := prog_12_method_4_code
def yX10_stepAt : MethodName := ⟨RX10, "stepAt", "(I)I"⟩
abbrev cX10_readText : ByteArray := prog_12_method_5_code
def yX10_readText : MethodName := ⟨RX10, "readText", "()Z"⟩
abbrev cX10_readPart : ByteArray := prog_12_method_6_code
def yX10_readPart : MethodName := ⟨RX10, "readPart", "(I)Z"⟩
abbrev cX10_readOr : ByteArray := prog_12_method_7_code
def yX10_readOr : MethodName := ⟨RX10, "readOr", "()Z"⟩
abbrev cX10_readAnd : ByteArray := prog_12_method_8_code
def yX10_readAnd : MethodName := ⟨RX10, "readAnd", "()Z"⟩
abbrev cX10_readNot : ByteArray := prog_12_method_9_code
def yX10_readNot : MethodName := ⟨RX10, "readNot", "()Z"⟩
abbrev cX10_readComparison : ByteArray := prog_12_method_10_code
def yX10_readComparison : MethodName := ⟨RX10, "readComparison", "()Z"⟩
abbrev cX10_readSum : ByteArray := prog_12_method_11_code
def yX10_readSum : MethodName := ⟨RX10, "readSum", "()Z"⟩
abbrev cX10_readTerm : ByteArray := prog_12_method_12_code
def yX10_readTerm : MethodName := ⟨RX10, "readTerm", "()Z"⟩
abbrev cX10_readOne : ByteArray := prog_12_method_13_code
def yX10_readOne : MethodName := ⟨RX10, "readOne", "()Z"⟩
abbrev cX10_readNegated : ByteArray := prog_12_method_14_code
def yX10_readNegated : MethodName := ⟨RX10, "readNegated", "()Z"⟩
abbrev cX10_readBracket : ByteArray := prog_12_method_15_code
def yX10_readBracket : MethodName := ⟨RX10, "readBracket", "()Z"⟩
abbrev cX10_enter : ByteArray := prog_12_method_16_code
def yX10_enter : MethodName := ⟨RX10, "enter", "()Z"⟩
abbrev cX10_expect : ByteArray := prog_12_method_17_code
def yX10_expect : MethodName := ⟨RX10, "expect", "(I)Z"⟩
abbrev cX10_refuse : ByteArray := prog_12_method_18_code
def yX10_refuse : MethodName := ⟨RX10, "refuse", "()Z"⟩
abbrev cX10_goTo : ByteArray := prog_12_method_19_code
def yX10_goTo : MethodName := ⟨RX10, "goTo", "(I)V"⟩
abbrev cX10_worthHere : ByteArray := prog_12_method_20_code
def yX10_worthHere : MethodName := ⟨RX10, "worthHere", "()I"⟩
abbrev cX10_emit : ByteArray := prog_12_method_21_code
def yX10_emit : MethodName := ⟨RX10, "emit", "(I)V"⟩
abbrev cX10_splitTokens : ByteArray := prog_12_method_22_code
def yX10_splitTokens : MethodName := ⟨RX10, "splitTokens", "()V"⟩
abbrev cX10_addToken : ByteArray := prog_12_method_23_code
def yX10_addToken : MethodName := ⟨RX10, "addToken", "(III)V"⟩
abbrev cX10_addNumber : ByteArray := prog_12_method_24_code
def yX10_addNumber : MethodName := ⟨RX10, "addNumber", "(II)V"⟩
abbrev cX10_addWord : ByteArray := prog_12_method_25_code
def yX10_addWord : MethodName := ⟨RX10, "addWord", "(II)V"⟩
abbrev cX10_endOfWord : ByteArray := prog_12_method_26_code
def yX10_endOfWord : MethodName := ⟨RX10, "endOfWord", "(I)I"⟩
abbrev cX10_endOfNumber : ByteArray := prog_12_method_27_code
def yX10_endOfNumber : MethodName := ⟨RX10, "endOfNumber", "(I)I"⟩
abbrev cX10_nameOf : ByteArray := prog_12_method_28_code
def yX10_nameOf : MethodName := ⟨RX10, "nameOf", "(II)I"⟩
abbrev cX10_keyOf : ByteArray := prog_12_method_29_code
def yX10_keyOf : MethodName := ⟨RX10, "keyOf", "(II)I"⟩
abbrev cX10_isWord : ByteArray := prog_12_method_30_code
def yX10_isWord : MethodName := ⟨RX10, "isWord", "(Ljava/lang/String;II)Z"⟩
abbrev cX10_byteAt : ByteArray := prog_12_method_31_code
def yX10_byteAt : MethodName := ⟨RX10, "byteAt", "(I)I"⟩
abbrev cX10_isLetter : ByteArray := prog_12_method_32_code
def yX10_isLetter : MethodName := ⟨RX10, "isLetter", "(I)Z"⟩
abbrev cX10_isDigit : ByteArray := prog_12_method_33_code
def yX10_isDigit : MethodName := ⟨RX10, "isDigit", "(I)Z"⟩
abbrev cX10_isSign : ByteArray := prog_12_method_34_code
def yX10_isSign : MethodName := ⟨RX10, "isSign", "(I)Z"⟩
def RX11 : String := "RingInSand"
def TX11 : u_T := fun k => match k with
  | 0 => ("RingInSand", "now", "LRingInSand$Beach;", true)
  | 1 => ("RingInSand", "thought", "LRingInSand$Beach;", true)
  | 2 => ("RingInSand", "kept", "LRingInSand$Beach;", true)
  | 3 => ("RingInSand", "isKept", "Z", false)
  | 4 => ("RingInSand", "party", "[LRingInSand$Eyes;", true)
  | 5 => ("RingInSand", "partySize", "I", false)
  | 6 => ("RingInSand", "tape", "LRingInSand$Tape;", true)
  | 7 => ("RingInSand", "rules", "LRingInSand$Rules;", true)
  | 8 => ("RingInSand", "steps", "LRingInSand$Steps;", true)
  | 9 => ("RingInSand", "sheets", "[LRingInSand$Sheet;", true)
  | 10 => ("RingInSand", "bestLooker", "I", false)
  | 11 => ("RingInSand", "bestCell", "I", false)
  | 12 => ("RingInSand", "bestRate", "I", false)
  | _ => ("RingInSand", "judgedGains", "I", false)
def tyX11 : Nat → FieldType := fun k => match k with
  | 0 => .object "RingInSand$Beach"
  | 1 => .object "RingInSand$Beach"
  | 2 => .object "RingInSand$Beach"
  | 3 => .boolean
  | 4 => .array (.object "RingInSand$Eyes")
  | 5 => .int
  | 6 => .object "RingInSand$Tape"
  | 7 => .object "RingInSand$Rules"
  | 8 => .object "RingInSand$Steps"
  | 9 => .array (.object "RingInSand$Sheet")
  | 10 => .int
  | 11 => .int
  | 12 => .int
  | _ => .int
abbrev wsX110 : List Cond := u_ws RX11 TX11 14
theorem nmX11 : ∀ a, a < 14 → ∀ b, b < 14 → a ≠ b → (TX11 a).2.1 ≠ (TX11 b).2.1 := by decide +kernel
theorem tyX11_ok : ∀ k, k < 14 → parseFieldDescriptor (TX11 k).2.2.1 = some (tyX11 k) := by decide +kernel
abbrev cX11_init : ByteArray := prog_1_method_1_code
def yX11_init : MethodName := ⟨RX11, "<init>", "()V"⟩
abbrev cX11_set : ByteArray := prog_1_method_2_code
def yX11_set : MethodName := ⟨RX11, "set", "(III)I"⟩
abbrev cX11_told : ByteArray := prog_1_method_3_code
def yX11_told : MethodName := ⟨RX11, "told", "(II)I"⟩
abbrev cX11_looker : ByteArray := prog_1_method_4_code
def yX11_looker : MethodName := ⟨RX11, "looker", "(II)I"⟩
abbrev cX11_asks : ByteArray := prog_1_method_5_code
def yX11_asks : MethodName := ⟨RX11, "asks", "(III)I"⟩
abbrev cX11_feed : ByteArray := prog_1_method_6_code
def yX11_feed : MethodName := ⟨RX11, "feed", "(I)I"⟩
abbrev cX11_text : ByteArray := prog_1_method_7_code
def yX11_text : MethodName := ⟨RX11, "text", "()I"⟩
abbrev cX11_force : ByteArray := prog_1_method_8_code
def yX11_force : MethodName := ⟨RX11, "force", "(I)I"⟩
abbrev cX11_look : ByteArray := prog_1_method_9_code
def yX11_look : MethodName := ⟨RX11, "look", "(II)I"⟩
abbrev cX11_next : ByteArray := prog_1_method_10_code
def yX11_next : MethodName := ⟨RX11, "next", "(I)I"⟩
abbrev cX11_plan : ByteArray := prog_1_method_11_code
def yX11_plan : MethodName := ⟨RX11, "plan", "(II)I"⟩
abbrev cX11_planned : ByteArray := prog_1_method_12_code
def yX11_planned : MethodName := ⟨RX11, "planned", "(I)I"⟩
abbrev cX11_search : ByteArray := prog_1_method_13_code
def yX11_search : MethodName := ⟨RX11, "search", "()I"⟩
abbrev cX11_giveUp : ByteArray := prog_1_method_14_code
def yX11_giveUp : MethodName := ⟨RX11, "giveUp", "(I)I"⟩
abbrev cX11_likely : ByteArray := prog_1_method_15_code
def yX11_likely : MethodName := ⟨RX11, "likely", "(II)J"⟩
abbrev cX11_here : ByteArray := prog_1_method_16_code
def yX11_here : MethodName := ⟨RX11, "here", "(I)J"⟩
abbrev cX11_most : ByteArray := prog_1_method_17_code
def yX11_most : MethodName := ⟨RX11, "most", "(I)I"⟩
abbrev cX11_under : ByteArray := prog_1_method_18_code
def yX11_under : MethodName := ⟨RX11, "under", "(I)I"⟩
abbrev cX11_drowned : ByteArray := prog_1_method_19_code
def yX11_drowned : MethodName := ⟨RX11, "drowned", "(I)I"⟩
abbrev cX11_seen : ByteArray := prog_1_method_20_code
def yX11_seen : MethodName := ⟨RX11, "seen", "(II)I"⟩
abbrev cX11_crowd : ByteArray := prog_1_method_21_code
def yX11_crowd : MethodName := ⟨RX11, "crowd", "(III)I"⟩
abbrev cX11_judge : ByteArray := prog_1_method_22_code
def yX11_judge : MethodName := ⟨RX11, "judge", "(I)I"⟩
abbrev cX11_found : ByteArray := prog_1_method_23_code
def yX11_found : MethodName := ⟨RX11, "found", "(II)J"⟩
abbrev cX11_drawn : ByteArray := prog_1_method_24_code
def yX11_drawn : MethodName := ⟨RX11, "drawn", "(I)I"⟩
abbrev cX11_foundBy : ByteArray := prog_1_method_25_code
def yX11_foundBy : MethodName := ⟨RX11, "foundBy", "(II)I"⟩
abbrev cX11_image : ByteArray := prog_1_method_26_code
def yX11_image : MethodName := ⟨RX11, "image", "()I"⟩
abbrev cX11_back : ByteArray := prog_1_method_27_code
def yX11_back : MethodName := ⟨RX11, "back", "()I"⟩
abbrev cX11_count : ByteArray := prog_1_method_28_code
def yX11_count : MethodName := ⟨RX11, "count", "(I)I"⟩
abbrev cX11_sheet : ByteArray := prog_1_method_29_code
def yX11_sheet : MethodName := ⟨RX11, "sheet", "(III)I"⟩
abbrev cX11_cell : ByteArray := prog_1_method_30_code
def yX11_cell : MethodName := ⟨RX11, "cell", "(III)I"⟩
abbrev cX11_copy : ByteArray := prog_1_method_31_code
def yX11_copy : MethodName := ⟨RX11, "copy", "(IIIII)I"⟩
abbrev cX11_lookers : ByteArray := prog_1_method_32_code
def yX11_lookers : MethodName := ⟨RX11, "lookers", "(IIII)I"⟩
abbrev cX11_taken : ByteArray := prog_1_method_33_code
def yX11_taken : MethodName := ⟨RX11, "taken", "(II)I"⟩
abbrev cX11_isWithin : ByteArray := prog_1_method_34_code
def yX11_isWithin : MethodName := ⟨RX11, "isWithin", "(III)Z"⟩
abbrev cX11_bounded : ByteArray := prog_1_method_35_code
def yX11_bounded : MethodName := ⟨RX11, "bounded", "(III)I"⟩
abbrev cX11_isCell : ByteArray := prog_1_method_36_code
def yX11_isCell : MethodName := ⟨RX11, "isCell", "(I)Z"⟩
abbrev cX11_lookerAt : ByteArray := prog_1_method_37_code
def yX11_lookerAt : MethodName := ⟨RX11, "lookerAt", "(I)LRingInSand$Eyes;"⟩
abbrev cX11_sheetAt : ByteArray := prog_1_method_38_code
def yX11_sheetAt : MethodName := ⟨RX11, "sheetAt", "(I)LRingInSand$Sheet;"⟩
abbrev cX11_partOfQuotient : ByteArray := prog_1_method_39_code
def yX11_partOfQuotient : MethodName := ⟨RX11, "partOfQuotient", "(JJI)J"⟩
abbrev cX11_greatestDivisor : ByteArray := prog_1_method_40_code
def yX11_greatestDivisor : MethodName := ⟨RX11, "greatestDivisor", "(JJ)J"⟩
abbrev cX11_changeOdds : ByteArray := prog_1_method_41_code
def yX11_changeOdds : MethodName := ⟨RX11, "changeOdds", "(II)I"⟩
abbrev cX11_changeTreads : ByteArray := prog_1_method_42_code
def yX11_changeTreads : MethodName := ⟨RX11, "changeTreads", "(II)I"⟩
abbrev cX11_changeBag : ByteArray := prog_1_method_43_code
def yX11_changeBag : MethodName := ⟨RX11, "changeBag", "(I)I"⟩
abbrev cX11_changeHour : ByteArray := prog_1_method_44_code
def yX11_changeHour : MethodName := ⟨RX11, "changeHour", "(I)I"⟩
abbrev cX11_changeMinutes : ByteArray := prog_1_method_45_code
def yX11_changeMinutes : MethodName := ⟨RX11, "changeMinutes", "(I)I"⟩
abbrev cX11_ofKind : ByteArray := prog_1_method_46_code
def yX11_ofKind : MethodName := ⟨RX11, "ofKind", "(II)LRingInSand$Eyes;"⟩
abbrev cX11_isOfKind : ByteArray := prog_1_method_47_code
def yX11_isOfKind : MethodName := ⟨RX11, "isOfKind", "(LRingInSand$Eyes;I)Z"⟩
abbrev cX11_goodHere : ByteArray := prog_1_method_48_code
def yX11_goodHere : MethodName := ⟨RX11, "goodHere", "(LRingInSand$Eyes;)I"⟩
abbrev cX11_takesOf : ByteArray := prog_1_method_49_code
def yX11_takesOf : MethodName := ⟨RX11, "takesOf", "(LRingInSand$Eyes;)I"⟩
abbrev cX11_stampsOf : ByteArray := prog_1_method_50_code
def yX11_stampsOf : MethodName := ⟨RX11, "stampsOf", "(LRingInSand$Eyes;)I"⟩
abbrev cX11_gainOf : ByteArray := prog_1_method_51_code
def yX11_gainOf : MethodName := ⟨RX11, "gainOf", "(II)I"⟩
abbrev cX11_rateOf : ByteArray := prog_1_method_52_code
def yX11_rateOf : MethodName := ⟨RX11, "rateOf", "(II)I"⟩
abbrev cX11_gainByLook : ByteArray := prog_1_method_53_code
def yX11_gainByLook : MethodName := ⟨RX11, "gainByLook", "(LRingInSand$Beach;LRingInSand$Eyes;I)I"⟩
abbrev cX11_choose : ByteArray := prog_1_method_54_code
def yX11_choose : MethodName := ⟨RX11, "choose", "(LRingInSand$Beach;)Z"⟩
abbrev cX11_weighParty : ByteArray := prog_1_method_55_code
def yX11_weighParty : MethodName := ⟨RX11, "weighParty", "(II)V"⟩
abbrev cX11_makePlan : ByteArray := prog_1_method_56_code
def yX11_makePlan : MethodName := ⟨RX11, "makePlan", "(I)V"⟩
abbrev cX11_firstWrongRow : ByteArray := prog_1_method_57_code
def yX11_firstWrongRow : MethodName := ⟨RX11, "firstWrongRow", "(LRingInSand$Sheet;)I"⟩
abbrev cX11_isWetAt : ByteArray := prog_1_method_58_code
def yX11_isWetAt : MethodName := ⟨RX11, "isWetAt", "(II)Z"⟩
abbrev cX11_oddsUnderWater : ByteArray := prog_1_method_59_code
def yX11_oddsUnderWater : MethodName := ⟨RX11, "oddsUnderWater", "(I)I"⟩
abbrev cX11_hourOfMostDrowned : ByteArray := prog_1_method_60_code
def yX11_hourOfMostDrowned : MethodName := ⟨RX11, "hourOfMostDrowned", "()I"⟩
abbrev cX11_tellsCellsAlone : ByteArray := prog_1_method_61_code
def yX11_tellsCellsAlone : MethodName := ⟨RX11, "tellsCellsAlone", "(LRingInSand$Sheet;)Z"⟩
abbrev cX11_addPicture : ByteArray := prog_1_method_62_code
def yX11_addPicture : MethodName := ⟨RX11, "addPicture", "(II)V"⟩
def RX12 : String := "RingInSandModel"
def TX12 : u_T := fun k => match k with
  | 0 => ("RingInSandModel", "thrown", "I", false)
  | 1 => ("RingInSandModel", "texts", "[I", true)
  | 2 => ("RingInSandModel", "textSize", "[I", true)
  | 3 => ("RingInSandModel", "textCount", "I", false)
  | 4 => ("RingInSandModel", "rule", "I", false)
  | 5 => ("RingInSandModel", "tape", "[I", true)
  | 6 => ("RingInSandModel", "taped", "I", false)
  | 7 => ("RingInSandModel", "odds", "[I", true)
  | 8 => ("RingInSandModel", "treads", "[I", true)
  | 9 => ("RingInSandModel", "bag", "I", false)
  | 10 => ("RingInSandModel", "hour", "I", false)
  | 11 => ("RingInSandModel", "minute", "I", false)
  | 12 => ("RingInSandModel", "kinds", "[I", true)
  | 13 => ("RingInSandModel", "numbers", "[I", true)
  | 14 => ("RingInSandModel", "many", "I", false)
  | 15 => ("RingInSandModel", "ofY", "I", false)
  | 16 => ("RingInSandModel", "ofX", "I", false)
  | 17 => ("RingInSandModel", "ofDepth", "I", false)
  | 18 => ("RingInSandModel", "ofTrod", "I", false)
  | 19 => ("RingInSandModel", "ofHour", "I", false)
  | 20 => ("RingInSandModel", "ofSun", "I", false)
  | 21 => ("RingInSandModel", "from", "I", false)
  | 22 => ("RingInSandModel", "size", "I", false)
  | 23 => ("RingInSandModel", "here", "I", false)
  | 24 => ("RingInSandModel", "token", "I", false)
  | 25 => ("RingInSandModel", "tokenAt", "I", false)
  | 26 => ("RingInSandModel", "tokenWorth", "J", false)
  | 27 => ("RingInSandModel", "open", "I", false)
  | 28 => ("RingInSandModel", "bad", "Z", false)
  | 29 => ("RingInSandModel", "fault", "I", false)
  | 30 => ("RingInSandModel", "bestLooker", "I", false)
  | 31 => ("RingInSandModel", "bestCell", "I", false)
  | 32 => ("RingInSandModel", "bestPer", "I", false)
  | 33 => ("RingInSandModel", "firstPer", "[I", true)
  | 34 => ("RingInSandModel", "firstCell", "[I", true)
  | 35 => ("RingInSandModel", "oddsWas", "[I", true)
  | 36 => ("RingInSandModel", "treadsWas", "[I", true)
  | 37 => ("RingInSandModel", "hourWas", "I", false)
  | 38 => ("RingInSandModel", "minuteWas", "I", false)
  | 39 => ("RingInSandModel", "planCell", "[I", true)
  | 40 => ("RingInSandModel", "planGain", "[I", true)
  | 41 => ("RingInSandModel", "planLooks", "I", false)
  | 42 => ("RingInSandModel", "planTakes", "I", false)
  | 43 => ("RingInSandModel", "judgedGain", "I", false)
  | 44 => ("RingInSandModel", "oddsKept", "[I", true)
  | 45 => ("RingInSandModel", "treadsKept", "[I", true)
  | 46 => ("RingInSandModel", "hourKept", "I", false)
  | 47 => ("RingInSandModel", "minuteKept", "I", false)
  | 48 => ("RingInSandModel", "bagKept", "I", false)
  | 49 => ("RingInSandModel", "ruleKept", "I", false)
  | 50 => ("RingInSandModel", "isThere", "[Z", true)
  | 51 => ("RingInSandModel", "sorts", "[I", true)
  | 52 => ("RingInSandModel", "sheetSize", "[I", true)
  | _ => ("RingInSandModel", "items", "[I", true)
def tyX12 : Nat → FieldType := fun k => match k with
  | 0 => .int
  | 1 => .array .int
  | 2 => .array .int
  | 3 => .int
  | 4 => .int
  | 5 => .array .int
  | 6 => .int
  | 7 => .array .int
  | 8 => .array .int
  | 9 => .int
  | 10 => .int
  | 11 => .int
  | 12 => .array .int
  | 13 => .array .int
  | 14 => .int
  | 15 => .int
  | 16 => .int
  | 17 => .int
  | 18 => .int
  | 19 => .int
  | 20 => .int
  | 21 => .int
  | 22 => .int
  | 23 => .int
  | 24 => .int
  | 25 => .int
  | 26 => .long
  | 27 => .int
  | 28 => .boolean
  | 29 => .int
  | 30 => .int
  | 31 => .int
  | 32 => .int
  | 33 => .array .int
  | 34 => .array .int
  | 35 => .array .int
  | 36 => .array .int
  | 37 => .int
  | 38 => .int
  | 39 => .array .int
  | 40 => .array .int
  | 41 => .int
  | 42 => .int
  | 43 => .int
  | 44 => .array .int
  | 45 => .array .int
  | 46 => .int
  | 47 => .int
  | 48 => .int
  | 49 => .int
  | 50 => .array .boolean
  | 51 => .array .int
  | 52 => .array .int
  | _ => .array .int
abbrev wsX120 : List Cond := u_ws RX12 TX12 54
theorem nmX12 : ∀ a, a < 54 → ∀ b, b < 54 → a ≠ b → (TX12 a).2.1 ≠ (TX12 b).2.1 := by decide +kernel
theorem tyX12_ok : ∀ k, k < 54 → parseFieldDescriptor (TX12 k).2.2.1 = some (tyX12 k) := by decide +kernel
abbrev cX12_in : ByteArray := prog_14_method_2_code
def yX12_in : MethodName := ⟨RX12, "in", "(JJJ)Z"⟩
abbrev cX12_within : ByteArray := prog_14_method_3_code
def yX12_within : MethodName := ⟨RX12, "within", "(III)I"⟩
abbrev cX12_init : ByteArray := prog_14_method_4_code
def yX12_init : MethodName := ⟨RX12, "<init>", "()V"⟩
abbrev cX12_spell : ByteArray := prog_14_method_5_code
def yX12_spell : MethodName := ⟨RX12, "spell", "(IIIIIIIII)V"⟩
abbrev cX12_isCell : ByteArray := prog_14_method_6_code
def yX12_isCell : MethodName := ⟨RX12, "isCell", "(I)Z"⟩
abbrev cX12_isLooker : ByteArray := prog_14_method_7_code
def yX12_isLooker : MethodName := ⟨RX12, "isLooker", "(I)Z"⟩
abbrev cX12_set : ByteArray := prog_14_method_8_code
def yX12_set : MethodName := ⟨RX12, "set", "(III)I"⟩
abbrev cX12_looker : ByteArray := prog_14_method_9_code
def yX12_looker : MethodName := ⟨RX12, "looker", "(II)I"⟩
abbrev cX12_feed : ByteArray := prog_14_method_10_code
def yX12_feed : MethodName := ⟨RX12, "feed", "(I)I"⟩
abbrev cX12_byteAt : ByteArray := prog_14_method_11_code
def yX12_byteAt : MethodName := ⟨RX12, "byteAt", "(I)I"⟩
abbrev cX12_nextToken : ByteArray := prog_14_method_12_code
def yX12_nextToken : MethodName := ⟨RX12, "nextToken", "()V"⟩
abbrev cX12_fail : ByteArray := prog_14_method_13_code
def yX12_fail : MethodName := ⟨RX12, "fail", "()V"⟩
abbrev cX12_isLetter : ByteArray := prog_14_method_14_code
def yX12_isLetter : MethodName := ⟨RX12, "isLetter", "(II)Z"⟩
abbrev cX12_isWord : ByteArray := prog_14_method_15_code
def yX12_isWord : MethodName := ⟨RX12, "isWord", "(IIIIIIII)Z"⟩
abbrev cX12_isSign : ByteArray := prog_14_method_16_code
def yX12_isSign : MethodName := ⟨RX12, "isSign", "(I)Z"⟩
abbrev cX12_opens : ByteArray := prog_14_method_17_code
def yX12_opens : MethodName := ⟨RX12, "opens", "()Z"⟩
abbrev cX12_name : ByteArray := prog_14_method_18_code
def yX12_name : MethodName := ⟨RX12, "name", "()I"⟩
abbrev cX12_atom : ByteArray := prog_14_method_19_code
def yX12_atom : MethodName := ⟨RX12, "atom", "()I"⟩
abbrev cX12_term : ByteArray := prog_14_method_20_code
def yX12_term : MethodName := ⟨RX12, "term", "()I"⟩
abbrev cX12_added : ByteArray := prog_14_method_21_code
def yX12_added : MethodName := ⟨RX12, "added", "()I"⟩
abbrev cX12_not : ByteArray := prog_14_method_22_code
def yX12_not : MethodName := ⟨RX12, "not", "()I"⟩
abbrev cX12_both : ByteArray := prog_14_method_23_code
def yX12_both : MethodName := ⟨RX12, "both", "()I"⟩
abbrev cX12_either : ByteArray := prog_14_method_24_code
def yX12_either : MethodName := ⟨RX12, "either", "()I"⟩
abbrev cX12_part : ByteArray := prog_14_method_25_code
def yX12_part : MethodName := ⟨RX12, "part", "(Z)I"⟩
abbrev cX12_read : ByteArray := prog_14_method_26_code
def yX12_read : MethodName := ⟨RX12, "read", "(II)I"⟩
abbrev cX12_text : ByteArray := prog_14_method_27_code
def yX12_text : MethodName := ⟨RX12, "text", "()I"⟩
abbrev cX12_force : ByteArray := prog_14_method_28_code
def yX12_force : MethodName := ⟨RX12, "force", "(I)I"⟩
abbrev cX12_says : ByteArray := prog_14_method_29_code
def yX12_says : MethodName := ⟨RX12, "says", "(III)I"⟩
abbrev cX12_deep : ByteArray := prog_14_method_30_code
def yX12_deep : MethodName := ⟨RX12, "deep", "(I)I"⟩
abbrev cX12_isUnder : ByteArray := prog_14_method_31_code
def yX12_isUnder : MethodName := ⟨RX12, "isUnder", "(I)Z"⟩
abbrev cX12_shine : ByteArray := prog_14_method_32_code
def yX12_shine : MethodName := ⟨RX12, "shine", "(I)I"⟩
abbrev cX12_told : ByteArray := prog_14_method_33_code
def yX12_told : MethodName := ⟨RX12, "told", "(II)I"⟩
abbrev cX12_finds : ByteArray := prog_14_method_34_code
def yX12_finds : MethodName := ⟨RX12, "finds", "(III)I"⟩
abbrev cX12_takes : ByteArray := prog_14_method_35_code
def yX12_takes : MethodName := ⟨RX12, "takes", "(I)I"⟩
abbrev cX12_stamps : ByteArray := prog_14_method_36_code
def yX12_stamps : MethodName := ⟨RX12, "stamps", "(I)I"⟩
abbrev cX12_good : ByteArray := prog_14_method_37_code
def yX12_good : MethodName := ⟨RX12, "good", "(II)I"⟩
abbrev cX12_gain : ByteArray := prog_14_method_38_code
def yX12_gain : MethodName := ⟨RX12, "gain", "(II)I"⟩
abbrev cX12_asks : ByteArray := prog_14_method_39_code
def yX12_asks : MethodName := ⟨RX12, "asks", "(III)I"⟩
abbrev cX12_looks : ByteArray := prog_14_method_40_code
def yX12_looks : MethodName := ⟨RX12, "looks", "(II)V"⟩
abbrev cX12_look : ByteArray := prog_14_method_41_code
def yX12_look : MethodName := ⟨RX12, "look", "(II)I"⟩
abbrev cX12_best : ByteArray := prog_14_method_42_code
def yX12_best : MethodName := ⟨RX12, "best", "()V"⟩
abbrev cX12_next : ByteArray := prog_14_method_43_code
def yX12_next : MethodName := ⟨RX12, "next", "(I)I"⟩
abbrev cX12_search : ByteArray := prog_14_method_44_code
def yX12_search : MethodName := ⟨RX12, "search", "()I"⟩
abbrev cX12_laysAside : ByteArray := prog_14_method_45_code
def yX12_laysAside : MethodName := ⟨RX12, "laysAside", "()V"⟩
abbrev cX12_laysBack : ByteArray := prog_14_method_46_code
def yX12_laysBack : MethodName := ⟨RX12, "laysBack", "()V"⟩
abbrev cX12_plans : ByteArray := prog_14_method_47_code
def yX12_plans : MethodName := ⟨RX12, "plans", "(I)V"⟩
abbrev cX12_plan : ByteArray := prog_14_method_48_code
def yX12_plan : MethodName := ⟨RX12, "plan", "(II)I"⟩
abbrev cX12_planned : ByteArray := prog_14_method_49_code
def yX12_planned : MethodName := ⟨RX12, "planned", "(I)I"⟩
abbrev cX12_giveUp : ByteArray := prog_14_method_50_code
def yX12_giveUp : MethodName := ⟨RX12, "giveUp", "(I)I"⟩
abbrev cX12_onCells : ByteArray := prog_14_method_51_code
def yX12_onCells : MethodName := ⟨RX12, "onCells", "()I"⟩
abbrev cX12_lowest : ByteArray := prog_14_method_52_code
def yX12_lowest : MethodName := ⟨RX12, "lowest", "(JJI)J"⟩
abbrev cX12_likely : ByteArray := prog_14_method_53_code
def yX12_likely : MethodName := ⟨RX12, "likely", "(II)J"⟩
abbrev cX12_here : ByteArray := prog_14_method_54_code
def yX12_here : MethodName := ⟨RX12, "here", "(I)J"⟩
abbrev cX12_most : ByteArray := prog_14_method_55_code
def yX12_most : MethodName := ⟨RX12, "most", "(I)I"⟩
abbrev cX12_under : ByteArray := prog_14_method_56_code
def yX12_under : MethodName := ⟨RX12, "under", "(I)I"⟩
abbrev cX12_drownedNow : ByteArray := prog_14_method_57_code
def yX12_drownedNow : MethodName := ⟨RX12, "drownedNow", "()I"⟩
abbrev cX12_drowned : ByteArray := prog_14_method_58_code
def yX12_drowned : MethodName := ⟨RX12, "drowned", "(I)I"⟩
abbrev cX12_more : ByteArray := prog_14_method_59_code
def yX12_more : MethodName := ⟨RX12, "more", "(II)V"⟩
abbrev cX12_seen : ByteArray := prog_14_method_60_code
def yX12_seen : MethodName := ⟨RX12, "seen", "(II)I"⟩
abbrev cX12_crowd : ByteArray := prog_14_method_61_code
def yX12_crowd : MethodName := ⟨RX12, "crowd", "(III)I"⟩
abbrev cX12_judges : ByteArray := prog_14_method_62_code
def yX12_judges : MethodName := ⟨RX12, "judges", "(I)I"⟩
abbrev cX12_judge : ByteArray := prog_14_method_63_code
def yX12_judge : MethodName := ⟨RX12, "judge", "(I)I"⟩
abbrev cX12_found : ByteArray := prog_14_method_64_code
def yX12_found : MethodName := ⟨RX12, "found", "(II)J"⟩
abbrev cX12_drawn : ByteArray := prog_14_method_65_code
def yX12_drawn : MethodName := ⟨RX12, "drawn", "(I)I"⟩
abbrev cX12_foundBy : ByteArray := prog_14_method_66_code
def yX12_foundBy : MethodName := ⟨RX12, "foundBy", "(II)I"⟩
abbrev cX12_image : ByteArray := prog_14_method_67_code
def yX12_image : MethodName := ⟨RX12, "image", "()I"⟩
abbrev cX12_back : ByteArray := prog_14_method_68_code
def yX12_back : MethodName := ⟨RX12, "back", "()I"⟩
abbrev cX12_count : ByteArray := prog_14_method_69_code
def yX12_count : MethodName := ⟨RX12, "count", "(I)I"⟩
abbrev cX12_isSheet : ByteArray := prog_14_method_70_code
def yX12_isSheet : MethodName := ⟨RX12, "isSheet", "(I)Z"⟩
abbrev cX12_sheet : ByteArray := prog_14_method_71_code
def yX12_sheet : MethodName := ⟨RX12, "sheet", "(III)I"⟩
abbrev cX12_cell : ByteArray := prog_14_method_72_code
def yX12_cell : MethodName := ⟨RX12, "cell", "(III)I"⟩
abbrev cX12_copy : ByteArray := prog_14_method_73_code
def yX12_copy : MethodName := ⟨RX12, "copy", "(IIIII)I"⟩
abbrev cX12_lookers : ByteArray := prog_14_method_74_code
def yX12_lookers : MethodName := ⟨RX12, "lookers", "(IIII)I"⟩
abbrev cX12_over : ByteArray := prog_14_method_75_code
def yX12_over : MethodName := ⟨RX12, "over", "(I)I"⟩
abbrev cX12_taken : ByteArray := prog_14_method_76_code
def yX12_taken : MethodName := ⟨RX12, "taken", "(II)I"⟩
def RJx145de : String := "java/io/Serializable"
def TJx145de : u_T := fun k => match k with
  | _ => ("", "", "", false)
def tyJx145de : Nat → FieldType := fun k => match k with
  | _ => .int
theorem nmJx145de : ∀ a, a < 0 → ∀ b, b < 0 → a ≠ b → (TJx145de a).2.1 ≠ (TJx145de b).2.1 := by decide +kernel
theorem tyJx145de_ok : ∀ k, k < 0 → parseFieldDescriptor (TJx145de k).2.2.1 = some (tyJx145de k) := by decide +kernel
def RJx9f9b0 : String := "java/lang/CharSequence"
def TJx9f9b0 : u_T := fun k => match k with
  | _ => ("", "", "", false)
def tyJx9f9b0 : Nat → FieldType := fun k => match k with
  | _ => .int
theorem nmJx9f9b0 : ∀ a, a < 0 → ∀ b, b < 0 → a ≠ b → (TJx9f9b0 a).2.1 ≠ (TJx9f9b0 b).2.1 := by decide +kernel
theorem tyJx9f9b0_ok : ∀ k, k < 0 → parseFieldDescriptor (TJx9f9b0 k).2.2.1 = some (tyJx9f9b0 k) := by decide +kernel
def RJxb160c : String := "java/lang/Comparable"
def TJxb160c : u_T := fun k => match k with
  | _ => ("", "", "", false)
def tyJxb160c : Nat → FieldType := fun k => match k with
  | _ => .int
theorem nmJxb160c : ∀ a, a < 0 → ∀ b, b < 0 → a ≠ b → (TJxb160c a).2.1 ≠ (TJxb160c b).2.1 := by decide +kernel
theorem tyJxb160c_ok : ∀ k, k < 0 → parseFieldDescriptor (TJxb160c k).2.2.1 = some (tyJxb160c k) := by decide +kernel
def RJ9 : String := "java/lang/Math"
def TJ9 : u_T := fun k => match k with
  | _ => ("", "", "", false)
def tyJ9 : Nat → FieldType := fun k => match k with
  | _ => .int
theorem nmJ9 : ∀ a, a < 0 → ∀ b, b < 0 → a ≠ b → (TJ9 a).2.1 ≠ (TJ9 b).2.1 := by decide +kernel
theorem tyJ9_ok : ∀ k, k < 0 → parseFieldDescriptor (TJ9 k).2.2.1 = some (tyJ9 k) := by decide +kernel
abbrev cJ9_abs_0f7a4 : ByteArray := prog_15_method_59_code
def yJ9_abs_0f7a4 : MethodName := ⟨RJ9, "abs", "(I)I"⟩
abbrev cJ9_max_7cf53 : ByteArray := prog_15_method_65_code
def yJ9_max_7cf53 : MethodName := ⟨RJ9, "max", "(II)I"⟩
abbrev cJ9_min_7cf53 : ByteArray := prog_15_method_69_code
def yJ9_min_7cf53 : MethodName := ⟨RJ9, "min", "(II)I"⟩
def RJ0 : String := "java/lang/String"
def TJ0 : u_T := fun k => match k with
  | _ => ("", "", "", false)
def tyJ0 : Nat → FieldType := fun k => match k with
  | _ => .int
theorem nmJ0 : ∀ a, a < 0 → ∀ b, b < 0 → a ≠ b → (TJ0 a).2.1 ≠ (TJ0 b).2.1 := by decide +kernel
theorem tyJ0_ok : ∀ k, k < 0 → parseFieldDescriptor (TJ0 k).2.2.1 = some (tyJ0 k) := by decide +kernel
abbrev cJ0_length_8abf5 : ByteArray := prog_16_method_54_code
def yJ0_length_8abf5 : MethodName := ⟨RJ0, "length", "()I"⟩
abbrev cJ0_charAt_5068e : ByteArray := prog_16_method_56_code
def yJ0_charAt_5068e : MethodName := ⟨RJ0, "charAt", "(I)C"⟩
abbrev cJ0_coder_7d493 : ByteArray := prog_16_method_152_code
def yJ0_coder_7d493 : MethodName := ⟨RJ0, "coder", "()B"⟩
abbrev cJ0_isLatin1_aae02 : ByteArray := prog_16_method_154_code
def yJ0_isLatin1_aae02 : MethodName := ⟨RJ0, "isLatin1", "()Z"⟩
abbrev cJ0_checkIndex_df160 : ByteArray := prog_16_method_155_code
def yJ0_checkIndex_df160 : MethodName := ⟨RJ0, "checkIndex", "(II)V"⟩
def RJ1 : String := "java/lang/StringLatin1"
def TJ1 : u_T := fun k => match k with
  | _ => ("", "", "", false)
def tyJ1 : Nat → FieldType := fun k => match k with
  | _ => .int
theorem nmJ1 : ∀ a, a < 0 → ∀ b, b < 0 → a ≠ b → (TJ1 a).2.1 ≠ (TJ1 b).2.1 := by decide +kernel
theorem tyJ1_ok : ∀ k, k < 0 → parseFieldDescriptor (TJ1 k).2.2.1 = some (tyJ1 k) := by decide +kernel
abbrev cJ1_charAt_3b067 : ByteArray := prog_17_method_2_code
def yJ1_charAt_3b067 : MethodName := ⟨RJ1, "charAt", "([BI)C"⟩
def RJ2 : String := "java/lang/StringUTF16"
def TJ2 : u_T := fun k => match k with
  | _ => ("", "", "", false)
def tyJ2 : Nat → FieldType := fun k => match k with
  | _ => .int
theorem nmJ2 : ∀ a, a < 0 → ∀ b, b < 0 → a ≠ b → (TJ2 a).2.1 ≠ (TJ2 b).2.1 := by decide +kernel
theorem tyJ2_ok : ∀ k, k < 0 → parseFieldDescriptor (TJ2 k).2.2.1 = some (tyJ2 k) := by decide +kernel
abbrev cJ2_getChar_3b067 : ByteArray := prog_18_method_5_code
def yJ2_getChar_3b067 : MethodName := ⟨RJ2, "getChar", "([BI)C"⟩
abbrev cJ2_length_9d52b : ByteArray := prog_18_method_6_code
def yJ2_length_9d52b : MethodName := ⟨RJ2, "length", "([B)I"⟩
abbrev cJ2_charAt_3b067 : ByteArray := prog_18_method_83_code
def yJ2_charAt_3b067 : MethodName := ⟨RJ2, "charAt", "([BI)C"⟩
abbrev cJ2_checkIndex_2214a : ByteArray := prog_18_method_91_code
def yJ2_checkIndex_2214a : MethodName := ⟨RJ2, "checkIndex", "(I[B)V"⟩
def RJ10 : String := "java/lang/System"
def TJ10 : u_T := fun k => match k with
  | _ => ("", "", "", false)
def tyJ10 : Nat → FieldType := fun k => match k with
  | _ => .int
theorem nmJ10 : ∀ a, a < 0 → ∀ b, b < 0 → a ≠ b → (TJ10 a).2.1 ≠ (TJ10 b).2.1 := by decide +kernel
theorem tyJ10_ok : ∀ k, k < 0 → parseFieldDescriptor (TJ10 k).2.2.1 = some (tyJ10 k) := by decide +kernel
def RJxfd54e : String := "java/lang/constant/Constable"
def TJxfd54e : u_T := fun k => match k with
  | _ => ("", "", "", false)
def tyJxfd54e : Nat → FieldType := fun k => match k with
  | _ => .int
theorem nmJxfd54e : ∀ a, a < 0 → ∀ b, b < 0 → a ≠ b → (TJxfd54e a).2.1 ≠ (TJxfd54e b).2.1 := by decide +kernel
theorem tyJxfd54e_ok : ∀ k, k < 0 → parseFieldDescriptor (TJxfd54e k).2.2.1 = some (tyJxfd54e k) := by decide +kernel
def RJx3cf43 : String := "java/lang/constant/ConstantDesc"
def TJx3cf43 : u_T := fun k => match k with
  | _ => ("", "", "", false)
def tyJx3cf43 : Nat → FieldType := fun k => match k with
  | _ => .int
theorem nmJx3cf43 : ∀ a, a < 0 → ∀ b, b < 0 → a ≠ b → (TJx3cf43 a).2.1 ≠ (TJx3cf43 b).2.1 := by decide +kernel
theorem tyJx3cf43_ok : ∀ k, k < 0 → parseFieldDescriptor (TJx3cf43 k).2.2.1 = some (tyJx3cf43 k) := by decide +kernel
def RJ7 : String := "java/util/Arrays"
def TJ7 : u_T := fun k => match k with
  | _ => ("", "", "", false)
def tyJ7 : Nat → FieldType := fun k => match k with
  | _ => .int
theorem nmJ7 : ∀ a, a < 0 → ∀ b, b < 0 → a ≠ b → (TJ7 a).2.1 ≠ (TJ7 b).2.1 := by decide +kernel
theorem tyJ7_ok : ∀ k, k < 0 → parseFieldDescriptor (TJ7 k).2.2.1 = some (tyJ7 k) := by decide +kernel
abbrev cJ7_fill_53178 : ByteArray := prog_20_method_103_code
def yJ7_fill_53178 : MethodName := ⟨RJ7, "fill", "([II)V"⟩
def RJ3 : String := "jdk/internal/util/Preconditions"
def TJ3 : u_T := fun k => match k with
  | _ => ("", "", "", false)
def tyJ3 : Nat → FieldType := fun k => match k with
  | _ => .int
theorem nmJ3 : ∀ a, a < 0 → ∀ b, b < 0 → a ≠ b → (TJ3 a).2.1 ≠ (TJ3 b).2.1 := by decide +kernel
theorem tyJ3_ok : ∀ k, k < 0 → parseFieldDescriptor (TJ3 k).2.2.1 = some (tyJ3 k) := by decide +kernel
abbrev cJ3_checkIndex_8e157 : ByteArray := prog_21_method_11_code
def yJ3_checkIndex_8e157 : MethodName := ⟨RJ3, "checkIndex", "(IILjava/util/function/BiFunction;)I"⟩
def RL : String := "RingInSandLaw"
abbrev cL_law : ByteArray := code
def yL_law : MethodName := ⟨RL, "law", "([I)Z"⟩
abbrev vwCl : List vw_C := [(RX0, TX0, 6), (RX1, TX1, 1), (RX2, TX2, 1), (RX3, TX3, 1), (RX4, TX4, 1), (RX5, TX5, 13), (RX6, TX6, 3), (RX7, TX7, 1), (RX8, TX8, 1), (RX9, TX9, 5), (RX10, TX10, 14), (RX11, TX11, 14), (RX12, TX12, 54)]
end
section
/-! The machine seen from afar: an abstract heap (numbers, references, longs, kinds, lengths, how many cells), frames of abstract values, and V: the machine comes from here to Q. -/
def TG : List Cond := lw_tbl.filter goodWord
theorem tg_mem {w : Cond} (i : Nat) (h : lw_tbl[i]? = some w) (hg : goodWord w = true) : w ∈ TG := List.mem_filter.mpr ⟨List.mem_of_getElem? h, hg⟩
theorem tg_good {w : Cond} (h : w ∈ TG) : goodWord w = true := (List.mem_filter.mp h).2
theorem tg_mems {ws : List Cond} (ps : List Nat) (h : ws = ps.filterMap (fun i => lw_tbl[i]?)) (hg : ws.all goodWord = true) : ∀ w ∈ ws, w ∈ TG := by
  intro w hw
  have h1 := List.all_eq_true.mp hg w hw
  rw [h] at hw
  obtain ⟨i, -, hi⟩ := List.mem_filterMap.mp hw
  exact tg_mem i hi h1
/-- heap: ints, references, longs, kinds (0 .. 12 objects; 100 int[], 101 boolean[], 102 Eyes[], 103 Sheet[]), lengths, cells -/
abbrev AHp : Type := (Nat → Nat → Int32) × (Nat → Nat → Option Nat) × (Nat → Nat → Int64) × (Nat → Nat) × (Nat → Nat) × Nat
def hpI (h : AHp) : Nat → Nat → Int32 := h.1
def hpR (h : AHp) : Nat → Nat → Option Nat := h.2.1
def hpJ (h : AHp) : Nat → Nat → Int64 := h.2.2.1
def hpK (h : AHp) : Nat → Nat := h.2.2.2.1
def hpL (h : AHp) : Nat → Nat := h.2.2.2.2.1
def hpN (h : AHp) : Nat := h.2.2.2.2.2
def up2 {α : Type} (f : Nat → Nat → α) (a k : Nat) (v : α) : Nat → Nat → α := fun b j => if b = a ∧ j = k then v else f b j
def stI (h : AHp) (a k : Nat) (v : Int32) : AHp := (up2 h.1 a k v, h.2)
def stR (h : AHp) (a k : Nat) (v : Option Nat) : AHp := (h.1, up2 h.2.1 a k v, h.2.2)
def stJ (h : AHp) (a k : Nat) (v : Int64) : AHp := (h.1, h.2.1, up2 h.2.2.1 a k v, h.2.2.2)
def stN (h : AHp) (c n : Nat) : AHp := ((fun b j => if b = hpN h then 0 else h.1 b j), (fun b j => if b = hpN h then none else h.2.1 b j), (fun b j => if b = hpN h then 0 else h.2.2.1 b j), (fun b => if b = hpN h then c else hpK h b), (fun b => if b = hpN h then n else hpL h b), hpN h + 1)
/-- what is fixed for the run: base, class numbers, slots, array classes, the heap at the law's entry, special addresses -/
abbrev Glb : Type := Nat × (Nat → ClassId) × (Nat → Nat → Nat) × (Nat → ClassId) × Heap × (Nat → Nat)
def gB (G : Glb) : Nat := G.1
abbrev gD (G : Glb) : va_G := (G.2.1, G.2.2.1)
def gA (G : Glb) : Nat → ClassId := G.2.2.2.1
def gH (G : Glb) : Heap := G.2.2.2.2.1
def gS (G : Glb) : Nat → Nat := G.2.2.2.2.2
def gAd (G : Glb) (a : Nat) : Nat := if a < 1000000 then gB G + a else gS G (a - 1000000)
def cv (G : Glb) (v : Value) : Value := match v with
  | .ref a => .ref (gAd G a)
  | v => v
theorem gAd_lt {G : Glb} {a : Nat} (h : a < 1000000) : gAd G a = gB G + a := if_pos h
/-- tags of a class' fields: 0 int, 1 reference, 2 long, 3 boolean -/
def lyt (c : Nat) : List Nat := match c with
  | 0 => [1, 1, 0, 0, 0, 0]
  | 1 => [0]
  | 2 => [0]
  | 3 => [0]
  | 4 => [0]
  | 5 => [1, 1, 0, 1, 1, 0, 1, 1, 1, 1, 0, 3, 0]
  | 6 => [1, 0, 0]
  | 7 => [0]
  | 8 => [0]
  | 9 => [1, 1, 0, 0, 0]
  | 10 => [1, 0, 0, 1, 1, 1, 0, 0, 0, 0, 1, 0, 0, 0]
  | 11 => [1, 1, 1, 3, 1, 0, 1, 1, 1, 1, 0, 0, 0, 0]
  | 12 => [0, 1, 1, 0, 0, 1, 0, 1, 1, 0, 0, 0, 1, 1, 0, 0, 0, 0, 0, 0, 0, 0, 0, 0, 0, 0, 2, 0, 3, 0, 0, 0, 0, 1, 1, 1, 1, 0, 0, 1, 1, 0, 0, 0, 1, 1, 0, 0, 0, 0, 1, 1, 1, 1]
  | _ => []
def fdv (G : Glb) (h : AHp) (a t k : Nat) : Value := if t = 1 then va_rf ((hpR h a k).map (gAd G)) else if t = 2 then .long (hpJ h a k) else .int (hpI h a k)
def fls (G : Glb) (h : AHp) (a : Nat) : Nat → List Nat → List Value
  | _, [] => []
  | k, t :: ts => fdv G h a t k :: fls G h a (k + 1) ts
def celE (G : Glb) (h : AHp) (a : Nat) : va_E :=
  if hpK h a < 100 then .inr (hpK h a, fls G h a 0 (lyt (hpK h a)))
  else if hpK h a < 102 then .inl (gA G (hpK h a), (hpL h a, .inl (hpI h a)))
  else .inl (gA G (hpK h a), (hpL h a, .inr (.inr (.inr (.inr (fun i => (hpR h a i).map (gAd G)))))))
def Wd (G : Glb) (h : AHp) (H : Heap) : Prop := H.size = gB G + hpN h ∧ hpN h < 1000000 ∧ (∀ q, q < gB G → H[q]? = (gH G)[q]?) ∧ ∀ a, a < hpN h → va_at (gD G) vwCl (gB G + a, celE G h a) H
def arT (k : Nat) : FieldType := match k with
  | 100 => .int
  | 101 => .boolean
  | 102 => .object RX1
  | _ => .object RX6
abbrev tyA (G : Glb) : List (ClassId × FieldType) := [(gA G 100, .int), (gA G 101, .boolean), (gA G 102, .object RX1), (gA G 103, .object RX6)]
def Kd (h : AHp) (a c : Nat) : Prop := hpK h a = c ∧ a < hpN h
end
section
def nstW (w : Cond) : Bool := match w with
  | .methodLinkNest .. => true
  | .castable .. => true
  | _ => false
/-- kinds that are not under another -/
def ncL : List (String × String) := [(RX1, RX2), (RX1, RX7), (RX1, RX4), (RX1, RX8), (RX1, RX3), (RX2, RX7), (RX2, RX4), (RX2, RX8), (RX2, RX3), (RX7, RX4), (RX7, RX8), (RX7, RX3), (RX4, RX2), (RX4, RX7), (RX4, RX8), (RX4, RX3), (RX8, RX7), (RX8, RX4), (RX8, RX3), (RX3, RX2), (RX3, RX7), (RX3, RX8)]
/-- what of the tables a call must find: moved by every warming -/
def Kn (G : Glb) (U : State) : Prop := va_K (gD G) vwCl (tyA G) U ∧ (∀ w ∈ lw_tbl, nstW w = true → va_Nw w U) ∧ va_AO RX1 U ∧ va_AO RX6 U ∧ ∀ q ∈ ncL, va_Nc q.1 q.2 U
theorem Kn.warm {G : Glb} {s U : State} (hW : s.WarmedH U.vm) (h : Kn G s) : Kn G U := by
  refine ⟨va_K.moved hW.alike h.1, fun w hw hn => ?_, va_AO.moved hW.alike h.2.2.1, va_AO.moved hW.alike h.2.2.2.1, fun q hq => va_Nc.moved hW.alike (h.2.2.2.2 q hq)⟩
  have h1 := h.2.1 w hw hn
  cases w <;> first | exact va_Nw.warmM hW h1 | exact va_Nw.warmC hW h1 | cases hn
theorem Kn.same {G : Glb} {s U : State} (hv : s.vm = U.vm) (h : Kn G s) : Kn G U := by
  have ha : s.vm.Alike U.vm := by rw [hv]; exact Vm.Alike.refl _
  refine ⟨va_K.moved ha h.1, fun w hw hn => ?_, va_AO.moved ha h.2.2.1, va_AO.moved ha h.2.2.2.1, fun q hq => va_Nc.moved ha (h.2.2.2.2 q hq)⟩
  have h1 := h.2.1 w hw hn
  cases w <;> first | exact va_Nw.same rfl hv h1 | cases hn
abbrev Cx : Type := Program × Launch × Env × Room × State × MethodId × Array Value × List Frame × Method × Code
abbrev xp (X : Cx) : Program := X.1
abbrev xl (X : Cx) : Launch := X.2.1
abbrev xe (X : Cx) : Env := X.2.2.1
abbrev xR (X : Cx) : Room := X.2.2.2.1
abbrev xs (X : Cx) : State := X.2.2.2.2.1
abbrev xm (X : Cx) : MethodId := X.2.2.2.2.2.1
abbrev xa (X : Cx) : Array Value := X.2.2.2.2.2.2.1
abbrev xb (X : Cx) : List Frame := X.2.2.2.2.2.2.2.1
abbrev xM (X : Cx) : Method := X.2.2.2.2.2.2.2.2.1
abbrev xc (X : Cx) : Code := X.2.2.2.2.2.2.2.2.2
def OKx (X : Cx) (G : Glb) (own : String) (cc : ByteArray) (nL : Nat) (rt : Option FieldType) : Prop :=
  (xp X).tables.exec = Jvm.exec ∧ (xc X).code = cc ∧ (xM X).sig.returnType = rt ∧ (xc X).maxLocals = nL ∧ (xs X).vm.findClass own = some (xm X).cls ∧ (∀ w ∈ TG, w.before (xa X) (xs X) = true) ∧ Kn G (xs X) ∧ (xM X).locks = false ∧ gB G ≤ (xs X).heap.size
abbrev AsG (G : Glb) : Nat → Prop := fun q => gB G ≤ q
def asc (G : Glb) : Nat → List (Option Value) → List (Nat × Value)
  | _, [] => []
  | i, none :: t => asc G (i + 1) t
  | i, some v :: t => (i, cv G v) :: asc G (i + 1) t
def LH (G : Glb) (la : Array Slot) (nL : Nat) (ls : List (Option Value)) : Prop := lv_has la nL (asc G 0 ls)
theorem asc_mem {G : Glb} : ∀ (ls : List (Option Value)) (i j : Nat) (w : Value), (j, w) ∈ asc G i ls ↔ ∃ k v, j = i + k ∧ ls[k]? = some (some v) ∧ w = cv G v := by
  intro ls
  induction ls with
  | nil => intro i j w; simp [asc]
  | cons x t ih =>
    intro i j w
    cases x with
    | none =>
      rw [asc, ih]
      constructor
      · rintro ⟨k, v, e, h, hw⟩; exact ⟨k + 1, v, by omega, by simpa using h, hw⟩
      · rintro ⟨k, v, e, h, hw⟩
        cases k with
        | zero => simp at h
        | succ k => exact ⟨k, v, by omega, by simpa using h, hw⟩
    | some u =>
      rw [asc, List.mem_cons, ih]
      constructor
      · rintro (h | ⟨k, v, e, h, hw⟩)
        · cases h; exact ⟨0, u, by omega, by simp, rfl⟩
        · exact ⟨k + 1, v, by omega, by simpa using h, hw⟩
      · rintro ⟨k, v, e, h, hw⟩
        cases k with
        | zero =>
          left
          simp at h
          subst h; subst hw
          simp [e]
        | succ k => right; exact ⟨k, v, by omega, by simpa using h, hw⟩
theorem LH.at {G : Glb} {la : Array Slot} {nL : Nat} {ls : List (Option Value)} (h : LH G la nL ls) {i : Nat} {v : Value} (hi : ls[i]? = some (some v)) : la[i]? = some (.val (cv G v)) := h.2.2 (i, cv G v) ((asc_mem ls 0 i _).mpr ⟨i, v, by omega, hi, rfl⟩)
theorem LH.to {G : Glb} {la : Array Slot} {nL : Nat} {ls ls' : List (Option Value)} (h : LH G la nL ls) (hs : ∀ (i : Nat) (v : Value), ls'[i]? = some (some v) → ls[i]? = some (some v)) : LH G la nL ls' := by
  refine ⟨h.1, h.2.1, fun q hq => ?_⟩
  obtain ⟨i, w⟩ := q
  obtain ⟨k, v, e, hk, hw⟩ := (asc_mem ls' 0 i w).mp hq
  have : i = k := by omega
  subst this
  subst hw
  exact h.at (hs _ v hk)
def noD (ls : List (Option Value)) : Bool := ls.all (fun q => match q with | some (.double _) => false | _ => true)
theorem noD.no {ls : List (Option Value)} (h : noD ls = true) : ∀ d, ¬ some (Value.double d) ∈ ls := fun d hd => by have := List.all_eq_true.mp h _ hd; cases this
def isL (v : Option Value) : Bool := match v with
  | some (.long _) => true
  | _ => false
/-- locals with place i set -/
def lst (ls : List (Option Value)) (i : Nat) (v : Value) : List (Option Value) := match i with
  | 0 => ls.set 0 (some v)
  | j + 1 => if isL (ls.getD j none) then (ls.set j none).set (j + 1) (some v) else ls.set (j + 1) (some v)
theorem cv_cat {G : Glb} {v : Value} : (cv G v).category = v.category := by cases v <;> rfl
theorem set_at {α : Type} {l : List α} {i : Nat} {x y : α} (h : (l.set i x)[i]? = some y) : y = x := by
  rw [List.getElem?_set] at h
  simp only [if_true] at h
  split at h
  · exact (Option.some.inj h).symm
  · cases h
theorem lst_at {ls : List (Option Value)} {i : Nat} {v u : Value} (h : (lst ls i v)[i]? = some (some u)) : u = v := by
  cases i with
  | zero => exact Option.some.inj (set_at h)
  | succ j =>
    simp only [lst] at h
    split at h <;> exact Option.some.inj (set_at h)
theorem lst_ne {ls : List (Option Value)} {i j : Nat} {v u : Value} (hji : ¬ j = i) (h : (lst ls i v)[j]? = some (some u)) : ls[j]? = some (some u) ∧ (j + 1 = i → isL (some u) = false) := by
  cases i with
  | zero =>
    simp only [lst] at h
    rw [List.getElem?_set_ne (by omega)] at h
    exact ⟨h, fun e => by omega⟩
  | succ i =>
    simp only [lst] at h
    split at h
    · rw [List.getElem?_set_ne (by omega)] at h
      by_cases hi2 : i = j
      · subst hi2
        exact absurd (set_at h) (by simp)
      · rw [List.getElem?_set_ne hi2] at h
        exact ⟨h, fun e => by omega⟩
    · rename_i hn
      rw [List.getElem?_set_ne (by omega)] at h
      refine ⟨h, fun e => ?_⟩
      have : i = j := by omega
      subst this
      have hg : ls.getD i none = some u := by simp [List.getD, h]
      rw [hg] at hn
      simpa using hn
/-- only longs fill two places here -/
def nof (ls : List (Option Value)) : Prop := ∀ v : Value, some v ∈ ls → v.category = 2 → isL (some v) = true
theorem cat_isL {v : Value} (h : v.category = 2) (hn : ∀ d, v ≠ .double d) : isL (some v) = true := by
  cases v <;> first | rfl | exact absurd rfl (hn _) | (simp [Value.category] at h)
theorem LH.st {G : Glb} {la : Array Slot} {nL : Nat} {ls : List (Option Value)} {i : Nat} {v : Value} (h : lv_has la nL ((i, cv G v) :: (asc G 0 ls).filter (fun q => !(q.1 == i) && !(q.1 + 1 == i && q.2.category == 2)))) (hd : ∀ d, ¬ some (Value.double d) ∈ ls) : LH G la nL (lst ls i v) := by
  refine ⟨h.1, h.2.1, fun q hq => h.2.2 q ?_⟩
  obtain ⟨j, w⟩ := q
  obtain ⟨k, u, e, hk, hw⟩ := (asc_mem _ 0 j w).mp hq
  have : j = k := by omega
  subst this
  subst hw
  by_cases hji : j = i
  · subst hji
    rw [lst_at hk]
    exact List.mem_cons_self
  · obtain ⟨g1, g2⟩ := lst_ne hji hk
    refine List.mem_cons_of_mem _ (List.mem_filter.mpr ⟨(asc_mem ls 0 j _).mpr ⟨j, u, by omega, g1, rfl⟩, ?_⟩)
    have h1 : (j == i) = false := by simpa using hji
    simp only [h1, Bool.not_false, Bool.true_and]
    by_cases h2 : j + 1 = i
    · have g3 := g2 h2
      have hc : ¬ u.category = 2 := fun z => by
        rw [cat_isL z (fun d ed => hd d (by rw [← ed]; exact List.mem_of_getElem? g1))] at g3
        cases g3
      simp [cv_cat, hc]
    · have h3 : (j + 1 == i) = false := by simpa using h2
      simp [h3]
/-- a long at i fills i and i + 1 -/
def lstL (ls : List (Option Value)) (i : Nat) (x : Int64) : List (Option Value) := (lst ls i (.long x)).set (i + 1) none
theorem LH.stL {G : Glb} {la : Array Slot} {nL : Nat} {ls : List (Option Value)} {i : Nat} {x : Int64} (h : lv_has la nL ((i, Value.long x) :: (asc G 0 ls).filter (fun q => !(q.1 == i) && (!(q.1 == i + 1) && !(q.1 + 1 == i && q.2.category == 2))))) (hd : ∀ d, ¬ some (Value.double d) ∈ ls) : LH G la nL (lstL ls i x) := by
  refine ⟨h.1, h.2.1, fun q hq => h.2.2 q ?_⟩
  obtain ⟨j, w⟩ := q
  obtain ⟨k, u, e, hk, hw⟩ := (asc_mem _ 0 j w).mp hq
  have : j = k := by omega
  subst this
  subst hw
  have hj1 : ¬ j = i + 1 := by
    intro z
    subst z
    exact absurd (set_at hk) (by simp)
  unfold lstL at hk
  rw [List.getElem?_set_ne (by omega)] at hk
  by_cases hji : j = i
  · subst hji
    rw [lst_at hk]
    exact List.mem_cons_self
  · obtain ⟨g1, g2⟩ := lst_ne hji hk
    refine List.mem_cons_of_mem _ (List.mem_filter.mpr ⟨(asc_mem ls 0 j _).mpr ⟨j, u, by omega, g1, rfl⟩, ?_⟩)
    have h1 : (j == i) = false := by simpa using hji
    have h4 : (j == i + 1) = false := by simpa using hj1
    simp only [h1, h4, Bool.not_false, Bool.true_and]
    by_cases h2 : j + 1 = i
    · have g3 := g2 h2
      have hc : ¬ u.category = 2 := fun z => by
        rw [cat_isL z (fun d ed => hd d (by rw [← ed]; exact List.mem_of_getElem? g1))] at g3
        cases g3
      simp [cv_cat, hc]
    · have h3 : (j + 1 == i) = false := by simpa using h2
      simp [h3]
end
section
def V (X : Cx) (G : Glb) (nL k n : Nat) (Q : State → Prop) (pc : Nat) (ls : List (Option Value)) (st : List Value) (h : AHp) : Prop :=
  ∀ (H : Heap) (locs : List Loc) (la : Array Slot), Wd G h H → va_S (AsG G) (xs X).heap H locs → LH G la nL ls → W (xp X) (xl X) (xe X) (xR X) (xs X) (xm X) (xa X) (xb X) (xM X) (xc X) H locs k n Q (F0 (xm X) pc la (st.map (cv G)))
/-- an instruction at its place, and the place behind it -/
def Dq (cc : ByteArray) (pc : Nat) (i : Instr) (len pc' : Nat) : Prop := decode cc pc = .ok (i, len) ∧ pc + len = pc'
section VL
variable {X : Cx} {G : Glb} {own : String} {cc : ByteArray} {nL k n pc pc' : Nat} {rt : Option FieldType} {Q : State → Prop} {ls : List (Option Value)} {st : List Value} {h : AHp}
theorem v_iconst (hX : OKx X G own cc nL rt) {i : Int} {v : Int32} (hv : Int32.ofInt i = v) (hd : Dq cc pc (.iconst i) 1 pc') (kk : V X G nL k n Q pc' ls (.int v :: st) h) : V X G nL k n Q pc ls (st) h := by
  obtain ⟨hd, rfl⟩ := hd
  intro H locs la hW hS hL
  exact lv_iconst hX.1 hX.2.1 hd hv (kk H locs la hW hS hL)
theorem v_bipush (hX : OKx X G own cc nL rt) {i : Int} {v : Int32} (hv : (Int8.ofInt i).toInt32 = v) (hd : Dq cc pc (.bipush i) 2 pc') (kk : V X G nL k n Q pc' ls (.int v :: st) h) : V X G nL k n Q pc ls (st) h := by
  obtain ⟨hd, rfl⟩ := hd
  intro H locs la hW hS hL
  exact lv_bipush hX.1 hX.2.1 hd hv (kk H locs la hW hS hL)
theorem v_sipush (hX : OKx X G own cc nL rt) {i : Int} {v : Int32} (hv : (Int16.ofInt i).toInt32 = v) (hd : Dq cc pc (.sipush i) 3 pc') (kk : V X G nL k n Q pc' ls (.int v :: st) h) : V X G nL k n Q pc ls (st) h := by
  obtain ⟨hd, rfl⟩ := hd
  intro H locs la hW hS hL
  exact lv_sipush hX.1 hX.2.1 hd hv (kk H locs la hW hS hL)
theorem v_ldc (hX : OKx X G own cc nL rt) {ix : Nat} {v : Int32} (hw : Cond.constant own ix v ∈ TG) (hd : Dq cc pc (.ldc ix) 2 pc') (kk : V X G nL k n Q pc' ls (.int v :: st) h) : V X G nL k n Q pc ls (st) h := by
  obtain ⟨hd, rfl⟩ := hd
  intro H locs la hW hS hL
  exact lv_ldc hX.1 hX.2.1 hX.2.2.2.2.1 (hX.2.2.2.2.2.1 _ hw) hd (kk H locs la hW hS hL)
theorem v_ldc2 (hX : OKx X G own cc nL rt) {ix : Nat} {v : Int64} (hw : Cond.constantLong own ix v ∈ TG) (hd : Dq cc pc (.ldc2_w ix) 3 pc') (kk : V X G nL k n Q pc' ls (.long v :: st) h) : V X G nL k n Q pc ls (st) h := by
  obtain ⟨hd, rfl⟩ := hd
  intro H locs la hW hS hL
  exact lv_ldc2 hX.1 hX.2.1 hX.2.2.2.2.1 (hX.2.2.2.2.2.1 _ hw) hd (kk H locs la hW hS hL)
theorem v_lconst (hX : OKx X G own cc nL rt) {i : Fin 2} {v : Int64} (hv : Int64.ofNat (i : Nat) = v) (hd : Dq cc pc (.lconst i) 1 pc') (kk : V X G nL k n Q pc' ls (.long v :: st) h) : V X G nL k n Q pc ls (st) h := by
  obtain ⟨hd, rfl⟩ := hd
  intro H locs la hW hS hL
  exact lv_lconst hX.1 hX.2.1 hd hv (kk H locs la hW hS hL)
theorem v_null (hX : OKx X G own cc nL rt)  (hd : Dq cc pc (.aconst_null) 1 pc') (kk : V X G nL k n Q pc' ls (.null :: st) h) : V X G nL k n Q pc ls (st) h := by
  obtain ⟨hd, rfl⟩ := hd
  intro H locs la hW hS hL
  exact lv_null hX.1 hX.2.1 hd (kk H locs la hW hS hL)
theorem v_iload_n (hX : OKx X G own cc nL rt) {i : Fin 4} {x : Int32} (hl : ls[i.val]? = some (some (.int x))) (hd : Dq cc pc (.iload_n i) 1 pc') (kk : V X G nL k n Q pc' ls (.int x :: st) h) : V X G nL k n Q pc ls (st) h := by
  obtain ⟨hd, rfl⟩ := hd
  intro H locs la hW hS hL
  exact lv_iload_n hX.1 hX.2.1 hd rfl (hL.at hl) (kk H locs la hW hS hL)
theorem v_iload (hX : OKx X G own cc nL rt) {i : Nat} {x : Int32} (hl : ls[i]? = some (some (.int x))) (hd : Dq cc pc (.iload i) 2 pc') (kk : V X G nL k n Q pc' ls (.int x :: st) h) : V X G nL k n Q pc ls (st) h := by
  obtain ⟨hd, rfl⟩ := hd
  intro H locs la hW hS hL
  exact lv_iload hX.1 hX.2.1 hd (hL.at hl) (kk H locs la hW hS hL)
theorem v_lload_n (hX : OKx X G own cc nL rt) {i : Fin 4} {x : Int64} (hl : ls[i.val]? = some (some (.long x))) (hd : Dq cc pc (.lload_n i) 1 pc') (kk : V X G nL k n Q pc' ls (.long x :: st) h) : V X G nL k n Q pc ls (st) h := by
  obtain ⟨hd, rfl⟩ := hd
  intro H locs la hW hS hL
  exact lv_lload_n hX.1 hX.2.1 hd rfl (hL.at hl) (kk H locs la hW hS hL)
theorem v_lload (hX : OKx X G own cc nL rt) {i : Nat} {x : Int64} (hl : ls[i]? = some (some (.long x))) (hd : Dq cc pc (.lload i) 2 pc') (kk : V X G nL k n Q pc' ls (.long x :: st) h) : V X G nL k n Q pc ls (st) h := by
  obtain ⟨hd, rfl⟩ := hd
  intro H locs la hW hS hL
  exact lv_lload hX.1 hX.2.1 hd (hL.at hl) (kk H locs la hW hS hL)
theorem v_aload_n (hX : OKx X G own cc nL rt) {i : Fin 4} {x : Nat} (hl : ls[i.val]? = some (some (.ref x))) (hd : Dq cc pc (.aload_n i) 1 pc') (kk : V X G nL k n Q pc' ls (.ref x :: st) h) : V X G nL k n Q pc ls (st) h := by
  obtain ⟨hd, rfl⟩ := hd
  intro H locs la hW hS hL
  exact lv_aload_n hX.1 hX.2.1 hd rfl (hL.at hl) (kk H locs la hW hS hL)
theorem v_aload (hX : OKx X G own cc nL rt) {i : Nat} {x : Nat} (hl : ls[i]? = some (some (.ref x))) (hd : Dq cc pc (.aload i) 2 pc') (kk : V X G nL k n Q pc' ls (.ref x :: st) h) : V X G nL k n Q pc ls (st) h := by
  obtain ⟨hd, rfl⟩ := hd
  intro H locs la hW hS hL
  exact lv_aload hX.1 hX.2.1 hd (hL.at hl) (kk H locs la hW hS hL)
theorem v_iadd (hX : OKx X G own cc nL rt) {x y : Int32} (hd : Dq cc pc (.iadd) 1 pc') (kk : V X G nL k n Q pc' ls (.int (x + y) :: st) h) : V X G nL k n Q pc ls (.int y :: .int x :: st) h := by
  obtain ⟨hd, rfl⟩ := hd
  intro H locs la hW hS hL
  exact lv_iadd hX.1 hX.2.1 hd (kk H locs la hW hS hL)
theorem v_isub (hX : OKx X G own cc nL rt) {x y : Int32} (hd : Dq cc pc (.isub) 1 pc') (kk : V X G nL k n Q pc' ls (.int (x - y) :: st) h) : V X G nL k n Q pc ls (.int y :: .int x :: st) h := by
  obtain ⟨hd, rfl⟩ := hd
  intro H locs la hW hS hL
  exact lv_isub hX.1 hX.2.1 hd (kk H locs la hW hS hL)
theorem v_imul (hX : OKx X G own cc nL rt) {x y : Int32} (hd : Dq cc pc (.imul) 1 pc') (kk : V X G nL k n Q pc' ls (.int (x * y) :: st) h) : V X G nL k n Q pc ls (.int y :: .int x :: st) h := by
  obtain ⟨hd, rfl⟩ := hd
  intro H locs la hW hS hL
  exact lv_imul hX.1 hX.2.1 hd (kk H locs la hW hS hL)
theorem v_iand (hX : OKx X G own cc nL rt) {x y : Int32} (hd : Dq cc pc (.iand) 1 pc') (kk : V X G nL k n Q pc' ls (.int (x &&& y) :: st) h) : V X G nL k n Q pc ls (.int y :: .int x :: st) h := by
  obtain ⟨hd, rfl⟩ := hd
  intro H locs la hW hS hL
  exact lv_iand hX.1 hX.2.1 hd (kk H locs la hW hS hL)
theorem v_ior (hX : OKx X G own cc nL rt) {x y : Int32} (hd : Dq cc pc (.ior) 1 pc') (kk : V X G nL k n Q pc' ls (.int (x ||| y) :: st) h) : V X G nL k n Q pc ls (.int y :: .int x :: st) h := by
  obtain ⟨hd, rfl⟩ := hd
  intro H locs la hW hS hL
  exact lv_ior hX.1 hX.2.1 hd (kk H locs la hW hS hL)
theorem v_ishl (hX : OKx X G own cc nL rt) {x y : Int32} (hd : Dq cc pc (.ishl) 1 pc') (kk : V X G nL k n Q pc' ls (.int (x <<< (y &&& 31)) :: st) h) : V X G nL k n Q pc ls (.int y :: .int x :: st) h := by
  obtain ⟨hd, rfl⟩ := hd
  intro H locs la hW hS hL
  exact lv_ishl hX.1 hX.2.1 hd (kk H locs la hW hS hL)
theorem v_iushr (hX : OKx X G own cc nL rt) {x y : Int32} (hd : Dq cc pc (.iushr) 1 pc') (kk : V X G nL k n Q pc' ls (.int ((x.toUInt32 >>> (y.toUInt32 &&& Int32.toUInt32 31)).toInt32) :: st) h) : V X G nL k n Q pc ls (.int y :: .int x :: st) h := by
  obtain ⟨hd, rfl⟩ := hd
  intro H locs la hW hS hL
  exact lv_iushr hX.1 hX.2.1 hd rfl (kk H locs la hW hS hL)
theorem v_idiv (hX : OKx X G own cc nL rt) {x y : Int32} (hy : ¬ y = 0) (hd : Dq cc pc (.idiv) 1 pc') (kk : V X G nL k n Q pc' ls (.int (x / y) :: st) h) : V X G nL k n Q pc ls (.int y :: .int x :: st) h := by
  obtain ⟨hd, rfl⟩ := hd
  intro H locs la hW hS hL
  exact lv_idiv hX.1 hX.2.1 hd hy (kk H locs la hW hS hL)
theorem v_irem (hX : OKx X G own cc nL rt) {x y : Int32} (hy : ¬ y = 0) (hd : Dq cc pc (.irem) 1 pc') (kk : V X G nL k n Q pc' ls (.int (x - x / y * y) :: st) h) : V X G nL k n Q pc ls (.int y :: .int x :: st) h := by
  obtain ⟨hd, rfl⟩ := hd
  intro H locs la hW hS hL
  exact lv_irem hX.1 hX.2.1 hd hy (kk H locs la hW hS hL)
theorem v_ineg (hX : OKx X G own cc nL rt) {x : Int32} (hd : Dq cc pc (.ineg) 1 pc') (kk : V X G nL k n Q pc' ls (.int (-x) :: st) h) : V X G nL k n Q pc ls (.int x :: st) h := by
  obtain ⟨hd, rfl⟩ := hd
  intro H locs la hW hS hL
  exact lv_ineg hX.1 hX.2.1 hd (kk H locs la hW hS hL)
theorem v_ladd (hX : OKx X G own cc nL rt) {x y : Int64} (hd : Dq cc pc (.ladd) 1 pc') (kk : V X G nL k n Q pc' ls (.long (x + y) :: st) h) : V X G nL k n Q pc ls (.long y :: .long x :: st) h := by
  obtain ⟨hd, rfl⟩ := hd
  intro H locs la hW hS hL
  exact lv_ladd hX.1 hX.2.1 hd (kk H locs la hW hS hL)
theorem v_lsub (hX : OKx X G own cc nL rt) {x y : Int64} (hd : Dq cc pc (.lsub) 1 pc') (kk : V X G nL k n Q pc' ls (.long (x - y) :: st) h) : V X G nL k n Q pc ls (.long y :: .long x :: st) h := by
  obtain ⟨hd, rfl⟩ := hd
  intro H locs la hW hS hL
  exact lv_lsub hX.1 hX.2.1 hd (kk H locs la hW hS hL)
theorem v_lmul (hX : OKx X G own cc nL rt) {x y : Int64} (hd : Dq cc pc (.lmul) 1 pc') (kk : V X G nL k n Q pc' ls (.long (x * y) :: st) h) : V X G nL k n Q pc ls (.long y :: .long x :: st) h := by
  obtain ⟨hd, rfl⟩ := hd
  intro H locs la hW hS hL
  exact lv_lmul hX.1 hX.2.1 hd (kk H locs la hW hS hL)
theorem v_ldiv (hX : OKx X G own cc nL rt) {x y : Int64} (hy : ¬ y = 0) (hd : Dq cc pc (.ldiv) 1 pc') (kk : V X G nL k n Q pc' ls (.long (x / y) :: st) h) : V X G nL k n Q pc ls (.long y :: .long x :: st) h := by
  obtain ⟨hd, rfl⟩ := hd
  intro H locs la hW hS hL
  exact lv_ldiv hX.1 hX.2.1 hd hy (kk H locs la hW hS hL)
theorem v_lrem (hX : OKx X G own cc nL rt) {x y : Int64} (hy : ¬ y = 0) (hd : Dq cc pc (.lrem) 1 pc') (kk : V X G nL k n Q pc' ls (.long (x - x / y * y) :: st) h) : V X G nL k n Q pc ls (.long y :: .long x :: st) h := by
  obtain ⟨hd, rfl⟩ := hd
  intro H locs la hW hS hL
  exact lv_lrem hX.1 hX.2.1 hd hy (kk H locs la hW hS hL)
theorem v_i2l (hX : OKx X G own cc nL rt) {x : Int32} (hd : Dq cc pc (.i2l) 1 pc') (kk : V X G nL k n Q pc' ls (.long (x.toInt64) :: st) h) : V X G nL k n Q pc ls (.int x :: st) h := by
  obtain ⟨hd, rfl⟩ := hd
  intro H locs la hW hS hL
  exact lv_i2l hX.1 hX.2.1 hd rfl (kk H locs la hW hS hL)
theorem v_l2i (hX : OKx X G own cc nL rt) {x : Int64} (hd : Dq cc pc (.l2i) 1 pc') (kk : V X G nL k n Q pc' ls (.int (x.toInt32) :: st) h) : V X G nL k n Q pc ls (.long x :: st) h := by
  obtain ⟨hd, rfl⟩ := hd
  intro H locs la hW hS hL
  exact lv_l2i hX.1 hX.2.1 hd rfl (kk H locs la hW hS hL)
theorem v_i2b (hX : OKx X G own cc nL rt) {x : Int32} (hd : Dq cc pc (.i2b) 1 pc') (kk : V X G nL k n Q pc' ls (.int (x.toInt8.toInt32) :: st) h) : V X G nL k n Q pc ls (.int x :: st) h := by
  obtain ⟨hd, rfl⟩ := hd
  intro H locs la hW hS hL
  exact lv_i2b hX.1 hX.2.1 hd rfl (kk H locs la hW hS hL)
theorem v_i2s (hX : OKx X G own cc nL rt) {x : Int32} (hd : Dq cc pc (.i2s) 1 pc') (kk : V X G nL k n Q pc' ls (.int (x.toInt16.toInt32) :: st) h) : V X G nL k n Q pc ls (.int x :: st) h := by
  obtain ⟨hd, rfl⟩ := hd
  intro H locs la hW hS hL
  exact lv_i2s hX.1 hX.2.1 hd rfl (kk H locs la hW hS hL)
theorem v_dup (hX : OKx X G own cc nL rt) {v : Value} (hv : v.category = 1) (hd : Dq cc pc (.dup) 1 pc') (kk : V X G nL k n Q pc' ls (v :: v :: st) h) : V X G nL k n Q pc ls (v :: st) h := by
  obtain ⟨hd, rfl⟩ := hd
  intro H locs la hW hS hL
  exact lv_dup hX.1 hX.2.1 hd (by rw [cv_cat]; exact hv) (kk H locs la hW hS hL)
theorem v_pop (hX : OKx X G own cc nL rt) {v : Value} (hv : v.category = 1) (hd : Dq cc pc (.pop) 1 pc') (kk : V X G nL k n Q pc' ls (st) h) : V X G nL k n Q pc ls (v :: st) h := by
  obtain ⟨hd, rfl⟩ := hd
  intro H locs la hW hS hL
  exact lv_pop hX.1 hX.2.1 hd (by rw [cv_cat]; exact hv) (kk H locs la hW hS hL)
theorem v_istore_n (hX : OKx X G own cc nL rt) {i : Fin 4} {x : Int32} (hn : i.val < nL) (hq : noD ls = true) {ls' : List (Option Value)} (hl' : lst ls i.val (.int x) = ls') (hd : Dq cc pc (.istore_n i) 1 pc') (kk : V X G nL k n Q pc' ls' st h) : V X G nL k n Q pc ls (.int x :: st) h := by
  obtain ⟨hd, rfl⟩ := hd
  subst hl'
  intro H locs la hW hS hL
  exact lv_istore_n hX.1 hX.2.1 hd rfl hL hn rfl (fun la' hL' => kk H locs la' hW hS (LH.st hL' (noD.no hq)))
theorem v_istore (hX : OKx X G own cc nL rt) {i : Nat} {x : Int32} (hn : i < nL) (hq : noD ls = true) {ls' : List (Option Value)} (hl' : lst ls i (.int x) = ls') (hd : Dq cc pc (.istore i) 2 pc') (kk : V X G nL k n Q pc' ls' st h) : V X G nL k n Q pc ls (.int x :: st) h := by
  obtain ⟨hd, rfl⟩ := hd
  subst hl'
  intro H locs la hW hS hL
  exact lv_istore hX.1 hX.2.1 hd  hL hn rfl (fun la' hL' => kk H locs la' hW hS (LH.st hL' (noD.no hq)))
theorem v_astore_n (hX : OKx X G own cc nL rt) {i : Fin 4} {x : Nat} (hn : i.val < nL) (hq : noD ls = true) {ls' : List (Option Value)} (hl' : lst ls i.val (.ref x) = ls') (hd : Dq cc pc (.astore_n i) 1 pc') (kk : V X G nL k n Q pc' ls' st h) : V X G nL k n Q pc ls (.ref x :: st) h := by
  obtain ⟨hd, rfl⟩ := hd
  subst hl'
  intro H locs la hW hS hL
  exact lv_astore_n hX.1 hX.2.1 hd rfl hL hn rfl (fun la' hL' => kk H locs la' hW hS (LH.st hL' (noD.no hq)))
theorem v_astore (hX : OKx X G own cc nL rt) {i : Nat} {x : Nat} (hn : i < nL) (hq : noD ls = true) {ls' : List (Option Value)} (hl' : lst ls i (.ref x) = ls') (hd : Dq cc pc (.astore i) 2 pc') (kk : V X G nL k n Q pc' ls' st h) : V X G nL k n Q pc ls (.ref x :: st) h := by
  obtain ⟨hd, rfl⟩ := hd
  subst hl'
  intro H locs la hW hS hL
  exact lv_astore hX.1 hX.2.1 hd  hL hn rfl (fun la' hL' => kk H locs la' hW hS (LH.st hL' (noD.no hq)))
theorem v_lstore_n (hX : OKx X G own cc nL rt) {i : Fin 4} {x : Int64} (hn : i.val + 1 < nL) (hq : noD ls = true) {ls' : List (Option Value)} (hl' : lstL ls i.val x = ls') (hd : Dq cc pc (.lstore_n i) 1 pc') (kk : V X G nL k n Q pc' ls' st h) : V X G nL k n Q pc ls (.long x :: st) h := by
  obtain ⟨hd, rfl⟩ := hd
  subst hl'
  intro H locs la hW hS hL
  exact lv_lstore_n hX.1 hX.2.1 hd rfl hL hn rfl (fun la' hL' => kk H locs la' hW hS (LH.stL hL' (noD.no hq)))
theorem v_lstore (hX : OKx X G own cc nL rt) {i : Nat} {x : Int64} (hn : i + 1 < nL) (hq : noD ls = true) {ls' : List (Option Value)} (hl' : lstL ls i x = ls') (hd : Dq cc pc (.lstore i) 2 pc') (kk : V X G nL k n Q pc' ls' st h) : V X G nL k n Q pc ls (.long x :: st) h := by
  obtain ⟨hd, rfl⟩ := hd
  subst hl'
  intro H locs la hW hS hL
  exact lv_lstore hX.1 hX.2.1 hd  hL hn rfl (fun la' hL' => kk H locs la' hW hS (LH.stL hL' (noD.no hq)))
theorem v_iinc (hX : OKx X G own cc nL rt) {i : Nat} {d : Int} {x v : Int32} (hx : ls[i]? = some (some (.int x))) (hv : x + Int32.ofInt d = v) (hn : i < nL) (hq : noD ls = true) {ls' : List (Option Value)} (hl' : lst ls i (.int v) = ls') (hd : Dq cc pc (.iinc i d) 3 pc') (kk : V X G nL k n Q pc' ls' st h) : V X G nL k n Q pc ls st h := by
  obtain ⟨hd, rfl⟩ := hd
  subst hl'
  intro H locs la hW hS hL
  obtain ⟨j, hj⟩ := List.getElem?_of_mem ((asc_mem (G := G) ls 0 i (.int x)).mpr ⟨i, .int x, by omega, hx, rfl⟩)
  exact lv_iinc hX.1 hX.2.1 hd hL hj hv hn rfl (fun la' hL' => kk H locs la' hW hS (LH.st hL' (noD.no hq)))
theorem v_if_eq (hX : OKx X G own cc nL rt) {x : Int32} {off : Int} (tgt : Nat) (hd : Dq cc pc (.ifCond .eq off) 3 pc') (ht : (pc : Int) + off = (tgt : Int)) (kt : x = 0 → V X G nL k n Q tgt ls st h) (kf : ¬ (x = 0) → V X G nL k n Q pc' ls st h) : V X G nL k n Q pc ls (.int x :: st) h := by
  obtain ⟨hd, rfl⟩ := hd
  intro H locs la hW hS hL
  exact lv_if_eq hX.1 hX.2.1 hd ht (fun c => kt c H locs la hW hS hL) (fun c => kf c H locs la hW hS hL)
theorem v_if_lt (hX : OKx X G own cc nL rt) {x : Int32} {off : Int} (tgt : Nat) (hd : Dq cc pc (.ifCond .lt off) 3 pc') (ht : (pc : Int) + off = (tgt : Int)) (kt : x < 0 → V X G nL k n Q tgt ls st h) (kf : ¬ (x < 0) → V X G nL k n Q pc' ls st h) : V X G nL k n Q pc ls (.int x :: st) h := by
  obtain ⟨hd, rfl⟩ := hd
  intro H locs la hW hS hL
  exact lv_if_lt hX.1 hX.2.1 hd ht (fun c => kt c H locs la hW hS hL) (fun c => kf c H locs la hW hS hL)
theorem v_if_ge (hX : OKx X G own cc nL rt) {x : Int32} {off : Int} (tgt : Nat) (hd : Dq cc pc (.ifCond .ge off) 3 pc') (ht : (pc : Int) + off = (tgt : Int)) (kt : 0 ≤ x → V X G nL k n Q tgt ls st h) (kf : ¬ (0 ≤ x) → V X G nL k n Q pc' ls st h) : V X G nL k n Q pc ls (.int x :: st) h := by
  obtain ⟨hd, rfl⟩ := hd
  intro H locs la hW hS hL
  exact lv_if_ge hX.1 hX.2.1 hd ht (fun c => kt c H locs la hW hS hL) (fun c => kf c H locs la hW hS hL)
theorem v_if_gt (hX : OKx X G own cc nL rt) {x : Int32} {off : Int} (tgt : Nat) (hd : Dq cc pc (.ifCond .gt off) 3 pc') (ht : (pc : Int) + off = (tgt : Int)) (kt : 0 < x → V X G nL k n Q tgt ls st h) (kf : ¬ (0 < x) → V X G nL k n Q pc' ls st h) : V X G nL k n Q pc ls (.int x :: st) h := by
  obtain ⟨hd, rfl⟩ := hd
  intro H locs la hW hS hL
  exact lv_if_gt hX.1 hX.2.1 hd ht (fun c => kt c H locs la hW hS hL) (fun c => kf c H locs la hW hS hL)
theorem v_if_le (hX : OKx X G own cc nL rt) {x : Int32} {off : Int} (tgt : Nat) (hd : Dq cc pc (.ifCond .le off) 3 pc') (ht : (pc : Int) + off = (tgt : Int)) (kt : x ≤ 0 → V X G nL k n Q tgt ls st h) (kf : ¬ (x ≤ 0) → V X G nL k n Q pc' ls st h) : V X G nL k n Q pc ls (.int x :: st) h := by
  obtain ⟨hd, rfl⟩ := hd
  intro H locs la hW hS hL
  exact lv_if_le hX.1 hX.2.1 hd ht (fun c => kt c H locs la hW hS hL) (fun c => kf c H locs la hW hS hL)
theorem v_icmp_eq (hX : OKx X G own cc nL rt) {x y : Int32} {off : Int} (tgt : Nat) (hd : Dq cc pc (.if_icmp .eq off) 3 pc') (ht : (pc : Int) + off = (tgt : Int)) (kt : x = y → V X G nL k n Q tgt ls st h) (kf : ¬ (x = y) → V X G nL k n Q pc' ls st h) : V X G nL k n Q pc ls (.int y :: .int x :: st) h := by
  obtain ⟨hd, rfl⟩ := hd
  intro H locs la hW hS hL
  exact lv_icmp_eq hX.1 hX.2.1 hd ht (fun c => kt c H locs la hW hS hL) (fun c => kf c H locs la hW hS hL)
theorem v_icmp_lt (hX : OKx X G own cc nL rt) {x y : Int32} {off : Int} (tgt : Nat) (hd : Dq cc pc (.if_icmp .lt off) 3 pc') (ht : (pc : Int) + off = (tgt : Int)) (kt : x < y → V X G nL k n Q tgt ls st h) (kf : ¬ (x < y) → V X G nL k n Q pc' ls st h) : V X G nL k n Q pc ls (.int y :: .int x :: st) h := by
  obtain ⟨hd, rfl⟩ := hd
  intro H locs la hW hS hL
  exact lv_icmp_lt hX.1 hX.2.1 hd ht (fun c => kt c H locs la hW hS hL) (fun c => kf c H locs la hW hS hL)
theorem v_icmp_ge (hX : OKx X G own cc nL rt) {x y : Int32} {off : Int} (tgt : Nat) (hd : Dq cc pc (.if_icmp .ge off) 3 pc') (ht : (pc : Int) + off = (tgt : Int)) (kt : y ≤ x → V X G nL k n Q tgt ls st h) (kf : ¬ (y ≤ x) → V X G nL k n Q pc' ls st h) : V X G nL k n Q pc ls (.int y :: .int x :: st) h := by
  obtain ⟨hd, rfl⟩ := hd
  intro H locs la hW hS hL
  exact lv_icmp_ge hX.1 hX.2.1 hd ht (fun c => kt c H locs la hW hS hL) (fun c => kf c H locs la hW hS hL)
theorem v_icmp_gt (hX : OKx X G own cc nL rt) {x y : Int32} {off : Int} (tgt : Nat) (hd : Dq cc pc (.if_icmp .gt off) 3 pc') (ht : (pc : Int) + off = (tgt : Int)) (kt : y < x → V X G nL k n Q tgt ls st h) (kf : ¬ (y < x) → V X G nL k n Q pc' ls st h) : V X G nL k n Q pc ls (.int y :: .int x :: st) h := by
  obtain ⟨hd, rfl⟩ := hd
  intro H locs la hW hS hL
  exact lv_icmp_gt hX.1 hX.2.1 hd ht (fun c => kt c H locs la hW hS hL) (fun c => kf c H locs la hW hS hL)
theorem v_icmp_le (hX : OKx X G own cc nL rt) {x y : Int32} {off : Int} (tgt : Nat) (hd : Dq cc pc (.if_icmp .le off) 3 pc') (ht : (pc : Int) + off = (tgt : Int)) (kt : x ≤ y → V X G nL k n Q tgt ls st h) (kf : ¬ (x ≤ y) → V X G nL k n Q pc' ls st h) : V X G nL k n Q pc ls (.int y :: .int x :: st) h := by
  obtain ⟨hd, rfl⟩ := hd
  intro H locs la hW hS hL
  exact lv_icmp_le hX.1 hX.2.1 hd ht (fun c => kt c H locs la hW hS hL) (fun c => kf c H locs la hW hS hL)

theorem v_if_ne (hX : OKx X G own cc nL rt) {x : Int32} {off : Int} (tgt : Nat) (hd : Dq cc pc (.ifCond .ne off) 3 pc') (ht : (pc : Int) + off = (tgt : Int)) (kt : ¬ x = 0 → V X G nL k n Q tgt ls st h) (kf : x = 0 → V X G nL k n Q pc' ls st h) : V X G nL k n Q pc ls (.int x :: st) h := by
  obtain ⟨hd, rfl⟩ := hd
  intro H locs la hW hS hL
  exact lv_if_ne hX.1 hX.2.1 hd ht (fun c => kt c H locs la hW hS hL) (fun c => kf c H locs la hW hS hL)
theorem v_icmp_ne (hX : OKx X G own cc nL rt) {x y : Int32} {off : Int} (tgt : Nat) (hd : Dq cc pc (.if_icmp .ne off) 3 pc') (ht : (pc : Int) + off = (tgt : Int)) (kt : ¬ x = y → V X G nL k n Q tgt ls st h) (kf : x = y → V X G nL k n Q pc' ls st h) : V X G nL k n Q pc ls (.int y :: .int x :: st) h := by
  obtain ⟨hd, rfl⟩ := hd
  intro H locs la hW hS hL
  exact lv_icmp_ne hX.1 hX.2.1 hd ht (fun c => kt c H locs la hW hS hL) (fun c => kf c H locs la hW hS hL)
theorem v_goto (hX : OKx X G own cc nL rt) {off : Int} (tgt : Nat) (hd : Dq cc pc (.goto off) 3 pc') (ht : (pc : Int) + off = (tgt : Int)) (kk : V X G nL k n Q tgt ls st h) : V X G nL k n Q pc ls st h := by
  obtain ⟨hd, rfl⟩ := hd
  intro H locs la hW hS hL
  exact lv_goto hX.1 hX.2.1 hd ht (kk H locs la hW hS hL)
theorem v_ifnull (hX : OKx X G own cc nL rt) {x : Nat} {off : Int} (hd : Dq cc pc (.ifnull off) 3 pc') (kk : V X G nL k n Q pc' ls st h) : V X G nL k n Q pc ls (.ref x :: st) h := by
  obtain ⟨hd, rfl⟩ := hd
  intro H locs la hW hS hL
  exact lv_ifnull hX.1 hX.2.1 hd (kk H locs la hW hS hL)
theorem v_ifnullN (hX : OKx X G own cc nL rt) {off : Int} (tgt : Nat) (hd : Dq cc pc (.ifnull off) 3 pc') (ht : (pc : Int) + off = (tgt : Int)) (kk : V X G nL k n Q tgt ls st h) : V X G nL k n Q pc ls (.null :: st) h := by
  obtain ⟨hd, rfl⟩ := hd
  intro H locs la hW hS hL
  exact lv_ifnullN hX.1 hX.2.1 hd ht (kk H locs la hW hS hL)
theorem v_ifnonnull (hX : OKx X G own cc nL rt) {x : Nat} {off : Int} (tgt : Nat) (hd : Dq cc pc (.ifnonnull off) 3 pc') (ht : (pc : Int) + off = (tgt : Int)) (kk : V X G nL k n Q tgt ls st h) : V X G nL k n Q pc ls (.ref x :: st) h := by
  obtain ⟨hd, rfl⟩ := hd
  intro H locs la hW hS hL
  exact lv_ifnonnull hX.1 hX.2.1 hd ht (kk H locs la hW hS hL)
theorem v_ifnonnullN (hX : OKx X G own cc nL rt) {off : Int} (hd : Dq cc pc (.ifnonnull off) 3 pc') (kk : V X G nL k n Q pc' ls st h) : V X G nL k n Q pc ls (.null :: st) h := by
  obtain ⟨hd, rfl⟩ := hd
  intro H locs la hW hS hL
  exact lv_ifnonnullN hX.1 hX.2.1 hd (kk H locs la hW hS hL)
theorem v_lcmp (hX : OKx X G own cc nL rt) {x y : Int64} (hd : Dq cc pc .lcmp 1 pc') (kk : V X G nL k n Q pc' ls (.int (lg_cmp x y) :: st) h) : V X G nL k n Q pc ls (.long y :: .long x :: st) h := by
  obtain ⟨hd, rfl⟩ := hd
  intro H locs la hW hS hL
  exact W.lcmp hX.1 hX.2.1 hd (kk H locs la hW hS hL)
theorem v_tableOut (hX : OKx X G own cc nL rt) {dflt lo hi : Int} {offs : Array Int} {len : Nat} {x : Int32} (tgt : Nat) (hd : Dq cc pc (.tableswitch dflt lo hi offs) len pc') (hx : x.toInt < lo ∨ hi < x.toInt) (ht : (pc : Int) + dflt = (tgt : Int)) (kk : V X G nL k n Q tgt ls st h) : V X G nL k n Q pc ls (.int x :: st) h := by
  obtain ⟨hd, rfl⟩ := hd
  intro H locs la hW hS hL
  exact lv_tableOut hX.1 hX.2.1 hd hx ht (kk H locs la hW hS hL)
theorem v_tableIn (hX : OKx X G own cc nL rt) {dflt lo hi : Int} {offs : Array Int} {len : Nat} {x : Int32} {off : Int} (tgt : Nat) (hd : Dq cc pc (.tableswitch dflt lo hi offs) len pc') (h1 : ¬ x.toInt < lo) (h2 : ¬ hi < x.toInt) (ho : offs[(x.toInt - lo).toNat]? = some off) (ht : (pc : Int) + off = (tgt : Int)) (kk : V X G nL k n Q tgt ls st h) : V X G nL k n Q pc ls (.int x :: st) h := by
  obtain ⟨hd, rfl⟩ := hd
  intro H locs la hW hS hL
  exact lv_tableIn hX.1 hX.2.1 hd h1 h2 ho ht (kk H locs la hW hS hL)
theorem v_lookup (hX : OKx X G own cc nL rt) {dflt : Int} {ps : Array (Int × Int)} {len : Nat} {x : Int32} {off : Int} (tgt : Nat) (hd : Dq cc pc (.lookupswitch dflt ps) len pc') (hp : (ps.toList.zip (ps.toList.drop 1)).all (fun (a, next) => a.1 < next.1) = true) (ho : Op.lookupswitch.offset ps.toList dflt x.toInt = off) (ht : (pc : Int) + off = (tgt : Int)) (kk : V X G nL k n Q tgt ls st h) : V X G nL k n Q pc ls (.int x :: st) h := by
  obtain ⟨hd, rfl⟩ := hd
  intro H locs la hW hS hL
  exact lv_lookup hX.1 hX.2.1 hd hp ho ht (kk H locs la hW hS hL)
end VL
end
section
/-! fields and arrays -/
theorem fls_len {G : Glb} {h : AHp} {a : Nat} : ∀ (ts : List Nat) (k : Nat), (fls G h a k ts).length = ts.length := by
  intro ts
  induction ts with
  | nil => intro k; rfl
  | cons t ts ih => intro k; simp [fls, ih]
theorem fls_at {G : Glb} {h : AHp} {a : Nat} : ∀ (ts : List Nat) (k j t : Nat), ts[j]? = some t → (fls G h a k ts)[j]? = some (fdv G h a t (k + j)) := by
  intro ts
  induction ts with
  | nil => intro k j t hj; simp at hj
  | cons u ts ih =>
    intro k j t hj
    cases j with
    | zero => simp at hj; subst hj; simp [fls]
    | succ j =>
      simp only [fls, List.getElem?_cons_succ] at hj ⊢
      rw [ih (k + 1) j t hj]
      congr 2
      omega
theorem fls_ext {G : Glb} {h h' : AHp} {a a' : Nat} : ∀ (ts : List Nat) (k : Nat), (∀ j t, ts[j]? = some t → fdv G h a t (k + j) = fdv G h' a' t (k + j)) → fls G h a k ts = fls G h' a' k ts := by
  intro ts
  induction ts with
  | nil => intro k _; rfl
  | cons u ts ih =>
    intro k hj
    simp only [fls]
    rw [show fdv G h a u k = fdv G h' a' u k from hj 0 u rfl, ih (k + 1) (fun j t h1 => by have := hj (j + 1) t (by simpa using h1); rw [show k + 1 + j = k + (j + 1) by omega]; exact this)]
theorem fls_set {G : Glb} {h h' : AHp} {a : Nat} {v : Value} : ∀ (ts : List Nat) (k j t : Nat), ts[j]? = some t → fdv G h' a t (k + j) = v → (∀ i u, ts[i]? = some u → i ≠ j → fdv G h a u (k + i) = fdv G h' a u (k + i)) → (fls G h a k ts).set j v = fls G h' a k ts := by
  intro ts
  induction ts with
  | nil => intro k j t hj; simp at hj
  | cons u ts ih =>
    intro k j t hj hv hn
    cases j with
    | zero =>
      simp at hj
      subst hj
      simp only [fls, List.set_cons_zero]
      rw [show fdv G h' a u k = v from hv]
      congr 1
      exact fls_ext ts (k + 1) (fun j t h1 => by have := hn (j + 1) t (by simpa using h1) (by omega); rw [show k + 1 + j = k + (j + 1) by omega]; exact this)
    | succ j =>
      simp only [fls, List.set_cons_succ]
      rw [show fdv G h a u k = fdv G h' a u k from hn 0 u rfl (by omega)]
      congr 1
      refine ih (k + 1) j t (by simpa using hj) (by rw [show k + 1 + j = k + (j + 1) by omega]; exact hv) (fun i w h1 h2 => ?_)
      have := hn (i + 1) w (by simpa using h1) (by omega)
      rw [show k + 1 + i = k + (i + 1) by omega]
      exact this
theorem celE_obj {G : Glb} {h : AHp} {a c : Nat} (hk : hpK h a = c) (hc : c < 100) : celE G h a = .inr (c, fls G h a 0 (lyt c)) := by subst hk; exact if_pos hc
theorem celE_int {G : Glb} {h : AHp} {a c : Nat} (hk : hpK h a = c) (hc : c = 100 ∨ c = 101) : celE G h a = .inl (gA G c, (hpL h a, .inl (hpI h a))) := by
  unfold celE
  rw [hk, if_neg (by omega), if_pos (by omega)]
theorem celE_ref {G : Glb} {h : AHp} {a c : Nat} (hk : hpK h a = c) (hc : c = 102 ∨ c = 103) : celE G h a = .inl (gA G c, (hpL h a, .inr (.inr (.inr (.inr (fun i => (hpR h a i).map (gAd G))))))) := by
  unfold celE
  rw [hk, if_neg (by omega), if_neg (by omega)]
def tyT (t : FieldType) : Nat := match t with
  | .int => 0
  | .object _ => 1
  | .array _ => 1
  | .long => 2
  | .boolean => 3
  | _ => 9
theorem tyT_int {t : FieldType} (h : tyT t = 0) : t = .int := by cases t <;> first | rfl | cases h
theorem tyT_long {t : FieldType} (h : tyT t = 2) : t = .long := by cases t <;> first | rfl | cases h
theorem tyT_bool {t : FieldType} (h : tyT t = 3) : t = .boolean := by cases t <;> first | rfl | cases h
theorem tyT_ref {t : FieldType} (h : tyT t = 1) {v : Value} (hv : v = .null ∨ ∃ a, v = .ref a) : narrow t v = v ∧ fits t v = true ∧ defaultValue t = .null := by
  cases t <;> first | cases h | skip
  all_goals rcases hv with rfl | ⟨a, rfl⟩ <;> exact ⟨rfl, rfl, rfl⟩
/-- a class of ours, and all that is decided of it -/
def ClOK (ci : Nat) (C : String) (T : u_T) (N : Nat) (ty : Nat → FieldType) : Prop := vwCl[ci]? = some (C, T, N) ∧ (∀ w ∈ u_ws C T N, w ∈ TG) ∧ (∀ k, k < N → parseFieldDescriptor (T k).2.2.1 = some (ty k)) ∧ (∀ a, a < N → ∀ b, b < N → a ≠ b → (T a).2.1 ≠ (T b).2.1) ∧ (lyt ci).length = N ∧ ci < 100 ∧ (∀ k, k < N → (lyt ci).getD k 8 = tyT (ty k))
/-- the field k (of tag t) of class ci, by the pool's entry ix of own -/
def FL (own : String) (ix ci k t : Nat) (fin : Bool) : Prop := ∃ (C : String) (T : u_T) (N : Nat) (ty : Nat → FieldType) (ref : String), ClOK ci C T N ty ∧ k < N ∧ (lyt ci)[k]? = some t ∧ (T k).2.2.2 = fin ∧ Cond.fieldLink own ix ref (T k).2.1 (T k).2.2.1 ∈ TG ∧ ((T k).1 = ref ∨ Cond.sameField ref (T k).1 (T k).2.1 (T k).2.2.1 ∈ TG) ∧ (fin = true → (T k).1 = own)
/-- the same, to be read -/
def FG (own : String) (ix ci k t : Nat) : Prop := ∃ (C : String) (T : u_T) (N : Nat) (ty : Nat → FieldType) (ref : String), ClOK ci C T N ty ∧ k < N ∧ (lyt ci)[k]? = some t ∧ Cond.fieldLink own ix ref (T k).2.1 (T k).2.2.1 ∈ TG ∧ ((T k).1 = ref ∨ Cond.sameField ref (T k).1 (T k).2.1 (T k).2.2.1 ∈ TG)
theorem FL.ty {own : String} {ix ci k t : Nat} {C : String} {T : u_T} {N : Nat} {ty : Nat → FieldType} (hc : ClOK ci C T N ty) (hk : k < N) (ht : (lyt ci)[k]? = some t) : tyT (ty k) = t := by
  rw [← hc.2.2.2.2.2.2 k hk]
  simp [List.getD, ht]
theorem va_at.here {D : va_G} {cl : List vw_C} {a : Nat} {e : va_E} {H : Heap} (h : va_at D cl (a, e) H) : va_P D cl [(a, e)] H := fun k q hq => by
  have hz : k < 1 := (List.getElem?_eq_some_iff.mp hq).1
  rw [show k = 0 by omega] at hq
  cases hq
  exact h
theorem Wd.at {G : Glb} {h : AHp} {H : Heap} (hW : Wd G h H) {a c : Nat} (hk : Kd h a c) : va_at (gD G) vwCl (gAd G a, celE G h a) H := by
  rw [gAd_lt (Nat.lt_trans hk.2 hW.2.1)]
  exact hW.2.2.2 a hk.2
section VH
variable {X : Cx} {G : Glb} {own : String} {cc : ByteArray} {nL k n pc pc' : Nat} {rt : Option FieldType} {Q : State → Prop} {ls : List (Option Value)} {st : List Value} {h : AHp}
theorem v_get (hX : OKx X G own cc nL rt) {ix ci fk t a : Nat} {v : Value} (hf : FG own ix ci fk t) (hk : Kd h a ci) (hv : fdv G h a t fk = cv G v) (hd : Dq cc pc (.getfield ix) 3 pc') (kk : V X G nL k n Q pc' ls (v :: st) h) : V X G nL k n Q pc ls (.ref a :: st) h := by
  obtain ⟨hd, rfl⟩ := hd
  obtain ⟨C, T, N, ty, ref, hc, hN, ht, hl, hs⟩ := hf
  intro H locs la hW hS hL
  have hat := hW.at hk
  rw [celE_obj hk.1 hc.2.2.2.2.2.1] at hat
  have he := fls_at (G := G) (h := h) (a := a) (lyt ci) 0 fk t ht
  rw [Nat.zero_add, hv] at he
  refine va_get (D := gD G) (cl := vwCl) (C := C) (T := T) (N := N) (ref := ref) hX.1 hX.2.1 hX.2.2.2.2.2.1 hc.2.1 hX.2.2.2.2.1 hX.2.2.2.2.2.2.1.1 hat.here 0 rfl hc.1 fk hN (hX.2.2.2.2.2.1 _ hl) ?_ he hd (kk H locs la hW hS hL)
  rcases hs with rfl | hs
  · exact fun x h => h
  · exact fun x h => u_same (hX.2.2.2.2.2.1 _ hs) x h
theorem v_getI (hX : OKx X G own cc nL rt) {ix ci fk t a : Nat} (hf : FG own ix ci fk t) (ht : t = 0 ∨ t = 3) (hk : Kd h a ci) (hd : Dq cc pc (.getfield ix) 3 pc') (kk : V X G nL k n Q pc' ls (.int (hpI h a fk) :: st) h) : V X G nL k n Q pc ls (.ref a :: st) h := v_get hX hf hk (by rcases ht with rfl | rfl <;> rfl) hd kk
theorem v_getJ (hX : OKx X G own cc nL rt) {ix ci fk a : Nat} (hf : FG own ix ci fk 2) (hk : Kd h a ci) (hd : Dq cc pc (.getfield ix) 3 pc') (kk : V X G nL k n Q pc' ls (.long (hpJ h a fk) :: st) h) : V X G nL k n Q pc ls (.ref a :: st) h := v_get hX hf hk rfl hd kk
theorem v_getR (hX : OKx X G own cc nL rt) {ix ci fk a b : Nat} (hf : FG own ix ci fk 1) (hk : Kd h a ci) (hr : hpR h a fk = some b) (hd : Dq cc pc (.getfield ix) 3 pc') (kk : V X G nL k n Q pc' ls (.ref b :: st) h) : V X G nL k n Q pc ls (.ref a :: st) h := v_get hX hf hk (by show va_rf ((hpR h a fk).map (gAd G)) = _; rw [hr]; rfl) hd kk
/-- the world behind a write into one cell -/
theorem Wd.put {G : Glb} {h h' : AHp} {H H1 : Heap} {a : Nat} (hW : Wd G h H) (ha : a < hpN h) (hn : hpN h' = hpN h) (hz : H1.size = H.size) (oq : ∀ q : Nat, q ≠ gB G + a → H1[q]? = H[q]?) (h1 : va_at (gD G) vwCl (gB G + a, celE G h' a) H1) (ho : ∀ b, b ≠ a → celE G h' b = celE G h b) : Wd G h' H1 := by
  refine ⟨by rw [hz, hn]; exact hW.1, by rw [hn]; exact hW.2.1, fun q hq => ?_, fun b hb => ?_⟩
  · rw [oq q (by omega)]; exact hW.2.2.1 q hq
  · by_cases hba : b = a
    · subst hba; exact h1
    · rw [ho b hba]
      exact (hW.2.2.2 b (by rw [← hn]; exact hb)).kept (oq (gB G + b) (by omega))
theorem cel_stI {G : Glb} {h : AHp} {a i : Nat} {x : Int32} {b : Nat} (hb : b ≠ a) : celE G (stI h a i x) b = celE G h b := by
  have e1 : hpI (stI h a i x) b = hpI h b := by funext j; show up2 h.1 a i x b j = h.1 b j; exact if_neg (fun z => hb z.1)
  unfold celE
  show (if hpK h b < 100 then (Sum.inr (hpK h b, fls G (stI h a i x) b 0 (lyt (hpK h b))) : va_E) else if hpK h b < 102 then .inl (gA G (hpK h b), (hpL h b, .inl (hpI (stI h a i x) b))) else .inl (gA G (hpK h b), (hpL h b, .inr (.inr (.inr (.inr (fun i => (hpR h b i).map (gAd G)))))))) = _
  rw [e1, fls_ext (h := stI h a i x) (h' := h) (lyt (hpK h b)) 0 (fun j t _ => by unfold fdv; rw [e1]; rfl)]
theorem cel_stJ {G : Glb} {h : AHp} {a i : Nat} {x : Int64} {b : Nat} (hb : b ≠ a) : celE G (stJ h a i x) b = celE G h b := by
  have e1 : hpJ (stJ h a i x) b = hpJ h b := by funext j; show up2 h.2.2.1 a i x b j = h.2.2.1 b j; exact if_neg (fun z => hb z.1)
  unfold celE
  show (if hpK h b < 100 then (Sum.inr (hpK h b, fls G (stJ h a i x) b 0 (lyt (hpK h b))) : va_E) else if hpK h b < 102 then .inl (gA G (hpK h b), (hpL h b, .inl (hpI h b))) else .inl (gA G (hpK h b), (hpL h b, .inr (.inr (.inr (.inr (fun i => (hpR h b i).map (gAd G)))))))) = _
  rw [fls_ext (h := stJ h a i x) (h' := h) (lyt (hpK h b)) 0 (fun j t _ => by unfold fdv; rw [e1]; rfl)]
theorem cel_stR {G : Glb} {h : AHp} {a i : Nat} {x : Option Nat} {b : Nat} (hb : b ≠ a) : celE G (stR h a i x) b = celE G h b := by
  have e1 : hpR (stR h a i x) b = hpR h b := by funext j; show up2 h.2.1 a i x b j = h.2.1 b j; exact if_neg (fun z => hb z.1)
  unfold celE
  show (if hpK h b < 100 then (Sum.inr (hpK h b, fls G (stR h a i x) b 0 (lyt (hpK h b))) : va_E) else if hpK h b < 102 then .inl (gA G (hpK h b), (hpL h b, .inl (hpI h b))) else .inl (gA G (hpK h b), (hpL h b, .inr (.inr (.inr (.inr (fun i2 => (hpR (stR h a i x) b i2).map (gAd G)))))))) = _
  rw [e1, fls_ext (h := stR h a i x) (h' := h) (lyt (hpK h b)) 0 (fun j t _ => by unfold fdv; rw [e1]; rfl)]
end VH
end
section
section VP
variable {X : Cx} {G : Glb} {own : String} {cc : ByteArray} {nL k n pc pc' : Nat} {rt : Option FieldType} {Q : State → Prop} {ls : List (Option Value)} {st : List Value} {h : AHp}
/-- putfield, its new cell told -/
theorem w_put {p : Program} {l : Launch} {e : Env} {R : Room} {s : State} {m : MethodId} {args : Array Value} {below : List Frame} {meth : Method} {c : Code} {H : Heap} {locs : List Loc} {cells slots : Nat} {la : Array Slot} {rest : List Value} {D : va_G} {a ix ci fk : Nat} {tys : List (ClassId × FieldType)}
    (hexec : p.tables.exec = Jvm.exec) (hb : c.code = cc) {ref C : String} {T : u_T} {N : Nat} {ty : Nat → FieldType} (hts : ∀ w ∈ TG, w.before args s = true) (hc : ClOK ci C T N ty) (hown : s.vm.findClass own = some m.cls) (hK : va_K D vwCl tys s) {fs : List Value} (hat : va_at D vwCl (a, .inr (ci, fs)) H) (hk : fk < N) (hl : Cond.fieldLink own ix ref (T fk).2.1 (T fk).2.2.1 ∈ TG) (hs : (T fk).1 = ref ∨ Cond.sameField ref (T fk).1 (T fk).2.1 (T fk).2.2.1 ∈ TG)
    (hfin : (T fk).2.2.2 = false ∨ ((T fk).2.2.2 = true ∧ meth.name = "<init>" ∧ (T fk).1 = own)) {v : Value} (hn : narrow (ty fk) v = v) (hfit : fits (ty fk) v = true) (hlen : fk < fs.length) (hdg : decode cc pc = .ok (.putfield ix, 3))
    (kk : ∀ (H1 : Heap) (sl : Nat), va_at D vwCl (a, .inr (ci, fs.set fk v)) H1 → H1.size = H.size → (∀ q : Nat, q ≠ a → H1[q]? = H[q]?) → W p l e R s m args below meth c H1 (locs ++ [⟨a, sl⟩]) cells slots Q (F0 m (pc + 3) la rest)) : W p l e R s m args below meth c H locs cells slots Q (F0 m pc la (v :: .ref a :: rest)) := by
  have hsame : ∀ x, s.fieldFound? (T fk).1 (T fk).2.1 (T fk).2.2.1 = some x → s.fieldFound? ref (T fk).2.1 (T fk).2.2.1 = some x := by
    rcases hs with rfl | hs
    · exact fun x h => h
    · exact fun x h => u_same (hts _ hs) x h
  have hap := va_apart (own := own) hts hc.2.1 ty hc.2.2.1 hc.2.2.2.1 hK hc.1
  obtain ⟨r, h1, cell, q1, q2, q3, q4⟩ := hat
  have hr : r = (C, T, N) := Option.some.inj (h1.symm.trans hc.1)
  subst hr
  obtain ⟨hS, hfc, kC, hkC, hkind⟩ := hK.1 ci _ hc.1
  obtain ⟨cf, kf, fi, f, hi, hsl⟩ := hS fk hk
  have hlay := hts _ (hc.2.1 _ (u_in_lay hk))
  unfold u_lay at hlay
  have hst := (u_facts hfc hkC (u_lays hts hc.2.1 hk) hi).1
  have fin : ∀ (H' : Heap), H'[a]? = some (cell.setSlot f.slot v) → H'.size = H.size → (∀ q, q ≠ a → H'[q]? = H[q]?) → W p l e R s m args below meth c H' (locs ++ [⟨a, f.slot⟩]) cells slots Q (F0 m (pc + 3) la rest) := fun H' e1 e2 e3 => by
    rw [hsl] at e1
    exact kk H' _ ⟨_, hc.1, t_OB.to (V := updV (vp_V fs) fk v) ⟨_, e1, q2, q3, t_set q4 hap hk v⟩ (fun j _ => vp_updV_set hlen v j)⟩ e2 e3
  rcases hfin with hfin | ⟨hfin, hin2, hdecl⟩
  · rw [if_neg (by rw [hfin]; decide)] at hlay
    have h6 := u_store hfc hkC hkind hlay hi (hc.2.2.1 fk hk) hn hfit
    exact W.putK hexec hb (f := f) ⟨hown, hl |> hts _, ⟨_, _, _, hsame _ hi⟩, hst⟩ (by rw [q2]; exact h6) q1 q3 (by rw [hsl]; exact k2_hasslot (q4 fk hk)) rfl rfl hdg fin
  · rw [if_pos hfin] at hlay
    have hcf : m.cls = cf := by
      obtain ⟨_, _, c', _, _, _, -, -, hf', -, -, -, hown2, -⟩ := Cond.laysFinal_spec hlay
      have e1 : c' = cf := by have := hi.symm.trans hf'; simp at this; exact this.1.symm
      rw [hdecl] at hown2
      rw [← e1]; exact Option.some.inj (hown.symm.trans hown2)
    have h6 := u_fits hfc hkC hkind (Or.inr hlay) hi (hc.2.2.1 fk hk) hn hfit
    exact W.putFinK hexec hb hown (hts _ hl) (hsame _ hi) hst hcf hin2 (by rw [q2]; exact h6) q1 q3 (by rw [hsl]; exact k2_hasslot (q4 fk hk)) rfl rfl hdg fin
/-- putfield: h' is h with the field changed -/
theorem v_put (hX : OKx X G own cc nL rt) {ix ci fk t a : Nat} {fin : Bool} {v : Value} {h' : AHp} (hf : FL own ix ci fk t fin) (hk : Kd h a ci) (hin : fin = false ∨ (xM X).name = "<init>") (hty : ∀ ty, tyT ty = t → narrow ty (cv G v) = cv G v ∧ fits ty (cv G v) = true) (hN : hpN h' = hpN h) (hK' : hpK h' a = ci) (hv : fdv G h' a t fk = cv G v) (ho : ∀ u j, j ≠ fk → fdv G h a u j = fdv G h' a u j) (hb : ∀ b, b ≠ a → celE G h' b = celE G h b) (hd : Dq cc pc (.putfield ix) 3 pc') (kk : V X G nL k n Q pc' ls st h') : V X G nL k n Q pc ls (v :: .ref a :: st) h := by
  obtain ⟨hd, rfl⟩ := hd
  obtain ⟨C, T, N, ty, ref, hc, hN2, ht, hfin, hl, hs, hfi⟩ := hf
  intro H locs la hW hS hL
  have hat := hW.at hk
  have ead : gAd G a = gB G + a := gAd_lt (Nat.lt_trans hk.2 hW.2.1)
  rw [celE_obj hk.1 hc.2.2.2.2.2.1, ead] at hat
  have hty1 := hty (ty fk) (FL.ty (own := own) (ix := ix) hc hN2 ht)
  have hset := fls_set (G := G) (h := h) (h' := h') (a := a) (v := cv G v) (lyt ci) 0 fk t ht (by rw [Nat.zero_add]; exact hv) (fun i u _ hi => by rw [Nat.zero_add]; exact ho u i hi)
  show W _ _ _ _ _ _ _ _ _ _ H locs k n Q (F0 (xm X) pc la (cv G v :: .ref (gAd G a) :: st.map (cv G)))
  rw [ead]
  refine w_put (D := gD G) (ref := ref) hX.1 hX.2.1 hX.2.2.2.2.2.1 hc hX.2.2.2.2.1 hX.2.2.2.2.2.2.1.1 hat hN2 hl hs ?_ hty1.1 hty1.2 (by rw [fls_len, hc.2.2.2.2.1]; exact hN2) hd (fun H1 sl h1 hz oq => ?_)
  · rcases hin with rfl | hin
    · exact Or.inl hfin
    · cases fin with
      | false => exact Or.inl hfin
      | true => exact Or.inr ⟨hfin, hin, hfi rfl⟩
  · refine kk H1 _ la (hW.put hk.2 hN hz oq ?_ hb) (hS.put hz oq (Nat.le_add_right _ _)) hL
    rw [celE_obj hK' hc.2.2.2.2.2.1, ← hset]
    exact h1
theorem up2_at {α : Type} {f : Nat → Nat → α} {a i : Nat} {v : α} : up2 f a i v a i = v := if_pos ⟨rfl, rfl⟩
theorem up2_ne {α : Type} {f : Nat → Nat → α} {a i b j : Nat} {v : α} (h : ¬ (b = a ∧ j = i)) : up2 f a i v b j = f b j := if_neg h
theorem v_putI (hX : OKx X G own cc nL rt) {ix ci fk a : Nat} {fin : Bool} {x : Int32} (hf : FL own ix ci fk 0 fin) (hk : Kd h a ci) (hin : fin = false ∨ (xM X).name = "<init>") (hd : Dq cc pc (.putfield ix) 3 pc') (kk : V X G nL k n Q pc' ls st (stI h a fk x)) : V X G nL k n Q pc ls (.int x :: .ref a :: st) h :=
  v_put (h' := stI h a fk x) hX hf hk hin (fun ty ht => by rw [tyT_int ht]; exact ⟨rfl, rfl⟩) rfl hk.1 (by show Value.int (up2 h.1 a fk x a fk) = .int x; rw [up2_at]) (fun u j hj => by unfold fdv; rw [show hpI (stI h a fk x) a j = hpI h a j from up2_ne (fun z => hj z.2)]; rfl) (fun b hb => cel_stI hb) hd kk
theorem v_putZ (hX : OKx X G own cc nL rt) {ix ci fk a : Nat} {fin : Bool} {x : Int32} (hx : narrow .boolean (.int x) = .int x ∧ fits .boolean (.int x) = true) (hf : FL own ix ci fk 3 fin) (hk : Kd h a ci) (hin : fin = false ∨ (xM X).name = "<init>") (hd : Dq cc pc (.putfield ix) 3 pc') (kk : V X G nL k n Q pc' ls st (stI h a fk x)) : V X G nL k n Q pc ls (.int x :: .ref a :: st) h :=
  v_put (h' := stI h a fk x) hX hf hk hin (fun ty ht => by rw [tyT_bool ht]; exact hx) rfl hk.1 (by show Value.int (up2 h.1 a fk x a fk) = .int x; rw [up2_at]) (fun u j hj => by unfold fdv; rw [show hpI (stI h a fk x) a j = hpI h a j from up2_ne (fun z => hj z.2)]; rfl) (fun b hb => cel_stI hb) hd kk
theorem v_putJ (hX : OKx X G own cc nL rt) {ix ci fk a : Nat} {fin : Bool} {x : Int64} (hf : FL own ix ci fk 2 fin) (hk : Kd h a ci) (hin : fin = false ∨ (xM X).name = "<init>") (hd : Dq cc pc (.putfield ix) 3 pc') (kk : V X G nL k n Q pc' ls st (stJ h a fk x)) : V X G nL k n Q pc ls (.long x :: .ref a :: st) h :=
  v_put (h' := stJ h a fk x) hX hf hk hin (fun ty ht => by rw [tyT_long ht]; exact ⟨rfl, rfl⟩) rfl hk.1 (by show Value.long (up2 h.2.2.1 a fk x a fk) = .long x; rw [up2_at]) (fun u j hj => by unfold fdv; rw [show hpJ (stJ h a fk x) a j = hpJ h a j from up2_ne (fun z => hj z.2)]; rfl) (fun b hb => cel_stJ hb) hd kk
theorem v_putR (hX : OKx X G own cc nL rt) {ix ci fk a b : Nat} {fin : Bool} (hf : FL own ix ci fk 1 fin) (hk : Kd h a ci) (hin : fin = false ∨ (xM X).name = "<init>") (hd : Dq cc pc (.putfield ix) 3 pc') (kk : V X G nL k n Q pc' ls st (stR h a fk (some b))) : V X G nL k n Q pc ls (.ref b :: .ref a :: st) h :=
  v_put (h' := stR h a fk (some b)) hX hf hk hin (fun ty ht => ⟨(tyT_ref ht (Or.inr ⟨_, rfl⟩)).1, (tyT_ref ht (Or.inr ⟨_, rfl⟩)).2.1⟩) rfl hk.1 (by show va_rf ((up2 h.2.1 a fk (some b) a fk).map (gAd G)) = _; rw [up2_at]; rfl) (fun u j hj => by unfold fdv; rw [show hpR (stR h a fk (some b)) a j = hpR h a j from up2_ne (fun z => hj z.2)]; rfl) (fun b hb => cel_stR hb) hd kk
/-! arrays of ints -/
theorem Wd.ai {h : AHp} {H : Heap} (hW : Wd G h H) {a c : Nat} (hk : Kd h a c) (hc : c = 100 ∨ c = 101) : va_at (gD G) vwCl (gAd G a, .inl (gA G c, (hpL h a, .inl (hpI h a)))) H := by
  have h1 := hW.at hk
  rwa [celE_int hk.1 hc] at h1
theorem v_iald (hX : OKx X G own cc nL rt) {a L : Nat} {i : Int32} (hk : Kd h a 100) (hl : hpL h a = L) (hi : vp_in i L) (hd : Dq cc pc .iaload 1 pc') (kk : V X G nL k n Q pc' ls (.int (hpI h a i.toNatClampNeg) :: st) h) : V X G nL k n Q pc ls (.int i :: .ref a :: st) h := by
  obtain ⟨hd, rfl⟩ := hd
  subst hl
  intro H locs la hW hS hL
  exact va_iald (D := gD G) (cl := vwCl) hX.1 hX.2.1 hX.2.2.2.2.2.2.1.1 (hW.ai hk (Or.inl rfl)).here 0 0 rfl rfl hi hd (kk H locs la hW hS hL)
theorem v_zald (hX : OKx X G own cc nL rt) {a L : Nat} {i : Int32} (hk : Kd h a 101) (hl : hpL h a = L) (hi : vp_in i L) (hd : Dq cc pc .baload 1 pc') (kk : V X G nL k n Q pc' ls (.int (hpI h a i.toNatClampNeg) :: st) h) : V X G nL k n Q pc ls (.int i :: .ref a :: st) h := by
  obtain ⟨hd, rfl⟩ := hd
  subst hl
  intro H locs la hW hS hL
  exact va_zald (D := gD G) (cl := vwCl) hX.1 hX.2.1 hX.2.2.2.2.2.2.1.1 (hW.ai hk (Or.inr rfl)).here 0 1 rfl rfl hi hd (kk H locs la hW hS hL)
theorem v_alen (hX : OKx X G own cc nL rt) {a L : Nat} (hk : Kd h a 100) (hl : hpL h a = L) (hd : Dq cc pc .arraylength 1 pc') (kk : V X G nL k n Q pc' ls (.int (nI L) :: st) h) : V X G nL k n Q pc ls (.ref a :: st) h := by
  obtain ⟨hd, rfl⟩ := hd
  subst hl
  intro H locs la hW hS hL
  exact va_alen (D := gD G) (cl := vwCl) hX.1 hX.2.1 hX.2.2.2.2.2.2.1.1 (hW.ai hk (Or.inl rfl)).here 0 0 rfl rfl rfl hd (kk H locs la hW hS hL)
theorem cel_up {f : Nat → Int32} {i : Int32} {x : Int32} {cA : ClassId} {L : Nat} {g : Nat → Int32} (hg : ∀ j, g j = if j = i.toNatClampNeg then x else f j) : (arrV cA L (updV (fun j => .int (f j)) i.toNatClampNeg (.int x))) = vp_cell cA (L, .inl g) := by
  rw [vp_cell_i]
  congr 1
  funext q
  rw [hg q]
  by_cases hq : q = i.toNatClampNeg <;> simp [updV, hq]
theorem v_iast (hX : OKx X G own cc nL rt) {a L : Nat} {i x : Int32} (hk : Kd h a 100) (hl : hpL h a = L) (hi : vp_in i L) (hd : Dq cc pc .iastore 1 pc') (kk : V X G nL k n Q pc' ls st (stI h a i.toNatClampNeg x)) : V X G nL k n Q pc ls (.int x :: .int i :: .ref a :: st) h := by
  obtain ⟨hd, rfl⟩ := hd
  subst hl
  intro H locs la hW hS hL
  have ead : gAd G a = gB G + a := gAd_lt (Nat.lt_trans hk.2 hW.2.1)
  have hat : H[gAd G a]? = some (vp_cell (gA G 100) (hpL h a, .inl (hpI h a))) := hW.ai hk (Or.inl rfl)
  refine W.iast hX.1 hX.2.1 hat ((hX.2.2.2.2.2.2.1.1.2 0 _ rfl).1 (hpL h a) (fun j => .int (hpI h a j))) (fun q => by cases q) (by show ¬ (i < 0 ∨ (arrV _ _ _).slots.size ≤ _); rw [arrV_size]; exact hi) rfl rfl hd fun H1 e z oq => ?_
  rw [ead] at e oq ⊢
  refine kk H1 _ la (hW.put hk.2 rfl z oq ?_ (fun b hb => cel_stI hb)) (hS.put z oq (Nat.le_add_right _ _)) hL
  rw [celE_int (show hpK (stI h a i.toNatClampNeg x) a = 100 from hk.1) (Or.inl rfl)]
  show H1[gB G + a]? = some (vp_cell _ _)
  rw [e, vp_cell_i, arrV_store]
  congr 1
  refine cel_up (fun j => ?_)
  show up2 h.1 a i.toNatClampNeg x a j = _
  by_cases hj : j = i.toNatClampNeg
  · rw [hj, up2_at, if_pos rfl]
  · rw [up2_ne (fun z => hj z.2), if_neg hj]; rfl
theorem v_zast (hX : OKx X G own cc nL rt) {a L : Nat} {i x : Int32} (hx : narrow .boolean (.int x) = .int x) (hk : Kd h a 101) (hl : hpL h a = L) (hi : vp_in i L) (hd : Dq cc pc .bastore 1 pc') (kk : V X G nL k n Q pc' ls st (stI h a i.toNatClampNeg x)) : V X G nL k n Q pc ls (.int x :: .int i :: .ref a :: st) h := by
  obtain ⟨hd, rfl⟩ := hd
  subst hl
  intro H locs la hW hS hL
  have ead : gAd G a = gB G + a := gAd_lt (Nat.lt_trans hk.2 hW.2.1)
  have hat : H[gAd G a]? = some (vp_cell (gA G 101) (hpL h a, .inl (hpI h a))) := hW.ai hk (Or.inr rfl)
  refine W.zast hX.1 hX.2.1 hat ((hX.2.2.2.2.2.2.1.1.2 1 _ rfl).1 (hpL h a) (fun j => .int (hpI h a j))) (fun q => by cases q) (by show ¬ (i < 0 ∨ (arrV _ _ _).slots.size ≤ _); rw [arrV_size]; exact hi) rfl rfl hd fun H1 e z oq => ?_
  rw [ead] at e oq ⊢
  refine kk H1 _ la (hW.put hk.2 rfl z oq ?_ (fun b hb => cel_stI hb)) (hS.put z oq (Nat.le_add_right _ _)) hL
  rw [celE_int (show hpK (stI h a i.toNatClampNeg x) a = 101 from hk.1) (Or.inr rfl)]
  show H1[gB G + a]? = some (vp_cell _ _)
  rw [e, hx, vp_cell_i, arrV_store]
  congr 1
  refine cel_up (fun j => ?_)
  show up2 h.1 a i.toNatClampNeg x a j = _
  by_cases hj : j = i.toNatClampNeg
  · rw [hj, up2_at, if_pos rfl]
  · rw [up2_ne (fun z => hj z.2), if_neg hj]; rfl
end VP
end
section
/-! contracts -/
abbrev Mth : Type := MethodName × ByteArray × Nat × Option FieldType
def rmC (d mc ms : Nat) : Room := { frames := d, cells := mc, slots := ms, locals := 40 * d }
def Pcx (G : Glb) (av : List Value) (h : AHp) : Array Value → State → Prop := fun v U => v = (av.map (cv G)).toArray ∧ Wd G h U.heap ∧ Kn G U
def Qcx (G : Glb) (r : Option Value) (h' : AHp) : Array Value → State → Outcome → State → Prop := fun _ s o t => o = .returned (r.map (cv G)) ∧ Wd G h' t.heap ∧ Kn G t ∧ va_F (AsG G) s t
abbrev wsM (M : Mth) : List Cond := Cond.code M.1 M.2.1 M.2.2.1 M.2.2.2 :: TG
/-- what M leaves, told by a predicate of its answer and the heap behind it -/
def Qp (G : Glb) (P : Option Value → AHp → Prop) : Array Value → State → Outcome → State → Prop := fun a s o t => ∃ r h', P r h' ∧ Qcx G r h' a s o t
/-- from av and h the method M comes to its end, and P holds of its answer and of the heap then -/
def CP (G : Glb) (M : Mth) (d mc ms : Nat) (av : List Value) (h : AHp) (P : Option Value → AHp → Prop) : Prop := ∀ l : Launch, Met l M.1 (wsM M) (rmC d mc ms) (Pcx G av h) (Qp G P) mc ms (AsG G)
abbrev QM (X : Cx) (G : Glb) (P : Option Value → AHp → Prop) (mc ms : Nat) : State → Prop := MQ (xb X) (Qp G P) (xa X) (xs X) mc ms (AsG G)
def ent (av : List Value) : List (Option Value) := av.flatMap fun v => if v.category = 2 then [some v, none] else [some v]
def enL (av : List Value) (nL : Nat) : List (Option Value) := ent av ++ List.replicate (nL - (ent av).length) none
theorem asc_nones {G : Glb} : ∀ (n i : Nat), asc G i (List.replicate n none) = [] := by
  intro n
  induction n with
  | zero => intro i; rfl
  | succ n ih => intro i; rw [List.replicate_succ, asc]; exact ih (i + 1)
theorem asc_ent {G : Glb} (n : Nat) : ∀ (av : List Value) (i : Nat), asc G i (ent av ++ List.replicate n none) = lv_args i (av.map (cv G)) := by
  intro av
  induction av with
  | nil => intro i; exact asc_nones n i
  | cons v vs ih =>
    intro i
    have e : ent (v :: vs) = (if v.category = 2 then [some v, none] else [some v]) ++ ent vs := by simp [ent]
    rw [e, List.map_cons, lv_args, cv_cat]
    by_cases hc : v.category = 2
    · rw [if_pos hc, if_pos hc]
      simp only [List.cons_append, List.nil_append, asc]
      rw [ih]
    · rw [if_neg hc, if_neg hc]
      simp only [List.cons_append, List.nil_append, asc]
      rw [ih]
theorem sl_len {G : Glb} : ∀ av : List Value, (lg_sl (av.map (cv G))).length = (ent av).length := by
  intro av
  induction av with
  | nil => rfl
  | cons v vs ih =>
    have e : ent (v :: vs) = (if v.category = 2 then [some v, none] else [some v]) ++ ent vs := by simp [ent]
    have e2 : lg_sl ((v :: vs).map (cv G)) = (if v.category = 2 then [Slot.val (cv G v), .second] else [Slot.val (cv G v)]) ++ lg_sl (vs.map (cv G)) := by simp [lg_sl, cv_cat]
    rw [e, e2, List.length_append, List.length_append, ih]
    by_cases hc : v.category = 2 <;> simp [hc]
theorem blind (G : Glb) (av : List Value) (h : AHp) : FrameBlind (Pcx G av h) := fun a U g mk q => ⟨q.1, q.2.1, Kn.same (s := U) (U := U.calling g mk a) rfl q.2.2⟩
theorem CP.of {G : Glb} {y : MethodName} {cc : ByteArray} {nL : Nat} {rt : Option FieldType} {d mc ms : Nat} {av : List Value} {h : AHp} {P : Option Value → AHp → Prop} (hy : plainName y.cls = true) (hn : (ent av).length ≤ nL)
    (body : ∀ X : Cx, OKx X G y.cls cc nL rt → xR X = rmC d mc ms → (xM X).name = y.name → V X G nL 0 0 (QM X G P mc ms) 0 (enL av nL) [] h) : CP G (y, cc, nL, rt) d mc ms av h P := by
  intro l
  refine Met.ofW (cc := cc) (maxL := nL) (ret := rt) hy rfl ?_
  intro p e s m args below meth c s₁ B hml hv
  obtain ⟨rfl, hW, hK⟩ := hv
  have hts := atoms_spec (ws := wsM (y, cc, nL, rt)) B.pre
  have hz : gB G ≤ s.heap.size := by rw [hW.1]; exact Nat.le_add_right _ _
  have hX : OKx (p, l, e, rmC d mc ms, s, m, (av.map (cv G)).toArray, below, meth, c) G y.cls cc nL rt := ⟨B.exec, B.bytes, B.returns, hml, findClass_of_methodNamed B.named, fun w hw => hts w (List.mem_cons_of_mem _ hw), hK, B.notSynchronized, hz⟩
  have hb := body _ hX rfl (name_of_methodNamed B.named B.method).1
  rw [lg_entry_eq]
  refine hb s.heap [] _ hW va_S.rf ?_
  have hl := lv_entry (av.map (cv G)) (n := nL) (by rw [sl_len]; exact hn)
  show lv_has _ nL (asc G 0 (enL av nL))
  rw [enL, asc_ent]
  exact hl
section VR
variable {X : Cx} {G : Glb} {own : String} {cc : ByteArray} {nL k n pc pc' : Nat} {ls : List (Option Value)} {st : List Value} {h : AHp} {P : Option Value → AHp → Prop}
theorem v_ireturn (hX : OKx X G own cc nL (some .int)) {v : Int32} (hd : Dq cc pc .ireturn 1 pc') (hp : P (some (.int v)) h) : V X G nL k n (QM X G P k n) pc ls [.int v] h := by
  intro H locs la hW hS hL
  exact W.iret hX.1 hX.2.1 hX.2.2.1 (fun t ht hw => ⟨_, _, hp, rfl, by rw [ht]; exact hW, hX.2.2.2.2.2.2.1.warm hw, hS.F ht⟩) hS.2.2 hd.1 hX.2.2.2.2.2.2.2.1
theorem v_zreturn (hX : OKx X G own cc nL (some .boolean)) {v : Int32} (hv : v = 0 ∨ v = 1) (hd : Dq cc pc .ireturn 1 pc') (hp : P (some (.int v)) h) : V X G nL k n (QM X G P k n) pc ls [.int v] h := by
  intro H locs la hW hS hL
  exact W.zret hX.1 hX.2.1 hX.2.2.1 (by rcases hv with rfl | rfl <;> rfl) (fun t ht hw => ⟨_, _, hp, rfl, by rw [ht]; exact hW, hX.2.2.2.2.2.2.1.warm hw, hS.F ht⟩) hS.2.2 hd.1 hX.2.2.2.2.2.2.2.1
theorem v_lreturn (hX : OKx X G own cc nL (some .long)) {v : Int64} (hd : Dq cc pc .lreturn 1 pc') (hp : P (some (.long v)) h) : V X G nL k n (QM X G P k n) pc ls [.long v] h := by
  intro H locs la hW hS hL
  exact W.lret hX.1 hX.2.1 hX.2.2.1 (fun t ht hw => ⟨_, _, hp, rfl, by rw [ht]; exact hW, hX.2.2.2.2.2.2.1.warm hw, hS.F ht⟩) hS.2.2 hd.1 hX.2.2.2.2.2.2.2.1
theorem v_return (hX : OKx X G own cc nL none) (hd : Dq cc pc .return_ 1 pc') (hp : P none h) : V X G nL k n (QM X G P k n) pc ls [] h := by
  intro H locs la hW hS hL
  exact W.vret hX.1 hX.2.1 hX.2.2.1 (fun t ht hw => ⟨_, _, hp, rfl, by rw [ht]; exact hW, hX.2.2.2.2.2.2.1.warm hw, hS.F ht⟩) hS.2.2 hd.1 hX.2.2.2.2.2.2.2.1
theorem v_areturn {C : String} (hX : OKx X G own cc nL (some (.object C))) {v : Value} (hv : v = .null ∨ ∃ a, v = .ref a) (hd : Dq cc pc .areturn 1 pc') (hp : P (some v) h) : V X G nL k n (QM X G P k n) pc ls [v] h := by
  intro H locs la hW hS hL
  exact W.aret hX.1 hX.2.1 hX.2.2.1 (Or.inl ⟨_, rfl⟩) (by rcases hv with rfl | ⟨a, rfl⟩; exact Or.inl rfl; exact Or.inr ⟨_, rfl⟩) (fun t ht hw => ⟨_, _, hp, rfl, by rw [ht]; exact hW, hX.2.2.2.2.2.2.1.warm hw, hS.F ht⟩) hS.2.2 hd.1 hX.2.2.2.2.2.2.2.1
/-- rounds up what has been made -/
theorem v_widen {rt : Option FieldType} {Q : State → Prop} {k' n' : Nat} (h1 : k ≤ k') (h2 : n ≤ n') (kk : V X G nL k' n' Q pc ls st h) : V X G nL k n Q pc ls st h := fun H locs la hW hS hL => W.widen h1 h2 (kk H locs la hW hS hL)
end VR
/-! calls -/
theorem good_all {y : MethodName} {cc : ByteArray} {nL : Nat} {rt : Option FieldType} (h : Cond.code y cc nL rt ∈ TG) : GoodIn TG (wsM (y, cc, nL, rt)) := fun w hw => by
  rcases List.mem_cons.mp hw with rfl | hw
  · exact ⟨h, good_of_word (tg_good h)⟩
  · exact ⟨hw, good_of_word (tg_good hw)⟩
/-- all that the tables say of a method of ours: n arguments -/
def MI (M : Mth) (n : Nat) : Prop := Cond.code M.1 M.2.1 M.2.2.1 M.2.2.2 ∈ TG ∧ Cond.initialized M.1.cls ∈ TG ∧ (M.1.cls ≠ "java/lang/invoke/MethodHandle" ∧ M.1.cls ≠ "java/lang/invoke/VarHandle" ∧ (parseMethodDescriptor M.1.desc).map (fun d => d.parameters.length) = some n) ∧ M.2.2.1 ≤ 21
section VC
variable {X : Cx} {G : Glb} {own : String} {cc : ByteArray} {nL k n pc pc' : Nat} {rt : Option FieldType} {Q : State → Prop} {ls : List (Option Value)} {st : List Value} {h h' : AHp} {r : Option Value} {d d' mc ms kc ks : Nat} {M : Mth} {ix na : Nat} {av : List Value}
theorem map_rev {G : Glb} {av st : List Value} : (av.reverse ++ st).map (cv G) = (av.map (cv G)).reverse ++ st.map (cv G) := by simp
theorem roomC (hR : xR X = rmC d kc ks) (hd : d' < d) (hm : M.2.2.1 ≤ 21) : (rmC d' mc ms).frames + 1 ≤ (xR X).frames ∧ 8 + (M.2.2.1 + 11) + (rmC d' mc ms).locals ≤ (xR X).locals := by
  rw [hR]
  refine ⟨hd, ?_⟩
  show 8 + (M.2.2.1 + 11) + 40 * d' ≤ 40 * d
  omega
theorem catS {st : List Value} {G : Glb} (h : (st.map fun v => v.category).sum ≤ 8) : ((st.map (cv G)).map fun v => v.category).sum ≤ 8 := by
  rw [List.map_map]
  have : (fun v : Value => v.category) ∘ cv G = fun v => v.category := by funext v; exact cv_cat
  rw [this]; exact h
theorem v_run {av : List Value} (hX : OKx X G own cc nL rt) {a : Array Value} {P : Option Value → AHp → Prop} (hr : ∀ (H : Heap) (locs : List Loc) (la : Array Slot), Wd G h H → va_S (AsG G) (xs X).heap H locs → LH G la nL ls → va_Run (xp X) (xl X) (xe X) (xR X) (xs X) (xm X) (xa X) (xb X) (xM X) (xc X) H locs k n mc ms (F0 (xm X) pc la (av.map (cv G))) (st.map (cv G)) (Qp G P a) (AsG G))
    (kk : ∀ r h', P r h' → V X G nL (k + mc) (n + ms) Q (pc + 3) ls (r.toList ++ st) h') : V X G nL k n Q pc ls av h := by
  intro H locs la hW hS hL T hT Z
  obtain ⟨v, st₀, t, T', L, h0, X', hLo, e1, e2, ⟨r, h', hP, hv, hWt, hKt, hz, hk⟩, stp⟩ := hr H locs la hW hS hL T hT Z
  have ev : v = r.map (cv G) := by cases hv; rfl
  subst ev
  rw [h0] at hz hk
  obtain ⟨t2, a1, b1⟩ := kk r h' hP T'.heap (locs ++ L) la (by rw [e1]; exact hWt) ⟨Nat.le_trans hS.1 (by rw [e1]; exact hz), fun q h1 h2 => by rw [e1, hk q (Nat.lt_of_lt_of_le h1 hS.1) h2]; exact hS.2.1 q h1 h2, fun q hq => by
      rcases List.mem_append.mp hq with h | h
      · exact hS.2.2 q h
      · exact hLo q h⟩ hL T' rfl X'
  refine ⟨t2, stp t2 ?_, b1⟩
  have : (r.map (cv G)).toList ++ st.map (cv G) = (r.toList ++ st).map (cv G) := by cases r <;> simp
  show Steps _ _ _ (T'.setTop { (F0 (xm X) pc la (av.map (cv G))) with pc := pc + 3, stack := (r.map (cv G)).toList ++ st.map (cv G) }) t2
  rw [this]
  exact a1
end VC
end
section
section VC
variable {X : Cx} {G : Glb} {own : String} {cc : ByteArray} {nL k n pc pc' : Nat} {rt : Option FieldType} {Q : State → Prop} {ls : List (Option Value)} {st : List Value} {h : AHp} {P : Option Value → AHp → Prop} {d d' mc ms kc ks : Nat} {M : Mth} {ix na : Nat} {av : List Value}
theorem okFix (hX : OKx X G own cc nL rt) : CallFix (xp X) (xm X) (xc X) cc nL (xs X) (xa X) TG own := ⟨hX.1, hX.2.1, hX.2.2.2.1, hX.2.2.2.2.1, hX.2.2.2.2.2.1⟩
theorem fitR (hR : xR X = rmC d kc ks) (hroom : k + mc ≤ kc ∧ n + ms ≤ ks) : k + mc ≤ (xR X).cells ∧ n + ms ≤ (xR X).slots := by rw [hR]; exact hroom
theorem preS (hX : OKx X G own cc nL rt) {H : Heap} (hW : Wd G h H) : PreS (xs X) H (Pcx G av h) (av.map (cv G)) := ⟨blind G av h, fun U hU hw => ⟨rfl, by rw [hU]; exact hW, hX.2.2.2.2.2.2.1.warm hw⟩⟩
/-- a static method of the own class -/
def MS (own : String) (ix : Nat) (M : Mth) (na : Nat) : Prop := MI M na ∧ Cond.methodLink own ix M.1 ∈ TG ∧ Cond.static M.1 ∈ TG
theorem v_callS' (hX : OKx X G own cc nL rt) (hR : xR X = rmC d kc ks) (hm : MS own ix M na) (hc : CP G M d' mc ms av h P) (hd' : d' < d) (hlen : av.length = na) (hcat : (st.map fun v => v.category).sum ≤ 8) (hroom : k + mc ≤ kc ∧ n + ms ≤ ks) (hd : Dq cc pc (.invokestatic ix) 3 pc') (kk : ∀ r h', P r h' → V X G nL (k + mc) (n + ms) Q pc' ls (r.toList ++ st) h') : V X G nL k n Q pc ls (av.reverse ++ st) h := by
  obtain ⟨hd, rfl⟩ := hd
  obtain ⟨hI, hl, hs⟩ := hm
  refine v_run (a := (av.map (cv G)).toArray) hX (fun H locs la hW hS hL => ?_) kk
  exact va_runS (bytes := M.2.1) (maxL := M.2.2.1) (ret := M.2.2.2) (n := na) (As := av.map (cv G)) (okFix hX) (hc (xl X)) ⟨callB_of na hX.2.2.2.2.2.1 (good_all hI.1) rfl rfl rfl (hX.2.2.2.2.2.1 _ hI.2.1) (hX.2.2.2.2.2.1 _ hl) hI.2.2.1 (roomC hR hd' hI.2.2.2), hX.2.2.2.2.2.1 _ hs⟩ (preS hX hW) rfl (by rw [List.length_map]; exact hlen) hL.1 (by show List.map _ _ = _; rw [map_rev]) (lv_room (catS hcat)) hd (fitR hR hroom)
theorem v_callS (hX : OKx X G own cc nL rt) (hR : xR X = rmC d kc ks) (hm : MS own ix M na) (hc : CP G M d' 0 0 av h P) (hd' : d' < d) (hlen : av.length = na) (hcat : (st.map fun v => v.category).sum ≤ 8) (hroom : k ≤ kc ∧ n ≤ ks) (hd : Dq cc pc (.invokestatic ix) 3 pc') (kk : ∀ r h', P r h' → V X G nL k n Q pc' ls (r.toList ++ st) h') : V X G nL k n Q pc ls (av.reverse ++ st) h := v_callS' hX hR hm hc hd' hlen hcat hroom hd kk
/-- a static method of a nest mate -/
def MN (own : String) (ix : Nat) (M : Mth) (na : Nat) : Prop := MI M na ∧ (∃ host, Cond.methodLinkNest own ix M.1 host ∈ lw_tbl) ∧ Cond.static M.1 ∈ TG
theorem v_callN (hX : OKx X G own cc nL rt) (hR : xR X = rmC d kc ks) (hm : MN own ix M na) (hc : CP G M d' 0 0 av h P) (hd' : d' < d) (hlen : av.length = na) (hcat : (st.map fun v => v.category).sum ≤ 8) (hroom : k ≤ kc ∧ n ≤ ks) (hd : Dq cc pc (.invokestatic ix) 3 pc') (kk : ∀ r h', P r h' → V X G nL k n Q pc' ls (r.toList ++ st) h') : V X G nL k n Q pc ls (av.reverse ++ st) h := by
  obtain ⟨hd, rfl⟩ := hd
  obtain ⟨hI, ⟨host, hl⟩, hs⟩ := hm
  refine v_run (mc := 0) (ms := 0) (a := (av.map (cv G)).toArray) hX (fun H locs la hW hS hL => ?_) kk
  exact va_runSN (bytes := M.2.1) (maxL := M.2.2.1) (ret := M.2.2.2) (n := na) (As := av.map (cv G)) (okFix hX) (hc (xl X)) ⟨va_cnB na hX.2.2.2.2.2.1 (good_all hI.1) rfl rfl rfl (hX.2.2.2.2.2.2.1.2.1 _ hl rfl) (hX.2.2.2.2.2.1 _ hI.2.1) hI.2.2.1 (roomC hR hd' hI.2.2.2), hX.2.2.2.2.2.1 _ hs, trivial⟩ (preS hX hW) rfl (by rw [List.length_map]; exact hlen) hL.1 (by show List.map _ _ = _; rw [map_rev]) (lv_room (catS hcat)) hd (fitR (mc := 0) (ms := 0) hR hroom)
theorem recvC (hX : OKx X G own cc nL rt) {H : Heap} (hW : Wd G h H) {a ci : Nat} {C : String} {T : u_T} {N : Nat} (hk : Kd h a ci) (hci : vwCl[ci]? = some (C, T, N)) (h100 : ci < 100) : ∃ cell : Cell, H[gAd G a]? = some cell ∧ cell.vm.isStatics = false ∧ (xs X).vm.findClass C = some cell.cls := by
  have hat := hW.at hk
  rw [celE_obj hk.1 h100] at hat
  exact va_recv (q := (C, T, N)) hX.2.2.2.2.2.2.1.1 hat.here hci (q0 := 0) rfl
theorem preV (hX : OKx X G own cc nL rt) {H : Heap} (hW : Wd G h H) {a ci : Nat} {C : String} {T : u_T} {N : Nat} (hk : Kd h a ci) (hci : vwCl[ci]? = some (C, T, N)) (h100 : ci < 100) : PreV (xs X) H C (gAd G a) (Pcx G (.ref a :: av) h) (av.map (cv G)) := ⟨blind G _ h, recvC hX hW hk hci h100, fun U hU hw => ⟨rfl, by rw [hU]; exact hW, hX.2.2.2.2.2.2.1.warm hw⟩⟩
/-- a method of the class ci, called on an object of just that class -/
def MV (own : String) (ix ci : Nat) (M : Mth) (na : Nat) : Prop := MI M na ∧ Cond.methodLink own ix M.1 ∈ TG ∧ Cond.instanceMethod M.1 ∈ TG ∧ Cond.selects M.1.cls M.1 M.1 ∈ TG ∧ (∃ T N, vwCl[ci]? = some (M.1.cls, T, N)) ∧ ci < 100
theorem map_revV {G : Glb} {av st : List Value} {a : Nat} : (av.reverse ++ .ref a :: st).map (cv G) = (av.map (cv G)).reverse ++ .ref (gAd G a) :: st.map (cv G) := by simp [cv]
theorem v_callV' {a ci : Nat} (hX : OKx X G own cc nL rt) (hR : xR X = rmC d kc ks) (hm : MV own ix ci M na) (hk : Kd h a ci) (hc : CP G M d' mc ms (.ref a :: av) h P) (hd' : d' < d) (hlen : av.length = na) (hcat : (st.map fun v => v.category).sum ≤ 8) (hroom : k + mc ≤ kc ∧ n + ms ≤ ks) (hd : Dq cc pc (.invokevirtual ix) 3 pc') (kk : ∀ r h', P r h' → V X G nL (k + mc) (n + ms) Q pc' ls (r.toList ++ st) h') : V X G nL k n Q pc ls (av.reverse ++ .ref a :: st) h := by
  obtain ⟨hd, rfl⟩ := hd
  obtain ⟨hI, hl, hi, hse, ⟨T, N, hci⟩, h100⟩ := hm
  refine v_run (a := (Value.ref (gAd G a) :: av.map (cv G)).toArray) hX (fun H locs la hW hS hL => ?_) kk
  exact va_runV (bytes := M.2.1) (maxL := M.2.2.1) (ret := M.2.2.2) (n := na) (C := M.1.cls) (As := av.map (cv G)) (okFix hX) (hc (xl X)) ⟨callB_of na hX.2.2.2.2.2.1 (good_all hI.1) rfl rfl rfl (hX.2.2.2.2.2.1 _ hI.2.1) (hX.2.2.2.2.2.1 _ hl) hI.2.2.1 (roomC hR hd' hI.2.2.2), hX.2.2.2.2.2.1 _ hi, hX.2.2.2.2.2.1 _ hse⟩ (preV hX hW hk hci h100) rfl (by rw [List.length_map]; exact hlen) hL.1 (by show List.map _ _ = _; rw [map_revV]) (lv_room (catS hcat)) hd (fitR hR hroom)
theorem v_callV {a ci : Nat} (hX : OKx X G own cc nL rt) (hR : xR X = rmC d kc ks) (hm : MV own ix ci M na) (hk : Kd h a ci) (hc : CP G M d' 0 0 (.ref a :: av) h P) (hd' : d' < d) (hlen : av.length = na) (hcat : (st.map fun v => v.category).sum ≤ 8) (hroom : k ≤ kc ∧ n ≤ ks) (hd : Dq cc pc (.invokevirtual ix) 3 pc') (kk : ∀ r h', P r h' → V X G nL k n Q pc' ls (r.toList ++ st) h') : V X G nL k n Q pc ls (av.reverse ++ .ref a :: st) h := v_callV' hX hR hm hk hc hd' hlen hcat hroom hd kk
/-- a method named of a class above, called on an object of class ci, which selects M -/
def MU (own : String) (ix ci : Nat) (x : MethodName) (M : Mth) (na : Nat) : Prop := MI M na ∧ Cond.methodLink own ix x ∈ TG ∧ Cond.sameMethod x.cls x.cls x.name x.desc ∈ TG ∧ Cond.instanceMethod ⟨x.cls, x.name, x.desc⟩ ∈ TG ∧ (∃ C T N, vwCl[ci]? = some (C, T, N) ∧ Cond.selects C x M.1 ∈ TG) ∧ Cond.instanceMethod M.1 ∈ TG ∧ ci < 100 ∧ (x.cls ≠ "java/lang/invoke/MethodHandle" ∧ x.cls ≠ "java/lang/invoke/VarHandle" ∧ (parseMethodDescriptor x.desc).map (fun d => d.parameters.length) = some na) ∧ ∃ cb ml rx, Cond.code ⟨x.cls, x.name, x.desc⟩ cb ml rx ∈ TG
theorem v_callU {a ci : Nat} {x : MethodName} (hX : OKx X G own cc nL rt) (hR : xR X = rmC d kc ks) (hm : MU own ix ci x M na) (hk : Kd h a ci) (hc : CP G M d' 0 0 (.ref a :: av) h P) (hd' : d' < d) (hlen : av.length = na) (hcat : (st.map fun v => v.category).sum ≤ 8) (hroom : k ≤ kc ∧ n ≤ ks) (hd : Dq cc pc (.invokevirtual ix) 3 pc') (kk : ∀ r h', P r h' → V X G nL k n Q pc' ls (r.toList ++ st) h') : V X G nL k n Q pc ls (av.reverse ++ .ref a :: st) h := by
  obtain ⟨hd, rfl⟩ := hd
  obtain ⟨hI, hl, hsm, hix, ⟨C, T, N, hci, hse⟩, hi, h100, hdx, cb, ml, rx, hcx⟩ := hm
  refine v_run (mc := 0) (ms := 0) (a := (Value.ref (gAd G a) :: av.map (cv G)).toArray) hX (fun H locs la hW hS hL => ?_) kk
  have hG : GoodIn TG (va_wsO own ix C x.cls x M.1 (wsM M)) := by
    intro w hw
    rcases List.mem_append.mp hw with hw | hw
    · have : w ∈ TG := by
        simp only [List.mem_cons, List.not_mem_nil, or_false] at hw
        rcases hw with rfl | rfl | rfl | rfl | rfl | rfl
        · exact hl
        · exact hsm
        · exact hix
        · exact hse
        · exact hi
        · exact hI.2.1
      exact ⟨this, good_of_word (tg_good this)⟩
    · exact good_all hI.1 w hw
  exact va_runU (bytes := M.2.1) (maxL := M.2.2.1) (ret := M.2.2.2) (n := na) (C := C) (owner := x.cls) (As := av.map (cv G)) (okFix hX) (hc (xl X)) (va_cwO na hX.2.2.2.2.2.1 hG rfl rfl rfl hcx hdx (roomC hR hd' hI.2.2.2)) (preV hX hW hk hci h100) rfl (by rw [List.length_map]; exact hlen) hL.1 (by show List.map _ _ = _; rw [map_revV]) (lv_room (catS hcat)) hd (fitR (mc := 0) (ms := 0) hR hroom)
/-- super.m() -/
def MP (own : String) (ix ci : Nat) (M : Mth) (na : Nat) : Prop := MI M na ∧ Cond.methodLink own ix M.1 ∈ TG ∧ Cond.sameMethod M.1.cls M.1.cls M.1.name M.1.desc ∈ TG ∧ Cond.superclass own M.1.cls ∈ TG ∧ Cond.instanceMethod M.1 ∈ TG ∧ (∃ C T N, vwCl[ci]? = some (C, T, N)) ∧ ci < 100 ∧ M.1.name ≠ "<init>"
theorem v_callP {a ci : Nat} (hX : OKx X G own cc nL rt) (hR : xR X = rmC d kc ks) (hm : MP own ix ci M na) (hk : Kd h a ci) (hc : CP G M d' 0 0 (.ref a :: av) h P) (hd' : d' < d) (hlen : av.length = na) (hcat : (st.map fun v => v.category).sum ≤ 8) (hroom : k ≤ kc ∧ n ≤ ks) (hd : Dq cc pc (.invokespecial ix) 3 pc') (kk : ∀ r h', P r h' → V X G nL k n Q pc' ls (r.toList ++ st) h') : V X G nL k n Q pc ls (av.reverse ++ .ref a :: st) h := by
  obtain ⟨hd, rfl⟩ := hd
  obtain ⟨hI, hl, hsm, hsu, hi, ⟨C, T, N, hci⟩, h100, hno⟩ := hm
  refine v_run (mc := 0) (ms := 0) (a := (Value.ref (gAd G a) :: av.map (cv G)).toArray) hX (fun H locs la hW hS hL => ?_) kk
  have hG : GoodIn TG (va_wsSU own ix M.1 (wsM M)) := by
    intro w hw
    rcases List.mem_append.mp hw with hw | hw
    · have : w ∈ TG := by
        simp only [List.mem_cons, List.not_mem_nil, or_false] at hw
        rcases hw with rfl | rfl | rfl | rfl | rfl
        · exact hl
        · exact hsm
        · exact hsu
        · exact hi
        · exact hI.2.1
      exact ⟨this, good_of_word (tg_good this)⟩
    · exact good_all hI.1 w hw
  exact va_runSU (bytes := M.2.1) (maxL := M.2.2.1) (ret := M.2.2.2) (n := na) (C := C) (As := av.map (cv G)) (hX.2.2.2.2.2.2.1.1.1 ci _ hci).2 (okFix hX) (hc (xl X)) (va_cwSU na hX.2.2.2.2.2.1 hG rfl rfl rfl ⟨hno, hI.2.2.1.2.2⟩ (roomC hR hd' hI.2.2.2)) (preV hX hW hk hci h100) rfl (by rw [List.length_map]; exact hlen) hL.1 (by show List.map _ _ = _; rw [map_revV]) (lv_room (catS hcat)) hd (fitR (mc := 0) (ms := 0) hR hroom)
/-- a constructor -/
def MC (own : String) (ix : Nat) (M : Mth) (na : Nat) : Prop := MI M na ∧ Cond.methodLink own ix M.1 ∈ TG ∧ Cond.instanceMethod M.1 ∈ TG ∧ M.1.name = "<init>" ∧ M.2.2.2 = none
theorem v_callC {a : Nat} (hX : OKx X G own cc nL rt) (hR : xR X = rmC d kc ks) (hm : MC own ix M na) (hc : CP G M d' mc ms (.ref a :: av) h P) (hd' : d' < d) (hlen : av.length = na) (hcat : (st.map fun v => v.category).sum ≤ 8) (hroom : k + mc ≤ kc ∧ n + ms ≤ ks) (hd : Dq cc pc (.invokespecial ix) 3 pc') (kk : ∀ r h', P r h' → V X G nL (k + mc) (n + ms) Q pc' ls (r.toList ++ st) h') : V X G nL k n Q pc ls (av.reverse ++ .ref a :: st) h := by
  obtain ⟨hd, rfl⟩ := hd
  obtain ⟨hI, hl, hi, hni, hno⟩ := hm
  refine v_run (a := (Value.ref (gAd G a) :: av.map (cv G)).toArray) hX (fun H locs la hW hS hL => ?_) kk
  exact va_runI (bytes := M.2.1) (maxL := M.2.2.1) (n := na) (As := av.map (cv G)) (okFix hX) (hc (xl X)) ⟨callB_of na hX.2.2.2.2.2.1 (good_all hI.1) (by rw [← hno]) rfl rfl (hX.2.2.2.2.2.1 _ hI.2.1) (hX.2.2.2.2.2.1 _ hl) hI.2.2.1 (roomC hR hd' hI.2.2.2), hni, hX.2.2.2.2.2.1 _ hi⟩ (preS hX hW (av := .ref a :: av)) rfl (by rw [List.length_map]; exact hlen) hL.1 (by show List.map _ _ = _; rw [map_revV]) (lv_room (catS hcat)) hd (fitR hR hroom)
/-- a nest mate's private constructor -/
def MD (own : String) (ix : Nat) (M : Mth) (na : Nat) : Prop := MI M na ∧ (∃ host, Cond.methodLinkNest own ix M.1 host ∈ lw_tbl) ∧ Cond.instanceMethod M.1 ∈ TG ∧ M.1.name = "<init>" ∧ M.2.2.2 = none
theorem v_callD {a : Nat} (hX : OKx X G own cc nL rt) (hR : xR X = rmC d kc ks) (hm : MD own ix M na) (hc : CP G M d' mc ms (.ref a :: av) h P) (hd' : d' < d) (hlen : av.length = na) (hcat : (st.map fun v => v.category).sum ≤ 8) (hroom : k + mc ≤ kc ∧ n + ms ≤ ks) (hd : Dq cc pc (.invokespecial ix) 3 pc') (kk : ∀ r h', P r h' → V X G nL (k + mc) (n + ms) Q pc' ls (r.toList ++ st) h') : V X G nL k n Q pc ls (av.reverse ++ .ref a :: st) h := by
  obtain ⟨hd, rfl⟩ := hd
  obtain ⟨hI, ⟨host, hl⟩, hi, hni, hno⟩ := hm
  refine v_run (a := (Value.ref (gAd G a) :: av.map (cv G)).toArray) hX (fun H locs la hW hS hL => ?_) kk
  exact va_runIN (bytes := M.2.1) (maxL := M.2.2.1) (n := na) (As := av.map (cv G)) (okFix hX) (hc (xl X)) ⟨va_cnB na hX.2.2.2.2.2.1 (good_all hI.1) (by rw [← hno]) rfl rfl (hX.2.2.2.2.2.2.1.2.1 _ hl rfl) (hX.2.2.2.2.2.1 _ hI.2.1) hI.2.2.1 (roomC hR hd' hI.2.2.2), hni, hX.2.2.2.2.2.1 _ hi⟩ (preS hX hW (av := .ref a :: av)) rfl (by rw [List.length_map]; exact hlen) hL.1 (by show List.map _ _ = _; rw [map_revV]) (lv_room (catS hcat)) hd (fitR hR hroom)
end VC
end
section
theorem celN_old {G : Glb} {h : AHp} {c m b : Nat} (hb : b < hpN h) : celE G (stN h c m) b = celE G h b := by
  have hb' : ¬ b = hpN h := by omega
  have e1 : hpI (stN h c m) b = hpI h b := by funext j; exact if_neg hb'
  have e2 : hpR (stN h c m) b = hpR h b := by funext j; exact if_neg hb'
  have e3 : hpJ (stN h c m) b = hpJ h b := by funext j; exact if_neg hb'
  have e4 : hpK (stN h c m) b = hpK h b := if_neg hb'
  have e5 : hpL (stN h c m) b = hpL h b := if_neg hb'
  unfold celE
  rw [e1, e2, e4, e5, fls_ext (h := stN h c m) (h' := h) (lyt (hpK h b)) 0 (fun j t _ => by unfold fdv; rw [e1, e2, e3])]
theorem Wd.new {G : Glb} {h : AHp} {H H1 : Heap} {c m : Nat} (hW : Wd G h H) (hN : hpN h + 1 < 1000000) (hz : H1.size = H.size + 1) (oq : ∀ q : Nat, q < H.size → H1[q]? = H[q]?) (h1 : va_at (gD G) vwCl (H.size, celE G (stN h c m) (hpN h)) H1) : Wd G (stN h c m) H1 := by
  have hs := hW.1
  refine ⟨by rw [hz, hs]; rfl, hN, fun q hq => ?_, fun b hb => ?_⟩
  · rw [oq q (by omega)]; exact hW.2.2.1 q hq
  · have hb2 : b < hpN h + 1 := hb
    by_cases hba : b = hpN h
    · subst hba; rw [← hs]; exact h1
    · rw [celN_old (by omega)]
      exact (hW.2.2.2 b (by omega)).kept (oq (gB G + b) (by omega))
section VNW
variable {X : Cx} {G : Glb} {own : String} {cc : ByteArray} {nL k n pc pc' : Nat} {rt : Option FieldType} {Q : State → Prop} {ls : List (Option Value)} {st : List Value} {h : AHp} {d kc ks : Nat}
theorem va_S.grow {A : Nat → Prop} {H0 H H1 : Heap} {locs : List Loc} (hS : va_S A H0 H locs) (z1 : H1.size = H.size + 1) (o1 : ∀ q : Nat, q < H.size → H1[q]? = H[q]?) : va_S A H0 H1 locs := ⟨Nat.le_trans hS.1 (by omega), fun x h1 h2 => (o1 x (Nat.lt_of_lt_of_le h1 hS.1)).trans (hS.2.1 x h1 h2), hS.2.2⟩
theorem v_new (hX : OKx X G own cc nL rt) (hR : xR X = rmC d kc ks) {ix ci N : Nat} {C : String} {T : u_T} {ty : Nat → FieldType} (hc : ClOK ci C T N ty) (hl : Cond.classLink own ix C ∈ TG) (hi : Cond.instantiable C N ∈ TG) (hini : Cond.initialized C ∈ TG) (hN : hpN h + 1 < 1000000) (hroom : k + 1 ≤ kc ∧ n + N ≤ ks) (hd : Dq cc pc (.new ix) 3 pc') (kk : V X G nL (k + 1) (n + N) Q pc' ls (.ref (hpN h) :: st) (stN h ci 0)) : V X G nL k n Q pc ls st h := by
  obtain ⟨hd, rfl⟩ := hd
  intro H locs la hW hS hL
  have hts := hX.2.2.2.2.2.1
  have hKn := hX.2.2.2.2.2.2.1.1.1 ci _ hc.1
  refine W.newcK hX.1 hX.2.1 hX.2.2.2.2.1 (hts _ hl) (hts _ hi) (hts _ hini) rfl hd (by rw [hR]; exact hroom.1) (by rw [hR]; exact hroom.2) hKn.2.1 rfl fun H1 kC hkC e1 z1 o1 => ?_
  have ead : gAd G (hpN h) = H.size := by rw [gAd_lt hW.2.1]; exact hW.1.symm
  have hWn : Wd G (stN h ci 0) H1 := by
    refine hW.new hN z1 o1 ?_
    rw [celE_obj (show hpK (stN h ci 0) (hpN h) = ci from if_pos rfl) hc.2.2.2.2.2.1]
    refine ⟨_, hc.1, (u_born ty hts hc.2.1 hKn hkC e1 hc.2.2.1).to (fun j hj => ?_)⟩
    have hj2 : j < (lyt ci).length := by rw [hc.2.2.2.2.1]; exact hj
    have ht : (lyt ci)[j]? = some (lyt ci)[j] := List.getElem?_eq_getElem hj2
    have hty := FL.ty (own := own) (ix := ix) hc hj ht
    have e2 := fls_at (G := G) (h := stN h ci 0) (a := hpN h) (lyt ci) 0 j _ ht
    rw [Nat.zero_add] at e2
    show defaultValue (ty j) = (fls G (stN h ci 0) (hpN h) 0 (lyt ci)).getD j .null
    rw [List.getD, e2]
    show defaultValue (ty j) = fdv G (stN h ci 0) (hpN h) (lyt ci)[j] j
    rw [← hty]
    have f1 : hpI (stN h ci 0) (hpN h) j = 0 := if_pos rfl
    have f2 : hpR (stN h ci 0) (hpN h) j = none := if_pos rfl
    have f3 : hpJ (stN h ci 0) (hpN h) j = 0 := if_pos rfl
    unfold fdv
    rw [f1, f2, f3]
    have h9 : ∀ t, t = ty j → tyT t ≠ 9 := by
      intro t ht2 h9
      have hm : (lyt ci)[j] ∈ lyt ci := List.getElem_mem hj2
      rw [← hty, ← ht2, h9] at hm
      have hcl : ci < 13 := by
        have := (List.getElem?_eq_some_iff.mp hc.1).1
        simpa [vwCl] using this
      have hno : ∀ c, c < 13 → ¬ 9 ∈ lyt c := by decide
      exact hno ci hcl hm
    generalize hq : ty j = t at *
    cases t <;> first | rfl | exact absurd rfl (h9 _ rfl)
  have := kk H1 locs la hWn (hS.grow z1 o1) hL
  rw [List.map_cons, show cv G (.ref (hpN h)) = .ref H.size from congrArg Value.ref ead] at this
  exact this
theorem v_newa (hX : OKx X G own cc nL rt) (hR : xR X = rmC d kc ks) {c L : Nat} {i : Int32} {at_ : ArrayType} (hc : (c = 100 ∧ at_ = .int) ∨ (c = 101 ∧ at_ = .boolean)) (hw : Cond.arrayClass (newarray.typeOf at_) ∈ TG) (hi : ¬ i < 0) (hL' : i.toNatClampNeg = L) (h9 : L ≤ 1000) (hN : hpN h + 1 < 1000000) (hroom : k + 1 ≤ kc ∧ n + L ≤ ks) (hd : Dq cc pc (.newarray at_) 2 pc') (kk : V X G nL (k + 1) (n + L) Q pc' ls (.ref (hpN h) :: st) (stN h c L)) : V X G nL k n Q pc ls (.int i :: st) h := by
  obtain ⟨hd, rfl⟩ := hd
  intro H locs la hW hS hL
  have hts := hX.2.2.2.2.2.1
  have hcb : componentBytes (newarray.typeOf at_) ≤ 8 := by rcases hc with ⟨-, rfl⟩ | ⟨-, rfl⟩ <;> decide
  refine va_newaK hX.1 hX.2.1 (atype := at_) (hts _ hw) rfl hd rfl hi hL' (Nat.le_trans (Nat.mul_le_mul h9 hcb) (Nat.le_of_ble_eq_true rfl)) (by rw [hR]; exact hroom.1) (by rw [hR]; exact hroom.2) rfl fun H1 cA e1 z1 o1 hAr hNm => ?_
  have ead : gAd G (hpN h) = H.size := by rw [gAd_lt hW.2.1]; exact hW.1.symm
  have hWn : Wd G (stN h c L) H1 := by
    refine hW.new hN z1 o1 ?_
    have hK0 := hX.2.2.2.2.2.2.1.1.2
    rcases hc with ⟨rfl, rfl⟩ | ⟨rfl, rfl⟩
    · rw [celE_int (show hpK (stN h 100 L) (hpN h) = 100 from if_pos rfl) (Or.inl rfl)]
      have hcA : cA = gA G 100 := Option.some.inj (hNm.symm.trans (hK0 0 _ rfl).2)
      show H1[H.size]? = some (vp_cell _ _)
      rw [e1, hcA, show hpL (stN h 100 L) (hpN h) = L from if_pos rfl, vp_cell_i]
      congr 2
      funext j
      show Value.int 0 = .int (hpI (stN h 100 L) (hpN h) j)
      rw [show hpI (stN h 100 L) (hpN h) j = 0 from if_pos rfl]
    · rw [celE_int (show hpK (stN h 101 L) (hpN h) = 101 from if_pos rfl) (Or.inr rfl)]
      have hcA : cA = gA G 101 := Option.some.inj (hNm.symm.trans (hK0 1 _ rfl).2)
      show H1[H.size]? = some (vp_cell _ _)
      rw [e1, hcA, show hpL (stN h 101 L) (hpN h) = L from if_pos rfl, vp_cell_i]
      congr 2
      funext j
      show Value.int 0 = .int (hpI (stN h 101 L) (hpN h) j)
      rw [show hpI (stN h 101 L) (hpN h) j = 0 from if_pos rfl]
  have := kk H1 locs la hWn (hS.grow z1 o1) hL
  rw [List.map_cons, show cv G (.ref (hpN h)) = .ref H.size from congrArg Value.ref ead] at this
  exact this
theorem v_anew (hX : OKx X G own cc nL rt) (hR : xR X = rmC d kc ks) {c L ix : Nat} {i : Int32} {C : String} (hc : (c = 102 ∧ C = RX1) ∨ (c = 103 ∧ C = RX6)) (hl : Cond.classLink own ix C ∈ TG) (hi : ¬ i < 0) (hL' : i.toNatClampNeg = L) (h9 : L ≤ 1000) (hN : hpN h + 1 < 1000000) (hroom : k + 1 ≤ kc ∧ n + L ≤ ks) (hd : Dq cc pc (.anewarray ix) 3 pc') (kk : V X G nL (k + 1) (n + L) Q pc' ls (.ref (hpN h) :: st) (stN h c L)) : V X G nL k n Q pc ls (.int i :: st) h := by
  obtain ⟨hd, rfl⟩ := hd
  subst hL'
  intro H locs la hW hS hL
  have hts := hX.2.2.2.2.2.1
  have hover : va_AO C (xs X) := by rcases hc with ⟨-, rfl⟩ | ⟨-, rfl⟩; exact hX.2.2.2.2.2.2.1.2.2.1; exact hX.2.2.2.2.2.2.1.2.2.2.1
  refine W.anew hX.1 hX.2.1 hX.2.2.2.2.1 (hts _ hl) (va_AO.use hover) rfl hd rfl hi (Nat.le_trans (Nat.mul_le_mul h9 (Nat.le_refl 4)) (Nat.le_of_ble_eq_true rfl)) (by rw [hR]; exact hroom.1) (by rw [hR]; exact hroom.2) fun cA kA comp f1 f2 f3 f4 => ?_
  generalize hH1 : H.push ({ cls := cA, slots := Array.replicate i.toNatClampNeg .null, vm := .none } : Cell) = H1
  have z1 : H1.size = H.size + 1 := by rw [← hH1, Array.size_push]
  have e1 : H1[H.size]? = some (arrV cA i.toNatClampNeg (fun _ => .null)) := by rw [← hH1, Array.getElem?_push_size, ← arrV_new]
  have o1 : ∀ q : Nat, q < H.size → H1[q]? = H[q]? := fun q hq => by rw [← hH1, Array.getElem?_push, if_neg (Nat.ne_of_lt hq)]
  have ead : gAd G (hpN h) = H.size := by rw [gAd_lt hW.2.1]; exact hW.1.symm
  have hWn : Wd G (stN h c i.toNatClampNeg) H1 := by
    refine hW.new hN z1 o1 ?_
    have hK0 := hX.2.2.2.2.2.2.1.1.2
    have hcc : c = 102 ∨ c = 103 := by omega
    have hcA : cA = gA G c := by
      rcases hc with ⟨rfl, rfl⟩ | ⟨rfl, rfl⟩
      · obtain ⟨_, _, -, -, -, g⟩ := (hK0 2 _ rfl).2
        exact Option.some.inj (f1.symm.trans g)
      · obtain ⟨_, _, -, -, -, g⟩ := (hK0 3 _ rfl).2
        exact Option.some.inj (f1.symm.trans g)
    rw [celE_ref (show hpK (stN h c i.toNatClampNeg) (hpN h) = c from if_pos rfl) hcc]
    show H1[H.size]? = some (vp_cell _ _)
    rw [e1, hcA, show hpL (stN h c i.toNatClampNeg) (hpN h) = i.toNatClampNeg from if_pos rfl, vp_cell_q]
    congr 2
    funext j
    rw [show hpR (stN h c i.toNatClampNeg) (hpN h) j = none from if_pos rfl]
    rfl
  have := kk H1 locs la hWn (hS.grow z1 o1) hL
  rw [List.map_cons, show cv G (.ref (hpN h)) = .ref H.size from congrArg Value.ref ead] at this
  exact this
end VNW
end
section
section VM
variable {X : Cx} {G : Glb} {own : String} {cc : ByteArray} {nL k n pc pc' : Nat} {rt : Option FieldType} {Q : State → Prop} {ls : List (Option Value)} {st : List Value} {h : AHp} {d kc ks : Nat}
theorem Wd.ar {h : AHp} {H : Heap} (hW : Wd G h H) {a c : Nat} (hk : Kd h a c) (hc : c = 102 ∨ c = 103) : va_at (gD G) vwCl (gAd G a, .inl (gA G c, (hpL h a, .inr (.inr (.inr (.inr (fun i => (hpR h a i).map (gAd G)))))))) H := by
  have h1 := hW.at hk
  rwa [celE_ref hk.1 hc] at h1
theorem v_aald (hX : OKx X G own cc nL rt) {a c L : Nat} {i : Int32} {r : Option Nat} (hc : c = 102 ∨ c = 103) (hk : Kd h a c) (hl : hpL h a = L) (hi : vp_in i L) (hr : hpR h a i.toNatClampNeg = r) (hd : Dq cc pc .aaload 1 pc') (kk : V X G nL k n Q pc' ls (va_rf r :: st) h) : V X G nL k n Q pc ls (.int i :: .ref a :: st) h := by
  obtain ⟨hd, rfl⟩ := hd
  subst hl
  subst hr
  intro H locs la hW hS hL
  have e : cv G (va_rf (hpR h a i.toNatClampNeg)) = va_rf ((hpR h a i.toNatClampNeg).map (gAd G)) := by cases hpR h a i.toNatClampNeg <;> rfl
  have kk := kk H locs la hW hS hL
  rw [List.map_cons, e] at kk
  rcases hc with rfl | rfl
  · exact va_aldq (D := gD G) (cl := vwCl) hX.1 hX.2.1 hX.2.2.2.2.2.2.1.1 (hW.ar hk (Or.inl rfl)).here 0 2 rfl rfl hi hd kk
  · exact va_aldq (D := gD G) (cl := vwCl) hX.1 hX.2.1 hX.2.2.2.2.2.2.1.1 (hW.ar hk (Or.inr rfl)).here 0 3 rfl rfl hi hd kk
/-- a store of an object of class ci into a row of E -/
theorem v_aast (hX : OKx X G own cc nL rt) {a v c ci L : Nat} {i : Int32} {C E : String} {T : u_T} {N : Nat} (hc : (c = 102 ∧ E = RX1) ∨ (c = 103 ∧ E = RX6)) (hci : vwCl[ci]? = some (C, T, N)) (h100 : ci < 100) (hca : C = E ∨ Cond.castable C E ∈ lw_tbl) (hk : Kd h a c) (hv : Kd h v ci) (hl : hpL h a = L) (hi : vp_in i L) (hd : Dq cc pc .aastore 1 pc') (kk : V X G nL k n Q pc' ls st (stR h a i.toNatClampNeg (some v))) : V X G nL k n Q pc ls (.ref v :: .int i :: .ref a :: st) h := by
  obtain ⟨hd, rfl⟩ := hd
  subst hl
  intro H locs la hW hS hL
  have hc2 : c = 102 ∨ c = 103 := by omega
  have ead : gAd G a = gB G + a := gAd_lt (Nat.lt_trans hk.2 hW.2.1)
  have hat : H[gAd G a]? = some (vp_cell (gA G c) (hpL h a, .inr (.inr (.inr (.inr (fun i => (hpR h a i).map (gAd G))))))) := hW.ar hk hc2
  have hav := hW.at hv
  rw [celE_obj hv.1 h100] at hav
  obtain ⟨r', hr', cellV, g1, g2, g3, -⟩ := hav
  have hK := hX.2.2.2.2.2.2.1.1
  have hcls := (hK.1 ci _ hci).2
  have hra : va_RA (xs X) (gA G c) (.object E) := by
    rcases hc with ⟨rfl, rfl⟩ | ⟨rfl, rfl⟩
    · exact (hK.2 2 _ rfl).2
    · exact (hK.2 3 _ rfl).2
  obtain ⟨kA, comp, k1, k2, k3, -⟩ := hra
  obtain ⟨kE, hkE, -⟩ := Vm.findClass_spec k3
  obtain ⟨kC, hkC, -⟩ := hcls.2
  have hass : (xs X).vm.assignable (G.2.1 ci) comp = true := by
    rcases hca with rfl | hca
    · have : comp = G.2.1 ci := Option.some.inj (k3.symm.trans hcls.1)
      rw [this]
      exact va_assign hcls
    · obtain ⟨c0, t1, f1, f2, f3⟩ := Cond.castable_spec (va_Nw.use (A := xa X) rfl (hX.2.2.2.2.2.2.1.2.1 _ hca rfl))
      have e1 : G.2.1 ci = c0 := Option.some.inj (hcls.1.symm.trans f1)
      have e2 : comp = t1 := Option.some.inj (k3.symm.trans f2)
      rw [e1, e2]; exact f3
  have hlt : i.toNatClampNeg < hpL h a := Nat.not_le.mp fun q => hi (Or.inr q)
  have h0 : ¬ i < 0 := fun q => hi (Or.inl q)
  refine W.aast hX.1 hX.2.1 hat (fun q h => by cases h) (fun h => by cases h) k1 k2 rfl hkE ⟨h0, by show _ < (arrV _ _ _).slots.size; rw [arrV_size]; exact hlt⟩ g1 (fun q h => by rw [g3] at h; cases h) (by rw [g2]; exact hkC) (by rw [g2]; exact hass) rfl rfl hd fun H1 e z oq => ?_
  rw [ead] at e oq ⊢
  refine kk H1 _ la (hW.put hk.2 rfl z oq ?_ (fun b hb => cel_stR hb)) (hS.put z oq (Nat.le_add_right _ _)) hL
  rw [celE_ref (show hpK (stR h a i.toNatClampNeg (some v)) a = c from hk.1) hc2]
  show H1[gB G + a]? = some (vp_cell _ _)
  rw [e, vp_cell_q, vp_cell_q, arrV_store]
  congr 2
  funext q
  by_cases hq : q = i.toNatClampNeg
  · subst hq
    have e3 : hpR (stR h a i.toNatClampNeg (some v)) a i.toNatClampNeg = some v := up2_at
    simp only [updV, if_true, e3]
    rfl
  · have e3 : hpR (stR h a i.toNatClampNeg (some v)) a q = hpR h a q := up2_ne (fun z => hq z.2)
    simp only [updV, if_neg hq, e3]
theorem v_instY (hX : OKx X G own cc nL rt) {a ci ix : Nat} {C nm : String} {T : u_T} {N : Nat} (hk : Kd h a ci) (hci : vwCl[ci]? = some (C, T, N)) (h100 : ci < 100) (hl : Cond.classLink own ix nm ∈ TG) (hc : C = nm ∨ Cond.castable C nm ∈ lw_tbl) (hd : Dq cc pc (.instanceof ix) 3 pc') (kk : V X G nL k n Q pc' ls (.int 1 :: st) h) : V X G nL k n Q pc ls (.ref a :: st) h := by
  obtain ⟨hd, rfl⟩ := hd
  intro H locs la hW hS hL
  rcases hc with rfl | hc
  · exact va_instS hX.1 hX.2.1 hX.2.2.2.2.1 (hX.2.2.2.2.2.1 _ hl) (hX.2.2.2.2.2.2.1.1.1 ci _ hci).2 (recvC hX hW hk hci h100) hd (kk H locs la hW hS hL)
  · exact va_instY hX.1 hX.2.1 hX.2.2.2.2.1 (hX.2.2.2.2.2.1 _ hl) (hX.2.2.2.2.2.2.1.2.1 _ hc rfl) (recvC hX hW hk hci h100) hd (kk H locs la hW hS hL)
theorem v_instNo (hX : OKx X G own cc nL rt) {a ci ix : Nat} {C nm : String} {T : u_T} {N : Nat} (hk : Kd h a ci) (hci : vwCl[ci]? = some (C, T, N)) (h100 : ci < 100) (hl : Cond.classLink own ix nm ∈ TG) (hc : va_Nc C nm (xs X)) (hd : Dq cc pc (.instanceof ix) 3 pc') (kk : V X G nL k n Q pc' ls (.int 0 :: st) h) : V X G nL k n Q pc ls (.ref a :: st) h := by
  obtain ⟨hd, rfl⟩ := hd
  intro H locs la hW hS hL
  exact va_instNo hX.1 hX.2.1 hX.2.2.2.2.1 (hX.2.2.2.2.2.1 _ hl) hc (recvC hX hW hk hci h100) hd (kk H locs la hW hS hL)
/-- Object.<init> -/
def MO (own : String) (ix : Nat) : Prop := Cond.methodLink own ix Lib.objectInit ∈ TG ∧ Cond.instanceMethod Lib.objectInit ∈ TG ∧ Cond.code Lib.objectInit ⟨#[0xb1]⟩ 1 none ∈ TG
theorem v_objInit (hX : OKx X G own cc nL rt) (hR : xR X = rmC d kc ks) (hd1 : 1 ≤ d) {a ix : Nat} (hm : MO own ix) (hcat : (st.map fun v => v.category).sum ≤ 8) (hd : Dq cc pc (.invokespecial ix) 3 pc') (kk : V X G nL k n Q pc' ls st h) : V X G nL k n Q pc ls (.ref a :: st) h := by
  obtain ⟨hd, rfl⟩ := hd
  intro H locs la hW hS hL
  have hcat2 := catS (G := G) hcat
  refine W.objInit hX.1 hX.2.1 hX.2.2.2.2.1 (hX.2.2.2.2.2.1 _ hm.1) (hX.2.2.2.2.2.1 _ hm.2.1) (hX.2.2.2.2.2.1 _ hm.2.2) rfl (hL.1.trans hX.2.2.2.1.symm) rfl hd (by rw [hR]; exact hd1) ?_ (kk H locs la hW hS hL)
  rw [hR]
  show 2 * 0 + _ + 12 ≤ 40 * d
  omega
/-- Math.max, min, abs -/
def mJ (own : String) (ix : Nat) (y : MethodName) (b : ByteArray) (ml : Nat) : Prop := Cond.methodLink own ix y ∈ TG ∧ Cond.static y ∈ TG ∧ Cond.initialized "java/lang/Math" ∈ TG ∧ Cond.code y b ml (some .int) ∈ TG
theorem mth_room (hX : OKx X G own cc nL rt) (hR : xR X = rmC d kc ks) (hd1 : 1 ≤ d) (hcat : (st.map fun v => v.category).sum ≤ 8) : 1 ≤ (xR X).frames ∧ ((st.map (cv G)).map fun v => v.category).sum + 13 ≤ (xR X).locals := by
  have hcat2 := catS (G := G) hcat
  rw [hR]
  refine ⟨hd1, ?_⟩
  show _ + 13 ≤ 40 * d
  omega
theorem v_max (hX : OKx X G own cc nL rt) (hR : xR X = rmC d kc ks) (hd1 : 1 ≤ d) {x y : Int32} {ix : Nat} (hm : mJ own ix Lib.Math.max.name Lib.Math.max.code 2) (hcat : (st.map fun v => v.category).sum ≤ 8) (hroom : k ≤ kc ∧ n ≤ ks) (hd : Dq cc pc (.invokestatic ix) 3 pc') (kk : V X G nL k n Q pc' ls (.int (if x < y then y else x) :: st) h) : V X G nL k n Q pc ls (.int y :: .int x :: st) h := by
  obtain ⟨hd, rfl⟩ := hd
  intro H locs la hW hS hL
  obtain ⟨r1, r2⟩ := mth_room (G := G) hX hR hd1 hcat
  exact va_mmax hX.1 hX.2.1 (hX.2.2.2.1.trans hL.1.symm) hX.2.2.2.2.1 (hX.2.2.2.2.2.1 _ hm.1) (hX.2.2.2.2.2.1 _ hm.2.1) (hX.2.2.2.2.2.1 _ hm.2.2.1) (hX.2.2.2.2.2.1 _ hm.2.2.2) r1 r2 (by rw [hR]; exact hroom.1) (by rw [hR]; exact hroom.2) hd (kk H locs la hW hS hL)
theorem v_min (hX : OKx X G own cc nL rt) (hR : xR X = rmC d kc ks) (hd1 : 1 ≤ d) {x y : Int32} {ix : Nat} (hm : mJ own ix Lib.Math.min.name Lib.Math.min.code 2) (hcat : (st.map fun v => v.category).sum ≤ 8) (hroom : k ≤ kc ∧ n ≤ ks) (hd : Dq cc pc (.invokestatic ix) 3 pc') (kk : V X G nL k n Q pc' ls (.int (if y < x then y else x) :: st) h) : V X G nL k n Q pc ls (.int y :: .int x :: st) h := by
  obtain ⟨hd, rfl⟩ := hd
  intro H locs la hW hS hL
  obtain ⟨r1, r2⟩ := mth_room (G := G) hX hR hd1 hcat
  exact va_mmin hX.1 hX.2.1 (hX.2.2.2.1.trans hL.1.symm) hX.2.2.2.2.1 (hX.2.2.2.2.2.1 _ hm.1) (hX.2.2.2.2.2.1 _ hm.2.1) (hX.2.2.2.2.2.1 _ hm.2.2.1) (hX.2.2.2.2.2.1 _ hm.2.2.2) r1 r2 (by rw [hR]; exact hroom.1) (by rw [hR]; exact hroom.2) hd (kk H locs la hW hS hL)
theorem v_abs (hX : OKx X G own cc nL rt) (hR : xR X = rmC d kc ks) (hd1 : 1 ≤ d) {x : Int32} {ix : Nat} (hm : mJ own ix Lib.Math.abs.name Lib.Math.abs.code 1) (hcat : (st.map fun v => v.category).sum ≤ 8) (hroom : k ≤ kc ∧ n ≤ ks) (hd : Dq cc pc (.invokestatic ix) 3 pc') (kk : V X G nL k n Q pc' ls (.int (if 0 ≤ x then x else 0 - x) :: st) h) : V X G nL k n Q pc ls (.int x :: st) h := by
  obtain ⟨hd, rfl⟩ := hd
  intro H locs la hW hS hL
  obtain ⟨r1, r2⟩ := mth_room (G := G) hX hR hd1 hcat
  exact va_mabs hX.1 hX.2.1 (hX.2.2.2.1.trans hL.1.symm) hX.2.2.2.2.1 (hX.2.2.2.2.2.1 _ hm.1) (hX.2.2.2.2.2.1 _ hm.2.1) (hX.2.2.2.2.2.1 _ hm.2.2.1) (hX.2.2.2.2.2.1 _ hm.2.2.2) r1 r2 (by rw [hR]; exact hroom.1) (by rw [hR]; exact hroom.2) hd (kk H locs la hW hS hL)
/-- System.arraycopy over rows of ints -/
def mA (own : String) (ix : Nat) : Prop := Cond.methodLink own ix arraycopyName ∈ TG ∧ Cond.native arraycopyName ∈ TG ∧ Cond.static arraycopyName ∈ TG ∧ Cond.initialized "java/lang/System" ∈ TG
def stC (h : AHp) (a b sp dp m : Nat) : AHp := ((fun c j => if c = b ∧ dp ≤ j ∧ j < dp + m then h.1 a (sp + (j - dp)) else h.1 c j), h.2)
theorem cel_stC {a b sp dp m c : Nat} (hb : c ≠ b) : celE G (stC h a b sp dp m) c = celE G h c := by
  have e1 : hpI (stC h a b sp dp m) c = hpI h c := by funext j; exact if_neg (fun z => hb z.1)
  unfold celE
  show (if hpK h c < 100 then (Sum.inr (hpK h c, fls G (stC h a b sp dp m) c 0 (lyt (hpK h c))) : va_E) else if hpK h c < 102 then .inl (gA G (hpK h c), (hpL h c, .inl (hpI (stC h a b sp dp m) c))) else .inl (gA G (hpK h c), (hpL h c, .inr (.inr (.inr (.inr (fun i => (hpR h c i).map (gAd G)))))))) = _
  rw [e1, fls_ext (h := stC h a b sp dp m) (h' := h) (lyt (hpK h c)) 0 (fun j t _ => by unfold fdv; rw [e1]; rfl)]
theorem v_acopy (hX : OKx X G own cc nL rt) (hR : xR X = rmC d kc ks) (hd1 : 1 ≤ d) {a b ix La Lb : Nat} {sp dp m : Int32} (hm : mA own ix) (hka : Kd h a 100) (hkb : Kd h b 100) (hla : hpL h a = La) (hlb : hpL h b = Lb) (h1 : ¬ sp < 0) (h2 : ¬ dp < 0) (h3 : ¬ m < 0) (h4 : sp.toNatClampNeg + m.toNatClampNeg ≤ La) (h5 : dp.toNatClampNeg + m.toNatClampNeg ≤ Lb) (hcat : (st.map fun v => v.category).sum ≤ 8) (hd : Dq cc pc (.invokestatic ix) 3 pc') (kk : V X G nL k n Q pc' ls st (stC h a b sp.toNatClampNeg dp.toNatClampNeg m.toNatClampNeg)) : V X G nL k n Q pc ls (.int m :: .int dp :: .ref b :: .int sp :: .ref a :: st) h := by
  obtain ⟨hd, rfl⟩ := hd
  subst hla; subst hlb
  intro H locs la hW hS hL
  have hcat2 := catS (G := G) hcat
  have eb : gAd G b = gB G + b := gAd_lt (Nat.lt_trans hkb.2 hW.2.1)
  have nn : ∀ z : Int32, ¬ z < 0 → z.toInt = (z.toNatClampNeg : Int) := by
    intro z hz
    have hz0 : (0 : Int) ≤ z.toInt := by
      have := Int32.not_lt.mp hz
      simpa using Int32.le_iff_toInt_le.mp this
    show z.toInt = ((z.toInt.toNat : Nat) : Int)
    omega
  intro T hT Z
  have hts := hX.2.2.2.2.2.1
  have hc0 : H[gAd G a]? = some (vp_cell (gA G 100) (hpL h a, .inl (hpI h a))) := hW.ai hka (Or.inl rfl)
  have hc1 : H[gAd G b]? = some (vp_cell (gA G 100) (hpL h b, .inl (hpI h b))) := hW.ai hkb (Or.inl rfl)
  obtain ⟨-, k0, hk0, cm0, hkk0⟩ := (hX.2.2.2.2.2.2.1.1.2 0 _ rfl).1 (hpL h a) (fun j => .int (hpI h a j))
  obtain ⟨-, k1, hk1, cm1, hkk1⟩ := (hX.2.2.2.2.2.2.1.1.2 0 _ rfl).1 (hpL h b) (fun j => .int (hpI h b j))
  obtain ⟨vm', Z', step⟩ := Z.arraycopy hX.1 hX.2.2.2.2.1 (hts _ hm.1) (hts _ hm.2.1) (hts _ hm.2.2.1) (hts _ hm.2.2.2) (src := gAd G a) (dst := gAd G b) (cs := vp_cell (gA G 100) (hpL h a, .inl (hpI h a))) (cd := vp_cell (gA G 100) (hpL h b, .inl (hpI h b))) (srcPos := sp) (destPos := dp) (n := m) (by rw [hT]; exact hc0) (by rw [hT]; exact hc1)
    (fun _ h => by cases h) (fun _ h => by cases h) (fun h => by cases h) (fun h => by cases h) hk0 hk1 hkk0 hkk1 rfl h1 h2 h3
    (by rw [nn sp h1, nn m h3]; show ¬ _ > ((arrV (gA G 100) (hpL h a) (fun j => .int (hpI h a j))).slots.size : Int); rw [arrV_size]; omega)
    (by rw [nn dp h2, nn m h3]; show ¬ _ > ((arrV (gA G 100) (hpL h b) (fun j => .int (hpI h b j))).slots.size : Int); rw [arrV_size]; omega)
    (fun vm₁ _ i hi => by
      have e : (vp_cell (gA G 100) (hpL h a, .inl (hpI h a))).slots.getD (sp.toNatClampNeg + i) .null = .int (hpI h a (sp.toNatClampNeg + i)) := by
        show (arrV (gA G 100) (hpL h a) (fun j => .int (hpI h a j))).slots.getD _ _ = _
        rw [Array.getD_eq_getD_getElem?, arrV_read _ _ (by omega)]
        rfl
      refine ⟨?_, ?_⟩
      · rw [e]; rfl
      · rw [e]; exact trivial)
    (g := F0 (xm X) pc la (.int m :: .int dp :: .ref (gAd G b) :: .int sp :: .ref (gAd G a) :: st.map (cv G))) rfl (hL.1.trans hX.2.2.2.1.symm) (rest := st.map (cv G)) rfl (by rw [hX.2.1]; exact hd) (by rw [hR]; exact hd1) (by have h20 : nativeFrameWords "java/lang/System" "arraycopy" 5 ≤ 20 := (by decide); rw [hR]; show 2 * 0 + _ + (nativeFrameWords "java/lang/System" "arraycopy" 5 + 11) ≤ 40 * d; omega)
  have e1 : copied (vp_cell (gA G 100) (hpL h a, .inl (hpI h a))) (vp_cell (gA G 100) (hpL h b, .inl (hpI h b))) sp dp m = vp_cell (gA G 100) (hpL h b, .inl (va_cpy (hpI h a) (hpI h b) sp.toNatClampNeg dp.toNatClampNeg m.toNatClampNeg)) := va_copied (fun z => .int z) (gA G 100) (gA G 100) (hpI h a) (hpI h b) h4
  rw [e1] at Z' step
  have hl : gAd G b < H.size := (Array.getElem?_eq_some_iff.mp hc1).1
  have hheap : ((T.setVm vm').setCell (gAd G b) (vp_cell (gA G 100) (hpL h b, .inl (va_cpy (hpI h a) (hpI h b) sp.toNatClampNeg dp.toNatClampNeg m.toNatClampNeg)))).heap = H.setIfInBounds (gAd G b) (vp_cell (gA G 100) (hpL h b, .inl (va_cpy (hpI h a) (hpI h b) sp.toNatClampNeg dp.toNatClampNeg m.toNatClampNeg))) := by rw [← hT]; rfl
  generalize hH1 : H.setIfInBounds (gAd G b) (vp_cell (gA G 100) (hpL h b, .inl (va_cpy (hpI h a) (hpI h b) sp.toNatClampNeg dp.toNatClampNeg m.toNatClampNeg))) = H1 at hheap
  have oq : ∀ q : Nat, q ≠ gAd G b → H1[q]? = H[q]? := fun q hq => by rw [← hH1]; simp [Array.getElem?_setIfInBounds, Ne.symm hq]
  have hz : H1.size = H.size := by rw [← hH1]; simp
  have hat : H1[gAd G b]? = some (vp_cell (gA G 100) (hpL h b, .inl (va_cpy (hpI h a) (hpI h b) sp.toNatClampNeg dp.toNatClampNeg m.toNatClampNeg))) := by rw [← hH1]; simp [Array.getElem?_setIfInBounds, hl]
  have hWn : Wd G (stC h a b sp.toNatClampNeg dp.toNatClampNeg m.toNatClampNeg) H1 := by
    refine hW.put (a := b) hkb.2 rfl hz (by rw [← eb]; exact oq) ?_ (fun c hc => cel_stC hc)
    rw [celE_int (show hpK (stC h a b sp.toNatClampNeg dp.toNatClampNeg m.toNatClampNeg) b = 100 from hkb.1) (Or.inl rfl), ← eb]
    show H1[gAd G b]? = some (vp_cell _ _)
    rw [hat]
    congr 2
    show (hpL h b, Sum.inl _) = (hpL h b, Sum.inl _)
    congr 2
    funext j
    show va_cpy (hpI h a) (hpI h b) sp.toNatClampNeg dp.toNatClampNeg m.toNatClampNeg j = if b = b ∧ dp.toNatClampNeg ≤ j ∧ j < dp.toNatClampNeg + m.toNatClampNeg then h.1 a (sp.toNatClampNeg + (j - dp.toNatClampNeg)) else h.1 b j
    unfold va_cpy
    simp only [true_and]
    rfl
  obtain ⟨t, a1, b1⟩ := kk H1 _ la hWn ⟨by rw [hz]; exact hS.1, fun q g1 g2 => by
      rw [oq q (fun e => g2 (by rw [e, eb]; exact Nat.le_add_right _ _))]
      exact hS.2.1 q g1 g2, fun q hq => by
      rcases List.mem_append.mp hq with h | h
      · exact hS.2.2 q h
      · obtain ⟨z, -, hz⟩ := List.mem_map.mp h
        rw [← hz]
        show gB G ≤ gAd G b
        rw [eb]; exact Nat.le_add_right _ _⟩ hL _ hheap Z'
  exact ⟨t, step t a1, b1⟩
end VM
end
section
/-! what the tables say of our classes, fields and methods: written by wip/whole/facts.py -/
theorem ok_c0 : ClOK 0 RX0 TX0 6 tyX0 := ⟨rfl, tg_mems [135, 137, 139, 141, 143, 145] (by decide +kernel) (by decide +kernel), by decide +kernel, by decide +kernel, rfl, Nat.le_of_ble_eq_true rfl, by decide +kernel⟩
theorem ok_c1 : ClOK 1 RX1 TX1 1 tyX1 := ⟨rfl, tg_mems [696] (by decide +kernel) (by decide +kernel), by decide +kernel, by decide +kernel, rfl, Nat.le_of_ble_eq_true rfl, by decide +kernel⟩
theorem ok_c2 : ClOK 2 RX2 TX2 1 tyX2 := ⟨rfl, tg_mems [659] (by decide +kernel) (by decide +kernel), by decide +kernel, by decide +kernel, rfl, Nat.le_of_ble_eq_true rfl, by decide +kernel⟩
theorem ok_c3 : ClOK 3 RX3 TX3 1 tyX3 := ⟨rfl, tg_mems [692] (by decide +kernel) (by decide +kernel), by decide +kernel, by decide +kernel, rfl, Nat.le_of_ble_eq_true rfl, by decide +kernel⟩
theorem ok_c4 : ClOK 4 RX4 TX4 1 tyX4 := ⟨rfl, tg_mems [676] (by decide +kernel) (by decide +kernel), by decide +kernel, by decide +kernel, rfl, Nat.le_of_ble_eq_true rfl, by decide +kernel⟩
theorem ok_c5 : ClOK 5 RX5 TX5 13 tyX5 := ⟨rfl, tg_mems [228, 230, 232, 234, 236, 238, 240, 242, 244, 246, 248, 250, 252] (by decide +kernel) (by decide +kernel), by decide +kernel, by decide +kernel, rfl, Nat.le_of_ble_eq_true rfl, by decide +kernel⟩
theorem ok_c6 : ClOK 6 RX6 TX6 3 tyX6 := ⟨rfl, tg_mems [293, 295, 297] (by decide +kernel) (by decide +kernel), by decide +kernel, by decide +kernel, rfl, Nat.le_of_ble_eq_true rfl, by decide +kernel⟩
theorem ok_c7 : ClOK 7 RX7 TX7 1 tyX7 := ⟨rfl, tg_mems [668] (by decide +kernel) (by decide +kernel), by decide +kernel, by decide +kernel, rfl, Nat.le_of_ble_eq_true rfl, by decide +kernel⟩
theorem ok_c8 : ClOK 8 RX8 TX8 1 tyX8 := ⟨rfl, tg_mems [684] (by decide +kernel) (by decide +kernel), by decide +kernel, by decide +kernel, rfl, Nat.le_of_ble_eq_true rfl, by decide +kernel⟩
theorem ok_c9 : ClOK 9 RX9 TX9 5 tyX9 := ⟨rfl, tg_mems [269, 271, 273, 275, 277] (by decide +kernel) (by decide +kernel), by decide +kernel, by decide +kernel, rfl, Nat.le_of_ble_eq_true rfl, by decide +kernel⟩
theorem ok_c10 : ClOK 10 RX10 TX10 14 tyX10 := ⟨rfl, tg_mems [176, 178, 180, 182, 184, 186, 188, 190, 192, 194, 196, 198, 200, 202] (by decide +kernel) (by decide +kernel), by decide +kernel, by decide +kernel, rfl, Nat.le_of_ble_eq_true rfl, by decide +kernel⟩
theorem ok_c11 : ClOK 11 RX11 TX11 14 tyX11 := ⟨rfl, tg_mems [517, 519, 521, 523, 525, 527, 529, 531, 533, 535, 537, 539, 541, 543] (by decide +kernel) (by decide +kernel), by decide +kernel, by decide +kernel, rfl, Nat.le_of_ble_eq_true rfl, by decide +kernel⟩
theorem ok_c12 : ClOK 12 RX12 TX12 54 tyX12 := ⟨rfl, tg_mems [1138, 1140, 1142, 1144, 1146, 1148, 1150, 1152, 1154, 1156, 1158, 1160, 1162, 1164, 1166, 1168, 1170, 1172, 1174, 1176, 1178, 1180, 1182, 1184, 1186, 1188, 1190, 1192, 1194, 1196, 1198, 1200, 1202, 1204, 1206, 1208, 1210, 1212, 1214, 1216, 1218, 1220, 1222, 1224, 1226, 1228, 1230, 1232, 1234, 1236, 1238, 1240, 1242, 1244] (by decide +kernel) (by decide +kernel), by decide +kernel, by decide +kernel, rfl, Nat.le_of_ble_eq_true rfl, by decide +kernel⟩
theorem w_0 : Cond.selects "RingInSand$Tape" ⟨"RingInSand$Tape", "splitTokens", "()V"⟩ ⟨"RingInSand$Tape", "splitTokens", "()V"⟩ ∈ TG := tg_mem 0 (by decide +kernel) (by decide +kernel)
theorem w_1 : Cond.selects "RingInSand$Tape" ⟨"RingInSand$Tape", "byteAt", "(I)I"⟩ ⟨"RingInSand$Tape", "byteAt", "(I)I"⟩ ∈ TG := tg_mem 1 (by decide +kernel) (by decide +kernel)
theorem w_2 : Cond.selects "RingInSand$Tape" ⟨"RingInSand$Tape", "endOfWord", "(I)I"⟩ ⟨"RingInSand$Tape", "endOfWord", "(I)I"⟩ ∈ TG := tg_mem 2 (by decide +kernel) (by decide +kernel)
theorem w_3 : Cond.selects "RingInSand$Tape" ⟨"RingInSand$Tape", "addWord", "(II)V"⟩ ⟨"RingInSand$Tape", "addWord", "(II)V"⟩ ∈ TG := tg_mem 3 (by decide +kernel) (by decide +kernel)
theorem w_4 : Cond.selects "RingInSand$Tape" ⟨"RingInSand$Tape", "nameOf", "(II)I"⟩ ⟨"RingInSand$Tape", "nameOf", "(II)I"⟩ ∈ TG := tg_mem 4 (by decide +kernel) (by decide +kernel)
theorem w_5 : Cond.selects "RingInSand$Tape" ⟨"RingInSand$Tape", "isWord", "(Ljava/lang/String;II)Z"⟩ ⟨"RingInSand$Tape", "isWord", "(Ljava/lang/String;II)Z"⟩ ∈ TG := tg_mem 5 (by decide +kernel) (by decide +kernel)
theorem w_6 : Cond.selects "RingInSand$Tape" ⟨"RingInSand$Tape", "addToken", "(III)V"⟩ ⟨"RingInSand$Tape", "addToken", "(III)V"⟩ ∈ TG := tg_mem 6 (by decide +kernel) (by decide +kernel)
theorem w_7 : Cond.selects "RingInSand$Tape" ⟨"RingInSand$Tape", "keyOf", "(II)I"⟩ ⟨"RingInSand$Tape", "keyOf", "(II)I"⟩ ∈ TG := tg_mem 7 (by decide +kernel) (by decide +kernel)
theorem w_8 : Cond.selects "RingInSand$Tape" ⟨"RingInSand$Tape", "endOfNumber", "(I)I"⟩ ⟨"RingInSand$Tape", "endOfNumber", "(I)I"⟩ ∈ TG := tg_mem 8 (by decide +kernel) (by decide +kernel)
theorem w_9 : Cond.selects "RingInSand$Tape" ⟨"RingInSand$Tape", "addNumber", "(II)V"⟩ ⟨"RingInSand$Tape", "addNumber", "(II)V"⟩ ∈ TG := tg_mem 9 (by decide +kernel) (by decide +kernel)
theorem w_10 : Cond.selects "RingInSand$Tape" ⟨"RingInSand$Tape", "goTo", "(I)V"⟩ ⟨"RingInSand$Tape", "goTo", "(I)V"⟩ ∈ TG := tg_mem 10 (by decide +kernel) (by decide +kernel)
theorem w_11 : Cond.selects "RingInSand$Tape" ⟨"RingInSand$Tape", "readPart", "(I)Z"⟩ ⟨"RingInSand$Tape", "readPart", "(I)Z"⟩ ∈ TG := tg_mem 11 (by decide +kernel) (by decide +kernel)
theorem w_12 : Cond.selects "RingInSand$Tape" ⟨"RingInSand$Tape", "expect", "(I)Z"⟩ ⟨"RingInSand$Tape", "expect", "(I)Z"⟩ ∈ TG := tg_mem 12 (by decide +kernel) (by decide +kernel)
theorem w_13 : Cond.selects "RingInSand$Tape" ⟨"RingInSand$Tape", "refuse", "()Z"⟩ ⟨"RingInSand$Tape", "refuse", "()Z"⟩ ∈ TG := tg_mem 13 (by decide +kernel) (by decide +kernel)
theorem w_14 : Cond.selects "RingInSand$Tape" ⟨"RingInSand$Tape", "readOr", "()Z"⟩ ⟨"RingInSand$Tape", "readOr", "()Z"⟩ ∈ TG := tg_mem 14 (by decide +kernel) (by decide +kernel)
theorem w_15 : Cond.selects "RingInSand$Tape" ⟨"RingInSand$Tape", "readAnd", "()Z"⟩ ⟨"RingInSand$Tape", "readAnd", "()Z"⟩ ∈ TG := tg_mem 15 (by decide +kernel) (by decide +kernel)
theorem w_16 : Cond.selects "RingInSand$Tape" ⟨"RingInSand$Tape", "readNot", "()Z"⟩ ⟨"RingInSand$Tape", "readNot", "()Z"⟩ ∈ TG := tg_mem 16 (by decide +kernel) (by decide +kernel)
theorem w_17 : Cond.selects "RingInSand$Tape" ⟨"RingInSand$Tape", "readComparison", "()Z"⟩ ⟨"RingInSand$Tape", "readComparison", "()Z"⟩ ∈ TG := tg_mem 17 (by decide +kernel) (by decide +kernel)
theorem w_18 : Cond.selects "RingInSand$Tape" ⟨"RingInSand$Tape", "readSum", "()Z"⟩ ⟨"RingInSand$Tape", "readSum", "()Z"⟩ ∈ TG := tg_mem 18 (by decide +kernel) (by decide +kernel)
theorem w_19 : Cond.selects "RingInSand$Tape" ⟨"RingInSand$Tape", "readTerm", "()Z"⟩ ⟨"RingInSand$Tape", "readTerm", "()Z"⟩ ∈ TG := tg_mem 19 (by decide +kernel) (by decide +kernel)
theorem w_20 : Cond.selects "RingInSand$Tape" ⟨"RingInSand$Tape", "readOne", "()Z"⟩ ⟨"RingInSand$Tape", "readOne", "()Z"⟩ ∈ TG := tg_mem 20 (by decide +kernel) (by decide +kernel)
theorem w_21 : Cond.selects "RingInSand$Tape" ⟨"RingInSand$Tape", "worthHere", "()I"⟩ ⟨"RingInSand$Tape", "worthHere", "()I"⟩ ∈ TG := tg_mem 21 (by decide +kernel) (by decide +kernel)
theorem w_22 : Cond.selects "RingInSand$Tape" ⟨"RingInSand$Tape", "emit", "(I)V"⟩ ⟨"RingInSand$Tape", "emit", "(I)V"⟩ ∈ TG := tg_mem 22 (by decide +kernel) (by decide +kernel)
theorem w_23 : Cond.selects "RingInSand$Tape" ⟨"RingInSand$Tape", "readNegated", "()Z"⟩ ⟨"RingInSand$Tape", "readNegated", "()Z"⟩ ∈ TG := tg_mem 23 (by decide +kernel) (by decide +kernel)
theorem w_24 : Cond.selects "RingInSand$Tape" ⟨"RingInSand$Tape", "enter", "()Z"⟩ ⟨"RingInSand$Tape", "enter", "()Z"⟩ ∈ TG := tg_mem 24 (by decide +kernel) (by decide +kernel)
theorem w_25 : Cond.selects "RingInSand$Tape" ⟨"RingInSand$Tape", "readBracket", "()Z"⟩ ⟨"RingInSand$Tape", "readBracket", "()Z"⟩ ∈ TG := tg_mem 25 (by decide +kernel) (by decide +kernel)
theorem w_26 : Cond.selects "RingInSand" ⟨"RingInSand", "changeOdds", "(II)I"⟩ ⟨"RingInSand", "changeOdds", "(II)I"⟩ ∈ TG := tg_mem 26 (by decide +kernel) (by decide +kernel)
theorem w_27 : Cond.selects "RingInSand" ⟨"RingInSand", "changeTreads", "(II)I"⟩ ⟨"RingInSand", "changeTreads", "(II)I"⟩ ∈ TG := tg_mem 27 (by decide +kernel) (by decide +kernel)
theorem w_28 : Cond.selects "RingInSand" ⟨"RingInSand", "changeBag", "(I)I"⟩ ⟨"RingInSand", "changeBag", "(I)I"⟩ ∈ TG := tg_mem 28 (by decide +kernel) (by decide +kernel)
theorem w_29 : Cond.selects "RingInSand" ⟨"RingInSand", "changeHour", "(I)I"⟩ ⟨"RingInSand", "changeHour", "(I)I"⟩ ∈ TG := tg_mem 29 (by decide +kernel) (by decide +kernel)
theorem w_30 : Cond.selects "RingInSand" ⟨"RingInSand", "changeMinutes", "(I)I"⟩ ⟨"RingInSand", "changeMinutes", "(I)I"⟩ ∈ TG := tg_mem 30 (by decide +kernel) (by decide +kernel)
theorem w_31 : Cond.selects "RingInSand$Rules" ⟨"RingInSand$Rules", "stand", "(III)V"⟩ ⟨"RingInSand$Rules", "stand", "(III)V"⟩ ∈ TG := tg_mem 31 (by decide +kernel) (by decide +kernel)
theorem w_32 : Cond.selects "RingInSand$Rules" ⟨"RingInSand$Rules", "value", "(II)I"⟩ ⟨"RingInSand$Rules", "value", "(II)I"⟩ ∈ TG := tg_mem 32 (by decide +kernel) (by decide +kernel)
theorem w_33 : Cond.selects "RingInSand$Rules" ⟨"RingInSand$Rules", "take", "(I)V"⟩ ⟨"RingInSand$Rules", "take", "(I)V"⟩ ∈ TG := tg_mem 33 (by decide +kernel) (by decide +kernel)
theorem w_34 : Cond.selects "RingInSand$Rules" ⟨"RingInSand$Rules", "push", "(I)V"⟩ ⟨"RingInSand$Rules", "push", "(I)V"⟩ ∈ TG := tg_mem 34 (by decide +kernel) (by decide +kernel)
theorem w_35 : Cond.selects "RingInSand$Rules" ⟨"RingInSand$Rules", "pop", "()I"⟩ ⟨"RingInSand$Rules", "pop", "()I"⟩ ∈ TG := tg_mem 35 (by decide +kernel) (by decide +kernel)
theorem w_36 : Cond.selects "RingInSand" ⟨"RingInSand", "lookerAt", "(I)LRingInSand$Eyes;"⟩ ⟨"RingInSand", "lookerAt", "(I)LRingInSand$Eyes;"⟩ ∈ TG := tg_mem 36 (by decide +kernel) (by decide +kernel)
theorem w_37 : Cond.selects "RingInSand" ⟨"RingInSand", "goodHere", "(LRingInSand$Eyes;)I"⟩ ⟨"RingInSand", "goodHere", "(LRingInSand$Eyes;)I"⟩ ∈ TG := tg_mem 37 (by decide +kernel) (by decide +kernel)
theorem w_38 : Cond.selects "RingInSand" ⟨"RingInSand", "gainByLook", "(LRingInSand$Beach;LRingInSand$Eyes;I)I"⟩ ⟨"RingInSand", "gainByLook", "(LRingInSand$Beach;LRingInSand$Eyes;I)I"⟩ ∈ TG := tg_mem 38 (by decide +kernel) (by decide +kernel)
theorem w_39 : Cond.selects "RingInSand" ⟨"RingInSand", "choose", "(LRingInSand$Beach;)Z"⟩ ⟨"RingInSand", "choose", "(LRingInSand$Beach;)Z"⟩ ∈ TG := tg_mem 39 (by decide +kernel) (by decide +kernel)
theorem w_40 : Cond.selects "RingInSand" ⟨"RingInSand", "weighParty", "(II)V"⟩ ⟨"RingInSand", "weighParty", "(II)V"⟩ ∈ TG := tg_mem 40 (by decide +kernel) (by decide +kernel)
theorem w_41 : Cond.selects "RingInSand" ⟨"RingInSand", "makePlan", "(I)V"⟩ ⟨"RingInSand", "makePlan", "(I)V"⟩ ∈ TG := tg_mem 41 (by decide +kernel) (by decide +kernel)
theorem w_42 : Cond.selects "RingInSand" ⟨"RingInSand", "isWetAt", "(II)Z"⟩ ⟨"RingInSand", "isWetAt", "(II)Z"⟩ ∈ TG := tg_mem 42 (by decide +kernel) (by decide +kernel)
theorem w_43 : Cond.selects "RingInSand" ⟨"RingInSand", "oddsUnderWater", "(I)I"⟩ ⟨"RingInSand", "oddsUnderWater", "(I)I"⟩ ∈ TG := tg_mem 43 (by decide +kernel) (by decide +kernel)
theorem w_44 : Cond.selects "RingInSand" ⟨"RingInSand", "hourOfMostDrowned", "()I"⟩ ⟨"RingInSand", "hourOfMostDrowned", "()I"⟩ ∈ TG := tg_mem 44 (by decide +kernel) (by decide +kernel)
theorem w_45 : Cond.selects "RingInSand" ⟨"RingInSand", "sheetAt", "(I)LRingInSand$Sheet;"⟩ ⟨"RingInSand", "sheetAt", "(I)LRingInSand$Sheet;"⟩ ∈ TG := tg_mem 45 (by decide +kernel) (by decide +kernel)
theorem w_46 : Cond.selects "RingInSand" ⟨"RingInSand", "addPicture", "(II)V"⟩ ⟨"RingInSand", "addPicture", "(II)V"⟩ ∈ TG := tg_mem 46 (by decide +kernel) (by decide +kernel)
theorem w_47 : Cond.selects "RingInSand" ⟨"RingInSand", "firstWrongRow", "(LRingInSand$Sheet;)I"⟩ ⟨"RingInSand", "firstWrongRow", "(LRingInSand$Sheet;)I"⟩ ∈ TG := tg_mem 47 (by decide +kernel) (by decide +kernel)
theorem w_48 : Cond.selects "RingInSand$Sheet" ⟨"RingInSand$Sheet", "narrowed", "(I)I"⟩ ⟨"RingInSand$Sheet", "narrowed", "(I)I"⟩ ∈ TG := tg_mem 48 (by decide +kernel) (by decide +kernel)
theorem w_49 : Cond.selects "RingInSandModel" ⟨"RingInSandModel", "spell", "(IIIIIIIII)V"⟩ ⟨"RingInSandModel", "spell", "(IIIIIIIII)V"⟩ ∈ TG := tg_mem 49 (by decide +kernel) (by decide +kernel)
theorem w_50 : Cond.selects "RingInSandModel" ⟨"RingInSandModel", "read", "(II)I"⟩ ⟨"RingInSandModel", "read", "(II)I"⟩ ∈ TG := tg_mem 50 (by decide +kernel) (by decide +kernel)
theorem w_51 : Cond.selects "RingInSandModel" ⟨"RingInSandModel", "nextToken", "()V"⟩ ⟨"RingInSandModel", "nextToken", "()V"⟩ ∈ TG := tg_mem 51 (by decide +kernel) (by decide +kernel)
theorem w_52 : Cond.selects "RingInSandModel" ⟨"RingInSandModel", "byteAt", "(I)I"⟩ ⟨"RingInSandModel", "byteAt", "(I)I"⟩ ∈ TG := tg_mem 52 (by decide +kernel) (by decide +kernel)
theorem w_53 : Cond.selects "RingInSandModel" ⟨"RingInSandModel", "isWord", "(IIIIIIII)Z"⟩ ⟨"RingInSandModel", "isWord", "(IIIIIIII)Z"⟩ ∈ TG := tg_mem 53 (by decide +kernel) (by decide +kernel)
theorem w_54 : Cond.selects "RingInSandModel" ⟨"RingInSandModel", "isLetter", "(II)Z"⟩ ⟨"RingInSandModel", "isLetter", "(II)Z"⟩ ∈ TG := tg_mem 54 (by decide +kernel) (by decide +kernel)
theorem w_55 : Cond.selects "RingInSandModel" ⟨"RingInSandModel", "part", "(Z)I"⟩ ⟨"RingInSandModel", "part", "(Z)I"⟩ ∈ TG := tg_mem 55 (by decide +kernel) (by decide +kernel)
theorem w_56 : Cond.selects "RingInSandModel" ⟨"RingInSandModel", "fail", "()V"⟩ ⟨"RingInSandModel", "fail", "()V"⟩ ∈ TG := tg_mem 56 (by decide +kernel) (by decide +kernel)
theorem w_57 : Cond.selects "RingInSandModel" ⟨"RingInSandModel", "either", "()I"⟩ ⟨"RingInSandModel", "either", "()I"⟩ ∈ TG := tg_mem 57 (by decide +kernel) (by decide +kernel)
theorem w_58 : Cond.selects "RingInSandModel" ⟨"RingInSandModel", "both", "()I"⟩ ⟨"RingInSandModel", "both", "()I"⟩ ∈ TG := tg_mem 58 (by decide +kernel) (by decide +kernel)
theorem w_59 : Cond.selects "RingInSandModel" ⟨"RingInSandModel", "not", "()I"⟩ ⟨"RingInSandModel", "not", "()I"⟩ ∈ TG := tg_mem 59 (by decide +kernel) (by decide +kernel)
theorem w_60 : Cond.selects "RingInSandModel" ⟨"RingInSandModel", "opens", "()Z"⟩ ⟨"RingInSandModel", "opens", "()Z"⟩ ∈ TG := tg_mem 60 (by decide +kernel) (by decide +kernel)
theorem w_61 : Cond.selects "RingInSandModel" ⟨"RingInSandModel", "added", "()I"⟩ ⟨"RingInSandModel", "added", "()I"⟩ ∈ TG := tg_mem 61 (by decide +kernel) (by decide +kernel)
theorem w_62 : Cond.selects "RingInSandModel" ⟨"RingInSandModel", "term", "()I"⟩ ⟨"RingInSandModel", "term", "()I"⟩ ∈ TG := tg_mem 62 (by decide +kernel) (by decide +kernel)
theorem w_63 : Cond.selects "RingInSandModel" ⟨"RingInSandModel", "atom", "()I"⟩ ⟨"RingInSandModel", "atom", "()I"⟩ ∈ TG := tg_mem 63 (by decide +kernel) (by decide +kernel)
theorem w_64 : Cond.selects "RingInSandModel" ⟨"RingInSandModel", "isSign", "(I)Z"⟩ ⟨"RingInSandModel", "isSign", "(I)Z"⟩ ∈ TG := tg_mem 64 (by decide +kernel) (by decide +kernel)
theorem w_65 : Cond.selects "RingInSandModel" ⟨"RingInSandModel", "name", "()I"⟩ ⟨"RingInSandModel", "name", "()I"⟩ ∈ TG := tg_mem 65 (by decide +kernel) (by decide +kernel)
theorem w_66 : Cond.selects "RingInSandModel" ⟨"RingInSandModel", "deep", "(I)I"⟩ ⟨"RingInSandModel", "deep", "(I)I"⟩ ∈ TG := tg_mem 66 (by decide +kernel) (by decide +kernel)
theorem w_67 : Cond.selects "RingInSandModel" ⟨"RingInSandModel", "says", "(III)I"⟩ ⟨"RingInSandModel", "says", "(III)I"⟩ ∈ TG := tg_mem 67 (by decide +kernel) (by decide +kernel)
theorem w_68 : Cond.selects "RingInSandModel" ⟨"RingInSandModel", "shine", "(I)I"⟩ ⟨"RingInSandModel", "shine", "(I)I"⟩ ∈ TG := tg_mem 68 (by decide +kernel) (by decide +kernel)
theorem w_69 : Cond.selects "RingInSandModel" ⟨"RingInSandModel", "isUnder", "(I)Z"⟩ ⟨"RingInSandModel", "isUnder", "(I)Z"⟩ ∈ TG := tg_mem 69 (by decide +kernel) (by decide +kernel)
theorem w_70 : Cond.selects "RingInSandModel" ⟨"RingInSandModel", "isLooker", "(I)Z"⟩ ⟨"RingInSandModel", "isLooker", "(I)Z"⟩ ∈ TG := tg_mem 70 (by decide +kernel) (by decide +kernel)
theorem w_71 : Cond.selects "RingInSandModel" ⟨"RingInSandModel", "good", "(II)I"⟩ ⟨"RingInSandModel", "good", "(II)I"⟩ ∈ TG := tg_mem 71 (by decide +kernel) (by decide +kernel)
theorem w_72 : Cond.selects "RingInSandModel" ⟨"RingInSandModel", "finds", "(III)I"⟩ ⟨"RingInSandModel", "finds", "(III)I"⟩ ∈ TG := tg_mem 72 (by decide +kernel) (by decide +kernel)
theorem w_73 : Cond.selects "RingInSandModel" ⟨"RingInSandModel", "takes", "(I)I"⟩ ⟨"RingInSandModel", "takes", "(I)I"⟩ ∈ TG := tg_mem 73 (by decide +kernel) (by decide +kernel)
theorem w_74 : Cond.selects "RingInSandModel" ⟨"RingInSandModel", "stamps", "(I)I"⟩ ⟨"RingInSandModel", "stamps", "(I)I"⟩ ∈ TG := tg_mem 74 (by decide +kernel) (by decide +kernel)
theorem w_75 : Cond.selects "RingInSandModel" ⟨"RingInSandModel", "gain", "(II)I"⟩ ⟨"RingInSandModel", "gain", "(II)I"⟩ ∈ TG := tg_mem 75 (by decide +kernel) (by decide +kernel)
theorem w_76 : Cond.selects "RingInSandModel" ⟨"RingInSandModel", "looks", "(II)V"⟩ ⟨"RingInSandModel", "looks", "(II)V"⟩ ∈ TG := tg_mem 76 (by decide +kernel) (by decide +kernel)
theorem w_77 : Cond.selects "RingInSandModel" ⟨"RingInSandModel", "best", "()V"⟩ ⟨"RingInSandModel", "best", "()V"⟩ ∈ TG := tg_mem 77 (by decide +kernel) (by decide +kernel)
theorem w_78 : Cond.selects "RingInSandModel" ⟨"RingInSandModel", "plans", "(I)V"⟩ ⟨"RingInSandModel", "plans", "(I)V"⟩ ∈ TG := tg_mem 78 (by decide +kernel) (by decide +kernel)
theorem w_79 : Cond.selects "RingInSandModel" ⟨"RingInSandModel", "laysAside", "()V"⟩ ⟨"RingInSandModel", "laysAside", "()V"⟩ ∈ TG := tg_mem 79 (by decide +kernel) (by decide +kernel)
theorem w_80 : Cond.selects "RingInSandModel" ⟨"RingInSandModel", "laysBack", "()V"⟩ ⟨"RingInSandModel", "laysBack", "()V"⟩ ∈ TG := tg_mem 80 (by decide +kernel) (by decide +kernel)
theorem w_81 : Cond.selects "RingInSandModel" ⟨"RingInSandModel", "onCells", "()I"⟩ ⟨"RingInSandModel", "onCells", "()I"⟩ ∈ TG := tg_mem 81 (by decide +kernel) (by decide +kernel)
theorem w_82 : Cond.selects "RingInSandModel" ⟨"RingInSandModel", "drownedNow", "()I"⟩ ⟨"RingInSandModel", "drownedNow", "()I"⟩ ∈ TG := tg_mem 82 (by decide +kernel) (by decide +kernel)
theorem w_83 : Cond.selects "RingInSandModel" ⟨"RingInSandModel", "more", "(II)V"⟩ ⟨"RingInSandModel", "more", "(II)V"⟩ ∈ TG := tg_mem 83 (by decide +kernel) (by decide +kernel)
theorem w_84 : Cond.selects "RingInSandModel" ⟨"RingInSandModel", "judges", "(I)I"⟩ ⟨"RingInSandModel", "judges", "(I)I"⟩ ∈ TG := tg_mem 84 (by decide +kernel) (by decide +kernel)
theorem w_86 : (Cond.initialized "RingInSand") ∈ TG := tg_mem 86 (by decide +kernel) (by decide +kernel)
theorem w_87 : (Cond.initialized "RingInSand$Beach") ∈ TG := tg_mem 87 (by decide +kernel) (by decide +kernel)
theorem w_88 : (Cond.initialized "RingInSand$Tape") ∈ TG := tg_mem 88 (by decide +kernel) (by decide +kernel)
theorem w_89 : (Cond.initialized "RingInSand$Rules") ∈ TG := tg_mem 89 (by decide +kernel) (by decide +kernel)
theorem w_90 : (Cond.initialized "RingInSand$Steps") ∈ TG := tg_mem 90 (by decide +kernel) (by decide +kernel)
theorem w_91 : (Cond.initialized "RingInSand$Sheet") ∈ TG := tg_mem 91 (by decide +kernel) (by decide +kernel)
theorem w_96 : (Cond.initialized "RingInSandModel") ∈ TG := tg_mem 96 (by decide +kernel) (by decide +kernel)
theorem w_97 : (Cond.initialized "java/lang/Math") ∈ TG := tg_mem 97 (by decide +kernel) (by decide +kernel)
theorem w_98 : (Cond.initialized "RingInSand$Eyes") ∈ TG := tg_mem 98 (by decide +kernel) (by decide +kernel)
theorem w_99 : (Cond.initialized "RingInSand$Hands") ∈ TG := tg_mem 99 (by decide +kernel) (by decide +kernel)
theorem w_100 : (Cond.initialized "RingInSand$Sieve") ∈ TG := tg_mem 100 (by decide +kernel) (by decide +kernel)
theorem w_101 : (Cond.initialized "RingInSand$Plate") ∈ TG := tg_mem 101 (by decide +kernel) (by decide +kernel)
theorem w_102 : (Cond.initialized "RingInSand$Spade") ∈ TG := tg_mem 102 (by decide +kernel) (by decide +kernel)
theorem w_103 : (Cond.initialized "RingInSand$Lad") ∈ TG := tg_mem 103 (by decide +kernel) (by decide +kernel)
theorem w_104 : (Cond.initialized "java/lang/System") ∈ TG := tg_mem 104 (by decide +kernel) (by decide +kernel)
theorem w_106 : (Cond.classLink "RingInSandLaw" (7 : Nat) "RingInSand") ∈ TG := tg_mem 106 (by decide +kernel) (by decide +kernel)
theorem w_107 : (Cond.instantiable "RingInSand" (14 : Nat)) ∈ TG := tg_mem 107 (by decide +kernel) (by decide +kernel)
theorem w_108 : (Cond.methodLink "RingInSandLaw" (9 : Nat) ({ cls := "RingInSand", name := "<init>", desc := "()V" } : MethodName)) ∈ TG := tg_mem 108 (by decide +kernel) (by decide +kernel)
theorem w_109 : (Cond.instanceMethod ({ cls := "RingInSand", name := "<init>", desc := "()V" } : MethodName)) ∈ TG := tg_mem 109 (by decide +kernel) (by decide +kernel)
theorem w_110 : (Cond.code ({ cls := "RingInSand", name := "<init>", desc := "()V" } : MethodName) prog_1_method_1_code (2 : Nat) (Option.none : Option FieldType)) ∈ TG := tg_mem 110 (by decide +kernel) (by decide +kernel)
theorem w_111 : (Cond.methodLink "RingInSand" (1 : Nat) ({ cls := "java/lang/Object", name := "<init>", desc := "()V" } : MethodName)) ∈ TG := tg_mem 111 (by decide +kernel) (by decide +kernel)
theorem w_112 : (Cond.instanceMethod ({ cls := "java/lang/Object", name := "<init>", desc := "()V" } : MethodName)) ∈ TG := tg_mem 112 (by decide +kernel) (by decide +kernel)
theorem w_113 : (Cond.code ({ cls := "java/lang/Object", name := "<init>", desc := "()V" } : MethodName) object_method_1_code (1 : Nat) (Option.none : Option FieldType)) ∈ TG := tg_mem 113 (by decide +kernel) (by decide +kernel)
theorem w_114 : (Cond.classLink "RingInSand" (7 : Nat) "RingInSand$Beach") ∈ TG := tg_mem 114 (by decide +kernel) (by decide +kernel)
theorem w_115 : (Cond.instantiable "RingInSand$Beach" (6 : Nat)) ∈ TG := tg_mem 115 (by decide +kernel) (by decide +kernel)
theorem w_117 : (Cond.instanceMethod ({ cls := "RingInSand$Beach", name := "<init>", desc := "()V" } : MethodName)) ∈ TG := tg_mem 117 (by decide +kernel) (by decide +kernel)
theorem w_118 : (Cond.code ({ cls := "RingInSand$Beach", name := "<init>", desc := "()V" } : MethodName) prog_2_method_1_code (1 : Nat) (Option.none : Option FieldType)) ∈ TG := tg_mem 118 (by decide +kernel) (by decide +kernel)
theorem w_119 : (Cond.methodLink "RingInSand$Beach" (3 : Nat) ({ cls := "java/lang/Object", name := "<init>", desc := "()V" } : MethodName)) ∈ TG := tg_mem 119 (by decide +kernel) (by decide +kernel)
theorem w_120 : (Cond.fieldLink "RingInSand$Beach" (9 : Nat) "RingInSand$Beach" "odds" "[I") ∈ TG := tg_mem 120 (by decide +kernel) (by decide +kernel)
theorem w_121 : (Cond.fieldLink "RingInSand" (342 : Nat) "RingInSand$Beach" "odds" "[I") ∈ TG := tg_mem 121 (by decide +kernel) (by decide +kernel)
theorem w_122 : (Cond.fieldLink "RingInSand$Beach" (15 : Nat) "RingInSand$Beach" "treads" "[I") ∈ TG := tg_mem 122 (by decide +kernel) (by decide +kernel)
theorem w_123 : (Cond.fieldLink "RingInSand$Rules" (72 : Nat) "RingInSand$Beach" "treads" "[I") ∈ TG := tg_mem 123 (by decide +kernel) (by decide +kernel)
theorem w_124 : (Cond.fieldLink "RingInSand" (345 : Nat) "RingInSand$Beach" "treads" "[I") ∈ TG := tg_mem 124 (by decide +kernel) (by decide +kernel)
theorem w_125 : (Cond.fieldLink "RingInSand$Beach" (28 : Nat) "RingInSand$Beach" "bag" "I") ∈ TG := tg_mem 125 (by decide +kernel) (by decide +kernel)
theorem w_126 : (Cond.fieldLink "RingInSand" (288 : Nat) "RingInSand$Beach" "bag" "I") ∈ TG := tg_mem 126 (by decide +kernel) (by decide +kernel)
theorem w_127 : (Cond.fieldLink "RingInSand$Beach" (18 : Nat) "RingInSand$Beach" "hour" "I") ∈ TG := tg_mem 127 (by decide +kernel) (by decide +kernel)
theorem w_128 : (Cond.fieldLink "RingInSand$Rules" (75 : Nat) "RingInSand$Beach" "hour" "I") ∈ TG := tg_mem 128 (by decide +kernel) (by decide +kernel)
theorem w_129 : (Cond.fieldLink "RingInSand" (221 : Nat) "RingInSand$Beach" "hour" "I") ∈ TG := tg_mem 129 (by decide +kernel) (by decide +kernel)
theorem w_130 : (Cond.fieldLink "RingInSand$Beach" (31 : Nat) "RingInSand$Beach" "minutes" "I") ∈ TG := tg_mem 130 (by decide +kernel) (by decide +kernel)
theorem w_131 : (Cond.fieldLink "RingInSand" (291 : Nat) "RingInSand$Beach" "minutes" "I") ∈ TG := tg_mem 131 (by decide +kernel) (by decide +kernel)
theorem w_132 : (Cond.fieldLink "RingInSand$Beach" (34 : Nat) "RingInSand$Beach" "rule" "I") ∈ TG := tg_mem 132 (by decide +kernel) (by decide +kernel)
theorem w_133 : (Cond.fieldLink "RingInSand$Rules" (67 : Nat) "RingInSand$Beach" "rule" "I") ∈ TG := tg_mem 133 (by decide +kernel) (by decide +kernel)
theorem w_134 : (Cond.fieldLink "RingInSand" (174 : Nat) "RingInSand$Beach" "rule" "I") ∈ TG := tg_mem 134 (by decide +kernel) (by decide +kernel)
theorem w_148 : (Cond.arrayClass FieldType.int) ∈ TG := tg_mem 148 (by decide +kernel) (by decide +kernel)
theorem w_149 : (Cond.classLink "RingInSand" (22 : Nat) "RingInSand$Eyes") ∈ TG := tg_mem 149 (by decide +kernel) (by decide +kernel)
theorem w_151 : (Cond.classLink "RingInSand" (28 : Nat) "RingInSand$Tape") ∈ TG := tg_mem 151 (by decide +kernel) (by decide +kernel)
theorem w_152 : (Cond.instantiable "RingInSand$Tape" (14 : Nat)) ∈ TG := tg_mem 152 (by decide +kernel) (by decide +kernel)
theorem w_154 : (Cond.instanceMethod ({ cls := "RingInSand$Tape", name := "<init>", desc := "()V" } : MethodName)) ∈ TG := tg_mem 154 (by decide +kernel) (by decide +kernel)
theorem w_155 : (Cond.code ({ cls := "RingInSand$Tape", name := "<init>", desc := "()V" } : MethodName) prog_12_method_1_code (1 : Nat) (Option.none : Option FieldType)) ∈ TG := tg_mem 155 (by decide +kernel) (by decide +kernel)
theorem w_156 : (Cond.methodLink "RingInSand$Tape" (3 : Nat) ({ cls := "java/lang/Object", name := "<init>", desc := "()V" } : MethodName)) ∈ TG := tg_mem 156 (by decide +kernel) (by decide +kernel)
theorem w_157 : (Cond.fieldLink "RingInSand$Tape" (9 : Nat) "RingInSand$Tape" "bytes" "[I") ∈ TG := tg_mem 157 (by decide +kernel) (by decide +kernel)
theorem w_158 : (Cond.fieldLink "RingInSand$Tape" (27 : Nat) "RingInSand$Tape" "size" "I") ∈ TG := tg_mem 158 (by decide +kernel) (by decide +kernel)
theorem w_159 : (Cond.fieldLink "RingInSand" (161 : Nat) "RingInSand$Tape" "size" "I") ∈ TG := tg_mem 159 (by decide +kernel) (by decide +kernel)
theorem w_160 : (Cond.fieldLink "RingInSand$Tape" (38 : Nat) "RingInSand$Tape" "fault" "I") ∈ TG := tg_mem 160 (by decide +kernel) (by decide +kernel)
theorem w_161 : (Cond.fieldLink "RingInSand" (167 : Nat) "RingInSand$Tape" "fault" "I") ∈ TG := tg_mem 161 (by decide +kernel) (by decide +kernel)
theorem w_162 : (Cond.fieldLink "RingInSand$Tape" (15 : Nat) "RingInSand$Tape" "tokens" "[I") ∈ TG := tg_mem 162 (by decide +kernel) (by decide +kernel)
theorem w_163 : (Cond.fieldLink "RingInSand$Tape" (18 : Nat) "RingInSand$Tape" "worths" "[I") ∈ TG := tg_mem 163 (by decide +kernel) (by decide +kernel)
theorem w_164 : (Cond.fieldLink "RingInSand$Tape" (21 : Nat) "RingInSand$Tape" "places" "[I") ∈ TG := tg_mem 164 (by decide +kernel) (by decide +kernel)
theorem w_165 : (Cond.fieldLink "RingInSand$Tape" (113 : Nat) "RingInSand$Tape" "tokensSize" "I") ∈ TG := tg_mem 165 (by decide +kernel) (by decide +kernel)
theorem w_166 : (Cond.fieldLink "RingInSand$Tape" (74 : Nat) "RingInSand$Tape" "at" "I") ∈ TG := tg_mem 166 (by decide +kernel) (by decide +kernel)
theorem w_167 : (Cond.fieldLink "RingInSand$Tape" (71 : Nat) "RingInSand$Tape" "token" "I") ∈ TG := tg_mem 167 (by decide +kernel) (by decide +kernel)
theorem w_168 : (Cond.fieldLink "RingInSand$Tape" (41 : Nat) "RingInSand$Tape" "open" "I") ∈ TG := tg_mem 168 (by decide +kernel) (by decide +kernel)
theorem w_169 : (Cond.fieldLink "RingInSand$Tape" (24 : Nat) "RingInSand$Tape" "code" "[I") ∈ TG := tg_mem 169 (by decide +kernel) (by decide +kernel)
theorem w_170 : (Cond.fieldLink "RingInSand$Rules" (48 : Nat) "RingInSand$Tape" "codeSize" "I") ∈ TG := tg_mem 170 (by decide +kernel) (by decide +kernel)
theorem w_171 : (Cond.fieldLink "RingInSand$Tape" (44 : Nat) "RingInSand$Tape" "codeSize" "I") ∈ TG := tg_mem 171 (by decide +kernel) (by decide +kernel)
theorem w_172 : (Cond.fieldLink "RingInSand$Rules" (57 : Nat) "RingInSand$Tape" "deepEnd" "I") ∈ TG := tg_mem 172 (by decide +kernel) (by decide +kernel)
theorem w_173 : (Cond.fieldLink "RingInSand$Tape" (55 : Nat) "RingInSand$Tape" "deepEnd" "I") ∈ TG := tg_mem 173 (by decide +kernel) (by decide +kernel)
theorem w_174 : (Cond.fieldLink "RingInSand$Rules" (60 : Nat) "RingInSand$Tape" "seaEnd" "I") ∈ TG := tg_mem 174 (by decide +kernel) (by decide +kernel)
theorem w_175 : (Cond.fieldLink "RingInSand$Tape" (58 : Nat) "RingInSand$Tape" "seaEnd" "I") ∈ TG := tg_mem 175 (by decide +kernel) (by decide +kernel)
theorem w_205 : (Cond.classLink "RingInSand" (35 : Nat) "RingInSand$Rules") ∈ TG := tg_mem 205 (by decide +kernel) (by decide +kernel)
theorem w_206 : (Cond.instantiable "RingInSand$Rules" (13 : Nat)) ∈ TG := tg_mem 206 (by decide +kernel) (by decide +kernel)
theorem w_208 : (Cond.instanceMethod ({ cls := "RingInSand$Rules", name := "<init>", desc := "()V" } : MethodName)) ∈ TG := tg_mem 208 (by decide +kernel) (by decide +kernel)
theorem w_209 : (Cond.code ({ cls := "RingInSand$Rules", name := "<init>", desc := "()V" } : MethodName) prog_7_method_1_code (1 : Nat) (Option.none : Option FieldType)) ∈ TG := tg_mem 209 (by decide +kernel) (by decide +kernel)
theorem w_210 : (Cond.methodLink "RingInSand$Rules" (3 : Nat) ({ cls := "java/lang/Object", name := "<init>", desc := "()V" } : MethodName)) ∈ TG := tg_mem 210 (by decide +kernel) (by decide +kernel)
theorem w_211 : (Cond.fieldLink "RingInSand$Rules" (9 : Nat) "RingInSand$Rules" "code" "[I") ∈ TG := tg_mem 211 (by decide +kernel) (by decide +kernel)
theorem w_212 : (Cond.fieldLink "RingInSand$Rules" (15 : Nat) "RingInSand$Rules" "ends" "[I") ∈ TG := tg_mem 212 (by decide +kernel) (by decide +kernel)
theorem w_213 : (Cond.fieldLink "RingInSand$Rules" (36 : Nat) "RingInSand$Rules" "size" "I") ∈ TG := tg_mem 213 (by decide +kernel) (by decide +kernel)
theorem w_214 : (Cond.fieldLink "RingInSand" (170 : Nat) "RingInSand$Rules" "size" "I") ∈ TG := tg_mem 214 (by decide +kernel) (by decide +kernel)
theorem w_215 : (Cond.fieldLink "RingInSand$Rules" (18 : Nat) "RingInSand$Rules" "names" "[I") ∈ TG := tg_mem 215 (by decide +kernel) (by decide +kernel)
theorem w_216 : (Cond.fieldLink "RingInSand$Rules" (21 : Nat) "RingInSand$Rules" "stack" "[I") ∈ TG := tg_mem 216 (by decide +kernel) (by decide +kernel)
theorem w_217 : (Cond.fieldLink "RingInSand$Rules" (108 : Nat) "RingInSand$Rules" "height" "I") ∈ TG := tg_mem 217 (by decide +kernel) (by decide +kernel)
theorem w_218 : (Cond.fieldLink "RingInSand$Rules" (24 : Nat) "RingInSand$Rules" "keys" "[I") ∈ TG := tg_mem 218 (by decide +kernel) (by decide +kernel)
theorem w_219 : (Cond.fieldLink "RingInSand$Rules" (27 : Nat) "RingInSand$Rules" "deeps" "[I") ∈ TG := tg_mem 219 (by decide +kernel) (by decide +kernel)
theorem w_220 : (Cond.fieldLink "RingInSand$Rules" (30 : Nat) "RingInSand$Rules" "seas" "[I") ∈ TG := tg_mem 220 (by decide +kernel) (by decide +kernel)
theorem w_221 : (Cond.fieldLink "RingInSand$Rules" (33 : Nat) "RingInSand$Rules" "shines" "[I") ∈ TG := tg_mem 221 (by decide +kernel) (by decide +kernel)
theorem w_222 : (Cond.fieldLink "RingInSand" (124 : Nat) "RingInSand$Rules" "deep" "I") ∈ TG := tg_mem 222 (by decide +kernel) (by decide +kernel)
theorem w_223 : (Cond.fieldLink "RingInSand$Rules" (90 : Nat) "RingInSand$Rules" "deep" "I") ∈ TG := tg_mem 223 (by decide +kernel) (by decide +kernel)
theorem w_224 : (Cond.fieldLink "RingInSand" (127 : Nat) "RingInSand$Rules" "wet" "Z") ∈ TG := tg_mem 224 (by decide +kernel) (by decide +kernel)
theorem w_225 : (Cond.fieldLink "RingInSand$Rules" (93 : Nat) "RingInSand$Rules" "wet" "Z") ∈ TG := tg_mem 225 (by decide +kernel) (by decide +kernel)
theorem w_226 : (Cond.fieldLink "RingInSand" (131 : Nat) "RingInSand$Rules" "shine" "I") ∈ TG := tg_mem 226 (by decide +kernel) (by decide +kernel)
theorem w_227 : (Cond.fieldLink "RingInSand$Rules" (97 : Nat) "RingInSand$Rules" "shine" "I") ∈ TG := tg_mem 227 (by decide +kernel) (by decide +kernel)
theorem w_255 : (Cond.classLink "RingInSand" (42 : Nat) "RingInSand$Steps") ∈ TG := tg_mem 255 (by decide +kernel) (by decide +kernel)
theorem w_256 : (Cond.instantiable "RingInSand$Steps" (5 : Nat)) ∈ TG := tg_mem 256 (by decide +kernel) (by decide +kernel)
theorem w_258 : (Cond.instanceMethod ({ cls := "RingInSand$Steps", name := "<init>", desc := "()V" } : MethodName)) ∈ TG := tg_mem 258 (by decide +kernel) (by decide +kernel)
theorem w_259 : (Cond.code ({ cls := "RingInSand$Steps", name := "<init>", desc := "()V" } : MethodName) prog_11_method_1_code (1 : Nat) (Option.none : Option FieldType)) ∈ TG := tg_mem 259 (by decide +kernel) (by decide +kernel)
theorem w_260 : (Cond.methodLink "RingInSand$Steps" (3 : Nat) ({ cls := "java/lang/Object", name := "<init>", desc := "()V" } : MethodName)) ∈ TG := tg_mem 260 (by decide +kernel) (by decide +kernel)
theorem w_261 : (Cond.fieldLink "RingInSand$Steps" (9 : Nat) "RingInSand$Steps" "cells" "[I") ∈ TG := tg_mem 261 (by decide +kernel) (by decide +kernel)
theorem w_262 : (Cond.fieldLink "RingInSand$Steps" (15 : Nat) "RingInSand$Steps" "gains" "[I") ∈ TG := tg_mem 262 (by decide +kernel) (by decide +kernel)
theorem w_263 : (Cond.fieldLink "RingInSand$Steps" (18 : Nat) "RingInSand$Steps" "size" "I") ∈ TG := tg_mem 263 (by decide +kernel) (by decide +kernel)
theorem w_264 : (Cond.fieldLink "RingInSand" (195 : Nat) "RingInSand$Steps" "size" "I") ∈ TG := tg_mem 264 (by decide +kernel) (by decide +kernel)
theorem w_265 : (Cond.fieldLink "RingInSand$Steps" (22 : Nat) "RingInSand$Steps" "allGains" "I") ∈ TG := tg_mem 265 (by decide +kernel) (by decide +kernel)
theorem w_266 : (Cond.fieldLink "RingInSand" (192 : Nat) "RingInSand$Steps" "allGains" "I") ∈ TG := tg_mem 266 (by decide +kernel) (by decide +kernel)
theorem w_267 : (Cond.fieldLink "RingInSand$Steps" (25 : Nat) "RingInSand$Steps" "allMinutes" "I") ∈ TG := tg_mem 267 (by decide +kernel) (by decide +kernel)
theorem w_268 : (Cond.fieldLink "RingInSand" (196 : Nat) "RingInSand$Steps" "allMinutes" "I") ∈ TG := tg_mem 268 (by decide +kernel) (by decide +kernel)
theorem w_280 : (Cond.classLink "RingInSand" (49 : Nat) "RingInSand$Sheet") ∈ TG := tg_mem 280 (by decide +kernel) (by decide +kernel)
theorem w_282 : (Cond.instantiable "RingInSand$Sheet" (3 : Nat)) ∈ TG := tg_mem 282 (by decide +kernel) (by decide +kernel)
theorem w_284 : (Cond.instanceMethod ({ cls := "RingInSand$Sheet", name := "<init>", desc := "()V" } : MethodName)) ∈ TG := tg_mem 284 (by decide +kernel) (by decide +kernel)
theorem w_285 : (Cond.code ({ cls := "RingInSand$Sheet", name := "<init>", desc := "()V" } : MethodName) prog_8_method_1_code (1 : Nat) (Option.none : Option FieldType)) ∈ TG := tg_mem 285 (by decide +kernel) (by decide +kernel)
theorem w_286 : (Cond.methodLink "RingInSand$Sheet" (3 : Nat) ({ cls := "java/lang/Object", name := "<init>", desc := "()V" } : MethodName)) ∈ TG := tg_mem 286 (by decide +kernel) (by decide +kernel)
theorem w_287 : (Cond.fieldLink "RingInSand$Sheet" (9 : Nat) "RingInSand$Sheet" "items" "[I") ∈ TG := tg_mem 287 (by decide +kernel) (by decide +kernel)
theorem w_288 : (Cond.fieldLink "RingInSand" (315 : Nat) "RingInSand$Sheet" "items" "[I") ∈ TG := tg_mem 288 (by decide +kernel) (by decide +kernel)
theorem w_289 : (Cond.fieldLink "RingInSand$Sheet" (15 : Nat) "RingInSand$Sheet" "sort" "I") ∈ TG := tg_mem 289 (by decide +kernel) (by decide +kernel)
theorem w_290 : (Cond.fieldLink "RingInSand" (309 : Nat) "RingInSand$Sheet" "sort" "I") ∈ TG := tg_mem 290 (by decide +kernel) (by decide +kernel)
theorem w_291 : (Cond.fieldLink "RingInSand$Sheet" (19 : Nat) "RingInSand$Sheet" "size" "I") ∈ TG := tg_mem 291 (by decide +kernel) (by decide +kernel)
theorem w_292 : (Cond.fieldLink "RingInSand" (245 : Nat) "RingInSand$Sheet" "size" "I") ∈ TG := tg_mem 292 (by decide +kernel) (by decide +kernel)
theorem w_349 : (Cond.methodLink "RingInSand" (75 : Nat) ({ cls := "RingInSand$Tape", name := "append", desc := "(I)Z" } : MethodName)) ∈ TG := tg_mem 349 (by decide +kernel) (by decide +kernel)
theorem w_350 : (Cond.instanceMethod ({ cls := "RingInSand$Tape", name := "append", desc := "(I)Z" } : MethodName)) ∈ TG := tg_mem 350 (by decide +kernel) (by decide +kernel)
theorem w_351 : (Cond.selects "RingInSand$Tape" ({ cls := "RingInSand$Tape", name := "append", desc := "(I)Z" } : MethodName) ({ cls := "RingInSand$Tape", name := "append", desc := "(I)Z" } : MethodName)) ∈ TG := tg_mem 351 (by decide +kernel) (by decide +kernel)
theorem w_352 : (Cond.code ({ cls := "RingInSand$Tape", name := "append", desc := "(I)Z" } : MethodName) prog_12_method_2_code (2 : Nat) (Option.some FieldType.boolean)) ∈ TG := tg_mem 352 (by decide +kernel) (by decide +kernel)
theorem w_353 : (Cond.methodLink "RingInSand" (79 : Nat) ({ cls := "RingInSand$Tape", name := "readText", desc := "()Z" } : MethodName)) ∈ TG := tg_mem 353 (by decide +kernel) (by decide +kernel)
theorem w_354 : (Cond.instanceMethod ({ cls := "RingInSand$Tape", name := "readText", desc := "()Z" } : MethodName)) ∈ TG := tg_mem 354 (by decide +kernel) (by decide +kernel)
theorem w_355 : (Cond.selects "RingInSand$Tape" ({ cls := "RingInSand$Tape", name := "readText", desc := "()Z" } : MethodName) ({ cls := "RingInSand$Tape", name := "readText", desc := "()Z" } : MethodName)) ∈ TG := tg_mem 355 (by decide +kernel) (by decide +kernel)
theorem w_356 : (Cond.code ({ cls := "RingInSand$Tape", name := "readText", desc := "()Z" } : MethodName) prog_12_method_5_code (1 : Nat) (Option.some FieldType.boolean)) ∈ TG := tg_mem 356 (by decide +kernel) (by decide +kernel)
theorem w_357 : (Cond.methodLink "RingInSand$Tape" (35 : Nat) ({ cls := "RingInSand$Tape", name := "splitTokens", desc := "()V" } : MethodName)) ∈ TG := tg_mem 357 (by decide +kernel) (by decide +kernel)
theorem w_359 : (Cond.instanceMethod ({ cls := "RingInSand$Tape", name := "splitTokens", desc := "()V" } : MethodName)) ∈ TG := tg_mem 359 (by decide +kernel) (by decide +kernel)
theorem w_360 : (Cond.code ({ cls := "RingInSand$Tape", name := "splitTokens", desc := "()V" } : MethodName) prog_12_method_22_code (5 : Nat) (Option.none : Option FieldType)) ∈ TG := tg_mem 360 (by decide +kernel) (by decide +kernel)
theorem w_361 : (Cond.methodLink "RingInSand$Tape" (116 : Nat) ({ cls := "RingInSand$Tape", name := "byteAt", desc := "(I)I" } : MethodName)) ∈ TG := tg_mem 361 (by decide +kernel) (by decide +kernel)
theorem w_363 : (Cond.instanceMethod ({ cls := "RingInSand$Tape", name := "byteAt", desc := "(I)I" } : MethodName)) ∈ TG := tg_mem 363 (by decide +kernel) (by decide +kernel)
theorem w_364 : (Cond.code ({ cls := "RingInSand$Tape", name := "byteAt", desc := "(I)I" } : MethodName) prog_12_method_31_code (2 : Nat) (Option.some FieldType.int)) ∈ TG := tg_mem 364 (by decide +kernel) (by decide +kernel)
theorem w_365 : (Cond.methodLink "RingInSand$Tape" (120 : Nat) ({ cls := "RingInSand$Tape", name := "isLetter", desc := "(I)Z" } : MethodName)) ∈ TG := tg_mem 365 (by decide +kernel) (by decide +kernel)
theorem w_366 : (Cond.static ({ cls := "RingInSand$Tape", name := "isLetter", desc := "(I)Z" } : MethodName)) ∈ TG := tg_mem 366 (by decide +kernel) (by decide +kernel)
theorem w_367 : (Cond.code ({ cls := "RingInSand$Tape", name := "isLetter", desc := "(I)Z" } : MethodName) prog_12_method_32_code (1 : Nat) (Option.some FieldType.boolean)) ∈ TG := tg_mem 367 (by decide +kernel) (by decide +kernel)
theorem w_368 : (Cond.methodLink "RingInSand$Tape" (123 : Nat) ({ cls := "RingInSand$Tape", name := "endOfWord", desc := "(I)I" } : MethodName)) ∈ TG := tg_mem 368 (by decide +kernel) (by decide +kernel)
theorem w_370 : (Cond.instanceMethod ({ cls := "RingInSand$Tape", name := "endOfWord", desc := "(I)I" } : MethodName)) ∈ TG := tg_mem 370 (by decide +kernel) (by decide +kernel)
theorem w_371 : (Cond.code ({ cls := "RingInSand$Tape", name := "endOfWord", desc := "(I)I" } : MethodName) prog_12_method_26_code (4 : Nat) (Option.some FieldType.int)) ∈ TG := tg_mem 371 (by decide +kernel) (by decide +kernel)
theorem w_372 : (Cond.methodLink "RingInSand$Tape" (126 : Nat) ({ cls := "RingInSand$Tape", name := "addWord", desc := "(II)V" } : MethodName)) ∈ TG := tg_mem 372 (by decide +kernel) (by decide +kernel)
theorem w_374 : (Cond.instanceMethod ({ cls := "RingInSand$Tape", name := "addWord", desc := "(II)V" } : MethodName)) ∈ TG := tg_mem 374 (by decide +kernel) (by decide +kernel)
theorem w_375 : (Cond.code ({ cls := "RingInSand$Tape", name := "addWord", desc := "(II)V" } : MethodName) prog_12_method_25_code (4 : Nat) (Option.none : Option FieldType)) ∈ TG := tg_mem 375 (by decide +kernel) (by decide +kernel)
theorem w_376 : (Cond.methodLink "RingInSand$Tape" (146 : Nat) ({ cls := "RingInSand$Tape", name := "nameOf", desc := "(II)I" } : MethodName)) ∈ TG := tg_mem 376 (by decide +kernel) (by decide +kernel)
theorem w_378 : (Cond.instanceMethod ({ cls := "RingInSand$Tape", name := "nameOf", desc := "(II)I" } : MethodName)) ∈ TG := tg_mem 378 (by decide +kernel) (by decide +kernel)
theorem w_379 : (Cond.code ({ cls := "RingInSand$Tape", name := "nameOf", desc := "(II)I" } : MethodName) prog_12_method_28_code (3 : Nat) (Option.some FieldType.int)) ∈ TG := tg_mem 379 (by decide +kernel) (by decide +kernel)
theorem w_381 : (Cond.methodLink "RingInSand$Tape" (155 : Nat) ({ cls := "RingInSand$Tape", name := "isWord", desc := "(Ljava/lang/String;II)Z" } : MethodName)) ∈ TG := tg_mem 381 (by decide +kernel) (by decide +kernel)
theorem w_383 : (Cond.instanceMethod ({ cls := "RingInSand$Tape", name := "isWord", desc := "(Ljava/lang/String;II)Z" } : MethodName)) ∈ TG := tg_mem 383 (by decide +kernel) (by decide +kernel)
theorem w_384 : (Cond.code ({ cls := "RingInSand$Tape", name := "isWord", desc := "(Ljava/lang/String;II)Z" } : MethodName) prog_12_method_30_code (5 : Nat) (Option.some FieldType.boolean)) ∈ TG := tg_mem 384 (by decide +kernel) (by decide +kernel)
theorem w_392 : (Cond.methodLink "RingInSand$Tape" (142 : Nat) ({ cls := "RingInSand$Tape", name := "addToken", desc := "(III)V" } : MethodName)) ∈ TG := tg_mem 392 (by decide +kernel) (by decide +kernel)
theorem w_394 : (Cond.instanceMethod ({ cls := "RingInSand$Tape", name := "addToken", desc := "(III)V" } : MethodName)) ∈ TG := tg_mem 394 (by decide +kernel) (by decide +kernel)
theorem w_395 : (Cond.code ({ cls := "RingInSand$Tape", name := "addToken", desc := "(III)V" } : MethodName) prog_12_method_23_code (4 : Nat) (Option.none : Option FieldType)) ∈ TG := tg_mem 395 (by decide +kernel) (by decide +kernel)
theorem w_396 : (Cond.methodLink "RingInSand$Tape" (150 : Nat) ({ cls := "RingInSand$Tape", name := "keyOf", desc := "(II)I" } : MethodName)) ∈ TG := tg_mem 396 (by decide +kernel) (by decide +kernel)
theorem w_398 : (Cond.instanceMethod ({ cls := "RingInSand$Tape", name := "keyOf", desc := "(II)I" } : MethodName)) ∈ TG := tg_mem 398 (by decide +kernel) (by decide +kernel)
theorem w_399 : (Cond.code ({ cls := "RingInSand$Tape", name := "keyOf", desc := "(II)I" } : MethodName) prog_12_method_29_code (3 : Nat) (Option.some FieldType.int)) ∈ TG := tg_mem 399 (by decide +kernel) (by decide +kernel)
theorem w_406 : (Cond.methodLink "RingInSand$Tape" (130 : Nat) ({ cls := "RingInSand$Tape", name := "isDigit", desc := "(I)Z" } : MethodName)) ∈ TG := tg_mem 406 (by decide +kernel) (by decide +kernel)
theorem w_407 : (Cond.static ({ cls := "RingInSand$Tape", name := "isDigit", desc := "(I)Z" } : MethodName)) ∈ TG := tg_mem 407 (by decide +kernel) (by decide +kernel)
theorem w_408 : (Cond.code ({ cls := "RingInSand$Tape", name := "isDigit", desc := "(I)Z" } : MethodName) prog_12_method_33_code (1 : Nat) (Option.some FieldType.boolean)) ∈ TG := tg_mem 408 (by decide +kernel) (by decide +kernel)
theorem w_409 : (Cond.methodLink "RingInSand$Tape" (133 : Nat) ({ cls := "RingInSand$Tape", name := "endOfNumber", desc := "(I)I" } : MethodName)) ∈ TG := tg_mem 409 (by decide +kernel) (by decide +kernel)
theorem w_411 : (Cond.instanceMethod ({ cls := "RingInSand$Tape", name := "endOfNumber", desc := "(I)I" } : MethodName)) ∈ TG := tg_mem 411 (by decide +kernel) (by decide +kernel)
theorem w_412 : (Cond.code ({ cls := "RingInSand$Tape", name := "endOfNumber", desc := "(I)I" } : MethodName) prog_12_method_27_code (4 : Nat) (Option.some FieldType.int)) ∈ TG := tg_mem 412 (by decide +kernel) (by decide +kernel)
theorem w_413 : (Cond.methodLink "RingInSand$Tape" (136 : Nat) ({ cls := "RingInSand$Tape", name := "addNumber", desc := "(II)V" } : MethodName)) ∈ TG := tg_mem 413 (by decide +kernel) (by decide +kernel)
theorem w_415 : (Cond.instanceMethod ({ cls := "RingInSand$Tape", name := "addNumber", desc := "(II)V" } : MethodName)) ∈ TG := tg_mem 415 (by decide +kernel) (by decide +kernel)
theorem w_416 : (Cond.code ({ cls := "RingInSand$Tape", name := "addNumber", desc := "(II)V" } : MethodName) prog_12_method_24_code (5 : Nat) (Option.none : Option FieldType)) ∈ TG := tg_mem 416 (by decide +kernel) (by decide +kernel)
theorem w_417 : (Cond.methodLink "RingInSand$Tape" (139 : Nat) ({ cls := "RingInSand$Tape", name := "isSign", desc := "(I)Z" } : MethodName)) ∈ TG := tg_mem 417 (by decide +kernel) (by decide +kernel)
theorem w_418 : (Cond.static ({ cls := "RingInSand$Tape", name := "isSign", desc := "(I)Z" } : MethodName)) ∈ TG := tg_mem 418 (by decide +kernel) (by decide +kernel)
theorem w_419 : (Cond.code ({ cls := "RingInSand$Tape", name := "isSign", desc := "(I)Z" } : MethodName) prog_12_method_34_code (1 : Nat) (Option.some FieldType.boolean)) ∈ TG := tg_mem 419 (by decide +kernel) (by decide +kernel)
theorem w_420 : (Cond.methodLink "RingInSand$Tape" (47 : Nat) ({ cls := "RingInSand$Tape", name := "goTo", desc := "(I)V" } : MethodName)) ∈ TG := tg_mem 420 (by decide +kernel) (by decide +kernel)
theorem w_422 : (Cond.instanceMethod ({ cls := "RingInSand$Tape", name := "goTo", desc := "(I)V" } : MethodName)) ∈ TG := tg_mem 422 (by decide +kernel) (by decide +kernel)
theorem w_423 : (Cond.code ({ cls := "RingInSand$Tape", name := "goTo", desc := "(I)V" } : MethodName) prog_12_method_19_code (2 : Nat) (Option.none : Option FieldType)) ∈ TG := tg_mem 423 (by decide +kernel) (by decide +kernel)
theorem w_425 : (Cond.static ({ cls := "RingInSand", name := "isWithin", desc := "(III)Z" } : MethodName)) ∈ TG := tg_mem 425 (by decide +kernel) (by decide +kernel)
theorem w_426 : (Cond.code ({ cls := "RingInSand", name := "isWithin", desc := "(III)Z" } : MethodName) prog_1_method_34_code (3 : Nat) (Option.some FieldType.boolean)) ∈ TG := tg_mem 426 (by decide +kernel) (by decide +kernel)
theorem w_427 : (Cond.methodLink "RingInSand$Tape" (51 : Nat) ({ cls := "RingInSand$Tape", name := "readPart", desc := "(I)Z" } : MethodName)) ∈ TG := tg_mem 427 (by decide +kernel) (by decide +kernel)
theorem w_429 : (Cond.instanceMethod ({ cls := "RingInSand$Tape", name := "readPart", desc := "(I)Z" } : MethodName)) ∈ TG := tg_mem 429 (by decide +kernel) (by decide +kernel)
theorem w_430 : (Cond.code ({ cls := "RingInSand$Tape", name := "readPart", desc := "(I)Z" } : MethodName) prog_12_method_6_code (2 : Nat) (Option.some FieldType.boolean)) ∈ TG := tg_mem 430 (by decide +kernel) (by decide +kernel)
theorem w_431 : (Cond.methodLink "RingInSand$Tape" (61 : Nat) ({ cls := "RingInSand$Tape", name := "expect", desc := "(I)Z" } : MethodName)) ∈ TG := tg_mem 431 (by decide +kernel) (by decide +kernel)
theorem w_433 : (Cond.instanceMethod ({ cls := "RingInSand$Tape", name := "expect", desc := "(I)Z" } : MethodName)) ∈ TG := tg_mem 433 (by decide +kernel) (by decide +kernel)
theorem w_434 : (Cond.code ({ cls := "RingInSand$Tape", name := "expect", desc := "(I)Z" } : MethodName) prog_12_method_17_code (2 : Nat) (Option.some FieldType.boolean)) ∈ TG := tg_mem 434 (by decide +kernel) (by decide +kernel)
theorem w_435 : (Cond.methodLink "RingInSand$Tape" (110 : Nat) ({ cls := "RingInSand$Tape", name := "refuse", desc := "()Z" } : MethodName)) ∈ TG := tg_mem 435 (by decide +kernel) (by decide +kernel)
theorem w_437 : (Cond.instanceMethod ({ cls := "RingInSand$Tape", name := "refuse", desc := "()Z" } : MethodName)) ∈ TG := tg_mem 437 (by decide +kernel) (by decide +kernel)
theorem w_438 : (Cond.code ({ cls := "RingInSand$Tape", name := "refuse", desc := "()Z" } : MethodName) prog_12_method_18_code (1 : Nat) (Option.some FieldType.boolean)) ∈ TG := tg_mem 438 (by decide +kernel) (by decide +kernel)
theorem w_439 : (Cond.methodLink "RingInSand$Tape" (64 : Nat) ({ cls := "RingInSand$Tape", name := "readOr", desc := "()Z" } : MethodName)) ∈ TG := tg_mem 439 (by decide +kernel) (by decide +kernel)
theorem w_441 : (Cond.instanceMethod ({ cls := "RingInSand$Tape", name := "readOr", desc := "()Z" } : MethodName)) ∈ TG := tg_mem 441 (by decide +kernel) (by decide +kernel)
theorem w_442 : (Cond.code ({ cls := "RingInSand$Tape", name := "readOr", desc := "()Z" } : MethodName) prog_12_method_7_code (2 : Nat) (Option.some FieldType.boolean)) ∈ TG := tg_mem 442 (by decide +kernel) (by decide +kernel)
theorem w_443 : (Cond.methodLink "RingInSand$Tape" (68 : Nat) ({ cls := "RingInSand$Tape", name := "readAnd", desc := "()Z" } : MethodName)) ∈ TG := tg_mem 443 (by decide +kernel) (by decide +kernel)
theorem w_445 : (Cond.instanceMethod ({ cls := "RingInSand$Tape", name := "readAnd", desc := "()Z" } : MethodName)) ∈ TG := tg_mem 445 (by decide +kernel) (by decide +kernel)
theorem w_446 : (Cond.code ({ cls := "RingInSand$Tape", name := "readAnd", desc := "()Z" } : MethodName) prog_12_method_8_code (2 : Nat) (Option.some FieldType.boolean)) ∈ TG := tg_mem 446 (by decide +kernel) (by decide +kernel)
theorem w_447 : (Cond.methodLink "RingInSand$Tape" (82 : Nat) ({ cls := "RingInSand$Tape", name := "readNot", desc := "()Z" } : MethodName)) ∈ TG := tg_mem 447 (by decide +kernel) (by decide +kernel)
theorem w_449 : (Cond.instanceMethod ({ cls := "RingInSand$Tape", name := "readNot", desc := "()Z" } : MethodName)) ∈ TG := tg_mem 449 (by decide +kernel) (by decide +kernel)
theorem w_450 : (Cond.code ({ cls := "RingInSand$Tape", name := "readNot", desc := "()Z" } : MethodName) prog_12_method_9_code (1 : Nat) (Option.some FieldType.boolean)) ∈ TG := tg_mem 450 (by decide +kernel) (by decide +kernel)
theorem w_451 : (Cond.methodLink "RingInSand$Tape" (85 : Nat) ({ cls := "RingInSand$Tape", name := "readComparison", desc := "()Z" } : MethodName)) ∈ TG := tg_mem 451 (by decide +kernel) (by decide +kernel)
theorem w_453 : (Cond.instanceMethod ({ cls := "RingInSand$Tape", name := "readComparison", desc := "()Z" } : MethodName)) ∈ TG := tg_mem 453 (by decide +kernel) (by decide +kernel)
theorem w_454 : (Cond.code ({ cls := "RingInSand$Tape", name := "readComparison", desc := "()Z" } : MethodName) prog_12_method_10_code (2 : Nat) (Option.some FieldType.boolean)) ∈ TG := tg_mem 454 (by decide +kernel) (by decide +kernel)
theorem w_455 : (Cond.methodLink "RingInSand$Tape" (91 : Nat) ({ cls := "RingInSand$Tape", name := "readSum", desc := "()Z" } : MethodName)) ∈ TG := tg_mem 455 (by decide +kernel) (by decide +kernel)
theorem w_457 : (Cond.instanceMethod ({ cls := "RingInSand$Tape", name := "readSum", desc := "()Z" } : MethodName)) ∈ TG := tg_mem 457 (by decide +kernel) (by decide +kernel)
theorem w_458 : (Cond.code ({ cls := "RingInSand$Tape", name := "readSum", desc := "()Z" } : MethodName) prog_12_method_11_code (3 : Nat) (Option.some FieldType.boolean)) ∈ TG := tg_mem 458 (by decide +kernel) (by decide +kernel)
theorem w_459 : (Cond.methodLink "RingInSand$Tape" (94 : Nat) ({ cls := "RingInSand$Tape", name := "readTerm", desc := "()Z" } : MethodName)) ∈ TG := tg_mem 459 (by decide +kernel) (by decide +kernel)
theorem w_461 : (Cond.instanceMethod ({ cls := "RingInSand$Tape", name := "readTerm", desc := "()Z" } : MethodName)) ∈ TG := tg_mem 461 (by decide +kernel) (by decide +kernel)
theorem w_462 : (Cond.code ({ cls := "RingInSand$Tape", name := "readTerm", desc := "()Z" } : MethodName) prog_12_method_12_code (2 : Nat) (Option.some FieldType.boolean)) ∈ TG := tg_mem 462 (by decide +kernel) (by decide +kernel)
theorem w_463 : (Cond.methodLink "RingInSand$Tape" (97 : Nat) ({ cls := "RingInSand$Tape", name := "readOne", desc := "()Z" } : MethodName)) ∈ TG := tg_mem 463 (by decide +kernel) (by decide +kernel)
theorem w_465 : (Cond.instanceMethod ({ cls := "RingInSand$Tape", name := "readOne", desc := "()Z" } : MethodName)) ∈ TG := tg_mem 465 (by decide +kernel) (by decide +kernel)
theorem w_466 : (Cond.code ({ cls := "RingInSand$Tape", name := "readOne", desc := "()Z" } : MethodName) prog_12_method_13_code (1 : Nat) (Option.some FieldType.boolean)) ∈ TG := tg_mem 466 (by decide +kernel) (by decide +kernel)
theorem w_467 : (Cond.methodLink "RingInSand$Tape" (100 : Nat) ({ cls := "RingInSand$Tape", name := "worthHere", desc := "()I" } : MethodName)) ∈ TG := tg_mem 467 (by decide +kernel) (by decide +kernel)
theorem w_469 : (Cond.instanceMethod ({ cls := "RingInSand$Tape", name := "worthHere", desc := "()I" } : MethodName)) ∈ TG := tg_mem 469 (by decide +kernel) (by decide +kernel)
theorem w_470 : (Cond.code ({ cls := "RingInSand$Tape", name := "worthHere", desc := "()I" } : MethodName) prog_12_method_20_code (1 : Nat) (Option.some FieldType.int)) ∈ TG := tg_mem 470 (by decide +kernel) (by decide +kernel)
theorem w_471 : (Cond.methodLink "RingInSand$Tape" (79 : Nat) ({ cls := "RingInSand$Tape", name := "emit", desc := "(I)V" } : MethodName)) ∈ TG := tg_mem 471 (by decide +kernel) (by decide +kernel)
theorem w_473 : (Cond.instanceMethod ({ cls := "RingInSand$Tape", name := "emit", desc := "(I)V" } : MethodName)) ∈ TG := tg_mem 473 (by decide +kernel) (by decide +kernel)
theorem w_474 : (Cond.code ({ cls := "RingInSand$Tape", name := "emit", desc := "(I)V" } : MethodName) prog_12_method_21_code (2 : Nat) (Option.none : Option FieldType)) ∈ TG := tg_mem 474 (by decide +kernel) (by decide +kernel)
theorem w_475 : (Cond.methodLink "RingInSand$Tape" (104 : Nat) ({ cls := "RingInSand$Tape", name := "readNegated", desc := "()Z" } : MethodName)) ∈ TG := tg_mem 475 (by decide +kernel) (by decide +kernel)
theorem w_477 : (Cond.instanceMethod ({ cls := "RingInSand$Tape", name := "readNegated", desc := "()Z" } : MethodName)) ∈ TG := tg_mem 477 (by decide +kernel) (by decide +kernel)
theorem w_478 : (Cond.code ({ cls := "RingInSand$Tape", name := "readNegated", desc := "()Z" } : MethodName) prog_12_method_14_code (1 : Nat) (Option.some FieldType.boolean)) ∈ TG := tg_mem 478 (by decide +kernel) (by decide +kernel)
theorem w_479 : (Cond.methodLink "RingInSand$Tape" (88 : Nat) ({ cls := "RingInSand$Tape", name := "enter", desc := "()Z" } : MethodName)) ∈ TG := tg_mem 479 (by decide +kernel) (by decide +kernel)
theorem w_481 : (Cond.instanceMethod ({ cls := "RingInSand$Tape", name := "enter", desc := "()Z" } : MethodName)) ∈ TG := tg_mem 481 (by decide +kernel) (by decide +kernel)
theorem w_482 : (Cond.code ({ cls := "RingInSand$Tape", name := "enter", desc := "()Z" } : MethodName) prog_12_method_16_code (1 : Nat) (Option.some FieldType.boolean)) ∈ TG := tg_mem 482 (by decide +kernel) (by decide +kernel)
theorem w_483 : (Cond.methodLink "RingInSand$Tape" (107 : Nat) ({ cls := "RingInSand$Tape", name := "readBracket", desc := "()Z" } : MethodName)) ∈ TG := tg_mem 483 (by decide +kernel) (by decide +kernel)
theorem w_485 : (Cond.instanceMethod ({ cls := "RingInSand$Tape", name := "readBracket", desc := "()Z" } : MethodName)) ∈ TG := tg_mem 485 (by decide +kernel) (by decide +kernel)
theorem w_486 : (Cond.code ({ cls := "RingInSand$Tape", name := "readBracket", desc := "()Z" } : MethodName) prog_12_method_15_code (1 : Nat) (Option.some FieldType.boolean)) ∈ TG := tg_mem 486 (by decide +kernel) (by decide +kernel)
theorem w_487 : (Cond.methodLink "RingInSand" (83 : Nat) ({ cls := "RingInSand$Rules", name := "addFrom", desc := "(LRingInSand$Tape;)V" } : MethodName)) ∈ TG := tg_mem 487 (by decide +kernel) (by decide +kernel)
theorem w_488 : (Cond.instanceMethod ({ cls := "RingInSand$Rules", name := "addFrom", desc := "(LRingInSand$Tape;)V" } : MethodName)) ∈ TG := tg_mem 488 (by decide +kernel) (by decide +kernel)
theorem w_489 : (Cond.selects "RingInSand$Rules" ({ cls := "RingInSand$Rules", name := "addFrom", desc := "(LRingInSand$Tape;)V" } : MethodName) ({ cls := "RingInSand$Rules", name := "addFrom", desc := "(LRingInSand$Tape;)V" } : MethodName)) ∈ TG := tg_mem 489 (by decide +kernel) (by decide +kernel)
theorem w_490 : (Cond.code ({ cls := "RingInSand$Rules", name := "addFrom", desc := "(LRingInSand$Tape;)V" } : MethodName) prog_7_method_4_code (5 : Nat) (Option.none : Option FieldType)) ∈ TG := tg_mem 490 (by decide +kernel) (by decide +kernel)
theorem w_491 : (Cond.methodLink "RingInSand$Rules" (44 : Nat) ({ cls := "RingInSand$Rules", name := "isFull", desc := "()Z" } : MethodName)) ∈ TG := tg_mem 491 (by decide +kernel) (by decide +kernel)
theorem w_492 : (Cond.instanceMethod ({ cls := "RingInSand$Rules", name := "isFull", desc := "()Z" } : MethodName)) ∈ TG := tg_mem 492 (by decide +kernel) (by decide +kernel)
theorem w_493 : (Cond.selects "RingInSand$Rules" ({ cls := "RingInSand$Rules", name := "isFull", desc := "()Z" } : MethodName) ({ cls := "RingInSand$Rules", name := "isFull", desc := "()Z" } : MethodName)) ∈ TG := tg_mem 493 (by decide +kernel) (by decide +kernel)
theorem w_494 : (Cond.code ({ cls := "RingInSand$Rules", name := "isFull", desc := "()Z" } : MethodName) prog_7_method_2_code (1 : Nat) (Option.some FieldType.boolean)) ∈ TG := tg_mem 494 (by decide +kernel) (by decide +kernel)
theorem w_495 : (Cond.methodLink "RingInSand$Rules" (53 : Nat) ({ cls := "RingInSand$Tape", name := "stepAt", desc := "(I)I" } : MethodName)) ∈ TG := tg_mem 495 (by decide +kernel) (by decide +kernel)
theorem w_496 : (Cond.instanceMethod ({ cls := "RingInSand$Tape", name := "stepAt", desc := "(I)I" } : MethodName)) ∈ TG := tg_mem 496 (by decide +kernel) (by decide +kernel)
theorem w_497 : (Cond.selects "RingInSand$Tape" ({ cls := "RingInSand$Tape", name := "stepAt", desc := "(I)I" } : MethodName) ({ cls := "RingInSand$Tape", name := "stepAt", desc := "(I)I" } : MethodName)) ∈ TG := tg_mem 497 (by decide +kernel) (by decide +kernel)
theorem w_498 : (Cond.code ({ cls := "RingInSand$Tape", name := "stepAt", desc := "(I)I" } : MethodName) prog_12_method_4_code (2 : Nat) (Option.some FieldType.int)) ∈ TG := tg_mem 498 (by decide +kernel) (by decide +kernel)
theorem w_499 : (Cond.methodLink "RingInSand" (87 : Nat) ({ cls := "RingInSand$Tape", name := "clear", desc := "()V" } : MethodName)) ∈ TG := tg_mem 499 (by decide +kernel) (by decide +kernel)
theorem w_500 : (Cond.instanceMethod ({ cls := "RingInSand$Tape", name := "clear", desc := "()V" } : MethodName)) ∈ TG := tg_mem 500 (by decide +kernel) (by decide +kernel)
theorem w_501 : (Cond.selects "RingInSand$Tape" ({ cls := "RingInSand$Tape", name := "clear", desc := "()V" } : MethodName) ({ cls := "RingInSand$Tape", name := "clear", desc := "()V" } : MethodName)) ∈ TG := tg_mem 501 (by decide +kernel) (by decide +kernel)
theorem w_502 : (Cond.code ({ cls := "RingInSand$Tape", name := "clear", desc := "()V" } : MethodName) prog_12_method_3_code (1 : Nat) (Option.none : Option FieldType)) ∈ TG := tg_mem 502 (by decide +kernel) (by decide +kernel)
theorem w_503 : (Cond.fieldLink "RingInSand" (10 : Nat) "RingInSand" "now" "LRingInSand$Beach;") ∈ TG := tg_mem 503 (by decide +kernel) (by decide +kernel)
theorem w_504 : (Cond.fieldLink "RingInSand" (16 : Nat) "RingInSand" "thought" "LRingInSand$Beach;") ∈ TG := tg_mem 504 (by decide +kernel) (by decide +kernel)
theorem w_505 : (Cond.fieldLink "RingInSand" (19 : Nat) "RingInSand" "kept" "LRingInSand$Beach;") ∈ TG := tg_mem 505 (by decide +kernel) (by decide +kernel)
theorem w_506 : (Cond.fieldLink "RingInSand" (285 : Nat) "RingInSand" "isKept" "Z") ∈ TG := tg_mem 506 (by decide +kernel) (by decide +kernel)
theorem w_507 : (Cond.fieldLink "RingInSand" (24 : Nat) "RingInSand" "party" "[LRingInSand$Eyes;") ∈ TG := tg_mem 507 (by decide +kernel) (by decide +kernel)
theorem w_508 : (Cond.fieldLink "RingInSand" (134 : Nat) "RingInSand" "partySize" "I") ∈ TG := tg_mem 508 (by decide +kernel) (by decide +kernel)
theorem w_509 : (Cond.fieldLink "RingInSand" (31 : Nat) "RingInSand" "tape" "LRingInSand$Tape;") ∈ TG := tg_mem 509 (by decide +kernel) (by decide +kernel)
theorem w_510 : (Cond.fieldLink "RingInSand" (38 : Nat) "RingInSand" "rules" "LRingInSand$Rules;") ∈ TG := tg_mem 510 (by decide +kernel) (by decide +kernel)
theorem w_511 : (Cond.fieldLink "RingInSand" (45 : Nat) "RingInSand" "steps" "LRingInSand$Steps;") ∈ TG := tg_mem 511 (by decide +kernel) (by decide +kernel)
theorem w_512 : (Cond.fieldLink "RingInSand" (51 : Nat) "RingInSand" "sheets" "[LRingInSand$Sheet;") ∈ TG := tg_mem 512 (by decide +kernel) (by decide +kernel)
theorem w_513 : (Cond.fieldLink "RingInSand" (55 : Nat) "RingInSand" "bestLooker" "I") ∈ TG := tg_mem 513 (by decide +kernel) (by decide +kernel)
theorem w_514 : (Cond.fieldLink "RingInSand" (59 : Nat) "RingInSand" "bestCell" "I") ∈ TG := tg_mem 514 (by decide +kernel) (by decide +kernel)
theorem w_515 : (Cond.fieldLink "RingInSand" (185 : Nat) "RingInSand" "bestRate" "I") ∈ TG := tg_mem 515 (by decide +kernel) (by decide +kernel)
theorem w_516 : (Cond.fieldLink "RingInSand" (268 : Nat) "RingInSand" "judgedGains" "I") ∈ TG := tg_mem 516 (by decide +kernel) (by decide +kernel)
theorem w_546 : (Cond.arrayClass FieldType.byte) ∈ TG := tg_mem 546 (by decide +kernel) (by decide +kernel)
theorem w_547 : (Cond.methodLink "RingInSandLaw" (13 : Nat) ({ cls := "RingInSand", name := "set", desc := "(III)I" } : MethodName)) ∈ TG := tg_mem 547 (by decide +kernel) (by decide +kernel)
theorem w_548 : (Cond.instanceMethod ({ cls := "RingInSand", name := "set", desc := "(III)I" } : MethodName)) ∈ TG := tg_mem 548 (by decide +kernel) (by decide +kernel)
theorem w_549 : (Cond.selects "RingInSand" ({ cls := "RingInSand", name := "set", desc := "(III)I" } : MethodName) ({ cls := "RingInSand", name := "set", desc := "(III)I" } : MethodName)) ∈ TG := tg_mem 549 (by decide +kernel) (by decide +kernel)
theorem w_550 : (Cond.code ({ cls := "RingInSand", name := "set", desc := "(III)I" } : MethodName) prog_1_method_2_code (4 : Nat) (Option.some FieldType.int)) ∈ TG := tg_mem 550 (by decide +kernel) (by decide +kernel)
theorem w_551 : (Cond.methodLink "RingInSand" (90 : Nat) ({ cls := "RingInSand", name := "changeOdds", desc := "(II)I" } : MethodName)) ∈ TG := tg_mem 551 (by decide +kernel) (by decide +kernel)
theorem w_553 : (Cond.instanceMethod ({ cls := "RingInSand", name := "changeOdds", desc := "(II)I" } : MethodName)) ∈ TG := tg_mem 553 (by decide +kernel) (by decide +kernel)
theorem w_554 : (Cond.code ({ cls := "RingInSand", name := "changeOdds", desc := "(II)I" } : MethodName) prog_1_method_41_code (4 : Nat) (Option.some FieldType.int)) ∈ TG := tg_mem 554 (by decide +kernel) (by decide +kernel)
theorem w_555 : (Cond.methodLink "RingInSand" (107 : Nat) ({ cls := "RingInSand", name := "isCell", desc := "(I)Z" } : MethodName)) ∈ TG := tg_mem 555 (by decide +kernel) (by decide +kernel)
theorem w_556 : (Cond.static ({ cls := "RingInSand", name := "isCell", desc := "(I)Z" } : MethodName)) ∈ TG := tg_mem 556 (by decide +kernel) (by decide +kernel)
theorem w_557 : (Cond.code ({ cls := "RingInSand", name := "isCell", desc := "(I)Z" } : MethodName) prog_1_method_36_code (1 : Nat) (Option.some FieldType.boolean)) ∈ TG := tg_mem 557 (by decide +kernel) (by decide +kernel)
theorem w_558 : (Cond.methodLink "RingInSand" (110 : Nat) ({ cls := "RingInSand", name := "isWithin", desc := "(III)Z" } : MethodName)) ∈ TG := tg_mem 558 (by decide +kernel) (by decide +kernel)
theorem w_559 : (Cond.constant "RingInSand" (202 : Nat) (999999 : Int32)) ∈ TG := tg_mem 559 (by decide +kernel) (by decide +kernel)
theorem w_560 : (Cond.methodLink "RingInSand" (94 : Nat) ({ cls := "RingInSand", name := "changeTreads", desc := "(II)I" } : MethodName)) ∈ TG := tg_mem 560 (by decide +kernel) (by decide +kernel)
theorem w_562 : (Cond.instanceMethod ({ cls := "RingInSand", name := "changeTreads", desc := "(II)I" } : MethodName)) ∈ TG := tg_mem 562 (by decide +kernel) (by decide +kernel)
theorem w_563 : (Cond.code ({ cls := "RingInSand", name := "changeTreads", desc := "(II)I" } : MethodName) prog_1_method_42_code (4 : Nat) (Option.some FieldType.int)) ∈ TG := tg_mem 563 (by decide +kernel) (by decide +kernel)
theorem w_564 : (Cond.methodLink "RingInSand" (97 : Nat) ({ cls := "RingInSand", name := "changeBag", desc := "(I)I" } : MethodName)) ∈ TG := tg_mem 564 (by decide +kernel) (by decide +kernel)
theorem w_566 : (Cond.instanceMethod ({ cls := "RingInSand", name := "changeBag", desc := "(I)I" } : MethodName)) ∈ TG := tg_mem 566 (by decide +kernel) (by decide +kernel)
theorem w_567 : (Cond.code ({ cls := "RingInSand", name := "changeBag", desc := "(I)I" } : MethodName) prog_1_method_43_code (3 : Nat) (Option.some FieldType.int)) ∈ TG := tg_mem 567 (by decide +kernel) (by decide +kernel)
theorem w_568 : (Cond.methodLink "RingInSand" (101 : Nat) ({ cls := "RingInSand", name := "changeHour", desc := "(I)I" } : MethodName)) ∈ TG := tg_mem 568 (by decide +kernel) (by decide +kernel)
theorem w_570 : (Cond.instanceMethod ({ cls := "RingInSand", name := "changeHour", desc := "(I)I" } : MethodName)) ∈ TG := tg_mem 570 (by decide +kernel) (by decide +kernel)
theorem w_571 : (Cond.code ({ cls := "RingInSand", name := "changeHour", desc := "(I)I" } : MethodName) prog_1_method_44_code (3 : Nat) (Option.some FieldType.int)) ∈ TG := tg_mem 571 (by decide +kernel) (by decide +kernel)
theorem w_572 : (Cond.methodLink "RingInSand" (104 : Nat) ({ cls := "RingInSand", name := "changeMinutes", desc := "(I)I" } : MethodName)) ∈ TG := tg_mem 572 (by decide +kernel) (by decide +kernel)
theorem w_574 : (Cond.instanceMethod ({ cls := "RingInSand", name := "changeMinutes", desc := "(I)I" } : MethodName)) ∈ TG := tg_mem 574 (by decide +kernel) (by decide +kernel)
theorem w_575 : (Cond.code ({ cls := "RingInSand", name := "changeMinutes", desc := "(I)I" } : MethodName) prog_1_method_45_code (3 : Nat) (Option.some FieldType.int)) ∈ TG := tg_mem 575 (by decide +kernel) (by decide +kernel)
theorem w_576 : (Cond.methodLink "RingInSandLaw" (18 : Nat) ({ cls := "RingInSand", name := "told", desc := "(II)I" } : MethodName)) ∈ TG := tg_mem 576 (by decide +kernel) (by decide +kernel)
theorem w_577 : (Cond.instanceMethod ({ cls := "RingInSand", name := "told", desc := "(II)I" } : MethodName)) ∈ TG := tg_mem 577 (by decide +kernel) (by decide +kernel)
theorem w_578 : (Cond.selects "RingInSand" ({ cls := "RingInSand", name := "told", desc := "(II)I" } : MethodName) ({ cls := "RingInSand", name := "told", desc := "(II)I" } : MethodName)) ∈ TG := tg_mem 578 (by decide +kernel) (by decide +kernel)
theorem w_579 : (Cond.code ({ cls := "RingInSand", name := "told", desc := "(II)I" } : MethodName) prog_1_method_3_code (3 : Nat) (Option.some FieldType.int)) ∈ TG := tg_mem 579 (by decide +kernel) (by decide +kernel)
theorem w_580 : (Cond.methodLink "RingInSand" (114 : Nat) ({ cls := "RingInSand$Rules", name := "survey", desc := "(LRingInSand$Beach;I)V" } : MethodName)) ∈ TG := tg_mem 580 (by decide +kernel) (by decide +kernel)
theorem w_581 : (Cond.instanceMethod ({ cls := "RingInSand$Rules", name := "survey", desc := "(LRingInSand$Beach;I)V" } : MethodName)) ∈ TG := tg_mem 581 (by decide +kernel) (by decide +kernel)
theorem w_582 : (Cond.selects "RingInSand$Rules" ({ cls := "RingInSand$Rules", name := "survey", desc := "(LRingInSand$Beach;I)V" } : MethodName) ({ cls := "RingInSand$Rules", name := "survey", desc := "(LRingInSand$Beach;I)V" } : MethodName)) ∈ TG := tg_mem 582 (by decide +kernel) (by decide +kernel)
theorem w_583 : (Cond.code ({ cls := "RingInSand$Rules", name := "survey", desc := "(LRingInSand$Beach;I)V" } : MethodName) prog_7_method_5_code (4 : Nat) (Option.none : Option FieldType)) ∈ TG := tg_mem 583 (by decide +kernel) (by decide +kernel)
theorem w_585 : (Cond.methodLink "RingInSand$Rules" (78 : Nat) ({ cls := "RingInSand$Rules", name := "stand", desc := "(III)V" } : MethodName)) ∈ TG := tg_mem 585 (by decide +kernel) (by decide +kernel)
theorem w_587 : (Cond.instanceMethod ({ cls := "RingInSand$Rules", name := "stand", desc := "(III)V" } : MethodName)) ∈ TG := tg_mem 587 (by decide +kernel) (by decide +kernel)
theorem w_588 : (Cond.code ({ cls := "RingInSand$Rules", name := "stand", desc := "(III)V" } : MethodName) prog_7_method_7_code (4 : Nat) (Option.none : Option FieldType)) ∈ TG := tg_mem 588 (by decide +kernel) (by decide +kernel)
theorem w_589 : (Cond.methodLink "RingInSand$Rules" (100 : Nat) ({ cls := "java/lang/Math", name := "abs", desc := "(I)I" } : MethodName)) ∈ TG := tg_mem 589 (by decide +kernel) (by decide +kernel)
theorem w_590 : (Cond.static ({ cls := "java/lang/Math", name := "abs", desc := "(I)I" } : MethodName)) ∈ TG := tg_mem 590 (by decide +kernel) (by decide +kernel)
theorem w_591 : (Cond.code ({ cls := "java/lang/Math", name := "abs", desc := "(I)I" } : MethodName) prog_15_method_59_code (1 : Nat) (Option.some FieldType.int)) ∈ TG := tg_mem 591 (by decide +kernel) (by decide +kernel)
theorem w_592 : (Cond.methodLink "RingInSand$Rules" (105 : Nat) ({ cls := "java/lang/Math", name := "max", desc := "(II)I" } : MethodName)) ∈ TG := tg_mem 592 (by decide +kernel) (by decide +kernel)
theorem w_593 : (Cond.static ({ cls := "java/lang/Math", name := "max", desc := "(II)I" } : MethodName)) ∈ TG := tg_mem 593 (by decide +kernel) (by decide +kernel)
theorem w_594 : (Cond.code ({ cls := "java/lang/Math", name := "max", desc := "(II)I" } : MethodName) prog_15_method_65_code (2 : Nat) (Option.some FieldType.int)) ∈ TG := tg_mem 594 (by decide +kernel) (by decide +kernel)
theorem w_595 : (Cond.methodLink "RingInSand$Rules" (82 : Nat) ({ cls := "RingInSand$Rules", name := "value", desc := "(II)I" } : MethodName)) ∈ TG := tg_mem 595 (by decide +kernel) (by decide +kernel)
theorem w_597 : (Cond.instanceMethod ({ cls := "RingInSand$Rules", name := "value", desc := "(II)I" } : MethodName)) ∈ TG := tg_mem 597 (by decide +kernel) (by decide +kernel)
theorem w_598 : (Cond.code ({ cls := "RingInSand$Rules", name := "value", desc := "(II)I" } : MethodName) prog_7_method_8_code (5 : Nat) (Option.some FieldType.int)) ∈ TG := tg_mem 598 (by decide +kernel) (by decide +kernel)
theorem w_599 : (Cond.methodLink "RingInSand$Rules" (111 : Nat) ({ cls := "RingInSand$Rules", name := "hasText", desc := "(I)Z" } : MethodName)) ∈ TG := tg_mem 599 (by decide +kernel) (by decide +kernel)
theorem w_600 : (Cond.instanceMethod ({ cls := "RingInSand$Rules", name := "hasText", desc := "(I)Z" } : MethodName)) ∈ TG := tg_mem 600 (by decide +kernel) (by decide +kernel)
theorem w_601 : (Cond.selects "RingInSand$Rules" ({ cls := "RingInSand$Rules", name := "hasText", desc := "(I)Z" } : MethodName) ({ cls := "RingInSand$Rules", name := "hasText", desc := "(I)Z" } : MethodName)) ∈ TG := tg_mem 601 (by decide +kernel) (by decide +kernel)
theorem w_602 : (Cond.code ({ cls := "RingInSand$Rules", name := "hasText", desc := "(I)Z" } : MethodName) prog_7_method_3_code (2 : Nat) (Option.some FieldType.boolean)) ∈ TG := tg_mem 602 (by decide +kernel) (by decide +kernel)
theorem w_604 : (Cond.methodLink "RingInSand$Rules" (114 : Nat) ({ cls := "RingInSand$Rules", name := "take", desc := "(I)V" } : MethodName)) ∈ TG := tg_mem 604 (by decide +kernel) (by decide +kernel)
theorem w_606 : (Cond.instanceMethod ({ cls := "RingInSand$Rules", name := "take", desc := "(I)V" } : MethodName)) ∈ TG := tg_mem 606 (by decide +kernel) (by decide +kernel)
theorem w_607 : (Cond.code ({ cls := "RingInSand$Rules", name := "take", desc := "(I)V" } : MethodName) prog_7_method_9_code (3 : Nat) (Option.none : Option FieldType)) ∈ TG := tg_mem 607 (by decide +kernel) (by decide +kernel)
theorem w_608 : (Cond.methodLink "RingInSand$Rules" (122 : Nat) ({ cls := "RingInSand$Rules", name := "push", desc := "(I)V" } : MethodName)) ∈ TG := tg_mem 608 (by decide +kernel) (by decide +kernel)
theorem w_610 : (Cond.instanceMethod ({ cls := "RingInSand$Rules", name := "push", desc := "(I)V" } : MethodName)) ∈ TG := tg_mem 610 (by decide +kernel) (by decide +kernel)
theorem w_611 : (Cond.code ({ cls := "RingInSand$Rules", name := "push", desc := "(I)V" } : MethodName) prog_7_method_11_code (2 : Nat) (Option.none : Option FieldType)) ∈ TG := tg_mem 611 (by decide +kernel) (by decide +kernel)
theorem w_612 : (Cond.methodLink "RingInSand$Rules" (118 : Nat) ({ cls := "RingInSand$Rules", name := "pop", desc := "()I" } : MethodName)) ∈ TG := tg_mem 612 (by decide +kernel) (by decide +kernel)
theorem w_614 : (Cond.instanceMethod ({ cls := "RingInSand$Rules", name := "pop", desc := "()I" } : MethodName)) ∈ TG := tg_mem 614 (by decide +kernel) (by decide +kernel)
theorem w_615 : (Cond.code ({ cls := "RingInSand$Rules", name := "pop", desc := "()I" } : MethodName) prog_7_method_12_code (1 : Nat) (Option.some FieldType.int)) ∈ TG := tg_mem 615 (by decide +kernel) (by decide +kernel)
theorem w_616 : (Cond.methodLink "RingInSand$Rules" (125 : Nat) ({ cls := "RingInSand$Rules", name := "joined", desc := "(III)I" } : MethodName)) ∈ TG := tg_mem 616 (by decide +kernel) (by decide +kernel)
theorem w_617 : (Cond.static ({ cls := "RingInSand$Rules", name := "joined", desc := "(III)I" } : MethodName)) ∈ TG := tg_mem 617 (by decide +kernel) (by decide +kernel)
theorem w_618 : (Cond.code ({ cls := "RingInSand$Rules", name := "joined", desc := "(III)I" } : MethodName) prog_7_method_10_code (3 : Nat) (Option.some FieldType.int)) ∈ TG := tg_mem 618 (by decide +kernel) (by decide +kernel)
theorem w_620 : (Cond.static ({ cls := "RingInSand", name := "bounded", desc := "(III)I" } : MethodName)) ∈ TG := tg_mem 620 (by decide +kernel) (by decide +kernel)
theorem w_621 : (Cond.code ({ cls := "RingInSand", name := "bounded", desc := "(III)I" } : MethodName) prog_1_method_35_code (3 : Nat) (Option.some FieldType.int)) ∈ TG := tg_mem 621 (by decide +kernel) (by decide +kernel)
theorem w_622 : (Cond.methodLink "RingInSand" (253 : Nat) ({ cls := "java/lang/Math", name := "min", desc := "(II)I" } : MethodName)) ∈ TG := tg_mem 622 (by decide +kernel) (by decide +kernel)
theorem w_623 : (Cond.static ({ cls := "java/lang/Math", name := "min", desc := "(II)I" } : MethodName)) ∈ TG := tg_mem 623 (by decide +kernel) (by decide +kernel)
theorem w_624 : (Cond.code ({ cls := "java/lang/Math", name := "min", desc := "(II)I" } : MethodName) prog_15_method_69_code (2 : Nat) (Option.some FieldType.int)) ∈ TG := tg_mem 624 (by decide +kernel) (by decide +kernel)
theorem w_625 : (Cond.methodLink "RingInSand" (335 : Nat) ({ cls := "java/lang/Math", name := "max", desc := "(II)I" } : MethodName)) ∈ TG := tg_mem 625 (by decide +kernel) (by decide +kernel)
theorem w_626 : (Cond.methodLink "RingInSand" (118 : Nat) ({ cls := "RingInSand$Beach", name := "oddsAt", desc := "(I)I" } : MethodName)) ∈ TG := tg_mem 626 (by decide +kernel) (by decide +kernel)
theorem w_627 : (Cond.instanceMethod ({ cls := "RingInSand$Beach", name := "oddsAt", desc := "(I)I" } : MethodName)) ∈ TG := tg_mem 627 (by decide +kernel) (by decide +kernel)
theorem w_628 : (Cond.selects "RingInSand$Beach" ({ cls := "RingInSand$Beach", name := "oddsAt", desc := "(I)I" } : MethodName) ({ cls := "RingInSand$Beach", name := "oddsAt", desc := "(I)I" } : MethodName)) ∈ TG := tg_mem 628 (by decide +kernel) (by decide +kernel)
theorem w_629 : (Cond.code ({ cls := "RingInSand$Beach", name := "oddsAt", desc := "(I)I" } : MethodName) prog_2_method_3_code (2 : Nat) (Option.some FieldType.int)) ∈ TG := tg_mem 629 (by decide +kernel) (by decide +kernel)
theorem w_631 : (Cond.methodLink "RingInSand" (121 : Nat) ({ cls := "RingInSand$Beach", name := "treadsAt", desc := "(I)I" } : MethodName)) ∈ TG := tg_mem 631 (by decide +kernel) (by decide +kernel)
theorem w_632 : (Cond.instanceMethod ({ cls := "RingInSand$Beach", name := "treadsAt", desc := "(I)I" } : MethodName)) ∈ TG := tg_mem 632 (by decide +kernel) (by decide +kernel)
theorem w_633 : (Cond.selects "RingInSand$Beach" ({ cls := "RingInSand$Beach", name := "treadsAt", desc := "(I)I" } : MethodName) ({ cls := "RingInSand$Beach", name := "treadsAt", desc := "(I)I" } : MethodName)) ∈ TG := tg_mem 633 (by decide +kernel) (by decide +kernel)
theorem w_634 : (Cond.code ({ cls := "RingInSand$Beach", name := "treadsAt", desc := "(I)I" } : MethodName) prog_2_method_4_code (2 : Nat) (Option.some FieldType.int)) ∈ TG := tg_mem 634 (by decide +kernel) (by decide +kernel)
theorem w_635 : (Cond.methodLink "RingInSandLaw" (23 : Nat) ({ cls := "RingInSand", name := "looker", desc := "(II)I" } : MethodName)) ∈ TG := tg_mem 635 (by decide +kernel) (by decide +kernel)
theorem w_636 : (Cond.instanceMethod ({ cls := "RingInSand", name := "looker", desc := "(II)I" } : MethodName)) ∈ TG := tg_mem 636 (by decide +kernel) (by decide +kernel)
theorem w_637 : (Cond.selects "RingInSand" ({ cls := "RingInSand", name := "looker", desc := "(II)I" } : MethodName) ({ cls := "RingInSand", name := "looker", desc := "(II)I" } : MethodName)) ∈ TG := tg_mem 637 (by decide +kernel) (by decide +kernel)
theorem w_638 : (Cond.code ({ cls := "RingInSand", name := "looker", desc := "(II)I" } : MethodName) prog_1_method_4_code (3 : Nat) (Option.some FieldType.int)) ∈ TG := tg_mem 638 (by decide +kernel) (by decide +kernel)
theorem w_639 : (Cond.methodLink "RingInSand" (137 : Nat) ({ cls := "RingInSand", name := "ofKind", desc := "(II)LRingInSand$Eyes;" } : MethodName)) ∈ TG := tg_mem 639 (by decide +kernel) (by decide +kernel)
theorem w_640 : (Cond.static ({ cls := "RingInSand", name := "ofKind", desc := "(II)LRingInSand$Eyes;" } : MethodName)) ∈ TG := tg_mem 640 (by decide +kernel) (by decide +kernel)
theorem w_641 : (Cond.code ({ cls := "RingInSand", name := "ofKind", desc := "(II)LRingInSand$Eyes;" } : MethodName) prog_1_method_46_code (2 : Nat) (Option.some (FieldType.object "RingInSand$Eyes"))) ∈ TG := tg_mem 641 (by decide +kernel) (by decide +kernel)
theorem w_642 : (Cond.classLink "RingInSand" (348 : Nat) "RingInSand$Hands") ∈ TG := tg_mem 642 (by decide +kernel) (by decide +kernel)
theorem w_643 : (Cond.instantiable "RingInSand$Hands" (1 : Nat)) ∈ TG := tg_mem 643 (by decide +kernel) (by decide +kernel)
theorem w_644 : (Cond.methodLink "RingInSand" (350 : Nat) ({ cls := "RingInSand$Hands", name := "<init>", desc := "(I)V" } : MethodName)) ∈ TG := tg_mem 644 (by decide +kernel) (by decide +kernel)
theorem w_645 : (Cond.instanceMethod ({ cls := "RingInSand$Hands", name := "<init>", desc := "(I)V" } : MethodName)) ∈ TG := tg_mem 645 (by decide +kernel) (by decide +kernel)
theorem w_646 : (Cond.code ({ cls := "RingInSand$Hands", name := "<init>", desc := "(I)V" } : MethodName) prog_4_method_1_code (2 : Nat) (Option.none : Option FieldType)) ∈ TG := tg_mem 646 (by decide +kernel) (by decide +kernel)
theorem w_647 : (Cond.methodLink "RingInSand$Hands" (1 : Nat) ({ cls := "RingInSand$Eyes", name := "<init>", desc := "(I)V" } : MethodName)) ∈ TG := tg_mem 647 (by decide +kernel) (by decide +kernel)
theorem w_648 : (Cond.instanceMethod ({ cls := "RingInSand$Eyes", name := "<init>", desc := "(I)V" } : MethodName)) ∈ TG := tg_mem 648 (by decide +kernel) (by decide +kernel)
theorem w_649 : (Cond.code ({ cls := "RingInSand$Eyes", name := "<init>", desc := "(I)V" } : MethodName) prog_3_method_1_code (2 : Nat) (Option.none : Option FieldType)) ∈ TG := tg_mem 649 (by decide +kernel) (by decide +kernel)
theorem w_650 : (Cond.methodLink "RingInSand$Eyes" (1 : Nat) ({ cls := "java/lang/Object", name := "<init>", desc := "()V" } : MethodName)) ∈ TG := tg_mem 650 (by decide +kernel) (by decide +kernel)
theorem w_651 : (Cond.fieldLink "RingInSand$Eyes" (7 : Nat) "RingInSand$Eyes" "number" "I") ∈ TG := tg_mem 651 (by decide +kernel) (by decide +kernel)
theorem w_652 : (Cond.fieldLink "RingInSand$Hands" (7 : Nat) "RingInSand$Hands" "number" "I") ∈ TG := tg_mem 652 (by decide +kernel) (by decide +kernel)
theorem w_653 : (Cond.sameField "RingInSand$Hands" "RingInSand$Eyes" "number" "I") ∈ TG := tg_mem 653 (by decide +kernel) (by decide +kernel)
theorem w_654 : (Cond.fieldLink "RingInSand$Lad" (11 : Nat) "RingInSand$Lad" "number" "I") ∈ TG := tg_mem 654 (by decide +kernel) (by decide +kernel)
theorem w_655 : (Cond.sameField "RingInSand$Lad" "RingInSand$Eyes" "number" "I") ∈ TG := tg_mem 655 (by decide +kernel) (by decide +kernel)
theorem w_656 : (Cond.fieldLink "RingInSand$Sieve" (15 : Nat) "RingInSand$Sieve" "number" "I") ∈ TG := tg_mem 656 (by decide +kernel) (by decide +kernel)
theorem w_657 : (Cond.sameField "RingInSand$Sieve" "RingInSand$Eyes" "number" "I") ∈ TG := tg_mem 657 (by decide +kernel) (by decide +kernel)
theorem w_658 : (Cond.fieldLink "RingInSand" (332 : Nat) "RingInSand$Eyes" "number" "I") ∈ TG := tg_mem 658 (by decide +kernel) (by decide +kernel)
theorem w_661 : (Cond.superclass "RingInSand$Hands" "RingInSand$Eyes") ∈ TG := tg_mem 661 (by decide +kernel) (by decide +kernel)
theorem w_662 : (Cond.classLink "RingInSand" (352 : Nat) "RingInSand$Sieve") ∈ TG := tg_mem 662 (by decide +kernel) (by decide +kernel)
theorem w_663 : (Cond.instantiable "RingInSand$Sieve" (1 : Nat)) ∈ TG := tg_mem 663 (by decide +kernel) (by decide +kernel)
theorem w_664 : (Cond.methodLink "RingInSand" (354 : Nat) ({ cls := "RingInSand$Sieve", name := "<init>", desc := "(I)V" } : MethodName)) ∈ TG := tg_mem 664 (by decide +kernel) (by decide +kernel)
theorem w_665 : (Cond.instanceMethod ({ cls := "RingInSand$Sieve", name := "<init>", desc := "(I)V" } : MethodName)) ∈ TG := tg_mem 665 (by decide +kernel) (by decide +kernel)
theorem w_666 : (Cond.code ({ cls := "RingInSand$Sieve", name := "<init>", desc := "(I)V" } : MethodName) prog_9_method_1_code (2 : Nat) (Option.none : Option FieldType)) ∈ TG := tg_mem 666 (by decide +kernel) (by decide +kernel)
theorem w_667 : (Cond.methodLink "RingInSand$Sieve" (1 : Nat) ({ cls := "RingInSand$Hands", name := "<init>", desc := "(I)V" } : MethodName)) ∈ TG := tg_mem 667 (by decide +kernel) (by decide +kernel)
theorem w_669 : (Cond.superclass "RingInSand$Sieve" "RingInSand$Hands") ∈ TG := tg_mem 669 (by decide +kernel) (by decide +kernel)
theorem w_670 : (Cond.classLink "RingInSand" (355 : Nat) "RingInSand$Plate") ∈ TG := tg_mem 670 (by decide +kernel) (by decide +kernel)
theorem w_671 : (Cond.instantiable "RingInSand$Plate" (1 : Nat)) ∈ TG := tg_mem 671 (by decide +kernel) (by decide +kernel)
theorem w_672 : (Cond.methodLink "RingInSand" (357 : Nat) ({ cls := "RingInSand$Plate", name := "<init>", desc := "(I)V" } : MethodName)) ∈ TG := tg_mem 672 (by decide +kernel) (by decide +kernel)
theorem w_673 : (Cond.instanceMethod ({ cls := "RingInSand$Plate", name := "<init>", desc := "(I)V" } : MethodName)) ∈ TG := tg_mem 673 (by decide +kernel) (by decide +kernel)
theorem w_674 : (Cond.code ({ cls := "RingInSand$Plate", name := "<init>", desc := "(I)V" } : MethodName) prog_6_method_1_code (2 : Nat) (Option.none : Option FieldType)) ∈ TG := tg_mem 674 (by decide +kernel) (by decide +kernel)
theorem w_675 : (Cond.methodLink "RingInSand$Plate" (1 : Nat) ({ cls := "RingInSand$Eyes", name := "<init>", desc := "(I)V" } : MethodName)) ∈ TG := tg_mem 675 (by decide +kernel) (by decide +kernel)
theorem w_677 : (Cond.superclass "RingInSand$Plate" "RingInSand$Eyes") ∈ TG := tg_mem 677 (by decide +kernel) (by decide +kernel)
theorem w_678 : (Cond.classLink "RingInSand" (358 : Nat) "RingInSand$Spade") ∈ TG := tg_mem 678 (by decide +kernel) (by decide +kernel)
theorem w_679 : (Cond.instantiable "RingInSand$Spade" (1 : Nat)) ∈ TG := tg_mem 679 (by decide +kernel) (by decide +kernel)
theorem w_680 : (Cond.methodLink "RingInSand" (360 : Nat) ({ cls := "RingInSand$Spade", name := "<init>", desc := "(I)V" } : MethodName)) ∈ TG := tg_mem 680 (by decide +kernel) (by decide +kernel)
theorem w_681 : (Cond.instanceMethod ({ cls := "RingInSand$Spade", name := "<init>", desc := "(I)V" } : MethodName)) ∈ TG := tg_mem 681 (by decide +kernel) (by decide +kernel)
theorem w_682 : (Cond.code ({ cls := "RingInSand$Spade", name := "<init>", desc := "(I)V" } : MethodName) prog_10_method_1_code (2 : Nat) (Option.none : Option FieldType)) ∈ TG := tg_mem 682 (by decide +kernel) (by decide +kernel)
theorem w_683 : (Cond.methodLink "RingInSand$Spade" (1 : Nat) ({ cls := "RingInSand$Hands", name := "<init>", desc := "(I)V" } : MethodName)) ∈ TG := tg_mem 683 (by decide +kernel) (by decide +kernel)
theorem w_685 : (Cond.superclass "RingInSand$Spade" "RingInSand$Hands") ∈ TG := tg_mem 685 (by decide +kernel) (by decide +kernel)
theorem w_686 : (Cond.classLink "RingInSand" (361 : Nat) "RingInSand$Lad") ∈ TG := tg_mem 686 (by decide +kernel) (by decide +kernel)
theorem w_687 : (Cond.instantiable "RingInSand$Lad" (1 : Nat)) ∈ TG := tg_mem 687 (by decide +kernel) (by decide +kernel)
theorem w_688 : (Cond.methodLink "RingInSand" (363 : Nat) ({ cls := "RingInSand$Lad", name := "<init>", desc := "(I)V" } : MethodName)) ∈ TG := tg_mem 688 (by decide +kernel) (by decide +kernel)
theorem w_689 : (Cond.instanceMethod ({ cls := "RingInSand$Lad", name := "<init>", desc := "(I)V" } : MethodName)) ∈ TG := tg_mem 689 (by decide +kernel) (by decide +kernel)
theorem w_690 : (Cond.code ({ cls := "RingInSand$Lad", name := "<init>", desc := "(I)V" } : MethodName) prog_5_method_1_code (2 : Nat) (Option.none : Option FieldType)) ∈ TG := tg_mem 690 (by decide +kernel) (by decide +kernel)
theorem w_691 : (Cond.methodLink "RingInSand$Lad" (1 : Nat) ({ cls := "RingInSand$Plate", name := "<init>", desc := "(I)V" } : MethodName)) ∈ TG := tg_mem 691 (by decide +kernel) (by decide +kernel)
theorem w_693 : (Cond.superclass "RingInSand$Lad" "RingInSand$Plate") ∈ TG := tg_mem 693 (by decide +kernel) (by decide +kernel)
theorem w_694 : (Cond.instantiable "RingInSand$Eyes" (1 : Nat)) ∈ TG := tg_mem 694 (by decide +kernel) (by decide +kernel)
theorem w_695 : (Cond.methodLink "RingInSand" (364 : Nat) ({ cls := "RingInSand$Eyes", name := "<init>", desc := "(I)V" } : MethodName)) ∈ TG := tg_mem 695 (by decide +kernel) (by decide +kernel)
theorem w_698 : (Cond.methodLink "RingInSandLaw" (27 : Nat) ({ cls := "RingInSand", name := "asks", desc := "(III)I" } : MethodName)) ∈ TG := tg_mem 698 (by decide +kernel) (by decide +kernel)
theorem w_699 : (Cond.instanceMethod ({ cls := "RingInSand", name := "asks", desc := "(III)I" } : MethodName)) ∈ TG := tg_mem 699 (by decide +kernel) (by decide +kernel)
theorem w_700 : (Cond.selects "RingInSand" ({ cls := "RingInSand", name := "asks", desc := "(III)I" } : MethodName) ({ cls := "RingInSand", name := "asks", desc := "(III)I" } : MethodName)) ∈ TG := tg_mem 700 (by decide +kernel) (by decide +kernel)
theorem w_701 : (Cond.code ({ cls := "RingInSand", name := "asks", desc := "(III)I" } : MethodName) prog_1_method_5_code (5 : Nat) (Option.some FieldType.int)) ∈ TG := tg_mem 701 (by decide +kernel) (by decide +kernel)
theorem w_702 : (Cond.methodLink "RingInSand" (141 : Nat) ({ cls := "RingInSand", name := "lookerAt", desc := "(I)LRingInSand$Eyes;" } : MethodName)) ∈ TG := tg_mem 702 (by decide +kernel) (by decide +kernel)
theorem w_704 : (Cond.instanceMethod ({ cls := "RingInSand", name := "lookerAt", desc := "(I)LRingInSand$Eyes;" } : MethodName)) ∈ TG := tg_mem 704 (by decide +kernel) (by decide +kernel)
theorem w_705 : (Cond.code ({ cls := "RingInSand", name := "lookerAt", desc := "(I)LRingInSand$Eyes;" } : MethodName) prog_1_method_37_code (2 : Nat) (Option.some (FieldType.object "RingInSand$Eyes"))) ∈ TG := tg_mem 705 (by decide +kernel) (by decide +kernel)
theorem w_706 : (Cond.methodLink "RingInSand" (145 : Nat) ({ cls := "RingInSand", name := "goodHere", desc := "(LRingInSand$Eyes;)I" } : MethodName)) ∈ TG := tg_mem 706 (by decide +kernel) (by decide +kernel)
theorem w_708 : (Cond.instanceMethod ({ cls := "RingInSand", name := "goodHere", desc := "(LRingInSand$Eyes;)I" } : MethodName)) ∈ TG := tg_mem 708 (by decide +kernel) (by decide +kernel)
theorem w_709 : (Cond.code ({ cls := "RingInSand", name := "goodHere", desc := "(LRingInSand$Eyes;)I" } : MethodName) prog_1_method_48_code (2 : Nat) (Option.some FieldType.int)) ∈ TG := tg_mem 709 (by decide +kernel) (by decide +kernel)
theorem w_710 : (Cond.methodLink "RingInSand" (365 : Nat) ({ cls := "RingInSand$Eyes", name := "finds", desc := "(II)I" } : MethodName)) ∈ TG := tg_mem 710 (by decide +kernel) (by decide +kernel)
theorem w_711 : (Cond.instanceMethod ({ cls := "RingInSand$Eyes", name := "finds", desc := "(II)I" } : MethodName)) ∈ TG := tg_mem 711 (by decide +kernel) (by decide +kernel)
theorem w_712 : (Cond.selects "RingInSand$Eyes" ({ cls := "RingInSand$Eyes", name := "finds", desc := "(II)I" } : MethodName) ({ cls := "RingInSand$Eyes", name := "finds", desc := "(II)I" } : MethodName)) ∈ TG := tg_mem 712 (by decide +kernel) (by decide +kernel)
theorem w_713 : (Cond.sameMethod "RingInSand$Eyes" "RingInSand$Eyes" "finds" "(II)I") ∈ TG := tg_mem 713 (by decide +kernel) (by decide +kernel)
theorem w_714 : (Cond.selects "RingInSand$Hands" ({ cls := "RingInSand$Eyes", name := "finds", desc := "(II)I" } : MethodName) ({ cls := "RingInSand$Hands", name := "finds", desc := "(II)I" } : MethodName)) ∈ TG := tg_mem 714 (by decide +kernel) (by decide +kernel)
theorem w_715 : (Cond.instanceMethod ({ cls := "RingInSand$Hands", name := "finds", desc := "(II)I" } : MethodName)) ∈ TG := tg_mem 715 (by decide +kernel) (by decide +kernel)
theorem w_716 : (Cond.code ({ cls := "RingInSand$Hands", name := "finds", desc := "(II)I" } : MethodName) prog_4_method_2_code (3 : Nat) (Option.some FieldType.int)) ∈ TG := tg_mem 716 (by decide +kernel) (by decide +kernel)
theorem w_717 : (Cond.selects "RingInSand$Lad" ({ cls := "RingInSand$Eyes", name := "finds", desc := "(II)I" } : MethodName) ({ cls := "RingInSand$Lad", name := "finds", desc := "(II)I" } : MethodName)) ∈ TG := tg_mem 717 (by decide +kernel) (by decide +kernel)
theorem w_718 : (Cond.instanceMethod ({ cls := "RingInSand$Lad", name := "finds", desc := "(II)I" } : MethodName)) ∈ TG := tg_mem 718 (by decide +kernel) (by decide +kernel)
theorem w_719 : (Cond.code ({ cls := "RingInSand$Lad", name := "finds", desc := "(II)I" } : MethodName) prog_5_method_2_code (3 : Nat) (Option.some FieldType.int)) ∈ TG := tg_mem 719 (by decide +kernel) (by decide +kernel)
theorem w_720 : (Cond.methodLink "RingInSand$Lad" (7 : Nat) ({ cls := "RingInSand$Plate", name := "finds", desc := "(II)I" } : MethodName)) ∈ TG := tg_mem 720 (by decide +kernel) (by decide +kernel)
theorem w_721 : (Cond.instanceMethod ({ cls := "RingInSand$Plate", name := "finds", desc := "(II)I" } : MethodName)) ∈ TG := tg_mem 721 (by decide +kernel) (by decide +kernel)
theorem w_722 : (Cond.code ({ cls := "RingInSand$Plate", name := "finds", desc := "(II)I" } : MethodName) prog_6_method_2_code (3 : Nat) (Option.some FieldType.int)) ∈ TG := tg_mem 722 (by decide +kernel) (by decide +kernel)
theorem w_723 : (Cond.selects "RingInSand$Plate" ({ cls := "RingInSand$Eyes", name := "finds", desc := "(II)I" } : MethodName) ({ cls := "RingInSand$Plate", name := "finds", desc := "(II)I" } : MethodName)) ∈ TG := tg_mem 723 (by decide +kernel) (by decide +kernel)
theorem w_724 : (Cond.selects "RingInSand$Sieve" ({ cls := "RingInSand$Eyes", name := "finds", desc := "(II)I" } : MethodName) ({ cls := "RingInSand$Sieve", name := "finds", desc := "(II)I" } : MethodName)) ∈ TG := tg_mem 724 (by decide +kernel) (by decide +kernel)
theorem w_725 : (Cond.instanceMethod ({ cls := "RingInSand$Sieve", name := "finds", desc := "(II)I" } : MethodName)) ∈ TG := tg_mem 725 (by decide +kernel) (by decide +kernel)
theorem w_726 : (Cond.code ({ cls := "RingInSand$Sieve", name := "finds", desc := "(II)I" } : MethodName) prog_9_method_2_code (3 : Nat) (Option.some FieldType.int)) ∈ TG := tg_mem 726 (by decide +kernel) (by decide +kernel)
theorem w_727 : (Cond.methodLink "RingInSand$Sieve" (7 : Nat) ({ cls := "RingInSand$Hands", name := "finds", desc := "(II)I" } : MethodName)) ∈ TG := tg_mem 727 (by decide +kernel) (by decide +kernel)
theorem w_728 : (Cond.selects "RingInSand$Spade" ({ cls := "RingInSand$Eyes", name := "finds", desc := "(II)I" } : MethodName) ({ cls := "RingInSand$Spade", name := "finds", desc := "(II)I" } : MethodName)) ∈ TG := tg_mem 728 (by decide +kernel) (by decide +kernel)
theorem w_729 : (Cond.instanceMethod ({ cls := "RingInSand$Spade", name := "finds", desc := "(II)I" } : MethodName)) ∈ TG := tg_mem 729 (by decide +kernel) (by decide +kernel)
theorem w_730 : (Cond.code ({ cls := "RingInSand$Spade", name := "finds", desc := "(II)I" } : MethodName) prog_10_method_2_code (3 : Nat) (Option.some FieldType.int)) ∈ TG := tg_mem 730 (by decide +kernel) (by decide +kernel)
theorem w_731 : (Cond.methodLink "RingInSand$Spade" (7 : Nat) ({ cls := "RingInSand$Hands", name := "finds", desc := "(II)I" } : MethodName)) ∈ TG := tg_mem 731 (by decide +kernel) (by decide +kernel)
theorem w_732 : (Cond.code ({ cls := "RingInSand$Eyes", name := "finds", desc := "(II)I" } : MethodName) prog_3_method_2_code (3 : Nat) (Option.some FieldType.int)) ∈ TG := tg_mem 732 (by decide +kernel) (by decide +kernel)
theorem w_733 : (Cond.methodLink "RingInSand" (368 : Nat) ({ cls := "RingInSand", name := "bounded", desc := "(III)I" } : MethodName)) ∈ TG := tg_mem 733 (by decide +kernel) (by decide +kernel)
theorem w_734 : (Cond.methodLink "RingInSand" (149 : Nat) ({ cls := "RingInSand", name := "takesOf", desc := "(LRingInSand$Eyes;)I" } : MethodName)) ∈ TG := tg_mem 734 (by decide +kernel) (by decide +kernel)
theorem w_735 : (Cond.static ({ cls := "RingInSand", name := "takesOf", desc := "(LRingInSand$Eyes;)I" } : MethodName)) ∈ TG := tg_mem 735 (by decide +kernel) (by decide +kernel)
theorem w_736 : (Cond.code ({ cls := "RingInSand", name := "takesOf", desc := "(LRingInSand$Eyes;)I" } : MethodName) prog_1_method_49_code (1 : Nat) (Option.some FieldType.int)) ∈ TG := tg_mem 736 (by decide +kernel) (by decide +kernel)
theorem w_737 : (Cond.methodLink "RingInSand" (372 : Nat) ({ cls := "RingInSand$Eyes", name := "takes", desc := "()I" } : MethodName)) ∈ TG := tg_mem 737 (by decide +kernel) (by decide +kernel)
theorem w_738 : (Cond.instanceMethod ({ cls := "RingInSand$Eyes", name := "takes", desc := "()I" } : MethodName)) ∈ TG := tg_mem 738 (by decide +kernel) (by decide +kernel)
theorem w_739 : (Cond.selects "RingInSand$Eyes" ({ cls := "RingInSand$Eyes", name := "takes", desc := "()I" } : MethodName) ({ cls := "RingInSand$Eyes", name := "takes", desc := "()I" } : MethodName)) ∈ TG := tg_mem 739 (by decide +kernel) (by decide +kernel)
theorem w_740 : (Cond.sameMethod "RingInSand$Eyes" "RingInSand$Eyes" "takes" "()I") ∈ TG := tg_mem 740 (by decide +kernel) (by decide +kernel)
theorem w_741 : (Cond.selects "RingInSand$Hands" ({ cls := "RingInSand$Eyes", name := "takes", desc := "()I" } : MethodName) ({ cls := "RingInSand$Hands", name := "takes", desc := "()I" } : MethodName)) ∈ TG := tg_mem 741 (by decide +kernel) (by decide +kernel)
theorem w_742 : (Cond.instanceMethod ({ cls := "RingInSand$Hands", name := "takes", desc := "()I" } : MethodName)) ∈ TG := tg_mem 742 (by decide +kernel) (by decide +kernel)
theorem w_743 : (Cond.code ({ cls := "RingInSand$Hands", name := "takes", desc := "()I" } : MethodName) prog_4_method_3_code (1 : Nat) (Option.some FieldType.int)) ∈ TG := tg_mem 743 (by decide +kernel) (by decide +kernel)
theorem w_744 : (Cond.methodLink "RingInSand$Hands" (13 : Nat) ({ cls := "RingInSand$Eyes", name := "takes", desc := "()I" } : MethodName)) ∈ TG := tg_mem 744 (by decide +kernel) (by decide +kernel)
theorem w_745 : (Cond.selects "RingInSand$Lad" ({ cls := "RingInSand$Eyes", name := "takes", desc := "()I" } : MethodName) ({ cls := "RingInSand$Lad", name := "takes", desc := "()I" } : MethodName)) ∈ TG := tg_mem 745 (by decide +kernel) (by decide +kernel)
theorem w_746 : (Cond.instanceMethod ({ cls := "RingInSand$Lad", name := "takes", desc := "()I" } : MethodName)) ∈ TG := tg_mem 746 (by decide +kernel) (by decide +kernel)
theorem w_747 : (Cond.code ({ cls := "RingInSand$Lad", name := "takes", desc := "()I" } : MethodName) prog_5_method_3_code (1 : Nat) (Option.some FieldType.int)) ∈ TG := tg_mem 747 (by decide +kernel) (by decide +kernel)
theorem w_748 : (Cond.methodLink "RingInSand$Lad" (17 : Nat) ({ cls := "RingInSand$Plate", name := "takes", desc := "()I" } : MethodName)) ∈ TG := tg_mem 748 (by decide +kernel) (by decide +kernel)
theorem w_749 : (Cond.instanceMethod ({ cls := "RingInSand$Plate", name := "takes", desc := "()I" } : MethodName)) ∈ TG := tg_mem 749 (by decide +kernel) (by decide +kernel)
theorem w_750 : (Cond.code ({ cls := "RingInSand$Plate", name := "takes", desc := "()I" } : MethodName) prog_6_method_3_code (1 : Nat) (Option.some FieldType.int)) ∈ TG := tg_mem 750 (by decide +kernel) (by decide +kernel)
theorem w_751 : (Cond.methodLink "RingInSand$Plate" (7 : Nat) ({ cls := "RingInSand$Eyes", name := "takes", desc := "()I" } : MethodName)) ∈ TG := tg_mem 751 (by decide +kernel) (by decide +kernel)
theorem w_752 : (Cond.selects "RingInSand$Plate" ({ cls := "RingInSand$Eyes", name := "takes", desc := "()I" } : MethodName) ({ cls := "RingInSand$Plate", name := "takes", desc := "()I" } : MethodName)) ∈ TG := tg_mem 752 (by decide +kernel) (by decide +kernel)
theorem w_753 : (Cond.selects "RingInSand$Sieve" ({ cls := "RingInSand$Eyes", name := "takes", desc := "()I" } : MethodName) ({ cls := "RingInSand$Sieve", name := "takes", desc := "()I" } : MethodName)) ∈ TG := tg_mem 753 (by decide +kernel) (by decide +kernel)
theorem w_754 : (Cond.instanceMethod ({ cls := "RingInSand$Sieve", name := "takes", desc := "()I" } : MethodName)) ∈ TG := tg_mem 754 (by decide +kernel) (by decide +kernel)
theorem w_755 : (Cond.code ({ cls := "RingInSand$Sieve", name := "takes", desc := "()I" } : MethodName) prog_9_method_3_code (1 : Nat) (Option.some FieldType.int)) ∈ TG := tg_mem 755 (by decide +kernel) (by decide +kernel)
theorem w_756 : (Cond.methodLink "RingInSand$Sieve" (11 : Nat) ({ cls := "RingInSand$Hands", name := "takes", desc := "()I" } : MethodName)) ∈ TG := tg_mem 756 (by decide +kernel) (by decide +kernel)
theorem w_757 : (Cond.selects "RingInSand$Spade" ({ cls := "RingInSand$Eyes", name := "takes", desc := "()I" } : MethodName) ({ cls := "RingInSand$Spade", name := "takes", desc := "()I" } : MethodName)) ∈ TG := tg_mem 757 (by decide +kernel) (by decide +kernel)
theorem w_758 : (Cond.instanceMethod ({ cls := "RingInSand$Spade", name := "takes", desc := "()I" } : MethodName)) ∈ TG := tg_mem 758 (by decide +kernel) (by decide +kernel)
theorem w_759 : (Cond.code ({ cls := "RingInSand$Spade", name := "takes", desc := "()I" } : MethodName) prog_10_method_3_code (1 : Nat) (Option.some FieldType.int)) ∈ TG := tg_mem 759 (by decide +kernel) (by decide +kernel)
theorem w_760 : (Cond.methodLink "RingInSand$Spade" (11 : Nat) ({ cls := "RingInSand$Hands", name := "takes", desc := "()I" } : MethodName)) ∈ TG := tg_mem 760 (by decide +kernel) (by decide +kernel)
theorem w_761 : (Cond.code ({ cls := "RingInSand$Eyes", name := "takes", desc := "()I" } : MethodName) prog_3_method_3_code (1 : Nat) (Option.some FieldType.int)) ∈ TG := tg_mem 761 (by decide +kernel) (by decide +kernel)
theorem w_762 : (Cond.methodLink "RingInSand" (152 : Nat) ({ cls := "RingInSand", name := "stampsOf", desc := "(LRingInSand$Eyes;)I" } : MethodName)) ∈ TG := tg_mem 762 (by decide +kernel) (by decide +kernel)
theorem w_763 : (Cond.static ({ cls := "RingInSand", name := "stampsOf", desc := "(LRingInSand$Eyes;)I" } : MethodName)) ∈ TG := tg_mem 763 (by decide +kernel) (by decide +kernel)
theorem w_764 : (Cond.code ({ cls := "RingInSand", name := "stampsOf", desc := "(LRingInSand$Eyes;)I" } : MethodName) prog_1_method_50_code (1 : Nat) (Option.some FieldType.int)) ∈ TG := tg_mem 764 (by decide +kernel) (by decide +kernel)
theorem w_765 : (Cond.methodLink "RingInSand" (375 : Nat) ({ cls := "RingInSand$Eyes", name := "stamps", desc := "()I" } : MethodName)) ∈ TG := tg_mem 765 (by decide +kernel) (by decide +kernel)
theorem w_766 : (Cond.instanceMethod ({ cls := "RingInSand$Eyes", name := "stamps", desc := "()I" } : MethodName)) ∈ TG := tg_mem 766 (by decide +kernel) (by decide +kernel)
theorem w_767 : (Cond.selects "RingInSand$Eyes" ({ cls := "RingInSand$Eyes", name := "stamps", desc := "()I" } : MethodName) ({ cls := "RingInSand$Eyes", name := "stamps", desc := "()I" } : MethodName)) ∈ TG := tg_mem 767 (by decide +kernel) (by decide +kernel)
theorem w_768 : (Cond.sameMethod "RingInSand$Eyes" "RingInSand$Eyes" "stamps" "()I") ∈ TG := tg_mem 768 (by decide +kernel) (by decide +kernel)
theorem w_769 : (Cond.selects "RingInSand$Hands" ({ cls := "RingInSand$Eyes", name := "stamps", desc := "()I" } : MethodName) ({ cls := "RingInSand$Hands", name := "stamps", desc := "()I" } : MethodName)) ∈ TG := tg_mem 769 (by decide +kernel) (by decide +kernel)
theorem w_770 : (Cond.instanceMethod ({ cls := "RingInSand$Hands", name := "stamps", desc := "()I" } : MethodName)) ∈ TG := tg_mem 770 (by decide +kernel) (by decide +kernel)
theorem w_771 : (Cond.code ({ cls := "RingInSand$Hands", name := "stamps", desc := "()I" } : MethodName) prog_4_method_4_code (1 : Nat) (Option.some FieldType.int)) ∈ TG := tg_mem 771 (by decide +kernel) (by decide +kernel)
theorem w_772 : (Cond.methodLink "RingInSand$Hands" (17 : Nat) ({ cls := "RingInSand$Eyes", name := "stamps", desc := "()I" } : MethodName)) ∈ TG := tg_mem 772 (by decide +kernel) (by decide +kernel)
theorem w_773 : (Cond.selects "RingInSand$Lad" ({ cls := "RingInSand$Eyes", name := "stamps", desc := "()I" } : MethodName) ({ cls := "RingInSand$Lad", name := "stamps", desc := "()I" } : MethodName)) ∈ TG := tg_mem 773 (by decide +kernel) (by decide +kernel)
theorem w_774 : (Cond.instanceMethod ({ cls := "RingInSand$Lad", name := "stamps", desc := "()I" } : MethodName)) ∈ TG := tg_mem 774 (by decide +kernel) (by decide +kernel)
theorem w_775 : (Cond.code ({ cls := "RingInSand$Lad", name := "stamps", desc := "()I" } : MethodName) prog_5_method_4_code (1 : Nat) (Option.some FieldType.int)) ∈ TG := tg_mem 775 (by decide +kernel) (by decide +kernel)
theorem w_779 : (Cond.selects "RingInSand$Plate" ({ cls := "RingInSand$Eyes", name := "stamps", desc := "()I" } : MethodName) ({ cls := "RingInSand$Eyes", name := "stamps", desc := "()I" } : MethodName)) ∈ TG := tg_mem 779 (by decide +kernel) (by decide +kernel)
theorem w_780 : (Cond.selects "RingInSand$Sieve" ({ cls := "RingInSand$Eyes", name := "stamps", desc := "()I" } : MethodName) ({ cls := "RingInSand$Sieve", name := "stamps", desc := "()I" } : MethodName)) ∈ TG := tg_mem 780 (by decide +kernel) (by decide +kernel)
theorem w_781 : (Cond.instanceMethod ({ cls := "RingInSand$Sieve", name := "stamps", desc := "()I" } : MethodName)) ∈ TG := tg_mem 781 (by decide +kernel) (by decide +kernel)
theorem w_782 : (Cond.code ({ cls := "RingInSand$Sieve", name := "stamps", desc := "()I" } : MethodName) prog_9_method_4_code (1 : Nat) (Option.some FieldType.int)) ∈ TG := tg_mem 782 (by decide +kernel) (by decide +kernel)
theorem w_783 : (Cond.selects "RingInSand$Spade" ({ cls := "RingInSand$Eyes", name := "stamps", desc := "()I" } : MethodName) ({ cls := "RingInSand$Hands", name := "stamps", desc := "()I" } : MethodName)) ∈ TG := tg_mem 783 (by decide +kernel) (by decide +kernel)
theorem w_784 : (Cond.code ({ cls := "RingInSand$Eyes", name := "stamps", desc := "()I" } : MethodName) prog_3_method_4_code (1 : Nat) (Option.some FieldType.int)) ∈ TG := tg_mem 784 (by decide +kernel) (by decide +kernel)
theorem w_785 : (Cond.methodLink "RingInSand" (155 : Nat) ({ cls := "RingInSand", name := "gainOf", desc := "(II)I" } : MethodName)) ∈ TG := tg_mem 785 (by decide +kernel) (by decide +kernel)
theorem w_786 : (Cond.static ({ cls := "RingInSand", name := "gainOf", desc := "(II)I" } : MethodName)) ∈ TG := tg_mem 786 (by decide +kernel) (by decide +kernel)
theorem w_787 : (Cond.code ({ cls := "RingInSand", name := "gainOf", desc := "(II)I" } : MethodName) prog_1_method_51_code (2 : Nat) (Option.some FieldType.int)) ∈ TG := tg_mem 787 (by decide +kernel) (by decide +kernel)
theorem w_788 : (Cond.methodLink "RingInSand" (158 : Nat) ({ cls := "RingInSand", name := "rateOf", desc := "(II)I" } : MethodName)) ∈ TG := tg_mem 788 (by decide +kernel) (by decide +kernel)
theorem w_789 : (Cond.static ({ cls := "RingInSand", name := "rateOf", desc := "(II)I" } : MethodName)) ∈ TG := tg_mem 789 (by decide +kernel) (by decide +kernel)
theorem w_790 : (Cond.code ({ cls := "RingInSand", name := "rateOf", desc := "(II)I" } : MethodName) prog_1_method_52_code (2 : Nat) (Option.some FieldType.int)) ∈ TG := tg_mem 790 (by decide +kernel) (by decide +kernel)
theorem w_791 : (Cond.methodLink "RingInSandLaw" (31 : Nat) ({ cls := "RingInSand", name := "feed", desc := "(I)I" } : MethodName)) ∈ TG := tg_mem 791 (by decide +kernel) (by decide +kernel)
theorem w_792 : (Cond.instanceMethod ({ cls := "RingInSand", name := "feed", desc := "(I)I" } : MethodName)) ∈ TG := tg_mem 792 (by decide +kernel) (by decide +kernel)
theorem w_793 : (Cond.selects "RingInSand" ({ cls := "RingInSand", name := "feed", desc := "(I)I" } : MethodName) ({ cls := "RingInSand", name := "feed", desc := "(I)I" } : MethodName)) ∈ TG := tg_mem 793 (by decide +kernel) (by decide +kernel)
theorem w_794 : (Cond.code ({ cls := "RingInSand", name := "feed", desc := "(I)I" } : MethodName) prog_1_method_6_code (2 : Nat) (Option.some FieldType.int)) ∈ TG := tg_mem 794 (by decide +kernel) (by decide +kernel)
theorem w_795 : (Cond.methodLink "RingInSandLaw" (36 : Nat) ({ cls := "RingInSand", name := "text", desc := "()I" } : MethodName)) ∈ TG := tg_mem 795 (by decide +kernel) (by decide +kernel)
theorem w_796 : (Cond.instanceMethod ({ cls := "RingInSand", name := "text", desc := "()I" } : MethodName)) ∈ TG := tg_mem 796 (by decide +kernel) (by decide +kernel)
theorem w_797 : (Cond.selects "RingInSand" ({ cls := "RingInSand", name := "text", desc := "()I" } : MethodName) ({ cls := "RingInSand", name := "text", desc := "()I" } : MethodName)) ∈ TG := tg_mem 797 (by decide +kernel) (by decide +kernel)
theorem w_798 : (Cond.code ({ cls := "RingInSand", name := "text", desc := "()I" } : MethodName) prog_1_method_7_code (2 : Nat) (Option.some FieldType.int)) ∈ TG := tg_mem 798 (by decide +kernel) (by decide +kernel)
theorem w_799 : (Cond.methodLink "RingInSand" (164 : Nat) ({ cls := "RingInSand$Rules", name := "isFull", desc := "()Z" } : MethodName)) ∈ TG := tg_mem 799 (by decide +kernel) (by decide +kernel)
theorem w_800 : (Cond.methodLink "RingInSandLaw" (41 : Nat) ({ cls := "RingInSand", name := "force", desc := "(I)I" } : MethodName)) ∈ TG := tg_mem 800 (by decide +kernel) (by decide +kernel)
theorem w_801 : (Cond.instanceMethod ({ cls := "RingInSand", name := "force", desc := "(I)I" } : MethodName)) ∈ TG := tg_mem 801 (by decide +kernel) (by decide +kernel)
theorem w_802 : (Cond.selects "RingInSand" ({ cls := "RingInSand", name := "force", desc := "(I)I" } : MethodName) ({ cls := "RingInSand", name := "force", desc := "(I)I" } : MethodName)) ∈ TG := tg_mem 802 (by decide +kernel) (by decide +kernel)
theorem w_803 : (Cond.code ({ cls := "RingInSand", name := "force", desc := "(I)I" } : MethodName) prog_1_method_8_code (3 : Nat) (Option.some FieldType.int)) ∈ TG := tg_mem 803 (by decide +kernel) (by decide +kernel)
theorem w_804 : (Cond.methodLink "RingInSand" (171 : Nat) ({ cls := "RingInSand$Rules", name := "hasText", desc := "(I)Z" } : MethodName)) ∈ TG := tg_mem 804 (by decide +kernel) (by decide +kernel)
theorem w_805 : (Cond.methodLink "RingInSandLaw" (45 : Nat) ({ cls := "RingInSand", name := "look", desc := "(II)I" } : MethodName)) ∈ TG := tg_mem 805 (by decide +kernel) (by decide +kernel)
theorem w_806 : (Cond.instanceMethod ({ cls := "RingInSand", name := "look", desc := "(II)I" } : MethodName)) ∈ TG := tg_mem 806 (by decide +kernel) (by decide +kernel)
theorem w_807 : (Cond.selects "RingInSand" ({ cls := "RingInSand", name := "look", desc := "(II)I" } : MethodName) ({ cls := "RingInSand", name := "look", desc := "(II)I" } : MethodName)) ∈ TG := tg_mem 807 (by decide +kernel) (by decide +kernel)
theorem w_808 : (Cond.code ({ cls := "RingInSand", name := "look", desc := "(II)I" } : MethodName) prog_1_method_9_code (4 : Nat) (Option.some FieldType.int)) ∈ TG := tg_mem 808 (by decide +kernel) (by decide +kernel)
theorem w_809 : (Cond.methodLink "RingInSand" (177 : Nat) ({ cls := "RingInSand", name := "gainByLook", desc := "(LRingInSand$Beach;LRingInSand$Eyes;I)I" } : MethodName)) ∈ TG := tg_mem 809 (by decide +kernel) (by decide +kernel)
theorem w_811 : (Cond.instanceMethod ({ cls := "RingInSand", name := "gainByLook", desc := "(LRingInSand$Beach;LRingInSand$Eyes;I)I" } : MethodName)) ∈ TG := tg_mem 811 (by decide +kernel) (by decide +kernel)
theorem w_812 : (Cond.code ({ cls := "RingInSand", name := "gainByLook", desc := "(LRingInSand$Beach;LRingInSand$Eyes;I)I" } : MethodName) prog_1_method_53_code (6 : Nat) (Option.some FieldType.int)) ∈ TG := tg_mem 812 (by decide +kernel) (by decide +kernel)
theorem w_813 : (Cond.methodLink "RingInSand" (378 : Nat) ({ cls := "RingInSand$Beach", name := "thinOdds", desc := "(II)V" } : MethodName)) ∈ TG := tg_mem 813 (by decide +kernel) (by decide +kernel)
theorem w_814 : (Cond.instanceMethod ({ cls := "RingInSand$Beach", name := "thinOdds", desc := "(II)V" } : MethodName)) ∈ TG := tg_mem 814 (by decide +kernel) (by decide +kernel)
theorem w_815 : (Cond.selects "RingInSand$Beach" ({ cls := "RingInSand$Beach", name := "thinOdds", desc := "(II)V" } : MethodName) ({ cls := "RingInSand$Beach", name := "thinOdds", desc := "(II)V" } : MethodName)) ∈ TG := tg_mem 815 (by decide +kernel) (by decide +kernel)
theorem w_816 : (Cond.code ({ cls := "RingInSand$Beach", name := "thinOdds", desc := "(II)V" } : MethodName) prog_2_method_7_code (3 : Nat) (Option.none : Option FieldType)) ∈ TG := tg_mem 816 (by decide +kernel) (by decide +kernel)
theorem w_817 : (Cond.methodLink "RingInSand" (258 : Nat) ({ cls := "RingInSand$Beach", name := "addTreads", desc := "(II)V" } : MethodName)) ∈ TG := tg_mem 817 (by decide +kernel) (by decide +kernel)
theorem w_818 : (Cond.instanceMethod ({ cls := "RingInSand$Beach", name := "addTreads", desc := "(II)V" } : MethodName)) ∈ TG := tg_mem 818 (by decide +kernel) (by decide +kernel)
theorem w_819 : (Cond.selects "RingInSand$Beach" ({ cls := "RingInSand$Beach", name := "addTreads", desc := "(II)V" } : MethodName) ({ cls := "RingInSand$Beach", name := "addTreads", desc := "(II)V" } : MethodName)) ∈ TG := tg_mem 819 (by decide +kernel) (by decide +kernel)
theorem w_820 : (Cond.code ({ cls := "RingInSand$Beach", name := "addTreads", desc := "(II)V" } : MethodName) prog_2_method_6_code (3 : Nat) (Option.none : Option FieldType)) ∈ TG := tg_mem 820 (by decide +kernel) (by decide +kernel)
theorem w_821 : (Cond.methodLink "RingInSand$Beach" (42 : Nat) ({ cls := "java/lang/Math", name := "min", desc := "(II)I" } : MethodName)) ∈ TG := tg_mem 821 (by decide +kernel) (by decide +kernel)
theorem w_822 : (Cond.methodLink "RingInSand" (381 : Nat) ({ cls := "RingInSand$Beach", name := "pass", desc := "(I)V" } : MethodName)) ∈ TG := tg_mem 822 (by decide +kernel) (by decide +kernel)
theorem w_823 : (Cond.instanceMethod ({ cls := "RingInSand$Beach", name := "pass", desc := "(I)V" } : MethodName)) ∈ TG := tg_mem 823 (by decide +kernel) (by decide +kernel)
theorem w_824 : (Cond.selects "RingInSand$Beach" ({ cls := "RingInSand$Beach", name := "pass", desc := "(I)V" } : MethodName) ({ cls := "RingInSand$Beach", name := "pass", desc := "(I)V" } : MethodName)) ∈ TG := tg_mem 824 (by decide +kernel) (by decide +kernel)
theorem w_825 : (Cond.code ({ cls := "RingInSand$Beach", name := "pass", desc := "(I)V" } : MethodName) prog_2_method_8_code (3 : Nat) (Option.none : Option FieldType)) ∈ TG := tg_mem 825 (by decide +kernel) (by decide +kernel)
theorem w_826 : (Cond.methodLink "RingInSandLaw" (49 : Nat) ({ cls := "RingInSand", name := "next", desc := "(I)I" } : MethodName)) ∈ TG := tg_mem 826 (by decide +kernel) (by decide +kernel)
theorem w_827 : (Cond.instanceMethod ({ cls := "RingInSand", name := "next", desc := "(I)I" } : MethodName)) ∈ TG := tg_mem 827 (by decide +kernel) (by decide +kernel)
theorem w_828 : (Cond.selects "RingInSand" ({ cls := "RingInSand", name := "next", desc := "(I)I" } : MethodName) ({ cls := "RingInSand", name := "next", desc := "(I)I" } : MethodName)) ∈ TG := tg_mem 828 (by decide +kernel) (by decide +kernel)
theorem w_829 : (Cond.code ({ cls := "RingInSand", name := "next", desc := "(I)I" } : MethodName) prog_1_method_10_code (2 : Nat) (Option.some FieldType.int)) ∈ TG := tg_mem 829 (by decide +kernel) (by decide +kernel)
theorem w_830 : (Cond.methodLink "RingInSand" (181 : Nat) ({ cls := "RingInSand", name := "choose", desc := "(LRingInSand$Beach;)Z" } : MethodName)) ∈ TG := tg_mem 830 (by decide +kernel) (by decide +kernel)
theorem w_832 : (Cond.instanceMethod ({ cls := "RingInSand", name := "choose", desc := "(LRingInSand$Beach;)Z" } : MethodName)) ∈ TG := tg_mem 832 (by decide +kernel) (by decide +kernel)
theorem w_833 : (Cond.code ({ cls := "RingInSand", name := "choose", desc := "(LRingInSand$Beach;)Z" } : MethodName) prog_1_method_54_code (4 : Nat) (Option.some FieldType.boolean)) ∈ TG := tg_mem 833 (by decide +kernel) (by decide +kernel)
theorem w_834 : (Cond.methodLink "RingInSand" (384 : Nat) ({ cls := "RingInSand", name := "weighParty", desc := "(II)V" } : MethodName)) ∈ TG := tg_mem 834 (by decide +kernel) (by decide +kernel)
theorem w_836 : (Cond.instanceMethod ({ cls := "RingInSand", name := "weighParty", desc := "(II)V" } : MethodName)) ∈ TG := tg_mem 836 (by decide +kernel) (by decide +kernel)
theorem w_837 : (Cond.code ({ cls := "RingInSand", name := "weighParty", desc := "(II)V" } : MethodName) prog_1_method_55_code (6 : Nat) (Option.none : Option FieldType)) ∈ TG := tg_mem 837 (by decide +kernel) (by decide +kernel)
theorem w_838 : (Cond.methodLink "RingInSandLaw" (53 : Nat) ({ cls := "RingInSand", name := "plan", desc := "(II)I" } : MethodName)) ∈ TG := tg_mem 838 (by decide +kernel) (by decide +kernel)
theorem w_839 : (Cond.instanceMethod ({ cls := "RingInSand", name := "plan", desc := "(II)I" } : MethodName)) ∈ TG := tg_mem 839 (by decide +kernel) (by decide +kernel)
theorem w_840 : (Cond.selects "RingInSand" ({ cls := "RingInSand", name := "plan", desc := "(II)I" } : MethodName) ({ cls := "RingInSand", name := "plan", desc := "(II)I" } : MethodName)) ∈ TG := tg_mem 840 (by decide +kernel) (by decide +kernel)
theorem w_841 : (Cond.code ({ cls := "RingInSand", name := "plan", desc := "(II)I" } : MethodName) prog_1_method_11_code (3 : Nat) (Option.some FieldType.int)) ∈ TG := tg_mem 841 (by decide +kernel) (by decide +kernel)
theorem w_842 : (Cond.methodLink "RingInSand" (188 : Nat) ({ cls := "RingInSand", name := "makePlan", desc := "(I)V" } : MethodName)) ∈ TG := tg_mem 842 (by decide +kernel) (by decide +kernel)
theorem w_844 : (Cond.instanceMethod ({ cls := "RingInSand", name := "makePlan", desc := "(I)V" } : MethodName)) ∈ TG := tg_mem 844 (by decide +kernel) (by decide +kernel)
theorem w_845 : (Cond.code ({ cls := "RingInSand", name := "makePlan", desc := "(I)V" } : MethodName) prog_1_method_56_code (5 : Nat) (Option.none : Option FieldType)) ∈ TG := tg_mem 845 (by decide +kernel) (by decide +kernel)
theorem w_846 : (Cond.methodLink "RingInSand" (281 : Nat) ({ cls := "RingInSand$Beach", name := "become", desc := "(LRingInSand$Beach;)V" } : MethodName)) ∈ TG := tg_mem 846 (by decide +kernel) (by decide +kernel)
theorem w_847 : (Cond.instanceMethod ({ cls := "RingInSand$Beach", name := "become", desc := "(LRingInSand$Beach;)V" } : MethodName)) ∈ TG := tg_mem 847 (by decide +kernel) (by decide +kernel)
theorem w_848 : (Cond.selects "RingInSand$Beach" ({ cls := "RingInSand$Beach", name := "become", desc := "(LRingInSand$Beach;)V" } : MethodName) ({ cls := "RingInSand$Beach", name := "become", desc := "(LRingInSand$Beach;)V" } : MethodName)) ∈ TG := tg_mem 848 (by decide +kernel) (by decide +kernel)
theorem w_849 : (Cond.code ({ cls := "RingInSand$Beach", name := "become", desc := "(LRingInSand$Beach;)V" } : MethodName) prog_2_method_2_code (2 : Nat) (Option.none : Option FieldType)) ∈ TG := tg_mem 849 (by decide +kernel) (by decide +kernel)
theorem w_850 : (Cond.methodLink "RingInSand$Beach" (22 : Nat) ({ cls := "java/lang/System", name := "arraycopy", desc := "(Ljava/lang/Object;ILjava/lang/Object;II)V" } : MethodName)) ∈ TG := tg_mem 850 (by decide +kernel) (by decide +kernel)
theorem w_851 : (Cond.static ({ cls := "java/lang/System", name := "arraycopy", desc := "(Ljava/lang/Object;ILjava/lang/Object;II)V" } : MethodName)) ∈ TG := tg_mem 851 (by decide +kernel) (by decide +kernel)
theorem w_852 : (Cond.native ({ cls := "java/lang/System", name := "arraycopy", desc := "(Ljava/lang/Object;ILjava/lang/Object;II)V" } : MethodName)) ∈ TG := tg_mem 852 (by decide +kernel) (by decide +kernel)
theorem w_853 : (Cond.methodLink "RingInSand" (387 : Nat) ({ cls := "RingInSand$Steps", name := "clear", desc := "()V" } : MethodName)) ∈ TG := tg_mem 853 (by decide +kernel) (by decide +kernel)
theorem w_854 : (Cond.instanceMethod ({ cls := "RingInSand$Steps", name := "clear", desc := "()V" } : MethodName)) ∈ TG := tg_mem 854 (by decide +kernel) (by decide +kernel)
theorem w_855 : (Cond.selects "RingInSand$Steps" ({ cls := "RingInSand$Steps", name := "clear", desc := "()V" } : MethodName) ({ cls := "RingInSand$Steps", name := "clear", desc := "()V" } : MethodName)) ∈ TG := tg_mem 855 (by decide +kernel) (by decide +kernel)
theorem w_856 : (Cond.code ({ cls := "RingInSand$Steps", name := "clear", desc := "()V" } : MethodName) prog_11_method_2_code (1 : Nat) (Option.none : Option FieldType)) ∈ TG := tg_mem 856 (by decide +kernel) (by decide +kernel)
theorem w_857 : (Cond.methodLink "RingInSand" (388 : Nat) ({ cls := "RingInSand$Steps", name := "add", desc := "(III)V" } : MethodName)) ∈ TG := tg_mem 857 (by decide +kernel) (by decide +kernel)
theorem w_858 : (Cond.instanceMethod ({ cls := "RingInSand$Steps", name := "add", desc := "(III)V" } : MethodName)) ∈ TG := tg_mem 858 (by decide +kernel) (by decide +kernel)
theorem w_859 : (Cond.selects "RingInSand$Steps" ({ cls := "RingInSand$Steps", name := "add", desc := "(III)V" } : MethodName) ({ cls := "RingInSand$Steps", name := "add", desc := "(III)V" } : MethodName)) ∈ TG := tg_mem 859 (by decide +kernel) (by decide +kernel)
theorem w_860 : (Cond.code ({ cls := "RingInSand$Steps", name := "add", desc := "(III)V" } : MethodName) prog_11_method_3_code (4 : Nat) (Option.none : Option FieldType)) ∈ TG := tg_mem 860 (by decide +kernel) (by decide +kernel)
theorem w_861 : (Cond.methodLink "RingInSandLaw" (57 : Nat) ({ cls := "RingInSand", name := "planned", desc := "(I)I" } : MethodName)) ∈ TG := tg_mem 861 (by decide +kernel) (by decide +kernel)
theorem w_862 : (Cond.instanceMethod ({ cls := "RingInSand", name := "planned", desc := "(I)I" } : MethodName)) ∈ TG := tg_mem 862 (by decide +kernel) (by decide +kernel)
theorem w_863 : (Cond.selects "RingInSand" ({ cls := "RingInSand", name := "planned", desc := "(I)I" } : MethodName) ({ cls := "RingInSand", name := "planned", desc := "(I)I" } : MethodName)) ∈ TG := tg_mem 863 (by decide +kernel) (by decide +kernel)
theorem w_864 : (Cond.code ({ cls := "RingInSand", name := "planned", desc := "(I)I" } : MethodName) prog_1_method_12_code (2 : Nat) (Option.some FieldType.int)) ∈ TG := tg_mem 864 (by decide +kernel) (by decide +kernel)
theorem w_865 : (Cond.methodLink "RingInSand" (199 : Nat) ({ cls := "RingInSand$Steps", name := "cellAt", desc := "(I)I" } : MethodName)) ∈ TG := tg_mem 865 (by decide +kernel) (by decide +kernel)
theorem w_866 : (Cond.instanceMethod ({ cls := "RingInSand$Steps", name := "cellAt", desc := "(I)I" } : MethodName)) ∈ TG := tg_mem 866 (by decide +kernel) (by decide +kernel)
theorem w_867 : (Cond.selects "RingInSand$Steps" ({ cls := "RingInSand$Steps", name := "cellAt", desc := "(I)I" } : MethodName) ({ cls := "RingInSand$Steps", name := "cellAt", desc := "(I)I" } : MethodName)) ∈ TG := tg_mem 867 (by decide +kernel) (by decide +kernel)
theorem w_868 : (Cond.code ({ cls := "RingInSand$Steps", name := "cellAt", desc := "(I)I" } : MethodName) prog_11_method_4_code (2 : Nat) (Option.some FieldType.int)) ∈ TG := tg_mem 868 (by decide +kernel) (by decide +kernel)
theorem w_870 : (Cond.methodLink "RingInSandLaw" (61 : Nat) ({ cls := "RingInSand", name := "search", desc := "()I" } : MethodName)) ∈ TG := tg_mem 870 (by decide +kernel) (by decide +kernel)
theorem w_871 : (Cond.instanceMethod ({ cls := "RingInSand", name := "search", desc := "()I" } : MethodName)) ∈ TG := tg_mem 871 (by decide +kernel) (by decide +kernel)
theorem w_872 : (Cond.selects "RingInSand" ({ cls := "RingInSand", name := "search", desc := "()I" } : MethodName) ({ cls := "RingInSand", name := "search", desc := "()I" } : MethodName)) ∈ TG := tg_mem 872 (by decide +kernel) (by decide +kernel)
theorem w_873 : (Cond.code ({ cls := "RingInSand", name := "search", desc := "()I" } : MethodName) prog_1_method_13_code (3 : Nat) (Option.some FieldType.int)) ∈ TG := tg_mem 873 (by decide +kernel) (by decide +kernel)
theorem w_874 : (Cond.methodLink "RingInSandLaw" (65 : Nat) ({ cls := "RingInSand", name := "giveUp", desc := "(I)I" } : MethodName)) ∈ TG := tg_mem 874 (by decide +kernel) (by decide +kernel)
theorem w_875 : (Cond.instanceMethod ({ cls := "RingInSand", name := "giveUp", desc := "(I)I" } : MethodName)) ∈ TG := tg_mem 875 (by decide +kernel) (by decide +kernel)
theorem w_876 : (Cond.selects "RingInSand" ({ cls := "RingInSand", name := "giveUp", desc := "(I)I" } : MethodName) ({ cls := "RingInSand", name := "giveUp", desc := "(I)I" } : MethodName)) ∈ TG := tg_mem 876 (by decide +kernel) (by decide +kernel)
theorem w_877 : (Cond.code ({ cls := "RingInSand", name := "giveUp", desc := "(I)I" } : MethodName) prog_1_method_14_code (2 : Nat) (Option.some FieldType.int)) ∈ TG := tg_mem 877 (by decide +kernel) (by decide +kernel)
theorem w_878 : (Cond.methodLink "RingInSand" (203 : Nat) ({ cls := "RingInSand$Steps", name := "sizeAheadOf", desc := "(I)I" } : MethodName)) ∈ TG := tg_mem 878 (by decide +kernel) (by decide +kernel)
theorem w_879 : (Cond.instanceMethod ({ cls := "RingInSand$Steps", name := "sizeAheadOf", desc := "(I)I" } : MethodName)) ∈ TG := tg_mem 879 (by decide +kernel) (by decide +kernel)
theorem w_880 : (Cond.selects "RingInSand$Steps" ({ cls := "RingInSand$Steps", name := "sizeAheadOf", desc := "(I)I" } : MethodName) ({ cls := "RingInSand$Steps", name := "sizeAheadOf", desc := "(I)I" } : MethodName)) ∈ TG := tg_mem 880 (by decide +kernel) (by decide +kernel)
theorem w_881 : (Cond.code ({ cls := "RingInSand$Steps", name := "sizeAheadOf", desc := "(I)I" } : MethodName) prog_11_method_5_code (3 : Nat) (Option.some FieldType.int)) ∈ TG := tg_mem 881 (by decide +kernel) (by decide +kernel)
theorem w_882 : (Cond.methodLink "RingInSandLaw" (69 : Nat) ({ cls := "RingInSand", name := "likely", desc := "(II)J" } : MethodName)) ∈ TG := tg_mem 882 (by decide +kernel) (by decide +kernel)
theorem w_883 : (Cond.instanceMethod ({ cls := "RingInSand", name := "likely", desc := "(II)J" } : MethodName)) ∈ TG := tg_mem 883 (by decide +kernel) (by decide +kernel)
theorem w_884 : (Cond.selects "RingInSand" ({ cls := "RingInSand", name := "likely", desc := "(II)J" } : MethodName) ({ cls := "RingInSand", name := "likely", desc := "(II)J" } : MethodName)) ∈ TG := tg_mem 884 (by decide +kernel) (by decide +kernel)
theorem w_885 : (Cond.code ({ cls := "RingInSand", name := "likely", desc := "(II)J" } : MethodName) prog_1_method_15_code (3 : Nat) (Option.some FieldType.long)) ∈ TG := tg_mem 885 (by decide +kernel) (by decide +kernel)
theorem w_886 : (Cond.constantLong "RingInSand" (206 : Nat) (-4611686018427387904 : Int64)) ∈ TG := tg_mem 886 (by decide +kernel) (by decide +kernel)
theorem w_887 : (Cond.methodLink "RingInSand" (208 : Nat) ({ cls := "RingInSand$Beach", name := "allOdds", desc := "()I" } : MethodName)) ∈ TG := tg_mem 887 (by decide +kernel) (by decide +kernel)
theorem w_888 : (Cond.instanceMethod ({ cls := "RingInSand$Beach", name := "allOdds", desc := "()I" } : MethodName)) ∈ TG := tg_mem 888 (by decide +kernel) (by decide +kernel)
theorem w_889 : (Cond.selects "RingInSand$Beach" ({ cls := "RingInSand$Beach", name := "allOdds", desc := "()I" } : MethodName) ({ cls := "RingInSand$Beach", name := "allOdds", desc := "()I" } : MethodName)) ∈ TG := tg_mem 889 (by decide +kernel) (by decide +kernel)
theorem w_890 : (Cond.code ({ cls := "RingInSand$Beach", name := "allOdds", desc := "()I" } : MethodName) prog_2_method_10_code (1 : Nat) (Option.some FieldType.int)) ∈ TG := tg_mem 890 (by decide +kernel) (by decide +kernel)
theorem w_891 : (Cond.methodLink "RingInSand$Beach" (48 : Nat) ({ cls := "RingInSand$Beach", name := "oddsOnCells", desc := "()I" } : MethodName)) ∈ TG := tg_mem 891 (by decide +kernel) (by decide +kernel)
theorem w_892 : (Cond.instanceMethod ({ cls := "RingInSand$Beach", name := "oddsOnCells", desc := "()I" } : MethodName)) ∈ TG := tg_mem 892 (by decide +kernel) (by decide +kernel)
theorem w_893 : (Cond.selects "RingInSand$Beach" ({ cls := "RingInSand$Beach", name := "oddsOnCells", desc := "()I" } : MethodName) ({ cls := "RingInSand$Beach", name := "oddsOnCells", desc := "()I" } : MethodName)) ∈ TG := tg_mem 893 (by decide +kernel) (by decide +kernel)
theorem w_894 : (Cond.code ({ cls := "RingInSand$Beach", name := "oddsOnCells", desc := "()I" } : MethodName) prog_2_method_9_code (3 : Nat) (Option.some FieldType.int)) ∈ TG := tg_mem 894 (by decide +kernel) (by decide +kernel)
theorem w_895 : (Cond.methodLink "RingInSand" (211 : Nat) ({ cls := "RingInSand", name := "partOfQuotient", desc := "(JJI)J" } : MethodName)) ∈ TG := tg_mem 895 (by decide +kernel) (by decide +kernel)
theorem w_896 : (Cond.static ({ cls := "RingInSand", name := "partOfQuotient", desc := "(JJI)J" } : MethodName)) ∈ TG := tg_mem 896 (by decide +kernel) (by decide +kernel)
theorem w_897 : (Cond.code ({ cls := "RingInSand", name := "partOfQuotient", desc := "(JJI)J" } : MethodName) prog_1_method_39_code (7 : Nat) (Option.some FieldType.long)) ∈ TG := tg_mem 897 (by decide +kernel) (by decide +kernel)
theorem w_898 : (Cond.methodLink "RingInSand" (338 : Nat) ({ cls := "RingInSand", name := "greatestDivisor", desc := "(JJ)J" } : MethodName)) ∈ TG := tg_mem 898 (by decide +kernel) (by decide +kernel)
theorem w_899 : (Cond.static ({ cls := "RingInSand", name := "greatestDivisor", desc := "(JJ)J" } : MethodName)) ∈ TG := tg_mem 899 (by decide +kernel) (by decide +kernel)
theorem w_900 : (Cond.code ({ cls := "RingInSand", name := "greatestDivisor", desc := "(JJ)J" } : MethodName) prog_1_method_40_code (11 : Nat) (Option.some FieldType.long)) ∈ TG := tg_mem 900 (by decide +kernel) (by decide +kernel)
theorem w_901 : (Cond.methodLink "RingInSandLaw" (74 : Nat) ({ cls := "RingInSand", name := "here", desc := "(I)J" } : MethodName)) ∈ TG := tg_mem 901 (by decide +kernel) (by decide +kernel)
theorem w_902 : (Cond.instanceMethod ({ cls := "RingInSand", name := "here", desc := "(I)J" } : MethodName)) ∈ TG := tg_mem 902 (by decide +kernel) (by decide +kernel)
theorem w_903 : (Cond.selects "RingInSand" ({ cls := "RingInSand", name := "here", desc := "(I)J" } : MethodName) ({ cls := "RingInSand", name := "here", desc := "(I)J" } : MethodName)) ∈ TG := tg_mem 903 (by decide +kernel) (by decide +kernel)
theorem w_904 : (Cond.code ({ cls := "RingInSand", name := "here", desc := "(I)J" } : MethodName) prog_1_method_16_code (2 : Nat) (Option.some FieldType.long)) ∈ TG := tg_mem 904 (by decide +kernel) (by decide +kernel)
theorem w_905 : (Cond.methodLink "RingInSand" (215 : Nat) ({ cls := "RingInSand$Beach", name := "oddsOnCells", desc := "()I" } : MethodName)) ∈ TG := tg_mem 905 (by decide +kernel) (by decide +kernel)
theorem w_906 : (Cond.methodLink "RingInSandLaw" (79 : Nat) ({ cls := "RingInSand", name := "most", desc := "(I)I" } : MethodName)) ∈ TG := tg_mem 906 (by decide +kernel) (by decide +kernel)
theorem w_907 : (Cond.instanceMethod ({ cls := "RingInSand", name := "most", desc := "(I)I" } : MethodName)) ∈ TG := tg_mem 907 (by decide +kernel) (by decide +kernel)
theorem w_908 : (Cond.selects "RingInSand" ({ cls := "RingInSand", name := "most", desc := "(I)I" } : MethodName) ({ cls := "RingInSand", name := "most", desc := "(I)I" } : MethodName)) ∈ TG := tg_mem 908 (by decide +kernel) (by decide +kernel)
theorem w_909 : (Cond.code ({ cls := "RingInSand", name := "most", desc := "(I)I" } : MethodName) prog_1_method_17_code (2 : Nat) (Option.some FieldType.int)) ∈ TG := tg_mem 909 (by decide +kernel) (by decide +kernel)
theorem w_910 : (Cond.methodLink "RingInSand" (218 : Nat) ({ cls := "RingInSand$Beach", name := "cellOfMostOdds", desc := "()I" } : MethodName)) ∈ TG := tg_mem 910 (by decide +kernel) (by decide +kernel)
theorem w_911 : (Cond.instanceMethod ({ cls := "RingInSand$Beach", name := "cellOfMostOdds", desc := "()I" } : MethodName)) ∈ TG := tg_mem 911 (by decide +kernel) (by decide +kernel)
theorem w_912 : (Cond.selects "RingInSand$Beach" ({ cls := "RingInSand$Beach", name := "cellOfMostOdds", desc := "()I" } : MethodName) ({ cls := "RingInSand$Beach", name := "cellOfMostOdds", desc := "()I" } : MethodName)) ∈ TG := tg_mem 912 (by decide +kernel) (by decide +kernel)
theorem w_913 : (Cond.code ({ cls := "RingInSand$Beach", name := "cellOfMostOdds", desc := "()I" } : MethodName) prog_2_method_12_code (4 : Nat) (Option.some FieldType.int)) ∈ TG := tg_mem 913 (by decide +kernel) (by decide +kernel)
theorem w_914 : (Cond.methodLink "RingInSandLaw" (83 : Nat) ({ cls := "RingInSand", name := "under", desc := "(I)I" } : MethodName)) ∈ TG := tg_mem 914 (by decide +kernel) (by decide +kernel)
theorem w_915 : (Cond.instanceMethod ({ cls := "RingInSand", name := "under", desc := "(I)I" } : MethodName)) ∈ TG := tg_mem 915 (by decide +kernel) (by decide +kernel)
theorem w_916 : (Cond.selects "RingInSand" ({ cls := "RingInSand", name := "under", desc := "(I)I" } : MethodName) ({ cls := "RingInSand", name := "under", desc := "(I)I" } : MethodName)) ∈ TG := tg_mem 916 (by decide +kernel) (by decide +kernel)
theorem w_917 : (Cond.code ({ cls := "RingInSand", name := "under", desc := "(I)I" } : MethodName) prog_1_method_18_code (4 : Nat) (Option.some FieldType.int)) ∈ TG := tg_mem 917 (by decide +kernel) (by decide +kernel)
theorem w_918 : (Cond.methodLink "RingInSand" (224 : Nat) ({ cls := "RingInSand", name := "isWetAt", desc := "(II)Z" } : MethodName)) ∈ TG := tg_mem 918 (by decide +kernel) (by decide +kernel)
theorem w_920 : (Cond.instanceMethod ({ cls := "RingInSand", name := "isWetAt", desc := "(II)Z" } : MethodName)) ∈ TG := tg_mem 920 (by decide +kernel) (by decide +kernel)
theorem w_921 : (Cond.code ({ cls := "RingInSand", name := "isWetAt", desc := "(II)Z" } : MethodName) prog_1_method_58_code (3 : Nat) (Option.some FieldType.boolean)) ∈ TG := tg_mem 921 (by decide +kernel) (by decide +kernel)
theorem w_922 : (Cond.methodLink "RingInSand" (392 : Nat) ({ cls := "RingInSand$Rules", name := "isWetBy", desc := "(IIII)Z" } : MethodName)) ∈ TG := tg_mem 922 (by decide +kernel) (by decide +kernel)
theorem w_923 : (Cond.instanceMethod ({ cls := "RingInSand$Rules", name := "isWetBy", desc := "(IIII)Z" } : MethodName)) ∈ TG := tg_mem 923 (by decide +kernel) (by decide +kernel)
theorem w_924 : (Cond.selects "RingInSand$Rules" ({ cls := "RingInSand$Rules", name := "isWetBy", desc := "(IIII)Z" } : MethodName) ({ cls := "RingInSand$Rules", name := "isWetBy", desc := "(IIII)Z" } : MethodName)) ∈ TG := tg_mem 924 (by decide +kernel) (by decide +kernel)
theorem w_925 : (Cond.code ({ cls := "RingInSand$Rules", name := "isWetBy", desc := "(IIII)Z" } : MethodName) prog_7_method_6_code (5 : Nat) (Option.some FieldType.boolean)) ∈ TG := tg_mem 925 (by decide +kernel) (by decide +kernel)
theorem w_926 : (Cond.methodLink "RingInSandLaw" (87 : Nat) ({ cls := "RingInSand", name := "drowned", desc := "(I)I" } : MethodName)) ∈ TG := tg_mem 926 (by decide +kernel) (by decide +kernel)
theorem w_927 : (Cond.instanceMethod ({ cls := "RingInSand", name := "drowned", desc := "(I)I" } : MethodName)) ∈ TG := tg_mem 927 (by decide +kernel) (by decide +kernel)
theorem w_928 : (Cond.selects "RingInSand" ({ cls := "RingInSand", name := "drowned", desc := "(I)I" } : MethodName) ({ cls := "RingInSand", name := "drowned", desc := "(I)I" } : MethodName)) ∈ TG := tg_mem 928 (by decide +kernel) (by decide +kernel)
theorem w_929 : (Cond.code ({ cls := "RingInSand", name := "drowned", desc := "(I)I" } : MethodName) prog_1_method_19_code (2 : Nat) (Option.some FieldType.int)) ∈ TG := tg_mem 929 (by decide +kernel) (by decide +kernel)
theorem w_930 : (Cond.methodLink "RingInSand" (228 : Nat) ({ cls := "RingInSand", name := "oddsUnderWater", desc := "(I)I" } : MethodName)) ∈ TG := tg_mem 930 (by decide +kernel) (by decide +kernel)
theorem w_932 : (Cond.instanceMethod ({ cls := "RingInSand", name := "oddsUnderWater", desc := "(I)I" } : MethodName)) ∈ TG := tg_mem 932 (by decide +kernel) (by decide +kernel)
theorem w_933 : (Cond.code ({ cls := "RingInSand", name := "oddsUnderWater", desc := "(I)I" } : MethodName) prog_1_method_59_code (4 : Nat) (Option.some FieldType.int)) ∈ TG := tg_mem 933 (by decide +kernel) (by decide +kernel)
theorem w_934 : (Cond.methodLink "RingInSand" (231 : Nat) ({ cls := "RingInSand", name := "hourOfMostDrowned", desc := "()I" } : MethodName)) ∈ TG := tg_mem 934 (by decide +kernel) (by decide +kernel)
theorem w_936 : (Cond.instanceMethod ({ cls := "RingInSand", name := "hourOfMostDrowned", desc := "()I" } : MethodName)) ∈ TG := tg_mem 936 (by decide +kernel) (by decide +kernel)
theorem w_937 : (Cond.code ({ cls := "RingInSand", name := "hourOfMostDrowned", desc := "()I" } : MethodName) prog_1_method_60_code (5 : Nat) (Option.some FieldType.int)) ∈ TG := tg_mem 937 (by decide +kernel) (by decide +kernel)
theorem w_938 : (Cond.methodLink "RingInSandLaw" (91 : Nat) ({ cls := "RingInSand", name := "seen", desc := "(II)I" } : MethodName)) ∈ TG := tg_mem 938 (by decide +kernel) (by decide +kernel)
theorem w_939 : (Cond.instanceMethod ({ cls := "RingInSand", name := "seen", desc := "(II)I" } : MethodName)) ∈ TG := tg_mem 939 (by decide +kernel) (by decide +kernel)
theorem w_940 : (Cond.selects "RingInSand" ({ cls := "RingInSand", name := "seen", desc := "(II)I" } : MethodName) ({ cls := "RingInSand", name := "seen", desc := "(II)I" } : MethodName)) ∈ TG := tg_mem 940 (by decide +kernel) (by decide +kernel)
theorem w_941 : (Cond.code ({ cls := "RingInSand", name := "seen", desc := "(II)I" } : MethodName) prog_1_method_20_code (5 : Nat) (Option.some FieldType.int)) ∈ TG := tg_mem 941 (by decide +kernel) (by decide +kernel)
theorem w_942 : (Cond.methodLink "RingInSand" (234 : Nat) ({ cls := "RingInSand", name := "sheetAt", desc := "(I)LRingInSand$Sheet;" } : MethodName)) ∈ TG := tg_mem 942 (by decide +kernel) (by decide +kernel)
theorem w_944 : (Cond.instanceMethod ({ cls := "RingInSand", name := "sheetAt", desc := "(I)LRingInSand$Sheet;" } : MethodName)) ∈ TG := tg_mem 944 (by decide +kernel) (by decide +kernel)
theorem w_945 : (Cond.code ({ cls := "RingInSand", name := "sheetAt", desc := "(I)LRingInSand$Sheet;" } : MethodName) prog_1_method_38_code (2 : Nat) (Option.some (FieldType.object "RingInSand$Sheet"))) ∈ TG := tg_mem 945 (by decide +kernel) (by decide +kernel)
theorem w_946 : (Cond.methodLink "RingInSand" (238 : Nat) ({ cls := "RingInSand$Sheet", name := "isMissing", desc := "()Z" } : MethodName)) ∈ TG := tg_mem 946 (by decide +kernel) (by decide +kernel)
theorem w_947 : (Cond.instanceMethod ({ cls := "RingInSand$Sheet", name := "isMissing", desc := "()Z" } : MethodName)) ∈ TG := tg_mem 947 (by decide +kernel) (by decide +kernel)
theorem w_948 : (Cond.selects "RingInSand$Sheet" ({ cls := "RingInSand$Sheet", name := "isMissing", desc := "()Z" } : MethodName) ({ cls := "RingInSand$Sheet", name := "isMissing", desc := "()Z" } : MethodName)) ∈ TG := tg_mem 948 (by decide +kernel) (by decide +kernel)
theorem w_949 : (Cond.code ({ cls := "RingInSand$Sheet", name := "isMissing", desc := "()Z" } : MethodName) prog_8_method_2_code (1 : Nat) (Option.some FieldType.boolean)) ∈ TG := tg_mem 949 (by decide +kernel) (by decide +kernel)
theorem w_950 : (Cond.methodLink "RingInSand" (241 : Nat) ({ cls := "RingInSand", name := "tellsCellsAlone", desc := "(LRingInSand$Sheet;)Z" } : MethodName)) ∈ TG := tg_mem 950 (by decide +kernel) (by decide +kernel)
theorem w_951 : (Cond.static ({ cls := "RingInSand", name := "tellsCellsAlone", desc := "(LRingInSand$Sheet;)Z" } : MethodName)) ∈ TG := tg_mem 951 (by decide +kernel) (by decide +kernel)
theorem w_952 : (Cond.code ({ cls := "RingInSand", name := "tellsCellsAlone", desc := "(LRingInSand$Sheet;)Z" } : MethodName) prog_1_method_61_code (2 : Nat) (Option.some FieldType.boolean)) ∈ TG := tg_mem 952 (by decide +kernel) (by decide +kernel)
theorem w_953 : (Cond.methodLink "RingInSand" (246 : Nat) ({ cls := "RingInSand$Sheet", name := "itemAt", desc := "(I)I" } : MethodName)) ∈ TG := tg_mem 953 (by decide +kernel) (by decide +kernel)
theorem w_954 : (Cond.instanceMethod ({ cls := "RingInSand$Sheet", name := "itemAt", desc := "(I)I" } : MethodName)) ∈ TG := tg_mem 954 (by decide +kernel) (by decide +kernel)
theorem w_955 : (Cond.selects "RingInSand$Sheet" ({ cls := "RingInSand$Sheet", name := "itemAt", desc := "(I)I" } : MethodName) ({ cls := "RingInSand$Sheet", name := "itemAt", desc := "(I)I" } : MethodName)) ∈ TG := tg_mem 955 (by decide +kernel) (by decide +kernel)
theorem w_956 : (Cond.code ({ cls := "RingInSand$Sheet", name := "itemAt", desc := "(I)I" } : MethodName) prog_8_method_8_code (2 : Nat) (Option.some FieldType.int)) ∈ TG := tg_mem 956 (by decide +kernel) (by decide +kernel)
theorem w_957 : (Cond.methodLink "RingInSand$Sheet" (36 : Nat) ({ cls := "RingInSand$Sheet", name := "hasItem", desc := "(I)Z" } : MethodName)) ∈ TG := tg_mem 957 (by decide +kernel) (by decide +kernel)
theorem w_958 : (Cond.instanceMethod ({ cls := "RingInSand$Sheet", name := "hasItem", desc := "(I)Z" } : MethodName)) ∈ TG := tg_mem 958 (by decide +kernel) (by decide +kernel)
theorem w_959 : (Cond.selects "RingInSand$Sheet" ({ cls := "RingInSand$Sheet", name := "hasItem", desc := "(I)Z" } : MethodName) ({ cls := "RingInSand$Sheet", name := "hasItem", desc := "(I)Z" } : MethodName)) ∈ TG := tg_mem 959 (by decide +kernel) (by decide +kernel)
theorem w_960 : (Cond.code ({ cls := "RingInSand$Sheet", name := "hasItem", desc := "(I)Z" } : MethodName) prog_8_method_6_code (2 : Nat) (Option.some FieldType.boolean)) ∈ TG := tg_mem 960 (by decide +kernel) (by decide +kernel)
theorem w_962 : (Cond.methodLink "RingInSand" (249 : Nat) ({ cls := "RingInSand", name := "addPicture", desc := "(II)V" } : MethodName)) ∈ TG := tg_mem 962 (by decide +kernel) (by decide +kernel)
theorem w_964 : (Cond.instanceMethod ({ cls := "RingInSand", name := "addPicture", desc := "(II)V" } : MethodName)) ∈ TG := tg_mem 964 (by decide +kernel) (by decide +kernel)
theorem w_965 : (Cond.code ({ cls := "RingInSand", name := "addPicture", desc := "(II)V" } : MethodName) prog_1_method_62_code (4 : Nat) (Option.none : Option FieldType)) ∈ TG := tg_mem 965 (by decide +kernel) (by decide +kernel)
theorem w_966 : (Cond.methodLink "RingInSand" (396 : Nat) ({ cls := "RingInSand$Beach", name := "addOdds", desc := "(II)V" } : MethodName)) ∈ TG := tg_mem 966 (by decide +kernel) (by decide +kernel)
theorem w_967 : (Cond.instanceMethod ({ cls := "RingInSand$Beach", name := "addOdds", desc := "(II)V" } : MethodName)) ∈ TG := tg_mem 967 (by decide +kernel) (by decide +kernel)
theorem w_968 : (Cond.selects "RingInSand$Beach" ({ cls := "RingInSand$Beach", name := "addOdds", desc := "(II)V" } : MethodName) ({ cls := "RingInSand$Beach", name := "addOdds", desc := "(II)V" } : MethodName)) ∈ TG := tg_mem 968 (by decide +kernel) (by decide +kernel)
theorem w_969 : (Cond.code ({ cls := "RingInSand$Beach", name := "addOdds", desc := "(II)V" } : MethodName) prog_2_method_5_code (3 : Nat) (Option.none : Option FieldType)) ∈ TG := tg_mem 969 (by decide +kernel) (by decide +kernel)
theorem w_970 : (Cond.constant "RingInSand$Beach" (41 : Nat) (999999 : Int32)) ∈ TG := tg_mem 970 (by decide +kernel) (by decide +kernel)
theorem w_971 : (Cond.methodLink "RingInSandLaw" (95 : Nat) ({ cls := "RingInSand", name := "crowd", desc := "(III)I" } : MethodName)) ∈ TG := tg_mem 971 (by decide +kernel) (by decide +kernel)
theorem w_972 : (Cond.instanceMethod ({ cls := "RingInSand", name := "crowd", desc := "(III)I" } : MethodName)) ∈ TG := tg_mem 972 (by decide +kernel) (by decide +kernel)
theorem w_973 : (Cond.selects "RingInSand" ({ cls := "RingInSand", name := "crowd", desc := "(III)I" } : MethodName) ({ cls := "RingInSand", name := "crowd", desc := "(III)I" } : MethodName)) ∈ TG := tg_mem 973 (by decide +kernel) (by decide +kernel)
theorem w_974 : (Cond.code ({ cls := "RingInSand", name := "crowd", desc := "(III)I" } : MethodName) prog_1_method_21_code (6 : Nat) (Option.some FieldType.int)) ∈ TG := tg_mem 974 (by decide +kernel) (by decide +kernel)
theorem w_975 : (Cond.methodLink "RingInSandLaw" (99 : Nat) ({ cls := "RingInSand", name := "judge", desc := "(I)I" } : MethodName)) ∈ TG := tg_mem 975 (by decide +kernel) (by decide +kernel)
theorem w_976 : (Cond.instanceMethod ({ cls := "RingInSand", name := "judge", desc := "(I)I" } : MethodName)) ∈ TG := tg_mem 976 (by decide +kernel) (by decide +kernel)
theorem w_977 : (Cond.selects "RingInSand" ({ cls := "RingInSand", name := "judge", desc := "(I)I" } : MethodName) ({ cls := "RingInSand", name := "judge", desc := "(I)I" } : MethodName)) ∈ TG := tg_mem 977 (by decide +kernel) (by decide +kernel)
theorem w_978 : (Cond.code ({ cls := "RingInSand", name := "judge", desc := "(I)I" } : MethodName) prog_1_method_22_code (3 : Nat) (Option.some FieldType.int)) ∈ TG := tg_mem 978 (by decide +kernel) (by decide +kernel)
theorem w_979 : (Cond.methodLink "RingInSand" (261 : Nat) ({ cls := "RingInSand$Sheet", name := "isOdd", desc := "()Z" } : MethodName)) ∈ TG := tg_mem 979 (by decide +kernel) (by decide +kernel)
theorem w_980 : (Cond.instanceMethod ({ cls := "RingInSand$Sheet", name := "isOdd", desc := "()Z" } : MethodName)) ∈ TG := tg_mem 980 (by decide +kernel) (by decide +kernel)
theorem w_981 : (Cond.selects "RingInSand$Sheet" ({ cls := "RingInSand$Sheet", name := "isOdd", desc := "()Z" } : MethodName) ({ cls := "RingInSand$Sheet", name := "isOdd", desc := "()Z" } : MethodName)) ∈ TG := tg_mem 981 (by decide +kernel) (by decide +kernel)
theorem w_982 : (Cond.code ({ cls := "RingInSand$Sheet", name := "isOdd", desc := "()Z" } : MethodName) prog_8_method_3_code (1 : Nat) (Option.some FieldType.boolean)) ∈ TG := tg_mem 982 (by decide +kernel) (by decide +kernel)
theorem w_983 : (Cond.methodLink "RingInSand" (264 : Nat) ({ cls := "RingInSand", name := "firstWrongRow", desc := "(LRingInSand$Sheet;)I" } : MethodName)) ∈ TG := tg_mem 983 (by decide +kernel) (by decide +kernel)
theorem w_985 : (Cond.instanceMethod ({ cls := "RingInSand", name := "firstWrongRow", desc := "(LRingInSand$Sheet;)I" } : MethodName)) ∈ TG := tg_mem 985 (by decide +kernel) (by decide +kernel)
theorem w_986 : (Cond.code ({ cls := "RingInSand", name := "firstWrongRow", desc := "(LRingInSand$Sheet;)I" } : MethodName) prog_1_method_57_code (6 : Nat) (Option.some FieldType.int)) ∈ TG := tg_mem 986 (by decide +kernel) (by decide +kernel)
theorem w_987 : (Cond.methodLink "RingInSandLaw" (103 : Nat) ({ cls := "RingInSand", name := "found", desc := "(II)J" } : MethodName)) ∈ TG := tg_mem 987 (by decide +kernel) (by decide +kernel)
theorem w_988 : (Cond.instanceMethod ({ cls := "RingInSand", name := "found", desc := "(II)J" } : MethodName)) ∈ TG := tg_mem 988 (by decide +kernel) (by decide +kernel)
theorem w_989 : (Cond.selects "RingInSand" ({ cls := "RingInSand", name := "found", desc := "(II)J" } : MethodName) ({ cls := "RingInSand", name := "found", desc := "(II)J" } : MethodName)) ∈ TG := tg_mem 989 (by decide +kernel) (by decide +kernel)
theorem w_990 : (Cond.code ({ cls := "RingInSand", name := "found", desc := "(II)J" } : MethodName) prog_1_method_23_code (4 : Nat) (Option.some FieldType.long)) ∈ TG := tg_mem 990 (by decide +kernel) (by decide +kernel)
theorem w_991 : (Cond.methodLink "RingInSandLaw" (107 : Nat) ({ cls := "RingInSand", name := "drawn", desc := "(I)I" } : MethodName)) ∈ TG := tg_mem 991 (by decide +kernel) (by decide +kernel)
theorem w_992 : (Cond.instanceMethod ({ cls := "RingInSand", name := "drawn", desc := "(I)I" } : MethodName)) ∈ TG := tg_mem 992 (by decide +kernel) (by decide +kernel)
theorem w_993 : (Cond.selects "RingInSand" ({ cls := "RingInSand", name := "drawn", desc := "(I)I" } : MethodName) ({ cls := "RingInSand", name := "drawn", desc := "(I)I" } : MethodName)) ∈ TG := tg_mem 993 (by decide +kernel) (by decide +kernel)
theorem w_994 : (Cond.code ({ cls := "RingInSand", name := "drawn", desc := "(I)I" } : MethodName) prog_1_method_24_code (4 : Nat) (Option.some FieldType.int)) ∈ TG := tg_mem 994 (by decide +kernel) (by decide +kernel)
theorem w_995 : (Cond.constant "RingInSand" (271 : Nat) (1103515245 : Int32)) ∈ TG := tg_mem 995 (by decide +kernel) (by decide +kernel)
theorem w_996 : (Cond.methodLink "RingInSand" (272 : Nat) ({ cls := "RingInSand$Beach", name := "cellBehind", desc := "(I)I" } : MethodName)) ∈ TG := tg_mem 996 (by decide +kernel) (by decide +kernel)
theorem w_997 : (Cond.instanceMethod ({ cls := "RingInSand$Beach", name := "cellBehind", desc := "(I)I" } : MethodName)) ∈ TG := tg_mem 997 (by decide +kernel) (by decide +kernel)
theorem w_998 : (Cond.selects "RingInSand$Beach" ({ cls := "RingInSand$Beach", name := "cellBehind", desc := "(I)I" } : MethodName) ({ cls := "RingInSand$Beach", name := "cellBehind", desc := "(I)I" } : MethodName)) ∈ TG := tg_mem 998 (by decide +kernel) (by decide +kernel)
theorem w_999 : (Cond.code ({ cls := "RingInSand$Beach", name := "cellBehind", desc := "(I)I" } : MethodName) prog_2_method_13_code (4 : Nat) (Option.some FieldType.int)) ∈ TG := tg_mem 999 (by decide +kernel) (by decide +kernel)
theorem w_1000 : (Cond.methodLink "RingInSandLaw" (111 : Nat) ({ cls := "RingInSand", name := "foundBy", desc := "(II)I" } : MethodName)) ∈ TG := tg_mem 1000 (by decide +kernel) (by decide +kernel)
theorem w_1001 : (Cond.instanceMethod ({ cls := "RingInSand", name := "foundBy", desc := "(II)I" } : MethodName)) ∈ TG := tg_mem 1001 (by decide +kernel) (by decide +kernel)
theorem w_1002 : (Cond.selects "RingInSand" ({ cls := "RingInSand", name := "foundBy", desc := "(II)I" } : MethodName) ({ cls := "RingInSand", name := "foundBy", desc := "(II)I" } : MethodName)) ∈ TG := tg_mem 1002 (by decide +kernel) (by decide +kernel)
theorem w_1003 : (Cond.code ({ cls := "RingInSand", name := "foundBy", desc := "(II)I" } : MethodName) prog_1_method_25_code (5 : Nat) (Option.some FieldType.int)) ∈ TG := tg_mem 1003 (by decide +kernel) (by decide +kernel)
theorem w_1004 : (Cond.methodLink "RingInSand" (275 : Nat) ({ cls := "RingInSand", name := "drawn", desc := "(I)I" } : MethodName)) ∈ TG := tg_mem 1004 (by decide +kernel) (by decide +kernel)
theorem w_1005 : (Cond.methodLink "RingInSand" (278 : Nat) ({ cls := "RingInSand$Steps", name := "hasCell", desc := "(I)Z" } : MethodName)) ∈ TG := tg_mem 1005 (by decide +kernel) (by decide +kernel)
theorem w_1006 : (Cond.instanceMethod ({ cls := "RingInSand$Steps", name := "hasCell", desc := "(I)Z" } : MethodName)) ∈ TG := tg_mem 1006 (by decide +kernel) (by decide +kernel)
theorem w_1007 : (Cond.selects "RingInSand$Steps" ({ cls := "RingInSand$Steps", name := "hasCell", desc := "(I)Z" } : MethodName) ({ cls := "RingInSand$Steps", name := "hasCell", desc := "(I)Z" } : MethodName)) ∈ TG := tg_mem 1007 (by decide +kernel) (by decide +kernel)
theorem w_1008 : (Cond.code ({ cls := "RingInSand$Steps", name := "hasCell", desc := "(I)Z" } : MethodName) prog_11_method_6_code (3 : Nat) (Option.some FieldType.boolean)) ∈ TG := tg_mem 1008 (by decide +kernel) (by decide +kernel)
theorem w_1009 : (Cond.methodLink "RingInSandLaw" (115 : Nat) ({ cls := "RingInSand", name := "image", desc := "()I" } : MethodName)) ∈ TG := tg_mem 1009 (by decide +kernel) (by decide +kernel)
theorem w_1010 : (Cond.instanceMethod ({ cls := "RingInSand", name := "image", desc := "()I" } : MethodName)) ∈ TG := tg_mem 1010 (by decide +kernel) (by decide +kernel)
theorem w_1011 : (Cond.selects "RingInSand" ({ cls := "RingInSand", name := "image", desc := "()I" } : MethodName) ({ cls := "RingInSand", name := "image", desc := "()I" } : MethodName)) ∈ TG := tg_mem 1011 (by decide +kernel) (by decide +kernel)
theorem w_1012 : (Cond.code ({ cls := "RingInSand", name := "image", desc := "()I" } : MethodName) prog_1_method_26_code (1 : Nat) (Option.some FieldType.int)) ∈ TG := tg_mem 1012 (by decide +kernel) (by decide +kernel)
theorem w_1013 : (Cond.methodLink "RingInSandLaw" (119 : Nat) ({ cls := "RingInSand", name := "back", desc := "()I" } : MethodName)) ∈ TG := tg_mem 1013 (by decide +kernel) (by decide +kernel)
theorem w_1014 : (Cond.instanceMethod ({ cls := "RingInSand", name := "back", desc := "()I" } : MethodName)) ∈ TG := tg_mem 1014 (by decide +kernel) (by decide +kernel)
theorem w_1015 : (Cond.selects "RingInSand" ({ cls := "RingInSand", name := "back", desc := "()I" } : MethodName) ({ cls := "RingInSand", name := "back", desc := "()I" } : MethodName)) ∈ TG := tg_mem 1015 (by decide +kernel) (by decide +kernel)
theorem w_1016 : (Cond.code ({ cls := "RingInSand", name := "back", desc := "()I" } : MethodName) prog_1_method_27_code (1 : Nat) (Option.some FieldType.int)) ∈ TG := tg_mem 1016 (by decide +kernel) (by decide +kernel)
theorem w_1017 : (Cond.methodLink "RingInSandLaw" (123 : Nat) ({ cls := "RingInSand", name := "count", desc := "(I)I" } : MethodName)) ∈ TG := tg_mem 1017 (by decide +kernel) (by decide +kernel)
theorem w_1018 : (Cond.instanceMethod ({ cls := "RingInSand", name := "count", desc := "(I)I" } : MethodName)) ∈ TG := tg_mem 1018 (by decide +kernel) (by decide +kernel)
theorem w_1019 : (Cond.selects "RingInSand" ({ cls := "RingInSand", name := "count", desc := "(I)I" } : MethodName) ({ cls := "RingInSand", name := "count", desc := "(I)I" } : MethodName)) ∈ TG := tg_mem 1019 (by decide +kernel) (by decide +kernel)
theorem w_1020 : (Cond.code ({ cls := "RingInSand", name := "count", desc := "(I)I" } : MethodName) prog_1_method_28_code (2 : Nat) (Option.some FieldType.int)) ∈ TG := tg_mem 1020 (by decide +kernel) (by decide +kernel)
theorem w_1021 : (Cond.methodLink "RingInSand" (294 : Nat) ({ cls := "RingInSand$Beach", name := "allTreads", desc := "()I" } : MethodName)) ∈ TG := tg_mem 1021 (by decide +kernel) (by decide +kernel)
theorem w_1022 : (Cond.instanceMethod ({ cls := "RingInSand$Beach", name := "allTreads", desc := "()I" } : MethodName)) ∈ TG := tg_mem 1022 (by decide +kernel) (by decide +kernel)
theorem w_1023 : (Cond.selects "RingInSand$Beach" ({ cls := "RingInSand$Beach", name := "allTreads", desc := "()I" } : MethodName) ({ cls := "RingInSand$Beach", name := "allTreads", desc := "()I" } : MethodName)) ∈ TG := tg_mem 1023 (by decide +kernel) (by decide +kernel)
theorem w_1024 : (Cond.code ({ cls := "RingInSand$Beach", name := "allTreads", desc := "()I" } : MethodName) prog_2_method_11_code (3 : Nat) (Option.some FieldType.int)) ∈ TG := tg_mem 1024 (by decide +kernel) (by decide +kernel)
theorem w_1025 : (Cond.methodLink "RingInSandLaw" (127 : Nat) ({ cls := "RingInSand", name := "sheet", desc := "(III)I" } : MethodName)) ∈ TG := tg_mem 1025 (by decide +kernel) (by decide +kernel)
theorem w_1026 : (Cond.instanceMethod ({ cls := "RingInSand", name := "sheet", desc := "(III)I" } : MethodName)) ∈ TG := tg_mem 1026 (by decide +kernel) (by decide +kernel)
theorem w_1027 : (Cond.selects "RingInSand" ({ cls := "RingInSand", name := "sheet", desc := "(III)I" } : MethodName) ({ cls := "RingInSand", name := "sheet", desc := "(III)I" } : MethodName)) ∈ TG := tg_mem 1027 (by decide +kernel) (by decide +kernel)
theorem w_1028 : (Cond.code ({ cls := "RingInSand", name := "sheet", desc := "(III)I" } : MethodName) prog_1_method_29_code (5 : Nat) (Option.some FieldType.int)) ∈ TG := tg_mem 1028 (by decide +kernel) (by decide +kernel)
theorem w_1029 : (Cond.methodLink "RingInSand" (297 : Nat) ({ cls := "RingInSand$Sheet", name := "remove", desc := "()V" } : MethodName)) ∈ TG := tg_mem 1029 (by decide +kernel) (by decide +kernel)
theorem w_1030 : (Cond.instanceMethod ({ cls := "RingInSand$Sheet", name := "remove", desc := "()V" } : MethodName)) ∈ TG := tg_mem 1030 (by decide +kernel) (by decide +kernel)
theorem w_1031 : (Cond.selects "RingInSand$Sheet" ({ cls := "RingInSand$Sheet", name := "remove", desc := "()V" } : MethodName) ({ cls := "RingInSand$Sheet", name := "remove", desc := "()V" } : MethodName)) ∈ TG := tg_mem 1031 (by decide +kernel) (by decide +kernel)
theorem w_1032 : (Cond.code ({ cls := "RingInSand$Sheet", name := "remove", desc := "()V" } : MethodName) prog_8_method_4_code (1 : Nat) (Option.none : Option FieldType)) ∈ TG := tg_mem 1032 (by decide +kernel) (by decide +kernel)
theorem w_1033 : (Cond.methodLink "RingInSand" (300 : Nat) ({ cls := "RingInSand$Sheet", name := "lay", desc := "(II)V" } : MethodName)) ∈ TG := tg_mem 1033 (by decide +kernel) (by decide +kernel)
theorem w_1034 : (Cond.instanceMethod ({ cls := "RingInSand$Sheet", name := "lay", desc := "(II)V" } : MethodName)) ∈ TG := tg_mem 1034 (by decide +kernel) (by decide +kernel)
theorem w_1035 : (Cond.selects "RingInSand$Sheet" ({ cls := "RingInSand$Sheet", name := "lay", desc := "(II)V" } : MethodName) ({ cls := "RingInSand$Sheet", name := "lay", desc := "(II)V" } : MethodName)) ∈ TG := tg_mem 1035 (by decide +kernel) (by decide +kernel)
theorem w_1036 : (Cond.code ({ cls := "RingInSand$Sheet", name := "lay", desc := "(II)V" } : MethodName) prog_8_method_5_code (3 : Nat) (Option.none : Option FieldType)) ∈ TG := tg_mem 1036 (by decide +kernel) (by decide +kernel)
theorem w_1041 : (Cond.methodLink "RingInSandLaw" (131 : Nat) ({ cls := "RingInSand", name := "cell", desc := "(III)I" } : MethodName)) ∈ TG := tg_mem 1041 (by decide +kernel) (by decide +kernel)
theorem w_1042 : (Cond.instanceMethod ({ cls := "RingInSand", name := "cell", desc := "(III)I" } : MethodName)) ∈ TG := tg_mem 1042 (by decide +kernel) (by decide +kernel)
theorem w_1043 : (Cond.selects "RingInSand" ({ cls := "RingInSand", name := "cell", desc := "(III)I" } : MethodName) ({ cls := "RingInSand", name := "cell", desc := "(III)I" } : MethodName)) ∈ TG := tg_mem 1043 (by decide +kernel) (by decide +kernel)
theorem w_1044 : (Cond.code ({ cls := "RingInSand", name := "cell", desc := "(III)I" } : MethodName) prog_1_method_30_code (5 : Nat) (Option.some FieldType.int)) ∈ TG := tg_mem 1044 (by decide +kernel) (by decide +kernel)
theorem w_1045 : (Cond.methodLink "RingInSand" (303 : Nat) ({ cls := "RingInSand$Sheet", name := "hasItem", desc := "(I)Z" } : MethodName)) ∈ TG := tg_mem 1045 (by decide +kernel) (by decide +kernel)
theorem w_1046 : (Cond.methodLink "RingInSand" (306 : Nat) ({ cls := "RingInSand$Sheet", name := "put", desc := "(II)V" } : MethodName)) ∈ TG := tg_mem 1046 (by decide +kernel) (by decide +kernel)
theorem w_1047 : (Cond.instanceMethod ({ cls := "RingInSand$Sheet", name := "put", desc := "(II)V" } : MethodName)) ∈ TG := tg_mem 1047 (by decide +kernel) (by decide +kernel)
theorem w_1048 : (Cond.selects "RingInSand$Sheet" ({ cls := "RingInSand$Sheet", name := "put", desc := "(II)V" } : MethodName) ({ cls := "RingInSand$Sheet", name := "put", desc := "(II)V" } : MethodName)) ∈ TG := tg_mem 1048 (by decide +kernel) (by decide +kernel)
theorem w_1049 : (Cond.code ({ cls := "RingInSand$Sheet", name := "put", desc := "(II)V" } : MethodName) prog_8_method_9_code (3 : Nat) (Option.none : Option FieldType)) ∈ TG := tg_mem 1049 (by decide +kernel) (by decide +kernel)
theorem w_1050 : (Cond.methodLink "RingInSand$Sheet" (40 : Nat) ({ cls := "RingInSand$Sheet", name := "narrowed", desc := "(I)I" } : MethodName)) ∈ TG := tg_mem 1050 (by decide +kernel) (by decide +kernel)
theorem w_1052 : (Cond.instanceMethod ({ cls := "RingInSand$Sheet", name := "narrowed", desc := "(I)I" } : MethodName)) ∈ TG := tg_mem 1052 (by decide +kernel) (by decide +kernel)
theorem w_1053 : (Cond.code ({ cls := "RingInSand$Sheet", name := "narrowed", desc := "(I)I" } : MethodName) prog_8_method_10_code (2 : Nat) (Option.some FieldType.int)) ∈ TG := tg_mem 1053 (by decide +kernel) (by decide +kernel)
theorem w_1054 : (Cond.methodLink "RingInSandLaw" (135 : Nat) ({ cls := "RingInSand", name := "copy", desc := "(IIIII)I" } : MethodName)) ∈ TG := tg_mem 1054 (by decide +kernel) (by decide +kernel)
theorem w_1055 : (Cond.instanceMethod ({ cls := "RingInSand", name := "copy", desc := "(IIIII)I" } : MethodName)) ∈ TG := tg_mem 1055 (by decide +kernel) (by decide +kernel)
theorem w_1056 : (Cond.selects "RingInSand" ({ cls := "RingInSand", name := "copy", desc := "(IIIII)I" } : MethodName) ({ cls := "RingInSand", name := "copy", desc := "(IIIII)I" } : MethodName)) ∈ TG := tg_mem 1056 (by decide +kernel) (by decide +kernel)
theorem w_1057 : (Cond.code ({ cls := "RingInSand", name := "copy", desc := "(IIIII)I" } : MethodName) prog_1_method_31_code (8 : Nat) (Option.some FieldType.int)) ∈ TG := tg_mem 1057 (by decide +kernel) (by decide +kernel)
theorem w_1058 : (Cond.methodLink "RingInSand" (312 : Nat) ({ cls := "RingInSand$Sheet", name := "hasRange", desc := "(II)Z" } : MethodName)) ∈ TG := tg_mem 1058 (by decide +kernel) (by decide +kernel)
theorem w_1059 : (Cond.instanceMethod ({ cls := "RingInSand$Sheet", name := "hasRange", desc := "(II)Z" } : MethodName)) ∈ TG := tg_mem 1059 (by decide +kernel) (by decide +kernel)
theorem w_1060 : (Cond.selects "RingInSand$Sheet" ({ cls := "RingInSand$Sheet", name := "hasRange", desc := "(II)Z" } : MethodName) ({ cls := "RingInSand$Sheet", name := "hasRange", desc := "(II)Z" } : MethodName)) ∈ TG := tg_mem 1060 (by decide +kernel) (by decide +kernel)
theorem w_1061 : (Cond.code ({ cls := "RingInSand$Sheet", name := "hasRange", desc := "(II)Z" } : MethodName) prog_8_method_7_code (3 : Nat) (Option.some FieldType.boolean)) ∈ TG := tg_mem 1061 (by decide +kernel) (by decide +kernel)
theorem w_1062 : (Cond.methodLink "RingInSand" (319 : Nat) ({ cls := "java/lang/System", name := "arraycopy", desc := "(Ljava/lang/Object;ILjava/lang/Object;II)V" } : MethodName)) ∈ TG := tg_mem 1062 (by decide +kernel) (by decide +kernel)
theorem w_1063 : (Cond.methodLink "RingInSandLaw" (140 : Nat) ({ cls := "RingInSand", name := "lookers", desc := "(IIII)I" } : MethodName)) ∈ TG := tg_mem 1063 (by decide +kernel) (by decide +kernel)
theorem w_1064 : (Cond.instanceMethod ({ cls := "RingInSand", name := "lookers", desc := "(IIII)I" } : MethodName)) ∈ TG := tg_mem 1064 (by decide +kernel) (by decide +kernel)
theorem w_1065 : (Cond.selects "RingInSand" ({ cls := "RingInSand", name := "lookers", desc := "(IIII)I" } : MethodName) ({ cls := "RingInSand", name := "lookers", desc := "(IIII)I" } : MethodName)) ∈ TG := tg_mem 1065 (by decide +kernel) (by decide +kernel)
theorem w_1066 : (Cond.code ({ cls := "RingInSand", name := "lookers", desc := "(IIII)I" } : MethodName) prog_1_method_32_code (9 : Nat) (Option.some FieldType.int)) ∈ TG := tg_mem 1066 (by decide +kernel) (by decide +kernel)
theorem w_1067 : (Cond.methodLink "RingInSand" (325 : Nat) ({ cls := "RingInSand", name := "looker", desc := "(II)I" } : MethodName)) ∈ TG := tg_mem 1067 (by decide +kernel) (by decide +kernel)
theorem w_1068 : (Cond.methodLink "RingInSandLaw" (145 : Nat) ({ cls := "RingInSand", name := "taken", desc := "(II)I" } : MethodName)) ∈ TG := tg_mem 1068 (by decide +kernel) (by decide +kernel)
theorem w_1069 : (Cond.instanceMethod ({ cls := "RingInSand", name := "taken", desc := "(II)I" } : MethodName)) ∈ TG := tg_mem 1069 (by decide +kernel) (by decide +kernel)
theorem w_1070 : (Cond.selects "RingInSand" ({ cls := "RingInSand", name := "taken", desc := "(II)I" } : MethodName) ({ cls := "RingInSand", name := "taken", desc := "(II)I" } : MethodName)) ∈ TG := tg_mem 1070 (by decide +kernel) (by decide +kernel)
theorem w_1071 : (Cond.code ({ cls := "RingInSand", name := "taken", desc := "(II)I" } : MethodName) prog_1_method_33_code (4 : Nat) (Option.some FieldType.int)) ∈ TG := tg_mem 1071 (by decide +kernel) (by decide +kernel)
theorem w_1072 : (Cond.methodLink "RingInSand" (328 : Nat) ({ cls := "RingInSand", name := "isOfKind", desc := "(LRingInSand$Eyes;I)Z" } : MethodName)) ∈ TG := tg_mem 1072 (by decide +kernel) (by decide +kernel)
theorem w_1073 : (Cond.static ({ cls := "RingInSand", name := "isOfKind", desc := "(LRingInSand$Eyes;I)Z" } : MethodName)) ∈ TG := tg_mem 1073 (by decide +kernel) (by decide +kernel)
theorem w_1074 : (Cond.code ({ cls := "RingInSand", name := "isOfKind", desc := "(LRingInSand$Eyes;I)Z" } : MethodName) prog_1_method_47_code (2 : Nat) (Option.some FieldType.boolean)) ∈ TG := tg_mem 1074 (by decide +kernel) (by decide +kernel)
theorem w_1075 : (Cond.classLink "RingInSandLaw" (10 : Nat) "RingInSandModel") ∈ TG := tg_mem 1075 (by decide +kernel) (by decide +kernel)
theorem w_1076 : (Cond.instantiable "RingInSandModel" (54 : Nat)) ∈ TG := tg_mem 1076 (by decide +kernel) (by decide +kernel)
theorem w_1077 : (Cond.methodLink "RingInSandLaw" (12 : Nat) ({ cls := "RingInSandModel", name := "<init>", desc := "()V" } : MethodName)) ∈ TG := tg_mem 1077 (by decide +kernel) (by decide +kernel)
theorem w_1078 : (Cond.instanceMethod ({ cls := "RingInSandModel", name := "<init>", desc := "()V" } : MethodName)) ∈ TG := tg_mem 1078 (by decide +kernel) (by decide +kernel)
theorem w_1079 : (Cond.code ({ cls := "RingInSandModel", name := "<init>", desc := "()V" } : MethodName) prog_14_method_4_code (1 : Nat) (Option.none : Option FieldType)) ∈ TG := tg_mem 1079 (by decide +kernel) (by decide +kernel)
theorem w_1080 : (Cond.methodLink "RingInSandModel" (7 : Nat) ({ cls := "java/lang/Object", name := "<init>", desc := "()V" } : MethodName)) ∈ TG := tg_mem 1080 (by decide +kernel) (by decide +kernel)
theorem w_1081 : (Cond.methodLink "RingInSandModel" (78 : Nat) ({ cls := "RingInSandModel", name := "spell", desc := "(IIIIIIIII)V" } : MethodName)) ∈ TG := tg_mem 1081 (by decide +kernel) (by decide +kernel)
theorem w_1083 : (Cond.instanceMethod ({ cls := "RingInSandModel", name := "spell", desc := "(IIIIIIIII)V" } : MethodName)) ∈ TG := tg_mem 1083 (by decide +kernel) (by decide +kernel)
theorem w_1084 : (Cond.code ({ cls := "RingInSandModel", name := "spell", desc := "(IIIIIIIII)V" } : MethodName) prog_14_method_5_code (10 : Nat) (Option.none : Option FieldType)) ∈ TG := tg_mem 1084 (by decide +kernel) (by decide +kernel)
theorem w_1085 : (Cond.fieldLink "RingInSandModel" (13 : Nat) "RingInSandModel" "texts" "[I") ∈ TG := tg_mem 1085 (by decide +kernel) (by decide +kernel)
theorem w_1086 : (Cond.fieldLink "RingInSandModel" (17 : Nat) "RingInSandModel" "textSize" "[I") ∈ TG := tg_mem 1086 (by decide +kernel) (by decide +kernel)
theorem w_1087 : (Cond.fieldLink "RingInSandModel" (82 : Nat) "RingInSandModel" "textCount" "I") ∈ TG := tg_mem 1087 (by decide +kernel) (by decide +kernel)
theorem w_1088 : (Cond.fieldLink "RingInSandModel" (239 : Nat) "RingInSandModel" "rule" "I") ∈ TG := tg_mem 1088 (by decide +kernel) (by decide +kernel)
theorem w_1089 : (Cond.fieldLink "RingInSandModel" (20 : Nat) "RingInSandModel" "tape" "[I") ∈ TG := tg_mem 1089 (by decide +kernel) (by decide +kernel)
theorem w_1090 : (Cond.fieldLink "RingInSandModel" (120 : Nat) "RingInSandModel" "taped" "I") ∈ TG := tg_mem 1090 (by decide +kernel) (by decide +kernel)
theorem w_1091 : (Cond.fieldLink "RingInSandModel" (23 : Nat) "RingInSandModel" "odds" "[I") ∈ TG := tg_mem 1091 (by decide +kernel) (by decide +kernel)
theorem w_1092 : (Cond.fieldLink "RingInSandModel" (26 : Nat) "RingInSandModel" "treads" "[I") ∈ TG := tg_mem 1092 (by decide +kernel) (by decide +kernel)
theorem w_1093 : (Cond.fieldLink "RingInSandModel" (108 : Nat) "RingInSandModel" "bag" "I") ∈ TG := tg_mem 1093 (by decide +kernel) (by decide +kernel)
theorem w_1094 : (Cond.fieldLink "RingInSandModel" (29 : Nat) "RingInSandModel" "hour" "I") ∈ TG := tg_mem 1094 (by decide +kernel) (by decide +kernel)
theorem w_1095 : (Cond.fieldLink "RingInSandModel" (111 : Nat) "RingInSandModel" "minute" "I") ∈ TG := tg_mem 1095 (by decide +kernel) (by decide +kernel)
theorem w_1096 : (Cond.fieldLink "RingInSandModel" (32 : Nat) "RingInSandModel" "kinds" "[I") ∈ TG := tg_mem 1096 (by decide +kernel) (by decide +kernel)
theorem w_1097 : (Cond.fieldLink "RingInSandModel" (35 : Nat) "RingInSandModel" "numbers" "[I") ∈ TG := tg_mem 1097 (by decide +kernel) (by decide +kernel)
theorem w_1098 : (Cond.fieldLink "RingInSandModel" (91 : Nat) "RingInSandModel" "many" "I") ∈ TG := tg_mem 1098 (by decide +kernel) (by decide +kernel)
theorem w_1099 : (Cond.fieldLink "RingInSandModel" (180 : Nat) "RingInSandModel" "ofY" "I") ∈ TG := tg_mem 1099 (by decide +kernel) (by decide +kernel)
theorem w_1100 : (Cond.fieldLink "RingInSandModel" (183 : Nat) "RingInSandModel" "ofX" "I") ∈ TG := tg_mem 1100 (by decide +kernel) (by decide +kernel)
theorem w_1101 : (Cond.fieldLink "RingInSandModel" (186 : Nat) "RingInSandModel" "ofDepth" "I") ∈ TG := tg_mem 1101 (by decide +kernel) (by decide +kernel)
theorem w_1102 : (Cond.fieldLink "RingInSandModel" (189 : Nat) "RingInSandModel" "ofTrod" "I") ∈ TG := tg_mem 1102 (by decide +kernel) (by decide +kernel)
theorem w_1103 : (Cond.fieldLink "RingInSandModel" (192 : Nat) "RingInSandModel" "ofHour" "I") ∈ TG := tg_mem 1103 (by decide +kernel) (by decide +kernel)
theorem w_1104 : (Cond.fieldLink "RingInSandModel" (195 : Nat) "RingInSandModel" "ofSun" "I") ∈ TG := tg_mem 1104 (by decide +kernel) (by decide +kernel)
theorem w_1105 : (Cond.fieldLink "RingInSandModel" (126 : Nat) "RingInSandModel" "from" "I") ∈ TG := tg_mem 1105 (by decide +kernel) (by decide +kernel)
theorem w_1106 : (Cond.fieldLink "RingInSandModel" (123 : Nat) "RingInSandModel" "size" "I") ∈ TG := tg_mem 1106 (by decide +kernel) (by decide +kernel)
theorem w_1107 : (Cond.fieldLink "RingInSandModel" (129 : Nat) "RingInSandModel" "here" "I") ∈ TG := tg_mem 1107 (by decide +kernel) (by decide +kernel)
theorem w_1108 : (Cond.fieldLink "RingInSandModel" (139 : Nat) "RingInSandModel" "token" "I") ∈ TG := tg_mem 1108 (by decide +kernel) (by decide +kernel)
theorem w_1109 : (Cond.fieldLink "RingInSandModel" (136 : Nat) "RingInSandModel" "tokenAt" "I") ∈ TG := tg_mem 1109 (by decide +kernel) (by decide +kernel)
theorem w_1110 : (Cond.fieldLink "RingInSandModel" (150 : Nat) "RingInSandModel" "tokenWorth" "J") ∈ TG := tg_mem 1110 (by decide +kernel) (by decide +kernel)
theorem w_1111 : (Cond.fieldLink "RingInSandModel" (167 : Nat) "RingInSandModel" "open" "I") ∈ TG := tg_mem 1111 (by decide +kernel) (by decide +kernel)
theorem w_1112 : (Cond.fieldLink "RingInSandModel" (156 : Nat) "RingInSandModel" "bad" "Z") ∈ TG := tg_mem 1112 (by decide +kernel) (by decide +kernel)
theorem w_1113 : (Cond.fieldLink "RingInSandModel" (160 : Nat) "RingInSandModel" "fault" "I") ∈ TG := tg_mem 1113 (by decide +kernel) (by decide +kernel)
theorem w_1114 : (Cond.fieldLink "RingInSandModel" (280 : Nat) "RingInSandModel" "bestLooker" "I") ∈ TG := tg_mem 1114 (by decide +kernel) (by decide +kernel)
theorem w_1115 : (Cond.fieldLink "RingInSandModel" (283 : Nat) "RingInSandModel" "bestCell" "I") ∈ TG := tg_mem 1115 (by decide +kernel) (by decide +kernel)
theorem w_1116 : (Cond.fieldLink "RingInSandModel" (286 : Nat) "RingInSandModel" "bestPer" "I") ∈ TG := tg_mem 1116 (by decide +kernel) (by decide +kernel)
theorem w_1117 : (Cond.fieldLink "RingInSandModel" (38 : Nat) "RingInSandModel" "firstPer" "[I") ∈ TG := tg_mem 1117 (by decide +kernel) (by decide +kernel)
theorem w_1118 : (Cond.fieldLink "RingInSandModel" (41 : Nat) "RingInSandModel" "firstCell" "[I") ∈ TG := tg_mem 1118 (by decide +kernel) (by decide +kernel)
theorem w_1119 : (Cond.fieldLink "RingInSandModel" (44 : Nat) "RingInSandModel" "oddsWas" "[I") ∈ TG := tg_mem 1119 (by decide +kernel) (by decide +kernel)
theorem w_1120 : (Cond.fieldLink "RingInSandModel" (47 : Nat) "RingInSandModel" "treadsWas" "[I") ∈ TG := tg_mem 1120 (by decide +kernel) (by decide +kernel)
theorem w_1121 : (Cond.fieldLink "RingInSandModel" (294 : Nat) "RingInSandModel" "hourWas" "I") ∈ TG := tg_mem 1121 (by decide +kernel) (by decide +kernel)
theorem w_1122 : (Cond.fieldLink "RingInSandModel" (297 : Nat) "RingInSandModel" "minuteWas" "I") ∈ TG := tg_mem 1122 (by decide +kernel) (by decide +kernel)
theorem w_1123 : (Cond.fieldLink "RingInSandModel" (50 : Nat) "RingInSandModel" "planCell" "[I") ∈ TG := tg_mem 1123 (by decide +kernel) (by decide +kernel)
theorem w_1124 : (Cond.fieldLink "RingInSandModel" (53 : Nat) "RingInSandModel" "planGain" "[I") ∈ TG := tg_mem 1124 (by decide +kernel) (by decide +kernel)
theorem w_1125 : (Cond.fieldLink "RingInSandModel" (303 : Nat) "RingInSandModel" "planLooks" "I") ∈ TG := tg_mem 1125 (by decide +kernel) (by decide +kernel)
theorem w_1126 : (Cond.fieldLink "RingInSandModel" (306 : Nat) "RingInSandModel" "planTakes" "I") ∈ TG := tg_mem 1126 (by decide +kernel) (by decide +kernel)
theorem w_1127 : (Cond.fieldLink "RingInSandModel" (343 : Nat) "RingInSandModel" "judgedGain" "I") ∈ TG := tg_mem 1127 (by decide +kernel) (by decide +kernel)
theorem w_1128 : (Cond.fieldLink "RingInSandModel" (56 : Nat) "RingInSandModel" "oddsKept" "[I") ∈ TG := tg_mem 1128 (by decide +kernel) (by decide +kernel)
theorem w_1129 : (Cond.fieldLink "RingInSandModel" (59 : Nat) "RingInSandModel" "treadsKept" "[I") ∈ TG := tg_mem 1129 (by decide +kernel) (by decide +kernel)
theorem w_1130 : (Cond.fieldLink "RingInSandModel" (62 : Nat) "RingInSandModel" "hourKept" "I") ∈ TG := tg_mem 1130 (by decide +kernel) (by decide +kernel)
theorem w_1131 : (Cond.fieldLink "RingInSandModel" (353 : Nat) "RingInSandModel" "minuteKept" "I") ∈ TG := tg_mem 1131 (by decide +kernel) (by decide +kernel)
theorem w_1132 : (Cond.fieldLink "RingInSandModel" (356 : Nat) "RingInSandModel" "bagKept" "I") ∈ TG := tg_mem 1132 (by decide +kernel) (by decide +kernel)
theorem w_1133 : (Cond.fieldLink "RingInSandModel" (359 : Nat) "RingInSandModel" "ruleKept" "I") ∈ TG := tg_mem 1133 (by decide +kernel) (by decide +kernel)
theorem w_1134 : (Cond.fieldLink "RingInSandModel" (65 : Nat) "RingInSandModel" "isThere" "[Z") ∈ TG := tg_mem 1134 (by decide +kernel) (by decide +kernel)
theorem w_1135 : (Cond.fieldLink "RingInSandModel" (69 : Nat) "RingInSandModel" "sorts" "[I") ∈ TG := tg_mem 1135 (by decide +kernel) (by decide +kernel)
theorem w_1136 : (Cond.fieldLink "RingInSandModel" (72 : Nat) "RingInSandModel" "sheetSize" "[I") ∈ TG := tg_mem 1136 (by decide +kernel) (by decide +kernel)
theorem w_1137 : (Cond.fieldLink "RingInSandModel" (75 : Nat) "RingInSandModel" "items" "[I") ∈ TG := tg_mem 1137 (by decide +kernel) (by decide +kernel)
theorem w_1247 : (Cond.arrayClass FieldType.boolean) ∈ TG := tg_mem 1247 (by decide +kernel) (by decide +kernel)
theorem w_1248 : (Cond.methodLink "RingInSandLaw" (17 : Nat) ({ cls := "RingInSandModel", name := "set", desc := "(III)I" } : MethodName)) ∈ TG := tg_mem 1248 (by decide +kernel) (by decide +kernel)
theorem w_1249 : (Cond.instanceMethod ({ cls := "RingInSandModel", name := "set", desc := "(III)I" } : MethodName)) ∈ TG := tg_mem 1249 (by decide +kernel) (by decide +kernel)
theorem w_1250 : (Cond.selects "RingInSandModel" ({ cls := "RingInSandModel", name := "set", desc := "(III)I" } : MethodName) ({ cls := "RingInSandModel", name := "set", desc := "(III)I" } : MethodName)) ∈ TG := tg_mem 1250 (by decide +kernel) (by decide +kernel)
theorem w_1251 : (Cond.code ({ cls := "RingInSandModel", name := "set", desc := "(III)I" } : MethodName) prog_14_method_8_code (5 : Nat) (Option.some FieldType.int)) ∈ TG := tg_mem 1251 (by decide +kernel) (by decide +kernel)
theorem w_1252 : (Cond.constantLong "RingInSandModel" (94 : Nat) (4 : Int64)) ∈ TG := tg_mem 1252 (by decide +kernel) (by decide +kernel)
theorem w_1253 : (Cond.methodLink "RingInSandModel" (87 : Nat) ({ cls := "RingInSandModel", name := "in", desc := "(JJJ)Z" } : MethodName)) ∈ TG := tg_mem 1253 (by decide +kernel) (by decide +kernel)
theorem w_1254 : (Cond.static ({ cls := "RingInSandModel", name := "in", desc := "(JJJ)Z" } : MethodName)) ∈ TG := tg_mem 1254 (by decide +kernel) (by decide +kernel)
theorem w_1255 : (Cond.code ({ cls := "RingInSandModel", name := "in", desc := "(JJJ)Z" } : MethodName) prog_14_method_2_code (6 : Nat) (Option.some FieldType.boolean)) ∈ TG := tg_mem 1255 (by decide +kernel) (by decide +kernel)
theorem w_1256 : (Cond.methodLink "RingInSandModel" (96 : Nat) ({ cls := "RingInSandModel", name := "isCell", desc := "(I)Z" } : MethodName)) ∈ TG := tg_mem 1256 (by decide +kernel) (by decide +kernel)
theorem w_1257 : (Cond.static ({ cls := "RingInSandModel", name := "isCell", desc := "(I)Z" } : MethodName)) ∈ TG := tg_mem 1257 (by decide +kernel) (by decide +kernel)
theorem w_1258 : (Cond.code ({ cls := "RingInSandModel", name := "isCell", desc := "(I)Z" } : MethodName) prog_14_method_6_code (1 : Nat) (Option.some FieldType.boolean)) ∈ TG := tg_mem 1258 (by decide +kernel) (by decide +kernel)
theorem w_1259 : (Cond.constantLong "RingInSandModel" (85 : Nat) (47 : Int64)) ∈ TG := tg_mem 1259 (by decide +kernel) (by decide +kernel)
theorem w_1260 : (Cond.constantLong "RingInSandModel" (100 : Nat) (99 : Int64)) ∈ TG := tg_mem 1260 (by decide +kernel) (by decide +kernel)
theorem w_1261 : (Cond.constantLong "RingInSandModel" (102 : Nat) (23 : Int64)) ∈ TG := tg_mem 1261 (by decide +kernel) (by decide +kernel)
theorem w_1262 : (Cond.constantLong "RingInSandModel" (104 : Nat) (59 : Int64)) ∈ TG := tg_mem 1262 (by decide +kernel) (by decide +kernel)
theorem w_1263 : (Cond.constantLong "RingInSandModel" (106 : Nat) (999999 : Int64)) ∈ TG := tg_mem 1263 (by decide +kernel) (by decide +kernel)
theorem w_1264 : (Cond.methodLink "RingInSandLaw" (26 : Nat) ({ cls := "RingInSandModel", name := "looker", desc := "(II)I" } : MethodName)) ∈ TG := tg_mem 1264 (by decide +kernel) (by decide +kernel)
theorem w_1265 : (Cond.instanceMethod ({ cls := "RingInSandModel", name := "looker", desc := "(II)I" } : MethodName)) ∈ TG := tg_mem 1265 (by decide +kernel) (by decide +kernel)
theorem w_1266 : (Cond.selects "RingInSandModel" ({ cls := "RingInSandModel", name := "looker", desc := "(II)I" } : MethodName) ({ cls := "RingInSandModel", name := "looker", desc := "(II)I" } : MethodName)) ∈ TG := tg_mem 1266 (by decide +kernel) (by decide +kernel)
theorem w_1267 : (Cond.code ({ cls := "RingInSandModel", name := "looker", desc := "(II)I" } : MethodName) prog_14_method_9_code (3 : Nat) (Option.some FieldType.int)) ∈ TG := tg_mem 1267 (by decide +kernel) (by decide +kernel)
theorem w_1268 : (Cond.constantLong "RingInSandModel" (114 : Nat) (5 : Int64)) ∈ TG := tg_mem 1268 (by decide +kernel) (by decide +kernel)
theorem w_1269 : (Cond.constantLong "RingInSandModel" (116 : Nat) (9 : Int64)) ∈ TG := tg_mem 1269 (by decide +kernel) (by decide +kernel)
theorem w_1270 : (Cond.methodLink "RingInSandLaw" (35 : Nat) ({ cls := "RingInSandModel", name := "feed", desc := "(I)I" } : MethodName)) ∈ TG := tg_mem 1270 (by decide +kernel) (by decide +kernel)
theorem w_1271 : (Cond.instanceMethod ({ cls := "RingInSandModel", name := "feed", desc := "(I)I" } : MethodName)) ∈ TG := tg_mem 1271 (by decide +kernel) (by decide +kernel)
theorem w_1272 : (Cond.selects "RingInSandModel" ({ cls := "RingInSandModel", name := "feed", desc := "(I)I" } : MethodName) ({ cls := "RingInSandModel", name := "feed", desc := "(I)I" } : MethodName)) ∈ TG := tg_mem 1272 (by decide +kernel) (by decide +kernel)
theorem w_1273 : (Cond.code ({ cls := "RingInSandModel", name := "feed", desc := "(I)I" } : MethodName) prog_14_method_10_code (2 : Nat) (Option.some FieldType.int)) ∈ TG := tg_mem 1273 (by decide +kernel) (by decide +kernel)
theorem w_1274 : (Cond.constantLong "RingInSandModel" (118 : Nat) (255 : Int64)) ∈ TG := tg_mem 1274 (by decide +kernel) (by decide +kernel)
theorem w_1275 : (Cond.methodLink "RingInSandLaw" (40 : Nat) ({ cls := "RingInSandModel", name := "text", desc := "()I" } : MethodName)) ∈ TG := tg_mem 1275 (by decide +kernel) (by decide +kernel)
theorem w_1276 : (Cond.instanceMethod ({ cls := "RingInSandModel", name := "text", desc := "()I" } : MethodName)) ∈ TG := tg_mem 1276 (by decide +kernel) (by decide +kernel)
theorem w_1277 : (Cond.selects "RingInSandModel" ({ cls := "RingInSandModel", name := "text", desc := "()I" } : MethodName) ({ cls := "RingInSandModel", name := "text", desc := "()I" } : MethodName)) ∈ TG := tg_mem 1277 (by decide +kernel) (by decide +kernel)
theorem w_1278 : (Cond.code ({ cls := "RingInSandModel", name := "text", desc := "()I" } : MethodName) prog_14_method_27_code (2 : Nat) (Option.some FieldType.int)) ∈ TG := tg_mem 1278 (by decide +kernel) (by decide +kernel)
theorem w_1279 : (Cond.methodLink "RingInSandModel" (235 : Nat) ({ cls := "RingInSandModel", name := "read", desc := "(II)I" } : MethodName)) ∈ TG := tg_mem 1279 (by decide +kernel) (by decide +kernel)
theorem w_1281 : (Cond.instanceMethod ({ cls := "RingInSandModel", name := "read", desc := "(II)I" } : MethodName)) ∈ TG := tg_mem 1281 (by decide +kernel) (by decide +kernel)
theorem w_1282 : (Cond.code ({ cls := "RingInSandModel", name := "read", desc := "(II)I" } : MethodName) prog_14_method_26_code (6 : Nat) (Option.some FieldType.int)) ∈ TG := tg_mem 1282 (by decide +kernel) (by decide +kernel)
theorem w_1283 : (Cond.methodLink "RingInSandModel" (173 : Nat) ({ cls := "RingInSandModel", name := "nextToken", desc := "()V" } : MethodName)) ∈ TG := tg_mem 1283 (by decide +kernel) (by decide +kernel)
theorem w_1285 : (Cond.instanceMethod ({ cls := "RingInSandModel", name := "nextToken", desc := "()V" } : MethodName)) ∈ TG := tg_mem 1285 (by decide +kernel) (by decide +kernel)
theorem w_1286 : (Cond.code ({ cls := "RingInSandModel", name := "nextToken", desc := "()V" } : MethodName) prog_14_method_12_code (3 : Nat) (Option.none : Option FieldType)) ∈ TG := tg_mem 1286 (by decide +kernel) (by decide +kernel)
theorem w_1287 : (Cond.methodLink "RingInSandModel" (132 : Nat) ({ cls := "RingInSandModel", name := "byteAt", desc := "(I)I" } : MethodName)) ∈ TG := tg_mem 1287 (by decide +kernel) (by decide +kernel)
theorem w_1289 : (Cond.instanceMethod ({ cls := "RingInSandModel", name := "byteAt", desc := "(I)I" } : MethodName)) ∈ TG := tg_mem 1289 (by decide +kernel) (by decide +kernel)
theorem w_1290 : (Cond.code ({ cls := "RingInSandModel", name := "byteAt", desc := "(I)I" } : MethodName) prog_14_method_11_code (2 : Nat) (Option.some FieldType.int)) ∈ TG := tg_mem 1290 (by decide +kernel) (by decide +kernel)
theorem w_1291 : (Cond.constantLong "RingInSandModel" (142 : Nat) (97 : Int64)) ∈ TG := tg_mem 1291 (by decide +kernel) (by decide +kernel)
theorem w_1292 : (Cond.constantLong "RingInSandModel" (144 : Nat) (122 : Int64)) ∈ TG := tg_mem 1292 (by decide +kernel) (by decide +kernel)
theorem w_1293 : (Cond.constantLong "RingInSandModel" (146 : Nat) (48 : Int64)) ∈ TG := tg_mem 1293 (by decide +kernel) (by decide +kernel)
theorem w_1294 : (Cond.constantLong "RingInSandModel" (148 : Nat) (57 : Int64)) ∈ TG := tg_mem 1294 (by decide +kernel) (by decide +kernel)
theorem w_1295 : (Cond.constantLong "RingInSandModel" (154 : Nat) (10 : Int64)) ∈ TG := tg_mem 1295 (by decide +kernel) (by decide +kernel)
theorem w_1296 : (Cond.methodLink "RingInSandModel" (176 : Nat) ({ cls := "RingInSandModel", name := "isWord", desc := "(IIIIIIII)Z" } : MethodName)) ∈ TG := tg_mem 1296 (by decide +kernel) (by decide +kernel)
theorem w_1298 : (Cond.instanceMethod ({ cls := "RingInSandModel", name := "isWord", desc := "(IIIIIIII)Z" } : MethodName)) ∈ TG := tg_mem 1298 (by decide +kernel) (by decide +kernel)
theorem w_1299 : (Cond.code ({ cls := "RingInSandModel", name := "isWord", desc := "(IIIIIIII)Z" } : MethodName) prog_14_method_15_code (9 : Nat) (Option.some FieldType.boolean)) ∈ TG := tg_mem 1299 (by decide +kernel) (by decide +kernel)
theorem w_1300 : (Cond.methodLink "RingInSandModel" (163 : Nat) ({ cls := "RingInSandModel", name := "isLetter", desc := "(II)Z" } : MethodName)) ∈ TG := tg_mem 1300 (by decide +kernel) (by decide +kernel)
theorem w_1302 : (Cond.instanceMethod ({ cls := "RingInSandModel", name := "isLetter", desc := "(II)Z" } : MethodName)) ∈ TG := tg_mem 1302 (by decide +kernel) (by decide +kernel)
theorem w_1303 : (Cond.code ({ cls := "RingInSandModel", name := "isLetter", desc := "(II)Z" } : MethodName) prog_14_method_14_code (3 : Nat) (Option.some FieldType.boolean)) ∈ TG := tg_mem 1303 (by decide +kernel) (by decide +kernel)
theorem w_1304 : (Cond.methodLink "RingInSandModel" (231 : Nat) ({ cls := "RingInSandModel", name := "part", desc := "(Z)I" } : MethodName)) ∈ TG := tg_mem 1304 (by decide +kernel) (by decide +kernel)
theorem w_1306 : (Cond.instanceMethod ({ cls := "RingInSandModel", name := "part", desc := "(Z)I" } : MethodName)) ∈ TG := tg_mem 1306 (by decide +kernel) (by decide +kernel)
theorem w_1307 : (Cond.code ({ cls := "RingInSandModel", name := "part", desc := "(Z)I" } : MethodName) prog_14_method_25_code (3 : Nat) (Option.some FieldType.int)) ∈ TG := tg_mem 1307 (by decide +kernel) (by decide +kernel)
theorem w_1308 : (Cond.methodLink "RingInSandModel" (170 : Nat) ({ cls := "RingInSandModel", name := "fail", desc := "()V" } : MethodName)) ∈ TG := tg_mem 1308 (by decide +kernel) (by decide +kernel)
theorem w_1310 : (Cond.instanceMethod ({ cls := "RingInSandModel", name := "fail", desc := "()V" } : MethodName)) ∈ TG := tg_mem 1310 (by decide +kernel) (by decide +kernel)
theorem w_1311 : (Cond.code ({ cls := "RingInSandModel", name := "fail", desc := "()V" } : MethodName) prog_14_method_13_code (1 : Nat) (Option.none : Option FieldType)) ∈ TG := tg_mem 1311 (by decide +kernel) (by decide +kernel)
theorem w_1312 : (Cond.methodLink "RingInSandModel" (209 : Nat) ({ cls := "RingInSandModel", name := "either", desc := "()I" } : MethodName)) ∈ TG := tg_mem 1312 (by decide +kernel) (by decide +kernel)
theorem w_1314 : (Cond.instanceMethod ({ cls := "RingInSandModel", name := "either", desc := "()I" } : MethodName)) ∈ TG := tg_mem 1314 (by decide +kernel) (by decide +kernel)
theorem w_1315 : (Cond.code ({ cls := "RingInSandModel", name := "either", desc := "()I" } : MethodName) prog_14_method_24_code (3 : Nat) (Option.some FieldType.int)) ∈ TG := tg_mem 1315 (by decide +kernel) (by decide +kernel)
theorem w_1316 : (Cond.methodLink "RingInSandModel" (228 : Nat) ({ cls := "RingInSandModel", name := "both", desc := "()I" } : MethodName)) ∈ TG := tg_mem 1316 (by decide +kernel) (by decide +kernel)
theorem w_1318 : (Cond.instanceMethod ({ cls := "RingInSandModel", name := "both", desc := "()I" } : MethodName)) ∈ TG := tg_mem 1318 (by decide +kernel) (by decide +kernel)
theorem w_1319 : (Cond.code ({ cls := "RingInSandModel", name := "both", desc := "()I" } : MethodName) prog_14_method_23_code (3 : Nat) (Option.some FieldType.int)) ∈ TG := tg_mem 1319 (by decide +kernel) (by decide +kernel)
theorem w_1320 : (Cond.methodLink "RingInSandModel" (220 : Nat) ({ cls := "RingInSandModel", name := "not", desc := "()I" } : MethodName)) ∈ TG := tg_mem 1320 (by decide +kernel) (by decide +kernel)
theorem w_1322 : (Cond.instanceMethod ({ cls := "RingInSandModel", name := "not", desc := "()I" } : MethodName)) ∈ TG := tg_mem 1322 (by decide +kernel) (by decide +kernel)
theorem w_1323 : (Cond.code ({ cls := "RingInSandModel", name := "not", desc := "()I" } : MethodName) prog_14_method_22_code (4 : Nat) (Option.some FieldType.int)) ∈ TG := tg_mem 1323 (by decide +kernel) (by decide +kernel)
theorem w_1324 : (Cond.methodLink "RingInSandModel" (201 : Nat) ({ cls := "RingInSandModel", name := "opens", desc := "()Z" } : MethodName)) ∈ TG := tg_mem 1324 (by decide +kernel) (by decide +kernel)
theorem w_1326 : (Cond.instanceMethod ({ cls := "RingInSandModel", name := "opens", desc := "()Z" } : MethodName)) ∈ TG := tg_mem 1326 (by decide +kernel) (by decide +kernel)
theorem w_1327 : (Cond.code ({ cls := "RingInSandModel", name := "opens", desc := "()Z" } : MethodName) prog_14_method_17_code (1 : Nat) (Option.some FieldType.boolean)) ∈ TG := tg_mem 1327 (by decide +kernel) (by decide +kernel)
theorem w_1328 : (Cond.methodLink "RingInSandModel" (223 : Nat) ({ cls := "RingInSandModel", name := "added", desc := "()I" } : MethodName)) ∈ TG := tg_mem 1328 (by decide +kernel) (by decide +kernel)
theorem w_1330 : (Cond.instanceMethod ({ cls := "RingInSandModel", name := "added", desc := "()I" } : MethodName)) ∈ TG := tg_mem 1330 (by decide +kernel) (by decide +kernel)
theorem w_1331 : (Cond.code ({ cls := "RingInSandModel", name := "added", desc := "()I" } : MethodName) prog_14_method_21_code (4 : Nat) (Option.some FieldType.int)) ∈ TG := tg_mem 1331 (by decide +kernel) (by decide +kernel)
theorem w_1332 : (Cond.methodLink "RingInSandModel" (215 : Nat) ({ cls := "RingInSandModel", name := "term", desc := "()I" } : MethodName)) ∈ TG := tg_mem 1332 (by decide +kernel) (by decide +kernel)
theorem w_1334 : (Cond.instanceMethod ({ cls := "RingInSandModel", name := "term", desc := "()I" } : MethodName)) ∈ TG := tg_mem 1334 (by decide +kernel) (by decide +kernel)
theorem w_1335 : (Cond.code ({ cls := "RingInSandModel", name := "term", desc := "()I" } : MethodName) prog_14_method_20_code (2 : Nat) (Option.some FieldType.int)) ∈ TG := tg_mem 1335 (by decide +kernel) (by decide +kernel)
theorem w_1336 : (Cond.methodLink "RingInSandModel" (205 : Nat) ({ cls := "RingInSandModel", name := "atom", desc := "()I" } : MethodName)) ∈ TG := tg_mem 1336 (by decide +kernel) (by decide +kernel)
theorem w_1338 : (Cond.instanceMethod ({ cls := "RingInSandModel", name := "atom", desc := "()I" } : MethodName)) ∈ TG := tg_mem 1338 (by decide +kernel) (by decide +kernel)
theorem w_1339 : (Cond.code ({ cls := "RingInSandModel", name := "atom", desc := "()I" } : MethodName) prog_14_method_19_code (2 : Nat) (Option.some FieldType.int)) ∈ TG := tg_mem 1339 (by decide +kernel) (by decide +kernel)
theorem w_1340 : (Cond.methodLink "RingInSandModel" (198 : Nat) ({ cls := "RingInSandModel", name := "isSign", desc := "(I)Z" } : MethodName)) ∈ TG := tg_mem 1340 (by decide +kernel) (by decide +kernel)
theorem w_1342 : (Cond.instanceMethod ({ cls := "RingInSandModel", name := "isSign", desc := "(I)Z" } : MethodName)) ∈ TG := tg_mem 1342 (by decide +kernel) (by decide +kernel)
theorem w_1343 : (Cond.code ({ cls := "RingInSandModel", name := "isSign", desc := "(I)Z" } : MethodName) prog_14_method_16_code (2 : Nat) (Option.some FieldType.boolean)) ∈ TG := tg_mem 1343 (by decide +kernel) (by decide +kernel)
theorem w_1344 : (Cond.methodLink "RingInSandModel" (212 : Nat) ({ cls := "RingInSandModel", name := "name", desc := "()I" } : MethodName)) ∈ TG := tg_mem 1344 (by decide +kernel) (by decide +kernel)
theorem w_1346 : (Cond.instanceMethod ({ cls := "RingInSandModel", name := "name", desc := "()I" } : MethodName)) ∈ TG := tg_mem 1346 (by decide +kernel) (by decide +kernel)
theorem w_1347 : (Cond.code ({ cls := "RingInSandModel", name := "name", desc := "()I" } : MethodName) prog_14_method_18_code (1 : Nat) (Option.some FieldType.int)) ∈ TG := tg_mem 1347 (by decide +kernel) (by decide +kernel)
theorem w_1348 : (Cond.constantLong "RingInSandModel" (218 : Nat) (43 : Int64)) ∈ TG := tg_mem 1348 (by decide +kernel) (by decide +kernel)
theorem w_1349 : (Cond.constantLong "RingInSandModel" (226 : Nat) (60 : Int64)) ∈ TG := tg_mem 1349 (by decide +kernel) (by decide +kernel)
theorem w_1350 : (Cond.methodLink "RingInSandLaw" (44 : Nat) ({ cls := "RingInSandModel", name := "force", desc := "(I)I" } : MethodName)) ∈ TG := tg_mem 1350 (by decide +kernel) (by decide +kernel)
theorem w_1351 : (Cond.instanceMethod ({ cls := "RingInSandModel", name := "force", desc := "(I)I" } : MethodName)) ∈ TG := tg_mem 1351 (by decide +kernel) (by decide +kernel)
theorem w_1352 : (Cond.selects "RingInSandModel" ({ cls := "RingInSandModel", name := "force", desc := "(I)I" } : MethodName) ({ cls := "RingInSandModel", name := "force", desc := "(I)I" } : MethodName)) ∈ TG := tg_mem 1352 (by decide +kernel) (by decide +kernel)
theorem w_1353 : (Cond.code ({ cls := "RingInSandModel", name := "force", desc := "(I)I" } : MethodName) prog_14_method_28_code (3 : Nat) (Option.some FieldType.int)) ∈ TG := tg_mem 1353 (by decide +kernel) (by decide +kernel)
theorem w_1354 : (Cond.methodLink "RingInSandLaw" (22 : Nat) ({ cls := "RingInSandModel", name := "told", desc := "(II)I" } : MethodName)) ∈ TG := tg_mem 1354 (by decide +kernel) (by decide +kernel)
theorem w_1355 : (Cond.instanceMethod ({ cls := "RingInSandModel", name := "told", desc := "(II)I" } : MethodName)) ∈ TG := tg_mem 1355 (by decide +kernel) (by decide +kernel)
theorem w_1356 : (Cond.selects "RingInSandModel" ({ cls := "RingInSandModel", name := "told", desc := "(II)I" } : MethodName) ({ cls := "RingInSandModel", name := "told", desc := "(II)I" } : MethodName)) ∈ TG := tg_mem 1356 (by decide +kernel) (by decide +kernel)
theorem w_1357 : (Cond.code ({ cls := "RingInSandModel", name := "told", desc := "(II)I" } : MethodName) prog_14_method_33_code (3 : Nat) (Option.some FieldType.int)) ∈ TG := tg_mem 1357 (by decide +kernel) (by decide +kernel)
theorem w_1358 : (Cond.methodLink "RingInSandModel" (249 : Nat) ({ cls := "RingInSandModel", name := "deep", desc := "(I)I" } : MethodName)) ∈ TG := tg_mem 1358 (by decide +kernel) (by decide +kernel)
theorem w_1360 : (Cond.instanceMethod ({ cls := "RingInSandModel", name := "deep", desc := "(I)I" } : MethodName)) ∈ TG := tg_mem 1360 (by decide +kernel) (by decide +kernel)
theorem w_1361 : (Cond.code ({ cls := "RingInSandModel", name := "deep", desc := "(I)I" } : MethodName) prog_14_method_30_code (2 : Nat) (Option.some FieldType.int)) ∈ TG := tg_mem 1361 (by decide +kernel) (by decide +kernel)
theorem w_1362 : (Cond.methodLink "RingInSandModel" (242 : Nat) ({ cls := "RingInSandModel", name := "says", desc := "(III)I" } : MethodName)) ∈ TG := tg_mem 1362 (by decide +kernel) (by decide +kernel)
theorem w_1364 : (Cond.instanceMethod ({ cls := "RingInSandModel", name := "says", desc := "(III)I" } : MethodName)) ∈ TG := tg_mem 1364 (by decide +kernel) (by decide +kernel)
theorem w_1365 : (Cond.code ({ cls := "RingInSandModel", name := "says", desc := "(III)I" } : MethodName) prog_14_method_29_code (5 : Nat) (Option.some FieldType.int)) ∈ TG := tg_mem 1365 (by decide +kernel) (by decide +kernel)
theorem w_1366 : (Cond.methodLink "RingInSandModel" (246 : Nat) ({ cls := "RingInSandModel", name := "within", desc := "(III)I" } : MethodName)) ∈ TG := tg_mem 1366 (by decide +kernel) (by decide +kernel)
theorem w_1367 : (Cond.static ({ cls := "RingInSandModel", name := "within", desc := "(III)I" } : MethodName)) ∈ TG := tg_mem 1367 (by decide +kernel) (by decide +kernel)
theorem w_1368 : (Cond.code ({ cls := "RingInSandModel", name := "within", desc := "(III)I" } : MethodName) prog_14_method_3_code (3 : Nat) (Option.some FieldType.int)) ∈ TG := tg_mem 1368 (by decide +kernel) (by decide +kernel)
theorem w_1369 : (Cond.methodLink "RingInSandModel" (252 : Nat) ({ cls := "RingInSandModel", name := "shine", desc := "(I)I" } : MethodName)) ∈ TG := tg_mem 1369 (by decide +kernel) (by decide +kernel)
theorem w_1371 : (Cond.instanceMethod ({ cls := "RingInSandModel", name := "shine", desc := "(I)I" } : MethodName)) ∈ TG := tg_mem 1371 (by decide +kernel) (by decide +kernel)
theorem w_1372 : (Cond.code ({ cls := "RingInSandModel", name := "shine", desc := "(I)I" } : MethodName) prog_14_method_32_code (2 : Nat) (Option.some FieldType.int)) ∈ TG := tg_mem 1372 (by decide +kernel) (by decide +kernel)
theorem w_1373 : (Cond.methodLink "RingInSandModel" (255 : Nat) ({ cls := "RingInSandModel", name := "isUnder", desc := "(I)Z" } : MethodName)) ∈ TG := tg_mem 1373 (by decide +kernel) (by decide +kernel)
theorem w_1375 : (Cond.instanceMethod ({ cls := "RingInSandModel", name := "isUnder", desc := "(I)Z" } : MethodName)) ∈ TG := tg_mem 1375 (by decide +kernel) (by decide +kernel)
theorem w_1376 : (Cond.code ({ cls := "RingInSandModel", name := "isUnder", desc := "(I)Z" } : MethodName) prog_14_method_31_code (2 : Nat) (Option.some FieldType.boolean)) ∈ TG := tg_mem 1376 (by decide +kernel) (by decide +kernel)
theorem w_1377 : (Cond.methodLink "RingInSandLaw" (30 : Nat) ({ cls := "RingInSandModel", name := "asks", desc := "(III)I" } : MethodName)) ∈ TG := tg_mem 1377 (by decide +kernel) (by decide +kernel)
theorem w_1378 : (Cond.instanceMethod ({ cls := "RingInSandModel", name := "asks", desc := "(III)I" } : MethodName)) ∈ TG := tg_mem 1378 (by decide +kernel) (by decide +kernel)
theorem w_1379 : (Cond.selects "RingInSandModel" ({ cls := "RingInSandModel", name := "asks", desc := "(III)I" } : MethodName) ({ cls := "RingInSandModel", name := "asks", desc := "(III)I" } : MethodName)) ∈ TG := tg_mem 1379 (by decide +kernel) (by decide +kernel)
theorem w_1380 : (Cond.code ({ cls := "RingInSandModel", name := "asks", desc := "(III)I" } : MethodName) prog_14_method_39_code (4 : Nat) (Option.some FieldType.int)) ∈ TG := tg_mem 1380 (by decide +kernel) (by decide +kernel)
theorem w_1381 : (Cond.methodLink "RingInSandModel" (264 : Nat) ({ cls := "RingInSandModel", name := "isLooker", desc := "(I)Z" } : MethodName)) ∈ TG := tg_mem 1381 (by decide +kernel) (by decide +kernel)
theorem w_1383 : (Cond.instanceMethod ({ cls := "RingInSandModel", name := "isLooker", desc := "(I)Z" } : MethodName)) ∈ TG := tg_mem 1383 (by decide +kernel) (by decide +kernel)
theorem w_1384 : (Cond.code ({ cls := "RingInSandModel", name := "isLooker", desc := "(I)Z" } : MethodName) prog_14_method_7_code (2 : Nat) (Option.some FieldType.boolean)) ∈ TG := tg_mem 1384 (by decide +kernel) (by decide +kernel)
theorem w_1385 : (Cond.methodLink "RingInSandModel" (261 : Nat) ({ cls := "RingInSandModel", name := "good", desc := "(II)I" } : MethodName)) ∈ TG := tg_mem 1385 (by decide +kernel) (by decide +kernel)
theorem w_1387 : (Cond.instanceMethod ({ cls := "RingInSandModel", name := "good", desc := "(II)I" } : MethodName)) ∈ TG := tg_mem 1387 (by decide +kernel) (by decide +kernel)
theorem w_1388 : (Cond.code ({ cls := "RingInSandModel", name := "good", desc := "(II)I" } : MethodName) prog_14_method_37_code (3 : Nat) (Option.some FieldType.int)) ∈ TG := tg_mem 1388 (by decide +kernel) (by decide +kernel)
theorem w_1389 : (Cond.methodLink "RingInSandModel" (258 : Nat) ({ cls := "RingInSandModel", name := "finds", desc := "(III)I" } : MethodName)) ∈ TG := tg_mem 1389 (by decide +kernel) (by decide +kernel)
theorem w_1391 : (Cond.instanceMethod ({ cls := "RingInSandModel", name := "finds", desc := "(III)I" } : MethodName)) ∈ TG := tg_mem 1391 (by decide +kernel) (by decide +kernel)
theorem w_1392 : (Cond.code ({ cls := "RingInSandModel", name := "finds", desc := "(III)I" } : MethodName) prog_14_method_34_code (7 : Nat) (Option.some FieldType.int)) ∈ TG := tg_mem 1392 (by decide +kernel) (by decide +kernel)
theorem w_1393 : (Cond.methodLink "RingInSandModel" (267 : Nat) ({ cls := "RingInSandModel", name := "takes", desc := "(I)I" } : MethodName)) ∈ TG := tg_mem 1393 (by decide +kernel) (by decide +kernel)
theorem w_1395 : (Cond.instanceMethod ({ cls := "RingInSandModel", name := "takes", desc := "(I)I" } : MethodName)) ∈ TG := tg_mem 1395 (by decide +kernel) (by decide +kernel)
theorem w_1396 : (Cond.code ({ cls := "RingInSandModel", name := "takes", desc := "(I)I" } : MethodName) prog_14_method_35_code (3 : Nat) (Option.some FieldType.int)) ∈ TG := tg_mem 1396 (by decide +kernel) (by decide +kernel)
theorem w_1397 : (Cond.methodLink "RingInSandModel" (270 : Nat) ({ cls := "RingInSandModel", name := "stamps", desc := "(I)I" } : MethodName)) ∈ TG := tg_mem 1397 (by decide +kernel) (by decide +kernel)
theorem w_1399 : (Cond.instanceMethod ({ cls := "RingInSandModel", name := "stamps", desc := "(I)I" } : MethodName)) ∈ TG := tg_mem 1399 (by decide +kernel) (by decide +kernel)
theorem w_1400 : (Cond.code ({ cls := "RingInSandModel", name := "stamps", desc := "(I)I" } : MethodName) prog_14_method_36_code (3 : Nat) (Option.some FieldType.int)) ∈ TG := tg_mem 1400 (by decide +kernel) (by decide +kernel)
theorem w_1401 : (Cond.methodLink "RingInSandModel" (273 : Nat) ({ cls := "RingInSandModel", name := "gain", desc := "(II)I" } : MethodName)) ∈ TG := tg_mem 1401 (by decide +kernel) (by decide +kernel)
theorem w_1403 : (Cond.instanceMethod ({ cls := "RingInSandModel", name := "gain", desc := "(II)I" } : MethodName)) ∈ TG := tg_mem 1403 (by decide +kernel) (by decide +kernel)
theorem w_1404 : (Cond.code ({ cls := "RingInSandModel", name := "gain", desc := "(II)I" } : MethodName) prog_14_method_38_code (3 : Nat) (Option.some FieldType.int)) ∈ TG := tg_mem 1404 (by decide +kernel) (by decide +kernel)
theorem w_1405 : (Cond.methodLink "RingInSandLaw" (48 : Nat) ({ cls := "RingInSandModel", name := "look", desc := "(II)I" } : MethodName)) ∈ TG := tg_mem 1405 (by decide +kernel) (by decide +kernel)
theorem w_1406 : (Cond.instanceMethod ({ cls := "RingInSandModel", name := "look", desc := "(II)I" } : MethodName)) ∈ TG := tg_mem 1406 (by decide +kernel) (by decide +kernel)
theorem w_1407 : (Cond.selects "RingInSandModel" ({ cls := "RingInSandModel", name := "look", desc := "(II)I" } : MethodName) ({ cls := "RingInSandModel", name := "look", desc := "(II)I" } : MethodName)) ∈ TG := tg_mem 1407 (by decide +kernel) (by decide +kernel)
theorem w_1408 : (Cond.code ({ cls := "RingInSandModel", name := "look", desc := "(II)I" } : MethodName) prog_14_method_41_code (3 : Nat) (Option.some FieldType.int)) ∈ TG := tg_mem 1408 (by decide +kernel) (by decide +kernel)
theorem w_1409 : (Cond.methodLink "RingInSandModel" (276 : Nat) ({ cls := "RingInSandModel", name := "looks", desc := "(II)V" } : MethodName)) ∈ TG := tg_mem 1409 (by decide +kernel) (by decide +kernel)
theorem w_1411 : (Cond.instanceMethod ({ cls := "RingInSandModel", name := "looks", desc := "(II)V" } : MethodName)) ∈ TG := tg_mem 1411 (by decide +kernel) (by decide +kernel)
theorem w_1412 : (Cond.code ({ cls := "RingInSandModel", name := "looks", desc := "(II)V" } : MethodName) prog_14_method_40_code (3 : Nat) (Option.none : Option FieldType)) ∈ TG := tg_mem 1412 (by decide +kernel) (by decide +kernel)
theorem w_1413 : (Cond.methodLink "RingInSandLaw" (52 : Nat) ({ cls := "RingInSandModel", name := "next", desc := "(I)I" } : MethodName)) ∈ TG := tg_mem 1413 (by decide +kernel) (by decide +kernel)
theorem w_1414 : (Cond.instanceMethod ({ cls := "RingInSandModel", name := "next", desc := "(I)I" } : MethodName)) ∈ TG := tg_mem 1414 (by decide +kernel) (by decide +kernel)
theorem w_1415 : (Cond.selects "RingInSandModel" ({ cls := "RingInSandModel", name := "next", desc := "(I)I" } : MethodName) ({ cls := "RingInSandModel", name := "next", desc := "(I)I" } : MethodName)) ∈ TG := tg_mem 1415 (by decide +kernel) (by decide +kernel)
theorem w_1416 : (Cond.code ({ cls := "RingInSandModel", name := "next", desc := "(I)I" } : MethodName) prog_14_method_43_code (2 : Nat) (Option.some FieldType.int)) ∈ TG := tg_mem 1416 (by decide +kernel) (by decide +kernel)
theorem w_1417 : (Cond.constantLong "RingInSandModel" (289 : Nat) (2 : Int64)) ∈ TG := tg_mem 1417 (by decide +kernel) (by decide +kernel)
theorem w_1418 : (Cond.methodLink "RingInSandModel" (291 : Nat) ({ cls := "RingInSandModel", name := "best", desc := "()V" } : MethodName)) ∈ TG := tg_mem 1418 (by decide +kernel) (by decide +kernel)
theorem w_1420 : (Cond.instanceMethod ({ cls := "RingInSandModel", name := "best", desc := "()V" } : MethodName)) ∈ TG := tg_mem 1420 (by decide +kernel) (by decide +kernel)
theorem w_1421 : (Cond.code ({ cls := "RingInSandModel", name := "best", desc := "()V" } : MethodName) prog_14_method_42_code (6 : Nat) (Option.none : Option FieldType)) ∈ TG := tg_mem 1421 (by decide +kernel) (by decide +kernel)
theorem w_1422 : (Cond.methodLink "RingInSandLaw" (64 : Nat) ({ cls := "RingInSandModel", name := "search", desc := "()I" } : MethodName)) ∈ TG := tg_mem 1422 (by decide +kernel) (by decide +kernel)
theorem w_1423 : (Cond.instanceMethod ({ cls := "RingInSandModel", name := "search", desc := "()I" } : MethodName)) ∈ TG := tg_mem 1423 (by decide +kernel) (by decide +kernel)
theorem w_1424 : (Cond.selects "RingInSandModel" ({ cls := "RingInSandModel", name := "search", desc := "()I" } : MethodName) ({ cls := "RingInSandModel", name := "search", desc := "()I" } : MethodName)) ∈ TG := tg_mem 1424 (by decide +kernel) (by decide +kernel)
theorem w_1425 : (Cond.code ({ cls := "RingInSandModel", name := "search", desc := "()I" } : MethodName) prog_14_method_44_code (2 : Nat) (Option.some FieldType.int)) ∈ TG := tg_mem 1425 (by decide +kernel) (by decide +kernel)
theorem w_1426 : (Cond.methodLink "RingInSandLaw" (56 : Nat) ({ cls := "RingInSandModel", name := "plan", desc := "(II)I" } : MethodName)) ∈ TG := tg_mem 1426 (by decide +kernel) (by decide +kernel)
theorem w_1427 : (Cond.instanceMethod ({ cls := "RingInSandModel", name := "plan", desc := "(II)I" } : MethodName)) ∈ TG := tg_mem 1427 (by decide +kernel) (by decide +kernel)
theorem w_1428 : (Cond.selects "RingInSandModel" ({ cls := "RingInSandModel", name := "plan", desc := "(II)I" } : MethodName) ({ cls := "RingInSandModel", name := "plan", desc := "(II)I" } : MethodName)) ∈ TG := tg_mem 1428 (by decide +kernel) (by decide +kernel)
theorem w_1429 : (Cond.code ({ cls := "RingInSandModel", name := "plan", desc := "(II)I" } : MethodName) prog_14_method_48_code (5 : Nat) (Option.some FieldType.int)) ∈ TG := tg_mem 1429 (by decide +kernel) (by decide +kernel)
theorem w_1430 : (Cond.constantLong "RingInSandModel" (312 : Nat) (20 : Int64)) ∈ TG := tg_mem 1430 (by decide +kernel) (by decide +kernel)
theorem w_1431 : (Cond.methodLink "RingInSandModel" (314 : Nat) ({ cls := "RingInSandModel", name := "plans", desc := "(I)V" } : MethodName)) ∈ TG := tg_mem 1431 (by decide +kernel) (by decide +kernel)
theorem w_1433 : (Cond.instanceMethod ({ cls := "RingInSandModel", name := "plans", desc := "(I)V" } : MethodName)) ∈ TG := tg_mem 1433 (by decide +kernel) (by decide +kernel)
theorem w_1434 : (Cond.code ({ cls := "RingInSandModel", name := "plans", desc := "(I)V" } : MethodName) prog_14_method_47_code (4 : Nat) (Option.none : Option FieldType)) ∈ TG := tg_mem 1434 (by decide +kernel) (by decide +kernel)
theorem w_1435 : (Cond.methodLink "RingInSandModel" (300 : Nat) ({ cls := "RingInSandModel", name := "laysAside", desc := "()V" } : MethodName)) ∈ TG := tg_mem 1435 (by decide +kernel) (by decide +kernel)
theorem w_1437 : (Cond.instanceMethod ({ cls := "RingInSandModel", name := "laysAside", desc := "()V" } : MethodName)) ∈ TG := tg_mem 1437 (by decide +kernel) (by decide +kernel)
theorem w_1438 : (Cond.code ({ cls := "RingInSandModel", name := "laysAside", desc := "()V" } : MethodName) prog_14_method_45_code (2 : Nat) (Option.none : Option FieldType)) ∈ TG := tg_mem 1438 (by decide +kernel) (by decide +kernel)
theorem w_1439 : (Cond.methodLink "RingInSandModel" (309 : Nat) ({ cls := "RingInSandModel", name := "laysBack", desc := "()V" } : MethodName)) ∈ TG := tg_mem 1439 (by decide +kernel) (by decide +kernel)
theorem w_1441 : (Cond.instanceMethod ({ cls := "RingInSandModel", name := "laysBack", desc := "()V" } : MethodName)) ∈ TG := tg_mem 1441 (by decide +kernel) (by decide +kernel)
theorem w_1442 : (Cond.code ({ cls := "RingInSandModel", name := "laysBack", desc := "()V" } : MethodName) prog_14_method_46_code (2 : Nat) (Option.none : Option FieldType)) ∈ TG := tg_mem 1442 (by decide +kernel) (by decide +kernel)
theorem w_1443 : (Cond.methodLink "RingInSandLaw" (60 : Nat) ({ cls := "RingInSandModel", name := "planned", desc := "(I)I" } : MethodName)) ∈ TG := tg_mem 1443 (by decide +kernel) (by decide +kernel)
theorem w_1444 : (Cond.instanceMethod ({ cls := "RingInSandModel", name := "planned", desc := "(I)I" } : MethodName)) ∈ TG := tg_mem 1444 (by decide +kernel) (by decide +kernel)
theorem w_1445 : (Cond.selects "RingInSandModel" ({ cls := "RingInSandModel", name := "planned", desc := "(I)I" } : MethodName) ({ cls := "RingInSandModel", name := "planned", desc := "(I)I" } : MethodName)) ∈ TG := tg_mem 1445 (by decide +kernel) (by decide +kernel)
theorem w_1446 : (Cond.code ({ cls := "RingInSandModel", name := "planned", desc := "(I)I" } : MethodName) prog_14_method_49_code (2 : Nat) (Option.some FieldType.int)) ∈ TG := tg_mem 1446 (by decide +kernel) (by decide +kernel)
theorem w_1447 : (Cond.constantLong "RingInSandModel" (318 : Nat) (19 : Int64)) ∈ TG := tg_mem 1447 (by decide +kernel) (by decide +kernel)
theorem w_1448 : (Cond.methodLink "RingInSandLaw" (68 : Nat) ({ cls := "RingInSandModel", name := "giveUp", desc := "(I)I" } : MethodName)) ∈ TG := tg_mem 1448 (by decide +kernel) (by decide +kernel)
theorem w_1449 : (Cond.instanceMethod ({ cls := "RingInSandModel", name := "giveUp", desc := "(I)I" } : MethodName)) ∈ TG := tg_mem 1449 (by decide +kernel) (by decide +kernel)
theorem w_1450 : (Cond.selects "RingInSandModel" ({ cls := "RingInSandModel", name := "giveUp", desc := "(I)I" } : MethodName) ({ cls := "RingInSandModel", name := "giveUp", desc := "(I)I" } : MethodName)) ∈ TG := tg_mem 1450 (by decide +kernel) (by decide +kernel)
theorem w_1451 : (Cond.code ({ cls := "RingInSandModel", name := "giveUp", desc := "(I)I" } : MethodName) prog_14_method_50_code (3 : Nat) (Option.some FieldType.int)) ∈ TG := tg_mem 1451 (by decide +kernel) (by decide +kernel)
theorem w_1452 : (Cond.methodLink "RingInSandLaw" (73 : Nat) ({ cls := "RingInSandModel", name := "likely", desc := "(II)J" } : MethodName)) ∈ TG := tg_mem 1452 (by decide +kernel) (by decide +kernel)
theorem w_1453 : (Cond.instanceMethod ({ cls := "RingInSandModel", name := "likely", desc := "(II)J" } : MethodName)) ∈ TG := tg_mem 1453 (by decide +kernel) (by decide +kernel)
theorem w_1454 : (Cond.selects "RingInSandModel" ({ cls := "RingInSandModel", name := "likely", desc := "(II)J" } : MethodName) ({ cls := "RingInSandModel", name := "likely", desc := "(II)J" } : MethodName)) ∈ TG := tg_mem 1454 (by decide +kernel) (by decide +kernel)
theorem w_1455 : (Cond.code ({ cls := "RingInSandModel", name := "likely", desc := "(II)J" } : MethodName) prog_14_method_53_code (3 : Nat) (Option.some FieldType.long)) ∈ TG := tg_mem 1455 (by decide +kernel) (by decide +kernel)
theorem w_1456 : (Cond.methodLink "RingInSandModel" (320 : Nat) ({ cls := "RingInSandModel", name := "onCells", desc := "()I" } : MethodName)) ∈ TG := tg_mem 1456 (by decide +kernel) (by decide +kernel)
theorem w_1458 : (Cond.instanceMethod ({ cls := "RingInSandModel", name := "onCells", desc := "()I" } : MethodName)) ∈ TG := tg_mem 1458 (by decide +kernel) (by decide +kernel)
theorem w_1459 : (Cond.code ({ cls := "RingInSandModel", name := "onCells", desc := "()I" } : MethodName) prog_14_method_51_code (3 : Nat) (Option.some FieldType.int)) ∈ TG := tg_mem 1459 (by decide +kernel) (by decide +kernel)
theorem w_1460 : (Cond.methodLink "RingInSandModel" (323 : Nat) ({ cls := "RingInSandModel", name := "lowest", desc := "(JJI)J" } : MethodName)) ∈ TG := tg_mem 1460 (by decide +kernel) (by decide +kernel)
theorem w_1461 : (Cond.static ({ cls := "RingInSandModel", name := "lowest", desc := "(JJI)J" } : MethodName)) ∈ TG := tg_mem 1461 (by decide +kernel) (by decide +kernel)
theorem w_1462 : (Cond.code ({ cls := "RingInSandModel", name := "lowest", desc := "(JJI)J" } : MethodName) prog_14_method_52_code (11 : Nat) (Option.some FieldType.long)) ∈ TG := tg_mem 1462 (by decide +kernel) (by decide +kernel)
theorem w_1463 : (Cond.constantLong "RingInSandModel" (327 : Nat) (-4611686018427387904 : Int64)) ∈ TG := tg_mem 1463 (by decide +kernel) (by decide +kernel)
theorem w_1464 : (Cond.methodLink "RingInSandLaw" (78 : Nat) ({ cls := "RingInSandModel", name := "here", desc := "(I)J" } : MethodName)) ∈ TG := tg_mem 1464 (by decide +kernel) (by decide +kernel)
theorem w_1465 : (Cond.instanceMethod ({ cls := "RingInSandModel", name := "here", desc := "(I)J" } : MethodName)) ∈ TG := tg_mem 1465 (by decide +kernel) (by decide +kernel)
theorem w_1466 : (Cond.selects "RingInSandModel" ({ cls := "RingInSandModel", name := "here", desc := "(I)J" } : MethodName) ({ cls := "RingInSandModel", name := "here", desc := "(I)J" } : MethodName)) ∈ TG := tg_mem 1466 (by decide +kernel) (by decide +kernel)
theorem w_1467 : (Cond.code ({ cls := "RingInSandModel", name := "here", desc := "(I)J" } : MethodName) prog_14_method_54_code (2 : Nat) (Option.some FieldType.long)) ∈ TG := tg_mem 1467 (by decide +kernel) (by decide +kernel)
theorem w_1468 : (Cond.methodLink "RingInSandLaw" (82 : Nat) ({ cls := "RingInSandModel", name := "most", desc := "(I)I" } : MethodName)) ∈ TG := tg_mem 1468 (by decide +kernel) (by decide +kernel)
theorem w_1469 : (Cond.instanceMethod ({ cls := "RingInSandModel", name := "most", desc := "(I)I" } : MethodName)) ∈ TG := tg_mem 1469 (by decide +kernel) (by decide +kernel)
theorem w_1470 : (Cond.selects "RingInSandModel" ({ cls := "RingInSandModel", name := "most", desc := "(I)I" } : MethodName) ({ cls := "RingInSandModel", name := "most", desc := "(I)I" } : MethodName)) ∈ TG := tg_mem 1470 (by decide +kernel) (by decide +kernel)
theorem w_1471 : (Cond.code ({ cls := "RingInSandModel", name := "most", desc := "(I)I" } : MethodName) prog_14_method_55_code (5 : Nat) (Option.some FieldType.int)) ∈ TG := tg_mem 1471 (by decide +kernel) (by decide +kernel)
theorem w_1472 : (Cond.methodLink "RingInSandLaw" (86 : Nat) ({ cls := "RingInSandModel", name := "under", desc := "(I)I" } : MethodName)) ∈ TG := tg_mem 1472 (by decide +kernel) (by decide +kernel)
theorem w_1473 : (Cond.instanceMethod ({ cls := "RingInSandModel", name := "under", desc := "(I)I" } : MethodName)) ∈ TG := tg_mem 1473 (by decide +kernel) (by decide +kernel)
theorem w_1474 : (Cond.selects "RingInSandModel" ({ cls := "RingInSandModel", name := "under", desc := "(I)I" } : MethodName) ({ cls := "RingInSandModel", name := "under", desc := "(I)I" } : MethodName)) ∈ TG := tg_mem 1474 (by decide +kernel) (by decide +kernel)
theorem w_1475 : (Cond.code ({ cls := "RingInSandModel", name := "under", desc := "(I)I" } : MethodName) prog_14_method_56_code (4 : Nat) (Option.some FieldType.int)) ∈ TG := tg_mem 1475 (by decide +kernel) (by decide +kernel)
theorem w_1476 : (Cond.methodLink "RingInSandLaw" (90 : Nat) ({ cls := "RingInSandModel", name := "drowned", desc := "(I)I" } : MethodName)) ∈ TG := tg_mem 1476 (by decide +kernel) (by decide +kernel)
theorem w_1477 : (Cond.instanceMethod ({ cls := "RingInSandModel", name := "drowned", desc := "(I)I" } : MethodName)) ∈ TG := tg_mem 1477 (by decide +kernel) (by decide +kernel)
theorem w_1478 : (Cond.selects "RingInSandModel" ({ cls := "RingInSandModel", name := "drowned", desc := "(I)I" } : MethodName) ({ cls := "RingInSandModel", name := "drowned", desc := "(I)I" } : MethodName)) ∈ TG := tg_mem 1478 (by decide +kernel) (by decide +kernel)
theorem w_1479 : (Cond.code ({ cls := "RingInSandModel", name := "drowned", desc := "(I)I" } : MethodName) prog_14_method_58_code (6 : Nat) (Option.some FieldType.int)) ∈ TG := tg_mem 1479 (by decide +kernel) (by decide +kernel)
theorem w_1480 : (Cond.methodLink "RingInSandModel" (329 : Nat) ({ cls := "RingInSandModel", name := "drownedNow", desc := "()I" } : MethodName)) ∈ TG := tg_mem 1480 (by decide +kernel) (by decide +kernel)
theorem w_1482 : (Cond.instanceMethod ({ cls := "RingInSandModel", name := "drownedNow", desc := "()I" } : MethodName)) ∈ TG := tg_mem 1482 (by decide +kernel) (by decide +kernel)
theorem w_1483 : (Cond.code ({ cls := "RingInSandModel", name := "drownedNow", desc := "()I" } : MethodName) prog_14_method_57_code (3 : Nat) (Option.some FieldType.int)) ∈ TG := tg_mem 1483 (by decide +kernel) (by decide +kernel)
theorem w_1484 : (Cond.methodLink "RingInSandLaw" (94 : Nat) ({ cls := "RingInSandModel", name := "seen", desc := "(II)I" } : MethodName)) ∈ TG := tg_mem 1484 (by decide +kernel) (by decide +kernel)
theorem w_1485 : (Cond.instanceMethod ({ cls := "RingInSandModel", name := "seen", desc := "(II)I" } : MethodName)) ∈ TG := tg_mem 1485 (by decide +kernel) (by decide +kernel)
theorem w_1486 : (Cond.selects "RingInSandModel" ({ cls := "RingInSandModel", name := "seen", desc := "(II)I" } : MethodName) ({ cls := "RingInSandModel", name := "seen", desc := "(II)I" } : MethodName)) ∈ TG := tg_mem 1486 (by decide +kernel) (by decide +kernel)
theorem w_1487 : (Cond.code ({ cls := "RingInSandModel", name := "seen", desc := "(II)I" } : MethodName) prog_14_method_60_code (5 : Nat) (Option.some FieldType.int)) ∈ TG := tg_mem 1487 (by decide +kernel) (by decide +kernel)
theorem w_1488 : (Cond.methodLink "RingInSandModel" (333 : Nat) ({ cls := "RingInSandModel", name := "isSheet", desc := "(I)Z" } : MethodName)) ∈ TG := tg_mem 1488 (by decide +kernel) (by decide +kernel)
theorem w_1489 : (Cond.static ({ cls := "RingInSandModel", name := "isSheet", desc := "(I)Z" } : MethodName)) ∈ TG := tg_mem 1489 (by decide +kernel) (by decide +kernel)
theorem w_1490 : (Cond.code ({ cls := "RingInSandModel", name := "isSheet", desc := "(I)Z" } : MethodName) prog_14_method_70_code (1 : Nat) (Option.some FieldType.boolean)) ∈ TG := tg_mem 1490 (by decide +kernel) (by decide +kernel)
theorem w_1491 : (Cond.constantLong "RingInSandModel" (364 : Nat) (3 : Int64)) ∈ TG := tg_mem 1491 (by decide +kernel) (by decide +kernel)
theorem w_1492 : (Cond.constantLong "RingInSandModel" (336 : Nat) (9999 : Int64)) ∈ TG := tg_mem 1492 (by decide +kernel) (by decide +kernel)
theorem w_1493 : (Cond.methodLink "RingInSandModel" (338 : Nat) ({ cls := "RingInSandModel", name := "more", desc := "(II)V" } : MethodName)) ∈ TG := tg_mem 1493 (by decide +kernel) (by decide +kernel)
theorem w_1495 : (Cond.instanceMethod ({ cls := "RingInSandModel", name := "more", desc := "(II)V" } : MethodName)) ∈ TG := tg_mem 1495 (by decide +kernel) (by decide +kernel)
theorem w_1496 : (Cond.code ({ cls := "RingInSandModel", name := "more", desc := "(II)V" } : MethodName) prog_14_method_59_code (3 : Nat) (Option.none : Option FieldType)) ∈ TG := tg_mem 1496 (by decide +kernel) (by decide +kernel)
theorem w_1497 : (Cond.constant "RingInSandModel" (332 : Nat) (999999 : Int32)) ∈ TG := tg_mem 1497 (by decide +kernel) (by decide +kernel)
theorem w_1498 : (Cond.methodLink "RingInSandLaw" (98 : Nat) ({ cls := "RingInSandModel", name := "crowd", desc := "(III)I" } : MethodName)) ∈ TG := tg_mem 1498 (by decide +kernel) (by decide +kernel)
theorem w_1499 : (Cond.instanceMethod ({ cls := "RingInSandModel", name := "crowd", desc := "(III)I" } : MethodName)) ∈ TG := tg_mem 1499 (by decide +kernel) (by decide +kernel)
theorem w_1500 : (Cond.selects "RingInSandModel" ({ cls := "RingInSandModel", name := "crowd", desc := "(III)I" } : MethodName) ({ cls := "RingInSandModel", name := "crowd", desc := "(III)I" } : MethodName)) ∈ TG := tg_mem 1500 (by decide +kernel) (by decide +kernel)
theorem w_1501 : (Cond.code ({ cls := "RingInSandModel", name := "crowd", desc := "(III)I" } : MethodName) prog_14_method_61_code (5 : Nat) (Option.some FieldType.int)) ∈ TG := tg_mem 1501 (by decide +kernel) (by decide +kernel)
theorem w_1502 : (Cond.constantLong "RingInSandModel" (341 : Nat) (8 : Int64)) ∈ TG := tg_mem 1502 (by decide +kernel) (by decide +kernel)
theorem w_1503 : (Cond.methodLink "RingInSandLaw" (102 : Nat) ({ cls := "RingInSandModel", name := "judge", desc := "(I)I" } : MethodName)) ∈ TG := tg_mem 1503 (by decide +kernel) (by decide +kernel)
theorem w_1504 : (Cond.instanceMethod ({ cls := "RingInSandModel", name := "judge", desc := "(I)I" } : MethodName)) ∈ TG := tg_mem 1504 (by decide +kernel) (by decide +kernel)
theorem w_1505 : (Cond.selects "RingInSandModel" ({ cls := "RingInSandModel", name := "judge", desc := "(I)I" } : MethodName) ({ cls := "RingInSandModel", name := "judge", desc := "(I)I" } : MethodName)) ∈ TG := tg_mem 1505 (by decide +kernel) (by decide +kernel)
theorem w_1506 : (Cond.code ({ cls := "RingInSandModel", name := "judge", desc := "(I)I" } : MethodName) prog_14_method_63_code (2 : Nat) (Option.some FieldType.int)) ∈ TG := tg_mem 1506 (by decide +kernel) (by decide +kernel)
theorem w_1507 : (Cond.methodLink "RingInSandModel" (346 : Nat) ({ cls := "RingInSandModel", name := "judges", desc := "(I)I" } : MethodName)) ∈ TG := tg_mem 1507 (by decide +kernel) (by decide +kernel)
theorem w_1509 : (Cond.instanceMethod ({ cls := "RingInSandModel", name := "judges", desc := "(I)I" } : MethodName)) ∈ TG := tg_mem 1509 (by decide +kernel) (by decide +kernel)
theorem w_1510 : (Cond.code ({ cls := "RingInSandModel", name := "judges", desc := "(I)I" } : MethodName) prog_14_method_62_code (6 : Nat) (Option.some FieldType.int)) ∈ TG := tg_mem 1510 (by decide +kernel) (by decide +kernel)
theorem w_1511 : (Cond.methodLink "RingInSandLaw" (106 : Nat) ({ cls := "RingInSandModel", name := "found", desc := "(II)J" } : MethodName)) ∈ TG := tg_mem 1511 (by decide +kernel) (by decide +kernel)
theorem w_1512 : (Cond.instanceMethod ({ cls := "RingInSandModel", name := "found", desc := "(II)J" } : MethodName)) ∈ TG := tg_mem 1512 (by decide +kernel) (by decide +kernel)
theorem w_1513 : (Cond.selects "RingInSandModel" ({ cls := "RingInSandModel", name := "found", desc := "(II)J" } : MethodName) ({ cls := "RingInSandModel", name := "found", desc := "(II)J" } : MethodName)) ∈ TG := tg_mem 1513 (by decide +kernel) (by decide +kernel)
theorem w_1514 : (Cond.code ({ cls := "RingInSandModel", name := "found", desc := "(II)J" } : MethodName) prog_14_method_64_code (4 : Nat) (Option.some FieldType.long)) ∈ TG := tg_mem 1514 (by decide +kernel) (by decide +kernel)
theorem w_1515 : (Cond.methodLink "RingInSandLaw" (110 : Nat) ({ cls := "RingInSandModel", name := "drawn", desc := "(I)I" } : MethodName)) ∈ TG := tg_mem 1515 (by decide +kernel) (by decide +kernel)
theorem w_1516 : (Cond.instanceMethod ({ cls := "RingInSandModel", name := "drawn", desc := "(I)I" } : MethodName)) ∈ TG := tg_mem 1516 (by decide +kernel) (by decide +kernel)
theorem w_1517 : (Cond.selects "RingInSandModel" ({ cls := "RingInSandModel", name := "drawn", desc := "(I)I" } : MethodName) ({ cls := "RingInSandModel", name := "drawn", desc := "(I)I" } : MethodName)) ∈ TG := tg_mem 1517 (by decide +kernel) (by decide +kernel)
theorem w_1518 : (Cond.code ({ cls := "RingInSandModel", name := "drawn", desc := "(I)I" } : MethodName) prog_14_method_65_code (7 : Nat) (Option.some FieldType.int)) ∈ TG := tg_mem 1518 (by decide +kernel) (by decide +kernel)
theorem w_1519 : (Cond.constant "RingInSandModel" (349 : Nat) (1103515245 : Int32)) ∈ TG := tg_mem 1519 (by decide +kernel) (by decide +kernel)
theorem w_1520 : (Cond.methodLink "RingInSandLaw" (114 : Nat) ({ cls := "RingInSandModel", name := "foundBy", desc := "(II)I" } : MethodName)) ∈ TG := tg_mem 1520 (by decide +kernel) (by decide +kernel)
theorem w_1521 : (Cond.instanceMethod ({ cls := "RingInSandModel", name := "foundBy", desc := "(II)I" } : MethodName)) ∈ TG := tg_mem 1521 (by decide +kernel) (by decide +kernel)
theorem w_1522 : (Cond.selects "RingInSandModel" ({ cls := "RingInSandModel", name := "foundBy", desc := "(II)I" } : MethodName) ({ cls := "RingInSandModel", name := "foundBy", desc := "(II)I" } : MethodName)) ∈ TG := tg_mem 1522 (by decide +kernel) (by decide +kernel)
theorem w_1523 : (Cond.code ({ cls := "RingInSandModel", name := "foundBy", desc := "(II)I" } : MethodName) prog_14_method_66_code (8 : Nat) (Option.some FieldType.int)) ∈ TG := tg_mem 1523 (by decide +kernel) (by decide +kernel)
theorem w_1524 : (Cond.methodLink "RingInSandModel" (350 : Nat) ({ cls := "RingInSandModel", name := "drawn", desc := "(I)I" } : MethodName)) ∈ TG := tg_mem 1524 (by decide +kernel) (by decide +kernel)
theorem w_1525 : (Cond.methodLink "RingInSandLaw" (118 : Nat) ({ cls := "RingInSandModel", name := "image", desc := "()I" } : MethodName)) ∈ TG := tg_mem 1525 (by decide +kernel) (by decide +kernel)
theorem w_1526 : (Cond.instanceMethod ({ cls := "RingInSandModel", name := "image", desc := "()I" } : MethodName)) ∈ TG := tg_mem 1526 (by decide +kernel) (by decide +kernel)
theorem w_1527 : (Cond.selects "RingInSandModel" ({ cls := "RingInSandModel", name := "image", desc := "()I" } : MethodName) ({ cls := "RingInSandModel", name := "image", desc := "()I" } : MethodName)) ∈ TG := tg_mem 1527 (by decide +kernel) (by decide +kernel)
theorem w_1528 : (Cond.code ({ cls := "RingInSandModel", name := "image", desc := "()I" } : MethodName) prog_14_method_67_code (2 : Nat) (Option.some FieldType.int)) ∈ TG := tg_mem 1528 (by decide +kernel) (by decide +kernel)
theorem w_1529 : (Cond.methodLink "RingInSandLaw" (122 : Nat) ({ cls := "RingInSandModel", name := "back", desc := "()I" } : MethodName)) ∈ TG := tg_mem 1529 (by decide +kernel) (by decide +kernel)
theorem w_1530 : (Cond.instanceMethod ({ cls := "RingInSandModel", name := "back", desc := "()I" } : MethodName)) ∈ TG := tg_mem 1530 (by decide +kernel) (by decide +kernel)
theorem w_1531 : (Cond.selects "RingInSandModel" ({ cls := "RingInSandModel", name := "back", desc := "()I" } : MethodName) ({ cls := "RingInSandModel", name := "back", desc := "()I" } : MethodName)) ∈ TG := tg_mem 1531 (by decide +kernel) (by decide +kernel)
theorem w_1532 : (Cond.code ({ cls := "RingInSandModel", name := "back", desc := "()I" } : MethodName) prog_14_method_68_code (2 : Nat) (Option.some FieldType.int)) ∈ TG := tg_mem 1532 (by decide +kernel) (by decide +kernel)
theorem w_1533 : (Cond.methodLink "RingInSandLaw" (126 : Nat) ({ cls := "RingInSandModel", name := "count", desc := "(I)I" } : MethodName)) ∈ TG := tg_mem 1533 (by decide +kernel) (by decide +kernel)
theorem w_1534 : (Cond.instanceMethod ({ cls := "RingInSandModel", name := "count", desc := "(I)I" } : MethodName)) ∈ TG := tg_mem 1534 (by decide +kernel) (by decide +kernel)
theorem w_1535 : (Cond.selects "RingInSandModel" ({ cls := "RingInSandModel", name := "count", desc := "(I)I" } : MethodName) ({ cls := "RingInSandModel", name := "count", desc := "(I)I" } : MethodName)) ∈ TG := tg_mem 1535 (by decide +kernel) (by decide +kernel)
theorem w_1536 : (Cond.code ({ cls := "RingInSandModel", name := "count", desc := "(I)I" } : MethodName) prog_14_method_69_code (4 : Nat) (Option.some FieldType.int)) ∈ TG := tg_mem 1536 (by decide +kernel) (by decide +kernel)
theorem w_1537 : (Cond.constantLong "RingInSandModel" (362 : Nat) (7 : Int64)) ∈ TG := tg_mem 1537 (by decide +kernel) (by decide +kernel)
theorem w_1538 : (Cond.methodLink "RingInSandLaw" (130 : Nat) ({ cls := "RingInSandModel", name := "sheet", desc := "(III)I" } : MethodName)) ∈ TG := tg_mem 1538 (by decide +kernel) (by decide +kernel)
theorem w_1539 : (Cond.instanceMethod ({ cls := "RingInSandModel", name := "sheet", desc := "(III)I" } : MethodName)) ∈ TG := tg_mem 1539 (by decide +kernel) (by decide +kernel)
theorem w_1540 : (Cond.selects "RingInSandModel" ({ cls := "RingInSandModel", name := "sheet", desc := "(III)I" } : MethodName) ({ cls := "RingInSandModel", name := "sheet", desc := "(III)I" } : MethodName)) ∈ TG := tg_mem 1540 (by decide +kernel) (by decide +kernel)
theorem w_1541 : (Cond.code ({ cls := "RingInSandModel", name := "sheet", desc := "(III)I" } : MethodName) prog_14_method_71_code (5 : Nat) (Option.some FieldType.int)) ∈ TG := tg_mem 1541 (by decide +kernel) (by decide +kernel)
theorem w_1542 : (Cond.constantLong "RingInSandModel" (366 : Nat) (-1 : Int64)) ∈ TG := tg_mem 1542 (by decide +kernel) (by decide +kernel)
theorem w_1543 : (Cond.methodLink "RingInSandLaw" (134 : Nat) ({ cls := "RingInSandModel", name := "cell", desc := "(III)I" } : MethodName)) ∈ TG := tg_mem 1543 (by decide +kernel) (by decide +kernel)
theorem w_1544 : (Cond.instanceMethod ({ cls := "RingInSandModel", name := "cell", desc := "(III)I" } : MethodName)) ∈ TG := tg_mem 1544 (by decide +kernel) (by decide +kernel)
theorem w_1545 : (Cond.selects "RingInSandModel" ({ cls := "RingInSandModel", name := "cell", desc := "(III)I" } : MethodName) ({ cls := "RingInSandModel", name := "cell", desc := "(III)I" } : MethodName)) ∈ TG := tg_mem 1545 (by decide +kernel) (by decide +kernel)
theorem w_1546 : (Cond.code ({ cls := "RingInSandModel", name := "cell", desc := "(III)I" } : MethodName) prog_14_method_72_code (4 : Nat) (Option.some FieldType.int)) ∈ TG := tg_mem 1546 (by decide +kernel) (by decide +kernel)
theorem w_1547 : (Cond.methodLink "RingInSandLaw" (139 : Nat) ({ cls := "RingInSandModel", name := "copy", desc := "(IIIII)I" } : MethodName)) ∈ TG := tg_mem 1547 (by decide +kernel) (by decide +kernel)
theorem w_1548 : (Cond.instanceMethod ({ cls := "RingInSandModel", name := "copy", desc := "(IIIII)I" } : MethodName)) ∈ TG := tg_mem 1548 (by decide +kernel) (by decide +kernel)
theorem w_1549 : (Cond.selects "RingInSandModel" ({ cls := "RingInSandModel", name := "copy", desc := "(IIIII)I" } : MethodName) ({ cls := "RingInSandModel", name := "copy", desc := "(IIIII)I" } : MethodName)) ∈ TG := tg_mem 1549 (by decide +kernel) (by decide +kernel)
theorem w_1550 : (Cond.code ({ cls := "RingInSandModel", name := "copy", desc := "(IIIII)I" } : MethodName) prog_14_method_73_code (9 : Nat) (Option.some FieldType.int)) ∈ TG := tg_mem 1550 (by decide +kernel) (by decide +kernel)
theorem w_1551 : (Cond.methodLink "RingInSandLaw" (144 : Nat) ({ cls := "RingInSandModel", name := "lookers", desc := "(IIII)I" } : MethodName)) ∈ TG := tg_mem 1551 (by decide +kernel) (by decide +kernel)
theorem w_1552 : (Cond.instanceMethod ({ cls := "RingInSandModel", name := "lookers", desc := "(IIII)I" } : MethodName)) ∈ TG := tg_mem 1552 (by decide +kernel) (by decide +kernel)
theorem w_1553 : (Cond.selects "RingInSandModel" ({ cls := "RingInSandModel", name := "lookers", desc := "(IIII)I" } : MethodName) ({ cls := "RingInSandModel", name := "lookers", desc := "(IIII)I" } : MethodName)) ∈ TG := tg_mem 1553 (by decide +kernel) (by decide +kernel)
theorem w_1554 : (Cond.code ({ cls := "RingInSandModel", name := "lookers", desc := "(IIII)I" } : MethodName) prog_14_method_74_code (8 : Nat) (Option.some FieldType.int)) ∈ TG := tg_mem 1554 (by decide +kernel) (by decide +kernel)
theorem w_1555 : (Cond.constantLong "RingInSandModel" (368 : Nat) (6 : Int64)) ∈ TG := tg_mem 1555 (by decide +kernel) (by decide +kernel)
theorem w_1556 : (Cond.methodLink "RingInSandModel" (370 : Nat) ({ cls := "RingInSandModel", name := "looker", desc := "(II)I" } : MethodName)) ∈ TG := tg_mem 1556 (by decide +kernel) (by decide +kernel)
theorem w_1557 : (Cond.methodLink "RingInSandLaw" (148 : Nat) ({ cls := "RingInSandModel", name := "taken", desc := "(II)I" } : MethodName)) ∈ TG := tg_mem 1557 (by decide +kernel) (by decide +kernel)
theorem w_1558 : (Cond.instanceMethod ({ cls := "RingInSandModel", name := "taken", desc := "(II)I" } : MethodName)) ∈ TG := tg_mem 1558 (by decide +kernel) (by decide +kernel)
theorem w_1559 : (Cond.selects "RingInSandModel" ({ cls := "RingInSandModel", name := "taken", desc := "(II)I" } : MethodName) ({ cls := "RingInSandModel", name := "taken", desc := "(II)I" } : MethodName)) ∈ TG := tg_mem 1559 (by decide +kernel) (by decide +kernel)
theorem w_1560 : (Cond.code ({ cls := "RingInSandModel", name := "taken", desc := "(II)I" } : MethodName) prog_14_method_76_code (4 : Nat) (Option.some FieldType.int)) ∈ TG := tg_mem 1560 (by decide +kernel) (by decide +kernel)
theorem w_1561 : (Cond.methodLink "RingInSandModel" (373 : Nat) ({ cls := "RingInSandModel", name := "over", desc := "(I)I" } : MethodName)) ∈ TG := tg_mem 1561 (by decide +kernel) (by decide +kernel)
theorem w_1562 : (Cond.static ({ cls := "RingInSandModel", name := "over", desc := "(I)I" } : MethodName)) ∈ TG := tg_mem 1562 (by decide +kernel) (by decide +kernel)
theorem w_1563 : (Cond.code ({ cls := "RingInSandModel", name := "over", desc := "(I)I" } : MethodName) prog_14_method_75_code (1 : Nat) (Option.some FieldType.int)) ∈ TG := tg_mem 1563 (by decide +kernel) (by decide +kernel)
theorem w_1564 : (Cond.sameMethod "RingInSand$Plate" "RingInSand$Plate" "finds" "(II)I") ∈ TG := tg_mem 1564 (by decide +kernel) (by decide +kernel)
theorem w_1565 : (Cond.sameMethod "RingInSand$Hands" "RingInSand$Hands" "finds" "(II)I") ∈ TG := tg_mem 1565 (by decide +kernel) (by decide +kernel)
theorem w_1566 : (Cond.sameMethod "RingInSand$Plate" "RingInSand$Plate" "takes" "()I") ∈ TG := tg_mem 1566 (by decide +kernel) (by decide +kernel)
theorem w_1567 : (Cond.sameMethod "RingInSand$Hands" "RingInSand$Hands" "takes" "()I") ∈ TG := tg_mem 1567 (by decide +kernel) (by decide +kernel)
abbrev m_X0_init : Mth := (yX0_init, cX0_init, 1, none)
theorem mi_X0_init : MI m_X0_init 0 := ⟨w_118, w_87, ⟨by decide +kernel, by decide +kernel, by decide +kernel⟩, Nat.le_of_ble_eq_true rfl⟩
abbrev m_X0_become : Mth := (yX0_become, cX0_become, 2, none)
theorem mi_X0_become : MI m_X0_become 1 := ⟨w_849, w_87, ⟨by decide +kernel, by decide +kernel, by decide +kernel⟩, Nat.le_of_ble_eq_true rfl⟩
abbrev m_X0_oddsAt : Mth := (yX0_oddsAt, cX0_oddsAt, 2, (some .int))
theorem mi_X0_oddsAt : MI m_X0_oddsAt 1 := ⟨w_629, w_87, ⟨by decide +kernel, by decide +kernel, by decide +kernel⟩, Nat.le_of_ble_eq_true rfl⟩
abbrev m_X0_treadsAt : Mth := (yX0_treadsAt, cX0_treadsAt, 2, (some .int))
theorem mi_X0_treadsAt : MI m_X0_treadsAt 1 := ⟨w_634, w_87, ⟨by decide +kernel, by decide +kernel, by decide +kernel⟩, Nat.le_of_ble_eq_true rfl⟩
abbrev m_X0_addOdds : Mth := (yX0_addOdds, cX0_addOdds, 3, none)
theorem mi_X0_addOdds : MI m_X0_addOdds 2 := ⟨w_969, w_87, ⟨by decide +kernel, by decide +kernel, by decide +kernel⟩, Nat.le_of_ble_eq_true rfl⟩
abbrev m_X0_addTreads : Mth := (yX0_addTreads, cX0_addTreads, 3, none)
theorem mi_X0_addTreads : MI m_X0_addTreads 2 := ⟨w_820, w_87, ⟨by decide +kernel, by decide +kernel, by decide +kernel⟩, Nat.le_of_ble_eq_true rfl⟩
abbrev m_X0_thinOdds : Mth := (yX0_thinOdds, cX0_thinOdds, 3, none)
theorem mi_X0_thinOdds : MI m_X0_thinOdds 2 := ⟨w_816, w_87, ⟨by decide +kernel, by decide +kernel, by decide +kernel⟩, Nat.le_of_ble_eq_true rfl⟩
abbrev m_X0_pass : Mth := (yX0_pass, cX0_pass, 3, none)
theorem mi_X0_pass : MI m_X0_pass 1 := ⟨w_825, w_87, ⟨by decide +kernel, by decide +kernel, by decide +kernel⟩, Nat.le_of_ble_eq_true rfl⟩
abbrev m_X0_oddsOnCells : Mth := (yX0_oddsOnCells, cX0_oddsOnCells, 3, (some .int))
theorem mi_X0_oddsOnCells : MI m_X0_oddsOnCells 0 := ⟨w_894, w_87, ⟨by decide +kernel, by decide +kernel, by decide +kernel⟩, Nat.le_of_ble_eq_true rfl⟩
abbrev m_X0_allOdds : Mth := (yX0_allOdds, cX0_allOdds, 1, (some .int))
theorem mi_X0_allOdds : MI m_X0_allOdds 0 := ⟨w_890, w_87, ⟨by decide +kernel, by decide +kernel, by decide +kernel⟩, Nat.le_of_ble_eq_true rfl⟩
abbrev m_X0_allTreads : Mth := (yX0_allTreads, cX0_allTreads, 3, (some .int))
theorem mi_X0_allTreads : MI m_X0_allTreads 0 := ⟨w_1024, w_87, ⟨by decide +kernel, by decide +kernel, by decide +kernel⟩, Nat.le_of_ble_eq_true rfl⟩
abbrev m_X0_cellOfMostOdds : Mth := (yX0_cellOfMostOdds, cX0_cellOfMostOdds, 4, (some .int))
theorem mi_X0_cellOfMostOdds : MI m_X0_cellOfMostOdds 0 := ⟨w_913, w_87, ⟨by decide +kernel, by decide +kernel, by decide +kernel⟩, Nat.le_of_ble_eq_true rfl⟩
abbrev m_X0_cellBehind : Mth := (yX0_cellBehind, cX0_cellBehind, 4, (some .int))
theorem mi_X0_cellBehind : MI m_X0_cellBehind 1 := ⟨w_999, w_87, ⟨by decide +kernel, by decide +kernel, by decide +kernel⟩, Nat.le_of_ble_eq_true rfl⟩
abbrev m_X1_init : Mth := (yX1_init, cX1_init, 2, none)
theorem mi_X1_init : MI m_X1_init 1 := ⟨w_649, w_98, ⟨by decide +kernel, by decide +kernel, by decide +kernel⟩, Nat.le_of_ble_eq_true rfl⟩
abbrev m_X1_finds : Mth := (yX1_finds, cX1_finds, 3, (some .int))
theorem mi_X1_finds : MI m_X1_finds 2 := ⟨w_732, w_98, ⟨by decide +kernel, by decide +kernel, by decide +kernel⟩, Nat.le_of_ble_eq_true rfl⟩
abbrev m_X1_takes : Mth := (yX1_takes, cX1_takes, 1, (some .int))
theorem mi_X1_takes : MI m_X1_takes 0 := ⟨w_761, w_98, ⟨by decide +kernel, by decide +kernel, by decide +kernel⟩, Nat.le_of_ble_eq_true rfl⟩
abbrev m_X1_stamps : Mth := (yX1_stamps, cX1_stamps, 1, (some .int))
theorem mi_X1_stamps : MI m_X1_stamps 0 := ⟨w_784, w_98, ⟨by decide +kernel, by decide +kernel, by decide +kernel⟩, Nat.le_of_ble_eq_true rfl⟩
abbrev m_X2_init : Mth := (yX2_init, cX2_init, 2, none)
theorem mi_X2_init : MI m_X2_init 1 := ⟨w_646, w_99, ⟨by decide +kernel, by decide +kernel, by decide +kernel⟩, Nat.le_of_ble_eq_true rfl⟩
abbrev m_X2_finds : Mth := (yX2_finds, cX2_finds, 3, (some .int))
theorem mi_X2_finds : MI m_X2_finds 2 := ⟨w_716, w_99, ⟨by decide +kernel, by decide +kernel, by decide +kernel⟩, Nat.le_of_ble_eq_true rfl⟩
abbrev m_X2_takes : Mth := (yX2_takes, cX2_takes, 1, (some .int))
theorem mi_X2_takes : MI m_X2_takes 0 := ⟨w_743, w_99, ⟨by decide +kernel, by decide +kernel, by decide +kernel⟩, Nat.le_of_ble_eq_true rfl⟩
abbrev m_X2_stamps : Mth := (yX2_stamps, cX2_stamps, 1, (some .int))
theorem mi_X2_stamps : MI m_X2_stamps 0 := ⟨w_771, w_99, ⟨by decide +kernel, by decide +kernel, by decide +kernel⟩, Nat.le_of_ble_eq_true rfl⟩
abbrev m_X3_init : Mth := (yX3_init, cX3_init, 2, none)
theorem mi_X3_init : MI m_X3_init 1 := ⟨w_690, w_103, ⟨by decide +kernel, by decide +kernel, by decide +kernel⟩, Nat.le_of_ble_eq_true rfl⟩
abbrev m_X3_finds : Mth := (yX3_finds, cX3_finds, 3, (some .int))
theorem mi_X3_finds : MI m_X3_finds 2 := ⟨w_719, w_103, ⟨by decide +kernel, by decide +kernel, by decide +kernel⟩, Nat.le_of_ble_eq_true rfl⟩
abbrev m_X3_takes : Mth := (yX3_takes, cX3_takes, 1, (some .int))
theorem mi_X3_takes : MI m_X3_takes 0 := ⟨w_747, w_103, ⟨by decide +kernel, by decide +kernel, by decide +kernel⟩, Nat.le_of_ble_eq_true rfl⟩
abbrev m_X3_stamps : Mth := (yX3_stamps, cX3_stamps, 1, (some .int))
theorem mi_X3_stamps : MI m_X3_stamps 0 := ⟨w_775, w_103, ⟨by decide +kernel, by decide +kernel, by decide +kernel⟩, Nat.le_of_ble_eq_true rfl⟩
abbrev m_X4_init : Mth := (yX4_init, cX4_init, 2, none)
theorem mi_X4_init : MI m_X4_init 1 := ⟨w_674, w_101, ⟨by decide +kernel, by decide +kernel, by decide +kernel⟩, Nat.le_of_ble_eq_true rfl⟩
abbrev m_X4_finds : Mth := (yX4_finds, cX4_finds, 3, (some .int))
theorem mi_X4_finds : MI m_X4_finds 2 := ⟨w_722, w_101, ⟨by decide +kernel, by decide +kernel, by decide +kernel⟩, Nat.le_of_ble_eq_true rfl⟩
abbrev m_X4_takes : Mth := (yX4_takes, cX4_takes, 1, (some .int))
theorem mi_X4_takes : MI m_X4_takes 0 := ⟨w_750, w_101, ⟨by decide +kernel, by decide +kernel, by decide +kernel⟩, Nat.le_of_ble_eq_true rfl⟩
abbrev m_X5_init : Mth := (yX5_init, cX5_init, 1, none)
theorem mi_X5_init : MI m_X5_init 0 := ⟨w_209, w_89, ⟨by decide +kernel, by decide +kernel, by decide +kernel⟩, Nat.le_of_ble_eq_true rfl⟩
abbrev m_X5_isFull : Mth := (yX5_isFull, cX5_isFull, 1, (some .boolean))
theorem mi_X5_isFull : MI m_X5_isFull 0 := ⟨w_494, w_89, ⟨by decide +kernel, by decide +kernel, by decide +kernel⟩, Nat.le_of_ble_eq_true rfl⟩
abbrev m_X5_hasText : Mth := (yX5_hasText, cX5_hasText, 2, (some .boolean))
theorem mi_X5_hasText : MI m_X5_hasText 1 := ⟨w_602, w_89, ⟨by decide +kernel, by decide +kernel, by decide +kernel⟩, Nat.le_of_ble_eq_true rfl⟩
abbrev m_X5_addFrom : Mth := (yX5_addFrom, cX5_addFrom, 5, none)
theorem mi_X5_addFrom : MI m_X5_addFrom 1 := ⟨w_490, w_89, ⟨by decide +kernel, by decide +kernel, by decide +kernel⟩, Nat.le_of_ble_eq_true rfl⟩
abbrev m_X5_survey : Mth := (yX5_survey, cX5_survey, 4, none)
theorem mi_X5_survey : MI m_X5_survey 2 := ⟨w_583, w_89, ⟨by decide +kernel, by decide +kernel, by decide +kernel⟩, Nat.le_of_ble_eq_true rfl⟩
abbrev m_X5_isWetBy : Mth := (yX5_isWetBy, cX5_isWetBy, 5, (some .boolean))
theorem mi_X5_isWetBy : MI m_X5_isWetBy 4 := ⟨w_925, w_89, ⟨by decide +kernel, by decide +kernel, by decide +kernel⟩, Nat.le_of_ble_eq_true rfl⟩
abbrev m_X5_stand : Mth := (yX5_stand, cX5_stand, 4, none)
theorem mi_X5_stand : MI m_X5_stand 3 := ⟨w_588, w_89, ⟨by decide +kernel, by decide +kernel, by decide +kernel⟩, Nat.le_of_ble_eq_true rfl⟩
abbrev m_X5_value : Mth := (yX5_value, cX5_value, 5, (some .int))
theorem mi_X5_value : MI m_X5_value 2 := ⟨w_598, w_89, ⟨by decide +kernel, by decide +kernel, by decide +kernel⟩, Nat.le_of_ble_eq_true rfl⟩
abbrev m_X5_take : Mth := (yX5_take, cX5_take, 3, none)
theorem mi_X5_take : MI m_X5_take 1 := ⟨w_607, w_89, ⟨by decide +kernel, by decide +kernel, by decide +kernel⟩, Nat.le_of_ble_eq_true rfl⟩
abbrev m_X5_joined : Mth := (yX5_joined, cX5_joined, 3, (some .int))
theorem mi_X5_joined : MI m_X5_joined 3 := ⟨w_618, w_89, ⟨by decide +kernel, by decide +kernel, by decide +kernel⟩, Nat.le_of_ble_eq_true rfl⟩
abbrev m_X5_push : Mth := (yX5_push, cX5_push, 2, none)
theorem mi_X5_push : MI m_X5_push 1 := ⟨w_611, w_89, ⟨by decide +kernel, by decide +kernel, by decide +kernel⟩, Nat.le_of_ble_eq_true rfl⟩
abbrev m_X5_pop : Mth := (yX5_pop, cX5_pop, 1, (some .int))
theorem mi_X5_pop : MI m_X5_pop 0 := ⟨w_615, w_89, ⟨by decide +kernel, by decide +kernel, by decide +kernel⟩, Nat.le_of_ble_eq_true rfl⟩
abbrev m_X6_init : Mth := (yX6_init, cX6_init, 1, none)
theorem mi_X6_init : MI m_X6_init 0 := ⟨w_285, w_91, ⟨by decide +kernel, by decide +kernel, by decide +kernel⟩, Nat.le_of_ble_eq_true rfl⟩
abbrev m_X6_isMissing : Mth := (yX6_isMissing, cX6_isMissing, 1, (some .boolean))
theorem mi_X6_isMissing : MI m_X6_isMissing 0 := ⟨w_949, w_91, ⟨by decide +kernel, by decide +kernel, by decide +kernel⟩, Nat.le_of_ble_eq_true rfl⟩
abbrev m_X6_isOdd : Mth := (yX6_isOdd, cX6_isOdd, 1, (some .boolean))
theorem mi_X6_isOdd : MI m_X6_isOdd 0 := ⟨w_982, w_91, ⟨by decide +kernel, by decide +kernel, by decide +kernel⟩, Nat.le_of_ble_eq_true rfl⟩
abbrev m_X6_remove : Mth := (yX6_remove, cX6_remove, 1, none)
theorem mi_X6_remove : MI m_X6_remove 0 := ⟨w_1032, w_91, ⟨by decide +kernel, by decide +kernel, by decide +kernel⟩, Nat.le_of_ble_eq_true rfl⟩
abbrev m_X6_lay : Mth := (yX6_lay, cX6_lay, 3, none)
theorem mi_X6_lay : MI m_X6_lay 2 := ⟨w_1036, w_91, ⟨by decide +kernel, by decide +kernel, by decide +kernel⟩, Nat.le_of_ble_eq_true rfl⟩
abbrev m_X6_hasItem : Mth := (yX6_hasItem, cX6_hasItem, 2, (some .boolean))
theorem mi_X6_hasItem : MI m_X6_hasItem 1 := ⟨w_960, w_91, ⟨by decide +kernel, by decide +kernel, by decide +kernel⟩, Nat.le_of_ble_eq_true rfl⟩
abbrev m_X6_hasRange : Mth := (yX6_hasRange, cX6_hasRange, 3, (some .boolean))
theorem mi_X6_hasRange : MI m_X6_hasRange 2 := ⟨w_1061, w_91, ⟨by decide +kernel, by decide +kernel, by decide +kernel⟩, Nat.le_of_ble_eq_true rfl⟩
abbrev m_X6_itemAt : Mth := (yX6_itemAt, cX6_itemAt, 2, (some .int))
theorem mi_X6_itemAt : MI m_X6_itemAt 1 := ⟨w_956, w_91, ⟨by decide +kernel, by decide +kernel, by decide +kernel⟩, Nat.le_of_ble_eq_true rfl⟩
abbrev m_X6_put : Mth := (yX6_put, cX6_put, 3, none)
theorem mi_X6_put : MI m_X6_put 2 := ⟨w_1049, w_91, ⟨by decide +kernel, by decide +kernel, by decide +kernel⟩, Nat.le_of_ble_eq_true rfl⟩
abbrev m_X6_narrowed : Mth := (yX6_narrowed, cX6_narrowed, 2, (some .int))
theorem mi_X6_narrowed : MI m_X6_narrowed 1 := ⟨w_1053, w_91, ⟨by decide +kernel, by decide +kernel, by decide +kernel⟩, Nat.le_of_ble_eq_true rfl⟩
abbrev m_X7_init : Mth := (yX7_init, cX7_init, 2, none)
theorem mi_X7_init : MI m_X7_init 1 := ⟨w_666, w_100, ⟨by decide +kernel, by decide +kernel, by decide +kernel⟩, Nat.le_of_ble_eq_true rfl⟩
abbrev m_X7_finds : Mth := (yX7_finds, cX7_finds, 3, (some .int))
theorem mi_X7_finds : MI m_X7_finds 2 := ⟨w_726, w_100, ⟨by decide +kernel, by decide +kernel, by decide +kernel⟩, Nat.le_of_ble_eq_true rfl⟩
abbrev m_X7_takes : Mth := (yX7_takes, cX7_takes, 1, (some .int))
theorem mi_X7_takes : MI m_X7_takes 0 := ⟨w_755, w_100, ⟨by decide +kernel, by decide +kernel, by decide +kernel⟩, Nat.le_of_ble_eq_true rfl⟩
abbrev m_X7_stamps : Mth := (yX7_stamps, cX7_stamps, 1, (some .int))
theorem mi_X7_stamps : MI m_X7_stamps 0 := ⟨w_782, w_100, ⟨by decide +kernel, by decide +kernel, by decide +kernel⟩, Nat.le_of_ble_eq_true rfl⟩
abbrev m_X8_init : Mth := (yX8_init, cX8_init, 2, none)
theorem mi_X8_init : MI m_X8_init 1 := ⟨w_682, w_102, ⟨by decide +kernel, by decide +kernel, by decide +kernel⟩, Nat.le_of_ble_eq_true rfl⟩
abbrev m_X8_finds : Mth := (yX8_finds, cX8_finds, 3, (some .int))
theorem mi_X8_finds : MI m_X8_finds 2 := ⟨w_730, w_102, ⟨by decide +kernel, by decide +kernel, by decide +kernel⟩, Nat.le_of_ble_eq_true rfl⟩
abbrev m_X8_takes : Mth := (yX8_takes, cX8_takes, 1, (some .int))
theorem mi_X8_takes : MI m_X8_takes 0 := ⟨w_759, w_102, ⟨by decide +kernel, by decide +kernel, by decide +kernel⟩, Nat.le_of_ble_eq_true rfl⟩
abbrev m_X9_init : Mth := (yX9_init, cX9_init, 1, none)
theorem mi_X9_init : MI m_X9_init 0 := ⟨w_259, w_90, ⟨by decide +kernel, by decide +kernel, by decide +kernel⟩, Nat.le_of_ble_eq_true rfl⟩
abbrev m_X9_clear : Mth := (yX9_clear, cX9_clear, 1, none)
theorem mi_X9_clear : MI m_X9_clear 0 := ⟨w_856, w_90, ⟨by decide +kernel, by decide +kernel, by decide +kernel⟩, Nat.le_of_ble_eq_true rfl⟩
abbrev m_X9_add : Mth := (yX9_add, cX9_add, 4, none)
theorem mi_X9_add : MI m_X9_add 3 := ⟨w_860, w_90, ⟨by decide +kernel, by decide +kernel, by decide +kernel⟩, Nat.le_of_ble_eq_true rfl⟩
abbrev m_X9_cellAt : Mth := (yX9_cellAt, cX9_cellAt, 2, (some .int))
theorem mi_X9_cellAt : MI m_X9_cellAt 1 := ⟨w_868, w_90, ⟨by decide +kernel, by decide +kernel, by decide +kernel⟩, Nat.le_of_ble_eq_true rfl⟩
abbrev m_X9_sizeAheadOf : Mth := (yX9_sizeAheadOf, cX9_sizeAheadOf, 3, (some .int))
theorem mi_X9_sizeAheadOf : MI m_X9_sizeAheadOf 1 := ⟨w_881, w_90, ⟨by decide +kernel, by decide +kernel, by decide +kernel⟩, Nat.le_of_ble_eq_true rfl⟩
abbrev m_X9_hasCell : Mth := (yX9_hasCell, cX9_hasCell, 3, (some .boolean))
theorem mi_X9_hasCell : MI m_X9_hasCell 1 := ⟨w_1008, w_90, ⟨by decide +kernel, by decide +kernel, by decide +kernel⟩, Nat.le_of_ble_eq_true rfl⟩
abbrev m_X10_init : Mth := (yX10_init, cX10_init, 1, none)
theorem mi_X10_init : MI m_X10_init 0 := ⟨w_155, w_88, ⟨by decide +kernel, by decide +kernel, by decide +kernel⟩, Nat.le_of_ble_eq_true rfl⟩
abbrev m_X10_append : Mth := (yX10_append, cX10_append, 2, (some .boolean))
theorem mi_X10_append : MI m_X10_append 1 := ⟨w_352, w_88, ⟨by decide +kernel, by decide +kernel, by decide +kernel⟩, Nat.le_of_ble_eq_true rfl⟩
abbrev m_X10_clear : Mth := (yX10_clear, cX10_clear, 1, none)
theorem mi_X10_clear : MI m_X10_clear 0 := ⟨w_502, w_88, ⟨by decide +kernel, by decide +kernel, by decide +kernel⟩, Nat.le_of_ble_eq_true rfl⟩
abbrev m_X10_stepAt : Mth := (yX10_stepAt, cX10_stepAt, 2, (some .int))
theorem mi_X10_stepAt : MI m_X10_stepAt 1 := ⟨w_498, w_88, ⟨by decide +kernel, by decide +kernel, by decide +kernel⟩, Nat.le_of_ble_eq_true rfl⟩
abbrev m_X10_readText : Mth := (yX10_readText, cX10_readText, 1, (some .boolean))
theorem mi_X10_readText : MI m_X10_readText 0 := ⟨w_356, w_88, ⟨by decide +kernel, by decide +kernel, by decide +kernel⟩, Nat.le_of_ble_eq_true rfl⟩
abbrev m_X10_readPart : Mth := (yX10_readPart, cX10_readPart, 2, (some .boolean))
theorem mi_X10_readPart : MI m_X10_readPart 1 := ⟨w_430, w_88, ⟨by decide +kernel, by decide +kernel, by decide +kernel⟩, Nat.le_of_ble_eq_true rfl⟩
abbrev m_X10_readOr : Mth := (yX10_readOr, cX10_readOr, 2, (some .boolean))
theorem mi_X10_readOr : MI m_X10_readOr 0 := ⟨w_442, w_88, ⟨by decide +kernel, by decide +kernel, by decide +kernel⟩, Nat.le_of_ble_eq_true rfl⟩
abbrev m_X10_readAnd : Mth := (yX10_readAnd, cX10_readAnd, 2, (some .boolean))
theorem mi_X10_readAnd : MI m_X10_readAnd 0 := ⟨w_446, w_88, ⟨by decide +kernel, by decide +kernel, by decide +kernel⟩, Nat.le_of_ble_eq_true rfl⟩
abbrev m_X10_readNot : Mth := (yX10_readNot, cX10_readNot, 1, (some .boolean))
theorem mi_X10_readNot : MI m_X10_readNot 0 := ⟨w_450, w_88, ⟨by decide +kernel, by decide +kernel, by decide +kernel⟩, Nat.le_of_ble_eq_true rfl⟩
abbrev m_X10_readComparison : Mth := (yX10_readComparison, cX10_readComparison, 2, (some .boolean))
theorem mi_X10_readComparison : MI m_X10_readComparison 0 := ⟨w_454, w_88, ⟨by decide +kernel, by decide +kernel, by decide +kernel⟩, Nat.le_of_ble_eq_true rfl⟩
abbrev m_X10_readSum : Mth := (yX10_readSum, cX10_readSum, 3, (some .boolean))
theorem mi_X10_readSum : MI m_X10_readSum 0 := ⟨w_458, w_88, ⟨by decide +kernel, by decide +kernel, by decide +kernel⟩, Nat.le_of_ble_eq_true rfl⟩
abbrev m_X10_readTerm : Mth := (yX10_readTerm, cX10_readTerm, 2, (some .boolean))
theorem mi_X10_readTerm : MI m_X10_readTerm 0 := ⟨w_462, w_88, ⟨by decide +kernel, by decide +kernel, by decide +kernel⟩, Nat.le_of_ble_eq_true rfl⟩
abbrev m_X10_readOne : Mth := (yX10_readOne, cX10_readOne, 1, (some .boolean))
theorem mi_X10_readOne : MI m_X10_readOne 0 := ⟨w_466, w_88, ⟨by decide +kernel, by decide +kernel, by decide +kernel⟩, Nat.le_of_ble_eq_true rfl⟩
abbrev m_X10_readNegated : Mth := (yX10_readNegated, cX10_readNegated, 1, (some .boolean))
theorem mi_X10_readNegated : MI m_X10_readNegated 0 := ⟨w_478, w_88, ⟨by decide +kernel, by decide +kernel, by decide +kernel⟩, Nat.le_of_ble_eq_true rfl⟩
abbrev m_X10_readBracket : Mth := (yX10_readBracket, cX10_readBracket, 1, (some .boolean))
theorem mi_X10_readBracket : MI m_X10_readBracket 0 := ⟨w_486, w_88, ⟨by decide +kernel, by decide +kernel, by decide +kernel⟩, Nat.le_of_ble_eq_true rfl⟩
abbrev m_X10_enter : Mth := (yX10_enter, cX10_enter, 1, (some .boolean))
theorem mi_X10_enter : MI m_X10_enter 0 := ⟨w_482, w_88, ⟨by decide +kernel, by decide +kernel, by decide +kernel⟩, Nat.le_of_ble_eq_true rfl⟩
abbrev m_X10_expect : Mth := (yX10_expect, cX10_expect, 2, (some .boolean))
theorem mi_X10_expect : MI m_X10_expect 1 := ⟨w_434, w_88, ⟨by decide +kernel, by decide +kernel, by decide +kernel⟩, Nat.le_of_ble_eq_true rfl⟩
abbrev m_X10_refuse : Mth := (yX10_refuse, cX10_refuse, 1, (some .boolean))
theorem mi_X10_refuse : MI m_X10_refuse 0 := ⟨w_438, w_88, ⟨by decide +kernel, by decide +kernel, by decide +kernel⟩, Nat.le_of_ble_eq_true rfl⟩
abbrev m_X10_goTo : Mth := (yX10_goTo, cX10_goTo, 2, none)
theorem mi_X10_goTo : MI m_X10_goTo 1 := ⟨w_423, w_88, ⟨by decide +kernel, by decide +kernel, by decide +kernel⟩, Nat.le_of_ble_eq_true rfl⟩
abbrev m_X10_worthHere : Mth := (yX10_worthHere, cX10_worthHere, 1, (some .int))
theorem mi_X10_worthHere : MI m_X10_worthHere 0 := ⟨w_470, w_88, ⟨by decide +kernel, by decide +kernel, by decide +kernel⟩, Nat.le_of_ble_eq_true rfl⟩
abbrev m_X10_emit : Mth := (yX10_emit, cX10_emit, 2, none)
theorem mi_X10_emit : MI m_X10_emit 1 := ⟨w_474, w_88, ⟨by decide +kernel, by decide +kernel, by decide +kernel⟩, Nat.le_of_ble_eq_true rfl⟩
abbrev m_X10_splitTokens : Mth := (yX10_splitTokens, cX10_splitTokens, 5, none)
theorem mi_X10_splitTokens : MI m_X10_splitTokens 0 := ⟨w_360, w_88, ⟨by decide +kernel, by decide +kernel, by decide +kernel⟩, Nat.le_of_ble_eq_true rfl⟩
abbrev m_X10_addToken : Mth := (yX10_addToken, cX10_addToken, 4, none)
theorem mi_X10_addToken : MI m_X10_addToken 3 := ⟨w_395, w_88, ⟨by decide +kernel, by decide +kernel, by decide +kernel⟩, Nat.le_of_ble_eq_true rfl⟩
abbrev m_X10_addNumber : Mth := (yX10_addNumber, cX10_addNumber, 5, none)
theorem mi_X10_addNumber : MI m_X10_addNumber 2 := ⟨w_416, w_88, ⟨by decide +kernel, by decide +kernel, by decide +kernel⟩, Nat.le_of_ble_eq_true rfl⟩
abbrev m_X10_addWord : Mth := (yX10_addWord, cX10_addWord, 4, none)
theorem mi_X10_addWord : MI m_X10_addWord 2 := ⟨w_375, w_88, ⟨by decide +kernel, by decide +kernel, by decide +kernel⟩, Nat.le_of_ble_eq_true rfl⟩
abbrev m_X10_endOfWord : Mth := (yX10_endOfWord, cX10_endOfWord, 4, (some .int))
theorem mi_X10_endOfWord : MI m_X10_endOfWord 1 := ⟨w_371, w_88, ⟨by decide +kernel, by decide +kernel, by decide +kernel⟩, Nat.le_of_ble_eq_true rfl⟩
abbrev m_X10_endOfNumber : Mth := (yX10_endOfNumber, cX10_endOfNumber, 4, (some .int))
theorem mi_X10_endOfNumber : MI m_X10_endOfNumber 1 := ⟨w_412, w_88, ⟨by decide +kernel, by decide +kernel, by decide +kernel⟩, Nat.le_of_ble_eq_true rfl⟩
abbrev m_X10_nameOf : Mth := (yX10_nameOf, cX10_nameOf, 3, (some .int))
theorem mi_X10_nameOf : MI m_X10_nameOf 2 := ⟨w_379, w_88, ⟨by decide +kernel, by decide +kernel, by decide +kernel⟩, Nat.le_of_ble_eq_true rfl⟩
abbrev m_X10_keyOf : Mth := (yX10_keyOf, cX10_keyOf, 3, (some .int))
theorem mi_X10_keyOf : MI m_X10_keyOf 2 := ⟨w_399, w_88, ⟨by decide +kernel, by decide +kernel, by decide +kernel⟩, Nat.le_of_ble_eq_true rfl⟩
abbrev m_X10_isWord : Mth := (yX10_isWord, cX10_isWord, 5, (some .boolean))
theorem mi_X10_isWord : MI m_X10_isWord 3 := ⟨w_384, w_88, ⟨by decide +kernel, by decide +kernel, by decide +kernel⟩, Nat.le_of_ble_eq_true rfl⟩
abbrev m_X10_byteAt : Mth := (yX10_byteAt, cX10_byteAt, 2, (some .int))
theorem mi_X10_byteAt : MI m_X10_byteAt 1 := ⟨w_364, w_88, ⟨by decide +kernel, by decide +kernel, by decide +kernel⟩, Nat.le_of_ble_eq_true rfl⟩
abbrev m_X10_isLetter : Mth := (yX10_isLetter, cX10_isLetter, 1, (some .boolean))
theorem mi_X10_isLetter : MI m_X10_isLetter 1 := ⟨w_367, w_88, ⟨by decide +kernel, by decide +kernel, by decide +kernel⟩, Nat.le_of_ble_eq_true rfl⟩
abbrev m_X10_isDigit : Mth := (yX10_isDigit, cX10_isDigit, 1, (some .boolean))
theorem mi_X10_isDigit : MI m_X10_isDigit 1 := ⟨w_408, w_88, ⟨by decide +kernel, by decide +kernel, by decide +kernel⟩, Nat.le_of_ble_eq_true rfl⟩
abbrev m_X10_isSign : Mth := (yX10_isSign, cX10_isSign, 1, (some .boolean))
theorem mi_X10_isSign : MI m_X10_isSign 1 := ⟨w_419, w_88, ⟨by decide +kernel, by decide +kernel, by decide +kernel⟩, Nat.le_of_ble_eq_true rfl⟩
abbrev m_X11_init : Mth := (yX11_init, cX11_init, 2, none)
theorem mi_X11_init : MI m_X11_init 0 := ⟨w_110, w_86, ⟨by decide +kernel, by decide +kernel, by decide +kernel⟩, Nat.le_of_ble_eq_true rfl⟩
abbrev m_X11_set : Mth := (yX11_set, cX11_set, 4, (some .int))
theorem mi_X11_set : MI m_X11_set 3 := ⟨w_550, w_86, ⟨by decide +kernel, by decide +kernel, by decide +kernel⟩, Nat.le_of_ble_eq_true rfl⟩
abbrev m_X11_told : Mth := (yX11_told, cX11_told, 3, (some .int))
theorem mi_X11_told : MI m_X11_told 2 := ⟨w_579, w_86, ⟨by decide +kernel, by decide +kernel, by decide +kernel⟩, Nat.le_of_ble_eq_true rfl⟩
abbrev m_X11_looker : Mth := (yX11_looker, cX11_looker, 3, (some .int))
theorem mi_X11_looker : MI m_X11_looker 2 := ⟨w_638, w_86, ⟨by decide +kernel, by decide +kernel, by decide +kernel⟩, Nat.le_of_ble_eq_true rfl⟩
abbrev m_X11_asks : Mth := (yX11_asks, cX11_asks, 5, (some .int))
theorem mi_X11_asks : MI m_X11_asks 3 := ⟨w_701, w_86, ⟨by decide +kernel, by decide +kernel, by decide +kernel⟩, Nat.le_of_ble_eq_true rfl⟩
abbrev m_X11_feed : Mth := (yX11_feed, cX11_feed, 2, (some .int))
theorem mi_X11_feed : MI m_X11_feed 1 := ⟨w_794, w_86, ⟨by decide +kernel, by decide +kernel, by decide +kernel⟩, Nat.le_of_ble_eq_true rfl⟩
abbrev m_X11_text : Mth := (yX11_text, cX11_text, 2, (some .int))
theorem mi_X11_text : MI m_X11_text 0 := ⟨w_798, w_86, ⟨by decide +kernel, by decide +kernel, by decide +kernel⟩, Nat.le_of_ble_eq_true rfl⟩
abbrev m_X11_force : Mth := (yX11_force, cX11_force, 3, (some .int))
theorem mi_X11_force : MI m_X11_force 1 := ⟨w_803, w_86, ⟨by decide +kernel, by decide +kernel, by decide +kernel⟩, Nat.le_of_ble_eq_true rfl⟩
abbrev m_X11_look : Mth := (yX11_look, cX11_look, 4, (some .int))
theorem mi_X11_look : MI m_X11_look 2 := ⟨w_808, w_86, ⟨by decide +kernel, by decide +kernel, by decide +kernel⟩, Nat.le_of_ble_eq_true rfl⟩
abbrev m_X11_next : Mth := (yX11_next, cX11_next, 2, (some .int))
theorem mi_X11_next : MI m_X11_next 1 := ⟨w_829, w_86, ⟨by decide +kernel, by decide +kernel, by decide +kernel⟩, Nat.le_of_ble_eq_true rfl⟩
abbrev m_X11_plan : Mth := (yX11_plan, cX11_plan, 3, (some .int))
theorem mi_X11_plan : MI m_X11_plan 2 := ⟨w_841, w_86, ⟨by decide +kernel, by decide +kernel, by decide +kernel⟩, Nat.le_of_ble_eq_true rfl⟩
abbrev m_X11_planned : Mth := (yX11_planned, cX11_planned, 2, (some .int))
theorem mi_X11_planned : MI m_X11_planned 1 := ⟨w_864, w_86, ⟨by decide +kernel, by decide +kernel, by decide +kernel⟩, Nat.le_of_ble_eq_true rfl⟩
abbrev m_X11_search : Mth := (yX11_search, cX11_search, 3, (some .int))
theorem mi_X11_search : MI m_X11_search 0 := ⟨w_873, w_86, ⟨by decide +kernel, by decide +kernel, by decide +kernel⟩, Nat.le_of_ble_eq_true rfl⟩
abbrev m_X11_giveUp : Mth := (yX11_giveUp, cX11_giveUp, 2, (some .int))
theorem mi_X11_giveUp : MI m_X11_giveUp 1 := ⟨w_877, w_86, ⟨by decide +kernel, by decide +kernel, by decide +kernel⟩, Nat.le_of_ble_eq_true rfl⟩
abbrev m_X11_likely : Mth := (yX11_likely, cX11_likely, 3, (some .long))
theorem mi_X11_likely : MI m_X11_likely 2 := ⟨w_885, w_86, ⟨by decide +kernel, by decide +kernel, by decide +kernel⟩, Nat.le_of_ble_eq_true rfl⟩
abbrev m_X11_here : Mth := (yX11_here, cX11_here, 2, (some .long))
theorem mi_X11_here : MI m_X11_here 1 := ⟨w_904, w_86, ⟨by decide +kernel, by decide +kernel, by decide +kernel⟩, Nat.le_of_ble_eq_true rfl⟩
abbrev m_X11_most : Mth := (yX11_most, cX11_most, 2, (some .int))
theorem mi_X11_most : MI m_X11_most 1 := ⟨w_909, w_86, ⟨by decide +kernel, by decide +kernel, by decide +kernel⟩, Nat.le_of_ble_eq_true rfl⟩
abbrev m_X11_under : Mth := (yX11_under, cX11_under, 4, (some .int))
theorem mi_X11_under : MI m_X11_under 1 := ⟨w_917, w_86, ⟨by decide +kernel, by decide +kernel, by decide +kernel⟩, Nat.le_of_ble_eq_true rfl⟩
abbrev m_X11_drowned : Mth := (yX11_drowned, cX11_drowned, 2, (some .int))
theorem mi_X11_drowned : MI m_X11_drowned 1 := ⟨w_929, w_86, ⟨by decide +kernel, by decide +kernel, by decide +kernel⟩, Nat.le_of_ble_eq_true rfl⟩
abbrev m_X11_seen : Mth := (yX11_seen, cX11_seen, 5, (some .int))
theorem mi_X11_seen : MI m_X11_seen 2 := ⟨w_941, w_86, ⟨by decide +kernel, by decide +kernel, by decide +kernel⟩, Nat.le_of_ble_eq_true rfl⟩
abbrev m_X11_crowd : Mth := (yX11_crowd, cX11_crowd, 6, (some .int))
theorem mi_X11_crowd : MI m_X11_crowd 3 := ⟨w_974, w_86, ⟨by decide +kernel, by decide +kernel, by decide +kernel⟩, Nat.le_of_ble_eq_true rfl⟩
abbrev m_X11_judge : Mth := (yX11_judge, cX11_judge, 3, (some .int))
theorem mi_X11_judge : MI m_X11_judge 1 := ⟨w_978, w_86, ⟨by decide +kernel, by decide +kernel, by decide +kernel⟩, Nat.le_of_ble_eq_true rfl⟩
abbrev m_X11_found : Mth := (yX11_found, cX11_found, 4, (some .long))
theorem mi_X11_found : MI m_X11_found 2 := ⟨w_990, w_86, ⟨by decide +kernel, by decide +kernel, by decide +kernel⟩, Nat.le_of_ble_eq_true rfl⟩
abbrev m_X11_drawn : Mth := (yX11_drawn, cX11_drawn, 4, (some .int))
theorem mi_X11_drawn : MI m_X11_drawn 1 := ⟨w_994, w_86, ⟨by decide +kernel, by decide +kernel, by decide +kernel⟩, Nat.le_of_ble_eq_true rfl⟩
abbrev m_X11_foundBy : Mth := (yX11_foundBy, cX11_foundBy, 5, (some .int))
theorem mi_X11_foundBy : MI m_X11_foundBy 2 := ⟨w_1003, w_86, ⟨by decide +kernel, by decide +kernel, by decide +kernel⟩, Nat.le_of_ble_eq_true rfl⟩
abbrev m_X11_image : Mth := (yX11_image, cX11_image, 1, (some .int))
theorem mi_X11_image : MI m_X11_image 0 := ⟨w_1012, w_86, ⟨by decide +kernel, by decide +kernel, by decide +kernel⟩, Nat.le_of_ble_eq_true rfl⟩
abbrev m_X11_back : Mth := (yX11_back, cX11_back, 1, (some .int))
theorem mi_X11_back : MI m_X11_back 0 := ⟨w_1016, w_86, ⟨by decide +kernel, by decide +kernel, by decide +kernel⟩, Nat.le_of_ble_eq_true rfl⟩
abbrev m_X11_count : Mth := (yX11_count, cX11_count, 2, (some .int))
theorem mi_X11_count : MI m_X11_count 1 := ⟨w_1020, w_86, ⟨by decide +kernel, by decide +kernel, by decide +kernel⟩, Nat.le_of_ble_eq_true rfl⟩
abbrev m_X11_sheet : Mth := (yX11_sheet, cX11_sheet, 5, (some .int))
theorem mi_X11_sheet : MI m_X11_sheet 3 := ⟨w_1028, w_86, ⟨by decide +kernel, by decide +kernel, by decide +kernel⟩, Nat.le_of_ble_eq_true rfl⟩
abbrev m_X11_cell : Mth := (yX11_cell, cX11_cell, 5, (some .int))
theorem mi_X11_cell : MI m_X11_cell 3 := ⟨w_1044, w_86, ⟨by decide +kernel, by decide +kernel, by decide +kernel⟩, Nat.le_of_ble_eq_true rfl⟩
abbrev m_X11_copy : Mth := (yX11_copy, cX11_copy, 8, (some .int))
theorem mi_X11_copy : MI m_X11_copy 5 := ⟨w_1057, w_86, ⟨by decide +kernel, by decide +kernel, by decide +kernel⟩, Nat.le_of_ble_eq_true rfl⟩
abbrev m_X11_lookers : Mth := (yX11_lookers, cX11_lookers, 9, (some .int))
theorem mi_X11_lookers : MI m_X11_lookers 4 := ⟨w_1066, w_86, ⟨by decide +kernel, by decide +kernel, by decide +kernel⟩, Nat.le_of_ble_eq_true rfl⟩
abbrev m_X11_taken : Mth := (yX11_taken, cX11_taken, 4, (some .int))
theorem mi_X11_taken : MI m_X11_taken 2 := ⟨w_1071, w_86, ⟨by decide +kernel, by decide +kernel, by decide +kernel⟩, Nat.le_of_ble_eq_true rfl⟩
abbrev m_X11_isWithin : Mth := (yX11_isWithin, cX11_isWithin, 3, (some .boolean))
theorem mi_X11_isWithin : MI m_X11_isWithin 3 := ⟨w_426, w_86, ⟨by decide +kernel, by decide +kernel, by decide +kernel⟩, Nat.le_of_ble_eq_true rfl⟩
abbrev m_X11_bounded : Mth := (yX11_bounded, cX11_bounded, 3, (some .int))
theorem mi_X11_bounded : MI m_X11_bounded 3 := ⟨w_621, w_86, ⟨by decide +kernel, by decide +kernel, by decide +kernel⟩, Nat.le_of_ble_eq_true rfl⟩
abbrev m_X11_isCell : Mth := (yX11_isCell, cX11_isCell, 1, (some .boolean))
theorem mi_X11_isCell : MI m_X11_isCell 1 := ⟨w_557, w_86, ⟨by decide +kernel, by decide +kernel, by decide +kernel⟩, Nat.le_of_ble_eq_true rfl⟩
abbrev m_X11_lookerAt : Mth := (yX11_lookerAt, cX11_lookerAt, 2, (some (.object "RingInSand$Eyes")))
theorem mi_X11_lookerAt : MI m_X11_lookerAt 1 := ⟨w_705, w_86, ⟨by decide +kernel, by decide +kernel, by decide +kernel⟩, Nat.le_of_ble_eq_true rfl⟩
abbrev m_X11_sheetAt : Mth := (yX11_sheetAt, cX11_sheetAt, 2, (some (.object "RingInSand$Sheet")))
theorem mi_X11_sheetAt : MI m_X11_sheetAt 1 := ⟨w_945, w_86, ⟨by decide +kernel, by decide +kernel, by decide +kernel⟩, Nat.le_of_ble_eq_true rfl⟩
abbrev m_X11_partOfQuotient : Mth := (yX11_partOfQuotient, cX11_partOfQuotient, 7, (some .long))
theorem mi_X11_partOfQuotient : MI m_X11_partOfQuotient 3 := ⟨w_897, w_86, ⟨by decide +kernel, by decide +kernel, by decide +kernel⟩, Nat.le_of_ble_eq_true rfl⟩
abbrev m_X11_greatestDivisor : Mth := (yX11_greatestDivisor, cX11_greatestDivisor, 11, (some .long))
theorem mi_X11_greatestDivisor : MI m_X11_greatestDivisor 2 := ⟨w_900, w_86, ⟨by decide +kernel, by decide +kernel, by decide +kernel⟩, Nat.le_of_ble_eq_true rfl⟩
abbrev m_X11_changeOdds : Mth := (yX11_changeOdds, cX11_changeOdds, 4, (some .int))
theorem mi_X11_changeOdds : MI m_X11_changeOdds 2 := ⟨w_554, w_86, ⟨by decide +kernel, by decide +kernel, by decide +kernel⟩, Nat.le_of_ble_eq_true rfl⟩
abbrev m_X11_changeTreads : Mth := (yX11_changeTreads, cX11_changeTreads, 4, (some .int))
theorem mi_X11_changeTreads : MI m_X11_changeTreads 2 := ⟨w_563, w_86, ⟨by decide +kernel, by decide +kernel, by decide +kernel⟩, Nat.le_of_ble_eq_true rfl⟩
abbrev m_X11_changeBag : Mth := (yX11_changeBag, cX11_changeBag, 3, (some .int))
theorem mi_X11_changeBag : MI m_X11_changeBag 1 := ⟨w_567, w_86, ⟨by decide +kernel, by decide +kernel, by decide +kernel⟩, Nat.le_of_ble_eq_true rfl⟩
abbrev m_X11_changeHour : Mth := (yX11_changeHour, cX11_changeHour, 3, (some .int))
theorem mi_X11_changeHour : MI m_X11_changeHour 1 := ⟨w_571, w_86, ⟨by decide +kernel, by decide +kernel, by decide +kernel⟩, Nat.le_of_ble_eq_true rfl⟩
abbrev m_X11_changeMinutes : Mth := (yX11_changeMinutes, cX11_changeMinutes, 3, (some .int))
theorem mi_X11_changeMinutes : MI m_X11_changeMinutes 1 := ⟨w_575, w_86, ⟨by decide +kernel, by decide +kernel, by decide +kernel⟩, Nat.le_of_ble_eq_true rfl⟩
abbrev m_X11_ofKind : Mth := (yX11_ofKind, cX11_ofKind, 2, (some (.object "RingInSand$Eyes")))
theorem mi_X11_ofKind : MI m_X11_ofKind 2 := ⟨w_641, w_86, ⟨by decide +kernel, by decide +kernel, by decide +kernel⟩, Nat.le_of_ble_eq_true rfl⟩
abbrev m_X11_isOfKind : Mth := (yX11_isOfKind, cX11_isOfKind, 2, (some .boolean))
theorem mi_X11_isOfKind : MI m_X11_isOfKind 2 := ⟨w_1074, w_86, ⟨by decide +kernel, by decide +kernel, by decide +kernel⟩, Nat.le_of_ble_eq_true rfl⟩
abbrev m_X11_goodHere : Mth := (yX11_goodHere, cX11_goodHere, 2, (some .int))
theorem mi_X11_goodHere : MI m_X11_goodHere 1 := ⟨w_709, w_86, ⟨by decide +kernel, by decide +kernel, by decide +kernel⟩, Nat.le_of_ble_eq_true rfl⟩
abbrev m_X11_takesOf : Mth := (yX11_takesOf, cX11_takesOf, 1, (some .int))
theorem mi_X11_takesOf : MI m_X11_takesOf 1 := ⟨w_736, w_86, ⟨by decide +kernel, by decide +kernel, by decide +kernel⟩, Nat.le_of_ble_eq_true rfl⟩
abbrev m_X11_stampsOf : Mth := (yX11_stampsOf, cX11_stampsOf, 1, (some .int))
theorem mi_X11_stampsOf : MI m_X11_stampsOf 1 := ⟨w_764, w_86, ⟨by decide +kernel, by decide +kernel, by decide +kernel⟩, Nat.le_of_ble_eq_true rfl⟩
abbrev m_X11_gainOf : Mth := (yX11_gainOf, cX11_gainOf, 2, (some .int))
theorem mi_X11_gainOf : MI m_X11_gainOf 2 := ⟨w_787, w_86, ⟨by decide +kernel, by decide +kernel, by decide +kernel⟩, Nat.le_of_ble_eq_true rfl⟩
abbrev m_X11_rateOf : Mth := (yX11_rateOf, cX11_rateOf, 2, (some .int))
theorem mi_X11_rateOf : MI m_X11_rateOf 2 := ⟨w_790, w_86, ⟨by decide +kernel, by decide +kernel, by decide +kernel⟩, Nat.le_of_ble_eq_true rfl⟩
abbrev m_X11_gainByLook : Mth := (yX11_gainByLook, cX11_gainByLook, 6, (some .int))
theorem mi_X11_gainByLook : MI m_X11_gainByLook 3 := ⟨w_812, w_86, ⟨by decide +kernel, by decide +kernel, by decide +kernel⟩, Nat.le_of_ble_eq_true rfl⟩
abbrev m_X11_choose : Mth := (yX11_choose, cX11_choose, 4, (some .boolean))
theorem mi_X11_choose : MI m_X11_choose 1 := ⟨w_833, w_86, ⟨by decide +kernel, by decide +kernel, by decide +kernel⟩, Nat.le_of_ble_eq_true rfl⟩
abbrev m_X11_weighParty : Mth := (yX11_weighParty, cX11_weighParty, 6, none)
theorem mi_X11_weighParty : MI m_X11_weighParty 2 := ⟨w_837, w_86, ⟨by decide +kernel, by decide +kernel, by decide +kernel⟩, Nat.le_of_ble_eq_true rfl⟩
abbrev m_X11_makePlan : Mth := (yX11_makePlan, cX11_makePlan, 5, none)
theorem mi_X11_makePlan : MI m_X11_makePlan 1 := ⟨w_845, w_86, ⟨by decide +kernel, by decide +kernel, by decide +kernel⟩, Nat.le_of_ble_eq_true rfl⟩
abbrev m_X11_firstWrongRow : Mth := (yX11_firstWrongRow, cX11_firstWrongRow, 6, (some .int))
theorem mi_X11_firstWrongRow : MI m_X11_firstWrongRow 1 := ⟨w_986, w_86, ⟨by decide +kernel, by decide +kernel, by decide +kernel⟩, Nat.le_of_ble_eq_true rfl⟩
abbrev m_X11_isWetAt : Mth := (yX11_isWetAt, cX11_isWetAt, 3, (some .boolean))
theorem mi_X11_isWetAt : MI m_X11_isWetAt 2 := ⟨w_921, w_86, ⟨by decide +kernel, by decide +kernel, by decide +kernel⟩, Nat.le_of_ble_eq_true rfl⟩
abbrev m_X11_oddsUnderWater : Mth := (yX11_oddsUnderWater, cX11_oddsUnderWater, 4, (some .int))
theorem mi_X11_oddsUnderWater : MI m_X11_oddsUnderWater 1 := ⟨w_933, w_86, ⟨by decide +kernel, by decide +kernel, by decide +kernel⟩, Nat.le_of_ble_eq_true rfl⟩
abbrev m_X11_hourOfMostDrowned : Mth := (yX11_hourOfMostDrowned, cX11_hourOfMostDrowned, 5, (some .int))
theorem mi_X11_hourOfMostDrowned : MI m_X11_hourOfMostDrowned 0 := ⟨w_937, w_86, ⟨by decide +kernel, by decide +kernel, by decide +kernel⟩, Nat.le_of_ble_eq_true rfl⟩
abbrev m_X11_tellsCellsAlone : Mth := (yX11_tellsCellsAlone, cX11_tellsCellsAlone, 2, (some .boolean))
theorem mi_X11_tellsCellsAlone : MI m_X11_tellsCellsAlone 1 := ⟨w_952, w_86, ⟨by decide +kernel, by decide +kernel, by decide +kernel⟩, Nat.le_of_ble_eq_true rfl⟩
abbrev m_X11_addPicture : Mth := (yX11_addPicture, cX11_addPicture, 4, none)
theorem mi_X11_addPicture : MI m_X11_addPicture 2 := ⟨w_965, w_86, ⟨by decide +kernel, by decide +kernel, by decide +kernel⟩, Nat.le_of_ble_eq_true rfl⟩
abbrev m_X12_in : Mth := (yX12_in, cX12_in, 6, (some .boolean))
theorem mi_X12_in : MI m_X12_in 3 := ⟨w_1255, w_96, ⟨by decide +kernel, by decide +kernel, by decide +kernel⟩, Nat.le_of_ble_eq_true rfl⟩
abbrev m_X12_within : Mth := (yX12_within, cX12_within, 3, (some .int))
theorem mi_X12_within : MI m_X12_within 3 := ⟨w_1368, w_96, ⟨by decide +kernel, by decide +kernel, by decide +kernel⟩, Nat.le_of_ble_eq_true rfl⟩
abbrev m_X12_init : Mth := (yX12_init, cX12_init, 1, none)
theorem mi_X12_init : MI m_X12_init 0 := ⟨w_1079, w_96, ⟨by decide +kernel, by decide +kernel, by decide +kernel⟩, Nat.le_of_ble_eq_true rfl⟩
abbrev m_X12_spell : Mth := (yX12_spell, cX12_spell, 10, none)
theorem mi_X12_spell : MI m_X12_spell 9 := ⟨w_1084, w_96, ⟨by decide +kernel, by decide +kernel, by decide +kernel⟩, Nat.le_of_ble_eq_true rfl⟩
abbrev m_X12_isCell : Mth := (yX12_isCell, cX12_isCell, 1, (some .boolean))
theorem mi_X12_isCell : MI m_X12_isCell 1 := ⟨w_1258, w_96, ⟨by decide +kernel, by decide +kernel, by decide +kernel⟩, Nat.le_of_ble_eq_true rfl⟩
abbrev m_X12_isLooker : Mth := (yX12_isLooker, cX12_isLooker, 2, (some .boolean))
theorem mi_X12_isLooker : MI m_X12_isLooker 1 := ⟨w_1384, w_96, ⟨by decide +kernel, by decide +kernel, by decide +kernel⟩, Nat.le_of_ble_eq_true rfl⟩
abbrev m_X12_set : Mth := (yX12_set, cX12_set, 5, (some .int))
theorem mi_X12_set : MI m_X12_set 3 := ⟨w_1251, w_96, ⟨by decide +kernel, by decide +kernel, by decide +kernel⟩, Nat.le_of_ble_eq_true rfl⟩
abbrev m_X12_looker : Mth := (yX12_looker, cX12_looker, 3, (some .int))
theorem mi_X12_looker : MI m_X12_looker 2 := ⟨w_1267, w_96, ⟨by decide +kernel, by decide +kernel, by decide +kernel⟩, Nat.le_of_ble_eq_true rfl⟩
abbrev m_X12_feed : Mth := (yX12_feed, cX12_feed, 2, (some .int))
theorem mi_X12_feed : MI m_X12_feed 1 := ⟨w_1273, w_96, ⟨by decide +kernel, by decide +kernel, by decide +kernel⟩, Nat.le_of_ble_eq_true rfl⟩
abbrev m_X12_byteAt : Mth := (yX12_byteAt, cX12_byteAt, 2, (some .int))
theorem mi_X12_byteAt : MI m_X12_byteAt 1 := ⟨w_1290, w_96, ⟨by decide +kernel, by decide +kernel, by decide +kernel⟩, Nat.le_of_ble_eq_true rfl⟩
abbrev m_X12_nextToken : Mth := (yX12_nextToken, cX12_nextToken, 3, none)
theorem mi_X12_nextToken : MI m_X12_nextToken 0 := ⟨w_1286, w_96, ⟨by decide +kernel, by decide +kernel, by decide +kernel⟩, Nat.le_of_ble_eq_true rfl⟩
abbrev m_X12_fail : Mth := (yX12_fail, cX12_fail, 1, none)
theorem mi_X12_fail : MI m_X12_fail 0 := ⟨w_1311, w_96, ⟨by decide +kernel, by decide +kernel, by decide +kernel⟩, Nat.le_of_ble_eq_true rfl⟩
abbrev m_X12_isLetter : Mth := (yX12_isLetter, cX12_isLetter, 3, (some .boolean))
theorem mi_X12_isLetter : MI m_X12_isLetter 2 := ⟨w_1303, w_96, ⟨by decide +kernel, by decide +kernel, by decide +kernel⟩, Nat.le_of_ble_eq_true rfl⟩
abbrev m_X12_isWord : Mth := (yX12_isWord, cX12_isWord, 9, (some .boolean))
theorem mi_X12_isWord : MI m_X12_isWord 8 := ⟨w_1299, w_96, ⟨by decide +kernel, by decide +kernel, by decide +kernel⟩, Nat.le_of_ble_eq_true rfl⟩
abbrev m_X12_isSign : Mth := (yX12_isSign, cX12_isSign, 2, (some .boolean))
theorem mi_X12_isSign : MI m_X12_isSign 1 := ⟨w_1343, w_96, ⟨by decide +kernel, by decide +kernel, by decide +kernel⟩, Nat.le_of_ble_eq_true rfl⟩
abbrev m_X12_opens : Mth := (yX12_opens, cX12_opens, 1, (some .boolean))
theorem mi_X12_opens : MI m_X12_opens 0 := ⟨w_1327, w_96, ⟨by decide +kernel, by decide +kernel, by decide +kernel⟩, Nat.le_of_ble_eq_true rfl⟩
abbrev m_X12_name : Mth := (yX12_name, cX12_name, 1, (some .int))
theorem mi_X12_name : MI m_X12_name 0 := ⟨w_1347, w_96, ⟨by decide +kernel, by decide +kernel, by decide +kernel⟩, Nat.le_of_ble_eq_true rfl⟩
abbrev m_X12_atom : Mth := (yX12_atom, cX12_atom, 2, (some .int))
theorem mi_X12_atom : MI m_X12_atom 0 := ⟨w_1339, w_96, ⟨by decide +kernel, by decide +kernel, by decide +kernel⟩, Nat.le_of_ble_eq_true rfl⟩
abbrev m_X12_term : Mth := (yX12_term, cX12_term, 2, (some .int))
theorem mi_X12_term : MI m_X12_term 0 := ⟨w_1335, w_96, ⟨by decide +kernel, by decide +kernel, by decide +kernel⟩, Nat.le_of_ble_eq_true rfl⟩
abbrev m_X12_added : Mth := (yX12_added, cX12_added, 4, (some .int))
theorem mi_X12_added : MI m_X12_added 0 := ⟨w_1331, w_96, ⟨by decide +kernel, by decide +kernel, by decide +kernel⟩, Nat.le_of_ble_eq_true rfl⟩
abbrev m_X12_not : Mth := (yX12_not, cX12_not, 4, (some .int))
theorem mi_X12_not : MI m_X12_not 0 := ⟨w_1323, w_96, ⟨by decide +kernel, by decide +kernel, by decide +kernel⟩, Nat.le_of_ble_eq_true rfl⟩
abbrev m_X12_both : Mth := (yX12_both, cX12_both, 3, (some .int))
theorem mi_X12_both : MI m_X12_both 0 := ⟨w_1319, w_96, ⟨by decide +kernel, by decide +kernel, by decide +kernel⟩, Nat.le_of_ble_eq_true rfl⟩
abbrev m_X12_either : Mth := (yX12_either, cX12_either, 3, (some .int))
theorem mi_X12_either : MI m_X12_either 0 := ⟨w_1315, w_96, ⟨by decide +kernel, by decide +kernel, by decide +kernel⟩, Nat.le_of_ble_eq_true rfl⟩
abbrev m_X12_part : Mth := (yX12_part, cX12_part, 3, (some .int))
theorem mi_X12_part : MI m_X12_part 1 := ⟨w_1307, w_96, ⟨by decide +kernel, by decide +kernel, by decide +kernel⟩, Nat.le_of_ble_eq_true rfl⟩
abbrev m_X12_read : Mth := (yX12_read, cX12_read, 6, (some .int))
theorem mi_X12_read : MI m_X12_read 2 := ⟨w_1282, w_96, ⟨by decide +kernel, by decide +kernel, by decide +kernel⟩, Nat.le_of_ble_eq_true rfl⟩
abbrev m_X12_text : Mth := (yX12_text, cX12_text, 2, (some .int))
theorem mi_X12_text : MI m_X12_text 0 := ⟨w_1278, w_96, ⟨by decide +kernel, by decide +kernel, by decide +kernel⟩, Nat.le_of_ble_eq_true rfl⟩
abbrev m_X12_force : Mth := (yX12_force, cX12_force, 3, (some .int))
theorem mi_X12_force : MI m_X12_force 1 := ⟨w_1353, w_96, ⟨by decide +kernel, by decide +kernel, by decide +kernel⟩, Nat.le_of_ble_eq_true rfl⟩
abbrev m_X12_says : Mth := (yX12_says, cX12_says, 5, (some .int))
theorem mi_X12_says : MI m_X12_says 3 := ⟨w_1365, w_96, ⟨by decide +kernel, by decide +kernel, by decide +kernel⟩, Nat.le_of_ble_eq_true rfl⟩
abbrev m_X12_deep : Mth := (yX12_deep, cX12_deep, 2, (some .int))
theorem mi_X12_deep : MI m_X12_deep 1 := ⟨w_1361, w_96, ⟨by decide +kernel, by decide +kernel, by decide +kernel⟩, Nat.le_of_ble_eq_true rfl⟩
abbrev m_X12_isUnder : Mth := (yX12_isUnder, cX12_isUnder, 2, (some .boolean))
theorem mi_X12_isUnder : MI m_X12_isUnder 1 := ⟨w_1376, w_96, ⟨by decide +kernel, by decide +kernel, by decide +kernel⟩, Nat.le_of_ble_eq_true rfl⟩
abbrev m_X12_shine : Mth := (yX12_shine, cX12_shine, 2, (some .int))
theorem mi_X12_shine : MI m_X12_shine 1 := ⟨w_1372, w_96, ⟨by decide +kernel, by decide +kernel, by decide +kernel⟩, Nat.le_of_ble_eq_true rfl⟩
abbrev m_X12_told : Mth := (yX12_told, cX12_told, 3, (some .int))
theorem mi_X12_told : MI m_X12_told 2 := ⟨w_1357, w_96, ⟨by decide +kernel, by decide +kernel, by decide +kernel⟩, Nat.le_of_ble_eq_true rfl⟩
abbrev m_X12_finds : Mth := (yX12_finds, cX12_finds, 7, (some .int))
theorem mi_X12_finds : MI m_X12_finds 3 := ⟨w_1392, w_96, ⟨by decide +kernel, by decide +kernel, by decide +kernel⟩, Nat.le_of_ble_eq_true rfl⟩
abbrev m_X12_takes : Mth := (yX12_takes, cX12_takes, 3, (some .int))
theorem mi_X12_takes : MI m_X12_takes 1 := ⟨w_1396, w_96, ⟨by decide +kernel, by decide +kernel, by decide +kernel⟩, Nat.le_of_ble_eq_true rfl⟩
abbrev m_X12_stamps : Mth := (yX12_stamps, cX12_stamps, 3, (some .int))
theorem mi_X12_stamps : MI m_X12_stamps 1 := ⟨w_1400, w_96, ⟨by decide +kernel, by decide +kernel, by decide +kernel⟩, Nat.le_of_ble_eq_true rfl⟩
abbrev m_X12_good : Mth := (yX12_good, cX12_good, 3, (some .int))
theorem mi_X12_good : MI m_X12_good 2 := ⟨w_1388, w_96, ⟨by decide +kernel, by decide +kernel, by decide +kernel⟩, Nat.le_of_ble_eq_true rfl⟩
abbrev m_X12_gain : Mth := (yX12_gain, cX12_gain, 3, (some .int))
theorem mi_X12_gain : MI m_X12_gain 2 := ⟨w_1404, w_96, ⟨by decide +kernel, by decide +kernel, by decide +kernel⟩, Nat.le_of_ble_eq_true rfl⟩
abbrev m_X12_asks : Mth := (yX12_asks, cX12_asks, 4, (some .int))
theorem mi_X12_asks : MI m_X12_asks 3 := ⟨w_1380, w_96, ⟨by decide +kernel, by decide +kernel, by decide +kernel⟩, Nat.le_of_ble_eq_true rfl⟩
abbrev m_X12_looks : Mth := (yX12_looks, cX12_looks, 3, none)
theorem mi_X12_looks : MI m_X12_looks 2 := ⟨w_1412, w_96, ⟨by decide +kernel, by decide +kernel, by decide +kernel⟩, Nat.le_of_ble_eq_true rfl⟩
abbrev m_X12_look : Mth := (yX12_look, cX12_look, 3, (some .int))
theorem mi_X12_look : MI m_X12_look 2 := ⟨w_1408, w_96, ⟨by decide +kernel, by decide +kernel, by decide +kernel⟩, Nat.le_of_ble_eq_true rfl⟩
abbrev m_X12_best : Mth := (yX12_best, cX12_best, 6, none)
theorem mi_X12_best : MI m_X12_best 0 := ⟨w_1421, w_96, ⟨by decide +kernel, by decide +kernel, by decide +kernel⟩, Nat.le_of_ble_eq_true rfl⟩
abbrev m_X12_next : Mth := (yX12_next, cX12_next, 2, (some .int))
theorem mi_X12_next : MI m_X12_next 1 := ⟨w_1416, w_96, ⟨by decide +kernel, by decide +kernel, by decide +kernel⟩, Nat.le_of_ble_eq_true rfl⟩
abbrev m_X12_search : Mth := (yX12_search, cX12_search, 2, (some .int))
theorem mi_X12_search : MI m_X12_search 0 := ⟨w_1425, w_96, ⟨by decide +kernel, by decide +kernel, by decide +kernel⟩, Nat.le_of_ble_eq_true rfl⟩
abbrev m_X12_laysAside : Mth := (yX12_laysAside, cX12_laysAside, 2, none)
theorem mi_X12_laysAside : MI m_X12_laysAside 0 := ⟨w_1438, w_96, ⟨by decide +kernel, by decide +kernel, by decide +kernel⟩, Nat.le_of_ble_eq_true rfl⟩
abbrev m_X12_laysBack : Mth := (yX12_laysBack, cX12_laysBack, 2, none)
theorem mi_X12_laysBack : MI m_X12_laysBack 0 := ⟨w_1442, w_96, ⟨by decide +kernel, by decide +kernel, by decide +kernel⟩, Nat.le_of_ble_eq_true rfl⟩
abbrev m_X12_plans : Mth := (yX12_plans, cX12_plans, 4, none)
theorem mi_X12_plans : MI m_X12_plans 1 := ⟨w_1434, w_96, ⟨by decide +kernel, by decide +kernel, by decide +kernel⟩, Nat.le_of_ble_eq_true rfl⟩
abbrev m_X12_plan : Mth := (yX12_plan, cX12_plan, 5, (some .int))
theorem mi_X12_plan : MI m_X12_plan 2 := ⟨w_1429, w_96, ⟨by decide +kernel, by decide +kernel, by decide +kernel⟩, Nat.le_of_ble_eq_true rfl⟩
abbrev m_X12_planned : Mth := (yX12_planned, cX12_planned, 2, (some .int))
theorem mi_X12_planned : MI m_X12_planned 1 := ⟨w_1446, w_96, ⟨by decide +kernel, by decide +kernel, by decide +kernel⟩, Nat.le_of_ble_eq_true rfl⟩
abbrev m_X12_giveUp : Mth := (yX12_giveUp, cX12_giveUp, 3, (some .int))
theorem mi_X12_giveUp : MI m_X12_giveUp 1 := ⟨w_1451, w_96, ⟨by decide +kernel, by decide +kernel, by decide +kernel⟩, Nat.le_of_ble_eq_true rfl⟩
abbrev m_X12_onCells : Mth := (yX12_onCells, cX12_onCells, 3, (some .int))
theorem mi_X12_onCells : MI m_X12_onCells 0 := ⟨w_1459, w_96, ⟨by decide +kernel, by decide +kernel, by decide +kernel⟩, Nat.le_of_ble_eq_true rfl⟩
abbrev m_X12_lowest : Mth := (yX12_lowest, cX12_lowest, 11, (some .long))
theorem mi_X12_lowest : MI m_X12_lowest 3 := ⟨w_1462, w_96, ⟨by decide +kernel, by decide +kernel, by decide +kernel⟩, Nat.le_of_ble_eq_true rfl⟩
abbrev m_X12_likely : Mth := (yX12_likely, cX12_likely, 3, (some .long))
theorem mi_X12_likely : MI m_X12_likely 2 := ⟨w_1455, w_96, ⟨by decide +kernel, by decide +kernel, by decide +kernel⟩, Nat.le_of_ble_eq_true rfl⟩
abbrev m_X12_here : Mth := (yX12_here, cX12_here, 2, (some .long))
theorem mi_X12_here : MI m_X12_here 1 := ⟨w_1467, w_96, ⟨by decide +kernel, by decide +kernel, by decide +kernel⟩, Nat.le_of_ble_eq_true rfl⟩
abbrev m_X12_most : Mth := (yX12_most, cX12_most, 5, (some .int))
theorem mi_X12_most : MI m_X12_most 1 := ⟨w_1471, w_96, ⟨by decide +kernel, by decide +kernel, by decide +kernel⟩, Nat.le_of_ble_eq_true rfl⟩
abbrev m_X12_under : Mth := (yX12_under, cX12_under, 4, (some .int))
theorem mi_X12_under : MI m_X12_under 1 := ⟨w_1475, w_96, ⟨by decide +kernel, by decide +kernel, by decide +kernel⟩, Nat.le_of_ble_eq_true rfl⟩
abbrev m_X12_drownedNow : Mth := (yX12_drownedNow, cX12_drownedNow, 3, (some .int))
theorem mi_X12_drownedNow : MI m_X12_drownedNow 0 := ⟨w_1483, w_96, ⟨by decide +kernel, by decide +kernel, by decide +kernel⟩, Nat.le_of_ble_eq_true rfl⟩
abbrev m_X12_drowned : Mth := (yX12_drowned, cX12_drowned, 6, (some .int))
theorem mi_X12_drowned : MI m_X12_drowned 1 := ⟨w_1479, w_96, ⟨by decide +kernel, by decide +kernel, by decide +kernel⟩, Nat.le_of_ble_eq_true rfl⟩
abbrev m_X12_more : Mth := (yX12_more, cX12_more, 3, none)
theorem mi_X12_more : MI m_X12_more 2 := ⟨w_1496, w_96, ⟨by decide +kernel, by decide +kernel, by decide +kernel⟩, Nat.le_of_ble_eq_true rfl⟩
abbrev m_X12_seen : Mth := (yX12_seen, cX12_seen, 5, (some .int))
theorem mi_X12_seen : MI m_X12_seen 2 := ⟨w_1487, w_96, ⟨by decide +kernel, by decide +kernel, by decide +kernel⟩, Nat.le_of_ble_eq_true rfl⟩
abbrev m_X12_crowd : Mth := (yX12_crowd, cX12_crowd, 5, (some .int))
theorem mi_X12_crowd : MI m_X12_crowd 3 := ⟨w_1501, w_96, ⟨by decide +kernel, by decide +kernel, by decide +kernel⟩, Nat.le_of_ble_eq_true rfl⟩
abbrev m_X12_judges : Mth := (yX12_judges, cX12_judges, 6, (some .int))
theorem mi_X12_judges : MI m_X12_judges 1 := ⟨w_1510, w_96, ⟨by decide +kernel, by decide +kernel, by decide +kernel⟩, Nat.le_of_ble_eq_true rfl⟩
abbrev m_X12_judge : Mth := (yX12_judge, cX12_judge, 2, (some .int))
theorem mi_X12_judge : MI m_X12_judge 1 := ⟨w_1506, w_96, ⟨by decide +kernel, by decide +kernel, by decide +kernel⟩, Nat.le_of_ble_eq_true rfl⟩
abbrev m_X12_found : Mth := (yX12_found, cX12_found, 4, (some .long))
theorem mi_X12_found : MI m_X12_found 2 := ⟨w_1514, w_96, ⟨by decide +kernel, by decide +kernel, by decide +kernel⟩, Nat.le_of_ble_eq_true rfl⟩
abbrev m_X12_drawn : Mth := (yX12_drawn, cX12_drawn, 7, (some .int))
theorem mi_X12_drawn : MI m_X12_drawn 1 := ⟨w_1518, w_96, ⟨by decide +kernel, by decide +kernel, by decide +kernel⟩, Nat.le_of_ble_eq_true rfl⟩
abbrev m_X12_foundBy : Mth := (yX12_foundBy, cX12_foundBy, 8, (some .int))
theorem mi_X12_foundBy : MI m_X12_foundBy 2 := ⟨w_1523, w_96, ⟨by decide +kernel, by decide +kernel, by decide +kernel⟩, Nat.le_of_ble_eq_true rfl⟩
abbrev m_X12_image : Mth := (yX12_image, cX12_image, 2, (some .int))
theorem mi_X12_image : MI m_X12_image 0 := ⟨w_1528, w_96, ⟨by decide +kernel, by decide +kernel, by decide +kernel⟩, Nat.le_of_ble_eq_true rfl⟩
abbrev m_X12_back : Mth := (yX12_back, cX12_back, 2, (some .int))
theorem mi_X12_back : MI m_X12_back 0 := ⟨w_1532, w_96, ⟨by decide +kernel, by decide +kernel, by decide +kernel⟩, Nat.le_of_ble_eq_true rfl⟩
abbrev m_X12_count : Mth := (yX12_count, cX12_count, 4, (some .int))
theorem mi_X12_count : MI m_X12_count 1 := ⟨w_1536, w_96, ⟨by decide +kernel, by decide +kernel, by decide +kernel⟩, Nat.le_of_ble_eq_true rfl⟩
abbrev m_X12_isSheet : Mth := (yX12_isSheet, cX12_isSheet, 1, (some .boolean))
theorem mi_X12_isSheet : MI m_X12_isSheet 1 := ⟨w_1490, w_96, ⟨by decide +kernel, by decide +kernel, by decide +kernel⟩, Nat.le_of_ble_eq_true rfl⟩
abbrev m_X12_sheet : Mth := (yX12_sheet, cX12_sheet, 5, (some .int))
theorem mi_X12_sheet : MI m_X12_sheet 3 := ⟨w_1541, w_96, ⟨by decide +kernel, by decide +kernel, by decide +kernel⟩, Nat.le_of_ble_eq_true rfl⟩
abbrev m_X12_cell : Mth := (yX12_cell, cX12_cell, 4, (some .int))
theorem mi_X12_cell : MI m_X12_cell 3 := ⟨w_1546, w_96, ⟨by decide +kernel, by decide +kernel, by decide +kernel⟩, Nat.le_of_ble_eq_true rfl⟩
abbrev m_X12_copy : Mth := (yX12_copy, cX12_copy, 9, (some .int))
theorem mi_X12_copy : MI m_X12_copy 5 := ⟨w_1550, w_96, ⟨by decide +kernel, by decide +kernel, by decide +kernel⟩, Nat.le_of_ble_eq_true rfl⟩
abbrev m_X12_lookers : Mth := (yX12_lookers, cX12_lookers, 8, (some .int))
theorem mi_X12_lookers : MI m_X12_lookers 4 := ⟨w_1554, w_96, ⟨by decide +kernel, by decide +kernel, by decide +kernel⟩, Nat.le_of_ble_eq_true rfl⟩
abbrev m_X12_over : Mth := (yX12_over, cX12_over, 1, (some .int))
theorem mi_X12_over : MI m_X12_over 1 := ⟨w_1563, w_96, ⟨by decide +kernel, by decide +kernel, by decide +kernel⟩, Nat.le_of_ble_eq_true rfl⟩
abbrev m_X12_taken : Mth := (yX12_taken, cX12_taken, 4, (some .int))
theorem mi_X12_taken : MI m_X12_taken 2 := ⟨w_1560, w_96, ⟨by decide +kernel, by decide +kernel, by decide +kernel⟩, Nat.le_of_ble_eq_true rfl⟩
theorem k_X0_3 : MO RX0 3 := ⟨w_119, w_112, w_113⟩
theorem p_X0_9 : FL RX0 9 0 0 1 true := ⟨RX0, TX0, 6, tyX0, "RingInSand$Beach", ok_c0, Nat.le_of_ble_eq_true rfl, rfl, rfl, w_120, Or.inl rfl, fun h => by first | rfl | cases h⟩
theorem p_X0_15 : FL RX0 15 0 1 1 true := ⟨RX0, TX0, 6, tyX0, "RingInSand$Beach", ok_c0, Nat.le_of_ble_eq_true rfl, rfl, rfl, w_122, Or.inl rfl, fun h => by first | rfl | cases h⟩
theorem p_X0_18 : FL RX0 18 0 3 0 false := ⟨RX0, TX0, 6, tyX0, "RingInSand$Beach", ok_c0, Nat.le_of_ble_eq_true rfl, rfl, rfl, w_127, Or.inl rfl, fun h => by first | rfl | cases h⟩
theorem g_X0_9 : FG RX0 9 0 0 1 := ⟨RX0, TX0, 6, tyX0, "RingInSand$Beach", ok_c0, Nat.le_of_ble_eq_true rfl, rfl, w_120, Or.inl rfl⟩
theorem k_X0_22 : mA RX0 22 := ⟨w_850, w_852, w_851, w_104⟩
theorem g_X0_15 : FG RX0 15 0 1 1 := ⟨RX0, TX0, 6, tyX0, "RingInSand$Beach", ok_c0, Nat.le_of_ble_eq_true rfl, rfl, w_122, Or.inl rfl⟩
theorem g_X0_28 : FG RX0 28 0 2 0 := ⟨RX0, TX0, 6, tyX0, "RingInSand$Beach", ok_c0, Nat.le_of_ble_eq_true rfl, rfl, w_125, Or.inl rfl⟩
theorem p_X0_28 : FL RX0 28 0 2 0 false := ⟨RX0, TX0, 6, tyX0, "RingInSand$Beach", ok_c0, Nat.le_of_ble_eq_true rfl, rfl, rfl, w_125, Or.inl rfl, fun h => by first | rfl | cases h⟩
theorem g_X0_18 : FG RX0 18 0 3 0 := ⟨RX0, TX0, 6, tyX0, "RingInSand$Beach", ok_c0, Nat.le_of_ble_eq_true rfl, rfl, w_127, Or.inl rfl⟩
theorem g_X0_31 : FG RX0 31 0 4 0 := ⟨RX0, TX0, 6, tyX0, "RingInSand$Beach", ok_c0, Nat.le_of_ble_eq_true rfl, rfl, w_130, Or.inl rfl⟩
theorem p_X0_31 : FL RX0 31 0 4 0 false := ⟨RX0, TX0, 6, tyX0, "RingInSand$Beach", ok_c0, Nat.le_of_ble_eq_true rfl, rfl, rfl, w_130, Or.inl rfl, fun h => by first | rfl | cases h⟩
theorem g_X0_34 : FG RX0 34 0 5 0 := ⟨RX0, TX0, 6, tyX0, "RingInSand$Beach", ok_c0, Nat.le_of_ble_eq_true rfl, rfl, w_132, Or.inl rfl⟩
theorem p_X0_34 : FL RX0 34 0 5 0 false := ⟨RX0, TX0, 6, tyX0, "RingInSand$Beach", ok_c0, Nat.le_of_ble_eq_true rfl, rfl, rfl, w_132, Or.inl rfl, fun h => by first | rfl | cases h⟩
theorem k_X0_37 : MN RX0 37 m_X11_isCell 1 := ⟨mi_X11_isCell, ⟨"RingInSand", List.mem_of_getElem? (i := 630) (by decide +kernel)⟩, w_556⟩
theorem c_X0_41 : Cond.constant RX0 41 (999999) ∈ TG := w_970
theorem k_X0_42 : mJ RX0 42 Lib.Math.min.name Lib.Math.min.code 2 := ⟨w_821, w_623, w_97, w_624⟩
theorem k_X0_48 : MV RX0 48 0 m_X0_oddsOnCells 0 := ⟨mi_X0_oddsOnCells, w_891, w_892, w_893, ⟨_, _, rfl⟩, Nat.le_of_ble_eq_true rfl⟩
theorem k_X1_1 : MO RX1 1 := ⟨w_650, w_112, w_113⟩
theorem p_X1_7_1 : FL RX1 7 1 0 0 true := ⟨RX1, TX1, 1, tyX1, "RingInSand$Eyes", ok_c1, Nat.le_of_ble_eq_true rfl, rfl, rfl, w_651, Or.inl rfl, fun h => by first | rfl | cases h⟩
theorem p_X1_7_2 : FL RX1 7 2 0 0 true := ⟨RX2, TX2, 1, tyX2, "RingInSand$Eyes", ok_c2, Nat.le_of_ble_eq_true rfl, rfl, rfl, w_651, Or.inl rfl, fun h => by first | rfl | cases h⟩
theorem p_X1_7_3 : FL RX1 7 3 0 0 true := ⟨RX3, TX3, 1, tyX3, "RingInSand$Eyes", ok_c3, Nat.le_of_ble_eq_true rfl, rfl, rfl, w_651, Or.inl rfl, fun h => by first | rfl | cases h⟩
theorem p_X1_7_4 : FL RX1 7 4 0 0 true := ⟨RX4, TX4, 1, tyX4, "RingInSand$Eyes", ok_c4, Nat.le_of_ble_eq_true rfl, rfl, rfl, w_651, Or.inl rfl, fun h => by first | rfl | cases h⟩
theorem p_X1_7_7 : FL RX1 7 7 0 0 true := ⟨RX7, TX7, 1, tyX7, "RingInSand$Eyes", ok_c7, Nat.le_of_ble_eq_true rfl, rfl, rfl, w_651, Or.inl rfl, fun h => by first | rfl | cases h⟩
theorem p_X1_7_8 : FL RX1 7 8 0 0 true := ⟨RX8, TX8, 1, tyX8, "RingInSand$Eyes", ok_c8, Nat.le_of_ble_eq_true rfl, rfl, rfl, w_651, Or.inl rfl, fun h => by first | rfl | cases h⟩
theorem k_X2_1 : MC RX2 1 m_X1_init 1 := ⟨mi_X1_init, w_647, w_648, rfl, rfl⟩
theorem g_X2_7_2 : FG RX2 7 2 0 0 := ⟨RX2, TX2, 1, tyX2, "RingInSand$Hands", ok_c2, Nat.le_of_ble_eq_true rfl, rfl, w_652, Or.inr w_653⟩
theorem g_X2_7_7 : FG RX2 7 7 0 0 := ⟨RX7, TX7, 1, tyX7, "RingInSand$Hands", ok_c7, Nat.le_of_ble_eq_true rfl, rfl, w_652, Or.inr w_653⟩
theorem g_X2_7_8 : FG RX2 7 8 0 0 := ⟨RX8, TX8, 1, tyX8, "RingInSand$Hands", ok_c8, Nat.le_of_ble_eq_true rfl, rfl, w_652, Or.inr w_653⟩
theorem k_X2_13_2 : MP RX2 13 2 m_X1_takes 0 := ⟨mi_X1_takes, w_744, w_740, w_661, w_738, ⟨_, _, _, rfl⟩, Nat.le_of_ble_eq_true rfl, by decide +kernel⟩
theorem k_X2_13_7 : MP RX2 13 7 m_X1_takes 0 := ⟨mi_X1_takes, w_744, w_740, w_661, w_738, ⟨_, _, _, rfl⟩, Nat.le_of_ble_eq_true rfl, by decide +kernel⟩
theorem k_X2_13_8 : MP RX2 13 8 m_X1_takes 0 := ⟨mi_X1_takes, w_744, w_740, w_661, w_738, ⟨_, _, _, rfl⟩, Nat.le_of_ble_eq_true rfl, by decide +kernel⟩
theorem k_X2_17_2 : MP RX2 17 2 m_X1_stamps 0 := ⟨mi_X1_stamps, w_772, w_768, w_661, w_766, ⟨_, _, _, rfl⟩, Nat.le_of_ble_eq_true rfl, by decide +kernel⟩
theorem k_X2_17_7 : MP RX2 17 7 m_X1_stamps 0 := ⟨mi_X1_stamps, w_772, w_768, w_661, w_766, ⟨_, _, _, rfl⟩, Nat.le_of_ble_eq_true rfl, by decide +kernel⟩
theorem k_X2_17_8 : MP RX2 17 8 m_X1_stamps 0 := ⟨mi_X1_stamps, w_772, w_768, w_661, w_766, ⟨_, _, _, rfl⟩, Nat.le_of_ble_eq_true rfl, by decide +kernel⟩
theorem k_X3_1 : MC RX3 1 m_X4_init 1 := ⟨mi_X4_init, w_691, w_673, rfl, rfl⟩
theorem k_X3_7_3 : MP RX3 7 3 m_X4_finds 2 := ⟨mi_X4_finds, w_720, w_1564, w_693, w_721, ⟨_, _, _, rfl⟩, Nat.le_of_ble_eq_true rfl, by decide +kernel⟩
theorem g_X3_11 : FG RX3 11 3 0 0 := ⟨RX3, TX3, 1, tyX3, "RingInSand$Lad", ok_c3, Nat.le_of_ble_eq_true rfl, rfl, w_654, Or.inr w_655⟩
theorem k_X3_17_3 : MP RX3 17 3 m_X4_takes 0 := ⟨mi_X4_takes, w_748, w_1566, w_693, w_749, ⟨_, _, _, rfl⟩, Nat.le_of_ble_eq_true rfl, by decide +kernel⟩
theorem k_X4_1 : MC RX4 1 m_X1_init 1 := ⟨mi_X1_init, w_675, w_648, rfl, rfl⟩
theorem k_X4_7_4 : MP RX4 7 4 m_X1_takes 0 := ⟨mi_X1_takes, w_751, w_740, w_677, w_738, ⟨_, _, _, rfl⟩, Nat.le_of_ble_eq_true rfl, by decide +kernel⟩
theorem k_X4_7_3 : MP RX4 7 3 m_X1_takes 0 := ⟨mi_X1_takes, w_751, w_740, w_677, w_738, ⟨_, _, _, rfl⟩, Nat.le_of_ble_eq_true rfl, by decide +kernel⟩
theorem k_X5_3 : MO RX5 3 := ⟨w_210, w_112, w_113⟩
theorem p_X5_9 : FL RX5 9 5 0 1 true := ⟨RX5, TX5, 13, tyX5, "RingInSand$Rules", ok_c5, Nat.le_of_ble_eq_true rfl, rfl, rfl, w_211, Or.inl rfl, fun h => by first | rfl | cases h⟩
theorem p_X5_15 : FL RX5 15 5 1 1 true := ⟨RX5, TX5, 13, tyX5, "RingInSand$Rules", ok_c5, Nat.le_of_ble_eq_true rfl, rfl, rfl, w_212, Or.inl rfl, fun h => by first | rfl | cases h⟩
theorem p_X5_18 : FL RX5 18 5 3 1 true := ⟨RX5, TX5, 13, tyX5, "RingInSand$Rules", ok_c5, Nat.le_of_ble_eq_true rfl, rfl, rfl, w_215, Or.inl rfl, fun h => by first | rfl | cases h⟩
theorem p_X5_21 : FL RX5 21 5 4 1 true := ⟨RX5, TX5, 13, tyX5, "RingInSand$Rules", ok_c5, Nat.le_of_ble_eq_true rfl, rfl, rfl, w_216, Or.inl rfl, fun h => by first | rfl | cases h⟩
theorem p_X5_24 : FL RX5 24 5 6 1 true := ⟨RX5, TX5, 13, tyX5, "RingInSand$Rules", ok_c5, Nat.le_of_ble_eq_true rfl, rfl, rfl, w_218, Or.inl rfl, fun h => by first | rfl | cases h⟩
theorem p_X5_27 : FL RX5 27 5 7 1 true := ⟨RX5, TX5, 13, tyX5, "RingInSand$Rules", ok_c5, Nat.le_of_ble_eq_true rfl, rfl, rfl, w_219, Or.inl rfl, fun h => by first | rfl | cases h⟩
theorem p_X5_30 : FL RX5 30 5 8 1 true := ⟨RX5, TX5, 13, tyX5, "RingInSand$Rules", ok_c5, Nat.le_of_ble_eq_true rfl, rfl, rfl, w_220, Or.inl rfl, fun h => by first | rfl | cases h⟩
theorem p_X5_33 : FL RX5 33 5 9 1 true := ⟨RX5, TX5, 13, tyX5, "RingInSand$Rules", ok_c5, Nat.le_of_ble_eq_true rfl, rfl, rfl, w_221, Or.inl rfl, fun h => by first | rfl | cases h⟩
theorem g_X5_36 : FG RX5 36 5 2 0 := ⟨RX5, TX5, 13, tyX5, "RingInSand$Rules", ok_c5, Nat.le_of_ble_eq_true rfl, rfl, w_213, Or.inl rfl⟩
theorem k_X5_40 : MN RX5 40 m_X11_isWithin 3 := ⟨mi_X11_isWithin, ⟨"RingInSand", List.mem_of_getElem? (i := 603) (by decide +kernel)⟩, w_425⟩
theorem k_X5_44 : MV RX5 44 5 m_X5_isFull 0 := ⟨mi_X5_isFull, w_491, w_492, w_493, ⟨_, _, rfl⟩, Nat.le_of_ble_eq_true rfl⟩
theorem g_X5_15 : FG RX5 15 5 1 1 := ⟨RX5, TX5, 13, tyX5, "RingInSand$Rules", ok_c5, Nat.le_of_ble_eq_true rfl, rfl, w_212, Or.inl rfl⟩
theorem g_X5_48 : FG RX5 48 10 11 0 := ⟨RX10, TX10, 14, tyX10, "RingInSand$Tape", ok_c10, Nat.le_of_ble_eq_true rfl, rfl, w_170, Or.inl rfl⟩
theorem g_X5_9 : FG RX5 9 5 0 1 := ⟨RX5, TX5, 13, tyX5, "RingInSand$Rules", ok_c5, Nat.le_of_ble_eq_true rfl, rfl, w_211, Or.inl rfl⟩
theorem k_X5_53 : MV RX5 53 10 m_X10_stepAt 1 := ⟨mi_X10_stepAt, w_495, w_496, w_497, ⟨_, _, rfl⟩, Nat.le_of_ble_eq_true rfl⟩
theorem g_X5_57 : FG RX5 57 10 12 0 := ⟨RX10, TX10, 14, tyX10, "RingInSand$Tape", ok_c10, Nat.le_of_ble_eq_true rfl, rfl, w_172, Or.inl rfl⟩
theorem g_X5_60 : FG RX5 60 10 13 0 := ⟨RX10, TX10, 14, tyX10, "RingInSand$Tape", ok_c10, Nat.le_of_ble_eq_true rfl, rfl, w_174, Or.inl rfl⟩
theorem p_X5_36 : FL RX5 36 5 2 0 false := ⟨RX5, TX5, 13, tyX5, "RingInSand$Rules", ok_c5, Nat.le_of_ble_eq_true rfl, rfl, rfl, w_213, Or.inl rfl, fun h => by first | rfl | cases h⟩
theorem k_X5_63 : MN RX5 63 m_X11_isCell 1 := ⟨mi_X11_isCell, ⟨"RingInSand", List.mem_of_getElem? (i := 584) (by decide +kernel)⟩, w_556⟩
theorem g_X5_67 : FG RX5 67 0 5 0 := ⟨RX0, TX0, 6, tyX0, "RingInSand$Beach", ok_c0, Nat.le_of_ble_eq_true rfl, rfl, w_133, Or.inl rfl⟩
theorem g_X5_72 : FG RX5 72 0 1 1 := ⟨RX0, TX0, 6, tyX0, "RingInSand$Beach", ok_c0, Nat.le_of_ble_eq_true rfl, rfl, w_123, Or.inl rfl⟩
theorem g_X5_75 : FG RX5 75 0 3 0 := ⟨RX0, TX0, 6, tyX0, "RingInSand$Beach", ok_c0, Nat.le_of_ble_eq_true rfl, rfl, w_128, Or.inl rfl⟩
theorem g_X5_24 : FG RX5 24 5 6 1 := ⟨RX5, TX5, 13, tyX5, "RingInSand$Rules", ok_c5, Nat.le_of_ble_eq_true rfl, rfl, w_218, Or.inl rfl⟩
theorem k_X5_78 : MV RX5 78 5 m_X5_stand 3 := ⟨mi_X5_stand, w_585, w_587, w_31, ⟨_, _, rfl⟩, Nat.le_of_ble_eq_true rfl⟩
theorem g_X5_27 : FG RX5 27 5 7 1 := ⟨RX5, TX5, 13, tyX5, "RingInSand$Rules", ok_c5, Nat.le_of_ble_eq_true rfl, rfl, w_219, Or.inl rfl⟩
theorem k_X5_82 : MV RX5 82 5 m_X5_value 2 := ⟨mi_X5_value, w_595, w_597, w_32, ⟨_, _, rfl⟩, Nat.le_of_ble_eq_true rfl⟩
theorem k_X5_86 : MN RX5 86 m_X11_bounded 3 := ⟨mi_X11_bounded, ⟨"RingInSand", List.mem_of_getElem? (i := 619) (by decide +kernel)⟩, w_620⟩
theorem g_X5_30 : FG RX5 30 5 8 1 := ⟨RX5, TX5, 13, tyX5, "RingInSand$Rules", ok_c5, Nat.le_of_ble_eq_true rfl, rfl, w_220, Or.inl rfl⟩
theorem g_X5_18 : FG RX5 18 5 3 1 := ⟨RX5, TX5, 13, tyX5, "RingInSand$Rules", ok_c5, Nat.le_of_ble_eq_true rfl, rfl, w_215, Or.inl rfl⟩
theorem g_X5_33 : FG RX5 33 5 9 1 := ⟨RX5, TX5, 13, tyX5, "RingInSand$Rules", ok_c5, Nat.le_of_ble_eq_true rfl, rfl, w_221, Or.inl rfl⟩
theorem p_X5_90 : FL RX5 90 5 10 0 false := ⟨RX5, TX5, 13, tyX5, "RingInSand$Rules", ok_c5, Nat.le_of_ble_eq_true rfl, rfl, rfl, w_223, Or.inl rfl, fun h => by first | rfl | cases h⟩
theorem p_X5_93 : FL RX5 93 5 11 3 false := ⟨RX5, TX5, 13, tyX5, "RingInSand$Rules", ok_c5, Nat.le_of_ble_eq_true rfl, rfl, rfl, w_225, Or.inl rfl, fun h => by first | rfl | cases h⟩
theorem p_X5_97 : FL RX5 97 5 12 0 false := ⟨RX5, TX5, 13, tyX5, "RingInSand$Rules", ok_c5, Nat.le_of_ble_eq_true rfl, rfl, rfl, w_227, Or.inl rfl, fun h => by first | rfl | cases h⟩
theorem k_X5_100 : mJ RX5 100 Lib.Math.abs.name Lib.Math.abs.code 1 := ⟨w_589, w_590, w_97, w_591⟩
theorem k_X5_105 : mJ RX5 105 Lib.Math.max.name Lib.Math.max.code 2 := ⟨w_592, w_593, w_97, w_594⟩
theorem p_X5_108 : FL RX5 108 5 5 0 false := ⟨RX5, TX5, 13, tyX5, "RingInSand$Rules", ok_c5, Nat.le_of_ble_eq_true rfl, rfl, rfl, w_217, Or.inl rfl, fun h => by first | rfl | cases h⟩
theorem k_X5_111 : MV RX5 111 5 m_X5_hasText 1 := ⟨mi_X5_hasText, w_599, w_600, w_601, ⟨_, _, rfl⟩, Nat.le_of_ble_eq_true rfl⟩
theorem k_X5_114 : MV RX5 114 5 m_X5_take 1 := ⟨mi_X5_take, w_604, w_606, w_33, ⟨_, _, rfl⟩, Nat.le_of_ble_eq_true rfl⟩
theorem k_X5_118 : MV RX5 118 5 m_X5_pop 0 := ⟨mi_X5_pop, w_612, w_614, w_35, ⟨_, _, rfl⟩, Nat.le_of_ble_eq_true rfl⟩
theorem k_X5_122 : MV RX5 122 5 m_X5_push 1 := ⟨mi_X5_push, w_608, w_610, w_34, ⟨_, _, rfl⟩, Nat.le_of_ble_eq_true rfl⟩
theorem k_X5_125 : MS RX5 125 m_X5_joined 3 := ⟨mi_X5_joined, w_616, w_617⟩
theorem g_X5_108 : FG RX5 108 5 5 0 := ⟨RX5, TX5, 13, tyX5, "RingInSand$Rules", ok_c5, Nat.le_of_ble_eq_true rfl, rfl, w_217, Or.inl rfl⟩
theorem g_X5_21 : FG RX5 21 5 4 1 := ⟨RX5, TX5, 13, tyX5, "RingInSand$Rules", ok_c5, Nat.le_of_ble_eq_true rfl, rfl, w_216, Or.inl rfl⟩
theorem k_X6_3 : MO RX6 3 := ⟨w_286, w_112, w_113⟩
theorem p_X6_9 : FL RX6 9 6 0 1 true := ⟨RX6, TX6, 3, tyX6, "RingInSand$Sheet", ok_c6, Nat.le_of_ble_eq_true rfl, rfl, rfl, w_287, Or.inl rfl, fun h => by first | rfl | cases h⟩
theorem p_X6_15 : FL RX6 15 6 1 0 false := ⟨RX6, TX6, 3, tyX6, "RingInSand$Sheet", ok_c6, Nat.le_of_ble_eq_true rfl, rfl, rfl, w_289, Or.inl rfl, fun h => by first | rfl | cases h⟩
theorem g_X6_15 : FG RX6 15 6 1 0 := ⟨RX6, TX6, 3, tyX6, "RingInSand$Sheet", ok_c6, Nat.le_of_ble_eq_true rfl, rfl, w_289, Or.inl rfl⟩
theorem g_X6_19 : FG RX6 19 6 2 0 := ⟨RX6, TX6, 3, tyX6, "RingInSand$Sheet", ok_c6, Nat.le_of_ble_eq_true rfl, rfl, w_291, Or.inl rfl⟩
theorem p_X6_19 : FL RX6 19 6 2 0 false := ⟨RX6, TX6, 3, tyX6, "RingInSand$Sheet", ok_c6, Nat.le_of_ble_eq_true rfl, rfl, rfl, w_291, Or.inl rfl, fun h => by first | rfl | cases h⟩
theorem k_X6_22 : MN RX6 22 m_X11_bounded 3 := ⟨mi_X11_bounded, ⟨"RingInSand", List.mem_of_getElem? (i := 1037) (by decide +kernel)⟩, w_620⟩
theorem g_X6_9 : FG RX6 9 6 0 1 := ⟨RX6, TX6, 3, tyX6, "RingInSand$Sheet", ok_c6, Nat.le_of_ble_eq_true rfl, rfl, w_287, Or.inl rfl⟩
theorem k_X6_32 : MN RX6 32 m_X11_isWithin 3 := ⟨mi_X11_isWithin, ⟨"RingInSand", List.mem_of_getElem? (i := 961) (by decide +kernel)⟩, w_425⟩
theorem k_X6_36 : MV RX6 36 6 m_X6_hasItem 1 := ⟨mi_X6_hasItem, w_957, w_958, w_959, ⟨_, _, rfl⟩, Nat.le_of_ble_eq_true rfl⟩
theorem k_X6_40 : MV RX6 40 6 m_X6_narrowed 1 := ⟨mi_X6_narrowed, w_1050, w_1052, w_48, ⟨_, _, rfl⟩, Nat.le_of_ble_eq_true rfl⟩
theorem k_X7_1 : MC RX7 1 m_X2_init 1 := ⟨mi_X2_init, w_667, w_645, rfl, rfl⟩
theorem k_X7_7_7 : MP RX7 7 7 m_X2_finds 2 := ⟨mi_X2_finds, w_727, w_1565, w_669, w_715, ⟨_, _, _, rfl⟩, Nat.le_of_ble_eq_true rfl, by decide +kernel⟩
theorem k_X7_11_7 : MP RX7 11 7 m_X2_takes 0 := ⟨mi_X2_takes, w_756, w_1567, w_669, w_742, ⟨_, _, _, rfl⟩, Nat.le_of_ble_eq_true rfl, by decide +kernel⟩
theorem g_X7_15 : FG RX7 15 7 0 0 := ⟨RX7, TX7, 1, tyX7, "RingInSand$Sieve", ok_c7, Nat.le_of_ble_eq_true rfl, rfl, w_656, Or.inr w_657⟩
theorem k_X8_1 : MC RX8 1 m_X2_init 1 := ⟨mi_X2_init, w_683, w_645, rfl, rfl⟩
theorem k_X8_7_8 : MP RX8 7 8 m_X2_finds 2 := ⟨mi_X2_finds, w_731, w_1565, w_685, w_715, ⟨_, _, _, rfl⟩, Nat.le_of_ble_eq_true rfl, by decide +kernel⟩
theorem k_X8_11_8 : MP RX8 11 8 m_X2_takes 0 := ⟨mi_X2_takes, w_760, w_1567, w_685, w_742, ⟨_, _, _, rfl⟩, Nat.le_of_ble_eq_true rfl, by decide +kernel⟩
theorem k_X9_3 : MO RX9 3 := ⟨w_260, w_112, w_113⟩
theorem p_X9_9 : FL RX9 9 9 0 1 true := ⟨RX9, TX9, 5, tyX9, "RingInSand$Steps", ok_c9, Nat.le_of_ble_eq_true rfl, rfl, rfl, w_261, Or.inl rfl, fun h => by first | rfl | cases h⟩
theorem p_X9_15 : FL RX9 15 9 1 1 true := ⟨RX9, TX9, 5, tyX9, "RingInSand$Steps", ok_c9, Nat.le_of_ble_eq_true rfl, rfl, rfl, w_262, Or.inl rfl, fun h => by first | rfl | cases h⟩
theorem p_X9_18 : FL RX9 18 9 2 0 false := ⟨RX9, TX9, 5, tyX9, "RingInSand$Steps", ok_c9, Nat.le_of_ble_eq_true rfl, rfl, rfl, w_263, Or.inl rfl, fun h => by first | rfl | cases h⟩
theorem p_X9_22 : FL RX9 22 9 3 0 false := ⟨RX9, TX9, 5, tyX9, "RingInSand$Steps", ok_c9, Nat.le_of_ble_eq_true rfl, rfl, rfl, w_265, Or.inl rfl, fun h => by first | rfl | cases h⟩
theorem p_X9_25 : FL RX9 25 9 4 0 false := ⟨RX9, TX9, 5, tyX9, "RingInSand$Steps", ok_c9, Nat.le_of_ble_eq_true rfl, rfl, rfl, w_267, Or.inl rfl, fun h => by first | rfl | cases h⟩
theorem g_X9_18 : FG RX9 18 9 2 0 := ⟨RX9, TX9, 5, tyX9, "RingInSand$Steps", ok_c9, Nat.le_of_ble_eq_true rfl, rfl, w_263, Or.inl rfl⟩
theorem g_X9_9 : FG RX9 9 9 0 1 := ⟨RX9, TX9, 5, tyX9, "RingInSand$Steps", ok_c9, Nat.le_of_ble_eq_true rfl, rfl, w_261, Or.inl rfl⟩
theorem g_X9_15 : FG RX9 15 9 1 1 := ⟨RX9, TX9, 5, tyX9, "RingInSand$Steps", ok_c9, Nat.le_of_ble_eq_true rfl, rfl, w_262, Or.inl rfl⟩
theorem g_X9_22 : FG RX9 22 9 3 0 := ⟨RX9, TX9, 5, tyX9, "RingInSand$Steps", ok_c9, Nat.le_of_ble_eq_true rfl, rfl, w_265, Or.inl rfl⟩
theorem g_X9_25 : FG RX9 25 9 4 0 := ⟨RX9, TX9, 5, tyX9, "RingInSand$Steps", ok_c9, Nat.le_of_ble_eq_true rfl, rfl, w_267, Or.inl rfl⟩
theorem k_X9_28 : MN RX9 28 m_X11_isWithin 3 := ⟨mi_X11_isWithin, ⟨"RingInSand", List.mem_of_getElem? (i := 869) (by decide +kernel)⟩, w_425⟩
theorem k_X10_3 : MO RX10 3 := ⟨w_156, w_112, w_113⟩
theorem p_X10_9 : FL RX10 9 10 0 1 true := ⟨RX10, TX10, 14, tyX10, "RingInSand$Tape", ok_c10, Nat.le_of_ble_eq_true rfl, rfl, rfl, w_157, Or.inl rfl, fun h => by first | rfl | cases h⟩
theorem p_X10_15 : FL RX10 15 10 3 1 true := ⟨RX10, TX10, 14, tyX10, "RingInSand$Tape", ok_c10, Nat.le_of_ble_eq_true rfl, rfl, rfl, w_162, Or.inl rfl, fun h => by first | rfl | cases h⟩
theorem p_X10_18 : FL RX10 18 10 4 1 true := ⟨RX10, TX10, 14, tyX10, "RingInSand$Tape", ok_c10, Nat.le_of_ble_eq_true rfl, rfl, rfl, w_163, Or.inl rfl, fun h => by first | rfl | cases h⟩
theorem p_X10_21 : FL RX10 21 10 5 1 true := ⟨RX10, TX10, 14, tyX10, "RingInSand$Tape", ok_c10, Nat.le_of_ble_eq_true rfl, rfl, rfl, w_164, Or.inl rfl, fun h => by first | rfl | cases h⟩
theorem p_X10_24 : FL RX10 24 10 10 1 true := ⟨RX10, TX10, 14, tyX10, "RingInSand$Tape", ok_c10, Nat.le_of_ble_eq_true rfl, rfl, rfl, w_169, Or.inl rfl, fun h => by first | rfl | cases h⟩
theorem g_X10_27 : FG RX10 27 10 1 0 := ⟨RX10, TX10, 14, tyX10, "RingInSand$Tape", ok_c10, Nat.le_of_ble_eq_true rfl, rfl, w_158, Or.inl rfl⟩
theorem g_X10_9 : FG RX10 9 10 0 1 := ⟨RX10, TX10, 14, tyX10, "RingInSand$Tape", ok_c10, Nat.le_of_ble_eq_true rfl, rfl, w_157, Or.inl rfl⟩
theorem p_X10_27 : FL RX10 27 10 1 0 false := ⟨RX10, TX10, 14, tyX10, "RingInSand$Tape", ok_c10, Nat.le_of_ble_eq_true rfl, rfl, rfl, w_158, Or.inl rfl, fun h => by first | rfl | cases h⟩
theorem k_X10_31 : MN RX10 31 m_X11_isWithin 3 := ⟨mi_X11_isWithin, ⟨"RingInSand", List.mem_of_getElem? (i := 424) (by decide +kernel)⟩, w_425⟩
theorem g_X10_24 : FG RX10 24 10 10 1 := ⟨RX10, TX10, 14, tyX10, "RingInSand$Tape", ok_c10, Nat.le_of_ble_eq_true rfl, rfl, w_169, Or.inl rfl⟩
theorem k_X10_35 : MV RX10 35 10 m_X10_splitTokens 0 := ⟨mi_X10_splitTokens, w_357, w_359, w_0, ⟨_, _, rfl⟩, Nat.le_of_ble_eq_true rfl⟩
theorem p_X10_38 : FL RX10 38 10 2 0 false := ⟨RX10, TX10, 14, tyX10, "RingInSand$Tape", ok_c10, Nat.le_of_ble_eq_true rfl, rfl, rfl, w_160, Or.inl rfl, fun h => by first | rfl | cases h⟩
theorem p_X10_41 : FL RX10 41 10 9 0 false := ⟨RX10, TX10, 14, tyX10, "RingInSand$Tape", ok_c10, Nat.le_of_ble_eq_true rfl, rfl, rfl, w_168, Or.inl rfl, fun h => by first | rfl | cases h⟩
theorem p_X10_44 : FL RX10 44 10 11 0 false := ⟨RX10, TX10, 14, tyX10, "RingInSand$Tape", ok_c10, Nat.le_of_ble_eq_true rfl, rfl, rfl, w_171, Or.inl rfl, fun h => by first | rfl | cases h⟩
theorem k_X10_47 : MV RX10 47 10 m_X10_goTo 1 := ⟨mi_X10_goTo, w_420, w_422, w_10, ⟨_, _, rfl⟩, Nat.le_of_ble_eq_true rfl⟩
theorem k_X10_51 : MV RX10 51 10 m_X10_readPart 1 := ⟨mi_X10_readPart, w_427, w_429, w_11, ⟨_, _, rfl⟩, Nat.le_of_ble_eq_true rfl⟩
theorem g_X10_44 : FG RX10 44 10 11 0 := ⟨RX10, TX10, 14, tyX10, "RingInSand$Tape", ok_c10, Nat.le_of_ble_eq_true rfl, rfl, w_171, Or.inl rfl⟩
theorem p_X10_55 : FL RX10 55 10 12 0 false := ⟨RX10, TX10, 14, tyX10, "RingInSand$Tape", ok_c10, Nat.le_of_ble_eq_true rfl, rfl, rfl, w_173, Or.inl rfl, fun h => by first | rfl | cases h⟩
theorem p_X10_58 : FL RX10 58 10 13 0 false := ⟨RX10, TX10, 14, tyX10, "RingInSand$Tape", ok_c10, Nat.le_of_ble_eq_true rfl, rfl, rfl, w_175, Or.inl rfl, fun h => by first | rfl | cases h⟩
theorem k_X10_61 : MV RX10 61 10 m_X10_expect 1 := ⟨mi_X10_expect, w_431, w_433, w_12, ⟨_, _, rfl⟩, Nat.le_of_ble_eq_true rfl⟩
theorem k_X10_64 : MV RX10 64 10 m_X10_readOr 0 := ⟨mi_X10_readOr, w_439, w_441, w_14, ⟨_, _, rfl⟩, Nat.le_of_ble_eq_true rfl⟩
theorem k_X10_68 : MV RX10 68 10 m_X10_readAnd 0 := ⟨mi_X10_readAnd, w_443, w_445, w_15, ⟨_, _, rfl⟩, Nat.le_of_ble_eq_true rfl⟩
theorem g_X10_71 : FG RX10 71 10 8 0 := ⟨RX10, TX10, 14, tyX10, "RingInSand$Tape", ok_c10, Nat.le_of_ble_eq_true rfl, rfl, w_167, Or.inl rfl⟩
theorem g_X10_74 : FG RX10 74 10 7 0 := ⟨RX10, TX10, 14, tyX10, "RingInSand$Tape", ok_c10, Nat.le_of_ble_eq_true rfl, rfl, w_166, Or.inl rfl⟩
theorem k_X10_79 : MV RX10 79 10 m_X10_emit 1 := ⟨mi_X10_emit, w_471, w_473, w_22, ⟨_, _, rfl⟩, Nat.le_of_ble_eq_true rfl⟩
theorem k_X10_82 : MV RX10 82 10 m_X10_readNot 0 := ⟨mi_X10_readNot, w_447, w_449, w_16, ⟨_, _, rfl⟩, Nat.le_of_ble_eq_true rfl⟩
theorem k_X10_85 : MV RX10 85 10 m_X10_readComparison 0 := ⟨mi_X10_readComparison, w_451, w_453, w_17, ⟨_, _, rfl⟩, Nat.le_of_ble_eq_true rfl⟩
theorem k_X10_88 : MV RX10 88 10 m_X10_enter 0 := ⟨mi_X10_enter, w_479, w_481, w_24, ⟨_, _, rfl⟩, Nat.le_of_ble_eq_true rfl⟩
theorem g_X10_41 : FG RX10 41 10 9 0 := ⟨RX10, TX10, 14, tyX10, "RingInSand$Tape", ok_c10, Nat.le_of_ble_eq_true rfl, rfl, w_168, Or.inl rfl⟩
theorem k_X10_91 : MV RX10 91 10 m_X10_readSum 0 := ⟨mi_X10_readSum, w_455, w_457, w_18, ⟨_, _, rfl⟩, Nat.le_of_ble_eq_true rfl⟩
theorem k_X10_94 : MV RX10 94 10 m_X10_readTerm 0 := ⟨mi_X10_readTerm, w_459, w_461, w_19, ⟨_, _, rfl⟩, Nat.le_of_ble_eq_true rfl⟩
theorem k_X10_97 : MV RX10 97 10 m_X10_readOne 0 := ⟨mi_X10_readOne, w_463, w_465, w_20, ⟨_, _, rfl⟩, Nat.le_of_ble_eq_true rfl⟩
theorem k_X10_100 : MV RX10 100 10 m_X10_worthHere 0 := ⟨mi_X10_worthHere, w_467, w_469, w_21, ⟨_, _, rfl⟩, Nat.le_of_ble_eq_true rfl⟩
theorem k_X10_104 : MV RX10 104 10 m_X10_readNegated 0 := ⟨mi_X10_readNegated, w_475, w_477, w_23, ⟨_, _, rfl⟩, Nat.le_of_ble_eq_true rfl⟩
theorem k_X10_107 : MV RX10 107 10 m_X10_readBracket 0 := ⟨mi_X10_readBracket, w_483, w_485, w_25, ⟨_, _, rfl⟩, Nat.le_of_ble_eq_true rfl⟩
theorem k_X10_110 : MV RX10 110 10 m_X10_refuse 0 := ⟨mi_X10_refuse, w_435, w_437, w_13, ⟨_, _, rfl⟩, Nat.le_of_ble_eq_true rfl⟩
theorem g_X10_113 : FG RX10 113 10 6 0 := ⟨RX10, TX10, 14, tyX10, "RingInSand$Tape", ok_c10, Nat.le_of_ble_eq_true rfl, rfl, w_165, Or.inl rfl⟩
theorem g_X10_21 : FG RX10 21 10 5 1 := ⟨RX10, TX10, 14, tyX10, "RingInSand$Tape", ok_c10, Nat.le_of_ble_eq_true rfl, rfl, w_164, Or.inl rfl⟩
theorem p_X10_74 : FL RX10 74 10 7 0 false := ⟨RX10, TX10, 14, tyX10, "RingInSand$Tape", ok_c10, Nat.le_of_ble_eq_true rfl, rfl, rfl, w_166, Or.inl rfl, fun h => by first | rfl | cases h⟩
theorem g_X10_15 : FG RX10 15 10 3 1 := ⟨RX10, TX10, 14, tyX10, "RingInSand$Tape", ok_c10, Nat.le_of_ble_eq_true rfl, rfl, w_162, Or.inl rfl⟩
theorem p_X10_71 : FL RX10 71 10 8 0 false := ⟨RX10, TX10, 14, tyX10, "RingInSand$Tape", ok_c10, Nat.le_of_ble_eq_true rfl, rfl, rfl, w_167, Or.inl rfl, fun h => by first | rfl | cases h⟩
theorem g_X10_18 : FG RX10 18 10 4 1 := ⟨RX10, TX10, 14, tyX10, "RingInSand$Tape", ok_c10, Nat.le_of_ble_eq_true rfl, rfl, w_163, Or.inl rfl⟩
theorem p_X10_113 : FL RX10 113 10 6 0 false := ⟨RX10, TX10, 14, tyX10, "RingInSand$Tape", ok_c10, Nat.le_of_ble_eq_true rfl, rfl, rfl, w_165, Or.inl rfl, fun h => by first | rfl | cases h⟩
theorem k_X10_116 : MV RX10 116 10 m_X10_byteAt 1 := ⟨mi_X10_byteAt, w_361, w_363, w_1, ⟨_, _, rfl⟩, Nat.le_of_ble_eq_true rfl⟩
theorem k_X10_120 : MS RX10 120 m_X10_isLetter 1 := ⟨mi_X10_isLetter, w_365, w_366⟩
theorem k_X10_123 : MV RX10 123 10 m_X10_endOfWord 1 := ⟨mi_X10_endOfWord, w_368, w_370, w_2, ⟨_, _, rfl⟩, Nat.le_of_ble_eq_true rfl⟩
theorem k_X10_126 : MV RX10 126 10 m_X10_addWord 2 := ⟨mi_X10_addWord, w_372, w_374, w_3, ⟨_, _, rfl⟩, Nat.le_of_ble_eq_true rfl⟩
theorem k_X10_130 : MS RX10 130 m_X10_isDigit 1 := ⟨mi_X10_isDigit, w_406, w_407⟩
theorem k_X10_133 : MV RX10 133 10 m_X10_endOfNumber 1 := ⟨mi_X10_endOfNumber, w_409, w_411, w_8, ⟨_, _, rfl⟩, Nat.le_of_ble_eq_true rfl⟩
theorem k_X10_136 : MV RX10 136 10 m_X10_addNumber 2 := ⟨mi_X10_addNumber, w_413, w_415, w_9, ⟨_, _, rfl⟩, Nat.le_of_ble_eq_true rfl⟩
theorem k_X10_139 : MS RX10 139 m_X10_isSign 1 := ⟨mi_X10_isSign, w_417, w_418⟩
theorem k_X10_142 : MV RX10 142 10 m_X10_addToken 3 := ⟨mi_X10_addToken, w_392, w_394, w_6, ⟨_, _, rfl⟩, Nat.le_of_ble_eq_true rfl⟩
theorem k_X10_146 : MV RX10 146 10 m_X10_nameOf 2 := ⟨mi_X10_nameOf, w_376, w_378, w_4, ⟨_, _, rfl⟩, Nat.le_of_ble_eq_true rfl⟩
theorem k_X10_150 : MV RX10 150 10 m_X10_keyOf 2 := ⟨mi_X10_keyOf, w_396, w_398, w_7, ⟨_, _, rfl⟩, Nat.le_of_ble_eq_true rfl⟩
theorem k_X10_155 : MV RX10 155 10 m_X10_isWord 3 := ⟨mi_X10_isWord, w_381, w_383, w_5, ⟨_, _, rfl⟩, Nat.le_of_ble_eq_true rfl⟩
theorem k_X11_1 : MO RX11 1 := ⟨w_111, w_112, w_113⟩
theorem l_X11_7 : Cond.classLink RX11 7 "RingInSand$Beach" ∈ TG := w_114
theorem k_X11_9 : MD RX11 9 m_X0_init 0 := ⟨mi_X0_init, ⟨"RingInSand", List.mem_of_getElem? (i := 116) (by decide +kernel)⟩, w_117, rfl, rfl⟩
theorem p_X11_10 : FL RX11 10 11 0 1 true := ⟨RX11, TX11, 14, tyX11, "RingInSand", ok_c11, Nat.le_of_ble_eq_true rfl, rfl, rfl, w_503, Or.inl rfl, fun h => by first | rfl | cases h⟩
theorem p_X11_16 : FL RX11 16 11 1 1 true := ⟨RX11, TX11, 14, tyX11, "RingInSand", ok_c11, Nat.le_of_ble_eq_true rfl, rfl, rfl, w_504, Or.inl rfl, fun h => by first | rfl | cases h⟩
theorem p_X11_19 : FL RX11 19 11 2 1 true := ⟨RX11, TX11, 14, tyX11, "RingInSand", ok_c11, Nat.le_of_ble_eq_true rfl, rfl, rfl, w_505, Or.inl rfl, fun h => by first | rfl | cases h⟩
theorem l_X11_22 : Cond.classLink RX11 22 "RingInSand$Eyes" ∈ TG := w_149
theorem p_X11_24 : FL RX11 24 11 4 1 true := ⟨RX11, TX11, 14, tyX11, "RingInSand", ok_c11, Nat.le_of_ble_eq_true rfl, rfl, rfl, w_507, Or.inl rfl, fun h => by first | rfl | cases h⟩
theorem l_X11_28 : Cond.classLink RX11 28 "RingInSand$Tape" ∈ TG := w_151
theorem k_X11_30 : MD RX11 30 m_X10_init 0 := ⟨mi_X10_init, ⟨"RingInSand", List.mem_of_getElem? (i := 153) (by decide +kernel)⟩, w_154, rfl, rfl⟩
theorem p_X11_31 : FL RX11 31 11 6 1 true := ⟨RX11, TX11, 14, tyX11, "RingInSand", ok_c11, Nat.le_of_ble_eq_true rfl, rfl, rfl, w_509, Or.inl rfl, fun h => by first | rfl | cases h⟩
theorem l_X11_35 : Cond.classLink RX11 35 "RingInSand$Rules" ∈ TG := w_205
theorem k_X11_37 : MD RX11 37 m_X5_init 0 := ⟨mi_X5_init, ⟨"RingInSand", List.mem_of_getElem? (i := 207) (by decide +kernel)⟩, w_208, rfl, rfl⟩
theorem p_X11_38 : FL RX11 38 11 7 1 true := ⟨RX11, TX11, 14, tyX11, "RingInSand", ok_c11, Nat.le_of_ble_eq_true rfl, rfl, rfl, w_510, Or.inl rfl, fun h => by first | rfl | cases h⟩
theorem l_X11_42 : Cond.classLink RX11 42 "RingInSand$Steps" ∈ TG := w_255
theorem k_X11_44 : MD RX11 44 m_X9_init 0 := ⟨mi_X9_init, ⟨"RingInSand", List.mem_of_getElem? (i := 257) (by decide +kernel)⟩, w_258, rfl, rfl⟩
theorem p_X11_45 : FL RX11 45 11 8 1 true := ⟨RX11, TX11, 14, tyX11, "RingInSand", ok_c11, Nat.le_of_ble_eq_true rfl, rfl, rfl, w_511, Or.inl rfl, fun h => by first | rfl | cases h⟩
theorem l_X11_49 : Cond.classLink RX11 49 "RingInSand$Sheet" ∈ TG := w_280
theorem p_X11_51 : FL RX11 51 11 9 1 true := ⟨RX11, TX11, 14, tyX11, "RingInSand", ok_c11, Nat.le_of_ble_eq_true rfl, rfl, rfl, w_512, Or.inl rfl, fun h => by first | rfl | cases h⟩
theorem p_X11_55 : FL RX11 55 11 10 0 false := ⟨RX11, TX11, 14, tyX11, "RingInSand", ok_c11, Nat.le_of_ble_eq_true rfl, rfl, rfl, w_513, Or.inl rfl, fun h => by first | rfl | cases h⟩
theorem p_X11_59 : FL RX11 59 11 11 0 false := ⟨RX11, TX11, 14, tyX11, "RingInSand", ok_c11, Nat.le_of_ble_eq_true rfl, rfl, rfl, w_514, Or.inl rfl, fun h => by first | rfl | cases h⟩
theorem g_X11_51 : FG RX11 51 11 9 1 := ⟨RX11, TX11, 14, tyX11, "RingInSand", ok_c11, Nat.le_of_ble_eq_true rfl, rfl, w_512, Or.inl rfl⟩
theorem k_X11_62 : MD RX11 62 m_X6_init 0 := ⟨mi_X6_init, ⟨"RingInSand", List.mem_of_getElem? (i := 283) (by decide +kernel)⟩, w_284, rfl, rfl⟩
theorem g_X11_31 : FG RX11 31 11 6 1 := ⟨RX11, TX11, 14, tyX11, "RingInSand", ok_c11, Nat.le_of_ble_eq_true rfl, rfl, w_509, Or.inl rfl⟩
theorem k_X11_75 : MV RX11 75 10 m_X10_append 1 := ⟨mi_X10_append, w_349, w_350, w_351, ⟨_, _, rfl⟩, Nat.le_of_ble_eq_true rfl⟩
theorem k_X11_79 : MV RX11 79 10 m_X10_readText 0 := ⟨mi_X10_readText, w_353, w_354, w_355, ⟨_, _, rfl⟩, Nat.le_of_ble_eq_true rfl⟩
theorem g_X11_38 : FG RX11 38 11 7 1 := ⟨RX11, TX11, 14, tyX11, "RingInSand", ok_c11, Nat.le_of_ble_eq_true rfl, rfl, w_510, Or.inl rfl⟩
theorem k_X11_83 : MV RX11 83 5 m_X5_addFrom 1 := ⟨mi_X5_addFrom, w_487, w_488, w_489, ⟨_, _, rfl⟩, Nat.le_of_ble_eq_true rfl⟩
theorem k_X11_87 : MV RX11 87 10 m_X10_clear 0 := ⟨mi_X10_clear, w_499, w_500, w_501, ⟨_, _, rfl⟩, Nat.le_of_ble_eq_true rfl⟩
theorem k_X11_90 : MV RX11 90 11 m_X11_changeOdds 2 := ⟨mi_X11_changeOdds, w_551, w_553, w_26, ⟨_, _, rfl⟩, Nat.le_of_ble_eq_true rfl⟩
theorem k_X11_94 : MV RX11 94 11 m_X11_changeTreads 2 := ⟨mi_X11_changeTreads, w_560, w_562, w_27, ⟨_, _, rfl⟩, Nat.le_of_ble_eq_true rfl⟩
theorem k_X11_97 : MV RX11 97 11 m_X11_changeBag 1 := ⟨mi_X11_changeBag, w_564, w_566, w_28, ⟨_, _, rfl⟩, Nat.le_of_ble_eq_true rfl⟩
theorem k_X11_101 : MV RX11 101 11 m_X11_changeHour 1 := ⟨mi_X11_changeHour, w_568, w_570, w_29, ⟨_, _, rfl⟩, Nat.le_of_ble_eq_true rfl⟩
theorem k_X11_104 : MV RX11 104 11 m_X11_changeMinutes 1 := ⟨mi_X11_changeMinutes, w_572, w_574, w_30, ⟨_, _, rfl⟩, Nat.le_of_ble_eq_true rfl⟩
theorem k_X11_107 : MS RX11 107 m_X11_isCell 1 := ⟨mi_X11_isCell, w_555, w_556⟩
theorem k_X11_110 : MS RX11 110 m_X11_isWithin 3 := ⟨mi_X11_isWithin, w_558, w_425⟩
theorem g_X11_10 : FG RX11 10 11 0 1 := ⟨RX11, TX11, 14, tyX11, "RingInSand", ok_c11, Nat.le_of_ble_eq_true rfl, rfl, w_503, Or.inl rfl⟩
theorem k_X11_114 : MV RX11 114 5 m_X5_survey 2 := ⟨mi_X5_survey, w_580, w_581, w_582, ⟨_, _, rfl⟩, Nat.le_of_ble_eq_true rfl⟩
theorem k_X11_118 : MV RX11 118 0 m_X0_oddsAt 1 := ⟨mi_X0_oddsAt, w_626, w_627, w_628, ⟨_, _, rfl⟩, Nat.le_of_ble_eq_true rfl⟩
theorem k_X11_121 : MV RX11 121 0 m_X0_treadsAt 1 := ⟨mi_X0_treadsAt, w_631, w_632, w_633, ⟨_, _, rfl⟩, Nat.le_of_ble_eq_true rfl⟩
theorem g_X11_124 : FG RX11 124 5 10 0 := ⟨RX5, TX5, 13, tyX5, "RingInSand$Rules", ok_c5, Nat.le_of_ble_eq_true rfl, rfl, w_222, Or.inl rfl⟩
theorem g_X11_127 : FG RX11 127 5 11 3 := ⟨RX5, TX5, 13, tyX5, "RingInSand$Rules", ok_c5, Nat.le_of_ble_eq_true rfl, rfl, w_224, Or.inl rfl⟩
theorem g_X11_131 : FG RX11 131 5 12 0 := ⟨RX5, TX5, 13, tyX5, "RingInSand$Rules", ok_c5, Nat.le_of_ble_eq_true rfl, rfl, w_226, Or.inl rfl⟩
theorem g_X11_134 : FG RX11 134 11 5 0 := ⟨RX11, TX11, 14, tyX11, "RingInSand", ok_c11, Nat.le_of_ble_eq_true rfl, rfl, w_508, Or.inl rfl⟩
theorem g_X11_24 : FG RX11 24 11 4 1 := ⟨RX11, TX11, 14, tyX11, "RingInSand", ok_c11, Nat.le_of_ble_eq_true rfl, rfl, w_507, Or.inl rfl⟩
theorem k_X11_137 : MS RX11 137 m_X11_ofKind 2 := ⟨mi_X11_ofKind, w_639, w_640⟩
theorem p_X11_134 : FL RX11 134 11 5 0 false := ⟨RX11, TX11, 14, tyX11, "RingInSand", ok_c11, Nat.le_of_ble_eq_true rfl, rfl, rfl, w_508, Or.inl rfl, fun h => by first | rfl | cases h⟩
theorem k_X11_141 : MV RX11 141 11 m_X11_lookerAt 1 := ⟨mi_X11_lookerAt, w_702, w_704, w_36, ⟨_, _, rfl⟩, Nat.le_of_ble_eq_true rfl⟩
theorem k_X11_145 : MV RX11 145 11 m_X11_goodHere 1 := ⟨mi_X11_goodHere, w_706, w_708, w_37, ⟨_, _, rfl⟩, Nat.le_of_ble_eq_true rfl⟩
theorem k_X11_149 : MS RX11 149 m_X11_takesOf 1 := ⟨mi_X11_takesOf, w_734, w_735⟩
theorem k_X11_152 : MS RX11 152 m_X11_stampsOf 1 := ⟨mi_X11_stampsOf, w_762, w_763⟩
theorem k_X11_155 : MS RX11 155 m_X11_gainOf 2 := ⟨mi_X11_gainOf, w_785, w_786⟩
theorem k_X11_158 : MS RX11 158 m_X11_rateOf 2 := ⟨mi_X11_rateOf, w_788, w_789⟩
theorem g_X11_161 : FG RX11 161 10 1 0 := ⟨RX10, TX10, 14, tyX10, "RingInSand$Tape", ok_c10, Nat.le_of_ble_eq_true rfl, rfl, w_159, Or.inl rfl⟩
theorem k_X11_164 : MV RX11 164 5 m_X5_isFull 0 := ⟨mi_X5_isFull, w_799, w_492, w_493, ⟨_, _, rfl⟩, Nat.le_of_ble_eq_true rfl⟩
theorem g_X11_167 : FG RX11 167 10 2 0 := ⟨RX10, TX10, 14, tyX10, "RingInSand$Tape", ok_c10, Nat.le_of_ble_eq_true rfl, rfl, w_161, Or.inl rfl⟩
theorem g_X11_170 : FG RX11 170 5 2 0 := ⟨RX5, TX5, 13, tyX5, "RingInSand$Rules", ok_c5, Nat.le_of_ble_eq_true rfl, rfl, w_214, Or.inl rfl⟩
theorem k_X11_171 : MV RX11 171 5 m_X5_hasText 1 := ⟨mi_X5_hasText, w_804, w_600, w_601, ⟨_, _, rfl⟩, Nat.le_of_ble_eq_true rfl⟩
theorem g_X11_174 : FG RX11 174 0 5 0 := ⟨RX0, TX0, 6, tyX0, "RingInSand$Beach", ok_c0, Nat.le_of_ble_eq_true rfl, rfl, w_134, Or.inl rfl⟩
theorem p_X11_174 : FL RX11 174 0 5 0 false := ⟨RX0, TX0, 6, tyX0, "RingInSand$Beach", ok_c0, Nat.le_of_ble_eq_true rfl, rfl, rfl, w_134, Or.inl rfl, fun h => by first | rfl | cases h⟩
theorem k_X11_177 : MV RX11 177 11 m_X11_gainByLook 3 := ⟨mi_X11_gainByLook, w_809, w_811, w_38, ⟨_, _, rfl⟩, Nat.le_of_ble_eq_true rfl⟩
theorem k_X11_181 : MV RX11 181 11 m_X11_choose 1 := ⟨mi_X11_choose, w_830, w_832, w_39, ⟨_, _, rfl⟩, Nat.le_of_ble_eq_true rfl⟩
theorem g_X11_55 : FG RX11 55 11 10 0 := ⟨RX11, TX11, 14, tyX11, "RingInSand", ok_c11, Nat.le_of_ble_eq_true rfl, rfl, w_513, Or.inl rfl⟩
theorem g_X11_59 : FG RX11 59 11 11 0 := ⟨RX11, TX11, 14, tyX11, "RingInSand", ok_c11, Nat.le_of_ble_eq_true rfl, rfl, w_514, Or.inl rfl⟩
theorem g_X11_185 : FG RX11 185 11 12 0 := ⟨RX11, TX11, 14, tyX11, "RingInSand", ok_c11, Nat.le_of_ble_eq_true rfl, rfl, w_515, Or.inl rfl⟩
theorem k_X11_188 : MV RX11 188 11 m_X11_makePlan 1 := ⟨mi_X11_makePlan, w_842, w_844, w_41, ⟨_, _, rfl⟩, Nat.le_of_ble_eq_true rfl⟩
theorem g_X11_45 : FG RX11 45 11 8 1 := ⟨RX11, TX11, 14, tyX11, "RingInSand", ok_c11, Nat.le_of_ble_eq_true rfl, rfl, w_511, Or.inl rfl⟩
theorem g_X11_192 : FG RX11 192 9 3 0 := ⟨RX9, TX9, 5, tyX9, "RingInSand$Steps", ok_c9, Nat.le_of_ble_eq_true rfl, rfl, w_266, Or.inl rfl⟩
theorem g_X11_195 : FG RX11 195 9 2 0 := ⟨RX9, TX9, 5, tyX9, "RingInSand$Steps", ok_c9, Nat.le_of_ble_eq_true rfl, rfl, w_264, Or.inl rfl⟩
theorem g_X11_196 : FG RX11 196 9 4 0 := ⟨RX9, TX9, 5, tyX9, "RingInSand$Steps", ok_c9, Nat.le_of_ble_eq_true rfl, rfl, w_268, Or.inl rfl⟩
theorem k_X11_199 : MV RX11 199 9 m_X9_cellAt 1 := ⟨mi_X9_cellAt, w_865, w_866, w_867, ⟨_, _, rfl⟩, Nat.le_of_ble_eq_true rfl⟩
theorem c_X11_202 : Cond.constant RX11 202 (999999) ∈ TG := w_559
theorem k_X11_203 : MV RX11 203 9 m_X9_sizeAheadOf 1 := ⟨mi_X9_sizeAheadOf, w_878, w_879, w_880, ⟨_, _, rfl⟩, Nat.le_of_ble_eq_true rfl⟩
theorem c_X11_206 : Cond.constantLong RX11 206 (-4611686018427387904) ∈ TG := w_886
theorem k_X11_208 : MV RX11 208 0 m_X0_allOdds 0 := ⟨mi_X0_allOdds, w_887, w_888, w_889, ⟨_, _, rfl⟩, Nat.le_of_ble_eq_true rfl⟩
theorem k_X11_211 : MS RX11 211 m_X11_partOfQuotient 3 := ⟨mi_X11_partOfQuotient, w_895, w_896⟩
theorem k_X11_215 : MV RX11 215 0 m_X0_oddsOnCells 0 := ⟨mi_X0_oddsOnCells, w_905, w_892, w_893, ⟨_, _, rfl⟩, Nat.le_of_ble_eq_true rfl⟩
theorem k_X11_218 : MV RX11 218 0 m_X0_cellOfMostOdds 0 := ⟨mi_X0_cellOfMostOdds, w_910, w_911, w_912, ⟨_, _, rfl⟩, Nat.le_of_ble_eq_true rfl⟩
theorem g_X11_221 : FG RX11 221 0 3 0 := ⟨RX0, TX0, 6, tyX0, "RingInSand$Beach", ok_c0, Nat.le_of_ble_eq_true rfl, rfl, w_129, Or.inl rfl⟩
theorem k_X11_224 : MV RX11 224 11 m_X11_isWetAt 2 := ⟨mi_X11_isWetAt, w_918, w_920, w_42, ⟨_, _, rfl⟩, Nat.le_of_ble_eq_true rfl⟩
theorem k_X11_228 : MV RX11 228 11 m_X11_oddsUnderWater 1 := ⟨mi_X11_oddsUnderWater, w_930, w_932, w_43, ⟨_, _, rfl⟩, Nat.le_of_ble_eq_true rfl⟩
theorem k_X11_231 : MV RX11 231 11 m_X11_hourOfMostDrowned 0 := ⟨mi_X11_hourOfMostDrowned, w_934, w_936, w_44, ⟨_, _, rfl⟩, Nat.le_of_ble_eq_true rfl⟩
theorem k_X11_234 : MV RX11 234 11 m_X11_sheetAt 1 := ⟨mi_X11_sheetAt, w_942, w_944, w_45, ⟨_, _, rfl⟩, Nat.le_of_ble_eq_true rfl⟩
theorem k_X11_238 : MV RX11 238 6 m_X6_isMissing 0 := ⟨mi_X6_isMissing, w_946, w_947, w_948, ⟨_, _, rfl⟩, Nat.le_of_ble_eq_true rfl⟩
theorem k_X11_241 : MS RX11 241 m_X11_tellsCellsAlone 1 := ⟨mi_X11_tellsCellsAlone, w_950, w_951⟩
theorem g_X11_245 : FG RX11 245 6 2 0 := ⟨RX6, TX6, 3, tyX6, "RingInSand$Sheet", ok_c6, Nat.le_of_ble_eq_true rfl, rfl, w_292, Or.inl rfl⟩
theorem k_X11_246 : MV RX11 246 6 m_X6_itemAt 1 := ⟨mi_X6_itemAt, w_953, w_954, w_955, ⟨_, _, rfl⟩, Nat.le_of_ble_eq_true rfl⟩
theorem k_X11_249 : MV RX11 249 11 m_X11_addPicture 2 := ⟨mi_X11_addPicture, w_962, w_964, w_46, ⟨_, _, rfl⟩, Nat.le_of_ble_eq_true rfl⟩
theorem k_X11_253 : mJ RX11 253 Lib.Math.min.name Lib.Math.min.code 2 := ⟨w_622, w_623, w_97, w_624⟩
theorem k_X11_258 : MV RX11 258 0 m_X0_addTreads 2 := ⟨mi_X0_addTreads, w_817, w_818, w_819, ⟨_, _, rfl⟩, Nat.le_of_ble_eq_true rfl⟩
theorem k_X11_261 : MV RX11 261 6 m_X6_isOdd 0 := ⟨mi_X6_isOdd, w_979, w_980, w_981, ⟨_, _, rfl⟩, Nat.le_of_ble_eq_true rfl⟩
theorem k_X11_264 : MV RX11 264 11 m_X11_firstWrongRow 1 := ⟨mi_X11_firstWrongRow, w_983, w_985, w_47, ⟨_, _, rfl⟩, Nat.le_of_ble_eq_true rfl⟩
theorem g_X11_268 : FG RX11 268 11 13 0 := ⟨RX11, TX11, 14, tyX11, "RingInSand", ok_c11, Nat.le_of_ble_eq_true rfl, rfl, w_516, Or.inl rfl⟩
theorem c_X11_271 : Cond.constant RX11 271 (1103515245) ∈ TG := w_995
theorem k_X11_272 : MV RX11 272 0 m_X0_cellBehind 1 := ⟨mi_X0_cellBehind, w_996, w_997, w_998, ⟨_, _, rfl⟩, Nat.le_of_ble_eq_true rfl⟩
theorem k_X11_275 : MV RX11 275 11 m_X11_drawn 1 := ⟨mi_X11_drawn, w_1004, w_992, w_993, ⟨_, _, rfl⟩, Nat.le_of_ble_eq_true rfl⟩
theorem k_X11_278 : MV RX11 278 9 m_X9_hasCell 1 := ⟨mi_X9_hasCell, w_1005, w_1006, w_1007, ⟨_, _, rfl⟩, Nat.le_of_ble_eq_true rfl⟩
theorem g_X11_19 : FG RX11 19 11 2 1 := ⟨RX11, TX11, 14, tyX11, "RingInSand", ok_c11, Nat.le_of_ble_eq_true rfl, rfl, w_505, Or.inl rfl⟩
theorem k_X11_281 : MV RX11 281 0 m_X0_become 1 := ⟨mi_X0_become, w_846, w_847, w_848, ⟨_, _, rfl⟩, Nat.le_of_ble_eq_true rfl⟩
theorem p_X11_285 : FL RX11 285 11 3 3 false := ⟨RX11, TX11, 14, tyX11, "RingInSand", ok_c11, Nat.le_of_ble_eq_true rfl, rfl, rfl, w_506, Or.inl rfl, fun h => by first | rfl | cases h⟩
theorem g_X11_285 : FG RX11 285 11 3 3 := ⟨RX11, TX11, 14, tyX11, "RingInSand", ok_c11, Nat.le_of_ble_eq_true rfl, rfl, w_506, Or.inl rfl⟩
theorem g_X11_288 : FG RX11 288 0 2 0 := ⟨RX0, TX0, 6, tyX0, "RingInSand$Beach", ok_c0, Nat.le_of_ble_eq_true rfl, rfl, w_126, Or.inl rfl⟩
theorem g_X11_291 : FG RX11 291 0 4 0 := ⟨RX0, TX0, 6, tyX0, "RingInSand$Beach", ok_c0, Nat.le_of_ble_eq_true rfl, rfl, w_131, Or.inl rfl⟩
theorem k_X11_294 : MV RX11 294 0 m_X0_allTreads 0 := ⟨mi_X0_allTreads, w_1021, w_1022, w_1023, ⟨_, _, rfl⟩, Nat.le_of_ble_eq_true rfl⟩
theorem k_X11_297 : MV RX11 297 6 m_X6_remove 0 := ⟨mi_X6_remove, w_1029, w_1030, w_1031, ⟨_, _, rfl⟩, Nat.le_of_ble_eq_true rfl⟩
theorem k_X11_300 : MV RX11 300 6 m_X6_lay 2 := ⟨mi_X6_lay, w_1033, w_1034, w_1035, ⟨_, _, rfl⟩, Nat.le_of_ble_eq_true rfl⟩
theorem k_X11_303 : MV RX11 303 6 m_X6_hasItem 1 := ⟨mi_X6_hasItem, w_1045, w_958, w_959, ⟨_, _, rfl⟩, Nat.le_of_ble_eq_true rfl⟩
theorem k_X11_306 : MV RX11 306 6 m_X6_put 2 := ⟨mi_X6_put, w_1046, w_1047, w_1048, ⟨_, _, rfl⟩, Nat.le_of_ble_eq_true rfl⟩
theorem g_X11_309 : FG RX11 309 6 1 0 := ⟨RX6, TX6, 3, tyX6, "RingInSand$Sheet", ok_c6, Nat.le_of_ble_eq_true rfl, rfl, w_290, Or.inl rfl⟩
theorem k_X11_312 : MV RX11 312 6 m_X6_hasRange 2 := ⟨mi_X6_hasRange, w_1058, w_1059, w_1060, ⟨_, _, rfl⟩, Nat.le_of_ble_eq_true rfl⟩
theorem g_X11_315 : FG RX11 315 6 0 1 := ⟨RX6, TX6, 3, tyX6, "RingInSand$Sheet", ok_c6, Nat.le_of_ble_eq_true rfl, rfl, w_288, Or.inl rfl⟩
theorem k_X11_319 : mA RX11 319 := ⟨w_1062, w_852, w_851, w_104⟩
theorem k_X11_325 : MV RX11 325 11 m_X11_looker 2 := ⟨mi_X11_looker, w_1067, w_636, w_637, ⟨_, _, rfl⟩, Nat.le_of_ble_eq_true rfl⟩
theorem k_X11_328 : MS RX11 328 m_X11_isOfKind 2 := ⟨mi_X11_isOfKind, w_1072, w_1073⟩
theorem g_X11_332_1 : FG RX11 332 1 0 0 := ⟨RX1, TX1, 1, tyX1, "RingInSand$Eyes", ok_c1, Nat.le_of_ble_eq_true rfl, rfl, w_658, Or.inl rfl⟩
theorem g_X11_332_2 : FG RX11 332 2 0 0 := ⟨RX2, TX2, 1, tyX2, "RingInSand$Eyes", ok_c2, Nat.le_of_ble_eq_true rfl, rfl, w_658, Or.inl rfl⟩
theorem g_X11_332_3 : FG RX11 332 3 0 0 := ⟨RX3, TX3, 1, tyX3, "RingInSand$Eyes", ok_c3, Nat.le_of_ble_eq_true rfl, rfl, w_658, Or.inl rfl⟩
theorem g_X11_332_4 : FG RX11 332 4 0 0 := ⟨RX4, TX4, 1, tyX4, "RingInSand$Eyes", ok_c4, Nat.le_of_ble_eq_true rfl, rfl, w_658, Or.inl rfl⟩
theorem g_X11_332_7 : FG RX11 332 7 0 0 := ⟨RX7, TX7, 1, tyX7, "RingInSand$Eyes", ok_c7, Nat.le_of_ble_eq_true rfl, rfl, w_658, Or.inl rfl⟩
theorem g_X11_332_8 : FG RX11 332 8 0 0 := ⟨RX8, TX8, 1, tyX8, "RingInSand$Eyes", ok_c8, Nat.le_of_ble_eq_true rfl, rfl, w_658, Or.inl rfl⟩
theorem k_X11_335 : mJ RX11 335 Lib.Math.max.name Lib.Math.max.code 2 := ⟨w_625, w_593, w_97, w_594⟩
theorem k_X11_338 : MS RX11 338 m_X11_greatestDivisor 2 := ⟨mi_X11_greatestDivisor, w_898, w_899⟩
theorem g_X11_342 : FG RX11 342 0 0 1 := ⟨RX0, TX0, 6, tyX0, "RingInSand$Beach", ok_c0, Nat.le_of_ble_eq_true rfl, rfl, w_121, Or.inl rfl⟩
theorem g_X11_345 : FG RX11 345 0 1 1 := ⟨RX0, TX0, 6, tyX0, "RingInSand$Beach", ok_c0, Nat.le_of_ble_eq_true rfl, rfl, w_124, Or.inl rfl⟩
theorem p_X11_288 : FL RX11 288 0 2 0 false := ⟨RX0, TX0, 6, tyX0, "RingInSand$Beach", ok_c0, Nat.le_of_ble_eq_true rfl, rfl, rfl, w_126, Or.inl rfl, fun h => by first | rfl | cases h⟩
theorem p_X11_221 : FL RX11 221 0 3 0 false := ⟨RX0, TX0, 6, tyX0, "RingInSand$Beach", ok_c0, Nat.le_of_ble_eq_true rfl, rfl, rfl, w_129, Or.inl rfl, fun h => by first | rfl | cases h⟩
theorem p_X11_291 : FL RX11 291 0 4 0 false := ⟨RX0, TX0, 6, tyX0, "RingInSand$Beach", ok_c0, Nat.le_of_ble_eq_true rfl, rfl, rfl, w_131, Or.inl rfl, fun h => by first | rfl | cases h⟩
theorem l_X11_348 : Cond.classLink RX11 348 "RingInSand$Hands" ∈ TG := w_642
theorem k_X11_350 : MC RX11 350 m_X2_init 1 := ⟨mi_X2_init, w_644, w_645, rfl, rfl⟩
theorem l_X11_352 : Cond.classLink RX11 352 "RingInSand$Sieve" ∈ TG := w_662
theorem k_X11_354 : MC RX11 354 m_X7_init 1 := ⟨mi_X7_init, w_664, w_665, rfl, rfl⟩
theorem l_X11_355 : Cond.classLink RX11 355 "RingInSand$Plate" ∈ TG := w_670
theorem k_X11_357 : MC RX11 357 m_X4_init 1 := ⟨mi_X4_init, w_672, w_673, rfl, rfl⟩
theorem l_X11_358 : Cond.classLink RX11 358 "RingInSand$Spade" ∈ TG := w_678
theorem k_X11_360 : MC RX11 360 m_X8_init 1 := ⟨mi_X8_init, w_680, w_681, rfl, rfl⟩
theorem l_X11_361 : Cond.classLink RX11 361 "RingInSand$Lad" ∈ TG := w_686
theorem k_X11_363 : MC RX11 363 m_X3_init 1 := ⟨mi_X3_init, w_688, w_689, rfl, rfl⟩
theorem k_X11_364 : MC RX11 364 m_X1_init 1 := ⟨mi_X1_init, w_695, w_648, rfl, rfl⟩
theorem k_X11_365_1 : MU RX11 365 1 ⟨"RingInSand$Eyes", "finds", "(II)I"⟩ m_X1_finds 2 := ⟨mi_X1_finds, w_710, w_713, w_711, ⟨_, _, _, rfl, w_712⟩, w_711, Nat.le_of_ble_eq_true rfl, ⟨by decide +kernel, by decide +kernel, by decide +kernel⟩, _, _, _, w_732⟩
theorem k_X11_365_2 : MU RX11 365 2 ⟨"RingInSand$Eyes", "finds", "(II)I"⟩ m_X2_finds 2 := ⟨mi_X2_finds, w_710, w_713, w_711, ⟨_, _, _, rfl, w_714⟩, w_715, Nat.le_of_ble_eq_true rfl, ⟨by decide +kernel, by decide +kernel, by decide +kernel⟩, _, _, _, w_732⟩
theorem k_X11_365_3 : MU RX11 365 3 ⟨"RingInSand$Eyes", "finds", "(II)I"⟩ m_X3_finds 2 := ⟨mi_X3_finds, w_710, w_713, w_711, ⟨_, _, _, rfl, w_717⟩, w_718, Nat.le_of_ble_eq_true rfl, ⟨by decide +kernel, by decide +kernel, by decide +kernel⟩, _, _, _, w_732⟩
theorem k_X11_365_4 : MU RX11 365 4 ⟨"RingInSand$Eyes", "finds", "(II)I"⟩ m_X4_finds 2 := ⟨mi_X4_finds, w_710, w_713, w_711, ⟨_, _, _, rfl, w_723⟩, w_721, Nat.le_of_ble_eq_true rfl, ⟨by decide +kernel, by decide +kernel, by decide +kernel⟩, _, _, _, w_732⟩
theorem k_X11_365_7 : MU RX11 365 7 ⟨"RingInSand$Eyes", "finds", "(II)I"⟩ m_X7_finds 2 := ⟨mi_X7_finds, w_710, w_713, w_711, ⟨_, _, _, rfl, w_724⟩, w_725, Nat.le_of_ble_eq_true rfl, ⟨by decide +kernel, by decide +kernel, by decide +kernel⟩, _, _, _, w_732⟩
theorem k_X11_365_8 : MU RX11 365 8 ⟨"RingInSand$Eyes", "finds", "(II)I"⟩ m_X8_finds 2 := ⟨mi_X8_finds, w_710, w_713, w_711, ⟨_, _, _, rfl, w_728⟩, w_729, Nat.le_of_ble_eq_true rfl, ⟨by decide +kernel, by decide +kernel, by decide +kernel⟩, _, _, _, w_732⟩
theorem k_X11_368 : MS RX11 368 m_X11_bounded 3 := ⟨mi_X11_bounded, w_733, w_620⟩
theorem k_X11_372_1 : MU RX11 372 1 ⟨"RingInSand$Eyes", "takes", "()I"⟩ m_X1_takes 0 := ⟨mi_X1_takes, w_737, w_740, w_738, ⟨_, _, _, rfl, w_739⟩, w_738, Nat.le_of_ble_eq_true rfl, ⟨by decide +kernel, by decide +kernel, by decide +kernel⟩, _, _, _, w_761⟩
theorem k_X11_372_2 : MU RX11 372 2 ⟨"RingInSand$Eyes", "takes", "()I"⟩ m_X2_takes 0 := ⟨mi_X2_takes, w_737, w_740, w_738, ⟨_, _, _, rfl, w_741⟩, w_742, Nat.le_of_ble_eq_true rfl, ⟨by decide +kernel, by decide +kernel, by decide +kernel⟩, _, _, _, w_761⟩
theorem k_X11_372_3 : MU RX11 372 3 ⟨"RingInSand$Eyes", "takes", "()I"⟩ m_X3_takes 0 := ⟨mi_X3_takes, w_737, w_740, w_738, ⟨_, _, _, rfl, w_745⟩, w_746, Nat.le_of_ble_eq_true rfl, ⟨by decide +kernel, by decide +kernel, by decide +kernel⟩, _, _, _, w_761⟩
theorem k_X11_372_4 : MU RX11 372 4 ⟨"RingInSand$Eyes", "takes", "()I"⟩ m_X4_takes 0 := ⟨mi_X4_takes, w_737, w_740, w_738, ⟨_, _, _, rfl, w_752⟩, w_749, Nat.le_of_ble_eq_true rfl, ⟨by decide +kernel, by decide +kernel, by decide +kernel⟩, _, _, _, w_761⟩
theorem k_X11_372_7 : MU RX11 372 7 ⟨"RingInSand$Eyes", "takes", "()I"⟩ m_X7_takes 0 := ⟨mi_X7_takes, w_737, w_740, w_738, ⟨_, _, _, rfl, w_753⟩, w_754, Nat.le_of_ble_eq_true rfl, ⟨by decide +kernel, by decide +kernel, by decide +kernel⟩, _, _, _, w_761⟩
theorem k_X11_372_8 : MU RX11 372 8 ⟨"RingInSand$Eyes", "takes", "()I"⟩ m_X8_takes 0 := ⟨mi_X8_takes, w_737, w_740, w_738, ⟨_, _, _, rfl, w_757⟩, w_758, Nat.le_of_ble_eq_true rfl, ⟨by decide +kernel, by decide +kernel, by decide +kernel⟩, _, _, _, w_761⟩
theorem k_X11_375_1 : MU RX11 375 1 ⟨"RingInSand$Eyes", "stamps", "()I"⟩ m_X1_stamps 0 := ⟨mi_X1_stamps, w_765, w_768, w_766, ⟨_, _, _, rfl, w_767⟩, w_766, Nat.le_of_ble_eq_true rfl, ⟨by decide +kernel, by decide +kernel, by decide +kernel⟩, _, _, _, w_784⟩
theorem k_X11_375_2 : MU RX11 375 2 ⟨"RingInSand$Eyes", "stamps", "()I"⟩ m_X2_stamps 0 := ⟨mi_X2_stamps, w_765, w_768, w_766, ⟨_, _, _, rfl, w_769⟩, w_770, Nat.le_of_ble_eq_true rfl, ⟨by decide +kernel, by decide +kernel, by decide +kernel⟩, _, _, _, w_784⟩
theorem k_X11_375_3 : MU RX11 375 3 ⟨"RingInSand$Eyes", "stamps", "()I"⟩ m_X3_stamps 0 := ⟨mi_X3_stamps, w_765, w_768, w_766, ⟨_, _, _, rfl, w_773⟩, w_774, Nat.le_of_ble_eq_true rfl, ⟨by decide +kernel, by decide +kernel, by decide +kernel⟩, _, _, _, w_784⟩
theorem k_X11_375_4 : MU RX11 375 4 ⟨"RingInSand$Eyes", "stamps", "()I"⟩ m_X1_stamps 0 := ⟨mi_X1_stamps, w_765, w_768, w_766, ⟨_, _, _, rfl, w_779⟩, w_766, Nat.le_of_ble_eq_true rfl, ⟨by decide +kernel, by decide +kernel, by decide +kernel⟩, _, _, _, w_784⟩
theorem k_X11_375_7 : MU RX11 375 7 ⟨"RingInSand$Eyes", "stamps", "()I"⟩ m_X7_stamps 0 := ⟨mi_X7_stamps, w_765, w_768, w_766, ⟨_, _, _, rfl, w_780⟩, w_781, Nat.le_of_ble_eq_true rfl, ⟨by decide +kernel, by decide +kernel, by decide +kernel⟩, _, _, _, w_784⟩
theorem k_X11_375_8 : MU RX11 375 8 ⟨"RingInSand$Eyes", "stamps", "()I"⟩ m_X2_stamps 0 := ⟨mi_X2_stamps, w_765, w_768, w_766, ⟨_, _, _, rfl, w_783⟩, w_770, Nat.le_of_ble_eq_true rfl, ⟨by decide +kernel, by decide +kernel, by decide +kernel⟩, _, _, _, w_784⟩
theorem k_X11_378 : MV RX11 378 0 m_X0_thinOdds 2 := ⟨mi_X0_thinOdds, w_813, w_814, w_815, ⟨_, _, rfl⟩, Nat.le_of_ble_eq_true rfl⟩
theorem k_X11_381 : MV RX11 381 0 m_X0_pass 1 := ⟨mi_X0_pass, w_822, w_823, w_824, ⟨_, _, rfl⟩, Nat.le_of_ble_eq_true rfl⟩
theorem p_X11_185 : FL RX11 185 11 12 0 false := ⟨RX11, TX11, 14, tyX11, "RingInSand", ok_c11, Nat.le_of_ble_eq_true rfl, rfl, rfl, w_515, Or.inl rfl, fun h => by first | rfl | cases h⟩
theorem k_X11_384 : MV RX11 384 11 m_X11_weighParty 2 := ⟨mi_X11_weighParty, w_834, w_836, w_40, ⟨_, _, rfl⟩, Nat.le_of_ble_eq_true rfl⟩
theorem g_X11_16 : FG RX11 16 11 1 1 := ⟨RX11, TX11, 14, tyX11, "RingInSand", ok_c11, Nat.le_of_ble_eq_true rfl, rfl, w_504, Or.inl rfl⟩
theorem k_X11_387 : MV RX11 387 9 m_X9_clear 0 := ⟨mi_X9_clear, w_853, w_854, w_855, ⟨_, _, rfl⟩, Nat.le_of_ble_eq_true rfl⟩
theorem k_X11_388 : MV RX11 388 9 m_X9_add 3 := ⟨mi_X9_add, w_857, w_858, w_859, ⟨_, _, rfl⟩, Nat.le_of_ble_eq_true rfl⟩
theorem p_X11_268 : FL RX11 268 11 13 0 false := ⟨RX11, TX11, 14, tyX11, "RingInSand", ok_c11, Nat.le_of_ble_eq_true rfl, rfl, rfl, w_516, Or.inl rfl, fun h => by first | rfl | cases h⟩
theorem k_X11_392 : MV RX11 392 5 m_X5_isWetBy 4 := ⟨mi_X5_isWetBy, w_922, w_923, w_924, ⟨_, _, rfl⟩, Nat.le_of_ble_eq_true rfl⟩
theorem k_X11_396 : MV RX11 396 0 m_X0_addOdds 2 := ⟨mi_X0_addOdds, w_966, w_967, w_968, ⟨_, _, rfl⟩, Nat.le_of_ble_eq_true rfl⟩
theorem k_X12_7 : MO RX12 7 := ⟨w_1080, w_112, w_113⟩
theorem p_X12_13 : FL RX12 13 12 1 1 true := ⟨RX12, TX12, 54, tyX12, "RingInSandModel", ok_c12, Nat.le_of_ble_eq_true rfl, rfl, rfl, w_1085, Or.inl rfl, fun h => by first | rfl | cases h⟩
theorem p_X12_17 : FL RX12 17 12 2 1 true := ⟨RX12, TX12, 54, tyX12, "RingInSandModel", ok_c12, Nat.le_of_ble_eq_true rfl, rfl, rfl, w_1086, Or.inl rfl, fun h => by first | rfl | cases h⟩
theorem p_X12_20 : FL RX12 20 12 5 1 true := ⟨RX12, TX12, 54, tyX12, "RingInSandModel", ok_c12, Nat.le_of_ble_eq_true rfl, rfl, rfl, w_1089, Or.inl rfl, fun h => by first | rfl | cases h⟩
theorem p_X12_23 : FL RX12 23 12 7 1 true := ⟨RX12, TX12, 54, tyX12, "RingInSandModel", ok_c12, Nat.le_of_ble_eq_true rfl, rfl, rfl, w_1091, Or.inl rfl, fun h => by first | rfl | cases h⟩
theorem p_X12_26 : FL RX12 26 12 8 1 true := ⟨RX12, TX12, 54, tyX12, "RingInSandModel", ok_c12, Nat.le_of_ble_eq_true rfl, rfl, rfl, w_1092, Or.inl rfl, fun h => by first | rfl | cases h⟩
theorem p_X12_29 : FL RX12 29 12 10 0 false := ⟨RX12, TX12, 54, tyX12, "RingInSandModel", ok_c12, Nat.le_of_ble_eq_true rfl, rfl, rfl, w_1094, Or.inl rfl, fun h => by first | rfl | cases h⟩
theorem p_X12_32 : FL RX12 32 12 12 1 true := ⟨RX12, TX12, 54, tyX12, "RingInSandModel", ok_c12, Nat.le_of_ble_eq_true rfl, rfl, rfl, w_1096, Or.inl rfl, fun h => by first | rfl | cases h⟩
theorem p_X12_35 : FL RX12 35 12 13 1 true := ⟨RX12, TX12, 54, tyX12, "RingInSandModel", ok_c12, Nat.le_of_ble_eq_true rfl, rfl, rfl, w_1097, Or.inl rfl, fun h => by first | rfl | cases h⟩
theorem p_X12_38 : FL RX12 38 12 33 1 true := ⟨RX12, TX12, 54, tyX12, "RingInSandModel", ok_c12, Nat.le_of_ble_eq_true rfl, rfl, rfl, w_1117, Or.inl rfl, fun h => by first | rfl | cases h⟩
theorem p_X12_41 : FL RX12 41 12 34 1 true := ⟨RX12, TX12, 54, tyX12, "RingInSandModel", ok_c12, Nat.le_of_ble_eq_true rfl, rfl, rfl, w_1118, Or.inl rfl, fun h => by first | rfl | cases h⟩
theorem p_X12_44 : FL RX12 44 12 35 1 true := ⟨RX12, TX12, 54, tyX12, "RingInSandModel", ok_c12, Nat.le_of_ble_eq_true rfl, rfl, rfl, w_1119, Or.inl rfl, fun h => by first | rfl | cases h⟩
theorem p_X12_47 : FL RX12 47 12 36 1 true := ⟨RX12, TX12, 54, tyX12, "RingInSandModel", ok_c12, Nat.le_of_ble_eq_true rfl, rfl, rfl, w_1120, Or.inl rfl, fun h => by first | rfl | cases h⟩
theorem p_X12_50 : FL RX12 50 12 39 1 true := ⟨RX12, TX12, 54, tyX12, "RingInSandModel", ok_c12, Nat.le_of_ble_eq_true rfl, rfl, rfl, w_1123, Or.inl rfl, fun h => by first | rfl | cases h⟩
theorem p_X12_53 : FL RX12 53 12 40 1 true := ⟨RX12, TX12, 54, tyX12, "RingInSandModel", ok_c12, Nat.le_of_ble_eq_true rfl, rfl, rfl, w_1124, Or.inl rfl, fun h => by first | rfl | cases h⟩
theorem p_X12_56 : FL RX12 56 12 44 1 true := ⟨RX12, TX12, 54, tyX12, "RingInSandModel", ok_c12, Nat.le_of_ble_eq_true rfl, rfl, rfl, w_1128, Or.inl rfl, fun h => by first | rfl | cases h⟩
theorem p_X12_59 : FL RX12 59 12 45 1 true := ⟨RX12, TX12, 54, tyX12, "RingInSandModel", ok_c12, Nat.le_of_ble_eq_true rfl, rfl, rfl, w_1129, Or.inl rfl, fun h => by first | rfl | cases h⟩
theorem p_X12_62 : FL RX12 62 12 46 0 false := ⟨RX12, TX12, 54, tyX12, "RingInSandModel", ok_c12, Nat.le_of_ble_eq_true rfl, rfl, rfl, w_1130, Or.inl rfl, fun h => by first | rfl | cases h⟩
theorem p_X12_65 : FL RX12 65 12 50 1 true := ⟨RX12, TX12, 54, tyX12, "RingInSandModel", ok_c12, Nat.le_of_ble_eq_true rfl, rfl, rfl, w_1134, Or.inl rfl, fun h => by first | rfl | cases h⟩
theorem p_X12_69 : FL RX12 69 12 51 1 true := ⟨RX12, TX12, 54, tyX12, "RingInSandModel", ok_c12, Nat.le_of_ble_eq_true rfl, rfl, rfl, w_1135, Or.inl rfl, fun h => by first | rfl | cases h⟩
theorem p_X12_72 : FL RX12 72 12 52 1 true := ⟨RX12, TX12, 54, tyX12, "RingInSandModel", ok_c12, Nat.le_of_ble_eq_true rfl, rfl, rfl, w_1136, Or.inl rfl, fun h => by first | rfl | cases h⟩
theorem p_X12_75 : FL RX12 75 12 53 1 true := ⟨RX12, TX12, 54, tyX12, "RingInSandModel", ok_c12, Nat.le_of_ble_eq_true rfl, rfl, rfl, w_1137, Or.inl rfl, fun h => by first | rfl | cases h⟩
theorem k_X12_78 : MV RX12 78 12 m_X12_spell 9 := ⟨mi_X12_spell, w_1081, w_1083, w_49, ⟨_, _, rfl⟩, Nat.le_of_ble_eq_true rfl⟩
theorem g_X12_17 : FG RX12 17 12 2 1 := ⟨RX12, TX12, 54, tyX12, "RingInSandModel", ok_c12, Nat.le_of_ble_eq_true rfl, rfl, w_1086, Or.inl rfl⟩
theorem p_X12_82 : FL RX12 82 12 3 0 false := ⟨RX12, TX12, 54, tyX12, "RingInSandModel", ok_c12, Nat.le_of_ble_eq_true rfl, rfl, rfl, w_1087, Or.inl rfl, fun h => by first | rfl | cases h⟩
theorem g_X12_13 : FG RX12 13 12 1 1 := ⟨RX12, TX12, 54, tyX12, "RingInSandModel", ok_c12, Nat.le_of_ble_eq_true rfl, rfl, w_1085, Or.inl rfl⟩
theorem c_X12_85 : Cond.constantLong RX12 85 (47) ∈ TG := w_1259
theorem k_X12_87 : MS RX12 87 m_X12_in 3 := ⟨mi_X12_in, w_1253, w_1254⟩
theorem g_X12_91 : FG RX12 91 12 14 0 := ⟨RX12, TX12, 54, tyX12, "RingInSandModel", ok_c12, Nat.le_of_ble_eq_true rfl, rfl, w_1098, Or.inl rfl⟩
theorem c_X12_94 : Cond.constantLong RX12 94 (4) ∈ TG := w_1252
theorem k_X12_96 : MS RX12 96 m_X12_isCell 1 := ⟨mi_X12_isCell, w_1256, w_1257⟩
theorem c_X12_100 : Cond.constantLong RX12 100 (99) ∈ TG := w_1260
theorem c_X12_102 : Cond.constantLong RX12 102 (23) ∈ TG := w_1261
theorem c_X12_104 : Cond.constantLong RX12 104 (59) ∈ TG := w_1262
theorem c_X12_106 : Cond.constantLong RX12 106 (999999) ∈ TG := w_1263
theorem g_X12_23 : FG RX12 23 12 7 1 := ⟨RX12, TX12, 54, tyX12, "RingInSandModel", ok_c12, Nat.le_of_ble_eq_true rfl, rfl, w_1091, Or.inl rfl⟩
theorem g_X12_26 : FG RX12 26 12 8 1 := ⟨RX12, TX12, 54, tyX12, "RingInSandModel", ok_c12, Nat.le_of_ble_eq_true rfl, rfl, w_1092, Or.inl rfl⟩
theorem g_X12_108 : FG RX12 108 12 9 0 := ⟨RX12, TX12, 54, tyX12, "RingInSandModel", ok_c12, Nat.le_of_ble_eq_true rfl, rfl, w_1093, Or.inl rfl⟩
theorem g_X12_29 : FG RX12 29 12 10 0 := ⟨RX12, TX12, 54, tyX12, "RingInSandModel", ok_c12, Nat.le_of_ble_eq_true rfl, rfl, w_1094, Or.inl rfl⟩
theorem g_X12_111 : FG RX12 111 12 11 0 := ⟨RX12, TX12, 54, tyX12, "RingInSandModel", ok_c12, Nat.le_of_ble_eq_true rfl, rfl, w_1095, Or.inl rfl⟩
theorem p_X12_108 : FL RX12 108 12 9 0 false := ⟨RX12, TX12, 54, tyX12, "RingInSandModel", ok_c12, Nat.le_of_ble_eq_true rfl, rfl, rfl, w_1093, Or.inl rfl, fun h => by first | rfl | cases h⟩
theorem p_X12_111 : FL RX12 111 12 11 0 false := ⟨RX12, TX12, 54, tyX12, "RingInSandModel", ok_c12, Nat.le_of_ble_eq_true rfl, rfl, rfl, w_1095, Or.inl rfl, fun h => by first | rfl | cases h⟩
theorem c_X12_114 : Cond.constantLong RX12 114 (5) ∈ TG := w_1268
theorem c_X12_116 : Cond.constantLong RX12 116 (9) ∈ TG := w_1269
theorem g_X12_32 : FG RX12 32 12 12 1 := ⟨RX12, TX12, 54, tyX12, "RingInSandModel", ok_c12, Nat.le_of_ble_eq_true rfl, rfl, w_1096, Or.inl rfl⟩
theorem g_X12_35 : FG RX12 35 12 13 1 := ⟨RX12, TX12, 54, tyX12, "RingInSandModel", ok_c12, Nat.le_of_ble_eq_true rfl, rfl, w_1097, Or.inl rfl⟩
theorem p_X12_91 : FL RX12 91 12 14 0 false := ⟨RX12, TX12, 54, tyX12, "RingInSandModel", ok_c12, Nat.le_of_ble_eq_true rfl, rfl, rfl, w_1098, Or.inl rfl, fun h => by first | rfl | cases h⟩
theorem c_X12_118 : Cond.constantLong RX12 118 (255) ∈ TG := w_1274
theorem g_X12_120 : FG RX12 120 12 6 0 := ⟨RX12, TX12, 54, tyX12, "RingInSandModel", ok_c12, Nat.le_of_ble_eq_true rfl, rfl, w_1090, Or.inl rfl⟩
theorem g_X12_20 : FG RX12 20 12 5 1 := ⟨RX12, TX12, 54, tyX12, "RingInSandModel", ok_c12, Nat.le_of_ble_eq_true rfl, rfl, w_1089, Or.inl rfl⟩
theorem p_X12_120 : FL RX12 120 12 6 0 false := ⟨RX12, TX12, 54, tyX12, "RingInSandModel", ok_c12, Nat.le_of_ble_eq_true rfl, rfl, rfl, w_1090, Or.inl rfl, fun h => by first | rfl | cases h⟩
theorem g_X12_123 : FG RX12 123 12 22 0 := ⟨RX12, TX12, 54, tyX12, "RingInSandModel", ok_c12, Nat.le_of_ble_eq_true rfl, rfl, w_1106, Or.inl rfl⟩
theorem g_X12_126 : FG RX12 126 12 21 0 := ⟨RX12, TX12, 54, tyX12, "RingInSandModel", ok_c12, Nat.le_of_ble_eq_true rfl, rfl, w_1105, Or.inl rfl⟩
theorem g_X12_129 : FG RX12 129 12 23 0 := ⟨RX12, TX12, 54, tyX12, "RingInSandModel", ok_c12, Nat.le_of_ble_eq_true rfl, rfl, w_1107, Or.inl rfl⟩
theorem k_X12_132 : MV RX12 132 12 m_X12_byteAt 1 := ⟨mi_X12_byteAt, w_1287, w_1289, w_52, ⟨_, _, rfl⟩, Nat.le_of_ble_eq_true rfl⟩
theorem p_X12_129 : FL RX12 129 12 23 0 false := ⟨RX12, TX12, 54, tyX12, "RingInSandModel", ok_c12, Nat.le_of_ble_eq_true rfl, rfl, rfl, w_1107, Or.inl rfl, fun h => by first | rfl | cases h⟩
theorem p_X12_136 : FL RX12 136 12 25 0 false := ⟨RX12, TX12, 54, tyX12, "RingInSandModel", ok_c12, Nat.le_of_ble_eq_true rfl, rfl, rfl, w_1109, Or.inl rfl, fun h => by first | rfl | cases h⟩
theorem p_X12_139 : FL RX12 139 12 24 0 false := ⟨RX12, TX12, 54, tyX12, "RingInSandModel", ok_c12, Nat.le_of_ble_eq_true rfl, rfl, rfl, w_1108, Or.inl rfl, fun h => by first | rfl | cases h⟩
theorem c_X12_142 : Cond.constantLong RX12 142 (97) ∈ TG := w_1291
theorem c_X12_144 : Cond.constantLong RX12 144 (122) ∈ TG := w_1292
theorem c_X12_146 : Cond.constantLong RX12 146 (48) ∈ TG := w_1293
theorem c_X12_148 : Cond.constantLong RX12 148 (57) ∈ TG := w_1294
theorem p_X12_150 : FL RX12 150 12 26 2 false := ⟨RX12, TX12, 54, tyX12, "RingInSandModel", ok_c12, Nat.le_of_ble_eq_true rfl, rfl, rfl, w_1110, Or.inl rfl, fun h => by first | rfl | cases h⟩
theorem c_X12_154 : Cond.constantLong RX12 154 (10) ∈ TG := w_1295
theorem g_X12_150 : FG RX12 150 12 26 2 := ⟨RX12, TX12, 54, tyX12, "RingInSandModel", ok_c12, Nat.le_of_ble_eq_true rfl, rfl, w_1110, Or.inl rfl⟩
theorem g_X12_156 : FG RX12 156 12 28 3 := ⟨RX12, TX12, 54, tyX12, "RingInSandModel", ok_c12, Nat.le_of_ble_eq_true rfl, rfl, w_1112, Or.inl rfl⟩
theorem p_X12_156 : FL RX12 156 12 28 3 false := ⟨RX12, TX12, 54, tyX12, "RingInSandModel", ok_c12, Nat.le_of_ble_eq_true rfl, rfl, rfl, w_1112, Or.inl rfl, fun h => by first | rfl | cases h⟩
theorem g_X12_136 : FG RX12 136 12 25 0 := ⟨RX12, TX12, 54, tyX12, "RingInSandModel", ok_c12, Nat.le_of_ble_eq_true rfl, rfl, w_1109, Or.inl rfl⟩
theorem p_X12_160 : FL RX12 160 12 29 0 false := ⟨RX12, TX12, 54, tyX12, "RingInSandModel", ok_c12, Nat.le_of_ble_eq_true rfl, rfl, rfl, w_1113, Or.inl rfl, fun h => by first | rfl | cases h⟩
theorem g_X12_139 : FG RX12 139 12 24 0 := ⟨RX12, TX12, 54, tyX12, "RingInSandModel", ok_c12, Nat.le_of_ble_eq_true rfl, rfl, w_1108, Or.inl rfl⟩
theorem k_X12_163 : MV RX12 163 12 m_X12_isLetter 2 := ⟨mi_X12_isLetter, w_1300, w_1302, w_54, ⟨_, _, rfl⟩, Nat.le_of_ble_eq_true rfl⟩
theorem g_X12_167 : FG RX12 167 12 27 0 := ⟨RX12, TX12, 54, tyX12, "RingInSandModel", ok_c12, Nat.le_of_ble_eq_true rfl, rfl, w_1111, Or.inl rfl⟩
theorem k_X12_170 : MV RX12 170 12 m_X12_fail 0 := ⟨mi_X12_fail, w_1308, w_1310, w_56, ⟨_, _, rfl⟩, Nat.le_of_ble_eq_true rfl⟩
theorem p_X12_167 : FL RX12 167 12 27 0 false := ⟨RX12, TX12, 54, tyX12, "RingInSandModel", ok_c12, Nat.le_of_ble_eq_true rfl, rfl, rfl, w_1111, Or.inl rfl, fun h => by first | rfl | cases h⟩
theorem k_X12_173 : MV RX12 173 12 m_X12_nextToken 0 := ⟨mi_X12_nextToken, w_1283, w_1285, w_51, ⟨_, _, rfl⟩, Nat.le_of_ble_eq_true rfl⟩
theorem k_X12_176 : MV RX12 176 12 m_X12_isWord 8 := ⟨mi_X12_isWord, w_1296, w_1298, w_53, ⟨_, _, rfl⟩, Nat.le_of_ble_eq_true rfl⟩
theorem g_X12_180 : FG RX12 180 12 15 0 := ⟨RX12, TX12, 54, tyX12, "RingInSandModel", ok_c12, Nat.le_of_ble_eq_true rfl, rfl, w_1099, Or.inl rfl⟩
theorem g_X12_183 : FG RX12 183 12 16 0 := ⟨RX12, TX12, 54, tyX12, "RingInSandModel", ok_c12, Nat.le_of_ble_eq_true rfl, rfl, w_1100, Or.inl rfl⟩
theorem g_X12_186 : FG RX12 186 12 17 0 := ⟨RX12, TX12, 54, tyX12, "RingInSandModel", ok_c12, Nat.le_of_ble_eq_true rfl, rfl, w_1101, Or.inl rfl⟩
theorem g_X12_189 : FG RX12 189 12 18 0 := ⟨RX12, TX12, 54, tyX12, "RingInSandModel", ok_c12, Nat.le_of_ble_eq_true rfl, rfl, w_1102, Or.inl rfl⟩
theorem g_X12_192 : FG RX12 192 12 19 0 := ⟨RX12, TX12, 54, tyX12, "RingInSandModel", ok_c12, Nat.le_of_ble_eq_true rfl, rfl, w_1103, Or.inl rfl⟩
theorem g_X12_195 : FG RX12 195 12 20 0 := ⟨RX12, TX12, 54, tyX12, "RingInSandModel", ok_c12, Nat.le_of_ble_eq_true rfl, rfl, w_1104, Or.inl rfl⟩
theorem k_X12_198 : MV RX12 198 12 m_X12_isSign 1 := ⟨mi_X12_isSign, w_1340, w_1342, w_64, ⟨_, _, rfl⟩, Nat.le_of_ble_eq_true rfl⟩
theorem k_X12_201 : MV RX12 201 12 m_X12_opens 0 := ⟨mi_X12_opens, w_1324, w_1326, w_60, ⟨_, _, rfl⟩, Nat.le_of_ble_eq_true rfl⟩
theorem k_X12_205 : MV RX12 205 12 m_X12_atom 0 := ⟨mi_X12_atom, w_1336, w_1338, w_63, ⟨_, _, rfl⟩, Nat.le_of_ble_eq_true rfl⟩
theorem k_X12_209 : MV RX12 209 12 m_X12_either 0 := ⟨mi_X12_either, w_1312, w_1314, w_57, ⟨_, _, rfl⟩, Nat.le_of_ble_eq_true rfl⟩
theorem k_X12_212 : MV RX12 212 12 m_X12_name 0 := ⟨mi_X12_name, w_1344, w_1346, w_65, ⟨_, _, rfl⟩, Nat.le_of_ble_eq_true rfl⟩
theorem k_X12_215 : MV RX12 215 12 m_X12_term 0 := ⟨mi_X12_term, w_1332, w_1334, w_62, ⟨_, _, rfl⟩, Nat.le_of_ble_eq_true rfl⟩
theorem c_X12_218 : Cond.constantLong RX12 218 (43) ∈ TG := w_1348
theorem k_X12_220 : MV RX12 220 12 m_X12_not 0 := ⟨mi_X12_not, w_1320, w_1322, w_59, ⟨_, _, rfl⟩, Nat.le_of_ble_eq_true rfl⟩
theorem k_X12_223 : MV RX12 223 12 m_X12_added 0 := ⟨mi_X12_added, w_1328, w_1330, w_61, ⟨_, _, rfl⟩, Nat.le_of_ble_eq_true rfl⟩
theorem c_X12_226 : Cond.constantLong RX12 226 (60) ∈ TG := w_1349
theorem k_X12_228 : MV RX12 228 12 m_X12_both 0 := ⟨mi_X12_both, w_1316, w_1318, w_58, ⟨_, _, rfl⟩, Nat.le_of_ble_eq_true rfl⟩
theorem p_X12_126 : FL RX12 126 12 21 0 false := ⟨RX12, TX12, 54, tyX12, "RingInSandModel", ok_c12, Nat.le_of_ble_eq_true rfl, rfl, rfl, w_1105, Or.inl rfl, fun h => by first | rfl | cases h⟩
theorem p_X12_123 : FL RX12 123 12 22 0 false := ⟨RX12, TX12, 54, tyX12, "RingInSandModel", ok_c12, Nat.le_of_ble_eq_true rfl, rfl, rfl, w_1106, Or.inl rfl, fun h => by first | rfl | cases h⟩
theorem k_X12_231 : MV RX12 231 12 m_X12_part 1 := ⟨mi_X12_part, w_1304, w_1306, w_55, ⟨_, _, rfl⟩, Nat.le_of_ble_eq_true rfl⟩
theorem g_X12_82 : FG RX12 82 12 3 0 := ⟨RX12, TX12, 54, tyX12, "RingInSandModel", ok_c12, Nat.le_of_ble_eq_true rfl, rfl, w_1087, Or.inl rfl⟩
theorem k_X12_235 : MV RX12 235 12 m_X12_read 2 := ⟨mi_X12_read, w_1279, w_1281, w_50, ⟨_, _, rfl⟩, Nat.le_of_ble_eq_true rfl⟩
theorem g_X12_160 : FG RX12 160 12 29 0 := ⟨RX12, TX12, 54, tyX12, "RingInSandModel", ok_c12, Nat.le_of_ble_eq_true rfl, rfl, w_1113, Or.inl rfl⟩
theorem g_X12_239 : FG RX12 239 12 4 0 := ⟨RX12, TX12, 54, tyX12, "RingInSandModel", ok_c12, Nat.le_of_ble_eq_true rfl, rfl, w_1088, Or.inl rfl⟩
theorem p_X12_239 : FL RX12 239 12 4 0 false := ⟨RX12, TX12, 54, tyX12, "RingInSandModel", ok_c12, Nat.le_of_ble_eq_true rfl, rfl, rfl, w_1088, Or.inl rfl, fun h => by first | rfl | cases h⟩
theorem p_X12_180 : FL RX12 180 12 15 0 false := ⟨RX12, TX12, 54, tyX12, "RingInSandModel", ok_c12, Nat.le_of_ble_eq_true rfl, rfl, rfl, w_1099, Or.inl rfl, fun h => by first | rfl | cases h⟩
theorem p_X12_183 : FL RX12 183 12 16 0 false := ⟨RX12, TX12, 54, tyX12, "RingInSandModel", ok_c12, Nat.le_of_ble_eq_true rfl, rfl, rfl, w_1100, Or.inl rfl, fun h => by first | rfl | cases h⟩
theorem p_X12_186 : FL RX12 186 12 17 0 false := ⟨RX12, TX12, 54, tyX12, "RingInSandModel", ok_c12, Nat.le_of_ble_eq_true rfl, rfl, rfl, w_1101, Or.inl rfl, fun h => by first | rfl | cases h⟩
theorem p_X12_189 : FL RX12 189 12 18 0 false := ⟨RX12, TX12, 54, tyX12, "RingInSandModel", ok_c12, Nat.le_of_ble_eq_true rfl, rfl, rfl, w_1102, Or.inl rfl, fun h => by first | rfl | cases h⟩
theorem p_X12_192 : FL RX12 192 12 19 0 false := ⟨RX12, TX12, 54, tyX12, "RingInSandModel", ok_c12, Nat.le_of_ble_eq_true rfl, rfl, rfl, w_1103, Or.inl rfl, fun h => by first | rfl | cases h⟩
theorem p_X12_195 : FL RX12 195 12 20 0 false := ⟨RX12, TX12, 54, tyX12, "RingInSandModel", ok_c12, Nat.le_of_ble_eq_true rfl, rfl, rfl, w_1104, Or.inl rfl, fun h => by first | rfl | cases h⟩
theorem k_X12_242 : MV RX12 242 12 m_X12_says 3 := ⟨mi_X12_says, w_1362, w_1364, w_67, ⟨_, _, rfl⟩, Nat.le_of_ble_eq_true rfl⟩
theorem k_X12_246 : MS RX12 246 m_X12_within 3 := ⟨mi_X12_within, w_1366, w_1367⟩
theorem k_X12_249 : MV RX12 249 12 m_X12_deep 1 := ⟨mi_X12_deep, w_1358, w_1360, w_66, ⟨_, _, rfl⟩, Nat.le_of_ble_eq_true rfl⟩
theorem k_X12_252 : MV RX12 252 12 m_X12_shine 1 := ⟨mi_X12_shine, w_1369, w_1371, w_68, ⟨_, _, rfl⟩, Nat.le_of_ble_eq_true rfl⟩
theorem k_X12_255 : MV RX12 255 12 m_X12_isUnder 1 := ⟨mi_X12_isUnder, w_1373, w_1375, w_69, ⟨_, _, rfl⟩, Nat.le_of_ble_eq_true rfl⟩
theorem k_X12_258 : MV RX12 258 12 m_X12_finds 3 := ⟨mi_X12_finds, w_1389, w_1391, w_72, ⟨_, _, rfl⟩, Nat.le_of_ble_eq_true rfl⟩
theorem k_X12_261 : MV RX12 261 12 m_X12_good 2 := ⟨mi_X12_good, w_1385, w_1387, w_71, ⟨_, _, rfl⟩, Nat.le_of_ble_eq_true rfl⟩
theorem k_X12_264 : MV RX12 264 12 m_X12_isLooker 1 := ⟨mi_X12_isLooker, w_1381, w_1383, w_70, ⟨_, _, rfl⟩, Nat.le_of_ble_eq_true rfl⟩
theorem k_X12_267 : MV RX12 267 12 m_X12_takes 1 := ⟨mi_X12_takes, w_1393, w_1395, w_73, ⟨_, _, rfl⟩, Nat.le_of_ble_eq_true rfl⟩
theorem k_X12_270 : MV RX12 270 12 m_X12_stamps 1 := ⟨mi_X12_stamps, w_1397, w_1399, w_74, ⟨_, _, rfl⟩, Nat.le_of_ble_eq_true rfl⟩
theorem k_X12_273 : MV RX12 273 12 m_X12_gain 2 := ⟨mi_X12_gain, w_1401, w_1403, w_75, ⟨_, _, rfl⟩, Nat.le_of_ble_eq_true rfl⟩
theorem k_X12_276 : MV RX12 276 12 m_X12_looks 2 := ⟨mi_X12_looks, w_1409, w_1411, w_76, ⟨_, _, rfl⟩, Nat.le_of_ble_eq_true rfl⟩
theorem p_X12_280 : FL RX12 280 12 30 0 false := ⟨RX12, TX12, 54, tyX12, "RingInSandModel", ok_c12, Nat.le_of_ble_eq_true rfl, rfl, rfl, w_1114, Or.inl rfl, fun h => by first | rfl | cases h⟩
theorem p_X12_283 : FL RX12 283 12 31 0 false := ⟨RX12, TX12, 54, tyX12, "RingInSandModel", ok_c12, Nat.le_of_ble_eq_true rfl, rfl, rfl, w_1115, Or.inl rfl, fun h => by first | rfl | cases h⟩
theorem p_X12_286 : FL RX12 286 12 32 0 false := ⟨RX12, TX12, 54, tyX12, "RingInSandModel", ok_c12, Nat.le_of_ble_eq_true rfl, rfl, rfl, w_1116, Or.inl rfl, fun h => by first | rfl | cases h⟩
theorem g_X12_38 : FG RX12 38 12 33 1 := ⟨RX12, TX12, 54, tyX12, "RingInSandModel", ok_c12, Nat.le_of_ble_eq_true rfl, rfl, w_1117, Or.inl rfl⟩
theorem g_X12_41 : FG RX12 41 12 34 1 := ⟨RX12, TX12, 54, tyX12, "RingInSandModel", ok_c12, Nat.le_of_ble_eq_true rfl, rfl, w_1118, Or.inl rfl⟩
theorem g_X12_286 : FG RX12 286 12 32 0 := ⟨RX12, TX12, 54, tyX12, "RingInSandModel", ok_c12, Nat.le_of_ble_eq_true rfl, rfl, w_1116, Or.inl rfl⟩
theorem c_X12_289 : Cond.constantLong RX12 289 (2) ∈ TG := w_1417
theorem k_X12_291 : MV RX12 291 12 m_X12_best 0 := ⟨mi_X12_best, w_1418, w_1420, w_77, ⟨_, _, rfl⟩, Nat.le_of_ble_eq_true rfl⟩
theorem g_X12_280 : FG RX12 280 12 30 0 := ⟨RX12, TX12, 54, tyX12, "RingInSandModel", ok_c12, Nat.le_of_ble_eq_true rfl, rfl, w_1114, Or.inl rfl⟩
theorem g_X12_283 : FG RX12 283 12 31 0 := ⟨RX12, TX12, 54, tyX12, "RingInSandModel", ok_c12, Nat.le_of_ble_eq_true rfl, rfl, w_1115, Or.inl rfl⟩
theorem g_X12_44 : FG RX12 44 12 35 1 := ⟨RX12, TX12, 54, tyX12, "RingInSandModel", ok_c12, Nat.le_of_ble_eq_true rfl, rfl, w_1119, Or.inl rfl⟩
theorem g_X12_47 : FG RX12 47 12 36 1 := ⟨RX12, TX12, 54, tyX12, "RingInSandModel", ok_c12, Nat.le_of_ble_eq_true rfl, rfl, w_1120, Or.inl rfl⟩
theorem p_X12_294 : FL RX12 294 12 37 0 false := ⟨RX12, TX12, 54, tyX12, "RingInSandModel", ok_c12, Nat.le_of_ble_eq_true rfl, rfl, rfl, w_1121, Or.inl rfl, fun h => by first | rfl | cases h⟩
theorem p_X12_297 : FL RX12 297 12 38 0 false := ⟨RX12, TX12, 54, tyX12, "RingInSandModel", ok_c12, Nat.le_of_ble_eq_true rfl, rfl, rfl, w_1122, Or.inl rfl, fun h => by first | rfl | cases h⟩
theorem g_X12_294 : FG RX12 294 12 37 0 := ⟨RX12, TX12, 54, tyX12, "RingInSandModel", ok_c12, Nat.le_of_ble_eq_true rfl, rfl, w_1121, Or.inl rfl⟩
theorem g_X12_297 : FG RX12 297 12 38 0 := ⟨RX12, TX12, 54, tyX12, "RingInSandModel", ok_c12, Nat.le_of_ble_eq_true rfl, rfl, w_1122, Or.inl rfl⟩
theorem k_X12_300 : MV RX12 300 12 m_X12_laysAside 0 := ⟨mi_X12_laysAside, w_1435, w_1437, w_79, ⟨_, _, rfl⟩, Nat.le_of_ble_eq_true rfl⟩
theorem p_X12_303 : FL RX12 303 12 41 0 false := ⟨RX12, TX12, 54, tyX12, "RingInSandModel", ok_c12, Nat.le_of_ble_eq_true rfl, rfl, rfl, w_1125, Or.inl rfl, fun h => by first | rfl | cases h⟩
theorem p_X12_306 : FL RX12 306 12 42 0 false := ⟨RX12, TX12, 54, tyX12, "RingInSandModel", ok_c12, Nat.le_of_ble_eq_true rfl, rfl, rfl, w_1126, Or.inl rfl, fun h => by first | rfl | cases h⟩
theorem g_X12_50 : FG RX12 50 12 39 1 := ⟨RX12, TX12, 54, tyX12, "RingInSandModel", ok_c12, Nat.le_of_ble_eq_true rfl, rfl, w_1123, Or.inl rfl⟩
theorem g_X12_53 : FG RX12 53 12 40 1 := ⟨RX12, TX12, 54, tyX12, "RingInSandModel", ok_c12, Nat.le_of_ble_eq_true rfl, rfl, w_1124, Or.inl rfl⟩
theorem g_X12_306 : FG RX12 306 12 42 0 := ⟨RX12, TX12, 54, tyX12, "RingInSandModel", ok_c12, Nat.le_of_ble_eq_true rfl, rfl, w_1126, Or.inl rfl⟩
theorem g_X12_303 : FG RX12 303 12 41 0 := ⟨RX12, TX12, 54, tyX12, "RingInSandModel", ok_c12, Nat.le_of_ble_eq_true rfl, rfl, w_1125, Or.inl rfl⟩
theorem k_X12_309 : MV RX12 309 12 m_X12_laysBack 0 := ⟨mi_X12_laysBack, w_1439, w_1441, w_80, ⟨_, _, rfl⟩, Nat.le_of_ble_eq_true rfl⟩
theorem c_X12_312 : Cond.constantLong RX12 312 (20) ∈ TG := w_1430
theorem k_X12_314 : MV RX12 314 12 m_X12_plans 1 := ⟨mi_X12_plans, w_1431, w_1433, w_78, ⟨_, _, rfl⟩, Nat.le_of_ble_eq_true rfl⟩
theorem c_X12_318 : Cond.constantLong RX12 318 (19) ∈ TG := w_1447
theorem k_X12_320 : MV RX12 320 12 m_X12_onCells 0 := ⟨mi_X12_onCells, w_1456, w_1458, w_81, ⟨_, _, rfl⟩, Nat.le_of_ble_eq_true rfl⟩
theorem k_X12_323 : MS RX12 323 m_X12_lowest 3 := ⟨mi_X12_lowest, w_1460, w_1461⟩
theorem c_X12_327 : Cond.constantLong RX12 327 (-4611686018427387904) ∈ TG := w_1463
theorem k_X12_329 : MV RX12 329 12 m_X12_drownedNow 0 := ⟨mi_X12_drownedNow, w_1480, w_1482, w_82, ⟨_, _, rfl⟩, Nat.le_of_ble_eq_true rfl⟩
theorem c_X12_332 : Cond.constant RX12 332 (999999) ∈ TG := w_1497
theorem k_X12_333 : MS RX12 333 m_X12_isSheet 1 := ⟨mi_X12_isSheet, w_1488, w_1489⟩
theorem c_X12_336 : Cond.constantLong RX12 336 (9999) ∈ TG := w_1492
theorem g_X12_65 : FG RX12 65 12 50 1 := ⟨RX12, TX12, 54, tyX12, "RingInSandModel", ok_c12, Nat.le_of_ble_eq_true rfl, rfl, w_1134, Or.inl rfl⟩
theorem g_X12_72 : FG RX12 72 12 52 1 := ⟨RX12, TX12, 54, tyX12, "RingInSandModel", ok_c12, Nat.le_of_ble_eq_true rfl, rfl, w_1136, Or.inl rfl⟩
theorem g_X12_75 : FG RX12 75 12 53 1 := ⟨RX12, TX12, 54, tyX12, "RingInSandModel", ok_c12, Nat.le_of_ble_eq_true rfl, rfl, w_1137, Or.inl rfl⟩
theorem k_X12_338 : MV RX12 338 12 m_X12_more 2 := ⟨mi_X12_more, w_1493, w_1495, w_83, ⟨_, _, rfl⟩, Nat.le_of_ble_eq_true rfl⟩
theorem c_X12_341 : Cond.constantLong RX12 341 (8) ∈ TG := w_1502
theorem p_X12_343 : FL RX12 343 12 43 0 false := ⟨RX12, TX12, 54, tyX12, "RingInSandModel", ok_c12, Nat.le_of_ble_eq_true rfl, rfl, rfl, w_1127, Or.inl rfl, fun h => by first | rfl | cases h⟩
theorem g_X12_343 : FG RX12 343 12 43 0 := ⟨RX12, TX12, 54, tyX12, "RingInSandModel", ok_c12, Nat.le_of_ble_eq_true rfl, rfl, w_1127, Or.inl rfl⟩
theorem k_X12_346 : MV RX12 346 12 m_X12_judges 1 := ⟨mi_X12_judges, w_1507, w_1509, w_84, ⟨_, _, rfl⟩, Nat.le_of_ble_eq_true rfl⟩
theorem c_X12_349 : Cond.constant RX12 349 (1103515245) ∈ TG := w_1519
theorem k_X12_350 : MV RX12 350 12 m_X12_drawn 1 := ⟨mi_X12_drawn, w_1524, w_1516, w_1517, ⟨_, _, rfl⟩, Nat.le_of_ble_eq_true rfl⟩
theorem g_X12_56 : FG RX12 56 12 44 1 := ⟨RX12, TX12, 54, tyX12, "RingInSandModel", ok_c12, Nat.le_of_ble_eq_true rfl, rfl, w_1128, Or.inl rfl⟩
theorem g_X12_59 : FG RX12 59 12 45 1 := ⟨RX12, TX12, 54, tyX12, "RingInSandModel", ok_c12, Nat.le_of_ble_eq_true rfl, rfl, w_1129, Or.inl rfl⟩
theorem p_X12_353 : FL RX12 353 12 47 0 false := ⟨RX12, TX12, 54, tyX12, "RingInSandModel", ok_c12, Nat.le_of_ble_eq_true rfl, rfl, rfl, w_1131, Or.inl rfl, fun h => by first | rfl | cases h⟩
theorem p_X12_356 : FL RX12 356 12 48 0 false := ⟨RX12, TX12, 54, tyX12, "RingInSandModel", ok_c12, Nat.le_of_ble_eq_true rfl, rfl, rfl, w_1132, Or.inl rfl, fun h => by first | rfl | cases h⟩
theorem p_X12_359 : FL RX12 359 12 49 0 false := ⟨RX12, TX12, 54, tyX12, "RingInSandModel", ok_c12, Nat.le_of_ble_eq_true rfl, rfl, rfl, w_1133, Or.inl rfl, fun h => by first | rfl | cases h⟩
theorem g_X12_62 : FG RX12 62 12 46 0 := ⟨RX12, TX12, 54, tyX12, "RingInSandModel", ok_c12, Nat.le_of_ble_eq_true rfl, rfl, w_1130, Or.inl rfl⟩
theorem g_X12_353 : FG RX12 353 12 47 0 := ⟨RX12, TX12, 54, tyX12, "RingInSandModel", ok_c12, Nat.le_of_ble_eq_true rfl, rfl, w_1131, Or.inl rfl⟩
theorem g_X12_356 : FG RX12 356 12 48 0 := ⟨RX12, TX12, 54, tyX12, "RingInSandModel", ok_c12, Nat.le_of_ble_eq_true rfl, rfl, w_1132, Or.inl rfl⟩
theorem g_X12_359 : FG RX12 359 12 49 0 := ⟨RX12, TX12, 54, tyX12, "RingInSandModel", ok_c12, Nat.le_of_ble_eq_true rfl, rfl, w_1133, Or.inl rfl⟩
theorem c_X12_362 : Cond.constantLong RX12 362 (7) ∈ TG := w_1537
theorem c_X12_364 : Cond.constantLong RX12 364 (3) ∈ TG := w_1491
theorem c_X12_366 : Cond.constantLong RX12 366 (-1) ∈ TG := w_1542
theorem g_X12_69 : FG RX12 69 12 51 1 := ⟨RX12, TX12, 54, tyX12, "RingInSandModel", ok_c12, Nat.le_of_ble_eq_true rfl, rfl, w_1135, Or.inl rfl⟩
theorem c_X12_368 : Cond.constantLong RX12 368 (6) ∈ TG := w_1555
theorem k_X12_370 : MV RX12 370 12 m_X12_looker 2 := ⟨mi_X12_looker, w_1556, w_1265, w_1266, ⟨_, _, rfl⟩, Nat.le_of_ble_eq_true rfl⟩
theorem k_X12_373 : MS RX12 373 m_X12_over 1 := ⟨mi_X12_over, w_1561, w_1562⟩
theorem l_L_7 : Cond.classLink RL 7 "RingInSand" ∈ TG := w_106
theorem k_L_9 : MC RL 9 m_X11_init 0 := ⟨mi_X11_init, w_108, w_109, rfl, rfl⟩
theorem l_L_10 : Cond.classLink RL 10 "RingInSandModel" ∈ TG := w_1075
theorem k_L_12 : MC RL 12 m_X12_init 0 := ⟨mi_X12_init, w_1077, w_1078, rfl, rfl⟩
theorem k_L_13 : MV RL 13 11 m_X11_set 3 := ⟨mi_X11_set, w_547, w_548, w_549, ⟨_, _, rfl⟩, Nat.le_of_ble_eq_true rfl⟩
theorem k_L_17 : MV RL 17 12 m_X12_set 3 := ⟨mi_X12_set, w_1248, w_1249, w_1250, ⟨_, _, rfl⟩, Nat.le_of_ble_eq_true rfl⟩
theorem k_L_18 : MV RL 18 11 m_X11_told 2 := ⟨mi_X11_told, w_576, w_577, w_578, ⟨_, _, rfl⟩, Nat.le_of_ble_eq_true rfl⟩
theorem k_L_22 : MV RL 22 12 m_X12_told 2 := ⟨mi_X12_told, w_1354, w_1355, w_1356, ⟨_, _, rfl⟩, Nat.le_of_ble_eq_true rfl⟩
theorem k_L_23 : MV RL 23 11 m_X11_looker 2 := ⟨mi_X11_looker, w_635, w_636, w_637, ⟨_, _, rfl⟩, Nat.le_of_ble_eq_true rfl⟩
theorem k_L_26 : MV RL 26 12 m_X12_looker 2 := ⟨mi_X12_looker, w_1264, w_1265, w_1266, ⟨_, _, rfl⟩, Nat.le_of_ble_eq_true rfl⟩
theorem k_L_27 : MV RL 27 11 m_X11_asks 3 := ⟨mi_X11_asks, w_698, w_699, w_700, ⟨_, _, rfl⟩, Nat.le_of_ble_eq_true rfl⟩
theorem k_L_30 : MV RL 30 12 m_X12_asks 3 := ⟨mi_X12_asks, w_1377, w_1378, w_1379, ⟨_, _, rfl⟩, Nat.le_of_ble_eq_true rfl⟩
theorem k_L_31 : MV RL 31 11 m_X11_feed 1 := ⟨mi_X11_feed, w_791, w_792, w_793, ⟨_, _, rfl⟩, Nat.le_of_ble_eq_true rfl⟩
theorem k_L_35 : MV RL 35 12 m_X12_feed 1 := ⟨mi_X12_feed, w_1270, w_1271, w_1272, ⟨_, _, rfl⟩, Nat.le_of_ble_eq_true rfl⟩
theorem k_L_36 : MV RL 36 11 m_X11_text 0 := ⟨mi_X11_text, w_795, w_796, w_797, ⟨_, _, rfl⟩, Nat.le_of_ble_eq_true rfl⟩
theorem k_L_40 : MV RL 40 12 m_X12_text 0 := ⟨mi_X12_text, w_1275, w_1276, w_1277, ⟨_, _, rfl⟩, Nat.le_of_ble_eq_true rfl⟩
theorem k_L_41 : MV RL 41 11 m_X11_force 1 := ⟨mi_X11_force, w_800, w_801, w_802, ⟨_, _, rfl⟩, Nat.le_of_ble_eq_true rfl⟩
theorem k_L_44 : MV RL 44 12 m_X12_force 1 := ⟨mi_X12_force, w_1350, w_1351, w_1352, ⟨_, _, rfl⟩, Nat.le_of_ble_eq_true rfl⟩
theorem k_L_45 : MV RL 45 11 m_X11_look 2 := ⟨mi_X11_look, w_805, w_806, w_807, ⟨_, _, rfl⟩, Nat.le_of_ble_eq_true rfl⟩
theorem k_L_48 : MV RL 48 12 m_X12_look 2 := ⟨mi_X12_look, w_1405, w_1406, w_1407, ⟨_, _, rfl⟩, Nat.le_of_ble_eq_true rfl⟩
theorem k_L_49 : MV RL 49 11 m_X11_next 1 := ⟨mi_X11_next, w_826, w_827, w_828, ⟨_, _, rfl⟩, Nat.le_of_ble_eq_true rfl⟩
theorem k_L_52 : MV RL 52 12 m_X12_next 1 := ⟨mi_X12_next, w_1413, w_1414, w_1415, ⟨_, _, rfl⟩, Nat.le_of_ble_eq_true rfl⟩
theorem k_L_53 : MV RL 53 11 m_X11_plan 2 := ⟨mi_X11_plan, w_838, w_839, w_840, ⟨_, _, rfl⟩, Nat.le_of_ble_eq_true rfl⟩
theorem k_L_56 : MV RL 56 12 m_X12_plan 2 := ⟨mi_X12_plan, w_1426, w_1427, w_1428, ⟨_, _, rfl⟩, Nat.le_of_ble_eq_true rfl⟩
theorem k_L_57 : MV RL 57 11 m_X11_planned 1 := ⟨mi_X11_planned, w_861, w_862, w_863, ⟨_, _, rfl⟩, Nat.le_of_ble_eq_true rfl⟩
theorem k_L_60 : MV RL 60 12 m_X12_planned 1 := ⟨mi_X12_planned, w_1443, w_1444, w_1445, ⟨_, _, rfl⟩, Nat.le_of_ble_eq_true rfl⟩
theorem k_L_61 : MV RL 61 11 m_X11_search 0 := ⟨mi_X11_search, w_870, w_871, w_872, ⟨_, _, rfl⟩, Nat.le_of_ble_eq_true rfl⟩
theorem k_L_64 : MV RL 64 12 m_X12_search 0 := ⟨mi_X12_search, w_1422, w_1423, w_1424, ⟨_, _, rfl⟩, Nat.le_of_ble_eq_true rfl⟩
theorem k_L_65 : MV RL 65 11 m_X11_giveUp 1 := ⟨mi_X11_giveUp, w_874, w_875, w_876, ⟨_, _, rfl⟩, Nat.le_of_ble_eq_true rfl⟩
theorem k_L_68 : MV RL 68 12 m_X12_giveUp 1 := ⟨mi_X12_giveUp, w_1448, w_1449, w_1450, ⟨_, _, rfl⟩, Nat.le_of_ble_eq_true rfl⟩
theorem k_L_69 : MV RL 69 11 m_X11_likely 2 := ⟨mi_X11_likely, w_882, w_883, w_884, ⟨_, _, rfl⟩, Nat.le_of_ble_eq_true rfl⟩
theorem k_L_73 : MV RL 73 12 m_X12_likely 2 := ⟨mi_X12_likely, w_1452, w_1453, w_1454, ⟨_, _, rfl⟩, Nat.le_of_ble_eq_true rfl⟩
theorem k_L_74 : MV RL 74 11 m_X11_here 1 := ⟨mi_X11_here, w_901, w_902, w_903, ⟨_, _, rfl⟩, Nat.le_of_ble_eq_true rfl⟩
theorem k_L_78 : MV RL 78 12 m_X12_here 1 := ⟨mi_X12_here, w_1464, w_1465, w_1466, ⟨_, _, rfl⟩, Nat.le_of_ble_eq_true rfl⟩
theorem k_L_79 : MV RL 79 11 m_X11_most 1 := ⟨mi_X11_most, w_906, w_907, w_908, ⟨_, _, rfl⟩, Nat.le_of_ble_eq_true rfl⟩
theorem k_L_82 : MV RL 82 12 m_X12_most 1 := ⟨mi_X12_most, w_1468, w_1469, w_1470, ⟨_, _, rfl⟩, Nat.le_of_ble_eq_true rfl⟩
theorem k_L_83 : MV RL 83 11 m_X11_under 1 := ⟨mi_X11_under, w_914, w_915, w_916, ⟨_, _, rfl⟩, Nat.le_of_ble_eq_true rfl⟩
theorem k_L_86 : MV RL 86 12 m_X12_under 1 := ⟨mi_X12_under, w_1472, w_1473, w_1474, ⟨_, _, rfl⟩, Nat.le_of_ble_eq_true rfl⟩
theorem k_L_87 : MV RL 87 11 m_X11_drowned 1 := ⟨mi_X11_drowned, w_926, w_927, w_928, ⟨_, _, rfl⟩, Nat.le_of_ble_eq_true rfl⟩
theorem k_L_90 : MV RL 90 12 m_X12_drowned 1 := ⟨mi_X12_drowned, w_1476, w_1477, w_1478, ⟨_, _, rfl⟩, Nat.le_of_ble_eq_true rfl⟩
theorem k_L_91 : MV RL 91 11 m_X11_seen 2 := ⟨mi_X11_seen, w_938, w_939, w_940, ⟨_, _, rfl⟩, Nat.le_of_ble_eq_true rfl⟩
theorem k_L_94 : MV RL 94 12 m_X12_seen 2 := ⟨mi_X12_seen, w_1484, w_1485, w_1486, ⟨_, _, rfl⟩, Nat.le_of_ble_eq_true rfl⟩
theorem k_L_95 : MV RL 95 11 m_X11_crowd 3 := ⟨mi_X11_crowd, w_971, w_972, w_973, ⟨_, _, rfl⟩, Nat.le_of_ble_eq_true rfl⟩
theorem k_L_98 : MV RL 98 12 m_X12_crowd 3 := ⟨mi_X12_crowd, w_1498, w_1499, w_1500, ⟨_, _, rfl⟩, Nat.le_of_ble_eq_true rfl⟩
theorem k_L_99 : MV RL 99 11 m_X11_judge 1 := ⟨mi_X11_judge, w_975, w_976, w_977, ⟨_, _, rfl⟩, Nat.le_of_ble_eq_true rfl⟩
theorem k_L_102 : MV RL 102 12 m_X12_judge 1 := ⟨mi_X12_judge, w_1503, w_1504, w_1505, ⟨_, _, rfl⟩, Nat.le_of_ble_eq_true rfl⟩
theorem k_L_103 : MV RL 103 11 m_X11_found 2 := ⟨mi_X11_found, w_987, w_988, w_989, ⟨_, _, rfl⟩, Nat.le_of_ble_eq_true rfl⟩
theorem k_L_106 : MV RL 106 12 m_X12_found 2 := ⟨mi_X12_found, w_1511, w_1512, w_1513, ⟨_, _, rfl⟩, Nat.le_of_ble_eq_true rfl⟩
theorem k_L_107 : MV RL 107 11 m_X11_drawn 1 := ⟨mi_X11_drawn, w_991, w_992, w_993, ⟨_, _, rfl⟩, Nat.le_of_ble_eq_true rfl⟩
theorem k_L_110 : MV RL 110 12 m_X12_drawn 1 := ⟨mi_X12_drawn, w_1515, w_1516, w_1517, ⟨_, _, rfl⟩, Nat.le_of_ble_eq_true rfl⟩
theorem k_L_111 : MV RL 111 11 m_X11_foundBy 2 := ⟨mi_X11_foundBy, w_1000, w_1001, w_1002, ⟨_, _, rfl⟩, Nat.le_of_ble_eq_true rfl⟩
theorem k_L_114 : MV RL 114 12 m_X12_foundBy 2 := ⟨mi_X12_foundBy, w_1520, w_1521, w_1522, ⟨_, _, rfl⟩, Nat.le_of_ble_eq_true rfl⟩
theorem k_L_115 : MV RL 115 11 m_X11_image 0 := ⟨mi_X11_image, w_1009, w_1010, w_1011, ⟨_, _, rfl⟩, Nat.le_of_ble_eq_true rfl⟩
theorem k_L_118 : MV RL 118 12 m_X12_image 0 := ⟨mi_X12_image, w_1525, w_1526, w_1527, ⟨_, _, rfl⟩, Nat.le_of_ble_eq_true rfl⟩
theorem k_L_119 : MV RL 119 11 m_X11_back 0 := ⟨mi_X11_back, w_1013, w_1014, w_1015, ⟨_, _, rfl⟩, Nat.le_of_ble_eq_true rfl⟩
theorem k_L_122 : MV RL 122 12 m_X12_back 0 := ⟨mi_X12_back, w_1529, w_1530, w_1531, ⟨_, _, rfl⟩, Nat.le_of_ble_eq_true rfl⟩
theorem k_L_123 : MV RL 123 11 m_X11_count 1 := ⟨mi_X11_count, w_1017, w_1018, w_1019, ⟨_, _, rfl⟩, Nat.le_of_ble_eq_true rfl⟩
theorem k_L_126 : MV RL 126 12 m_X12_count 1 := ⟨mi_X12_count, w_1533, w_1534, w_1535, ⟨_, _, rfl⟩, Nat.le_of_ble_eq_true rfl⟩
theorem k_L_127 : MV RL 127 11 m_X11_sheet 3 := ⟨mi_X11_sheet, w_1025, w_1026, w_1027, ⟨_, _, rfl⟩, Nat.le_of_ble_eq_true rfl⟩
theorem k_L_130 : MV RL 130 12 m_X12_sheet 3 := ⟨mi_X12_sheet, w_1538, w_1539, w_1540, ⟨_, _, rfl⟩, Nat.le_of_ble_eq_true rfl⟩
theorem k_L_131 : MV RL 131 11 m_X11_cell 3 := ⟨mi_X11_cell, w_1041, w_1042, w_1043, ⟨_, _, rfl⟩, Nat.le_of_ble_eq_true rfl⟩
theorem k_L_134 : MV RL 134 12 m_X12_cell 3 := ⟨mi_X12_cell, w_1543, w_1544, w_1545, ⟨_, _, rfl⟩, Nat.le_of_ble_eq_true rfl⟩
theorem k_L_135 : MV RL 135 11 m_X11_copy 5 := ⟨mi_X11_copy, w_1054, w_1055, w_1056, ⟨_, _, rfl⟩, Nat.le_of_ble_eq_true rfl⟩
theorem k_L_139 : MV RL 139 12 m_X12_copy 5 := ⟨mi_X12_copy, w_1547, w_1548, w_1549, ⟨_, _, rfl⟩, Nat.le_of_ble_eq_true rfl⟩
theorem k_L_140 : MV RL 140 11 m_X11_lookers 4 := ⟨mi_X11_lookers, w_1063, w_1064, w_1065, ⟨_, _, rfl⟩, Nat.le_of_ble_eq_true rfl⟩
theorem k_L_144 : MV RL 144 12 m_X12_lookers 4 := ⟨mi_X12_lookers, w_1551, w_1552, w_1553, ⟨_, _, rfl⟩, Nat.le_of_ble_eq_true rfl⟩
theorem k_L_145 : MV RL 145 11 m_X11_taken 2 := ⟨mi_X11_taken, w_1068, w_1069, w_1070, ⟨_, _, rfl⟩, Nat.le_of_ble_eq_true rfl⟩
theorem k_L_148 : MV RL 148 12 m_X12_taken 2 := ⟨mi_X12_taken, w_1557, w_1558, w_1559, ⟨_, _, rfl⟩, Nat.le_of_ble_eq_true rfl⟩
theorem inst_c0 : Cond.instantiable RX0 6 ∈ TG := w_115
theorem init_c0 : Cond.initialized RX0 ∈ TG := w_87
theorem inst_c1 : Cond.instantiable RX1 1 ∈ TG := w_694
theorem init_c1 : Cond.initialized RX1 ∈ TG := w_98
theorem inst_c2 : Cond.instantiable RX2 1 ∈ TG := w_643
theorem init_c2 : Cond.initialized RX2 ∈ TG := w_99
theorem inst_c3 : Cond.instantiable RX3 1 ∈ TG := w_687
theorem init_c3 : Cond.initialized RX3 ∈ TG := w_103
theorem inst_c4 : Cond.instantiable RX4 1 ∈ TG := w_671
theorem init_c4 : Cond.initialized RX4 ∈ TG := w_101
theorem inst_c5 : Cond.instantiable RX5 13 ∈ TG := w_206
theorem init_c5 : Cond.initialized RX5 ∈ TG := w_89
theorem inst_c6 : Cond.instantiable RX6 3 ∈ TG := w_282
theorem init_c6 : Cond.initialized RX6 ∈ TG := w_91
theorem inst_c7 : Cond.instantiable RX7 1 ∈ TG := w_663
theorem init_c7 : Cond.initialized RX7 ∈ TG := w_100
theorem inst_c8 : Cond.instantiable RX8 1 ∈ TG := w_679
theorem init_c8 : Cond.initialized RX8 ∈ TG := w_102
theorem inst_c9 : Cond.instantiable RX9 5 ∈ TG := w_256
theorem init_c9 : Cond.initialized RX9 ∈ TG := w_90
theorem inst_c10 : Cond.instantiable RX10 14 ∈ TG := w_152
theorem init_c10 : Cond.initialized RX10 ∈ TG := w_88
theorem inst_c11 : Cond.instantiable RX11 14 ∈ TG := w_107
theorem init_c11 : Cond.initialized RX11 ∈ TG := w_86
theorem inst_c12 : Cond.instantiable RX12 54 ∈ TG := w_1076
theorem init_c12 : Cond.initialized RX12 ∈ TG := w_96
theorem ar_int : Cond.arrayClass .int ∈ TG := w_148
theorem ar_byte : Cond.arrayClass .byte ∈ TG := w_546
theorem ar_boolean : Cond.arrayClass .boolean ∈ TG := w_1247
end
section
/-! small rows: truth values, places in rows, switches, constants -/
theorem li_n1 : Int32.ofInt (-1) = (-1 : Int32) := by decide
theorem li_0 : Int32.ofInt (0) = (0 : Int32) := by decide
theorem li_1 : Int32.ofInt (1) = (1 : Int32) := by decide
theorem li_2 : Int32.ofInt (2) = (2 : Int32) := by decide
theorem li_3 : Int32.ofInt (3) = (3 : Int32) := by decide
theorem li_4 : Int32.ofInt (4) = (4 : Int32) := by decide
theorem li_5 : Int32.ofInt (5) = (5 : Int32) := by decide
theorem lb_n100 : (Int8.ofInt (-100)).toInt32 = (-100 : Int32) := by decide
theorem lb_n15 : (Int8.ofInt (-15)).toInt32 = (-15 : Int32) := by decide
theorem lb_n14 : (Int8.ofInt (-14)).toInt32 = (-14 : Int32) := by decide
theorem lb_n13 : (Int8.ofInt (-13)).toInt32 = (-13 : Int32) := by decide
theorem lb_n12 : (Int8.ofInt (-12)).toInt32 = (-12 : Int32) := by decide
theorem lb_n11 : (Int8.ofInt (-11)).toInt32 = (-11 : Int32) := by decide
theorem lb_n10 : (Int8.ofInt (-10)).toInt32 = (-10 : Int32) := by decide
theorem lb_n9 : (Int8.ofInt (-9)).toInt32 = (-9 : Int32) := by decide
theorem lb_n8 : (Int8.ofInt (-8)).toInt32 = (-8 : Int32) := by decide
theorem lb_n7 : (Int8.ofInt (-7)).toInt32 = (-7 : Int32) := by decide
theorem lb_n6 : (Int8.ofInt (-6)).toInt32 = (-6 : Int32) := by decide
theorem lb_n5 : (Int8.ofInt (-5)).toInt32 = (-5 : Int32) := by decide
theorem lb_n4 : (Int8.ofInt (-4)).toInt32 = (-4 : Int32) := by decide
theorem lb_n3 : (Int8.ofInt (-3)).toInt32 = (-3 : Int32) := by decide
theorem lb_n2 : (Int8.ofInt (-2)).toInt32 = (-2 : Int32) := by decide
theorem lb_6 : (Int8.ofInt (6)).toInt32 = (6 : Int32) := by decide
theorem lb_7 : (Int8.ofInt (7)).toInt32 = (7 : Int32) := by decide
theorem lb_8 : (Int8.ofInt (8)).toInt32 = (8 : Int32) := by decide
theorem lb_9 : (Int8.ofInt (9)).toInt32 = (9 : Int32) := by decide
theorem lb_10 : (Int8.ofInt (10)).toInt32 = (10 : Int32) := by decide
theorem lb_12 : (Int8.ofInt (12)).toInt32 = (12 : Int32) := by decide
theorem lb_13 : (Int8.ofInt (13)).toInt32 = (13 : Int32) := by decide
theorem lb_16 : (Int8.ofInt (16)).toInt32 = (16 : Int32) := by decide
theorem lb_19 : (Int8.ofInt (19)).toInt32 = (19 : Int32) := by decide
theorem lb_20 : (Int8.ofInt (20)).toInt32 = (20 : Int32) := by decide
theorem lb_23 : (Int8.ofInt (23)).toInt32 = (23 : Int32) := by decide
theorem lb_24 : (Int8.ofInt (24)).toInt32 = (24 : Int32) := by decide
theorem lb_30 : (Int8.ofInt (30)).toInt32 = (30 : Int32) := by decide
theorem lb_31 : (Int8.ofInt (31)).toInt32 = (31 : Int32) := by decide
theorem lb_32 : (Int8.ofInt (32)).toInt32 = (32 : Int32) := by decide
theorem lb_40 : (Int8.ofInt (40)).toInt32 = (40 : Int32) := by decide
theorem lb_41 : (Int8.ofInt (41)).toInt32 = (41 : Int32) := by decide
theorem lb_42 : (Int8.ofInt (42)).toInt32 = (42 : Int32) := by decide
theorem lb_43 : (Int8.ofInt (43)).toInt32 = (43 : Int32) := by decide
theorem lb_45 : (Int8.ofInt (45)).toInt32 = (45 : Int32) := by decide
theorem lb_47 : (Int8.ofInt (47)).toInt32 = (47 : Int32) := by decide
theorem lb_48 : (Int8.ofInt (48)).toInt32 = (48 : Int32) := by decide
theorem lb_49 : (Int8.ofInt (49)).toInt32 = (49 : Int32) := by decide
theorem lb_52 : (Int8.ofInt (52)).toInt32 = (52 : Int32) := by decide
theorem lb_55 : (Int8.ofInt (55)).toInt32 = (55 : Int32) := by decide
theorem lb_56 : (Int8.ofInt (56)).toInt32 = (56 : Int32) := by decide
theorem lb_57 : (Int8.ofInt (57)).toInt32 = (57 : Int32) := by decide
theorem lb_59 : (Int8.ofInt (59)).toInt32 = (59 : Int32) := by decide
theorem lb_60 : (Int8.ofInt (60)).toInt32 = (60 : Int32) := by decide
theorem lb_61 : (Int8.ofInt (61)).toInt32 = (61 : Int32) := by decide
theorem lb_64 : (Int8.ofInt (64)).toInt32 = (64 : Int32) := by decide
theorem lb_70 : (Int8.ofInt (70)).toInt32 = (70 : Int32) := by decide
theorem lb_72 : (Int8.ofInt (72)).toInt32 = (72 : Int32) := by decide
theorem lb_97 : (Int8.ofInt (97)).toInt32 = (97 : Int32) := by decide
theorem lb_99 : (Int8.ofInt (99)).toInt32 = (99 : Int32) := by decide
theorem lb_100 : (Int8.ofInt (100)).toInt32 = (100 : Int32) := by decide
theorem lb_101 : (Int8.ofInt (101)).toInt32 = (101 : Int32) := by decide
theorem lb_104 : (Int8.ofInt (104)).toInt32 = (104 : Int32) := by decide
theorem lb_105 : (Int8.ofInt (105)).toInt32 = (105 : Int32) := by decide
theorem lb_110 : (Int8.ofInt (110)).toInt32 = (110 : Int32) := by decide
theorem lb_111 : (Int8.ofInt (111)).toInt32 = (111 : Int32) := by decide
theorem lb_112 : (Int8.ofInt (112)).toInt32 = (112 : Int32) := by decide
theorem lb_114 : (Int8.ofInt (114)).toInt32 = (114 : Int32) := by decide
theorem lb_115 : (Int8.ofInt (115)).toInt32 = (115 : Int32) := by decide
theorem lb_116 : (Int8.ofInt (116)).toInt32 = (116 : Int32) := by decide
theorem lb_117 : (Int8.ofInt (117)).toInt32 = (117 : Int32) := by decide
theorem lb_120 : (Int8.ofInt (120)).toInt32 = (120 : Int32) := by decide
theorem lb_121 : (Int8.ofInt (121)).toInt32 = (121 : Int32) := by decide
theorem lb_122 : (Int8.ofInt (122)).toInt32 = (122 : Int32) := by decide
theorem ls_159 : (Int16.ofInt (159)).toInt32 = (159 : Int32) := by decide
theorem ls_160 : (Int16.ofInt (160)).toInt32 = (160 : Int32) := by decide
theorem ls_161 : (Int16.ofInt (161)).toInt32 = (161 : Int32) := by decide
theorem ls_200 : (Int16.ofInt (200)).toInt32 = (200 : Int32) := by decide
theorem ls_255 : (Int16.ofInt (255)).toInt32 = (255 : Int32) := by decide
theorem ls_960 : (Int16.ofInt (960)).toInt32 = (960 : Int32) := by decide
theorem ls_9999 : (Int16.ofInt (9999)).toInt32 = (9999 : Int32) := by decide
theorem ls_12345 : (Int16.ofInt (12345)).toInt32 = (12345 : Int32) := by decide
theorem ll_0 : Int64.ofNat ((0 : Fin 2) : Nat) = (0 : Int64) := by decide
theorem ll_1 : Int64.ofNat ((1 : Fin 2) : Nat) = (1 : Int64) := by decide
def bz (p : Prop) [Decidable p] : Int32 := if p then 1 else 0
theorem bz_t {p : Prop} [Decidable p] (h : p) : bz p = 1 := if_pos h
theorem bz_f {p : Prop} [Decidable p] (h : ¬ p) : bz p = 0 := if_neg h
theorem bz01 (p : Prop) [Decidable p] : bz p = 0 ∨ bz p = 1 := by by_cases h : p <;> simp [bz, h]
theorem bz_0 {p : Prop} [Decidable p] : bz p = 0 ↔ ¬ p := by by_cases h : p <;> simp [bz, h]
theorem bz_1 {p : Prop} [Decidable p] : bz p = 1 ↔ p := by by_cases h : p <;> simp [bz, h]
theorem bz_c {p q : Prop} [Decidable p] [Decidable q] (h : p ↔ q) : bz p = bz q := by by_cases hq : q <;> simp [bz, hq, h]
theorem ii_nI (n : Nat) : nI n + Int32.ofInt 1 = nI (n + 1) := nI_1 n
theorem ii_1 (x : Int32) : x + Int32.ofInt 1 = x + 1 := rfl
theorem nz_0 : narrow .boolean (.int 0) = .int 0 ∧ fits .boolean (.int 0) = true := ⟨rfl, rfl⟩
theorem nz_1 : narrow .boolean (.int 1) = .int 1 ∧ fits .boolean (.int 1) = true := ⟨rfl, rfl⟩
theorem nz_b (p : Prop) [Decidable p] : narrow .boolean (.int (bz p)) = .int (bz p) ∧ fits .boolean (.int (bz p)) = true := by
  rcases bz01 p with h | h <;> rw [h] <;> exact ⟨rfl, rfl⟩
/-- i names the place j of a row of L -/
def IX (i : Int32) (j L : Nat) : Prop := i.toNatClampNeg = j ∧ ¬ i < 0 ∧ j < L
theorem ix_n {n L : Nat} (h : n < L) (hL : Nat.ble L 2000000 = true) : IX (nI n) n L := by
  have hL := Nat.le_of_ble_eq_true hL
  exact ⟨nI_clamp (by omega), nI_pos (by omega), h⟩
theorem IX.of {i : Int32} {L : Nat} (h0 : 0 ≤ i) (h1 : i.toInt < L) : IX i i.toNatClampNeg L := by
  have h2 := Int32.le_iff_toInt_le.mp h0
  have h3 : (0 : Int32).toInt = 0 := rfl
  refine ⟨rfl, Int32.not_lt.mpr h0, ?_⟩
  show i.toInt.toNat < L
  omega
theorem IX.vp {i : Int32} {j L : Nat} (h : IX i j L) : vp_in i L := by
  rintro (q | q)
  · exact h.2.1 q
  · exact absurd (h.1 ▸ q) (Nat.not_le.mpr h.2.2)
abbrev isC (i : Int32) : Prop := 0 ≤ i ∧ i ≤ 47
theorem tl_0 : (0 : Int32).toInt = 0 := rfl
theorem isC.ix {i : Int32} (h : isC i) : IX i i.toNatClampNeg 48 := IX.of h.1 (by have := Int32.le_iff_toInt_le.mp h.2; have h3 : (47 : Int32).toInt = 47 := rfl; omega)
theorem hpI_st {h : AHp} {a k : Nat} {v : Int32} {b j : Nat} : hpI (stI h a k v) b j = if b = a ∧ j = k then v else hpI h b j := rfl
theorem hpI_stJ {h : AHp} {a k : Nat} {v : Int64} : hpI (stJ h a k v) = hpI h := rfl
theorem hpJ_stJ {h : AHp} {a k : Nat} {v : Int64} {b j : Nat} : hpJ (stJ h a k v) b j = if b = a ∧ j = k then v else hpJ h b j := rfl
theorem hpJ_st {h : AHp} {a k : Nat} {v : Int32} : hpJ (stI h a k v) = hpJ h := rfl
section VQ
variable {X : Cx} {G : Glb} {own : String} {cc : ByteArray} {nL k n pc pc' : Nat} {rt : Option FieldType} {Q : State → Prop} {ls : List (Option Value)} {st : List Value} {h : AHp} {d kc ks : Nat}
theorem v_ialdJ (hX : OKx X G own cc nL rt) {a L j : Nat} {i : Int32} (hk : Kd h a 100) (hl : hpL h a = L) (hi : IX i j L) (hd : Dq cc pc .iaload 1 pc') (kk : V X G nL k n Q pc' ls (.int (hpI h a j) :: st) h) : V X G nL k n Q pc ls (.int i :: .ref a :: st) h := by
  refine v_iald hX hk hl hi.vp hd ?_
  rw [hi.1]; exact kk
theorem v_zaldJ (hX : OKx X G own cc nL rt) {a L j : Nat} {i : Int32} (hk : Kd h a 101) (hl : hpL h a = L) (hi : IX i j L) (hd : Dq cc pc .baload 1 pc') (kk : V X G nL k n Q pc' ls (.int (hpI h a j) :: st) h) : V X G nL k n Q pc ls (.int i :: .ref a :: st) h := by
  refine v_zald hX hk hl hi.vp hd ?_
  rw [hi.1]; exact kk
theorem v_iastJ (hX : OKx X G own cc nL rt) {a L j : Nat} {i x : Int32} (hk : Kd h a 100) (hl : hpL h a = L) (hi : IX i j L) (hd : Dq cc pc .iastore 1 pc') (kk : V X G nL k n Q pc' ls st (stI h a j x)) : V X G nL k n Q pc ls (.int x :: .int i :: .ref a :: st) h := by
  refine v_iast hX hk hl hi.vp hd ?_
  rw [hi.1]; exact kk
theorem v_zastJ (hX : OKx X G own cc nL rt) {a L j : Nat} {i x : Int32} (hx : narrow .boolean (.int x) = .int x) (hk : Kd h a 101) (hl : hpL h a = L) (hi : IX i j L) (hd : Dq cc pc .bastore 1 pc') (kk : V X G nL k n Q pc' ls st (stI h a j x)) : V X G nL k n Q pc ls (.int x :: .int i :: .ref a :: st) h := by
  refine v_zast hX hx hk hl hi.vp hd ?_
  rw [hi.1]; exact kk
theorem v_if_eqB (hX : OKx X G own cc nL rt) {p : Prop} [Decidable p] {off : Int} (tgt : Nat) (hd : Dq cc pc (.ifCond .eq off) 3 pc') (ht : (pc : Int) + off = (tgt : Int)) (kt : ¬ p → V X G nL k n Q tgt ls st h) (kf : p → V X G nL k n Q pc' ls st h) : V X G nL k n Q pc ls (.int (bz p) :: st) h :=
  v_if_eq hX tgt hd ht (fun q => kt (bz_0.mp q)) (fun q => kf (Classical.byContradiction fun z => q (bz_0.mpr z)))
theorem v_if_neB (hX : OKx X G own cc nL rt) {p : Prop} [Decidable p] {off : Int} (tgt : Nat) (hd : Dq cc pc (.ifCond .ne off) 3 pc') (ht : (pc : Int) + off = (tgt : Int)) (kt : p → V X G nL k n Q tgt ls st h) (kf : ¬ p → V X G nL k n Q pc' ls st h) : V X G nL k n Q pc ls (.int (bz p) :: st) h :=
  v_if_ne hX tgt hd ht (fun q => kt (Classical.byContradiction fun z => q (bz_0.mpr z))) (fun q => kf (bz_0.mp q))
theorem v_case {x : Int32} (c : Int32) (k1 : x = c → V X G nL k n Q pc ls (.int x :: st) h) (k2 : ¬ x = c → V X G nL k n Q pc ls (.int x :: st) h) : V X G nL k n Q pc ls (.int x :: st) h := by
  by_cases e : x = c
  · exact k1 e
  · exact k2 e
theorem v_aload_nN (hX : OKx X G own cc nL rt) {i : Fin 4} (hl : ls[i.val]? = some (some .null)) (hd : Dq cc pc (.aload_n i) 1 pc') (kk : V X G nL k n Q pc' ls (.null :: st) h) : V X G nL k n Q pc ls (st) h := by
  obtain ⟨hd, rfl⟩ := hd
  intro H locs la hW hS hL
  exact lv_aload_nN hX.1 hX.2.1 hd rfl (hL.at hl) (kk H locs la hW hS hL)
theorem v_aloadN (hX : OKx X G own cc nL rt) {i : Nat} (hl : ls[i]? = some (some .null)) (hd : Dq cc pc (.aload i) 2 pc') (kk : V X G nL k n Q pc' ls (.null :: st) h) : V X G nL k n Q pc ls (st) h := by
  obtain ⟨hd, rfl⟩ := hd
  intro H locs la hW hS hL
  exact lv_aloadN hX.1 hX.2.1 hd (hL.at hl) (kk H locs la hW hS hL)
theorem v_astore_nN (hX : OKx X G own cc nL rt) {i : Fin 4} (hn : i.val < nL) (hq : noD ls = true) {ls' : List (Option Value)} (hl' : lst ls i.val .null = ls') (hd : Dq cc pc (.astore_n i) 1 pc') (kk : V X G nL k n Q pc' ls' st h) : V X G nL k n Q pc ls (.null :: st) h := by
  obtain ⟨hd, rfl⟩ := hd
  subst hl'
  intro H locs la hW hS hL
  exact lv_astore_nN hX.1 hX.2.1 hd rfl hL hn rfl (fun la' hL' => kk H locs la' hW hS (LH.st hL' (noD.no hq)))
theorem v_astoreN (hX : OKx X G own cc nL rt) {i : Nat} (hn : i < nL) (hq : noD ls = true) {ls' : List (Option Value)} (hl' : lst ls i .null = ls') (hd : Dq cc pc (.astore i) 2 pc') (kk : V X G nL k n Q pc' ls' st h) : V X G nL k n Q pc ls (.null :: st) h := by
  obtain ⟨hd, rfl⟩ := hd
  subst hl'
  intro H locs la hW hS hL
  exact lv_astoreN hX.1 hX.2.1 hd hL hn rfl (fun la' hL' => kk H locs la' hW hS (LH.st hL' (noD.no hq)))
theorem hNc (hX : OKx X G own cc nL rt) {C nm : String} (i : Nat) (h : ncL[i]? = some (C, nm)) : va_Nc C nm (xs X) := hX.2.2.2.2.2.2.1.2.2.2.2 (C, nm) (List.mem_of_getElem? h)
end VQ
theorem ne_i {x c : Int32} (z : Int) (hz : c.toInt = z) (h : ¬ x = c) : ¬ x.toInt = z := fun e => h (Int32.toInt_inj.mp (e.trans hz.symm))
theorem lk_out {x : Int32} {dflt : Int} : ∀ (l : List (Int × Int)), (∀ q ∈ l, ¬ x.toInt = q.1) → Op.lookupswitch.offset l dflt x.toInt = dflt := by
  intro l
  induction l with
  | nil => intro _; rfl
  | cons q l ih =>
    intro h
    obtain ⟨a, o⟩ := q
    rw [Op.lookupswitch.offset_cons, if_neg (fun e => h _ List.mem_cons_self e.symm)]
    exact ih (fun q hq => h q (List.mem_cons_of_mem _ hq))
theorem sI (n : Int32) : n.toInt = n.toInt := rfl
theorem leI {a b : Int32} : a ≤ b ↔ a.toInt ≤ b.toInt := Int32.le_iff_toInt_le
theorem ltI {a b : Int32} : a < b ↔ a.toInt < b.toInt := Int32.lt_iff_toInt_lt
theorem eqI {a b : Int32} : a = b ↔ a.toInt = b.toInt := Int32.toInt_inj.symm
end
section
/-! the shapes of the two systems: which object lies at which place; no call but a constructor changes them -/
def kTC : List Nat := [11, 0, 100, 100, 0, 100, 100, 0, 100, 100, 102, 10, 100, 100, 100, 100, 100, 5, 100, 100, 100, 100, 100, 100, 100, 100, 9, 100, 100, 103, 6, 100, 6, 100, 6, 100, 6, 100]
def lTC : List Nat := [0, 0, 48, 48, 0, 48, 48, 0, 48, 48, 6, 0, 160, 161, 161, 161, 160, 0, 960, 19, 6, 31, 48, 48, 48, 48, 0, 20, 20, 4, 0, 40, 0, 40, 0, 40, 0, 40]
def rTC : List (Nat × Nat × Nat) := [(0, 0, 1), (0, 1, 4), (0, 2, 7), (0, 4, 10), (0, 6, 11), (0, 7, 17), (0, 8, 26), (0, 9, 29), (1, 0, 2), (1, 1, 3), (4, 0, 5), (4, 1, 6), (7, 0, 8), (7, 1, 9), (11, 0, 12), (11, 3, 13), (11, 4, 14), (11, 5, 15), (11, 10, 16), (17, 0, 18), (17, 1, 19), (17, 3, 20), (17, 4, 21), (17, 6, 22), (17, 7, 23), (17, 8, 24), (17, 9, 25), (26, 0, 27), (26, 1, 28), (29, 0, 30), (29, 1, 32), (29, 2, 34), (29, 3, 36), (30, 0, 31), (32, 0, 33), (34, 0, 35), (36, 0, 37)]
def ShC (h : AHp) : Prop := 38 ≤ hpN h ∧ (∀ a c, kTC[a]? = some c → hpK h a = c) ∧ (∀ a L, lTC[a]? = some L → hpL h a = L) ∧ ∀ e ∈ rTC, hpR h e.1 e.2.1 = some e.2.2
theorem ShC.kd {h : AHp} (hs : ShC h) (a : Nat) {c : Nat} (e : kTC[a]? = some c) : Kd h a c := ⟨hs.2.1 a c e, by
  have h1 := (List.getElem?_eq_some_iff.mp e).1
  have h2 : kTC.length = 38 := rfl
  have h3 := hs.1
  omega⟩
theorem ShC.ln {h : AHp} (hs : ShC h) (a : Nat) {L : Nat} (e : lTC[a]? = some L) : hpL h a = L := hs.2.2.1 a L e
theorem ShC.rf {h : AHp} (hs : ShC h) (i : Nat) {a k b : Nat} (e : rTC[i]? = some (a, k, b)) : hpR h a k = some b := hs.2.2.2 (a, k, b) (List.mem_of_getElem? e)
def isB (B : Nat) : Prop := B = 1 ∨ B = 4 ∨ B = 7
section SHB
variable {h : AHp} {B : Nat}
theorem ShC.bk (hs : ShC h) (hB : isB B) : Kd h B 0 := by rcases hB with rfl | rfl | rfl <;> exact hs.kd _ rfl
theorem ShC.bo (hs : ShC h) (hB : isB B) : hpR h B 0 = some (B + 1) := by rcases hB with rfl | rfl | rfl <;> first | exact hs.rf 8 rfl | exact hs.rf 10 rfl | exact hs.rf 12 rfl
theorem ShC.bt (hs : ShC h) (hB : isB B) : hpR h B 1 = some (B + 2) := by rcases hB with rfl | rfl | rfl <;> first | exact hs.rf 9 rfl | exact hs.rf 11 rfl | exact hs.rf 13 rfl
theorem ShC.bok (hs : ShC h) (hB : isB B) : Kd h (B + 1) 100 := by rcases hB with rfl | rfl | rfl <;> exact hs.kd _ rfl
theorem ShC.btk (hs : ShC h) (hB : isB B) : Kd h (B + 2) 100 := by rcases hB with rfl | rfl | rfl <;> exact hs.kd _ rfl
theorem ShC.bol (hs : ShC h) (hB : isB B) : hpL h (B + 1) = 48 := by rcases hB with rfl | rfl | rfl <;> exact hs.ln _ rfl
theorem ShC.btl (hs : ShC h) (hB : isB B) : hpL h (B + 2) = 48 := by rcases hB with rfl | rfl | rfl <;> exact hs.ln _ rfl
def isS (S : Nat) : Prop := S = 30 ∨ S = 32 ∨ S = 34 ∨ S = 36
theorem ShC.sk (hs : ShC h) (hS : isS B) : Kd h B 6 := by rcases hS with rfl | rfl | rfl | rfl <;> exact hs.kd _ rfl
theorem ShC.si (hs : ShC h) (hS : isS B) : hpR h B 0 = some (B + 1) := by rcases hS with rfl | rfl | rfl | rfl <;> first | exact hs.rf 33 rfl | exact hs.rf 34 rfl | exact hs.rf 35 rfl | exact hs.rf 36 rfl
theorem ShC.sik (hs : ShC h) (hS : isS B) : Kd h (B + 1) 100 := by rcases hS with rfl | rfl | rfl | rfl <;> exact hs.kd _ rfl
theorem ShC.sil (hs : ShC h) (hS : isS B) : hpL h (B + 1) = 40 := by rcases hS with rfl | rfl | rfl | rfl <;> exact hs.ln _ rfl
end SHB
def kTM : List Nat := [12, 100, 100, 100, 100, 100, 100, 100, 100, 100, 100, 100, 100, 100, 100, 100, 101, 100, 100, 100]
def lTM : List Nat := [0, 960, 6, 160, 48, 48, 6, 6, 6, 6, 48, 48, 20, 20, 48, 48, 4, 4, 4, 160]
def rTM : List (Nat × Nat × Nat) := [(38, 1, 39), (38, 2, 40), (38, 5, 41), (38, 7, 42), (38, 8, 43), (38, 12, 44), (38, 13, 45), (38, 33, 46), (38, 34, 47), (38, 35, 48), (38, 36, 49), (38, 39, 50), (38, 40, 51), (38, 44, 52), (38, 45, 53), (38, 50, 54), (38, 51, 55), (38, 52, 56), (38, 53, 57)]
def ShM (h : AHp) : Prop := 58 ≤ hpN h ∧ (∀ i c, kTM[i]? = some c → hpK h (38 + i) = c) ∧ (∀ i L, lTM[i]? = some L → hpL h (38 + i) = L) ∧ ∀ e ∈ rTM, hpR h e.1 e.2.1 = some e.2.2
theorem ShM.kd {h : AHp} (hm : ShM h) (a : Nat) {c : Nat} (e : (if a < 38 then none else kTM[a - 38]?) = some c) : Kd h a c := by
  by_cases ha : a < 38
  · rw [if_pos ha] at e; cases e
  rw [if_neg ha] at e
  have h1 := (List.getElem?_eq_some_iff.mp e).1
  have h2 : kTM.length = 20 := rfl
  have h3 := hm.1
  have h4 := hm.2.1 _ c e
  rw [show 38 + (a - 38) = a by omega] at h4
  exact ⟨h4, by omega⟩
theorem ShM.ln {h : AHp} (hm : ShM h) (a : Nat) {L : Nat} (e : (if a < 38 then none else lTM[a - 38]?) = some L) : hpL h a = L := by
  by_cases ha : a < 38
  · rw [if_pos ha] at e; cases e
  rw [if_neg ha] at e
  have h4 := hm.2.2.1 _ L e
  rwa [show 38 + (a - 38) = a by omega] at h4
theorem ShM.rf {h : AHp} (hm : ShM h) (i : Nat) {a k b : Nat} (e : rTM[i]? = some (a, k, b)) : hpR h a k = some b := hm.2.2.2 (a, k, b) (List.mem_of_getElem? e)
section VCQ
variable {X : Cx} {G : Glb} {own : String} {cc : ByteArray} {nL k n pc pc' : Nat} {rt : Option FieldType} {Q : State → Prop} {ls : List (Option Value)} {st stk : List Value} {h : AHp} {P : Option Value → AHp → Prop} {d d' mc ms kc ks : Nat} {M : Mth} {ix na : Nat} {av : List Value}
theorem v_callSq (hX : OKx X G own cc nL rt) (hR : xR X = rmC d kc ks) (hm : MS own ix M na) (hc : CP G M d' 0 0 av h P) (hsk : stk = av.reverse ++ st) (hd' : d' < d) (hlen : av.length = na) (hcat : (st.map fun v => v.category).sum ≤ 8) (hroom : k ≤ kc ∧ n ≤ ks) (hd : Dq cc pc (.invokestatic ix) 3 pc') (kk : ∀ r h', P r h' → V X G nL k n Q pc' ls (r.toList ++ st) h') : V X G nL k n Q pc ls stk h := by
  subst hsk
  exact v_callS hX hR hm hc hd' hlen hcat hroom hd kk
theorem v_callSq' (hX : OKx X G own cc nL rt) (hR : xR X = rmC d kc ks) (hm : MS own ix M na) (hc : CP G M d' mc ms av h P) (hsk : stk = av.reverse ++ st) (hd' : d' < d) (hlen : av.length = na) (hcat : (st.map fun v => v.category).sum ≤ 8) (hroom : k + mc ≤ kc ∧ n + ms ≤ ks) (hd : Dq cc pc (.invokestatic ix) 3 pc') (kk : ∀ r h', P r h' → V X G nL (k + mc) (n + ms) Q pc' ls (r.toList ++ st) h') : V X G nL k n Q pc ls stk h := by
  subst hsk
  exact v_callS' hX hR hm hc hd' hlen hcat hroom hd kk
theorem v_callNq (hX : OKx X G own cc nL rt) (hR : xR X = rmC d kc ks) (hm : MN own ix M na) (hc : CP G M d' 0 0 av h P) (hsk : stk = av.reverse ++ st) (hd' : d' < d) (hlen : av.length = na) (hcat : (st.map fun v => v.category).sum ≤ 8) (hroom : k ≤ kc ∧ n ≤ ks) (hd : Dq cc pc (.invokestatic ix) 3 pc') (kk : ∀ r h', P r h' → V X G nL k n Q pc' ls (r.toList ++ st) h') : V X G nL k n Q pc ls stk h := by
  subst hsk
  exact v_callN hX hR hm hc hd' hlen hcat hroom hd kk
theorem v_callVq {a ci : Nat} (hX : OKx X G own cc nL rt) (hR : xR X = rmC d kc ks) (hm : MV own ix ci M na) (hk : Kd h a ci) (hc : CP G M d' 0 0 (.ref a :: av) h P) (hsk : stk = av.reverse ++ .ref a :: st) (hd' : d' < d) (hlen : av.length = na) (hcat : (st.map fun v => v.category).sum ≤ 8) (hroom : k ≤ kc ∧ n ≤ ks) (hd : Dq cc pc (.invokevirtual ix) 3 pc') (kk : ∀ r h', P r h' → V X G nL k n Q pc' ls (r.toList ++ st) h') : V X G nL k n Q pc ls stk h := by
  subst hsk
  exact v_callV hX hR hm hk hc hd' hlen hcat hroom hd kk
theorem v_callVq' {a ci : Nat} (hX : OKx X G own cc nL rt) (hR : xR X = rmC d kc ks) (hm : MV own ix ci M na) (hk : Kd h a ci) (hc : CP G M d' mc ms (.ref a :: av) h P) (hsk : stk = av.reverse ++ .ref a :: st) (hd' : d' < d) (hlen : av.length = na) (hcat : (st.map fun v => v.category).sum ≤ 8) (hroom : k + mc ≤ kc ∧ n + ms ≤ ks) (hd : Dq cc pc (.invokevirtual ix) 3 pc') (kk : ∀ r h', P r h' → V X G nL (k + mc) (n + ms) Q pc' ls (r.toList ++ st) h') : V X G nL k n Q pc ls stk h := by
  subst hsk
  exact v_callV' hX hR hm hk hc hd' hlen hcat hroom hd kk
theorem v_callUq {a ci : Nat} {x : MethodName} (hX : OKx X G own cc nL rt) (hR : xR X = rmC d kc ks) (hm : MU own ix ci x M na) (hk : Kd h a ci) (hc : CP G M d' 0 0 (.ref a :: av) h P) (hsk : stk = av.reverse ++ .ref a :: st) (hd' : d' < d) (hlen : av.length = na) (hcat : (st.map fun v => v.category).sum ≤ 8) (hroom : k ≤ kc ∧ n ≤ ks) (hd : Dq cc pc (.invokevirtual ix) 3 pc') (kk : ∀ r h', P r h' → V X G nL k n Q pc' ls (r.toList ++ st) h') : V X G nL k n Q pc ls stk h := by
  subst hsk
  exact v_callU hX hR hm hk hc hd' hlen hcat hroom hd kk
theorem v_callPq {a ci : Nat} (hX : OKx X G own cc nL rt) (hR : xR X = rmC d kc ks) (hm : MP own ix ci M na) (hk : Kd h a ci) (hc : CP G M d' 0 0 (.ref a :: av) h P) (hsk : stk = av.reverse ++ .ref a :: st) (hd' : d' < d) (hlen : av.length = na) (hcat : (st.map fun v => v.category).sum ≤ 8) (hroom : k ≤ kc ∧ n ≤ ks) (hd : Dq cc pc (.invokespecial ix) 3 pc') (kk : ∀ r h', P r h' → V X G nL k n Q pc' ls (r.toList ++ st) h') : V X G nL k n Q pc ls stk h := by
  subst hsk
  exact v_callP hX hR hm hk hc hd' hlen hcat hroom hd kk
theorem v_callCq {a : Nat} (hX : OKx X G own cc nL rt) (hR : xR X = rmC d kc ks) (hm : MC own ix M na) (hc : CP G M d' mc ms (.ref a :: av) h P) (hsk : stk = av.reverse ++ .ref a :: st) (hd' : d' < d) (hlen : av.length = na) (hcat : (st.map fun v => v.category).sum ≤ 8) (hroom : k + mc ≤ kc ∧ n + ms ≤ ks) (hd : Dq cc pc (.invokespecial ix) 3 pc') (kk : ∀ r h', P r h' → V X G nL (k + mc) (n + ms) Q pc' ls (r.toList ++ st) h') : V X G nL k n Q pc ls stk h := by
  subst hsk
  exact v_callC hX hR hm hc hd' hlen hcat hroom hd kk
theorem v_callDq {a : Nat} (hX : OKx X G own cc nL rt) (hR : xR X = rmC d kc ks) (hm : MD own ix M na) (hc : CP G M d' mc ms (.ref a :: av) h P) (hsk : stk = av.reverse ++ .ref a :: st) (hd' : d' < d) (hlen : av.length = na) (hcat : (st.map fun v => v.category).sum ≤ 8) (hroom : k + mc ≤ kc ∧ n + ms ≤ ks) (hd : Dq cc pc (.invokespecial ix) 3 pc') (kk : ∀ r h', P r h' → V X G nL (k + mc) (n + ms) Q pc' ls (r.toList ++ st) h') : V X G nL k n Q pc ls stk h := by
  subst hsk
  exact v_callD hX hR hm hc hd' hlen hcat hroom hd kk
end VCQ
section VSS
variable {X : Cx} {G : Glb} {own : String} {cc : ByteArray} {nL k n pc pc' : Nat} {rt : Option FieldType} {Q : State → Prop} {ls : List (Option Value)} {st : List Value} {h : AHp} {x y : Int32} {off : Int}
theorem v_icmp_ltS (hX : OKx X G own cc nL rt) (tgt : Nat) (hd : Dq cc pc (.if_icmp .lt off) 3 pc') (ht : (pc : Int) + off = (tgt : Int)) (kt : x < y → V X G nL k n Q tgt ls st h) (kf : y ≤ x → V X G nL k n Q pc' ls st h) : V X G nL k n Q pc ls (.int y :: .int x :: st) h := v_icmp_lt hX tgt hd ht kt (fun q => kf (Int32.not_lt.mp q))
theorem v_icmp_geS (hX : OKx X G own cc nL rt) (tgt : Nat) (hd : Dq cc pc (.if_icmp .ge off) 3 pc') (ht : (pc : Int) + off = (tgt : Int)) (kt : y ≤ x → V X G nL k n Q tgt ls st h) (kf : x < y → V X G nL k n Q pc' ls st h) : V X G nL k n Q pc ls (.int y :: .int x :: st) h := v_icmp_ge hX tgt hd ht kt (fun q => kf (Int32.not_le.mp q))
theorem v_icmp_gtS (hX : OKx X G own cc nL rt) (tgt : Nat) (hd : Dq cc pc (.if_icmp .gt off) 3 pc') (ht : (pc : Int) + off = (tgt : Int)) (kt : y < x → V X G nL k n Q tgt ls st h) (kf : x ≤ y → V X G nL k n Q pc' ls st h) : V X G nL k n Q pc ls (.int y :: .int x :: st) h := v_icmp_gt hX tgt hd ht kt (fun q => kf (Int32.not_lt.mp q))
theorem v_icmp_leS (hX : OKx X G own cc nL rt) (tgt : Nat) (hd : Dq cc pc (.if_icmp .le off) 3 pc') (ht : (pc : Int) + off = (tgt : Int)) (kt : x ≤ y → V X G nL k n Q tgt ls st h) (kf : y < x → V X G nL k n Q pc' ls st h) : V X G nL k n Q pc ls (.int y :: .int x :: st) h := v_icmp_le hX tgt hd ht kt (fun q => kf (Int32.not_le.mp q))
theorem v_if_ltS (hX : OKx X G own cc nL rt) (tgt : Nat) (hd : Dq cc pc (.ifCond .lt off) 3 pc') (ht : (pc : Int) + off = (tgt : Int)) (kt : x < 0 → V X G nL k n Q tgt ls st h) (kf : 0 ≤ x → V X G nL k n Q pc' ls st h) : V X G nL k n Q pc ls (.int x :: st) h := v_if_lt hX tgt hd ht kt (fun q => kf (Int32.not_lt.mp q))
theorem v_if_geS (hX : OKx X G own cc nL rt) (tgt : Nat) (hd : Dq cc pc (.ifCond .ge off) 3 pc') (ht : (pc : Int) + off = (tgt : Int)) (kt : 0 ≤ x → V X G nL k n Q tgt ls st h) (kf : x < 0 → V X G nL k n Q pc' ls st h) : V X G nL k n Q pc ls (.int x :: st) h := v_if_ge hX tgt hd ht kt (fun q => kf (Int32.not_le.mp q))
theorem v_if_gtS (hX : OKx X G own cc nL rt) (tgt : Nat) (hd : Dq cc pc (.ifCond .gt off) 3 pc') (ht : (pc : Int) + off = (tgt : Int)) (kt : 0 < x → V X G nL k n Q tgt ls st h) (kf : x ≤ 0 → V X G nL k n Q pc' ls st h) : V X G nL k n Q pc ls (.int x :: st) h := v_if_gt hX tgt hd ht kt (fun q => kf (Int32.not_lt.mp q))
theorem v_if_leS (hX : OKx X G own cc nL rt) (tgt : Nat) (hd : Dq cc pc (.ifCond .le off) 3 pc') (ht : (pc : Int) + off = (tgt : Int)) (kt : x ≤ 0 → V X G nL k n Q tgt ls st h) (kf : 0 < x → V X G nL k n Q pc' ls st h) : V X G nL k n Q pc ls (.int x :: st) h := v_if_le hX tgt hd ht kt (fun q => kf (Int32.not_le.mp q))
theorem v_getIv (hX : OKx X G own cc nL rt) {ix ci fk t a : Nat} {v : Int32} (hf : FG own ix ci fk t) (ht : t = 0 ∨ t = 3) (hk : Kd h a ci) (he : hpI h a fk = v) (hd : Dq cc pc (.getfield ix) 3 pc') (kk : V X G nL k n Q pc' ls (.int v :: st) h) : V X G nL k n Q pc ls (.ref a :: st) h := by
  subst he
  exact v_getI hX hf ht hk hd kk
theorem v_ialdV (hX : OKx X G own cc nL rt) {a L j : Nat} {i v : Int32} (hk : Kd h a 100) (hl : hpL h a = L) (hi : IX i j L) (he : hpI h a j = v) (hd : Dq cc pc .iaload 1 pc') (kk : V X G nL k n Q pc' ls (.int v :: st) h) : V X G nL k n Q pc ls (.int i :: .ref a :: st) h := by
  subst he
  exact v_ialdJ hX hk hl hi hd kk
theorem v_zaldV (hX : OKx X G own cc nL rt) {a L j : Nat} {i v : Int32} (hk : Kd h a 101) (hl : hpL h a = L) (hi : IX i j L) (he : hpI h a j = v) (hd : Dq cc pc .baload 1 pc') (kk : V X G nL k n Q pc' ls (.int v :: st) h) : V X G nL k n Q pc ls (.int i :: .ref a :: st) h := by
  subst he
  exact v_zaldJ hX hk hl hi hd kk
/-- a value gets another name -/
theorem v_eqI {x y : Int32} (e : x = y) (kk : V X G nL k n Q pc ls (.int y :: st) h) : V X G nL k n Q pc ls (.int x :: st) h := by rw [e]; exact kk
theorem v_eqL {x y : Int64} (e : x = y) (kk : V X G nL k n Q pc ls (.long y :: st) h) : V X G nL k n Q pc ls (.long x :: st) h := by rw [e]; exact kk
theorem v_eqH {h' : AHp} (e : h = h') (kk : V X G nL k n Q pc ls st h') : V X G nL k n Q pc ls st h := by rw [e]; exact kk
end VSS
theorem leM1 {i : Int32} {s : Nat} (hs : s < 2 ^ 30) : i ≤ nI s - 1 ↔ i < nI s := by
  have h1 : (nI s - 1).toInt = (s : Int) - 1 := pk_sub_toInt (a := s) (b := 1) hs (by decide)
  rw [leI, ltI, h1, nI_toInt (by omega)]
  omega
theorem hpI_stC {h : AHp} {a b sp dp m c j : Nat} : hpI (stC h a b sp dp m) c j = if c = b ∧ dp ≤ j ∧ j < dp + m then hpI h a (sp + (j - dp)) else hpI h c j := rfl
theorem geN {i N : Nat} (hN : Nat.ble N 2000000 = true) (hi : i ≤ N) (q : nI N ≤ nI i) : i = N := by
  have hN := Nat.le_of_ble_eq_true hN
  have := (nI_leI (by omega) (by omega)).mp q
  omega
theorem ltN {i N : Nat} (hN : Nat.ble N 2000000 = true) (hi : i ≤ N) (q : nI i < nI N) : i < N := by
  have hN := Nat.le_of_ble_eq_true hN
  exact (nI_ltI (by omega) (by omega)).mp q
end
section
/-! the small methods of the class: numbers, beaches, lookers, steps, sheets -/
abbrev tn (i : Int32) : Nat := i.toNatClampNeg
def bnd (v a b : Int32) : Int32 := if a < (if v < b then v else b) then (if v < b then v else b) else a
def mxI (x y : Int32) : Int32 := if x < y then y else x
def mnI (x y : Int32) : Int32 := if y < x then y else x
def sumN (f : Nat → Int32) : Nat → Int32
  | 0 => 0
  | n + 1 => sumN f n + f n
def fx (p : Nat → Bool) : Nat → Nat → Int32
  | 0, _ => -1
  | n + 1, i => if p i then nI i else fx p n (i + 1)
theorem fx_hit {p : Nat → Bool} {k : Nat} (hk : p k = true) : ∀ (n i : Nat), i ≤ k → k < i + n → (∀ j, i ≤ j → j < k → p j = false) → fx p n i = nI k := by
  intro n
  induction n with
  | zero => intro i h1 h2; omega
  | succ n ih =>
    intro i h1 h2 h3
    by_cases e : i = k
    · subst e; simp [fx, hk]
    · have h4 : p i = false := h3 i (Nat.le_refl _) (by omega)
      simp only [fx, h4]
      exact ih (i + 1) (by omega) (by omega) (fun j hj => h3 j (by omega))
theorem fx_no {p : Nat → Bool} : ∀ (n i : Nat), (∀ j, i ≤ j → j < i + n → p j = false) → fx p n i = -1 := by
  intro n
  induction n with
  | zero => intro i _; rfl
  | succ n ih =>
    intro i h3
    have h4 : p i = false := h3 i (Nat.le_refl _) (by omega)
    simp only [fx, h4]
    exact ih (i + 1) (fun j hj hj2 => h3 j (by omega) (by omega))
theorem ixk (j : Nat) {i : Int32} {L : Nat} (h1 : i.toNatClampNeg = j) (h2 : ¬ i < 0) (h3 : Nat.ble (j + 1) L = true) : IX i j L := ⟨h1, h2, Nat.le_of_ble_eq_true h3⟩
theorem nI48 : (48 : Int32) = nI 48 := rfl
theorem nI_ne1 {i : Nat} (h : i < 2 ^ 31) : ¬ nI i = -1 := by
  intro e
  have h1 := congrArg Int32.toInt e
  rw [nI_toInt h] at h1
  have h2 : (-1 : Int32).toInt = -1 := rfl
  omega
theorem qX11_isWithin_0 : Dq cX11_isWithin 0 (.iload_n 1) 1 1 := ⟨by decide +kernel, rfl⟩
theorem qX11_isWithin_1 : Dq cX11_isWithin 1 (.iload_n 0) 1 2 := ⟨by decide +kernel, rfl⟩
theorem qX11_isWithin_2 : Dq cX11_isWithin 2 (.if_icmp .gt 12) 3 5 := ⟨by decide +kernel, rfl⟩
theorem qX11_isWithin_5 : Dq cX11_isWithin 5 (.iload_n 0) 1 6 := ⟨by decide +kernel, rfl⟩
theorem qX11_isWithin_6 : Dq cX11_isWithin 6 (.iload_n 2) 1 7 := ⟨by decide +kernel, rfl⟩
theorem qX11_isWithin_7 : Dq cX11_isWithin 7 (.if_icmp .gt 7) 3 10 := ⟨by decide +kernel, rfl⟩
theorem qX11_isWithin_10 : Dq cX11_isWithin 10 (.iconst 1) 1 11 := ⟨by decide +kernel, rfl⟩
theorem qX11_isWithin_11 : Dq cX11_isWithin 11 (.goto 4) 3 14 := ⟨by decide +kernel, rfl⟩
theorem qX11_isWithin_14 : Dq cX11_isWithin 14 (.iconst 0) 1 15 := ⟨by decide +kernel, rfl⟩
theorem qX11_isWithin_15 : Dq cX11_isWithin 15 (.ireturn) 1 16 := ⟨by decide +kernel, rfl⟩
set_option maxRecDepth 100000 in
set_option maxHeartbeats 4000000 in
theorem c_isWithin {G : Glb} {h : AHp} (v a b : Int32) : CP G m_X11_isWithin 1 0 0 [.int v, .int a, .int b] h (fun r h' => r = some (.int (bz (a ≤ v ∧ v ≤ b))) ∧ h = h') := by
  suffices key : ∀ P : Option Value → AHp → Prop, (∀ r h', (r = some (.int (bz (a ≤ v ∧ v ≤ b))) ∧ h = h') → P r h') → CP G m_X11_isWithin 1 0 0 [.int v, .int a, .int b] h P from key _ (fun _ _ z => z)
  intro P hP
  refine CP.of (by decide +kernel) (Nat.le_of_ble_eq_true rfl) fun X hX hR hnm => ?_
  show V X G 3 0 0 _ 0 [some (.int v), some (.int a), some (.int b)] [] h
  refine v_iload_n hX rfl qX11_isWithin_0 ?_
  refine v_iload_n hX rfl qX11_isWithin_1 ?_
  refine v_icmp_gtS hX 14 qX11_isWithin_2 rfl (fun q2 => ?_) (fun q2 => ?_)
  · skip
    refine v_iconst hX li_0 qX11_isWithin_14 ?_
    refine v_zreturn hX (by first | exact Or.inl rfl | exact Or.inr rfl | exact bz01 _) qX11_isWithin_15 (hP _ _ ?_)
    first | exact ⟨congrArg (fun z => some (Value.int z)) (bz_t ⟨by assumption, by assumption⟩).symm, rfl⟩ | exact ⟨congrArg (fun z => some (Value.int z)) (bz_f (fun z => by first | exact absurd z.1 (Int32.not_le.mpr (by assumption)) | exact absurd z.2 (Int32.not_le.mpr (by assumption)))).symm, rfl⟩
  · skip
    refine v_iload_n hX rfl qX11_isWithin_5 ?_
    refine v_iload_n hX rfl qX11_isWithin_6 ?_
    refine v_icmp_gtS hX 14 qX11_isWithin_7 rfl (fun q7 => ?_) (fun q7 => ?_)
    · skip
      refine v_iconst hX li_0 qX11_isWithin_14 ?_
      refine v_zreturn hX (by first | exact Or.inl rfl | exact Or.inr rfl | exact bz01 _) qX11_isWithin_15 (hP _ _ ?_)
      first | exact ⟨congrArg (fun z => some (Value.int z)) (bz_t ⟨by assumption, by assumption⟩).symm, rfl⟩ | exact ⟨congrArg (fun z => some (Value.int z)) (bz_f (fun z => by first | exact absurd z.1 (Int32.not_le.mpr (by assumption)) | exact absurd z.2 (Int32.not_le.mpr (by assumption)))).symm, rfl⟩
    · skip
      refine v_iconst hX li_1 qX11_isWithin_10 ?_
      refine v_goto hX 15 qX11_isWithin_11 rfl ?_
      refine v_zreturn hX (by first | exact Or.inl rfl | exact Or.inr rfl | exact bz01 _) qX11_isWithin_15 (hP _ _ ?_)
      first | exact ⟨congrArg (fun z => some (Value.int z)) (bz_t ⟨by assumption, by assumption⟩).symm, rfl⟩ | exact ⟨congrArg (fun z => some (Value.int z)) (bz_f (fun z => by first | exact absurd z.1 (Int32.not_le.mpr (by assumption)) | exact absurd z.2 (Int32.not_le.mpr (by assumption)))).symm, rfl⟩
theorem qX11_isCell_0 : Dq cX11_isCell 0 (.iload_n 0) 1 1 := ⟨by decide +kernel, rfl⟩
theorem qX11_isCell_1 : Dq cX11_isCell 1 (.iconst 0) 1 2 := ⟨by decide +kernel, rfl⟩
theorem qX11_isCell_2 : Dq cX11_isCell 2 (.bipush 47) 2 4 := ⟨by decide +kernel, rfl⟩
theorem qX11_isCell_4 : Dq cX11_isCell 4 (.invokestatic 110) 3 7 := ⟨by decide +kernel, rfl⟩
theorem qX11_isCell_7 : Dq cX11_isCell 7 (.ireturn) 1 8 := ⟨by decide +kernel, rfl⟩
set_option maxRecDepth 100000 in
set_option maxHeartbeats 4000000 in
theorem c_isCell {G : Glb} {h : AHp} (v : Int32) : CP G m_X11_isCell 2 0 0 [.int v] h (fun r h' => r = some (.int (bz (isC v))) ∧ h = h') := by
  suffices key : ∀ P : Option Value → AHp → Prop, (∀ r h', (r = some (.int (bz (isC v))) ∧ h = h') → P r h') → CP G m_X11_isCell 2 0 0 [.int v] h P from key _ (fun _ _ z => z)
  intro P hP
  refine CP.of (by decide +kernel) (Nat.le_of_ble_eq_true rfl) fun X hX hR hnm => ?_
  show V X G 1 0 0 _ 0 [some (.int v)] [] h
  refine v_iload_n hX rfl qX11_isCell_0 ?_
  refine v_iconst hX li_0 qX11_isCell_1 ?_
  refine v_bipush hX lb_47 qX11_isCell_2 ?_
  refine v_callSq hX hR k_X11_110 (c_isWithin _ _ _) rfl (Nat.le_of_ble_eq_true rfl) rfl (Nat.le_of_ble_eq_true rfl) ⟨Nat.le_of_ble_eq_true rfl, Nat.le_of_ble_eq_true rfl⟩ qX11_isCell_4 ?_
  rintro _ _ ⟨rfl, rfl⟩
  refine v_zreturn hX (by first | exact Or.inl rfl | exact Or.inr rfl | exact bz01 _) qX11_isCell_7 (hP _ _ ?_)
  exact ⟨rfl, rfl⟩
theorem qX11_bounded_0 : Dq cX11_bounded 0 (.iload_n 1) 1 1 := ⟨by decide +kernel, rfl⟩
theorem qX11_bounded_1 : Dq cX11_bounded 1 (.iload_n 2) 1 2 := ⟨by decide +kernel, rfl⟩
theorem qX11_bounded_2 : Dq cX11_bounded 2 (.iload_n 0) 1 3 := ⟨by decide +kernel, rfl⟩
theorem qX11_bounded_3 : Dq cX11_bounded 3 (.invokestatic 253) 3 6 := ⟨by decide +kernel, rfl⟩
theorem qX11_bounded_6 : Dq cX11_bounded 6 (.invokestatic 335) 3 9 := ⟨by decide +kernel, rfl⟩
theorem qX11_bounded_9 : Dq cX11_bounded 9 (.ireturn) 1 10 := ⟨by decide +kernel, rfl⟩
set_option maxRecDepth 100000 in
set_option maxHeartbeats 4000000 in
theorem c_bounded {G : Glb} {h : AHp} (v a b : Int32) : CP G m_X11_bounded 2 0 0 [.int v, .int a, .int b] h (fun r h' => r = some (.int (bnd v a b)) ∧ h = h') := by
  suffices key : ∀ P : Option Value → AHp → Prop, (∀ r h', (r = some (.int (bnd v a b)) ∧ h = h') → P r h') → CP G m_X11_bounded 2 0 0 [.int v, .int a, .int b] h P from key _ (fun _ _ z => z)
  intro P hP
  refine CP.of (by decide +kernel) (Nat.le_of_ble_eq_true rfl) fun X hX hR hnm => ?_
  show V X G 3 0 0 _ 0 [some (.int v), some (.int a), some (.int b)] [] h
  refine v_iload_n hX rfl qX11_bounded_0 ?_
  refine v_iload_n hX rfl qX11_bounded_1 ?_
  refine v_iload_n hX rfl qX11_bounded_2 ?_
  refine v_min hX hR (Nat.le_of_ble_eq_true rfl) k_X11_253 (Nat.le_of_ble_eq_true rfl) ⟨Nat.le_of_ble_eq_true rfl, Nat.le_of_ble_eq_true rfl⟩ qX11_bounded_3 ?_
  refine v_max hX hR (Nat.le_of_ble_eq_true rfl) k_X11_335 (Nat.le_of_ble_eq_true rfl) ⟨Nat.le_of_ble_eq_true rfl, Nat.le_of_ble_eq_true rfl⟩ qX11_bounded_6 ?_
  refine v_ireturn hX qX11_bounded_9 (hP _ _ ?_)
  exact ⟨rfl, rfl⟩
theorem qX11_gainOf_0 : Dq cX11_gainOf 0 (.iload_n 0) 1 1 := ⟨by decide +kernel, rfl⟩
theorem qX11_gainOf_1 : Dq cX11_gainOf 1 (.iload_n 1) 1 2 := ⟨by decide +kernel, rfl⟩
theorem qX11_gainOf_2 : Dq cX11_gainOf 2 (.imul) 1 3 := ⟨by decide +kernel, rfl⟩
theorem qX11_gainOf_3 : Dq cX11_gainOf 3 (.bipush 100) 2 5 := ⟨by decide +kernel, rfl⟩
theorem qX11_gainOf_5 : Dq cX11_gainOf 5 (.idiv) 1 6 := ⟨by decide +kernel, rfl⟩
theorem qX11_gainOf_6 : Dq cX11_gainOf 6 (.ireturn) 1 7 := ⟨by decide +kernel, rfl⟩
set_option maxRecDepth 100000 in
set_option maxHeartbeats 4000000 in
theorem c_gainOf {G : Glb} {h : AHp} (v a : Int32) : CP G m_X11_gainOf 1 0 0 [.int v, .int a] h (fun r h' => r = some (.int (v * a / 100)) ∧ h = h') := by
  suffices key : ∀ P : Option Value → AHp → Prop, (∀ r h', (r = some (.int (v * a / 100)) ∧ h = h') → P r h') → CP G m_X11_gainOf 1 0 0 [.int v, .int a] h P from key _ (fun _ _ z => z)
  intro P hP
  refine CP.of (by decide +kernel) (Nat.le_of_ble_eq_true rfl) fun X hX hR hnm => ?_
  show V X G 2 0 0 _ 0 [some (.int v), some (.int a)] [] h
  refine v_iload_n hX rfl qX11_gainOf_0 ?_
  refine v_iload_n hX rfl qX11_gainOf_1 ?_
  refine v_imul hX qX11_gainOf_2 ?_
  refine v_bipush hX lb_100 qX11_gainOf_3 ?_
  refine v_idiv hX (by decide) qX11_gainOf_5 ?_
  refine v_ireturn hX qX11_gainOf_6 (hP _ _ ?_)
  exact ⟨rfl, rfl⟩
theorem qX11_rateOf_0 : Dq cX11_rateOf 0 (.iload_n 1) 1 1 := ⟨by decide +kernel, rfl⟩
theorem qX11_rateOf_1 : Dq cX11_rateOf 1 (.ifCond .le 9) 3 4 := ⟨by decide +kernel, rfl⟩
theorem qX11_rateOf_4 : Dq cX11_rateOf 4 (.iload_n 0) 1 5 := ⟨by decide +kernel, rfl⟩
theorem qX11_rateOf_5 : Dq cX11_rateOf 5 (.iload_n 1) 1 6 := ⟨by decide +kernel, rfl⟩
theorem qX11_rateOf_6 : Dq cX11_rateOf 6 (.idiv) 1 7 := ⟨by decide +kernel, rfl⟩
theorem qX11_rateOf_7 : Dq cX11_rateOf 7 (.goto 4) 3 10 := ⟨by decide +kernel, rfl⟩
theorem qX11_rateOf_10 : Dq cX11_rateOf 10 (.iconst 0) 1 11 := ⟨by decide +kernel, rfl⟩
theorem qX11_rateOf_11 : Dq cX11_rateOf 11 (.ireturn) 1 12 := ⟨by decide +kernel, rfl⟩
set_option maxRecDepth 100000 in
set_option maxHeartbeats 4000000 in
theorem c_rateOf {G : Glb} {h : AHp} (v a : Int32) : CP G m_X11_rateOf 1 0 0 [.int v, .int a] h (fun r h' => r = some (.int (if 0 < a then v / a else 0)) ∧ h = h') := by
  suffices key : ∀ P : Option Value → AHp → Prop, (∀ r h', (r = some (.int (if 0 < a then v / a else 0)) ∧ h = h') → P r h') → CP G m_X11_rateOf 1 0 0 [.int v, .int a] h P from key _ (fun _ _ z => z)
  intro P hP
  refine CP.of (by decide +kernel) (Nat.le_of_ble_eq_true rfl) fun X hX hR hnm => ?_
  show V X G 2 0 0 _ 0 [some (.int v), some (.int a)] [] h
  refine v_iload_n hX rfl qX11_rateOf_0 ?_
  refine v_if_leS hX 10 qX11_rateOf_1 rfl (fun q1 => ?_) (fun q1 => ?_)
  · skip
    refine v_iconst hX li_0 qX11_rateOf_10 ?_
    refine v_ireturn hX qX11_rateOf_11 (hP _ _ ?_)
    first | exact ⟨by rw [if_pos (by assumption)], rfl⟩ | exact ⟨by rw [if_neg (Int32.not_lt.mpr (by assumption))], rfl⟩
  · skip
    refine v_iload_n hX rfl qX11_rateOf_4 ?_
    refine v_iload_n hX rfl qX11_rateOf_5 ?_
    refine v_idiv hX (by intro e; rw [e] at q1; exact absurd q1 (by decide)) qX11_rateOf_6 ?_
    refine v_goto hX 11 qX11_rateOf_7 rfl ?_
    refine v_ireturn hX qX11_rateOf_11 (hP _ _ ?_)
    first | exact ⟨by rw [if_pos (by assumption)], rfl⟩ | exact ⟨by rw [if_neg (Int32.not_lt.mpr (by assumption))], rfl⟩
/-- the treads or odds of a beach -/
def oddsA (h : AHp) (B : Nat) (i : Int32) : Int32 := if isC i then hpI h (B + 1) (tn i) else 0
def trdA (h : AHp) (B : Nat) (i : Int32) : Int32 := if isC i then hpI h (B + 2) (tn i) else 0
theorem qX0_oddsAt_0 : Dq cX0_oddsAt 0 (.iload_n 1) 1 1 := ⟨by decide +kernel, rfl⟩
theorem qX0_oddsAt_1 : Dq cX0_oddsAt 1 (.invokestatic 37) 3 4 := ⟨by decide +kernel, rfl⟩
theorem qX0_oddsAt_4 : Dq cX0_oddsAt 4 (.ifCond .eq 12) 3 7 := ⟨by decide +kernel, rfl⟩
theorem qX0_oddsAt_7 : Dq cX0_oddsAt 7 (.aload_n 0) 1 8 := ⟨by decide +kernel, rfl⟩
theorem qX0_oddsAt_8 : Dq cX0_oddsAt 8 (.getfield 9) 3 11 := ⟨by decide +kernel, rfl⟩
theorem qX0_oddsAt_11 : Dq cX0_oddsAt 11 (.iload_n 1) 1 12 := ⟨by decide +kernel, rfl⟩
theorem qX0_oddsAt_12 : Dq cX0_oddsAt 12 (.iaload) 1 13 := ⟨by decide +kernel, rfl⟩
theorem qX0_oddsAt_13 : Dq cX0_oddsAt 13 (.goto 4) 3 16 := ⟨by decide +kernel, rfl⟩
theorem qX0_oddsAt_16 : Dq cX0_oddsAt 16 (.iconst 0) 1 17 := ⟨by decide +kernel, rfl⟩
theorem qX0_oddsAt_17 : Dq cX0_oddsAt 17 (.ireturn) 1 18 := ⟨by decide +kernel, rfl⟩
set_option maxRecDepth 100000 in
set_option maxHeartbeats 4000000 in
theorem c_oddsAt {G : Glb} {h : AHp} (hs : ShC h) {B : Nat} (hB : isB B) (i : Int32) : CP G m_X0_oddsAt 3 0 0 [.ref B, .int i] h (fun r h' => r = some (.int (oddsA h B i)) ∧ h = h') := by
  suffices key : ∀ P : Option Value → AHp → Prop, (∀ r h', (r = some (.int (oddsA h B i)) ∧ h = h') → P r h') → CP G m_X0_oddsAt 3 0 0 [.ref B, .int i] h P from key _ (fun _ _ z => z)
  intro P hP
  refine CP.of (by decide +kernel) (Nat.le_of_ble_eq_true rfl) fun X hX hR hnm => ?_
  show V X G 2 0 0 _ 0 [some (.ref B), some (.int i)] [] h
  refine v_iload_n hX rfl qX0_oddsAt_0 ?_
  refine v_callNq hX hR k_X0_37 (c_isCell _) rfl (Nat.le_of_ble_eq_true rfl) rfl (Nat.le_of_ble_eq_true rfl) ⟨Nat.le_of_ble_eq_true rfl, Nat.le_of_ble_eq_true rfl⟩ qX0_oddsAt_1 ?_
  rintro _ _ ⟨rfl, rfl⟩
  first | refine v_if_eqB hX 16 qX0_oddsAt_4 rfl (fun q4 => ?_) (fun q4 => ?_) | refine v_if_eq hX 16 qX0_oddsAt_4 rfl (fun q4 => ?_) (fun q4 => ?_)
  · skip
    refine v_iconst hX li_0 qX0_oddsAt_16 ?_
    refine v_ireturn hX qX0_oddsAt_17 (hP _ _ ?_)
    unfold oddsA
    first | exact ⟨by rw [if_pos (by assumption)], rfl⟩ | exact ⟨by rw [if_neg (by assumption)], rfl⟩
  · skip
    refine v_aload_n hX rfl qX0_oddsAt_7 ?_
    refine v_getR hX g_X0_9 (hs.bk hB) (hs.bo hB) qX0_oddsAt_8 ?_
    refine v_iload_n hX rfl qX0_oddsAt_11 ?_
    refine v_ialdJ hX (hs.bok hB) (hs.bol hB) (by exact isC.ix (by assumption)) qX0_oddsAt_12 ?_
    refine v_goto hX 17 qX0_oddsAt_13 rfl ?_
    refine v_ireturn hX qX0_oddsAt_17 (hP _ _ ?_)
    unfold oddsA
    first | exact ⟨by rw [if_pos (by assumption)], rfl⟩ | exact ⟨by rw [if_neg (by assumption)], rfl⟩
theorem qX0_treadsAt_0 : Dq cX0_treadsAt 0 (.iload_n 1) 1 1 := ⟨by decide +kernel, rfl⟩
theorem qX0_treadsAt_1 : Dq cX0_treadsAt 1 (.invokestatic 37) 3 4 := ⟨by decide +kernel, rfl⟩
theorem qX0_treadsAt_4 : Dq cX0_treadsAt 4 (.ifCond .eq 12) 3 7 := ⟨by decide +kernel, rfl⟩
theorem qX0_treadsAt_7 : Dq cX0_treadsAt 7 (.aload_n 0) 1 8 := ⟨by decide +kernel, rfl⟩
theorem qX0_treadsAt_8 : Dq cX0_treadsAt 8 (.getfield 15) 3 11 := ⟨by decide +kernel, rfl⟩
theorem qX0_treadsAt_11 : Dq cX0_treadsAt 11 (.iload_n 1) 1 12 := ⟨by decide +kernel, rfl⟩
theorem qX0_treadsAt_12 : Dq cX0_treadsAt 12 (.iaload) 1 13 := ⟨by decide +kernel, rfl⟩
theorem qX0_treadsAt_13 : Dq cX0_treadsAt 13 (.goto 4) 3 16 := ⟨by decide +kernel, rfl⟩
theorem qX0_treadsAt_16 : Dq cX0_treadsAt 16 (.iconst 0) 1 17 := ⟨by decide +kernel, rfl⟩
theorem qX0_treadsAt_17 : Dq cX0_treadsAt 17 (.ireturn) 1 18 := ⟨by decide +kernel, rfl⟩
set_option maxRecDepth 100000 in
set_option maxHeartbeats 4000000 in
theorem c_treadsAt {G : Glb} {h : AHp} (hs : ShC h) {B : Nat} (hB : isB B) (i : Int32) : CP G m_X0_treadsAt 3 0 0 [.ref B, .int i] h (fun r h' => r = some (.int (trdA h B i)) ∧ h = h') := by
  suffices key : ∀ P : Option Value → AHp → Prop, (∀ r h', (r = some (.int (trdA h B i)) ∧ h = h') → P r h') → CP G m_X0_treadsAt 3 0 0 [.ref B, .int i] h P from key _ (fun _ _ z => z)
  intro P hP
  refine CP.of (by decide +kernel) (Nat.le_of_ble_eq_true rfl) fun X hX hR hnm => ?_
  show V X G 2 0 0 _ 0 [some (.ref B), some (.int i)] [] h
  refine v_iload_n hX rfl qX0_treadsAt_0 ?_
  refine v_callNq hX hR k_X0_37 (c_isCell _) rfl (Nat.le_of_ble_eq_true rfl) rfl (Nat.le_of_ble_eq_true rfl) ⟨Nat.le_of_ble_eq_true rfl, Nat.le_of_ble_eq_true rfl⟩ qX0_treadsAt_1 ?_
  rintro _ _ ⟨rfl, rfl⟩
  first | refine v_if_eqB hX 16 qX0_treadsAt_4 rfl (fun q4 => ?_) (fun q4 => ?_) | refine v_if_eq hX 16 qX0_treadsAt_4 rfl (fun q4 => ?_) (fun q4 => ?_)
  · skip
    refine v_iconst hX li_0 qX0_treadsAt_16 ?_
    refine v_ireturn hX qX0_treadsAt_17 (hP _ _ ?_)
    unfold trdA
    first | exact ⟨by rw [if_pos (by assumption)], rfl⟩ | exact ⟨by rw [if_neg (by assumption)], rfl⟩
  · skip
    refine v_aload_n hX rfl qX0_treadsAt_7 ?_
    refine v_getR hX g_X0_15 (hs.bk hB) (hs.bt hB) qX0_treadsAt_8 ?_
    refine v_iload_n hX rfl qX0_treadsAt_11 ?_
    refine v_ialdJ hX (hs.btk hB) (hs.btl hB) (by exact isC.ix (by assumption)) qX0_treadsAt_12 ?_
    refine v_goto hX 17 qX0_treadsAt_13 rfl ?_
    refine v_ireturn hX qX0_treadsAt_17 (hP _ _ ?_)
    unfold trdA
    first | exact ⟨by rw [if_pos (by assumption)], rfl⟩ | exact ⟨by rw [if_neg (by assumption)], rfl⟩
theorem qX0_addOdds_0 : Dq cX0_addOdds 0 (.iload_n 1) 1 1 := ⟨by decide +kernel, rfl⟩
theorem qX0_addOdds_1 : Dq cX0_addOdds 1 (.invokestatic 37) 3 4 := ⟨by decide +kernel, rfl⟩
theorem qX0_addOdds_4 : Dq cX0_addOdds 4 (.ifCond .eq 22) 3 7 := ⟨by decide +kernel, rfl⟩
theorem qX0_addOdds_7 : Dq cX0_addOdds 7 (.aload_n 0) 1 8 := ⟨by decide +kernel, rfl⟩
theorem qX0_addOdds_8 : Dq cX0_addOdds 8 (.getfield 9) 3 11 := ⟨by decide +kernel, rfl⟩
theorem qX0_addOdds_11 : Dq cX0_addOdds 11 (.iload_n 1) 1 12 := ⟨by decide +kernel, rfl⟩
theorem qX0_addOdds_12 : Dq cX0_addOdds 12 (.ldc 41) 2 14 := ⟨by decide +kernel, rfl⟩
theorem qX0_addOdds_14 : Dq cX0_addOdds 14 (.aload_n 0) 1 15 := ⟨by decide +kernel, rfl⟩
theorem qX0_addOdds_15 : Dq cX0_addOdds 15 (.getfield 9) 3 18 := ⟨by decide +kernel, rfl⟩
theorem qX0_addOdds_18 : Dq cX0_addOdds 18 (.iload_n 1) 1 19 := ⟨by decide +kernel, rfl⟩
theorem qX0_addOdds_19 : Dq cX0_addOdds 19 (.iaload) 1 20 := ⟨by decide +kernel, rfl⟩
theorem qX0_addOdds_20 : Dq cX0_addOdds 20 (.iload_n 2) 1 21 := ⟨by decide +kernel, rfl⟩
theorem qX0_addOdds_21 : Dq cX0_addOdds 21 (.iadd) 1 22 := ⟨by decide +kernel, rfl⟩
theorem qX0_addOdds_22 : Dq cX0_addOdds 22 (.invokestatic 42) 3 25 := ⟨by decide +kernel, rfl⟩
theorem qX0_addOdds_25 : Dq cX0_addOdds 25 (.iastore) 1 26 := ⟨by decide +kernel, rfl⟩
theorem qX0_addOdds_26 : Dq cX0_addOdds 26 (.return_) 1 27 := ⟨by decide +kernel, rfl⟩
set_option maxRecDepth 100000 in
set_option maxHeartbeats 4000000 in
theorem c_addOdds {G : Glb} {h : AHp} (hs : ShC h) {B : Nat} (hB : isB B) {i : Int32} (hp : isC i) (v : Int32) : CP G m_X0_addOdds 3 0 0 [.ref B, .int i, .int v] h (fun r h' => r = none ∧ stI h (B + 1) (tn i) (mnI 999999 (hpI h (B + 1) (tn i) + v)) = h') := by
  suffices key : ∀ P : Option Value → AHp → Prop, (∀ r h', (r = none ∧ stI h (B + 1) (tn i) (mnI 999999 (hpI h (B + 1) (tn i) + v)) = h') → P r h') → CP G m_X0_addOdds 3 0 0 [.ref B, .int i, .int v] h P from key _ (fun _ _ z => z)
  intro P hP
  refine CP.of (by decide +kernel) (Nat.le_of_ble_eq_true rfl) fun X hX hR hnm => ?_
  show V X G 3 0 0 _ 0 [some (.ref B), some (.int i), some (.int v)] [] h
  refine v_iload_n hX rfl qX0_addOdds_0 ?_
  refine v_callNq hX hR k_X0_37 (c_isCell _) rfl (Nat.le_of_ble_eq_true rfl) rfl (Nat.le_of_ble_eq_true rfl) ⟨Nat.le_of_ble_eq_true rfl, Nat.le_of_ble_eq_true rfl⟩ qX0_addOdds_1 ?_
  rintro _ _ ⟨rfl, rfl⟩
  first | refine v_if_eqB hX 26 qX0_addOdds_4 rfl (fun q4 => ?_) (fun q4 => ?_) | refine v_if_eq hX 26 qX0_addOdds_4 rfl (fun q4 => ?_) (fun q4 => ?_)
  · exact absurd hp (by assumption)
  · skip
    refine v_aload_n hX rfl qX0_addOdds_7 ?_
    refine v_getR hX g_X0_9 (hs.bk hB) (hs.bo hB) qX0_addOdds_8 ?_
    refine v_iload_n hX rfl qX0_addOdds_11 ?_
    refine v_ldc hX c_X0_41 qX0_addOdds_12 ?_
    refine v_aload_n hX rfl qX0_addOdds_14 ?_
    refine v_getR hX g_X0_9 (hs.bk hB) (hs.bo hB) qX0_addOdds_15 ?_
    refine v_iload_n hX rfl qX0_addOdds_18 ?_
    refine v_ialdJ hX (hs.bok hB) (hs.bol hB) (by exact hp.ix) qX0_addOdds_19 ?_
    refine v_iload_n hX rfl qX0_addOdds_20 ?_
    refine v_iadd hX qX0_addOdds_21 ?_
    refine v_min hX hR (Nat.le_of_ble_eq_true rfl) k_X0_42 (Nat.le_of_ble_eq_true rfl) ⟨Nat.le_of_ble_eq_true rfl, Nat.le_of_ble_eq_true rfl⟩ qX0_addOdds_22 ?_
    refine v_iastJ hX (hs.bok hB) (hs.bol hB) (by exact hp.ix) qX0_addOdds_25 ?_
    refine v_return hX qX0_addOdds_26 (hP _ _ ?_)
    exact ⟨rfl, rfl⟩
set_option maxRecDepth 100000 in
set_option maxHeartbeats 4000000 in
theorem c_addOddsN {G : Glb} {h : AHp} (hs : ShC h) {B : Nat} (hB : isB B) {i : Int32} (hp : ¬ isC i) (v : Int32) : CP G m_X0_addOdds 3 0 0 [.ref B, .int i, .int v] h (fun r h' => r = none ∧ h = h') := by
  suffices key : ∀ P : Option Value → AHp → Prop, (∀ r h', (r = none ∧ h = h') → P r h') → CP G m_X0_addOdds 3 0 0 [.ref B, .int i, .int v] h P from key _ (fun _ _ z => z)
  intro P hP
  refine CP.of (by decide +kernel) (Nat.le_of_ble_eq_true rfl) fun X hX hR hnm => ?_
  show V X G 3 0 0 _ 0 [some (.ref B), some (.int i), some (.int v)] [] h
  refine v_iload_n hX rfl qX0_addOdds_0 ?_
  refine v_callNq hX hR k_X0_37 (c_isCell _) rfl (Nat.le_of_ble_eq_true rfl) rfl (Nat.le_of_ble_eq_true rfl) ⟨Nat.le_of_ble_eq_true rfl, Nat.le_of_ble_eq_true rfl⟩ qX0_addOdds_1 ?_
  rintro _ _ ⟨rfl, rfl⟩
  first | refine v_if_eqB hX 26 qX0_addOdds_4 rfl (fun q4 => ?_) (fun q4 => ?_) | refine v_if_eq hX 26 qX0_addOdds_4 rfl (fun q4 => ?_) (fun q4 => ?_)
  · skip
    refine v_return hX qX0_addOdds_26 (hP _ _ ?_)
    exact ⟨rfl, rfl⟩
  · exact absurd (by assumption) hp
theorem qX0_addTreads_0 : Dq cX0_addTreads 0 (.iload_n 1) 1 1 := ⟨by decide +kernel, rfl⟩
theorem qX0_addTreads_1 : Dq cX0_addTreads 1 (.invokestatic 37) 3 4 := ⟨by decide +kernel, rfl⟩
theorem qX0_addTreads_4 : Dq cX0_addTreads 4 (.ifCond .eq 22) 3 7 := ⟨by decide +kernel, rfl⟩
theorem qX0_addTreads_7 : Dq cX0_addTreads 7 (.aload_n 0) 1 8 := ⟨by decide +kernel, rfl⟩
theorem qX0_addTreads_8 : Dq cX0_addTreads 8 (.getfield 15) 3 11 := ⟨by decide +kernel, rfl⟩
theorem qX0_addTreads_11 : Dq cX0_addTreads 11 (.iload_n 1) 1 12 := ⟨by decide +kernel, rfl⟩
theorem qX0_addTreads_12 : Dq cX0_addTreads 12 (.bipush 99) 2 14 := ⟨by decide +kernel, rfl⟩
theorem qX0_addTreads_14 : Dq cX0_addTreads 14 (.aload_n 0) 1 15 := ⟨by decide +kernel, rfl⟩
theorem qX0_addTreads_15 : Dq cX0_addTreads 15 (.getfield 15) 3 18 := ⟨by decide +kernel, rfl⟩
theorem qX0_addTreads_18 : Dq cX0_addTreads 18 (.iload_n 1) 1 19 := ⟨by decide +kernel, rfl⟩
theorem qX0_addTreads_19 : Dq cX0_addTreads 19 (.iaload) 1 20 := ⟨by decide +kernel, rfl⟩
theorem qX0_addTreads_20 : Dq cX0_addTreads 20 (.iload_n 2) 1 21 := ⟨by decide +kernel, rfl⟩
theorem qX0_addTreads_21 : Dq cX0_addTreads 21 (.iadd) 1 22 := ⟨by decide +kernel, rfl⟩
theorem qX0_addTreads_22 : Dq cX0_addTreads 22 (.invokestatic 42) 3 25 := ⟨by decide +kernel, rfl⟩
theorem qX0_addTreads_25 : Dq cX0_addTreads 25 (.iastore) 1 26 := ⟨by decide +kernel, rfl⟩
theorem qX0_addTreads_26 : Dq cX0_addTreads 26 (.return_) 1 27 := ⟨by decide +kernel, rfl⟩
set_option maxRecDepth 100000 in
set_option maxHeartbeats 4000000 in
theorem c_addTreads {G : Glb} {h : AHp} (hs : ShC h) {B : Nat} (hB : isB B) {i : Int32} (hp : isC i) (v : Int32) : CP G m_X0_addTreads 3 0 0 [.ref B, .int i, .int v] h (fun r h' => r = none ∧ stI h (B + 2) (tn i) (mnI 99 (hpI h (B + 2) (tn i) + v)) = h') := by
  suffices key : ∀ P : Option Value → AHp → Prop, (∀ r h', (r = none ∧ stI h (B + 2) (tn i) (mnI 99 (hpI h (B + 2) (tn i) + v)) = h') → P r h') → CP G m_X0_addTreads 3 0 0 [.ref B, .int i, .int v] h P from key _ (fun _ _ z => z)
  intro P hP
  refine CP.of (by decide +kernel) (Nat.le_of_ble_eq_true rfl) fun X hX hR hnm => ?_
  show V X G 3 0 0 _ 0 [some (.ref B), some (.int i), some (.int v)] [] h
  refine v_iload_n hX rfl qX0_addTreads_0 ?_
  refine v_callNq hX hR k_X0_37 (c_isCell _) rfl (Nat.le_of_ble_eq_true rfl) rfl (Nat.le_of_ble_eq_true rfl) ⟨Nat.le_of_ble_eq_true rfl, Nat.le_of_ble_eq_true rfl⟩ qX0_addTreads_1 ?_
  rintro _ _ ⟨rfl, rfl⟩
  first | refine v_if_eqB hX 26 qX0_addTreads_4 rfl (fun q4 => ?_) (fun q4 => ?_) | refine v_if_eq hX 26 qX0_addTreads_4 rfl (fun q4 => ?_) (fun q4 => ?_)
  · exact absurd hp (by assumption)
  · skip
    refine v_aload_n hX rfl qX0_addTreads_7 ?_
    refine v_getR hX g_X0_15 (hs.bk hB) (hs.bt hB) qX0_addTreads_8 ?_
    refine v_iload_n hX rfl qX0_addTreads_11 ?_
    refine v_bipush hX lb_99 qX0_addTreads_12 ?_
    refine v_aload_n hX rfl qX0_addTreads_14 ?_
    refine v_getR hX g_X0_15 (hs.bk hB) (hs.bt hB) qX0_addTreads_15 ?_
    refine v_iload_n hX rfl qX0_addTreads_18 ?_
    refine v_ialdJ hX (hs.btk hB) (hs.btl hB) (by exact hp.ix) qX0_addTreads_19 ?_
    refine v_iload_n hX rfl qX0_addTreads_20 ?_
    refine v_iadd hX qX0_addTreads_21 ?_
    refine v_min hX hR (Nat.le_of_ble_eq_true rfl) k_X0_42 (Nat.le_of_ble_eq_true rfl) ⟨Nat.le_of_ble_eq_true rfl, Nat.le_of_ble_eq_true rfl⟩ qX0_addTreads_22 ?_
    refine v_iastJ hX (hs.btk hB) (hs.btl hB) (by exact hp.ix) qX0_addTreads_25 ?_
    refine v_return hX qX0_addTreads_26 (hP _ _ ?_)
    exact ⟨rfl, rfl⟩
theorem qX0_thinOdds_0 : Dq cX0_thinOdds 0 (.iload_n 1) 1 1 := ⟨by decide +kernel, rfl⟩
theorem qX0_thinOdds_1 : Dq cX0_thinOdds 1 (.invokestatic 37) 3 4 := ⟨by decide +kernel, rfl⟩
theorem qX0_thinOdds_4 : Dq cX0_thinOdds 4 (.ifCond .eq 23) 3 7 := ⟨by decide +kernel, rfl⟩
theorem qX0_thinOdds_7 : Dq cX0_thinOdds 7 (.aload_n 0) 1 8 := ⟨by decide +kernel, rfl⟩
theorem qX0_thinOdds_8 : Dq cX0_thinOdds 8 (.getfield 9) 3 11 := ⟨by decide +kernel, rfl⟩
theorem qX0_thinOdds_11 : Dq cX0_thinOdds 11 (.iload_n 1) 1 12 := ⟨by decide +kernel, rfl⟩
theorem qX0_thinOdds_12 : Dq cX0_thinOdds 12 (.aload_n 0) 1 13 := ⟨by decide +kernel, rfl⟩
theorem qX0_thinOdds_13 : Dq cX0_thinOdds 13 (.getfield 9) 3 16 := ⟨by decide +kernel, rfl⟩
theorem qX0_thinOdds_16 : Dq cX0_thinOdds 16 (.iload_n 1) 1 17 := ⟨by decide +kernel, rfl⟩
theorem qX0_thinOdds_17 : Dq cX0_thinOdds 17 (.iaload) 1 18 := ⟨by decide +kernel, rfl⟩
theorem qX0_thinOdds_18 : Dq cX0_thinOdds 18 (.bipush 100) 2 20 := ⟨by decide +kernel, rfl⟩
theorem qX0_thinOdds_20 : Dq cX0_thinOdds 20 (.iload_n 2) 1 21 := ⟨by decide +kernel, rfl⟩
theorem qX0_thinOdds_21 : Dq cX0_thinOdds 21 (.isub) 1 22 := ⟨by decide +kernel, rfl⟩
theorem qX0_thinOdds_22 : Dq cX0_thinOdds 22 (.imul) 1 23 := ⟨by decide +kernel, rfl⟩
theorem qX0_thinOdds_23 : Dq cX0_thinOdds 23 (.bipush 100) 2 25 := ⟨by decide +kernel, rfl⟩
theorem qX0_thinOdds_25 : Dq cX0_thinOdds 25 (.idiv) 1 26 := ⟨by decide +kernel, rfl⟩
theorem qX0_thinOdds_26 : Dq cX0_thinOdds 26 (.iastore) 1 27 := ⟨by decide +kernel, rfl⟩
theorem qX0_thinOdds_27 : Dq cX0_thinOdds 27 (.return_) 1 28 := ⟨by decide +kernel, rfl⟩
set_option maxRecDepth 100000 in
set_option maxHeartbeats 4000000 in
theorem c_thinOdds {G : Glb} {h : AHp} (hs : ShC h) {B : Nat} (hB : isB B) {i : Int32} (hp : isC i) (v : Int32) : CP G m_X0_thinOdds 3 0 0 [.ref B, .int i, .int v] h (fun r h' => r = none ∧ stI h (B + 1) (tn i) (hpI h (B + 1) (tn i) * (100 - v) / 100) = h') := by
  suffices key : ∀ P : Option Value → AHp → Prop, (∀ r h', (r = none ∧ stI h (B + 1) (tn i) (hpI h (B + 1) (tn i) * (100 - v) / 100) = h') → P r h') → CP G m_X0_thinOdds 3 0 0 [.ref B, .int i, .int v] h P from key _ (fun _ _ z => z)
  intro P hP
  refine CP.of (by decide +kernel) (Nat.le_of_ble_eq_true rfl) fun X hX hR hnm => ?_
  show V X G 3 0 0 _ 0 [some (.ref B), some (.int i), some (.int v)] [] h
  refine v_iload_n hX rfl qX0_thinOdds_0 ?_
  refine v_callNq hX hR k_X0_37 (c_isCell _) rfl (Nat.le_of_ble_eq_true rfl) rfl (Nat.le_of_ble_eq_true rfl) ⟨Nat.le_of_ble_eq_true rfl, Nat.le_of_ble_eq_true rfl⟩ qX0_thinOdds_1 ?_
  rintro _ _ ⟨rfl, rfl⟩
  first | refine v_if_eqB hX 27 qX0_thinOdds_4 rfl (fun q4 => ?_) (fun q4 => ?_) | refine v_if_eq hX 27 qX0_thinOdds_4 rfl (fun q4 => ?_) (fun q4 => ?_)
  · exact absurd hp (by assumption)
  · skip
    refine v_aload_n hX rfl qX0_thinOdds_7 ?_
    refine v_getR hX g_X0_9 (hs.bk hB) (hs.bo hB) qX0_thinOdds_8 ?_
    refine v_iload_n hX rfl qX0_thinOdds_11 ?_
    refine v_aload_n hX rfl qX0_thinOdds_12 ?_
    refine v_getR hX g_X0_9 (hs.bk hB) (hs.bo hB) qX0_thinOdds_13 ?_
    refine v_iload_n hX rfl qX0_thinOdds_16 ?_
    refine v_ialdJ hX (hs.bok hB) (hs.bol hB) (by exact hp.ix) qX0_thinOdds_17 ?_
    refine v_bipush hX lb_100 qX0_thinOdds_18 ?_
    refine v_iload_n hX rfl qX0_thinOdds_20 ?_
    refine v_isub hX qX0_thinOdds_21 ?_
    refine v_imul hX qX0_thinOdds_22 ?_
    refine v_bipush hX lb_100 qX0_thinOdds_23 ?_
    refine v_idiv hX (by decide) qX0_thinOdds_25 ?_
    refine v_iastJ hX (hs.bok hB) (hs.bol hB) (by exact hp.ix) qX0_thinOdds_26 ?_
    refine v_return hX qX0_thinOdds_27 (hP _ _ ?_)
    exact ⟨rfl, rfl⟩
def rmI (x y : Int32) : Int32 := x - x / y * y
def psH (h : AHp) (B : Nat) (v : Int32) : Int32 := rmI (hpI h B 3 + (hpI h B 4 + v) / 60) 24
def psM (h : AHp) (B : Nat) (v : Int32) : Int32 := rmI (hpI h B 4 + v) 60
theorem qX0_pass_0 : Dq cX0_pass 0 (.aload_n 0) 1 1 := ⟨by decide +kernel, rfl⟩
theorem qX0_pass_1 : Dq cX0_pass 1 (.getfield 31) 3 4 := ⟨by decide +kernel, rfl⟩
theorem qX0_pass_4 : Dq cX0_pass 4 (.iload_n 1) 1 5 := ⟨by decide +kernel, rfl⟩
theorem qX0_pass_5 : Dq cX0_pass 5 (.iadd) 1 6 := ⟨by decide +kernel, rfl⟩
theorem qX0_pass_6 : Dq cX0_pass 6 (.istore_n 2) 1 7 := ⟨by decide +kernel, rfl⟩
theorem qX0_pass_7 : Dq cX0_pass 7 (.aload_n 0) 1 8 := ⟨by decide +kernel, rfl⟩
theorem qX0_pass_8 : Dq cX0_pass 8 (.aload_n 0) 1 9 := ⟨by decide +kernel, rfl⟩
theorem qX0_pass_9 : Dq cX0_pass 9 (.getfield 18) 3 12 := ⟨by decide +kernel, rfl⟩
theorem qX0_pass_12 : Dq cX0_pass 12 (.iload_n 2) 1 13 := ⟨by decide +kernel, rfl⟩
theorem qX0_pass_13 : Dq cX0_pass 13 (.bipush 60) 2 15 := ⟨by decide +kernel, rfl⟩
theorem qX0_pass_15 : Dq cX0_pass 15 (.idiv) 1 16 := ⟨by decide +kernel, rfl⟩
theorem qX0_pass_16 : Dq cX0_pass 16 (.iadd) 1 17 := ⟨by decide +kernel, rfl⟩
theorem qX0_pass_17 : Dq cX0_pass 17 (.bipush 24) 2 19 := ⟨by decide +kernel, rfl⟩
theorem qX0_pass_19 : Dq cX0_pass 19 (.irem) 1 20 := ⟨by decide +kernel, rfl⟩
theorem qX0_pass_20 : Dq cX0_pass 20 (.putfield 18) 3 23 := ⟨by decide +kernel, rfl⟩
theorem qX0_pass_23 : Dq cX0_pass 23 (.aload_n 0) 1 24 := ⟨by decide +kernel, rfl⟩
theorem qX0_pass_24 : Dq cX0_pass 24 (.iload_n 2) 1 25 := ⟨by decide +kernel, rfl⟩
theorem qX0_pass_25 : Dq cX0_pass 25 (.bipush 60) 2 27 := ⟨by decide +kernel, rfl⟩
theorem qX0_pass_27 : Dq cX0_pass 27 (.irem) 1 28 := ⟨by decide +kernel, rfl⟩
theorem qX0_pass_28 : Dq cX0_pass 28 (.putfield 31) 3 31 := ⟨by decide +kernel, rfl⟩
theorem qX0_pass_31 : Dq cX0_pass 31 (.return_) 1 32 := ⟨by decide +kernel, rfl⟩
set_option maxRecDepth 100000 in
set_option maxHeartbeats 4000000 in
theorem c_pass {G : Glb} {h : AHp} (hs : ShC h) {B : Nat} (hB : isB B) (v : Int32) : CP G m_X0_pass 1 0 0 [.ref B, .int v] h (fun r h' => r = none ∧ stI (stI h B 3 (psH h B v)) B 4 (psM h B v) = h') := by
  suffices key : ∀ P : Option Value → AHp → Prop, (∀ r h', (r = none ∧ stI (stI h B 3 (psH h B v)) B 4 (psM h B v) = h') → P r h') → CP G m_X0_pass 1 0 0 [.ref B, .int v] h P from key _ (fun _ _ z => z)
  intro P hP
  refine CP.of (by decide +kernel) (Nat.le_of_ble_eq_true rfl) fun X hX hR hnm => ?_
  show V X G 3 0 0 _ 0 [some (.ref B), some (.int v), none] [] h
  refine v_aload_n hX rfl qX0_pass_0 ?_
  refine v_getI hX g_X0_31 (Or.inl rfl) (hs.bk hB) qX0_pass_1 ?_
  refine v_iload_n hX rfl qX0_pass_4 ?_
  refine v_iadd hX qX0_pass_5 ?_
  refine v_istore_n hX (Nat.le_of_ble_eq_true rfl) rfl (ls' := [some _, some _, some _]) rfl qX0_pass_6 ?_
  refine v_aload_n hX rfl qX0_pass_7 ?_
  refine v_aload_n hX rfl qX0_pass_8 ?_
  refine v_getI hX g_X0_18 (Or.inl rfl) (hs.bk hB) qX0_pass_9 ?_
  refine v_iload_n hX rfl qX0_pass_12 ?_
  refine v_bipush hX lb_60 qX0_pass_13 ?_
  refine v_idiv hX (by decide) qX0_pass_15 ?_
  refine v_iadd hX qX0_pass_16 ?_
  refine v_bipush hX lb_24 qX0_pass_17 ?_
  refine v_irem hX (by decide) qX0_pass_19 ?_
  refine v_putI hX p_X0_18 (hs.bk hB) (Or.inl rfl) qX0_pass_20 ?_
  refine v_aload_n hX rfl qX0_pass_23 ?_
  refine v_iload_n hX rfl qX0_pass_24 ?_
  refine v_bipush hX lb_60 qX0_pass_25 ?_
  refine v_irem hX (by decide) qX0_pass_27 ?_
  refine v_putI hX p_X0_31 (hs.bk hB) (Or.inl rfl) qX0_pass_28 ?_
  refine v_return hX qX0_pass_31 (hP _ _ ?_)
  exact ⟨rfl, rfl⟩
theorem qX0_oddsOnCells_0 : Dq cX0_oddsOnCells 0 (.iconst 0) 1 1 := ⟨by decide +kernel, rfl⟩
theorem qX0_oddsOnCells_1 : Dq cX0_oddsOnCells 1 (.istore_n 1) 1 2 := ⟨by decide +kernel, rfl⟩
theorem qX0_oddsOnCells_2 : Dq cX0_oddsOnCells 2 (.iconst 0) 1 3 := ⟨by decide +kernel, rfl⟩
theorem qX0_oddsOnCells_3 : Dq cX0_oddsOnCells 3 (.istore_n 2) 1 4 := ⟨by decide +kernel, rfl⟩
theorem qX0_oddsOnCells_4 : Dq cX0_oddsOnCells 4 (.iload_n 2) 1 5 := ⟨by decide +kernel, rfl⟩
theorem qX0_oddsOnCells_5 : Dq cX0_oddsOnCells 5 (.bipush 48) 2 7 := ⟨by decide +kernel, rfl⟩
theorem qX0_oddsOnCells_7 : Dq cX0_oddsOnCells 7 (.if_icmp .ge 18) 3 10 := ⟨by decide +kernel, rfl⟩
theorem qX0_oddsOnCells_10 : Dq cX0_oddsOnCells 10 (.iload_n 1) 1 11 := ⟨by decide +kernel, rfl⟩
theorem qX0_oddsOnCells_11 : Dq cX0_oddsOnCells 11 (.aload_n 0) 1 12 := ⟨by decide +kernel, rfl⟩
theorem qX0_oddsOnCells_12 : Dq cX0_oddsOnCells 12 (.getfield 9) 3 15 := ⟨by decide +kernel, rfl⟩
theorem qX0_oddsOnCells_15 : Dq cX0_oddsOnCells 15 (.iload_n 2) 1 16 := ⟨by decide +kernel, rfl⟩
theorem qX0_oddsOnCells_16 : Dq cX0_oddsOnCells 16 (.iaload) 1 17 := ⟨by decide +kernel, rfl⟩
theorem qX0_oddsOnCells_17 : Dq cX0_oddsOnCells 17 (.iadd) 1 18 := ⟨by decide +kernel, rfl⟩
theorem qX0_oddsOnCells_18 : Dq cX0_oddsOnCells 18 (.istore_n 1) 1 19 := ⟨by decide +kernel, rfl⟩
theorem qX0_oddsOnCells_19 : Dq cX0_oddsOnCells 19 (.iinc 2 1) 3 22 := ⟨by decide +kernel, rfl⟩
theorem qX0_oddsOnCells_22 : Dq cX0_oddsOnCells 22 (.goto (-18)) 3 25 := ⟨by decide +kernel, rfl⟩
theorem qX0_oddsOnCells_25 : Dq cX0_oddsOnCells 25 (.iload_n 1) 1 26 := ⟨by decide +kernel, rfl⟩
theorem qX0_oddsOnCells_26 : Dq cX0_oddsOnCells 26 (.ireturn) 1 27 := ⟨by decide +kernel, rfl⟩
set_option maxRecDepth 100000 in
set_option maxHeartbeats 4000000 in
theorem c_oddsOnCells {G : Glb} {h : AHp} (hs : ShC h) {B : Nat} (hB : isB B)  : CP G m_X0_oddsOnCells 1 0 0 [.ref B] h (fun r h' => r = some (.int (sumN (hpI h (B + 1)) 48)) ∧ h = h') := by
  suffices key : ∀ P : Option Value → AHp → Prop, (∀ r h', (r = some (.int (sumN (hpI h (B + 1)) 48)) ∧ h = h') → P r h') → CP G m_X0_oddsOnCells 1 0 0 [.ref B] h P from key _ (fun _ _ z => z)
  intro P hP
  refine CP.of (by decide +kernel) (Nat.le_of_ble_eq_true rfl) fun X hX hR hnm => ?_
  show V X G 3 0 0 _ 0 [some (.ref B), none, none] [] h
  refine v_iconst hX li_0 qX0_oddsOnCells_0 ?_
  refine v_istore_n hX (Nat.le_of_ble_eq_true rfl) rfl (ls' := [some _, some _, none]) rfl qX0_oddsOnCells_1 ?_
  refine v_iconst hX li_0 qX0_oddsOnCells_2 ?_
  refine v_istore_n hX (Nat.le_of_ble_eq_true rfl) rfl (ls' := [some _, some _, some _]) rfl qX0_oddsOnCells_3 ?_
  have L4 : ∀ (m : Nat) (i : Nat), 48 - i = m → (i ≤ 48) → V X G 3 0 0 (QM X G P 0 0) 4 [some (.ref B), some (.int (sumN (hpI h (B + 1)) i)), some (.int (nI i))] [] h := by
    intro m
    induction m using Nat.strongRecOn with
    | _ m ih =>
    intro i hm hi
    refine v_iload_n hX rfl qX0_oddsOnCells_4 ?_
    refine v_bipush hX lb_48 qX0_oddsOnCells_5 ?_
    refine v_icmp_geS hX 25 qX0_oddsOnCells_7 rfl (fun q7 => ?_) (fun q7 => ?_)
    · have e := geN (N := 48) rfl hi q7; subst e
      refine v_iload_n hX rfl qX0_oddsOnCells_25 ?_
      refine v_ireturn hX qX0_oddsOnCells_26 (hP _ _ ?_)
      exact ⟨rfl, rfl⟩
    · have hl := ltN (N := 48) rfl hi q7
      refine v_iload_n hX rfl qX0_oddsOnCells_10 ?_
      refine v_aload_n hX rfl qX0_oddsOnCells_11 ?_
      refine v_getR hX g_X0_9 (hs.bk hB) (hs.bo hB) qX0_oddsOnCells_12 ?_
      refine v_iload_n hX rfl qX0_oddsOnCells_15 ?_
      refine v_ialdJ hX (hs.bok hB) (hs.bol hB) (by first | exact isC.ix (by assumption) | exact ix_n (by omega) rfl) qX0_oddsOnCells_16 ?_
      refine v_iadd hX qX0_oddsOnCells_17 ?_
      refine v_istore_n hX (Nat.le_of_ble_eq_true rfl) rfl (ls' := [some _, some _, some _]) rfl qX0_oddsOnCells_18 ?_
      refine v_iinc hX rfl (by first | exact ii_nI _ | exact ii_1 _) (Nat.le_of_ble_eq_true rfl) rfl (ls' := [some _, some _, some _]) rfl qX0_oddsOnCells_19 ?_
      refine v_goto hX 4 qX0_oddsOnCells_22 rfl ?_
      exact ih _ (by omega) (i + 1) rfl (by omega)
  exact L4 _ 0 rfl (by omega)
theorem qX0_allTreads_0 : Dq cX0_allTreads 0 (.iconst 0) 1 1 := ⟨by decide +kernel, rfl⟩
theorem qX0_allTreads_1 : Dq cX0_allTreads 1 (.istore_n 1) 1 2 := ⟨by decide +kernel, rfl⟩
theorem qX0_allTreads_2 : Dq cX0_allTreads 2 (.iconst 0) 1 3 := ⟨by decide +kernel, rfl⟩
theorem qX0_allTreads_3 : Dq cX0_allTreads 3 (.istore_n 2) 1 4 := ⟨by decide +kernel, rfl⟩
theorem qX0_allTreads_4 : Dq cX0_allTreads 4 (.iload_n 2) 1 5 := ⟨by decide +kernel, rfl⟩
theorem qX0_allTreads_5 : Dq cX0_allTreads 5 (.bipush 48) 2 7 := ⟨by decide +kernel, rfl⟩
theorem qX0_allTreads_7 : Dq cX0_allTreads 7 (.if_icmp .ge 18) 3 10 := ⟨by decide +kernel, rfl⟩
theorem qX0_allTreads_10 : Dq cX0_allTreads 10 (.iload_n 1) 1 11 := ⟨by decide +kernel, rfl⟩
theorem qX0_allTreads_11 : Dq cX0_allTreads 11 (.aload_n 0) 1 12 := ⟨by decide +kernel, rfl⟩
theorem qX0_allTreads_12 : Dq cX0_allTreads 12 (.getfield 15) 3 15 := ⟨by decide +kernel, rfl⟩
theorem qX0_allTreads_15 : Dq cX0_allTreads 15 (.iload_n 2) 1 16 := ⟨by decide +kernel, rfl⟩
theorem qX0_allTreads_16 : Dq cX0_allTreads 16 (.iaload) 1 17 := ⟨by decide +kernel, rfl⟩
theorem qX0_allTreads_17 : Dq cX0_allTreads 17 (.iadd) 1 18 := ⟨by decide +kernel, rfl⟩
theorem qX0_allTreads_18 : Dq cX0_allTreads 18 (.istore_n 1) 1 19 := ⟨by decide +kernel, rfl⟩
theorem qX0_allTreads_19 : Dq cX0_allTreads 19 (.iinc 2 1) 3 22 := ⟨by decide +kernel, rfl⟩
theorem qX0_allTreads_22 : Dq cX0_allTreads 22 (.goto (-18)) 3 25 := ⟨by decide +kernel, rfl⟩
theorem qX0_allTreads_25 : Dq cX0_allTreads 25 (.iload_n 1) 1 26 := ⟨by decide +kernel, rfl⟩
theorem qX0_allTreads_26 : Dq cX0_allTreads 26 (.ireturn) 1 27 := ⟨by decide +kernel, rfl⟩
set_option maxRecDepth 100000 in
set_option maxHeartbeats 4000000 in
theorem c_allTreads {G : Glb} {h : AHp} (hs : ShC h) {B : Nat} (hB : isB B)  : CP G m_X0_allTreads 1 0 0 [.ref B] h (fun r h' => r = some (.int (sumN (hpI h (B + 2)) 48)) ∧ h = h') := by
  suffices key : ∀ P : Option Value → AHp → Prop, (∀ r h', (r = some (.int (sumN (hpI h (B + 2)) 48)) ∧ h = h') → P r h') → CP G m_X0_allTreads 1 0 0 [.ref B] h P from key _ (fun _ _ z => z)
  intro P hP
  refine CP.of (by decide +kernel) (Nat.le_of_ble_eq_true rfl) fun X hX hR hnm => ?_
  show V X G 3 0 0 _ 0 [some (.ref B), none, none] [] h
  refine v_iconst hX li_0 qX0_allTreads_0 ?_
  refine v_istore_n hX (Nat.le_of_ble_eq_true rfl) rfl (ls' := [some _, some _, none]) rfl qX0_allTreads_1 ?_
  refine v_iconst hX li_0 qX0_allTreads_2 ?_
  refine v_istore_n hX (Nat.le_of_ble_eq_true rfl) rfl (ls' := [some _, some _, some _]) rfl qX0_allTreads_3 ?_
  have L4 : ∀ (m : Nat) (i : Nat), 48 - i = m → (i ≤ 48) → V X G 3 0 0 (QM X G P 0 0) 4 [some (.ref B), some (.int (sumN (hpI h (B + 2)) i)), some (.int (nI i))] [] h := by
    intro m
    induction m using Nat.strongRecOn with
    | _ m ih =>
    intro i hm hi
    refine v_iload_n hX rfl qX0_allTreads_4 ?_
    refine v_bipush hX lb_48 qX0_allTreads_5 ?_
    refine v_icmp_geS hX 25 qX0_allTreads_7 rfl (fun q7 => ?_) (fun q7 => ?_)
    · have e := geN (N := 48) rfl hi q7; subst e
      refine v_iload_n hX rfl qX0_allTreads_25 ?_
      refine v_ireturn hX qX0_allTreads_26 (hP _ _ ?_)
      exact ⟨rfl, rfl⟩
    · have hl := ltN (N := 48) rfl hi q7
      refine v_iload_n hX rfl qX0_allTreads_10 ?_
      refine v_aload_n hX rfl qX0_allTreads_11 ?_
      refine v_getR hX g_X0_15 (hs.bk hB) (hs.bt hB) qX0_allTreads_12 ?_
      refine v_iload_n hX rfl qX0_allTreads_15 ?_
      refine v_ialdJ hX (hs.btk hB) (hs.btl hB) (by first | exact isC.ix (by assumption) | exact ix_n (by omega) rfl) qX0_allTreads_16 ?_
      refine v_iadd hX qX0_allTreads_17 ?_
      refine v_istore_n hX (Nat.le_of_ble_eq_true rfl) rfl (ls' := [some _, some _, some _]) rfl qX0_allTreads_18 ?_
      refine v_iinc hX rfl (by first | exact ii_nI _ | exact ii_1 _) (Nat.le_of_ble_eq_true rfl) rfl (ls' := [some _, some _, some _]) rfl qX0_allTreads_19 ?_
      refine v_goto hX 4 qX0_allTreads_22 rfl ?_
      exact ih _ (by omega) (i + 1) rfl (by omega)
  exact L4 _ 0 rfl (by omega)
theorem qX0_allOdds_0 : Dq cX0_allOdds 0 (.aload_n 0) 1 1 := ⟨by decide +kernel, rfl⟩
theorem qX0_allOdds_1 : Dq cX0_allOdds 1 (.invokevirtual 48) 3 4 := ⟨by decide +kernel, rfl⟩
theorem qX0_allOdds_4 : Dq cX0_allOdds 4 (.aload_n 0) 1 5 := ⟨by decide +kernel, rfl⟩
theorem qX0_allOdds_5 : Dq cX0_allOdds 5 (.getfield 28) 3 8 := ⟨by decide +kernel, rfl⟩
theorem qX0_allOdds_8 : Dq cX0_allOdds 8 (.iadd) 1 9 := ⟨by decide +kernel, rfl⟩
theorem qX0_allOdds_9 : Dq cX0_allOdds 9 (.ireturn) 1 10 := ⟨by decide +kernel, rfl⟩
set_option maxRecDepth 100000 in
set_option maxHeartbeats 4000000 in
theorem c_allOdds {G : Glb} {h : AHp} (hs : ShC h) {B : Nat} (hB : isB B)  : CP G m_X0_allOdds 2 0 0 [.ref B] h (fun r h' => r = some (.int (sumN (hpI h (B + 1)) 48 + hpI h B 2)) ∧ h = h') := by
  suffices key : ∀ P : Option Value → AHp → Prop, (∀ r h', (r = some (.int (sumN (hpI h (B + 1)) 48 + hpI h B 2)) ∧ h = h') → P r h') → CP G m_X0_allOdds 2 0 0 [.ref B] h P from key _ (fun _ _ z => z)
  intro P hP
  refine CP.of (by decide +kernel) (Nat.le_of_ble_eq_true rfl) fun X hX hR hnm => ?_
  show V X G 1 0 0 _ 0 [some (.ref B)] [] h
  refine v_aload_n hX rfl qX0_allOdds_0 ?_
  refine v_callVq hX hR k_X0_48 (hs.bk hB) (c_oddsOnCells hs hB) rfl (Nat.le_of_ble_eq_true rfl) rfl (Nat.le_of_ble_eq_true rfl) ⟨Nat.le_of_ble_eq_true rfl, Nat.le_of_ble_eq_true rfl⟩ qX0_allOdds_1 ?_
  rintro _ _ ⟨rfl, rfl⟩
  refine v_aload_n hX rfl qX0_allOdds_4 ?_
  refine v_getI hX g_X0_28 (Or.inl rfl) (hs.bk hB) qX0_allOdds_5 ?_
  refine v_iadd hX qX0_allOdds_8 ?_
  refine v_ireturn hX qX0_allOdds_9 (hP _ _ ?_)
  exact ⟨rfl, rfl⟩
/-- the first place of most, and how much lies there -/
def mst (f : Nat → Int32) : Nat → Int32 × Int32
  | 0 => (-1, 0)
  | n + 1 => if (mst f n).2 < f n then (nI n, f n) else mst f n
theorem qX0_cellOfMostOdds_0 : Dq cX0_cellOfMostOdds 0 (.iconst (-1)) 1 1 := ⟨by decide +kernel, rfl⟩
theorem qX0_cellOfMostOdds_1 : Dq cX0_cellOfMostOdds 1 (.istore_n 1) 1 2 := ⟨by decide +kernel, rfl⟩
theorem qX0_cellOfMostOdds_2 : Dq cX0_cellOfMostOdds 2 (.iconst 0) 1 3 := ⟨by decide +kernel, rfl⟩
theorem qX0_cellOfMostOdds_3 : Dq cX0_cellOfMostOdds 3 (.istore_n 2) 1 4 := ⟨by decide +kernel, rfl⟩
theorem qX0_cellOfMostOdds_4 : Dq cX0_cellOfMostOdds 4 (.iconst 0) 1 5 := ⟨by decide +kernel, rfl⟩
theorem qX0_cellOfMostOdds_5 : Dq cX0_cellOfMostOdds 5 (.istore_n 3) 1 6 := ⟨by decide +kernel, rfl⟩
theorem qX0_cellOfMostOdds_6 : Dq cX0_cellOfMostOdds 6 (.iload_n 3) 1 7 := ⟨by decide +kernel, rfl⟩
theorem qX0_cellOfMostOdds_7 : Dq cX0_cellOfMostOdds 7 (.bipush 48) 2 9 := ⟨by decide +kernel, rfl⟩
theorem qX0_cellOfMostOdds_9 : Dq cX0_cellOfMostOdds 9 (.if_icmp .ge 28) 3 12 := ⟨by decide +kernel, rfl⟩
theorem qX0_cellOfMostOdds_12 : Dq cX0_cellOfMostOdds 12 (.aload_n 0) 1 13 := ⟨by decide +kernel, rfl⟩
theorem qX0_cellOfMostOdds_13 : Dq cX0_cellOfMostOdds 13 (.getfield 9) 3 16 := ⟨by decide +kernel, rfl⟩
theorem qX0_cellOfMostOdds_16 : Dq cX0_cellOfMostOdds 16 (.iload_n 3) 1 17 := ⟨by decide +kernel, rfl⟩
theorem qX0_cellOfMostOdds_17 : Dq cX0_cellOfMostOdds 17 (.iaload) 1 18 := ⟨by decide +kernel, rfl⟩
theorem qX0_cellOfMostOdds_18 : Dq cX0_cellOfMostOdds 18 (.iload_n 2) 1 19 := ⟨by decide +kernel, rfl⟩
theorem qX0_cellOfMostOdds_19 : Dq cX0_cellOfMostOdds 19 (.if_icmp .le 12) 3 22 := ⟨by decide +kernel, rfl⟩
theorem qX0_cellOfMostOdds_22 : Dq cX0_cellOfMostOdds 22 (.iload_n 3) 1 23 := ⟨by decide +kernel, rfl⟩
theorem qX0_cellOfMostOdds_23 : Dq cX0_cellOfMostOdds 23 (.istore_n 1) 1 24 := ⟨by decide +kernel, rfl⟩
theorem qX0_cellOfMostOdds_24 : Dq cX0_cellOfMostOdds 24 (.aload_n 0) 1 25 := ⟨by decide +kernel, rfl⟩
theorem qX0_cellOfMostOdds_25 : Dq cX0_cellOfMostOdds 25 (.getfield 9) 3 28 := ⟨by decide +kernel, rfl⟩
theorem qX0_cellOfMostOdds_28 : Dq cX0_cellOfMostOdds 28 (.iload_n 3) 1 29 := ⟨by decide +kernel, rfl⟩
theorem qX0_cellOfMostOdds_29 : Dq cX0_cellOfMostOdds 29 (.iaload) 1 30 := ⟨by decide +kernel, rfl⟩
theorem qX0_cellOfMostOdds_30 : Dq cX0_cellOfMostOdds 30 (.istore_n 2) 1 31 := ⟨by decide +kernel, rfl⟩
theorem qX0_cellOfMostOdds_31 : Dq cX0_cellOfMostOdds 31 (.iinc 3 1) 3 34 := ⟨by decide +kernel, rfl⟩
theorem qX0_cellOfMostOdds_34 : Dq cX0_cellOfMostOdds 34 (.goto (-28)) 3 37 := ⟨by decide +kernel, rfl⟩
theorem qX0_cellOfMostOdds_37 : Dq cX0_cellOfMostOdds 37 (.iload_n 1) 1 38 := ⟨by decide +kernel, rfl⟩
theorem qX0_cellOfMostOdds_38 : Dq cX0_cellOfMostOdds 38 (.ireturn) 1 39 := ⟨by decide +kernel, rfl⟩
set_option maxRecDepth 100000 in
set_option maxHeartbeats 4000000 in
theorem c_cellOfMostOdds {G : Glb} {h : AHp} (hs : ShC h) {B : Nat} (hB : isB B)  : CP G m_X0_cellOfMostOdds 1 0 0 [.ref B] h (fun r h' => r = some (.int ((mst (hpI h (B + 1)) 48).1)) ∧ h = h') := by
  suffices key : ∀ P : Option Value → AHp → Prop, (∀ r h', (r = some (.int ((mst (hpI h (B + 1)) 48).1)) ∧ h = h') → P r h') → CP G m_X0_cellOfMostOdds 1 0 0 [.ref B] h P from key _ (fun _ _ z => z)
  intro P hP
  refine CP.of (by decide +kernel) (Nat.le_of_ble_eq_true rfl) fun X hX hR hnm => ?_
  show V X G 4 0 0 _ 0 [some (.ref B), none, none, none] [] h
  refine v_iconst hX li_n1 qX0_cellOfMostOdds_0 ?_
  refine v_istore_n hX (Nat.le_of_ble_eq_true rfl) rfl (ls' := [some _, some _, none, none]) rfl qX0_cellOfMostOdds_1 ?_
  refine v_iconst hX li_0 qX0_cellOfMostOdds_2 ?_
  refine v_istore_n hX (Nat.le_of_ble_eq_true rfl) rfl (ls' := [some _, some _, some _, none]) rfl qX0_cellOfMostOdds_3 ?_
  refine v_iconst hX li_0 qX0_cellOfMostOdds_4 ?_
  refine v_istore_n hX (Nat.le_of_ble_eq_true rfl) rfl (ls' := [some _, some _, some _, some _]) rfl qX0_cellOfMostOdds_5 ?_
  have L6 : ∀ (m : Nat) (i : Nat), 48 - i = m → (i ≤ 48) → V X G 4 0 0 (QM X G P 0 0) 6 [some (.ref B), some (.int (mst (hpI h (B + 1)) i).1), some (.int (mst (hpI h (B + 1)) i).2), some (.int (nI i))] [] h := by
    intro m
    induction m using Nat.strongRecOn with
    | _ m ih =>
    intro i hm hi
    refine v_iload_n hX rfl qX0_cellOfMostOdds_6 ?_
    refine v_bipush hX lb_48 qX0_cellOfMostOdds_7 ?_
    refine v_icmp_geS hX 37 qX0_cellOfMostOdds_9 rfl (fun q9 => ?_) (fun q9 => ?_)
    · have e := geN (N := 48) rfl hi q9; subst e
      refine v_iload_n hX rfl qX0_cellOfMostOdds_37 ?_
      refine v_ireturn hX qX0_cellOfMostOdds_38 (hP _ _ ?_)
      exact ⟨rfl, rfl⟩
    · have hl := ltN (N := 48) rfl hi q9
      refine v_aload_n hX rfl qX0_cellOfMostOdds_12 ?_
      refine v_getR hX g_X0_9 (hs.bk hB) (hs.bo hB) qX0_cellOfMostOdds_13 ?_
      refine v_iload_n hX rfl qX0_cellOfMostOdds_16 ?_
      refine v_ialdJ hX (hs.bok hB) (hs.bol hB) (by first | exact isC.ix (by assumption) | exact ix_n (by omega) rfl) qX0_cellOfMostOdds_17 ?_
      refine v_iload_n hX rfl qX0_cellOfMostOdds_18 ?_
      refine v_icmp_leS hX 31 qX0_cellOfMostOdds_19 rfl (fun q19 => ?_) (fun q19 => ?_)
      · skip
        refine v_iinc hX rfl (by first | exact ii_nI _ | exact ii_1 _) (Nat.le_of_ble_eq_true rfl) rfl (ls' := [some _, some _, some _, some _]) rfl qX0_cellOfMostOdds_31 ?_
        refine v_goto hX 6 qX0_cellOfMostOdds_34 rfl ?_
        first | (have e : mst (hpI h (B + 1)) (i + 1) = (nI i, (hpI h (B + 1)) i) := if_pos (by assumption); have z := ih _ (by omega) (i + 1) rfl (by omega); rw [e] at z; exact z) | (have e : mst (hpI h (B + 1)) (i + 1) = mst (hpI h (B + 1)) i := if_neg (Int32.not_lt.mpr (by assumption)); have z := ih _ (by omega) (i + 1) rfl (by omega); rw [e] at z; exact z)
      · skip
        refine v_iload_n hX rfl qX0_cellOfMostOdds_22 ?_
        refine v_istore_n hX (Nat.le_of_ble_eq_true rfl) rfl (ls' := [some _, some _, some _, some _]) rfl qX0_cellOfMostOdds_23 ?_
        refine v_aload_n hX rfl qX0_cellOfMostOdds_24 ?_
        refine v_getR hX g_X0_9 (hs.bk hB) (hs.bo hB) qX0_cellOfMostOdds_25 ?_
        refine v_iload_n hX rfl qX0_cellOfMostOdds_28 ?_
        refine v_ialdJ hX (hs.bok hB) (hs.bol hB) (by first | exact isC.ix (by assumption) | exact ix_n (by omega) rfl) qX0_cellOfMostOdds_29 ?_
        refine v_istore_n hX (Nat.le_of_ble_eq_true rfl) rfl (ls' := [some _, some _, some _, some _]) rfl qX0_cellOfMostOdds_30 ?_
        refine v_iinc hX rfl (by first | exact ii_nI _ | exact ii_1 _) (Nat.le_of_ble_eq_true rfl) rfl (ls' := [some _, some _, some _, some _]) rfl qX0_cellOfMostOdds_31 ?_
        refine v_goto hX 6 qX0_cellOfMostOdds_34 rfl ?_
        first | (have e : mst (hpI h (B + 1)) (i + 1) = (nI i, (hpI h (B + 1)) i) := if_pos (by assumption); have z := ih _ (by omega) (i + 1) rfl (by omega); rw [e] at z; exact z) | (have e : mst (hpI h (B + 1)) (i + 1) = mst (hpI h (B + 1)) i := if_neg (Int32.not_lt.mpr (by assumption)); have z := ih _ (by omega) (i + 1) rfl (by omega); rw [e] at z; exact z)
  exact L6 _ 0 rfl (by omega)
theorem qX0_cellBehind_0 : Dq cX0_cellBehind 0 (.iconst 0) 1 1 := ⟨by decide +kernel, rfl⟩
theorem qX0_cellBehind_1 : Dq cX0_cellBehind 1 (.istore_n 2) 1 2 := ⟨by decide +kernel, rfl⟩
theorem qX0_cellBehind_2 : Dq cX0_cellBehind 2 (.iconst 0) 1 3 := ⟨by decide +kernel, rfl⟩
theorem qX0_cellBehind_3 : Dq cX0_cellBehind 3 (.istore_n 3) 1 4 := ⟨by decide +kernel, rfl⟩
theorem qX0_cellBehind_4 : Dq cX0_cellBehind 4 (.iload_n 3) 1 5 := ⟨by decide +kernel, rfl⟩
theorem qX0_cellBehind_5 : Dq cX0_cellBehind 5 (.bipush 48) 2 7 := ⟨by decide +kernel, rfl⟩
theorem qX0_cellBehind_7 : Dq cX0_cellBehind 7 (.if_icmp .ge 25) 3 10 := ⟨by decide +kernel, rfl⟩
theorem qX0_cellBehind_10 : Dq cX0_cellBehind 10 (.iload_n 2) 1 11 := ⟨by decide +kernel, rfl⟩
theorem qX0_cellBehind_11 : Dq cX0_cellBehind 11 (.aload_n 0) 1 12 := ⟨by decide +kernel, rfl⟩
theorem qX0_cellBehind_12 : Dq cX0_cellBehind 12 (.getfield 9) 3 15 := ⟨by decide +kernel, rfl⟩
theorem qX0_cellBehind_15 : Dq cX0_cellBehind 15 (.iload_n 3) 1 16 := ⟨by decide +kernel, rfl⟩
theorem qX0_cellBehind_16 : Dq cX0_cellBehind 16 (.iaload) 1 17 := ⟨by decide +kernel, rfl⟩
theorem qX0_cellBehind_17 : Dq cX0_cellBehind 17 (.iadd) 1 18 := ⟨by decide +kernel, rfl⟩
theorem qX0_cellBehind_18 : Dq cX0_cellBehind 18 (.istore_n 2) 1 19 := ⟨by decide +kernel, rfl⟩
theorem qX0_cellBehind_19 : Dq cX0_cellBehind 19 (.iload_n 2) 1 20 := ⟨by decide +kernel, rfl⟩
theorem qX0_cellBehind_20 : Dq cX0_cellBehind 20 (.iload_n 1) 1 21 := ⟨by decide +kernel, rfl⟩
theorem qX0_cellBehind_21 : Dq cX0_cellBehind 21 (.if_icmp .le 5) 3 24 := ⟨by decide +kernel, rfl⟩
theorem qX0_cellBehind_24 : Dq cX0_cellBehind 24 (.iload_n 3) 1 25 := ⟨by decide +kernel, rfl⟩
theorem qX0_cellBehind_25 : Dq cX0_cellBehind 25 (.ireturn) 1 26 := ⟨by decide +kernel, rfl⟩
theorem qX0_cellBehind_26 : Dq cX0_cellBehind 26 (.iinc 3 1) 3 29 := ⟨by decide +kernel, rfl⟩
theorem qX0_cellBehind_29 : Dq cX0_cellBehind 29 (.goto (-25)) 3 32 := ⟨by decide +kernel, rfl⟩
theorem qX0_cellBehind_32 : Dq cX0_cellBehind 32 (.iconst (-1)) 1 33 := ⟨by decide +kernel, rfl⟩
theorem qX0_cellBehind_33 : Dq cX0_cellBehind 33 (.ireturn) 1 34 := ⟨by decide +kernel, rfl⟩
set_option maxRecDepth 100000 in
set_option maxHeartbeats 4000000 in
theorem c_cellBehind {G : Glb} {h : AHp} (hs : ShC h) {B : Nat} (hB : isB B) (t : Int32) : CP G m_X0_cellBehind 1 0 0 [.ref B, .int t] h (fun r h' => r = some (.int (fx (fun k => decide (t < sumN (hpI h (B + 1)) (k + 1))) 48 0)) ∧ h = h') := by
  suffices key : ∀ P : Option Value → AHp → Prop, (∀ r h', (r = some (.int (fx (fun k => decide (t < sumN (hpI h (B + 1)) (k + 1))) 48 0)) ∧ h = h') → P r h') → CP G m_X0_cellBehind 1 0 0 [.ref B, .int t] h P from key _ (fun _ _ z => z)
  intro P hP
  refine CP.of (by decide +kernel) (Nat.le_of_ble_eq_true rfl) fun X hX hR hnm => ?_
  show V X G 4 0 0 _ 0 [some (.ref B), some (.int t), none, none] [] h
  refine v_iconst hX li_0 qX0_cellBehind_0 ?_
  refine v_istore_n hX (Nat.le_of_ble_eq_true rfl) rfl (ls' := [some _, some _, some _, none]) rfl qX0_cellBehind_1 ?_
  refine v_iconst hX li_0 qX0_cellBehind_2 ?_
  refine v_istore_n hX (Nat.le_of_ble_eq_true rfl) rfl (ls' := [some _, some _, some _, some _]) rfl qX0_cellBehind_3 ?_
  have L4 : ∀ (m : Nat) (i : Nat), 48 - i = m → (i ≤ 48) → (∀ j, j < i → sumN (hpI h (B + 1)) (j + 1) ≤ t) → V X G 4 0 0 (QM X G P 0 0) 4 [some (.ref B), some (.int t), some (.int (sumN (hpI h (B + 1)) i)), some (.int (nI i))] [] h := by
    intro m
    induction m using Nat.strongRecOn with
    | _ m ih =>
    intro i hm hi hq
    refine v_iload_n hX rfl qX0_cellBehind_4 ?_
    refine v_bipush hX lb_48 qX0_cellBehind_5 ?_
    refine v_icmp_geS hX 32 qX0_cellBehind_7 rfl (fun q7 => ?_) (fun q7 => ?_)
    · have e := geN (N := 48) rfl hi q7; subst e
      refine v_iconst hX li_n1 qX0_cellBehind_32 ?_
      refine v_ireturn hX qX0_cellBehind_33 (hP _ _ ?_)
      exact ⟨congrArg (fun z => some (Value.int z)) (fx_no 48 0 (fun j _ hj => decide_eq_false (Int32.not_lt.mpr (hq j (by omega))))).symm, rfl⟩
    · have hl := ltN (N := 48) rfl hi q7
      refine v_iload_n hX rfl qX0_cellBehind_10 ?_
      refine v_aload_n hX rfl qX0_cellBehind_11 ?_
      refine v_getR hX g_X0_9 (hs.bk hB) (hs.bo hB) qX0_cellBehind_12 ?_
      refine v_iload_n hX rfl qX0_cellBehind_15 ?_
      refine v_ialdJ hX (hs.bok hB) (hs.bol hB) (by first | exact isC.ix (by assumption) | exact ix_n (by omega) rfl) qX0_cellBehind_16 ?_
      refine v_iadd hX qX0_cellBehind_17 ?_
      refine v_istore_n hX (Nat.le_of_ble_eq_true rfl) rfl (ls' := [some _, some _, some _, some _]) rfl qX0_cellBehind_18 ?_
      refine v_iload_n hX rfl qX0_cellBehind_19 ?_
      refine v_iload_n hX rfl qX0_cellBehind_20 ?_
      refine v_icmp_leS hX 26 qX0_cellBehind_21 rfl (fun q21 => ?_) (fun q21 => ?_)
      · skip
        refine v_iinc hX rfl (by first | exact ii_nI _ | exact ii_1 _) (Nat.le_of_ble_eq_true rfl) rfl (ls' := [some _, some _, some _, some _]) rfl qX0_cellBehind_26 ?_
        refine v_goto hX 4 qX0_cellBehind_29 rfl ?_
        exact ih _ (by omega) (i + 1) rfl (by omega) (fun j hj => by rcases Nat.lt_succ_iff_lt_or_eq.mp hj with z | rfl; exact hq j z; exact q21)
      · skip
        refine v_iload_n hX rfl qX0_cellBehind_24 ?_
        refine v_ireturn hX qX0_cellBehind_25 (hP _ _ ?_)
        exact ⟨congrArg (fun z => some (Value.int z)) (fx_hit (k := i) (decide_eq_true q21) 48 0 (Nat.zero_le _) (by omega) (fun j _ hj => decide_eq_false (Int32.not_lt.mpr (hq j hj)))).symm, rfl⟩
  exact L4 _ 0 rfl (by omega) (fun j hj => absurd hj (Nat.not_lt_zero _))
/-- one beach becomes as another: what is said of the numbers behind it -/
def asBeach (h : AHp) (B D : Nat) (σ : Nat → Nat → Int32) : Prop := (∀ k, k < 48 → σ (B + 1) k = hpI h (D + 1) k) ∧ (∀ k, k < 48 → σ (B + 2) k = hpI h (D + 2) k) ∧ (∀ k, 2 ≤ k → k < 6 → σ B k = hpI h D k) ∧ ∀ a, a ≠ B → a ≠ B + 1 → a ≠ B + 2 → σ a = hpI h a
theorem qX0_become_0 : Dq cX0_become 0 (.aload_n 1) 1 1 := ⟨by decide +kernel, rfl⟩
theorem qX0_become_1 : Dq cX0_become 1 (.getfield 9) 3 4 := ⟨by decide +kernel, rfl⟩
theorem qX0_become_4 : Dq cX0_become 4 (.iconst 0) 1 5 := ⟨by decide +kernel, rfl⟩
theorem qX0_become_5 : Dq cX0_become 5 (.aload_n 0) 1 6 := ⟨by decide +kernel, rfl⟩
theorem qX0_become_6 : Dq cX0_become 6 (.getfield 9) 3 9 := ⟨by decide +kernel, rfl⟩
theorem qX0_become_9 : Dq cX0_become 9 (.iconst 0) 1 10 := ⟨by decide +kernel, rfl⟩
theorem qX0_become_10 : Dq cX0_become 10 (.bipush 48) 2 12 := ⟨by decide +kernel, rfl⟩
theorem qX0_become_12 : Dq cX0_become 12 (.invokestatic 22) 3 15 := ⟨by decide +kernel, rfl⟩
theorem qX0_become_15 : Dq cX0_become 15 (.aload_n 1) 1 16 := ⟨by decide +kernel, rfl⟩
theorem qX0_become_16 : Dq cX0_become 16 (.getfield 15) 3 19 := ⟨by decide +kernel, rfl⟩
theorem qX0_become_19 : Dq cX0_become 19 (.iconst 0) 1 20 := ⟨by decide +kernel, rfl⟩
theorem qX0_become_20 : Dq cX0_become 20 (.aload_n 0) 1 21 := ⟨by decide +kernel, rfl⟩
theorem qX0_become_21 : Dq cX0_become 21 (.getfield 15) 3 24 := ⟨by decide +kernel, rfl⟩
theorem qX0_become_24 : Dq cX0_become 24 (.iconst 0) 1 25 := ⟨by decide +kernel, rfl⟩
theorem qX0_become_25 : Dq cX0_become 25 (.bipush 48) 2 27 := ⟨by decide +kernel, rfl⟩
theorem qX0_become_27 : Dq cX0_become 27 (.invokestatic 22) 3 30 := ⟨by decide +kernel, rfl⟩
theorem qX0_become_30 : Dq cX0_become 30 (.aload_n 0) 1 31 := ⟨by decide +kernel, rfl⟩
theorem qX0_become_31 : Dq cX0_become 31 (.aload_n 1) 1 32 := ⟨by decide +kernel, rfl⟩
theorem qX0_become_32 : Dq cX0_become 32 (.getfield 28) 3 35 := ⟨by decide +kernel, rfl⟩
theorem qX0_become_35 : Dq cX0_become 35 (.putfield 28) 3 38 := ⟨by decide +kernel, rfl⟩
theorem qX0_become_38 : Dq cX0_become 38 (.aload_n 0) 1 39 := ⟨by decide +kernel, rfl⟩
theorem qX0_become_39 : Dq cX0_become 39 (.aload_n 1) 1 40 := ⟨by decide +kernel, rfl⟩
theorem qX0_become_40 : Dq cX0_become 40 (.getfield 18) 3 43 := ⟨by decide +kernel, rfl⟩
theorem qX0_become_43 : Dq cX0_become 43 (.putfield 18) 3 46 := ⟨by decide +kernel, rfl⟩
theorem qX0_become_46 : Dq cX0_become 46 (.aload_n 0) 1 47 := ⟨by decide +kernel, rfl⟩
theorem qX0_become_47 : Dq cX0_become 47 (.aload_n 1) 1 48 := ⟨by decide +kernel, rfl⟩
theorem qX0_become_48 : Dq cX0_become 48 (.getfield 31) 3 51 := ⟨by decide +kernel, rfl⟩
theorem qX0_become_51 : Dq cX0_become 51 (.putfield 31) 3 54 := ⟨by decide +kernel, rfl⟩
theorem qX0_become_54 : Dq cX0_become 54 (.aload_n 0) 1 55 := ⟨by decide +kernel, rfl⟩
theorem qX0_become_55 : Dq cX0_become 55 (.aload_n 1) 1 56 := ⟨by decide +kernel, rfl⟩
theorem qX0_become_56 : Dq cX0_become 56 (.getfield 34) 3 59 := ⟨by decide +kernel, rfl⟩
theorem qX0_become_59 : Dq cX0_become 59 (.putfield 34) 3 62 := ⟨by decide +kernel, rfl⟩
theorem qX0_become_62 : Dq cX0_become 62 (.return_) 1 63 := ⟨by decide +kernel, rfl⟩
set_option maxRecDepth 100000 in
set_option maxHeartbeats 4000000 in
theorem c_become {G : Glb} {h : AHp} (hs : ShC h) {B D : Nat} (hB : isB B) (hD : isB D) (hBD : B ≠ D) : CP G m_X0_become 2 0 0 [.ref B, .ref D] h (fun r h' => r = none ∧ ∃ σ, h' = (σ, h.2) ∧ asBeach h B D σ) := by
  suffices key : ∀ P : Option Value → AHp → Prop, (∀ r h', (r = none ∧ ∃ σ, h' = (σ, h.2) ∧ asBeach h B D σ) → P r h') → CP G m_X0_become 2 0 0 [.ref B, .ref D] h P from key _ (fun _ _ z => z)
  intro P hP
  refine CP.of (by decide +kernel) (Nat.le_of_ble_eq_true rfl) fun X hX hR hnm => ?_
  show V X G 2 0 0 _ 0 [some (.ref B), some (.ref D)] [] h
  refine v_aload_n hX rfl qX0_become_0 ?_
  refine v_getR hX g_X0_9 (hs.bk hD) (hs.bo hD) qX0_become_1 ?_
  refine v_iconst hX li_0 qX0_become_4 ?_
  refine v_aload_n hX rfl qX0_become_5 ?_
  refine v_getR hX g_X0_9 (hs.bk hB) (hs.bo hB) qX0_become_6 ?_
  refine v_iconst hX li_0 qX0_become_9 ?_
  refine v_bipush hX lb_48 qX0_become_10 ?_
  refine v_acopy hX hR (Nat.le_of_ble_eq_true rfl) k_X0_22 (hs.bok hD) (hs.bok hB) (hs.bol hD) (hs.bol hB) ?_ ?_ ?_ ?_ ?_ (Nat.le_of_ble_eq_true rfl) qX0_become_12 ?_
  · decide
  · decide
  · decide
  · exact Nat.le_of_ble_eq_true rfl
  · exact Nat.le_of_ble_eq_true rfl
  refine v_aload_n hX rfl qX0_become_15 ?_
  refine v_getR hX g_X0_15 (hs.bk hD) (hs.bt hD) qX0_become_16 ?_
  refine v_iconst hX li_0 qX0_become_19 ?_
  refine v_aload_n hX rfl qX0_become_20 ?_
  refine v_getR hX g_X0_15 (hs.bk hB) (hs.bt hB) qX0_become_21 ?_
  refine v_iconst hX li_0 qX0_become_24 ?_
  refine v_bipush hX lb_48 qX0_become_25 ?_
  refine v_acopy hX hR (Nat.le_of_ble_eq_true rfl) k_X0_22 (hs.btk hD) (hs.btk hB) (hs.btl hD) (hs.btl hB) ?_ ?_ ?_ ?_ ?_ (Nat.le_of_ble_eq_true rfl) qX0_become_27 ?_
  · decide
  · decide
  · decide
  · exact Nat.le_of_ble_eq_true rfl
  · exact Nat.le_of_ble_eq_true rfl
  refine v_aload_n hX rfl qX0_become_30 ?_
  refine v_aload_n hX rfl qX0_become_31 ?_
  refine v_getI hX g_X0_28 (Or.inl rfl) (hs.bk hD) qX0_become_32 ?_
  refine v_putI hX p_X0_28 (hs.bk hB) (Or.inl rfl) qX0_become_35 ?_
  refine v_aload_n hX rfl qX0_become_38 ?_
  refine v_aload_n hX rfl qX0_become_39 ?_
  refine v_getI hX g_X0_18 (Or.inl rfl) (hs.bk hD) qX0_become_40 ?_
  refine v_putI hX p_X0_18 (hs.bk hB) (Or.inl rfl) qX0_become_43 ?_
  refine v_aload_n hX rfl qX0_become_46 ?_
  refine v_aload_n hX rfl qX0_become_47 ?_
  refine v_getI hX g_X0_31 (Or.inl rfl) (hs.bk hD) qX0_become_48 ?_
  refine v_putI hX p_X0_31 (hs.bk hB) (Or.inl rfl) qX0_become_51 ?_
  refine v_aload_n hX rfl qX0_become_54 ?_
  refine v_aload_n hX rfl qX0_become_55 ?_
  refine v_getI hX g_X0_34 (Or.inl rfl) (hs.bk hD) qX0_become_56 ?_
  refine v_putI hX p_X0_34 (hs.bk hB) (Or.inl rfl) qX0_become_59 ?_
  refine v_return hX qX0_become_62 (hP _ _ ?_)
  refine ⟨rfl, _, rfl, fun k hk => ?_, fun k hk => ?_, fun k hk hk2 => ?_, fun a h1 h2 h3 => ?_⟩
  · show hpI (stI _ _ _ _) _ _ = _
    rcases hB with rfl | rfl | rfl <;> rcases hD with rfl | rfl | rfl <;> first | exact absurd rfl hBD | (simp [hpI_st, hpI_stC]; intro z; exact absurd z (Nat.not_le.mpr hk))
  · show hpI (stI _ _ _ _) _ _ = _
    rcases hB with rfl | rfl | rfl <;> rcases hD with rfl | rfl | rfl <;> first | exact absurd rfl hBD | (simp [hpI_st, hpI_stC]; intro z; exact absurd z (Nat.not_le.mpr hk))
  · show hpI (stI _ _ _ _) _ _ = _
    have hk3 : k = 2 ∨ k = 3 ∨ k = 4 ∨ k = 5 := by omega
    rcases hk3 with rfl | rfl | rfl | rfl <;> rcases hB with rfl | rfl | rfl <;> rcases hD with rfl | rfl | rfl <;> first | exact absurd rfl hBD | simp [hpI_st, hpI_stC]
  · funext k
    show hpI (stI _ _ _ _) _ _ = _
    simp [hpI_st, hpI_stC, h1, h2, h3]
/-- the class of a kind -/
def kcl (k : Nat) : Nat := match k with
  | 0 => 1
  | 1 => 2
  | 2 => 7
  | 3 => 4
  | 4 => 8
  | _ => 3
def fdR (k : Nat) (n d s : Int32) : Int32 := match k with
  | 0 => s - 20 * d
  | 1 => 60 + n - 6 * d
  | 2 => 60 + n - 6 * d + 30
  | 3 => 70 - 2 * d
  | 4 => (60 + n - 6 * d) / 2 + 5 * d
  | _ => 70 - 2 * d - 3 * n
def tkR (k : Nat) (n : Int32) : Int32 := match k with
  | 0 => 2
  | 1 => 6
  | 2 => 6 + n
  | 3 => 3
  | 4 => 12
  | _ => 3 + n
def smR (k : Nat) (n : Int32) : Int32 := match k with
  | 0 => 2
  | 1 => 1
  | 2 => 0
  | 3 => 2
  | 4 => 1
  | _ => 2 + n
theorem qX1_finds_0 : Dq cX1_finds 0 (.iload_n 2) 1 1 := ⟨by decide +kernel, rfl⟩
theorem qX1_finds_1 : Dq cX1_finds 1 (.bipush 20) 2 3 := ⟨by decide +kernel, rfl⟩
theorem qX1_finds_3 : Dq cX1_finds 3 (.iload_n 1) 1 4 := ⟨by decide +kernel, rfl⟩
theorem qX1_finds_4 : Dq cX1_finds 4 (.imul) 1 5 := ⟨by decide +kernel, rfl⟩
theorem qX1_finds_5 : Dq cX1_finds 5 (.isub) 1 6 := ⟨by decide +kernel, rfl⟩
theorem qX1_finds_6 : Dq cX1_finds 6 (.ireturn) 1 7 := ⟨by decide +kernel, rfl⟩
set_option maxRecDepth 100000 in
set_option maxHeartbeats 4000000 in
theorem c_X1_finds_1 {G : Glb} {h : AHp} {a : Nat} (hk : Kd h a 1) (d s : Int32) : CP G m_X1_finds 1 0 0 [.ref a, .int d, .int s] h (fun r h' => r = some (.int (s - 20 * d)) ∧ h = h') := by
  suffices key : ∀ P : Option Value → AHp → Prop, (∀ r h', (r = some (.int (s - 20 * d)) ∧ h = h') → P r h') → CP G m_X1_finds 1 0 0 [.ref a, .int d, .int s] h P from key _ (fun _ _ z => z)
  intro P hP
  refine CP.of (by decide +kernel) (Nat.le_of_ble_eq_true rfl) fun X hX hR hnm => ?_
  show V X G 3 0 0 _ 0 [some (.ref a), some (.int d), some (.int s)] [] h
  refine v_iload_n hX rfl qX1_finds_0 ?_
  refine v_bipush hX lb_20 qX1_finds_1 ?_
  refine v_iload_n hX rfl qX1_finds_3 ?_
  refine v_imul hX qX1_finds_4 ?_
  refine v_isub hX qX1_finds_5 ?_
  refine v_ireturn hX qX1_finds_6 (hP _ _ ?_)
  exact ⟨rfl, rfl⟩
theorem qX2_finds_0 : Dq cX2_finds 0 (.bipush 60) 2 2 := ⟨by decide +kernel, rfl⟩
theorem qX2_finds_2 : Dq cX2_finds 2 (.aload_n 0) 1 3 := ⟨by decide +kernel, rfl⟩
theorem qX2_finds_3 : Dq cX2_finds 3 (.getfield 7) 3 6 := ⟨by decide +kernel, rfl⟩
theorem qX2_finds_6 : Dq cX2_finds 6 (.iadd) 1 7 := ⟨by decide +kernel, rfl⟩
theorem qX2_finds_7 : Dq cX2_finds 7 (.bipush 6) 2 9 := ⟨by decide +kernel, rfl⟩
theorem qX2_finds_9 : Dq cX2_finds 9 (.iload_n 1) 1 10 := ⟨by decide +kernel, rfl⟩
theorem qX2_finds_10 : Dq cX2_finds 10 (.imul) 1 11 := ⟨by decide +kernel, rfl⟩
theorem qX2_finds_11 : Dq cX2_finds 11 (.isub) 1 12 := ⟨by decide +kernel, rfl⟩
theorem qX2_finds_12 : Dq cX2_finds 12 (.ireturn) 1 13 := ⟨by decide +kernel, rfl⟩
set_option maxRecDepth 100000 in
set_option maxHeartbeats 4000000 in
theorem c_X2_finds_2 {G : Glb} {h : AHp} {a : Nat} (hk : Kd h a 2) (d s : Int32) : CP G m_X2_finds 1 0 0 [.ref a, .int d, .int s] h (fun r h' => r = some (.int (60 + hpI h a 0 - 6 * d)) ∧ h = h') := by
  suffices key : ∀ P : Option Value → AHp → Prop, (∀ r h', (r = some (.int (60 + hpI h a 0 - 6 * d)) ∧ h = h') → P r h') → CP G m_X2_finds 1 0 0 [.ref a, .int d, .int s] h P from key _ (fun _ _ z => z)
  intro P hP
  refine CP.of (by decide +kernel) (Nat.le_of_ble_eq_true rfl) fun X hX hR hnm => ?_
  show V X G 3 0 0 _ 0 [some (.ref a), some (.int d), some (.int s)] [] h
  refine v_bipush hX lb_60 qX2_finds_0 ?_
  refine v_aload_n hX rfl qX2_finds_2 ?_
  refine v_getI hX g_X2_7_2 (Or.inl rfl) hk qX2_finds_3 ?_
  refine v_iadd hX qX2_finds_6 ?_
  refine v_bipush hX lb_6 qX2_finds_7 ?_
  refine v_iload_n hX rfl qX2_finds_9 ?_
  refine v_imul hX qX2_finds_10 ?_
  refine v_isub hX qX2_finds_11 ?_
  refine v_ireturn hX qX2_finds_12 (hP _ _ ?_)
  exact ⟨rfl, rfl⟩
set_option maxRecDepth 100000 in
set_option maxHeartbeats 4000000 in
theorem c_X2_finds_7 {G : Glb} {h : AHp} {a : Nat} (hk : Kd h a 7) (d s : Int32) : CP G m_X2_finds 1 0 0 [.ref a, .int d, .int s] h (fun r h' => r = some (.int (60 + hpI h a 0 - 6 * d)) ∧ h = h') := by
  suffices key : ∀ P : Option Value → AHp → Prop, (∀ r h', (r = some (.int (60 + hpI h a 0 - 6 * d)) ∧ h = h') → P r h') → CP G m_X2_finds 1 0 0 [.ref a, .int d, .int s] h P from key _ (fun _ _ z => z)
  intro P hP
  refine CP.of (by decide +kernel) (Nat.le_of_ble_eq_true rfl) fun X hX hR hnm => ?_
  show V X G 3 0 0 _ 0 [some (.ref a), some (.int d), some (.int s)] [] h
  refine v_bipush hX lb_60 qX2_finds_0 ?_
  refine v_aload_n hX rfl qX2_finds_2 ?_
  refine v_getI hX g_X2_7_7 (Or.inl rfl) hk qX2_finds_3 ?_
  refine v_iadd hX qX2_finds_6 ?_
  refine v_bipush hX lb_6 qX2_finds_7 ?_
  refine v_iload_n hX rfl qX2_finds_9 ?_
  refine v_imul hX qX2_finds_10 ?_
  refine v_isub hX qX2_finds_11 ?_
  refine v_ireturn hX qX2_finds_12 (hP _ _ ?_)
  exact ⟨rfl, rfl⟩
set_option maxRecDepth 100000 in
set_option maxHeartbeats 4000000 in
theorem c_X2_finds_8 {G : Glb} {h : AHp} {a : Nat} (hk : Kd h a 8) (d s : Int32) : CP G m_X2_finds 1 0 0 [.ref a, .int d, .int s] h (fun r h' => r = some (.int (60 + hpI h a 0 - 6 * d)) ∧ h = h') := by
  suffices key : ∀ P : Option Value → AHp → Prop, (∀ r h', (r = some (.int (60 + hpI h a 0 - 6 * d)) ∧ h = h') → P r h') → CP G m_X2_finds 1 0 0 [.ref a, .int d, .int s] h P from key _ (fun _ _ z => z)
  intro P hP
  refine CP.of (by decide +kernel) (Nat.le_of_ble_eq_true rfl) fun X hX hR hnm => ?_
  show V X G 3 0 0 _ 0 [some (.ref a), some (.int d), some (.int s)] [] h
  refine v_bipush hX lb_60 qX2_finds_0 ?_
  refine v_aload_n hX rfl qX2_finds_2 ?_
  refine v_getI hX g_X2_7_8 (Or.inl rfl) hk qX2_finds_3 ?_
  refine v_iadd hX qX2_finds_6 ?_
  refine v_bipush hX lb_6 qX2_finds_7 ?_
  refine v_iload_n hX rfl qX2_finds_9 ?_
  refine v_imul hX qX2_finds_10 ?_
  refine v_isub hX qX2_finds_11 ?_
  refine v_ireturn hX qX2_finds_12 (hP _ _ ?_)
  exact ⟨rfl, rfl⟩
theorem qX4_finds_0 : Dq cX4_finds 0 (.bipush 70) 2 2 := ⟨by decide +kernel, rfl⟩
theorem qX4_finds_2 : Dq cX4_finds 2 (.iconst 2) 1 3 := ⟨by decide +kernel, rfl⟩
theorem qX4_finds_3 : Dq cX4_finds 3 (.iload_n 1) 1 4 := ⟨by decide +kernel, rfl⟩
theorem qX4_finds_4 : Dq cX4_finds 4 (.imul) 1 5 := ⟨by decide +kernel, rfl⟩
theorem qX4_finds_5 : Dq cX4_finds 5 (.isub) 1 6 := ⟨by decide +kernel, rfl⟩
theorem qX4_finds_6 : Dq cX4_finds 6 (.ireturn) 1 7 := ⟨by decide +kernel, rfl⟩
set_option maxRecDepth 100000 in
set_option maxHeartbeats 4000000 in
theorem c_X4_finds_4 {G : Glb} {h : AHp} {a : Nat} (hk : Kd h a 4) (d s : Int32) : CP G m_X4_finds 1 0 0 [.ref a, .int d, .int s] h (fun r h' => r = some (.int (70 - 2 * d)) ∧ h = h') := by
  suffices key : ∀ P : Option Value → AHp → Prop, (∀ r h', (r = some (.int (70 - 2 * d)) ∧ h = h') → P r h') → CP G m_X4_finds 1 0 0 [.ref a, .int d, .int s] h P from key _ (fun _ _ z => z)
  intro P hP
  refine CP.of (by decide +kernel) (Nat.le_of_ble_eq_true rfl) fun X hX hR hnm => ?_
  show V X G 3 0 0 _ 0 [some (.ref a), some (.int d), some (.int s)] [] h
  refine v_bipush hX lb_70 qX4_finds_0 ?_
  refine v_iconst hX li_2 qX4_finds_2 ?_
  refine v_iload_n hX rfl qX4_finds_3 ?_
  refine v_imul hX qX4_finds_4 ?_
  refine v_isub hX qX4_finds_5 ?_
  refine v_ireturn hX qX4_finds_6 (hP _ _ ?_)
  exact ⟨rfl, rfl⟩
set_option maxRecDepth 100000 in
set_option maxHeartbeats 4000000 in
theorem c_X4_finds_3 {G : Glb} {h : AHp} {a : Nat} (hk : Kd h a 3) (d s : Int32) : CP G m_X4_finds 1 0 0 [.ref a, .int d, .int s] h (fun r h' => r = some (.int (70 - 2 * d)) ∧ h = h') := by
  suffices key : ∀ P : Option Value → AHp → Prop, (∀ r h', (r = some (.int (70 - 2 * d)) ∧ h = h') → P r h') → CP G m_X4_finds 1 0 0 [.ref a, .int d, .int s] h P from key _ (fun _ _ z => z)
  intro P hP
  refine CP.of (by decide +kernel) (Nat.le_of_ble_eq_true rfl) fun X hX hR hnm => ?_
  show V X G 3 0 0 _ 0 [some (.ref a), some (.int d), some (.int s)] [] h
  refine v_bipush hX lb_70 qX4_finds_0 ?_
  refine v_iconst hX li_2 qX4_finds_2 ?_
  refine v_iload_n hX rfl qX4_finds_3 ?_
  refine v_imul hX qX4_finds_4 ?_
  refine v_isub hX qX4_finds_5 ?_
  refine v_ireturn hX qX4_finds_6 (hP _ _ ?_)
  exact ⟨rfl, rfl⟩
theorem qX7_finds_0 : Dq cX7_finds 0 (.aload_n 0) 1 1 := ⟨by decide +kernel, rfl⟩
theorem qX7_finds_1 : Dq cX7_finds 1 (.iload_n 1) 1 2 := ⟨by decide +kernel, rfl⟩
theorem qX7_finds_2 : Dq cX7_finds 2 (.iload_n 2) 1 3 := ⟨by decide +kernel, rfl⟩
theorem qX7_finds_3 : Dq cX7_finds 3 (.invokespecial 7) 3 6 := ⟨by decide +kernel, rfl⟩
theorem qX7_finds_6 : Dq cX7_finds 6 (.bipush 30) 2 8 := ⟨by decide +kernel, rfl⟩
theorem qX7_finds_8 : Dq cX7_finds 8 (.iadd) 1 9 := ⟨by decide +kernel, rfl⟩
theorem qX7_finds_9 : Dq cX7_finds 9 (.ireturn) 1 10 := ⟨by decide +kernel, rfl⟩
set_option maxRecDepth 100000 in
set_option maxHeartbeats 4000000 in
theorem c_X7_finds_7 {G : Glb} {h : AHp} {a : Nat} (hk : Kd h a 7) (d s : Int32) : CP G m_X7_finds 2 0 0 [.ref a, .int d, .int s] h (fun r h' => r = some (.int (60 + hpI h a 0 - 6 * d + 30)) ∧ h = h') := by
  suffices key : ∀ P : Option Value → AHp → Prop, (∀ r h', (r = some (.int (60 + hpI h a 0 - 6 * d + 30)) ∧ h = h') → P r h') → CP G m_X7_finds 2 0 0 [.ref a, .int d, .int s] h P from key _ (fun _ _ z => z)
  intro P hP
  refine CP.of (by decide +kernel) (Nat.le_of_ble_eq_true rfl) fun X hX hR hnm => ?_
  show V X G 3 0 0 _ 0 [some (.ref a), some (.int d), some (.int s)] [] h
  refine v_aload_n hX rfl qX7_finds_0 ?_
  refine v_iload_n hX rfl qX7_finds_1 ?_
  refine v_iload_n hX rfl qX7_finds_2 ?_
  refine v_callPq hX hR k_X7_7_7 hk (c_X2_finds_7 hk _ _) rfl (Nat.le_of_ble_eq_true rfl) rfl (Nat.le_of_ble_eq_true rfl) ⟨Nat.le_of_ble_eq_true rfl, Nat.le_of_ble_eq_true rfl⟩ qX7_finds_3 ?_
  rintro _ _ ⟨rfl, rfl⟩
  refine v_bipush hX lb_30 qX7_finds_6 ?_
  refine v_iadd hX qX7_finds_8 ?_
  refine v_ireturn hX qX7_finds_9 (hP _ _ ?_)
  exact ⟨rfl, rfl⟩
theorem qX8_finds_0 : Dq cX8_finds 0 (.aload_n 0) 1 1 := ⟨by decide +kernel, rfl⟩
theorem qX8_finds_1 : Dq cX8_finds 1 (.iload_n 1) 1 2 := ⟨by decide +kernel, rfl⟩
theorem qX8_finds_2 : Dq cX8_finds 2 (.iload_n 2) 1 3 := ⟨by decide +kernel, rfl⟩
theorem qX8_finds_3 : Dq cX8_finds 3 (.invokespecial 7) 3 6 := ⟨by decide +kernel, rfl⟩
theorem qX8_finds_6 : Dq cX8_finds 6 (.iconst 2) 1 7 := ⟨by decide +kernel, rfl⟩
theorem qX8_finds_7 : Dq cX8_finds 7 (.idiv) 1 8 := ⟨by decide +kernel, rfl⟩
theorem qX8_finds_8 : Dq cX8_finds 8 (.iconst 5) 1 9 := ⟨by decide +kernel, rfl⟩
theorem qX8_finds_9 : Dq cX8_finds 9 (.iload_n 1) 1 10 := ⟨by decide +kernel, rfl⟩
theorem qX8_finds_10 : Dq cX8_finds 10 (.imul) 1 11 := ⟨by decide +kernel, rfl⟩
theorem qX8_finds_11 : Dq cX8_finds 11 (.iadd) 1 12 := ⟨by decide +kernel, rfl⟩
theorem qX8_finds_12 : Dq cX8_finds 12 (.ireturn) 1 13 := ⟨by decide +kernel, rfl⟩
set_option maxRecDepth 100000 in
set_option maxHeartbeats 4000000 in
theorem c_X8_finds_8 {G : Glb} {h : AHp} {a : Nat} (hk : Kd h a 8) (d s : Int32) : CP G m_X8_finds 2 0 0 [.ref a, .int d, .int s] h (fun r h' => r = some (.int ((60 + hpI h a 0 - 6 * d) / 2 + 5 * d)) ∧ h = h') := by
  suffices key : ∀ P : Option Value → AHp → Prop, (∀ r h', (r = some (.int ((60 + hpI h a 0 - 6 * d) / 2 + 5 * d)) ∧ h = h') → P r h') → CP G m_X8_finds 2 0 0 [.ref a, .int d, .int s] h P from key _ (fun _ _ z => z)
  intro P hP
  refine CP.of (by decide +kernel) (Nat.le_of_ble_eq_true rfl) fun X hX hR hnm => ?_
  show V X G 3 0 0 _ 0 [some (.ref a), some (.int d), some (.int s)] [] h
  refine v_aload_n hX rfl qX8_finds_0 ?_
  refine v_iload_n hX rfl qX8_finds_1 ?_
  refine v_iload_n hX rfl qX8_finds_2 ?_
  refine v_callPq hX hR k_X8_7_8 hk (c_X2_finds_8 hk _ _) rfl (Nat.le_of_ble_eq_true rfl) rfl (Nat.le_of_ble_eq_true rfl) ⟨Nat.le_of_ble_eq_true rfl, Nat.le_of_ble_eq_true rfl⟩ qX8_finds_3 ?_
  rintro _ _ ⟨rfl, rfl⟩
  refine v_iconst hX li_2 qX8_finds_6 ?_
  refine v_idiv hX (by decide) qX8_finds_7 ?_
  refine v_iconst hX li_5 qX8_finds_8 ?_
  refine v_iload_n hX rfl qX8_finds_9 ?_
  refine v_imul hX qX8_finds_10 ?_
  refine v_iadd hX qX8_finds_11 ?_
  refine v_ireturn hX qX8_finds_12 (hP _ _ ?_)
  exact ⟨rfl, rfl⟩
theorem qX3_finds_0 : Dq cX3_finds 0 (.aload_n 0) 1 1 := ⟨by decide +kernel, rfl⟩
theorem qX3_finds_1 : Dq cX3_finds 1 (.iload_n 1) 1 2 := ⟨by decide +kernel, rfl⟩
theorem qX3_finds_2 : Dq cX3_finds 2 (.iload_n 2) 1 3 := ⟨by decide +kernel, rfl⟩
theorem qX3_finds_3 : Dq cX3_finds 3 (.invokespecial 7) 3 6 := ⟨by decide +kernel, rfl⟩
theorem qX3_finds_6 : Dq cX3_finds 6 (.iconst 3) 1 7 := ⟨by decide +kernel, rfl⟩
theorem qX3_finds_7 : Dq cX3_finds 7 (.aload_n 0) 1 8 := ⟨by decide +kernel, rfl⟩
theorem qX3_finds_8 : Dq cX3_finds 8 (.getfield 11) 3 11 := ⟨by decide +kernel, rfl⟩
theorem qX3_finds_11 : Dq cX3_finds 11 (.imul) 1 12 := ⟨by decide +kernel, rfl⟩
theorem qX3_finds_12 : Dq cX3_finds 12 (.isub) 1 13 := ⟨by decide +kernel, rfl⟩
theorem qX3_finds_13 : Dq cX3_finds 13 (.ireturn) 1 14 := ⟨by decide +kernel, rfl⟩
set_option maxRecDepth 100000 in
set_option maxHeartbeats 4000000 in
theorem c_X3_finds_3 {G : Glb} {h : AHp} {a : Nat} (hk : Kd h a 3) (d s : Int32) : CP G m_X3_finds 2 0 0 [.ref a, .int d, .int s] h (fun r h' => r = some (.int (70 - 2 * d - 3 * hpI h a 0)) ∧ h = h') := by
  suffices key : ∀ P : Option Value → AHp → Prop, (∀ r h', (r = some (.int (70 - 2 * d - 3 * hpI h a 0)) ∧ h = h') → P r h') → CP G m_X3_finds 2 0 0 [.ref a, .int d, .int s] h P from key _ (fun _ _ z => z)
  intro P hP
  refine CP.of (by decide +kernel) (Nat.le_of_ble_eq_true rfl) fun X hX hR hnm => ?_
  show V X G 3 0 0 _ 0 [some (.ref a), some (.int d), some (.int s)] [] h
  refine v_aload_n hX rfl qX3_finds_0 ?_
  refine v_iload_n hX rfl qX3_finds_1 ?_
  refine v_iload_n hX rfl qX3_finds_2 ?_
  refine v_callPq hX hR k_X3_7_3 hk (c_X4_finds_3 hk _ _) rfl (Nat.le_of_ble_eq_true rfl) rfl (Nat.le_of_ble_eq_true rfl) ⟨Nat.le_of_ble_eq_true rfl, Nat.le_of_ble_eq_true rfl⟩ qX3_finds_3 ?_
  rintro _ _ ⟨rfl, rfl⟩
  refine v_iconst hX li_3 qX3_finds_6 ?_
  refine v_aload_n hX rfl qX3_finds_7 ?_
  refine v_getI hX g_X3_11 (Or.inl rfl) hk qX3_finds_8 ?_
  refine v_imul hX qX3_finds_11 ?_
  refine v_isub hX qX3_finds_12 ?_
  refine v_ireturn hX qX3_finds_13 (hP _ _ ?_)
  exact ⟨rfl, rfl⟩
theorem qX1_takes_0 : Dq cX1_takes 0 (.iconst 2) 1 1 := ⟨by decide +kernel, rfl⟩
theorem qX1_takes_1 : Dq cX1_takes 1 (.ireturn) 1 2 := ⟨by decide +kernel, rfl⟩
set_option maxRecDepth 100000 in
set_option maxHeartbeats 4000000 in
theorem c_X1_takes_1 {G : Glb} {h : AHp} {a : Nat} (hk : Kd h a 1)  : CP G m_X1_takes 1 0 0 [.ref a] h (fun r h' => r = some (.int (2)) ∧ h = h') := by
  suffices key : ∀ P : Option Value → AHp → Prop, (∀ r h', (r = some (.int (2)) ∧ h = h') → P r h') → CP G m_X1_takes 1 0 0 [.ref a] h P from key _ (fun _ _ z => z)
  intro P hP
  refine CP.of (by decide +kernel) (Nat.le_of_ble_eq_true rfl) fun X hX hR hnm => ?_
  show V X G 1 0 0 _ 0 [some (.ref a)] [] h
  refine v_iconst hX li_2 qX1_takes_0 ?_
  refine v_ireturn hX qX1_takes_1 (hP _ _ ?_)
  exact ⟨rfl, rfl⟩
set_option maxRecDepth 100000 in
set_option maxHeartbeats 4000000 in
theorem c_X1_takes_2 {G : Glb} {h : AHp} {a : Nat} (hk : Kd h a 2)  : CP G m_X1_takes 1 0 0 [.ref a] h (fun r h' => r = some (.int (2)) ∧ h = h') := by
  suffices key : ∀ P : Option Value → AHp → Prop, (∀ r h', (r = some (.int (2)) ∧ h = h') → P r h') → CP G m_X1_takes 1 0 0 [.ref a] h P from key _ (fun _ _ z => z)
  intro P hP
  refine CP.of (by decide +kernel) (Nat.le_of_ble_eq_true rfl) fun X hX hR hnm => ?_
  show V X G 1 0 0 _ 0 [some (.ref a)] [] h
  refine v_iconst hX li_2 qX1_takes_0 ?_
  refine v_ireturn hX qX1_takes_1 (hP _ _ ?_)
  exact ⟨rfl, rfl⟩
set_option maxRecDepth 100000 in
set_option maxHeartbeats 4000000 in
theorem c_X1_takes_7 {G : Glb} {h : AHp} {a : Nat} (hk : Kd h a 7)  : CP G m_X1_takes 1 0 0 [.ref a] h (fun r h' => r = some (.int (2)) ∧ h = h') := by
  suffices key : ∀ P : Option Value → AHp → Prop, (∀ r h', (r = some (.int (2)) ∧ h = h') → P r h') → CP G m_X1_takes 1 0 0 [.ref a] h P from key _ (fun _ _ z => z)
  intro P hP
  refine CP.of (by decide +kernel) (Nat.le_of_ble_eq_true rfl) fun X hX hR hnm => ?_
  show V X G 1 0 0 _ 0 [some (.ref a)] [] h
  refine v_iconst hX li_2 qX1_takes_0 ?_
  refine v_ireturn hX qX1_takes_1 (hP _ _ ?_)
  exact ⟨rfl, rfl⟩
set_option maxRecDepth 100000 in
set_option maxHeartbeats 4000000 in
theorem c_X1_takes_8 {G : Glb} {h : AHp} {a : Nat} (hk : Kd h a 8)  : CP G m_X1_takes 1 0 0 [.ref a] h (fun r h' => r = some (.int (2)) ∧ h = h') := by
  suffices key : ∀ P : Option Value → AHp → Prop, (∀ r h', (r = some (.int (2)) ∧ h = h') → P r h') → CP G m_X1_takes 1 0 0 [.ref a] h P from key _ (fun _ _ z => z)
  intro P hP
  refine CP.of (by decide +kernel) (Nat.le_of_ble_eq_true rfl) fun X hX hR hnm => ?_
  show V X G 1 0 0 _ 0 [some (.ref a)] [] h
  refine v_iconst hX li_2 qX1_takes_0 ?_
  refine v_ireturn hX qX1_takes_1 (hP _ _ ?_)
  exact ⟨rfl, rfl⟩
set_option maxRecDepth 100000 in
set_option maxHeartbeats 4000000 in
theorem c_X1_takes_4 {G : Glb} {h : AHp} {a : Nat} (hk : Kd h a 4)  : CP G m_X1_takes 1 0 0 [.ref a] h (fun r h' => r = some (.int (2)) ∧ h = h') := by
  suffices key : ∀ P : Option Value → AHp → Prop, (∀ r h', (r = some (.int (2)) ∧ h = h') → P r h') → CP G m_X1_takes 1 0 0 [.ref a] h P from key _ (fun _ _ z => z)
  intro P hP
  refine CP.of (by decide +kernel) (Nat.le_of_ble_eq_true rfl) fun X hX hR hnm => ?_
  show V X G 1 0 0 _ 0 [some (.ref a)] [] h
  refine v_iconst hX li_2 qX1_takes_0 ?_
  refine v_ireturn hX qX1_takes_1 (hP _ _ ?_)
  exact ⟨rfl, rfl⟩
set_option maxRecDepth 100000 in
set_option maxHeartbeats 4000000 in
theorem c_X1_takes_3 {G : Glb} {h : AHp} {a : Nat} (hk : Kd h a 3)  : CP G m_X1_takes 1 0 0 [.ref a] h (fun r h' => r = some (.int (2)) ∧ h = h') := by
  suffices key : ∀ P : Option Value → AHp → Prop, (∀ r h', (r = some (.int (2)) ∧ h = h') → P r h') → CP G m_X1_takes 1 0 0 [.ref a] h P from key _ (fun _ _ z => z)
  intro P hP
  refine CP.of (by decide +kernel) (Nat.le_of_ble_eq_true rfl) fun X hX hR hnm => ?_
  show V X G 1 0 0 _ 0 [some (.ref a)] [] h
  refine v_iconst hX li_2 qX1_takes_0 ?_
  refine v_ireturn hX qX1_takes_1 (hP _ _ ?_)
  exact ⟨rfl, rfl⟩
theorem qX2_takes_0 : Dq cX2_takes 0 (.aload_n 0) 1 1 := ⟨by decide +kernel, rfl⟩
theorem qX2_takes_1 : Dq cX2_takes 1 (.invokespecial 13) 3 4 := ⟨by decide +kernel, rfl⟩
theorem qX2_takes_4 : Dq cX2_takes 4 (.iconst 4) 1 5 := ⟨by decide +kernel, rfl⟩
theorem qX2_takes_5 : Dq cX2_takes 5 (.iadd) 1 6 := ⟨by decide +kernel, rfl⟩
theorem qX2_takes_6 : Dq cX2_takes 6 (.ireturn) 1 7 := ⟨by decide +kernel, rfl⟩
set_option maxRecDepth 100000 in
set_option maxHeartbeats 4000000 in
theorem c_X2_takes_2 {G : Glb} {h : AHp} {a : Nat} (hk : Kd h a 2)  : CP G m_X2_takes 2 0 0 [.ref a] h (fun r h' => r = some (.int (6)) ∧ h = h') := by
  suffices key : ∀ P : Option Value → AHp → Prop, (∀ r h', (r = some (.int (6)) ∧ h = h') → P r h') → CP G m_X2_takes 2 0 0 [.ref a] h P from key _ (fun _ _ z => z)
  intro P hP
  refine CP.of (by decide +kernel) (Nat.le_of_ble_eq_true rfl) fun X hX hR hnm => ?_
  show V X G 1 0 0 _ 0 [some (.ref a)] [] h
  refine v_aload_n hX rfl qX2_takes_0 ?_
  refine v_callPq hX hR k_X2_13_2 hk (c_X1_takes_2 hk) rfl (Nat.le_of_ble_eq_true rfl) rfl (Nat.le_of_ble_eq_true rfl) ⟨Nat.le_of_ble_eq_true rfl, Nat.le_of_ble_eq_true rfl⟩ qX2_takes_1 ?_
  rintro _ _ ⟨rfl, rfl⟩
  refine v_iconst hX li_4 qX2_takes_4 ?_
  refine v_iadd hX qX2_takes_5 ?_
  refine v_ireturn hX qX2_takes_6 (hP _ _ ?_)
  exact ⟨rfl, rfl⟩
set_option maxRecDepth 100000 in
set_option maxHeartbeats 4000000 in
theorem c_X2_takes_7 {G : Glb} {h : AHp} {a : Nat} (hk : Kd h a 7)  : CP G m_X2_takes 2 0 0 [.ref a] h (fun r h' => r = some (.int (6)) ∧ h = h') := by
  suffices key : ∀ P : Option Value → AHp → Prop, (∀ r h', (r = some (.int (6)) ∧ h = h') → P r h') → CP G m_X2_takes 2 0 0 [.ref a] h P from key _ (fun _ _ z => z)
  intro P hP
  refine CP.of (by decide +kernel) (Nat.le_of_ble_eq_true rfl) fun X hX hR hnm => ?_
  show V X G 1 0 0 _ 0 [some (.ref a)] [] h
  refine v_aload_n hX rfl qX2_takes_0 ?_
  refine v_callPq hX hR k_X2_13_7 hk (c_X1_takes_7 hk) rfl (Nat.le_of_ble_eq_true rfl) rfl (Nat.le_of_ble_eq_true rfl) ⟨Nat.le_of_ble_eq_true rfl, Nat.le_of_ble_eq_true rfl⟩ qX2_takes_1 ?_
  rintro _ _ ⟨rfl, rfl⟩
  refine v_iconst hX li_4 qX2_takes_4 ?_
  refine v_iadd hX qX2_takes_5 ?_
  refine v_ireturn hX qX2_takes_6 (hP _ _ ?_)
  exact ⟨rfl, rfl⟩
set_option maxRecDepth 100000 in
set_option maxHeartbeats 4000000 in
theorem c_X2_takes_8 {G : Glb} {h : AHp} {a : Nat} (hk : Kd h a 8)  : CP G m_X2_takes 2 0 0 [.ref a] h (fun r h' => r = some (.int (6)) ∧ h = h') := by
  suffices key : ∀ P : Option Value → AHp → Prop, (∀ r h', (r = some (.int (6)) ∧ h = h') → P r h') → CP G m_X2_takes 2 0 0 [.ref a] h P from key _ (fun _ _ z => z)
  intro P hP
  refine CP.of (by decide +kernel) (Nat.le_of_ble_eq_true rfl) fun X hX hR hnm => ?_
  show V X G 1 0 0 _ 0 [some (.ref a)] [] h
  refine v_aload_n hX rfl qX2_takes_0 ?_
  refine v_callPq hX hR k_X2_13_8 hk (c_X1_takes_8 hk) rfl (Nat.le_of_ble_eq_true rfl) rfl (Nat.le_of_ble_eq_true rfl) ⟨Nat.le_of_ble_eq_true rfl, Nat.le_of_ble_eq_true rfl⟩ qX2_takes_1 ?_
  rintro _ _ ⟨rfl, rfl⟩
  refine v_iconst hX li_4 qX2_takes_4 ?_
  refine v_iadd hX qX2_takes_5 ?_
  refine v_ireturn hX qX2_takes_6 (hP _ _ ?_)
  exact ⟨rfl, rfl⟩
theorem qX4_takes_0 : Dq cX4_takes 0 (.aload_n 0) 1 1 := ⟨by decide +kernel, rfl⟩
theorem qX4_takes_1 : Dq cX4_takes 1 (.invokespecial 7) 3 4 := ⟨by decide +kernel, rfl⟩
theorem qX4_takes_4 : Dq cX4_takes 4 (.iconst 1) 1 5 := ⟨by decide +kernel, rfl⟩
theorem qX4_takes_5 : Dq cX4_takes 5 (.iadd) 1 6 := ⟨by decide +kernel, rfl⟩
theorem qX4_takes_6 : Dq cX4_takes 6 (.ireturn) 1 7 := ⟨by decide +kernel, rfl⟩
set_option maxRecDepth 100000 in
set_option maxHeartbeats 4000000 in
theorem c_X4_takes_4 {G : Glb} {h : AHp} {a : Nat} (hk : Kd h a 4)  : CP G m_X4_takes 2 0 0 [.ref a] h (fun r h' => r = some (.int (3)) ∧ h = h') := by
  suffices key : ∀ P : Option Value → AHp → Prop, (∀ r h', (r = some (.int (3)) ∧ h = h') → P r h') → CP G m_X4_takes 2 0 0 [.ref a] h P from key _ (fun _ _ z => z)
  intro P hP
  refine CP.of (by decide +kernel) (Nat.le_of_ble_eq_true rfl) fun X hX hR hnm => ?_
  show V X G 1 0 0 _ 0 [some (.ref a)] [] h
  refine v_aload_n hX rfl qX4_takes_0 ?_
  refine v_callPq hX hR k_X4_7_4 hk (c_X1_takes_4 hk) rfl (Nat.le_of_ble_eq_true rfl) rfl (Nat.le_of_ble_eq_true rfl) ⟨Nat.le_of_ble_eq_true rfl, Nat.le_of_ble_eq_true rfl⟩ qX4_takes_1 ?_
  rintro _ _ ⟨rfl, rfl⟩
  refine v_iconst hX li_1 qX4_takes_4 ?_
  refine v_iadd hX qX4_takes_5 ?_
  refine v_ireturn hX qX4_takes_6 (hP _ _ ?_)
  exact ⟨rfl, rfl⟩
set_option maxRecDepth 100000 in
set_option maxHeartbeats 4000000 in
theorem c_X4_takes_3 {G : Glb} {h : AHp} {a : Nat} (hk : Kd h a 3)  : CP G m_X4_takes 2 0 0 [.ref a] h (fun r h' => r = some (.int (3)) ∧ h = h') := by
  suffices key : ∀ P : Option Value → AHp → Prop, (∀ r h', (r = some (.int (3)) ∧ h = h') → P r h') → CP G m_X4_takes 2 0 0 [.ref a] h P from key _ (fun _ _ z => z)
  intro P hP
  refine CP.of (by decide +kernel) (Nat.le_of_ble_eq_true rfl) fun X hX hR hnm => ?_
  show V X G 1 0 0 _ 0 [some (.ref a)] [] h
  refine v_aload_n hX rfl qX4_takes_0 ?_
  refine v_callPq hX hR k_X4_7_3 hk (c_X1_takes_3 hk) rfl (Nat.le_of_ble_eq_true rfl) rfl (Nat.le_of_ble_eq_true rfl) ⟨Nat.le_of_ble_eq_true rfl, Nat.le_of_ble_eq_true rfl⟩ qX4_takes_1 ?_
  rintro _ _ ⟨rfl, rfl⟩
  refine v_iconst hX li_1 qX4_takes_4 ?_
  refine v_iadd hX qX4_takes_5 ?_
  refine v_ireturn hX qX4_takes_6 (hP _ _ ?_)
  exact ⟨rfl, rfl⟩
theorem qX7_takes_0 : Dq cX7_takes 0 (.aload_n 0) 1 1 := ⟨by decide +kernel, rfl⟩
theorem qX7_takes_1 : Dq cX7_takes 1 (.invokespecial 11) 3 4 := ⟨by decide +kernel, rfl⟩
theorem qX7_takes_4 : Dq cX7_takes 4 (.aload_n 0) 1 5 := ⟨by decide +kernel, rfl⟩
theorem qX7_takes_5 : Dq cX7_takes 5 (.getfield 15) 3 8 := ⟨by decide +kernel, rfl⟩
theorem qX7_takes_8 : Dq cX7_takes 8 (.iadd) 1 9 := ⟨by decide +kernel, rfl⟩
theorem qX7_takes_9 : Dq cX7_takes 9 (.ireturn) 1 10 := ⟨by decide +kernel, rfl⟩
set_option maxRecDepth 100000 in
set_option maxHeartbeats 4000000 in
theorem c_X7_takes_7 {G : Glb} {h : AHp} {a : Nat} (hk : Kd h a 7)  : CP G m_X7_takes 3 0 0 [.ref a] h (fun r h' => r = some (.int (6 + hpI h a 0)) ∧ h = h') := by
  suffices key : ∀ P : Option Value → AHp → Prop, (∀ r h', (r = some (.int (6 + hpI h a 0)) ∧ h = h') → P r h') → CP G m_X7_takes 3 0 0 [.ref a] h P from key _ (fun _ _ z => z)
  intro P hP
  refine CP.of (by decide +kernel) (Nat.le_of_ble_eq_true rfl) fun X hX hR hnm => ?_
  show V X G 1 0 0 _ 0 [some (.ref a)] [] h
  refine v_aload_n hX rfl qX7_takes_0 ?_
  refine v_callPq hX hR k_X7_11_7 hk (c_X2_takes_7 hk) rfl (Nat.le_of_ble_eq_true rfl) rfl (Nat.le_of_ble_eq_true rfl) ⟨Nat.le_of_ble_eq_true rfl, Nat.le_of_ble_eq_true rfl⟩ qX7_takes_1 ?_
  rintro _ _ ⟨rfl, rfl⟩
  refine v_aload_n hX rfl qX7_takes_4 ?_
  refine v_getI hX g_X7_15 (Or.inl rfl) hk qX7_takes_5 ?_
  refine v_iadd hX qX7_takes_8 ?_
  refine v_ireturn hX qX7_takes_9 (hP _ _ ?_)
  exact ⟨rfl, rfl⟩
theorem qX8_takes_0 : Dq cX8_takes 0 (.iconst 2) 1 1 := ⟨by decide +kernel, rfl⟩
theorem qX8_takes_1 : Dq cX8_takes 1 (.aload_n 0) 1 2 := ⟨by decide +kernel, rfl⟩
theorem qX8_takes_2 : Dq cX8_takes 2 (.invokespecial 11) 3 5 := ⟨by decide +kernel, rfl⟩
theorem qX8_takes_5 : Dq cX8_takes 5 (.imul) 1 6 := ⟨by decide +kernel, rfl⟩
theorem qX8_takes_6 : Dq cX8_takes 6 (.ireturn) 1 7 := ⟨by decide +kernel, rfl⟩
set_option maxRecDepth 100000 in
set_option maxHeartbeats 4000000 in
theorem c_X8_takes_8 {G : Glb} {h : AHp} {a : Nat} (hk : Kd h a 8)  : CP G m_X8_takes 3 0 0 [.ref a] h (fun r h' => r = some (.int (12)) ∧ h = h') := by
  suffices key : ∀ P : Option Value → AHp → Prop, (∀ r h', (r = some (.int (12)) ∧ h = h') → P r h') → CP G m_X8_takes 3 0 0 [.ref a] h P from key _ (fun _ _ z => z)
  intro P hP
  refine CP.of (by decide +kernel) (Nat.le_of_ble_eq_true rfl) fun X hX hR hnm => ?_
  show V X G 1 0 0 _ 0 [some (.ref a)] [] h
  refine v_iconst hX li_2 qX8_takes_0 ?_
  refine v_aload_n hX rfl qX8_takes_1 ?_
  refine v_callPq hX hR k_X8_11_8 hk (c_X2_takes_8 hk) rfl (Nat.le_of_ble_eq_true rfl) rfl (Nat.le_of_ble_eq_true rfl) ⟨Nat.le_of_ble_eq_true rfl, Nat.le_of_ble_eq_true rfl⟩ qX8_takes_2 ?_
  rintro _ _ ⟨rfl, rfl⟩
  refine v_imul hX qX8_takes_5 ?_
  refine v_ireturn hX qX8_takes_6 (hP _ _ ?_)
  exact ⟨rfl, rfl⟩
theorem qX3_takes_0 : Dq cX3_takes 0 (.aload_n 0) 1 1 := ⟨by decide +kernel, rfl⟩
theorem qX3_takes_1 : Dq cX3_takes 1 (.invokespecial 17) 3 4 := ⟨by decide +kernel, rfl⟩
theorem qX3_takes_4 : Dq cX3_takes 4 (.aload_n 0) 1 5 := ⟨by decide +kernel, rfl⟩
theorem qX3_takes_5 : Dq cX3_takes 5 (.getfield 11) 3 8 := ⟨by decide +kernel, rfl⟩
theorem qX3_takes_8 : Dq cX3_takes 8 (.iadd) 1 9 := ⟨by decide +kernel, rfl⟩
theorem qX3_takes_9 : Dq cX3_takes 9 (.ireturn) 1 10 := ⟨by decide +kernel, rfl⟩
set_option maxRecDepth 100000 in
set_option maxHeartbeats 4000000 in
theorem c_X3_takes_3 {G : Glb} {h : AHp} {a : Nat} (hk : Kd h a 3)  : CP G m_X3_takes 3 0 0 [.ref a] h (fun r h' => r = some (.int (3 + hpI h a 0)) ∧ h = h') := by
  suffices key : ∀ P : Option Value → AHp → Prop, (∀ r h', (r = some (.int (3 + hpI h a 0)) ∧ h = h') → P r h') → CP G m_X3_takes 3 0 0 [.ref a] h P from key _ (fun _ _ z => z)
  intro P hP
  refine CP.of (by decide +kernel) (Nat.le_of_ble_eq_true rfl) fun X hX hR hnm => ?_
  show V X G 1 0 0 _ 0 [some (.ref a)] [] h
  refine v_aload_n hX rfl qX3_takes_0 ?_
  refine v_callPq hX hR k_X3_17_3 hk (c_X4_takes_3 hk) rfl (Nat.le_of_ble_eq_true rfl) rfl (Nat.le_of_ble_eq_true rfl) ⟨Nat.le_of_ble_eq_true rfl, Nat.le_of_ble_eq_true rfl⟩ qX3_takes_1 ?_
  rintro _ _ ⟨rfl, rfl⟩
  refine v_aload_n hX rfl qX3_takes_4 ?_
  refine v_getI hX g_X3_11 (Or.inl rfl) hk qX3_takes_5 ?_
  refine v_iadd hX qX3_takes_8 ?_
  refine v_ireturn hX qX3_takes_9 (hP _ _ ?_)
  exact ⟨rfl, rfl⟩
theorem qX1_stamps_0 : Dq cX1_stamps 0 (.iconst 2) 1 1 := ⟨by decide +kernel, rfl⟩
theorem qX1_stamps_1 : Dq cX1_stamps 1 (.ireturn) 1 2 := ⟨by decide +kernel, rfl⟩
set_option maxRecDepth 100000 in
set_option maxHeartbeats 4000000 in
theorem c_X1_stamps_1 {G : Glb} {h : AHp} {a : Nat} (hk : Kd h a 1)  : CP G m_X1_stamps 1 0 0 [.ref a] h (fun r h' => r = some (.int (2)) ∧ h = h') := by
  suffices key : ∀ P : Option Value → AHp → Prop, (∀ r h', (r = some (.int (2)) ∧ h = h') → P r h') → CP G m_X1_stamps 1 0 0 [.ref a] h P from key _ (fun _ _ z => z)
  intro P hP
  refine CP.of (by decide +kernel) (Nat.le_of_ble_eq_true rfl) fun X hX hR hnm => ?_
  show V X G 1 0 0 _ 0 [some (.ref a)] [] h
  refine v_iconst hX li_2 qX1_stamps_0 ?_
  refine v_ireturn hX qX1_stamps_1 (hP _ _ ?_)
  exact ⟨rfl, rfl⟩
set_option maxRecDepth 100000 in
set_option maxHeartbeats 4000000 in
theorem c_X1_stamps_2 {G : Glb} {h : AHp} {a : Nat} (hk : Kd h a 2)  : CP G m_X1_stamps 1 0 0 [.ref a] h (fun r h' => r = some (.int (2)) ∧ h = h') := by
  suffices key : ∀ P : Option Value → AHp → Prop, (∀ r h', (r = some (.int (2)) ∧ h = h') → P r h') → CP G m_X1_stamps 1 0 0 [.ref a] h P from key _ (fun _ _ z => z)
  intro P hP
  refine CP.of (by decide +kernel) (Nat.le_of_ble_eq_true rfl) fun X hX hR hnm => ?_
  show V X G 1 0 0 _ 0 [some (.ref a)] [] h
  refine v_iconst hX li_2 qX1_stamps_0 ?_
  refine v_ireturn hX qX1_stamps_1 (hP _ _ ?_)
  exact ⟨rfl, rfl⟩
set_option maxRecDepth 100000 in
set_option maxHeartbeats 4000000 in
theorem c_X1_stamps_7 {G : Glb} {h : AHp} {a : Nat} (hk : Kd h a 7)  : CP G m_X1_stamps 1 0 0 [.ref a] h (fun r h' => r = some (.int (2)) ∧ h = h') := by
  suffices key : ∀ P : Option Value → AHp → Prop, (∀ r h', (r = some (.int (2)) ∧ h = h') → P r h') → CP G m_X1_stamps 1 0 0 [.ref a] h P from key _ (fun _ _ z => z)
  intro P hP
  refine CP.of (by decide +kernel) (Nat.le_of_ble_eq_true rfl) fun X hX hR hnm => ?_
  show V X G 1 0 0 _ 0 [some (.ref a)] [] h
  refine v_iconst hX li_2 qX1_stamps_0 ?_
  refine v_ireturn hX qX1_stamps_1 (hP _ _ ?_)
  exact ⟨rfl, rfl⟩
set_option maxRecDepth 100000 in
set_option maxHeartbeats 4000000 in
theorem c_X1_stamps_8 {G : Glb} {h : AHp} {a : Nat} (hk : Kd h a 8)  : CP G m_X1_stamps 1 0 0 [.ref a] h (fun r h' => r = some (.int (2)) ∧ h = h') := by
  suffices key : ∀ P : Option Value → AHp → Prop, (∀ r h', (r = some (.int (2)) ∧ h = h') → P r h') → CP G m_X1_stamps 1 0 0 [.ref a] h P from key _ (fun _ _ z => z)
  intro P hP
  refine CP.of (by decide +kernel) (Nat.le_of_ble_eq_true rfl) fun X hX hR hnm => ?_
  show V X G 1 0 0 _ 0 [some (.ref a)] [] h
  refine v_iconst hX li_2 qX1_stamps_0 ?_
  refine v_ireturn hX qX1_stamps_1 (hP _ _ ?_)
  exact ⟨rfl, rfl⟩
set_option maxRecDepth 100000 in
set_option maxHeartbeats 4000000 in
theorem c_X1_stamps_4 {G : Glb} {h : AHp} {a : Nat} (hk : Kd h a 4)  : CP G m_X1_stamps 1 0 0 [.ref a] h (fun r h' => r = some (.int (2)) ∧ h = h') := by
  suffices key : ∀ P : Option Value → AHp → Prop, (∀ r h', (r = some (.int (2)) ∧ h = h') → P r h') → CP G m_X1_stamps 1 0 0 [.ref a] h P from key _ (fun _ _ z => z)
  intro P hP
  refine CP.of (by decide +kernel) (Nat.le_of_ble_eq_true rfl) fun X hX hR hnm => ?_
  show V X G 1 0 0 _ 0 [some (.ref a)] [] h
  refine v_iconst hX li_2 qX1_stamps_0 ?_
  refine v_ireturn hX qX1_stamps_1 (hP _ _ ?_)
  exact ⟨rfl, rfl⟩
set_option maxRecDepth 100000 in
set_option maxHeartbeats 4000000 in
theorem c_X1_stamps_3 {G : Glb} {h : AHp} {a : Nat} (hk : Kd h a 3)  : CP G m_X1_stamps 1 0 0 [.ref a] h (fun r h' => r = some (.int (2)) ∧ h = h') := by
  suffices key : ∀ P : Option Value → AHp → Prop, (∀ r h', (r = some (.int (2)) ∧ h = h') → P r h') → CP G m_X1_stamps 1 0 0 [.ref a] h P from key _ (fun _ _ z => z)
  intro P hP
  refine CP.of (by decide +kernel) (Nat.le_of_ble_eq_true rfl) fun X hX hR hnm => ?_
  show V X G 1 0 0 _ 0 [some (.ref a)] [] h
  refine v_iconst hX li_2 qX1_stamps_0 ?_
  refine v_ireturn hX qX1_stamps_1 (hP _ _ ?_)
  exact ⟨rfl, rfl⟩
theorem qX2_stamps_0 : Dq cX2_stamps 0 (.aload_n 0) 1 1 := ⟨by decide +kernel, rfl⟩
theorem qX2_stamps_1 : Dq cX2_stamps 1 (.invokespecial 17) 3 4 := ⟨by decide +kernel, rfl⟩
theorem qX2_stamps_4 : Dq cX2_stamps 4 (.iconst 1) 1 5 := ⟨by decide +kernel, rfl⟩
theorem qX2_stamps_5 : Dq cX2_stamps 5 (.isub) 1 6 := ⟨by decide +kernel, rfl⟩
theorem qX2_stamps_6 : Dq cX2_stamps 6 (.ireturn) 1 7 := ⟨by decide +kernel, rfl⟩
set_option maxRecDepth 100000 in
set_option maxHeartbeats 4000000 in
theorem c_X2_stamps_2 {G : Glb} {h : AHp} {a : Nat} (hk : Kd h a 2)  : CP G m_X2_stamps 2 0 0 [.ref a] h (fun r h' => r = some (.int (1)) ∧ h = h') := by
  suffices key : ∀ P : Option Value → AHp → Prop, (∀ r h', (r = some (.int (1)) ∧ h = h') → P r h') → CP G m_X2_stamps 2 0 0 [.ref a] h P from key _ (fun _ _ z => z)
  intro P hP
  refine CP.of (by decide +kernel) (Nat.le_of_ble_eq_true rfl) fun X hX hR hnm => ?_
  show V X G 1 0 0 _ 0 [some (.ref a)] [] h
  refine v_aload_n hX rfl qX2_stamps_0 ?_
  refine v_callPq hX hR k_X2_17_2 hk (c_X1_stamps_2 hk) rfl (Nat.le_of_ble_eq_true rfl) rfl (Nat.le_of_ble_eq_true rfl) ⟨Nat.le_of_ble_eq_true rfl, Nat.le_of_ble_eq_true rfl⟩ qX2_stamps_1 ?_
  rintro _ _ ⟨rfl, rfl⟩
  refine v_iconst hX li_1 qX2_stamps_4 ?_
  refine v_isub hX qX2_stamps_5 ?_
  refine v_ireturn hX qX2_stamps_6 (hP _ _ ?_)
  exact ⟨rfl, rfl⟩
set_option maxRecDepth 100000 in
set_option maxHeartbeats 4000000 in
theorem c_X2_stamps_7 {G : Glb} {h : AHp} {a : Nat} (hk : Kd h a 7)  : CP G m_X2_stamps 2 0 0 [.ref a] h (fun r h' => r = some (.int (1)) ∧ h = h') := by
  suffices key : ∀ P : Option Value → AHp → Prop, (∀ r h', (r = some (.int (1)) ∧ h = h') → P r h') → CP G m_X2_stamps 2 0 0 [.ref a] h P from key _ (fun _ _ z => z)
  intro P hP
  refine CP.of (by decide +kernel) (Nat.le_of_ble_eq_true rfl) fun X hX hR hnm => ?_
  show V X G 1 0 0 _ 0 [some (.ref a)] [] h
  refine v_aload_n hX rfl qX2_stamps_0 ?_
  refine v_callPq hX hR k_X2_17_7 hk (c_X1_stamps_7 hk) rfl (Nat.le_of_ble_eq_true rfl) rfl (Nat.le_of_ble_eq_true rfl) ⟨Nat.le_of_ble_eq_true rfl, Nat.le_of_ble_eq_true rfl⟩ qX2_stamps_1 ?_
  rintro _ _ ⟨rfl, rfl⟩
  refine v_iconst hX li_1 qX2_stamps_4 ?_
  refine v_isub hX qX2_stamps_5 ?_
  refine v_ireturn hX qX2_stamps_6 (hP _ _ ?_)
  exact ⟨rfl, rfl⟩
set_option maxRecDepth 100000 in
set_option maxHeartbeats 4000000 in
theorem c_X2_stamps_8 {G : Glb} {h : AHp} {a : Nat} (hk : Kd h a 8)  : CP G m_X2_stamps 2 0 0 [.ref a] h (fun r h' => r = some (.int (1)) ∧ h = h') := by
  suffices key : ∀ P : Option Value → AHp → Prop, (∀ r h', (r = some (.int (1)) ∧ h = h') → P r h') → CP G m_X2_stamps 2 0 0 [.ref a] h P from key _ (fun _ _ z => z)
  intro P hP
  refine CP.of (by decide +kernel) (Nat.le_of_ble_eq_true rfl) fun X hX hR hnm => ?_
  show V X G 1 0 0 _ 0 [some (.ref a)] [] h
  refine v_aload_n hX rfl qX2_stamps_0 ?_
  refine v_callPq hX hR k_X2_17_8 hk (c_X1_stamps_8 hk) rfl (Nat.le_of_ble_eq_true rfl) rfl (Nat.le_of_ble_eq_true rfl) ⟨Nat.le_of_ble_eq_true rfl, Nat.le_of_ble_eq_true rfl⟩ qX2_stamps_1 ?_
  rintro _ _ ⟨rfl, rfl⟩
  refine v_iconst hX li_1 qX2_stamps_4 ?_
  refine v_isub hX qX2_stamps_5 ?_
  refine v_ireturn hX qX2_stamps_6 (hP _ _ ?_)
  exact ⟨rfl, rfl⟩
theorem qX7_stamps_0 : Dq cX7_stamps 0 (.iconst 0) 1 1 := ⟨by decide +kernel, rfl⟩
theorem qX7_stamps_1 : Dq cX7_stamps 1 (.ireturn) 1 2 := ⟨by decide +kernel, rfl⟩
set_option maxRecDepth 100000 in
set_option maxHeartbeats 4000000 in
theorem c_X7_stamps_7 {G : Glb} {h : AHp} {a : Nat} (hk : Kd h a 7)  : CP G m_X7_stamps 1 0 0 [.ref a] h (fun r h' => r = some (.int (0)) ∧ h = h') := by
  suffices key : ∀ P : Option Value → AHp → Prop, (∀ r h', (r = some (.int (0)) ∧ h = h') → P r h') → CP G m_X7_stamps 1 0 0 [.ref a] h P from key _ (fun _ _ z => z)
  intro P hP
  refine CP.of (by decide +kernel) (Nat.le_of_ble_eq_true rfl) fun X hX hR hnm => ?_
  show V X G 1 0 0 _ 0 [some (.ref a)] [] h
  refine v_iconst hX li_0 qX7_stamps_0 ?_
  refine v_ireturn hX qX7_stamps_1 (hP _ _ ?_)
  exact ⟨rfl, rfl⟩
end
section
/-! steps and sheets -/
def anyB (p : Nat → Bool) : Nat → Bool
  | 0 => false
  | n + 1 => anyB p n || p n
theorem anyB_t {p : Nat → Bool} : ∀ {n k : Nat}, k < n → p k = true → anyB p n = true := by
  intro n
  induction n with
  | zero => intro k h; omega
  | succ n ih =>
    intro k h hp
    by_cases e : k = n
    · subst e; simp [anyB, hp]
    · simp [anyB, ih (show k < n by omega) hp]
theorem anyB_f {p : Nat → Bool} : ∀ {n : Nat}, (∀ k, k < n → p k = false) → anyB p n = false := by
  intro n
  induction n with
  | zero => intro _; rfl
  | succ n ih => intro h; simp [anyB, ih (fun k hk => h k (by omega)), h n (by omega)]
/-- the first place with p, or the end -/
def fc (p : Nat → Bool) : Nat → Nat → Nat
  | 0, i => i
  | n + 1, i => if p i then i else fc p n (i + 1)
theorem fc_hit {p : Nat → Bool} {k : Nat} (hk : p k = true) : ∀ (n i : Nat), i ≤ k → k < i + n → (∀ j, i ≤ j → j < k → p j = false) → fc p n i = k := by
  intro n
  induction n with
  | zero => intro i h1 h2; omega
  | succ n ih =>
    intro i h1 h2 h3
    by_cases e : i = k
    · subst e; simp [fc, hk]
    · have h4 : p i = false := h3 i (Nat.le_refl _) (by omega)
      simp only [fc, h4]
      exact ih (i + 1) (by omega) (by omega) (fun j hj => h3 j (by omega))
theorem fc_no {p : Nat → Bool} : ∀ (n i : Nat), (∀ j, i ≤ j → j < i + n → p j = false) → fc p n i = i + n := by
  intro n
  induction n with
  | zero => intro i _; rfl
  | succ n ih =>
    intro i h3
    have h4 : p i = false := h3 i (Nat.le_refl _) (by omega)
    simp only [fc, h4]
    rw [if_neg (by simp), ih (i + 1) (fun j hj hj2 => h3 j (by omega) (by omega))]
    omega
theorem nI_lt' {i s : Nat} (hi : i < 2000000) (hs : s < 2000000) (q : nI i < nI s) : i < s := (nI_ltI (by omega) (by omega)).mp q
theorem nI_le' {i s : Nat} (hi : i < 2000000) (hs : s < 2000000) (q : nI i ≤ nI s) : i ≤ s := (nI_leI (by omega) (by omega)).mp q
/-- an int between, as a number -/
theorem ofRange {i : Int32} {s : Nat} (h0 : 0 ≤ i) (h1 : i < nI s) (hs : s < 2 ^ 31) : ∃ k, k < s ∧ i = nI k := by
  obtain ⟨j, hj, rfl⟩ := nI_of (Int32.not_lt.mpr h0)
  exact ⟨j, (nI_ltI hj hs).mp h1, rfl⟩
theorem tn_nI {k : Nat} (h : k < 2000000) : tn (nI k) = k := nI_clamp (by omega)
theorem qX9_clear_0 : Dq cX9_clear 0 (.aload_n 0) 1 1 := ⟨by decide +kernel, rfl⟩
theorem qX9_clear_1 : Dq cX9_clear 1 (.iconst 0) 1 2 := ⟨by decide +kernel, rfl⟩
theorem qX9_clear_2 : Dq cX9_clear 2 (.putfield 18) 3 5 := ⟨by decide +kernel, rfl⟩
theorem qX9_clear_5 : Dq cX9_clear 5 (.aload_n 0) 1 6 := ⟨by decide +kernel, rfl⟩
theorem qX9_clear_6 : Dq cX9_clear 6 (.iconst 0) 1 7 := ⟨by decide +kernel, rfl⟩
theorem qX9_clear_7 : Dq cX9_clear 7 (.putfield 22) 3 10 := ⟨by decide +kernel, rfl⟩
theorem qX9_clear_10 : Dq cX9_clear 10 (.aload_n 0) 1 11 := ⟨by decide +kernel, rfl⟩
theorem qX9_clear_11 : Dq cX9_clear 11 (.iconst 0) 1 12 := ⟨by decide +kernel, rfl⟩
theorem qX9_clear_12 : Dq cX9_clear 12 (.putfield 25) 3 15 := ⟨by decide +kernel, rfl⟩
theorem qX9_clear_15 : Dq cX9_clear 15 (.return_) 1 16 := ⟨by decide +kernel, rfl⟩
set_option maxRecDepth 100000 in
set_option maxHeartbeats 4000000 in
theorem c_clear {G : Glb} {h : AHp} (hs : ShC h)  : CP G m_X9_clear 1 0 0 [.ref 26] h (fun r h' => r = none ∧ stI (stI (stI h 26 2 0) 26 3 0) 26 4 0 = h') := by
  suffices key : ∀ P : Option Value → AHp → Prop, (∀ r h', (r = none ∧ stI (stI (stI h 26 2 0) 26 3 0) 26 4 0 = h') → P r h') → CP G m_X9_clear 1 0 0 [.ref 26] h P from key _ (fun _ _ z => z)
  intro P hP
  refine CP.of (by decide +kernel) (Nat.le_of_ble_eq_true rfl) fun X hX hR hnm => ?_
  show V X G 1 0 0 _ 0 [some (.ref 26)] [] h
  refine v_aload_n hX rfl qX9_clear_0 ?_
  refine v_iconst hX li_0 qX9_clear_1 ?_
  refine v_putI hX p_X9_18 (hs.kd 26 rfl) (Or.inl rfl) qX9_clear_2 ?_
  refine v_aload_n hX rfl qX9_clear_5 ?_
  refine v_iconst hX li_0 qX9_clear_6 ?_
  refine v_putI hX p_X9_22 (hs.kd 26 rfl) (Or.inl rfl) qX9_clear_7 ?_
  refine v_aload_n hX rfl qX9_clear_10 ?_
  refine v_iconst hX li_0 qX9_clear_11 ?_
  refine v_putI hX p_X9_25 (hs.kd 26 rfl) (Or.inl rfl) qX9_clear_12 ?_
  refine v_return hX qX9_clear_15 (hP _ _ ?_)
  exact ⟨rfl, rfl⟩
theorem qX9_add_0 : Dq cX9_add 0 (.aload_n 0) 1 1 := ⟨by decide +kernel, rfl⟩
theorem qX9_add_1 : Dq cX9_add 1 (.getfield 18) 3 4 := ⟨by decide +kernel, rfl⟩
theorem qX9_add_4 : Dq cX9_add 4 (.bipush 20) 2 6 := ⟨by decide +kernel, rfl⟩
theorem qX9_add_6 : Dq cX9_add 6 (.if_icmp .ge 53) 3 9 := ⟨by decide +kernel, rfl⟩
theorem qX9_add_9 : Dq cX9_add 9 (.aload_n 0) 1 10 := ⟨by decide +kernel, rfl⟩
theorem qX9_add_10 : Dq cX9_add 10 (.getfield 9) 3 13 := ⟨by decide +kernel, rfl⟩
theorem qX9_add_13 : Dq cX9_add 13 (.aload_n 0) 1 14 := ⟨by decide +kernel, rfl⟩
theorem qX9_add_14 : Dq cX9_add 14 (.getfield 18) 3 17 := ⟨by decide +kernel, rfl⟩
theorem qX9_add_17 : Dq cX9_add 17 (.iload_n 1) 1 18 := ⟨by decide +kernel, rfl⟩
theorem qX9_add_18 : Dq cX9_add 18 (.iastore) 1 19 := ⟨by decide +kernel, rfl⟩
theorem qX9_add_19 : Dq cX9_add 19 (.aload_n 0) 1 20 := ⟨by decide +kernel, rfl⟩
theorem qX9_add_20 : Dq cX9_add 20 (.getfield 15) 3 23 := ⟨by decide +kernel, rfl⟩
theorem qX9_add_23 : Dq cX9_add 23 (.aload_n 0) 1 24 := ⟨by decide +kernel, rfl⟩
theorem qX9_add_24 : Dq cX9_add 24 (.getfield 18) 3 27 := ⟨by decide +kernel, rfl⟩
theorem qX9_add_27 : Dq cX9_add 27 (.iload_n 2) 1 28 := ⟨by decide +kernel, rfl⟩
theorem qX9_add_28 : Dq cX9_add 28 (.iastore) 1 29 := ⟨by decide +kernel, rfl⟩
theorem qX9_add_29 : Dq cX9_add 29 (.aload_n 0) 1 30 := ⟨by decide +kernel, rfl⟩
theorem qX9_add_30 : Dq cX9_add 30 (.dup) 1 31 := ⟨by decide +kernel, rfl⟩
theorem qX9_add_31 : Dq cX9_add 31 (.getfield 18) 3 34 := ⟨by decide +kernel, rfl⟩
theorem qX9_add_34 : Dq cX9_add 34 (.iconst 1) 1 35 := ⟨by decide +kernel, rfl⟩
theorem qX9_add_35 : Dq cX9_add 35 (.iadd) 1 36 := ⟨by decide +kernel, rfl⟩
theorem qX9_add_36 : Dq cX9_add 36 (.putfield 18) 3 39 := ⟨by decide +kernel, rfl⟩
theorem qX9_add_39 : Dq cX9_add 39 (.aload_n 0) 1 40 := ⟨by decide +kernel, rfl⟩
theorem qX9_add_40 : Dq cX9_add 40 (.dup) 1 41 := ⟨by decide +kernel, rfl⟩
theorem qX9_add_41 : Dq cX9_add 41 (.getfield 22) 3 44 := ⟨by decide +kernel, rfl⟩
theorem qX9_add_44 : Dq cX9_add 44 (.iload_n 2) 1 45 := ⟨by decide +kernel, rfl⟩
theorem qX9_add_45 : Dq cX9_add 45 (.iadd) 1 46 := ⟨by decide +kernel, rfl⟩
theorem qX9_add_46 : Dq cX9_add 46 (.putfield 22) 3 49 := ⟨by decide +kernel, rfl⟩
theorem qX9_add_49 : Dq cX9_add 49 (.aload_n 0) 1 50 := ⟨by decide +kernel, rfl⟩
theorem qX9_add_50 : Dq cX9_add 50 (.dup) 1 51 := ⟨by decide +kernel, rfl⟩
theorem qX9_add_51 : Dq cX9_add 51 (.getfield 25) 3 54 := ⟨by decide +kernel, rfl⟩
theorem qX9_add_54 : Dq cX9_add 54 (.iload_n 3) 1 55 := ⟨by decide +kernel, rfl⟩
theorem qX9_add_55 : Dq cX9_add 55 (.iadd) 1 56 := ⟨by decide +kernel, rfl⟩
theorem qX9_add_56 : Dq cX9_add 56 (.putfield 25) 3 59 := ⟨by decide +kernel, rfl⟩
theorem qX9_add_59 : Dq cX9_add 59 (.return_) 1 60 := ⟨by decide +kernel, rfl⟩
set_option maxRecDepth 100000 in
set_option maxHeartbeats 4000000 in
theorem c_add {G : Glb} {h : AHp} (hs : ShC h) {s : Nat} (hz : hpI h 26 2 = nI s) (hs20 : s < 20) (c g m : Int32) : CP G m_X9_add 1 0 0 [.ref 26, .int c, .int g, .int m] h (fun r h' => r = none ∧ stI (stI (stI (stI (stI h 27 s c) 28 s g) 26 2 (nI (s + 1))) 26 3 (hpI h 26 3 + g)) 26 4 (hpI h 26 4 + m) = h') := by
  suffices key : ∀ P : Option Value → AHp → Prop, (∀ r h', (r = none ∧ stI (stI (stI (stI (stI h 27 s c) 28 s g) 26 2 (nI (s + 1))) 26 3 (hpI h 26 3 + g)) 26 4 (hpI h 26 4 + m) = h') → P r h') → CP G m_X9_add 1 0 0 [.ref 26, .int c, .int g, .int m] h P from key _ (fun _ _ z => z)
  intro P hP
  refine CP.of (by decide +kernel) (Nat.le_of_ble_eq_true rfl) fun X hX hR hnm => ?_
  show V X G 4 0 0 _ 0 [some (.ref 26), some (.int c), some (.int g), some (.int m)] [] h
  refine v_aload_n hX rfl qX9_add_0 ?_
  refine v_getIv hX g_X9_18 (Or.inl rfl) (hs.kd 26 rfl) hz qX9_add_1 ?_
  refine v_bipush hX lb_20 qX9_add_4 ?_
  refine v_icmp_geS hX 59 qX9_add_6 rfl (fun q6 => ?_) (fun q6 => ?_)
  · exact absurd (nI_le' (i := 20) (by omega) (by omega) q6) (by omega)
  · skip
    refine v_aload_n hX rfl qX9_add_9 ?_
    refine v_getR hX g_X9_9 (hs.kd 26 rfl) (hs.rf 27 rfl) qX9_add_10 ?_
    refine v_aload_n hX rfl qX9_add_13 ?_
    refine v_getIv hX g_X9_18 (Or.inl rfl) (hs.kd 26 rfl) hz qX9_add_14 ?_
    refine v_iload_n hX rfl qX9_add_17 ?_
    refine v_iastJ hX (hs.kd 27 rfl) (hs.ln 27 rfl) (by exact ix_n hs20 rfl) qX9_add_18 ?_
    refine v_aload_n hX rfl qX9_add_19 ?_
    refine v_getR hX g_X9_15 (hs.kd 26 rfl) (hs.rf 28 rfl) qX9_add_20 ?_
    refine v_aload_n hX rfl qX9_add_23 ?_
    refine v_getIv hX g_X9_18 (Or.inl rfl) (hs.kd 26 rfl) hz qX9_add_24 ?_
    refine v_iload_n hX rfl qX9_add_27 ?_
    refine v_iastJ hX (hs.kd 28 rfl) (hs.ln 28 rfl) (by exact ix_n hs20 rfl) qX9_add_28 ?_
    refine v_aload_n hX rfl qX9_add_29 ?_
    refine v_dup hX rfl qX9_add_30 ?_
    refine v_getIv hX g_X9_18 (Or.inl rfl) (hs.kd 26 rfl) hz qX9_add_31 ?_
    refine v_iconst hX li_1 qX9_add_34 ?_
    refine v_iadd hX qX9_add_35 ?_
    refine v_eqI (nI_1 s) ?_
    refine v_putI hX p_X9_18 (hs.kd 26 rfl) (Or.inl rfl) qX9_add_36 ?_
    refine v_aload_n hX rfl qX9_add_39 ?_
    refine v_dup hX rfl qX9_add_40 ?_
    refine v_getI hX g_X9_22 (Or.inl rfl) (hs.kd 26 rfl) qX9_add_41 ?_
    refine v_iload_n hX rfl qX9_add_44 ?_
    refine v_iadd hX qX9_add_45 ?_
    refine v_putI hX p_X9_22 (hs.kd 26 rfl) (Or.inl rfl) qX9_add_46 ?_
    refine v_aload_n hX rfl qX9_add_49 ?_
    refine v_dup hX rfl qX9_add_50 ?_
    refine v_getI hX g_X9_25 (Or.inl rfl) (hs.kd 26 rfl) qX9_add_51 ?_
    refine v_iload_n hX rfl qX9_add_54 ?_
    refine v_iadd hX qX9_add_55 ?_
    refine v_putI hX p_X9_25 (hs.kd 26 rfl) (Or.inl rfl) qX9_add_56 ?_
    refine v_return hX qX9_add_59 (hP _ _ ?_)
    exact ⟨rfl, rfl⟩
theorem qX9_cellAt_0 : Dq cX9_cellAt 0 (.iload_n 1) 1 1 := ⟨by decide +kernel, rfl⟩
theorem qX9_cellAt_1 : Dq cX9_cellAt 1 (.iconst 0) 1 2 := ⟨by decide +kernel, rfl⟩
theorem qX9_cellAt_2 : Dq cX9_cellAt 2 (.aload_n 0) 1 3 := ⟨by decide +kernel, rfl⟩
theorem qX9_cellAt_3 : Dq cX9_cellAt 3 (.getfield 18) 3 6 := ⟨by decide +kernel, rfl⟩
theorem qX9_cellAt_6 : Dq cX9_cellAt 6 (.iconst 1) 1 7 := ⟨by decide +kernel, rfl⟩
theorem qX9_cellAt_7 : Dq cX9_cellAt 7 (.isub) 1 8 := ⟨by decide +kernel, rfl⟩
theorem qX9_cellAt_8 : Dq cX9_cellAt 8 (.invokestatic 28) 3 11 := ⟨by decide +kernel, rfl⟩
theorem qX9_cellAt_11 : Dq cX9_cellAt 11 (.ifCond .eq 18) 3 14 := ⟨by decide +kernel, rfl⟩
theorem qX9_cellAt_14 : Dq cX9_cellAt 14 (.iload_n 1) 1 15 := ⟨by decide +kernel, rfl⟩
theorem qX9_cellAt_15 : Dq cX9_cellAt 15 (.bipush 20) 2 17 := ⟨by decide +kernel, rfl⟩
theorem qX9_cellAt_17 : Dq cX9_cellAt 17 (.if_icmp .ge 12) 3 20 := ⟨by decide +kernel, rfl⟩
theorem qX9_cellAt_20 : Dq cX9_cellAt 20 (.aload_n 0) 1 21 := ⟨by decide +kernel, rfl⟩
theorem qX9_cellAt_21 : Dq cX9_cellAt 21 (.getfield 9) 3 24 := ⟨by decide +kernel, rfl⟩
theorem qX9_cellAt_24 : Dq cX9_cellAt 24 (.iload_n 1) 1 25 := ⟨by decide +kernel, rfl⟩
theorem qX9_cellAt_25 : Dq cX9_cellAt 25 (.iaload) 1 26 := ⟨by decide +kernel, rfl⟩
theorem qX9_cellAt_26 : Dq cX9_cellAt 26 (.goto 4) 3 29 := ⟨by decide +kernel, rfl⟩
theorem qX9_cellAt_29 : Dq cX9_cellAt 29 (.iconst (-1)) 1 30 := ⟨by decide +kernel, rfl⟩
theorem qX9_cellAt_30 : Dq cX9_cellAt 30 (.ireturn) 1 31 := ⟨by decide +kernel, rfl⟩
set_option maxRecDepth 100000 in
set_option maxHeartbeats 4000000 in
theorem c_cellAt {G : Glb} {h : AHp} (hs : ShC h) {s : Nat} (hz : hpI h 26 2 = nI s) (hs20 : s ≤ 20) (i : Int32) : CP G m_X9_cellAt 2 0 0 [.ref 26, .int i] h (fun r h' => r = some (.int (if 0 ≤ i ∧ i < nI s then hpI h 27 (tn i) else -1)) ∧ h = h') := by
  suffices key : ∀ P : Option Value → AHp → Prop, (∀ r h', (r = some (.int (if 0 ≤ i ∧ i < nI s then hpI h 27 (tn i) else -1)) ∧ h = h') → P r h') → CP G m_X9_cellAt 2 0 0 [.ref 26, .int i] h P from key _ (fun _ _ z => z)
  intro P hP
  refine CP.of (by decide +kernel) (Nat.le_of_ble_eq_true rfl) fun X hX hR hnm => ?_
  show V X G 2 0 0 _ 0 [some (.ref 26), some (.int i)] [] h
  refine v_iload_n hX rfl qX9_cellAt_0 ?_
  refine v_iconst hX li_0 qX9_cellAt_1 ?_
  refine v_aload_n hX rfl qX9_cellAt_2 ?_
  refine v_getIv hX g_X9_18 (Or.inl rfl) (hs.kd 26 rfl) hz qX9_cellAt_3 ?_
  refine v_iconst hX li_1 qX9_cellAt_6 ?_
  refine v_isub hX qX9_cellAt_7 ?_
  refine v_callNq hX hR k_X9_28 (c_isWithin _ _ _) rfl (Nat.le_of_ble_eq_true rfl) rfl (Nat.le_of_ble_eq_true rfl) ⟨Nat.le_of_ble_eq_true rfl, Nat.le_of_ble_eq_true rfl⟩ qX9_cellAt_8 ?_
  rintro _ _ ⟨rfl, rfl⟩
  first | refine v_if_eqB hX 29 qX9_cellAt_11 rfl (fun q11 => ?_) (fun q11 => ?_) | refine v_if_eq hX 29 qX9_cellAt_11 rfl (fun q11 => ?_) (fun q11 => ?_)
  · have q := fun z : 0 ≤ i ∧ i < nI s => q11 ⟨z.1, (leM1 (by omega)).mpr z.2⟩
    refine v_iconst hX li_n1 qX9_cellAt_29 ?_
    refine v_ireturn hX qX9_cellAt_30 (hP _ _ ?_)
    first | exact ⟨by rw [if_pos q, tn_nI (by omega)], rfl⟩ | exact ⟨by rw [if_neg q], rfl⟩
  · have q : 0 ≤ i ∧ i < nI s := ⟨q11.1, (leM1 (by omega)).mp q11.2⟩; obtain ⟨k, hk, rfl⟩ := ofRange q.1 q.2 (by omega)
    refine v_iload_n hX rfl qX9_cellAt_14 ?_
    refine v_bipush hX lb_20 qX9_cellAt_15 ?_
    refine v_icmp_geS hX 29 qX9_cellAt_17 rfl (fun q17 => ?_) (fun q17 => ?_)
    · exact absurd (nI_le' (i := 20) (by omega) (by omega) q17) (by omega)
    · skip
      refine v_aload_n hX rfl qX9_cellAt_20 ?_
      refine v_getR hX g_X9_9 (hs.kd 26 rfl) (hs.rf 27 rfl) qX9_cellAt_21 ?_
      refine v_iload_n hX rfl qX9_cellAt_24 ?_
      refine v_ialdJ hX (hs.kd 27 rfl) (hs.ln 27 rfl) (by exact ix_n (n := k) (by omega) rfl) qX9_cellAt_25 ?_
      refine v_goto hX 30 qX9_cellAt_26 rfl ?_
      refine v_ireturn hX qX9_cellAt_30 (hP _ _ ?_)
      first | exact ⟨by rw [if_pos q, tn_nI (by omega)], rfl⟩ | exact ⟨by rw [if_neg q], rfl⟩
theorem qX9_sizeAheadOf_0 : Dq cX9_sizeAheadOf 0 (.iconst 0) 1 1 := ⟨by decide +kernel, rfl⟩
theorem qX9_sizeAheadOf_1 : Dq cX9_sizeAheadOf 1 (.istore_n 2) 1 2 := ⟨by decide +kernel, rfl⟩
theorem qX9_sizeAheadOf_2 : Dq cX9_sizeAheadOf 2 (.iload_n 2) 1 3 := ⟨by decide +kernel, rfl⟩
theorem qX9_sizeAheadOf_3 : Dq cX9_sizeAheadOf 3 (.aload_n 0) 1 4 := ⟨by decide +kernel, rfl⟩
theorem qX9_sizeAheadOf_4 : Dq cX9_sizeAheadOf 4 (.getfield 18) 3 7 := ⟨by decide +kernel, rfl⟩
theorem qX9_sizeAheadOf_7 : Dq cX9_sizeAheadOf 7 (.if_icmp .ge 27) 3 10 := ⟨by decide +kernel, rfl⟩
theorem qX9_sizeAheadOf_10 : Dq cX9_sizeAheadOf 10 (.iload_n 2) 1 11 := ⟨by decide +kernel, rfl⟩
theorem qX9_sizeAheadOf_11 : Dq cX9_sizeAheadOf 11 (.bipush 20) 2 13 := ⟨by decide +kernel, rfl⟩
theorem qX9_sizeAheadOf_13 : Dq cX9_sizeAheadOf 13 (.if_icmp .ge 21) 3 16 := ⟨by decide +kernel, rfl⟩
theorem qX9_sizeAheadOf_16 : Dq cX9_sizeAheadOf 16 (.aload_n 0) 1 17 := ⟨by decide +kernel, rfl⟩
theorem qX9_sizeAheadOf_17 : Dq cX9_sizeAheadOf 17 (.getfield 15) 3 20 := ⟨by decide +kernel, rfl⟩
theorem qX9_sizeAheadOf_20 : Dq cX9_sizeAheadOf 20 (.iload_n 2) 1 21 := ⟨by decide +kernel, rfl⟩
theorem qX9_sizeAheadOf_21 : Dq cX9_sizeAheadOf 21 (.iaload) 1 22 := ⟨by decide +kernel, rfl⟩
theorem qX9_sizeAheadOf_22 : Dq cX9_sizeAheadOf 22 (.iload_n 1) 1 23 := ⟨by decide +kernel, rfl⟩
theorem qX9_sizeAheadOf_23 : Dq cX9_sizeAheadOf 23 (.if_icmp .ge 5) 3 26 := ⟨by decide +kernel, rfl⟩
theorem qX9_sizeAheadOf_26 : Dq cX9_sizeAheadOf 26 (.iload_n 2) 1 27 := ⟨by decide +kernel, rfl⟩
theorem qX9_sizeAheadOf_27 : Dq cX9_sizeAheadOf 27 (.ireturn) 1 28 := ⟨by decide +kernel, rfl⟩
theorem qX9_sizeAheadOf_28 : Dq cX9_sizeAheadOf 28 (.iinc 2 1) 3 31 := ⟨by decide +kernel, rfl⟩
theorem qX9_sizeAheadOf_31 : Dq cX9_sizeAheadOf 31 (.goto (-29)) 3 34 := ⟨by decide +kernel, rfl⟩
theorem qX9_sizeAheadOf_34 : Dq cX9_sizeAheadOf 34 (.aload_n 0) 1 35 := ⟨by decide +kernel, rfl⟩
theorem qX9_sizeAheadOf_35 : Dq cX9_sizeAheadOf 35 (.getfield 18) 3 38 := ⟨by decide +kernel, rfl⟩
theorem qX9_sizeAheadOf_38 : Dq cX9_sizeAheadOf 38 (.ireturn) 1 39 := ⟨by decide +kernel, rfl⟩
set_option maxRecDepth 100000 in
set_option maxHeartbeats 4000000 in
theorem c_sizeAheadOf {G : Glb} {h : AHp} (hs : ShC h) {s : Nat} (hz : hpI h 26 2 = nI s) (hs20 : s ≤ 20) (pr : Int32) : CP G m_X9_sizeAheadOf 1 0 0 [.ref 26, .int pr] h (fun r h' => r = some (.int (nI (fc (fun k => decide (hpI h 28 k < pr)) s 0))) ∧ h = h') := by
  suffices key : ∀ P : Option Value → AHp → Prop, (∀ r h', (r = some (.int (nI (fc (fun k => decide (hpI h 28 k < pr)) s 0))) ∧ h = h') → P r h') → CP G m_X9_sizeAheadOf 1 0 0 [.ref 26, .int pr] h P from key _ (fun _ _ z => z)
  intro P hP
  refine CP.of (by decide +kernel) (Nat.le_of_ble_eq_true rfl) fun X hX hR hnm => ?_
  show V X G 3 0 0 _ 0 [some (.ref 26), some (.int pr), none] [] h
  refine v_iconst hX li_0 qX9_sizeAheadOf_0 ?_
  refine v_istore_n hX (Nat.le_of_ble_eq_true rfl) rfl (ls' := [some _, some _, some _]) rfl qX9_sizeAheadOf_1 ?_
  have L2 : ∀ (m : Nat) (i : Nat), s - i = m → (i ≤ s) → (∀ j, j < i → pr ≤ hpI h 28 j) → V X G 3 0 0 (QM X G P 0 0) 2 [some (.ref 26), some (.int pr), some (.int (nI i))] [] h := by
    intro m
    induction m using Nat.strongRecOn with
    | _ m ih =>
    intro i hm hi hq
    refine v_iload_n hX rfl qX9_sizeAheadOf_2 ?_
    refine v_aload_n hX rfl qX9_sizeAheadOf_3 ?_
    refine v_getIv hX g_X9_18 (Or.inl rfl) (hs.kd 26 rfl) hz qX9_sizeAheadOf_4 ?_
    refine v_icmp_geS hX 34 qX9_sizeAheadOf_7 rfl (fun q7 => ?_) (fun q7 => ?_)
    · have e : i = s := Nat.le_antisymm hi (nI_le' (by omega) (by omega) q7); subst e
      refine v_aload_n hX rfl qX9_sizeAheadOf_34 ?_
      refine v_getIv hX g_X9_18 (Or.inl rfl) (hs.kd 26 rfl) hz qX9_sizeAheadOf_35 ?_
      refine v_ireturn hX qX9_sizeAheadOf_38 (hP _ _ ?_)
      exact ⟨congrArg (fun z => some (Value.int (nI z))) ((fc_no i 0 (fun j _ hj => decide_eq_false (Int32.not_lt.mpr (hq j (by omega))))).trans (Nat.zero_add i)).symm, rfl⟩
    · have hl := nI_lt' (by omega) (by omega) q7
      refine v_iload_n hX rfl qX9_sizeAheadOf_10 ?_
      refine v_bipush hX lb_20 qX9_sizeAheadOf_11 ?_
      refine v_icmp_geS hX 34 qX9_sizeAheadOf_13 rfl (fun q13 => ?_) (fun q13 => ?_)
      · exact absurd (nI_le' (i := 20) (by omega) (by omega) q13) (by omega)
      · skip
        refine v_aload_n hX rfl qX9_sizeAheadOf_16 ?_
        refine v_getR hX g_X9_15 (hs.kd 26 rfl) (hs.rf 28 rfl) qX9_sizeAheadOf_17 ?_
        refine v_iload_n hX rfl qX9_sizeAheadOf_20 ?_
        refine v_ialdJ hX (hs.kd 28 rfl) (hs.ln 28 rfl) (by first | exact isC.ix (by assumption) | exact ix_n (by omega) rfl) qX9_sizeAheadOf_21 ?_
        refine v_iload_n hX rfl qX9_sizeAheadOf_22 ?_
        refine v_icmp_geS hX 28 qX9_sizeAheadOf_23 rfl (fun q23 => ?_) (fun q23 => ?_)
        · skip
          refine v_iinc hX rfl (by first | exact ii_nI _ | exact ii_1 _) (Nat.le_of_ble_eq_true rfl) rfl (ls' := [some _, some _, some _]) rfl qX9_sizeAheadOf_28 ?_
          refine v_goto hX 2 qX9_sizeAheadOf_31 rfl ?_
          exact ih _ (by omega) (i + 1) rfl (by omega) (fun j hj => by rcases Nat.lt_succ_iff_lt_or_eq.mp hj with z | rfl; exact hq j z; exact q23)
        · skip
          refine v_iload_n hX rfl qX9_sizeAheadOf_26 ?_
          refine v_ireturn hX qX9_sizeAheadOf_27 (hP _ _ ?_)
          exact ⟨congrArg (fun z => some (Value.int (nI z))) (fc_hit (k := i) (decide_eq_true q23) s 0 (Nat.zero_le _) (by omega) (fun j _ hj => decide_eq_false (Int32.not_lt.mpr (hq j hj)))).symm, rfl⟩
  exact L2 _ 0 rfl (by omega) (fun j hj => absurd hj (Nat.not_lt_zero _))
theorem qX9_hasCell_0 : Dq cX9_hasCell 0 (.iconst 0) 1 1 := ⟨by decide +kernel, rfl⟩
theorem qX9_hasCell_1 : Dq cX9_hasCell 1 (.istore_n 2) 1 2 := ⟨by decide +kernel, rfl⟩
theorem qX9_hasCell_2 : Dq cX9_hasCell 2 (.iload_n 2) 1 3 := ⟨by decide +kernel, rfl⟩
theorem qX9_hasCell_3 : Dq cX9_hasCell 3 (.aload_n 0) 1 4 := ⟨by decide +kernel, rfl⟩
theorem qX9_hasCell_4 : Dq cX9_hasCell 4 (.getfield 18) 3 7 := ⟨by decide +kernel, rfl⟩
theorem qX9_hasCell_7 : Dq cX9_hasCell 7 (.if_icmp .ge 27) 3 10 := ⟨by decide +kernel, rfl⟩
theorem qX9_hasCell_10 : Dq cX9_hasCell 10 (.iload_n 2) 1 11 := ⟨by decide +kernel, rfl⟩
theorem qX9_hasCell_11 : Dq cX9_hasCell 11 (.bipush 20) 2 13 := ⟨by decide +kernel, rfl⟩
theorem qX9_hasCell_13 : Dq cX9_hasCell 13 (.if_icmp .ge 21) 3 16 := ⟨by decide +kernel, rfl⟩
theorem qX9_hasCell_16 : Dq cX9_hasCell 16 (.aload_n 0) 1 17 := ⟨by decide +kernel, rfl⟩
theorem qX9_hasCell_17 : Dq cX9_hasCell 17 (.getfield 9) 3 20 := ⟨by decide +kernel, rfl⟩
theorem qX9_hasCell_20 : Dq cX9_hasCell 20 (.iload_n 2) 1 21 := ⟨by decide +kernel, rfl⟩
theorem qX9_hasCell_21 : Dq cX9_hasCell 21 (.iaload) 1 22 := ⟨by decide +kernel, rfl⟩
theorem qX9_hasCell_22 : Dq cX9_hasCell 22 (.iload_n 1) 1 23 := ⟨by decide +kernel, rfl⟩
theorem qX9_hasCell_23 : Dq cX9_hasCell 23 (.if_icmp .ne 5) 3 26 := ⟨by decide +kernel, rfl⟩
theorem qX9_hasCell_26 : Dq cX9_hasCell 26 (.iconst 1) 1 27 := ⟨by decide +kernel, rfl⟩
theorem qX9_hasCell_27 : Dq cX9_hasCell 27 (.ireturn) 1 28 := ⟨by decide +kernel, rfl⟩
theorem qX9_hasCell_28 : Dq cX9_hasCell 28 (.iinc 2 1) 3 31 := ⟨by decide +kernel, rfl⟩
theorem qX9_hasCell_31 : Dq cX9_hasCell 31 (.goto (-29)) 3 34 := ⟨by decide +kernel, rfl⟩
theorem qX9_hasCell_34 : Dq cX9_hasCell 34 (.iconst 0) 1 35 := ⟨by decide +kernel, rfl⟩
theorem qX9_hasCell_35 : Dq cX9_hasCell 35 (.ireturn) 1 36 := ⟨by decide +kernel, rfl⟩
set_option maxRecDepth 100000 in
set_option maxHeartbeats 4000000 in
theorem c_hasCell {G : Glb} {h : AHp} (hs : ShC h) {s : Nat} (hz : hpI h 26 2 = nI s) (hs20 : s ≤ 20) (c : Int32) : CP G m_X9_hasCell 1 0 0 [.ref 26, .int c] h (fun r h' => r = some (.int (bz (anyB (fun k => decide (hpI h 27 k = c)) s = true))) ∧ h = h') := by
  suffices key : ∀ P : Option Value → AHp → Prop, (∀ r h', (r = some (.int (bz (anyB (fun k => decide (hpI h 27 k = c)) s = true))) ∧ h = h') → P r h') → CP G m_X9_hasCell 1 0 0 [.ref 26, .int c] h P from key _ (fun _ _ z => z)
  intro P hP
  refine CP.of (by decide +kernel) (Nat.le_of_ble_eq_true rfl) fun X hX hR hnm => ?_
  show V X G 3 0 0 _ 0 [some (.ref 26), some (.int c), none] [] h
  refine v_iconst hX li_0 qX9_hasCell_0 ?_
  refine v_istore_n hX (Nat.le_of_ble_eq_true rfl) rfl (ls' := [some _, some _, some _]) rfl qX9_hasCell_1 ?_
  have L2 : ∀ (m : Nat) (i : Nat), s - i = m → (i ≤ s) → (∀ j, j < i → ¬ hpI h 27 j = c) → V X G 3 0 0 (QM X G P 0 0) 2 [some (.ref 26), some (.int c), some (.int (nI i))] [] h := by
    intro m
    induction m using Nat.strongRecOn with
    | _ m ih =>
    intro i hm hi hq
    refine v_iload_n hX rfl qX9_hasCell_2 ?_
    refine v_aload_n hX rfl qX9_hasCell_3 ?_
    refine v_getIv hX g_X9_18 (Or.inl rfl) (hs.kd 26 rfl) hz qX9_hasCell_4 ?_
    refine v_icmp_geS hX 34 qX9_hasCell_7 rfl (fun q7 => ?_) (fun q7 => ?_)
    · have e : i = s := Nat.le_antisymm hi (nI_le' (by omega) (by omega) q7); subst e
      refine v_iconst hX li_0 qX9_hasCell_34 ?_
      refine v_zreturn hX (by first | exact Or.inl rfl | exact Or.inr rfl | exact bz01 _) qX9_hasCell_35 (hP _ _ ?_)
      exact ⟨congrArg (fun z => some (Value.int z)) (bz_f (fun z => Bool.noConfusion (z.symm.trans (anyB_f (fun k hk => decide_eq_false (hq k hk)))))).symm, rfl⟩
    · have hl := nI_lt' (by omega) (by omega) q7
      refine v_iload_n hX rfl qX9_hasCell_10 ?_
      refine v_bipush hX lb_20 qX9_hasCell_11 ?_
      refine v_icmp_geS hX 34 qX9_hasCell_13 rfl (fun q13 => ?_) (fun q13 => ?_)
      · exact absurd (nI_le' (i := 20) (by omega) (by omega) q13) (by omega)
      · skip
        refine v_aload_n hX rfl qX9_hasCell_16 ?_
        refine v_getR hX g_X9_9 (hs.kd 26 rfl) (hs.rf 27 rfl) qX9_hasCell_17 ?_
        refine v_iload_n hX rfl qX9_hasCell_20 ?_
        refine v_ialdJ hX (hs.kd 27 rfl) (hs.ln 27 rfl) (by first | exact isC.ix (by assumption) | exact ix_n (by omega) rfl) qX9_hasCell_21 ?_
        refine v_iload_n hX rfl qX9_hasCell_22 ?_
        refine v_icmp_ne hX 28 qX9_hasCell_23 rfl (fun q23 => ?_) (fun q23 => ?_)
        · skip
          refine v_iinc hX rfl (by first | exact ii_nI _ | exact ii_1 _) (Nat.le_of_ble_eq_true rfl) rfl (ls' := [some _, some _, some _]) rfl qX9_hasCell_28 ?_
          refine v_goto hX 2 qX9_hasCell_31 rfl ?_
          exact ih _ (by omega) (i + 1) rfl (by omega) (fun j hj => by rcases Nat.lt_succ_iff_lt_or_eq.mp hj with z | rfl; exact hq j z; exact q23)
        · skip
          refine v_iconst hX li_1 qX9_hasCell_26 ?_
          refine v_zreturn hX (by first | exact Or.inl rfl | exact Or.inr rfl | exact bz01 _) qX9_hasCell_27 (hP _ _ ?_)
          exact ⟨congrArg (fun z => some (Value.int z)) (bz_t (anyB_t hl (decide_eq_true q23))).symm, rfl⟩
  exact L2 _ 0 rfl (by omega) (fun j hj => absurd hj (Nat.not_lt_zero _))
theorem qX6_isMissing_0 : Dq cX6_isMissing 0 (.aload_n 0) 1 1 := ⟨by decide +kernel, rfl⟩
theorem qX6_isMissing_1 : Dq cX6_isMissing 1 (.getfield 15) 3 4 := ⟨by decide +kernel, rfl⟩
theorem qX6_isMissing_4 : Dq cX6_isMissing 4 (.iconst (-1)) 1 5 := ⟨by decide +kernel, rfl⟩
theorem qX6_isMissing_5 : Dq cX6_isMissing 5 (.if_icmp .ne 7) 3 8 := ⟨by decide +kernel, rfl⟩
theorem qX6_isMissing_8 : Dq cX6_isMissing 8 (.iconst 1) 1 9 := ⟨by decide +kernel, rfl⟩
theorem qX6_isMissing_9 : Dq cX6_isMissing 9 (.goto 4) 3 12 := ⟨by decide +kernel, rfl⟩
theorem qX6_isMissing_12 : Dq cX6_isMissing 12 (.iconst 0) 1 13 := ⟨by decide +kernel, rfl⟩
theorem qX6_isMissing_13 : Dq cX6_isMissing 13 (.ireturn) 1 14 := ⟨by decide +kernel, rfl⟩
set_option maxRecDepth 100000 in
set_option maxHeartbeats 4000000 in
theorem c_isMissing {G : Glb} {h : AHp} (hs : ShC h) {S : Nat} (hS : isS S)  : CP G m_X6_isMissing 1 0 0 [.ref S] h (fun r h' => r = some (.int (bz (hpI h S 1 = -1))) ∧ h = h') := by
  suffices key : ∀ P : Option Value → AHp → Prop, (∀ r h', (r = some (.int (bz (hpI h S 1 = -1))) ∧ h = h') → P r h') → CP G m_X6_isMissing 1 0 0 [.ref S] h P from key _ (fun _ _ z => z)
  intro P hP
  refine CP.of (by decide +kernel) (Nat.le_of_ble_eq_true rfl) fun X hX hR hnm => ?_
  show V X G 1 0 0 _ 0 [some (.ref S)] [] h
  refine v_aload_n hX rfl qX6_isMissing_0 ?_
  refine v_getI hX g_X6_15 (Or.inl rfl) (hs.sk hS) qX6_isMissing_1 ?_
  refine v_iconst hX li_n1 qX6_isMissing_4 ?_
  refine v_icmp_ne hX 12 qX6_isMissing_5 rfl (fun q5 => ?_) (fun q5 => ?_)
  · skip
    refine v_iconst hX li_0 qX6_isMissing_12 ?_
    refine v_zreturn hX (by first | exact Or.inl rfl | exact Or.inr rfl | exact bz01 _) qX6_isMissing_13 (hP _ _ ?_)
    first | exact ⟨congrArg (fun z => some (Value.int z)) (bz_t (by assumption)).symm, rfl⟩ | exact ⟨congrArg (fun z => some (Value.int z)) (bz_f (by assumption)).symm, rfl⟩
  · skip
    refine v_iconst hX li_1 qX6_isMissing_8 ?_
    refine v_goto hX 13 qX6_isMissing_9 rfl ?_
    refine v_zreturn hX (by first | exact Or.inl rfl | exact Or.inr rfl | exact bz01 _) qX6_isMissing_13 (hP _ _ ?_)
    first | exact ⟨congrArg (fun z => some (Value.int z)) (bz_t (by assumption)).symm, rfl⟩ | exact ⟨congrArg (fun z => some (Value.int z)) (bz_f (by assumption)).symm, rfl⟩
theorem qX6_isOdd_0 : Dq cX6_isOdd 0 (.aload_n 0) 1 1 := ⟨by decide +kernel, rfl⟩
theorem qX6_isOdd_1 : Dq cX6_isOdd 1 (.getfield 19) 3 4 := ⟨by decide +kernel, rfl⟩
theorem qX6_isOdd_4 : Dq cX6_isOdd 4 (.iconst 2) 1 5 := ⟨by decide +kernel, rfl⟩
theorem qX6_isOdd_5 : Dq cX6_isOdd 5 (.irem) 1 6 := ⟨by decide +kernel, rfl⟩
theorem qX6_isOdd_6 : Dq cX6_isOdd 6 (.ifCond .eq 7) 3 9 := ⟨by decide +kernel, rfl⟩
theorem qX6_isOdd_9 : Dq cX6_isOdd 9 (.iconst 1) 1 10 := ⟨by decide +kernel, rfl⟩
theorem qX6_isOdd_10 : Dq cX6_isOdd 10 (.goto 4) 3 13 := ⟨by decide +kernel, rfl⟩
theorem qX6_isOdd_13 : Dq cX6_isOdd 13 (.iconst 0) 1 14 := ⟨by decide +kernel, rfl⟩
theorem qX6_isOdd_14 : Dq cX6_isOdd 14 (.ireturn) 1 15 := ⟨by decide +kernel, rfl⟩
set_option maxRecDepth 100000 in
set_option maxHeartbeats 4000000 in
theorem c_isOdd {G : Glb} {h : AHp} (hs : ShC h) {S : Nat} (hS : isS S)  : CP G m_X6_isOdd 1 0 0 [.ref S] h (fun r h' => r = some (.int (bz (¬ rmI (hpI h S 2) 2 = 0))) ∧ h = h') := by
  suffices key : ∀ P : Option Value → AHp → Prop, (∀ r h', (r = some (.int (bz (¬ rmI (hpI h S 2) 2 = 0))) ∧ h = h') → P r h') → CP G m_X6_isOdd 1 0 0 [.ref S] h P from key _ (fun _ _ z => z)
  intro P hP
  refine CP.of (by decide +kernel) (Nat.le_of_ble_eq_true rfl) fun X hX hR hnm => ?_
  show V X G 1 0 0 _ 0 [some (.ref S)] [] h
  refine v_aload_n hX rfl qX6_isOdd_0 ?_
  refine v_getI hX g_X6_19 (Or.inl rfl) (hs.sk hS) qX6_isOdd_1 ?_
  refine v_iconst hX li_2 qX6_isOdd_4 ?_
  refine v_irem hX (by decide) qX6_isOdd_5 ?_
  first | refine v_if_eqB hX 13 qX6_isOdd_6 rfl (fun q6 => ?_) (fun q6 => ?_) | refine v_if_eq hX 13 qX6_isOdd_6 rfl (fun q6 => ?_) (fun q6 => ?_)
  · skip
    refine v_iconst hX li_0 qX6_isOdd_13 ?_
    refine v_zreturn hX (by first | exact Or.inl rfl | exact Or.inr rfl | exact bz01 _) qX6_isOdd_14 (hP _ _ ?_)
    first | exact ⟨congrArg (fun z => some (Value.int z)) (bz_t (by assumption)).symm, rfl⟩ | exact ⟨congrArg (fun z => some (Value.int z)) (bz_f (fun z => z (by assumption))).symm, rfl⟩
  · skip
    refine v_iconst hX li_1 qX6_isOdd_9 ?_
    refine v_goto hX 14 qX6_isOdd_10 rfl ?_
    refine v_zreturn hX (by first | exact Or.inl rfl | exact Or.inr rfl | exact bz01 _) qX6_isOdd_14 (hP _ _ ?_)
    first | exact ⟨congrArg (fun z => some (Value.int z)) (bz_t (by assumption)).symm, rfl⟩ | exact ⟨congrArg (fun z => some (Value.int z)) (bz_f (fun z => z (by assumption))).symm, rfl⟩
theorem qX6_remove_0 : Dq cX6_remove 0 (.aload_n 0) 1 1 := ⟨by decide +kernel, rfl⟩
theorem qX6_remove_1 : Dq cX6_remove 1 (.iconst (-1)) 1 2 := ⟨by decide +kernel, rfl⟩
theorem qX6_remove_2 : Dq cX6_remove 2 (.putfield 15) 3 5 := ⟨by decide +kernel, rfl⟩
theorem qX6_remove_5 : Dq cX6_remove 5 (.aload_n 0) 1 6 := ⟨by decide +kernel, rfl⟩
theorem qX6_remove_6 : Dq cX6_remove 6 (.iconst 0) 1 7 := ⟨by decide +kernel, rfl⟩
theorem qX6_remove_7 : Dq cX6_remove 7 (.putfield 19) 3 10 := ⟨by decide +kernel, rfl⟩
theorem qX6_remove_10 : Dq cX6_remove 10 (.return_) 1 11 := ⟨by decide +kernel, rfl⟩
set_option maxRecDepth 100000 in
set_option maxHeartbeats 4000000 in
theorem c_remove {G : Glb} {h : AHp} (hs : ShC h) {S : Nat} (hS : isS S)  : CP G m_X6_remove 1 0 0 [.ref S] h (fun r h' => r = none ∧ stI (stI h S 1 (-1)) S 2 0 = h') := by
  suffices key : ∀ P : Option Value → AHp → Prop, (∀ r h', (r = none ∧ stI (stI h S 1 (-1)) S 2 0 = h') → P r h') → CP G m_X6_remove 1 0 0 [.ref S] h P from key _ (fun _ _ z => z)
  intro P hP
  refine CP.of (by decide +kernel) (Nat.le_of_ble_eq_true rfl) fun X hX hR hnm => ?_
  show V X G 1 0 0 _ 0 [some (.ref S)] [] h
  refine v_aload_n hX rfl qX6_remove_0 ?_
  refine v_iconst hX li_n1 qX6_remove_1 ?_
  refine v_putI hX p_X6_15 (hs.sk hS) (Or.inl rfl) qX6_remove_2 ?_
  refine v_aload_n hX rfl qX6_remove_5 ?_
  refine v_iconst hX li_0 qX6_remove_6 ?_
  refine v_putI hX p_X6_19 (hs.sk hS) (Or.inl rfl) qX6_remove_7 ?_
  refine v_return hX qX6_remove_10 (hP _ _ ?_)
  exact ⟨rfl, rfl⟩
theorem qX6_hasItem_0 : Dq cX6_hasItem 0 (.iload_n 1) 1 1 := ⟨by decide +kernel, rfl⟩
theorem qX6_hasItem_1 : Dq cX6_hasItem 1 (.iconst 0) 1 2 := ⟨by decide +kernel, rfl⟩
theorem qX6_hasItem_2 : Dq cX6_hasItem 2 (.aload_n 0) 1 3 := ⟨by decide +kernel, rfl⟩
theorem qX6_hasItem_3 : Dq cX6_hasItem 3 (.getfield 19) 3 6 := ⟨by decide +kernel, rfl⟩
theorem qX6_hasItem_6 : Dq cX6_hasItem 6 (.iconst 1) 1 7 := ⟨by decide +kernel, rfl⟩
theorem qX6_hasItem_7 : Dq cX6_hasItem 7 (.isub) 1 8 := ⟨by decide +kernel, rfl⟩
theorem qX6_hasItem_8 : Dq cX6_hasItem 8 (.invokestatic 32) 3 11 := ⟨by decide +kernel, rfl⟩
theorem qX6_hasItem_11 : Dq cX6_hasItem 11 (.ireturn) 1 12 := ⟨by decide +kernel, rfl⟩
set_option maxRecDepth 100000 in
set_option maxHeartbeats 4000000 in
theorem c_hasItem {G : Glb} {h : AHp} (hs : ShC h) {S : Nat} (hS : isS S) {s : Nat} (hz : hpI h S 2 = nI s) (hs40 : s ≤ 40) (i : Int32) : CP G m_X6_hasItem 2 0 0 [.ref S, .int i] h (fun r h' => r = some (.int (bz (0 ≤ i ∧ i < nI s))) ∧ h = h') := by
  suffices key : ∀ P : Option Value → AHp → Prop, (∀ r h', (r = some (.int (bz (0 ≤ i ∧ i < nI s))) ∧ h = h') → P r h') → CP G m_X6_hasItem 2 0 0 [.ref S, .int i] h P from key _ (fun _ _ z => z)
  intro P hP
  refine CP.of (by decide +kernel) (Nat.le_of_ble_eq_true rfl) fun X hX hR hnm => ?_
  show V X G 2 0 0 _ 0 [some (.ref S), some (.int i)] [] h
  refine v_iload_n hX rfl qX6_hasItem_0 ?_
  refine v_iconst hX li_0 qX6_hasItem_1 ?_
  refine v_aload_n hX rfl qX6_hasItem_2 ?_
  refine v_getIv hX g_X6_19 (Or.inl rfl) (hs.sk hS) hz qX6_hasItem_3 ?_
  refine v_iconst hX li_1 qX6_hasItem_6 ?_
  refine v_isub hX qX6_hasItem_7 ?_
  refine v_callNq hX hR k_X6_32 (c_isWithin _ _ _) rfl (Nat.le_of_ble_eq_true rfl) rfl (Nat.le_of_ble_eq_true rfl) ⟨Nat.le_of_ble_eq_true rfl, Nat.le_of_ble_eq_true rfl⟩ qX6_hasItem_8 ?_
  rintro _ _ ⟨rfl, rfl⟩
  refine v_zreturn hX (by first | exact Or.inl rfl | exact Or.inr rfl | exact bz01 _) qX6_hasItem_11 (hP _ _ ?_)
  exact ⟨congrArg (fun z => some (Value.int z)) (bz_c (by rw [leM1 (by omega)])), rfl⟩
theorem qX6_hasRange_0 : Dq cX6_hasRange 0 (.iload_n 1) 1 1 := ⟨by decide +kernel, rfl⟩
theorem qX6_hasRange_1 : Dq cX6_hasRange 1 (.ifCond .lt 29) 3 4 := ⟨by decide +kernel, rfl⟩
theorem qX6_hasRange_4 : Dq cX6_hasRange 4 (.iload_n 2) 1 5 := ⟨by decide +kernel, rfl⟩
theorem qX6_hasRange_5 : Dq cX6_hasRange 5 (.ifCond .lt 25) 3 8 := ⟨by decide +kernel, rfl⟩
theorem qX6_hasRange_8 : Dq cX6_hasRange 8 (.iload_n 2) 1 9 := ⟨by decide +kernel, rfl⟩
theorem qX6_hasRange_9 : Dq cX6_hasRange 9 (.aload_n 0) 1 10 := ⟨by decide +kernel, rfl⟩
theorem qX6_hasRange_10 : Dq cX6_hasRange 10 (.getfield 19) 3 13 := ⟨by decide +kernel, rfl⟩
theorem qX6_hasRange_13 : Dq cX6_hasRange 13 (.if_icmp .gt 17) 3 16 := ⟨by decide +kernel, rfl⟩
theorem qX6_hasRange_16 : Dq cX6_hasRange 16 (.iload_n 1) 1 17 := ⟨by decide +kernel, rfl⟩
theorem qX6_hasRange_17 : Dq cX6_hasRange 17 (.aload_n 0) 1 18 := ⟨by decide +kernel, rfl⟩
theorem qX6_hasRange_18 : Dq cX6_hasRange 18 (.getfield 19) 3 21 := ⟨by decide +kernel, rfl⟩
theorem qX6_hasRange_21 : Dq cX6_hasRange 21 (.iload_n 2) 1 22 := ⟨by decide +kernel, rfl⟩
theorem qX6_hasRange_22 : Dq cX6_hasRange 22 (.isub) 1 23 := ⟨by decide +kernel, rfl⟩
theorem qX6_hasRange_23 : Dq cX6_hasRange 23 (.if_icmp .gt 7) 3 26 := ⟨by decide +kernel, rfl⟩
theorem qX6_hasRange_26 : Dq cX6_hasRange 26 (.iconst 1) 1 27 := ⟨by decide +kernel, rfl⟩
theorem qX6_hasRange_27 : Dq cX6_hasRange 27 (.goto 4) 3 30 := ⟨by decide +kernel, rfl⟩
theorem qX6_hasRange_30 : Dq cX6_hasRange 30 (.iconst 0) 1 31 := ⟨by decide +kernel, rfl⟩
theorem qX6_hasRange_31 : Dq cX6_hasRange 31 (.ireturn) 1 32 := ⟨by decide +kernel, rfl⟩
set_option maxRecDepth 100000 in
set_option maxHeartbeats 4000000 in
theorem c_hasRange {G : Glb} {h : AHp} (hs : ShC h) {S : Nat} (hS : isS S) {s : Nat} (hz : hpI h S 2 = nI s) (hs40 : s ≤ 40) (i n : Int32) : CP G m_X6_hasRange 1 0 0 [.ref S, .int i, .int n] h (fun r h' => r = some (.int (bz (0 ≤ i ∧ 0 ≤ n ∧ n ≤ nI s ∧ i ≤ nI s - n))) ∧ h = h') := by
  suffices key : ∀ P : Option Value → AHp → Prop, (∀ r h', (r = some (.int (bz (0 ≤ i ∧ 0 ≤ n ∧ n ≤ nI s ∧ i ≤ nI s - n))) ∧ h = h') → P r h') → CP G m_X6_hasRange 1 0 0 [.ref S, .int i, .int n] h P from key _ (fun _ _ z => z)
  intro P hP
  refine CP.of (by decide +kernel) (Nat.le_of_ble_eq_true rfl) fun X hX hR hnm => ?_
  show V X G 3 0 0 _ 0 [some (.ref S), some (.int i), some (.int n)] [] h
  refine v_iload_n hX rfl qX6_hasRange_0 ?_
  refine v_if_ltS hX 30 qX6_hasRange_1 rfl (fun q1 => ?_) (fun q1 => ?_)
  · skip
    refine v_iconst hX li_0 qX6_hasRange_30 ?_
    refine v_zreturn hX (by first | exact Or.inl rfl | exact Or.inr rfl | exact bz01 _) qX6_hasRange_31 (hP _ _ ?_)
    first | exact ⟨congrArg (fun z => some (Value.int z)) (bz_t ⟨by assumption, by assumption, by assumption, by assumption⟩).symm, rfl⟩ | exact ⟨congrArg (fun z => some (Value.int z)) (bz_f (fun z => by first | exact absurd z.1 (Int32.not_le.mpr (by assumption)) | exact absurd z.2.1 (Int32.not_le.mpr (by assumption)) | exact absurd z.2.2.1 (Int32.not_le.mpr (by assumption)) | exact absurd z.2.2.2 (Int32.not_le.mpr (by assumption)))).symm, rfl⟩
  · skip
    refine v_iload_n hX rfl qX6_hasRange_4 ?_
    refine v_if_ltS hX 30 qX6_hasRange_5 rfl (fun q5 => ?_) (fun q5 => ?_)
    · skip
      refine v_iconst hX li_0 qX6_hasRange_30 ?_
      refine v_zreturn hX (by first | exact Or.inl rfl | exact Or.inr rfl | exact bz01 _) qX6_hasRange_31 (hP _ _ ?_)
      first | exact ⟨congrArg (fun z => some (Value.int z)) (bz_t ⟨by assumption, by assumption, by assumption, by assumption⟩).symm, rfl⟩ | exact ⟨congrArg (fun z => some (Value.int z)) (bz_f (fun z => by first | exact absurd z.1 (Int32.not_le.mpr (by assumption)) | exact absurd z.2.1 (Int32.not_le.mpr (by assumption)) | exact absurd z.2.2.1 (Int32.not_le.mpr (by assumption)) | exact absurd z.2.2.2 (Int32.not_le.mpr (by assumption)))).symm, rfl⟩
    · skip
      refine v_iload_n hX rfl qX6_hasRange_8 ?_
      refine v_aload_n hX rfl qX6_hasRange_9 ?_
      refine v_getIv hX g_X6_19 (Or.inl rfl) (hs.sk hS) hz qX6_hasRange_10 ?_
      refine v_icmp_gtS hX 30 qX6_hasRange_13 rfl (fun q13 => ?_) (fun q13 => ?_)
      · skip
        refine v_iconst hX li_0 qX6_hasRange_30 ?_
        refine v_zreturn hX (by first | exact Or.inl rfl | exact Or.inr rfl | exact bz01 _) qX6_hasRange_31 (hP _ _ ?_)
        first | exact ⟨congrArg (fun z => some (Value.int z)) (bz_t ⟨by assumption, by assumption, by assumption, by assumption⟩).symm, rfl⟩ | exact ⟨congrArg (fun z => some (Value.int z)) (bz_f (fun z => by first | exact absurd z.1 (Int32.not_le.mpr (by assumption)) | exact absurd z.2.1 (Int32.not_le.mpr (by assumption)) | exact absurd z.2.2.1 (Int32.not_le.mpr (by assumption)) | exact absurd z.2.2.2 (Int32.not_le.mpr (by assumption)))).symm, rfl⟩
      · skip
        refine v_iload_n hX rfl qX6_hasRange_16 ?_
        refine v_aload_n hX rfl qX6_hasRange_17 ?_
        refine v_getIv hX g_X6_19 (Or.inl rfl) (hs.sk hS) hz qX6_hasRange_18 ?_
        refine v_iload_n hX rfl qX6_hasRange_21 ?_
        refine v_isub hX qX6_hasRange_22 ?_
        refine v_icmp_gtS hX 30 qX6_hasRange_23 rfl (fun q23 => ?_) (fun q23 => ?_)
        · skip
          refine v_iconst hX li_0 qX6_hasRange_30 ?_
          refine v_zreturn hX (by first | exact Or.inl rfl | exact Or.inr rfl | exact bz01 _) qX6_hasRange_31 (hP _ _ ?_)
          first | exact ⟨congrArg (fun z => some (Value.int z)) (bz_t ⟨by assumption, by assumption, by assumption, by assumption⟩).symm, rfl⟩ | exact ⟨congrArg (fun z => some (Value.int z)) (bz_f (fun z => by first | exact absurd z.1 (Int32.not_le.mpr (by assumption)) | exact absurd z.2.1 (Int32.not_le.mpr (by assumption)) | exact absurd z.2.2.1 (Int32.not_le.mpr (by assumption)) | exact absurd z.2.2.2 (Int32.not_le.mpr (by assumption)))).symm, rfl⟩
        · skip
          refine v_iconst hX li_1 qX6_hasRange_26 ?_
          refine v_goto hX 31 qX6_hasRange_27 rfl ?_
          refine v_zreturn hX (by first | exact Or.inl rfl | exact Or.inr rfl | exact bz01 _) qX6_hasRange_31 (hP _ _ ?_)
          first | exact ⟨congrArg (fun z => some (Value.int z)) (bz_t ⟨by assumption, by assumption, by assumption, by assumption⟩).symm, rfl⟩ | exact ⟨congrArg (fun z => some (Value.int z)) (bz_f (fun z => by first | exact absurd z.1 (Int32.not_le.mpr (by assumption)) | exact absurd z.2.1 (Int32.not_le.mpr (by assumption)) | exact absurd z.2.2.1 (Int32.not_le.mpr (by assumption)) | exact absurd z.2.2.2 (Int32.not_le.mpr (by assumption)))).symm, rfl⟩
theorem qX6_itemAt_0 : Dq cX6_itemAt 0 (.aload_n 0) 1 1 := ⟨by decide +kernel, rfl⟩
theorem qX6_itemAt_1 : Dq cX6_itemAt 1 (.iload_n 1) 1 2 := ⟨by decide +kernel, rfl⟩
theorem qX6_itemAt_2 : Dq cX6_itemAt 2 (.invokevirtual 36) 3 5 := ⟨by decide +kernel, rfl⟩
theorem qX6_itemAt_5 : Dq cX6_itemAt 5 (.ifCond .eq 18) 3 8 := ⟨by decide +kernel, rfl⟩
theorem qX6_itemAt_8 : Dq cX6_itemAt 8 (.iload_n 1) 1 9 := ⟨by decide +kernel, rfl⟩
theorem qX6_itemAt_9 : Dq cX6_itemAt 9 (.bipush 40) 2 11 := ⟨by decide +kernel, rfl⟩
theorem qX6_itemAt_11 : Dq cX6_itemAt 11 (.if_icmp .ge 12) 3 14 := ⟨by decide +kernel, rfl⟩
theorem qX6_itemAt_14 : Dq cX6_itemAt 14 (.aload_n 0) 1 15 := ⟨by decide +kernel, rfl⟩
theorem qX6_itemAt_15 : Dq cX6_itemAt 15 (.getfield 9) 3 18 := ⟨by decide +kernel, rfl⟩
theorem qX6_itemAt_18 : Dq cX6_itemAt 18 (.iload_n 1) 1 19 := ⟨by decide +kernel, rfl⟩
theorem qX6_itemAt_19 : Dq cX6_itemAt 19 (.iaload) 1 20 := ⟨by decide +kernel, rfl⟩
theorem qX6_itemAt_20 : Dq cX6_itemAt 20 (.goto 4) 3 23 := ⟨by decide +kernel, rfl⟩
theorem qX6_itemAt_23 : Dq cX6_itemAt 23 (.iconst 0) 1 24 := ⟨by decide +kernel, rfl⟩
theorem qX6_itemAt_24 : Dq cX6_itemAt 24 (.ireturn) 1 25 := ⟨by decide +kernel, rfl⟩
set_option maxRecDepth 100000 in
set_option maxHeartbeats 4000000 in
theorem c_itemAt {G : Glb} {h : AHp} (hs : ShC h) {S : Nat} (hS : isS S) {s : Nat} (hz : hpI h S 2 = nI s) (hs40 : s ≤ 40) (i : Int32) : CP G m_X6_itemAt 3 0 0 [.ref S, .int i] h (fun r h' => r = some (.int (if 0 ≤ i ∧ i < nI s then hpI h (S + 1) (tn i) else 0)) ∧ h = h') := by
  suffices key : ∀ P : Option Value → AHp → Prop, (∀ r h', (r = some (.int (if 0 ≤ i ∧ i < nI s then hpI h (S + 1) (tn i) else 0)) ∧ h = h') → P r h') → CP G m_X6_itemAt 3 0 0 [.ref S, .int i] h P from key _ (fun _ _ z => z)
  intro P hP
  refine CP.of (by decide +kernel) (Nat.le_of_ble_eq_true rfl) fun X hX hR hnm => ?_
  show V X G 2 0 0 _ 0 [some (.ref S), some (.int i)] [] h
  refine v_aload_n hX rfl qX6_itemAt_0 ?_
  refine v_iload_n hX rfl qX6_itemAt_1 ?_
  refine v_callVq hX hR k_X6_36 (hs.sk hS) (c_hasItem hs hS (by assumption) (by assumption) _) rfl (Nat.le_of_ble_eq_true rfl) rfl (Nat.le_of_ble_eq_true rfl) ⟨Nat.le_of_ble_eq_true rfl, Nat.le_of_ble_eq_true rfl⟩ qX6_itemAt_2 ?_
  rintro _ _ ⟨rfl, rfl⟩
  first | refine v_if_eqB hX 23 qX6_itemAt_5 rfl (fun q5 => ?_) (fun q5 => ?_) | refine v_if_eq hX 23 qX6_itemAt_5 rfl (fun q5 => ?_) (fun q5 => ?_)
  · skip
    refine v_iconst hX li_0 qX6_itemAt_23 ?_
    refine v_ireturn hX qX6_itemAt_24 (hP _ _ ?_)
    first | exact ⟨by rw [if_pos q5, tn_nI (by omega)], rfl⟩ | exact ⟨by rw [if_neg q5], rfl⟩
  · obtain ⟨k, hk, rfl⟩ := ofRange q5.1 q5.2 (by omega)
    refine v_iload_n hX rfl qX6_itemAt_8 ?_
    refine v_bipush hX lb_40 qX6_itemAt_9 ?_
    refine v_icmp_geS hX 23 qX6_itemAt_11 rfl (fun q11 => ?_) (fun q11 => ?_)
    · exact absurd (nI_le' (i := 40) (by omega) (by omega) q11) (by omega)
    · skip
      refine v_aload_n hX rfl qX6_itemAt_14 ?_
      refine v_getR hX g_X6_9 (hs.sk hS) (hs.si hS) qX6_itemAt_15 ?_
      refine v_iload_n hX rfl qX6_itemAt_18 ?_
      refine v_ialdJ hX (hs.sik hS) (hs.sil hS) (by exact ix_n (n := k) (by omega) rfl) qX6_itemAt_19 ?_
      refine v_goto hX 24 qX6_itemAt_20 rfl ?_
      refine v_ireturn hX qX6_itemAt_24 (hP _ _ ?_)
      first | exact ⟨by rw [if_pos q5, tn_nI (by omega)], rfl⟩ | exact ⟨by rw [if_neg q5], rfl⟩
def nrw (s v : Int32) : Int32 := if s = 0 then v.toInt8.toInt32 else if s = 1 then v.toInt16.toInt32 else v
theorem qX6_narrowed_0 : Dq cX6_narrowed 0 (.aload_n 0) 1 1 := ⟨by decide +kernel, rfl⟩
theorem qX6_narrowed_1 : Dq cX6_narrowed 1 (.getfield 15) 3 4 := ⟨by decide +kernel, rfl⟩
theorem qX6_narrowed_4 : Dq cX6_narrowed 4 (.lookupswitch 34 #[(0, 28), (1, 31)]) 28 32 := ⟨by decide +kernel, rfl⟩
theorem qX6_narrowed_32 : Dq cX6_narrowed 32 (.iload_n 1) 1 33 := ⟨by decide +kernel, rfl⟩
theorem qX6_narrowed_33 : Dq cX6_narrowed 33 (.i2b) 1 34 := ⟨by decide +kernel, rfl⟩
theorem qX6_narrowed_34 : Dq cX6_narrowed 34 (.ireturn) 1 35 := ⟨by decide +kernel, rfl⟩
theorem qX6_narrowed_35 : Dq cX6_narrowed 35 (.iload_n 1) 1 36 := ⟨by decide +kernel, rfl⟩
theorem qX6_narrowed_36 : Dq cX6_narrowed 36 (.i2s) 1 37 := ⟨by decide +kernel, rfl⟩
theorem qX6_narrowed_37 : Dq cX6_narrowed 37 (.ireturn) 1 38 := ⟨by decide +kernel, rfl⟩
theorem qX6_narrowed_38 : Dq cX6_narrowed 38 (.iload_n 1) 1 39 := ⟨by decide +kernel, rfl⟩
theorem qX6_narrowed_39 : Dq cX6_narrowed 39 (.ireturn) 1 40 := ⟨by decide +kernel, rfl⟩
set_option maxRecDepth 100000 in
set_option maxHeartbeats 4000000 in
theorem c_narrowed {G : Glb} {h : AHp} (hs : ShC h) {S : Nat} (hS : isS S) (v : Int32) : CP G m_X6_narrowed 1 0 0 [.ref S, .int v] h (fun r h' => r = some (.int (nrw (hpI h S 1) v)) ∧ h = h') := by
  suffices key : ∀ P : Option Value → AHp → Prop, (∀ r h', (r = some (.int (nrw (hpI h S 1) v)) ∧ h = h') → P r h') → CP G m_X6_narrowed 1 0 0 [.ref S, .int v] h P from key _ (fun _ _ z => z)
  intro P hP
  refine CP.of (by decide +kernel) (Nat.le_of_ble_eq_true rfl) fun X hX hR hnm => ?_
  show V X G 2 0 0 _ 0 [some (.ref S), some (.int v)] [] h
  refine v_aload_n hX rfl qX6_narrowed_0 ?_
  refine v_getI hX g_X6_15 (Or.inl rfl) (hs.sk hS) qX6_narrowed_1 ?_
  refine v_case (0 : Int32) (fun q4 => ?_) (fun q4_0 => ?_)
  · skip
    refine v_lookup (off := 28) hX 32 qX6_narrowed_4 (by decide) (by first | exact (by rw [q4]; rfl) | rfl) rfl ?_
    refine v_iload_n hX rfl qX6_narrowed_32 ?_
    refine v_i2b hX qX6_narrowed_33 ?_
    refine v_ireturn hX qX6_narrowed_34 (hP _ _ ?_)
    exact ⟨by rw [nrw, if_pos q4], rfl⟩
  refine v_case (1 : Int32) (fun q4 => ?_) (fun q4_1 => ?_)
  · skip
    refine v_lookup (off := 31) hX 35 qX6_narrowed_4 (by decide) (by first | exact (by rw [q4]; rfl) | rfl) rfl ?_
    refine v_iload_n hX rfl qX6_narrowed_35 ?_
    refine v_i2s hX qX6_narrowed_36 ?_
    refine v_ireturn hX qX6_narrowed_37 (hP _ _ ?_)
    exact ⟨by rw [nrw, if_neg q4_0, if_pos q4], rfl⟩
  refine v_lookup (off := 34) hX 38 qX6_narrowed_4 (by decide) ?_ rfl ?_
  · have z0 := ne_i (0) (by decide) q4_0; have z1 := ne_i (1) (by decide) q4_1; refine lk_out _ (fun q hq => ?_); simp at hq; rcases hq with rfl | rfl <;> assumption
  refine v_iload_n hX rfl qX6_narrowed_38 ?_
  refine v_ireturn hX qX6_narrowed_39 (hP _ _ ?_)
  exact ⟨by rw [nrw, if_neg q4_0, if_neg q4_1], rfl⟩
theorem qX6_put_0 : Dq cX6_put 0 (.aload_n 0) 1 1 := ⟨by decide +kernel, rfl⟩
theorem qX6_put_1 : Dq cX6_put 1 (.iload_n 1) 1 2 := ⟨by decide +kernel, rfl⟩
theorem qX6_put_2 : Dq cX6_put 2 (.invokevirtual 36) 3 5 := ⟨by decide +kernel, rfl⟩
theorem qX6_put_5 : Dq cX6_put 5 (.ifCond .eq 20) 3 8 := ⟨by decide +kernel, rfl⟩
theorem qX6_put_8 : Dq cX6_put 8 (.iload_n 1) 1 9 := ⟨by decide +kernel, rfl⟩
theorem qX6_put_9 : Dq cX6_put 9 (.bipush 40) 2 11 := ⟨by decide +kernel, rfl⟩
theorem qX6_put_11 : Dq cX6_put 11 (.if_icmp .ge 14) 3 14 := ⟨by decide +kernel, rfl⟩
theorem qX6_put_14 : Dq cX6_put 14 (.aload_n 0) 1 15 := ⟨by decide +kernel, rfl⟩
theorem qX6_put_15 : Dq cX6_put 15 (.getfield 9) 3 18 := ⟨by decide +kernel, rfl⟩
theorem qX6_put_18 : Dq cX6_put 18 (.iload_n 1) 1 19 := ⟨by decide +kernel, rfl⟩
theorem qX6_put_19 : Dq cX6_put 19 (.aload_n 0) 1 20 := ⟨by decide +kernel, rfl⟩
theorem qX6_put_20 : Dq cX6_put 20 (.iload_n 2) 1 21 := ⟨by decide +kernel, rfl⟩
theorem qX6_put_21 : Dq cX6_put 21 (.invokevirtual 40) 3 24 := ⟨by decide +kernel, rfl⟩
theorem qX6_put_24 : Dq cX6_put 24 (.iastore) 1 25 := ⟨by decide +kernel, rfl⟩
theorem qX6_put_25 : Dq cX6_put 25 (.return_) 1 26 := ⟨by decide +kernel, rfl⟩
set_option maxRecDepth 100000 in
set_option maxHeartbeats 4000000 in
theorem c_put {G : Glb} {h : AHp} (hs : ShC h) {S : Nat} (hS : isS S) {s : Nat} (hz : hpI h S 2 = nI s) (hs40 : s ≤ 40) {k : Nat} (hk : k < s) (v : Int32) : CP G m_X6_put 3 0 0 [.ref S, .int (nI k), .int v] h (fun r h' => r = none ∧ stI h (S + 1) k (nrw (hpI h S 1) v) = h') := by
  suffices key : ∀ P : Option Value → AHp → Prop, (∀ r h', (r = none ∧ stI h (S + 1) k (nrw (hpI h S 1) v) = h') → P r h') → CP G m_X6_put 3 0 0 [.ref S, .int (nI k), .int v] h P from key _ (fun _ _ z => z)
  intro P hP
  refine CP.of (by decide +kernel) (Nat.le_of_ble_eq_true rfl) fun X hX hR hnm => ?_
  show V X G 3 0 0 _ 0 [some (.ref S), some (.int (nI k)), some (.int v)] [] h
  refine v_aload_n hX rfl qX6_put_0 ?_
  refine v_iload_n hX rfl qX6_put_1 ?_
  refine v_callVq hX hR k_X6_36 (hs.sk hS) (c_hasItem hs hS (by assumption) (by assumption) _) rfl (Nat.le_of_ble_eq_true rfl) rfl (Nat.le_of_ble_eq_true rfl) ⟨Nat.le_of_ble_eq_true rfl, Nat.le_of_ble_eq_true rfl⟩ qX6_put_2 ?_
  rintro _ _ ⟨rfl, rfl⟩
  first | refine v_if_eqB hX 25 qX6_put_5 rfl (fun q5 => ?_) (fun q5 => ?_) | refine v_if_eq hX 25 qX6_put_5 rfl (fun q5 => ?_) (fun q5 => ?_)
  · exact absurd ⟨nI_pos' (by omega), nI_lt hk (by omega)⟩ q5
  · skip
    refine v_iload_n hX rfl qX6_put_8 ?_
    refine v_bipush hX lb_40 qX6_put_9 ?_
    refine v_icmp_geS hX 25 qX6_put_11 rfl (fun q11 => ?_) (fun q11 => ?_)
    · exact absurd (nI_le' (i := 40) (by omega) (by omega) q11) (by omega)
    · skip
      refine v_aload_n hX rfl qX6_put_14 ?_
      refine v_getR hX g_X6_9 (hs.sk hS) (hs.si hS) qX6_put_15 ?_
      refine v_iload_n hX rfl qX6_put_18 ?_
      refine v_aload_n hX rfl qX6_put_19 ?_
      refine v_iload_n hX rfl qX6_put_20 ?_
      refine v_callVq hX hR k_X6_40 (hs.sk hS) (c_narrowed hs hS _) rfl (Nat.le_of_ble_eq_true rfl) rfl (Nat.le_of_ble_eq_true rfl) ⟨Nat.le_of_ble_eq_true rfl, Nat.le_of_ble_eq_true rfl⟩ qX6_put_21 ?_
      rintro _ _ ⟨rfl, rfl⟩
      refine v_iastJ hX (hs.sik hS) (hs.sil hS) (by exact ix_n (n := k) (by omega) rfl) qX6_put_24 ?_
      refine v_return hX qX6_put_25 (hP _ _ ?_)
      exact ⟨rfl, rfl⟩
/-- the i-th looker of the party lies at e i, of kind k i and number n i; there are m -/
def Pty (h : AHp) (m : Nat) (e k : Nat → Nat) (n : Nat → Int32) : Prop := hpI h 0 5 = nI m ∧ m ≤ 6 ∧ ∀ i, i < m → hpR h 10 i = some (e i) ∧ k i < 6 ∧ Kd h (e i) (kcl (k i)) ∧ hpI h (e i) 0 = n i
theorem qX11_lookerAt_0 : Dq cX11_lookerAt 0 (.iload_n 1) 1 1 := ⟨by decide +kernel, rfl⟩
theorem qX11_lookerAt_1 : Dq cX11_lookerAt 1 (.iconst 0) 1 2 := ⟨by decide +kernel, rfl⟩
theorem qX11_lookerAt_2 : Dq cX11_lookerAt 2 (.aload_n 0) 1 3 := ⟨by decide +kernel, rfl⟩
theorem qX11_lookerAt_3 : Dq cX11_lookerAt 3 (.getfield 134) 3 6 := ⟨by decide +kernel, rfl⟩
theorem qX11_lookerAt_6 : Dq cX11_lookerAt 6 (.iconst 1) 1 7 := ⟨by decide +kernel, rfl⟩
theorem qX11_lookerAt_7 : Dq cX11_lookerAt 7 (.isub) 1 8 := ⟨by decide +kernel, rfl⟩
theorem qX11_lookerAt_8 : Dq cX11_lookerAt 8 (.invokestatic 110) 3 11 := ⟨by decide +kernel, rfl⟩
theorem qX11_lookerAt_11 : Dq cX11_lookerAt 11 (.ifCond .eq 12) 3 14 := ⟨by decide +kernel, rfl⟩
theorem qX11_lookerAt_14 : Dq cX11_lookerAt 14 (.aload_n 0) 1 15 := ⟨by decide +kernel, rfl⟩
theorem qX11_lookerAt_15 : Dq cX11_lookerAt 15 (.getfield 24) 3 18 := ⟨by decide +kernel, rfl⟩
theorem qX11_lookerAt_18 : Dq cX11_lookerAt 18 (.iload_n 1) 1 19 := ⟨by decide +kernel, rfl⟩
theorem qX11_lookerAt_19 : Dq cX11_lookerAt 19 (.aaload) 1 20 := ⟨by decide +kernel, rfl⟩
theorem qX11_lookerAt_20 : Dq cX11_lookerAt 20 (.goto 4) 3 23 := ⟨by decide +kernel, rfl⟩
theorem qX11_lookerAt_23 : Dq cX11_lookerAt 23 (.aconst_null) 1 24 := ⟨by decide +kernel, rfl⟩
theorem qX11_lookerAt_24 : Dq cX11_lookerAt 24 (.areturn) 1 25 := ⟨by decide +kernel, rfl⟩
set_option maxRecDepth 100000 in
set_option maxHeartbeats 4000000 in
theorem c_lookerAt {G : Glb} {h : AHp} (hs : ShC h) {m : Nat} {e kd : Nat → Nat} {nu : Nat → Int32} (hp : Pty h m e kd nu) (i : Int32) : CP G m_X11_lookerAt 2 0 0 [.ref 0, .int i] h (fun r h' => ((∃ j, j < m ∧ i = nI j ∧ r = some (.ref (e j))) ∨ (¬ (0 ≤ i ∧ i < nI m) ∧ r = some .null)) ∧ h = h') := by
  suffices key : ∀ P : Option Value → AHp → Prop, (∀ r h', (((∃ j, j < m ∧ i = nI j ∧ r = some (.ref (e j))) ∨ (¬ (0 ≤ i ∧ i < nI m) ∧ r = some .null)) ∧ h = h') → P r h') → CP G m_X11_lookerAt 2 0 0 [.ref 0, .int i] h P from key _ (fun _ _ z => z)
  intro P hP
  refine CP.of (by decide +kernel) (Nat.le_of_ble_eq_true rfl) fun X hX hR hnm => ?_
  show V X G 2 0 0 _ 0 [some (.ref 0), some (.int i)] [] h
  refine v_iload_n hX rfl qX11_lookerAt_0 ?_
  refine v_iconst hX li_0 qX11_lookerAt_1 ?_
  refine v_aload_n hX rfl qX11_lookerAt_2 ?_
  refine v_getIv hX g_X11_134 (Or.inl rfl) (hs.kd 0 rfl) hp.1 qX11_lookerAt_3 ?_
  refine v_iconst hX li_1 qX11_lookerAt_6 ?_
  refine v_isub hX qX11_lookerAt_7 ?_
  refine v_callSq hX hR k_X11_110 (c_isWithin _ _ _) rfl (Nat.le_of_ble_eq_true rfl) rfl (Nat.le_of_ble_eq_true rfl) ⟨Nat.le_of_ble_eq_true rfl, Nat.le_of_ble_eq_true rfl⟩ qX11_lookerAt_8 ?_
  rintro _ _ ⟨rfl, rfl⟩
  first | refine v_if_eqB hX 23 qX11_lookerAt_11 rfl (fun q11 => ?_) (fun q11 => ?_) | refine v_if_eq hX 23 qX11_lookerAt_11 rfl (fun q11 => ?_) (fun q11 => ?_)
  · have q := fun z : 0 ≤ i ∧ i < nI m => q11 ⟨z.1, (leM1 (by have := hp.2.1; omega)).mpr z.2⟩
    refine v_null hX qX11_lookerAt_23 ?_
    refine v_areturn hX (by first | exact Or.inl rfl | exact Or.inr ⟨_, rfl⟩) qX11_lookerAt_24 (hP _ _ ?_)
    first | exact ⟨Or.inl ⟨j, hj, rfl, rfl⟩, rfl⟩ | exact ⟨Or.inr ⟨q, rfl⟩, rfl⟩
  · have hm6 := hp.2.1; obtain ⟨j, hj, rfl⟩ := ofRange q11.1 ((leM1 (by omega)).mp q11.2) (by omega)
    refine v_aload_n hX rfl qX11_lookerAt_14 ?_
    refine v_getR hX g_X11_24 (hs.kd 0 rfl) (hs.rf 3 rfl) qX11_lookerAt_15 ?_
    refine v_iload_n hX rfl qX11_lookerAt_18 ?_
    refine v_aald hX (Or.inl rfl) (hs.kd 10 rfl) (hs.ln 10 rfl) (vp_in_nI (n := j) (by omega) (by omega)) (r := some (e j)) (by rw [nI_clamp (by omega)]; exact (hp.2.2 j hj).1) qX11_lookerAt_19 ?_
    refine v_goto hX 24 qX11_lookerAt_20 rfl ?_
    refine v_areturn hX (by first | exact Or.inl rfl | exact Or.inr ⟨_, rfl⟩) qX11_lookerAt_24 (hP _ _ ?_)
    first | exact ⟨Or.inl ⟨j, hj, rfl, rfl⟩, rfl⟩ | exact ⟨Or.inr ⟨q, rfl⟩, rfl⟩
end
section
/-! the rule: its stack machine, what it tells of a cell; what the lookers make of it -/
theorem rngI {z : Int} (h1 : -2147483648 ≤ z) (h2 : z < 2147483648) : z.bmod (2 ^ 32) = z := by
  apply Int.bmod_eq_of_le
  · have : ((2 ^ 32 : Nat) : Int) / 2 = 2147483648 := by decide
    omega
  · have : (((2 ^ 32 : Nat) : Int) + 1) / 2 = 2147483648 := by decide
    omega
theorem addI {a b : Int32} (h1 : -2147483648 ≤ a.toInt + b.toInt) (h2 : a.toInt + b.toInt < 2147483648) : (a + b).toInt = a.toInt + b.toInt := by rw [Int32.toInt_add]; exact rngI h1 h2
theorem subI {a b : Int32} (h1 : -2147483648 ≤ a.toInt - b.toInt) (h2 : a.toInt - b.toInt < 2147483648) : (a - b).toInt = a.toInt - b.toInt := by rw [Int32.toInt_sub]; exact rngI h1 h2
theorem mulI {a b : Int32} (h1 : -2147483648 ≤ a.toInt * b.toInt) (h2 : a.toInt * b.toInt < 2147483648) : (a * b).toInt = a.toInt * b.toInt := by rw [Int32.toInt_mul]; exact rngI h1 h2
def joinI (c l r : Int32) : Int32 := if c = -7 then bz (¬ l = 0 ∨ ¬ r = 0) else if c = -8 then bz (¬ l = 0 ∧ ¬ r = 0) else if c = -10 then bz (l < r) else if c = -11 then bz (l = r) else if c = -12 then l + r else if c = -13 then l - r else l * r
def evNot (s : List Int32) : Option (List Int32) := match s with
  | [] => none
  | v :: t => some (bz (v = 0) :: t)
def evNeg (s : List Int32) : Option (List Int32) := match s with
  | [] => none
  | v :: t => some (-v :: t)
def evTwo (c : Int32) (s : List Int32) : Option (List Int32) := match s with
  | [] => none
  | [_] => none
  | r :: l :: t => some (joinI c l r :: t)
/-- one step of a rule's machine -/
def ev1 (env : Nat → Int32) (c : Int32) (s : List Int32) : Option (List Int32) :=
  if 0 ≤ c then (if s.length < 31 then some (c :: s) else none)
  else if -6 ≤ c then (if s.length < 31 then some (env (tn (-1 - c)) :: s) else none)
  else if c = -9 then evNot s
  else if c = -15 then evNeg s
  else evTwo c s
def evn (f : Nat → Int32) (env : Nat → Int32) : Nat → Nat → List Int32 → Option (List Int32)
  | 0, _, s => some s
  | n + 1, i, s => (ev1 env (f i) s).bind (evn f env n (i + 1))
theorem ixNm {c : Int32} (h1 : -6 ≤ c) (h2 : c < 0) : IX (-1 - c) (tn (-1 - c)) 6 := by
  have g1 := leI.mp h1
  have g2 := ltI.mp h2
  have e1 : (-6 : Int32).toInt = -6 := rfl
  have e2 : (-1 : Int32).toInt = -1 := rfl
  have e3 : (0 : Int32).toInt = 0 := rfl
  have e4 := subI (a := -1) (b := c) (by omega) (by omega)
  refine IX.of (leI.mpr ?_) ?_ <;> omega
/-- the machine's stack holds s, its head on top -/
def Stk (h : AHp) (s : List Int32) : Prop := hpI h 17 5 = nI s.length ∧ s.length ≤ 31 ∧ ∀ i x, s.reverse[i]? = some x → hpI h 21 i = x
def FrS (h : AHp) (σ : Nat → Nat → Int32) : Prop := ∀ a k, a ≠ 21 → ¬ (a = 17 ∧ k = 5) → σ a k = hpI h a k
theorem Stk.push {h : AHp} {s : List Int32} (v : Int32) (hk : Stk h s) (hl : s.length < 31) : Stk (stI (stI h 21 s.length v) 17 5 (nI (s.length + 1))) (v :: s) := by
  refine ⟨by simp [hpI_st], by simp; omega, fun i x hx => ?_⟩
  simp only [hpI_st]
  rw [if_neg (by omega)]
  rw [List.reverse_cons] at hx
  by_cases hi : i = s.length
  · subst hi
    rw [List.getElem?_append_right (by simp)] at hx
    simp at hx
    simp [hx]
  · rw [if_neg (fun z => hi z.2)]
    have hlt : i < s.reverse.length := by
      have := (List.getElem?_eq_some_iff.mp hx).1
      simp at this ⊢
      omega
    rw [List.getElem?_append_left hlt] at hx
    exact hk.2.2 i x hx
theorem Stk.top {h : AHp} {v : Int32} {t : List Int32} (hk : Stk h (v :: t)) : hpI h 21 t.length = v := hk.2.2 _ _ (by rw [List.reverse_cons, List.getElem?_append_right (by simp)]; simp)
theorem Stk.pop {h : AHp} {v : Int32} {t : List Int32} (hk : Stk h (v :: t)) : Stk (stI h 17 5 (nI t.length)) t := by
  refine ⟨by simp [hpI_st], by have := hk.2.1; simp at this; omega, fun i x hx => ?_⟩
  simp only [hpI_st]
  rw [if_neg (by omega)]
  refine hk.2.2 i x ?_
  rw [List.reverse_cons, List.getElem?_append_left (List.getElem?_eq_some_iff.mp hx).1]
  exact hx
theorem qX5_push_0 : Dq cX5_push 0 (.aload_n 0) 1 1 := ⟨by decide +kernel, rfl⟩
theorem qX5_push_1 : Dq cX5_push 1 (.getfield 108) 3 4 := ⟨by decide +kernel, rfl⟩
theorem qX5_push_4 : Dq cX5_push 4 (.ifCond .lt 32) 3 7 := ⟨by decide +kernel, rfl⟩
theorem qX5_push_7 : Dq cX5_push 7 (.aload_n 0) 1 8 := ⟨by decide +kernel, rfl⟩
theorem qX5_push_8 : Dq cX5_push 8 (.getfield 108) 3 11 := ⟨by decide +kernel, rfl⟩
theorem qX5_push_11 : Dq cX5_push 11 (.bipush 31) 2 13 := ⟨by decide +kernel, rfl⟩
theorem qX5_push_13 : Dq cX5_push 13 (.if_icmp .ge 23) 3 16 := ⟨by decide +kernel, rfl⟩
theorem qX5_push_16 : Dq cX5_push 16 (.aload_n 0) 1 17 := ⟨by decide +kernel, rfl⟩
theorem qX5_push_17 : Dq cX5_push 17 (.getfield 21) 3 20 := ⟨by decide +kernel, rfl⟩
theorem qX5_push_20 : Dq cX5_push 20 (.aload_n 0) 1 21 := ⟨by decide +kernel, rfl⟩
theorem qX5_push_21 : Dq cX5_push 21 (.getfield 108) 3 24 := ⟨by decide +kernel, rfl⟩
theorem qX5_push_24 : Dq cX5_push 24 (.iload_n 1) 1 25 := ⟨by decide +kernel, rfl⟩
theorem qX5_push_25 : Dq cX5_push 25 (.iastore) 1 26 := ⟨by decide +kernel, rfl⟩
theorem qX5_push_26 : Dq cX5_push 26 (.aload_n 0) 1 27 := ⟨by decide +kernel, rfl⟩
theorem qX5_push_27 : Dq cX5_push 27 (.dup) 1 28 := ⟨by decide +kernel, rfl⟩
theorem qX5_push_28 : Dq cX5_push 28 (.getfield 108) 3 31 := ⟨by decide +kernel, rfl⟩
theorem qX5_push_31 : Dq cX5_push 31 (.iconst 1) 1 32 := ⟨by decide +kernel, rfl⟩
theorem qX5_push_32 : Dq cX5_push 32 (.iadd) 1 33 := ⟨by decide +kernel, rfl⟩
theorem qX5_push_33 : Dq cX5_push 33 (.putfield 108) 3 36 := ⟨by decide +kernel, rfl⟩
theorem qX5_push_36 : Dq cX5_push 36 (.return_) 1 37 := ⟨by decide +kernel, rfl⟩
set_option maxRecDepth 100000 in
set_option maxHeartbeats 4000000 in
theorem c_push {G : Glb} {h : AHp} (hs : ShC h) {s : List Int32} (hst : Stk h s) (hl : s.length < 31) (v : Int32) : CP G m_X5_push 1 0 0 [.ref 17, .int v] h (fun r h' => r = none ∧ stI (stI h 21 s.length v) 17 5 (nI (s.length + 1)) = h') := by
  suffices key : ∀ P : Option Value → AHp → Prop, (∀ r h', (r = none ∧ stI (stI h 21 s.length v) 17 5 (nI (s.length + 1)) = h') → P r h') → CP G m_X5_push 1 0 0 [.ref 17, .int v] h P from key _ (fun _ _ z => z)
  intro P hP
  refine CP.of (by decide +kernel) (Nat.le_of_ble_eq_true rfl) fun X hX hR hnm => ?_
  show V X G 2 0 0 _ 0 [some (.ref 17), some (.int v)] [] h
  refine v_aload_n hX rfl qX5_push_0 ?_
  refine v_getIv hX g_X5_108 (Or.inl rfl) (hs.kd 17 rfl) hst.1 qX5_push_1 ?_
  refine v_if_ltS hX 36 qX5_push_4 rfl (fun q4 => ?_) (fun q4 => ?_)
  · exact absurd (nI_pos' (n := s.length) (by omega)) (Int32.not_le.mpr q4)
  · skip
    refine v_aload_n hX rfl qX5_push_7 ?_
    refine v_getIv hX g_X5_108 (Or.inl rfl) (hs.kd 17 rfl) hst.1 qX5_push_8 ?_
    refine v_bipush hX lb_31 qX5_push_11 ?_
    refine v_icmp_geS hX 36 qX5_push_13 rfl (fun q13 => ?_) (fun q13 => ?_)
    · exact absurd (nI_le' (i := 31) (by omega) (by omega) q13) (by omega)
    · skip
      refine v_aload_n hX rfl qX5_push_16 ?_
      refine v_getR hX g_X5_21 (hs.kd 17 rfl) (hs.rf 22 rfl) qX5_push_17 ?_
      refine v_aload_n hX rfl qX5_push_20 ?_
      refine v_getIv hX g_X5_108 (Or.inl rfl) (hs.kd 17 rfl) hst.1 qX5_push_21 ?_
      refine v_iload_n hX rfl qX5_push_24 ?_
      refine v_iastJ hX (hs.kd 21 rfl) (hs.ln 21 rfl) (by exact ix_n hl rfl) qX5_push_25 ?_
      refine v_aload_n hX rfl qX5_push_26 ?_
      refine v_dup hX rfl qX5_push_27 ?_
      refine v_getIv hX g_X5_108 (Or.inl rfl) (hs.kd 17 rfl) hst.1 qX5_push_28 ?_
      refine v_iconst hX li_1 qX5_push_31 ?_
      refine v_iadd hX qX5_push_32 ?_
      refine v_eqI (nI_1 _) ?_
      refine v_putI hX p_X5_108 (hs.kd 17 rfl) (Or.inl rfl) qX5_push_33 ?_
      refine v_return hX qX5_push_36 (hP _ _ ?_)
      exact ⟨rfl, rfl⟩
theorem qX5_pop_0 : Dq cX5_pop 0 (.aload_n 0) 1 1 := ⟨by decide +kernel, rfl⟩
theorem qX5_pop_1 : Dq cX5_pop 1 (.getfield 108) 3 4 := ⟨by decide +kernel, rfl⟩
theorem qX5_pop_4 : Dq cX5_pop 4 (.ifCond .le 12) 3 7 := ⟨by decide +kernel, rfl⟩
theorem qX5_pop_7 : Dq cX5_pop 7 (.aload_n 0) 1 8 := ⟨by decide +kernel, rfl⟩
theorem qX5_pop_8 : Dq cX5_pop 8 (.getfield 108) 3 11 := ⟨by decide +kernel, rfl⟩
theorem qX5_pop_11 : Dq cX5_pop 11 (.bipush 31) 2 13 := ⟨by decide +kernel, rfl⟩
theorem qX5_pop_13 : Dq cX5_pop 13 (.if_icmp .le 5) 3 16 := ⟨by decide +kernel, rfl⟩
theorem qX5_pop_18 : Dq cX5_pop 18 (.aload_n 0) 1 19 := ⟨by decide +kernel, rfl⟩
theorem qX5_pop_19 : Dq cX5_pop 19 (.dup) 1 20 := ⟨by decide +kernel, rfl⟩
theorem qX5_pop_20 : Dq cX5_pop 20 (.getfield 108) 3 23 := ⟨by decide +kernel, rfl⟩
theorem qX5_pop_23 : Dq cX5_pop 23 (.iconst 1) 1 24 := ⟨by decide +kernel, rfl⟩
theorem qX5_pop_24 : Dq cX5_pop 24 (.isub) 1 25 := ⟨by decide +kernel, rfl⟩
theorem qX5_pop_25 : Dq cX5_pop 25 (.putfield 108) 3 28 := ⟨by decide +kernel, rfl⟩
theorem qX5_pop_28 : Dq cX5_pop 28 (.aload_n 0) 1 29 := ⟨by decide +kernel, rfl⟩
theorem qX5_pop_29 : Dq cX5_pop 29 (.getfield 21) 3 32 := ⟨by decide +kernel, rfl⟩
theorem qX5_pop_32 : Dq cX5_pop 32 (.aload_n 0) 1 33 := ⟨by decide +kernel, rfl⟩
theorem qX5_pop_33 : Dq cX5_pop 33 (.getfield 108) 3 36 := ⟨by decide +kernel, rfl⟩
theorem qX5_pop_36 : Dq cX5_pop 36 (.iaload) 1 37 := ⟨by decide +kernel, rfl⟩
theorem qX5_pop_37 : Dq cX5_pop 37 (.ireturn) 1 38 := ⟨by decide +kernel, rfl⟩
set_option maxRecDepth 100000 in
set_option maxHeartbeats 4000000 in
theorem c_pop {G : Glb} {h : AHp} (hs : ShC h) {v : Int32} {t : List Int32} (hst : Stk h (v :: t)) : CP G m_X5_pop 1 0 0 [.ref 17] h (fun r h' => r = some (.int v) ∧ stI h 17 5 (nI t.length) = h') := by
  suffices key : ∀ P : Option Value → AHp → Prop, (∀ r h', (r = some (.int v) ∧ stI h 17 5 (nI t.length) = h') → P r h') → CP G m_X5_pop 1 0 0 [.ref 17] h P from key _ (fun _ _ z => z)
  intro P hP
  refine CP.of (by decide +kernel) (Nat.le_of_ble_eq_true rfl) fun X hX hR hnm => ?_
  show V X G 1 0 0 _ 0 [some (.ref 17)] [] h
  have hl := hst.2.1
  rw [List.length_cons] at hl
  have hz := hst.1
  rw [List.length_cons] at hz
  refine v_aload_n hX rfl qX5_pop_0 ?_
  refine v_getIv hX g_X5_108 (Or.inl rfl) (hs.kd 17 rfl) hz qX5_pop_1 ?_
  refine v_if_leS hX 16 qX5_pop_4 rfl (fun q4 => ?_) (fun q4 => ?_)
  · exact absurd q4 (nI_nle (by omega) (by omega))
  · skip
    refine v_aload_n hX rfl qX5_pop_7 ?_
    refine v_getIv hX g_X5_108 (Or.inl rfl) (hs.kd 17 rfl) hz qX5_pop_8 ?_
    refine v_bipush hX lb_31 qX5_pop_11 ?_
    refine v_icmp_leS hX 18 qX5_pop_13 rfl (fun q13 => ?_) (fun q13 => ?_)
    · skip
      refine v_aload_n hX rfl qX5_pop_18 ?_
      refine v_dup hX rfl qX5_pop_19 ?_
      refine v_getIv hX g_X5_108 (Or.inl rfl) (hs.kd 17 rfl) hz qX5_pop_20 ?_
      refine v_iconst hX li_1 qX5_pop_23 ?_
      refine v_isub hX qX5_pop_24 ?_
      refine v_eqI (nI_pred _) ?_
      refine v_putI hX p_X5_108 (hs.kd 17 rfl) (Or.inl rfl) qX5_pop_25 ?_
      refine v_aload_n hX rfl qX5_pop_28 ?_
      refine v_getR hX g_X5_21 (hs.kd 17 rfl) (hs.rf 22 rfl) qX5_pop_29 ?_
      refine v_aload_n hX rfl qX5_pop_32 ?_
      refine v_getIv hX g_X5_108 (Or.inl rfl) (hs.kd 17 rfl) (show hpI (stI h 17 5 (nI t.length)) 17 5 = nI t.length by simp [hpI_st]) qX5_pop_33 ?_
      refine v_ialdV hX (hs.kd 21 rfl) (hs.ln 21 rfl) (by exact ix_n (n := t.length) (by omega) rfl) (show hpI (stI h 17 5 (nI t.length)) 21 t.length = v by rw [hpI_st, if_neg (by omega)]; exact hst.top) qX5_pop_36 ?_
      refine v_ireturn hX qX5_pop_37 (hP _ _ ?_)
      exact ⟨rfl, rfl⟩
    · exact absurd (ltI.mp q13) (by have := nI_toInt (n := t.length + 1) (by omega); have e : (31 : Int32).toInt = 31 := rfl; omega)
theorem rz {x y : Int32} (e : y = x) : some (Value.int x) = some (Value.int y) := by rw [e]
theorem qX5_joined_0 : Dq cX5_joined 0 (.iload_n 0) 1 1 := ⟨by decide +kernel, rfl⟩
theorem qX5_joined_1 : Dq cX5_joined 1 (.tableswitch 101 (-13) (-7) #[97, 93, 82, 71, 101, 57, 43]) 43 44 := ⟨by decide +kernel, rfl⟩
theorem qX5_joined_44 : Dq cX5_joined 44 (.iload_n 1) 1 45 := ⟨by decide +kernel, rfl⟩
theorem qX5_joined_45 : Dq cX5_joined 45 (.ifCond .ne 7) 3 48 := ⟨by decide +kernel, rfl⟩
theorem qX5_joined_48 : Dq cX5_joined 48 (.iload_n 2) 1 49 := ⟨by decide +kernel, rfl⟩
theorem qX5_joined_49 : Dq cX5_joined 49 (.ifCond .eq 7) 3 52 := ⟨by decide +kernel, rfl⟩
theorem qX5_joined_52 : Dq cX5_joined 52 (.iconst 1) 1 53 := ⟨by decide +kernel, rfl⟩
theorem qX5_joined_53 : Dq cX5_joined 53 (.goto 4) 3 56 := ⟨by decide +kernel, rfl⟩
theorem qX5_joined_56 : Dq cX5_joined 56 (.iconst 0) 1 57 := ⟨by decide +kernel, rfl⟩
theorem qX5_joined_57 : Dq cX5_joined 57 (.ireturn) 1 58 := ⟨by decide +kernel, rfl⟩
theorem qX5_joined_58 : Dq cX5_joined 58 (.iload_n 1) 1 59 := ⟨by decide +kernel, rfl⟩
theorem qX5_joined_59 : Dq cX5_joined 59 (.ifCond .eq 11) 3 62 := ⟨by decide +kernel, rfl⟩
theorem qX5_joined_62 : Dq cX5_joined 62 (.iload_n 2) 1 63 := ⟨by decide +kernel, rfl⟩
theorem qX5_joined_63 : Dq cX5_joined 63 (.ifCond .eq 7) 3 66 := ⟨by decide +kernel, rfl⟩
theorem qX5_joined_66 : Dq cX5_joined 66 (.iconst 1) 1 67 := ⟨by decide +kernel, rfl⟩
theorem qX5_joined_67 : Dq cX5_joined 67 (.goto 4) 3 70 := ⟨by decide +kernel, rfl⟩
theorem qX5_joined_70 : Dq cX5_joined 70 (.iconst 0) 1 71 := ⟨by decide +kernel, rfl⟩
theorem qX5_joined_71 : Dq cX5_joined 71 (.ireturn) 1 72 := ⟨by decide +kernel, rfl⟩
theorem qX5_joined_72 : Dq cX5_joined 72 (.iload_n 1) 1 73 := ⟨by decide +kernel, rfl⟩
theorem qX5_joined_73 : Dq cX5_joined 73 (.iload_n 2) 1 74 := ⟨by decide +kernel, rfl⟩
theorem qX5_joined_74 : Dq cX5_joined 74 (.if_icmp .ge 7) 3 77 := ⟨by decide +kernel, rfl⟩
theorem qX5_joined_77 : Dq cX5_joined 77 (.iconst 1) 1 78 := ⟨by decide +kernel, rfl⟩
theorem qX5_joined_78 : Dq cX5_joined 78 (.goto 4) 3 81 := ⟨by decide +kernel, rfl⟩
theorem qX5_joined_81 : Dq cX5_joined 81 (.iconst 0) 1 82 := ⟨by decide +kernel, rfl⟩
theorem qX5_joined_82 : Dq cX5_joined 82 (.ireturn) 1 83 := ⟨by decide +kernel, rfl⟩
theorem qX5_joined_83 : Dq cX5_joined 83 (.iload_n 1) 1 84 := ⟨by decide +kernel, rfl⟩
theorem qX5_joined_84 : Dq cX5_joined 84 (.iload_n 2) 1 85 := ⟨by decide +kernel, rfl⟩
theorem qX5_joined_85 : Dq cX5_joined 85 (.if_icmp .ne 7) 3 88 := ⟨by decide +kernel, rfl⟩
theorem qX5_joined_88 : Dq cX5_joined 88 (.iconst 1) 1 89 := ⟨by decide +kernel, rfl⟩
theorem qX5_joined_89 : Dq cX5_joined 89 (.goto 4) 3 92 := ⟨by decide +kernel, rfl⟩
theorem qX5_joined_92 : Dq cX5_joined 92 (.iconst 0) 1 93 := ⟨by decide +kernel, rfl⟩
theorem qX5_joined_93 : Dq cX5_joined 93 (.ireturn) 1 94 := ⟨by decide +kernel, rfl⟩
theorem qX5_joined_94 : Dq cX5_joined 94 (.iload_n 1) 1 95 := ⟨by decide +kernel, rfl⟩
theorem qX5_joined_95 : Dq cX5_joined 95 (.iload_n 2) 1 96 := ⟨by decide +kernel, rfl⟩
theorem qX5_joined_96 : Dq cX5_joined 96 (.iadd) 1 97 := ⟨by decide +kernel, rfl⟩
theorem qX5_joined_97 : Dq cX5_joined 97 (.ireturn) 1 98 := ⟨by decide +kernel, rfl⟩
theorem qX5_joined_98 : Dq cX5_joined 98 (.iload_n 1) 1 99 := ⟨by decide +kernel, rfl⟩
theorem qX5_joined_99 : Dq cX5_joined 99 (.iload_n 2) 1 100 := ⟨by decide +kernel, rfl⟩
theorem qX5_joined_100 : Dq cX5_joined 100 (.isub) 1 101 := ⟨by decide +kernel, rfl⟩
theorem qX5_joined_101 : Dq cX5_joined 101 (.ireturn) 1 102 := ⟨by decide +kernel, rfl⟩
theorem qX5_joined_102 : Dq cX5_joined 102 (.iload_n 1) 1 103 := ⟨by decide +kernel, rfl⟩
theorem qX5_joined_103 : Dq cX5_joined 103 (.iload_n 2) 1 104 := ⟨by decide +kernel, rfl⟩
theorem qX5_joined_104 : Dq cX5_joined 104 (.imul) 1 105 := ⟨by decide +kernel, rfl⟩
theorem qX5_joined_105 : Dq cX5_joined 105 (.ireturn) 1 106 := ⟨by decide +kernel, rfl⟩
set_option maxRecDepth 100000 in
set_option maxHeartbeats 4000000 in
theorem c_joined {G : Glb} {h : AHp} (c l rr : Int32) : CP G m_X5_joined 1 0 0 [.int c, .int l, .int rr] h (fun r h' => r = some (.int (joinI c l rr)) ∧ h = h') := by
  suffices key : ∀ P : Option Value → AHp → Prop, (∀ r h', (r = some (.int (joinI c l rr)) ∧ h = h') → P r h') → CP G m_X5_joined 1 0 0 [.int c, .int l, .int rr] h P from key _ (fun _ _ z => z)
  intro P hP
  refine CP.of (by decide +kernel) (Nat.le_of_ble_eq_true rfl) fun X hX hR hnm => ?_
  show V X G 3 0 0 _ 0 [some (.int c), some (.int l), some (.int rr)] [] h
  refine v_iload_n hX rfl qX5_joined_0 ?_
  refine v_case (-13 : Int32) (fun q1 => ?_) (fun q1_n13 => ?_)
  · skip
    refine v_tableIn (off := 97) hX 98 qX5_joined_1 (by first | exact (by rw [q1]; decide) | decide) (by first | exact (by rw [q1]; decide) | decide) (by first | exact (by rw [q1]; rfl) | rfl) rfl ?_
    refine v_iload_n hX rfl qX5_joined_98 ?_
    refine v_iload_n hX rfl qX5_joined_99 ?_
    refine v_isub hX qX5_joined_100 ?_
    refine v_ireturn hX qX5_joined_101 (hP _ _ ?_)
    rw [joinI, if_neg (by rw [q1]; decide), if_neg (by rw [q1]; decide), if_neg (by rw [q1]; decide), if_neg (by rw [q1]; decide), if_neg (by rw [q1]; decide), if_pos q1]
    exact ⟨rfl, rfl⟩
  refine v_case (-12 : Int32) (fun q1 => ?_) (fun q1_n12 => ?_)
  · skip
    refine v_tableIn (off := 93) hX 94 qX5_joined_1 (by first | exact (by rw [q1]; decide) | decide) (by first | exact (by rw [q1]; decide) | decide) (by first | exact (by rw [q1]; rfl) | rfl) rfl ?_
    refine v_iload_n hX rfl qX5_joined_94 ?_
    refine v_iload_n hX rfl qX5_joined_95 ?_
    refine v_iadd hX qX5_joined_96 ?_
    refine v_ireturn hX qX5_joined_97 (hP _ _ ?_)
    rw [joinI, if_neg (by rw [q1]; decide), if_neg (by rw [q1]; decide), if_neg (by rw [q1]; decide), if_neg (by rw [q1]; decide), if_pos q1]
    exact ⟨rfl, rfl⟩
  refine v_case (-11 : Int32) (fun q1 => ?_) (fun q1_n11 => ?_)
  · skip
    refine v_tableIn (off := 82) hX 83 qX5_joined_1 (by first | exact (by rw [q1]; decide) | decide) (by first | exact (by rw [q1]; decide) | decide) (by first | exact (by rw [q1]; rfl) | rfl) rfl ?_
    refine v_iload_n hX rfl qX5_joined_83 ?_
    refine v_iload_n hX rfl qX5_joined_84 ?_
    refine v_icmp_ne hX 92 qX5_joined_85 rfl (fun q85 => ?_) (fun q85 => ?_)
    · skip
      refine v_iconst hX li_0 qX5_joined_92 ?_
      refine v_ireturn hX qX5_joined_93 (hP _ _ ?_)
      rw [joinI, if_neg (by rw [q1]; decide), if_neg (by rw [q1]; decide), if_neg (by rw [q1]; decide), if_pos q1]
      first | exact ⟨rz (bz_t q85), rfl⟩ | exact ⟨rz (bz_f q85), rfl⟩
    · skip
      refine v_iconst hX li_1 qX5_joined_88 ?_
      refine v_goto hX 93 qX5_joined_89 rfl ?_
      refine v_ireturn hX qX5_joined_93 (hP _ _ ?_)
      rw [joinI, if_neg (by rw [q1]; decide), if_neg (by rw [q1]; decide), if_neg (by rw [q1]; decide), if_pos q1]
      first | exact ⟨rz (bz_t q85), rfl⟩ | exact ⟨rz (bz_f q85), rfl⟩
  refine v_case (-10 : Int32) (fun q1 => ?_) (fun q1_n10 => ?_)
  · skip
    refine v_tableIn (off := 71) hX 72 qX5_joined_1 (by first | exact (by rw [q1]; decide) | decide) (by first | exact (by rw [q1]; decide) | decide) (by first | exact (by rw [q1]; rfl) | rfl) rfl ?_
    refine v_iload_n hX rfl qX5_joined_72 ?_
    refine v_iload_n hX rfl qX5_joined_73 ?_
    refine v_icmp_geS hX 81 qX5_joined_74 rfl (fun q74 => ?_) (fun q74 => ?_)
    · skip
      refine v_iconst hX li_0 qX5_joined_81 ?_
      refine v_ireturn hX qX5_joined_82 (hP _ _ ?_)
      rw [joinI, if_neg (by rw [q1]; decide), if_neg (by rw [q1]; decide), if_pos q1]
      first | exact ⟨rz (bz_t q74), rfl⟩ | exact ⟨rz (bz_f (Int32.not_lt.mpr q74)), rfl⟩
    · skip
      refine v_iconst hX li_1 qX5_joined_77 ?_
      refine v_goto hX 82 qX5_joined_78 rfl ?_
      refine v_ireturn hX qX5_joined_82 (hP _ _ ?_)
      rw [joinI, if_neg (by rw [q1]; decide), if_neg (by rw [q1]; decide), if_pos q1]
      first | exact ⟨rz (bz_t q74), rfl⟩ | exact ⟨rz (bz_f (Int32.not_lt.mpr q74)), rfl⟩
  refine v_case (-9 : Int32) (fun q1 => ?_) (fun q1_n9 => ?_)
  · skip
    refine v_tableIn (off := 101) hX 102 qX5_joined_1 (by first | exact (by rw [q1]; decide) | decide) (by first | exact (by rw [q1]; decide) | decide) (by first | exact (by rw [q1]; rfl) | rfl) rfl ?_
    refine v_iload_n hX rfl qX5_joined_102 ?_
    refine v_iload_n hX rfl qX5_joined_103 ?_
    refine v_imul hX qX5_joined_104 ?_
    refine v_ireturn hX qX5_joined_105 (hP _ _ ?_)
    first | (rw [joinI, if_neg (by rw [q1]; decide), if_neg (by rw [q1]; decide), if_neg (by rw [q1]; decide), if_neg (by rw [q1]; decide), if_neg (by rw [q1]; decide), if_neg (by rw [q1]; decide)]; exact ⟨rfl, rfl⟩) | (rw [joinI, if_neg q1_n7, if_neg q1_n8, if_neg q1_n10, if_neg q1_n11, if_neg q1_n12, if_neg q1_n13]; exact ⟨rfl, rfl⟩)
  refine v_case (-8 : Int32) (fun q1 => ?_) (fun q1_n8 => ?_)
  · skip
    refine v_tableIn (off := 57) hX 58 qX5_joined_1 (by first | exact (by rw [q1]; decide) | decide) (by first | exact (by rw [q1]; decide) | decide) (by first | exact (by rw [q1]; rfl) | rfl) rfl ?_
    refine v_iload_n hX rfl qX5_joined_58 ?_
    first | refine v_if_eqB hX 70 qX5_joined_59 rfl (fun q59 => ?_) (fun q59 => ?_) | refine v_if_eq hX 70 qX5_joined_59 rfl (fun q59 => ?_) (fun q59 => ?_)
    · skip
      refine v_iconst hX li_0 qX5_joined_70 ?_
      refine v_ireturn hX qX5_joined_71 (hP _ _ ?_)
      rw [joinI, if_neg (by rw [q1]; decide), if_pos q1]
      first | exact ⟨rz (bz_f (fun z => z.1 q59)), rfl⟩ | exact ⟨rz (bz_f (fun z => z.2 q63)), rfl⟩ | exact ⟨rz (bz_t ⟨q59, q63⟩), rfl⟩
    · skip
      refine v_iload_n hX rfl qX5_joined_62 ?_
      first | refine v_if_eqB hX 70 qX5_joined_63 rfl (fun q63 => ?_) (fun q63 => ?_) | refine v_if_eq hX 70 qX5_joined_63 rfl (fun q63 => ?_) (fun q63 => ?_)
      · skip
        refine v_iconst hX li_0 qX5_joined_70 ?_
        refine v_ireturn hX qX5_joined_71 (hP _ _ ?_)
        rw [joinI, if_neg (by rw [q1]; decide), if_pos q1]
        first | exact ⟨rz (bz_f (fun z => z.1 q59)), rfl⟩ | exact ⟨rz (bz_f (fun z => z.2 q63)), rfl⟩ | exact ⟨rz (bz_t ⟨q59, q63⟩), rfl⟩
      · skip
        refine v_iconst hX li_1 qX5_joined_66 ?_
        refine v_goto hX 71 qX5_joined_67 rfl ?_
        refine v_ireturn hX qX5_joined_71 (hP _ _ ?_)
        rw [joinI, if_neg (by rw [q1]; decide), if_pos q1]
        first | exact ⟨rz (bz_f (fun z => z.1 q59)), rfl⟩ | exact ⟨rz (bz_f (fun z => z.2 q63)), rfl⟩ | exact ⟨rz (bz_t ⟨q59, q63⟩), rfl⟩
  refine v_case (-7 : Int32) (fun q1 => ?_) (fun q1_n7 => ?_)
  · skip
    refine v_tableIn (off := 43) hX 44 qX5_joined_1 (by first | exact (by rw [q1]; decide) | decide) (by first | exact (by rw [q1]; decide) | decide) (by first | exact (by rw [q1]; rfl) | rfl) rfl ?_
    refine v_iload_n hX rfl qX5_joined_44 ?_
    first | refine v_if_neB hX 52 qX5_joined_45 rfl (fun q45 => ?_) (fun q45 => ?_) | refine v_if_ne hX 52 qX5_joined_45 rfl (fun q45 => ?_) (fun q45 => ?_)
    · skip
      refine v_iconst hX li_1 qX5_joined_52 ?_
      refine v_goto hX 57 qX5_joined_53 rfl ?_
      refine v_ireturn hX qX5_joined_57 (hP _ _ ?_)
      rw [joinI, if_pos q1]
      first | exact ⟨rz (bz_t (Or.inl q45)), rfl⟩ | exact ⟨rz (bz_t (Or.inr q49)), rfl⟩ | exact ⟨rz (bz_f (fun z => z.elim (fun y => y q45) (fun y => y q49))), rfl⟩
    · skip
      refine v_iload_n hX rfl qX5_joined_48 ?_
      first | refine v_if_eqB hX 56 qX5_joined_49 rfl (fun q49 => ?_) (fun q49 => ?_) | refine v_if_eq hX 56 qX5_joined_49 rfl (fun q49 => ?_) (fun q49 => ?_)
      · skip
        refine v_iconst hX li_0 qX5_joined_56 ?_
        refine v_ireturn hX qX5_joined_57 (hP _ _ ?_)
        rw [joinI, if_pos q1]
        first | exact ⟨rz (bz_t (Or.inl q45)), rfl⟩ | exact ⟨rz (bz_t (Or.inr q49)), rfl⟩ | exact ⟨rz (bz_f (fun z => z.elim (fun y => y q45) (fun y => y q49))), rfl⟩
      · skip
        refine v_iconst hX li_1 qX5_joined_52 ?_
        refine v_goto hX 57 qX5_joined_53 rfl ?_
        refine v_ireturn hX qX5_joined_57 (hP _ _ ?_)
        rw [joinI, if_pos q1]
        first | exact ⟨rz (bz_t (Or.inl q45)), rfl⟩ | exact ⟨rz (bz_t (Or.inr q49)), rfl⟩ | exact ⟨rz (bz_f (fun z => z.elim (fun y => y q45) (fun y => y q49))), rfl⟩
  refine v_tableOut hX 102 qX5_joined_1 ?_ rfl ?_
  · have zn13 := ne_i (-13) (by decide) q1_n13; have zn12 := ne_i (-12) (by decide) q1_n12; have zn11 := ne_i (-11) (by decide) q1_n11; have zn10 := ne_i (-10) (by decide) q1_n10; have zn9 := ne_i (-9) (by decide) q1_n9; have zn8 := ne_i (-8) (by decide) q1_n8; have zn7 := ne_i (-7) (by decide) q1_n7; omega
  refine v_iload_n hX rfl qX5_joined_102 ?_
  refine v_iload_n hX rfl qX5_joined_103 ?_
  refine v_imul hX qX5_joined_104 ?_
  refine v_ireturn hX qX5_joined_105 (hP _ _ ?_)
  first | (rw [joinI, if_neg (by rw [q1]; decide), if_neg (by rw [q1]; decide), if_neg (by rw [q1]; decide), if_neg (by rw [q1]; decide), if_neg (by rw [q1]; decide), if_neg (by rw [q1]; decide)]; exact ⟨rfl, rfl⟩) | (rw [joinI, if_neg q1_n7, if_neg q1_n8, if_neg q1_n10, if_neg q1_n11, if_neg q1_n12, if_neg q1_n13]; exact ⟨rfl, rfl⟩)
section EVI
variable {env : Nat → Int32} {c : Int32} {s s' : List Int32}
theorem ev1_num (h : ev1 env c s = some s') (hc : 0 ≤ c) : s.length < 31 ∧ s' = c :: s := by
  rw [ev1, if_pos hc] at h
  by_cases hl : s.length < 31
  · rw [if_pos hl] at h; exact ⟨hl, (Option.some.inj h).symm⟩
  · rw [if_neg hl] at h; cases h
theorem ev1_name (h : ev1 env c s = some s') (hc : c < 0) (h6 : -6 ≤ c) : s.length < 31 ∧ s' = env (tn (-1 - c)) :: s := by
  rw [ev1, if_neg (Int32.not_le.mpr hc), if_pos h6] at h
  by_cases hl : s.length < 31
  · rw [if_pos hl] at h; exact ⟨hl, (Option.some.inj h).symm⟩
  · rw [if_neg hl] at h; cases h
theorem ev1_not (h : ev1 env c s = some s') (hc : c = -9) : ∃ v t, s = v :: t ∧ s' = bz (v = 0) :: t := by
  subst hc
  rw [ev1, if_neg (by decide), if_neg (by decide), if_pos rfl] at h
  cases s with
  | nil => cases h
  | cons v t => exact ⟨v, t, rfl, (Option.some.inj h).symm⟩
theorem ev1_neg (h : ev1 env c s = some s') (hc : c = -15) : ∃ v t, s = v :: t ∧ s' = -v :: t := by
  subst hc
  rw [ev1, if_neg (by decide), if_neg (by decide), if_neg (by decide), if_pos rfl] at h
  cases s with
  | nil => cases h
  | cons v t => exact ⟨v, t, rfl, (Option.some.inj h).symm⟩
theorem ev1_two (h : ev1 env c s = some s') (hc : c < 0) (h6 : c < -6) (h9 : ¬ c = -9) (h15 : ¬ c = -15) : ∃ r l t, s = r :: l :: t ∧ s' = joinI c l r :: t := by
  rw [ev1, if_neg (Int32.not_le.mpr hc), if_neg (Int32.not_le.mpr h6), if_neg h9, if_neg h15] at h
  rcases s with _ | ⟨r, _ | ⟨l, t⟩⟩
  · cases h
  · cases h
  · exact ⟨r, l, t, rfl, (Option.some.inj h).symm⟩
end EVI
theorem qX5_take_0 : Dq cX5_take 0 (.iload_n 1) 1 1 := ⟨by decide +kernel, rfl⟩
theorem qX5_take_1 : Dq cX5_take 1 (.ifCond .lt 11) 3 4 := ⟨by decide +kernel, rfl⟩
theorem qX5_take_4 : Dq cX5_take 4 (.aload_n 0) 1 5 := ⟨by decide +kernel, rfl⟩
theorem qX5_take_5 : Dq cX5_take 5 (.iload_n 1) 1 6 := ⟨by decide +kernel, rfl⟩
theorem qX5_take_6 : Dq cX5_take 6 (.invokevirtual 122) 3 9 := ⟨by decide +kernel, rfl⟩
theorem qX5_take_9 : Dq cX5_take 9 (.goto 85) 3 12 := ⟨by decide +kernel, rfl⟩
theorem qX5_take_12 : Dq cX5_take 12 (.iload_n 1) 1 13 := ⟨by decide +kernel, rfl⟩
theorem qX5_take_13 : Dq cX5_take 13 (.bipush (-6)) 2 15 := ⟨by decide +kernel, rfl⟩
theorem qX5_take_15 : Dq cX5_take 15 (.if_icmp .lt 18) 3 18 := ⟨by decide +kernel, rfl⟩
theorem qX5_take_18 : Dq cX5_take 18 (.aload_n 0) 1 19 := ⟨by decide +kernel, rfl⟩
theorem qX5_take_19 : Dq cX5_take 19 (.aload_n 0) 1 20 := ⟨by decide +kernel, rfl⟩
theorem qX5_take_20 : Dq cX5_take 20 (.getfield 18) 3 23 := ⟨by decide +kernel, rfl⟩
theorem qX5_take_23 : Dq cX5_take 23 (.iconst (-1)) 1 24 := ⟨by decide +kernel, rfl⟩
theorem qX5_take_24 : Dq cX5_take 24 (.iload_n 1) 1 25 := ⟨by decide +kernel, rfl⟩
theorem qX5_take_25 : Dq cX5_take 25 (.isub) 1 26 := ⟨by decide +kernel, rfl⟩
theorem qX5_take_26 : Dq cX5_take 26 (.iaload) 1 27 := ⟨by decide +kernel, rfl⟩
theorem qX5_take_27 : Dq cX5_take 27 (.invokevirtual 122) 3 30 := ⟨by decide +kernel, rfl⟩
theorem qX5_take_30 : Dq cX5_take 30 (.goto 64) 3 33 := ⟨by decide +kernel, rfl⟩
theorem qX5_take_33 : Dq cX5_take 33 (.iload_n 1) 1 34 := ⟨by decide +kernel, rfl⟩
theorem qX5_take_34 : Dq cX5_take 34 (.bipush (-9)) 2 36 := ⟨by decide +kernel, rfl⟩
theorem qX5_take_36 : Dq cX5_take 36 (.if_icmp .ne 22) 3 39 := ⟨by decide +kernel, rfl⟩
theorem qX5_take_39 : Dq cX5_take 39 (.aload_n 0) 1 40 := ⟨by decide +kernel, rfl⟩
theorem qX5_take_40 : Dq cX5_take 40 (.aload_n 0) 1 41 := ⟨by decide +kernel, rfl⟩
theorem qX5_take_41 : Dq cX5_take 41 (.invokevirtual 118) 3 44 := ⟨by decide +kernel, rfl⟩
theorem qX5_take_44 : Dq cX5_take 44 (.ifCond .ne 7) 3 47 := ⟨by decide +kernel, rfl⟩
theorem qX5_take_47 : Dq cX5_take 47 (.iconst 1) 1 48 := ⟨by decide +kernel, rfl⟩
theorem qX5_take_48 : Dq cX5_take 48 (.goto 4) 3 51 := ⟨by decide +kernel, rfl⟩
theorem qX5_take_51 : Dq cX5_take 51 (.iconst 0) 1 52 := ⟨by decide +kernel, rfl⟩
theorem qX5_take_52 : Dq cX5_take 52 (.invokevirtual 122) 3 55 := ⟨by decide +kernel, rfl⟩
theorem qX5_take_55 : Dq cX5_take 55 (.goto 39) 3 58 := ⟨by decide +kernel, rfl⟩
theorem qX5_take_58 : Dq cX5_take 58 (.iload_n 1) 1 59 := ⟨by decide +kernel, rfl⟩
theorem qX5_take_59 : Dq cX5_take 59 (.bipush (-15)) 2 61 := ⟨by decide +kernel, rfl⟩
theorem qX5_take_61 : Dq cX5_take 61 (.if_icmp .ne 15) 3 64 := ⟨by decide +kernel, rfl⟩
theorem qX5_take_64 : Dq cX5_take 64 (.aload_n 0) 1 65 := ⟨by decide +kernel, rfl⟩
theorem qX5_take_65 : Dq cX5_take 65 (.aload_n 0) 1 66 := ⟨by decide +kernel, rfl⟩
theorem qX5_take_66 : Dq cX5_take 66 (.invokevirtual 118) 3 69 := ⟨by decide +kernel, rfl⟩
theorem qX5_take_69 : Dq cX5_take 69 (.ineg) 1 70 := ⟨by decide +kernel, rfl⟩
theorem qX5_take_70 : Dq cX5_take 70 (.invokevirtual 122) 3 73 := ⟨by decide +kernel, rfl⟩
theorem qX5_take_73 : Dq cX5_take 73 (.goto 21) 3 76 := ⟨by decide +kernel, rfl⟩
theorem qX5_take_76 : Dq cX5_take 76 (.aload_n 0) 1 77 := ⟨by decide +kernel, rfl⟩
theorem qX5_take_77 : Dq cX5_take 77 (.invokevirtual 118) 3 80 := ⟨by decide +kernel, rfl⟩
theorem qX5_take_80 : Dq cX5_take 80 (.istore_n 2) 1 81 := ⟨by decide +kernel, rfl⟩
theorem qX5_take_81 : Dq cX5_take 81 (.aload_n 0) 1 82 := ⟨by decide +kernel, rfl⟩
theorem qX5_take_82 : Dq cX5_take 82 (.iload_n 1) 1 83 := ⟨by decide +kernel, rfl⟩
theorem qX5_take_83 : Dq cX5_take 83 (.aload_n 0) 1 84 := ⟨by decide +kernel, rfl⟩
theorem qX5_take_84 : Dq cX5_take 84 (.invokevirtual 118) 3 87 := ⟨by decide +kernel, rfl⟩
theorem qX5_take_87 : Dq cX5_take 87 (.iload_n 2) 1 88 := ⟨by decide +kernel, rfl⟩
theorem qX5_take_88 : Dq cX5_take 88 (.invokestatic 125) 3 91 := ⟨by decide +kernel, rfl⟩
theorem qX5_take_91 : Dq cX5_take 91 (.invokevirtual 122) 3 94 := ⟨by decide +kernel, rfl⟩
theorem qX5_take_94 : Dq cX5_take 94 (.return_) 1 95 := ⟨by decide +kernel, rfl⟩
set_option maxRecDepth 100000 in
set_option maxHeartbeats 4000000 in
theorem c_take {G : Glb} {h : AHp} (hs : ShC h) {s : List Int32} (hst : Stk h s) {s' : List Int32} {env : Nat → Int32} {c : Int32} (hnm6 : ∀ k, k < 6 → hpI h 20 k = env k) (hev : ev1 env c s = some s') : CP G m_X5_take 2 0 0 [.ref 17, .int c] h (fun r h' => r = none ∧ ∃ σ, h' = (σ, h.2) ∧ FrS h σ ∧ Stk (σ, h.2) s') := by
  suffices key : ∀ P : Option Value → AHp → Prop, (∀ r h', (r = none ∧ ∃ σ, h' = (σ, h.2) ∧ FrS h σ ∧ Stk (σ, h.2) s') → P r h') → CP G m_X5_take 2 0 0 [.ref 17, .int c] h P from key _ (fun _ _ z => z)
  intro P hP
  refine CP.of (by decide +kernel) (Nat.le_of_ble_eq_true rfl) fun X hX hR hnm => ?_
  show V X G 3 0 0 _ 0 [some (.ref 17), some (.int c), none] [] h
  refine v_iload_n hX rfl qX5_take_0 ?_
  refine v_if_ltS hX 12 qX5_take_1 rfl (fun q1 => ?_) (fun q1 => ?_)
  · skip
    refine v_iload_n hX rfl qX5_take_12 ?_
    refine v_bipush hX lb_n6 qX5_take_13 ?_
    refine v_icmp_ltS hX 33 qX5_take_15 rfl (fun q15 => ?_) (fun q15 => ?_)
    · skip
      refine v_iload_n hX rfl qX5_take_33 ?_
      refine v_bipush hX lb_n9 qX5_take_34 ?_
      refine v_icmp_ne hX 58 qX5_take_36 rfl (fun q36 => ?_) (fun q36 => ?_)
      · skip
        refine v_iload_n hX rfl qX5_take_58 ?_
        refine v_bipush hX lb_n15 qX5_take_59 ?_
        refine v_icmp_ne hX 76 qX5_take_61 rfl (fun q61 => ?_) (fun q61 => ?_)
        · obtain ⟨r, l, t, hs1, hs'⟩ := ev1_two hev q1 q15 q36 q61; subst hs1; subst hs'; have hst2 := hst.pop; have hst3 := hst2.pop; have hl : t.length < 31 := by have := hst.2.1; simp at this; omega
          have hfin := hst3.push (joinI c l r) hl
          refine v_aload_n hX rfl qX5_take_76 ?_
          refine v_callVq hX hR k_X5_118 (hs.kd 17 rfl) (c_pop (by exact hs) (by assumption)) rfl (Nat.le_of_ble_eq_true rfl) rfl (Nat.le_of_ble_eq_true rfl) ⟨Nat.le_of_ble_eq_true rfl, Nat.le_of_ble_eq_true rfl⟩ qX5_take_77 ?_
          rintro _ _ ⟨rfl, rfl⟩
          refine v_istore_n hX (Nat.le_of_ble_eq_true rfl) rfl (ls' := [some _, some _, some _]) rfl qX5_take_80 ?_
          refine v_aload_n hX rfl qX5_take_81 ?_
          refine v_iload_n hX rfl qX5_take_82 ?_
          refine v_aload_n hX rfl qX5_take_83 ?_
          refine v_callVq hX hR k_X5_118 (hs.kd 17 rfl) (c_pop (by exact hs) (by assumption)) rfl (Nat.le_of_ble_eq_true rfl) rfl (Nat.le_of_ble_eq_true rfl) ⟨Nat.le_of_ble_eq_true rfl, Nat.le_of_ble_eq_true rfl⟩ qX5_take_84 ?_
          rintro _ _ ⟨rfl, rfl⟩
          refine v_iload_n hX rfl qX5_take_87 ?_
          refine v_callSq hX hR k_X5_125 (c_joined _ _ _) rfl (Nat.le_of_ble_eq_true rfl) rfl (Nat.le_of_ble_eq_true rfl) ⟨Nat.le_of_ble_eq_true rfl, Nat.le_of_ble_eq_true rfl⟩ qX5_take_88 ?_
          rintro _ _ ⟨rfl, rfl⟩
          refine v_callVq hX hR k_X5_122 (hs.kd 17 rfl) (c_push (by exact hs) (by assumption) (by assumption) _) rfl (Nat.le_of_ble_eq_true rfl) rfl (Nat.le_of_ble_eq_true rfl) ⟨Nat.le_of_ble_eq_true rfl, Nat.le_of_ble_eq_true rfl⟩ qX5_take_91 ?_
          rintro _ _ ⟨rfl, rfl⟩
          refine v_return hX qX5_take_94 (hP _ _ ?_)
          refine ⟨rfl, _, rfl, fun a k h1 h2 => ?_, hfin⟩
          show hpI (stI _ _ _ _) _ _ = _
          simp [hpI_st, h1, h2]
        · obtain ⟨v, t, hs1, hs'⟩ := ev1_neg hev q61; subst hs1; subst hs'; have hst2 := hst.pop; have hl : t.length < 31 := by have := hst.2.1; simp at this; omega
          have hfin := hst2.push (-v) hl
          refine v_aload_n hX rfl qX5_take_64 ?_
          refine v_aload_n hX rfl qX5_take_65 ?_
          refine v_callVq hX hR k_X5_118 (hs.kd 17 rfl) (c_pop (by exact hs) (by assumption)) rfl (Nat.le_of_ble_eq_true rfl) rfl (Nat.le_of_ble_eq_true rfl) ⟨Nat.le_of_ble_eq_true rfl, Nat.le_of_ble_eq_true rfl⟩ qX5_take_66 ?_
          rintro _ _ ⟨rfl, rfl⟩
          refine v_ineg hX qX5_take_69 ?_
          refine v_callVq hX hR k_X5_122 (hs.kd 17 rfl) (c_push (by exact hs) (by assumption) (by assumption) _) rfl (Nat.le_of_ble_eq_true rfl) rfl (Nat.le_of_ble_eq_true rfl) ⟨Nat.le_of_ble_eq_true rfl, Nat.le_of_ble_eq_true rfl⟩ qX5_take_70 ?_
          rintro _ _ ⟨rfl, rfl⟩
          refine v_goto hX 94 qX5_take_73 rfl ?_
          refine v_return hX qX5_take_94 (hP _ _ ?_)
          refine ⟨rfl, _, rfl, fun a k h1 h2 => ?_, hfin⟩
          show hpI (stI _ _ _ _) _ _ = _
          simp [hpI_st, h1, h2]
      · obtain ⟨v, t, hs1, hs'⟩ := ev1_not hev q36; subst hs1; subst hs'; have hst2 := hst.pop; have hl : t.length < 31 := by have := hst.2.1; simp at this; omega
        refine v_aload_n hX rfl qX5_take_39 ?_
        refine v_aload_n hX rfl qX5_take_40 ?_
        refine v_callVq hX hR k_X5_118 (hs.kd 17 rfl) (c_pop (by exact hs) (by assumption)) rfl (Nat.le_of_ble_eq_true rfl) rfl (Nat.le_of_ble_eq_true rfl) ⟨Nat.le_of_ble_eq_true rfl, Nat.le_of_ble_eq_true rfl⟩ qX5_take_41 ?_
        rintro _ _ ⟨rfl, rfl⟩
        first | refine v_if_neB hX 51 qX5_take_44 rfl (fun q44 => ?_) (fun q44 => ?_) | refine v_if_ne hX 51 qX5_take_44 rfl (fun q44 => ?_) (fun q44 => ?_)
        · have hfin := hst2.push 0 hl; rw [show bz (v = 0) = 0 from bz_f q44] at hP
          refine v_iconst hX li_0 qX5_take_51 ?_
          refine v_callVq hX hR k_X5_122 (hs.kd 17 rfl) (c_push (by exact hs) (by assumption) (by assumption) _) rfl (Nat.le_of_ble_eq_true rfl) rfl (Nat.le_of_ble_eq_true rfl) ⟨Nat.le_of_ble_eq_true rfl, Nat.le_of_ble_eq_true rfl⟩ qX5_take_52 ?_
          rintro _ _ ⟨rfl, rfl⟩
          refine v_goto hX 94 qX5_take_55 rfl ?_
          refine v_return hX qX5_take_94 (hP _ _ ?_)
          refine ⟨rfl, _, rfl, fun a k h1 h2 => ?_, hfin⟩
          show hpI (stI _ _ _ _) _ _ = _
          simp [hpI_st, h1, h2]
        · have hfin := hst2.push 1 hl; rw [show bz (v = 0) = 1 from bz_t q44] at hP
          refine v_iconst hX li_1 qX5_take_47 ?_
          refine v_goto hX 52 qX5_take_48 rfl ?_
          refine v_callVq hX hR k_X5_122 (hs.kd 17 rfl) (c_push (by exact hs) (by assumption) (by assumption) _) rfl (Nat.le_of_ble_eq_true rfl) rfl (Nat.le_of_ble_eq_true rfl) ⟨Nat.le_of_ble_eq_true rfl, Nat.le_of_ble_eq_true rfl⟩ qX5_take_52 ?_
          rintro _ _ ⟨rfl, rfl⟩
          refine v_goto hX 94 qX5_take_55 rfl ?_
          refine v_return hX qX5_take_94 (hP _ _ ?_)
          refine ⟨rfl, _, rfl, fun a k h1 h2 => ?_, hfin⟩
          show hpI (stI _ _ _ _) _ _ = _
          simp [hpI_st, h1, h2]
    · obtain ⟨hl, hs'⟩ := ev1_name hev q1 q15; subst hs'; have hfin := hst.push (env (tn (-1 - c))) hl
      refine v_aload_n hX rfl qX5_take_18 ?_
      refine v_aload_n hX rfl qX5_take_19 ?_
      refine v_getR hX g_X5_18 (hs.kd 17 rfl) (hs.rf 21 rfl) qX5_take_20 ?_
      refine v_iconst hX li_n1 qX5_take_23 ?_
      refine v_iload_n hX rfl qX5_take_24 ?_
      refine v_isub hX qX5_take_25 ?_
      refine v_ialdV hX (hs.kd 20 rfl) (hs.ln 20 rfl) (by exact ixNm q15 q1) (hnm6 _ (ixNm q15 q1).2.2) qX5_take_26 ?_
      refine v_callVq hX hR k_X5_122 (hs.kd 17 rfl) (c_push (by exact hs) (by assumption) (by assumption) _) rfl (Nat.le_of_ble_eq_true rfl) rfl (Nat.le_of_ble_eq_true rfl) ⟨Nat.le_of_ble_eq_true rfl, Nat.le_of_ble_eq_true rfl⟩ qX5_take_27 ?_
      rintro _ _ ⟨rfl, rfl⟩
      refine v_goto hX 94 qX5_take_30 rfl ?_
      refine v_return hX qX5_take_94 (hP _ _ ?_)
      refine ⟨rfl, _, rfl, fun a k h1 h2 => ?_, hfin⟩
      show hpI (stI _ _ _ _) _ _ = _
      simp [hpI_st, h1, h2]
  · obtain ⟨hl, hs'⟩ := ev1_num hev q1; subst hs'; have hfin := hst.push c hl
    refine v_aload_n hX rfl qX5_take_4 ?_
    refine v_iload_n hX rfl qX5_take_5 ?_
    refine v_callVq hX hR k_X5_122 (hs.kd 17 rfl) (c_push (by exact hs) (by assumption) (by assumption) _) rfl (Nat.le_of_ble_eq_true rfl) rfl (Nat.le_of_ble_eq_true rfl) ⟨Nat.le_of_ble_eq_true rfl, Nat.le_of_ble_eq_true rfl⟩ qX5_take_6 ?_
    rintro _ _ ⟨rfl, rfl⟩
    refine v_goto hX 94 qX5_take_9 rfl ?_
    refine v_return hX qX5_take_94 (hP _ _ ?_)
    refine ⟨rfl, _, rfl, fun a k h1 h2 => ?_, hfin⟩
    show hpI (stI _ _ _ _) _ _ = _
    simp [hpI_st, h1, h2]
end
section
/-! what the rule tells of a cell: value, stand, isWetBy, survey and its memory -/
/-- the texts as the class keeps them: TV t q env is what part q of text t says under env -/
def RuOK (h : AHp) (cnt : Nat) (TV : Nat → Nat → (Nat → Int32) → Int32) : Prop := hpI h 17 2 = nI cnt ∧ cnt ≤ 6 ∧ ∃ E : Nat → Nat, E 0 = 0 ∧ (∀ i, i ≤ cnt * 3 → hpI h 19 i = nI (E i) ∧ E i ≤ 960) ∧ (∀ i, i < cnt * 3 → E i ≤ E (i + 1)) ∧ E (cnt * 3) ≤ cnt * 160 ∧ ∀ t q, t < cnt → q < 3 → ∀ env, evn (hpI h 18) env (E (t * 3 + q + 1) - E (t * 3 + q)) (E (t * 3 + q)) [] = some [TV t q env]
theorem evn_s {f env : Nat → Int32} {n i : Nat} {s r : List Int32} (h : evn f env (n + 1) i s = some r) : ∃ s', ev1 env (f i) s = some s' ∧ evn f env n (i + 1) s' = some r := by
  rw [evn] at h
  cases e : ev1 env (f i) s with
  | none => rw [e] at h; cases h
  | some s' => rw [e] at h; exact ⟨s', rfl, h⟩
def envC (pl t hr d : Int32) : Nat → Int32 := fun k => match k with
  | 0 => pl / 8
  | 1 => rmI pl 8
  | 2 => d
  | 3 => t
  | 4 => hr
  | _ => mxI 0 (100 - 10 * (if 0 ≤ hr - 13 then hr - 13 else 0 - (hr - 13)))
theorem RuOK.fr {h : AHp} {cnt : Nat} {TV : Nat → Nat → (Nat → Int32) → Int32} {σ : Nat → Nat → Int32} (hr : RuOK h cnt TV) (h1 : σ 17 2 = hpI h 17 2) (h2 : σ 18 = hpI h 18) (h3 : σ 19 = hpI h 19) : RuOK (σ, h.2) cnt TV := by
  obtain ⟨a, b, E, c, d, e, f, g⟩ := hr
  refine ⟨h1.trans a, b, E, c, fun i hi => ⟨(congrFun h3 i).trans (d i hi).1, (d i hi).2⟩, e, f, ?_⟩
  show ∀ t q, t < cnt → q < 3 → ∀ env, evn (σ 18) env _ _ [] = _
  rw [h2]
  exact g
def FrW (h : AHp) (σ : Nat → Nat → Int32) : Prop := ∀ a k, a ≠ 20 → a ≠ 21 → ¬ (a = 17 ∧ k = 5) → σ a k = hpI h a k
def FrV (h : AHp) (σ : Nat → Nat → Int32) : Prop := ∀ a k, (a < 20 ∨ 25 < a) → ¬ (a = 17 ∧ (k = 5 ∨ 10 ≤ k)) → σ a k = hpI h a k
theorem RuOK.frS {h : AHp} {cnt : Nat} {TV : Nat → Nat → (Nat → Int32) → Int32} {σ : Nat → Nat → Int32} (hr : RuOK h cnt TV) (hf : FrS h σ) : RuOK (σ, h.2) cnt TV := hr.fr (hf 17 2 (by omega) (by omega)) (funext fun k => hf 18 k (by omega) (by omega)) (funext fun k => hf 19 k (by omega) (by omega))
theorem RuOK.frW {h : AHp} {cnt : Nat} {TV : Nat → Nat → (Nat → Int32) → Int32} {σ : Nat → Nat → Int32} (hr : RuOK h cnt TV) (hf : FrW h σ) : RuOK (σ, h.2) cnt TV := hr.fr (hf 17 2 (by omega) (by omega) (by omega)) (funext fun k => hf 18 k (by omega) (by omega) (by omega)) (funext fun k => hf 19 k (by omega) (by omega) (by omega))
theorem RuOK.frV {h : AHp} {cnt : Nat} {TV : Nat → Nat → (Nat → Int32) → Int32} {σ : Nat → Nat → Int32} (hr : RuOK h cnt TV) (hf : FrV h σ) : RuOK (σ, h.2) cnt TV := hr.fr (hf 17 2 (by omega) (by omega)) (funext fun k => hf 18 k (by omega) (by omega)) (funext fun k => hf 19 k (by omega) (by omega))
theorem qX5_isFull_0 : Dq cX5_isFull 0 (.aload_n 0) 1 1 := ⟨by decide +kernel, rfl⟩
theorem qX5_isFull_1 : Dq cX5_isFull 1 (.getfield 36) 3 4 := ⟨by decide +kernel, rfl⟩
theorem qX5_isFull_4 : Dq cX5_isFull 4 (.bipush 6) 2 6 := ⟨by decide +kernel, rfl⟩
theorem qX5_isFull_6 : Dq cX5_isFull 6 (.if_icmp .lt 7) 3 9 := ⟨by decide +kernel, rfl⟩
theorem qX5_isFull_9 : Dq cX5_isFull 9 (.iconst 1) 1 10 := ⟨by decide +kernel, rfl⟩
theorem qX5_isFull_10 : Dq cX5_isFull 10 (.goto 4) 3 13 := ⟨by decide +kernel, rfl⟩
theorem qX5_isFull_13 : Dq cX5_isFull 13 (.iconst 0) 1 14 := ⟨by decide +kernel, rfl⟩
theorem qX5_isFull_14 : Dq cX5_isFull 14 (.ireturn) 1 15 := ⟨by decide +kernel, rfl⟩
set_option maxRecDepth 100000 in
set_option maxHeartbeats 4000000 in
theorem c_isFull {G : Glb} {h : AHp} (hs : ShC h)  : CP G m_X5_isFull 1 0 0 [.ref 17] h (fun r h' => r = some (.int (bz (6 ≤ hpI h 17 2))) ∧ h = h') := by
  suffices key : ∀ P : Option Value → AHp → Prop, (∀ r h', (r = some (.int (bz (6 ≤ hpI h 17 2))) ∧ h = h') → P r h') → CP G m_X5_isFull 1 0 0 [.ref 17] h P from key _ (fun _ _ z => z)
  intro P hP
  refine CP.of (by decide +kernel) (Nat.le_of_ble_eq_true rfl) fun X hX hR hnm => ?_
  show V X G 1 0 0 _ 0 [some (.ref 17)] [] h
  refine v_aload_n hX rfl qX5_isFull_0 ?_
  refine v_getI hX g_X5_36 (Or.inl rfl) (hs.kd 17 rfl) qX5_isFull_1 ?_
  refine v_bipush hX lb_6 qX5_isFull_4 ?_
  refine v_icmp_ltS hX 13 qX5_isFull_6 rfl (fun q6 => ?_) (fun q6 => ?_)
  · skip
    refine v_iconst hX li_0 qX5_isFull_13 ?_
    refine v_zreturn hX (by first | exact Or.inl rfl | exact Or.inr rfl | exact bz01 _) qX5_isFull_14 (hP _ _ ?_)
    first | exact ⟨rz (bz_t (by assumption)), rfl⟩ | exact ⟨rz (bz_f (Int32.not_le.mpr (by assumption))), rfl⟩
  · skip
    refine v_iconst hX li_1 qX5_isFull_9 ?_
    refine v_goto hX 14 qX5_isFull_10 rfl ?_
    refine v_zreturn hX (by first | exact Or.inl rfl | exact Or.inr rfl | exact bz01 _) qX5_isFull_14 (hP _ _ ?_)
    first | exact ⟨rz (bz_t (by assumption)), rfl⟩ | exact ⟨rz (bz_f (Int32.not_le.mpr (by assumption))), rfl⟩
theorem qX5_hasText_0 : Dq cX5_hasText 0 (.iload_n 1) 1 1 := ⟨by decide +kernel, rfl⟩
theorem qX5_hasText_1 : Dq cX5_hasText 1 (.iconst 0) 1 2 := ⟨by decide +kernel, rfl⟩
theorem qX5_hasText_2 : Dq cX5_hasText 2 (.aload_n 0) 1 3 := ⟨by decide +kernel, rfl⟩
theorem qX5_hasText_3 : Dq cX5_hasText 3 (.getfield 36) 3 6 := ⟨by decide +kernel, rfl⟩
theorem qX5_hasText_6 : Dq cX5_hasText 6 (.iconst 1) 1 7 := ⟨by decide +kernel, rfl⟩
theorem qX5_hasText_7 : Dq cX5_hasText 7 (.isub) 1 8 := ⟨by decide +kernel, rfl⟩
theorem qX5_hasText_8 : Dq cX5_hasText 8 (.invokestatic 40) 3 11 := ⟨by decide +kernel, rfl⟩
theorem qX5_hasText_11 : Dq cX5_hasText 11 (.ireturn) 1 12 := ⟨by decide +kernel, rfl⟩
set_option maxRecDepth 100000 in
set_option maxHeartbeats 4000000 in
theorem c_hasText {G : Glb} {h : AHp} (hs : ShC h) {cnt : Nat} (hz : hpI h 17 2 = nI cnt) (hc6 : cnt ≤ 6) (i : Int32) : CP G m_X5_hasText 2 0 0 [.ref 17, .int i] h (fun r h' => r = some (.int (bz (0 ≤ i ∧ i < nI cnt))) ∧ h = h') := by
  suffices key : ∀ P : Option Value → AHp → Prop, (∀ r h', (r = some (.int (bz (0 ≤ i ∧ i < nI cnt))) ∧ h = h') → P r h') → CP G m_X5_hasText 2 0 0 [.ref 17, .int i] h P from key _ (fun _ _ z => z)
  intro P hP
  refine CP.of (by decide +kernel) (Nat.le_of_ble_eq_true rfl) fun X hX hR hnm => ?_
  show V X G 2 0 0 _ 0 [some (.ref 17), some (.int i)] [] h
  refine v_iload_n hX rfl qX5_hasText_0 ?_
  refine v_iconst hX li_0 qX5_hasText_1 ?_
  refine v_aload_n hX rfl qX5_hasText_2 ?_
  refine v_getIv hX g_X5_36 (Or.inl rfl) (hs.kd 17 rfl) hz qX5_hasText_3 ?_
  refine v_iconst hX li_1 qX5_hasText_6 ?_
  refine v_isub hX qX5_hasText_7 ?_
  refine v_callNq hX hR k_X5_40 (c_isWithin _ _ _) rfl (Nat.le_of_ble_eq_true rfl) rfl (Nat.le_of_ble_eq_true rfl) ⟨Nat.le_of_ble_eq_true rfl, Nat.le_of_ble_eq_true rfl⟩ qX5_hasText_8 ?_
  rintro _ _ ⟨rfl, rfl⟩
  refine v_zreturn hX (by first | exact Or.inl rfl | exact Or.inr rfl | exact bz01 _) qX5_hasText_11 (hP _ _ ?_)
  exact ⟨congrArg (fun z => some (Value.int z)) (bz_c (by rw [leM1 (by omega)])), rfl⟩
theorem qX5_value_0 : Dq cX5_value 0 (.aload_n 0) 1 1 := ⟨by decide +kernel, rfl⟩
theorem qX5_value_1 : Dq cX5_value 1 (.iconst 0) 1 2 := ⟨by decide +kernel, rfl⟩
theorem qX5_value_2 : Dq cX5_value 2 (.putfield 108) 3 5 := ⟨by decide +kernel, rfl⟩
theorem qX5_value_5 : Dq cX5_value 5 (.aload_n 0) 1 6 := ⟨by decide +kernel, rfl⟩
theorem qX5_value_6 : Dq cX5_value 6 (.iload_n 1) 1 7 := ⟨by decide +kernel, rfl⟩
theorem qX5_value_7 : Dq cX5_value 7 (.invokevirtual 111) 3 10 := ⟨by decide +kernel, rfl⟩
theorem qX5_value_10 : Dq cX5_value 10 (.ifCond .eq 12) 3 13 := ⟨by decide +kernel, rfl⟩
theorem qX5_value_13 : Dq cX5_value 13 (.iload_n 2) 1 14 := ⟨by decide +kernel, rfl⟩
theorem qX5_value_14 : Dq cX5_value 14 (.iconst 0) 1 15 := ⟨by decide +kernel, rfl⟩
theorem qX5_value_15 : Dq cX5_value 15 (.iconst 2) 1 16 := ⟨by decide +kernel, rfl⟩
theorem qX5_value_16 : Dq cX5_value 16 (.invokestatic 40) 3 19 := ⟨by decide +kernel, rfl⟩
theorem qX5_value_19 : Dq cX5_value 19 (.ifCond .ne 5) 3 22 := ⟨by decide +kernel, rfl⟩
theorem qX5_value_24 : Dq cX5_value 24 (.aload_n 0) 1 25 := ⟨by decide +kernel, rfl⟩
theorem qX5_value_25 : Dq cX5_value 25 (.getfield 15) 3 28 := ⟨by decide +kernel, rfl⟩
theorem qX5_value_28 : Dq cX5_value 28 (.iload_n 1) 1 29 := ⟨by decide +kernel, rfl⟩
theorem qX5_value_29 : Dq cX5_value 29 (.iconst 3) 1 30 := ⟨by decide +kernel, rfl⟩
theorem qX5_value_30 : Dq cX5_value 30 (.imul) 1 31 := ⟨by decide +kernel, rfl⟩
theorem qX5_value_31 : Dq cX5_value 31 (.iload_n 2) 1 32 := ⟨by decide +kernel, rfl⟩
theorem qX5_value_32 : Dq cX5_value 32 (.iadd) 1 33 := ⟨by decide +kernel, rfl⟩
theorem qX5_value_33 : Dq cX5_value 33 (.iconst 1) 1 34 := ⟨by decide +kernel, rfl⟩
theorem qX5_value_34 : Dq cX5_value 34 (.iadd) 1 35 := ⟨by decide +kernel, rfl⟩
theorem qX5_value_35 : Dq cX5_value 35 (.iaload) 1 36 := ⟨by decide +kernel, rfl⟩
theorem qX5_value_36 : Dq cX5_value 36 (.istore_n 3) 1 37 := ⟨by decide +kernel, rfl⟩
theorem qX5_value_37 : Dq cX5_value 37 (.aload_n 0) 1 38 := ⟨by decide +kernel, rfl⟩
theorem qX5_value_38 : Dq cX5_value 38 (.getfield 15) 3 41 := ⟨by decide +kernel, rfl⟩
theorem qX5_value_41 : Dq cX5_value 41 (.iload_n 1) 1 42 := ⟨by decide +kernel, rfl⟩
theorem qX5_value_42 : Dq cX5_value 42 (.iconst 3) 1 43 := ⟨by decide +kernel, rfl⟩
theorem qX5_value_43 : Dq cX5_value 43 (.imul) 1 44 := ⟨by decide +kernel, rfl⟩
theorem qX5_value_44 : Dq cX5_value 44 (.iload_n 2) 1 45 := ⟨by decide +kernel, rfl⟩
theorem qX5_value_45 : Dq cX5_value 45 (.iadd) 1 46 := ⟨by decide +kernel, rfl⟩
theorem qX5_value_46 : Dq cX5_value 46 (.iaload) 1 47 := ⟨by decide +kernel, rfl⟩
theorem qX5_value_47 : Dq cX5_value 47 (.istore 4) 2 49 := ⟨by decide +kernel, rfl⟩
theorem qX5_value_49 : Dq cX5_value 49 (.iload 4) 2 51 := ⟨by decide +kernel, rfl⟩
theorem qX5_value_51 : Dq cX5_value 51 (.iload_n 3) 1 52 := ⟨by decide +kernel, rfl⟩
theorem qX5_value_52 : Dq cX5_value 52 (.if_icmp .ge 30) 3 55 := ⟨by decide +kernel, rfl⟩
theorem qX5_value_55 : Dq cX5_value 55 (.iload 4) 2 57 := ⟨by decide +kernel, rfl⟩
theorem qX5_value_57 : Dq cX5_value 57 (.aload_n 0) 1 58 := ⟨by decide +kernel, rfl⟩
theorem qX5_value_58 : Dq cX5_value 58 (.getfield 9) 3 61 := ⟨by decide +kernel, rfl⟩
theorem qX5_value_61 : Dq cX5_value 61 (.arraylength) 1 62 := ⟨by decide +kernel, rfl⟩
theorem qX5_value_62 : Dq cX5_value 62 (.if_icmp .ge 20) 3 65 := ⟨by decide +kernel, rfl⟩
theorem qX5_value_65 : Dq cX5_value 65 (.aload_n 0) 1 66 := ⟨by decide +kernel, rfl⟩
theorem qX5_value_66 : Dq cX5_value 66 (.aload_n 0) 1 67 := ⟨by decide +kernel, rfl⟩
theorem qX5_value_67 : Dq cX5_value 67 (.getfield 9) 3 70 := ⟨by decide +kernel, rfl⟩
theorem qX5_value_70 : Dq cX5_value 70 (.iload 4) 2 72 := ⟨by decide +kernel, rfl⟩
theorem qX5_value_72 : Dq cX5_value 72 (.iaload) 1 73 := ⟨by decide +kernel, rfl⟩
theorem qX5_value_73 : Dq cX5_value 73 (.invokevirtual 114) 3 76 := ⟨by decide +kernel, rfl⟩
theorem qX5_value_76 : Dq cX5_value 76 (.iinc 4 1) 3 79 := ⟨by decide +kernel, rfl⟩
theorem qX5_value_79 : Dq cX5_value 79 (.goto (-30)) 3 82 := ⟨by decide +kernel, rfl⟩
theorem qX5_value_82 : Dq cX5_value 82 (.aload_n 0) 1 83 := ⟨by decide +kernel, rfl⟩
theorem qX5_value_83 : Dq cX5_value 83 (.invokevirtual 118) 3 86 := ⟨by decide +kernel, rfl⟩
theorem qX5_value_86 : Dq cX5_value 86 (.ireturn) 1 87 := ⟨by decide +kernel, rfl⟩
set_option maxRecDepth 100000 in
set_option maxHeartbeats 4000000 in
theorem c_value {G : Glb} {h : AHp} (hs : ShC h) {cnt : Nat} {TV : Nat → Nat → (Nat → Int32) → Int32} (hru : RuOK h cnt TV) {t qq : Nat} (ht : t < cnt) (hq3 : qq < 3) {env : Nat → Int32} (hnm6 : ∀ k, k < 6 → hpI h 20 k = env k) : CP G m_X5_value 3 0 0 [.ref 17, .int (nI t), .int (nI qq)] h (fun r h' => r = some (.int (TV t qq env)) ∧ ∃ σ, h' = (σ, h.2) ∧ FrS h σ) := by
  suffices key : ∀ P : Option Value → AHp → Prop, (∀ r h', (r = some (.int (TV t qq env)) ∧ ∃ σ, h' = (σ, h.2) ∧ FrS h σ) → P r h') → CP G m_X5_value 3 0 0 [.ref 17, .int (nI t), .int (nI qq)] h P from key _ (fun _ _ z => z)
  intro P hP
  refine CP.of (by decide +kernel) (Nat.le_of_ble_eq_true rfl) fun X hX hR hnm => ?_
  show V X G 5 0 0 _ 0 [some (.ref 17), some (.int (nI t)), some (.int (nI qq)), none, none] [] h
  obtain ⟨hz, hc6, E, hE0, hE, hEm, -, hev0⟩ := hru
  have hev1 := hev0 t qq ht hq3 env
  have hb := hE (t * 3 + qq + 1) (by omega)
  have ha := hE (t * 3 + qq) (by omega)
  have hab := hEm (t * 3 + qq) (by omega)
  generalize heb : E (t * 3 + qq + 1) = eb at *
  generalize hea : E (t * 3 + qq) = ea at *
  refine v_aload_n hX rfl qX5_value_0 ?_
  refine v_iconst hX li_0 qX5_value_1 ?_
  refine v_putI hX p_X5_108 (hs.kd 17 rfl) (Or.inl rfl) qX5_value_2 ?_
  refine v_aload_n hX rfl qX5_value_5 ?_
  refine v_iload_n hX rfl qX5_value_6 ?_
  refine v_callVq hX hR k_X5_111 (hs.kd 17 rfl) (c_hasText (by exact hs) (cnt := cnt) (by exact hz) (by exact hc6) _) rfl (Nat.le_of_ble_eq_true rfl) rfl (Nat.le_of_ble_eq_true rfl) ⟨Nat.le_of_ble_eq_true rfl, Nat.le_of_ble_eq_true rfl⟩ qX5_value_7 ?_
  rintro _ _ ⟨rfl, rfl⟩
  first | refine v_if_eqB hX 22 qX5_value_10 rfl (fun q10 => ?_) (fun q10 => ?_) | refine v_if_eq hX 22 qX5_value_10 rfl (fun q10 => ?_) (fun q10 => ?_)
  · exact absurd ⟨nI_pos' (by omega), nI_lt ht (by omega)⟩ q10
  · skip
    refine v_iload_n hX rfl qX5_value_13 ?_
    refine v_iconst hX li_0 qX5_value_14 ?_
    refine v_iconst hX li_2 qX5_value_15 ?_
    refine v_callNq hX hR k_X5_40 (c_isWithin _ _ _) rfl (Nat.le_of_ble_eq_true rfl) rfl (Nat.le_of_ble_eq_true rfl) ⟨Nat.le_of_ble_eq_true rfl, Nat.le_of_ble_eq_true rfl⟩ qX5_value_16 ?_
    rintro _ _ ⟨rfl, rfl⟩
    first | refine v_if_neB hX 24 qX5_value_19 rfl (fun q19 => ?_) (fun q19 => ?_) | refine v_if_ne hX 24 qX5_value_19 rfl (fun q19 => ?_) (fun q19 => ?_)
    · skip
      refine v_aload_n hX rfl qX5_value_24 ?_
      refine v_getR hX g_X5_15 (hs.kd 17 rfl) (hs.rf 20 rfl) qX5_value_25 ?_
      refine v_iload_n hX rfl qX5_value_28 ?_
      refine v_iconst hX li_3 qX5_value_29 ?_
      refine v_imul hX qX5_value_30 ?_
      refine v_iload_n hX rfl qX5_value_31 ?_
      refine v_iadd hX qX5_value_32 ?_
      refine v_iconst hX li_1 qX5_value_33 ?_
      refine v_iadd hX qX5_value_34 ?_
      refine v_eqI (show nI t * 3 + nI qq + 1 = nI (t * 3 + qq + 1) by rw [show (3 : Int32) = nI 3 from rfl, pk_mul, nI_add, nI_1]) ?_
      refine v_ialdV hX (hs.kd 19 rfl) (hs.ln 19 rfl) (by exact ix_n (n := t * 3 + qq + 1) (by omega) rfl) hb.1 qX5_value_35 ?_
      refine v_istore_n hX (Nat.le_of_ble_eq_true rfl) rfl (ls' := [some _, some _, some _, some _, none]) rfl qX5_value_36 ?_
      refine v_aload_n hX rfl qX5_value_37 ?_
      refine v_getR hX g_X5_15 (hs.kd 17 rfl) (hs.rf 20 rfl) qX5_value_38 ?_
      refine v_iload_n hX rfl qX5_value_41 ?_
      refine v_iconst hX li_3 qX5_value_42 ?_
      refine v_imul hX qX5_value_43 ?_
      refine v_iload_n hX rfl qX5_value_44 ?_
      refine v_iadd hX qX5_value_45 ?_
      refine v_eqI (show nI t * 3 + nI qq = nI (t * 3 + qq) by rw [show (3 : Int32) = nI 3 from rfl, pk_mul, nI_add]) ?_
      refine v_ialdV hX (hs.kd 19 rfl) (hs.ln 19 rfl) (by exact ix_n (n := t * 3 + qq) (by omega) rfl) ha.1 qX5_value_46 ?_
      refine v_istore hX (Nat.le_of_ble_eq_true rfl) rfl (ls' := [some _, some _, some _, some _, some _]) rfl qX5_value_47 ?_
      have L49 : ∀ (m : Nat) (i : Nat) (s : List Int32) (σ : Nat → Nat → Int32), eb - i = m → (i ≤ eb) → (Stk (σ, h.2) s) → (FrS h σ) → (evn (hpI h 18) env (eb - i) i s = some [TV t qq env]) → V X G 5 0 0 (QM X G P 0 0) 49 [some (.ref 17), some (.int (nI t)), some (.int (nI qq)), some (.int (nI eb)), some (.int (nI i))] [] (σ, h.2) := by
        intro m
        induction m using Nat.strongRecOn with
        | _ m ih =>
        intro i s σ hm hi hst hf hev
        refine v_iload hX rfl qX5_value_49 ?_
        refine v_iload_n hX rfl qX5_value_51 ?_
        refine v_icmp_geS hX 82 qX5_value_52 rfl (fun q52 => ?_) (fun q52 => ?_)
        · have e : i = eb := Nat.le_antisymm hi (nI_le' (by omega) (by omega) q52); subst e
          have hev3 := hev; rw [Nat.sub_self] at hev3; have hs1 : s = [TV t qq env] := Option.some.inj hev3; subst hs1
          refine v_aload_n hX rfl qX5_value_82 ?_
          refine v_callVq hX hR k_X5_118 (hs.kd 17 rfl) (c_pop (by exact hs) (by exact hst)) rfl (Nat.le_of_ble_eq_true rfl) rfl (Nat.le_of_ble_eq_true rfl) ⟨Nat.le_of_ble_eq_true rfl, Nat.le_of_ble_eq_true rfl⟩ qX5_value_83 ?_
          rintro _ _ ⟨rfl, rfl⟩
          refine v_ireturn hX qX5_value_86 (hP _ _ ?_)
          exact ⟨rfl, _, rfl, fun a k h1 h2 => by show hpI (stI _ _ _ _) _ _ = _; rw [hpI_st, if_neg h2]; exact hf a k h1 h2⟩
        · have hl := nI_lt' (by omega) (by omega) q52
          refine v_iload hX rfl qX5_value_55 ?_
          refine v_aload_n hX rfl qX5_value_57 ?_
          refine v_getR hX g_X5_9 (hs.kd 17 rfl) (hs.rf 19 rfl) qX5_value_58 ?_
          refine v_alen hX (hs.kd 18 rfl) (hs.ln 18 rfl) qX5_value_61 ?_
          refine v_icmp_geS hX 82 qX5_value_62 rfl (fun q62 => ?_) (fun q62 => ?_)
          · exact absurd (nI_le' (i := 960) (by omega) (by omega) q62) (by omega)
          · obtain ⟨s2, he1, he2⟩ := evn_s (n := eb - (i + 1)) (by rw [show eb - (i + 1) + 1 = eb - i by omega]; exact hev)
            refine v_aload_n hX rfl qX5_value_65 ?_
            refine v_aload_n hX rfl qX5_value_66 ?_
            refine v_getR hX g_X5_9 (hs.kd 17 rfl) (hs.rf 19 rfl) qX5_value_67 ?_
            refine v_iload hX rfl qX5_value_70 ?_
            refine v_ialdV hX (hs.kd 18 rfl) (hs.ln 18 rfl) (by exact ix_n (n := i) (by omega) rfl) (hf 18 i (by omega) (by omega)) qX5_value_72 ?_
            refine v_callVq hX hR k_X5_114 (hs.kd 17 rfl) (c_take (by exact hs) (by exact hst) (by exact (fun k hk => (hf 20 k (by omega) (by omega)).trans (hnm6 k hk))) (by exact he1)) rfl (Nat.le_of_ble_eq_true rfl) rfl (Nat.le_of_ble_eq_true rfl) ⟨Nat.le_of_ble_eq_true rfl, Nat.le_of_ble_eq_true rfl⟩ qX5_value_73 ?_
            rintro _ _ ⟨rfl, σ2, rfl, hf2, hst2⟩
            refine v_iinc hX rfl (by first | exact ii_nI _ | exact ii_1 _) (Nat.le_of_ble_eq_true rfl) rfl (ls' := [some _, some _, some _, some _, some _]) rfl qX5_value_76 ?_
            refine v_goto hX 49 qX5_value_79 rfl ?_
            exact ih _ (by omega) (i + 1) s2 σ2 rfl (by omega) hst2 (fun a k h1 h2 => (hf2 a k h1 h2).trans (hf a k h1 h2)) he2
      exact L49 _ ea [] _ rfl (by omega) ⟨rfl, by simp, fun i x hx => by simp at hx⟩ (fun a k h1 h2 => by show hpI (stI _ _ _ _) _ _ = _; rw [hpI_st, if_neg h2]) hev1
    · exact absurd ⟨nI_pos' (by omega), nI_le (b := 2) (by omega) (by omega)⟩ q19
theorem qX5_stand_0 : Dq cX5_stand 0 (.aload_n 0) 1 1 := ⟨by decide +kernel, rfl⟩
theorem qX5_stand_1 : Dq cX5_stand 1 (.getfield 18) 3 4 := ⟨by decide +kernel, rfl⟩
theorem qX5_stand_4 : Dq cX5_stand 4 (.iconst 0) 1 5 := ⟨by decide +kernel, rfl⟩
theorem qX5_stand_5 : Dq cX5_stand 5 (.iload_n 1) 1 6 := ⟨by decide +kernel, rfl⟩
theorem qX5_stand_6 : Dq cX5_stand 6 (.bipush 8) 2 8 := ⟨by decide +kernel, rfl⟩
theorem qX5_stand_8 : Dq cX5_stand 8 (.idiv) 1 9 := ⟨by decide +kernel, rfl⟩
theorem qX5_stand_9 : Dq cX5_stand 9 (.iastore) 1 10 := ⟨by decide +kernel, rfl⟩
theorem qX5_stand_10 : Dq cX5_stand 10 (.aload_n 0) 1 11 := ⟨by decide +kernel, rfl⟩
theorem qX5_stand_11 : Dq cX5_stand 11 (.getfield 18) 3 14 := ⟨by decide +kernel, rfl⟩
theorem qX5_stand_14 : Dq cX5_stand 14 (.iconst 1) 1 15 := ⟨by decide +kernel, rfl⟩
theorem qX5_stand_15 : Dq cX5_stand 15 (.iload_n 1) 1 16 := ⟨by decide +kernel, rfl⟩
theorem qX5_stand_16 : Dq cX5_stand 16 (.bipush 8) 2 18 := ⟨by decide +kernel, rfl⟩
theorem qX5_stand_18 : Dq cX5_stand 18 (.irem) 1 19 := ⟨by decide +kernel, rfl⟩
theorem qX5_stand_19 : Dq cX5_stand 19 (.iastore) 1 20 := ⟨by decide +kernel, rfl⟩
theorem qX5_stand_20 : Dq cX5_stand 20 (.aload_n 0) 1 21 := ⟨by decide +kernel, rfl⟩
theorem qX5_stand_21 : Dq cX5_stand 21 (.getfield 18) 3 24 := ⟨by decide +kernel, rfl⟩
theorem qX5_stand_24 : Dq cX5_stand 24 (.iconst 2) 1 25 := ⟨by decide +kernel, rfl⟩
theorem qX5_stand_25 : Dq cX5_stand 25 (.iconst 0) 1 26 := ⟨by decide +kernel, rfl⟩
theorem qX5_stand_26 : Dq cX5_stand 26 (.iastore) 1 27 := ⟨by decide +kernel, rfl⟩
theorem qX5_stand_27 : Dq cX5_stand 27 (.aload_n 0) 1 28 := ⟨by decide +kernel, rfl⟩
theorem qX5_stand_28 : Dq cX5_stand 28 (.getfield 18) 3 31 := ⟨by decide +kernel, rfl⟩
theorem qX5_stand_31 : Dq cX5_stand 31 (.iconst 3) 1 32 := ⟨by decide +kernel, rfl⟩
theorem qX5_stand_32 : Dq cX5_stand 32 (.iload_n 2) 1 33 := ⟨by decide +kernel, rfl⟩
theorem qX5_stand_33 : Dq cX5_stand 33 (.iastore) 1 34 := ⟨by decide +kernel, rfl⟩
theorem qX5_stand_34 : Dq cX5_stand 34 (.aload_n 0) 1 35 := ⟨by decide +kernel, rfl⟩
theorem qX5_stand_35 : Dq cX5_stand 35 (.getfield 18) 3 38 := ⟨by decide +kernel, rfl⟩
theorem qX5_stand_38 : Dq cX5_stand 38 (.iconst 4) 1 39 := ⟨by decide +kernel, rfl⟩
theorem qX5_stand_39 : Dq cX5_stand 39 (.iload_n 3) 1 40 := ⟨by decide +kernel, rfl⟩
theorem qX5_stand_40 : Dq cX5_stand 40 (.iastore) 1 41 := ⟨by decide +kernel, rfl⟩
theorem qX5_stand_41 : Dq cX5_stand 41 (.aload_n 0) 1 42 := ⟨by decide +kernel, rfl⟩
theorem qX5_stand_42 : Dq cX5_stand 42 (.getfield 18) 3 45 := ⟨by decide +kernel, rfl⟩
theorem qX5_stand_45 : Dq cX5_stand 45 (.iconst 5) 1 46 := ⟨by decide +kernel, rfl⟩
theorem qX5_stand_46 : Dq cX5_stand 46 (.iconst 0) 1 47 := ⟨by decide +kernel, rfl⟩
theorem qX5_stand_47 : Dq cX5_stand 47 (.bipush 100) 2 49 := ⟨by decide +kernel, rfl⟩
theorem qX5_stand_49 : Dq cX5_stand 49 (.bipush 10) 2 51 := ⟨by decide +kernel, rfl⟩
theorem qX5_stand_51 : Dq cX5_stand 51 (.iload_n 3) 1 52 := ⟨by decide +kernel, rfl⟩
theorem qX5_stand_52 : Dq cX5_stand 52 (.bipush 13) 2 54 := ⟨by decide +kernel, rfl⟩
theorem qX5_stand_54 : Dq cX5_stand 54 (.isub) 1 55 := ⟨by decide +kernel, rfl⟩
theorem qX5_stand_55 : Dq cX5_stand 55 (.invokestatic 100) 3 58 := ⟨by decide +kernel, rfl⟩
theorem qX5_stand_58 : Dq cX5_stand 58 (.imul) 1 59 := ⟨by decide +kernel, rfl⟩
theorem qX5_stand_59 : Dq cX5_stand 59 (.isub) 1 60 := ⟨by decide +kernel, rfl⟩
theorem qX5_stand_60 : Dq cX5_stand 60 (.invokestatic 105) 3 63 := ⟨by decide +kernel, rfl⟩
theorem qX5_stand_63 : Dq cX5_stand 63 (.iastore) 1 64 := ⟨by decide +kernel, rfl⟩
theorem qX5_stand_64 : Dq cX5_stand 64 (.return_) 1 65 := ⟨by decide +kernel, rfl⟩
set_option maxRecDepth 100000 in
set_option maxHeartbeats 4000000 in
theorem c_stand {G : Glb} {h : AHp} (hs : ShC h) (pl t hr : Int32) : CP G m_X5_stand 2 0 0 [.ref 17, .int pl, .int t, .int hr] h (fun r h' => r = none ∧ ∃ σ, h' = (σ, h.2) ∧ (∀ k, k < 6 → σ 20 k = envC pl t hr 0 k) ∧ ∀ a, a ≠ 20 → σ a = hpI h a) := by
  suffices key : ∀ P : Option Value → AHp → Prop, (∀ r h', (r = none ∧ ∃ σ, h' = (σ, h.2) ∧ (∀ k, k < 6 → σ 20 k = envC pl t hr 0 k) ∧ ∀ a, a ≠ 20 → σ a = hpI h a) → P r h') → CP G m_X5_stand 2 0 0 [.ref 17, .int pl, .int t, .int hr] h P from key _ (fun _ _ z => z)
  intro P hP
  refine CP.of (by decide +kernel) (Nat.le_of_ble_eq_true rfl) fun X hX hR hnm => ?_
  show V X G 4 0 0 _ 0 [some (.ref 17), some (.int pl), some (.int t), some (.int hr)] [] h
  refine v_aload_n hX rfl qX5_stand_0 ?_
  refine v_getR hX g_X5_18 (hs.kd 17 rfl) (hs.rf 21 rfl) qX5_stand_1 ?_
  refine v_iconst hX li_0 qX5_stand_4 ?_
  refine v_iload_n hX rfl qX5_stand_5 ?_
  refine v_bipush hX lb_8 qX5_stand_6 ?_
  refine v_idiv hX (by decide) qX5_stand_8 ?_
  refine v_iastJ hX (hs.kd 20 rfl) (hs.ln 20 rfl) (by exact ixk 0 (by decide) (by decide) rfl) qX5_stand_9 ?_
  refine v_aload_n hX rfl qX5_stand_10 ?_
  refine v_getR hX g_X5_18 (hs.kd 17 rfl) (hs.rf 21 rfl) qX5_stand_11 ?_
  refine v_iconst hX li_1 qX5_stand_14 ?_
  refine v_iload_n hX rfl qX5_stand_15 ?_
  refine v_bipush hX lb_8 qX5_stand_16 ?_
  refine v_irem hX (by decide) qX5_stand_18 ?_
  refine v_iastJ hX (hs.kd 20 rfl) (hs.ln 20 rfl) (by exact ixk 1 (by decide) (by decide) rfl) qX5_stand_19 ?_
  refine v_aload_n hX rfl qX5_stand_20 ?_
  refine v_getR hX g_X5_18 (hs.kd 17 rfl) (hs.rf 21 rfl) qX5_stand_21 ?_
  refine v_iconst hX li_2 qX5_stand_24 ?_
  refine v_iconst hX li_0 qX5_stand_25 ?_
  refine v_iastJ hX (hs.kd 20 rfl) (hs.ln 20 rfl) (by exact ixk 2 (by decide) (by decide) rfl) qX5_stand_26 ?_
  refine v_aload_n hX rfl qX5_stand_27 ?_
  refine v_getR hX g_X5_18 (hs.kd 17 rfl) (hs.rf 21 rfl) qX5_stand_28 ?_
  refine v_iconst hX li_3 qX5_stand_31 ?_
  refine v_iload_n hX rfl qX5_stand_32 ?_
  refine v_iastJ hX (hs.kd 20 rfl) (hs.ln 20 rfl) (by exact ixk 3 (by decide) (by decide) rfl) qX5_stand_33 ?_
  refine v_aload_n hX rfl qX5_stand_34 ?_
  refine v_getR hX g_X5_18 (hs.kd 17 rfl) (hs.rf 21 rfl) qX5_stand_35 ?_
  refine v_iconst hX li_4 qX5_stand_38 ?_
  refine v_iload_n hX rfl qX5_stand_39 ?_
  refine v_iastJ hX (hs.kd 20 rfl) (hs.ln 20 rfl) (by exact ixk 4 (by decide) (by decide) rfl) qX5_stand_40 ?_
  refine v_aload_n hX rfl qX5_stand_41 ?_
  refine v_getR hX g_X5_18 (hs.kd 17 rfl) (hs.rf 21 rfl) qX5_stand_42 ?_
  refine v_iconst hX li_5 qX5_stand_45 ?_
  refine v_iconst hX li_0 qX5_stand_46 ?_
  refine v_bipush hX lb_100 qX5_stand_47 ?_
  refine v_bipush hX lb_10 qX5_stand_49 ?_
  refine v_iload_n hX rfl qX5_stand_51 ?_
  refine v_bipush hX lb_13 qX5_stand_52 ?_
  refine v_isub hX qX5_stand_54 ?_
  refine v_abs hX hR (Nat.le_of_ble_eq_true rfl) k_X5_100 (Nat.le_of_ble_eq_true rfl) ⟨Nat.le_of_ble_eq_true rfl, Nat.le_of_ble_eq_true rfl⟩ qX5_stand_55 ?_
  refine v_imul hX qX5_stand_58 ?_
  refine v_isub hX qX5_stand_59 ?_
  refine v_max hX hR (Nat.le_of_ble_eq_true rfl) k_X5_105 (Nat.le_of_ble_eq_true rfl) ⟨Nat.le_of_ble_eq_true rfl, Nat.le_of_ble_eq_true rfl⟩ qX5_stand_60 ?_
  refine v_iastJ hX (hs.kd 20 rfl) (hs.ln 20 rfl) (by exact ixk 5 (by decide) (by decide) rfl) qX5_stand_63 ?_
  refine v_return hX qX5_stand_64 (hP _ _ ?_)
  refine ⟨rfl, _, rfl, fun k hk => ?_, fun a ha => ?_⟩
  · have hk6 : k = 0 ∨ k = 1 ∨ k = 2 ∨ k = 3 ∨ k = 4 ∨ k = 5 := by omega
    rcases hk6 with rfl | rfl | rfl | rfl | rfl | rfl <;> rfl
  · funext k
    show hpI (stI _ _ _ _) _ _ = _
    simp [hpI_st, ha]
theorem qX5_isWetBy_0 : Dq cX5_isWetBy 0 (.aload_n 0) 1 1 := ⟨by decide +kernel, rfl⟩
theorem qX5_isWetBy_1 : Dq cX5_isWetBy 1 (.iload_n 2) 1 2 := ⟨by decide +kernel, rfl⟩
theorem qX5_isWetBy_2 : Dq cX5_isWetBy 2 (.iload_n 3) 1 3 := ⟨by decide +kernel, rfl⟩
theorem qX5_isWetBy_3 : Dq cX5_isWetBy 3 (.iload 4) 2 5 := ⟨by decide +kernel, rfl⟩
theorem qX5_isWetBy_5 : Dq cX5_isWetBy 5 (.invokevirtual 78) 3 8 := ⟨by decide +kernel, rfl⟩
theorem qX5_isWetBy_8 : Dq cX5_isWetBy 8 (.aload_n 0) 1 9 := ⟨by decide +kernel, rfl⟩
theorem qX5_isWetBy_9 : Dq cX5_isWetBy 9 (.iload_n 1) 1 10 := ⟨by decide +kernel, rfl⟩
theorem qX5_isWetBy_10 : Dq cX5_isWetBy 10 (.iconst 1) 1 11 := ⟨by decide +kernel, rfl⟩
theorem qX5_isWetBy_11 : Dq cX5_isWetBy 11 (.invokevirtual 82) 3 14 := ⟨by decide +kernel, rfl⟩
theorem qX5_isWetBy_14 : Dq cX5_isWetBy 14 (.ifCond .eq 7) 3 17 := ⟨by decide +kernel, rfl⟩
theorem qX5_isWetBy_17 : Dq cX5_isWetBy 17 (.iconst 1) 1 18 := ⟨by decide +kernel, rfl⟩
theorem qX5_isWetBy_18 : Dq cX5_isWetBy 18 (.goto 4) 3 21 := ⟨by decide +kernel, rfl⟩
theorem qX5_isWetBy_21 : Dq cX5_isWetBy 21 (.iconst 0) 1 22 := ⟨by decide +kernel, rfl⟩
theorem qX5_isWetBy_22 : Dq cX5_isWetBy 22 (.ireturn) 1 23 := ⟨by decide +kernel, rfl⟩
set_option maxRecDepth 100000 in
set_option maxHeartbeats 4000000 in
theorem c_isWetBy {G : Glb} {h : AHp} (hs : ShC h) {cnt : Nat} {TV : Nat → Nat → (Nat → Int32) → Int32} (hru : RuOK h cnt TV) {rl : Nat} (hrl : rl < cnt) (pl t hr : Int32) : CP G m_X5_isWetBy 4 0 0 [.ref 17, .int (nI rl), .int pl, .int t, .int hr] h (fun r h' => r = some (.int (bz (¬ TV rl 1 (envC pl t hr 0) = 0))) ∧ ∃ σ, h' = (σ, h.2) ∧ FrW h σ) := by
  suffices key : ∀ P : Option Value → AHp → Prop, (∀ r h', (r = some (.int (bz (¬ TV rl 1 (envC pl t hr 0) = 0))) ∧ ∃ σ, h' = (σ, h.2) ∧ FrW h σ) → P r h') → CP G m_X5_isWetBy 4 0 0 [.ref 17, .int (nI rl), .int pl, .int t, .int hr] h P from key _ (fun _ _ z => z)
  intro P hP
  refine CP.of (by decide +kernel) (Nat.le_of_ble_eq_true rfl) fun X hX hR hnm => ?_
  show V X G 5 0 0 _ 0 [some (.ref 17), some (.int (nI rl)), some (.int pl), some (.int t), some (.int hr)] [] h
  refine v_aload_n hX rfl qX5_isWetBy_0 ?_
  refine v_iload_n hX rfl qX5_isWetBy_1 ?_
  refine v_iload_n hX rfl qX5_isWetBy_2 ?_
  refine v_iload hX rfl qX5_isWetBy_3 ?_
  refine v_callVq hX hR k_X5_78 (hs.kd 17 rfl) (c_stand (by exact hs) _ _ _) rfl (Nat.le_of_ble_eq_true rfl) rfl (Nat.le_of_ble_eq_true rfl) ⟨Nat.le_of_ble_eq_true rfl, Nat.le_of_ble_eq_true rfl⟩ qX5_isWetBy_5 ?_
  rintro _ _ ⟨rfl, σ1, rfl, hn1, hf1⟩
  refine v_aload_n hX rfl qX5_isWetBy_8 ?_
  refine v_iload_n hX rfl qX5_isWetBy_9 ?_
  refine v_iconst hX li_1 qX5_isWetBy_10 ?_
  refine v_callVq hX hR k_X5_82 (hs.kd 17 rfl) (c_value (by exact hs) (by exact (hru.fr (congrFun (hf1 17 (by decide)) 2) (hf1 18 (by decide)) (hf1 19 (by decide)))) (qq := 1) (by exact hrl) (by omega) (by exact hn1)) rfl (Nat.le_of_ble_eq_true rfl) rfl (Nat.le_of_ble_eq_true rfl) ⟨Nat.le_of_ble_eq_true rfl, Nat.le_of_ble_eq_true rfl⟩ qX5_isWetBy_11 ?_
  rintro _ _ ⟨rfl, σ2, rfl, hf2⟩
  first | refine v_if_eqB hX 21 qX5_isWetBy_14 rfl (fun q14 => ?_) (fun q14 => ?_) | refine v_if_eq hX 21 qX5_isWetBy_14 rfl (fun q14 => ?_) (fun q14 => ?_)
  · skip
    refine v_iconst hX li_0 qX5_isWetBy_21 ?_
    refine v_zreturn hX (by first | exact Or.inl rfl | exact Or.inr rfl | exact bz01 _) qX5_isWetBy_22 (hP _ _ ?_)
    refine ⟨?_, _, rfl, fun a k h1 h2 h3 => (hf2 a k h2 h3).trans (congrFun (hf1 a h1) k)⟩
    first | exact rz (bz_t q14) | exact rz (bz_f (fun z => z q14))
  · skip
    refine v_iconst hX li_1 qX5_isWetBy_17 ?_
    refine v_goto hX 22 qX5_isWetBy_18 rfl ?_
    refine v_zreturn hX (by first | exact Or.inl rfl | exact Or.inr rfl | exact bz01 _) qX5_isWetBy_22 (hP _ _ ?_)
    refine ⟨?_, _, rfl, fun a k h1 h2 h3 => (hf2 a k h2 h3).trans (congrFun (hf1 a h1) k)⟩
    first | exact rz (bz_t q14) | exact rz (bz_f (fun z => z q14))
def dpI (TV : Nat → Nat → (Nat → Int32) → Int32) (rl : Nat) (pl t hr : Int32) : Int32 := bnd (TV rl 0 (envC pl t hr 0)) 0 99
def seI (TV : Nat → Nat → (Nat → Int32) → Int32) (rl : Nat) (pl t hr : Int32) : Int32 := TV rl 1 (envC pl t hr 0)
def shI (TV : Nat → Nat → (Nat → Int32) → Int32) (rl : Nat) (pl t hr : Int32) : Int32 := bnd (TV rl 2 (envC pl t hr (dpI TV rl pl t hr))) 0 100
def keyI (rl t hr : Int32) : Int32 := (rl * 100 + t) * 24 + hr + 1
def inR (x : Int32) (n : Nat) : Prop := 0 ≤ x.toInt ∧ x.toInt ≤ n
theorem keyI_int {rl : Nat} {t hr : Int32} (h1 : rl < 6) (h2 : inR t 99) (h3 : inR hr 23) : (keyI (nI rl) t hr).toInt = ((rl : Int) * 100 + t.toInt) * 24 + hr.toInt + 1 := by
  obtain ⟨a1, a2⟩ := h2
  obtain ⟨b1, b2⟩ := h3
  have e0 := nI_toInt (n := rl) (by omega)
  have c1 : (100 : Int32).toInt = 100 := rfl
  have c2 : (24 : Int32).toInt = 24 := rfl
  have c3 : (1 : Int32).toInt = 1 := rfl
  have e1 : (nI rl * 100).toInt = (rl : Int) * 100 := by rw [mulI (by rw [e0, c1]; omega) (by rw [e0, c1]; omega), e0, c1]
  have e2 : (nI rl * 100 + t).toInt = (rl : Int) * 100 + t.toInt := by rw [addI (by omega) (by omega), e1]
  have e3 : ((nI rl * 100 + t) * 24).toInt = ((rl : Int) * 100 + t.toInt) * 24 := by rw [mulI (by rw [e2, c2]; omega) (by rw [e2, c2]; omega), e2, c2]
  have e4 : ((nI rl * 100 + t) * 24 + hr).toInt = ((rl : Int) * 100 + t.toInt) * 24 + hr.toInt := by rw [addI (by omega) (by omega), e3]
  rw [keyI, addI (by omega) (by omega), e4, c3]
/-- what is kept of a cell is right -/
def CaOK (h : AHp) (cnt : Nat) (TV : Nat → Nat → (Nat → Int32) → Int32) : Prop := ∀ q, q < 48 → hpI h 22 q = 0 ∨ ∃ rl t hr, rl < cnt ∧ inR t 99 ∧ inR hr 23 ∧ hpI h 22 q = keyI (nI rl) t hr ∧ hpI h 23 q = dpI TV rl (nI q) t hr ∧ hpI h 24 q = seI TV rl (nI q) t hr ∧ hpI h 25 q = shI TV rl (nI q) t hr
theorem CaOK.hit {h : AHp} {cnt : Nat} {TV : Nat → Nat → (Nat → Int32) → Int32} (hc : CaOK h cnt TV) (hc6 : cnt ≤ 6) {q rl : Nat} {t hr : Int32} (hq : q < 48) (h1 : rl < cnt) (h2 : inR t 99) (h3 : inR hr 23) (e : hpI h 22 q = keyI (nI rl) t hr) : hpI h 23 q = dpI TV rl (nI q) t hr ∧ hpI h 24 q = seI TV rl (nI q) t hr ∧ hpI h 25 q = shI TV rl (nI q) t hr := by
  have k1 := keyI_int (show rl < 6 by omega) h2 h3
  have h2' := h2
  have h3' := h3
  obtain ⟨a1, a2⟩ := h2'
  obtain ⟨b1, b2⟩ := h3'
  rcases hc q hq with z | ⟨rl', t', hr', g1, g2, g3, g4, g5⟩
  · rw [← e, z] at k1
    have : (0 : Int32).toInt = 0 := rfl
    omega
  · have k2 := keyI_int (show rl' < 6 by omega) g2 g3
    obtain ⟨c1, c2⟩ := g2
    obtain ⟨d1, d2⟩ := g3
    rw [← g4, e, k1] at k2
    have e1 : hr = hr' := eqI.mpr (by omega)
    have e2 : t = t' := eqI.mpr (by omega)
    have e3 : rl = rl' := by omega
    subst e1; subst e2; subst e3
    exact g5
theorem isCn {q : Nat} (h : q < 48) : isC (nI q) := ⟨nI_pos' (by omega), nI_le (b := 47) (by omega) (by omega)⟩
theorem CaOK.eq {h : AHp} {cnt : Nat} {TV : Nat → Nat → (Nat → Int32) → Int32} {σ : Nat → Nat → Int32} (hc : CaOK h cnt TV) (h2 : ∀ a, 22 ≤ a → a ≤ 25 → ∀ k, k < 48 → σ a k = hpI h a k) : CaOK (σ, h.2) cnt TV := by
  intro q hq
  show σ 22 q = 0 ∨ ∃ rl t hr, rl < cnt ∧ inR t 99 ∧ inR hr 23 ∧ σ 22 q = _ ∧ σ 23 q = _ ∧ σ 24 q = _ ∧ σ 25 q = _
  rw [h2 22 (by omega) (by omega) q hq, h2 23 (by omega) (by omega) q hq, h2 24 (by omega) (by omega) q hq, h2 25 (by omega) (by omega) q hq]
  exact hc q hq
/-- one cell's memory is made anew -/
theorem CaOK.put {h : AHp} {cnt : Nat} {TV : Nat → Nat → (Nat → Int32) → Int32} {σ : Nat → Nat → Int32} (hc : CaOK h cnt TV) {q rl : Nat} {t hr : Int32} (h1 : rl < cnt) (h2 : inR t 99) (h3 : inR hr 23) (e1 : σ 22 q = keyI (nI rl) t hr) (e2 : σ 23 q = dpI TV rl (nI q) t hr) (e3 : σ 24 q = seI TV rl (nI q) t hr) (e4 : σ 25 q = shI TV rl (nI q) t hr) (ho : ∀ a k, 22 ≤ a → a ≤ 25 → k ≠ q → σ a k = hpI h a k) : CaOK (σ, h.2) cnt TV := by
  intro j hj
  by_cases hjq : j = q
  · subst hjq
    exact Or.inr ⟨rl, t, hr, h1, h2, h3, e1, e2, e3, e4⟩
  · show σ 22 j = 0 ∨ ∃ rl t hr, rl < cnt ∧ inR t 99 ∧ inR hr 23 ∧ σ 22 j = _ ∧ σ 23 j = _ ∧ σ 24 j = _ ∧ σ 25 j = _
    rw [ho 22 j (by omega) (by omega) hjq, ho 23 j (by omega) (by omega) hjq, ho 24 j (by omega) (by omega) hjq, ho 25 j (by omega) (by omega) hjq]
    exact hc j hj
theorem qX5_survey_0 : Dq cX5_survey 0 (.iload_n 2) 1 1 := ⟨by decide +kernel, rfl⟩
theorem qX5_survey_1 : Dq cX5_survey 1 (.invokestatic 63) 3 4 := ⟨by decide +kernel, rfl⟩
theorem qX5_survey_4 : Dq cX5_survey 4 (.ifCond .ne 4) 3 7 := ⟨by decide +kernel, rfl⟩
theorem qX5_survey_8 : Dq cX5_survey 8 (.aload_n 1) 1 9 := ⟨by decide +kernel, rfl⟩
theorem qX5_survey_9 : Dq cX5_survey 9 (.getfield 67) 3 12 := ⟨by decide +kernel, rfl⟩
theorem qX5_survey_12 : Dq cX5_survey 12 (.bipush 100) 2 14 := ⟨by decide +kernel, rfl⟩
theorem qX5_survey_14 : Dq cX5_survey 14 (.imul) 1 15 := ⟨by decide +kernel, rfl⟩
theorem qX5_survey_15 : Dq cX5_survey 15 (.aload_n 1) 1 16 := ⟨by decide +kernel, rfl⟩
theorem qX5_survey_16 : Dq cX5_survey 16 (.getfield 72) 3 19 := ⟨by decide +kernel, rfl⟩
theorem qX5_survey_19 : Dq cX5_survey 19 (.iload_n 2) 1 20 := ⟨by decide +kernel, rfl⟩
theorem qX5_survey_20 : Dq cX5_survey 20 (.iaload) 1 21 := ⟨by decide +kernel, rfl⟩
theorem qX5_survey_21 : Dq cX5_survey 21 (.iadd) 1 22 := ⟨by decide +kernel, rfl⟩
theorem qX5_survey_22 : Dq cX5_survey 22 (.bipush 24) 2 24 := ⟨by decide +kernel, rfl⟩
theorem qX5_survey_24 : Dq cX5_survey 24 (.imul) 1 25 := ⟨by decide +kernel, rfl⟩
theorem qX5_survey_25 : Dq cX5_survey 25 (.aload_n 1) 1 26 := ⟨by decide +kernel, rfl⟩
theorem qX5_survey_26 : Dq cX5_survey 26 (.getfield 75) 3 29 := ⟨by decide +kernel, rfl⟩
theorem qX5_survey_29 : Dq cX5_survey 29 (.iadd) 1 30 := ⟨by decide +kernel, rfl⟩
theorem qX5_survey_30 : Dq cX5_survey 30 (.iconst 1) 1 31 := ⟨by decide +kernel, rfl⟩
theorem qX5_survey_31 : Dq cX5_survey 31 (.iadd) 1 32 := ⟨by decide +kernel, rfl⟩
theorem qX5_survey_32 : Dq cX5_survey 32 (.istore_n 3) 1 33 := ⟨by decide +kernel, rfl⟩
theorem qX5_survey_33 : Dq cX5_survey 33 (.aload_n 0) 1 34 := ⟨by decide +kernel, rfl⟩
theorem qX5_survey_34 : Dq cX5_survey 34 (.getfield 24) 3 37 := ⟨by decide +kernel, rfl⟩
theorem qX5_survey_37 : Dq cX5_survey 37 (.iload_n 2) 1 38 := ⟨by decide +kernel, rfl⟩
theorem qX5_survey_38 : Dq cX5_survey 38 (.iaload) 1 39 := ⟨by decide +kernel, rfl⟩
theorem qX5_survey_39 : Dq cX5_survey 39 (.iload_n 3) 1 40 := ⟨by decide +kernel, rfl⟩
theorem qX5_survey_40 : Dq cX5_survey 40 (.if_icmp .eq 94) 3 43 := ⟨by decide +kernel, rfl⟩
theorem qX5_survey_43 : Dq cX5_survey 43 (.aload_n 0) 1 44 := ⟨by decide +kernel, rfl⟩
theorem qX5_survey_44 : Dq cX5_survey 44 (.getfield 24) 3 47 := ⟨by decide +kernel, rfl⟩
theorem qX5_survey_47 : Dq cX5_survey 47 (.iload_n 2) 1 48 := ⟨by decide +kernel, rfl⟩
theorem qX5_survey_48 : Dq cX5_survey 48 (.iload_n 3) 1 49 := ⟨by decide +kernel, rfl⟩
theorem qX5_survey_49 : Dq cX5_survey 49 (.iastore) 1 50 := ⟨by decide +kernel, rfl⟩
theorem qX5_survey_50 : Dq cX5_survey 50 (.aload_n 0) 1 51 := ⟨by decide +kernel, rfl⟩
theorem qX5_survey_51 : Dq cX5_survey 51 (.iload_n 2) 1 52 := ⟨by decide +kernel, rfl⟩
theorem qX5_survey_52 : Dq cX5_survey 52 (.aload_n 1) 1 53 := ⟨by decide +kernel, rfl⟩
theorem qX5_survey_53 : Dq cX5_survey 53 (.getfield 72) 3 56 := ⟨by decide +kernel, rfl⟩
theorem qX5_survey_56 : Dq cX5_survey 56 (.iload_n 2) 1 57 := ⟨by decide +kernel, rfl⟩
theorem qX5_survey_57 : Dq cX5_survey 57 (.iaload) 1 58 := ⟨by decide +kernel, rfl⟩
theorem qX5_survey_58 : Dq cX5_survey 58 (.aload_n 1) 1 59 := ⟨by decide +kernel, rfl⟩
theorem qX5_survey_59 : Dq cX5_survey 59 (.getfield 75) 3 62 := ⟨by decide +kernel, rfl⟩
theorem qX5_survey_62 : Dq cX5_survey 62 (.invokevirtual 78) 3 65 := ⟨by decide +kernel, rfl⟩
theorem qX5_survey_65 : Dq cX5_survey 65 (.aload_n 0) 1 66 := ⟨by decide +kernel, rfl⟩
theorem qX5_survey_66 : Dq cX5_survey 66 (.getfield 27) 3 69 := ⟨by decide +kernel, rfl⟩
theorem qX5_survey_69 : Dq cX5_survey 69 (.iload_n 2) 1 70 := ⟨by decide +kernel, rfl⟩
theorem qX5_survey_70 : Dq cX5_survey 70 (.aload_n 0) 1 71 := ⟨by decide +kernel, rfl⟩
theorem qX5_survey_71 : Dq cX5_survey 71 (.aload_n 1) 1 72 := ⟨by decide +kernel, rfl⟩
theorem qX5_survey_72 : Dq cX5_survey 72 (.getfield 67) 3 75 := ⟨by decide +kernel, rfl⟩
theorem qX5_survey_75 : Dq cX5_survey 75 (.iconst 0) 1 76 := ⟨by decide +kernel, rfl⟩
theorem qX5_survey_76 : Dq cX5_survey 76 (.invokevirtual 82) 3 79 := ⟨by decide +kernel, rfl⟩
theorem qX5_survey_79 : Dq cX5_survey 79 (.iconst 0) 1 80 := ⟨by decide +kernel, rfl⟩
theorem qX5_survey_80 : Dq cX5_survey 80 (.bipush 99) 2 82 := ⟨by decide +kernel, rfl⟩
theorem qX5_survey_82 : Dq cX5_survey 82 (.invokestatic 86) 3 85 := ⟨by decide +kernel, rfl⟩
theorem qX5_survey_85 : Dq cX5_survey 85 (.iastore) 1 86 := ⟨by decide +kernel, rfl⟩
theorem qX5_survey_86 : Dq cX5_survey 86 (.aload_n 0) 1 87 := ⟨by decide +kernel, rfl⟩
theorem qX5_survey_87 : Dq cX5_survey 87 (.getfield 30) 3 90 := ⟨by decide +kernel, rfl⟩
theorem qX5_survey_90 : Dq cX5_survey 90 (.iload_n 2) 1 91 := ⟨by decide +kernel, rfl⟩
theorem qX5_survey_91 : Dq cX5_survey 91 (.aload_n 0) 1 92 := ⟨by decide +kernel, rfl⟩
theorem qX5_survey_92 : Dq cX5_survey 92 (.aload_n 1) 1 93 := ⟨by decide +kernel, rfl⟩
theorem qX5_survey_93 : Dq cX5_survey 93 (.getfield 67) 3 96 := ⟨by decide +kernel, rfl⟩
theorem qX5_survey_96 : Dq cX5_survey 96 (.iconst 1) 1 97 := ⟨by decide +kernel, rfl⟩
theorem qX5_survey_97 : Dq cX5_survey 97 (.invokevirtual 82) 3 100 := ⟨by decide +kernel, rfl⟩
theorem qX5_survey_100 : Dq cX5_survey 100 (.iastore) 1 101 := ⟨by decide +kernel, rfl⟩
theorem qX5_survey_101 : Dq cX5_survey 101 (.aload_n 0) 1 102 := ⟨by decide +kernel, rfl⟩
theorem qX5_survey_102 : Dq cX5_survey 102 (.getfield 18) 3 105 := ⟨by decide +kernel, rfl⟩
theorem qX5_survey_105 : Dq cX5_survey 105 (.iconst 2) 1 106 := ⟨by decide +kernel, rfl⟩
theorem qX5_survey_106 : Dq cX5_survey 106 (.aload_n 0) 1 107 := ⟨by decide +kernel, rfl⟩
theorem qX5_survey_107 : Dq cX5_survey 107 (.getfield 27) 3 110 := ⟨by decide +kernel, rfl⟩
theorem qX5_survey_110 : Dq cX5_survey 110 (.iload_n 2) 1 111 := ⟨by decide +kernel, rfl⟩
theorem qX5_survey_111 : Dq cX5_survey 111 (.iaload) 1 112 := ⟨by decide +kernel, rfl⟩
theorem qX5_survey_112 : Dq cX5_survey 112 (.iastore) 1 113 := ⟨by decide +kernel, rfl⟩
theorem qX5_survey_113 : Dq cX5_survey 113 (.aload_n 0) 1 114 := ⟨by decide +kernel, rfl⟩
theorem qX5_survey_114 : Dq cX5_survey 114 (.getfield 33) 3 117 := ⟨by decide +kernel, rfl⟩
theorem qX5_survey_117 : Dq cX5_survey 117 (.iload_n 2) 1 118 := ⟨by decide +kernel, rfl⟩
theorem qX5_survey_118 : Dq cX5_survey 118 (.aload_n 0) 1 119 := ⟨by decide +kernel, rfl⟩
theorem qX5_survey_119 : Dq cX5_survey 119 (.aload_n 1) 1 120 := ⟨by decide +kernel, rfl⟩
theorem qX5_survey_120 : Dq cX5_survey 120 (.getfield 67) 3 123 := ⟨by decide +kernel, rfl⟩
theorem qX5_survey_123 : Dq cX5_survey 123 (.iconst 2) 1 124 := ⟨by decide +kernel, rfl⟩
theorem qX5_survey_124 : Dq cX5_survey 124 (.invokevirtual 82) 3 127 := ⟨by decide +kernel, rfl⟩
theorem qX5_survey_127 : Dq cX5_survey 127 (.iconst 0) 1 128 := ⟨by decide +kernel, rfl⟩
theorem qX5_survey_128 : Dq cX5_survey 128 (.bipush 100) 2 130 := ⟨by decide +kernel, rfl⟩
theorem qX5_survey_130 : Dq cX5_survey 130 (.invokestatic 86) 3 133 := ⟨by decide +kernel, rfl⟩
theorem qX5_survey_133 : Dq cX5_survey 133 (.iastore) 1 134 := ⟨by decide +kernel, rfl⟩
theorem qX5_survey_134 : Dq cX5_survey 134 (.aload_n 0) 1 135 := ⟨by decide +kernel, rfl⟩
theorem qX5_survey_135 : Dq cX5_survey 135 (.aload_n 0) 1 136 := ⟨by decide +kernel, rfl⟩
theorem qX5_survey_136 : Dq cX5_survey 136 (.getfield 27) 3 139 := ⟨by decide +kernel, rfl⟩
theorem qX5_survey_139 : Dq cX5_survey 139 (.iload_n 2) 1 140 := ⟨by decide +kernel, rfl⟩
theorem qX5_survey_140 : Dq cX5_survey 140 (.iaload) 1 141 := ⟨by decide +kernel, rfl⟩
theorem qX5_survey_141 : Dq cX5_survey 141 (.putfield 90) 3 144 := ⟨by decide +kernel, rfl⟩
theorem qX5_survey_144 : Dq cX5_survey 144 (.aload_n 0) 1 145 := ⟨by decide +kernel, rfl⟩
theorem qX5_survey_145 : Dq cX5_survey 145 (.aload_n 0) 1 146 := ⟨by decide +kernel, rfl⟩
theorem qX5_survey_146 : Dq cX5_survey 146 (.getfield 30) 3 149 := ⟨by decide +kernel, rfl⟩
theorem qX5_survey_149 : Dq cX5_survey 149 (.iload_n 2) 1 150 := ⟨by decide +kernel, rfl⟩
theorem qX5_survey_150 : Dq cX5_survey 150 (.iaload) 1 151 := ⟨by decide +kernel, rfl⟩
theorem qX5_survey_151 : Dq cX5_survey 151 (.ifCond .eq 7) 3 154 := ⟨by decide +kernel, rfl⟩
theorem qX5_survey_154 : Dq cX5_survey 154 (.iconst 1) 1 155 := ⟨by decide +kernel, rfl⟩
theorem qX5_survey_155 : Dq cX5_survey 155 (.goto 4) 3 158 := ⟨by decide +kernel, rfl⟩
theorem qX5_survey_158 : Dq cX5_survey 158 (.iconst 0) 1 159 := ⟨by decide +kernel, rfl⟩
theorem qX5_survey_159 : Dq cX5_survey 159 (.putfield 93) 3 162 := ⟨by decide +kernel, rfl⟩
theorem qX5_survey_162 : Dq cX5_survey 162 (.aload_n 0) 1 163 := ⟨by decide +kernel, rfl⟩
theorem qX5_survey_163 : Dq cX5_survey 163 (.aload_n 0) 1 164 := ⟨by decide +kernel, rfl⟩
theorem qX5_survey_164 : Dq cX5_survey 164 (.getfield 33) 3 167 := ⟨by decide +kernel, rfl⟩
theorem qX5_survey_167 : Dq cX5_survey 167 (.iload_n 2) 1 168 := ⟨by decide +kernel, rfl⟩
theorem qX5_survey_168 : Dq cX5_survey 168 (.iaload) 1 169 := ⟨by decide +kernel, rfl⟩
theorem qX5_survey_169 : Dq cX5_survey 169 (.putfield 97) 3 172 := ⟨by decide +kernel, rfl⟩
theorem qX5_survey_172 : Dq cX5_survey 172 (.return_) 1 173 := ⟨by decide +kernel, rfl⟩
set_option maxRecDepth 100000 in
set_option maxHeartbeats 4000000 in
theorem c_survey {G : Glb} {h : AHp} (hs : ShC h) {cnt : Nat} {TV : Nat → Nat → (Nat → Int32) → Int32} (hru : RuOK h cnt TV) (hca : CaOK h cnt TV) {B : Nat} (hB : isB B) {q : Nat} (hq : q < 48) {rl : Nat} (hrl : rl < cnt) (hB5 : hpI h B 5 = nI rl) (ht : inR (hpI h (B + 2) q) 99) (hh : inR (hpI h B 3) 23)  : CP G m_X5_survey 4 0 0 [.ref 17, .ref B, .int (nI q)] h (fun r h' => r = none ∧ ∃ σ, h' = (σ, h.2) ∧ FrV h σ ∧ CaOK (σ, h.2) cnt TV ∧ σ 17 10 = (dpI TV rl (nI q) (hpI h (B + 2) q) (hpI h B 3)) ∧ σ 17 11 = bz (¬ (seI TV rl (nI q) (hpI h (B + 2) q) (hpI h B 3)) = 0) ∧ σ 17 12 = (shI TV rl (nI q) (hpI h (B + 2) q) (hpI h B 3))) := by
  suffices key : ∀ P : Option Value → AHp → Prop, (∀ r h', (r = none ∧ ∃ σ, h' = (σ, h.2) ∧ FrV h σ ∧ CaOK (σ, h.2) cnt TV ∧ σ 17 10 = (dpI TV rl (nI q) (hpI h (B + 2) q) (hpI h B 3)) ∧ σ 17 11 = bz (¬ (seI TV rl (nI q) (hpI h (B + 2) q) (hpI h B 3)) = 0) ∧ σ 17 12 = (shI TV rl (nI q) (hpI h (B + 2) q) (hpI h B 3))) → P r h') → CP G m_X5_survey 4 0 0 [.ref 17, .ref B, .int (nI q)] h P from key _ (fun _ _ z => z)
  intro P hP
  refine CP.of (by decide +kernel) (Nat.le_of_ble_eq_true rfl) fun X hX hR hnm => ?_
  show V X G 4 0 0 _ 0 [some (.ref 17), some (.ref B), some (.int (nI q)), none] [] h
  have hB8 : B ≤ 7 := by rcases hB with rfl | rfl | rfl <;> omega
  have hc6 := hru.2.1
  have T134 : ∀ (σ : Nat → Nat → Int32), (FrV h σ) → (CaOK (σ, h.2) cnt TV) → (σ 23 q = (dpI TV rl (nI q) (hpI h (B + 2) q) (hpI h B 3))) → (σ 24 q = (seI TV rl (nI q) (hpI h (B + 2) q) (hpI h B 3))) → (σ 25 q = (shI TV rl (nI q) (hpI h (B + 2) q) (hpI h B 3))) → V X G 4 0 0 (QM X G P 0 0) 134 [some (.ref 17), some (.ref B), some (.int (nI q)), some (.int (keyI (nI rl) (hpI h (B + 2) q) (hpI h B 3)))] [] (σ, h.2) := by
    intro σ hfr hca2 h23 h24 h25
    refine v_aload_n hX rfl qX5_survey_134 ?_
    refine v_aload_n hX rfl qX5_survey_135 ?_
    refine v_getR hX g_X5_27 (hs.kd 17 rfl) (hs.rf 24 rfl) qX5_survey_136 ?_
    refine v_iload_n hX rfl qX5_survey_139 ?_
    refine v_ialdV hX (hs.kd 23 rfl) (hs.ln 23 rfl) (by exact ix_n hq rfl) h23 qX5_survey_140 ?_
    refine v_putI hX p_X5_90 (hs.kd 17 rfl) (Or.inl rfl) qX5_survey_141 ?_
    refine v_aload_n hX rfl qX5_survey_144 ?_
    refine v_aload_n hX rfl qX5_survey_145 ?_
    refine v_getR hX g_X5_30 (hs.kd 17 rfl) (hs.rf 25 rfl) qX5_survey_146 ?_
    refine v_iload_n hX rfl qX5_survey_149 ?_
    refine v_ialdV hX (hs.kd 24 rfl) (hs.ln 24 rfl) (by exact ix_n hq rfl) h24 qX5_survey_150 ?_
    first | refine v_if_eqB hX 158 qX5_survey_151 rfl (fun q151 => ?_) (fun q151 => ?_) | refine v_if_eq hX 158 qX5_survey_151 rfl (fun q151 => ?_) (fun q151 => ?_)
    · skip
      refine v_iconst hX li_0 qX5_survey_158 ?_
      refine v_putZ hX (by first | exact nz_0 | exact nz_1 | exact nz_b _) p_X5_93 (hs.kd 17 rfl) (Or.inl rfl) qX5_survey_159 ?_
      refine v_aload_n hX rfl qX5_survey_162 ?_
      refine v_aload_n hX rfl qX5_survey_163 ?_
      refine v_getR hX g_X5_33 (hs.kd 17 rfl) (hs.rf 26 rfl) qX5_survey_164 ?_
      refine v_iload_n hX rfl qX5_survey_167 ?_
      refine v_ialdV hX (hs.kd 25 rfl) (hs.ln 25 rfl) (by exact ix_n hq rfl) h25 qX5_survey_168 ?_
      refine v_putI hX p_X5_97 (hs.kd 17 rfl) (Or.inl rfl) qX5_survey_169 ?_
      refine v_return hX qX5_survey_172 (hP _ _ ?_)
      refine ⟨rfl, _, rfl, fun a k h1 h2 => ?_, hca2.eq (fun a h1 h2 k _ => ?_), rfl, ?_, rfl⟩
      · show hpI (stI _ _ _ _) _ _ = _
        rw [hpI_st, if_neg (by omega), hpI_st, if_neg (by omega), hpI_st, if_neg (by omega)]; exact hfr a k h1 h2
      · show hpI (stI _ _ _ _) _ _ = _
        rw [hpI_st, if_neg (by omega), hpI_st, if_neg (by omega), hpI_st, if_neg (by omega)]
      · first | exact (bz_f (fun z => z q151)).symm | exact (bz_t q151).symm
    · skip
      refine v_iconst hX li_1 qX5_survey_154 ?_
      refine v_goto hX 159 qX5_survey_155 rfl ?_
      refine v_putZ hX (by first | exact nz_0 | exact nz_1 | exact nz_b _) p_X5_93 (hs.kd 17 rfl) (Or.inl rfl) qX5_survey_159 ?_
      refine v_aload_n hX rfl qX5_survey_162 ?_
      refine v_aload_n hX rfl qX5_survey_163 ?_
      refine v_getR hX g_X5_33 (hs.kd 17 rfl) (hs.rf 26 rfl) qX5_survey_164 ?_
      refine v_iload_n hX rfl qX5_survey_167 ?_
      refine v_ialdV hX (hs.kd 25 rfl) (hs.ln 25 rfl) (by exact ix_n hq rfl) h25 qX5_survey_168 ?_
      refine v_putI hX p_X5_97 (hs.kd 17 rfl) (Or.inl rfl) qX5_survey_169 ?_
      refine v_return hX qX5_survey_172 (hP _ _ ?_)
      refine ⟨rfl, _, rfl, fun a k h1 h2 => ?_, hca2.eq (fun a h1 h2 k _ => ?_), rfl, ?_, rfl⟩
      · show hpI (stI _ _ _ _) _ _ = _
        rw [hpI_st, if_neg (by omega), hpI_st, if_neg (by omega), hpI_st, if_neg (by omega)]; exact hfr a k h1 h2
      · show hpI (stI _ _ _ _) _ _ = _
        rw [hpI_st, if_neg (by omega), hpI_st, if_neg (by omega), hpI_st, if_neg (by omega)]
      · first | exact (bz_f (fun z => z q151)).symm | exact (bz_t q151).symm
  refine v_iload_n hX rfl qX5_survey_0 ?_
  refine v_callNq hX hR k_X5_63 (c_isCell _) rfl (Nat.le_of_ble_eq_true rfl) rfl (Nat.le_of_ble_eq_true rfl) ⟨Nat.le_of_ble_eq_true rfl, Nat.le_of_ble_eq_true rfl⟩ qX5_survey_1 ?_
  rintro _ _ ⟨rfl, rfl⟩
  first | refine v_if_neB hX 8 qX5_survey_4 rfl (fun q4 => ?_) (fun q4 => ?_) | refine v_if_ne hX 8 qX5_survey_4 rfl (fun q4 => ?_) (fun q4 => ?_)
  · skip
    refine v_aload_n hX rfl qX5_survey_8 ?_
    refine v_getIv hX g_X5_67 (Or.inl rfl) (hs.bk hB) hB5 qX5_survey_9 ?_
    refine v_bipush hX lb_100 qX5_survey_12 ?_
    refine v_imul hX qX5_survey_14 ?_
    refine v_aload_n hX rfl qX5_survey_15 ?_
    refine v_getR hX g_X5_72 (hs.bk hB) (hs.bt hB) qX5_survey_16 ?_
    refine v_iload_n hX rfl qX5_survey_19 ?_
    refine v_ialdJ hX (hs.btk hB) (hs.btl hB) (by exact ix_n hq rfl) qX5_survey_20 ?_
    refine v_iadd hX qX5_survey_21 ?_
    refine v_bipush hX lb_24 qX5_survey_22 ?_
    refine v_imul hX qX5_survey_24 ?_
    refine v_aload_n hX rfl qX5_survey_25 ?_
    refine v_getI hX g_X5_75 (Or.inl rfl) (hs.bk hB) qX5_survey_26 ?_
    refine v_iadd hX qX5_survey_29 ?_
    refine v_iconst hX li_1 qX5_survey_30 ?_
    refine v_iadd hX qX5_survey_31 ?_
    refine v_eqI (show _ = (keyI (nI rl) (hpI h (B + 2) q) (hpI h B 3)) from rfl) ?_
    refine v_istore_n hX (Nat.le_of_ble_eq_true rfl) rfl (ls' := [some _, some _, some _, some _]) rfl qX5_survey_32 ?_
    refine v_aload_n hX rfl qX5_survey_33 ?_
    refine v_getR hX g_X5_24 (hs.kd 17 rfl) (hs.rf 23 rfl) qX5_survey_34 ?_
    refine v_iload_n hX rfl qX5_survey_37 ?_
    refine v_ialdJ hX (hs.kd 22 rfl) (hs.ln 22 rfl) (by exact ix_n hq rfl) qX5_survey_38 ?_
    refine v_iload_n hX rfl qX5_survey_39 ?_
    refine v_icmp_eq hX 134 qX5_survey_40 rfl (fun q40 => ?_) (fun q40 => ?_)
    · have hit := hca.hit hc6 hq hrl ht hh q40
      first | exact T134 h.1 (fun a k _ _ => rfl) hca hit.1 hit.2.1 hit.2.2 | exact T134 (stI (σ7, h.2) 25 q (shI TV rl (nI q) (hpI h (B + 2) q) (hpI h B 3))).1 (fun a k h1 h2 => (by show hpI (stI _ _ _ _) _ _ = _; rw [hpI_st, if_neg (by omega)]; exact g7 a k (by omega) (by omega) (by omega) (by omega))) (hca.put hrl ht hh (by show hpI (stI _ _ _ _) _ _ = _; rw [hpI_st, if_neg (by omega)]; exact kk7) (by show hpI (stI _ _ _ _) _ _ = _; rw [hpI_st, if_neg (by omega)]; exact dd7) (by show hpI (stI _ _ _ _) _ _ = _; rw [hpI_st, if_neg (by omega)]; exact ss7) (by show hpI (stI _ _ _ _) _ _ = _; rw [hpI_st, if_pos ⟨rfl, rfl⟩]) (fun a k h1 h2 h3 => (by show hpI (stI _ _ _ _) _ _ = _; rw [hpI_st, if_neg (by omega)]; exact g7 a k (by omega) (by omega) (by omega) (by omega)))) (by show hpI (stI _ _ _ _) _ _ = _; rw [hpI_st, if_neg (by omega)]; exact dd7) (by show hpI (stI _ _ _ _) _ _ = _; rw [hpI_st, if_neg (by omega)]; exact ss7) (by show hpI (stI _ _ _ _) _ _ = _; rw [hpI_st, if_pos ⟨rfl, rfl⟩])
    · skip
      refine v_aload_n hX rfl qX5_survey_43 ?_
      refine v_getR hX g_X5_24 (hs.kd 17 rfl) (hs.rf 23 rfl) qX5_survey_44 ?_
      refine v_iload_n hX rfl qX5_survey_47 ?_
      refine v_iload_n hX rfl qX5_survey_48 ?_
      refine v_iastJ hX (hs.kd 22 rfl) (hs.ln 22 rfl) (by exact ix_n hq rfl) qX5_survey_49 ?_
      refine v_aload_n hX rfl qX5_survey_50 ?_
      refine v_iload_n hX rfl qX5_survey_51 ?_
      refine v_aload_n hX rfl qX5_survey_52 ?_
      refine v_getR hX g_X5_72 (hs.bk hB) (hs.bt hB) qX5_survey_53 ?_
      refine v_iload_n hX rfl qX5_survey_56 ?_
      refine v_ialdV hX (hs.btk hB) (hs.btl hB) (by exact ix_n hq rfl) (show hpI (stI h 22 q (keyI (nI rl) (hpI h (B + 2) q) (hpI h B 3))) (B + 2) q = (hpI h (B + 2) q) by rw [hpI_st, if_neg (by omega)]) qX5_survey_57 ?_
      refine v_aload_n hX rfl qX5_survey_58 ?_
      refine v_getIv hX g_X5_75 (Or.inl rfl) (hs.bk hB) (show hpI (stI h 22 q (keyI (nI rl) (hpI h (B + 2) q) (hpI h B 3))) B 3 = (hpI h B 3) by rw [hpI_st, if_neg (by omega)]) qX5_survey_59 ?_
      refine v_callVq hX hR k_X5_78 (hs.kd 17 rfl) (c_stand (by exact hs) _ _ _) rfl (Nat.le_of_ble_eq_true rfl) rfl (Nat.le_of_ble_eq_true rfl) ⟨Nat.le_of_ble_eq_true rfl, Nat.le_of_ble_eq_true rfl⟩ qX5_survey_62 ?_
      rintro _ _ ⟨rfl, σ1, rfl, hn1, hf1⟩
      have g1 : ∀ a k, a ≠ 20 → a ≠ 21 → ¬ (a = 17 ∧ k = 5) → ¬ (22 ≤ a ∧ a ≤ 25 ∧ k = q) → σ1 a k = hpI h a k := fun a k h1 h2 h3 h4 => (congrFun (hf1 a h1) k).trans (by rw [hpI_st, if_neg (by omega)])
      have kk1 : σ1 22 q = (keyI (nI rl) (hpI h (B + 2) q) (hpI h B 3)) := (congrFun (hf1 22 (by decide)) q).trans (by rw [hpI_st, if_pos ⟨rfl, rfl⟩])
      refine v_aload_n hX rfl qX5_survey_65 ?_
      refine v_getR hX g_X5_27 (hs.kd 17 rfl) (hs.rf 24 rfl) qX5_survey_66 ?_
      refine v_iload_n hX rfl qX5_survey_69 ?_
      refine v_aload_n hX rfl qX5_survey_70 ?_
      refine v_aload_n hX rfl qX5_survey_71 ?_
      refine v_getIv hX g_X5_67 (Or.inl rfl) (hs.bk hB) ((g1 B 5 (by omega) (by omega) (by omega) (by omega)).trans hB5) qX5_survey_72 ?_
      refine v_iconst hX li_0 qX5_survey_75 ?_
      refine v_callVq hX hR k_X5_82 (hs.kd 17 rfl) (c_value (by exact hs) (by exact (hru.fr (g1 17 2 (by omega) (by omega) (by omega) (by omega)) (funext fun k => g1 18 k (by omega) (by omega) (by omega) (by omega)) (funext fun k => g1 19 k (by omega) (by omega) (by omega) (by omega)))) (qq := 0) (by exact hrl) (by omega) (by exact hn1)) rfl (Nat.le_of_ble_eq_true rfl) rfl (Nat.le_of_ble_eq_true rfl) ⟨Nat.le_of_ble_eq_true rfl, Nat.le_of_ble_eq_true rfl⟩ qX5_survey_76 ?_
      rintro _ _ ⟨rfl, σ2, rfl, hf2⟩
      have g2 : ∀ a k, a ≠ 20 → a ≠ 21 → ¬ (a = 17 ∧ k = 5) → ¬ (22 ≤ a ∧ a ≤ 25 ∧ k = q) → σ2 a k = hpI h a k := fun a k h1 h2 h3 h4 => (hf2 a k h2 h3).trans (g1 a k h1 h2 h3 h4)
      have kk2 : σ2 22 q = (keyI (nI rl) (hpI h (B + 2) q) (hpI h B 3)) := (hf2 22 q (by omega) (by omega)).trans kk1
      have hn2 : ∀ k, k < 6 → σ2 20 k = (envC (nI q) (hpI h (B + 2) q) (hpI h B 3) 0) k := fun k hk => (hf2 20 k (by omega) (by omega)).trans (hn1 k hk)
      refine v_iconst hX li_0 qX5_survey_79 ?_
      refine v_bipush hX lb_99 qX5_survey_80 ?_
      refine v_callNq hX hR k_X5_86 (c_bounded _ _ _) rfl (Nat.le_of_ble_eq_true rfl) rfl (Nat.le_of_ble_eq_true rfl) ⟨Nat.le_of_ble_eq_true rfl, Nat.le_of_ble_eq_true rfl⟩ qX5_survey_82 ?_
      rintro _ _ ⟨rfl, rfl⟩
      refine v_eqI (show _ = (dpI TV rl (nI q) (hpI h (B + 2) q) (hpI h B 3)) from rfl) ?_
      refine v_iastJ hX (hs.kd 23 rfl) (hs.ln 23 rfl) (by exact ix_n hq rfl) qX5_survey_85 ?_
      obtain ⟨σ3, e3, g3, kk3, dd3⟩ : ∃ σ3, stI (σ2, h.2) 23 q (dpI TV rl (nI q) (hpI h (B + 2) q) (hpI h B 3)) = (σ3, h.2) ∧ (∀ a k, a ≠ 20 → a ≠ 21 → ¬ (a = 17 ∧ k = 5) → ¬ (22 ≤ a ∧ a ≤ 25 ∧ k = q) → σ3 a k = hpI h a k) ∧ (σ3 22 q = (keyI (nI rl) (hpI h (B + 2) q) (hpI h B 3))) ∧ (σ3 23 q = (dpI TV rl (nI q) (hpI h (B + 2) q) (hpI h B 3))) := by
        refine ⟨_, rfl, fun a k h1 h2 h3 h4 => ?_, ?_, ?_⟩
        · show up2 σ2 23 q (dpI TV rl (nI q) (hpI h (B + 2) q) (hpI h B 3)) _ _ = _
          rw [up2_ne (by omega)]; exact g2 a k h1 h2 h3 h4
        · show up2 σ2 23 q (dpI TV rl (nI q) (hpI h (B + 2) q) (hpI h B 3)) _ _ = _
          rw [up2_ne (by omega)]; exact kk2
        · show up2 σ2 23 q (dpI TV rl (nI q) (hpI h (B + 2) q) (hpI h B 3)) _ _ = _
          rw [up2_at]
      refine v_eqH e3 ?_
      have hn3 : ∀ k, k < 6 → σ3 20 k = (envC (nI q) (hpI h (B + 2) q) (hpI h B 3) 0) k := fun k hk => by
        have := congrFun (congrFun (congrArg Prod.fst e3) 20) k
        exact this.symm.trans (hn2 k hk)
      refine v_aload_n hX rfl qX5_survey_86 ?_
      refine v_getR hX g_X5_30 (hs.kd 17 rfl) (hs.rf 25 rfl) qX5_survey_87 ?_
      refine v_iload_n hX rfl qX5_survey_90 ?_
      refine v_aload_n hX rfl qX5_survey_91 ?_
      refine v_aload_n hX rfl qX5_survey_92 ?_
      refine v_getIv hX g_X5_67 (Or.inl rfl) (hs.bk hB) ((g3 B 5 (by omega) (by omega) (by omega) (by omega)).trans hB5) qX5_survey_93 ?_
      refine v_iconst hX li_1 qX5_survey_96 ?_
      refine v_callVq hX hR k_X5_82 (hs.kd 17 rfl) (c_value (by exact hs) (by exact (hru.fr (g3 17 2 (by omega) (by omega) (by omega) (by omega)) (funext fun k => g3 18 k (by omega) (by omega) (by omega) (by omega)) (funext fun k => g3 19 k (by omega) (by omega) (by omega) (by omega)))) (qq := 1) (by exact hrl) (by omega) (by exact hn3)) rfl (Nat.le_of_ble_eq_true rfl) rfl (Nat.le_of_ble_eq_true rfl) ⟨Nat.le_of_ble_eq_true rfl, Nat.le_of_ble_eq_true rfl⟩ qX5_survey_97 ?_
      rintro _ _ ⟨rfl, σ4, rfl, hf4⟩
      have g4 : ∀ a k, a ≠ 20 → a ≠ 21 → ¬ (a = 17 ∧ k = 5) → ¬ (22 ≤ a ∧ a ≤ 25 ∧ k = q) → σ4 a k = hpI h a k := fun a k h1 h2 h3 h4 => (hf4 a k h2 h3).trans (g3 a k h1 h2 h3 h4)
      have kk4 : σ4 22 q = (keyI (nI rl) (hpI h (B + 2) q) (hpI h B 3)) := (hf4 22 q (by omega) (by omega)).trans kk3
      have dd4 : σ4 23 q = (dpI TV rl (nI q) (hpI h (B + 2) q) (hpI h B 3)) := (hf4 23 q (by omega) (by omega)).trans dd3
      have hn4 : ∀ k, k < 6 → σ4 20 k = (envC (nI q) (hpI h (B + 2) q) (hpI h B 3) 0) k := fun k hk => (hf4 20 k (by omega) (by omega)).trans (hn3 k hk)
      refine v_eqI (show _ = (seI TV rl (nI q) (hpI h (B + 2) q) (hpI h B 3)) from rfl) ?_
      refine v_iastJ hX (hs.kd 24 rfl) (hs.ln 24 rfl) (by exact ix_n hq rfl) qX5_survey_100 ?_
      obtain ⟨σ5, e5, g5, kk5, dd5, ss5⟩ : ∃ σ5, stI (σ4, h.2) 24 q (seI TV rl (nI q) (hpI h (B + 2) q) (hpI h B 3)) = (σ5, h.2) ∧ (∀ a k, a ≠ 20 → a ≠ 21 → ¬ (a = 17 ∧ k = 5) → ¬ (22 ≤ a ∧ a ≤ 25 ∧ k = q) → σ5 a k = hpI h a k) ∧ (σ5 22 q = (keyI (nI rl) (hpI h (B + 2) q) (hpI h B 3))) ∧ (σ5 23 q = (dpI TV rl (nI q) (hpI h (B + 2) q) (hpI h B 3))) ∧ (σ5 24 q = (seI TV rl (nI q) (hpI h (B + 2) q) (hpI h B 3))) := by
        refine ⟨_, rfl, fun a k h1 h2 h3 h4 => ?_, ?_, ?_, ?_⟩
        · show up2 σ4 24 q (seI TV rl (nI q) (hpI h (B + 2) q) (hpI h B 3)) _ _ = _
          rw [up2_ne (by omega)]; exact g4 a k h1 h2 h3 h4
        · show up2 σ4 24 q (seI TV rl (nI q) (hpI h (B + 2) q) (hpI h B 3)) _ _ = _
          rw [up2_ne (by omega)]; exact kk4
        · show up2 σ4 24 q (seI TV rl (nI q) (hpI h (B + 2) q) (hpI h B 3)) _ _ = _
          rw [up2_ne (by omega)]; exact dd4
        · show up2 σ4 24 q (seI TV rl (nI q) (hpI h (B + 2) q) (hpI h B 3)) _ _ = _
          rw [up2_at]
      refine v_eqH e5 ?_
      have hn5 : ∀ k, k < 6 → σ5 20 k = (envC (nI q) (hpI h (B + 2) q) (hpI h B 3) 0) k := fun k hk => by
        have := congrFun (congrFun (congrArg Prod.fst e5) 20) k
        exact this.symm.trans (hn4 k hk)
      refine v_aload_n hX rfl qX5_survey_101 ?_
      refine v_getR hX g_X5_18 (hs.kd 17 rfl) (hs.rf 21 rfl) qX5_survey_102 ?_
      refine v_iconst hX li_2 qX5_survey_105 ?_
      refine v_aload_n hX rfl qX5_survey_106 ?_
      refine v_getR hX g_X5_27 (hs.kd 17 rfl) (hs.rf 24 rfl) qX5_survey_107 ?_
      refine v_iload_n hX rfl qX5_survey_110 ?_
      refine v_ialdV hX (hs.kd 23 rfl) (hs.ln 23 rfl) (by exact ix_n hq rfl) dd5 qX5_survey_111 ?_
      refine v_iastJ hX (hs.kd 20 rfl) (hs.ln 20 rfl) (by exact ixk 2 (by decide) (by decide) rfl) qX5_survey_112 ?_
      obtain ⟨σ6, e6, g6, kk6, dd6, ss6⟩ : ∃ σ6, stI (σ5, h.2) 20 2 (dpI TV rl (nI q) (hpI h (B + 2) q) (hpI h B 3)) = (σ6, h.2) ∧ (∀ a k, a ≠ 20 → a ≠ 21 → ¬ (a = 17 ∧ k = 5) → ¬ (22 ≤ a ∧ a ≤ 25 ∧ k = q) → σ6 a k = hpI h a k) ∧ (σ6 22 q = (keyI (nI rl) (hpI h (B + 2) q) (hpI h B 3))) ∧ (σ6 23 q = (dpI TV rl (nI q) (hpI h (B + 2) q) (hpI h B 3))) ∧ (σ6 24 q = (seI TV rl (nI q) (hpI h (B + 2) q) (hpI h B 3))) := by
        refine ⟨_, rfl, fun a k h1 h2 h3 h4 => ?_, ?_, ?_, ?_⟩
        · show up2 σ5 20 2 (dpI TV rl (nI q) (hpI h (B + 2) q) (hpI h B 3)) _ _ = _
          rw [up2_ne (by omega)]; exact g5 a k h1 h2 h3 h4
        · show up2 σ5 20 2 (dpI TV rl (nI q) (hpI h (B + 2) q) (hpI h B 3)) _ _ = _
          rw [up2_ne (by omega)]; exact kk5
        · show up2 σ5 20 2 (dpI TV rl (nI q) (hpI h (B + 2) q) (hpI h B 3)) _ _ = _
          rw [up2_ne (by omega)]; exact dd5
        · show up2 σ5 20 2 (dpI TV rl (nI q) (hpI h (B + 2) q) (hpI h B 3)) _ _ = _
          rw [up2_ne (by omega)]; exact ss5
      refine v_eqH e6 ?_
      have hn6 : ∀ k, k < 6 → σ6 20 k = envC (nI q) (hpI h (B + 2) q) (hpI h B 3) (dpI TV rl (nI q) (hpI h (B + 2) q) (hpI h B 3)) k := fun k hk => by
        have := congrFun (congrFun (congrArg Prod.fst e6) 20) k
        refine this.symm.trans ?_
        have hk6 : k = 0 ∨ k = 1 ∨ k = 2 ∨ k = 3 ∨ k = 4 ∨ k = 5 := by omega
        rcases hk6 with rfl | rfl | rfl | rfl | rfl | rfl <;> first | rfl | exact hn5 _ hk
      refine v_aload_n hX rfl qX5_survey_113 ?_
      refine v_getR hX g_X5_33 (hs.kd 17 rfl) (hs.rf 26 rfl) qX5_survey_114 ?_
      refine v_iload_n hX rfl qX5_survey_117 ?_
      refine v_aload_n hX rfl qX5_survey_118 ?_
      refine v_aload_n hX rfl qX5_survey_119 ?_
      refine v_getIv hX g_X5_67 (Or.inl rfl) (hs.bk hB) ((g6 B 5 (by omega) (by omega) (by omega) (by omega)).trans hB5) qX5_survey_120 ?_
      refine v_iconst hX li_2 qX5_survey_123 ?_
      refine v_callVq hX hR k_X5_82 (hs.kd 17 rfl) (c_value (by exact hs) (by exact (hru.fr (g6 17 2 (by omega) (by omega) (by omega) (by omega)) (funext fun k => g6 18 k (by omega) (by omega) (by omega) (by omega)) (funext fun k => g6 19 k (by omega) (by omega) (by omega) (by omega)))) (qq := 2) (by exact hrl) (by omega) (by exact hn6)) rfl (Nat.le_of_ble_eq_true rfl) rfl (Nat.le_of_ble_eq_true rfl) ⟨Nat.le_of_ble_eq_true rfl, Nat.le_of_ble_eq_true rfl⟩ qX5_survey_124 ?_
      rintro _ _ ⟨rfl, σ7, rfl, hf7⟩
      have g7 : ∀ a k, a ≠ 20 → a ≠ 21 → ¬ (a = 17 ∧ k = 5) → ¬ (22 ≤ a ∧ a ≤ 25 ∧ k = q) → σ7 a k = hpI h a k := fun a k h1 h2 h3 h4 => (hf7 a k h2 h3).trans (g6 a k h1 h2 h3 h4)
      have kk7 : σ7 22 q = (keyI (nI rl) (hpI h (B + 2) q) (hpI h B 3)) := (hf7 22 q (by omega) (by omega)).trans kk6
      have dd7 : σ7 23 q = (dpI TV rl (nI q) (hpI h (B + 2) q) (hpI h B 3)) := (hf7 23 q (by omega) (by omega)).trans dd6
      have ss7 : σ7 24 q = (seI TV rl (nI q) (hpI h (B + 2) q) (hpI h B 3)) := (hf7 24 q (by omega) (by omega)).trans ss6
      refine v_iconst hX li_0 qX5_survey_127 ?_
      refine v_bipush hX lb_100 qX5_survey_128 ?_
      refine v_callNq hX hR k_X5_86 (c_bounded _ _ _) rfl (Nat.le_of_ble_eq_true rfl) rfl (Nat.le_of_ble_eq_true rfl) ⟨Nat.le_of_ble_eq_true rfl, Nat.le_of_ble_eq_true rfl⟩ qX5_survey_130 ?_
      rintro _ _ ⟨rfl, rfl⟩
      refine v_eqI (show _ = (shI TV rl (nI q) (hpI h (B + 2) q) (hpI h B 3)) from rfl) ?_
      refine v_iastJ hX (hs.kd 25 rfl) (hs.ln 25 rfl) (by exact ix_n hq rfl) qX5_survey_133 ?_
      first | exact T134 h.1 (fun a k _ _ => rfl) hca hit.1 hit.2.1 hit.2.2 | exact T134 (stI (σ7, h.2) 25 q (shI TV rl (nI q) (hpI h (B + 2) q) (hpI h B 3))).1 (fun a k h1 h2 => (by show hpI (stI _ _ _ _) _ _ = _; rw [hpI_st, if_neg (by omega)]; exact g7 a k (by omega) (by omega) (by omega) (by omega))) (hca.put hrl ht hh (by show hpI (stI _ _ _ _) _ _ = _; rw [hpI_st, if_neg (by omega)]; exact kk7) (by show hpI (stI _ _ _ _) _ _ = _; rw [hpI_st, if_neg (by omega)]; exact dd7) (by show hpI (stI _ _ _ _) _ _ = _; rw [hpI_st, if_neg (by omega)]; exact ss7) (by show hpI (stI _ _ _ _) _ _ = _; rw [hpI_st, if_pos ⟨rfl, rfl⟩]) (fun a k h1 h2 h3 => (by show hpI (stI _ _ _ _) _ _ = _; rw [hpI_st, if_neg (by omega)]; exact g7 a k (by omega) (by omega) (by omega) (by omega)))) (by show hpI (stI _ _ _ _) _ _ = _; rw [hpI_st, if_neg (by omega)]; exact dd7) (by show hpI (stI _ _ _ _) _ _ = _; rw [hpI_st, if_neg (by omega)]; exact ss7) (by show hpI (stI _ _ _ _) _ _ = _; rw [hpI_st, if_pos ⟨rfl, rfl⟩])
  · exact absurd (isCn hq) q4
end
section
/-! the lookers by their kinds, called from outside -/
def fgt : List (Option Value) → List (Option Value) → Prop
  | [], [] => True
  | a :: l, b :: l' => (b = none ∨ b = a) ∧ fgt l l'
  | _, _ => False
theorem fgt_sub : ∀ {ls ls' : List (Option Value)}, fgt ls ls' → ∀ (i : Nat) (v : Value), ls'[i]? = some (some v) → ls[i]? = some (some v) := by
  intro ls
  induction ls with
  | nil => intro ls' h; cases ls' with
    | nil => intro i v hv; exact hv
    | cons b l => exact absurd h (fun z => z)
  | cons a l ih => intro ls' h; cases ls' with
    | nil => exact absurd h (fun z => z)
    | cons b l' =>
      intro i v hv
      cases i with
      | zero =>
        rcases h.1 with e | e
        · subst e; simp at hv
        · subst e; exact hv
      | succ i => simpa using ih h.2 i v (by simpa using hv)
/-- what is known of the locals may be forgotten -/
theorem v_forget {X : Cx} {G : Glb} {nL k n pc : Nat} {Q : State → Prop} {ls ls' : List (Option Value)} {st : List Value} {h : AHp} (e : fgt ls ls') (kk : V X G nL k n Q pc ls' st h) : V X G nL k n Q pc ls st h := fun H locs la hW hS hL => kk H locs la hW hS (hL.to (fgt_sub e))
theorem ws_a : Cond.methodLink RX3 21 (⟨"RingInSand$Plate", "stamps", "()I"⟩ : MethodName) ∈ TG := tg_mem 776 (by decide +kernel) (by decide +kernel)
theorem ws_b : Cond.sameMethod "RingInSand$Plate" "RingInSand$Eyes" "stamps" "()I" ∈ TG := tg_mem 777 (by decide +kernel) (by decide +kernel)
theorem ws_c : Cond.superclass RX3 RX4 ∈ TG := tg_mem 693 (by decide +kernel) (by decide +kernel)
theorem ws_d : Cond.superclass RX4 RX1 ∈ TG := tg_mem 677 (by decide +kernel) (by decide +kernel)
theorem ws_e : Cond.instanceMethod yX1_stamps ∈ TG := tg_mem 766 (by decide +kernel) (by decide +kernel)
section VSS2
variable {X : Cx} {G : Glb} {cc : ByteArray} {nL k n pc pc' : Nat} {rt : Option FieldType} {Q : State → Prop} {ls : List (Option Value)} {st : List Value} {h : AHp} {P : Option Value → AHp → Prop} {d d' kc ks : Nat}
theorem sub2 {vm : Vm} {a b : ClassId} {ka : Class} (h1 : vm.classes[a]? = some ka) (h2 : ka.super = some b) : vm.isSubclass a b = true := by
  have hz : a < vm.classes.size := (Array.getElem?_eq_some_iff.mp h1).1
  obtain ⟨z, hz2⟩ : ∃ z, vm.classes.size = z + 1 := ⟨vm.classes.size - 1, (Nat.succ_pred_eq_of_pos (Nat.lt_of_le_of_lt (Nat.zero_le _) hz)).symm⟩
  show vm.isSubclassAux (vm.classes.size + 1) a b = true
  rw [hz2]
  simp [Vm.isSubclassAux, h1, h2]
/-- super.stamps() of a LAD: its own superclass has none, so it is the one above's -/
theorem v_superStamps (hX : OKx X G RX3 cc nL rt) (hR : xR X = rmC d kc ks) {a : Nat} (hk : Kd h a 3) (hc : CP G m_X1_stamps d' 0 0 [.ref a] h P) (hd' : d' < d) (hcat : (st.map fun v => v.category).sum ≤ 8) (hroom : k ≤ kc ∧ n ≤ ks) (hd : Dq cc pc (.invokespecial 21) 3 pc') (kk : ∀ r h', P r h' → V X G nL k n Q pc' ls (r.toList ++ st) h') : V X G nL k n Q pc ls (.ref a :: st) h := by
  obtain ⟨hd, rfl⟩ := hd
  refine v_run (mc := 0) (ms := 0) (a := #[Value.ref (gAd G a)]) hX (fun H locs la hW hS hL => ?_) kk
  have hw := hX.2.2.2.2.2.1
  have hI := mi_X1_stamps
  have hroomC := roomC (M := m_X1_stamps) (mc := 0) (ms := 0) hR hd' hI.2.2.2
  have hp := preV (C := RX3) (ci := 3) (T := TX3) (N := 1) (av := []) hX hW hk rfl (by omega)
  have hcode : (Cond.code yX1_stamps cX1_stamps 1 (some .int)).before (xa X) (xs X) = true := hw _ hI.1
  have hG := good_all hI.1
  have hB : Back (xl X) (xR X) (xp X) (xe X) (xb X) (xs X) (xa X) yX1_stamps 3 8 (PreOf (xR X) 0 0 (Pcx G [.ref a] h)) (PostOf (Qp G P) 0 0 (AsG G)) := back_of (bytes := cX1_stamps) (maxL := 1) (ret := some .int) (hc (xl X)) hp.1 rfl rfl hroomC.1 hroomC.2 (pay_in hw hG) List.mem_cons_self (fun a' U hW => word_at hW (Or.inl (by first | rfl | simp [Cond.onTables, Cond.keeps, Cond.steady])) (hw _ hI.2.1))
  obtain ⟨-, ⟨cellB, hcB, hoB, hclB⟩, hPc⟩ := hp
  obtain ⟨hfc, kB, hkB, -⟩ := (hX.2.2.2.2.2.2.1.1.1 3 _ rfl).2
  rw [Option.some.inj (hfc.symm.trans hclB)] at hkB
  intro T hT Z
  obtain ⟨mk, methM, hnamed, hmethM, hstM, habM⟩ := Cond.instanceMethod_spec (hw _ ws_e)
  obtain ⟨methM', cM, hmethM', -, -, -, -, -, -, hsigM⟩ := Cond.code_spec hnamed hcode
  cases hmethM.symm.trans hmethM'
  obtain ⟨ps, dk, kp, hps, hdk, hkp, hsuper, -, -, hnid⟩ := Cond.superclass_spec hX.2.2.2.2.1 (hw _ ws_c)
  obtain ⟨ps2, dk2, kp2, hps2, hdk2, hkp2, hsuper2, -, -, -⟩ := Cond.superclass_spec hps (hw _ ws_d)
  have hpm : ps2 = mk.cls := Option.some.inj (hps2.symm.trans (findClass_of_methodNamed hnamed))
  have hsub : (xs X).vm.isSubclass ps mk.cls = true := by rw [← hpm]; exact sub2 hdk2 hsuper2
  obtain ⟨vm₁, X₁, hstep₁⟩ := Z.invokespecialUp hX.1 hX.2.2.2.2.1 (hw _ ws_a) (hw _ ws_b) hnamed hmethM hstM habM (by decide +kernel) hdk hnid hps hsuper hsub (a := gAd G a) (cell := cellB) (by rw [hT]; exact hcB)
    (fun z h => by rw [h] at hoB; cases hoB) hkB (g := F0 (xm X) pc la ((Value.ref a :: st).map (cv G))) rfl (argsL := []) (rest := st.map (cv G)) (by
      have h1 := hsigM
      have h2 : (parseMethodDescriptor yX1_stamps.desc).map (fun d => d.parameters.length) = some 0 := by decide +kernel
      rw [h1] at h2
      exact (Option.some.inj h2).symm) rfl (by rw [hX.2.1]; exact hd)
  obtain ⟨v, ⟨U', l2, c2, s2⟩, X', ⟨g', mk', t, L, e1, e2, hq, h1, hL', h2, h3⟩, hsteps⟩ := hB (xm X) (xM X) (xc X) ⟨T.setVm vm₁, locs, k, n⟩ { F0 (xm X) pc la ((Value.ref a :: st).map (cv G)) with stack := st.map (cv G) } (.invokespecial 21) mk #[Value.ref (gAd G a)] X₁ rfl (hL.1.trans hX.2.2.2.1.symm) (by rw [hX.2.1]; exact hd) (lv_room (catS hcat)) (X₁.named hnamed) ⟨(fitR (mc := 0) (ms := 0) hR hroom).1, (fitR (mc := 0) (ms := 0) hR hroom).2, hPc (T.setVm vm₁) hT X₁.warmed⟩
  dsimp only [Pt.U, Pt.locs, Pt.cells, Pt.slots] at X' e1 e2 h1 h2 h3 hsteps
  subst h1; subst h2; subst h3
  exact ⟨v, (T.setVm vm₁).calling g' mk' #[Value.ref (gAd G a)], t, U', L, hT, X', hL', e1, e2, hq, fun target h => hstep₁ _ (by rw [doInvoke_state]; exact hsteps.trans h)⟩
end VSS2
theorem qX3_stamps_0 : Dq cX3_stamps 0 (.aload_n 0) 1 1 := ⟨by decide +kernel, rfl⟩
theorem qX3_stamps_1 : Dq cX3_stamps 1 (.invokespecial 21) 3 4 := ⟨by decide +kernel, rfl⟩
theorem qX3_stamps_4 : Dq cX3_stamps 4 (.aload_n 0) 1 5 := ⟨by decide +kernel, rfl⟩
theorem qX3_stamps_5 : Dq cX3_stamps 5 (.getfield 11) 3 8 := ⟨by decide +kernel, rfl⟩
theorem qX3_stamps_8 : Dq cX3_stamps 8 (.iadd) 1 9 := ⟨by decide +kernel, rfl⟩
theorem qX3_stamps_9 : Dq cX3_stamps 9 (.ireturn) 1 10 := ⟨by decide +kernel, rfl⟩
set_option maxRecDepth 100000 in
set_option maxHeartbeats 4000000 in
theorem c_X3_stamps_3 {G : Glb} {h : AHp} {a : Nat} (hk : Kd h a 3)  : CP G m_X3_stamps 3 0 0 [.ref a] h (fun r h' => r = some (.int (2 + hpI h a 0)) ∧ h = h') := by
  suffices key : ∀ P : Option Value → AHp → Prop, (∀ r h', (r = some (.int (2 + hpI h a 0)) ∧ h = h') → P r h') → CP G m_X3_stamps 3 0 0 [.ref a] h P from key _ (fun _ _ z => z)
  intro P hP
  refine CP.of (by decide +kernel) (Nat.le_of_ble_eq_true rfl) fun X hX hR hnm => ?_
  show V X G 1 0 0 _ 0 [some (.ref a)] [] h
  refine v_aload_n hX rfl qX3_stamps_0 ?_
  refine v_superStamps hX hR hk (c_X1_stamps_3 hk) (Nat.le_of_ble_eq_true rfl) (Nat.le_of_ble_eq_true rfl) ⟨Nat.le_of_ble_eq_true rfl, Nat.le_of_ble_eq_true rfl⟩ qX3_stamps_1 ?_
  rintro _ _ ⟨rfl, rfl⟩
  refine v_aload_n hX rfl qX3_stamps_4 ?_
  refine v_getI hX g_X3_11 (Or.inl rfl) hk qX3_stamps_5 ?_
  refine v_iadd hX qX3_stamps_8 ?_
  refine v_ireturn hX qX3_stamps_9 (hP _ _ ?_)
  exact ⟨rfl, rfl⟩
theorem qX11_goodHere_0 : Dq cX11_goodHere 0 (.aload_n 0) 1 1 := ⟨by decide +kernel, rfl⟩
theorem qX11_goodHere_1 : Dq cX11_goodHere 1 (.getfield 38) 3 4 := ⟨by decide +kernel, rfl⟩
theorem qX11_goodHere_4 : Dq cX11_goodHere 4 (.getfield 127) 3 7 := ⟨by decide +kernel, rfl⟩
theorem qX11_goodHere_7 : Dq cX11_goodHere 7 (.ifCond .eq 7) 3 10 := ⟨by decide +kernel, rfl⟩
theorem qX11_goodHere_10 : Dq cX11_goodHere 10 (.iconst 0) 1 11 := ⟨by decide +kernel, rfl⟩
theorem qX11_goodHere_11 : Dq cX11_goodHere 11 (.goto 27) 3 14 := ⟨by decide +kernel, rfl⟩
theorem qX11_goodHere_14 : Dq cX11_goodHere 14 (.aload_n 1) 1 15 := ⟨by decide +kernel, rfl⟩
theorem qX11_goodHere_15 : Dq cX11_goodHere 15 (.aload_n 0) 1 16 := ⟨by decide +kernel, rfl⟩
theorem qX11_goodHere_16 : Dq cX11_goodHere 16 (.getfield 38) 3 19 := ⟨by decide +kernel, rfl⟩
theorem qX11_goodHere_19 : Dq cX11_goodHere 19 (.getfield 124) 3 22 := ⟨by decide +kernel, rfl⟩
theorem qX11_goodHere_22 : Dq cX11_goodHere 22 (.aload_n 0) 1 23 := ⟨by decide +kernel, rfl⟩
theorem qX11_goodHere_23 : Dq cX11_goodHere 23 (.getfield 38) 3 26 := ⟨by decide +kernel, rfl⟩
theorem qX11_goodHere_26 : Dq cX11_goodHere 26 (.getfield 131) 3 29 := ⟨by decide +kernel, rfl⟩
theorem qX11_goodHere_29 : Dq cX11_goodHere 29 (.invokevirtual 365) 3 32 := ⟨by decide +kernel, rfl⟩
theorem qX11_goodHere_32 : Dq cX11_goodHere 32 (.iconst 0) 1 33 := ⟨by decide +kernel, rfl⟩
theorem qX11_goodHere_33 : Dq cX11_goodHere 33 (.bipush 100) 2 35 := ⟨by decide +kernel, rfl⟩
theorem qX11_goodHere_35 : Dq cX11_goodHere 35 (.invokestatic 368) 3 38 := ⟨by decide +kernel, rfl⟩
theorem qX11_goodHere_38 : Dq cX11_goodHere 38 (.ireturn) 1 39 := ⟨by decide +kernel, rfl⟩
set_option maxRecDepth 100000 in
set_option maxHeartbeats 4000000 in
theorem c_goodHere {G : Glb} {h : AHp} (hs : ShC h) {k a : Nat} {nn : Int32} (hk6 : k < 6) (hk : Kd h a (kcl k)) (hn : hpI h a 0 = nn)  : CP G m_X11_goodHere 4 0 0 [.ref 0, .ref a] h (fun r h' => r = some (.int (if hpI h 17 11 = 0 then bnd (fdR k nn (hpI h 17 10) (hpI h 17 12)) 0 100 else 0)) ∧ h = h') := by
  suffices key : ∀ P : Option Value → AHp → Prop, (∀ r h', (r = some (.int (if hpI h 17 11 = 0 then bnd (fdR k nn (hpI h 17 10) (hpI h 17 12)) 0 100 else 0)) ∧ h = h') → P r h') → CP G m_X11_goodHere 4 0 0 [.ref 0, .ref a] h P from key _ (fun _ _ z => z)
  intro P hP
  refine CP.of (by decide +kernel) (Nat.le_of_ble_eq_true rfl) fun X hX hR hnm => ?_
  show V X G 2 0 0 _ 0 [some (.ref 0), some (.ref a)] [] h
  subst hn
  refine v_aload_n hX rfl qX11_goodHere_0 ?_
  refine v_getR hX g_X11_38 (hs.kd 0 rfl) (hs.rf 5 rfl) qX11_goodHere_1 ?_
  refine v_getI hX g_X11_127 (Or.inr rfl) (hs.kd 17 rfl) qX11_goodHere_4 ?_
  first | refine v_if_eqB hX 14 qX11_goodHere_7 rfl (fun q7 => ?_) (fun q7 => ?_) | refine v_if_eq hX 14 qX11_goodHere_7 rfl (fun q7 => ?_) (fun q7 => ?_)
  · skip
    refine v_aload_n hX rfl qX11_goodHere_14 ?_
    refine v_aload_n hX rfl qX11_goodHere_15 ?_
    refine v_getR hX g_X11_38 (hs.kd 0 rfl) (hs.rf 5 rfl) qX11_goodHere_16 ?_
    refine v_getI hX g_X11_124 (Or.inl rfl) (hs.kd 17 rfl) qX11_goodHere_19 ?_
    refine v_aload_n hX rfl qX11_goodHere_22 ?_
    refine v_getR hX g_X11_38 (hs.kd 0 rfl) (hs.rf 5 rfl) qX11_goodHere_23 ?_
    refine v_getI hX g_X11_131 (Or.inl rfl) (hs.kd 17 rfl) qX11_goodHere_26 ?_
    have hk0 : k = 0 ∨ k = 1 ∨ k = 2 ∨ k = 3 ∨ k = 4 ∨ k = 5 := by omega
    rcases hk0 with rfl | rfl | rfl | rfl | rfl | rfl
    · skip
      refine v_callUq hX hR k_X11_365_1 hk (c_X1_finds_1 (by exact hk) _ _) rfl (Nat.le_of_ble_eq_true rfl) rfl (Nat.le_of_ble_eq_true rfl) ⟨Nat.le_of_ble_eq_true rfl, Nat.le_of_ble_eq_true rfl⟩ qX11_goodHere_29 ?_
      rintro _ _ ⟨rfl, rfl⟩
      refine v_iconst hX li_0 qX11_goodHere_32 ?_
      refine v_bipush hX lb_100 qX11_goodHere_33 ?_
      refine v_callSq hX hR k_X11_368 (c_bounded _ _ _) rfl (Nat.le_of_ble_eq_true rfl) rfl (Nat.le_of_ble_eq_true rfl) ⟨Nat.le_of_ble_eq_true rfl, Nat.le_of_ble_eq_true rfl⟩ qX11_goodHere_35 ?_
      rintro _ _ ⟨rfl, rfl⟩
      refine v_ireturn hX qX11_goodHere_38 (hP _ _ ?_)
      first | exact ⟨(congrArg (fun z => some (Value.int z)) (if_pos q7)).symm, rfl⟩ | exact ⟨(congrArg (fun z => some (Value.int z)) (if_neg q7)).symm, rfl⟩
    · skip
      refine v_callUq hX hR k_X11_365_2 hk (c_X2_finds_2 (by exact hk) _ _) rfl (Nat.le_of_ble_eq_true rfl) rfl (Nat.le_of_ble_eq_true rfl) ⟨Nat.le_of_ble_eq_true rfl, Nat.le_of_ble_eq_true rfl⟩ qX11_goodHere_29 ?_
      rintro _ _ ⟨rfl, rfl⟩
      refine v_iconst hX li_0 qX11_goodHere_32 ?_
      refine v_bipush hX lb_100 qX11_goodHere_33 ?_
      refine v_callSq hX hR k_X11_368 (c_bounded _ _ _) rfl (Nat.le_of_ble_eq_true rfl) rfl (Nat.le_of_ble_eq_true rfl) ⟨Nat.le_of_ble_eq_true rfl, Nat.le_of_ble_eq_true rfl⟩ qX11_goodHere_35 ?_
      rintro _ _ ⟨rfl, rfl⟩
      refine v_ireturn hX qX11_goodHere_38 (hP _ _ ?_)
      first | exact ⟨(congrArg (fun z => some (Value.int z)) (if_pos q7)).symm, rfl⟩ | exact ⟨(congrArg (fun z => some (Value.int z)) (if_neg q7)).symm, rfl⟩
    · skip
      refine v_callUq hX hR k_X11_365_7 hk (c_X7_finds_7 (by exact hk) _ _) rfl (Nat.le_of_ble_eq_true rfl) rfl (Nat.le_of_ble_eq_true rfl) ⟨Nat.le_of_ble_eq_true rfl, Nat.le_of_ble_eq_true rfl⟩ qX11_goodHere_29 ?_
      rintro _ _ ⟨rfl, rfl⟩
      refine v_iconst hX li_0 qX11_goodHere_32 ?_
      refine v_bipush hX lb_100 qX11_goodHere_33 ?_
      refine v_callSq hX hR k_X11_368 (c_bounded _ _ _) rfl (Nat.le_of_ble_eq_true rfl) rfl (Nat.le_of_ble_eq_true rfl) ⟨Nat.le_of_ble_eq_true rfl, Nat.le_of_ble_eq_true rfl⟩ qX11_goodHere_35 ?_
      rintro _ _ ⟨rfl, rfl⟩
      refine v_ireturn hX qX11_goodHere_38 (hP _ _ ?_)
      first | exact ⟨(congrArg (fun z => some (Value.int z)) (if_pos q7)).symm, rfl⟩ | exact ⟨(congrArg (fun z => some (Value.int z)) (if_neg q7)).symm, rfl⟩
    · skip
      refine v_callUq hX hR k_X11_365_4 hk (c_X4_finds_4 (by exact hk) _ _) rfl (Nat.le_of_ble_eq_true rfl) rfl (Nat.le_of_ble_eq_true rfl) ⟨Nat.le_of_ble_eq_true rfl, Nat.le_of_ble_eq_true rfl⟩ qX11_goodHere_29 ?_
      rintro _ _ ⟨rfl, rfl⟩
      refine v_iconst hX li_0 qX11_goodHere_32 ?_
      refine v_bipush hX lb_100 qX11_goodHere_33 ?_
      refine v_callSq hX hR k_X11_368 (c_bounded _ _ _) rfl (Nat.le_of_ble_eq_true rfl) rfl (Nat.le_of_ble_eq_true rfl) ⟨Nat.le_of_ble_eq_true rfl, Nat.le_of_ble_eq_true rfl⟩ qX11_goodHere_35 ?_
      rintro _ _ ⟨rfl, rfl⟩
      refine v_ireturn hX qX11_goodHere_38 (hP _ _ ?_)
      first | exact ⟨(congrArg (fun z => some (Value.int z)) (if_pos q7)).symm, rfl⟩ | exact ⟨(congrArg (fun z => some (Value.int z)) (if_neg q7)).symm, rfl⟩
    · skip
      refine v_callUq hX hR k_X11_365_8 hk (c_X8_finds_8 (by exact hk) _ _) rfl (Nat.le_of_ble_eq_true rfl) rfl (Nat.le_of_ble_eq_true rfl) ⟨Nat.le_of_ble_eq_true rfl, Nat.le_of_ble_eq_true rfl⟩ qX11_goodHere_29 ?_
      rintro _ _ ⟨rfl, rfl⟩
      refine v_iconst hX li_0 qX11_goodHere_32 ?_
      refine v_bipush hX lb_100 qX11_goodHere_33 ?_
      refine v_callSq hX hR k_X11_368 (c_bounded _ _ _) rfl (Nat.le_of_ble_eq_true rfl) rfl (Nat.le_of_ble_eq_true rfl) ⟨Nat.le_of_ble_eq_true rfl, Nat.le_of_ble_eq_true rfl⟩ qX11_goodHere_35 ?_
      rintro _ _ ⟨rfl, rfl⟩
      refine v_ireturn hX qX11_goodHere_38 (hP _ _ ?_)
      first | exact ⟨(congrArg (fun z => some (Value.int z)) (if_pos q7)).symm, rfl⟩ | exact ⟨(congrArg (fun z => some (Value.int z)) (if_neg q7)).symm, rfl⟩
    · skip
      refine v_callUq hX hR k_X11_365_3 hk (c_X3_finds_3 (by exact hk) _ _) rfl (Nat.le_of_ble_eq_true rfl) rfl (Nat.le_of_ble_eq_true rfl) ⟨Nat.le_of_ble_eq_true rfl, Nat.le_of_ble_eq_true rfl⟩ qX11_goodHere_29 ?_
      rintro _ _ ⟨rfl, rfl⟩
      refine v_iconst hX li_0 qX11_goodHere_32 ?_
      refine v_bipush hX lb_100 qX11_goodHere_33 ?_
      refine v_callSq hX hR k_X11_368 (c_bounded _ _ _) rfl (Nat.le_of_ble_eq_true rfl) rfl (Nat.le_of_ble_eq_true rfl) ⟨Nat.le_of_ble_eq_true rfl, Nat.le_of_ble_eq_true rfl⟩ qX11_goodHere_35 ?_
      rintro _ _ ⟨rfl, rfl⟩
      refine v_ireturn hX qX11_goodHere_38 (hP _ _ ?_)
      first | exact ⟨(congrArg (fun z => some (Value.int z)) (if_pos q7)).symm, rfl⟩ | exact ⟨(congrArg (fun z => some (Value.int z)) (if_neg q7)).symm, rfl⟩
  · skip
    refine v_iconst hX li_0 qX11_goodHere_10 ?_
    refine v_goto hX 38 qX11_goodHere_11 rfl ?_
    refine v_ireturn hX qX11_goodHere_38 (hP _ _ ?_)
    first | exact ⟨(congrArg (fun z => some (Value.int z)) (if_pos q7)).symm, rfl⟩ | exact ⟨(congrArg (fun z => some (Value.int z)) (if_neg q7)).symm, rfl⟩
theorem qX11_takesOf_0 : Dq cX11_takesOf 0 (.iconst 1) 1 1 := ⟨by decide +kernel, rfl⟩
theorem qX11_takesOf_1 : Dq cX11_takesOf 1 (.aload_n 0) 1 2 := ⟨by decide +kernel, rfl⟩
theorem qX11_takesOf_2 : Dq cX11_takesOf 2 (.invokevirtual 372) 3 5 := ⟨by decide +kernel, rfl⟩
theorem qX11_takesOf_5 : Dq cX11_takesOf 5 (.invokestatic 335) 3 8 := ⟨by decide +kernel, rfl⟩
theorem qX11_takesOf_8 : Dq cX11_takesOf 8 (.ireturn) 1 9 := ⟨by decide +kernel, rfl⟩
set_option maxRecDepth 100000 in
set_option maxHeartbeats 4000000 in
theorem c_takesOf {G : Glb} {h : AHp} (hs : ShC h) {k a : Nat} {nn : Int32} (hk6 : k < 6) (hk : Kd h a (kcl k)) (hn : hpI h a 0 = nn)  : CP G m_X11_takesOf 4 0 0 [.ref a] h (fun r h' => r = some (.int (mxI 1 (tkR k nn))) ∧ h = h') := by
  suffices key : ∀ P : Option Value → AHp → Prop, (∀ r h', (r = some (.int (mxI 1 (tkR k nn))) ∧ h = h') → P r h') → CP G m_X11_takesOf 4 0 0 [.ref a] h P from key _ (fun _ _ z => z)
  intro P hP
  refine CP.of (by decide +kernel) (Nat.le_of_ble_eq_true rfl) fun X hX hR hnm => ?_
  show V X G 1 0 0 _ 0 [some (.ref a)] [] h
  subst hn
  refine v_iconst hX li_1 qX11_takesOf_0 ?_
  refine v_aload_n hX rfl qX11_takesOf_1 ?_
  have hk0 : k = 0 ∨ k = 1 ∨ k = 2 ∨ k = 3 ∨ k = 4 ∨ k = 5 := by omega
  rcases hk0 with rfl | rfl | rfl | rfl | rfl | rfl
  · skip
    refine v_callUq hX hR k_X11_372_1 hk (c_X1_takes_1 (by exact hk)) rfl (Nat.le_of_ble_eq_true rfl) rfl (Nat.le_of_ble_eq_true rfl) ⟨Nat.le_of_ble_eq_true rfl, Nat.le_of_ble_eq_true rfl⟩ qX11_takesOf_2 ?_
    rintro _ _ ⟨rfl, rfl⟩
    refine v_max hX hR (Nat.le_of_ble_eq_true rfl) k_X11_335 (Nat.le_of_ble_eq_true rfl) ⟨Nat.le_of_ble_eq_true rfl, Nat.le_of_ble_eq_true rfl⟩ qX11_takesOf_5 ?_
    refine v_ireturn hX qX11_takesOf_8 (hP _ _ ?_)
    exact ⟨rfl, rfl⟩
  · skip
    refine v_callUq hX hR k_X11_372_2 hk (c_X2_takes_2 (by exact hk)) rfl (Nat.le_of_ble_eq_true rfl) rfl (Nat.le_of_ble_eq_true rfl) ⟨Nat.le_of_ble_eq_true rfl, Nat.le_of_ble_eq_true rfl⟩ qX11_takesOf_2 ?_
    rintro _ _ ⟨rfl, rfl⟩
    refine v_max hX hR (Nat.le_of_ble_eq_true rfl) k_X11_335 (Nat.le_of_ble_eq_true rfl) ⟨Nat.le_of_ble_eq_true rfl, Nat.le_of_ble_eq_true rfl⟩ qX11_takesOf_5 ?_
    refine v_ireturn hX qX11_takesOf_8 (hP _ _ ?_)
    exact ⟨rfl, rfl⟩
  · skip
    refine v_callUq hX hR k_X11_372_7 hk (c_X7_takes_7 (by exact hk)) rfl (Nat.le_of_ble_eq_true rfl) rfl (Nat.le_of_ble_eq_true rfl) ⟨Nat.le_of_ble_eq_true rfl, Nat.le_of_ble_eq_true rfl⟩ qX11_takesOf_2 ?_
    rintro _ _ ⟨rfl, rfl⟩
    refine v_max hX hR (Nat.le_of_ble_eq_true rfl) k_X11_335 (Nat.le_of_ble_eq_true rfl) ⟨Nat.le_of_ble_eq_true rfl, Nat.le_of_ble_eq_true rfl⟩ qX11_takesOf_5 ?_
    refine v_ireturn hX qX11_takesOf_8 (hP _ _ ?_)
    exact ⟨rfl, rfl⟩
  · skip
    refine v_callUq hX hR k_X11_372_4 hk (c_X4_takes_4 (by exact hk)) rfl (Nat.le_of_ble_eq_true rfl) rfl (Nat.le_of_ble_eq_true rfl) ⟨Nat.le_of_ble_eq_true rfl, Nat.le_of_ble_eq_true rfl⟩ qX11_takesOf_2 ?_
    rintro _ _ ⟨rfl, rfl⟩
    refine v_max hX hR (Nat.le_of_ble_eq_true rfl) k_X11_335 (Nat.le_of_ble_eq_true rfl) ⟨Nat.le_of_ble_eq_true rfl, Nat.le_of_ble_eq_true rfl⟩ qX11_takesOf_5 ?_
    refine v_ireturn hX qX11_takesOf_8 (hP _ _ ?_)
    exact ⟨rfl, rfl⟩
  · skip
    refine v_callUq hX hR k_X11_372_8 hk (c_X8_takes_8 (by exact hk)) rfl (Nat.le_of_ble_eq_true rfl) rfl (Nat.le_of_ble_eq_true rfl) ⟨Nat.le_of_ble_eq_true rfl, Nat.le_of_ble_eq_true rfl⟩ qX11_takesOf_2 ?_
    rintro _ _ ⟨rfl, rfl⟩
    refine v_max hX hR (Nat.le_of_ble_eq_true rfl) k_X11_335 (Nat.le_of_ble_eq_true rfl) ⟨Nat.le_of_ble_eq_true rfl, Nat.le_of_ble_eq_true rfl⟩ qX11_takesOf_5 ?_
    refine v_ireturn hX qX11_takesOf_8 (hP _ _ ?_)
    exact ⟨rfl, rfl⟩
  · skip
    refine v_callUq hX hR k_X11_372_3 hk (c_X3_takes_3 (by exact hk)) rfl (Nat.le_of_ble_eq_true rfl) rfl (Nat.le_of_ble_eq_true rfl) ⟨Nat.le_of_ble_eq_true rfl, Nat.le_of_ble_eq_true rfl⟩ qX11_takesOf_2 ?_
    rintro _ _ ⟨rfl, rfl⟩
    refine v_max hX hR (Nat.le_of_ble_eq_true rfl) k_X11_335 (Nat.le_of_ble_eq_true rfl) ⟨Nat.le_of_ble_eq_true rfl, Nat.le_of_ble_eq_true rfl⟩ qX11_takesOf_5 ?_
    refine v_ireturn hX qX11_takesOf_8 (hP _ _ ?_)
    exact ⟨rfl, rfl⟩
theorem qX11_stampsOf_0 : Dq cX11_stampsOf 0 (.iconst 0) 1 1 := ⟨by decide +kernel, rfl⟩
theorem qX11_stampsOf_1 : Dq cX11_stampsOf 1 (.aload_n 0) 1 2 := ⟨by decide +kernel, rfl⟩
theorem qX11_stampsOf_2 : Dq cX11_stampsOf 2 (.invokevirtual 375) 3 5 := ⟨by decide +kernel, rfl⟩
theorem qX11_stampsOf_5 : Dq cX11_stampsOf 5 (.invokestatic 335) 3 8 := ⟨by decide +kernel, rfl⟩
theorem qX11_stampsOf_8 : Dq cX11_stampsOf 8 (.ireturn) 1 9 := ⟨by decide +kernel, rfl⟩
set_option maxRecDepth 100000 in
set_option maxHeartbeats 4000000 in
theorem c_stampsOf {G : Glb} {h : AHp} (hs : ShC h) {k a : Nat} {nn : Int32} (hk6 : k < 6) (hk : Kd h a (kcl k)) (hn : hpI h a 0 = nn)  : CP G m_X11_stampsOf 4 0 0 [.ref a] h (fun r h' => r = some (.int (mxI 0 (smR k nn))) ∧ h = h') := by
  suffices key : ∀ P : Option Value → AHp → Prop, (∀ r h', (r = some (.int (mxI 0 (smR k nn))) ∧ h = h') → P r h') → CP G m_X11_stampsOf 4 0 0 [.ref a] h P from key _ (fun _ _ z => z)
  intro P hP
  refine CP.of (by decide +kernel) (Nat.le_of_ble_eq_true rfl) fun X hX hR hnm => ?_
  show V X G 1 0 0 _ 0 [some (.ref a)] [] h
  subst hn
  refine v_iconst hX li_0 qX11_stampsOf_0 ?_
  refine v_aload_n hX rfl qX11_stampsOf_1 ?_
  have hk0 : k = 0 ∨ k = 1 ∨ k = 2 ∨ k = 3 ∨ k = 4 ∨ k = 5 := by omega
  rcases hk0 with rfl | rfl | rfl | rfl | rfl | rfl
  · skip
    refine v_callUq hX hR k_X11_375_1 hk (c_X1_stamps_1 (by exact hk)) rfl (Nat.le_of_ble_eq_true rfl) rfl (Nat.le_of_ble_eq_true rfl) ⟨Nat.le_of_ble_eq_true rfl, Nat.le_of_ble_eq_true rfl⟩ qX11_stampsOf_2 ?_
    rintro _ _ ⟨rfl, rfl⟩
    refine v_max hX hR (Nat.le_of_ble_eq_true rfl) k_X11_335 (Nat.le_of_ble_eq_true rfl) ⟨Nat.le_of_ble_eq_true rfl, Nat.le_of_ble_eq_true rfl⟩ qX11_stampsOf_5 ?_
    refine v_ireturn hX qX11_stampsOf_8 (hP _ _ ?_)
    exact ⟨rfl, rfl⟩
  · skip
    refine v_callUq hX hR k_X11_375_2 hk (c_X2_stamps_2 (by exact hk)) rfl (Nat.le_of_ble_eq_true rfl) rfl (Nat.le_of_ble_eq_true rfl) ⟨Nat.le_of_ble_eq_true rfl, Nat.le_of_ble_eq_true rfl⟩ qX11_stampsOf_2 ?_
    rintro _ _ ⟨rfl, rfl⟩
    refine v_max hX hR (Nat.le_of_ble_eq_true rfl) k_X11_335 (Nat.le_of_ble_eq_true rfl) ⟨Nat.le_of_ble_eq_true rfl, Nat.le_of_ble_eq_true rfl⟩ qX11_stampsOf_5 ?_
    refine v_ireturn hX qX11_stampsOf_8 (hP _ _ ?_)
    exact ⟨rfl, rfl⟩
  · skip
    refine v_callUq hX hR k_X11_375_7 hk (c_X7_stamps_7 (by exact hk)) rfl (Nat.le_of_ble_eq_true rfl) rfl (Nat.le_of_ble_eq_true rfl) ⟨Nat.le_of_ble_eq_true rfl, Nat.le_of_ble_eq_true rfl⟩ qX11_stampsOf_2 ?_
    rintro _ _ ⟨rfl, rfl⟩
    refine v_max hX hR (Nat.le_of_ble_eq_true rfl) k_X11_335 (Nat.le_of_ble_eq_true rfl) ⟨Nat.le_of_ble_eq_true rfl, Nat.le_of_ble_eq_true rfl⟩ qX11_stampsOf_5 ?_
    refine v_ireturn hX qX11_stampsOf_8 (hP _ _ ?_)
    exact ⟨rfl, rfl⟩
  · skip
    refine v_callUq hX hR k_X11_375_4 hk (c_X1_stamps_4 (by exact hk)) rfl (Nat.le_of_ble_eq_true rfl) rfl (Nat.le_of_ble_eq_true rfl) ⟨Nat.le_of_ble_eq_true rfl, Nat.le_of_ble_eq_true rfl⟩ qX11_stampsOf_2 ?_
    rintro _ _ ⟨rfl, rfl⟩
    refine v_max hX hR (Nat.le_of_ble_eq_true rfl) k_X11_335 (Nat.le_of_ble_eq_true rfl) ⟨Nat.le_of_ble_eq_true rfl, Nat.le_of_ble_eq_true rfl⟩ qX11_stampsOf_5 ?_
    refine v_ireturn hX qX11_stampsOf_8 (hP _ _ ?_)
    exact ⟨rfl, rfl⟩
  · skip
    refine v_callUq hX hR k_X11_375_8 hk (c_X2_stamps_8 (by exact hk)) rfl (Nat.le_of_ble_eq_true rfl) rfl (Nat.le_of_ble_eq_true rfl) ⟨Nat.le_of_ble_eq_true rfl, Nat.le_of_ble_eq_true rfl⟩ qX11_stampsOf_2 ?_
    rintro _ _ ⟨rfl, rfl⟩
    refine v_max hX hR (Nat.le_of_ble_eq_true rfl) k_X11_335 (Nat.le_of_ble_eq_true rfl) ⟨Nat.le_of_ble_eq_true rfl, Nat.le_of_ble_eq_true rfl⟩ qX11_stampsOf_5 ?_
    refine v_ireturn hX qX11_stampsOf_8 (hP _ _ ?_)
    exact ⟨rfl, rfl⟩
  · skip
    refine v_callUq hX hR k_X11_375_3 hk (c_X3_stamps_3 (by exact hk)) rfl (Nat.le_of_ble_eq_true rfl) rfl (Nat.le_of_ble_eq_true rfl) ⟨Nat.le_of_ble_eq_true rfl, Nat.le_of_ble_eq_true rfl⟩ qX11_stampsOf_2 ?_
    rintro _ _ ⟨rfl, rfl⟩
    refine v_max hX hR (Nat.le_of_ble_eq_true rfl) k_X11_335 (Nat.le_of_ble_eq_true rfl) ⟨Nat.le_of_ble_eq_true rfl, Nat.le_of_ble_eq_true rfl⟩ qX11_stampsOf_5 ?_
    refine v_ireturn hX qX11_stampsOf_8 (hP _ _ ?_)
    exact ⟨rfl, rfl⟩
theorem isS_j {j : Nat} (h : j < 4) : isS (30 + 2 * j) := by
  have hj : j = 0 ∨ j = 1 ∨ j = 2 ∨ j = 3 := by omega
  rcases hj with rfl | rfl | rfl | rfl
  · exact Or.inl rfl
  · exact Or.inr (Or.inl rfl)
  · exact Or.inr (Or.inr (Or.inl rfl))
  · exact Or.inr (Or.inr (Or.inr rfl))
theorem ShC.el {h : AHp} (hs : ShC h) {j : Nat} (hj4 : j < 4) : hpR h 29 j = some (30 + 2 * j) := by
  have hj : j = 0 ∨ j = 1 ∨ j = 2 ∨ j = 3 := by omega
  rcases hj with rfl | rfl | rfl | rfl
  · exact hs.rf 29 rfl
  · exact hs.rf 30 rfl
  · exact hs.rf 31 rfl
  · exact hs.rf 32 rfl
theorem qX11_sheetAt_0 : Dq cX11_sheetAt 0 (.iload_n 1) 1 1 := ⟨by decide +kernel, rfl⟩
theorem qX11_sheetAt_1 : Dq cX11_sheetAt 1 (.iconst 0) 1 2 := ⟨by decide +kernel, rfl⟩
theorem qX11_sheetAt_2 : Dq cX11_sheetAt 2 (.iconst 3) 1 3 := ⟨by decide +kernel, rfl⟩
theorem qX11_sheetAt_3 : Dq cX11_sheetAt 3 (.invokestatic 110) 3 6 := ⟨by decide +kernel, rfl⟩
theorem qX11_sheetAt_6 : Dq cX11_sheetAt 6 (.ifCond .eq 12) 3 9 := ⟨by decide +kernel, rfl⟩
theorem qX11_sheetAt_9 : Dq cX11_sheetAt 9 (.aload_n 0) 1 10 := ⟨by decide +kernel, rfl⟩
theorem qX11_sheetAt_10 : Dq cX11_sheetAt 10 (.getfield 51) 3 13 := ⟨by decide +kernel, rfl⟩
theorem qX11_sheetAt_13 : Dq cX11_sheetAt 13 (.iload_n 1) 1 14 := ⟨by decide +kernel, rfl⟩
theorem qX11_sheetAt_14 : Dq cX11_sheetAt 14 (.aaload) 1 15 := ⟨by decide +kernel, rfl⟩
theorem qX11_sheetAt_15 : Dq cX11_sheetAt 15 (.goto 4) 3 18 := ⟨by decide +kernel, rfl⟩
theorem qX11_sheetAt_18 : Dq cX11_sheetAt 18 (.aconst_null) 1 19 := ⟨by decide +kernel, rfl⟩
theorem qX11_sheetAt_19 : Dq cX11_sheetAt 19 (.areturn) 1 20 := ⟨by decide +kernel, rfl⟩
set_option maxRecDepth 100000 in
set_option maxHeartbeats 4000000 in
theorem c_sheetAt {G : Glb} {h : AHp} (hs : ShC h) (i : Int32) : CP G m_X11_sheetAt 2 0 0 [.ref 0, .int i] h (fun r h' => ((∃ j, j < 4 ∧ i = nI j ∧ r = some (.ref (30 + 2 * j))) ∨ (¬ (0 ≤ i ∧ i ≤ 3) ∧ r = some .null)) ∧ h = h') := by
  suffices key : ∀ P : Option Value → AHp → Prop, (∀ r h', (((∃ j, j < 4 ∧ i = nI j ∧ r = some (.ref (30 + 2 * j))) ∨ (¬ (0 ≤ i ∧ i ≤ 3) ∧ r = some .null)) ∧ h = h') → P r h') → CP G m_X11_sheetAt 2 0 0 [.ref 0, .int i] h P from key _ (fun _ _ z => z)
  intro P hP
  refine CP.of (by decide +kernel) (Nat.le_of_ble_eq_true rfl) fun X hX hR hnm => ?_
  show V X G 2 0 0 _ 0 [some (.ref 0), some (.int i)] [] h
  refine v_iload_n hX rfl qX11_sheetAt_0 ?_
  refine v_iconst hX li_0 qX11_sheetAt_1 ?_
  refine v_iconst hX li_3 qX11_sheetAt_2 ?_
  refine v_callSq hX hR k_X11_110 (c_isWithin _ _ _) rfl (Nat.le_of_ble_eq_true rfl) rfl (Nat.le_of_ble_eq_true rfl) ⟨Nat.le_of_ble_eq_true rfl, Nat.le_of_ble_eq_true rfl⟩ qX11_sheetAt_3 ?_
  rintro _ _ ⟨rfl, rfl⟩
  first | refine v_if_eqB hX 18 qX11_sheetAt_6 rfl (fun q6 => ?_) (fun q6 => ?_) | refine v_if_eq hX 18 qX11_sheetAt_6 rfl (fun q6 => ?_) (fun q6 => ?_)
  · skip
    refine v_null hX qX11_sheetAt_18 ?_
    refine v_areturn hX (by first | exact Or.inl rfl | exact Or.inr ⟨_, rfl⟩) qX11_sheetAt_19 (hP _ _ ?_)
    first | exact ⟨Or.inl ⟨j, hj, rfl, rfl⟩, rfl⟩ | exact ⟨Or.inr ⟨q6, rfl⟩, rfl⟩
  · obtain ⟨j, hj, rfl⟩ := ofRange (s := 4) q6.1 (by have h1 := leI.mp q6.2; have h2 : (3 : Int32).toInt = 3 := rfl; have h3 : (nI 4).toInt = 4 := rfl; rw [ltI]; omega) (by omega)
    refine v_aload_n hX rfl qX11_sheetAt_9 ?_
    refine v_getR hX g_X11_51 (hs.kd 0 rfl) (hs.rf 7 rfl) qX11_sheetAt_10 ?_
    refine v_iload_n hX rfl qX11_sheetAt_13 ?_
    refine v_aald hX (Or.inr rfl) (hs.kd 29 rfl) (hs.ln 29 rfl) (vp_in_nI (n := j) (by omega) (by omega)) (r := some (30 + 2 * j)) (by rw [nI_clamp (by omega)]; exact hs.el hj) qX11_sheetAt_14 ?_
    refine v_goto hX 19 qX11_sheetAt_15 rfl ?_
    refine v_areturn hX (by first | exact Or.inl rfl | exact Or.inr ⟨_, rfl⟩) qX11_sheetAt_19 (hP _ _ ?_)
    first | exact ⟨Or.inl ⟨j, hj, rfl, rfl⟩, rfl⟩ | exact ⟨Or.inr ⟨q6, rfl⟩, rfl⟩
end
section
/-! a look, in words of a beach: b 1 odds, b 2 treads, b 0 bag (2), hour (3), minutes (4), rule (5) -/
def okI (i k : Nat) : Prop := ((i = 1 ∨ i = 2) ∧ k < 48) ∨ (i = 0 ∧ 2 ≤ k ∧ k < 6)
theorem okI_dec (i k : Nat) : okI i k ↔ (((decide (i = 1) || decide (i = 2)) && decide (k < 48)) || (decide (i = 0) && (decide (2 ≤ k) && decide (k < 6)))) = true := by simp [okI]
def okB (i k : Nat) : Bool := ((decide (i = 1) || decide (i = 2)) && decide (k < 48)) || (decide (i = 0) && (decide (2 ≤ k) && decide (k < 6)))
theorem okB_iff {i k : Nat} : okB i k = true ↔ okI i k := (okI_dec i k).symm
/-- the beach at B -/
def bv (h : AHp) (B : Nat) : Nat → Nat → Int32 := fun i k => if okB i k then hpI h (B + i) k else 0
theorem bv_at {h : AHp} {B i k : Nat} (ho : okI i k) : bv h B i k = hpI h (B + i) k := if_pos (okB_iff.mpr ho)
theorem bv1 {h : AHp} {B k : Nat} (hk : k < 48) : bv h B 1 k = hpI h (B + 1) k := bv_at (Or.inl ⟨Or.inl rfl, hk⟩)
theorem bv2 {h : AHp} {B k : Nat} (hk : k < 48) : bv h B 2 k = hpI h (B + 2) k := bv_at (Or.inl ⟨Or.inr rfl, hk⟩)
theorem bv0 {h : AHp} {B k : Nat} (h2 : 2 ≤ k) (h6 : k < 6) : bv h B 0 k = hpI h B k := bv_at (Or.inr ⟨rfl, h2, h6⟩)
theorem bv_ext {h h' : AHp} {B B' : Nat} (h1 : ∀ i k, okI i k → hpI h (B + i) k = hpI h' (B' + i) k) : bv h B = bv h' B' := by
  funext i k
  unfold bv
  by_cases ho : okB i k = true
  · rw [if_pos ho, if_pos ho]; exact h1 i k (okB_iff.mp ho)
  · rw [if_neg ho, if_neg ho]
theorem bv_up {h : AHp} {B i k : Nat} {v : Int32} (hB : isB B) (ho : okI i k) : bv (stI h (B + i) k v) B = up2 (bv h B) i k v := by
  funext j l
  show (if okB j l = true then hpI (stI h (B + i) k v) (B + j) l else 0) = if j = i ∧ l = k then v else if okB j l = true then hpI h (B + j) l else 0
  by_cases hj : okB j l = true
  · rw [if_pos hj, if_pos hj, hpI_st]
    by_cases e : j = i ∧ l = k
    · rw [if_pos ⟨by omega, e.2⟩, if_pos e]
    · rw [if_neg (fun z => e ⟨by omega, z.2⟩), if_neg e]
  · rw [if_neg hj]
    by_cases e : j = i ∧ l = k
    · exact absurd (okB_iff.mpr (by rw [e.1, e.2]; exact ho)) hj
    · rw [if_neg e, if_neg hj]
theorem bv_other {h : AHp} {B a k : Nat} {v : Int32} (ha : a < B ∨ B + 2 < a) : bv (stI h a k v) B = bv h B := bv_ext (fun i l ho => by
  rw [hpI_st, if_neg]
  rintro ⟨z, -⟩
  rcases ho with ⟨e, -⟩ | ⟨e, -⟩ <;> omega)
def rlB (b : Nat → Nat → Int32) : Nat := tn (b 0 5)
abbrev TVt : Type := Nat → Nat → (Nat → Int32) → Int32
def dpB (TV : TVt) (b : Nat → Nat → Int32) (q : Nat) : Int32 := dpI TV (rlB b) (nI q) (b 2 q) (b 0 3)
def seB (TV : TVt) (b : Nat → Nat → Int32) (q : Nat) : Int32 := seI TV (rlB b) (nI q) (b 2 q) (b 0 3)
def shB (TV : TVt) (b : Nat → Nat → Int32) (q : Nat) : Int32 := shI TV (rlB b) (nI q) (b 2 q) (b 0 3)
def goodB (TV : TVt) (b : Nat → Nat → Int32) (k : Nat) (nn : Int32) (q : Nat) : Int32 := if seB TV b q = 0 then bnd (fdR k nn (dpB TV b q) (shB TV b q)) 0 100 else 0
def gainB (TV : TVt) (b : Nat → Nat → Int32) (k : Nat) (nn : Int32) (q : Nat) : Int32 := b 1 q * goodB TV b k nn q / 100
def tkB (k : Nat) (nn : Int32) : Int32 := mxI 1 (tkR k nn)
def smB (k : Nat) (nn : Int32) : Int32 := mxI 0 (smR k nn)
def rateB (TV : TVt) (b : Nat → Nat → Int32) (k : Nat) (nn : Int32) (q : Nat) : Int32 := if 0 < tkB k nn then gainB TV b k nn q / tkB k nn else 0
def lookB (TV : TVt) (b : Nat → Nat → Int32) (k : Nat) (nn : Int32) (q : Nat) : Nat → Nat → Int32 :=
  up2 (up2 (up2 (up2 b 1 q (b 1 q * (100 - goodB TV b k nn q) / 100)) 2 q (mnI 99 (b 2 q + smB k nn))) 0 3 (rmI (b 0 3 + (b 0 4 + tkB k nn) / 60) 24)) 0 4 (rmI (b 0 4 + tkB k nn) 60)
def BeOK (b : Nat → Nat → Int32) (cnt : Nat) : Prop := (∀ k, k < 48 → inR (b 1 k) 999999) ∧ (∀ k, k < 48 → inR (b 2 k) 99) ∧ inR (b 0 2) 999999 ∧ inR (b 0 3) 23 ∧ inR (b 0 4) 59 ∧ ∃ rl, rl < cnt ∧ b 0 5 = nI rl
theorem BeOK.rl {b : Nat → Nat → Int32} {cnt : Nat} (h : BeOK b cnt) (hc : cnt ≤ 6) : rlB b < cnt ∧ b 0 5 = nI (rlB b) := by
  obtain ⟨rl, h1, h2⟩ := h.2.2.2.2.2
  have e : rlB b = rl := by unfold rlB; rw [h2]; exact tn_nI (by omega)
  rw [e]; exact ⟨h1, h2⟩
/-- what a look and its like leave alone -/
def FrB (h : AHp) (B : Nat) (σ : Nat → Nat → Int32) : Prop := ∀ a k, ¬ (B ≤ a ∧ a ≤ B + 2) → (a < 20 ∨ 25 < a) → ¬ (a = 17 ∧ (k = 5 ∨ 10 ≤ k)) → σ a k = hpI h a k
theorem FrV.B {h : AHp} {σ : Nat → Nat → Int32} (hf : FrV h σ) (B : Nat) : FrB h B σ := fun a k _ h2 h3 => hf a k h2 h3
theorem FrV.bv {h : AHp} {σ : Nat → Nat → Int32} (hf : FrV h σ) {B : Nat} (hB : isB B) : bv (σ, h.2) B = bv h B := bv_ext (fun i k ho => by
  have : B ≤ 7 := by rcases hB with rfl | rfl | rfl <;> omega
  have : i ≤ 2 := by rcases ho with ⟨e, -⟩ | ⟨e, -⟩ <;> omega
  exact hf (B + i) k (by omega) (by omega))
section SVW
variable {TV : TVt} {h : AHp} {B q : Nat}
theorem dpB_eq (hq : q < 48) : dpB TV (bv h B) q = dpI TV (rlB (bv h B)) (nI q) (hpI h (B + 2) q) (hpI h B 3) := by unfold dpB; rw [bv2 hq, bv0 (by omega) (by omega)]
theorem seB_eq (hq : q < 48) : seB TV (bv h B) q = seI TV (rlB (bv h B)) (nI q) (hpI h (B + 2) q) (hpI h B 3) := by unfold seB; rw [bv2 hq, bv0 (by omega) (by omega)]
theorem shB_eq (hq : q < 48) : shB TV (bv h B) q = shI TV (rlB (bv h B)) (nI q) (hpI h (B + 2) q) (hpI h B 3) := by unfold shB; rw [bv2 hq, bv0 (by omega) (by omega)]
end SVW
theorem oddsA_n {h : AHp} {B q : Nat} (hq : q < 48) : oddsA h B (nI q) = bv h B 1 q := by
  unfold oddsA
  rw [if_pos (isCn hq), tn_nI (by omega), bv1 hq]
theorem trdA_n {h : AHp} {B q : Nat} (hq : q < 48) : trdA h B (nI q) = bv h B 2 q := by
  unfold trdA
  rw [if_pos (isCn hq), tn_nI (by omega), bv2 hq]
theorem qX11_gainByLook_0 : Dq cX11_gainByLook 0 (.aload_n 0) 1 1 := ⟨by decide +kernel, rfl⟩
theorem qX11_gainByLook_1 : Dq cX11_gainByLook 1 (.getfield 38) 3 4 := ⟨by decide +kernel, rfl⟩
theorem qX11_gainByLook_4 : Dq cX11_gainByLook 4 (.aload_n 1) 1 5 := ⟨by decide +kernel, rfl⟩
theorem qX11_gainByLook_5 : Dq cX11_gainByLook 5 (.iload_n 3) 1 6 := ⟨by decide +kernel, rfl⟩
theorem qX11_gainByLook_6 : Dq cX11_gainByLook 6 (.invokevirtual 114) 3 9 := ⟨by decide +kernel, rfl⟩
theorem qX11_gainByLook_9 : Dq cX11_gainByLook 9 (.aload_n 0) 1 10 := ⟨by decide +kernel, rfl⟩
theorem qX11_gainByLook_10 : Dq cX11_gainByLook 10 (.getfield 38) 3 13 := ⟨by decide +kernel, rfl⟩
theorem qX11_gainByLook_13 : Dq cX11_gainByLook 13 (.getfield 127) 3 16 := ⟨by decide +kernel, rfl⟩
theorem qX11_gainByLook_16 : Dq cX11_gainByLook 16 (.ifCond .eq 6) 3 19 := ⟨by decide +kernel, rfl⟩
theorem qX11_gainByLook_19 : Dq cX11_gainByLook 19 (.bipush (-3)) 2 21 := ⟨by decide +kernel, rfl⟩
theorem qX11_gainByLook_21 : Dq cX11_gainByLook 21 (.ireturn) 1 22 := ⟨by decide +kernel, rfl⟩
theorem qX11_gainByLook_22 : Dq cX11_gainByLook 22 (.aload_n 0) 1 23 := ⟨by decide +kernel, rfl⟩
theorem qX11_gainByLook_23 : Dq cX11_gainByLook 23 (.aload_n 2) 1 24 := ⟨by decide +kernel, rfl⟩
theorem qX11_gainByLook_24 : Dq cX11_gainByLook 24 (.invokevirtual 145) 3 27 := ⟨by decide +kernel, rfl⟩
theorem qX11_gainByLook_27 : Dq cX11_gainByLook 27 (.istore 4) 2 29 := ⟨by decide +kernel, rfl⟩
theorem qX11_gainByLook_29 : Dq cX11_gainByLook 29 (.aload_n 1) 1 30 := ⟨by decide +kernel, rfl⟩
theorem qX11_gainByLook_30 : Dq cX11_gainByLook 30 (.iload_n 3) 1 31 := ⟨by decide +kernel, rfl⟩
theorem qX11_gainByLook_31 : Dq cX11_gainByLook 31 (.invokevirtual 118) 3 34 := ⟨by decide +kernel, rfl⟩
theorem qX11_gainByLook_34 : Dq cX11_gainByLook 34 (.iload 4) 2 36 := ⟨by decide +kernel, rfl⟩
theorem qX11_gainByLook_36 : Dq cX11_gainByLook 36 (.invokestatic 155) 3 39 := ⟨by decide +kernel, rfl⟩
theorem qX11_gainByLook_39 : Dq cX11_gainByLook 39 (.istore 5) 2 41 := ⟨by decide +kernel, rfl⟩
theorem qX11_gainByLook_41 : Dq cX11_gainByLook 41 (.aload_n 1) 1 42 := ⟨by decide +kernel, rfl⟩
theorem qX11_gainByLook_42 : Dq cX11_gainByLook 42 (.iload_n 3) 1 43 := ⟨by decide +kernel, rfl⟩
theorem qX11_gainByLook_43 : Dq cX11_gainByLook 43 (.iload 4) 2 45 := ⟨by decide +kernel, rfl⟩
theorem qX11_gainByLook_45 : Dq cX11_gainByLook 45 (.invokevirtual 378) 3 48 := ⟨by decide +kernel, rfl⟩
theorem qX11_gainByLook_48 : Dq cX11_gainByLook 48 (.aload_n 1) 1 49 := ⟨by decide +kernel, rfl⟩
theorem qX11_gainByLook_49 : Dq cX11_gainByLook 49 (.iload_n 3) 1 50 := ⟨by decide +kernel, rfl⟩
theorem qX11_gainByLook_50 : Dq cX11_gainByLook 50 (.aload_n 2) 1 51 := ⟨by decide +kernel, rfl⟩
theorem qX11_gainByLook_51 : Dq cX11_gainByLook 51 (.invokestatic 152) 3 54 := ⟨by decide +kernel, rfl⟩
theorem qX11_gainByLook_54 : Dq cX11_gainByLook 54 (.invokevirtual 258) 3 57 := ⟨by decide +kernel, rfl⟩
theorem qX11_gainByLook_57 : Dq cX11_gainByLook 57 (.aload_n 1) 1 58 := ⟨by decide +kernel, rfl⟩
theorem qX11_gainByLook_58 : Dq cX11_gainByLook 58 (.aload_n 2) 1 59 := ⟨by decide +kernel, rfl⟩
theorem qX11_gainByLook_59 : Dq cX11_gainByLook 59 (.invokestatic 149) 3 62 := ⟨by decide +kernel, rfl⟩
theorem qX11_gainByLook_62 : Dq cX11_gainByLook 62 (.invokevirtual 381) 3 65 := ⟨by decide +kernel, rfl⟩
theorem qX11_gainByLook_65 : Dq cX11_gainByLook 65 (.iload 5) 2 67 := ⟨by decide +kernel, rfl⟩
theorem qX11_gainByLook_67 : Dq cX11_gainByLook 67 (.ireturn) 1 68 := ⟨by decide +kernel, rfl⟩
set_option maxRecDepth 100000 in
set_option maxHeartbeats 4000000 in
theorem c_gainByLook {G : Glb} {h : AHp} (hs : ShC h) {cnt : Nat} {TV : Nat → Nat → (Nat → Int32) → Int32} (hru : RuOK h cnt TV) (hca : CaOK h cnt TV) {B : Nat} (hB : isB B) (hbe : BeOK (bv h B) cnt) {q : Nat} (hq : q < 48) {k a : Nat} {nn : Int32} (hk6 : k < 6) (hk : Kd h a (kcl k)) (hn : hpI h a 0 = nn) (ha : 38 ≤ a)  : CP G m_X11_gainByLook 6 0 0 [.ref 0, .ref B, .ref a, .int (nI q)] h (fun r h' => ((¬ seB TV (bv h B) q = 0 ∧ r = some (.int (-3)) ∧ ∃ σ, h' = (σ, h.2) ∧ FrV h σ ∧ CaOK (σ, h.2) cnt TV) ∨ (seB TV (bv h B) q = 0 ∧ r = some (.int (gainB TV (bv h B) k nn q)) ∧ ∃ σ, h' = (σ, h.2) ∧ FrB h B σ ∧ CaOK (σ, h.2) cnt TV ∧ bv (σ, h.2) B = lookB TV (bv h B) k nn q))) := by
  suffices key : ∀ P : Option Value → AHp → Prop, (∀ r h', (((¬ seB TV (bv h B) q = 0 ∧ r = some (.int (-3)) ∧ ∃ σ, h' = (σ, h.2) ∧ FrV h σ ∧ CaOK (σ, h.2) cnt TV) ∨ (seB TV (bv h B) q = 0 ∧ r = some (.int (gainB TV (bv h B) k nn q)) ∧ ∃ σ, h' = (σ, h.2) ∧ FrB h B σ ∧ CaOK (σ, h.2) cnt TV ∧ bv (σ, h.2) B = lookB TV (bv h B) k nn q))) → P r h') → CP G m_X11_gainByLook 6 0 0 [.ref 0, .ref B, .ref a, .int (nI q)] h P from key _ (fun _ _ z => z)
  intro P hP
  refine CP.of (by decide +kernel) (Nat.le_of_ble_eq_true rfl) fun X hX hR hnm => ?_
  show V X G 6 0 0 _ 0 [some (.ref 0), some (.ref B), some (.ref a), some (.int (nI q)), none, none] [] h
  have hB8 : B ≤ 7 := by rcases hB with rfl | rfl | rfl <;> omega
  have hc6 := hru.2.1
  obtain ⟨hrl, hrl5⟩ := hbe.rl hc6
  rw [bv0 (by omega) (by omega)] at hrl5
  have ht2 := hbe.2.1 q hq
  rw [bv2 hq] at ht2
  have hh3 := hbe.2.2.2.1
  rw [bv0 (by omega) (by omega)] at hh3
  refine v_aload_n hX rfl qX11_gainByLook_0 ?_
  refine v_getR hX g_X11_38 (hs.kd 0 rfl) (hs.rf 5 rfl) qX11_gainByLook_1 ?_
  refine v_aload_n hX rfl qX11_gainByLook_4 ?_
  refine v_iload_n hX rfl qX11_gainByLook_5 ?_
  refine v_callVq hX hR k_X11_114 (hs.kd 17 rfl) (c_survey (by exact hs) (by exact hru) (by exact hca) (by exact hB) (by exact hq) (by exact hrl) (by exact hrl5) (by exact ht2) (by exact hh3)) rfl (Nat.le_of_ble_eq_true rfl) rfl (Nat.le_of_ble_eq_true rfl) ⟨Nat.le_of_ble_eq_true rfl, Nat.le_of_ble_eq_true rfl⟩ qX11_gainByLook_6 ?_
  rintro _ _ ⟨rfl, σ, rfl, hfv, hca2, hd10, hd11, hd12⟩
  rw [← dpB_eq hq] at hd10
  rw [← seB_eq hq] at hd11
  rw [← shB_eq hq] at hd12
  have hbv : bv (σ, h.2) B = bv h B := hfv.bv hB
  have hn2 : σ a 0 = nn := (hfv a 0 (by omega) (by omega)).trans hn
  refine v_aload_n hX rfl qX11_gainByLook_9 ?_
  refine v_getR hX g_X11_38 (hs.kd 0 rfl) (hs.rf 5 rfl) qX11_gainByLook_10 ?_
  refine v_getIv hX g_X11_127 (Or.inr rfl) (hs.kd 17 rfl) hd11 qX11_gainByLook_13 ?_
  first | refine v_if_eqB hX 22 qX11_gainByLook_16 rfl (fun q16 => ?_) (fun q16 => ?_) | refine v_if_eq hX 22 qX11_gainByLook_16 rfl (fun q16 => ?_) (fun q16 => ?_)
  · have hse : seB TV (bv h B) q = 0 := Classical.byContradiction fun z => q16 z
    refine v_aload_n hX rfl qX11_gainByLook_22 ?_
    refine v_aload_n hX rfl qX11_gainByLook_23 ?_
    refine v_callVq hX hR k_X11_145 (hs.kd 0 rfl) (c_goodHere (by exact hs) (by exact hk6) (by exact hk) (by exact hn2)) rfl (Nat.le_of_ble_eq_true rfl) rfl (Nat.le_of_ble_eq_true rfl) ⟨Nat.le_of_ble_eq_true rfl, Nat.le_of_ble_eq_true rfl⟩ qX11_gainByLook_24 ?_
    rintro _ _ ⟨rfl, rfl⟩
    refine v_eqI (show _ = goodB TV (bv h B) k nn q by
      show (if σ 17 11 = 0 then bnd (fdR k nn (σ 17 10) (σ 17 12)) 0 100 else 0) = _
      rw [hd10, hd11, hd12, bz_f (fun z => z hse), if_pos rfl, goodB, if_pos hse]) ?_
    refine v_istore hX (Nat.le_of_ble_eq_true rfl) rfl (ls' := [some _, some _, some _, some _, some _, none]) rfl qX11_gainByLook_27 ?_
    refine v_aload_n hX rfl qX11_gainByLook_29 ?_
    refine v_iload_n hX rfl qX11_gainByLook_30 ?_
    refine v_callVq hX hR k_X11_118 (hs.bk hB) (c_oddsAt (by exact hs) (by exact hB) _) rfl (Nat.le_of_ble_eq_true rfl) rfl (Nat.le_of_ble_eq_true rfl) ⟨Nat.le_of_ble_eq_true rfl, Nat.le_of_ble_eq_true rfl⟩ qX11_gainByLook_31 ?_
    rintro _ _ ⟨rfl, rfl⟩
    refine v_iload hX rfl qX11_gainByLook_34 ?_
    refine v_callSq hX hR k_X11_155 (c_gainOf _ _) rfl (Nat.le_of_ble_eq_true rfl) rfl (Nat.le_of_ble_eq_true rfl) ⟨Nat.le_of_ble_eq_true rfl, Nat.le_of_ble_eq_true rfl⟩ qX11_gainByLook_36 ?_
    rintro _ _ ⟨rfl, rfl⟩
    refine v_eqI (show _ = gainB TV (bv h B) k nn q by rw [oddsA_n hq, hbv]; rfl) ?_
    refine v_istore hX (Nat.le_of_ble_eq_true rfl) rfl (ls' := [some _, some _, some _, some _, some _, some _]) rfl qX11_gainByLook_39 ?_
    refine v_aload_n hX rfl qX11_gainByLook_41 ?_
    refine v_iload_n hX rfl qX11_gainByLook_42 ?_
    refine v_iload hX rfl qX11_gainByLook_43 ?_
    refine v_callVq hX hR k_X11_378 (hs.bk hB) (c_thinOdds (by exact hs) (by exact hB) (by exact (isCn hq)) _) rfl (Nat.le_of_ble_eq_true rfl) rfl (Nat.le_of_ble_eq_true rfl) ⟨Nat.le_of_ble_eq_true rfl, Nat.le_of_ble_eq_true rfl⟩ qX11_gainByLook_45 ?_
    rintro _ _ ⟨rfl, rfl⟩
    refine v_aload_n hX rfl qX11_gainByLook_48 ?_
    refine v_iload_n hX rfl qX11_gainByLook_49 ?_
    refine v_aload_n hX rfl qX11_gainByLook_50 ?_
    refine v_callSq hX hR k_X11_152 (c_stampsOf (by exact hs) (by exact hk6) (by exact hk) (by exact (show hpI (stI (σ, h.2) (B + 1) _ _) a 0 = nn by rw [hpI_st, if_neg (by omega)]; exact hn2))) rfl (Nat.le_of_ble_eq_true rfl) rfl (Nat.le_of_ble_eq_true rfl) ⟨Nat.le_of_ble_eq_true rfl, Nat.le_of_ble_eq_true rfl⟩ qX11_gainByLook_51 ?_
    rintro _ _ ⟨rfl, rfl⟩
    refine v_callVq hX hR k_X11_258 (hs.bk hB) (c_addTreads (by exact hs) (by exact hB) (by exact (isCn hq)) _) rfl (Nat.le_of_ble_eq_true rfl) rfl (Nat.le_of_ble_eq_true rfl) ⟨Nat.le_of_ble_eq_true rfl, Nat.le_of_ble_eq_true rfl⟩ qX11_gainByLook_54 ?_
    rintro _ _ ⟨rfl, rfl⟩
    refine v_aload_n hX rfl qX11_gainByLook_57 ?_
    refine v_aload_n hX rfl qX11_gainByLook_58 ?_
    refine v_callSq hX hR k_X11_149 (c_takesOf (by exact hs) (by exact hk6) (by exact hk) (by exact (show hpI (stI (stI (σ, h.2) (B + 1) _ _) (B + 2) _ _) a 0 = nn by rw [hpI_st, if_neg (by omega), hpI_st, if_neg (by omega)]; exact hn2))) rfl (Nat.le_of_ble_eq_true rfl) rfl (Nat.le_of_ble_eq_true rfl) ⟨Nat.le_of_ble_eq_true rfl, Nat.le_of_ble_eq_true rfl⟩ qX11_gainByLook_59 ?_
    rintro _ _ ⟨rfl, rfl⟩
    refine v_callVq hX hR k_X11_381 (hs.bk hB) (c_pass (by exact hs) (by exact hB) _) rfl (Nat.le_of_ble_eq_true rfl) rfl (Nat.le_of_ble_eq_true rfl) ⟨Nat.le_of_ble_eq_true rfl, Nat.le_of_ble_eq_true rfl⟩ qX11_gainByLook_62 ?_
    rintro _ _ ⟨rfl, rfl⟩
    refine v_iload hX rfl qX11_gainByLook_65 ?_
    refine v_ireturn hX qX11_gainByLook_67 (hP _ _ ?_)
    refine Or.inr ⟨hse, rfl, _, rfl, fun a k h1 h2 h3 => ?_, ?_, ?_⟩
    · show hpI (stI _ _ _ _) _ _ = _
      rw [hpI_st, if_neg (by omega), hpI_st, if_neg (by omega), hpI_st, if_neg (by omega), hpI_st, if_neg (by omega)]
      exact hfv a k h2 h3
    · refine hca2.eq (fun a h1 h2 k hk => ?_)
      show hpI (stI _ _ _ _) _ _ = _
      rw [hpI_st, if_neg (by omega), hpI_st, if_neg (by omega), hpI_st, if_neg (by omega), hpI_st, if_neg (by omega)]
    · show bv (stI (stI (stI (stI (σ, h.2) _ _ _) _ _ _) (B + 0) 3 _) (B + 0) 4 _) B = _
      rw [bv_up hB (Or.inr ⟨rfl, by omega, by omega⟩), bv_up hB (Or.inr ⟨rfl, by omega, by omega⟩), tn_nI (by omega), bv_up hB (Or.inl ⟨Or.inr rfl, hq⟩), bv_up hB (Or.inl ⟨Or.inl rfl, hq⟩), hbv, lookB]
      unfold psH psM tkB smB
      have e1 : ∀ k, 2 ≤ k → k < 6 → σ B k = bv h B 0 k := fun k h1 h2 => (hfv B k (by omega) (by omega)).trans (bv0 h1 h2).symm
      have e2 : hpI (σ, h.2) (B + 1) q = bv h B 1 q := (hfv (B + 1) q (by omega) (by omega)).trans (bv1 hq).symm
      have e3 : hpI (σ, h.2) (B + 2) q = bv h B 2 q := (hfv (B + 2) q (by omega) (by omega)).trans (bv2 hq).symm
      have e4 : ∀ x y : Int32, ∀ i j k', hpI (stI (stI (σ, h.2) (B + 1) i x) (B + 2) j y) B k' = σ B k' := fun x y i j k' => by rw [hpI_st, if_neg (by omega), hpI_st, if_neg (by omega)]; rfl
      have e5 : ∀ x : Int32, ∀ i, hpI (stI (σ, h.2) (B + 1) i x) (B + 2) q = hpI (σ, h.2) (B + 2) q := fun x i => by rw [hpI_st, if_neg (by omega)]
      rw [e4, e4, e1 3 (by omega) (by omega), e1 4 (by omega) (by omega), e5, e2, e3]
  · skip
    refine v_bipush hX lb_n3 qX11_gainByLook_19 ?_
    refine v_ireturn hX qX11_gainByLook_21 (hP _ _ ?_)
    exact Or.inl ⟨q16, rfl, σ, rfl, hfv, hca2⟩
end
section
/-! the next look: the class way through cells and lookers, and what it comes to -/
theorem kcl_no : ∀ a, a < 38 → ∀ c, c ∈ [1, 2, 7, 4, 8, 3] → ¬ kTC[a]? = some c := by decide +kernel
theorem kcl_in (k : Nat) : kcl k ∈ [1, 2, 7, 4, 8, 3] := by
  unfold kcl
  split <;> simp
/-- a looker lies behind the class' own cells -/
theorem eye38 {h : AHp} (hs : ShC h) {a k : Nat} (hk : Kd h a (kcl k)) : 38 ≤ a := by
  refine Nat.le_of_not_lt fun hlt => ?_
  have hl : a < kTC.length := hlt
  have h1 : kTC[a]? = some kTC[a] := List.getElem?_eq_getElem hl
  have h2 := hs.2.1 a _ h1
  refine kcl_no a hlt _ (kcl_in k) ?_
  rw [h1, ← h2, hk.1]
theorem Pty.fr {h : AHp} (hs : ShC h) {m : Nat} {e kd : Nat → Nat} {nu : Nat → Int32} (hp : Pty h m e kd nu) {σ : Nat → Nat → Int32} (h1 : σ 0 5 = hpI h 0 5) (h2 : ∀ a, 38 ≤ a → σ a 0 = hpI h a 0) : Pty (σ, h.2) m e kd nu := by
  refine ⟨h1.trans hp.1, hp.2.1, fun i hi => ?_⟩
  obtain ⟨g1, g2, g3, g4⟩ := hp.2.2 i hi
  exact ⟨g1, g2, g3, (h2 (e i) (eye38 hs g3)).trans g4⟩
def stW (r : Nat → Int32) (pl : Int32) (n : Nat) (s : Int32 × Int32 × Int32) : Int32 × Int32 × Int32 := if s.2.2 < r n ∨ (r n = s.2.2 ∧ nI n < s.1) then (nI n, pl, r n) else s
def wpS (r : Nat → Int32) (pl : Int32) : Nat → Int32 × Int32 × Int32 → Int32 × Int32 × Int32
  | 0, s => s
  | n + 1, s => stW r pl n (wpS r pl n s)
def chS (TV : TVt) (m : Nat) (kd : Nat → Nat) (nu : Nat → Int32) (b : Nat → Nat → Int32) : Nat → Int32 × Int32 × Int32
  | 0 => (-1, -1, 0)
  | n + 1 => if 0 < b 1 n then wpS (fun i => rateB TV b (kd i) (nu i) n) (nI n) m (chS TV m kd nu b n) else chS TV m kd nu b n
def chB (TV : TVt) (m : Nat) (kd : Nat → Nat) (nu : Nat → Int32) (b : Nat → Nat → Int32) : Int32 × Int32 × Int32 := chS TV m kd nu b 48
def FrC0 (h : AHp) (σ : Nat → Nat → Int32) : Prop := ∀ a k, ¬ (a = 0 ∧ 10 ≤ k) → σ a k = hpI h a k
def FrC (h : AHp) (σ : Nat → Nat → Int32) : Prop := ∀ a k, (a < 20 ∨ 25 < a) → ¬ (a = 17 ∧ (k = 5 ∨ 10 ≤ k)) → ¬ (a = 0 ∧ 10 ≤ k) → σ a k = hpI h a k
theorem qX11_weighParty_0 : Dq cX11_weighParty 0 (.iconst 0) 1 1 := ⟨by decide +kernel, rfl⟩
theorem qX11_weighParty_1 : Dq cX11_weighParty 1 (.istore_n 3) 1 2 := ⟨by decide +kernel, rfl⟩
theorem qX11_weighParty_2 : Dq cX11_weighParty 2 (.iload_n 3) 1 3 := ⟨by decide +kernel, rfl⟩
theorem qX11_weighParty_3 : Dq cX11_weighParty 3 (.aload_n 0) 1 4 := ⟨by decide +kernel, rfl⟩
theorem qX11_weighParty_4 : Dq cX11_weighParty 4 (.getfield 134) 3 7 := ⟨by decide +kernel, rfl⟩
theorem qX11_weighParty_7 : Dq cX11_weighParty 7 (.if_icmp .ge 83) 3 10 := ⟨by decide +kernel, rfl⟩
theorem qX11_weighParty_10 : Dq cX11_weighParty 10 (.aload_n 0) 1 11 := ⟨by decide +kernel, rfl⟩
theorem qX11_weighParty_11 : Dq cX11_weighParty 11 (.iload_n 3) 1 12 := ⟨by decide +kernel, rfl⟩
theorem qX11_weighParty_12 : Dq cX11_weighParty 12 (.invokevirtual 141) 3 15 := ⟨by decide +kernel, rfl⟩
theorem qX11_weighParty_15 : Dq cX11_weighParty 15 (.astore 4) 2 17 := ⟨by decide +kernel, rfl⟩
theorem qX11_weighParty_17 : Dq cX11_weighParty 17 (.aload 4) 2 19 := ⟨by decide +kernel, rfl⟩
theorem qX11_weighParty_19 : Dq cX11_weighParty 19 (.ifnull 65) 3 22 := ⟨by decide +kernel, rfl⟩
theorem qX11_weighParty_22 : Dq cX11_weighParty 22 (.iload_n 2) 1 23 := ⟨by decide +kernel, rfl⟩
theorem qX11_weighParty_23 : Dq cX11_weighParty 23 (.aload_n 0) 1 24 := ⟨by decide +kernel, rfl⟩
theorem qX11_weighParty_24 : Dq cX11_weighParty 24 (.aload 4) 2 26 := ⟨by decide +kernel, rfl⟩
theorem qX11_weighParty_26 : Dq cX11_weighParty 26 (.invokevirtual 145) 3 29 := ⟨by decide +kernel, rfl⟩
theorem qX11_weighParty_29 : Dq cX11_weighParty 29 (.invokestatic 155) 3 32 := ⟨by decide +kernel, rfl⟩
theorem qX11_weighParty_32 : Dq cX11_weighParty 32 (.aload 4) 2 34 := ⟨by decide +kernel, rfl⟩
theorem qX11_weighParty_34 : Dq cX11_weighParty 34 (.invokestatic 149) 3 37 := ⟨by decide +kernel, rfl⟩
theorem qX11_weighParty_37 : Dq cX11_weighParty 37 (.invokestatic 158) 3 40 := ⟨by decide +kernel, rfl⟩
theorem qX11_weighParty_40 : Dq cX11_weighParty 40 (.istore 5) 2 42 := ⟨by decide +kernel, rfl⟩
theorem qX11_weighParty_42 : Dq cX11_weighParty 42 (.iload 5) 2 44 := ⟨by decide +kernel, rfl⟩
theorem qX11_weighParty_44 : Dq cX11_weighParty 44 (.aload_n 0) 1 45 := ⟨by decide +kernel, rfl⟩
theorem qX11_weighParty_45 : Dq cX11_weighParty 45 (.getfield 185) 3 48 := ⟨by decide +kernel, rfl⟩
theorem qX11_weighParty_48 : Dq cX11_weighParty 48 (.if_icmp .gt 20) 3 51 := ⟨by decide +kernel, rfl⟩
theorem qX11_weighParty_51 : Dq cX11_weighParty 51 (.iload 5) 2 53 := ⟨by decide +kernel, rfl⟩
theorem qX11_weighParty_53 : Dq cX11_weighParty 53 (.aload_n 0) 1 54 := ⟨by decide +kernel, rfl⟩
theorem qX11_weighParty_54 : Dq cX11_weighParty 54 (.getfield 185) 3 57 := ⟨by decide +kernel, rfl⟩
theorem qX11_weighParty_57 : Dq cX11_weighParty 57 (.if_icmp .ne 27) 3 60 := ⟨by decide +kernel, rfl⟩
theorem qX11_weighParty_60 : Dq cX11_weighParty 60 (.iload_n 3) 1 61 := ⟨by decide +kernel, rfl⟩
theorem qX11_weighParty_61 : Dq cX11_weighParty 61 (.aload_n 0) 1 62 := ⟨by decide +kernel, rfl⟩
theorem qX11_weighParty_62 : Dq cX11_weighParty 62 (.getfield 55) 3 65 := ⟨by decide +kernel, rfl⟩
theorem qX11_weighParty_65 : Dq cX11_weighParty 65 (.if_icmp .ge 19) 3 68 := ⟨by decide +kernel, rfl⟩
theorem qX11_weighParty_68 : Dq cX11_weighParty 68 (.aload_n 0) 1 69 := ⟨by decide +kernel, rfl⟩
theorem qX11_weighParty_69 : Dq cX11_weighParty 69 (.iload_n 3) 1 70 := ⟨by decide +kernel, rfl⟩
theorem qX11_weighParty_70 : Dq cX11_weighParty 70 (.putfield 55) 3 73 := ⟨by decide +kernel, rfl⟩
theorem qX11_weighParty_73 : Dq cX11_weighParty 73 (.aload_n 0) 1 74 := ⟨by decide +kernel, rfl⟩
theorem qX11_weighParty_74 : Dq cX11_weighParty 74 (.iload_n 1) 1 75 := ⟨by decide +kernel, rfl⟩
theorem qX11_weighParty_75 : Dq cX11_weighParty 75 (.putfield 59) 3 78 := ⟨by decide +kernel, rfl⟩
theorem qX11_weighParty_78 : Dq cX11_weighParty 78 (.aload_n 0) 1 79 := ⟨by decide +kernel, rfl⟩
theorem qX11_weighParty_79 : Dq cX11_weighParty 79 (.iload 5) 2 81 := ⟨by decide +kernel, rfl⟩
theorem qX11_weighParty_81 : Dq cX11_weighParty 81 (.putfield 185) 3 84 := ⟨by decide +kernel, rfl⟩
theorem qX11_weighParty_84 : Dq cX11_weighParty 84 (.iinc 3 1) 3 87 := ⟨by decide +kernel, rfl⟩
theorem qX11_weighParty_87 : Dq cX11_weighParty 87 (.goto (-85)) 3 90 := ⟨by decide +kernel, rfl⟩
theorem qX11_weighParty_90 : Dq cX11_weighParty 90 (.return_) 1 91 := ⟨by decide +kernel, rfl⟩
set_option maxRecDepth 100000 in
set_option maxHeartbeats 4000000 in
theorem c_weighParty {G : Glb} {h : AHp} (hs : ShC h) {m : Nat} {e kd : Nat → Nat} {nu : Nat → Int32} (hp : Pty h m e kd nu) {dp se sh : Int32} (h10 : hpI h 17 10 = dp) (h11 : hpI h 17 11 = bz (¬ se = 0)) (h12 : hpI h 17 12 = sh) {q : Nat} (od : Int32) {rt : Nat → Int32} (hrt : ∀ i, i < m → rt i = if 0 < tkB (kd i) (nu i) then od * (if se = 0 then bnd (fdR (kd i) (nu i) dp sh) 0 100 else 0) / 100 / tkB (kd i) (nu i) else 0) {s0 : Int32 × Int32 × Int32} (g10 : hpI h 0 10 = s0.1) (g11 : hpI h 0 11 = s0.2.1) (g12 : hpI h 0 12 = s0.2.2)  : CP G m_X11_weighParty 5 0 0 [.ref 0, .int (nI q), .int od] h (fun r h' => r = none ∧ ∃ σ, h' = (σ, h.2) ∧ FrC0 h σ ∧ σ 0 10 = (wpS rt (nI q) m s0).1 ∧ σ 0 11 = (wpS rt (nI q) m s0).2.1 ∧ σ 0 12 = (wpS rt (nI q) m s0).2.2) := by
  suffices key : ∀ P : Option Value → AHp → Prop, (∀ r h', (r = none ∧ ∃ σ, h' = (σ, h.2) ∧ FrC0 h σ ∧ σ 0 10 = (wpS rt (nI q) m s0).1 ∧ σ 0 11 = (wpS rt (nI q) m s0).2.1 ∧ σ 0 12 = (wpS rt (nI q) m s0).2.2) → P r h') → CP G m_X11_weighParty 5 0 0 [.ref 0, .int (nI q), .int od] h P from key _ (fun _ _ z => z)
  intro P hP
  refine CP.of (by decide +kernel) (Nat.le_of_ble_eq_true rfl) fun X hX hR hnm => ?_
  show V X G 6 0 0 _ 0 [some (.ref 0), some (.int (nI q)), some (.int od), none, none, none] [] h
  have hm6 := hp.2.1
  refine v_iconst hX li_0 qX11_weighParty_0 ?_
  refine v_istore_n hX (Nat.le_of_ble_eq_true rfl) rfl (ls' := [some _, some _, some _, some _, none, none]) rfl qX11_weighParty_1 ?_
  have L2 : ∀ (mz : Nat) (i : Nat) (σ : Nat → Nat → Int32), m - i = mz → (i ≤ m) → (FrC0 h σ) → (σ 0 10 = (wpS rt (nI q) i s0).1) → (σ 0 11 = (wpS rt (nI q) i s0).2.1) → (σ 0 12 = (wpS rt (nI q) i s0).2.2) → V X G 6 0 0 (QM X G P 0 0) 2 [some (.ref 0), some (.int (nI q)), some (.int od), some (.int (nI i)), none, none] [] (σ, h.2) := by
    intro mz
    induction mz using Nat.strongRecOn with
    | _ mz ih =>
    intro i σ hm hi hf k10 k11 k12
    have hp2 : Pty (σ, h.2) m e kd nu := hp.fr hs (hf 0 5 (by omega)) (fun a ha => hf a 0 (by omega))
    refine v_iload_n hX rfl qX11_weighParty_2 ?_
    refine v_aload_n hX rfl qX11_weighParty_3 ?_
    refine v_getIv hX g_X11_134 (Or.inl rfl) (hs.kd 0 rfl) hp2.1 qX11_weighParty_4 ?_
    refine v_icmp_geS hX 90 qX11_weighParty_7 rfl (fun q7 => ?_) (fun q7 => ?_)
    · have e1 : i = m := Nat.le_antisymm hi (nI_le' (by omega) (by omega) q7); subst e1
      refine v_return hX qX11_weighParty_90 (hP _ _ ?_)
      exact ⟨rfl, σ, rfl, hf, k10, k11, k12⟩
    · have hl := nI_lt' (by omega) (by omega) q7
      refine v_aload_n hX rfl qX11_weighParty_10 ?_
      refine v_iload_n hX rfl qX11_weighParty_11 ?_
      refine v_callVq hX hR k_X11_141 (hs.kd 0 rfl) (c_lookerAt (by exact hs) (by exact hp2) _) rfl (Nat.le_of_ble_eq_true rfl) rfl (Nat.le_of_ble_eq_true rfl) ⟨Nat.le_of_ble_eq_true rfl, Nat.le_of_ble_eq_true rfl⟩ qX11_weighParty_12 ?_
      rintro _ _ ⟨⟨j, hj, hij, rfl⟩ | ⟨hn, rfl⟩, rfl⟩
      · have hij2 : i = j := (nI_eq (by omega) (by omega)).mp hij
        subst hij2
        refine v_astore hX (Nat.le_of_ble_eq_true rfl) rfl (ls' := [some _, some _, some _, some _, some _, none]) rfl qX11_weighParty_15 ?_
        refine v_aload hX rfl qX11_weighParty_17 ?_
        refine v_ifnull hX qX11_weighParty_19 ?_
        refine v_iload_n hX rfl qX11_weighParty_22 ?_
        refine v_aload_n hX rfl qX11_weighParty_23 ?_
        refine v_aload hX rfl qX11_weighParty_24 ?_
        refine v_callVq hX hR k_X11_145 (hs.kd 0 rfl) (c_goodHere (by exact hs) (by exact (hp2.2.2 i hl).2.1) (by exact (hp2.2.2 i hl).2.2.1) (by exact (hp2.2.2 i hl).2.2.2)) rfl (Nat.le_of_ble_eq_true rfl) rfl (Nat.le_of_ble_eq_true rfl) ⟨Nat.le_of_ble_eq_true rfl, Nat.le_of_ble_eq_true rfl⟩ qX11_weighParty_26 ?_
        rintro _ _ ⟨rfl, rfl⟩
        refine v_callSq hX hR k_X11_155 (c_gainOf _ _) rfl (Nat.le_of_ble_eq_true rfl) rfl (Nat.le_of_ble_eq_true rfl) ⟨Nat.le_of_ble_eq_true rfl, Nat.le_of_ble_eq_true rfl⟩ qX11_weighParty_29 ?_
        rintro _ _ ⟨rfl, rfl⟩
        refine v_aload hX rfl qX11_weighParty_32 ?_
        refine v_callSq hX hR k_X11_149 (c_takesOf (by exact hs) (by exact (hp2.2.2 i hl).2.1) (by exact (hp2.2.2 i hl).2.2.1) (by exact (hp2.2.2 i hl).2.2.2)) rfl (Nat.le_of_ble_eq_true rfl) rfl (Nat.le_of_ble_eq_true rfl) ⟨Nat.le_of_ble_eq_true rfl, Nat.le_of_ble_eq_true rfl⟩ qX11_weighParty_34 ?_
        rintro _ _ ⟨rfl, rfl⟩
        refine v_callSq hX hR k_X11_158 (c_rateOf _ _) rfl (Nat.le_of_ble_eq_true rfl) rfl (Nat.le_of_ble_eq_true rfl) ⟨Nat.le_of_ble_eq_true rfl, Nat.le_of_ble_eq_true rfl⟩ qX11_weighParty_37 ?_
        rintro _ _ ⟨rfl, rfl⟩
        refine v_eqI (show _ = rt i by
          rw [hrt i hl]
          show (if 0 < tkB (kd i) (nu i) then od * (if σ 17 11 = 0 then bnd (fdR (kd i) (nu i) (σ 17 10) (σ 17 12)) 0 100 else 0) / 100 / tkB (kd i) (nu i) else 0) = _
          rw [hf 17 10 (by omega), hf 17 11 (by omega), hf 17 12 (by omega), h10, h11, h12]
          by_cases hse : se = 0
          · rw [bz_f (fun z => z hse), if_pos rfl, if_pos hse]
          · rw [bz_t hse, if_neg (show ¬ (1 : Int32) = 0 by decide), if_neg hse]) ?_
        refine v_istore hX (Nat.le_of_ble_eq_true rfl) rfl (ls' := [some _, some _, some _, some _, some _, some _]) rfl qX11_weighParty_40 ?_
        refine v_iload hX rfl qX11_weighParty_42 ?_
        refine v_aload_n hX rfl qX11_weighParty_44 ?_
        refine v_getIv hX g_X11_185 (Or.inl rfl) (hs.kd 0 rfl) k12 qX11_weighParty_45 ?_
        refine v_icmp_gtS hX 68 qX11_weighParty_48 rfl (fun q48 => ?_) (fun q48 => ?_)
        · skip
          refine v_aload_n hX rfl qX11_weighParty_68 ?_
          refine v_iload_n hX rfl qX11_weighParty_69 ?_
          refine v_putI hX p_X11_55 (hs.kd 0 rfl) (Or.inl rfl) qX11_weighParty_70 ?_
          refine v_aload_n hX rfl qX11_weighParty_73 ?_
          refine v_iload_n hX rfl qX11_weighParty_74 ?_
          refine v_putI hX p_X11_59 (hs.kd 0 rfl) (Or.inl rfl) qX11_weighParty_75 ?_
          refine v_aload_n hX rfl qX11_weighParty_78 ?_
          refine v_iload hX rfl qX11_weighParty_79 ?_
          refine v_putI hX p_X11_185 (hs.kd 0 rfl) (Or.inl rfl) qX11_weighParty_81 ?_
          refine v_iinc hX rfl (by first | exact ii_nI _ | exact ii_1 _) (Nat.le_of_ble_eq_true rfl) rfl (ls' := [some _, some _, some _, some _, some _, some _]) rfl qX11_weighParty_84 ?_
          refine v_goto hX 2 qX11_weighParty_87 rfl ?_
          refine v_forget (ls' := [_, _, _, _, none, none]) ⟨Or.inr rfl, Or.inr rfl, Or.inr rfl, Or.inr rfl, Or.inl rfl, Or.inl rfl, trivial⟩ ?_
          first | (have e1 : wpS rt (nI q) (i + 1) s0 = (nI i, nI q, rt i) := if_pos (by first | exact Or.inl q48 | exact Or.inr ⟨q57, q65⟩); exact ih _ (by omega) (i + 1) (stI (stI (stI (σ, h.2) 0 10 (nI i)) 0 11 (nI q)) 0 12 (rt i)).1 rfl (by omega) (fun a k hak => by show hpI (stI _ _ _ _) _ _ = _; rw [hpI_st, if_neg (by omega), hpI_st, if_neg (by omega), hpI_st, if_neg (by omega)]; exact hf a k hak) (by rw [e1]; rfl) (by rw [e1]; rfl) (by rw [e1]; rfl)) | (have e1 : wpS rt (nI q) (i + 1) s0 = wpS rt (nI q) i s0 := if_neg (by rintro (z | ⟨z1, z2⟩) <;> first | exact absurd z (Int32.not_lt.mpr q48) | exact q57 z1 | exact absurd z2 (Int32.not_lt.mpr q65)); exact ih _ (by omega) (i + 1) σ rfl (by omega) hf (by rw [e1]; exact k10) (by rw [e1]; exact k11) (by rw [e1]; exact k12))
        · skip
          refine v_iload hX rfl qX11_weighParty_51 ?_
          refine v_aload_n hX rfl qX11_weighParty_53 ?_
          refine v_getIv hX g_X11_185 (Or.inl rfl) (hs.kd 0 rfl) k12 qX11_weighParty_54 ?_
          refine v_icmp_ne hX 84 qX11_weighParty_57 rfl (fun q57 => ?_) (fun q57 => ?_)
          · skip
            refine v_iinc hX rfl (by first | exact ii_nI _ | exact ii_1 _) (Nat.le_of_ble_eq_true rfl) rfl (ls' := [some _, some _, some _, some _, some _, some _]) rfl qX11_weighParty_84 ?_
            refine v_goto hX 2 qX11_weighParty_87 rfl ?_
            refine v_forget (ls' := [_, _, _, _, none, none]) ⟨Or.inr rfl, Or.inr rfl, Or.inr rfl, Or.inr rfl, Or.inl rfl, Or.inl rfl, trivial⟩ ?_
            first | (have e1 : wpS rt (nI q) (i + 1) s0 = (nI i, nI q, rt i) := if_pos (by first | exact Or.inl q48 | exact Or.inr ⟨q57, q65⟩); exact ih _ (by omega) (i + 1) (stI (stI (stI (σ, h.2) 0 10 (nI i)) 0 11 (nI q)) 0 12 (rt i)).1 rfl (by omega) (fun a k hak => by show hpI (stI _ _ _ _) _ _ = _; rw [hpI_st, if_neg (by omega), hpI_st, if_neg (by omega), hpI_st, if_neg (by omega)]; exact hf a k hak) (by rw [e1]; rfl) (by rw [e1]; rfl) (by rw [e1]; rfl)) | (have e1 : wpS rt (nI q) (i + 1) s0 = wpS rt (nI q) i s0 := if_neg (by rintro (z | ⟨z1, z2⟩) <;> first | exact absurd z (Int32.not_lt.mpr q48) | exact q57 z1 | exact absurd z2 (Int32.not_lt.mpr q65)); exact ih _ (by omega) (i + 1) σ rfl (by omega) hf (by rw [e1]; exact k10) (by rw [e1]; exact k11) (by rw [e1]; exact k12))
          · skip
            refine v_iload_n hX rfl qX11_weighParty_60 ?_
            refine v_aload_n hX rfl qX11_weighParty_61 ?_
            refine v_getIv hX g_X11_55 (Or.inl rfl) (hs.kd 0 rfl) k10 qX11_weighParty_62 ?_
            refine v_icmp_geS hX 84 qX11_weighParty_65 rfl (fun q65 => ?_) (fun q65 => ?_)
            · skip
              refine v_iinc hX rfl (by first | exact ii_nI _ | exact ii_1 _) (Nat.le_of_ble_eq_true rfl) rfl (ls' := [some _, some _, some _, some _, some _, some _]) rfl qX11_weighParty_84 ?_
              refine v_goto hX 2 qX11_weighParty_87 rfl ?_
              refine v_forget (ls' := [_, _, _, _, none, none]) ⟨Or.inr rfl, Or.inr rfl, Or.inr rfl, Or.inr rfl, Or.inl rfl, Or.inl rfl, trivial⟩ ?_
              first | (have e1 : wpS rt (nI q) (i + 1) s0 = (nI i, nI q, rt i) := if_pos (by first | exact Or.inl q48 | exact Or.inr ⟨q57, q65⟩); exact ih _ (by omega) (i + 1) (stI (stI (stI (σ, h.2) 0 10 (nI i)) 0 11 (nI q)) 0 12 (rt i)).1 rfl (by omega) (fun a k hak => by show hpI (stI _ _ _ _) _ _ = _; rw [hpI_st, if_neg (by omega), hpI_st, if_neg (by omega), hpI_st, if_neg (by omega)]; exact hf a k hak) (by rw [e1]; rfl) (by rw [e1]; rfl) (by rw [e1]; rfl)) | (have e1 : wpS rt (nI q) (i + 1) s0 = wpS rt (nI q) i s0 := if_neg (by rintro (z | ⟨z1, z2⟩) <;> first | exact absurd z (Int32.not_lt.mpr q48) | exact q57 z1 | exact absurd z2 (Int32.not_lt.mpr q65)); exact ih _ (by omega) (i + 1) σ rfl (by omega) hf (by rw [e1]; exact k10) (by rw [e1]; exact k11) (by rw [e1]; exact k12))
            · skip
              refine v_aload_n hX rfl qX11_weighParty_68 ?_
              refine v_iload_n hX rfl qX11_weighParty_69 ?_
              refine v_putI hX p_X11_55 (hs.kd 0 rfl) (Or.inl rfl) qX11_weighParty_70 ?_
              refine v_aload_n hX rfl qX11_weighParty_73 ?_
              refine v_iload_n hX rfl qX11_weighParty_74 ?_
              refine v_putI hX p_X11_59 (hs.kd 0 rfl) (Or.inl rfl) qX11_weighParty_75 ?_
              refine v_aload_n hX rfl qX11_weighParty_78 ?_
              refine v_iload hX rfl qX11_weighParty_79 ?_
              refine v_putI hX p_X11_185 (hs.kd 0 rfl) (Or.inl rfl) qX11_weighParty_81 ?_
              refine v_iinc hX rfl (by first | exact ii_nI _ | exact ii_1 _) (Nat.le_of_ble_eq_true rfl) rfl (ls' := [some _, some _, some _, some _, some _, some _]) rfl qX11_weighParty_84 ?_
              refine v_goto hX 2 qX11_weighParty_87 rfl ?_
              refine v_forget (ls' := [_, _, _, _, none, none]) ⟨Or.inr rfl, Or.inr rfl, Or.inr rfl, Or.inr rfl, Or.inl rfl, Or.inl rfl, trivial⟩ ?_
              first | (have e1 : wpS rt (nI q) (i + 1) s0 = (nI i, nI q, rt i) := if_pos (by first | exact Or.inl q48 | exact Or.inr ⟨q57, q65⟩); exact ih _ (by omega) (i + 1) (stI (stI (stI (σ, h.2) 0 10 (nI i)) 0 11 (nI q)) 0 12 (rt i)).1 rfl (by omega) (fun a k hak => by show hpI (stI _ _ _ _) _ _ = _; rw [hpI_st, if_neg (by omega), hpI_st, if_neg (by omega), hpI_st, if_neg (by omega)]; exact hf a k hak) (by rw [e1]; rfl) (by rw [e1]; rfl) (by rw [e1]; rfl)) | (have e1 : wpS rt (nI q) (i + 1) s0 = wpS rt (nI q) i s0 := if_neg (by rintro (z | ⟨z1, z2⟩) <;> first | exact absurd z (Int32.not_lt.mpr q48) | exact q57 z1 | exact absurd z2 (Int32.not_lt.mpr q65)); exact ih _ (by omega) (i + 1) σ rfl (by omega) hf (by rw [e1]; exact k10) (by rw [e1]; exact k11) (by rw [e1]; exact k12))
      · exact absurd ⟨nI_pos' (by omega), nI_lt hl (by omega)⟩ hn
  exact L2 _ 0 h.1 rfl (by omega) (fun a k _ => rfl) g10 g11 g12
theorem qX11_choose_0 : Dq cX11_choose 0 (.aload_n 0) 1 1 := ⟨by decide +kernel, rfl⟩
theorem qX11_choose_1 : Dq cX11_choose 1 (.iconst (-1)) 1 2 := ⟨by decide +kernel, rfl⟩
theorem qX11_choose_2 : Dq cX11_choose 2 (.putfield 55) 3 5 := ⟨by decide +kernel, rfl⟩
theorem qX11_choose_5 : Dq cX11_choose 5 (.aload_n 0) 1 6 := ⟨by decide +kernel, rfl⟩
theorem qX11_choose_6 : Dq cX11_choose 6 (.iconst (-1)) 1 7 := ⟨by decide +kernel, rfl⟩
theorem qX11_choose_7 : Dq cX11_choose 7 (.putfield 59) 3 10 := ⟨by decide +kernel, rfl⟩
theorem qX11_choose_10 : Dq cX11_choose 10 (.aload_n 0) 1 11 := ⟨by decide +kernel, rfl⟩
theorem qX11_choose_11 : Dq cX11_choose 11 (.iconst 0) 1 12 := ⟨by decide +kernel, rfl⟩
theorem qX11_choose_12 : Dq cX11_choose 12 (.putfield 185) 3 15 := ⟨by decide +kernel, rfl⟩
theorem qX11_choose_15 : Dq cX11_choose 15 (.iconst 0) 1 16 := ⟨by decide +kernel, rfl⟩
theorem qX11_choose_16 : Dq cX11_choose 16 (.istore_n 2) 1 17 := ⟨by decide +kernel, rfl⟩
theorem qX11_choose_17 : Dq cX11_choose 17 (.iload_n 2) 1 18 := ⟨by decide +kernel, rfl⟩
theorem qX11_choose_18 : Dq cX11_choose 18 (.bipush 48) 2 20 := ⟨by decide +kernel, rfl⟩
theorem qX11_choose_20 : Dq cX11_choose 20 (.if_icmp .ge 34) 3 23 := ⟨by decide +kernel, rfl⟩
theorem qX11_choose_23 : Dq cX11_choose 23 (.aload_n 1) 1 24 := ⟨by decide +kernel, rfl⟩
theorem qX11_choose_24 : Dq cX11_choose 24 (.iload_n 2) 1 25 := ⟨by decide +kernel, rfl⟩
theorem qX11_choose_25 : Dq cX11_choose 25 (.invokevirtual 118) 3 28 := ⟨by decide +kernel, rfl⟩
theorem qX11_choose_28 : Dq cX11_choose 28 (.istore_n 3) 1 29 := ⟨by decide +kernel, rfl⟩
theorem qX11_choose_29 : Dq cX11_choose 29 (.iload_n 3) 1 30 := ⟨by decide +kernel, rfl⟩
theorem qX11_choose_30 : Dq cX11_choose 30 (.ifCond .le 18) 3 33 := ⟨by decide +kernel, rfl⟩
theorem qX11_choose_33 : Dq cX11_choose 33 (.aload_n 0) 1 34 := ⟨by decide +kernel, rfl⟩
theorem qX11_choose_34 : Dq cX11_choose 34 (.getfield 38) 3 37 := ⟨by decide +kernel, rfl⟩
theorem qX11_choose_37 : Dq cX11_choose 37 (.aload_n 1) 1 38 := ⟨by decide +kernel, rfl⟩
theorem qX11_choose_38 : Dq cX11_choose 38 (.iload_n 2) 1 39 := ⟨by decide +kernel, rfl⟩
theorem qX11_choose_39 : Dq cX11_choose 39 (.invokevirtual 114) 3 42 := ⟨by decide +kernel, rfl⟩
theorem qX11_choose_42 : Dq cX11_choose 42 (.aload_n 0) 1 43 := ⟨by decide +kernel, rfl⟩
theorem qX11_choose_43 : Dq cX11_choose 43 (.iload_n 2) 1 44 := ⟨by decide +kernel, rfl⟩
theorem qX11_choose_44 : Dq cX11_choose 44 (.iload_n 3) 1 45 := ⟨by decide +kernel, rfl⟩
theorem qX11_choose_45 : Dq cX11_choose 45 (.invokevirtual 384) 3 48 := ⟨by decide +kernel, rfl⟩
theorem qX11_choose_48 : Dq cX11_choose 48 (.iinc 2 1) 3 51 := ⟨by decide +kernel, rfl⟩
theorem qX11_choose_51 : Dq cX11_choose 51 (.goto (-34)) 3 54 := ⟨by decide +kernel, rfl⟩
theorem qX11_choose_54 : Dq cX11_choose 54 (.aload_n 0) 1 55 := ⟨by decide +kernel, rfl⟩
theorem qX11_choose_55 : Dq cX11_choose 55 (.getfield 55) 3 58 := ⟨by decide +kernel, rfl⟩
theorem qX11_choose_58 : Dq cX11_choose 58 (.iconst (-1)) 1 59 := ⟨by decide +kernel, rfl⟩
theorem qX11_choose_59 : Dq cX11_choose 59 (.if_icmp .eq 7) 3 62 := ⟨by decide +kernel, rfl⟩
theorem qX11_choose_62 : Dq cX11_choose 62 (.iconst 1) 1 63 := ⟨by decide +kernel, rfl⟩
theorem qX11_choose_63 : Dq cX11_choose 63 (.goto 4) 3 66 := ⟨by decide +kernel, rfl⟩
theorem qX11_choose_66 : Dq cX11_choose 66 (.iconst 0) 1 67 := ⟨by decide +kernel, rfl⟩
theorem qX11_choose_67 : Dq cX11_choose 67 (.ireturn) 1 68 := ⟨by decide +kernel, rfl⟩
set_option maxRecDepth 100000 in
set_option maxHeartbeats 4000000 in
theorem c_choose {G : Glb} {h : AHp} (hs : ShC h) {cnt : Nat} {TV : Nat → Nat → (Nat → Int32) → Int32} (hru : RuOK h cnt TV) (hca : CaOK h cnt TV) {B : Nat} (hB : isB B) (hbe : BeOK (bv h B) cnt) {m : Nat} {e kd : Nat → Nat} {nu : Nat → Int32} (hp : Pty h m e kd nu)  : CP G m_X11_choose 6 0 0 [.ref 0, .ref B] h (fun r h' => r = some (.int (bz (¬ (chB TV m kd nu (bv h B)).1 = -1))) ∧ ∃ σ, h' = (σ, h.2) ∧ FrC h σ ∧ CaOK (σ, h.2) cnt TV ∧ σ 0 10 = (chB TV m kd nu (bv h B)).1 ∧ σ 0 11 = (chB TV m kd nu (bv h B)).2.1 ∧ σ 0 12 = (chB TV m kd nu (bv h B)).2.2) := by
  suffices key : ∀ P : Option Value → AHp → Prop, (∀ r h', (r = some (.int (bz (¬ (chB TV m kd nu (bv h B)).1 = -1))) ∧ ∃ σ, h' = (σ, h.2) ∧ FrC h σ ∧ CaOK (σ, h.2) cnt TV ∧ σ 0 10 = (chB TV m kd nu (bv h B)).1 ∧ σ 0 11 = (chB TV m kd nu (bv h B)).2.1 ∧ σ 0 12 = (chB TV m kd nu (bv h B)).2.2) → P r h') → CP G m_X11_choose 6 0 0 [.ref 0, .ref B] h P from key _ (fun _ _ z => z)
  intro P hP
  refine CP.of (by decide +kernel) (Nat.le_of_ble_eq_true rfl) fun X hX hR hnm => ?_
  show V X G 4 0 0 _ 0 [some (.ref 0), some (.ref B), none, none] [] h
  have hB8 : 1 ≤ B ∧ B ≤ 7 := by rcases hB with rfl | rfl | rfl <;> omega
  have hc6 := hru.2.1
  obtain ⟨hrl, hrl5⟩ := hbe.rl hc6
  rw [bv0 (by omega) (by omega)] at hrl5
  have hh3 := hbe.2.2.2.1
  rw [bv0 (by omega) (by omega)] at hh3
  refine v_aload_n hX rfl qX11_choose_0 ?_
  refine v_iconst hX li_n1 qX11_choose_1 ?_
  refine v_putI hX p_X11_55 (hs.kd 0 rfl) (Or.inl rfl) qX11_choose_2 ?_
  refine v_aload_n hX rfl qX11_choose_5 ?_
  refine v_iconst hX li_n1 qX11_choose_6 ?_
  refine v_putI hX p_X11_59 (hs.kd 0 rfl) (Or.inl rfl) qX11_choose_7 ?_
  refine v_aload_n hX rfl qX11_choose_10 ?_
  refine v_iconst hX li_0 qX11_choose_11 ?_
  refine v_putI hX p_X11_185 (hs.kd 0 rfl) (Or.inl rfl) qX11_choose_12 ?_
  refine v_iconst hX li_0 qX11_choose_15 ?_
  refine v_istore_n hX (Nat.le_of_ble_eq_true rfl) rfl (ls' := [some _, some _, some _, none]) rfl qX11_choose_16 ?_
  have L17 : ∀ (mz : Nat) (q : Nat) (σ : Nat → Nat → Int32), 48 - q = mz → (q ≤ 48) → (FrC h σ) → (CaOK (σ, h.2) cnt TV) → (σ 0 10 = (chS TV m kd nu (bv h B) q).1) → (σ 0 11 = (chS TV m kd nu (bv h B) q).2.1) → (σ 0 12 = (chS TV m kd nu (bv h B) q).2.2) → V X G 4 0 0 (QM X G P 0 0) 17 [some (.ref 0), some (.ref B), some (.int (nI q)), none] [] (σ, h.2) := by
    intro mz
    induction mz using Nat.strongRecOn with
    | _ mz ih =>
    intro q σ hm hi hf hca1 k10 k11 k12
    have hbv : bv (σ, h.2) B = bv h B := bv_ext (fun i k ho => by
      have : i ≤ 2 := by rcases ho with ⟨e, -⟩ | ⟨e, -⟩ <;> omega
      exact hf (B + i) k (by omega) (by omega) (by omega))
    refine v_iload_n hX rfl qX11_choose_17 ?_
    refine v_bipush hX lb_48 qX11_choose_18 ?_
    refine v_icmp_geS hX 54 qX11_choose_20 rfl (fun q20 => ?_) (fun q20 => ?_)
    · have e1 := geN (N := 48) rfl hi q20; subst e1
      refine v_aload_n hX rfl qX11_choose_54 ?_
      refine v_getIv hX g_X11_55 (Or.inl rfl) (hs.kd 0 rfl) k10 qX11_choose_55 ?_
      refine v_iconst hX li_n1 qX11_choose_58 ?_
      refine v_icmp_eq hX 66 qX11_choose_59 rfl (fun q59 => ?_) (fun q59 => ?_)
      · skip
        refine v_iconst hX li_0 qX11_choose_66 ?_
        refine v_zreturn hX (by first | exact Or.inl rfl | exact Or.inr rfl | exact bz01 _) qX11_choose_67 (hP _ _ ?_)
        refine ⟨?_, σ, rfl, hf, hca1, k10, k11, k12⟩
        first | exact rz (bz_t q59) | exact rz (bz_f (fun z => z q59))
      · skip
        refine v_iconst hX li_1 qX11_choose_62 ?_
        refine v_goto hX 67 qX11_choose_63 rfl ?_
        refine v_zreturn hX (by first | exact Or.inl rfl | exact Or.inr rfl | exact bz01 _) qX11_choose_67 (hP _ _ ?_)
        refine ⟨?_, σ, rfl, hf, hca1, k10, k11, k12⟩
        first | exact rz (bz_t q59) | exact rz (bz_f (fun z => z q59))
    · have hl := ltN (N := 48) rfl hi q20
      refine v_aload_n hX rfl qX11_choose_23 ?_
      refine v_iload_n hX rfl qX11_choose_24 ?_
      refine v_callVq hX hR k_X11_118 (hs.bk hB) (c_oddsAt (by exact hs) (by exact hB) _) rfl (Nat.le_of_ble_eq_true rfl) rfl (Nat.le_of_ble_eq_true rfl) ⟨Nat.le_of_ble_eq_true rfl, Nat.le_of_ble_eq_true rfl⟩ qX11_choose_25 ?_
      rintro _ _ ⟨rfl, rfl⟩
      refine v_eqI (show _ = bv h B 1 q by rw [oddsA_n hl, hbv]) ?_
      refine v_istore_n hX (Nat.le_of_ble_eq_true rfl) rfl (ls' := [some _, some _, some _, some _]) rfl qX11_choose_28 ?_
      refine v_iload_n hX rfl qX11_choose_29 ?_
      refine v_if_leS hX 48 qX11_choose_30 rfl (fun q30 => ?_) (fun q30 => ?_)
      · skip
        refine v_iinc hX rfl (by first | exact ii_nI _ | exact ii_1 _) (Nat.le_of_ble_eq_true rfl) rfl (ls' := [some _, some _, some _, some _]) rfl qX11_choose_48 ?_
        refine v_goto hX 17 qX11_choose_51 rfl ?_
        refine v_forget (ls' := [_, _, _, none]) ⟨Or.inr rfl, Or.inr rfl, Or.inr rfl, Or.inl rfl, trivial⟩ ?_
        first | (have e1 : chS TV m kd nu (bv h B) (q + 1) = wpS (fun i => rateB TV (bv h B) (kd i) (nu i) q) (nI q) m (chS TV m kd nu (bv h B) q) := if_pos q30; exact ih _ (by omega) (q + 1) σ3 rfl (by omega) (fun a k h1 h2 h3 => (hf3 a k h3).trans ((hfv a k h1 h2).trans (hf a k h1 h2 h3))) (hca2.eq (fun a h1 h2 k hk => hf3 a k (by omega))) (by rw [e1]; exact j10) (by rw [e1]; exact j11) (by rw [e1]; exact j12)) | (have e1 : chS TV m kd nu (bv h B) (q + 1) = chS TV m kd nu (bv h B) q := if_neg (Int32.not_lt.mpr q30); exact ih _ (by omega) (q + 1) σ rfl (by omega) hf hca1 (by rw [e1]; exact k10) (by rw [e1]; exact k11) (by rw [e1]; exact k12))
      · skip
        refine v_aload_n hX rfl qX11_choose_33 ?_
        refine v_getR hX g_X11_38 (hs.kd 0 rfl) (hs.rf 5 rfl) qX11_choose_34 ?_
        refine v_aload_n hX rfl qX11_choose_37 ?_
        refine v_iload_n hX rfl qX11_choose_38 ?_
        refine v_callVq hX hR k_X11_114 (hs.kd 17 rfl) (c_survey (by exact hs) (by exact (hru.fr (hf 17 2 (by omega) (by omega) (by omega)) (funext fun k => hf 18 k (by omega) (by omega) (by omega)) (funext fun k => hf 19 k (by omega) (by omega) (by omega)))) (by exact hca1) (by exact hB) (by exact hl) (by exact hrl) (by exact ((hf B 5 (by omega) (by omega) (by omega)).trans hrl5)) (by exact (show inR (σ (B + 2) q) 99 by rw [show σ (B + 2) q = bv h B 2 q from (hf (B + 2) q (by omega) (by omega) (by omega)).trans (bv2 hl).symm]; exact hbe.2.1 q hl)) (by exact (show inR (σ B 3) 23 by rw [show σ B 3 = hpI h B 3 from hf B 3 (by omega) (by omega) (by omega)]; exact hh3))) rfl (Nat.le_of_ble_eq_true rfl) rfl (Nat.le_of_ble_eq_true rfl) ⟨Nat.le_of_ble_eq_true rfl, Nat.le_of_ble_eq_true rfl⟩ qX11_choose_39 ?_
        rintro _ _ ⟨rfl, σ2, rfl, hfv, hca2, d10, d11, d12⟩
        have f2 : ∀ k, hpI (σ, h.2) (B + 2) k = hpI h (B + 2) k := fun k => hf (B + 2) k (by omega) (by omega) (by omega)
        have f3 : hpI (σ, h.2) B 3 = hpI h B 3 := hf B 3 (by omega) (by omega) (by omega)
        rw [f2, f3, ← dpB_eq hl] at d10
        rw [f2, f3, ← seB_eq hl] at d11
        rw [f2, f3, ← shB_eq hl] at d12
        refine v_aload_n hX rfl qX11_choose_42 ?_
        refine v_iload_n hX rfl qX11_choose_43 ?_
        refine v_iload_n hX rfl qX11_choose_44 ?_
        refine v_callVq hX hR k_X11_384 (hs.kd 0 rfl) (c_weighParty (by exact hs) (by exact (hp.fr hs ((hfv 0 5 (by omega) (by omega)).trans (hf 0 5 (by omega) (by omega) (by omega))) (fun a ha => (hfv a 0 (by omega) (by omega)).trans (hf a 0 (by omega) (by omega) (by omega))))) (by exact d10) (by exact d11) (by exact d12) (q := q) _ (rt := fun i => rateB TV (bv h B) (kd i) (nu i) q) (by exact (fun i hi => rfl)) (by exact ((hfv 0 10 (by omega) (by omega)).trans k10)) (by exact ((hfv 0 11 (by omega) (by omega)).trans k11)) (by exact ((hfv 0 12 (by omega) (by omega)).trans k12))) rfl (Nat.le_of_ble_eq_true rfl) rfl (Nat.le_of_ble_eq_true rfl) ⟨Nat.le_of_ble_eq_true rfl, Nat.le_of_ble_eq_true rfl⟩ qX11_choose_45 ?_
        rintro _ _ ⟨rfl, σ3, rfl, hf3, j10, j11, j12⟩
        refine v_iinc hX rfl (by first | exact ii_nI _ | exact ii_1 _) (Nat.le_of_ble_eq_true rfl) rfl (ls' := [some _, some _, some _, some _]) rfl qX11_choose_48 ?_
        refine v_goto hX 17 qX11_choose_51 rfl ?_
        refine v_forget (ls' := [_, _, _, none]) ⟨Or.inr rfl, Or.inr rfl, Or.inr rfl, Or.inl rfl, trivial⟩ ?_
        first | (have e1 : chS TV m kd nu (bv h B) (q + 1) = wpS (fun i => rateB TV (bv h B) (kd i) (nu i) q) (nI q) m (chS TV m kd nu (bv h B) q) := if_pos q30; exact ih _ (by omega) (q + 1) σ3 rfl (by omega) (fun a k h1 h2 h3 => (hf3 a k h3).trans ((hfv a k h1 h2).trans (hf a k h1 h2 h3))) (hca2.eq (fun a h1 h2 k hk => hf3 a k (by omega))) (by rw [e1]; exact j10) (by rw [e1]; exact j11) (by rw [e1]; exact j12)) | (have e1 : chS TV m kd nu (bv h B) (q + 1) = chS TV m kd nu (bv h B) q := if_neg (Int32.not_lt.mpr q30); exact ih _ (by omega) (q + 1) σ rfl (by omega) hf hca1 (by rw [e1]; exact k10) (by rw [e1]; exact k11) (by rw [e1]; exact k12))
  exact L17 _ 0 _ rfl (by omega) (fun a k h1 h2 h3 => by show hpI (stI _ _ _ _) _ _ = _; rw [hpI_st, if_neg (by omega), hpI_st, if_neg (by omega), hpI_st, if_neg (by omega)]) (hca.eq (fun a h1 h2 k hk => by show hpI (stI _ _ _ _) _ _ = _; rw [hpI_st, if_neg (by omega), hpI_st, if_neg (by omega), hpI_st, if_neg (by omega)])) rfl rfl rfl
end
section
/-! the best look is one: what it is, and that a look keeps a beach right -/
/-- s names the best of the pairs with P: of like ones the first looker, then the least cell -/
def IsB (ρ : Nat → Nat → Int32) (P : Nat → Nat → Prop) (s : Int32 × Int32 × Int32) : Prop :=
  (s = (-1, -1, 0) ∧ ∀ i q, P i q → (ρ i q).toInt ≤ 0) ∨ ∃ i q, P i q ∧ s = (nI i, nI q, ρ i q) ∧ 0 < (ρ i q).toInt ∧ (∀ i' q', P i' q' → (ρ i' q').toInt ≤ (ρ i q).toInt) ∧ (∀ i' q', P i' q' → i' < i → (ρ i' q').toInt < (ρ i q).toInt) ∧ ∀ q', P i q' → q' < q → (ρ i q').toInt < (ρ i q).toInt
theorem IsB.uniq {ρ : Nat → Nat → Int32} {P : Nat → Nat → Prop} {s s' : Int32 × Int32 × Int32} (h : IsB ρ P s) (h' : IsB ρ P s') : s = s' := by
  rcases h with ⟨rfl, h0⟩ | ⟨i, q, hP, rfl, hpos, h1, h2, h3⟩
  · rcases h' with ⟨rfl, -⟩ | ⟨i, q, hP, rfl, hpos, -⟩
    · rfl
    · have := h0 i q hP; omega
  · rcases h' with ⟨rfl, h0⟩ | ⟨i', q', hP', rfl, hpos', h1', h2', h3'⟩
    · have := h0 i q hP; omega
    · have e1 := h1 i' q' hP'
      have e2 := h1' i q hP
      have ei : i = i' := by
        rcases Nat.lt_trichotomy i i' with z | z | z
        · have := h2' i q hP z; omega
        · exact z
        · have := h2 i' q' hP' z; omega
      subst ei
      have eq : q = q' := by
        rcases Nat.lt_trichotomy q q' with z | z | z
        · have := h3' q hP z; omega
        · exact z
        · have := h3 q' hP' z; omega
      subst eq
      rfl
theorem IsB.congr {ρ : Nat → Nat → Int32} {P P' : Nat → Nat → Prop} {s : Int32 × Int32 × Int32} (h : IsB ρ P s) (e : ∀ i q, P i q ↔ P' i q) : IsB ρ P' s := by
  have : P = P' := funext fun i => funext fun q => propext (e i q)
  rw [← this]; exact h
def Pn (m n j i q : Nat) : Prop := i < m ∧ (q < n ∨ (q = n ∧ i < j))
theorem Pn.new {m n j i q : Nat} (h : Pn m n (j + 1) i q) : Pn m n j i q ∨ (i = j ∧ q = n) := by
  obtain ⟨h1, h2⟩ := h
  rcases h2 with z | ⟨z1, z2⟩
  · exact Or.inl ⟨h1, Or.inl z⟩
  · by_cases e : i = j
    · exact Or.inr ⟨e, z1⟩
    · exact Or.inl ⟨h1, Or.inr ⟨z1, by omega⟩⟩
theorem isB_step {ρ : Nat → Nat → Int32} {m n j : Nat} (hm : m ≤ 6) (hj : j < m) {s : Int32 × Int32 × Int32} (h : IsB ρ (Pn m n j) s) : IsB ρ (Pn m n (j + 1)) (stW (fun i => ρ i n) (nI n) j s) := by
  unfold stW
  have hnew : Pn m n (j + 1) j n := ⟨hj, Or.inr ⟨rfl, by omega⟩⟩
  have hup : ∀ i q, Pn m n j i q → Pn m n (j + 1) i q := fun i q z => ⟨z.1, by have := z.2; omega⟩
  rcases h with ⟨rfl, h0⟩ | ⟨i, q, hP, rfl, hpos, h1, h2, h3⟩
  · by_cases hc : (0 : Int32) < ρ j n ∨ (ρ j n = 0 ∧ nI j < -1)
    · rw [if_pos hc]
      have hp : 0 < (ρ j n).toInt := by
        rcases hc with z | ⟨-, z⟩
        · exact ltI.mp z
        · have z1 := ltI.mp z
          rw [nI_toInt (by omega)] at z1
          have : (-1 : Int32).toInt = -1 := rfl
          omega
      refine Or.inr ⟨j, n, hnew, rfl, hp, fun i' q' z => ?_, fun i' q' z zl => ?_, fun q' z zl => ?_⟩
      · rcases z.new with z | ⟨rfl, rfl⟩
        · have := h0 _ _ z; omega
        · omega
      · rcases z.new with z | ⟨rfl, rfl⟩
        · have := h0 _ _ z; omega
        · omega
      · rcases z.new with z | ⟨-, rfl⟩
        · have := h0 _ _ z; omega
        · omega
    · rw [if_neg hc]
      refine Or.inl ⟨rfl, fun i' q' z => ?_⟩
      rcases z.new with z | ⟨rfl, rfl⟩
      · exact h0 _ _ z
      · have z1 : ¬ (0 : Int32) < ρ i' q' := fun z => hc (Or.inl z)
        rw [ltI] at z1
        have : (0 : Int32).toInt = 0 := rfl
        omega
  · have hqn : q ≤ n := by have := hP.2; omega
    by_cases hc : ρ i q < ρ j n ∨ (ρ j n = ρ i q ∧ nI j < nI i)
    · rw [if_pos hc]
      have hge : (ρ i q).toInt ≤ (ρ j n).toInt := by
        rcases hc with z | ⟨z, -⟩
        · have := ltI.mp z; omega
        · rw [z]; exact Int.le_refl _
      have hst : (ρ i q).toInt < (ρ j n).toInt ∨ j < i := by
        rcases hc with z | ⟨-, z⟩
        · exact Or.inl (ltI.mp z)
        · exact Or.inr ((nI_ltI (by omega) (by have := hP.1; omega)).mp z)
      refine Or.inr ⟨j, n, hnew, rfl, by omega, fun i' q' z => ?_, fun i' q' z zl => ?_, fun q' z zl => ?_⟩
      · rcases z.new with z | ⟨rfl, rfl⟩
        · have := h1 _ _ z; omega
        · omega
      · rcases z.new with z | ⟨rfl, rfl⟩
        · rcases hst with w | w
          · have := h1 _ _ z; omega
          · have := h2 _ _ z (by omega); omega
        · omega
      · rcases z.new with z | ⟨-, rfl⟩
        · rcases hst with w | w
          · have := h1 _ _ z; omega
          · have := h2 _ _ z (by omega); omega
        · omega
    · rw [if_neg hc]
      have hle : (ρ j n).toInt ≤ (ρ i q).toInt := by
        have z1 : ¬ ρ i q < ρ j n := fun z => hc (Or.inl z)
        rw [ltI] at z1
        omega
      have hls : j < i → (ρ j n).toInt < (ρ i q).toInt := fun hji => by
        have z1 : ¬ ρ j n = ρ i q := fun z => hc (Or.inr ⟨z, (nI_ltI (by omega) (by have := hP.1; omega)).mpr hji⟩)
        rw [eqI] at z1
        omega
      refine Or.inr ⟨i, q, hup _ _ hP, rfl, hpos, fun i' q' z => ?_, fun i' q' z zl => ?_, fun q' z zl => ?_⟩
      · rcases z.new with z | ⟨rfl, rfl⟩
        · exact h1 _ _ z
        · exact hle
      · rcases z.new with z | ⟨rfl, rfl⟩
        · exact h2 _ _ z zl
        · exact hls zl
      · rcases z.new with z | ⟨rfl, rfl⟩
        · exact h3 _ z zl
        · omega
theorem isB_wp {ρ : Nat → Nat → Int32} {m n : Nat} (hm : m ≤ 6) {s : Int32 × Int32 × Int32} (h : IsB ρ (Pn m n 0) s) : ∀ j, j ≤ m → IsB ρ (Pn m n j) (wpS (fun i => ρ i n) (nI n) j s) := by
  intro j
  induction j with
  | zero => intro _; exact h
  | succ j ih => intro hj; exact isB_step hm (by omega) (ih (by omega))
theorem isB_skip {ρ : Nat → Nat → Int32} {m n : Nat} {s : Int32 × Int32 × Int32} (h : IsB ρ (Pn m n 0) s) (h0 : ∀ i, i < m → ρ i n = 0) : IsB ρ (Pn m (n + 1) 0) s := by
  have z0 : (0 : Int32).toInt = 0 := rfl
  have hnew : ∀ i q, Pn m (n + 1) 0 i q → Pn m n 0 i q ∨ (ρ i q).toInt = 0 ∧ q = n := fun i q z => by
    by_cases e : q = n
    · subst e; exact Or.inr ⟨by rw [h0 i z.1]; exact z0, rfl⟩
    · exact Or.inl ⟨z.1, by have := z.2; omega⟩
  rcases h with ⟨rfl, h1⟩ | ⟨i, q, hP, rfl, hpos, h1, h2, h3⟩
  · refine Or.inl ⟨rfl, fun i q z => ?_⟩
    rcases hnew i q z with z | ⟨z, -⟩
    · exact h1 _ _ z
    · omega
  · have hq : q < n := by have := hP.2; omega
    refine Or.inr ⟨i, q, ⟨hP.1, Or.inl (by omega)⟩, rfl, hpos, fun i' q' z => ?_, fun i' q' z zl => ?_, fun q' z zl => ?_⟩
    · rcases hnew _ _ z with z | ⟨z, -⟩
      · exact h1 _ _ z
      · omega
    · rcases hnew _ _ z with z | ⟨z, -⟩
      · exact h2 _ _ z zl
      · omega
    · rcases hnew _ _ z with z | ⟨z, zn⟩
      · exact h3 _ z zl
      · omega
def RR (TV : TVt) (kd : Nat → Nat) (nu : Nat → Int32) (b : Nat → Nat → Int32) (i q : Nat) : Int32 := if 0 < b 1 q then rateB TV b (kd i) (nu i) q else 0
theorem chS_is (TV : TVt) {m : Nat} (hm : m ≤ 6) (kd : Nat → Nat) (nu : Nat → Int32) (b : Nat → Nat → Int32) : ∀ n, IsB (RR TV kd nu b) (Pn m n 0) (chS TV m kd nu b n) := by
  intro n
  induction n with
  | zero => exact Or.inl ⟨rfl, fun i q z => by have := z.2; omega⟩
  | succ n ih =>
    by_cases h0 : 0 < b 1 n
    · have e : chS TV m kd nu b (n + 1) = wpS (fun i => rateB TV b (kd i) (nu i) n) (nI n) m (chS TV m kd nu b n) := if_pos h0
      have e2 : (fun i => rateB TV b (kd i) (nu i) n) = fun i => RR TV kd nu b i n := by funext i; exact (if_pos h0).symm
      rw [e, e2]
      exact (isB_wp hm ih m (Nat.le_refl _)).congr (fun i q => ⟨fun z => ⟨z.1, by have := z.2; omega⟩, fun z => ⟨z.1, by have := z.2; have := z.1; omega⟩⟩)
    · have e : chS TV m kd nu b (n + 1) = chS TV m kd nu b n := if_neg h0
      rw [e]
      exact isB_skip ih (fun i _ => if_neg h0)
/-- the class' next look is the best one -/
theorem chB_is (TV : TVt) {m : Nat} (hm : m ≤ 6) (kd : Nat → Nat) (nu : Nat → Int32) (b : Nat → Nat → Int32) : IsB (RR TV kd nu b) (fun i q => i < m ∧ q < 48) (chB TV m kd nu b) := (chS_is TV hm kd nu b 48).congr (fun i q => ⟨fun z => ⟨z.1, by have := z.2; omega⟩, fun z => ⟨z.1, Or.inl z.2⟩⟩)
theorem inR.ex {x : Int32} {n : Nat} (h : inR x n) (hn : n < 2 ^ 31) : ∃ j, j ≤ n ∧ x = nI j := by
  obtain ⟨h1, h2⟩ := h
  refine ⟨x.toInt.toNat, by omega, ?_⟩
  rw [eqI, nI_toInt (by omega)]
  omega
theorem inR_nI {j n : Nat} (h : j ≤ n) (hn : n < 2 ^ 31) : inR (nI j) n := by
  unfold inR
  rw [nI_toInt (by omega)]
  omega
theorem bnd_in {v : Int32} (b : Nat) (hb : b < 2000000) : inR (bnd v 0 (nI b)) b := by
  have z0 : (0 : Int32).toInt = 0 := rfl
  have zb := nI_toInt (n := b) (by omega)
  unfold bnd inR
  by_cases h1 : v < nI b
  · rw [if_pos h1]
    rw [ltI] at h1
    by_cases h2 : 0 < v
    · rw [if_pos h2]; rw [ltI] at h2; omega
    · rw [if_neg h2]; omega
  · rw [if_neg h1]
    by_cases h2 : 0 < nI b
    · rw [if_pos h2]; omega
    · rw [if_neg h2]; omega
theorem goodB_in (TV : TVt) (b : Nat → Nat → Int32) (k : Nat) (nn : Int32) (q : Nat) : inR (goodB TV b k nn q) 100 := by
  unfold goodB
  by_cases h : seB TV b q = 0
  · rw [if_pos h]; exact bnd_in 100 (by omega)
  · rw [if_neg h]; exact inR_nI (j := 0) (by omega) (by omega)
theorem tkR_in {k : Nat} {nn : Int32} (hn : inR nn 9) : ∃ j, 1 ≤ j ∧ j ≤ 15 ∧ tkB k nn = nI j := by
  obtain ⟨w, hw, rfl⟩ := hn.ex (by omega)
  have mx : ∀ j : Nat, 1 ≤ j → j ≤ 15 → mxI 1 (nI j) = nI j := fun j h1 h2 => by
    unfold mxI
    by_cases h : (1 : Int32) < nI j
    · rw [if_pos h]
    · rw [if_neg h]
      rw [show (1 : Int32) = nI 1 from rfl] at h ⊢
      rw [nI_ltI (by omega) (by omega)] at h
      rw [show j = 1 by omega]
  have g : ∀ j : Nat, 1 ≤ j → j ≤ 15 → tkR k (nI w) = nI j → ∃ j, 1 ≤ j ∧ j ≤ 15 ∧ tkB k (nI w) = nI j := fun j h1 h2 h3 => ⟨j, h1, h2, by unfold tkB; rw [h3]; exact mx j h1 h2⟩
  unfold tkR at g
  split at g
  · exact g 2 (by omega) (by omega) rfl
  · exact g 6 (by omega) (by omega) rfl
  · exact g (6 + w) (by omega) (by omega) (nI_add 6 w)
  · exact g 3 (by omega) (by omega) rfl
  · exact g 12 (by omega) (by omega) rfl
  · exact g (3 + w) (by omega) (by omega) (nI_add 3 w)
theorem smR_in {k : Nat} {nn : Int32} (hn : inR nn 9) : ∃ j, j ≤ 11 ∧ smB k nn = nI j ∧ smR k nn = nI j := by
  obtain ⟨w, hw, rfl⟩ := hn.ex (by omega)
  have mx : ∀ j : Nat, j ≤ 11 → mxI 0 (nI j) = nI j := fun j h2 => by
    unfold mxI
    by_cases h : (0 : Int32) < nI j
    · rw [if_pos h]
    · rw [if_neg h]
      rw [show (0 : Int32) = nI 0 from rfl] at h ⊢
      rw [nI_ltI (by omega) (by omega)] at h
      rw [show j = 0 by omega]
  have g : ∀ j : Nat, j ≤ 11 → smR k (nI w) = nI j → ∃ j, j ≤ 11 ∧ smB k (nI w) = nI j ∧ smR k (nI w) = nI j := fun j h2 h3 => ⟨j, h2, by unfold smB; rw [h3]; exact mx j h2, h3⟩
  unfold smR at g ⊢
  split at g
  · exact g 2 (by omega) rfl
  · exact g 1 (by omega) rfl
  · exact g 0 (by omega) rfl
  · exact g 2 (by omega) rfl
  · exact g 1 (by omega) rfl
  · exact g (2 + w) (by omega) (nI_add 2 w)
theorem mnI_in {x : Int32} {n j : Nat} (hn : n < 2000000) (hj : j < 2000000) (e : x = nI j) : inR (mnI (nI n) x) n ∧ (j ≤ n → mnI (nI n) x = x) := by
  subst e
  unfold mnI
  by_cases h : nI j < nI n
  · rw [if_pos h]
    rw [nI_ltI (by omega) (by omega)] at h
    exact ⟨inR_nI (by omega) (by omega), fun _ => rfl⟩
  · rw [if_neg h]
    rw [nI_ltI (by omega) (by omega)] at h
    exact ⟨inR_nI (by omega) (by omega), fun z => by rw [show j = n by omega]⟩
/-- a look leaves a beach right -/
theorem lookB_ok {TV : TVt} {b : Nat → Nat → Int32} {cnt : Nat} (hb : BeOK b cnt) {k q : Nat} {nn : Int32} (hn : inR nn 9) : BeOK (lookB TV b k nn q) cnt := by
  obtain ⟨ho, ht, hbag, hh, hm, rl, hrl, h5⟩ := hb
  obtain ⟨tk, tk1, tk2, etk⟩ := tkR_in (k := k) hn
  obtain ⟨sm, sm2, esm, -⟩ := smR_in (k := k) hn
  obtain ⟨H, hH, eH⟩ := hh.ex (by omega)
  obtain ⟨M, hM, eM⟩ := hm.ex (by omega)
  have e60 : (60 : Int32) = nI 60 := rfl
  have e24 : (24 : Int32) = nI 24 := rfl
  unfold lookB
  refine ⟨fun j hj => ?_, fun j hj => ?_, ?_, ?_, ?_, rl, hrl, ?_⟩
  · rw [up2_ne (by omega), up2_ne (by omega), up2_ne (by omega)]
    by_cases e : j = q
    · subst e
      rw [up2_at]
      obtain ⟨o, hO, eO⟩ := (ho j hj).ex (by omega)
      obtain ⟨g, hG, eG⟩ := (goodB_in TV b k nn j).ex (by omega)
      rw [eO, eG, show (100 : Int32) = nI 100 from rfl, pk_sub hG, pk_mul, pk_div (by have : o * (100 - g) ≤ 999999 * 100 := Nat.mul_le_mul hO (by omega); omega) (by omega) (by omega)]
      refine inR_nI ?_ (by omega)
      have : o * (100 - g) ≤ 999999 * 100 := Nat.mul_le_mul hO (by omega)
      exact Nat.div_le_of_le_mul (by omega)
    · rw [up2_ne (fun z => e z.2)]; exact ho j hj
  · rw [up2_ne (by omega), up2_ne (by omega)]
    by_cases e : j = q
    · subst e
      rw [up2_at]
      obtain ⟨t, hT, eT⟩ := (ht j hj).ex (by omega)
      rw [eT, esm, nI_add]
      exact (mnI_in (n := 99) (j := t + sm) (by omega) (by omega) rfl).1
    · rw [up2_ne (fun z => e z.2), up2_ne (by omega)]; exact ht j hj
  · rw [up2_ne (by omega), up2_ne (by omega), up2_ne (by omega), up2_ne (by omega)]; exact hbag
  · rw [up2_ne (by omega), up2_at, eH, eM, etk, nI_add, e60, pk_div (by omega) (by omega) (by omega), nI_add, e24]
    unfold rmI
    rw [pk_rem (by omega) (by omega) (by omega)]
    exact inR_nI (by omega) (by omega)
  · rw [up2_at, eM, etk, nI_add, e60]
    unfold rmI
    rw [pk_rem (by omega) (by omega) (by omega)]
    exact inR_nI (by omega) (by omega)
  · rw [up2_ne (by omega), up2_ne (by omega), up2_ne (by omega), up2_ne (by omega)]; exact h5
theorem rate_pos {TV : TVt} {b : Nat → Nat → Int32} {k q : Nat} {nn : Int32} (h : 0 < (rateB TV b k nn q).toInt) : seB TV b q = 0 := by
  refine Classical.byContradiction fun z => ?_
  have e1 : goodB TV b k nn q = 0 := if_neg z
  have e2 : gainB TV b k nn q = 0 := by unfold gainB; rw [e1]; simp
  unfold rateB at h
  rw [e2] at h
  split at h <;> simp at h
end
section
/-! plans, and told searches -/
def stB (TV : TVt) (m : Nat) (kd : Nat → Nat) (nu : Nat → Int32) (b : Nat → Nat → Int32) : Nat → Nat → Int32 := if (chB TV m kd nu b).1 = -1 then b else lookB TV b (kd (tn (chB TV m kd nu b).1)) (nu (tn (chB TV m kd nu b).1)) (tn (chB TV m kd nu b).2.1)
def pbs (TV : TVt) (m : Nat) (kd : Nat → Nat) (nu : Nat → Int32) (b0 : Nat → Nat → Int32) : Nat → Nat → Nat → Int32
  | 0 => b0
  | i + 1 => stB TV m kd nu (pbs TV m kd nu b0 i)
section PLN
variable (TV : TVt) (m : Nat) (kd : Nat → Nat) (nu : Nat → Int32) (b0 : Nat → Nat → Int32)
def pCh (i : Nat) : Int32 × Int32 × Int32 := chB TV m kd nu (pbs TV m kd nu b0 i)
def pSt (i : Nat) : Bool := decide ((pCh TV m kd nu b0 i).1 = -1)
def pSz (n : Nat) : Nat := fc (pSt TV m kd nu b0) n 0
def pCell (i : Nat) : Int32 := (pCh TV m kd nu b0 i).2.1
def pGain (i : Nat) : Int32 := gainB TV (pbs TV m kd nu b0 i) (kd (tn (pCh TV m kd nu b0 i).1)) (nu (tn (pCh TV m kd nu b0 i).1)) (tn (pCh TV m kd nu b0 i).2.1)
def pTake (i : Nat) : Int32 := tkB (kd (tn (pCh TV m kd nu b0 i).1)) (nu (tn (pCh TV m kd nu b0 i).1))
end PLN
theorem fc_le {p : Nat → Bool} : ∀ n i, fc p n i ≤ i + n := by
  intro n
  induction n with
  | zero => intro i; exact Nat.le_refl _
  | succ n ih =>
    intro i
    unfold fc
    split
    · omega
    · have := ih (i + 1); omega
theorem ch_some {TV : TVt} {m : Nat} (hm : m ≤ 6) {kd : Nat → Nat} {nu : Nat → Int32} {b : Nat → Nat → Int32} (h : ¬ (chB TV m kd nu b).1 = -1) : ∃ l q, l < m ∧ q < 48 ∧ chB TV m kd nu b = (nI l, nI q, rateB TV b (kd l) (nu l) q) ∧ seB TV b q = 0 := by
  rcases chB_is TV hm kd nu b with ⟨e, -⟩ | ⟨l, q, ⟨hl, hq⟩, e, hpos, -⟩
  · rw [e] at h; exact absurd rfl h
  · unfold RR at e hpos
    by_cases h0 : 0 < b 1 q
    · rw [if_pos h0] at e hpos
      exact ⟨l, q, hl, hq, e, rate_pos hpos⟩
    · rw [if_neg h0] at hpos
      simp at hpos
theorem pbs_ok {TV : TVt} {m : Nat} (hm : m ≤ 6) {kd : Nat → Nat} {nu : Nat → Int32} (hnu : ∀ i, i < m → inR (nu i) 9) {b0 : Nat → Nat → Int32} {cnt : Nat} (hb : BeOK b0 cnt) : ∀ i, BeOK (pbs TV m kd nu b0 i) cnt := by
  intro i
  induction i with
  | zero => exact hb
  | succ i ih =>
    show BeOK (stB TV m kd nu (pbs TV m kd nu b0 i)) cnt
    unfold stB
    by_cases h : (chB TV m kd nu (pbs TV m kd nu b0 i)).1 = -1
    · rw [if_pos h]; exact ih
    · rw [if_neg h]
      obtain ⟨l, q, hl, hq, e, -⟩ := ch_some hm h
      rw [e]
      have : tn (nI l) = l := tn_nI (by omega)
      rw [this]
      exact lookB_ok ih (hnu l hl)
def FrP (h : AHp) (σ : Nat → Nat → Int32) : Prop := ∀ a k, ¬ (4 ≤ a ∧ a ≤ 6) → ¬ (20 ≤ a ∧ a ≤ 28) → ¬ (a = 17 ∧ (k = 5 ∨ 10 ≤ k)) → ¬ (a = 0 ∧ 10 ≤ k) → σ a k = hpI h a k
theorem RuOK.frP {h : AHp} {cnt : Nat} {TV : TVt} {σ : Nat → Nat → Int32} (hr : RuOK h cnt TV) (hf : FrP h σ) : RuOK (σ, h.2) cnt TV := hr.fr (hf 17 2 (by omega) (by omega) (by omega) (by omega)) (funext fun k => hf 18 k (by omega) (by omega) (by omega) (by omega)) (funext fun k => hf 19 k (by omega) (by omega) (by omega) (by omega))
theorem Pty.frP {h : AHp} (hs : ShC h) {m : Nat} {e kd : Nat → Nat} {nu : Nat → Int32} (hp : Pty h m e kd nu) {σ : Nat → Nat → Int32} (hf : FrP h σ) : Pty (σ, h.2) m e kd nu := hp.fr hs (hf 0 5 (by omega) (by omega) (by omega) (by omega)) (fun a ha => hf a 0 (by omega) (by omega) (by omega) (by omega))
theorem FrP.tr {h : AHp} {σ σ' : Nat → Nat → Int32} (h1 : FrP h σ) (h2 : FrP (σ, h.2) σ') : FrP h σ' := fun a k a1 a2 a3 a4 => (h2 a k a1 a2 a3 a4).trans (h1 a k a1 a2 a3 a4)
theorem FrC.P {h : AHp} {σ : Nat → Nat → Int32} (hf : FrC h σ) : FrP h σ := fun a k _ a2 a3 a4 => hf a k (by omega) a3 a4
theorem FrB.P {h : AHp} {σ : Nat → Nat → Int32} (hf : FrB h 4 σ) : FrP h σ := fun a k a1 a2 a3 _ => hf a k (by omega) (by omega) a3
theorem FrV.P {h : AHp} {σ : Nat → Nat → Int32} (hf : FrV h σ) : FrP h σ := fun a k a1 a2 a3 _ => hf a k (by omega) a3
theorem asB_bv {h : AHp} {B D : Nat} {σ : Nat → Nat → Int32} (hσ : asBeach h B D σ) : bv (σ, h.2) B = bv h D := bv_ext (fun i k ho => by
  obtain ⟨h1, h2, h3, -⟩ := hσ
  rcases ho with ⟨rfl | rfl, hk⟩ | ⟨rfl, hk, hk2⟩
  · exact h1 k hk
  · exact h2 k hk
  · exact h3 k hk hk2)
theorem CaOK.P {h : AHp} {cnt : Nat} {TV : TVt} {σ : Nat → Nat → Int32} (hc : CaOK h cnt TV) (hσ : ∀ a, 22 ≤ a → a ≤ 25 → σ a = hpI h a) : CaOK (σ, h.2) cnt TV := hc.eq (fun a h1 h2 k _ => congrFun (hσ a h1 h2) k)
theorem qX11_makePlan_0 : Dq cX11_makePlan 0 (.aload_n 0) 1 1 := ⟨by decide +kernel, rfl⟩
theorem qX11_makePlan_1 : Dq cX11_makePlan 1 (.getfield 16) 3 4 := ⟨by decide +kernel, rfl⟩
theorem qX11_makePlan_4 : Dq cX11_makePlan 4 (.aload_n 0) 1 5 := ⟨by decide +kernel, rfl⟩
theorem qX11_makePlan_5 : Dq cX11_makePlan 5 (.getfield 10) 3 8 := ⟨by decide +kernel, rfl⟩
theorem qX11_makePlan_8 : Dq cX11_makePlan 8 (.invokevirtual 281) 3 11 := ⟨by decide +kernel, rfl⟩
theorem qX11_makePlan_11 : Dq cX11_makePlan 11 (.aload_n 0) 1 12 := ⟨by decide +kernel, rfl⟩
theorem qX11_makePlan_12 : Dq cX11_makePlan 12 (.getfield 45) 3 15 := ⟨by decide +kernel, rfl⟩
theorem qX11_makePlan_15 : Dq cX11_makePlan 15 (.invokevirtual 387) 3 18 := ⟨by decide +kernel, rfl⟩
theorem qX11_makePlan_18 : Dq cX11_makePlan 18 (.iconst 0) 1 19 := ⟨by decide +kernel, rfl⟩
theorem qX11_makePlan_19 : Dq cX11_makePlan 19 (.istore_n 2) 1 20 := ⟨by decide +kernel, rfl⟩
theorem qX11_makePlan_20 : Dq cX11_makePlan 20 (.iload_n 2) 1 21 := ⟨by decide +kernel, rfl⟩
theorem qX11_makePlan_21 : Dq cX11_makePlan 21 (.iload_n 1) 1 22 := ⟨by decide +kernel, rfl⟩
theorem qX11_makePlan_22 : Dq cX11_makePlan 22 (.if_icmp .ge 63) 3 25 := ⟨by decide +kernel, rfl⟩
theorem qX11_makePlan_25 : Dq cX11_makePlan 25 (.aload_n 0) 1 26 := ⟨by decide +kernel, rfl⟩
theorem qX11_makePlan_26 : Dq cX11_makePlan 26 (.aload_n 0) 1 27 := ⟨by decide +kernel, rfl⟩
theorem qX11_makePlan_27 : Dq cX11_makePlan 27 (.getfield 16) 3 30 := ⟨by decide +kernel, rfl⟩
theorem qX11_makePlan_30 : Dq cX11_makePlan 30 (.invokevirtual 181) 3 33 := ⟨by decide +kernel, rfl⟩
theorem qX11_makePlan_33 : Dq cX11_makePlan 33 (.ifCond .eq 52) 3 36 := ⟨by decide +kernel, rfl⟩
theorem qX11_makePlan_36 : Dq cX11_makePlan 36 (.aload_n 0) 1 37 := ⟨by decide +kernel, rfl⟩
theorem qX11_makePlan_37 : Dq cX11_makePlan 37 (.aload_n 0) 1 38 := ⟨by decide +kernel, rfl⟩
theorem qX11_makePlan_38 : Dq cX11_makePlan 38 (.getfield 55) 3 41 := ⟨by decide +kernel, rfl⟩
theorem qX11_makePlan_41 : Dq cX11_makePlan 41 (.invokevirtual 141) 3 44 := ⟨by decide +kernel, rfl⟩
theorem qX11_makePlan_44 : Dq cX11_makePlan 44 (.astore_n 3) 1 45 := ⟨by decide +kernel, rfl⟩
theorem qX11_makePlan_45 : Dq cX11_makePlan 45 (.aload_n 3) 1 46 := ⟨by decide +kernel, rfl⟩
theorem qX11_makePlan_46 : Dq cX11_makePlan 46 (.ifnull 33) 3 49 := ⟨by decide +kernel, rfl⟩
theorem qX11_makePlan_49 : Dq cX11_makePlan 49 (.aload_n 0) 1 50 := ⟨by decide +kernel, rfl⟩
theorem qX11_makePlan_50 : Dq cX11_makePlan 50 (.getfield 59) 3 53 := ⟨by decide +kernel, rfl⟩
theorem qX11_makePlan_53 : Dq cX11_makePlan 53 (.istore 4) 2 55 := ⟨by decide +kernel, rfl⟩
theorem qX11_makePlan_55 : Dq cX11_makePlan 55 (.aload_n 0) 1 56 := ⟨by decide +kernel, rfl⟩
theorem qX11_makePlan_56 : Dq cX11_makePlan 56 (.getfield 45) 3 59 := ⟨by decide +kernel, rfl⟩
theorem qX11_makePlan_59 : Dq cX11_makePlan 59 (.iload 4) 2 61 := ⟨by decide +kernel, rfl⟩
theorem qX11_makePlan_61 : Dq cX11_makePlan 61 (.aload_n 0) 1 62 := ⟨by decide +kernel, rfl⟩
theorem qX11_makePlan_62 : Dq cX11_makePlan 62 (.aload_n 0) 1 63 := ⟨by decide +kernel, rfl⟩
theorem qX11_makePlan_63 : Dq cX11_makePlan 63 (.getfield 16) 3 66 := ⟨by decide +kernel, rfl⟩
theorem qX11_makePlan_66 : Dq cX11_makePlan 66 (.aload_n 3) 1 67 := ⟨by decide +kernel, rfl⟩
theorem qX11_makePlan_67 : Dq cX11_makePlan 67 (.iload 4) 2 69 := ⟨by decide +kernel, rfl⟩
theorem qX11_makePlan_69 : Dq cX11_makePlan 69 (.invokevirtual 177) 3 72 := ⟨by decide +kernel, rfl⟩
theorem qX11_makePlan_72 : Dq cX11_makePlan 72 (.aload_n 3) 1 73 := ⟨by decide +kernel, rfl⟩
theorem qX11_makePlan_73 : Dq cX11_makePlan 73 (.invokestatic 149) 3 76 := ⟨by decide +kernel, rfl⟩
theorem qX11_makePlan_76 : Dq cX11_makePlan 76 (.invokevirtual 388) 3 79 := ⟨by decide +kernel, rfl⟩
theorem qX11_makePlan_79 : Dq cX11_makePlan 79 (.iinc 2 1) 3 82 := ⟨by decide +kernel, rfl⟩
theorem qX11_makePlan_82 : Dq cX11_makePlan 82 (.goto (-62)) 3 85 := ⟨by decide +kernel, rfl⟩
theorem qX11_makePlan_85 : Dq cX11_makePlan 85 (.return_) 1 86 := ⟨by decide +kernel, rfl⟩
set_option maxRecDepth 100000 in
set_option maxHeartbeats 4000000 in
theorem c_makePlan {G : Glb} {h : AHp} (hs : ShC h) {cnt : Nat} {TV : Nat → Nat → (Nat → Int32) → Int32} (hru : RuOK h cnt TV) (hca : CaOK h cnt TV) (hbe : BeOK (bv h 1) cnt) {m : Nat} {e kd : Nat → Nat} {nu : Nat → Int32} (hp : Pty h m e kd nu) (hnu : ∀ i, i < m → inR (nu i) 9) {n : Nat} (hn20 : n ≤ 20) : CP G m_X11_makePlan 7 0 0 [.ref 0, .int (nI n)] h (fun r h' => r = none ∧ ∃ σ, h' = (σ, h.2) ∧ FrP h σ ∧ CaOK (σ, h.2) cnt TV ∧ σ 26 2 = nI (pSz TV m kd nu (bv h 1) n) ∧ (∀ j, j < pSz TV m kd nu (bv h 1) n → σ 27 j = pCell TV m kd nu (bv h 1) j ∧ σ 28 j = pGain TV m kd nu (bv h 1) j) ∧ σ 26 3 = sumN (pGain TV m kd nu (bv h 1) ) (pSz TV m kd nu (bv h 1) n) ∧ σ 26 4 = sumN (pTake TV m kd nu (bv h 1) ) (pSz TV m kd nu (bv h 1) n)) := by
  suffices key : ∀ P : Option Value → AHp → Prop, (∀ r h', (r = none ∧ ∃ σ, h' = (σ, h.2) ∧ FrP h σ ∧ CaOK (σ, h.2) cnt TV ∧ σ 26 2 = nI (pSz TV m kd nu (bv h 1) n) ∧ (∀ j, j < pSz TV m kd nu (bv h 1) n → σ 27 j = pCell TV m kd nu (bv h 1) j ∧ σ 28 j = pGain TV m kd nu (bv h 1) j) ∧ σ 26 3 = sumN (pGain TV m kd nu (bv h 1) ) (pSz TV m kd nu (bv h 1) n) ∧ σ 26 4 = sumN (pTake TV m kd nu (bv h 1) ) (pSz TV m kd nu (bv h 1) n)) → P r h') → CP G m_X11_makePlan 7 0 0 [.ref 0, .int (nI n)] h P from key _ (fun _ _ z => z)
  intro P hP
  refine CP.of (by decide +kernel) (Nat.le_of_ble_eq_true rfl) fun X hX hR hnm => ?_
  show V X G 5 0 0 _ 0 [some (.ref 0), some (.int (nI n)), none, none, none] [] h
  have hm6 := hp.2.1
  refine v_aload_n hX rfl qX11_makePlan_0 ?_
  refine v_getR hX g_X11_16 (hs.kd 0 rfl) (hs.rf 1 rfl) qX11_makePlan_1 ?_
  refine v_aload_n hX rfl qX11_makePlan_4 ?_
  refine v_getR hX g_X11_10 (hs.kd 0 rfl) (hs.rf 0 rfl) qX11_makePlan_5 ?_
  refine v_callVq hX hR k_X11_281 (hs.kd 4 rfl) (c_become (by exact hs) (by exact (Or.inr (Or.inl rfl))) (by exact (Or.inl rfl)) (by decide)) rfl (Nat.le_of_ble_eq_true rfl) rfl (Nat.le_of_ble_eq_true rfl) ⟨Nat.le_of_ble_eq_true rfl, Nat.le_of_ble_eq_true rfl⟩ qX11_makePlan_8 ?_
  rintro _ _ ⟨rfl, σ, rfl, hσ⟩
  refine v_aload_n hX rfl qX11_makePlan_11 ?_
  refine v_getR hX g_X11_45 (hs.kd 0 rfl) (hs.rf 6 rfl) qX11_makePlan_12 ?_
  refine v_callVq hX hR k_X11_387 (hs.kd 26 rfl) (c_clear (by exact hs)) rfl (Nat.le_of_ble_eq_true rfl) rfl (Nat.le_of_ble_eq_true rfl) ⟨Nat.le_of_ble_eq_true rfl, Nat.le_of_ble_eq_true rfl⟩ qX11_makePlan_15 ?_
  rintro _ _ ⟨rfl, rfl⟩
  refine v_iconst hX li_0 qX11_makePlan_18 ?_
  refine v_istore_n hX (Nat.le_of_ble_eq_true rfl) rfl (ls' := [some _, some _, some _, none, none]) rfl qX11_makePlan_19 ?_
  have L20 : ∀ (mz : Nat) (i : Nat) (σ : Nat → Nat → Int32), n - i = mz → (i ≤ n) → (FrP h σ) → (CaOK (σ, h.2) cnt TV) → (bv (σ, h.2) 4 = pbs TV m kd nu (bv h 1) i) → (∀ j, j < i → pSt TV m kd nu (bv h 1) j = false) → (σ 26 2 = nI i) → (∀ j, j < i → σ 27 j = pCell TV m kd nu (bv h 1) j ∧ σ 28 j = pGain TV m kd nu (bv h 1) j) → (σ 26 3 = sumN (pGain TV m kd nu (bv h 1) ) i) → (σ 26 4 = sumN (pTake TV m kd nu (bv h 1) ) i) → V X G 5 0 0 (QM X G P 0 0) 20 [some (.ref 0), some (.int (nI n)), some (.int (nI i)), none, none] [] (σ, h.2) := by
    intro mz
    induction mz using Nat.strongRecOn with
    | _ mz ih =>
    intro i σ hm hi hf hca1 hbv hns z2 zc z3 z4
    have hp2 : Pty (σ, h.2) m e kd nu := hp.frP hs hf
    have hru2 : RuOK (σ, h.2) cnt TV := hru.frP hf
    have hbe2 : BeOK (bv (σ, h.2) 4) cnt := by rw [hbv]; exact pbs_ok hm6 hnu hbe i
    refine v_iload_n hX rfl qX11_makePlan_20 ?_
    refine v_iload_n hX rfl qX11_makePlan_21 ?_
    refine v_icmp_geS hX 85 qX11_makePlan_22 rfl (fun q22 => ?_) (fun q22 => ?_)
    · have e1 : i = n := Nat.le_antisymm hi (nI_le' (by omega) (by omega) q22)
      subst e1
      have hsz : pSz TV m kd nu (bv h 1) i = i := (fc_no i 0 (fun j _ hj => hns j (by omega))).trans (Nat.zero_add i)
      refine v_return hX qX11_makePlan_85 (hP _ _ ?_)
      rw [hsz]
      first | exact ⟨rfl, σ, rfl, hf, hca1, z2, zc, z3, z4⟩ | exact ⟨rfl, σ2, rfl, hf, hca2, z2, zc, z3, z4⟩
    · have hl0 := nI_lt' (by omega) (by omega) q22
      refine v_aload_n hX rfl qX11_makePlan_25 ?_
      refine v_aload_n hX rfl qX11_makePlan_26 ?_
      refine v_getR hX g_X11_16 (hs.kd 0 rfl) (hs.rf 1 rfl) qX11_makePlan_27 ?_
      refine v_callVq hX hR k_X11_181 (hs.kd 0 rfl) (c_choose (by exact hs) (by exact hru2) (by exact hca1) (by exact (Or.inr (Or.inl rfl))) (by exact hbe2) (by exact hp2)) rfl (Nat.le_of_ble_eq_true rfl) rfl (Nat.le_of_ble_eq_true rfl) ⟨Nat.le_of_ble_eq_true rfl, Nat.le_of_ble_eq_true rfl⟩ qX11_makePlan_30 ?_
      rintro _ _ ⟨rfl, σ2, rfl, hf2, hca2, k10, k11, k12⟩
      rw [hbv] at k10 k11 k12 ⊢
      first | refine v_if_eqB hX 85 qX11_makePlan_33 rfl (fun q33 => ?_) (fun q33 => ?_) | refine v_if_eq hX 85 qX11_makePlan_33 rfl (fun q33 => ?_) (fun q33 => ?_)
      · have hst : (pCh TV m kd nu (bv h 1) i).1 = -1 := Classical.byContradiction q33
        have hsz : pSz TV m kd nu (bv h 1) n = i := fc_hit (k := i) (decide_eq_true hst) n 0 (Nat.zero_le _) (by omega) (fun j _ hj => hns j hj)
        have hf := hf.tr hf2.P
        have e26 : ∀ a k, 26 ≤ a → σ2 a k = σ a k := fun a k ha => hf2 a k (by omega) (by omega) (by omega)
        have z2 := (e26 26 2 (by omega)).trans z2
        have z3 := (e26 26 3 (by omega)).trans z3
        have z4 := (e26 26 4 (by omega)).trans z4
        have zc : ∀ j, j < i → σ2 27 j = _ ∧ σ2 28 j = _ := fun j hj => ⟨(e26 27 j (by omega)).trans (zc j hj).1, (e26 28 j (by omega)).trans (zc j hj).2⟩
        refine v_return hX qX11_makePlan_85 (hP _ _ ?_)
        rw [hsz]
        first | exact ⟨rfl, σ, rfl, hf, hca1, z2, zc, z3, z4⟩ | exact ⟨rfl, σ2, rfl, hf, hca2, z2, zc, z3, z4⟩
      · obtain ⟨l, w, hl, hw, hch, hse⟩ := ch_some hm6 q33
        have hch2 : pCh TV m kd nu (bv h 1) i = _ := hch
        rw [hch] at k10 k11 k12
        have hp2 : Pty (σ2, h.2) m e kd nu := Pty.frP (h := (σ, h.2)) hs hp2 hf2.P
        have hbv2 : bv (σ2, h.2) 4 = pbs TV m kd nu (bv h 1) i := (bv_ext (fun i k ho => by
              have : i ≤ 2 := by rcases ho with ⟨e, -⟩ | ⟨e, -⟩ <;> omega
              exact hf2 (4 + i) k (by omega) (by omega) (by omega))).trans hbv
        have hru3 : RuOK (σ2, h.2) cnt TV := hru2.frP hf2.P
        have hbe3 : BeOK (bv (σ2, h.2) 4) cnt := by rw [hbv2]; exact pbs_ok hm6 hnu hbe i
        refine v_aload_n hX rfl qX11_makePlan_36 ?_
        refine v_aload_n hX rfl qX11_makePlan_37 ?_
        refine v_getIv hX g_X11_55 (Or.inl rfl) (hs.kd 0 rfl) k10 qX11_makePlan_38 ?_
        refine v_callVq hX hR k_X11_141 (hs.kd 0 rfl) (c_lookerAt (by exact hs) (by exact hp2) _) rfl (Nat.le_of_ble_eq_true rfl) rfl (Nat.le_of_ble_eq_true rfl) ⟨Nat.le_of_ble_eq_true rfl, Nat.le_of_ble_eq_true rfl⟩ qX11_makePlan_41 ?_
        rintro _ _ ⟨⟨j, hj, hij, rfl⟩ | ⟨hn, rfl⟩, rfl⟩
        · have hij2 : l = j := (nI_eq (by omega) (by omega)).mp hij
          subst hij2
          refine v_astore_n hX (Nat.le_of_ble_eq_true rfl) rfl (ls' := [some _, some _, some _, some _, none]) rfl qX11_makePlan_44 ?_
          refine v_aload_n hX rfl qX11_makePlan_45 ?_
          refine v_ifnull hX qX11_makePlan_46 ?_
          refine v_aload_n hX rfl qX11_makePlan_49 ?_
          refine v_getIv hX g_X11_59 (Or.inl rfl) (hs.kd 0 rfl) k11 qX11_makePlan_50 ?_
          refine v_istore hX (Nat.le_of_ble_eq_true rfl) rfl (ls' := [some _, some _, some _, some _, some _]) rfl qX11_makePlan_53 ?_
          refine v_aload_n hX rfl qX11_makePlan_55 ?_
          refine v_getR hX g_X11_45 (hs.kd 0 rfl) (hs.rf 6 rfl) qX11_makePlan_56 ?_
          refine v_iload hX rfl qX11_makePlan_59 ?_
          refine v_aload_n hX rfl qX11_makePlan_61 ?_
          refine v_aload_n hX rfl qX11_makePlan_62 ?_
          refine v_getR hX g_X11_16 (hs.kd 0 rfl) (hs.rf 1 rfl) qX11_makePlan_63 ?_
          refine v_aload_n hX rfl qX11_makePlan_66 ?_
          refine v_iload hX rfl qX11_makePlan_67 ?_
          refine v_callVq hX hR k_X11_177 (hs.kd 0 rfl) (c_gainByLook (by exact hs) (by exact hru3) (by exact hca2) (by exact (Or.inr (Or.inl rfl))) (by exact hbe3) (by exact hw) (by exact (hp2.2.2 l hl).2.1) (by exact (hp2.2.2 l hl).2.2.1) (by exact (hp2.2.2 l hl).2.2.2) (by exact (eye38 hs (hp2.2.2 l hl).2.2.1))) rfl (Nat.le_of_ble_eq_true rfl) rfl (Nat.le_of_ble_eq_true rfl) ⟨Nat.le_of_ble_eq_true rfl, Nat.le_of_ble_eq_true rfl⟩ qX11_makePlan_69 ?_
          rintro _ _ (⟨hse2, -⟩ | ⟨-, rfl, σ3, rfl, hf3, hca3, hb3⟩)
          · exact absurd (by rw [hbv2]; exact hse) hse2
          · rw [hbv2] at hb3 ⊢
            have hgn : gainB TV (pbs TV m kd nu (bv h 1) i) (kd l) (nu l) w = pGain TV m kd nu (bv h 1) i := by unfold pGain; rw [hch2]; show _ = gainB TV _ (kd (tn (nI l))) (nu (tn (nI l))) (tn (nI w)); rw [tn_nI (by omega), tn_nI (by omega)]
            rw [hgn]
            have hp2 : Pty (σ3, h.2) m e kd nu := Pty.frP (h := (σ2, h.2)) hs hp2 hf3.P
            have htk : tkB (kd l) (nu l) = pTake TV m kd nu (bv h 1) i := by unfold pTake; rw [hch2]; show _ = tkB (kd (tn (nI l))) (nu (tn (nI l))); rw [tn_nI (by omega)]
            have e3 : ∀ a k, 26 ≤ a → σ3 a k = σ a k := fun a k ha => (hf3 a k (by omega) (by omega) (by omega)).trans (hf2 a k (by omega) (by omega) (by omega))
            refine v_aload_n hX rfl qX11_makePlan_72 ?_
            refine v_callSq hX hR k_X11_149 (c_takesOf (by exact hs) (by exact (hp2.2.2 l hl).2.1) (by exact (hp2.2.2 l hl).2.2.1) (by exact (hp2.2.2 l hl).2.2.2)) rfl (Nat.le_of_ble_eq_true rfl) rfl (Nat.le_of_ble_eq_true rfl) ⟨Nat.le_of_ble_eq_true rfl, Nat.le_of_ble_eq_true rfl⟩ qX11_makePlan_73 ?_
            rintro _ _ ⟨rfl, rfl⟩
            refine v_eqI (show _ = pTake TV m kd nu (bv h 1) i from htk) ?_
            refine v_callVq hX hR k_X11_388 (hs.kd 26 rfl) (c_add (by exact hs) (s := i) (by exact ((e3 26 2 (by omega)).trans z2)) (by omega) _ _ _) rfl (Nat.le_of_ble_eq_true rfl) rfl (Nat.le_of_ble_eq_true rfl) ⟨Nat.le_of_ble_eq_true rfl, Nat.le_of_ble_eq_true rfl⟩ qX11_makePlan_76 ?_
            rintro _ _ ⟨rfl, rfl⟩
            obtain ⟨σ4, e4, g4, c4, b4, y2, yc, y3, y4⟩ : ∃ σ4, stI (stI (stI (stI (stI (σ3, h.2) 27 i (nI w)) 28 i (pGain TV m kd nu (bv h 1) i)) 26 2 (nI (i + 1))) 26 3 (hpI (σ3, h.2) 26 3 + pGain TV m kd nu (bv h 1) i)) 26 4 (hpI (σ3, h.2) 26 4 + pTake TV m kd nu (bv h 1) i) = (σ4, h.2) ∧ FrP h σ4 ∧ CaOK (σ4, h.2) cnt TV ∧ bv (σ4, h.2) 4 = pbs TV m kd nu (bv h 1) (i + 1) ∧ σ4 26 2 = nI (i + 1) ∧ (∀ j, j < i + 1 → σ4 27 j = pCell TV m kd nu (bv h 1) j ∧ σ4 28 j = pGain TV m kd nu (bv h 1) j) ∧ σ4 26 3 = sumN (pGain TV m kd nu (bv h 1) ) (i + 1) ∧ σ4 26 4 = sumN (pTake TV m kd nu (bv h 1) ) (i + 1) := by
              refine ⟨_, rfl, fun a k a1 a2 a3 a4 => ?_, hca3.eq (fun a a1 a2 k _ => ?_), ?_, rfl, fun j hj => ?_, ?_, ?_⟩
              · show hpI (stI _ _ _ _) _ _ = _; rw [hpI_st, if_neg (by omega), hpI_st, if_neg (by omega), hpI_st, if_neg (by omega), hpI_st, if_neg (by omega), hpI_st, if_neg (by omega)]; exact (hf3.P a k a1 a2 a3 a4).trans ((hf2.P a k a1 a2 a3 a4).trans (hf a k a1 a2 a3 a4))
              · show hpI (stI _ _ _ _) _ _ = _; rw [hpI_st, if_neg (by omega), hpI_st, if_neg (by omega), hpI_st, if_neg (by omega), hpI_st, if_neg (by omega), hpI_st, if_neg (by omega)]
              · show bv (stI (stI (stI (stI (stI (σ3, h.2) 27 i (nI w)) 28 i (pGain TV m kd nu (bv h 1) i)) 26 2 (nI (i + 1))) 26 3 (hpI (σ3, h.2) 26 3 + pGain TV m kd nu (bv h 1) i)) 26 4 (hpI (σ3, h.2) 26 4 + pTake TV m kd nu (bv h 1) i)) 4 = _
                rw [bv_other (by omega), bv_other (by omega), bv_other (by omega), bv_other (by omega), bv_other (by omega), hb3]
                show _ = stB TV m kd nu (pbs TV m kd nu (bv h 1) i)
                unfold stB
                rw [if_neg q33, hch]
                show _ = lookB TV _ (kd (tn (nI l))) (nu (tn (nI l))) (tn (nI w))
                rw [tn_nI (by omega), tn_nI (by omega)]
              · by_cases hji : j = i
                · rw [hji]
                  refine ⟨?_, ?_⟩
                  · show hpI (stI (stI (stI (stI (stI (σ3, h.2) 27 i (nI w)) 28 i (pGain TV m kd nu (bv h 1) i)) 26 2 (nI (i + 1))) 26 3 (hpI (σ3, h.2) 26 3 + pGain TV m kd nu (bv h 1) i)) 26 4 (hpI (σ3, h.2) 26 4 + pTake TV m kd nu (bv h 1) i)) 27 i = _; rw [hpI_st, if_neg (by omega), hpI_st, if_neg (by omega), hpI_st, if_neg (by omega), hpI_st, if_neg (by omega), hpI_st, if_pos ⟨rfl, rfl⟩]; unfold pCell; rw [hch2]
                  · show hpI (stI (stI (stI (stI (stI (σ3, h.2) 27 i (nI w)) 28 i (pGain TV m kd nu (bv h 1) i)) 26 2 (nI (i + 1))) 26 3 (hpI (σ3, h.2) 26 3 + pGain TV m kd nu (bv h 1) i)) 26 4 (hpI (σ3, h.2) 26 4 + pTake TV m kd nu (bv h 1) i)) 28 i = _; rw [hpI_st, if_neg (by omega), hpI_st, if_neg (by omega), hpI_st, if_neg (by omega), hpI_st, if_pos ⟨rfl, rfl⟩]
                · have hj2 : j < i := by omega
                  refine ⟨?_, ?_⟩
                  · show hpI (stI (stI (stI (stI (stI (σ3, h.2) 27 i (nI w)) 28 i (pGain TV m kd nu (bv h 1) i)) 26 2 (nI (i + 1))) 26 3 (hpI (σ3, h.2) 26 3 + pGain TV m kd nu (bv h 1) i)) 26 4 (hpI (σ3, h.2) 26 4 + pTake TV m kd nu (bv h 1) i)) 27 j = _; rw [hpI_st, if_neg (by omega), hpI_st, if_neg (by omega), hpI_st, if_neg (by omega), hpI_st, if_neg (by omega), hpI_st, if_neg (by omega)]; exact (e3 27 j (by omega)).trans (zc j hj2).1
                  · show hpI (stI (stI (stI (stI (stI (σ3, h.2) 27 i (nI w)) 28 i (pGain TV m kd nu (bv h 1) i)) 26 2 (nI (i + 1))) 26 3 (hpI (σ3, h.2) 26 3 + pGain TV m kd nu (bv h 1) i)) 26 4 (hpI (σ3, h.2) 26 4 + pTake TV m kd nu (bv h 1) i)) 28 j = _; rw [hpI_st, if_neg (by omega), hpI_st, if_neg (by omega), hpI_st, if_neg (by omega), hpI_st, if_neg (by omega), hpI_st, if_neg (by omega)]; exact (e3 28 j (by omega)).trans (zc j hj2).2
              · show σ3 26 3 + _ = sumN _ i + _
                rw [e3 26 3 (by omega), z3]
              · show σ3 26 4 + _ = sumN _ i + _
                rw [e3 26 4 (by omega), z4]
            refine v_eqH e4 ?_
            refine v_iinc hX rfl (by first | exact ii_nI _ | exact ii_1 _) (Nat.le_of_ble_eq_true rfl) rfl (ls' := [some _, some _, some _, some _, some _]) rfl qX11_makePlan_79 ?_
            refine v_goto hX 20 qX11_makePlan_82 rfl ?_
            refine v_forget (ls' := [_, _, _, none, none]) ⟨Or.inr rfl, Or.inr rfl, Or.inr rfl, Or.inl rfl, Or.inl rfl, trivial⟩ ?_
            exact ih _ (by omega) (i + 1) σ4 rfl (by omega) g4 c4 b4 (fun j hj => by rcases Nat.lt_succ_iff_lt_or_eq.mp hj with z | rfl; exact hns j z; exact decide_eq_false q33) y2 yc y3 y4
        · exact absurd ⟨nI_pos' (by omega), nI_lt hl (by omega)⟩ hn
  have hbv0 := asB_bv hσ
  exact L20 _ 0 _ rfl (by omega) (fun a k a1 a2 a3 a4 => by show hpI (stI _ _ _ _) _ _ = _; rw [hpI_st, if_neg (by omega), hpI_st, if_neg (by omega), hpI_st, if_neg (by omega)]; exact congrFun (hσ.2.2.2 a (by omega) (by omega) (by omega)) k) (hca.P (fun a a1 a2 => funext fun k => by show hpI (stI _ _ _ _) _ _ = _; rw [hpI_st, if_neg (by omega), hpI_st, if_neg (by omega), hpI_st, if_neg (by omega)]; exact congrFun (hσ.2.2.2 a (by omega) (by omega) (by omega)) k)) (by show bv (stI (stI (stI (σ, h.2) 26 2 0) 26 3 0) 26 4 0) 4 = _; rw [bv_other (by omega), bv_other (by omega), bv_other (by omega)]; exact hbv0) (fun j hj => absurd hj (Nat.not_lt_zero _)) rfl (fun j hj => absurd hj (Nat.not_lt_zero _)) rfl rfl
end
section
/-! the helpers of the public calls: the sea, pictures, quotients, what set changes, kinds -/
def wetB (TV : TVt) (b : Nat → Nat → Int32) (q : Nat) (hr : Int32) : Int32 := seI TV (rlB b) (nI q) (b 2 q) hr
def duS (TV : TVt) (b : Nat → Nat → Int32) (hr : Int32) : Nat → Int32
  | 0 => 0
  | n + 1 => if 0 < b 1 n ∧ ¬ wetB TV b n hr = 0 then duS TV b hr n + b 1 n else duS TV b hr n
def mdS (f : Nat → Int32) (h0 : Nat) : Nat → Int32 × Int32
  | 0 => (nI h0, f h0)
  | n + 1 => if (mdS f h0 n).2 < f (h0 + n + 1) then (nI (h0 + n + 1), f (h0 + n + 1)) else mdS f h0 n
theorem RuOK.tv {h : AHp} {cnt : Nat} {TV : TVt} (_ : RuOK h cnt TV) : True := trivial
theorem FrW.P {h : AHp} {σ : Nat → Nat → Int32} (hf : FrW h σ) : FrP h σ := fun a k _ a2 a3 _ => hf a k (by omega) (by omega) (by omega)
theorem FrW.tr {h : AHp} {σ σ' : Nat → Nat → Int32} (h1 : FrW h σ) (h2 : FrW (σ, h.2) σ') : FrW h σ' := fun a k a1 a2 a3 => (h2 a k a1 a2 a3).trans (h1 a k a1 a2 a3)
theorem CaOK.W {h : AHp} {cnt : Nat} {TV : TVt} {σ : Nat → Nat → Int32} (hc : CaOK h cnt TV) (hf : FrW h σ) : CaOK (σ, h.2) cnt TV := hc.eq (fun a h1 h2 k _ => hf a k (by omega) (by omega) (by omega))
theorem FrW.bv {h : AHp} {σ : Nat → Nat → Int32} (hf : FrW h σ) : bv (σ, h.2) 1 = bv h 1 := bv_ext (fun i k ho => by
  have : i ≤ 2 := by rcases ho with ⟨e, -⟩ | ⟨e, -⟩ <;> omega
  exact hf (1 + i) k (by omega) (by omega) (by omega))
theorem qX11_isWetAt_0 : Dq cX11_isWetAt 0 (.aload_n 0) 1 1 := ⟨by decide +kernel, rfl⟩
theorem qX11_isWetAt_1 : Dq cX11_isWetAt 1 (.getfield 38) 3 4 := ⟨by decide +kernel, rfl⟩
theorem qX11_isWetAt_4 : Dq cX11_isWetAt 4 (.aload_n 0) 1 5 := ⟨by decide +kernel, rfl⟩
theorem qX11_isWetAt_5 : Dq cX11_isWetAt 5 (.getfield 10) 3 8 := ⟨by decide +kernel, rfl⟩
theorem qX11_isWetAt_8 : Dq cX11_isWetAt 8 (.getfield 174) 3 11 := ⟨by decide +kernel, rfl⟩
theorem qX11_isWetAt_11 : Dq cX11_isWetAt 11 (.iload_n 1) 1 12 := ⟨by decide +kernel, rfl⟩
theorem qX11_isWetAt_12 : Dq cX11_isWetAt 12 (.aload_n 0) 1 13 := ⟨by decide +kernel, rfl⟩
theorem qX11_isWetAt_13 : Dq cX11_isWetAt 13 (.getfield 10) 3 16 := ⟨by decide +kernel, rfl⟩
theorem qX11_isWetAt_16 : Dq cX11_isWetAt 16 (.iload_n 1) 1 17 := ⟨by decide +kernel, rfl⟩
theorem qX11_isWetAt_17 : Dq cX11_isWetAt 17 (.invokevirtual 121) 3 20 := ⟨by decide +kernel, rfl⟩
theorem qX11_isWetAt_20 : Dq cX11_isWetAt 20 (.iload_n 2) 1 21 := ⟨by decide +kernel, rfl⟩
theorem qX11_isWetAt_21 : Dq cX11_isWetAt 21 (.invokevirtual 392) 3 24 := ⟨by decide +kernel, rfl⟩
theorem qX11_isWetAt_24 : Dq cX11_isWetAt 24 (.ireturn) 1 25 := ⟨by decide +kernel, rfl⟩
set_option maxRecDepth 100000 in
set_option maxHeartbeats 4000000 in
theorem c_isWetAt {G : Glb} {h : AHp} (hs : ShC h) {cnt : Nat} {TV : Nat → Nat → (Nat → Int32) → Int32} (hru : RuOK h cnt TV) (hbe : BeOK (bv h 1) cnt) {q : Nat} (hq : q < 48) (hr : Int32) : CP G m_X11_isWetAt 5 0 0 [.ref 0, .int (nI q), .int hr] h (fun r h' => r = some (.int (bz (¬ wetB TV (bv h 1) q hr = 0))) ∧ ∃ σ, h' = (σ, h.2) ∧ FrW h σ) := by
  suffices key : ∀ P : Option Value → AHp → Prop, (∀ r h', (r = some (.int (bz (¬ wetB TV (bv h 1) q hr = 0))) ∧ ∃ σ, h' = (σ, h.2) ∧ FrW h σ) → P r h') → CP G m_X11_isWetAt 5 0 0 [.ref 0, .int (nI q), .int hr] h P from key _ (fun _ _ z => z)
  intro P hP
  refine CP.of (by decide +kernel) (Nat.le_of_ble_eq_true rfl) fun X hX hR hnm => ?_
  show V X G 3 0 0 _ 0 [some (.ref 0), some (.int (nI q)), some (.int hr)] [] h
  have hc6 := hru.2.1
  obtain ⟨hrl, hrl5⟩ := hbe.rl hc6
  rw [bv0 (by omega) (by omega)] at hrl5
  refine v_aload_n hX rfl qX11_isWetAt_0 ?_
  refine v_getR hX g_X11_38 (hs.kd 0 rfl) (hs.rf 5 rfl) qX11_isWetAt_1 ?_
  refine v_aload_n hX rfl qX11_isWetAt_4 ?_
  refine v_getR hX g_X11_10 (hs.kd 0 rfl) (hs.rf 0 rfl) qX11_isWetAt_5 ?_
  refine v_getIv hX g_X11_174 (Or.inl rfl) (hs.kd 1 rfl) hrl5 qX11_isWetAt_8 ?_
  refine v_iload_n hX rfl qX11_isWetAt_11 ?_
  refine v_aload_n hX rfl qX11_isWetAt_12 ?_
  refine v_getR hX g_X11_10 (hs.kd 0 rfl) (hs.rf 0 rfl) qX11_isWetAt_13 ?_
  refine v_iload_n hX rfl qX11_isWetAt_16 ?_
  refine v_callVq hX hR k_X11_121 (hs.kd 1 rfl) (c_treadsAt (by exact hs) (by exact (Or.inl rfl)) _) rfl (Nat.le_of_ble_eq_true rfl) rfl (Nat.le_of_ble_eq_true rfl) ⟨Nat.le_of_ble_eq_true rfl, Nat.le_of_ble_eq_true rfl⟩ qX11_isWetAt_17 ?_
  rintro _ _ ⟨rfl, rfl⟩
  refine v_iload_n hX rfl qX11_isWetAt_20 ?_
  refine v_callVq hX hR k_X11_392 (hs.kd 17 rfl) (c_isWetBy (by exact hs) (by exact hru) (rl := rlB (bv h 1)) (by exact hrl) _ _ _) rfl (Nat.le_of_ble_eq_true rfl) rfl (Nat.le_of_ble_eq_true rfl) ⟨Nat.le_of_ble_eq_true rfl, Nat.le_of_ble_eq_true rfl⟩ qX11_isWetAt_21 ?_
  rintro _ _ ⟨rfl, σ, rfl, hf⟩
  rw [trdA_n hq]
  refine v_zreturn hX (by first | exact Or.inl rfl | exact Or.inr rfl | exact bz01 _) qX11_isWetAt_24 (hP _ _ ?_)
  exact ⟨rfl, σ, rfl, hf⟩
theorem qX11_oddsUnderWater_0 : Dq cX11_oddsUnderWater 0 (.iconst 0) 1 1 := ⟨by decide +kernel, rfl⟩
theorem qX11_oddsUnderWater_1 : Dq cX11_oddsUnderWater 1 (.istore_n 2) 1 2 := ⟨by decide +kernel, rfl⟩
theorem qX11_oddsUnderWater_2 : Dq cX11_oddsUnderWater 2 (.iconst 0) 1 3 := ⟨by decide +kernel, rfl⟩
theorem qX11_oddsUnderWater_3 : Dq cX11_oddsUnderWater 3 (.istore_n 3) 1 4 := ⟨by decide +kernel, rfl⟩
theorem qX11_oddsUnderWater_4 : Dq cX11_oddsUnderWater 4 (.iload_n 3) 1 5 := ⟨by decide +kernel, rfl⟩
theorem qX11_oddsUnderWater_5 : Dq cX11_oddsUnderWater 5 (.bipush 48) 2 7 := ⟨by decide +kernel, rfl⟩
theorem qX11_oddsUnderWater_7 : Dq cX11_oddsUnderWater 7 (.if_icmp .ge 40) 3 10 := ⟨by decide +kernel, rfl⟩
theorem qX11_oddsUnderWater_10 : Dq cX11_oddsUnderWater 10 (.aload_n 0) 1 11 := ⟨by decide +kernel, rfl⟩
theorem qX11_oddsUnderWater_11 : Dq cX11_oddsUnderWater 11 (.getfield 10) 3 14 := ⟨by decide +kernel, rfl⟩
theorem qX11_oddsUnderWater_14 : Dq cX11_oddsUnderWater 14 (.iload_n 3) 1 15 := ⟨by decide +kernel, rfl⟩
theorem qX11_oddsUnderWater_15 : Dq cX11_oddsUnderWater 15 (.invokevirtual 118) 3 18 := ⟨by decide +kernel, rfl⟩
theorem qX11_oddsUnderWater_18 : Dq cX11_oddsUnderWater 18 (.ifCond .le 23) 3 21 := ⟨by decide +kernel, rfl⟩
theorem qX11_oddsUnderWater_21 : Dq cX11_oddsUnderWater 21 (.aload_n 0) 1 22 := ⟨by decide +kernel, rfl⟩
theorem qX11_oddsUnderWater_22 : Dq cX11_oddsUnderWater 22 (.iload_n 3) 1 23 := ⟨by decide +kernel, rfl⟩
theorem qX11_oddsUnderWater_23 : Dq cX11_oddsUnderWater 23 (.iload_n 1) 1 24 := ⟨by decide +kernel, rfl⟩
theorem qX11_oddsUnderWater_24 : Dq cX11_oddsUnderWater 24 (.invokevirtual 224) 3 27 := ⟨by decide +kernel, rfl⟩
theorem qX11_oddsUnderWater_27 : Dq cX11_oddsUnderWater 27 (.ifCond .eq 14) 3 30 := ⟨by decide +kernel, rfl⟩
theorem qX11_oddsUnderWater_30 : Dq cX11_oddsUnderWater 30 (.iload_n 2) 1 31 := ⟨by decide +kernel, rfl⟩
theorem qX11_oddsUnderWater_31 : Dq cX11_oddsUnderWater 31 (.aload_n 0) 1 32 := ⟨by decide +kernel, rfl⟩
theorem qX11_oddsUnderWater_32 : Dq cX11_oddsUnderWater 32 (.getfield 10) 3 35 := ⟨by decide +kernel, rfl⟩
theorem qX11_oddsUnderWater_35 : Dq cX11_oddsUnderWater 35 (.iload_n 3) 1 36 := ⟨by decide +kernel, rfl⟩
theorem qX11_oddsUnderWater_36 : Dq cX11_oddsUnderWater 36 (.invokevirtual 118) 3 39 := ⟨by decide +kernel, rfl⟩
theorem qX11_oddsUnderWater_39 : Dq cX11_oddsUnderWater 39 (.iadd) 1 40 := ⟨by decide +kernel, rfl⟩
theorem qX11_oddsUnderWater_40 : Dq cX11_oddsUnderWater 40 (.istore_n 2) 1 41 := ⟨by decide +kernel, rfl⟩
theorem qX11_oddsUnderWater_41 : Dq cX11_oddsUnderWater 41 (.iinc 3 1) 3 44 := ⟨by decide +kernel, rfl⟩
theorem qX11_oddsUnderWater_44 : Dq cX11_oddsUnderWater 44 (.goto (-40)) 3 47 := ⟨by decide +kernel, rfl⟩
theorem qX11_oddsUnderWater_47 : Dq cX11_oddsUnderWater 47 (.iload_n 2) 1 48 := ⟨by decide +kernel, rfl⟩
theorem qX11_oddsUnderWater_48 : Dq cX11_oddsUnderWater 48 (.ireturn) 1 49 := ⟨by decide +kernel, rfl⟩
set_option maxRecDepth 100000 in
set_option maxHeartbeats 4000000 in
theorem c_oddsUnderWater {G : Glb} {h : AHp} (hs : ShC h) {cnt : Nat} {TV : Nat → Nat → (Nat → Int32) → Int32} (hru : RuOK h cnt TV) (hbe : BeOK (bv h 1) cnt) (hr : Int32) : CP G m_X11_oddsUnderWater 6 0 0 [.ref 0, .int hr] h (fun r h' => r = some (.int (duS TV (bv h 1) hr 48)) ∧ ∃ σ, h' = (σ, h.2) ∧ FrW h σ) := by
  suffices key : ∀ P : Option Value → AHp → Prop, (∀ r h', (r = some (.int (duS TV (bv h 1) hr 48)) ∧ ∃ σ, h' = (σ, h.2) ∧ FrW h σ) → P r h') → CP G m_X11_oddsUnderWater 6 0 0 [.ref 0, .int hr] h P from key _ (fun _ _ z => z)
  intro P hP
  refine CP.of (by decide +kernel) (Nat.le_of_ble_eq_true rfl) fun X hX hR hnm => ?_
  show V X G 4 0 0 _ 0 [some (.ref 0), some (.int hr), none, none] [] h
  refine v_iconst hX li_0 qX11_oddsUnderWater_0 ?_
  refine v_istore_n hX (Nat.le_of_ble_eq_true rfl) rfl (ls' := [some _, some _, some _, none]) rfl qX11_oddsUnderWater_1 ?_
  refine v_iconst hX li_0 qX11_oddsUnderWater_2 ?_
  refine v_istore_n hX (Nat.le_of_ble_eq_true rfl) rfl (ls' := [some _, some _, some _, some _]) rfl qX11_oddsUnderWater_3 ?_
  have L4 : ∀ (mz : Nat) (q : Nat) (σ : Nat → Nat → Int32), 48 - q = mz → (q ≤ 48) → (FrW h σ) → V X G 4 0 0 (QM X G P 0 0) 4 [some (.ref 0), some (.int hr), some (.int (duS TV (bv h 1) hr q)), some (.int (nI q))] [] (σ, h.2) := by
    intro mz
    induction mz using Nat.strongRecOn with
    | _ mz ih =>
    intro q σ hm hi hf
    have hbv : bv (σ, h.2) 1 = bv h 1 := hf.bv
    have hru2 : RuOK (σ, h.2) cnt TV := hru.frW hf
    have hbe2 : BeOK (bv (σ, h.2) 1) cnt := by rw [hbv]; exact hbe
    refine v_iload_n hX rfl qX11_oddsUnderWater_4 ?_
    refine v_bipush hX lb_48 qX11_oddsUnderWater_5 ?_
    refine v_icmp_geS hX 47 qX11_oddsUnderWater_7 rfl (fun q7 => ?_) (fun q7 => ?_)
    · have e1 := geN (N := 48) rfl hi q7; subst e1
      refine v_iload_n hX rfl qX11_oddsUnderWater_47 ?_
      refine v_ireturn hX qX11_oddsUnderWater_48 (hP _ _ ?_)
      exact ⟨rfl, σ, rfl, hf⟩
    · have hl := ltN (N := 48) rfl hi q7
      refine v_aload_n hX rfl qX11_oddsUnderWater_10 ?_
      refine v_getR hX g_X11_10 (hs.kd 0 rfl) (hs.rf 0 rfl) qX11_oddsUnderWater_11 ?_
      refine v_iload_n hX rfl qX11_oddsUnderWater_14 ?_
      refine v_callVq hX hR k_X11_118 (hs.kd 1 rfl) (c_oddsAt (by exact hs) (by exact (Or.inl rfl)) _) rfl (Nat.le_of_ble_eq_true rfl) rfl (Nat.le_of_ble_eq_true rfl) ⟨Nat.le_of_ble_eq_true rfl, Nat.le_of_ble_eq_true rfl⟩ qX11_oddsUnderWater_15 ?_
      rintro _ _ ⟨rfl, rfl⟩
      refine v_eqI (show _ = bv h 1 1 q by rw [oddsA_n hl, hbv]) ?_
      refine v_if_leS hX 41 qX11_oddsUnderWater_18 rfl (fun q18 => ?_) (fun q18 => ?_)
      · skip
        refine v_iinc hX rfl (by first | exact ii_nI _ | exact ii_1 _) (Nat.le_of_ble_eq_true rfl) rfl (ls' := [some _, some _, some _, some _]) rfl qX11_oddsUnderWater_41 ?_
        refine v_goto hX 4 qX11_oddsUnderWater_44 rfl ?_
        first | (have e1 : duS TV (bv h 1) hr (q + 1) = duS TV (bv h 1) hr q + bv h 1 1 q := if_pos ⟨q18, q27⟩; have z := ih _ (by omega) (q + 1) σ2 rfl (by omega) (hf.tr hf2); rw [e1] at z; exact z) | (have e1 : duS TV (bv h 1) hr (q + 1) = duS TV (bv h 1) hr q := if_neg (fun z => by first | exact q27 z.2 | exact absurd z.1 (Int32.not_lt.mpr q18)); first | (have z := ih _ (by omega) (q + 1) σ2 rfl (by omega) (hf.tr hf2); rw [e1] at z; exact z) | (have z := ih _ (by omega) (q + 1) σ rfl (by omega) hf; rw [e1] at z; exact z))
      · skip
        refine v_aload_n hX rfl qX11_oddsUnderWater_21 ?_
        refine v_iload_n hX rfl qX11_oddsUnderWater_22 ?_
        refine v_iload_n hX rfl qX11_oddsUnderWater_23 ?_
        refine v_callVq hX hR k_X11_224 (hs.kd 0 rfl) (c_isWetAt (by exact hs) (by exact hru2) (by exact hbe2) (by exact hl) _) rfl (Nat.le_of_ble_eq_true rfl) rfl (Nat.le_of_ble_eq_true rfl) ⟨Nat.le_of_ble_eq_true rfl, Nat.le_of_ble_eq_true rfl⟩ qX11_oddsUnderWater_24 ?_
        rintro _ _ ⟨rfl, σ2, rfl, hf2⟩
        rw [hbv]
        first | refine v_if_eqB hX 41 qX11_oddsUnderWater_27 rfl (fun q27 => ?_) (fun q27 => ?_) | refine v_if_eq hX 41 qX11_oddsUnderWater_27 rfl (fun q27 => ?_) (fun q27 => ?_)
        · skip
          refine v_iinc hX rfl (by first | exact ii_nI _ | exact ii_1 _) (Nat.le_of_ble_eq_true rfl) rfl (ls' := [some _, some _, some _, some _]) rfl qX11_oddsUnderWater_41 ?_
          refine v_goto hX 4 qX11_oddsUnderWater_44 rfl ?_
          first | (have e1 : duS TV (bv h 1) hr (q + 1) = duS TV (bv h 1) hr q + bv h 1 1 q := if_pos ⟨q18, q27⟩; have z := ih _ (by omega) (q + 1) σ2 rfl (by omega) (hf.tr hf2); rw [e1] at z; exact z) | (have e1 : duS TV (bv h 1) hr (q + 1) = duS TV (bv h 1) hr q := if_neg (fun z => by first | exact q27 z.2 | exact absurd z.1 (Int32.not_lt.mpr q18)); first | (have z := ih _ (by omega) (q + 1) σ2 rfl (by omega) (hf.tr hf2); rw [e1] at z; exact z) | (have z := ih _ (by omega) (q + 1) σ rfl (by omega) hf; rw [e1] at z; exact z))
        · skip
          refine v_iload_n hX rfl qX11_oddsUnderWater_30 ?_
          refine v_aload_n hX rfl qX11_oddsUnderWater_31 ?_
          refine v_getR hX g_X11_10 (hs.kd 0 rfl) (hs.rf 0 rfl) qX11_oddsUnderWater_32 ?_
          refine v_iload_n hX rfl qX11_oddsUnderWater_35 ?_
          refine v_callVq hX hR k_X11_118 (hs.kd 1 rfl) (c_oddsAt (by exact hs) (by exact (Or.inl rfl)) _) rfl (Nat.le_of_ble_eq_true rfl) rfl (Nat.le_of_ble_eq_true rfl) ⟨Nat.le_of_ble_eq_true rfl, Nat.le_of_ble_eq_true rfl⟩ qX11_oddsUnderWater_36 ?_
          rintro _ _ ⟨rfl, rfl⟩
          refine v_eqI (show _ = bv h 1 1 q by rw [oddsA_n hl, hf2.bv, hbv]) ?_
          refine v_iadd hX qX11_oddsUnderWater_39 ?_
          refine v_istore_n hX (Nat.le_of_ble_eq_true rfl) rfl (ls' := [some _, some _, some _, some _]) rfl qX11_oddsUnderWater_40 ?_
          refine v_iinc hX rfl (by first | exact ii_nI _ | exact ii_1 _) (Nat.le_of_ble_eq_true rfl) rfl (ls' := [some _, some _, some _, some _]) rfl qX11_oddsUnderWater_41 ?_
          refine v_goto hX 4 qX11_oddsUnderWater_44 rfl ?_
          first | (have e1 : duS TV (bv h 1) hr (q + 1) = duS TV (bv h 1) hr q + bv h 1 1 q := if_pos ⟨q18, q27⟩; have z := ih _ (by omega) (q + 1) σ2 rfl (by omega) (hf.tr hf2); rw [e1] at z; exact z) | (have e1 : duS TV (bv h 1) hr (q + 1) = duS TV (bv h 1) hr q := if_neg (fun z => by first | exact q27 z.2 | exact absurd z.1 (Int32.not_lt.mpr q18)); first | (have z := ih _ (by omega) (q + 1) σ2 rfl (by omega) (hf.tr hf2); rw [e1] at z; exact z) | (have z := ih _ (by omega) (q + 1) σ rfl (by omega) hf; rw [e1] at z; exact z))
  exact L4 _ 0 h.1 rfl (by omega) (fun a k _ _ _ => rfl)
theorem qX11_hourOfMostDrowned_0 : Dq cX11_hourOfMostDrowned 0 (.aload_n 0) 1 1 := ⟨by decide +kernel, rfl⟩
theorem qX11_hourOfMostDrowned_1 : Dq cX11_hourOfMostDrowned 1 (.getfield 10) 3 4 := ⟨by decide +kernel, rfl⟩
theorem qX11_hourOfMostDrowned_4 : Dq cX11_hourOfMostDrowned 4 (.getfield 221) 3 7 := ⟨by decide +kernel, rfl⟩
theorem qX11_hourOfMostDrowned_7 : Dq cX11_hourOfMostDrowned 7 (.istore_n 1) 1 8 := ⟨by decide +kernel, rfl⟩
theorem qX11_hourOfMostDrowned_8 : Dq cX11_hourOfMostDrowned 8 (.aload_n 0) 1 9 := ⟨by decide +kernel, rfl⟩
theorem qX11_hourOfMostDrowned_9 : Dq cX11_hourOfMostDrowned 9 (.aload_n 0) 1 10 := ⟨by decide +kernel, rfl⟩
theorem qX11_hourOfMostDrowned_10 : Dq cX11_hourOfMostDrowned 10 (.getfield 10) 3 13 := ⟨by decide +kernel, rfl⟩
theorem qX11_hourOfMostDrowned_13 : Dq cX11_hourOfMostDrowned 13 (.getfield 221) 3 16 := ⟨by decide +kernel, rfl⟩
theorem qX11_hourOfMostDrowned_16 : Dq cX11_hourOfMostDrowned 16 (.invokevirtual 228) 3 19 := ⟨by decide +kernel, rfl⟩
theorem qX11_hourOfMostDrowned_19 : Dq cX11_hourOfMostDrowned 19 (.istore_n 2) 1 20 := ⟨by decide +kernel, rfl⟩
theorem qX11_hourOfMostDrowned_20 : Dq cX11_hourOfMostDrowned 20 (.aload_n 0) 1 21 := ⟨by decide +kernel, rfl⟩
theorem qX11_hourOfMostDrowned_21 : Dq cX11_hourOfMostDrowned 21 (.getfield 10) 3 24 := ⟨by decide +kernel, rfl⟩
theorem qX11_hourOfMostDrowned_24 : Dq cX11_hourOfMostDrowned 24 (.getfield 221) 3 27 := ⟨by decide +kernel, rfl⟩
theorem qX11_hourOfMostDrowned_27 : Dq cX11_hourOfMostDrowned 27 (.iconst 1) 1 28 := ⟨by decide +kernel, rfl⟩
theorem qX11_hourOfMostDrowned_28 : Dq cX11_hourOfMostDrowned 28 (.iadd) 1 29 := ⟨by decide +kernel, rfl⟩
theorem qX11_hourOfMostDrowned_29 : Dq cX11_hourOfMostDrowned 29 (.istore_n 3) 1 30 := ⟨by decide +kernel, rfl⟩
theorem qX11_hourOfMostDrowned_30 : Dq cX11_hourOfMostDrowned 30 (.iload_n 3) 1 31 := ⟨by decide +kernel, rfl⟩
theorem qX11_hourOfMostDrowned_31 : Dq cX11_hourOfMostDrowned 31 (.bipush 24) 2 33 := ⟨by decide +kernel, rfl⟩
theorem qX11_hourOfMostDrowned_33 : Dq cX11_hourOfMostDrowned 33 (.if_icmp .ge 27) 3 36 := ⟨by decide +kernel, rfl⟩
theorem qX11_hourOfMostDrowned_36 : Dq cX11_hourOfMostDrowned 36 (.aload_n 0) 1 37 := ⟨by decide +kernel, rfl⟩
theorem qX11_hourOfMostDrowned_37 : Dq cX11_hourOfMostDrowned 37 (.iload_n 3) 1 38 := ⟨by decide +kernel, rfl⟩
theorem qX11_hourOfMostDrowned_38 : Dq cX11_hourOfMostDrowned 38 (.invokevirtual 228) 3 41 := ⟨by decide +kernel, rfl⟩
theorem qX11_hourOfMostDrowned_41 : Dq cX11_hourOfMostDrowned 41 (.istore 4) 2 43 := ⟨by decide +kernel, rfl⟩
theorem qX11_hourOfMostDrowned_43 : Dq cX11_hourOfMostDrowned 43 (.iload 4) 2 45 := ⟨by decide +kernel, rfl⟩
theorem qX11_hourOfMostDrowned_45 : Dq cX11_hourOfMostDrowned 45 (.iload_n 2) 1 46 := ⟨by decide +kernel, rfl⟩
theorem qX11_hourOfMostDrowned_46 : Dq cX11_hourOfMostDrowned 46 (.if_icmp .le 8) 3 49 := ⟨by decide +kernel, rfl⟩
theorem qX11_hourOfMostDrowned_49 : Dq cX11_hourOfMostDrowned 49 (.iload_n 3) 1 50 := ⟨by decide +kernel, rfl⟩
theorem qX11_hourOfMostDrowned_50 : Dq cX11_hourOfMostDrowned 50 (.istore_n 1) 1 51 := ⟨by decide +kernel, rfl⟩
theorem qX11_hourOfMostDrowned_51 : Dq cX11_hourOfMostDrowned 51 (.iload 4) 2 53 := ⟨by decide +kernel, rfl⟩
theorem qX11_hourOfMostDrowned_53 : Dq cX11_hourOfMostDrowned 53 (.istore_n 2) 1 54 := ⟨by decide +kernel, rfl⟩
theorem qX11_hourOfMostDrowned_54 : Dq cX11_hourOfMostDrowned 54 (.iinc 3 1) 3 57 := ⟨by decide +kernel, rfl⟩
theorem qX11_hourOfMostDrowned_57 : Dq cX11_hourOfMostDrowned 57 (.goto (-27)) 3 60 := ⟨by decide +kernel, rfl⟩
theorem qX11_hourOfMostDrowned_60 : Dq cX11_hourOfMostDrowned 60 (.iload_n 1) 1 61 := ⟨by decide +kernel, rfl⟩
theorem qX11_hourOfMostDrowned_61 : Dq cX11_hourOfMostDrowned 61 (.ireturn) 1 62 := ⟨by decide +kernel, rfl⟩
set_option maxRecDepth 100000 in
set_option maxHeartbeats 4000000 in
theorem c_hourOfMostDrowned {G : Glb} {h : AHp} (hs : ShC h) {cnt : Nat} {TV : Nat → Nat → (Nat → Int32) → Int32} (hru : RuOK h cnt TV) (hbe : BeOK (bv h 1) cnt)  : CP G m_X11_hourOfMostDrowned 7 0 0 [.ref 0] h (fun r h' => r = some (.int (mdS (fun z => duS TV (bv h 1) (nI z) 48) (tn (bv h 1 0 3)) (23 - tn (bv h 1 0 3))).1) ∧ ∃ σ, h' = (σ, h.2) ∧ FrW h σ) := by
  suffices key : ∀ P : Option Value → AHp → Prop, (∀ r h', (r = some (.int (mdS (fun z => duS TV (bv h 1) (nI z) 48) (tn (bv h 1 0 3)) (23 - tn (bv h 1 0 3))).1) ∧ ∃ σ, h' = (σ, h.2) ∧ FrW h σ) → P r h') → CP G m_X11_hourOfMostDrowned 7 0 0 [.ref 0] h P from key _ (fun _ _ z => z)
  intro P hP
  refine CP.of (by decide +kernel) (Nat.le_of_ble_eq_true rfl) fun X hX hR hnm => ?_
  show V X G 5 0 0 _ 0 [some (.ref 0), none, none, none, none] [] h
  obtain ⟨h0, hh0, eh0⟩ := hbe.2.2.2.1.ex (by omega)
  have eh1 : hpI h 1 3 = nI h0 := (bv0 (by omega) (by omega)).symm.trans eh0
  rw [eh0, tn_nI (by omega)] at hP
  refine v_aload_n hX rfl qX11_hourOfMostDrowned_0 ?_
  refine v_getR hX g_X11_10 (hs.kd 0 rfl) (hs.rf 0 rfl) qX11_hourOfMostDrowned_1 ?_
  refine v_getIv hX g_X11_221 (Or.inl rfl) (hs.kd 1 rfl) eh1 qX11_hourOfMostDrowned_4 ?_
  refine v_istore_n hX (Nat.le_of_ble_eq_true rfl) rfl (ls' := [some _, some _, none, none, none]) rfl qX11_hourOfMostDrowned_7 ?_
  refine v_aload_n hX rfl qX11_hourOfMostDrowned_8 ?_
  refine v_aload_n hX rfl qX11_hourOfMostDrowned_9 ?_
  refine v_getR hX g_X11_10 (hs.kd 0 rfl) (hs.rf 0 rfl) qX11_hourOfMostDrowned_10 ?_
  refine v_getIv hX g_X11_221 (Or.inl rfl) (hs.kd 1 rfl) eh1 qX11_hourOfMostDrowned_13 ?_
  refine v_callVq hX hR k_X11_228 (hs.kd 0 rfl) (c_oddsUnderWater (by exact hs) (by exact hru) (by exact hbe) _) rfl (Nat.le_of_ble_eq_true rfl) rfl (Nat.le_of_ble_eq_true rfl) ⟨Nat.le_of_ble_eq_true rfl, Nat.le_of_ble_eq_true rfl⟩ qX11_hourOfMostDrowned_16 ?_
  rintro _ _ ⟨rfl, σ0, rfl, hf0⟩
  refine v_istore_n hX (Nat.le_of_ble_eq_true rfl) rfl (ls' := [some _, some _, some _, none, none]) rfl qX11_hourOfMostDrowned_19 ?_
  refine v_aload_n hX rfl qX11_hourOfMostDrowned_20 ?_
  refine v_getR hX g_X11_10 (hs.kd 0 rfl) (hs.rf 0 rfl) qX11_hourOfMostDrowned_21 ?_
  refine v_getIv hX g_X11_221 (Or.inl rfl) (hs.kd 1 rfl) ((hf0 1 3 (by omega) (by omega) (by omega)).trans eh1) qX11_hourOfMostDrowned_24 ?_
  refine v_iconst hX li_1 qX11_hourOfMostDrowned_27 ?_
  refine v_iadd hX qX11_hourOfMostDrowned_28 ?_
  refine v_eqI (nI_1 h0) ?_
  refine v_istore_n hX (Nat.le_of_ble_eq_true rfl) rfl (ls' := [some _, some _, some _, some _, none]) rfl qX11_hourOfMostDrowned_29 ?_
  have L30 : ∀ (mz : Nat) (j : Nat) (σ : Nat → Nat → Int32), 23 - h0 - j = mz → (j ≤ 23 - h0) → (FrW h σ) → V X G 5 0 0 (QM X G P 0 0) 30 [some (.ref 0), some (.int (mdS (fun z => duS TV (bv h 1) (nI z) 48) h0 j).1), some (.int (mdS (fun z => duS TV (bv h 1) (nI z) 48) h0 j).2), some (.int (nI (h0 + j + 1))), none] [] (σ, h.2) := by
    intro mz
    induction mz using Nat.strongRecOn with
    | _ mz ih =>
    intro j σ hm hi hf
    have hbv : bv (σ, h.2) 1 = bv h 1 := hf.bv
    have hru2 : RuOK (σ, h.2) cnt TV := hru.frW hf
    have hbe2 : BeOK (bv (σ, h.2) 1) cnt := by rw [hbv]; exact hbe
    refine v_iload_n hX rfl qX11_hourOfMostDrowned_30 ?_
    refine v_bipush hX lb_24 qX11_hourOfMostDrowned_31 ?_
    refine v_icmp_geS hX 60 qX11_hourOfMostDrowned_33 rfl (fun q33 => ?_) (fun q33 => ?_)
    · have e1 : j = 23 - h0 := by have := nI_le' (i := 24) (by omega) (by omega) q33; omega
      subst e1
      refine v_iload_n hX rfl qX11_hourOfMostDrowned_60 ?_
      refine v_ireturn hX qX11_hourOfMostDrowned_61 (hP _ _ ?_)
      exact ⟨rfl, σ, rfl, hf⟩
    · have hl := nI_lt' (s := 24) (by omega) (by omega) q33
      refine v_aload_n hX rfl qX11_hourOfMostDrowned_36 ?_
      refine v_iload_n hX rfl qX11_hourOfMostDrowned_37 ?_
      refine v_callVq hX hR k_X11_228 (hs.kd 0 rfl) (c_oddsUnderWater (by exact hs) (by exact hru2) (by exact hbe2) _) rfl (Nat.le_of_ble_eq_true rfl) rfl (Nat.le_of_ble_eq_true rfl) ⟨Nat.le_of_ble_eq_true rfl, Nat.le_of_ble_eq_true rfl⟩ qX11_hourOfMostDrowned_38 ?_
      rintro _ _ ⟨rfl, σ2, rfl, hf2⟩
      rw [hbv]
      refine v_istore hX (Nat.le_of_ble_eq_true rfl) rfl (ls' := [some _, some _, some _, some _, some _]) rfl qX11_hourOfMostDrowned_41 ?_
      refine v_iload hX rfl qX11_hourOfMostDrowned_43 ?_
      refine v_iload_n hX rfl qX11_hourOfMostDrowned_45 ?_
      refine v_icmp_leS hX 54 qX11_hourOfMostDrowned_46 rfl (fun q46 => ?_) (fun q46 => ?_)
      · skip
        refine v_iinc hX rfl (ii_nI (h0 + j + 1)) (Nat.le_of_ble_eq_true rfl) rfl (ls' := [some _, some _, some _, some _, some _]) rfl qX11_hourOfMostDrowned_54 ?_
        refine v_goto hX 30 qX11_hourOfMostDrowned_57 rfl ?_
        refine v_forget (ls' := [_, _, _, _, none]) ⟨Or.inr rfl, Or.inr rfl, Or.inr rfl, Or.inr rfl, Or.inl rfl, trivial⟩ ?_
        first | (have e1 : mdS (fun z => duS TV (bv h 1) (nI z) 48) h0 (j + 1) = (nI (h0 + j + 1), (fun z => duS TV (bv h 1) (nI z) 48) (h0 + j + 1)) := if_pos q46; have z := ih _ (by omega) (j + 1) σ2 rfl (by omega) (hf.tr hf2); rw [e1] at z; exact z) | (have e1 : mdS (fun z => duS TV (bv h 1) (nI z) 48) h0 (j + 1) = mdS (fun z => duS TV (bv h 1) (nI z) 48) h0 j := if_neg (Int32.not_lt.mpr q46); have z := ih _ (by omega) (j + 1) σ2 rfl (by omega) (hf.tr hf2); rw [e1] at z; exact z)
      · skip
        refine v_iload_n hX rfl qX11_hourOfMostDrowned_49 ?_
        refine v_istore_n hX (Nat.le_of_ble_eq_true rfl) rfl (ls' := [some _, some _, some _, some _, some _]) rfl qX11_hourOfMostDrowned_50 ?_
        refine v_iload hX rfl qX11_hourOfMostDrowned_51 ?_
        refine v_istore_n hX (Nat.le_of_ble_eq_true rfl) rfl (ls' := [some _, some _, some _, some _, some _]) rfl qX11_hourOfMostDrowned_53 ?_
        refine v_iinc hX rfl (ii_nI (h0 + j + 1)) (Nat.le_of_ble_eq_true rfl) rfl (ls' := [some _, some _, some _, some _, some _]) rfl qX11_hourOfMostDrowned_54 ?_
        refine v_goto hX 30 qX11_hourOfMostDrowned_57 rfl ?_
        refine v_forget (ls' := [_, _, _, _, none]) ⟨Or.inr rfl, Or.inr rfl, Or.inr rfl, Or.inr rfl, Or.inl rfl, trivial⟩ ?_
        first | (have e1 : mdS (fun z => duS TV (bv h 1) (nI z) 48) h0 (j + 1) = (nI (h0 + j + 1), (fun z => duS TV (bv h 1) (nI z) 48) (h0 + j + 1)) := if_pos q46; have z := ih _ (by omega) (j + 1) σ2 rfl (by omega) (hf.tr hf2); rw [e1] at z; exact z) | (have e1 : mdS (fun z => duS TV (bv h 1) (nI z) 48) h0 (j + 1) = mdS (fun z => duS TV (bv h 1) (nI z) 48) h0 j := if_neg (Int32.not_lt.mpr q46); have z := ih _ (by omega) (j + 1) σ2 rfl (by omega) (hf.tr hf2); rw [e1] at z; exact z)
  exact L30 _ 0 σ0 rfl (by omega) hf0
theorem qX11_tellsCellsAlone_0 : Dq cX11_tellsCellsAlone 0 (.iconst 0) 1 1 := ⟨by decide +kernel, rfl⟩
theorem qX11_tellsCellsAlone_1 : Dq cX11_tellsCellsAlone 1 (.istore_n 1) 1 2 := ⟨by decide +kernel, rfl⟩
theorem qX11_tellsCellsAlone_2 : Dq cX11_tellsCellsAlone 2 (.iload_n 1) 1 3 := ⟨by decide +kernel, rfl⟩
theorem qX11_tellsCellsAlone_3 : Dq cX11_tellsCellsAlone 3 (.aload_n 0) 1 4 := ⟨by decide +kernel, rfl⟩
theorem qX11_tellsCellsAlone_4 : Dq cX11_tellsCellsAlone 4 (.getfield 245) 3 7 := ⟨by decide +kernel, rfl⟩
theorem qX11_tellsCellsAlone_7 : Dq cX11_tellsCellsAlone 7 (.if_icmp .ge 22) 3 10 := ⟨by decide +kernel, rfl⟩
theorem qX11_tellsCellsAlone_10 : Dq cX11_tellsCellsAlone 10 (.aload_n 0) 1 11 := ⟨by decide +kernel, rfl⟩
theorem qX11_tellsCellsAlone_11 : Dq cX11_tellsCellsAlone 11 (.iload_n 1) 1 12 := ⟨by decide +kernel, rfl⟩
theorem qX11_tellsCellsAlone_12 : Dq cX11_tellsCellsAlone 12 (.invokevirtual 246) 3 15 := ⟨by decide +kernel, rfl⟩
theorem qX11_tellsCellsAlone_15 : Dq cX11_tellsCellsAlone 15 (.invokestatic 107) 3 18 := ⟨by decide +kernel, rfl⟩
theorem qX11_tellsCellsAlone_18 : Dq cX11_tellsCellsAlone 18 (.ifCond .ne 5) 3 21 := ⟨by decide +kernel, rfl⟩
theorem qX11_tellsCellsAlone_21 : Dq cX11_tellsCellsAlone 21 (.iconst 0) 1 22 := ⟨by decide +kernel, rfl⟩
theorem qX11_tellsCellsAlone_22 : Dq cX11_tellsCellsAlone 22 (.ireturn) 1 23 := ⟨by decide +kernel, rfl⟩
theorem qX11_tellsCellsAlone_23 : Dq cX11_tellsCellsAlone 23 (.iinc 1 1) 3 26 := ⟨by decide +kernel, rfl⟩
theorem qX11_tellsCellsAlone_26 : Dq cX11_tellsCellsAlone 26 (.goto (-24)) 3 29 := ⟨by decide +kernel, rfl⟩
theorem qX11_tellsCellsAlone_29 : Dq cX11_tellsCellsAlone 29 (.iconst 1) 1 30 := ⟨by decide +kernel, rfl⟩
theorem qX11_tellsCellsAlone_30 : Dq cX11_tellsCellsAlone 30 (.ireturn) 1 31 := ⟨by decide +kernel, rfl⟩
set_option maxRecDepth 100000 in
set_option maxHeartbeats 4000000 in
theorem c_tellsCellsAlone {G : Glb} {h : AHp} (hs : ShC h) {S : Nat} (hS : isS S) {s : Nat} (hz : hpI h S 2 = nI s) (hs40 : s ≤ 40)  : CP G m_X11_tellsCellsAlone 4 0 0 [.ref S] h (fun r h' => r = some (.int (bz (anyB (fun i => !decide (isC (hpI h (S + 1) i))) s = false))) ∧ h = h') := by
  suffices key : ∀ P : Option Value → AHp → Prop, (∀ r h', (r = some (.int (bz (anyB (fun i => !decide (isC (hpI h (S + 1) i))) s = false))) ∧ h = h') → P r h') → CP G m_X11_tellsCellsAlone 4 0 0 [.ref S] h P from key _ (fun _ _ z => z)
  intro P hP
  refine CP.of (by decide +kernel) (Nat.le_of_ble_eq_true rfl) fun X hX hR hnm => ?_
  show V X G 2 0 0 _ 0 [some (.ref S), none] [] h
  refine v_iconst hX li_0 qX11_tellsCellsAlone_0 ?_
  refine v_istore_n hX (Nat.le_of_ble_eq_true rfl) rfl (ls' := [some _, some _]) rfl qX11_tellsCellsAlone_1 ?_
  have L2 : ∀ (mz : Nat) (i : Nat), s - i = mz → (i ≤ s) → (∀ j, j < i → isC (hpI h (S + 1) j)) → V X G 2 0 0 (QM X G P 0 0) 2 [some (.ref S), some (.int (nI i))] [] h := by
    intro mz
    induction mz using Nat.strongRecOn with
    | _ mz ih =>
    intro i hm hi hq
    refine v_iload_n hX rfl qX11_tellsCellsAlone_2 ?_
    refine v_aload_n hX rfl qX11_tellsCellsAlone_3 ?_
    refine v_getIv hX g_X11_245 (Or.inl rfl) (hs.sk hS) hz qX11_tellsCellsAlone_4 ?_
    refine v_icmp_geS hX 29 qX11_tellsCellsAlone_7 rfl (fun q7 => ?_) (fun q7 => ?_)
    · have e : i = s := Nat.le_antisymm hi (nI_le' (by omega) (by omega) q7); subst e
      refine v_iconst hX li_1 qX11_tellsCellsAlone_29 ?_
      refine v_zreturn hX (by first | exact Or.inl rfl | exact Or.inr rfl | exact bz01 _) qX11_tellsCellsAlone_30 (hP _ _ ?_)
      exact ⟨rz (bz_t (anyB_f (fun k hk => by simp [hq k hk]))), rfl⟩
    · have hl := nI_lt' (by omega) (by omega) q7
      refine v_aload_n hX rfl qX11_tellsCellsAlone_10 ?_
      refine v_iload_n hX rfl qX11_tellsCellsAlone_11 ?_
      refine v_callVq hX hR k_X11_246 (hs.sk hS) (c_itemAt (by exact hs) (by exact hS) (by exact hz) (by exact hs40) _) rfl (Nat.le_of_ble_eq_true rfl) rfl (Nat.le_of_ble_eq_true rfl) ⟨Nat.le_of_ble_eq_true rfl, Nat.le_of_ble_eq_true rfl⟩ qX11_tellsCellsAlone_12 ?_
      rintro _ _ ⟨rfl, rfl⟩
      refine v_eqI (show _ = hpI h (S + 1) i by rw [if_pos ⟨nI_pos' (by omega), nI_lt hl (by omega)⟩, tn_nI (by omega)]) ?_
      refine v_callSq hX hR k_X11_107 (c_isCell _) rfl (Nat.le_of_ble_eq_true rfl) rfl (Nat.le_of_ble_eq_true rfl) ⟨Nat.le_of_ble_eq_true rfl, Nat.le_of_ble_eq_true rfl⟩ qX11_tellsCellsAlone_15 ?_
      rintro _ _ ⟨rfl, rfl⟩
      first | refine v_if_neB hX 23 qX11_tellsCellsAlone_18 rfl (fun q18 => ?_) (fun q18 => ?_) | refine v_if_ne hX 23 qX11_tellsCellsAlone_18 rfl (fun q18 => ?_) (fun q18 => ?_)
      · skip
        refine v_iinc hX rfl (by first | exact ii_nI _ | exact ii_1 _) (Nat.le_of_ble_eq_true rfl) rfl (ls' := [some _, some _]) rfl qX11_tellsCellsAlone_23 ?_
        refine v_goto hX 2 qX11_tellsCellsAlone_26 rfl ?_
        exact ih _ (by omega) (i + 1) rfl (by omega) (fun j hj => by rcases Nat.lt_succ_iff_lt_or_eq.mp hj with z | rfl; exact hq j z; exact q18)
      · skip
        refine v_iconst hX li_0 qX11_tellsCellsAlone_21 ?_
        refine v_zreturn hX (by first | exact Or.inl rfl | exact Or.inr rfl | exact bz01 _) qX11_tellsCellsAlone_22 (hP _ _ ?_)
        exact ⟨rz (bz_f (fun z => by rw [anyB_t hl (by simp [q18])] at z; cases z)), rfl⟩
  exact L2 _ 0 rfl (by omega) (fun j hj => absurd hj (Nat.not_lt_zero _))
theorem gcd_half {x y : Nat} (hy : 0 < y) (h : y < x) : 2 * (x % y) ≤ x := by
  have h1 := Nat.div_add_mod x y
  have h2 : x % y < y := Nat.mod_lt _ hy
  have h3 : 1 ≤ x / y := (Nat.one_le_div_iff hy).mpr (Nat.le_of_lt h)
  have h4 : y * 1 ≤ y * (x / y) := Nat.mul_le_mul_left y h3
  omega
theorem gcd_step {x y i : Nat} (h : i = 0 ∧ x < 2 ^ 31 ∧ y < 2 ^ 31 ∨ 0 < i ∧ y < x ∧ x < 2 ^ 31 ∧ x * y * 2 ^ (i - 1) ≤ 2 ^ 62) (hy : 0 < y) : x % y < y ∧ y < 2 ^ 31 ∧ y * (x % y) * 2 ^ i ≤ 2 ^ 62 := by
  have h2 : x % y < y := Nat.mod_lt _ hy
  rcases h with ⟨rfl, hx, hy2⟩ | ⟨hi, hyx, hx, hb⟩
  · refine ⟨h2, hy2, ?_⟩
    have : y * (x % y) ≤ 2 ^ 31 * 2 ^ 31 := Nat.mul_le_mul (Nat.le_of_lt hy2) (by omega)
    omega
  · refine ⟨h2, by omega, ?_⟩
    have h3 := gcd_half hy hyx
    obtain ⟨j, rfl⟩ : ∃ j, i = j + 1 := ⟨i - 1, by omega⟩
    have e : 2 ^ (j + 1) = 2 * 2 ^ j := by rw [Nat.pow_succ]; omega
    rw [Nat.add_sub_cancel] at hb
    rw [e]
    have h4 : y * (x % y) * (2 * 2 ^ j) = (y * (2 * (x % y))) * 2 ^ j := by
      rw [Nat.mul_comm 2 (x % y), ← Nat.mul_assoc, ← Nat.mul_assoc, Nat.mul_assoc (y * (x % y)) 2 (2 ^ j)]
    rw [h4]
    refine Nat.le_trans (Nat.mul_le_mul_right _ ?_) hb
    rw [Nat.mul_comm x y]
    exact Nat.mul_le_mul_left y h3
theorem lN_0 : (0 : Int64) = lN 0 := rfl
theorem qX11_greatestDivisor_0 : Dq cX11_greatestDivisor 0 (.lload_n 0) 1 1 := ⟨by decide +kernel, rfl⟩
theorem qX11_greatestDivisor_1 : Dq cX11_greatestDivisor 1 (.lstore 4) 2 3 := ⟨by decide +kernel, rfl⟩
theorem qX11_greatestDivisor_3 : Dq cX11_greatestDivisor 3 (.lload_n 2) 1 4 := ⟨by decide +kernel, rfl⟩
theorem qX11_greatestDivisor_4 : Dq cX11_greatestDivisor 4 (.lstore 6) 2 6 := ⟨by decide +kernel, rfl⟩
theorem qX11_greatestDivisor_6 : Dq cX11_greatestDivisor 6 (.iconst 0) 1 7 := ⟨by decide +kernel, rfl⟩
theorem qX11_greatestDivisor_7 : Dq cX11_greatestDivisor 7 (.istore 8) 2 9 := ⟨by decide +kernel, rfl⟩
theorem qX11_greatestDivisor_9 : Dq cX11_greatestDivisor 9 (.iload 8) 2 11 := ⟨by decide +kernel, rfl⟩
theorem qX11_greatestDivisor_11 : Dq cX11_greatestDivisor 11 (.sipush 200) 3 14 := ⟨by decide +kernel, rfl⟩
theorem qX11_greatestDivisor_14 : Dq cX11_greatestDivisor 14 (.if_icmp .ge 31) 3 17 := ⟨by decide +kernel, rfl⟩
theorem qX11_greatestDivisor_17 : Dq cX11_greatestDivisor 17 (.lload 6) 2 19 := ⟨by decide +kernel, rfl⟩
theorem qX11_greatestDivisor_19 : Dq cX11_greatestDivisor 19 (.lconst 0) 1 20 := ⟨by decide +kernel, rfl⟩
theorem qX11_greatestDivisor_20 : Dq cX11_greatestDivisor 20 (.lcmp) 1 21 := ⟨by decide +kernel, rfl⟩
theorem qX11_greatestDivisor_21 : Dq cX11_greatestDivisor 21 (.ifCond .eq 24) 3 24 := ⟨by decide +kernel, rfl⟩
theorem qX11_greatestDivisor_24 : Dq cX11_greatestDivisor 24 (.lload 4) 2 26 := ⟨by decide +kernel, rfl⟩
theorem qX11_greatestDivisor_26 : Dq cX11_greatestDivisor 26 (.lload 6) 2 28 := ⟨by decide +kernel, rfl⟩
theorem qX11_greatestDivisor_28 : Dq cX11_greatestDivisor 28 (.lrem) 1 29 := ⟨by decide +kernel, rfl⟩
theorem qX11_greatestDivisor_29 : Dq cX11_greatestDivisor 29 (.lstore 9) 2 31 := ⟨by decide +kernel, rfl⟩
theorem qX11_greatestDivisor_31 : Dq cX11_greatestDivisor 31 (.lload 6) 2 33 := ⟨by decide +kernel, rfl⟩
theorem qX11_greatestDivisor_33 : Dq cX11_greatestDivisor 33 (.lstore 4) 2 35 := ⟨by decide +kernel, rfl⟩
theorem qX11_greatestDivisor_35 : Dq cX11_greatestDivisor 35 (.lload 9) 2 37 := ⟨by decide +kernel, rfl⟩
theorem qX11_greatestDivisor_37 : Dq cX11_greatestDivisor 37 (.lstore 6) 2 39 := ⟨by decide +kernel, rfl⟩
theorem qX11_greatestDivisor_39 : Dq cX11_greatestDivisor 39 (.iinc 8 1) 3 42 := ⟨by decide +kernel, rfl⟩
theorem qX11_greatestDivisor_42 : Dq cX11_greatestDivisor 42 (.goto (-33)) 3 45 := ⟨by decide +kernel, rfl⟩
theorem qX11_greatestDivisor_45 : Dq cX11_greatestDivisor 45 (.lload 4) 2 47 := ⟨by decide +kernel, rfl⟩
theorem qX11_greatestDivisor_47 : Dq cX11_greatestDivisor 47 (.lreturn) 1 48 := ⟨by decide +kernel, rfl⟩
set_option maxRecDepth 100000 in
set_option maxHeartbeats 4000000 in
theorem c_greatestDivisor {G : Glb} {h : AHp} {a b : Nat} (ha : a < 2 ^ 31) (hb : b < 2 ^ 31) : CP G m_X11_greatestDivisor 1 0 0 [.long (lN a), .long (lN b)] h (fun r h' => r = some (.long (lN (Nat.gcd a b))) ∧ h = h') := by
  suffices key : ∀ P : Option Value → AHp → Prop, (∀ r h', (r = some (.long (lN (Nat.gcd a b))) ∧ h = h') → P r h') → CP G m_X11_greatestDivisor 1 0 0 [.long (lN a), .long (lN b)] h P from key _ (fun _ _ z => z)
  intro P hP
  refine CP.of (by decide +kernel) (Nat.le_of_ble_eq_true rfl) fun X hX hR hnm => ?_
  show V X G 11 0 0 _ 0 [some (.long (lN a)), none, some (.long (lN b)), none, none, none, none, none, none, none, none] [] h
  refine v_lload_n hX rfl qX11_greatestDivisor_0 ?_
  refine v_lstore hX (Nat.le_of_ble_eq_true rfl) rfl (ls' := [some _, none, some _, none, some _, none, none, none, none, none, none]) rfl qX11_greatestDivisor_1 ?_
  refine v_lload_n hX rfl qX11_greatestDivisor_3 ?_
  refine v_lstore hX (Nat.le_of_ble_eq_true rfl) rfl (ls' := [some _, none, some _, none, some _, none, some _, none, none, none, none]) rfl qX11_greatestDivisor_4 ?_
  refine v_iconst hX li_0 qX11_greatestDivisor_6 ?_
  refine v_istore hX (Nat.le_of_ble_eq_true rfl) rfl (ls' := [some _, none, some _, none, some _, none, some _, none, some _, none, none]) rfl qX11_greatestDivisor_7 ?_
  have L9 : ∀ (mz : Nat) (i x y : Nat), 200 - i = mz → (i ≤ 200) → (i = 0 ∧ x < 2 ^ 31 ∧ y < 2 ^ 31 ∨ 0 < i ∧ y < x ∧ x < 2 ^ 31 ∧ x * y * 2 ^ (i - 1) ≤ 2 ^ 62) → (Nat.gcd x y = Nat.gcd a b) → V X G 11 0 0 (QM X G P 0 0) 9 [some (.long (lN a)), none, some (.long (lN b)), none, some (.long (lN x)), none, some (.long (lN y)), none, some (.int (nI i)), none, none] [] h := by
    intro mz
    induction mz using Nat.strongRecOn with
    | _ mz ih =>
    intro i x y hm hi hv hg
    refine v_iload hX rfl qX11_greatestDivisor_9 ?_
    refine v_sipush hX ls_200 qX11_greatestDivisor_11 ?_
    refine v_icmp_geS hX 45 qX11_greatestDivisor_14 rfl (fun q14 => ?_) (fun q14 => ?_)
    · have e1 : i = 200 := Nat.le_antisymm hi (nI_le' (i := 200) (by omega) (by omega) q14)
      subst e1
      have hy0 : y = 0 := by
          rcases hv with ⟨z, -⟩ | ⟨-, zy, -, z⟩
          · omega
          · rcases Nat.eq_zero_or_pos y with w | w
            · exact w
            · exfalso
              rcases Nat.eq_zero_or_pos x with w2 | w2
              · omega
              · have h1 : 1 * 1 ≤ x * y := Nat.mul_le_mul w2 w
                have h2 : 1 * 2 ^ 199 ≤ x * y * 2 ^ 199 := Nat.mul_le_mul_right _ h1
                have h3 : ¬ (1 * 2 ^ 199 ≤ 2 ^ 62) := by decide
                exact h3 (Nat.le_trans h2 z)
      refine v_lload hX rfl qX11_greatestDivisor_45 ?_
      refine v_lreturn hX qX11_greatestDivisor_47 (hP _ _ ?_)
      refine ⟨?_, rfl⟩
      rw [← hg, hy0, Nat.gcd_zero_right]
    · have hl := nI_lt' (s := 200) (by omega) (by omega) q14
      refine v_lload hX rfl qX11_greatestDivisor_17 ?_
      refine v_lconst hX ll_0 qX11_greatestDivisor_19 ?_
      refine v_lcmp hX qX11_greatestDivisor_20 ?_
      first | refine v_if_eqB hX 45 qX11_greatestDivisor_21 rfl (fun q21 => ?_) (fun q21 => ?_) | refine v_if_eq hX 45 qX11_greatestDivisor_21 rfl (fun q21 => ?_) (fun q21 => ?_)
      · have hy0 : y = 0 := by
            have z := (lg_cmp_eq _ _).mp q21
            rw [lN_0, pk_lEQ (by rcases hv with z | z <;> omega) (by omega)] at z
            exact z
        refine v_lload hX rfl qX11_greatestDivisor_45 ?_
        refine v_lreturn hX qX11_greatestDivisor_47 (hP _ _ ?_)
        refine ⟨?_, rfl⟩
        rw [← hg, hy0, Nat.gcd_zero_right]
      · have hy0 : 0 < y := Nat.pos_of_ne_zero (fun z => q21 ((lg_cmp_eq _ _).mpr (by rw [z]; rfl)))
        have hx31 : x < 2 ^ 31 := by rcases hv with z | z <;> omega
        have hy31 : y < 2 ^ 31 := by rcases hv with z | z <;> omega
        refine v_lload hX rfl qX11_greatestDivisor_24 ?_
        refine v_lload hX rfl qX11_greatestDivisor_26 ?_
        refine v_lrem hX (fun z => by rw [lN_0, pk_lEQ (by omega) (by omega)] at z; omega) qX11_greatestDivisor_28 ?_
        refine v_eqL (pk_lRem (by omega) hy0 (by omega)) ?_
        refine v_lstore hX (Nat.le_of_ble_eq_true rfl) rfl (ls' := [some _, none, some _, none, some _, none, some _, none, some _, some _, none]) rfl qX11_greatestDivisor_29 ?_
        refine v_lload hX rfl qX11_greatestDivisor_31 ?_
        refine v_lstore hX (Nat.le_of_ble_eq_true rfl) rfl (ls' := [some _, none, some _, none, some _, none, some _, none, some _, some _, none]) rfl qX11_greatestDivisor_33 ?_
        refine v_lload hX rfl qX11_greatestDivisor_35 ?_
        refine v_lstore hX (Nat.le_of_ble_eq_true rfl) rfl (ls' := [some _, none, some _, none, some _, none, some _, none, some _, some _, none]) rfl qX11_greatestDivisor_37 ?_
        refine v_iinc hX rfl (by first | exact ii_nI _ | exact ii_1 _) (Nat.le_of_ble_eq_true rfl) rfl (ls' := [some _, none, some _, none, some _, none, some _, none, some _, some _, none]) rfl qX11_greatestDivisor_39 ?_
        refine v_goto hX 9 qX11_greatestDivisor_42 rfl ?_
        refine v_forget (ls' := [_, none, _, none, _, none, _, none, _, none, none]) ⟨Or.inr rfl, Or.inr rfl, Or.inr rfl, Or.inr rfl, Or.inr rfl, Or.inr rfl, Or.inr rfl, Or.inr rfl, Or.inr rfl, Or.inl rfl, Or.inr rfl, trivial⟩ ?_
        have hst := gcd_step hv hy0
        exact ih _ (by omega) (i + 1) y (x % y) rfl (by omega) (Or.inr ⟨by omega, hst.1, hst.2.1, hst.2.2⟩) ((Nat.gcd_comm y (x % y)).trans ((Nat.gcd_rec y x).symm.trans ((Nat.gcd_comm y x).trans hg)))
  exact L9 _ 0 a b rfl (by omega) (Or.inl ⟨rfl, ha, hb⟩) rfl
/-- part q of a in b, in lowest terms -/
def loI (a b : Nat) (q : Int32) : Int64 := if q = 0 then lN (a / Nat.gcd a b) else lN (b / Nat.gcd a b)
def NOI : Int64 := -4611686018427387904
theorem qX11_partOfQuotient_0 : Dq cX11_partOfQuotient 0 (.iload 4) 2 2 := ⟨by decide +kernel, rfl⟩
theorem qX11_partOfQuotient_2 : Dq cX11_partOfQuotient 2 (.iconst 0) 1 3 := ⟨by decide +kernel, rfl⟩
theorem qX11_partOfQuotient_3 : Dq cX11_partOfQuotient 3 (.iconst 1) 1 4 := ⟨by decide +kernel, rfl⟩
theorem qX11_partOfQuotient_4 : Dq cX11_partOfQuotient 4 (.invokestatic 110) 3 7 := ⟨by decide +kernel, rfl⟩
theorem qX11_partOfQuotient_7 : Dq cX11_partOfQuotient 7 (.ifCond .eq 9) 3 10 := ⟨by decide +kernel, rfl⟩
theorem qX11_partOfQuotient_10 : Dq cX11_partOfQuotient 10 (.lload_n 2) 1 11 := ⟨by decide +kernel, rfl⟩
theorem qX11_partOfQuotient_11 : Dq cX11_partOfQuotient 11 (.lconst 0) 1 12 := ⟨by decide +kernel, rfl⟩
theorem qX11_partOfQuotient_12 : Dq cX11_partOfQuotient 12 (.lcmp) 1 13 := ⟨by decide +kernel, rfl⟩
theorem qX11_partOfQuotient_13 : Dq cX11_partOfQuotient 13 (.ifCond .gt 7) 3 16 := ⟨by decide +kernel, rfl⟩
theorem qX11_partOfQuotient_16 : Dq cX11_partOfQuotient 16 (.ldc2_w 206) 3 19 := ⟨by decide +kernel, rfl⟩
theorem qX11_partOfQuotient_19 : Dq cX11_partOfQuotient 19 (.lreturn) 1 20 := ⟨by decide +kernel, rfl⟩
theorem qX11_partOfQuotient_20 : Dq cX11_partOfQuotient 20 (.lload_n 0) 1 21 := ⟨by decide +kernel, rfl⟩
theorem qX11_partOfQuotient_21 : Dq cX11_partOfQuotient 21 (.lload_n 2) 1 22 := ⟨by decide +kernel, rfl⟩
theorem qX11_partOfQuotient_22 : Dq cX11_partOfQuotient 22 (.invokestatic 338) 3 25 := ⟨by decide +kernel, rfl⟩
theorem qX11_partOfQuotient_25 : Dq cX11_partOfQuotient 25 (.lstore 5) 2 27 := ⟨by decide +kernel, rfl⟩
theorem qX11_partOfQuotient_27 : Dq cX11_partOfQuotient 27 (.lload 5) 2 29 := ⟨by decide +kernel, rfl⟩
theorem qX11_partOfQuotient_29 : Dq cX11_partOfQuotient 29 (.lconst 0) 1 30 := ⟨by decide +kernel, rfl⟩
theorem qX11_partOfQuotient_30 : Dq cX11_partOfQuotient 30 (.lcmp) 1 31 := ⟨by decide +kernel, rfl⟩
theorem qX11_partOfQuotient_31 : Dq cX11_partOfQuotient 31 (.ifCond .gt 7) 3 34 := ⟨by decide +kernel, rfl⟩
theorem qX11_partOfQuotient_38 : Dq cX11_partOfQuotient 38 (.iload 4) 2 40 := ⟨by decide +kernel, rfl⟩
theorem qX11_partOfQuotient_40 : Dq cX11_partOfQuotient 40 (.ifCond .ne 7) 3 43 := ⟨by decide +kernel, rfl⟩
theorem qX11_partOfQuotient_43 : Dq cX11_partOfQuotient 43 (.lload_n 0) 1 44 := ⟨by decide +kernel, rfl⟩
theorem qX11_partOfQuotient_44 : Dq cX11_partOfQuotient 44 (.goto 4) 3 47 := ⟨by decide +kernel, rfl⟩
theorem qX11_partOfQuotient_47 : Dq cX11_partOfQuotient 47 (.lload_n 2) 1 48 := ⟨by decide +kernel, rfl⟩
theorem qX11_partOfQuotient_48 : Dq cX11_partOfQuotient 48 (.lload 5) 2 50 := ⟨by decide +kernel, rfl⟩
theorem qX11_partOfQuotient_50 : Dq cX11_partOfQuotient 50 (.ldiv) 1 51 := ⟨by decide +kernel, rfl⟩
theorem qX11_partOfQuotient_51 : Dq cX11_partOfQuotient 51 (.lreturn) 1 52 := ⟨by decide +kernel, rfl⟩
set_option maxRecDepth 100000 in
set_option maxHeartbeats 4000000 in
theorem c_partOfQuotient {G : Glb} {h : AHp} {a b : Nat} (ha : a < 2 ^ 31) (hb : b < 2 ^ 31) (q : Int32) : CP G m_X11_partOfQuotient 2 0 0 [.long (lN a), .long (lN b), .int q] h (fun r h' => r = some (.long (if (0 ≤ q ∧ q ≤ 1) ∧ 0 < b then loI a b q else NOI)) ∧ h = h') := by
  suffices key : ∀ P : Option Value → AHp → Prop, (∀ r h', (r = some (.long (if (0 ≤ q ∧ q ≤ 1) ∧ 0 < b then loI a b q else NOI)) ∧ h = h') → P r h') → CP G m_X11_partOfQuotient 2 0 0 [.long (lN a), .long (lN b), .int q] h P from key _ (fun _ _ z => z)
  intro P hP
  refine CP.of (by decide +kernel) (Nat.le_of_ble_eq_true rfl) fun X hX hR hnm => ?_
  show V X G 7 0 0 _ 0 [some (.long (lN a)), none, some (.long (lN b)), none, some (.int q), none, none] [] h
  refine v_iload hX rfl qX11_partOfQuotient_0 ?_
  refine v_iconst hX li_0 qX11_partOfQuotient_2 ?_
  refine v_iconst hX li_1 qX11_partOfQuotient_3 ?_
  refine v_callSq hX hR k_X11_110 (c_isWithin _ _ _) rfl (Nat.le_of_ble_eq_true rfl) rfl (Nat.le_of_ble_eq_true rfl) ⟨Nat.le_of_ble_eq_true rfl, Nat.le_of_ble_eq_true rfl⟩ qX11_partOfQuotient_4 ?_
  rintro _ _ ⟨rfl, rfl⟩
  first | refine v_if_eqB hX 16 qX11_partOfQuotient_7 rfl (fun q7 => ?_) (fun q7 => ?_) | refine v_if_eq hX 16 qX11_partOfQuotient_7 rfl (fun q7 => ?_) (fun q7 => ?_)
  · skip
    refine v_ldc2 hX c_X11_206 qX11_partOfQuotient_16 ?_
    refine v_lreturn hX qX11_partOfQuotient_19 (hP _ _ ?_)
    first | exact ⟨by rw [if_neg (fun z => q7 z.1)]; rfl, rfl⟩ | exact ⟨by rw [if_neg (fun z => hb0 z.2)]; rfl, rfl⟩
  · skip
    refine v_lload_n hX rfl qX11_partOfQuotient_10 ?_
    refine v_lconst hX ll_0 qX11_partOfQuotient_11 ?_
    refine v_lcmp hX qX11_partOfQuotient_12 ?_
    refine v_if_gtS hX 20 qX11_partOfQuotient_13 rfl (fun q13 => ?_) (fun q13 => ?_)
    · have hb0 : 0 < b := by
          have z := (lg_cmp_gt _ _).mp q13
          rw [lN_0, pk_lLT (by omega) (by omega)] at z
          exact z
      have hg0 : 0 < Nat.gcd a b := Nat.gcd_pos_of_pos_right a hb0
      have hg1 : Nat.gcd a b ≤ b := Nat.gcd_le_right a hb0
      refine v_lload_n hX rfl qX11_partOfQuotient_20 ?_
      refine v_lload_n hX rfl qX11_partOfQuotient_21 ?_
      refine v_callSq hX hR k_X11_338 (c_greatestDivisor (by exact ha) (by exact hb)) rfl (Nat.le_of_ble_eq_true rfl) rfl (Nat.le_of_ble_eq_true rfl) ⟨Nat.le_of_ble_eq_true rfl, Nat.le_of_ble_eq_true rfl⟩ qX11_partOfQuotient_22 ?_
      rintro _ _ ⟨rfl, rfl⟩
      refine v_lstore hX (Nat.le_of_ble_eq_true rfl) rfl (ls' := [some _, none, some _, none, some _, some _, none]) rfl qX11_partOfQuotient_25 ?_
      refine v_lload hX rfl qX11_partOfQuotient_27 ?_
      refine v_lconst hX ll_0 qX11_partOfQuotient_29 ?_
      refine v_lcmp hX qX11_partOfQuotient_30 ?_
      refine v_if_gtS hX 38 qX11_partOfQuotient_31 rfl (fun q31 => ?_) (fun q31 => ?_)
      · skip
        refine v_iload hX rfl qX11_partOfQuotient_38 ?_
        first | refine v_if_neB hX 47 qX11_partOfQuotient_40 rfl (fun q40 => ?_) (fun q40 => ?_) | refine v_if_ne hX 47 qX11_partOfQuotient_40 rfl (fun q40 => ?_) (fun q40 => ?_)
        · skip
          refine v_lload_n hX rfl qX11_partOfQuotient_47 ?_
          refine v_lload hX rfl qX11_partOfQuotient_48 ?_
          refine v_ldiv hX (fun z => by rw [lN_0, pk_lEQ (by omega) (by omega)] at z; omega) qX11_partOfQuotient_50 ?_
          refine v_eqL (pk_lDiv (by omega) hg0 (by omega)) ?_
          refine v_lreturn hX qX11_partOfQuotient_51 (hP _ _ ?_)
          refine ⟨?_, rfl⟩
          rw [if_pos ⟨q7, hb0⟩]
          first | rw [loI, if_pos q40] | rw [loI, if_neg q40]
        · skip
          refine v_lload_n hX rfl qX11_partOfQuotient_43 ?_
          refine v_goto hX 48 qX11_partOfQuotient_44 rfl ?_
          refine v_lload hX rfl qX11_partOfQuotient_48 ?_
          refine v_ldiv hX (fun z => by rw [lN_0, pk_lEQ (by omega) (by omega)] at z; omega) qX11_partOfQuotient_50 ?_
          refine v_eqL (pk_lDiv (by omega) hg0 (by omega)) ?_
          refine v_lreturn hX qX11_partOfQuotient_51 (hP _ _ ?_)
          refine ⟨?_, rfl⟩
          rw [if_pos ⟨q7, hb0⟩]
          first | rw [loI, if_pos q40] | rw [loI, if_neg q40]
      · exact absurd ((lg_cmp_gt _ _).mpr (by rw [lN_0, pk_lLT (by omega) (by omega)]; exact hg0)) (Int32.not_lt.mpr q31)
    · have hb0 : ¬ 0 < b := by
          intro z
          have z2 : ¬ 0 < lg_cmp (lN b) 0 := Int32.not_lt.mpr q13
          exact z2 ((lg_cmp_gt _ _).mpr (by rw [lN_0, pk_lLT (by omega) (by omega)]; exact z))
      refine v_ldc2 hX c_X11_206 qX11_partOfQuotient_16 ?_
      refine v_lreturn hX qX11_partOfQuotient_19 (hP _ _ ?_)
      first | exact ⟨by rw [if_neg (fun z => q7 z.1)]; rfl, rfl⟩ | exact ⟨by rw [if_neg (fun z => hb0 z.2)]; rfl, rfl⟩
end
