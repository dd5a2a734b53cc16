section
-- ===== PART A: goes FIRST, ahead of the names: the tables' words, and 'selects' of the private methods out of them =====
/-- a private method of a class that the tables say can be made, by its rows of tables_1 -/
def lw_okq (q : MethodName × Nat) : Prop := (q.1.cls ≠ "java/lang/invoke/MethodHandle" ∧ q.1.cls ≠ "java/lang/invoke/VarHandle") ∧ Cond.instantiable q.1.cls q.2 ∈ tables_1 ∧ Cond.privateMethod q.1 ∈ tables_1 ∧ Cond.instanceMethod q.1 ∈ tables_1
theorem lw_p0 : lw_okq (⟨"RingInSand$Tape", "splitTokens", "()V"⟩, 14) := ⟨⟨by decide +kernel, by decide +kernel⟩, List.mem_of_getElem? (i := 67) (by decide +kernel), List.mem_of_getElem? (i := 273) (by decide +kernel), List.mem_of_getElem? (i := 274) (by decide +kernel)⟩
theorem lw_p1 : lw_okq (⟨"RingInSand$Tape", "byteAt", "(I)I"⟩, 14) := ⟨⟨by decide +kernel, by decide +kernel⟩, List.mem_of_getElem? (i := 67) (by decide +kernel), List.mem_of_getElem? (i := 277) (by decide +kernel), List.mem_of_getElem? (i := 278) (by decide +kernel)⟩
theorem lw_p2 : lw_okq (⟨"RingInSand$Tape", "endOfWord", "(I)I"⟩, 14) := ⟨⟨by decide +kernel, by decide +kernel⟩, List.mem_of_getElem? (i := 67) (by decide +kernel), List.mem_of_getElem? (i := 284) (by decide +kernel), List.mem_of_getElem? (i := 285) (by decide +kernel)⟩
theorem lw_p3 : lw_okq (⟨"RingInSand$Tape", "addWord", "(II)V"⟩, 14) := ⟨⟨by decide +kernel, by decide +kernel⟩, List.mem_of_getElem? (i := 67) (by decide +kernel), List.mem_of_getElem? (i := 288) (by decide +kernel), List.mem_of_getElem? (i := 289) (by decide +kernel)⟩
theorem lw_p4 : lw_okq (⟨"RingInSand$Tape", "nameOf", "(II)I"⟩, 14) := ⟨⟨by decide +kernel, by decide +kernel⟩, List.mem_of_getElem? (i := 67) (by decide +kernel), List.mem_of_getElem? (i := 292) (by decide +kernel), List.mem_of_getElem? (i := 293) (by decide +kernel)⟩
theorem lw_p5 : lw_okq (⟨"RingInSand$Tape", "isWord", "(Ljava/lang/String;II)Z"⟩, 14) := ⟨⟨by decide +kernel, by decide +kernel⟩, List.mem_of_getElem? (i := 67) (by decide +kernel), List.mem_of_getElem? (i := 297) (by decide +kernel), List.mem_of_getElem? (i := 298) (by decide +kernel)⟩
theorem lw_p6 : lw_okq (⟨"RingInSand$Tape", "addToken", "(III)V"⟩, 14) := ⟨⟨by decide +kernel, by decide +kernel⟩, List.mem_of_getElem? (i := 67) (by decide +kernel), List.mem_of_getElem? (i := 308) (by decide +kernel), List.mem_of_getElem? (i := 309) (by decide +kernel)⟩
theorem lw_p7 : lw_okq (⟨"RingInSand$Tape", "keyOf", "(II)I"⟩, 14) := ⟨⟨by decide +kernel, by decide +kernel⟩, List.mem_of_getElem? (i := 67) (by decide +kernel), List.mem_of_getElem? (i := 312) (by decide +kernel), List.mem_of_getElem? (i := 313) (by decide +kernel)⟩
theorem lw_p8 : lw_okq (⟨"RingInSand$Tape", "endOfNumber", "(I)I"⟩, 14) := ⟨⟨by decide +kernel, by decide +kernel⟩, List.mem_of_getElem? (i := 67) (by decide +kernel), List.mem_of_getElem? (i := 325) (by decide +kernel), List.mem_of_getElem? (i := 326) (by decide +kernel)⟩
theorem lw_p9 : lw_okq (⟨"RingInSand$Tape", "addNumber", "(II)V"⟩, 14) := ⟨⟨by decide +kernel, by decide +kernel⟩, List.mem_of_getElem? (i := 67) (by decide +kernel), List.mem_of_getElem? (i := 329) (by decide +kernel), List.mem_of_getElem? (i := 330) (by decide +kernel)⟩
theorem lw_p10 : lw_okq (⟨"RingInSand$Tape", "goTo", "(I)V"⟩, 14) := ⟨⟨by decide +kernel, by decide +kernel⟩, List.mem_of_getElem? (i := 67) (by decide +kernel), List.mem_of_getElem? (i := 336) (by decide +kernel), List.mem_of_getElem? (i := 337) (by decide +kernel)⟩
theorem lw_p11 : lw_okq (⟨"RingInSand$Tape", "readPart", "(I)Z"⟩, 14) := ⟨⟨by decide +kernel, by decide +kernel⟩, List.mem_of_getElem? (i := 67) (by decide +kernel), List.mem_of_getElem? (i := 343) (by decide +kernel), List.mem_of_getElem? (i := 344) (by decide +kernel)⟩
theorem lw_p12 : lw_okq (⟨"RingInSand$Tape", "expect", "(I)Z"⟩, 14) := ⟨⟨by decide +kernel, by decide +kernel⟩, List.mem_of_getElem? (i := 67) (by decide +kernel), List.mem_of_getElem? (i := 347) (by decide +kernel), List.mem_of_getElem? (i := 348) (by decide +kernel)⟩
theorem lw_p13 : lw_okq (⟨"RingInSand$Tape", "refuse", "()Z"⟩, 14) := ⟨⟨by decide +kernel, by decide +kernel⟩, List.mem_of_getElem? (i := 67) (by decide +kernel), List.mem_of_getElem? (i := 351) (by decide +kernel), List.mem_of_getElem? (i := 352) (by decide +kernel)⟩
theorem lw_p14 : lw_okq (⟨"RingInSand$Tape", "readOr", "()Z"⟩, 14) := ⟨⟨by decide +kernel, by decide +kernel⟩, List.mem_of_getElem? (i := 67) (by decide +kernel), List.mem_of_getElem? (i := 355) (by decide +kernel), List.mem_of_getElem? (i := 356) (by decide +kernel)⟩
theorem lw_p15 : lw_okq (⟨"RingInSand$Tape", "readAnd", "()Z"⟩, 14) := ⟨⟨by decide +kernel, by decide +kernel⟩, List.mem_of_getElem? (i := 67) (by decide +kernel), List.mem_of_getElem? (i := 359) (by decide +kernel), List.mem_of_getElem? (i := 360) (by decide +kernel)⟩
def lw_privs_1 : List (MethodName × Nat) := [(⟨"RingInSand$Tape", "splitTokens", "()V"⟩, 14), (⟨"RingInSand$Tape", "byteAt", "(I)I"⟩, 14), (⟨"RingInSand$Tape", "endOfWord", "(I)I"⟩, 14), (⟨"RingInSand$Tape", "addWord", "(II)V"⟩, 14), (⟨"RingInSand$Tape", "nameOf", "(II)I"⟩, 14), (⟨"RingInSand$Tape", "isWord", "(Ljava/lang/String;II)Z"⟩, 14), (⟨"RingInSand$Tape", "addToken", "(III)V"⟩, 14), (⟨"RingInSand$Tape", "keyOf", "(II)I"⟩, 14), (⟨"RingInSand$Tape", "endOfNumber", "(I)I"⟩, 14), (⟨"RingInSand$Tape", "addNumber", "(II)V"⟩, 14), (⟨"RingInSand$Tape", "goTo", "(I)V"⟩, 14), (⟨"RingInSand$Tape", "readPart", "(I)Z"⟩, 14), (⟨"RingInSand$Tape", "expect", "(I)Z"⟩, 14), (⟨"RingInSand$Tape", "refuse", "()Z"⟩, 14), (⟨"RingInSand$Tape", "readOr", "()Z"⟩, 14), (⟨"RingInSand$Tape", "readAnd", "()Z"⟩, 14)]
theorem lw_r1 : ∀ q ∈ lw_privs_1, lw_okq q := List.forall_mem_cons.mpr ⟨lw_p0, List.forall_mem_cons.mpr ⟨lw_p1, List.forall_mem_cons.mpr ⟨lw_p2, List.forall_mem_cons.mpr ⟨lw_p3, List.forall_mem_cons.mpr ⟨lw_p4, List.forall_mem_cons.mpr ⟨lw_p5, List.forall_mem_cons.mpr ⟨lw_p6, List.forall_mem_cons.mpr ⟨lw_p7, List.forall_mem_cons.mpr ⟨lw_p8, List.forall_mem_cons.mpr ⟨lw_p9, List.forall_mem_cons.mpr ⟨lw_p10, List.forall_mem_cons.mpr ⟨lw_p11, List.forall_mem_cons.mpr ⟨lw_p12, List.forall_mem_cons.mpr ⟨lw_p13, List.forall_mem_cons.mpr ⟨lw_p14, List.forall_mem_cons.mpr ⟨lw_p15, fun _ h => absurd h List.not_mem_nil⟩⟩⟩⟩⟩⟩⟩⟩⟩⟩⟩⟩⟩⟩⟩⟩
theorem lw_p16 : lw_okq (⟨"RingInSand$Tape", "readNot", "()Z"⟩, 14) := ⟨⟨by decide +kernel, by decide +kernel⟩, List.mem_of_getElem? (i := 67) (by decide +kernel), List.mem_of_getElem? (i := 363) (by decide +kernel), List.mem_of_getElem? (i := 364) (by decide +kernel)⟩
theorem lw_p17 : lw_okq (⟨"RingInSand$Tape", "readComparison", "()Z"⟩, 14) := ⟨⟨by decide +kernel, by decide +kernel⟩, List.mem_of_getElem? (i := 67) (by decide +kernel), List.mem_of_getElem? (i := 367) (by decide +kernel), List.mem_of_getElem? (i := 368) (by decide +kernel)⟩
theorem lw_p18 : lw_okq (⟨"RingInSand$Tape", "readSum", "()Z"⟩, 14) := ⟨⟨by decide +kernel, by decide +kernel⟩, List.mem_of_getElem? (i := 67) (by decide +kernel), List.mem_of_getElem? (i := 371) (by decide +kernel), List.mem_of_getElem? (i := 372) (by decide +kernel)⟩
theorem lw_p19 : lw_okq (⟨"RingInSand$Tape", "readTerm", "()Z"⟩, 14) := ⟨⟨by decide +kernel, by decide +kernel⟩, List.mem_of_getElem? (i := 67) (by decide +kernel), List.mem_of_getElem? (i := 375) (by decide +kernel), List.mem_of_getElem? (i := 376) (by decide +kernel)⟩
theorem lw_p20 : lw_okq (⟨"RingInSand$Tape", "readOne", "()Z"⟩, 14) := ⟨⟨by decide +kernel, by decide +kernel⟩, List.mem_of_getElem? (i := 67) (by decide +kernel), List.mem_of_getElem? (i := 379) (by decide +kernel), List.mem_of_getElem? (i := 380) (by decide +kernel)⟩
theorem lw_p21 : lw_okq (⟨"RingInSand$Tape", "worthHere", "()I"⟩, 14) := ⟨⟨by decide +kernel, by decide +kernel⟩, List.mem_of_getElem? (i := 67) (by decide +kernel), List.mem_of_getElem? (i := 383) (by decide +kernel), List.mem_of_getElem? (i := 384) (by decide +kernel)⟩
theorem lw_p22 : lw_okq (⟨"RingInSand$Tape", "emit", "(I)V"⟩, 14) := ⟨⟨by decide +kernel, by decide +kernel⟩, List.mem_of_getElem? (i := 67) (by decide +kernel), List.mem_of_getElem? (i := 387) (by decide +kernel), List.mem_of_getElem? (i := 388) (by decide +kernel)⟩
theorem lw_p23 : lw_okq (⟨"RingInSand$Tape", "readNegated", "()Z"⟩, 14) := ⟨⟨by decide +kernel, by decide +kernel⟩, List.mem_of_getElem? (i := 67) (by decide +kernel), List.mem_of_getElem? (i := 391) (by decide +kernel), List.mem_of_getElem? (i := 392) (by decide +kernel)⟩
theorem lw_p24 : lw_okq (⟨"RingInSand$Tape", "enter", "()Z"⟩, 14) := ⟨⟨by decide +kernel, by decide +kernel⟩, List.mem_of_getElem? (i := 67) (by decide +kernel), List.mem_of_getElem? (i := 395) (by decide +kernel), List.mem_of_getElem? (i := 396) (by decide +kernel)⟩
theorem lw_p25 : lw_okq (⟨"RingInSand$Tape", "readBracket", "()Z"⟩, 14) := ⟨⟨by decide +kernel, by decide +kernel⟩, List.mem_of_getElem? (i := 67) (by decide +kernel), List.mem_of_getElem? (i := 399) (by decide +kernel), List.mem_of_getElem? (i := 400) (by decide +kernel)⟩
theorem lw_p26 : lw_okq (⟨"RingInSand", "changeOdds", "(II)I"⟩, 14) := ⟨⟨by decide +kernel, by decide +kernel⟩, List.mem_of_getElem? (i := 22) (by decide +kernel), List.mem_of_getElem? (i := 467) (by decide +kernel), List.mem_of_getElem? (i := 468) (by decide +kernel)⟩
theorem lw_p27 : lw_okq (⟨"RingInSand", "changeTreads", "(II)I"⟩, 14) := ⟨⟨by decide +kernel, by decide +kernel⟩, List.mem_of_getElem? (i := 22) (by decide +kernel), List.mem_of_getElem? (i := 476) (by decide +kernel), List.mem_of_getElem? (i := 477) (by decide +kernel)⟩
theorem lw_p28 : lw_okq (⟨"RingInSand", "changeBag", "(I)I"⟩, 14) := ⟨⟨by decide +kernel, by decide +kernel⟩, List.mem_of_getElem? (i := 22) (by decide +kernel), List.mem_of_getElem? (i := 480) (by decide +kernel), List.mem_of_getElem? (i := 481) (by decide +kernel)⟩
theorem lw_p29 : lw_okq (⟨"RingInSand", "changeHour", "(I)I"⟩, 14) := ⟨⟨by decide +kernel, by decide +kernel⟩, List.mem_of_getElem? (i := 22) (by decide +kernel), List.mem_of_getElem? (i := 484) (by decide +kernel), List.mem_of_getElem? (i := 485) (by decide +kernel)⟩
theorem lw_p30 : lw_okq (⟨"RingInSand", "changeMinutes", "(I)I"⟩, 14) := ⟨⟨by decide +kernel, by decide +kernel⟩, List.mem_of_getElem? (i := 22) (by decide +kernel), List.mem_of_getElem? (i := 488) (by decide +kernel), List.mem_of_getElem? (i := 489) (by decide +kernel)⟩
theorem lw_p31 : lw_okq (⟨"RingInSand$Rules", "stand", "(III)V"⟩, 13) := ⟨⟨by decide +kernel, by decide +kernel⟩, List.mem_of_getElem? (i := 121) (by decide +kernel), List.mem_of_getElem? (i := 501) (by decide +kernel), List.mem_of_getElem? (i := 502) (by decide +kernel)⟩
def lw_privs_2 : List (MethodName × Nat) := [(⟨"RingInSand$Tape", "readNot", "()Z"⟩, 14), (⟨"RingInSand$Tape", "readComparison", "()Z"⟩, 14), (⟨"RingInSand$Tape", "readSum", "()Z"⟩, 14), (⟨"RingInSand$Tape", "readTerm", "()Z"⟩, 14), (⟨"RingInSand$Tape", "readOne", "()Z"⟩, 14), (⟨"RingInSand$Tape", "worthHere", "()I"⟩, 14), (⟨"RingInSand$Tape", "emit", "(I)V"⟩, 14), (⟨"RingInSand$Tape", "readNegated", "()Z"⟩, 14), (⟨"RingInSand$Tape", "enter", "()Z"⟩, 14), (⟨"RingInSand$Tape", "readBracket", "()Z"⟩, 14), (⟨"RingInSand", "changeOdds", "(II)I"⟩, 14), (⟨"RingInSand", "changeTreads", "(II)I"⟩, 14), (⟨"RingInSand", "changeBag", "(I)I"⟩, 14), (⟨"RingInSand", "changeHour", "(I)I"⟩, 14), (⟨"RingInSand", "changeMinutes", "(I)I"⟩, 14), (⟨"RingInSand$Rules", "stand", "(III)V"⟩, 13)]
theorem lw_r2 : ∀ q ∈ lw_privs_2, lw_okq q := List.forall_mem_cons.mpr ⟨lw_p16, List.forall_mem_cons.mpr ⟨lw_p17, List.forall_mem_cons.mpr ⟨lw_p18, List.forall_mem_cons.mpr ⟨lw_p19, List.forall_mem_cons.mpr ⟨lw_p20, List.forall_mem_cons.mpr ⟨lw_p21, List.forall_mem_cons.mpr ⟨lw_p22, List.forall_mem_cons.mpr ⟨lw_p23, List.forall_mem_cons.mpr ⟨lw_p24, List.forall_mem_cons.mpr ⟨lw_p25, List.forall_mem_cons.mpr ⟨lw_p26, List.forall_mem_cons.mpr ⟨lw_p27, List.forall_mem_cons.mpr ⟨lw_p28, List.forall_mem_cons.mpr ⟨lw_p29, List.forall_mem_cons.mpr ⟨lw_p30, List.forall_mem_cons.mpr ⟨lw_p31, fun _ h => absurd h List.not_mem_nil⟩⟩⟩⟩⟩⟩⟩⟩⟩⟩⟩⟩⟩⟩⟩⟩
theorem lw_p32 : lw_okq (⟨"RingInSand$Rules", "value", "(II)I"⟩, 13) := ⟨⟨by decide +kernel, by decide +kernel⟩, List.mem_of_getElem? (i := 121) (by decide +kernel), List.mem_of_getElem? (i := 511) (by decide +kernel), List.mem_of_getElem? (i := 512) (by decide +kernel)⟩
theorem lw_p33 : lw_okq (⟨"RingInSand$Rules", "take", "(I)V"⟩, 13) := ⟨⟨by decide +kernel, by decide +kernel⟩, List.mem_of_getElem? (i := 121) (by decide +kernel), List.mem_of_getElem? (i := 520) (by decide +kernel), List.mem_of_getElem? (i := 521) (by decide +kernel)⟩
theorem lw_p34 : lw_okq (⟨"RingInSand$Rules", "push", "(I)V"⟩, 13) := ⟨⟨by decide +kernel, by decide +kernel⟩, List.mem_of_getElem? (i := 121) (by decide +kernel), List.mem_of_getElem? (i := 524) (by decide +kernel), List.mem_of_getElem? (i := 525) (by decide +kernel)⟩
theorem lw_p35 : lw_okq (⟨"RingInSand$Rules", "pop", "()I"⟩, 13) := ⟨⟨by decide +kernel, by decide +kernel⟩, List.mem_of_getElem? (i := 121) (by decide +kernel), List.mem_of_getElem? (i := 528) (by decide +kernel), List.mem_of_getElem? (i := 529) (by decide +kernel)⟩
theorem lw_p36 : lw_okq (⟨"RingInSand", "lookerAt", "(I)LRingInSand$Eyes;"⟩, 14) := ⟨⟨by decide +kernel, by decide +kernel⟩, List.mem_of_getElem? (i := 22) (by decide +kernel), List.mem_of_getElem? (i := 618) (by decide +kernel), List.mem_of_getElem? (i := 619) (by decide +kernel)⟩
theorem lw_p37 : lw_okq (⟨"RingInSand", "goodHere", "(LRingInSand$Eyes;)I"⟩, 14) := ⟨⟨by decide +kernel, by decide +kernel⟩, List.mem_of_getElem? (i := 22) (by decide +kernel), List.mem_of_getElem? (i := 622) (by decide +kernel), List.mem_of_getElem? (i := 623) (by decide +kernel)⟩
theorem lw_p38 : lw_okq (⟨"RingInSand", "gainByLook", "(LRingInSand$Beach;LRingInSand$Eyes;I)I"⟩, 14) := ⟨⟨by decide +kernel, by decide +kernel⟩, List.mem_of_getElem? (i := 22) (by decide +kernel), List.mem_of_getElem? (i := 725) (by decide +kernel), List.mem_of_getElem? (i := 726) (by decide +kernel)⟩
theorem lw_p39 : lw_okq (⟨"RingInSand", "choose", "(LRingInSand$Beach;)Z"⟩, 14) := ⟨⟨by decide +kernel, by decide +kernel⟩, List.mem_of_getElem? (i := 22) (by decide +kernel), List.mem_of_getElem? (i := 746) (by decide +kernel), List.mem_of_getElem? (i := 747) (by decide +kernel)⟩
theorem lw_p40 : lw_okq (⟨"RingInSand", "weighParty", "(II)V"⟩, 14) := ⟨⟨by decide +kernel, by decide +kernel⟩, List.mem_of_getElem? (i := 22) (by decide +kernel), List.mem_of_getElem? (i := 750) (by decide +kernel), List.mem_of_getElem? (i := 751) (by decide +kernel)⟩
theorem lw_p41 : lw_okq (⟨"RingInSand", "makePlan", "(I)V"⟩, 14) := ⟨⟨by decide +kernel, by decide +kernel⟩, List.mem_of_getElem? (i := 22) (by decide +kernel), List.mem_of_getElem? (i := 758) (by decide +kernel), List.mem_of_getElem? (i := 759) (by decide +kernel)⟩
theorem lw_p42 : lw_okq (⟨"RingInSand", "isWetAt", "(II)Z"⟩, 14) := ⟨⟨by decide +kernel, by decide +kernel⟩, List.mem_of_getElem? (i := 22) (by decide +kernel), List.mem_of_getElem? (i := 834) (by decide +kernel), List.mem_of_getElem? (i := 835) (by decide +kernel)⟩
theorem lw_p43 : lw_okq (⟨"RingInSand", "oddsUnderWater", "(I)I"⟩, 14) := ⟨⟨by decide +kernel, by decide +kernel⟩, List.mem_of_getElem? (i := 22) (by decide +kernel), List.mem_of_getElem? (i := 846) (by decide +kernel), List.mem_of_getElem? (i := 847) (by decide +kernel)⟩
theorem lw_p44 : lw_okq (⟨"RingInSand", "hourOfMostDrowned", "()I"⟩, 14) := ⟨⟨by decide +kernel, by decide +kernel⟩, List.mem_of_getElem? (i := 22) (by decide +kernel), List.mem_of_getElem? (i := 850) (by decide +kernel), List.mem_of_getElem? (i := 851) (by decide +kernel)⟩
theorem lw_p45 : lw_okq (⟨"RingInSand", "sheetAt", "(I)LRingInSand$Sheet;"⟩, 14) := ⟨⟨by decide +kernel, by decide +kernel⟩, List.mem_of_getElem? (i := 22) (by decide +kernel), List.mem_of_getElem? (i := 858) (by decide +kernel), List.mem_of_getElem? (i := 859) (by decide +kernel)⟩
theorem lw_p46 : lw_okq (⟨"RingInSand", "addPicture", "(II)V"⟩, 14) := ⟨⟨by decide +kernel, by decide +kernel⟩, List.mem_of_getElem? (i := 22) (by decide +kernel), List.mem_of_getElem? (i := 878) (by decide +kernel), List.mem_of_getElem? (i := 879) (by decide +kernel)⟩
theorem lw_p47 : lw_okq (⟨"RingInSand", "firstWrongRow", "(LRingInSand$Sheet;)I"⟩, 14) := ⟨⟨by decide +kernel, by decide +kernel⟩, List.mem_of_getElem? (i := 22) (by decide +kernel), List.mem_of_getElem? (i := 899) (by decide +kernel), List.mem_of_getElem? (i := 900) (by decide +kernel)⟩
def lw_privs_3 : List (MethodName × Nat) := [(⟨"RingInSand$Rules", "value", "(II)I"⟩, 13), (⟨"RingInSand$Rules", "take", "(I)V"⟩, 13), (⟨"RingInSand$Rules", "push", "(I)V"⟩, 13), (⟨"RingInSand$Rules", "pop", "()I"⟩, 13), (⟨"RingInSand", "lookerAt", "(I)LRingInSand$Eyes;"⟩, 14), (⟨"RingInSand", "goodHere", "(LRingInSand$Eyes;)I"⟩, 14), (⟨"RingInSand", "gainByLook", "(LRingInSand$Beach;LRingInSand$Eyes;I)I"⟩, 14), (⟨"RingInSand", "choose", "(LRingInSand$Beach;)Z"⟩, 14), (⟨"RingInSand", "weighParty", "(II)V"⟩, 14), (⟨"RingInSand", "makePlan", "(I)V"⟩, 14), (⟨"RingInSand", "isWetAt", "(II)Z"⟩, 14), (⟨"RingInSand", "oddsUnderWater", "(I)I"⟩, 14), (⟨"RingInSand", "hourOfMostDrowned", "()I"⟩, 14), (⟨"RingInSand", "sheetAt", "(I)LRingInSand$Sheet;"⟩, 14), (⟨"RingInSand", "addPicture", "(II)V"⟩, 14), (⟨"RingInSand", "firstWrongRow", "(LRingInSand$Sheet;)I"⟩, 14)]
theorem lw_r3 : ∀ q ∈ lw_privs_3, lw_okq q := List.forall_mem_cons.mpr ⟨lw_p32, List.forall_mem_cons.mpr ⟨lw_p33, List.forall_mem_cons.mpr ⟨lw_p34, List.forall_mem_cons.mpr ⟨lw_p35, List.forall_mem_cons.mpr ⟨lw_p36, List.forall_mem_cons.mpr ⟨lw_p37, List.forall_mem_cons.mpr ⟨lw_p38, List.forall_mem_cons.mpr ⟨lw_p39, List.forall_mem_cons.mpr ⟨lw_p40, List.forall_mem_cons.mpr ⟨lw_p41, List.forall_mem_cons.mpr ⟨lw_p42, List.forall_mem_cons.mpr ⟨lw_p43, List.forall_mem_cons.mpr ⟨lw_p44, List.forall_mem_cons.mpr ⟨lw_p45, List.forall_mem_cons.mpr ⟨lw_p46, List.forall_mem_cons.mpr ⟨lw_p47, fun _ h => absurd h List.not_mem_nil⟩⟩⟩⟩⟩⟩⟩⟩⟩⟩⟩⟩⟩⟩⟩⟩
theorem lw_p48 : lw_okq (⟨"RingInSand$Sheet", "narrowed", "(I)I"⟩, 3) := ⟨⟨by decide +kernel, by decide +kernel⟩, List.mem_of_getElem? (i := 197) (by decide +kernel), List.mem_of_getElem? (i := 966) (by decide +kernel), List.mem_of_getElem? (i := 967) (by decide +kernel)⟩
theorem lw_p49 : lw_okq (⟨"RingInSandModel", "spell", "(IIIIIIIII)V"⟩, 54) := ⟨⟨by decide +kernel, by decide +kernel⟩, List.mem_of_getElem? (i := 991) (by decide +kernel), List.mem_of_getElem? (i := 997) (by decide +kernel), List.mem_of_getElem? (i := 998) (by decide +kernel)⟩
theorem lw_p50 : lw_okq (⟨"RingInSandModel", "read", "(II)I"⟩, 54) := ⟨⟨by decide +kernel, by decide +kernel⟩, List.mem_of_getElem? (i := 991) (by decide +kernel), List.mem_of_getElem? (i := 1195) (by decide +kernel), List.mem_of_getElem? (i := 1196) (by decide +kernel)⟩
theorem lw_p51 : lw_okq (⟨"RingInSandModel", "nextToken", "()V"⟩, 54) := ⟨⟨by decide +kernel, by decide +kernel⟩, List.mem_of_getElem? (i := 991) (by decide +kernel), List.mem_of_getElem? (i := 1199) (by decide +kernel), List.mem_of_getElem? (i := 1200) (by decide +kernel)⟩
theorem lw_p52 : lw_okq (⟨"RingInSandModel", "byteAt", "(I)I"⟩, 54) := ⟨⟨by decide +kernel, by decide +kernel⟩, List.mem_of_getElem? (i := 991) (by decide +kernel), List.mem_of_getElem? (i := 1203) (by decide +kernel), List.mem_of_getElem? (i := 1204) (by decide +kernel)⟩
theorem lw_p53 : lw_okq (⟨"RingInSandModel", "isWord", "(IIIIIIII)Z"⟩, 54) := ⟨⟨by decide +kernel, by decide +kernel⟩, List.mem_of_getElem? (i := 991) (by decide +kernel), List.mem_of_getElem? (i := 1212) (by decide +kernel), List.mem_of_getElem? (i := 1213) (by decide +kernel)⟩
theorem lw_p54 : lw_okq (⟨"RingInSandModel", "isLetter", "(II)Z"⟩, 54) := ⟨⟨by decide +kernel, by decide +kernel⟩, List.mem_of_getElem? (i := 991) (by decide +kernel), List.mem_of_getElem? (i := 1216) (by decide +kernel), List.mem_of_getElem? (i := 1217) (by decide +kernel)⟩
theorem lw_p55 : lw_okq (⟨"RingInSandModel", "part", "(Z)I"⟩, 54) := ⟨⟨by decide +kernel, by decide +kernel⟩, List.mem_of_getElem? (i := 991) (by decide +kernel), List.mem_of_getElem? (i := 1220) (by decide +kernel), List.mem_of_getElem? (i := 1221) (by decide +kernel)⟩
theorem lw_p56 : lw_okq (⟨"RingInSandModel", "fail", "()V"⟩, 54) := ⟨⟨by decide +kernel, by decide +kernel⟩, List.mem_of_getElem? (i := 991) (by decide +kernel), List.mem_of_getElem? (i := 1224) (by decide +kernel), List.mem_of_getElem? (i := 1225) (by decide +kernel)⟩
theorem lw_p57 : lw_okq (⟨"RingInSandModel", "either", "()I"⟩, 54) := ⟨⟨by decide +kernel, by decide +kernel⟩, List.mem_of_getElem? (i := 991) (by decide +kernel), List.mem_of_getElem? (i := 1228) (by decide +kernel), List.mem_of_getElem? (i := 1229) (by decide +kernel)⟩
theorem lw_p58 : lw_okq (⟨"RingInSandModel", "both", "()I"⟩, 54) := ⟨⟨by decide +kernel, by decide +kernel⟩, List.mem_of_getElem? (i := 991) (by decide +kernel), List.mem_of_getElem? (i := 1232) (by decide +kernel), List.mem_of_getElem? (i := 1233) (by decide +kernel)⟩
theorem lw_p59 : lw_okq (⟨"RingInSandModel", "not", "()I"⟩, 54) := ⟨⟨by decide +kernel, by decide +kernel⟩, List.mem_of_getElem? (i := 991) (by decide +kernel), List.mem_of_getElem? (i := 1236) (by decide +kernel), List.mem_of_getElem? (i := 1237) (by decide +kernel)⟩
theorem lw_p60 : lw_okq (⟨"RingInSandModel", "opens", "()Z"⟩, 54) := ⟨⟨by decide +kernel, by decide +kernel⟩, List.mem_of_getElem? (i := 991) (by decide +kernel), List.mem_of_getElem? (i := 1240) (by decide +kernel), List.mem_of_getElem? (i := 1241) (by decide +kernel)⟩
theorem lw_p61 : lw_okq (⟨"RingInSandModel", "added", "()I"⟩, 54) := ⟨⟨by decide +kernel, by decide +kernel⟩, List.mem_of_getElem? (i := 991) (by decide +kernel), List.mem_of_getElem? (i := 1244) (by decide +kernel), List.mem_of_getElem? (i := 1245) (by decide +kernel)⟩
theorem lw_p62 : lw_okq (⟨"RingInSandModel", "term", "()I"⟩, 54) := ⟨⟨by decide +kernel, by decide +kernel⟩, List.mem_of_getElem? (i := 991) (by decide +kernel), List.mem_of_getElem? (i := 1248) (by decide +kernel), List.mem_of_getElem? (i := 1249) (by decide +kernel)⟩
theorem lw_p63 : lw_okq (⟨"RingInSandModel", "atom", "()I"⟩, 54) := ⟨⟨by decide +kernel, by decide +kernel⟩, List.mem_of_getElem? (i := 991) (by decide +kernel), List.mem_of_getElem? (i := 1252) (by decide +kernel), List.mem_of_getElem? (i := 1253) (by decide +kernel)⟩
def lw_privs_4 : List (MethodName × Nat) := [(⟨"RingInSand$Sheet", "narrowed", "(I)I"⟩, 3), (⟨"RingInSandModel", "spell", "(IIIIIIIII)V"⟩, 54), (⟨"RingInSandModel", "read", "(II)I"⟩, 54), (⟨"RingInSandModel", "nextToken", "()V"⟩, 54), (⟨"RingInSandModel", "byteAt", "(I)I"⟩, 54), (⟨"RingInSandModel", "isWord", "(IIIIIIII)Z"⟩, 54), (⟨"RingInSandModel", "isLetter", "(II)Z"⟩, 54), (⟨"RingInSandModel", "part", "(Z)I"⟩, 54), (⟨"RingInSandModel", "fail", "()V"⟩, 54), (⟨"RingInSandModel", "either", "()I"⟩, 54), (⟨"RingInSandModel", "both", "()I"⟩, 54), (⟨"RingInSandModel", "not", "()I"⟩, 54), (⟨"RingInSandModel", "opens", "()Z"⟩, 54), (⟨"RingInSandModel", "added", "()I"⟩, 54), (⟨"RingInSandModel", "term", "()I"⟩, 54), (⟨"RingInSandModel", "atom", "()I"⟩, 54)]
theorem lw_r4 : ∀ q ∈ lw_privs_4, lw_okq q := List.forall_mem_cons.mpr ⟨lw_p48, List.forall_mem_cons.mpr ⟨lw_p49, List.forall_mem_cons.mpr ⟨lw_p50, List.forall_mem_cons.mpr ⟨lw_p51, List.forall_mem_cons.mpr ⟨lw_p52, List.forall_mem_cons.mpr ⟨lw_p53, List.forall_mem_cons.mpr ⟨lw_p54, List.forall_mem_cons.mpr ⟨lw_p55, List.forall_mem_cons.mpr ⟨lw_p56, List.forall_mem_cons.mpr ⟨lw_p57, List.forall_mem_cons.mpr ⟨lw_p58, List.forall_mem_cons.mpr ⟨lw_p59, List.forall_mem_cons.mpr ⟨lw_p60, List.forall_mem_cons.mpr ⟨lw_p61, List.forall_mem_cons.mpr ⟨lw_p62, List.forall_mem_cons.mpr ⟨lw_p63, fun _ h => absurd h List.not_mem_nil⟩⟩⟩⟩⟩⟩⟩⟩⟩⟩⟩⟩⟩⟩⟩⟩
theorem lw_p64 : lw_okq (⟨"RingInSandModel", "isSign", "(I)Z"⟩, 54) := ⟨⟨by decide +kernel, by decide +kernel⟩, List.mem_of_getElem? (i := 991) (by decide +kernel), List.mem_of_getElem? (i := 1256) (by decide +kernel), List.mem_of_getElem? (i := 1257) (by decide +kernel)⟩
theorem lw_p65 : lw_okq (⟨"RingInSandModel", "name", "()I"⟩, 54) := ⟨⟨by decide +kernel, by decide +kernel⟩, List.mem_of_getElem? (i := 991) (by decide +kernel), List.mem_of_getElem? (i := 1260) (by decide +kernel), List.mem_of_getElem? (i := 1261) (by decide +kernel)⟩
theorem lw_p66 : lw_okq (⟨"RingInSandModel", "deep", "(I)I"⟩, 54) := ⟨⟨by decide +kernel, by decide +kernel⟩, List.mem_of_getElem? (i := 991) (by decide +kernel), List.mem_of_getElem? (i := 1274) (by decide +kernel), List.mem_of_getElem? (i := 1275) (by decide +kernel)⟩
theorem lw_p67 : lw_okq (⟨"RingInSandModel", "says", "(III)I"⟩, 54) := ⟨⟨by decide +kernel, by decide +kernel⟩, List.mem_of_getElem? (i := 991) (by decide +kernel), List.mem_of_getElem? (i := 1278) (by decide +kernel), List.mem_of_getElem? (i := 1279) (by decide +kernel)⟩
theorem lw_p68 : lw_okq (⟨"RingInSandModel", "shine", "(I)I"⟩, 54) := ⟨⟨by decide +kernel, by decide +kernel⟩, List.mem_of_getElem? (i := 991) (by decide +kernel), List.mem_of_getElem? (i := 1285) (by decide +kernel), List.mem_of_getElem? (i := 1286) (by decide +kernel)⟩
theorem lw_p69 : lw_okq (⟨"RingInSandModel", "isUnder", "(I)Z"⟩, 54) := ⟨⟨by decide +kernel, by decide +kernel⟩, List.mem_of_getElem? (i := 991) (by decide +kernel), List.mem_of_getElem? (i := 1289) (by decide +kernel), List.mem_of_getElem? (i := 1290) (by decide +kernel)⟩
theorem lw_p70 : lw_okq (⟨"RingInSandModel", "isLooker", "(I)Z"⟩, 54) := ⟨⟨by decide +kernel, by decide +kernel⟩, List.mem_of_getElem? (i := 991) (by decide +kernel), List.mem_of_getElem? (i := 1297) (by decide +kernel), List.mem_of_getElem? (i := 1298) (by decide +kernel)⟩
theorem lw_p71 : lw_okq (⟨"RingInSandModel", "good", "(II)I"⟩, 54) := ⟨⟨by decide +kernel, by decide +kernel⟩, List.mem_of_getElem? (i := 991) (by decide +kernel), List.mem_of_getElem? (i := 1301) (by decide +kernel), List.mem_of_getElem? (i := 1302) (by decide +kernel)⟩
theorem lw_p72 : lw_okq (⟨"RingInSandModel", "finds", "(III)I"⟩, 54) := ⟨⟨by decide +kernel, by decide +kernel⟩, List.mem_of_getElem? (i := 991) (by decide +kernel), List.mem_of_getElem? (i := 1305) (by decide +kernel), List.mem_of_getElem? (i := 1306) (by decide +kernel)⟩
theorem lw_p73 : lw_okq (⟨"RingInSandModel", "takes", "(I)I"⟩, 54) := ⟨⟨by decide +kernel, by decide +kernel⟩, List.mem_of_getElem? (i := 991) (by decide +kernel), List.mem_of_getElem? (i := 1309) (by decide +kernel), List.mem_of_getElem? (i := 1310) (by decide +kernel)⟩
theorem lw_p74 : lw_okq (⟨"RingInSandModel", "stamps", "(I)I"⟩, 54) := ⟨⟨by decide +kernel, by decide +kernel⟩, List.mem_of_getElem? (i := 991) (by decide +kernel), List.mem_of_getElem? (i := 1313) (by decide +kernel), List.mem_of_getElem? (i := 1314) (by decide +kernel)⟩
theorem lw_p75 : lw_okq (⟨"RingInSandModel", "gain", "(II)I"⟩, 54) := ⟨⟨by decide +kernel, by decide +kernel⟩, List.mem_of_getElem? (i := 991) (by decide +kernel), List.mem_of_getElem? (i := 1317) (by decide +kernel), List.mem_of_getElem? (i := 1318) (by decide +kernel)⟩
theorem lw_p76 : lw_okq (⟨"RingInSandModel", "looks", "(II)V"⟩, 54) := ⟨⟨by decide +kernel, by decide +kernel⟩, List.mem_of_getElem? (i := 991) (by decide +kernel), List.mem_of_getElem? (i := 1325) (by decide +kernel), List.mem_of_getElem? (i := 1326) (by decide +kernel)⟩
theorem lw_p77 : lw_okq (⟨"RingInSandModel", "best", "()V"⟩, 54) := ⟨⟨by decide +kernel, by decide +kernel⟩, List.mem_of_getElem? (i := 991) (by decide +kernel), List.mem_of_getElem? (i := 1334) (by decide +kernel), List.mem_of_getElem? (i := 1335) (by decide +kernel)⟩
theorem lw_p78 : lw_okq (⟨"RingInSandModel", "plans", "(I)V"⟩, 54) := ⟨⟨by decide +kernel, by decide +kernel⟩, List.mem_of_getElem? (i := 991) (by decide +kernel), List.mem_of_getElem? (i := 1347) (by decide +kernel), List.mem_of_getElem? (i := 1348) (by decide +kernel)⟩
theorem lw_p79 : lw_okq (⟨"RingInSandModel", "laysAside", "()V"⟩, 54) := ⟨⟨by decide +kernel, by decide +kernel⟩, List.mem_of_getElem? (i := 991) (by decide +kernel), List.mem_of_getElem? (i := 1351) (by decide +kernel), List.mem_of_getElem? (i := 1352) (by decide +kernel)⟩
def lw_privs_5 : List (MethodName × Nat) := [(⟨"RingInSandModel", "isSign", "(I)Z"⟩, 54), (⟨"RingInSandModel", "name", "()I"⟩, 54), (⟨"RingInSandModel", "deep", "(I)I"⟩, 54), (⟨"RingInSandModel", "says", "(III)I"⟩, 54), (⟨"RingInSandModel", "shine", "(I)I"⟩, 54), (⟨"RingInSandModel", "isUnder", "(I)Z"⟩, 54), (⟨"RingInSandModel", "isLooker", "(I)Z"⟩, 54), (⟨"RingInSandModel", "good", "(II)I"⟩, 54), (⟨"RingInSandModel", "finds", "(III)I"⟩, 54), (⟨"RingInSandModel", "takes", "(I)I"⟩, 54), (⟨"RingInSandModel", "stamps", "(I)I"⟩, 54), (⟨"RingInSandModel", "gain", "(II)I"⟩, 54), (⟨"RingInSandModel", "looks", "(II)V"⟩, 54), (⟨"RingInSandModel", "best", "()V"⟩, 54), (⟨"RingInSandModel", "plans", "(I)V"⟩, 54), (⟨"RingInSandModel", "laysAside", "()V"⟩, 54)]
theorem lw_r5 : ∀ q ∈ lw_privs_5, lw_okq q := List.forall_mem_cons.mpr ⟨lw_p64, List.forall_mem_cons.mpr ⟨lw_p65, List.forall_mem_cons.mpr ⟨lw_p66, List.forall_mem_cons.mpr ⟨lw_p67, List.forall_mem_cons.mpr ⟨lw_p68, List.forall_mem_cons.mpr ⟨lw_p69, List.forall_mem_cons.mpr ⟨lw_p70, List.forall_mem_cons.mpr ⟨lw_p71, List.forall_mem_cons.mpr ⟨lw_p72, List.forall_mem_cons.mpr ⟨lw_p73, List.forall_mem_cons.mpr ⟨lw_p74, List.forall_mem_cons.mpr ⟨lw_p75, List.forall_mem_cons.mpr ⟨lw_p76, List.forall_mem_cons.mpr ⟨lw_p77, List.forall_mem_cons.mpr ⟨lw_p78, List.forall_mem_cons.mpr ⟨lw_p79, fun _ h => absurd h List.not_mem_nil⟩⟩⟩⟩⟩⟩⟩⟩⟩⟩⟩⟩⟩⟩⟩⟩
theorem lw_p80 : lw_okq (⟨"RingInSandModel", "laysBack", "()V"⟩, 54) := ⟨⟨by decide +kernel, by decide +kernel⟩, List.mem_of_getElem? (i := 991) (by decide +kernel), List.mem_of_getElem? (i := 1355) (by decide +kernel), List.mem_of_getElem? (i := 1356) (by decide +kernel)⟩
theorem lw_p81 : lw_okq (⟨"RingInSandModel", "onCells", "()I"⟩, 54) := ⟨⟨by decide +kernel, by decide +kernel⟩, List.mem_of_getElem? (i := 991) (by decide +kernel), List.mem_of_getElem? (i := 1372) (by decide +kernel), List.mem_of_getElem? (i := 1373) (by decide +kernel)⟩
theorem lw_p82 : lw_okq (⟨"RingInSandModel", "drownedNow", "()I"⟩, 54) := ⟨⟨by decide +kernel, by decide +kernel⟩, List.mem_of_getElem? (i := 991) (by decide +kernel), List.mem_of_getElem? (i := 1396) (by decide +kernel), List.mem_of_getElem? (i := 1397) (by decide +kernel)⟩
theorem lw_p83 : lw_okq (⟨"RingInSandModel", "more", "(II)V"⟩, 54) := ⟨⟨by decide +kernel, by decide +kernel⟩, List.mem_of_getElem? (i := 991) (by decide +kernel), List.mem_of_getElem? (i := 1409) (by decide +kernel), List.mem_of_getElem? (i := 1410) (by decide +kernel)⟩
theorem lw_p84 : lw_okq (⟨"RingInSandModel", "judges", "(I)I"⟩, 54) := ⟨⟨by decide +kernel, by decide +kernel⟩, List.mem_of_getElem? (i := 991) (by decide +kernel), List.mem_of_getElem? (i := 1423) (by decide +kernel), List.mem_of_getElem? (i := 1424) (by decide +kernel)⟩
def lw_privs_6 : List (MethodName × Nat) := [(⟨"RingInSandModel", "laysBack", "()V"⟩, 54), (⟨"RingInSandModel", "onCells", "()I"⟩, 54), (⟨"RingInSandModel", "drownedNow", "()I"⟩, 54), (⟨"RingInSandModel", "more", "(II)V"⟩, 54), (⟨"RingInSandModel", "judges", "(I)I"⟩, 54)]
theorem lw_r6 : ∀ q ∈ lw_privs_6, lw_okq q := List.forall_mem_cons.mpr ⟨lw_p80, List.forall_mem_cons.mpr ⟨lw_p81, List.forall_mem_cons.mpr ⟨lw_p82, List.forall_mem_cons.mpr ⟨lw_p83, List.forall_mem_cons.mpr ⟨lw_p84, fun _ h => absurd h List.not_mem_nil⟩⟩⟩⟩⟩
def lw_privs : List (MethodName × Nat) := lw_privs_1 ++ (lw_privs_2 ++ (lw_privs_3 ++ (lw_privs_4 ++ (lw_privs_5 ++ (lw_privs_6)))))
def lw_tbl : List Cond := k2_sels lw_privs ++ tables_1
theorem lw_privs_ok : ∀ q ∈ lw_privs, lw_okq q := by
  show ∀ q ∈ lw_privs_1 ++ (lw_privs_2 ++ (lw_privs_3 ++ (lw_privs_4 ++ (lw_privs_5 ++ (lw_privs_6))))), lw_okq q
  exact List.forall_mem_append.mpr ⟨lw_r1, List.forall_mem_append.mpr ⟨lw_r2, List.forall_mem_append.mpr ⟨lw_r3, List.forall_mem_append.mpr ⟨lw_r4, List.forall_mem_append.mpr ⟨lw_r5, lw_r6⟩⟩⟩⟩⟩
def RX0 : String := "RingInSand$Beach"
def TX0 : u_T := fun k => match k with
  | 0 => ("RingInSand$Beach", "odds", "[I", true)
  | 1 => ("RingInSand$Beach", "treads", "[I", true)
  | 2 => ("RingInSand$Beach", "bag", "I", false)
  | 3 => ("RingInSand$Beach", "hour", "I", false)
  | 4 => ("RingInSand$Beach", "minutes", "I", false)
  | _ => ("RingInSand$Beach", "rule", "I", false)
def tyX0 : Nat → FieldType := fun k => match k with
  | 0 => .array .int
  | 1 => .array .int
  | 2 => .int
  | 3 => .int
  | 4 => .int
  | _ => .int
abbrev wsX00 : List Cond := u_ws RX0 TX0 6
theorem nmX0 : ∀ a, a < 6 → ∀ b, b < 6 → a ≠ b → (TX0 a).2.1 ≠ (TX0 b).2.1 := by decide +kernel
theorem tyX0_ok : ∀ k, k < 6 → parseFieldDescriptor (TX0 k).2.2.1 = some (tyX0 k) := by decide +kernel
abbrev cX0_init : ByteArray := prog_2_method_1_code
def yX0_init : MethodName := ⟨RX0, "<init>", "()V"⟩
abbrev cX0_become : ByteArray := prog_2_method_2_code
def yX0_become : MethodName := ⟨RX0, "become", "(LRingInSand$Beach;)V"⟩
abbrev cX0_oddsAt : ByteArray := prog_2_method_3_code
def yX0_oddsAt : MethodName := ⟨RX0, "oddsAt", "(I)I"⟩
abbrev cX0_treadsAt : ByteArray := prog_2_method_4_code
def yX0_treadsAt : MethodName := ⟨RX0, "treadsAt", "(I)I"⟩
abbrev cX0_addOdds : ByteArray := prog_2_method_5_code
def yX0_addOdds : MethodName := ⟨RX0, "addOdds", "(II)V"⟩
abbrev cX0_addTreads : ByteArray := prog_2_method_6_code
def yX0_addTreads : MethodName := ⟨RX0, "addTreads", "(II)V"⟩
abbrev cX0_thinOdds : ByteArray := prog_2_method_7_code
def yX0_thinOdds : MethodName := ⟨RX0, "thinOdds", "(II)V"⟩
abbrev cX0_pass : ByteArray := prog_2_method_8_code
def yX0_pass : MethodName := ⟨RX0, "pass", "(I)V"⟩
abbrev cX0_oddsOnCells : ByteArray := prog_2_method_9_code
def yX0_oddsOnCells : MethodName := ⟨RX0, "oddsOnCells", "()I"⟩
abbrev cX0_allOdds : ByteArray := prog_2_method_10_code
def yX0_allOdds : MethodName := ⟨RX0, "allOdds", "()I"⟩
abbrev cX0_allTreads : ByteArray := prog_2_method_11_code
def yX0_allTreads : MethodName := ⟨RX0, "allTreads", "()I"⟩
abbrev cX0_cellOfMostOdds : ByteArray := prog_2_method_12_code
def yX0_cellOfMostOdds : MethodName := ⟨RX0, "cellOfMostOdds", "()I"⟩
abbrev cX0_cellBehind : ByteArray := prog_2_method_13_code
def yX0_cellBehind : MethodName := ⟨RX0, "cellBehind", "(I)I"⟩
def RX1 : String := "RingInSand$Eyes"
def TX1 : u_T := fun k => match k with
  | _ => ("RingInSand$Eyes", "number", "I", true)
def tyX1 : Nat → FieldType := fun k => match k with
  | _ => .int
abbrev wsX10 : List Cond := u_ws RX1 TX1 1
theorem nmX1 : ∀ a, a < 1 → ∀ b, b < 1 → a ≠ b → (TX1 a).2.1 ≠ (TX1 b).2.1 := by decide +kernel
theorem tyX1_ok : ∀ k, k < 1 → parseFieldDescriptor (TX1 k).2.2.1 = some (tyX1 k) := by decide +kernel
abbrev cX1_init : ByteArray := prog_3_method_1_code
def yX1_init : MethodName := ⟨RX1, "<init>", "(I)V"⟩
abbrev cX1_finds : ByteArray := prog_3_method_2_code
def yX1_finds : MethodName := ⟨RX1, "finds", "(II)I"⟩
abbrev cX1_takes : ByteArray := prog_3_method_3_code
def yX1_takes : MethodName := ⟨RX1, "takes", "()I"⟩
abbrev cX1_stamps : ByteArray := prog_3_method_4_code
def yX1_stamps : MethodName := ⟨RX1, "stamps", "()I"⟩
def RX2 : String := "RingInSand$Hands"
def TX2 : u_T := fun k => match k with
  | _ => ("RingInSand$Eyes", "number", "I", true)
def tyX2 : Nat → FieldType := fun k => match k with
  | _ => .int
abbrev wsX20 : List Cond := u_ws RX2 TX2 1
theorem nmX2 : ∀ a, a < 1 → ∀ b, b < 1 → a ≠ b → (TX2 a).2.1 ≠ (TX2 b).2.1 := by decide +kernel
theorem tyX2_ok : ∀ k, k < 1 → parseFieldDescriptor (TX2 k).2.2.1 = some (tyX2 k) := by decide +kernel
abbrev cX2_init : ByteArray := prog_4_method_1_code
def yX2_init : MethodName := ⟨RX2, "<init>", "(I)V"⟩
abbrev cX2_finds : ByteArray := prog_4_method_2_code
def yX2_finds : MethodName := ⟨RX2, "finds", "(II)I"⟩
abbrev cX2_takes : ByteArray := prog_4_method_3_code
def yX2_takes : MethodName := ⟨RX2, "takes", "()I"⟩
abbrev cX2_stamps : ByteArray := prog_4_method_4_code
def yX2_stamps : MethodName := ⟨RX2, "stamps", "()I"⟩
def RX3 : String := "RingInSand$Lad"
def TX3 : u_T := fun k => match k with
  | _ => ("RingInSand$Eyes", "number", "I", true)
def tyX3 : Nat → FieldType := fun k => match k with
  | _ => .int
abbrev wsX30 : List Cond := u_ws RX3 TX3 1
theorem nmX3 : ∀ a, a < 1 → ∀ b, b < 1 → a ≠ b → (TX3 a).2.1 ≠ (TX3 b).2.1 := by decide +kernel
theorem tyX3_ok : ∀ k, k < 1 → parseFieldDescriptor (TX3 k).2.2.1 = some (tyX3 k) := by decide +kernel
abbrev cX3_init : ByteArray := prog_5_method_1_code
def yX3_init : MethodName := ⟨RX3, "<init>", "(I)V"⟩
abbrev cX3_finds : ByteArray := prog_5_method_2_code
def yX3_finds : MethodName := ⟨RX3, "finds", "(II)I"⟩
abbrev cX3_takes : ByteArray := prog_5_method_3_code
def yX3_takes : MethodName := ⟨RX3, "takes", "()I"⟩
abbrev cX3_stamps : ByteArray := prog_5_method_4_code
def yX3_stamps : MethodName := ⟨RX3, "stamps", "()I"⟩
def RX4 : String := "RingInSand$Plate"
def TX4 : u_T := fun k => match k with
  | _ => ("RingInSand$Eyes", "number", "I", true)
def tyX4 : Nat → FieldType := fun k => match k with
  | _ => .int
abbrev wsX40 : List Cond := u_ws RX4 TX4 1
theorem nmX4 : ∀ a, a < 1 → ∀ b, b < 1 → a ≠ b → (TX4 a).2.1 ≠ (TX4 b).2.1 := by decide +kernel
theorem tyX4_ok : ∀ k, k < 1 → parseFieldDescriptor (TX4 k).2.2.1 = some (tyX4 k) := by decide +kernel
abbrev cX4_init : ByteArray := prog_6_method_1_code
def yX4_init : MethodName := ⟨RX4, "<init>", "(I)V"⟩
abbrev cX4_finds : ByteArray := prog_6_method_2_code
def yX4_finds : MethodName := ⟨RX4, "finds", "(II)I"⟩
abbrev cX4_takes : ByteArray := prog_6_method_3_code
def yX4_takes : MethodName := ⟨RX4, "takes", "()I"⟩
def RX5 : String := "RingInSand$Rules"
def TX5 : u_T := fun k => match k with
  | 0 => ("RingInSand$Rules", "code", "[I", true)
  | 1 => ("RingInSand$Rules", "ends", "[I", true)
  | 2 => ("RingInSand$Rules", "size", "I", false)
  | 3 => ("RingInSand$Rules", "names", "[I", true)
  | 4 => ("RingInSand$Rules", "stack", "[I", true)
  | 5 => ("RingInSand$Rules", "height", "I", false)
  | 6 => ("RingInSand$Rules", "keys", "[I", true)
  | 7 => ("RingInSand$Rules", "deeps", "[I", true)
  | 8 => ("RingInSand$Rules", "seas", "[I", true)
  | 9 => ("RingInSand$Rules", "shines", "[I", true)
  | 10 => ("RingInSand$Rules", "deep", "I", false)
  | 11 => ("RingInSand$Rules", "wet", "Z", false)
  | _ => ("RingInSand$Rules", "shine", "I", false)
def tyX5 : Nat → FieldType := fun k => match k with
  | 0 => .array .int
  | 1 => .array .int
  | 2 => .int
  | 3 => .array .int
  | 4 => .array .int
  | 5 => .int
  | 6 => .array .int
  | 7 => .array .int
  | 8 => .array .int
  | 9 => .array .int
  | 10 => .int
  | 11 => .boolean
  | _ => .int
abbrev wsX50 : List Cond := u_ws RX5 TX5 13
theorem nmX5 : ∀ a, a < 13 → ∀ b, b < 13 → a ≠ b → (TX5 a).2.1 ≠ (TX5 b).2.1 := by decide +kernel
theorem tyX5_ok : ∀ k, k < 13 → parseFieldDescriptor (TX5 k).2.2.1 = some (tyX5 k) := by decide +kernel
abbrev cX5_init : ByteArray := prog_7_method_1_code
def yX5_init : MethodName := ⟨RX5, "<init>", "()V"⟩
abbrev cX5_isFull : ByteArray := prog_7_method_2_code
def yX5_isFull : MethodName := ⟨RX5, "isFull", "()Z"⟩
abbrev cX5_hasText : ByteArray := prog_7_method_3_code
def yX5_hasText : MethodName := ⟨RX5, "hasText", "(I)Z"⟩
abbrev cX5_addFrom : ByteArray := prog_7_method_4_code
def yX5_addFrom : MethodName := ⟨RX5, "addFrom", "(LRingInSand$Tape;)V"⟩
abbrev cX5_survey : ByteArray := prog_7_method_5_code
def yX5_survey : MethodName := ⟨RX5, "survey", "(LRingInSand$Beach;I)V"⟩
abbrev cX5_isWetBy : ByteArray := prog_7_method_6_code
def yX5_isWetBy : MethodName := ⟨RX5, "isWetBy", "(IIII)Z"⟩
abbrev cX5_stand : ByteArray := prog_7_method_7_code
def yX5_stand : MethodName := ⟨RX5, "stand", "(III)V"⟩
abbrev cX5_value : ByteArray := prog_7_method_8_code
def yX5_value : MethodName := ⟨RX5, "value", "(II)I"⟩
abbrev cX5_take : ByteArray := prog_7_method_9_code
def yX5_take : MethodName := ⟨RX5, "take", "(I)V"⟩
abbrev cX5_joined : ByteArray := prog_7_method_10_code
def yX5_joined : MethodName := ⟨RX5, "joined", "(III)I"⟩
abbrev cX5_push : ByteArray := prog_7_method_11_code
def yX5_push : MethodName := ⟨RX5, "push", "(I)V"⟩
abbrev cX5_pop : ByteArray := prog_7_method_12_code
def yX5_pop : MethodName := ⟨RX5, "pop", "()I"⟩
def RX6 : String := "RingInSand$Sheet"
def TX6 : u_T := fun k => match k with
  | 0 => ("RingInSand$Sheet", "items", "[I", true)
  | 1 => ("RingInSand$Sheet", "sort", "I", false)
  | _ => ("RingInSand$Sheet", "size", "I", false)
def tyX6 : Nat → FieldType := fun k => match k with
  | 0 => .array .int
  | 1 => .int
  | _ => .int
abbrev wsX60 : List Cond := u_ws RX6 TX6 3
theorem nmX6 : ∀ a, a < 3 → ∀ b, b < 3 → a ≠ b → (TX6 a).2.1 ≠ (TX6 b).2.1 := by decide +kernel
theorem tyX6_ok : ∀ k, k < 3 → parseFieldDescriptor (TX6 k).2.2.1 = some (tyX6 k) := by decide +kernel
abbrev cX6_init : ByteArray := prog_8_method_1_code
def yX6_init : MethodName := ⟨RX6, "<init>", "()V"⟩
abbrev cX6_isMissing : ByteArray := prog_8_method_2_code
def yX6_isMissing : MethodName := ⟨RX6, "isMissing", "()Z"⟩
abbrev cX6_isOdd : ByteArray := prog_8_method_3_code
def yX6_isOdd : MethodName := ⟨RX6, "isOdd", "()Z"⟩
abbrev cX6_remove : ByteArray := prog_8_method_4_code
def yX6_remove : MethodName := ⟨RX6, "remove", "()V"⟩
abbrev cX6_lay : ByteArray := prog_8_method_5_code
def yX6_lay : MethodName := ⟨RX6, "lay", "(II)V"⟩
abbrev cX6_hasItem : ByteArray := prog_8_method_6_code
def yX6_hasItem : MethodName := ⟨RX6, "hasItem", "(I)Z"⟩
abbrev cX6_hasRange : ByteArray := prog_8_method_7_code
def yX6_hasRange : MethodName := ⟨RX6, "hasRange", "(II)Z"⟩
abbrev cX6_itemAt : ByteArray := prog_8_method_8_code
def yX6_itemAt : MethodName := ⟨RX6, "itemAt", "(I)I"⟩
abbrev cX6_put : ByteArray := prog_8_method_9_code
def yX6_put : MethodName := ⟨RX6, "put", "(II)V"⟩
abbrev cX6_narrowed : ByteArray := prog_8_method_10_code
def yX6_narrowed : MethodName := ⟨RX6, "narrowed", "(I)I"⟩
def RX7 : String := "RingInSand$Sieve"
def TX7 : u_T := fun k => match k with
  | _ => ("RingInSand$Eyes", "number", "I", true)
def tyX7 : Nat → FieldType := fun k => match k with
  | _ => .int
abbrev wsX70 : List Cond := u_ws RX7 TX7 1
theorem nmX7 : ∀ a, a < 1 → ∀ b, b < 1 → a ≠ b → (TX7 a).2.1 ≠ (TX7 b).2.1 := by decide +kernel
theorem tyX7_ok : ∀ k, k < 1 → parseFieldDescriptor (TX7 k).2.2.1 = some (tyX7 k) := by decide +kernel
abbrev cX7_init : ByteArray := prog_9_method_1_code
def yX7_init : MethodName := ⟨RX7, "<init>", "(I)V"⟩
abbrev cX7_finds : ByteArray := prog_9_method_2_code
def yX7_finds : MethodName := ⟨RX7, "finds", "(II)I"⟩
abbrev cX7_takes : ByteArray := prog_9_method_3_code
def yX7_takes : MethodName := ⟨RX7, "takes", "()I"⟩
abbrev cX7_stamps : ByteArray := prog_9_method_4_code
def yX7_stamps : MethodName := ⟨RX7, "stamps", "()I"⟩
def RX8 : String := "RingInSand$Spade"
def TX8 : u_T := fun k => match k with
  | _ => ("RingInSand$Eyes", "number", "I", true)
def tyX8 : Nat → FieldType := fun k => match k with
  | _ => .int
abbrev wsX80 : List Cond := u_ws RX8 TX8 1
theorem nmX8 : ∀ a, a < 1 → ∀ b, b < 1 → a ≠ b → (TX8 a).2.1 ≠ (TX8 b).2.1 := by decide +kernel
theorem tyX8_ok : ∀ k, k < 1 → parseFieldDescriptor (TX8 k).2.2.1 = some (tyX8 k) := by decide +kernel
abbrev cX8_init : ByteArray := prog_10_method_1_code
def yX8_init : MethodName := ⟨RX8, "<init>", "(I)V"⟩
abbrev cX8_finds : ByteArray := prog_10_method_2_code
def yX8_finds : MethodName := ⟨RX8, "finds", "(II)I"⟩
abbrev cX8_takes : ByteArray := prog_10_method_3_code
def yX8_takes : MethodName := ⟨RX8, "takes", "()I"⟩
def RX9 : String := "RingInSand$Steps"
def TX9 : u_T := fun k => match k with
  | 0 => ("RingInSand$Steps", "cells", "[I", true)
  | 1 => ("RingInSand$Steps", "gains", "[I", true)
  | 2 => ("RingInSand$Steps", "size", "I", false)
  | 3 => ("RingInSand$Steps", "allGains", "I", false)
  | _ => ("RingInSand$Steps", "allMinutes", "I", false)
def tyX9 : Nat → FieldType := fun k => match k with
  | 0 => .array .int
  | 1 => .array .int
  | 2 => .int
  | 3 => .int
  | _ => .int
abbrev wsX90 : List Cond := u_ws RX9 TX9 5
theorem nmX9 : ∀ a, a < 5 → ∀ b, b < 5 → a ≠ b → (TX9 a).2.1 ≠ (TX9 b).2.1 := by decide +kernel
theorem tyX9_ok : ∀ k, k < 5 → parseFieldDescriptor (TX9 k).2.2.1 = some (tyX9 k) := by decide +kernel
abbrev cX9_init : ByteArray := prog_11_method_1_code
def yX9_init : MethodName := ⟨RX9, "<init>", "()V"⟩
abbrev cX9_clear : ByteArray := prog_11_method_2_code
def yX9_clear : MethodName := ⟨RX9, "clear", "()V"⟩
abbrev cX9_add : ByteArray := prog_11_method_3_code
def yX9_add : MethodName := ⟨RX9, "add", "(III)V"⟩
abbrev cX9_cellAt : ByteArray := prog_11_method_4_code
def yX9_cellAt : MethodName := ⟨RX9, "cellAt", "(I)I"⟩
abbrev cX9_sizeAheadOf : ByteArray := prog_11_method_5_code
def yX9_sizeAheadOf : MethodName := ⟨RX9, "sizeAheadOf", "(I)I"⟩
abbrev cX9_hasCell : ByteArray := prog_11_method_6_code
def yX9_hasCell : MethodName := ⟨RX9, "hasCell", "(I)Z"⟩
def RX10 : String := "RingInSand$Tape"
def TX10 : u_T := fun k => match k with
  | 0 => ("RingInSand$Tape", "bytes", "[I", true)
  | 1 => ("RingInSand$Tape", "size", "I", false)
  | 2 => ("RingInSand$Tape", "fault", "I", false)
  | 3 => ("RingInSand$Tape", "tokens", "[I", true)
  | 4 => ("RingInSand$Tape", "worths", "[I", true)
  | 5 => ("RingInSand$Tape", "places", "[I", true)
  | 6 => ("RingInSand$Tape", "tokensSize", "I", false)
  | 7 => ("RingInSand$Tape", "at", "I", false)
  | 8 => ("RingInSand$Tape", "token", "I", false)
  | 9 => ("RingInSand$Tape", "open", "I", false)
  | 10 => ("RingInSand$Tape", "code", "[I", true)
  | 11 => ("RingInSand$Tape", "codeSize", "I", false)
  | 12 => ("RingInSand$Tape", "deepEnd", "I", false)
  | _ => ("RingInSand$Tape", "seaEnd", "I", false)
def tyX10 : Nat → FieldType := fun k => match k with
  | 0 => .array .int
  | 1 => .int
  | 2 => .int
  | 3 => .array .int
  | 4 => .array .int
  | 5 => .array .int
  | 6 => .int
  | 7 => .int
  | 8 => .int
  | 9 => .int
  | 10 => .array .int
  | 11 => .int
  | 12 => .int
  | _ => .int
abbrev wsX100 : List Cond := u_ws RX10 TX10 14
theorem nmX10 : ∀ a, a < 14 → ∀ b, b < 14 → a ≠ b → (TX10 a).2.1 ≠ (TX10 b).2.1 := by decide +kernel
theorem tyX10_ok : ∀ k, k < 14 → parseFieldDescriptor (TX10 k).2.2.1 = some (tyX10 k) := by decide +kernel
abbrev cX10_init : ByteArray := prog_12_method_1_code
def yX10_init : MethodName := ⟨RX10, "<init>", "()V"⟩
abbrev cX10_append : ByteArray := prog_12_method_2_code
def yX10_append : MethodName := ⟨RX10, "append", "(I)Z"⟩
abbrev cX10_clear : ByteArray := prog_12_method_3_code
def yX10_clear : MethodName := ⟨RX10, "clear", "()V"⟩
abbrev cX10_stepAt : ByteArray := prog_12_method_4_code
def yX10_stepAt : MethodName := ⟨RX10, "stepAt", "(I)I"⟩
abbrev cX10_readText : ByteArray := prog_12_method_5_code
def yX10_readText : MethodName := ⟨RX10, "readText", "()Z"⟩
abbrev cX10_readPart : ByteArray := prog_12_method_6_code
def yX10_readPart : MethodName := ⟨RX10, "readPart", "(I)Z"⟩
abbrev cX10_readOr : ByteArray := prog_12_method_7_code
def yX10_readOr : MethodName := ⟨RX10, "readOr", "()Z"⟩
abbrev cX10_readAnd : ByteArray := prog_12_method_8_code
def yX10_readAnd : MethodName := ⟨RX10, "readAnd", "()Z"⟩
abbrev cX10_readNot : ByteArray := prog_12_method_9_code
def yX10_readNot : MethodName := ⟨RX10, "readNot", "()Z"⟩
abbrev cX10_readComparison : ByteArray := prog_12_method_10_code
def yX10_readComparison : MethodName := ⟨RX10, "readComparison", "()Z"⟩
abbrev cX10_readSum : ByteArray := prog_12_method_11_code
def yX10_readSum : MethodName := ⟨RX10, "readSum", "()Z"⟩
abbrev cX10_readTerm : ByteArray := prog_12_method_12_code
def yX10_readTerm : MethodName := ⟨RX10, "readTerm", "()Z"⟩
abbrev cX10_readOne : ByteArray := prog_12_method_13_code
def yX10_readOne : MethodName := ⟨RX10, "readOne", "()Z"⟩
abbrev cX10_readNegated : ByteArray := prog_12_method_14_code
def yX10_readNegated : MethodName := ⟨RX10, "readNegated", "()Z"⟩
abbrev cX10_readBracket : ByteArray := prog_12_method_15_code
def yX10_readBracket : MethodName := ⟨RX10, "readBracket", "()Z"⟩
abbrev cX10_enter : ByteArray := prog_12_method_16_code
def yX10_enter : MethodName := ⟨RX10, "enter", "()Z"⟩
abbrev cX10_expect : ByteArray := prog_12_method_17_code
def yX10_expect : MethodName := ⟨RX10, "expect", "(I)Z"⟩
abbrev cX10_refuse : ByteArray := prog_12_method_18_code
def yX10_refuse : MethodName := ⟨RX10, "refuse", "()Z"⟩
abbrev cX10_goTo : ByteArray := prog_12_method_19_code
def yX10_goTo : MethodName := ⟨RX10, "goTo", "(I)V"⟩
abbrev cX10_worthHere : ByteArray := prog_12_method_20_code
def yX10_worthHere : MethodName := ⟨RX10, "worthHere", "()I"⟩
abbrev cX10_emit : ByteArray := prog_12_method_21_code
def yX10_emit : MethodName := ⟨RX10, "emit", "(I)V"⟩
abbrev cX10_splitTokens : ByteArray := prog_12_method_22_code
def yX10_splitTokens : MethodName := ⟨RX10, "splitTokens", "()V"⟩
abbrev cX10_addToken : ByteArray := prog_12_method_23_code
def yX10_addToken : MethodName := ⟨RX10, "addToken", "(III)V"⟩
abbrev cX10_addNumber : ByteArray := prog_12_method_24_code
def yX10_addNumber : MethodName := ⟨RX10, "addNumber", "(II)V"⟩
abbrev cX10_addWord : ByteArray := prog_12_method_25_code
def yX10_addWord : MethodName := ⟨RX10, "addWord", "(II)V"⟩
abbrev cX10_endOfWord : ByteArray := prog_12_method_26_code
def yX10_endOfWord : MethodName := ⟨RX10, "endOfWord", "(I)I"⟩
abbrev cX10_endOfNumber : ByteArray := prog_12_method_27_code
def yX10_endOfNumber : MethodName := ⟨RX10, "endOfNumber", "(I)I"⟩
abbrev cX10_nameOf : ByteArray := prog_12_method_28_code
def yX10_nameOf : MethodName := ⟨RX10, "nameOf", "(II)I"⟩
abbrev cX10_keyOf : ByteArray := prog_12_method_29_code
def yX10_keyOf : MethodName := ⟨RX10, "keyOf", "(II)I"⟩
abbrev cX10_isWord : ByteArray := prog_12_method_30_code
def yX10_isWord : MethodName := ⟨RX10, "isWord", "(Ljava/lang/String;II)Z"⟩
abbrev cX10_byteAt : ByteArray := prog_12_method_31_code
def yX10_byteAt : MethodName := ⟨RX10, "byteAt", "(I)I"⟩
abbrev cX10_isLetter : ByteArray := prog_12_method_32_code
def yX10_isLetter : MethodName := ⟨RX10, "isLetter", "(I)Z"⟩
abbrev cX10_isDigit : ByteArray := prog_12_method_33_code
def yX10_isDigit : MethodName := ⟨RX10, "isDigit", "(I)Z"⟩
abbrev cX10_isSign : ByteArray := prog_12_method_34_code
def yX10_isSign : MethodName := ⟨RX10, "isSign", "(I)Z"⟩
def RX11 : String := "RingInSand"
def TX11 : u_T := fun k => match k with
  | 0 => ("RingInSand", "now", "LRingInSand$Beach;", true)
  | 1 => ("RingInSand", "thought", "LRingInSand$Beach;", true)
  | 2 => ("RingInSand", "kept", "LRingInSand$Beach;", true)
  | 3 => ("RingInSand", "isKept", "Z", false)
  | 4 => ("RingInSand", "party", "[LRingInSand$Eyes;", true)
  | 5 => ("RingInSand", "partySize", "I", false)
  | 6 => ("RingInSand", "tape", "LRingInSand$Tape;", true)
  | 7 => ("RingInSand", "rules", "LRingInSand$Rules;", true)
  | 8 => ("RingInSand", "steps", "LRingInSand$Steps;", true)
  | 9 => ("RingInSand", "sheets", "[LRingInSand$Sheet;", true)
  | 10 => ("RingInSand", "bestLooker", "I", false)
  | 11 => ("RingInSand", "bestCell", "I", false)
  | 12 => ("RingInSand", "bestRate", "I", false)
  | _ => ("RingInSand", "judgedGains", "I", false)
def tyX11 : Nat → FieldType := fun k => match k with
  | 0 => .object "RingInSand$Beach"
  | 1 => .object "RingInSand$Beach"
  | 2 => .object "RingInSand$Beach"
  | 3 => .boolean
  | 4 => .array (.object "RingInSand$Eyes")
  | 5 => .int
  | 6 => .object "RingInSand$Tape"
  | 7 => .object "RingInSand$Rules"
  | 8 => .object "RingInSand$Steps"
  | 9 => .array (.object "RingInSand$Sheet")
  | 10 => .int
  | 11 => .int
  | 12 => .int
  | _ => .int
abbrev wsX110 : List Cond := u_ws RX11 TX11 14
theorem nmX11 : ∀ a, a < 14 → ∀ b, b < 14 → a ≠ b → (TX11 a).2.1 ≠ (TX11 b).2.1 := by decide +kernel
theorem tyX11_ok : ∀ k, k < 14 → parseFieldDescriptor (TX11 k).2.2.1 = some (tyX11 k) := by decide +kernel
abbrev cX11_init : ByteArray := prog_1_method_1_code
def yX11_init : MethodName := ⟨RX11, "<init>", "()V"⟩
abbrev cX11_set : ByteArray := prog_1_method_2_code
def yX11_set : MethodName := ⟨RX11, "set", "(III)I"⟩
abbrev cX11_told : ByteArray := prog_1_method_3_code
def yX11_told : MethodName := ⟨RX11, "told", "(II)I"⟩
abbrev cX11_looker : ByteArray := prog_1_method_4_code
def yX11_looker : MethodName := ⟨RX11, "looker", "(II)I"⟩
abbrev cX11_asks : ByteArray := prog_1_method_5_code
def yX11_asks : MethodName := ⟨RX11, "asks", "(III)I"⟩
abbrev cX11_feed : ByteArray := prog_1_method_6_code
def yX11_feed : MethodName := ⟨RX11, "feed", "(I)I"⟩
abbrev cX11_text : ByteArray := prog_1_method_7_code
def yX11_text : MethodName := ⟨RX11, "text", "()I"⟩
abbrev cX11_force : ByteArray := prog_1_method_8_code
def yX11_force : MethodName := ⟨RX11, "force", "(I)I"⟩
abbrev cX11_look : ByteArray := prog_1_method_9_code
def yX11_look : MethodName := ⟨RX11, "look", "(II)I"⟩
abbrev cX11_next : ByteArray := prog_1_method_10_code
def yX11_next : MethodName := ⟨RX11, "next", "(I)I"⟩
abbrev cX11_plan : ByteArray := prog_1_method_11_code
def yX11_plan : MethodName := ⟨RX11, "plan", "(II)I"⟩
abbrev cX11_planned : ByteArray := prog_1_method_12_code
def yX11_planned : MethodName := ⟨RX11, "planned", "(I)I"⟩
abbrev cX11_search : ByteArray := prog_1_method_13_code
def yX11_search : MethodName := ⟨RX11, "search", "()I"⟩
abbrev cX11_giveUp : ByteArray := prog_1_method_14_code
def yX11_giveUp : MethodName := ⟨RX11, "giveUp", "(I)I"⟩
abbrev cX11_likely : ByteArray := prog_1_method_15_code
def yX11_likely : MethodName := ⟨RX11, "likely", "(II)J"⟩
abbrev cX11_here : ByteArray := prog_1_method_16_code
def yX11_here : MethodName := ⟨RX11, "here", "(I)J"⟩
abbrev cX11_most : ByteArray := prog_1_method_17_code
def yX11_most : MethodName := ⟨RX11, "most", "(I)I"⟩
abbrev cX11_under : ByteArray := prog_1_method_18_code
def yX11_under : MethodName := ⟨RX11, "under", "(I)I"⟩
abbrev cX11_drowned : ByteArray := prog_1_method_19_code
def yX11_drowned : MethodName := ⟨RX11, "drowned", "(I)I"⟩
abbrev cX11_seen : ByteArray := prog_1_method_20_code
def yX11_seen : MethodName := ⟨RX11, "seen", "(II)I"⟩
abbrev cX11_crowd : ByteArray := prog_1_method_21_code
def yX11_crowd : MethodName := ⟨RX11, "crowd", "(III)I"⟩
abbrev cX11_judge : ByteArray := prog_1_method_22_code
def yX11_judge : MethodName := ⟨RX11, "judge", "(I)I"⟩
abbrev cX11_found : ByteArray := prog_1_method_23_code
def yX11_found : MethodName := ⟨RX11, "found", "(II)J"⟩
abbrev cX11_drawn : ByteArray := prog_1_method_24_code
def yX11_drawn : MethodName := ⟨RX11, "drawn", "(I)I"⟩
abbrev cX11_foundBy : ByteArray := prog_1_method_25_code
def yX11_foundBy : MethodName := ⟨RX11, "foundBy", "(II)I"⟩
abbrev cX11_image : ByteArray := prog_1_method_26_code
def yX11_image : MethodName := ⟨RX11, "image", "()I"⟩
abbrev cX11_back : ByteArray := prog_1_method_27_code
def yX11_back : MethodName := ⟨RX11, "back", "()I"⟩
abbrev cX11_count : ByteArray := prog_1_method_28_code
def yX11_count : MethodName := ⟨RX11, "count", "(I)I"⟩
abbrev cX11_sheet : ByteArray := prog_1_method_29_code
def yX11_sheet : MethodName := ⟨RX11, "sheet", "(III)I"⟩
abbrev cX11_cell : ByteArray := prog_1_method_30_code
def yX11_cell : MethodName := ⟨RX11, "cell", "(III)I"⟩
abbrev cX11_copy : ByteArray := prog_1_method_31_code
def yX11_copy : MethodName := ⟨RX11, "copy", "(IIIII)I"⟩
abbrev cX11_lookers : ByteArray := prog_1_method_32_code
def yX11_lookers : MethodName := ⟨RX11, "lookers", "(IIII)I"⟩
abbrev cX11_taken : ByteArray := prog_1_method_33_code
def yX11_taken : MethodName := ⟨RX11, "taken", "(II)I"⟩
abbrev cX11_isWithin : ByteArray := prog_1_method_34_code
def yX11_isWithin : MethodName := ⟨RX11, "isWithin", "(III)Z"⟩
abbrev cX11_bounded : ByteArray := prog_1_method_35_code
def yX11_bounded : MethodName := ⟨RX11, "bounded", "(III)I"⟩
abbrev cX11_isCell : ByteArray := prog_1_method_36_code
def yX11_isCell : MethodName := ⟨RX11, "isCell", "(I)Z"⟩
abbrev cX11_lookerAt : ByteArray := prog_1_method_37_code
def yX11_lookerAt : MethodName := ⟨RX11, "lookerAt", "(I)LRingInSand$Eyes;"⟩
abbrev cX11_sheetAt : ByteArray := prog_1_method_38_code
def yX11_sheetAt : MethodName := ⟨RX11, "sheetAt", "(I)LRingInSand$Sheet;"⟩
abbrev cX11_partOfQuotient : ByteArray := prog_1_method_39_code
def yX11_partOfQuotient : MethodName := ⟨RX11, "partOfQuotient", "(JJI)J"⟩
abbrev cX11_greatestDivisor : ByteArray := prog_1_method_40_code
def yX11_greatestDivisor : MethodName := ⟨RX11, "greatestDivisor", "(JJ)J"⟩
abbrev cX11_changeOdds : ByteArray := prog_1_method_41_code
def yX11_changeOdds : MethodName := ⟨RX11, "changeOdds", "(II)I"⟩
abbrev cX11_changeTreads : ByteArray := prog_1_method_42_code
def yX11_changeTreads : MethodName := ⟨RX11, "changeTreads", "(II)I"⟩
abbrev cX11_changeBag : ByteArray := prog_1_method_43_code
def yX11_changeBag : MethodName := ⟨RX11, "changeBag", "(I)I"⟩
abbrev cX11_changeHour : ByteArray := prog_1_method_44_code
def yX11_changeHour : MethodName := ⟨RX11, "changeHour", "(I)I"⟩
abbrev cX11_changeMinutes : ByteArray := prog_1_method_45_code
def yX11_changeMinutes : MethodName := ⟨RX11, "changeMinutes", "(I)I"⟩
abbrev cX11_ofKind : ByteArray := prog_1_method_46_code
def yX11_ofKind : MethodName := ⟨RX11, "ofKind", "(II)LRingInSand$Eyes;"⟩
abbrev cX11_isOfKind : ByteArray := prog_1_method_47_code
def yX11_isOfKind : MethodName := ⟨RX11, "isOfKind", "(LRingInSand$Eyes;I)Z"⟩
abbrev cX11_goodHere : ByteArray := prog_1_method_48_code
def yX11_goodHere : MethodName := ⟨RX11, "goodHere", "(LRingInSand$Eyes;)I"⟩
abbrev cX11_takesOf : ByteArray := prog_1_method_49_code
def yX11_takesOf : MethodName := ⟨RX11, "takesOf", "(LRingInSand$Eyes;)I"⟩
abbrev cX11_stampsOf : ByteArray := prog_1_method_50_code
def yX11_stampsOf : MethodName := ⟨RX11, "stampsOf", "(LRingInSand$Eyes;)I"⟩
abbrev cX11_gainOf : ByteArray := prog_1_method_51_code
def yX11_gainOf : MethodName := ⟨RX11, "gainOf", "(II)I"⟩
abbrev cX11_rateOf : ByteArray := prog_1_method_52_code
def yX11_rateOf : MethodName := ⟨RX11, "rateOf", "(II)I"⟩
abbrev cX11_gainByLook : ByteArray := prog_1_method_53_code
def yX11_gainByLook : MethodName := ⟨RX11, "gainByLook", "(LRingInSand$Beach;LRingInSand$Eyes;I)I"⟩
abbrev cX11_choose : ByteArray := prog_1_method_54_code
def yX11_choose : MethodName := ⟨RX11, "choose", "(LRingInSand$Beach;)Z"⟩
abbrev cX11_weighParty : ByteArray := prog_1_method_55_code
def yX11_weighParty : MethodName := ⟨RX11, "weighParty", "(II)V"⟩
abbrev cX11_makePlan : ByteArray := prog_1_method_56_code
def yX11_makePlan : MethodName := ⟨RX11, "makePlan", "(I)V"⟩
abbrev cX11_firstWrongRow : ByteArray := prog_1_method_57_code
def yX11_firstWrongRow : MethodName := ⟨RX11, "firstWrongRow", "(LRingInSand$Sheet;)I"⟩
abbrev cX11_isWetAt : ByteArray := prog_1_method_58_code
def yX11_isWetAt : MethodName := ⟨RX11, "isWetAt", "(II)Z"⟩
abbrev cX11_oddsUnderWater : ByteArray := prog_1_method_59_code
def yX11_oddsUnderWater : MethodName := ⟨RX11, "oddsUnderWater", "(I)I"⟩
abbrev cX11_hourOfMostDrowned : ByteArray := prog_1_method_60_code
def yX11_hourOfMostDrowned : MethodName := ⟨RX11, "hourOfMostDrowned", "()I"⟩
abbrev cX11_tellsCellsAlone : ByteArray := prog_1_method_61_code
def yX11_tellsCellsAlone : MethodName := ⟨RX11, "tellsCellsAlone", "(LRingInSand$Sheet;)Z"⟩
abbrev cX11_addPicture : ByteArray := prog_1_method_62_code
def yX11_addPicture : MethodName := ⟨RX11, "addPicture", "(II)V"⟩
def RX12 : String := "RingInSandModel"
def TX12 : u_T := fun k => match k with
  | 0 => ("RingInSandModel", "thrown", "I", false)
  | 1 => ("RingInSandModel", "texts", "[I", true)
  | 2 => ("RingInSandModel", "textSize", "[I", true)
  | 3 => ("RingInSandModel", "textCount", "I", false)
  | 4 => ("RingInSandModel", "rule", "I", false)
  | 5 => ("RingInSandModel", "tape", "[I", true)
  | 6 => ("RingInSandModel", "taped", "I", false)
  | 7 => ("RingInSandModel", "odds", "[I", true)
  | 8 => ("RingInSandModel", "treads", "[I", true)
  | 9 => ("RingInSandModel", "bag", "I", false)
  | 10 => ("RingInSandModel", "hour", "I", false)
  | 11 => ("RingInSandModel", "minute", "I", false)
  | 12 => ("RingInSandModel", "kinds", "[I", true)
  | 13 => ("RingInSandModel", "numbers", "[I", true)
  | 14 => ("RingInSandModel", "many", "I", false)
  | 15 => ("RingInSandModel", "ofY", "I", false)
  | 16 => ("RingInSandModel", "ofX", "I", false)
  | 17 => ("RingInSandModel", "ofDepth", "I", false)
  | 18 => ("RingInSandModel", "ofTrod", "I", false)
  | 19 => ("RingInSandModel", "ofHour", "I", false)
  | 20 => ("RingInSandModel", "ofSun", "I", false)
  | 21 => ("RingInSandModel", "from", "I", false)
  | 22 => ("RingInSandModel", "size", "I", false)
  | 23 => ("RingInSandModel", "here", "I", false)
  | 24 => ("RingInSandModel", "token", "I", false)
  | 25 => ("RingInSandModel", "tokenAt", "I", false)
  | 26 => ("RingInSandModel", "tokenWorth", "J", false)
  | 27 => ("RingInSandModel", "open", "I", false)
  | 28 => ("RingInSandModel", "bad", "Z", false)
  | 29 => ("RingInSandModel", "fault", "I", false)
  | 30 => ("RingInSandModel", "bestLooker", "I", false)
  | 31 => ("RingInSandModel", "bestCell", "I", false)
  | 32 => ("RingInSandModel", "bestPer", "I", false)
  | 33 => ("RingInSandModel", "firstPer", "[I", true)
  | 34 => ("RingInSandModel", "firstCell", "[I", true)
  | 35 => ("RingInSandModel", "oddsWas", "[I", true)
  | 36 => ("RingInSandModel", "treadsWas", "[I", true)
  | 37 => ("RingInSandModel", "hourWas", "I", false)
  | 38 => ("RingInSandModel", "minuteWas", "I", false)
  | 39 => ("RingInSandModel", "planCell", "[I", true)
  | 40 => ("RingInSandModel", "planGain", "[I", true)
  | 41 => ("RingInSandModel", "planLooks", "I", false)
  | 42 => ("RingInSandModel", "planTakes", "I", false)
  | 43 => ("RingInSandModel", "judgedGain", "I", false)
  | 44 => ("RingInSandModel", "oddsKept", "[I", true)
  | 45 => ("RingInSandModel", "treadsKept", "[I", true)
  | 46 => ("RingInSandModel", "hourKept", "I", false)
  | 47 => ("RingInSandModel", "minuteKept", "I", false)
  | 48 => ("RingInSandModel", "bagKept", "I", false)
  | 49 => ("RingInSandModel", "ruleKept", "I", false)
  | 50 => ("RingInSandModel", "isThere", "[Z", true)
  | 51 => ("RingInSandModel", "sorts", "[I", true)
  | 52 => ("RingInSandModel", "sheetSize", "[I", true)
  | _ => ("RingInSandModel", "items", "[I", true)
def tyX12 : Nat → FieldType := fun k => match k with
  | 0 => .int
  | 1 => .array .int
  | 2 => .array .int
  | 3 => .int
  | 4 => .int
  | 5 => .array .int
  | 6 => .int
  | 7 => .array .int
  | 8 => .array .int
  | 9 => .int
  | 10 => .int
  | 11 => .int
  | 12 => .array .int
  | 13 => .array .int
  | 14 => .int
  | 15 => .int
  | 16 => .int
  | 17 => .int
  | 18 => .int
  | 19 => .int
  | 20 => .int
  | 21 => .int
  | 22 => .int
  | 23 => .int
  | 24 => .int
  | 25 => .int
  | 26 => .long
  | 27 => .int
  | 28 => .boolean
  | 29 => .int
  | 30 => .int
  | 31 => .int
  | 32 => .int
  | 33 => .array .int
  | 34 => .array .int
  | 35 => .array .int
  | 36 => .array .int
  | 37 => .int
  | 38 => .int
  | 39 => .array .int
  | 40 => .array .int
  | 41 => .int
  | 42 => .int
  | 43 => .int
  | 44 => .array .int
  | 45 => .array .int
  | 46 => .int
  | 47 => .int
  | 48 => .int
  | 49 => .int
  | 50 => .array .boolean
  | 51 => .array .int
  | 52 => .array .int
  | _ => .array .int
abbrev wsX120 : List Cond := u_ws RX12 TX12 54
theorem nmX12 : ∀ a, a < 54 → ∀ b, b < 54 → a ≠ b → (TX12 a).2.1 ≠ (TX12 b).2.1 := by decide +kernel
theorem tyX12_ok : ∀ k, k < 54 → parseFieldDescriptor (TX12 k).2.2.1 = some (tyX12 k) := by decide +kernel
abbrev cX12_in : ByteArray := prog_14_method_2_code
def yX12_in : MethodName := ⟨RX12, "in", "(JJJ)Z"⟩
abbrev cX12_within : ByteArray := prog_14_method_3_code
def yX12_within : MethodName := ⟨RX12, "within", "(III)I"⟩
abbrev cX12_init : ByteArray := prog_14_method_4_code
def yX12_init : MethodName := ⟨RX12, "<init>", "()V"⟩
abbrev cX12_spell : ByteArray := prog_14_method_5_code
def yX12_spell : MethodName := ⟨RX12, "spell", "(IIIIIIIII)V"⟩
abbrev cX12_isCell : ByteArray := prog_14_method_6_code
def yX12_isCell : MethodName := ⟨RX12, "isCell", "(I)Z"⟩
abbrev cX12_isLooker : ByteArray := prog_14_method_7_code
def yX12_isLooker : MethodName := ⟨RX12, "isLooker", "(I)Z"⟩
abbrev cX12_set : ByteArray := prog_14_method_8_code
def yX12_set : MethodName := ⟨RX12, "set", "(III)I"⟩
abbrev cX12_looker : ByteArray := prog_14_method_9_code
def yX12_looker : MethodName := ⟨RX12, "looker", "(II)I"⟩
abbrev cX12_feed : ByteArray := prog_14_method_10_code
def yX12_feed : MethodName := ⟨RX12, "feed", "(I)I"⟩
abbrev cX12_byteAt : ByteArray := prog_14_method_11_code
def yX12_byteAt : MethodName := ⟨RX12, "byteAt", "(I)I"⟩
abbrev cX12_nextToken : ByteArray := prog_14_method_12_code
def yX12_nextToken : MethodName := ⟨RX12, "nextToken", "()V"⟩
abbrev cX12_fail : ByteArray := prog_14_method_13_code
def yX12_fail : MethodName := ⟨RX12, "fail", "()V"⟩
abbrev cX12_isLetter : ByteArray := prog_14_method_14_code
def yX12_isLetter : MethodName := ⟨RX12, "isLetter", "(II)Z"⟩
abbrev cX12_isWord : ByteArray := prog_14_method_15_code
def yX12_isWord : MethodName := ⟨RX12, "isWord", "(IIIIIIII)Z"⟩
abbrev cX12_isSign : ByteArray := prog_14_method_16_code
def yX12_isSign : MethodName := ⟨RX12, "isSign", "(I)Z"⟩
abbrev cX12_opens : ByteArray := prog_14_method_17_code
def yX12_opens : MethodName := ⟨RX12, "opens", "()Z"⟩
abbrev cX12_name : ByteArray := prog_14_method_18_code
def yX12_name : MethodName := ⟨RX12, "name", "()I"⟩
abbrev cX12_atom : ByteArray := prog_14_method_19_code
def yX12_atom : MethodName := ⟨RX12, "atom", "()I"⟩
abbrev cX12_term : ByteArray := prog_14_method_20_code
def yX12_term : MethodName := ⟨RX12, "term", "()I"⟩
abbrev cX12_added : ByteArray := prog_14_method_21_code
def yX12_added : MethodName := ⟨RX12, "added", "()I"⟩
abbrev cX12_not : ByteArray := prog_14_method_22_code
def yX12_not : MethodName := ⟨RX12, "not", "()I"⟩
abbrev cX12_both : ByteArray := prog_14_method_23_code
def yX12_both : MethodName := ⟨RX12, "both", "()I"⟩
abbrev cX12_either : ByteArray := prog_14_method_24_code
def yX12_either : MethodName := ⟨RX12, "either", "()I"⟩
abbrev cX12_part : ByteArray := prog_14_method_25_code
def yX12_part : MethodName := ⟨RX12, "part", "(Z)I"⟩
abbrev cX12_read : ByteArray := prog_14_method_26_code
def yX12_read : MethodName := ⟨RX12, "read", "(II)I"⟩
abbrev cX12_text : ByteArray := prog_14_method_27_code
def yX12_text : MethodName := ⟨RX12, "text", "()I"⟩
abbrev cX12_force : ByteArray := prog_14_method_28_code
def yX12_force : MethodName := ⟨RX12, "force", "(I)I"⟩
abbrev cX12_says : ByteArray := prog_14_method_29_code
def yX12_says : MethodName := ⟨RX12, "says", "(III)I"⟩
abbrev cX12_deep : ByteArray := prog_14_method_30_code
def yX12_deep : MethodName := ⟨RX12, "deep", "(I)I"⟩
abbrev cX12_isUnder : ByteArray := prog_14_method_31_code
def yX12_isUnder : MethodName := ⟨RX12, "isUnder", "(I)Z"⟩
abbrev cX12_shine : ByteArray := prog_14_method_32_code
def yX12_shine : MethodName := ⟨RX12, "shine", "(I)I"⟩
abbrev cX12_told : ByteArray := prog_14_method_33_code
def yX12_told : MethodName := ⟨RX12, "told", "(II)I"⟩
abbrev cX12_finds : ByteArray := prog_14_method_34_code
def yX12_finds : MethodName := ⟨RX12, "finds", "(III)I"⟩
abbrev cX12_takes : ByteArray := prog_14_method_35_code
def yX12_takes : MethodName := ⟨RX12, "takes", "(I)I"⟩
abbrev cX12_stamps : ByteArray := prog_14_method_36_code
def yX12_stamps : MethodName := ⟨RX12, "stamps", "(I)I"⟩
abbrev cX12_good : ByteArray := prog_14_method_37_code
def yX12_good : MethodName := ⟨RX12, "good", "(II)I"⟩
abbrev cX12_gain : ByteArray := prog_14_method_38_code
def yX12_gain : MethodName := ⟨RX12, "gain", "(II)I"⟩
abbrev cX12_asks : ByteArray := prog_14_method_39_code
def yX12_asks : MethodName := ⟨RX12, "asks", "(III)I"⟩
abbrev cX12_looks : ByteArray := prog_14_method_40_code
def yX12_looks : MethodName := ⟨RX12, "looks", "(II)V"⟩
abbrev cX12_look : ByteArray := prog_14_method_41_code
def yX12_look : MethodName := ⟨RX12, "look", "(II)I"⟩
abbrev cX12_best : ByteArray := prog_14_method_42_code
def yX12_best : MethodName := ⟨RX12, "best", "()V"⟩
abbrev cX12_next : ByteArray := prog_14_method_43_code
def yX12_next : MethodName := ⟨RX12, "next", "(I)I"⟩
abbrev cX12_search : ByteArray := prog_14_method_44_code
def yX12_search : MethodName := ⟨RX12, "search", "()I"⟩
abbrev cX12_laysAside : ByteArray := prog_14_method_45_code
def yX12_laysAside : MethodName := ⟨RX12, "laysAside", "()V"⟩
abbrev cX12_laysBack : ByteArray := prog_14_method_46_code
def yX12_laysBack : MethodName := ⟨RX12, "laysBack", "()V"⟩
abbrev cX12_plans : ByteArray := prog_14_method_47_code
def yX12_plans : MethodName := ⟨RX12, "plans", "(I)V"⟩
abbrev cX12_plan : ByteArray := prog_14_method_48_code
def yX12_plan : MethodName := ⟨RX12, "plan", "(II)I"⟩
abbrev cX12_planned : ByteArray := prog_14_method_49_code
def yX12_planned : MethodName := ⟨RX12, "planned", "(I)I"⟩
abbrev cX12_giveUp : ByteArray := prog_14_method_50_code
def yX12_giveUp : MethodName := ⟨RX12, "giveUp", "(I)I"⟩
abbrev cX12_onCells : ByteArray := prog_14_method_51_code
def yX12_onCells : MethodName := ⟨RX12, "onCells", "()I"⟩
abbrev cX12_lowest : ByteArray := prog_14_method_52_code
def yX12_lowest : MethodName := ⟨RX12, "lowest", "(JJI)J"⟩
abbrev cX12_likely : ByteArray := prog_14_method_53_code
def yX12_likely : MethodName := ⟨RX12, "likely", "(II)J"⟩
abbrev cX12_here : ByteArray := prog_14_method_54_code
def yX12_here : MethodName := ⟨RX12, "here", "(I)J"⟩
abbrev cX12_most : ByteArray := prog_14_method_55_code
def yX12_most : MethodName := ⟨RX12, "most", "(I)I"⟩
abbrev cX12_under : ByteArray := prog_14_method_56_code
def yX12_under : MethodName := ⟨RX12, "under", "(I)I"⟩
abbrev cX12_drownedNow : ByteArray := prog_14_method_57_code
def yX12_drownedNow : MethodName := ⟨RX12, "drownedNow", "()I"⟩
abbrev cX12_drowned : ByteArray := prog_14_method_58_code
def yX12_drowned : MethodName := ⟨RX12, "drowned", "(I)I"⟩
abbrev cX12_more : ByteArray := prog_14_method_59_code
def yX12_more : MethodName := ⟨RX12, "more", "(II)V"⟩
abbrev cX12_seen : ByteArray := prog_14_method_60_code
def yX12_seen : MethodName := ⟨RX12, "seen", "(II)I"⟩
abbrev cX12_crowd : ByteArray := prog_14_method_61_code
def yX12_crowd : MethodName := ⟨RX12, "crowd", "(III)I"⟩
abbrev cX12_judges : ByteArray := prog_14_method_62_code
def yX12_judges : MethodName := ⟨RX12, "judges", "(I)I"⟩
abbrev cX12_judge : ByteArray := prog_14_method_63_code
def yX12_judge : MethodName := ⟨RX12, "judge", "(I)I"⟩
abbrev cX12_found : ByteArray := prog_14_method_64_code
def yX12_found : MethodName := ⟨RX12, "found", "(II)J"⟩
abbrev cX12_drawn : ByteArray := prog_14_method_65_code
def yX12_drawn : MethodName := ⟨RX12, "drawn", "(I)I"⟩
abbrev cX12_foundBy : ByteArray := prog_14_method_66_code
def yX12_foundBy : MethodName := ⟨RX12, "foundBy", "(II)I"⟩
abbrev cX12_image : ByteArray := prog_14_method_67_code
def yX12_image : MethodName := ⟨RX12, "image", "()I"⟩
abbrev cX12_back : ByteArray := prog_14_method_68_code
def yX12_back : MethodName := ⟨RX12, "back", "()I"⟩
abbrev cX12_count : ByteArray := prog_14_method_69_code
def yX12_count : MethodName := ⟨RX12, "count", "(I)I"⟩
abbrev cX12_isSheet : ByteArray := prog_14_method_70_code
def yX12_isSheet : MethodName := ⟨RX12, "isSheet", "(I)Z"⟩
abbrev cX12_sheet : ByteArray := prog_14_method_71_code
def yX12_sheet : MethodName := ⟨RX12, "sheet", "(III)I"⟩
abbrev cX12_cell : ByteArray := prog_14_method_72_code
def yX12_cell : MethodName := ⟨RX12, "cell", "(III)I"⟩
abbrev cX12_copy : ByteArray := prog_14_method_73_code
def yX12_copy : MethodName := ⟨RX12, "copy", "(IIIII)I"⟩
abbrev cX12_lookers : ByteArray := prog_14_method_74_code
def yX12_lookers : MethodName := ⟨RX12, "lookers", "(IIII)I"⟩
abbrev cX12_over : ByteArray := prog_14_method_75_code
def yX12_over : MethodName := ⟨RX12, "over", "(I)I"⟩
abbrev cX12_taken : ByteArray := prog_14_method_76_code
def yX12_taken : MethodName := ⟨RX12, "taken", "(II)I"⟩
def RJx145de : String := "java/io/Serializable"
def TJx145de : u_T := fun k => match k with
  | _ => ("", "", "", false)
def tyJx145de : Nat → FieldType := fun k => match k with
  | _ => .int
theorem nmJx145de : ∀ a, a < 0 → ∀ b, b < 0 → a ≠ b → (TJx145de a).2.1 ≠ (TJx145de b).2.1 := by decide +kernel
theorem tyJx145de_ok : ∀ k, k < 0 → parseFieldDescriptor (TJx145de k).2.2.1 = some (tyJx145de k) := by decide +kernel
def RJx9f9b0 : String := "java/lang/CharSequence"
def TJx9f9b0 : u_T := fun k => match k with
  | _ => ("", "", "", false)
def tyJx9f9b0 : Nat → FieldType := fun k => match k with
  | _ => .int
theorem nmJx9f9b0 : ∀ a, a < 0 → ∀ b, b < 0 → a ≠ b → (TJx9f9b0 a).2.1 ≠ (TJx9f9b0 b).2.1 := by decide +kernel
theorem tyJx9f9b0_ok : ∀ k, k < 0 → parseFieldDescriptor (TJx9f9b0 k).2.2.1 = some (tyJx9f9b0 k) := by decide +kernel
def RJxb160c : String := "java/lang/Comparable"
def TJxb160c : u_T := fun k => match k with
  | _ => ("", "", "", false)
def tyJxb160c : Nat → FieldType := fun k => match k with
  | _ => .int
theorem nmJxb160c : ∀ a, a < 0 → ∀ b, b < 0 → a ≠ b → (TJxb160c a).2.1 ≠ (TJxb160c b).2.1 := by decide +kernel
theorem tyJxb160c_ok : ∀ k, k < 0 → parseFieldDescriptor (TJxb160c k).2.2.1 = some (tyJxb160c k) := by decide +kernel
def RJ9 : String := "java/lang/Math"
def TJ9 : u_T := fun k => match k with
  | _ => ("", "", "", false)
def tyJ9 : Nat → FieldType := fun k => match k with
  | _ => .int
theorem nmJ9 : ∀ a, a < 0 → ∀ b, b < 0 → a ≠ b → (TJ9 a).2.1 ≠ (TJ9 b).2.1 := by decide +kernel
theorem tyJ9_ok : ∀ k, k < 0 → parseFieldDescriptor (TJ9 k).2.2.1 = some (tyJ9 k) := by decide +kernel
abbrev cJ9_abs_0f7a4 : ByteArray := prog_15_method_59_code
def yJ9_abs_0f7a4 : MethodName := ⟨RJ9, "abs", "(I)I"⟩
abbrev cJ9_max_7cf53 : ByteArray := prog_15_method_65_code
def yJ9_max_7cf53 : MethodName := ⟨RJ9, "max", "(II)I"⟩
abbrev cJ9_min_7cf53 : ByteArray := prog_15_method_69_code
def yJ9_min_7cf53 : MethodName := ⟨RJ9, "min", "(II)I"⟩
def RJ0 : String := "java/lang/String"
def TJ0 : u_T := fun k => match k with
  | _ => ("", "", "", false)
def tyJ0 : Nat → FieldType := fun k => match k with
  | _ => .int
theorem nmJ0 : ∀ a, a < 0 → ∀ b, b < 0 → a ≠ b → (TJ0 a).2.1 ≠ (TJ0 b).2.1 := by decide +kernel
theorem tyJ0_ok : ∀ k, k < 0 → parseFieldDescriptor (TJ0 k).2.2.1 = some (tyJ0 k) := by decide +kernel
abbrev cJ0_length_8abf5 : ByteArray := prog_16_method_54_code
def yJ0_length_8abf5 : MethodName := ⟨RJ0, "length", "()I"⟩
abbrev cJ0_charAt_5068e : ByteArray := prog_16_method_56_code
def yJ0_charAt_5068e : MethodName := ⟨RJ0, "charAt", "(I)C"⟩
abbrev cJ0_coder_7d493 : ByteArray := prog_16_method_152_code
def yJ0_coder_7d493 : MethodName := ⟨RJ0, "coder", "()B"⟩
abbrev cJ0_isLatin1_aae02 : ByteArray := prog_16_method_154_code
def yJ0_isLatin1_aae02 : MethodName := ⟨RJ0, "isLatin1", "()Z"⟩
abbrev cJ0_checkIndex_df160 : ByteArray := prog_16_method_155_code
def yJ0_checkIndex_df160 : MethodName := ⟨RJ0, "checkIndex", "(II)V"⟩
def RJ1 : String := "java/lang/StringLatin1"
def TJ1 : u_T := fun k => match k with
  | _ => ("", "", "", false)
def tyJ1 : Nat → FieldType := fun k => match k with
  | _ => .int
theorem nmJ1 : ∀ a, a < 0 → ∀ b, b < 0 → a ≠ b → (TJ1 a).2.1 ≠ (TJ1 b).2.1 := by decide +kernel
theorem tyJ1_ok : ∀ k, k < 0 → parseFieldDescriptor (TJ1 k).2.2.1 = some (tyJ1 k) := by decide +kernel
abbrev cJ1_charAt_3b067 : ByteArray := prog_17_method_2_code
def yJ1_charAt_3b067 : MethodName := ⟨RJ1, "charAt", "([BI)C"⟩
def RJ2 : String := "java/lang/StringUTF16"
def TJ2 : u_T := fun k => match k with
  | _ => ("", "", "", false)
def tyJ2 : Nat → FieldType := fun k => match k with
  | _ => .int
theorem nmJ2 : ∀ a, a < 0 → ∀ b, b < 0 → a ≠ b → (TJ2 a).2.1 ≠ (TJ2 b).2.1 := by decide +kernel
theorem tyJ2_ok : ∀ k, k < 0 → parseFieldDescriptor (TJ2 k).2.2.1 = some (tyJ2 k) := by decide +kernel
abbrev cJ2_getChar_3b067 : ByteArray := prog_18_method_5_code
def yJ2_getChar_3b067 : MethodName := ⟨RJ2, "getChar", "([BI)C"⟩
abbrev cJ2_length_9d52b : ByteArray := prog_18_method_6_code
def yJ2_length_9d52b : MethodName := ⟨RJ2, "length", "([B)I"⟩
abbrev cJ2_charAt_3b067 : ByteArray := prog_18_method_83_code
def yJ2_charAt_3b067 : MethodName := ⟨RJ2, "charAt", "([BI)C"⟩
abbrev cJ2_checkIndex_2214a : ByteArray := prog_18_method_91_code
def yJ2_checkIndex_2214a : MethodName := ⟨RJ2, "checkIndex", "(I[B)V"⟩
def RJ10 : String := "java/lang/System"
def TJ10 : u_T := fun k => match k with
  | _ => ("", "", "", false)
def tyJ10 : Nat → FieldType := fun k => match k with
  | _ => .int
theorem nmJ10 : ∀ a, a < 0 → ∀ b, b < 0 → a ≠ b → (TJ10 a).2.1 ≠ (TJ10 b).2.1 := by decide +kernel
theorem tyJ10_ok : ∀ k, k < 0 → parseFieldDescriptor (TJ10 k).2.2.1 = some (tyJ10 k) := by decide +kernel
def RJxfd54e : String := "java/lang/constant/Constable"
def TJxfd54e : u_T := fun k => match k with
  | _ => ("", "", "", false)
def tyJxfd54e : Nat → FieldType := fun k => match k with
  | _ => .int
theorem nmJxfd54e : ∀ a, a < 0 → ∀ b, b < 0 → a ≠ b → (TJxfd54e a).2.1 ≠ (TJxfd54e b).2.1 := by decide +kernel
theorem tyJxfd54e_ok : ∀ k, k < 0 → parseFieldDescriptor (TJxfd54e k).2.2.1 = some (tyJxfd54e k) := by decide +kernel
def RJx3cf43 : String := "java/lang/constant/ConstantDesc"
def TJx3cf43 : u_T := fun k => match k with
  | _ => ("", "", "", false)
def tyJx3cf43 : Nat → FieldType := fun k => match k with
  | _ => .int
theorem nmJx3cf43 : ∀ a, a < 0 → ∀ b, b < 0 → a ≠ b → (TJx3cf43 a).2.1 ≠ (TJx3cf43 b).2.1 := by decide +kernel
theorem tyJx3cf43_ok : ∀ k, k < 0 → parseFieldDescriptor (TJx3cf43 k).2.2.1 = some (tyJx3cf43 k) := by decide +kernel
def RJ7 : String := "java/util/Arrays"
def TJ7 : u_T := fun k => match k with
  | _ => ("", "", "", false)
def tyJ7 : Nat → FieldType := fun k => match k with
  | _ => .int
theorem nmJ7 : ∀ a, a < 0 → ∀ b, b < 0 → a ≠ b → (TJ7 a).2.1 ≠ (TJ7 b).2.1 := by decide +kernel
theorem tyJ7_ok : ∀ k, k < 0 → parseFieldDescriptor (TJ7 k).2.2.1 = some (tyJ7 k) := by decide +kernel
abbrev cJ7_fill_53178 : ByteArray := prog_20_method_103_code
def yJ7_fill_53178 : MethodName := ⟨RJ7, "fill", "([II)V"⟩
def RJ3 : String := "jdk/internal/util/Preconditions"
def TJ3 : u_T := fun k => match k with
  | _ => ("", "", "", false)
def tyJ3 : Nat → FieldType := fun k => match k with
  | _ => .int
theorem nmJ3 : ∀ a, a < 0 → ∀ b, b < 0 → a ≠ b → (TJ3 a).2.1 ≠ (TJ3 b).2.1 := by decide +kernel
theorem tyJ3_ok : ∀ k, k < 0 → parseFieldDescriptor (TJ3 k).2.2.1 = some (tyJ3 k) := by decide +kernel
abbrev cJ3_checkIndex_8e157 : ByteArray := prog_21_method_11_code
def yJ3_checkIndex_8e157 : MethodName := ⟨RJ3, "checkIndex", "(IILjava/util/function/BiFunction;)I"⟩
def RL : String := "RingInSandLaw"
abbrev cL_law : ByteArray := code
def yL_law : MethodName := ⟨RL, "law", "([I)Z"⟩
abbrev vwCl : List vw_C := [(RX0, TX0, 6), (RX1, TX1, 1), (RX2, TX2, 1), (RX3, TX3, 1), (RX4, TX4, 1), (RX5, TX5, 13), (RX6, TX6, 3), (RX7, TX7, 1), (RX8, TX8, 1), (RX9, TX9, 5), (RX10, TX10, 14), (RX11, TX11, 14), (RX12, TX12, 54)]
end
section
/-! The machine seen from afar: an abstract heap (numbers, references, longs, kinds, lengths, how many cells), frames of abstract values, and V: the machine comes from here to Q. -/
def TG : List Cond := lw_tbl.filter goodWord
theorem tg_mem {w : Cond} (i : Nat) (h : lw_tbl[i]? = some w) (hg : goodWord w = true) : w ∈ TG := List.mem_filter.mpr ⟨List.mem_of_getElem? h, hg⟩
theorem tg_good {w : Cond} (h : w ∈ TG) : goodWord w = true := (List.mem_filter.mp h).2
theorem tg_mems {ws : List Cond} (ps : List Nat) (h : ws = ps.filterMap (fun i => lw_tbl[i]?)) (hg : ws.all goodWord = true) : ∀ w ∈ ws, w ∈ TG := by
  intro w hw
  have h1 := List.all_eq_true.mp hg w hw
  rw [h] at hw
  obtain ⟨i, -, hi⟩ := List.mem_filterMap.mp hw
  exact tg_mem i hi h1
/-- heap: ints, references, longs, kinds (0 .. 12 objects; 100 int[], 101 boolean[], 102 Eyes[], 103 Sheet[]), lengths, cells -/
abbrev AHp : Type := (Nat → Nat → Int32) × (Nat → Nat → Option Nat) × (Nat → Nat → Int64) × (Nat → Nat) × (Nat → Nat) × Nat
def hpI (h : AHp) : Nat → Nat → Int32 := h.1
def hpR (h : AHp) : Nat → Nat → Option Nat := h.2.1
def hpJ (h : AHp) : Nat → Nat → Int64 := h.2.2.1
def hpK (h : AHp) : Nat → Nat := h.2.2.2.1
def hpL (h : AHp) : Nat → Nat := h.2.2.2.2.1
def hpN (h : AHp) : Nat := h.2.2.2.2.2
def up2 {α : Type} (f : Nat → Nat → α) (a k : Nat) (v : α) : Nat → Nat → α := fun b j => if b = a ∧ j = k then v else f b j
def stI (h : AHp) (a k : Nat) (v : Int32) : AHp := (up2 h.1 a k v, h.2)
def stR (h : AHp) (a k : Nat) (v : Option Nat) : AHp := (h.1, up2 h.2.1 a k v, h.2.2)
def stJ (h : AHp) (a k : Nat) (v : Int64) : AHp := (h.1, h.2.1, up2 h.2.2.1 a k v, h.2.2.2)
def stN (h : AHp) (c n : Nat) : AHp := ((fun b j => if b = hpN h then 0 else h.1 b j), (fun b j => if b = hpN h then none else h.2.1 b j), (fun b j => if b = hpN h then 0 else h.2.2.1 b j), (fun b => if b = hpN h then c else hpK h b), (fun b => if b = hpN h then n else hpL h b), hpN h + 1)
/-- what is fixed for the run: base, class numbers, slots, array classes, the heap at the law's entry, special addresses -/
abbrev Glb : Type := Nat × (Nat → ClassId) × (Nat → Nat → Nat) × (Nat → ClassId) × Heap × (Nat → Nat)
def gB (G : Glb) : Nat := G.1
abbrev gD (G : Glb) : va_G := (G.2.1, G.2.2.1)
def gA (G : Glb) : Nat → ClassId := G.2.2.2.1
def gH (G : Glb) : Heap := G.2.2.2.2.1
def gS (G : Glb) : Nat → Nat := G.2.2.2.2.2
def gAd (G : Glb) (a : Nat) : Nat := if a < 1000000 then gB G + a else gS G (a - 1000000)
def cv (G : Glb) (v : Value) : Value := match v with
  | .ref a => .ref (gAd G a)
  | v => v
theorem gAd_lt {G : Glb} {a : Nat} (h : a < 1000000) : gAd G a = gB G + a := if_pos h
/-- tags of a class' fields: 0 int, 1 reference, 2 long, 3 boolean -/
def lyt (c : Nat) : List Nat := match c with
  | 0 => [1, 1, 0, 0, 0, 0]
  | 1 => [0]
  | 2 => [0]
  | 3 => [0]
  | 4 => [0]
  | 5 => [1, 1, 0, 1, 1, 0, 1, 1, 1, 1, 0, 3, 0]
  | 6 => [1, 0, 0]
  | 7 => [0]
  | 8 => [0]
  | 9 => [1, 1, 0, 0, 0]
  | 10 => [1, 0, 0, 1, 1, 1, 0, 0, 0, 0, 1, 0, 0, 0]
  | 11 => [1, 1, 1, 3, 1, 0, 1, 1, 1, 1, 0, 0, 0, 0]
  | 12 => [0, 1, 1, 0, 0, 1, 0, 1, 1, 0, 0, 0, 1, 1, 0, 0, 0, 0, 0, 0, 0, 0, 0, 0, 0, 0, 2, 0, 3, 0, 0, 0, 0, 1, 1, 1, 1, 0, 0, 1, 1, 0, 0, 0, 1, 1, 0, 0, 0, 0, 1, 1, 1, 1]
  | _ => []
def fdv (G : Glb) (h : AHp) (a t k : Nat) : Value := if t = 1 then va_rf ((hpR h a k).map (gAd G)) else if t = 2 then .long (hpJ h a k) else .int (hpI h a k)
def fls (G : Glb) (h : AHp) (a : Nat) : Nat → List Nat → List Value
  | _, [] => []
  | k, t :: ts => fdv G h a t k :: fls G h a (k + 1) ts
def celE (G : Glb) (h : AHp) (a : Nat) : va_E :=
  if hpK h a < 100 then .inr (hpK h a, fls G h a 0 (lyt (hpK h a)))
  else if hpK h a < 102 then .inl (gA G (hpK h a), (hpL h a, .inl (hpI h a)))
  else .inl (gA G (hpK h a), (hpL h a, .inr (.inr (.inr (.inr (fun i => (hpR h a i).map (gAd G)))))))
def Wd (G : Glb) (h : AHp) (H : Heap) : Prop := H.size = gB G + hpN h ∧ hpN h < 1000000 ∧ (∀ q, q < gB G → H[q]? = (gH G)[q]?) ∧ ∀ a, a < hpN h → va_at (gD G) vwCl (gB G + a, celE G h a) H
def arT (k : Nat) : FieldType := match k with
  | 100 => .int
  | 101 => .boolean
  | 102 => .object RX1
  | _ => .object RX6
abbrev tyA (G : Glb) : List (ClassId × FieldType) := [(gA G 100, .int), (gA G 101, .boolean), (gA G 102, .object RX1), (gA G 103, .object RX6)]
def Kd (h : AHp) (a c : Nat) : Prop := hpK h a = c ∧ a < hpN h
end
section
def nstW (w : Cond) : Bool := match w with
  | .methodLinkNest .. => true
  | .castable .. => true
  | _ => false
/-- what of the tables a call must find: moved by every warming -/
def Kn (G : Glb) (U : State) : Prop := va_K (gD G) vwCl (tyA G) U ∧ (∀ w ∈ lw_tbl, nstW w = true → va_Nw w U) ∧ va_AO RX1 U ∧ va_AO RX6 U
theorem Kn.warm {G : Glb} {s U : State} (hW : s.WarmedH U.vm) (h : Kn G s) : Kn G U := by
  refine ⟨va_K.moved hW.alike h.1, fun w hw hn => ?_, va_AO.moved hW.alike h.2.2.1, va_AO.moved hW.alike h.2.2.2⟩
  have h1 := h.2.1 w hw hn
  cases w <;> first | exact va_Nw.warmM hW h1 | exact va_Nw.warmC hW h1 | cases hn
theorem Kn.same {G : Glb} {s U : State} (hv : s.vm = U.vm) (h : Kn G s) : Kn G U := by
  have ha : s.vm.Alike U.vm := by rw [hv]; exact Vm.Alike.refl _
  refine ⟨va_K.moved ha h.1, fun w hw hn => ?_, va_AO.moved ha h.2.2.1, va_AO.moved ha h.2.2.2⟩
  have h1 := h.2.1 w hw hn
  cases w <;> first | exact va_Nw.same rfl hv h1 | cases hn
abbrev Cx : Type := Program × Launch × Env × Room × State × MethodId × Array Value × List Frame × Method × Code
abbrev xp (X : Cx) : Program := X.1
abbrev xl (X : Cx) : Launch := X.2.1
abbrev xe (X : Cx) : Env := X.2.2.1
abbrev xR (X : Cx) : Room := X.2.2.2.1
abbrev xs (X : Cx) : State := X.2.2.2.2.1
abbrev xm (X : Cx) : MethodId := X.2.2.2.2.2.1
abbrev xa (X : Cx) : Array Value := X.2.2.2.2.2.2.1
abbrev xb (X : Cx) : List Frame := X.2.2.2.2.2.2.2.1
abbrev xM (X : Cx) : Method := X.2.2.2.2.2.2.2.2.1
abbrev xc (X : Cx) : Code := X.2.2.2.2.2.2.2.2.2
def OKx (X : Cx) (G : Glb) (own : String) (cc : ByteArray) (nL : Nat) (rt : Option FieldType) : Prop :=
  (xp X).tables.exec = Jvm.exec ∧ (xc X).code = cc ∧ (xM X).sig.returnType = rt ∧ (xc X).maxLocals = nL ∧ (xs X).vm.findClass own = some (xm X).cls ∧ (∀ w ∈ TG, w.before (xa X) (xs X) = true) ∧ Kn G (xs X) ∧ (xM X).locks = false ∧ gB G ≤ (xs X).heap.size
abbrev AsG (G : Glb) : Nat → Prop := fun q => gB G ≤ q
def asc (G : Glb) : Nat → List (Option Value) → List (Nat × Value)
  | _, [] => []
  | i, none :: t => asc G (i + 1) t
  | i, some v :: t => (i, cv G v) :: asc G (i + 1) t
def LH (G : Glb) (la : Array Slot) (nL : Nat) (ls : List (Option Value)) : Prop := lv_has la nL (asc G 0 ls)
theorem asc_mem {G : Glb} : ∀ (ls : List (Option Value)) (i j : Nat) (w : Value), (j, w) ∈ asc G i ls ↔ ∃ k v, j = i + k ∧ ls[k]? = some (some v) ∧ w = cv G v := by
  intro ls
  induction ls with
  | nil => intro i j w; simp [asc]
  | cons x t ih =>
    intro i j w
    cases x with
    | none =>
      rw [asc, ih]
      constructor
      · rintro ⟨k, v, e, h, hw⟩; exact ⟨k + 1, v, by omega, by simpa using h, hw⟩
      · rintro ⟨k, v, e, h, hw⟩
        cases k with
        | zero => simp at h
        | succ k => exact ⟨k, v, by omega, by simpa using h, hw⟩
    | some u =>
      rw [asc, List.mem_cons, ih]
      constructor
      · rintro (h | ⟨k, v, e, h, hw⟩)
        · cases h; exact ⟨0, u, by omega, by simp, rfl⟩
        · exact ⟨k + 1, v, by omega, by simpa using h, hw⟩
      · rintro ⟨k, v, e, h, hw⟩
        cases k with
        | zero =>
          left
          simp at h
          subst h; subst hw
          simp [e]
        | succ k => right; exact ⟨k, v, by omega, by simpa using h, hw⟩
theorem LH.at {G : Glb} {la : Array Slot} {nL : Nat} {ls : List (Option Value)} (h : LH G la nL ls) {i : Nat} {v : Value} (hi : ls[i]? = some (some v)) : la[i]? = some (.val (cv G v)) := h.2.2 (i, cv G v) ((asc_mem ls 0 i _).mpr ⟨i, v, by omega, hi, rfl⟩)
theorem LH.to {G : Glb} {la : Array Slot} {nL : Nat} {ls ls' : List (Option Value)} (h : LH G la nL ls) (hs : ∀ (i : Nat) (v : Value), ls'[i]? = some (some v) → ls[i]? = some (some v)) : LH G la nL ls' := by
  refine ⟨h.1, h.2.1, fun q hq => ?_⟩
  obtain ⟨i, w⟩ := q
  obtain ⟨k, v, e, hk, hw⟩ := (asc_mem ls' 0 i w).mp hq
  have : i = k := by omega
  subst this
  subst hw
  exact h.at (hs _ v hk)
def noD (ls : List (Option Value)) : Bool := ls.all (fun q => match q with | some (.double _) => false | _ => true)
theorem noD.no {ls : List (Option Value)} (h : noD ls = true) : ∀ d, ¬ some (Value.double d) ∈ ls := fun d hd => by have := List.all_eq_true.mp h _ hd; cases this
def isL (v : Option Value) : Bool := match v with
  | some (.long _) => true
  | _ => false
/-- locals with place i set -/
def lst (ls : List (Option Value)) (i : Nat) (v : Value) : List (Option Value) := match i with
  | 0 => ls.set 0 (some v)
  | j + 1 => if isL (ls.getD j none) then (ls.set j none).set (j + 1) (some v) else ls.set (j + 1) (some v)
theorem cv_cat {G : Glb} {v : Value} : (cv G v).category = v.category := by cases v <;> rfl
theorem set_at {α : Type} {l : List α} {i : Nat} {x y : α} (h : (l.set i x)[i]? = some y) : y = x := by
  rw [List.getElem?_set] at h
  simp only [if_true] at h
  split at h
  · exact (Option.some.inj h).symm
  · cases h
theorem lst_at {ls : List (Option Value)} {i : Nat} {v u : Value} (h : (lst ls i v)[i]? = some (some u)) : u = v := by
  cases i with
  | zero => exact Option.some.inj (set_at h)
  | succ j =>
    simp only [lst] at h
    split at h <;> exact Option.some.inj (set_at h)
theorem lst_ne {ls : List (Option Value)} {i j : Nat} {v u : Value} (hji : ¬ j = i) (h : (lst ls i v)[j]? = some (some u)) : ls[j]? = some (some u) ∧ (j + 1 = i → isL (some u) = false) := by
  cases i with
  | zero =>
    simp only [lst] at h
    rw [List.getElem?_set_ne (by omega)] at h
    exact ⟨h, fun e => by omega⟩
  | succ i =>
    simp only [lst] at h
    split at h
    · rw [List.getElem?_set_ne (by omega)] at h
      by_cases hi2 : i = j
      · subst hi2
        exact absurd (set_at h) (by simp)
      · rw [List.getElem?_set_ne hi2] at h
        exact ⟨h, fun e => by omega⟩
    · rename_i hn
      rw [List.getElem?_set_ne (by omega)] at h
      refine ⟨h, fun e => ?_⟩
      have : i = j := by omega
      subst this
      have hg : ls.getD i none = some u := by simp [List.getD, h]
      rw [hg] at hn
      simpa using hn
/-- only longs fill two places here -/
def nof (ls : List (Option Value)) : Prop := ∀ v : Value, some v ∈ ls → v.category = 2 → isL (some v) = true
theorem cat_isL {v : Value} (h : v.category = 2) (hn : ∀ d, v ≠ .double d) : isL (some v) = true := by
  cases v <;> first | rfl | exact absurd rfl (hn _) | (simp [Value.category] at h)
theorem LH.st {G : Glb} {la : Array Slot} {nL : Nat} {ls : List (Option Value)} {i : Nat} {v : Value} (h : lv_has la nL ((i, cv G v) :: (asc G 0 ls).filter (fun q => !(q.1 == i) && !(q.1 + 1 == i && q.2.category == 2)))) (hd : ∀ d, ¬ some (Value.double d) ∈ ls) : LH G la nL (lst ls i v) := by
  refine ⟨h.1, h.2.1, fun q hq => h.2.2 q ?_⟩
  obtain ⟨j, w⟩ := q
  obtain ⟨k, u, e, hk, hw⟩ := (asc_mem _ 0 j w).mp hq
  have : j = k := by omega
  subst this
  subst hw
  by_cases hji : j = i
  · subst hji
    rw [lst_at hk]
    exact List.mem_cons_self
  · obtain ⟨g1, g2⟩ := lst_ne hji hk
    refine List.mem_cons_of_mem _ (List.mem_filter.mpr ⟨(asc_mem ls 0 j _).mpr ⟨j, u, by omega, g1, rfl⟩, ?_⟩)
    have h1 : (j == i) = false := by simpa using hji
    simp only [h1, Bool.not_false, Bool.true_and]
    by_cases h2 : j + 1 = i
    · have g3 := g2 h2
      have hc : ¬ u.category = 2 := fun z => by
        rw [cat_isL z (fun d ed => hd d (by rw [← ed]; exact List.mem_of_getElem? g1))] at g3
        cases g3
      simp [cv_cat, hc]
    · have h3 : (j + 1 == i) = false := by simpa using h2
      simp [h3]
/-- a long at i fills i and i + 1 -/
def lstL (ls : List (Option Value)) (i : Nat) (x : Int64) : List (Option Value) := (lst ls i (.long x)).set (i + 1) none
theorem LH.stL {G : Glb} {la : Array Slot} {nL : Nat} {ls : List (Option Value)} {i : Nat} {x : Int64} (h : lv_has la nL ((i, Value.long x) :: (asc G 0 ls).filter (fun q => !(q.1 == i) && (!(q.1 == i + 1) && !(q.1 + 1 == i && q.2.category == 2))))) (hd : ∀ d, ¬ some (Value.double d) ∈ ls) : LH G la nL (lstL ls i x) := by
  refine ⟨h.1, h.2.1, fun q hq => h.2.2 q ?_⟩
  obtain ⟨j, w⟩ := q
  obtain ⟨k, u, e, hk, hw⟩ := (asc_mem _ 0 j w).mp hq
  have : j = k := by omega
  subst this
  subst hw
  have hj1 : ¬ j = i + 1 := by
    intro z
    subst z
    exact absurd (set_at hk) (by simp)
  unfold lstL at hk
  rw [List.getElem?_set_ne (by omega)] at hk
  by_cases hji : j = i
  · subst hji
    rw [lst_at hk]
    exact List.mem_cons_self
  · obtain ⟨g1, g2⟩ := lst_ne hji hk
    refine List.mem_cons_of_mem _ (List.mem_filter.mpr ⟨(asc_mem ls 0 j _).mpr ⟨j, u, by omega, g1, rfl⟩, ?_⟩)
    have h1 : (j == i) = false := by simpa using hji
    have h4 : (j == i + 1) = false := by simpa using hj1
    simp only [h1, h4, Bool.not_false, Bool.true_and]
    by_cases h2 : j + 1 = i
    · have g3 := g2 h2
      have hc : ¬ u.category = 2 := fun z => by
        rw [cat_isL z (fun d ed => hd d (by rw [← ed]; exact List.mem_of_getElem? g1))] at g3
        cases g3
      simp [cv_cat, hc]
    · have h3 : (j + 1 == i) = false := by simpa using h2
      simp [h3]
end
section
def V (X : Cx) (G : Glb) (nL k n : Nat) (Q : State → Prop) (pc : Nat) (ls : List (Option Value)) (st : List Value) (h : AHp) : Prop :=
  ∀ (H : Heap) (locs : List Loc) (la : Array Slot), Wd G h H → va_S (AsG G) (xs X).heap H locs → LH G la nL ls → W (xp X) (xl X) (xe X) (xR X) (xs X) (xm X) (xa X) (xb X) (xM X) (xc X) H locs k n Q (F0 (xm X) pc la (st.map (cv G)))
/-- an instruction at its place, and the place behind it -/
def Dq (cc : ByteArray) (pc : Nat) (i : Instr) (len pc' : Nat) : Prop := decode cc pc = .ok (i, len) ∧ pc + len = pc'
section VL
variable {X : Cx} {G : Glb} {own : String} {cc : ByteArray} {nL k n pc pc' : Nat} {rt : Option FieldType} {Q : State → Prop} {ls : List (Option Value)} {st : List Value} {h : AHp}
theorem v_iconst (hX : OKx X G own cc nL rt) {i : Int} {v : Int32} (hv : Int32.ofInt i = v) (hd : Dq cc pc (.iconst i) 1 pc') (kk : V X G nL k n Q pc' ls (.int v :: st) h) : V X G nL k n Q pc ls (st) h := by
  obtain ⟨hd, rfl⟩ := hd
  intro H locs la hW hS hL
  exact lv_iconst hX.1 hX.2.1 hd hv (kk H locs la hW hS hL)
theorem v_bipush (hX : OKx X G own cc nL rt) {i : Int} {v : Int32} (hv : (Int8.ofInt i).toInt32 = v) (hd : Dq cc pc (.bipush i) 2 pc') (kk : V X G nL k n Q pc' ls (.int v :: st) h) : V X G nL k n Q pc ls (st) h := by
  obtain ⟨hd, rfl⟩ := hd
  intro H locs la hW hS hL
  exact lv_bipush hX.1 hX.2.1 hd hv (kk H locs la hW hS hL)
theorem v_sipush (hX : OKx X G own cc nL rt) {i : Int} {v : Int32} (hv : (Int16.ofInt i).toInt32 = v) (hd : Dq cc pc (.sipush i) 3 pc') (kk : V X G nL k n Q pc' ls (.int v :: st) h) : V X G nL k n Q pc ls (st) h := by
  obtain ⟨hd, rfl⟩ := hd
  intro H locs la hW hS hL
  exact lv_sipush hX.1 hX.2.1 hd hv (kk H locs la hW hS hL)
theorem v_ldc (hX : OKx X G own cc nL rt) {ix : Nat} {v : Int32} (hw : Cond.constant own ix v ∈ TG) (hd : Dq cc pc (.ldc ix) 2 pc') (kk : V X G nL k n Q pc' ls (.int v :: st) h) : V X G nL k n Q pc ls (st) h := by
  obtain ⟨hd, rfl⟩ := hd
  intro H locs la hW hS hL
  exact lv_ldc hX.1 hX.2.1 hX.2.2.2.2.1 (hX.2.2.2.2.2.1 _ hw) hd (kk H locs la hW hS hL)
theorem v_ldc2 (hX : OKx X G own cc nL rt) {ix : Nat} {v : Int64} (hw : Cond.constantLong own ix v ∈ TG) (hd : Dq cc pc (.ldc2_w ix) 3 pc') (kk : V X G nL k n Q pc' ls (.long v :: st) h) : V X G nL k n Q pc ls (st) h := by
  obtain ⟨hd, rfl⟩ := hd
  intro H locs la hW hS hL
  exact lv_ldc2 hX.1 hX.2.1 hX.2.2.2.2.1 (hX.2.2.2.2.2.1 _ hw) hd (kk H locs la hW hS hL)
theorem v_lconst (hX : OKx X G own cc nL rt) {i : Fin 2} {v : Int64} (hv : Int64.ofNat (i : Nat) = v) (hd : Dq cc pc (.lconst i) 1 pc') (kk : V X G nL k n Q pc' ls (.long v :: st) h) : V X G nL k n Q pc ls (st) h := by
  obtain ⟨hd, rfl⟩ := hd
  intro H locs la hW hS hL
  exact lv_lconst hX.1 hX.2.1 hd hv (kk H locs la hW hS hL)
theorem v_null (hX : OKx X G own cc nL rt)  (hd : Dq cc pc (.aconst_null) 1 pc') (kk : V X G nL k n Q pc' ls (.null :: st) h) : V X G nL k n Q pc ls (st) h := by
  obtain ⟨hd, rfl⟩ := hd
  intro H locs la hW hS hL
  exact lv_null hX.1 hX.2.1 hd (kk H locs la hW hS hL)
theorem v_iload_n (hX : OKx X G own cc nL rt) {i : Fin 4} {x : Int32} (hl : ls[i.val]? = some (some (.int x))) (hd : Dq cc pc (.iload_n i) 1 pc') (kk : V X G nL k n Q pc' ls (.int x :: st) h) : V X G nL k n Q pc ls (st) h := by
  obtain ⟨hd, rfl⟩ := hd
  intro H locs la hW hS hL
  exact lv_iload_n hX.1 hX.2.1 hd rfl (hL.at hl) (kk H locs la hW hS hL)
theorem v_iload (hX : OKx X G own cc nL rt) {i : Nat} {x : Int32} (hl : ls[i]? = some (some (.int x))) (hd : Dq cc pc (.iload i) 2 pc') (kk : V X G nL k n Q pc' ls (.int x :: st) h) : V X G nL k n Q pc ls (st) h := by
  obtain ⟨hd, rfl⟩ := hd
  intro H locs la hW hS hL
  exact lv_iload hX.1 hX.2.1 hd (hL.at hl) (kk H locs la hW hS hL)
theorem v_lload_n (hX : OKx X G own cc nL rt) {i : Fin 4} {x : Int64} (hl : ls[i.val]? = some (some (.long x))) (hd : Dq cc pc (.lload_n i) 1 pc') (kk : V X G nL k n Q pc' ls (.long x :: st) h) : V X G nL k n Q pc ls (st) h := by
  obtain ⟨hd, rfl⟩ := hd
  intro H locs la hW hS hL
  exact lv_lload_n hX.1 hX.2.1 hd rfl (hL.at hl) (kk H locs la hW hS hL)
theorem v_lload (hX : OKx X G own cc nL rt) {i : Nat} {x : Int64} (hl : ls[i]? = some (some (.long x))) (hd : Dq cc pc (.lload i) 2 pc') (kk : V X G nL k n Q pc' ls (.long x :: st) h) : V X G nL k n Q pc ls (st) h := by
  obtain ⟨hd, rfl⟩ := hd
  intro H locs la hW hS hL
  exact lv_lload hX.1 hX.2.1 hd (hL.at hl) (kk H locs la hW hS hL)
theorem v_aload_n (hX : OKx X G own cc nL rt) {i : Fin 4} {x : Nat} (hl : ls[i.val]? = some (some (.ref x))) (hd : Dq cc pc (.aload_n i) 1 pc') (kk : V X G nL k n Q pc' ls (.ref x :: st) h) : V X G nL k n Q pc ls (st) h := by
  obtain ⟨hd, rfl⟩ := hd
  intro H locs la hW hS hL
  exact lv_aload_n hX.1 hX.2.1 hd rfl (hL.at hl) (kk H locs la hW hS hL)
theorem v_aload (hX : OKx X G own cc nL rt) {i : Nat} {x : Nat} (hl : ls[i]? = some (some (.ref x))) (hd : Dq cc pc (.aload i) 2 pc') (kk : V X G nL k n Q pc' ls (.ref x :: st) h) : V X G nL k n Q pc ls (st) h := by
  obtain ⟨hd, rfl⟩ := hd
  intro H locs la hW hS hL
  exact lv_aload hX.1 hX.2.1 hd (hL.at hl) (kk H locs la hW hS hL)
theorem v_iadd (hX : OKx X G own cc nL rt) {x y : Int32} (hd : Dq cc pc (.iadd) 1 pc') (kk : V X G nL k n Q pc' ls (.int (x + y) :: st) h) : V X G nL k n Q pc ls (.int y :: .int x :: st) h := by
  obtain ⟨hd, rfl⟩ := hd
  intro H locs la hW hS hL
  exact lv_iadd hX.1 hX.2.1 hd (kk H locs la hW hS hL)
theorem v_isub (hX : OKx X G own cc nL rt) {x y : Int32} (hd : Dq cc pc (.isub) 1 pc') (kk : V X G nL k n Q pc' ls (.int (x - y) :: st) h) : V X G nL k n Q pc ls (.int y :: .int x :: st) h := by
  obtain ⟨hd, rfl⟩ := hd
  intro H locs la hW hS hL
  exact lv_isub hX.1 hX.2.1 hd (kk H locs la hW hS hL)
theorem v_imul (hX : OKx X G own cc nL rt) {x y : Int32} (hd : Dq cc pc (.imul) 1 pc') (kk : V X G nL k n Q pc' ls (.int (x * y) :: st) h) : V X G nL k n Q pc ls (.int y :: .int x :: st) h := by
  obtain ⟨hd, rfl⟩ := hd
  intro H locs la hW hS hL
  exact lv_imul hX.1 hX.2.1 hd (kk H locs la hW hS hL)
theorem v_iand (hX : OKx X G own cc nL rt) {x y : Int32} (hd : Dq cc pc (.iand) 1 pc') (kk : V X G nL k n Q pc' ls (.int (x &&& y) :: st) h) : V X G nL k n Q pc ls (.int y :: .int x :: st) h := by
  obtain ⟨hd, rfl⟩ := hd
  intro H locs la hW hS hL
  exact lv_iand hX.1 hX.2.1 hd (kk H locs la hW hS hL)
theorem v_ior (hX : OKx X G own cc nL rt) {x y : Int32} (hd : Dq cc pc (.ior) 1 pc') (kk : V X G nL k n Q pc' ls (.int (x ||| y) :: st) h) : V X G nL k n Q pc ls (.int y :: .int x :: st) h := by
  obtain ⟨hd, rfl⟩ := hd
  intro H locs la hW hS hL
  exact lv_ior hX.1 hX.2.1 hd (kk H locs la hW hS hL)
theorem v_ishl (hX : OKx X G own cc nL rt) {x y : Int32} (hd : Dq cc pc (.ishl) 1 pc') (kk : V X G nL k n Q pc' ls (.int (x <<< (y &&& 31)) :: st) h) : V X G nL k n Q pc ls (.int y :: .int x :: st) h := by
  obtain ⟨hd, rfl⟩ := hd
  intro H locs la hW hS hL
  exact lv_ishl hX.1 hX.2.1 hd (kk H locs la hW hS hL)
theorem v_iushr (hX : OKx X G own cc nL rt) {x y : Int32} (hd : Dq cc pc (.iushr) 1 pc') (kk : V X G nL k n Q pc' ls (.int ((x.toUInt32 >>> (y.toUInt32 &&& Int32.toUInt32 31)).toInt32) :: st) h) : V X G nL k n Q pc ls (.int y :: .int x :: st) h := by
  obtain ⟨hd, rfl⟩ := hd
  intro H locs la hW hS hL
  exact lv_iushr hX.1 hX.2.1 hd rfl (kk H locs la hW hS hL)
theorem v_idiv (hX : OKx X G own cc nL rt) {x y : Int32} (hy : ¬ y = 0) (hd : Dq cc pc (.idiv) 1 pc') (kk : V X G nL k n Q pc' ls (.int (x / y) :: st) h) : V X G nL k n Q pc ls (.int y :: .int x :: st) h := by
  obtain ⟨hd, rfl⟩ := hd
  intro H locs la hW hS hL
  exact lv_idiv hX.1 hX.2.1 hd hy (kk H locs la hW hS hL)
theorem v_irem (hX : OKx X G own cc nL rt) {x y : Int32} (hy : ¬ y = 0) (hd : Dq cc pc (.irem) 1 pc') (kk : V X G nL k n Q pc' ls (.int (x - x / y * y) :: st) h) : V X G nL k n Q pc ls (.int y :: .int x :: st) h := by
  obtain ⟨hd, rfl⟩ := hd
  intro H locs la hW hS hL
  exact lv_irem hX.1 hX.2.1 hd hy (kk H locs la hW hS hL)
theorem v_ineg (hX : OKx X G own cc nL rt) {x : Int32} (hd : Dq cc pc (.ineg) 1 pc') (kk : V X G nL k n Q pc' ls (.int (-x) :: st) h) : V X G nL k n Q pc ls (.int x :: st) h := by
  obtain ⟨hd, rfl⟩ := hd
  intro H locs la hW hS hL
  exact lv_ineg hX.1 hX.2.1 hd (kk H locs la hW hS hL)
theorem v_ladd (hX : OKx X G own cc nL rt) {x y : Int64} (hd : Dq cc pc (.ladd) 1 pc') (kk : V X G nL k n Q pc' ls (.long (x + y) :: st) h) : V X G nL k n Q pc ls (.long y :: .long x :: st) h := by
  obtain ⟨hd, rfl⟩ := hd
  intro H locs la hW hS hL
  exact lv_ladd hX.1 hX.2.1 hd (kk H locs la hW hS hL)
theorem v_lsub (hX : OKx X G own cc nL rt) {x y : Int64} (hd : Dq cc pc (.lsub) 1 pc') (kk : V X G nL k n Q pc' ls (.long (x - y) :: st) h) : V X G nL k n Q pc ls (.long y :: .long x :: st) h := by
  obtain ⟨hd, rfl⟩ := hd
  intro H locs la hW hS hL
  exact lv_lsub hX.1 hX.2.1 hd (kk H locs la hW hS hL)
theorem v_lmul (hX : OKx X G own cc nL rt) {x y : Int64} (hd : Dq cc pc (.lmul) 1 pc') (kk : V X G nL k n Q pc' ls (.long (x * y) :: st) h) : V X G nL k n Q pc ls (.long y :: .long x :: st) h := by
  obtain ⟨hd, rfl⟩ := hd
  intro H locs la hW hS hL
  exact lv_lmul hX.1 hX.2.1 hd (kk H locs la hW hS hL)
theorem v_ldiv (hX : OKx X G own cc nL rt) {x y : Int64} (hy : ¬ y = 0) (hd : Dq cc pc (.ldiv) 1 pc') (kk : V X G nL k n Q pc' ls (.long (x / y) :: st) h) : V X G nL k n Q pc ls (.long y :: .long x :: st) h := by
  obtain ⟨hd, rfl⟩ := hd
  intro H locs la hW hS hL
  exact lv_ldiv hX.1 hX.2.1 hd hy (kk H locs la hW hS hL)
theorem v_lrem (hX : OKx X G own cc nL rt) {x y : Int64} (hy : ¬ y = 0) (hd : Dq cc pc (.lrem) 1 pc') (kk : V X G nL k n Q pc' ls (.long (x - x / y * y) :: st) h) : V X G nL k n Q pc ls (.long y :: .long x :: st) h := by
  obtain ⟨hd, rfl⟩ := hd
  intro H locs la hW hS hL
  exact lv_lrem hX.1 hX.2.1 hd hy (kk H locs la hW hS hL)
theorem v_i2l (hX : OKx X G own cc nL rt) {x : Int32} (hd : Dq cc pc (.i2l) 1 pc') (kk : V X G nL k n Q pc' ls (.long (x.toInt64) :: st) h) : V X G nL k n Q pc ls (.int x :: st) h := by
  obtain ⟨hd, rfl⟩ := hd
  intro H locs la hW hS hL
  exact lv_i2l hX.1 hX.2.1 hd rfl (kk H locs la hW hS hL)
theorem v_l2i (hX : OKx X G own cc nL rt) {x : Int64} (hd : Dq cc pc (.l2i) 1 pc') (kk : V X G nL k n Q pc' ls (.int (x.toInt32) :: st) h) : V X G nL k n Q pc ls (.long x :: st) h := by
  obtain ⟨hd, rfl⟩ := hd
  intro H locs la hW hS hL
  exact lv_l2i hX.1 hX.2.1 hd rfl (kk H locs la hW hS hL)
theorem v_i2b (hX : OKx X G own cc nL rt) {x : Int32} (hd : Dq cc pc (.i2b) 1 pc') (kk : V X G nL k n Q pc' ls (.int (x.toInt8.toInt32) :: st) h) : V X G nL k n Q pc ls (.int x :: st) h := by
  obtain ⟨hd, rfl⟩ := hd
  intro H locs la hW hS hL
  exact lv_i2b hX.1 hX.2.1 hd rfl (kk H locs la hW hS hL)
theorem v_i2s (hX : OKx X G own cc nL rt) {x : Int32} (hd : Dq cc pc (.i2s) 1 pc') (kk : V X G nL k n Q pc' ls (.int (x.toInt16.toInt32) :: st) h) : V X G nL k n Q pc ls (.int x :: st) h := by
  obtain ⟨hd, rfl⟩ := hd
  intro H locs la hW hS hL
  exact lv_i2s hX.1 hX.2.1 hd rfl (kk H locs la hW hS hL)
theorem v_dup (hX : OKx X G own cc nL rt) {v : Value} (hv : v.category = 1) (hd : Dq cc pc (.dup) 1 pc') (kk : V X G nL k n Q pc' ls (v :: v :: st) h) : V X G nL k n Q pc ls (v :: st) h := by
  obtain ⟨hd, rfl⟩ := hd
  intro H locs la hW hS hL
  exact lv_dup hX.1 hX.2.1 hd (by rw [cv_cat]; exact hv) (kk H locs la hW hS hL)
theorem v_pop (hX : OKx X G own cc nL rt) {v : Value} (hv : v.category = 1) (hd : Dq cc pc (.pop) 1 pc') (kk : V X G nL k n Q pc' ls (st) h) : V X G nL k n Q pc ls (v :: st) h := by
  obtain ⟨hd, rfl⟩ := hd
  intro H locs la hW hS hL
  exact lv_pop hX.1 hX.2.1 hd (by rw [cv_cat]; exact hv) (kk H locs la hW hS hL)
theorem v_istore_n (hX : OKx X G own cc nL rt) {i : Fin 4} {x : Int32} (hn : i.val < nL) (hq : noD ls = true) {ls' : List (Option Value)} (hl' : lst ls i.val (.int x) = ls') (hd : Dq cc pc (.istore_n i) 1 pc') (kk : V X G nL k n Q pc' ls' st h) : V X G nL k n Q pc ls (.int x :: st) h := by
  obtain ⟨hd, rfl⟩ := hd
  subst hl'
  intro H locs la hW hS hL
  exact lv_istore_n hX.1 hX.2.1 hd rfl hL hn rfl (fun la' hL' => kk H locs la' hW hS (LH.st hL' (noD.no hq)))
theorem v_istore (hX : OKx X G own cc nL rt) {i : Nat} {x : Int32} (hn : i < nL) (hq : noD ls = true) {ls' : List (Option Value)} (hl' : lst ls i (.int x) = ls') (hd : Dq cc pc (.istore i) 2 pc') (kk : V X G nL k n Q pc' ls' st h) : V X G nL k n Q pc ls (.int x :: st) h := by
  obtain ⟨hd, rfl⟩ := hd
  subst hl'
  intro H locs la hW hS hL
  exact lv_istore hX.1 hX.2.1 hd  hL hn rfl (fun la' hL' => kk H locs la' hW hS (LH.st hL' (noD.no hq)))
theorem v_astore_n (hX : OKx X G own cc nL rt) {i : Fin 4} {x : Nat} (hn : i.val < nL) (hq : noD ls = true) {ls' : List (Option Value)} (hl' : lst ls i.val (.ref x) = ls') (hd : Dq cc pc (.astore_n i) 1 pc') (kk : V X G nL k n Q pc' ls' st h) : V X G nL k n Q pc ls (.ref x :: st) h := by
  obtain ⟨hd, rfl⟩ := hd
  subst hl'
  intro H locs la hW hS hL
  exact lv_astore_n hX.1 hX.2.1 hd rfl hL hn rfl (fun la' hL' => kk H locs la' hW hS (LH.st hL' (noD.no hq)))
theorem v_astore (hX : OKx X G own cc nL rt) {i : Nat} {x : Nat} (hn : i < nL) (hq : noD ls = true) {ls' : List (Option Value)} (hl' : lst ls i (.ref x) = ls') (hd : Dq cc pc (.astore i) 2 pc') (kk : V X G nL k n Q pc' ls' st h) : V X G nL k n Q pc ls (.ref x :: st) h := by
  obtain ⟨hd, rfl⟩ := hd
  subst hl'
  intro H locs la hW hS hL
  exact lv_astore hX.1 hX.2.1 hd  hL hn rfl (fun la' hL' => kk H locs la' hW hS (LH.st hL' (noD.no hq)))
theorem v_lstore_n (hX : OKx X G own cc nL rt) {i : Fin 4} {x : Int64} (hn : i.val + 1 < nL) (hq : noD ls = true) {ls' : List (Option Value)} (hl' : lstL ls i.val x = ls') (hd : Dq cc pc (.lstore_n i) 1 pc') (kk : V X G nL k n Q pc' ls' st h) : V X G nL k n Q pc ls (.long x :: st) h := by
  obtain ⟨hd, rfl⟩ := hd
  subst hl'
  intro H locs la hW hS hL
  exact lv_lstore_n hX.1 hX.2.1 hd rfl hL hn rfl (fun la' hL' => kk H locs la' hW hS (LH.stL hL' (noD.no hq)))
theorem v_lstore (hX : OKx X G own cc nL rt) {i : Nat} {x : Int64} (hn : i + 1 < nL) (hq : noD ls = true) {ls' : List (Option Value)} (hl' : lstL ls i x = ls') (hd : Dq cc pc (.lstore i) 2 pc') (kk : V X G nL k n Q pc' ls' st h) : V X G nL k n Q pc ls (.long x :: st) h := by
  obtain ⟨hd, rfl⟩ := hd
  subst hl'
  intro H locs la hW hS hL
  exact lv_lstore hX.1 hX.2.1 hd  hL hn rfl (fun la' hL' => kk H locs la' hW hS (LH.stL hL' (noD.no hq)))
theorem v_iinc (hX : OKx X G own cc nL rt) {i : Nat} {d : Int} {x v : Int32} (hx : ls[i]? = some (some (.int x))) (hv : x + Int32.ofInt d = v) (hn : i < nL) (hq : noD ls = true) {ls' : List (Option Value)} (hl' : lst ls i (.int v) = ls') (hd : Dq cc pc (.iinc i d) 3 pc') (kk : V X G nL k n Q pc' ls' st h) : V X G nL k n Q pc ls st h := by
  obtain ⟨hd, rfl⟩ := hd
  subst hl'
  intro H locs la hW hS hL
  obtain ⟨j, hj⟩ := List.getElem?_of_mem ((asc_mem (G := G) ls 0 i (.int x)).mpr ⟨i, .int x, by omega, hx, rfl⟩)
  exact lv_iinc hX.1 hX.2.1 hd hL hj hv hn rfl (fun la' hL' => kk H locs la' hW hS (LH.st hL' (noD.no hq)))
theorem v_if_eq (hX : OKx X G own cc nL rt) {x : Int32} {off : Int} (tgt : Nat) (hd : Dq cc pc (.ifCond .eq off) 3 pc') (ht : (pc : Int) + off = (tgt : Int)) (kt : x = 0 → V X G nL k n Q tgt ls st h) (kf : ¬ (x = 0) → V X G nL k n Q pc' ls st h) : V X G nL k n Q pc ls (.int x :: st) h := by
  obtain ⟨hd, rfl⟩ := hd
  intro H locs la hW hS hL
  exact lv_if_eq hX.1 hX.2.1 hd ht (fun c => kt c H locs la hW hS hL) (fun c => kf c H locs la hW hS hL)
theorem v_if_lt (hX : OKx X G own cc nL rt) {x : Int32} {off : Int} (tgt : Nat) (hd : Dq cc pc (.ifCond .lt off) 3 pc') (ht : (pc : Int) + off = (tgt : Int)) (kt : x < 0 → V X G nL k n Q tgt ls st h) (kf : ¬ (x < 0) → V X G nL k n Q pc' ls st h) : V X G nL k n Q pc ls (.int x :: st) h := by
  obtain ⟨hd, rfl⟩ := hd
  intro H locs la hW hS hL
  exact lv_if_lt hX.1 hX.2.1 hd ht (fun c => kt c H locs la hW hS hL) (fun c => kf c H locs la hW hS hL)
theorem v_if_ge (hX : OKx X G own cc nL rt) {x : Int32} {off : Int} (tgt : Nat) (hd : Dq cc pc (.ifCond .ge off) 3 pc') (ht : (pc : Int) + off = (tgt : Int)) (kt : 0 ≤ x → V X G nL k n Q tgt ls st h) (kf : ¬ (0 ≤ x) → V X G nL k n Q pc' ls st h) : V X G nL k n Q pc ls (.int x :: st) h := by
  obtain ⟨hd, rfl⟩ := hd
  intro H locs la hW hS hL
  exact lv_if_ge hX.1 hX.2.1 hd ht (fun c => kt c H locs la hW hS hL) (fun c => kf c H locs la hW hS hL)
theorem v_if_gt (hX : OKx X G own cc nL rt) {x : Int32} {off : Int} (tgt : Nat) (hd : Dq cc pc (.ifCond .gt off) 3 pc') (ht : (pc : Int) + off = (tgt : Int)) (kt : 0 < x → V X G nL k n Q tgt ls st h) (kf : ¬ (0 < x) → V X G nL k n Q pc' ls st h) : V X G nL k n Q pc ls (.int x :: st) h := by
  obtain ⟨hd, rfl⟩ := hd
  intro H locs la hW hS hL
  exact lv_if_gt hX.1 hX.2.1 hd ht (fun c => kt c H locs la hW hS hL) (fun c => kf c H locs la hW hS hL)
theorem v_if_le (hX : OKx X G own cc nL rt) {x : Int32} {off : Int} (tgt : Nat) (hd : Dq cc pc (.ifCond .le off) 3 pc') (ht : (pc : Int) + off = (tgt : Int)) (kt : x ≤ 0 → V X G nL k n Q tgt ls st h) (kf : ¬ (x ≤ 0) → V X G nL k n Q pc' ls st h) : V X G nL k n Q pc ls (.int x :: st) h := by
  obtain ⟨hd, rfl⟩ := hd
  intro H locs la hW hS hL
  exact lv_if_le hX.1 hX.2.1 hd ht (fun c => kt c H locs la hW hS hL) (fun c => kf c H locs la hW hS hL)
theorem v_icmp_eq (hX : OKx X G own cc nL rt) {x y : Int32} {off : Int} (tgt : Nat) (hd : Dq cc pc (.if_icmp .eq off) 3 pc') (ht : (pc : Int) + off = (tgt : Int)) (kt : x = y → V X G nL k n Q tgt ls st h) (kf : ¬ (x = y) → V X G nL k n Q pc' ls st h) : V X G nL k n Q pc ls (.int y :: .int x :: st) h := by
  obtain ⟨hd, rfl⟩ := hd
  intro H locs la hW hS hL
  exact lv_icmp_eq hX.1 hX.2.1 hd ht (fun c => kt c H locs la hW hS hL) (fun c => kf c H locs la hW hS hL)
theorem v_icmp_lt (hX : OKx X G own cc nL rt) {x y : Int32} {off : Int} (tgt : Nat) (hd : Dq cc pc (.if_icmp .lt off) 3 pc') (ht : (pc : Int) + off = (tgt : Int)) (kt : x < y → V X G nL k n Q tgt ls st h) (kf : ¬ (x < y) → V X G nL k n Q pc' ls st h) : V X G nL k n Q pc ls (.int y :: .int x :: st) h := by
  obtain ⟨hd, rfl⟩ := hd
  intro H locs la hW hS hL
  exact lv_icmp_lt hX.1 hX.2.1 hd ht (fun c => kt c H locs la hW hS hL) (fun c => kf c H locs la hW hS hL)
theorem v_icmp_ge (hX : OKx X G own cc nL rt) {x y : Int32} {off : Int} (tgt : Nat) (hd : Dq cc pc (.if_icmp .ge off) 3 pc') (ht : (pc : Int) + off = (tgt : Int)) (kt : y ≤ x → V X G nL k n Q tgt ls st h) (kf : ¬ (y ≤ x) → V X G nL k n Q pc' ls st h) : V X G nL k n Q pc ls (.int y :: .int x :: st) h := by
  obtain ⟨hd, rfl⟩ := hd
  intro H locs la hW hS hL
  exact lv_icmp_ge hX.1 hX.2.1 hd ht (fun c => kt c H locs la hW hS hL) (fun c => kf c H locs la hW hS hL)
theorem v_icmp_gt (hX : OKx X G own cc nL rt) {x y : Int32} {off : Int} (tgt : Nat) (hd : Dq cc pc (.if_icmp .gt off) 3 pc') (ht : (pc : Int) + off = (tgt : Int)) (kt : y < x → V X G nL k n Q tgt ls st h) (kf : ¬ (y < x) → V X G nL k n Q pc' ls st h) : V X G nL k n Q pc ls (.int y :: .int x :: st) h := by
  obtain ⟨hd, rfl⟩ := hd
  intro H locs la hW hS hL
  exact lv_icmp_gt hX.1 hX.2.1 hd ht (fun c => kt c H locs la hW hS hL) (fun c => kf c H locs la hW hS hL)
theorem v_icmp_le (hX : OKx X G own cc nL rt) {x y : Int32} {off : Int} (tgt : Nat) (hd : Dq cc pc (.if_icmp .le off) 3 pc') (ht : (pc : Int) + off = (tgt : Int)) (kt : x ≤ y → V X G nL k n Q tgt ls st h) (kf : ¬ (x ≤ y) → V X G nL k n Q pc' ls st h) : V X G nL k n Q pc ls (.int y :: .int x :: st) h := by
  obtain ⟨hd, rfl⟩ := hd
  intro H locs la hW hS hL
  exact lv_icmp_le hX.1 hX.2.1 hd ht (fun c => kt c H locs la hW hS hL) (fun c => kf c H locs la hW hS hL)

theorem v_if_ne (hX : OKx X G own cc nL rt) {x : Int32} {off : Int} (tgt : Nat) (hd : Dq cc pc (.ifCond .ne off) 3 pc') (ht : (pc : Int) + off = (tgt : Int)) (kt : ¬ x = 0 → V X G nL k n Q tgt ls st h) (kf : x = 0 → V X G nL k n Q pc' ls st h) : V X G nL k n Q pc ls (.int x :: st) h := by
  obtain ⟨hd, rfl⟩ := hd
  intro H locs la hW hS hL
  exact lv_if_ne hX.1 hX.2.1 hd ht (fun c => kt c H locs la hW hS hL) (fun c => kf c H locs la hW hS hL)
theorem v_icmp_ne (hX : OKx X G own cc nL rt) {x y : Int32} {off : Int} (tgt : Nat) (hd : Dq cc pc (.if_icmp .ne off) 3 pc') (ht : (pc : Int) + off = (tgt : Int)) (kt : ¬ x = y → V X G nL k n Q tgt ls st h) (kf : x = y → V X G nL k n Q pc' ls st h) : V X G nL k n Q pc ls (.int y :: .int x :: st) h := by
  obtain ⟨hd, rfl⟩ := hd
  intro H locs la hW hS hL
  exact lv_icmp_ne hX.1 hX.2.1 hd ht (fun c => kt c H locs la hW hS hL) (fun c => kf c H locs la hW hS hL)
theorem v_goto (hX : OKx X G own cc nL rt) {off : Int} (tgt : Nat) (hd : Dq cc pc (.goto off) 3 pc') (ht : (pc : Int) + off = (tgt : Int)) (kk : V X G nL k n Q tgt ls st h) : V X G nL k n Q pc ls st h := by
  obtain ⟨hd, rfl⟩ := hd
  intro H locs la hW hS hL
  exact lv_goto hX.1 hX.2.1 hd ht (kk H locs la hW hS hL)
theorem v_ifnull (hX : OKx X G own cc nL rt) {x : Nat} {off : Int} (hd : Dq cc pc (.ifnull off) 3 pc') (kk : V X G nL k n Q pc' ls st h) : V X G nL k n Q pc ls (.ref x :: st) h := by
  obtain ⟨hd, rfl⟩ := hd
  intro H locs la hW hS hL
  exact lv_ifnull hX.1 hX.2.1 hd (kk H locs la hW hS hL)
theorem v_ifnullN (hX : OKx X G own cc nL rt) {off : Int} (tgt : Nat) (hd : Dq cc pc (.ifnull off) 3 pc') (ht : (pc : Int) + off = (tgt : Int)) (kk : V X G nL k n Q tgt ls st h) : V X G nL k n Q pc ls (.null :: st) h := by
  obtain ⟨hd, rfl⟩ := hd
  intro H locs la hW hS hL
  exact lv_ifnullN hX.1 hX.2.1 hd ht (kk H locs la hW hS hL)
theorem v_ifnonnull (hX : OKx X G own cc nL rt) {x : Nat} {off : Int} (tgt : Nat) (hd : Dq cc pc (.ifnonnull off) 3 pc') (ht : (pc : Int) + off = (tgt : Int)) (kk : V X G nL k n Q tgt ls st h) : V X G nL k n Q pc ls (.ref x :: st) h := by
  obtain ⟨hd, rfl⟩ := hd
  intro H locs la hW hS hL
  exact lv_ifnonnull hX.1 hX.2.1 hd ht (kk H locs la hW hS hL)
theorem v_ifnonnullN (hX : OKx X G own cc nL rt) {off : Int} (hd : Dq cc pc (.ifnonnull off) 3 pc') (kk : V X G nL k n Q pc' ls st h) : V X G nL k n Q pc ls (.null :: st) h := by
  obtain ⟨hd, rfl⟩ := hd
  intro H locs la hW hS hL
  exact lv_ifnonnullN hX.1 hX.2.1 hd (kk H locs la hW hS hL)
theorem v_lcmp (hX : OKx X G own cc nL rt) {x y : Int64} (hd : Dq cc pc .lcmp 1 pc') (kk : V X G nL k n Q pc' ls (.int (lg_cmp x y) :: st) h) : V X G nL k n Q pc ls (.long y :: .long x :: st) h := by
  obtain ⟨hd, rfl⟩ := hd
  intro H locs la hW hS hL
  exact W.lcmp hX.1 hX.2.1 hd (kk H locs la hW hS hL)
theorem v_tableOut (hX : OKx X G own cc nL rt) {dflt lo hi : Int} {offs : Array Int} {len : Nat} {x : Int32} (tgt : Nat) (hd : Dq cc pc (.tableswitch dflt lo hi offs) len pc') (hx : x.toInt < lo ∨ hi < x.toInt) (ht : (pc : Int) + dflt = (tgt : Int)) (kk : V X G nL k n Q tgt ls st h) : V X G nL k n Q pc ls (.int x :: st) h := by
  obtain ⟨hd, rfl⟩ := hd
  intro H locs la hW hS hL
  exact lv_tableOut hX.1 hX.2.1 hd hx ht (kk H locs la hW hS hL)
theorem v_tableIn (hX : OKx X G own cc nL rt) {dflt lo hi : Int} {offs : Array Int} {len : Nat} {x : Int32} {off : Int} (tgt : Nat) (hd : Dq cc pc (.tableswitch dflt lo hi offs) len pc') (h1 : ¬ x.toInt < lo) (h2 : ¬ hi < x.toInt) (ho : offs[(x.toInt - lo).toNat]? = some off) (ht : (pc : Int) + off = (tgt : Int)) (kk : V X G nL k n Q tgt ls st h) : V X G nL k n Q pc ls (.int x :: st) h := by
  obtain ⟨hd, rfl⟩ := hd
  intro H locs la hW hS hL
  exact lv_tableIn hX.1 hX.2.1 hd h1 h2 ho ht (kk H locs la hW hS hL)
theorem v_lookup (hX : OKx X G own cc nL rt) {dflt : Int} {ps : Array (Int × Int)} {len : Nat} {x : Int32} {off : Int} (tgt : Nat) (hd : Dq cc pc (.lookupswitch dflt ps) len pc') (hp : (ps.toList.zip (ps.toList.drop 1)).all (fun (a, next) => a.1 < next.1) = true) (ho : Op.lookupswitch.offset ps.toList dflt x.toInt = off) (ht : (pc : Int) + off = (tgt : Int)) (kk : V X G nL k n Q tgt ls st h) : V X G nL k n Q pc ls (.int x :: st) h := by
  obtain ⟨hd, rfl⟩ := hd
  intro H locs la hW hS hL
  exact lv_lookup hX.1 hX.2.1 hd hp ho ht (kk H locs la hW hS hL)
end VL
end
section
/-! fields and arrays -/
theorem fls_len {G : Glb} {h : AHp} {a : Nat} : ∀ (ts : List Nat) (k : Nat), (fls G h a k ts).length = ts.length := by
  intro ts
  induction ts with
  | nil => intro k; rfl
  | cons t ts ih => intro k; simp [fls, ih]
theorem fls_at {G : Glb} {h : AHp} {a : Nat} : ∀ (ts : List Nat) (k j t : Nat), ts[j]? = some t → (fls G h a k ts)[j]? = some (fdv G h a t (k + j)) := by
  intro ts
  induction ts with
  | nil => intro k j t hj; simp at hj
  | cons u ts ih =>
    intro k j t hj
    cases j with
    | zero => simp at hj; subst hj; simp [fls]
    | succ j =>
      simp only [fls, List.getElem?_cons_succ] at hj ⊢
      rw [ih (k + 1) j t hj]
      congr 2
      omega
theorem fls_ext {G : Glb} {h h' : AHp} {a a' : Nat} : ∀ (ts : List Nat) (k : Nat), (∀ j t, ts[j]? = some t → fdv G h a t (k + j) = fdv G h' a' t (k + j)) → fls G h a k ts = fls G h' a' k ts := by
  intro ts
  induction ts with
  | nil => intro k _; rfl
  | cons u ts ih =>
    intro k hj
    simp only [fls]
    rw [show fdv G h a u k = fdv G h' a' u k from hj 0 u rfl, ih (k + 1) (fun j t h1 => by have := hj (j + 1) t (by simpa using h1); rw [show k + 1 + j = k + (j + 1) by omega]; exact this)]
theorem fls_set {G : Glb} {h h' : AHp} {a : Nat} {v : Value} : ∀ (ts : List Nat) (k j t : Nat), ts[j]? = some t → fdv G h' a t (k + j) = v → (∀ i u, ts[i]? = some u → i ≠ j → fdv G h a u (k + i) = fdv G h' a u (k + i)) → (fls G h a k ts).set j v = fls G h' a k ts := by
  intro ts
  induction ts with
  | nil => intro k j t hj; simp at hj
  | cons u ts ih =>
    intro k j t hj hv hn
    cases j with
    | zero =>
      simp at hj
      subst hj
      simp only [fls, List.set_cons_zero]
      rw [show fdv G h' a u k = v from hv]
      congr 1
      exact fls_ext ts (k + 1) (fun j t h1 => by have := hn (j + 1) t (by simpa using h1) (by omega); rw [show k + 1 + j = k + (j + 1) by omega]; exact this)
    | succ j =>
      simp only [fls, List.set_cons_succ]
      rw [show fdv G h a u k = fdv G h' a u k from hn 0 u rfl (by omega)]
      congr 1
      refine ih (k + 1) j t (by simpa using hj) (by rw [show k + 1 + j = k + (j + 1) by omega]; exact hv) (fun i w h1 h2 => ?_)
      have := hn (i + 1) w (by simpa using h1) (by omega)
      rw [show k + 1 + i = k + (i + 1) by omega]
      exact this
theorem celE_obj {G : Glb} {h : AHp} {a c : Nat} (hk : hpK h a = c) (hc : c < 100) : celE G h a = .inr (c, fls G h a 0 (lyt c)) := by subst hk; exact if_pos hc
theorem celE_int {G : Glb} {h : AHp} {a c : Nat} (hk : hpK h a = c) (hc : c = 100 ∨ c = 101) : celE G h a = .inl (gA G c, (hpL h a, .inl (hpI h a))) := by
  unfold celE
  rw [hk, if_neg (by omega), if_pos (by omega)]
theorem celE_ref {G : Glb} {h : AHp} {a c : Nat} (hk : hpK h a = c) (hc : c = 102 ∨ c = 103) : celE G h a = .inl (gA G c, (hpL h a, .inr (.inr (.inr (.inr (fun i => (hpR h a i).map (gAd G))))))) := by
  unfold celE
  rw [hk, if_neg (by omega), if_neg (by omega)]
def tyT (t : FieldType) : Nat := match t with
  | .int => 0
  | .object _ => 1
  | .array _ => 1
  | .long => 2
  | .boolean => 3
  | _ => 9
theorem tyT_int {t : FieldType} (h : tyT t = 0) : t = .int := by cases t <;> first | rfl | cases h
theorem tyT_long {t : FieldType} (h : tyT t = 2) : t = .long := by cases t <;> first | rfl | cases h
theorem tyT_bool {t : FieldType} (h : tyT t = 3) : t = .boolean := by cases t <;> first | rfl | cases h
theorem tyT_ref {t : FieldType} (h : tyT t = 1) {v : Value} (hv : v = .null ∨ ∃ a, v = .ref a) : narrow t v = v ∧ fits t v = true ∧ defaultValue t = .null := by
  cases t <;> first | cases h | skip
  all_goals rcases hv with rfl | ⟨a, rfl⟩ <;> exact ⟨rfl, rfl, rfl⟩
/-- a class of ours, and all that is decided of it -/
def ClOK (ci : Nat) (C : String) (T : u_T) (N : Nat) (ty : Nat → FieldType) : Prop := vwCl[ci]? = some (C, T, N) ∧ (∀ w ∈ u_ws C T N, w ∈ TG) ∧ (∀ k, k < N → parseFieldDescriptor (T k).2.2.1 = some (ty k)) ∧ (∀ a, a < N → ∀ b, b < N → a ≠ b → (T a).2.1 ≠ (T b).2.1) ∧ (lyt ci).length = N ∧ ci < 100 ∧ (∀ k, k < N → (lyt ci).getD k 8 = tyT (ty k))
/-- the field k (of tag t) of class ci, by the pool's entry ix of own -/
def FL (own : String) (ix ci k t : Nat) (fin : Bool) : Prop := ∃ (C : String) (T : u_T) (N : Nat) (ty : Nat → FieldType) (ref : String), ClOK ci C T N ty ∧ k < N ∧ (lyt ci)[k]? = some t ∧ (T k).2.2.2 = fin ∧ Cond.fieldLink own ix ref (T k).2.1 (T k).2.2.1 ∈ TG ∧ ((T k).1 = ref ∨ Cond.sameField ref (T k).1 (T k).2.1 (T k).2.2.1 ∈ TG) ∧ (fin = true → (T k).1 = own)
theorem FL.ty {own : String} {ix ci k t : Nat} {C : String} {T : u_T} {N : Nat} {ty : Nat → FieldType} (hc : ClOK ci C T N ty) (hk : k < N) (ht : (lyt ci)[k]? = some t) : tyT (ty k) = t := by
  rw [← hc.2.2.2.2.2.2 k hk]
  simp [List.getD, ht]
theorem va_at.here {D : va_G} {cl : List vw_C} {a : Nat} {e : va_E} {H : Heap} (h : va_at D cl (a, e) H) : va_P D cl [(a, e)] H := fun k q hq => by
  have hz : k < 1 := (List.getElem?_eq_some_iff.mp hq).1
  rw [show k = 0 by omega] at hq
  cases hq
  exact h
theorem Wd.at {G : Glb} {h : AHp} {H : Heap} (hW : Wd G h H) {a c : Nat} (hk : Kd h a c) : va_at (gD G) vwCl (gAd G a, celE G h a) H := by
  rw [gAd_lt (Nat.lt_trans hk.2 hW.2.1)]
  exact hW.2.2.2 a hk.2
section VH
variable {X : Cx} {G : Glb} {own : String} {cc : ByteArray} {nL k n pc pc' : Nat} {rt : Option FieldType} {Q : State → Prop} {ls : List (Option Value)} {st : List Value} {h : AHp}
theorem v_get (hX : OKx X G own cc nL rt) {ix ci fk t a : Nat} {fin : Bool} {v : Value} (hf : FL own ix ci fk t fin) (hk : Kd h a ci) (hv : fdv G h a t fk = cv G v) (hd : Dq cc pc (.getfield ix) 3 pc') (kk : V X G nL k n Q pc' ls (v :: st) h) : V X G nL k n Q pc ls (.ref a :: st) h := by
  obtain ⟨hd, rfl⟩ := hd
  obtain ⟨C, T, N, ty, ref, hc, hN, ht, -, hl, hs, -⟩ := hf
  intro H locs la hW hS hL
  have hat := hW.at hk
  rw [celE_obj hk.1 hc.2.2.2.2.2.1] at hat
  have he := fls_at (G := G) (h := h) (a := a) (lyt ci) 0 fk t ht
  rw [Nat.zero_add, hv] at he
  refine va_get (D := gD G) (cl := vwCl) (C := C) (T := T) (N := N) (ref := ref) hX.1 hX.2.1 hX.2.2.2.2.2.1 hc.2.1 hX.2.2.2.2.1 hX.2.2.2.2.2.2.1.1 hat.here 0 rfl hc.1 fk hN (hX.2.2.2.2.2.1 _ hl) ?_ he hd (kk H locs la hW hS hL)
  rcases hs with rfl | hs
  · exact fun x h => h
  · exact fun x h => u_same (hX.2.2.2.2.2.1 _ hs) x h
theorem v_getI (hX : OKx X G own cc nL rt) {ix ci fk t a : Nat} {fin : Bool} (hf : FL own ix ci fk t fin) (ht : t = 0 ∨ t = 3) (hk : Kd h a ci) (hd : Dq cc pc (.getfield ix) 3 pc') (kk : V X G nL k n Q pc' ls (.int (hpI h a fk) :: st) h) : V X G nL k n Q pc ls (.ref a :: st) h := v_get hX hf hk (by rcases ht with rfl | rfl <;> rfl) hd kk
theorem v_getJ (hX : OKx X G own cc nL rt) {ix ci fk a : Nat} {fin : Bool} (hf : FL own ix ci fk 2 fin) (hk : Kd h a ci) (hd : Dq cc pc (.getfield ix) 3 pc') (kk : V X G nL k n Q pc' ls (.long (hpJ h a fk) :: st) h) : V X G nL k n Q pc ls (.ref a :: st) h := v_get hX hf hk rfl hd kk
theorem v_getR (hX : OKx X G own cc nL rt) {ix ci fk a b : Nat} {fin : Bool} (hf : FL own ix ci fk 1 fin) (hk : Kd h a ci) (hr : hpR h a fk = some b) (hd : Dq cc pc (.getfield ix) 3 pc') (kk : V X G nL k n Q pc' ls (.ref b :: st) h) : V X G nL k n Q pc ls (.ref a :: st) h := v_get hX hf hk (by show va_rf ((hpR h a fk).map (gAd G)) = _; rw [hr]; rfl) hd kk
/-- the world behind a write into one cell -/
theorem Wd.put {G : Glb} {h h' : AHp} {H H1 : Heap} {a : Nat} (hW : Wd G h H) (ha : a < hpN h) (hn : hpN h' = hpN h) (hz : H1.size = H.size) (oq : ∀ q : Nat, q ≠ gB G + a → H1[q]? = H[q]?) (h1 : va_at (gD G) vwCl (gB G + a, celE G h' a) H1) (ho : ∀ b, b ≠ a → celE G h' b = celE G h b) : Wd G h' H1 := by
  refine ⟨by rw [hz, hn]; exact hW.1, by rw [hn]; exact hW.2.1, fun q hq => ?_, fun b hb => ?_⟩
  · rw [oq q (by omega)]; exact hW.2.2.1 q hq
  · by_cases hba : b = a
    · subst hba; exact h1
    · rw [ho b hba]
      exact (hW.2.2.2 b (by rw [← hn]; exact hb)).kept (oq (gB G + b) (by omega))
theorem cel_stI {G : Glb} {h : AHp} {a i : Nat} {x : Int32} {b : Nat} (hb : b ≠ a) : celE G (stI h a i x) b = celE G h b := by
  have e1 : hpI (stI h a i x) b = hpI h b := by funext j; show up2 h.1 a i x b j = h.1 b j; exact if_neg (fun z => hb z.1)
  unfold celE
  show (if hpK h b < 100 then (Sum.inr (hpK h b, fls G (stI h a i x) b 0 (lyt (hpK h b))) : va_E) else if hpK h b < 102 then .inl (gA G (hpK h b), (hpL h b, .inl (hpI (stI h a i x) b))) else .inl (gA G (hpK h b), (hpL h b, .inr (.inr (.inr (.inr (fun i => (hpR h b i).map (gAd G)))))))) = _
  rw [e1, fls_ext (h := stI h a i x) (h' := h) (lyt (hpK h b)) 0 (fun j t _ => by unfold fdv; rw [e1]; rfl)]
theorem cel_stJ {G : Glb} {h : AHp} {a i : Nat} {x : Int64} {b : Nat} (hb : b ≠ a) : celE G (stJ h a i x) b = celE G h b := by
  have e1 : hpJ (stJ h a i x) b = hpJ h b := by funext j; show up2 h.2.2.1 a i x b j = h.2.2.1 b j; exact if_neg (fun z => hb z.1)
  unfold celE
  show (if hpK h b < 100 then (Sum.inr (hpK h b, fls G (stJ h a i x) b 0 (lyt (hpK h b))) : va_E) else if hpK h b < 102 then .inl (gA G (hpK h b), (hpL h b, .inl (hpI h b))) else .inl (gA G (hpK h b), (hpL h b, .inr (.inr (.inr (.inr (fun i => (hpR h b i).map (gAd G)))))))) = _
  rw [fls_ext (h := stJ h a i x) (h' := h) (lyt (hpK h b)) 0 (fun j t _ => by unfold fdv; rw [e1]; rfl)]
theorem cel_stR {G : Glb} {h : AHp} {a i : Nat} {x : Option Nat} {b : Nat} (hb : b ≠ a) : celE G (stR h a i x) b = celE G h b := by
  have e1 : hpR (stR h a i x) b = hpR h b := by funext j; show up2 h.2.1 a i x b j = h.2.1 b j; exact if_neg (fun z => hb z.1)
  unfold celE
  show (if hpK h b < 100 then (Sum.inr (hpK h b, fls G (stR h a i x) b 0 (lyt (hpK h b))) : va_E) else if hpK h b < 102 then .inl (gA G (hpK h b), (hpL h b, .inl (hpI h b))) else .inl (gA G (hpK h b), (hpL h b, .inr (.inr (.inr (.inr (fun i2 => (hpR (stR h a i x) b i2).map (gAd G)))))))) = _
  rw [e1, fls_ext (h := stR h a i x) (h' := h) (lyt (hpK h b)) 0 (fun j t _ => by unfold fdv; rw [e1]; rfl)]
end VH
end
section
section VP
variable {X : Cx} {G : Glb} {own : String} {cc : ByteArray} {nL k n pc pc' : Nat} {rt : Option FieldType} {Q : State → Prop} {ls : List (Option Value)} {st : List Value} {h : AHp}
/-- putfield, its new cell told -/
theorem w_put {p : Program} {l : Launch} {e : Env} {R : Room} {s : State} {m : MethodId} {args : Array Value} {below : List Frame} {meth : Method} {c : Code} {H : Heap} {locs : List Loc} {cells slots : Nat} {la : Array Slot} {rest : List Value} {D : va_G} {a ix ci fk : Nat} {tys : List (ClassId × FieldType)}
    (hexec : p.tables.exec = Jvm.exec) (hb : c.code = cc) {ref C : String} {T : u_T} {N : Nat} {ty : Nat → FieldType} (hts : ∀ w ∈ TG, w.before args s = true) (hc : ClOK ci C T N ty) (hown : s.vm.findClass own = some m.cls) (hK : va_K D vwCl tys s) {fs : List Value} (hat : va_at D vwCl (a, .inr (ci, fs)) H) (hk : fk < N) (hl : Cond.fieldLink own ix ref (T fk).2.1 (T fk).2.2.1 ∈ TG) (hs : (T fk).1 = ref ∨ Cond.sameField ref (T fk).1 (T fk).2.1 (T fk).2.2.1 ∈ TG)
    (hfin : (T fk).2.2.2 = false ∨ ((T fk).2.2.2 = true ∧ meth.name = "<init>" ∧ (T fk).1 = own)) {v : Value} (hn : narrow (ty fk) v = v) (hfit : fits (ty fk) v = true) (hlen : fk < fs.length) (hdg : decode cc pc = .ok (.putfield ix, 3))
    (kk : ∀ (H1 : Heap) (sl : Nat), va_at D vwCl (a, .inr (ci, fs.set fk v)) H1 → H1.size = H.size → (∀ q : Nat, q ≠ a → H1[q]? = H[q]?) → W p l e R s m args below meth c H1 (locs ++ [⟨a, sl⟩]) cells slots Q (F0 m (pc + 3) la rest)) : W p l e R s m args below meth c H locs cells slots Q (F0 m pc la (v :: .ref a :: rest)) := by
  have hsame : ∀ x, s.fieldFound? (T fk).1 (T fk).2.1 (T fk).2.2.1 = some x → s.fieldFound? ref (T fk).2.1 (T fk).2.2.1 = some x := by
    rcases hs with rfl | hs
    · exact fun x h => h
    · exact fun x h => u_same (hts _ hs) x h
  have hap := va_apart (own := own) hts hc.2.1 ty hc.2.2.1 hc.2.2.2.1 hK hc.1
  obtain ⟨r, h1, cell, q1, q2, q3, q4⟩ := hat
  have hr : r = (C, T, N) := Option.some.inj (h1.symm.trans hc.1)
  subst hr
  obtain ⟨hS, hfc, kC, hkC, hkind⟩ := hK.1 ci _ hc.1
  obtain ⟨cf, kf, fi, f, hi, hsl⟩ := hS fk hk
  have hlay := hts _ (hc.2.1 _ (u_in_lay hk))
  unfold u_lay at hlay
  have hst := (u_facts hfc hkC (u_lays hts hc.2.1 hk) hi).1
  have fin : ∀ (H' : Heap), H'[a]? = some (cell.setSlot f.slot v) → H'.size = H.size → (∀ q, q ≠ a → H'[q]? = H[q]?) → W p l e R s m args below meth c H' (locs ++ [⟨a, f.slot⟩]) cells slots Q (F0 m (pc + 3) la rest) := fun H' e1 e2 e3 => by
    rw [hsl] at e1
    exact kk H' _ ⟨_, hc.1, t_OB.to (V := updV (vp_V fs) fk v) ⟨_, e1, q2, q3, t_set q4 hap hk v⟩ (fun j _ => vp_updV_set hlen v j)⟩ e2 e3
  rcases hfin with hfin | ⟨hfin, hin2, hdecl⟩
  · rw [if_neg (by rw [hfin]; decide)] at hlay
    have h6 := u_store hfc hkC hkind hlay hi (hc.2.2.1 fk hk) hn hfit
    exact W.putK hexec hb (f := f) ⟨hown, hl |> hts _, ⟨_, _, _, hsame _ hi⟩, hst⟩ (by rw [q2]; exact h6) q1 q3 (by rw [hsl]; exact k2_hasslot (q4 fk hk)) rfl rfl hdg fin
  · rw [if_pos hfin] at hlay
    have hcf : m.cls = cf := by
      obtain ⟨_, _, c', _, _, _, -, -, hf', -, -, -, hown2, -⟩ := Cond.laysFinal_spec hlay
      have e1 : c' = cf := by have := hi.symm.trans hf'; simp at this; exact this.1.symm
      rw [hdecl] at hown2
      rw [← e1]; exact Option.some.inj (hown.symm.trans hown2)
    have h6 := u_fits hfc hkC hkind (Or.inr hlay) hi (hc.2.2.1 fk hk) hn hfit
    exact W.putFinK hexec hb hown (hts _ hl) (hsame _ hi) hst hcf hin2 (by rw [q2]; exact h6) q1 q3 (by rw [hsl]; exact k2_hasslot (q4 fk hk)) rfl rfl hdg fin
/-- putfield: h' is h with the field changed -/
theorem v_put (hX : OKx X G own cc nL rt) {ix ci fk t a : Nat} {fin : Bool} {v : Value} {h' : AHp} (hf : FL own ix ci fk t fin) (hk : Kd h a ci) (hin : fin = false ∨ (xM X).name = "<init>") (hty : ∀ ty, tyT ty = t → narrow ty (cv G v) = cv G v ∧ fits ty (cv G v) = true) (hN : hpN h' = hpN h) (hK' : hpK h' a = ci) (hv : fdv G h' a t fk = cv G v) (ho : ∀ u j, j ≠ fk → fdv G h a u j = fdv G h' a u j) (hb : ∀ b, b ≠ a → celE G h' b = celE G h b) (hd : Dq cc pc (.putfield ix) 3 pc') (kk : V X G nL k n Q pc' ls st h') : V X G nL k n Q pc ls (v :: .ref a :: st) h := by
  obtain ⟨hd, rfl⟩ := hd
  obtain ⟨C, T, N, ty, ref, hc, hN2, ht, hfin, hl, hs, hfi⟩ := hf
  intro H locs la hW hS hL
  have hat := hW.at hk
  have ead : gAd G a = gB G + a := gAd_lt (Nat.lt_trans hk.2 hW.2.1)
  rw [celE_obj hk.1 hc.2.2.2.2.2.1, ead] at hat
  have hty1 := hty (ty fk) (FL.ty (own := own) (ix := ix) hc hN2 ht)
  have hset := fls_set (G := G) (h := h) (h' := h') (a := a) (v := cv G v) (lyt ci) 0 fk t ht (by rw [Nat.zero_add]; exact hv) (fun i u _ hi => by rw [Nat.zero_add]; exact ho u i hi)
  show W _ _ _ _ _ _ _ _ _ _ H locs k n Q (F0 (xm X) pc la (cv G v :: .ref (gAd G a) :: st.map (cv G)))
  rw [ead]
  refine w_put (D := gD G) (ref := ref) hX.1 hX.2.1 hX.2.2.2.2.2.1 hc hX.2.2.2.2.1 hX.2.2.2.2.2.2.1.1 hat hN2 hl hs ?_ hty1.1 hty1.2 (by rw [fls_len, hc.2.2.2.2.1]; exact hN2) hd (fun H1 sl h1 hz oq => ?_)
  · rcases hin with rfl | hin
    · exact Or.inl hfin
    · cases fin with
      | false => exact Or.inl hfin
      | true => exact Or.inr ⟨hfin, hin, hfi rfl⟩
  · refine kk H1 _ la (hW.put hk.2 hN hz oq ?_ hb) (hS.put hz oq (Nat.le_add_right _ _)) hL
    rw [celE_obj hK' hc.2.2.2.2.2.1, ← hset]
    exact h1
theorem up2_at {α : Type} {f : Nat → Nat → α} {a i : Nat} {v : α} : up2 f a i v a i = v := if_pos ⟨rfl, rfl⟩
theorem up2_ne {α : Type} {f : Nat → Nat → α} {a i b j : Nat} {v : α} (h : ¬ (b = a ∧ j = i)) : up2 f a i v b j = f b j := if_neg h
theorem v_putI (hX : OKx X G own cc nL rt) {ix ci fk a : Nat} {fin : Bool} {x : Int32} (hf : FL own ix ci fk 0 fin) (hk : Kd h a ci) (hin : fin = false ∨ (xM X).name = "<init>") (hd : Dq cc pc (.putfield ix) 3 pc') (kk : V X G nL k n Q pc' ls st (stI h a fk x)) : V X G nL k n Q pc ls (.int x :: .ref a :: st) h :=
  v_put (h' := stI h a fk x) hX hf hk hin (fun ty ht => by rw [tyT_int ht]; exact ⟨rfl, rfl⟩) rfl hk.1 (by show Value.int (up2 h.1 a fk x a fk) = .int x; rw [up2_at]) (fun u j hj => by unfold fdv; rw [show hpI (stI h a fk x) a j = hpI h a j from up2_ne (fun z => hj z.2)]; rfl) (fun b hb => cel_stI hb) hd kk
theorem v_putZ (hX : OKx X G own cc nL rt) {ix ci fk a : Nat} {fin : Bool} {x : Int32} (hx : narrow .boolean (.int x) = .int x ∧ fits .boolean (.int x) = true) (hf : FL own ix ci fk 3 fin) (hk : Kd h a ci) (hin : fin = false ∨ (xM X).name = "<init>") (hd : Dq cc pc (.putfield ix) 3 pc') (kk : V X G nL k n Q pc' ls st (stI h a fk x)) : V X G nL k n Q pc ls (.int x :: .ref a :: st) h :=
  v_put (h' := stI h a fk x) hX hf hk hin (fun ty ht => by rw [tyT_bool ht]; exact hx) rfl hk.1 (by show Value.int (up2 h.1 a fk x a fk) = .int x; rw [up2_at]) (fun u j hj => by unfold fdv; rw [show hpI (stI h a fk x) a j = hpI h a j from up2_ne (fun z => hj z.2)]; rfl) (fun b hb => cel_stI hb) hd kk
theorem v_putJ (hX : OKx X G own cc nL rt) {ix ci fk a : Nat} {fin : Bool} {x : Int64} (hf : FL own ix ci fk 2 fin) (hk : Kd h a ci) (hin : fin = false ∨ (xM X).name = "<init>") (hd : Dq cc pc (.putfield ix) 3 pc') (kk : V X G nL k n Q pc' ls st (stJ h a fk x)) : V X G nL k n Q pc ls (.long x :: .ref a :: st) h :=
  v_put (h' := stJ h a fk x) hX hf hk hin (fun ty ht => by rw [tyT_long ht]; exact ⟨rfl, rfl⟩) rfl hk.1 (by show Value.long (up2 h.2.2.1 a fk x a fk) = .long x; rw [up2_at]) (fun u j hj => by unfold fdv; rw [show hpJ (stJ h a fk x) a j = hpJ h a j from up2_ne (fun z => hj z.2)]; rfl) (fun b hb => cel_stJ hb) hd kk
theorem v_putR (hX : OKx X G own cc nL rt) {ix ci fk a b : Nat} {fin : Bool} (hf : FL own ix ci fk 1 fin) (hk : Kd h a ci) (hin : fin = false ∨ (xM X).name = "<init>") (hd : Dq cc pc (.putfield ix) 3 pc') (kk : V X G nL k n Q pc' ls st (stR h a fk (some b))) : V X G nL k n Q pc ls (.ref b :: .ref a :: st) h :=
  v_put (h' := stR h a fk (some b)) hX hf hk hin (fun ty ht => ⟨(tyT_ref ht (Or.inr ⟨_, rfl⟩)).1, (tyT_ref ht (Or.inr ⟨_, rfl⟩)).2.1⟩) rfl hk.1 (by show va_rf ((up2 h.2.1 a fk (some b) a fk).map (gAd G)) = _; rw [up2_at]; rfl) (fun u j hj => by unfold fdv; rw [show hpR (stR h a fk (some b)) a j = hpR h a j from up2_ne (fun z => hj z.2)]; rfl) (fun b hb => cel_stR hb) hd kk
/-! arrays of ints -/
theorem Wd.ai {h : AHp} {H : Heap} (hW : Wd G h H) {a c : Nat} (hk : Kd h a c) (hc : c = 100 ∨ c = 101) : va_at (gD G) vwCl (gAd G a, .inl (gA G c, (hpL h a, .inl (hpI h a)))) H := by
  have h1 := hW.at hk
  rwa [celE_int hk.1 hc] at h1
theorem v_iald (hX : OKx X G own cc nL rt) {a L : Nat} {i : Int32} (hk : Kd h a 100) (hl : hpL h a = L) (hi : vp_in i L) (hd : Dq cc pc .iaload 1 pc') (kk : V X G nL k n Q pc' ls (.int (hpI h a i.toNatClampNeg) :: st) h) : V X G nL k n Q pc ls (.int i :: .ref a :: st) h := by
  obtain ⟨hd, rfl⟩ := hd
  subst hl
  intro H locs la hW hS hL
  exact va_iald (D := gD G) (cl := vwCl) hX.1 hX.2.1 hX.2.2.2.2.2.2.1.1 (hW.ai hk (Or.inl rfl)).here 0 0 rfl rfl hi hd (kk H locs la hW hS hL)
theorem v_zald (hX : OKx X G own cc nL rt) {a L : Nat} {i : Int32} (hk : Kd h a 101) (hl : hpL h a = L) (hi : vp_in i L) (hd : Dq cc pc .baload 1 pc') (kk : V X G nL k n Q pc' ls (.int (hpI h a i.toNatClampNeg) :: st) h) : V X G nL k n Q pc ls (.int i :: .ref a :: st) h := by
  obtain ⟨hd, rfl⟩ := hd
  subst hl
  intro H locs la hW hS hL
  exact va_zald (D := gD G) (cl := vwCl) hX.1 hX.2.1 hX.2.2.2.2.2.2.1.1 (hW.ai hk (Or.inr rfl)).here 0 1 rfl rfl hi hd (kk H locs la hW hS hL)
theorem v_alen (hX : OKx X G own cc nL rt) {a L : Nat} (hk : Kd h a 100) (hl : hpL h a = L) (hd : Dq cc pc .arraylength 1 pc') (kk : V X G nL k n Q pc' ls (.int (nI L) :: st) h) : V X G nL k n Q pc ls (.ref a :: st) h := by
  obtain ⟨hd, rfl⟩ := hd
  subst hl
  intro H locs la hW hS hL
  exact va_alen (D := gD G) (cl := vwCl) hX.1 hX.2.1 hX.2.2.2.2.2.2.1.1 (hW.ai hk (Or.inl rfl)).here 0 0 rfl rfl rfl hd (kk H locs la hW hS hL)
theorem cel_up {f : Nat → Int32} {i : Int32} {x : Int32} {cA : ClassId} {L : Nat} {g : Nat → Int32} (hg : ∀ j, g j = if j = i.toNatClampNeg then x else f j) : (arrV cA L (updV (fun j => .int (f j)) i.toNatClampNeg (.int x))) = vp_cell cA (L, .inl g) := by
  rw [vp_cell_i]
  congr 1
  funext q
  rw [hg q]
  by_cases hq : q = i.toNatClampNeg <;> simp [updV, hq]
theorem v_iast (hX : OKx X G own cc nL rt) {a L : Nat} {i x : Int32} (hk : Kd h a 100) (hl : hpL h a = L) (hi : vp_in i L) (hd : Dq cc pc .iastore 1 pc') (kk : V X G nL k n Q pc' ls st (stI h a i.toNatClampNeg x)) : V X G nL k n Q pc ls (.int x :: .int i :: .ref a :: st) h := by
  obtain ⟨hd, rfl⟩ := hd
  subst hl
  intro H locs la hW hS hL
  have ead : gAd G a = gB G + a := gAd_lt (Nat.lt_trans hk.2 hW.2.1)
  have hat : H[gAd G a]? = some (vp_cell (gA G 100) (hpL h a, .inl (hpI h a))) := hW.ai hk (Or.inl rfl)
  refine W.iast hX.1 hX.2.1 hat ((hX.2.2.2.2.2.2.1.1.2 0 _ rfl).1 (hpL h a) (fun j => .int (hpI h a j))) (fun q => by cases q) (by show ¬ (i < 0 ∨ (arrV _ _ _).slots.size ≤ _); rw [arrV_size]; exact hi) rfl rfl hd fun H1 e z oq => ?_
  rw [ead] at e oq ⊢
  refine kk H1 _ la (hW.put hk.2 rfl z oq ?_ (fun b hb => cel_stI hb)) (hS.put z oq (Nat.le_add_right _ _)) hL
  rw [celE_int (show hpK (stI h a i.toNatClampNeg x) a = 100 from hk.1) (Or.inl rfl)]
  show H1[gB G + a]? = some (vp_cell _ _)
  rw [e, vp_cell_i, arrV_store]
  congr 1
  refine cel_up (fun j => ?_)
  show up2 h.1 a i.toNatClampNeg x a j = _
  by_cases hj : j = i.toNatClampNeg
  · rw [hj, up2_at, if_pos rfl]
  · rw [up2_ne (fun z => hj z.2), if_neg hj]; rfl
theorem v_zast (hX : OKx X G own cc nL rt) {a L : Nat} {i x : Int32} (hx : narrow .boolean (.int x) = .int x) (hk : Kd h a 101) (hl : hpL h a = L) (hi : vp_in i L) (hd : Dq cc pc .bastore 1 pc') (kk : V X G nL k n Q pc' ls st (stI h a i.toNatClampNeg x)) : V X G nL k n Q pc ls (.int x :: .int i :: .ref a :: st) h := by
  obtain ⟨hd, rfl⟩ := hd
  subst hl
  intro H locs la hW hS hL
  have ead : gAd G a = gB G + a := gAd_lt (Nat.lt_trans hk.2 hW.2.1)
  have hat : H[gAd G a]? = some (vp_cell (gA G 101) (hpL h a, .inl (hpI h a))) := hW.ai hk (Or.inr rfl)
  refine W.zast hX.1 hX.2.1 hat ((hX.2.2.2.2.2.2.1.1.2 1 _ rfl).1 (hpL h a) (fun j => .int (hpI h a j))) (fun q => by cases q) (by show ¬ (i < 0 ∨ (arrV _ _ _).slots.size ≤ _); rw [arrV_size]; exact hi) rfl rfl hd fun H1 e z oq => ?_
  rw [ead] at e oq ⊢
  refine kk H1 _ la (hW.put hk.2 rfl z oq ?_ (fun b hb => cel_stI hb)) (hS.put z oq (Nat.le_add_right _ _)) hL
  rw [celE_int (show hpK (stI h a i.toNatClampNeg x) a = 101 from hk.1) (Or.inr rfl)]
  show H1[gB G + a]? = some (vp_cell _ _)
  rw [e, hx, vp_cell_i, arrV_store]
  congr 1
  refine cel_up (fun j => ?_)
  show up2 h.1 a i.toNatClampNeg x a j = _
  by_cases hj : j = i.toNatClampNeg
  · rw [hj, up2_at, if_pos rfl]
  · rw [up2_ne (fun z => hj z.2), if_neg hj]; rfl
end VP
end
section
/-! contracts -/
abbrev Mth : Type := MethodName × ByteArray × Nat × Option FieldType
def rmC (d mc ms : Nat) : Room := { frames := d, cells := mc, slots := ms, locals := 40 * d }
def Pcx (G : Glb) (av : List Value) (h : AHp) : Array Value → State → Prop := fun v U => v = (av.map (cv G)).toArray ∧ Wd G h U.heap ∧ Kn G U
def Qcx (G : Glb) (r : Option Value) (h' : AHp) : Array Value → State → Outcome → State → Prop := fun _ s o t => o = .returned (r.map (cv G)) ∧ Wd G h' t.heap ∧ Kn G t ∧ va_F (AsG G) s t
abbrev wsM (M : Mth) : List Cond := Cond.code M.1 M.2.1 M.2.2.1 M.2.2.2 :: TG
/-- from av and h the method M answers r, and leaves h' -/
def Con (G : Glb) (M : Mth) (d mc ms : Nat) (av : List Value) (h : AHp) (r : Option Value) (h' : AHp) : Prop := ∀ l : Launch, Met l M.1 (wsM M) (rmC d mc ms) (Pcx G av h) (Qcx G r h') mc ms (AsG G)
def ent (av : List Value) : List (Option Value) := av.flatMap fun v => if v.category = 2 then [some v, none] else [some v]
def enL (av : List Value) (nL : Nat) : List (Option Value) := ent av ++ List.replicate (nL - (ent av).length) none
theorem asc_nones {G : Glb} : ∀ (n i : Nat), asc G i (List.replicate n none) = [] := by
  intro n
  induction n with
  | zero => intro i; rfl
  | succ n ih => intro i; rw [List.replicate_succ, asc]; exact ih (i + 1)
theorem asc_ent {G : Glb} (n : Nat) : ∀ (av : List Value) (i : Nat), asc G i (ent av ++ List.replicate n none) = lv_args i (av.map (cv G)) := by
  intro av
  induction av with
  | nil => intro i; exact asc_nones n i
  | cons v vs ih =>
    intro i
    have e : ent (v :: vs) = (if v.category = 2 then [some v, none] else [some v]) ++ ent vs := by simp [ent]
    rw [e, List.map_cons, lv_args, cv_cat]
    by_cases hc : v.category = 2
    · rw [if_pos hc, if_pos hc]
      simp only [List.cons_append, List.nil_append, asc]
      rw [ih]
    · rw [if_neg hc, if_neg hc]
      simp only [List.cons_append, List.nil_append, asc]
      rw [ih]
theorem sl_len {G : Glb} : ∀ av : List Value, (lg_sl (av.map (cv G))).length = (ent av).length := by
  intro av
  induction av with
  | nil => rfl
  | cons v vs ih =>
    have e : ent (v :: vs) = (if v.category = 2 then [some v, none] else [some v]) ++ ent vs := by simp [ent]
    have e2 : lg_sl ((v :: vs).map (cv G)) = (if v.category = 2 then [Slot.val (cv G v), .second] else [Slot.val (cv G v)]) ++ lg_sl (vs.map (cv G)) := by simp [lg_sl, cv_cat]
    rw [e, e2, List.length_append, List.length_append, ih]
    by_cases hc : v.category = 2 <;> simp [hc]
theorem blind (G : Glb) (av : List Value) (h : AHp) : FrameBlind (Pcx G av h) := fun a U g mk q => ⟨q.1, q.2.1, Kn.same (s := U) (U := U.calling g mk a) rfl q.2.2⟩
theorem Con.of {G : Glb} {y : MethodName} {cc : ByteArray} {nL : Nat} {rt : Option FieldType} {d mc ms : Nat} {av : List Value} {h h' : AHp} {r : Option Value} (hy : plainName y.cls = true) (hn : (ent av).length ≤ nL)
    (body : ∀ X : Cx, OKx X G y.cls cc nL rt → xR X = rmC d mc ms → (xM X).name = y.name → V X G nL 0 0 (MQ (xb X) (Qcx G r h') (xa X) (xs X) mc ms (AsG G)) 0 (enL av nL) [] h) : Con G (y, cc, nL, rt) d mc ms av h r h' := by
  intro l
  refine Met.ofW (cc := cc) (maxL := nL) (ret := rt) hy rfl ?_
  intro p e s m args below meth c s₁ B hml hv
  obtain ⟨rfl, hW, hK⟩ := hv
  have hts := atoms_spec (ws := wsM (y, cc, nL, rt)) B.pre
  have hz : gB G ≤ s.heap.size := by rw [hW.1]; exact Nat.le_add_right _ _
  have hX : OKx (p, l, e, rmC d mc ms, s, m, (av.map (cv G)).toArray, below, meth, c) G y.cls cc nL rt := ⟨B.exec, B.bytes, B.returns, hml, findClass_of_methodNamed B.named, fun w hw => hts w (List.mem_cons_of_mem _ hw), hK, B.notSynchronized, hz⟩
  have hb := body _ hX rfl (name_of_methodNamed B.named B.method).1
  rw [lg_entry_eq]
  refine hb s.heap [] _ hW va_S.rf ?_
  have hl := lv_entry (av.map (cv G)) (n := nL) (by rw [sl_len]; exact hn)
  show lv_has _ nL (asc G 0 (enL av nL))
  rw [enL, asc_ent]
  exact hl
section VR
variable {X : Cx} {G : Glb} {own : String} {cc : ByteArray} {nL k n pc pc' : Nat} {ls : List (Option Value)} {st : List Value} {h h' : AHp} {r : Option Value}
theorem v_ireturn (hX : OKx X G own cc nL (some .int)) {v : Int32} (hd : Dq cc pc .ireturn 1 pc') (hr : r = some (.int v)) (hh : h' = h) : V X G nL k n (MQ (xb X) (Qcx G r h') (xa X) (xs X) k n (AsG G)) pc ls [.int v] h := by
  intro H locs la hW hS hL
  subst hr; subst hh
  exact W.iret hX.1 hX.2.1 hX.2.2.1 (fun t ht hw => ⟨rfl, by rw [ht]; exact hW, hX.2.2.2.2.2.2.1.warm hw, hS.F ht⟩) hS.2.2 hd.1 hX.2.2.2.2.2.2.2.1
theorem v_zreturn (hX : OKx X G own cc nL (some .boolean)) {v : Int32} (hv : v = 0 ∨ v = 1) (hd : Dq cc pc .ireturn 1 pc') (hr : r = some (.int v)) (hh : h' = h) : V X G nL k n (MQ (xb X) (Qcx G r h') (xa X) (xs X) k n (AsG G)) pc ls [.int v] h := by
  intro H locs la hW hS hL
  subst hr; subst hh
  exact W.zret hX.1 hX.2.1 hX.2.2.1 (by rcases hv with rfl | rfl <;> rfl) (fun t ht hw => ⟨rfl, by rw [ht]; exact hW, hX.2.2.2.2.2.2.1.warm hw, hS.F ht⟩) hS.2.2 hd.1 hX.2.2.2.2.2.2.2.1
theorem v_lreturn (hX : OKx X G own cc nL (some .long)) {v : Int64} (hd : Dq cc pc .lreturn 1 pc') (hr : r = some (.long v)) (hh : h' = h) : V X G nL k n (MQ (xb X) (Qcx G r h') (xa X) (xs X) k n (AsG G)) pc ls [.long v] h := by
  intro H locs la hW hS hL
  subst hr; subst hh
  exact W.lret hX.1 hX.2.1 hX.2.2.1 (fun t ht hw => ⟨rfl, by rw [ht]; exact hW, hX.2.2.2.2.2.2.1.warm hw, hS.F ht⟩) hS.2.2 hd.1 hX.2.2.2.2.2.2.2.1
theorem v_return (hX : OKx X G own cc nL none) (hd : Dq cc pc .return_ 1 pc') (hr : r = none) (hh : h' = h) : V X G nL k n (MQ (xb X) (Qcx G r h') (xa X) (xs X) k n (AsG G)) pc ls [] h := by
  intro H locs la hW hS hL
  subst hr; subst hh
  exact W.vret hX.1 hX.2.1 hX.2.2.1 (fun t ht hw => ⟨rfl, by rw [ht]; exact hW, hX.2.2.2.2.2.2.1.warm hw, hS.F ht⟩) hS.2.2 hd.1 hX.2.2.2.2.2.2.2.1
theorem v_areturn {C : String} (hX : OKx X G own cc nL (some (.object C))) {v : Value} (hv : v = .null ∨ ∃ a, v = .ref a) (hd : Dq cc pc .areturn 1 pc') (hr : r = some v) (hh : h' = h) : V X G nL k n (MQ (xb X) (Qcx G r h') (xa X) (xs X) k n (AsG G)) pc ls [v] h := by
  intro H locs la hW hS hL
  subst hr; subst hh
  exact W.aret hX.1 hX.2.1 hX.2.2.1 (Or.inl ⟨_, rfl⟩) (by rcases hv with rfl | ⟨a, rfl⟩; exact Or.inl rfl; exact Or.inr ⟨_, rfl⟩) (fun t ht hw => ⟨rfl, by rw [ht]; exact hW, hX.2.2.2.2.2.2.1.warm hw, hS.F ht⟩) hS.2.2 hd.1 hX.2.2.2.2.2.2.2.1
end VR
/-! calls -/
theorem good_all {y : MethodName} {cc : ByteArray} {nL : Nat} {rt : Option FieldType} (h : Cond.code y cc nL rt ∈ TG) : GoodIn TG (wsM (y, cc, nL, rt)) := fun w hw => by
  rcases List.mem_cons.mp hw with rfl | hw
  · exact ⟨h, good_of_word (tg_good h)⟩
  · exact ⟨hw, good_of_word (tg_good hw)⟩
/-- all that the tables say of a method of ours: n arguments -/
def MI (M : Mth) (n : Nat) : Prop := Cond.code M.1 M.2.1 M.2.2.1 M.2.2.2 ∈ TG ∧ Cond.initialized M.1.cls ∈ TG ∧ (M.1.cls ≠ "java/lang/invoke/MethodHandle" ∧ M.1.cls ≠ "java/lang/invoke/VarHandle" ∧ (parseMethodDescriptor M.1.desc).map (fun d => d.parameters.length) = some n) ∧ M.2.2.1 ≤ 21
section VC
variable {X : Cx} {G : Glb} {own : String} {cc : ByteArray} {nL k n pc pc' : Nat} {rt : Option FieldType} {Q : State → Prop} {ls : List (Option Value)} {st : List Value} {h h' : AHp} {r : Option Value} {d d' mc ms kc ks : Nat} {M : Mth} {ix na : Nat} {av : List Value}
theorem map_rev {G : Glb} {av st : List Value} : (av.reverse ++ st).map (cv G) = (av.map (cv G)).reverse ++ st.map (cv G) := by simp
theorem roomC (hR : xR X = rmC d kc ks) (hd : d' < d) (hm : M.2.2.1 ≤ 21) : (rmC d' mc ms).frames + 1 ≤ (xR X).frames ∧ 8 + (M.2.2.1 + 11) + (rmC d' mc ms).locals ≤ (xR X).locals := by
  rw [hR]
  refine ⟨hd, ?_⟩
  show 8 + (M.2.2.1 + 11) + 40 * d' ≤ 40 * d
  omega
theorem catS {st : List Value} {G : Glb} (h : (st.map fun v => v.category).sum ≤ 8) : ((st.map (cv G)).map fun v => v.category).sum ≤ 8 := by
  rw [List.map_map]
  have : (fun v : Value => v.category) ∘ cv G = fun v => v.category := by funext v; exact cv_cat
  rw [this]; exact h
theorem v_run {av : List Value} (hX : OKx X G own cc nL rt) {a : Array Value} (hr : ∀ (H : Heap) (locs : List Loc) (la : Array Slot), Wd G h H → va_S (AsG G) (xs X).heap H locs → LH G la nL ls → va_Run (xp X) (xl X) (xe X) (xR X) (xs X) (xm X) (xa X) (xb X) (xM X) (xc X) H locs k n mc ms (F0 (xm X) pc la (av.map (cv G))) (st.map (cv G)) (Qcx G r h' a) (AsG G))
    (kk : V X G nL (k + mc) (n + ms) Q (pc + 3) ls (r.toList ++ st) h') : V X G nL k n Q pc ls av h := by
  intro H locs la hW hS hL T hT Z
  obtain ⟨v, st₀, t, T', L, h0, X', hLo, e1, e2, ⟨hv, hWt, hKt, hz, hk⟩, stp⟩ := hr H locs la hW hS hL T hT Z
  have ev : v = r.map (cv G) := by cases hv; rfl
  subst ev
  rw [h0] at hz hk
  obtain ⟨t2, a1, b1⟩ := kk T'.heap (locs ++ L) la (by rw [e1]; exact hWt) ⟨Nat.le_trans hS.1 (by rw [e1]; exact hz), fun q h1 h2 => by rw [e1, hk q (Nat.lt_of_lt_of_le h1 hS.1) h2]; exact hS.2.1 q h1 h2, fun q hq => by
      rcases List.mem_append.mp hq with h | h
      · exact hS.2.2 q h
      · exact hLo q h⟩ hL T' rfl X'
  refine ⟨t2, stp t2 ?_, b1⟩
  have : (r.map (cv G)).toList ++ st.map (cv G) = (r.toList ++ st).map (cv G) := by cases r <;> simp
  show Steps _ _ _ (T'.setTop { (F0 (xm X) pc la (av.map (cv G))) with pc := pc + 3, stack := (r.map (cv G)).toList ++ st.map (cv G) }) t2
  rw [this]
  exact a1
end VC
end
section
section VC
variable {X : Cx} {G : Glb} {own : String} {cc : ByteArray} {nL k n pc pc' : Nat} {rt : Option FieldType} {Q : State → Prop} {ls : List (Option Value)} {st : List Value} {h h' : AHp} {r : Option Value} {d d' mc ms kc ks : Nat} {M : Mth} {ix na : Nat} {av : List Value}
theorem okFix (hX : OKx X G own cc nL rt) : CallFix (xp X) (xm X) (xc X) cc nL (xs X) (xa X) TG own := ⟨hX.1, hX.2.1, hX.2.2.2.1, hX.2.2.2.2.1, hX.2.2.2.2.2.1⟩
theorem fitR (hR : xR X = rmC d kc ks) (hroom : k + mc ≤ kc ∧ n + ms ≤ ks) : k + mc ≤ (xR X).cells ∧ n + ms ≤ (xR X).slots := by rw [hR]; exact hroom
theorem preS (hX : OKx X G own cc nL rt) {H : Heap} (hW : Wd G h H) : PreS (xs X) H (Pcx G av h) (av.map (cv G)) := ⟨blind G av h, fun U hU hw => ⟨rfl, by rw [hU]; exact hW, hX.2.2.2.2.2.2.1.warm hw⟩⟩
/-- a static method of the own class -/
def MS (own : String) (ix : Nat) (M : Mth) (na : Nat) : Prop := MI M na ∧ Cond.methodLink own ix M.1 ∈ TG ∧ Cond.static M.1 ∈ TG
theorem v_callS' (hX : OKx X G own cc nL rt) (hR : xR X = rmC d kc ks) (hm : MS own ix M na) (hc : Con G M d' mc ms av h r h') (hd' : d' < d) (hlen : av.length = na) (hcat : (st.map fun v => v.category).sum ≤ 8) (hroom : k + mc ≤ kc ∧ n + ms ≤ ks) (hd : Dq cc pc (.invokestatic ix) 3 pc') (kk : V X G nL (k + mc) (n + ms) Q pc' ls (r.toList ++ st) h') : V X G nL k n Q pc ls (av.reverse ++ st) h := by
  obtain ⟨hd, rfl⟩ := hd
  obtain ⟨hI, hl, hs⟩ := hm
  refine v_run (a := (av.map (cv G)).toArray) hX (fun H locs la hW hS hL => ?_) kk
  exact va_runS (bytes := M.2.1) (maxL := M.2.2.1) (ret := M.2.2.2) (n := na) (As := av.map (cv G)) (okFix hX) (hc (xl X)) ⟨callB_of na hX.2.2.2.2.2.1 (good_all hI.1) rfl rfl rfl (hX.2.2.2.2.2.1 _ hI.2.1) (hX.2.2.2.2.2.1 _ hl) hI.2.2.1 (roomC hR hd' hI.2.2.2), hX.2.2.2.2.2.1 _ hs⟩ (preS hX hW) rfl (by rw [List.length_map]; exact hlen) hL.1 (by show List.map _ _ = _; rw [map_rev]) (lv_room (catS hcat)) hd (fitR hR hroom)
theorem v_callS (hX : OKx X G own cc nL rt) (hR : xR X = rmC d kc ks) (hm : MS own ix M na) (hc : Con G M d' 0 0 av h r h') (hd' : d' < d) (hlen : av.length = na) (hcat : (st.map fun v => v.category).sum ≤ 8) (hroom : k ≤ kc ∧ n ≤ ks) (hd : Dq cc pc (.invokestatic ix) 3 pc') (kk : V X G nL k n Q pc' ls (r.toList ++ st) h') : V X G nL k n Q pc ls (av.reverse ++ st) h := v_callS' hX hR hm hc hd' hlen hcat hroom hd kk
/-- a static method of a nest mate -/
def MN (own : String) (ix : Nat) (M : Mth) (na : Nat) : Prop := MI M na ∧ (∃ host, Cond.methodLinkNest own ix M.1 host ∈ lw_tbl) ∧ Cond.static M.1 ∈ TG
theorem v_callN (hX : OKx X G own cc nL rt) (hR : xR X = rmC d kc ks) (hm : MN own ix M na) (hc : Con G M d' 0 0 av h r h') (hd' : d' < d) (hlen : av.length = na) (hcat : (st.map fun v => v.category).sum ≤ 8) (hroom : k ≤ kc ∧ n ≤ ks) (hd : Dq cc pc (.invokestatic ix) 3 pc') (kk : V X G nL k n Q pc' ls (r.toList ++ st) h') : V X G nL k n Q pc ls (av.reverse ++ st) h := by
  obtain ⟨hd, rfl⟩ := hd
  obtain ⟨hI, ⟨host, hl⟩, hs⟩ := hm
  refine v_run (mc := 0) (ms := 0) (a := (av.map (cv G)).toArray) hX (fun H locs la hW hS hL => ?_) kk
  exact va_runSN (bytes := M.2.1) (maxL := M.2.2.1) (ret := M.2.2.2) (n := na) (As := av.map (cv G)) (okFix hX) (hc (xl X)) ⟨va_cnB na hX.2.2.2.2.2.1 (good_all hI.1) rfl rfl rfl (hX.2.2.2.2.2.2.1.2.1 _ hl rfl) (hX.2.2.2.2.2.1 _ hI.2.1) hI.2.2.1 (roomC hR hd' hI.2.2.2), hX.2.2.2.2.2.1 _ hs, trivial⟩ (preS hX hW) rfl (by rw [List.length_map]; exact hlen) hL.1 (by show List.map _ _ = _; rw [map_rev]) (lv_room (catS hcat)) hd (fitR (mc := 0) (ms := 0) hR hroom)
theorem recvC (hX : OKx X G own cc nL rt) {H : Heap} (hW : Wd G h H) {a ci : Nat} {C : String} {T : u_T} {N : Nat} (hk : Kd h a ci) (hci : vwCl[ci]? = some (C, T, N)) (h100 : ci < 100) : ∃ cell : Cell, H[gAd G a]? = some cell ∧ cell.vm.isStatics = false ∧ (xs X).vm.findClass C = some cell.cls := by
  have hat := hW.at hk
  rw [celE_obj hk.1 h100] at hat
  exact va_recv (q := (C, T, N)) hX.2.2.2.2.2.2.1.1 hat.here hci (q0 := 0) rfl
theorem preV (hX : OKx X G own cc nL rt) {H : Heap} (hW : Wd G h H) {a ci : Nat} {C : String} {T : u_T} {N : Nat} (hk : Kd h a ci) (hci : vwCl[ci]? = some (C, T, N)) (h100 : ci < 100) : PreV (xs X) H C (gAd G a) (Pcx G (.ref a :: av) h) (av.map (cv G)) := ⟨blind G _ h, recvC hX hW hk hci h100, fun U hU hw => ⟨rfl, by rw [hU]; exact hW, hX.2.2.2.2.2.2.1.warm hw⟩⟩
/-- a method of the class ci, called on an object of just that class -/
def MV (own : String) (ix ci : Nat) (M : Mth) (na : Nat) : Prop := MI M na ∧ Cond.methodLink own ix M.1 ∈ TG ∧ Cond.instanceMethod M.1 ∈ TG ∧ Cond.selects M.1.cls M.1 M.1 ∈ TG ∧ (∃ T N, vwCl[ci]? = some (M.1.cls, T, N)) ∧ ci < 100
theorem map_revV {G : Glb} {av st : List Value} {a : Nat} : (av.reverse ++ .ref a :: st).map (cv G) = (av.map (cv G)).reverse ++ .ref (gAd G a) :: st.map (cv G) := by simp [cv]
theorem v_callV' {a ci : Nat} (hX : OKx X G own cc nL rt) (hR : xR X = rmC d kc ks) (hm : MV own ix ci M na) (hk : Kd h a ci) (hc : Con G M d' mc ms (.ref a :: av) h r h') (hd' : d' < d) (hlen : av.length = na) (hcat : (st.map fun v => v.category).sum ≤ 8) (hroom : k + mc ≤ kc ∧ n + ms ≤ ks) (hd : Dq cc pc (.invokevirtual ix) 3 pc') (kk : V X G nL (k + mc) (n + ms) Q pc' ls (r.toList ++ st) h') : V X G nL k n Q pc ls (av.reverse ++ .ref a :: st) h := by
  obtain ⟨hd, rfl⟩ := hd
  obtain ⟨hI, hl, hi, hse, ⟨T, N, hci⟩, h100⟩ := hm
  refine v_run (a := (Value.ref (gAd G a) :: av.map (cv G)).toArray) hX (fun H locs la hW hS hL => ?_) kk
  exact va_runV (bytes := M.2.1) (maxL := M.2.2.1) (ret := M.2.2.2) (n := na) (C := M.1.cls) (As := av.map (cv G)) (okFix hX) (hc (xl X)) ⟨callB_of na hX.2.2.2.2.2.1 (good_all hI.1) rfl rfl rfl (hX.2.2.2.2.2.1 _ hI.2.1) (hX.2.2.2.2.2.1 _ hl) hI.2.2.1 (roomC hR hd' hI.2.2.2), hX.2.2.2.2.2.1 _ hi, hX.2.2.2.2.2.1 _ hse⟩ (preV hX hW hk hci h100) rfl (by rw [List.length_map]; exact hlen) hL.1 (by show List.map _ _ = _; rw [map_revV]) (lv_room (catS hcat)) hd (fitR hR hroom)
theorem v_callV {a ci : Nat} (hX : OKx X G own cc nL rt) (hR : xR X = rmC d kc ks) (hm : MV own ix ci M na) (hk : Kd h a ci) (hc : Con G M d' 0 0 (.ref a :: av) h r h') (hd' : d' < d) (hlen : av.length = na) (hcat : (st.map fun v => v.category).sum ≤ 8) (hroom : k ≤ kc ∧ n ≤ ks) (hd : Dq cc pc (.invokevirtual ix) 3 pc') (kk : V X G nL k n Q pc' ls (r.toList ++ st) h') : V X G nL k n Q pc ls (av.reverse ++ .ref a :: st) h := v_callV' hX hR hm hk hc hd' hlen hcat hroom hd kk
/-- a method named of a class above, called on an object of class ci, which selects M -/
def MU (own : String) (ix ci : Nat) (x : MethodName) (M : Mth) (na : Nat) : Prop := MI M na ∧ Cond.methodLink own ix x ∈ TG ∧ Cond.sameMethod x.cls x.cls x.name x.desc ∈ TG ∧ Cond.instanceMethod ⟨x.cls, x.name, x.desc⟩ ∈ TG ∧ (∃ C T N, vwCl[ci]? = some (C, T, N) ∧ Cond.selects C x M.1 ∈ TG) ∧ Cond.instanceMethod M.1 ∈ TG ∧ ci < 100 ∧ (x.cls ≠ "java/lang/invoke/MethodHandle" ∧ x.cls ≠ "java/lang/invoke/VarHandle" ∧ (parseMethodDescriptor x.desc).map (fun d => d.parameters.length) = some na) ∧ ∃ cb ml rx, Cond.code ⟨x.cls, x.name, x.desc⟩ cb ml rx ∈ TG
theorem v_callU {a ci : Nat} {x : MethodName} (hX : OKx X G own cc nL rt) (hR : xR X = rmC d kc ks) (hm : MU own ix ci x M na) (hk : Kd h a ci) (hc : Con G M d' 0 0 (.ref a :: av) h r h') (hd' : d' < d) (hlen : av.length = na) (hcat : (st.map fun v => v.category).sum ≤ 8) (hroom : k ≤ kc ∧ n ≤ ks) (hd : Dq cc pc (.invokevirtual ix) 3 pc') (kk : V X G nL k n Q pc' ls (r.toList ++ st) h') : V X G nL k n Q pc ls (av.reverse ++ .ref a :: st) h := by
  obtain ⟨hd, rfl⟩ := hd
  obtain ⟨hI, hl, hsm, hix, ⟨C, T, N, hci, hse⟩, hi, h100, hdx, cb, ml, rx, hcx⟩ := hm
  refine v_run (mc := 0) (ms := 0) (a := (Value.ref (gAd G a) :: av.map (cv G)).toArray) hX (fun H locs la hW hS hL => ?_) kk
  have hG : GoodIn TG (va_wsO own ix C x.cls x M.1 (wsM M)) := by
    intro w hw
    rcases List.mem_append.mp hw with hw | hw
    · have : w ∈ TG := by
        simp only [List.mem_cons, List.not_mem_nil, or_false] at hw
        rcases hw with rfl | rfl | rfl | rfl | rfl | rfl
        · exact hl
        · exact hsm
        · exact hix
        · exact hse
        · exact hi
        · exact hI.2.1
      exact ⟨this, good_of_word (tg_good this)⟩
    · exact good_all hI.1 w hw
  exact va_runU (bytes := M.2.1) (maxL := M.2.2.1) (ret := M.2.2.2) (n := na) (C := C) (owner := x.cls) (As := av.map (cv G)) (okFix hX) (hc (xl X)) (va_cwO na hX.2.2.2.2.2.1 hG rfl rfl rfl hcx hdx (roomC hR hd' hI.2.2.2)) (preV hX hW hk hci h100) rfl (by rw [List.length_map]; exact hlen) hL.1 (by show List.map _ _ = _; rw [map_revV]) (lv_room (catS hcat)) hd (fitR (mc := 0) (ms := 0) hR hroom)
/-- super.m() -/
def MP (own : String) (ix ci : Nat) (M : Mth) (na : Nat) : Prop := MI M na ∧ Cond.methodLink own ix M.1 ∈ TG ∧ Cond.sameMethod M.1.cls M.1.cls M.1.name M.1.desc ∈ TG ∧ Cond.superclass own M.1.cls ∈ TG ∧ Cond.instanceMethod M.1 ∈ TG ∧ (∃ C T N, vwCl[ci]? = some (C, T, N)) ∧ ci < 100 ∧ M.1.name ≠ "<init>"
theorem v_callP {a ci : Nat} (hX : OKx X G own cc nL rt) (hR : xR X = rmC d kc ks) (hm : MP own ix ci M na) (hk : Kd h a ci) (hc : Con G M d' 0 0 (.ref a :: av) h r h') (hd' : d' < d) (hlen : av.length = na) (hcat : (st.map fun v => v.category).sum ≤ 8) (hroom : k ≤ kc ∧ n ≤ ks) (hd : Dq cc pc (.invokespecial ix) 3 pc') (kk : V X G nL k n Q pc' ls (r.toList ++ st) h') : V X G nL k n Q pc ls (av.reverse ++ .ref a :: st) h := by
  obtain ⟨hd, rfl⟩ := hd
  obtain ⟨hI, hl, hsm, hsu, hi, ⟨C, T, N, hci⟩, h100, hno⟩ := hm
  refine v_run (mc := 0) (ms := 0) (a := (Value.ref (gAd G a) :: av.map (cv G)).toArray) hX (fun H locs la hW hS hL => ?_) kk
  have hG : GoodIn TG (va_wsSU own ix M.1 (wsM M)) := by
    intro w hw
    rcases List.mem_append.mp hw with hw | hw
    · have : w ∈ TG := by
        simp only [List.mem_cons, List.not_mem_nil, or_false] at hw
        rcases hw with rfl | rfl | rfl | rfl | rfl
        · exact hl
        · exact hsm
        · exact hsu
        · exact hi
        · exact hI.2.1
      exact ⟨this, good_of_word (tg_good this)⟩
    · exact good_all hI.1 w hw
  exact va_runSU (bytes := M.2.1) (maxL := M.2.2.1) (ret := M.2.2.2) (n := na) (C := C) (As := av.map (cv G)) (hX.2.2.2.2.2.2.1.1.1 ci _ hci).2 (okFix hX) (hc (xl X)) (va_cwSU na hX.2.2.2.2.2.1 hG rfl rfl rfl ⟨hno, hI.2.2.1.2.2⟩ (roomC hR hd' hI.2.2.2)) (preV hX hW hk hci h100) rfl (by rw [List.length_map]; exact hlen) hL.1 (by show List.map _ _ = _; rw [map_revV]) (lv_room (catS hcat)) hd (fitR (mc := 0) (ms := 0) hR hroom)
/-- a constructor -/
def MC (own : String) (ix : Nat) (M : Mth) (na : Nat) : Prop := MI M na ∧ Cond.methodLink own ix M.1 ∈ TG ∧ Cond.instanceMethod M.1 ∈ TG ∧ M.1.name = "<init>" ∧ M.2.2.2 = none
theorem v_callC {a : Nat} (hX : OKx X G own cc nL rt) (hR : xR X = rmC d kc ks) (hm : MC own ix M na) (hc : Con G M d' mc ms (.ref a :: av) h r h') (hd' : d' < d) (hlen : av.length = na) (hcat : (st.map fun v => v.category).sum ≤ 8) (hroom : k + mc ≤ kc ∧ n + ms ≤ ks) (hd : Dq cc pc (.invokespecial ix) 3 pc') (kk : V X G nL (k + mc) (n + ms) Q pc' ls (r.toList ++ st) h') : V X G nL k n Q pc ls (av.reverse ++ .ref a :: st) h := by
  obtain ⟨hd, rfl⟩ := hd
  obtain ⟨hI, hl, hi, hni, hno⟩ := hm
  refine v_run (a := (Value.ref (gAd G a) :: av.map (cv G)).toArray) hX (fun H locs la hW hS hL => ?_) kk
  exact va_runI (bytes := M.2.1) (maxL := M.2.2.1) (n := na) (As := av.map (cv G)) (okFix hX) (hc (xl X)) ⟨callB_of na hX.2.2.2.2.2.1 (good_all hI.1) (by rw [← hno]) rfl rfl (hX.2.2.2.2.2.1 _ hI.2.1) (hX.2.2.2.2.2.1 _ hl) hI.2.2.1 (roomC hR hd' hI.2.2.2), hni, hX.2.2.2.2.2.1 _ hi⟩ (preS hX hW (av := .ref a :: av)) rfl (by rw [List.length_map]; exact hlen) hL.1 (by show List.map _ _ = _; rw [map_revV]) (lv_room (catS hcat)) hd (fitR hR hroom)
/-- a nest mate's private constructor -/
def MD (own : String) (ix : Nat) (M : Mth) (na : Nat) : Prop := MI M na ∧ (∃ host, Cond.methodLinkNest own ix M.1 host ∈ lw_tbl) ∧ Cond.instanceMethod M.1 ∈ TG ∧ M.1.name = "<init>" ∧ M.2.2.2 = none
theorem v_callD {a : Nat} (hX : OKx X G own cc nL rt) (hR : xR X = rmC d kc ks) (hm : MD own ix M na) (hc : Con G M d' mc ms (.ref a :: av) h r h') (hd' : d' < d) (hlen : av.length = na) (hcat : (st.map fun v => v.category).sum ≤ 8) (hroom : k + mc ≤ kc ∧ n + ms ≤ ks) (hd : Dq cc pc (.invokespecial ix) 3 pc') (kk : V X G nL (k + mc) (n + ms) Q pc' ls (r.toList ++ st) h') : V X G nL k n Q pc ls (av.reverse ++ .ref a :: st) h := by
  obtain ⟨hd, rfl⟩ := hd
  obtain ⟨hI, ⟨host, hl⟩, hi, hni, hno⟩ := hm
  refine v_run (a := (Value.ref (gAd G a) :: av.map (cv G)).toArray) hX (fun H locs la hW hS hL => ?_) kk
  exact va_runIN (bytes := M.2.1) (maxL := M.2.2.1) (n := na) (As := av.map (cv G)) (okFix hX) (hc (xl X)) ⟨va_cnB na hX.2.2.2.2.2.1 (good_all hI.1) (by rw [← hno]) rfl rfl (hX.2.2.2.2.2.2.1.2.1 _ hl rfl) (hX.2.2.2.2.2.1 _ hI.2.1) hI.2.2.1 (roomC hR hd' hI.2.2.2), hni, hX.2.2.2.2.2.1 _ hi⟩ (preS hX hW (av := .ref a :: av)) rfl (by rw [List.length_map]; exact hlen) hL.1 (by show List.map _ _ = _; rw [map_revV]) (lv_room (catS hcat)) hd (fitR hR hroom)
end VC
end
section
theorem celN_old {G : Glb} {h : AHp} {c m b : Nat} (hb : b < hpN h) : celE G (stN h c m) b = celE G h b := by
  have hb' : ¬ b = hpN h := by omega
  have e1 : hpI (stN h c m) b = hpI h b := by funext j; exact if_neg hb'
  have e2 : hpR (stN h c m) b = hpR h b := by funext j; exact if_neg hb'
  have e3 : hpJ (stN h c m) b = hpJ h b := by funext j; exact if_neg hb'
  have e4 : hpK (stN h c m) b = hpK h b := if_neg hb'
  have e5 : hpL (stN h c m) b = hpL h b := if_neg hb'
  unfold celE
  rw [e1, e2, e4, e5, fls_ext (h := stN h c m) (h' := h) (lyt (hpK h b)) 0 (fun j t _ => by unfold fdv; rw [e1, e2, e3])]
theorem Wd.new {G : Glb} {h : AHp} {H H1 : Heap} {c m : Nat} (hW : Wd G h H) (hN : hpN h + 1 < 1000000) (hz : H1.size = H.size + 1) (oq : ∀ q : Nat, q < H.size → H1[q]? = H[q]?) (h1 : va_at (gD G) vwCl (H.size, celE G (stN h c m) (hpN h)) H1) : Wd G (stN h c m) H1 := by
  have hs := hW.1
  refine ⟨by rw [hz, hs]; rfl, hN, fun q hq => ?_, fun b hb => ?_⟩
  · rw [oq q (by omega)]; exact hW.2.2.1 q hq
  · have hb2 : b < hpN h + 1 := hb
    by_cases hba : b = hpN h
    · subst hba; rw [← hs]; exact h1
    · rw [celN_old (by omega)]
      exact (hW.2.2.2 b (by omega)).kept (oq (gB G + b) (by omega))
section VNW
variable {X : Cx} {G : Glb} {own : String} {cc : ByteArray} {nL k n pc pc' : Nat} {rt : Option FieldType} {Q : State → Prop} {ls : List (Option Value)} {st : List Value} {h : AHp} {d kc ks : Nat}
theorem va_S.grow {A : Nat → Prop} {H0 H H1 : Heap} {locs : List Loc} (hS : va_S A H0 H locs) (z1 : H1.size = H.size + 1) (o1 : ∀ q : Nat, q < H.size → H1[q]? = H[q]?) : va_S A H0 H1 locs := ⟨Nat.le_trans hS.1 (by omega), fun x h1 h2 => (o1 x (Nat.lt_of_lt_of_le h1 hS.1)).trans (hS.2.1 x h1 h2), hS.2.2⟩
theorem v_new (hX : OKx X G own cc nL rt) (hR : xR X = rmC d kc ks) {ix ci N : Nat} {C : String} {T : u_T} {ty : Nat → FieldType} (hc : ClOK ci C T N ty) (hl : Cond.classLink own ix C ∈ TG) (hi : Cond.instantiable C N ∈ TG) (hini : Cond.initialized C ∈ TG) (hN : hpN h + 1 < 1000000) (hroom : k + 1 ≤ kc ∧ n + N ≤ ks) (hd : Dq cc pc (.new ix) 3 pc') (kk : V X G nL (k + 1) (n + N) Q pc' ls (.ref (hpN h) :: st) (stN h ci 0)) : V X G nL k n Q pc ls st h := by
  obtain ⟨hd, rfl⟩ := hd
  intro H locs la hW hS hL
  have hts := hX.2.2.2.2.2.1
  have hKn := hX.2.2.2.2.2.2.1.1.1 ci _ hc.1
  refine W.newcK hX.1 hX.2.1 hX.2.2.2.2.1 (hts _ hl) (hts _ hi) (hts _ hini) rfl hd (by rw [hR]; exact hroom.1) (by rw [hR]; exact hroom.2) hKn.2.1 rfl fun H1 kC hkC e1 z1 o1 => ?_
  have ead : gAd G (hpN h) = H.size := by rw [gAd_lt hW.2.1]; exact hW.1.symm
  have hWn : Wd G (stN h ci 0) H1 := by
    refine hW.new hN z1 o1 ?_
    rw [celE_obj (show hpK (stN h ci 0) (hpN h) = ci from if_pos rfl) hc.2.2.2.2.2.1]
    refine ⟨_, hc.1, (u_born ty hts hc.2.1 hKn hkC e1 hc.2.2.1).to (fun j hj => ?_)⟩
    have hj2 : j < (lyt ci).length := by rw [hc.2.2.2.2.1]; exact hj
    have ht : (lyt ci)[j]? = some (lyt ci)[j] := List.getElem?_eq_getElem hj2
    have hty := FL.ty (own := own) (ix := ix) hc hj ht
    have e2 := fls_at (G := G) (h := stN h ci 0) (a := hpN h) (lyt ci) 0 j _ ht
    rw [Nat.zero_add] at e2
    show defaultValue (ty j) = (fls G (stN h ci 0) (hpN h) 0 (lyt ci)).getD j .null
    rw [List.getD, e2]
    show defaultValue (ty j) = fdv G (stN h ci 0) (hpN h) (lyt ci)[j] j
    rw [← hty]
    have f1 : hpI (stN h ci 0) (hpN h) j = 0 := if_pos rfl
    have f2 : hpR (stN h ci 0) (hpN h) j = none := if_pos rfl
    have f3 : hpJ (stN h ci 0) (hpN h) j = 0 := if_pos rfl
    unfold fdv
    rw [f1, f2, f3]
    have h9 : ∀ t, t = ty j → tyT t ≠ 9 := by
      intro t ht2 h9
      have hm : (lyt ci)[j] ∈ lyt ci := List.getElem_mem hj2
      rw [← hty, ← ht2, h9] at hm
      have hcl : ci < 13 := by
        have := (List.getElem?_eq_some_iff.mp hc.1).1
        simpa [vwCl] using this
      have hno : ∀ c, c < 13 → ¬ 9 ∈ lyt c := by decide
      exact hno ci hcl hm
    generalize hq : ty j = t at *
    cases t <;> first | rfl | exact absurd rfl (h9 _ rfl)
  have := kk H1 locs la hWn (hS.grow z1 o1) hL
  rw [List.map_cons, show cv G (.ref (hpN h)) = .ref H.size from congrArg Value.ref ead] at this
  exact this
theorem v_newa (hX : OKx X G own cc nL rt) (hR : xR X = rmC d kc ks) {c L : Nat} {i : Int32} {at_ : ArrayType} (hc : (c = 100 ∧ at_ = .int) ∨ (c = 101 ∧ at_ = .boolean)) (hw : Cond.arrayClass (newarray.typeOf at_) ∈ TG) (hi : ¬ i < 0) (hL' : i.toNatClampNeg = L) (h9 : L ≤ 1000) (hN : hpN h + 1 < 1000000) (hroom : k + 1 ≤ kc ∧ n + L ≤ ks) (hd : Dq cc pc (.newarray at_) 2 pc') (kk : V X G nL (k + 1) (n + L) Q pc' ls (.ref (hpN h) :: st) (stN h c L)) : V X G nL k n Q pc ls (.int i :: st) h := by
  obtain ⟨hd, rfl⟩ := hd
  intro H locs la hW hS hL
  have hts := hX.2.2.2.2.2.1
  have hcb : componentBytes (newarray.typeOf at_) ≤ 8 := by rcases hc with ⟨-, rfl⟩ | ⟨-, rfl⟩ <;> decide
  refine va_newaK hX.1 hX.2.1 (atype := at_) (hts _ hw) rfl hd rfl hi hL' (Nat.le_trans (Nat.mul_le_mul h9 hcb) (Nat.le_of_ble_eq_true rfl)) (by rw [hR]; exact hroom.1) (by rw [hR]; exact hroom.2) rfl fun H1 cA e1 z1 o1 hAr hNm => ?_
  have ead : gAd G (hpN h) = H.size := by rw [gAd_lt hW.2.1]; exact hW.1.symm
  have hWn : Wd G (stN h c L) H1 := by
    refine hW.new hN z1 o1 ?_
    have hK0 := hX.2.2.2.2.2.2.1.1.2
    rcases hc with ⟨rfl, rfl⟩ | ⟨rfl, rfl⟩
    · rw [celE_int (show hpK (stN h 100 L) (hpN h) = 100 from if_pos rfl) (Or.inl rfl)]
      have hcA : cA = gA G 100 := Option.some.inj (hNm.symm.trans (hK0 0 _ rfl).2)
      show H1[H.size]? = some (vp_cell _ _)
      rw [e1, hcA, show hpL (stN h 100 L) (hpN h) = L from if_pos rfl, vp_cell_i]
      congr 2
      funext j
      show Value.int 0 = .int (hpI (stN h 100 L) (hpN h) j)
      rw [show hpI (stN h 100 L) (hpN h) j = 0 from if_pos rfl]
    · rw [celE_int (show hpK (stN h 101 L) (hpN h) = 101 from if_pos rfl) (Or.inr rfl)]
      have hcA : cA = gA G 101 := Option.some.inj (hNm.symm.trans (hK0 1 _ rfl).2)
      show H1[H.size]? = some (vp_cell _ _)
      rw [e1, hcA, show hpL (stN h 101 L) (hpN h) = L from if_pos rfl, vp_cell_i]
      congr 2
      funext j
      show Value.int 0 = .int (hpI (stN h 101 L) (hpN h) j)
      rw [show hpI (stN h 101 L) (hpN h) j = 0 from if_pos rfl]
  have := kk H1 locs la hWn (hS.grow z1 o1) hL
  rw [List.map_cons, show cv G (.ref (hpN h)) = .ref H.size from congrArg Value.ref ead] at this
  exact this
theorem v_anew (hX : OKx X G own cc nL rt) (hR : xR X = rmC d kc ks) {c L ix : Nat} {i : Int32} {C : String} (hc : (c = 102 ∧ C = RX1) ∨ (c = 103 ∧ C = RX6)) (hl : Cond.classLink own ix C ∈ TG) (hi : ¬ i < 0) (hL' : i.toNatClampNeg = L) (h9 : L ≤ 1000) (hN : hpN h + 1 < 1000000) (hroom : k + 1 ≤ kc ∧ n + L ≤ ks) (hd : Dq cc pc (.anewarray ix) 3 pc') (kk : V X G nL (k + 1) (n + L) Q pc' ls (.ref (hpN h) :: st) (stN h c L)) : V X G nL k n Q pc ls (.int i :: st) h := by
  obtain ⟨hd, rfl⟩ := hd
  subst hL'
  intro H locs la hW hS hL
  have hts := hX.2.2.2.2.2.1
  have hover : va_AO C (xs X) := by rcases hc with ⟨-, rfl⟩ | ⟨-, rfl⟩; exact hX.2.2.2.2.2.2.1.2.2.1; exact hX.2.2.2.2.2.2.1.2.2.2
  refine W.anew hX.1 hX.2.1 hX.2.2.2.2.1 (hts _ hl) (va_AO.use hover) rfl hd rfl hi (Nat.le_trans (Nat.mul_le_mul h9 (Nat.le_refl 4)) (Nat.le_of_ble_eq_true rfl)) (by rw [hR]; exact hroom.1) (by rw [hR]; exact hroom.2) fun cA kA comp f1 f2 f3 f4 => ?_
  generalize hH1 : H.push ({ cls := cA, slots := Array.replicate i.toNatClampNeg .null, vm := .none } : Cell) = H1
  have z1 : H1.size = H.size + 1 := by rw [← hH1, Array.size_push]
  have e1 : H1[H.size]? = some (arrV cA i.toNatClampNeg (fun _ => .null)) := by rw [← hH1, Array.getElem?_push_size, ← arrV_new]
  have o1 : ∀ q : Nat, q < H.size → H1[q]? = H[q]? := fun q hq => by rw [← hH1, Array.getElem?_push, if_neg (Nat.ne_of_lt hq)]
  have ead : gAd G (hpN h) = H.size := by rw [gAd_lt hW.2.1]; exact hW.1.symm
  have hWn : Wd G (stN h c i.toNatClampNeg) H1 := by
    refine hW.new hN z1 o1 ?_
    have hK0 := hX.2.2.2.2.2.2.1.1.2
    have hcc : c = 102 ∨ c = 103 := by omega
    have hcA : cA = gA G c := by
      rcases hc with ⟨rfl, rfl⟩ | ⟨rfl, rfl⟩
      · obtain ⟨_, _, -, -, -, g⟩ := (hK0 2 _ rfl).2
        exact Option.some.inj (f1.symm.trans g)
      · obtain ⟨_, _, -, -, -, g⟩ := (hK0 3 _ rfl).2
        exact Option.some.inj (f1.symm.trans g)
    rw [celE_ref (show hpK (stN h c i.toNatClampNeg) (hpN h) = c from if_pos rfl) hcc]
    show H1[H.size]? = some (vp_cell _ _)
    rw [e1, hcA, show hpL (stN h c i.toNatClampNeg) (hpN h) = i.toNatClampNeg from if_pos rfl, vp_cell_q]
    congr 2
    funext j
    rw [show hpR (stN h c i.toNatClampNeg) (hpN h) j = none from if_pos rfl]
    rfl
  have := kk H1 locs la hWn (hS.grow z1 o1) hL
  rw [List.map_cons, show cv G (.ref (hpN h)) = .ref H.size from congrArg Value.ref ead] at this
  exact this
end VNW
end
section
section VM
variable {X : Cx} {G : Glb} {own : String} {cc : ByteArray} {nL k n pc pc' : Nat} {rt : Option FieldType} {Q : State → Prop} {ls : List (Option Value)} {st : List Value} {h : AHp} {d kc ks : Nat}
theorem Wd.ar {h : AHp} {H : Heap} (hW : Wd G h H) {a c : Nat} (hk : Kd h a c) (hc : c = 102 ∨ c = 103) : va_at (gD G) vwCl (gAd G a, .inl (gA G c, (hpL h a, .inr (.inr (.inr (.inr (fun i => (hpR h a i).map (gAd G)))))))) H := by
  have h1 := hW.at hk
  rwa [celE_ref hk.1 hc] at h1
theorem v_aald (hX : OKx X G own cc nL rt) {a c L : Nat} {i : Int32} {r : Option Nat} (hc : c = 102 ∨ c = 103) (hk : Kd h a c) (hl : hpL h a = L) (hi : vp_in i L) (hr : hpR h a i.toNatClampNeg = r) (hd : Dq cc pc .aaload 1 pc') (kk : V X G nL k n Q pc' ls (va_rf r :: st) h) : V X G nL k n Q pc ls (.int i :: .ref a :: st) h := by
  obtain ⟨hd, rfl⟩ := hd
  subst hl
  subst hr
  intro H locs la hW hS hL
  have e : cv G (va_rf (hpR h a i.toNatClampNeg)) = va_rf ((hpR h a i.toNatClampNeg).map (gAd G)) := by cases hpR h a i.toNatClampNeg <;> rfl
  have kk := kk H locs la hW hS hL
  rw [List.map_cons, e] at kk
  rcases hc with rfl | rfl
  · exact va_aldq (D := gD G) (cl := vwCl) hX.1 hX.2.1 hX.2.2.2.2.2.2.1.1 (hW.ar hk (Or.inl rfl)).here 0 2 rfl rfl hi hd kk
  · exact va_aldq (D := gD G) (cl := vwCl) hX.1 hX.2.1 hX.2.2.2.2.2.2.1.1 (hW.ar hk (Or.inr rfl)).here 0 3 rfl rfl hi hd kk
/-- a store of an object of class ci into a row of E -/
theorem v_aast (hX : OKx X G own cc nL rt) {a v c ci L : Nat} {i : Int32} {C E : String} {T : u_T} {N : Nat} (hc : (c = 102 ∧ E = RX1) ∨ (c = 103 ∧ E = RX6)) (hci : vwCl[ci]? = some (C, T, N)) (h100 : ci < 100) (hca : C = E ∨ Cond.castable C E ∈ lw_tbl) (hk : Kd h a c) (hv : Kd h v ci) (hl : hpL h a = L) (hi : vp_in i L) (hd : Dq cc pc .aastore 1 pc') (kk : V X G nL k n Q pc' ls st (stR h a i.toNatClampNeg (some v))) : V X G nL k n Q pc ls (.ref v :: .int i :: .ref a :: st) h := by
  obtain ⟨hd, rfl⟩ := hd
  subst hl
  intro H locs la hW hS hL
  have hc2 : c = 102 ∨ c = 103 := by omega
  have ead : gAd G a = gB G + a := gAd_lt (Nat.lt_trans hk.2 hW.2.1)
  have hat : H[gAd G a]? = some (vp_cell (gA G c) (hpL h a, .inr (.inr (.inr (.inr (fun i => (hpR h a i).map (gAd G))))))) := hW.ar hk hc2
  have hav := hW.at hv
  rw [celE_obj hv.1 h100] at hav
  obtain ⟨r', hr', cellV, g1, g2, g3, -⟩ := hav
  have hK := hX.2.2.2.2.2.2.1.1
  have hcls := (hK.1 ci _ hci).2
  have hra : va_RA (xs X) (gA G c) (.object E) := by
    rcases hc with ⟨rfl, rfl⟩ | ⟨rfl, rfl⟩
    · exact (hK.2 2 _ rfl).2
    · exact (hK.2 3 _ rfl).2
  obtain ⟨kA, comp, k1, k2, k3, -⟩ := hra
  obtain ⟨kE, hkE, -⟩ := Vm.findClass_spec k3
  obtain ⟨kC, hkC, -⟩ := hcls.2
  have hass : (xs X).vm.assignable (G.2.1 ci) comp = true := by
    rcases hca with rfl | hca
    · have : comp = G.2.1 ci := Option.some.inj (k3.symm.trans hcls.1)
      rw [this]
      exact va_assign hcls
    · obtain ⟨c0, t1, f1, f2, f3⟩ := Cond.castable_spec (va_Nw.use (A := xa X) rfl (hX.2.2.2.2.2.2.1.2.1 _ hca rfl))
      have e1 : G.2.1 ci = c0 := Option.some.inj (hcls.1.symm.trans f1)
      have e2 : comp = t1 := Option.some.inj (k3.symm.trans f2)
      rw [e1, e2]; exact f3
  have hlt : i.toNatClampNeg < hpL h a := Nat.not_le.mp fun q => hi (Or.inr q)
  have h0 : ¬ i < 0 := fun q => hi (Or.inl q)
  refine W.aast hX.1 hX.2.1 hat (fun q h => by cases h) (fun h => by cases h) k1 k2 rfl hkE ⟨h0, by show _ < (arrV _ _ _).slots.size; rw [arrV_size]; exact hlt⟩ g1 (fun q h => by rw [g3] at h; cases h) (by rw [g2]; exact hkC) (by rw [g2]; exact hass) rfl rfl hd fun H1 e z oq => ?_
  rw [ead] at e oq ⊢
  refine kk H1 _ la (hW.put hk.2 rfl z oq ?_ (fun b hb => cel_stR hb)) (hS.put z oq (Nat.le_add_right _ _)) hL
  rw [celE_ref (show hpK (stR h a i.toNatClampNeg (some v)) a = c from hk.1) hc2]
  show H1[gB G + a]? = some (vp_cell _ _)
  rw [e, vp_cell_q, vp_cell_q, arrV_store]
  congr 2
  funext q
  by_cases hq : q = i.toNatClampNeg
  · subst hq
    have e3 : hpR (stR h a i.toNatClampNeg (some v)) a i.toNatClampNeg = some v := up2_at
    simp only [updV, if_true, e3]
    rfl
  · have e3 : hpR (stR h a i.toNatClampNeg (some v)) a q = hpR h a q := up2_ne (fun z => hq z.2)
    simp only [updV, if_neg hq, e3]
theorem v_instY (hX : OKx X G own cc nL rt) {a ci ix : Nat} {C nm : String} {T : u_T} {N : Nat} (hk : Kd h a ci) (hci : vwCl[ci]? = some (C, T, N)) (h100 : ci < 100) (hl : Cond.classLink own ix nm ∈ TG) (hc : C = nm ∨ Cond.castable C nm ∈ lw_tbl) (hd : Dq cc pc (.instanceof ix) 3 pc') (kk : V X G nL k n Q pc' ls (.int 1 :: st) h) : V X G nL k n Q pc ls (.ref a :: st) h := by
  obtain ⟨hd, rfl⟩ := hd
  intro H locs la hW hS hL
  rcases hc with rfl | hc
  · exact va_instS hX.1 hX.2.1 hX.2.2.2.2.1 (hX.2.2.2.2.2.1 _ hl) (hX.2.2.2.2.2.2.1.1.1 ci _ hci).2 (recvC hX hW hk hci h100) hd (kk H locs la hW hS hL)
  · exact va_instY hX.1 hX.2.1 hX.2.2.2.2.1 (hX.2.2.2.2.2.1 _ hl) (hX.2.2.2.2.2.2.1.2.1 _ hc rfl) (recvC hX hW hk hci h100) hd (kk H locs la hW hS hL)
theorem v_instNo (hX : OKx X G own cc nL rt) {a ci ix : Nat} {C nm : String} {T : u_T} {N : Nat} (hk : Kd h a ci) (hci : vwCl[ci]? = some (C, T, N)) (h100 : ci < 100) (hl : Cond.classLink own ix nm ∈ TG) (hc : va_Nc C nm (xs X)) (hd : Dq cc pc (.instanceof ix) 3 pc') (kk : V X G nL k n Q pc' ls (.int 0 :: st) h) : V X G nL k n Q pc ls (.ref a :: st) h := by
  obtain ⟨hd, rfl⟩ := hd
  intro H locs la hW hS hL
  exact va_instNo hX.1 hX.2.1 hX.2.2.2.2.1 (hX.2.2.2.2.2.1 _ hl) hc (recvC hX hW hk hci h100) hd (kk H locs la hW hS hL)
/-- Object.<init> -/
def MO (own : String) (ix : Nat) : Prop := Cond.methodLink own ix Lib.objectInit ∈ TG ∧ Cond.instanceMethod Lib.objectInit ∈ TG ∧ Cond.code Lib.objectInit ⟨#[0xb1]⟩ 1 none ∈ TG
theorem v_objInit (hX : OKx X G own cc nL rt) (hR : xR X = rmC d kc ks) (hd1 : 1 ≤ d) {a ix : Nat} (hm : MO own ix) (hcat : (st.map fun v => v.category).sum ≤ 8) (hd : Dq cc pc (.invokespecial ix) 3 pc') (kk : V X G nL k n Q pc' ls st h) : V X G nL k n Q pc ls (.ref a :: st) h := by
  obtain ⟨hd, rfl⟩ := hd
  intro H locs la hW hS hL
  have hcat2 := catS (G := G) hcat
  refine W.objInit hX.1 hX.2.1 hX.2.2.2.2.1 (hX.2.2.2.2.2.1 _ hm.1) (hX.2.2.2.2.2.1 _ hm.2.1) (hX.2.2.2.2.2.1 _ hm.2.2) rfl (hL.1.trans hX.2.2.2.1.symm) rfl hd (by rw [hR]; exact hd1) ?_ (kk H locs la hW hS hL)
  rw [hR]
  show 2 * 0 + _ + 12 ≤ 40 * d
  omega
/-- Math.max, min, abs -/
def mJ (own : String) (ix : Nat) (y : MethodName) (b : ByteArray) (ml : Nat) : Prop := Cond.methodLink own ix y ∈ TG ∧ Cond.static y ∈ TG ∧ Cond.initialized "java/lang/Math" ∈ TG ∧ Cond.code y b ml (some .int) ∈ TG
theorem mth_room (hX : OKx X G own cc nL rt) (hR : xR X = rmC d kc ks) (hd1 : 1 ≤ d) (hcat : (st.map fun v => v.category).sum ≤ 8) : 1 ≤ (xR X).frames ∧ ((st.map (cv G)).map fun v => v.category).sum + 13 ≤ (xR X).locals := by
  have hcat2 := catS (G := G) hcat
  rw [hR]
  refine ⟨hd1, ?_⟩
  show _ + 13 ≤ 40 * d
  omega
theorem v_max (hX : OKx X G own cc nL rt) (hR : xR X = rmC d kc ks) (hd1 : 1 ≤ d) {x y : Int32} {ix : Nat} (hm : mJ own ix Lib.Math.max.name Lib.Math.max.code 2) (hcat : (st.map fun v => v.category).sum ≤ 8) (hroom : k ≤ kc ∧ n ≤ ks) (hd : Dq cc pc (.invokestatic ix) 3 pc') (kk : V X G nL k n Q pc' ls (.int (if x < y then y else x) :: st) h) : V X G nL k n Q pc ls (.int y :: .int x :: st) h := by
  obtain ⟨hd, rfl⟩ := hd
  intro H locs la hW hS hL
  obtain ⟨r1, r2⟩ := mth_room (G := G) hX hR hd1 hcat
  exact va_mmax hX.1 hX.2.1 (hX.2.2.2.1.trans hL.1.symm) hX.2.2.2.2.1 (hX.2.2.2.2.2.1 _ hm.1) (hX.2.2.2.2.2.1 _ hm.2.1) (hX.2.2.2.2.2.1 _ hm.2.2.1) (hX.2.2.2.2.2.1 _ hm.2.2.2) r1 r2 (by rw [hR]; exact hroom.1) (by rw [hR]; exact hroom.2) hd (kk H locs la hW hS hL)
theorem v_min (hX : OKx X G own cc nL rt) (hR : xR X = rmC d kc ks) (hd1 : 1 ≤ d) {x y : Int32} {ix : Nat} (hm : mJ own ix Lib.Math.min.name Lib.Math.min.code 2) (hcat : (st.map fun v => v.category).sum ≤ 8) (hroom : k ≤ kc ∧ n ≤ ks) (hd : Dq cc pc (.invokestatic ix) 3 pc') (kk : V X G nL k n Q pc' ls (.int (if y < x then y else x) :: st) h) : V X G nL k n Q pc ls (.int y :: .int x :: st) h := by
  obtain ⟨hd, rfl⟩ := hd
  intro H locs la hW hS hL
  obtain ⟨r1, r2⟩ := mth_room (G := G) hX hR hd1 hcat
  exact va_mmin hX.1 hX.2.1 (hX.2.2.2.1.trans hL.1.symm) hX.2.2.2.2.1 (hX.2.2.2.2.2.1 _ hm.1) (hX.2.2.2.2.2.1 _ hm.2.1) (hX.2.2.2.2.2.1 _ hm.2.2.1) (hX.2.2.2.2.2.1 _ hm.2.2.2) r1 r2 (by rw [hR]; exact hroom.1) (by rw [hR]; exact hroom.2) hd (kk H locs la hW hS hL)
theorem v_abs (hX : OKx X G own cc nL rt) (hR : xR X = rmC d kc ks) (hd1 : 1 ≤ d) {x : Int32} {ix : Nat} (hm : mJ own ix Lib.Math.abs.name Lib.Math.abs.code 1) (hcat : (st.map fun v => v.category).sum ≤ 8) (hroom : k ≤ kc ∧ n ≤ ks) (hd : Dq cc pc (.invokestatic ix) 3 pc') (kk : V X G nL k n Q pc' ls (.int (if 0 ≤ x then x else 0 - x) :: st) h) : V X G nL k n Q pc ls (.int x :: st) h := by
  obtain ⟨hd, rfl⟩ := hd
  intro H locs la hW hS hL
  obtain ⟨r1, r2⟩ := mth_room (G := G) hX hR hd1 hcat
  exact va_mabs hX.1 hX.2.1 (hX.2.2.2.1.trans hL.1.symm) hX.2.2.2.2.1 (hX.2.2.2.2.2.1 _ hm.1) (hX.2.2.2.2.2.1 _ hm.2.1) (hX.2.2.2.2.2.1 _ hm.2.2.1) (hX.2.2.2.2.2.1 _ hm.2.2.2) r1 r2 (by rw [hR]; exact hroom.1) (by rw [hR]; exact hroom.2) hd (kk H locs la hW hS hL)
/-- System.arraycopy over rows of ints -/
def mA (own : String) (ix : Nat) : Prop := Cond.methodLink own ix arraycopyName ∈ TG ∧ Cond.native arraycopyName ∈ TG ∧ Cond.static arraycopyName ∈ TG ∧ Cond.initialized "java/lang/System" ∈ TG
def stC (h : AHp) (a b sp dp m : Nat) : AHp := ((fun c j => if c = b ∧ dp ≤ j ∧ j < dp + m then h.1 a (sp + (j - dp)) else h.1 c j), h.2)
theorem cel_stC {a b sp dp m c : Nat} (hb : c ≠ b) : celE G (stC h a b sp dp m) c = celE G h c := by
  have e1 : hpI (stC h a b sp dp m) c = hpI h c := by funext j; exact if_neg (fun z => hb z.1)
  unfold celE
  show (if hpK h c < 100 then (Sum.inr (hpK h c, fls G (stC h a b sp dp m) c 0 (lyt (hpK h c))) : va_E) else if hpK h c < 102 then .inl (gA G (hpK h c), (hpL h c, .inl (hpI (stC h a b sp dp m) c))) else .inl (gA G (hpK h c), (hpL h c, .inr (.inr (.inr (.inr (fun i => (hpR h c i).map (gAd G)))))))) = _
  rw [e1, fls_ext (h := stC h a b sp dp m) (h' := h) (lyt (hpK h c)) 0 (fun j t _ => by unfold fdv; rw [e1]; rfl)]
theorem v_acopy (hX : OKx X G own cc nL rt) (hR : xR X = rmC d kc ks) (hd1 : 1 ≤ d) {a b ix La Lb : Nat} {sp dp m : Int32} (hm : mA own ix) (hka : Kd h a 100) (hkb : Kd h b 100) (hla : hpL h a = La) (hlb : hpL h b = Lb) (h1 : ¬ sp < 0) (h2 : ¬ dp < 0) (h3 : ¬ m < 0) (h4 : sp.toNatClampNeg + m.toNatClampNeg ≤ La) (h5 : dp.toNatClampNeg + m.toNatClampNeg ≤ Lb) (hcat : (st.map fun v => v.category).sum ≤ 8) (hd : Dq cc pc (.invokestatic ix) 3 pc') (kk : V X G nL k n Q pc' ls st (stC h a b sp.toNatClampNeg dp.toNatClampNeg m.toNatClampNeg)) : V X G nL k n Q pc ls (.int m :: .int dp :: .ref b :: .int sp :: .ref a :: st) h := by
  obtain ⟨hd, rfl⟩ := hd
  subst hla; subst hlb
  intro H locs la hW hS hL
  have hcat2 := catS (G := G) hcat
  have eb : gAd G b = gB G + b := gAd_lt (Nat.lt_trans hkb.2 hW.2.1)
  have nn : ∀ z : Int32, ¬ z < 0 → z.toInt = (z.toNatClampNeg : Int) := by
    intro z hz
    have hz0 : (0 : Int) ≤ z.toInt := by
      have := Int32.not_lt.mp hz
      simpa using Int32.le_iff_toInt_le.mp this
    show z.toInt = ((z.toInt.toNat : Nat) : Int)
    omega
  intro T hT Z
  have hts := hX.2.2.2.2.2.1
  have hc0 : H[gAd G a]? = some (vp_cell (gA G 100) (hpL h a, .inl (hpI h a))) := hW.ai hka (Or.inl rfl)
  have hc1 : H[gAd G b]? = some (vp_cell (gA G 100) (hpL h b, .inl (hpI h b))) := hW.ai hkb (Or.inl rfl)
  obtain ⟨-, k0, hk0, cm0, hkk0⟩ := (hX.2.2.2.2.2.2.1.1.2 0 _ rfl).1 (hpL h a) (fun j => .int (hpI h a j))
  obtain ⟨-, k1, hk1, cm1, hkk1⟩ := (hX.2.2.2.2.2.2.1.1.2 0 _ rfl).1 (hpL h b) (fun j => .int (hpI h b j))
  obtain ⟨vm', Z', step⟩ := Z.arraycopy hX.1 hX.2.2.2.2.1 (hts _ hm.1) (hts _ hm.2.1) (hts _ hm.2.2.1) (hts _ hm.2.2.2) (src := gAd G a) (dst := gAd G b) (cs := vp_cell (gA G 100) (hpL h a, .inl (hpI h a))) (cd := vp_cell (gA G 100) (hpL h b, .inl (hpI h b))) (srcPos := sp) (destPos := dp) (n := m) (by rw [hT]; exact hc0) (by rw [hT]; exact hc1)
    (fun _ h => by cases h) (fun _ h => by cases h) (fun h => by cases h) (fun h => by cases h) hk0 hk1 hkk0 hkk1 rfl h1 h2 h3
    (by rw [nn sp h1, nn m h3]; show ¬ _ > ((arrV (gA G 100) (hpL h a) (fun j => .int (hpI h a j))).slots.size : Int); rw [arrV_size]; omega)
    (by rw [nn dp h2, nn m h3]; show ¬ _ > ((arrV (gA G 100) (hpL h b) (fun j => .int (hpI h b j))).slots.size : Int); rw [arrV_size]; omega)
    (fun vm₁ _ i hi => by
      have e : (vp_cell (gA G 100) (hpL h a, .inl (hpI h a))).slots.getD (sp.toNatClampNeg + i) .null = .int (hpI h a (sp.toNatClampNeg + i)) := by
        show (arrV (gA G 100) (hpL h a) (fun j => .int (hpI h a j))).slots.getD _ _ = _
        rw [Array.getD_eq_getD_getElem?, arrV_read _ _ (by omega)]
        rfl
      refine ⟨?_, ?_⟩
      · rw [e]; rfl
      · rw [e]; exact trivial)
    (g := F0 (xm X) pc la (.int m :: .int dp :: .ref (gAd G b) :: .int sp :: .ref (gAd G a) :: st.map (cv G))) rfl (hL.1.trans hX.2.2.2.1.symm) (rest := st.map (cv G)) rfl (by rw [hX.2.1]; exact hd) (by rw [hR]; exact hd1) (by have h20 : nativeFrameWords "java/lang/System" "arraycopy" 5 ≤ 20 := (by decide); rw [hR]; show 2 * 0 + _ + (nativeFrameWords "java/lang/System" "arraycopy" 5 + 11) ≤ 40 * d; omega)
  have e1 : copied (vp_cell (gA G 100) (hpL h a, .inl (hpI h a))) (vp_cell (gA G 100) (hpL h b, .inl (hpI h b))) sp dp m = vp_cell (gA G 100) (hpL h b, .inl (va_cpy (hpI h a) (hpI h b) sp.toNatClampNeg dp.toNatClampNeg m.toNatClampNeg)) := va_copied (fun z => .int z) (gA G 100) (gA G 100) (hpI h a) (hpI h b) h4
  rw [e1] at Z' step
  have hl : gAd G b < H.size := (Array.getElem?_eq_some_iff.mp hc1).1
  have hheap : ((T.setVm vm').setCell (gAd G b) (vp_cell (gA G 100) (hpL h b, .inl (va_cpy (hpI h a) (hpI h b) sp.toNatClampNeg dp.toNatClampNeg m.toNatClampNeg)))).heap = H.setIfInBounds (gAd G b) (vp_cell (gA G 100) (hpL h b, .inl (va_cpy (hpI h a) (hpI h b) sp.toNatClampNeg dp.toNatClampNeg m.toNatClampNeg))) := by rw [← hT]; rfl
  generalize hH1 : H.setIfInBounds (gAd G b) (vp_cell (gA G 100) (hpL h b, .inl (va_cpy (hpI h a) (hpI h b) sp.toNatClampNeg dp.toNatClampNeg m.toNatClampNeg))) = H1 at hheap
  have oq : ∀ q : Nat, q ≠ gAd G b → H1[q]? = H[q]? := fun q hq => by rw [← hH1]; simp [Array.getElem?_setIfInBounds, Ne.symm hq]
  have hz : H1.size = H.size := by rw [← hH1]; simp
  have hat : H1[gAd G b]? = some (vp_cell (gA G 100) (hpL h b, .inl (va_cpy (hpI h a) (hpI h b) sp.toNatClampNeg dp.toNatClampNeg m.toNatClampNeg))) := by rw [← hH1]; simp [Array.getElem?_setIfInBounds, hl]
  have hWn : Wd G (stC h a b sp.toNatClampNeg dp.toNatClampNeg m.toNatClampNeg) H1 := by
    refine hW.put (a := b) hkb.2 rfl hz (by rw [← eb]; exact oq) ?_ (fun c hc => cel_stC hc)
    rw [celE_int (show hpK (stC h a b sp.toNatClampNeg dp.toNatClampNeg m.toNatClampNeg) b = 100 from hkb.1) (Or.inl rfl), ← eb]
    show H1[gAd G b]? = some (vp_cell _ _)
    rw [hat]
    congr 2
    show (hpL h b, Sum.inl _) = (hpL h b, Sum.inl _)
    congr 2
    funext j
    show va_cpy (hpI h a) (hpI h b) sp.toNatClampNeg dp.toNatClampNeg m.toNatClampNeg j = if b = b ∧ dp.toNatClampNeg ≤ j ∧ j < dp.toNatClampNeg + m.toNatClampNeg then h.1 a (sp.toNatClampNeg + (j - dp.toNatClampNeg)) else h.1 b j
    unfold va_cpy
    simp only [true_and]
    rfl
  obtain ⟨t, a1, b1⟩ := kk H1 _ la hWn ⟨by rw [hz]; exact hS.1, fun q g1 g2 => by
      rw [oq q (fun e => g2 (by rw [e, eb]; exact Nat.le_add_right _ _))]
      exact hS.2.1 q g1 g2, fun q hq => by
      rcases List.mem_append.mp hq with h | h
      · exact hS.2.2 q h
      · obtain ⟨z, -, hz⟩ := List.mem_map.mp h
        rw [← hz]
        show gB G ≤ gAd G b
        rw [eb]; exact Nat.le_add_right _ _⟩ hL _ hheap Z'
  exact ⟨t, step t a1, b1⟩
end VM
end
