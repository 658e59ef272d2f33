section
-- ===== PART A: goes FIRST, ahead of the names: the tables' words, and 'selects' of the private methods out of them =====
/-- a private method of a class that the tables say can be made, by its rows of tables_1 -/
def lw_okq (q : MethodName × Nat) : Prop := (q.1.cls ≠ "java/lang/invoke/MethodHandle" ∧ q.1.cls ≠ "java/lang/invoke/VarHandle") ∧ Cond.instantiable q.1.cls q.2 ∈ tables_1 ∧ Cond.privateMethod q.1 ∈ tables_1 ∧ Cond.instanceMethod q.1 ∈ tables_1
theorem lw_p0 : lw_okq (⟨"SitterCircle$Tape", "append", "(J)Z"⟩, 2) := ⟨⟨by decide +kernel, by decide +kernel⟩, List.mem_of_getElem? (i := 27) (by decide +kernel), List.mem_of_getElem? (i := 197) (by decide +kernel), List.mem_of_getElem? (i := 198) (by decide +kernel)⟩
theorem lw_p1 : lw_okq (⟨"SitterCircle$Lawbook", "isFull", "()Z"⟩, 3) := ⟨⟨by decide +kernel, by decide +kernel⟩, List.mem_of_getElem? (i := 75) (by decide +kernel), List.mem_of_getElem? (i := 209) (by decide +kernel), List.mem_of_getElem? (i := 210) (by decide +kernel)⟩
theorem lw_p2 : lw_okq (⟨"SitterCircle$Reader", "read", "(LSitterCircle$Tape;)V"⟩, 7) := ⟨⟨by decide +kernel, by decide +kernel⟩, List.mem_of_getElem? (i := 43) (by decide +kernel), List.mem_of_getElem? (i := 213) (by decide +kernel), List.mem_of_getElem? (i := 214) (by decide +kernel)⟩
theorem lw_p3 : lw_okq (⟨"SitterCircle$Reader", "scan", "(LSitterCircle$Tape;)V"⟩, 7) := ⟨⟨by decide +kernel, by decide +kernel⟩, List.mem_of_getElem? (i := 43) (by decide +kernel), List.mem_of_getElem? (i := 220) (by decide +kernel), List.mem_of_getElem? (i := 221) (by decide +kernel)⟩
theorem lw_p4 : lw_okq (⟨"SitterCircle$Reader", "skipBlanks", "(LSitterCircle$Tape;)V"⟩, 7) := ⟨⟨by decide +kernel, by decide +kernel⟩, List.mem_of_getElem? (i := 43) (by decide +kernel), List.mem_of_getElem? (i := 224) (by decide +kernel), List.mem_of_getElem? (i := 225) (by decide +kernel)⟩
theorem lw_p5 : lw_okq (⟨"SitterCircle$Tape", "at", "(I)I"⟩, 2) := ⟨⟨by decide +kernel, by decide +kernel⟩, List.mem_of_getElem? (i := 27) (by decide +kernel), List.mem_of_getElem? (i := 228) (by decide +kernel), List.mem_of_getElem? (i := 229) (by decide +kernel)⟩
theorem lw_p6 : lw_okq (⟨"SitterCircle$Tape", "isLetter", "(I)Z"⟩, 2) := ⟨⟨by decide +kernel, by decide +kernel⟩, List.mem_of_getElem? (i := 27) (by decide +kernel), List.mem_of_getElem? (i := 232) (by decide +kernel), List.mem_of_getElem? (i := 233) (by decide +kernel)⟩
theorem lw_p7 : lw_okq (⟨"SitterCircle$Reader", "scanName", "(LSitterCircle$Tape;)V"⟩, 7) := ⟨⟨by decide +kernel, by decide +kernel⟩, List.mem_of_getElem? (i := 43) (by decide +kernel), List.mem_of_getElem? (i := 237) (by decide +kernel), List.mem_of_getElem? (i := 238) (by decide +kernel)⟩
theorem lw_p8 : lw_okq (⟨"SitterCircle$Tape", "spells", "(Ljava/lang/String;II)Z"⟩, 2) := ⟨⟨by decide +kernel, by decide +kernel⟩, List.mem_of_getElem? (i := 27) (by decide +kernel), List.mem_of_getElem? (i := 249) (by decide +kernel), List.mem_of_getElem? (i := 250) (by decide +kernel)⟩
theorem lw_p9 : lw_okq (⟨"SitterCircle$Reader", "fail", "(I)V"⟩, 7) := ⟨⟨by decide +kernel, by decide +kernel⟩, List.mem_of_getElem? (i := 43) (by decide +kernel), List.mem_of_getElem? (i := 301) (by decide +kernel), List.mem_of_getElem? (i := 302) (by decide +kernel)⟩
theorem lw_p10 : lw_okq (⟨"SitterCircle$Tape", "isFigure", "(I)Z"⟩, 2) := ⟨⟨by decide +kernel, by decide +kernel⟩, List.mem_of_getElem? (i := 27) (by decide +kernel), List.mem_of_getElem? (i := 305) (by decide +kernel), List.mem_of_getElem? (i := 306) (by decide +kernel)⟩
theorem lw_p11 : lw_okq (⟨"SitterCircle$Reader", "scanNumber", "(LSitterCircle$Tape;)V"⟩, 7) := ⟨⟨by decide +kernel, by decide +kernel⟩, List.mem_of_getElem? (i := 43) (by decide +kernel), List.mem_of_getElem? (i := 309) (by decide +kernel), List.mem_of_getElem? (i := 310) (by decide +kernel)⟩
theorem lw_p12 : lw_okq (⟨"SitterCircle$Reader", "readLaw", "(LSitterCircle$Tape;)V"⟩, 7) := ⟨⟨by decide +kernel, by decide +kernel⟩, List.mem_of_getElem? (i := 43) (by decide +kernel), List.mem_of_getElem? (i := 313) (by decide +kernel), List.mem_of_getElem? (i := 314) (by decide +kernel)⟩
theorem lw_p13 : lw_okq (⟨"SitterCircle$Reader", "canStand", "(I)Z"⟩, 7) := ⟨⟨by decide +kernel, by decide +kernel⟩, List.mem_of_getElem? (i := 43) (by decide +kernel), List.mem_of_getElem? (i := 317) (by decide +kernel), List.mem_of_getElem? (i := 318) (by decide +kernel)⟩
theorem lw_p14 : lw_okq (⟨"SitterCircle$Lawbook", "add", "(I[I)I"⟩, 3) := ⟨⟨by decide +kernel, by decide +kernel⟩, List.mem_of_getElem? (i := 75) (by decide +kernel), List.mem_of_getElem? (i := 325) (by decide +kernel), List.mem_of_getElem? (i := 326) (by decide +kernel)⟩
theorem lw_p15 : lw_okq (⟨"SitterCircle", "expireNotes", "()V"⟩, 14) := ⟨⟨by decide +kernel, by decide +kernel⟩, List.mem_of_getElem? (i := 19) (by decide +kernel), List.mem_of_getElem? (i := 330) (by decide +kernel), List.mem_of_getElem? (i := 331) (by decide +kernel)⟩
def lw_privs_1 : List (MethodName × Nat) := [(⟨"SitterCircle$Tape", "append", "(J)Z"⟩, 2), (⟨"SitterCircle$Lawbook", "isFull", "()Z"⟩, 3), (⟨"SitterCircle$Reader", "read", "(LSitterCircle$Tape;)V"⟩, 7), (⟨"SitterCircle$Reader", "scan", "(LSitterCircle$Tape;)V"⟩, 7), (⟨"SitterCircle$Reader", "skipBlanks", "(LSitterCircle$Tape;)V"⟩, 7), (⟨"SitterCircle$Tape", "at", "(I)I"⟩, 2), (⟨"SitterCircle$Tape", "isLetter", "(I)Z"⟩, 2), (⟨"SitterCircle$Reader", "scanName", "(LSitterCircle$Tape;)V"⟩, 7), (⟨"SitterCircle$Tape", "spells", "(Ljava/lang/String;II)Z"⟩, 2), (⟨"SitterCircle$Reader", "fail", "(I)V"⟩, 7), (⟨"SitterCircle$Tape", "isFigure", "(I)Z"⟩, 2), (⟨"SitterCircle$Reader", "scanNumber", "(LSitterCircle$Tape;)V"⟩, 7), (⟨"SitterCircle$Reader", "readLaw", "(LSitterCircle$Tape;)V"⟩, 7), (⟨"SitterCircle$Reader", "canStand", "(I)Z"⟩, 7), (⟨"SitterCircle$Lawbook", "add", "(I[I)I"⟩, 3), (⟨"SitterCircle", "expireNotes", "()V"⟩, 14)]
theorem lw_r1 : ∀ q ∈ lw_privs_1, lw_okq q := List.forall_mem_cons.mpr ⟨lw_p0, List.forall_mem_cons.mpr ⟨lw_p1, List.forall_mem_cons.mpr ⟨lw_p2, List.forall_mem_cons.mpr ⟨lw_p3, List.forall_mem_cons.mpr ⟨lw_p4, List.forall_mem_cons.mpr ⟨lw_p5, List.forall_mem_cons.mpr ⟨lw_p6, List.forall_mem_cons.mpr ⟨lw_p7, List.forall_mem_cons.mpr ⟨lw_p8, List.forall_mem_cons.mpr ⟨lw_p9, List.forall_mem_cons.mpr ⟨lw_p10, List.forall_mem_cons.mpr ⟨lw_p11, List.forall_mem_cons.mpr ⟨lw_p12, List.forall_mem_cons.mpr ⟨lw_p13, List.forall_mem_cons.mpr ⟨lw_p14, List.forall_mem_cons.mpr ⟨lw_p15, fun _ h => absurd h List.not_mem_nil⟩⟩⟩⟩⟩⟩⟩⟩⟩⟩⟩⟩⟩⟩⟩⟩
theorem lw_p16 : lw_okq (⟨"SitterCircle$Lawbook", "lawOf", "(II)I"⟩, 3) := ⟨⟨by decide +kernel, by decide +kernel⟩, List.mem_of_getElem? (i := 75) (by decide +kernel), List.mem_of_getElem? (i := 334) (by decide +kernel), List.mem_of_getElem? (i := 335) (by decide +kernel)⟩
theorem lw_p17 : lw_okq (⟨"SitterCircle$Lawbook", "textOf", "(I)I"⟩, 3) := ⟨⟨by decide +kernel, by decide +kernel⟩, List.mem_of_getElem? (i := 75) (by decide +kernel), List.mem_of_getElem? (i := 338) (by decide +kernel), List.mem_of_getElem? (i := 339) (by decide +kernel)⟩
theorem lw_p18 : lw_okq (⟨"SitterCircle$Purse", "dropBefore", "(I)I"⟩, 4) := ⟨⟨by decide +kernel, by decide +kernel⟩, List.mem_of_getElem? (i := 346) (by decide +kernel), List.mem_of_getElem? (i := 344) (by decide +kernel), List.mem_of_getElem? (i := 345) (by decide +kernel)⟩
theorem lw_p19 : lw_okq (⟨"SitterCircle$Purse", "removeOldestHeaps", "(I)V"⟩, 4) := ⟨⟨by decide +kernel, by decide +kernel⟩, List.mem_of_getElem? (i := 346) (by decide +kernel), List.mem_of_getElem? (i := 349) (by decide +kernel), List.mem_of_getElem? (i := 350) (by decide +kernel)⟩
theorem lw_p20 : lw_okq (⟨"SitterCircle$Lawbook", "latestDay", "()I"⟩, 3) := ⟨⟨by decide +kernel, by decide +kernel⟩, List.mem_of_getElem? (i := 75) (by decide +kernel), List.mem_of_getElem? (i := 361) (by decide +kernel), List.mem_of_getElem? (i := 362) (by decide +kernel)⟩
theorem lw_p21 : lw_okq (⟨"SitterCircle$Purse", "put", "(II)V"⟩, 4) := ⟨⟨by decide +kernel, by decide +kernel⟩, List.mem_of_getElem? (i := 346) (by decide +kernel), List.mem_of_getElem? (i := 421) (by decide +kernel), List.mem_of_getElem? (i := 422) (by decide +kernel)⟩
theorem lw_p22 : lw_okq (⟨"SitterCircle$Purse", "insertHeap", "(III)V"⟩, 4) := ⟨⟨by decide +kernel, by decide +kernel⟩, List.mem_of_getElem? (i := 346) (by decide +kernel), List.mem_of_getElem? (i := 425) (by decide +kernel), List.mem_of_getElem? (i := 426) (by decide +kernel)⟩
theorem lw_p23 : lw_okq (⟨"SitterCircle", "familyAt", "(I)LSitterCircle$Family;"⟩, 14) := ⟨⟨by decide +kernel, by decide +kernel⟩, List.mem_of_getElem? (i := 19) (by decide +kernel), List.mem_of_getElem? (i := 449) (by decide +kernel), List.mem_of_getElem? (i := 450) (by decide +kernel)⟩
theorem lw_p24 : lw_okq (⟨"SitterCircle$Visits", "areOf", "(I)Z"⟩, 4) := ⟨⟨by decide +kernel, by decide +kernel⟩, List.mem_of_getElem? (i := 96) (by decide +kernel), List.mem_of_getElem? (i := 453) (by decide +kernel), List.mem_of_getElem? (i := 454) (by decide +kernel)⟩
theorem lw_p25 : lw_okq (⟨"SitterCircle$Family", "doesBar", "(I)Z"⟩, 5) := ⟨⟨by decide +kernel, by decide +kernel⟩, List.mem_of_getElem? (i := 377) (by decide +kernel), List.mem_of_getElem? (i := 461) (by decide +kernel), List.mem_of_getElem? (i := 462) (by decide +kernel)⟩
theorem lw_p26 : lw_okq (⟨"SitterCircle$Family", "setBar", "(IZ)V"⟩, 5) := ⟨⟨by decide +kernel, by decide +kernel⟩, List.mem_of_getElem? (i := 377) (by decide +kernel), List.mem_of_getElem? (i := 465) (by decide +kernel), List.mem_of_getElem? (i := 466) (by decide +kernel)⟩
theorem lw_p27 : lw_okq (⟨"SitterCircle$Purse", "oldestDay", "()I"⟩, 4) := ⟨⟨by decide +kernel, by decide +kernel⟩, List.mem_of_getElem? (i := 346) (by decide +kernel), List.mem_of_getElem? (i := 473) (by decide +kernel), List.mem_of_getElem? (i := 474) (by decide +kernel)⟩
theorem lw_p28 : lw_okq (⟨"SitterCircle$Purse", "notesOfOldestDay", "()I"⟩, 4) := ⟨⟨by decide +kernel, by decide +kernel⟩, List.mem_of_getElem? (i := 346) (by decide +kernel), List.mem_of_getElem? (i := 477) (by decide +kernel), List.mem_of_getElem? (i := 478) (by decide +kernel)⟩
theorem lw_p29 : lw_okq (⟨"SitterCircle", "addVisit", "(LSitterCircle$Visits;III)I"⟩, 14) := ⟨⟨by decide +kernel, by decide +kernel⟩, List.mem_of_getElem? (i := 19) (by decide +kernel), List.mem_of_getElem? (i := 485) (by decide +kernel), List.mem_of_getElem? (i := 486) (by decide +kernel)⟩
theorem lw_p30 : lw_okq (⟨"SitterCircle$Visits", "add", "(III)Z"⟩, 4) := ⟨⟨by decide +kernel, by decide +kernel⟩, List.mem_of_getElem? (i := 96) (by decide +kernel), List.mem_of_getElem? (i := 489) (by decide +kernel), List.mem_of_getElem? (i := 490) (by decide +kernel)⟩
theorem lw_p31 : lw_okq (⟨"SitterCircle$Visits", "has", "(I)Z"⟩, 4) := ⟨⟨by decide +kernel, by decide +kernel⟩, List.mem_of_getElem? (i := 96) (by decide +kernel), List.mem_of_getElem? (i := 501) (by decide +kernel), List.mem_of_getElem? (i := 502) (by decide +kernel)⟩
def lw_privs_2 : List (MethodName × Nat) := [(⟨"SitterCircle$Lawbook", "lawOf", "(II)I"⟩, 3), (⟨"SitterCircle$Lawbook", "textOf", "(I)I"⟩, 3), (⟨"SitterCircle$Purse", "dropBefore", "(I)I"⟩, 4), (⟨"SitterCircle$Purse", "removeOldestHeaps", "(I)V"⟩, 4), (⟨"SitterCircle$Lawbook", "latestDay", "()I"⟩, 3), (⟨"SitterCircle$Purse", "put", "(II)V"⟩, 4), (⟨"SitterCircle$Purse", "insertHeap", "(III)V"⟩, 4), (⟨"SitterCircle", "familyAt", "(I)LSitterCircle$Family;"⟩, 14), (⟨"SitterCircle$Visits", "areOf", "(I)Z"⟩, 4), (⟨"SitterCircle$Family", "doesBar", "(I)Z"⟩, 5), (⟨"SitterCircle$Family", "setBar", "(IZ)V"⟩, 5), (⟨"SitterCircle$Purse", "oldestDay", "()I"⟩, 4), (⟨"SitterCircle$Purse", "notesOfOldestDay", "()I"⟩, 4), (⟨"SitterCircle", "addVisit", "(LSitterCircle$Visits;III)I"⟩, 14), (⟨"SitterCircle$Visits", "add", "(III)Z"⟩, 4), (⟨"SitterCircle$Visits", "has", "(I)Z"⟩, 4)]
theorem lw_r2 : ∀ q ∈ lw_privs_2, lw_okq q := List.forall_mem_cons.mpr ⟨lw_p16, List.forall_mem_cons.mpr ⟨lw_p17, List.forall_mem_cons.mpr ⟨lw_p18, List.forall_mem_cons.mpr ⟨lw_p19, List.forall_mem_cons.mpr ⟨lw_p20, List.forall_mem_cons.mpr ⟨lw_p21, List.forall_mem_cons.mpr ⟨lw_p22, List.forall_mem_cons.mpr ⟨lw_p23, List.forall_mem_cons.mpr ⟨lw_p24, List.forall_mem_cons.mpr ⟨lw_p25, List.forall_mem_cons.mpr ⟨lw_p26, List.forall_mem_cons.mpr ⟨lw_p27, List.forall_mem_cons.mpr ⟨lw_p28, List.forall_mem_cons.mpr ⟨lw_p29, List.forall_mem_cons.mpr ⟨lw_p30, List.forall_mem_cons.mpr ⟨lw_p31, fun _ h => absurd h List.not_mem_nil⟩⟩⟩⟩⟩⟩⟩⟩⟩⟩⟩⟩⟩⟩⟩⟩
theorem lw_p32 : lw_okq (⟨"SitterCircle", "priceOf", "(I)I"⟩, 14) := ⟨⟨by decide +kernel, by decide +kernel⟩, List.mem_of_getElem? (i := 19) (by decide +kernel), List.mem_of_getElem? (i := 505) (by decide +kernel), List.mem_of_getElem? (i := 506) (by decide +kernel)⟩
theorem lw_p33 : lw_okq (⟨"SitterCircle$Visits", "fromOf", "(I)I"⟩, 4) := ⟨⟨by decide +kernel, by decide +kernel⟩, List.mem_of_getElem? (i := 96) (by decide +kernel), List.mem_of_getElem? (i := 509) (by decide +kernel), List.mem_of_getElem? (i := 510) (by decide +kernel)⟩
theorem lw_p34 : lw_okq (⟨"SitterCircle$Visits", "toOf", "(I)I"⟩, 4) := ⟨⟨by decide +kernel, by decide +kernel⟩, List.mem_of_getElem? (i := 96) (by decide +kernel), List.mem_of_getElem? (i := 514) (by decide +kernel), List.mem_of_getElem? (i := 515) (by decide +kernel)⟩
theorem lw_p35 : lw_okq (⟨"SitterCircle", "areFitting", "(III)Z"⟩, 14) := ⟨⟨by decide +kernel, by decide +kernel⟩, List.mem_of_getElem? (i := 19) (by decide +kernel), List.mem_of_getElem? (i := 525) (by decide +kernel), List.mem_of_getElem? (i := 526) (by decide +kernel)⟩
theorem lw_p36 : lw_okq (⟨"SitterCircle$Visits", "familyOf", "(I)I"⟩, 4) := ⟨⟨by decide +kernel, by decide +kernel⟩, List.mem_of_getElem? (i := 96) (by decide +kernel), List.mem_of_getElem? (i := 529) (by decide +kernel), List.mem_of_getElem? (i := 530) (by decide +kernel)⟩
theorem lw_p37 : lw_okq (⟨"SitterCircle$Family", "wouldOwe", "(I)I"⟩, 5) := ⟨⟨by decide +kernel, by decide +kernel⟩, List.mem_of_getElem? (i := 377) (by decide +kernel), List.mem_of_getElem? (i := 533) (by decide +kernel), List.mem_of_getElem? (i := 534) (by decide +kernel)⟩
theorem lw_p38 : lw_okq (⟨"SitterCircle", "mostPairs", "(I)I"⟩, 14) := ⟨⟨by decide +kernel, by decide +kernel⟩, List.mem_of_getElem? (i := 19) (by decide +kernel), List.mem_of_getElem? (i := 542) (by decide +kernel), List.mem_of_getElem? (i := 543) (by decide +kernel)⟩
theorem lw_p39 : lw_okq (⟨"SitterCircle", "lookForFits", "(I)V"⟩, 14) := ⟨⟨by decide +kernel, by decide +kernel⟩, List.mem_of_getElem? (i := 19) (by decide +kernel), List.mem_of_getElem? (i := 546) (by decide +kernel), List.mem_of_getElem? (i := 547) (by decide +kernel)⟩
theorem lw_p40 : lw_okq (⟨"SitterCircle$Matcher", "begin", "(II)V"⟩, 8) := ⟨⟨by decide +kernel, by decide +kernel⟩, List.mem_of_getElem? (i := 116) (by decide +kernel), List.mem_of_getElem? (i := 550) (by decide +kernel), List.mem_of_getElem? (i := 551) (by decide +kernel)⟩
theorem lw_p41 : lw_okq (⟨"SitterCircle$Matcher", "addFit", "(II)V"⟩, 8) := ⟨⟨by decide +kernel, by decide +kernel⟩, List.mem_of_getElem? (i := 116) (by decide +kernel), List.mem_of_getElem? (i := 556) (by decide +kernel), List.mem_of_getElem? (i := 557) (by decide +kernel)⟩
theorem lw_p42 : lw_okq (⟨"SitterCircle$Matcher", "mostPairsOfAll", "()I"⟩, 8) := ⟨⟨by decide +kernel, by decide +kernel⟩, List.mem_of_getElem? (i := 116) (by decide +kernel), List.mem_of_getElem? (i := 560) (by decide +kernel), List.mem_of_getElem? (i := 561) (by decide +kernel)⟩
theorem lw_p43 : lw_okq (⟨"SitterCircle$Matcher", "allOffers", "()I"⟩, 8) := ⟨⟨by decide +kernel, by decide +kernel⟩, List.mem_of_getElem? (i := 116) (by decide +kernel), List.mem_of_getElem? (i := 564) (by decide +kernel), List.mem_of_getElem? (i := 565) (by decide +kernel)⟩
theorem lw_p44 : lw_okq (⟨"SitterCircle$Matcher", "mostPairsFrom", "(II)I"⟩, 8) := ⟨⟨by decide +kernel, by decide +kernel⟩, List.mem_of_getElem? (i := 116) (by decide +kernel), List.mem_of_getElem? (i := 568) (by decide +kernel), List.mem_of_getElem? (i := 569) (by decide +kernel)⟩
theorem lw_p45 : lw_okq (⟨"SitterCircle$Matcher", "takeOne", "(III)Z"⟩, 8) := ⟨⟨by decide +kernel, by decide +kernel⟩, List.mem_of_getElem? (i := 116) (by decide +kernel), List.mem_of_getElem? (i := 572) (by decide +kernel), List.mem_of_getElem? (i := 573) (by decide +kernel)⟩
theorem lw_p46 : lw_okq (⟨"SitterCircle", "findTheMatch", "()V"⟩, 14) := ⟨⟨by decide +kernel, by decide +kernel⟩, List.mem_of_getElem? (i := 19) (by decide +kernel), List.mem_of_getElem? (i := 580) (by decide +kernel), List.mem_of_getElem? (i := 581) (by decide +kernel)⟩
theorem lw_p47 : lw_okq (⟨"SitterCircle$Matcher", "match", "()V"⟩, 8) := ⟨⟨by decide +kernel, by decide +kernel⟩, List.mem_of_getElem? (i := 116) (by decide +kernel), List.mem_of_getElem? (i := 584) (by decide +kernel), List.mem_of_getElem? (i := 585) (by decide +kernel)⟩
def lw_privs_3 : List (MethodName × Nat) := [(⟨"SitterCircle", "priceOf", "(I)I"⟩, 14), (⟨"SitterCircle$Visits", "fromOf", "(I)I"⟩, 4), (⟨"SitterCircle$Visits", "toOf", "(I)I"⟩, 4), (⟨"SitterCircle", "areFitting", "(III)Z"⟩, 14), (⟨"SitterCircle$Visits", "familyOf", "(I)I"⟩, 4), (⟨"SitterCircle$Family", "wouldOwe", "(I)I"⟩, 5), (⟨"SitterCircle", "mostPairs", "(I)I"⟩, 14), (⟨"SitterCircle", "lookForFits", "(I)V"⟩, 14), (⟨"SitterCircle$Matcher", "begin", "(II)V"⟩, 8), (⟨"SitterCircle$Matcher", "addFit", "(II)V"⟩, 8), (⟨"SitterCircle$Matcher", "mostPairsOfAll", "()I"⟩, 8), (⟨"SitterCircle$Matcher", "allOffers", "()I"⟩, 8), (⟨"SitterCircle$Matcher", "mostPairsFrom", "(II)I"⟩, 8), (⟨"SitterCircle$Matcher", "takeOne", "(III)Z"⟩, 8), (⟨"SitterCircle", "findTheMatch", "()V"⟩, 14), (⟨"SitterCircle$Matcher", "match", "()V"⟩, 8)]
theorem lw_r3 : ∀ q ∈ lw_privs_3, lw_okq q := List.forall_mem_cons.mpr ⟨lw_p32, List.forall_mem_cons.mpr ⟨lw_p33, List.forall_mem_cons.mpr ⟨lw_p34, List.forall_mem_cons.mpr ⟨lw_p35, List.forall_mem_cons.mpr ⟨lw_p36, List.forall_mem_cons.mpr ⟨lw_p37, List.forall_mem_cons.mpr ⟨lw_p38, List.forall_mem_cons.mpr ⟨lw_p39, List.forall_mem_cons.mpr ⟨lw_p40, List.forall_mem_cons.mpr ⟨lw_p41, List.forall_mem_cons.mpr ⟨lw_p42, List.forall_mem_cons.mpr ⟨lw_p43, List.forall_mem_cons.mpr ⟨lw_p44, List.forall_mem_cons.mpr ⟨lw_p45, List.forall_mem_cons.mpr ⟨lw_p46, List.forall_mem_cons.mpr ⟨lw_p47, fun _ h => absurd h List.not_mem_nil⟩⟩⟩⟩⟩⟩⟩⟩⟩⟩⟩⟩⟩⟩⟩⟩
theorem lw_p48 : lw_okq (⟨"SitterCircle$Matcher", "leastOffer", "(III)I"⟩, 8) := ⟨⟨by decide +kernel, by decide +kernel⟩, List.mem_of_getElem? (i := 116) (by decide +kernel), List.mem_of_getElem? (i := 588) (by decide +kernel), List.mem_of_getElem? (i := 589) (by decide +kernel)⟩
theorem lw_p49 : lw_okq (⟨"SitterCircle$Matcher", "offerOf", "(I)I"⟩, 8) := ⟨⟨by decide +kernel, by decide +kernel⟩, List.mem_of_getElem? (i := 116) (by decide +kernel), List.mem_of_getElem? (i := 592) (by decide +kernel), List.mem_of_getElem? (i := 593) (by decide +kernel)⟩
theorem lw_p50 : lw_okq (⟨"SitterCircle$Matcher", "reach", "()V"⟩, 8) := ⟨⟨by decide +kernel, by decide +kernel⟩, List.mem_of_getElem? (i := 116) (by decide +kernel), List.mem_of_getElem? (i := 600) (by decide +kernel), List.mem_of_getElem? (i := 601) (by decide +kernel)⟩
theorem lw_p51 : lw_okq (⟨"SitterCircle$Matcher", "reachFurther", "()V"⟩, 8) := ⟨⟨by decide +kernel, by decide +kernel⟩, List.mem_of_getElem? (i := 116) (by decide +kernel), List.mem_of_getElem? (i := 604) (by decide +kernel), List.mem_of_getElem? (i := 605) (by decide +kernel)⟩
theorem lw_p52 : lw_okq (⟨"SitterCircle$Matcher", "asksNotReached", "()I"⟩, 8) := ⟨⟨by decide +kernel, by decide +kernel⟩, List.mem_of_getElem? (i := 116) (by decide +kernel), List.mem_of_getElem? (i := 608) (by decide +kernel), List.mem_of_getElem? (i := 609) (by decide +kernel)⟩
theorem lw_p53 : lw_okq (⟨"SitterCircle", "pay", "(LSitterCircle$Family;LSitterCircle$Family;I)V"⟩, 14) := ⟨⟨by decide +kernel, by decide +kernel⟩, List.mem_of_getElem? (i := 19) (by decide +kernel), List.mem_of_getElem? (i := 620) (by decide +kernel), List.mem_of_getElem? (i := 621) (by decide +kernel)⟩
theorem lw_p54 : lw_okq (⟨"SitterCircle$Purse", "moveOldest", "(ILSitterCircle$Purse;)I"⟩, 4) := ⟨⟨by decide +kernel, by decide +kernel⟩, List.mem_of_getElem? (i := 346) (by decide +kernel), List.mem_of_getElem? (i := 624) (by decide +kernel), List.mem_of_getElem? (i := 625) (by decide +kernel)⟩
theorem lw_p55 : lw_okq (⟨"SitterCircle$Family", "settle", "()I"⟩, 5) := ⟨⟨by decide +kernel, by decide +kernel⟩, List.mem_of_getElem? (i := 377) (by decide +kernel), List.mem_of_getElem? (i := 631) (by decide +kernel), List.mem_of_getElem? (i := 632) (by decide +kernel)⟩
theorem lw_p56 : lw_okq (⟨"SitterCircle$Purse", "dropNewest", "(I)V"⟩, 4) := ⟨⟨by decide +kernel, by decide +kernel⟩, List.mem_of_getElem? (i := 346) (by decide +kernel), List.mem_of_getElem? (i := 636) (by decide +kernel), List.mem_of_getElem? (i := 637) (by decide +kernel)⟩
theorem lw_p57 : lw_okq (⟨"SitterCircle$Visits", "remove", "(I)V"⟩, 4) := ⟨⟨by decide +kernel, by decide +kernel⟩, List.mem_of_getElem? (i := 96) (by decide +kernel), List.mem_of_getElem? (i := 640) (by decide +kernel), List.mem_of_getElem? (i := 641) (by decide +kernel)⟩
theorem lw_p58 : lw_okq (⟨"SitterCircle", "hold", "(II)Z"⟩, 14) := ⟨⟨by decide +kernel, by decide +kernel⟩, List.mem_of_getElem? (i := 19) (by decide +kernel), List.mem_of_getElem? (i := 648) (by decide +kernel), List.mem_of_getElem? (i := 649) (by decide +kernel)⟩
theorem lw_p59 : lw_okq (⟨"SitterCircle$Row", "has", "(I)Z"⟩, 2) := ⟨⟨by decide +kernel, by decide +kernel⟩, List.mem_of_getElem? (i := 661) (by decide +kernel), List.mem_of_getElem? (i := 681) (by decide +kernel), List.mem_of_getElem? (i := 682) (by decide +kernel)⟩
theorem lw_p60 : lw_okq (⟨"SitterCircle$Row", "write", "(II)V"⟩, 2) := ⟨⟨by decide +kernel, by decide +kernel⟩, List.mem_of_getElem? (i := 661) (by decide +kernel), List.mem_of_getElem? (i := 685) (by decide +kernel), List.mem_of_getElem? (i := 686) (by decide +kernel)⟩
theorem lw_p61 : lw_okq (⟨"SitterCircle", "offerFrom", "(LSitterCircle$Row;I)I"⟩, 14) := ⟨⟨by decide +kernel, by decide +kernel⟩, List.mem_of_getElem? (i := 19) (by decide +kernel), List.mem_of_getElem? (i := 694) (by decide +kernel), List.mem_of_getElem? (i := 695) (by decide +kernel)⟩
theorem lw_p62 : lw_okq (⟨"SitterCircle$Row", "at", "(I)I"⟩, 2) := ⟨⟨by decide +kernel, by decide +kernel⟩, List.mem_of_getElem? (i := 661) (by decide +kernel), List.mem_of_getElem? (i := 698) (by decide +kernel), List.mem_of_getElem? (i := 699) (by decide +kernel)⟩
theorem lw_p63 : lw_okq (⟨"SitterCircle", "familiesHere", "()I"⟩, 14) := ⟨⟨by decide +kernel, by decide +kernel⟩, List.mem_of_getElem? (i := 19) (by decide +kernel), List.mem_of_getElem? (i := 707) (by decide +kernel), List.mem_of_getElem? (i := 708) (by decide +kernel)⟩
def lw_privs_4 : List (MethodName × Nat) := [(⟨"SitterCircle$Matcher", "leastOffer", "(III)I"⟩, 8), (⟨"SitterCircle$Matcher", "offerOf", "(I)I"⟩, 8), (⟨"SitterCircle$Matcher", "reach", "()V"⟩, 8), (⟨"SitterCircle$Matcher", "reachFurther", "()V"⟩, 8), (⟨"SitterCircle$Matcher", "asksNotReached", "()I"⟩, 8), (⟨"SitterCircle", "pay", "(LSitterCircle$Family;LSitterCircle$Family;I)V"⟩, 14), (⟨"SitterCircle$Purse", "moveOldest", "(ILSitterCircle$Purse;)I"⟩, 4), (⟨"SitterCircle$Family", "settle", "()I"⟩, 5), (⟨"SitterCircle$Purse", "dropNewest", "(I)V"⟩, 4), (⟨"SitterCircle$Visits", "remove", "(I)V"⟩, 4), (⟨"SitterCircle", "hold", "(II)Z"⟩, 14), (⟨"SitterCircle$Row", "has", "(I)Z"⟩, 2), (⟨"SitterCircle$Row", "write", "(II)V"⟩, 2), (⟨"SitterCircle", "offerFrom", "(LSitterCircle$Row;I)I"⟩, 14), (⟨"SitterCircle$Row", "at", "(I)I"⟩, 2), (⟨"SitterCircle", "familiesHere", "()I"⟩, 14)]
theorem lw_r4 : ∀ q ∈ lw_privs_4, lw_okq q := List.forall_mem_cons.mpr ⟨lw_p48, List.forall_mem_cons.mpr ⟨lw_p49, List.forall_mem_cons.mpr ⟨lw_p50, List.forall_mem_cons.mpr ⟨lw_p51, List.forall_mem_cons.mpr ⟨lw_p52, List.forall_mem_cons.mpr ⟨lw_p53, List.forall_mem_cons.mpr ⟨lw_p54, List.forall_mem_cons.mpr ⟨lw_p55, List.forall_mem_cons.mpr ⟨lw_p56, List.forall_mem_cons.mpr ⟨lw_p57, List.forall_mem_cons.mpr ⟨lw_p58, List.forall_mem_cons.mpr ⟨lw_p59, List.forall_mem_cons.mpr ⟨lw_p60, List.forall_mem_cons.mpr ⟨lw_p61, List.forall_mem_cons.mpr ⟨lw_p62, List.forall_mem_cons.mpr ⟨lw_p63, fun _ h => absurd h List.not_mem_nil⟩⟩⟩⟩⟩⟩⟩⟩⟩⟩⟩⟩⟩⟩⟩⟩
theorem lw_p64 : lw_okq (⟨"SitterCircle", "sumTold", "(I)I"⟩, 14) := ⟨⟨by decide +kernel, by decide +kernel⟩, List.mem_of_getElem? (i := 19) (by decide +kernel), List.mem_of_getElem? (i := 711) (by decide +kernel), List.mem_of_getElem? (i := 712) (by decide +kernel)⟩
theorem lw_p65 : lw_okq (⟨"SitterCircleModel", "next", "()V"⟩, 41) := ⟨⟨by decide +kernel, by decide +kernel⟩, List.mem_of_getElem? (i := 716) (by decide +kernel), List.mem_of_getElem? (i := 864) (by decide +kernel), List.mem_of_getElem? (i := 865) (by decide +kernel)⟩
theorem lw_p66 : lw_okq (⟨"SitterCircleModel", "look", "(I)I"⟩, 41) := ⟨⟨by decide +kernel, by decide +kernel⟩, List.mem_of_getElem? (i := 716) (by decide +kernel), List.mem_of_getElem? (i := 868) (by decide +kernel), List.mem_of_getElem? (i := 869) (by decide +kernel)⟩
theorem lw_p67 : lw_okq (⟨"SitterCircleModel", "nameNow", "()I"⟩, 41) := ⟨⟨by decide +kernel, by decide +kernel⟩, List.mem_of_getElem? (i := 716) (by decide +kernel), List.mem_of_getElem? (i := 874) (by decide +kernel), List.mem_of_getElem? (i := 875) (by decide +kernel)⟩
theorem lw_p68 : lw_okq (⟨"SitterCircleModel", "isName", "(IIIIII)Z"⟩, 41) := ⟨⟨by decide +kernel, by decide +kernel⟩, List.mem_of_getElem? (i := 716) (by decide +kernel), List.mem_of_getElem? (i := 878) (by decide +kernel), List.mem_of_getElem? (i := 879) (by decide +kernel)⟩
theorem lw_p69 : lw_okq (⟨"SitterCircleModel", "fails", "(II)V"⟩, 41) := ⟨⟨by decide +kernel, by decide +kernel⟩, List.mem_of_getElem? (i := 716) (by decide +kernel), List.mem_of_getElem? (i := 882) (by decide +kernel), List.mem_of_getElem? (i := 883) (by decide +kernel)⟩
theorem lw_p70 : lw_okq (⟨"SitterCircleModel", "readLaw", "()V"⟩, 41) := ⟨⟨by decide +kernel, by decide +kernel⟩, List.mem_of_getElem? (i := 716) (by decide +kernel), List.mem_of_getElem? (i := 888) (by decide +kernel), List.mem_of_getElem? (i := 889) (by decide +kernel)⟩
theorem lw_p71 : lw_okq (⟨"SitterCircleModel", "expires", "()V"⟩, 41) := ⟨⟨by decide +kernel, by decide +kernel⟩, List.mem_of_getElem? (i := 716) (by decide +kernel), List.mem_of_getElem? (i := 892) (by decide +kernel), List.mem_of_getElem? (i := 893) (by decide +kernel)⟩
theorem lw_p72 : lw_okq (⟨"SitterCircleModel", "law", "(II)I"⟩, 41) := ⟨⟨by decide +kernel, by decide +kernel⟩, List.mem_of_getElem? (i := 716) (by decide +kernel), List.mem_of_getElem? (i := 896) (by decide +kernel), List.mem_of_getElem? (i := 897) (by decide +kernel)⟩
theorem lw_p73 : lw_okq (⟨"SitterCircleModel", "textOf", "(I)I"⟩, 41) := ⟨⟨by decide +kernel, by decide +kernel⟩, List.mem_of_getElem? (i := 716) (by decide +kernel), List.mem_of_getElem? (i := 900) (by decide +kernel), List.mem_of_getElem? (i := 901) (by decide +kernel)⟩
theorem lw_p74 : lw_okq (⟨"SitterCircleModel", "isFamily", "(I)Z"⟩, 41) := ⟨⟨by decide +kernel, by decide +kernel⟩, List.mem_of_getElem? (i := 716) (by decide +kernel), List.mem_of_getElem? (i := 930) (by decide +kernel), List.mem_of_getElem? (i := 931) (by decide +kernel)⟩
theorem lw_p75 : lw_okq (⟨"SitterCircleModel", "has", "(I)I"⟩, 41) := ⟨⟨by decide +kernel, by decide +kernel⟩, List.mem_of_getElem? (i := 716) (by decide +kernel), List.mem_of_getElem? (i := 934) (by decide +kernel), List.mem_of_getElem? (i := 935) (by decide +kernel)⟩
theorem lw_p76 : lw_okq (⟨"SitterCircleModel", "oldest", "(I)I"⟩, 41) := ⟨⟨by decide +kernel, by decide +kernel⟩, List.mem_of_getElem? (i := 716) (by decide +kernel), List.mem_of_getElem? (i := 946) (by decide +kernel), List.mem_of_getElem? (i := 947) (by decide +kernel)⟩
theorem lw_p77 : lw_okq (⟨"SitterCircleModel", "isSpan", "(III)Z"⟩, 41) := ⟨⟨by decide +kernel, by decide +kernel⟩, List.mem_of_getElem? (i := 716) (by decide +kernel), List.mem_of_getElem? (i := 954) (by decide +kernel), List.mem_of_getElem? (i := 955) (by decide +kernel)⟩
theorem lw_p78 : lw_okq (⟨"SitterCircleModel", "priceOf", "(I)I"⟩, 41) := ⟨⟨by decide +kernel, by decide +kernel⟩, List.mem_of_getElem? (i := 716) (by decide +kernel), List.mem_of_getElem? (i := 966) (by decide +kernel), List.mem_of_getElem? (i := 967) (by decide +kernel)⟩
theorem lw_p79 : lw_okq (⟨"SitterCircleModel", "isFit", "(III)Z"⟩, 41) := ⟨⟨by decide +kernel, by decide +kernel⟩, List.mem_of_getElem? (i := 716) (by decide +kernel), List.mem_of_getElem? (i := 974) (by decide +kernel), List.mem_of_getElem? (i := 975) (by decide +kernel)⟩
def lw_privs_5 : List (MethodName × Nat) := [(⟨"SitterCircle", "sumTold", "(I)I"⟩, 14), (⟨"SitterCircleModel", "next", "()V"⟩, 41), (⟨"SitterCircleModel", "look", "(I)I"⟩, 41), (⟨"SitterCircleModel", "nameNow", "()I"⟩, 41), (⟨"SitterCircleModel", "isName", "(IIIIII)Z"⟩, 41), (⟨"SitterCircleModel", "fails", "(II)V"⟩, 41), (⟨"SitterCircleModel", "readLaw", "()V"⟩, 41), (⟨"SitterCircleModel", "expires", "()V"⟩, 41), (⟨"SitterCircleModel", "law", "(II)I"⟩, 41), (⟨"SitterCircleModel", "textOf", "(I)I"⟩, 41), (⟨"SitterCircleModel", "isFamily", "(I)Z"⟩, 41), (⟨"SitterCircleModel", "has", "(I)I"⟩, 41), (⟨"SitterCircleModel", "oldest", "(I)I"⟩, 41), (⟨"SitterCircleModel", "isSpan", "(III)Z"⟩, 41), (⟨"SitterCircleModel", "priceOf", "(I)I"⟩, 41), (⟨"SitterCircleModel", "isFit", "(III)Z"⟩, 41)]
theorem lw_r5 : ∀ q ∈ lw_privs_5, lw_okq q := List.forall_mem_cons.mpr ⟨lw_p64, List.forall_mem_cons.mpr ⟨lw_p65, List.forall_mem_cons.mpr ⟨lw_p66, List.forall_mem_cons.mpr ⟨lw_p67, List.forall_mem_cons.mpr ⟨lw_p68, List.forall_mem_cons.mpr ⟨lw_p69, List.forall_mem_cons.mpr ⟨lw_p70, List.forall_mem_cons.mpr ⟨lw_p71, List.forall_mem_cons.mpr ⟨lw_p72, List.forall_mem_cons.mpr ⟨lw_p73, List.forall_mem_cons.mpr ⟨lw_p74, List.forall_mem_cons.mpr ⟨lw_p75, List.forall_mem_cons.mpr ⟨lw_p76, List.forall_mem_cons.mpr ⟨lw_p77, List.forall_mem_cons.mpr ⟨lw_p78, List.forall_mem_cons.mpr ⟨lw_p79, fun _ h => absurd h List.not_mem_nil⟩⟩⟩⟩⟩⟩⟩⟩⟩⟩⟩⟩⟩⟩⟩⟩
theorem lw_p80 : lw_okq (⟨"SitterCircleModel", "may", "(III)Z"⟩, 41) := ⟨⟨by decide +kernel, by decide +kernel⟩, List.mem_of_getElem? (i := 716) (by decide +kernel), List.mem_of_getElem? (i := 978) (by decide +kernel), List.mem_of_getElem? (i := 979) (by decide +kernel)⟩
theorem lw_p81 : lw_okq (⟨"SitterCircleModel", "matches", "()I"⟩, 41) := ⟨⟨by decide +kernel, by decide +kernel⟩, List.mem_of_getElem? (i := 716) (by decide +kernel), List.mem_of_getElem? (i := 986) (by decide +kernel), List.mem_of_getElem? (i := 987) (by decide +kernel)⟩
theorem lw_p82 : lw_okq (⟨"SitterCircleModel", "findFits", "(I)V"⟩, 41) := ⟨⟨by decide +kernel, by decide +kernel⟩, List.mem_of_getElem? (i := 716) (by decide +kernel), List.mem_of_getElem? (i := 990) (by decide +kernel), List.mem_of_getElem? (i := 991) (by decide +kernel)⟩
theorem lw_p83 : lw_okq (⟨"SitterCircleModel", "most", "(II)I"⟩, 41) := ⟨⟨by decide +kernel, by decide +kernel⟩, List.mem_of_getElem? (i := 716) (by decide +kernel), List.mem_of_getElem? (i := 994) (by decide +kernel), List.mem_of_getElem? (i := 995) (by decide +kernel)⟩
theorem lw_p84 : lw_okq (⟨"SitterCircleModel", "grows", "(II)Z"⟩, 41) := ⟨⟨by decide +kernel, by decide +kernel⟩, List.mem_of_getElem? (i := 716) (by decide +kernel), List.mem_of_getElem? (i := 998) (by decide +kernel), List.mem_of_getElem? (i := 999) (by decide +kernel)⟩
theorem lw_p85 : lw_okq (⟨"SitterCircleModel", "change", "(I)V"⟩, 41) := ⟨⟨by decide +kernel, by decide +kernel⟩, List.mem_of_getElem? (i := 716) (by decide +kernel), List.mem_of_getElem? (i := 1002) (by decide +kernel), List.mem_of_getElem? (i := 1003) (by decide +kernel)⟩
theorem lw_p86 : lw_okq (⟨"SitterCircleModel", "pays", "(III)V"⟩, 41) := ⟨⟨by decide +kernel, by decide +kernel⟩, List.mem_of_getElem? (i := 716) (by decide +kernel), List.mem_of_getElem? (i := 1023) (by decide +kernel), List.mem_of_getElem? (i := 1024) (by decide +kernel)⟩
def lw_privs_6 : List (MethodName × Nat) := [(⟨"SitterCircleModel", "may", "(III)Z"⟩, 41), (⟨"SitterCircleModel", "matches", "()I"⟩, 41), (⟨"SitterCircleModel", "findFits", "(I)V"⟩, 41), (⟨"SitterCircleModel", "most", "(II)I"⟩, 41), (⟨"SitterCircleModel", "grows", "(II)Z"⟩, 41), (⟨"SitterCircleModel", "change", "(I)V"⟩, 41), (⟨"SitterCircleModel", "pays", "(III)V"⟩, 41)]
theorem lw_r6 : ∀ q ∈ lw_privs_6, lw_okq q := List.forall_mem_cons.mpr ⟨lw_p80, List.forall_mem_cons.mpr ⟨lw_p81, List.forall_mem_cons.mpr ⟨lw_p82, List.forall_mem_cons.mpr ⟨lw_p83, List.forall_mem_cons.mpr ⟨lw_p84, List.forall_mem_cons.mpr ⟨lw_p85, List.forall_mem_cons.mpr ⟨lw_p86, fun _ h => absurd h List.not_mem_nil⟩⟩⟩⟩⟩⟩⟩
def lw_privs : List (MethodName × Nat) := lw_privs_1 ++ (lw_privs_2 ++ (lw_privs_3 ++ (lw_privs_4 ++ (lw_privs_5 ++ (lw_privs_6)))))
def lw_tbl : List Cond := k2_sels lw_privs ++ tables_1
theorem lw_privs_ok : ∀ q ∈ lw_privs, lw_okq q := by
  show ∀ q ∈ lw_privs_1 ++ (lw_privs_2 ++ (lw_privs_3 ++ (lw_privs_4 ++ (lw_privs_5 ++ (lw_privs_6))))), lw_okq q
  exact List.forall_mem_append.mpr ⟨lw_r1, List.forall_mem_append.mpr ⟨lw_r2, List.forall_mem_append.mpr ⟨lw_r3, List.forall_mem_append.mpr ⟨lw_r4, List.forall_mem_append.mpr ⟨lw_r5, lw_r6⟩⟩⟩⟩⟩
end
section
def RX0 : String := "SitterCircle$Family"
def TX0 : u_T := fun k => match k with
  | 0 => ("SitterCircle$Family", "purse", "LSitterCircle$Purse;", true)
  | 1 => ("SitterCircle$Family", "owes", "I", false)
  | 2 => ("SitterCircle$Family", "barred", "I", false)
  | 3 => ("SitterCircle$Family", "halfHoursSat", "I", false)
  | _ => ("SitterCircle$Family", "timesSatFor", "I", false)
def tyX0 : Nat → FieldType := fun k => match k with
  | 0 => .object "SitterCircle$Purse"
  | 1 => .int
  | 2 => .int
  | 3 => .int
  | _ => .int
abbrev wsX00 : List Cond := u_ws RX0 TX0 5
theorem nmX0 : ∀ a, a < 5 → ∀ b, b < 5 → a ≠ b → (TX0 a).2.1 ≠ (TX0 b).2.1 := by decide +kernel
theorem tyX0_ok : ∀ k, k < 5 → parseFieldDescriptor (TX0 k).2.2.1 = some (tyX0 k) := by decide +kernel
abbrev cX0_init : ByteArray := prog_2_method_1_code
def yX0_init : MethodName := ⟨RX0, "<init>", "()V"⟩
abbrev cX0_doesBar : ByteArray := prog_2_method_2_code
def yX0_doesBar : MethodName := ⟨RX0, "doesBar", "(I)Z"⟩
abbrev cX0_setBar : ByteArray := prog_2_method_3_code
def yX0_setBar : MethodName := ⟨RX0, "setBar", "(IZ)V"⟩
abbrev cX0_wouldOwe : ByteArray := prog_2_method_4_code
def yX0_wouldOwe : MethodName := ⟨RX0, "wouldOwe", "(I)I"⟩
abbrev cX0_settle : ByteArray := prog_2_method_5_code
def yX0_settle : MethodName := ⟨RX0, "settle", "()I"⟩
def RX1 : String := "SitterCircle$Lawbook"
def TX1 : u_T := fun k => match k with
  | 0 => ("SitterCircle$Lawbook", "days", "[I", true)
  | 1 => ("SitterCircle$Lawbook", "laws", "[[I", true)
  | _ => ("SitterCircle$Lawbook", "size", "I", false)
def tyX1 : Nat → FieldType := fun k => match k with
  | 0 => .array .int
  | 1 => .array (.array .int)
  | _ => .int
abbrev wsX10 : List Cond := u_ws RX1 TX1 3
theorem nmX1 : ∀ a, a < 3 → ∀ b, b < 3 → a ≠ b → (TX1 a).2.1 ≠ (TX1 b).2.1 := by decide +kernel
theorem tyX1_ok : ∀ k, k < 3 → parseFieldDescriptor (TX1 k).2.2.1 = some (tyX1 k) := by decide +kernel
abbrev cX1_init : ByteArray := prog_3_method_1_code
def yX1_init : MethodName := ⟨RX1, "<init>", "()V"⟩
abbrev cX1_isFull : ByteArray := prog_3_method_2_code
def yX1_isFull : MethodName := ⟨RX1, "isFull", "()Z"⟩
abbrev cX1_add : ByteArray := prog_3_method_3_code
def yX1_add : MethodName := ⟨RX1, "add", "(I[I)I"⟩
abbrev cX1_latestDay : ByteArray := prog_3_method_4_code
def yX1_latestDay : MethodName := ⟨RX1, "latestDay", "()I"⟩
abbrev cX1_textOf : ByteArray := prog_3_method_5_code
def yX1_textOf : MethodName := ⟨RX1, "textOf", "(I)I"⟩
abbrev cX1_lawOf : ByteArray := prog_3_method_6_code
def yX1_lawOf : MethodName := ⟨RX1, "lawOf", "(II)I"⟩
def RX2 : String := "SitterCircle$Matcher"
def TX2 : u_T := fun k => match k with
  | 0 => ("SitterCircle$Matcher", "fitting", "[I", true)
  | 1 => ("SitterCircle$Matcher", "given", "[I", true)
  | 2 => ("SitterCircle$Matcher", "takers", "[I", true)
  | 3 => ("SitterCircle$Matcher", "askCount", "I", false)
  | 4 => ("SitterCircle$Matcher", "offerCount", "I", false)
  | 5 => ("SitterCircle$Matcher", "tried", "I", false)
  | 6 => ("SitterCircle$Matcher", "reachedAsks", "I", false)
  | _ => ("SitterCircle$Matcher", "reachedOffers", "I", false)
def tyX2 : Nat → FieldType := fun k => match k with
  | 0 => .array .int
  | 1 => .array .int
  | 2 => .array .int
  | 3 => .int
  | 4 => .int
  | 5 => .int
  | 6 => .int
  | _ => .int
abbrev wsX20 : List Cond := u_ws RX2 TX2 8
theorem nmX2 : ∀ a, a < 8 → ∀ b, b < 8 → a ≠ b → (TX2 a).2.1 ≠ (TX2 b).2.1 := by decide +kernel
theorem tyX2_ok : ∀ k, k < 8 → parseFieldDescriptor (TX2 k).2.2.1 = some (tyX2 k) := by decide +kernel
abbrev cX2_init : ByteArray := prog_4_method_1_code
def yX2_init : MethodName := ⟨RX2, "<init>", "()V"⟩
abbrev cX2_begin : ByteArray := prog_4_method_2_code
def yX2_begin : MethodName := ⟨RX2, "begin", "(II)V"⟩
abbrev cX2_addFit : ByteArray := prog_4_method_3_code
def yX2_addFit : MethodName := ⟨RX2, "addFit", "(II)V"⟩
abbrev cX2_offerOf : ByteArray := prog_4_method_4_code
def yX2_offerOf : MethodName := ⟨RX2, "offerOf", "(I)I"⟩
abbrev cX2_mostPairsOfAll : ByteArray := prog_4_method_5_code
def yX2_mostPairsOfAll : MethodName := ⟨RX2, "mostPairsOfAll", "()I"⟩
abbrev cX2_allOffers : ByteArray := prog_4_method_6_code
def yX2_allOffers : MethodName := ⟨RX2, "allOffers", "()I"⟩
abbrev cX2_mostPairsFrom : ByteArray := prog_4_method_7_code
def yX2_mostPairsFrom : MethodName := ⟨RX2, "mostPairsFrom", "(II)I"⟩
abbrev cX2_takeOne : ByteArray := prog_4_method_8_code
def yX2_takeOne : MethodName := ⟨RX2, "takeOne", "(III)Z"⟩
abbrev cX2_match : ByteArray := prog_4_method_9_code
def yX2_match : MethodName := ⟨RX2, "match", "()V"⟩
abbrev cX2_leastOffer : ByteArray := prog_4_method_10_code
def yX2_leastOffer : MethodName := ⟨RX2, "leastOffer", "(III)I"⟩
abbrev cX2_reach : ByteArray := prog_4_method_11_code
def yX2_reach : MethodName := ⟨RX2, "reach", "()V"⟩
abbrev cX2_reachFurther : ByteArray := prog_4_method_12_code
def yX2_reachFurther : MethodName := ⟨RX2, "reachFurther", "()V"⟩
abbrev cX2_asksNotReached : ByteArray := prog_4_method_13_code
def yX2_asksNotReached : MethodName := ⟨RX2, "asksNotReached", "()I"⟩
def RX3 : String := "SitterCircle$Purse"
def TX3 : u_T := fun k => match k with
  | 0 => ("SitterCircle$Purse", "days", "[I", false)
  | 1 => ("SitterCircle$Purse", "notes", "[I", false)
  | 2 => ("SitterCircle$Purse", "heaps", "I", false)
  | _ => ("SitterCircle$Purse", "total", "I", false)
def tyX3 : Nat → FieldType := fun k => match k with
  | 0 => .array .int
  | 1 => .array .int
  | 2 => .int
  | _ => .int
abbrev wsX30 : List Cond := u_ws RX3 TX3 4
theorem nmX3 : ∀ a, a < 4 → ∀ b, b < 4 → a ≠ b → (TX3 a).2.1 ≠ (TX3 b).2.1 := by decide +kernel
theorem tyX3_ok : ∀ k, k < 4 → parseFieldDescriptor (TX3 k).2.2.1 = some (tyX3 k) := by decide +kernel
abbrev cX3_init : ByteArray := prog_5_method_1_code
def yX3_init : MethodName := ⟨RX3, "<init>", "()V"⟩
abbrev cX3_oldestDay : ByteArray := prog_5_method_2_code
def yX3_oldestDay : MethodName := ⟨RX3, "oldestDay", "()I"⟩
abbrev cX3_notesOfOldestDay : ByteArray := prog_5_method_3_code
def yX3_notesOfOldestDay : MethodName := ⟨RX3, "notesOfOldestDay", "()I"⟩
abbrev cX3_put : ByteArray := prog_5_method_4_code
def yX3_put : MethodName := ⟨RX3, "put", "(II)V"⟩
abbrev cX3_insertHeap : ByteArray := prog_5_method_5_code
def yX3_insertHeap : MethodName := ⟨RX3, "insertHeap", "(III)V"⟩
abbrev cX3_moveOldest : ByteArray := prog_5_method_6_code
def yX3_moveOldest : MethodName := ⟨RX3, "moveOldest", "(ILSitterCircle$Purse;)I"⟩
abbrev cX3_dropNewest : ByteArray := prog_5_method_7_code
def yX3_dropNewest : MethodName := ⟨RX3, "dropNewest", "(I)V"⟩
abbrev cX3_dropBefore : ByteArray := prog_5_method_8_code
def yX3_dropBefore : MethodName := ⟨RX3, "dropBefore", "(I)I"⟩
abbrev cX3_removeOldestHeaps : ByteArray := prog_5_method_9_code
def yX3_removeOldestHeaps : MethodName := ⟨RX3, "removeOldestHeaps", "(I)V"⟩
def RX4 : String := "SitterCircle$Reader"
def TX4 : u_T := fun k => match k with
  | 0 => ("SitterCircle$Reader", "laws", "[I", true)
  | 1 => ("SitterCircle$Reader", "found", "I", false)
  | 2 => ("SitterCircle$Reader", "place", "I", false)
  | 3 => ("SitterCircle$Reader", "kind", "I", false)
  | 4 => ("SitterCircle$Reader", "value", "I", false)
  | 5 => ("SitterCircle$Reader", "start", "I", false)
  | _ => ("SitterCircle$Reader", "next", "I", false)
def tyX4 : Nat → FieldType := fun k => match k with
  | 0 => .array .int
  | 1 => .int
  | 2 => .int
  | 3 => .int
  | 4 => .int
  | 5 => .int
  | _ => .int
abbrev wsX40 : List Cond := u_ws RX4 TX4 7
theorem nmX4 : ∀ a, a < 7 → ∀ b, b < 7 → a ≠ b → (TX4 a).2.1 ≠ (TX4 b).2.1 := by decide +kernel
theorem tyX4_ok : ∀ k, k < 7 → parseFieldDescriptor (TX4 k).2.2.1 = some (tyX4 k) := by decide +kernel
abbrev cX4_init : ByteArray := prog_6_method_1_code
def yX4_init : MethodName := ⟨RX4, "<init>", "()V"⟩
abbrev cX4_read : ByteArray := prog_6_method_2_code
def yX4_read : MethodName := ⟨RX4, "read", "(LSitterCircle$Tape;)V"⟩
abbrev cX4_readLaw : ByteArray := prog_6_method_3_code
def yX4_readLaw : MethodName := ⟨RX4, "readLaw", "(LSitterCircle$Tape;)V"⟩
abbrev cX4_canStand : ByteArray := prog_6_method_4_code
def yX4_canStand : MethodName := ⟨RX4, "canStand", "(I)Z"⟩
abbrev cX4_fail : ByteArray := prog_6_method_5_code
def yX4_fail : MethodName := ⟨RX4, "fail", "(I)V"⟩
abbrev cX4_scan : ByteArray := prog_6_method_6_code
def yX4_scan : MethodName := ⟨RX4, "scan", "(LSitterCircle$Tape;)V"⟩
abbrev cX4_skipBlanks : ByteArray := prog_6_method_7_code
def yX4_skipBlanks : MethodName := ⟨RX4, "skipBlanks", "(LSitterCircle$Tape;)V"⟩
abbrev cX4_scanName : ByteArray := prog_6_method_8_code
def yX4_scanName : MethodName := ⟨RX4, "scanName", "(LSitterCircle$Tape;)V"⟩
abbrev cX4_nameOf : ByteArray := prog_6_method_9_code
def yX4_nameOf : MethodName := ⟨RX4, "nameOf", "(I)Ljava/lang/String;"⟩
abbrev cX4_scanNumber : ByteArray := prog_6_method_10_code
def yX4_scanNumber : MethodName := ⟨RX4, "scanNumber", "(LSitterCircle$Tape;)V"⟩
def RX5 : String := "SitterCircle$Row"
def TX5 : u_T := fun k => match k with
  | 0 => ("SitterCircle$Row", "lane", "I", true)
  | _ => ("SitterCircle$Row", "cells", "[I", true)
def tyX5 : Nat → FieldType := fun k => match k with
  | 0 => .int
  | _ => .array .int
abbrev wsX50 : List Cond := u_ws RX5 TX5 2
theorem nmX5 : ∀ a, a < 2 → ∀ b, b < 2 → a ≠ b → (TX5 a).2.1 ≠ (TX5 b).2.1 := by decide +kernel
theorem tyX5_ok : ∀ k, k < 2 → parseFieldDescriptor (TX5 k).2.2.1 = some (tyX5 k) := by decide +kernel
abbrev cX5_init : ByteArray := prog_7_method_1_code
def yX5_init : MethodName := ⟨RX5, "<init>", "(II)V"⟩
abbrev cX5_has : ByteArray := prog_7_method_2_code
def yX5_has : MethodName := ⟨RX5, "has", "(I)Z"⟩
abbrev cX5_at : ByteArray := prog_7_method_3_code
def yX5_at : MethodName := ⟨RX5, "at", "(I)I"⟩
abbrev cX5_write : ByteArray := prog_7_method_4_code
def yX5_write : MethodName := ⟨RX5, "write", "(II)V"⟩
def RX6 : String := "SitterCircle$Tape"
def TX6 : u_T := fun k => match k with
  | 0 => ("SitterCircle$Tape", "bytes", "[B", true)
  | _ => ("SitterCircle$Tape", "length", "I", false)
def tyX6 : Nat → FieldType := fun k => match k with
  | 0 => .array .byte
  | _ => .int
abbrev wsX60 : List Cond := u_ws RX6 TX6 2
theorem nmX6 : ∀ a, a < 2 → ∀ b, b < 2 → a ≠ b → (TX6 a).2.1 ≠ (TX6 b).2.1 := by decide +kernel
theorem tyX6_ok : ∀ k, k < 2 → parseFieldDescriptor (TX6 k).2.2.1 = some (tyX6 k) := by decide +kernel
abbrev cX6_init : ByteArray := prog_8_method_1_code
def yX6_init : MethodName := ⟨RX6, "<init>", "()V"⟩
abbrev cX6_append : ByteArray := prog_8_method_2_code
def yX6_append : MethodName := ⟨RX6, "append", "(J)Z"⟩
abbrev cX6_at : ByteArray := prog_8_method_3_code
def yX6_at : MethodName := ⟨RX6, "at", "(I)I"⟩
abbrev cX6_isLetter : ByteArray := prog_8_method_4_code
def yX6_isLetter : MethodName := ⟨RX6, "isLetter", "(I)Z"⟩
abbrev cX6_isFigure : ByteArray := prog_8_method_5_code
def yX6_isFigure : MethodName := ⟨RX6, "isFigure", "(I)Z"⟩
abbrev cX6_spells : ByteArray := prog_8_method_6_code
def yX6_spells : MethodName := ⟨RX6, "spells", "(Ljava/lang/String;II)Z"⟩
def RX7 : String := "SitterCircle$Visits"
def TX7 : u_T := fun k => match k with
  | 0 => ("SitterCircle$Visits", "families", "[I", true)
  | 1 => ("SitterCircle$Visits", "froms", "[I", true)
  | 2 => ("SitterCircle$Visits", "tos", "[I", true)
  | _ => ("SitterCircle$Visits", "size", "I", false)
def tyX7 : Nat → FieldType := fun k => match k with
  | 0 => .array .int
  | 1 => .array .int
  | 2 => .array .int
  | _ => .int
abbrev wsX70 : List Cond := u_ws RX7 TX7 4
theorem nmX7 : ∀ a, a < 4 → ∀ b, b < 4 → a ≠ b → (TX7 a).2.1 ≠ (TX7 b).2.1 := by decide +kernel
theorem tyX7_ok : ∀ k, k < 4 → parseFieldDescriptor (TX7 k).2.2.1 = some (tyX7 k) := by decide +kernel
abbrev cX7_init : ByteArray := prog_9_method_1_code
def yX7_init : MethodName := ⟨RX7, "<init>", "()V"⟩
abbrev cX7_has : ByteArray := prog_9_method_2_code
def yX7_has : MethodName := ⟨RX7, "has", "(I)Z"⟩
abbrev cX7_familyOf : ByteArray := prog_9_method_3_code
def yX7_familyOf : MethodName := ⟨RX7, "familyOf", "(I)I"⟩
abbrev cX7_fromOf : ByteArray := prog_9_method_4_code
def yX7_fromOf : MethodName := ⟨RX7, "fromOf", "(I)I"⟩
abbrev cX7_toOf : ByteArray := prog_9_method_5_code
def yX7_toOf : MethodName := ⟨RX7, "toOf", "(I)I"⟩
abbrev cX7_add : ByteArray := prog_9_method_6_code
def yX7_add : MethodName := ⟨RX7, "add", "(III)Z"⟩
abbrev cX7_remove : ByteArray := prog_9_method_7_code
def yX7_remove : MethodName := ⟨RX7, "remove", "(I)V"⟩
abbrev cX7_areOf : ByteArray := prog_9_method_8_code
def yX7_areOf : MethodName := ⟨RX7, "areOf", "(I)Z"⟩
def RX8 : String := "SitterCircle"
def TX8 : u_T := fun k => match k with
  | 0 => ("SitterCircle", "tape", "LSitterCircle$Tape;", true)
  | 1 => ("SitterCircle", "reader", "LSitterCircle$Reader;", true)
  | 2 => ("SitterCircle", "lawbook", "LSitterCircle$Lawbook;", true)
  | 3 => ("SitterCircle", "families", "[LSitterCircle$Family;", true)
  | 4 => ("SitterCircle", "asked", "LSitterCircle$Visits;", true)
  | 5 => ("SitterCircle", "offered", "LSitterCircle$Visits;", true)
  | 6 => ("SitterCircle", "matcher", "LSitterCircle$Matcher;", true)
  | 7 => ("SitterCircle", "sheets", "[LSitterCircle$Row;", true)
  | 8 => ("SitterCircle", "familiesCame", "I", false)
  | 9 => ("SitterCircle", "today", "I", false)
  | 10 => ("SitterCircle", "latestFault", "I", false)
  | 11 => ("SitterCircle", "notesCame", "I", false)
  | 12 => ("SitterCircle", "notesExpired", "I", false)
  | _ => ("SitterCircle", "notesGivenUp", "I", false)
def tyX8 : Nat → FieldType := fun k => match k with
  | 0 => .object "SitterCircle$Tape"
  | 1 => .object "SitterCircle$Reader"
  | 2 => .object "SitterCircle$Lawbook"
  | 3 => .array (.object "SitterCircle$Family")
  | 4 => .object "SitterCircle$Visits"
  | 5 => .object "SitterCircle$Visits"
  | 6 => .object "SitterCircle$Matcher"
  | 7 => .array (.object "SitterCircle$Row")
  | 8 => .int
  | 9 => .int
  | 10 => .int
  | 11 => .int
  | 12 => .int
  | _ => .int
abbrev wsX80 : List Cond := u_ws RX8 TX8 14
theorem nmX8 : ∀ a, a < 14 → ∀ b, b < 14 → a ≠ b → (TX8 a).2.1 ≠ (TX8 b).2.1 := by decide +kernel
theorem tyX8_ok : ∀ k, k < 14 → parseFieldDescriptor (TX8 k).2.2.1 = some (tyX8 k) := by decide +kernel
abbrev cX8_init : ByteArray := prog_1_method_1_code
def yX8_init : MethodName := ⟨RX8, "<init>", "()V"⟩
abbrev cX8_feed : ByteArray := prog_1_method_2_code
def yX8_feed : MethodName := ⟨RX8, "feed", "(J)I"⟩
abbrev cX8_end : ByteArray := prog_1_method_3_code
def yX8_end : MethodName := ⟨RX8, "end", "(I)I"⟩
abbrev cX8_vote : ByteArray := prog_1_method_4_code
def yX8_vote : MethodName := ⟨RX8, "vote", "(I)I"⟩
abbrev cX8_fault : ByteArray := prog_1_method_5_code
def yX8_fault : MethodName := ⟨RX8, "fault", "()I"⟩
abbrev cX8_unwind : ByteArray := prog_1_method_6_code
def yX8_unwind : MethodName := ⟨RX8, "unwind", "()I"⟩
abbrev cX8_rule : ByteArray := prog_1_method_7_code
def yX8_rule : MethodName := ⟨RX8, "rule", "(II)I"⟩
abbrev cX8_go : ByteArray := prog_1_method_8_code
def yX8_go : MethodName := ⟨RX8, "go", "(I)I"⟩
abbrev cX8_join : ByteArray := prog_1_method_9_code
def yX8_join : MethodName := ⟨RX8, "join", "()I"⟩
abbrev cX8_leave : ByteArray := prog_1_method_10_code
def yX8_leave : MethodName := ⟨RX8, "leave", "(I)I"⟩
abbrev cX8_bar : ByteArray := prog_1_method_11_code
def yX8_bar : MethodName := ⟨RX8, "bar", "(IIZ)I"⟩
abbrev cX8_told : ByteArray := prog_1_method_12_code
def yX8_told : MethodName := ⟨RX8, "told", "(II)I"⟩
abbrev cX8_ask : ByteArray := prog_1_method_13_code
def yX8_ask : MethodName := ⟨RX8, "ask", "(III)I"⟩
abbrev cX8_offer : ByteArray := prog_1_method_14_code
def yX8_offer : MethodName := ⟨RX8, "offer", "(III)I"⟩
abbrev cX8_price : ByteArray := prog_1_method_15_code
def yX8_price : MethodName := ⟨RX8, "price", "(I)I"⟩
abbrev cX8_fits : ByteArray := prog_1_method_16_code
def yX8_fits : MethodName := ⟨RX8, "fits", "(II)I"⟩
abbrev cX8_met : ByteArray := prog_1_method_17_code
def yX8_met : MethodName := ⟨RX8, "met", "()I"⟩
abbrev cX8_sitter : ByteArray := prog_1_method_18_code
def yX8_sitter : MethodName := ⟨RX8, "sitter", "(I)I"⟩
abbrev cX8_why : ByteArray := prog_1_method_19_code
def yX8_why : MethodName := ⟨RX8, "why", "(I)I"⟩
abbrev cX8_would : ByteArray := prog_1_method_20_code
def yX8_would : MethodName := ⟨RX8, "would", "(I)I"⟩
abbrev cX8_broken : ByteArray := prog_1_method_21_code
def yX8_broken : MethodName := ⟨RX8, "broken", "(I)I"⟩
abbrev cX8_evening : ByteArray := prog_1_method_22_code
def yX8_evening : MethodName := ⟨RX8, "evening", "()I"⟩
abbrev cX8_sheet : ByteArray := prog_1_method_23_code
def yX8_sheet : MethodName := ⟨RX8, "sheet", "(III)I"⟩
abbrev cX8_lay : ByteArray := prog_1_method_24_code
def yX8_lay : MethodName := ⟨RX8, "lay", "(III)I"⟩
abbrev cX8_offers : ByteArray := prog_1_method_25_code
def yX8_offers : MethodName := ⟨RX8, "offers", "(IIII)I"⟩
abbrev cX8_count : ByteArray := prog_1_method_26_code
def yX8_count : MethodName := ⟨RX8, "count", "(I)I"⟩
abbrev cX8_familyAt : ByteArray := prog_1_method_27_code
def yX8_familyAt : MethodName := ⟨RX8, "familyAt", "(I)LSitterCircle$Family;"⟩
abbrev cX8_expireNotes : ByteArray := prog_1_method_28_code
def yX8_expireNotes : MethodName := ⟨RX8, "expireNotes", "()V"⟩
abbrev cX8_familiesHere : ByteArray := prog_1_method_29_code
def yX8_familiesHere : MethodName := ⟨RX8, "familiesHere", "()I"⟩
abbrev cX8_sumTold : ByteArray := prog_1_method_30_code
def yX8_sumTold : MethodName := ⟨RX8, "sumTold", "(I)I"⟩
abbrev cX8_addVisit : ByteArray := prog_1_method_31_code
def yX8_addVisit : MethodName := ⟨RX8, "addVisit", "(LSitterCircle$Visits;III)I"⟩
abbrev cX8_priceOf : ByteArray := prog_1_method_32_code
def yX8_priceOf : MethodName := ⟨RX8, "priceOf", "(I)I"⟩
abbrev cX8_areFitting : ByteArray := prog_1_method_33_code
def yX8_areFitting : MethodName := ⟨RX8, "areFitting", "(III)Z"⟩
abbrev cX8_lookForFits : ByteArray := prog_1_method_34_code
def yX8_lookForFits : MethodName := ⟨RX8, "lookForFits", "(I)V"⟩
abbrev cX8_mostPairs : ByteArray := prog_1_method_35_code
def yX8_mostPairs : MethodName := ⟨RX8, "mostPairs", "(I)I"⟩
abbrev cX8_findTheMatch : ByteArray := prog_1_method_36_code
def yX8_findTheMatch : MethodName := ⟨RX8, "findTheMatch", "()V"⟩
abbrev cX8_hold : ByteArray := prog_1_method_37_code
def yX8_hold : MethodName := ⟨RX8, "hold", "(II)Z"⟩
abbrev cX8_pay : ByteArray := prog_1_method_38_code
def yX8_pay : MethodName := ⟨RX8, "pay", "(LSitterCircle$Family;LSitterCircle$Family;I)V"⟩
abbrev cX8_isSheet : ByteArray := prog_1_method_39_code
def yX8_isSheet : MethodName := ⟨RX8, "isSheet", "(I)Z"⟩
abbrev cX8_isLane : ByteArray := prog_1_method_40_code
def yX8_isLane : MethodName := ⟨RX8, "isLane", "(I)Z"⟩
abbrev cX8_offerFrom : ByteArray := prog_1_method_41_code
def yX8_offerFrom : MethodName := ⟨RX8, "offerFrom", "(LSitterCircle$Row;I)I"⟩
def RX9 : String := "SitterCircleModel"
def TX9 : u_T := fun k => match k with
  | 0 => ("SitterCircleModel", "tape", "[I", true)
  | 1 => ("SitterCircleModel", "taped", "I", false)
  | 2 => ("SitterCircleModel", "at", "I", false)
  | 3 => ("SitterCircleModel", "from", "I", false)
  | 4 => ("SitterCircleModel", "sort", "I", false)
  | 5 => ("SitterCircleModel", "value", "I", false)
  | 6 => ("SitterCircleModel", "fault", "I", false)
  | 7 => ("SitterCircleModel", "wrongAt", "I", false)
  | 8 => ("SitterCircleModel", "draft", "[I", true)
  | 9 => ("SitterCircleModel", "texts", "I", false)
  | 10 => ("SitterCircleModel", "textDay", "[I", true)
  | 11 => ("SitterCircleModel", "textLaws", "[I", true)
  | 12 => ("SitterCircleModel", "day", "I", false)
  | 13 => ("SitterCircleModel", "cleared", "I", false)
  | 14 => ("SitterCircleModel", "came", "I", false)
  | 15 => ("SitterCircleModel", "left", "[Z", true)
  | 16 => ("SitterCircleModel", "owes", "[I", true)
  | 17 => ("SitterCircleModel", "sat", "[I", true)
  | 18 => ("SitterCircleModel", "satFor", "[I", true)
  | 19 => ("SitterCircleModel", "notes", "[I", true)
  | 20 => ("SitterCircleModel", "bars", "[Z", true)
  | 21 => ("SitterCircleModel", "everCame", "I", false)
  | 22 => ("SitterCircleModel", "expired", "I", false)
  | 23 => ("SitterCircleModel", "givenUp", "I", false)
  | 24 => ("SitterCircleModel", "asks", "I", false)
  | 25 => ("SitterCircleModel", "askOf", "[I", true)
  | 26 => ("SitterCircleModel", "askFrom", "[I", true)
  | 27 => ("SitterCircleModel", "askTo", "[I", true)
  | 28 => ("SitterCircleModel", "offers", "I", false)
  | 29 => ("SitterCircleModel", "offerOf", "[I", true)
  | 30 => ("SitterCircleModel", "offerFrom", "[I", true)
  | 31 => ("SitterCircleModel", "offerTo", "[I", true)
  | 32 => ("SitterCircleModel", "fit", "[Z", true)
  | 33 => ("SitterCircleModel", "matched", "[I", true)
  | 34 => ("SitterCircleModel", "taken", "[I", true)
  | 35 => ("SitterCircleModel", "cameBy", "[I", true)
  | 36 => ("SitterCircleModel", "line", "[I", true)
  | 37 => ("SitterCircleModel", "match", "[I", true)
  | 38 => ("SitterCircleModel", "lanes", "[I", true)
  | 39 => ("SitterCircleModel", "sizes", "[I", true)
  | _ => ("SitterCircleModel", "cells", "[I", true)
def tyX9 : Nat → FieldType := fun k => match k with
  | 0 => .array .int
  | 1 => .int
  | 2 => .int
  | 3 => .int
  | 4 => .int
  | 5 => .int
  | 6 => .int
  | 7 => .int
  | 8 => .array .int
  | 9 => .int
  | 10 => .array .int
  | 11 => .array .int
  | 12 => .int
  | 13 => .int
  | 14 => .int
  | 15 => .array .boolean
  | 16 => .array .int
  | 17 => .array .int
  | 18 => .array .int
  | 19 => .array .int
  | 20 => .array .boolean
  | 21 => .int
  | 22 => .int
  | 23 => .int
  | 24 => .int
  | 25 => .array .int
  | 26 => .array .int
  | 27 => .array .int
  | 28 => .int
  | 29 => .array .int
  | 30 => .array .int
  | 31 => .array .int
  | 32 => .array .boolean
  | 33 => .array .int
  | 34 => .array .int
  | 35 => .array .int
  | 36 => .array .int
  | 37 => .array .int
  | 38 => .array .int
  | 39 => .array .int
  | _ => .array .int
abbrev wsX90 : List Cond := u_ws RX9 TX9 41
theorem nmX9 : ∀ a, a < 41 → ∀ b, b < 41 → a ≠ b → (TX9 a).2.1 ≠ (TX9 b).2.1 := by decide +kernel
theorem tyX9_ok : ∀ k, k < 41 → parseFieldDescriptor (TX9 k).2.2.1 = some (tyX9 k) := by decide +kernel
abbrev cX9_init : ByteArray := prog_11_method_1_code
def yX9_init : MethodName := ⟨RX9, "<init>", "()V"⟩
abbrev cX9_in : ByteArray := prog_11_method_3_code
def yX9_in : MethodName := ⟨RX9, "in", "(JJJ)Z"⟩
abbrev cX9_feed : ByteArray := prog_11_method_4_code
def yX9_feed : MethodName := ⟨RX9, "feed", "(J)I"⟩
abbrev cX9_end : ByteArray := prog_11_method_5_code
def yX9_end : MethodName := ⟨RX9, "end", "(I)I"⟩
abbrev cX9_fails : ByteArray := prog_11_method_6_code
def yX9_fails : MethodName := ⟨RX9, "fails", "(II)V"⟩
abbrev cX9_look : ByteArray := prog_11_method_7_code
def yX9_look : MethodName := ⟨RX9, "look", "(I)I"⟩
abbrev cX9_isName : ByteArray := prog_11_method_8_code
def yX9_isName : MethodName := ⟨RX9, "isName", "(IIIIII)Z"⟩
abbrev cX9_nameNow : ByteArray := prog_11_method_9_code
def yX9_nameNow : MethodName := ⟨RX9, "nameNow", "()I"⟩
abbrev cX9_next : ByteArray := prog_11_method_10_code
def yX9_next : MethodName := ⟨RX9, "next", "()V"⟩
abbrev cX9_readLaw : ByteArray := prog_11_method_11_code
def yX9_readLaw : MethodName := ⟨RX9, "readLaw", "()V"⟩
abbrev cX9_vote : ByteArray := prog_11_method_12_code
def yX9_vote : MethodName := ⟨RX9, "vote", "(I)I"⟩
abbrev cX9_fault : ByteArray := prog_11_method_13_code
def yX9_fault : MethodName := ⟨RX9, "fault", "()I"⟩
abbrev cX9_unwind : ByteArray := prog_11_method_14_code
def yX9_unwind : MethodName := ⟨RX9, "unwind", "()I"⟩
abbrev cX9_textOf : ByteArray := prog_11_method_15_code
def yX9_textOf : MethodName := ⟨RX9, "textOf", "(I)I"⟩
abbrev cX9_law : ByteArray := prog_11_method_16_code
def yX9_law : MethodName := ⟨RX9, "law", "(II)I"⟩
abbrev cX9_rule : ByteArray := prog_11_method_17_code
def yX9_rule : MethodName := ⟨RX9, "rule", "(II)I"⟩
abbrev cX9_isFamily : ByteArray := prog_11_method_18_code
def yX9_isFamily : MethodName := ⟨RX9, "isFamily", "(I)Z"⟩
abbrev cX9_expires : ByteArray := prog_11_method_19_code
def yX9_expires : MethodName := ⟨RX9, "expires", "()V"⟩
abbrev cX9_go : ByteArray := prog_11_method_20_code
def yX9_go : MethodName := ⟨RX9, "go", "(I)I"⟩
abbrev cX9_has : ByteArray := prog_11_method_21_code
def yX9_has : MethodName := ⟨RX9, "has", "(I)I"⟩
abbrev cX9_join : ByteArray := prog_11_method_22_code
def yX9_join : MethodName := ⟨RX9, "join", "()I"⟩
abbrev cX9_leave : ByteArray := prog_11_method_23_code
def yX9_leave : MethodName := ⟨RX9, "leave", "(I)I"⟩
abbrev cX9_bar : ByteArray := prog_11_method_24_code
def yX9_bar : MethodName := ⟨RX9, "bar", "(IIZ)I"⟩
abbrev cX9_oldest : ByteArray := prog_11_method_25_code
def yX9_oldest : MethodName := ⟨RX9, "oldest", "(I)I"⟩
abbrev cX9_told : ByteArray := prog_11_method_26_code
def yX9_told : MethodName := ⟨RX9, "told", "(II)I"⟩
abbrev cX9_may : ByteArray := prog_11_method_27_code
def yX9_may : MethodName := ⟨RX9, "may", "(III)Z"⟩
abbrev cX9_pays : ByteArray := prog_11_method_28_code
def yX9_pays : MethodName := ⟨RX9, "pays", "(III)V"⟩
abbrev cX9_isSpan : ByteArray := prog_11_method_29_code
def yX9_isSpan : MethodName := ⟨RX9, "isSpan", "(III)Z"⟩
abbrev cX9_ask : ByteArray := prog_11_method_30_code
def yX9_ask : MethodName := ⟨RX9, "ask", "(III)I"⟩
abbrev cX9_offer : ByteArray := prog_11_method_31_code
def yX9_offer : MethodName := ⟨RX9, "offer", "(III)I"⟩
abbrev cX9_priceOf : ByteArray := prog_11_method_32_code
def yX9_priceOf : MethodName := ⟨RX9, "priceOf", "(I)I"⟩
abbrev cX9_price : ByteArray := prog_11_method_33_code
def yX9_price : MethodName := ⟨RX9, "price", "(I)I"⟩
abbrev cX9_isFit : ByteArray := prog_11_method_34_code
def yX9_isFit : MethodName := ⟨RX9, "isFit", "(III)Z"⟩
abbrev cX9_fits : ByteArray := prog_11_method_35_code
def yX9_fits : MethodName := ⟨RX9, "fits", "(II)I"⟩
abbrev cX9_findFits : ByteArray := prog_11_method_36_code
def yX9_findFits : MethodName := ⟨RX9, "findFits", "(I)V"⟩
abbrev cX9_grows : ByteArray := prog_11_method_37_code
def yX9_grows : MethodName := ⟨RX9, "grows", "(II)Z"⟩
abbrev cX9_change : ByteArray := prog_11_method_38_code
def yX9_change : MethodName := ⟨RX9, "change", "(I)V"⟩
abbrev cX9_most : ByteArray := prog_11_method_39_code
def yX9_most : MethodName := ⟨RX9, "most", "(II)I"⟩
abbrev cX9_matches : ByteArray := prog_11_method_40_code
def yX9_matches : MethodName := ⟨RX9, "matches", "()I"⟩
abbrev cX9_met : ByteArray := prog_11_method_41_code
def yX9_met : MethodName := ⟨RX9, "met", "()I"⟩
abbrev cX9_sitter : ByteArray := prog_11_method_42_code
def yX9_sitter : MethodName := ⟨RX9, "sitter", "(I)I"⟩
abbrev cX9_why : ByteArray := prog_11_method_43_code
def yX9_why : MethodName := ⟨RX9, "why", "(I)I"⟩
abbrev cX9_would : ByteArray := prog_11_method_44_code
def yX9_would : MethodName := ⟨RX9, "would", "(I)I"⟩
abbrev cX9_broken : ByteArray := prog_11_method_45_code
def yX9_broken : MethodName := ⟨RX9, "broken", "(I)I"⟩
abbrev cX9_evening : ByteArray := prog_11_method_46_code
def yX9_evening : MethodName := ⟨RX9, "evening", "()I"⟩
abbrev cX9_isSheet : ByteArray := prog_11_method_47_code
def yX9_isSheet : MethodName := ⟨RX9, "isSheet", "(II)Z"⟩
abbrev cX9_sheet : ByteArray := prog_11_method_48_code
def yX9_sheet : MethodName := ⟨RX9, "sheet", "(III)I"⟩
abbrev cX9_lay : ByteArray := prog_11_method_49_code
def yX9_lay : MethodName := ⟨RX9, "lay", "(III)I"⟩
abbrev cX9_offers : ByteArray := prog_11_method_50_code
def yX9_offers : MethodName := ⟨RX9, "offers", "(IIII)I"⟩
abbrev cX9_count : ByteArray := prog_11_method_51_code
def yX9_count : MethodName := ⟨RX9, "count", "(I)I"⟩
def RJ9 : String := "java/lang/Math"
abbrev cJ9_max_7cf53 : ByteArray := prog_13_method_65_code
def yJ9_max_7cf53 : MethodName := ⟨RJ9, "max", "(II)I"⟩
abbrev cJ9_min_7cf53 : ByteArray := prog_13_method_69_code
def yJ9_min_7cf53 : MethodName := ⟨RJ9, "min", "(II)I"⟩
def RJ0 : String := "java/lang/String"
abbrev cJ0_length_8abf5 : ByteArray := prog_14_method_54_code
def yJ0_length_8abf5 : MethodName := ⟨RJ0, "length", "()I"⟩
abbrev cJ0_charAt_5068e : ByteArray := prog_14_method_56_code
def yJ0_charAt_5068e : MethodName := ⟨RJ0, "charAt", "(I)C"⟩
def RJ7 : String := "java/util/Arrays"
abbrev cJ7_fill_53178 : ByteArray := prog_18_method_103_code
def yJ7_fill_53178 : MethodName := ⟨RJ7, "fill", "([II)V"⟩
abbrev cJ7_copyOf_59c91 : ByteArray := prog_18_method_123_code
def yJ7_copyOf_59c91 : MethodName := ⟨RJ7, "copyOf", "([II)[I"⟩
def RL : String := "SitterCircleLaw"
abbrev cL_law : ByteArray := code
def yL_law : MethodName := ⟨RL, "law", "([I)Z"⟩
abbrev vwCl : List vw_C := [(RX0, TX0, 5), (RX1, TX1, 3), (RX2, TX2, 8), (RX3, TX3, 4), (RX4, TX4, 7), (RX5, TX5, 2), (RX6, TX6, 2), (RX7, TX7, 4), (RX8, TX8, 14), (RX9, TX9, 41)]
end
section
abbrev mm_E : Type := ClassFile.Instr × Nat × Nat × Nat
def mc_X0_init : List (Nat × mm_E) := [(0, .aload_n 0, 1, 0, 0), (1, .invokespecial 1, 3, 999, 0), (4, .aload_n 0, 1, 0, 0), (5, .new 7, 3, 3, 0), (8, .dup, 1, 0, 0), (9, .invokespecial 9, 3, 24, 0), (12, .putfield 10, 3, 0, 0), (15, .return_, 1, 0, 0)]
def mc_X0_doesBar : List (Nat × mm_E) := [(0, .aload_n 0, 1, 0, 0), (1, .getfield 16, 3, 0, 2), (4, .iload_n 1, 1, 0, 0), (5, .ishr, 1, 0, 0), (6, .iconst 1, 1, 0, 0), (7, .iand, 1, 0, 0), (8, .ifCond .eq 7, 3, 0, 0), (11, .iconst 1, 1, 0, 0), (12, .goto 4, 3, 0, 0), (15, .iconst 0, 1, 0, 0), (16, .ireturn, 1, 1, 0)]
def mc_X0_setBar : List (Nat × mm_E) := [(0, .aload_n 0, 1, 0, 0), (1, .iload_n 2, 1, 0, 0), (2, .ifCond .eq 14, 3, 0, 0), (5, .aload_n 0, 1, 0, 0), (6, .getfield 16, 3, 0, 2), (9, .iconst 1, 1, 0, 0), (10, .iload_n 1, 1, 0, 0), (11, .ishl, 1, 0, 0), (12, .ior, 1, 0, 0), (13, .goto 13, 3, 0, 0), (16, .aload_n 0, 1, 0, 0), (17, .getfield 16, 3, 0, 2), (20, .iconst 1, 1, 0, 0), (21, .iload_n 1, 1, 0, 0), (22, .ishl, 1, 0, 0), (23, .iconst (-1), 1, 0, 0), (24, .ixor, 1, 0, 0), (25, .iand, 1, 0, 0), (26, .putfield 16, 3, 0, 2), (29, .return_, 1, 0, 0)]
def mc_X0_wouldOwe : List (Nat × mm_E) := [(0, .aload_n 0, 1, 0, 0), (1, .getfield 20, 3, 0, 1), (4, .iconst 0, 1, 0, 0), (5, .iload_n 1, 1, 0, 0), (6, .aload_n 0, 1, 0, 0), (7, .getfield 10, 3, 0, 0), (10, .getfield 23, 3, 3, 3), (13, .isub, 1, 0, 0), (14, .invokestatic 26, 3, 157, 2), (17, .iadd, 1, 0, 0), (18, .ireturn, 1, 0, 0)]
def mc_X0_settle : List (Nat × mm_E) := [(0, .aload_n 0, 1, 0, 0), (1, .getfield 20, 3, 0, 1), (4, .aload_n 0, 1, 0, 0), (5, .getfield 10, 3, 0, 0), (8, .getfield 23, 3, 3, 3), (11, .invokestatic 32, 3, 158, 2), (14, .istore_n 1, 1, 0, 0), (15, .aload_n 0, 1, 0, 0), (16, .getfield 10, 3, 0, 0), (19, .iload_n 1, 1, 0, 0), (20, .invokevirtual 35, 3, 30, 1), (23, .aload_n 0, 1, 0, 0), (24, .dup, 1, 0, 0), (25, .getfield 20, 3, 0, 1), (28, .iload_n 1, 1, 0, 0), (29, .isub, 1, 0, 0), (30, .putfield 20, 3, 0, 1), (33, .iload_n 1, 1, 0, 0), (34, .ireturn, 1, 0, 0)]
def mc_X1_init : List (Nat × mm_E) := [(0, .aload_n 0, 1, 0, 0), (1, .invokespecial 3, 3, 999, 0), (4, .aload_n 0, 1, 0, 0), (5, .bipush 6, 2, 0, 0), (7, .newarray .int, 2, 20, 0), (9, .putfield 11, 3, 1, 0), (12, .aload_n 0, 1, 0, 0), (13, .bipush 6, 2, 0, 0), (15, .iconst 5, 1, 0, 0), (16, .multianewarray 15 2, 4, 25, 0), (20, .putfield 17, 3, 1, 1), (23, .return_, 1, 0, 0)]
def mc_X1_isFull : List (Nat × mm_E) := [(0, .aload_n 0, 1, 0, 0), (1, .getfield 20, 3, 1, 2), (4, .bipush 6, 2, 0, 0), (6, .if_icmp .lt 7, 3, 0, 0), (9, .iconst 1, 1, 0, 0), (10, .goto 4, 3, 0, 0), (13, .iconst 0, 1, 0, 0), (14, .ireturn, 1, 1, 0)]
def mc_X1_add : List (Nat × mm_E) := [(0, .aload_n 0, 1, 0, 0), (1, .invokevirtual 24, 3, 6, 0), (4, .ifCond .eq 6, 3, 0, 0), (7, .bipush (-3), 2, 0, 0), (9, .ireturn, 1, 0, 0), (10, .aload_n 0, 1, 0, 0), (11, .getfield 11, 3, 1, 0), (14, .aload_n 0, 1, 0, 0), (15, .getfield 20, 3, 1, 2), (18, .iload_n 1, 1, 0, 0), (19, .iastore, 1, 0, 0), (20, .iconst 0, 1, 0, 0), (21, .istore_n 3, 1, 0, 0), (22, .iload_n 3, 1, 0, 0), (23, .iconst 5, 1, 0, 0), (24, .if_icmp .ge 29, 3, 0, 0), (27, .iload_n 3, 1, 0, 0), (28, .aload_n 2, 1, 0, 0), (29, .arraylength, 1, 0, 0), (30, .if_icmp .ge 23, 3, 0, 0), (33, .aload_n 0, 1, 0, 0), (34, .getfield 17, 3, 1, 1), (37, .aload_n 0, 1, 0, 0), (38, .getfield 20, 3, 1, 2), (41, .aaload, 1, 0, 0), (42, .iload_n 3, 1, 0, 0), (43, .aload_n 2, 1, 0, 0), (44, .iload_n 3, 1, 0, 0), (45, .iaload, 1, 0, 0), (46, .iastore, 1, 0, 0), (47, .iinc 3 1, 3, 0, 0), (50, .goto (-28), 3, 0, 0), (53, .aload_n 0, 1, 0, 0), (54, .dup, 1, 0, 0), (55, .getfield 20, 3, 1, 2), (58, .iconst 1, 1, 0, 0), (59, .iadd, 1, 0, 0), (60, .putfield 20, 3, 1, 2), (63, .aload_n 0, 1, 0, 0), (64, .getfield 20, 3, 1, 2), (67, .iconst 1, 1, 0, 0), (68, .isub, 1, 0, 0), (69, .ireturn, 1, 0, 0)]
def mc_X1_latestDay : List (Nat × mm_E) := [(0, .aload_n 0, 1, 0, 0), (1, .getfield 20, 3, 1, 2), (4, .ifCond .le 17, 3, 0, 0), (7, .aload_n 0, 1, 0, 0), (8, .getfield 11, 3, 1, 0), (11, .aload_n 0, 1, 0, 0), (12, .getfield 20, 3, 1, 2), (15, .iconst 1, 1, 0, 0), (16, .isub, 1, 0, 0), (17, .iaload, 1, 0, 0), (18, .goto 5, 3, 0, 0), (21, .bipush (-4), 2, 0, 0), (23, .ireturn, 1, 0, 0)]
def mc_X1_textOf : List (Nat × mm_E) := [(0, .bipush (-4), 2, 0, 0), (2, .istore_n 2, 1, 0, 0), (3, .iconst 0, 1, 0, 0), (4, .istore_n 3, 1, 0, 0), (5, .iload_n 3, 1, 0, 0), (6, .aload_n 0, 1, 0, 0), (7, .getfield 20, 3, 1, 2), (10, .if_icmp .ge 42, 3, 0, 0), (13, .aload_n 0, 1, 0, 0), (14, .getfield 11, 3, 1, 0), (17, .iload_n 3, 1, 0, 0), (18, .iaload, 1, 0, 0), (19, .iload_n 1, 1, 0, 0), (20, .if_icmp .gt 26, 3, 0, 0), (23, .iload_n 2, 1, 0, 0), (24, .bipush (-4), 2, 0, 0), (26, .if_icmp .eq 18, 3, 0, 0), (29, .aload_n 0, 1, 0, 0), (30, .getfield 11, 3, 1, 0), (33, .iload_n 3, 1, 0, 0), (34, .iaload, 1, 0, 0), (35, .aload_n 0, 1, 0, 0), (36, .getfield 11, 3, 1, 0), (39, .iload_n 2, 1, 0, 0), (40, .iaload, 1, 0, 0), (41, .if_icmp .lt 5, 3, 0, 0), (44, .iload_n 3, 1, 0, 0), (45, .istore_n 2, 1, 0, 0), (46, .iinc 3 1, 3, 0, 0), (49, .goto (-44), 3, 0, 0), (52, .iload_n 2, 1, 0, 0), (53, .ireturn, 1, 0, 0)]
def mc_X1_lawOf : List (Nat × mm_E) := [(0, .iload_n 2, 1, 0, 0), (1, .ifCond .lt 8, 3, 0, 0), (4, .iload_n 2, 1, 0, 0), (5, .iconst 5, 1, 0, 0), (6, .if_icmp .lt 5, 3, 0, 0), (9, .iconst (-1), 1, 0, 0), (10, .ireturn, 1, 0, 0), (11, .aload_n 0, 1, 0, 0), (12, .iload_n 1, 1, 0, 0), (13, .invokevirtual 28, 3, 9, 1), (16, .istore_n 3, 1, 0, 0), (17, .iload_n 3, 1, 0, 0), (18, .bipush (-4), 2, 0, 0), (20, .if_icmp .eq 19, 3, 0, 0), (23, .aload_n 0, 1, 0, 0), (24, .getfield 17, 3, 1, 1), (27, .iload_n 3, 1, 0, 0), (28, .aaload, 1, 0, 0), (29, .iload_n 2, 1, 0, 0), (30, .iaload, 1, 0, 0), (31, .iconst (-1), 1, 0, 0), (32, .if_icmp .eq 7, 3, 0, 0), (35, .iconst 1, 1, 0, 0), (36, .goto 4, 3, 0, 0), (39, .iconst 0, 1, 0, 0), (40, .istore 4, 2, 0, 0), (42, .iload 4, 2, 0, 0), (44, .ifCond .eq 14, 3, 0, 0), (47, .aload_n 0, 1, 0, 0), (48, .getfield 17, 3, 1, 1), (51, .iload_n 3, 1, 0, 0), (52, .aaload, 1, 0, 0), (53, .iload_n 2, 1, 0, 0), (54, .iaload, 1, 0, 0), (55, .goto 8, 3, 0, 0), (58, .getstatic 34, 3, 3, 0), (61, .iload_n 2, 1, 0, 0), (62, .iaload, 1, 0, 0), (63, .ireturn, 1, 0, 0)]
def mc_X2_init : List (Nat × mm_E) := [(0, .aload_n 0, 1, 0, 0), (1, .invokespecial 3, 3, 999, 0), (4, .aload_n 0, 1, 0, 0), (5, .bipush 10, 2, 0, 0), (7, .newarray .int, 2, 20, 0), (9, .putfield 9, 3, 2, 0), (12, .aload_n 0, 1, 0, 0), (13, .bipush 10, 2, 0, 0), (15, .newarray .int, 2, 20, 0), (17, .putfield 15, 3, 2, 1), (20, .aload_n 0, 1, 0, 0), (21, .bipush 10, 2, 0, 0), (23, .newarray .int, 2, 20, 0), (25, .putfield 18, 3, 2, 2), (28, .return_, 1, 0, 0)]
def mc_X2_begin : List (Nat × mm_E) := [(0, .aload_n 0, 1, 0, 0), (1, .iload_n 1, 1, 0, 0), (2, .bipush 10, 2, 0, 0), (4, .invokestatic 21, 3, 158, 2), (7, .putfield 27, 3, 2, 3), (10, .aload_n 0, 1, 0, 0), (11, .iload_n 2, 1, 0, 0), (12, .bipush 10, 2, 0, 0), (14, .invokestatic 21, 3, 158, 2), (17, .putfield 31, 3, 2, 4), (20, .aload_n 0, 1, 0, 0), (21, .getfield 9, 3, 2, 0), (24, .iconst 0, 1, 0, 0), (25, .invokestatic 34, 3, 152, 2), (28, .aload_n 0, 1, 0, 0), (29, .getfield 15, 3, 2, 1), (32, .bipush (-4), 2, 0, 0), (34, .invokestatic 34, 3, 152, 2), (37, .return_, 1, 0, 0)]
def mc_X2_addFit : List (Nat × mm_E) := [(0, .iload_n 1, 1, 0, 0), (1, .ifCond .lt 35, 3, 0, 0), (4, .iload_n 1, 1, 0, 0), (5, .aload_n 0, 1, 0, 0), (6, .getfield 27, 3, 2, 3), (9, .if_icmp .ge 27, 3, 0, 0), (12, .iload_n 2, 1, 0, 0), (13, .ifCond .lt 23, 3, 0, 0), (16, .iload_n 2, 1, 0, 0), (17, .aload_n 0, 1, 0, 0), (18, .getfield 31, 3, 2, 4), (21, .if_icmp .ge 15, 3, 0, 0), (24, .aload_n 0, 1, 0, 0), (25, .getfield 9, 3, 2, 0), (28, .iload_n 1, 1, 0, 0), (29, .dup2, 1, 0, 0), (30, .iaload, 1, 0, 0), (31, .iconst 1, 1, 0, 0), (32, .iload_n 2, 1, 0, 0), (33, .ishl, 1, 0, 0), (34, .ior, 1, 0, 0), (35, .iastore, 1, 0, 0), (36, .return_, 1, 0, 0)]
def mc_X2_offerOf : List (Nat × mm_E) := [(0, .iload_n 1, 1, 0, 0), (1, .ifCond .lt 20, 3, 0, 0), (4, .iload_n 1, 1, 0, 0), (5, .aload_n 0, 1, 0, 0), (6, .getfield 27, 3, 2, 3), (9, .if_icmp .ge 12, 3, 0, 0), (12, .aload_n 0, 1, 0, 0), (13, .getfield 15, 3, 2, 1), (16, .iload_n 1, 1, 0, 0), (17, .iaload, 1, 0, 0), (18, .goto 5, 3, 0, 0), (21, .bipush (-4), 2, 0, 0), (23, .ireturn, 1, 0, 0)]
def mc_X2_mostPairsOfAll : List (Nat × mm_E) := [(0, .aload_n 0, 1, 0, 0), (1, .iconst 0, 1, 0, 0), (2, .aload_n 0, 1, 0, 0), (3, .invokevirtual 40, 3, 16, 0), (6, .invokevirtual 44, 3, 17, 2), (9, .ireturn, 1, 0, 0)]
def mc_X2_allOffers : List (Nat × mm_E) := [(0, .iconst 1, 1, 0, 0), (1, .aload_n 0, 1, 0, 0), (2, .getfield 31, 3, 2, 4), (5, .ishl, 1, 0, 0), (6, .iconst 1, 1, 0, 0), (7, .isub, 1, 0, 0), (8, .ireturn, 1, 0, 0)]
def mc_X2_mostPairsFrom : List (Nat × mm_E) := [(0, .aload_n 0, 1, 0, 0), (1, .getfield 18, 3, 2, 2), (4, .bipush (-4), 2, 0, 0), (6, .invokestatic 34, 3, 152, 2), (9, .iconst 0, 1, 0, 0), (10, .istore_n 3, 1, 0, 0), (11, .iload_n 1, 1, 0, 0), (12, .istore 4, 2, 0, 0), (14, .iload 4, 2, 0, 0), (16, .aload_n 0, 1, 0, 0), (17, .getfield 27, 3, 2, 3), (20, .if_icmp .ge 28, 3, 0, 0), (23, .aload_n 0, 1, 0, 0), (24, .iconst 0, 1, 0, 0), (25, .putfield 47, 3, 2, 5), (28, .aload_n 0, 1, 0, 0), (29, .iload 4, 2, 0, 0), (31, .iload_n 2, 1, 0, 0), (32, .iconst 0, 1, 0, 0), (33, .invokevirtual 50, 3, 18, 3), (36, .ifCond .eq 6, 3, 0, 0), (39, .iinc 3 1, 3, 0, 0), (42, .iinc 4 1, 3, 0, 0), (45, .goto (-31), 3, 0, 0), (48, .iload_n 3, 1, 0, 0), (49, .ireturn, 1, 0, 0)]
def mc_X2_takeOne : List (Nat × mm_E) := [(0, .iload_n 1, 1, 0, 0), (1, .ifCond .lt 17, 3, 0, 0), (4, .iload_n 1, 1, 0, 0), (5, .aload_n 0, 1, 0, 0), (6, .getfield 27, 3, 2, 3), (9, .if_icmp .ge 9, 3, 0, 0), (12, .iload_n 3, 1, 0, 0), (13, .bipush 10, 2, 0, 0), (15, .if_icmp .le 5, 3, 0, 0), (18, .iconst 0, 1, 0, 0), (19, .ireturn, 1, 1, 0), (20, .iconst 0, 1, 0, 0), (21, .istore 4, 2, 0, 0), (23, .iload 4, 2, 0, 0), (25, .aload_n 0, 1, 0, 0), (26, .getfield 31, 3, 2, 4), (29, .if_icmp .ge 90, 3, 0, 0), (32, .iconst 1, 1, 0, 0), (33, .iload 4, 2, 0, 0), (35, .ishl, 1, 0, 0), (36, .istore 5, 2, 0, 0), (38, .aload_n 0, 1, 0, 0), (39, .getfield 9, 3, 2, 0), (42, .iload_n 1, 1, 0, 0), (43, .iaload, 1, 0, 0), (44, .iload_n 2, 1, 0, 0), (45, .iand, 1, 0, 0), (46, .aload_n 0, 1, 0, 0), (47, .getfield 47, 3, 2, 5), (50, .iconst (-1), 1, 0, 0), (51, .ixor, 1, 0, 0), (52, .iand, 1, 0, 0), (53, .iload 5, 2, 0, 0), (55, .iand, 1, 0, 0), (56, .ifCond .ne 6, 3, 0, 0), (59, .goto 54, 3, 0, 0), (62, .aload_n 0, 1, 0, 0), (63, .dup, 1, 0, 0), (64, .getfield 47, 3, 2, 5), (67, .iload 5, 2, 0, 0), (69, .ior, 1, 0, 0), (70, .putfield 47, 3, 2, 5), (73, .aload_n 0, 1, 0, 0), (74, .getfield 18, 3, 2, 2), (77, .iload 4, 2, 0, 0), (79, .iaload, 1, 0, 0), (80, .bipush (-4), 2, 0, 0), (82, .if_icmp .eq 21, 3, 0, 0), (85, .aload_n 0, 1, 0, 0), (86, .aload_n 0, 1, 0, 0), (87, .getfield 18, 3, 2, 2), (90, .iload 4, 2, 0, 0), (92, .iaload, 1, 0, 0), (93, .iload_n 2, 1, 0, 0), (94, .iload_n 3, 1, 0, 0), (95, .iconst 1, 1, 0, 0), (96, .iadd, 1, 0, 0), (97, .invokevirtual 50, 3, 18, 3), (100, .ifCond .eq 13, 3, 0, 0), (103, .aload_n 0, 1, 0, 0), (104, .getfield 18, 3, 2, 2), (107, .iload 4, 2, 0, 0), (109, .iload_n 1, 1, 0, 0), (110, .iastore, 1, 0, 0), (111, .iconst 1, 1, 0, 0), (112, .ireturn, 1, 1, 0), (113, .iinc 4 1, 3, 0, 0), (116, .goto (-93), 3, 0, 0), (119, .iconst 0, 1, 0, 0), (120, .ireturn, 1, 1, 0)]
def mc_X2_match : List (Nat × mm_E) := [(0, .aload_n 0, 1, 0, 0), (1, .invokevirtual 40, 3, 16, 0), (4, .istore_n 1, 1, 0, 0), (5, .aload_n 0, 1, 0, 0), (6, .iconst 0, 1, 0, 0), (7, .iload_n 1, 1, 0, 0), (8, .invokevirtual 44, 3, 17, 2), (11, .istore_n 2, 1, 0, 0), (12, .iconst 0, 1, 0, 0), (13, .istore_n 3, 1, 0, 0), (14, .iload_n 3, 1, 0, 0), (15, .aload_n 0, 1, 0, 0), (16, .getfield 27, 3, 2, 3), (19, .if_icmp .ge 53, 3, 0, 0), (22, .iload_n 2, 1, 0, 0), (23, .ifCond .le 49, 3, 0, 0), (26, .aload_n 0, 1, 0, 0), (27, .getfield 15, 3, 2, 1), (30, .iload_n 3, 1, 0, 0), (31, .aload_n 0, 1, 0, 0), (32, .iload_n 3, 1, 0, 0), (33, .iload_n 1, 1, 0, 0), (34, .iload_n 2, 1, 0, 0), (35, .invokevirtual 54, 3, 20, 3), (38, .iastore, 1, 0, 0), (39, .aload_n 0, 1, 0, 0), (40, .getfield 15, 3, 2, 1), (43, .iload_n 3, 1, 0, 0), (44, .iaload, 1, 0, 0), (45, .bipush (-4), 2, 0, 0), (47, .if_icmp .eq 19, 3, 0, 0), (50, .iload_n 1, 1, 0, 0), (51, .iconst 1, 1, 0, 0), (52, .aload_n 0, 1, 0, 0), (53, .getfield 15, 3, 2, 1), (56, .iload_n 3, 1, 0, 0), (57, .iaload, 1, 0, 0), (58, .ishl, 1, 0, 0), (59, .iconst (-1), 1, 0, 0), (60, .ixor, 1, 0, 0), (61, .iand, 1, 0, 0), (62, .istore_n 1, 1, 0, 0), (63, .iinc 2 (-1), 3, 0, 0), (66, .iinc 3 1, 3, 0, 0), (69, .goto (-55), 3, 0, 0), (72, .return_, 1, 0, 0)]
def mc_X2_leastOffer : List (Nat × mm_E) := [(0, .iconst 0, 1, 0, 0), (1, .istore 4, 2, 0, 0), (3, .iload 4, 2, 0, 0), (5, .aload_n 0, 1, 0, 0), (6, .getfield 31, 3, 2, 4), (9, .if_icmp .ge 63, 3, 0, 0), (12, .iconst 1, 1, 0, 0), (13, .iload 4, 2, 0, 0), (15, .ishl, 1, 0, 0), (16, .istore 5, 2, 0, 0), (18, .aload_n 0, 1, 0, 0), (19, .getfield 9, 3, 2, 0), (22, .iload_n 1, 1, 0, 0), (23, .iaload, 1, 0, 0), (24, .iload_n 2, 1, 0, 0), (25, .iand, 1, 0, 0), (26, .iload 5, 2, 0, 0), (28, .iand, 1, 0, 0), (29, .ifCond .eq 7, 3, 0, 0), (32, .iconst 1, 1, 0, 0), (33, .goto 4, 3, 0, 0), (36, .iconst 0, 1, 0, 0), (37, .istore 6, 2, 0, 0), (39, .iload 6, 2, 0, 0), (41, .ifCond .eq 25, 3, 0, 0), (44, .aload_n 0, 1, 0, 0), (45, .iload_n 1, 1, 0, 0), (46, .iconst 1, 1, 0, 0), (47, .iadd, 1, 0, 0), (48, .iload_n 2, 1, 0, 0), (49, .iload 5, 2, 0, 0), (51, .iconst (-1), 1, 0, 0), (52, .ixor, 1, 0, 0), (53, .iand, 1, 0, 0), (54, .invokevirtual 44, 3, 17, 2), (57, .iload_n 3, 1, 0, 0), (58, .iconst 1, 1, 0, 0), (59, .isub, 1, 0, 0), (60, .if_icmp .ne 6, 3, 0, 0), (63, .iload 4, 2, 0, 0), (65, .ireturn, 1, 0, 0), (66, .iinc 4 1, 3, 0, 0), (69, .goto (-66), 3, 0, 0), (72, .bipush (-4), 2, 0, 0), (74, .ireturn, 1, 0, 0)]
def mc_X2_reach : List (Nat × mm_E) := [(0, .aload_n 0, 1, 0, 0), (1, .iconst 0, 1, 0, 0), (2, .putfield 58, 3, 2, 6), (5, .aload_n 0, 1, 0, 0), (6, .iconst 0, 1, 0, 0), (7, .putfield 61, 3, 2, 7), (10, .iconst 0, 1, 0, 0), (11, .istore_n 1, 1, 0, 0), (12, .iload_n 1, 1, 0, 0), (13, .aload_n 0, 1, 0, 0), (14, .getfield 27, 3, 2, 3), (17, .if_icmp .ge 32, 3, 0, 0), (20, .aload_n 0, 1, 0, 0), (21, .getfield 15, 3, 2, 1), (24, .iload_n 1, 1, 0, 0), (25, .iaload, 1, 0, 0), (26, .bipush (-4), 2, 0, 0), (28, .if_icmp .ne 15, 3, 0, 0), (31, .aload_n 0, 1, 0, 0), (32, .dup, 1, 0, 0), (33, .getfield 58, 3, 2, 6), (36, .iconst 1, 1, 0, 0), (37, .iload_n 1, 1, 0, 0), (38, .ishl, 1, 0, 0), (39, .ior, 1, 0, 0), (40, .putfield 58, 3, 2, 6), (43, .iinc 1 1, 3, 0, 0), (46, .goto (-34), 3, 0, 0), (49, .iconst 0, 1, 0, 0), (50, .istore_n 1, 1, 0, 0), (51, .iload_n 1, 1, 0, 0), (52, .aload_n 0, 1, 0, 0), (53, .getfield 27, 3, 2, 3), (56, .if_icmp .gt 13, 3, 0, 0), (59, .aload_n 0, 1, 0, 0), (60, .invokevirtual 64, 3, 22, 0), (63, .iinc 1 1, 3, 0, 0), (66, .goto (-15), 3, 0, 0), (69, .return_, 1, 0, 0)]
def mc_X2_reachFurther : List (Nat × mm_E) := [(0, .iconst 0, 1, 0, 0), (1, .istore_n 1, 1, 0, 0), (2, .iload_n 1, 1, 0, 0), (3, .aload_n 0, 1, 0, 0), (4, .getfield 27, 3, 2, 3), (7, .if_icmp .ge 35, 3, 0, 0), (10, .aload_n 0, 1, 0, 0), (11, .getfield 58, 3, 2, 6), (14, .iload_n 1, 1, 0, 0), (15, .ishr, 1, 0, 0), (16, .iconst 1, 1, 0, 0), (17, .iand, 1, 0, 0), (18, .ifCond .eq 18, 3, 0, 0), (21, .aload_n 0, 1, 0, 0), (22, .dup, 1, 0, 0), (23, .getfield 61, 3, 2, 7), (26, .aload_n 0, 1, 0, 0), (27, .getfield 9, 3, 2, 0), (30, .iload_n 1, 1, 0, 0), (31, .iaload, 1, 0, 0), (32, .ior, 1, 0, 0), (33, .putfield 61, 3, 2, 7), (36, .iinc 1 1, 3, 0, 0), (39, .goto (-37), 3, 0, 0), (42, .iconst 0, 1, 0, 0), (43, .istore_n 1, 1, 0, 0), (44, .iload_n 1, 1, 0, 0), (45, .aload_n 0, 1, 0, 0), (46, .getfield 27, 3, 2, 3), (49, .if_icmp .ge 48, 3, 0, 0), (52, .aload_n 0, 1, 0, 0), (53, .getfield 15, 3, 2, 1), (56, .iload_n 1, 1, 0, 0), (57, .iaload, 1, 0, 0), (58, .bipush (-4), 2, 0, 0), (60, .if_icmp .eq 31, 3, 0, 0), (63, .aload_n 0, 1, 0, 0), (64, .getfield 61, 3, 2, 7), (67, .aload_n 0, 1, 0, 0), (68, .getfield 15, 3, 2, 1), (71, .iload_n 1, 1, 0, 0), (72, .iaload, 1, 0, 0), (73, .ishr, 1, 0, 0), (74, .iconst 1, 1, 0, 0), (75, .iand, 1, 0, 0), (76, .ifCond .eq 15, 3, 0, 0), (79, .aload_n 0, 1, 0, 0), (80, .dup, 1, 0, 0), (81, .getfield 58, 3, 2, 6), (84, .iconst 1, 1, 0, 0), (85, .iload_n 1, 1, 0, 0), (86, .ishl, 1, 0, 0), (87, .ior, 1, 0, 0), (88, .putfield 58, 3, 2, 6), (91, .iinc 1 1, 3, 0, 0), (94, .goto (-50), 3, 0, 0), (97, .return_, 1, 0, 0)]
def mc_X2_asksNotReached : List (Nat × mm_E) := [(0, .aload_n 0, 1, 0, 0), (1, .getfield 58, 3, 2, 6), (4, .iconst (-1), 1, 0, 0), (5, .ixor, 1, 0, 0), (6, .iconst 1, 1, 0, 0), (7, .aload_n 0, 1, 0, 0), (8, .getfield 27, 3, 2, 3), (11, .ishl, 1, 0, 0), (12, .iconst 1, 1, 0, 0), (13, .isub, 1, 0, 0), (14, .iand, 1, 0, 0), (15, .ireturn, 1, 0, 0)]
def mc_X3_init : List (Nat × mm_E) := [(0, .aload_n 0, 1, 0, 0), (1, .invokespecial 3, 3, 999, 0), (4, .aload_n 0, 1, 0, 0), (5, .iconst 4, 1, 0, 0), (6, .newarray .int, 2, 20, 0), (8, .putfield 11, 3, 3, 0), (11, .aload_n 0, 1, 0, 0), (12, .iconst 4, 1, 0, 0), (13, .newarray .int, 2, 20, 0), (15, .putfield 15, 3, 3, 1), (18, .return_, 1, 0, 0)]
def mc_X3_oldestDay : List (Nat × mm_E) := [(0, .aload_n 0, 1, 0, 0), (1, .getfield 18, 3, 3, 2), (4, .ifCond .le 12, 3, 0, 0), (7, .aload_n 0, 1, 0, 0), (8, .getfield 11, 3, 3, 0), (11, .iconst 0, 1, 0, 0), (12, .iaload, 1, 0, 0), (13, .goto 5, 3, 0, 0), (16, .bipush (-4), 2, 0, 0), (18, .ireturn, 1, 0, 0)]
def mc_X3_notesOfOldestDay : List (Nat × mm_E) := [(0, .aload_n 0, 1, 0, 0), (1, .getfield 18, 3, 3, 2), (4, .ifCond .le 12, 3, 0, 0), (7, .aload_n 0, 1, 0, 0), (8, .getfield 15, 3, 3, 1), (11, .iconst 0, 1, 0, 0), (12, .iaload, 1, 0, 0), (13, .goto 4, 3, 0, 0), (16, .iconst 0, 1, 0, 0), (17, .ireturn, 1, 0, 0)]
def mc_X3_put : List (Nat × mm_E) := [(0, .iload_n 2, 1, 0, 0), (1, .ifCond .gt 4, 3, 0, 0), (4, .return_, 1, 0, 0), (5, .aload_n 0, 1, 0, 0), (6, .dup, 1, 0, 0), (7, .getfield 22, 3, 3, 3), (10, .iload_n 2, 1, 0, 0), (11, .iadd, 1, 0, 0), (12, .putfield 22, 3, 3, 3), (15, .aload_n 0, 1, 0, 0), (16, .getfield 18, 3, 3, 2), (19, .istore_n 3, 1, 0, 0), (20, .iload_n 3, 1, 0, 0), (21, .ifCond .le 21, 3, 0, 0), (24, .aload_n 0, 1, 0, 0), (25, .getfield 11, 3, 3, 0), (28, .iload_n 3, 1, 0, 0), (29, .iconst 1, 1, 0, 0), (30, .isub, 1, 0, 0), (31, .iaload, 1, 0, 0), (32, .iload_n 1, 1, 0, 0), (33, .if_icmp .le 9, 3, 0, 0), (36, .iinc 3 (-1), 3, 0, 0), (39, .goto (-19), 3, 0, 0), (42, .iload_n 3, 1, 0, 0), (43, .ifCond .le 30, 3, 0, 0), (46, .aload_n 0, 1, 0, 0), (47, .getfield 11, 3, 3, 0), (50, .iload_n 3, 1, 0, 0), (51, .iconst 1, 1, 0, 0), (52, .isub, 1, 0, 0), (53, .iaload, 1, 0, 0), (54, .iload_n 1, 1, 0, 0), (55, .if_icmp .ne 18, 3, 0, 0), (58, .aload_n 0, 1, 0, 0), (59, .getfield 15, 3, 3, 1), (62, .iload_n 3, 1, 0, 0), (63, .iconst 1, 1, 0, 0), (64, .isub, 1, 0, 0), (65, .dup2, 1, 0, 0), (66, .iaload, 1, 0, 0), (67, .iload_n 2, 1, 0, 0), (68, .iadd, 1, 0, 0), (69, .iastore, 1, 0, 0), (70, .goto 10, 3, 0, 0), (73, .aload_n 0, 1, 0, 0), (74, .iload_n 3, 1, 0, 0), (75, .iload_n 1, 1, 0, 0), (76, .iload_n 2, 1, 0, 0), (77, .invokevirtual 25, 3, 28, 3), (80, .return_, 1, 0, 0)]
def mc_X3_insertHeap : List (Nat × mm_E) := [(0, .aload_n 0, 1, 0, 0), (1, .getfield 18, 3, 3, 2), (4, .aload_n 0, 1, 0, 0), (5, .getfield 11, 3, 3, 0), (8, .arraylength, 1, 0, 0), (9, .if_icmp .lt 37, 3, 0, 0), (12, .aload_n 0, 1, 0, 0), (13, .aload_n 0, 1, 0, 0), (14, .getfield 11, 3, 3, 0), (17, .aload_n 0, 1, 0, 0), (18, .getfield 18, 3, 3, 2), (21, .iconst 2, 1, 0, 0), (22, .imul, 1, 0, 0), (23, .invokestatic 29, 3, 154, 2), (26, .putfield 11, 3, 3, 0), (29, .aload_n 0, 1, 0, 0), (30, .aload_n 0, 1, 0, 0), (31, .getfield 15, 3, 3, 1), (34, .aload_n 0, 1, 0, 0), (35, .getfield 18, 3, 3, 2), (38, .iconst 2, 1, 0, 0), (39, .imul, 1, 0, 0), (40, .invokestatic 29, 3, 154, 2), (43, .putfield 15, 3, 3, 1), (46, .aload_n 0, 1, 0, 0), (47, .getfield 18, 3, 3, 2), (50, .istore 4, 2, 0, 0), (52, .iload 4, 2, 0, 0), (54, .iload_n 1, 1, 0, 0), (55, .if_icmp .le 41, 3, 0, 0), (58, .aload_n 0, 1, 0, 0), (59, .getfield 11, 3, 3, 0), (62, .iload 4, 2, 0, 0), (64, .aload_n 0, 1, 0, 0), (65, .getfield 11, 3, 3, 0), (68, .iload 4, 2, 0, 0), (70, .iconst 1, 1, 0, 0), (71, .isub, 1, 0, 0), (72, .iaload, 1, 0, 0), (73, .iastore, 1, 0, 0), (74, .aload_n 0, 1, 0, 0), (75, .getfield 15, 3, 3, 1), (78, .iload 4, 2, 0, 0), (80, .aload_n 0, 1, 0, 0), (81, .getfield 15, 3, 3, 1), (84, .iload 4, 2, 0, 0), (86, .iconst 1, 1, 0, 0), (87, .isub, 1, 0, 0), (88, .iaload, 1, 0, 0), (89, .iastore, 1, 0, 0), (90, .iinc 4 (-1), 3, 0, 0), (93, .goto (-41), 3, 0, 0), (96, .aload_n 0, 1, 0, 0), (97, .getfield 11, 3, 3, 0), (100, .iload_n 1, 1, 0, 0), (101, .iload_n 2, 1, 0, 0), (102, .iastore, 1, 0, 0), (103, .aload_n 0, 1, 0, 0), (104, .getfield 15, 3, 3, 1), (107, .iload_n 1, 1, 0, 0), (108, .iload_n 3, 1, 0, 0), (109, .iastore, 1, 0, 0), (110, .aload_n 0, 1, 0, 0), (111, .dup, 1, 0, 0), (112, .getfield 18, 3, 3, 2), (115, .iconst 1, 1, 0, 0), (116, .iadd, 1, 0, 0), (117, .putfield 18, 3, 3, 2), (120, .return_, 1, 0, 0)]
def mc_X3_moveOldest : List (Nat × mm_E) := [(0, .iconst 0, 1, 0, 0), (1, .iload_n 1, 1, 0, 0), (2, .aload_n 0, 1, 0, 0), (3, .getfield 22, 3, 3, 3), (6, .invokestatic 35, 3, 158, 2), (9, .invokestatic 41, 3, 157, 2), (12, .istore_n 3, 1, 0, 0), (13, .iload_n 3, 1, 0, 0), (14, .istore 4, 2, 0, 0), (16, .iconst 0, 1, 0, 0), (17, .istore 5, 2, 0, 0), (19, .iconst 0, 1, 0, 0), (20, .istore 6, 2, 0, 0), (22, .iload 6, 2, 0, 0), (24, .aload_n 0, 1, 0, 0), (25, .getfield 18, 3, 3, 2), (28, .if_icmp .ge 73, 3, 0, 0), (31, .iload 4, 2, 0, 0), (33, .ifCond .le 68, 3, 0, 0), (36, .iload 4, 2, 0, 0), (38, .aload_n 0, 1, 0, 0), (39, .getfield 15, 3, 3, 1), (42, .iload 6, 2, 0, 0), (44, .iaload, 1, 0, 0), (45, .invokestatic 35, 3, 158, 2), (48, .istore 7, 2, 0, 0), (50, .aload_n 2, 1, 0, 0), (51, .aload_n 0, 1, 0, 0), (52, .getfield 11, 3, 3, 0), (55, .iload 6, 2, 0, 0), (57, .iaload, 1, 0, 0), (58, .iload 7, 2, 0, 0), (60, .invokevirtual 44, 3, 27, 2), (63, .aload_n 0, 1, 0, 0), (64, .getfield 15, 3, 3, 1), (67, .iload 6, 2, 0, 0), (69, .dup2, 1, 0, 0), (70, .iaload, 1, 0, 0), (71, .iload 7, 2, 0, 0), (73, .isub, 1, 0, 0), (74, .iastore, 1, 0, 0), (75, .iload 4, 2, 0, 0), (77, .iload 7, 2, 0, 0), (79, .isub, 1, 0, 0), (80, .istore 4, 2, 0, 0), (82, .aload_n 0, 1, 0, 0), (83, .getfield 15, 3, 3, 1), (86, .iload 6, 2, 0, 0), (88, .iaload, 1, 0, 0), (89, .ifCond .ne 6, 3, 0, 0), (92, .iinc 5 1, 3, 0, 0), (95, .iinc 6 1, 3, 0, 0), (98, .goto (-76), 3, 0, 0), (101, .aload_n 0, 1, 0, 0), (102, .dup, 1, 0, 0), (103, .getfield 22, 3, 3, 3), (106, .iload_n 3, 1, 0, 0), (107, .isub, 1, 0, 0), (108, .putfield 22, 3, 3, 3), (111, .aload_n 0, 1, 0, 0), (112, .iload 5, 2, 0, 0), (114, .invokevirtual 48, 3, 32, 1), (117, .iload_n 3, 1, 0, 0), (118, .ireturn, 1, 0, 0)]
def mc_X3_dropNewest : List (Nat × mm_E) := [(0, .iload_n 1, 1, 0, 0), (1, .istore_n 2, 1, 0, 0), (2, .aload_n 0, 1, 0, 0), (3, .getfield 18, 3, 3, 2), (6, .iconst 1, 1, 0, 0), (7, .isub, 1, 0, 0), (8, .istore_n 3, 1, 0, 0), (9, .iload_n 3, 1, 0, 0), (10, .ifCond .lt 66, 3, 0, 0), (13, .iload_n 2, 1, 0, 0), (14, .ifCond .le 62, 3, 0, 0), (17, .iload_n 2, 1, 0, 0), (18, .aload_n 0, 1, 0, 0), (19, .getfield 15, 3, 3, 1), (22, .iload_n 3, 1, 0, 0), (23, .iaload, 1, 0, 0), (24, .invokestatic 35, 3, 158, 2), (27, .istore 4, 2, 0, 0), (29, .aload_n 0, 1, 0, 0), (30, .getfield 15, 3, 3, 1), (33, .iload_n 3, 1, 0, 0), (34, .dup2, 1, 0, 0), (35, .iaload, 1, 0, 0), (36, .iload 4, 2, 0, 0), (38, .isub, 1, 0, 0), (39, .iastore, 1, 0, 0), (40, .iload_n 2, 1, 0, 0), (41, .iload 4, 2, 0, 0), (43, .isub, 1, 0, 0), (44, .istore_n 2, 1, 0, 0), (45, .aload_n 0, 1, 0, 0), (46, .dup, 1, 0, 0), (47, .getfield 22, 3, 3, 3), (50, .iload 4, 2, 0, 0), (52, .isub, 1, 0, 0), (53, .putfield 22, 3, 3, 3), (56, .aload_n 0, 1, 0, 0), (57, .getfield 15, 3, 3, 1), (60, .iload_n 3, 1, 0, 0), (61, .iaload, 1, 0, 0), (62, .ifCond .ne 8, 3, 0, 0), (65, .aload_n 0, 1, 0, 0), (66, .iload_n 3, 1, 0, 0), (67, .putfield 18, 3, 3, 2), (70, .iinc 3 (-1), 3, 0, 0), (73, .goto (-64), 3, 0, 0), (76, .return_, 1, 0, 0)]
def mc_X3_dropBefore : List (Nat × mm_E) := [(0, .iconst 0, 1, 0, 0), (1, .istore_n 2, 1, 0, 0), (2, .iconst 0, 1, 0, 0), (3, .istore_n 3, 1, 0, 0), (4, .iconst 0, 1, 0, 0), (5, .istore 4, 2, 0, 0), (7, .iload 4, 2, 0, 0), (9, .aload_n 0, 1, 0, 0), (10, .getfield 18, 3, 3, 2), (13, .if_icmp .ge 33, 3, 0, 0), (16, .aload_n 0, 1, 0, 0), (17, .getfield 11, 3, 3, 0), (20, .iload 4, 2, 0, 0), (22, .iaload, 1, 0, 0), (23, .iload_n 1, 1, 0, 0), (24, .if_icmp .ge 22, 3, 0, 0), (27, .iload_n 2, 1, 0, 0), (28, .aload_n 0, 1, 0, 0), (29, .getfield 15, 3, 3, 1), (32, .iload 4, 2, 0, 0), (34, .iaload, 1, 0, 0), (35, .iadd, 1, 0, 0), (36, .istore_n 2, 1, 0, 0), (37, .iinc 3 1, 3, 0, 0), (40, .iinc 4 1, 3, 0, 0), (43, .goto (-36), 3, 0, 0), (46, .aload_n 0, 1, 0, 0), (47, .dup, 1, 0, 0), (48, .getfield 22, 3, 3, 3), (51, .iload_n 2, 1, 0, 0), (52, .isub, 1, 0, 0), (53, .putfield 22, 3, 3, 3), (56, .aload_n 0, 1, 0, 0), (57, .iload_n 3, 1, 0, 0), (58, .invokevirtual 48, 3, 32, 1), (61, .iload_n 2, 1, 0, 0), (62, .ireturn, 1, 0, 0)]
def mc_X3_removeOldestHeaps : List (Nat × mm_E) := [(0, .iload_n 1, 1, 0, 0), (1, .istore_n 2, 1, 0, 0), (2, .iload_n 2, 1, 0, 0), (3, .aload_n 0, 1, 0, 0), (4, .getfield 18, 3, 3, 2), (7, .if_icmp .ge 37, 3, 0, 0), (10, .aload_n 0, 1, 0, 0), (11, .getfield 11, 3, 3, 0), (14, .iload_n 2, 1, 0, 0), (15, .iload_n 1, 1, 0, 0), (16, .isub, 1, 0, 0), (17, .aload_n 0, 1, 0, 0), (18, .getfield 11, 3, 3, 0), (21, .iload_n 2, 1, 0, 0), (22, .iaload, 1, 0, 0), (23, .iastore, 1, 0, 0), (24, .aload_n 0, 1, 0, 0), (25, .getfield 15, 3, 3, 1), (28, .iload_n 2, 1, 0, 0), (29, .iload_n 1, 1, 0, 0), (30, .isub, 1, 0, 0), (31, .aload_n 0, 1, 0, 0), (32, .getfield 15, 3, 3, 1), (35, .iload_n 2, 1, 0, 0), (36, .iaload, 1, 0, 0), (37, .iastore, 1, 0, 0), (38, .iinc 2 1, 3, 0, 0), (41, .goto (-39), 3, 0, 0), (44, .aload_n 0, 1, 0, 0), (45, .dup, 1, 0, 0), (46, .getfield 18, 3, 3, 2), (49, .iload_n 1, 1, 0, 0), (50, .isub, 1, 0, 0), (51, .putfield 18, 3, 3, 2), (54, .return_, 1, 0, 0)]
def mc_X4_init : List (Nat × mm_E) := [(0, .aload_n 0, 1, 0, 0), (1, .invokespecial 3, 3, 999, 0), (4, .aload_n 0, 1, 0, 0), (5, .iconst 5, 1, 0, 0), (6, .newarray .int, 2, 20, 0), (8, .putfield 9, 3, 4, 0), (11, .return_, 1, 0, 0)]
def mc_X4_read : List (Nat × mm_E) := [(0, .aload_n 0, 1, 0, 0), (1, .getfield 9, 3, 4, 0), (4, .iconst (-1), 1, 0, 0), (5, .invokestatic 15, 3, 152, 2), (8, .aload_n 0, 1, 0, 0), (9, .iconst 0, 1, 0, 0), (10, .putfield 21, 3, 4, 1), (13, .aload_n 0, 1, 0, 0), (14, .iconst 0, 1, 0, 0), (15, .putfield 25, 3, 4, 2), (18, .aload_n 0, 1, 0, 0), (19, .iconst 0, 1, 0, 0), (20, .putfield 28, 3, 4, 6), (23, .aload_n 0, 1, 0, 0), (24, .aload_n 1, 1, 0, 0), (25, .invokevirtual 31, 3, 38, 1), (28, .iconst 0, 1, 0, 0), (29, .istore_n 2, 1, 0, 0), (30, .iload_n 2, 1, 0, 0), (31, .iconst 5, 1, 0, 0), (32, .if_icmp .gt 43, 3, 0, 0), (35, .iload_n 2, 1, 0, 0), (36, .ifCond .le 14, 3, 0, 0), (39, .aload_n 0, 1, 0, 0), (40, .getfield 35, 3, 4, 3), (43, .ifCond .ne 7, 3, 0, 0), (46, .iconst 1, 1, 0, 0), (47, .goto 4, 3, 0, 0), (50, .iconst 0, 1, 0, 0), (51, .istore_n 3, 1, 0, 0), (52, .aload_n 0, 1, 0, 0), (53, .getfield 21, 3, 4, 1), (56, .ifCond .ne 7, 3, 0, 0), (59, .iload_n 3, 1, 0, 0), (60, .ifCond .eq 4, 3, 0, 0), (63, .return_, 1, 0, 0), (64, .aload_n 0, 1, 0, 0), (65, .aload_n 1, 1, 0, 0), (66, .invokevirtual 38, 3, 35, 1), (69, .iinc 2 1, 3, 0, 0), (72, .goto (-42), 3, 0, 0), (75, .return_, 1, 0, 0)]
def mc_X4_readLaw : List (Nat × mm_E) := [(0, .aload_n 0, 1, 0, 0), (1, .iconst 1, 1, 0, 0), (2, .invokevirtual 41, 3, 36, 1), (5, .ifCond .ne 4, 3, 0, 0), (8, .return_, 1, 0, 0), (9, .aload_n 0, 1, 0, 0), (10, .getfield 45, 3, 4, 4), (13, .istore_n 2, 1, 0, 0), (14, .aload_n 0, 1, 0, 0), (15, .getfield 9, 3, 4, 0), (18, .iload_n 2, 1, 0, 0), (19, .iaload, 1, 0, 0), (20, .iconst (-1), 1, 0, 0), (21, .if_icmp .eq 9, 3, 0, 0), (24, .aload_n 0, 1, 0, 0), (25, .iconst 4, 1, 0, 0), (26, .invokevirtual 48, 3, 37, 1), (29, .return_, 1, 0, 0), (30, .aload_n 0, 1, 0, 0), (31, .aload_n 1, 1, 0, 0), (32, .invokevirtual 31, 3, 38, 1), (35, .aload_n 0, 1, 0, 0), (36, .iconst 2, 1, 0, 0), (37, .invokevirtual 41, 3, 36, 1), (40, .ifCond .ne 4, 3, 0, 0), (43, .return_, 1, 0, 0), (44, .aload_n 0, 1, 0, 0), (45, .getfield 45, 3, 4, 4), (48, .getstatic 52, 3, 1, 0), (51, .iload_n 2, 1, 0, 0), (52, .iaload, 1, 0, 0), (53, .if_icmp .lt 15, 3, 0, 0), (56, .aload_n 0, 1, 0, 0), (57, .getfield 45, 3, 4, 4), (60, .getstatic 55, 3, 2, 0), (63, .iload_n 2, 1, 0, 0), (64, .iaload, 1, 0, 0), (65, .if_icmp .le 9, 3, 0, 0), (68, .aload_n 0, 1, 0, 0), (69, .iconst 3, 1, 0, 0), (70, .invokevirtual 48, 3, 37, 1), (73, .return_, 1, 0, 0), (74, .aload_n 0, 1, 0, 0), (75, .getfield 9, 3, 4, 0), (78, .iload_n 2, 1, 0, 0), (79, .aload_n 0, 1, 0, 0), (80, .getfield 45, 3, 4, 4), (83, .iastore, 1, 0, 0), (84, .aload_n 0, 1, 0, 0), (85, .aload_n 1, 1, 0, 0), (86, .invokevirtual 31, 3, 38, 1), (89, .aload_n 0, 1, 0, 0), (90, .iconst 3, 1, 0, 0), (91, .invokevirtual 41, 3, 36, 1), (94, .ifCond .eq 8, 3, 0, 0), (97, .aload_n 0, 1, 0, 0), (98, .aload_n 1, 1, 0, 0), (99, .invokevirtual 31, 3, 38, 1), (102, .return_, 1, 0, 0)]
def mc_X4_canStand : List (Nat × mm_E) := [(0, .aload_n 0, 1, 0, 0), (1, .getfield 21, 3, 4, 1), (4, .ifCond .ne 16, 3, 0, 0), (7, .aload_n 0, 1, 0, 0), (8, .getfield 35, 3, 4, 3), (11, .iload_n 1, 1, 0, 0), (12, .if_icmp .eq 8, 3, 0, 0), (15, .aload_n 0, 1, 0, 0), (16, .iconst 2, 1, 0, 0), (17, .invokevirtual 48, 3, 37, 1), (20, .aload_n 0, 1, 0, 0), (21, .getfield 21, 3, 4, 1), (24, .ifCond .ne 7, 3, 0, 0), (27, .iconst 1, 1, 0, 0), (28, .goto 4, 3, 0, 0), (31, .iconst 0, 1, 0, 0), (32, .ireturn, 1, 1, 0)]
def mc_X4_fail : List (Nat × mm_E) := [(0, .aload_n 0, 1, 0, 0), (1, .iload_n 1, 1, 0, 0), (2, .putfield 21, 3, 4, 1), (5, .aload_n 0, 1, 0, 0), (6, .aload_n 0, 1, 0, 0), (7, .getfield 58, 3, 4, 5), (10, .putfield 25, 3, 4, 2), (13, .return_, 1, 0, 0)]
def mc_X4_scan : List (Nat × mm_E) := [(0, .aload_n 0, 1, 0, 0), (1, .aload_n 1, 1, 0, 0), (2, .invokevirtual 61, 3, 39, 1), (5, .aload_n 0, 1, 0, 0), (6, .aload_n 0, 1, 0, 0), (7, .getfield 28, 3, 4, 6), (10, .putfield 58, 3, 4, 5), (13, .aload_n 0, 1, 0, 0), (14, .getfield 58, 3, 4, 5), (17, .aload_n 1, 1, 0, 0), (18, .getfield 64, 3, 6, 1), (21, .if_icmp .lt 11, 3, 0, 0), (24, .aload_n 0, 1, 0, 0), (25, .iconst 0, 1, 0, 0), (26, .putfield 35, 3, 4, 3), (29, .goto 77, 3, 0, 0), (32, .aload_n 1, 1, 0, 0), (33, .aload_n 0, 1, 0, 0), (34, .getfield 58, 3, 4, 5), (37, .invokevirtual 69, 3, 50, 1), (40, .ifCond .eq 11, 3, 0, 0), (43, .aload_n 0, 1, 0, 0), (44, .aload_n 1, 1, 0, 0), (45, .invokevirtual 72, 3, 40, 1), (48, .goto 58, 3, 0, 0), (51, .aload_n 1, 1, 0, 0), (52, .aload_n 0, 1, 0, 0), (53, .getfield 58, 3, 4, 5), (56, .invokevirtual 75, 3, 51, 1), (59, .ifCond .eq 11, 3, 0, 0), (62, .aload_n 0, 1, 0, 0), (63, .aload_n 1, 1, 0, 0), (64, .invokevirtual 78, 3, 42, 1), (67, .goto 39, 3, 0, 0), (70, .aload_n 1, 1, 0, 0), (71, .aload_n 0, 1, 0, 0), (72, .getfield 58, 3, 4, 5), (75, .invokevirtual 81, 3, 49, 1), (78, .bipush 59, 2, 0, 0), (80, .if_icmp .ne 21, 3, 0, 0), (83, .aload_n 0, 1, 0, 0), (84, .iconst 3, 1, 0, 0), (85, .putfield 35, 3, 4, 3), (88, .aload_n 0, 1, 0, 0), (89, .aload_n 0, 1, 0, 0), (90, .getfield 58, 3, 4, 5), (93, .iconst 1, 1, 0, 0), (94, .iadd, 1, 0, 0), (95, .putfield 28, 3, 4, 6), (98, .goto 8, 3, 0, 0), (101, .aload_n 0, 1, 0, 0), (102, .iconst 1, 1, 0, 0), (103, .invokevirtual 48, 3, 37, 1), (106, .return_, 1, 0, 0)]
def mc_X4_skipBlanks : List (Nat × mm_E) := [(0, .aload_n 0, 1, 0, 0), (1, .getfield 28, 3, 4, 6), (4, .aload_n 1, 1, 0, 0), (5, .getfield 64, 3, 6, 1), (8, .if_icmp .ge 29, 3, 0, 0), (11, .aload_n 1, 1, 0, 0), (12, .aload_n 0, 1, 0, 0), (13, .getfield 28, 3, 4, 6), (16, .invokevirtual 81, 3, 49, 1), (19, .bipush 32, 2, 0, 0), (21, .if_icmp .ne 16, 3, 0, 0), (24, .aload_n 0, 1, 0, 0), (25, .dup, 1, 0, 0), (26, .getfield 28, 3, 4, 6), (29, .iconst 1, 1, 0, 0), (30, .iadd, 1, 0, 0), (31, .putfield 28, 3, 4, 6), (34, .goto (-34), 3, 0, 0), (37, .return_, 1, 0, 0)]
def mc_X4_scanName : List (Nat × mm_E) := [(0, .aload_n 0, 1, 0, 0), (1, .getfield 28, 3, 4, 6), (4, .aload_n 1, 1, 0, 0), (5, .getfield 64, 3, 6, 1), (8, .if_icmp .ge 27, 3, 0, 0), (11, .aload_n 1, 1, 0, 0), (12, .aload_n 0, 1, 0, 0), (13, .getfield 28, 3, 4, 6), (16, .invokevirtual 69, 3, 50, 1), (19, .ifCond .eq 16, 3, 0, 0), (22, .aload_n 0, 1, 0, 0), (23, .dup, 1, 0, 0), (24, .getfield 28, 3, 4, 6), (27, .iconst 1, 1, 0, 0), (28, .iadd, 1, 0, 0), (29, .putfield 28, 3, 4, 6), (32, .goto (-32), 3, 0, 0), (35, .aload_n 0, 1, 0, 0), (36, .iconst 1, 1, 0, 0), (37, .putfield 35, 3, 4, 3), (40, .aload_n 0, 1, 0, 0), (41, .bipush (-4), 2, 0, 0), (43, .putfield 45, 3, 4, 4), (46, .iconst 0, 1, 0, 0), (47, .istore_n 2, 1, 0, 0), (48, .iload_n 2, 1, 0, 0), (49, .iconst 5, 1, 0, 0), (50, .if_icmp .ge 33, 3, 0, 0), (53, .aload_n 1, 1, 0, 0), (54, .iload_n 2, 1, 0, 0), (55, .invokestatic 85, 3, 41, 1), (58, .aload_n 0, 1, 0, 0), (59, .getfield 58, 3, 4, 5), (62, .aload_n 0, 1, 0, 0), (63, .getfield 28, 3, 4, 6), (66, .invokevirtual 89, 3, 52, 3), (69, .ifCond .eq 8, 3, 0, 0), (72, .aload_n 0, 1, 0, 0), (73, .iload_n 2, 1, 0, 0), (74, .putfield 45, 3, 4, 4), (77, .iinc 2 1, 3, 0, 0), (80, .goto (-32), 3, 0, 0), (83, .aload_n 0, 1, 0, 0), (84, .getfield 45, 3, 4, 4), (87, .bipush (-4), 2, 0, 0), (89, .if_icmp .ne 8, 3, 0, 0), (92, .aload_n 0, 1, 0, 0), (93, .iconst 1, 1, 0, 0), (94, .invokevirtual 48, 3, 37, 1), (97, .return_, 1, 0, 0)]
def mc_X4_nameOf : List (Nat × mm_E) := [(0, .iload_n 0, 1, 0, 0), (1, .tableswitch 43 0 3 #[31, 34, 37, 40], 31, 0, 0), (32, .ldc 93, 2, 4, 0), (34, .areturn, 1, 0, 0), (35, .ldc 95, 2, 5, 0), (37, .areturn, 1, 0, 0), (38, .ldc 97, 2, 6, 0), (40, .areturn, 1, 0, 0), (41, .ldc 99, 2, 7, 0), (43, .areturn, 1, 0, 0), (44, .ldc 101, 2, 8, 0), (46, .areturn, 1, 0, 0)]
def mc_X4_scanNumber : List (Nat × mm_E) := [(0, .aload_n 0, 1, 0, 0), (1, .iconst 2, 1, 0, 0), (2, .putfield 35, 3, 4, 3), (5, .aload_n 0, 1, 0, 0), (6, .iconst 0, 1, 0, 0), (7, .putfield 45, 3, 4, 4), (10, .aload_n 0, 1, 0, 0), (11, .getfield 28, 3, 4, 6), (14, .aload_n 1, 1, 0, 0), (15, .getfield 64, 3, 6, 1), (18, .if_icmp .ge 63, 3, 0, 0), (21, .aload_n 1, 1, 0, 0), (22, .aload_n 0, 1, 0, 0), (23, .getfield 28, 3, 4, 6), (26, .invokevirtual 75, 3, 51, 1), (29, .ifCond .eq 52, 3, 0, 0), (32, .aload_n 0, 1, 0, 0), (33, .getfield 28, 3, 4, 6), (36, .aload_n 0, 1, 0, 0), (37, .getfield 58, 3, 4, 5), (40, .isub, 1, 0, 0), (41, .iconst 4, 1, 0, 0), (42, .if_icmp .ge 26, 3, 0, 0), (45, .aload_n 0, 1, 0, 0), (46, .aload_n 0, 1, 0, 0), (47, .getfield 45, 3, 4, 4), (50, .bipush 10, 2, 0, 0), (52, .imul, 1, 0, 0), (53, .aload_n 1, 1, 0, 0), (54, .aload_n 0, 1, 0, 0), (55, .getfield 28, 3, 4, 6), (58, .invokevirtual 81, 3, 49, 1), (61, .iadd, 1, 0, 0), (62, .bipush 48, 2, 0, 0), (64, .isub, 1, 0, 0), (65, .putfield 45, 3, 4, 4), (68, .aload_n 0, 1, 0, 0), (69, .dup, 1, 0, 0), (70, .getfield 28, 3, 4, 6), (73, .iconst 1, 1, 0, 0), (74, .iadd, 1, 0, 0), (75, .putfield 28, 3, 4, 6), (78, .goto (-68), 3, 0, 0), (81, .aload_n 0, 1, 0, 0), (82, .getfield 28, 3, 4, 6), (85, .aload_n 0, 1, 0, 0), (86, .getfield 58, 3, 4, 5), (89, .isub, 1, 0, 0), (90, .iconst 4, 1, 0, 0), (91, .if_icmp .le 8, 3, 0, 0), (94, .aload_n 0, 1, 0, 0), (95, .iconst 1, 1, 0, 0), (96, .invokevirtual 48, 3, 37, 1), (99, .return_, 1, 0, 0)]
def mc_X5_init : List (Nat × mm_E) := [(0, .aload_n 0, 1, 0, 0), (1, .invokespecial 3, 3, 999, 0), (4, .aload_n 0, 1, 0, 0), (5, .iload_n 1, 1, 0, 0), (6, .putfield 9, 3, 5, 0), (9, .aload_n 0, 1, 0, 0), (10, .iconst 0, 1, 0, 0), (11, .iload_n 2, 1, 0, 0), (12, .invokestatic 15, 3, 157, 2), (15, .newarray .int, 2, 20, 0), (17, .putfield 21, 3, 5, 1), (20, .return_, 1, 0, 0)]
def mc_X5_has : List (Nat × mm_E) := [(0, .iload_n 1, 1, 0, 0), (1, .ifCond .lt 16, 3, 0, 0), (4, .iload_n 1, 1, 0, 0), (5, .aload_n 0, 1, 0, 0), (6, .getfield 21, 3, 5, 1), (9, .arraylength, 1, 0, 0), (10, .if_icmp .ge 7, 3, 0, 0), (13, .iconst 1, 1, 0, 0), (14, .goto 4, 3, 0, 0), (17, .iconst 0, 1, 0, 0), (18, .ireturn, 1, 1, 0)]
def mc_X5_at : List (Nat × mm_E) := [(0, .aload_n 0, 1, 0, 0), (1, .iload_n 1, 1, 0, 0), (2, .invokevirtual 25, 3, 44, 1), (5, .ifCond .eq 12, 3, 0, 0), (8, .aload_n 0, 1, 0, 0), (9, .getfield 21, 3, 5, 1), (12, .iload_n 1, 1, 0, 0), (13, .iaload, 1, 0, 0), (14, .goto 4, 3, 0, 0), (17, .iconst 0, 1, 0, 0), (18, .ireturn, 1, 0, 0)]
def mc_X5_write : List (Nat × mm_E) := [(0, .aload_n 0, 1, 0, 0), (1, .iload_n 1, 1, 0, 0), (2, .invokevirtual 25, 3, 44, 1), (5, .ifCond .eq 22, 3, 0, 0), (8, .aload_n 0, 1, 0, 0), (9, .getfield 21, 3, 5, 1), (12, .iload_n 1, 1, 0, 0), (13, .aload_n 0, 1, 0, 0), (14, .getfield 9, 3, 5, 0), (17, .ifCond .ne 8, 3, 0, 0), (20, .iload_n 2, 1, 0, 0), (21, .i2b, 1, 0, 0), (22, .goto 4, 3, 0, 0), (25, .iload_n 2, 1, 0, 0), (26, .iastore, 1, 0, 0), (27, .return_, 1, 0, 0)]
def mc_X6_init : List (Nat × mm_E) := [(0, .aload_n 0, 1, 0, 0), (1, .invokespecial 3, 3, 999, 0), (4, .aload_n 0, 1, 0, 0), (5, .sipush 200, 3, 0, 0), (8, .newarray .byte, 2, 21, 0), (10, .putfield 11, 3, 6, 0), (13, .return_, 1, 0, 0)]
def mc_X6_append : List (Nat × mm_E) := [(0, .aload_n 0, 1, 0, 0), (1, .getfield 15, 3, 6, 1), (4, .sipush 192, 3, 0, 0), (7, .if_icmp .le 5, 3, 0, 0), (10, .iconst 0, 1, 0, 0), (11, .ireturn, 1, 1, 0), (12, .bipush 7, 2, 0, 0), (14, .istore_n 3, 1, 0, 0), (15, .iload_n 3, 1, 0, 0), (16, .ifCond .lt 36, 3, 0, 0), (19, .aload_n 0, 1, 0, 0), (20, .getfield 11, 3, 6, 0), (23, .aload_n 0, 1, 0, 0), (24, .getfield 15, 3, 6, 1), (27, .lload_n 1, 1, 0, 0), (28, .bipush 8, 2, 0, 0), (30, .iload_n 3, 1, 0, 0), (31, .imul, 1, 0, 0), (32, .lushr, 1, 0, 0), (33, .l2i, 1, 0, 0), (34, .i2b, 1, 0, 0), (35, .bastore, 1, 0, 0), (36, .aload_n 0, 1, 0, 0), (37, .dup, 1, 0, 0), (38, .getfield 15, 3, 6, 1), (41, .iconst 1, 1, 0, 0), (42, .iadd, 1, 0, 0), (43, .putfield 15, 3, 6, 1), (46, .iinc 3 (-1), 3, 0, 0), (49, .goto (-34), 3, 0, 0), (52, .iconst 1, 1, 0, 0), (53, .ireturn, 1, 1, 0)]
def mc_X6_at : List (Nat × mm_E) := [(0, .iload_n 1, 1, 0, 0), (1, .ifCond .lt 11, 3, 0, 0), (4, .iload_n 1, 1, 0, 0), (5, .aload_n 0, 1, 0, 0), (6, .getfield 15, 3, 6, 1), (9, .if_icmp .lt 8, 3, 0, 0), (12, .bipush (-4), 2, 0, 0), (14, .goto 9, 3, 0, 0), (17, .aload_n 0, 1, 0, 0), (18, .getfield 11, 3, 6, 0), (21, .iload_n 1, 1, 0, 0), (22, .baload, 1, 0, 0), (23, .ireturn, 1, 0, 0)]
def mc_X6_isLetter : List (Nat × mm_E) := [(0, .aload_n 0, 1, 0, 0), (1, .iload_n 1, 1, 0, 0), (2, .invokevirtual 19, 3, 49, 1), (5, .istore_n 2, 1, 0, 0), (6, .iload_n 2, 1, 0, 0), (7, .bipush 97, 2, 0, 0), (9, .if_icmp .lt 13, 3, 0, 0), (12, .iload_n 2, 1, 0, 0), (13, .bipush 122, 2, 0, 0), (15, .if_icmp .gt 7, 3, 0, 0), (18, .iconst 1, 1, 0, 0), (19, .goto 4, 3, 0, 0), (22, .iconst 0, 1, 0, 0), (23, .ireturn, 1, 1, 0)]
def mc_X6_isFigure : List (Nat × mm_E) := [(0, .aload_n 0, 1, 0, 0), (1, .iload_n 1, 1, 0, 0), (2, .invokevirtual 19, 3, 49, 1), (5, .istore_n 2, 1, 0, 0), (6, .iload_n 2, 1, 0, 0), (7, .bipush 48, 2, 0, 0), (9, .if_icmp .lt 13, 3, 0, 0), (12, .iload_n 2, 1, 0, 0), (13, .bipush 57, 2, 0, 0), (15, .if_icmp .gt 7, 3, 0, 0), (18, .iconst 1, 1, 0, 0), (19, .goto 4, 3, 0, 0), (22, .iconst 0, 1, 0, 0), (23, .ireturn, 1, 1, 0)]
def mc_X6_spells : List (Nat × mm_E) := [(0, .aload_n 1, 1, 0, 0), (1, .invokevirtual 23, 3, 155, 0), (4, .iload_n 3, 1, 0, 0), (5, .iload_n 2, 1, 0, 0), (6, .isub, 1, 0, 0), (7, .if_icmp .eq 5, 3, 0, 0), (10, .iconst 0, 1, 0, 0), (11, .ireturn, 1, 1, 0), (12, .iconst 0, 1, 0, 0), (13, .istore 4, 2, 0, 0), (15, .iload 4, 2, 0, 0), (17, .aload_n 1, 1, 0, 0), (18, .invokevirtual 23, 3, 155, 0), (21, .if_icmp .ge 28, 3, 0, 0), (24, .aload_n 0, 1, 0, 0), (25, .iload_n 2, 1, 0, 0), (26, .iload 4, 2, 0, 0), (28, .iadd, 1, 0, 0), (29, .invokevirtual 19, 3, 49, 1), (32, .aload_n 1, 1, 0, 0), (33, .iload 4, 2, 0, 0), (35, .invokevirtual 28, 3, 156, 1), (38, .if_icmp .eq 5, 3, 0, 0), (41, .iconst 0, 1, 0, 0), (42, .ireturn, 1, 1, 0), (43, .iinc 4 1, 3, 0, 0), (46, .goto (-31), 3, 0, 0), (49, .iconst 1, 1, 0, 0), (50, .ireturn, 1, 1, 0)]
def mc_X7_init : List (Nat × mm_E) := [(0, .aload_n 0, 1, 0, 0), (1, .invokespecial 3, 3, 999, 0), (4, .aload_n 0, 1, 0, 0), (5, .bipush 10, 2, 0, 0), (7, .newarray .int, 2, 20, 0), (9, .putfield 9, 3, 7, 0), (12, .aload_n 0, 1, 0, 0), (13, .bipush 10, 2, 0, 0), (15, .newarray .int, 2, 20, 0), (17, .putfield 15, 3, 7, 1), (20, .aload_n 0, 1, 0, 0), (21, .bipush 10, 2, 0, 0), (23, .newarray .int, 2, 20, 0), (25, .putfield 18, 3, 7, 2), (28, .return_, 1, 0, 0)]
def mc_X7_has : List (Nat × mm_E) := [(0, .iload_n 1, 1, 0, 0), (1, .ifCond .lt 15, 3, 0, 0), (4, .iload_n 1, 1, 0, 0), (5, .aload_n 0, 1, 0, 0), (6, .getfield 21, 3, 7, 3), (9, .if_icmp .ge 7, 3, 0, 0), (12, .iconst 1, 1, 0, 0), (13, .goto 4, 3, 0, 0), (16, .iconst 0, 1, 0, 0), (17, .ireturn, 1, 1, 0)]
def mc_X7_familyOf : List (Nat × mm_E) := [(0, .aload_n 0, 1, 0, 0), (1, .iload_n 1, 1, 0, 0), (2, .invokevirtual 25, 3, 54, 1), (5, .ifCond .eq 12, 3, 0, 0), (8, .aload_n 0, 1, 0, 0), (9, .getfield 9, 3, 7, 0), (12, .iload_n 1, 1, 0, 0), (13, .iaload, 1, 0, 0), (14, .goto 5, 3, 0, 0), (17, .bipush (-4), 2, 0, 0), (19, .ireturn, 1, 0, 0)]
def mc_X7_fromOf : List (Nat × mm_E) := [(0, .aload_n 0, 1, 0, 0), (1, .iload_n 1, 1, 0, 0), (2, .invokevirtual 25, 3, 54, 1), (5, .ifCond .eq 12, 3, 0, 0), (8, .aload_n 0, 1, 0, 0), (9, .getfield 15, 3, 7, 1), (12, .iload_n 1, 1, 0, 0), (13, .iaload, 1, 0, 0), (14, .goto 5, 3, 0, 0), (17, .bipush (-4), 2, 0, 0), (19, .ireturn, 1, 0, 0)]
def mc_X7_toOf : List (Nat × mm_E) := [(0, .aload_n 0, 1, 0, 0), (1, .iload_n 1, 1, 0, 0), (2, .invokevirtual 25, 3, 54, 1), (5, .ifCond .eq 12, 3, 0, 0), (8, .aload_n 0, 1, 0, 0), (9, .getfield 18, 3, 7, 2), (12, .iload_n 1, 1, 0, 0), (13, .iaload, 1, 0, 0), (14, .goto 5, 3, 0, 0), (17, .bipush (-4), 2, 0, 0), (19, .ireturn, 1, 0, 0)]
def mc_X7_add : List (Nat × mm_E) := [(0, .aload_n 0, 1, 0, 0), (1, .getfield 21, 3, 7, 3), (4, .bipush 10, 2, 0, 0), (6, .if_icmp .lt 5, 3, 0, 0), (9, .iconst 0, 1, 0, 0), (10, .ireturn, 1, 1, 0), (11, .aload_n 0, 1, 0, 0), (12, .getfield 9, 3, 7, 0), (15, .aload_n 0, 1, 0, 0), (16, .getfield 21, 3, 7, 3), (19, .iload_n 1, 1, 0, 0), (20, .iastore, 1, 0, 0), (21, .aload_n 0, 1, 0, 0), (22, .getfield 15, 3, 7, 1), (25, .aload_n 0, 1, 0, 0), (26, .getfield 21, 3, 7, 3), (29, .iload_n 2, 1, 0, 0), (30, .iastore, 1, 0, 0), (31, .aload_n 0, 1, 0, 0), (32, .getfield 18, 3, 7, 2), (35, .aload_n 0, 1, 0, 0), (36, .getfield 21, 3, 7, 3), (39, .iload_n 3, 1, 0, 0), (40, .iastore, 1, 0, 0), (41, .aload_n 0, 1, 0, 0), (42, .dup, 1, 0, 0), (43, .getfield 21, 3, 7, 3), (46, .iconst 1, 1, 0, 0), (47, .iadd, 1, 0, 0), (48, .putfield 21, 3, 7, 3), (51, .iconst 1, 1, 0, 0), (52, .ireturn, 1, 1, 0)]
def mc_X7_remove : List (Nat × mm_E) := [(0, .aload_n 0, 1, 0, 0), (1, .iload_n 1, 1, 0, 0), (2, .invokevirtual 25, 3, 54, 1), (5, .ifCond .ne 4, 3, 0, 0), (8, .return_, 1, 0, 0), (9, .iload_n 1, 1, 0, 0), (10, .iconst 1, 1, 0, 0), (11, .iadd, 1, 0, 0), (12, .istore_n 2, 1, 0, 0), (13, .iload_n 2, 1, 0, 0), (14, .aload_n 0, 1, 0, 0), (15, .getfield 21, 3, 7, 3), (18, .if_icmp .ge 51, 3, 0, 0), (21, .aload_n 0, 1, 0, 0), (22, .getfield 9, 3, 7, 0), (25, .iload_n 2, 1, 0, 0), (26, .iconst 1, 1, 0, 0), (27, .isub, 1, 0, 0), (28, .aload_n 0, 1, 0, 0), (29, .getfield 9, 3, 7, 0), (32, .iload_n 2, 1, 0, 0), (33, .iaload, 1, 0, 0), (34, .iastore, 1, 0, 0), (35, .aload_n 0, 1, 0, 0), (36, .getfield 15, 3, 7, 1), (39, .iload_n 2, 1, 0, 0), (40, .iconst 1, 1, 0, 0), (41, .isub, 1, 0, 0), (42, .aload_n 0, 1, 0, 0), (43, .getfield 15, 3, 7, 1), (46, .iload_n 2, 1, 0, 0), (47, .iaload, 1, 0, 0), (48, .iastore, 1, 0, 0), (49, .aload_n 0, 1, 0, 0), (50, .getfield 18, 3, 7, 2), (53, .iload_n 2, 1, 0, 0), (54, .iconst 1, 1, 0, 0), (55, .isub, 1, 0, 0), (56, .aload_n 0, 1, 0, 0), (57, .getfield 18, 3, 7, 2), (60, .iload_n 2, 1, 0, 0), (61, .iaload, 1, 0, 0), (62, .iastore, 1, 0, 0), (63, .iinc 2 1, 3, 0, 0), (66, .goto (-53), 3, 0, 0), (69, .aload_n 0, 1, 0, 0), (70, .dup, 1, 0, 0), (71, .getfield 21, 3, 7, 3), (74, .iconst 1, 1, 0, 0), (75, .isub, 1, 0, 0), (76, .putfield 21, 3, 7, 3), (79, .return_, 1, 0, 0)]
def mc_X7_areOf : List (Nat × mm_E) := [(0, .iconst 0, 1, 0, 0), (1, .istore_n 2, 1, 0, 0), (2, .iload_n 2, 1, 0, 0), (3, .aload_n 0, 1, 0, 0), (4, .getfield 21, 3, 7, 3), (7, .if_icmp .ge 21, 3, 0, 0), (10, .aload_n 0, 1, 0, 0), (11, .getfield 9, 3, 7, 0), (14, .iload_n 2, 1, 0, 0), (15, .iaload, 1, 0, 0), (16, .iload_n 1, 1, 0, 0), (17, .if_icmp .ne 5, 3, 0, 0), (20, .iconst 1, 1, 0, 0), (21, .ireturn, 1, 1, 0), (22, .iinc 2 1, 3, 0, 0), (25, .goto (-23), 3, 0, 0), (28, .iconst 0, 1, 0, 0), (29, .ireturn, 1, 1, 0)]
def mc_X8_init : List (Nat × mm_E) := [(0, .aload_n 0, 1, 0, 0), (1, .invokespecial 1, 3, 999, 0), (4, .aload_n 0, 1, 0, 0), (5, .new 7, 3, 6, 0), (8, .dup, 1, 0, 0), (9, .invokespecial 9, 3, 47, 0), (12, .putfield 10, 3, 8, 0), (15, .aload_n 0, 1, 0, 0), (16, .new 16, 3, 4, 0), (19, .dup, 1, 0, 0), (20, .invokespecial 18, 3, 33, 0), (23, .putfield 19, 3, 8, 1), (26, .aload_n 0, 1, 0, 0), (27, .new 23, 3, 1, 0), (30, .dup, 1, 0, 0), (31, .invokespecial 25, 3, 5, 0), (34, .putfield 26, 3, 8, 2), (37, .aload_n 0, 1, 0, 0), (38, .bipush 12, 2, 0, 0), (40, .anewarray 30, 3, 23, 0), (43, .putfield 32, 3, 8, 3), (46, .aload_n 0, 1, 0, 0), (47, .new 36, 3, 7, 0), (50, .dup, 1, 0, 0), (51, .invokespecial 38, 3, 53, 0), (54, .putfield 39, 3, 8, 4), (57, .aload_n 0, 1, 0, 0), (58, .new 36, 3, 7, 0), (61, .dup, 1, 0, 0), (62, .invokespecial 38, 3, 53, 0), (65, .putfield 43, 3, 8, 5), (68, .aload_n 0, 1, 0, 0), (69, .new 46, 3, 2, 0), (72, .dup, 1, 0, 0), (73, .invokespecial 48, 3, 11, 0), (76, .putfield 49, 3, 8, 6), (79, .aload_n 0, 1, 0, 0), (80, .iconst 4, 1, 0, 0), (81, .anewarray 53, 3, 24, 0), (84, .putfield 55, 3, 8, 7), (87, .return_, 1, 0, 0)]
def mc_X8_feed : List (Nat × mm_E) := [(0, .aload_n 0, 1, 0, 0), (1, .getfield 10, 3, 8, 0), (4, .lload_n 1, 1, 0, 0), (5, .invokevirtual 59, 3, 48, 1), (8, .ifCond .eq 13, 3, 0, 0), (11, .aload_n 0, 1, 0, 0), (12, .getfield 10, 3, 8, 0), (15, .getfield 63, 3, 6, 1), (18, .goto 5, 3, 0, 0), (21, .bipush (-3), 2, 0, 0), (23, .ireturn, 1, 0, 0)]
def mc_X8_end : List (Nat × mm_E) := [(0, .aload_n 0, 1, 0, 0), (1, .getfield 10, 3, 8, 0), (4, .getfield 63, 3, 6, 1), (7, .istore_n 2, 1, 0, 0), (8, .iload_n 1, 1, 0, 0), (9, .ifCond .lt 8, 3, 0, 0), (12, .iload_n 1, 1, 0, 0), (13, .iload_n 2, 1, 0, 0), (14, .if_icmp .le 5, 3, 0, 0), (17, .iconst (-1), 1, 0, 0), (18, .ireturn, 1, 0, 0), (19, .aload_n 0, 1, 0, 0), (20, .getfield 10, 3, 8, 0), (23, .iload_n 1, 1, 0, 0), (24, .putfield 63, 3, 6, 1), (27, .iload_n 2, 1, 0, 0), (28, .ireturn, 1, 0, 0)]
def mc_X8_vote : List (Nat × mm_E) := [(0, .iload_n 1, 1, 0, 0), (1, .aload_n 0, 1, 0, 0), (2, .getfield 67, 3, 8, 9), (5, .if_icmp .lt 10, 3, 0, 0), (8, .iload_n 1, 1, 0, 0), (9, .sipush 2000, 3, 0, 0), (12, .if_icmp .le 5, 3, 0, 0), (15, .iconst (-1), 1, 0, 0), (16, .ireturn, 1, 0, 0), (17, .aload_n 0, 1, 0, 0), (18, .getfield 26, 3, 8, 2), (21, .invokevirtual 70, 3, 6, 0), (24, .ifCond .eq 6, 3, 0, 0), (27, .bipush (-3), 2, 0, 0), (29, .ireturn, 1, 0, 0), (30, .aload_n 0, 1, 0, 0), (31, .getfield 19, 3, 8, 1), (34, .aload_n 0, 1, 0, 0), (35, .getfield 10, 3, 8, 0), (38, .invokevirtual 74, 3, 34, 1), (41, .aload_n 0, 1, 0, 0), (42, .getfield 10, 3, 8, 0), (45, .iconst 0, 1, 0, 0), (46, .putfield 63, 3, 6, 1), (49, .aload_n 0, 1, 0, 0), (50, .aload_n 0, 1, 0, 0), (51, .getfield 19, 3, 8, 1), (54, .getfield 78, 3, 4, 1), (57, .putfield 81, 3, 8, 10), (60, .aload_n 0, 1, 0, 0), (61, .getfield 81, 3, 8, 10), (64, .ifCond .eq 14, 3, 0, 0), (67, .bipush (-10), 2, 0, 0), (69, .aload_n 0, 1, 0, 0), (70, .getfield 19, 3, 8, 1), (73, .getfield 84, 3, 4, 2), (76, .isub, 1, 0, 0), (77, .ireturn, 1, 0, 0), (78, .aload_n 0, 1, 0, 0), (79, .getfield 26, 3, 8, 2), (82, .iload_n 1, 1, 0, 0), (83, .aload_n 0, 1, 0, 0), (84, .getfield 19, 3, 8, 1), (87, .getfield 87, 3, 4, 0), (90, .invokevirtual 91, 3, 7, 2), (93, .istore_n 2, 1, 0, 0), (94, .aload_n 0, 1, 0, 0), (95, .invokevirtual 95, 3, 88, 0), (98, .iload_n 2, 1, 0, 0), (99, .ireturn, 1, 0, 0)]
def mc_X8_fault : List (Nat × mm_E) := [(0, .aload_n 0, 1, 0, 0), (1, .getfield 81, 3, 8, 10), (4, .ireturn, 1, 0, 0)]
def mc_X8_unwind : List (Nat × mm_E) := [(0, .aload_n 0, 1, 0, 0), (1, .getfield 26, 3, 8, 2), (4, .getfield 98, 3, 1, 2), (7, .ifCond .ne 6, 3, 0, 0), (10, .bipush (-4), 2, 0, 0), (12, .ireturn, 1, 0, 0), (13, .aload_n 0, 1, 0, 0), (14, .getfield 26, 3, 8, 2), (17, .invokevirtual 101, 3, 8, 0), (20, .aload_n 0, 1, 0, 0), (21, .getfield 67, 3, 8, 9), (24, .if_icmp .gt 6, 3, 0, 0), (27, .bipush (-2), 2, 0, 0), (29, .ireturn, 1, 0, 0), (30, .aload_n 0, 1, 0, 0), (31, .getfield 26, 3, 8, 2), (34, .dup, 1, 0, 0), (35, .getfield 98, 3, 1, 2), (38, .iconst 1, 1, 0, 0), (39, .isub, 1, 0, 0), (40, .putfield 98, 3, 1, 2), (43, .aload_n 0, 1, 0, 0), (44, .getfield 26, 3, 8, 2), (47, .getfield 98, 3, 1, 2), (50, .ireturn, 1, 0, 0)]
def mc_X8_rule : List (Nat × mm_E) := [(0, .iload_n 1, 1, 0, 0), (1, .ifCond .lt 19, 3, 0, 0), (4, .iload_n 1, 1, 0, 0), (5, .sipush 2000, 3, 0, 0), (8, .if_icmp .gt 12, 3, 0, 0), (11, .iload_n 2, 1, 0, 0), (12, .ifCond .lt 8, 3, 0, 0), (15, .iload_n 2, 1, 0, 0), (16, .iconst 5, 1, 0, 0), (17, .if_icmp .le 5, 3, 0, 0), (20, .iconst (-1), 1, 0, 0), (21, .ireturn, 1, 0, 0), (22, .iload_n 2, 1, 0, 0), (23, .iconst 5, 1, 0, 0), (24, .if_icmp .ne 14, 3, 0, 0), (27, .aload_n 0, 1, 0, 0), (28, .getfield 26, 3, 8, 2), (31, .iload_n 1, 1, 0, 0), (32, .invokevirtual 105, 3, 9, 1), (35, .goto 12, 3, 0, 0), (38, .aload_n 0, 1, 0, 0), (39, .getfield 26, 3, 8, 2), (42, .iload_n 1, 1, 0, 0), (43, .iload_n 2, 1, 0, 0), (44, .invokevirtual 109, 3, 10, 2), (47, .ireturn, 1, 0, 0)]
def mc_X8_go : List (Nat × mm_E) := [(0, .iload_n 1, 1, 0, 0), (1, .iconst 1, 1, 0, 0), (2, .if_icmp .lt 9, 3, 0, 0), (5, .iload_n 1, 1, 0, 0), (6, .bipush 100, 2, 0, 0), (8, .if_icmp .le 5, 3, 0, 0), (11, .iconst (-1), 1, 0, 0), (12, .ireturn, 1, 0, 0), (13, .aload_n 0, 1, 0, 0), (14, .getfield 67, 3, 8, 9), (17, .iload_n 1, 1, 0, 0), (18, .iadd, 1, 0, 0), (19, .sipush 2000, 3, 0, 0), (22, .if_icmp .gt 23, 3, 0, 0), (25, .aload_n 0, 1, 0, 0), (26, .getfield 39, 3, 8, 4), (29, .getfield 113, 3, 7, 3), (32, .ifCond .gt 13, 3, 0, 0), (35, .aload_n 0, 1, 0, 0), (36, .getfield 43, 3, 8, 5), (39, .getfield 113, 3, 7, 3), (42, .ifCond .le 6, 3, 0, 0), (45, .bipush (-2), 2, 0, 0), (47, .ireturn, 1, 0, 0), (48, .iconst 0, 1, 0, 0), (49, .istore_n 2, 1, 0, 0), (50, .iload_n 2, 1, 0, 0), (51, .iload_n 1, 1, 0, 0), (52, .if_icmp .ge 23, 3, 0, 0), (55, .aload_n 0, 1, 0, 0), (56, .dup, 1, 0, 0), (57, .getfield 67, 3, 8, 9), (60, .iconst 1, 1, 0, 0), (61, .iadd, 1, 0, 0), (62, .putfield 67, 3, 8, 9), (65, .aload_n 0, 1, 0, 0), (66, .invokevirtual 95, 3, 88, 0), (69, .iinc 2 1, 3, 0, 0), (72, .goto (-22), 3, 0, 0), (75, .aload_n 0, 1, 0, 0), (76, .getfield 67, 3, 8, 9), (79, .ireturn, 1, 0, 0)]
def mc_X8_join : List (Nat × mm_E) := [(0, .aload_n 0, 1, 0, 0), (1, .getfield 114, 3, 8, 8), (4, .bipush 12, 2, 0, 0), (6, .if_icmp .lt 6, 3, 0, 0), (9, .bipush (-3), 2, 0, 0), (11, .ireturn, 1, 0, 0), (12, .new 30, 3, 0, 0), (15, .dup, 1, 0, 0), (16, .invokespecial 117, 3, 0, 0), (19, .astore_n 1, 1, 0, 0), (20, .aload_n 0, 1, 0, 0), (21, .getfield 26, 3, 8, 2), (24, .aload_n 0, 1, 0, 0), (25, .getfield 67, 3, 8, 9), (28, .iconst 0, 1, 0, 0), (29, .invokevirtual 109, 3, 10, 2), (32, .istore_n 2, 1, 0, 0), (33, .aload_n 1, 1, 0, 0), (34, .getfield 118, 3, 0, 0), (37, .aload_n 0, 1, 0, 0), (38, .getfield 67, 3, 8, 9), (41, .iload_n 2, 1, 0, 0), (42, .invokevirtual 122, 3, 27, 2), (45, .aload_n 0, 1, 0, 0), (46, .dup, 1, 0, 0), (47, .getfield 128, 3, 8, 11), (50, .iload_n 2, 1, 0, 0), (51, .iadd, 1, 0, 0), (52, .putfield 128, 3, 8, 11), (55, .aload_n 0, 1, 0, 0), (56, .getfield 32, 3, 8, 3), (59, .aload_n 0, 1, 0, 0), (60, .getfield 114, 3, 8, 8), (63, .aload_n 1, 1, 0, 0), (64, .aastore, 1, 0, 0), (65, .aload_n 0, 1, 0, 0), (66, .dup, 1, 0, 0), (67, .getfield 114, 3, 8, 8), (70, .iconst 1, 1, 0, 0), (71, .iadd, 1, 0, 0), (72, .putfield 114, 3, 8, 8), (75, .aload_n 0, 1, 0, 0), (76, .getfield 114, 3, 8, 8), (79, .iconst 1, 1, 0, 0), (80, .isub, 1, 0, 0), (81, .ireturn, 1, 0, 0)]
def mc_X8_leave : List (Nat × mm_E) := [(0, .aload_n 0, 1, 0, 0), (1, .iload_n 1, 1, 0, 0), (2, .invokevirtual 131, 3, 87, 1), (5, .astore_n 2, 1, 0, 0), (6, .aload_n 2, 1, 0, 0), (7, .ifnonnull 5, 3, 0, 0), (10, .iconst (-1), 1, 0, 0), (11, .ireturn, 1, 0, 0), (12, .aload_n 2, 1, 0, 0), (13, .getfield 135, 3, 0, 1), (16, .ifCond .gt 25, 3, 0, 0), (19, .aload_n 0, 1, 0, 0), (20, .getfield 39, 3, 8, 4), (23, .iload_n 1, 1, 0, 0), (24, .invokevirtual 138, 3, 60, 1), (27, .ifCond .ne 14, 3, 0, 0), (30, .aload_n 0, 1, 0, 0), (31, .getfield 43, 3, 8, 5), (34, .iload_n 1, 1, 0, 0), (35, .invokevirtual 138, 3, 60, 1), (38, .ifCond .eq 6, 3, 0, 0), (41, .bipush (-2), 2, 0, 0), (43, .ireturn, 1, 0, 0), (44, .aload_n 2, 1, 0, 0), (45, .getfield 118, 3, 0, 0), (48, .getfield 142, 3, 3, 3), (51, .istore_n 3, 1, 0, 0), (52, .aload_n 0, 1, 0, 0), (53, .dup, 1, 0, 0), (54, .getfield 145, 3, 8, 13), (57, .iload_n 3, 1, 0, 0), (58, .iadd, 1, 0, 0), (59, .putfield 145, 3, 8, 13), (62, .aload_n 0, 1, 0, 0), (63, .getfield 32, 3, 8, 3), (66, .iload_n 1, 1, 0, 0), (67, .aconst_null, 1, 0, 0), (68, .aastore, 1, 0, 0), (69, .iload_n 3, 1, 0, 0), (70, .ireturn, 1, 0, 0)]
def mc_X8_bar : List (Nat × mm_E) := [(0, .aload_n 0, 1, 0, 0), (1, .iload_n 1, 1, 0, 0), (2, .invokevirtual 131, 3, 87, 1), (5, .astore 4, 2, 0, 0), (7, .aload 4, 2, 0, 0), (9, .ifnull 16, 3, 0, 0), (12, .aload_n 0, 1, 0, 0), (13, .iload_n 2, 1, 0, 0), (14, .invokevirtual 131, 3, 87, 1), (17, .ifnull 8, 3, 0, 0), (20, .iload_n 1, 1, 0, 0), (21, .iload_n 2, 1, 0, 0), (22, .if_icmp .ne 5, 3, 0, 0), (25, .iconst (-1), 1, 0, 0), (26, .ireturn, 1, 0, 0), (27, .aload 4, 2, 0, 0), (29, .iload_n 2, 1, 0, 0), (30, .invokevirtual 148, 3, 1, 1), (33, .ifCond .eq 7, 3, 0, 0), (36, .iconst 1, 1, 0, 0), (37, .goto 4, 3, 0, 0), (40, .iconst 0, 1, 0, 0), (41, .istore 5, 2, 0, 0), (43, .aload 4, 2, 0, 0), (45, .iload_n 2, 1, 0, 0), (46, .iload_n 3, 1, 0, 0), (47, .invokevirtual 151, 3, 2, 2), (50, .iload 5, 2, 0, 0), (52, .ireturn, 1, 0, 0)]
def mc_X8_told : List (Nat × mm_E) := [(0, .aload_n 0, 1, 0, 0), (1, .iload_n 1, 1, 0, 0), (2, .invokevirtual 131, 3, 87, 1), (5, .astore_n 3, 1, 0, 0), (6, .aload_n 3, 1, 0, 0), (7, .ifnonnull 5, 3, 0, 0), (10, .iconst (-1), 1, 0, 0), (11, .ireturn, 1, 0, 0), (12, .iload_n 2, 1, 0, 0), (13, .tableswitch 78 0 5 #[39, 47, 52, 60, 65, 70], 39, 0, 0), (52, .aload_n 3, 1, 0, 0), (53, .getfield 118, 3, 0, 0), (56, .getfield 142, 3, 3, 3), (59, .ireturn, 1, 0, 0), (60, .aload_n 3, 1, 0, 0), (61, .getfield 135, 3, 0, 1), (64, .ireturn, 1, 0, 0), (65, .aload_n 3, 1, 0, 0), (66, .getfield 118, 3, 0, 0), (69, .invokevirtual 155, 3, 25, 0), (72, .ireturn, 1, 0, 0), (73, .aload_n 3, 1, 0, 0), (74, .getfield 158, 3, 0, 3), (77, .ireturn, 1, 0, 0), (78, .aload_n 3, 1, 0, 0), (79, .getfield 161, 3, 0, 4), (82, .ireturn, 1, 0, 0), (83, .aload_n 3, 1, 0, 0), (84, .getfield 118, 3, 0, 0), (87, .invokevirtual 164, 3, 26, 0), (90, .ireturn, 1, 0, 0), (91, .iconst (-1), 1, 0, 0), (92, .ireturn, 1, 0, 0)]
def mc_X8_ask : List (Nat × mm_E) := [(0, .aload_n 0, 1, 0, 0), (1, .aload_n 0, 1, 0, 0), (2, .getfield 39, 3, 8, 4), (5, .iload_n 1, 1, 0, 0), (6, .iload_n 2, 1, 0, 0), (7, .iload_n 3, 1, 0, 0), (8, .invokevirtual 167, 3, 91, 4), (11, .ireturn, 1, 0, 0)]
def mc_X8_offer : List (Nat × mm_E) := [(0, .aload_n 0, 1, 0, 0), (1, .aload_n 0, 1, 0, 0), (2, .getfield 43, 3, 8, 5), (5, .iload_n 1, 1, 0, 0), (6, .iload_n 2, 1, 0, 0), (7, .iload_n 3, 1, 0, 0), (8, .invokevirtual 167, 3, 91, 4), (11, .ireturn, 1, 0, 0)]
def mc_X8_price : List (Nat × mm_E) := [(0, .aload_n 0, 1, 0, 0), (1, .getfield 39, 3, 8, 4), (4, .iload_n 1, 1, 0, 0), (5, .invokevirtual 171, 3, 54, 1), (8, .ifCond .eq 11, 3, 0, 0), (11, .aload_n 0, 1, 0, 0), (12, .iload_n 1, 1, 0, 0), (13, .invokevirtual 174, 3, 92, 1), (16, .goto 4, 3, 0, 0), (19, .iconst (-1), 1, 0, 0), (20, .ireturn, 1, 0, 0)]
def mc_X8_fits : List (Nat × mm_E) := [(0, .aload_n 0, 1, 0, 0), (1, .getfield 39, 3, 8, 4), (4, .iload_n 1, 1, 0, 0), (5, .invokevirtual 171, 3, 54, 1), (8, .ifCond .eq 14, 3, 0, 0), (11, .aload_n 0, 1, 0, 0), (12, .getfield 43, 3, 8, 5), (15, .iload_n 2, 1, 0, 0), (16, .invokevirtual 171, 3, 54, 1), (19, .ifCond .ne 5, 3, 0, 0), (22, .iconst (-1), 1, 0, 0), (23, .ireturn, 1, 0, 0), (24, .aload_n 0, 1, 0, 0), (25, .iload_n 1, 1, 0, 0), (26, .iload_n 2, 1, 0, 0), (27, .aload_n 0, 1, 0, 0), (28, .getfield 26, 3, 8, 2), (31, .aload_n 0, 1, 0, 0), (32, .getfield 67, 3, 8, 9), (35, .iconst 4, 1, 0, 0), (36, .invokevirtual 109, 3, 10, 2), (39, .invokevirtual 177, 3, 93, 3), (42, .ifCond .eq 7, 3, 0, 0), (45, .iconst 1, 1, 0, 0), (46, .goto 4, 3, 0, 0), (49, .iconst 0, 1, 0, 0), (50, .ireturn, 1, 0, 0)]
def mc_X8_met : List (Nat × mm_E) := [(0, .aload_n 0, 1, 0, 0), (1, .aload_n 0, 1, 0, 0), (2, .getfield 26, 3, 8, 2), (5, .aload_n 0, 1, 0, 0), (6, .getfield 67, 3, 8, 9), (9, .iconst 4, 1, 0, 0), (10, .invokevirtual 109, 3, 10, 2), (13, .invokevirtual 181, 3, 95, 1), (16, .ireturn, 1, 0, 0)]
def mc_X8_sitter : List (Nat × mm_E) := [(0, .aload_n 0, 1, 0, 0), (1, .getfield 39, 3, 8, 4), (4, .iload_n 1, 1, 0, 0), (5, .invokevirtual 171, 3, 54, 1), (8, .ifCond .ne 5, 3, 0, 0), (11, .iconst (-1), 1, 0, 0), (12, .ireturn, 1, 0, 0), (13, .aload_n 0, 1, 0, 0), (14, .invokevirtual 184, 3, 96, 0), (17, .aload_n 0, 1, 0, 0), (18, .getfield 49, 3, 8, 6), (21, .iload_n 1, 1, 0, 0), (22, .invokevirtual 187, 3, 14, 1), (25, .ireturn, 1, 0, 0)]
def mc_X8_why : List (Nat × mm_E) := [(0, .iload_n 1, 1, 0, 0), (1, .ifCond .eq 10, 3, 0, 0), (4, .iload_n 1, 1, 0, 0), (5, .iconst 1, 1, 0, 0), (6, .if_icmp .eq 5, 3, 0, 0), (9, .iconst (-1), 1, 0, 0), (10, .ireturn, 1, 0, 0), (11, .aload_n 0, 1, 0, 0), (12, .invokevirtual 184, 3, 96, 0), (15, .aload_n 0, 1, 0, 0), (16, .getfield 49, 3, 8, 6), (19, .invokevirtual 190, 3, 21, 0), (22, .iload_n 1, 1, 0, 0), (23, .ifCond .ne 13, 3, 0, 0), (26, .aload_n 0, 1, 0, 0), (27, .getfield 49, 3, 8, 6), (30, .invokevirtual 193, 3, 23, 0), (33, .goto 10, 3, 0, 0), (36, .aload_n 0, 1, 0, 0), (37, .getfield 49, 3, 8, 6), (40, .getfield 196, 3, 2, 7), (43, .ireturn, 1, 0, 0)]
def mc_X8_would : List (Nat × mm_E) := [(0, .iload_n 1, 1, 0, 0), (1, .ifCond .lt 10, 3, 0, 0), (4, .iload_n 1, 1, 0, 0), (5, .sipush 1000, 3, 0, 0), (8, .if_icmp .le 7, 3, 0, 0), (11, .iconst (-1), 1, 0, 0), (12, .goto 8, 3, 0, 0), (15, .aload_n 0, 1, 0, 0), (16, .iload_n 1, 1, 0, 0), (17, .invokevirtual 181, 3, 95, 1), (20, .ireturn, 1, 0, 0)]
def mc_X8_broken : List (Nat × mm_E) := [(0, .aload_n 0, 1, 0, 0), (1, .getfield 39, 3, 8, 4), (4, .iload_n 1, 1, 0, 0), (5, .invokevirtual 171, 3, 54, 1), (8, .ifCond .ne 5, 3, 0, 0), (11, .iconst (-1), 1, 0, 0), (12, .ireturn, 1, 0, 0), (13, .aload_n 0, 1, 0, 0), (14, .invokevirtual 184, 3, 96, 0), (17, .aload_n 0, 1, 0, 0), (18, .getfield 49, 3, 8, 6), (21, .iload_n 1, 1, 0, 0), (22, .invokevirtual 187, 3, 14, 1), (25, .istore_n 2, 1, 0, 0), (26, .iconst 0, 1, 0, 0), (27, .istore_n 3, 1, 0, 0), (28, .aload_n 0, 1, 0, 0), (29, .getfield 43, 3, 8, 5), (32, .iload_n 2, 1, 0, 0), (33, .invokevirtual 171, 3, 54, 1), (36, .ifCond .eq 45, 3, 0, 0), (39, .aload_n 0, 1, 0, 0), (40, .getfield 26, 3, 8, 2), (43, .aload_n 0, 1, 0, 0), (44, .getfield 67, 3, 8, 9), (47, .iconst 3, 1, 0, 0), (48, .invokevirtual 109, 3, 10, 2), (51, .istore_n 3, 1, 0, 0), (52, .aload_n 0, 1, 0, 0), (53, .aload_n 0, 1, 0, 0), (54, .aload_n 0, 1, 0, 0), (55, .getfield 39, 3, 8, 4), (58, .iload_n 1, 1, 0, 0), (59, .invokevirtual 199, 3, 55, 1), (62, .invokevirtual 131, 3, 87, 1), (65, .aload_n 0, 1, 0, 0), (66, .aload_n 0, 1, 0, 0), (67, .getfield 43, 3, 8, 5), (70, .iload_n 2, 1, 0, 0), (71, .invokevirtual 199, 3, 55, 1), (74, .invokevirtual 131, 3, 87, 1), (77, .iload_n 3, 1, 0, 0), (78, .invokevirtual 202, 3, 98, 3), (81, .aload_n 0, 1, 0, 0), (82, .getfield 39, 3, 8, 4), (85, .iload_n 1, 1, 0, 0), (86, .invokevirtual 206, 3, 59, 1), (89, .iload_n 3, 1, 0, 0), (90, .ireturn, 1, 0, 0)]
def mc_X8_evening : List (Nat × mm_E) := [(0, .aload_n 0, 1, 0, 0), (1, .invokevirtual 184, 3, 96, 0), (4, .iconst 0, 1, 0, 0), (5, .istore_n 1, 1, 0, 0), (6, .iconst 0, 1, 0, 0), (7, .istore_n 2, 1, 0, 0), (8, .iload_n 2, 1, 0, 0), (9, .aload_n 0, 1, 0, 0), (10, .getfield 39, 3, 8, 4), (13, .getfield 113, 3, 7, 3), (16, .if_icmp .ge 28, 3, 0, 0), (19, .aload_n 0, 1, 0, 0), (20, .iload_n 2, 1, 0, 0), (21, .aload_n 0, 1, 0, 0), (22, .getfield 49, 3, 8, 6), (25, .iload_n 2, 1, 0, 0), (26, .invokevirtual 187, 3, 14, 1), (29, .invokevirtual 210, 3, 97, 2), (32, .ifCond .eq 6, 3, 0, 0), (35, .iinc 1 1, 3, 0, 0), (38, .iinc 2 1, 3, 0, 0), (41, .goto (-33), 3, 0, 0), (44, .aload_n 0, 1, 0, 0), (45, .getfield 39, 3, 8, 4), (48, .iconst 0, 1, 0, 0), (49, .putfield 113, 3, 7, 3), (52, .aload_n 0, 1, 0, 0), (53, .getfield 43, 3, 8, 5), (56, .iconst 0, 1, 0, 0), (57, .putfield 113, 3, 7, 3), (60, .iload_n 1, 1, 0, 0), (61, .ireturn, 1, 0, 0)]
def mc_X8_sheet : List (Nat × mm_E) := [(0, .iload_n 1, 1, 0, 0), (1, .invokestatic 214, 3, 99, 1), (4, .ifCond .eq 16, 3, 0, 0), (7, .iload_n 2, 1, 0, 0), (8, .invokestatic 217, 3, 100, 1), (11, .ifCond .eq 9, 3, 0, 0), (14, .iload_n 3, 1, 0, 0), (15, .bipush 60, 2, 0, 0), (17, .if_icmp .le 5, 3, 0, 0), (20, .iconst (-1), 1, 0, 0), (21, .ireturn, 1, 0, 0), (22, .iload_n 3, 1, 0, 0), (23, .ifCond .ge 6, 3, 0, 0), (26, .bipush (-14), 2, 0, 0), (28, .ireturn, 1, 0, 0), (29, .aload_n 0, 1, 0, 0), (30, .getfield 55, 3, 8, 7), (33, .iload_n 1, 1, 0, 0), (34, .new 53, 3, 5, 0), (37, .dup, 1, 0, 0), (38, .iload_n 2, 1, 0, 0), (39, .iload_n 3, 1, 0, 0), (40, .invokespecial 220, 3, 43, 2), (43, .aastore, 1, 0, 0), (44, .iconst 1, 1, 0, 0), (45, .ireturn, 1, 0, 0)]
def mc_X8_lay : List (Nat × mm_E) := [(0, .iload_n 1, 1, 0, 0), (1, .invokestatic 214, 3, 99, 1), (4, .ifCond .ne 5, 3, 0, 0), (7, .iconst (-1), 1, 0, 0), (8, .ireturn, 1, 0, 0), (9, .aload_n 0, 1, 0, 0), (10, .getfield 55, 3, 8, 7), (13, .iload_n 1, 1, 0, 0), (14, .aaload, 1, 0, 0), (15, .astore 4, 2, 0, 0), (17, .aload 4, 2, 0, 0), (19, .ifnonnull 6, 3, 0, 0), (22, .bipush (-11), 2, 0, 0), (24, .ireturn, 1, 0, 0), (25, .aload 4, 2, 0, 0), (27, .iload_n 2, 1, 0, 0), (28, .invokevirtual 222, 3, 44, 1), (31, .ifCond .ne 6, 3, 0, 0), (34, .bipush (-12), 2, 0, 0), (36, .ireturn, 1, 0, 0), (37, .aload 4, 2, 0, 0), (39, .iload_n 2, 1, 0, 0), (40, .iload_n 3, 1, 0, 0), (41, .invokevirtual 223, 3, 46, 2), (44, .iconst 1, 1, 0, 0), (45, .ireturn, 1, 0, 0)]
def mc_X8_offers : List (Nat × mm_E) := [(0, .iload_n 1, 1, 0, 0), (1, .invokestatic 214, 3, 99, 1), (4, .ifCond .eq 22, 3, 0, 0), (7, .iload_n 2, 1, 0, 0), (8, .invokestatic 217, 3, 100, 1), (11, .ifCond .eq 15, 3, 0, 0), (14, .iload 4, 2, 0, 0), (16, .ifCond .lt 10, 3, 0, 0), (19, .iload 4, 2, 0, 0), (21, .bipush 10, 2, 0, 0), (23, .if_icmp .le 5, 3, 0, 0), (26, .iconst (-1), 1, 0, 0), (27, .ireturn, 1, 0, 0), (28, .aload_n 0, 1, 0, 0), (29, .getfield 55, 3, 8, 7), (32, .iload_n 1, 1, 0, 0), (33, .aaload, 1, 0, 0), (34, .astore 5, 2, 0, 0), (36, .aload 5, 2, 0, 0), (38, .ifnonnull 6, 3, 0, 0), (41, .bipush (-11), 2, 0, 0), (43, .ireturn, 1, 0, 0), (44, .aload 5, 2, 0, 0), (46, .getfield 226, 3, 5, 0), (49, .iload_n 2, 1, 0, 0), (50, .if_icmp .eq 6, 3, 0, 0), (53, .bipush (-13), 2, 0, 0), (55, .ireturn, 1, 0, 0), (56, .aload_n 0, 1, 0, 0), (57, .getfield 43, 3, 8, 5), (60, .getfield 113, 3, 7, 3), (63, .istore 6, 2, 0, 0), (65, .iconst 0, 1, 0, 0), (66, .istore 7, 2, 0, 0), (68, .iload 7, 2, 0, 0), (70, .iload 4, 2, 0, 0), (72, .if_icmp .ge 40, 3, 0, 0), (75, .aload_n 0, 1, 0, 0), (76, .aload 5, 2, 0, 0), (78, .iload_n 3, 1, 0, 0), (79, .iload 7, 2, 0, 0), (81, .iconst 3, 1, 0, 0), (82, .imul, 1, 0, 0), (83, .iadd, 1, 0, 0), (84, .invokevirtual 229, 3, 101, 2), (87, .istore 8, 2, 0, 0), (89, .iload 8, 2, 0, 0), (91, .ifCond .ge 15, 3, 0, 0), (94, .aload_n 0, 1, 0, 0), (95, .getfield 43, 3, 8, 5), (98, .iload 6, 2, 0, 0), (100, .putfield 113, 3, 7, 3), (103, .iload 8, 2, 0, 0), (105, .ireturn, 1, 0, 0), (106, .iinc 7 1, 3, 0, 0), (109, .goto (-41), 3, 0, 0), (112, .iload 4, 2, 0, 0), (114, .ireturn, 1, 0, 0)]
def mc_X8_count : List (Nat × mm_E) := [(0, .iload_n 1, 1, 0, 0), (1, .tableswitch 116 0 9 #[55, 60, 68, 73, 81, 89, 95, 101, 106, 111], 55, 0, 0), (56, .aload_n 0, 1, 0, 0), (57, .invokevirtual 233, 3, 89, 0), (60, .ireturn, 1, 0, 0), (61, .aload_n 0, 1, 0, 0), (62, .getfield 26, 3, 8, 2), (65, .getfield 98, 3, 1, 2), (68, .ireturn, 1, 0, 0), (69, .aload_n 0, 1, 0, 0), (70, .getfield 67, 3, 8, 9), (73, .ireturn, 1, 0, 0), (74, .aload_n 0, 1, 0, 0), (75, .getfield 39, 3, 8, 4), (78, .getfield 113, 3, 7, 3), (81, .ireturn, 1, 0, 0), (82, .aload_n 0, 1, 0, 0), (83, .getfield 43, 3, 8, 5), (86, .getfield 113, 3, 7, 3), (89, .ireturn, 1, 0, 0), (90, .aload_n 0, 1, 0, 0), (91, .iconst 0, 1, 0, 0), (92, .invokevirtual 236, 3, 90, 1), (95, .ireturn, 1, 0, 0), (96, .aload_n 0, 1, 0, 0), (97, .iconst 1, 1, 0, 0), (98, .invokevirtual 236, 3, 90, 1), (101, .ireturn, 1, 0, 0), (102, .aload_n 0, 1, 0, 0), (103, .getfield 128, 3, 8, 11), (106, .ireturn, 1, 0, 0), (107, .aload_n 0, 1, 0, 0), (108, .getfield 239, 3, 8, 12), (111, .ireturn, 1, 0, 0), (112, .aload_n 0, 1, 0, 0), (113, .getfield 145, 3, 8, 13), (116, .ireturn, 1, 0, 0), (117, .iconst (-1), 1, 0, 0), (118, .ireturn, 1, 0, 0)]
def mc_X8_familyAt : List (Nat × mm_E) := [(0, .iload_n 1, 1, 0, 0), (1, .ifCond .lt 20, 3, 0, 0), (4, .iload_n 1, 1, 0, 0), (5, .aload_n 0, 1, 0, 0), (6, .getfield 114, 3, 8, 8), (9, .if_icmp .ge 12, 3, 0, 0), (12, .iload_n 1, 1, 0, 0), (13, .aload_n 0, 1, 0, 0), (14, .getfield 32, 3, 8, 3), (17, .arraylength, 1, 0, 0), (18, .if_icmp .lt 7, 3, 0, 0), (21, .aconst_null, 1, 0, 0), (22, .goto 9, 3, 0, 0), (25, .aload_n 0, 1, 0, 0), (26, .getfield 32, 3, 8, 3), (29, .iload_n 1, 1, 0, 0), (30, .aaload, 1, 0, 0), (31, .areturn, 1, 0, 0)]
def mc_X8_expireNotes : List (Nat × mm_E) := [(0, .aload_n 0, 1, 0, 0), (1, .getfield 26, 3, 8, 2), (4, .aload_n 0, 1, 0, 0), (5, .getfield 67, 3, 8, 9), (8, .iconst 2, 1, 0, 0), (9, .invokevirtual 109, 3, 10, 2), (12, .istore_n 1, 1, 0, 0), (13, .iload_n 1, 1, 0, 0), (14, .bipush (-4), 2, 0, 0), (16, .if_icmp .ne 4, 3, 0, 0), (19, .return_, 1, 0, 0), (20, .aload_n 0, 1, 0, 0), (21, .getfield 32, 3, 8, 3), (24, .astore_n 2, 1, 0, 0), (25, .aload_n 2, 1, 0, 0), (26, .arraylength, 1, 0, 0), (27, .istore_n 3, 1, 0, 0), (28, .iconst 0, 1, 0, 0), (29, .istore 4, 2, 0, 0), (31, .iload 4, 2, 0, 0), (33, .iload_n 3, 1, 0, 0), (34, .if_icmp .ge 43, 3, 0, 0), (37, .aload_n 2, 1, 0, 0), (38, .iload 4, 2, 0, 0), (40, .aaload, 1, 0, 0), (41, .astore 5, 2, 0, 0), (43, .aload 5, 2, 0, 0), (45, .ifnull 26, 3, 0, 0), (48, .aload_n 0, 1, 0, 0), (49, .dup, 1, 0, 0), (50, .getfield 239, 3, 8, 12), (53, .aload 5, 2, 0, 0), (55, .getfield 118, 3, 0, 0), (58, .aload_n 0, 1, 0, 0), (59, .getfield 67, 3, 8, 9), (62, .iload_n 1, 1, 0, 0), (63, .isub, 1, 0, 0), (64, .invokevirtual 242, 3, 31, 1), (67, .iadd, 1, 0, 0), (68, .putfield 239, 3, 8, 12), (71, .iinc 4 1, 3, 0, 0), (74, .goto (-43), 3, 0, 0), (77, .return_, 1, 0, 0)]
def mc_X8_familiesHere : List (Nat × mm_E) := [(0, .iconst 0, 1, 0, 0), (1, .istore_n 1, 1, 0, 0), (2, .aload_n 0, 1, 0, 0), (3, .getfield 32, 3, 8, 3), (6, .astore_n 2, 1, 0, 0), (7, .aload_n 2, 1, 0, 0), (8, .arraylength, 1, 0, 0), (9, .istore_n 3, 1, 0, 0), (10, .iconst 0, 1, 0, 0), (11, .istore 4, 2, 0, 0), (13, .iload 4, 2, 0, 0), (15, .iload_n 3, 1, 0, 0), (16, .if_icmp .ge 23, 3, 0, 0), (19, .aload_n 2, 1, 0, 0), (20, .iload 4, 2, 0, 0), (22, .aaload, 1, 0, 0), (23, .astore 5, 2, 0, 0), (25, .aload 5, 2, 0, 0), (27, .ifnull 6, 3, 0, 0), (30, .iinc 1 1, 3, 0, 0), (33, .iinc 4 1, 3, 0, 0), (36, .goto (-23), 3, 0, 0), (39, .iload_n 1, 1, 0, 0), (40, .ireturn, 1, 0, 0)]
def mc_X8_sumTold : List (Nat × mm_E) := [(0, .iconst 0, 1, 0, 0), (1, .istore_n 2, 1, 0, 0), (2, .iconst 0, 1, 0, 0), (3, .istore_n 3, 1, 0, 0), (4, .iload_n 3, 1, 0, 0), (5, .aload_n 0, 1, 0, 0), (6, .getfield 114, 3, 8, 8), (9, .if_icmp .ge 26, 3, 0, 0), (12, .aload_n 0, 1, 0, 0), (13, .iload_n 3, 1, 0, 0), (14, .invokevirtual 131, 3, 87, 1), (17, .ifnull 12, 3, 0, 0), (20, .iload_n 2, 1, 0, 0), (21, .aload_n 0, 1, 0, 0), (22, .iload_n 3, 1, 0, 0), (23, .iload_n 1, 1, 0, 0), (24, .invokevirtual 245, 3, 72, 2), (27, .iadd, 1, 0, 0), (28, .istore_n 2, 1, 0, 0), (29, .iinc 3 1, 3, 0, 0), (32, .goto (-28), 3, 0, 0), (35, .iload_n 2, 1, 0, 0), (36, .ireturn, 1, 0, 0)]
def mc_X8_addVisit : List (Nat × mm_E) := [(0, .aload_n 0, 1, 0, 0), (1, .iload_n 2, 1, 0, 0), (2, .invokevirtual 131, 3, 87, 1), (5, .ifnull 20, 3, 0, 0), (8, .iload_n 3, 1, 0, 0), (9, .ifCond .lt 16, 3, 0, 0), (12, .iload 4, 2, 0, 0), (14, .bipush 48, 2, 0, 0), (16, .if_icmp .gt 9, 3, 0, 0), (19, .iload_n 3, 1, 0, 0), (20, .iload 4, 2, 0, 0), (22, .if_icmp .lt 5, 3, 0, 0), (25, .iconst (-1), 1, 0, 0), (26, .ireturn, 1, 0, 0), (27, .aload_n 1, 1, 0, 0), (28, .iload_n 2, 1, 0, 0), (29, .iload_n 3, 1, 0, 0), (30, .iload 4, 2, 0, 0), (32, .invokevirtual 248, 3, 58, 3), (35, .ifCond .eq 12, 3, 0, 0), (38, .aload_n 1, 1, 0, 0), (39, .getfield 113, 3, 7, 3), (42, .iconst 1, 1, 0, 0), (43, .isub, 1, 0, 0), (44, .goto 5, 3, 0, 0), (47, .bipush (-3), 2, 0, 0), (49, .ireturn, 1, 0, 0)]
def mc_X8_priceOf : List (Nat × mm_E) := [(0, .aload_n 0, 1, 0, 0), (1, .getfield 39, 3, 8, 4), (4, .iload_n 1, 1, 0, 0), (5, .invokevirtual 250, 3, 56, 1), (8, .istore_n 2, 1, 0, 0), (9, .aload_n 0, 1, 0, 0), (10, .getfield 39, 3, 8, 4), (13, .iload_n 1, 1, 0, 0), (14, .invokevirtual 253, 3, 57, 1), (17, .istore_n 3, 1, 0, 0), (18, .aload_n 0, 1, 0, 0), (19, .getfield 26, 3, 8, 2), (22, .aload_n 0, 1, 0, 0), (23, .getfield 67, 3, 8, 9), (26, .iconst 1, 1, 0, 0), (27, .invokevirtual 109, 3, 10, 2), (30, .istore 4, 2, 0, 0), (32, .iload 4, 2, 0, 0), (34, .bipush (-4), 2, 0, 0), (36, .if_icmp .ne 7, 3, 0, 0), (39, .iconst 0, 1, 0, 0), (40, .goto 15, 3, 0, 0), (43, .iconst 0, 1, 0, 0), (44, .iload_n 3, 1, 0, 0), (45, .iload_n 2, 1, 0, 0), (46, .iload 4, 2, 0, 0), (48, .invokestatic 256, 3, 157, 2), (51, .isub, 1, 0, 0), (52, .invokestatic 256, 3, 157, 2), (55, .istore 5, 2, 0, 0), (57, .iload_n 3, 1, 0, 0), (58, .iload_n 2, 1, 0, 0), (59, .isub, 1, 0, 0), (60, .iload 5, 2, 0, 0), (62, .iadd, 1, 0, 0), (63, .ireturn, 1, 0, 0)]
def mc_X8_areFitting : List (Nat × mm_E) := [(0, .aload_n 0, 1, 0, 0), (1, .getfield 39, 3, 8, 4), (4, .iload_n 1, 1, 0, 0), (5, .invokevirtual 199, 3, 55, 1), (8, .istore 4, 2, 0, 0), (10, .aload_n 0, 1, 0, 0), (11, .getfield 43, 3, 8, 5), (14, .iload_n 2, 1, 0, 0), (15, .invokevirtual 199, 3, 55, 1), (18, .istore 5, 2, 0, 0), (20, .aload_n 0, 1, 0, 0), (21, .iload 4, 2, 0, 0), (23, .invokevirtual 131, 3, 87, 1), (26, .astore 6, 2, 0, 0), (28, .aload_n 0, 1, 0, 0), (29, .iload 5, 2, 0, 0), (31, .invokevirtual 131, 3, 87, 1), (34, .astore 7, 2, 0, 0), (36, .aload 6, 2, 0, 0), (38, .ifnull 15, 3, 0, 0), (41, .aload 7, 2, 0, 0), (43, .ifnull 10, 3, 0, 0), (46, .iload 4, 2, 0, 0), (48, .iload 5, 2, 0, 0), (50, .if_icmp .ne 5, 3, 0, 0), (53, .iconst 0, 1, 0, 0), (54, .ireturn, 1, 1, 0), (55, .aload 6, 2, 0, 0), (57, .iload 5, 2, 0, 0), (59, .invokevirtual 148, 3, 1, 1), (62, .ifCond .ne 13, 3, 0, 0), (65, .aload 7, 2, 0, 0), (67, .iload 4, 2, 0, 0), (69, .invokevirtual 148, 3, 1, 1), (72, .ifCond .eq 5, 3, 0, 0), (75, .iconst 0, 1, 0, 0), (76, .ireturn, 1, 1, 0), (77, .aload_n 0, 1, 0, 0), (78, .getfield 43, 3, 8, 5), (81, .iload_n 2, 1, 0, 0), (82, .invokevirtual 250, 3, 56, 1), (85, .aload_n 0, 1, 0, 0), (86, .getfield 39, 3, 8, 4), (89, .iload_n 1, 1, 0, 0), (90, .invokevirtual 250, 3, 56, 1), (93, .if_icmp .gt 26, 3, 0, 0), (96, .aload_n 0, 1, 0, 0), (97, .getfield 39, 3, 8, 4), (100, .iload_n 1, 1, 0, 0), (101, .invokevirtual 253, 3, 57, 1), (104, .aload_n 0, 1, 0, 0), (105, .getfield 43, 3, 8, 5), (108, .iload_n 2, 1, 0, 0), (109, .invokevirtual 253, 3, 57, 1), (112, .if_icmp .gt 7, 3, 0, 0), (115, .iconst 1, 1, 0, 0), (116, .goto 4, 3, 0, 0), (119, .iconst 0, 1, 0, 0), (120, .istore 8, 2, 0, 0), (122, .iload 8, 2, 0, 0), (124, .ifCond .eq 21, 3, 0, 0), (127, .aload 6, 2, 0, 0), (129, .aload_n 0, 1, 0, 0), (130, .iload_n 1, 1, 0, 0), (131, .invokevirtual 174, 3, 92, 1), (134, .invokevirtual 261, 3, 3, 1), (137, .iload_n 3, 1, 0, 0), (138, .if_icmp .gt 7, 3, 0, 0), (141, .iconst 1, 1, 0, 0), (142, .goto 4, 3, 0, 0), (145, .iconst 0, 1, 0, 0), (146, .ireturn, 1, 1, 0)]
def mc_X8_lookForFits : List (Nat × mm_E) := [(0, .aload_n 0, 1, 0, 0), (1, .getfield 49, 3, 8, 6), (4, .aload_n 0, 1, 0, 0), (5, .getfield 39, 3, 8, 4), (8, .getfield 113, 3, 7, 3), (11, .aload_n 0, 1, 0, 0), (12, .getfield 43, 3, 8, 5), (15, .getfield 113, 3, 7, 3), (18, .invokevirtual 264, 3, 12, 2), (21, .iconst 0, 1, 0, 0), (22, .istore_n 2, 1, 0, 0), (23, .iload_n 2, 1, 0, 0), (24, .aload_n 0, 1, 0, 0), (25, .getfield 39, 3, 8, 4), (28, .getfield 113, 3, 7, 3), (31, .if_icmp .ge 47, 3, 0, 0), (34, .iconst 0, 1, 0, 0), (35, .istore_n 3, 1, 0, 0), (36, .iload_n 3, 1, 0, 0), (37, .aload_n 0, 1, 0, 0), (38, .getfield 43, 3, 8, 5), (41, .getfield 113, 3, 7, 3), (44, .if_icmp .ge 28, 3, 0, 0), (47, .aload_n 0, 1, 0, 0), (48, .iload_n 2, 1, 0, 0), (49, .iload_n 3, 1, 0, 0), (50, .iload_n 1, 1, 0, 0), (51, .invokevirtual 177, 3, 93, 3), (54, .ifCond .eq 12, 3, 0, 0), (57, .aload_n 0, 1, 0, 0), (58, .getfield 49, 3, 8, 6), (61, .iload_n 2, 1, 0, 0), (62, .iload_n 3, 1, 0, 0), (63, .invokevirtual 267, 3, 13, 2), (66, .iinc 3 1, 3, 0, 0), (69, .goto (-33), 3, 0, 0), (72, .iinc 2 1, 3, 0, 0), (75, .goto (-52), 3, 0, 0), (78, .return_, 1, 0, 0)]
def mc_X8_mostPairs : List (Nat × mm_E) := [(0, .aload_n 0, 1, 0, 0), (1, .iload_n 1, 1, 0, 0), (2, .invokevirtual 270, 3, 94, 1), (5, .aload_n 0, 1, 0, 0), (6, .getfield 49, 3, 8, 6), (9, .invokevirtual 273, 3, 15, 0), (12, .ireturn, 1, 0, 0)]
def mc_X8_findTheMatch : List (Nat × mm_E) := [(0, .aload_n 0, 1, 0, 0), (1, .aload_n 0, 1, 0, 0), (2, .getfield 26, 3, 8, 2), (5, .aload_n 0, 1, 0, 0), (6, .getfield 67, 3, 8, 9), (9, .iconst 4, 1, 0, 0), (10, .invokevirtual 109, 3, 10, 2), (13, .invokevirtual 270, 3, 94, 1), (16, .aload_n 0, 1, 0, 0), (17, .getfield 49, 3, 8, 6), (20, .invokevirtual 276, 3, 19, 0), (23, .return_, 1, 0, 0)]
def mc_X8_hold : List (Nat × mm_E) := [(0, .aload_n 0, 1, 0, 0), (1, .getfield 43, 3, 8, 5), (4, .iload_n 2, 1, 0, 0), (5, .invokevirtual 171, 3, 54, 1), (8, .ifCond .ne 5, 3, 0, 0), (11, .iconst 0, 1, 0, 0), (12, .ireturn, 1, 1, 0), (13, .aload_n 0, 1, 0, 0), (14, .aload_n 0, 1, 0, 0), (15, .getfield 39, 3, 8, 4), (18, .iload_n 1, 1, 0, 0), (19, .invokevirtual 199, 3, 55, 1), (22, .invokevirtual 131, 3, 87, 1), (25, .astore_n 3, 1, 0, 0), (26, .aload_n 0, 1, 0, 0), (27, .aload_n 0, 1, 0, 0), (28, .getfield 43, 3, 8, 5), (31, .iload_n 2, 1, 0, 0), (32, .invokevirtual 199, 3, 55, 1), (35, .invokevirtual 131, 3, 87, 1), (38, .astore 4, 2, 0, 0), (40, .aload_n 0, 1, 0, 0), (41, .iload_n 1, 1, 0, 0), (42, .invokevirtual 174, 3, 92, 1), (45, .istore 5, 2, 0, 0), (47, .aload_n 3, 1, 0, 0), (48, .ifnull 29, 3, 0, 0), (51, .aload 4, 2, 0, 0), (53, .ifnull 24, 3, 0, 0), (56, .aload_n 3, 1, 0, 0), (57, .iload 5, 2, 0, 0), (59, .invokevirtual 261, 3, 3, 1), (62, .aload_n 0, 1, 0, 0), (63, .getfield 26, 3, 8, 2), (66, .aload_n 0, 1, 0, 0), (67, .getfield 67, 3, 8, 9), (70, .iconst 4, 1, 0, 0), (71, .invokevirtual 109, 3, 10, 2), (74, .if_icmp .le 5, 3, 0, 0), (77, .iconst 0, 1, 0, 0), (78, .ireturn, 1, 1, 0), (79, .aload_n 0, 1, 0, 0), (80, .aload_n 3, 1, 0, 0), (81, .aload 4, 2, 0, 0), (83, .iload 5, 2, 0, 0), (85, .invokevirtual 202, 3, 98, 3), (88, .aload 4, 2, 0, 0), (90, .dup, 1, 0, 0), (91, .getfield 158, 3, 0, 3), (94, .iload 5, 2, 0, 0), (96, .iadd, 1, 0, 0), (97, .putfield 158, 3, 0, 3), (100, .aload_n 3, 1, 0, 0), (101, .dup, 1, 0, 0), (102, .getfield 161, 3, 0, 4), (105, .iconst 1, 1, 0, 0), (106, .iadd, 1, 0, 0), (107, .putfield 161, 3, 0, 4), (110, .iconst 1, 1, 0, 0), (111, .ireturn, 1, 1, 0)]
def mc_X8_pay : List (Nat × mm_E) := [(0, .aload_n 1, 1, 0, 0), (1, .ifnull 7, 3, 0, 0), (4, .aload_n 2, 1, 0, 0), (5, .ifnonnull 4, 3, 0, 0), (8, .return_, 1, 0, 0), (9, .iload_n 3, 1, 0, 0), (10, .aload_n 1, 1, 0, 0), (11, .getfield 118, 3, 0, 0), (14, .iload_n 3, 1, 0, 0), (15, .aload_n 2, 1, 0, 0), (16, .getfield 118, 3, 0, 0), (19, .invokevirtual 279, 3, 29, 2), (22, .isub, 1, 0, 0), (23, .istore 4, 2, 0, 0), (25, .aload_n 1, 1, 0, 0), (26, .dup, 1, 0, 0), (27, .getfield 135, 3, 0, 1), (30, .iload 4, 2, 0, 0), (32, .iadd, 1, 0, 0), (33, .putfield 135, 3, 0, 1), (36, .aload_n 2, 1, 0, 0), (37, .getfield 118, 3, 0, 0), (40, .aload_n 0, 1, 0, 0), (41, .getfield 67, 3, 8, 9), (44, .iload 4, 2, 0, 0), (46, .invokevirtual 122, 3, 27, 2), (49, .aload_n 0, 1, 0, 0), (50, .dup, 1, 0, 0), (51, .getfield 128, 3, 8, 11), (54, .iload 4, 2, 0, 0), (56, .iadd, 1, 0, 0), (57, .putfield 128, 3, 8, 11), (60, .aload_n 0, 1, 0, 0), (61, .dup, 1, 0, 0), (62, .getfield 145, 3, 8, 13), (65, .aload_n 2, 1, 0, 0), (66, .invokevirtual 283, 3, 4, 0), (69, .iadd, 1, 0, 0), (70, .putfield 145, 3, 8, 13), (73, .return_, 1, 0, 0)]
def mc_X8_isSheet : List (Nat × mm_E) := [(0, .iload_n 0, 1, 0, 0), (1, .ifCond .lt 12, 3, 0, 0), (4, .iload_n 0, 1, 0, 0), (5, .iconst 4, 1, 0, 0), (6, .if_icmp .ge 7, 3, 0, 0), (9, .iconst 1, 1, 0, 0), (10, .goto 4, 3, 0, 0), (13, .iconst 0, 1, 0, 0), (14, .ireturn, 1, 1, 0)]
def mc_X8_isLane : List (Nat × mm_E) := [(0, .iload_n 0, 1, 0, 0), (1, .ifCond .eq 8, 3, 0, 0), (4, .iload_n 0, 1, 0, 0), (5, .iconst 1, 1, 0, 0), (6, .if_icmp .ne 7, 3, 0, 0), (9, .iconst 1, 1, 0, 0), (10, .goto 4, 3, 0, 0), (13, .iconst 0, 1, 0, 0), (14, .ireturn, 1, 1, 0)]
def mc_X8_offerFrom : List (Nat × mm_E) := [(0, .iload_n 2, 1, 0, 0), (1, .ifCond .lt 14, 3, 0, 0), (4, .iload_n 2, 1, 0, 0), (5, .aload_n 1, 1, 0, 0), (6, .getfield 286, 3, 5, 1), (9, .arraylength, 1, 0, 0), (10, .iconst 3, 1, 0, 0), (11, .isub, 1, 0, 0), (12, .if_icmp .le 6, 3, 0, 0), (15, .bipush (-12), 2, 0, 0), (17, .ireturn, 1, 0, 0), (18, .aload_n 0, 1, 0, 0), (19, .aload_n 1, 1, 0, 0), (20, .iload_n 2, 1, 0, 0), (21, .invokevirtual 289, 3, 45, 1), (24, .aload_n 1, 1, 0, 0), (25, .iload_n 2, 1, 0, 0), (26, .iconst 1, 1, 0, 0), (27, .iadd, 1, 0, 0), (28, .invokevirtual 289, 3, 45, 1), (31, .aload_n 1, 1, 0, 0), (32, .iload_n 2, 1, 0, 0), (33, .iconst 2, 1, 0, 0), (34, .iadd, 1, 0, 0), (35, .invokevirtual 289, 3, 45, 1), (38, .invokevirtual 292, 3, 74, 3), (41, .istore_n 3, 1, 0, 0), (42, .iload_n 3, 1, 0, 0), (43, .ifCond .ge 10, 3, 0, 0), (46, .bipush (-20), 2, 0, 0), (48, .iload_n 3, 1, 0, 0), (49, .iadd, 1, 0, 0), (50, .goto 4, 3, 0, 0), (53, .iload_n 3, 1, 0, 0), (54, .ireturn, 1, 0, 0)]
def mc_X9_init : List (Nat × mm_E) := [(0, .aload_n 0, 1, 0, 0), (1, .invokespecial 1, 3, 999, 0), (4, .aload_n 0, 1, 0, 0), (5, .sipush 200, 3, 0, 0), (8, .newarray .int, 2, 20, 0), (10, .putfield 7, 3, 9, 0), (13, .aload_n 0, 1, 0, 0), (14, .iconst 5, 1, 0, 0), (15, .newarray .int, 2, 20, 0), (17, .putfield 13, 3, 9, 8), (20, .aload_n 0, 1, 0, 0), (21, .bipush 6, 2, 0, 0), (23, .newarray .int, 2, 20, 0), (25, .putfield 16, 3, 9, 10), (28, .aload_n 0, 1, 0, 0), (29, .bipush 30, 2, 0, 0), (31, .newarray .int, 2, 20, 0), (33, .putfield 19, 3, 9, 11), (36, .aload_n 0, 1, 0, 0), (37, .bipush 12, 2, 0, 0), (39, .newarray .boolean, 2, 22, 0), (41, .putfield 22, 3, 9, 15), (44, .aload_n 0, 1, 0, 0), (45, .bipush 12, 2, 0, 0), (47, .newarray .int, 2, 20, 0), (49, .putfield 26, 3, 9, 16), (52, .aload_n 0, 1, 0, 0), (53, .bipush 12, 2, 0, 0), (55, .newarray .int, 2, 20, 0), (57, .putfield 29, 3, 9, 17), (60, .aload_n 0, 1, 0, 0), (61, .bipush 12, 2, 0, 0), (63, .newarray .int, 2, 20, 0), (65, .putfield 32, 3, 9, 18), (68, .aload_n 0, 1, 0, 0), (69, .sipush 24012, 3, 0, 0), (72, .newarray .int, 2, 20, 0), (74, .putfield 35, 3, 9, 19), (77, .aload_n 0, 1, 0, 0), (78, .sipush 144, 3, 0, 0), (81, .newarray .boolean, 2, 22, 0), (83, .putfield 38, 3, 9, 20), (86, .aload_n 0, 1, 0, 0), (87, .bipush 10, 2, 0, 0), (89, .newarray .int, 2, 20, 0), (91, .putfield 41, 3, 9, 25), (94, .aload_n 0, 1, 0, 0), (95, .bipush 10, 2, 0, 0), (97, .newarray .int, 2, 20, 0), (99, .putfield 44, 3, 9, 26), (102, .aload_n 0, 1, 0, 0), (103, .bipush 10, 2, 0, 0), (105, .newarray .int, 2, 20, 0), (107, .putfield 47, 3, 9, 27), (110, .aload_n 0, 1, 0, 0), (111, .bipush 10, 2, 0, 0), (113, .newarray .int, 2, 20, 0), (115, .putfield 50, 3, 9, 29), (118, .aload_n 0, 1, 0, 0), (119, .bipush 10, 2, 0, 0), (121, .newarray .int, 2, 20, 0), (123, .putfield 53, 3, 9, 30), (126, .aload_n 0, 1, 0, 0), (127, .bipush 10, 2, 0, 0), (129, .newarray .int, 2, 20, 0), (131, .putfield 56, 3, 9, 31), (134, .aload_n 0, 1, 0, 0), (135, .bipush 100, 2, 0, 0), (137, .newarray .boolean, 2, 22, 0), (139, .putfield 59, 3, 9, 32), (142, .aload_n 0, 1, 0, 0), (143, .bipush 10, 2, 0, 0), (145, .newarray .int, 2, 20, 0), (147, .putfield 62, 3, 9, 33), (150, .aload_n 0, 1, 0, 0), (151, .bipush 10, 2, 0, 0), (153, .newarray .int, 2, 20, 0), (155, .putfield 65, 3, 9, 34), (158, .aload_n 0, 1, 0, 0), (159, .bipush 10, 2, 0, 0), (161, .newarray .int, 2, 20, 0), (163, .putfield 68, 3, 9, 35), (166, .aload_n 0, 1, 0, 0), (167, .bipush 20, 2, 0, 0), (169, .newarray .int, 2, 20, 0), (171, .putfield 71, 3, 9, 36), (174, .aload_n 0, 1, 0, 0), (175, .bipush 10, 2, 0, 0), (177, .newarray .int, 2, 20, 0), (179, .putfield 74, 3, 9, 37), (182, .aload_n 0, 1, 0, 0), (183, .iconst 4, 1, 0, 0), (184, .newarray .int, 2, 20, 0), (186, .putfield 77, 3, 9, 38), (189, .aload_n 0, 1, 0, 0), (190, .iconst 4, 1, 0, 0), (191, .newarray .int, 2, 20, 0), (193, .putfield 80, 3, 9, 39), (196, .aload_n 0, 1, 0, 0), (197, .sipush 240, 3, 0, 0), (200, .newarray .int, 2, 20, 0), (202, .putfield 83, 3, 9, 40), (205, .iconst 0, 1, 0, 0), (206, .istore_n 1, 1, 0, 0), (207, .iload_n 1, 1, 0, 0), (208, .iconst 4, 1, 0, 0), (209, .if_icmp .ge 17, 3, 0, 0), (212, .aload_n 0, 1, 0, 0), (213, .getfield 77, 3, 9, 38), (216, .iload_n 1, 1, 0, 0), (217, .bipush (-4), 2, 0, 0), (219, .iastore, 1, 0, 0), (220, .iinc 1 1, 3, 0, 0), (223, .goto (-16), 3, 0, 0), (226, .return_, 1, 0, 0)]
def mc_X9_in : List (Nat × mm_E) := [(0, .lload_n 0, 1, 0, 0), (1, .lload_n 2, 1, 0, 0), (2, .lcmp, 1, 0, 0), (3, .ifCond .lt 14, 3, 0, 0), (6, .lload_n 0, 1, 0, 0), (7, .lload 4, 2, 0, 0), (9, .lcmp, 1, 0, 0), (10, .ifCond .gt 7, 3, 0, 0), (13, .iconst 1, 1, 0, 0), (14, .goto 4, 3, 0, 0), (17, .iconst 0, 1, 0, 0), (18, .ireturn, 1, 1, 0)]
def mc_X9_feed : List (Nat × mm_E) := [(0, .aload_n 0, 1, 0, 0), (1, .getfield 86, 3, 9, 1), (4, .bipush 8, 2, 0, 0), (6, .iadd, 1, 0, 0), (7, .sipush 200, 3, 0, 0), (10, .if_icmp .le 6, 3, 0, 0), (13, .bipush (-3), 2, 0, 0), (15, .ireturn, 1, 0, 0), (16, .bipush 56, 2, 0, 0), (18, .istore_n 3, 1, 0, 0), (19, .iload_n 3, 1, 0, 0), (20, .ifCond .lt 36, 3, 0, 0), (23, .aload_n 0, 1, 0, 0), (24, .getfield 7, 3, 9, 0), (27, .aload_n 0, 1, 0, 0), (28, .getfield 86, 3, 9, 1), (31, .lload_n 1, 1, 0, 0), (32, .iload_n 3, 1, 0, 0), (33, .lshr, 1, 0, 0), (34, .ldc2_w 90, 3, 255, 0), (37, .land, 1, 0, 0), (38, .l2i, 1, 0, 0), (39, .iastore, 1, 0, 0), (40, .aload_n 0, 1, 0, 0), (41, .dup, 1, 0, 0), (42, .getfield 86, 3, 9, 1), (45, .iconst 1, 1, 0, 0), (46, .iadd, 1, 0, 0), (47, .putfield 86, 3, 9, 1), (50, .iinc 3 (-8), 3, 0, 0), (53, .goto (-34), 3, 0, 0), (56, .aload_n 0, 1, 0, 0), (57, .getfield 86, 3, 9, 1), (60, .ireturn, 1, 0, 0)]
def mc_X9_end : List (Nat × mm_E) := [(0, .iload_n 1, 1, 0, 0), (1, .i2l, 1, 0, 0), (2, .lconst 0, 1, 0, 0), (3, .aload_n 0, 1, 0, 0), (4, .getfield 86, 3, 9, 1), (7, .i2l, 1, 0, 0), (8, .invokestatic 92, 3, 103, 3), (11, .ifCond .ne 5, 3, 0, 0), (14, .iconst (-1), 1, 0, 0), (15, .ireturn, 1, 0, 0), (16, .aload_n 0, 1, 0, 0), (17, .getfield 86, 3, 9, 1), (20, .istore_n 2, 1, 0, 0), (21, .aload_n 0, 1, 0, 0), (22, .iload_n 1, 1, 0, 0), (23, .putfield 86, 3, 9, 1), (26, .iload_n 2, 1, 0, 0), (27, .ireturn, 1, 0, 0)]
def mc_X9_fails : List (Nat × mm_E) := [(0, .aload_n 0, 1, 0, 0), (1, .getfield 96, 3, 9, 6), (4, .ifCond .ne 13, 3, 0, 0), (7, .aload_n 0, 1, 0, 0), (8, .iload_n 1, 1, 0, 0), (9, .putfield 96, 3, 9, 6), (12, .aload_n 0, 1, 0, 0), (13, .iload_n 2, 1, 0, 0), (14, .putfield 99, 3, 9, 7), (17, .return_, 1, 0, 0)]
def mc_X9_look : List (Nat × mm_E) := [(0, .iload_n 1, 1, 0, 0), (1, .aload_n 0, 1, 0, 0), (2, .getfield 86, 3, 9, 1), (5, .if_icmp .ge 12, 3, 0, 0), (8, .aload_n 0, 1, 0, 0), (9, .getfield 7, 3, 9, 0), (12, .iload_n 1, 1, 0, 0), (13, .iaload, 1, 0, 0), (14, .goto 4, 3, 0, 0), (17, .iconst (-1), 1, 0, 0), (18, .ireturn, 1, 0, 0)]
def mc_X9_isName : List (Nat × mm_E) := [(0, .iload 5, 2, 0, 0), (2, .ifCond .ne 7, 3, 0, 0), (5, .iconst 4, 1, 0, 0), (6, .goto 14, 3, 0, 0), (9, .iload 6, 2, 0, 0), (11, .ifCond .ne 7, 3, 0, 0), (14, .iconst 5, 1, 0, 0), (15, .goto 5, 3, 0, 0), (18, .bipush 6, 2, 0, 0), (20, .istore 7, 2, 0, 0), (22, .aload_n 0, 1, 0, 0), (23, .getfield 102, 3, 9, 2), (26, .aload_n 0, 1, 0, 0), (27, .getfield 105, 3, 9, 3), (30, .isub, 1, 0, 0), (31, .iload 7, 2, 0, 0), (33, .if_icmp .ne 102, 3, 0, 0), (36, .aload_n 0, 1, 0, 0), (37, .aload_n 0, 1, 0, 0), (38, .getfield 105, 3, 9, 3), (41, .invokevirtual 108, 3, 107, 1), (44, .iload_n 1, 1, 0, 0), (45, .if_icmp .ne 90, 3, 0, 0), (48, .aload_n 0, 1, 0, 0), (49, .aload_n 0, 1, 0, 0), (50, .getfield 105, 3, 9, 3), (53, .iconst 1, 1, 0, 0), (54, .iadd, 1, 0, 0), (55, .invokevirtual 108, 3, 107, 1), (58, .iload_n 2, 1, 0, 0), (59, .if_icmp .ne 76, 3, 0, 0), (62, .aload_n 0, 1, 0, 0), (63, .aload_n 0, 1, 0, 0), (64, .getfield 105, 3, 9, 3), (67, .iconst 2, 1, 0, 0), (68, .iadd, 1, 0, 0), (69, .invokevirtual 108, 3, 107, 1), (72, .iload_n 3, 1, 0, 0), (73, .if_icmp .ne 62, 3, 0, 0), (76, .aload_n 0, 1, 0, 0), (77, .aload_n 0, 1, 0, 0), (78, .getfield 105, 3, 9, 3), (81, .iconst 3, 1, 0, 0), (82, .iadd, 1, 0, 0), (83, .invokevirtual 108, 3, 107, 1), (86, .iload 4, 2, 0, 0), (88, .if_icmp .ne 47, 3, 0, 0), (91, .iload 5, 2, 0, 0), (93, .ifCond .eq 18, 3, 0, 0), (96, .aload_n 0, 1, 0, 0), (97, .aload_n 0, 1, 0, 0), (98, .getfield 105, 3, 9, 3), (101, .iconst 4, 1, 0, 0), (102, .iadd, 1, 0, 0), (103, .invokevirtual 108, 3, 107, 1), (106, .iload 5, 2, 0, 0), (108, .if_icmp .ne 27, 3, 0, 0), (111, .iload 6, 2, 0, 0), (113, .ifCond .eq 18, 3, 0, 0), (116, .aload_n 0, 1, 0, 0), (117, .aload_n 0, 1, 0, 0), (118, .getfield 105, 3, 9, 3), (121, .iconst 5, 1, 0, 0), (122, .iadd, 1, 0, 0), (123, .invokevirtual 108, 3, 107, 1), (126, .iload 6, 2, 0, 0), (128, .if_icmp .ne 7, 3, 0, 0), (131, .iconst 1, 1, 0, 0), (132, .goto 4, 3, 0, 0), (135, .iconst 0, 1, 0, 0), (136, .ireturn, 1, 1, 0)]
def mc_X9_nameNow : List (Nat × mm_E) := [(0, .aload_n 0, 1, 0, 0), (1, .bipush 105, 2, 0, 0), (3, .bipush 115, 2, 0, 0), (5, .bipush 115, 2, 0, 0), (7, .bipush 117, 2, 0, 0), (9, .bipush 101, 2, 0, 0), (11, .iconst 0, 1, 0, 0), (12, .invokevirtual 112, 3, 108, 6), (15, .ifCond .eq 5, 3, 0, 0), (18, .iconst 0, 1, 0, 0), (19, .ireturn, 1, 0, 0), (20, .aload_n 0, 1, 0, 0), (21, .bipush 100, 2, 0, 0), (23, .bipush 111, 2, 0, 0), (25, .bipush 117, 2, 0, 0), (27, .bipush 98, 2, 0, 0), (29, .bipush 108, 2, 0, 0), (31, .bipush 101, 2, 0, 0), (33, .invokevirtual 112, 3, 108, 6), (36, .ifCond .eq 5, 3, 0, 0), (39, .iconst 1, 1, 0, 0), (40, .ireturn, 1, 0, 0), (41, .aload_n 0, 1, 0, 0), (42, .bipush 101, 2, 0, 0), (44, .bipush 120, 2, 0, 0), (46, .bipush 112, 2, 0, 0), (48, .bipush 105, 2, 0, 0), (50, .bipush 114, 2, 0, 0), (52, .bipush 101, 2, 0, 0), (54, .invokevirtual 112, 3, 108, 6), (57, .ifCond .eq 5, 3, 0, 0), (60, .iconst 2, 1, 0, 0), (61, .ireturn, 1, 0, 0), (62, .aload_n 0, 1, 0, 0), (63, .bipush 108, 2, 0, 0), (65, .bipush 97, 2, 0, 0), (67, .bipush 116, 2, 0, 0), (69, .bipush 101, 2, 0, 0), (71, .iconst 0, 1, 0, 0), (72, .iconst 0, 1, 0, 0), (73, .invokevirtual 112, 3, 108, 6), (76, .ifCond .eq 5, 3, 0, 0), (79, .iconst 3, 1, 0, 0), (80, .ireturn, 1, 0, 0), (81, .aload_n 0, 1, 0, 0), (82, .bipush 100, 2, 0, 0), (84, .bipush 101, 2, 0, 0), (86, .bipush 98, 2, 0, 0), (88, .bipush 116, 2, 0, 0), (90, .iconst 0, 1, 0, 0), (91, .iconst 0, 1, 0, 0), (92, .invokevirtual 112, 3, 108, 6), (95, .ifCond .eq 7, 3, 0, 0), (98, .iconst 4, 1, 0, 0), (99, .goto 5, 3, 0, 0), (102, .bipush (-4), 2, 0, 0), (104, .ireturn, 1, 0, 0)]
def mc_X9_next : List (Nat × mm_E) := [(0, .aload_n 0, 1, 0, 0), (1, .aload_n 0, 1, 0, 0), (2, .getfield 102, 3, 9, 2), (5, .invokevirtual 108, 3, 107, 1), (8, .bipush 32, 2, 0, 0), (10, .if_icmp .ne 16, 3, 0, 0), (13, .aload_n 0, 1, 0, 0), (14, .dup, 1, 0, 0), (15, .getfield 102, 3, 9, 2), (18, .iconst 1, 1, 0, 0), (19, .iadd, 1, 0, 0), (20, .putfield 102, 3, 9, 2), (23, .goto (-23), 3, 0, 0), (26, .aload_n 0, 1, 0, 0), (27, .aload_n 0, 1, 0, 0), (28, .getfield 102, 3, 9, 2), (31, .putfield 105, 3, 9, 3), (34, .aload_n 0, 1, 0, 0), (35, .aload_n 0, 1, 0, 0), (36, .getfield 102, 3, 9, 2), (39, .invokevirtual 108, 3, 107, 1), (42, .istore_n 1, 1, 0, 0), (43, .iload_n 1, 1, 0, 0), (44, .ifCond .ge 11, 3, 0, 0), (47, .aload_n 0, 1, 0, 0), (48, .iconst 0, 1, 0, 0), (49, .putfield 116, 3, 9, 4), (52, .goto 244, 3, 0, 0), (55, .iload_n 1, 1, 0, 0), (56, .i2l, 1, 0, 0), (57, .ldc2_w 119, 3, 97, 0), (60, .ldc2_w 121, 3, 122, 0), (63, .invokestatic 92, 3, 103, 3), (66, .ifCond .eq 71, 3, 0, 0), (69, .aload_n 0, 1, 0, 0), (70, .iconst 1, 1, 0, 0), (71, .putfield 116, 3, 9, 4), (74, .aload_n 0, 1, 0, 0), (75, .aload_n 0, 1, 0, 0), (76, .getfield 102, 3, 9, 2), (79, .invokevirtual 108, 3, 107, 1), (82, .i2l, 1, 0, 0), (83, .ldc2_w 119, 3, 97, 0), (86, .ldc2_w 121, 3, 122, 0), (89, .invokestatic 92, 3, 103, 3), (92, .ifCond .eq 16, 3, 0, 0), (95, .aload_n 0, 1, 0, 0), (96, .dup, 1, 0, 0), (97, .getfield 102, 3, 9, 2), (100, .iconst 1, 1, 0, 0), (101, .iadd, 1, 0, 0), (102, .putfield 102, 3, 9, 2), (105, .goto (-31), 3, 0, 0), (108, .aload_n 0, 1, 0, 0), (109, .aload_n 0, 1, 0, 0), (110, .invokevirtual 123, 3, 109, 0), (113, .putfield 127, 3, 9, 5), (116, .aload_n 0, 1, 0, 0), (117, .getfield 127, 3, 9, 5), (120, .bipush (-4), 2, 0, 0), (122, .if_icmp .ne 174, 3, 0, 0), (125, .aload_n 0, 1, 0, 0), (126, .iconst 1, 1, 0, 0), (127, .aload_n 0, 1, 0, 0), (128, .getfield 105, 3, 9, 3), (131, .invokevirtual 130, 3, 106, 2), (134, .goto 162, 3, 0, 0), (137, .iload_n 1, 1, 0, 0), (138, .i2l, 1, 0, 0), (139, .ldc2_w 134, 3, 48, 0), (142, .ldc2_w 136, 3, 57, 0), (145, .invokestatic 92, 3, 103, 3), (148, .ifCond .eq 115, 3, 0, 0), (151, .aload_n 0, 1, 0, 0), (152, .iconst 2, 1, 0, 0), (153, .putfield 116, 3, 9, 4), (156, .aload_n 0, 1, 0, 0), (157, .iconst 0, 1, 0, 0), (158, .putfield 127, 3, 9, 5), (161, .aload_n 0, 1, 0, 0), (162, .aload_n 0, 1, 0, 0), (163, .getfield 102, 3, 9, 2), (166, .invokevirtual 108, 3, 107, 1), (169, .i2l, 1, 0, 0), (170, .ldc2_w 134, 3, 48, 0), (173, .ldc2_w 136, 3, 57, 0), (176, .invokestatic 92, 3, 103, 3), (179, .ifCond .eq 59, 3, 0, 0), (182, .aload_n 0, 1, 0, 0), (183, .aload_n 0, 1, 0, 0), (184, .getfield 102, 3, 9, 2), (187, .aload_n 0, 1, 0, 0), (188, .getfield 105, 3, 9, 3), (191, .isub, 1, 0, 0), (192, .iconst 4, 1, 0, 0), (193, .if_icmp .ge 25, 3, 0, 0), (196, .bipush 10, 2, 0, 0), (198, .aload_n 0, 1, 0, 0), (199, .getfield 127, 3, 9, 5), (202, .imul, 1, 0, 0), (203, .aload_n 0, 1, 0, 0), (204, .aload_n 0, 1, 0, 0), (205, .getfield 102, 3, 9, 2), (208, .invokevirtual 108, 3, 107, 1), (211, .iadd, 1, 0, 0), (212, .bipush 48, 2, 0, 0), (214, .isub, 1, 0, 0), (215, .goto 7, 3, 0, 0), (218, .aload_n 0, 1, 0, 0), (219, .getfield 127, 3, 9, 5), (222, .putfield 127, 3, 9, 5), (225, .aload_n 0, 1, 0, 0), (226, .dup, 1, 0, 0), (227, .getfield 102, 3, 9, 2), (230, .iconst 1, 1, 0, 0), (231, .iadd, 1, 0, 0), (232, .putfield 102, 3, 9, 2), (235, .goto (-74), 3, 0, 0), (238, .aload_n 0, 1, 0, 0), (239, .getfield 102, 3, 9, 2), (242, .aload_n 0, 1, 0, 0), (243, .getfield 105, 3, 9, 3), (246, .isub, 1, 0, 0), (247, .iconst 4, 1, 0, 0), (248, .if_icmp .le 48, 3, 0, 0), (251, .aload_n 0, 1, 0, 0), (252, .iconst 1, 1, 0, 0), (253, .aload_n 0, 1, 0, 0), (254, .getfield 105, 3, 9, 3), (257, .invokevirtual 130, 3, 106, 2), (260, .goto 36, 3, 0, 0), (263, .iload_n 1, 1, 0, 0), (264, .bipush 59, 2, 0, 0), (266, .if_icmp .ne 21, 3, 0, 0), (269, .aload_n 0, 1, 0, 0), (270, .iconst 3, 1, 0, 0), (271, .putfield 116, 3, 9, 4), (274, .aload_n 0, 1, 0, 0), (275, .dup, 1, 0, 0), (276, .getfield 102, 3, 9, 2), (279, .iconst 1, 1, 0, 0), (280, .iadd, 1, 0, 0), (281, .putfield 102, 3, 9, 2), (284, .goto 12, 3, 0, 0), (287, .aload_n 0, 1, 0, 0), (288, .iconst 1, 1, 0, 0), (289, .aload_n 0, 1, 0, 0), (290, .getfield 105, 3, 9, 3), (293, .invokevirtual 130, 3, 106, 2), (296, .return_, 1, 0, 0)]
def mc_X9_readLaw : List (Nat × mm_E) := [(0, .aload_n 0, 1, 0, 0), (1, .getfield 96, 3, 9, 6), (4, .ifCond .ne 20, 3, 0, 0), (7, .aload_n 0, 1, 0, 0), (8, .getfield 116, 3, 9, 4), (11, .iconst 1, 1, 0, 0), (12, .if_icmp .eq 12, 3, 0, 0), (15, .aload_n 0, 1, 0, 0), (16, .iconst 2, 1, 0, 0), (17, .aload_n 0, 1, 0, 0), (18, .getfield 105, 3, 9, 3), (21, .invokevirtual 130, 3, 106, 2), (24, .aload_n 0, 1, 0, 0), (25, .getfield 127, 3, 9, 5), (28, .istore_n 1, 1, 0, 0), (29, .aload_n 0, 1, 0, 0), (30, .getfield 96, 3, 9, 6), (33, .ifCond .ne 23, 3, 0, 0), (36, .aload_n 0, 1, 0, 0), (37, .getfield 13, 3, 9, 8), (40, .iload_n 1, 1, 0, 0), (41, .iaload, 1, 0, 0), (42, .bipush (-4), 2, 0, 0), (44, .if_icmp .eq 12, 3, 0, 0), (47, .aload_n 0, 1, 0, 0), (48, .iconst 4, 1, 0, 0), (49, .aload_n 0, 1, 0, 0), (50, .getfield 105, 3, 9, 3), (53, .invokevirtual 130, 3, 106, 2), (56, .aload_n 0, 1, 0, 0), (57, .getfield 96, 3, 9, 6), (60, .ifCond .le 4, 3, 0, 0), (63, .return_, 1, 0, 0), (64, .aload_n 0, 1, 0, 0), (65, .invokevirtual 138, 3, 110, 0), (68, .aload_n 0, 1, 0, 0), (69, .getfield 96, 3, 9, 6), (72, .ifCond .ne 20, 3, 0, 0), (75, .aload_n 0, 1, 0, 0), (76, .getfield 116, 3, 9, 4), (79, .iconst 2, 1, 0, 0), (80, .if_icmp .eq 12, 3, 0, 0), (83, .aload_n 0, 1, 0, 0), (84, .iconst 2, 1, 0, 0), (85, .aload_n 0, 1, 0, 0), (86, .getfield 105, 3, 9, 3), (89, .invokevirtual 130, 3, 106, 2), (92, .iload_n 1, 1, 0, 0), (93, .ifCond .ne 9, 3, 0, 0), (96, .sipush 200, 3, 0, 0), (99, .goto 36, 3, 0, 0), (102, .iload_n 1, 1, 0, 0), (103, .iconst 1, 1, 0, 0), (104, .if_icmp .ne 8, 3, 0, 0), (107, .bipush 47, 2, 0, 0), (109, .goto 26, 3, 0, 0), (112, .iload_n 1, 1, 0, 0), (113, .iconst 2, 1, 0, 0), (114, .if_icmp .ne 9, 3, 0, 0), (117, .sipush 400, 3, 0, 0), (120, .goto 15, 3, 0, 0), (123, .iload_n 1, 1, 0, 0), (124, .iconst 3, 1, 0, 0), (125, .if_icmp .ne 8, 3, 0, 0), (128, .bipush 50, 2, 0, 0), (130, .goto 5, 3, 0, 0), (133, .bipush 100, 2, 0, 0), (135, .istore_n 2, 1, 0, 0), (136, .aload_n 0, 1, 0, 0), (137, .getfield 96, 3, 9, 6), (140, .ifCond .ne 35, 3, 0, 0), (143, .aload_n 0, 1, 0, 0), (144, .getfield 127, 3, 9, 5), (147, .i2l, 1, 0, 0), (148, .iload_n 1, 1, 0, 0), (149, .iconst 2, 1, 0, 0), (150, .if_icmp .ne 7, 3, 0, 0), (153, .lconst 1, 1, 0, 0), (154, .goto 4, 3, 0, 0), (157, .lconst 0, 1, 0, 0), (158, .iload_n 2, 1, 0, 0), (159, .i2l, 1, 0, 0), (160, .invokestatic 92, 3, 103, 3), (163, .ifCond .ne 12, 3, 0, 0), (166, .aload_n 0, 1, 0, 0), (167, .iconst 3, 1, 0, 0), (168, .aload_n 0, 1, 0, 0), (169, .getfield 105, 3, 9, 3), (172, .invokevirtual 130, 3, 106, 2), (175, .aload_n 0, 1, 0, 0), (176, .getfield 13, 3, 9, 8), (179, .iload_n 1, 1, 0, 0), (180, .aload_n 0, 1, 0, 0), (181, .getfield 127, 3, 9, 5), (184, .iastore, 1, 0, 0), (185, .aload_n 0, 1, 0, 0), (186, .getfield 96, 3, 9, 6), (189, .ifCond .ne 7, 3, 0, 0), (192, .aload_n 0, 1, 0, 0), (193, .invokevirtual 138, 3, 110, 0), (196, .aload_n 0, 1, 0, 0), (197, .getfield 96, 3, 9, 6), (200, .ifCond .ne 20, 3, 0, 0), (203, .aload_n 0, 1, 0, 0), (204, .getfield 116, 3, 9, 4), (207, .iconst 3, 1, 0, 0), (208, .if_icmp .eq 12, 3, 0, 0), (211, .aload_n 0, 1, 0, 0), (212, .iconst 2, 1, 0, 0), (213, .aload_n 0, 1, 0, 0), (214, .getfield 105, 3, 9, 3), (217, .invokevirtual 130, 3, 106, 2), (220, .aload_n 0, 1, 0, 0), (221, .getfield 96, 3, 9, 6), (224, .ifCond .ne 7, 3, 0, 0), (227, .aload_n 0, 1, 0, 0), (228, .invokevirtual 138, 3, 110, 0), (231, .return_, 1, 0, 0)]
def mc_X9_vote : List (Nat × mm_E) := [(0, .iload_n 1, 1, 0, 0), (1, .i2l, 1, 0, 0), (2, .aload_n 0, 1, 0, 0), (3, .getfield 141, 3, 9, 12), (6, .i2l, 1, 0, 0), (7, .ldc2_w 144, 3, 2000, 0), (10, .invokestatic 92, 3, 103, 3), (13, .ifCond .ne 5, 3, 0, 0), (16, .iconst (-1), 1, 0, 0), (17, .ireturn, 1, 0, 0), (18, .aload_n 0, 1, 0, 0), (19, .getfield 146, 3, 9, 9), (22, .bipush 6, 2, 0, 0), (24, .if_icmp .ne 6, 3, 0, 0), (27, .bipush (-3), 2, 0, 0), (29, .ireturn, 1, 0, 0), (30, .aload_n 0, 1, 0, 0), (31, .iconst 0, 1, 0, 0), (32, .putfield 96, 3, 9, 6), (35, .aload_n 0, 1, 0, 0), (36, .iconst 0, 1, 0, 0), (37, .putfield 102, 3, 9, 2), (40, .iconst 0, 1, 0, 0), (41, .istore_n 2, 1, 0, 0), (42, .iload_n 2, 1, 0, 0), (43, .iconst 5, 1, 0, 0), (44, .if_icmp .ge 17, 3, 0, 0), (47, .aload_n 0, 1, 0, 0), (48, .getfield 13, 3, 9, 8), (51, .iload_n 2, 1, 0, 0), (52, .bipush (-4), 2, 0, 0), (54, .iastore, 1, 0, 0), (55, .iinc 2 1, 3, 0, 0), (58, .goto (-16), 3, 0, 0), (61, .aload_n 0, 1, 0, 0), (62, .invokevirtual 138, 3, 110, 0), (65, .iconst 1, 1, 0, 0), (66, .istore_n 2, 1, 0, 0), (67, .iload_n 2, 1, 0, 0), (68, .ifCond .eq 30, 3, 0, 0), (71, .aload_n 0, 1, 0, 0), (72, .getfield 96, 3, 9, 6), (75, .ifCond .ne 23, 3, 0, 0), (78, .aload_n 0, 1, 0, 0), (79, .invokevirtual 149, 3, 111, 0), (82, .aload_n 0, 1, 0, 0), (83, .getfield 116, 3, 9, 4), (86, .ifCond .eq 7, 3, 0, 0), (89, .iconst 1, 1, 0, 0), (90, .goto 4, 3, 0, 0), (93, .iconst 0, 1, 0, 0), (94, .istore_n 2, 1, 0, 0), (95, .goto (-28), 3, 0, 0), (98, .aload_n 0, 1, 0, 0), (99, .iconst 0, 1, 0, 0), (100, .putfield 86, 3, 9, 1), (103, .aload_n 0, 1, 0, 0), (104, .getfield 96, 3, 9, 6), (107, .ifCond .le 11, 3, 0, 0), (110, .bipush (-10), 2, 0, 0), (112, .aload_n 0, 1, 0, 0), (113, .getfield 99, 3, 9, 7), (116, .isub, 1, 0, 0), (117, .ireturn, 1, 0, 0), (118, .aload_n 0, 1, 0, 0), (119, .getfield 16, 3, 9, 10), (122, .aload_n 0, 1, 0, 0), (123, .getfield 146, 3, 9, 9), (126, .iload_n 1, 1, 0, 0), (127, .iastore, 1, 0, 0), (128, .iconst 0, 1, 0, 0), (129, .istore_n 3, 1, 0, 0), (130, .iload_n 3, 1, 0, 0), (131, .iconst 5, 1, 0, 0), (132, .if_icmp .ge 28, 3, 0, 0), (135, .aload_n 0, 1, 0, 0), (136, .getfield 19, 3, 9, 11), (139, .iconst 5, 1, 0, 0), (140, .aload_n 0, 1, 0, 0), (141, .getfield 146, 3, 9, 9), (144, .imul, 1, 0, 0), (145, .iload_n 3, 1, 0, 0), (146, .iadd, 1, 0, 0), (147, .aload_n 0, 1, 0, 0), (148, .getfield 13, 3, 9, 8), (151, .iload_n 3, 1, 0, 0), (152, .iaload, 1, 0, 0), (153, .iastore, 1, 0, 0), (154, .iinc 3 1, 3, 0, 0), (157, .goto (-27), 3, 0, 0), (160, .aload_n 0, 1, 0, 0), (161, .dup, 1, 0, 0), (162, .getfield 146, 3, 9, 9), (165, .iconst 1, 1, 0, 0), (166, .iadd, 1, 0, 0), (167, .putfield 146, 3, 9, 9), (170, .aload_n 0, 1, 0, 0), (171, .invokevirtual 152, 3, 119, 0), (174, .aload_n 0, 1, 0, 0), (175, .getfield 146, 3, 9, 9), (178, .iconst 1, 1, 0, 0), (179, .isub, 1, 0, 0), (180, .ireturn, 1, 0, 0)]
def mc_X9_fault : List (Nat × mm_E) := [(0, .aload_n 0, 1, 0, 0), (1, .getfield 96, 3, 9, 6), (4, .ireturn, 1, 0, 0)]
def mc_X9_unwind : List (Nat × mm_E) := [(0, .aload_n 0, 1, 0, 0), (1, .getfield 146, 3, 9, 9), (4, .ifCond .ne 6, 3, 0, 0), (7, .bipush (-4), 2, 0, 0), (9, .ireturn, 1, 0, 0), (10, .aload_n 0, 1, 0, 0), (11, .getfield 16, 3, 9, 10), (14, .aload_n 0, 1, 0, 0), (15, .getfield 146, 3, 9, 9), (18, .iconst 1, 1, 0, 0), (19, .isub, 1, 0, 0), (20, .iaload, 1, 0, 0), (21, .aload_n 0, 1, 0, 0), (22, .getfield 141, 3, 9, 12), (25, .if_icmp .gt 6, 3, 0, 0), (28, .bipush (-2), 2, 0, 0), (30, .ireturn, 1, 0, 0), (31, .aload_n 0, 1, 0, 0), (32, .dup, 1, 0, 0), (33, .getfield 146, 3, 9, 9), (36, .iconst 1, 1, 0, 0), (37, .isub, 1, 0, 0), (38, .putfield 146, 3, 9, 9), (41, .aload_n 0, 1, 0, 0), (42, .getfield 146, 3, 9, 9), (45, .ireturn, 1, 0, 0)]
def mc_X9_textOf : List (Nat × mm_E) := [(0, .bipush (-4), 2, 0, 0), (2, .istore_n 2, 1, 0, 0), (3, .iconst 0, 1, 0, 0), (4, .istore_n 3, 1, 0, 0), (5, .iload_n 3, 1, 0, 0), (6, .aload_n 0, 1, 0, 0), (7, .getfield 146, 3, 9, 9), (10, .if_icmp .ge 42, 3, 0, 0), (13, .aload_n 0, 1, 0, 0), (14, .getfield 16, 3, 9, 10), (17, .iload_n 3, 1, 0, 0), (18, .iaload, 1, 0, 0), (19, .iload_n 1, 1, 0, 0), (20, .if_icmp .gt 26, 3, 0, 0), (23, .iload_n 2, 1, 0, 0), (24, .bipush (-4), 2, 0, 0), (26, .if_icmp .eq 18, 3, 0, 0), (29, .aload_n 0, 1, 0, 0), (30, .getfield 16, 3, 9, 10), (33, .iload_n 3, 1, 0, 0), (34, .iaload, 1, 0, 0), (35, .aload_n 0, 1, 0, 0), (36, .getfield 16, 3, 9, 10), (39, .iload_n 2, 1, 0, 0), (40, .iaload, 1, 0, 0), (41, .if_icmp .lt 5, 3, 0, 0), (44, .iload_n 3, 1, 0, 0), (45, .istore_n 2, 1, 0, 0), (46, .iinc 3 1, 3, 0, 0), (49, .goto (-44), 3, 0, 0), (52, .iload_n 2, 1, 0, 0), (53, .ireturn, 1, 0, 0)]
def mc_X9_law : List (Nat × mm_E) := [(0, .aload_n 0, 1, 0, 0), (1, .iload_n 1, 1, 0, 0), (2, .invokevirtual 155, 3, 115, 1), (5, .istore_n 3, 1, 0, 0), (6, .iload_n 3, 1, 0, 0), (7, .bipush (-4), 2, 0, 0), (9, .if_icmp .ne 8, 3, 0, 0), (12, .bipush (-4), 2, 0, 0), (14, .goto 13, 3, 0, 0), (17, .aload_n 0, 1, 0, 0), (18, .getfield 19, 3, 9, 11), (21, .iconst 5, 1, 0, 0), (22, .iload_n 3, 1, 0, 0), (23, .imul, 1, 0, 0), (24, .iload_n 2, 1, 0, 0), (25, .iadd, 1, 0, 0), (26, .iaload, 1, 0, 0), (27, .istore 4, 2, 0, 0), (29, .iload 4, 2, 0, 0), (31, .bipush (-4), 2, 0, 0), (33, .if_icmp .ne 17, 3, 0, 0), (36, .iload_n 2, 1, 0, 0), (37, .iconst 1, 1, 0, 0), (38, .if_icmp .eq 12, 3, 0, 0), (41, .iload_n 2, 1, 0, 0), (42, .iconst 2, 1, 0, 0), (43, .if_icmp .eq 7, 3, 0, 0), (46, .iconst 0, 1, 0, 0), (47, .goto 5, 3, 0, 0), (50, .iload 4, 2, 0, 0), (52, .ireturn, 1, 0, 0)]
def mc_X9_rule : List (Nat × mm_E) := [(0, .iload_n 1, 1, 0, 0), (1, .i2l, 1, 0, 0), (2, .lconst 0, 1, 0, 0), (3, .ldc2_w 144, 3, 2000, 0), (6, .invokestatic 92, 3, 103, 3), (9, .ifCond .eq 15, 3, 0, 0), (12, .iload_n 2, 1, 0, 0), (13, .i2l, 1, 0, 0), (14, .lconst 0, 1, 0, 0), (15, .ldc2_w 158, 3, 5, 0), (18, .invokestatic 92, 3, 103, 3), (21, .ifCond .ne 7, 3, 0, 0), (24, .iconst (-1), 1, 0, 0), (25, .goto 22, 3, 0, 0), (28, .iload_n 2, 1, 0, 0), (29, .iconst 5, 1, 0, 0), (30, .if_icmp .ne 11, 3, 0, 0), (33, .aload_n 0, 1, 0, 0), (34, .iload_n 1, 1, 0, 0), (35, .invokevirtual 155, 3, 115, 1), (38, .goto 9, 3, 0, 0), (41, .aload_n 0, 1, 0, 0), (42, .iload_n 1, 1, 0, 0), (43, .iload_n 2, 1, 0, 0), (44, .invokevirtual 160, 3, 116, 2), (47, .ireturn, 1, 0, 0)]
def mc_X9_isFamily : List (Nat × mm_E) := [(0, .iload_n 1, 1, 0, 0), (1, .i2l, 1, 0, 0), (2, .lconst 0, 1, 0, 0), (3, .aload_n 0, 1, 0, 0), (4, .getfield 164, 3, 9, 14), (7, .iconst 1, 1, 0, 0), (8, .isub, 1, 0, 0), (9, .i2l, 1, 0, 0), (10, .invokestatic 92, 3, 103, 3), (13, .ifCond .eq 16, 3, 0, 0), (16, .aload_n 0, 1, 0, 0), (17, .getfield 22, 3, 9, 15), (20, .iload_n 1, 1, 0, 0), (21, .baload, 1, 0, 0), (22, .ifCond .ne 7, 3, 0, 0), (25, .iconst 1, 1, 0, 0), (26, .goto 4, 3, 0, 0), (29, .iconst 0, 1, 0, 0), (30, .ireturn, 1, 1, 0)]
def mc_X9_expires : List (Nat × mm_E) := [(0, .aload_n 0, 1, 0, 0), (1, .aload_n 0, 1, 0, 0), (2, .getfield 141, 3, 9, 12), (5, .iconst 2, 1, 0, 0), (6, .invokevirtual 160, 3, 116, 2), (9, .istore_n 1, 1, 0, 0), (10, .iload_n 1, 1, 0, 0), (11, .bipush (-4), 2, 0, 0), (13, .if_icmp .ne 7, 3, 0, 0), (16, .iconst 0, 1, 0, 0), (17, .goto 9, 3, 0, 0), (20, .aload_n 0, 1, 0, 0), (21, .getfield 141, 3, 9, 12), (24, .iload_n 1, 1, 0, 0), (25, .isub, 1, 0, 0), (26, .istore_n 2, 1, 0, 0), (27, .aload_n 0, 1, 0, 0), (28, .getfield 167, 3, 9, 13), (31, .iload_n 2, 1, 0, 0), (32, .if_icmp .ge 72, 3, 0, 0), (35, .iconst 0, 1, 0, 0), (36, .istore_n 3, 1, 0, 0), (37, .iload_n 3, 1, 0, 0), (38, .aload_n 0, 1, 0, 0), (39, .getfield 164, 3, 9, 14), (42, .if_icmp .ge 49, 3, 0, 0), (45, .aload_n 0, 1, 0, 0), (46, .dup, 1, 0, 0), (47, .getfield 170, 3, 9, 22), (50, .aload_n 0, 1, 0, 0), (51, .getfield 35, 3, 9, 19), (54, .sipush 2001, 3, 0, 0), (57, .iload_n 3, 1, 0, 0), (58, .imul, 1, 0, 0), (59, .aload_n 0, 1, 0, 0), (60, .getfield 167, 3, 9, 13), (63, .iadd, 1, 0, 0), (64, .iaload, 1, 0, 0), (65, .iadd, 1, 0, 0), (66, .putfield 170, 3, 9, 22), (69, .aload_n 0, 1, 0, 0), (70, .getfield 35, 3, 9, 19), (73, .sipush 2001, 3, 0, 0), (76, .iload_n 3, 1, 0, 0), (77, .imul, 1, 0, 0), (78, .aload_n 0, 1, 0, 0), (79, .getfield 167, 3, 9, 13), (82, .iadd, 1, 0, 0), (83, .iconst 0, 1, 0, 0), (84, .iastore, 1, 0, 0), (85, .iinc 3 1, 3, 0, 0), (88, .goto (-51), 3, 0, 0), (91, .aload_n 0, 1, 0, 0), (92, .dup, 1, 0, 0), (93, .getfield 167, 3, 9, 13), (96, .iconst 1, 1, 0, 0), (97, .iadd, 1, 0, 0), (98, .putfield 167, 3, 9, 13), (101, .goto (-74), 3, 0, 0), (104, .return_, 1, 0, 0)]
def mc_X9_go : List (Nat × mm_E) := [(0, .iload_n 1, 1, 0, 0), (1, .i2l, 1, 0, 0), (2, .lconst 1, 1, 0, 0), (3, .ldc2_w 173, 3, 100, 0), (6, .invokestatic 92, 3, 103, 3), (9, .ifCond .ne 5, 3, 0, 0), (12, .iconst (-1), 1, 0, 0), (13, .ireturn, 1, 0, 0), (14, .aload_n 0, 1, 0, 0), (15, .getfield 141, 3, 9, 12), (18, .iload_n 1, 1, 0, 0), (19, .iadd, 1, 0, 0), (20, .sipush 2000, 3, 0, 0), (23, .if_icmp .gt 17, 3, 0, 0), (26, .aload_n 0, 1, 0, 0), (27, .getfield 175, 3, 9, 24), (30, .ifCond .gt 10, 3, 0, 0), (33, .aload_n 0, 1, 0, 0), (34, .getfield 178, 3, 9, 28), (37, .ifCond .le 6, 3, 0, 0), (40, .bipush (-2), 2, 0, 0), (42, .ireturn, 1, 0, 0), (43, .iconst 0, 1, 0, 0), (44, .istore_n 2, 1, 0, 0), (45, .iload_n 2, 1, 0, 0), (46, .iload_n 1, 1, 0, 0), (47, .if_icmp .ge 23, 3, 0, 0), (50, .aload_n 0, 1, 0, 0), (51, .dup, 1, 0, 0), (52, .getfield 141, 3, 9, 12), (55, .iconst 1, 1, 0, 0), (56, .iadd, 1, 0, 0), (57, .putfield 141, 3, 9, 12), (60, .aload_n 0, 1, 0, 0), (61, .invokevirtual 152, 3, 119, 0), (64, .iinc 2 1, 3, 0, 0), (67, .goto (-22), 3, 0, 0), (70, .aload_n 0, 1, 0, 0), (71, .getfield 141, 3, 9, 12), (74, .ireturn, 1, 0, 0)]
def mc_X9_has : List (Nat × mm_E) := [(0, .iconst 0, 1, 0, 0), (1, .istore_n 2, 1, 0, 0), (2, .aload_n 0, 1, 0, 0), (3, .getfield 167, 3, 9, 13), (6, .istore_n 3, 1, 0, 0), (7, .iload_n 3, 1, 0, 0), (8, .aload_n 0, 1, 0, 0), (9, .getfield 141, 3, 9, 12), (12, .if_icmp .gt 24, 3, 0, 0), (15, .iload_n 2, 1, 0, 0), (16, .aload_n 0, 1, 0, 0), (17, .getfield 35, 3, 9, 19), (20, .sipush 2001, 3, 0, 0), (23, .iload_n 1, 1, 0, 0), (24, .imul, 1, 0, 0), (25, .iload_n 3, 1, 0, 0), (26, .iadd, 1, 0, 0), (27, .iaload, 1, 0, 0), (28, .iadd, 1, 0, 0), (29, .istore_n 2, 1, 0, 0), (30, .iinc 3 1, 3, 0, 0), (33, .goto (-26), 3, 0, 0), (36, .iload_n 2, 1, 0, 0), (37, .ireturn, 1, 0, 0)]
def mc_X9_join : List (Nat × mm_E) := [(0, .aload_n 0, 1, 0, 0), (1, .getfield 164, 3, 9, 14), (4, .bipush 12, 2, 0, 0), (6, .if_icmp .ne 6, 3, 0, 0), (9, .bipush (-3), 2, 0, 0), (11, .ireturn, 1, 0, 0), (12, .aload_n 0, 1, 0, 0), (13, .getfield 164, 3, 9, 14), (16, .istore_n 1, 1, 0, 0), (17, .aload_n 0, 1, 0, 0), (18, .dup, 1, 0, 0), (19, .getfield 164, 3, 9, 14), (22, .iconst 1, 1, 0, 0), (23, .iadd, 1, 0, 0), (24, .putfield 164, 3, 9, 14), (27, .aload_n 0, 1, 0, 0), (28, .aload_n 0, 1, 0, 0), (29, .getfield 141, 3, 9, 12), (32, .iconst 0, 1, 0, 0), (33, .invokevirtual 160, 3, 116, 2), (36, .istore_n 2, 1, 0, 0), (37, .aload_n 0, 1, 0, 0), (38, .getfield 35, 3, 9, 19), (41, .sipush 2001, 3, 0, 0), (44, .iload_n 1, 1, 0, 0), (45, .imul, 1, 0, 0), (46, .aload_n 0, 1, 0, 0), (47, .getfield 141, 3, 9, 12), (50, .iadd, 1, 0, 0), (51, .iload_n 2, 1, 0, 0), (52, .iastore, 1, 0, 0), (53, .aload_n 0, 1, 0, 0), (54, .dup, 1, 0, 0), (55, .getfield 181, 3, 9, 21), (58, .iload_n 2, 1, 0, 0), (59, .iadd, 1, 0, 0), (60, .putfield 181, 3, 9, 21), (63, .iload_n 1, 1, 0, 0), (64, .ireturn, 1, 0, 0)]
def mc_X9_leave : List (Nat × mm_E) := [(0, .aload_n 0, 1, 0, 0), (1, .iload_n 1, 1, 0, 0), (2, .invokevirtual 184, 3, 118, 1), (5, .ifCond .ne 5, 3, 0, 0), (8, .iconst (-1), 1, 0, 0), (9, .ireturn, 1, 0, 0), (10, .aload_n 0, 1, 0, 0), (11, .getfield 26, 3, 9, 16), (14, .iload_n 1, 1, 0, 0), (15, .iaload, 1, 0, 0), (16, .ifCond .le 7, 3, 0, 0), (19, .iconst 1, 1, 0, 0), (20, .goto 4, 3, 0, 0), (23, .iconst 0, 1, 0, 0), (24, .istore_n 2, 1, 0, 0), (25, .iconst 0, 1, 0, 0), (26, .istore_n 3, 1, 0, 0), (27, .iload_n 3, 1, 0, 0), (28, .aload_n 0, 1, 0, 0), (29, .getfield 175, 3, 9, 24), (32, .if_icmp .ge 29, 3, 0, 0), (35, .iload_n 2, 1, 0, 0), (36, .ifCond .ne 13, 3, 0, 0), (39, .aload_n 0, 1, 0, 0), (40, .getfield 41, 3, 9, 25), (43, .iload_n 3, 1, 0, 0), (44, .iaload, 1, 0, 0), (45, .iload_n 1, 1, 0, 0), (46, .if_icmp .ne 7, 3, 0, 0), (49, .iconst 1, 1, 0, 0), (50, .goto 4, 3, 0, 0), (53, .iconst 0, 1, 0, 0), (54, .istore_n 2, 1, 0, 0), (55, .iinc 3 1, 3, 0, 0), (58, .goto (-31), 3, 0, 0), (61, .iconst 0, 1, 0, 0), (62, .istore_n 3, 1, 0, 0), (63, .iload_n 3, 1, 0, 0), (64, .aload_n 0, 1, 0, 0), (65, .getfield 178, 3, 9, 28), (68, .if_icmp .ge 29, 3, 0, 0), (71, .iload_n 2, 1, 0, 0), (72, .ifCond .ne 13, 3, 0, 0), (75, .aload_n 0, 1, 0, 0), (76, .getfield 50, 3, 9, 29), (79, .iload_n 3, 1, 0, 0), (80, .iaload, 1, 0, 0), (81, .iload_n 1, 1, 0, 0), (82, .if_icmp .ne 7, 3, 0, 0), (85, .iconst 1, 1, 0, 0), (86, .goto 4, 3, 0, 0), (89, .iconst 0, 1, 0, 0), (90, .istore_n 2, 1, 0, 0), (91, .iinc 3 1, 3, 0, 0), (94, .goto (-31), 3, 0, 0), (97, .iload_n 2, 1, 0, 0), (98, .ifCond .eq 6, 3, 0, 0), (101, .bipush (-2), 2, 0, 0), (103, .ireturn, 1, 0, 0), (104, .aload_n 0, 1, 0, 0), (105, .iload_n 1, 1, 0, 0), (106, .invokevirtual 188, 3, 121, 1), (109, .istore_n 3, 1, 0, 0), (110, .aload_n 0, 1, 0, 0), (111, .dup, 1, 0, 0), (112, .getfield 191, 3, 9, 23), (115, .iload_n 3, 1, 0, 0), (116, .iadd, 1, 0, 0), (117, .putfield 191, 3, 9, 23), (120, .aload_n 0, 1, 0, 0), (121, .getfield 167, 3, 9, 13), (124, .istore 4, 2, 0, 0), (126, .iload 4, 2, 0, 0), (128, .aload_n 0, 1, 0, 0), (129, .getfield 141, 3, 9, 12), (132, .if_icmp .gt 23, 3, 0, 0), (135, .aload_n 0, 1, 0, 0), (136, .getfield 35, 3, 9, 19), (139, .sipush 2001, 3, 0, 0), (142, .iload_n 1, 1, 0, 0), (143, .imul, 1, 0, 0), (144, .iload 4, 2, 0, 0), (146, .iadd, 1, 0, 0), (147, .iconst 0, 1, 0, 0), (148, .iastore, 1, 0, 0), (149, .iinc 4 1, 3, 0, 0), (152, .goto (-26), 3, 0, 0), (155, .aload_n 0, 1, 0, 0), (156, .getfield 22, 3, 9, 15), (159, .iload_n 1, 1, 0, 0), (160, .iconst 1, 1, 0, 0), (161, .bastore, 1, 0, 0), (162, .iload_n 3, 1, 0, 0), (163, .ireturn, 1, 0, 0)]
def mc_X9_bar : List (Nat × mm_E) := [(0, .aload_n 0, 1, 0, 0), (1, .iload_n 1, 1, 0, 0), (2, .invokevirtual 184, 3, 118, 1), (5, .ifCond .eq 16, 3, 0, 0), (8, .aload_n 0, 1, 0, 0), (9, .iload_n 2, 1, 0, 0), (10, .invokevirtual 184, 3, 118, 1), (13, .ifCond .eq 8, 3, 0, 0), (16, .iload_n 1, 1, 0, 0), (17, .iload_n 2, 1, 0, 0), (18, .if_icmp .ne 5, 3, 0, 0), (21, .iconst (-1), 1, 0, 0), (22, .ireturn, 1, 0, 0), (23, .aload_n 0, 1, 0, 0), (24, .getfield 38, 3, 9, 20), (27, .bipush 12, 2, 0, 0), (29, .iload_n 1, 1, 0, 0), (30, .imul, 1, 0, 0), (31, .iload_n 2, 1, 0, 0), (32, .iadd, 1, 0, 0), (33, .baload, 1, 0, 0), (34, .ifCond .eq 7, 3, 0, 0), (37, .iconst 1, 1, 0, 0), (38, .goto 4, 3, 0, 0), (41, .iconst 0, 1, 0, 0), (42, .istore 4, 2, 0, 0), (44, .aload_n 0, 1, 0, 0), (45, .getfield 38, 3, 9, 20), (48, .bipush 12, 2, 0, 0), (50, .iload_n 1, 1, 0, 0), (51, .imul, 1, 0, 0), (52, .iload_n 2, 1, 0, 0), (53, .iadd, 1, 0, 0), (54, .iload_n 3, 1, 0, 0), (55, .bastore, 1, 0, 0), (56, .iload 4, 2, 0, 0), (58, .ireturn, 1, 0, 0)]
def mc_X9_oldest : List (Nat × mm_E) := [(0, .aload_n 0, 1, 0, 0), (1, .getfield 167, 3, 9, 13), (4, .istore_n 2, 1, 0, 0), (5, .iload_n 2, 1, 0, 0), (6, .aload_n 0, 1, 0, 0), (7, .getfield 141, 3, 9, 12), (10, .if_icmp .gt 24, 3, 0, 0), (13, .aload_n 0, 1, 0, 0), (14, .getfield 35, 3, 9, 19), (17, .sipush 2001, 3, 0, 0), (20, .iload_n 1, 1, 0, 0), (21, .imul, 1, 0, 0), (22, .iload_n 2, 1, 0, 0), (23, .iadd, 1, 0, 0), (24, .iaload, 1, 0, 0), (25, .ifCond .ne 9, 3, 0, 0), (28, .iinc 2 1, 3, 0, 0), (31, .goto (-26), 3, 0, 0), (34, .iload_n 2, 1, 0, 0), (35, .aload_n 0, 1, 0, 0), (36, .getfield 141, 3, 9, 12), (39, .if_icmp .gt 7, 3, 0, 0), (42, .iload_n 2, 1, 0, 0), (43, .goto 5, 3, 0, 0), (46, .bipush (-4), 2, 0, 0), (48, .ireturn, 1, 0, 0)]
def mc_X9_told : List (Nat × mm_E) := [(0, .aload_n 0, 1, 0, 0), (1, .iload_n 1, 1, 0, 0), (2, .invokevirtual 184, 3, 118, 1), (5, .ifCond .eq 15, 3, 0, 0), (8, .iload_n 2, 1, 0, 0), (9, .i2l, 1, 0, 0), (10, .lconst 0, 1, 0, 0), (11, .ldc2_w 158, 3, 5, 0), (14, .invokestatic 92, 3, 103, 3), (17, .ifCond .ne 5, 3, 0, 0), (20, .iconst (-1), 1, 0, 0), (21, .ireturn, 1, 0, 0), (22, .aload_n 0, 1, 0, 0), (23, .iload_n 1, 1, 0, 0), (24, .invokevirtual 194, 3, 125, 1), (27, .istore_n 3, 1, 0, 0), (28, .iload_n 2, 1, 0, 0), (29, .ifCond .ne 11, 3, 0, 0), (32, .aload_n 0, 1, 0, 0), (33, .iload_n 1, 1, 0, 0), (34, .invokevirtual 188, 3, 121, 1), (37, .goto 76, 3, 0, 0), (40, .iload_n 2, 1, 0, 0), (41, .iconst 1, 1, 0, 0), (42, .if_icmp .ne 12, 3, 0, 0), (45, .aload_n 0, 1, 0, 0), (46, .getfield 26, 3, 9, 16), (49, .iload_n 1, 1, 0, 0), (50, .iaload, 1, 0, 0), (51, .goto 62, 3, 0, 0), (54, .iload_n 2, 1, 0, 0), (55, .iconst 2, 1, 0, 0), (56, .if_icmp .ne 7, 3, 0, 0), (59, .iload_n 3, 1, 0, 0), (60, .goto 53, 3, 0, 0), (63, .iload_n 2, 1, 0, 0), (64, .iconst 3, 1, 0, 0), (65, .if_icmp .ne 12, 3, 0, 0), (68, .aload_n 0, 1, 0, 0), (69, .getfield 29, 3, 9, 17), (72, .iload_n 1, 1, 0, 0), (73, .iaload, 1, 0, 0), (74, .goto 39, 3, 0, 0), (77, .iload_n 2, 1, 0, 0), (78, .iconst 4, 1, 0, 0), (79, .if_icmp .ne 12, 3, 0, 0), (82, .aload_n 0, 1, 0, 0), (83, .getfield 32, 3, 9, 18), (86, .iload_n 1, 1, 0, 0), (87, .iaload, 1, 0, 0), (88, .goto 25, 3, 0, 0), (91, .iload_n 3, 1, 0, 0), (92, .bipush (-4), 2, 0, 0), (94, .if_icmp .ne 7, 3, 0, 0), (97, .iconst 0, 1, 0, 0), (98, .goto 15, 3, 0, 0), (101, .aload_n 0, 1, 0, 0), (102, .getfield 35, 3, 9, 19), (105, .sipush 2001, 3, 0, 0), (108, .iload_n 1, 1, 0, 0), (109, .imul, 1, 0, 0), (110, .iload_n 3, 1, 0, 0), (111, .iadd, 1, 0, 0), (112, .iaload, 1, 0, 0), (113, .ireturn, 1, 0, 0)]
def mc_X9_may : List (Nat × mm_E) := [(0, .iload_n 2, 1, 0, 0), (1, .aload_n 0, 1, 0, 0), (2, .iload_n 1, 1, 0, 0), (3, .invokevirtual 188, 3, 121, 1), (6, .isub, 1, 0, 0), (7, .istore 4, 2, 0, 0), (9, .aload_n 0, 1, 0, 0), (10, .getfield 26, 3, 9, 16), (13, .iload_n 1, 1, 0, 0), (14, .iaload, 1, 0, 0), (15, .iload 4, 2, 0, 0), (17, .ifCond .le 8, 3, 0, 0), (20, .iload 4, 2, 0, 0), (22, .goto 4, 3, 0, 0), (25, .iconst 0, 1, 0, 0), (26, .iadd, 1, 0, 0), (27, .iload_n 3, 1, 0, 0), (28, .if_icmp .gt 7, 3, 0, 0), (31, .iconst 1, 1, 0, 0), (32, .goto 4, 3, 0, 0), (35, .iconst 0, 1, 0, 0), (36, .ireturn, 1, 1, 0)]
def mc_X9_pays : List (Nat × mm_E) := [(0, .iload_n 3, 1, 0, 0), (1, .istore 4, 2, 0, 0), (3, .aload_n 0, 1, 0, 0), (4, .getfield 167, 3, 9, 13), (7, .istore 5, 2, 0, 0), (9, .iload 5, 2, 0, 0), (11, .aload_n 0, 1, 0, 0), (12, .getfield 141, 3, 9, 12), (15, .if_icmp .gt 90, 3, 0, 0), (18, .aload_n 0, 1, 0, 0), (19, .getfield 35, 3, 9, 19), (22, .sipush 2001, 3, 0, 0), (25, .iload_n 1, 1, 0, 0), (26, .imul, 1, 0, 0), (27, .iload 5, 2, 0, 0), (29, .iadd, 1, 0, 0), (30, .iaload, 1, 0, 0), (31, .iload 4, 2, 0, 0), (33, .if_icmp .ge 19, 3, 0, 0), (36, .aload_n 0, 1, 0, 0), (37, .getfield 35, 3, 9, 19), (40, .sipush 2001, 3, 0, 0), (43, .iload_n 1, 1, 0, 0), (44, .imul, 1, 0, 0), (45, .iload 5, 2, 0, 0), (47, .iadd, 1, 0, 0), (48, .iaload, 1, 0, 0), (49, .goto 5, 3, 0, 0), (52, .iload 4, 2, 0, 0), (54, .istore 6, 2, 0, 0), (56, .aload_n 0, 1, 0, 0), (57, .getfield 35, 3, 9, 19), (60, .sipush 2001, 3, 0, 0), (63, .iload_n 1, 1, 0, 0), (64, .imul, 1, 0, 0), (65, .iload 5, 2, 0, 0), (67, .iadd, 1, 0, 0), (68, .dup2, 1, 0, 0), (69, .iaload, 1, 0, 0), (70, .iload 6, 2, 0, 0), (72, .isub, 1, 0, 0), (73, .iastore, 1, 0, 0), (74, .aload_n 0, 1, 0, 0), (75, .getfield 35, 3, 9, 19), (78, .sipush 2001, 3, 0, 0), (81, .iload_n 2, 1, 0, 0), (82, .imul, 1, 0, 0), (83, .iload 5, 2, 0, 0), (85, .iadd, 1, 0, 0), (86, .dup2, 1, 0, 0), (87, .iaload, 1, 0, 0), (88, .iload 6, 2, 0, 0), (90, .iadd, 1, 0, 0), (91, .iastore, 1, 0, 0), (92, .iload 4, 2, 0, 0), (94, .iload 6, 2, 0, 0), (96, .isub, 1, 0, 0), (97, .istore 4, 2, 0, 0), (99, .iinc 5 1, 3, 0, 0), (102, .goto (-93), 3, 0, 0), (105, .aload_n 0, 1, 0, 0), (106, .getfield 26, 3, 9, 16), (109, .iload_n 1, 1, 0, 0), (110, .dup2, 1, 0, 0), (111, .iaload, 1, 0, 0), (112, .iload 4, 2, 0, 0), (114, .iadd, 1, 0, 0), (115, .iastore, 1, 0, 0), (116, .aload_n 0, 1, 0, 0), (117, .getfield 35, 3, 9, 19), (120, .sipush 2001, 3, 0, 0), (123, .iload_n 2, 1, 0, 0), (124, .imul, 1, 0, 0), (125, .aload_n 0, 1, 0, 0), (126, .getfield 141, 3, 9, 12), (129, .iadd, 1, 0, 0), (130, .dup2, 1, 0, 0), (131, .iaload, 1, 0, 0), (132, .iload 4, 2, 0, 0), (134, .iadd, 1, 0, 0), (135, .iastore, 1, 0, 0), (136, .aload_n 0, 1, 0, 0), (137, .dup, 1, 0, 0), (138, .getfield 181, 3, 9, 21), (141, .iload 4, 2, 0, 0), (143, .iadd, 1, 0, 0), (144, .putfield 181, 3, 9, 21), (147, .aload_n 0, 1, 0, 0), (148, .getfield 26, 3, 9, 16), (151, .iload_n 2, 1, 0, 0), (152, .iaload, 1, 0, 0), (153, .iload_n 3, 1, 0, 0), (154, .if_icmp .ge 12, 3, 0, 0), (157, .aload_n 0, 1, 0, 0), (158, .getfield 26, 3, 9, 16), (161, .iload_n 2, 1, 0, 0), (162, .iaload, 1, 0, 0), (163, .goto 4, 3, 0, 0), (166, .iload_n 3, 1, 0, 0), (167, .istore 5, 2, 0, 0), (169, .aload_n 0, 1, 0, 0), (170, .getfield 26, 3, 9, 16), (173, .iload_n 2, 1, 0, 0), (174, .dup2, 1, 0, 0), (175, .iaload, 1, 0, 0), (176, .iload 5, 2, 0, 0), (178, .isub, 1, 0, 0), (179, .iastore, 1, 0, 0), (180, .aload_n 0, 1, 0, 0), (181, .dup, 1, 0, 0), (182, .getfield 191, 3, 9, 23), (185, .iload 5, 2, 0, 0), (187, .iadd, 1, 0, 0), (188, .putfield 191, 3, 9, 23), (191, .aload_n 0, 1, 0, 0), (192, .getfield 141, 3, 9, 12), (195, .istore 6, 2, 0, 0), (197, .iload 5, 2, 0, 0), (199, .ifCond .le 72, 3, 0, 0), (202, .aload_n 0, 1, 0, 0), (203, .getfield 35, 3, 9, 19), (206, .sipush 2001, 3, 0, 0), (209, .iload_n 2, 1, 0, 0), (210, .imul, 1, 0, 0), (211, .iload 6, 2, 0, 0), (213, .iadd, 1, 0, 0), (214, .iaload, 1, 0, 0), (215, .iload 5, 2, 0, 0), (217, .if_icmp .ge 19, 3, 0, 0), (220, .aload_n 0, 1, 0, 0), (221, .getfield 35, 3, 9, 19), (224, .sipush 2001, 3, 0, 0), (227, .iload_n 2, 1, 0, 0), (228, .imul, 1, 0, 0), (229, .iload 6, 2, 0, 0), (231, .iadd, 1, 0, 0), (232, .iaload, 1, 0, 0), (233, .goto 5, 3, 0, 0), (236, .iload 5, 2, 0, 0), (238, .istore 7, 2, 0, 0), (240, .aload_n 0, 1, 0, 0), (241, .getfield 35, 3, 9, 19), (244, .sipush 2001, 3, 0, 0), (247, .iload_n 2, 1, 0, 0), (248, .imul, 1, 0, 0), (249, .iload 6, 2, 0, 0), (251, .iadd, 1, 0, 0), (252, .dup2, 1, 0, 0), (253, .iaload, 1, 0, 0), (254, .iload 7, 2, 0, 0), (256, .isub, 1, 0, 0), (257, .iastore, 1, 0, 0), (258, .iload 5, 2, 0, 0), (260, .iload 7, 2, 0, 0), (262, .isub, 1, 0, 0), (263, .istore 5, 2, 0, 0), (265, .iinc 6 (-1), 3, 0, 0), (268, .goto (-71), 3, 0, 0), (271, .return_, 1, 0, 0)]
def mc_X9_isSpan : List (Nat × mm_E) := [(0, .aload_n 0, 1, 0, 0), (1, .iload_n 1, 1, 0, 0), (2, .invokevirtual 184, 3, 118, 1), (5, .ifCond .eq 34, 3, 0, 0), (8, .iload_n 2, 1, 0, 0), (9, .i2l, 1, 0, 0), (10, .lconst 0, 1, 0, 0), (11, .ldc2_w 134, 3, 48, 0), (14, .invokestatic 92, 3, 103, 3), (17, .ifCond .eq 22, 3, 0, 0), (20, .iload_n 3, 1, 0, 0), (21, .i2l, 1, 0, 0), (22, .iload_n 2, 1, 0, 0), (23, .i2l, 1, 0, 0), (24, .lconst 1, 1, 0, 0), (25, .ladd, 1, 0, 0), (26, .ldc2_w 134, 3, 48, 0), (29, .invokestatic 92, 3, 103, 3), (32, .ifCond .eq 7, 3, 0, 0), (35, .iconst 1, 1, 0, 0), (36, .goto 4, 3, 0, 0), (39, .iconst 0, 1, 0, 0), (40, .ireturn, 1, 1, 0)]
def mc_X9_ask : List (Nat × mm_E) := [(0, .aload_n 0, 1, 0, 0), (1, .iload_n 1, 1, 0, 0), (2, .iload_n 2, 1, 0, 0), (3, .iload_n 3, 1, 0, 0), (4, .invokevirtual 197, 3, 129, 3), (7, .ifCond .ne 5, 3, 0, 0), (10, .iconst (-1), 1, 0, 0), (11, .ireturn, 1, 0, 0), (12, .aload_n 0, 1, 0, 0), (13, .getfield 175, 3, 9, 24), (16, .bipush 10, 2, 0, 0), (18, .if_icmp .ne 6, 3, 0, 0), (21, .bipush (-3), 2, 0, 0), (23, .ireturn, 1, 0, 0), (24, .aload_n 0, 1, 0, 0), (25, .getfield 41, 3, 9, 25), (28, .aload_n 0, 1, 0, 0), (29, .getfield 175, 3, 9, 24), (32, .iload_n 1, 1, 0, 0), (33, .iastore, 1, 0, 0), (34, .aload_n 0, 1, 0, 0), (35, .getfield 44, 3, 9, 26), (38, .aload_n 0, 1, 0, 0), (39, .getfield 175, 3, 9, 24), (42, .iload_n 2, 1, 0, 0), (43, .iastore, 1, 0, 0), (44, .aload_n 0, 1, 0, 0), (45, .getfield 47, 3, 9, 27), (48, .aload_n 0, 1, 0, 0), (49, .getfield 175, 3, 9, 24), (52, .iload_n 3, 1, 0, 0), (53, .iastore, 1, 0, 0), (54, .aload_n 0, 1, 0, 0), (55, .dup, 1, 0, 0), (56, .getfield 175, 3, 9, 24), (59, .iconst 1, 1, 0, 0), (60, .iadd, 1, 0, 0), (61, .putfield 175, 3, 9, 24), (64, .aload_n 0, 1, 0, 0), (65, .getfield 175, 3, 9, 24), (68, .iconst 1, 1, 0, 0), (69, .isub, 1, 0, 0), (70, .ireturn, 1, 0, 0)]
def mc_X9_offer : List (Nat × mm_E) := [(0, .aload_n 0, 1, 0, 0), (1, .iload_n 1, 1, 0, 0), (2, .iload_n 2, 1, 0, 0), (3, .iload_n 3, 1, 0, 0), (4, .invokevirtual 197, 3, 129, 3), (7, .ifCond .ne 5, 3, 0, 0), (10, .iconst (-1), 1, 0, 0), (11, .ireturn, 1, 0, 0), (12, .aload_n 0, 1, 0, 0), (13, .getfield 178, 3, 9, 28), (16, .bipush 10, 2, 0, 0), (18, .if_icmp .ne 6, 3, 0, 0), (21, .bipush (-3), 2, 0, 0), (23, .ireturn, 1, 0, 0), (24, .aload_n 0, 1, 0, 0), (25, .getfield 50, 3, 9, 29), (28, .aload_n 0, 1, 0, 0), (29, .getfield 178, 3, 9, 28), (32, .iload_n 1, 1, 0, 0), (33, .iastore, 1, 0, 0), (34, .aload_n 0, 1, 0, 0), (35, .getfield 53, 3, 9, 30), (38, .aload_n 0, 1, 0, 0), (39, .getfield 178, 3, 9, 28), (42, .iload_n 2, 1, 0, 0), (43, .iastore, 1, 0, 0), (44, .aload_n 0, 1, 0, 0), (45, .getfield 56, 3, 9, 31), (48, .aload_n 0, 1, 0, 0), (49, .getfield 178, 3, 9, 28), (52, .iload_n 3, 1, 0, 0), (53, .iastore, 1, 0, 0), (54, .aload_n 0, 1, 0, 0), (55, .dup, 1, 0, 0), (56, .getfield 178, 3, 9, 28), (59, .iconst 1, 1, 0, 0), (60, .iadd, 1, 0, 0), (61, .putfield 178, 3, 9, 28), (64, .aload_n 0, 1, 0, 0), (65, .getfield 178, 3, 9, 28), (68, .iconst 1, 1, 0, 0), (69, .isub, 1, 0, 0), (70, .ireturn, 1, 0, 0)]
def mc_X9_priceOf : List (Nat × mm_E) := [(0, .aload_n 0, 1, 0, 0), (1, .aload_n 0, 1, 0, 0), (2, .getfield 141, 3, 9, 12), (5, .iconst 1, 1, 0, 0), (6, .invokevirtual 160, 3, 116, 2), (9, .istore_n 2, 1, 0, 0), (10, .aload_n 0, 1, 0, 0), (11, .getfield 47, 3, 9, 27), (14, .iload_n 1, 1, 0, 0), (15, .iaload, 1, 0, 0), (16, .aload_n 0, 1, 0, 0), (17, .getfield 44, 3, 9, 26), (20, .iload_n 1, 1, 0, 0), (21, .iaload, 1, 0, 0), (22, .isub, 1, 0, 0), (23, .istore_n 3, 1, 0, 0), (24, .aload_n 0, 1, 0, 0), (25, .getfield 44, 3, 9, 26), (28, .iload_n 1, 1, 0, 0), (29, .iaload, 1, 0, 0), (30, .istore 4, 2, 0, 0), (32, .iload 4, 2, 0, 0), (34, .aload_n 0, 1, 0, 0), (35, .getfield 47, 3, 9, 27), (38, .iload_n 1, 1, 0, 0), (39, .iaload, 1, 0, 0), (40, .if_icmp .ge 29, 3, 0, 0), (43, .iload_n 2, 1, 0, 0), (44, .bipush (-4), 2, 0, 0), (46, .if_icmp .eq 23, 3, 0, 0), (49, .iload_n 3, 1, 0, 0), (50, .iload 4, 2, 0, 0), (52, .iload_n 2, 1, 0, 0), (53, .if_icmp .lt 7, 3, 0, 0), (56, .iconst 1, 1, 0, 0), (57, .goto 4, 3, 0, 0), (60, .iconst 0, 1, 0, 0), (61, .iadd, 1, 0, 0), (62, .istore_n 3, 1, 0, 0), (63, .iinc 4 1, 3, 0, 0), (66, .goto (-34), 3, 0, 0), (69, .iload_n 3, 1, 0, 0), (70, .ireturn, 1, 0, 0)]
def mc_X9_price : List (Nat × mm_E) := [(0, .iload_n 1, 1, 0, 0), (1, .i2l, 1, 0, 0), (2, .lconst 0, 1, 0, 0), (3, .aload_n 0, 1, 0, 0), (4, .getfield 175, 3, 9, 24), (7, .iconst 1, 1, 0, 0), (8, .isub, 1, 0, 0), (9, .i2l, 1, 0, 0), (10, .invokestatic 92, 3, 103, 3), (13, .ifCond .eq 11, 3, 0, 0), (16, .aload_n 0, 1, 0, 0), (17, .iload_n 1, 1, 0, 0), (18, .invokevirtual 201, 3, 132, 1), (21, .goto 4, 3, 0, 0), (24, .iconst (-1), 1, 0, 0), (25, .ireturn, 1, 0, 0)]
def mc_X9_isFit : List (Nat × mm_E) := [(0, .aload_n 0, 1, 0, 0), (1, .getfield 41, 3, 9, 25), (4, .iload_n 1, 1, 0, 0), (5, .iaload, 1, 0, 0), (6, .istore 4, 2, 0, 0), (8, .aload_n 0, 1, 0, 0), (9, .getfield 50, 3, 9, 29), (12, .iload_n 2, 1, 0, 0), (13, .iaload, 1, 0, 0), (14, .istore 5, 2, 0, 0), (16, .iload 4, 2, 0, 0), (18, .iload 5, 2, 0, 0), (20, .if_icmp .eq 84, 3, 0, 0), (23, .aload_n 0, 1, 0, 0), (24, .getfield 38, 3, 9, 20), (27, .bipush 12, 2, 0, 0), (29, .iload 4, 2, 0, 0), (31, .imul, 1, 0, 0), (32, .iload 5, 2, 0, 0), (34, .iadd, 1, 0, 0), (35, .baload, 1, 0, 0), (36, .ifCond .ne 68, 3, 0, 0), (39, .aload_n 0, 1, 0, 0), (40, .getfield 38, 3, 9, 20), (43, .bipush 12, 2, 0, 0), (45, .iload 5, 2, 0, 0), (47, .imul, 1, 0, 0), (48, .iload 4, 2, 0, 0), (50, .iadd, 1, 0, 0), (51, .baload, 1, 0, 0), (52, .ifCond .ne 52, 3, 0, 0), (55, .aload_n 0, 1, 0, 0), (56, .getfield 53, 3, 9, 30), (59, .iload_n 2, 1, 0, 0), (60, .iaload, 1, 0, 0), (61, .aload_n 0, 1, 0, 0), (62, .getfield 44, 3, 9, 26), (65, .iload_n 1, 1, 0, 0), (66, .iaload, 1, 0, 0), (67, .if_icmp .gt 37, 3, 0, 0), (70, .aload_n 0, 1, 0, 0), (71, .getfield 47, 3, 9, 27), (74, .iload_n 1, 1, 0, 0), (75, .iaload, 1, 0, 0), (76, .aload_n 0, 1, 0, 0), (77, .getfield 56, 3, 9, 31), (80, .iload_n 2, 1, 0, 0), (81, .iaload, 1, 0, 0), (82, .if_icmp .gt 22, 3, 0, 0), (85, .aload_n 0, 1, 0, 0), (86, .iload 4, 2, 0, 0), (88, .aload_n 0, 1, 0, 0), (89, .iload_n 1, 1, 0, 0), (90, .invokevirtual 201, 3, 132, 1), (93, .iload_n 3, 1, 0, 0), (94, .invokevirtual 204, 3, 127, 3), (97, .ifCond .eq 7, 3, 0, 0), (100, .iconst 1, 1, 0, 0), (101, .goto 4, 3, 0, 0), (104, .iconst 0, 1, 0, 0), (105, .ireturn, 1, 1, 0)]
def mc_X9_fits : List (Nat × mm_E) := [(0, .iload_n 1, 1, 0, 0), (1, .i2l, 1, 0, 0), (2, .lconst 0, 1, 0, 0), (3, .aload_n 0, 1, 0, 0), (4, .getfield 175, 3, 9, 24), (7, .iconst 1, 1, 0, 0), (8, .isub, 1, 0, 0), (9, .i2l, 1, 0, 0), (10, .invokestatic 92, 3, 103, 3), (13, .ifCond .eq 19, 3, 0, 0), (16, .iload_n 2, 1, 0, 0), (17, .i2l, 1, 0, 0), (18, .lconst 0, 1, 0, 0), (19, .aload_n 0, 1, 0, 0), (20, .getfield 178, 3, 9, 28), (23, .iconst 1, 1, 0, 0), (24, .isub, 1, 0, 0), (25, .i2l, 1, 0, 0), (26, .invokestatic 92, 3, 103, 3), (29, .ifCond .ne 7, 3, 0, 0), (32, .iconst (-1), 1, 0, 0), (33, .goto 26, 3, 0, 0), (36, .aload_n 0, 1, 0, 0), (37, .iload_n 1, 1, 0, 0), (38, .iload_n 2, 1, 0, 0), (39, .aload_n 0, 1, 0, 0), (40, .aload_n 0, 1, 0, 0), (41, .getfield 141, 3, 9, 12), (44, .iconst 4, 1, 0, 0), (45, .invokevirtual 160, 3, 116, 2), (48, .invokevirtual 207, 3, 134, 3), (51, .ifCond .eq 7, 3, 0, 0), (54, .iconst 1, 1, 0, 0), (55, .goto 4, 3, 0, 0), (58, .iconst 0, 1, 0, 0), (59, .ireturn, 1, 0, 0)]
def mc_X9_findFits : List (Nat × mm_E) := [(0, .iconst 0, 1, 0, 0), (1, .istore_n 2, 1, 0, 0), (2, .iload_n 2, 1, 0, 0), (3, .aload_n 0, 1, 0, 0), (4, .getfield 175, 3, 9, 24), (7, .if_icmp .ge 43, 3, 0, 0), (10, .iconst 0, 1, 0, 0), (11, .istore_n 3, 1, 0, 0), (12, .iload_n 3, 1, 0, 0), (13, .aload_n 0, 1, 0, 0), (14, .getfield 178, 3, 9, 28), (17, .if_icmp .ge 27, 3, 0, 0), (20, .aload_n 0, 1, 0, 0), (21, .getfield 59, 3, 9, 32), (24, .bipush 10, 2, 0, 0), (26, .iload_n 2, 1, 0, 0), (27, .imul, 1, 0, 0), (28, .iload_n 3, 1, 0, 0), (29, .iadd, 1, 0, 0), (30, .aload_n 0, 1, 0, 0), (31, .iload_n 2, 1, 0, 0), (32, .iload_n 3, 1, 0, 0), (33, .iload_n 1, 1, 0, 0), (34, .invokevirtual 207, 3, 134, 3), (37, .bastore, 1, 0, 0), (38, .iinc 3 1, 3, 0, 0), (41, .goto (-29), 3, 0, 0), (44, .iinc 2 1, 3, 0, 0), (47, .goto (-45), 3, 0, 0), (50, .return_, 1, 0, 0)]
def mc_X9_grows : List (Nat × mm_E) := [(0, .iconst 0, 1, 0, 0), (1, .istore_n 3, 1, 0, 0), (2, .iload_n 3, 1, 0, 0), (3, .aload_n 0, 1, 0, 0), (4, .getfield 178, 3, 9, 28), (7, .if_icmp .ge 17, 3, 0, 0), (10, .aload_n 0, 1, 0, 0), (11, .getfield 68, 3, 9, 35), (14, .iload_n 3, 1, 0, 0), (15, .bipush (-4), 2, 0, 0), (17, .iastore, 1, 0, 0), (18, .iinc 3 1, 3, 0, 0), (21, .goto (-19), 3, 0, 0), (24, .iconst 1, 1, 0, 0), (25, .istore_n 3, 1, 0, 0), (26, .aload_n 0, 1, 0, 0), (27, .getfield 71, 3, 9, 36), (30, .iconst 0, 1, 0, 0), (31, .iload_n 1, 1, 0, 0), (32, .iastore, 1, 0, 0), (33, .iconst 0, 1, 0, 0), (34, .istore 4, 2, 0, 0), (36, .iload 4, 2, 0, 0), (38, .iload_n 3, 1, 0, 0), (39, .if_icmp .ge 118, 3, 0, 0), (42, .aload_n 0, 1, 0, 0), (43, .getfield 71, 3, 9, 36), (46, .iload 4, 2, 0, 0), (48, .iaload, 1, 0, 0), (49, .istore 5, 2, 0, 0), (51, .iconst 0, 1, 0, 0), (52, .istore 6, 2, 0, 0), (54, .iload 6, 2, 0, 0), (56, .aload_n 0, 1, 0, 0), (57, .getfield 178, 3, 9, 28), (60, .if_icmp .ge 91, 3, 0, 0), (63, .aload_n 0, 1, 0, 0), (64, .getfield 59, 3, 9, 32), (67, .bipush 10, 2, 0, 0), (69, .iload 5, 2, 0, 0), (71, .imul, 1, 0, 0), (72, .iload 6, 2, 0, 0), (74, .iadd, 1, 0, 0), (75, .baload, 1, 0, 0), (76, .ifCond .eq 69, 3, 0, 0), (79, .aload_n 0, 1, 0, 0), (80, .getfield 68, 3, 9, 35), (83, .iload 6, 2, 0, 0), (85, .iaload, 1, 0, 0), (86, .bipush (-4), 2, 0, 0), (88, .if_icmp .ne 57, 3, 0, 0), (91, .iload_n 2, 1, 0, 0), (92, .iload 6, 2, 0, 0), (94, .ishr, 1, 0, 0), (95, .iconst 1, 1, 0, 0), (96, .iand, 1, 0, 0), (97, .ifCond .ne 48, 3, 0, 0), (100, .aload_n 0, 1, 0, 0), (101, .getfield 68, 3, 9, 35), (104, .iload 6, 2, 0, 0), (106, .iload 5, 2, 0, 0), (108, .iastore, 1, 0, 0), (109, .aload_n 0, 1, 0, 0), (110, .getfield 65, 3, 9, 34), (113, .iload 6, 2, 0, 0), (115, .iaload, 1, 0, 0), (116, .bipush (-4), 2, 0, 0), (118, .if_icmp .ne 11, 3, 0, 0), (121, .aload_n 0, 1, 0, 0), (122, .iload 6, 2, 0, 0), (124, .invokevirtual 210, 3, 138, 1), (127, .iconst 1, 1, 0, 0), (128, .ireturn, 1, 1, 0), (129, .aload_n 0, 1, 0, 0), (130, .getfield 71, 3, 9, 36), (133, .iload_n 3, 1, 0, 0), (134, .aload_n 0, 1, 0, 0), (135, .getfield 65, 3, 9, 34), (138, .iload 6, 2, 0, 0), (140, .iaload, 1, 0, 0), (141, .iastore, 1, 0, 0), (142, .iinc 3 1, 3, 0, 0), (145, .iinc 6 1, 3, 0, 0), (148, .goto (-94), 3, 0, 0), (151, .iinc 4 1, 3, 0, 0), (154, .goto (-118), 3, 0, 0), (157, .iconst 0, 1, 0, 0), (158, .ireturn, 1, 1, 0)]
def mc_X9_change : List (Nat × mm_E) := [(0, .iload_n 1, 1, 0, 0), (1, .istore_n 2, 1, 0, 0), (2, .iload_n 2, 1, 0, 0), (3, .bipush (-4), 2, 0, 0), (5, .if_icmp .eq 38, 3, 0, 0), (8, .aload_n 0, 1, 0, 0), (9, .getfield 68, 3, 9, 35), (12, .iload_n 2, 1, 0, 0), (13, .iaload, 1, 0, 0), (14, .istore_n 3, 1, 0, 0), (15, .aload_n 0, 1, 0, 0), (16, .getfield 62, 3, 9, 33), (19, .iload_n 3, 1, 0, 0), (20, .iaload, 1, 0, 0), (21, .istore 4, 2, 0, 0), (23, .aload_n 0, 1, 0, 0), (24, .getfield 62, 3, 9, 33), (27, .iload_n 3, 1, 0, 0), (28, .iload_n 2, 1, 0, 0), (29, .iastore, 1, 0, 0), (30, .aload_n 0, 1, 0, 0), (31, .getfield 65, 3, 9, 34), (34, .iload_n 2, 1, 0, 0), (35, .iload_n 3, 1, 0, 0), (36, .iastore, 1, 0, 0), (37, .iload 4, 2, 0, 0), (39, .istore_n 2, 1, 0, 0), (40, .goto (-38), 3, 0, 0), (43, .return_, 1, 0, 0)]
def mc_X9_most : List (Nat × mm_E) := [(0, .iconst 0, 1, 0, 0), (1, .istore_n 3, 1, 0, 0), (2, .iload_n 3, 1, 0, 0), (3, .aload_n 0, 1, 0, 0), (4, .getfield 175, 3, 9, 24), (7, .if_icmp .ge 17, 3, 0, 0), (10, .aload_n 0, 1, 0, 0), (11, .getfield 62, 3, 9, 33), (14, .iload_n 3, 1, 0, 0), (15, .bipush (-4), 2, 0, 0), (17, .iastore, 1, 0, 0), (18, .iinc 3 1, 3, 0, 0), (21, .goto (-19), 3, 0, 0), (24, .iconst 0, 1, 0, 0), (25, .istore_n 3, 1, 0, 0), (26, .iload_n 3, 1, 0, 0), (27, .aload_n 0, 1, 0, 0), (28, .getfield 178, 3, 9, 28), (31, .if_icmp .ge 17, 3, 0, 0), (34, .aload_n 0, 1, 0, 0), (35, .getfield 65, 3, 9, 34), (38, .iload_n 3, 1, 0, 0), (39, .bipush (-4), 2, 0, 0), (41, .iastore, 1, 0, 0), (42, .iinc 3 1, 3, 0, 0), (45, .goto (-19), 3, 0, 0), (48, .iconst 0, 1, 0, 0), (49, .istore_n 3, 1, 0, 0), (50, .iload_n 1, 1, 0, 0), (51, .istore 4, 2, 0, 0), (53, .iload 4, 2, 0, 0), (55, .aload_n 0, 1, 0, 0), (56, .getfield 175, 3, 9, 24), (59, .if_icmp .ge 27, 3, 0, 0), (62, .iload_n 3, 1, 0, 0), (63, .aload_n 0, 1, 0, 0), (64, .iload 4, 2, 0, 0), (66, .iload_n 2, 1, 0, 0), (67, .invokevirtual 214, 3, 137, 2), (70, .ifCond .eq 7, 3, 0, 0), (73, .iconst 1, 1, 0, 0), (74, .goto 4, 3, 0, 0), (77, .iconst 0, 1, 0, 0), (78, .iadd, 1, 0, 0), (79, .istore_n 3, 1, 0, 0), (80, .iinc 4 1, 3, 0, 0), (83, .goto (-30), 3, 0, 0), (86, .iload_n 3, 1, 0, 0), (87, .ireturn, 1, 0, 0)]
def mc_X9_matches : List (Nat × mm_E) := [(0, .aload_n 0, 1, 0, 0), (1, .aload_n 0, 1, 0, 0), (2, .aload_n 0, 1, 0, 0), (3, .getfield 141, 3, 9, 12), (6, .iconst 4, 1, 0, 0), (7, .invokevirtual 160, 3, 116, 2), (10, .invokevirtual 218, 3, 136, 1), (13, .aload_n 0, 1, 0, 0), (14, .iconst 0, 1, 0, 0), (15, .iconst 0, 1, 0, 0), (16, .invokevirtual 221, 3, 139, 2), (19, .istore_n 1, 1, 0, 0), (20, .iconst 0, 1, 0, 0), (21, .istore_n 2, 1, 0, 0), (22, .iconst 0, 1, 0, 0), (23, .istore_n 3, 1, 0, 0), (24, .iconst 0, 1, 0, 0), (25, .istore 4, 2, 0, 0), (27, .iload 4, 2, 0, 0), (29, .aload_n 0, 1, 0, 0), (30, .getfield 175, 3, 9, 24), (33, .if_icmp .ge 114, 3, 0, 0), (36, .aload_n 0, 1, 0, 0), (37, .getfield 74, 3, 9, 37), (40, .iload 4, 2, 0, 0), (42, .bipush (-4), 2, 0, 0), (44, .iastore, 1, 0, 0), (45, .iconst 0, 1, 0, 0), (46, .istore 5, 2, 0, 0), (48, .iload 5, 2, 0, 0), (50, .aload_n 0, 1, 0, 0), (51, .getfield 178, 3, 9, 28), (54, .if_icmp .ge 87, 3, 0, 0), (57, .aload_n 0, 1, 0, 0), (58, .getfield 74, 3, 9, 37), (61, .iload 4, 2, 0, 0), (63, .iaload, 1, 0, 0), (64, .bipush (-4), 2, 0, 0), (66, .if_icmp .ne 75, 3, 0, 0), (69, .aload_n 0, 1, 0, 0), (70, .getfield 59, 3, 9, 32), (73, .bipush 10, 2, 0, 0), (75, .iload 4, 2, 0, 0), (77, .imul, 1, 0, 0), (78, .iload 5, 2, 0, 0), (80, .iadd, 1, 0, 0), (81, .baload, 1, 0, 0), (82, .ifCond .eq 53, 3, 0, 0), (85, .iload_n 3, 1, 0, 0), (86, .iload 5, 2, 0, 0), (88, .ishr, 1, 0, 0), (89, .iconst 1, 1, 0, 0), (90, .iand, 1, 0, 0), (91, .ifCond .ne 44, 3, 0, 0), (94, .iload_n 2, 1, 0, 0), (95, .iconst 1, 1, 0, 0), (96, .iadd, 1, 0, 0), (97, .aload_n 0, 1, 0, 0), (98, .iload 4, 2, 0, 0), (100, .iconst 1, 1, 0, 0), (101, .iadd, 1, 0, 0), (102, .iload_n 3, 1, 0, 0), (103, .iconst 1, 1, 0, 0), (104, .iload 5, 2, 0, 0), (106, .ishl, 1, 0, 0), (107, .ior, 1, 0, 0), (108, .invokevirtual 221, 3, 139, 2), (111, .iadd, 1, 0, 0), (112, .iload_n 1, 1, 0, 0), (113, .if_icmp .ne 22, 3, 0, 0), (116, .aload_n 0, 1, 0, 0), (117, .getfield 74, 3, 9, 37), (120, .iload 4, 2, 0, 0), (122, .iload 5, 2, 0, 0), (124, .iastore, 1, 0, 0), (125, .iinc 2 1, 3, 0, 0), (128, .iload_n 3, 1, 0, 0), (129, .iconst 1, 1, 0, 0), (130, .iload 5, 2, 0, 0), (132, .ishl, 1, 0, 0), (133, .ior, 1, 0, 0), (134, .istore_n 3, 1, 0, 0), (135, .iinc 5 1, 3, 0, 0), (138, .goto (-90), 3, 0, 0), (141, .iinc 4 1, 3, 0, 0), (144, .goto (-117), 3, 0, 0), (147, .iload_n 1, 1, 0, 0), (148, .ireturn, 1, 0, 0)]
def mc_X9_met : List (Nat × mm_E) := [(0, .aload_n 0, 1, 0, 0), (1, .invokevirtual 224, 3, 140, 0), (4, .ireturn, 1, 0, 0)]
def mc_X9_sitter : List (Nat × mm_E) := [(0, .iload_n 1, 1, 0, 0), (1, .i2l, 1, 0, 0), (2, .lconst 0, 1, 0, 0), (3, .aload_n 0, 1, 0, 0), (4, .getfield 175, 3, 9, 24), (7, .iconst 1, 1, 0, 0), (8, .isub, 1, 0, 0), (9, .i2l, 1, 0, 0), (10, .invokestatic 92, 3, 103, 3), (13, .ifCond .ne 5, 3, 0, 0), (16, .iconst (-1), 1, 0, 0), (17, .ireturn, 1, 0, 0), (18, .aload_n 0, 1, 0, 0), (19, .invokevirtual 224, 3, 140, 0), (22, .pop, 1, 0, 0), (23, .aload_n 0, 1, 0, 0), (24, .getfield 74, 3, 9, 37), (27, .iload_n 1, 1, 0, 0), (28, .iaload, 1, 0, 0), (29, .ireturn, 1, 0, 0)]
def mc_X9_why : List (Nat × mm_E) := [(0, .iload_n 1, 1, 0, 0), (1, .i2l, 1, 0, 0), (2, .lconst 0, 1, 0, 0), (3, .lconst 1, 1, 0, 0), (4, .invokestatic 92, 3, 103, 3), (7, .ifCond .ne 5, 3, 0, 0), (10, .iconst (-1), 1, 0, 0), (11, .ireturn, 1, 0, 0), (12, .aload_n 0, 1, 0, 0), (13, .invokevirtual 224, 3, 140, 0), (16, .pop, 1, 0, 0), (17, .iconst 0, 1, 0, 0), (18, .istore_n 2, 1, 0, 0), (19, .iconst 0, 1, 0, 0), (20, .istore_n 3, 1, 0, 0), (21, .iconst 0, 1, 0, 0), (22, .istore 4, 2, 0, 0), (24, .iload 4, 2, 0, 0), (26, .aload_n 0, 1, 0, 0), (27, .getfield 175, 3, 9, 24), (30, .if_icmp .ge 32, 3, 0, 0), (33, .iload_n 2, 1, 0, 0), (34, .aload_n 0, 1, 0, 0), (35, .getfield 74, 3, 9, 37), (38, .iload 4, 2, 0, 0), (40, .iaload, 1, 0, 0), (41, .bipush (-4), 2, 0, 0), (43, .if_icmp .ne 10, 3, 0, 0), (46, .iconst 1, 1, 0, 0), (47, .iload 4, 2, 0, 0), (49, .ishl, 1, 0, 0), (50, .goto 4, 3, 0, 0), (53, .iconst 0, 1, 0, 0), (54, .ior, 1, 0, 0), (55, .istore_n 2, 1, 0, 0), (56, .iinc 4 1, 3, 0, 0), (59, .goto (-35), 3, 0, 0), (62, .iconst 0, 1, 0, 0), (63, .istore 4, 2, 0, 0), (65, .iload 4, 2, 0, 0), (67, .bipush 20, 2, 0, 0), (69, .if_icmp .ge 138, 3, 0, 0), (72, .iconst 0, 1, 0, 0), (73, .istore 5, 2, 0, 0), (75, .iload 5, 2, 0, 0), (77, .aload_n 0, 1, 0, 0), (78, .getfield 175, 3, 9, 24), (81, .if_icmp .ge 64, 3, 0, 0), (84, .iconst 0, 1, 0, 0), (85, .istore 6, 2, 0, 0), (87, .iload 6, 2, 0, 0), (89, .aload_n 0, 1, 0, 0), (90, .getfield 178, 3, 9, 28), (93, .if_icmp .ge 46, 3, 0, 0), (96, .iload_n 3, 1, 0, 0), (97, .iload_n 2, 1, 0, 0), (98, .iload 5, 2, 0, 0), (100, .ishr, 1, 0, 0), (101, .iconst 1, 1, 0, 0), (102, .iand, 1, 0, 0), (103, .iconst 1, 1, 0, 0), (104, .if_icmp .ne 26, 3, 0, 0), (107, .aload_n 0, 1, 0, 0), (108, .getfield 59, 3, 9, 32), (111, .bipush 10, 2, 0, 0), (113, .iload 5, 2, 0, 0), (115, .imul, 1, 0, 0), (116, .iload 6, 2, 0, 0), (118, .iadd, 1, 0, 0), (119, .baload, 1, 0, 0), (120, .ifCond .eq 10, 3, 0, 0), (123, .iconst 1, 1, 0, 0), (124, .iload 6, 2, 0, 0), (126, .ishl, 1, 0, 0), (127, .goto 4, 3, 0, 0), (130, .iconst 0, 1, 0, 0), (131, .ior, 1, 0, 0), (132, .istore_n 3, 1, 0, 0), (133, .iinc 6 1, 3, 0, 0), (136, .goto (-49), 3, 0, 0), (139, .iinc 5 1, 3, 0, 0), (142, .goto (-67), 3, 0, 0), (145, .iconst 0, 1, 0, 0), (146, .istore 5, 2, 0, 0), (148, .iload 5, 2, 0, 0), (150, .aload_n 0, 1, 0, 0), (151, .getfield 175, 3, 9, 24), (154, .if_icmp .ge 47, 3, 0, 0), (157, .iload_n 2, 1, 0, 0), (158, .aload_n 0, 1, 0, 0), (159, .getfield 74, 3, 9, 37), (162, .iload 5, 2, 0, 0), (164, .iaload, 1, 0, 0), (165, .bipush (-4), 2, 0, 0), (167, .if_icmp .eq 25, 3, 0, 0), (170, .iload_n 3, 1, 0, 0), (171, .aload_n 0, 1, 0, 0), (172, .getfield 74, 3, 9, 37), (175, .iload 5, 2, 0, 0), (177, .iaload, 1, 0, 0), (178, .ishr, 1, 0, 0), (179, .iconst 1, 1, 0, 0), (180, .iand, 1, 0, 0), (181, .iconst 1, 1, 0, 0), (182, .if_icmp .ne 10, 3, 0, 0), (185, .iconst 1, 1, 0, 0), (186, .iload 5, 2, 0, 0), (188, .ishl, 1, 0, 0), (189, .goto 4, 3, 0, 0), (192, .iconst 0, 1, 0, 0), (193, .ior, 1, 0, 0), (194, .istore_n 2, 1, 0, 0), (195, .iinc 5 1, 3, 0, 0), (198, .goto (-50), 3, 0, 0), (201, .iinc 4 1, 3, 0, 0), (204, .goto (-139), 3, 0, 0), (207, .iload_n 1, 1, 0, 0), (208, .iconst 1, 1, 0, 0), (209, .if_icmp .ne 7, 3, 0, 0), (212, .iload_n 3, 1, 0, 0), (213, .goto 13, 3, 0, 0), (216, .iconst 1, 1, 0, 0), (217, .aload_n 0, 1, 0, 0), (218, .getfield 175, 3, 9, 24), (221, .ishl, 1, 0, 0), (222, .iconst 1, 1, 0, 0), (223, .isub, 1, 0, 0), (224, .iload_n 2, 1, 0, 0), (225, .isub, 1, 0, 0), (226, .ireturn, 1, 0, 0)]
def mc_X9_would : List (Nat × mm_E) := [(0, .iload_n 1, 1, 0, 0), (1, .i2l, 1, 0, 0), (2, .lconst 0, 1, 0, 0), (3, .ldc2_w 227, 3, 1000, 0), (6, .invokestatic 92, 3, 103, 3), (9, .ifCond .ne 5, 3, 0, 0), (12, .iconst (-1), 1, 0, 0), (13, .ireturn, 1, 0, 0), (14, .aload_n 0, 1, 0, 0), (15, .iload_n 1, 1, 0, 0), (16, .invokevirtual 218, 3, 136, 1), (19, .aload_n 0, 1, 0, 0), (20, .iconst 0, 1, 0, 0), (21, .iconst 0, 1, 0, 0), (22, .invokevirtual 221, 3, 139, 2), (25, .ireturn, 1, 0, 0)]
def mc_X9_broken : List (Nat × mm_E) := [(0, .iload_n 1, 1, 0, 0), (1, .i2l, 1, 0, 0), (2, .lconst 0, 1, 0, 0), (3, .aload_n 0, 1, 0, 0), (4, .getfield 175, 3, 9, 24), (7, .iconst 1, 1, 0, 0), (8, .isub, 1, 0, 0), (9, .i2l, 1, 0, 0), (10, .invokestatic 92, 3, 103, 3), (13, .ifCond .ne 5, 3, 0, 0), (16, .iconst (-1), 1, 0, 0), (17, .ireturn, 1, 0, 0), (18, .aload_n 0, 1, 0, 0), (19, .invokevirtual 224, 3, 140, 0), (22, .pop, 1, 0, 0), (23, .aload_n 0, 1, 0, 0), (24, .getfield 74, 3, 9, 37), (27, .iload_n 1, 1, 0, 0), (28, .iaload, 1, 0, 0), (29, .bipush (-4), 2, 0, 0), (31, .if_icmp .ne 7, 3, 0, 0), (34, .iconst 0, 1, 0, 0), (35, .goto 12, 3, 0, 0), (38, .aload_n 0, 1, 0, 0), (39, .aload_n 0, 1, 0, 0), (40, .getfield 141, 3, 9, 12), (43, .iconst 3, 1, 0, 0), (44, .invokevirtual 160, 3, 116, 2), (47, .istore_n 2, 1, 0, 0), (48, .aload_n 0, 1, 0, 0), (49, .getfield 74, 3, 9, 37), (52, .iload_n 1, 1, 0, 0), (53, .iaload, 1, 0, 0), (54, .bipush (-4), 2, 0, 0), (56, .if_icmp .eq 25, 3, 0, 0), (59, .aload_n 0, 1, 0, 0), (60, .aload_n 0, 1, 0, 0), (61, .getfield 41, 3, 9, 25), (64, .iload_n 1, 1, 0, 0), (65, .iaload, 1, 0, 0), (66, .aload_n 0, 1, 0, 0), (67, .getfield 50, 3, 9, 29), (70, .aload_n 0, 1, 0, 0), (71, .getfield 74, 3, 9, 37), (74, .iload_n 1, 1, 0, 0), (75, .iaload, 1, 0, 0), (76, .iaload, 1, 0, 0), (77, .iload_n 2, 1, 0, 0), (78, .invokevirtual 229, 3, 128, 3), (81, .aload_n 0, 1, 0, 0), (82, .dup, 1, 0, 0), (83, .getfield 175, 3, 9, 24), (86, .iconst 1, 1, 0, 0), (87, .isub, 1, 0, 0), (88, .putfield 175, 3, 9, 24), (91, .iload_n 1, 1, 0, 0), (92, .istore_n 3, 1, 0, 0), (93, .iload_n 3, 1, 0, 0), (94, .aload_n 0, 1, 0, 0), (95, .getfield 175, 3, 9, 24), (98, .if_icmp .ge 51, 3, 0, 0), (101, .aload_n 0, 1, 0, 0), (102, .getfield 41, 3, 9, 25), (105, .iload_n 3, 1, 0, 0), (106, .aload_n 0, 1, 0, 0), (107, .getfield 41, 3, 9, 25), (110, .iload_n 3, 1, 0, 0), (111, .iconst 1, 1, 0, 0), (112, .iadd, 1, 0, 0), (113, .iaload, 1, 0, 0), (114, .iastore, 1, 0, 0), (115, .aload_n 0, 1, 0, 0), (116, .getfield 44, 3, 9, 26), (119, .iload_n 3, 1, 0, 0), (120, .aload_n 0, 1, 0, 0), (121, .getfield 44, 3, 9, 26), (124, .iload_n 3, 1, 0, 0), (125, .iconst 1, 1, 0, 0), (126, .iadd, 1, 0, 0), (127, .iaload, 1, 0, 0), (128, .iastore, 1, 0, 0), (129, .aload_n 0, 1, 0, 0), (130, .getfield 47, 3, 9, 27), (133, .iload_n 3, 1, 0, 0), (134, .aload_n 0, 1, 0, 0), (135, .getfield 47, 3, 9, 27), (138, .iload_n 3, 1, 0, 0), (139, .iconst 1, 1, 0, 0), (140, .iadd, 1, 0, 0), (141, .iaload, 1, 0, 0), (142, .iastore, 1, 0, 0), (143, .iinc 3 1, 3, 0, 0), (146, .goto (-53), 3, 0, 0), (149, .iload_n 2, 1, 0, 0), (150, .ireturn, 1, 0, 0)]
def mc_X9_evening : List (Nat × mm_E) := [(0, .aload_n 0, 1, 0, 0), (1, .invokevirtual 224, 3, 140, 0), (4, .pop, 1, 0, 0), (5, .iconst 0, 1, 0, 0), (6, .istore_n 1, 1, 0, 0), (7, .aload_n 0, 1, 0, 0), (8, .aload_n 0, 1, 0, 0), (9, .getfield 141, 3, 9, 12), (12, .iconst 4, 1, 0, 0), (13, .invokevirtual 160, 3, 116, 2), (16, .istore_n 2, 1, 0, 0), (17, .iconst 0, 1, 0, 0), (18, .istore_n 3, 1, 0, 0), (19, .iload_n 3, 1, 0, 0), (20, .aload_n 0, 1, 0, 0), (21, .getfield 175, 3, 9, 24), (24, .if_icmp .ge 100, 3, 0, 0), (27, .aload_n 0, 1, 0, 0), (28, .iload_n 3, 1, 0, 0), (29, .invokevirtual 201, 3, 132, 1), (32, .istore 4, 2, 0, 0), (34, .aload_n 0, 1, 0, 0), (35, .getfield 74, 3, 9, 37), (38, .iload_n 3, 1, 0, 0), (39, .iaload, 1, 0, 0), (40, .bipush (-4), 2, 0, 0), (42, .if_icmp .eq 76, 3, 0, 0), (45, .aload_n 0, 1, 0, 0), (46, .aload_n 0, 1, 0, 0), (47, .getfield 41, 3, 9, 25), (50, .iload_n 3, 1, 0, 0), (51, .iaload, 1, 0, 0), (52, .iload 4, 2, 0, 0), (54, .iload_n 2, 1, 0, 0), (55, .invokevirtual 204, 3, 127, 3), (58, .ifCond .eq 60, 3, 0, 0), (61, .aload_n 0, 1, 0, 0), (62, .getfield 50, 3, 9, 29), (65, .aload_n 0, 1, 0, 0), (66, .getfield 74, 3, 9, 37), (69, .iload_n 3, 1, 0, 0), (70, .iaload, 1, 0, 0), (71, .iaload, 1, 0, 0), (72, .istore 5, 2, 0, 0), (74, .aload_n 0, 1, 0, 0), (75, .aload_n 0, 1, 0, 0), (76, .getfield 41, 3, 9, 25), (79, .iload_n 3, 1, 0, 0), (80, .iaload, 1, 0, 0), (81, .iload 5, 2, 0, 0), (83, .iload 4, 2, 0, 0), (85, .invokevirtual 229, 3, 128, 3), (88, .aload_n 0, 1, 0, 0), (89, .getfield 29, 3, 9, 17), (92, .iload 5, 2, 0, 0), (94, .dup2, 1, 0, 0), (95, .iaload, 1, 0, 0), (96, .iload 4, 2, 0, 0), (98, .iadd, 1, 0, 0), (99, .iastore, 1, 0, 0), (100, .aload_n 0, 1, 0, 0), (101, .getfield 32, 3, 9, 18), (104, .aload_n 0, 1, 0, 0), (105, .getfield 41, 3, 9, 25), (108, .iload_n 3, 1, 0, 0), (109, .iaload, 1, 0, 0), (110, .dup2, 1, 0, 0), (111, .iaload, 1, 0, 0), (112, .iconst 1, 1, 0, 0), (113, .iadd, 1, 0, 0), (114, .iastore, 1, 0, 0), (115, .iinc 1 1, 3, 0, 0), (118, .iinc 3 1, 3, 0, 0), (121, .goto (-102), 3, 0, 0), (124, .aload_n 0, 1, 0, 0), (125, .iconst 0, 1, 0, 0), (126, .putfield 175, 3, 9, 24), (129, .aload_n 0, 1, 0, 0), (130, .iconst 0, 1, 0, 0), (131, .putfield 178, 3, 9, 28), (134, .iload_n 1, 1, 0, 0), (135, .ireturn, 1, 0, 0)]
def mc_X9_isSheet : List (Nat × mm_E) := [(0, .iload_n 0, 1, 0, 0), (1, .i2l, 1, 0, 0), (2, .lconst 0, 1, 0, 0), (3, .ldc2_w 233, 3, 3, 0), (6, .invokestatic 92, 3, 103, 3), (9, .ifCond .eq 17, 3, 0, 0), (12, .iload_n 1, 1, 0, 0), (13, .i2l, 1, 0, 0), (14, .lconst 0, 1, 0, 0), (15, .lconst 1, 1, 0, 0), (16, .invokestatic 92, 3, 103, 3), (19, .ifCond .eq 7, 3, 0, 0), (22, .iconst 1, 1, 0, 0), (23, .goto 4, 3, 0, 0), (26, .iconst 0, 1, 0, 0), (27, .ireturn, 1, 1, 0)]
def mc_X9_sheet : List (Nat × mm_E) := [(0, .iload_n 1, 1, 0, 0), (1, .iload_n 2, 1, 0, 0), (2, .invokestatic 235, 3, 147, 2), (5, .ifCond .eq 9, 3, 0, 0), (8, .iload_n 3, 1, 0, 0), (9, .bipush 60, 2, 0, 0), (11, .if_icmp .le 5, 3, 0, 0), (14, .iconst (-1), 1, 0, 0), (15, .ireturn, 1, 0, 0), (16, .iload_n 3, 1, 0, 0), (17, .ifCond .ge 6, 3, 0, 0), (20, .bipush (-14), 2, 0, 0), (22, .ireturn, 1, 0, 0), (23, .aload_n 0, 1, 0, 0), (24, .getfield 77, 3, 9, 38), (27, .iload_n 1, 1, 0, 0), (28, .iload_n 2, 1, 0, 0), (29, .iastore, 1, 0, 0), (30, .aload_n 0, 1, 0, 0), (31, .getfield 80, 3, 9, 39), (34, .iload_n 1, 1, 0, 0), (35, .iload_n 3, 1, 0, 0), (36, .iastore, 1, 0, 0), (37, .iconst 0, 1, 0, 0), (38, .istore 4, 2, 0, 0), (40, .iload 4, 2, 0, 0), (42, .bipush 60, 2, 0, 0), (44, .if_icmp .ge 22, 3, 0, 0), (47, .aload_n 0, 1, 0, 0), (48, .getfield 83, 3, 9, 40), (51, .bipush 60, 2, 0, 0), (53, .iload_n 1, 1, 0, 0), (54, .imul, 1, 0, 0), (55, .iload 4, 2, 0, 0), (57, .iadd, 1, 0, 0), (58, .iconst 0, 1, 0, 0), (59, .iastore, 1, 0, 0), (60, .iinc 4 1, 3, 0, 0), (63, .goto (-23), 3, 0, 0), (66, .iconst 1, 1, 0, 0), (67, .ireturn, 1, 0, 0)]
def mc_X9_lay : List (Nat × mm_E) := [(0, .iload_n 1, 1, 0, 0), (1, .iconst 0, 1, 0, 0), (2, .invokestatic 235, 3, 147, 2), (5, .ifCond .ne 5, 3, 0, 0), (8, .iconst (-1), 1, 0, 0), (9, .ireturn, 1, 0, 0), (10, .aload_n 0, 1, 0, 0), (11, .getfield 77, 3, 9, 38), (14, .iload_n 1, 1, 0, 0), (15, .iaload, 1, 0, 0), (16, .bipush (-4), 2, 0, 0), (18, .if_icmp .ne 6, 3, 0, 0), (21, .bipush (-11), 2, 0, 0), (23, .ireturn, 1, 0, 0), (24, .iload_n 2, 1, 0, 0), (25, .i2l, 1, 0, 0), (26, .lconst 0, 1, 0, 0), (27, .aload_n 0, 1, 0, 0), (28, .getfield 80, 3, 9, 39), (31, .iload_n 1, 1, 0, 0), (32, .iaload, 1, 0, 0), (33, .iconst 1, 1, 0, 0), (34, .isub, 1, 0, 0), (35, .i2l, 1, 0, 0), (36, .invokestatic 92, 3, 103, 3), (39, .ifCond .ne 6, 3, 0, 0), (42, .bipush (-12), 2, 0, 0), (44, .ireturn, 1, 0, 0), (45, .aload_n 0, 1, 0, 0), (46, .getfield 83, 3, 9, 40), (49, .bipush 60, 2, 0, 0), (51, .iload_n 1, 1, 0, 0), (52, .imul, 1, 0, 0), (53, .iload_n 2, 1, 0, 0), (54, .iadd, 1, 0, 0), (55, .aload_n 0, 1, 0, 0), (56, .getfield 77, 3, 9, 38), (59, .iload_n 1, 1, 0, 0), (60, .iaload, 1, 0, 0), (61, .ifCond .ne 8, 3, 0, 0), (64, .iload_n 3, 1, 0, 0), (65, .i2b, 1, 0, 0), (66, .goto 4, 3, 0, 0), (69, .iload_n 3, 1, 0, 0), (70, .iastore, 1, 0, 0), (71, .iconst 1, 1, 0, 0), (72, .ireturn, 1, 0, 0)]
def mc_X9_offers : List (Nat × mm_E) := [(0, .iload_n 1, 1, 0, 0), (1, .iload_n 2, 1, 0, 0), (2, .invokestatic 235, 3, 147, 2), (5, .ifCond .eq 16, 3, 0, 0), (8, .iload 4, 2, 0, 0), (10, .i2l, 1, 0, 0), (11, .lconst 0, 1, 0, 0), (12, .ldc2_w 238, 3, 10, 0), (15, .invokestatic 92, 3, 103, 3), (18, .ifCond .ne 5, 3, 0, 0), (21, .iconst (-1), 1, 0, 0), (22, .ireturn, 1, 0, 0), (23, .aload_n 0, 1, 0, 0), (24, .getfield 77, 3, 9, 38), (27, .iload_n 1, 1, 0, 0), (28, .iaload, 1, 0, 0), (29, .iload_n 2, 1, 0, 0), (30, .if_icmp .eq 22, 3, 0, 0), (33, .aload_n 0, 1, 0, 0), (34, .getfield 77, 3, 9, 38), (37, .iload_n 1, 1, 0, 0), (38, .iaload, 1, 0, 0), (39, .bipush (-4), 2, 0, 0), (41, .if_icmp .ne 8, 3, 0, 0), (44, .bipush (-11), 2, 0, 0), (46, .goto 5, 3, 0, 0), (49, .bipush (-13), 2, 0, 0), (51, .ireturn, 1, 0, 0), (52, .aload_n 0, 1, 0, 0), (53, .getfield 178, 3, 9, 28), (56, .istore 5, 2, 0, 0), (58, .iload 4, 2, 0, 0), (60, .istore 6, 2, 0, 0), (62, .iconst 0, 1, 0, 0), (63, .istore 7, 2, 0, 0), (65, .iload 7, 2, 0, 0), (67, .iload 4, 2, 0, 0), (69, .if_icmp .ge 115, 3, 0, 0), (72, .iload 6, 2, 0, 0), (74, .iload 4, 2, 0, 0), (76, .if_icmp .ne 108, 3, 0, 0), (79, .iload_n 3, 1, 0, 0), (80, .i2l, 1, 0, 0), (81, .iconst 3, 1, 0, 0), (82, .iload 7, 2, 0, 0), (84, .imul, 1, 0, 0), (85, .i2l, 1, 0, 0), (86, .ladd, 1, 0, 0), (87, .lstore 8, 2, 0, 0), (89, .lload 8, 2, 0, 0), (91, .lconst 0, 1, 0, 0), (92, .lcmp, 1, 0, 0), (93, .ifCond .lt 20, 3, 0, 0), (96, .lload 8, 2, 0, 0), (98, .ldc2_w 233, 3, 3, 0), (101, .ladd, 1, 0, 0), (102, .aload_n 0, 1, 0, 0), (103, .getfield 80, 3, 9, 39), (106, .iload_n 1, 1, 0, 0), (107, .iaload, 1, 0, 0), (108, .i2l, 1, 0, 0), (109, .lcmp, 1, 0, 0), (110, .ifCond .le 10, 3, 0, 0), (113, .bipush (-12), 2, 0, 0), (115, .istore 6, 2, 0, 0), (117, .goto 61, 3, 0, 0), (120, .bipush 60, 2, 0, 0), (122, .iload_n 1, 1, 0, 0), (123, .imul, 1, 0, 0), (124, .lload 8, 2, 0, 0), (126, .l2i, 1, 0, 0), (127, .iadd, 1, 0, 0), (128, .istore 10, 2, 0, 0), (130, .aload_n 0, 1, 0, 0), (131, .aload_n 0, 1, 0, 0), (132, .getfield 83, 3, 9, 40), (135, .iload 10, 2, 0, 0), (137, .iaload, 1, 0, 0), (138, .aload_n 0, 1, 0, 0), (139, .getfield 83, 3, 9, 40), (142, .iload 10, 2, 0, 0), (144, .iconst 1, 1, 0, 0), (145, .iadd, 1, 0, 0), (146, .iaload, 1, 0, 0), (147, .aload_n 0, 1, 0, 0), (148, .getfield 83, 3, 9, 40), (151, .iload 10, 2, 0, 0), (153, .iconst 2, 1, 0, 0), (154, .iadd, 1, 0, 0), (155, .iaload, 1, 0, 0), (156, .invokevirtual 240, 3, 131, 3), (159, .istore 11, 2, 0, 0), (161, .iload 11, 2, 0, 0), (163, .ifCond .ge 11, 3, 0, 0), (166, .bipush (-20), 2, 0, 0), (168, .iload 11, 2, 0, 0), (170, .iadd, 1, 0, 0), (171, .goto 5, 3, 0, 0), (174, .iload 4, 2, 0, 0), (176, .istore 6, 2, 0, 0), (178, .iinc 7 1, 3, 0, 0), (181, .goto (-116), 3, 0, 0), (184, .aload_n 0, 1, 0, 0), (185, .iload 6, 2, 0, 0), (187, .ifCond .ge 8, 3, 0, 0), (190, .iload 5, 2, 0, 0), (192, .goto 7, 3, 0, 0), (195, .aload_n 0, 1, 0, 0), (196, .getfield 178, 3, 9, 28), (199, .putfield 178, 3, 9, 28), (202, .iload 6, 2, 0, 0), (204, .ireturn, 1, 0, 0)]
def mc_X9_count : List (Nat × mm_E) := [(0, .iconst 0, 1, 0, 0), (1, .istore_n 2, 1, 0, 0), (2, .iconst 0, 1, 0, 0), (3, .istore_n 3, 1, 0, 0), (4, .iconst 0, 1, 0, 0), (5, .istore 4, 2, 0, 0), (7, .iconst 0, 1, 0, 0), (8, .istore 5, 2, 0, 0), (10, .iload 5, 2, 0, 0), (12, .aload_n 0, 1, 0, 0), (13, .getfield 164, 3, 9, 14), (16, .if_icmp .ge 48, 3, 0, 0), (19, .iload_n 2, 1, 0, 0), (20, .aload_n 0, 1, 0, 0), (21, .getfield 22, 3, 9, 15), (24, .iload 5, 2, 0, 0), (26, .baload, 1, 0, 0), (27, .ifCond .eq 7, 3, 0, 0), (30, .iconst 0, 1, 0, 0), (31, .goto 4, 3, 0, 0), (34, .iconst 1, 1, 0, 0), (35, .iadd, 1, 0, 0), (36, .istore_n 2, 1, 0, 0), (37, .iload_n 3, 1, 0, 0), (38, .aload_n 0, 1, 0, 0), (39, .iload 5, 2, 0, 0), (41, .invokevirtual 188, 3, 121, 1), (44, .iadd, 1, 0, 0), (45, .istore_n 3, 1, 0, 0), (46, .iload 4, 2, 0, 0), (48, .aload_n 0, 1, 0, 0), (49, .getfield 26, 3, 9, 16), (52, .iload 5, 2, 0, 0), (54, .iaload, 1, 0, 0), (55, .iadd, 1, 0, 0), (56, .istore 4, 2, 0, 0), (58, .iinc 5 1, 3, 0, 0), (61, .goto (-51), 3, 0, 0), (64, .iload_n 1, 1, 0, 0), (65, .tableswitch 97 0 9 #[55, 57, 62, 67, 72, 77, 79, 82, 87, 92], 55, 0, 0), (120, .iload_n 2, 1, 0, 0), (121, .ireturn, 1, 0, 0), (122, .aload_n 0, 1, 0, 0), (123, .getfield 146, 3, 9, 9), (126, .ireturn, 1, 0, 0), (127, .aload_n 0, 1, 0, 0), (128, .getfield 141, 3, 9, 12), (131, .ireturn, 1, 0, 0), (132, .aload_n 0, 1, 0, 0), (133, .getfield 175, 3, 9, 24), (136, .ireturn, 1, 0, 0), (137, .aload_n 0, 1, 0, 0), (138, .getfield 178, 3, 9, 28), (141, .ireturn, 1, 0, 0), (142, .iload_n 3, 1, 0, 0), (143, .ireturn, 1, 0, 0), (144, .iload 4, 2, 0, 0), (146, .ireturn, 1, 0, 0), (147, .aload_n 0, 1, 0, 0), (148, .getfield 181, 3, 9, 21), (151, .ireturn, 1, 0, 0), (152, .aload_n 0, 1, 0, 0), (153, .getfield 170, 3, 9, 22), (156, .ireturn, 1, 0, 0), (157, .aload_n 0, 1, 0, 0), (158, .getfield 191, 3, 9, 23), (161, .ireturn, 1, 0, 0), (162, .iconst (-1), 1, 0, 0), (163, .ireturn, 1, 0, 0)]
def mc_J7_fill_53178 : List (Nat × mm_E) := [(0, .iconst 0, 1, 0, 0), (1, .istore_n 2, 1, 0, 0), (2, .aload_n 0, 1, 0, 0), (3, .arraylength, 1, 0, 0), (4, .istore_n 3, 1, 0, 0), (5, .iload_n 2, 1, 0, 0), (6, .iload_n 3, 1, 0, 0), (7, .if_icmp .ge 13, 3, 0, 0), (10, .aload_n 0, 1, 0, 0), (11, .iload_n 2, 1, 0, 0), (12, .iload_n 1, 1, 0, 0), (13, .iastore, 1, 0, 0), (14, .iinc 2 1, 3, 0, 0), (17, .goto (-12), 3, 0, 0), (20, .return_, 1, 0, 0)]
def mc_L_law : List (Nat × mm_E) := [(0, .new 7, 3, 8, 0), (3, .dup, 1, 0, 0), (4, .invokespecial 9, 3, 61, 0), (7, .astore_n 1, 1, 0, 0), (8, .new 10, 3, 9, 0), (11, .dup, 1, 0, 0), (12, .invokespecial 12, 3, 102, 0), (15, .astore_n 2, 1, 0, 0), (16, .iconst 0, 1, 0, 0), (17, .istore_n 3, 1, 0, 0), (18, .iload_n 3, 1, 0, 0), (19, .aload_n 0, 1, 0, 0), (20, .arraylength, 1, 0, 0), (21, .iconst 5, 1, 0, 0), (22, .isub, 1, 0, 0), (23, .if_icmp .gt 862, 3, 0, 0), (26, .aload_n 0, 1, 0, 0), (27, .iload_n 3, 1, 0, 0), (28, .iaload, 1, 0, 0), (29, .bipush 31, 2, 0, 0), (31, .iand, 1, 0, 0), (32, .tableswitch 847 0 24 #[116, 169, 192, 215, 228, 241, 274, 297, 310, 333, 392, 425, 468, 511, 534, 567, 580, 603, 626, 649, 672, 685, 728, 771, 824], 116, 0, 0), (148, .aload_n 1, 1, 0, 0), (149, .aload_n 0, 1, 0, 0), (150, .iload_n 3, 1, 0, 0), (151, .iconst 1, 1, 0, 0), (152, .iadd, 1, 0, 0), (153, .iaload, 1, 0, 0), (154, .i2l, 1, 0, 0), (155, .bipush 32, 2, 0, 0), (157, .lshl, 1, 0, 0), (158, .aload_n 0, 1, 0, 0), (159, .iload_n 3, 1, 0, 0), (160, .iconst 2, 1, 0, 0), (161, .iadd, 1, 0, 0), (162, .iaload, 1, 0, 0), (163, .i2l, 1, 0, 0), (164, .ldc2_w 13, 3, 4294967295, 0), (167, .land, 1, 0, 0), (168, .lor, 1, 0, 0), (169, .invokevirtual 15, 3, 62, 1), (172, .aload_n 2, 1, 0, 0), (173, .aload_n 0, 1, 0, 0), (174, .iload_n 3, 1, 0, 0), (175, .iconst 1, 1, 0, 0), (176, .iadd, 1, 0, 0), (177, .iaload, 1, 0, 0), (178, .i2l, 1, 0, 0), (179, .bipush 32, 2, 0, 0), (181, .lshl, 1, 0, 0), (182, .aload_n 0, 1, 0, 0), (183, .iload_n 3, 1, 0, 0), (184, .iconst 2, 1, 0, 0), (185, .iadd, 1, 0, 0), (186, .iaload, 1, 0, 0), (187, .i2l, 1, 0, 0), (188, .ldc2_w 13, 3, 4294967295, 0), (191, .land, 1, 0, 0), (192, .lor, 1, 0, 0), (193, .invokevirtual 19, 3, 104, 1), (196, .if_icmp .eq 683, 3, 0, 0), (199, .iconst 0, 1, 0, 0), (200, .ireturn, 1, 1, 0), (201, .aload_n 1, 1, 0, 0), (202, .aload_n 0, 1, 0, 0), (203, .iload_n 3, 1, 0, 0), (204, .iconst 1, 1, 0, 0), (205, .iadd, 1, 0, 0), (206, .iaload, 1, 0, 0), (207, .invokevirtual 20, 3, 63, 1), (210, .aload_n 2, 1, 0, 0), (211, .aload_n 0, 1, 0, 0), (212, .iload_n 3, 1, 0, 0), (213, .iconst 1, 1, 0, 0), (214, .iadd, 1, 0, 0), (215, .iaload, 1, 0, 0), (216, .invokevirtual 24, 3, 105, 1), (219, .if_icmp .eq 660, 3, 0, 0), (222, .iconst 0, 1, 0, 0), (223, .ireturn, 1, 1, 0), (224, .aload_n 1, 1, 0, 0), (225, .aload_n 0, 1, 0, 0), (226, .iload_n 3, 1, 0, 0), (227, .iconst 1, 1, 0, 0), (228, .iadd, 1, 0, 0), (229, .iaload, 1, 0, 0), (230, .invokevirtual 25, 3, 64, 1), (233, .aload_n 2, 1, 0, 0), (234, .aload_n 0, 1, 0, 0), (235, .iload_n 3, 1, 0, 0), (236, .iconst 1, 1, 0, 0), (237, .iadd, 1, 0, 0), (238, .iaload, 1, 0, 0), (239, .invokevirtual 28, 3, 112, 1), (242, .if_icmp .eq 637, 3, 0, 0), (245, .iconst 0, 1, 0, 0), (246, .ireturn, 1, 1, 0), (247, .aload_n 1, 1, 0, 0), (248, .invokevirtual 29, 3, 65, 0), (251, .aload_n 2, 1, 0, 0), (252, .invokevirtual 33, 3, 113, 0), (255, .if_icmp .eq 624, 3, 0, 0), (258, .iconst 0, 1, 0, 0), (259, .ireturn, 1, 1, 0), (260, .aload_n 1, 1, 0, 0), (261, .invokevirtual 34, 3, 66, 0), (264, .aload_n 2, 1, 0, 0), (265, .invokevirtual 37, 3, 114, 0), (268, .if_icmp .eq 611, 3, 0, 0), (271, .iconst 0, 1, 0, 0), (272, .ireturn, 1, 1, 0), (273, .aload_n 1, 1, 0, 0), (274, .aload_n 0, 1, 0, 0), (275, .iload_n 3, 1, 0, 0), (276, .iconst 1, 1, 0, 0), (277, .iadd, 1, 0, 0), (278, .iaload, 1, 0, 0), (279, .aload_n 0, 1, 0, 0), (280, .iload_n 3, 1, 0, 0), (281, .iconst 2, 1, 0, 0), (282, .iadd, 1, 0, 0), (283, .iaload, 1, 0, 0), (284, .invokevirtual 38, 3, 67, 2), (287, .aload_n 2, 1, 0, 0), (288, .aload_n 0, 1, 0, 0), (289, .iload_n 3, 1, 0, 0), (290, .iconst 1, 1, 0, 0), (291, .iadd, 1, 0, 0), (292, .iaload, 1, 0, 0), (293, .aload_n 0, 1, 0, 0), (294, .iload_n 3, 1, 0, 0), (295, .iconst 2, 1, 0, 0), (296, .iadd, 1, 0, 0), (297, .iaload, 1, 0, 0), (298, .invokevirtual 42, 3, 117, 2), (301, .if_icmp .eq 578, 3, 0, 0), (304, .iconst 0, 1, 0, 0), (305, .ireturn, 1, 1, 0), (306, .aload_n 1, 1, 0, 0), (307, .aload_n 0, 1, 0, 0), (308, .iload_n 3, 1, 0, 0), (309, .iconst 1, 1, 0, 0), (310, .iadd, 1, 0, 0), (311, .iaload, 1, 0, 0), (312, .invokevirtual 43, 3, 68, 1), (315, .aload_n 2, 1, 0, 0), (316, .aload_n 0, 1, 0, 0), (317, .iload_n 3, 1, 0, 0), (318, .iconst 1, 1, 0, 0), (319, .iadd, 1, 0, 0), (320, .iaload, 1, 0, 0), (321, .invokevirtual 46, 3, 120, 1), (324, .if_icmp .eq 555, 3, 0, 0), (327, .iconst 0, 1, 0, 0), (328, .ireturn, 1, 1, 0), (329, .aload_n 1, 1, 0, 0), (330, .invokevirtual 47, 3, 69, 0), (333, .aload_n 2, 1, 0, 0), (334, .invokevirtual 50, 3, 122, 0), (337, .if_icmp .eq 542, 3, 0, 0), (340, .iconst 0, 1, 0, 0), (341, .ireturn, 1, 1, 0), (342, .aload_n 1, 1, 0, 0), (343, .aload_n 0, 1, 0, 0), (344, .iload_n 3, 1, 0, 0), (345, .iconst 1, 1, 0, 0), (346, .iadd, 1, 0, 0), (347, .iaload, 1, 0, 0), (348, .invokevirtual 51, 3, 70, 1), (351, .aload_n 2, 1, 0, 0), (352, .aload_n 0, 1, 0, 0), (353, .iload_n 3, 1, 0, 0), (354, .iconst 1, 1, 0, 0), (355, .iadd, 1, 0, 0), (356, .iaload, 1, 0, 0), (357, .invokevirtual 54, 3, 123, 1), (360, .if_icmp .eq 519, 3, 0, 0), (363, .iconst 0, 1, 0, 0), (364, .ireturn, 1, 1, 0), (365, .aload_n 1, 1, 0, 0), (366, .aload_n 0, 1, 0, 0), (367, .iload_n 3, 1, 0, 0), (368, .iconst 1, 1, 0, 0), (369, .iadd, 1, 0, 0), (370, .iaload, 1, 0, 0), (371, .aload_n 0, 1, 0, 0), (372, .iload_n 3, 1, 0, 0), (373, .iconst 2, 1, 0, 0), (374, .iadd, 1, 0, 0), (375, .iaload, 1, 0, 0), (376, .aload_n 0, 1, 0, 0), (377, .iload_n 3, 1, 0, 0), (378, .iconst 3, 1, 0, 0), (379, .iadd, 1, 0, 0), (380, .iaload, 1, 0, 0), (381, .ifCond .eq 7, 3, 0, 0), (384, .iconst 1, 1, 0, 0), (385, .goto 4, 3, 0, 0), (388, .iconst 0, 1, 0, 0), (389, .invokevirtual 55, 3, 71, 3), (392, .aload_n 2, 1, 0, 0), (393, .aload_n 0, 1, 0, 0), (394, .iload_n 3, 1, 0, 0), (395, .iconst 1, 1, 0, 0), (396, .iadd, 1, 0, 0), (397, .iaload, 1, 0, 0), (398, .aload_n 0, 1, 0, 0), (399, .iload_n 3, 1, 0, 0), (400, .iconst 2, 1, 0, 0), (401, .iadd, 1, 0, 0), (402, .iaload, 1, 0, 0), (403, .aload_n 0, 1, 0, 0), (404, .iload_n 3, 1, 0, 0), (405, .iconst 3, 1, 0, 0), (406, .iadd, 1, 0, 0), (407, .iaload, 1, 0, 0), (408, .ifCond .eq 7, 3, 0, 0), (411, .iconst 1, 1, 0, 0), (412, .goto 4, 3, 0, 0), (415, .iconst 0, 1, 0, 0), (416, .invokevirtual 59, 3, 124, 3), (419, .if_icmp .eq 460, 3, 0, 0), (422, .iconst 0, 1, 0, 0), (423, .ireturn, 1, 1, 0), (424, .aload_n 1, 1, 0, 0), (425, .aload_n 0, 1, 0, 0), (426, .iload_n 3, 1, 0, 0), (427, .iconst 1, 1, 0, 0), (428, .iadd, 1, 0, 0), (429, .iaload, 1, 0, 0), (430, .aload_n 0, 1, 0, 0), (431, .iload_n 3, 1, 0, 0), (432, .iconst 2, 1, 0, 0), (433, .iadd, 1, 0, 0), (434, .iaload, 1, 0, 0), (435, .invokevirtual 60, 3, 72, 2), (438, .aload_n 2, 1, 0, 0), (439, .aload_n 0, 1, 0, 0), (440, .iload_n 3, 1, 0, 0), (441, .iconst 1, 1, 0, 0), (442, .iadd, 1, 0, 0), (443, .iaload, 1, 0, 0), (444, .aload_n 0, 1, 0, 0), (445, .iload_n 3, 1, 0, 0), (446, .iconst 2, 1, 0, 0), (447, .iadd, 1, 0, 0), (448, .iaload, 1, 0, 0), (449, .invokevirtual 63, 3, 126, 2), (452, .if_icmp .eq 427, 3, 0, 0), (455, .iconst 0, 1, 0, 0), (456, .ireturn, 1, 1, 0), (457, .aload_n 1, 1, 0, 0), (458, .aload_n 0, 1, 0, 0), (459, .iload_n 3, 1, 0, 0), (460, .iconst 1, 1, 0, 0), (461, .iadd, 1, 0, 0), (462, .iaload, 1, 0, 0), (463, .aload_n 0, 1, 0, 0), (464, .iload_n 3, 1, 0, 0), (465, .iconst 2, 1, 0, 0), (466, .iadd, 1, 0, 0), (467, .iaload, 1, 0, 0), (468, .aload_n 0, 1, 0, 0), (469, .iload_n 3, 1, 0, 0), (470, .iconst 3, 1, 0, 0), (471, .iadd, 1, 0, 0), (472, .iaload, 1, 0, 0), (473, .invokevirtual 64, 3, 73, 3), (476, .aload_n 2, 1, 0, 0), (477, .aload_n 0, 1, 0, 0), (478, .iload_n 3, 1, 0, 0), (479, .iconst 1, 1, 0, 0), (480, .iadd, 1, 0, 0), (481, .iaload, 1, 0, 0), (482, .aload_n 0, 1, 0, 0), (483, .iload_n 3, 1, 0, 0), (484, .iconst 2, 1, 0, 0), (485, .iadd, 1, 0, 0), (486, .iaload, 1, 0, 0), (487, .aload_n 0, 1, 0, 0), (488, .iload_n 3, 1, 0, 0), (489, .iconst 3, 1, 0, 0), (490, .iadd, 1, 0, 0), (491, .iaload, 1, 0, 0), (492, .invokevirtual 68, 3, 130, 3), (495, .if_icmp .eq 384, 3, 0, 0), (498, .iconst 0, 1, 0, 0), (499, .ireturn, 1, 1, 0), (500, .aload_n 1, 1, 0, 0), (501, .aload_n 0, 1, 0, 0), (502, .iload_n 3, 1, 0, 0), (503, .iconst 1, 1, 0, 0), (504, .iadd, 1, 0, 0), (505, .iaload, 1, 0, 0), (506, .aload_n 0, 1, 0, 0), (507, .iload_n 3, 1, 0, 0), (508, .iconst 2, 1, 0, 0), (509, .iadd, 1, 0, 0), (510, .iaload, 1, 0, 0), (511, .aload_n 0, 1, 0, 0), (512, .iload_n 3, 1, 0, 0), (513, .iconst 3, 1, 0, 0), (514, .iadd, 1, 0, 0), (515, .iaload, 1, 0, 0), (516, .invokevirtual 69, 3, 74, 3), (519, .aload_n 2, 1, 0, 0), (520, .aload_n 0, 1, 0, 0), (521, .iload_n 3, 1, 0, 0), (522, .iconst 1, 1, 0, 0), (523, .iadd, 1, 0, 0), (524, .iaload, 1, 0, 0), (525, .aload_n 0, 1, 0, 0), (526, .iload_n 3, 1, 0, 0), (527, .iconst 2, 1, 0, 0), (528, .iadd, 1, 0, 0), (529, .iaload, 1, 0, 0), (530, .aload_n 0, 1, 0, 0), (531, .iload_n 3, 1, 0, 0), (532, .iconst 3, 1, 0, 0), (533, .iadd, 1, 0, 0), (534, .iaload, 1, 0, 0), (535, .invokevirtual 72, 3, 131, 3), (538, .if_icmp .eq 341, 3, 0, 0), (541, .iconst 0, 1, 0, 0), (542, .ireturn, 1, 1, 0), (543, .aload_n 1, 1, 0, 0), (544, .aload_n 0, 1, 0, 0), (545, .iload_n 3, 1, 0, 0), (546, .iconst 1, 1, 0, 0), (547, .iadd, 1, 0, 0), (548, .iaload, 1, 0, 0), (549, .invokevirtual 73, 3, 75, 1), (552, .aload_n 2, 1, 0, 0), (553, .aload_n 0, 1, 0, 0), (554, .iload_n 3, 1, 0, 0), (555, .iconst 1, 1, 0, 0), (556, .iadd, 1, 0, 0), (557, .iaload, 1, 0, 0), (558, .invokevirtual 76, 3, 133, 1), (561, .if_icmp .eq 318, 3, 0, 0), (564, .iconst 0, 1, 0, 0), (565, .ireturn, 1, 1, 0), (566, .aload_n 1, 1, 0, 0), (567, .aload_n 0, 1, 0, 0), (568, .iload_n 3, 1, 0, 0), (569, .iconst 1, 1, 0, 0), (570, .iadd, 1, 0, 0), (571, .iaload, 1, 0, 0), (572, .aload_n 0, 1, 0, 0), (573, .iload_n 3, 1, 0, 0), (574, .iconst 2, 1, 0, 0), (575, .iadd, 1, 0, 0), (576, .iaload, 1, 0, 0), (577, .invokevirtual 77, 3, 76, 2), (580, .aload_n 2, 1, 0, 0), (581, .aload_n 0, 1, 0, 0), (582, .iload_n 3, 1, 0, 0), (583, .iconst 1, 1, 0, 0), (584, .iadd, 1, 0, 0), (585, .iaload, 1, 0, 0), (586, .aload_n 0, 1, 0, 0), (587, .iload_n 3, 1, 0, 0), (588, .iconst 2, 1, 0, 0), (589, .iadd, 1, 0, 0), (590, .iaload, 1, 0, 0), (591, .invokevirtual 80, 3, 135, 2), (594, .if_icmp .eq 285, 3, 0, 0), (597, .iconst 0, 1, 0, 0), (598, .ireturn, 1, 1, 0), (599, .aload_n 1, 1, 0, 0), (600, .invokevirtual 81, 3, 77, 0), (603, .aload_n 2, 1, 0, 0), (604, .invokevirtual 84, 3, 141, 0), (607, .if_icmp .eq 272, 3, 0, 0), (610, .iconst 0, 1, 0, 0), (611, .ireturn, 1, 1, 0), (612, .aload_n 1, 1, 0, 0), (613, .aload_n 0, 1, 0, 0), (614, .iload_n 3, 1, 0, 0), (615, .iconst 1, 1, 0, 0), (616, .iadd, 1, 0, 0), (617, .iaload, 1, 0, 0), (618, .invokevirtual 85, 3, 78, 1), (621, .aload_n 2, 1, 0, 0), (622, .aload_n 0, 1, 0, 0), (623, .iload_n 3, 1, 0, 0), (624, .iconst 1, 1, 0, 0), (625, .iadd, 1, 0, 0), (626, .iaload, 1, 0, 0), (627, .invokevirtual 88, 3, 142, 1), (630, .if_icmp .eq 249, 3, 0, 0), (633, .iconst 0, 1, 0, 0), (634, .ireturn, 1, 1, 0), (635, .aload_n 1, 1, 0, 0), (636, .aload_n 0, 1, 0, 0), (637, .iload_n 3, 1, 0, 0), (638, .iconst 1, 1, 0, 0), (639, .iadd, 1, 0, 0), (640, .iaload, 1, 0, 0), (641, .invokevirtual 89, 3, 79, 1), (644, .aload_n 2, 1, 0, 0), (645, .aload_n 0, 1, 0, 0), (646, .iload_n 3, 1, 0, 0), (647, .iconst 1, 1, 0, 0), (648, .iadd, 1, 0, 0), (649, .iaload, 1, 0, 0), (650, .invokevirtual 92, 3, 143, 1), (653, .if_icmp .eq 226, 3, 0, 0), (656, .iconst 0, 1, 0, 0), (657, .ireturn, 1, 1, 0), (658, .aload_n 1, 1, 0, 0), (659, .aload_n 0, 1, 0, 0), (660, .iload_n 3, 1, 0, 0), (661, .iconst 1, 1, 0, 0), (662, .iadd, 1, 0, 0), (663, .iaload, 1, 0, 0), (664, .invokevirtual 93, 3, 80, 1), (667, .aload_n 2, 1, 0, 0), (668, .aload_n 0, 1, 0, 0), (669, .iload_n 3, 1, 0, 0), (670, .iconst 1, 1, 0, 0), (671, .iadd, 1, 0, 0), (672, .iaload, 1, 0, 0), (673, .invokevirtual 96, 3, 144, 1), (676, .if_icmp .eq 203, 3, 0, 0), (679, .iconst 0, 1, 0, 0), (680, .ireturn, 1, 1, 0), (681, .aload_n 1, 1, 0, 0), (682, .aload_n 0, 1, 0, 0), (683, .iload_n 3, 1, 0, 0), (684, .iconst 1, 1, 0, 0), (685, .iadd, 1, 0, 0), (686, .iaload, 1, 0, 0), (687, .invokevirtual 97, 3, 81, 1), (690, .aload_n 2, 1, 0, 0), (691, .aload_n 0, 1, 0, 0), (692, .iload_n 3, 1, 0, 0), (693, .iconst 1, 1, 0, 0), (694, .iadd, 1, 0, 0), (695, .iaload, 1, 0, 0), (696, .invokevirtual 100, 3, 145, 1), (699, .if_icmp .eq 180, 3, 0, 0), (702, .iconst 0, 1, 0, 0), (703, .ireturn, 1, 1, 0), (704, .aload_n 1, 1, 0, 0), (705, .invokevirtual 101, 3, 82, 0), (708, .aload_n 2, 1, 0, 0), (709, .invokevirtual 104, 3, 146, 0), (712, .if_icmp .eq 167, 3, 0, 0), (715, .iconst 0, 1, 0, 0), (716, .ireturn, 1, 1, 0), (717, .aload_n 1, 1, 0, 0), (718, .aload_n 0, 1, 0, 0), (719, .iload_n 3, 1, 0, 0), (720, .iconst 1, 1, 0, 0), (721, .iadd, 1, 0, 0), (722, .iaload, 1, 0, 0), (723, .aload_n 0, 1, 0, 0), (724, .iload_n 3, 1, 0, 0), (725, .iconst 2, 1, 0, 0), (726, .iadd, 1, 0, 0), (727, .iaload, 1, 0, 0), (728, .aload_n 0, 1, 0, 0), (729, .iload_n 3, 1, 0, 0), (730, .iconst 3, 1, 0, 0), (731, .iadd, 1, 0, 0), (732, .iaload, 1, 0, 0), (733, .invokevirtual 105, 3, 83, 3), (736, .aload_n 2, 1, 0, 0), (737, .aload_n 0, 1, 0, 0), (738, .iload_n 3, 1, 0, 0), (739, .iconst 1, 1, 0, 0), (740, .iadd, 1, 0, 0), (741, .iaload, 1, 0, 0), (742, .aload_n 0, 1, 0, 0), (743, .iload_n 3, 1, 0, 0), (744, .iconst 2, 1, 0, 0), (745, .iadd, 1, 0, 0), (746, .iaload, 1, 0, 0), (747, .aload_n 0, 1, 0, 0), (748, .iload_n 3, 1, 0, 0), (749, .iconst 3, 1, 0, 0), (750, .iadd, 1, 0, 0), (751, .iaload, 1, 0, 0), (752, .invokevirtual 108, 3, 148, 3), (755, .if_icmp .eq 124, 3, 0, 0), (758, .iconst 0, 1, 0, 0), (759, .ireturn, 1, 1, 0), (760, .aload_n 1, 1, 0, 0), (761, .aload_n 0, 1, 0, 0), (762, .iload_n 3, 1, 0, 0), (763, .iconst 1, 1, 0, 0), (764, .iadd, 1, 0, 0), (765, .iaload, 1, 0, 0), (766, .aload_n 0, 1, 0, 0), (767, .iload_n 3, 1, 0, 0), (768, .iconst 2, 1, 0, 0), (769, .iadd, 1, 0, 0), (770, .iaload, 1, 0, 0), (771, .aload_n 0, 1, 0, 0), (772, .iload_n 3, 1, 0, 0), (773, .iconst 3, 1, 0, 0), (774, .iadd, 1, 0, 0), (775, .iaload, 1, 0, 0), (776, .invokevirtual 109, 3, 84, 3), (779, .aload_n 2, 1, 0, 0), (780, .aload_n 0, 1, 0, 0), (781, .iload_n 3, 1, 0, 0), (782, .iconst 1, 1, 0, 0), (783, .iadd, 1, 0, 0), (784, .iaload, 1, 0, 0), (785, .aload_n 0, 1, 0, 0), (786, .iload_n 3, 1, 0, 0), (787, .iconst 2, 1, 0, 0), (788, .iadd, 1, 0, 0), (789, .iaload, 1, 0, 0), (790, .aload_n 0, 1, 0, 0), (791, .iload_n 3, 1, 0, 0), (792, .iconst 3, 1, 0, 0), (793, .iadd, 1, 0, 0), (794, .iaload, 1, 0, 0), (795, .invokevirtual 112, 3, 149, 3), (798, .if_icmp .eq 81, 3, 0, 0), (801, .iconst 0, 1, 0, 0), (802, .ireturn, 1, 1, 0), (803, .aload_n 1, 1, 0, 0), (804, .aload_n 0, 1, 0, 0), (805, .iload_n 3, 1, 0, 0), (806, .iconst 1, 1, 0, 0), (807, .iadd, 1, 0, 0), (808, .iaload, 1, 0, 0), (809, .aload_n 0, 1, 0, 0), (810, .iload_n 3, 1, 0, 0), (811, .iconst 2, 1, 0, 0), (812, .iadd, 1, 0, 0), (813, .iaload, 1, 0, 0), (814, .aload_n 0, 1, 0, 0), (815, .iload_n 3, 1, 0, 0), (816, .iconst 3, 1, 0, 0), (817, .iadd, 1, 0, 0), (818, .iaload, 1, 0, 0), (819, .aload_n 0, 1, 0, 0), (820, .iload_n 3, 1, 0, 0), (821, .iconst 4, 1, 0, 0), (822, .iadd, 1, 0, 0), (823, .iaload, 1, 0, 0), (824, .invokevirtual 113, 3, 85, 4), (827, .aload_n 2, 1, 0, 0), (828, .aload_n 0, 1, 0, 0), (829, .iload_n 3, 1, 0, 0), (830, .iconst 1, 1, 0, 0), (831, .iadd, 1, 0, 0), (832, .iaload, 1, 0, 0), (833, .aload_n 0, 1, 0, 0), (834, .iload_n 3, 1, 0, 0), (835, .iconst 2, 1, 0, 0), (836, .iadd, 1, 0, 0), (837, .iaload, 1, 0, 0), (838, .aload_n 0, 1, 0, 0), (839, .iload_n 3, 1, 0, 0), (840, .iconst 3, 1, 0, 0), (841, .iadd, 1, 0, 0), (842, .iaload, 1, 0, 0), (843, .aload_n 0, 1, 0, 0), (844, .iload_n 3, 1, 0, 0), (845, .iconst 4, 1, 0, 0), (846, .iadd, 1, 0, 0), (847, .iaload, 1, 0, 0), (848, .invokevirtual 117, 3, 150, 4), (851, .if_icmp .eq 28, 3, 0, 0), (854, .iconst 0, 1, 0, 0), (855, .ireturn, 1, 1, 0), (856, .aload_n 1, 1, 0, 0), (857, .aload_n 0, 1, 0, 0), (858, .iload_n 3, 1, 0, 0), (859, .iconst 1, 1, 0, 0), (860, .iadd, 1, 0, 0), (861, .iaload, 1, 0, 0), (862, .invokevirtual 118, 3, 86, 1), (865, .aload_n 2, 1, 0, 0), (866, .aload_n 0, 1, 0, 0), (867, .iload_n 3, 1, 0, 0), (868, .iconst 1, 1, 0, 0), (869, .iadd, 1, 0, 0), (870, .iaload, 1, 0, 0), (871, .invokevirtual 121, 3, 151, 1), (874, .if_icmp .eq 5, 3, 0, 0), (877, .iconst 0, 1, 0, 0), (878, .ireturn, 1, 1, 0), (879, .iinc 3 5, 3, 0, 0), (882, .goto (-864), 3, 0, 0), (885, .iconst 1, 1, 0, 0), (886, .ireturn, 1, 1, 0)]
end
section
def mm_rl : List Nat := [1, 1, 1, 1, 1, 2, 2, 2, 2, 2, 2, 3, 3, 3, 3, 3, 3, 3, 3, 3, 3, 3, 3, 3, 4, 4, 4, 4, 4, 4, 4, 4, 4, 5, 5, 5, 5, 5, 5, 5, 5, 5, 5, 6, 6, 6, 6, 7, 7, 7, 7, 7, 7, 8, 8, 8, 8, 8, 8, 8, 8, 9, 9, 9, 9, 9, 9, 9, 9, 9, 9, 9, 9, 9, 9, 9, 9, 9, 9, 9, 9, 9, 9, 9, 9, 9, 9, 9, 9, 9, 9, 9, 9, 9, 9, 9, 9, 9, 9, 9, 9, 9, 10, 10, 10, 10, 10, 10, 10, 10, 10, 10, 10, 10, 10, 10, 10, 10, 10, 10, 10, 10, 10, 10, 10, 10, 10, 10, 10, 10, 10, 10, 10, 10, 10, 10, 10, 10, 10, 10, 10, 10, 10, 10, 10, 10, 10, 10, 10, 10, 10, 10, 0, 0, 0, 30, 30, 0, 0]
def mm_tab : List (Nat × Nat × List (Nat × mm_E)) := [(0, 1, mc_X0_init), (0, 2, mc_X0_doesBar), (0, 3, mc_X0_setBar), (0, 2, mc_X0_wouldOwe), (0, 2, mc_X0_settle), (1, 1, mc_X1_init), (1, 1, mc_X1_isFull), (1, 4, mc_X1_add), (1, 1, mc_X1_latestDay), (1, 4, mc_X1_textOf), (1, 5, mc_X1_lawOf), (2, 1, mc_X2_init), (2, 3, mc_X2_begin), (2, 3, mc_X2_addFit), (2, 2, mc_X2_offerOf), (2, 1, mc_X2_mostPairsOfAll), (2, 1, mc_X2_allOffers), (2, 5, mc_X2_mostPairsFrom), (2, 6, mc_X2_takeOne), (2, 4, mc_X2_match), (2, 7, mc_X2_leastOffer), (2, 2, mc_X2_reach), (2, 2, mc_X2_reachFurther), (2, 1, mc_X2_asksNotReached), (3, 1, mc_X3_init), (3, 1, mc_X3_oldestDay), (3, 1, mc_X3_notesOfOldestDay), (3, 4, mc_X3_put), (3, 5, mc_X3_insertHeap), (3, 8, mc_X3_moveOldest), (3, 5, mc_X3_dropNewest), (3, 5, mc_X3_dropBefore), (3, 3, mc_X3_removeOldestHeaps), (4, 1, mc_X4_init), (4, 4, mc_X4_read), (4, 3, mc_X4_readLaw), (4, 2, mc_X4_canStand), (4, 2, mc_X4_fail), (4, 2, mc_X4_scan), (4, 2, mc_X4_skipBlanks), (4, 3, mc_X4_scanName), (4, 1, mc_X4_nameOf), (4, 2, mc_X4_scanNumber), (5, 3, mc_X5_init), (5, 2, mc_X5_has), (5, 2, mc_X5_at), (5, 3, mc_X5_write), (6, 1, mc_X6_init), (6, 4, mc_X6_append), (6, 2, mc_X6_at), (6, 3, mc_X6_isLetter), (6, 3, mc_X6_isFigure), (6, 5, mc_X6_spells), (7, 1, mc_X7_init), (7, 2, mc_X7_has), (7, 2, mc_X7_familyOf), (7, 2, mc_X7_fromOf), (7, 2, mc_X7_toOf), (7, 4, mc_X7_add), (7, 3, mc_X7_remove), (7, 3, mc_X7_areOf), (8, 1, mc_X8_init), (8, 3, mc_X8_feed), (8, 3, mc_X8_end), (8, 3, mc_X8_vote), (8, 1, mc_X8_fault), (8, 1, mc_X8_unwind), (8, 3, mc_X8_rule), (8, 3, mc_X8_go), (8, 3, mc_X8_join), (8, 4, mc_X8_leave), (8, 6, mc_X8_bar), (8, 4, mc_X8_told), (8, 4, mc_X8_ask), (8, 4, mc_X8_offer), (8, 2, mc_X8_price), (8, 3, mc_X8_fits), (8, 1, mc_X8_met), (8, 2, mc_X8_sitter), (8, 2, mc_X8_why), (8, 2, mc_X8_would), (8, 4, mc_X8_broken), (8, 3, mc_X8_evening), (8, 4, mc_X8_sheet), (8, 5, mc_X8_lay), (8, 9, mc_X8_offers), (8, 2, mc_X8_count), (8, 2, mc_X8_familyAt), (8, 6, mc_X8_expireNotes), (8, 6, mc_X8_familiesHere), (8, 4, mc_X8_sumTold), (8, 5, mc_X8_addVisit), (8, 6, mc_X8_priceOf), (8, 9, mc_X8_areFitting), (8, 4, mc_X8_lookForFits), (8, 2, mc_X8_mostPairs), (8, 1, mc_X8_findTheMatch), (8, 6, mc_X8_hold), (8, 5, mc_X8_pay), (8, 1, mc_X8_isSheet), (8, 1, mc_X8_isLane), (8, 4, mc_X8_offerFrom), (9, 2, mc_X9_init), (9, 6, mc_X9_in), (9, 4, mc_X9_feed), (9, 3, mc_X9_end), (9, 3, mc_X9_fails), (9, 2, mc_X9_look), (9, 8, mc_X9_isName), (9, 1, mc_X9_nameNow), (9, 2, mc_X9_next), (9, 3, mc_X9_readLaw), (9, 4, mc_X9_vote), (9, 1, mc_X9_fault), (9, 1, mc_X9_unwind), (9, 4, mc_X9_textOf), (9, 5, mc_X9_law), (9, 3, mc_X9_rule), (9, 2, mc_X9_isFamily), (9, 4, mc_X9_expires), (9, 3, mc_X9_go), (9, 4, mc_X9_has), (9, 3, mc_X9_join), (9, 5, mc_X9_leave), (9, 5, mc_X9_bar), (9, 3, mc_X9_oldest), (9, 4, mc_X9_told), (9, 5, mc_X9_may), (9, 8, mc_X9_pays), (9, 4, mc_X9_isSpan), (9, 4, mc_X9_ask), (9, 4, mc_X9_offer), (9, 5, mc_X9_priceOf), (9, 2, mc_X9_price), (9, 6, mc_X9_isFit), (9, 3, mc_X9_fits), (9, 4, mc_X9_findFits), (9, 7, mc_X9_grows), (9, 5, mc_X9_change), (9, 5, mc_X9_most), (9, 6, mc_X9_matches), (9, 1, mc_X9_met), (9, 2, mc_X9_sitter), (9, 7, mc_X9_why), (9, 2, mc_X9_would), (9, 4, mc_X9_broken), (9, 6, mc_X9_evening), (9, 2, mc_X9_isSheet), (9, 5, mc_X9_sheet), (9, 4, mc_X9_lay), (9, 12, mc_X9_offers), (9, 6, mc_X9_count), (99, 4, mc_J7_fill_53178)]
/-! THE SMALL MACHINE. A heap of typed maps: kinds, int fields, reference fields (by 64 * class + field, then address), lengths, int cells, reference cells, next address, slots spent. Addresses 0..15 are given (0 the script, 1..3 static arrays, 4..8 texts), from 16 on they are made. Kinds: class + 1; 20 int[], 21 byte[], 22 boolean[], 23 Family[], 24 Row[], 25 int[][]; 30 a text. -/
abbrev mm_H : Type := (Nat → Nat) × (Nat → Nat → Int32) × (Nat → Nat → Option Nat) × (Nat → Nat) × (Nat → Nat → Int32) × (Nat → Nat → Option Nat) × Nat × Nat
abbrev mm_L : Type := List (Nat × Value)
abbrev mm_S : Type := Nat × mm_L × List Value × mm_H
abbrev h_kd (h : mm_H) : Nat → Nat := h.1
abbrev h_oi (h : mm_H) : Nat → Nat → Int32 := h.2.1
abbrev h_or (h : mm_H) : Nat → Nat → Option Nat := h.2.2.1
abbrev h_al (h : mm_H) : Nat → Nat := h.2.2.2.1
abbrev h_ai (h : mm_H) : Nat → Nat → Int32 := h.2.2.2.2.1
abbrev h_ar (h : mm_H) : Nat → Nat → Option Nat := h.2.2.2.2.2.1
abbrev h_n (h : mm_H) : Nat := h.2.2.2.2.2.2.1
abbrev h_s (h : mm_H) : Nat := h.2.2.2.2.2.2.2
def h_sI (h : mm_H) (g a : Nat) (v : Int32) : mm_H := (h_kd h, va_up (h_oi h) g (va_up (h_oi h g) a v), h_or h, h_al h, h_ai h, h_ar h, h_n h, h_s h)
def h_sR (h : mm_H) (g a : Nat) (v : Option Nat) : mm_H := (h_kd h, h_oi h, va_up (h_or h) g (va_up (h_or h g) a v), h_al h, h_ai h, h_ar h, h_n h, h_s h)
def h_sA (h : mm_H) (a i : Nat) (v : Int32) : mm_H := (h_kd h, h_oi h, h_or h, h_al h, va_up (h_ai h) a (va_up (h_ai h a) i v), h_ar h, h_n h, h_s h)
def h_sQ (h : mm_H) (a i : Nat) (v : Option Nat) : mm_H := (h_kd h, h_oi h, h_or h, h_al h, h_ai h, va_up (h_ar h) a (va_up (h_ar h a) i v), h_n h, h_s h)
def h_nO (h : mm_H) (ci N : Nat) : mm_H := (va_up (h_kd h) (h_n h) (ci + 1), fun g => va_up (h_oi h g) (h_n h) 0, fun g => va_up (h_or h g) (h_n h) none, h_al h, h_ai h, h_ar h, h_n h + 1, h_s h + N)
def h_nA (h : mm_H) (κ N : Nat) : mm_H := (va_up (h_kd h) (h_n h) κ, h_oi h, h_or h, va_up (h_al h) (h_n h) N, va_up (h_ai h) (h_n h) (fun _ => 0), va_up (h_ar h) (h_n h) (fun _ => none), h_n h + 1, h_s h + N)
def h_nM (h : mm_H) (N K : Nat) : mm_H := (fun a => if a = h_n h then 25 else if h_n h < a ∧ a ≤ h_n h + N then 20 else h_kd h a, h_oi h, h_or h, fun a => if a = h_n h then N else if h_n h < a ∧ a ≤ h_n h + N then K else h_al h a, fun a => if h_n h < a ∧ a ≤ h_n h + N then (fun _ => 0) else h_ai h a, va_up (h_ar h) (h_n h) (fun i => if i < N then some (h_n h + 1 + i) else none), h_n h + 1 + N, h_s h + N + N * K)
/-- is the field a reference? -/
def mm_ri (ci k : Nat) : Bool := match ci with
  | 0 => k == 0
  | 1 => k == 0 || k == 1
  | 2 => k == 0 || k == 1 || k == 2
  | 3 => k == 0 || k == 1
  | 4 => k == 0
  | 5 => k == 1
  | 6 => k == 0
  | 7 => k == 0 || k == 1 || k == 2
  | 8 => k == 0 || k == 1 || k == 2 || k == 3 || k == 4 || k == 5 || k == 6 || k == 7
  | 9 => k == 0 || k == 8 || k == 10 || k == 11 || k == 15 || k == 16 || k == 17 || k == 18 || k == 19 || k == 20 || k == 25 || k == 26 || k == 27 || k == 29 || k == 30 || k == 31 || k == 32 || k == 33 || k == 34 || k == 35 || k == 36 || k == 37 || k == 38 || k == 39 || k == 40
  | _ => false
/-- slots of a class -/
def mm_N (ci : Nat) : Nat := match ci with
  | 0 => 5
  | 1 => 3
  | 2 => 8
  | 3 => 4
  | 4 => 7
  | 5 => 2
  | 6 => 2
  | 7 => 4
  | 8 => 14
  | 9 => 41
  | _ => 0
def mm_fv (h : mm_H) (ci k a : Nat) : Value := if mm_ri ci k = true then va_rf (h_or h (64 * ci + k) a) else .int (h_oi h (64 * ci + k) a)
def mm_st (lo : mm_L) (i : Nat) (v : Value) : mm_L := (i, v) :: lo.filter (fun q => !(q.1 == i) && !(q.1 + 1 == i && q.2.category == 2))
def mm_st2 (lo : mm_L) (i : Nat) (v : Value) : mm_L := (i, v) :: lo.filter (fun q => !(q.1 == i) && (!(q.1 == i + 1) && !(q.1 + 1 == i && q.2.category == 2)))
def mm_lk : mm_L → Nat → Option Value
  | [], _ => none
  | q :: t, i => if q.1 == i then some q.2 else mm_lk t i
def mm_cl : List (Nat × mm_E) → Nat → Option mm_E
  | [], _ => none
  | q :: t, i => if q.1 == i then some q.2 else mm_cl t i
def mm_cz (c : ClassFile.Cond) (x : Int32) : Bool := match c with
  | .eq => decide (x = 0)
  | .ne => decide (¬ x = 0)
  | .lt => decide (x < 0)
  | .ge => decide (0 ≤ x)
  | .gt => decide (0 < x)
  | .le => decide (x ≤ 0)
def mm_c2 (c : ClassFile.Cond) (x y : Int32) : Bool := match c with
  | .eq => decide (x = y)
  | .ne => decide (¬ x = y)
  | .lt => decide (x < y)
  | .ge => decide (y ≤ x)
  | .gt => decide (y < x)
  | .le => decide (x ≤ y)
/-- constants, locals -/
def mm_X1 (nL : Nat) (e : mm_E) (pc : Nat) (lo : mm_L) (st : List Value) (h : mm_H) (s' : mm_S) : Prop := match e.1 with
  | .iconst n => s' = (pc + 1, lo, .int (Int32.ofInt n) :: st, h)
  | .bipush n => s' = (pc + 2, lo, .int (Int8.ofInt n).toInt32 :: st, h)
  | .sipush n => s' = (pc + 3, lo, .int (Int16.ofInt n).toInt32 :: st, h)
  | .lconst n => s' = (pc + 1, lo, .long (Int64.ofNat (n : Nat)) :: st, h)
  | .aconst_null => s' = (pc + 1, lo, .null :: st, h)
  | .ldc2_w _ => s' = (pc + 3, lo, .long (Int64.ofNat e.2.2.1) :: st, h)
  | .ldc _ => s' = (pc + 2, lo, .ref e.2.2.1 :: st, h)
  | .getstatic _ => s' = (pc + 3, lo, .ref e.2.2.1 :: st, h)
  | .iload_n k => ∃ x, mm_lk lo (k : Nat) = some (.int x) ∧ s' = (pc + 1, lo, .int x :: st, h)
  | .iload k => ∃ x, mm_lk lo k = some (.int x) ∧ s' = (pc + 2, lo, .int x :: st, h)
  | .lload_n k => ∃ x, mm_lk lo (k : Nat) = some (.long x) ∧ s' = (pc + 1, lo, .long x :: st, h)
  | .lload k => ∃ x, mm_lk lo k = some (.long x) ∧ s' = (pc + 2, lo, .long x :: st, h)
  | .aload_n k => ∃ r, mm_lk lo (k : Nat) = some (va_rf r) ∧ s' = (pc + 1, lo, va_rf r :: st, h)
  | .aload k => ∃ r, mm_lk lo k = some (va_rf r) ∧ s' = (pc + 2, lo, va_rf r :: st, h)
  | .istore_n k => ∃ x rest, st = .int x :: rest ∧ (k : Nat) < nL ∧ s' = (pc + 1, mm_st lo (k : Nat) (.int x), rest, h)
  | .istore k => ∃ x rest, st = .int x :: rest ∧ k < nL ∧ s' = (pc + 2, mm_st lo k (.int x), rest, h)
  | .lstore_n k => ∃ x rest, st = .long x :: rest ∧ (k : Nat) + 1 < nL ∧ s' = (pc + 1, mm_st2 lo (k : Nat) (.long x), rest, h)
  | .lstore k => ∃ x rest, st = .long x :: rest ∧ k + 1 < nL ∧ s' = (pc + 2, mm_st2 lo k (.long x), rest, h)
  | .astore_n k => ∃ r rest, st = va_rf r :: rest ∧ (k : Nat) < nL ∧ s' = (pc + 1, mm_st lo (k : Nat) (va_rf r), rest, h)
  | .astore k => ∃ r rest, st = va_rf r :: rest ∧ k < nL ∧ s' = (pc + 2, mm_st lo k (va_rf r), rest, h)
  | .iinc k n => ∃ x, mm_lk lo k = some (.int x) ∧ k < nL ∧ s' = (pc + 3, mm_st lo k (.int (x + Int32.ofInt n)), st, h)
  | _ => False
/-- arithmetic, the stack -/
def mm_X2 (e : mm_E) (pc : Nat) (lo : mm_L) (st : List Value) (h : mm_H) (s' : mm_S) : Prop := match e.1 with
  | .iadd => ∃ x y rest, st = .int y :: .int x :: rest ∧ s' = (pc + 1, lo, .int (x + y) :: rest, h)
  | .isub => ∃ x y rest, st = .int y :: .int x :: rest ∧ s' = (pc + 1, lo, .int (x - y) :: rest, h)
  | .imul => ∃ x y rest, st = .int y :: .int x :: rest ∧ s' = (pc + 1, lo, .int (x * y) :: rest, h)
  | .iand => ∃ x y rest, st = .int y :: .int x :: rest ∧ s' = (pc + 1, lo, .int (x &&& y) :: rest, h)
  | .ior => ∃ x y rest, st = .int y :: .int x :: rest ∧ s' = (pc + 1, lo, .int (x ||| y) :: rest, h)
  | .ixor => ∃ x y rest, st = .int y :: .int x :: rest ∧ s' = (pc + 1, lo, .int (x ^^^ y) :: rest, h)
  | .ishl => ∃ x y rest, st = .int y :: .int x :: rest ∧ s' = (pc + 1, lo, .int (x <<< (y &&& 31)) :: rest, h)
  | .ishr => ∃ x y rest, st = .int y :: .int x :: rest ∧ s' = (pc + 1, lo, .int (x >>> (y &&& 31)) :: rest, h)
  | .ladd => ∃ x y rest, st = .long y :: .long x :: rest ∧ s' = (pc + 1, lo, .long (x + y) :: rest, h)
  | .land => ∃ x y rest, st = .long y :: .long x :: rest ∧ s' = (pc + 1, lo, .long (x &&& y) :: rest, h)
  | .lor => ∃ x y rest, st = .long y :: .long x :: rest ∧ s' = (pc + 1, lo, .long (x ||| y) :: rest, h)
  | .lshl => ∃ (x : Int64) (y : Int32) (rest : List Value), st = .int y :: .long x :: rest ∧ s' = (pc + 1, lo, .long (x <<< (y.toInt64 &&& 63)) :: rest, h)
  | .lshr => ∃ (x : Int64) (y : Int32) (rest : List Value), st = .int y :: .long x :: rest ∧ s' = (pc + 1, lo, .long (x >>> (y.toInt64 &&& 63)) :: rest, h)
  | .lushr => ∃ (x : Int64) (y : Int32) (rest : List Value), st = .int y :: .long x :: rest ∧ s' = (pc + 1, lo, .long (x.toUInt64 >>> (y.toInt64.toUInt64 &&& Int64.toUInt64 63)).toInt64 :: rest, h)
  | .lcmp => ∃ x y rest, st = .long y :: .long x :: rest ∧ s' = (pc + 1, lo, .int (lg_cmp x y) :: rest, h)
  | .i2l => ∃ x rest, st = .int x :: rest ∧ s' = (pc + 1, lo, .long x.toInt64 :: rest, h)
  | .l2i => ∃ x rest, st = .long x :: rest ∧ s' = (pc + 1, lo, .int x.toInt32 :: rest, h)
  | .i2b => ∃ x rest, st = .int x :: rest ∧ s' = (pc + 1, lo, .int x.toInt8.toInt32 :: rest, h)
  | .dup => ∃ v rest, st = v :: rest ∧ v.category = 1 ∧ s' = (pc + 1, lo, v :: v :: rest, h)
  | .dup2 => ∃ v w rest, st = v :: w :: rest ∧ v.category = 1 ∧ w.category = 1 ∧ s' = (pc + 1, lo, v :: w :: v :: w :: rest, h)
  | .pop => ∃ v rest, st = v :: rest ∧ v.category = 1 ∧ s' = (pc + 1, lo, rest, h)
  | _ => False
/-- branches -/
def mm_X3 (e : mm_E) (pc : Nat) (lo : mm_L) (st : List Value) (h : mm_H) (s' : mm_S) : Prop := match e.1 with
  | .goto off => ∃ tgt : Nat, (pc : Int) + off = (tgt : Int) ∧ s' = (tgt, lo, st, h)
  | .ifCond c off => ∃ (tgt : Nat) (x : Int32) (rest : List Value), (pc : Int) + off = (tgt : Int) ∧ st = .int x :: rest ∧ s' = (if mm_cz c x = true then tgt else pc + 3, lo, rest, h)
  | .if_icmp c off => ∃ (tgt : Nat) (x y : Int32) (rest : List Value), (pc : Int) + off = (tgt : Int) ∧ st = .int y :: .int x :: rest ∧ s' = (if mm_c2 c x y = true then tgt else pc + 3, lo, rest, h)
  | .ifnull off => ∃ (tgt : Nat) (r : Option Nat) (rest : List Value), (pc : Int) + off = (tgt : Int) ∧ st = va_rf r :: rest ∧ s' = (if r = none then tgt else pc + 3, lo, rest, h)
  | .ifnonnull off => ∃ (tgt : Nat) (r : Option Nat) (rest : List Value), (pc : Int) + off = (tgt : Int) ∧ st = va_rf r :: rest ∧ s' = (if r = none then pc + 3 else tgt, lo, rest, h)
  | .tableswitch dflt low high offs => ∃ (tgt : Nat) (off : Int) (x : Int32) (rest : List Value), st = .int x :: rest ∧ (((x.toInt < low ∨ high < x.toInt) ∧ off = dflt) ∨ (¬ x.toInt < low ∧ ¬ high < x.toInt ∧ offs[(x.toInt - low).toNat]? = some off)) ∧ (pc : Int) + off = (tgt : Int) ∧ s' = (tgt, lo, rest, h)
  | _ => False
/-- the heap -/
def mm_X4 (e : mm_E) (pc : Nat) (lo : mm_L) (st : List Value) (h : mm_H) (s' : mm_S) : Prop := match e.1 with
  | .getfield _ => ∃ a rest, st = .ref a :: rest ∧ h_kd h a = e.2.2.1 + 1 ∧ s' = (pc + 3, lo, mm_fv h e.2.2.1 e.2.2.2 a :: rest, h)
  | .putfield _ => ∃ a rest, h_kd h a = e.2.2.1 + 1 ∧ 16 ≤ a ∧ ((∃ x, st = .int x :: .ref a :: rest ∧ mm_ri e.2.2.1 e.2.2.2 = false ∧ s' = (pc + 3, lo, rest, h_sI h (64 * e.2.2.1 + e.2.2.2) a x)) ∨ (∃ r, st = va_rf r :: .ref a :: rest ∧ mm_ri e.2.2.1 e.2.2.2 = true ∧ s' = (pc + 3, lo, rest, h_sR h (64 * e.2.2.1 + e.2.2.2) a r)))
  | .iaload => ∃ a i rest, st = .int i :: .ref a :: rest ∧ h_kd h a = 20 ∧ vp_in i (h_al h a) ∧ s' = (pc + 1, lo, .int (h_ai h a i.toNatClampNeg) :: rest, h)
  | .baload => ∃ a i rest, st = .int i :: .ref a :: rest ∧ (h_kd h a = 21 ∨ h_kd h a = 22) ∧ vp_in i (h_al h a) ∧ s' = (pc + 1, lo, .int (h_ai h a i.toNatClampNeg) :: rest, h)
  | .aaload => ∃ a i rest, st = .int i :: .ref a :: rest ∧ 23 ≤ h_kd h a ∧ h_kd h a ≤ 25 ∧ vp_in i (h_al h a) ∧ s' = (pc + 1, lo, va_rf (h_ar h a i.toNatClampNeg) :: rest, h)
  | .iastore => ∃ a i x rest, st = .int x :: .int i :: .ref a :: rest ∧ h_kd h a = 20 ∧ 16 ≤ a ∧ vp_in i (h_al h a) ∧ s' = (pc + 1, lo, rest, h_sA h a i.toNatClampNeg x)
  | .bastore => ∃ a i x rest, st = .int x :: .int i :: .ref a :: rest ∧ 16 ≤ a ∧ vp_in i (h_al h a) ∧ ((h_kd h a = 21 ∧ s' = (pc + 1, lo, rest, h_sA h a i.toNatClampNeg (vp_nar .byte x))) ∨ (h_kd h a = 22 ∧ s' = (pc + 1, lo, rest, h_sA h a i.toNatClampNeg (vp_nar .boolean x))))
  | .aastore => ∃ a i r rest, st = va_rf r :: .int i :: .ref a :: rest ∧ 16 ≤ a ∧ vp_in i (h_al h a) ∧ ((h_kd h a = 23 ∧ ∀ v, r = some v → h_kd h v = 1) ∨ (h_kd h a = 24 ∧ ∀ v, r = some v → h_kd h v = 6)) ∧ s' = (pc + 1, lo, rest, h_sQ h a i.toNatClampNeg r)
  | .arraylength => ∃ a rest, st = .ref a :: rest ∧ 20 ≤ h_kd h a ∧ h_kd h a ≤ 25 ∧ s' = (pc + 1, lo, .int (Int32.ofNat (h_al h a)) :: rest, h)
  | .new _ => s' = (pc + 3, lo, .ref (h_n h) :: st, h_nO h e.2.2.1 (mm_N e.2.2.1))
  | .newarray _ => ∃ (x : Int32) (rest : List Value), st = .int x :: rest ∧ ¬ x < 0 ∧ x.toNatClampNeg ≤ 100000000 ∧ s' = (pc + 2, lo, .ref (h_n h) :: rest, h_nA h e.2.2.1 x.toNatClampNeg)
  | .anewarray _ => ∃ (x : Int32) (rest : List Value), st = .int x :: rest ∧ ¬ x < 0 ∧ x.toNatClampNeg ≤ 100000000 ∧ s' = (pc + 3, lo, .ref (h_n h) :: rest, h_nA h e.2.2.1 x.toNatClampNeg)
  | .multianewarray _ _ => ∃ (x y : Int32) (rest : List Value), st = .int y :: .int x :: rest ∧ ¬ x < 0 ∧ ¬ y < 0 ∧ x.toNatClampNeg ≤ 100000000 ∧ y.toNatClampNeg ≤ 100000000 ∧ s' = (pc + 4, lo, .ref (h_n h) :: rest, h_nM h x.toNatClampNeg y.toNatClampNeg)
  | _ => False
def mm_X (nL : Nat) (e : mm_E) (pc : Nat) (lo : mm_L) (st : List Value) (h : mm_H) (s' : mm_S) : Prop := mm_X1 nL e pc lo st h s' ∨ mm_X2 e pc lo st h s' ∨ mm_X3 e pc lo st h s' ∨ mm_X4 e pc lo st h s'
/-- returns; a boolean method's answer is 0 or 1 -/
def mm_Z (e : mm_E) (st : List Value) (r : Option Value) : Prop := match e.1 with
  | .ireturn => ∃ x, st = [.int x] ∧ (e.2.2.1 = 0 ∨ x = 0 ∨ x = 1) ∧ r = some (.int x)
  | .return_ => st = [] ∧ r = none
  | .areturn => ∃ q, st = [va_rf q] ∧ r = some (va_rf q)
  | _ => False
/-- calls: the kind that the receiver must have, by the method -/
def mm_rc (y : Nat) : Nat := mm_rl.getD y 0
def mm_Y (e : mm_E) (st : List Value) (h : mm_H) (As rest : List Value) : Prop := (rest.map fun v => v.category).sum ≤ 8 ∧ match e.1 with
  | .invokestatic _ => st = As.reverse ++ rest ∧ As.length = e.2.2.2
  | .invokevirtual _ => ∃ b As', As = .ref b :: As' ∧ st = As'.reverse ++ .ref b :: rest ∧ As'.length = e.2.2.2 ∧ h_kd h b = mm_rc e.2.2.1 ∧ (mm_rc e.2.2.1 = 30 → b < 16)
  | .invokespecial _ => ∃ b As', As = .ref b :: As' ∧ st = As'.reverse ++ .ref b :: rest ∧ As'.length = e.2.2.2
  | _ => False
/-- Object's constructor; Math.max and Math.min of two ints -/
def mm_O (e : mm_E) (st st2 : List Value) : Prop := match e.1 with
  | .invokespecial _ => e.2.2.1 = 999 ∧ (st2.map fun v => v.category).sum ≤ 8 ∧ ∃ a, st = .ref a :: st2
  | .invokestatic _ => ∃ (x y : Int32) (rest : List Value), st = .int y :: .int x :: rest ∧ (rest.map fun v => v.category).sum ≤ 8 ∧ ((e.2.2.1 = 157 ∧ st2 = .int (if x < y then y else x) :: rest) ∨ (e.2.2.1 = 158 ∧ st2 = .int (if y < x then y else x) :: rest))
  | _ => False
/-- the texts' bytes -/
def mm_tx (a : Nat) : List Nat := match a with
  | 4 => [105, 115, 115, 117, 101]
  | 5 => [100, 111, 117, 98, 108, 101]
  | 6 => [101, 120, 112, 105, 114, 101]
  | 7 => [108, 97, 116, 101]
  | _ => [100, 101, 98, 116]
/-- the JDK's own: Arrays.copyOf (to another length), String.length, String.charAt -/
def mm_B (y : Nat) (As : List Value) (h : mm_H) (r : Option Value × mm_H) : Prop :=
  (y = 154 ∧ ∃ (a : Nat) (x : Int32), As = [.ref a, .int x] ∧ h_kd h a = 20 ∧ ¬ x < 0 ∧ x.toNatClampNeg ≤ 100000000 ∧ h_al h a < x.toNatClampNeg ∧ r.1 = some (.ref (h_n h)) ∧ r.2 = (va_up (h_kd h) (h_n h) 20, h_oi h, h_or h, va_up (h_al h) (h_n h) x.toNatClampNeg, va_up (h_ai h) (h_n h) (fun i => if i < h_al h a then h_ai h a i else 0), va_up (h_ar h) (h_n h) (fun _ => none), h_n h + 1, h_s h + x.toNatClampNeg)) ∨
  (y = 155 ∧ ∃ a : Nat, As = [.ref a] ∧ 4 ≤ a ∧ a ≤ 8 ∧ r.1 = some (.int (Int32.ofNat (mm_tx a).length)) ∧ r.2 = h) ∨
  (y = 156 ∧ ∃ (a : Nat) (x : Int32), As = [.ref a, .int x] ∧ 4 ≤ a ∧ a ≤ 8 ∧ vp_in x (mm_tx a).length ∧ r.1 = some (.int (Int32.ofNat ((mm_tx a).getD x.toNatClampNeg 0))) ∧ r.2 = h)
abbrev mm_M : Type := Nat × Nat × List (Nat × mm_E)
def mm_mt (y : Nat) : Option mm_M := mm_tab[y]?
def mm_R : Nat → Nat → mm_M → Nat → mm_L → List Value → mm_H → (Option Value × mm_H) → Prop
  | 0, _, _, _, _, _, _, _ => False
  | n + 1, d, M, pc, lo, st, h, r => ∃ e : mm_E, mm_cl M.2.2 pc = some e ∧ (
      (∃ s' : mm_S, mm_X M.2.1 e pc lo st h s' ∧ mm_R n d M s'.1 s'.2.1 s'.2.2.1 s'.2.2.2 r) ∨
      (mm_Z e st r.1 ∧ r.2 = h) ∨
      (∃ (d' : Nat) (As rest : List Value) (r1 : Option Value) (h1 : mm_H), d = d' + 1 ∧ mm_Y e st h As rest ∧
        ((∃ M', mm_mt e.2.2.1 = some M' ∧ (As.map fun v => v.category).sum ≤ M'.2.1 ∧ mm_R n d' M' 0 (lv_args 0 As) [] h (r1, h1)) ∨ (mm_mt e.2.2.1 = none ∧ 20 ≤ d' ∧ mm_B e.2.2.1 As h (r1, h1))) ∧
        mm_R n d M (pc + 3) lo (r1.toList ++ rest) h1 r) ∨
      (∃ (d' : Nat) (rest : List Value), d = d' + 1 ∧ mm_O e st rest ∧ mm_R n d M (pc + 3) lo rest h r))
end
section
/-! SOUNDNESS, 1: the small machine's words over the real one -/
abbrev ms_G : Type := (Nat → ClassId) × (Nat → Nat → Nat) × (Nat → ClassId) × Nat × (Nat → Nat) × (Nat → Nat) × (Nat → Nat) × (Nat → Nat → Int32)
abbrev g_dC (G : ms_G) : Nat → ClassId := G.1
abbrev g_dI (G : ms_G) : Nat → Nat → Nat := G.2.1
abbrev g_cA (G : ms_G) : Nat → ClassId := G.2.2.1
abbrev g_b (G : ms_G) : Nat := G.2.2.2.1
abbrev g_sp (G : ms_G) : Nat → Nat := G.2.2.2.2.1
abbrev g_sk (G : ms_G) : Nat → Nat := G.2.2.2.2.2.1
abbrev g_sl (G : ms_G) : Nat → Nat := G.2.2.2.2.2.2.1
abbrev g_sf (G : ms_G) : Nat → Nat → Int32 := G.2.2.2.2.2.2.2
def ms_tr (G : ms_G) (a : Nat) : Nat := if a < 16 then g_sp G a else g_b G + (a - 16)
def ms_vt (G : ms_G) (v : Value) : Value := match v with
  | .ref a => .ref (ms_tr G a)
  | .int x => .int x
  | .long x => .long x
  | .float x => .float x
  | .double x => .double x
  | .null => .null
  | .retAddr p => .retAddr p
theorem ms_vt_rf (G : ms_G) (r : Option Nat) : ms_vt G (va_rf r) = va_rf (r.map (ms_tr G)) := by cases r <;> rfl
theorem ms_vt_cat (G : ms_G) (v : Value) : (ms_vt G v).category = v.category := by cases v <;> rfl
def ms_lt (G : ms_G) (lo : mm_L) : mm_L := lo.map (fun q => (q.1, ms_vt G q.2))
theorem ms_lkm : ∀ {lo : mm_L} {i : Nat} {v : Value}, mm_lk lo i = some v → (i, v) ∈ lo
  | [], _, _, h => by cases h
  | q :: t, i, v, h => by
    unfold mm_lk at h
    by_cases e : (q.1 == i) = true
    · rw [if_pos e] at h
      have e1 : q.1 = i := eq_of_beq e
      have e2 : q.2 = v := Option.some.inj h
      subst e1; subst e2
      exact List.mem_cons_self
    · rw [if_neg e] at h
      exact List.mem_cons_of_mem _ (ms_lkm h)
theorem ms_in {G : ms_G} {lo : mm_L} {i : Nat} {v : Value} (h : mm_lk lo i = some v) : (i, ms_vt G v) ∈ ms_lt G lo := List.mem_map.mpr ⟨(i, v), ms_lkm h, rfl⟩
theorem ms_at {G : ms_G} {ls : Array Slot} {nL : Nat} {lo : mm_L} {i : Nat} {v : Value} (hl : lv_has ls nL (ms_lt G lo)) (h : mm_lk lo i = some v) : ls[i]? = some (.val (ms_vt G v)) := hl.2.2 (i, ms_vt G v) (ms_in h)
theorem ms_st_eq (G : ms_G) (lo : mm_L) (i : Nat) (v : Value) : (i, ms_vt G v) :: (ms_lt G lo).filter (fun q => !(q.1 == i) && !(q.1 + 1 == i && q.2.category == 2)) = ms_lt G (mm_st lo i v) := by
  unfold ms_lt mm_st
  rw [List.filter_map, List.map_cons]
  congr 2
  apply List.filter_congr
  intro q _
  simp only [Function.comp, ms_vt_cat]
theorem ms_st2_eq (G : ms_G) (lo : mm_L) (i : Nat) (v : Value) : (i, ms_vt G v) :: (ms_lt G lo).filter (fun q => !(q.1 == i) && (!(q.1 == i + 1) && !(q.1 + 1 == i && q.2.category == 2))) = ms_lt G (mm_st2 lo i v) := by
  unfold ms_lt mm_st2
  rw [List.filter_map, List.map_cons]
  congr 2
  apply List.filter_congr
  intro q _
  simp only [Function.comp, ms_vt_cat]
theorem ms_args (G : ms_G) : ∀ (As : List Value) (i : Nat), lv_args i (As.map (ms_vt G)) = ms_lt G (lv_args i As)
  | [], _ => rfl
  | v :: vs, i => by
    show (i, ms_vt G v) :: lv_args (if (ms_vt G v).category = 2 then i + 2 else i + 1) (vs.map (ms_vt G)) = (i, ms_vt G v) :: ms_lt G (lv_args (if v.category = 2 then i + 2 else i + 1) vs)
    rw [ms_vt_cat, ms_args G vs]
theorem ms_sum (G : ms_G) (st : List Value) : ((st.map (ms_vt G)).map fun v => v.category).sum = (st.map fun v => v.category).sum := by
  rw [List.map_map]
  congr 1
  apply List.map_congr_left
  intro v _
  exact ms_vt_cat G v
/-- element types of array kinds -/
def ms_ty (κ : Nat) : FieldType := match κ with
  | 20 => .int
  | 21 => .byte
  | 22 => .boolean
  | 23 => .object "SitterCircle$Family"
  | 24 => .object "SitterCircle$Row"
  | _ => .array .int
def ms_tys (G : ms_G) : List (ClassId × FieldType) := [(g_cA G 20, .int), (g_cA G 21, .byte), (g_cA G 22, .boolean), (g_cA G 23, .object "SitterCircle$Family"), (g_cA G 24, .object "SitterCircle$Row"), (g_cA G 25, .array .int)]
def ms_A (G : ms_G) : Nat → Prop := fun q => g_b G ≤ q
/-- the real heap holds the small one -/
def ms_P (G : ms_G) (h : mm_H) (H : Heap) : Prop :=
  H.size = g_b G + (h_n h - 16) ∧ 16 ≤ h_n h ∧ (∀ a, h_n h ≤ a → h_kd h a = 0) ∧
  (∀ a, a < 16 → h_kd h a = g_sk G a ∧ h_al h a = g_sl G a ∧ h_ai h a = g_sf G a) ∧
  (∀ a ci q, 16 ≤ a → h_kd h a = ci + 1 → vwCl[ci]? = some q → t_OB (ms_tr G a) (g_dC G ci) q.2.2 (g_dI G ci) H (fun k => ms_vt G (mm_fv h ci k a))) ∧
  (∀ a, 16 ≤ a → 20 ≤ h_kd h a → h_kd h a ≤ 22 → H[ms_tr G a]? = some (arrV (g_cA G (h_kd h a)) (h_al h a) (fun j => .int (h_ai h a j)))) ∧
  (∀ a, 16 ≤ a → 23 ≤ h_kd h a → h_kd h a ≤ 25 → H[ms_tr G a]? = some (arrV (g_cA G (h_kd h a)) (h_al h a) (fun j => ms_vt G (va_rf (h_ar h a j)))))
def ms_nw (w : Cond) : Bool := match w with
  | .fieldLinkNest .. => true
  | .methodLinkNest .. => true
  | _ => false
def ms_AA (U : State) : Prop := (Cond.arrayOver (.array .int)).before #[] U = true
theorem ms_AA.moved {u U : State} (hvm : u.vm.Alike U.vm) (h : ms_AA u) : ms_AA U := by
  obtain ⟨comp, c, k, h1, h2, h3, h4, h5⟩ := arrayOverA_spec h
  obtain ⟨k', hk', he⟩ := hvm.2.2 _ _ h3
  have hi : (U.vm.classes.findIdx? fun (x : Class) => match x.kind with | .array component _ => component == comp | _ => false) = some c := by
    have e1 := va_idx_bare U.vm comp
    have e2 := va_idx_bare u.vm comp
    have e3 : U.vm.bare = u.vm.bare := by first | exact hvm.bare_eq | exact hvm.bare_eq.symm
    rw [e3] at e1
    exact (e1.symm.trans e2).trans h2
  have hkind : k'.kind = .array comp (.array .int) := by rw [he]; exact h4
  have f1 : U.vm.findClass (FieldType.array .int).toString = some comp := by rw [hvm.findClass]; exact h1
  have f2 : U.vm.findClass ("[" ++ (FieldType.array .int).toString) = some c := by rw [hvm.findClass]; exact h5
  unfold ms_AA Cond.before Cond.holds
  simp only [Cond.value]
  rw [f1, Option.bind_some]
  refine (congrArg (fun o : Option Nat => (o.bind (fun c => (U.vm.classes[c]?).map fun (k : Class) => match k.kind with | .array _ ty => decide (ty = FieldType.array .int) && decide (U.vm.findClass ("[" ++ (FieldType.array .int).toString) = some c) | _ => false) == some true)) hi).trans ?_
  simp [hk', hkind, f2]
/-- the texts: places of the constants, their bytes -/
def ms_tb : List (List Int32) := [[105, 115, 115, 117, 101], [100, 111, 117, 98, 108, 101], [101, 120, 112, 105, 114, 101], [108, 97, 116, 101], [100, 101, 98, 116]]
def ms_tl : List (Nat × String) := [(93, "issue"), (95, "double"), (97, "expire"), (99, "late"), (101, "debt")]
def ms_T (G : ms_G) (U : State) : Prop := (∀ i q, ms_tl[i]? = some q → vk_R "SitterCircle$Reader" q.1 q.2 (g_sp G (4 + i)) U) ∧ (∃ adV, vk_S 5 [5, 6, 6, 4, 4] ms_tb (fun i => g_sp G (4 + i)) adV (ms_A G) U U.heap) ∧ va_Z "java/lang/String" "COMPACT_STRINGS" "Z" (.int 1) (ms_A G) U U.heap ∧ va_Zq "jdk/internal/util/Preconditions" "SIOOBE_FORMATTER" "Ljava/util/function/BiFunction;" (ms_A G) U U.heap
/-- what holds of the tables and of what was there before -/
def ms_F (G : ms_G) (U : State) : Prop :=
  va_K (g_dC G, g_dI G) vwCl (ms_tys G) U ∧ (∀ w ∈ lw_tbl, ms_nw w = true → va_Nw w U) ∧ va_AO "SitterCircle$Family" U ∧ va_AO "SitterCircle$Row" U ∧ ms_AA U ∧
  va_Z "SitterCircle$Reader" "LEAST" "[I" (.ref (g_sp G 1)) (ms_A G) U U.heap ∧ va_Z "SitterCircle$Reader" "MOST" "[I" (.ref (g_sp G 2)) (ms_A G) U U.heap ∧ va_Z "SitterCircle$Lawbook" "WITHOUT" "[I" (.ref (g_sp G 3)) (ms_A G) U U.heap ∧
  ms_T G U ∧ (∀ a, a < 16 → g_sp G a < g_b G ∧ (g_sk G a = 0 ∨ g_sk G a = 20 ∨ (g_sk G a = 30 ∧ 4 ≤ a ∧ a ≤ 8))) ∧ (∀ a, a < 16 → g_sk G a = 20 → va_T .int (g_sp G a) (g_sl G a) (fun j => .int (g_sf G a j)) (ms_A G) U U.heap) ∧ g_b G ≤ U.heap.size
theorem ms_F.to {G : ms_G} {s U : State} (h : ms_F G s) (hW : s.WarmedH U.vm) (hz : s.heap.size ≤ U.heap.size) (hq : ∀ q : Nat, q < s.heap.size → ¬ ms_A G q → U.heap[q]? = s.heap[q]?) : ms_F G U := by
  obtain ⟨h1, h2, h3, h4, h5, h6, h7, h8, ⟨t1, ⟨adV, t2⟩, t3, t4⟩, h10, h11, h12⟩ := h
  have ha := hW.alike
  refine ⟨va_K.moved ha h1, fun w hw hn => ?_, va_AO.moved ha h3, va_AO.moved ha h4, ms_AA.moved ha h5, (va_Z.moved ha h6).kept hq, (va_Z.moved ha h7).kept hq, (va_Z.moved ha h8).kept hq, ⟨fun i q hi => vk_R.warm hW (t1 i q hi), ⟨adV, (vk_S.moved ha t2).kept hq⟩, (va_Z.moved ha t3).kept hq, (va_Zq.moved ha t4).kept hq⟩, h10, fun a ha1 hk => (va_T.moved ha (h11 a ha1 hk)).kept hq, Nat.le_trans h12 hz⟩
  have h0 := h2 w hw hn
  cases w
  case fieldLinkNest a i b n d h => exact va_Nw.warmF hW h0
  case methodLinkNest a i x h => exact va_Nw.warmM hW h0
  all_goals exact absurd hn Bool.false_ne_true
/-- what a method's walk stands on -/
def ms_C (G : ms_G) (p : Program) (s : State) (m : MethodId) (args : Array Value) (c : Code) (cc : ByteArray) (nL : Nat) (own : String) : Prop :=
  p.tables.exec = Jvm.exec ∧ c.code = cc ∧ c.maxLocals = nL ∧ s.vm.findClass own = some m.cls ∧ (∀ w ∈ lw_tbl, goodWord w = true → w.before args s = true) ∧ ms_F G s
/-- the check of an entry -/
def ms_ln (i : ClassFile.Instr) (len : Nat) : Bool := match i with
  | .bipush _ => len == 2
  | .sipush _ => len == 3
  | .ldc2_w _ => len == 3
  | .ldc _ => len == 2
  | .getstatic _ => len == 3
  | .iload _ => len == 2
  | .lload _ => len == 2
  | .aload _ => len == 2
  | .istore _ => len == 2
  | .lstore _ => len == 2
  | .astore _ => len == 2
  | .iinc _ _ => len == 3
  | .goto _ => len == 3
  | .ifCond _ _ => len == 3
  | .if_icmp _ _ => len == 3
  | .ifnull _ => len == 3
  | .ifnonnull _ => len == 3
  | .tableswitch _ _ _ _ => true
  | .getfield _ => len == 3
  | .putfield _ => len == 3
  | .new _ => len == 3
  | .newarray _ => len == 2
  | .anewarray _ => len == 3
  | .multianewarray _ _ => len == 4
  | .invokevirtual _ => len == 3
  | .invokestatic _ => len == 3
  | .invokespecial _ => len == 3
  | _ => len == 1
def ms_gw (w : Cond) : Bool := decide (w ∈ lw_tbl) && goodWord w
def ms_hw (w : Cond) : Bool := decide (w ∈ lw_tbl) && ms_nw w
def ms_okF (own : String) (i ci k : Nat) : Bool := match vwCl[ci]? with
  | some q => decide (k < q.2.2) && (ms_gw (.fieldLink own i (q.2.1 k).1 (q.2.1 k).2.1 (q.2.1 k).2.2.1) || ms_hw (.fieldLinkNest own i (q.2.1 k).1 (q.2.1 k).2.1 (q.2.1 k).2.2.1 "SitterCircle"))
  | none => false
def ms_okP (own : String) (ini : Bool) (i ci k : Nat) : Bool := match vwCl[ci]? with
  | some q => decide (k < q.2.2) && ((ms_gw (.fieldLink own i (q.2.1 k).1 (q.2.1 k).2.1 (q.2.1 k).2.2.1) && (!(q.2.1 k).2.2.2 || (ini && decide ((q.2.1 k).1 = own)))) || (ms_hw (.fieldLinkNest own i (q.2.1 k).1 (q.2.1 k).2.1 (q.2.1 k).2.2.1 "SitterCircle") && !(q.2.1 k).2.2.2))
  | none => false
/-- methods: name, bytes, locals, answer -/
abbrev mm_I : Type := MethodName × ByteArray × Nat × Option FieldType
def mm_is : List mm_I := [(yX0_init, cX0_init, 1, none), (yX0_doesBar, cX0_doesBar, 2, (some .boolean)), (yX0_setBar, cX0_setBar, 3, none), (yX0_wouldOwe, cX0_wouldOwe, 2, (some .int)), (yX0_settle, cX0_settle, 2, (some .int)), (yX1_init, cX1_init, 1, none), (yX1_isFull, cX1_isFull, 1, (some .boolean)), (yX1_add, cX1_add, 4, (some .int)), (yX1_latestDay, cX1_latestDay, 1, (some .int)), (yX1_textOf, cX1_textOf, 4, (some .int)), (yX1_lawOf, cX1_lawOf, 5, (some .int)), (yX2_init, cX2_init, 1, none), (yX2_begin, cX2_begin, 3, none), (yX2_addFit, cX2_addFit, 3, none), (yX2_offerOf, cX2_offerOf, 2, (some .int)), (yX2_mostPairsOfAll, cX2_mostPairsOfAll, 1, (some .int)), (yX2_allOffers, cX2_allOffers, 1, (some .int)), (yX2_mostPairsFrom, cX2_mostPairsFrom, 5, (some .int)), (yX2_takeOne, cX2_takeOne, 6, (some .boolean)), (yX2_match, cX2_match, 4, none), (yX2_leastOffer, cX2_leastOffer, 7, (some .int)), (yX2_reach, cX2_reach, 2, none), (yX2_reachFurther, cX2_reachFurther, 2, none), (yX2_asksNotReached, cX2_asksNotReached, 1, (some .int)), (yX3_init, cX3_init, 1, none), (yX3_oldestDay, cX3_oldestDay, 1, (some .int)), (yX3_notesOfOldestDay, cX3_notesOfOldestDay, 1, (some .int)), (yX3_put, cX3_put, 4, none), (yX3_insertHeap, cX3_insertHeap, 5, none), (yX3_moveOldest, cX3_moveOldest, 8, (some .int)), (yX3_dropNewest, cX3_dropNewest, 5, none), (yX3_dropBefore, cX3_dropBefore, 5, (some .int)), (yX3_removeOldestHeaps, cX3_removeOldestHeaps, 3, none), (yX4_init, cX4_init, 1, none), (yX4_read, cX4_read, 4, none), (yX4_readLaw, cX4_readLaw, 3, none), (yX4_canStand, cX4_canStand, 2, (some .boolean)), (yX4_fail, cX4_fail, 2, none), (yX4_scan, cX4_scan, 2, none), (yX4_skipBlanks, cX4_skipBlanks, 2, none), (yX4_scanName, cX4_scanName, 3, none), (yX4_nameOf, cX4_nameOf, 1, (some (.object "java/lang/String"))), (yX4_scanNumber, cX4_scanNumber, 2, none), (yX5_init, cX5_init, 3, none), (yX5_has, cX5_has, 2, (some .boolean)), (yX5_at, cX5_at, 2, (some .int)), (yX5_write, cX5_write, 3, none), (yX6_init, cX6_init, 1, none), (yX6_append, cX6_append, 4, (some .boolean)), (yX6_at, cX6_at, 2, (some .int)), (yX6_isLetter, cX6_isLetter, 3, (some .boolean)), (yX6_isFigure, cX6_isFigure, 3, (some .boolean)), (yX6_spells, cX6_spells, 5, (some .boolean)), (yX7_init, cX7_init, 1, none), (yX7_has, cX7_has, 2, (some .boolean)), (yX7_familyOf, cX7_familyOf, 2, (some .int)), (yX7_fromOf, cX7_fromOf, 2, (some .int)), (yX7_toOf, cX7_toOf, 2, (some .int)), (yX7_add, cX7_add, 4, (some .boolean)), (yX7_remove, cX7_remove, 3, none), (yX7_areOf, cX7_areOf, 3, (some .boolean)), (yX8_init, cX8_init, 1, none), (yX8_feed, cX8_feed, 3, (some .int)), (yX8_end, cX8_end, 3, (some .int)), (yX8_vote, cX8_vote, 3, (some .int)), (yX8_fault, cX8_fault, 1, (some .int)), (yX8_unwind, cX8_unwind, 1, (some .int)), (yX8_rule, cX8_rule, 3, (some .int)), (yX8_go, cX8_go, 3, (some .int)), (yX8_join, cX8_join, 3, (some .int)), (yX8_leave, cX8_leave, 4, (some .int)), (yX8_bar, cX8_bar, 6, (some .int)), (yX8_told, cX8_told, 4, (some .int)), (yX8_ask, cX8_ask, 4, (some .int)), (yX8_offer, cX8_offer, 4, (some .int)), (yX8_price, cX8_price, 2, (some .int)), (yX8_fits, cX8_fits, 3, (some .int)), (yX8_met, cX8_met, 1, (some .int)), (yX8_sitter, cX8_sitter, 2, (some .int)), (yX8_why, cX8_why, 2, (some .int)), (yX8_would, cX8_would, 2, (some .int)), (yX8_broken, cX8_broken, 4, (some .int)), (yX8_evening, cX8_evening, 3, (some .int)), (yX8_sheet, cX8_sheet, 4, (some .int)), (yX8_lay, cX8_lay, 5, (some .int)), (yX8_offers, cX8_offers, 9, (some .int)), (yX8_count, cX8_count, 2, (some .int)), (yX8_familyAt, cX8_familyAt, 2, (some (.object "SitterCircle$Family"))), (yX8_expireNotes, cX8_expireNotes, 6, none), (yX8_familiesHere, cX8_familiesHere, 6, (some .int)), (yX8_sumTold, cX8_sumTold, 4, (some .int)), (yX8_addVisit, cX8_addVisit, 5, (some .int)), (yX8_priceOf, cX8_priceOf, 6, (some .int)), (yX8_areFitting, cX8_areFitting, 9, (some .boolean)), (yX8_lookForFits, cX8_lookForFits, 4, none), (yX8_mostPairs, cX8_mostPairs, 2, (some .int)), (yX8_findTheMatch, cX8_findTheMatch, 1, none), (yX8_hold, cX8_hold, 6, (some .boolean)), (yX8_pay, cX8_pay, 5, none), (yX8_isSheet, cX8_isSheet, 1, (some .boolean)), (yX8_isLane, cX8_isLane, 1, (some .boolean)), (yX8_offerFrom, cX8_offerFrom, 4, (some .int)), (yX9_init, cX9_init, 2, none), (yX9_in, cX9_in, 6, (some .boolean)), (yX9_feed, cX9_feed, 4, (some .int)), (yX9_end, cX9_end, 3, (some .int)), (yX9_fails, cX9_fails, 3, none), (yX9_look, cX9_look, 2, (some .int)), (yX9_isName, cX9_isName, 8, (some .boolean)), (yX9_nameNow, cX9_nameNow, 1, (some .int)), (yX9_next, cX9_next, 2, none), (yX9_readLaw, cX9_readLaw, 3, none), (yX9_vote, cX9_vote, 4, (some .int)), (yX9_fault, cX9_fault, 1, (some .int)), (yX9_unwind, cX9_unwind, 1, (some .int)), (yX9_textOf, cX9_textOf, 4, (some .int)), (yX9_law, cX9_law, 5, (some .int)), (yX9_rule, cX9_rule, 3, (some .int)), (yX9_isFamily, cX9_isFamily, 2, (some .boolean)), (yX9_expires, cX9_expires, 4, none), (yX9_go, cX9_go, 3, (some .int)), (yX9_has, cX9_has, 4, (some .int)), (yX9_join, cX9_join, 3, (some .int)), (yX9_leave, cX9_leave, 5, (some .int)), (yX9_bar, cX9_bar, 5, (some .int)), (yX9_oldest, cX9_oldest, 3, (some .int)), (yX9_told, cX9_told, 4, (some .int)), (yX9_may, cX9_may, 5, (some .boolean)), (yX9_pays, cX9_pays, 8, none), (yX9_isSpan, cX9_isSpan, 4, (some .boolean)), (yX9_ask, cX9_ask, 4, (some .int)), (yX9_offer, cX9_offer, 4, (some .int)), (yX9_priceOf, cX9_priceOf, 5, (some .int)), (yX9_price, cX9_price, 2, (some .int)), (yX9_isFit, cX9_isFit, 6, (some .boolean)), (yX9_fits, cX9_fits, 3, (some .int)), (yX9_findFits, cX9_findFits, 4, none), (yX9_grows, cX9_grows, 7, (some .boolean)), (yX9_change, cX9_change, 5, none), (yX9_most, cX9_most, 5, (some .int)), (yX9_matches, cX9_matches, 6, (some .int)), (yX9_met, cX9_met, 1, (some .int)), (yX9_sitter, cX9_sitter, 2, (some .int)), (yX9_why, cX9_why, 7, (some .int)), (yX9_would, cX9_would, 2, (some .int)), (yX9_broken, cX9_broken, 4, (some .int)), (yX9_evening, cX9_evening, 6, (some .int)), (yX9_isSheet, cX9_isSheet, 2, (some .boolean)), (yX9_sheet, cX9_sheet, 5, (some .int)), (yX9_lay, cX9_lay, 4, (some .int)), (yX9_offers, cX9_offers, 12, (some .int)), (yX9_count, cX9_count, 6, (some .int)), (yJ7_fill_53178, cJ7_fill_53178, 4, none), (yL_law, cL_law, 4, ret), (yJ7_copyOf_59c91, cJ7_copyOf_59c91, 3, (some (.array .int))), (yJ0_length_8abf5, cJ0_length_8abf5, 1, (some .int)), (yJ0_charAt_5068e, cJ0_charAt_5068e, 2, (some .char)), (yJ9_max_7cf53, cJ9_max_7cf53, 2, (some .int)), (yJ9_min_7cf53, cJ9_min_7cf53, 2, (some .int))]
end
section
def ms_okM (q : mm_I) : Bool := ms_gw (.code q.1 q.2.1 q.2.2.1 q.2.2.2) && ms_gw (.initialized q.1.cls) && plainName q.1.cls && decide (q.1.cls ≠ "java/lang/invoke/MethodHandle") && decide (q.1.cls ≠ "java/lang/invoke/VarHandle") && decide (q.2.2.1 ≤ 21)
def ms_okC (own : String) (i u v : Nat) (f : mm_I → Bool) : Bool := match mm_is[u]? with
  | some q => (ms_gw (.methodLink own i q.1) || ms_hw (.methodLinkNest own i q.1 "SitterCircle")) && decide ((parseMethodDescriptor q.1.desc).map (fun d => d.parameters.length) = some v) && f q
  | none => false
def ms_okN (own : String) (i ci : Nat) : Bool := match vwCl[ci]? with
  | some r => ms_gw (.classLink own i r.1) && ms_gw (.instantiable r.1 r.2.2) && ms_gw (.initialized r.1) && decide (mm_N ci = r.2.2)
  | none => false
def ms_ok (own : String) (ini : Bool) (cc : ByteArray) (q : Nat × mm_E) : Bool := decide (decode cc q.1 = .ok (q.2.1, q.2.2.1)) && ms_ln q.2.1 q.2.2.1 && match q.2.1 with
  | .getfield i => ms_okF own i q.2.2.2.1 q.2.2.2.2
  | .putfield i => ms_okP own ini i q.2.2.2.1 q.2.2.2.2
  | .ldc2_w i => ms_gw (.constantLong own i (Int64.ofNat q.2.2.2.1))
  | .ldc i => decide (own = "SitterCircle$Reader") && decide (((i, q.2.2.2.1) : Nat × Nat) ∈ [(93, 4), (95, 5), (97, 6), (99, 7), (101, 8)])
  | .getstatic i => (decide (q.2.2.2.1 = 1) && ms_gw (.fieldLink own i "SitterCircle$Reader" "LEAST" "[I")) || (decide (q.2.2.2.1 = 2) && ms_gw (.fieldLink own i "SitterCircle$Reader" "MOST" "[I")) || (decide (q.2.2.2.1 = 3) && ms_gw (.fieldLink own i "SitterCircle$Lawbook" "WITHOUT" "[I"))
  | .new i => ms_okN own i q.2.2.2.1
  | .newarray t => decide (newarray.typeOf t = ms_ty q.2.2.2.1) && decide (20 ≤ q.2.2.2.1) && decide (q.2.2.2.1 ≤ 22) && ms_gw (.arrayClass (newarray.typeOf t))
  | .anewarray i => (decide (q.2.2.2.1 = 23) && ms_gw (.classLink own i "SitterCircle$Family")) || (decide (q.2.2.2.1 = 24) && ms_gw (.classLink own i "SitterCircle$Row"))
  | .multianewarray i d => decide (d = 2) && ms_gw (.classLink own i ("[" ++ (FieldType.array .int).toString)) && ms_gw (.arrayClass .int)
  | .invokevirtual i => ms_okC own i q.2.2.2.1 q.2.2.2.2 (fun y => ms_gw (.instanceMethod y.1) && ms_gw (.selects y.1.cls y.1 y.1) && decide (((match vwCl[mm_rc q.2.2.2.1 - 1]? with | some r => r.1 | none => "java/lang/String") = y.1.cls)) && decide (1 ≤ mm_rc q.2.2.2.1) && decide (mm_rc q.2.2.2.1 ≤ 30) && (decide (mm_rc q.2.2.2.1 ≤ 10) || decide (mm_rc q.2.2.2.1 = 30)))
  | .invokestatic i => (decide (q.2.2.2.1 = 157) && ms_gw (.methodLink own i Lib.Math.max.name)) || (decide (q.2.2.2.1 = 158) && ms_gw (.methodLink own i Lib.Math.min.name)) || (decide (q.2.2.2.1 < 157) && ms_okC own i q.2.2.2.1 q.2.2.2.2 (fun y => ms_gw (.static y.1)))
  | .invokespecial i => (decide (q.2.2.2.1 = 999) && ms_gw (.methodLink own i Lib.objectInit) && ms_gw (.instanceMethod Lib.objectInit) && ms_gw (.code Lib.objectInit ⟨#[0xb1]⟩ 1 none)) || (decide (q.2.2.2.1 ≠ 999) && ms_okC own i q.2.2.2.1 q.2.2.2.2 (fun y => decide (y.1.name = "<init>") && ms_gw (.instanceMethod y.1) && decide (y.2.2.2 = none)))
  | _ => true
theorem ms_gw_of {w : Cond} (h : ms_gw w = true) : w ∈ lw_tbl ∧ goodWord w = true := by
  unfold ms_gw at h
  rw [Bool.and_eq_true] at h
  exact ⟨of_decide_eq_true h.1, h.2⟩
theorem ms_hw_of {w : Cond} (h : ms_hw w = true) : w ∈ lw_tbl ∧ ms_nw w = true := by
  unfold ms_hw at h
  rw [Bool.and_eq_true] at h
  exact ⟨of_decide_eq_true h.1, h.2⟩
theorem ms_ok_d {own : String} {ini : Bool} {cc : ByteArray} {pc : Nat} {e : mm_E} (h : ms_ok own ini cc (pc, e) = true) : decode cc pc = .ok (e.1, e.2.1) ∧ ms_ln e.1 e.2.1 = true := by
  unfold ms_ok at h
  rw [Bool.and_eq_true, Bool.and_eq_true] at h
  exact ⟨of_decide_eq_true h.1.1, h.1.2⟩
theorem ms_ok_r {own : String} {ini : Bool} {cc : ByteArray} {pc : Nat} {e : mm_E} (h : ms_ok own ini cc (pc, e) = true) {b : Bool} (hb : (ms_ok own ini cc (pc, e)) = (decide (decode cc pc = .ok (e.1, e.2.1)) && ms_ln e.1 e.2.1 && b)) : b = true := by
  rw [hb, Bool.and_eq_true] at h
  exact h.2
theorem ms_gd {G : ms_G} {p : Program} {s : State} {m : MethodId} {args : Array Value} {c : Code} {cc : ByteArray} {nL : Nat} {own : String} (C : ms_C G p s m args c cc nL own) {w : Cond} (h : ms_gw w = true) : w.before args s = true := C.2.2.2.2.1 w (ms_gw_of h).1 (ms_gw_of h).2
theorem ms_nd {G : ms_G} {p : Program} {s : State} {m : MethodId} {args : Array Value} {c : Code} {cc : ByteArray} {nL : Nat} {own : String} (C : ms_C G p s m args c cc nL own) {w : Cond} (h : ms_hw w = true) : va_Nw w s := C.2.2.2.2.2.2.1 w (ms_hw_of h).1 (ms_hw_of h).2
section MS1
variable {G : ms_G} {p : Program} {l : Launch} {e : Env} {R : Room} {s : State} {m : MethodId} {args : Array Value} {below : List Frame} {meth : Method} {c : Code} {H : Heap} {locs : List Loc} {cells slots : Nat} {Q : State → Prop} {cc : ByteArray} {nL pc : Nat} {own : String} {ini : Bool} {ls : Array Slot} {en : mm_E} {lo : mm_L} {st : List Value} {h : mm_H} {s' : mm_S}
set_option maxHeartbeats 4000000 in
theorem ms_s1 (C : ms_C G p s m args c cc nL own) (hok : ms_ok own ini cc (pc, en) = true) (hl : lv_has ls nL (ms_lt G lo)) (hS : va_S (ms_A G) s.heap H locs) (hX : mm_X1 nL en pc lo st h s') (kk : s'.2.2.2 = h → ∀ ls' : Array Slot, lv_has ls' nL (ms_lt G s'.2.1) → W p l e R s m args below meth c H locs cells slots Q (F0 m s'.1 ls' (s'.2.2.1.map (ms_vt G)))) : W p l e R s m args below meth c H locs cells slots Q (F0 m pc ls (st.map (ms_vt G))) := by
  obtain ⟨hx, hb, hml, hown, hts, hF⟩ := id C
  obtain ⟨i, len, u, v⟩ := en
  obtain ⟨hd, hlen⟩ := ms_ok_d hok
  cases i
  case iconst n =>
    obtain rfl : len = 1 := eq_of_beq hlen
    obtain rfl : s' = _ := hX
    exact lv_iconst hx hb hd rfl (kk rfl ls hl)
  case bipush n =>
    obtain rfl : len = 2 := eq_of_beq hlen
    obtain rfl : s' = _ := hX
    exact lv_bipush hx hb hd rfl (kk rfl ls hl)
  case sipush n =>
    obtain rfl : len = 3 := eq_of_beq hlen
    obtain rfl : s' = _ := hX
    exact lv_sipush hx hb hd rfl (kk rfl ls hl)
  case lconst n =>
    obtain rfl : len = 1 := eq_of_beq hlen
    obtain rfl : s' = _ := hX
    exact lv_lconst hx hb hd rfl (kk rfl ls hl)
  case aconst_null  =>
    obtain rfl : len = 1 := eq_of_beq hlen
    obtain rfl : s' = _ := hX
    exact lv_null hx hb hd (kk rfl ls hl)
  case ldc2_w k =>
    obtain rfl : len = 3 := eq_of_beq hlen
    obtain rfl : s' = _ := hX
    exact lv_ldc2 hx hb hown (ms_gd C (ms_ok_r hok rfl)) hd (kk rfl ls hl)
  case ldc k =>
    obtain rfl : len = 2 := eq_of_beq hlen
    obtain rfl : s' = _ := hX
    have h1 := ms_ok_r hok rfl
    rw [Bool.and_eq_true] at h1
    obtain ⟨h2, h3⟩ := h1
    have h2 : own = "SitterCircle$Reader" := of_decide_eq_true h2
    have h3 : ((k, u) : Nat × Nat) ∈ [(93, 4), (95, 5), (97, 6), (99, 7), (101, 8)] := of_decide_eq_true h3
    subst h2
    have hT := hF.2.2.2.2.2.2.2.2.1.1
    simp only [List.mem_cons, Prod.mk.injEq, List.not_mem_nil, or_false] at h3
    rcases h3 with ⟨rfl, rfl⟩ | ⟨rfl, rfl⟩ | ⟨rfl, rfl⟩ | ⟨rfl, rfl⟩ | ⟨rfl, rfl⟩
    · exact va_ldcS hx hb hown (hT 0 _ rfl) hd (kk rfl ls hl)
    · exact va_ldcS hx hb hown (hT 1 _ rfl) hd (kk rfl ls hl)
    · exact va_ldcS hx hb hown (hT 2 _ rfl) hd (kk rfl ls hl)
    · exact va_ldcS hx hb hown (hT 3 _ rfl) hd (kk rfl ls hl)
    · exact va_ldcS hx hb hown (hT 4 _ rfl) hd (kk rfl ls hl)
  case getstatic k =>
    obtain rfl : len = 3 := eq_of_beq hlen
    obtain rfl : s' = _ := hX
    have h1 := ms_ok_r hok rfl
    rw [Bool.or_eq_true, Bool.or_eq_true, Bool.and_eq_true, Bool.and_eq_true, Bool.and_eq_true] at h1
    rcases h1 with (⟨h2, h3⟩ | ⟨h2, h3⟩) | ⟨h2, h3⟩
    · obtain rfl : u = 1 := of_decide_eq_true h2
      exact va_gets hx hb hF.2.2.2.2.2.1 hS hown (ms_gd C h3) (fun _ q => q) hd (kk rfl ls hl)
    · obtain rfl : u = 2 := of_decide_eq_true h2
      exact va_gets hx hb hF.2.2.2.2.2.2.1 hS hown (ms_gd C h3) (fun _ q => q) hd (kk rfl ls hl)
    · obtain rfl : u = 3 := of_decide_eq_true h2
      exact va_gets hx hb hF.2.2.2.2.2.2.2.1 hS hown (ms_gd C h3) (fun _ q => q) hd (kk rfl ls hl)
  case iload_n k =>
    obtain rfl : len = 1 := eq_of_beq hlen
    obtain ⟨x, hk, rfl⟩ := hX
    exact lv_iload_n hx hb hd rfl (ms_at hl hk) (kk rfl ls hl)
  case iload k =>
    obtain rfl : len = 2 := eq_of_beq hlen
    obtain ⟨x, hk, rfl⟩ := hX
    exact lv_iload hx hb hd (ms_at hl hk) (kk rfl ls hl)
  case lload_n k =>
    obtain rfl : len = 1 := eq_of_beq hlen
    obtain ⟨x, hk, rfl⟩ := hX
    exact lv_lload_n hx hb hd rfl (ms_at hl hk) (kk rfl ls hl)
  case lload k =>
    obtain rfl : len = 2 := eq_of_beq hlen
    obtain ⟨x, hk, rfl⟩ := hX
    exact lv_lload hx hb hd (ms_at hl hk) (kk rfl ls hl)
  case aload_n k =>
    obtain rfl : len = 1 := eq_of_beq hlen
    obtain ⟨r, hk, rfl⟩ := hX
    cases r with
    | none => exact lv_aload_nN hx hb hd rfl (ms_at hl hk) (kk rfl ls hl)
    | some q => exact lv_aload_n hx hb hd rfl (ms_at hl hk) (kk rfl ls hl)
  case aload k =>
    obtain rfl : len = 2 := eq_of_beq hlen
    obtain ⟨r, hk, rfl⟩ := hX
    cases r with
    | none => exact lv_aloadN hx hb hd (ms_at hl hk) (kk rfl ls hl)
    | some q => exact lv_aload hx hb hd (ms_at hl hk) (kk rfl ls hl)
  case istore_n k =>
    obtain rfl : len = 1 := eq_of_beq hlen
    obtain ⟨x, rest, rfl, hk, rfl⟩ := hX
    exact lv_istore_n (x := x) (rest := rest.map (ms_vt G)) hx hb hd rfl hl hk (ms_st_eq G lo _ (.int x)) (fun ls2 hl2 => kk rfl ls2 hl2)
  case istore k =>
    obtain rfl : len = 2 := eq_of_beq hlen
    obtain ⟨x, rest, rfl, hk, rfl⟩ := hX
    exact lv_istore (x := x) (rest := rest.map (ms_vt G)) hx hb hd hl hk (ms_st_eq G lo _ (.int x)) (fun ls2 hl2 => kk rfl ls2 hl2)
  case lstore_n k =>
    obtain rfl : len = 1 := eq_of_beq hlen
    obtain ⟨x, rest, rfl, hk, rfl⟩ := hX
    exact lv_lstore_n (x := x) (rest := rest.map (ms_vt G)) hx hb hd rfl hl hk (ms_st2_eq G lo _ (.long x)) (fun ls2 hl2 => kk rfl ls2 hl2)
  case lstore k =>
    obtain rfl : len = 2 := eq_of_beq hlen
    obtain ⟨x, rest, rfl, hk, rfl⟩ := hX
    exact lv_lstore (x := x) (rest := rest.map (ms_vt G)) hx hb hd hl hk (ms_st2_eq G lo _ (.long x)) (fun ls2 hl2 => kk rfl ls2 hl2)
  case astore_n k =>
    obtain rfl : len = 1 := eq_of_beq hlen
    obtain ⟨r, rest, rfl, hk, rfl⟩ := hX
    cases r with
    | none => exact lv_astore_nN (rest := rest.map (ms_vt G)) hx hb hd rfl hl hk (ms_st_eq G lo _ .null) (fun ls2 hl2 => kk rfl ls2 hl2)
    | some q => exact lv_astore_n (x := ms_tr G q) (rest := rest.map (ms_vt G)) hx hb hd rfl hl hk (ms_st_eq G lo _ (.ref q)) (fun ls2 hl2 => kk rfl ls2 hl2)
  case astore k =>
    obtain rfl : len = 2 := eq_of_beq hlen
    obtain ⟨r, rest, rfl, hk, rfl⟩ := hX
    cases r with
    | none => exact lv_astoreN (rest := rest.map (ms_vt G)) hx hb hd hl hk (ms_st_eq G lo _ .null) (fun ls2 hl2 => kk rfl ls2 hl2)
    | some q => exact lv_astore (x := ms_tr G q) (rest := rest.map (ms_vt G)) hx hb hd hl hk (ms_st_eq G lo _ (.ref q)) (fun ls2 hl2 => kk rfl ls2 hl2)
  case iinc k n =>
    obtain rfl : len = 3 := eq_of_beq hlen
    obtain ⟨x, hk, hn, rfl⟩ := hX
    obtain ⟨j, hj⟩ := List.getElem?_of_mem (ms_in (G := G) hk)
    exact lv_iinc (x := x) hx hb hd hl hj rfl hn (ms_st_eq G lo _ (.int _)) (fun ls2 hl2 => kk rfl ls2 hl2)
  all_goals exact False.elim hX
set_option maxHeartbeats 4000000 in
theorem ms_s2 (C : ms_C G p s m args c cc nL own) (hok : ms_ok own ini cc (pc, en) = true) (hl : lv_has ls nL (ms_lt G lo)) (hS : va_S (ms_A G) s.heap H locs) (hX : mm_X2 en pc lo st h s') (kk : s'.2.2.2 = h → ∀ ls' : Array Slot, lv_has ls' nL (ms_lt G s'.2.1) → W p l e R s m args below meth c H locs cells slots Q (F0 m s'.1 ls' (s'.2.2.1.map (ms_vt G)))) : W p l e R s m args below meth c H locs cells slots Q (F0 m pc ls (st.map (ms_vt G))) := by
  obtain ⟨hx, hb, hml, hown, hts, hF⟩ := id C
  obtain ⟨i, len, u, v⟩ := en
  obtain ⟨hd, hlen⟩ := ms_ok_d hok
  cases i
  case iadd  =>
    obtain rfl : len = 1 := eq_of_beq hlen
    obtain ⟨x, y, rest, rfl, rfl⟩ := hX
    exact lv_iadd (x := x) (y := y) (rest := rest.map (ms_vt G)) hx hb hd (kk rfl ls hl)
  case isub  =>
    obtain rfl : len = 1 := eq_of_beq hlen
    obtain ⟨x, y, rest, rfl, rfl⟩ := hX
    exact lv_isub (x := x) (y := y) (rest := rest.map (ms_vt G)) hx hb hd (kk rfl ls hl)
  case imul  =>
    obtain rfl : len = 1 := eq_of_beq hlen
    obtain ⟨x, y, rest, rfl, rfl⟩ := hX
    exact lv_imul (x := x) (y := y) (rest := rest.map (ms_vt G)) hx hb hd (kk rfl ls hl)
  case iand  =>
    obtain rfl : len = 1 := eq_of_beq hlen
    obtain ⟨x, y, rest, rfl, rfl⟩ := hX
    exact lv_iand (x := x) (y := y) (rest := rest.map (ms_vt G)) hx hb hd (kk rfl ls hl)
  case ior  =>
    obtain rfl : len = 1 := eq_of_beq hlen
    obtain ⟨x, y, rest, rfl, rfl⟩ := hX
    exact lv_ior (x := x) (y := y) (rest := rest.map (ms_vt G)) hx hb hd (kk rfl ls hl)
  case ixor  =>
    obtain rfl : len = 1 := eq_of_beq hlen
    obtain ⟨x, y, rest, rfl, rfl⟩ := hX
    exact lv_ixor (x := x) (y := y) (rest := rest.map (ms_vt G)) hx hb hd (kk rfl ls hl)
  case ishl  =>
    obtain rfl : len = 1 := eq_of_beq hlen
    obtain ⟨x, y, rest, rfl, rfl⟩ := hX
    exact lv_ishl (x := x) (y := y) (rest := rest.map (ms_vt G)) hx hb hd (kk rfl ls hl)
  case ishr  =>
    obtain rfl : len = 1 := eq_of_beq hlen
    obtain ⟨x, y, rest, rfl, rfl⟩ := hX
    exact lv_ishr (x := x) (y := y) (rest := rest.map (ms_vt G)) hx hb hd (kk rfl ls hl)
  case ladd  =>
    obtain rfl : len = 1 := eq_of_beq hlen
    obtain ⟨x, y, rest, rfl, rfl⟩ := hX
    exact lv_ladd (x := x) (y := y) (rest := rest.map (ms_vt G)) hx hb hd (kk rfl ls hl)
  case land  =>
    obtain rfl : len = 1 := eq_of_beq hlen
    obtain ⟨x, y, rest, rfl, rfl⟩ := hX
    exact lv_land (x := x) (y := y) (rest := rest.map (ms_vt G)) hx hb hd (kk rfl ls hl)
  case lor  =>
    obtain rfl : len = 1 := eq_of_beq hlen
    obtain ⟨x, y, rest, rfl, rfl⟩ := hX
    exact lv_lor (x := x) (y := y) (rest := rest.map (ms_vt G)) hx hb hd (kk rfl ls hl)
  case lshl  =>
    obtain rfl : len = 1 := eq_of_beq hlen
    obtain ⟨x, y, rest, rfl, rfl⟩ := hX
    exact lv_lshl (x := x) (y := y) (rest := rest.map (ms_vt G)) hx hb hd rfl (kk rfl ls hl)
  case lshr  =>
    obtain rfl : len = 1 := eq_of_beq hlen
    obtain ⟨x, y, rest, rfl, rfl⟩ := hX
    exact lv_lshr (x := x) (y := y) (rest := rest.map (ms_vt G)) hx hb hd rfl (kk rfl ls hl)
  case lushr  =>
    obtain rfl : len = 1 := eq_of_beq hlen
    obtain ⟨x, y, rest, rfl, rfl⟩ := hX
    exact lv_lushr (x := x) (y := y) (rest := rest.map (ms_vt G)) hx hb hd rfl (kk rfl ls hl)
  case lcmp  =>
    obtain rfl : len = 1 := eq_of_beq hlen
    obtain ⟨x, y, rest, rfl, rfl⟩ := hX
    exact W.lcmp (x := x) (y := y) (rest := rest.map (ms_vt G)) hx hb hd (kk rfl ls hl)
  case i2l  =>
    obtain rfl : len = 1 := eq_of_beq hlen
    obtain ⟨x, rest, rfl, rfl⟩ := hX
    exact lv_i2l (x := x) (rest := rest.map (ms_vt G)) hx hb hd rfl (kk rfl ls hl)
  case l2i  =>
    obtain rfl : len = 1 := eq_of_beq hlen
    obtain ⟨x, rest, rfl, rfl⟩ := hX
    exact lv_l2i (x := x) (rest := rest.map (ms_vt G)) hx hb hd rfl (kk rfl ls hl)
  case i2b  =>
    obtain rfl : len = 1 := eq_of_beq hlen
    obtain ⟨x, rest, rfl, rfl⟩ := hX
    exact lv_i2b (x := x) (rest := rest.map (ms_vt G)) hx hb hd rfl (kk rfl ls hl)
  case dup  =>
    obtain rfl : len = 1 := eq_of_beq hlen
    obtain ⟨w, rest, rfl, hw, rfl⟩ := hX
    exact lv_dup (va := ms_vt G w) (rest := rest.map (ms_vt G)) hx hb hd (by rw [ms_vt_cat]; exact hw) (kk rfl ls hl)
  case pop  =>
    obtain rfl : len = 1 := eq_of_beq hlen
    obtain ⟨w, rest, rfl, hw, rfl⟩ := hX
    exact lv_pop (va := ms_vt G w) (rest := rest.map (ms_vt G)) hx hb hd (by rw [ms_vt_cat]; exact hw) (kk rfl ls hl)
  case dup2  =>
    obtain rfl : len = 1 := eq_of_beq hlen
    obtain ⟨w, w2, rest, rfl, hw, hw2, rfl⟩ := hX
    exact lv_dup2_11 (va := ms_vt G w) (vb := ms_vt G w2) (rest := rest.map (ms_vt G)) hx hb hd (by rw [ms_vt_cat]; exact hw) (by rw [ms_vt_cat]; exact hw2) (kk rfl ls hl)
  all_goals exact False.elim hX
set_option maxHeartbeats 4000000 in
theorem ms_s3 (C : ms_C G p s m args c cc nL own) (hok : ms_ok own ini cc (pc, en) = true) (hl : lv_has ls nL (ms_lt G lo)) (hS : va_S (ms_A G) s.heap H locs) (hX : mm_X3 en pc lo st h s') (kk : s'.2.2.2 = h → ∀ ls' : Array Slot, lv_has ls' nL (ms_lt G s'.2.1) → W p l e R s m args below meth c H locs cells slots Q (F0 m s'.1 ls' (s'.2.2.1.map (ms_vt G)))) : W p l e R s m args below meth c H locs cells slots Q (F0 m pc ls (st.map (ms_vt G))) := by
  obtain ⟨hx, hb, hml, hown, hts, hF⟩ := id C
  obtain ⟨i, len, u, v⟩ := en
  obtain ⟨hd, hlen⟩ := ms_ok_d hok
  cases i
  case goto off =>
    obtain rfl : len = 3 := eq_of_beq hlen
    obtain ⟨tgt, ht, rfl⟩ := hX
    exact lv_goto hx hb hd ht (kk rfl ls hl)
  case ifCond cd off =>
    obtain rfl : len = 3 := eq_of_beq hlen
    obtain ⟨tgt, x, rest, ht, rfl, rfl⟩ := hX
    have kk := kk rfl ls hl
    cases cd
    case eq =>
      refine lv_if_eq (x := x) (rest := rest.map (ms_vt G)) hx hb hd ht (fun q => ?_) (fun q => ?_)
      · have q : mm_cz .eq x = true := decide_eq_true (p := x = 0) q
        rw [if_pos q] at kk
        exact kk
      · have q : ¬ mm_cz .eq x = true := fun z => absurd (of_decide_eq_true (p := x = 0) z) q
        rw [if_neg q] at kk
        exact kk
    case ne =>
      refine lv_if_ne (x := x) (rest := rest.map (ms_vt G)) hx hb hd ht (fun q => ?_) (fun q => ?_)
      · have q : mm_cz .ne x = true := decide_eq_true (p := ¬ x = 0) q
        rw [if_pos q] at kk
        exact kk
      · have q : ¬ mm_cz .ne x = true := fun z => (of_decide_eq_true (p := ¬ x = 0) z) q
        rw [if_neg q] at kk
        exact kk
    case lt =>
      refine lv_if_lt (x := x) (rest := rest.map (ms_vt G)) hx hb hd ht (fun q => ?_) (fun q => ?_)
      · have q : mm_cz .lt x = true := decide_eq_true (p := x < 0) q
        rw [if_pos q] at kk
        exact kk
      · have q : ¬ mm_cz .lt x = true := fun z => absurd (of_decide_eq_true (p := x < 0) z) q
        rw [if_neg q] at kk
        exact kk
    case ge =>
      refine lv_if_ge (x := x) (rest := rest.map (ms_vt G)) hx hb hd ht (fun q => ?_) (fun q => ?_)
      · have q : mm_cz .ge x = true := decide_eq_true (p := 0 ≤ x) q
        rw [if_pos q] at kk
        exact kk
      · have q : ¬ mm_cz .ge x = true := fun z => absurd (of_decide_eq_true (p := 0 ≤ x) z) q
        rw [if_neg q] at kk
        exact kk
    case gt =>
      refine lv_if_gt (x := x) (rest := rest.map (ms_vt G)) hx hb hd ht (fun q => ?_) (fun q => ?_)
      · have q : mm_cz .gt x = true := decide_eq_true (p := 0 < x) q
        rw [if_pos q] at kk
        exact kk
      · have q : ¬ mm_cz .gt x = true := fun z => absurd (of_decide_eq_true (p := 0 < x) z) q
        rw [if_neg q] at kk
        exact kk
    case le =>
      refine lv_if_le (x := x) (rest := rest.map (ms_vt G)) hx hb hd ht (fun q => ?_) (fun q => ?_)
      · have q : mm_cz .le x = true := decide_eq_true (p := x ≤ 0) q
        rw [if_pos q] at kk
        exact kk
      · have q : ¬ mm_cz .le x = true := fun z => absurd (of_decide_eq_true (p := x ≤ 0) z) q
        rw [if_neg q] at kk
        exact kk
  case if_icmp cd off =>
    obtain rfl : len = 3 := eq_of_beq hlen
    obtain ⟨tgt, x, y, rest, ht, rfl, rfl⟩ := hX
    have kk := kk rfl ls hl
    cases cd
    case eq =>
      refine lv_icmp_eq (x := x) (y := y) (rest := rest.map (ms_vt G)) hx hb hd ht (fun q => ?_) (fun q => ?_)
      · have q : mm_c2 .eq x y = true := decide_eq_true (p := x = y) q
        rw [if_pos q] at kk
        exact kk
      · have q : ¬ mm_c2 .eq x y = true := fun z => absurd (of_decide_eq_true (p := x = y) z) q
        rw [if_neg q] at kk
        exact kk
    case ne =>
      refine lv_icmp_ne (x := x) (y := y) (rest := rest.map (ms_vt G)) hx hb hd ht (fun q => ?_) (fun q => ?_)
      · have q : mm_c2 .ne x y = true := decide_eq_true (p := ¬ x = y) q
        rw [if_pos q] at kk
        exact kk
      · have q : ¬ mm_c2 .ne x y = true := fun z => (of_decide_eq_true (p := ¬ x = y) z) q
        rw [if_neg q] at kk
        exact kk
    case lt =>
      refine lv_icmp_lt (x := x) (y := y) (rest := rest.map (ms_vt G)) hx hb hd ht (fun q => ?_) (fun q => ?_)
      · have q : mm_c2 .lt x y = true := decide_eq_true (p := x < y) q
        rw [if_pos q] at kk
        exact kk
      · have q : ¬ mm_c2 .lt x y = true := fun z => absurd (of_decide_eq_true (p := x < y) z) q
        rw [if_neg q] at kk
        exact kk
    case ge =>
      refine lv_icmp_ge (x := x) (y := y) (rest := rest.map (ms_vt G)) hx hb hd ht (fun q => ?_) (fun q => ?_)
      · have q : mm_c2 .ge x y = true := decide_eq_true (p := y ≤ x) q
        rw [if_pos q] at kk
        exact kk
      · have q : ¬ mm_c2 .ge x y = true := fun z => absurd (of_decide_eq_true (p := y ≤ x) z) q
        rw [if_neg q] at kk
        exact kk
    case gt =>
      refine lv_icmp_gt (x := x) (y := y) (rest := rest.map (ms_vt G)) hx hb hd ht (fun q => ?_) (fun q => ?_)
      · have q : mm_c2 .gt x y = true := decide_eq_true (p := y < x) q
        rw [if_pos q] at kk
        exact kk
      · have q : ¬ mm_c2 .gt x y = true := fun z => absurd (of_decide_eq_true (p := y < x) z) q
        rw [if_neg q] at kk
        exact kk
    case le =>
      refine lv_icmp_le (x := x) (y := y) (rest := rest.map (ms_vt G)) hx hb hd ht (fun q => ?_) (fun q => ?_)
      · have q : mm_c2 .le x y = true := decide_eq_true (p := x ≤ y) q
        rw [if_pos q] at kk
        exact kk
      · have q : ¬ mm_c2 .le x y = true := fun z => absurd (of_decide_eq_true (p := x ≤ y) z) q
        rw [if_neg q] at kk
        exact kk
  case ifnull off =>
    obtain rfl : len = 3 := eq_of_beq hlen
    obtain ⟨tgt, r, rest, ht, rfl, rfl⟩ := hX
    have kk := kk rfl ls hl
    cases r with
    | none => exact lv_ifnullN (rest := rest.map (ms_vt G)) hx hb hd ht kk
    | some q => exact lv_ifnull (x := ms_tr G q) (rest := rest.map (ms_vt G)) hx hb hd kk
  case ifnonnull off =>
    obtain rfl : len = 3 := eq_of_beq hlen
    obtain ⟨tgt, r, rest, ht, rfl, rfl⟩ := hX
    have kk := kk rfl ls hl
    cases r with
    | none => exact lv_ifnonnullN (rest := rest.map (ms_vt G)) hx hb hd kk
    | some q => exact lv_ifnonnull (x := ms_tr G q) (rest := rest.map (ms_vt G)) hx hb hd ht kk
  case tableswitch dflt low high offs =>
    obtain ⟨tgt, off, x, rest, rfl, ho, ht, rfl⟩ := hX
    have kk := kk rfl ls hl
    rcases ho with ⟨h1, rfl⟩ | ⟨h1, h2, h3⟩
    · exact lv_tableOut (x := x) (rest := rest.map (ms_vt G)) hx hb hd h1 ht kk
    · exact lv_tableIn (x := x) (rest := rest.map (ms_vt G)) hx hb hd h1 h2 h3 ht kk
  all_goals exact False.elim hX
end MS1
end
section
/-! SOUNDNESS, 2: the heap -/
def ms_fty (ci : Nat) : Nat → FieldType := match ci with
  | 0 => tyX0
  | 1 => tyX1
  | 2 => tyX2
  | 3 => tyX3
  | 4 => tyX4
  | 5 => tyX5
  | 6 => tyX6
  | 7 => tyX7
  | 8 => tyX8
  | _ => tyX9
theorem ms_cl {P : Nat → vw_C → Prop} (h0 : P 0 (RX0, TX0, 5)) (h1 : P 1 (RX1, TX1, 3)) (h2 : P 2 (RX2, TX2, 8)) (h3 : P 3 (RX3, TX3, 4)) (h4 : P 4 (RX4, TX4, 7)) (h5 : P 5 (RX5, TX5, 2)) (h6 : P 6 (RX6, TX6, 2)) (h7 : P 7 (RX7, TX7, 4)) (h8 : P 8 (RX8, TX8, 14)) (h9 : P 9 (RX9, TX9, 41)) : ∀ (ci : Nat) (q : vw_C), vwCl[ci]? = some q → P ci q := by
  intro ci q hq
  match ci, hq with
  | 0, hq => cases hq; exact h0
  | 1, hq => cases hq; exact h1
  | 2, hq => cases hq; exact h2
  | 3, hq => cases hq; exact h3
  | 4, hq => cases hq; exact h4
  | 5, hq => cases hq; exact h5
  | 6, hq => cases hq; exact h6
  | 7, hq => cases hq; exact h7
  | 8, hq => cases hq; exact h8
  | 9, hq => cases hq; exact h9
  | ci + 10, hq => simp [vwCl] at hq
def ms_TS : List Cond := lw_tbl.filter goodWord
theorem ms_lay : ∀ (ci : Nat) (q : vw_C), vwCl[ci]? = some q → ∀ w ∈ u_ws q.1 q.2.1 q.2.2, w ∈ ms_TS := by
  have key : ∀ (ws : List Cond), ws.all ms_gw = true → ∀ w ∈ ws, w ∈ ms_TS := fun ws h w hw => by
    have h1 := ms_gw_of (List.all_eq_true.mp h w hw)
    exact List.mem_filter.mpr h1
  exact ms_cl (P := fun ci q => ∀ w ∈ u_ws q.1 q.2.1 q.2.2, w ∈ ms_TS) (key _ (by decide +kernel)) (key _ (by decide +kernel)) (key _ (by decide +kernel)) (key _ (by decide +kernel)) (key _ (by decide +kernel)) (key _ (by decide +kernel)) (key _ (by decide +kernel)) (key _ (by decide +kernel)) (key _ (by decide +kernel)) (key _ (by decide +kernel))
theorem ms_tyok : ∀ (ci : Nat) (q : vw_C), vwCl[ci]? = some q → ∀ k, k < q.2.2 → parseFieldDescriptor (q.2.1 k).2.2.1 = some (ms_fty ci k) := ms_cl (P := fun ci q => ∀ k, k < q.2.2 → parseFieldDescriptor (q.2.1 k).2.2.1 = some (ms_fty ci k)) tyX0_ok tyX1_ok tyX2_ok tyX3_ok tyX4_ok tyX5_ok tyX6_ok tyX7_ok tyX8_ok tyX9_ok
theorem ms_nmok : ∀ (ci : Nat) (q : vw_C), vwCl[ci]? = some q → ∀ a, a < q.2.2 → ∀ b, b < q.2.2 → a ≠ b → (q.2.1 a).2.1 ≠ (q.2.1 b).2.1 := ms_cl (P := fun ci q => ∀ a, a < q.2.2 → ∀ b, b < q.2.2 → a ≠ b → (q.2.1 a).2.1 ≠ (q.2.1 b).2.1) nmX0 nmX1 nmX2 nmX3 nmX4 nmX5 nmX6 nmX7 nmX8 nmX9
theorem ms_riok : ∀ (ci : Nat) (q : vw_C), vwCl[ci]? = some q → ∀ k, k < q.2.2 → (if mm_ri ci k = true then (defaultValue (ms_fty ci k) = .null ∧ (ms_fty ci k).isReference = true) else ms_fty ci k = .int) := ms_cl (P := fun ci q => ∀ k, k < q.2.2 → (if mm_ri ci k = true then (defaultValue (ms_fty ci k) = .null ∧ (ms_fty ci k).isReference = true) else ms_fty ci k = .int)) (by decide +kernel) (by decide +kernel) (by decide +kernel) (by decide +kernel) (by decide +kernel) (by decide +kernel) (by decide +kernel) (by decide +kernel) (by decide +kernel) (by decide +kernel)
theorem ms_N : ∀ (ci : Nat) (q : vw_C), vwCl[ci]? = some q → ci < 10 := ms_cl (P := fun ci _ => ci < 10) (by decide) (by decide) (by decide) (by decide) (by decide) (by decide) (by decide) (by decide) (by decide) (by decide)
theorem ms_hts {G : ms_G} {p : Program} {s : State} {m : MethodId} {args : Array Value} {c : Code} {cc : ByteArray} {nL : Nat} {own : String} (C : ms_C G p s m args c cc nL own) : ∀ w ∈ ms_TS, w.before args s = true := fun w hw => C.2.2.2.2.1 w (List.mem_filter.mp hw).1 (List.mem_filter.mp hw).2
def ms_sp (G : ms_G) : Prop := ∀ a, a < 16 → g_sp G a < g_b G
theorem ms_tr_hi {G : ms_G} {a : Nat} (h : 16 ≤ a) : ms_tr G a = g_b G + (a - 16) := if_neg (by omega)
theorem ms_tr_A {G : ms_G} {a : Nat} (h : 16 ≤ a) : ms_A G (ms_tr G a) := by rw [ms_tr_hi h]; exact Nat.le_add_right _ _
theorem ms_ne {G : ms_G} (hsp : ms_sp G) {a b : Nat} (hb : 16 ≤ b) (hne : a ≠ b) : ms_tr G a ≠ ms_tr G b := by
  rw [ms_tr_hi hb]
  by_cases h : a < 16
  · have := hsp a h
    unfold ms_tr
    rw [if_pos h]
    omega
  · rw [ms_tr_hi (by omega)]
    omega
theorem ms_lt_n {G : ms_G} {h : mm_H} {H : Heap} (hP : ms_P G h H) {a : Nat} (hk : h_kd h a ≠ 0) : a < h_n h := by
  rcases Nat.lt_or_ge a (h_n h) with q | q
  · exact q
  · exact absurd (hP.2.2.1 a q) hk
theorem ms_tr_lt {G : ms_G} (hsp : ms_sp G) {h : mm_H} {H : Heap} (hP : ms_P G h H) {a : Nat} (ha : a < h_n h) : ms_tr G a < H.size := by
  rw [hP.1]
  by_cases q : a < 16
  · have := hsp a q
    unfold ms_tr
    rw [if_pos q]
    omega
  · rw [ms_tr_hi (by omega)]
    have := hP.2.1
    omega
theorem ms_tr_n {G : ms_G} {h : mm_H} {H : Heap} (hP : ms_P G h H) : ms_tr G (h_n h) = H.size := by rw [ms_tr_hi hP.2.1, hP.1]
/-- an object is never among the given -/
theorem ms_obj_hi {G : ms_G} {U : State} (hF : ms_F G U) {h : mm_H} {H : Heap} (hP : ms_P G h H) {a ci : Nat} {q : vw_C} (hk : h_kd h a = ci + 1) (hc : vwCl[ci]? = some q) : 16 ≤ a := by
  rcases Nat.lt_or_ge a 16 with z | z
  · have h1 := (hP.2.2.2.1 a z).1
    have h2 := (hF.2.2.2.2.2.2.2.2.2.1 a z).2
    have h3 := ms_N ci q hc
    omega
  · exact z
def ms_fs (G : ms_G) (h : mm_H) (ci N a : Nat) : List Value := (List.range N).map (fun k => ms_vt G (mm_fv h ci k a))
theorem ms_fs_V {G : ms_G} {h : mm_H} {ci N a k : Nat} (hk : k < N) : vp_V (ms_fs G h ci N a) k = ms_vt G (mm_fv h ci k a) := by
  unfold vp_V ms_fs
  simp [hk]
theorem ms_one {G : ms_G} {h : mm_H} {H : Heap} (hP : ms_P G h H) {a ci : Nat} {q : vw_C} (ha : 16 ≤ a) (hk : h_kd h a = ci + 1) (hc : vwCl[ci]? = some q) : va_P (g_dC G, g_dI G) vwCl [(ms_tr G a, .inr (ci, ms_fs G h ci q.2.2 a))] H := by
  intro k x hx
  match k, hx with
  | 0, hx =>
    cases hx
    exact ⟨q, hc, (hP.2.2.2.2.1 a ci q ha hk hc).to (fun k hk => (ms_fs_V hk).symm)⟩
  | k + 1, hx => simp at hx
theorem ms_fv_up {h : mm_H} {g a0 : Nat} {v : Int32} {ci k a : Nat} (hne : a ≠ a0) : mm_fv (h_sI h g a0 v) ci k a = mm_fv h ci k a := by
  show (if mm_ri ci k = true then va_rf (h_or h (64 * ci + k) a) else .int (va_up (h_oi h) g (va_up (h_oi h g) a0 v) (64 * ci + k) a)) = (if mm_ri ci k = true then va_rf (h_or h (64 * ci + k) a) else .int (h_oi h (64 * ci + k) a))
  by_cases e : 64 * ci + k = g
  · subst e; rw [va_up_self, va_up_ne _ _ hne]
  · rw [va_up_ne _ _ e]
theorem ms_fv_upR {h : mm_H} {g a0 : Nat} {v : Option Nat} {ci k a : Nat} (hne : a ≠ a0) : mm_fv (h_sR h g a0 v) ci k a = mm_fv h ci k a := by
  show (if mm_ri ci k = true then va_rf (va_up (h_or h) g (va_up (h_or h g) a0 v) (64 * ci + k) a) else .int (h_oi h (64 * ci + k) a)) = (if mm_ri ci k = true then va_rf (h_or h (64 * ci + k) a) else .int (h_oi h (64 * ci + k) a))
  by_cases e : 64 * ci + k = g
  · subst e; rw [va_up_self, va_up_ne _ _ hne]
  · rw [va_up_ne _ _ e]
theorem ms_P.put {G : ms_G} (hsp : ms_sp G) {h h' : mm_H} {H H' : Heap} (hP : ms_P G h H) {a0 ci : Nat} {q : vw_C} (ha : 16 ≤ a0) (hk : h_kd h a0 = ci + 1) (hc : vwCl[ci]? = some q) (hz : H'.size = H.size) (ho : ∀ x : Nat, x ≠ ms_tr G a0 → H'[x]? = H[x]?)
    (e1 : h_kd h' = h_kd h) (e2 : h_al h' = h_al h) (e3 : h_ai h' = h_ai h) (e4 : h_ar h' = h_ar h) (e5 : h_n h' = h_n h) (hf : ∀ c k a, a ≠ a0 → mm_fv h' c k a = mm_fv h c k a)
    (hob : t_OB (ms_tr G a0) (g_dC G ci) q.2.2 (g_dI G ci) H' (fun k => ms_vt G (mm_fv h' ci k a0))) : ms_P G h' H' := by
  obtain ⟨p1, p2, p3, p4, p5, p6, p7⟩ := hP
  unfold ms_P
  rw [e1, e2, e3, e4, e5]
  refine ⟨by rw [hz]; exact p1, p2, p3, p4, fun a c r h1 h2 h3 => ?_, fun a h1 h2 h3 => ?_, fun a h1 h2 h3 => ?_⟩
  · by_cases e : a = a0
    · subst e
      have : c = ci := by omega
      subst this
      cases hc.symm.trans h3
      exact hob
    · refine ((p5 a c r h1 h2 h3).kept (ho _ (ms_ne hsp ha e))).to (fun k _ => ?_)
      rw [hf c k a e]
  · have e : a ≠ a0 := fun z => by
      subst z
      have := ms_N ci q hc
      omega
    rw [ho _ (ms_ne hsp ha e)]
    exact p6 a h1 h2 h3
  · have e : a ≠ a0 := fun z => by
      subst z
      have := ms_N ci q hc
      omega
    rw [ho _ (ms_ne hsp ha e)]
    exact p7 a h1 h2 h3
theorem ms_P.sA {G : ms_G} (hsp : ms_sp G) {h : mm_H} {H H' : Heap} (hP : ms_P G h H) {a0 i : Nat} {v : Int32} (ha : 16 ≤ a0) (hk1 : 20 ≤ h_kd h a0) (hk2 : h_kd h a0 ≤ 22) (hz : H'.size = H.size) (ho : ∀ x : Nat, x ≠ ms_tr G a0 → H'[x]? = H[x]?)
    (hcell : H'[ms_tr G a0]? = some (arrV (g_cA G (h_kd h a0)) (h_al h a0) (fun j => .int (va_up (h_ai h a0) i v j)))) : ms_P G (h_sA h a0 i v) H' := by
  obtain ⟨p1, p2, p3, p4, p5, p6, p7⟩ := hP
  refine ⟨by rw [hz]; exact p1, p2, p3, fun a h1 => ?_, fun a c r h1 h2 h3 => ?_, fun a h1 h2 h3 => ?_, fun a h1 h2 h3 => ?_⟩
  · refine ⟨(p4 a h1).1, (p4 a h1).2.1, ?_⟩
    show va_up (h_ai h) a0 _ a = _
    rw [va_up_ne _ _ (show a ≠ a0 by omega)]
    exact (p4 a h1).2.2
  · have e : a ≠ a0 := fun z => by
      subst z
      have h2 : h_kd h a = c + 1 := h2
      have := ms_N c r h3
      omega
    exact (p5 a c r h1 h2 h3).kept (ho _ (ms_ne hsp ha e))
  · by_cases e : a = a0
    · subst e
      show _ = some (arrV _ _ (fun j => .int (va_up (h_ai h) a (va_up (h_ai h a) i v) a j)))
      rw [va_up_self]
      exact hcell
    · show _ = some (arrV _ _ (fun j => .int (va_up (h_ai h) a0 (va_up (h_ai h a0) i v) a j)))
      rw [va_up_ne _ _ e, ho _ (ms_ne hsp ha e)]
      exact p6 a h1 h2 h3
  · have e : a ≠ a0 := fun z => by
      subst z
      have h2 : 23 ≤ h_kd h a := h2
      omega
    rw [ho _ (ms_ne hsp ha e)]
    exact p7 a h1 h2 h3
theorem ms_P.sQ {G : ms_G} (hsp : ms_sp G) {h : mm_H} {H H' : Heap} (hP : ms_P G h H) {a0 i : Nat} {v : Option Nat} (ha : 16 ≤ a0) (hk1 : 23 ≤ h_kd h a0) (hk2 : h_kd h a0 ≤ 25) (hz : H'.size = H.size) (ho : ∀ x : Nat, x ≠ ms_tr G a0 → H'[x]? = H[x]?)
    (hcell : H'[ms_tr G a0]? = some (arrV (g_cA G (h_kd h a0)) (h_al h a0) (fun j => ms_vt G (va_rf (va_up (h_ar h a0) i v j))))) : ms_P G (h_sQ h a0 i v) H' := by
  obtain ⟨p1, p2, p3, p4, p5, p6, p7⟩ := hP
  refine ⟨by rw [hz]; exact p1, p2, p3, p4, fun a c r h1 h2 h3 => ?_, fun a h1 h2 h3 => ?_, fun a h1 h2 h3 => ?_⟩
  · have e : a ≠ a0 := fun z => by
      subst z
      have h2 : h_kd h a = c + 1 := h2
      have := ms_N c r h3
      omega
    exact (p5 a c r h1 h2 h3).kept (ho _ (ms_ne hsp ha e))
  · have e : a ≠ a0 := fun z => by
      subst z
      have h3 : h_kd h a ≤ 22 := h3
      omega
    rw [ho _ (ms_ne hsp ha e)]
    exact p6 a h1 h2 h3
  · by_cases e : a = a0
    · subst e
      show _ = some (arrV _ _ (fun j => ms_vt G (va_rf (va_up (h_ar h) a (va_up (h_ar h a) i v) a j))))
      rw [va_up_self]
      exact hcell
    · show _ = some (arrV _ _ (fun j => ms_vt G (va_rf (va_up (h_ar h) a0 (va_up (h_ar h a0) i v) a j))))
      rw [va_up_ne _ _ e, ho _ (ms_ne hsp ha e)]
      exact p7 a h1 h2 h3
theorem ms_P.nO {G : ms_G} (hsp : ms_sp G) {h : mm_H} {H H' : Heap} (hP : ms_P G h H) {ci N : Nat} {q : vw_C} (hc : vwCl[ci]? = some q) (hz : H'.size = H.size + 1) (ho : ∀ x : Nat, x < H.size → H'[x]? = H[x]?)
    (hob : t_OB H.size (g_dC G ci) q.2.2 (g_dI G ci) H' (fun k => if mm_ri ci k = true then .null else .int 0)) : ms_P G (h_nO h ci N) H' := by
  have hl := fun a ha => ms_tr_lt (a := a) hsp hP ha
  have hn := ms_tr_n hP
  have hk0 := fun a => ms_lt_n (a := a) hP
  obtain ⟨p1, p2, p3, p4, p5, p6, p7⟩ := hP
  have kdn : ∀ a, a ≠ h_n h → h_kd (h_nO h ci N) a = h_kd h a := fun a e => va_up_ne _ _ e
  have kds : h_kd (h_nO h ci N) (h_n h) = ci + 1 := va_up_self _ _ _
  have h10 := ms_N ci q hc
  refine ⟨?_, Nat.le_succ_of_le p2, fun a h1 => ?_, fun a h1 => ?_, fun a c r h1 h2 h3 => ?_, fun a h1 h2 h3 => ?_, fun a h1 h2 h3 => ?_⟩
  · show H'.size = _ + (h_n h + 1 - 16)
    omega
  · have h1 : h_n h + 1 ≤ a := h1
    rw [kdn a (by omega)]
    exact p3 a (by omega)
  · rw [kdn a (by omega)]
    exact p4 a h1
  · by_cases e : a = h_n h
    · subst e
      rw [kds] at h2
      have : c = ci := by omega
      subst this
      cases hc.symm.trans h3
      rw [hn]
      refine hob.to (fun k _ => ?_)
      show _ = ms_vt G (if mm_ri c k = true then va_rf (va_up (h_or h (64 * c + k)) (h_n h) none (h_n h)) else .int (va_up (h_oi h (64 * c + k)) (h_n h) 0 (h_n h)))
      rw [va_up_self, va_up_self]
      split <;> rfl
    · rw [kdn a e] at h2
      have hlt := hk0 a (by omega)
      refine ((p5 a c r h1 h2 h3).kept (ho _ (hl a hlt))).to (fun k _ => ?_)
      show ms_vt G (mm_fv h c k a) = ms_vt G (if mm_ri c k = true then va_rf (va_up (h_or h (64 * c + k)) (h_n h) none a) else .int (va_up (h_oi h (64 * c + k)) (h_n h) 0 a))
      rw [va_up_ne _ _ e, va_up_ne _ _ e]
      rfl
  · have e : a ≠ h_n h := fun z => by
      subst z
      rw [kds] at h2
      omega
    rw [kdn a e] at h2 h3 ⊢
    rw [ho _ (hl a (hk0 a (by omega)))]
    exact p6 a h1 h2 h3
  · have e : a ≠ h_n h := fun z => by
      subst z
      rw [kds] at h2
      omega
    rw [kdn a e] at h2 h3 ⊢
    rw [ho _ (hl a (hk0 a (by omega)))]
    exact p7 a h1 h2 h3
/-- a new array, its cells f (ints) or all null -/
theorem ms_P.nA {G : ms_G} (hsp : ms_sp G) {h h' : mm_H} {H H' : Heap} (hP : ms_P G h H) {κ N : Nat} {f : Nat → Int32} (hκ : 20 ≤ κ ∧ κ ≤ 25) (hz : H'.size = H.size + 1) (ho : ∀ x : Nat, x < H.size → H'[x]? = H[x]?)
    (eh : h' = (va_up (h_kd h) (h_n h) κ, h_oi h, h_or h, va_up (h_al h) (h_n h) N, va_up (h_ai h) (h_n h) f, va_up (h_ar h) (h_n h) (fun _ => none), h_n h + 1, h_s h + N))
    (hcell : H'[H.size]? = some (arrV (g_cA G κ) N (fun j => if κ ≤ 22 then .int (f j) else .null))) : ms_P G h' H' := by
  have hl := fun a ha => ms_tr_lt (a := a) hsp hP ha
  have hn := ms_tr_n hP
  have hk0 := fun a => ms_lt_n (a := a) hP
  obtain ⟨p1, p2, p3, p4, p5, p6, p7⟩ := hP
  have kdn : ∀ a, a ≠ h_n h → h_kd h' a = h_kd h a := fun a e => by rw [eh]; exact va_up_ne _ _ e
  have aln : ∀ a, a ≠ h_n h → h_al h' a = h_al h a := fun a e => by rw [eh]; exact va_up_ne _ _ e
  have ain : ∀ a, a ≠ h_n h → h_ai h' a = h_ai h a := fun a e => by rw [eh]; exact va_up_ne _ _ e
  have arn : ∀ a, a ≠ h_n h → h_ar h' a = h_ar h a := fun a e => by rw [eh]; exact va_up_ne _ _ e
  have kds : h_kd h' (h_n h) = κ := by rw [eh]; exact va_up_self _ _ _
  have als : h_al h' (h_n h) = N := by rw [eh]; exact va_up_self _ _ _
  have ais : h_ai h' (h_n h) = f := by rw [eh]; exact va_up_self _ _ _
  have ars : h_ar h' (h_n h) = fun _ => none := by rw [eh]; exact va_up_self _ _ _
  have ens : h_n h' = h_n h + 1 := by rw [eh]
  have efv : ∀ c k a, mm_fv h' c k a = mm_fv h c k a := fun c k a => by rw [eh]; rfl
  refine ⟨?_, by rw [ens]; exact Nat.le_succ_of_le p2, fun a h1 => ?_, fun a h1 => ?_, fun a c r h1 h2 h3 => ?_, fun a h1 h2 h3 => ?_, fun a h1 h2 h3 => ?_⟩
  · rw [ens]
    omega
  · rw [ens] at h1
    rw [kdn a (by omega)]
    exact p3 a (by omega)
  · rw [kdn a (by omega), aln a (by omega), ain a (by omega)]
    exact p4 a h1
  · have e : a ≠ h_n h := fun z => by
      subst z
      rw [kds] at h2
      have := ms_N c r h3
      omega
    rw [kdn a e] at h2
    refine ((p5 a c r h1 h2 h3).kept (ho _ (hl a (hk0 a (by omega))))).to (fun k _ => ?_)
    rw [efv]
  · by_cases e : a = h_n h
    · subst e
      rw [kds] at h3
      rw [kds, als, ais, hn, hcell]
      congr 2
      funext j
      rw [if_pos h3]
    · rw [kdn a e] at h2 h3 ⊢
      rw [aln a e, ain a e, ho _ (hl a (hk0 a (by omega)))]
      exact p6 a h1 h2 h3
  · by_cases e : a = h_n h
    · subst e
      rw [kds] at h2
      rw [kds, als, ars, hn, hcell]
      congr 2
      funext j
      rw [if_neg (by omega)]
      rfl
    · rw [kdn a e] at h2 h3 ⊢
      rw [aln a e, arn a e, ho _ (hl a (hk0 a (by omega)))]
      exact p7 a h1 h2 h3
end
section
theorem ms_nref {ty : FieldType} (h : ty.isReference = true) (r : Option Nat) : narrow ty (va_rf r) = va_rf r ∧ fits ty (va_rf r) = true := by
  cases ty <;> first | (cases h; done) | (cases r <;> exact ⟨rfl, rfl⟩)
theorem ms_nint (x : Int32) : narrow .int (.int x) = .int x ∧ fits .int (.int x) = true := ⟨vp_nar_int x, rfl⟩
theorem ms_outer (c : ClassId) (N h0 : Nat) : ∀ i : Nat, Jvm.Free.Multi.outerC c N h0 i = arrV c N (fun j => va_rf (if j < i then some (h0 + 1 + j) else none))
  | 0 => by
    show ({ cls := c, slots := Array.replicate N .null, vm := .none } : Cell) = _
    rw [arrV_new]
    refine congrArg (arrV c N) (funext fun j => ?_)
    simp [va_rf]
  | i + 1 => by
    show (Jvm.Free.Multi.outerC c N h0 i).setSlot i (.ref (h0 + 1 + i)) = _
    rw [ms_outer c N h0 i, arrV_store]
    refine congrArg (arrV c N) (funext fun j => ?_)
    by_cases e : j = i
    · subst e
      simp [updV, va_rf]
    · by_cases h : j < i
      · simp [updV, e, h, Nat.lt_succ_of_lt h]
      · simp [updV, e, h, show ¬ j < i + 1 by omega]
theorem ms_P.nM {G : ms_G} (hsp : ms_sp G) {h : mm_H} {H H' : Heap} (hP : ms_P G h H) {N K : Nat} (hz : H'.size = H.size + 1 + N) (ho : ∀ x : Nat, x < H.size → H'[x]? = H[x]?)
    (hout : H'[H.size]? = some (arrV (g_cA G 25) N (fun j => va_rf (if j < N then some (H.size + 1 + j) else none)))) (hrow : ∀ j : Nat, j < N → H'[H.size + 1 + j]? = some (arrV (g_cA G 20) K (fun _ => .int 0))) : ms_P G (h_nM h N K) H' := by
  have hl := fun a ha => ms_tr_lt (a := a) hsp hP ha
  have hn := ms_tr_n hP
  have hk0 := fun a => ms_lt_n (a := a) hP
  obtain ⟨p1, p2, p3, p4, p5, p6, p7⟩ := hP
  have kdn : ∀ a, ¬ (h_n h ≤ a ∧ a ≤ h_n h + N) → h_kd (h_nM h N K) a = h_kd h a := fun a e => by
    show (if a = h_n h then 25 else if h_n h < a ∧ a ≤ h_n h + N then 20 else h_kd h a) = _
    rw [if_neg (by omega), if_neg (by omega)]
  have aln : ∀ a, ¬ (h_n h ≤ a ∧ a ≤ h_n h + N) → h_al (h_nM h N K) a = h_al h a := fun a e => by
    show (if a = h_n h then N else if h_n h < a ∧ a ≤ h_n h + N then K else h_al h a) = _
    rw [if_neg (by omega), if_neg (by omega)]
  have ain : ∀ a, ¬ (h_n h < a ∧ a ≤ h_n h + N) → h_ai (h_nM h N K) a = h_ai h a := fun a e => by
    show (if h_n h < a ∧ a ≤ h_n h + N then (fun _ => 0) else h_ai h a) = _
    rw [if_neg e]
  have arn : ∀ a, a ≠ h_n h → h_ar (h_nM h N K) a = h_ar h a := fun a e => va_up_ne _ _ e
  have kds : h_kd (h_nM h N K) (h_n h) = 25 := if_pos rfl
  have kdi : ∀ a, h_n h < a → a ≤ h_n h + N → h_kd (h_nM h N K) a = 20 := fun a e1 e2 => by
    show (if a = h_n h then 25 else if h_n h < a ∧ a ≤ h_n h + N then 20 else h_kd h a) = _
    rw [if_neg (by omega), if_pos ⟨e1, e2⟩]
  have als : h_al (h_nM h N K) (h_n h) = N := if_pos rfl
  have ali : ∀ a, h_n h < a → a ≤ h_n h + N → h_al (h_nM h N K) a = K := fun a e1 e2 => by
    show (if a = h_n h then N else if h_n h < a ∧ a ≤ h_n h + N then K else h_al h a) = _
    rw [if_neg (by omega), if_pos ⟨e1, e2⟩]
  have aii : ∀ a, h_n h < a → a ≤ h_n h + N → h_ai (h_nM h N K) a = fun _ => 0 := fun a e1 e2 => if_pos ⟨e1, e2⟩
  have ars : h_ar (h_nM h N K) (h_n h) = fun i => if i < N then some (h_n h + 1 + i) else none := va_up_self _ _ _
  refine ⟨?_, ?_, fun a h1 => ?_, fun a h1 => ?_, fun a c r h1 h2 h3 => ?_, fun a h1 h2 h3 => ?_, fun a h1 h2 h3 => ?_⟩
  · show H'.size = _ + (h_n h + 1 + N - 16)
    omega
  · show 16 ≤ h_n h + 1 + N
    omega
  · have h1 : h_n h + 1 + N ≤ a := h1
    rw [kdn a (by omega)]
    exact p3 a (by omega)
  · rw [kdn a (by omega), aln a (by omega), ain a (by omega)]
    exact p4 a h1
  · have h10 := ms_N c r h3
    have e : ¬ (h_n h ≤ a ∧ a ≤ h_n h + N) := fun z => by
      by_cases z1 : a = h_n h
      · subst z1
        rw [kds] at h2
        omega
      · rw [kdi a (by omega) z.2] at h2
        omega
    rw [kdn a e] at h2
    exact (p5 a c r h1 h2 h3).kept (ho _ (hl a (hk0 a (by omega))))
  · by_cases e : h_n h < a ∧ a ≤ h_n h + N
    · rw [kdi a e.1 e.2, ali a e.1 e.2, aii a e.1 e.2, ms_tr_hi h1, show g_b G + (a - 16) = H.size + 1 + (a - h_n h - 1) by omega]
      exact hrow _ (by omega)
    · have e1 : a ≠ h_n h := fun z => by
        subst z
        rw [kds] at h3
        omega
      have e2 : ¬ (h_n h ≤ a ∧ a ≤ h_n h + N) := by omega
      rw [kdn a e2] at h2 h3 ⊢
      rw [aln a e2, ain a e, ho _ (hl a (hk0 a (by omega)))]
      exact p6 a h1 h2 h3
  · by_cases e : a = h_n h
    · subst e
      rw [kds, als, ars, hn, hout]
      congr 2
      funext j
      rw [ms_vt_rf]
      congr 1
      dsimp only
      by_cases z : j < N
      · rw [if_pos z, if_pos z]
        show some _ = some (ms_tr G (h_n h + 1 + j))
        rw [ms_tr_hi (by omega)]
        congr 1
        omega
      · rw [if_neg z, if_neg z]
        rfl
    · have e2 : ¬ (h_n h ≤ a ∧ a ≤ h_n h + N) := fun z => by
        rw [kdi a (by omega) z.2] at h2
        omega
      rw [kdn a e2] at h2 h3 ⊢
      rw [aln a e2, arn a e, ho _ (hl a (hk0 a (by omega)))]
      exact p7 a h1 h2 h3
section MS4
variable {G : ms_G} {p : Program} {l : Launch} {e : Env} {R : Room} {s : State} {m : MethodId} {args : Array Value} {below : List Frame} {meth : Method} {c : Code} {H : Heap} {locs : List Loc} {cells slots : Nat} {Q : State → Prop} {cc : ByteArray} {nL pc : Nat} {own : String} {ini : Bool} {ls : Array Slot} {en : mm_E} {lo : mm_L} {st : List Value} {h : mm_H} {s' : mm_S}
theorem ms_putf (C : ms_C G p s m args c cc nL own) (hP : ms_P G h H) (hS : va_S (ms_A G) s.heap H locs) {a ci k idx : Nat} {q : vw_C} {rest : List Value} (hhi : 16 ≤ a) (hk : h_kd h a = ci + 1) (hc : vwCl[ci]? = some q) (hkN : k < q.2.2) (hd : decode cc pc = .ok (.putfield idx, 3))
    (hlink : ((Cond.fieldLink own idx (q.2.1 k).1 (q.2.1 k).2.1 (q.2.1 k).2.2.1).before args s = true ∧ ((q.2.1 k).2.2.2 = false ∨ (meth.name = "<init>" ∧ (q.2.1 k).1 = own))) ∨ ((Cond.fieldLinkNest own idx (q.2.1 k).1 (q.2.1 k).2.1 (q.2.1 k).2.2.1 "SitterCircle").before args s = true ∧ (q.2.1 k).2.2.2 = false))
    {v : Value} (hn : narrow (ms_fty ci k) v = v) (hfit : fits (ms_fty ci k) v = true)
    (kk : ∀ (H' : Heap) (locs' : List Loc), t_OB (ms_tr G a) (g_dC G ci) q.2.2 (g_dI G ci) H' (updV (fun j => ms_vt G (mm_fv h ci j a)) k v) → H'.size = H.size → (∀ x : Nat, x ≠ ms_tr G a → H'[x]? = H[x]?) → va_S (ms_A G) s.heap H' locs' → W p l e R s m args below meth c H' locs' cells slots Q (F0 m (pc + 3) ls rest)) :
    W p l e R s m args below meth c H locs cells slots Q (F0 m pc ls (v :: .ref (ms_tr G a) :: rest)) := by
  obtain ⟨hx, hb, hml, hown, -, hF⟩ := id C
  have hts := ms_hts C
  have hin := ms_lay ci q hc
  have hty := ms_tyok ci q hc
  have hnm := ms_nmok ci q hc
  obtain ⟨Cn, Tn, Nn⟩ := q
  have hap := va_apart (own := own) hts hin (ms_fty ci) hty hnm hF.1 hc
  obtain ⟨cell, q1, q2, q3, q4⟩ := hP.2.2.2.2.1 a ci _ hhi hk hc
  obtain ⟨hSl, hfc, kC, hkC, hkind⟩ := hF.1.1 ci _ hc
  obtain ⟨cf, kf, fi, f, hi, hsl⟩ := hSl k hkN
  have hlay := hts _ (hin _ (u_in_lay hkN))
  unfold u_lay at hlay
  have hst := (u_facts hfc hkC (u_lays hts hin hkN) hi).1
  have hA := ms_tr_A (G := G) hhi
  rcases hlink with ⟨hlink, hfin | ⟨hin2, hdecl⟩⟩ | ⟨hlink, hfin⟩
  · rw [if_neg (by rw [hfin]; decide)] at hlay
    have h6 := u_store hfc hkC hkind hlay hi (hty k hkN) hn hfit
    refine W.putK hx hb (f := f) ⟨hown, hlink, ⟨_, _, _, hi⟩, hst⟩ (by rw [q2]; exact h6) q1 q3 (by rw [hsl]; exact k2_hasslot (q4 k hkN)) rfl rfl hd fun H' e1 e2 e3 => ?_
    rw [hsl] at e1 ⊢
    exact kk H' _ ⟨_, e1, q2, q3, t_set q4 hap hkN v⟩ e2 e3 (hS.put e2 e3 hA)
  · by_cases hfin : (Tn k).2.2.2 = true
    · rw [if_pos hfin] at hlay
      have hcf : m.cls = cf := by
        obtain ⟨_, _, c', _, _, _, -, -, hf', -, -, -, hown2, -⟩ := Cond.laysFinal_spec hlay
        have e1 : c' = cf := by have := hi.symm.trans hf'; simp at this; exact this.1.symm
        rw [hdecl] at hown2
        rw [← e1]; exact Option.some.inj (hown.symm.trans hown2)
      have h6 := u_fits hfc hkC hkind (Or.inr hlay) hi (hty k hkN) hn hfit
      refine W.putFinK hx hb hown hlink hi hst hcf hin2 (by rw [q2]; exact h6) q1 q3 (by rw [hsl]; exact k2_hasslot (q4 k hkN)) rfl rfl hd fun H' e1 e2 e3 => ?_
      rw [hsl] at e1 ⊢
      exact kk H' _ ⟨_, e1, q2, q3, t_set q4 hap hkN v⟩ e2 e3 (hS.put e2 e3 hA)
    · rw [if_neg hfin] at hlay
      have h6 := u_store hfc hkC hkind hlay hi (hty k hkN) hn hfit
      refine W.putK hx hb (f := f) ⟨hown, hlink, ⟨_, _, _, hi⟩, hst⟩ (by rw [q2]; exact h6) q1 q3 (by rw [hsl]; exact k2_hasslot (q4 k hkN)) rfl rfl hd fun H' e1 e2 e3 => ?_
      rw [hsl] at e1 ⊢
      exact kk H' _ ⟨_, e1, q2, q3, t_set q4 hap hkN v⟩ e2 e3 (hS.put e2 e3 hA)
  · rw [if_neg (by rw [hfin]; decide)] at hlay
    have h6 := u_store hfc hkC hkind hlay hi (hty k hkN) hn hfit
    refine va_WputK hx hb (f := f) hown hlink hi hst (by rw [q2]; exact h6) q1 q3 (by rw [hsl]; exact k2_hasslot (q4 k hkN)) rfl rfl hd fun H' e1 e2 e3 => ?_
    rw [hsl] at e1 ⊢
    exact kk H' _ ⟨_, e1, q2, q3, t_set q4 hap hkN v⟩ e2 e3 (hS.put e2 e3 hA)
theorem ms_okF_of {i ci k : Nat} (C : ms_C G p s m args c cc nL own) (h1 : ms_okF own i ci k = true) : ∃ q, vwCl[ci]? = some q ∧ k < q.2.2 ∧ ((Cond.fieldLink own i (q.2.1 k).1 (q.2.1 k).2.1 (q.2.1 k).2.2.1).before args s = true ∨ (Cond.fieldLinkNest own i (q.2.1 k).1 (q.2.1 k).2.1 (q.2.1 k).2.2.1 "SitterCircle").before args s = true) := by
  unfold ms_okF at h1
  split at h1
  · rename_i q hc
    rw [Bool.and_eq_true, Bool.or_eq_true] at h1
    refine ⟨q, hc, of_decide_eq_true h1.1, ?_⟩
    rcases h1.2 with z | z
    · exact Or.inl (ms_gd C z)
    · exact Or.inr (va_Nw.use rfl (ms_nd C z))
  · cases h1
theorem ms_okP_of {i ci k : Nat} (C : ms_C G p s m args c cc nL own) (hini : ini = true → meth.name = "<init>") (h1 : ms_okP own ini i ci k = true) : ∃ q, vwCl[ci]? = some q ∧ k < q.2.2 ∧ (((Cond.fieldLink own i (q.2.1 k).1 (q.2.1 k).2.1 (q.2.1 k).2.2.1).before args s = true ∧ ((q.2.1 k).2.2.2 = false ∨ (meth.name = "<init>" ∧ (q.2.1 k).1 = own))) ∨ ((Cond.fieldLinkNest own i (q.2.1 k).1 (q.2.1 k).2.1 (q.2.1 k).2.2.1 "SitterCircle").before args s = true ∧ (q.2.1 k).2.2.2 = false)) := by
  unfold ms_okP at h1
  split at h1
  · rename_i q hc
    rw [Bool.and_eq_true, Bool.or_eq_true, Bool.and_eq_true, Bool.and_eq_true, Bool.or_eq_true, Bool.and_eq_true] at h1
    refine ⟨q, hc, of_decide_eq_true h1.1, ?_⟩
    rcases h1.2 with ⟨z, y⟩ | ⟨z, y⟩
    · refine Or.inl ⟨ms_gd C z, ?_⟩
      rcases y with y | ⟨y1, y2⟩
      · exact Or.inl (by simpa using y)
      · exact Or.inr ⟨hini y1, of_decide_eq_true y2⟩
    · exact Or.inr ⟨va_Nw.use rfl (ms_nd C z), by simpa using y⟩
  · cases h1
theorem ms_spF {U : State} (hF : ms_F G U) : ms_sp G := fun a ha => (hF.2.2.2.2.2.2.2.2.2.1 a ha).1
/-- array kinds other than int[] are never among the given -/
theorem ms_arr_hi {U : State} (hF : ms_F G U) (hP : ms_P G h H) {a : Nat} (h1 : 21 ≤ h_kd h a) (h2 : h_kd h a ≤ 25) : 16 ≤ a := by
  rcases Nat.lt_or_ge a 16 with z | z
  · have h1 := (hP.2.2.2.1 a z).1
    have h2 := (hF.2.2.2.2.2.2.2.2.2.1 a z).2
    omega
  · exact z
theorem ms_arrT {U : State} (hF : ms_F G U) {κ : Nat} (h1 : 20 ≤ κ) (h2 : κ ≤ 25) (n : Nat) (z : Nat → Value) : U.isArrayOf (arrV (g_cA G κ) n z) (ms_ty κ) := by
  have hk : κ = 20 ∨ κ = 21 ∨ κ = 22 ∨ κ = 23 ∨ κ = 24 ∨ κ = 25 := by omega
  rcases hk with rfl | rfl | rfl | rfl | rfl | rfl
  · exact (hF.1.2 0 _ rfl).1 n z
  · exact (hF.1.2 1 _ rfl).1 n z
  · exact (hF.1.2 2 _ rfl).1 n z
  · exact (hF.1.2 3 _ rfl).1 n z
  · exact (hF.1.2 4 _ rfl).1 n z
  · exact (hF.1.2 5 _ rfl).1 n z
set_option maxHeartbeats 4000000 in
theorem ms_s4 {n0 s0 : Nat} (C : ms_C G p s m args c cc nL own) (hini : ini = true → meth.name = "<init>") (hok : ms_ok own ini cc (pc, en) = true) (hP : ms_P G h H) (hS : va_S (ms_A G) s.heap H locs) (hX : mm_X4 en pc lo st h s') (hc1 : cells + n0 = h_n h) (hc2 : slots + s0 = h_s h) (hR1 : h_n s'.2.2.2 ≤ n0 + R.cells) (hR2 : h_s s'.2.2.2 ≤ s0 + R.slots) (kk : s'.2.1 = lo → ∀ (H' : Heap) (locs' : List Loc) (cells' slots' : Nat), ms_P G s'.2.2.2 H' → va_S (ms_A G) s.heap H' locs' → cells' + n0 = h_n s'.2.2.2 → slots' + s0 = h_s s'.2.2.2 → W p l e R s m args below meth c H' locs' cells' slots' Q (F0 m s'.1 ls (s'.2.2.1.map (ms_vt G)))) : W p l e R s m args below meth c H locs cells slots Q (F0 m pc ls (st.map (ms_vt G))) := by
  obtain ⟨hx, hb, hml, hown, hts, hF⟩ := id C
  have hsp := ms_spF hF
  obtain ⟨i, len, u, v⟩ := en
  obtain ⟨hd, hlen⟩ := ms_ok_d hok
  cases i
  case getfield idx =>
    obtain rfl : len = 3 := eq_of_beq hlen
    obtain ⟨a, rest, rfl, hk, rfl⟩ := hX
    obtain ⟨q, hc, hkN, hlink⟩ := ms_okF_of C (ms_ok_r hok rfl)
    have hhi := ms_obj_hi hF hP hk hc
    have h1 := ms_one hP hhi hk hc
    have hv : (ms_fs G h u q.2.2 a)[v]? = some (ms_vt G (mm_fv h u v a)) := by simp [ms_fs, hkN]
    have hlay := ms_lay u q hc
    obtain ⟨Cn, Tn, Nn⟩ := q
    rcases hlink with hlink | hlink
    · exact va_get (ref := (Tn v).1) hx hb (ms_hts C) hlay hown hF.1 h1 0 rfl hc v hkN hlink (fun _ z => z) hv hd (kk rfl H locs cells slots hP hS hc1 hc2)
    · exact va_getN (ref := (Tn v).1) (host := "SitterCircle") hx hb (ms_hts C) hlay hown hF.1 h1 0 rfl hc v hkN hlink (fun _ z => z) hv hd (kk rfl H locs cells slots hP hS hc1 hc2)
  case putfield idx =>
    obtain rfl : len = 3 := eq_of_beq hlen
    obtain ⟨a, rest, hk, ha, hX⟩ := hX
    obtain ⟨q, hc, hkN, hlink⟩ := ms_okP_of C hini (ms_ok_r hok rfl)
    have hri := ms_riok u q hc v hkN
    rcases hX with ⟨x, rfl, hr, rfl⟩ | ⟨r, rfl, hr, rfl⟩
    · rw [if_neg (by simp [hr])] at hri
      refine ms_putf (v := .int x) (rest := rest.map (ms_vt G)) C hP hS ha hk hc hkN hd hlink (by rw [hri]; exact (ms_nint x).1) (by rw [hri]; exact (ms_nint x).2) (fun H' locs' e1 e2 e3 e4 => ?_)
      refine kk rfl H' locs' cells slots (hP.put hsp ha hk hc e2 e3 rfl rfl rfl rfl rfl (fun c k a z => ms_fv_up z) (e1.to (fun j _ => ?_))) e4 hc1 hc2
      show (if j = v then Value.int x else ms_vt G (mm_fv h u j a)) = ms_vt G (if mm_ri u j = true then va_rf (h_or h (64 * u + j) a) else .int (va_up (h_oi h) (64 * u + v) (va_up (h_oi h (64 * u + v)) a x) (64 * u + j) a))
      by_cases z : j = v
      · subst z
        rw [if_pos rfl, if_neg (by simp [hr]), va_up_self, va_up_self]
        rfl
      · rw [if_neg z, va_up_ne _ _ (by omega)]
        rfl
    · rw [if_pos hr] at hri
      have hw := ms_nref hri.2 (r.map (ms_tr G))
      have e0 : List.map (ms_vt G) (va_rf r :: Value.ref a :: rest) = va_rf (r.map (ms_tr G)) :: Value.ref (ms_tr G a) :: rest.map (ms_vt G) := by rw [List.map_cons, ms_vt_rf]; rfl
      rw [e0]
      refine ms_putf (v := va_rf (r.map (ms_tr G))) (rest := rest.map (ms_vt G)) C hP hS ha hk hc hkN hd hlink hw.1 hw.2 (fun H' locs' e1 e2 e3 e4 => ?_)
      refine kk rfl H' locs' cells slots (hP.put hsp ha hk hc e2 e3 rfl rfl rfl rfl rfl (fun c k a z => ms_fv_upR z) (e1.to (fun j _ => ?_))) e4 hc1 hc2
      show (if j = v then va_rf (r.map (ms_tr G)) else ms_vt G (mm_fv h u j a)) = ms_vt G (if mm_ri u j = true then va_rf (va_up (h_or h) (64 * u + v) (va_up (h_or h (64 * u + v)) a r) (64 * u + j) a) else .int (h_oi h (64 * u + j) a))
      by_cases z : j = v
      · subst z
        rw [if_pos rfl, if_pos hr, va_up_self, va_up_self, ms_vt_rf]
      · rw [if_neg z, va_up_ne _ _ (by omega)]
        rfl
  case iaload  =>
    obtain rfl : len = 1 := eq_of_beq hlen
    obtain ⟨a, j, rest, rfl, hk, hin, rfl⟩ := hX
    have hlt : j.toNatClampNeg < h_al h a := Nat.not_le.mp fun q => hin (Or.inr q)
    rcases Nat.lt_or_ge a 16 with z | z
    · obtain ⟨g1, g2, g3⟩ := hP.2.2.2.1 a z
      have hT := hF.2.2.2.2.2.2.2.2.2.2.1 a z (by rw [← g1]; exact hk)
      rw [g2] at hin
      have et : ms_tr G a = g_sp G a := if_pos z
      have kk := kk rfl H locs cells slots hP hS hc1 hc2
      refine va_ti (t := g_sp G a) (rest := rest.map (ms_vt G)) hx hb hT hS hin (v := .int (h_ai h a j.toNatClampNeg)) (by rw [g3]) hd kk |> fun w => ?_
      show W p l e R s m args below meth c H locs cells slots Q (F0 m pc ls (.int j :: .ref (ms_tr G a) :: rest.map (ms_vt G)))
      rw [et]
      exact w
    · have hcell := hP.2.2.2.2.2.1 a z (by omega) (by omega)
      rw [hk] at hcell
      exact W.iald (v := .int (h_ai h a j.toNatClampNeg)) (rest := rest.map (ms_vt G)) hx hb hcell (ms_arrT hF (κ := 20) (by omega) (by omega) _ _) (fun q => by cases q) (by show ¬ (j < 0 ∨ (arrV _ _ _).slots.size ≤ _); rw [arrV_size]; exact hin) (by show (arrV _ _ _).slots[_]? = _; rw [arrV_read _ _ hlt]) rfl rfl hd (kk rfl H locs cells slots hP hS hc1 hc2)
  case baload  =>
    obtain rfl : len = 1 := eq_of_beq hlen
    obtain ⟨a, j, rest, rfl, hk, hin, rfl⟩ := hX
    have hlt : j.toNatClampNeg < h_al h a := Nat.not_le.mp fun q => hin (Or.inr q)
    have z := ms_arr_hi hF hP (a := a) (by omega) (by omega)
    have hcell := hP.2.2.2.2.2.1 a z (by omega) (by omega)
    rcases hk with hk | hk
    · rw [hk] at hcell
      exact W.bald (v := .int (h_ai h a j.toNatClampNeg)) (rest := rest.map (ms_vt G)) hx hb hcell (ms_arrT hF (κ := 21) (by omega) (by omega) _ _) (fun q => by cases q) (by show ¬ (j < 0 ∨ (arrV _ _ _).slots.size ≤ _); rw [arrV_size]; exact hin) (by show (arrV _ _ _).slots[_]? = _; rw [arrV_read _ _ hlt]) rfl rfl hd (kk rfl H locs cells slots hP hS hc1 hc2)
    · rw [hk] at hcell
      exact W.zald (v := .int (h_ai h a j.toNatClampNeg)) (rest := rest.map (ms_vt G)) hx hb hcell (ms_arrT hF (κ := 22) (by omega) (by omega) _ _) (fun q => by cases q) (by show ¬ (j < 0 ∨ (arrV _ _ _).slots.size ≤ _); rw [arrV_size]; exact hin) (by show (arrV _ _ _).slots[_]? = _; rw [arrV_read _ _ hlt]) rfl rfl hd (kk rfl H locs cells slots hP hS hc1 hc2)
  case aaload  =>
    obtain rfl : len = 1 := eq_of_beq hlen
    obtain ⟨a, j, rest, rfl, hk1, hk2, hin, rfl⟩ := hX
    have hlt : j.toNatClampNeg < h_al h a := Nat.not_le.mp fun q => hin (Or.inr q)
    have z := ms_arr_hi hF hP (a := a) (by omega) (by omega)
    have hcell := hP.2.2.2.2.2.2 a z hk1 hk2
    have href : (ms_ty (h_kd h a)).isReference = true := by
      have hk : h_kd h a = 23 ∨ h_kd h a = 24 ∨ h_kd h a = 25 := by omega
      rcases hk with hk | hk | hk <;> rw [hk] <;> rfl
    exact W.aald (v := ms_vt G (va_rf (h_ar h a j.toNatClampNeg))) (rest := rest.map (ms_vt G)) hx hb hcell (ms_arrT hF (κ := h_kd h a) (by omega) (by omega) _ _) href (fun q => by cases q) (by show ¬ (j < 0 ∨ (arrV _ _ _).slots.size ≤ _); rw [arrV_size]; exact hin) (by show (arrV _ _ _).slots[_]? = _; rw [arrV_read _ _ hlt]) rfl rfl hd (kk rfl H locs cells slots hP hS hc1 hc2)
  case iastore  =>
    obtain rfl : len = 1 := eq_of_beq hlen
    obtain ⟨a, j, x, rest, rfl, hk, ha, hin, rfl⟩ := hX
    have hcell := hP.2.2.2.2.2.1 a ha (by omega) (by omega)
    rw [hk] at hcell
    refine W.iast (rest := rest.map (ms_vt G)) (x := x) hx hb hcell (ms_arrT hF (κ := 20) (by omega) (by omega) _ _) (fun q => by cases q) (by show ¬ (j < 0 ∨ (arrV _ _ _).slots.size ≤ _); rw [arrV_size]; exact hin) rfl rfl hd fun H1 e1 e2 e3 => ?_
    refine kk rfl H1 _ cells slots (hP.sA hsp ha (by omega) (by omega) e2 e3 ?_) (hS.put e2 e3 (ms_tr_A ha)) hc1 hc2
    rw [e1, arrV_store, hk]
    congr 2
    funext q
    by_cases hq : q = j.toNatClampNeg
    · subst hq
      simp [updV, va_up, vp_nar]
      try rfl
    · simp [updV, va_up, hq]
  case bastore  =>
    obtain rfl : len = 1 := eq_of_beq hlen
    obtain ⟨a, j, x, rest, rfl, ha, hin, hX⟩ := hX
    rcases hX with ⟨hk, rfl⟩ | ⟨hk, rfl⟩
    · have hcell := hP.2.2.2.2.2.1 a ha (by omega) (by omega)
      rw [hk] at hcell
      refine W.bast (rest := rest.map (ms_vt G)) (x := x) hx hb hcell (ms_arrT hF (κ := 21) (by omega) (by omega) _ _) (fun q => by cases q) (by show ¬ (j < 0 ∨ (arrV _ _ _).slots.size ≤ _); rw [arrV_size]; exact hin) rfl rfl hd fun H1 e1 e2 e3 => ?_
      refine kk rfl H1 _ cells slots (hP.sA hsp ha (by omega) (by omega) e2 e3 ?_) (hS.put e2 e3 (ms_tr_A ha)) hc1 hc2
      rw [e1, arrV_store, hk]
      congr 2
      funext q
      by_cases hq : q = j.toNatClampNeg
      · subst hq
        simp [updV, va_up, vp_nar]
        try rfl
      · simp [updV, va_up, hq]
    · have hcell := hP.2.2.2.2.2.1 a ha (by omega) (by omega)
      rw [hk] at hcell
      refine W.zast (rest := rest.map (ms_vt G)) (x := x) hx hb hcell (ms_arrT hF (κ := 22) (by omega) (by omega) _ _) (fun q => by cases q) (by show ¬ (j < 0 ∨ (arrV _ _ _).slots.size ≤ _); rw [arrV_size]; exact hin) rfl rfl hd fun H1 e1 e2 e3 => ?_
      refine kk rfl H1 _ cells slots (hP.sA hsp ha (by omega) (by omega) e2 e3 ?_) (hS.put e2 e3 (ms_tr_A ha)) hc1 hc2
      rw [e1, arrV_store, hk]
      congr 2
      funext q
      by_cases hq : q = j.toNatClampNeg
      · subst hq
        simp [updV, va_up, vp_nar]
        try rfl
      · simp [updV, va_up, hq]
  case aastore  =>
    obtain rfl : len = 1 := eq_of_beq hlen
    obtain ⟨a, j, r, rest, rfl, ha, hin, hX, rfl⟩ := hX
    have hlt : j.toNatClampNeg < h_al h a := Nat.not_le.mp fun q => hin (Or.inr q)
    have h0 : ¬ j < 0 := fun q => hin (Or.inl q)
    rcases hX with ⟨hk, hv⟩ | ⟨hk, hv⟩
    · have hcell := hP.2.2.2.2.2.2 a ha (by omega) (by omega)
      rw [hk] at hcell
      cases r with
      | none =>
        refine va_WaastN (C := RX0) (rest := rest.map (ms_vt G)) hx hb hcell (ms_arrT hF (κ := 23) (by omega) (by omega) _ _) (fun q => by cases q) (by show ¬ (j < 0 ∨ (arrV _ _ _).slots.size ≤ _); rw [arrV_size]; exact hin) rfl rfl hd fun H1 e1 e2 e3 => ?_
        refine kk rfl H1 _ cells slots (hP.sQ hsp ha (by omega) (by omega) e2 e3 ?_) (hS.put e2 e3 (ms_tr_A ha)) hc1 hc2
        rw [e1, arrV_store, hk]
        congr 2
        funext q
        by_cases hq : q = j.toNatClampNeg
        · subst hq
          simp [updV, va_up, va_rf, ms_vt]
        · simp [updV, va_up, hq]
      | some w =>
        have hkw := hv w rfl
        have hwhi := ms_obj_hi hF hP (ci := 0) hkw rfl
        obtain ⟨cellV, g1, g2, g3, -⟩ := hP.2.2.2.2.1 w 0 _ hwhi hkw rfl
        have hcls := (hF.1.1 0 _ rfl).2
        obtain ⟨kA, comp, k1, k2, k3, -⟩ := (hF.1.2 3 _ rfl).2
        have hcomp : comp = g_dC G 0 := Option.some.inj (k3.symm.trans hcls.1)
        subst hcomp
        obtain ⟨kC, hkC, -⟩ := hcls.2
        refine W.aast (rest := rest.map (ms_vt G)) hx hb hcell (fun q h => by cases h) (fun h => by cases h) k1 k2 rfl hkC ⟨h0, by show _ < (arrV _ _ _).slots.size; rw [arrV_size]; exact hlt⟩ g1 (fun q h => by rw [g3] at h; cases h) (by rw [g2]; exact hkC) (by rw [g2]; exact va_assign hcls) rfl rfl hd fun H1 e1 e2 e3 => ?_
        refine kk rfl H1 _ cells slots (hP.sQ hsp ha (by omega) (by omega) e2 e3 ?_) (hS.put e2 e3 (ms_tr_A ha)) hc1 hc2
        rw [e1, arrV_store, hk]
        congr 2
        funext q
        by_cases hq : q = j.toNatClampNeg
        · subst hq
          simp [updV, va_up, va_rf, ms_vt]
        · simp [updV, va_up, hq]
    · have hcell := hP.2.2.2.2.2.2 a ha (by omega) (by omega)
      rw [hk] at hcell
      cases r with
      | none =>
        refine va_WaastN (C := RX5) (rest := rest.map (ms_vt G)) hx hb hcell (ms_arrT hF (κ := 24) (by omega) (by omega) _ _) (fun q => by cases q) (by show ¬ (j < 0 ∨ (arrV _ _ _).slots.size ≤ _); rw [arrV_size]; exact hin) rfl rfl hd fun H1 e1 e2 e3 => ?_
        refine kk rfl H1 _ cells slots (hP.sQ hsp ha (by omega) (by omega) e2 e3 ?_) (hS.put e2 e3 (ms_tr_A ha)) hc1 hc2
        rw [e1, arrV_store, hk]
        congr 2
        funext q
        by_cases hq : q = j.toNatClampNeg
        · subst hq
          simp [updV, va_up, va_rf, ms_vt]
        · simp [updV, va_up, hq]
      | some w =>
        have hkw := hv w rfl
        have hwhi := ms_obj_hi hF hP (ci := 5) hkw rfl
        obtain ⟨cellV, g1, g2, g3, -⟩ := hP.2.2.2.2.1 w 5 _ hwhi hkw rfl
        have hcls := (hF.1.1 5 _ rfl).2
        obtain ⟨kA, comp, k1, k2, k3, -⟩ := (hF.1.2 4 _ rfl).2
        have hcomp : comp = g_dC G 5 := Option.some.inj (k3.symm.trans hcls.1)
        subst hcomp
        obtain ⟨kC, hkC, -⟩ := hcls.2
        refine W.aast (rest := rest.map (ms_vt G)) hx hb hcell (fun q h => by cases h) (fun h => by cases h) k1 k2 rfl hkC ⟨h0, by show _ < (arrV _ _ _).slots.size; rw [arrV_size]; exact hlt⟩ g1 (fun q h => by rw [g3] at h; cases h) (by rw [g2]; exact hkC) (by rw [g2]; exact va_assign hcls) rfl rfl hd fun H1 e1 e2 e3 => ?_
        refine kk rfl H1 _ cells slots (hP.sQ hsp ha (by omega) (by omega) e2 e3 ?_) (hS.put e2 e3 (ms_tr_A ha)) hc1 hc2
        rw [e1, arrV_store, hk]
        congr 2
        funext q
        by_cases hq : q = j.toNatClampNeg
        · subst hq
          simp [updV, va_up, va_rf, ms_vt]
        · simp [updV, va_up, hq]
  case arraylength  =>
    obtain rfl : len = 1 := eq_of_beq hlen
    obtain ⟨a, rest, rfl, hk1, hk2, rfl⟩ := hX
    have kk := kk rfl H locs cells slots hP hS hc1 hc2
    rcases Nat.lt_or_ge a 16 with z | z
    · obtain ⟨g1, g2, g3⟩ := hP.2.2.2.1 a z
      have g4 := (hF.2.2.2.2.2.2.2.2.2.1 a z).2
      have hT := hF.2.2.2.2.2.2.2.2.2.2.1 a z (by omega)
      have et : ms_tr G a = g_sp G a := if_pos z
      have w := va_tlen (t := g_sp G a) (rest := rest.map (ms_vt G)) hx hb hT hS (v := Int32.ofNat (h_al h a)) (by rw [g2]) hd kk
      show W p l e R s m args below meth c H locs cells slots Q (F0 m pc ls (.ref (ms_tr G a) :: rest.map (ms_vt G)))
      rw [et]
      exact w
    · rcases Nat.lt_or_ge (h_kd h a) 23 with y | y
      · have hcell := hP.2.2.2.2.2.1 a z hk1 (by omega)
        exact W.alen (rest := rest.map (ms_vt G)) hx hb hcell (ms_arrT hF (κ := h_kd h a) (by omega) (by omega) _ _) (by rw [arrV_size]) rfl rfl hd kk
      · have hcell := hP.2.2.2.2.2.2 a z y hk2
        exact W.alen (rest := rest.map (ms_vt G)) hx hb hcell (ms_arrT hF (κ := h_kd h a) (by omega) (by omega) _ _) (by rw [arrV_size]) rfl rfl hd kk
  case new idx =>
    obtain rfl : len = 3 := eq_of_beq hlen
    obtain rfl : s' = _ := hX
    have h1 : ms_okN own idx u = true := ms_ok_r hok rfl
    unfold ms_okN at h1
    split at h1
    · rename_i q hc
      rw [Bool.and_eq_true, Bool.and_eq_true, Bool.and_eq_true] at h1
      obtain ⟨⟨⟨y1, y2⟩, y3⟩, y4⟩ := h1
      have hc : vwCl[u]? = some q := hc
      have y4 : mm_N u = q.2.2 := of_decide_eq_true y4
      have hlay := ms_lay u q hc
      have hty := ms_tyok u q hc
      have hri := ms_riok u q hc
      have hKn := hF.1.1 u _ hc
      obtain ⟨Cn, Tn, Nn⟩ := q
      have hR1 : h_n h + 1 ≤ n0 + R.cells := hR1
      have hR2 : h_s h + mm_N u ≤ s0 + R.slots := hR2
      rw [y4] at hR2
      refine W.newcK hx hb hown (ms_gd C y1) (ms_gd C y2) (ms_gd C y3) rfl hd (by omega) (by show slots + Nn ≤ _; have : h_s h + Nn ≤ s0 + R.slots := hR2; omega) hKn.2.1 rfl fun H1 kC hkC e1 z1 o1 => ?_
      have hb1 := u_born (ms_fty u) (ms_hts C) hlay hKn hkC e1 hty
      have kk := kk rfl H1 locs (cells + 1) (slots + Nn) (hP.nO hsp hc z1 o1 (hb1.to (fun k hk => ?_))) ⟨Nat.le_trans hS.1 (by omega), fun x h1 h2 => (o1 x (Nat.lt_of_lt_of_le h1 hS.1)).trans (hS.2.1 x h1 h2), hS.2.2⟩ (by show cells + 1 + n0 = h_n h + 1; omega) (by show slots + Nn + s0 = h_s h + mm_N u; rw [y4]; show slots + Nn + s0 = h_s h + Nn; omega)
      · have e5 : List.map (ms_vt G) (Value.ref (h_n h) :: st) = Value.ref H.size :: st.map (ms_vt G) := by
          show Value.ref (ms_tr G (h_n h)) :: _ = _
          rw [ms_tr_n hP]
        rw [e5] at kk
        exact kk
      · have := hri k hk
        by_cases z : mm_ri u k = true
        · rw [if_pos z] at this ⊢
          exact this.1
        · rw [if_neg z] at this ⊢
          rw [this]
          rfl
    · cases h1
  case newarray t =>
    obtain rfl : len = 2 := eq_of_beq hlen
    obtain ⟨x, rest, rfl, hx0, hx1, rfl⟩ := hX
    have h1 := ms_ok_r hok rfl
    rw [Bool.and_eq_true, Bool.and_eq_true, Bool.and_eq_true] at h1
    obtain ⟨⟨⟨y1, y2⟩, y3⟩, y4⟩ := h1
    have y1 : newarray.typeOf t = ms_ty u := of_decide_eq_true y1
    have y2 : 20 ≤ u := of_decide_eq_true y2
    have y3 : u ≤ 22 := of_decide_eq_true y3
    have hR1 : h_n h + 1 ≤ n0 + R.cells := hR1
    have hR2 : h_s h + x.toNatClampNeg ≤ s0 + R.slots := hR2
    have hw := ms_gd C y4
    have hbyt : x.toNatClampNeg * componentBytes (newarray.typeOf t) ≤ 536870912 := by
      rw [y1]
      have hk : u = 20 ∨ u = 21 ∨ u = 22 := by omega
      rcases hk with rfl | rfl | rfl
      · show x.toNatClampNeg * 4 ≤ _; omega
      · show x.toNatClampNeg * 1 ≤ _; omega
      · show x.toNatClampNeg * 1 ≤ _; omega
    refine va_newaK (rest := rest.map (ms_vt G)) hx hb hw rfl hd rfl hx0 rfl hbyt (by omega) (by omega) rfl fun H1 cA1 e1 z1 o1 hAr hNm => ?_
    have hcA : cA1 = g_cA G u := by
      rw [y1] at hNm
      have hk : u = 20 ∨ u = 21 ∨ u = 22 := by omega
      rcases hk with rfl | rfl | rfl
      · exact Option.some.inj (hNm.symm.trans (hF.1.2 0 _ rfl).2)
      · exact Option.some.inj (hNm.symm.trans (hF.1.2 1 _ rfl).2)
      · exact Option.some.inj (hNm.symm.trans (hF.1.2 2 _ rfl).2)
    rw [hcA] at e1
    have hcell : H1[H.size]? = some (arrV (g_cA G u) x.toNatClampNeg (fun j => if u ≤ 22 then .int ((fun _ => 0 : Nat → Int32) j) else .null)) := by
      rw [e1]
      congr 2
      funext j
      rw [if_pos y3, y1]
      have hk : u = 20 ∨ u = 21 ∨ u = 22 := by omega
      rcases hk with rfl | rfl | rfl <;> rfl
    have kk := kk rfl H1 locs (cells + 1) (slots + x.toNatClampNeg) (hP.nA hsp ⟨y2, by omega⟩ z1 o1 rfl hcell) ⟨Nat.le_trans hS.1 (by omega), fun x h1 h2 => (o1 x (Nat.lt_of_lt_of_le h1 hS.1)).trans (hS.2.1 x h1 h2), hS.2.2⟩ (by show cells + 1 + n0 = h_n h + 1; omega) (by show slots + x.toNatClampNeg + s0 = h_s h + x.toNatClampNeg; omega)
    have e5 : List.map (ms_vt G) (Value.ref (h_n h) :: rest) = Value.ref H.size :: rest.map (ms_vt G) := by
      show Value.ref (ms_tr G (h_n h)) :: _ = _
      rw [ms_tr_n hP]
    rw [e5] at kk
    exact kk
  case anewarray idx =>
    obtain rfl : len = 3 := eq_of_beq hlen
    obtain ⟨x, rest, rfl, hx0, hx1, rfl⟩ := hX
    have h1 := ms_ok_r hok rfl
    rw [Bool.or_eq_true, Bool.and_eq_true, Bool.and_eq_true] at h1
    have hR1 : h_n h + 1 ≤ n0 + R.cells := hR1
    have hR2 : h_s h + x.toNatClampNeg ≤ s0 + R.slots := hR2
    rcases h1 with ⟨y1, y2⟩ | ⟨y1, y2⟩
    · obtain rfl : u = 23 := of_decide_eq_true y1
      refine W.anew (rest := rest.map (ms_vt G)) hx hb hown (ms_gd C y2) (va_AO.use hF.2.2.1) rfl hd rfl hx0 (by omega) (by omega) (by omega) fun cA1 kA comp f1 f2 f3 f4 => ?_
      have hcA : cA1 = g_cA G 23 := by
        obtain ⟨kA9, comp9, k1, k2, k3, k4⟩ := (hF.1.2 3 _ rfl).2
        exact Option.some.inj (f1.symm.trans k4)
      subst hcA
      generalize hH1 : H.push ({ cls := g_cA G 23, slots := Array.replicate x.toNatClampNeg .null, vm := .none } : Cell) = H1
      have z1 : H1.size = H.size + 1 := by rw [← hH1, Array.size_push]
      have e1 : H1[H.size]? = some (arrV (g_cA G 23) x.toNatClampNeg (fun j => if 23 ≤ 22 then .int ((fun _ => 0 : Nat → Int32) j) else .null)) := by rw [← hH1, Array.getElem?_push_size, ← arrV_new]; rfl
      have o1 : ∀ q : Nat, q < H.size → H1[q]? = H[q]? := fun q hq => by rw [← hH1, Array.getElem?_push, if_neg (Nat.ne_of_lt hq)]
      have kk := kk rfl H1 locs (cells + 1) (slots + x.toNatClampNeg) (hP.nA (κ := 23) hsp ⟨by decide, by decide⟩ z1 o1 rfl e1) ⟨Nat.le_trans hS.1 (by omega), fun x h1 h2 => (o1 x (Nat.lt_of_lt_of_le h1 hS.1)).trans (hS.2.1 x h1 h2), hS.2.2⟩ (by show cells + 1 + n0 = h_n h + 1; omega) (by show slots + x.toNatClampNeg + s0 = h_s h + x.toNatClampNeg; omega)
      have e5 : List.map (ms_vt G) (Value.ref (h_n h) :: rest) = Value.ref H.size :: rest.map (ms_vt G) := by
        show Value.ref (ms_tr G (h_n h)) :: _ = _
        rw [ms_tr_n hP]
      rw [e5] at kk
      exact kk
    · obtain rfl : u = 24 := of_decide_eq_true y1
      refine W.anew (rest := rest.map (ms_vt G)) hx hb hown (ms_gd C y2) (va_AO.use hF.2.2.2.1) rfl hd rfl hx0 (by omega) (by omega) (by omega) fun cA1 kA comp f1 f2 f3 f4 => ?_
      have hcA : cA1 = g_cA G 24 := by
        obtain ⟨kA9, comp9, k1, k2, k3, k4⟩ := (hF.1.2 4 _ rfl).2
        exact Option.some.inj (f1.symm.trans k4)
      subst hcA
      generalize hH1 : H.push ({ cls := g_cA G 24, slots := Array.replicate x.toNatClampNeg .null, vm := .none } : Cell) = H1
      have z1 : H1.size = H.size + 1 := by rw [← hH1, Array.size_push]
      have e1 : H1[H.size]? = some (arrV (g_cA G 24) x.toNatClampNeg (fun j => if 24 ≤ 22 then .int ((fun _ => 0 : Nat → Int32) j) else .null)) := by rw [← hH1, Array.getElem?_push_size, ← arrV_new]; rfl
      have o1 : ∀ q : Nat, q < H.size → H1[q]? = H[q]? := fun q hq => by rw [← hH1, Array.getElem?_push, if_neg (Nat.ne_of_lt hq)]
      have kk := kk rfl H1 locs (cells + 1) (slots + x.toNatClampNeg) (hP.nA (κ := 24) hsp ⟨by decide, by decide⟩ z1 o1 rfl e1) ⟨Nat.le_trans hS.1 (by omega), fun x h1 h2 => (o1 x (Nat.lt_of_lt_of_le h1 hS.1)).trans (hS.2.1 x h1 h2), hS.2.2⟩ (by show cells + 1 + n0 = h_n h + 1; omega) (by show slots + x.toNatClampNeg + s0 = h_s h + x.toNatClampNeg; omega)
      have e5 : List.map (ms_vt G) (Value.ref (h_n h) :: rest) = Value.ref H.size :: rest.map (ms_vt G) := by
        show Value.ref (ms_tr G (h_n h)) :: _ = _
        rw [ms_tr_n hP]
      rw [e5] at kk
      exact kk
  case multianewarray idx dm =>
    obtain rfl : len = 4 := eq_of_beq hlen
    obtain ⟨x, y, rest, rfl, hx0, hy0, hx1, hy1, rfl⟩ := hX
    have h1 := ms_ok_r hok rfl
    rw [Bool.and_eq_true, Bool.and_eq_true] at h1
    obtain ⟨⟨y1, y2⟩, y3⟩ := h1
    obtain rfl : dm = 2 := of_decide_eq_true y1
    have hR1 : h_n h + 1 + x.toNatClampNeg ≤ n0 + R.cells := hR1
    have hR2 : h_s h + x.toNatClampNeg + x.toNatClampNeg * y.toNatClampNeg ≤ s0 + R.slots := hR2
    intro T hT Xs
    obtain ⟨vm₁, cA1, comp, -, fA, fC, hO, -, X1, step⟩ := Xs.multianewarray2F hx hown (ty := .int) (ms_gd C y2) hF.2.2.2.2.1 (ms_gd C y3) (g := F0 m pc ls (.int y :: .int x :: rest.map (ms_vt G))) rfl (by rw [hb]; exact hd) rfl hx0 hy0 (by omega) (by show y.toNatClampNeg * 4 ≤ _; omega) (by omega) rfl rfl (by omega) (by omega)
    have hcA : cA1 = g_cA G 25 := Option.some.inj (fA.symm.trans (hF.1.2 5 _ rfl).2)
    have hcB : comp = g_cA G 20 := Option.some.inj (fC.symm.trans (hF.1.2 0 _ rfl).2)
    subst hcA
    subst hcB
    generalize hFl : Jvm.Free.Multi.fill (T.setVm vm₁) (g_cA G 25) (g_cA G 20) x.toNatClampNeg y.toNatClampNeg (defaultValue .int) x.toNatClampNeg = F at X1 step
    have hTh : (T.setVm vm₁).heap = H := hT
    obtain ⟨f1, f2, -, -⟩ := Jvm.Free.Multi.fill_facts (T.setVm vm₁) (g_cA G 25) (g_cA G 20) x.toNatClampNeg y.toNatClampNeg (defaultValue .int) x.toNatClampNeg
    rw [hFl, hTh] at f1 f2
    have hold : ∀ z : Nat, z < H.size → F.heap[z]? = H[z]? := fun z hz => by
      have := Jvm.Free.Multi.fill_old (T.setVm vm₁) (g_cA G 25) (g_cA G 20) x.toNatClampNeg y.toNatClampNeg (defaultValue .int) (a := z) (by rw [hTh]; exact hz) x.toNatClampNeg
      rw [hFl, hTh] at this
      exact this
    have hrow : ∀ j : Nat, j < x.toNatClampNeg → F.heap[H.size + 1 + j]? = some (arrV (g_cA G 20) y.toNatClampNeg (fun _ => .int 0)) := fun j hj => by
      have := Jvm.Free.Multi.fill_inner (T.setVm vm₁) (g_cA G 25) (g_cA G 20) x.toNatClampNeg y.toNatClampNeg (defaultValue .int) x.toNatClampNeg j hj
      rw [hFl, hTh] at this
      rw [this]
      exact congrArg some (arrV_new _ _ _)
    rw [ms_outer] at f2
    have kk := kk rfl F.heap locs (cells + 1 + x.toNatClampNeg) (slots + x.toNatClampNeg + x.toNatClampNeg * y.toNatClampNeg) (hP.nM hsp f1 hold f2 hrow) ⟨by rw [f1]; have := hS.1; omega, fun z h1 h2 => (hold z (Nat.lt_of_lt_of_le h1 hS.1)).trans (hS.2.1 z h1 h2), hS.2.2⟩ (by show cells + 1 + x.toNatClampNeg + n0 = h_n h + 1 + x.toNatClampNeg; omega) (by show slots + x.toNatClampNeg + x.toNatClampNeg * y.toNatClampNeg + s0 = h_s h + x.toNatClampNeg + x.toNatClampNeg * y.toNatClampNeg; omega)
    have e5 : List.map (ms_vt G) (Value.ref (h_n h) :: rest) = Value.ref H.size :: rest.map (ms_vt G) := by
      show Value.ref (ms_tr G (h_n h)) :: _ = _
      rw [ms_tr_n hP]
    rw [e5] at kk
    obtain ⟨t, a1, b1⟩ := kk F rfl X1
    refine ⟨t, step t ?_, b1⟩
    rw [show T.heap.size = H.size by rw [hT]]
    exact a1
  all_goals exact False.elim hX
end MS4
end
section
/-! SOUNDNESS, 3: calls, and the whole -/
def ms_Pc (G : ms_G) (h : mm_H) (U : State) : Prop := ms_F G U ∧ ms_P G h U.heap
def ms_Qc (G : ms_G) (r : Option Value × mm_H) : Array Value → State → Outcome → State → Prop := fun _ st oc t => oc = .returned (r.1.map (ms_vt G)) ∧ ms_P G r.2 t.heap ∧ va_F (ms_A G) st t
def ms_ws (q : mm_I) : List Cond := .code q.1 q.2.1 q.2.2.1 q.2.2.2 :: ms_TS
def ms_rm (d mc msl : Nat) : Room := { frames := d, cells := mc, slots := msl, locals := 40 * d }
def ms_Mt (G : ms_G) (l : Launch) (y d : Nat) (As : List Value) (h : mm_H) (r : Option Value × mm_H) : Prop := ∀ q, mm_is[y]? = some q → Met l q.1 (ms_ws q) (ms_rm d (h_n r.2 - h_n h) (h_s r.2 - h_s h)) (va_Pc (As.map (ms_vt G)) (ms_Pc G h)) (ms_Qc G r) (h_n r.2 - h_n h) (h_s r.2 - h_s h) (ms_A G)
def ms_okR (q : mm_I) (e : mm_E) : Bool := match e.1 with
  | .ireturn => (decide (e.2.2.1 = 0) && decide (q.2.2.2 = some .int)) || (decide (e.2.2.1 = 1) && decide (q.2.2.2 = some .boolean))
  | .return_ => decide (q.2.2.2 = none)
  | .areturn => decide (q.2.2.2 = some (.object "SitterCircle$Family")) || decide (q.2.2.2 = some (.object "java/lang/String"))
  | _ => true
def ms_All : Prop := ∀ (y : Nat) (M : mm_M) (q : mm_I), mm_mt y = some M → mm_is[y]? = some q → ms_okM q = true ∧ q.2.2.1 = M.2.1 ∧ ∀ e ∈ M.2.2, ms_ok q.1.cls (q.1.name == "<init>") q.2.1 e = true ∧ ms_okR q e.2 = true
def ms_BI (G : ms_G) (l : Launch) : Prop := ∀ (y d : Nat) (As : List Value) (h : mm_H) (r : Option Value × mm_H), mm_mt y = none → 20 ≤ d → mm_B y As h r → ms_Mt G l y d As h r
def ms_okB : Prop := ∀ (y : Nat) (q : mm_I), mm_is[y]? = some q → y ≠ 153 → y < 157 → ms_okM q = true
theorem ms_clm : ∀ {cd : List (Nat × mm_E)} {i : Nat} {v : mm_E}, mm_cl cd i = some v → (i, v) ∈ cd
  | [], _, _, h => by cases h
  | q :: t, i, v, h => by
    unfold mm_cl at h
    by_cases e : (q.1 == i) = true
    · rw [if_pos e] at h
      have e1 : q.1 = i := eq_of_beq e
      have e2 : q.2 = v := Option.some.inj h
      subst e1; subst e2
      exact List.mem_cons_self
    · rw [if_neg e] at h
      exact List.mem_cons_of_mem _ (ms_clm h)
theorem ms_wid : ∀ vs : List Value, (lg_sl vs).length = (vs.map fun v => v.category).sum
  | [] => rfl
  | v :: vs => by
    have ih := ms_wid vs
    unfold lg_sl at ih ⊢
    rw [List.flatMap_cons, List.length_append, ih, List.map_cons, List.sum_cons]
    rcases lv_cat v with h | h
    · rw [if_neg (by omega), h]
      rfl
    · rw [if_pos h, h]
      rfl
theorem mm_m1 {nL : Nat} {en : mm_E} {pc : Nat} {lo : mm_L} {st : List Value} {h : mm_H} {s' : mm_S} (hX : mm_X1 nL en pc lo st h s') : s'.2.2.2 = h := by
  obtain ⟨i, len, u, v⟩ := en
  cases i
  all_goals first
    | exact False.elim hX
    | (obtain rfl : s' = _ := hX; rfl)
    | (obtain ⟨_, _, rfl⟩ := hX; rfl)
    | (obtain ⟨_, _, _, rfl⟩ := hX; rfl)
    | (obtain ⟨_, _, _, _, rfl⟩ := hX; rfl)
theorem mm_m2 {en : mm_E} {pc : Nat} {lo : mm_L} {st : List Value} {h : mm_H} {s' : mm_S} (hX : mm_X2 en pc lo st h s') : s'.2.2.2 = h := by
  obtain ⟨i, len, u, v⟩ := en
  cases i
  all_goals first
    | exact False.elim hX
    | (obtain ⟨_, _, _, _, rfl⟩ := hX; rfl)
    | (obtain ⟨_, _, _, rfl⟩ := hX; rfl)
    | (obtain ⟨_, _, _, _, _, _, rfl⟩ := hX; rfl)
theorem mm_m3 {en : mm_E} {pc : Nat} {lo : mm_L} {st : List Value} {h : mm_H} {s' : mm_S} (hX : mm_X3 en pc lo st h s') : s'.2.2.2 = h := by
  obtain ⟨i, len, u, v⟩ := en
  cases i
  all_goals first
    | exact False.elim hX
    | (obtain ⟨_, _, rfl⟩ := hX; rfl)
    | (obtain ⟨_, _, _, _, _, rfl⟩ := hX; rfl)
    | (obtain ⟨_, _, _, _, _, _, rfl⟩ := hX; rfl)
    | (obtain ⟨_, _, _, _, _, _, _, rfl⟩ := hX; rfl)
theorem mm_m4 {en : mm_E} {pc : Nat} {lo : mm_L} {st : List Value} {h : mm_H} {s' : mm_S} (hX : mm_X4 en pc lo st h s') : h_n h ≤ h_n s'.2.2.2 ∧ h_s h ≤ h_s s'.2.2.2 := by
  obtain ⟨i, len, u, v⟩ := en
  cases i
  case getfield => obtain ⟨_, _, _, _, rfl⟩ := hX; exact ⟨Nat.le_refl _, Nat.le_refl _⟩
  case putfield => obtain ⟨_, _, _, _, ⟨_, _, _, rfl⟩ | ⟨_, _, _, rfl⟩⟩ := hX <;> exact ⟨Nat.le_refl _, Nat.le_refl _⟩
  case iaload => obtain ⟨_, _, _, _, _, _, rfl⟩ := hX; exact ⟨Nat.le_refl _, Nat.le_refl _⟩
  case baload => obtain ⟨_, _, _, _, _, _, rfl⟩ := hX; exact ⟨Nat.le_refl _, Nat.le_refl _⟩
  case aaload => obtain ⟨_, _, _, _, _, _, _, rfl⟩ := hX; exact ⟨Nat.le_refl _, Nat.le_refl _⟩
  case iastore => obtain ⟨_, _, _, _, _, _, _, _, rfl⟩ := hX; exact ⟨Nat.le_refl _, Nat.le_refl _⟩
  case bastore => obtain ⟨_, _, _, _, _, _, _, ⟨_, rfl⟩ | ⟨_, rfl⟩⟩ := hX <;> exact ⟨Nat.le_refl _, Nat.le_refl _⟩
  case aastore => obtain ⟨_, _, _, _, _, _, _, _, rfl⟩ := hX; exact ⟨Nat.le_refl _, Nat.le_refl _⟩
  case arraylength => obtain ⟨_, _, _, _, _, rfl⟩ := hX; exact ⟨Nat.le_refl _, Nat.le_refl _⟩
  case new => obtain rfl : s' = _ := hX; exact ⟨Nat.le_succ _, Nat.le_add_right _ _⟩
  case newarray => obtain ⟨_, _, _, _, _, rfl⟩ := hX; exact ⟨Nat.le_succ _, Nat.le_add_right _ _⟩
  case anewarray => obtain ⟨_, _, _, _, _, rfl⟩ := hX; exact ⟨Nat.le_succ _, Nat.le_add_right _ _⟩
  case multianewarray =>
    obtain ⟨x, y, _, _, _, _, _, _, rfl⟩ := hX
    refine ⟨?_, ?_⟩
    · show h_n h ≤ h_n h + 1 + x.toNatClampNeg
      omega
    · show h_s h ≤ h_s h + x.toNatClampNeg + x.toNatClampNeg * y.toNatClampNeg
      omega
  all_goals exact False.elim hX
theorem mm_mX {nL : Nat} {en : mm_E} {pc : Nat} {lo : mm_L} {st : List Value} {h : mm_H} {s' : mm_S} (hX : mm_X nL en pc lo st h s') : h_n h ≤ h_n s'.2.2.2 ∧ h_s h ≤ h_s s'.2.2.2 := by
  rcases hX with hX | hX | hX | hX
  · rw [mm_m1 hX]; exact ⟨Nat.le_refl _, Nat.le_refl _⟩
  · rw [mm_m2 hX]; exact ⟨Nat.le_refl _, Nat.le_refl _⟩
  · rw [mm_m3 hX]; exact ⟨Nat.le_refl _, Nat.le_refl _⟩
  · exact mm_m4 hX
theorem mm_mB {y : Nat} {As : List Value} {h : mm_H} {r : Option Value × mm_H} (hB : mm_B y As h r) : h_n h ≤ h_n r.2 ∧ h_s h ≤ h_s r.2 := by
  rcases hB with ⟨-, a, x, -, -, -, -, -, -, e⟩ | ⟨-, a, -, -, -, -, e⟩ | ⟨-, a, x, -, -, -, -, -, e⟩
  · rw [e]; exact ⟨Nat.le_succ _, Nat.le_add_right _ _⟩
  · rw [e]; exact ⟨Nat.le_refl _, Nat.le_refl _⟩
  · rw [e]; exact ⟨Nat.le_refl _, Nat.le_refl _⟩
theorem mm_mono : ∀ (n d : Nat) (M : mm_M) (pc : Nat) (lo : mm_L) (st : List Value) (h : mm_H) (r : Option Value × mm_H), mm_R n d M pc lo st h r → h_n h ≤ h_n r.2 ∧ h_s h ≤ h_s r.2
  | 0, _, _, _, _, _, _, _, hR => False.elim hR
  | n + 1, d, M, pc, lo, st, h, r, hR => by
    obtain ⟨e, -, hc⟩ := hR
    rcases hc with ⟨s', hX, hR⟩ | ⟨-, hr⟩ | ⟨d', As, rest, r1, h1, -, -, hC, hR⟩ | ⟨d', rest, -, -, hR⟩
    · have h1 := mm_mX hX
      have h2 := mm_mono n d M _ _ _ _ r hR
      exact ⟨Nat.le_trans h1.1 h2.1, Nat.le_trans h1.2 h2.2⟩
    · rw [hr]; exact ⟨Nat.le_refl _, Nat.le_refl _⟩
    · have h3 : h_n h ≤ h_n h1 ∧ h_s h ≤ h_s h1 := by
        rcases hC with ⟨M', -, -, hC⟩ | ⟨-, -, hC⟩
        · exact mm_mono n d' M' _ _ _ _ (r1, h1) hC
        · exact mm_mB hC
      have h2 := mm_mono n d M _ _ _ _ r hR
      exact ⟨Nat.le_trans h3.1 h2.1, Nat.le_trans h3.2 h2.2⟩
    · exact mm_mono n d M _ _ _ _ r hR
theorem ms_blind {G : ms_G} {vs : List Value} {h : mm_H} : FrameBlind (va_Pc vs (ms_Pc G h)) := by
  intro a U g mk q
  obtain ⟨q1, q2, q3⟩ := q
  exact ⟨q1, ms_F.to q2 (State.WarmedH.refl U) (Nat.le_refl _) (fun _ _ _ => rfl), q3⟩
section MS6
variable {G : ms_G} {p : Program} {l : Launch} {e : Env} {R : Room} {s : State} {m : MethodId} {args : Array Value} {below : List Frame} {meth : Method} {c : Code} {H : Heap} {locs : List Loc} {cells slots : Nat} {Q : State → Prop} {cc : ByteArray} {nL pc : Nat} {own : String} {ini : Bool} {ls : Array Slot} {en : mm_E} {lo : mm_L} {st : List Value} {h : mm_H} {s' : mm_S}
theorem ms_run {mc msl : Nat} {st0 rest : List Value} {r : Option Value × mm_H} {a : Array Value} (hr : va_Run p l e R s m args below meth c H locs cells slots mc msl (F0 m pc ls st0) rest (ms_Qc G r a) (ms_A G)) (hS : va_S (ms_A G) s.heap H locs)
    (kk : ∀ (H1 : Heap) (locs1 : List Loc), ms_P G r.2 H1 → va_S (ms_A G) s.heap H1 locs1 → W p l e R s m args below meth c H1 locs1 (cells + mc) (slots + msl) Q (F0 m (pc + 3) ls ((r.1.map (ms_vt G)).toList ++ rest))) : W p l e R s m args below meth c H locs cells slots Q (F0 m pc ls st0) := by
  intro T hT X
  obtain ⟨v, st₀, t, T', L, h0, X', hL, e1, e2, ⟨hv, hp, hz, hk⟩, st⟩ := hr T hT X
  cases hv
  rw [h0] at hz hk
  obtain ⟨t2, a1, b1⟩ := kk T'.heap (locs ++ L) (by rw [e1]; exact hp)
    ⟨Nat.le_trans hS.1 (by rw [e1]; exact hz), fun q h1 h2 => by rw [e1, hk q (Nat.lt_of_lt_of_le h1 hS.1) h2]; exact hS.2.1 q h1 h2, fun q hq => by
      rcases List.mem_append.mp hq with h | h
      · exact hS.2.2 q h
      · exact hL q h⟩ T' rfl X'
  exact ⟨t2, st t2 a1, b1⟩
theorem ms_pre {As : List Value} (C : ms_C G p s m args c cc nL own) (hP : ms_P G h H) (hS : va_S (ms_A G) s.heap H locs) : ∀ U : State, U.heap = H → s.WarmedH U.vm → va_Pc (As.map (ms_vt G)) (ms_Pc G h) (As.map (ms_vt G)).toArray U := by
  intro U hU hW
  refine ⟨rfl, ms_F.to C.2.2.2.2.2 hW (by rw [hU]; exact hS.1) (fun q h1 h2 => by rw [hU]; exact hS.2.1 q h1 h2), by rw [hU]; exact hP⟩
theorem ms_good {q : mm_I} (h : ms_okM q = true) : GoodIn ms_TS (ms_ws q) := by
  unfold ms_okM at h
  simp only [Bool.and_eq_true] at h
  have h1 := ms_gw_of h.1.1.1.1.1
  intro w hw
  have hw2 : w ∈ lw_tbl ∧ goodWord w = true := by
    rcases List.mem_cons.mp hw with rfl | hw
    · exact h1
    · exact List.mem_filter.mp hw
  exact ⟨List.mem_filter.mpr hw2, good_of_word hw2.2⟩
theorem ms_okM_of {q : mm_I} (h : ms_okM q = true) : ms_gw (.code q.1 q.2.1 q.2.2.1 q.2.2.2) = true ∧ ms_gw (.initialized q.1.cls) = true ∧ plainName q.1.cls = true ∧ q.1.cls ≠ "java/lang/invoke/MethodHandle" ∧ q.1.cls ≠ "java/lang/invoke/VarHandle" ∧ q.2.2.1 ≤ 21 := by
  unfold ms_okM at h
  simp only [Bool.and_eq_true, decide_eq_true_eq] at h
  exact ⟨h.1.1.1.1.1, h.1.1.1.1.2, h.1.1.1.2, h.1.1.2, h.1.2, h.2⟩
/-- the receiver's cell -/
theorem ms_recv {b y : Nat} (hF : ms_F G s) (hP : ms_P G h H) (hS : va_S (ms_A G) s.heap H locs) {C : String} (h1 : 1 ≤ mm_rc y) (h2 : mm_rc y ≤ 10 ∨ mm_rc y = 30) (hC : (match vwCl[mm_rc y - 1]? with | some r => r.1 | none => "java/lang/String") = C) (hk : h_kd h b = mm_rc y) (hb30 : mm_rc y = 30 → b < 16) : ∃ cell : Cell, H[ms_tr G b]? = some cell ∧ cell.vm.isStatics = false ∧ s.vm.findClass C = some cell.cls := by
  rcases h2 with h2 | h2
  · have h3 : mm_rc y - 1 < vwCl.length := by show _ < 10; omega
    have h4 : vwCl[mm_rc y - 1]? = some vwCl[mm_rc y - 1] := List.getElem?_eq_getElem h3
    rw [h4] at hC
    have h5 : h_kd h b = (mm_rc y - 1) + 1 := by omega
    have hhi := ms_obj_hi hF hP h5 h4
    obtain ⟨cell, g1, g2, g3, -⟩ := hP.2.2.2.2.1 b _ _ hhi h5 h4
    exact ⟨cell, g1, by rw [g3]; rfl, by rw [g2, ← hC]; exact (hF.1.1 _ _ h4).2.1⟩
  · have hb : b < 16 := hb30 h2
    rw [h2] at hC hk
    have g1 := (hP.2.2.2.1 b hb).1
    have g2 := (hF.2.2.2.2.2.2.2.2.2.1 b hb).2
    have g3 : 4 ≤ b ∧ b ≤ 8 := by omega
    obtain ⟨adV, hT⟩ := hF.2.2.2.2.2.2.2.2.1.2.1
    obtain ⟨⟨cell, q1, q2, q3, q4⟩, -⟩ := hT.1 (b - 4) (by omega)
    have e1 : ms_tr G b = g_sp G (4 + (b - 4)) := by
      unfold ms_tr
      rw [if_pos hb]
      congr 1
      omega
    refine ⟨cell, ?_, q2, by rw [← hC]; exact q3⟩
    rw [e1]
    rw [hS.2.1 _ (Array.getElem?_eq_some_iff.mp q1).1 q4]
    exact q1
theorem ms_call {n0 s0 d' : Nat} {As rest : List Value} {r1 : Option Value} {h1 : mm_H} (hB : ms_okB) (C : ms_C G p s m args c cc nL own) (hok : ms_ok own ini cc (pc, en) = true) (hl : lv_has ls nL (ms_lt G lo)) (hP : ms_P G h H) (hS : va_S (ms_A G) s.heap H locs) (hc1 : cells + n0 = h_n h) (hc2 : slots + s0 = h_s h)
    (hY : mm_Y en st h As rest) (hM : ms_Mt G l en.2.2.1 d' As h (r1, h1)) (hne : en.2.2.1 ≠ 153 ∧ en.2.2.1 < 157) (hne2 : en.2.2.1 ≠ 999) (hm : h_n h ≤ h_n h1 ∧ h_s h ≤ h_s h1) (hRf : d' + 1 ≤ R.frames) (hRl : 40 * (d' + 1) ≤ R.locals) (hR1 : h_n h1 ≤ n0 + R.cells) (hR2 : h_s h1 ≤ s0 + R.slots)
    (kk : ∀ (H' : Heap) (locs' : List Loc) (cells' slots' : Nat), ms_P G h1 H' → va_S (ms_A G) s.heap H' locs' → cells' + n0 = h_n h1 → slots' + s0 = h_s h1 → W p l e R s m args below meth c H' locs' cells' slots' Q (F0 m (pc + 3) ls ((r1.toList ++ rest).map (ms_vt G)))) :
    W p l e R s m args below meth c H locs cells slots Q (F0 m pc ls (st.map (ms_vt G))) := by
  obtain ⟨hx, hb, hml, hown, hts, hF⟩ := id C
  have hts' := ms_hts C
  obtain ⟨i, len, u, v⟩ := en
  obtain ⟨hd, hlen⟩ := ms_ok_d hok
  obtain ⟨hsum, hY⟩ := hY
  have hroom : ∀ st1, 2 * (F0 m pc ls st1).monitorRoom + ((rest.map (ms_vt G)).map fun v => v.category).sum ≤ 8 := fun st1 => by
    rw [ms_sum]
    exact lv_room hsum
  have fin : ∀ {a : Array Value}, va_Run p l e R s m args below meth c H locs cells slots (h_n h1 - h_n h) (h_s h1 - h_s h) (F0 m pc ls (st.map (ms_vt G))) (rest.map (ms_vt G)) (ms_Qc G (r1, h1) a) (ms_A G) → W p l e R s m args below meth c H locs cells slots Q (F0 m pc ls (st.map (ms_vt G))) := fun hr => by
    refine ms_run hr hS (fun H1 locs1 hP1 hS1 => ?_)
    have w := kk H1 locs1 (cells + (h_n h1 - h_n h)) (slots + (h_s h1 - h_s h)) hP1 hS1 (by omega) (by omega)
    have e1 : (r1.toList ++ rest).map (ms_vt G) = (r1.map (ms_vt G)).toList ++ rest.map (ms_vt G) := by
      rw [List.map_append]
      cases r1 <;> rfl
    rw [e1] at w
    exact w
  have hf : cells + (h_n h1 - h_n h) ≤ R.cells ∧ slots + (h_s h1 - h_s h) ≤ R.slots := by omega
  have S : CallFix p m c cc nL s args ms_TS own := ⟨hx, hb, hml, hown, hts'⟩
  have key : ∀ f : mm_I → Bool, (k : Nat) → ms_okC own k u v f = true → ∃ q, mm_is[u]? = some q ∧ ((Cond.methodLink own k q.1).before args s = true ∨ va_Nw (.methodLinkNest own k q.1 "SitterCircle") s) ∧ (parseMethodDescriptor q.1.desc).map (fun d => d.parameters.length) = some v ∧ f q = true := fun f k hk => by
    unfold ms_okC at hk
    split at hk
    · rename_i q hq
      rw [Bool.and_eq_true, Bool.and_eq_true, Bool.or_eq_true] at hk
      refine ⟨q, hq, ?_, of_decide_eq_true hk.1.2, hk.2⟩
      rcases hk.1.1 with z | z
      · exact Or.inl (ms_gd C z)
      · exact Or.inr (ms_nd C z)
    · cases hk
  cases i
  case invokestatic idx =>
    obtain rfl : len = 3 := eq_of_beq hlen
    obtain ⟨rfl, hlenA⟩ := hY
    have hok1 := ms_ok_r hok rfl
    rw [Bool.or_eq_true, Bool.or_eq_true, Bool.and_eq_true, Bool.and_eq_true, Bool.and_eq_true] at hok1
    have hne3 : u < 157 := hne.2
    have hok2 : ms_okC own idx u v (fun y => ms_gw (.static y.1)) = true := by
      rcases hok1 with (⟨z, -⟩ | ⟨z, -⟩) | ⟨-, z⟩
      · have z : u = 157 := of_decide_eq_true z
        omega
      · have z : u = 158 := of_decide_eq_true z
        omega
      · exact z
    obtain ⟨q, hq, hlink, hpar, hf2⟩ := key _ idx hok2
    have hqM := hB u q hq hne.1 hne.2
    obtain ⟨k1, k2, k3, k4, k5, k6⟩ := ms_okM_of hqM
    have hMq := hM q hq
    have hstk : (As.reverse ++ rest).map (ms_vt G) = (As.map (ms_vt G)).reverse ++ rest.map (ms_vt G) := by rw [List.map_append, List.map_reverse]
    rcases hlink with hlink | hlink
    · refine fin (va_runS S hMq ⟨callB_of v hts' (ms_good hqM) rfl rfl rfl (ms_gd C k2) hlink ⟨k4, k5, hpar⟩ ⟨hRf, by show 8 + (q.2.2.1 + 11) + 40 * d' ≤ R.locals; omega⟩, ms_gd C hf2⟩ ⟨ms_blind, ms_pre C hP hS⟩ rfl (by rw [List.length_map]; exact hlenA) hl.1 hstk (hroom _) hd hf)
    · refine fin (va_runSN S hMq ⟨va_cnB v hts' (ms_good hqM) rfl rfl rfl hlink (ms_gd C k2) ⟨k4, k5, hpar⟩ ⟨hRf, by show 8 + (q.2.2.1 + 11) + 40 * d' ≤ R.locals; omega⟩, ms_gd C hf2, trivial⟩ ⟨ms_blind, ms_pre C hP hS⟩ rfl (by rw [List.length_map]; exact hlenA) hl.1 hstk (hroom _) hd hf)
  case invokevirtual idx =>
    obtain rfl : len = 3 := eq_of_beq hlen
    obtain ⟨b, As', rfl, rfl, hlenA, hkb, hb30⟩ := hY
    obtain ⟨q, hq, hlink, hpar, hf2⟩ := key _ idx (ms_ok_r hok rfl)
    rw [Bool.and_eq_true, Bool.and_eq_true, Bool.and_eq_true, Bool.and_eq_true, Bool.and_eq_true, Bool.or_eq_true] at hf2
    obtain ⟨⟨⟨⟨⟨w1, w2⟩, w3⟩, w4⟩, w5⟩, w6⟩ := hf2
    have w6 : mm_rc u ≤ 10 ∨ mm_rc u = 30 := w6.elim (fun z => Or.inl (of_decide_eq_true z)) (fun z => Or.inr (of_decide_eq_true z))
    have hrec := ms_recv (y := u) hF hP hS (of_decide_eq_true w4) w6 (of_decide_eq_true w3) hkb hb30
    have hqM := hB u q hq hne.1 hne.2
    obtain ⟨k1, k2, k3, k4, k5, k6⟩ := ms_okM_of hqM
    have hMq := hM q hq
    have hstk : (As'.reverse ++ .ref b :: rest).map (ms_vt G) = (As'.map (ms_vt G)).reverse ++ .ref (ms_tr G b) :: rest.map (ms_vt G) := by rw [List.map_append, List.map_reverse]; rfl
    have hpre := ms_pre (As := .ref b :: As') C hP hS
    rcases hlink with hlink | hlink
    · exact fin (va_runV S hMq ⟨callB_of v hts' (ms_good hqM) rfl rfl rfl (ms_gd C k2) hlink ⟨k4, k5, hpar⟩ ⟨hRf, by show 8 + (q.2.2.1 + 11) + 40 * d' ≤ R.locals; omega⟩, ms_gd C w1, ms_gd C w2⟩ ⟨ms_blind, hrec, hpre⟩ rfl (by rw [List.length_map]; exact hlenA) hl.1 hstk (hroom _) hd hf)
    · exact fin (va_runVN S hMq ⟨va_cnB v hts' (ms_good hqM) rfl rfl rfl hlink (ms_gd C k2) ⟨k4, k5, hpar⟩ ⟨hRf, by show 8 + (q.2.2.1 + 11) + 40 * d' ≤ R.locals; omega⟩, ms_gd C w1, ms_gd C w2⟩ ⟨ms_blind, hrec, hpre⟩ rfl (by rw [List.length_map]; exact hlenA) hl.1 hstk (hroom _) hd hf)
  case invokespecial idx =>
    obtain rfl : len = 3 := eq_of_beq hlen
    obtain ⟨b, As', rfl, rfl, hlenA⟩ := hY
    have hok1 := ms_ok_r hok rfl
    rw [Bool.or_eq_true] at hok1
    have hok2 := hok1.resolve_left (fun z => by
      rw [Bool.and_eq_true, Bool.and_eq_true, Bool.and_eq_true] at z
      exact hne2 (of_decide_eq_true z.1.1.1))
    rw [Bool.and_eq_true] at hok2
    obtain ⟨q, hq, hlink, hpar, hf2⟩ := key _ idx hok2.2
    rw [Bool.and_eq_true, Bool.and_eq_true] at hf2
    obtain ⟨⟨w1, w2⟩, w3⟩ := hf2
    have w1 : q.1.name = "<init>" := of_decide_eq_true w1
    have w3 : q.2.2.2 = none := of_decide_eq_true w3
    have hqM := hB u q hq hne.1 hne.2
    obtain ⟨k1, k2, k3, k4, k5, k6⟩ := ms_okM_of hqM
    have hMq := hM q hq
    have hGd := ms_good hqM
    unfold ms_ws at hMq hGd
    rw [w3] at hMq hGd
    have hstk : (As'.reverse ++ .ref b :: rest).map (ms_vt G) = (As'.map (ms_vt G)).reverse ++ .ref (ms_tr G b) :: rest.map (ms_vt G) := by rw [List.map_append, List.map_reverse]; rfl
    have hpre := ms_pre (As := .ref b :: As') C hP hS
    rcases hlink with hlink | hlink
    · exact fin (va_runI S hMq ⟨callB_of v hts' hGd rfl rfl rfl (ms_gd C k2) hlink ⟨k4, k5, hpar⟩ ⟨hRf, by show 8 + (q.2.2.1 + 11) + 40 * d' ≤ R.locals; omega⟩, w1, ms_gd C w2⟩ ⟨ms_blind, hpre⟩ rfl (by rw [List.length_map]; exact hlenA) hl.1 hstk (hroom _) hd hf)
    · exact fin (va_runIN S hMq ⟨va_cnB v hts' hGd rfl rfl rfl hlink (ms_gd C k2) ⟨k4, k5, hpar⟩ ⟨hRf, by show 8 + (q.2.2.1 + 11) + 40 * d' ≤ R.locals; omega⟩, w1, ms_gd C w2⟩ ⟨ms_blind, hpre⟩ rfl (by rw [List.length_map]; exact hlenA) hl.1 hstk (hroom _) hd hf)
  all_goals exact False.elim hY
end MS6
end
section
/-! SOUNDNESS, 4: a run of the small machine is a walk of the real one -/
def ms_Go (G : ms_G) (l : Launch) (n : Nat) : Prop := ∀ (d : Nat) (M : mm_M) (pc : Nat) (lo : mm_L) (st : List Value) (h : mm_H) (r : Option Value × mm_H), mm_R n d M pc lo st h r →
  ∀ {p : Program} {e : Env} {R : Room} {s : State} {m : MethodId} {args : Array Value} {below : List Frame} {meth : Method} {c : Code} {H : Heap} {locs : List Loc} {cells slots : Nat} {Q : State → Prop} {cc : ByteArray} {nL : Nat} {own : String} {ini : Bool} {ls : Array Slot} {n0 s0 : Nat},
  ms_C G p s m args c cc nL own → (ini = true → meth.name = "<init>") → M.2.1 = nL → (∀ q ∈ M.2.2, ms_ok own ini cc q = true) → lv_has ls nL (ms_lt G lo) → ms_P G h H → va_S (ms_A G) s.heap H locs → cells + n0 = h_n h → slots + s0 = h_s h → d ≤ R.frames → 40 * d ≤ R.locals → h_n r.2 ≤ n0 + R.cells → h_s r.2 ≤ s0 + R.slots →
  (∀ (pc' : Nat) (en : mm_E) (st' : List Value) (H' : Heap) (locs' : List Loc) (cells' slots' : Nat) (ls' : Array Slot), (pc', en) ∈ M.2.2 → decode cc pc' = .ok (en.1, en.2.1) → ms_ln en.1 en.2.1 = true → mm_Z en st' r.1 → ms_P G r.2 H' → va_S (ms_A G) s.heap H' locs' → cells' + n0 = h_n r.2 → slots' + s0 = h_s r.2 → W p l e R s m args below meth c H' locs' cells' slots' Q (F0 m pc' ls' (st'.map (ms_vt G)))) →
  W p l e R s m args below meth c H locs cells slots Q (F0 m pc ls (st.map (ms_vt G)))
theorem ms_met {G : ms_G} {l : Launch} {n : Nat} (hAll : ms_All) (ih : ms_Go G l n) {y d : Nat} {M : mm_M} {As : List Value} {h : mm_H} {r : Option Value × mm_H} (hmt : mm_mt y = some M) (hw : (As.map fun v => v.category).sum ≤ M.2.1) (hR : mm_R n d M 0 (lv_args 0 As) [] h r) : ms_Mt G l y d As h r := by
  intro q hq
  obtain ⟨hM, hnL, hcode⟩ := hAll y M q hmt hq
  obtain ⟨k1, k2, k3, k4, k5, k6⟩ := ms_okM_of hM
  have hmono := mm_mono n d M 0 _ _ h r hR
  refine Met.ofW (cc := q.2.1) (maxL := q.2.2.1) (ret := q.2.2.2) k3 rfl ?_
  intro p e s m args below meth c s₁ B hml hv
  obtain ⟨rfl, hF, hP⟩ := hv
  have hts := atoms_spec (ws := ms_ws q) B.pre
  have hown : s.vm.findClass q.1.cls = some m.cls := findClass_of_methodNamed B.named
  have hlocks := B.notSynchronized
  have hnm : meth.name = q.1.name := (name_of_methodNamed B.named B.method).1
  have hr := B.returns
  have C : ms_C G p s m (As.map (ms_vt G)).toArray c q.2.1 q.2.2.1 q.1.cls := ⟨B.exec, B.bytes, hml, hown, fun w h1 h2 => hts w (List.mem_cons_of_mem _ (List.mem_filter.mpr ⟨h1, h2⟩)), hF⟩
  have hl := lv_entry (As.map (ms_vt G)) (n := q.2.2.1) (by rw [ms_wid, ms_sum, hnL]; exact hw)
  rw [lg_entry_eq]
  rw [ms_args] at hl
  refine ih d M 0 (lv_args 0 As) [] h r hR C (fun z => hnm.trans (eq_of_beq z)) hnL.symm (fun e he => (hcode e he).1) hl hP va_S.rf (n0 := h_n h) (s0 := h_s h) (by omega) (by omega) (Nat.le_refl _) (Nat.le_refl _) (by show h_n r.2 ≤ h_n h + (h_n r.2 - h_n h); omega) (by show h_s r.2 ≤ h_s h + (h_s r.2 - h_s h); omega) ?_
  intro pc' en st' H' locs' cells' slots' ls' hin hd hlen hZ hP' hS' hc1 hc2
  have e1 : cells' = h_n r.2 - h_n h := by omega
  have e2 : slots' = h_s r.2 - h_s h := by omega
  subst e1
  subst e2
  have hoR := (hcode _ hin).2
  have hx := B.exec
  have hb := B.bytes
  obtain ⟨i, len, u, v⟩ := en
  cases i
  case ireturn =>
    obtain rfl : len = 1 := eq_of_beq hlen
    obtain ⟨x, rfl, h01, hr1⟩ := hZ
    have hoR : ((decide (u = 0) && decide (q.2.2.2 = some .int)) || (decide (u = 1) && decide (q.2.2.2 = some .boolean))) = true := hoR
    rw [Bool.or_eq_true, Bool.and_eq_true, Bool.and_eq_true] at hoR
    have hq : ∀ t : State, t.heap = H' → s.WarmedH t.vm → ms_Qc G r (As.map (ms_vt G)).toArray s (.returned (some (.int x))) t := fun t ht _ => ⟨by rw [hr1]; rfl, by rw [ht]; exact hP', hS'.F ht⟩
    rcases hoR with ⟨-, z⟩ | ⟨z0, z⟩
    · exact W.iret hx hb (hr.trans (of_decide_eq_true z)) hq hS'.2.2 hd
    · have z0 : u = 1 := of_decide_eq_true z0
      have h01 : u = 0 ∨ x = 0 ∨ x = 1 := h01
      refine W.zret hx hb (hr.trans (of_decide_eq_true z)) ?_ hq hS'.2.2 hd
      rcases h01 with h01 | rfl | rfl
      · omega
      · rfl
      · rfl
  case return_ =>
    obtain rfl : len = 1 := eq_of_beq hlen
    obtain ⟨rfl, hr1⟩ := hZ
    exact W.vret hx hb (hr.trans (of_decide_eq_true hoR)) (fun t ht _ => ⟨by rw [hr1]; rfl, by rw [ht]; exact hP', hS'.F ht⟩) hS'.2.2 hd
  case areturn =>
    obtain rfl : len = 1 := eq_of_beq hlen
    obtain ⟨x, rfl, hr1⟩ := hZ
    have hoR : (decide (q.2.2.2 = some (.object "SitterCircle$Family")) || decide (q.2.2.2 = some (.object "java/lang/String"))) = true := hoR
    rw [Bool.or_eq_true] at hoR
    have hrt : ∃ n, meth.sig.returnType = some (.object n) := by
      rcases hoR with z | z
      · exact ⟨_, hr.trans (of_decide_eq_true z)⟩
      · exact ⟨_, hr.trans (of_decide_eq_true z)⟩
    obtain ⟨nn, hrt⟩ := hrt
    have e3 : List.map (ms_vt G) [va_rf x] = [va_rf (x.map (ms_tr G))] := by
      show [ms_vt G (va_rf x)] = _
      rw [ms_vt_rf]
    rw [e3]
    exact W.aret hx hb hrt (Or.inl ⟨nn, rfl⟩) (va_rf_or _) (fun t ht _ => ⟨by rw [hr1]; show Outcome.returned (some _) = Outcome.returned (some (ms_vt G (va_rf x))); rw [ms_vt_rf], by rw [ht]; exact hP', hS'.F ht⟩) hS'.2.2 hd
  all_goals exact False.elim hZ
set_option maxHeartbeats 4000000 in
theorem ms_main {G : ms_G} {l : Launch} (hAll : ms_All) (hBI : ms_BI G l) (hB : ms_okB) : ∀ n : Nat, ms_Go G l n := by
  intro n
  induction n with
  | zero => intro d M pc lo st h r hR; exact False.elim hR
  | succ n ih =>
    intro d M pc lo st h r hR p e R s m args below meth c H locs cells slots Q cc nL own ini ls n0 s0 C hini hnL hcode hl hP hS hc1 hc2 hRf hRl hR1 hR2 hret
    obtain ⟨en, hen, hcase⟩ := hR
    have hin := ms_clm hen
    have hok := hcode _ hin
    rw [hnL] at hcase
    rcases hcase with ⟨s', hX, hR⟩ | ⟨hZ, hr⟩ | ⟨d', As, rest, r1, h1, hdd, hY, hC, hR⟩ | ⟨d', rest, hdd, hO, hR⟩
    · rcases hX with hX | hX | hX | hX
      · refine ms_s1 C hok hl hS hX (fun eh ls' hl' => ?_)
        exact ih d M s'.1 s'.2.1 s'.2.2.1 s'.2.2.2 r hR C hini hnL hcode hl' (by rw [eh]; exact hP) hS (by rw [eh]; exact hc1) (by rw [eh]; exact hc2) hRf hRl hR1 hR2 hret
      · refine ms_s2 C hok hl hS hX (fun eh ls' hl' => ?_)
        exact ih d M s'.1 s'.2.1 s'.2.2.1 s'.2.2.2 r hR C hini hnL hcode hl' (by rw [eh]; exact hP) hS (by rw [eh]; exact hc1) (by rw [eh]; exact hc2) hRf hRl hR1 hR2 hret
      · refine ms_s3 C hok hl hS hX (fun eh ls' hl' => ?_)
        exact ih d M s'.1 s'.2.1 s'.2.2.1 s'.2.2.2 r hR C hini hnL hcode hl' (by rw [eh]; exact hP) hS (by rw [eh]; exact hc1) (by rw [eh]; exact hc2) hRf hRl hR1 hR2 hret
      · have hmo := mm_mono n d M _ _ _ _ r hR
        refine ms_s4 C hini hok hP hS hX hc1 hc2 (Nat.le_trans hmo.1 hR1) (Nat.le_trans hmo.2 hR2) (fun el H' locs' cells' slots' hP' hS' hc1' hc2' => ?_)
        exact ih d M s'.1 s'.2.1 s'.2.2.1 s'.2.2.2 r hR C hini hnL hcode (by rw [el]; exact hl) hP' hS' hc1' hc2' hRf hRl hR1 hR2 hret
    · obtain ⟨hd, hlen⟩ := ms_ok_d hok
      exact hret pc en st H locs cells slots ls hin hd hlen hZ (by rw [hr]; exact hP) hS (by rw [hr]; exact hc1) (by rw [hr]; exact hc2)
    · subst hdd
      have hmo := mm_mono n (d' + 1) M _ _ _ _ r hR
      have hm1 : h_n h ≤ h_n h1 ∧ h_s h ≤ h_s h1 := by
        rcases hC with ⟨M', -, -, hC⟩ | ⟨-, -, hC⟩
        · exact mm_mono n d' M' _ _ _ _ (r1, h1) hC
        · exact mm_mB hC
      have hMt : ms_Mt G l en.2.2.1 d' As h (r1, h1) ∧ (en.2.2.1 ≠ 153 ∧ en.2.2.1 < 157) ∧ en.2.2.1 ≠ 999 := by
        rcases hC with ⟨M', hmt, hw, hC⟩ | ⟨hmt, h20, hC⟩
        · have hlt : en.2.2.1 < mm_tab.length := (List.getElem?_eq_some_iff.mp hmt).1
          have hl9 : mm_tab.length = 153 := by rfl
          exact ⟨ms_met hAll ih hmt hw hC, by omega, by omega⟩
        · refine ⟨hBI _ _ _ _ _ hmt h20 hC, ?_⟩
          rcases hC with ⟨z, -⟩ | ⟨z, -⟩ | ⟨z, -⟩ <;> omega
      refine ms_call (n0 := n0) (s0 := s0) hB C hok hl hP hS hc1 hc2 hY hMt.1 hMt.2.1 hMt.2.2 hm1 hRf hRl (Nat.le_trans hmo.1 hR1) (Nat.le_trans hmo.2 hR2) (fun H' locs' cells' slots' hP' hS' hc1' hc2' => ?_)
      exact ih (d' + 1) M (pc + 3) lo (r1.toList ++ rest) h1 r hR C hini hnL hcode hl hP' hS' hc1' hc2' hRf hRl hR1 hR2 hret
    · subst hdd
      obtain ⟨hx, hb, hml, hown, hts, hF⟩ := id C
      obtain ⟨i, len, u, v⟩ := en
      obtain ⟨hd, hlen⟩ := ms_ok_d hok
      cases i
      case invokespecial idx =>
        obtain rfl : len = 3 := eq_of_beq hlen
        obtain ⟨hu, hsum, a, rfl⟩ := hO
        have hu : u = 999 := hu
        have hok1 := ms_ok_r hok rfl
        rw [Bool.or_eq_true] at hok1
        have hok2 := hok1.resolve_right (fun z => by
          rw [Bool.and_eq_true] at z
          exact (of_decide_eq_true z.1) hu)
        rw [Bool.and_eq_true, Bool.and_eq_true, Bool.and_eq_true] at hok2
        refine W.objInit (rest := rest.map (ms_vt G)) hx hb hown (ms_gd C hok2.1.1.2) (ms_gd C hok2.1.2) (ms_gd C hok2.2) rfl (by rw [hml]; exact hl.1) rfl hd (by omega) ?_ ?_
        · have e1 := ms_sum G rest
          show 2 * 0 + ((rest.map (ms_vt G)).map fun v => v.category).sum + 12 ≤ R.locals
          rw [e1]
          omega
        · exact ih (d' + 1) M (pc + 3) lo rest h r hR C hini hnL hcode hl hP hS hc1 hc2 hRf hRl hR1 hR2 hret
      case invokestatic idx =>
        obtain rfl : len = 3 := eq_of_beq hlen
        obtain ⟨x, y, rest2, rfl, hsum, hO⟩ := hO
        have hok1 := ms_ok_r hok rfl
        rw [Bool.or_eq_true, Bool.or_eq_true, Bool.and_eq_true, Bool.and_eq_true, Bool.and_eq_true] at hok1
        have hmo := mm_mono n (d' + 1) M _ _ _ _ r hR
        have hsum2 := ms_sum G rest2
        have hml2 : c.maxLocals = ls.size := by rw [hml, hl.1]
        have hM1 : ms_gw (.static Lib.Math.max.name) = true ∧ ms_gw (.initialized "java/lang/Math") = true ∧ ms_gw (.code Lib.Math.max.name Lib.Math.max.code 2 (some .int)) = true := by decide +kernel
        have hM2 : ms_gw (.static Lib.Math.min.name) = true ∧ ms_gw (.code Lib.Math.min.name Lib.Math.min.code 2 (some .int)) = true := by decide +kernel
        rcases hO with ⟨hu, rfl⟩ | ⟨hu, rfl⟩
        · have hu : u = 157 := hu
          have hok2 : ms_gw (.methodLink own idx Lib.Math.max.name) = true := by
            rcases hok1 with (⟨z, z2⟩ | ⟨z, -⟩) | ⟨z, -⟩
            · exact z2
            · have z : u = 158 := of_decide_eq_true z
              omega
            · have z : u < 157 := of_decide_eq_true z
              omega
          exact va_mmax (x := x) (y := y) (rest := rest2.map (ms_vt G)) hx hb hml2 hown (ms_gd C hok2) (ms_gd C hM1.1) (ms_gd C hM1.2.1) (ms_gd C hM1.2.2) (by omega) (by rw [hsum2]; omega) (by omega) (by omega) hd (ih (d' + 1) M (pc + 3) lo _ h r hR C hini hnL hcode hl hP hS hc1 hc2 hRf hRl hR1 hR2 hret)
        · have hu : u = 158 := hu
          have hok2 : ms_gw (.methodLink own idx Lib.Math.min.name) = true := by
            rcases hok1 with (⟨z, -⟩ | ⟨z, z2⟩) | ⟨z, -⟩
            · have z : u = 157 := of_decide_eq_true z
              omega
            · exact z2
            · have z : u < 157 := of_decide_eq_true z
              omega
          exact va_mmin (x := x) (y := y) (rest := rest2.map (ms_vt G)) hx hb hml2 hown (ms_gd C hok2) (ms_gd C hM2.1) (ms_gd C hM1.2.1) (ms_gd C hM2.2) (by omega) (by rw [hsum2]; omega) (by omega) (by omega) hd (ih (d' + 1) M (pc + 3) lo _ h r hR C hini hnL hcode hl hP hS hc1 hc2 hRf hRl hR1 hR2 hret)
      all_goals exact False.elim hO
end
section
/-! THE SMALL MACHINE, GOAL FIRST -/
def mk_i (n : Int) : Int32 := match n with
  | (-1) => -1
  | 0 => 0
  | 1 => 1
  | 2 => 2
  | 3 => 3
  | 4 => 4
  | 5 => 5
  | (-8) => -8
  | n => Int32.ofInt n
def mk_b (n : Int) : Int32 := match n with
  | (-20) => -20
  | (-14) => -14
  | (-13) => -13
  | (-12) => -12
  | (-11) => -11
  | (-10) => -10
  | (-4) => -4
  | (-3) => -3
  | (-2) => -2
  | 6 => 6
  | 7 => 7
  | 8 => 8
  | 10 => 10
  | 12 => 12
  | 20 => 20
  | 30 => 30
  | 31 => 31
  | 32 => 32
  | 47 => 47
  | 48 => 48
  | 50 => 50
  | 56 => 56
  | 57 => 57
  | 59 => 59
  | 60 => 60
  | 97 => 97
  | 98 => 98
  | 100 => 100
  | 101 => 101
  | 105 => 105
  | 108 => 108
  | 111 => 111
  | 112 => 112
  | 114 => 114
  | 115 => 115
  | 116 => 116
  | 117 => 117
  | 120 => 120
  | 122 => 122
  | n => (Int8.ofInt n).toInt32
def mk_s (n : Int) : Int32 := match n with
  | 144 => 144
  | 192 => 192
  | 200 => 200
  | 240 => 240
  | 400 => 400
  | 1000 => 1000
  | 2000 => 2000
  | 2001 => 2001
  | 24012 => 24012
  | n => (Int16.ofInt n).toInt32
theorem mk_ie (n : Int) : Int32.ofInt n = mk_i n := by
  unfold mk_i
  split <;> first | rfl | decide
theorem mk_be (n : Int) : (Int8.ofInt n).toInt32 = mk_b n := by
  unfold mk_b
  split <;> first | rfl | decide
theorem mk_se (n : Int) : (Int16.ofInt n).toInt32 = mk_s n := by
  unfold mk_s
  split <;> first | rfl | decide
/-- the steps that neither branch nor touch the heap -/
def mm_f (nL : Nat) (e : mm_E) (pc : Nat) (lo : mm_L) (st : List Value) : Option (Nat × mm_L × List Value) := match e.1, st with
  | .iconst n, st => some (pc + 1, lo, .int (mk_i n) :: st)
  | .bipush n, st => some (pc + 2, lo, .int (mk_b n) :: st)
  | .sipush n, st => some (pc + 3, lo, .int (mk_s n) :: st)
  | .lconst n, st => some (pc + 1, lo, .long (Int64.ofNat (n : Nat)) :: st)
  | .aconst_null, st => some (pc + 1, lo, .null :: st)
  | .ldc2_w _, st => some (pc + 3, lo, .long (Int64.ofNat e.2.2.1) :: st)
  | .ldc _, st => some (pc + 2, lo, .ref e.2.2.1 :: st)
  | .getstatic _, st => some (pc + 3, lo, .ref e.2.2.1 :: st)
  | .iload_n k, st => match mm_lk lo (k : Nat) with | some (.int x) => some (pc + 1, lo, .int x :: st) | _ => none
  | .iload k, st => match mm_lk lo k with | some (.int x) => some (pc + 2, lo, .int x :: st) | _ => none
  | .lload_n k, st => match mm_lk lo (k : Nat) with | some (.long x) => some (pc + 1, lo, .long x :: st) | _ => none
  | .lload k, st => match mm_lk lo k with | some (.long x) => some (pc + 2, lo, .long x :: st) | _ => none
  | .aload_n k, st => match mm_lk lo (k : Nat) with | some (.ref x) => some (pc + 1, lo, .ref x :: st) | _ => none
  | .aload k, st => match mm_lk lo k with | some (.ref x) => some (pc + 2, lo, .ref x :: st) | _ => none
  | .istore_n k, .int x :: st => if (k : Nat) < nL then some (pc + 1, mm_st lo (k : Nat) (.int x), st) else none
  | .istore k, .int x :: st => if k < nL then some (pc + 2, mm_st lo k (.int x), st) else none
  | .lstore_n k, .long x :: st => if (k : Nat) + 1 < nL then some (pc + 1, mm_st2 lo (k : Nat) (.long x), st) else none
  | .lstore k, .long x :: st => if k + 1 < nL then some (pc + 2, mm_st2 lo k (.long x), st) else none
  | .astore_n k, .ref x :: st => if (k : Nat) < nL then some (pc + 1, mm_st lo (k : Nat) (.ref x), st) else none
  | .astore k, .ref x :: st => if k < nL then some (pc + 2, mm_st lo k (.ref x), st) else none
  | .iinc k n, st => match mm_lk lo k with | some (.int x) => (if k < nL then some (pc + 3, mm_st lo k (.int (x + mk_i n)), st) else none) | _ => none
  | .iadd, .int y :: .int x :: st => some (pc + 1, lo, .int (x + y) :: st)
  | .isub, .int y :: .int x :: st => some (pc + 1, lo, .int (x - y) :: st)
  | .imul, .int y :: .int x :: st => some (pc + 1, lo, .int (x * y) :: st)
  | .iand, .int y :: .int x :: st => some (pc + 1, lo, .int (x &&& y) :: st)
  | .ior, .int y :: .int x :: st => some (pc + 1, lo, .int (x ||| y) :: st)
  | .ixor, .int y :: .int x :: st => some (pc + 1, lo, .int (x ^^^ y) :: st)
  | .ishl, .int y :: .int x :: st => some (pc + 1, lo, .int (x <<< (y &&& 31)) :: st)
  | .ishr, .int y :: .int x :: st => some (pc + 1, lo, .int (x >>> (y &&& 31)) :: st)
  | .ladd, .long y :: .long x :: st => some (pc + 1, lo, .long (x + y) :: st)
  | .land, .long y :: .long x :: st => some (pc + 1, lo, .long (x &&& y) :: st)
  | .lor, .long y :: .long x :: st => some (pc + 1, lo, .long (x ||| y) :: st)
  | .lshl, .int y :: .long x :: st => some (pc + 1, lo, .long (x <<< (y.toInt64 &&& 63)) :: st)
  | .lshr, .int y :: .long x :: st => some (pc + 1, lo, .long (x >>> (y.toInt64 &&& 63)) :: st)
  | .lushr, .int y :: .long x :: st => some (pc + 1, lo, .long (x.toUInt64 >>> (y.toInt64.toUInt64 &&& Int64.toUInt64 63)).toInt64 :: st)
  | .lcmp, .long y :: .long x :: st => some (pc + 1, lo, .int (lg_cmp x y) :: st)
  | .i2l, .int x :: st => some (pc + 1, lo, .long x.toInt64 :: st)
  | .l2i, .long x :: st => some (pc + 1, lo, .int x.toInt32 :: st)
  | .i2b, .int x :: st => some (pc + 1, lo, .int x.toInt8.toInt32 :: st)
  | .dup, .int x :: st => some (pc + 1, lo, .int x :: .int x :: st)
  | .dup, .ref x :: st => some (pc + 1, lo, .ref x :: .ref x :: st)
  | .dup2, .int y :: .int x :: st => some (pc + 1, lo, .int y :: .int x :: .int y :: .int x :: st)
  | .dup2, .int y :: .ref x :: st => some (pc + 1, lo, .int y :: .ref x :: .int y :: .ref x :: st)
  | .pop, .int _ :: st => some (pc + 1, lo, st)
  | .goto off, st => match (pc : Int) + off with | .ofNat t => some (t, lo, st) | .negSucc _ => none
  | _, _ => none
def mm_fb (nL : Nat) (cd : List (Nat × mm_E)) : Nat → Nat × mm_L × List Value → Option (Nat × mm_L × List Value)
  | 0, s => some s
  | k + 1, s => match mm_cl cd s.1 with
    | some e => (match mm_f nL e s.1 s.2.1 s.2.2 with
      | some s2 => mm_fb nL cd k s2
      | none => none)
    | none => none
def w_p (d : Nat) (M : mm_M) (pc : Nat) (lo : mm_L) (st : List Value) (h : mm_H) (Q : Option Value → mm_H → Prop) : Prop := ∃ (n : Nat) (r : Option Value × mm_H), mm_R n d M pc lo st h r ∧ Q r.1 r.2
def w_k (n d y : Nat) (As : List Value) (h : mm_H) (r : Option Value × mm_H) : Prop := (∃ M, mm_mt y = some M ∧ (As.map fun v => v.category).sum ≤ M.2.1 ∧ mm_R n d M 0 (lv_args 0 As) [] h r) ∨ (mm_mt y = none ∧ 20 ≤ d ∧ mm_B y As h r)
def w_c (d y : Nat) (As : List Value) (h : mm_H) (Q : Option Value → mm_H → Prop) : Prop := ∃ (n : Nat) (r : Option Value × mm_H), w_k n d y As h r ∧ Q r.1 r.2
theorem mm_up : ∀ (n n' d d' : Nat) (M : mm_M) (pc : Nat) (lo : mm_L) (st : List Value) (h : mm_H) (r : Option Value × mm_H), n ≤ n' → d ≤ d' → mm_R n d M pc lo st h r → mm_R n' d' M pc lo st h r
  | 0, _, _, _, _, _, _, _, _, _, _, _, hR => False.elim hR
  | n + 1, 0, _, _, _, _, _, _, _, _, hn, _, _ => absurd hn (Nat.not_succ_le_zero n)
  | n + 1, n' + 1, d, d', M, pc, lo, st, h, r, hn, hd, hR => by
    have hn : n ≤ n' := Nat.le_of_succ_le_succ hn
    obtain ⟨e, he, hc⟩ := hR
    refine ⟨e, he, ?_⟩
    rcases hc with ⟨s', hX, hR⟩ | hZ | ⟨k, As, rest, r1, h1, rfl, hY, hC, hR⟩ | ⟨k, rest, rfl, hO, hR⟩
    · exact Or.inl ⟨s', hX, mm_up n n' d d' M _ _ _ _ r hn hd hR⟩
    · exact Or.inr (Or.inl hZ)
    · obtain ⟨k', rfl⟩ : ∃ k', d' = k' + 1 := ⟨d' - 1, by omega⟩
      refine Or.inr (Or.inr (Or.inl ⟨k', As, rest, r1, h1, rfl, hY, ?_, mm_up n n' (k + 1) (k' + 1) M _ _ _ _ r hn hd hR⟩))
      rcases hC with ⟨M', hM, hs, hC⟩ | ⟨hM, h20, hC⟩
      · exact Or.inl ⟨M', hM, hs, mm_up n n' k k' M' _ _ _ _ _ hn (by omega) hC⟩
      · exact Or.inr ⟨hM, by omega, hC⟩
    · obtain ⟨k', rfl⟩ : ∃ k', d' = k' + 1 := ⟨d' - 1, by omega⟩
      exact Or.inr (Or.inr (Or.inr ⟨k', rest, rfl, hO, mm_up n n' (k + 1) (k' + 1) M _ _ _ _ r hn hd hR⟩))
theorem w_k.up {n n' d d' y : Nat} {As : List Value} {h : mm_H} {r : Option Value × mm_H} (hn : n ≤ n') (hd : d ≤ d') (hk : w_k n d y As h r) : w_k n' d' y As h r := by
  rcases hk with ⟨M, h1, h2, h3⟩ | ⟨h1, h2, h3⟩
  · exact Or.inl ⟨M, h1, h2, mm_up _ _ _ _ _ _ _ _ _ _ hn hd h3⟩
  · exact Or.inr ⟨h1, by omega, h3⟩
theorem w_c.up {d d' y : Nat} {As : List Value} {h : mm_H} {Q : Option Value → mm_H → Prop} (hd : d ≤ d') (hc : w_c d y As h Q) : w_c d' y As h Q := by
  obtain ⟨n, r, h1, h2⟩ := hc
  exact ⟨n, r, h1.up (Nat.le_refl n) hd, h2⟩
theorem w_c.mono {d y : Nat} {As : List Value} {h : mm_H} {Q Q' : Option Value → mm_H → Prop} (hc : w_c d y As h Q) (hq : ∀ r h, Q r h → Q' r h) : w_c d y As h Q' := by
  obtain ⟨n, r, h1, h2⟩ := hc
  exact ⟨n, r, h1, hq _ _ h2⟩
theorem w_p.up {d d' : Nat} {M : mm_M} {pc : Nat} {lo : mm_L} {st : List Value} {h : mm_H} {Q : Option Value → mm_H → Prop} (hd : d ≤ d') (hc : w_p d M pc lo st h Q) : w_p d' M pc lo st h Q := by
  obtain ⟨n, r, h1, h2⟩ := hc
  exact ⟨n, r, mm_up _ _ _ _ _ _ _ _ _ _ (Nat.le_refl n) hd h1, h2⟩
theorem w_p.mono {d : Nat} {M : mm_M} {pc : Nat} {lo : mm_L} {st : List Value} {h : mm_H} {Q Q' : Option Value → mm_H → Prop} (hc : w_p d M pc lo st h Q) (hq : ∀ r h, Q r h → Q' r h) : w_p d M pc lo st h Q' := by
  obtain ⟨n, r, h1, h2⟩ := hc
  exact ⟨n, r, h1, hq _ _ h2⟩
/-- a method from its entry -/
theorem w_ci {d y : Nat} {M : mm_M} {As : List Value} {h : mm_H} {Q : Option Value → mm_H → Prop} (hM : mm_mt y = some M) (hs : (As.map fun v => v.category).sum ≤ M.2.1) (hp : w_p d M 0 (lv_args 0 As) [] h Q) : w_c d y As h Q := by
  obtain ⟨n, r, h1, h2⟩ := hp
  exact ⟨n, r, Or.inl ⟨M, hM, hs, h1⟩, h2⟩
section WP
variable {d : Nat} {M : mm_M} {pc : Nat} {lo : mm_L} {st rest : List Value} {h : mm_H} {Q : Option Value → mm_H → Prop} {e : mm_E} {i len u v : Nat}
theorem w_x {s' : mm_S} (hc : mm_cl M.2.2 pc = some e) (hX : mm_X M.2.1 e pc lo st h s') (k : w_p d M s'.1 s'.2.1 s'.2.2.1 s'.2.2.2 Q) : w_p d M pc lo st h Q := by
  obtain ⟨n, r, h1, h2⟩ := k
  exact ⟨n + 1, r, ⟨e, hc, Or.inl ⟨s', hX, h1⟩⟩, h2⟩
set_option maxHeartbeats 4000000 in
theorem mm_fX {nL : Nat} {s2 : Nat × mm_L × List Value} (hf : mm_f nL e pc lo st = some s2) : mm_X nL e pc lo st h (s2.1, s2.2.1, s2.2.2, h) := by
  obtain ⟨i, len, u, v⟩ := e
  cases i
  case iconst n =>
    obtain rfl : _ = s2 := Option.some.inj hf
    refine Or.inl ?_
    show _ = _
    rw [mk_ie]
  case bipush n =>
    obtain rfl : _ = s2 := Option.some.inj hf
    refine Or.inl ?_
    show _ = _
    rw [mk_be]
  case sipush n =>
    obtain rfl : _ = s2 := Option.some.inj hf
    refine Or.inl ?_
    show _ = _
    rw [mk_se]
  case lconst n =>
    obtain rfl : _ = s2 := Option.some.inj hf
    exact Or.inl rfl
  case aconst_null  =>
    obtain rfl : _ = s2 := Option.some.inj hf
    exact Or.inl rfl
  case ldc2_w k =>
    obtain rfl : _ = s2 := Option.some.inj hf
    exact Or.inl rfl
  case ldc k =>
    obtain rfl : _ = s2 := Option.some.inj hf
    exact Or.inl rfl
  case getstatic k =>
    obtain rfl : _ = s2 := Option.some.inj hf
    exact Or.inl rfl
  case iload_n k =>
    have hf : (match mm_lk lo (k : Nat) with | some (.int x) => some (pc + 1, lo, (.int x : Value) :: st) | _ => none) = some s2 := hf
    split at hf
    · rename_i x hk
      obtain rfl : _ = s2 := Option.some.inj hf
      exact Or.inl ⟨x, hk, rfl⟩
    · cases hf
  case iload k =>
    have hf : (match mm_lk lo k with | some (.int x) => some (pc + 2, lo, (.int x : Value) :: st) | _ => none) = some s2 := hf
    split at hf
    · rename_i x hk
      obtain rfl : _ = s2 := Option.some.inj hf
      exact Or.inl ⟨x, hk, rfl⟩
    · cases hf
  case lload_n k =>
    have hf : (match mm_lk lo (k : Nat) with | some (.long x) => some (pc + 1, lo, (.long x : Value) :: st) | _ => none) = some s2 := hf
    split at hf
    · rename_i x hk
      obtain rfl : _ = s2 := Option.some.inj hf
      exact Or.inl ⟨x, hk, rfl⟩
    · cases hf
  case lload k =>
    have hf : (match mm_lk lo k with | some (.long x) => some (pc + 2, lo, (.long x : Value) :: st) | _ => none) = some s2 := hf
    split at hf
    · rename_i x hk
      obtain rfl : _ = s2 := Option.some.inj hf
      exact Or.inl ⟨x, hk, rfl⟩
    · cases hf
  case aload_n k =>
    have hf : (match mm_lk lo (k : Nat) with | some (.ref x) => some (pc + 1, lo, (.ref x : Value) :: st) | _ => none) = some s2 := hf
    split at hf
    · rename_i x hk
      obtain rfl : _ = s2 := Option.some.inj hf
      exact Or.inl ⟨some x, hk, rfl⟩
    · cases hf
  case aload k =>
    have hf : (match mm_lk lo k with | some (.ref x) => some (pc + 2, lo, (.ref x : Value) :: st) | _ => none) = some s2 := hf
    split at hf
    · rename_i x hk
      obtain rfl : _ = s2 := Option.some.inj hf
      exact Or.inl ⟨some x, hk, rfl⟩
    · cases hf
  case istore_n k =>
    match st, hf with
    | .int x :: st, hf =>
      have hf : (if (k : Nat) < nL then some (pc + 1, mm_st lo (k : Nat) (.int x), st) else none) = some s2 := hf
      split at hf
      · rename_i hk
        obtain rfl : _ = s2 := Option.some.inj hf
        exact Or.inl ⟨x, st, rfl, hk, rfl⟩
      · cases hf
  case istore k =>
    match st, hf with
    | .int x :: st, hf =>
      have hf : (if k < nL then some (pc + 2, mm_st lo k (.int x), st) else none) = some s2 := hf
      split at hf
      · rename_i hk
        obtain rfl : _ = s2 := Option.some.inj hf
        exact Or.inl ⟨x, st, rfl, hk, rfl⟩
      · cases hf
  case lstore_n k =>
    match st, hf with
    | .long x :: st, hf =>
      have hf : (if (k : Nat) + 1 < nL then some (pc + 1, mm_st2 lo (k : Nat) (.long x), st) else none) = some s2 := hf
      split at hf
      · rename_i hk
        obtain rfl : _ = s2 := Option.some.inj hf
        exact Or.inl ⟨x, st, rfl, hk, rfl⟩
      · cases hf
  case lstore k =>
    match st, hf with
    | .long x :: st, hf =>
      have hf : (if k + 1 < nL then some (pc + 2, mm_st2 lo k (.long x), st) else none) = some s2 := hf
      split at hf
      · rename_i hk
        obtain rfl : _ = s2 := Option.some.inj hf
        exact Or.inl ⟨x, st, rfl, hk, rfl⟩
      · cases hf
  case astore_n k =>
    match st, hf with
    | .ref x :: st, hf =>
      have hf : (if (k : Nat) < nL then some (pc + 1, mm_st lo (k : Nat) (.ref x), st) else none) = some s2 := hf
      split at hf
      · rename_i hk
        obtain rfl : _ = s2 := Option.some.inj hf
        exact Or.inl ⟨some x, st, rfl, hk, rfl⟩
      · cases hf
  case astore k =>
    match st, hf with
    | .ref x :: st, hf =>
      have hf : (if k < nL then some (pc + 2, mm_st lo k (.ref x), st) else none) = some s2 := hf
      split at hf
      · rename_i hk
        obtain rfl : _ = s2 := Option.some.inj hf
        exact Or.inl ⟨some x, st, rfl, hk, rfl⟩
      · cases hf
  case iinc k n =>
    have hf : (match mm_lk lo k with | some (.int x) => (if k < nL then some (pc + 3, mm_st lo k (.int (x + mk_i n)), st) else none) | _ => none) = some s2 := hf
    split at hf
    · rename_i x hk
      split at hf
      · rename_i hk2
        obtain rfl : _ = s2 := Option.some.inj hf
        refine Or.inl ⟨x, hk, hk2, ?_⟩
        rw [mk_ie]
      · cases hf
    · cases hf
  case iadd  =>
    match st, hf with
    | .int y :: .int x :: st, hf => obtain rfl : _ = s2 := Option.some.inj hf; exact Or.inr (Or.inl ⟨_, _, _, rfl, rfl⟩)
  case isub  =>
    match st, hf with
    | .int y :: .int x :: st, hf => obtain rfl : _ = s2 := Option.some.inj hf; exact Or.inr (Or.inl ⟨_, _, _, rfl, rfl⟩)
  case imul  =>
    match st, hf with
    | .int y :: .int x :: st, hf => obtain rfl : _ = s2 := Option.some.inj hf; exact Or.inr (Or.inl ⟨_, _, _, rfl, rfl⟩)
  case iand  =>
    match st, hf with
    | .int y :: .int x :: st, hf => obtain rfl : _ = s2 := Option.some.inj hf; exact Or.inr (Or.inl ⟨_, _, _, rfl, rfl⟩)
  case ior  =>
    match st, hf with
    | .int y :: .int x :: st, hf => obtain rfl : _ = s2 := Option.some.inj hf; exact Or.inr (Or.inl ⟨_, _, _, rfl, rfl⟩)
  case ixor  =>
    match st, hf with
    | .int y :: .int x :: st, hf => obtain rfl : _ = s2 := Option.some.inj hf; exact Or.inr (Or.inl ⟨_, _, _, rfl, rfl⟩)
  case ishl  =>
    match st, hf with
    | .int y :: .int x :: st, hf => obtain rfl : _ = s2 := Option.some.inj hf; exact Or.inr (Or.inl ⟨_, _, _, rfl, rfl⟩)
  case ishr  =>
    match st, hf with
    | .int y :: .int x :: st, hf => obtain rfl : _ = s2 := Option.some.inj hf; exact Or.inr (Or.inl ⟨_, _, _, rfl, rfl⟩)
  case ladd  =>
    match st, hf with
    | .long y :: .long x :: st, hf => obtain rfl : _ = s2 := Option.some.inj hf; exact Or.inr (Or.inl ⟨_, _, _, rfl, rfl⟩)
  case land  =>
    match st, hf with
    | .long y :: .long x :: st, hf => obtain rfl : _ = s2 := Option.some.inj hf; exact Or.inr (Or.inl ⟨_, _, _, rfl, rfl⟩)
  case lor  =>
    match st, hf with
    | .long y :: .long x :: st, hf => obtain rfl : _ = s2 := Option.some.inj hf; exact Or.inr (Or.inl ⟨_, _, _, rfl, rfl⟩)
  case lshl  =>
    match st, hf with
    | .int y :: .long x :: st, hf => obtain rfl : _ = s2 := Option.some.inj hf; exact Or.inr (Or.inl ⟨_, _, _, rfl, rfl⟩)
  case lshr  =>
    match st, hf with
    | .int y :: .long x :: st, hf => obtain rfl : _ = s2 := Option.some.inj hf; exact Or.inr (Or.inl ⟨_, _, _, rfl, rfl⟩)
  case lushr  =>
    match st, hf with
    | .int y :: .long x :: st, hf => obtain rfl : _ = s2 := Option.some.inj hf; exact Or.inr (Or.inl ⟨_, _, _, rfl, rfl⟩)
  case lcmp  =>
    match st, hf with
    | .long y :: .long x :: st, hf => obtain rfl : _ = s2 := Option.some.inj hf; exact Or.inr (Or.inl ⟨_, _, _, rfl, rfl⟩)
  case i2l  =>
    match st, hf with
    | .int x :: st, hf => obtain rfl : _ = s2 := Option.some.inj hf; exact Or.inr (Or.inl ⟨_, _, rfl, rfl⟩)
  case l2i  =>
    match st, hf with
    | .long x :: st, hf => obtain rfl : _ = s2 := Option.some.inj hf; exact Or.inr (Or.inl ⟨_, _, rfl, rfl⟩)
  case i2b  =>
    match st, hf with
    | .int x :: st, hf => obtain rfl : _ = s2 := Option.some.inj hf; exact Or.inr (Or.inl ⟨_, _, rfl, rfl⟩)
  case dup  =>
    match st, hf with
    | .int x :: st, hf => obtain rfl : _ = s2 := Option.some.inj hf; exact Or.inr (Or.inl ⟨_, _, rfl, rfl, rfl⟩)
    | .ref x :: st, hf => obtain rfl : _ = s2 := Option.some.inj hf; exact Or.inr (Or.inl ⟨_, _, rfl, rfl, rfl⟩)
  case dup2  =>
    match st, hf with
    | .int y :: .int x :: st, hf => obtain rfl : _ = s2 := Option.some.inj hf; exact Or.inr (Or.inl ⟨_, _, _, rfl, rfl, rfl, rfl⟩)
    | .int y :: .ref x :: st, hf => obtain rfl : _ = s2 := Option.some.inj hf; exact Or.inr (Or.inl ⟨_, _, _, rfl, rfl, rfl, rfl⟩)
  case pop  =>
    match st, hf with
    | .int x :: st, hf => obtain rfl : _ = s2 := Option.some.inj hf; exact Or.inr (Or.inl ⟨_, _, rfl, rfl, rfl⟩)
  case goto off =>
    have hf : (match (pc : Int) + off with | .ofNat t => some (t, lo, st) | .negSucc _ => none) = some s2 := hf
    split at hf
    · rename_i t ht
      obtain rfl : _ = s2 := Option.some.inj hf
      exact Or.inr (Or.inr (Or.inl ⟨t, ht, rfl⟩))
    · cases hf
  all_goals (exfalso; revert hf; unfold mm_f; intro hf; cases hf)
theorem w_bx : ∀ (k : Nat) (s s2 : Nat × mm_L × List Value), mm_fb M.2.1 M.2.2 k s = some s2 → w_p d M s2.1 s2.2.1 s2.2.2 h Q → w_p d M s.1 s.2.1 s.2.2 h Q
  | 0, s, s2, hf, hk => by
    obtain rfl : s = s2 := Option.some.inj hf
    exact hk
  | k + 1, s, s2, hf, hk => by
    unfold mm_fb at hf
    split at hf
    · rename_i e he
      split at hf
      · rename_i s3 h3
        exact w_x he (mm_fX h3) (w_bx k s3 s2 hf hk)
      · cases hf
    · cases hf
/-- a block of such steps -/
theorem w_b (k pc2 : Nat) (lo2 : mm_L) (st2 : List Value) (hf : mm_fb M.2.1 M.2.2 k (pc, lo, st) = some (pc2, lo2, st2)) (hk : w_p d M pc2 lo2 st2 h Q) : w_p d M pc lo st h Q := w_bx k (pc, lo, st) (pc2, lo2, st2) hf hk
theorem w_if_eq {off : Int} {tgt : Nat} {x : Int32} (hc : mm_cl M.2.2 pc = some (.ifCond .eq off, len, u, v)) (ht : (pc : Int) + off = (tgt : Int)) (k : (x = 0 → w_p d M tgt lo st h Q) ∧ (¬ (x = 0) → w_p d M (pc + 3) lo st h Q)) : w_p d M pc lo (.int x :: st) h Q := by
  by_cases c : x = 0
  · exact w_x (s' := (tgt, lo, st, h)) hc (Or.inr (Or.inr (Or.inl ⟨tgt, x, st, ht, rfl, by rw [if_pos (show mm_cz .eq x = true from decide_eq_true c)]⟩))) (k.1 c)
  · exact w_x (s' := (pc + 3, lo, st, h)) hc (Or.inr (Or.inr (Or.inl ⟨tgt, x, st, ht, rfl, by rw [if_neg (show ¬ mm_cz .eq x = true from fun z => c (of_decide_eq_true z))]⟩))) (k.2 c)
theorem w_if_ne {off : Int} {tgt : Nat} {x : Int32} (hc : mm_cl M.2.2 pc = some (.ifCond .ne off, len, u, v)) (ht : (pc : Int) + off = (tgt : Int)) (k : (¬ x = 0 → w_p d M tgt lo st h Q) ∧ (¬ (¬ x = 0) → w_p d M (pc + 3) lo st h Q)) : w_p d M pc lo (.int x :: st) h Q := by
  by_cases c : ¬ x = 0
  · exact w_x (s' := (tgt, lo, st, h)) hc (Or.inr (Or.inr (Or.inl ⟨tgt, x, st, ht, rfl, by rw [if_pos (show mm_cz .ne x = true from decide_eq_true c)]⟩))) (k.1 c)
  · exact w_x (s' := (pc + 3, lo, st, h)) hc (Or.inr (Or.inr (Or.inl ⟨tgt, x, st, ht, rfl, by rw [if_neg (show ¬ mm_cz .ne x = true from fun z => c (of_decide_eq_true z))]⟩))) (k.2 c)
theorem w_if_lt {off : Int} {tgt : Nat} {x : Int32} (hc : mm_cl M.2.2 pc = some (.ifCond .lt off, len, u, v)) (ht : (pc : Int) + off = (tgt : Int)) (k : (x < 0 → w_p d M tgt lo st h Q) ∧ (¬ (x < 0) → w_p d M (pc + 3) lo st h Q)) : w_p d M pc lo (.int x :: st) h Q := by
  by_cases c : x < 0
  · exact w_x (s' := (tgt, lo, st, h)) hc (Or.inr (Or.inr (Or.inl ⟨tgt, x, st, ht, rfl, by rw [if_pos (show mm_cz .lt x = true from decide_eq_true c)]⟩))) (k.1 c)
  · exact w_x (s' := (pc + 3, lo, st, h)) hc (Or.inr (Or.inr (Or.inl ⟨tgt, x, st, ht, rfl, by rw [if_neg (show ¬ mm_cz .lt x = true from fun z => c (of_decide_eq_true z))]⟩))) (k.2 c)
theorem w_if_ge {off : Int} {tgt : Nat} {x : Int32} (hc : mm_cl M.2.2 pc = some (.ifCond .ge off, len, u, v)) (ht : (pc : Int) + off = (tgt : Int)) (k : (0 ≤ x → w_p d M tgt lo st h Q) ∧ (¬ (0 ≤ x) → w_p d M (pc + 3) lo st h Q)) : w_p d M pc lo (.int x :: st) h Q := by
  by_cases c : 0 ≤ x
  · exact w_x (s' := (tgt, lo, st, h)) hc (Or.inr (Or.inr (Or.inl ⟨tgt, x, st, ht, rfl, by rw [if_pos (show mm_cz .ge x = true from decide_eq_true c)]⟩))) (k.1 c)
  · exact w_x (s' := (pc + 3, lo, st, h)) hc (Or.inr (Or.inr (Or.inl ⟨tgt, x, st, ht, rfl, by rw [if_neg (show ¬ mm_cz .ge x = true from fun z => c (of_decide_eq_true z))]⟩))) (k.2 c)
theorem w_if_gt {off : Int} {tgt : Nat} {x : Int32} (hc : mm_cl M.2.2 pc = some (.ifCond .gt off, len, u, v)) (ht : (pc : Int) + off = (tgt : Int)) (k : (0 < x → w_p d M tgt lo st h Q) ∧ (¬ (0 < x) → w_p d M (pc + 3) lo st h Q)) : w_p d M pc lo (.int x :: st) h Q := by
  by_cases c : 0 < x
  · exact w_x (s' := (tgt, lo, st, h)) hc (Or.inr (Or.inr (Or.inl ⟨tgt, x, st, ht, rfl, by rw [if_pos (show mm_cz .gt x = true from decide_eq_true c)]⟩))) (k.1 c)
  · exact w_x (s' := (pc + 3, lo, st, h)) hc (Or.inr (Or.inr (Or.inl ⟨tgt, x, st, ht, rfl, by rw [if_neg (show ¬ mm_cz .gt x = true from fun z => c (of_decide_eq_true z))]⟩))) (k.2 c)
theorem w_if_le {off : Int} {tgt : Nat} {x : Int32} (hc : mm_cl M.2.2 pc = some (.ifCond .le off, len, u, v)) (ht : (pc : Int) + off = (tgt : Int)) (k : (x ≤ 0 → w_p d M tgt lo st h Q) ∧ (¬ (x ≤ 0) → w_p d M (pc + 3) lo st h Q)) : w_p d M pc lo (.int x :: st) h Q := by
  by_cases c : x ≤ 0
  · exact w_x (s' := (tgt, lo, st, h)) hc (Or.inr (Or.inr (Or.inl ⟨tgt, x, st, ht, rfl, by rw [if_pos (show mm_cz .le x = true from decide_eq_true c)]⟩))) (k.1 c)
  · exact w_x (s' := (pc + 3, lo, st, h)) hc (Or.inr (Or.inr (Or.inl ⟨tgt, x, st, ht, rfl, by rw [if_neg (show ¬ mm_cz .le x = true from fun z => c (of_decide_eq_true z))]⟩))) (k.2 c)
theorem w_ic_eq {off : Int} {tgt : Nat} {x y : Int32} (hc : mm_cl M.2.2 pc = some (.if_icmp .eq off, len, u, v)) (ht : (pc : Int) + off = (tgt : Int)) (k : (x = y → w_p d M tgt lo st h Q) ∧ (¬ (x = y) → w_p d M (pc + 3) lo st h Q)) : w_p d M pc lo (.int y :: .int x :: st) h Q := by
  by_cases c : x = y
  · exact w_x (s' := (tgt, lo, st, h)) hc (Or.inr (Or.inr (Or.inl ⟨tgt, x, y, st, ht, rfl, by rw [if_pos (show mm_c2 .eq x y = true from decide_eq_true c)]⟩))) (k.1 c)
  · exact w_x (s' := (pc + 3, lo, st, h)) hc (Or.inr (Or.inr (Or.inl ⟨tgt, x, y, st, ht, rfl, by rw [if_neg (show ¬ mm_c2 .eq x y = true from fun z => c (of_decide_eq_true z))]⟩))) (k.2 c)
theorem w_ic_ne {off : Int} {tgt : Nat} {x y : Int32} (hc : mm_cl M.2.2 pc = some (.if_icmp .ne off, len, u, v)) (ht : (pc : Int) + off = (tgt : Int)) (k : (¬ x = y → w_p d M tgt lo st h Q) ∧ (¬ (¬ x = y) → w_p d M (pc + 3) lo st h Q)) : w_p d M pc lo (.int y :: .int x :: st) h Q := by
  by_cases c : ¬ x = y
  · exact w_x (s' := (tgt, lo, st, h)) hc (Or.inr (Or.inr (Or.inl ⟨tgt, x, y, st, ht, rfl, by rw [if_pos (show mm_c2 .ne x y = true from decide_eq_true c)]⟩))) (k.1 c)
  · exact w_x (s' := (pc + 3, lo, st, h)) hc (Or.inr (Or.inr (Or.inl ⟨tgt, x, y, st, ht, rfl, by rw [if_neg (show ¬ mm_c2 .ne x y = true from fun z => c (of_decide_eq_true z))]⟩))) (k.2 c)
theorem w_ic_lt {off : Int} {tgt : Nat} {x y : Int32} (hc : mm_cl M.2.2 pc = some (.if_icmp .lt off, len, u, v)) (ht : (pc : Int) + off = (tgt : Int)) (k : (x < y → w_p d M tgt lo st h Q) ∧ (¬ (x < y) → w_p d M (pc + 3) lo st h Q)) : w_p d M pc lo (.int y :: .int x :: st) h Q := by
  by_cases c : x < y
  · exact w_x (s' := (tgt, lo, st, h)) hc (Or.inr (Or.inr (Or.inl ⟨tgt, x, y, st, ht, rfl, by rw [if_pos (show mm_c2 .lt x y = true from decide_eq_true c)]⟩))) (k.1 c)
  · exact w_x (s' := (pc + 3, lo, st, h)) hc (Or.inr (Or.inr (Or.inl ⟨tgt, x, y, st, ht, rfl, by rw [if_neg (show ¬ mm_c2 .lt x y = true from fun z => c (of_decide_eq_true z))]⟩))) (k.2 c)
theorem w_ic_ge {off : Int} {tgt : Nat} {x y : Int32} (hc : mm_cl M.2.2 pc = some (.if_icmp .ge off, len, u, v)) (ht : (pc : Int) + off = (tgt : Int)) (k : (y ≤ x → w_p d M tgt lo st h Q) ∧ (¬ (y ≤ x) → w_p d M (pc + 3) lo st h Q)) : w_p d M pc lo (.int y :: .int x :: st) h Q := by
  by_cases c : y ≤ x
  · exact w_x (s' := (tgt, lo, st, h)) hc (Or.inr (Or.inr (Or.inl ⟨tgt, x, y, st, ht, rfl, by rw [if_pos (show mm_c2 .ge x y = true from decide_eq_true c)]⟩))) (k.1 c)
  · exact w_x (s' := (pc + 3, lo, st, h)) hc (Or.inr (Or.inr (Or.inl ⟨tgt, x, y, st, ht, rfl, by rw [if_neg (show ¬ mm_c2 .ge x y = true from fun z => c (of_decide_eq_true z))]⟩))) (k.2 c)
theorem w_ic_gt {off : Int} {tgt : Nat} {x y : Int32} (hc : mm_cl M.2.2 pc = some (.if_icmp .gt off, len, u, v)) (ht : (pc : Int) + off = (tgt : Int)) (k : (y < x → w_p d M tgt lo st h Q) ∧ (¬ (y < x) → w_p d M (pc + 3) lo st h Q)) : w_p d M pc lo (.int y :: .int x :: st) h Q := by
  by_cases c : y < x
  · exact w_x (s' := (tgt, lo, st, h)) hc (Or.inr (Or.inr (Or.inl ⟨tgt, x, y, st, ht, rfl, by rw [if_pos (show mm_c2 .gt x y = true from decide_eq_true c)]⟩))) (k.1 c)
  · exact w_x (s' := (pc + 3, lo, st, h)) hc (Or.inr (Or.inr (Or.inl ⟨tgt, x, y, st, ht, rfl, by rw [if_neg (show ¬ mm_c2 .gt x y = true from fun z => c (of_decide_eq_true z))]⟩))) (k.2 c)
theorem w_ic_le {off : Int} {tgt : Nat} {x y : Int32} (hc : mm_cl M.2.2 pc = some (.if_icmp .le off, len, u, v)) (ht : (pc : Int) + off = (tgt : Int)) (k : (x ≤ y → w_p d M tgt lo st h Q) ∧ (¬ (x ≤ y) → w_p d M (pc + 3) lo st h Q)) : w_p d M pc lo (.int y :: .int x :: st) h Q := by
  by_cases c : x ≤ y
  · exact w_x (s' := (tgt, lo, st, h)) hc (Or.inr (Or.inr (Or.inl ⟨tgt, x, y, st, ht, rfl, by rw [if_pos (show mm_c2 .le x y = true from decide_eq_true c)]⟩))) (k.1 c)
  · exact w_x (s' := (pc + 3, lo, st, h)) hc (Or.inr (Or.inr (Or.inl ⟨tgt, x, y, st, ht, rfl, by rw [if_neg (show ¬ mm_c2 .le x y = true from fun z => c (of_decide_eq_true z))]⟩))) (k.2 c)
theorem w_ifnull {off : Int} {tgt : Nat} {r : Option Nat} (hc : mm_cl M.2.2 pc = some (.ifnull off, len, u, v)) (ht : (pc : Int) + off = (tgt : Int)) (k : (r = none → w_p d M tgt lo st h Q) ∧ (∀ a, r = some a → w_p d M (pc + 3) lo st h Q)) : w_p d M pc lo (va_rf r :: st) h Q := by
  cases r with
  | none => exact w_x (s' := (tgt, lo, st, h)) hc (Or.inr (Or.inr (Or.inl ⟨tgt, none, st, ht, rfl, rfl⟩))) (k.1 rfl)
  | some a => exact w_x (s' := (pc + 3, lo, st, h)) hc (Or.inr (Or.inr (Or.inl ⟨tgt, some a, st, ht, rfl, rfl⟩))) (k.2 a rfl)
theorem w_ifnonnull {off : Int} {tgt : Nat} {r : Option Nat} (hc : mm_cl M.2.2 pc = some (.ifnonnull off, len, u, v)) (ht : (pc : Int) + off = (tgt : Int)) (k : (r = none → w_p d M (pc + 3) lo st h Q) ∧ (∀ a, r = some a → w_p d M tgt lo st h Q)) : w_p d M pc lo (va_rf r :: st) h Q := by
  cases r with
  | none => exact w_x (s' := (pc + 3, lo, st, h)) hc (Or.inr (Or.inr (Or.inl ⟨tgt, none, st, ht, rfl, rfl⟩))) (k.1 rfl)
  | some a => exact w_x (s' := (tgt, lo, st, h)) hc (Or.inr (Or.inr (Or.inl ⟨tgt, some a, st, ht, rfl, rfl⟩))) (k.2 a rfl)
theorem w_tabO {dflt low high : Int} {offs : Array Int} {tgt : Nat} {x : Int32} (hc : mm_cl M.2.2 pc = some (.tableswitch dflt low high offs, len, u, v)) (hx : x.toInt < low ∨ high < x.toInt) (ht : (pc : Int) + dflt = (tgt : Int)) (k : w_p d M tgt lo st h Q) : w_p d M pc lo (.int x :: st) h Q :=
  w_x (s' := (tgt, lo, st, h)) hc (Or.inr (Or.inr (Or.inl ⟨tgt, dflt, x, st, rfl, Or.inl ⟨hx, rfl⟩, ht, rfl⟩))) k
theorem w_tabI {dflt low high off : Int} {offs : Array Int} {tgt : Nat} {x : Int32} (hc : mm_cl M.2.2 pc = some (.tableswitch dflt low high offs, len, u, v)) (h1 : ¬ x.toInt < low) (h2 : ¬ high < x.toInt) (ho : offs[(x.toInt - low).toNat]? = some off) (ht : (pc : Int) + off = (tgt : Int)) (k : w_p d M tgt lo st h Q) : w_p d M pc lo (.int x :: st) h Q :=
  w_x (s' := (tgt, lo, st, h)) hc (Or.inr (Or.inr (Or.inl ⟨tgt, off, x, st, rfl, Or.inr ⟨h1, h2, ho⟩, ht, rfl⟩))) k
theorem w_get {a g : Nat} (hc : mm_cl M.2.2 pc = some (.getfield i, len, u, v)) (hr : mm_ri u v = false) (hg : 64 * u + v = g) (hk : h_kd h a = u + 1) (k : w_p d M (pc + 3) lo (.int (h_oi h g a) :: st) h Q) : w_p d M pc lo (.ref a :: st) h Q := by
  subst hg
  refine w_x (s' := (pc + 3, lo, .int (h_oi h (64 * u + v) a) :: st, h)) hc (Or.inr (Or.inr (Or.inr ⟨a, st, rfl, hk, ?_⟩))) k
  show _ = (pc + 3, lo, mm_fv h u v a :: st, h)
  unfold mm_fv
  rw [if_neg (by rw [hr]; decide)]
theorem w_getR {a g : Nat} (hc : mm_cl M.2.2 pc = some (.getfield i, len, u, v)) (hr : mm_ri u v = true) (hg : 64 * u + v = g) (hk : h_kd h a = u + 1) (k : w_p d M (pc + 3) lo (va_rf (h_or h g a) :: st) h Q) : w_p d M pc lo (.ref a :: st) h Q := by
  subst hg
  refine w_x (s' := (pc + 3, lo, va_rf (h_or h (64 * u + v) a) :: st, h)) hc (Or.inr (Or.inr (Or.inr ⟨a, st, rfl, hk, ?_⟩))) k
  show _ = (pc + 3, lo, mm_fv h u v a :: st, h)
  unfold mm_fv
  rw [if_pos hr]
theorem w_getS {a b g : Nat} (hc : mm_cl M.2.2 pc = some (.getfield i, len, u, v)) (hr : mm_ri u v = true) (hg : 64 * u + v = g) (hk : h_kd h a = u + 1) (hb : h_or h g a = some b) (k : w_p d M (pc + 3) lo (.ref b :: st) h Q) : w_p d M pc lo (.ref a :: st) h Q := by
  refine w_getR hc hr hg hk ?_
  rw [hb]
  exact k
theorem w_put {a g : Nat} {x : Int32} (hc : mm_cl M.2.2 pc = some (.putfield i, len, u, v)) (hr : mm_ri u v = false) (hg : 64 * u + v = g) (hk : h_kd h a = u + 1) (ha : 16 ≤ a) (k : w_p d M (pc + 3) lo st (h_sI h g a x) Q) : w_p d M pc lo (.int x :: .ref a :: st) h Q := by
  subst hg
  exact w_x (s' := (pc + 3, lo, st, h_sI h (64 * u + v) a x)) hc (Or.inr (Or.inr (Or.inr ⟨a, st, hk, ha, Or.inl ⟨x, rfl, hr, rfl⟩⟩))) k
theorem w_putR {a g : Nat} {x : Option Nat} (hc : mm_cl M.2.2 pc = some (.putfield i, len, u, v)) (hr : mm_ri u v = true) (hg : 64 * u + v = g) (hk : h_kd h a = u + 1) (ha : 16 ≤ a) (k : w_p d M (pc + 3) lo st (h_sR h g a x) Q) : w_p d M pc lo (va_rf x :: .ref a :: st) h Q := by
  subst hg
  exact w_x (s' := (pc + 3, lo, st, h_sR h (64 * u + v) a x)) hc (Or.inr (Or.inr (Or.inr ⟨a, st, hk, ha, Or.inr ⟨x, rfl, hr, rfl⟩⟩))) k
theorem w_iald {a : Nat} {x : Int32} (hc : mm_cl M.2.2 pc = some (.iaload, len, u, v)) (hk : h_kd h a = 20) (hi : vp_in x (h_al h a)) (k : w_p d M (pc + 1) lo (.int (h_ai h a x.toNatClampNeg) :: st) h Q) : w_p d M pc lo (.int x :: .ref a :: st) h Q :=
  w_x (s' := (pc + 1, lo, .int (h_ai h a x.toNatClampNeg) :: st, h)) hc (Or.inr (Or.inr (Or.inr ⟨a, x, st, rfl, hk, hi, rfl⟩))) k
theorem w_bald {a : Nat} {x : Int32} (hc : mm_cl M.2.2 pc = some (.baload, len, u, v)) (hk : h_kd h a = 21 ∨ h_kd h a = 22) (hi : vp_in x (h_al h a)) (k : w_p d M (pc + 1) lo (.int (h_ai h a x.toNatClampNeg) :: st) h Q) : w_p d M pc lo (.int x :: .ref a :: st) h Q :=
  w_x (s' := (pc + 1, lo, .int (h_ai h a x.toNatClampNeg) :: st, h)) hc (Or.inr (Or.inr (Or.inr ⟨a, x, st, rfl, hk, hi, rfl⟩))) k
theorem w_aald {a : Nat} {x : Int32} (hc : mm_cl M.2.2 pc = some (.aaload, len, u, v)) (hk : 23 ≤ h_kd h a ∧ h_kd h a ≤ 25) (hi : vp_in x (h_al h a)) (k : w_p d M (pc + 1) lo (va_rf (h_ar h a x.toNatClampNeg) :: st) h Q) : w_p d M pc lo (.int x :: .ref a :: st) h Q :=
  w_x (s' := (pc + 1, lo, va_rf (h_ar h a x.toNatClampNeg) :: st, h)) hc (Or.inr (Or.inr (Or.inr ⟨a, x, st, rfl, hk.1, hk.2, hi, rfl⟩))) k
theorem w_iast {a : Nat} {x y : Int32} (hc : mm_cl M.2.2 pc = some (.iastore, len, u, v)) (hk : h_kd h a = 20) (ha : 16 ≤ a) (hi : vp_in x (h_al h a)) (k : w_p d M (pc + 1) lo st (h_sA h a x.toNatClampNeg y) Q) : w_p d M pc lo (.int y :: .int x :: .ref a :: st) h Q :=
  w_x (s' := (pc + 1, lo, st, h_sA h a x.toNatClampNeg y)) hc (Or.inr (Or.inr (Or.inr ⟨a, x, y, st, rfl, hk, ha, hi, rfl⟩))) k
theorem w_bast {a : Nat} {x y : Int32} (hc : mm_cl M.2.2 pc = some (.bastore, len, u, v)) (hk : h_kd h a = 21) (ha : 16 ≤ a) (hi : vp_in x (h_al h a)) (k : w_p d M (pc + 1) lo st (h_sA h a x.toNatClampNeg (vp_nar .byte y)) Q) : w_p d M pc lo (.int y :: .int x :: .ref a :: st) h Q :=
  w_x (s' := (pc + 1, lo, st, h_sA h a x.toNatClampNeg (vp_nar .byte y))) hc (Or.inr (Or.inr (Or.inr ⟨a, x, y, st, rfl, ha, hi, Or.inl ⟨hk, rfl⟩⟩))) k
theorem w_zast {a : Nat} {x y : Int32} (hc : mm_cl M.2.2 pc = some (.bastore, len, u, v)) (hk : h_kd h a = 22) (ha : 16 ≤ a) (hi : vp_in x (h_al h a)) (k : w_p d M (pc + 1) lo st (h_sA h a x.toNatClampNeg (vp_nar .boolean y)) Q) : w_p d M pc lo (.int y :: .int x :: .ref a :: st) h Q :=
  w_x (s' := (pc + 1, lo, st, h_sA h a x.toNatClampNeg (vp_nar .boolean y))) hc (Or.inr (Or.inr (Or.inr ⟨a, x, y, st, rfl, ha, hi, Or.inr ⟨hk, rfl⟩⟩))) k
theorem w_aast {a : Nat} {x : Int32} {y : Option Nat} (hc : mm_cl M.2.2 pc = some (.aastore, len, u, v)) (ha : 16 ≤ a) (hi : vp_in x (h_al h a)) (hk : (h_kd h a = 23 ∧ ∀ w, y = some w → h_kd h w = 1) ∨ (h_kd h a = 24 ∧ ∀ w, y = some w → h_kd h w = 6)) (k : w_p d M (pc + 1) lo st (h_sQ h a x.toNatClampNeg y) Q) : w_p d M pc lo (va_rf y :: .int x :: .ref a :: st) h Q :=
  w_x (s' := (pc + 1, lo, st, h_sQ h a x.toNatClampNeg y)) hc (Or.inr (Or.inr (Or.inr ⟨a, x, y, st, rfl, ha, hi, hk, rfl⟩))) k
theorem w_alen {a : Nat} (hc : mm_cl M.2.2 pc = some (.arraylength, len, u, v)) (hk : 20 ≤ h_kd h a ∧ h_kd h a ≤ 25) (k : w_p d M (pc + 1) lo (.int (Int32.ofNat (h_al h a)) :: st) h Q) : w_p d M pc lo (.ref a :: st) h Q :=
  w_x (s' := (pc + 1, lo, .int (Int32.ofNat (h_al h a)) :: st, h)) hc (Or.inr (Or.inr (Or.inr ⟨a, st, rfl, hk.1, hk.2, rfl⟩))) k
theorem w_new (hc : mm_cl M.2.2 pc = some (.new i, len, u, v)) (k : w_p d M (pc + 3) lo (.ref (h_n h) :: st) (h_nO h u (mm_N u)) Q) : w_p d M pc lo st h Q :=
  w_x (s' := (pc + 3, lo, .ref (h_n h) :: st, h_nO h u (mm_N u))) hc (Or.inr (Or.inr (Or.inr rfl))) k
theorem w_newa {t : ClassFile.ArrayType} {x : Int32} (hc : mm_cl M.2.2 pc = some (.newarray t, len, u, v)) (h0 : ¬ x < 0) (h1 : x.toNatClampNeg ≤ 100000000) (k : w_p d M (pc + 2) lo (.ref (h_n h) :: st) (h_nA h u x.toNatClampNeg) Q) : w_p d M pc lo (.int x :: st) h Q :=
  w_x (s' := (pc + 2, lo, .ref (h_n h) :: st, h_nA h u x.toNatClampNeg)) hc (Or.inr (Or.inr (Or.inr ⟨x, st, rfl, h0, h1, rfl⟩))) k
theorem w_anew {x : Int32} (hc : mm_cl M.2.2 pc = some (.anewarray i, len, u, v)) (h0 : ¬ x < 0) (h1 : x.toNatClampNeg ≤ 100000000) (k : w_p d M (pc + 3) lo (.ref (h_n h) :: st) (h_nA h u x.toNatClampNeg) Q) : w_p d M pc lo (.int x :: st) h Q :=
  w_x (s' := (pc + 3, lo, .ref (h_n h) :: st, h_nA h u x.toNatClampNeg)) hc (Or.inr (Or.inr (Or.inr ⟨x, st, rfl, h0, h1, rfl⟩))) k
theorem w_mnew {x y : Int32} {j : Nat} (hc : mm_cl M.2.2 pc = some (.multianewarray i j, len, u, v)) (h0 : ¬ x < 0) (h1 : ¬ y < 0) (h2 : x.toNatClampNeg ≤ 100000000) (h3 : y.toNatClampNeg ≤ 100000000) (k : w_p d M (pc + 4) lo (.ref (h_n h) :: st) (h_nM h x.toNatClampNeg y.toNatClampNeg) Q) : w_p d M pc lo (.int y :: .int x :: st) h Q :=
  w_x (s' := (pc + 4, lo, .ref (h_n h) :: st, h_nM h x.toNatClampNeg y.toNatClampNeg)) hc (Or.inr (Or.inr (Or.inr ⟨x, y, st, rfl, h0, h1, h2, h3, rfl⟩))) k
theorem w_aldN {k0 : Fin 4} {r : Option Nat} (hc : mm_cl M.2.2 pc = some (.aload_n k0, len, u, v)) (hl : mm_lk lo (k0 : Nat) = some (va_rf r)) (k : w_p d M (pc + 1) lo (va_rf r :: st) h Q) : w_p d M pc lo st h Q :=
  w_x (s' := (pc + 1, lo, va_rf r :: st, h)) hc (Or.inl ⟨r, hl, rfl⟩) k
theorem w_aldM {r : Option Nat} (hc : mm_cl M.2.2 pc = some (.aload i, len, u, v)) (hl : mm_lk lo i = some (va_rf r)) (k : w_p d M (pc + 2) lo (va_rf r :: st) h Q) : w_p d M pc lo st h Q :=
  w_x (s' := (pc + 2, lo, va_rf r :: st, h)) hc (Or.inl ⟨r, hl, rfl⟩) k
theorem w_astN {k0 : Fin 4} {r : Option Nat} {lo2 : mm_L} (hc : mm_cl M.2.2 pc = some (.astore_n k0, len, u, v)) (hn : (k0 : Nat) < M.2.1) (hl : mm_st lo (k0 : Nat) (va_rf r) = lo2) (k : w_p d M (pc + 1) lo2 st h Q) : w_p d M pc lo (va_rf r :: st) h Q :=
  w_x (s' := (pc + 1, lo2, st, h)) hc (Or.inl ⟨r, st, rfl, hn, by rw [hl]⟩) k
theorem w_astM {r : Option Nat} {lo2 : mm_L} (hc : mm_cl M.2.2 pc = some (.astore i, len, u, v)) (hn : i < M.2.1) (hl : mm_st lo i (va_rf r) = lo2) (k : w_p d M (pc + 2) lo2 st h Q) : w_p d M pc lo (va_rf r :: st) h Q :=
  w_x (s' := (pc + 2, lo2, st, h)) hc (Or.inl ⟨r, st, rfl, hn, by rw [hl]⟩) k
theorem w_z (hc : mm_cl M.2.2 pc = some e) {r : Option Value} (hZ : mm_Z e st r) (k : Q r h) : w_p d M pc lo st h Q := ⟨1, (r, h), ⟨e, hc, Or.inr (Or.inl ⟨hZ, rfl⟩)⟩, k⟩
theorem w_ir {x : Int32} (hc : mm_cl M.2.2 pc = some (.ireturn, len, 0, v)) (k : Q (some (.int x)) h) : w_p d M pc lo [.int x] h Q := w_z hc ⟨x, rfl, Or.inl rfl, rfl⟩ k
theorem w_br {x : Int32} (hc : mm_cl M.2.2 pc = some (.ireturn, len, u, v)) (hx : x = 0 ∨ x = 1) (k : Q (some (.int x)) h) : w_p d M pc lo [.int x] h Q := w_z hc ⟨x, rfl, Or.inr hx, rfl⟩ k
theorem w_vr (hc : mm_cl M.2.2 pc = some (.return_, len, u, v)) (k : Q none h) : w_p d M pc lo [] h Q := w_z hc ⟨rfl, rfl⟩ k
theorem w_ar {r : Option Nat} (hc : mm_cl M.2.2 pc = some (.areturn, len, u, v)) (k : Q (some (va_rf r)) h) : w_p d M pc lo [va_rf r] h Q := w_z hc ⟨r, rfl, rfl⟩ k
theorem w_y {As : List Value} {dc : Nat} (hc : mm_cl M.2.2 pc = some e) (hY : mm_Y e st h As rest) (hd : dc ≤ d) (k : w_c dc e.2.2.1 As h (fun r1 h1 => w_p (d + 1) M (pc + 3) lo (r1.toList ++ rest) h1 Q)) : w_p (d + 1) M pc lo st h Q := by
  obtain ⟨n1, ⟨r1, h1⟩, hk, n2, r, hR, hQ⟩ := k
  refine ⟨max n1 n2 + 1, r, ⟨e, hc, Or.inr (Or.inr (Or.inl ⟨d, As, rest, r1, h1, rfl, hY, hk.up (Nat.le_max_left n1 n2) hd, mm_up _ _ _ _ _ _ _ _ _ _ (Nat.le_max_right n1 n2) (Nat.le_refl _) hR⟩))⟩, hQ⟩
theorem w_cs {As : List Value} {dc : Nat} (hc : mm_cl M.2.2 pc = some (.invokestatic i, len, u, v)) (hs : st = As.reverse ++ rest) (hn : As.length = v) (hr : (rest.map fun v => v.category).sum ≤ 8) (hd : dc ≤ d) (k : w_c dc u As h (fun r1 h1 => w_p (d + 1) M (pc + 3) lo (r1.toList ++ rest) h1 Q)) : w_p (d + 1) M pc lo st h Q :=
  w_y hc ⟨hr, hs, hn⟩ hd k
theorem w_cv {As : List Value} {b dc : Nat} (hc : mm_cl M.2.2 pc = some (.invokevirtual i, len, u, v)) (hs : st = As.reverse ++ .ref b :: rest) (hn : As.length = v) (hr : (rest.map fun v => v.category).sum ≤ 8) (hk : h_kd h b = mm_rc u) (hb : mm_rc u = 30 → b < 16) (hd : dc ≤ d) (k : w_c dc u (.ref b :: As) h (fun r1 h1 => w_p (d + 1) M (pc + 3) lo (r1.toList ++ rest) h1 Q)) : w_p (d + 1) M pc lo st h Q :=
  w_y hc ⟨hr, b, As, rfl, hs, hn, hk, hb⟩ hd k
theorem w_cn {As : List Value} {b dc : Nat} (hc : mm_cl M.2.2 pc = some (.invokespecial i, len, u, v)) (hs : st = As.reverse ++ .ref b :: rest) (hn : As.length = v) (hr : (rest.map fun v => v.category).sum ≤ 8) (hd : dc ≤ d) (k : w_c dc u (.ref b :: As) h (fun r1 h1 => w_p (d + 1) M (pc + 3) lo (r1.toList ++ rest) h1 Q)) : w_p (d + 1) M pc lo st h Q :=
  w_y hc ⟨hr, b, As, rfl, hs, hn⟩ hd k
theorem w_o {a : Nat} (hc : mm_cl M.2.2 pc = some (.invokespecial i, len, 999, v)) (hr : (st.map fun v => v.category).sum ≤ 8) (k : w_p (d + 1) M (pc + 3) lo st h Q) : w_p (d + 1) M pc lo (.ref a :: st) h Q := by
  obtain ⟨n, r, h1, h2⟩ := k
  exact ⟨n + 1, r, ⟨_, hc, Or.inr (Or.inr (Or.inr ⟨d, st, rfl, ⟨rfl, hr, a, rfl⟩, h1⟩))⟩, h2⟩
theorem w_max {x y : Int32} (hc : mm_cl M.2.2 pc = some (.invokestatic i, len, 157, v)) (hr : (st.map fun v => v.category).sum ≤ 8) (k : w_p (d + 1) M (pc + 3) lo (.int (if x < y then y else x) :: st) h Q) : w_p (d + 1) M pc lo (.int y :: .int x :: st) h Q := by
  obtain ⟨n, r, h1, h2⟩ := k
  exact ⟨n + 1, r, ⟨_, hc, Or.inr (Or.inr (Or.inr ⟨d, _, rfl, ⟨x, y, st, rfl, hr, Or.inl ⟨rfl, rfl⟩⟩, h1⟩))⟩, h2⟩
theorem w_min {x y : Int32} (hc : mm_cl M.2.2 pc = some (.invokestatic i, len, 158, v)) (hr : (st.map fun v => v.category).sum ≤ 8) (k : w_p (d + 1) M (pc + 3) lo (.int (if y < x then y else x) :: st) h Q) : w_p (d + 1) M pc lo (.int y :: .int x :: st) h Q := by
  obtain ⟨n, r, h1, h2⟩ := k
  exact ⟨n + 1, r, ⟨_, hc, Or.inr (Or.inr (Or.inr ⟨d, _, rfl, ⟨x, y, st, rfl, hr, Or.inr ⟨rfl, rfl⟩⟩, h1⟩))⟩, h2⟩
end WP
end
section
/-! fewer locals, in another order -/
def mm_nd (lo : mm_L) : Prop := (lo.map Prod.fst).Nodup
theorem mm_lkn : ∀ {lo : mm_L} {i : Nat} {v : Value}, mm_nd lo → (i, v) ∈ lo → mm_lk lo i = some v
  | [], _, _, _, h => by cases h
  | q :: t, i, v, hn, h => by
    unfold mm_nd at hn
    rw [List.map_cons, List.nodup_cons] at hn
    unfold mm_lk
    rcases List.mem_cons.mp h with rfl | h
    · rw [if_pos (by exact beq_self_eq_true i)]
    · have hne : ¬ (q.1 == i) = true := fun z => by
        have z : q.1 = i := eq_of_beq z
        exact hn.1 (by rw [z]; exact List.mem_map.mpr ⟨(i, v), h, rfl⟩)
      rw [if_neg hne]
      exact mm_lkn hn.2 h
theorem mm_st_mem {lo : mm_L} {i : Nat} {v : Value} {q : Nat × Value} : q ∈ mm_st lo i v ↔ q = (i, v) ∨ (q ∈ lo ∧ (!(q.1 == i) && !(q.1 + 1 == i && q.2.category == 2)) = true) := by
  unfold mm_st
  rw [List.mem_cons, List.mem_filter]
theorem mm_st2_mem {lo : mm_L} {i : Nat} {v : Value} {q : Nat × Value} : q ∈ mm_st2 lo i v ↔ q = (i, v) ∨ (q ∈ lo ∧ (!(q.1 == i) && (!(q.1 == i + 1) && !(q.1 + 1 == i && q.2.category == 2))) = true) := by
  unfold mm_st2
  rw [List.mem_cons, List.mem_filter]
theorem mm_nd_f {lo : mm_L} {i : Nat} {v : Value} {p : Nat × Value → Bool} (hn : mm_nd lo) (hp : ∀ q, p q = true → q.1 ≠ i) : mm_nd ((i, v) :: lo.filter p) := by
  unfold mm_nd at hn ⊢
  rw [List.map_cons, List.nodup_cons]
  refine ⟨fun h => ?_, ?_⟩
  · obtain ⟨q, hq, e⟩ := List.mem_map.mp h
    exact hp q (List.mem_filter.mp hq).2 e
  · exact hn.sublist (List.Sublist.map _ List.filter_sublist)
theorem mm_st_nd {lo : mm_L} {i : Nat} {v : Value} (hn : mm_nd lo) : mm_nd (mm_st lo i v) := mm_nd_f hn (fun q h => by
  rw [Bool.and_eq_true] at h
  have h1 := h.1
  intro e
  rw [e] at h1
  simp at h1)
theorem mm_st2_nd {lo : mm_L} {i : Nat} {v : Value} (hn : mm_nd lo) : mm_nd (mm_st2 lo i v) := mm_nd_f hn (fun q h => by
  rw [Bool.and_eq_true] at h
  have h1 := h.1
  intro e
  rw [e] at h1
  simp at h1)
theorem mm_st_sub {lo lo' : mm_L} {i : Nat} {v : Value} (hs : ∀ q ∈ lo', q ∈ lo) : ∀ q ∈ mm_st lo' i v, q ∈ mm_st lo i v := fun q hq => mm_st_mem.mpr ((mm_st_mem.mp hq).imp id (fun z => ⟨hs q z.1, z.2⟩))
theorem mm_st2_sub {lo lo' : mm_L} {i : Nat} {v : Value} (hs : ∀ q ∈ lo', q ∈ lo) : ∀ q ∈ mm_st2 lo' i v, q ∈ mm_st2 lo i v := fun q hq => mm_st2_mem.mpr ((mm_st2_mem.mp hq).imp id (fun z => ⟨hs q z.1, z.2⟩))
section LO
variable {nL : Nat} {en : mm_E} {pc : Nat} {lo lo' : mm_L} {st : List Value} {h : mm_H} {s' : mm_S}
theorem mm_l1 (hs : ∀ q ∈ lo', q ∈ lo) (hn : mm_nd lo) (hX : mm_X1 nL en pc lo' st h s') : ∃ lo2, mm_X1 nL en pc lo st h (s'.1, lo2, s'.2.2.1, s'.2.2.2) ∧ (∀ q ∈ s'.2.1, q ∈ lo2) ∧ mm_nd lo2 := by
  have key : ∀ {i : Nat} {v : Value}, mm_lk lo' i = some v → mm_lk lo i = some v := fun hk => mm_lkn hn (hs _ (ms_lkm hk))
  obtain ⟨i, len, u, v⟩ := en
  cases i
  all_goals first
    | exact False.elim hX
    | (obtain rfl : s' = _ := hX; exact ⟨lo, rfl, hs, hn⟩)
    | (obtain ⟨x, hk, rfl⟩ := hX; exact ⟨lo, ⟨x, key hk, rfl⟩, hs, hn⟩)
    | (obtain ⟨x, rest, rfl, hk, rfl⟩ := hX; exact ⟨_, ⟨x, rest, rfl, hk, rfl⟩, mm_st_sub hs, mm_st_nd hn⟩)
    | (obtain ⟨x, rest, rfl, hk, rfl⟩ := hX; exact ⟨_, ⟨x, rest, rfl, hk, rfl⟩, mm_st2_sub hs, mm_st2_nd hn⟩)
    | (obtain ⟨x, hk, hk2, rfl⟩ := hX; exact ⟨_, ⟨x, key hk, hk2, rfl⟩, mm_st_sub hs, mm_st_nd hn⟩)
theorem mm_l2 (hX : mm_X2 en pc lo' st h s') : s'.2.1 = lo' ∧ mm_X2 en pc lo st h (s'.1, lo, s'.2.2.1, s'.2.2.2) := by
  obtain ⟨i, len, u, v⟩ := en
  cases i
  all_goals first
    | exact False.elim hX
    | (obtain ⟨a1, a2, a3, a4, rfl⟩ := hX; exact ⟨rfl, a1, a2, a3, a4, rfl⟩)
    | (obtain ⟨a1, a2, a3, rfl⟩ := hX; exact ⟨rfl, a1, a2, a3, rfl⟩)
    | (obtain ⟨a1, a2, a3, a4, a5, a6, rfl⟩ := hX; exact ⟨rfl, a1, a2, a3, a4, a5, a6, rfl⟩)
theorem mm_l3 (hX : mm_X3 en pc lo' st h s') : s'.2.1 = lo' ∧ mm_X3 en pc lo st h (s'.1, lo, s'.2.2.1, s'.2.2.2) := by
  obtain ⟨i, len, u, v⟩ := en
  cases i
  all_goals first
    | exact False.elim hX
    | (obtain ⟨a1, a2, rfl⟩ := hX; exact ⟨rfl, a1, a2, rfl⟩)
    | (obtain ⟨a1, a2, a3, a4, a5, rfl⟩ := hX; exact ⟨rfl, a1, a2, a3, a4, a5, rfl⟩)
    | (obtain ⟨a1, a2, a3, a4, a5, a6, rfl⟩ := hX; exact ⟨rfl, a1, a2, a3, a4, a5, a6, rfl⟩)
    | (obtain ⟨a1, a2, a3, a4, a5, a6, a7, rfl⟩ := hX; exact ⟨rfl, a1, a2, a3, a4, a5, a6, a7, rfl⟩)
theorem mm_l4 (hX : mm_X4 en pc lo' st h s') : s'.2.1 = lo' ∧ mm_X4 en pc lo st h (s'.1, lo, s'.2.2.1, s'.2.2.2) := by
  obtain ⟨i, len, u, v⟩ := en
  cases i
  all_goals first
    | exact False.elim hX
    | (obtain rfl : s' = _ := hX; exact ⟨rfl, rfl⟩)
    | (obtain ⟨a1, a2, a3, a4, rfl⟩ := hX; exact ⟨rfl, a1, a2, a3, a4, rfl⟩)
    | (obtain ⟨a1, a2, a3, a4, a5, rfl⟩ := hX; exact ⟨rfl, a1, a2, a3, a4, a5, rfl⟩)
    | (obtain ⟨a1, a2, a3, a4, a5, a6, rfl⟩ := hX; exact ⟨rfl, a1, a2, a3, a4, a5, a6, rfl⟩)
    | (obtain ⟨a1, a2, a3, a4, a5, a6, a7, rfl⟩ := hX; exact ⟨rfl, a1, a2, a3, a4, a5, a6, a7, rfl⟩)
    | (obtain ⟨a1, a2, a3, a4, a5, a6, a7, a8, rfl⟩ := hX; exact ⟨rfl, a1, a2, a3, a4, a5, a6, a7, a8, rfl⟩)
    | (obtain ⟨a1, a2, a3, a4, ⟨b1, b2, b3, rfl⟩ | ⟨b1, b2, b3, rfl⟩⟩ := hX
       · exact ⟨rfl, a1, a2, a3, a4, Or.inl ⟨b1, b2, b3, rfl⟩⟩
       · exact ⟨rfl, a1, a2, a3, a4, Or.inr ⟨b1, b2, b3, rfl⟩⟩)
    | (obtain ⟨a1, a2, a3, a4, a5, a6, a7, ⟨b1, rfl⟩ | ⟨b1, rfl⟩⟩ := hX
       · exact ⟨rfl, a1, a2, a3, a4, a5, a6, a7, Or.inl ⟨b1, rfl⟩⟩
       · exact ⟨rfl, a1, a2, a3, a4, a5, a6, a7, Or.inr ⟨b1, rfl⟩⟩)
end LO
theorem mm_lo : ∀ (n d : Nat) (M : mm_M) (pc : Nat) (lo lo' : mm_L) (st : List Value) (h : mm_H) (r : Option Value × mm_H), (∀ q ∈ lo', q ∈ lo) → mm_nd lo → mm_R n d M pc lo' st h r → mm_R n d M pc lo st h r
  | 0, _, _, _, _, _, _, _, _, _, _, hR => False.elim hR
  | n + 1, d, M, pc, lo, lo', st, h, r, hs, hn, hR => by
    obtain ⟨e, he, hc⟩ := hR
    refine ⟨e, he, ?_⟩
    rcases hc with ⟨s', hX, hR⟩ | hZ | ⟨k, As, rest, r1, h1, hk, hY, hC, hR⟩ | ⟨k, rest, hk, hO, hR⟩
    · rcases hX with hX | hX | hX | hX
      · obtain ⟨lo2, g1, g2, g3⟩ := mm_l1 hs hn hX
        exact Or.inl ⟨_, Or.inl g1, mm_lo n d M _ _ _ _ _ r g2 g3 hR⟩
      · obtain ⟨g0, g1⟩ := mm_l2 (lo := lo) hX
        exact Or.inl ⟨_, Or.inr (Or.inl g1), mm_lo n d M _ _ _ _ _ r (by rw [g0]; exact hs) hn hR⟩
      · obtain ⟨g0, g1⟩ := mm_l3 (lo := lo) hX
        exact Or.inl ⟨_, Or.inr (Or.inr (Or.inl g1)), mm_lo n d M _ _ _ _ _ r (by rw [g0]; exact hs) hn hR⟩
      · obtain ⟨g0, g1⟩ := mm_l4 (lo := lo) hX
        exact Or.inl ⟨_, Or.inr (Or.inr (Or.inr g1)), mm_lo n d M _ _ _ _ _ r (by rw [g0]; exact hs) hn hR⟩
    · exact Or.inr (Or.inl hZ)
    · exact Or.inr (Or.inr (Or.inl ⟨k, As, rest, r1, h1, hk, hY, hC, mm_lo n d M _ _ _ _ _ r hs hn hR⟩))
    · exact Or.inr (Or.inr (Or.inr ⟨k, rest, hk, hO, mm_lo n d M _ _ _ _ _ r hs hn hR⟩))
def mm_pk (lo : mm_L) (ks : List Nat) : mm_L := ks.filterMap (fun k => (mm_lk lo k).map (fun v => (k, v)))
/-- the places of a list of locals are apart -/
def mm_ap : mm_L → Bool
  | [] => true
  | q :: t => (t.all (fun r => !(r.1 == q.1))) && mm_ap t
theorem mm_ap_nd : ∀ {lo : mm_L}, mm_ap lo = true → mm_nd lo
  | [], _ => List.nodup_nil
  | q :: t, h => by
    unfold mm_ap at h
    rw [Bool.and_eq_true] at h
    unfold mm_nd
    rw [List.map_cons, List.nodup_cons]
    refine ⟨fun z => ?_, mm_ap_nd h.2⟩
    obtain ⟨r, hr, e⟩ := List.mem_map.mp z
    have := List.all_eq_true.mp h.1 r hr
    rw [e] at this
    simp at this
theorem w_lo {d : Nat} {M : mm_M} {pc : Nat} {lo : mm_L} {st : List Value} {h : mm_H} {Q : Option Value → mm_H → Prop} (ks : List Nat) (lo2 : mm_L) (hp : mm_pk lo ks = lo2) (ha : mm_ap lo = true) (k : w_p d M pc lo2 st h Q) : w_p d M pc lo st h Q := by
  subst hp
  obtain ⟨n, r, h1, h2⟩ := k
  refine ⟨n, r, mm_lo n d M pc lo _ st h r (fun q hq => ?_) (mm_ap_nd ha) h1, h2⟩
  obtain ⟨k, -, e⟩ := List.mem_filterMap.mp hq
  cases hk : mm_lk lo k with
  | none => rw [hk] at e; cases e
  | some v =>
    rw [hk] at e
    cases e
    exact ms_lkm hk
end
section
/-! THE FIXED OBJECTS: the circle from 16, the reference from 44, made in their constructors; 70 is the first address behind them -/
def sk_kd : List (Nat × Nat) := [(1, 20), (2, 20), (3, 20), (16, 9), (17, 7), (18, 21), (19, 5), (20, 20), (21, 2), (22, 20), (23, 25), (24, 20), (25, 20), (26, 20), (27, 20), (28, 20), (29, 20), (30, 23), (31, 8), (32, 20), (33, 20), (34, 20), (35, 8), (36, 20), (37, 20), (38, 20), (39, 3), (40, 20), (41, 20), (42, 20), (43, 24), (44, 10), (45, 20), (46, 20), (47, 20), (48, 20), (49, 22), (50, 20), (51, 20), (52, 20), (53, 20), (54, 22), (55, 20), (56, 20), (57, 20), (58, 20), (59, 20), (60, 20), (61, 22), (62, 20), (63, 20), (64, 20), (65, 20), (66, 20), (67, 20), (68, 20), (69, 20)]
def sk_or : List (Nat × Nat × Nat) := [(384, 17, 18), (512, 16, 17), (256, 19, 20), (513, 16, 19), (64, 21, 22), (65, 21, 23), (514, 16, 21), (515, 16, 30), (448, 31, 32), (449, 31, 33), (450, 31, 34), (516, 16, 31), (448, 35, 36), (449, 35, 37), (450, 35, 38), (517, 16, 35), (128, 39, 40), (129, 39, 41), (130, 39, 42), (518, 16, 39), (519, 16, 43), (576, 44, 45), (584, 44, 46), (586, 44, 47), (587, 44, 48), (591, 44, 49), (592, 44, 50), (593, 44, 51), (594, 44, 52), (595, 44, 53), (596, 44, 54), (601, 44, 55), (602, 44, 56), (603, 44, 57), (605, 44, 58), (606, 44, 59), (607, 44, 60), (608, 44, 61), (609, 44, 62), (610, 44, 63), (611, 44, 64), (612, 44, 65), (613, 44, 66), (614, 44, 67), (615, 44, 68), (616, 44, 69)]
def sk_al : List (Nat × Nat) := [(1, 5), (2, 5), (3, 5), (18, 200), (20, 5), (22, 6), (23, 6), (24, 5), (25, 5), (26, 5), (27, 5), (28, 5), (29, 5), (30, 12), (32, 10), (33, 10), (34, 10), (36, 10), (37, 10), (38, 10), (40, 10), (41, 10), (42, 10), (43, 4), (45, 200), (46, 5), (47, 6), (48, 30), (49, 12), (50, 12), (51, 12), (52, 12), (53, 24012), (54, 144), (55, 10), (56, 10), (57, 10), (58, 10), (59, 10), (60, 10), (61, 100), (62, 10), (63, 10), (64, 10), (65, 20), (66, 10), (67, 4), (68, 4), (69, 240)]
def s_h (h : mm_H) : Prop := (∀ q ∈ sk_kd, h_kd h q.1 = q.2) ∧ (∀ q ∈ sk_or, h_or h q.1 q.2.1 = some q.2.2) ∧ (∀ q ∈ sk_al, h_al h q.1 = q.2) ∧ 70 ≤ h_n h ∧ (∀ i, i < 6 → h_ar h 23 i = some (24 + i)) ∧ h_ai h 1 = (fun i => [0, 0, 1, 0, 0].getD i 0) ∧ h_ai h 2 = (fun i => [200, 47, 400, 50, 100].getD i 0) ∧ h_ai h 3 = (fun i => [0, -4, -4, 0, 0].getD i 0)
theorem kd_1 {h : mm_H} (s : s_h h) : h_kd h 1 = 20 := s.1 (1, 20) (by decide)
theorem kd_2 {h : mm_H} (s : s_h h) : h_kd h 2 = 20 := s.1 (2, 20) (by decide)
theorem kd_3 {h : mm_H} (s : s_h h) : h_kd h 3 = 20 := s.1 (3, 20) (by decide)
theorem kd_16 {h : mm_H} (s : s_h h) : h_kd h 16 = 9 := s.1 (16, 9) (by decide)
theorem kd_17 {h : mm_H} (s : s_h h) : h_kd h 17 = 7 := s.1 (17, 7) (by decide)
theorem kd_18 {h : mm_H} (s : s_h h) : h_kd h 18 = 21 := s.1 (18, 21) (by decide)
theorem kd_19 {h : mm_H} (s : s_h h) : h_kd h 19 = 5 := s.1 (19, 5) (by decide)
theorem kd_20 {h : mm_H} (s : s_h h) : h_kd h 20 = 20 := s.1 (20, 20) (by decide)
theorem kd_21 {h : mm_H} (s : s_h h) : h_kd h 21 = 2 := s.1 (21, 2) (by decide)
theorem kd_22 {h : mm_H} (s : s_h h) : h_kd h 22 = 20 := s.1 (22, 20) (by decide)
theorem kd_23 {h : mm_H} (s : s_h h) : h_kd h 23 = 25 := s.1 (23, 25) (by decide)
theorem kd_24 {h : mm_H} (s : s_h h) : h_kd h 24 = 20 := s.1 (24, 20) (by decide)
theorem kd_25 {h : mm_H} (s : s_h h) : h_kd h 25 = 20 := s.1 (25, 20) (by decide)
theorem kd_26 {h : mm_H} (s : s_h h) : h_kd h 26 = 20 := s.1 (26, 20) (by decide)
theorem kd_27 {h : mm_H} (s : s_h h) : h_kd h 27 = 20 := s.1 (27, 20) (by decide)
theorem kd_28 {h : mm_H} (s : s_h h) : h_kd h 28 = 20 := s.1 (28, 20) (by decide)
theorem kd_29 {h : mm_H} (s : s_h h) : h_kd h 29 = 20 := s.1 (29, 20) (by decide)
theorem kd_30 {h : mm_H} (s : s_h h) : h_kd h 30 = 23 := s.1 (30, 23) (by decide)
theorem kd_31 {h : mm_H} (s : s_h h) : h_kd h 31 = 8 := s.1 (31, 8) (by decide)
theorem kd_32 {h : mm_H} (s : s_h h) : h_kd h 32 = 20 := s.1 (32, 20) (by decide)
theorem kd_33 {h : mm_H} (s : s_h h) : h_kd h 33 = 20 := s.1 (33, 20) (by decide)
theorem kd_34 {h : mm_H} (s : s_h h) : h_kd h 34 = 20 := s.1 (34, 20) (by decide)
theorem kd_35 {h : mm_H} (s : s_h h) : h_kd h 35 = 8 := s.1 (35, 8) (by decide)
theorem kd_36 {h : mm_H} (s : s_h h) : h_kd h 36 = 20 := s.1 (36, 20) (by decide)
theorem kd_37 {h : mm_H} (s : s_h h) : h_kd h 37 = 20 := s.1 (37, 20) (by decide)
theorem kd_38 {h : mm_H} (s : s_h h) : h_kd h 38 = 20 := s.1 (38, 20) (by decide)
theorem kd_39 {h : mm_H} (s : s_h h) : h_kd h 39 = 3 := s.1 (39, 3) (by decide)
theorem kd_40 {h : mm_H} (s : s_h h) : h_kd h 40 = 20 := s.1 (40, 20) (by decide)
theorem kd_41 {h : mm_H} (s : s_h h) : h_kd h 41 = 20 := s.1 (41, 20) (by decide)
theorem kd_42 {h : mm_H} (s : s_h h) : h_kd h 42 = 20 := s.1 (42, 20) (by decide)
theorem kd_43 {h : mm_H} (s : s_h h) : h_kd h 43 = 24 := s.1 (43, 24) (by decide)
theorem kd_44 {h : mm_H} (s : s_h h) : h_kd h 44 = 10 := s.1 (44, 10) (by decide)
theorem kd_45 {h : mm_H} (s : s_h h) : h_kd h 45 = 20 := s.1 (45, 20) (by decide)
theorem kd_46 {h : mm_H} (s : s_h h) : h_kd h 46 = 20 := s.1 (46, 20) (by decide)
theorem kd_47 {h : mm_H} (s : s_h h) : h_kd h 47 = 20 := s.1 (47, 20) (by decide)
theorem kd_48 {h : mm_H} (s : s_h h) : h_kd h 48 = 20 := s.1 (48, 20) (by decide)
theorem kd_49 {h : mm_H} (s : s_h h) : h_kd h 49 = 22 := s.1 (49, 22) (by decide)
theorem kd_50 {h : mm_H} (s : s_h h) : h_kd h 50 = 20 := s.1 (50, 20) (by decide)
theorem kd_51 {h : mm_H} (s : s_h h) : h_kd h 51 = 20 := s.1 (51, 20) (by decide)
theorem kd_52 {h : mm_H} (s : s_h h) : h_kd h 52 = 20 := s.1 (52, 20) (by decide)
theorem kd_53 {h : mm_H} (s : s_h h) : h_kd h 53 = 20 := s.1 (53, 20) (by decide)
theorem kd_54 {h : mm_H} (s : s_h h) : h_kd h 54 = 22 := s.1 (54, 22) (by decide)
theorem kd_55 {h : mm_H} (s : s_h h) : h_kd h 55 = 20 := s.1 (55, 20) (by decide)
theorem kd_56 {h : mm_H} (s : s_h h) : h_kd h 56 = 20 := s.1 (56, 20) (by decide)
theorem kd_57 {h : mm_H} (s : s_h h) : h_kd h 57 = 20 := s.1 (57, 20) (by decide)
theorem kd_58 {h : mm_H} (s : s_h h) : h_kd h 58 = 20 := s.1 (58, 20) (by decide)
theorem kd_59 {h : mm_H} (s : s_h h) : h_kd h 59 = 20 := s.1 (59, 20) (by decide)
theorem kd_60 {h : mm_H} (s : s_h h) : h_kd h 60 = 20 := s.1 (60, 20) (by decide)
theorem kd_61 {h : mm_H} (s : s_h h) : h_kd h 61 = 22 := s.1 (61, 22) (by decide)
theorem kd_62 {h : mm_H} (s : s_h h) : h_kd h 62 = 20 := s.1 (62, 20) (by decide)
theorem kd_63 {h : mm_H} (s : s_h h) : h_kd h 63 = 20 := s.1 (63, 20) (by decide)
theorem kd_64 {h : mm_H} (s : s_h h) : h_kd h 64 = 20 := s.1 (64, 20) (by decide)
theorem kd_65 {h : mm_H} (s : s_h h) : h_kd h 65 = 20 := s.1 (65, 20) (by decide)
theorem kd_66 {h : mm_H} (s : s_h h) : h_kd h 66 = 20 := s.1 (66, 20) (by decide)
theorem kd_67 {h : mm_H} (s : s_h h) : h_kd h 67 = 20 := s.1 (67, 20) (by decide)
theorem kd_68 {h : mm_H} (s : s_h h) : h_kd h 68 = 20 := s.1 (68, 20) (by decide)
theorem kd_69 {h : mm_H} (s : s_h h) : h_kd h 69 = 20 := s.1 (69, 20) (by decide)
theorem or_384_17 {h : mm_H} (s : s_h h) : h_or h 384 17 = some 18 := s.2.1 (384, 17, 18) (by decide)
theorem or_512_16 {h : mm_H} (s : s_h h) : h_or h 512 16 = some 17 := s.2.1 (512, 16, 17) (by decide)
theorem or_256_19 {h : mm_H} (s : s_h h) : h_or h 256 19 = some 20 := s.2.1 (256, 19, 20) (by decide)
theorem or_513_16 {h : mm_H} (s : s_h h) : h_or h 513 16 = some 19 := s.2.1 (513, 16, 19) (by decide)
theorem or_64_21 {h : mm_H} (s : s_h h) : h_or h 64 21 = some 22 := s.2.1 (64, 21, 22) (by decide)
theorem or_65_21 {h : mm_H} (s : s_h h) : h_or h 65 21 = some 23 := s.2.1 (65, 21, 23) (by decide)
theorem or_514_16 {h : mm_H} (s : s_h h) : h_or h 514 16 = some 21 := s.2.1 (514, 16, 21) (by decide)
theorem or_515_16 {h : mm_H} (s : s_h h) : h_or h 515 16 = some 30 := s.2.1 (515, 16, 30) (by decide)
theorem or_448_31 {h : mm_H} (s : s_h h) : h_or h 448 31 = some 32 := s.2.1 (448, 31, 32) (by decide)
theorem or_449_31 {h : mm_H} (s : s_h h) : h_or h 449 31 = some 33 := s.2.1 (449, 31, 33) (by decide)
theorem or_450_31 {h : mm_H} (s : s_h h) : h_or h 450 31 = some 34 := s.2.1 (450, 31, 34) (by decide)
theorem or_516_16 {h : mm_H} (s : s_h h) : h_or h 516 16 = some 31 := s.2.1 (516, 16, 31) (by decide)
theorem or_448_35 {h : mm_H} (s : s_h h) : h_or h 448 35 = some 36 := s.2.1 (448, 35, 36) (by decide)
theorem or_449_35 {h : mm_H} (s : s_h h) : h_or h 449 35 = some 37 := s.2.1 (449, 35, 37) (by decide)
theorem or_450_35 {h : mm_H} (s : s_h h) : h_or h 450 35 = some 38 := s.2.1 (450, 35, 38) (by decide)
theorem or_517_16 {h : mm_H} (s : s_h h) : h_or h 517 16 = some 35 := s.2.1 (517, 16, 35) (by decide)
theorem or_128_39 {h : mm_H} (s : s_h h) : h_or h 128 39 = some 40 := s.2.1 (128, 39, 40) (by decide)
theorem or_129_39 {h : mm_H} (s : s_h h) : h_or h 129 39 = some 41 := s.2.1 (129, 39, 41) (by decide)
theorem or_130_39 {h : mm_H} (s : s_h h) : h_or h 130 39 = some 42 := s.2.1 (130, 39, 42) (by decide)
theorem or_518_16 {h : mm_H} (s : s_h h) : h_or h 518 16 = some 39 := s.2.1 (518, 16, 39) (by decide)
theorem or_519_16 {h : mm_H} (s : s_h h) : h_or h 519 16 = some 43 := s.2.1 (519, 16, 43) (by decide)
theorem or_576_44 {h : mm_H} (s : s_h h) : h_or h 576 44 = some 45 := s.2.1 (576, 44, 45) (by decide)
theorem or_584_44 {h : mm_H} (s : s_h h) : h_or h 584 44 = some 46 := s.2.1 (584, 44, 46) (by decide)
theorem or_586_44 {h : mm_H} (s : s_h h) : h_or h 586 44 = some 47 := s.2.1 (586, 44, 47) (by decide)
theorem or_587_44 {h : mm_H} (s : s_h h) : h_or h 587 44 = some 48 := s.2.1 (587, 44, 48) (by decide)
theorem or_591_44 {h : mm_H} (s : s_h h) : h_or h 591 44 = some 49 := s.2.1 (591, 44, 49) (by decide)
theorem or_592_44 {h : mm_H} (s : s_h h) : h_or h 592 44 = some 50 := s.2.1 (592, 44, 50) (by decide)
theorem or_593_44 {h : mm_H} (s : s_h h) : h_or h 593 44 = some 51 := s.2.1 (593, 44, 51) (by decide)
theorem or_594_44 {h : mm_H} (s : s_h h) : h_or h 594 44 = some 52 := s.2.1 (594, 44, 52) (by decide)
theorem or_595_44 {h : mm_H} (s : s_h h) : h_or h 595 44 = some 53 := s.2.1 (595, 44, 53) (by decide)
theorem or_596_44 {h : mm_H} (s : s_h h) : h_or h 596 44 = some 54 := s.2.1 (596, 44, 54) (by decide)
theorem or_601_44 {h : mm_H} (s : s_h h) : h_or h 601 44 = some 55 := s.2.1 (601, 44, 55) (by decide)
theorem or_602_44 {h : mm_H} (s : s_h h) : h_or h 602 44 = some 56 := s.2.1 (602, 44, 56) (by decide)
theorem or_603_44 {h : mm_H} (s : s_h h) : h_or h 603 44 = some 57 := s.2.1 (603, 44, 57) (by decide)
theorem or_605_44 {h : mm_H} (s : s_h h) : h_or h 605 44 = some 58 := s.2.1 (605, 44, 58) (by decide)
theorem or_606_44 {h : mm_H} (s : s_h h) : h_or h 606 44 = some 59 := s.2.1 (606, 44, 59) (by decide)
theorem or_607_44 {h : mm_H} (s : s_h h) : h_or h 607 44 = some 60 := s.2.1 (607, 44, 60) (by decide)
theorem or_608_44 {h : mm_H} (s : s_h h) : h_or h 608 44 = some 61 := s.2.1 (608, 44, 61) (by decide)
theorem or_609_44 {h : mm_H} (s : s_h h) : h_or h 609 44 = some 62 := s.2.1 (609, 44, 62) (by decide)
theorem or_610_44 {h : mm_H} (s : s_h h) : h_or h 610 44 = some 63 := s.2.1 (610, 44, 63) (by decide)
theorem or_611_44 {h : mm_H} (s : s_h h) : h_or h 611 44 = some 64 := s.2.1 (611, 44, 64) (by decide)
theorem or_612_44 {h : mm_H} (s : s_h h) : h_or h 612 44 = some 65 := s.2.1 (612, 44, 65) (by decide)
theorem or_613_44 {h : mm_H} (s : s_h h) : h_or h 613 44 = some 66 := s.2.1 (613, 44, 66) (by decide)
theorem or_614_44 {h : mm_H} (s : s_h h) : h_or h 614 44 = some 67 := s.2.1 (614, 44, 67) (by decide)
theorem or_615_44 {h : mm_H} (s : s_h h) : h_or h 615 44 = some 68 := s.2.1 (615, 44, 68) (by decide)
theorem or_616_44 {h : mm_H} (s : s_h h) : h_or h 616 44 = some 69 := s.2.1 (616, 44, 69) (by decide)
theorem al_1 {h : mm_H} (s : s_h h) : h_al h 1 = 5 := s.2.2.1 (1, 5) (by decide)
theorem al_2 {h : mm_H} (s : s_h h) : h_al h 2 = 5 := s.2.2.1 (2, 5) (by decide)
theorem al_3 {h : mm_H} (s : s_h h) : h_al h 3 = 5 := s.2.2.1 (3, 5) (by decide)
theorem al_18 {h : mm_H} (s : s_h h) : h_al h 18 = 200 := s.2.2.1 (18, 200) (by decide)
theorem al_20 {h : mm_H} (s : s_h h) : h_al h 20 = 5 := s.2.2.1 (20, 5) (by decide)
theorem al_22 {h : mm_H} (s : s_h h) : h_al h 22 = 6 := s.2.2.1 (22, 6) (by decide)
theorem al_23 {h : mm_H} (s : s_h h) : h_al h 23 = 6 := s.2.2.1 (23, 6) (by decide)
theorem al_24 {h : mm_H} (s : s_h h) : h_al h 24 = 5 := s.2.2.1 (24, 5) (by decide)
theorem al_25 {h : mm_H} (s : s_h h) : h_al h 25 = 5 := s.2.2.1 (25, 5) (by decide)
theorem al_26 {h : mm_H} (s : s_h h) : h_al h 26 = 5 := s.2.2.1 (26, 5) (by decide)
theorem al_27 {h : mm_H} (s : s_h h) : h_al h 27 = 5 := s.2.2.1 (27, 5) (by decide)
theorem al_28 {h : mm_H} (s : s_h h) : h_al h 28 = 5 := s.2.2.1 (28, 5) (by decide)
theorem al_29 {h : mm_H} (s : s_h h) : h_al h 29 = 5 := s.2.2.1 (29, 5) (by decide)
theorem al_30 {h : mm_H} (s : s_h h) : h_al h 30 = 12 := s.2.2.1 (30, 12) (by decide)
theorem al_32 {h : mm_H} (s : s_h h) : h_al h 32 = 10 := s.2.2.1 (32, 10) (by decide)
theorem al_33 {h : mm_H} (s : s_h h) : h_al h 33 = 10 := s.2.2.1 (33, 10) (by decide)
theorem al_34 {h : mm_H} (s : s_h h) : h_al h 34 = 10 := s.2.2.1 (34, 10) (by decide)
theorem al_36 {h : mm_H} (s : s_h h) : h_al h 36 = 10 := s.2.2.1 (36, 10) (by decide)
theorem al_37 {h : mm_H} (s : s_h h) : h_al h 37 = 10 := s.2.2.1 (37, 10) (by decide)
theorem al_38 {h : mm_H} (s : s_h h) : h_al h 38 = 10 := s.2.2.1 (38, 10) (by decide)
theorem al_40 {h : mm_H} (s : s_h h) : h_al h 40 = 10 := s.2.2.1 (40, 10) (by decide)
theorem al_41 {h : mm_H} (s : s_h h) : h_al h 41 = 10 := s.2.2.1 (41, 10) (by decide)
theorem al_42 {h : mm_H} (s : s_h h) : h_al h 42 = 10 := s.2.2.1 (42, 10) (by decide)
theorem al_43 {h : mm_H} (s : s_h h) : h_al h 43 = 4 := s.2.2.1 (43, 4) (by decide)
theorem al_45 {h : mm_H} (s : s_h h) : h_al h 45 = 200 := s.2.2.1 (45, 200) (by decide)
theorem al_46 {h : mm_H} (s : s_h h) : h_al h 46 = 5 := s.2.2.1 (46, 5) (by decide)
theorem al_47 {h : mm_H} (s : s_h h) : h_al h 47 = 6 := s.2.2.1 (47, 6) (by decide)
theorem al_48 {h : mm_H} (s : s_h h) : h_al h 48 = 30 := s.2.2.1 (48, 30) (by decide)
theorem al_49 {h : mm_H} (s : s_h h) : h_al h 49 = 12 := s.2.2.1 (49, 12) (by decide)
theorem al_50 {h : mm_H} (s : s_h h) : h_al h 50 = 12 := s.2.2.1 (50, 12) (by decide)
theorem al_51 {h : mm_H} (s : s_h h) : h_al h 51 = 12 := s.2.2.1 (51, 12) (by decide)
theorem al_52 {h : mm_H} (s : s_h h) : h_al h 52 = 12 := s.2.2.1 (52, 12) (by decide)
theorem al_53 {h : mm_H} (s : s_h h) : h_al h 53 = 24012 := s.2.2.1 (53, 24012) (by decide)
theorem al_54 {h : mm_H} (s : s_h h) : h_al h 54 = 144 := s.2.2.1 (54, 144) (by decide)
theorem al_55 {h : mm_H} (s : s_h h) : h_al h 55 = 10 := s.2.2.1 (55, 10) (by decide)
theorem al_56 {h : mm_H} (s : s_h h) : h_al h 56 = 10 := s.2.2.1 (56, 10) (by decide)
theorem al_57 {h : mm_H} (s : s_h h) : h_al h 57 = 10 := s.2.2.1 (57, 10) (by decide)
theorem al_58 {h : mm_H} (s : s_h h) : h_al h 58 = 10 := s.2.2.1 (58, 10) (by decide)
theorem al_59 {h : mm_H} (s : s_h h) : h_al h 59 = 10 := s.2.2.1 (59, 10) (by decide)
theorem al_60 {h : mm_H} (s : s_h h) : h_al h 60 = 10 := s.2.2.1 (60, 10) (by decide)
theorem al_61 {h : mm_H} (s : s_h h) : h_al h 61 = 100 := s.2.2.1 (61, 100) (by decide)
theorem al_62 {h : mm_H} (s : s_h h) : h_al h 62 = 10 := s.2.2.1 (62, 10) (by decide)
theorem al_63 {h : mm_H} (s : s_h h) : h_al h 63 = 10 := s.2.2.1 (63, 10) (by decide)
theorem al_64 {h : mm_H} (s : s_h h) : h_al h 64 = 10 := s.2.2.1 (64, 10) (by decide)
theorem al_65 {h : mm_H} (s : s_h h) : h_al h 65 = 20 := s.2.2.1 (65, 20) (by decide)
theorem al_66 {h : mm_H} (s : s_h h) : h_al h 66 = 10 := s.2.2.1 (66, 10) (by decide)
theorem al_67 {h : mm_H} (s : s_h h) : h_al h 67 = 4 := s.2.2.1 (67, 4) (by decide)
theorem al_68 {h : mm_H} (s : s_h h) : h_al h 68 = 4 := s.2.2.1 (68, 4) (by decide)
theorem al_69 {h : mm_H} (s : s_h h) : h_al h 69 = 240 := s.2.2.1 (69, 240) (by decide)
theorem n_70 {h : mm_H} (s : s_h h) : 70 ≤ h_n h := s.2.2.2.1
theorem ar_23 {h : mm_H} (s : s_h h) {i : Nat} (hi : i < 6) : h_ar h 23 i = some (24 + i) := s.2.2.2.2.1 i hi
theorem ai_1 {h : mm_H} (s : s_h h) : h_ai h 1 = (fun i => [0, 0, 1, 0, 0].getD i 0) := s.2.2.2.2.2.1
theorem ai_2 {h : mm_H} (s : s_h h) : h_ai h 2 = (fun i => [200, 47, 400, 50, 100].getD i 0) := s.2.2.2.2.2.2.1
theorem ai_3 {h : mm_H} (s : s_h h) : h_ai h 3 = (fun i => [0, -4, -4, 0, 0].getD i 0) := s.2.2.2.2.2.2.2
/-- the fixed part stays but for these fields and arrays -/
def fx (h h' : mm_H) (gs : List (Nat × Nat)) (as : List Nat) : Prop := (∀ a, a < 70 → h_kd h' a = h_kd h a ∧ h_al h' a = h_al h a ∧ (∀ g, h_or h' g a = h_or h g a) ∧ (a ∉ as → h_ai h' a = h_ai h a) ∧ (a ∉ as → h_ar h' a = h_ar h a) ∧ ∀ g, (g, a) ∉ gs → h_oi h' g a = h_oi h g a) ∧ h_n h ≤ h_n h'
/-- nothing of the made part changes -/
def dn (h h' : mm_H) : Prop := h_n h' = h_n h ∧ h_s h' = h_s h ∧ (∀ a, 70 ≤ a → h_kd h' a = h_kd h a ∧ h_al h' a = h_al h a ∧ h_ai h' a = h_ai h a ∧ h_ar h' a = h_ar h a) ∧ (∀ g a, 70 ≤ a → h_or h' g a = h_or h g a ∧ h_oi h' g a = h_oi h g a)
theorem fx.rf (h : mm_H) (gs : List (Nat × Nat)) (as : List Nat) : fx h h gs as := ⟨fun a _ => ⟨rfl, rfl, fun _ => rfl, fun _ => rfl, fun _ => rfl, fun _ _ => rfl⟩, Nat.le_refl _⟩
theorem dn.rf (h : mm_H) : dn h h := ⟨rfl, rfl, fun _ _ => ⟨rfl, rfl, rfl, rfl⟩, fun _ _ _ => ⟨rfl, rfl⟩⟩
theorem dn.tr {h h1 h2 : mm_H} (a : dn h h1) (b : dn h1 h2) : dn h h2 := ⟨b.1.trans a.1, b.2.1.trans a.2.1, fun x hx => ⟨(b.2.2.1 x hx).1.trans (a.2.2.1 x hx).1, (b.2.2.1 x hx).2.1.trans (a.2.2.1 x hx).2.1, (b.2.2.1 x hx).2.2.1.trans (a.2.2.1 x hx).2.2.1, (b.2.2.1 x hx).2.2.2.trans (a.2.2.1 x hx).2.2.2⟩, fun g x hx => ⟨(b.2.2.2 g x hx).1.trans (a.2.2.2 g x hx).1, (b.2.2.2 g x hx).2.trans (a.2.2.2 g x hx).2⟩⟩
theorem fx.sI {h h' : mm_H} {gs : List (Nat × Nat)} {as : List Nat} (f : fx h h' gs as) {g a : Nat} (x : Int32) (hm : (g, a) ∈ gs ∨ 70 ≤ a) : fx h (h_sI h' g a x) gs as := by
  refine ⟨fun b hb => ?_, f.2⟩
  obtain ⟨f1, f2, f3, f4, f5, f6⟩ := f.1 b hb
  refine ⟨f1, f2, f3, f4, f5, fun g' hg => ?_⟩
  show va_up (h_oi h') g (va_up (h_oi h' g) a x) g' b = _
  by_cases e : g' = g
  · subst e
    rw [va_up_self]
    by_cases e2 : b = a
    · subst e2
      rcases hm with hm | hm
      · exact absurd hm hg
      · omega
    · rw [va_up_ne _ _ e2]
      exact f6 g' hg
  · rw [va_up_ne _ _ e]
    exact f6 g' hg
theorem fx.sA {h h' : mm_H} {gs : List (Nat × Nat)} {as : List Nat} (f : fx h h' gs as) {a : Nat} (i : Nat) (x : Int32) (hm : a ∈ as ∨ 70 ≤ a) : fx h (h_sA h' a i x) gs as := by
  refine ⟨fun b hb => ?_, f.2⟩
  obtain ⟨f1, f2, f3, f4, f5, f6⟩ := f.1 b hb
  refine ⟨f1, f2, f3, fun hn => ?_, f5, f6⟩
  show va_up (h_ai h') a (va_up (h_ai h' a) i x) b = _
  have e : b ≠ a := fun e => by
    subst e
    rcases hm with hm | hm
    · exact hn hm
    · omega
  rw [va_up_ne _ _ e]
  exact f4 hn
theorem fx.tr {h h1 h2 : mm_H} {gs gs2 gs' : List (Nat × Nat)} {as as2 as' : List Nat} (f : fx h h1 gs as) (f2 : fx h1 h2 gs2 as2) (hg : ∀ q ∈ gs, q ∈ gs') (hg2 : ∀ q ∈ gs2, q ∈ gs') (ha : ∀ q ∈ as, q ∈ as') (ha2 : ∀ q ∈ as2, q ∈ as') : fx h h2 gs' as' := by
  refine ⟨fun b hb => ?_, Nat.le_trans f.2 f2.2⟩
  obtain ⟨p1, p2, p3, p4, p5, p6⟩ := f.1 b hb
  obtain ⟨q1, q2, q3, q4, q5, q6⟩ := f2.1 b hb
  exact ⟨q1.trans p1, q2.trans p2, fun g => (q3 g).trans (p3 g), fun n => (q4 (fun z => n (ha2 _ z))).trans (p4 (fun z => n (ha _ z))), fun n => (q5 (fun z => n (ha2 _ z))).trans (p5 (fun z => n (ha _ z))), fun g n => (q6 g (fun z => n (hg2 _ z))).trans (p6 g (fun z => n (hg _ z)))⟩
theorem dn.sI {h h' : mm_H} (f : dn h h') {g a : Nat} (x : Int32) (ha : a < 70) : dn h (h_sI h' g a x) := by
  refine f.tr ⟨rfl, rfl, fun _ _ => ⟨rfl, rfl, rfl, rfl⟩, fun g' b hb => ⟨rfl, ?_⟩⟩
  show va_up (h_oi h') g (va_up (h_oi h' g) a x) g' b = _
  by_cases e : g' = g
  · subst e
    rw [va_up_self, va_up_ne _ _ (by omega)]
  · rw [va_up_ne _ _ e]
theorem dn.sA {h h' : mm_H} (f : dn h h') {a : Nat} (i : Nat) (x : Int32) (ha : a < 70) : dn h (h_sA h' a i x) := by
  refine f.tr ⟨rfl, rfl, fun b hb => ⟨rfl, rfl, ?_, rfl⟩, fun _ _ _ => ⟨rfl, rfl⟩⟩
  show va_up (h_ai h') a (va_up (h_ai h' a) i x) b = _
  rw [va_up_ne _ _ (by omega)]
theorem fx.ai {h h' : mm_H} {gs : List (Nat × Nat)} {as : List Nat} (f : fx h h' gs as) (a : Nat) (ha : a < 70) (hn : a ∉ as) : h_ai h' a = h_ai h a := (f.1 a ha).2.2.2.1 hn
theorem fx.ar {h h' : mm_H} {gs : List (Nat × Nat)} {as : List Nat} (f : fx h h' gs as) (a : Nat) (ha : a < 70) (hn : a ∉ as) : h_ar h' a = h_ar h a := (f.1 a ha).2.2.2.2.1 hn
theorem fx.oi {h h' : mm_H} {gs : List (Nat × Nat)} {as : List Nat} (f : fx h h' gs as) (g a : Nat) (ha : a < 70) (hn : (g, a) ∉ gs) : h_oi h' g a = h_oi h g a := (f.1 a ha).2.2.2.2.2 g hn
theorem fx.sh {h h' : mm_H} {gs : List (Nat × Nat)} {as : List Nat} (f : fx h h' gs as) (s : s_h h) (hn : 1 ∉ as ∧ 2 ∉ as ∧ 3 ∉ as ∧ 23 ∉ as) : s_h h' := by
  obtain ⟨s1, s2, s3, s4, s5, s6, s7, s8⟩ := s
  have b1 : ∀ q ∈ sk_kd, q.1 < 70 := by decide
  have b2 : ∀ q ∈ sk_or, q.2.1 < 70 := by decide
  have b3 : ∀ q ∈ sk_al, q.1 < 70 := by decide
  refine ⟨fun q hq => (f.1 q.1 (b1 q hq)).1.trans (s1 q hq), fun q hq => ((f.1 q.2.1 (b2 q hq)).2.2.1 q.1).trans (s2 q hq), fun q hq => (f.1 q.1 (b3 q hq)).2.1.trans (s3 q hq), Nat.le_trans s4 f.2, fun i hi => ?_, ?_, ?_, ?_⟩
  · rw [f.ar 23 (by decide) hn.2.2.2]; exact s5 i hi
  · rw [f.ai 1 (by decide) hn.1]; exact s6
  · rw [f.ai 2 (by decide) hn.2.1]; exact s7
  · rw [f.ai 3 (by decide) hn.2.2.1]; exact s8
end
section
/-! plain facts on numbers and arrays, to paste: each family by itself; over the kit's rows on nI and upd -/
/-! ===== order of ints, in all its forms, and through longs ===== -/
theorem fa_lt (a b : Int32) : a < b ↔ a.toInt < b.toInt := Int32.lt_iff_toInt_lt
theorem fa_le (a b : Int32) : a ≤ b ↔ a.toInt ≤ b.toInt := Int32.le_iff_toInt_le
theorem fa_eq (a b : Int32) : a = b ↔ a.toInt = b.toInt := Int32.toInt_inj.symm
theorem fa_lt64 (a b : Int64) : a < b ↔ a.toInt < b.toInt := Int64.lt_iff_toInt_lt
theorem fa_le64 (a b : Int64) : a ≤ b ↔ a.toInt ≤ b.toInt := Int64.le_iff_toInt_le
theorem fa_eq64 (a b : Int64) : a = b ↔ a.toInt = b.toInt := Int64.toInt_inj.symm
/-- a comparison of two ints taken as longs -/
theorem fa_wide_lt (a b : Int32) : a.toInt64 < b.toInt64 ↔ a < b := by rw [fa_lt64, fa_lt, Int32.toInt_toInt64, Int32.toInt_toInt64]
theorem fa_wide_le (a b : Int32) : a.toInt64 ≤ b.toInt64 ↔ a ≤ b := by rw [fa_le64, fa_le, Int32.toInt_toInt64, Int32.toInt_toInt64]
theorem fa_wide_eq (a b : Int32) : a.toInt64 = b.toInt64 ↔ a = b := by rw [fa_eq64, fa_eq, Int32.toInt_toInt64, Int32.toInt_toInt64]
/-- one strict comparison gives all the others -/
theorem fa_of_lt {a b : Int32} (h : a < b) : a ≤ b ∧ ¬ b ≤ a ∧ ¬ b < a ∧ a ≠ b ∧ b ≠ a := by
  rw [fa_lt] at h
  refine ⟨?_, ?_, ?_, ?_, ?_⟩
  · rw [fa_le]; omega
  · rw [fa_le]; omega
  · rw [fa_lt]; omega
  · intro e; rw [fa_eq] at e; omega
  · intro e; rw [fa_eq] at e; omega
theorem fa_of_nlt {a b : Int32} (h : ¬ a < b) : b ≤ a := by
  rw [fa_lt] at h
  rw [fa_le]
  omega
theorem fa_of_nle {a b : Int32} (h : ¬ a ≤ b) : b < a := by
  rw [fa_le] at h
  rw [fa_lt]
  omega
theorem fa_le_ne {a b : Int32} (h : a ≤ b) (h2 : a ≠ b) : a < b := by
  rw [fa_le] at h
  rw [fa_lt]
  have h3 : a.toInt ≠ b.toInt := fun e => h2 ((fa_eq a b).mpr e)
  omega
theorem fa_three (a b : Int32) : a < b ∨ a = b ∨ b < a := by
  rw [fa_lt, fa_lt, fa_eq]
  omega
theorem fa_trans {a b c : Int32} (h : a < b) (h2 : b ≤ c) : a < c := by
  rw [fa_lt] at *
  rw [fa_le] at h2
  omega
/-! ===== small literals as numbers ===== -/
theorem fa_lit (n : Nat) : (OfNat.ofNat n : Int32) = nI n := rfl
theorem fa_litL (n : Nat) : (OfNat.ofNat n : Int64) = lN n := rfl
/-! ===== bits of a number: 'or', masks, one bit ===== -/
theorem fa_and (a b : Nat) : nI a &&& nI b = nI (a &&& b) := by
  apply Int32.toBitVec_inj.1
  show BitVec.ofNat 32 a &&& BitVec.ofNat 32 b = BitVec.ofNat 32 (a &&& b)
  apply BitVec.eq_of_getLsbD_eq
  intro i hi
  simp [hi]
theorem fa_or (a b : Nat) : nI a ||| nI b = nI (a ||| b) := by
  apply Int32.toBitVec_inj.1
  show BitVec.ofNat 32 a ||| BitVec.ofNat 32 b = BitVec.ofNat 32 (a ||| b)
  apply BitVec.eq_of_getLsbD_eq
  intro i hi
  simp [hi]
/-- a remainder by a power of two, as a mask -/
theorem fa_mask (n k : Nat) : nI n &&& nI (2 ^ k - 1) = nI (n % 2 ^ k) := by rw [fa_and, Nat.and_two_pow_sub_one_eq_mod]
/-- 'or' of a high part and a low one that don't meet is their sum -/
theorem fa_or_sum {a k : Nat} (b : Nat) (h : a < 2 ^ k) : nI (2 ^ k * b) ||| nI a = nI (2 ^ k * b + a) := by rw [fa_or, Nat.two_pow_add_eq_or_of_lt h]
/-- one bit, by 'and' with a power of two -/
theorem fa_bit {n j : Nat} (hj : j < 31) : nI n &&& nI (2 ^ j) = 0 ↔ n.testBit j = false := by
  have h2 : (2 : Nat) ^ j < 2 ^ 31 := Nat.pow_lt_pow_right (by decide) hj
  have hle : n &&& 2 ^ j ≤ 2 ^ j := Nat.and_le_right
  have e : n &&& 2 ^ j = 0 ↔ n.testBit j = false := by
    constructor
    · intro h
      have h1 : (n &&& 2 ^ j).testBit j = false := by rw [h]; simp
      rw [Nat.testBit_and] at h1
      first | simpa using h1 | simpa [Nat.testBit_two_pow_self] using h1 | simpa [Nat.testBit_two_pow] using h1
    · intro h
      apply Nat.eq_of_testBit_eq
      intro i
      rw [Nat.testBit_and]
      by_cases hi : j = i
      · subst hi; simp [h]
      · first | (simp [Nat.testBit_two_pow, hi]; done) | (simp [Nat.testBit_two_pow_of_ne hi]; done)
  rw [fa_and]
  constructor
  · intro h
    apply e.mp
    rcases Nat.eq_zero_or_pos (n &&& 2 ^ j) with z | z
    · exact z
    · exact absurd h (nI_ne0 z (Nat.lt_of_le_of_lt hle h2))
  · intro h
    rw [e.mpr h]; exact nI_0
/-- a remainder by a power of two of a number that isn't negative, as Java divides -/
theorem fa_rem {a k : Nat} (ha : a < 2 ^ 31) (hk : k < 31) : nI a - nI a / nI (2 ^ k) * nI (2 ^ k) = nI (a % 2 ^ k) := pk_rem ha (Nat.two_pow_pos k) (Nat.pow_lt_pow_right (by decide) hk)
/-! ===== cuts to a byte, a short ===== -/
theorem fa_byte_xor (x y : Int32) : (x ^^^ y).toInt8 = x.toInt8 ^^^ y.toInt8 := by
  apply Int8.toBitVec_inj.1
  apply BitVec.eq_of_getLsbD_eq
  intro i hi
  first | (simp [hi]; done) | (simp [hi, BitVec.getLsbD_setWidth, BitVec.getLsbD_signExtend]; done)
theorem fa_short_xor (x y : Int32) : (x ^^^ y).toInt16 = x.toInt16 ^^^ y.toInt16 := by
  apply Int16.toBitVec_inj.1
  apply BitVec.eq_of_getLsbD_eq
  intro i hi
  first | (simp [hi]; done) | (simp [hi, BitVec.getLsbD_setWidth, BitVec.getLsbD_signExtend]; done)
/-- the cut to a byte sees the low byte alone -/
theorem fa_byte_low (x : Int32) : (x &&& 255).toInt8 = x.toInt8 := by
  apply Int8.toBitVec_inj.1
  apply BitVec.eq_of_getLsbD_eq
  intro i hi
  have h2 : (255 : Int32).toBitVec.getLsbD i = true := by
    have : ∀ j : Fin 8, (255 : Int32).toBitVec.getLsbD j.val = true := by decide +kernel
    exact this ⟨i, hi⟩
  have h4 : (x &&& 255).toBitVec.getLsbD i = x.toBitVec.getLsbD i := by
    show (x.toBitVec &&& (255 : Int32).toBitVec).getLsbD i = _
    rw [BitVec.getLsbD_and, h2, Bool.and_true]
  have h3 : i < 32 := by omega
  first
    | (show (((x &&& 255).toBitVec).signExtend 8).getLsbD i = (x.toBitVec.signExtend 8).getLsbD i; rw [BitVec.getLsbD_signExtend, BitVec.getLsbD_signExtend, if_pos h3, if_pos h3, h4])
    | (show (((x &&& 255).toBitVec).setWidth 8).getLsbD i = (x.toBitVec.setWidth 8).getLsbD i; rw [BitVec.getLsbD_setWidth, BitVec.getLsbD_setWidth, h4])
    | (simp [hi, h3, h4]; done)
theorem fa_short_low (x : Int32) : (x &&& 65535).toInt16 = x.toInt16 := by
  apply Int16.toBitVec_inj.1
  apply BitVec.eq_of_getLsbD_eq
  intro i hi
  have h2 : (65535 : Int32).toBitVec.getLsbD i = true := by
    have : ∀ j : Fin 16, (65535 : Int32).toBitVec.getLsbD j.val = true := by decide +kernel
    exact this ⟨i, hi⟩
  have h4 : (x &&& 65535).toBitVec.getLsbD i = x.toBitVec.getLsbD i := by
    show (x.toBitVec &&& (65535 : Int32).toBitVec).getLsbD i = _
    rw [BitVec.getLsbD_and, h2, Bool.and_true]
  have h3 : i < 32 := by omega
  first
    | (show (((x &&& 65535).toBitVec).signExtend 16).getLsbD i = (x.toBitVec.signExtend 16).getLsbD i; rw [BitVec.getLsbD_signExtend, BitVec.getLsbD_signExtend, if_pos h3, if_pos h3, h4])
    | (show (((x &&& 65535).toBitVec).setWidth 16).getLsbD i = (x.toBitVec.setWidth 16).getLsbD i; rw [BitVec.getLsbD_setWidth, BitVec.getLsbD_setWidth, h4])
    | (simp [hi, h3, h4]; done)
/-- a small number is its own byte, its own short -/
theorem fa_byte_small {n : Nat} (h : n < 128) : (nI n).toInt8.toInt32 = nI n := by
  have : ∀ j : Fin 128, (nI j.val).toInt8.toInt32 = nI j.val := by decide +kernel
  exact this ⟨n, h⟩
/-! ===== absolute difference ===== -/
theorem fa_absdiff {a b : Nat} (ha : a < 2 ^ 31) (hb : b < 2 ^ 31) : (if nI a < nI b then nI b - nI a else nI a - nI b) = nI (if a < b then b - a else a - b) := by
  by_cases h : a < b
  · rw [if_pos (nI_lt h hb), if_pos h]
    exact pk_sub (Nat.le_of_lt h)
  · rw [if_neg (nI_nlt (Nat.le_of_not_lt h) ha), if_neg h]
    exact pk_sub (Nat.le_of_not_lt h)
/-! ===== an array behind i stores, a conditional store, a row copied ===== -/
/-- f where k < i, what stood there else -/
def fa_fill {α : Type} (f g : Nat → α) (i : Nat) : Nat → α := fun k => if k < i then f k else g k
theorem fa_fill_0 {α : Type} (f g : Nat → α) : fa_fill f g 0 = g := funext fun k => if_neg (Nat.not_lt_zero k)
theorem fa_fill_in {α : Type} {f g : Nat → α} {i k : Nat} (h : k < i) : fa_fill f g i k = f k := if_pos h
theorem fa_fill_out {α : Type} {f g : Nat → α} {i k : Nat} (h : i ≤ k) : fa_fill f g i k = g k := if_neg (Nat.not_lt.mpr h)
theorem fa_fill_succ (f g : Nat → Int32) (i : Nat) : upd (fa_fill f g i) i (f i) = fa_fill f g (i + 1) := by
  funext k
  by_cases e : k = i
  · subst e
    rw [pk_us]
    exact (if_pos (Nat.lt_succ_self k)).symm
  · rw [pk_un e]
    by_cases h : k < i
    · rw [fa_fill_in h, fa_fill_in (Nat.lt_succ_of_lt h)]
    · rw [fa_fill_out (Nat.le_of_not_lt h), fa_fill_out (by omega)]
/-- a store that changes nothing -/
theorem fa_upd_same {f : Nat → Int32} {i : Nat} {x : Int32} (h : f i = x) : upd f i x = f := by
  funext k
  by_cases e : k = i
  · subst e
    rw [pk_us, h]
  · rw [pk_un e]
/-- a store under a condition, told as one -/
theorem fa_upd_if (c : Prop) [Decidable c] (f : Nat → Int32) (i : Nat) (x : Int32) : (if c then upd f i x else f) = upd f i (if c then x else f i) := by
  by_cases h : c
  · rw [if_pos h, if_pos h]
  · rw [if_neg h, if_neg h, fa_upd_same rfl]
/-- two stores at one place, at two -/
theorem fa_upd_twice (f : Nat → Int32) (i : Nat) (x y : Int32) : upd (upd f i x) i y = upd f i y := by
  funext k
  by_cases e : k = i
  · subst e
    rw [pk_us, pk_us]
  · rw [pk_un e, pk_un e, pk_un e]
theorem fa_upd_swap (f : Nat → Int32) {i j : Nat} (h : i ≠ j) (x y : Int32) : upd (upd f i x) j y = upd (upd f j y) i x := by
  funext k
  by_cases e : k = i
  · subst e
    rw [pk_un h, pk_us, pk_us]
  · by_cases e2 : k = j
    · subst e2
      rw [pk_us, pk_un e, pk_us]
    · rw [pk_un e2, pk_un e, pk_un e, pk_un e2]
/-! ===== the first index with a property; a count ===== -/
/-- the first k < n with p k, n if there is none -/
def fa_first (p : Nat → Bool) : Nat → Nat
  | 0 => 0
  | n + 1 => if fa_first p n < n then fa_first p n else if p n then n else n + 1
theorem fa_first_le (p : Nat → Bool) : ∀ n, fa_first p n ≤ n
  | 0 => Nat.le_refl 0
  | n + 1 => by
    have ih := fa_first_le p n
    unfold fa_first
    split
    · omega
    · split
      · omega
      · omega
theorem fa_first_no (p : Nat → Bool) : ∀ n k, k < fa_first p n → p k = false
  | 0, k, h => absurd h (Nat.not_lt_zero k)
  | n + 1, k, h => by
    have ih := fa_first_no p n
    have hl := fa_first_le p n
    unfold fa_first at h
    split at h
    · exact ih k h
    · rename_i h1
      split at h
      · exact ih k (by omega)
      · rename_i h2
        by_cases e : k = n
        · subst e
          exact Bool.eq_false_iff.mpr h2
        · exact ih k (by omega)
theorem fa_first_yes (p : Nat → Bool) : ∀ n, fa_first p n < n → p (fa_first p n) = true
  | 0, h => absurd h (Nat.not_lt_zero _)
  | n + 1, h => by
    have ih := fa_first_yes p n
    have hl := fa_first_le p n
    unfold fa_first at h ⊢
    split at h
    · rename_i h1
      rw [if_pos h1]
      exact ih h1
    · rename_i h1
      rw [if_neg h1]
      split at h
      · rename_i h2
        rw [if_pos h2]
        exact h2
      · omega
/-- how many k < n have p k -/
def fa_cnt (p : Nat → Bool) : Nat → Nat
  | 0 => 0
  | n + 1 => fa_cnt p n + if p n then 1 else 0
theorem fa_cnt_le (p : Nat → Bool) : ∀ n, fa_cnt p n ≤ n
  | 0 => Nat.le_refl 0
  | n + 1 => by
    have ih := fa_cnt_le p n
    unfold fa_cnt
    split
    · omega
    · omega
theorem fa_cnt_yes {p : Nat → Bool} {n : Nat} (h : p n = true) : fa_cnt p (n + 1) = fa_cnt p n + 1 := by rw [fa_cnt, if_pos h]
theorem fa_cnt_no {p : Nat → Bool} {n : Nat} (h : p n = false) : fa_cnt p (n + 1) = fa_cnt p n := by rw [fa_cnt, if_neg (by rw [h]; decide)]; rfl
theorem fa_cnt_cong {p q : Nat → Bool} : ∀ {n : Nat}, (∀ k, k < n → p k = q k) → fa_cnt p n = fa_cnt q n
  | 0, _ => rfl
  | n + 1, h => by rw [fa_cnt, fa_cnt, fa_cnt_cong (fun k hk => h k (Nat.lt_succ_of_lt hk)), h n (Nat.lt_succ_self n)]
/-! ===== an answer carried into a post; a branch on a boolean answer ===== -/
theorem fa_post {α : Type} {P : α → Prop} {x y : α} (h : x = y) (hp : P y) : P x := h ▸ hp
theorem fa_post2 {α β : Type} {P : α → β → Prop} {x y : α} {u v : β} (h : x = y) (h2 : u = v) (hp : P y v) : P x u := h ▸ h2 ▸ hp
theorem fa_bool {r : Int32} {b : Bool} (h : r = if b then 1 else 0) : (r = 0 ↔ b = false) ∧ (¬ r = 0 ↔ b = true) := by
  subst h
  cases b
  · exact ⟨⟨fun _ => rfl, fun _ => rfl⟩, ⟨fun h => absurd rfl h, fun h => absurd h (by decide)⟩⟩
  · exact ⟨⟨fun h => absurd h (by decide), fun h => absurd h (by decide)⟩, ⟨fun _ => rfl, fun _ => by decide⟩⟩
/-- a boolean's narrowing changes nothing -/
theorem fa_bool_and {r : Int32} (h : r = 0 ∨ r = 1) : r &&& 1 = r := by
  rcases h with rfl | rfl
  · decide
  · decide
theorem fa_bool_prop {c : Prop} [Decidable c] {r : Int32} (h : r = if c then 1 else 0) : (r = 0 ↔ ¬ c) ∧ (¬ r = 0 ↔ c) := by
  subst h
  by_cases hc : c
  · rw [if_pos hc]
    exact ⟨⟨fun h => absurd h (by decide), fun h => absurd hc h⟩, ⟨fun _ => hc, fun _ => by decide⟩⟩
  · rw [if_neg hc]
    exact ⟨⟨fun _ => hc, fun _ => rfl⟩, ⟨fun h => absurd rfl h, fun h => absurd h hc⟩⟩
end
section
/-! plain facts to paste, each family by itself; over the kit's nI, lN and upd -/
/-! ===== drawers: more things than places ===== -/
theorem fb_holes : ∀ (m n : Nat) (f : Nat → Nat), (∀ i, i < n → f i < m) → (∀ i j, i < j → j < n → f i ≠ f j) → n ≤ m := by
  intro m
  induction m with
  | zero =>
    intro n f h1 _
    rcases Nat.eq_zero_or_pos n with h | h
    · omega
    · exact absurd (h1 0 h) (Nat.not_lt_zero _)
  | succ m ih =>
    intro n f h1 h2
    by_cases hx : ∃ i, i < n ∧ f i = m
    · obtain ⟨a, ha, hfa⟩ := hx
      have hg := ih (n - 1) (fun i => if i < a then f i else f (i + 1)) (by
        intro i hi
        by_cases q : i < a
        · simp only [if_pos q]
          have b1 := h1 i (by omega)
          have b2 := h2 i a q ha
          omega
        · simp only [if_neg q]
          have b1 := h1 (i + 1) (by omega)
          have b2 := h2 a (i + 1) (by omega) (by omega)
          omega) (by
        intro i j hij hj
        by_cases q : i < a
        · by_cases r : j < a
          · simp only [if_pos q, if_pos r]
            exact h2 i j hij (by omega)
          · simp only [if_pos q, if_neg r]
            exact h2 i (j + 1) (by omega) (by omega)
        · have r : ¬ j < a := by omega
          simp only [if_neg q, if_neg r]
          exact h2 (i + 1) (j + 1) (by omega) (by omega))
      omega
    · have hg := ih n f (fun i hi => by
        have b1 := h1 i hi
        have b2 : f i ≠ m := fun e => hx ⟨i, hi, e⟩
        omega) h2
      omega
/-- two of them in one place -/
theorem fb_twice {m n : Nat} {f : Nat → Nat} (h : ∀ i, i < n → f i < m) (hm : m < n) : ∃ i j, i < j ∧ j < n ∧ f i = f j := by
  refine Classical.byContradiction fun hx => ?_
  have := fb_holes m n f h (fun i j hij hj e => hx ⟨i, j, hij, hj, e⟩)
  omega
/-- as many as places, none twice: each place is taken -/
theorem fb_onto {n : Nat} {f : Nat → Nat} (h : ∀ i, i < n → f i < n) (h2 : ∀ i j, i < j → j < n → f i ≠ f j) {y : Nat} (hy : y < n) : ∃ i, i < n ∧ f i = y := by
  refine Classical.byContradiction fun hx => ?_
  have hne : ∀ i, i < n → f i ≠ y := fun i hi e => hx ⟨i, hi, e⟩
  have := fb_holes (n - 1) n (fun i => if f i < y then f i else f i - 1) (by
    intro i hi
    have b1 := h i hi
    have b2 := hne i hi
    by_cases q : f i < y
    · simp only [if_pos q]; omega
    · simp only [if_neg q]; omega) (by
    intro i j hij hj
    have b1 := hne i (by omega)
    have b2 := hne j hj
    have b3 := h2 i j hij hj
    by_cases q : f i < y
    · by_cases r : f j < y
      · simp only [if_pos q, if_pos r]; exact b3
      · simp only [if_pos q, if_neg r]; omega
    · by_cases r : f j < y
      · simp only [if_neg q, if_pos r]; omega
      · simp only [if_neg q, if_neg r]; omega)
  omega
/-! ===== how many places have a property ===== -/
def fb_ct (p : Nat → Bool) : Nat → Nat
  | 0 => 0
  | n + 1 => fb_ct p n + (if p n then 1 else 0)
theorem fb_ct_succ (p : Nat → Bool) (n : Nat) : fb_ct p (n + 1) = fb_ct p n + (if p n then 1 else 0) := rfl
theorem fb_ct_le (p : Nat → Bool) : ∀ n, fb_ct p n ≤ n
  | 0 => Nat.le_refl _
  | n + 1 => by
    have h := fb_ct_le p n
    rw [fb_ct_succ]
    split <;> omega
theorem fb_ct_step (p : Nat → Bool) (m : Nat) : ∀ n, fb_ct p m ≤ fb_ct p (m + n)
  | 0 => Nat.le_refl _
  | n + 1 => by
    have h := fb_ct_step p m n
    show fb_ct p m ≤ fb_ct p (m + n + 1)
    rw [fb_ct_succ]
    omega
theorem fb_ct_mono (p : Nat → Bool) {m n : Nat} (h : m ≤ n) : fb_ct p m ≤ fb_ct p n := by
  have := fb_ct_step p m (n - m)
  rwa [Nat.add_sub_cancel' h] at this
theorem fb_ct_cong {p q : Nat → Bool} : ∀ {n : Nat}, (∀ k, k < n → p k = q k) → fb_ct p n = fb_ct q n
  | 0, _ => rfl
  | n + 1, h => by
    rw [fb_ct_succ, fb_ct_succ, fb_ct_cong (fun k hk => h k (by omega)), h n (by omega)]
/-- one place changed -/
theorem fb_ct_out (p : Nat → Bool) (b : Bool) {i n : Nat} (h : n ≤ i) : fb_ct (fun k => if k = i then b else p k) n = fb_ct p n :=
  fb_ct_cong fun k hk => if_neg (by omega)
theorem fb_ct_upd (p : Nat → Bool) (b : Bool) {i : Nat} : ∀ {n : Nat}, i < n → fb_ct (fun k => if k = i then b else p k) n + (if p i then 1 else 0) = fb_ct p n + (if b then 1 else 0)
  | 0, h => absurd h (Nat.not_lt_zero i)
  | n + 1, h => by
    rw [fb_ct_succ, fb_ct_succ]
    rcases Nat.lt_or_ge i n with q | q
    · have := fb_ct_upd p b q
      have e : (if n = i then b else p n) = p n := if_neg (by omega)
      rw [e]
      omega
    · have e : i = n := by omega
      subst e
      rw [fb_ct_out p b (Nat.le_refl _)]
      simp only [if_true]
      omega
theorem fb_ct_sub {p q : Nat → Bool} : ∀ {n : Nat}, (∀ k, k < n → p k = true → q k = true) → fb_ct p n ≤ fb_ct q n
  | 0, _ => Nat.le_refl _
  | n + 1, h => by
    have h1 := fb_ct_sub (n := n) (p := p) (q := q) (fun k hk => h k (by omega))
    have h2 := h n (by omega)
    rw [fb_ct_succ, fb_ct_succ]
    cases hp : p n <;> cases hq : q n <;> simp_all <;> omega
theorem fb_ct_or {p q : Nat → Bool} : ∀ {n : Nat}, (∀ k, k < n → ¬ (p k = true ∧ q k = true)) → fb_ct (fun k => p k || q k) n = fb_ct p n + fb_ct q n
  | 0, _ => rfl
  | n + 1, h => by
    have h1 := fb_ct_or (n := n) (p := p) (q := q) (fun k hk => h k (by omega))
    have h2 := h n (by omega)
    rw [fb_ct_succ, fb_ct_succ, fb_ct_succ, h1]
    cases hp : p n <;> cases hq : q n <;> simp_all <;> omega
theorem fb_ct_not (p : Nat → Bool) : ∀ n, fb_ct p n + fb_ct (fun k => !p k) n = n
  | 0 => rfl
  | n + 1 => by
    have h := fb_ct_not p n
    rw [fb_ct_succ, fb_ct_succ]
    cases p n <;> simp <;> omega
theorem fb_ct_split (p : Nat → Bool) (m : Nat) : ∀ n, fb_ct p (m + n) = fb_ct p m + fb_ct (fun k => p (m + k)) n
  | 0 => rfl
  | n + 1 => by
    have h := fb_ct_split p m n
    show fb_ct p (m + n + 1) = _
    rw [fb_ct_succ, fb_ct_succ, h, Nat.add_assoc]
theorem fb_ct_zero {p : Nat → Bool} : ∀ {n : Nat}, fb_ct p n = 0 ↔ ∀ k, k < n → p k = false
  | 0 => ⟨fun _ k hk => absurd hk (Nat.not_lt_zero k), fun _ => rfl⟩
  | n + 1 => by
    have h := fb_ct_zero (p := p) (n := n)
    rw [fb_ct_succ]
    constructor
    · intro e k hk
      have e1 : fb_ct p n = 0 := by omega
      rcases Nat.lt_or_ge k n with q | q
      · exact h.mp e1 k q
      · have ek : k = n := by omega
        subst ek
        cases hp : p k
        · rfl
        · simp [hp] at e
    · intro a
      rw [h.mpr (fun k hk => a k (by omega)), a n (by omega)]
      rfl
theorem fb_ct_pos {p : Nat → Bool} {n : Nat} : 0 < fb_ct p n ↔ ∃ k, k < n ∧ p k = true := by
  constructor
  · intro h
    refine Classical.byContradiction fun hx => ?_
    have := fb_ct_zero.mpr (fun k hk => by
      cases hp : p k
      · rfl
      · exact absurd ⟨k, hk, hp⟩ hx : ∀ k, k < n → p k = false)
    omega
  · rintro ⟨k, hk, hp⟩
    rcases Nat.eq_zero_or_pos (fb_ct p n) with e | e
    · have := fb_ct_zero.mp e k hk
      rw [this] at hp
      cases hp
    · exact e
theorem fb_ct_all {p : Nat → Bool} {n : Nat} : fb_ct p n = n ↔ ∀ k, k < n → p k = true := by
  have h := fb_ct_not p n
  constructor
  · intro e k hk
    have z : fb_ct (fun k => !p k) n = 0 := by omega
    have := fb_ct_zero.mp z k hk
    cases hp : p k
    · simp [hp] at this
    · rfl
  · intro a
    have z : fb_ct (fun k => !p k) n = 0 := fb_ct_zero.mpr (fun k hk => by simp [a k hk])
    omega
/-- the k-th place with the property -/
theorem fb_ct_kth {p : Nat → Bool} {k : Nat} : ∀ {n : Nat}, k < fb_ct p n → ∃ i, i < n ∧ p i = true ∧ fb_ct p i = k
  | 0, h => absurd h (Nat.not_lt_zero k)
  | n + 1, h => by
    rcases Nat.lt_or_ge k (fb_ct p n) with q | q
    · obtain ⟨i, h1, h2⟩ := fb_ct_kth q
      exact ⟨i, by omega, h2⟩
    · rw [fb_ct_succ] at h
      cases hp : p n
      · simp [hp] at h; omega
      · simp [hp] at h
        exact ⟨n, by omega, hp, by omega⟩
theorem fb_ct_kth_one {p : Nat → Bool} {i j : Nat} (hi : p i = true) (hj : p j = true) (e : fb_ct p i = fb_ct p j) : i = j := by
  have key : ∀ a b : Nat, a < b → p a = true → fb_ct p a < fb_ct p b := by
    intro a b hab ha
    have h := fb_ct_mono p (show a + 1 ≤ b from hab)
    rw [fb_ct_succ, ha] at h
    simp at h
    omega
  rcases Nat.lt_trichotomy i j with q | q | q
  · have := key i j q hi; omega
  · exact q
  · have := key j i q hj; omega
/-! ===== sums over a range: one place changed, parts, bounds ===== -/
def fb_sm (f : Nat → Nat) : Nat → Nat
  | 0 => 0
  | n + 1 => fb_sm f n + f n
theorem fb_sm_succ (f : Nat → Nat) (n : Nat) : fb_sm f (n + 1) = fb_sm f n + f n := rfl
theorem fb_sm_cong {f g : Nat → Nat} : ∀ {n : Nat}, (∀ k, k < n → f k = g k) → fb_sm f n = fb_sm g n
  | 0, _ => rfl
  | n + 1, h => by rw [fb_sm_succ, fb_sm_succ, fb_sm_cong (fun k hk => h k (by omega)), h n (by omega)]
theorem fb_sm_out (f : Nat → Nat) (v : Nat) {i n : Nat} (h : n ≤ i) : fb_sm (fun k => if k = i then v else f k) n = fb_sm f n :=
  fb_sm_cong fun k hk => if_neg (by omega)
theorem fb_sm_upd (f : Nat → Nat) (v : Nat) {i : Nat} : ∀ {n : Nat}, i < n → fb_sm (fun k => if k = i then v else f k) n + f i = fb_sm f n + v
  | 0, h => absurd h (Nat.not_lt_zero i)
  | n + 1, h => by
    rw [fb_sm_succ, fb_sm_succ]
    rcases Nat.lt_or_ge i n with q | q
    · have := fb_sm_upd f v q
      have e : (if n = i then v else f n) = f n := if_neg (by omega)
      rw [e]
      omega
    · have e : i = n := by omega
      subst e
      rw [fb_sm_out f v (Nat.le_refl _)]
      simp only [if_true]
      omega
theorem fb_sm_add (f g : Nat → Nat) : ∀ n, fb_sm (fun k => f k + g k) n = fb_sm f n + fb_sm g n
  | 0 => rfl
  | n + 1 => by
    have h := fb_sm_add f g n
    rw [fb_sm_succ, fb_sm_succ, fb_sm_succ, h]
    omega
theorem fb_sm_le {f g : Nat → Nat} : ∀ {n : Nat}, (∀ k, k < n → f k ≤ g k) → fb_sm f n ≤ fb_sm g n
  | 0, _ => Nat.le_refl _
  | n + 1, h => by
    have h1 := fb_sm_le (n := n) (f := f) (g := g) (fun k hk => h k (by omega))
    have h2 := h n (by omega)
    rw [fb_sm_succ, fb_sm_succ]
    omega
theorem fb_sm_const (c : Nat) : ∀ n, fb_sm (fun _ => c) n = n * c
  | 0 => by rw [Nat.zero_mul]; rfl
  | n + 1 => by rw [fb_sm_succ, fb_sm_const c n, Nat.succ_mul]
theorem fb_sm_bound {f : Nat → Nat} {c n : Nat} (h : ∀ k, k < n → f k ≤ c) : fb_sm f n ≤ n * c := by
  rw [← fb_sm_const c n]
  exact fb_sm_le h
theorem fb_sm_mono (f : Nat → Nat) (m : Nat) : ∀ n, fb_sm f m ≤ fb_sm f (m + n)
  | 0 => Nat.le_refl _
  | n + 1 => by
    have h := fb_sm_mono f m n
    show fb_sm f m ≤ fb_sm f (m + n + 1)
    rw [fb_sm_succ]
    omega
theorem fb_sm_part (f : Nat → Nat) {i n : Nat} (h : i < n) : fb_sm f i + f i ≤ fb_sm f n := by
  have := fb_sm_mono f (i + 1) (n - (i + 1))
  rw [fb_sm_succ, show i + 1 + (n - (i + 1)) = n by omega] at this
  exact this
theorem fb_sm_split (f : Nat → Nat) (m : Nat) : ∀ n, fb_sm f (m + n) = fb_sm f m + fb_sm (fun k => f (m + k)) n
  | 0 => rfl
  | n + 1 => by
    have h := fb_sm_split f m n
    show fb_sm f (m + n + 1) = _
    rw [fb_sm_succ, fb_sm_succ, h, Nat.add_assoc]
theorem fb_sm_zero {f : Nat → Nat} {n : Nat} (h : fb_sm f n = 0) : ∀ k, k < n → f k = 0 := fun k hk => by
  have := fb_sm_part f hk
  omega
/-- the same over whole numbers -/
def fb_si (f : Nat → Int) : Nat → Int
  | 0 => 0
  | n + 1 => fb_si f n + f n
theorem fb_si_succ (f : Nat → Int) (n : Nat) : fb_si f (n + 1) = fb_si f n + f n := rfl
theorem fb_si_cong {f g : Nat → Int} : ∀ {n : Nat}, (∀ k, k < n → f k = g k) → fb_si f n = fb_si g n
  | 0, _ => rfl
  | n + 1, h => by rw [fb_si_succ, fb_si_succ, fb_si_cong (fun k hk => h k (by omega)), h n (by omega)]
theorem fb_si_out (f : Nat → Int) (v : Int) {i n : Nat} (h : n ≤ i) : fb_si (fun k => if k = i then v else f k) n = fb_si f n :=
  fb_si_cong fun k hk => if_neg (by omega)
theorem fb_si_upd (f : Nat → Int) (v : Int) {i : Nat} : ∀ {n : Nat}, i < n → fb_si (fun k => if k = i then v else f k) n = fb_si f n - f i + v
  | 0, h => absurd h (Nat.not_lt_zero i)
  | n + 1, h => by
    rw [fb_si_succ, fb_si_succ]
    rcases Nat.lt_or_ge i n with q | q
    · have := fb_si_upd f v q
      have e : (if n = i then v else f n) = f n := if_neg (by omega)
      rw [e]
      omega
    · have e : i = n := by omega
      subst e
      rw [fb_si_out f v (Nat.le_refl _)]
      simp only [if_true]
      omega
theorem fb_si_add (f g : Nat → Int) : ∀ n, fb_si (fun k => f k + g k) n = fb_si f n + fb_si g n
  | 0 => rfl
  | n + 1 => by
    have h := fb_si_add f g n
    rw [fb_si_succ, fb_si_succ, fb_si_succ, h]
    omega
theorem fb_si_sub (f g : Nat → Int) : ∀ n, fb_si (fun k => f k - g k) n = fb_si f n - fb_si g n
  | 0 => rfl
  | n + 1 => by
    have h := fb_si_sub f g n
    rw [fb_si_succ, fb_si_succ, fb_si_succ, h]
    omega
theorem fb_si_mul (c : Int) (f : Nat → Int) : ∀ n, fb_si (fun k => c * f k) n = c * fb_si f n
  | 0 => (Int.mul_zero c).symm
  | n + 1 => by
    have h := fb_si_mul c f n
    rw [fb_si_succ, fb_si_succ, h, Int.mul_add]
theorem fb_si_split (f : Nat → Int) (m : Nat) : ∀ n, fb_si f (m + n) = fb_si f m + fb_si (fun k => f (m + k)) n
  | 0 => (Int.add_zero _).symm
  | n + 1 => by
    have h := fb_si_split f m n
    show fb_si f (m + n + 1) = _
    rw [fb_si_succ, fb_si_succ, h, Int.add_assoc]
theorem fb_si_nat (f : Nat → Nat) : ∀ n, fb_si (fun k => (f k : Int)) n = (fb_sm f n : Int)
  | 0 => rfl
  | n + 1 => by
    have h := fb_si_nat f n
    rw [fb_si_succ, fb_sm_succ, h]
    omega
theorem fb_si_bound {f : Nat → Int} {c : Int} (hc : 0 ≤ c) : ∀ {n : Nat}, (∀ k, k < n → -c ≤ f k ∧ f k ≤ c) → -(n * c) ≤ fb_si f n ∧ fb_si f n ≤ n * c
  | 0, _ => by simp [fb_si]
  | n + 1, h => by
    have h1 := fb_si_bound (n := n) (f := f) hc (fun k hk => h k (by omega))
    have h2 := h n (by omega)
    have e : ((n + 1 : Nat) : Int) * c = n * c + c := by rw [Int.natCast_add, Int.add_mul]; simp
    rw [fb_si_succ, e]
    omega
/-! ===== bits of a long that isn't negative ===== -/
theorem fb_andL (a b : Nat) : lN a &&& lN b = lN (a &&& b) := by
  apply Int64.toBitVec_inj.1
  show BitVec.ofNat 64 a &&& BitVec.ofNat 64 b = BitVec.ofNat 64 (a &&& b)
  apply BitVec.eq_of_getLsbD_eq
  intro i hi
  simp [hi]
theorem fb_orL (a b : Nat) : lN a ||| lN b = lN (a ||| b) := by
  apply Int64.toBitVec_inj.1
  show BitVec.ofNat 64 a ||| BitVec.ofNat 64 b = BitVec.ofNat 64 (a ||| b)
  apply BitVec.eq_of_getLsbD_eq
  intro i hi
  simp [hi]
theorem fb_xorL (a b : Nat) : lN a ^^^ lN b = lN (a ^^^ b) := by
  apply Int64.toBitVec_inj.1
  show BitVec.ofNat 64 a ^^^ BitVec.ofNat 64 b = BitVec.ofNat 64 (a ^^^ b)
  apply BitVec.eq_of_getLsbD_eq
  intro i hi
  simp [hi]
theorem fb_xorI (a b : Nat) : nI a ^^^ nI b = nI (a ^^^ b) := by
  apply Int32.toBitVec_inj.1
  show BitVec.ofNat 32 a ^^^ BitVec.ofNat 32 b = BitVec.ofNat 32 (a ^^^ b)
  apply BitVec.eq_of_getLsbD_eq
  intro i hi
  simp [hi]
theorem fb_maskL (n k : Nat) : lN n &&& lN (2 ^ k - 1) = lN (n % 2 ^ k) := by rw [fb_andL, Nat.and_two_pow_sub_one_eq_mod]
theorem fb_or_sumL {a k : Nat} (b : Nat) (h : a < 2 ^ k) : lN (2 ^ k * b) ||| lN a = lN (2 ^ k * b + a) := by rw [fb_orL, Nat.two_pow_add_eq_or_of_lt h]
theorem fb_lN_inj {a b : Nat} (ha : a < 2 ^ 63) (hb : b < 2 ^ 63) : lN a = lN b ↔ a = b := by
  constructor
  · intro h
    have h1 : (BitVec.ofNat 64 a).toNat = (BitVec.ofNat 64 b).toNat := congrArg (fun x : Int64 => x.toBitVec.toNat) h
    rw [BitVec.toNat_ofNat, BitVec.toNat_ofNat, Nat.mod_eq_of_lt (by omega), Nat.mod_eq_of_lt (by omega)] at h1
    exact h1
  · rintro rfl; rfl
theorem fb_bit_nat (n j : Nat) : n &&& 2 ^ j = 0 ↔ n.testBit j = false := by
  constructor
  · intro h
    have h1 : (n &&& 2 ^ j).testBit j = false := by rw [h]; simp
    rw [Nat.testBit_and] at h1
    simpa using h1
  · intro h
    apply Nat.eq_of_testBit_eq
    intro i
    rw [Nat.testBit_and]
    by_cases hi : j = i
    · subst hi; simp [h]
    · first | (simp [Nat.testBit_two_pow, hi]; done) | (simp [Nat.testBit_two_pow_of_ne hi]; done)
/-- one bit of a long -/
theorem fb_bitL {n j : Nat} (hj : j < 63) : lN n &&& lN (2 ^ j) = 0 ↔ n.testBit j = false := by
  have h2 : (2 : Nat) ^ j < 2 ^ 63 := Nat.pow_lt_pow_right (by decide) hj
  have hle : n &&& 2 ^ j ≤ 2 ^ j := Nat.and_le_right
  rw [fb_andL, ← fb_bit_nat, show (0 : Int64) = lN 0 from rfl]
  exact fb_lN_inj (by omega) (by decide)
/-- a bit set, a bit taken off -/
theorem fb_bit_set (n j i : Nat) : (n ||| 2 ^ j).testBit i = (n.testBit i || decide (i = j)) := by
  rw [Nat.testBit_or]
  by_cases h : j = i
  · subst h; simp
  · have h2 : ¬ i = j := fun e => h e.symm
    first | (simp [Nat.testBit_two_pow, h, h2]; done) | (simp [Nat.testBit_two_pow_of_ne h, h2]; done)
theorem fb_bit_flip (n j i : Nat) : (n ^^^ 2 ^ j).testBit i = (n.testBit i ^^ decide (i = j)) := by
  rw [Nat.testBit_xor]
  by_cases h : j = i
  · subst h; simp
  · have h2 : ¬ i = j := fun e => h e.symm
    first | (simp [Nat.testBit_two_pow, h, h2]; done) | (simp [Nat.testBit_two_pow_of_ne h, h2]; done)
/-! ===== a stretch of an array written over by a function ===== -/
def fb_put {α : Type} (f g : Nat → α) (a n : Nat) : Nat → α := fun k => if a ≤ k ∧ k < a + n then g (k - a) else f k
theorem fb_put_0 {α : Type} (f g : Nat → α) (a : Nat) : fb_put f g a 0 = f := funext fun k => if_neg (by omega)
theorem fb_put_in {α : Type} {f g : Nat → α} {a n k : Nat} (h1 : a ≤ k) (h2 : k < a + n) : fb_put f g a n k = g (k - a) := if_pos ⟨h1, h2⟩
theorem fb_put_out {α : Type} {f g : Nat → α} {a n k : Nat} (h : k < a ∨ a + n ≤ k) : fb_put f g a n k = f k := if_neg (by omega)
theorem fb_put_succ (f g : Nat → Int32) (a n : Nat) : upd (fb_put f g a n) (a + n) (g n) = fb_put f g a (n + 1) := by
  funext k
  by_cases h : k = a + n
  · subst h
    simp [upd, fb_put]
  · by_cases h1 : a ≤ k ∧ k < a + n
    · have h2 : a ≤ k ∧ k < a + (n + 1) := by omega
      simp only [upd, fb_put, if_neg h, if_pos h1, if_pos h2]
    · have h2 : ¬ (a ≤ k ∧ k < a + (n + 1)) := by omega
      simp only [upd, fb_put, if_neg h, if_neg h1, if_neg h2]
/-- .. from the far end down -/
theorem fb_put_down (f g : Nat → Int32) {a n m : Nat} (h : m < n) : upd (fb_put f (fun k => g (k + (m + 1))) (a + (m + 1)) (n - (m + 1))) (a + m) (g m) = fb_put f (fun k => g (k + m)) (a + m) (n - m) := by
  funext k
  by_cases h0 : k = a + m
  · subst h0
    simp only [upd, if_true]
    rw [fb_put_in (by omega) (by omega)]
    exact congrArg g (by omega)
  · simp only [upd, if_neg h0]
    by_cases h1 : a + (m + 1) ≤ k ∧ k < a + (m + 1) + (n - (m + 1))
    · rw [fb_put_in h1.1 h1.2, fb_put_in (by omega) (by omega)]
      exact congrArg g (by omega)
    · rw [fb_put_out (by omega), fb_put_out (by omega)]
theorem fb_put_cong {α : Type} {f f2 g g2 : Nat → α} {a n : Nat} (hf : ∀ k, (k < a ∨ a + n ≤ k) → f k = f2 k) (hg : ∀ k, k < n → g k = g2 k) : fb_put f g a n = fb_put f2 g2 a n := by
  funext k
  by_cases h : a ≤ k ∧ k < a + n
  · rw [fb_put_in h.1 h.2, fb_put_in h.1 h.2, hg _ (by omega)]
  · rw [fb_put_out (by omega), fb_put_out (by omega), hf _ (by omega)]
/-! ===== the least, the first, the best so far; that there is one alone ===== -/
theorem fb_first {p : Nat → Prop} [DecidablePred p] : ∀ {n : Nat}, (∃ i, i < n ∧ p i) → ∃ i, i < n ∧ p i ∧ ∀ j, j < i → ¬ p j
  | 0, h => by obtain ⟨i, hi, -⟩ := h; exact absurd hi (Nat.not_lt_zero i)
  | n + 1, h => by
    by_cases q : ∃ i, i < n ∧ p i
    · obtain ⟨i, h1, h2⟩ := fb_first q
      exact ⟨i, by omega, h2⟩
    · obtain ⟨i, h1, h2⟩ := h
      have e : i = n := by
        rcases Nat.lt_or_ge i n with r | r
        · exact absurd ⟨i, r, h2⟩ q
        · omega
      subst e
      exact ⟨i, by omega, h2, fun j hj hp => q ⟨j, hj, hp⟩⟩
theorem fb_first_one {p : Nat → Prop} {i j : Nat} (hi : p i) (hi2 : ∀ k, k < i → ¬ p k) (hj : p j) (hj2 : ∀ k, k < j → ¬ p k) : i = j := by
  rcases Nat.lt_trichotomy i j with q | q | q
  · exact absurd hi (hj2 i q)
  · exact q
  · exact absurd hj (hi2 j q)
theorem fb_last {p : Nat → Prop} [DecidablePred p] : ∀ {n : Nat}, (∃ i, i < n ∧ p i) → ∃ i, i < n ∧ p i ∧ ∀ j, i < j → j < n → ¬ p j
  | 0, h => by obtain ⟨i, hi, -⟩ := h; exact absurd hi (Nat.not_lt_zero i)
  | n + 1, h => by
    by_cases q : p n
    · exact ⟨n, by omega, q, fun j h1 h2 => by omega⟩
    · obtain ⟨i, h1, h2⟩ := h
      have hi : i < n := by
        rcases Nat.lt_or_ge i n with r | r
        · exact r
        · have e : i = n := by omega
          subst e
          exact absurd h2 q
      obtain ⟨i2, a1, a2, a3⟩ := fb_last (n := n) ⟨i, hi, h2⟩
      refine ⟨i2, by omega, a2, fun j b1 b2 => ?_⟩
      rcases Nat.lt_or_ge j n with r | r
      · exact a3 j b1 r
      · have e : j = n := by omega
        subst e
        exact q
/-- the first greatest -/
theorem fb_best (f : Nat → Int) : ∀ {n : Nat}, 0 < n → ∃ i, i < n ∧ (∀ j, j < n → f j ≤ f i) ∧ ∀ j, j < i → f j < f i
  | 0, h => absurd h (Nat.lt_irrefl 0)
  | 1, _ => ⟨0, by omega, fun j hj => by have e : j = 0 := by omega
                                         subst e; exact Int.le_refl _, fun j hj => absurd hj (Nat.not_lt_zero j)⟩
  | n + 2, _ => by
    obtain ⟨i, h1, h2, h3⟩ := fb_best f (n := n + 1) (by omega)
    by_cases q : f i < f (n + 1)
    · refine ⟨n + 1, by omega, fun j hj => ?_, fun j hj => ?_⟩
      · rcases Nat.lt_or_ge j (n + 1) with r | r
        · have := h2 j r; omega
        · have e : j = n + 1 := by omega
          subst e; exact Int.le_refl _
      · have := h2 j hj; omega
    · refine ⟨i, by omega, fun j hj => ?_, h3⟩
      rcases Nat.lt_or_ge j (n + 1) with r | r
      · exact h2 j r
      · have e : j = n + 1 := by omega
        subst e; omega
theorem fb_best_one {f : Nat → Int} {n i j : Nat} (hi : i < n) (hi2 : ∀ k, k < n → f k ≤ f i) (hi3 : ∀ k, k < i → f k < f i) (hj : j < n) (hj2 : ∀ k, k < n → f k ≤ f j) (hj3 : ∀ k, k < j → f k < f j) : i = j := by
  rcases Nat.lt_trichotomy i j with q | q | q
  · have a := hj3 i q
    have b := hi2 j hj
    omega
  · exact q
  · have a := hi3 j q
    have b := hj2 i hi
    omega
/-- the first least -/
theorem fb_low (f : Nat → Int) {n : Nat} (h : 0 < n) : ∃ i, i < n ∧ (∀ j, j < n → f i ≤ f j) ∧ ∀ j, j < i → f i < f j := by
  obtain ⟨i, h1, h2, h3⟩ := fb_best (fun k => -f k) h
  exact ⟨i, h1, fun j hj => by have := h2 j hj; omega, fun j hj => by have := h3 j hj; omega⟩
/-! ===== signed ints as whole numbers, within bounds ===== -/
theorem fb_rng (x : Int32) : -2147483648 ≤ x.toInt ∧ x.toInt < 2147483648 := by
  have h1 := Int32.le_toInt x
  have h2 := Int32.toInt_lt x
  omega
theorem fb_bmod {z : Int} (h1 : -2147483648 ≤ z) (h2 : z < 2147483648) : z.bmod (2 ^ 32) = z := by
  rw [Int.bmod_eq_of_le (by omega) (by omega)]
theorem fb_addI {x y : Int32} (h1 : -2147483648 ≤ x.toInt + y.toInt) (h2 : x.toInt + y.toInt < 2147483648) : (x + y).toInt = x.toInt + y.toInt := by
  rw [Int32.toInt_add, fb_bmod h1 h2]
theorem fb_subI {x y : Int32} (h1 : -2147483648 ≤ x.toInt - y.toInt) (h2 : x.toInt - y.toInt < 2147483648) : (x - y).toInt = x.toInt - y.toInt := by
  rw [Int32.toInt_sub, fb_bmod h1 h2]
theorem fb_mulI {x y : Int32} (h1 : -2147483648 ≤ x.toInt * y.toInt) (h2 : x.toInt * y.toInt < 2147483648) : (x * y).toInt = x.toInt * y.toInt := by
  rw [Int32.toInt_mul, fb_bmod h1 h2]
theorem fb_negI {x : Int32} (h : x.toInt ≠ -2147483648) : (-x).toInt = -x.toInt := by
  have := fb_rng x
  rw [Int32.toInt_neg, fb_bmod (by omega) (by omega)]
theorem fb_ofI {z : Int} (h1 : -2147483648 ≤ z) (h2 : z < 2147483648) : (Int32.ofInt z).toInt = z := by
  rw [Int32.toInt_ofInt, fb_bmod h1 h2]
theorem fb_asI (x : Int32) : Int32.ofInt x.toInt = x := Int32.ofInt_toInt x
theorem fb_rngL (x : Int64) : -9223372036854775808 ≤ x.toInt ∧ x.toInt < 9223372036854775808 := by
  have h1 := Int64.le_toInt x
  have h2 := Int64.toInt_lt x
  omega
theorem fb_bmodL {z : Int} (h1 : -9223372036854775808 ≤ z) (h2 : z < 9223372036854775808) : z.bmod (2 ^ 64) = z := by
  rw [Int.bmod_eq_of_le (by omega) (by omega)]
theorem fb_addL {x y : Int64} (h1 : -9223372036854775808 ≤ x.toInt + y.toInt) (h2 : x.toInt + y.toInt < 9223372036854775808) : (x + y).toInt = x.toInt + y.toInt := by
  rw [Int64.toInt_add, fb_bmodL h1 h2]
theorem fb_subL {x y : Int64} (h1 : -9223372036854775808 ≤ x.toInt - y.toInt) (h2 : x.toInt - y.toInt < 9223372036854775808) : (x - y).toInt = x.toInt - y.toInt := by
  rw [Int64.toInt_sub, fb_bmodL h1 h2]
theorem fb_mulL {x y : Int64} (h1 : -9223372036854775808 ≤ x.toInt * y.toInt) (h2 : x.toInt * y.toInt < 9223372036854775808) : (x * y).toInt = x.toInt * y.toInt := by
  rw [Int64.toInt_mul, fb_bmodL h1 h2]
/-! ===== cuts of what is narrow already ===== -/
theorem fb_byte {x : Int32} (h1 : -128 ≤ x.toInt) (h2 : x.toInt < 128) : x.toInt8.toInt32 = x := by
  apply Int32.toInt_inj.1
  rw [Int8.toInt_toInt32, Int32.toInt_toInt8, Int.bmod_eq_of_le (by omega) (by omega)]
theorem fb_short {x : Int32} (h1 : -32768 ≤ x.toInt) (h2 : x.toInt < 32768) : x.toInt16.toInt32 = x := by
  apply Int32.toInt_inj.1
  rw [Int16.toInt_toInt32, Int32.toInt_toInt16, Int.bmod_eq_of_le (by omega) (by omega)]
theorem fb_byte_rng (x : Int32) : -128 ≤ x.toInt8.toInt32.toInt ∧ x.toInt8.toInt32.toInt < 128 := by
  rw [Int8.toInt_toInt32]
  have h1 := Int8.le_toInt x.toInt8
  have h2 := Int8.toInt_lt x.toInt8
  omega
theorem fb_short_rng (x : Int32) : -32768 ≤ x.toInt16.toInt32.toInt ∧ x.toInt16.toInt32.toInt < 32768 := by
  rw [Int16.toInt_toInt32]
  have h1 := Int16.le_toInt x.toInt16
  have h2 := Int16.toInt_lt x.toInt16
  omega
theorem fb_byte_twice (x : Int32) : x.toInt8.toInt32.toInt8.toInt32 = x.toInt8.toInt32 := fb_byte (fb_byte_rng x).1 (fb_byte_rng x).2
theorem fb_short_twice (x : Int32) : x.toInt16.toInt32.toInt16.toInt32 = x.toInt16.toInt32 := fb_short (fb_short_rng x).1 (fb_short_rng x).2
theorem fb_char {n : Nat} (h : n < 65536) : (nI n).toUInt32.toUInt16.toUInt32.toInt32 = nI n := by
  apply Int32.toBitVec_inj.1
  apply BitVec.eq_of_toNat_eq
  have e1 : (nI n).toBitVec.toNat = n := by
    show (BitVec.ofNat 32 n).toNat = n
    rw [BitVec.toNat_ofNat, Nat.mod_eq_of_lt (by omega)]
  have e2 : ((nI n).toUInt32.toUInt16.toUInt32).toNat = n := by
    rw [UInt16.toNat_toUInt32, UInt32.toNat_toUInt16]
    show (nI n).toBitVec.toNat % 2 ^ 16 = n
    rw [e1, Nat.mod_eq_of_lt (by omega)]
  rw [e1]
  exact e2
end
section
/-! THE TAPE: feed, end -/
theorem lg_lt0 (x y : Int64) : lg_cmp x y < 0 ↔ x < y := by
  unfold lg_cmp
  split
  · rename_i h1
    rw [gt_iff_lt, fa_lt64] at h1
    rw [fa_lt64]
    exact ⟨fun z => absurd z (by decide), fun z => by omega⟩
  · rename_i h1
    split
    · rename_i h2
      subst h2
      exact ⟨fun z => absurd z (by decide), fun z => absurd z h1⟩
    · rename_i h2
      rw [gt_iff_lt, fa_lt64] at h1
      rw [fa_eq64] at h2
      rw [fa_lt64]
      exact ⟨fun _ => by omega, fun _ => by decide⟩
theorem lg_gt0 (x y : Int64) : 0 < lg_cmp x y ↔ y < x := by
  unfold lg_cmp
  split
  · rename_i h1
    exact ⟨fun _ => h1, fun _ => by decide⟩
  · rename_i h1
    split
    · exact ⟨fun z => absurd z (by decide), fun z => absurd z h1⟩
    · exact ⟨fun z => absurd z (by decide), fun z => absurd z h1⟩
def f_in (v low high : Int64) : Int32 := if low ≤ v ∧ v ≤ high then 1 else 0
set_option maxRecDepth 20000 in
theorem t_X9_in_0 {h : mm_H} {Q : Option Value → mm_H → Prop} (v : Int64) (low : Int64) (high : Int64) 
    (F : (((lg_cmp v low) < 0 → Q (some (.int 0)) h) ∧ (¬ ((lg_cmp v low) < 0) → ((0 < (lg_cmp v high) → Q (some (.int 0)) h) ∧ (¬ (0 < (lg_cmp v high)) → Q (some (.int 1)) h))))) :
    w_c 0 103 [.long v, .long low, .long high] h Q := by
  refine w_ci (M := (9, 6, mc_X9_in)) rfl (Nat.le_of_ble_eq_true rfl) ?_
  show w_p _ _ 0 [(0, .long v), (2, .long low), (4, .long high)] [] h Q
  refine w_b 3 3 [(0, .long v), (2, .long low), (4, .long high)] [.int (lg_cmp v low)] rfl ?_
  refine w_if_lt (tgt := 17) (x := lg_cmp v low) rfl (by decide) ⟨fun c1 => ?_, fun c1 => ?_⟩
  · have F := F.1 c1
    refine w_b 1 18 [(0, .long v), (2, .long low), (4, .long high)] [.int 0] rfl ?_
    exact w_br rfl (by decide) F
  · have F := F.2 c1
    refine w_b 3 10 [(0, .long v), (2, .long low), (4, .long high)] [.int (lg_cmp v high)] rfl ?_
    refine w_if_gt (tgt := 17) (x := lg_cmp v high) rfl (by decide) ⟨fun c2 => ?_, fun c2 => ?_⟩
    · have F := F.1 c2
      refine w_b 1 18 [(0, .long v), (2, .long low), (4, .long high)] [.int 0] rfl ?_
      exact w_br rfl (by decide) F
    · have F := F.2 c2
      refine w_b 2 18 [(0, .long v), (2, .long low), (4, .long high)] [.int 1] rfl ?_
      exact w_br rfl (by decide) F

theorem sp_in {h : mm_H} {Q : Option Value → mm_H → Prop} {v low high : Int64} (k : Q (some (.int (f_in v low high))) h) : w_c 0 103 [.long v, .long low, .long high] h Q := by
  unfold f_in at k
  refine t_X9_in_0 v low high ⟨fun c => ?_, fun c => ⟨fun c2 => ?_, fun c2 => ?_⟩⟩
  · rw [lg_lt0, fa_lt64] at c
    rw [if_neg (fun z => by rw [fa_le64, fa_le64] at z; omega)] at k
    exact k
  · rw [lg_gt0, fa_lt64] at c2
    rw [if_neg (fun z => by rw [fa_le64, fa_le64] at z; omega)] at k
    exact k
  · rw [lg_lt0, fa_lt64] at c
    rw [lg_gt0, fa_lt64] at c2
    rw [if_pos (by rw [fa_le64, fa_le64]; omega)] at k
    exact k
theorem f_in_I (v low high : Int32) : f_in v.toInt64 low.toInt64 high.toInt64 = if low ≤ v ∧ v ≤ high then 1 else 0 := by
  unfold f_in
  simp only [fa_wide_le]
theorem f_in0 {v low high : Int64} : f_in v low high = 0 ↔ ¬ (low ≤ v ∧ v ≤ high) := by
  unfold f_in
  by_cases c : low ≤ v ∧ v ≤ high
  · rw [if_pos c]; exact ⟨fun z => absurd z (by decide), fun z => absurd c z⟩
  · rw [if_neg c]; exact ⟨fun _ => c, fun _ => rfl⟩
set_option maxRecDepth 20000 in
theorem t_X6_append_0 {h : mm_H} {Q : Option Value → mm_H → Prop} (sh : s_h h) (v : Int64) {K15 : Int64 → Int32 → mm_H → Prop} (k15 : ∀ (v : Int64) (x3 : Int32) (h : mm_H), K15 v x3 h → w_p 0 (6, 4, mc_X6_append) 15 [(0, .ref 17), (1, .long v), (3, .int x3)] [] h Q) 
    (F : (((h_oi h 385 17) ≤ 192 → K15 v 7 h) ∧ (¬ ((h_oi h 385 17) ≤ 192) → Q (some (.int 0)) h))) :
    w_c 0 48 [.ref 17, .long v] h Q := by
  refine w_ci (M := (6, 4, mc_X6_append)) rfl (Nat.le_of_ble_eq_true rfl) ?_
  show w_p _ _ 0 [(0, .ref 17), (1, .long v)] [] h Q
  refine w_b 1 1 [(0, .ref 17), (1, .long v)] [.ref 17] rfl ?_
  refine w_get (g := 385) rfl rfl rfl (kd_17 sh) ?_
  refine w_b 1 7 [(0, .ref 17), (1, .long v)] [.int 192, .int (h_oi h 385 17)] rfl ?_
  refine w_ic_le (tgt := 12) (x := h_oi h 385 17) (y := 192) rfl (by decide) ⟨fun c1 => ?_, fun c1 => ?_⟩
  · have F := F.1 c1
    refine w_b 2 15 [(3, .int 7), (0, .ref 17), (1, .long v)] [] rfl ?_
    refine w_lo [0, 1, 3] [(0, .ref 17), (1, .long v), (3, .int 7)] rfl rfl ?_
    exact k15 _ _ _ F
  · have F := F.2 c1
    refine w_b 1 11 [(0, .ref 17), (1, .long v)] [.int 0] rfl ?_
    exact w_br rfl (by decide) F

set_option maxRecDepth 20000 in
theorem t_X6_append_15 {h : mm_H} {Q : Option Value → mm_H → Prop} (sh : s_h h) (v : Int64) (x3 : Int32) {K15 : Int64 → Int32 → mm_H → Prop} (k15 : ∀ (v : Int64) (x3 : Int32) (h : mm_H), K15 v x3 h → w_p 0 (6, 4, mc_X6_append) 15 [(0, .ref 17), (1, .long v), (3, .int x3)] [] h Q) 
    (F : ((x3 < 0 → Q (some (.int 1)) h) ∧ (¬ (x3 < 0) → (vp_in (h_oi h 385 17) 200 ∧ K15 v (x3 + (-1)) (h_sI (h_sA h 18 ((h_oi h 385 17).toNatClampNeg) (vp_nar .byte ((((v.toUInt64 >>> (((8 : Int32) * x3).toInt64.toUInt64 &&& Int64.toUInt64 63)).toInt64).toInt32).toInt8.toInt32))) 385 17 ((h_oi h 385 17) + 1)))))) :
    w_p 0 (6, 4, mc_X6_append) 15 [(0, .ref 17), (1, .long v), (3, .int x3)] [] h Q := by
  refine w_b 1 16 [(0, .ref 17), (1, .long v), (3, .int x3)] [.int x3] rfl ?_
  refine w_if_lt (tgt := 52) (x := x3) rfl (by decide) ⟨fun c1 => ?_, fun c1 => ?_⟩
  · have F := F.1 c1
    refine w_b 1 53 [(0, .ref 17), (1, .long v), (3, .int x3)] [.int 1] rfl ?_
    exact w_br rfl (by decide) F
  · have F := F.2 c1
    refine w_b 1 20 [(0, .ref 17), (1, .long v), (3, .int x3)] [.ref 17] rfl ?_
    refine w_getS (b := 18) rfl rfl rfl (kd_17 sh) (or_384_17 sh) ?_
    refine w_b 1 24 [(0, .ref 17), (1, .long v), (3, .int x3)] [.ref 17, .ref 18] rfl ?_
    refine w_get (g := 385) rfl rfl rfl (kd_17 sh) ?_
    refine w_b 7 35 [(0, .ref 17), (1, .long v), (3, .int x3)] [.int ((((v.toUInt64 >>> (((8 : Int32) * x3).toInt64.toUInt64 &&& Int64.toUInt64 63)).toInt64).toInt32).toInt8.toInt32), .int (h_oi h 385 17), .ref 18] rfl ?_
    obtain ⟨g2, F⟩ := F
    refine w_bast rfl (kd_18 sh) (by decide) (by rw [show h_al h 18 = 200 from (al_18 sh)]; exact g2) ?_
    refine w_b 2 38 [(0, .ref 17), (1, .long v), (3, .int x3)] [.ref 17, .ref 17] rfl ?_
    refine w_get (g := 385) rfl rfl rfl (kd_17 sh) ?_
    refine w_b 2 43 [(0, .ref 17), (1, .long v), (3, .int x3)] [.int ((h_oi h 385 17) + 1), .ref 17] rfl ?_
    refine w_put (g := 385) (x := (h_oi h 385 17) + 1) rfl rfl rfl (kd_17 sh) (by decide) ?_
    refine w_b 2 15 [(3, .int (x3 + (-1))), (0, .ref 17), (1, .long v)] [] rfl ?_
    refine w_lo [0, 1, 3] [(0, .ref 17), (1, .long v), (3, .int (x3 + (-1)))] rfl rfl ?_
    exact k15 _ _ _ F

set_option maxRecDepth 20000 in
theorem t_X8_feed_0 {h : mm_H} {Q : Option Value → mm_H → Prop} (sh : s_h h) (v : Int64) 
    (F : w_c 0 48 [.ref 17, .long v] h (fun r h1 => ∃ z2 : Int32, r = some (.int z2) ∧ s_h h1 ∧ ((z2 = 0 → Q (some (.int (-3))) h1) ∧ (¬ (z2 = 0) → Q (some (.int (h_oi h1 385 17))) h1)))) :
    w_c 1 62 [.ref 16, .long v] h Q := by
  refine w_ci (M := (8, 3, mc_X8_feed)) rfl (Nat.le_of_ble_eq_true rfl) ?_
  show w_p _ _ 0 [(0, .ref 16), (1, .long v)] [] h Q
  refine w_b 1 1 [(0, .ref 16), (1, .long v)] [.ref 16] rfl ?_
  refine w_getS (b := 17) rfl rfl rfl (kd_16 sh) (or_512_16 sh) ?_
  refine w_b 1 5 [(0, .ref 16), (1, .long v)] [.long v, .ref 17] rfl ?_
  refine w_cv (As := [.long v]) (b := 17) (rest := []) rfl rfl rfl (Nat.le_of_ble_eq_true rfl) (kd_17 sh) (fun z => absurd z (by decide)) (dc := 0) (by omega) (F.mono (fun r h1 F => ?_))
  obtain ⟨z2, rfl, sh1, F⟩ := F
  show w_p _ _ 8 [(0, .ref 16), (1, .long v)] [.int z2] h1 _
  refine w_if_eq (tgt := 21) (x := z2) rfl (by decide) ⟨fun c3 => ?_, fun c3 => ?_⟩
  · have F := F.1 c3
    refine w_b 1 23 [(0, .ref 16), (1, .long v)] [.int (-3)] rfl ?_
    exact w_ir rfl F
  · have F := F.2 c3
    refine w_b 1 12 [(0, .ref 16), (1, .long v)] [.ref 16] rfl ?_
    refine w_getS (b := 17) rfl rfl rfl (kd_16 sh1) (or_512_16 sh1) ?_
    refine w_get (g := 385) rfl rfl rfl (kd_17 sh1) ?_
    refine w_b 1 23 [(0, .ref 16), (1, .long v)] [.int (h_oi h1 385 17)] rfl ?_
    exact w_ir rfl F

set_option maxRecDepth 20000 in
theorem t_X9_feed_0 {h : mm_H} {Q : Option Value → mm_H → Prop} (sh : s_h h) (v : Int64) {K19 : Int64 → Int32 → mm_H → Prop} (k19 : ∀ (v : Int64) (x3 : Int32) (h : mm_H), K19 v x3 h → w_p 0 (9, 4, mc_X9_feed) 19 [(0, .ref 44), (1, .long v), (3, .int x3)] [] h Q) 
    (F : ((((h_oi h 577 44) + 8) ≤ 200 → K19 v 56 h) ∧ (¬ (((h_oi h 577 44) + 8) ≤ 200) → Q (some (.int (-3))) h))) :
    w_c 0 104 [.ref 44, .long v] h Q := by
  refine w_ci (M := (9, 4, mc_X9_feed)) rfl (Nat.le_of_ble_eq_true rfl) ?_
  show w_p _ _ 0 [(0, .ref 44), (1, .long v)] [] h Q
  refine w_b 1 1 [(0, .ref 44), (1, .long v)] [.ref 44] rfl ?_
  refine w_get (g := 577) rfl rfl rfl (kd_44 sh) ?_
  refine w_b 3 10 [(0, .ref 44), (1, .long v)] [.int 200, .int ((h_oi h 577 44) + 8)] rfl ?_
  refine w_ic_le (tgt := 16) (x := (h_oi h 577 44) + 8) (y := 200) rfl (by decide) ⟨fun c1 => ?_, fun c1 => ?_⟩
  · have F := F.1 c1
    refine w_b 2 19 [(3, .int 56), (0, .ref 44), (1, .long v)] [] rfl ?_
    refine w_lo [0, 1, 3] [(0, .ref 44), (1, .long v), (3, .int 56)] rfl rfl ?_
    exact k19 _ _ _ F
  · have F := F.2 c1
    refine w_b 1 15 [(0, .ref 44), (1, .long v)] [.int (-3)] rfl ?_
    exact w_ir rfl F

set_option maxRecDepth 20000 in
theorem t_X9_feed_19 {h : mm_H} {Q : Option Value → mm_H → Prop} (sh : s_h h) (v : Int64) (x3 : Int32) {K19 : Int64 → Int32 → mm_H → Prop} (k19 : ∀ (v : Int64) (x3 : Int32) (h : mm_H), K19 v x3 h → w_p 0 (9, 4, mc_X9_feed) 19 [(0, .ref 44), (1, .long v), (3, .int x3)] [] h Q) 
    (F : ((x3 < 0 → Q (some (.int (h_oi h 577 44))) h) ∧ (¬ (x3 < 0) → (vp_in (h_oi h 577 44) 200 ∧ K19 v (x3 + (-8)) (h_sI (h_sA h 45 ((h_oi h 577 44).toNatClampNeg) (((v >>> (x3.toInt64 &&& 63)) &&& (Int64.ofNat 255)).toInt32)) 577 44 ((h_oi h 577 44) + 1)))))) :
    w_p 0 (9, 4, mc_X9_feed) 19 [(0, .ref 44), (1, .long v), (3, .int x3)] [] h Q := by
  refine w_b 1 20 [(0, .ref 44), (1, .long v), (3, .int x3)] [.int x3] rfl ?_
  refine w_if_lt (tgt := 56) (x := x3) rfl (by decide) ⟨fun c1 => ?_, fun c1 => ?_⟩
  · have F := F.1 c1
    refine w_b 1 57 [(0, .ref 44), (1, .long v), (3, .int x3)] [.ref 44] rfl ?_
    refine w_get (g := 577) rfl rfl rfl (kd_44 sh) ?_
    exact w_ir rfl F
  · have F := F.2 c1
    refine w_b 1 24 [(0, .ref 44), (1, .long v), (3, .int x3)] [.ref 44] rfl ?_
    refine w_getS (b := 45) rfl rfl rfl (kd_44 sh) (or_576_44 sh) ?_
    refine w_b 1 28 [(0, .ref 44), (1, .long v), (3, .int x3)] [.ref 44, .ref 45] rfl ?_
    refine w_get (g := 577) rfl rfl rfl (kd_44 sh) ?_
    refine w_b 6 39 [(0, .ref 44), (1, .long v), (3, .int x3)] [.int (((v >>> (x3.toInt64 &&& 63)) &&& (Int64.ofNat 255)).toInt32), .int (h_oi h 577 44), .ref 45] rfl ?_
    obtain ⟨g2, F⟩ := F
    refine w_iast rfl (kd_45 sh) (by decide) (by rw [show h_al h 45 = 200 from (al_45 sh)]; exact g2) ?_
    refine w_b 2 42 [(0, .ref 44), (1, .long v), (3, .int x3)] [.ref 44, .ref 44] rfl ?_
    refine w_get (g := 577) rfl rfl rfl (kd_44 sh) ?_
    refine w_b 2 47 [(0, .ref 44), (1, .long v), (3, .int x3)] [.int ((h_oi h 577 44) + 1), .ref 44] rfl ?_
    refine w_put (g := 577) (x := (h_oi h 577 44) + 1) rfl rfl rfl (kd_44 sh) (by decide) ?_
    refine w_b 2 19 [(3, .int (x3 + (-8))), (0, .ref 44), (1, .long v)] [] rfl ?_
    refine w_lo [0, 1, 3] [(0, .ref 44), (1, .long v), (3, .int (x3 + (-8)))] rfl rfl ?_
    exact k19 _ _ _ F

set_option maxRecDepth 20000 in
theorem t_X8_end_0 {h : mm_H} {Q : Option Value → mm_H → Prop} (sh : s_h h) (n : Int32) 
    (F : ((n < 0 → Q (some (.int (-1))) h) ∧ (¬ (n < 0) → ((n ≤ (h_oi h 385 17) → Q (some (.int (h_oi h 385 17))) (h_sI h 385 17 n)) ∧ (¬ (n ≤ (h_oi h 385 17)) → Q (some (.int (-1))) h))))) :
    w_c 0 63 [.ref 16, .int n] h Q := by
  refine w_ci (M := (8, 3, mc_X8_end)) rfl (Nat.le_of_ble_eq_true rfl) ?_
  show w_p _ _ 0 [(0, .ref 16), (1, .int n)] [] h Q
  refine w_b 1 1 [(0, .ref 16), (1, .int n)] [.ref 16] rfl ?_
  refine w_getS (b := 17) rfl rfl rfl (kd_16 sh) (or_512_16 sh) ?_
  refine w_get (g := 385) rfl rfl rfl (kd_17 sh) ?_
  refine w_b 2 9 [(2, .int (h_oi h 385 17)), (0, .ref 16), (1, .int n)] [.int n] rfl ?_
  refine w_if_lt (tgt := 17) (x := n) rfl (by decide) ⟨fun c1 => ?_, fun c1 => ?_⟩
  · have F := F.1 c1
    refine w_b 1 18 [(2, .int (h_oi h 385 17)), (0, .ref 16), (1, .int n)] [.int (-1)] rfl ?_
    exact w_ir rfl F
  · have F := F.2 c1
    refine w_b 2 14 [(2, .int (h_oi h 385 17)), (0, .ref 16), (1, .int n)] [.int (h_oi h 385 17), .int n] rfl ?_
    refine w_ic_le (tgt := 19) (x := n) (y := h_oi h 385 17) rfl (by decide) ⟨fun c2 => ?_, fun c2 => ?_⟩
    · have F := F.1 c2
      refine w_b 1 20 [(2, .int (h_oi h 385 17)), (0, .ref 16), (1, .int n)] [.ref 16] rfl ?_
      refine w_getS (b := 17) rfl rfl rfl (kd_16 sh) (or_512_16 sh) ?_
      refine w_b 1 24 [(2, .int (h_oi h 385 17)), (0, .ref 16), (1, .int n)] [.int n, .ref 17] rfl ?_
      refine w_put (g := 385) (x := n) rfl rfl rfl (kd_17 sh) (by decide) ?_
      refine w_b 1 28 [(2, .int (h_oi h 385 17)), (0, .ref 16), (1, .int n)] [.int (h_oi h 385 17)] rfl ?_
      exact w_ir rfl F
    · have F := F.2 c2
      refine w_b 1 18 [(2, .int (h_oi h 385 17)), (0, .ref 16), (1, .int n)] [.int (-1)] rfl ?_
      exact w_ir rfl F

set_option maxRecDepth 20000 in
theorem t_X9_end_0 {h : mm_H} {Q : Option Value → mm_H → Prop} (sh : s_h h) (n : Int32) 
    (F : ((¬ (f_in n.toInt64 (Int64.ofNat 0) ((h_oi h 577 44).toInt64)) = 0 → Q (some (.int (h_oi h 577 44))) (h_sI h 577 44 n)) ∧ ((f_in n.toInt64 (Int64.ofNat 0) ((h_oi h 577 44).toInt64)) = 0 → Q (some (.int (-1))) h))) :
    w_c 1 105 [.ref 44, .int n] h Q := by
  refine w_ci (M := (9, 3, mc_X9_end)) rfl (Nat.le_of_ble_eq_true rfl) ?_
  show w_p _ _ 0 [(0, .ref 44), (1, .int n)] [] h Q
  refine w_b 4 4 [(0, .ref 44), (1, .int n)] [.ref 44, .long (Int64.ofNat 0), .long n.toInt64] rfl ?_
  refine w_get (g := 577) rfl rfl rfl (kd_44 sh) ?_
  refine w_b 1 8 [(0, .ref 44), (1, .int n)] [.long ((h_oi h 577 44).toInt64), .long (Int64.ofNat 0), .long n.toInt64] rfl ?_
  refine w_cs (As := [.long n.toInt64, .long (Int64.ofNat 0), .long ((h_oi h 577 44).toInt64)]) (rest := []) rfl rfl rfl (Nat.le_of_ble_eq_true rfl) (dc := 0) (by omega) (sp_in  ?_)
  show w_p _ _ 11 [(0, .ref 44), (1, .int n)] [.int (f_in n.toInt64 (Int64.ofNat 0) ((h_oi h 577 44).toInt64))] h _
  refine w_if_ne (tgt := 16) (x := f_in n.toInt64 (Int64.ofNat 0) ((h_oi h 577 44).toInt64)) rfl (by decide) ⟨fun c1 => ?_, fun c1 => ?_⟩
  · have F := F.1 c1
    refine w_b 1 17 [(0, .ref 44), (1, .int n)] [.ref 44] rfl ?_
    refine w_get (g := 577) rfl rfl rfl (kd_44 sh) ?_
    refine w_b 3 23 [(2, .int (h_oi h 577 44)), (0, .ref 44), (1, .int n)] [.int n, .ref 44] rfl ?_
    refine w_put (g := 577) (x := n) rfl rfl rfl (kd_44 sh) (by decide) ?_
    refine w_b 1 27 [(2, .int (h_oi h 577 44)), (0, .ref 44), (1, .int n)] [.int (h_oi h 577 44)] rfl ?_
    exact w_ir rfl F
  · have F := F.2 (Decidable.not_not.mp c1)
    refine w_b 1 15 [(0, .ref 44), (1, .int n)] [.int (-1)] rfl ?_
    exact w_ir rfl F
end
section
/-! THE TEXTS: what counts on a day -/
def oN : Option Nat → Int32
  | none => -4
  | some n => nI n
theorem oN_ne (n : Nat) (h : n < 2147483648) : ¬ oN (some n) = -4 := by
  show ¬ nI n = -4
  rw [fa_eq, nI_toInt (by omega)]
  show ¬ (n : Int) = -4
  omega
def tB (td : Nat → Nat) (d : Nat) : Nat → Option Nat
  | 0 => none
  | n + 1 => match tB td d n with
    | none => if td n ≤ d then some n else none
    | some b => if td n ≤ d ∧ td b ≤ td n then some n else some b
theorem tB_lt (td : Nat → Nat) (d : Nat) : ∀ n b, tB td d n = some b → b < n
  | 0, b, h => by cases h
  | n + 1, b, h => by
    unfold tB at h
    split at h
    · split at h
      · cases h; omega
      · cases h
    · rename_i b' hb
      have := tB_lt td d n b' hb
      split at h
      · cases h; omega
      · cases h; omega
theorem tB_skip (td : Nat → Nat) (d n : Nat) (h : ¬ td n ≤ d) : tB td d (n + 1) = tB td d n := by
  show (match tB td d n with | none => if td n ≤ d then some n else none | some b => if td n ≤ d ∧ td b ≤ td n then some n else some b) = tB td d n
  cases tB td d n with
  | none => exact if_neg h
  | some b => exact if_neg (fun z => h z.1)
/-- a law as it is kept: told, or not (u) -/
def tW (u : Int32) : Option Nat → Int32
  | none => u
  | some v => nI v
def xC (tn : Nat) (td : Nat → Nat) (tv : Nat → Nat → Option Nat) : Prop := tn ≤ 6 ∧ ∀ i, i < tn → td i ≤ 2000 ∧ ∀ k, k < 5 → ∀ v, tv i k = some v → v ≤ 400
def cX (h : mm_H) (tn : Nat) (td : Nat → Nat) (tv : Nat → Nat → Option Nat) : Prop := xC tn td tv ∧ h_oi h 66 21 = nI tn ∧ ∀ i, i < tn → h_ai h 22 i = nI (td i) ∧ ∀ k, k < 5 → h_ai h (24 + i) k = tW (-1) (tv i k)
def mX (h : mm_H) (tn : Nat) (td : Nat → Nat) (tv : Nat → Nat → Option Nat) : Prop := xC tn td tv ∧ h_oi h 585 44 = nI tn ∧ ∀ i, i < tn → h_ai h 47 i = nI (td i) ∧ ∀ k, k < 5 → h_ai h 48 (5 * i + k) = tW (-4) (tv i k)
set_option maxRecDepth 20000 in
theorem t_X9_textOf_0 {h : mm_H} {Q : Option Value → mm_H → Prop} (sh : s_h h) (dd : Int32) {K5 : Int32 → Int32 → Int32 → mm_H → Prop} (k5 : ∀ (dd : Int32) (x2 : Int32) (x3 : Int32) (h : mm_H), K5 dd x2 x3 h → w_p 0 (9, 4, mc_X9_textOf) 5 [(0, .ref 44), (1, .int dd), (2, .int x2), (3, .int x3)] [] h Q) 
    (F : K5 dd (-4) 0 h) :
    w_c 0 115 [.ref 44, .int dd] h Q := by
  refine w_ci (M := (9, 4, mc_X9_textOf)) rfl (Nat.le_of_ble_eq_true rfl) ?_
  show w_p _ _ 0 [(0, .ref 44), (1, .int dd)] [] h Q
  refine w_b 4 5 [(3, .int 0), (2, .int (-4)), (0, .ref 44), (1, .int dd)] [] rfl ?_
  refine w_lo [0, 1, 2, 3] [(0, .ref 44), (1, .int dd), (2, .int (-4)), (3, .int 0)] rfl rfl ?_
  exact k5 _ _ _ _ F

set_option maxRecDepth 20000 in
theorem t_X9_textOf_5 {h : mm_H} {Q : Option Value → mm_H → Prop} (sh : s_h h) (dd : Int32) (x2 : Int32) (x3 : Int32) {K5 : Int32 → Int32 → Int32 → mm_H → Prop} (k5 : ∀ (dd : Int32) (x2 : Int32) (x3 : Int32) (h : mm_H), K5 dd x2 x3 h → w_p 0 (9, 4, mc_X9_textOf) 5 [(0, .ref 44), (1, .int dd), (2, .int x2), (3, .int x3)] [] h Q) 
    (F : (((h_oi h 585 44) ≤ x3 → Q (some (.int x2)) h) ∧ (¬ ((h_oi h 585 44) ≤ x3) → (vp_in x3 6 ∧ ((dd < (h_ai h 47 x3.toNatClampNeg) → K5 dd x2 (x3 + 1) h) ∧ (¬ (dd < (h_ai h 47 x3.toNatClampNeg)) → ((x2 = (-4) → K5 dd x3 (x3 + 1) h) ∧ (¬ (x2 = (-4)) → (vp_in x3 6 ∧ (vp_in x2 6 ∧ (((h_ai h 47 x3.toNatClampNeg) < (h_ai h 47 x2.toNatClampNeg) → K5 dd x2 (x3 + 1) h) ∧ (¬ ((h_ai h 47 x3.toNatClampNeg) < (h_ai h 47 x2.toNatClampNeg)) → K5 dd x3 (x3 + 1) h)))))))))))) :
    w_p 0 (9, 4, mc_X9_textOf) 5 [(0, .ref 44), (1, .int dd), (2, .int x2), (3, .int x3)] [] h Q := by
  refine w_b 2 7 [(0, .ref 44), (1, .int dd), (2, .int x2), (3, .int x3)] [.ref 44, .int x3] rfl ?_
  refine w_get (g := 585) rfl rfl rfl (kd_44 sh) ?_
  refine w_ic_ge (tgt := 52) (x := x3) (y := h_oi h 585 44) rfl (by decide) ⟨fun c1 => ?_, fun c1 => ?_⟩
  · have F := F.1 c1
    refine w_b 1 53 [(0, .ref 44), (1, .int dd), (2, .int x2), (3, .int x3)] [.int x2] rfl ?_
    exact w_ir rfl F
  · have F := F.2 c1
    refine w_b 1 14 [(0, .ref 44), (1, .int dd), (2, .int x2), (3, .int x3)] [.ref 44] rfl ?_
    refine w_getS (b := 47) rfl rfl rfl (kd_44 sh) (or_586_44 sh) ?_
    refine w_b 1 18 [(0, .ref 44), (1, .int dd), (2, .int x2), (3, .int x3)] [.int x3, .ref 47] rfl ?_
    obtain ⟨g2, F⟩ := F
    refine w_iald rfl (kd_47 sh) (by rw [show h_al h 47 = 6 from (al_47 sh)]; exact g2) ?_
    refine w_b 1 20 [(0, .ref 44), (1, .int dd), (2, .int x2), (3, .int x3)] [.int dd, .int (h_ai h 47 x3.toNatClampNeg)] rfl ?_
    refine w_ic_gt (tgt := 46) (x := h_ai h 47 x3.toNatClampNeg) (y := dd) rfl (by decide) ⟨fun c3 => ?_, fun c3 => ?_⟩
    · have F := F.1 c3
      refine w_b 2 5 [(3, .int (x3 + 1)), (0, .ref 44), (1, .int dd), (2, .int x2)] [] rfl ?_
      refine w_lo [0, 1, 2, 3] [(0, .ref 44), (1, .int dd), (2, .int x2), (3, .int (x3 + 1))] rfl rfl ?_
      exact k5 _ _ _ _ F
    · have F := F.2 c3
      refine w_b 2 26 [(0, .ref 44), (1, .int dd), (2, .int x2), (3, .int x3)] [.int (-4), .int x2] rfl ?_
      refine w_ic_eq (tgt := 44) (x := x2) (y := (-4)) rfl (by decide) ⟨fun c4 => ?_, fun c4 => ?_⟩
      · have F := F.1 c4
        refine w_b 4 5 [(3, .int (x3 + 1)), (2, .int x3), (0, .ref 44), (1, .int dd)] [] rfl ?_
        refine w_lo [0, 1, 2, 3] [(0, .ref 44), (1, .int dd), (2, .int x3), (3, .int (x3 + 1))] rfl rfl ?_
        exact k5 _ _ _ _ F
      · have F := F.2 c4
        refine w_b 1 30 [(0, .ref 44), (1, .int dd), (2, .int x2), (3, .int x3)] [.ref 44] rfl ?_
        refine w_getS (b := 47) rfl rfl rfl (kd_44 sh) (or_586_44 sh) ?_
        refine w_b 1 34 [(0, .ref 44), (1, .int dd), (2, .int x2), (3, .int x3)] [.int x3, .ref 47] rfl ?_
        obtain ⟨g5, F⟩ := F
        refine w_iald rfl (kd_47 sh) (by rw [show h_al h 47 = 6 from (al_47 sh)]; exact g5) ?_
        refine w_b 1 36 [(0, .ref 44), (1, .int dd), (2, .int x2), (3, .int x3)] [.ref 44, .int (h_ai h 47 x3.toNatClampNeg)] rfl ?_
        refine w_getS (b := 47) rfl rfl rfl (kd_44 sh) (or_586_44 sh) ?_
        refine w_b 1 40 [(0, .ref 44), (1, .int dd), (2, .int x2), (3, .int x3)] [.int x2, .ref 47, .int (h_ai h 47 x3.toNatClampNeg)] rfl ?_
        obtain ⟨g6, F⟩ := F
        refine w_iald rfl (kd_47 sh) (by rw [show h_al h 47 = 6 from (al_47 sh)]; exact g6) ?_
        refine w_ic_lt (tgt := 46) (x := h_ai h 47 x3.toNatClampNeg) (y := h_ai h 47 x2.toNatClampNeg) rfl (by decide) ⟨fun c7 => ?_, fun c7 => ?_⟩
        · have F := F.1 c7
          refine w_b 2 5 [(3, .int (x3 + 1)), (0, .ref 44), (1, .int dd), (2, .int x2)] [] rfl ?_
          refine w_lo [0, 1, 2, 3] [(0, .ref 44), (1, .int dd), (2, .int x2), (3, .int (x3 + 1))] rfl rfl ?_
          exact k5 _ _ _ _ F
        · have F := F.2 c7
          refine w_b 4 5 [(3, .int (x3 + 1)), (2, .int x3), (0, .ref 44), (1, .int dd)] [] rfl ?_
          refine w_lo [0, 1, 2, 3] [(0, .ref 44), (1, .int dd), (2, .int x3), (3, .int (x3 + 1))] rfl rfl ?_
          exact k5 _ _ _ _ F

theorem sp_textOfM {h : mm_H} {Q : Option Value → mm_H → Prop} (sh : s_h h) {tn : Nat} {td : Nat → Nat} {tv : Nat → Nat → Option Nat} (hX : mX h tn td tv) {d : Nat} (hd : d < 2147483648) (k : Q (some (.int (oN (tB td d tn)))) h) : w_c 0 115 [.ref 44, .int (nI d)] h Q := by
  obtain ⟨⟨h6, hb⟩, hn, hv⟩ := hX
  have loop : ∀ m j, j ≤ tn → tn - j = m → w_p 0 (9, 4, mc_X9_textOf) 5 [(0, .ref 44), (1, .int (nI d)), (2, .int (oN (tB td d j))), (3, .int (nI j))] [] h Q := by
    intro m
    induction m with
    | zero =>
      intro j hj hm
      have e : j = tn := by omega
      subst e
      refine t_X9_textOf_5 sh _ _ _ (K5 := fun _ _ _ _ => False) (fun _ _ _ _ z => z.elim) ⟨fun _ => k, fun c => absurd ?_ c⟩
      rw [hn]
      exact nI_le (Nat.le_refl _) (by omega)
    | succ m ih =>
      intro j hj hm
      have hj2 : j < tn := by omega
      have e1 : h_ai h 47 j = nI (td j) := (hv j hj2).1
      have b1 := (hb j hj2).1
      have hcl : (nI j).toNatClampNeg = j := nI_clamp (by omega)
      refine t_X9_textOf_5 sh (nI d) (oN (tB td d j)) (nI j) (K5 := fun a b c hh => a = nI d ∧ b = oN (tB td d (j + 1)) ∧ c = nI (j + 1) ∧ hh = h) (fun a b c hh z => ?_) ⟨fun c => ?_, fun _ => ⟨vp_in_nI (by omega) (by decide), ?_⟩⟩
      · obtain ⟨rfl, rfl, rfl, rfl⟩ := z
        exact ih (j + 1) (by omega) (by omega)
      · rw [hn, nI_leI (by omega) (by omega)] at c
        omega
      · rw [hcl, e1]
        have hnx : nI j + 1 = nI (j + 1) := nI_1 j
        refine ⟨fun c => ⟨rfl, ?_, hnx, rfl⟩, fun c => ?_⟩
        · rw [nI_ltI (by omega) (by omega)] at c
          rw [tB_skip td d j (by omega)]
        · rw [nI_ltI (by omega) (by omega)] at c
          cases eb : tB td d j with
          | none =>
            refine ⟨fun _ => ⟨rfl, ?_, hnx, rfl⟩, fun c2 => absurd rfl c2⟩
            show nI j = _
            unfold tB
            rw [eb]
            show nI j = oN (if td j ≤ d then some j else none)
            rw [if_pos (by omega)]
            rfl
          | some b =>
            have hbj := tB_lt td d j b eb
            have e2 : h_ai h 47 b = nI (td b) := (hv b (by omega)).1
            have b2 := (hb b (by omega)).1
            have hclb : (oN (some b)).toNatClampNeg = b := nI_clamp (by omega)
            refine ⟨fun c2 => absurd c2 (oN_ne b (by omega)), fun _ => ⟨vp_in_nI (by omega) (by decide), vp_in_nI (by omega) (by decide), ?_⟩⟩
            rw [hclb, e2]
            refine ⟨fun c3 => ⟨rfl, ?_, hnx, rfl⟩, fun c3 => ⟨rfl, ?_, hnx, rfl⟩⟩
            · rw [nI_ltI (by omega) (by omega)] at c3
              unfold tB
              rw [eb]
              show oN (some b) = oN (if td j ≤ d ∧ td b ≤ td j then some j else some b)
              rw [if_neg (by omega)]
            · rw [nI_ltI (by omega) (by omega)] at c3
              unfold tB
              rw [eb]
              show nI j = oN (if td j ≤ d ∧ td b ≤ td j then some j else some b)
              rw [if_pos (by omega)]
              rfl
  refine t_X9_textOf_0 sh (nI d) (K5 := fun a b c hh => a = nI d ∧ b = -4 ∧ c = 0 ∧ hh = h) (fun a b c hh z => ?_) ⟨rfl, rfl, rfl, rfl⟩
  obtain ⟨rfl, rfl, rfl, rfl⟩ := z
  exact loop tn 0 (Nat.zero_le _) rfl
set_option maxRecDepth 20000 in
theorem t_X1_textOf_0 {h : mm_H} {Q : Option Value → mm_H → Prop} (sh : s_h h) (dd : Int32) {K5 : Int32 → Int32 → Int32 → mm_H → Prop} (k5 : ∀ (dd : Int32) (x2 : Int32) (x3 : Int32) (h : mm_H), K5 dd x2 x3 h → w_p 0 (1, 4, mc_X1_textOf) 5 [(0, .ref 21), (1, .int dd), (2, .int x2), (3, .int x3)] [] h Q) 
    (F : K5 dd (-4) 0 h) :
    w_c 0 9 [.ref 21, .int dd] h Q := by
  refine w_ci (M := (1, 4, mc_X1_textOf)) rfl (Nat.le_of_ble_eq_true rfl) ?_
  show w_p _ _ 0 [(0, .ref 21), (1, .int dd)] [] h Q
  refine w_b 4 5 [(3, .int 0), (2, .int (-4)), (0, .ref 21), (1, .int dd)] [] rfl ?_
  refine w_lo [0, 1, 2, 3] [(0, .ref 21), (1, .int dd), (2, .int (-4)), (3, .int 0)] rfl rfl ?_
  exact k5 _ _ _ _ F

set_option maxRecDepth 20000 in
theorem t_X1_textOf_5 {h : mm_H} {Q : Option Value → mm_H → Prop} (sh : s_h h) (dd : Int32) (x2 : Int32) (x3 : Int32) {K5 : Int32 → Int32 → Int32 → mm_H → Prop} (k5 : ∀ (dd : Int32) (x2 : Int32) (x3 : Int32) (h : mm_H), K5 dd x2 x3 h → w_p 0 (1, 4, mc_X1_textOf) 5 [(0, .ref 21), (1, .int dd), (2, .int x2), (3, .int x3)] [] h Q) 
    (F : (((h_oi h 66 21) ≤ x3 → Q (some (.int x2)) h) ∧ (¬ ((h_oi h 66 21) ≤ x3) → (vp_in x3 6 ∧ ((dd < (h_ai h 22 x3.toNatClampNeg) → K5 dd x2 (x3 + 1) h) ∧ (¬ (dd < (h_ai h 22 x3.toNatClampNeg)) → ((x2 = (-4) → K5 dd x3 (x3 + 1) h) ∧ (¬ (x2 = (-4)) → (vp_in x3 6 ∧ (vp_in x2 6 ∧ (((h_ai h 22 x3.toNatClampNeg) < (h_ai h 22 x2.toNatClampNeg) → K5 dd x2 (x3 + 1) h) ∧ (¬ ((h_ai h 22 x3.toNatClampNeg) < (h_ai h 22 x2.toNatClampNeg)) → K5 dd x3 (x3 + 1) h)))))))))))) :
    w_p 0 (1, 4, mc_X1_textOf) 5 [(0, .ref 21), (1, .int dd), (2, .int x2), (3, .int x3)] [] h Q := by
  refine w_b 2 7 [(0, .ref 21), (1, .int dd), (2, .int x2), (3, .int x3)] [.ref 21, .int x3] rfl ?_
  refine w_get (g := 66) rfl rfl rfl (kd_21 sh) ?_
  refine w_ic_ge (tgt := 52) (x := x3) (y := h_oi h 66 21) rfl (by decide) ⟨fun c1 => ?_, fun c1 => ?_⟩
  · have F := F.1 c1
    refine w_b 1 53 [(0, .ref 21), (1, .int dd), (2, .int x2), (3, .int x3)] [.int x2] rfl ?_
    exact w_ir rfl F
  · have F := F.2 c1
    refine w_b 1 14 [(0, .ref 21), (1, .int dd), (2, .int x2), (3, .int x3)] [.ref 21] rfl ?_
    refine w_getS (b := 22) rfl rfl rfl (kd_21 sh) (or_64_21 sh) ?_
    refine w_b 1 18 [(0, .ref 21), (1, .int dd), (2, .int x2), (3, .int x3)] [.int x3, .ref 22] rfl ?_
    obtain ⟨g2, F⟩ := F
    refine w_iald rfl (kd_22 sh) (by rw [show h_al h 22 = 6 from (al_22 sh)]; exact g2) ?_
    refine w_b 1 20 [(0, .ref 21), (1, .int dd), (2, .int x2), (3, .int x3)] [.int dd, .int (h_ai h 22 x3.toNatClampNeg)] rfl ?_
    refine w_ic_gt (tgt := 46) (x := h_ai h 22 x3.toNatClampNeg) (y := dd) rfl (by decide) ⟨fun c3 => ?_, fun c3 => ?_⟩
    · have F := F.1 c3
      refine w_b 2 5 [(3, .int (x3 + 1)), (0, .ref 21), (1, .int dd), (2, .int x2)] [] rfl ?_
      refine w_lo [0, 1, 2, 3] [(0, .ref 21), (1, .int dd), (2, .int x2), (3, .int (x3 + 1))] rfl rfl ?_
      exact k5 _ _ _ _ F
    · have F := F.2 c3
      refine w_b 2 26 [(0, .ref 21), (1, .int dd), (2, .int x2), (3, .int x3)] [.int (-4), .int x2] rfl ?_
      refine w_ic_eq (tgt := 44) (x := x2) (y := (-4)) rfl (by decide) ⟨fun c4 => ?_, fun c4 => ?_⟩
      · have F := F.1 c4
        refine w_b 4 5 [(3, .int (x3 + 1)), (2, .int x3), (0, .ref 21), (1, .int dd)] [] rfl ?_
        refine w_lo [0, 1, 2, 3] [(0, .ref 21), (1, .int dd), (2, .int x3), (3, .int (x3 + 1))] rfl rfl ?_
        exact k5 _ _ _ _ F
      · have F := F.2 c4
        refine w_b 1 30 [(0, .ref 21), (1, .int dd), (2, .int x2), (3, .int x3)] [.ref 21] rfl ?_
        refine w_getS (b := 22) rfl rfl rfl (kd_21 sh) (or_64_21 sh) ?_
        refine w_b 1 34 [(0, .ref 21), (1, .int dd), (2, .int x2), (3, .int x3)] [.int x3, .ref 22] rfl ?_
        obtain ⟨g5, F⟩ := F
        refine w_iald rfl (kd_22 sh) (by rw [show h_al h 22 = 6 from (al_22 sh)]; exact g5) ?_
        refine w_b 1 36 [(0, .ref 21), (1, .int dd), (2, .int x2), (3, .int x3)] [.ref 21, .int (h_ai h 22 x3.toNatClampNeg)] rfl ?_
        refine w_getS (b := 22) rfl rfl rfl (kd_21 sh) (or_64_21 sh) ?_
        refine w_b 1 40 [(0, .ref 21), (1, .int dd), (2, .int x2), (3, .int x3)] [.int x2, .ref 22, .int (h_ai h 22 x3.toNatClampNeg)] rfl ?_
        obtain ⟨g6, F⟩ := F
        refine w_iald rfl (kd_22 sh) (by rw [show h_al h 22 = 6 from (al_22 sh)]; exact g6) ?_
        refine w_ic_lt (tgt := 46) (x := h_ai h 22 x3.toNatClampNeg) (y := h_ai h 22 x2.toNatClampNeg) rfl (by decide) ⟨fun c7 => ?_, fun c7 => ?_⟩
        · have F := F.1 c7
          refine w_b 2 5 [(3, .int (x3 + 1)), (0, .ref 21), (1, .int dd), (2, .int x2)] [] rfl ?_
          refine w_lo [0, 1, 2, 3] [(0, .ref 21), (1, .int dd), (2, .int x2), (3, .int (x3 + 1))] rfl rfl ?_
          exact k5 _ _ _ _ F
        · have F := F.2 c7
          refine w_b 4 5 [(3, .int (x3 + 1)), (2, .int x3), (0, .ref 21), (1, .int dd)] [] rfl ?_
          refine w_lo [0, 1, 2, 3] [(0, .ref 21), (1, .int dd), (2, .int x3), (3, .int (x3 + 1))] rfl rfl ?_
          exact k5 _ _ _ _ F

theorem sp_textOfC {h : mm_H} {Q : Option Value → mm_H → Prop} (sh : s_h h) {tn : Nat} {td : Nat → Nat} {tv : Nat → Nat → Option Nat} (hX : cX h tn td tv) {d : Nat} (hd : d < 2147483648) (k : Q (some (.int (oN (tB td d tn)))) h) : w_c 0 9 [.ref 21, .int (nI d)] h Q := by
  obtain ⟨⟨h6, hb⟩, hn, hv⟩ := hX
  have loop : ∀ m j, j ≤ tn → tn - j = m → w_p 0 (1, 4, mc_X1_textOf) 5 [(0, .ref 21), (1, .int (nI d)), (2, .int (oN (tB td d j))), (3, .int (nI j))] [] h Q := by
    intro m
    induction m with
    | zero =>
      intro j hj hm
      have e : j = tn := by omega
      subst e
      refine t_X1_textOf_5 sh _ _ _ (K5 := fun _ _ _ _ => False) (fun _ _ _ _ z => z.elim) ⟨fun _ => k, fun c => absurd ?_ c⟩
      rw [hn]
      exact nI_le (Nat.le_refl _) (by omega)
    | succ m ih =>
      intro j hj hm
      have hj2 : j < tn := by omega
      have e1 : h_ai h 22 j = nI (td j) := (hv j hj2).1
      have b1 := (hb j hj2).1
      have hcl : (nI j).toNatClampNeg = j := nI_clamp (by omega)
      refine t_X1_textOf_5 sh (nI d) (oN (tB td d j)) (nI j) (K5 := fun a b c hh => a = nI d ∧ b = oN (tB td d (j + 1)) ∧ c = nI (j + 1) ∧ hh = h) (fun a b c hh z => ?_) ⟨fun c => ?_, fun _ => ⟨vp_in_nI (by omega) (by decide), ?_⟩⟩
      · obtain ⟨rfl, rfl, rfl, rfl⟩ := z
        exact ih (j + 1) (by omega) (by omega)
      · rw [hn, nI_leI (by omega) (by omega)] at c
        omega
      · rw [hcl, e1]
        have hnx : nI j + 1 = nI (j + 1) := nI_1 j
        refine ⟨fun c => ⟨rfl, ?_, hnx, rfl⟩, fun c => ?_⟩
        · rw [nI_ltI (by omega) (by omega)] at c
          rw [tB_skip td d j (by omega)]
        · rw [nI_ltI (by omega) (by omega)] at c
          cases eb : tB td d j with
          | none =>
            refine ⟨fun _ => ⟨rfl, ?_, hnx, rfl⟩, fun c2 => absurd rfl c2⟩
            show nI j = _
            unfold tB
            rw [eb]
            show nI j = oN (if td j ≤ d then some j else none)
            rw [if_pos (by omega)]
            rfl
          | some b =>
            have hbj := tB_lt td d j b eb
            have e2 : h_ai h 22 b = nI (td b) := (hv b (by omega)).1
            have b2 := (hb b (by omega)).1
            have hclb : (oN (some b)).toNatClampNeg = b := nI_clamp (by omega)
            refine ⟨fun c2 => absurd c2 (oN_ne b (by omega)), fun _ => ⟨vp_in_nI (by omega) (by decide), vp_in_nI (by omega) (by decide), ?_⟩⟩
            rw [hclb, e2]
            refine ⟨fun c3 => ⟨rfl, ?_, hnx, rfl⟩, fun c3 => ⟨rfl, ?_, hnx, rfl⟩⟩
            · rw [nI_ltI (by omega) (by omega)] at c3
              unfold tB
              rw [eb]
              show oN (some b) = oN (if td j ≤ d ∧ td b ≤ td j then some j else some b)
              rw [if_neg (by omega)]
            · rw [nI_ltI (by omega) (by omega)] at c3
              unfold tB
              rw [eb]
              show nI j = oN (if td j ≤ d ∧ td b ≤ td j then some j else some b)
              rw [if_pos (by omega)]
              rfl
  refine t_X1_textOf_0 sh (nI d) (K5 := fun a b c hh => a = nI d ∧ b = -4 ∧ c = 0 ∧ hh = h) (fun a b c hh z => ?_) ⟨rfl, rfl, rfl, rfl⟩
  obtain ⟨rfl, rfl, rfl, rfl⟩ := z
  exact loop tn 0 (Nat.zero_le _) rfl
/-- what counts of kind k on day d: -4 where it's none of issue, late, debt -/
def tV (tn : Nat) (td : Nat → Nat) (tv : Nat → Nat → Option Nat) (d k : Nat) : Option Nat := match tB td d tn with
  | none => none
  | some t => tv t k
def tL (tn : Nat) (td : Nat → Nat) (tv : Nat → Nat → Option Nat) (d k : Nat) : Int32 := match tV tn td tv d k with
  | some v => nI v
  | none => if k = 1 ∨ k = 2 then -4 else 0
set_option maxRecDepth 20000 in
theorem t_X9_law_0 {h : mm_H} {Q : Option Value → mm_H → Prop} (sh : s_h h) (dd : Int32) (k : Int32) 
    (F : w_c 0 115 [.ref 44, .int dd] h (fun r h1 => ∃ x2 : Int32, r = some (.int x2) ∧ s_h h1 ∧ ((¬ x2 = (-4) → (vp_in ((5 * x2) + k) 30 ∧ ((¬ (h_ai h1 48 ((5 * x2) + k).toNatClampNeg) = (-4) → Q (some (.int (h_ai h1 48 ((5 * x2) + k).toNatClampNeg))) h1) ∧ ((h_ai h1 48 ((5 * x2) + k).toNatClampNeg) = (-4) → ((k = 1 → Q (some (.int (h_ai h1 48 ((5 * x2) + k).toNatClampNeg))) h1) ∧ (¬ (k = 1) → ((k = 2 → Q (some (.int (h_ai h1 48 ((5 * x2) + k).toNatClampNeg))) h1) ∧ (¬ (k = 2) → Q (some (.int 0)) h1)))))))) ∧ (x2 = (-4) → ((k = 1 → Q (some (.int (-4))) h1) ∧ (¬ (k = 1) → ((k = 2 → Q (some (.int (-4))) h1) ∧ (¬ (k = 2) → Q (some (.int 0)) h1)))))))) :
    w_c 1 116 [.ref 44, .int dd, .int k] h Q := by
  refine w_ci (M := (9, 5, mc_X9_law)) rfl (Nat.le_of_ble_eq_true rfl) ?_
  show w_p _ _ 0 [(0, .ref 44), (1, .int dd), (2, .int k)] [] h Q
  refine w_b 2 2 [(0, .ref 44), (1, .int dd), (2, .int k)] [.int dd, .ref 44] rfl ?_
  refine w_cv (As := [.int dd]) (b := 44) (rest := []) rfl rfl rfl (Nat.le_of_ble_eq_true rfl) (kd_44 sh) (fun z => absurd z (by decide)) (dc := 0) (by omega) (F.mono (fun r h1 F => ?_))
  obtain ⟨x2, rfl, sh1, F⟩ := F
  show w_p _ _ 5 [(0, .ref 44), (1, .int dd), (2, .int k)] [.int x2] h1 _
  refine w_b 3 9 [(3, .int x2), (0, .ref 44), (1, .int dd), (2, .int k)] [.int (-4), .int x2] rfl ?_
  refine w_ic_ne (tgt := 17) (x := x2) (y := (-4)) rfl (by decide) ⟨fun c3 => ?_, fun c3 => ?_⟩
  · have F := F.1 c3
    refine w_b 1 18 [(3, .int x2), (0, .ref 44), (1, .int dd), (2, .int k)] [.ref 44] rfl ?_
    refine w_getS (b := 48) rfl rfl rfl (kd_44 sh1) (or_587_44 sh1) ?_
    refine w_b 5 26 [(3, .int x2), (0, .ref 44), (1, .int dd), (2, .int k)] [.int ((5 * x2) + k), .ref 48] rfl ?_
    obtain ⟨g4, F⟩ := F
    refine w_iald rfl (kd_48 sh1) (by rw [show h_al h1 48 = 30 from (al_48 sh1)]; exact g4) ?_
    refine w_b 3 33 [(4, .int (h_ai h1 48 ((5 * x2) + k).toNatClampNeg)), (3, .int x2), (0, .ref 44), (1, .int dd), (2, .int k)] [.int (-4), .int (h_ai h1 48 ((5 * x2) + k).toNatClampNeg)] rfl ?_
    refine w_ic_ne (tgt := 50) (x := h_ai h1 48 ((5 * x2) + k).toNatClampNeg) (y := (-4)) rfl (by decide) ⟨fun c5 => ?_, fun c5 => ?_⟩
    · have F := F.1 c5
      refine w_b 1 52 [(4, .int (h_ai h1 48 ((5 * x2) + k).toNatClampNeg)), (3, .int x2), (0, .ref 44), (1, .int dd), (2, .int k)] [.int (h_ai h1 48 ((5 * x2) + k).toNatClampNeg)] rfl ?_
      exact w_ir rfl F
    · have F := F.2 (Decidable.not_not.mp c5)
      refine w_b 2 38 [(4, .int (h_ai h1 48 ((5 * x2) + k).toNatClampNeg)), (3, .int x2), (0, .ref 44), (1, .int dd), (2, .int k)] [.int 1, .int k] rfl ?_
      refine w_ic_eq (tgt := 50) (x := k) (y := 1) rfl (by decide) ⟨fun c6 => ?_, fun c6 => ?_⟩
      · have F := F.1 c6
        refine w_b 1 52 [(4, .int (h_ai h1 48 ((5 * x2) + k).toNatClampNeg)), (3, .int x2), (0, .ref 44), (1, .int dd), (2, .int k)] [.int (h_ai h1 48 ((5 * x2) + k).toNatClampNeg)] rfl ?_
        exact w_ir rfl F
      · have F := F.2 c6
        refine w_b 2 43 [(4, .int (h_ai h1 48 ((5 * x2) + k).toNatClampNeg)), (3, .int x2), (0, .ref 44), (1, .int dd), (2, .int k)] [.int 2, .int k] rfl ?_
        refine w_ic_eq (tgt := 50) (x := k) (y := 2) rfl (by decide) ⟨fun c7 => ?_, fun c7 => ?_⟩
        · have F := F.1 c7
          refine w_b 1 52 [(4, .int (h_ai h1 48 ((5 * x2) + k).toNatClampNeg)), (3, .int x2), (0, .ref 44), (1, .int dd), (2, .int k)] [.int (h_ai h1 48 ((5 * x2) + k).toNatClampNeg)] rfl ?_
          exact w_ir rfl F
        · have F := F.2 c7
          refine w_b 2 52 [(4, .int (h_ai h1 48 ((5 * x2) + k).toNatClampNeg)), (3, .int x2), (0, .ref 44), (1, .int dd), (2, .int k)] [.int 0] rfl ?_
          exact w_ir rfl F
  · have F := F.2 (Decidable.not_not.mp c3)
    refine w_b 5 33 [(4, .int (-4)), (3, .int x2), (0, .ref 44), (1, .int dd), (2, .int k)] [.int (-4), .int (-4)] rfl ?_
    refine w_ic_ne (tgt := 50) (x := (-4)) (y := (-4)) rfl (by decide) ⟨fun c8 => absurd c8 (by decide), fun _ => ?_⟩
    refine w_b 2 38 [(4, .int (-4)), (3, .int x2), (0, .ref 44), (1, .int dd), (2, .int k)] [.int 1, .int k] rfl ?_
    refine w_ic_eq (tgt := 50) (x := k) (y := 1) rfl (by decide) ⟨fun c9 => ?_, fun c9 => ?_⟩
    · have F := F.1 c9
      refine w_b 1 52 [(4, .int (-4)), (3, .int x2), (0, .ref 44), (1, .int dd), (2, .int k)] [.int (-4)] rfl ?_
      exact w_ir rfl F
    · have F := F.2 c9
      refine w_b 2 43 [(4, .int (-4)), (3, .int x2), (0, .ref 44), (1, .int dd), (2, .int k)] [.int 2, .int k] rfl ?_
      refine w_ic_eq (tgt := 50) (x := k) (y := 2) rfl (by decide) ⟨fun c10 => ?_, fun c10 => ?_⟩
      · have F := F.1 c10
        refine w_b 1 52 [(4, .int (-4)), (3, .int x2), (0, .ref 44), (1, .int dd), (2, .int k)] [.int (-4)] rfl ?_
        exact w_ir rfl F
      · have F := F.2 c10
        refine w_b 2 52 [(4, .int (-4)), (3, .int x2), (0, .ref 44), (1, .int dd), (2, .int k)] [.int 0] rfl ?_
        exact w_ir rfl F

set_option maxRecDepth 20000 in
theorem t_X1_lawOf_0 {h : mm_H} {Q : Option Value → mm_H → Prop} (sh : s_h h) (dd : Int32) (k : Int32) 
    (F : ((k < 0 → Q (some (.int (-1))) h) ∧ (¬ (k < 0) → ((k < 5 → w_c 0 9 [.ref 21, .int dd] h (fun r h3 => ∃ x4 : Int32, r = some (.int x4) ∧ s_h h3 ∧ ((x4 = (-4) → (vp_in k 5 ∧ Q (some (.int (h_ai h3 3 k.toNatClampNeg))) h3)) ∧ (¬ (x4 = (-4)) → (vp_in x4 6 ∧ (∃ b9 : Nat, (h_ar h3 23 x4.toNatClampNeg) = some b9 ∧ (h_kd h3 b9 = 20 ∧ (vp_in k (h_al h3 b9) ∧ (((h_ai h3 b9 k.toNatClampNeg) = (-1) → (vp_in k 5 ∧ Q (some (.int (h_ai h3 3 k.toNatClampNeg))) h3)) ∧ (¬ ((h_ai h3 b9 k.toNatClampNeg) = (-1)) → (vp_in x4 6 ∧ (∃ b18 : Nat, (h_ar h3 23 x4.toNatClampNeg) = some b18 ∧ (h_kd h3 b18 = 20 ∧ (vp_in k (h_al h3 b18) ∧ Q (some (.int (h_ai h3 b18 k.toNatClampNeg))) h3)))))))))))))) ∧ (¬ (k < 5) → Q (some (.int (-1))) h))))) :
    w_c 1 10 [.ref 21, .int dd, .int k] h Q := by
  refine w_ci (M := (1, 5, mc_X1_lawOf)) rfl (Nat.le_of_ble_eq_true rfl) ?_
  show w_p _ _ 0 [(0, .ref 21), (1, .int dd), (2, .int k)] [] h Q
  refine w_b 1 1 [(0, .ref 21), (1, .int dd), (2, .int k)] [.int k] rfl ?_
  refine w_if_lt (tgt := 9) (x := k) rfl (by decide) ⟨fun c1 => ?_, fun c1 => ?_⟩
  · have F := F.1 c1
    refine w_b 1 10 [(0, .ref 21), (1, .int dd), (2, .int k)] [.int (-1)] rfl ?_
    exact w_ir rfl F
  · have F := F.2 c1
    refine w_b 2 6 [(0, .ref 21), (1, .int dd), (2, .int k)] [.int 5, .int k] rfl ?_
    refine w_ic_lt (tgt := 11) (x := k) (y := 5) rfl (by decide) ⟨fun c2 => ?_, fun c2 => ?_⟩
    · have F := F.1 c2
      refine w_b 2 13 [(0, .ref 21), (1, .int dd), (2, .int k)] [.int dd, .ref 21] rfl ?_
      refine w_cv (As := [.int dd]) (b := 21) (rest := []) rfl rfl rfl (Nat.le_of_ble_eq_true rfl) (kd_21 sh) (fun z => absurd z (by decide)) (dc := 0) (by omega) (F.mono (fun r h3 F => ?_))
      obtain ⟨x4, rfl, sh3, F⟩ := F
      show w_p _ _ 16 [(0, .ref 21), (1, .int dd), (2, .int k)] [.int x4] h3 _
      refine w_b 3 20 [(3, .int x4), (0, .ref 21), (1, .int dd), (2, .int k)] [.int (-4), .int x4] rfl ?_
      refine w_ic_eq (tgt := 39) (x := x4) (y := (-4)) rfl (by decide) ⟨fun c5 => ?_, fun c5 => ?_⟩
      · have F := F.1 c5
        refine w_b 3 44 [(4, .int 0), (3, .int x4), (0, .ref 21), (1, .int dd), (2, .int k)] [.int 0] rfl ?_
        refine w_if_eq (tgt := 58) (x := 0) rfl (by decide) ⟨fun _ => ?_, fun c6 => absurd (by decide) c6⟩
        refine w_b 2 62 [(4, .int 0), (3, .int x4), (0, .ref 21), (1, .int dd), (2, .int k)] [.int k, .ref 3] rfl ?_
        obtain ⟨g7, F⟩ := F
        refine w_iald rfl (kd_3 sh3) (by rw [show h_al h3 3 = 5 from (al_3 sh3)]; exact g7) ?_
        exact w_ir rfl F
      · have F := F.2 c5
        refine w_b 1 24 [(3, .int x4), (0, .ref 21), (1, .int dd), (2, .int k)] [.ref 21] rfl ?_
        refine w_getS (b := 23) rfl rfl rfl (kd_21 sh3) (or_65_21 sh3) ?_
        refine w_b 1 28 [(3, .int x4), (0, .ref 21), (1, .int dd), (2, .int k)] [.int x4, .ref 23] rfl ?_
        obtain ⟨g8, F⟩ := F
        refine w_aald rfl (by rw [kd_23 sh3]; decide) (by rw [show h_al h3 23 = 6 from (al_23 sh3)]; exact g8) ?_
        refine w_b 1 30 [(3, .int x4), (0, .ref 21), (1, .int dd), (2, .int k)] [.int k, va_rf (h_ar h3 23 x4.toNatClampNeg)] rfl ?_
        obtain ⟨b9, e10, F⟩ := F
        rw [e10]
        show w_p _ _ 30 [(3, .int x4), (0, .ref 21), (1, .int dd), (2, .int k)] [.int k, .ref b9] h3 _
        obtain ⟨g11, F⟩ := F
        obtain ⟨g12, F⟩ := F
        refine w_iald rfl g11 g12 ?_
        refine w_b 1 32 [(3, .int x4), (0, .ref 21), (1, .int dd), (2, .int k)] [.int (-1), .int (h_ai h3 b9 k.toNatClampNeg)] rfl ?_
        refine w_ic_eq (tgt := 39) (x := h_ai h3 b9 k.toNatClampNeg) (y := (-1)) rfl (by decide) ⟨fun c13 => ?_, fun c13 => ?_⟩
        · have F := F.1 c13
          refine w_b 3 44 [(4, .int 0), (3, .int x4), (0, .ref 21), (1, .int dd), (2, .int k)] [.int 0] rfl ?_
          refine w_if_eq (tgt := 58) (x := 0) rfl (by decide) ⟨fun _ => ?_, fun c14 => absurd (by decide) c14⟩
          refine w_b 2 62 [(4, .int 0), (3, .int x4), (0, .ref 21), (1, .int dd), (2, .int k)] [.int k, .ref 3] rfl ?_
          obtain ⟨g15, F⟩ := F
          refine w_iald rfl (kd_3 sh3) (by rw [show h_al h3 3 = 5 from (al_3 sh3)]; exact g15) ?_
          exact w_ir rfl F
        · have F := F.2 c13
          refine w_b 4 44 [(4, .int 1), (3, .int x4), (0, .ref 21), (1, .int dd), (2, .int k)] [.int 1] rfl ?_
          refine w_if_eq (tgt := 58) (x := 1) rfl (by decide) ⟨fun c16 => absurd c16 (by decide), fun _ => ?_⟩
          refine w_b 1 48 [(4, .int 1), (3, .int x4), (0, .ref 21), (1, .int dd), (2, .int k)] [.ref 21] rfl ?_
          refine w_getS (b := 23) rfl rfl rfl (kd_21 sh3) (or_65_21 sh3) ?_
          refine w_b 1 52 [(4, .int 1), (3, .int x4), (0, .ref 21), (1, .int dd), (2, .int k)] [.int x4, .ref 23] rfl ?_
          obtain ⟨g17, F⟩ := F
          refine w_aald rfl (by rw [kd_23 sh3]; decide) (by rw [show h_al h3 23 = 6 from (al_23 sh3)]; exact g17) ?_
          refine w_b 1 54 [(4, .int 1), (3, .int x4), (0, .ref 21), (1, .int dd), (2, .int k)] [.int k, va_rf (h_ar h3 23 x4.toNatClampNeg)] rfl ?_
          obtain ⟨b18, e19, F⟩ := F
          rw [e19]
          show w_p _ _ 54 [(4, .int 1), (3, .int x4), (0, .ref 21), (1, .int dd), (2, .int k)] [.int k, .ref b18] h3 _
          obtain ⟨g20, F⟩ := F
          obtain ⟨g21, F⟩ := F
          refine w_iald rfl g20 g21 ?_
          refine w_b 1 63 [(4, .int 1), (3, .int x4), (0, .ref 21), (1, .int dd), (2, .int k)] [.int (h_ai h3 b18 k.toNatClampNeg)] rfl ?_
          exact w_ir rfl F
    · have F := F.2 c2
      refine w_b 1 10 [(0, .ref 21), (1, .int dd), (2, .int k)] [.int (-1)] rfl ?_
      exact w_ir rfl F
end
section
theorem nI_neN (n : Nat) (h : n < 2147483648) : ¬ nI n = -4 := oN_ne n h
theorem nI_ne1 (n : Nat) (h : n < 2147483648) : ¬ nI n = -1 := by
  rw [fa_eq, nI_toInt (by omega)]
  show ¬ (n : Int) = -1
  omega
theorem nI_eqI {a b : Nat} (ha : a < 2147483648) (hb : b < 2147483648) : nI a = nI b ↔ a = b := nI_eq (by omega) (by omega)
theorem tL_some {tn : Nat} {td : Nat → Nat} {tv : Nat → Nat → Option Nat} {d k t v : Nat} (e : tB td d tn = some t) (e2 : tv t k = some v) : tL tn td tv d k = nI v := by
  unfold tL tV
  rw [e]
  show (match tv t k with | some v => nI v | none => if k = 1 ∨ k = 2 then (-4 : Int32) else 0) = nI v
  rw [e2]
theorem tL_none {tn : Nat} {td : Nat → Nat} {tv : Nat → Nat → Option Nat} {d k t : Nat} (e : tB td d tn = some t) (e2 : tv t k = none) : tL tn td tv d k = if k = 1 ∨ k = 2 then (-4 : Int32) else 0 := by
  unfold tL tV
  rw [e]
  show (match tv t k with | some v => nI v | none => if k = 1 ∨ k = 2 then (-4 : Int32) else 0) = _
  rw [e2]
theorem tL_no {tn : Nat} {td : Nat → Nat} {tv : Nat → Nat → Option Nat} {d k : Nat} (e : tB td d tn = none) : tL tn td tv d k = if k = 1 ∨ k = 2 then (-4 : Int32) else 0 := by
  unfold tL tV
  rw [e]
theorem sp_lawM {h : mm_H} {Q : Option Value → mm_H → Prop} (sh : s_h h) {tn : Nat} {td : Nat → Nat} {tv : Nat → Nat → Option Nat} (hX : mX h tn td tv) {d k : Nat} (hd : d < 2147483648) (hk : k < 5) (K : Q (some (.int (tL tn td tv d k))) h) : w_c 1 116 [.ref 44, .int (nI d), .int (nI k)] h Q := by
  refine t_X9_law_0 sh _ _ (sp_textOfM sh hX hd ?_)
  refine ⟨_, rfl, sh, ?_, ?_⟩
  · intro c
    cases eb : tB td d tn with
    | none => rw [eb] at c; exact absurd rfl c
    | some t =>
      obtain ⟨⟨h6, hb⟩, hn, hv⟩ := hX
      have ht := tB_lt td d tn t eb
      have e1 : (5 : Int32) * oN (some t) + nI k = nI (5 * t + k) := by
        show nI 5 * nI t + nI k = _
        rw [pk_mul, nI_add]
      have e2 := (hv t ht).2 k hk
      rw [e1, nI_clamp (by omega), e2]
      refine ⟨vp_in_nI (by omega) (by decide), fun c2 => ?_, fun c2 => ?_⟩
      · cases ev : tv t k with
        | none => rw [ev] at c2; exact absurd rfl c2
        | some v =>
          rw [tL_some eb ev] at K
          exact K
      · cases ev : tv t k with
        | some v =>
          rw [ev] at c2
          have := (hb t ht).2 k hk v ev
          exact absurd c2 (nI_neN v (by omega))
        | none =>
          rw [tL_none eb ev] at K
          refine ⟨fun c3 => ?_, fun c3 => ⟨fun c4 => ?_, fun c4 => ?_⟩⟩
          · have c3 : k = 1 := (nI_eqI (by omega) (by decide)).mp c3
            rw [if_pos (Or.inl c3)] at K
            exact K
          · have c4 : k = 2 := (nI_eqI (by omega) (by decide)).mp c4
            rw [if_pos (Or.inr c4)] at K
            exact K
          · have c3 : ¬ k = 1 := fun z => c3 ((nI_eqI (by omega) (by decide)).mpr z)
            have c4 : ¬ k = 2 := fun z => c4 ((nI_eqI (by omega) (by decide)).mpr z)
            rw [if_neg (by omega)] at K
            exact K
  · intro c
    cases eb : tB td d tn with
    | some t =>
      have ht := tB_lt td d tn t eb
      have := hX.1.1
      rw [eb] at c
      exact absurd c (oN_ne t (by omega))
    | none =>
      rw [tL_no eb] at K
      refine ⟨fun c3 => ?_, fun c3 => ⟨fun c4 => ?_, fun c4 => ?_⟩⟩
      · have c3 : k = 1 := (nI_eqI (by omega) (by decide)).mp c3
        rw [if_pos (Or.inl c3)] at K
        exact K
      · have c4 : k = 2 := (nI_eqI (by omega) (by decide)).mp c4
        rw [if_pos (Or.inr c4)] at K
        exact K
      · have c3 : ¬ k = 1 := fun z => c3 ((nI_eqI (by omega) (by decide)).mpr z)
        have c4 : ¬ k = 2 := fun z => c4 ((nI_eqI (by omega) (by decide)).mpr z)
        rw [if_neg (by omega)] at K
        exact K
theorem wo_at {k : Nat} (hk : k < 5) : ([0, -4, -4, 0, 0] : List Int32).getD k 0 = if k = 1 ∨ k = 2 then (-4 : Int32) else 0 := by
  have h5 : k = 0 ∨ k = 1 ∨ k = 2 ∨ k = 3 ∨ k = 4 := by omega
  rcases h5 with rfl | rfl | rfl | rfl | rfl <;> rfl
theorem in_row {h : mm_H} (sh : s_h h) {t : Nat} (ht : t < 6) : h_kd h (24 + t) = 20 ∧ h_al h (24 + t) = 5 := by
  have h6 : t = 0 ∨ t = 1 ∨ t = 2 ∨ t = 3 ∨ t = 4 ∨ t = 5 := by omega
  rcases h6 with rfl | rfl | rfl | rfl | rfl | rfl
  · exact ⟨kd_24 sh, al_24 sh⟩
  · exact ⟨kd_25 sh, al_25 sh⟩
  · exact ⟨kd_26 sh, al_26 sh⟩
  · exact ⟨kd_27 sh, al_27 sh⟩
  · exact ⟨kd_28 sh, al_28 sh⟩
  · exact ⟨kd_29 sh, al_29 sh⟩
theorem sp_lawC {h : mm_H} {Q : Option Value → mm_H → Prop} (sh : s_h h) {tn : Nat} {td : Nat → Nat} {tv : Nat → Nat → Option Nat} (hX : cX h tn td tv) {d k : Nat} (hd : d < 2147483648) (hk : k < 5) (K : Q (some (.int (tL tn td tv d k))) h) : w_c 1 10 [.ref 21, .int (nI d), .int (nI k)] h Q := by
  have hclk : (nI k).toNatClampNeg = k := nI_clamp (by omega)
  have hw : h_ai h 3 (nI k).toNatClampNeg = if k = 1 ∨ k = 2 then (-4 : Int32) else 0 := by
    rw [ai_3 sh, hclk]
    exact wo_at hk
  refine t_X1_lawOf_0 sh _ _ ⟨fun c => absurd c (nI_pos (by omega)), fun _ => ⟨fun _ => sp_textOfC sh hX hd ?_, fun c => absurd (nI_lt (b := 5) hk (by decide)) c⟩⟩
  refine ⟨_, rfl, sh, ?_, ?_⟩
  · intro c
    cases eb : tB td d tn with
    | some t =>
      have ht := tB_lt td d tn t eb
      have := hX.1.1
      rw [eb] at c
      exact absurd c (oN_ne t (by omega))
    | none =>
      rw [tL_no eb] at K
      refine ⟨vp_in_nI (by omega) (by decide), ?_⟩
      rw [hw]
      exact K
  · intro c
    cases eb : tB td d tn with
    | none => rw [eb] at c; exact absurd rfl c
    | some t =>
      obtain ⟨⟨h6, hb⟩, hn, hv⟩ := hX
      have ht := tB_lt td d tn t eb
      have e2 := (hv t ht).2 k hk
      have hclt : (oN (some t)).toNatClampNeg = t := nI_clamp (by omega)
      obtain ⟨r1, r2⟩ := in_row sh (t := t) (by omega)
      rw [hclt, hw, hclk]
      refine ⟨vp_in_nI (by omega) (by decide), 24 + t, ar_23 sh (by omega), r1, by rw [r2]; exact vp_in_nI (by omega) (by decide), fun c2 => ?_, fun c2 => ?_⟩
      · rw [e2] at c2
        cases ev : tv t k with
        | some v =>
          rw [ev] at c2
          have := (hb t ht).2 k hk v ev
          exact absurd c2 (nI_ne1 v (by omega))
        | none =>
          rw [tL_none eb ev] at K
          exact ⟨vp_in_nI (by omega) (by decide), K⟩
      · rw [e2] at c2
        cases ev : tv t k with
        | none => rw [ev] at c2; exact absurd rfl c2
        | some v =>
          rw [tL_some eb ev] at K
          exact ⟨vp_in_nI (by omega) (by decide), 24 + t, ar_23 sh (by omega), r1, by rw [r2]; exact vp_in_nI (by omega) (by decide), by rw [e2, ev]; exact K⟩
set_option maxRecDepth 20000 in
theorem t_X8_rule_0 {h : mm_H} {Q : Option Value → mm_H → Prop} (sh : s_h h) (dd : Int32) (what : Int32) 
    (F : ((dd < 0 → Q (some (.int (-1))) h) ∧ (¬ (dd < 0) → ((2000 < dd → Q (some (.int (-1))) h) ∧ (¬ (2000 < dd) → ((what < 0 → Q (some (.int (-1))) h) ∧ (¬ (what < 0) → ((what ≤ 5 → ((¬ what = 5 → w_c 1 10 [.ref 21, .int dd, .int what] h (fun r h6 => ∃ x7 : Int32, r = some (.int x7) ∧ s_h h6 ∧ Q (some (.int x7)) h6)) ∧ (what = 5 → w_c 0 9 [.ref 21, .int dd] h (fun r h8 => ∃ x9 : Int32, r = some (.int x9) ∧ s_h h8 ∧ Q (some (.int x9)) h8)))) ∧ (¬ (what ≤ 5) → Q (some (.int (-1))) h))))))))) :
    w_c 2 67 [.ref 16, .int dd, .int what] h Q := by
  refine w_ci (M := (8, 3, mc_X8_rule)) rfl (Nat.le_of_ble_eq_true rfl) ?_
  show w_p _ _ 0 [(0, .ref 16), (1, .int dd), (2, .int what)] [] h Q
  refine w_b 1 1 [(0, .ref 16), (1, .int dd), (2, .int what)] [.int dd] rfl ?_
  refine w_if_lt (tgt := 20) (x := dd) rfl (by decide) ⟨fun c1 => ?_, fun c1 => ?_⟩
  · have F := F.1 c1
    refine w_b 1 21 [(0, .ref 16), (1, .int dd), (2, .int what)] [.int (-1)] rfl ?_
    exact w_ir rfl F
  · have F := F.2 c1
    refine w_b 2 8 [(0, .ref 16), (1, .int dd), (2, .int what)] [.int 2000, .int dd] rfl ?_
    refine w_ic_gt (tgt := 20) (x := dd) (y := 2000) rfl (by decide) ⟨fun c2 => ?_, fun c2 => ?_⟩
    · have F := F.1 c2
      refine w_b 1 21 [(0, .ref 16), (1, .int dd), (2, .int what)] [.int (-1)] rfl ?_
      exact w_ir rfl F
    · have F := F.2 c2
      refine w_b 1 12 [(0, .ref 16), (1, .int dd), (2, .int what)] [.int what] rfl ?_
      refine w_if_lt (tgt := 20) (x := what) rfl (by decide) ⟨fun c3 => ?_, fun c3 => ?_⟩
      · have F := F.1 c3
        refine w_b 1 21 [(0, .ref 16), (1, .int dd), (2, .int what)] [.int (-1)] rfl ?_
        exact w_ir rfl F
      · have F := F.2 c3
        refine w_b 2 17 [(0, .ref 16), (1, .int dd), (2, .int what)] [.int 5, .int what] rfl ?_
        refine w_ic_le (tgt := 22) (x := what) (y := 5) rfl (by decide) ⟨fun c4 => ?_, fun c4 => ?_⟩
        · have F := F.1 c4
          refine w_b 2 24 [(0, .ref 16), (1, .int dd), (2, .int what)] [.int 5, .int what] rfl ?_
          refine w_ic_ne (tgt := 38) (x := what) (y := 5) rfl (by decide) ⟨fun c5 => ?_, fun c5 => ?_⟩
          · have F := F.1 c5
            refine w_b 1 39 [(0, .ref 16), (1, .int dd), (2, .int what)] [.ref 16] rfl ?_
            refine w_getS (b := 21) rfl rfl rfl (kd_16 sh) (or_514_16 sh) ?_
            refine w_b 2 44 [(0, .ref 16), (1, .int dd), (2, .int what)] [.int what, .int dd, .ref 21] rfl ?_
            refine w_cv (As := [.int dd, .int what]) (b := 21) (rest := []) rfl rfl rfl (Nat.le_of_ble_eq_true rfl) (kd_21 sh) (fun z => absurd z (by decide)) (dc := 1) (by omega) (F.mono (fun r h6 F => ?_))
            obtain ⟨x7, rfl, sh6, F⟩ := F
            show w_p _ _ 47 [(0, .ref 16), (1, .int dd), (2, .int what)] [.int x7] h6 _
            exact w_ir rfl F
          · have F := F.2 (Decidable.not_not.mp c5)
            refine w_b 1 28 [(0, .ref 16), (1, .int dd), (2, .int what)] [.ref 16] rfl ?_
            refine w_getS (b := 21) rfl rfl rfl (kd_16 sh) (or_514_16 sh) ?_
            refine w_b 1 32 [(0, .ref 16), (1, .int dd), (2, .int what)] [.int dd, .ref 21] rfl ?_
            refine w_cv (As := [.int dd]) (b := 21) (rest := []) rfl rfl rfl (Nat.le_of_ble_eq_true rfl) (kd_21 sh) (fun z => absurd z (by decide)) (dc := 0) (by omega) (F.mono (fun r h8 F => ?_))
            obtain ⟨x9, rfl, sh8, F⟩ := F
            show w_p _ _ 35 [(0, .ref 16), (1, .int dd), (2, .int what)] [.int x9] h8 _
            refine w_b 1 47 [(0, .ref 16), (1, .int dd), (2, .int what)] [.int x9] rfl ?_
            exact w_ir rfl F
        · have F := F.2 c4
          refine w_b 1 21 [(0, .ref 16), (1, .int dd), (2, .int what)] [.int (-1)] rfl ?_
          exact w_ir rfl F

set_option maxRecDepth 20000 in
theorem t_X9_rule_0 {h : mm_H} {Q : Option Value → mm_H → Prop} (sh : s_h h) (dd : Int32) (what : Int32) 
    (F : (((f_in dd.toInt64 (Int64.ofNat 0) (Int64.ofNat 2000)) = 0 → Q (some (.int (-1))) h) ∧ (¬ ((f_in dd.toInt64 (Int64.ofNat 0) (Int64.ofNat 2000)) = 0) → ((¬ (f_in what.toInt64 (Int64.ofNat 0) (Int64.ofNat 5)) = 0 → ((¬ what = 5 → w_c 1 116 [.ref 44, .int dd, .int what] h (fun r h4 => ∃ x5 : Int32, r = some (.int x5) ∧ s_h h4 ∧ Q (some (.int x5)) h4)) ∧ (what = 5 → w_c 0 115 [.ref 44, .int dd] h (fun r h6 => ∃ x7 : Int32, r = some (.int x7) ∧ s_h h6 ∧ Q (some (.int x7)) h6)))) ∧ ((f_in what.toInt64 (Int64.ofNat 0) (Int64.ofNat 5)) = 0 → Q (some (.int (-1))) h))))) :
    w_c 2 117 [.ref 44, .int dd, .int what] h Q := by
  refine w_ci (M := (9, 3, mc_X9_rule)) rfl (Nat.le_of_ble_eq_true rfl) ?_
  show w_p _ _ 0 [(0, .ref 44), (1, .int dd), (2, .int what)] [] h Q
  refine w_b 4 6 [(0, .ref 44), (1, .int dd), (2, .int what)] [.long (Int64.ofNat 2000), .long (Int64.ofNat 0), .long dd.toInt64] rfl ?_
  refine w_cs (As := [.long dd.toInt64, .long (Int64.ofNat 0), .long (Int64.ofNat 2000)]) (rest := []) rfl rfl rfl (Nat.le_of_ble_eq_true rfl) (dc := 0) (by omega) (sp_in  ?_)
  show w_p _ _ 9 [(0, .ref 44), (1, .int dd), (2, .int what)] [.int (f_in dd.toInt64 (Int64.ofNat 0) (Int64.ofNat 2000))] h _
  refine w_if_eq (tgt := 24) (x := f_in dd.toInt64 (Int64.ofNat 0) (Int64.ofNat 2000)) rfl (by decide) ⟨fun c1 => ?_, fun c1 => ?_⟩
  · have F := F.1 c1
    refine w_b 2 47 [(0, .ref 44), (1, .int dd), (2, .int what)] [.int (-1)] rfl ?_
    exact w_ir rfl F
  · have F := F.2 c1
    refine w_b 4 18 [(0, .ref 44), (1, .int dd), (2, .int what)] [.long (Int64.ofNat 5), .long (Int64.ofNat 0), .long what.toInt64] rfl ?_
    refine w_cs (As := [.long what.toInt64, .long (Int64.ofNat 0), .long (Int64.ofNat 5)]) (rest := []) rfl rfl rfl (Nat.le_of_ble_eq_true rfl) (dc := 0) (by omega) (sp_in  ?_)
    show w_p _ _ 21 [(0, .ref 44), (1, .int dd), (2, .int what)] [.int (f_in what.toInt64 (Int64.ofNat 0) (Int64.ofNat 5))] h _
    refine w_if_ne (tgt := 28) (x := f_in what.toInt64 (Int64.ofNat 0) (Int64.ofNat 5)) rfl (by decide) ⟨fun c2 => ?_, fun c2 => ?_⟩
    · have F := F.1 c2
      refine w_b 2 30 [(0, .ref 44), (1, .int dd), (2, .int what)] [.int 5, .int what] rfl ?_
      refine w_ic_ne (tgt := 41) (x := what) (y := 5) rfl (by decide) ⟨fun c3 => ?_, fun c3 => ?_⟩
      · have F := F.1 c3
        refine w_b 3 44 [(0, .ref 44), (1, .int dd), (2, .int what)] [.int what, .int dd, .ref 44] rfl ?_
        refine w_cv (As := [.int dd, .int what]) (b := 44) (rest := []) rfl rfl rfl (Nat.le_of_ble_eq_true rfl) (kd_44 sh) (fun z => absurd z (by decide)) (dc := 1) (by omega) (F.mono (fun r h4 F => ?_))
        obtain ⟨x5, rfl, sh4, F⟩ := F
        show w_p _ _ 47 [(0, .ref 44), (1, .int dd), (2, .int what)] [.int x5] h4 _
        exact w_ir rfl F
      · have F := F.2 (Decidable.not_not.mp c3)
        refine w_b 2 35 [(0, .ref 44), (1, .int dd), (2, .int what)] [.int dd, .ref 44] rfl ?_
        refine w_cv (As := [.int dd]) (b := 44) (rest := []) rfl rfl rfl (Nat.le_of_ble_eq_true rfl) (kd_44 sh) (fun z => absurd z (by decide)) (dc := 0) (by omega) (F.mono (fun r h6 F => ?_))
        obtain ⟨x7, rfl, sh6, F⟩ := F
        show w_p _ _ 38 [(0, .ref 44), (1, .int dd), (2, .int what)] [.int x7] h6 _
        refine w_b 1 47 [(0, .ref 44), (1, .int dd), (2, .int what)] [.int x7] rfl ?_
        exact w_ir rfl F
    · have F := F.2 (Decidable.not_not.mp c2)
      refine w_b 2 47 [(0, .ref 44), (1, .int dd), (2, .int what)] [.int (-1)] rfl ?_
      exact w_ir rfl F

set_option maxRecDepth 20000 in
theorem t_X1_latestDay_0 {h : mm_H} {Q : Option Value → mm_H → Prop} (sh : s_h h) 
    (F : (((h_oi h 66 21) ≤ 0 → Q (some (.int (-4))) h) ∧ (¬ ((h_oi h 66 21) ≤ 0) → (vp_in ((h_oi h 66 21) - 1) 6 ∧ Q (some (.int (h_ai h 22 ((h_oi h 66 21) - 1).toNatClampNeg))) h)))) :
    w_c 0 8 [.ref 21] h Q := by
  refine w_ci (M := (1, 1, mc_X1_latestDay)) rfl (Nat.le_of_ble_eq_true rfl) ?_
  show w_p _ _ 0 [(0, .ref 21)] [] h Q
  refine w_b 1 1 [(0, .ref 21)] [.ref 21] rfl ?_
  refine w_get (g := 66) rfl rfl rfl (kd_21 sh) ?_
  refine w_if_le (tgt := 21) (x := h_oi h 66 21) rfl (by decide) ⟨fun c1 => ?_, fun c1 => ?_⟩
  · have F := F.1 c1
    refine w_b 1 23 [(0, .ref 21)] [.int (-4)] rfl ?_
    exact w_ir rfl F
  · have F := F.2 c1
    refine w_b 1 8 [(0, .ref 21)] [.ref 21] rfl ?_
    refine w_getS (b := 22) rfl rfl rfl (kd_21 sh) (or_64_21 sh) ?_
    refine w_b 1 12 [(0, .ref 21)] [.ref 21, .ref 22] rfl ?_
    refine w_get (g := 66) rfl rfl rfl (kd_21 sh) ?_
    refine w_b 2 17 [(0, .ref 21)] [.int ((h_oi h 66 21) - 1), .ref 22] rfl ?_
    obtain ⟨g2, F⟩ := F
    refine w_iald rfl (kd_22 sh) (by rw [show h_al h 22 = 6 from (al_22 sh)]; exact g2) ?_
    refine w_b 1 23 [(0, .ref 21)] [.int (h_ai h 22 ((h_oi h 66 21) - 1).toNatClampNeg)] rfl ?_
    exact w_ir rfl F

set_option maxRecDepth 20000 in
theorem t_X8_unwind_0 {h : mm_H} {Q : Option Value → mm_H → Prop} (sh : s_h h) 
    (F : ((¬ (h_oi h 66 21) = 0 → w_c 0 8 [.ref 21] h (fun r h2 => ∃ x3 : Int32, r = some (.int x3) ∧ s_h h2 ∧ (((h_oi h2 521 16) < x3 → Q (some (.int ((h_oi h2 66 21) - 1))) (h_sI h2 66 21 ((h_oi h2 66 21) - 1))) ∧ (¬ ((h_oi h2 521 16) < x3) → Q (some (.int (-2))) h2)))) ∧ ((h_oi h 66 21) = 0 → Q (some (.int (-4))) h))) :
    w_c 1 66 [.ref 16] h Q := by
  refine w_ci (M := (8, 1, mc_X8_unwind)) rfl (Nat.le_of_ble_eq_true rfl) ?_
  show w_p _ _ 0 [(0, .ref 16)] [] h Q
  refine w_b 1 1 [(0, .ref 16)] [.ref 16] rfl ?_
  refine w_getS (b := 21) rfl rfl rfl (kd_16 sh) (or_514_16 sh) ?_
  refine w_get (g := 66) rfl rfl rfl (kd_21 sh) ?_
  refine w_if_ne (tgt := 13) (x := h_oi h 66 21) rfl (by decide) ⟨fun c1 => ?_, fun c1 => ?_⟩
  · have F := F.1 c1
    refine w_b 1 14 [(0, .ref 16)] [.ref 16] rfl ?_
    refine w_getS (b := 21) rfl rfl rfl (kd_16 sh) (or_514_16 sh) ?_
    refine w_cv (As := []) (b := 21) (rest := []) rfl rfl rfl (Nat.le_of_ble_eq_true rfl) (kd_21 sh) (fun z => absurd z (by decide)) (dc := 0) (by omega) (F.mono (fun r h2 F => ?_))
    obtain ⟨x3, rfl, sh2, F⟩ := F
    show w_p _ _ 20 [(0, .ref 16)] [.int x3] h2 _
    refine w_b 1 21 [(0, .ref 16)] [.ref 16, .int x3] rfl ?_
    refine w_get (g := 521) rfl rfl rfl (kd_16 sh2) ?_
    refine w_ic_gt (tgt := 30) (x := x3) (y := h_oi h2 521 16) rfl (by decide) ⟨fun c4 => ?_, fun c4 => ?_⟩
    · have F := F.1 c4
      refine w_b 1 31 [(0, .ref 16)] [.ref 16] rfl ?_
      refine w_getS (b := 21) rfl rfl rfl (kd_16 sh2) (or_514_16 sh2) ?_
      refine w_b 1 35 [(0, .ref 16)] [.ref 21, .ref 21] rfl ?_
      refine w_get (g := 66) rfl rfl rfl (kd_21 sh2) ?_
      refine w_b 2 40 [(0, .ref 16)] [.int ((h_oi h2 66 21) - 1), .ref 21] rfl ?_
      refine w_put (g := 66) (x := (h_oi h2 66 21) - 1) rfl rfl rfl (kd_21 sh2) (by decide) ?_
      refine w_b 1 44 [(0, .ref 16)] [.ref 16] rfl ?_
      refine w_getS (b := 21) rfl rfl rfl (kd_16 sh2) (or_514_16 sh2) ?_
      refine w_get (g := 66) rfl rfl rfl (kd_21 sh2) ?_
      exact w_ir rfl F
    · have F := F.2 c4
      refine w_b 1 29 [(0, .ref 16)] [.int (-2)] rfl ?_
      exact w_ir rfl F
  · have F := F.2 (Decidable.not_not.mp c1)
    refine w_b 1 12 [(0, .ref 16)] [.int (-4)] rfl ?_
    exact w_ir rfl F

set_option maxRecDepth 20000 in
theorem t_X9_unwind_0 {h : mm_H} {Q : Option Value → mm_H → Prop} (sh : s_h h) 
    (F : ((¬ (h_oi h 585 44) = 0 → (vp_in ((h_oi h 585 44) - 1) 6 ∧ (((h_oi h 588 44) < (h_ai h 47 ((h_oi h 585 44) - 1).toNatClampNeg) → Q (some (.int ((h_oi h 585 44) - 1))) (h_sI h 585 44 ((h_oi h 585 44) - 1))) ∧ (¬ ((h_oi h 588 44) < (h_ai h 47 ((h_oi h 585 44) - 1).toNatClampNeg)) → Q (some (.int (-2))) h)))) ∧ ((h_oi h 585 44) = 0 → Q (some (.int (-4))) h))) :
    w_c 1 114 [.ref 44] h Q := by
  refine w_ci (M := (9, 1, mc_X9_unwind)) rfl (Nat.le_of_ble_eq_true rfl) ?_
  show w_p _ _ 0 [(0, .ref 44)] [] h Q
  refine w_b 1 1 [(0, .ref 44)] [.ref 44] rfl ?_
  refine w_get (g := 585) rfl rfl rfl (kd_44 sh) ?_
  refine w_if_ne (tgt := 10) (x := h_oi h 585 44) rfl (by decide) ⟨fun c1 => ?_, fun c1 => ?_⟩
  · have F := F.1 c1
    refine w_b 1 11 [(0, .ref 44)] [.ref 44] rfl ?_
    refine w_getS (b := 47) rfl rfl rfl (kd_44 sh) (or_586_44 sh) ?_
    refine w_b 1 15 [(0, .ref 44)] [.ref 44, .ref 47] rfl ?_
    refine w_get (g := 585) rfl rfl rfl (kd_44 sh) ?_
    refine w_b 2 20 [(0, .ref 44)] [.int ((h_oi h 585 44) - 1), .ref 47] rfl ?_
    obtain ⟨g2, F⟩ := F
    refine w_iald rfl (kd_47 sh) (by rw [show h_al h 47 = 6 from (al_47 sh)]; exact g2) ?_
    refine w_b 1 22 [(0, .ref 44)] [.ref 44, .int (h_ai h 47 ((h_oi h 585 44) - 1).toNatClampNeg)] rfl ?_
    refine w_get (g := 588) rfl rfl rfl (kd_44 sh) ?_
    refine w_ic_gt (tgt := 31) (x := h_ai h 47 ((h_oi h 585 44) - 1).toNatClampNeg) (y := h_oi h 588 44) rfl (by decide) ⟨fun c3 => ?_, fun c3 => ?_⟩
    · have F := F.1 c3
      refine w_b 2 33 [(0, .ref 44)] [.ref 44, .ref 44] rfl ?_
      refine w_get (g := 585) rfl rfl rfl (kd_44 sh) ?_
      refine w_b 2 38 [(0, .ref 44)] [.int ((h_oi h 585 44) - 1), .ref 44] rfl ?_
      refine w_put (g := 585) (x := (h_oi h 585 44) - 1) rfl rfl rfl (kd_44 sh) (by decide) ?_
      refine w_b 1 42 [(0, .ref 44)] [.ref 44] rfl ?_
      refine w_get (g := 585) rfl rfl rfl (kd_44 sh) ?_
      exact w_ir rfl F
    · have F := F.2 c3
      refine w_b 1 30 [(0, .ref 44)] [.int (-2)] rfl ?_
      exact w_ir rfl F
  · have F := F.2 (Decidable.not_not.mp c1)
    refine w_b 1 9 [(0, .ref 44)] [.int (-4)] rfl ?_
    exact w_ir rfl F

set_option maxRecDepth 20000 in
theorem t_X8_fault_0 {h : mm_H} {Q : Option Value → mm_H → Prop} (sh : s_h h) 
    (F : Q (some (.int (h_oi h 522 16))) h) :
    w_c 0 65 [.ref 16] h Q := by
  refine w_ci (M := (8, 1, mc_X8_fault)) rfl (Nat.le_of_ble_eq_true rfl) ?_
  show w_p _ _ 0 [(0, .ref 16)] [] h Q
  refine w_b 1 1 [(0, .ref 16)] [.ref 16] rfl ?_
  refine w_get (g := 522) rfl rfl rfl (kd_16 sh) ?_
  exact w_ir rfl F

set_option maxRecDepth 20000 in
theorem t_X9_fault_0 {h : mm_H} {Q : Option Value → mm_H → Prop} (sh : s_h h) 
    (F : Q (some (.int (h_oi h 582 44))) h) :
    w_c 0 113 [.ref 44] h Q := by
  refine w_ci (M := (9, 1, mc_X9_fault)) rfl (Nat.le_of_ble_eq_true rfl) ?_
  show w_p _ _ 0 [(0, .ref 44)] [] h Q
  refine w_b 1 1 [(0, .ref 44)] [.ref 44] rfl ?_
  refine w_get (g := 582) rfl rfl rfl (kd_44 sh) ?_
  exact w_ir rfl F
end
section
/-! OPERATIONS on the tape and the texts: end, fault, rule, unwind, feed -/
theorem nat_of {x : Int32} (h : ¬ x < 0) : ∃ j : Nat, j < 2147483648 ∧ x = nI j := by
  obtain ⟨j, h1, h2⟩ := nI_of h
  exact ⟨j, by omega, h2⟩
theorem i_lt {a b : Nat} (ha : a < 2147483648) (hb : b < 2147483648) : nI a < nI b ↔ a < b := nI_ltI (by omega) (by omega)
theorem i_le {a b : Nat} (ha : a < 2147483648) (hb : b < 2147483648) : nI a ≤ nI b ↔ a ≤ b := nI_leI (by omega) (by omega)
theorem i_cl {a : Nat} (ha : a < 2147483648) : (nI a).toNatClampNeg = a := nI_clamp (by omega)
theorem wL (n : Nat) (h : n < 2147483648) : (nI n).toInt64 = Int64.ofNat n := nI_l (by omega)
/-- in(v, 0, n) for an int v -/
theorem f_in_nz {v : Int32} {a b : Nat} (ha : a < 2147483648) (hb : b < 2147483648) : (¬ f_in v.toInt64 (Int64.ofNat a) (Int64.ofNat b) = 0) ↔ (nI a ≤ v ∧ v ≤ nI b) := by
  rw [← wL a ha, ← wL b hb, f_in_I]
  by_cases c : nI a ≤ v ∧ v ≤ nI b
  · rw [if_pos c]; exact ⟨fun _ => c, fun _ => by decide⟩
  · rw [if_neg c]; exact ⟨fun z => absurd rfl z, fun z => absurd z c⟩
def cT (h : mm_H) (tl : Nat) (tp : Nat → Nat) : Prop := tl ≤ 200 ∧ h_oi h 385 17 = nI tl ∧ ∀ i, i < tl → tp i < 256 ∧ h_ai h 18 i = (nI (tp i)).toInt8.toInt32
def mT (h : mm_H) (tl : Nat) (tp : Nat → Nat) : Prop := tl ≤ 200 ∧ h_oi h 577 44 = nI tl ∧ ∀ i, i < tl → tp i < 256 ∧ h_ai h 45 i = nI (tp i)
def cD (h : mm_H) (dy : Nat) : Prop := dy ≤ 2000 ∧ h_oi h 521 16 = nI dy
def mD (h : mm_H) (dy : Nat) : Prop := dy ≤ 2000 ∧ h_oi h 588 44 = nI dy
def cE (h : mm_H) (ft : Int32) : Prop := h_oi h 522 16 = ft
def mE (h : mm_H) (ft : Int32) : Prop := h_oi h 582 44 = ft
section GR
variable {h h' : mm_H} {gs : List (Nat × Nat)} {as : List Nat} {tl : Nat} {tp : Nat → Nat} {tn : Nat} {td : Nat → Nat} {tv : Nat → Nat → Option Nat} {dy : Nat} {ft : Int32}
theorem cT.fx (H : cT h tl tp) (f : fx h h' gs as) (n1 : (385, 17) ∉ gs) (n2 : 18 ∉ as) : cT h' tl tp := by
  unfold cT at H ⊢
  rw [f.oi 385 17 (by decide) n1, f.ai 18 (by decide) n2]
  exact H
theorem mT.fx (H : mT h tl tp) (f : fx h h' gs as) (n1 : (577, 44) ∉ gs) (n2 : 45 ∉ as) : mT h' tl tp := by
  unfold mT at H ⊢
  rw [f.oi 577 44 (by decide) n1, f.ai 45 (by decide) n2]
  exact H
theorem cD.fx (H : cD h dy) (f : fx h h' gs as) (n1 : (521, 16) ∉ gs) : cD h' dy := by
  unfold cD at H ⊢
  rw [f.oi 521 16 (by decide) n1]
  exact H
theorem mD.fx (H : mD h dy) (f : fx h h' gs as) (n1 : (588, 44) ∉ gs) : mD h' dy := by
  unfold mD at H ⊢
  rw [f.oi 588 44 (by decide) n1]
  exact H
theorem cE.fx (H : cE h ft) (f : fx h h' gs as) (n1 : (522, 16) ∉ gs) : cE h' ft := by
  unfold cE at H ⊢
  rw [f.oi 522 16 (by decide) n1]
  exact H
theorem mE.fx (H : mE h ft) (f : fx h h' gs as) (n1 : (582, 44) ∉ gs) : mE h' ft := by
  unfold mE at H ⊢
  rw [f.oi 582 44 (by decide) n1]
  exact H
theorem cX.fx (H : cX h tn td tv) (f : fx h h' gs as) (n1 : (66, 21) ∉ gs) (n2 : 22 ∉ as) (n3 : ∀ i, i < 6 → 24 + i ∉ as) : cX h' tn td tv := by
  obtain ⟨h1, h2, h3⟩ := H
  refine ⟨h1, by rw [f.oi 66 21 (by decide) n1]; exact h2, fun i hi => ?_⟩
  have h6 := h1.1
  rw [f.ai 22 (by decide) n2, f.ai (24 + i) (by omega) (n3 i (by omega))]
  exact h3 i hi
theorem mX.fx (H : mX h tn td tv) (f : fx h h' gs as) (n1 : (585, 44) ∉ gs) (n2 : 47 ∉ as) (n3 : 48 ∉ as) : mX h' tn td tv := by
  unfold mX at H ⊢
  rw [f.oi 585 44 (by decide) n1, f.ai 47 (by decide) n2, f.ai 48 (by decide) n3]
  exact H
end GR
/-- end(n): the answer, the new length -/
def a_end (tl : Nat) (n : Int32) : Int32 × Nat := if 0 ≤ n ∧ n ≤ nI tl then (nI tl, n.toNatClampNeg) else (-1, tl)
theorem le0 {x : Int32} : (0 ≤ x) ↔ ¬ x < 0 := by
  rw [fa_le, fa_lt]
  omega
theorem c_end {h : mm_H} {Q : Option Value → mm_H → Prop} (sh : s_h h) {tl : Nat} {tp : Nat → Nat} (H : cT h tl tp) (n : Int32) (k : ∀ h', fx h h' [(385, 17)] [] → dn h h' → cT h' (a_end tl n).2 tp → Q (some (.int (a_end tl n).1)) h') : w_c 0 63 [.ref 16, .int n] h Q := by
  obtain ⟨h1, h2, h3⟩ := id H
  unfold a_end at k
  refine t_X8_end_0 sh n ⟨fun c => ?_, fun c => ?_⟩
  · rw [if_neg (fun z => (le0.mp z.1) c)] at k
    exact k h (fx.rf _ _ _) (dn.rf _) H
  · rw [h2]
    refine ⟨fun c2 => ?_, fun c2 => ?_⟩
    · rw [if_pos ⟨le0.mpr c, c2⟩] at k
      refine k _ ((fx.rf _ _ _).sI _ (by decide)) ((dn.rf _).sI _ (by decide)) ?_
      obtain ⟨j, hj, rfl⟩ := nat_of c
      rw [i_le hj (by omega)] at c2
      refine ⟨?_, ?_, fun i hi => ?_⟩
      · show (nI j).toNatClampNeg ≤ 200
        rw [i_cl hj]; omega
      · show nI j = nI (nI j).toNatClampNeg
        rw [i_cl hj]
      · have hi : i < (nI j).toNatClampNeg := hi
        rw [i_cl hj] at hi
        exact h3 i (by omega)
    · rw [if_neg (fun z => c2 z.2)] at k
      exact k h (fx.rf _ _ _) (dn.rf _) H
theorem m_end {h : mm_H} {Q : Option Value → mm_H → Prop} (sh : s_h h) {tl : Nat} {tp : Nat → Nat} (H : mT h tl tp) (n : Int32) (k : ∀ h', fx h h' [(577, 44)] [] → dn h h' → mT h' (a_end tl n).2 tp → Q (some (.int (a_end tl n).1)) h') : w_c 1 105 [.ref 44, .int n] h Q := by
  obtain ⟨h1, h2, h3⟩ := id H
  unfold a_end at k
  refine t_X9_end_0 sh n ?_
  rw [h2, wL tl (by omega)]
  refine ⟨fun c => ?_, fun c => ?_⟩
  · rw [f_in_nz (by decide) (by omega)] at c
    have c : 0 ≤ n ∧ n ≤ nI tl := c
    rw [if_pos c] at k
    have c0 : ¬ n < 0 := le0.mp c.1
    refine k _ ((fx.rf _ _ _).sI _ (by decide)) ((dn.rf _).sI _ (by decide)) ?_
    obtain ⟨j, hj, rfl⟩ := nat_of c0
    have c2 := c.2
    rw [i_le hj (by omega)] at c2
    refine ⟨?_, ?_, fun i hi => ?_⟩
    · show (nI j).toNatClampNeg ≤ 200
      rw [i_cl hj]; omega
    · show nI j = nI (nI j).toNatClampNeg
      rw [i_cl hj]
    · have hi : i < (nI j).toNatClampNeg := hi
      rw [i_cl hj] at hi
      exact h3 i (by omega)
  · have c1 : ¬ (0 ≤ n ∧ n ≤ nI tl) := fun z => by
      have := (f_in_nz (v := n) (a := 0) (b := tl) (by decide) (by omega)).mpr z
      exact this c
    rw [if_neg c1] at k
    exact k h (fx.rf _ _ _) (dn.rf _) H
theorem c_fault {h : mm_H} {Q : Option Value → mm_H → Prop} (sh : s_h h) {ft : Int32} (H : cE h ft) (k : Q (some (.int ft)) h) : w_c 0 65 [.ref 16] h Q := t_X8_fault_0 sh (by rw [show h_oi h 522 16 = ft from H]; exact k)
theorem m_fault {h : mm_H} {Q : Option Value → mm_H → Prop} (sh : s_h h) {ft : Int32} (H : mE h ft) (k : Q (some (.int ft)) h) : w_c 0 113 [.ref 44] h Q := t_X9_fault_0 sh (by rw [show h_oi h 582 44 = ft from H]; exact k)
/-- rule(day, what) -/
def a_rule (tn : Nat) (td : Nat → Nat) (tv : Nat → Nat → Option Nat) (d w : Int32) : Int32 := if (0 ≤ d ∧ d ≤ 2000) ∧ (0 ≤ w ∧ w ≤ 5) then (if w = 5 then oN (tB td d.toNatClampNeg tn) else tL tn td tv d.toNatClampNeg w.toNatClampNeg) else -1
theorem c_rule {h : mm_H} {Q : Option Value → mm_H → Prop} (sh : s_h h) {tn : Nat} {td : Nat → Nat} {tv : Nat → Nat → Option Nat} (H : cX h tn td tv) (d w : Int32) (k : Q (some (.int (a_rule tn td tv d w))) h) : w_c 2 67 [.ref 16, .int d, .int w] h Q := by
  unfold a_rule at k
  refine t_X8_rule_0 sh d w ⟨fun c => ?_, fun c => ⟨fun c2 => ?_, fun c2 => ⟨fun c3 => ?_, fun c3 => ⟨fun c4 => ?_, fun c4 => ?_⟩⟩⟩⟩
  · rw [if_neg (fun z => (le0.mp z.1.1) c)] at k; exact k
  · rw [if_neg (fun z => by have := (fa_le _ _).mp z.1.2; have := (fa_lt _ _).mp c2; omega)] at k; exact k
  · rw [if_neg (fun z => (le0.mp z.2.1) c3)] at k; exact k
  · have hd : 0 ≤ d ∧ d ≤ 2000 := ⟨le0.mpr c, fa_of_nlt c2⟩
    rw [if_pos ⟨hd, le0.mpr c3, c4⟩] at k
    obtain ⟨j, hj, rfl⟩ := nat_of c
    obtain ⟨i, hi, rfl⟩ := nat_of c3
    have h5 : i ≤ 5 := (i_le hi (by decide)).mp c4
    rw [i_cl hj, i_cl hi] at k
    refine ⟨fun c5 => ?_, fun c5 => ?_⟩
    · rw [if_neg c5] at k
      have hi5 : i ≠ 5 := fun z => c5 (by rw [z]; rfl)
      exact sp_lawC sh H hj (by omega) ⟨_, rfl, sh, k⟩
    · rw [if_pos c5] at k
      exact (sp_textOfC sh H hj ⟨_, rfl, sh, k⟩)
  · rw [if_neg (fun z => c4 z.2.2)] at k; exact k
theorem m_rule {h : mm_H} {Q : Option Value → mm_H → Prop} (sh : s_h h) {tn : Nat} {td : Nat → Nat} {tv : Nat → Nat → Option Nat} (H : mX h tn td tv) (d w : Int32) (k : Q (some (.int (a_rule tn td tv d w))) h) : w_c 2 117 [.ref 44, .int d, .int w] h Q := by
  unfold a_rule at k
  refine t_X9_rule_0 sh d w ⟨fun c => ?_, fun c => ?_⟩
  · rw [if_neg (fun z => ((f_in_nz (by decide) (by decide)).mpr z.1) c)] at k; exact k
  · have hd := (f_in_nz (by decide) (by decide)).mp c
    refine ⟨fun c2 => ?_, fun c2 => ?_⟩
    · have hw := (f_in_nz (by decide) (by decide)).mp c2
      rw [if_pos ⟨hd, hw⟩] at k
      obtain ⟨j, hj, rfl⟩ := nat_of (le0.mp hd.1)
      obtain ⟨i, hi, rfl⟩ := nat_of (le0.mp hw.1)
      have h5 : i ≤ 5 := (i_le hi (by decide)).mp hw.2
      rw [i_cl hj, i_cl hi] at k
      refine ⟨fun c5 => ?_, fun c5 => ?_⟩
      · rw [if_neg c5] at k
        have hi5 : i ≠ 5 := fun z => c5 (by rw [z]; rfl)
        exact sp_lawM sh H hj (by omega) ⟨_, rfl, sh, k⟩
      · rw [if_pos c5] at k
        exact (sp_textOfM sh H hj ⟨_, rfl, sh, k⟩)
    · rw [if_neg (fun z => ((f_in_nz (by decide) (by decide)).mpr z.2) c2)] at k; exact k
/-- unwind() -/
def a_unw (tn : Nat) (td : Nat → Nat) (dy : Nat) : Int32 × Nat := if tn = 0 then (-4, tn) else if td (tn - 1) ≤ dy then (-2, tn) else (nI (tn - 1), tn - 1)
theorem xC.less {tn : Nat} {td : Nat → Nat} {tv : Nat → Nat → Option Nat} (H : xC tn td tv) : xC (tn - 1) td tv := ⟨by have := H.1; omega, fun i hi => H.2 i (by omega)⟩
theorem c_unw {h : mm_H} {Q : Option Value → mm_H → Prop} (sh : s_h h) {tn : Nat} {td : Nat → Nat} {tv : Nat → Nat → Option Nat} {dy : Nat} (H : cX h tn td tv) (D : cD h dy) (k : ∀ h', fx h h' [(66, 21)] [] → dn h h' → cX h' (a_unw tn td dy).2 td tv → Q (some (.int (a_unw tn td dy).1)) h') : w_c 1 66 [.ref 16] h Q := by
  obtain ⟨h1, h2, h3⟩ := id H
  have h6 := h1.1
  unfold a_unw at k
  refine t_X8_unwind_0 sh ?_
  rw [h2]
  refine ⟨fun c => ?_, fun c => ?_⟩
  · have c : tn ≠ 0 := fun z => c (by rw [z]; rfl)
    rw [if_neg c] at k
    refine t_X1_latestDay_0 sh ?_
    have e1 : nI tn - 1 = nI (tn - 1) := by
      show nI tn - nI 1 = _
      rw [pk_sub (by omega)]
    have e2 := (h3 (tn - 1) (by omega)).1
    have b2 := (h1.2 (tn - 1) (by omega)).1
    rw [h2]
    refine ⟨fun c2 => ?_, fun _ => ?_⟩
    · have : nI tn ≤ nI 0 := c2
      rw [i_le (by omega) (by decide)] at this
      omega
    · rw [e1, i_cl (by omega), e2]
      refine ⟨vp_in_nI (by omega) (by decide), _, rfl, sh, ?_⟩
      rw [D.2]
      have := D.1
      refine ⟨fun c3 => ?_, fun c3 => ?_⟩
      · rw [i_lt (by omega) (by omega)] at c3
        rw [if_neg (by omega)] at k
        exact k _ ((fx.rf _ _ _).sI _ (by decide)) ((dn.rf _).sI _ (by decide)) ⟨h1.less, rfl, fun i hi => h3 i (by omega)⟩
      · rw [i_lt (by omega) (by omega)] at c3
        rw [if_pos (by omega)] at k
        exact k h (fx.rf _ _ _) (dn.rf _) H
  · have c : tn = 0 := (nI_eqI (by omega) (by decide)).mp c
    rw [if_pos c] at k
    exact k h (fx.rf _ _ _) (dn.rf _) H
theorem m_unw {h : mm_H} {Q : Option Value → mm_H → Prop} (sh : s_h h) {tn : Nat} {td : Nat → Nat} {tv : Nat → Nat → Option Nat} {dy : Nat} (H : mX h tn td tv) (D : mD h dy) (k : ∀ h', fx h h' [(585, 44)] [] → dn h h' → mX h' (a_unw tn td dy).2 td tv → Q (some (.int (a_unw tn td dy).1)) h') : w_c 1 114 [.ref 44] h Q := by
  obtain ⟨h1, h2, h3⟩ := id H
  have h6 := h1.1
  unfold a_unw at k
  refine t_X9_unwind_0 sh ?_
  rw [h2]
  refine ⟨fun c => ?_, fun c => ?_⟩
  · have c : tn ≠ 0 := fun z => c (by rw [z]; rfl)
    rw [if_neg c] at k
    have e1 : nI tn - 1 = nI (tn - 1) := by
      show nI tn - nI 1 = _
      rw [pk_sub (by omega)]
    have e2 := (h3 (tn - 1) (by omega)).1
    have b2 := (h1.2 (tn - 1) (by omega)).1
    rw [e1, i_cl (by omega), e2, D.2]
    have := D.1
    refine ⟨vp_in_nI (by omega) (by decide), fun c3 => ?_, fun c3 => ?_⟩
    · rw [i_lt (by omega) (by omega)] at c3
      rw [if_neg (by omega)] at k
      exact k _ ((fx.rf _ _ _).sI _ (by decide)) ((dn.rf _).sI _ (by decide)) ⟨h1.less, rfl, fun i hi => h3 i (by omega)⟩
    · rw [i_lt (by omega) (by omega)] at c3
      rw [if_pos (by omega)] at k
      exact k h (fx.rf _ _ _) (dn.rf _) H
  · have c : tn = 0 := (nI_eqI (by omega) (by decide)).mp c
    rw [if_pos c] at k
    exact k h (fx.rf _ _ _) (dn.rf _) H
end
section
/-! rows on bits, shifts and unsigned numbers, to paste: each family out of a closed proof of our own, whole with what it rests on; each by itself clean at Lean in its own claim (generation 39, form 5). Take a family whole -/
/-! ===== Int32 by its bits: bt x i ===== -/
def bt (x : Int32) (i : Nat) : Bool := x.toBitVec.getLsbD i
theorem b_ext {x y : Int32} (h : ∀ i, i < 32 → bt x i = bt y i) : x = y := Int32.toBitVec_inj.mp (BitVec.eq_of_getLsbD_eq (fun i hi => h i hi))
theorem b_or (x y : Int32) (i : Nat) : bt (x ||| y) i = (bt x i || bt y i) := by unfold bt; rw [Int32.toBitVec_or, BitVec.getLsbD_or]
theorem b_and (x y : Int32) (i : Nat) : bt (x &&& y) i = (bt x i && bt y i) := by unfold bt; rw [Int32.toBitVec_and, BitVec.getLsbD_and]
theorem b_xor (x y : Int32) (i : Nat) : bt (x ^^^ y) i = (bt x i ^^ bt y i) := by unfold bt; rw [Int32.toBitVec_xor, BitVec.getLsbD_xor]
theorem b_big {x : Int32} {i : Nat} (h : 32 ≤ i) : bt x i = false := BitVec.getLsbD_of_ge _ _ h
theorem b_255 (i : Nat) : bt 255 i = decide (i < 8) := by
  rcases Nat.lt_or_ge i 32 with h | h
  · exact (by decide +kernel : ∀ i, i < 32 → bt 255 i = decide (i < 8)) i h
  · rw [b_big h, decide_eq_false (by omega)]
theorem b_65535 (i : Nat) : bt 65535 i = decide (i < 16) := by
  rcases Nat.lt_or_ge i 32 with h | h
  · exact (by decide +kernel : ∀ i, i < 32 → bt 65535 i = decide (i < 16)) i h
  · rw [b_big h, decide_eq_false (by omega)]
theorem b_m1 : ∀ i, i < 32 → bt (-1) i = true := by decide +kernel
theorem b_0 (i : Nat) : bt 0 i = false := BitVec.getLsbD_zero
theorem s_l : ∀ n, n < 32 → ((nI n &&& 31).toBitVec.smod 32).toNat = n := by decide +kernel
theorem s_u : ∀ n, n < 32 → (((nI n).toUInt32 &&& Int32.toUInt32 31).toBitVec % 32).toNat = n := by decide +kernel
theorem b_shl (n : Nat) (hn : n < 32) (x : Int32) {i : Nat} (hi : i < 32) : bt (x <<< (nI n &&& 31)) i = (decide (n ≤ i) && bt x (i - n)) := by
  unfold bt
  rw [Int32.toBitVec_shiftLeft]
  show (x.toBitVec <<< ((nI n &&& 31).toBitVec.smod 32).toNat).getLsbD i = _
  rw [s_l n hn, BitVec.getLsbD_shiftLeft]
  rcases Nat.lt_or_ge i n with h | h
  · simp [h, Nat.not_le.mpr h]
  · simp [hi, h, Nat.not_lt.mpr h]
theorem b_ushr (n : Nat) (hn : n < 32) (x : Int32) (i : Nat) : bt ((x.toUInt32 >>> ((nI n).toUInt32 &&& Int32.toUInt32 31)).toInt32) i = bt x (n + i) := by
  show (x.toUInt32 >>> ((nI n).toUInt32 &&& Int32.toUInt32 31)).toBitVec.getLsbD i = x.toUInt32.toBitVec.getLsbD (n + i)
  rw [UInt32.toBitVec_shiftRight]
  show (x.toUInt32.toBitVec >>> (((nI n).toUInt32 &&& Int32.toUInt32 31).toBitVec % 32).toNat).getLsbD i = _
  rw [s_u n hn, BitVec.getLsbD_ushiftRight]
theorem b_sshr (n : Nat) (hn : n < 32) (x : Int32) {i : Nat} (hi : i < 32) : bt (x >>> (nI n &&& 31)) i = if n + i < 32 then bt x (n + i) else bt x 31 := by
  unfold bt
  rw [Int32.toBitVec_shiftRight]
  show (x.toBitVec.sshiftRight ((nI n &&& 31).toBitVec.smod 32).toNat).getLsbD i = _
  rw [s_l n hn, BitVec.getLsbD_sshiftRight, BitVec.msb_eq_getLsbD_last]
  simp [hi]
theorem b_shl8 (x : Int32) {i : Nat} (hi : i < 32) : bt (x <<< ((8 : Int32) &&& 31)) i = (decide (8 ≤ i) && bt x (i - 8)) := b_shl 8 (by omega) x hi
theorem b_shl16 (x : Int32) {i : Nat} (hi : i < 32) : bt (x <<< ((16 : Int32) &&& 31)) i = (decide (16 ≤ i) && bt x (i - 16)) := b_shl 16 (by omega) x hi
theorem b_shl24 (x : Int32) {i : Nat} (hi : i < 32) : bt (x <<< ((24 : Int32) &&& 31)) i = (decide (24 ≤ i) && bt x (i - 24)) := b_shl 24 (by omega) x hi
theorem b_sshr8 (x : Int32) {i : Nat} (hi : i < 32) : bt (x >>> ((8 : Int32) &&& 31)) i = if 8 + i < 32 then bt x (8 + i) else bt x 31 := b_sshr 8 (by omega) x hi
/-! ===== nI under and, xor, >>>, one bit, 65535 ===== -/
theorem nx_and (a b : Nat) : nI a &&& nI b = nI (a &&& b) := by
  apply Int32.toBitVec_inj.1
  show BitVec.ofNat 32 a &&& BitVec.ofNat 32 b = BitVec.ofNat 32 (a &&& b)
  apply BitVec.eq_of_getLsbD_eq
  intro i hi
  simp [hi]
theorem nx_xor (a b : Nat) : nI a ^^^ nI b = nI (a ^^^ b) := by
  apply Int32.toBitVec_inj.1
  show BitVec.ofNat 32 a ^^^ BitVec.ofNat 32 b = BitVec.ofNat 32 (a ^^^ b)
  apply BitVec.eq_of_getLsbD_eq
  intro i hi
  simp [hi]
theorem nx_cnt : ∀ j : Fin 32, (UInt32.ofNat j.val &&& Int32.toUInt32 31).toNat % 32 = j.val := by decide +kernel
theorem nx_ush {k j : Nat} (hk : k < 65536) (hj : j < 32) : ((nI k).toUInt32 >>> ((nI j).toUInt32 &&& Int32.toUInt32 31)).toInt32 = nI (k >>> j) := by
  have hs : k >>> j ≤ k := by
    rw [Nat.shiftRight_eq_div_pow]
    exact Nat.div_le_self _ _
  have e2 : UInt32.ofNat k >>> (UInt32.ofNat j &&& Int32.toUInt32 31) = UInt32.ofNat (k >>> j) := by
    apply UInt32.toNat_inj.1
    have h1 : (UInt32.ofNat k).toNat = k := Nat.mod_eq_of_lt (by omega)
    have h2 : (UInt32.ofNat (k >>> j)).toNat = k >>> j := Nat.mod_eq_of_lt (by omega)
    rw [UInt32.toNat_shiftRight, nx_cnt ⟨j, hj⟩, h1, h2]
  show (UInt32.ofNat k >>> (UInt32.ofNat j &&& Int32.toUInt32 31)).toInt32 = _
  rw [e2]
  rfl
theorem nx_bit {k j : Nat} (hk : k < 65536) (hj : j < 16) : (((nI k).toUInt32 >>> ((nI j).toUInt32 &&& Int32.toUInt32 31)).toInt32 &&& 1) = 0 ↔ k.testBit j = false := by
  rw [nx_ush hk (by omega)]
  show nI (k >>> j) &&& nI 1 = 0 ↔ _
  rw [nx_and, Nat.and_one_is_mod, ← nI_0, nI_eq (by omega) (by omega), Nat.testBit_eq_decide_div_mod_eq, Nat.shiftRight_eq_div_pow, decide_eq_false_iff_not]
  generalize k / 2 ^ j = z
  omega
theorem nx_mod (k : Nat) : nI k &&& 65535 = nI (k % 65536) := by
  show nI k &&& nI 65535 = _
  rw [nx_and, show (65535 : Nat) = 2 ^ 16 - 1 from rfl, Nat.and_two_pow_sub_one_eq_mod]
theorem nx_m16 {k : Nat} (h : k < 65536) : nI k &&& 65535 = nI k := by rw [nx_mod, Nat.mod_eq_of_lt h]
theorem nx_mask (x : Int32) : ∃ k, k < 65536 ∧ x &&& 65535 = nI k := by
  have e : x = nI x.toBitVec.toNat := by
    apply Int32.toBitVec_inj.1
    show x.toBitVec = BitVec.ofNat 32 x.toBitVec.toNat
    simp
  refine ⟨x.toBitVec.toNat % 65536, Nat.mod_lt _ (by omega), ?_⟩
  rw [← nx_mod, ← e]
/-! ===== Int32 as a set of bits: test, set ===== -/
def nf_M (m : Int32) : Nat := 4294967296 - m.toBitVec.toNat
theorem nf_sh : ∀ l, l < 32 → ((1 : Int32) <<< (nI l &&& 31)).toBitVec = BitVec.twoPow 32 l := by decide +kernel
theorem nf_sl : ∀ l, l < 32 → (((nI l).toUInt32 &&& Int32.toUInt32 31).toBitVec % 32).toNat = l := by decide +kernel
theorem nf_tp : ∀ l, l < 32 → BitVec.twoPow 32 l ≠ 0#32 := by decide +kernel
theorem nf_bit (m : Int32) (l : Nat) (hl : l < 32) : ((m.toUInt32 >>> ((nI l).toUInt32 &&& Int32.toUInt32 31)).toInt32 &&& 1) = 0 ↔ (m &&& ((1 : Int32) <<< (nI l &&& 31))) = 0 := by
  have e : ((m.toUInt32 >>> ((nI l).toUInt32 &&& Int32.toUInt32 31)).toInt32).toBitVec = m.toBitVec >>> l := by
    show m.toBitVec >>> (((nI l).toUInt32 &&& Int32.toUInt32 31).toBitVec % 32) = m.toBitVec >>> l
    rw [BitVec.ushiftRight_eq', nf_sl l hl]
  rw [← Int32.toBitVec_inj, ← Int32.toBitVec_inj, Int32.toBitVec_and, Int32.toBitVec_and, nf_sh l hl, e, BitVec.and_twoPow]
  show (m.toBitVec >>> l &&& 1#32) = 0#32 ↔ _ = 0#32
  rw [BitVec.and_one_eq_setWidth_ofBool_getLsbD, BitVec.getLsbD_ushiftRight, Nat.add_zero]
  cases hb : m.toBitVec.getLsbD l
  · exact ⟨fun _ => by simp, fun _ => by decide⟩
  · exact ⟨fun z => absurd z (by decide), fun z => absurd ((if_pos rfl).symm.trans z) (nf_tp l hl)⟩
theorem nf_gr (m k : Int32) (h : m &&& k = 0) (hk : k ≠ 0) : nf_M (m ||| k) < nf_M m := by
  have hm := m.toBitVec.isLt
  have hm' := (m ||| k).toBitVec.isLt
  have h1 : m.toBitVec.toNat ≤ (m ||| k).toBitVec.toNat := by
    rw [Int32.toBitVec_or, BitVec.toNat_or]
    exact Nat.left_le_or
  have h2 : m.toBitVec.toNat ≠ (m ||| k).toBitVec.toNat := by
    intro e
    have e2 : m = m ||| k := Int32.toBitVec_inj.mp (BitVec.eq_of_toNat_eq e)
    apply hk
    apply Int32.toBitVec_inj.mp
    show k.toBitVec = 0#32
    apply BitVec.eq_of_getLsbD_eq
    intro i hi
    have a : m.toBitVec.getLsbD i = (m.toBitVec.getLsbD i || k.toBitVec.getLsbD i) := by rw [← BitVec.getLsbD_or, ← Int32.toBitVec_or, ← e2]
    have b : (m.toBitVec.getLsbD i && k.toBitVec.getLsbD i) = false := by
      rw [← BitVec.getLsbD_and, ← Int32.toBitVec_and, h]
      exact BitVec.getLsbD_zero
    rw [BitVec.getLsbD_zero]
    revert a b
    cases m.toBitVec.getLsbD i <;> cases k.toBitVec.getLsbD i <;> simp
  unfold nf_M
  omega
/-! ===== a byte read unsigned ===== -/
theorem bp_b (x : Int32) : x.toInt8.toInt32 &&& 255 = x &&& 255 := by
  apply Int32.toBitVec_inj.mp
  rw [Int32.toBitVec_and, Int32.toBitVec_and, Int8.toBitVec_toInt32, Int32.toBitVec_toInt8]
  apply BitVec.eq_of_getLsbD_eq
  intro i hi
  rw [BitVec.getLsbD_and, BitVec.getLsbD_and]
  have hm : ∀ i < 32, 8 ≤ i → (255 : Int32).toBitVec.getLsbD i = false := by decide
  rcases Nat.lt_or_ge i 8 with z | z
  · rw [BitVec.getLsbD_signExtend, BitVec.getLsbD_signExtend, if_pos z, if_pos hi]
    simp only [z, hi, decide_true, Bool.true_and]
  · rw [hm i hi z]; simp
/-! ===== the char cast and 65535 ===== -/
/-! ===== Int64 as a set of bits: test, set, clear ===== -/
theorem ts_nf {x : Bool} (h : ¬ x = false) : x = true := by cases x <;> first | rfl | exact absurd rfl h
theorem ts_nt {x : Bool} (h : ¬ x = true) : x = false := by cases x <;> first | rfl | exact absurd rfl h
theorem ts_bit {w : Int64} {s : UInt64} {j : Nat} (hj : j < 64) (hs : s.toNat = j) : ((w.toUInt64 >>> s).toInt64 &&& 1) = 0 ↔ w.toBitVec.getLsbD j = false := by
  have e : (w.toUInt64 >>> s).toInt64.toBitVec = w.toBitVec >>> j := by
    apply BitVec.eq_of_toNat_eq
    show (w.toUInt64 >>> s).toNat = _
    rw [UInt64.toNat_shiftRight, hs, Nat.mod_eq_of_lt hj, BitVec.toNat_ushiftRight]
    rfl
  rw [← Int64.toBitVec_inj, Int64.toBitVec_and, e]
  show w.toBitVec >>> j &&& 1#64 = 0#64 ↔ _
  constructor
  · intro h
    have t := congrArg (fun x => x.getLsbD 0) h
    simpa using t
  · intro h
    apply BitVec.eq_of_getLsbD_eq
    intro i hi
    cases i with
    | zero => simp [h]
    | succ i => simp
theorem ts_or {w m : Int64} {j : Nat} (hj : j < 64) (hm : m.toBitVec = BitVec.twoPow 64 j) : (w ||| m) = w ↔ w.toBitVec.getLsbD j = true := by
  rw [← Int64.toBitVec_inj, Int64.toBitVec_or, hm]
  constructor
  · intro h
    have t := congrArg (fun x => x.getLsbD j) h
    simp only [BitVec.getLsbD_or, BitVec.getLsbD_twoPow] at t
    simpa [hj] using t.symm
  · intro h
    apply BitVec.eq_of_getLsbD_eq
    intro i hi
    rw [BitVec.getLsbD_or, BitVec.getLsbD_twoPow]
    by_cases e : j = i
    · subst e; rw [h, Bool.true_or]
    · simp [e]
theorem ts_and {w m : Int64} {j : Nat} (hj : j < 64) (hm : m.toBitVec = BitVec.twoPow 64 j) : (w &&& (m ^^^ (-1))) = w ↔ w.toBitVec.getLsbD j = false := by
  have ha : (-1 : Int64).toBitVec = BitVec.allOnes 64 := by decide
  rw [← Int64.toBitVec_inj, Int64.toBitVec_and, Int64.toBitVec_xor, hm, ha]
  constructor
  · intro h
    have t := congrArg (fun x => x.getLsbD j) h
    simp only [BitVec.getLsbD_and, BitVec.getLsbD_xor, BitVec.getLsbD_twoPow, BitVec.getLsbD_allOnes] at t
    simpa [hj] using t.symm
  · intro h
    apply BitVec.eq_of_getLsbD_eq
    intro i hi
    rw [BitVec.getLsbD_and, BitVec.getLsbD_xor, BitVec.getLsbD_twoPow, BitVec.getLsbD_allOnes]
    by_cases e : j = i
    · subst e; rw [h, Bool.false_and]
    · simp [e, hi]
/-! ===== lN n to 2^64: shifts, and, or, masks, one bit ===== -/
theorem wb_tb (n : Nat) : (lN n).toBitVec = BitVec.ofNat 64 n := rfl
theorem wb_inj {a b : Int64} (h : a.toBitVec = b.toBitVec) : a = b := Int64.toBitVec_inj.mp h
theorem wb_tn {n : Nat} (h : n < 2 ^ 64) : (lN n).toBitVec.toNat = n := by rw [wb_tb, BitVec.toNat_ofNat, Nat.mod_eq_of_lt h]
theorem wb_of (x : Int64) : ∃ n, n < 2 ^ 64 ∧ x = lN n := ⟨x.toBitVec.toNat, x.toBitVec.isLt, wb_inj (by rw [wb_tb]; simp)⟩
theorem wb_of32 (x : Int32) : ∃ n, n < 2 ^ 32 ∧ x = nI n := ⟨x.toBitVec.toNat, x.toBitVec.isLt, Int32.toBitVec_inj.mp (by show _ = BitVec.ofNat 32 _; simp)⟩
theorem wb_c : ∀ k, k < 64 → ((nI k).toInt64 &&& 63) = lN k := by decide +kernel
theorem wb_cu : ∀ k, k < 64 → ((nI k).toInt64.toUInt64 &&& Int64.toUInt64 63) = UInt64.ofNat k := by decide +kernel
theorem wb_sm : ∀ k, k < 64 → (BitVec.ofNat 64 k).smod 64 = BitVec.ofNat 64 k := by decide +kernel
theorem wb_pw {a b : Nat} (h : a ≤ b) : 2 ^ b = 2 ^ a * 2 ^ (b - a) := by rw [← Nat.pow_add]; congr 1; omega
theorem wb_lt2 {a b : Nat} (h : a < b) : 2 ^ a < 2 ^ b := Nat.pow_lt_pow_right (by decide) h
theorem wb_mod (n : Nat) : lN n = lN (n % 2 ^ 64) := wb_inj (by rw [wb_tb, wb_tb]; apply BitVec.eq_of_toNat_eq; rw [BitVec.toNat_ofNat, BitVec.toNat_ofNat, Nat.mod_mod])
theorem wb_shr {n k : Nat} (hn : n < 2 ^ 64) (hk : k < 64) : ((lN n).toUInt64 >>> ((nI k).toInt64.toUInt64 &&& Int64.toUInt64 63)).toInt64 = lN (n / 2 ^ k) := by
  rw [wb_cu k hk]
  apply wb_inj
  apply BitVec.eq_of_toNat_eq
  show ((lN n).toUInt64 >>> UInt64.ofNat k).toNat = (BitVec.ofNat 64 _).toNat
  have h1 : (UInt64.ofNat k).toNat = k := by
    show (BitVec.ofNat 64 k).toNat = k
    rw [BitVec.toNat_ofNat, Nat.mod_eq_of_lt (by omega)]
  have h2 : (lN n).toUInt64.toNat = n := wb_tn hn
  rw [UInt64.toNat_shiftRight, h1, h2, Nat.mod_eq_of_lt hk, Nat.shiftRight_eq_div_pow, BitVec.toNat_ofNat, Nat.mod_eq_of_lt (Nat.lt_of_le_of_lt (Nat.div_le_self _ _) hn)]
theorem wb_shl (n : Nat) {k : Nat} (hk : k < 64) : lN n <<< ((nI k).toInt64 &&& 63) = lN (n * 2 ^ k) := by
  rw [wb_c k hk]
  apply wb_inj
  rw [Int64.toBitVec_shiftLeft, wb_tb, wb_tb, wb_tb, wb_sm k hk]
  apply BitVec.eq_of_toNat_eq
  rw [BitVec.shiftLeft_eq', BitVec.toNat_shiftLeft, BitVec.toNat_ofNat, BitVec.toNat_ofNat, BitVec.toNat_ofNat, Nat.mod_eq_of_lt (show k < 2 ^ 64 by omega), Nat.shiftLeft_eq, Nat.mul_mod, Nat.mod_mod, ← Nat.mul_mod]
theorem wb_and {a b : Nat} (ha : a < 2 ^ 64) (hb : b < 2 ^ 64) : lN a &&& lN b = lN (a &&& b) := by
  apply wb_inj
  rw [Int64.toBitVec_and, wb_tb, wb_tb, wb_tb]
  apply BitVec.eq_of_toNat_eq
  rw [BitVec.toNat_and, BitVec.toNat_ofNat, BitVec.toNat_ofNat, BitVec.toNat_ofNat, Nat.mod_eq_of_lt ha, Nat.mod_eq_of_lt hb, Nat.mod_eq_of_lt (Nat.and_lt_two_pow _ hb)]
theorem wb_or {a b : Nat} (ha : a < 2 ^ 64) (hb : b < 2 ^ 64) : lN a ||| lN b = lN (a ||| b) := by
  apply wb_inj
  rw [Int64.toBitVec_or, wb_tb, wb_tb, wb_tb]
  apply BitVec.eq_of_toNat_eq
  rw [BitVec.toNat_or, BitVec.toNat_ofNat, BitVec.toNat_ofNat, BitVec.toNat_ofNat, Nat.mod_eq_of_lt ha, Nat.mod_eq_of_lt hb, Nat.mod_eq_of_lt (Nat.or_lt_two_pow ha hb)]
theorem wb_mask {n k : Nat} (hn : n < 2 ^ 64) (hk : k < 64) : lN n &&& lN (2 ^ k - 1) = lN (n % 2 ^ k) := by
  rw [wb_and hn (by have := wb_lt2 hk; omega), Nat.and_two_pow_sub_one_eq_mod]
theorem wb_a1 {n : Nat} (hn : n < 2 ^ 64) : lN n &&& 1 = lN (n % 2) := wb_mask (k := 1) hn (by decide)
theorem wb_bit {n k : Nat} (hn : n < 2 ^ 64) (hk : k < 64) : ((lN n).toUInt64 >>> ((nI k).toInt64.toUInt64 &&& Int64.toUInt64 63)).toInt64 &&& 1 = lN (n / 2 ^ k % 2) := by
  rw [wb_shr hn hk, wb_a1 (Nat.lt_of_le_of_lt (Nat.div_le_self _ _) hn)]
theorem wb_xor {q k : Nat} (hk : k < 63) (h : 2 ^ k ≤ q) (h2 : q < 2 ^ (k + 1)) : lN q ^^^ lN (2 ^ k) = lN (q - 2 ^ k) := by
  obtain ⟨r, rfl⟩ : ∃ r, q = 2 ^ k + r := ⟨q - 2 ^ k, by omega⟩
  have hr : r < 2 ^ k := by rw [Nat.pow_succ] at h2; omega
  have hx : (2 ^ k + r) ^^^ 2 ^ k = r := by
    apply Nat.eq_of_testBit_eq
    intro i
    rw [Nat.testBit_xor, Nat.testBit_two_pow]
    rcases Nat.lt_trichotomy i k with h | h | h
    · rw [Nat.testBit_two_pow_add_gt h]
      simp [show ¬ k = i by omega]
    · subst h
      rw [Nat.testBit_two_pow_add_eq]
      simp
    · have a1 : 2 ^ (k + 1) ≤ 2 ^ i := Nat.pow_le_pow_right (by decide) h
      rw [Nat.testBit_lt_two_pow (show 2 ^ k + r < 2 ^ i by omega), Nat.testBit_lt_two_pow (show r < 2 ^ i by omega)]
      simp [show ¬ k = i by omega]
  have b1 := wb_lt2 (show k + 1 < 64 by omega)
  have b2 := wb_lt2 (show k < 64 by omega)
  apply wb_inj
  rw [Int64.toBitVec_xor, wb_tb, wb_tb, wb_tb]
  apply BitVec.eq_of_toNat_eq
  rw [BitVec.toNat_xor, BitVec.toNat_ofNat, BitVec.toNat_ofNat, BitVec.toNat_ofNat, Nat.mod_eq_of_lt (by omega : 2 ^ k + r < 2 ^ 64), Nat.mod_eq_of_lt b2, hx, Nat.add_sub_cancel_left, Nat.mod_eq_of_lt (by omega)]
/-! ===== lN: masks, 'or' of parts that don't overlap is a sum ===== -/
theorem u_tn {n : Nat} (h : n < 2 ^ 64) : (UInt64.ofNat n).toNat = n := Nat.mod_eq_of_lt h
theorem g_and {a b c : Nat} (ha : a < 2 ^ 64) (hb : b < 2 ^ 64) (hc : a &&& b = c) : lN a &&& lN b = lN c := by
  subst hc
  have h : UInt64.ofNat a &&& UInt64.ofNat b = UInt64.ofNat (a &&& b) := UInt64.toNat_inj.mp (by rw [UInt64.toNat_and, u_tn ha, u_tn hb, u_tn (Nat.and_lt_two_pow a hb)])
  have h2 := congrArg UInt64.toInt64 h
  exact h2
theorem g_and1 {a : Nat} (ha : a < 2 ^ 64) : lN a &&& 1 = lN (a % 2) := g_and (b := 1) ha (by decide) (Nat.and_two_pow_sub_one_eq_mod a 1)
theorem g_mask {a s p : Nat} (hp : 2 ^ s = p) (hs : s < 64) (ha : a < 2 ^ 64) : lN a &&& lN (p - 1) = lN (a % p) := by
  subst hp
  have := Nat.pow_lt_pow_right (show 1 < 2 by decide) hs
  exact g_and ha (by omega) (Nat.and_two_pow_sub_one_eq_mod a s)
theorem g_or {k p a b : Nat} (hp : 2 ^ k = p) (ha : a < p) (h : b * p + a < 2 ^ 64) : lN (b * p) ||| lN a = lN (b * p + a) := by
  subst hp
  have h1 : b * 2 ^ k ||| a = b * 2 ^ k + a := by rw [← Nat.shiftLeft_eq, Nat.shiftLeft_add_eq_or_of_lt ha]
  have h3 : UInt64.ofNat (b * 2 ^ k) ||| UInt64.ofNat a = UInt64.ofNat (b * 2 ^ k + a) := UInt64.toNat_inj.mp (by rw [UInt64.toNat_or, u_tn (by omega), u_tn (by omega), u_tn h, h1])
  have h2 := congrArg UInt64.toInt64 h3
  exact h2
theorem g_or' {k p a b : Nat} (hp : 2 ^ k = p) (ha : a < p) (h : a + b * p < 2 ^ 64) : lN a ||| lN (b * p) = lN (a + b * p) := by
  rw [Int64.or_comm, g_or hp ha (by omega), Nat.add_comm]
theorem g_ushr {a k p : Nat} {y : UInt64} (hy : y = UInt64.ofNat k) (hk : k < 64) (hp : 2 ^ k = p) (ha : a < 2 ^ 64) : ((lN a).toUInt64 >>> y).toInt64 = lN (a / p) := by
  subst hy hp
  have h : UInt64.ofNat a >>> UInt64.ofNat k = UInt64.ofNat (a / 2 ^ k) := UInt64.toNat_inj.mp (by rw [UInt64.toNat_shiftRight, u_tn ha, u_tn (by omega), u_tn (Nat.lt_of_le_of_lt (Nat.div_le_self _ _) ha), Nat.mod_eq_of_lt hk, Nat.shiftRight_eq_div_pow])
  have h2 := congrArg UInt64.toInt64 h
  exact h2
theorem g_shl {a k p : Nat} {y : Int64} (hy : y.toBitVec.smod 64 = BitVec.ofNat 64 k) (hk : k < 64) (hp : 2 ^ k = p) (ha : a < 2 ^ 64) : lN a <<< y = lN (a * p) := by
  subst hp
  apply Int64.toBitVec_inj.mp
  rw [Int64.toBitVec_shiftLeft, hy]
  apply BitVec.eq_of_toNat_eq
  have hb : (lN a).toBitVec.toNat = a := Nat.mod_eq_of_lt ha
  have hk' : (BitVec.ofNat 64 k).toNat = k := Nat.mod_eq_of_lt (by omega)
  have h : ((lN a).toBitVec <<< BitVec.ofNat 64 k).toNat = (a * 2 ^ k) % 2 ^ 64 := by simp only [BitVec.shiftLeft_eq', BitVec.toNat_shiftLeft, hb, hk', Nat.shiftLeft_eq]
  exact h
/-! ===== lN to 2^62 under >> and >>> ===== -/
theorem pf_lI {a : Nat} (h : a < 2 ^ 63) : (lN a).toInt = (a : Int) := lg_ofNat_toInt h
theorem pf_shr {a d : Nat} {D : Int64} (hD : (D.toBitVec.smod 64).toNat = d) (h : a < 2 ^ 62) : lN a >>> D = lN (a / 2 ^ d) := by
  have hd : a / 2 ^ d ≤ a := Nat.div_le_self _ _
  apply Int64.toInt_inj.mp
  have e : (lN a >>> D).toInt = (lN a).toInt >>> d := by
    rw [← hD]
    exact BitVec.toInt_sshiftRight ..
  rw [e, Int.shiftRight_eq_div_pow, pf_lI (by omega), pf_lI (by omega)]
  rfl
theorem pf_ushr {a d : Nat} {D : UInt64} (hD : D.toNat % 64 = d) (h : a < 2 ^ 62) : ((lN a).toUInt64 >>> D).toInt64 = lN (a / 2 ^ d) := by
  have hd : a / 2 ^ d ≤ a := Nat.div_le_self _ _
  have e : (lN a).toUInt64 >>> D = UInt64.ofNat (a / 2 ^ d) := UInt64.toNat_inj.mp (by
    rw [UInt64.toNat_shiftRight, hD, Nat.shiftRight_eq_div_pow, UInt64.toNat_ofNat']
    show (UInt64.ofNat a).toNat / 2 ^ d = _
    rw [UInt64.toNat_ofNat', Nat.mod_eq_of_lt (by omega), Nat.mod_eq_of_lt (by omega)])
  rw [e]
  rfl
theorem pf_andw (x : Int64) : ∃ m, m < 2 ^ 32 ∧ x &&& 4294967295 = lN m := ⟨x.toBitVec.toNat % 2 ^ 32, Nat.mod_lt _ (by decide), Int64.toBitVec_inj.mp (BitVec.eq_of_toNat_eq (by
  show (x.toBitVec &&& 4294967295#64).toNat = (BitVec.ofNat 64 (x.toBitVec.toNat % 2 ^ 32)).toNat
  rw [BitVec.toNat_and, show (4294967295#64).toNat = 2 ^ 32 - 1 from by decide, Nat.and_two_pow_sub_one_eq_mod, BitVec.toNat_ofNat]
  omega))⟩
/-! ===== Int64 as an unsigned number: uN x ===== -/
def uN (x : Int64) : Nat := x.toUInt64.toNat
theorem uN_lt (x : Int64) : uN x < 18446744073709551616 := x.toUInt64.toNat_lt
theorem uN_inj {x y : Int64} (h : uN x = uN y) : x = y := congrArg UInt64.toInt64 (UInt64.toNat_inj.mp h)
theorem uN_add (x y : Int64) : uN (x + y) = (uN x + uN y) % 18446744073709551616 := by
  show (x.toUInt64 + y.toUInt64).toNat = _
  exact UInt64.toNat_add _ _
theorem uN_mul (x y : Int64) : uN (x * y) = (uN x * uN y) % 18446744073709551616 := by
  show (x.toUInt64 * y.toUInt64).toNat = _
  exact UInt64.toNat_mul _ _
theorem uN_shl (x : Int64) : uN (x <<< ((1 : Int32).toInt64 &&& 63)) = (2 * uN x) % 18446744073709551616 := by
  have h : (((1 : Int32).toInt64 &&& 63).toBitVec.smod 64).toNat = 1 := by decide
  show (x.toBitVec <<< (((1 : Int32).toInt64 &&& 63).toBitVec.smod 64).toNat).toNat = _
  rw [h, BitVec.toNat_shiftLeft, Nat.shiftLeft_eq, Nat.mul_comm]
  rfl
theorem uN_shr (x : Int64) (s : UInt64) : uN (x.toUInt64 >>> s).toInt64 = uN x / 2 ^ (s.toNat % 64) := by
  show (x.toUInt64 >>> s).toNat = _
  rw [UInt64.toNat_shiftRight, Nat.shiftRight_eq_div_pow]
  rfl
theorem uN_s32 (x : Int64) : uN (x.toUInt64 >>> ((32 : Int32).toInt64.toUInt64 &&& Int64.toUInt64 63)).toInt64 = uN x / 4294967296 := by
  have h : ((32 : Int32).toInt64.toUInt64 &&& Int64.toUInt64 63).toNat % 64 = 32 := by decide
  rw [uN_shr, h]
theorem uN_s63 (x : Int64) : uN (x.toUInt64 >>> ((63 : Int32).toInt64.toUInt64 &&& Int64.toUInt64 63)).toInt64 = uN x / 9223372036854775808 := by
  have h : ((63 : Int32).toInt64.toUInt64 &&& Int64.toUInt64 63).toNat % 64 = 63 := by decide
  rw [uN_shr, h]
theorem uN_lo (x : Int64) : uN (x &&& 4294967295) = uN x % 4294967296 := by
  show (x.toUInt64 &&& Int64.toUInt64 4294967295).toNat = _
  rw [UInt64.toNat_and]
  exact Nat.and_two_pow_sub_one_eq_mod _ 32
theorem uN_bit (x : Int64) : (x &&& 1) = 0 ↔ uN x % 2 = 0 := by
  have h : uN (x &&& 1) = uN x % 2 := by
    show (x.toUInt64 &&& Int64.toUInt64 1).toNat = _
    rw [UInt64.toNat_and]
    exact Nat.and_two_pow_sub_one_eq_mod _ 1
  rw [← h]
  exact ⟨fun z => by rw [z]; rfl, fun z => uN_inj (z.trans rfl)⟩
theorem uN_or {x y : Int64} (hy : uN y < 2) : uN ((x <<< ((1 : Int32).toInt64 &&& 63)) ||| y) = (2 * uN x) % 18446744073709551616 + uN y := by
  have h1 : uN ((x <<< ((1 : Int32).toInt64 &&& 63)) ||| y) = uN (x <<< ((1 : Int32).toInt64 &&& 63)) ||| uN y := UInt64.toNat_or _ _
  have h2 : (2 * uN x) % 18446744073709551616 = 2 ^ 1 * (uN x % 9223372036854775808) := by omega
  rw [h1, uN_shl, h2]
  exact (Nat.two_pow_add_eq_or_of_lt (i := 1) hy _).symm
theorem nat_xor {a : Nat} (h : a < 18446744073709551616) : a ^^^ 2 ^ 63 = (a + 9223372036854775808) % 18446744073709551616 := by
  have h1 : (a ^^^ 2 ^ 63) % 2 ^ 63 = a % 2 ^ 63 := by rw [Nat.xor_mod_two_pow, Nat.mod_self, Nat.xor_zero]
  have h2 : (a ^^^ 2 ^ 63) / 2 ^ 63 = (a / 2 ^ 63) ^^^ 1 := by rw [Nat.xor_div_two_pow, Nat.div_self (Nat.two_pow_pos 63)]
  have h3 : a / 2 ^ 63 = 0 ∨ a / 2 ^ 63 = 1 := by omega
  generalize a ^^^ 2 ^ 63 = t at h1 h2
  rcases h3 with h3 | h3
  · rw [h3] at h2
    have h2 : t / 2 ^ 63 = 1 := h2
    omega
  · rw [h3] at h2
    have h2 : t / 2 ^ 63 = 0 := h2
    omega
theorem uN_xor (x : Int64) : uN (x ^^^ (-9223372036854775808)) = (uN x + 9223372036854775808) % 18446744073709551616 := by
  rw [← nat_xor (uN_lt x)]
  exact UInt64.toNat_xor _ _
theorem uN_int (x : Int64) : x.toInt = if 2 * uN x < 18446744073709551616 then (uN x : Int) else (uN x : Int) - 18446744073709551616 := BitVec.toInt_eq_toNat_cond _
theorem uN_le (x y : Int64) : (x ^^^ (-9223372036854775808)) ≤ (y ^^^ (-9223372036854775808)) ↔ uN x ≤ uN y := by
  have hx := uN_lt x
  have hy := uN_lt y
  rw [Int64.le_iff_toInt_le, uN_int, uN_int, uN_xor, uN_xor]
  omega
theorem uN_sk (x : Int64) {k : Nat} (hk : k < 64) : uN (x.toUInt64 >>> ((nI k).toInt64.toUInt64 &&& Int64.toUInt64 63)).toInt64 = uN x / 2 ^ k := by
  have h : ((nI k).toInt64.toUInt64 &&& Int64.toUInt64 63).toNat % 64 = k := by
    rw [nI_l (by omega), UInt64.toNat_and]
    have e : (lN k).toUInt64.toNat = k % 2 ^ 64 := rfl
    have e2 : (Int64.toUInt64 63).toNat = 2 ^ 6 - 1 := by decide
    rw [e, e2, Nat.and_two_pow_sub_one_eq_mod]
    omega
  rw [uN_shr, h]
/-! ===== unsigned comparison by xor with the least ===== -/
theorem lN_bv (n : Nat) : (lN n).toBitVec = BitVec.ofNat 64 n := rfl
theorem lN_nat {n : Nat} (h : n < 2 ^ 64) : (lN n).toBitVec.toNat = n := by rw [lN_bv, BitVec.toNat_ofNat]; exact Nat.mod_eq_of_lt h
theorem lN_xor (a b : Nat) : lN a ^^^ lN b = lN (a ^^^ b) := by
  apply Int64.toBitVec_inj.mp; rw [Int64.toBitVec_xor, lN_bv, lN_bv, lN_bv]; apply BitVec.eq_of_getLsbD_eq; intro i hi; simp [BitVec.getLsbD_ofNat, Nat.testBit_xor, hi]
theorem lN_ti {m : Nat} (h : m < 2 ^ 64) : (lN m).toInt = if m < 2 ^ 63 then (m : Int) else (m : Int) - 2 ^ 64 := by
  have c := BitVec.toInt_eq_toNat_cond (lN m).toBitVec
  rw [lN_nat h] at c
  show (lN m).toBitVec.toInt = _
  rw [c]
  split <;> split <;> omega
theorem xor63 {x : Nat} (h : x < 2 ^ 63) : x ^^^ 2 ^ 63 = 2 ^ 63 + x := by
  apply Nat.eq_of_testBit_eq
  intro i
  rw [Nat.testBit_xor, Nat.testBit_two_pow]
  rcases Nat.lt_trichotomy i 63 with z | z | z
  · rw [Nat.testBit_two_pow_add_gt z, decide_eq_false (by omega)]; simp
  · subst z; rw [Nat.testBit_two_pow_add_eq]; simp
  · have hp : 2 ^ 64 ≤ 2 ^ i := Nat.pow_le_pow_right (by decide) z
    rw [Nat.testBit_lt_two_pow (show x < 2 ^ i by omega), Nat.testBit_lt_two_pow (show 2 ^ 63 + x < 2 ^ i by omega), decide_eq_false (by omega)]; rfl
theorem xorS {a : Nat} (h : a < 2 ^ 64) : (lN a ^^^ (-9223372036854775808)).toInt = (a : Int) - 2 ^ 63 := by
  rw [show (-9223372036854775808 : Int64) = lN (2 ^ 63) from by decide +kernel, lN_xor]
  rcases Nat.lt_or_ge a (2 ^ 63) with z | z
  · rw [xor63 z, lN_ti (by omega), if_neg (by omega)]; omega
  · obtain ⟨x, rfl⟩ : ∃ x, a = 2 ^ 63 + x := ⟨a - 2 ^ 63, by omega⟩
    rw [← xor63 (by omega), Nat.xor_assoc, Nat.xor_self, Nat.xor_zero, lN_ti (by omega), if_pos (by omega), xor63 (by omega)]; omega
theorem ultL {a b : Nat} (ha : a < 2 ^ 64) (hb : b < 2 ^ 64) : ((lN b ^^^ (-9223372036854775808)) ≤ (lN a ^^^ (-9223372036854775808))) ↔ b ≤ a := by
  rw [Int64.le_iff_toInt_le, xorS ha, xorS hb]; omega
/-! ===== Int64 masks of n low bits ===== -/
theorem cr_bits (W U M : BitVec 64) : ((W &&& U) &&& (U &&& (M ^^^ BitVec.allOnes 64))) = 0#64 ↔ (W &&& U) &&& M = W &&& U := by
  constructor
  · intro h
    apply BitVec.eq_of_getLsbD_eq
    intro i hi
    have e := congrArg (fun x => BitVec.getLsbD x i) h
    simp only [BitVec.getLsbD_and, BitVec.getLsbD_xor, BitVec.getLsbD_allOnes, BitVec.getLsbD_zero, hi, decide_true] at e ⊢
    revert e
    cases W.getLsbD i <;> cases U.getLsbD i <;> cases M.getLsbD i <;> decide
  · intro h
    apply BitVec.eq_of_getLsbD_eq
    intro i hi
    have e := congrArg (fun x => BitVec.getLsbD x i) h
    simp only [BitVec.getLsbD_and, BitVec.getLsbD_xor, BitVec.getLsbD_allOnes, BitVec.getLsbD_zero, hi, decide_true] at e ⊢
    revert e
    cases W.getLsbD i <;> cases U.getLsbD i <;> cases M.getLsbD i <;> decide
theorem cr_mask (w U m : Int64) (n : Nat) (hm : m.toBitVec.toNat = 2 ^ n - 1) : ((w &&& U) &&& (U &&& (m ^^^ (-1)))) = 0 ↔ (w &&& U).toBitVec.toNat < 2 ^ n := by
  have e0 : (-1 : Int64).toBitVec = BitVec.allOnes 64 := by decide
  have z0 : (0 : Int64).toBitVec = 0#64 := by decide
  rw [← Int64.toBitVec_inj, z0, Int64.toBitVec_and, Int64.toBitVec_and, Int64.toBitVec_and, Int64.toBitVec_xor, e0, cr_bits]
  generalize w.toBitVec &&& U.toBitVec = T
  rw [← BitVec.toNat_inj, BitVec.toNat_and, hm, Nat.and_two_pow_sub_one_eq_mod]
  constructor
  · intro h
    have t := Nat.mod_lt T.toNat (Nat.two_pow_pos n)
    rw [h] at t
    exact t
  · exact Nat.mod_eq_of_lt
theorem cr_shr (t : Int64) (x : UInt64) (n : Nat) (hx : x.toNat % 64 = n) : (t.toUInt64 >>> x).toInt64 = 0 ↔ t.toBitVec.toNat < 2 ^ n := by
  rw [← Int64.toBitVec_inj, ← BitVec.toNat_inj]
  show (t.toUInt64 >>> x).toNat = 0 ↔ t.toUInt64.toNat < 2 ^ n
  rw [UInt64.toNat_shiftRight, hx, Nat.shiftRight_eq_div_pow]
  constructor
  · intro h
    have d : t.toUInt64.toNat / 2 ^ n < 1 := by
      rw [h]
      decide
    have e := (Nat.div_lt_iff_lt_mul (Nat.two_pow_pos n)).mp d
    rw [Nat.one_mul] at e
    exact e
  · exact Nat.div_eq_of_lt
theorem cr_amt (s : Int64) : ∃ n, n < 64 ∧ s &&& 63 = lN n ∧ (s.toUInt64 &&& Int64.toUInt64 63).toNat % 64 = n := by
  have e : (s.toUInt64 &&& Int64.toUInt64 63).toNat = s.toUInt64.toNat % 2 ^ 6 := by
    rw [UInt64.toNat_and, show (Int64.toUInt64 63).toNat = 2 ^ 6 - 1 from by decide, Nat.and_two_pow_sub_one_eq_mod]
  refine ⟨s.toUInt64.toNat % 2 ^ 6, by omega, ?_, by omega⟩
  rw [← Int64.toBitVec_inj, ← BitVec.toNat_inj]
  show (s.toUInt64 &&& Int64.toUInt64 63).toNat = (BitVec.ofNat 64 (s.toUInt64.toNat % 2 ^ 6)).toNat
  rw [e, BitVec.toNat_ofNat]
  omega
end
section
/-! feed: eight bytes of a long -/
def bt8 (v : Int64) (k : Nat) : Nat := uN v / 2 ^ k % 256
theorem bt8_lt (v : Int64) (k : Nat) : bt8 v k < 256 := Nat.mod_lt _ (by decide)
theorem byte_nI (m : Nat) : (nI m).toInt8 = (nI (m % 256)).toInt8 := by
  have h := fa_mask m 8
  have e : nI m &&& 255 = nI (m % 256) := h
  rw [← e]
  exact (fa_byte_low (nI m)).symm
theorem feed_c (v : Int64) (k : Nat) (hk : k < 64) : vp_nar .byte (((v.toUInt64 >>> ((nI k).toInt64.toUInt64 &&& Int64.toUInt64 63)).toInt64).toInt32.toInt8.toInt32) = (nI (bt8 v k)).toInt8.toInt32 := by
  rw [vp_nar_byte, fb_byte_twice]
  have h1 := uN_sk v hk
  generalize (v.toUInt64 >>> ((nI k).toInt64.toUInt64 &&& Int64.toUInt64 63)).toInt64 = w at h1 ⊢
  have h2 : w = lN (uN w) := by
    apply uN_inj
    show uN w = (lN (uN w)).toBitVec.toNat
    rw [wb_tn (by have := uN_lt w; omega)]
  rw [h2, lN_i, h1, byte_nI]
  rfl
theorem feed_m (v : Int64) (k : Nat) (hk : k ≤ 56) : ((v >>> ((nI k).toInt64 &&& 63)) &&& Int64.ofNat 255).toInt32 = nI (bt8 v k) := by
  have e : (v >>> ((nI k).toInt64 &&& 63)) &&& Int64.ofNat 255 = lN (bt8 v k) := by
    rw [wb_c k (by omega)]
    apply wb_inj
    rw [wb_tb]
    show (v.toBitVec.sshiftRight' ((BitVec.ofNat 64 k).smod 64)) &&& BitVec.ofNat 64 255 = BitVec.ofNat 64 (bt8 v k)
    rw [wb_sm k (by omega)]
    apply BitVec.eq_of_getLsbD_eq
    intro i hi
    rw [BitVec.getLsbD_and, BitVec.getLsbD_ofNat, BitVec.getLsbD_ofNat]
    unfold bt8 uN
    rw [show (256 : Nat) = 2 ^ 8 from rfl, Nat.testBit_mod_two_pow, Nat.testBit_div_two_pow, show (255 : Nat) = 2 ^ 8 - 1 from rfl, Nat.testBit_two_pow_sub_one]
    by_cases h8 : i < 8
    · simp only [hi, h8, decide_true, Bool.true_and, Bool.and_true]
      rw [BitVec.sshiftRight', BitVec.getLsbD_sshiftRight]
      have e2 : (BitVec.ofNat 64 k).toNat = k := by
        rw [BitVec.toNat_ofNat]
        exact Nat.mod_eq_of_lt (by omega)
      rw [e2]
      simp only [show ¬ 64 ≤ i by omega, show k + i < 64 by omega, if_true, decide_false, Bool.not_false, Bool.true_and]
      show v.toBitVec.getLsbD (k + i) = v.toBitVec.toNat.testBit (i + k)
      rw [BitVec.testBit_toNat, Nat.add_comm]
    · simp [h8]
  rw [e, lN_i]
def tq (v : Int64) (tl : Nat) (tp : Nat → Nat) : Nat → Nat := fun i => if i < tl then tp i else bt8 v (56 - 8 * (i - tl))
theorem dec8 : ∀ j, j < 8 → ((7 : Int32) - nI j) + (-1) = 7 - nI (j + 1) ∧ (7 : Int32) - nI j = nI (7 - j) ∧ (8 : Int32) * nI (7 - j) = nI (56 - 8 * j) ∧ ((56 : Int32) - 8 * nI j) + (-8) = 56 - 8 * nI (j + 1) ∧ (56 : Int32) - 8 * nI j = nI (56 - 8 * j) := by decide
theorem c_append {h : mm_H} {Q : Option Value → mm_H → Prop} (sh : s_h h) {tl : Nat} {tp : Nat → Nat} (H : cT h tl tp) (v : Int64) (h0 : tl > 192 → Q (some (.int 0)) h) (k : tl ≤ 192 → ∀ h', fx h h' [(385, 17)] [18] → dn h h' → cT h' (tl + 8) (tq v tl tp) → Q (some (.int 1)) h') : w_c 0 48 [.ref 17, .long v] h Q := by
  by_cases hl : tl ≤ 192
  · have loop : ∀ m j, j + m = 8 → ∀ h1, fx h h1 [(385, 17)] [18] → dn h h1 → cT h1 (tl + j) (tq v tl tp) → w_p 0 (6, 4, mc_X6_append) 15 [(0, .ref 17), (1, .long v), (3, .int (7 - nI j))] [] h1 Q := by
      intro m
      induction m with
      | zero =>
        intro j hj h1 f d c
        have e : j = 8 := by omega
        subst e
        refine t_X6_append_15 (f.sh sh (by decide)) _ _ (K15 := fun _ _ _ => False) (fun _ _ _ z => z.elim) ⟨fun _ => k hl h1 f d c, fun c2 => absurd (by decide) c2⟩
      | succ m ih =>
        intro j hj h1 f d c
        obtain ⟨e1, e2, e3, -, -⟩ := dec8 j (by omega)
        obtain ⟨c1, c2, c3⟩ := c
        refine t_X6_append_15 (f.sh sh (by decide)) _ _ (K15 := fun a b hh => a = v ∧ b = 7 - nI (j + 1) ∧ fx h hh [(385, 17)] [18] ∧ dn h hh ∧ cT hh (tl + (j + 1)) (tq v tl tp)) (fun a b hh z => ?_) ⟨fun q => ?_, fun q => ⟨?_, rfl, e1, ?_, ?_, ?_⟩⟩
        · obtain ⟨rfl, rfl, z1, z2, z3⟩ := z
          exact ih (j + 1) (by omega) hh z1 z2 z3
        · rw [e2] at q
          exact absurd q (nI_pos (by omega))
        · rw [c2]
          exact vp_in_nI (by omega) (by decide)
        · exact (f.sA _ _ (by decide)).sI _ (by decide)
        · exact (d.sA _ _ (by decide)).sI _ (by decide)
        · refine ⟨by omega, ?_, fun i hi => ?_⟩
          · show h_oi h1 385 17 + 1 = _
            rw [c2, nI_1]
            rfl
          · show _ ∧ va_up (h_ai h1 18) (h_oi h1 385 17).toNatClampNeg _ i = _
            rw [c2, i_cl (by omega)]
            by_cases hi2 : i = tl + j
            · subst hi2
              have e4 : tq v tl tp (tl + j) = bt8 v (56 - 8 * j) := by
                unfold tq
                rw [if_neg (by omega), show tl + j - tl = j by omega]
              refine ⟨by rw [e4]; exact bt8_lt _ _, ?_⟩
              rw [va_up_self, e4, e2, e3]
              exact feed_c v _ (by omega)
            · rw [va_up_ne _ _ hi2]
              exact c3 i (by omega)
    refine t_X6_append_0 sh v (K15 := fun a b hh => a = v ∧ b = 7 ∧ hh = h) (fun a b hh z => ?_) ⟨fun _ => ⟨rfl, rfl, rfl⟩, fun c => ?_⟩
    · obtain ⟨rfl, rfl, rfl⟩ := z
      have := loop 8 0 rfl hh (fx.rf _ _ _) (dn.rf _) ⟨by omega, H.2.1, fun i hi => by
        have e : tq a tl tp i = tp i := if_pos (by omega)
        rw [e]
        exact H.2.2 i hi⟩
      exact this
    · rw [H.2.1] at c
      exact absurd ((i_le (b := 192) (by omega) (by decide)).mpr hl) c
  · refine t_X6_append_0 sh v (K15 := fun a b hh => False) (fun a b hh z => z.elim) ⟨fun c => ?_, fun c => h0 (by omega)⟩
    rw [H.2.1] at c
    have := H.1
    exact absurd ((i_le (b := 192) (by omega) (by decide)).mp c) hl
/-- feed(v): the answer, the new length -/
def a_feed (tl : Nat) : Int32 × Nat := if tl ≤ 192 then (nI (tl + 8), tl + 8) else (-3, tl)
theorem c_feed {h : mm_H} {Q : Option Value → mm_H → Prop} (sh : s_h h) {tl : Nat} {tp : Nat → Nat} (H : cT h tl tp) (v : Int64) (k : ∀ h', fx h h' [(385, 17)] [18] → dn h h' → cT h' (a_feed tl).2 (tq v tl tp) → Q (some (.int (a_feed tl).1)) h') : w_c 1 62 [.ref 16, .long v] h Q := by
  refine t_X8_feed_0 sh v (c_append sh H v (fun hl => ?_) (fun hl h1 f d c => ?_))
  · unfold a_feed at k
    rw [if_neg (by omega)] at k
    exact ⟨0, rfl, sh, fun _ => k h (fx.rf _ _ _) (dn.rf _) ⟨H.1, H.2.1, fun i hi => by
      have e : tq v tl tp i = tp i := if_pos hi
      rw [e]
      exact H.2.2 i hi⟩, fun z => absurd rfl z⟩
  · unfold a_feed at k
    rw [if_pos hl] at k
    refine ⟨1, rfl, f.sh sh (by decide), fun z => absurd z (by decide), fun _ => ?_⟩
    rw [c.2.1]
    exact k h1 f d c
theorem m_feed {h : mm_H} {Q : Option Value → mm_H → Prop} (sh : s_h h) {tl : Nat} {tp : Nat → Nat} (H : mT h tl tp) (v : Int64) (k : ∀ h', fx h h' [(577, 44)] [45] → dn h h' → mT h' (a_feed tl).2 (tq v tl tp) → Q (some (.int (a_feed tl).1)) h') : w_c 0 104 [.ref 44, .long v] h Q := by
  unfold a_feed at k
  have e8 : h_oi h 577 44 + 8 = nI (tl + 8) := by
    rw [H.2.1]
    exact nI_add tl 8
  have h200 := H.1
  by_cases hl : tl ≤ 192
  · rw [if_pos hl] at k
    have loop : ∀ m j, j + m = 8 → ∀ h1, fx h h1 [(577, 44)] [45] → dn h h1 → mT h1 (tl + j) (tq v tl tp) → w_p 0 (9, 4, mc_X9_feed) 19 [(0, .ref 44), (1, .long v), (3, .int (56 - 8 * nI j))] [] h1 Q := by
      intro m
      induction m with
      | zero =>
        intro j hj h1 f d c
        have e : j = 8 := by omega
        subst e
        refine t_X9_feed_19 (f.sh sh (by decide)) _ _ (K19 := fun _ _ _ => False) (fun _ _ _ z => z.elim) ⟨fun _ => ?_, fun c2 => absurd (by decide) c2⟩
        rw [c.2.1]
        exact k h1 f d c
      | succ m ih =>
        intro j hj h1 f d c
        obtain ⟨-, -, -, e1, e2⟩ := dec8 j (by omega)
        obtain ⟨c1, c2, c3⟩ := c
        refine t_X9_feed_19 (f.sh sh (by decide)) _ _ (K19 := fun a b hh => a = v ∧ b = 56 - 8 * nI (j + 1) ∧ fx h hh [(577, 44)] [45] ∧ dn h hh ∧ mT hh (tl + (j + 1)) (tq v tl tp)) (fun a b hh z => ?_) ⟨fun q => ?_, fun q => ⟨?_, rfl, e1, ?_, ?_, ?_⟩⟩
        · obtain ⟨rfl, rfl, z1, z2, z3⟩ := z
          exact ih (j + 1) (by omega) hh z1 z2 z3
        · rw [e2] at q
          exact absurd q (nI_pos (by omega))
        · rw [c2]
          exact vp_in_nI (by omega) (by decide)
        · exact (f.sA _ _ (by decide)).sI _ (by decide)
        · exact (d.sA _ _ (by decide)).sI _ (by decide)
        · refine ⟨by omega, ?_, fun i hi => ?_⟩
          · show h_oi h1 577 44 + 1 = _
            rw [c2, nI_1]
            rfl
          · show _ ∧ va_up (h_ai h1 45) (h_oi h1 577 44).toNatClampNeg _ i = _
            rw [c2, i_cl (by omega)]
            by_cases hi2 : i = tl + j
            · subst hi2
              have e4 : tq v tl tp (tl + j) = bt8 v (56 - 8 * j) := by
                unfold tq
                rw [if_neg (by omega), show tl + j - tl = j by omega]
              refine ⟨by rw [e4]; exact bt8_lt _ _, ?_⟩
              rw [va_up_self, e4, e2]
              exact feed_m v _ (by omega)
            · rw [va_up_ne _ _ hi2]
              exact c3 i (by omega)
    refine t_X9_feed_0 sh v (K19 := fun a b hh => a = v ∧ b = 56 ∧ hh = h) (fun a b hh z => ?_) ⟨fun _ => ⟨rfl, rfl, rfl⟩, fun c => ?_⟩
    · obtain ⟨rfl, rfl, rfl⟩ := z
      exact loop 8 0 rfl hh (fx.rf _ _ _) (dn.rf _) ⟨by omega, H.2.1, fun i hi => by
        have e : tq a tl tp i = tp i := if_pos (by omega)
        rw [e]
        exact H.2.2 i hi⟩
    · rw [e8] at c
      exact absurd ((i_le (b := 200) (by omega) (by decide)).mpr (by omega)) c
  · rw [if_neg hl] at k
    refine t_X9_feed_0 sh v (K19 := fun a b hh => False) (fun a b hh z => z.elim) ⟨fun c => ?_, fun c => k h (fx.rf _ _ _) (dn.rf _) ⟨H.1, H.2.1, fun i hi => by
      have e : tq v tl tp i = tp i := if_pos hi
      rw [e]
      exact H.2.2 i hi⟩⟩
    rw [e8] at c
    have := (i_le (b := 200) (by omega) (by decide)).mp c
    omega
end
section
set_option maxRecDepth 20000 in
theorem t_X8_familyAt_0 {h : mm_H} {Q : Option Value → mm_H → Prop} (sh : s_h h) (f : Int32) 
    (F : ((f < 0 → Q (some (va_rf none)) h) ∧ (¬ (f < 0) → (((h_oi h 520 16) ≤ f → Q (some (va_rf none)) h) ∧ (¬ ((h_oi h 520 16) ≤ f) → ((f < (Int32.ofNat 12) → (vp_in f 12 ∧ Q (some (va_rf (h_ar h 30 f.toNatClampNeg))) h)) ∧ (¬ (f < (Int32.ofNat 12)) → Q (some (va_rf none)) h))))))) :
    w_c 0 87 [.ref 16, .int f] h Q := by
  refine w_ci (M := (8, 2, mc_X8_familyAt)) rfl (Nat.le_of_ble_eq_true rfl) ?_
  show w_p _ _ 0 [(0, .ref 16), (1, .int f)] [] h Q
  refine w_b 1 1 [(0, .ref 16), (1, .int f)] [.int f] rfl ?_
  refine w_if_lt (tgt := 21) (x := f) rfl (by decide) ⟨fun c1 => ?_, fun c1 => ?_⟩
  · have F := F.1 c1
    refine w_b 1 22 [(0, .ref 16), (1, .int f)] [va_rf none] rfl ?_
    refine w_b 1 31 [(0, .ref 16), (1, .int f)] [va_rf none] rfl ?_
    exact w_ar (r := none) rfl F
  · have F := F.2 c1
    refine w_b 2 6 [(0, .ref 16), (1, .int f)] [.ref 16, .int f] rfl ?_
    refine w_get (g := 520) rfl rfl rfl (kd_16 sh) ?_
    refine w_ic_ge (tgt := 21) (x := f) (y := h_oi h 520 16) rfl (by decide) ⟨fun c2 => ?_, fun c2 => ?_⟩
    · have F := F.1 c2
      refine w_b 1 22 [(0, .ref 16), (1, .int f)] [va_rf none] rfl ?_
      refine w_b 1 31 [(0, .ref 16), (1, .int f)] [va_rf none] rfl ?_
      exact w_ar (r := none) rfl F
    · have F := F.2 c2
      refine w_b 2 14 [(0, .ref 16), (1, .int f)] [.ref 16, .int f] rfl ?_
      refine w_getS (b := 30) rfl rfl rfl (kd_16 sh) (or_515_16 sh) ?_
      refine w_alen rfl (by rw [kd_30 sh]; decide) ?_
      rw [show h_al h 30 = 12 from (al_30 sh)]
      refine w_ic_lt (tgt := 25) (x := f) (y := Int32.ofNat 12) rfl (by decide) ⟨fun c3 => ?_, fun c3 => ?_⟩
      · have F := F.1 c3
        refine w_b 1 26 [(0, .ref 16), (1, .int f)] [.ref 16] rfl ?_
        refine w_getS (b := 30) rfl rfl rfl (kd_16 sh) (or_515_16 sh) ?_
        refine w_b 1 30 [(0, .ref 16), (1, .int f)] [.int f, .ref 30] rfl ?_
        obtain ⟨g4, F⟩ := F
        refine w_aald rfl (by rw [kd_30 sh]; decide) (by rw [show h_al h 30 = 12 from (al_30 sh)]; exact g4) ?_
        exact w_ar (r := h_ar h 30 f.toNatClampNeg) rfl F
      · have F := F.2 c3
        refine w_b 1 22 [(0, .ref 16), (1, .int f)] [va_rf none] rfl ?_
        refine w_b 1 31 [(0, .ref 16), (1, .int f)] [va_rf none] rfl ?_
        exact w_ar (r := none) rfl F

set_option maxRecDepth 20000 in
theorem t_X7_add_31_0 {h : mm_H} {Q : Option Value → mm_H → Prop} (sh : s_h h) (f : Int32) (a : Int32) (b : Int32) 
    (F : (((h_oi h 451 31) < 10 → (vp_in (h_oi h 451 31) 10 ∧ (vp_in (h_oi h 451 31) 10 ∧ (vp_in (h_oi h 451 31) 10 ∧ Q (some (.int 1)) (h_sI (h_sA (h_sA (h_sA h 32 ((h_oi h 451 31).toNatClampNeg) f) 33 ((h_oi h 451 31).toNatClampNeg) a) 34 ((h_oi h 451 31).toNatClampNeg) b) 451 31 ((h_oi h 451 31) + 1)))))) ∧ (¬ ((h_oi h 451 31) < 10) → Q (some (.int 0)) h))) :
    w_c 0 58 [.ref 31, .int f, .int a, .int b] h Q := by
  refine w_ci (M := (7, 4, mc_X7_add)) rfl (Nat.le_of_ble_eq_true rfl) ?_
  show w_p _ _ 0 [(0, .ref 31), (1, .int f), (2, .int a), (3, .int b)] [] h Q
  refine w_b 1 1 [(0, .ref 31), (1, .int f), (2, .int a), (3, .int b)] [.ref 31] rfl ?_
  refine w_get (g := 451) rfl rfl rfl (kd_31 sh) ?_
  refine w_b 1 6 [(0, .ref 31), (1, .int f), (2, .int a), (3, .int b)] [.int 10, .int (h_oi h 451 31)] rfl ?_
  refine w_ic_lt (tgt := 11) (x := h_oi h 451 31) (y := 10) rfl (by decide) ⟨fun c1 => ?_, fun c1 => ?_⟩
  · have F := F.1 c1
    refine w_b 1 12 [(0, .ref 31), (1, .int f), (2, .int a), (3, .int b)] [.ref 31] rfl ?_
    refine w_getS (b := 32) rfl rfl rfl (kd_31 sh) (or_448_31 sh) ?_
    refine w_b 1 16 [(0, .ref 31), (1, .int f), (2, .int a), (3, .int b)] [.ref 31, .ref 32] rfl ?_
    refine w_get (g := 451) rfl rfl rfl (kd_31 sh) ?_
    refine w_b 1 20 [(0, .ref 31), (1, .int f), (2, .int a), (3, .int b)] [.int f, .int (h_oi h 451 31), .ref 32] rfl ?_
    obtain ⟨g2, F⟩ := F
    refine w_iast rfl (kd_32 sh) (by decide) (by rw [show h_al h 32 = 10 from (al_32 sh)]; exact g2) ?_
    refine w_b 1 22 [(0, .ref 31), (1, .int f), (2, .int a), (3, .int b)] [.ref 31] rfl ?_
    refine w_getS (b := 33) rfl rfl rfl (kd_31 sh) (or_449_31 sh) ?_
    refine w_b 1 26 [(0, .ref 31), (1, .int f), (2, .int a), (3, .int b)] [.ref 31, .ref 33] rfl ?_
    refine w_get (g := 451) rfl rfl rfl (kd_31 sh) ?_
    refine w_b 1 30 [(0, .ref 31), (1, .int f), (2, .int a), (3, .int b)] [.int a, .int (h_oi h 451 31), .ref 33] rfl ?_
    obtain ⟨g3, F⟩ := F
    refine w_iast rfl (kd_33 sh) (by decide) (by rw [show h_al (h_sA h 32 ((h_oi h 451 31).toNatClampNeg) f) 33 = 10 from (al_33 sh)]; exact g3) ?_
    refine w_b 1 32 [(0, .ref 31), (1, .int f), (2, .int a), (3, .int b)] [.ref 31] rfl ?_
    refine w_getS (b := 34) rfl rfl rfl (kd_31 sh) (or_450_31 sh) ?_
    refine w_b 1 36 [(0, .ref 31), (1, .int f), (2, .int a), (3, .int b)] [.ref 31, .ref 34] rfl ?_
    refine w_get (g := 451) rfl rfl rfl (kd_31 sh) ?_
    refine w_b 1 40 [(0, .ref 31), (1, .int f), (2, .int a), (3, .int b)] [.int b, .int (h_oi h 451 31), .ref 34] rfl ?_
    obtain ⟨g4, F⟩ := F
    refine w_iast rfl (kd_34 sh) (by decide) (by rw [show h_al (h_sA (h_sA h 32 ((h_oi h 451 31).toNatClampNeg) f) 33 ((h_oi h 451 31).toNatClampNeg) a) 34 = 10 from (al_34 sh)]; exact g4) ?_
    refine w_b 2 43 [(0, .ref 31), (1, .int f), (2, .int a), (3, .int b)] [.ref 31, .ref 31] rfl ?_
    refine w_get (g := 451) rfl rfl rfl (kd_31 sh) ?_
    refine w_b 2 48 [(0, .ref 31), (1, .int f), (2, .int a), (3, .int b)] [.int ((h_oi h 451 31) + 1), .ref 31] rfl ?_
    refine w_put (g := 451) (x := (h_oi h 451 31) + 1) rfl rfl rfl (kd_31 sh) (by decide) ?_
    refine w_b 1 52 [(0, .ref 31), (1, .int f), (2, .int a), (3, .int b)] [.int 1] rfl ?_
    exact w_br rfl (by decide) F
  · have F := F.2 c1
    refine w_b 1 10 [(0, .ref 31), (1, .int f), (2, .int a), (3, .int b)] [.int 0] rfl ?_
    exact w_br rfl (by decide) F

set_option maxRecDepth 20000 in
theorem t_X8_addVisit_31_0 {h : mm_H} {Q : Option Value → mm_H → Prop} (sh : s_h h) (f : Int32) (a : Int32) (b : Int32) 
    (F : w_c 0 87 [.ref 16, .int f] h (fun r h1 => ∃ z2 : Option Nat, r = some (va_rf z2) ∧ s_h h1 ∧ ((z2 = none → Q (some (.int (-1))) h1) ∧ (∀ a4 : Nat, z2 = some a4 → ((a < 0 → Q (some (.int (-1))) h1) ∧ (¬ (a < 0) → ((48 < b → Q (some (.int (-1))) h1) ∧ (¬ (48 < b) → ((a < b → w_c 0 58 [.ref 31, .int f, .int a, .int b] h1 (fun r h8 => ∃ z9 : Int32, r = some (.int z9) ∧ s_h h8 ∧ ((z9 = 0 → Q (some (.int (-3))) h8) ∧ (¬ (z9 = 0) → Q (some (.int ((h_oi h8 451 31) - (1 : Int32)))) h8)))) ∧ (¬ (a < b) → Q (some (.int (-1))) h1)))))))))) :
    w_c 1 91 [.ref 16, .ref 31, .int f, .int a, .int b] h Q := by
  refine w_ci (M := (8, 5, mc_X8_addVisit)) rfl (Nat.le_of_ble_eq_true rfl) ?_
  show w_p _ _ 0 [(0, .ref 16), (1, .ref 31), (2, .int f), (3, .int a), (4, .int b)] [] h Q
  refine w_b 2 2 [(0, .ref 16), (1, .ref 31), (2, .int f), (3, .int a), (4, .int b)] [.int f, .ref 16] rfl ?_
  refine w_cv (As := [.int f]) (b := 16) (rest := []) rfl rfl rfl (Nat.le_of_ble_eq_true rfl) (kd_16 sh) (fun z => absurd z (by decide)) (dc := 0) (by omega) (F.mono (fun r h1 F => ?_))
  obtain ⟨z2, rfl, sh1, F⟩ := F
  show w_p _ _ 5 [(0, .ref 16), (1, .ref 31), (2, .int f), (3, .int a), (4, .int b)] [va_rf z2] h1 _
  refine w_ifnull (tgt := 25) (r := z2) rfl (by decide) ⟨fun c3 => ?_, fun a4 c3 => ?_⟩
  · have F := F.1 c3
    refine w_b 1 26 [(0, .ref 16), (1, .ref 31), (2, .int f), (3, .int a), (4, .int b)] [.int (-1)] rfl ?_
    exact w_ir rfl F
  · have F := F.2 a4 c3
    refine w_b 1 9 [(0, .ref 16), (1, .ref 31), (2, .int f), (3, .int a), (4, .int b)] [.int a] rfl ?_
    refine w_if_lt (tgt := 25) (x := a) rfl (by decide) ⟨fun c5 => ?_, fun c5 => ?_⟩
    · have F := F.1 c5
      refine w_b 1 26 [(0, .ref 16), (1, .ref 31), (2, .int f), (3, .int a), (4, .int b)] [.int (-1)] rfl ?_
      exact w_ir rfl F
    · have F := F.2 c5
      refine w_b 2 16 [(0, .ref 16), (1, .ref 31), (2, .int f), (3, .int a), (4, .int b)] [.int 48, .int b] rfl ?_
      refine w_ic_gt (tgt := 25) (x := b) (y := 48) rfl (by decide) ⟨fun c6 => ?_, fun c6 => ?_⟩
      · have F := F.1 c6
        refine w_b 1 26 [(0, .ref 16), (1, .ref 31), (2, .int f), (3, .int a), (4, .int b)] [.int (-1)] rfl ?_
        exact w_ir rfl F
      · have F := F.2 c6
        refine w_b 2 22 [(0, .ref 16), (1, .ref 31), (2, .int f), (3, .int a), (4, .int b)] [.int b, .int a] rfl ?_
        refine w_ic_lt (tgt := 27) (x := a) (y := b) rfl (by decide) ⟨fun c7 => ?_, fun c7 => ?_⟩
        · have F := F.1 c7
          refine w_b 4 32 [(0, .ref 16), (1, .ref 31), (2, .int f), (3, .int a), (4, .int b)] [.int b, .int a, .int f, .ref 31] rfl ?_
          refine w_cv (As := [.int f, .int a, .int b]) (b := 31) (rest := []) rfl rfl rfl (Nat.le_of_ble_eq_true rfl) (kd_31 sh1) (fun z => absurd z (by decide)) (dc := 0) (by omega) (F.mono (fun r h8 F => ?_))
          obtain ⟨z9, rfl, sh8, F⟩ := F
          show w_p _ _ 35 [(0, .ref 16), (1, .ref 31), (2, .int f), (3, .int a), (4, .int b)] [.int z9] h8 _
          refine w_if_eq (tgt := 47) (x := z9) rfl (by decide) ⟨fun c10 => ?_, fun c10 => ?_⟩
          · have F := F.1 c10
            refine w_b 1 49 [(0, .ref 16), (1, .ref 31), (2, .int f), (3, .int a), (4, .int b)] [.int (-3)] rfl ?_
            exact w_ir rfl F
          · have F := F.2 c10
            refine w_b 1 39 [(0, .ref 16), (1, .ref 31), (2, .int f), (3, .int a), (4, .int b)] [.ref 31] rfl ?_
            refine w_get (g := 451) rfl rfl rfl (kd_31 sh8) ?_
            refine w_b 3 49 [(0, .ref 16), (1, .ref 31), (2, .int f), (3, .int a), (4, .int b)] [.int ((h_oi h8 451 31) - (1 : Int32))] rfl ?_
            exact w_ir rfl F
        · have F := F.2 c7
          refine w_b 1 26 [(0, .ref 16), (1, .ref 31), (2, .int f), (3, .int a), (4, .int b)] [.int (-1)] rfl ?_
          exact w_ir rfl F

set_option maxRecDepth 20000 in
theorem t_X7_add_35_0 {h : mm_H} {Q : Option Value → mm_H → Prop} (sh : s_h h) (f : Int32) (a : Int32) (b : Int32) 
    (F : (((h_oi h 451 35) < 10 → (vp_in (h_oi h 451 35) 10 ∧ (vp_in (h_oi h 451 35) 10 ∧ (vp_in (h_oi h 451 35) 10 ∧ Q (some (.int 1)) (h_sI (h_sA (h_sA (h_sA h 36 ((h_oi h 451 35).toNatClampNeg) f) 37 ((h_oi h 451 35).toNatClampNeg) a) 38 ((h_oi h 451 35).toNatClampNeg) b) 451 35 ((h_oi h 451 35) + 1)))))) ∧ (¬ ((h_oi h 451 35) < 10) → Q (some (.int 0)) h))) :
    w_c 0 58 [.ref 35, .int f, .int a, .int b] h Q := by
  refine w_ci (M := (7, 4, mc_X7_add)) rfl (Nat.le_of_ble_eq_true rfl) ?_
  show w_p _ _ 0 [(0, .ref 35), (1, .int f), (2, .int a), (3, .int b)] [] h Q
  refine w_b 1 1 [(0, .ref 35), (1, .int f), (2, .int a), (3, .int b)] [.ref 35] rfl ?_
  refine w_get (g := 451) rfl rfl rfl (kd_35 sh) ?_
  refine w_b 1 6 [(0, .ref 35), (1, .int f), (2, .int a), (3, .int b)] [.int 10, .int (h_oi h 451 35)] rfl ?_
  refine w_ic_lt (tgt := 11) (x := h_oi h 451 35) (y := 10) rfl (by decide) ⟨fun c1 => ?_, fun c1 => ?_⟩
  · have F := F.1 c1
    refine w_b 1 12 [(0, .ref 35), (1, .int f), (2, .int a), (3, .int b)] [.ref 35] rfl ?_
    refine w_getS (b := 36) rfl rfl rfl (kd_35 sh) (or_448_35 sh) ?_
    refine w_b 1 16 [(0, .ref 35), (1, .int f), (2, .int a), (3, .int b)] [.ref 35, .ref 36] rfl ?_
    refine w_get (g := 451) rfl rfl rfl (kd_35 sh) ?_
    refine w_b 1 20 [(0, .ref 35), (1, .int f), (2, .int a), (3, .int b)] [.int f, .int (h_oi h 451 35), .ref 36] rfl ?_
    obtain ⟨g2, F⟩ := F
    refine w_iast rfl (kd_36 sh) (by decide) (by rw [show h_al h 36 = 10 from (al_36 sh)]; exact g2) ?_
    refine w_b 1 22 [(0, .ref 35), (1, .int f), (2, .int a), (3, .int b)] [.ref 35] rfl ?_
    refine w_getS (b := 37) rfl rfl rfl (kd_35 sh) (or_449_35 sh) ?_
    refine w_b 1 26 [(0, .ref 35), (1, .int f), (2, .int a), (3, .int b)] [.ref 35, .ref 37] rfl ?_
    refine w_get (g := 451) rfl rfl rfl (kd_35 sh) ?_
    refine w_b 1 30 [(0, .ref 35), (1, .int f), (2, .int a), (3, .int b)] [.int a, .int (h_oi h 451 35), .ref 37] rfl ?_
    obtain ⟨g3, F⟩ := F
    refine w_iast rfl (kd_37 sh) (by decide) (by rw [show h_al (h_sA h 36 ((h_oi h 451 35).toNatClampNeg) f) 37 = 10 from (al_37 sh)]; exact g3) ?_
    refine w_b 1 32 [(0, .ref 35), (1, .int f), (2, .int a), (3, .int b)] [.ref 35] rfl ?_
    refine w_getS (b := 38) rfl rfl rfl (kd_35 sh) (or_450_35 sh) ?_
    refine w_b 1 36 [(0, .ref 35), (1, .int f), (2, .int a), (3, .int b)] [.ref 35, .ref 38] rfl ?_
    refine w_get (g := 451) rfl rfl rfl (kd_35 sh) ?_
    refine w_b 1 40 [(0, .ref 35), (1, .int f), (2, .int a), (3, .int b)] [.int b, .int (h_oi h 451 35), .ref 38] rfl ?_
    obtain ⟨g4, F⟩ := F
    refine w_iast rfl (kd_38 sh) (by decide) (by rw [show h_al (h_sA (h_sA h 36 ((h_oi h 451 35).toNatClampNeg) f) 37 ((h_oi h 451 35).toNatClampNeg) a) 38 = 10 from (al_38 sh)]; exact g4) ?_
    refine w_b 2 43 [(0, .ref 35), (1, .int f), (2, .int a), (3, .int b)] [.ref 35, .ref 35] rfl ?_
    refine w_get (g := 451) rfl rfl rfl (kd_35 sh) ?_
    refine w_b 2 48 [(0, .ref 35), (1, .int f), (2, .int a), (3, .int b)] [.int ((h_oi h 451 35) + 1), .ref 35] rfl ?_
    refine w_put (g := 451) (x := (h_oi h 451 35) + 1) rfl rfl rfl (kd_35 sh) (by decide) ?_
    refine w_b 1 52 [(0, .ref 35), (1, .int f), (2, .int a), (3, .int b)] [.int 1] rfl ?_
    exact w_br rfl (by decide) F
  · have F := F.2 c1
    refine w_b 1 10 [(0, .ref 35), (1, .int f), (2, .int a), (3, .int b)] [.int 0] rfl ?_
    exact w_br rfl (by decide) F

set_option maxRecDepth 20000 in
theorem t_X8_addVisit_35_0 {h : mm_H} {Q : Option Value → mm_H → Prop} (sh : s_h h) (f : Int32) (a : Int32) (b : Int32) 
    (F : w_c 0 87 [.ref 16, .int f] h (fun r h1 => ∃ z2 : Option Nat, r = some (va_rf z2) ∧ s_h h1 ∧ ((z2 = none → Q (some (.int (-1))) h1) ∧ (∀ a4 : Nat, z2 = some a4 → ((a < 0 → Q (some (.int (-1))) h1) ∧ (¬ (a < 0) → ((48 < b → Q (some (.int (-1))) h1) ∧ (¬ (48 < b) → ((a < b → w_c 0 58 [.ref 35, .int f, .int a, .int b] h1 (fun r h8 => ∃ z9 : Int32, r = some (.int z9) ∧ s_h h8 ∧ ((z9 = 0 → Q (some (.int (-3))) h8) ∧ (¬ (z9 = 0) → Q (some (.int ((h_oi h8 451 35) - (1 : Int32)))) h8)))) ∧ (¬ (a < b) → Q (some (.int (-1))) h1)))))))))) :
    w_c 1 91 [.ref 16, .ref 35, .int f, .int a, .int b] h Q := by
  refine w_ci (M := (8, 5, mc_X8_addVisit)) rfl (Nat.le_of_ble_eq_true rfl) ?_
  show w_p _ _ 0 [(0, .ref 16), (1, .ref 35), (2, .int f), (3, .int a), (4, .int b)] [] h Q
  refine w_b 2 2 [(0, .ref 16), (1, .ref 35), (2, .int f), (3, .int a), (4, .int b)] [.int f, .ref 16] rfl ?_
  refine w_cv (As := [.int f]) (b := 16) (rest := []) rfl rfl rfl (Nat.le_of_ble_eq_true rfl) (kd_16 sh) (fun z => absurd z (by decide)) (dc := 0) (by omega) (F.mono (fun r h1 F => ?_))
  obtain ⟨z2, rfl, sh1, F⟩ := F
  show w_p _ _ 5 [(0, .ref 16), (1, .ref 35), (2, .int f), (3, .int a), (4, .int b)] [va_rf z2] h1 _
  refine w_ifnull (tgt := 25) (r := z2) rfl (by decide) ⟨fun c3 => ?_, fun a4 c3 => ?_⟩
  · have F := F.1 c3
    refine w_b 1 26 [(0, .ref 16), (1, .ref 35), (2, .int f), (3, .int a), (4, .int b)] [.int (-1)] rfl ?_
    exact w_ir rfl F
  · have F := F.2 a4 c3
    refine w_b 1 9 [(0, .ref 16), (1, .ref 35), (2, .int f), (3, .int a), (4, .int b)] [.int a] rfl ?_
    refine w_if_lt (tgt := 25) (x := a) rfl (by decide) ⟨fun c5 => ?_, fun c5 => ?_⟩
    · have F := F.1 c5
      refine w_b 1 26 [(0, .ref 16), (1, .ref 35), (2, .int f), (3, .int a), (4, .int b)] [.int (-1)] rfl ?_
      exact w_ir rfl F
    · have F := F.2 c5
      refine w_b 2 16 [(0, .ref 16), (1, .ref 35), (2, .int f), (3, .int a), (4, .int b)] [.int 48, .int b] rfl ?_
      refine w_ic_gt (tgt := 25) (x := b) (y := 48) rfl (by decide) ⟨fun c6 => ?_, fun c6 => ?_⟩
      · have F := F.1 c6
        refine w_b 1 26 [(0, .ref 16), (1, .ref 35), (2, .int f), (3, .int a), (4, .int b)] [.int (-1)] rfl ?_
        exact w_ir rfl F
      · have F := F.2 c6
        refine w_b 2 22 [(0, .ref 16), (1, .ref 35), (2, .int f), (3, .int a), (4, .int b)] [.int b, .int a] rfl ?_
        refine w_ic_lt (tgt := 27) (x := a) (y := b) rfl (by decide) ⟨fun c7 => ?_, fun c7 => ?_⟩
        · have F := F.1 c7
          refine w_b 4 32 [(0, .ref 16), (1, .ref 35), (2, .int f), (3, .int a), (4, .int b)] [.int b, .int a, .int f, .ref 35] rfl ?_
          refine w_cv (As := [.int f, .int a, .int b]) (b := 35) (rest := []) rfl rfl rfl (Nat.le_of_ble_eq_true rfl) (kd_35 sh1) (fun z => absurd z (by decide)) (dc := 0) (by omega) (F.mono (fun r h8 F => ?_))
          obtain ⟨z9, rfl, sh8, F⟩ := F
          show w_p _ _ 35 [(0, .ref 16), (1, .ref 35), (2, .int f), (3, .int a), (4, .int b)] [.int z9] h8 _
          refine w_if_eq (tgt := 47) (x := z9) rfl (by decide) ⟨fun c10 => ?_, fun c10 => ?_⟩
          · have F := F.1 c10
            refine w_b 1 49 [(0, .ref 16), (1, .ref 35), (2, .int f), (3, .int a), (4, .int b)] [.int (-3)] rfl ?_
            exact w_ir rfl F
          · have F := F.2 c10
            refine w_b 1 39 [(0, .ref 16), (1, .ref 35), (2, .int f), (3, .int a), (4, .int b)] [.ref 35] rfl ?_
            refine w_get (g := 451) rfl rfl rfl (kd_35 sh8) ?_
            refine w_b 3 49 [(0, .ref 16), (1, .ref 35), (2, .int f), (3, .int a), (4, .int b)] [.int ((h_oi h8 451 35) - (1 : Int32))] rfl ?_
            exact w_ir rfl F
        · have F := F.2 c7
          refine w_b 1 26 [(0, .ref 16), (1, .ref 35), (2, .int f), (3, .int a), (4, .int b)] [.int (-1)] rfl ?_
          exact w_ir rfl F

set_option maxRecDepth 20000 in
theorem t_X8_ask_0 {h : mm_H} {Q : Option Value → mm_H → Prop} (sh : s_h h) (f : Int32) (a : Int32) (b : Int32) 
    (F : w_c 1 91 [.ref 16, .ref 31, .int f, .int a, .int b] h (fun r h1 => ∃ z2 : Int32, r = some (.int z2) ∧ s_h h1 ∧ Q (some (.int z2)) h1)) :
    w_c 2 73 [.ref 16, .int f, .int a, .int b] h Q := by
  refine w_ci (M := (8, 4, mc_X8_ask)) rfl (Nat.le_of_ble_eq_true rfl) ?_
  show w_p _ _ 0 [(0, .ref 16), (1, .int f), (2, .int a), (3, .int b)] [] h Q
  refine w_b 2 2 [(0, .ref 16), (1, .int f), (2, .int a), (3, .int b)] [.ref 16, .ref 16] rfl ?_
  refine w_getS (b := 31) rfl rfl rfl (kd_16 sh) (or_516_16 sh) ?_
  refine w_b 3 8 [(0, .ref 16), (1, .int f), (2, .int a), (3, .int b)] [.int b, .int a, .int f, .ref 31, .ref 16] rfl ?_
  refine w_cv (As := [.ref 31, .int f, .int a, .int b]) (b := 16) (rest := []) rfl rfl rfl (Nat.le_of_ble_eq_true rfl) (kd_16 sh) (fun z => absurd z (by decide)) (dc := 1) (by omega) (F.mono (fun r h1 F => ?_))
  obtain ⟨z2, rfl, sh1, F⟩ := F
  show w_p _ _ 11 [(0, .ref 16), (1, .int f), (2, .int a), (3, .int b)] [.int z2] h1 _
  exact w_ir rfl F

set_option maxRecDepth 20000 in
theorem t_X8_offer_0 {h : mm_H} {Q : Option Value → mm_H → Prop} (sh : s_h h) (f : Int32) (a : Int32) (b : Int32) 
    (F : w_c 1 91 [.ref 16, .ref 35, .int f, .int a, .int b] h (fun r h1 => ∃ z2 : Int32, r = some (.int z2) ∧ s_h h1 ∧ Q (some (.int z2)) h1)) :
    w_c 2 74 [.ref 16, .int f, .int a, .int b] h Q := by
  refine w_ci (M := (8, 4, mc_X8_offer)) rfl (Nat.le_of_ble_eq_true rfl) ?_
  show w_p _ _ 0 [(0, .ref 16), (1, .int f), (2, .int a), (3, .int b)] [] h Q
  refine w_b 2 2 [(0, .ref 16), (1, .int f), (2, .int a), (3, .int b)] [.ref 16, .ref 16] rfl ?_
  refine w_getS (b := 35) rfl rfl rfl (kd_16 sh) (or_517_16 sh) ?_
  refine w_b 3 8 [(0, .ref 16), (1, .int f), (2, .int a), (3, .int b)] [.int b, .int a, .int f, .ref 35, .ref 16] rfl ?_
  refine w_cv (As := [.ref 35, .int f, .int a, .int b]) (b := 16) (rest := []) rfl rfl rfl (Nat.le_of_ble_eq_true rfl) (kd_16 sh) (fun z => absurd z (by decide)) (dc := 1) (by omega) (F.mono (fun r h1 F => ?_))
  obtain ⟨z2, rfl, sh1, F⟩ := F
  show w_p _ _ 11 [(0, .ref 16), (1, .int f), (2, .int a), (3, .int b)] [.int z2] h1 _
  exact w_ir rfl F

set_option maxRecDepth 20000 in
theorem t_X9_isFamily_0 {h : mm_H} {Q : Option Value → mm_H → Prop} (sh : s_h h) (f : Int32) 
    (F : (((f_in f.toInt64 (Int64.ofNat 0) (((h_oi h 590 44) - (1 : Int32)).toInt64)) = 0 → Q (some (.int 0)) h) ∧ (¬ ((f_in f.toInt64 (Int64.ofNat 0) (((h_oi h 590 44) - (1 : Int32)).toInt64)) = 0) → (vp_in f 12 ∧ ((¬ (h_ai h 49 f.toNatClampNeg) = 0 → Q (some (.int 0)) h) ∧ ((h_ai h 49 f.toNatClampNeg) = 0 → Q (some (.int 1)) h)))))) :
    w_c 1 118 [.ref 44, .int f] h Q := by
  refine w_ci (M := (9, 2, mc_X9_isFamily)) rfl (Nat.le_of_ble_eq_true rfl) ?_
  show w_p _ _ 0 [(0, .ref 44), (1, .int f)] [] h Q
  refine w_b 4 4 [(0, .ref 44), (1, .int f)] [.ref 44, .long (Int64.ofNat 0), .long f.toInt64] rfl ?_
  refine w_get (g := 590) rfl rfl rfl (kd_44 sh) ?_
  refine w_b 3 10 [(0, .ref 44), (1, .int f)] [.long (((h_oi h 590 44) - (1 : Int32)).toInt64), .long (Int64.ofNat 0), .long f.toInt64] rfl ?_
  refine w_cs (As := [.long f.toInt64, .long (Int64.ofNat 0), .long (((h_oi h 590 44) - (1 : Int32)).toInt64)]) (rest := []) rfl rfl rfl (Nat.le_of_ble_eq_true rfl) (dc := 0) (by omega) (sp_in  ?_)
  show w_p _ _ 13 [(0, .ref 44), (1, .int f)] [.int (f_in f.toInt64 (Int64.ofNat 0) (((h_oi h 590 44) - (1 : Int32)).toInt64))] h _
  refine w_if_eq (tgt := 29) (x := f_in f.toInt64 (Int64.ofNat 0) (((h_oi h 590 44) - (1 : Int32)).toInt64)) rfl (by decide) ⟨fun c1 => ?_, fun c1 => ?_⟩
  · have F := F.1 c1
    refine w_b 1 30 [(0, .ref 44), (1, .int f)] [.int 0] rfl ?_
    exact w_br rfl (by decide) F
  · have F := F.2 c1
    refine w_b 1 17 [(0, .ref 44), (1, .int f)] [.ref 44] rfl ?_
    refine w_getS (b := 49) rfl rfl rfl (kd_44 sh) (or_591_44 sh) ?_
    refine w_b 1 21 [(0, .ref 44), (1, .int f)] [.int f, .ref 49] rfl ?_
    obtain ⟨g2, F⟩ := F
    refine w_bald rfl (Or.inr (kd_49 sh)) (by rw [show h_al h 49 = 12 from (al_49 sh)]; exact g2) ?_
    refine w_if_ne (tgt := 29) (x := h_ai h 49 f.toNatClampNeg) rfl (by decide) ⟨fun c3 => ?_, fun c3 => ?_⟩
    · have F := F.1 c3
      refine w_b 1 30 [(0, .ref 44), (1, .int f)] [.int 0] rfl ?_
      exact w_br rfl (by decide) F
    · have F := F.2 (Decidable.not_not.mp c3)
      refine w_b 2 30 [(0, .ref 44), (1, .int f)] [.int 1] rfl ?_
      exact w_br rfl (by decide) F

set_option maxRecDepth 20000 in
theorem t_X9_isSpan_0 {h : mm_H} {Q : Option Value → mm_H → Prop} (sh : s_h h) (f : Int32) (a : Int32) (b : Int32) 
    (F : w_c 1 118 [.ref 44, .int f] h (fun r h1 => ∃ z2 : Int32, r = some (.int z2) ∧ s_h h1 ∧ ((z2 = 0 → Q (some (.int 0)) h1) ∧ (¬ (z2 = 0) → (((f_in a.toInt64 (Int64.ofNat 0) (Int64.ofNat 48)) = 0 → Q (some (.int 0)) h1) ∧ (¬ ((f_in a.toInt64 (Int64.ofNat 0) (Int64.ofNat 48)) = 0) → (((f_in b.toInt64 (a.toInt64 + (Int64.ofNat 1)) (Int64.ofNat 48)) = 0 → Q (some (.int 0)) h1) ∧ (¬ ((f_in b.toInt64 (a.toInt64 + (Int64.ofNat 1)) (Int64.ofNat 48)) = 0) → Q (some (.int 1)) h1)))))))) :
    w_c 2 129 [.ref 44, .int f, .int a, .int b] h Q := by
  refine w_ci (M := (9, 4, mc_X9_isSpan)) rfl (Nat.le_of_ble_eq_true rfl) ?_
  show w_p _ _ 0 [(0, .ref 44), (1, .int f), (2, .int a), (3, .int b)] [] h Q
  refine w_b 2 2 [(0, .ref 44), (1, .int f), (2, .int a), (3, .int b)] [.int f, .ref 44] rfl ?_
  refine w_cv (As := [.int f]) (b := 44) (rest := []) rfl rfl rfl (Nat.le_of_ble_eq_true rfl) (kd_44 sh) (fun z => absurd z (by decide)) (dc := 1) (by omega) (F.mono (fun r h1 F => ?_))
  obtain ⟨z2, rfl, sh1, F⟩ := F
  show w_p _ _ 5 [(0, .ref 44), (1, .int f), (2, .int a), (3, .int b)] [.int z2] h1 _
  refine w_if_eq (tgt := 39) (x := z2) rfl (by decide) ⟨fun c3 => ?_, fun c3 => ?_⟩
  · have F := F.1 c3
    refine w_b 1 40 [(0, .ref 44), (1, .int f), (2, .int a), (3, .int b)] [.int 0] rfl ?_
    exact w_br rfl (by decide) F
  · have F := F.2 c3
    refine w_b 4 14 [(0, .ref 44), (1, .int f), (2, .int a), (3, .int b)] [.long (Int64.ofNat 48), .long (Int64.ofNat 0), .long a.toInt64] rfl ?_
    refine w_cs (As := [.long a.toInt64, .long (Int64.ofNat 0), .long (Int64.ofNat 48)]) (rest := []) rfl rfl rfl (Nat.le_of_ble_eq_true rfl) (dc := 0) (by omega) (sp_in  ?_)
    show w_p _ _ 17 [(0, .ref 44), (1, .int f), (2, .int a), (3, .int b)] [.int (f_in a.toInt64 (Int64.ofNat 0) (Int64.ofNat 48))] h1 _
    refine w_if_eq (tgt := 39) (x := f_in a.toInt64 (Int64.ofNat 0) (Int64.ofNat 48)) rfl (by decide) ⟨fun c4 => ?_, fun c4 => ?_⟩
    · have F := F.1 c4
      refine w_b 1 40 [(0, .ref 44), (1, .int f), (2, .int a), (3, .int b)] [.int 0] rfl ?_
      exact w_br rfl (by decide) F
    · have F := F.2 c4
      refine w_b 7 29 [(0, .ref 44), (1, .int f), (2, .int a), (3, .int b)] [.long (Int64.ofNat 48), .long (a.toInt64 + (Int64.ofNat 1)), .long b.toInt64] rfl ?_
      refine w_cs (As := [.long b.toInt64, .long (a.toInt64 + (Int64.ofNat 1)), .long (Int64.ofNat 48)]) (rest := []) rfl rfl rfl (Nat.le_of_ble_eq_true rfl) (dc := 0) (by omega) (sp_in  ?_)
      show w_p _ _ 32 [(0, .ref 44), (1, .int f), (2, .int a), (3, .int b)] [.int (f_in b.toInt64 (a.toInt64 + (Int64.ofNat 1)) (Int64.ofNat 48))] h1 _
      refine w_if_eq (tgt := 39) (x := f_in b.toInt64 (a.toInt64 + (Int64.ofNat 1)) (Int64.ofNat 48)) rfl (by decide) ⟨fun c5 => ?_, fun c5 => ?_⟩
      · have F := F.1 c5
        refine w_b 1 40 [(0, .ref 44), (1, .int f), (2, .int a), (3, .int b)] [.int 0] rfl ?_
        exact w_br rfl (by decide) F
      · have F := F.2 c5
        refine w_b 2 40 [(0, .ref 44), (1, .int f), (2, .int a), (3, .int b)] [.int 1] rfl ?_
        exact w_br rfl (by decide) F

set_option maxRecDepth 20000 in
theorem t_X9_ask_0 {h : mm_H} {Q : Option Value → mm_H → Prop} (sh : s_h h) (f : Int32) (a : Int32) (b : Int32) 
    (F : w_c 2 129 [.ref 44, .int f, .int a, .int b] h (fun r h1 => ∃ z2 : Int32, r = some (.int z2) ∧ s_h h1 ∧ ((¬ z2 = 0 → ((¬ (h_oi h1 600 44) = 10 → (vp_in (h_oi h1 600 44) 10 ∧ (vp_in (h_oi h1 600 44) 10 ∧ (vp_in (h_oi h1 600 44) 10 ∧ Q (some (.int (((h_oi h1 600 44) + 1) - (1 : Int32)))) (h_sI (h_sA (h_sA (h_sA h1 55 ((h_oi h1 600 44).toNatClampNeg) f) 56 ((h_oi h1 600 44).toNatClampNeg) a) 57 ((h_oi h1 600 44).toNatClampNeg) b) 600 44 ((h_oi h1 600 44) + 1)))))) ∧ ((h_oi h1 600 44) = 10 → Q (some (.int (-3))) h1))) ∧ (z2 = 0 → Q (some (.int (-1))) h1)))) :
    w_c 3 130 [.ref 44, .int f, .int a, .int b] h Q := by
  refine w_ci (M := (9, 4, mc_X9_ask)) rfl (Nat.le_of_ble_eq_true rfl) ?_
  show w_p _ _ 0 [(0, .ref 44), (1, .int f), (2, .int a), (3, .int b)] [] h Q
  refine w_b 4 4 [(0, .ref 44), (1, .int f), (2, .int a), (3, .int b)] [.int b, .int a, .int f, .ref 44] rfl ?_
  refine w_cv (As := [.int f, .int a, .int b]) (b := 44) (rest := []) rfl rfl rfl (Nat.le_of_ble_eq_true rfl) (kd_44 sh) (fun z => absurd z (by decide)) (dc := 2) (by omega) (F.mono (fun r h1 F => ?_))
  obtain ⟨z2, rfl, sh1, F⟩ := F
  show w_p _ _ 7 [(0, .ref 44), (1, .int f), (2, .int a), (3, .int b)] [.int z2] h1 _
  refine w_if_ne (tgt := 12) (x := z2) rfl (by decide) ⟨fun c3 => ?_, fun c3 => ?_⟩
  · have F := F.1 c3
    refine w_b 1 13 [(0, .ref 44), (1, .int f), (2, .int a), (3, .int b)] [.ref 44] rfl ?_
    refine w_get (g := 600) rfl rfl rfl (kd_44 sh1) ?_
    refine w_b 1 18 [(0, .ref 44), (1, .int f), (2, .int a), (3, .int b)] [.int 10, .int (h_oi h1 600 44)] rfl ?_
    refine w_ic_ne (tgt := 24) (x := h_oi h1 600 44) (y := 10) rfl (by decide) ⟨fun c4 => ?_, fun c4 => ?_⟩
    · have F := F.1 c4
      refine w_b 1 25 [(0, .ref 44), (1, .int f), (2, .int a), (3, .int b)] [.ref 44] rfl ?_
      refine w_getS (b := 55) rfl rfl rfl (kd_44 sh1) (or_601_44 sh1) ?_
      refine w_b 1 29 [(0, .ref 44), (1, .int f), (2, .int a), (3, .int b)] [.ref 44, .ref 55] rfl ?_
      refine w_get (g := 600) rfl rfl rfl (kd_44 sh1) ?_
      refine w_b 1 33 [(0, .ref 44), (1, .int f), (2, .int a), (3, .int b)] [.int f, .int (h_oi h1 600 44), .ref 55] rfl ?_
      obtain ⟨g5, F⟩ := F
      refine w_iast rfl (kd_55 sh1) (by decide) (by rw [show h_al h1 55 = 10 from (al_55 sh1)]; exact g5) ?_
      refine w_b 1 35 [(0, .ref 44), (1, .int f), (2, .int a), (3, .int b)] [.ref 44] rfl ?_
      refine w_getS (b := 56) rfl rfl rfl (kd_44 sh1) (or_602_44 sh1) ?_
      refine w_b 1 39 [(0, .ref 44), (1, .int f), (2, .int a), (3, .int b)] [.ref 44, .ref 56] rfl ?_
      refine w_get (g := 600) rfl rfl rfl (kd_44 sh1) ?_
      refine w_b 1 43 [(0, .ref 44), (1, .int f), (2, .int a), (3, .int b)] [.int a, .int (h_oi h1 600 44), .ref 56] rfl ?_
      obtain ⟨g6, F⟩ := F
      refine w_iast rfl (kd_56 sh1) (by decide) (by rw [show h_al (h_sA h1 55 ((h_oi h1 600 44).toNatClampNeg) f) 56 = 10 from (al_56 sh1)]; exact g6) ?_
      refine w_b 1 45 [(0, .ref 44), (1, .int f), (2, .int a), (3, .int b)] [.ref 44] rfl ?_
      refine w_getS (b := 57) rfl rfl rfl (kd_44 sh1) (or_603_44 sh1) ?_
      refine w_b 1 49 [(0, .ref 44), (1, .int f), (2, .int a), (3, .int b)] [.ref 44, .ref 57] rfl ?_
      refine w_get (g := 600) rfl rfl rfl (kd_44 sh1) ?_
      refine w_b 1 53 [(0, .ref 44), (1, .int f), (2, .int a), (3, .int b)] [.int b, .int (h_oi h1 600 44), .ref 57] rfl ?_
      obtain ⟨g7, F⟩ := F
      refine w_iast rfl (kd_57 sh1) (by decide) (by rw [show h_al (h_sA (h_sA h1 55 ((h_oi h1 600 44).toNatClampNeg) f) 56 ((h_oi h1 600 44).toNatClampNeg) a) 57 = 10 from (al_57 sh1)]; exact g7) ?_
      refine w_b 2 56 [(0, .ref 44), (1, .int f), (2, .int a), (3, .int b)] [.ref 44, .ref 44] rfl ?_
      refine w_get (g := 600) rfl rfl rfl (kd_44 sh1) ?_
      refine w_b 2 61 [(0, .ref 44), (1, .int f), (2, .int a), (3, .int b)] [.int ((h_oi h1 600 44) + 1), .ref 44] rfl ?_
      refine w_put (g := 600) (x := (h_oi h1 600 44) + 1) rfl rfl rfl (kd_44 sh1) (by decide) ?_
      refine w_b 1 65 [(0, .ref 44), (1, .int f), (2, .int a), (3, .int b)] [.ref 44] rfl ?_
      refine w_get (g := 600) rfl rfl rfl (kd_44 sh1) ?_
      refine w_b 2 70 [(0, .ref 44), (1, .int f), (2, .int a), (3, .int b)] [.int (((h_oi h1 600 44) + 1) - (1 : Int32))] rfl ?_
      exact w_ir rfl F
    · have F := F.2 (Decidable.not_not.mp c4)
      refine w_b 1 23 [(0, .ref 44), (1, .int f), (2, .int a), (3, .int b)] [.int (-3)] rfl ?_
      exact w_ir rfl F
  · have F := F.2 (Decidable.not_not.mp c3)
    refine w_b 1 11 [(0, .ref 44), (1, .int f), (2, .int a), (3, .int b)] [.int (-1)] rfl ?_
    exact w_ir rfl F

set_option maxRecDepth 20000 in
theorem t_X9_offer_0 {h : mm_H} {Q : Option Value → mm_H → Prop} (sh : s_h h) (f : Int32) (a : Int32) (b : Int32) 
    (F : w_c 2 129 [.ref 44, .int f, .int a, .int b] h (fun r h1 => ∃ z2 : Int32, r = some (.int z2) ∧ s_h h1 ∧ ((¬ z2 = 0 → ((¬ (h_oi h1 604 44) = 10 → (vp_in (h_oi h1 604 44) 10 ∧ (vp_in (h_oi h1 604 44) 10 ∧ (vp_in (h_oi h1 604 44) 10 ∧ Q (some (.int (((h_oi h1 604 44) + 1) - (1 : Int32)))) (h_sI (h_sA (h_sA (h_sA h1 58 ((h_oi h1 604 44).toNatClampNeg) f) 59 ((h_oi h1 604 44).toNatClampNeg) a) 60 ((h_oi h1 604 44).toNatClampNeg) b) 604 44 ((h_oi h1 604 44) + 1)))))) ∧ ((h_oi h1 604 44) = 10 → Q (some (.int (-3))) h1))) ∧ (z2 = 0 → Q (some (.int (-1))) h1)))) :
    w_c 3 131 [.ref 44, .int f, .int a, .int b] h Q := by
  refine w_ci (M := (9, 4, mc_X9_offer)) rfl (Nat.le_of_ble_eq_true rfl) ?_
  show w_p _ _ 0 [(0, .ref 44), (1, .int f), (2, .int a), (3, .int b)] [] h Q
  refine w_b 4 4 [(0, .ref 44), (1, .int f), (2, .int a), (3, .int b)] [.int b, .int a, .int f, .ref 44] rfl ?_
  refine w_cv (As := [.int f, .int a, .int b]) (b := 44) (rest := []) rfl rfl rfl (Nat.le_of_ble_eq_true rfl) (kd_44 sh) (fun z => absurd z (by decide)) (dc := 2) (by omega) (F.mono (fun r h1 F => ?_))
  obtain ⟨z2, rfl, sh1, F⟩ := F
  show w_p _ _ 7 [(0, .ref 44), (1, .int f), (2, .int a), (3, .int b)] [.int z2] h1 _
  refine w_if_ne (tgt := 12) (x := z2) rfl (by decide) ⟨fun c3 => ?_, fun c3 => ?_⟩
  · have F := F.1 c3
    refine w_b 1 13 [(0, .ref 44), (1, .int f), (2, .int a), (3, .int b)] [.ref 44] rfl ?_
    refine w_get (g := 604) rfl rfl rfl (kd_44 sh1) ?_
    refine w_b 1 18 [(0, .ref 44), (1, .int f), (2, .int a), (3, .int b)] [.int 10, .int (h_oi h1 604 44)] rfl ?_
    refine w_ic_ne (tgt := 24) (x := h_oi h1 604 44) (y := 10) rfl (by decide) ⟨fun c4 => ?_, fun c4 => ?_⟩
    · have F := F.1 c4
      refine w_b 1 25 [(0, .ref 44), (1, .int f), (2, .int a), (3, .int b)] [.ref 44] rfl ?_
      refine w_getS (b := 58) rfl rfl rfl (kd_44 sh1) (or_605_44 sh1) ?_
      refine w_b 1 29 [(0, .ref 44), (1, .int f), (2, .int a), (3, .int b)] [.ref 44, .ref 58] rfl ?_
      refine w_get (g := 604) rfl rfl rfl (kd_44 sh1) ?_
      refine w_b 1 33 [(0, .ref 44), (1, .int f), (2, .int a), (3, .int b)] [.int f, .int (h_oi h1 604 44), .ref 58] rfl ?_
      obtain ⟨g5, F⟩ := F
      refine w_iast rfl (kd_58 sh1) (by decide) (by rw [show h_al h1 58 = 10 from (al_58 sh1)]; exact g5) ?_
      refine w_b 1 35 [(0, .ref 44), (1, .int f), (2, .int a), (3, .int b)] [.ref 44] rfl ?_
      refine w_getS (b := 59) rfl rfl rfl (kd_44 sh1) (or_606_44 sh1) ?_
      refine w_b 1 39 [(0, .ref 44), (1, .int f), (2, .int a), (3, .int b)] [.ref 44, .ref 59] rfl ?_
      refine w_get (g := 604) rfl rfl rfl (kd_44 sh1) ?_
      refine w_b 1 43 [(0, .ref 44), (1, .int f), (2, .int a), (3, .int b)] [.int a, .int (h_oi h1 604 44), .ref 59] rfl ?_
      obtain ⟨g6, F⟩ := F
      refine w_iast rfl (kd_59 sh1) (by decide) (by rw [show h_al (h_sA h1 58 ((h_oi h1 604 44).toNatClampNeg) f) 59 = 10 from (al_59 sh1)]; exact g6) ?_
      refine w_b 1 45 [(0, .ref 44), (1, .int f), (2, .int a), (3, .int b)] [.ref 44] rfl ?_
      refine w_getS (b := 60) rfl rfl rfl (kd_44 sh1) (or_607_44 sh1) ?_
      refine w_b 1 49 [(0, .ref 44), (1, .int f), (2, .int a), (3, .int b)] [.ref 44, .ref 60] rfl ?_
      refine w_get (g := 604) rfl rfl rfl (kd_44 sh1) ?_
      refine w_b 1 53 [(0, .ref 44), (1, .int f), (2, .int a), (3, .int b)] [.int b, .int (h_oi h1 604 44), .ref 60] rfl ?_
      obtain ⟨g7, F⟩ := F
      refine w_iast rfl (kd_60 sh1) (by decide) (by rw [show h_al (h_sA (h_sA h1 58 ((h_oi h1 604 44).toNatClampNeg) f) 59 ((h_oi h1 604 44).toNatClampNeg) a) 60 = 10 from (al_60 sh1)]; exact g7) ?_
      refine w_b 2 56 [(0, .ref 44), (1, .int f), (2, .int a), (3, .int b)] [.ref 44, .ref 44] rfl ?_
      refine w_get (g := 604) rfl rfl rfl (kd_44 sh1) ?_
      refine w_b 2 61 [(0, .ref 44), (1, .int f), (2, .int a), (3, .int b)] [.int ((h_oi h1 604 44) + 1), .ref 44] rfl ?_
      refine w_put (g := 604) (x := (h_oi h1 604 44) + 1) rfl rfl rfl (kd_44 sh1) (by decide) ?_
      refine w_b 1 65 [(0, .ref 44), (1, .int f), (2, .int a), (3, .int b)] [.ref 44] rfl ?_
      refine w_get (g := 604) rfl rfl rfl (kd_44 sh1) ?_
      refine w_b 2 70 [(0, .ref 44), (1, .int f), (2, .int a), (3, .int b)] [.int (((h_oi h1 604 44) + 1) - (1 : Int32))] rfl ?_
      exact w_ir rfl F
    · have F := F.2 (Decidable.not_not.mp c4)
      refine w_b 1 23 [(0, .ref 44), (1, .int f), (2, .int a), (3, .int b)] [.int (-3)] rfl ?_
      exact w_ir rfl F
  · have F := F.2 (Decidable.not_not.mp c3)
    refine w_b 1 11 [(0, .ref 44), (1, .int f), (2, .int a), (3, .int b)] [.int (-1)] rfl ?_
    exact w_ir rfl F

/-! WHO IS A FAMILY; asks and offers -/
def cP (h : mm_H) (cn : Nat) (pr : Nat → Bool) : Prop := cn ≤ 12 ∧ h_oi h 520 16 = nI cn ∧ ∀ f, f < 12 → (h_ar h 30 f = none → ¬ (f < cn ∧ pr f = true)) ∧ ∀ q, h_ar h 30 f = some q → (f < cn ∧ pr f = true) ∧ 70 ≤ q ∧ q < h_n h ∧ h_kd h q = 1
def mP (h : mm_H) (cn : Nat) (pr : Nat → Bool) : Prop := cn ≤ 12 ∧ h_oi h 590 44 = nI cn ∧ ∀ f, f < cn → h_ai h 49 f = if pr f = true then 0 else 1
def isP (cn : Nat) (pr : Nat → Bool) (f : Int32) : Prop := ∃ j : Nat, f = nI j ∧ j < cn ∧ pr j = true
theorem sp_famC {h : mm_H} {Q : Option Value → mm_H → Prop} (sh : s_h h) {cn : Nat} {pr : Nat → Bool} (H : cP h cn pr) (f : Int32) (k1 : ¬ isP cn pr f → Q (some (va_rf none)) h) (k2 : ∀ j q, f = nI j → j < cn → pr j = true → h_ar h 30 j = some q → 70 ≤ q → q < h_n h → h_kd h q = 1 → Q (some (va_rf (some q))) h) : w_c 0 87 [.ref 16, .int f] h Q := by
  obtain ⟨h1, h2, h3⟩ := H
  refine t_X8_familyAt_0 sh f ⟨fun c => k1 ?_, fun c => ?_⟩
  · rintro ⟨j, rfl, hj, -⟩
    exact absurd c (nI_pos (by omega))
  · obtain ⟨j, hj, rfl⟩ := nat_of c
    rw [h2]
    refine ⟨fun c2 => k1 ?_, fun c2 => ?_⟩
    · rintro ⟨i, e, hi, -⟩
      rw [nI_eqI hj (by omega)] at e
      rw [i_le (by omega) hj] at c2
      omega
    · rw [i_le (by omega) hj] at c2
      refine ⟨fun _ => ⟨vp_in_nI (by omega) (by decide), ?_⟩, fun c3 => absurd (nI_lt (a := j) (b := 12) (by omega) (by decide)) c3⟩
      rw [i_cl hj]
      obtain ⟨g1, g2⟩ := h3 j (by omega)
      cases e : h_ar h 30 j with
      | none =>
        refine k1 ?_
        rintro ⟨i, e2, hi, hp⟩
        rw [nI_eqI hj (by omega)] at e2
        subst e2
        exact g1 e ⟨hi, hp⟩
      | some q =>
        obtain ⟨⟨p1, p2⟩, p3, p4, p5⟩ := g2 q e
        exact k2 j q rfl p1 p2 e p3 p4 p5
theorem sp_famM {h : mm_H} {Q : Option Value → mm_H → Prop} (sh : s_h h) {cn : Nat} {pr : Nat → Bool} (H : mP h cn pr) (f : Int32) (k1 : ¬ isP cn pr f → Q (some (.int 0)) h) (k2 : ∀ j, f = nI j → j < cn → pr j = true → Q (some (.int 1)) h) : w_c 1 118 [.ref 44, .int f] h Q := by
  obtain ⟨h1, h2, h3⟩ := H
  refine t_X9_isFamily_0 sh f ?_
  rw [h2]
  by_cases hc : cn = 0
  · subst hc
    refine ⟨fun _ => k1 ?_, fun c => ?_⟩
    · rintro ⟨j, -, hj, -⟩
      omega
    · exfalso
      apply c
      rw [f_in0]
      intro z
      have a1 := (fa_le64 _ _).mp z.1
      have a2 := (fa_le64 _ _).mp z.2
      have e : ((nI 0 - 1 : Int32).toInt64).toInt = -1 := by decide
      rw [e] at a2
      have e0 : (Int64.ofNat 0).toInt = 0 := by decide
      omega
  · have e1 : nI cn - 1 = nI (cn - 1) := by
      show nI cn - nI 1 = _
      rw [pk_sub (by omega)]
    rw [e1, wL _ (by omega)]
    refine ⟨fun c => k1 ?_, fun c => ?_⟩
    · rintro ⟨j, rfl, hj, -⟩
      exact ((f_in_nz (by decide) (by omega)).mpr ⟨(i_le (by decide) (by omega)).mpr (Nat.zero_le _), (i_le (by omega) (by omega)).mpr (by omega)⟩) c
    · have c := (f_in_nz (by decide) (by omega)).mp c
      have c0 : ¬ f < 0 := le0.mp c.1
      obtain ⟨j, hj, rfl⟩ := nat_of c0
      have c2 := (i_le hj (by omega)).mp c.2
      rw [i_cl hj, h3 j (by omega)]
      refine ⟨vp_in_nI (by omega) (by decide), fun c3 => k1 ?_, fun c3 => k2 j rfl (by omega) ?_⟩
      · rintro ⟨i, e2, hi, hp⟩
        rw [nI_eqI hj (by omega)] at e2
        subst e2
        rw [if_pos hp] at c3
        exact c3 rfl
      · by_cases hp : pr j = true
        · exact hp
        · rw [if_neg hp] at c3
          exact absurd c3 (by decide)
/-- a family, and two half hours in order -/
def isV (cn : Nat) (pr : Nat → Bool) (f a b : Int32) : Prop := isP cn pr f ∧ ∃ i j : Nat, a = nI i ∧ b = nI j ∧ i < j ∧ j ≤ 48
theorem isV_of {a b : Int32} (h1 : ¬ a < 0) (h2 : ¬ 48 < b) (h3 : a < b) : ∃ i j : Nat, a = nI i ∧ b = nI j ∧ i < j ∧ j ≤ 48 := by
  obtain ⟨i, hi, rfl⟩ := nat_of h1
  have h4 : ¬ b < 0 := fun z => by
    have a1 := (fa_lt _ _).mp h3
    have a2 := (fa_lt _ _).mp z
    rw [nI_toInt (by omega)] at a1
    have e0 : (0 : Int32).toInt = 0 := rfl
    omega
  obtain ⟨j, hj, rfl⟩ := nat_of h4
  have := (i_lt hi hj).mp h3
  have h5 : ¬ nI 48 < nI j := h2
  rw [i_lt (by decide) hj] at h5
  exact ⟨i, j, rfl, rfl, this, by omega⟩
theorem sp_spanM {h : mm_H} {Q : Option Value → mm_H → Prop} (sh : s_h h) {cn : Nat} {pr : Nat → Bool} (H : mP h cn pr) (f a b : Int32) (k1 : ¬ isV cn pr f a b → Q (some (.int 0)) h) (k2 : isV cn pr f a b → Q (some (.int 1)) h) : w_c 2 129 [.ref 44, .int f, .int a, .int b] h Q := by
  refine t_X9_isSpan_0 sh f a b (sp_famM sh H f (fun c => ⟨0, rfl, sh, fun _ => k1 (fun z => c z.1), fun z => absurd rfl z⟩) (fun j e hj hp => ⟨1, rfl, sh, fun z => absurd z (by decide), fun _ => ⟨fun c => k1 ?_, fun c => ?_⟩⟩))
  · rintro ⟨-, i, j, rfl, rfl, hij, h48⟩
    exact ((f_in_nz (by decide) (by decide)).mpr ⟨(i_le (by decide) (by omega)).mpr (Nat.zero_le _), (i_le (by omega) (by decide)).mpr (by omega)⟩) c
  · have c := (f_in_nz (by decide) (by decide)).mp c
    obtain ⟨i, hi, rfl⟩ := nat_of (le0.mp c.1)
    have hi48 := (i_le hi (by decide)).mp c.2
    have e1 : (nI i).toInt64 + Int64.ofNat 1 = lN (i + 1) := by
      rw [wL i (by omega)]
      exact lN_1 i
    have e3 : (lN (i + 1)).toInt = ((i + 1 : Nat) : Int) := lN_toInt (by omega)
    have e4 : (b.toInt64).toInt = b.toInt := Int32.toInt_toInt64 b
    rw [e1]
    refine ⟨fun c2 => k1 ?_, fun c2 => k2 ?_⟩
    · rintro ⟨-, i2, j2, e2, rfl, hij, h48⟩
      rw [nI_eqI hi (by omega)] at e2
      subst e2
      rw [f_in0] at c2
      apply c2
      rw [fa_le64, fa_le64, e3, e4, nI_toInt (by omega)]
      have e5 : (Int64.ofNat 48).toInt = 48 := by decide
      rw [e5]
      omega
    · have c3 : lN (i + 1) ≤ b.toInt64 ∧ b.toInt64 ≤ Int64.ofNat 48 := by
        by_cases z : lN (i + 1) ≤ b.toInt64 ∧ b.toInt64 ≤ Int64.ofNat 48
        · exact z
        · exact absurd (f_in0.mpr z) c2
      rw [fa_le64, fa_le64, e3, e4] at c3
      have e5 : (Int64.ofNat 48).toInt = 48 := by decide
      rw [e5] at c3
      have h4 : ¬ b < 0 := fun z => by
        have a2 := (fa_lt _ _).mp z
        have e0 : (0 : Int32).toInt = 0 := rfl
        omega
      obtain ⟨j2, hj2, rfl⟩ := nat_of h4
      rw [nI_toInt (by omega)] at c3
      exact ⟨⟨j, e, hj, hp⟩, i, j2, rfl, rfl, by omega, by omega⟩
def vC (cn : Nat) (pr : Nat → Bool) (n : Nat) (vf va vb : Nat → Nat) : Prop := n ≤ 10 ∧ ∀ i, i < n → (vf i < cn ∧ pr (vf i) = true) ∧ va i < vb i ∧ vb i ≤ 48
/-- the visits at o, o + 1 .. -/
def cV (h : mm_H) (o n : Nat) (vf va vb : Nat → Nat) : Prop := h_oi h 451 o = nI n ∧ ∀ i, i < n → h_ai h (o + 1) i = nI (vf i) ∧ h_ai h (o + 2) i = nI (va i) ∧ h_ai h (o + 3) i = nI (vb i)
def mV (h : mm_H) (g o n : Nat) (vf va vb : Nat → Nat) : Prop := h_oi h g 44 = nI n ∧ ∀ i, i < n → h_ai h o i = nI (vf i) ∧ h_ai h (o + 1) i = nI (va i) ∧ h_ai h (o + 2) i = nI (vb i)
theorem vC.add {cn : Nat} {pr : Nat → Bool} {n : Nat} {vf va vb : Nat → Nat} {f a b : Int32} (H : vC cn pr n vf va vb) (hn : n < 10) (V : isV cn pr f a b) (hcn : cn ≤ 12) : vC cn pr (n + 1) (va_up vf n f.toNatClampNeg) (va_up va n a.toNatClampNeg) (va_up vb n b.toNatClampNeg) := by
  obtain ⟨⟨j, rfl, hj, hp⟩, i1, i2, rfl, rfl, hij, h48⟩ := V
  refine ⟨by omega, fun i hi => ?_⟩
  by_cases e : i = n
  · subst e
    rw [va_up_self, va_up_self, va_up_self, i_cl (by omega), i_cl (by omega), i_cl (by omega)]
    exact ⟨⟨hj, hp⟩, hij, h48⟩
  · rw [va_up_ne _ _ e, va_up_ne _ _ e, va_up_ne _ _ e]
    exact H.2 i (by omega)
/-- ask(f, a, b) of the circle and of the reference: no such visit, no room, or a visit more -/
theorem c_ask {h : mm_H} {Q : Option Value → mm_H → Prop} (sh : s_h h) {cn : Nat} {pr : Nat → Bool} (P : cP h cn pr) {n : Nat} {vf va vb : Nat → Nat} (Vc : vC cn pr n vf va vb) (V : cV h 31 n vf va vb) (f a b : Int32) (k1 : ¬ isV cn pr f a b → Q (some (.int (-1))) h) (k2 : isV cn pr f a b → n = 10 → Q (some (.int (-3))) h)
    (k3 : isV cn pr f a b → n < 10 → ∀ h', fx h h' [(451, 31)] [32, 33, 34] → dn h h' → cV h' 31 (n + 1) (va_up vf n f.toNatClampNeg) (va_up va n a.toNatClampNeg) (va_up vb n b.toNatClampNeg) → Q (some (.int (nI n))) h') : w_c 2 73 [.ref 16, .int f, .int a, .int b] h Q := by
  have hn := Vc.1
  refine t_X8_ask_0 sh f a b (t_X8_addVisit_31_0 sh f a b (sp_famC sh P f (fun c => ⟨none, rfl, sh, fun _ => ⟨_, rfl, sh, k1 (fun z => c z.1)⟩, fun _ z => (by cases z)⟩) (fun j q e hj hp hq q1 q2 q3 => ⟨some q, rfl, sh, fun z => (by cases z), fun q4 _ => ⟨fun c => ?_, fun c => ⟨fun c2 => ?_, fun c2 => ⟨fun c3 => ?_, fun c3 => ?_⟩⟩⟩⟩)))
  · refine ⟨_, rfl, sh, k1 ?_⟩
    rintro ⟨-, i, j, rfl, rfl, hij, h48⟩
    exact absurd c (nI_pos (by omega))
  · refine ⟨_, rfl, sh, k1 ?_⟩
    rintro ⟨-, i, j, rfl, rfl, -, h48⟩
    have c2 : nI 48 < nI j := c2
    rw [i_lt (by decide) (by omega)] at c2
    omega
  · have hV : isV cn pr f a b := ⟨⟨j, e, hj, hp⟩, isV_of c c2 c3⟩
    refine t_X7_add_31_0 sh f a b ?_
    rw [V.1]
    refine ⟨fun c4 => ?_, fun c4 => ?_⟩
    · have c4 : n < 10 := (i_lt (b := 10) (by omega) (by decide)).mp c4
      have hv : vp_in (nI n) 10 := vp_in_nI c4 (by decide)
      rw [i_cl (by omega)]
      have f1 : fx h (h_sI (h_sA (h_sA (h_sA h 32 n f) 33 n a) 34 n b) 451 31 (nI n + 1)) [(451, 31)] [32, 33, 34] := ((((fx.rf _ _ _).sA _ _ (by decide)).sA _ _ (by decide)).sA _ _ (by decide)).sI _ (by decide)
      refine ⟨hv, hv, hv, 1, rfl, f1.sh sh (by decide), fun z => absurd z (by decide), fun _ => ?_⟩
      refine ⟨_, rfl, f1.sh sh (by decide), ?_⟩
      have e9 : h_oi (h_sI (h_sA (h_sA (h_sA h 32 n f) 33 n a) 34 n b) 451 31 (nI n + 1)) 451 31 - 1 = nI n := by
        show nI n + 1 - 1 = nI n
        rw [nI_1, nI_pred]
      rw [e9]
      obtain ⟨⟨j', rfl, hj', hp'⟩, i1, i2, rfl, rfl, hij, h48⟩ := id hV
      have hcn := P.1
      refine k3 hV c4 _ f1 ((((((dn.rf _).sA _ _ (by decide)).sA _ _ (by decide)).sA _ _ (by decide)).sI _ (by decide))) ⟨nI_1 n, fun i hi => ?_⟩
      show va_up (h_ai h 32) n (nI j') i = _ ∧ va_up (h_ai h 33) n (nI i1) i = _ ∧ va_up (h_ai h 34) n (nI i2) i = _
      by_cases e : i = n
      · subst e
        rw [va_up_self, va_up_self, va_up_self, va_up_self, va_up_self, va_up_self, i_cl (by omega), i_cl (by omega), i_cl (by omega)]
        exact ⟨rfl, rfl, rfl⟩
      · rw [va_up_ne _ _ e, va_up_ne _ _ e, va_up_ne _ _ e, va_up_ne _ _ e, va_up_ne _ _ e, va_up_ne _ _ e]
        exact V.2 i (by omega)
    · have c4 : ¬ nI n < nI 10 := c4
      rw [i_lt (by omega) (by decide)] at c4
      exact ⟨0, rfl, sh, fun _ => ⟨_, rfl, sh, k2 hV (by omega)⟩, fun z => absurd rfl z⟩
  · refine ⟨_, rfl, sh, k1 ?_⟩
    rintro ⟨-, i, j, rfl, rfl, hij, h48⟩
    exact c3 ((i_lt (by omega) (by omega)).mpr hij)
theorem m_ask {h : mm_H} {Q : Option Value → mm_H → Prop} (sh : s_h h) {cn : Nat} {pr : Nat → Bool} (P : mP h cn pr) {n : Nat} {vf va vb : Nat → Nat} (Vc : vC cn pr n vf va vb) (V : mV h 600 55 n vf va vb) (f a b : Int32) (k1 : ¬ isV cn pr f a b → Q (some (.int (-1))) h) (k2 : isV cn pr f a b → n = 10 → Q (some (.int (-3))) h)
    (k3 : isV cn pr f a b → n < 10 → ∀ h', fx h h' [(600, 44)] [55, 56, 57] → dn h h' → mV h' 600 55 (n + 1) (va_up vf n f.toNatClampNeg) (va_up va n a.toNatClampNeg) (va_up vb n b.toNatClampNeg) → Q (some (.int (nI n))) h') : w_c 3 130 [.ref 44, .int f, .int a, .int b] h Q := by
  have hn := Vc.1
  refine t_X9_ask_0 sh f a b (sp_spanM sh P f a b (fun c => ⟨0, rfl, sh, fun z => absurd rfl z, fun _ => k1 c⟩) (fun hV => ⟨1, rfl, sh, fun _ => ?_, fun z => absurd z (by decide)⟩))
  rw [V.1]
  refine ⟨fun c => ?_, fun c => k2 hV ((nI_eqI (b := 10) (by omega) (by decide)).mp c)⟩
  have c4 : n < 10 := by
    have : n ≠ 10 := fun z => c (by rw [z]; rfl)
    omega
  have hv : vp_in (nI n) 10 := vp_in_nI c4 (by decide)
  rw [i_cl (by omega)]
  refine ⟨hv, hv, hv, ?_⟩
  rw [show nI n + 1 - 1 = nI n by rw [nI_1, nI_pred]]
  obtain ⟨⟨j', rfl, hj', hp'⟩, i1, i2, rfl, rfl, hij, h48⟩ := id hV
  have hcn := P.1
  refine k3 hV c4 _ (((((fx.rf _ _ _).sA _ _ (by decide)).sA _ _ (by decide)).sA _ _ (by decide)).sI _ (by decide)) (((((dn.rf _).sA _ _ (by decide)).sA _ _ (by decide)).sA _ _ (by decide)).sI _ (by decide)) ⟨nI_1 n, fun i hi => ?_⟩
  show va_up (h_ai h 55) n (nI j') i = _ ∧ va_up (h_ai h 56) n (nI i1) i = _ ∧ va_up (h_ai h 57) n (nI i2) i = _
  by_cases e : i = n
  · subst e
    rw [va_up_self, va_up_self, va_up_self, va_up_self, va_up_self, va_up_self, i_cl (by omega), i_cl (by omega), i_cl (by omega)]
    exact ⟨rfl, rfl, rfl⟩
  · rw [va_up_ne _ _ e, va_up_ne _ _ e, va_up_ne _ _ e, va_up_ne _ _ e, va_up_ne _ _ e, va_up_ne _ _ e]
    exact V.2 i (by omega)
/-- offer(f, a, b) of the circle and of the reference: no such visit, no room, or a visit more -/
theorem c_offer {h : mm_H} {Q : Option Value → mm_H → Prop} (sh : s_h h) {cn : Nat} {pr : Nat → Bool} (P : cP h cn pr) {n : Nat} {vf va vb : Nat → Nat} (Vc : vC cn pr n vf va vb) (V : cV h 35 n vf va vb) (f a b : Int32) (k1 : ¬ isV cn pr f a b → Q (some (.int (-1))) h) (k2 : isV cn pr f a b → n = 10 → Q (some (.int (-3))) h)
    (k3 : isV cn pr f a b → n < 10 → ∀ h', fx h h' [(451, 35)] [36, 37, 38] → dn h h' → cV h' 35 (n + 1) (va_up vf n f.toNatClampNeg) (va_up va n a.toNatClampNeg) (va_up vb n b.toNatClampNeg) → Q (some (.int (nI n))) h') : w_c 2 74 [.ref 16, .int f, .int a, .int b] h Q := by
  have hn := Vc.1
  refine t_X8_offer_0 sh f a b (t_X8_addVisit_35_0 sh f a b (sp_famC sh P f (fun c => ⟨none, rfl, sh, fun _ => ⟨_, rfl, sh, k1 (fun z => c z.1)⟩, fun _ z => (by cases z)⟩) (fun j q e hj hp hq q1 q2 q3 => ⟨some q, rfl, sh, fun z => (by cases z), fun q4 _ => ⟨fun c => ?_, fun c => ⟨fun c2 => ?_, fun c2 => ⟨fun c3 => ?_, fun c3 => ?_⟩⟩⟩⟩)))
  · refine ⟨_, rfl, sh, k1 ?_⟩
    rintro ⟨-, i, j, rfl, rfl, hij, h48⟩
    exact absurd c (nI_pos (by omega))
  · refine ⟨_, rfl, sh, k1 ?_⟩
    rintro ⟨-, i, j, rfl, rfl, -, h48⟩
    have c2 : nI 48 < nI j := c2
    rw [i_lt (by decide) (by omega)] at c2
    omega
  · have hV : isV cn pr f a b := ⟨⟨j, e, hj, hp⟩, isV_of c c2 c3⟩
    refine t_X7_add_35_0 sh f a b ?_
    rw [V.1]
    refine ⟨fun c4 => ?_, fun c4 => ?_⟩
    · have c4 : n < 10 := (i_lt (b := 10) (by omega) (by decide)).mp c4
      have hv : vp_in (nI n) 10 := vp_in_nI c4 (by decide)
      rw [i_cl (by omega)]
      have f1 : fx h (h_sI (h_sA (h_sA (h_sA h 36 n f) 37 n a) 38 n b) 451 35 (nI n + 1)) [(451, 35)] [36, 37, 38] := ((((fx.rf _ _ _).sA _ _ (by decide)).sA _ _ (by decide)).sA _ _ (by decide)).sI _ (by decide)
      refine ⟨hv, hv, hv, 1, rfl, f1.sh sh (by decide), fun z => absurd z (by decide), fun _ => ?_⟩
      refine ⟨_, rfl, f1.sh sh (by decide), ?_⟩
      have e9 : h_oi (h_sI (h_sA (h_sA (h_sA h 36 n f) 37 n a) 38 n b) 451 35 (nI n + 1)) 451 35 - 1 = nI n := by
        show nI n + 1 - 1 = nI n
        rw [nI_1, nI_pred]
      rw [e9]
      obtain ⟨⟨j', rfl, hj', hp'⟩, i1, i2, rfl, rfl, hij, h48⟩ := id hV
      have hcn := P.1
      refine k3 hV c4 _ f1 ((((((dn.rf _).sA _ _ (by decide)).sA _ _ (by decide)).sA _ _ (by decide)).sI _ (by decide))) ⟨nI_1 n, fun i hi => ?_⟩
      show va_up (h_ai h 36) n (nI j') i = _ ∧ va_up (h_ai h 37) n (nI i1) i = _ ∧ va_up (h_ai h 38) n (nI i2) i = _
      by_cases e : i = n
      · subst e
        rw [va_up_self, va_up_self, va_up_self, va_up_self, va_up_self, va_up_self, i_cl (by omega), i_cl (by omega), i_cl (by omega)]
        exact ⟨rfl, rfl, rfl⟩
      · rw [va_up_ne _ _ e, va_up_ne _ _ e, va_up_ne _ _ e, va_up_ne _ _ e, va_up_ne _ _ e, va_up_ne _ _ e]
        exact V.2 i (by omega)
    · have c4 : ¬ nI n < nI 10 := c4
      rw [i_lt (by omega) (by decide)] at c4
      exact ⟨0, rfl, sh, fun _ => ⟨_, rfl, sh, k2 hV (by omega)⟩, fun z => absurd rfl z⟩
  · refine ⟨_, rfl, sh, k1 ?_⟩
    rintro ⟨-, i, j, rfl, rfl, hij, h48⟩
    exact c3 ((i_lt (by omega) (by omega)).mpr hij)
theorem m_offer {h : mm_H} {Q : Option Value → mm_H → Prop} (sh : s_h h) {cn : Nat} {pr : Nat → Bool} (P : mP h cn pr) {n : Nat} {vf va vb : Nat → Nat} (Vc : vC cn pr n vf va vb) (V : mV h 604 58 n vf va vb) (f a b : Int32) (k1 : ¬ isV cn pr f a b → Q (some (.int (-1))) h) (k2 : isV cn pr f a b → n = 10 → Q (some (.int (-3))) h)
    (k3 : isV cn pr f a b → n < 10 → ∀ h', fx h h' [(604, 44)] [58, 59, 60] → dn h h' → mV h' 604 58 (n + 1) (va_up vf n f.toNatClampNeg) (va_up va n a.toNatClampNeg) (va_up vb n b.toNatClampNeg) → Q (some (.int (nI n))) h') : w_c 3 131 [.ref 44, .int f, .int a, .int b] h Q := by
  have hn := Vc.1
  refine t_X9_offer_0 sh f a b (sp_spanM sh P f a b (fun c => ⟨0, rfl, sh, fun z => absurd rfl z, fun _ => k1 c⟩) (fun hV => ⟨1, rfl, sh, fun _ => ?_, fun z => absurd z (by decide)⟩))
  rw [V.1]
  refine ⟨fun c => ?_, fun c => k2 hV ((nI_eqI (b := 10) (by omega) (by decide)).mp c)⟩
  have c4 : n < 10 := by
    have : n ≠ 10 := fun z => c (by rw [z]; rfl)
    omega
  have hv : vp_in (nI n) 10 := vp_in_nI c4 (by decide)
  rw [i_cl (by omega)]
  refine ⟨hv, hv, hv, ?_⟩
  rw [show nI n + 1 - 1 = nI n by rw [nI_1, nI_pred]]
  obtain ⟨⟨j', rfl, hj', hp'⟩, i1, i2, rfl, rfl, hij, h48⟩ := id hV
  have hcn := P.1
  refine k3 hV c4 _ (((((fx.rf _ _ _).sA _ _ (by decide)).sA _ _ (by decide)).sA _ _ (by decide)).sI _ (by decide)) (((((dn.rf _).sA _ _ (by decide)).sA _ _ (by decide)).sA _ _ (by decide)).sI _ (by decide)) ⟨nI_1 n, fun i hi => ?_⟩
  show va_up (h_ai h 58) n (nI j') i = _ ∧ va_up (h_ai h 59) n (nI i1) i = _ ∧ va_up (h_ai h 60) n (nI i2) i = _
  by_cases e : i = n
  · subst e
    rw [va_up_self, va_up_self, va_up_self, va_up_self, va_up_self, va_up_self, i_cl (by omega), i_cl (by omega), i_cl (by omega)]
    exact ⟨rfl, rfl, rfl⟩
  · rw [va_up_ne _ _ e, va_up_ne _ _ e, va_up_ne _ _ e, va_up_ne _ _ e, va_up_ne _ _ e, va_up_ne _ _ e]
    exact V.2 i (by omega)
end
section
/-! MATCHINGS: t gives each offer the ask that has it -/
def mtc (fit : Nat → Nat → Bool) (lo hi : Nat) (F : Nat → Bool) (no : Nat) (t : Nat → Option Nat) : Prop := ∀ o, o < no → ∀ a, t o = some a → (lo ≤ a ∧ a < hi) ∧ F o = true ∧ fit a o = true ∧ ∀ o2, o2 < no → t o2 = some a → o2 = o
def msz (no : Nat) (t : Nat → Option Nat) : Nat := fb_ct (fun o => (t o).isSome) no
/-- s is the most pairs of the asks from lo on and below hi -/
def mx (fit : Nat → Nat → Bool) (lo hi : Nat) (F : Nat → Bool) (no s : Nat) : Prop := (∃ t, mtc fit lo hi F no t ∧ msz no t = s) ∧ ∀ t, mtc fit lo hi F no t → msz no t ≤ s
section MX
variable {fit : Nat → Nat → Bool} {lo hi k : Nat} {F : Nat → Bool} {no s : Nat} {t : Nat → Option Nat}
theorem mx_one {s2 : Nat} (h1 : mx fit lo hi F no s) (h2 : mx fit lo hi F no s2) : s = s2 := by
  obtain ⟨⟨t1, a1, b1⟩, c1⟩ := h1
  obtain ⟨⟨t2, a2, b2⟩, c2⟩ := h2
  have x := c1 t2 a2
  have y := c2 t1 a1
  omega
theorem mx_0 : mx fit lo lo F no 0 ∧ mtc fit lo lo F no (fun _ => none) ∧ msz no (fun _ => none) = 0 := by
  have e : msz no (fun _ => none) = 0 := fb_ct_zero.mpr (fun _ _ => rfl)
  refine ⟨⟨⟨fun _ => none, fun o _ a h => (by cases h), e⟩, fun t ht => ?_⟩, fun o _ a h => (by cases h), e⟩
  have : msz no t = 0 := fb_ct_zero.mpr (fun o ho => by
    cases e : t o with
    | none => rfl
    | some a =>
      have := (ht o ho a e).1
      omega)
  omega
/-- an ask more, and no way to it: as many pairs as before -/
theorem mx_no (hm : mtc fit lo k F no t) (hx : ∀ t, mtc fit lo k F no t → msz no t ≤ s) (hs : msz no t = s) (V : Nat → Prop) (T : Nat → Bool) (hk : V k) (h1 : ∀ a, V a → ∀ o, o < no → F o = true → fit a o = true → T o = true) (h2 : ∀ o, o < no → T o = true → ∃ a, t o = some a ∧ V a) : mtc fit lo (k + 1) F no t ∧ ∀ t2, mtc fit lo (k + 1) F no t2 → msz no t2 ≤ s := by
  refine ⟨fun o ho a e => ?_, fun t2 h3 => ?_⟩
  · obtain ⟨p1, p2⟩ := hm o ho a e
    exact ⟨⟨p1.1, by omega⟩, p2⟩
  · have key : mtc fit lo k F no (fun o => if T o = true then t o else t2 o) := by
      have inT : ∀ o, o < no → ∀ a, t2 o = some a → V a → T o = true := fun o ho a e hv => by
        obtain ⟨-, p2, p3, -⟩ := h3 o ho a e
        exact h1 a hv o ho p2 p3
      intro o ho a e
      have e : (if T o = true then t o else t2 o) = some a := e
      by_cases c : T o = true
      · rw [if_pos c] at e
        obtain ⟨p1, p2, p3, p4⟩ := hm o ho a e
        obtain ⟨a2, e2, hv⟩ := h2 o ho c
        have ea : a2 = a := Option.some.inj (e2.symm.trans e)
        subst ea
        refine ⟨p1, p2, p3, fun o2 ho2 e3 => ?_⟩
        have e3 : (if T o2 = true then t o2 else t2 o2) = some a2 := e3
        by_cases c2 : T o2 = true
        · rw [if_pos c2] at e3
          exact p4 o2 ho2 e3
        · rw [if_neg c2] at e3
          exact absurd (inT o2 ho2 a2 e3 hv) c2
      · rw [if_neg c] at e
        obtain ⟨p1, p2, p3, p4⟩ := h3 o ho a e
        have hv : ¬ V a := fun z => c (inT o ho a e z)
        have hak : a ≠ k := fun z => hv (by rw [z]; exact hk)
        refine ⟨⟨p1.1, by omega⟩, p2, p3, fun o2 ho2 e3 => ?_⟩
        have e3 : (if T o2 = true then t o2 else t2 o2) = some a := e3
        by_cases c2 : T o2 = true
        · rw [if_pos c2] at e3
          obtain ⟨a2, e2, hv2⟩ := h2 o2 ho2 c2
          have ea : a2 = a := Option.some.inj (e2.symm.trans e3)
          subst ea
          exact absurd hv2 hv
        · rw [if_neg c2] at e3
          exact p4 o2 ho2 e3
    refine Nat.le_trans (fb_ct_sub (fun o ho e => ?_)) (hx _ key)
    show ((if T o = true then t o else t2 o) : Option Nat).isSome = true
    by_cases c : T o = true
    · rw [if_pos c]
      obtain ⟨a2, e2, -⟩ := h2 o ho c
      rw [e2]
      rfl
    · rw [if_neg c]
      exact e
/-- an ask more, and a pair more -/
theorem mx_yes {t2 : Nat → Option Nat} (hx : ∀ t, mtc fit lo k F no t → msz no t ≤ s) (h2 : mtc fit lo (k + 1) F no t2) (hs : msz no t2 = s + 1) : ∀ t3, mtc fit lo (k + 1) F no t3 → msz no t3 ≤ s + 1 := by
  intro t3 h3
  have key : mtc fit lo k F no (fun o => if t3 o = some k then none else t3 o) := by
    intro o ho a e
    have e : (if t3 o = some k then none else t3 o) = some a := e
    by_cases c : t3 o = some k
    · rw [if_pos c] at e; cases e
    · rw [if_neg c] at e
      obtain ⟨p1, p2, p3, p4⟩ := h3 o ho a e
      have hak : a ≠ k := fun z => c (by rw [e, z])
      refine ⟨⟨p1.1, by omega⟩, p2, p3, fun o2 ho2 e3 => ?_⟩
      have e3 : (if t3 o2 = some k then none else t3 o2) = some a := e3
      by_cases c2 : t3 o2 = some k
      · rw [if_pos c2] at e3; cases e3
      · rw [if_neg c2] at e3
        exact p4 o2 ho2 e3
  have h4 := hx _ key
  -- at most one offer goes
  have h5 : msz no t3 ≤ msz no (fun o => if t3 o = some k then none else t3 o) + 1 := by
    by_cases c : ∃ o, o < no ∧ t3 o = some k
    · obtain ⟨o0, ho0, e0⟩ := c
      have e1 := fb_ct_upd (fun o => (t3 o).isSome) false ho0
      have e2 : fb_ct (fun q => if q = o0 then false else (t3 q).isSome) no ≤ msz no (fun o => if t3 o = some k then none else t3 o) := fb_ct_sub (fun q hq hz => by
        have hz : (if q = o0 then false else (t3 q).isSome) = true := hz
        by_cases z : q = o0
        · rw [if_pos z] at hz; cases hz
        · rw [if_neg z] at hz
          show ((if t3 q = some k then none else t3 q) : Option Nat).isSome = true
          rw [if_neg (fun y => z ((h3 o0 ho0 k e0).2.2.2 q hq y))]
          exact hz)
      have e3 : (if (t3 o0).isSome = true then 1 else 0) = 1 := by rw [e0]; rfl
      have e1 : fb_ct (fun q => if q = o0 then false else (t3 q).isSome) no + (if (t3 o0).isSome = true then 1 else 0) = fb_ct (fun o => (t3 o).isSome) no + (if false = true then 1 else 0) := e1
      rw [e3] at e1
      have e4 : (if false = true then 1 else 0 : Nat) = 0 := rfl
      show fb_ct (fun o => (t3 o).isSome) no ≤ _
      omega
    · refine Nat.le_trans (fb_ct_sub (fun q hq hz => ?_)) (Nat.le_succ _)
      show ((if t3 q = some k then none else t3 q) : Option Nat).isSome = true
      rw [if_neg (fun y => c ⟨q, hq, y⟩)]
      exact hz
  omega
end MX
/-! WAYS: from t one ask more is given an offer, outside the offers T -/
def mpre (fit : Nat → Nat → Bool) (F : Nat → Bool) (no : Nat) (T : Nat → Bool) (t : Nat → Option Nat) (ask : Nat) : Prop := (∀ o o2, o < no → o2 < no → T o = false → T o2 = false → ∀ a, t o = some a → t o2 = some a → o = o2) ∧ ∀ o, o < no → T o = false → ∀ a, t o = some a → F o = true ∧ fit a o = true ∧ a ≠ ask
def maug (fit : Nat → Nat → Bool) (F : Nat → Bool) (no : Nat) (T : Nat → Bool) (t : Nat → Option Nat) (ask : Nat) (t2 : Nat → Option Nat) : Prop := (∀ o, o < no → T o = true → t2 o = t o) ∧ (∀ o, o < no → T o = false → ∀ a, t2 o = some a → (a = ask ∨ ∃ o1, o1 < no ∧ T o1 = false ∧ t o1 = some a) ∧ F o = true ∧ fit a o = true) ∧ (∀ o o2, o < no → o2 < no → T o = false → T o2 = false → ∀ a, t2 o = some a → t2 o2 = some a → o = o2) ∧ fb_ct (fun o => !T o && (t2 o).isSome) no = fb_ct (fun o => !T o && (t o).isSome) no + 1
section MA
variable {fit : Nat → Nat → Bool} {F : Nat → Bool} {no : Nat} {T T2 : Nat → Bool} {t t2 : Nat → Option Nat} {ask o a2 : Nat}
theorem mct_up {p : Nat → Bool} {q : Nat → Bool} (ho : o < no) (h : ∀ i, i < no → i ≠ o → q i = p i) : fb_ct q no + (if p o = true then 1 else 0) = fb_ct p no + (if q o = true then 1 else 0) := by
  have e := fb_ct_upd p (q o) ho
  have e2 : fb_ct (fun k => if k = o then q o else p k) no = fb_ct q no := fb_ct_cong (fun i hi => by
    by_cases z : i = o
    · subst z; exact if_pos rfl
    · show (if i = o then q o else p i) = q i
      rw [if_neg z]
      exact (h i hi z).symm)
  rw [e2] at e
  exact e
theorem maug_here (hp : mpre fit F no T t ask) (ho : o < no) (hT : T o = false) (hF : F o = true) (hf : fit ask o = true) (e : t o = none) : maug fit F no T t ask (va_up t o (some ask)) := by
  refine ⟨fun i hi hti => ?_, fun i hi hti a h => ?_, fun i j hi hj hti htj a h1 h2 => ?_, ?_⟩
  · rw [va_up_ne _ _ (fun z => by rw [z, hT] at hti; cases hti)]
  · by_cases z : i = o
    · subst z
      rw [va_up_self] at h
      cases h
      exact ⟨Or.inl rfl, hF, hf⟩
    · rw [va_up_ne _ _ z] at h
      obtain ⟨p1, p2, -⟩ := hp.2 i hi hti a h
      exact ⟨Or.inr ⟨i, hi, hti, h⟩, p1, p2⟩
  · by_cases z : i = o
    · subst z
      rw [va_up_self] at h1
      cases h1
      by_cases y : j = i
      · exact y.symm
      · rw [va_up_ne _ _ y] at h2
        exact absurd rfl (hp.2 j hj htj ask h2).2.2
    · rw [va_up_ne _ _ z] at h1
      by_cases y : j = o
      · subst y
        rw [va_up_self] at h2
        cases h2
        exact absurd rfl (hp.2 i hi hti ask h1).2.2
      · rw [va_up_ne _ _ y] at h2
        exact hp.1 i j hi hj hti htj a h1 h2
  · have h := mct_up (p := fun o => !T o && (t o).isSome) (q := fun i => !T i && (va_up t o (some ask) i).isSome) ho (fun i _ z => by show (!T i && (va_up t o (some ask) i).isSome) = _; rw [va_up_ne _ _ z])
    have e1 : (!T o && (t o).isSome) = false := by rw [e]; simp
    have e2 : (!T o && (va_up t o (some ask) o).isSome) = true := by rw [va_up_self, hT]; rfl
    simp only [e1, e2] at h
    simpa using h
theorem mpre_deep (hp : mpre fit F no T t ask) (ho : o < no) (hT : T o = false) (e : t o = some a2) : mpre fit F no (va_up T o true) t a2 := by
  have key : ∀ i, va_up T o true i = false → i ≠ o ∧ T i = false := fun i hi => by
    by_cases z : i = o
    · rw [z, va_up_self] at hi; cases hi
    · rw [va_up_ne _ _ z] at hi
      exact ⟨z, hi⟩
  refine ⟨fun i j hi hj hti htj a h1 h2 => hp.1 i j hi hj (key i hti).2 (key j htj).2 a h1 h2, fun i hi hti a h => ?_⟩
  obtain ⟨p1, p2, -⟩ := hp.2 i hi (key i hti).2 a h
  refine ⟨p1, p2, fun z => ?_⟩
  subst z
  exact (key i hti).1 (hp.1 i o hi ho (key i hti).2 hT a h e)
theorem maug_deep (hp : mpre fit F no T t ask) (ho : o < no) (hT : T o = false) (hF : F o = true) (hf : fit ask o = true) (e : t o = some a2) (h : maug fit F no (va_up T o true) t a2 t2) : maug fit F no T t ask (va_up t2 o (some ask)) := by
  obtain ⟨g1, g2, g3, g4⟩ := h
  have tn : ∀ i, i ≠ o → va_up T o true i = T i := fun i z => va_up_ne _ _ z
  have no_ask : ∀ i, i < no → i ≠ o → T i = false → t2 i ≠ some ask := fun i hi z hti h => by
    obtain ⟨hor, -, -⟩ := g2 i hi (by rw [tn i z]; exact hti) ask h
    rcases hor with rfl | ⟨o1, h1, h2, h3⟩
    · exact (hp.2 o ho hT _ e).2.2 rfl
    · have z1 : o1 ≠ o := fun y => by rw [y, va_up_self] at h2; cases h2
      rw [tn o1 z1] at h2
      exact (hp.2 o1 h1 h2 _ h3).2.2 rfl
  refine ⟨fun i hi hti => ?_, fun i hi hti a h => ?_, fun i j hi hj hti htj a h1 h2 => ?_, ?_⟩
  · have z : i ≠ o := fun z => by rw [z, hT] at hti; cases hti
    rw [va_up_ne _ _ z]
    exact g1 i hi (by rw [tn i z]; exact hti)
  · by_cases z : i = o
    · subst z
      rw [va_up_self] at h
      cases h
      exact ⟨Or.inl rfl, hF, hf⟩
    · rw [va_up_ne _ _ z] at h
      obtain ⟨hor, p1, p2⟩ := g2 i hi (by rw [tn i z]; exact hti) a h
      refine ⟨Or.inr ?_, p1, p2⟩
      rcases hor with rfl | ⟨o1, h1, h2, h3⟩
      · exact ⟨o, ho, hT, e⟩
      · have z1 : o1 ≠ o := fun y => by rw [y, va_up_self] at h2; cases h2
        rw [tn o1 z1] at h2
        exact ⟨o1, h1, h2, h3⟩
  · by_cases z : i = o
    · subst z
      rw [va_up_self] at h1
      cases h1
      by_cases y : j = i
      · exact y.symm
      · rw [va_up_ne _ _ y] at h2
        exact absurd h2 (no_ask j hj y htj)
    · rw [va_up_ne _ _ z] at h1
      by_cases y : j = o
      · subst y
        rw [va_up_self] at h2
        cases h2
        exact absurd h1 (no_ask i hi z hti)
      · rw [va_up_ne _ _ y] at h2
        exact g3 i j hi hj (by rw [tn i z]; exact hti) (by rw [tn j y]; exact htj) a h1 h2
  · have c1 := mct_up (p := fun i => !T i && (t i).isSome) (q := fun i => !va_up T o true i && (t i).isSome) ho (fun i _ z => by show (!va_up T o true i && (t i).isSome) = _; rw [va_up_ne _ _ z])
    have c2 := mct_up (p := fun i => !va_up T o true i && (t2 i).isSome) (q := fun i => !T i && (va_up t2 o (some ask) i).isSome) ho (fun i _ z => by show (!T i && (va_up t2 o (some ask) i).isSome) = (!va_up T o true i && (t2 i).isSome); rw [va_up_ne _ _ z, va_up_ne _ _ z])
    have e1 : (!T o && (t o).isSome) = true := by rw [e, hT]; rfl
    have e2 : (!va_up T o true o && (t o).isSome) = false := by rw [va_up_self]; rfl
    have e3 : (!va_up T o true o && (t2 o).isSome) = false := by rw [va_up_self]; rfl
    have e4 : (!T o && (va_up t2 o (some ask) o).isSome) = true := by rw [va_up_self, hT]; rfl
    simp only [e1, e2] at c1
    simp only [e3, e4] at c2
    simp at c1 c2
    omega
theorem mpre_more (hp : mpre fit F no T t ask) (hs : ∀ i, i < no → T i = true → T2 i = true) : mpre fit F no T2 t ask := by
  have key : ∀ i, i < no → T2 i = false → T i = false := fun i hi h => by
    cases e : T i with
    | false => rfl
    | true => rw [hs i hi e] at h; cases h
  exact ⟨fun i j hi hj hti htj a h1 h2 => hp.1 i j hi hj (key i hi hti) (key j hj htj) a h1 h2, fun i hi hti a h => hp.2 i hi (key i hi hti) a h⟩
theorem maug_less (hp : mpre fit F no T t ask) (hs : ∀ i, i < no → T i = true → T2 i = true) (h : maug fit F no T2 t ask t2) : maug fit F no T t ask t2 := by
  have key : ∀ i, i < no → T2 i = false → T i = false := fun i hi h => by
    cases e : T i with
    | false => rfl
    | true => rw [hs i hi e] at h; cases h
  obtain ⟨g1, g2, g3, g4⟩ := h
  have cross : ∀ i j, i < no → j < no → T i = false → T2 i = true → T2 j = false → ∀ a, t2 i = some a → t2 j = some a → False := fun i j hi hj hti hti2 htj a h1 h2 => by
    rw [g1 i hi hti2] at h1
    obtain ⟨hor, -, -⟩ := g2 j hj htj a h2
    rcases hor with rfl | ⟨o1, k1, k2, k3⟩
    · exact (hp.2 i hi hti _ h1).2.2 rfl
    · have := hp.1 i o1 hi k1 hti (key o1 k1 k2) a h1 k3
      subst this
      rw [hti2] at k2
      cases k2
  refine ⟨fun i hi hti => g1 i hi (hs i hi hti), fun i hi hti a h => ?_, fun i j hi hj hti htj a h1 h2 => ?_, ?_⟩
  · cases e : T2 i with
    | true =>
      rw [g1 i hi e] at h
      obtain ⟨p1, p2, -⟩ := hp.2 i hi hti a h
      exact ⟨Or.inr ⟨i, hi, hti, h⟩, p1, p2⟩
    | false =>
      obtain ⟨hor, p1, p2⟩ := g2 i hi e a h
      refine ⟨?_, p1, p2⟩
      rcases hor with rfl | ⟨o1, k1, k2, k3⟩
      · exact Or.inl rfl
      · exact Or.inr ⟨o1, k1, key o1 k1 k2, k3⟩
  · cases e : T2 i with
    | true =>
      cases e2 : T2 j with
      | true =>
        rw [g1 i hi e] at h1
        rw [g1 j hj e2] at h2
        exact hp.1 i j hi hj hti htj a h1 h2
      | false => exact (cross i j hi hj hti e e2 a h1 h2).elim
    | false =>
      cases e2 : T2 j with
      | true => exact (cross j i hj hi htj e2 e a h2 h1).elim
      | false => exact g3 i j hi hj e e2 a h1 h2
  · have split : ∀ t' : Nat → Option Nat, fb_ct (fun o => !T o && (t' o).isSome) no = fb_ct (fun o => !T2 o && (t' o).isSome) no + fb_ct (fun o => (!T o && T2 o) && (t' o).isSome) no := fun t' => by
      rw [← fb_ct_or (fun i hi => by
        intro z
        cases e : T2 i <;> simp [e] at z)]
      refine fb_ct_cong (fun i hi => ?_)
      cases e : T2 i with
      | false => simp [key i hi e]
      | true => simp
    rw [split t2, split t, g4]
    have : fb_ct (fun o => (!T o && T2 o) && (t2 o).isSome) no = fb_ct (fun o => (!T o && T2 o) && (t o).isSome) no := fb_ct_cong (fun i hi => by
      cases e : T2 i with
      | false => simp
      | true => rw [g1 i hi e])
    omega
end MA
end
section
set_option maxRecDepth 20000 in
theorem t_X2_takeOne_0 {D : Nat} {h : mm_H} {Q : Option Value → mm_H → Prop} (sh : s_h h) (ask : Int32) (free : Int32) (dep_ : Int32) {K23 : Int32 → Int32 → Int32 → Int32 → mm_H → Prop} (k23 : ∀ (ask : Int32) (free : Int32) (dep_ : Int32) (x4 : Int32) (h : mm_H), K23 ask free dep_ x4 h → w_p (D + 1) (2, 6, mc_X2_takeOne) 23 [(0, .ref 39), (1, .int ask), (2, .int free), (3, .int dep_), (4, .int x4)] [] h Q) 
    (F : ((ask < 0 → Q (some (.int 0)) h) ∧ (¬ (ask < 0) → (((h_oi h 131 39) ≤ ask → Q (some (.int 0)) h) ∧ (¬ ((h_oi h 131 39) ≤ ask) → ((dep_ ≤ 10 → K23 ask free dep_ 0 h) ∧ (¬ (dep_ ≤ 10) → Q (some (.int 0)) h))))))) :
    w_c (D + 1) 18 [.ref 39, .int ask, .int free, .int dep_] h Q := by
  refine w_ci (M := (2, 6, mc_X2_takeOne)) rfl (Nat.le_of_ble_eq_true rfl) ?_
  show w_p _ _ 0 [(0, .ref 39), (1, .int ask), (2, .int free), (3, .int dep_)] [] h Q
  refine w_b 1 1 [(0, .ref 39), (1, .int ask), (2, .int free), (3, .int dep_)] [.int ask] rfl ?_
  refine w_if_lt (tgt := 18) (x := ask) rfl (by decide) ⟨fun c1 => ?_, fun c1 => ?_⟩
  · have F := F.1 c1
    refine w_b 1 19 [(0, .ref 39), (1, .int ask), (2, .int free), (3, .int dep_)] [.int 0] rfl ?_
    exact w_br rfl (by decide) F
  · have F := F.2 c1
    refine w_b 2 6 [(0, .ref 39), (1, .int ask), (2, .int free), (3, .int dep_)] [.ref 39, .int ask] rfl ?_
    refine w_get (g := 131) rfl rfl rfl (kd_39 sh) ?_
    refine w_ic_ge (tgt := 18) (x := ask) (y := h_oi h 131 39) rfl (by decide) ⟨fun c2 => ?_, fun c2 => ?_⟩
    · have F := F.1 c2
      refine w_b 1 19 [(0, .ref 39), (1, .int ask), (2, .int free), (3, .int dep_)] [.int 0] rfl ?_
      exact w_br rfl (by decide) F
    · have F := F.2 c2
      refine w_b 2 15 [(0, .ref 39), (1, .int ask), (2, .int free), (3, .int dep_)] [.int 10, .int dep_] rfl ?_
      refine w_ic_le (tgt := 20) (x := dep_) (y := 10) rfl (by decide) ⟨fun c3 => ?_, fun c3 => ?_⟩
      · have F := F.1 c3
        refine w_b 2 23 [(4, .int 0), (0, .ref 39), (1, .int ask), (2, .int free), (3, .int dep_)] [] rfl ?_
        refine w_lo [0, 1, 2, 3, 4] [(0, .ref 39), (1, .int ask), (2, .int free), (3, .int dep_), (4, .int 0)] rfl rfl ?_
        exact k23 _ _ _ _ _ F
      · have F := F.2 c3
        refine w_b 1 19 [(0, .ref 39), (1, .int ask), (2, .int free), (3, .int dep_)] [.int 0] rfl ?_
        exact w_br rfl (by decide) F

set_option maxRecDepth 20000 in
theorem t_X2_takeOne_23 {D : Nat} {h : mm_H} {Q : Option Value → mm_H → Prop} (sh : s_h h) (ask : Int32) (free : Int32) (dep_ : Int32) (x4 : Int32) {K23 : Int32 → Int32 → Int32 → Int32 → mm_H → Prop} (k23 : ∀ (ask : Int32) (free : Int32) (dep_ : Int32) (x4 : Int32) (h : mm_H), K23 ask free dep_ x4 h → w_p (D + 1) (2, 6, mc_X2_takeOne) 23 [(0, .ref 39), (1, .int ask), (2, .int free), (3, .int dep_), (4, .int x4)] [] h Q) 
    (F : (((h_oi h 132 39) ≤ x4 → Q (some (.int 0)) h) ∧ (¬ ((h_oi h 132 39) ≤ x4) → (vp_in ask 10 ∧ ((¬ ((((h_ai h 40 ask.toNatClampNeg) &&& free) &&& ((h_oi h 133 39) ^^^ (-1 : Int32))) &&& ((1 : Int32) <<< (x4 &&& 31))) = 0 → (vp_in x4 10 ∧ (((h_ai h 42 x4.toNatClampNeg) = (-4) → (vp_in x4 10 ∧ Q (some (.int 1)) (h_sA (h_sI h 133 39 ((h_oi h 133 39) ||| ((1 : Int32) <<< (x4 &&& 31)))) 42 x4.toNatClampNeg ask))) ∧ (¬ ((h_ai h 42 x4.toNatClampNeg) = (-4)) → (vp_in x4 10 ∧ w_c D 18 [.ref 39, .int (h_ai h 42 x4.toNatClampNeg), .int free, .int (dep_ + 1)] (h_sI h 133 39 ((h_oi h 133 39) ||| ((1 : Int32) <<< (x4 &&& 31)))) (fun r h8 => ∃ z9 : Int32, r = some (.int z9) ∧ s_h h8 ∧ ((z9 = 0 → K23 ask free dep_ (x4 + 1) h8) ∧ (¬ (z9 = 0) → (vp_in x4 10 ∧ Q (some (.int 1)) (h_sA h8 42 x4.toNatClampNeg ask)))))))))) ∧ (((((h_ai h 40 ask.toNatClampNeg) &&& free) &&& ((h_oi h 133 39) ^^^ (-1 : Int32))) &&& ((1 : Int32) <<< (x4 &&& 31))) = 0 → K23 ask free dep_ (x4 + 1) h)))))) :
    w_p (D + 1) (2, 6, mc_X2_takeOne) 23 [(0, .ref 39), (1, .int ask), (2, .int free), (3, .int dep_), (4, .int x4)] [] h Q := by
  refine w_b 2 26 [(0, .ref 39), (1, .int ask), (2, .int free), (3, .int dep_), (4, .int x4)] [.ref 39, .int x4] rfl ?_
  refine w_get (g := 132) rfl rfl rfl (kd_39 sh) ?_
  refine w_ic_ge (tgt := 119) (x := x4) (y := h_oi h 132 39) rfl (by decide) ⟨fun c1 => ?_, fun c1 => ?_⟩
  · have F := F.1 c1
    refine w_b 1 120 [(0, .ref 39), (1, .int ask), (2, .int free), (3, .int dep_), (4, .int x4)] [.int 0] rfl ?_
    exact w_br rfl (by decide) F
  · have F := F.2 c1
    refine w_b 5 39 [(5, .int ((1 : Int32) <<< (x4 &&& 31))), (0, .ref 39), (1, .int ask), (2, .int free), (3, .int dep_), (4, .int x4)] [.ref 39] rfl ?_
    refine w_getS (b := 40) rfl rfl rfl (kd_39 sh) (or_128_39 sh) ?_
    refine w_b 1 43 [(5, .int ((1 : Int32) <<< (x4 &&& 31))), (0, .ref 39), (1, .int ask), (2, .int free), (3, .int dep_), (4, .int x4)] [.int ask, .ref 40] rfl ?_
    obtain ⟨g2, F⟩ := F
    refine w_iald rfl (kd_40 sh) (by rw [show h_al h 40 = 10 from (al_40 sh)]; exact g2) ?_
    refine w_b 3 47 [(5, .int ((1 : Int32) <<< (x4 &&& 31))), (0, .ref 39), (1, .int ask), (2, .int free), (3, .int dep_), (4, .int x4)] [.ref 39, .int ((h_ai h 40 ask.toNatClampNeg) &&& free)] rfl ?_
    refine w_get (g := 133) rfl rfl rfl (kd_39 sh) ?_
    refine w_b 5 56 [(5, .int ((1 : Int32) <<< (x4 &&& 31))), (0, .ref 39), (1, .int ask), (2, .int free), (3, .int dep_), (4, .int x4)] [.int ((((h_ai h 40 ask.toNatClampNeg) &&& free) &&& ((h_oi h 133 39) ^^^ (-1 : Int32))) &&& ((1 : Int32) <<< (x4 &&& 31)))] rfl ?_
    refine w_if_ne (tgt := 62) (x := (((h_ai h 40 ask.toNatClampNeg) &&& free) &&& ((h_oi h 133 39) ^^^ (-1 : Int32))) &&& ((1 : Int32) <<< (x4 &&& 31))) rfl (by decide) ⟨fun c3 => ?_, fun c3 => ?_⟩
    · have F := F.1 c3
      refine w_b 2 64 [(5, .int ((1 : Int32) <<< (x4 &&& 31))), (0, .ref 39), (1, .int ask), (2, .int free), (3, .int dep_), (4, .int x4)] [.ref 39, .ref 39] rfl ?_
      refine w_get (g := 133) rfl rfl rfl (kd_39 sh) ?_
      refine w_b 2 70 [(5, .int ((1 : Int32) <<< (x4 &&& 31))), (0, .ref 39), (1, .int ask), (2, .int free), (3, .int dep_), (4, .int x4)] [.int ((h_oi h 133 39) ||| ((1 : Int32) <<< (x4 &&& 31))), .ref 39] rfl ?_
      refine w_put (g := 133) (x := (h_oi h 133 39) ||| ((1 : Int32) <<< (x4 &&& 31))) rfl rfl rfl (kd_39 sh) (by decide) ?_
      refine w_b 1 74 [(5, .int ((1 : Int32) <<< (x4 &&& 31))), (0, .ref 39), (1, .int ask), (2, .int free), (3, .int dep_), (4, .int x4)] [.ref 39] rfl ?_
      refine w_getS (b := 42) rfl rfl rfl (kd_39 sh) (or_130_39 sh) ?_
      refine w_b 1 79 [(5, .int ((1 : Int32) <<< (x4 &&& 31))), (0, .ref 39), (1, .int ask), (2, .int free), (3, .int dep_), (4, .int x4)] [.int x4, .ref 42] rfl ?_
      obtain ⟨g4, F⟩ := F
      refine w_iald rfl (kd_42 sh) (by rw [show h_al (h_sI h 133 39 ((h_oi h 133 39) ||| ((1 : Int32) <<< (x4 &&& 31)))) 42 = 10 from (al_42 sh)]; exact g4) ?_
      refine w_b 1 82 [(5, .int ((1 : Int32) <<< (x4 &&& 31))), (0, .ref 39), (1, .int ask), (2, .int free), (3, .int dep_), (4, .int x4)] [.int (-4), .int (h_ai h 42 x4.toNatClampNeg)] rfl ?_
      refine w_ic_eq (tgt := 103) (x := h_ai h 42 x4.toNatClampNeg) (y := (-4)) rfl (by decide) ⟨fun c5 => ?_, fun c5 => ?_⟩
      · have F := F.1 c5
        refine w_b 1 104 [(5, .int ((1 : Int32) <<< (x4 &&& 31))), (0, .ref 39), (1, .int ask), (2, .int free), (3, .int dep_), (4, .int x4)] [.ref 39] rfl ?_
        refine w_getS (b := 42) rfl rfl rfl (kd_39 sh) (or_130_39 sh) ?_
        refine w_b 2 110 [(5, .int ((1 : Int32) <<< (x4 &&& 31))), (0, .ref 39), (1, .int ask), (2, .int free), (3, .int dep_), (4, .int x4)] [.int ask, .int x4, .ref 42] rfl ?_
        obtain ⟨g6, F⟩ := F
        refine w_iast rfl (kd_42 sh) (by decide) (by rw [show h_al (h_sI h 133 39 ((h_oi h 133 39) ||| ((1 : Int32) <<< (x4 &&& 31)))) 42 = 10 from (al_42 sh)]; exact g6) ?_
        refine w_b 1 112 [(5, .int ((1 : Int32) <<< (x4 &&& 31))), (0, .ref 39), (1, .int ask), (2, .int free), (3, .int dep_), (4, .int x4)] [.int 1] rfl ?_
        exact w_br rfl (by decide) F
      · have F := F.2 c5
        refine w_b 2 87 [(5, .int ((1 : Int32) <<< (x4 &&& 31))), (0, .ref 39), (1, .int ask), (2, .int free), (3, .int dep_), (4, .int x4)] [.ref 39, .ref 39] rfl ?_
        refine w_getS (b := 42) rfl rfl rfl (kd_39 sh) (or_130_39 sh) ?_
        refine w_b 1 92 [(5, .int ((1 : Int32) <<< (x4 &&& 31))), (0, .ref 39), (1, .int ask), (2, .int free), (3, .int dep_), (4, .int x4)] [.int x4, .ref 42, .ref 39] rfl ?_
        obtain ⟨g7, F⟩ := F
        refine w_iald rfl (kd_42 sh) (by rw [show h_al (h_sI h 133 39 ((h_oi h 133 39) ||| ((1 : Int32) <<< (x4 &&& 31)))) 42 = 10 from (al_42 sh)]; exact g7) ?_
        refine w_b 4 97 [(5, .int ((1 : Int32) <<< (x4 &&& 31))), (0, .ref 39), (1, .int ask), (2, .int free), (3, .int dep_), (4, .int x4)] [.int (dep_ + 1), .int free, .int (h_ai h 42 x4.toNatClampNeg), .ref 39] rfl ?_
        refine w_cv (As := [.int (h_ai h 42 x4.toNatClampNeg), .int free, .int (dep_ + 1)]) (b := 39) (rest := []) rfl rfl rfl (Nat.le_of_ble_eq_true rfl) (kd_39 sh) (fun z => absurd z (by decide)) (dc := D) (by omega) (F.mono (fun r h8 F => ?_))
        obtain ⟨z9, rfl, sh8, F⟩ := F
        show w_p _ _ 100 [(5, .int ((1 : Int32) <<< (x4 &&& 31))), (0, .ref 39), (1, .int ask), (2, .int free), (3, .int dep_), (4, .int x4)] [.int z9] h8 _
        refine w_if_eq (tgt := 113) (x := z9) rfl (by decide) ⟨fun c10 => ?_, fun c10 => ?_⟩
        · have F := F.1 c10
          refine w_b 2 23 [(4, .int (x4 + 1)), (5, .int ((1 : Int32) <<< (x4 &&& 31))), (0, .ref 39), (1, .int ask), (2, .int free), (3, .int dep_)] [] rfl ?_
          refine w_lo [0, 1, 2, 3, 4] [(0, .ref 39), (1, .int ask), (2, .int free), (3, .int dep_), (4, .int (x4 + 1))] rfl rfl ?_
          exact k23 _ _ _ _ _ F
        · have F := F.2 c10
          refine w_b 1 104 [(5, .int ((1 : Int32) <<< (x4 &&& 31))), (0, .ref 39), (1, .int ask), (2, .int free), (3, .int dep_), (4, .int x4)] [.ref 39] rfl ?_
          refine w_getS (b := 42) rfl rfl rfl (kd_39 sh8) (or_130_39 sh8) ?_
          refine w_b 2 110 [(5, .int ((1 : Int32) <<< (x4 &&& 31))), (0, .ref 39), (1, .int ask), (2, .int free), (3, .int dep_), (4, .int x4)] [.int ask, .int x4, .ref 42] rfl ?_
          obtain ⟨g11, F⟩ := F
          refine w_iast rfl (kd_42 sh8) (by decide) (by rw [show h_al h8 42 = 10 from (al_42 sh8)]; exact g11) ?_
          refine w_b 1 112 [(5, .int ((1 : Int32) <<< (x4 &&& 31))), (0, .ref 39), (1, .int ask), (2, .int free), (3, .int dep_), (4, .int x4)] [.int 1] rfl ?_
          exact w_br rfl (by decide) F
    · have F := F.2 (Decidable.not_not.mp c3)
      refine w_b 3 23 [(4, .int (x4 + 1)), (5, .int ((1 : Int32) <<< (x4 &&& 31))), (0, .ref 39), (1, .int ask), (2, .int free), (3, .int dep_)] [] rfl ?_
      refine w_lo [0, 1, 2, 3, 4] [(0, .ref 39), (1, .int ask), (2, .int free), (3, .int dep_), (4, .int (x4 + 1))] rfl rfl ?_
      exact k23 _ _ _ _ _ F

/-! THE CIRCLE'S MATCHER: takeOne -/
theorem bit_and (x : Int32) {o : Nat} (ho : o < 32) : (x &&& ((1 : Int32) <<< (nI o &&& 31))) = 0 ↔ bt x o = false := by
  have e := nf_sh o ho
  have h1 : (x &&& ((1 : Int32) <<< (nI o &&& 31))).toBitVec = if x.toBitVec.getLsbD o then BitVec.twoPow 32 o else 0#32 := by
    show x.toBitVec &&& ((1 : Int32) <<< (nI o &&& 31)).toBitVec = _
    rw [e, BitVec.and_twoPow]
  have h2 : bt x o = x.toBitVec.getLsbD o := rfl
  constructor
  · intro z
    rw [z] at h1
    rw [h2]
    cases e2 : x.toBitVec.getLsbD o with
    | false => rfl
    | true =>
      rw [e2, if_pos rfl] at h1
      exact absurd h1.symm (nf_tp o ho)
  · intro z
    rw [h2] at z
    rw [z, if_neg (by decide)] at h1
    exact Int32.toBitVec_inj.mp h1
theorem bt_1 {o i : Nat} (ho : o < 32) : bt ((1 : Int32) <<< (nI o &&& 31)) i = decide (i = o) := by
  show ((1 : Int32) <<< (nI o &&& 31)).toBitVec.getLsbD i = _
  rw [nf_sh o ho, BitVec.getLsbD_twoPow]
  by_cases z : i = o
  · subst z; simp [ho]
  · have : ¬ o = i := fun y => z y.symm
    simp [this, z]
theorem bt_not (x : Int32) {i : Nat} (hi : i < 32) : bt (x ^^^ (-1)) i = !bt x i := by
  rw [b_xor, b_m1 i hi]
  cases bt x i <;> rfl
/-- the matcher's counts and fits -/
def cM (h : mm_H) (na no : Nat) (fit : Nat → Nat → Bool) : Prop := (na ≤ 10 ∧ no ≤ 10) ∧ h_oi h 131 39 = nI na ∧ h_oi h 132 39 = nI no ∧ ∀ a, a < na → ∀ o, o < no → bt (h_ai h 40 a) o = fit a o
def cTk (h : mm_H) (na no : Nat) (t : Nat → Option Nat) : Prop := ∀ o, o < no → h_ai h 42 o = oN (t o) ∧ ∀ a, t o = some a → a < na
def cTr (h : mm_H) (no : Nat) (T : Nat → Bool) : Prop := ∀ o, o < no → bt (h_oi h 133 39) o = T o
theorem cM.fx {h h' : mm_H} {gs : List (Nat × Nat)} {as : List Nat} {na no : Nat} {fit : Nat → Nat → Bool} (H : cM h na no fit) (f : fx h h' gs as) (n1 : (131, 39) ∉ gs) (n2 : (132, 39) ∉ gs) (n3 : 40 ∉ as) : cM h' na no fit := by
  unfold cM at H ⊢
  rw [f.oi 131 39 (by decide) n1, f.oi 132 39 (by decide) n2, f.ai 40 (by decide) n3]
  exact H
theorem cTk.fx {h h' : mm_H} {gs : List (Nat × Nat)} {as : List Nat} {na no : Nat} {t : Nat → Option Nat} (H : cTk h na no t) (f : fx h h' gs as) (n3 : 42 ∉ as) : cTk h' na no t := by
  unfold cTk at H ⊢
  rw [f.ai 42 (by decide) n3]
  exact H
theorem cTr.add {h : mm_H} {no : Nat} {T : Nat → Bool} (H : cTr h no T) (hno : no ≤ 10) {o : Nat} (ho : o < no) : cTr (h_sI h 133 39 (h_oi h 133 39 ||| ((1 : Int32) <<< (nI o &&& 31)))) no (va_up T o true) := by
  intro i hi
  show bt (h_oi h 133 39 ||| ((1 : Int32) <<< (nI o &&& 31))) i = _
  rw [b_or, bt_1 (by omega), H i hi]
  by_cases z : i = o
  · subst z; rw [va_up_self]; simp
  · rw [va_up_ne _ _ z]; simp [z]
theorem cTk.put {h : mm_H} {na no : Nat} {t : Nat → Option Nat} (H : cTk h na no t) {o ask : Nat} (ha : ask < na) : cTk (h_sA h 42 o (nI ask)) na no (va_up t o (some ask)) := by
  intro i hi
  show va_up (h_ai h 42) o (nI ask) i = _ ∧ _
  by_cases z : i = o
  · subst z
    rw [va_up_self, va_up_self]
    exact ⟨rfl, fun a e => by cases e; exact ha⟩
  · rw [va_up_ne _ _ z, va_up_ne _ _ z]
    exact H i hi
theorem un_less {no : Nat} {T : Nat → Bool} {o : Nat} (ho : o < no) (hT : T o = false) : fb_ct (fun i => !va_up T o true i) no + 1 = fb_ct (fun i => !T i) no := by
  have c := mct_up (p := fun i => !T i) (q := fun i => !va_up T o true i) ho (fun i _ z => by show (!va_up T o true i) = _; rw [va_up_ne _ _ z])
  have e1 : (!T o) = true := by rw [hT]; rfl
  have e2 : (!va_up T o true o) = false := by rw [va_up_self]; rfl
  simp only [e1, e2] at c
  simpa using c
theorem un_mono {no : Nat} {T T2 : Nat → Bool} (hs : ∀ i, i < no → T i = true → T2 i = true) : fb_ct (fun i => !T2 i) no ≤ fb_ct (fun i => !T i) no := fb_ct_sub (fun i hi e => by
  cases e2 : T i with
  | false => rfl
  | true => rw [hs i hi e2] at e; cases e)
/-- what takeOne leaves where it fails: T grew to a set that is closed -/
def mfail (fit : Nat → Nat → Bool) (F : Nat → Bool) (no : Nat) (T : Nat → Bool) (t : Nat → Option Nat) (ask : Nat) (T2 : Nat → Bool) : Prop := (∀ o, o < no → T o = true → T2 o = true) ∧ (∀ o, o < no → F o = true → fit ask o = true → T2 o = true) ∧ ∀ o, o < no → T2 o = true → T o = false → ∃ a, t o = some a ∧ ∀ o2, o2 < no → F o2 = true → fit a o2 = true → T2 o2 = true
set_option maxHeartbeats 4000000 in
theorem c_take {na no : Nat} {fit : Nat → Nat → Bool} {free : Int32} : ∀ (u : Nat) {h : mm_H} {Q : Option Value → mm_H → Prop} {T : Nat → Bool} {t : Nat → Option Nat} {ask dep : Nat}, s_h h → cM h na no fit → cTk h na no t → cTr h no T → ask < na → fb_ct (fun o => !T o) no ≤ u → dep + u ≤ 10 → mpre fit (fun o => bt free o) no T t ask →
    (∀ h' T2, fx h h' [(133, 39)] [] → dn h h' → cTr h' no T2 → mfail fit (fun o => bt free o) no T t ask T2 → Q (some (.int 0)) h') →
    (∀ h' t2, fx h h' [(133, 39)] [42] → dn h h' → cTk h' na no t2 → maug fit (fun o => bt free o) no T t ask t2 → Q (some (.int 1)) h') → w_c (u + 1) 18 [.ref 39, .int (nI ask), .int free, .int (nI dep)] h Q := by
  intro u
  induction u with
  | zero =>
    intro h Q T t ask dep sh M Tk Tr ha hu hdep hp kF kT
    obtain ⟨⟨hna, hno⟩, m1, m2, m3⟩ := id M
    have hall : ∀ o, o < no → T o = true := fun o ho => by
      cases e : T o with
      | true => rfl
      | false =>
        have := un_less ho e
        omega
    have loop : ∀ m j, j + m = no → w_p (0 + 1) (2, 6, mc_X2_takeOne) 23 [(0, .ref 39), (1, .int (nI ask)), (2, .int free), (3, .int (nI dep)), (4, .int (nI j))] [] h Q := by
      intro m
      induction m with
      | zero =>
        intro j hj
        refine t_X2_takeOne_23 sh _ _ _ _ (K23 := fun _ _ _ _ _ => False) (fun _ _ _ _ _ z => z.elim) ⟨fun _ => kF h T (fx.rf _ _ _) (dn.rf _) Tr ⟨fun _ _ z => z, fun o ho _ _ => hall o ho, fun o ho h1 h2 => by rw [h1] at h2; cases h2⟩, fun c => absurd ?_ c⟩
        rw [m2, i_le (by omega) (by omega)]
        omega
      | succ m ih =>
        intro j hj
        have hbit : bt (((h_ai h 40 ask &&& free) &&& (h_oi h 133 39 ^^^ (-1)))) j = false := by
          rw [b_and, bt_not _ (by omega), Tr j (by omega), hall j (by omega)]
          simp
        refine t_X2_takeOne_23 sh _ _ _ _ (K23 := fun a b c x hh => a = nI ask ∧ b = free ∧ c = nI dep ∧ x = nI (j + 1) ∧ hh = h) (fun a b c x hh z => ?_) ⟨fun c => ?_, fun _ => ⟨vp_in_nI (by omega) (by decide), fun c => ?_, fun _ => ⟨rfl, rfl, rfl, nI_1 j, rfl⟩⟩⟩
        · obtain ⟨rfl, rfl, rfl, rfl, rfl⟩ := z
          exact ih (j + 1) (by omega)
        · rw [m2, i_le (by omega) (by omega)] at c
          omega
        · rw [i_cl (a := ask) (by omega)] at c
          exact absurd ((bit_and _ (by omega)).mpr hbit) c
    refine t_X2_takeOne_0 sh _ _ _ (K23 := fun a b c x hh => a = nI ask ∧ b = free ∧ c = nI dep ∧ x = 0 ∧ hh = h) (fun a b c x hh z => ?_) ⟨fun c => absurd c (nI_pos (by omega)), fun _ => ⟨fun c => ?_, fun _ => ⟨fun _ => ⟨rfl, rfl, rfl, rfl, rfl⟩, fun c => ?_⟩⟩⟩
    · obtain ⟨rfl, rfl, rfl, rfl, rfl⟩ := z
      exact loop no 0 (by omega)
    · rw [m1, i_le (by omega) (by omega)] at c
      omega
    · exact absurd ((i_le (b := 10) (by omega) (by decide)).mpr (by omega)) c
  | succ u IH =>
    intro h Q T t ask dep sh M Tk Tr ha hu hdep hp kF kT
    obtain ⟨⟨hna, hno⟩, m1, m2, m3⟩ := id M
    have loop : ∀ m j, j + m = no → ∀ (h1 : mm_H) (T1 : Nat → Bool), fx h h1 [(133, 39)] [] → dn h h1 → cTr h1 no T1 → (∀ o, o < no → T o = true → T1 o = true) → (∀ o, o < j → bt free o = true → fit ask o = true → T1 o = true) → (∀ o, o < no → T1 o = true → T o = false → ∃ a, t o = some a ∧ ∀ o2, o2 < no → bt free o2 = true → fit a o2 = true → T1 o2 = true) →
        w_p (u + 1 + 1) (2, 6, mc_X2_takeOne) 23 [(0, .ref 39), (1, .int (nI ask)), (2, .int free), (3, .int (nI dep)), (4, .int (nI j))] [] h1 Q := by
      intro m
      induction m with
      | zero =>
        intro j hj h1 T1 f1 d1 Tr1 s1 s2 s3
        have sh1 := f1.sh sh (by decide)
        have M1 := M.fx f1 (by decide) (by decide) (by decide)
        refine t_X2_takeOne_23 sh1 _ _ _ _ (K23 := fun _ _ _ _ _ => False) (fun _ _ _ _ _ z => z.elim) ⟨fun _ => kF h1 T1 f1 d1 Tr1 ⟨s1, fun o ho => s2 o (by omega), s3⟩, fun c => absurd ?_ c⟩
        rw [M1.2.2.1, i_le (by omega) (by omega)]
        omega
      | succ m ih =>
        intro j hj h1 T1 f1 d1 Tr1 s1 s2 s3
        have sh1 := f1.sh sh (by decide)
        have M1 := M.fx f1 (by decide) (by decide) (by decide)
        have Tk1 := Tk.fx f1 (by decide)
        have hp1 := mpre_more hp s1
        have hbit : bt (((h_ai h1 40 ask &&& free) &&& (h_oi h1 133 39 ^^^ (-1)))) j = ((fit ask j && bt free j) && !T1 j) := by
          rw [b_and, b_and, bt_not _ (by omega), Tr1 j (by omega), M1.2.2.2 ask ha j (by omega)]
        have hun := un_mono (no := no) s1
        refine t_X2_takeOne_23 sh1 _ _ _ _ (K23 := fun a b c x hh => a = nI ask ∧ b = free ∧ c = nI dep ∧ x = nI (j + 1) ∧ ∃ T2, fx h hh [(133, 39)] [] ∧ dn h hh ∧ cTr hh no T2 ∧ (∀ o, o < no → T o = true → T2 o = true) ∧ (∀ o, o < j + 1 → bt free o = true → fit ask o = true → T2 o = true) ∧ (∀ o, o < no → T2 o = true → T o = false → ∃ a, t o = some a ∧ ∀ o2, o2 < no → bt free o2 = true → fit a o2 = true → T2 o2 = true)) (fun a b c x hh z => ?_) ⟨fun c => ?_, fun _ => ⟨vp_in_nI (by omega) (by decide), fun c => ?_, fun c => ?_⟩⟩
        · obtain ⟨rfl, rfl, rfl, rfl, T2, z1, z2, z3, z4, z5, z6⟩ := z
          exact ih (j + 1) (by omega) hh T2 z1 z2 z3 z4 z5 z6
        · rw [M1.2.2.1, i_le (by omega) (by omega)] at c
          omega
        · rw [i_cl (a := ask) (by omega)] at c
          have hb : ((fit ask j && bt free j) && !T1 j) = true := by
            cases e : ((fit ask j && bt free j) && !T1 j) with
            | true => rfl
            | false => rw [e] at hbit; exact absurd ((bit_and _ (by omega)).mpr hbit) c
          rw [Bool.and_eq_true, Bool.and_eq_true] at hb
          obtain ⟨⟨b1, b2⟩, b3⟩ := hb
          have b3 : T1 j = false := by simpa using b3
          have hT0 : T j = false := by
            cases e : T j with
            | false => rfl
            | true => rw [s1 j (by omega) e] at b3; cases b3
          have ec : (nI j).toNatClampNeg = j := i_cl (by omega)
          rw [ec, (Tk1 j (by omega)).1]
          have hv : vp_in (nI j) 10 := vp_in_nI (by omega) (by decide)
          have f2 : fx h (h_sI h1 133 39 (h_oi h1 133 39 ||| ((1 : Int32) <<< (nI j &&& 31)))) [(133, 39)] [] := f1.sI _ (by decide)
          have d2 : dn h (h_sI h1 133 39 (h_oi h1 133 39 ||| ((1 : Int32) <<< (nI j &&& 31)))) := d1.sI _ (by decide)
          have Tr2 := Tr1.add hno (o := j) (by omega)
          have Tk2 := Tk.fx f2 (by decide)
          have M2 := M.fx f2 (by decide) (by decide) (by decide)
          refine ⟨hv, fun c2 => ⟨hv, ?_⟩, fun c2 => ⟨hv, ?_⟩⟩
          · have e0 : t j = none := by
              cases e : t j with
              | none => rfl
              | some a =>
                have := (Tk1 j (by omega)).2 a e
                rw [e] at c2
                exact absurd c2 (oN_ne a (by omega))
            refine kT _ (va_up t j (some ask)) ?_ (d2.sA _ _ (by decide)) (Tk2.put ha) (maug_less hp s1 (maug_here hp1 (by omega) b3 b2 b1 e0))
            exact (f2.tr (fx.rf _ [(133, 39)] [42]) (by decide) (by decide) (by decide) (by decide)).sA _ _ (by decide)
          · cases e : t j with
            | none => rw [e] at c2; exact absurd rfl c2
            | some a2 =>
              have ha2 := (Tk1 j (by omega)).2 a2 e
              have hun2 := un_less (no := no) (o := j) (by omega) b3
              have s12 : ∀ o, o < no → T o = true → va_up T1 j true o = true := fun o ho z => by
                by_cases y : o = j
                · rw [y, va_up_self]
                · rw [va_up_ne _ _ y]; exact s1 o ho z
              show w_c (u + 1) 18 [.ref 39, .int (nI a2), .int free, .int (nI dep + 1)] _ _
              rw [nI_1]
              refine IH (dep := dep + 1) (T := va_up T1 j true) (t := t) (f2.sh sh (by decide)) M2 Tk2 Tr2 ha2 (by omega) (by omega) (mpre_deep hp1 (by omega) b3 e) (fun h3 T3 f3 d3 Tr3 hf3 => ?_) (fun h3 t3 f3 d3 Tk3 ha3 => ?_)
              · obtain ⟨g1, g2, g3⟩ := hf3
                have f4 : fx h h3 [(133, 39)] [] := f2.tr f3 (by decide) (by decide) (by decide) (by decide)
                refine ⟨0, rfl, f4.sh sh (by decide), fun _ => ⟨rfl, rfl, rfl, nI_1 j, T3, f4, d2.tr d3, Tr3, fun o ho z => g1 o ho (s12 o ho z), fun o ho z1 z2 => ?_, fun o ho z1 z2 => ?_⟩, fun z => absurd rfl z⟩
                · by_cases y : o = j
                  · subst y; exact g1 o (by omega) (va_up_self _ _ _)
                  · refine g1 o (by omega) ?_
                    rw [va_up_ne _ _ y]
                    exact s2 o (by omega) z1 z2
                · by_cases y : o = j
                  · subst y
                    exact ⟨a2, e, g2⟩
                  · cases e1 : T1 o with
                    | true =>
                      obtain ⟨a, k1, k2⟩ := s3 o ho e1 z2
                      refine ⟨a, k1, fun o2 ho2 y1 y2 => g1 o2 ho2 ?_⟩
                      by_cases w : o2 = j
                      · rw [w, va_up_self]
                      · rw [va_up_ne _ _ w]; exact k2 o2 ho2 y1 y2
                    | false => exact g3 o ho z1 (by rw [va_up_ne _ _ y]; exact e1)
              · have f4 : fx h h3 [(133, 39)] [42] := f2.tr f3 (by decide) (by decide) (by decide) (by decide)
                exact ⟨1, rfl, f4.sh sh (by decide), fun z => absurd z (by decide), fun _ => ⟨hv, kT _ (va_up t3 j (some ask)) (f4.sA _ _ (by decide)) ((d2.tr d3).sA _ _ (by decide)) (Tk3.put ha) (maug_less hp s1 (maug_deep hp1 (by omega) b3 b2 b1 e ha3))⟩⟩
        · rw [i_cl (a := ask) (by omega), bit_and _ (by omega), hbit] at c
          refine ⟨rfl, rfl, rfl, nI_1 j, T1, f1, d1, Tr1, s1, fun o ho z1 z2 => ?_, s3⟩
          by_cases y : o = j
          · subst y
            rw [z1, z2] at c
            simpa using c
          · exact s2 o (by omega) z1 z2
    refine t_X2_takeOne_0 sh _ _ _ (K23 := fun a b c x hh => a = nI ask ∧ b = free ∧ c = nI dep ∧ x = 0 ∧ hh = h) (fun a b c x hh z => ?_) ⟨fun c => absurd c (nI_pos (by omega)), fun _ => ⟨fun c => ?_, fun _ => ⟨fun _ => ⟨rfl, rfl, rfl, rfl, rfl⟩, fun c => ?_⟩⟩⟩
    · obtain ⟨rfl, rfl, rfl, rfl, rfl⟩ := z
      exact loop no 0 (by omega) hh T (fx.rf _ _ _) (dn.rf _) Tr (fun _ _ z => z) (fun o ho => by omega) (fun o ho h1 h2 => by rw [h1] at h2; cases h2)
    · rw [m1, i_le (by omega) (by omega)] at c
      omega
    · exact absurd ((i_le (b := 10) (by omega) (by decide)).mpr (by omega)) c
end
section
/-! THE MOST PAIRS, and the match: as functions of the fits -/
noncomputable def mN (fit : Nat → Nat → Bool) (lo hi : Nat) (F : Nat → Bool) (no : Nat) : Nat := Classical.epsilon (fun s => mx fit lo hi F no s)
theorem mN_eq {fit : Nat → Nat → Bool} {lo hi : Nat} {F : Nat → Bool} {no s : Nat} (h : mx fit lo hi F no s) : mN fit lo hi F no = s := mx_one (Classical.epsilon_spec (p := fun s => mx fit lo hi F no s) ⟨s, h⟩) h
theorem mtc_cong {fit fit2 : Nat → Nat → Bool} {lo hi : Nat} {F F2 : Nat → Bool} {no : Nat} {t : Nat → Option Nat} (hf : ∀ a, a < hi → ∀ o, o < no → fit a o = fit2 a o) (hF : ∀ o, o < no → F o = F2 o) (h : mtc fit lo hi F no t) : mtc fit2 lo hi F2 no t := by
  intro o ho a e
  obtain ⟨h1, h2, h3, h4⟩ := h o ho a e
  exact ⟨h1, by rw [← hF o ho]; exact h2, by rw [← hf a h1.2 o ho]; exact h3, h4⟩
theorem mx_cong {fit fit2 : Nat → Nat → Bool} {lo hi : Nat} {F F2 : Nat → Bool} {no s : Nat} (hf : ∀ a, a < hi → ∀ o, o < no → fit a o = fit2 a o) (hF : ∀ o, o < no → F o = F2 o) (h : mx fit lo hi F no s) : mx fit2 lo hi F2 no s := by
  obtain ⟨⟨t, h1, h2⟩, h3⟩ := h
  exact ⟨⟨t, mtc_cong hf hF h1, h2⟩, fun t ht => h3 t (mtc_cong (fun a ha o ho => (hf a ha o ho).symm) (fun o ho => (hF o ho).symm) ht)⟩
theorem mN_cong {fit fit2 : Nat → Nat → Bool} {lo hi : Nat} {F F2 : Nat → Bool} {no : Nat} (hf : ∀ a, a < hi → ∀ o, o < no → fit a o = fit2 a o) (hF : ∀ o, o < no → F o = F2 o) : mN fit lo hi F no = mN fit2 lo hi F2 no := by
  have e : (fun s => mx fit lo hi F no s) = fun s => mx fit2 lo hi F2 no s := funext fun s => propext ⟨mx_cong hf hF, mx_cong (fun a ha o ho => (hf a ha o ho).symm) (fun o ho => (hF o ho).symm)⟩
  unfold mN
  rw [e]
/-- what the k-th ask gets: the least offer that leaves the later asks all they can have -/
noncomputable def mpk (fit : Nat → Nat → Bool) (na no s0 k : Nat) (F : Nat → Bool) (md o : Nat) : Bool := (fit k o && F o) && decide (md + 1 + mN fit (k + 1) na (va_up F o false) no = s0)
noncomputable def mpick (fit : Nat → Nat → Bool) (na no s0 k : Nat) (F : Nat → Bool) (md : Nat) : Option Nat := if fa_first (mpk fit na no s0 k F md) no < no then some (fa_first (mpk fit na no s0 k F md) no) else none
noncomputable def mst (fit : Nat → Nat → Bool) (na no s0 : Nat) : Nat → (Nat → Bool) × Nat
  | 0 => (fun _ => true, 0)
  | k + 1 => match mpick fit na no s0 k (mst fit na no s0 k).1 (mst fit na no s0 k).2 with
    | none => mst fit na no s0 k
    | some o => (va_up (mst fit na no s0 k).1 o false, (mst fit na no s0 k).2 + 1)
noncomputable def mA (fit : Nat → Nat → Bool) (na no : Nat) : Nat := mN fit 0 na (fun _ => true) no
noncomputable def mg (fit : Nat → Nat → Bool) (na no k : Nat) : Option Nat := mpick fit na no (mA fit na no) k (mst fit na no (mA fit na no) k).1 (mst fit na no (mA fit na no) k).2
theorem mpick_some {fit : Nat → Nat → Bool} {na no s0 k : Nat} {F : Nat → Bool} {md o : Nat} (ho : o < no) (h : mpk fit na no s0 k F md o = true) (hl : ∀ i, i < o → mpk fit na no s0 k F md i = false) : mpick fit na no s0 k F md = some o := by
  have e : fa_first (mpk fit na no s0 k F md) no = o := by
    rcases Nat.lt_trichotomy (fa_first (mpk fit na no s0 k F md) no) o with z | z | z
    · have := fa_first_yes (mpk fit na no s0 k F md) no (by omega)
      rw [hl _ z] at this
      cases this
    · exact z
    · have := fa_first_no (mpk fit na no s0 k F md) no o z
      rw [h] at this
      cases this
  unfold mpick
  rw [e, if_pos ho]
theorem mpick_none {fit : Nat → Nat → Bool} {na no s0 k : Nat} {F : Nat → Bool} {md : Nat} (hl : ∀ i, i < no → mpk fit na no s0 k F md i = false) : mpick fit na no s0 k F md = none := by
  unfold mpick
  rw [if_neg]
  intro z
  have := fa_first_yes (mpk fit na no s0 k F md) no z
  rw [hl _ z] at this
  cases this
theorem mpick_of {fit : Nat → Nat → Bool} {na no s0 k : Nat} {F : Nat → Bool} {md o : Nat} (h : mpick fit na no s0 k F md = some o) : o < no ∧ mpk fit na no s0 k F md o = true := by
  unfold mpick at h
  split at h
  · rename_i z
    cases h
    exact ⟨z, fa_first_yes _ no z⟩
  · cases h
theorem mpk_md {fit : Nat → Nat → Bool} {na no s0 k : Nat} {F : Nat → Bool} {md o : Nat} (h : mpk fit na no s0 k F md o = true) : fit k o = true ∧ F o = true ∧ md + 1 + mN fit (k + 1) na (va_up F o false) no = s0 := by
  unfold mpk at h
  rw [Bool.and_eq_true, Bool.and_eq_true] at h
  exact ⟨h.1.1, h.1.2, of_decide_eq_true h.2⟩
theorem mst_le (fit : Nat → Nat → Bool) (na no s0 : Nat) : ∀ k, (mst fit na no s0 k).2 ≤ s0
  | 0 => Nat.zero_le _
  | k + 1 => by
    have ih := mst_le fit na no s0 k
    unfold mst
    split
    · exact ih
    · rename_i o e
      have := (mpk_md (mpick_of e).2).2.2
      show (mst fit na no s0 k).2 + 1 ≤ s0
      omega
theorem mpick_end {fit : Nat → Nat → Bool} {na no s0 k : Nat} {F : Nat → Bool} {md : Nat} (h : s0 ≤ md) : mpick fit na no s0 k F md = none := mpick_none fun i _ => by
  cases e : mpk fit na no s0 k F md i with
  | false => rfl
  | true =>
    have := (mpk_md e).2.2
    omega
/-- the matches of the first k asks, none later -/
theorem mst_no {fit : Nat → Nat → Bool} {na no s0 k : Nat} (h : mpick fit na no s0 k (mst fit na no s0 k).1 (mst fit na no s0 k).2 = none) : mst fit na no s0 (k + 1) = mst fit na no s0 k := by
  rw [mst, h]
theorem mst_yes {fit : Nat → Nat → Bool} {na no s0 k o : Nat} (h : mpick fit na no s0 k (mst fit na no s0 k).1 (mst fit na no s0 k).2 = some o) : mst fit na no s0 (k + 1) = (va_up (mst fit na no s0 k).1 o false, (mst fit na no s0 k).2 + 1) := by
  rw [mst, h]
theorem mpk_eq {fit : Nat → Nat → Bool} {na no s0 k : Nat} {F : Nat → Bool} {md o : Nat} : mpk fit na no s0 k F md o = true ↔ (fit k o = true ∧ F o = true) ∧ md + 1 + mN fit (k + 1) na (va_up F o false) no = s0 := by
  unfold mpk
  rw [Bool.and_eq_true, Bool.and_eq_true, decide_eq_true_eq]
theorem msz_le {no : Nat} {t : Nat → Option Nat} : msz no t ≤ no := fb_ct_le _ _
theorem mx_le {fit : Nat → Nat → Bool} {lo hi : Nat} {F : Nat → Bool} {no s : Nat} (h : mx fit lo hi F no s) : s ≤ no := by
  obtain ⟨⟨t, _, e⟩, _⟩ := h
  rw [← e]
  exact msz_le

set_option maxRecDepth 20000 in
theorem t_J7_fill_53178_40_0 {h : mm_H} {Q : Option Value → mm_H → Prop} (sh : s_h h) (v : Int32) {K5 : Int32 → Int32 → Int32 → mm_H → Prop} (k5 : ∀ (v : Int32) (x2 : Int32) (x3 : Int32) (h : mm_H), K5 v x2 x3 h → w_p 0 (99, 4, mc_J7_fill_53178) 5 [(0, .ref 40), (1, .int v), (2, .int x2), (3, .int x3)] [] h Q) 
    (F : K5 v 0 (Int32.ofNat 10) h) :
    w_c 0 152 [.ref 40, .int v] h Q := by
  refine w_ci (M := (99, 4, mc_J7_fill_53178)) rfl (Nat.le_of_ble_eq_true rfl) ?_
  show w_p _ _ 0 [(0, .ref 40), (1, .int v)] [] h Q
  refine w_b 3 3 [(2, .int 0), (0, .ref 40), (1, .int v)] [.ref 40] rfl ?_
  refine w_alen rfl (by rw [kd_40 sh]; decide) ?_
  rw [show h_al h 40 = 10 from (al_40 sh)]
  refine w_b 1 5 [(3, .int (Int32.ofNat 10)), (2, .int 0), (0, .ref 40), (1, .int v)] [] rfl ?_
  refine w_lo [0, 1, 2, 3] [(0, .ref 40), (1, .int v), (2, .int 0), (3, .int (Int32.ofNat 10))] rfl rfl ?_
  exact k5 _ _ _ _ F

set_option maxRecDepth 20000 in
theorem t_J7_fill_53178_40_5 {h : mm_H} {Q : Option Value → mm_H → Prop} (sh : s_h h) (v : Int32) (x2 : Int32) (x3 : Int32) {K5 : Int32 → Int32 → Int32 → mm_H → Prop} (k5 : ∀ (v : Int32) (x2 : Int32) (x3 : Int32) (h : mm_H), K5 v x2 x3 h → w_p 0 (99, 4, mc_J7_fill_53178) 5 [(0, .ref 40), (1, .int v), (2, .int x2), (3, .int x3)] [] h Q) 
    (F : ((x3 ≤ x2 → Q none h) ∧ (¬ (x3 ≤ x2) → (vp_in x2 10 ∧ K5 v (x2 + 1) x3 (h_sA h 40 x2.toNatClampNeg v))))) :
    w_p 0 (99, 4, mc_J7_fill_53178) 5 [(0, .ref 40), (1, .int v), (2, .int x2), (3, .int x3)] [] h Q := by
  refine w_b 2 7 [(0, .ref 40), (1, .int v), (2, .int x2), (3, .int x3)] [.int x3, .int x2] rfl ?_
  refine w_ic_ge (tgt := 20) (x := x2) (y := x3) rfl (by decide) ⟨fun c1 => ?_, fun c1 => ?_⟩
  · have F := F.1 c1
    exact w_vr rfl F
  · have F := F.2 c1
    refine w_b 3 13 [(0, .ref 40), (1, .int v), (2, .int x2), (3, .int x3)] [.int v, .int x2, .ref 40] rfl ?_
    obtain ⟨g2, F⟩ := F
    refine w_iast rfl (kd_40 sh) (by decide) (by rw [show h_al h 40 = 10 from (al_40 sh)]; exact g2) ?_
    refine w_b 2 5 [(2, .int (x2 + 1)), (0, .ref 40), (1, .int v), (3, .int x3)] [] rfl ?_
    refine w_lo [0, 1, 2, 3] [(0, .ref 40), (1, .int v), (2, .int (x2 + 1)), (3, .int x3)] rfl rfl ?_
    exact k5 _ _ _ _ F

theorem c_fill_40 {h : mm_H} {Q : Option Value → mm_H → Prop} (sh : s_h h) (v : Int32) (k : ∀ h', fx h h' [] [40] → dn h h' → (∀ i, i < 10 → h_ai h' 40 i = v) → Q none h') : w_c 0 152 [.ref 40, .int v] h Q := by
  have loop : ∀ m j, j + m = 10 → ∀ h1 : mm_H, fx h h1 [] [40] → dn h h1 → (∀ i, i < j → h_ai h1 40 i = v) → w_p 0 (99, 4, mc_J7_fill_53178) 5 [(0, .ref 40), (1, .int v), (2, .int (nI j)), (3, .int (Int32.ofNat 10))] [] h1 Q := by
    intro m
    induction m with
    | zero =>
      intro j hj h1 f d r
      refine t_J7_fill_53178_40_5 (f.sh sh (by decide)) _ _ _ (K5 := fun _ _ _ _ => False) (fun _ _ _ _ z => z.elim) ⟨fun _ => k h1 f d (fun i hi => r i (by omega)), fun c => absurd ?_ c⟩
      exact (i_le (a := 10) (by decide) (by omega)).mpr (by omega)
    | succ m ih =>
      intro j hj h1 f d r
      refine t_J7_fill_53178_40_5 (f.sh sh (by decide)) _ _ _ (K5 := fun x y z hh => x = v ∧ y = nI (j + 1) ∧ z = Int32.ofNat 10 ∧ fx h hh [] [40] ∧ dn h hh ∧ ∀ i, i < j + 1 → h_ai hh 40 i = v) (fun x y z hh q => ?_) ⟨fun c => ?_, fun c => ⟨vp_in_nI (by omega) (by decide), rfl, nI_1 j, rfl, f.sA _ _ (by decide), d.sA _ _ (by decide), fun i hi => ?_⟩⟩
      · obtain ⟨rfl, rfl, rfl, q1, q2, q3⟩ := q
        exact ih (j + 1) (by omega) hh q1 q2 q3
      · have := (i_le (a := 10) (by decide) (by omega)).mp c
        omega
      · show va_up (h_ai h1 40) (nI j).toNatClampNeg v i = v
        rw [i_cl (by omega)]
        by_cases z : i = j
        · rw [z, va_up_self]
        · rw [va_up_ne _ _ z]
          exact r i (by omega)
  refine t_J7_fill_53178_40_0 sh v (K5 := fun x y z hh => x = v ∧ y = nI 0 ∧ z = Int32.ofNat 10 ∧ hh = h) (fun x y z hh q => ?_) ⟨rfl, rfl, rfl, rfl⟩
  obtain ⟨rfl, rfl, rfl, rfl⟩ := q
  exact loop 10 0 rfl _ (fx.rf _ _ _) (dn.rf _) (fun i hi => by omega)
set_option maxRecDepth 20000 in
theorem t_J7_fill_53178_41_0 {h : mm_H} {Q : Option Value → mm_H → Prop} (sh : s_h h) (v : Int32) {K5 : Int32 → Int32 → Int32 → mm_H → Prop} (k5 : ∀ (v : Int32) (x2 : Int32) (x3 : Int32) (h : mm_H), K5 v x2 x3 h → w_p 0 (99, 4, mc_J7_fill_53178) 5 [(0, .ref 41), (1, .int v), (2, .int x2), (3, .int x3)] [] h Q) 
    (F : K5 v 0 (Int32.ofNat 10) h) :
    w_c 0 152 [.ref 41, .int v] h Q := by
  refine w_ci (M := (99, 4, mc_J7_fill_53178)) rfl (Nat.le_of_ble_eq_true rfl) ?_
  show w_p _ _ 0 [(0, .ref 41), (1, .int v)] [] h Q
  refine w_b 3 3 [(2, .int 0), (0, .ref 41), (1, .int v)] [.ref 41] rfl ?_
  refine w_alen rfl (by rw [kd_41 sh]; decide) ?_
  rw [show h_al h 41 = 10 from (al_41 sh)]
  refine w_b 1 5 [(3, .int (Int32.ofNat 10)), (2, .int 0), (0, .ref 41), (1, .int v)] [] rfl ?_
  refine w_lo [0, 1, 2, 3] [(0, .ref 41), (1, .int v), (2, .int 0), (3, .int (Int32.ofNat 10))] rfl rfl ?_
  exact k5 _ _ _ _ F

set_option maxRecDepth 20000 in
theorem t_J7_fill_53178_41_5 {h : mm_H} {Q : Option Value → mm_H → Prop} (sh : s_h h) (v : Int32) (x2 : Int32) (x3 : Int32) {K5 : Int32 → Int32 → Int32 → mm_H → Prop} (k5 : ∀ (v : Int32) (x2 : Int32) (x3 : Int32) (h : mm_H), K5 v x2 x3 h → w_p 0 (99, 4, mc_J7_fill_53178) 5 [(0, .ref 41), (1, .int v), (2, .int x2), (3, .int x3)] [] h Q) 
    (F : ((x3 ≤ x2 → Q none h) ∧ (¬ (x3 ≤ x2) → (vp_in x2 10 ∧ K5 v (x2 + 1) x3 (h_sA h 41 x2.toNatClampNeg v))))) :
    w_p 0 (99, 4, mc_J7_fill_53178) 5 [(0, .ref 41), (1, .int v), (2, .int x2), (3, .int x3)] [] h Q := by
  refine w_b 2 7 [(0, .ref 41), (1, .int v), (2, .int x2), (3, .int x3)] [.int x3, .int x2] rfl ?_
  refine w_ic_ge (tgt := 20) (x := x2) (y := x3) rfl (by decide) ⟨fun c1 => ?_, fun c1 => ?_⟩
  · have F := F.1 c1
    exact w_vr rfl F
  · have F := F.2 c1
    refine w_b 3 13 [(0, .ref 41), (1, .int v), (2, .int x2), (3, .int x3)] [.int v, .int x2, .ref 41] rfl ?_
    obtain ⟨g2, F⟩ := F
    refine w_iast rfl (kd_41 sh) (by decide) (by rw [show h_al h 41 = 10 from (al_41 sh)]; exact g2) ?_
    refine w_b 2 5 [(2, .int (x2 + 1)), (0, .ref 41), (1, .int v), (3, .int x3)] [] rfl ?_
    refine w_lo [0, 1, 2, 3] [(0, .ref 41), (1, .int v), (2, .int (x2 + 1)), (3, .int x3)] rfl rfl ?_
    exact k5 _ _ _ _ F

theorem c_fill_41 {h : mm_H} {Q : Option Value → mm_H → Prop} (sh : s_h h) (v : Int32) (k : ∀ h', fx h h' [] [41] → dn h h' → (∀ i, i < 10 → h_ai h' 41 i = v) → Q none h') : w_c 0 152 [.ref 41, .int v] h Q := by
  have loop : ∀ m j, j + m = 10 → ∀ h1 : mm_H, fx h h1 [] [41] → dn h h1 → (∀ i, i < j → h_ai h1 41 i = v) → w_p 0 (99, 4, mc_J7_fill_53178) 5 [(0, .ref 41), (1, .int v), (2, .int (nI j)), (3, .int (Int32.ofNat 10))] [] h1 Q := by
    intro m
    induction m with
    | zero =>
      intro j hj h1 f d r
      refine t_J7_fill_53178_41_5 (f.sh sh (by decide)) _ _ _ (K5 := fun _ _ _ _ => False) (fun _ _ _ _ z => z.elim) ⟨fun _ => k h1 f d (fun i hi => r i (by omega)), fun c => absurd ?_ c⟩
      exact (i_le (a := 10) (by decide) (by omega)).mpr (by omega)
    | succ m ih =>
      intro j hj h1 f d r
      refine t_J7_fill_53178_41_5 (f.sh sh (by decide)) _ _ _ (K5 := fun x y z hh => x = v ∧ y = nI (j + 1) ∧ z = Int32.ofNat 10 ∧ fx h hh [] [41] ∧ dn h hh ∧ ∀ i, i < j + 1 → h_ai hh 41 i = v) (fun x y z hh q => ?_) ⟨fun c => ?_, fun c => ⟨vp_in_nI (by omega) (by decide), rfl, nI_1 j, rfl, f.sA _ _ (by decide), d.sA _ _ (by decide), fun i hi => ?_⟩⟩
      · obtain ⟨rfl, rfl, rfl, q1, q2, q3⟩ := q
        exact ih (j + 1) (by omega) hh q1 q2 q3
      · have := (i_le (a := 10) (by decide) (by omega)).mp c
        omega
      · show va_up (h_ai h1 41) (nI j).toNatClampNeg v i = v
        rw [i_cl (by omega)]
        by_cases z : i = j
        · rw [z, va_up_self]
        · rw [va_up_ne _ _ z]
          exact r i (by omega)
  refine t_J7_fill_53178_41_0 sh v (K5 := fun x y z hh => x = v ∧ y = nI 0 ∧ z = Int32.ofNat 10 ∧ hh = h) (fun x y z hh q => ?_) ⟨rfl, rfl, rfl, rfl⟩
  obtain ⟨rfl, rfl, rfl, rfl⟩ := q
  exact loop 10 0 rfl _ (fx.rf _ _ _) (dn.rf _) (fun i hi => by omega)
set_option maxRecDepth 20000 in
theorem t_J7_fill_53178_42_0 {h : mm_H} {Q : Option Value → mm_H → Prop} (sh : s_h h) (v : Int32) {K5 : Int32 → Int32 → Int32 → mm_H → Prop} (k5 : ∀ (v : Int32) (x2 : Int32) (x3 : Int32) (h : mm_H), K5 v x2 x3 h → w_p 0 (99, 4, mc_J7_fill_53178) 5 [(0, .ref 42), (1, .int v), (2, .int x2), (3, .int x3)] [] h Q) 
    (F : K5 v 0 (Int32.ofNat 10) h) :
    w_c 0 152 [.ref 42, .int v] h Q := by
  refine w_ci (M := (99, 4, mc_J7_fill_53178)) rfl (Nat.le_of_ble_eq_true rfl) ?_
  show w_p _ _ 0 [(0, .ref 42), (1, .int v)] [] h Q
  refine w_b 3 3 [(2, .int 0), (0, .ref 42), (1, .int v)] [.ref 42] rfl ?_
  refine w_alen rfl (by rw [kd_42 sh]; decide) ?_
  rw [show h_al h 42 = 10 from (al_42 sh)]
  refine w_b 1 5 [(3, .int (Int32.ofNat 10)), (2, .int 0), (0, .ref 42), (1, .int v)] [] rfl ?_
  refine w_lo [0, 1, 2, 3] [(0, .ref 42), (1, .int v), (2, .int 0), (3, .int (Int32.ofNat 10))] rfl rfl ?_
  exact k5 _ _ _ _ F

set_option maxRecDepth 20000 in
theorem t_J7_fill_53178_42_5 {h : mm_H} {Q : Option Value → mm_H → Prop} (sh : s_h h) (v : Int32) (x2 : Int32) (x3 : Int32) {K5 : Int32 → Int32 → Int32 → mm_H → Prop} (k5 : ∀ (v : Int32) (x2 : Int32) (x3 : Int32) (h : mm_H), K5 v x2 x3 h → w_p 0 (99, 4, mc_J7_fill_53178) 5 [(0, .ref 42), (1, .int v), (2, .int x2), (3, .int x3)] [] h Q) 
    (F : ((x3 ≤ x2 → Q none h) ∧ (¬ (x3 ≤ x2) → (vp_in x2 10 ∧ K5 v (x2 + 1) x3 (h_sA h 42 x2.toNatClampNeg v))))) :
    w_p 0 (99, 4, mc_J7_fill_53178) 5 [(0, .ref 42), (1, .int v), (2, .int x2), (3, .int x3)] [] h Q := by
  refine w_b 2 7 [(0, .ref 42), (1, .int v), (2, .int x2), (3, .int x3)] [.int x3, .int x2] rfl ?_
  refine w_ic_ge (tgt := 20) (x := x2) (y := x3) rfl (by decide) ⟨fun c1 => ?_, fun c1 => ?_⟩
  · have F := F.1 c1
    exact w_vr rfl F
  · have F := F.2 c1
    refine w_b 3 13 [(0, .ref 42), (1, .int v), (2, .int x2), (3, .int x3)] [.int v, .int x2, .ref 42] rfl ?_
    obtain ⟨g2, F⟩ := F
    refine w_iast rfl (kd_42 sh) (by decide) (by rw [show h_al h 42 = 10 from (al_42 sh)]; exact g2) ?_
    refine w_b 2 5 [(2, .int (x2 + 1)), (0, .ref 42), (1, .int v), (3, .int x3)] [] rfl ?_
    refine w_lo [0, 1, 2, 3] [(0, .ref 42), (1, .int v), (2, .int (x2 + 1)), (3, .int x3)] rfl rfl ?_
    exact k5 _ _ _ _ F

theorem c_fill_42 {h : mm_H} {Q : Option Value → mm_H → Prop} (sh : s_h h) (v : Int32) (k : ∀ h', fx h h' [] [42] → dn h h' → (∀ i, i < 10 → h_ai h' 42 i = v) → Q none h') : w_c 0 152 [.ref 42, .int v] h Q := by
  have loop : ∀ m j, j + m = 10 → ∀ h1 : mm_H, fx h h1 [] [42] → dn h h1 → (∀ i, i < j → h_ai h1 42 i = v) → w_p 0 (99, 4, mc_J7_fill_53178) 5 [(0, .ref 42), (1, .int v), (2, .int (nI j)), (3, .int (Int32.ofNat 10))] [] h1 Q := by
    intro m
    induction m with
    | zero =>
      intro j hj h1 f d r
      refine t_J7_fill_53178_42_5 (f.sh sh (by decide)) _ _ _ (K5 := fun _ _ _ _ => False) (fun _ _ _ _ z => z.elim) ⟨fun _ => k h1 f d (fun i hi => r i (by omega)), fun c => absurd ?_ c⟩
      exact (i_le (a := 10) (by decide) (by omega)).mpr (by omega)
    | succ m ih =>
      intro j hj h1 f d r
      refine t_J7_fill_53178_42_5 (f.sh sh (by decide)) _ _ _ (K5 := fun x y z hh => x = v ∧ y = nI (j + 1) ∧ z = Int32.ofNat 10 ∧ fx h hh [] [42] ∧ dn h hh ∧ ∀ i, i < j + 1 → h_ai hh 42 i = v) (fun x y z hh q => ?_) ⟨fun c => ?_, fun c => ⟨vp_in_nI (by omega) (by decide), rfl, nI_1 j, rfl, f.sA _ _ (by decide), d.sA _ _ (by decide), fun i hi => ?_⟩⟩
      · obtain ⟨rfl, rfl, rfl, q1, q2, q3⟩ := q
        exact ih (j + 1) (by omega) hh q1 q2 q3
      · have := (i_le (a := 10) (by decide) (by omega)).mp c
        omega
      · show va_up (h_ai h1 42) (nI j).toNatClampNeg v i = v
        rw [i_cl (by omega)]
        by_cases z : i = j
        · rw [z, va_up_self]
        · rw [va_up_ne _ _ z]
          exact r i (by omega)
  refine t_J7_fill_53178_42_0 sh v (K5 := fun x y z hh => x = v ∧ y = nI 0 ∧ z = Int32.ofNat 10 ∧ hh = h) (fun x y z hh q => ?_) ⟨rfl, rfl, rfl, rfl⟩
  obtain ⟨rfl, rfl, rfl, rfl⟩ := q
  exact loop 10 0 rfl _ (fx.rf _ _ _) (dn.rf _) (fun i hi => by omega)
set_option maxRecDepth 20000 in
theorem t_J7_fill_53178_20_0 {h : mm_H} {Q : Option Value → mm_H → Prop} (sh : s_h h) (v : Int32) {K5 : Int32 → Int32 → Int32 → mm_H → Prop} (k5 : ∀ (v : Int32) (x2 : Int32) (x3 : Int32) (h : mm_H), K5 v x2 x3 h → w_p 0 (99, 4, mc_J7_fill_53178) 5 [(0, .ref 20), (1, .int v), (2, .int x2), (3, .int x3)] [] h Q) 
    (F : K5 v 0 (Int32.ofNat 5) h) :
    w_c 0 152 [.ref 20, .int v] h Q := by
  refine w_ci (M := (99, 4, mc_J7_fill_53178)) rfl (Nat.le_of_ble_eq_true rfl) ?_
  show w_p _ _ 0 [(0, .ref 20), (1, .int v)] [] h Q
  refine w_b 3 3 [(2, .int 0), (0, .ref 20), (1, .int v)] [.ref 20] rfl ?_
  refine w_alen rfl (by rw [kd_20 sh]; decide) ?_
  rw [show h_al h 20 = 5 from (al_20 sh)]
  refine w_b 1 5 [(3, .int (Int32.ofNat 5)), (2, .int 0), (0, .ref 20), (1, .int v)] [] rfl ?_
  refine w_lo [0, 1, 2, 3] [(0, .ref 20), (1, .int v), (2, .int 0), (3, .int (Int32.ofNat 5))] rfl rfl ?_
  exact k5 _ _ _ _ F

set_option maxRecDepth 20000 in
theorem t_J7_fill_53178_20_5 {h : mm_H} {Q : Option Value → mm_H → Prop} (sh : s_h h) (v : Int32) (x2 : Int32) (x3 : Int32) {K5 : Int32 → Int32 → Int32 → mm_H → Prop} (k5 : ∀ (v : Int32) (x2 : Int32) (x3 : Int32) (h : mm_H), K5 v x2 x3 h → w_p 0 (99, 4, mc_J7_fill_53178) 5 [(0, .ref 20), (1, .int v), (2, .int x2), (3, .int x3)] [] h Q) 
    (F : ((x3 ≤ x2 → Q none h) ∧ (¬ (x3 ≤ x2) → (vp_in x2 5 ∧ K5 v (x2 + 1) x3 (h_sA h 20 x2.toNatClampNeg v))))) :
    w_p 0 (99, 4, mc_J7_fill_53178) 5 [(0, .ref 20), (1, .int v), (2, .int x2), (3, .int x3)] [] h Q := by
  refine w_b 2 7 [(0, .ref 20), (1, .int v), (2, .int x2), (3, .int x3)] [.int x3, .int x2] rfl ?_
  refine w_ic_ge (tgt := 20) (x := x2) (y := x3) rfl (by decide) ⟨fun c1 => ?_, fun c1 => ?_⟩
  · have F := F.1 c1
    exact w_vr rfl F
  · have F := F.2 c1
    refine w_b 3 13 [(0, .ref 20), (1, .int v), (2, .int x2), (3, .int x3)] [.int v, .int x2, .ref 20] rfl ?_
    obtain ⟨g2, F⟩ := F
    refine w_iast rfl (kd_20 sh) (by decide) (by rw [show h_al h 20 = 5 from (al_20 sh)]; exact g2) ?_
    refine w_b 2 5 [(2, .int (x2 + 1)), (0, .ref 20), (1, .int v), (3, .int x3)] [] rfl ?_
    refine w_lo [0, 1, 2, 3] [(0, .ref 20), (1, .int v), (2, .int (x2 + 1)), (3, .int x3)] rfl rfl ?_
    exact k5 _ _ _ _ F

theorem c_fill_20 {h : mm_H} {Q : Option Value → mm_H → Prop} (sh : s_h h) (v : Int32) (k : ∀ h', fx h h' [] [20] → dn h h' → (∀ i, i < 5 → h_ai h' 20 i = v) → Q none h') : w_c 0 152 [.ref 20, .int v] h Q := by
  have loop : ∀ m j, j + m = 5 → ∀ h1 : mm_H, fx h h1 [] [20] → dn h h1 → (∀ i, i < j → h_ai h1 20 i = v) → w_p 0 (99, 4, mc_J7_fill_53178) 5 [(0, .ref 20), (1, .int v), (2, .int (nI j)), (3, .int (Int32.ofNat 5))] [] h1 Q := by
    intro m
    induction m with
    | zero =>
      intro j hj h1 f d r
      refine t_J7_fill_53178_20_5 (f.sh sh (by decide)) _ _ _ (K5 := fun _ _ _ _ => False) (fun _ _ _ _ z => z.elim) ⟨fun _ => k h1 f d (fun i hi => r i (by omega)), fun c => absurd ?_ c⟩
      exact (i_le (a := 5) (by decide) (by omega)).mpr (by omega)
    | succ m ih =>
      intro j hj h1 f d r
      refine t_J7_fill_53178_20_5 (f.sh sh (by decide)) _ _ _ (K5 := fun x y z hh => x = v ∧ y = nI (j + 1) ∧ z = Int32.ofNat 5 ∧ fx h hh [] [20] ∧ dn h hh ∧ ∀ i, i < j + 1 → h_ai hh 20 i = v) (fun x y z hh q => ?_) ⟨fun c => ?_, fun c => ⟨vp_in_nI (by omega) (by decide), rfl, nI_1 j, rfl, f.sA _ _ (by decide), d.sA _ _ (by decide), fun i hi => ?_⟩⟩
      · obtain ⟨rfl, rfl, rfl, q1, q2, q3⟩ := q
        exact ih (j + 1) (by omega) hh q1 q2 q3
      · have := (i_le (a := 5) (by decide) (by omega)).mp c
        omega
      · show va_up (h_ai h1 20) (nI j).toNatClampNeg v i = v
        rw [i_cl (by omega)]
        by_cases z : i = j
        · rw [z, va_up_self]
        · rw [va_up_ne _ _ z]
          exact r i (by omega)
  refine t_J7_fill_53178_20_0 sh v (K5 := fun x y z hh => x = v ∧ y = nI 0 ∧ z = Int32.ofNat 5 ∧ hh = h) (fun x y z hh q => ?_) ⟨rfl, rfl, rfl, rfl⟩
  obtain ⟨rfl, rfl, rfl, rfl⟩ := q
  exact loop 5 0 rfl _ (fx.rf _ _ _) (dn.rf _) (fun i hi => by omega)
set_option maxRecDepth 20000 in
theorem t_X2_mostPairsFrom_0 {D : Nat} {h : mm_H} {Q : Option Value → mm_H → Prop} (sh : s_h h) (first : Int32) (free : Int32) {K14 : Int32 → Int32 → Int32 → Int32 → mm_H → Prop} (k14 : ∀ (first : Int32) (free : Int32) (x3 : Int32) (x4 : Int32) (h : mm_H), K14 first free x3 x4 h → w_p (D + 1) (2, 5, mc_X2_mostPairsFrom) 14 [(0, .ref 39), (1, .int first), (2, .int free), (3, .int x3), (4, .int x4)] [] h Q) 
    (F : w_c D 152 [.ref 42, .int (-4)] h (fun r h1 => r = none ∧ s_h h1 ∧ K14 first free 0 first h1)) :
    w_c (D + 1) 17 [.ref 39, .int first, .int free] h Q := by
  refine w_ci (M := (2, 5, mc_X2_mostPairsFrom)) rfl (Nat.le_of_ble_eq_true rfl) ?_
  show w_p _ _ 0 [(0, .ref 39), (1, .int first), (2, .int free)] [] h Q
  refine w_b 1 1 [(0, .ref 39), (1, .int first), (2, .int free)] [.ref 39] rfl ?_
  refine w_getS (b := 42) rfl rfl rfl (kd_39 sh) (or_130_39 sh) ?_
  refine w_b 1 6 [(0, .ref 39), (1, .int first), (2, .int free)] [.int (-4), .ref 42] rfl ?_
  refine w_cs (As := [.ref 42, .int (-4)]) (rest := []) rfl rfl rfl (Nat.le_of_ble_eq_true rfl) (dc := D) (by omega) (F.mono (fun r h1 F => ?_))
  obtain ⟨rfl, sh1, F⟩ := F
  show w_p _ _ 9 [(0, .ref 39), (1, .int first), (2, .int free)] [] h1 _
  refine w_b 4 14 [(4, .int first), (3, .int 0), (0, .ref 39), (1, .int first), (2, .int free)] [] rfl ?_
  refine w_lo [0, 1, 2, 3, 4] [(0, .ref 39), (1, .int first), (2, .int free), (3, .int 0), (4, .int first)] rfl rfl ?_
  exact k14 _ _ _ _ _ F

set_option maxRecDepth 20000 in
theorem t_X2_mostPairsFrom_14 {D : Nat} {h : mm_H} {Q : Option Value → mm_H → Prop} (sh : s_h h) (first : Int32) (free : Int32) (x3 : Int32) (x4 : Int32) {K14 : Int32 → Int32 → Int32 → Int32 → mm_H → Prop} (k14 : ∀ (first : Int32) (free : Int32) (x3 : Int32) (x4 : Int32) (h : mm_H), K14 first free x3 x4 h → w_p (D + 1) (2, 5, mc_X2_mostPairsFrom) 14 [(0, .ref 39), (1, .int first), (2, .int free), (3, .int x3), (4, .int x4)] [] h Q) 
    (F : (((h_oi h 131 39) ≤ x4 → Q (some (.int x3)) h) ∧ (¬ ((h_oi h 131 39) ≤ x4) → w_c D 18 [.ref 39, .int x4, .int free, .int 0] (h_sI h 133 39 0) (fun r h2 => ∃ z3 : Int32, r = some (.int z3) ∧ s_h h2 ∧ ((z3 = 0 → K14 first free x3 (x4 + 1) h2) ∧ (¬ (z3 = 0) → K14 first free (x3 + 1) (x4 + 1) h2)))))) :
    w_p (D + 1) (2, 5, mc_X2_mostPairsFrom) 14 [(0, .ref 39), (1, .int first), (2, .int free), (3, .int x3), (4, .int x4)] [] h Q := by
  refine w_b 2 17 [(0, .ref 39), (1, .int first), (2, .int free), (3, .int x3), (4, .int x4)] [.ref 39, .int x4] rfl ?_
  refine w_get (g := 131) rfl rfl rfl (kd_39 sh) ?_
  refine w_ic_ge (tgt := 48) (x := x4) (y := h_oi h 131 39) rfl (by decide) ⟨fun c1 => ?_, fun c1 => ?_⟩
  · have F := F.1 c1
    refine w_b 1 49 [(0, .ref 39), (1, .int first), (2, .int free), (3, .int x3), (4, .int x4)] [.int x3] rfl ?_
    exact w_ir rfl F
  · have F := F.2 c1
    refine w_b 2 25 [(0, .ref 39), (1, .int first), (2, .int free), (3, .int x3), (4, .int x4)] [.int 0, .ref 39] rfl ?_
    refine w_put (g := 133) (x := 0) rfl rfl rfl (kd_39 sh) (by decide) ?_
    refine w_b 4 33 [(0, .ref 39), (1, .int first), (2, .int free), (3, .int x3), (4, .int x4)] [.int 0, .int free, .int x4, .ref 39] rfl ?_
    refine w_cv (As := [.int x4, .int free, .int 0]) (b := 39) (rest := []) rfl rfl rfl (Nat.le_of_ble_eq_true rfl) (kd_39 sh) (fun z => absurd z (by decide)) (dc := D) (by omega) (F.mono (fun r h2 F => ?_))
    obtain ⟨z3, rfl, sh2, F⟩ := F
    show w_p _ _ 36 [(0, .ref 39), (1, .int first), (2, .int free), (3, .int x3), (4, .int x4)] [.int z3] h2 _
    refine w_if_eq (tgt := 42) (x := z3) rfl (by decide) ⟨fun c4 => ?_, fun c4 => ?_⟩
    · have F := F.1 c4
      refine w_b 2 14 [(4, .int (x4 + 1)), (0, .ref 39), (1, .int first), (2, .int free), (3, .int x3)] [] rfl ?_
      refine w_lo [0, 1, 2, 3, 4] [(0, .ref 39), (1, .int first), (2, .int free), (3, .int x3), (4, .int (x4 + 1))] rfl rfl ?_
      exact k14 _ _ _ _ _ F
    · have F := F.2 c4
      refine w_b 3 14 [(4, .int (x4 + 1)), (3, .int (x3 + 1)), (0, .ref 39), (1, .int first), (2, .int free)] [] rfl ?_
      refine w_lo [0, 1, 2, 3, 4] [(0, .ref 39), (1, .int first), (2, .int free), (3, .int (x3 + 1)), (4, .int (x4 + 1))] rfl rfl ?_
      exact k14 _ _ _ _ _ F

set_option maxRecDepth 20000 in
theorem t_X2_mostPairsOfAll_0 {D : Nat} {h : mm_H} {Q : Option Value → mm_H → Prop} (sh : s_h h) 
    (F : w_c D 16 [.ref 39] h (fun r h1 => ∃ z2 : Int32, r = some (.int z2) ∧ s_h h1 ∧ w_c D 17 [.ref 39, .int 0, .int z2] h1 (fun r h3 => ∃ z4 : Int32, r = some (.int z4) ∧ s_h h3 ∧ Q (some (.int z4)) h3))) :
    w_c (D + 1) 15 [.ref 39] h Q := by
  refine w_ci (M := (2, 1, mc_X2_mostPairsOfAll)) rfl (Nat.le_of_ble_eq_true rfl) ?_
  show w_p _ _ 0 [(0, .ref 39)] [] h Q
  refine w_b 3 3 [(0, .ref 39)] [.ref 39, .int 0, .ref 39] rfl ?_
  refine w_cv (As := []) (b := 39) (rest := [.int 0, .ref 39]) rfl rfl rfl (Nat.le_of_ble_eq_true rfl) (kd_39 sh) (fun z => absurd z (by decide)) (dc := D) (by omega) (F.mono (fun r h1 F => ?_))
  obtain ⟨z2, rfl, sh1, F⟩ := F
  show w_p _ _ 6 [(0, .ref 39)] [.int z2, .int 0, .ref 39] h1 _
  refine w_cv (As := [.int 0, .int z2]) (b := 39) (rest := []) rfl rfl rfl (Nat.le_of_ble_eq_true rfl) (kd_39 sh1) (fun z => absurd z (by decide)) (dc := D) (by omega) (F.mono (fun r h3 F => ?_))
  obtain ⟨z4, rfl, sh3, F⟩ := F
  show w_p _ _ 9 [(0, .ref 39)] [.int z4] h3 _
  exact w_ir rfl F

set_option maxRecDepth 20000 in
theorem t_X2_allOffers_0 {h : mm_H} {Q : Option Value → mm_H → Prop} (sh : s_h h) 
    (F : Q (some (.int (((1 : Int32) <<< ((h_oi h 132 39) &&& 31)) - (1 : Int32)))) h) :
    w_c 0 16 [.ref 39] h Q := by
  refine w_ci (M := (2, 1, mc_X2_allOffers)) rfl (Nat.le_of_ble_eq_true rfl) ?_
  show w_p _ _ 0 [(0, .ref 39)] [] h Q
  refine w_b 2 2 [(0, .ref 39)] [.ref 39, .int 1] rfl ?_
  refine w_get (g := 132) rfl rfl rfl (kd_39 sh) ?_
  refine w_b 3 8 [(0, .ref 39)] [.int (((1 : Int32) <<< ((h_oi h 132 39) &&& 31)) - (1 : Int32))] rfl ?_
  exact w_ir rfl F

set_option maxRecDepth 20000 in
theorem t_X2_match_0 {D : Nat} {h : mm_H} {Q : Option Value → mm_H → Prop} (sh : s_h h) {K14 : Int32 → Int32 → Int32 → mm_H → Prop} (k14 : ∀ (x1 : Int32) (x2 : Int32) (x3 : Int32) (h : mm_H), K14 x1 x2 x3 h → w_p (D + 1) (2, 4, mc_X2_match) 14 [(0, .ref 39), (1, .int x1), (2, .int x2), (3, .int x3)] [] h Q) 
    (F : w_c D 16 [.ref 39] h (fun r h1 => ∃ z2 : Int32, r = some (.int z2) ∧ s_h h1 ∧ w_c D 17 [.ref 39, .int 0, .int z2] h1 (fun r h3 => ∃ z4 : Int32, r = some (.int z4) ∧ s_h h3 ∧ K14 z2 z4 0 h3))) :
    w_c (D + 1) 19 [.ref 39] h Q := by
  refine w_ci (M := (2, 4, mc_X2_match)) rfl (Nat.le_of_ble_eq_true rfl) ?_
  show w_p _ _ 0 [(0, .ref 39)] [] h Q
  refine w_b 1 1 [(0, .ref 39)] [.ref 39] rfl ?_
  refine w_cv (As := []) (b := 39) (rest := []) rfl rfl rfl (Nat.le_of_ble_eq_true rfl) (kd_39 sh) (fun z => absurd z (by decide)) (dc := D) (by omega) (F.mono (fun r h1 F => ?_))
  obtain ⟨z2, rfl, sh1, F⟩ := F
  show w_p _ _ 4 [(0, .ref 39)] [.int z2] h1 _
  refine w_b 4 8 [(1, .int z2), (0, .ref 39)] [.int z2, .int 0, .ref 39] rfl ?_
  refine w_cv (As := [.int 0, .int z2]) (b := 39) (rest := []) rfl rfl rfl (Nat.le_of_ble_eq_true rfl) (kd_39 sh1) (fun z => absurd z (by decide)) (dc := D) (by omega) (F.mono (fun r h3 F => ?_))
  obtain ⟨z4, rfl, sh3, F⟩ := F
  show w_p _ _ 11 [(1, .int z2), (0, .ref 39)] [.int z4] h3 _
  refine w_b 3 14 [(3, .int 0), (2, .int z4), (1, .int z2), (0, .ref 39)] [] rfl ?_
  refine w_lo [0, 1, 2, 3] [(0, .ref 39), (1, .int z2), (2, .int z4), (3, .int 0)] rfl rfl ?_
  exact k14 _ _ _ _ F

set_option maxRecDepth 20000 in
theorem t_X2_match_14 {D : Nat} {h : mm_H} {Q : Option Value → mm_H → Prop} (sh : s_h h) (x1 : Int32) (x2 : Int32) (x3 : Int32) {K14 : Int32 → Int32 → Int32 → mm_H → Prop} (k14 : ∀ (x1 : Int32) (x2 : Int32) (x3 : Int32) (h : mm_H), K14 x1 x2 x3 h → w_p (D + 1) (2, 4, mc_X2_match) 14 [(0, .ref 39), (1, .int x1), (2, .int x2), (3, .int x3)] [] h Q) 
    (F : (((h_oi h 131 39) ≤ x3 → Q none h) ∧ (¬ ((h_oi h 131 39) ≤ x3) → ((x2 ≤ 0 → Q none h) ∧ (¬ (x2 ≤ 0) → w_c D 20 [.ref 39, .int x3, .int x1, .int x2] h (fun r h3 => ∃ z4 : Int32, r = some (.int z4) ∧ s_h h3 ∧ (vp_in x3 10 ∧ (vp_in x3 10 ∧ (((va_up (h_ai h3 41) x3.toNatClampNeg z4 x3.toNatClampNeg) = (-4) → K14 x1 x2 (x3 + 1) (h_sA h3 41 x3.toNatClampNeg z4)) ∧ (¬ ((va_up (h_ai h3 41) x3.toNatClampNeg z4 x3.toNatClampNeg) = (-4)) → (vp_in x3 10 ∧ K14 (x1 &&& (((1 : Int32) <<< ((va_up (h_ai h3 41) x3.toNatClampNeg z4 x3.toNatClampNeg) &&& 31)) ^^^ (-1 : Int32))) (x2 + (-1)) (x3 + 1) (h_sA h3 41 x3.toNatClampNeg z4)))))))))))) :
    w_p (D + 1) (2, 4, mc_X2_match) 14 [(0, .ref 39), (1, .int x1), (2, .int x2), (3, .int x3)] [] h Q := by
  refine w_b 2 16 [(0, .ref 39), (1, .int x1), (2, .int x2), (3, .int x3)] [.ref 39, .int x3] rfl ?_
  refine w_get (g := 131) rfl rfl rfl (kd_39 sh) ?_
  refine w_ic_ge (tgt := 72) (x := x3) (y := h_oi h 131 39) rfl (by decide) ⟨fun c1 => ?_, fun c1 => ?_⟩
  · have F := F.1 c1
    exact w_vr rfl F
  · have F := F.2 c1
    refine w_b 1 23 [(0, .ref 39), (1, .int x1), (2, .int x2), (3, .int x3)] [.int x2] rfl ?_
    refine w_if_le (tgt := 72) (x := x2) rfl (by decide) ⟨fun c2 => ?_, fun c2 => ?_⟩
    · have F := F.1 c2
      exact w_vr rfl F
    · have F := F.2 c2
      refine w_b 1 27 [(0, .ref 39), (1, .int x1), (2, .int x2), (3, .int x3)] [.ref 39] rfl ?_
      refine w_getS (b := 41) rfl rfl rfl (kd_39 sh) (or_129_39 sh) ?_
      refine w_b 5 35 [(0, .ref 39), (1, .int x1), (2, .int x2), (3, .int x3)] [.int x2, .int x1, .int x3, .ref 39, .int x3, .ref 41] rfl ?_
      refine w_cv (As := [.int x3, .int x1, .int x2]) (b := 39) (rest := [.int x3, .ref 41]) rfl rfl rfl (Nat.le_of_ble_eq_true rfl) (kd_39 sh) (fun z => absurd z (by decide)) (dc := D) (by omega) (F.mono (fun r h3 F => ?_))
      obtain ⟨z4, rfl, sh3, F⟩ := F
      show w_p _ _ 38 [(0, .ref 39), (1, .int x1), (2, .int x2), (3, .int x3)] [.int z4, .int x3, .ref 41] h3 _
      obtain ⟨g5, F⟩ := F
      refine w_iast rfl (kd_41 sh3) (by decide) (by rw [show h_al h3 41 = 10 from (al_41 sh3)]; exact g5) ?_
      refine w_b 1 40 [(0, .ref 39), (1, .int x1), (2, .int x2), (3, .int x3)] [.ref 39] rfl ?_
      refine w_getS (b := 41) rfl rfl rfl (kd_39 sh3) (or_129_39 sh3) ?_
      refine w_b 1 44 [(0, .ref 39), (1, .int x1), (2, .int x2), (3, .int x3)] [.int x3, .ref 41] rfl ?_
      obtain ⟨g6, F⟩ := F
      refine w_iald rfl (kd_41 sh3) (by rw [show h_al (h_sA h3 41 x3.toNatClampNeg z4) 41 = 10 from (al_41 sh3)]; exact g6) ?_
      refine w_b 1 47 [(0, .ref 39), (1, .int x1), (2, .int x2), (3, .int x3)] [.int (-4), .int (va_up (h_ai h3 41) x3.toNatClampNeg z4 x3.toNatClampNeg)] rfl ?_
      refine w_ic_eq (tgt := 66) (x := va_up (h_ai h3 41) x3.toNatClampNeg z4 x3.toNatClampNeg) (y := (-4)) rfl (by decide) ⟨fun c7 => ?_, fun c7 => ?_⟩
      · have F := F.1 c7
        refine w_b 2 14 [(3, .int (x3 + 1)), (0, .ref 39), (1, .int x1), (2, .int x2)] [] rfl ?_
        refine w_lo [0, 1, 2, 3] [(0, .ref 39), (1, .int x1), (2, .int x2), (3, .int (x3 + 1))] rfl rfl ?_
        exact k14 _ _ _ _ F
      · have F := F.2 c7
        refine w_b 3 53 [(0, .ref 39), (1, .int x1), (2, .int x2), (3, .int x3)] [.ref 39, .int 1, .int x1] rfl ?_
        refine w_getS (b := 41) rfl rfl rfl (kd_39 sh3) (or_129_39 sh3) ?_
        refine w_b 1 57 [(0, .ref 39), (1, .int x1), (2, .int x2), (3, .int x3)] [.int x3, .ref 41, .int 1, .int x1] rfl ?_
        obtain ⟨g8, F⟩ := F
        refine w_iald rfl (kd_41 sh3) (by rw [show h_al (h_sA h3 41 x3.toNatClampNeg z4) 41 = 10 from (al_41 sh3)]; exact g8) ?_
        refine w_b 8 14 [(3, .int (x3 + 1)), (2, .int (x2 + (-1))), (1, .int (x1 &&& (((1 : Int32) <<< ((va_up (h_ai h3 41) x3.toNatClampNeg z4 x3.toNatClampNeg) &&& 31)) ^^^ (-1 : Int32)))), (0, .ref 39)] [] rfl ?_
        refine w_lo [0, 1, 2, 3] [(0, .ref 39), (1, .int (x1 &&& (((1 : Int32) <<< ((va_up (h_ai h3 41) x3.toNatClampNeg z4 x3.toNatClampNeg) &&& 31)) ^^^ (-1 : Int32)))), (2, .int (x2 + (-1))), (3, .int (x3 + 1))] rfl rfl ?_
        exact k14 _ _ _ _ F

set_option maxRecDepth 20000 in
theorem t_X2_leastOffer_0 {D : Nat} {h : mm_H} {Q : Option Value → mm_H → Prop} (sh : s_h h) (ask : Int32) (free : Int32) (left : Int32) {K3 : Int32 → Int32 → Int32 → Int32 → mm_H → Prop} (k3 : ∀ (ask : Int32) (free : Int32) (left : Int32) (x4 : Int32) (h : mm_H), K3 ask free left x4 h → w_p (D + 1) (2, 7, mc_X2_leastOffer) 3 [(0, .ref 39), (1, .int ask), (2, .int free), (3, .int left), (4, .int x4)] [] h Q) 
    (F : K3 ask free left 0 h) :
    w_c (D + 1) 20 [.ref 39, .int ask, .int free, .int left] h Q := by
  refine w_ci (M := (2, 7, mc_X2_leastOffer)) rfl (Nat.le_of_ble_eq_true rfl) ?_
  show w_p _ _ 0 [(0, .ref 39), (1, .int ask), (2, .int free), (3, .int left)] [] h Q
  refine w_b 2 3 [(4, .int 0), (0, .ref 39), (1, .int ask), (2, .int free), (3, .int left)] [] rfl ?_
  refine w_lo [0, 1, 2, 3, 4] [(0, .ref 39), (1, .int ask), (2, .int free), (3, .int left), (4, .int 0)] rfl rfl ?_
  exact k3 _ _ _ _ _ F

set_option maxRecDepth 20000 in
theorem t_X2_leastOffer_3 {D : Nat} {h : mm_H} {Q : Option Value → mm_H → Prop} (sh : s_h h) (ask : Int32) (free : Int32) (left : Int32) (x4 : Int32) {K3 : Int32 → Int32 → Int32 → Int32 → mm_H → Prop} (k3 : ∀ (ask : Int32) (free : Int32) (left : Int32) (x4 : Int32) (h : mm_H), K3 ask free left x4 h → w_p (D + 1) (2, 7, mc_X2_leastOffer) 3 [(0, .ref 39), (1, .int ask), (2, .int free), (3, .int left), (4, .int x4)] [] h Q) 
    (F : (((h_oi h 132 39) ≤ x4 → Q (some (.int (-4))) h) ∧ (¬ ((h_oi h 132 39) ≤ x4) → (vp_in ask 10 ∧ (((((h_ai h 40 ask.toNatClampNeg) &&& free) &&& ((1 : Int32) <<< (x4 &&& 31))) = 0 → K3 ask free left (x4 + 1) h) ∧ (¬ ((((h_ai h 40 ask.toNatClampNeg) &&& free) &&& ((1 : Int32) <<< (x4 &&& 31))) = 0) → w_c D 17 [.ref 39, .int (ask + 1), .int (free &&& (((1 : Int32) <<< (x4 &&& 31)) ^^^ (-1 : Int32)))] h (fun r h6 => ∃ z7 : Int32, r = some (.int z7) ∧ s_h h6 ∧ ((¬ z7 = (left - (1 : Int32)) → K3 ask free left (x4 + 1) h6) ∧ (z7 = (left - (1 : Int32)) → Q (some (.int x4)) h6))))))))) :
    w_p (D + 1) (2, 7, mc_X2_leastOffer) 3 [(0, .ref 39), (1, .int ask), (2, .int free), (3, .int left), (4, .int x4)] [] h Q := by
  refine w_b 2 6 [(0, .ref 39), (1, .int ask), (2, .int free), (3, .int left), (4, .int x4)] [.ref 39, .int x4] rfl ?_
  refine w_get (g := 132) rfl rfl rfl (kd_39 sh) ?_
  refine w_ic_ge (tgt := 72) (x := x4) (y := h_oi h 132 39) rfl (by decide) ⟨fun c1 => ?_, fun c1 => ?_⟩
  · have F := F.1 c1
    refine w_b 1 74 [(0, .ref 39), (1, .int ask), (2, .int free), (3, .int left), (4, .int x4)] [.int (-4)] rfl ?_
    exact w_ir rfl F
  · have F := F.2 c1
    refine w_b 5 19 [(5, .int ((1 : Int32) <<< (x4 &&& 31))), (0, .ref 39), (1, .int ask), (2, .int free), (3, .int left), (4, .int x4)] [.ref 39] rfl ?_
    refine w_getS (b := 40) rfl rfl rfl (kd_39 sh) (or_128_39 sh) ?_
    refine w_b 1 23 [(5, .int ((1 : Int32) <<< (x4 &&& 31))), (0, .ref 39), (1, .int ask), (2, .int free), (3, .int left), (4, .int x4)] [.int ask, .ref 40] rfl ?_
    obtain ⟨g2, F⟩ := F
    refine w_iald rfl (kd_40 sh) (by rw [show h_al h 40 = 10 from (al_40 sh)]; exact g2) ?_
    refine w_b 4 29 [(5, .int ((1 : Int32) <<< (x4 &&& 31))), (0, .ref 39), (1, .int ask), (2, .int free), (3, .int left), (4, .int x4)] [.int (((h_ai h 40 ask.toNatClampNeg) &&& free) &&& ((1 : Int32) <<< (x4 &&& 31)))] rfl ?_
    refine w_if_eq (tgt := 36) (x := ((h_ai h 40 ask.toNatClampNeg) &&& free) &&& ((1 : Int32) <<< (x4 &&& 31))) rfl (by decide) ⟨fun c3 => ?_, fun c3 => ?_⟩
    · have F := F.1 c3
      refine w_b 3 41 [(6, .int 0), (5, .int ((1 : Int32) <<< (x4 &&& 31))), (0, .ref 39), (1, .int ask), (2, .int free), (3, .int left), (4, .int x4)] [.int 0] rfl ?_
      refine w_if_eq (tgt := 66) (x := 0) rfl (by decide) ⟨fun _ => ?_, fun c4 => absurd (by decide) c4⟩
      refine w_b 2 3 [(4, .int (x4 + 1)), (6, .int 0), (5, .int ((1 : Int32) <<< (x4 &&& 31))), (0, .ref 39), (1, .int ask), (2, .int free), (3, .int left)] [] rfl ?_
      refine w_lo [0, 1, 2, 3, 4] [(0, .ref 39), (1, .int ask), (2, .int free), (3, .int left), (4, .int (x4 + 1))] rfl rfl ?_
      exact k3 _ _ _ _ _ F
    · have F := F.2 c3
      refine w_b 4 41 [(6, .int 1), (5, .int ((1 : Int32) <<< (x4 &&& 31))), (0, .ref 39), (1, .int ask), (2, .int free), (3, .int left), (4, .int x4)] [.int 1] rfl ?_
      refine w_if_eq (tgt := 66) (x := 1) rfl (by decide) ⟨fun c5 => absurd c5 (by decide), fun _ => ?_⟩
      refine w_b 9 54 [(6, .int 1), (5, .int ((1 : Int32) <<< (x4 &&& 31))), (0, .ref 39), (1, .int ask), (2, .int free), (3, .int left), (4, .int x4)] [.int (free &&& (((1 : Int32) <<< (x4 &&& 31)) ^^^ (-1 : Int32))), .int (ask + 1), .ref 39] rfl ?_
      refine w_cv (As := [.int (ask + 1), .int (free &&& (((1 : Int32) <<< (x4 &&& 31)) ^^^ (-1 : Int32)))]) (b := 39) (rest := []) rfl rfl rfl (Nat.le_of_ble_eq_true rfl) (kd_39 sh) (fun z => absurd z (by decide)) (dc := D) (by omega) (F.mono (fun r h6 F => ?_))
      obtain ⟨z7, rfl, sh6, F⟩ := F
      show w_p _ _ 57 [(6, .int 1), (5, .int ((1 : Int32) <<< (x4 &&& 31))), (0, .ref 39), (1, .int ask), (2, .int free), (3, .int left), (4, .int x4)] [.int z7] h6 _
      refine w_b 3 60 [(6, .int 1), (5, .int ((1 : Int32) <<< (x4 &&& 31))), (0, .ref 39), (1, .int ask), (2, .int free), (3, .int left), (4, .int x4)] [.int (left - (1 : Int32)), .int z7] rfl ?_
      refine w_ic_ne (tgt := 66) (x := z7) (y := left - (1 : Int32)) rfl (by decide) ⟨fun c8 => ?_, fun c8 => ?_⟩
      · have F := F.1 c8
        refine w_b 2 3 [(4, .int (x4 + 1)), (6, .int 1), (5, .int ((1 : Int32) <<< (x4 &&& 31))), (0, .ref 39), (1, .int ask), (2, .int free), (3, .int left)] [] rfl ?_
        refine w_lo [0, 1, 2, 3, 4] [(0, .ref 39), (1, .int ask), (2, .int free), (3, .int left), (4, .int (x4 + 1))] rfl rfl ?_
        exact k3 _ _ _ _ _ F
      · have F := F.2 (Decidable.not_not.mp c8)
        refine w_b 1 65 [(6, .int 1), (5, .int ((1 : Int32) <<< (x4 &&& 31))), (0, .ref 39), (1, .int ask), (2, .int free), (3, .int left), (4, .int x4)] [.int x4] rfl ?_
        exact w_ir rfl F

theorem maug_mtc {fit : Nat → Nat → Bool} {lo k no s : Nat} {F : Nat → Bool} {t t2 : Nat → Option Nat} (hlo : lo ≤ k) (hm : mtc fit lo k F no t) (hs : msz no t = s) (h : maug fit F no (fun _ => false) t k t2) : mtc fit lo (k + 1) F no t2 ∧ msz no t2 = s + 1 := by
  obtain ⟨_, h2, h3, h4⟩ := h
  refine ⟨fun o ho a e => ?_, ?_⟩
  · obtain ⟨p1, p2, p3⟩ := h2 o ho rfl a e
    refine ⟨?_, p2, p3, fun o2 ho2 e2 => (h3 o o2 ho ho2 rfl rfl a e e2).symm⟩
    rcases p1 with rfl | ⟨o1, ho1, _, e1⟩
    · omega
    · have := (hm o1 ho1 a e1).1
      omega
  · unfold msz at hs ⊢
    simpa [hs] using h4
theorem mpre_mtc {fit : Nat → Nat → Bool} {lo k no : Nat} {F : Nat → Bool} {t : Nat → Option Nat} (hm : mtc fit lo k F no t) : mpre fit F no (fun _ => false) t k := by
  refine ⟨fun o o2 ho ho2 _ _ a e e2 => ((hm o ho a e).2.2.2 o2 ho2 e2).symm, fun o ho _ a e => ?_⟩
  obtain ⟨p1, p2, p3, _⟩ := hm o ho a e
  exact ⟨p2, p3, by omega⟩
theorem cM.fit {h : mm_H} {na no : Nat} {fit : Nat → Nat → Bool} (H : cM h na no fit) {a o : Nat} (ha : a < na) (ho : o < no) : bt (h_ai h 40 a) o = fit a o := H.2.2.2 a ha o ho
set_option maxHeartbeats 1000000 in
theorem c_most {h : mm_H} {Q : Option Value → mm_H → Prop} {na no : Nat} {fit : Nat → Nat → Bool} (sh : s_h h) (M : cM h na no fit) {first : Nat} {free : Int32} (hf : first ≤ na) (k : ∀ h', fx h h' [(133, 39)] [42] → dn h h' → Q (some (.int (nI (mN fit first na (fun o => bt free o) no)))) h') : w_c 12 17 [.ref 39, .int (nI first), .int free] h Q := by
  obtain ⟨hna, hno⟩ := M.1
  have loop : ∀ m j, j + m = na → first ≤ j → ∀ (h1 : mm_H) (t : Nat → Option Nat) (s : Nat), fx h h1 [(133, 39)] [42] → dn h h1 → cTk h1 na no t → mtc fit first j (fun o => bt free o) no t → (∀ t, mtc fit first j (fun o => bt free o) no t → msz no t ≤ s) → msz no t = s → w_p (11 + 1) (2, 5, mc_X2_mostPairsFrom) 14 [(0, .ref 39), (1, .int (nI first)), (2, .int free), (3, .int (nI s)), (4, .int (nI j))] [] h1 Q := by
    intro m
    induction m with
    | zero =>
      intro j hj hfj h1 t s f d Tk m1 m2 m3
      have M1 := M.fx f (by decide) (by decide) (by decide)
      have ej : j = na := by omega
      subst ej
      refine t_X2_mostPairsFrom_14 (f.sh sh (by decide)) _ _ _ _ (K14 := fun _ _ _ _ _ => False) (fun _ _ _ _ _ z => z.elim) ⟨fun _ => ?_, fun c => absurd ?_ c⟩
      · rw [← mN_eq (s := s) ⟨⟨t, m1, m3⟩, m2⟩]
        exact k h1 f d
      · rw [M1.2.1, i_le (by omega) (by omega)]
        exact Nat.le_refl _
    | succ m ih =>
      intro j hj hfj h1 t s f d Tk m1 m2 m3
      have M1 := M.fx f (by decide) (by decide) (by decide)
      have hs : s ≤ no := by rw [← m3]; exact msz_le
      refine t_X2_mostPairsFrom_14 (f.sh sh (by decide)) _ _ _ _ (K14 := fun x1 x2 x3 x4 hh => x1 = nI first ∧ x2 = free ∧ x4 = nI (j + 1) ∧ ∃ t s, x3 = nI s ∧ fx h hh [(133, 39)] [42] ∧ dn h hh ∧ cTk hh na no t ∧ mtc fit first (j + 1) (fun o => bt free o) no t ∧ (∀ t, mtc fit first (j + 1) (fun o => bt free o) no t → msz no t ≤ s) ∧ msz no t = s) (fun x1 x2 x3 x4 hh q => ?_) ⟨fun c => ?_, fun c => ?_⟩
      · obtain ⟨rfl, rfl, rfl, t2, s2, rfl, q1, q2, q3, q4, q5, q6⟩ := q
        exact ih (j + 1) (by omega) (by omega) hh t2 s2 q1 q2 q3 q4 q5 q6
      · rw [M1.2.1, i_le (by omega) (by omega)] at c
        omega
      · have f2 : fx h (h_sI h1 133 39 0) [(133, 39)] [42] := f.sI _ (by decide)
        have d2 : dn h (h_sI h1 133 39 0) := d.sI _ (by decide)
        have f2b : fx h1 (h_sI h1 133 39 0) [(133, 39)] [] := (fx.rf _ _ _).sI _ (by decide)
        have Tr : cTr (h_sI h1 133 39 0) no (fun _ => false) := fun i hi => b_0 i
        refine c_take 10 (T := fun _ => false) (t := t) (dep := 0) (ask := j) (f2.sh sh (by decide)) (M1.fx f2b (by decide) (by decide) (by decide)) (Tk.fx f2b (by decide)) Tr (by omega) ?_ (by decide) (mpre_mtc m1) (fun h3 T2 f3 d3 Tr3 mf => ?_) (fun h3 t2 f3 d3 Tk3 ma => ?_)
        · exact Nat.le_trans (fb_ct_le _ _) hno
        · have f4 : fx h h3 [(133, 39)] [42] := f2.tr f3 (by decide) (by decide) (by decide) (by decide)
          obtain ⟨_, g2, g3⟩ := mf
          have mm := mx_no m1 m2 m3 (fun a => ∀ o, o < no → bt free o = true → fit a o = true → T2 o = true) T2 g2 (fun a va => va) (fun o ho e => g3 o ho e rfl)
          exact ⟨0, rfl, f4.sh sh (by decide), fun _ => ⟨rfl, rfl, nI_1 j, t, s, rfl, f4, d2.tr d3, (Tk.fx f2b (by decide)).fx f3 (by decide), mm.1, mm.2, m3⟩, fun z => absurd rfl z⟩
        · have f4 : fx h h3 [(133, 39)] [42] := f2.tr f3 (by decide) (by decide) (by decide) (by decide)
          have mm := maug_mtc hfj m1 m3 ma
          exact ⟨1, rfl, f4.sh sh (by decide), fun z => absurd z (by decide), fun _ => ⟨rfl, rfl, nI_1 j, t2, s + 1, nI_1 s, f4, d2.tr d3, Tk3, mm.1, mx_yes m2 mm.1 mm.2, mm.2⟩⟩
  refine t_X2_mostPairsFrom_0 (D := 11) sh _ _ (K14 := fun x1 x2 x3 x4 hh => x1 = nI first ∧ x2 = free ∧ x3 = nI 0 ∧ x4 = nI first ∧ fx h hh [(133, 39)] [42] ∧ dn h hh ∧ ∀ i, i < 10 → h_ai hh 42 i = -4) (fun x1 x2 x3 x4 hh q => ?_) ?_
  · obtain ⟨rfl, rfl, rfl, rfl, q1, q2, q3⟩ := q
    have m0 := mx_0 (fit := fit) (lo := first) (F := fun o => bt x2 o) (no := no)
    exact loop (na - first) first (by omega) (Nat.le_refl _) hh (fun _ => none) 0 q1 q2 (fun o ho => ⟨q3 o (by omega), fun a e => by cases e⟩) m0.2.1 m0.1.2 m0.2.2
  · refine (c_fill_42 sh _ (fun h' f d r => ?_)).up (by decide)
    exact ⟨rfl, f.sh sh (by decide), rfl, rfl, rfl, rfl, f.tr (fx.rf _ [] []) (by decide) (by decide) (by decide) (by decide), d, r⟩
end
section
theorem mx_ex0 {fit : Nat → Nat → Bool} {lo hi : Nat} {F : Nat → Bool} {no : Nat} : ∀ m, (∀ t, mtc fit lo hi F no t → msz no t ≤ m) → ∃ s, mx fit lo hi F no s
  | 0, h => ⟨0, ⟨fun _ => none, fun o ho a e => (by cases e), (fb_ct_zero (p := fun o => ((fun _ : Nat => (none : Option Nat)) o).isSome)).mpr (fun _ _ => rfl)⟩, h⟩
  | m + 1, h => by
    by_cases z : ∃ t, mtc fit lo hi F no t ∧ msz no t = m + 1
    · exact ⟨m + 1, z, h⟩
    · refine mx_ex0 m (fun t ht => ?_)
      have h1 := h t ht
      have h2 : msz no t ≠ m + 1 := fun e => z ⟨t, ht, e⟩
      omega
theorem mN_mx (fit : Nat → Nat → Bool) (lo hi : Nat) (F : Nat → Bool) (no : Nat) : mx fit lo hi F no (mN fit lo hi F no) := Classical.epsilon_spec (p := fun s => mx fit lo hi F no s) (mx_ex0 no (fun _ _ => msz_le))
theorem mN_le {fit : Nat → Nat → Bool} {lo hi : Nat} {F : Nat → Bool} {no : Nat} : mN fit lo hi F no ≤ no := mx_le (mN_mx fit lo hi F no)
theorem bt_and_not (x : Int32) {o i : Nat} (ho : o < 32) (hi : i < 32) : bt (x &&& (((1 : Int32) <<< (nI o &&& 31)) ^^^ (-1))) i = va_up (fun i => bt x i) o false i := by
  rw [b_and, bt_not _ hi, bt_1 ho]
  by_cases z : i = o
  · rw [z, va_up_self]; simp
  · rw [va_up_ne _ _ z]; simp [z]
theorem bt_all : ∀ n, n ≤ 10 → ∀ i, i < 32 → bt ((((1 : Int32) <<< (nI n &&& 31)) - 1)) i = decide (i < n) := by decide +kernel
theorem c_all {h : mm_H} {Q : Option Value → mm_H → Prop} {na no : Nat} {fit : Nat → Nat → Bool} (sh : s_h h) (M : cM h na no fit) (k : ∀ x : Int32, (∀ i, i < 32 → bt x i = decide (i < no)) → Q (some (.int x)) h) : w_c 0 16 [.ref 39] h Q := by
  refine t_X2_allOffers_0 sh ?_
  rw [M.2.2.1]
  exact k _ (bt_all no M.1.2)
theorem nI_sub1 {a : Nat} (h : 0 < a) : nI a - 1 = nI (a - 1) := by
  have : a = (a - 1) + 1 := by omega
  rw [this, nI_pred]
  rfl
set_option maxHeartbeats 1000000 in
theorem c_least {h : mm_H} {Q : Option Value → mm_H → Prop} {na no : Nat} {fit : Nat → Nat → Bool} (sh : s_h h) (M : cM h na no fit) {ask s0 md : Nat} {free : Int32} {F : Nat → Bool} (ha : ask < na) (hs : s0 ≤ 10) (hmd : md < s0) (hF : ∀ o, o < no → bt free o = F o) (k : ∀ h', fx h h' [(133, 39)] [42] → dn h h' → Q (some (.int (oN (mpick fit na no s0 ask F md)))) h') : w_c 13 20 [.ref 39, .int (nI ask), .int free, .int (nI (s0 - md))] h Q := by
  obtain ⟨hna, hno⟩ := M.1
  have loop : ∀ m j, j + m = no → ∀ (h1 : mm_H), fx h h1 [(133, 39)] [42] → dn h h1 → (∀ i, i < j → mpk fit na no s0 ask F md i = false) → w_p (12 + 1) (2, 7, mc_X2_leastOffer) 3 [(0, .ref 39), (1, .int (nI ask)), (2, .int free), (3, .int (nI (s0 - md))), (4, .int (nI j))] [] h1 Q := by
    intro m
    induction m with
    | zero =>
      intro j hj h1 f d r
      have M1 := M.fx f (by decide) (by decide) (by decide)
      refine t_X2_leastOffer_3 (f.sh sh (by decide)) _ _ _ _ (K3 := fun _ _ _ _ _ => False) (fun _ _ _ _ _ z => z.elim) ⟨fun _ => ?_, fun c => absurd ?_ c⟩
      · have := k h1 f d
        rw [mpick_none (fun i hi => r i (by omega))] at this
        exact this
      · rw [M1.2.2.1, i_le (by omega) (by omega)]
        omega
    | succ m ih =>
      intro j hj h1 f d r
      have M1 := M.fx f (by decide) (by decide) (by decide)
      have hbit : bt (h_ai h1 40 ask &&& free) j = (fit ask j && F j) := by
        rw [b_and, M1.fit ha (by omega), hF j (by omega)]
      refine t_X2_leastOffer_3 (f.sh sh (by decide)) _ _ _ _ (K3 := fun x1 x2 x3 x4 hh => x1 = nI ask ∧ x2 = free ∧ x3 = nI (s0 - md) ∧ x4 = nI (j + 1) ∧ fx h hh [(133, 39)] [42] ∧ dn h hh ∧ ∀ i, i < j + 1 → mpk fit na no s0 ask F md i = false) (fun x1 x2 x3 x4 hh q => ?_) ⟨fun c => ?_, fun c => ⟨vp_in_nI (by omega) (by decide), ?_⟩⟩
      · obtain ⟨rfl, rfl, rfl, rfl, q1, q2, q3⟩ := q
        exact ih (j + 1) (by omega) hh q1 q2 q3
      · rw [M1.2.2.1, i_le (by omega) (by omega)] at c
        omega
      · rw [i_cl (a := ask) (by omega)]
        have ext : mpk fit na no s0 ask F md j = false → ∀ i, i < j + 1 → mpk fit na no s0 ask F md i = false := fun e i hi => by
          by_cases z : i = j
          · rw [z]; exact e
          · exact r i (by omega)
        refine ⟨fun c2 => ⟨rfl, rfl, rfl, nI_1 j, f, d, ext ?_⟩, fun c2 => ?_⟩
        · rw [bit_and _ (by omega), hbit] at c2
          unfold mpk
          rw [c2]
          rfl
        · rw [bit_and _ (by omega), hbit] at c2
          have c2 : (fit ask j && F j) = true := by cases e : (fit ask j && F j) with
            | true => rfl
            | false => exact absurd e c2
          show w_c 12 17 [.ref 39, .int (nI ask + 1), .int _] h1 _
          rw [nI_1]
          refine c_most (f.sh sh (by decide)) M1 (by omega) (fun h3 f3 d3 => ?_)
          have f4 : fx h h3 [(133, 39)] [42] := f.tr f3 (by decide) (by decide) (by decide) (by decide)
          have eN : mN fit (ask + 1) na (fun o => bt (free &&& (((1 : Int32) <<< (nI j &&& 31)) ^^^ (-1))) o) no = mN fit (ask + 1) na (va_up F j false) no := mN_cong (fun _ _ _ _ => rfl) (fun o ho => by
            show bt (free &&& (((1 : Int32) <<< (nI j &&& 31)) ^^^ (-1))) o = _
            rw [bt_and_not _ (by omega) (by omega)]
            by_cases z : o = j
            · rw [z, va_up_self, va_up_self]
            · rw [va_up_ne _ _ z, va_up_ne _ _ z]; exact hF o ho)
          refine ⟨_, rfl, f4.sh sh (by decide), fun c3 => ⟨rfl, rfl, rfl, nI_1 j, f4, d.tr d3, ext ?_⟩, fun c3 => ?_⟩
          · rw [eN, nI_sub1 (by omega)] at c3
            cases e : mpk fit na no s0 ask F md j with
            | false => rfl
            | true =>
              have := (mpk_md e).2.2
              exact absurd (congrArg nI (by omega)) c3
          · rw [eN, nI_sub1 (by omega)] at c3
            have hk := k h3 f4 (d.tr d3)
            rw [mpick_some (o := j) (by omega) ?_ r] at hk
            · exact hk
            · rw [mpk_eq]
              rw [Bool.and_eq_true] at c2
              refine ⟨c2, ?_⟩
              have := (nI_eqI (a := mN fit (ask + 1) na (va_up F j false) no) ?_ (by omega)).mp c3
              · omega
              · have := mN_le (fit := fit) (lo := ask + 1) (hi := na) (F := va_up F j false) (no := no)
                omega
  refine t_X2_leastOffer_0 (D := 12) sh _ _ _ (K3 := fun x1 x2 x3 x4 hh => x1 = nI ask ∧ x2 = free ∧ x3 = nI (s0 - md) ∧ x4 = nI 0 ∧ hh = h) (fun x1 x2 x3 x4 hh q => ?_) ⟨rfl, rfl, rfl, rfl, rfl⟩
  obtain ⟨rfl, rfl, rfl, rfl, rfl⟩ := q
  exact loop no 0 (by omega) hh (fx.rf _ _ _) (dn.rf _) (fun i hi => by omega)
end
section
set_option maxRecDepth 20000 in
theorem t_X2_begin_0 {D : Nat} {h : mm_H} {Q : Option Value → mm_H → Prop} (sh : s_h h) (na : Int32) (no : Int32) 
    (F : w_c D 152 [.ref 40, .int 0] (h_sI (h_sI h 131 39 (if 10 < na then 10 else na)) 132 39 (if 10 < no then 10 else no)) (fun r h1 => r = none ∧ s_h h1 ∧ w_c D 152 [.ref 41, .int (-4)] h1 (fun r h2 => r = none ∧ s_h h2 ∧ Q none h2))) :
    w_c (D + 1) 12 [.ref 39, .int na, .int no] h Q := by
  refine w_ci (M := (2, 3, mc_X2_begin)) rfl (Nat.le_of_ble_eq_true rfl) ?_
  show w_p _ _ 0 [(0, .ref 39), (1, .int na), (2, .int no)] [] h Q
  refine w_b 3 4 [(0, .ref 39), (1, .int na), (2, .int no)] [.int 10, .int na, .ref 39] rfl ?_
  refine w_min (x := na) (y := 10) rfl (Nat.le_of_ble_eq_true rfl) ?_
  refine w_put (g := 131) (x := if 10 < na then 10 else na) rfl rfl rfl (kd_39 sh) (by decide) ?_
  refine w_b 3 14 [(0, .ref 39), (1, .int na), (2, .int no)] [.int 10, .int no, .ref 39] rfl ?_
  refine w_min (x := no) (y := 10) rfl (Nat.le_of_ble_eq_true rfl) ?_
  refine w_put (g := 132) (x := if 10 < no then 10 else no) rfl rfl rfl (kd_39 sh) (by decide) ?_
  refine w_b 1 21 [(0, .ref 39), (1, .int na), (2, .int no)] [.ref 39] rfl ?_
  refine w_getS (b := 40) rfl rfl rfl (kd_39 sh) (or_128_39 sh) ?_
  refine w_b 1 25 [(0, .ref 39), (1, .int na), (2, .int no)] [.int 0, .ref 40] rfl ?_
  refine w_cs (As := [.ref 40, .int 0]) (rest := []) rfl rfl rfl (Nat.le_of_ble_eq_true rfl) (dc := D) (by omega) (F.mono (fun r h1 F => ?_))
  obtain ⟨rfl, sh1, F⟩ := F
  show w_p _ _ 28 [(0, .ref 39), (1, .int na), (2, .int no)] [] h1 _
  refine w_b 1 29 [(0, .ref 39), (1, .int na), (2, .int no)] [.ref 39] rfl ?_
  refine w_getS (b := 41) rfl rfl rfl (kd_39 sh1) (or_129_39 sh1) ?_
  refine w_b 1 34 [(0, .ref 39), (1, .int na), (2, .int no)] [.int (-4), .ref 41] rfl ?_
  refine w_cs (As := [.ref 41, .int (-4)]) (rest := []) rfl rfl rfl (Nat.le_of_ble_eq_true rfl) (dc := D) (by omega) (F.mono (fun r h2 F => ?_))
  obtain ⟨rfl, sh2, F⟩ := F
  show w_p _ _ 37 [(0, .ref 39), (1, .int na), (2, .int no)] [] h2 _
  exact w_vr rfl F

set_option maxRecDepth 20000 in
theorem t_X2_addFit_0 {h : mm_H} {Q : Option Value → mm_H → Prop} (sh : s_h h) (a : Int32) (o : Int32) 
    (F : ((a < 0 → Q none h) ∧ (¬ (a < 0) → (((h_oi h 131 39) ≤ a → Q none h) ∧ (¬ ((h_oi h 131 39) ≤ a) → ((o < 0 → Q none h) ∧ (¬ (o < 0) → (((h_oi h 132 39) ≤ o → Q none h) ∧ (¬ ((h_oi h 132 39) ≤ o) → (vp_in a 10 ∧ (vp_in a 10 ∧ Q none (h_sA h 40 a.toNatClampNeg ((h_ai h 40 a.toNatClampNeg) ||| ((1 : Int32) <<< (o &&& 31))))))))))))))) :
    w_c 0 13 [.ref 39, .int a, .int o] h Q := by
  refine w_ci (M := (2, 3, mc_X2_addFit)) rfl (Nat.le_of_ble_eq_true rfl) ?_
  show w_p _ _ 0 [(0, .ref 39), (1, .int a), (2, .int o)] [] h Q
  refine w_b 1 1 [(0, .ref 39), (1, .int a), (2, .int o)] [.int a] rfl ?_
  refine w_if_lt (tgt := 36) (x := a) rfl (by decide) ⟨fun c1 => ?_, fun c1 => ?_⟩
  · have F := F.1 c1
    exact w_vr rfl F
  · have F := F.2 c1
    refine w_b 2 6 [(0, .ref 39), (1, .int a), (2, .int o)] [.ref 39, .int a] rfl ?_
    refine w_get (g := 131) rfl rfl rfl (kd_39 sh) ?_
    refine w_ic_ge (tgt := 36) (x := a) (y := h_oi h 131 39) rfl (by decide) ⟨fun c2 => ?_, fun c2 => ?_⟩
    · have F := F.1 c2
      exact w_vr rfl F
    · have F := F.2 c2
      refine w_b 1 13 [(0, .ref 39), (1, .int a), (2, .int o)] [.int o] rfl ?_
      refine w_if_lt (tgt := 36) (x := o) rfl (by decide) ⟨fun c3 => ?_, fun c3 => ?_⟩
      · have F := F.1 c3
        exact w_vr rfl F
      · have F := F.2 c3
        refine w_b 2 18 [(0, .ref 39), (1, .int a), (2, .int o)] [.ref 39, .int o] rfl ?_
        refine w_get (g := 132) rfl rfl rfl (kd_39 sh) ?_
        refine w_ic_ge (tgt := 36) (x := o) (y := h_oi h 132 39) rfl (by decide) ⟨fun c4 => ?_, fun c4 => ?_⟩
        · have F := F.1 c4
          exact w_vr rfl F
        · have F := F.2 c4
          refine w_b 1 25 [(0, .ref 39), (1, .int a), (2, .int o)] [.ref 39] rfl ?_
          refine w_getS (b := 40) rfl rfl rfl (kd_39 sh) (or_128_39 sh) ?_
          refine w_b 2 30 [(0, .ref 39), (1, .int a), (2, .int o)] [.int a, .ref 40, .int a, .ref 40] rfl ?_
          obtain ⟨g5, F⟩ := F
          refine w_iald rfl (kd_40 sh) (by rw [show h_al h 40 = 10 from (al_40 sh)]; exact g5) ?_
          refine w_b 4 35 [(0, .ref 39), (1, .int a), (2, .int o)] [.int ((h_ai h 40 a.toNatClampNeg) ||| ((1 : Int32) <<< (o &&& 31))), .int a, .ref 40] rfl ?_
          obtain ⟨g6, F⟩ := F
          refine w_iast rfl (kd_40 sh) (by decide) (by rw [show h_al h 40 = 10 from (al_40 sh)]; exact g6) ?_
          exact w_vr rfl F

set_option maxRecDepth 20000 in
theorem t_X2_offerOf_0 {h : mm_H} {Q : Option Value → mm_H → Prop} (sh : s_h h) (a : Int32) 
    (F : ((a < 0 → Q (some (.int (-4))) h) ∧ (¬ (a < 0) → (((h_oi h 131 39) ≤ a → Q (some (.int (-4))) h) ∧ (¬ ((h_oi h 131 39) ≤ a) → (vp_in a 10 ∧ Q (some (.int (h_ai h 41 a.toNatClampNeg))) h)))))) :
    w_c 0 14 [.ref 39, .int a] h Q := by
  refine w_ci (M := (2, 2, mc_X2_offerOf)) rfl (Nat.le_of_ble_eq_true rfl) ?_
  show w_p _ _ 0 [(0, .ref 39), (1, .int a)] [] h Q
  refine w_b 1 1 [(0, .ref 39), (1, .int a)] [.int a] rfl ?_
  refine w_if_lt (tgt := 21) (x := a) rfl (by decide) ⟨fun c1 => ?_, fun c1 => ?_⟩
  · have F := F.1 c1
    refine w_b 1 23 [(0, .ref 39), (1, .int a)] [.int (-4)] rfl ?_
    exact w_ir rfl F
  · have F := F.2 c1
    refine w_b 2 6 [(0, .ref 39), (1, .int a)] [.ref 39, .int a] rfl ?_
    refine w_get (g := 131) rfl rfl rfl (kd_39 sh) ?_
    refine w_ic_ge (tgt := 21) (x := a) (y := h_oi h 131 39) rfl (by decide) ⟨fun c2 => ?_, fun c2 => ?_⟩
    · have F := F.1 c2
      refine w_b 1 23 [(0, .ref 39), (1, .int a)] [.int (-4)] rfl ?_
      exact w_ir rfl F
    · have F := F.2 c2
      refine w_b 1 13 [(0, .ref 39), (1, .int a)] [.ref 39] rfl ?_
      refine w_getS (b := 41) rfl rfl rfl (kd_39 sh) (or_129_39 sh) ?_
      refine w_b 1 17 [(0, .ref 39), (1, .int a)] [.int a, .ref 41] rfl ?_
      obtain ⟨g3, F⟩ := F
      refine w_iald rfl (kd_41 sh) (by rw [show h_al h 41 = 10 from (al_41 sh)]; exact g3) ?_
      refine w_b 1 23 [(0, .ref 39), (1, .int a)] [.int (h_ai h 41 a.toNatClampNeg)] rfl ?_
      exact w_ir rfl F

set_option maxRecDepth 20000 in
theorem t_X2_reach_0 {D : Nat} {h : mm_H} {Q : Option Value → mm_H → Prop} (sh : s_h h) {K12 : Int32 → mm_H → Prop} (k12 : ∀ (x1 : Int32) (h : mm_H), K12 x1 h → w_p (D + 1) (2, 2, mc_X2_reach) 12 [(0, .ref 39), (1, .int x1)] [] h Q) 
    (F : K12 0 (h_sI (h_sI h 134 39 0) 135 39 0)) :
    w_c (D + 1) 21 [.ref 39] h Q := by
  refine w_ci (M := (2, 2, mc_X2_reach)) rfl (Nat.le_of_ble_eq_true rfl) ?_
  show w_p _ _ 0 [(0, .ref 39)] [] h Q
  refine w_b 2 2 [(0, .ref 39)] [.int 0, .ref 39] rfl ?_
  refine w_put (g := 134) (x := 0) rfl rfl rfl (kd_39 sh) (by decide) ?_
  refine w_b 2 7 [(0, .ref 39)] [.int 0, .ref 39] rfl ?_
  refine w_put (g := 135) (x := 0) rfl rfl rfl (kd_39 sh) (by decide) ?_
  refine w_b 2 12 [(1, .int 0), (0, .ref 39)] [] rfl ?_
  refine w_lo [0, 1] [(0, .ref 39), (1, .int 0)] rfl rfl ?_
  exact k12 _ _ F

set_option maxRecDepth 20000 in
theorem t_X2_reach_12 {D : Nat} {h : mm_H} {Q : Option Value → mm_H → Prop} (sh : s_h h) (x1 : Int32) {K12 : Int32 → mm_H → Prop} (k12 : ∀ (x1 : Int32) (h : mm_H), K12 x1 h → w_p (D + 1) (2, 2, mc_X2_reach) 12 [(0, .ref 39), (1, .int x1)] [] h Q) {K51 : Int32 → mm_H → Prop} (k51 : ∀ (x1 : Int32) (h : mm_H), K51 x1 h → w_p (D + 1) (2, 2, mc_X2_reach) 51 [(0, .ref 39), (1, .int x1)] [] h Q) 
    (F : (((h_oi h 131 39) ≤ x1 → K51 0 h) ∧ (¬ ((h_oi h 131 39) ≤ x1) → (vp_in x1 10 ∧ ((¬ (h_ai h 41 x1.toNatClampNeg) = (-4) → K12 (x1 + 1) h) ∧ ((h_ai h 41 x1.toNatClampNeg) = (-4) → K12 (x1 + 1) (h_sI h 134 39 ((h_oi h 134 39) ||| ((1 : Int32) <<< (x1 &&& 31)))))))))) :
    w_p (D + 1) (2, 2, mc_X2_reach) 12 [(0, .ref 39), (1, .int x1)] [] h Q := by
  refine w_b 2 14 [(0, .ref 39), (1, .int x1)] [.ref 39, .int x1] rfl ?_
  refine w_get (g := 131) rfl rfl rfl (kd_39 sh) ?_
  refine w_ic_ge (tgt := 49) (x := x1) (y := h_oi h 131 39) rfl (by decide) ⟨fun c1 => ?_, fun c1 => ?_⟩
  · have F := F.1 c1
    refine w_b 2 51 [(1, .int 0), (0, .ref 39)] [] rfl ?_
    refine w_lo [0, 1] [(0, .ref 39), (1, .int 0)] rfl rfl ?_
    exact k51 _ _ F
  · have F := F.2 c1
    refine w_b 1 21 [(0, .ref 39), (1, .int x1)] [.ref 39] rfl ?_
    refine w_getS (b := 41) rfl rfl rfl (kd_39 sh) (or_129_39 sh) ?_
    refine w_b 1 25 [(0, .ref 39), (1, .int x1)] [.int x1, .ref 41] rfl ?_
    obtain ⟨g2, F⟩ := F
    refine w_iald rfl (kd_41 sh) (by rw [show h_al h 41 = 10 from (al_41 sh)]; exact g2) ?_
    refine w_b 1 28 [(0, .ref 39), (1, .int x1)] [.int (-4), .int (h_ai h 41 x1.toNatClampNeg)] rfl ?_
    refine w_ic_ne (tgt := 43) (x := h_ai h 41 x1.toNatClampNeg) (y := (-4)) rfl (by decide) ⟨fun c3 => ?_, fun c3 => ?_⟩
    · have F := F.1 c3
      refine w_b 2 12 [(1, .int (x1 + 1)), (0, .ref 39)] [] rfl ?_
      refine w_lo [0, 1] [(0, .ref 39), (1, .int (x1 + 1))] rfl rfl ?_
      exact k12 _ _ F
    · have F := F.2 (Decidable.not_not.mp c3)
      refine w_b 2 33 [(0, .ref 39), (1, .int x1)] [.ref 39, .ref 39] rfl ?_
      refine w_get (g := 134) rfl rfl rfl (kd_39 sh) ?_
      refine w_b 4 40 [(0, .ref 39), (1, .int x1)] [.int ((h_oi h 134 39) ||| ((1 : Int32) <<< (x1 &&& 31))), .ref 39] rfl ?_
      refine w_put (g := 134) (x := (h_oi h 134 39) ||| ((1 : Int32) <<< (x1 &&& 31))) rfl rfl rfl (kd_39 sh) (by decide) ?_
      refine w_b 2 12 [(1, .int (x1 + 1)), (0, .ref 39)] [] rfl ?_
      refine w_lo [0, 1] [(0, .ref 39), (1, .int (x1 + 1))] rfl rfl ?_
      exact k12 _ _ F

set_option maxRecDepth 20000 in
theorem t_X2_reach_51 {D : Nat} {h : mm_H} {Q : Option Value → mm_H → Prop} (sh : s_h h) (x1 : Int32) {K51 : Int32 → mm_H → Prop} (k51 : ∀ (x1 : Int32) (h : mm_H), K51 x1 h → w_p (D + 1) (2, 2, mc_X2_reach) 51 [(0, .ref 39), (1, .int x1)] [] h Q) 
    (F : (((h_oi h 131 39) < x1 → Q none h) ∧ (¬ ((h_oi h 131 39) < x1) → w_c D 22 [.ref 39] h (fun r h2 => r = none ∧ s_h h2 ∧ K51 (x1 + 1) h2)))) :
    w_p (D + 1) (2, 2, mc_X2_reach) 51 [(0, .ref 39), (1, .int x1)] [] h Q := by
  refine w_b 2 53 [(0, .ref 39), (1, .int x1)] [.ref 39, .int x1] rfl ?_
  refine w_get (g := 131) rfl rfl rfl (kd_39 sh) ?_
  refine w_ic_gt (tgt := 69) (x := x1) (y := h_oi h 131 39) rfl (by decide) ⟨fun c1 => ?_, fun c1 => ?_⟩
  · have F := F.1 c1
    exact w_vr rfl F
  · have F := F.2 c1
    refine w_b 1 60 [(0, .ref 39), (1, .int x1)] [.ref 39] rfl ?_
    refine w_cv (As := []) (b := 39) (rest := []) rfl rfl rfl (Nat.le_of_ble_eq_true rfl) (kd_39 sh) (fun z => absurd z (by decide)) (dc := D) (by omega) (F.mono (fun r h2 F => ?_))
    obtain ⟨rfl, sh2, F⟩ := F
    show w_p _ _ 63 [(0, .ref 39), (1, .int x1)] [] h2 _
    refine w_b 2 51 [(1, .int (x1 + 1)), (0, .ref 39)] [] rfl ?_
    refine w_lo [0, 1] [(0, .ref 39), (1, .int (x1 + 1))] rfl rfl ?_
    exact k51 _ _ F

set_option maxRecDepth 20000 in
theorem t_X2_reachFurther_0 {h : mm_H} {Q : Option Value → mm_H → Prop} (sh : s_h h) {K2 : Int32 → mm_H → Prop} (k2 : ∀ (x1 : Int32) (h : mm_H), K2 x1 h → w_p 0 (2, 2, mc_X2_reachFurther) 2 [(0, .ref 39), (1, .int x1)] [] h Q) 
    (F : K2 0 h) :
    w_c 0 22 [.ref 39] h Q := by
  refine w_ci (M := (2, 2, mc_X2_reachFurther)) rfl (Nat.le_of_ble_eq_true rfl) ?_
  show w_p _ _ 0 [(0, .ref 39)] [] h Q
  refine w_b 2 2 [(1, .int 0), (0, .ref 39)] [] rfl ?_
  refine w_lo [0, 1] [(0, .ref 39), (1, .int 0)] rfl rfl ?_
  exact k2 _ _ F

set_option maxRecDepth 20000 in
theorem t_X2_reachFurther_2 {h : mm_H} {Q : Option Value → mm_H → Prop} (sh : s_h h) (x1 : Int32) {K2 : Int32 → mm_H → Prop} (k2 : ∀ (x1 : Int32) (h : mm_H), K2 x1 h → w_p 0 (2, 2, mc_X2_reachFurther) 2 [(0, .ref 39), (1, .int x1)] [] h Q) {K44 : Int32 → mm_H → Prop} (k44 : ∀ (x1 : Int32) (h : mm_H), K44 x1 h → w_p 0 (2, 2, mc_X2_reachFurther) 44 [(0, .ref 39), (1, .int x1)] [] h Q) 
    (F : (((h_oi h 131 39) ≤ x1 → K44 0 h) ∧ (¬ ((h_oi h 131 39) ≤ x1) → (((((h_oi h 134 39) >>> (x1 &&& 31)) &&& (1 : Int32)) = 0 → K2 (x1 + 1) h) ∧ (¬ ((((h_oi h 134 39) >>> (x1 &&& 31)) &&& (1 : Int32)) = 0) → (vp_in x1 10 ∧ K2 (x1 + 1) (h_sI h 135 39 ((h_oi h 135 39) ||| (h_ai h 40 x1.toNatClampNeg))))))))) :
    w_p 0 (2, 2, mc_X2_reachFurther) 2 [(0, .ref 39), (1, .int x1)] [] h Q := by
  refine w_b 2 4 [(0, .ref 39), (1, .int x1)] [.ref 39, .int x1] rfl ?_
  refine w_get (g := 131) rfl rfl rfl (kd_39 sh) ?_
  refine w_ic_ge (tgt := 42) (x := x1) (y := h_oi h 131 39) rfl (by decide) ⟨fun c1 => ?_, fun c1 => ?_⟩
  · have F := F.1 c1
    refine w_b 2 44 [(1, .int 0), (0, .ref 39)] [] rfl ?_
    refine w_lo [0, 1] [(0, .ref 39), (1, .int 0)] rfl rfl ?_
    exact k44 _ _ F
  · have F := F.2 c1
    refine w_b 1 11 [(0, .ref 39), (1, .int x1)] [.ref 39] rfl ?_
    refine w_get (g := 134) rfl rfl rfl (kd_39 sh) ?_
    refine w_b 4 18 [(0, .ref 39), (1, .int x1)] [.int (((h_oi h 134 39) >>> (x1 &&& 31)) &&& (1 : Int32))] rfl ?_
    refine w_if_eq (tgt := 36) (x := ((h_oi h 134 39) >>> (x1 &&& 31)) &&& (1 : Int32)) rfl (by decide) ⟨fun c2 => ?_, fun c2 => ?_⟩
    · have F := F.1 c2
      refine w_b 2 2 [(1, .int (x1 + 1)), (0, .ref 39)] [] rfl ?_
      refine w_lo [0, 1] [(0, .ref 39), (1, .int (x1 + 1))] rfl rfl ?_
      exact k2 _ _ F
    · have F := F.2 c2
      refine w_b 2 23 [(0, .ref 39), (1, .int x1)] [.ref 39, .ref 39] rfl ?_
      refine w_get (g := 135) rfl rfl rfl (kd_39 sh) ?_
      refine w_b 1 27 [(0, .ref 39), (1, .int x1)] [.ref 39, .int (h_oi h 135 39), .ref 39] rfl ?_
      refine w_getS (b := 40) rfl rfl rfl (kd_39 sh) (or_128_39 sh) ?_
      refine w_b 1 31 [(0, .ref 39), (1, .int x1)] [.int x1, .ref 40, .int (h_oi h 135 39), .ref 39] rfl ?_
      obtain ⟨g3, F⟩ := F
      refine w_iald rfl (kd_40 sh) (by rw [show h_al h 40 = 10 from (al_40 sh)]; exact g3) ?_
      refine w_b 1 33 [(0, .ref 39), (1, .int x1)] [.int ((h_oi h 135 39) ||| (h_ai h 40 x1.toNatClampNeg)), .ref 39] rfl ?_
      refine w_put (g := 135) (x := (h_oi h 135 39) ||| (h_ai h 40 x1.toNatClampNeg)) rfl rfl rfl (kd_39 sh) (by decide) ?_
      refine w_b 2 2 [(1, .int (x1 + 1)), (0, .ref 39)] [] rfl ?_
      refine w_lo [0, 1] [(0, .ref 39), (1, .int (x1 + 1))] rfl rfl ?_
      exact k2 _ _ F

set_option maxRecDepth 20000 in
theorem t_X2_reachFurther_44 {h : mm_H} {Q : Option Value → mm_H → Prop} (sh : s_h h) (x1 : Int32) {K44 : Int32 → mm_H → Prop} (k44 : ∀ (x1 : Int32) (h : mm_H), K44 x1 h → w_p 0 (2, 2, mc_X2_reachFurther) 44 [(0, .ref 39), (1, .int x1)] [] h Q) 
    (F : (((h_oi h 131 39) ≤ x1 → Q none h) ∧ (¬ ((h_oi h 131 39) ≤ x1) → (vp_in x1 10 ∧ (((h_ai h 41 x1.toNatClampNeg) = (-4) → K44 (x1 + 1) h) ∧ (¬ ((h_ai h 41 x1.toNatClampNeg) = (-4)) → (vp_in x1 10 ∧ (((((h_oi h 135 39) >>> ((h_ai h 41 x1.toNatClampNeg) &&& 31)) &&& (1 : Int32)) = 0 → K44 (x1 + 1) h) ∧ (¬ ((((h_oi h 135 39) >>> ((h_ai h 41 x1.toNatClampNeg) &&& 31)) &&& (1 : Int32)) = 0) → K44 (x1 + 1) (h_sI h 134 39 ((h_oi h 134 39) ||| ((1 : Int32) <<< (x1 &&& 31))))))))))))) :
    w_p 0 (2, 2, mc_X2_reachFurther) 44 [(0, .ref 39), (1, .int x1)] [] h Q := by
  refine w_b 2 46 [(0, .ref 39), (1, .int x1)] [.ref 39, .int x1] rfl ?_
  refine w_get (g := 131) rfl rfl rfl (kd_39 sh) ?_
  refine w_ic_ge (tgt := 97) (x := x1) (y := h_oi h 131 39) rfl (by decide) ⟨fun c1 => ?_, fun c1 => ?_⟩
  · have F := F.1 c1
    exact w_vr rfl F
  · have F := F.2 c1
    refine w_b 1 53 [(0, .ref 39), (1, .int x1)] [.ref 39] rfl ?_
    refine w_getS (b := 41) rfl rfl rfl (kd_39 sh) (or_129_39 sh) ?_
    refine w_b 1 57 [(0, .ref 39), (1, .int x1)] [.int x1, .ref 41] rfl ?_
    obtain ⟨g2, F⟩ := F
    refine w_iald rfl (kd_41 sh) (by rw [show h_al h 41 = 10 from (al_41 sh)]; exact g2) ?_
    refine w_b 1 60 [(0, .ref 39), (1, .int x1)] [.int (-4), .int (h_ai h 41 x1.toNatClampNeg)] rfl ?_
    refine w_ic_eq (tgt := 91) (x := h_ai h 41 x1.toNatClampNeg) (y := (-4)) rfl (by decide) ⟨fun c3 => ?_, fun c3 => ?_⟩
    · have F := F.1 c3
      refine w_b 2 44 [(1, .int (x1 + 1)), (0, .ref 39)] [] rfl ?_
      refine w_lo [0, 1] [(0, .ref 39), (1, .int (x1 + 1))] rfl rfl ?_
      exact k44 _ _ F
    · have F := F.2 c3
      refine w_b 1 64 [(0, .ref 39), (1, .int x1)] [.ref 39] rfl ?_
      refine w_get (g := 135) rfl rfl rfl (kd_39 sh) ?_
      refine w_b 1 68 [(0, .ref 39), (1, .int x1)] [.ref 39, .int (h_oi h 135 39)] rfl ?_
      refine w_getS (b := 41) rfl rfl rfl (kd_39 sh) (or_129_39 sh) ?_
      refine w_b 1 72 [(0, .ref 39), (1, .int x1)] [.int x1, .ref 41, .int (h_oi h 135 39)] rfl ?_
      obtain ⟨g4, F⟩ := F
      refine w_iald rfl (kd_41 sh) (by rw [show h_al h 41 = 10 from (al_41 sh)]; exact g4) ?_
      refine w_b 3 76 [(0, .ref 39), (1, .int x1)] [.int (((h_oi h 135 39) >>> ((h_ai h 41 x1.toNatClampNeg) &&& 31)) &&& (1 : Int32))] rfl ?_
      refine w_if_eq (tgt := 91) (x := ((h_oi h 135 39) >>> ((h_ai h 41 x1.toNatClampNeg) &&& 31)) &&& (1 : Int32)) rfl (by decide) ⟨fun c5 => ?_, fun c5 => ?_⟩
      · have F := F.1 c5
        refine w_b 2 44 [(1, .int (x1 + 1)), (0, .ref 39)] [] rfl ?_
        refine w_lo [0, 1] [(0, .ref 39), (1, .int (x1 + 1))] rfl rfl ?_
        exact k44 _ _ F
      · have F := F.2 c5
        refine w_b 2 81 [(0, .ref 39), (1, .int x1)] [.ref 39, .ref 39] rfl ?_
        refine w_get (g := 134) rfl rfl rfl (kd_39 sh) ?_
        refine w_b 4 88 [(0, .ref 39), (1, .int x1)] [.int ((h_oi h 134 39) ||| ((1 : Int32) <<< (x1 &&& 31))), .ref 39] rfl ?_
        refine w_put (g := 134) (x := (h_oi h 134 39) ||| ((1 : Int32) <<< (x1 &&& 31))) rfl rfl rfl (kd_39 sh) (by decide) ?_
        refine w_b 2 44 [(1, .int (x1 + 1)), (0, .ref 39)] [] rfl ?_
        refine w_lo [0, 1] [(0, .ref 39), (1, .int (x1 + 1))] rfl rfl ?_
        exact k44 _ _ F

set_option maxRecDepth 20000 in
theorem t_X2_asksNotReached_0 {h : mm_H} {Q : Option Value → mm_H → Prop} (sh : s_h h) 
    (F : Q (some (.int (((h_oi h 134 39) ^^^ (-1 : Int32)) &&& (((1 : Int32) <<< ((h_oi h 131 39) &&& 31)) - (1 : Int32))))) h) :
    w_c 0 23 [.ref 39] h Q := by
  refine w_ci (M := (2, 1, mc_X2_asksNotReached)) rfl (Nat.le_of_ble_eq_true rfl) ?_
  show w_p _ _ 0 [(0, .ref 39)] [] h Q
  refine w_b 1 1 [(0, .ref 39)] [.ref 39] rfl ?_
  refine w_get (g := 134) rfl rfl rfl (kd_39 sh) ?_
  refine w_b 4 8 [(0, .ref 39)] [.ref 39, .int 1, .int ((h_oi h 134 39) ^^^ (-1 : Int32))] rfl ?_
  refine w_get (g := 131) rfl rfl rfl (kd_39 sh) ?_
  refine w_b 4 15 [(0, .ref 39)] [.int (((h_oi h 134 39) ^^^ (-1 : Int32)) &&& (((1 : Int32) <<< ((h_oi h 131 39) &&& 31)) - (1 : Int32)))] rfl ?_
  exact w_ir rfl F

theorem nI_m1 {a : Nat} (h : 0 < a) : nI a + (-1) = nI (a - 1) := (Int32.sub_eq_add_neg ..).symm.trans (nI_sub1 h)
/-- the matcher's answer: what each ask has -/
def cG (h : mm_H) (na : Nat) (g : Nat → Option Nat) : Prop := ∀ a, a < na → h_ai h 41 a = oN (g a)
theorem cG.fx {h h' : mm_H} {gs : List (Nat × Nat)} {as : List Nat} {na : Nat} {g : Nat → Option Nat} (H : cG h na g) (f : fx h h' gs as) (n3 : 41 ∉ as) : cG h' na g := by
  unfold cG at H ⊢
  rw [f.ai 41 (by decide) n3]
  exact H
theorem mg_none {fit : Nat → Nat → Bool} {na no k : Nat} (h : mg fit na no k = none) : mst fit na no (mA fit na no) (k + 1) = mst fit na no (mA fit na no) k := mst_no h
theorem mg_some {fit : Nat → Nat → Bool} {na no k o : Nat} (h : mg fit na no k = some o) : mst fit na no (mA fit na no) (k + 1) = (va_up (mst fit na no (mA fit na no) k).1 o false, (mst fit na no (mA fit na no) k).2 + 1) := mst_yes h
theorem mg_lt {fit : Nat → Nat → Bool} {na no k o : Nat} (h : mg fit na no k = some o) : o < no := (mpick_of h).1
theorem mg_fit {fit : Nat → Nat → Bool} {na no k o : Nat} (h : mg fit na no k = some o) : fit k o = true := (mpk_md (mpick_of h).2).1
theorem mg_lt2 {fit : Nat → Nat → Bool} {na no k o : Nat} (h : mg fit na no k = some o) : (mst fit na no (mA fit na no) k).2 < mA fit na no := by
  have := (mpk_md (mpick_of h).2).2.2
  omega
theorem mst_stay {fit : Nat → Nat → Bool} {na no s0 k : Nat} (h : s0 ≤ (mst fit na no s0 k).2) : ∀ j, mst fit na no s0 (k + j) = mst fit na no s0 k ∧ mpick fit na no s0 (k + j) (mst fit na no s0 (k + j)).1 (mst fit na no s0 (k + j)).2 = none
  | 0 => ⟨rfl, mpick_end h⟩
  | j + 1 => by
    obtain ⟨h1, h2⟩ := mst_stay h j
    have e : mst fit na no s0 (k + (j + 1)) = mst fit na no s0 k := (mst_no (k := k + j) h2).trans h1
    exact ⟨e, mpick_end (by rw [e]; exact h)⟩
theorem mg_end {fit : Nat → Nat → Bool} {na no k : Nat} (h : mA fit na no ≤ (mst fit na no (mA fit na no) k).2) {a : Nat} (ha : k ≤ a) : mg fit na no a = none := by
  have := (mst_stay h (a - k)).2
  rw [show k + (a - k) = a by omega] at this
  exact this
set_option maxHeartbeats 1000000 in
theorem c_match {h : mm_H} {Q : Option Value → mm_H → Prop} {na no : Nat} {fit : Nat → Nat → Bool} (sh : s_h h) (M : cM h na no fit) (G : ∀ i, i < 10 → h_ai h 41 i = -4) (k : ∀ h', fx h h' [(133, 39)] [41, 42] → dn h h' → cG h' na (mg fit na no) → Q none h') : w_c 14 19 [.ref 39] h Q := by
  obtain ⟨hna, hno⟩ := M.1
  have hA : mA fit na no ≤ no := mN_le
  have loop : ∀ m j, j + m = na → ∀ (h1 : mm_H) (free : Int32), fx h h1 [(133, 39)] [41, 42] → dn h h1 → (∀ o, o < no → bt free o = (mst fit na no (mA fit na no) j).1 o) → (∀ a, a < j → h_ai h1 41 a = oN (mg fit na no a)) → (∀ a, j ≤ a → a < 10 → h_ai h1 41 a = -4) → w_p (13 + 1) (2, 4, mc_X2_match) 14 [(0, .ref 39), (1, .int free), (2, .int (nI (mA fit na no - (mst fit na no (mA fit na no) j).2))), (3, .int (nI j))] [] h1 Q := by
    intro m
    induction m with
    | zero =>
      intro j hj h1 free f d hF g1 g2
      have M1 := M.fx f (by decide) (by decide) (by decide)
      refine t_X2_match_14 (f.sh sh (by decide)) _ _ _ (K14 := fun _ _ _ _ => False) (fun _ _ _ _ z => z.elim) ⟨fun _ => k h1 f d (fun a ha => g1 a (by omega)), fun c => absurd ?_ c⟩
      rw [M1.2.1, i_le (by omega) (by omega)]
      omega
    | succ m ih =>
      intro j hj h1 free f d hF g1 g2
      have M1 := M.fx f (by decide) (by decide) (by decide)
      refine t_X2_match_14 (f.sh sh (by decide)) _ _ _ (K14 := fun x1 x2 x3 hh => x2 = nI (mA fit na no - (mst fit na no (mA fit na no) (j + 1)).2) ∧ x3 = nI (j + 1) ∧ fx h hh [(133, 39)] [41, 42] ∧ dn h hh ∧ (∀ o, o < no → bt x1 o = (mst fit na no (mA fit na no) (j + 1)).1 o) ∧ (∀ a, a < j + 1 → h_ai hh 41 a = oN (mg fit na no a)) ∧ (∀ a, j + 1 ≤ a → a < 10 → h_ai hh 41 a = -4)) (fun x1 x2 x3 hh q => ?_) ⟨fun c => ?_, fun _ => ⟨fun c => ?_, fun c => ?_⟩⟩
      · obtain ⟨rfl, rfl, q1, q2, q3, q4, q5⟩ := q
        exact ih (j + 1) (by omega) hh x1 q1 q2 q3 q4 q5
      · rw [M1.2.1, i_le (by omega) (by omega)] at c
        omega
      · have c := (i_le (b := 0) (by omega) (by decide)).mp c
        refine k h1 f d (fun a ha => ?_)
        by_cases z : a < j
        · exact g1 a z
        · rw [g2 a (by omega) (by omega), mg_end (k := j) (by omega) (by omega)]
          rfl
      · have c : ¬ (mA fit na no - (mst fit na no (mA fit na no) j).2) ≤ 0 := fun z => c ((i_le (b := 0) (by omega) (by decide)).mpr z)
        refine c_least (f.sh sh (by decide)) M1 (by omega) (by omega) (by omega) hF (fun h3 f3 d3 => ?_)
        have hv : vp_in (nI j) 10 := vp_in_nI (by omega) (by decide)
        have f4 : fx h h3 [(133, 39)] [41, 42] := f.tr f3 (by decide) (by decide) (by decide) (by decide)
        have ecl : (nI j).toNatClampNeg = j := i_cl (by omega)
        have e0 : mpick fit na no (mA fit na no) j (mst fit na no (mA fit na no) j).1 (mst fit na no (mA fit na no) j).2 = mg fit na no j := rfl
        rw [e0]
        refine ⟨_, rfl, f4.sh sh (by decide), hv, hv, ?_⟩
        rw [ecl, va_up_self]
        have f5 := f4.sA (a := 41) j (oN (mg fit na no j)) (by decide)
        have d5 := (d.tr d3).sA (a := 41) j (oN (mg fit na no j)) (by decide)
        have ea : h_ai h3 41 = h_ai h1 41 := f3.ai 41 (by decide) (by decide)
        have r1 : ∀ a, a < j + 1 → h_ai (h_sA h3 41 j (oN (mg fit na no j))) 41 a = oN (mg fit na no a) := fun a ha => by
          show va_up (h_ai h3 41) j (oN (mg fit na no j)) a = _
          by_cases z : a = j
          · rw [z, va_up_self]
          · rw [va_up_ne _ _ z, ea]; exact g1 a (by omega)
        have r2 : ∀ a, j + 1 ≤ a → a < 10 → h_ai (h_sA h3 41 j (oN (mg fit na no j))) 41 a = -4 := fun a ha hb => by
          show va_up (h_ai h3 41) j (oN (mg fit na no j)) a = _
          rw [va_up_ne _ _ (by omega), ea]; exact g2 a (by omega) hb
        cases e : mg fit na no j with
        | none =>
          rw [e] at f5 d5 r1 r2
          rw [mg_none e]
          exact ⟨fun _ => ⟨rfl, nI_1 j, f5, d5, hF, r1, r2⟩, fun z => absurd rfl z⟩
        | some o =>
          rw [e] at f5 d5 r1 r2
          have ho := mg_lt e
          have hm := mg_lt2 e
          rw [mg_some e]
          refine ⟨fun z => absurd z (oN_ne o (by omega)), fun _ => ⟨hv, ?_, nI_1 j, f5, d5, fun i hi => ?_, r1, r2⟩⟩
          · rw [nI_m1 (by omega)]
            rfl
          · show bt (free &&& (((1 : Int32) <<< (nI o &&& 31)) ^^^ (-1))) i = va_up _ o false i
            rw [bt_and_not _ (by omega) (by omega)]
            by_cases z : i = o
            · rw [z, va_up_self, va_up_self]
            · rw [va_up_ne _ _ z, va_up_ne _ _ z]; exact hF i hi
  refine t_X2_match_0 (D := 13) sh (K14 := fun x1 x2 x3 hh => x2 = nI (mA fit na no) ∧ x3 = nI 0 ∧ fx h hh [(133, 39)] [41, 42] ∧ dn h hh ∧ (∀ o, o < no → bt x1 o = true) ∧ h_ai hh 41 = h_ai h 41) (fun x1 x2 x3 hh q => ?_) ((c_all sh M (fun x hx => ?_)).up (by decide))
  · obtain ⟨rfl, rfl, q1, q2, q3, q4⟩ := q
    exact loop na 0 (by omega) hh x1 q1 q2 q3 (fun a ha => by omega) (fun a _ ha => by rw [q4]; exact G a ha)
  · refine ⟨x, rfl, sh, (c_most (first := 0) sh M (by omega) (fun h3 f3 d3 => ⟨_, rfl, f3.sh sh (by decide), ?_, rfl, f3.tr (fx.rf _ [] []) (by decide) (by decide) (by decide) (by decide), d3, fun o ho => ?_, f3.ai 41 (by decide) (by decide)⟩)).up (by decide)⟩
    · exact congrArg nI (mN_cong (fun _ _ _ _ => rfl) (fun o ho => by show bt x o = true; rw [hx o (by omega)]; exact decide_eq_true ho))
    · rw [hx o (by omega)]; exact decide_eq_true ho
theorem c_mostAll {h : mm_H} {Q : Option Value → mm_H → Prop} {na no : Nat} {fit : Nat → Nat → Bool} (sh : s_h h) (M : cM h na no fit) (k : ∀ h', fx h h' [(133, 39)] [42] → dn h h' → Q (some (.int (nI (mA fit na no)))) h') : w_c 13 15 [.ref 39] h Q := by
  obtain ⟨hna, hno⟩ := M.1
  refine t_X2_mostPairsOfAll_0 (D := 12) sh ((c_all sh M (fun x hx => ?_)).up (by decide))
  refine ⟨x, rfl, sh, c_most (first := 0) sh M (by omega) (fun h3 f3 d3 => ⟨_, rfl, f3.sh sh (by decide), ?_⟩)⟩
  rw [show mN fit 0 na (fun o => bt x o) no = mA fit na no from mN_cong (fun _ _ _ _ => rfl) (fun o ho => by show bt x o = true; rw [hx o (by omega)]; exact decide_eq_true ho)]
  exact k h3 f3 d3
theorem c_offerOf {h : mm_H} {Q : Option Value → mm_H → Prop} {na no : Nat} {fit : Nat → Nat → Bool} {g : Nat → Option Nat} (sh : s_h h) (M : cM h na no fit) (H : cG h na g) {a : Nat} (ha : a < na) (k : Q (some (.int (oN (g a)))) h) : w_c 0 14 [.ref 39, .int (nI a)] h Q := by
  obtain ⟨hna, hno⟩ := M.1
  refine t_X2_offerOf_0 sh _ ⟨fun c => absurd c (nI_pos (by omega)), fun _ => ⟨fun c => ?_, fun _ => ⟨vp_in_nI (by omega) (by decide), ?_⟩⟩⟩
  · rw [M.2.1, i_le (by omega) (by omega)] at c
    omega
  · rw [i_cl (by omega), H a ha]
    exact k
theorem c_addFit {h : mm_H} {Q : Option Value → mm_H → Prop} {na no : Nat} (sh : s_h h) (M : (na ≤ 10 ∧ no ≤ 10) ∧ h_oi h 131 39 = nI na ∧ h_oi h 132 39 = nI no) {a o : Nat} (ha : a < na) (ho : o < no) (k : Q none (h_sA h 40 a (h_ai h 40 a ||| ((1 : Int32) <<< (nI o &&& 31))))) : w_c 0 13 [.ref 39, .int (nI a), .int (nI o)] h Q := by
  obtain ⟨⟨hna, hno⟩, h1, h2⟩ := M
  have hv : vp_in (nI a) 10 := vp_in_nI (by omega) (by decide)
  refine t_X2_addFit_0 sh _ _ ⟨fun c => absurd c (nI_pos (by omega)), fun _ => ⟨fun c => ?_, fun _ => ⟨fun c => absurd c (nI_pos (by omega)), fun _ => ⟨fun c => ?_, fun _ => ⟨hv, hv, ?_⟩⟩⟩⟩⟩
  · rw [h1, i_le (by omega) (by omega)] at c
    omega
  · rw [h2, i_le (by omega) (by omega)] at c
    omega
  · rw [i_cl (by omega)]
    exact k
theorem c_begin {h : mm_H} {Q : Option Value → mm_H → Prop} {na no : Nat} (sh : s_h h) (hna : na ≤ 10) (hno : no ≤ 10) (k : ∀ h', fx h h' [(131, 39), (132, 39)] [40, 41] → dn h h' → h_oi h' 131 39 = nI na → h_oi h' 132 39 = nI no → (∀ i, i < 10 → h_ai h' 40 i = 0) → (∀ i, i < 10 → h_ai h' 41 i = -4) → Q none h') : w_c 1 12 [.ref 39, .int (nI na), .int (nI no)] h Q := by
  have e : ∀ n : Nat, n ≤ 10 → (if (10 : Int32) < nI n then (10 : Int32) else nI n) = nI n := fun n hn => by
    rw [if_neg]
    intro c
    have := (i_lt (a := 10) (by decide) (by omega)).mp c
    omega
  refine t_X2_begin_0 (D := 0) sh _ _ ?_
  rw [e na hna, e no hno]
  have f0 : fx h (h_sI (h_sI h 131 39 (nI na)) 132 39 (nI no)) [(131, 39), (132, 39)] [40, 41] := ((fx.rf _ _ _).sI _ (by decide)).sI _ (by decide)
  have d0 : dn h (h_sI (h_sI h 131 39 (nI na)) 132 39 (nI no)) := ((dn.rf _).sI _ (by decide)).sI _ (by decide)
  refine c_fill_40 (f0.sh sh (by decide)) _ (fun h1 f1 d1 r1 => ?_)
  have f01 : fx h h1 [(131, 39), (132, 39)] [40, 41] := f0.tr f1 (by decide) (by decide) (by decide) (by decide)
  refine ⟨rfl, f01.sh sh (by decide), c_fill_41 (f01.sh sh (by decide)) _ (fun h2 f2 d2 r2 => ?_)⟩
  have f02 : fx h h2 [(131, 39), (132, 39)] [40, 41] := f01.tr f2 (by decide) (by decide) (by decide) (by decide)
  refine ⟨rfl, f02.sh sh (by decide), k h2 f02 ((d0.tr d1).tr d2) ?_ ?_ (fun i hi => by rw [f2.ai 40 (by decide) (by decide)]; exact r1 i hi) r2⟩
  · rw [f2.oi 131 39 (by decide) (by decide), f1.oi 131 39 (by decide) (by decide)]
    rfl
  · rw [f2.oi 132 39 (by decide) (by decide), f1.oi 132 39 (by decide) (by decide)]
    rfl
end
section
/-! WHO IS REACHED -/
def rO1 (fit : Nat → Nat → Bool) (na no : Nat) (A O : Nat → Prop) : Nat → Prop := fun o => O o ∨ (o < no ∧ ∃ k, k < na ∧ A k ∧ fit k o = true)
def rA1 (g : Nat → Option Nat) (na : Nat) (A O : Nat → Prop) : Nat → Prop := fun k => A k ∨ (k < na ∧ ∃ o, g k = some o ∧ O o)
def rch (fit : Nat → Nat → Bool) (g : Nat → Option Nat) (na no : Nat) : Nat → (Nat → Prop) × (Nat → Prop)
  | 0 => (fun k => k < na ∧ g k = none, fun _ => False)
  | n + 1 => (rA1 g na (rch fit g na no n).1 (rO1 fit na no (rch fit g na no n).1 (rch fit g na no n).2), rO1 fit na no (rch fit g na no n).1 (rch fit g na no n).2)
section
variable {fit : Nat → Nat → Bool} {g : Nat → Option Nat} {na no : Nat}
theorem rch_lt (n : Nat) : (∀ k, (rch fit g na no n).1 k → k < na) ∧ ∀ o, (rch fit g na no n).2 o → o < no := by
  induction n with
  | zero => exact ⟨fun k h => h.1, fun o h => h.elim⟩
  | succ n ih =>
    have h2 : ∀ o, (rch fit g na no (n + 1)).2 o → o < no := fun o h => h.elim (ih.2 o) (fun z => z.1)
    exact ⟨fun k h => h.elim (ih.1 k) (fun z => z.1), h2⟩
theorem rch_st {n : Nat} (h : ∀ k, (rch fit g na no (n + 1)).1 k → (rch fit g na no n).1 k) : rch fit g na no (n + 2) = rch fit g na no (n + 1) := by
  have hO : (rch fit g na no (n + 2)).2 = (rch fit g na no (n + 1)).2 := funext fun o => propext ⟨fun z => z.elim (fun y => y) (fun ⟨ho, k, hk, hA, hf⟩ => Or.inr ⟨ho, k, hk, h k hA, hf⟩), fun z => Or.inl z⟩
  have hA : (rch fit g na no (n + 2)).1 = (rch fit g na no (n + 1)).1 := by
    show rA1 g na (rch fit g na no (n + 1)).1 (rch fit g na no (n + 2)).2 = _
    rw [hO]
    exact funext fun k => propext ⟨fun z => z.elim (fun y => y) (fun y => Or.inr y), fun z => Or.inl z⟩
  exact Prod.ext hA hO
theorem rch_stm {n : Nat} (h : ∀ k, (rch fit g na no (n + 1)).1 k → (rch fit g na no n).1 k) : ∀ m, rch fit g na no (n + 1 + m) = rch fit g na no (n + 1)
  | 0 => rfl
  | m + 1 => by
    have ih := rch_stm h m
    have e : rch fit g na no (n + 1 + (m + 1)) = (rA1 g na (rch fit g na no (n + 1 + m)).1 (rO1 fit na no (rch fit g na no (n + 1 + m)).1 (rch fit g na no (n + 1 + m)).2), rO1 fit na no (rch fit g na no (n + 1 + m)).1 (rch fit g na no (n + 1 + m)).2) := rfl
    rw [e, ih]
    exact rch_st h
noncomputable def pB (P : Nat → Prop) (k : Nat) : Bool := @decide (P k) (Classical.propDecidable _)
theorem pB_t {P : Nat → Prop} {k : Nat} : pB P k = true ↔ P k := by
  unfold pB
  exact @decide_eq_true_iff _ (Classical.propDecidable _)
theorem rch_ct : ∀ n, (∃ i, i < n ∧ ∀ k, (rch fit g na no (i + 1)).1 k → (rch fit g na no i).1 k) ∨ n ≤ fb_ct (pB (rch fit g na no n).1) na
  | 0 => Or.inr (Nat.zero_le _)
  | n + 1 => by
    rcases rch_ct n with ⟨i, hi, h⟩ | h
    · exact Or.inl ⟨i, by omega, h⟩
    · by_cases z : ∀ k, (rch fit g na no (n + 1)).1 k → (rch fit g na no n).1 k
      · exact Or.inl ⟨n, by omega, z⟩
      · right
        obtain ⟨k, hk⟩ := Classical.not_forall.mp z
        have h1 : (rch fit g na no (n + 1)).1 k := Classical.not_not.mp (fun y => hk (fun x => absurd x y))
        have h2 : ¬ (rch fit g na no n).1 k := fun y => hk (fun _ => y)
        have hkn := (rch_lt (n + 1)).1 k h1
        have c := mct_up (p := pB (rch fit g na no n).1) (q := va_up (pB (rch fit g na no n).1) k true) hkn (fun i _ y => va_up_ne _ _ y)
        have e1 : pB (rch fit g na no n).1 k = false := by
          cases e : pB (rch fit g na no n).1 k with
          | false => rfl
          | true => exact absurd (pB_t.mp e) h2
        rw [e1, va_up_self] at c
        have s : fb_ct (va_up (pB (rch fit g na no n).1) k true) na ≤ fb_ct (pB (rch fit g na no (n + 1)).1) na := fb_ct_sub (fun i hi y => by
          by_cases w : i = k
          · rw [w]; exact pB_t.mpr h1
          · rw [va_up_ne _ _ w] at y
            exact pB_t.mpr (Or.inl (pB_t.mp y)))
        simp at c
        omega
theorem rch_fin {n : Nat} (hn : na + 1 ≤ n) : rch fit g na no n = rch fit g na no (na + 1) := by
  rcases rch_ct (fit := fit) (g := g) (na := na) (no := no) (na + 1) with ⟨i, hi, h⟩ | h
  · have e1 := rch_stm h (n - (i + 1))
    have e2 := rch_stm h (na + 1 - (i + 1))
    rw [show i + 1 + (n - (i + 1)) = n by omega] at e1
    rw [show i + 1 + (na + 1 - (i + 1)) = na + 1 by omega] at e2
    rw [e1, e2]
  · have := fb_ct_le (pB (rch fit g na no (na + 1)).1) na
    omega
end
theorem bt_one : ∀ j, j < 32 → bt 1 j = decide (j = 0) := by decide +kernel
theorem bit_sh (x : Int32) {i : Nat} (hi : i < 32) : ((x >>> (nI i &&& 31)) &&& 1) = 0 ↔ bt x i = false := by
  have h0 : ∀ j, j < 32 → bt ((x >>> (nI i &&& 31)) &&& 1) j = (decide (j = 0) && bt x i) := fun j hj => by
    rw [b_and, bt_one j hj]
    by_cases z : j = 0
    · subst z
      rw [b_sshr i hi x (by decide), if_pos (by omega)]
      simp
    · simp [z]
  constructor
  · intro z
    have := h0 0 (by decide)
    rw [z, b_0] at this
    simpa using this.symm
  · intro z
    refine b_ext (fun j hj => ?_)
    rw [h0 j hj, z, b_0]
    simp
theorem bit_sh1 (x : Int32) {i : Nat} (hi : i < 32) : ((x >>> (nI i &&& 31)) &&& 1) = 1 ↔ bt x i = true := by
  have h0 : ∀ j, j < 32 → bt ((x >>> (nI i &&& 31)) &&& 1) j = (decide (j = 0) && bt x i) := fun j hj => by
    rw [b_and, bt_one j hj]
    by_cases z : j = 0
    · subst z
      rw [b_sshr i hi x (by decide), if_pos (by omega)]
      simp
    · simp [z]
  constructor
  · intro z
    have := h0 0 (by decide)
    rw [z, bt_one 0 (by decide)] at this
    simpa using this.symm
  · intro z
    refine b_ext (fun j hj => ?_)
    rw [h0 j hj, z, bt_one j hj]
    simp
/-- an int whose bits are a set -/
def rB (x : Int32) (P : Nat → Prop) : Prop := ∀ i, i < 32 → (bt x i = true ↔ P i)
theorem rB_one {x y : Int32} {P : Nat → Prop} (h1 : rB x P) (h2 : rB y P) : x = y := b_ext fun i hi => by
  have := (h1 i hi).trans (h2 i hi).symm
  cases e1 : bt x i <;> cases e2 : bt y i <;> simp [e1, e2] at this ⊢
theorem rB.or1 {x : Int32} {P : Nat → Prop} (h : rB x P) {k : Nat} (hk : k < 32) : rB (x ||| ((1 : Int32) <<< (nI k &&& 31))) (fun i => P i ∨ i = k) := fun i hi => by
  rw [b_or, bt_1 hk, Bool.or_eq_true, h i hi, decide_eq_true_eq]
theorem rB.cong {x : Int32} {P P2 : Nat → Prop} (h : rB x P) (e : ∀ i, i < 32 → (P i ↔ P2 i)) : rB x P2 := fun i hi => (h i hi).trans (e i hi)
def cMz (h : mm_H) (na no : Nat) : Prop := ∀ a, a < na → ∀ o, no ≤ o → o < 32 → bt (h_ai h 40 a) o = false
theorem cMz.fx {h h' : mm_H} {gs : List (Nat × Nat)} {as : List Nat} {na no : Nat} (H : cMz h na no) (f : fx h h' gs as) (n3 : 40 ∉ as) : cMz h' na no := by
  unfold cMz at H ⊢
  rw [f.ai 40 (by decide) n3]
  exact H
set_option maxHeartbeats 1000000 in
theorem c_further {h : mm_H} {Q : Option Value → mm_H → Prop} {na no : Nat} {fit : Nat → Nat → Bool} {g : Nat → Option Nat} (sh : s_h h) (M : cM h na no fit) (Z : cMz h na no) (G : cG h na g) (hg : ∀ k o, g k = some o → o < no) {A O : Nat → Prop} (hA : rB (h_oi h 134 39) A) (hO : rB (h_oi h 135 39) O) (k : ∀ h', fx h h' [(134, 39), (135, 39)] [] → dn h h' → rB (h_oi h' 134 39) (rA1 g na A (rO1 fit na no A O)) → rB (h_oi h' 135 39) (rO1 fit na no A O) → Q none h') : w_c 0 22 [.ref 39] h Q := by
  obtain ⟨hna, hno⟩ := M.1
  have loop2 : ∀ m j, j + m = na → ∀ (h1 : mm_H), fx h h1 [(134, 39), (135, 39)] [] → dn h h1 → rB (h_oi h1 134 39) (rA1 g j A (rO1 fit na no A O)) → rB (h_oi h1 135 39) (rO1 fit na no A O) → w_p 0 (2, 2, mc_X2_reachFurther) 44 [(0, .ref 39), (1, .int (nI j))] [] h1 Q := by
    intro m
    induction m with
    | zero =>
      intro j hj h1 f d b1 b2
      have M1 := M.fx f (by decide) (by decide) (by decide)
      have ej : j = na := by omega
      subst ej
      refine t_X2_reachFurther_44 (f.sh sh (by decide)) _ (K44 := fun _ _ => False) (fun _ _ z => z.elim) ⟨fun _ => k h1 f d b1 b2, fun c => absurd ?_ c⟩
      rw [M1.2.1, i_le (by omega) (by omega)]
      exact Nat.le_refl _
    | succ m ih =>
      intro j hj h1 f d b1 b2
      have M1 := M.fx f (by decide) (by decide) (by decide)
      have G1 := G.fx f (by decide)
      have hv : vp_in (nI j) 10 := vp_in_nI (by omega) (by decide)
      refine t_X2_reachFurther_44 (f.sh sh (by decide)) _ (K44 := fun x hh => x = nI (j + 1) ∧ fx h hh [(134, 39), (135, 39)] [] ∧ dn h hh ∧ rB (h_oi hh 134 39) (rA1 g (j + 1) A (rO1 fit na no A O)) ∧ rB (h_oi hh 135 39) (rO1 fit na no A O)) (fun x hh q => ?_) ⟨fun c => ?_, fun _ => ⟨hv, ?_⟩⟩
      · obtain ⟨rfl, q1, q2, q3, q4⟩ := q
        exact ih (j + 1) (by omega) hh q1 q2 q3 q4
      · rw [M1.2.1, i_le (by omega) (by omega)] at c
        omega
      · rw [i_cl (by omega), G1 j (by omega)]
        have same : (¬ ∃ o, g j = some o ∧ rO1 fit na no A O o) → rB (h_oi h1 134 39) (rA1 g (j + 1) A (rO1 fit na no A O)) := fun z => b1.cong fun i hi => ⟨fun y => y.elim Or.inl (fun w => Or.inr ⟨by omega, w.2⟩), fun y => y.elim Or.inl (fun w => Or.inr ⟨by
          have : i ≠ j := fun e => z (by rw [← e]; exact w.2)
          omega, w.2⟩)⟩
        cases e : g j with
        | none => exact ⟨fun _ => ⟨nI_1 j, f, d, same (fun ⟨o, eo, _⟩ => by rw [e] at eo; cases eo), b2⟩, fun z => absurd rfl z⟩
        | some o =>
          have ho := hg j o e
          refine ⟨fun z => absurd z (oN_ne o (by omega)), fun _ => ⟨hv, ?_⟩⟩
          show ((h_oi h1 135 39 >>> (nI o &&& 31)) &&& 1 = 0 → _) ∧ (¬ (h_oi h1 135 39 >>> (nI o &&& 31)) &&& 1 = 0 → _)
          rw [bit_sh _ (by omega)]
          refine ⟨fun c => ⟨nI_1 j, f, d, same (fun ⟨o2, eo, w⟩ => ?_), b2⟩, fun c => ⟨nI_1 j, f.sI _ (by decide), d.sI _ (by decide), ?_, b2⟩⟩
          · rw [e] at eo
            cases eo
            have := (b2 o (by omega)).mpr w
            rw [c] at this
            cases this
          · have c : bt (h_oi h1 135 39) o = true := by cases e3 : bt (h_oi h1 135 39) o with
              | true => rfl
              | false => exact absurd e3 c
            refine (b1.or1 (k := j) (by omega)).cong fun i hi => ⟨fun y => ?_, fun y => ?_⟩
            · rcases y with y | rfl
              · exact y.elim Or.inl (fun w => Or.inr ⟨by omega, w.2⟩)
              · exact Or.inr ⟨by omega, o, e, (b2 o (by omega)).mp c⟩
            · rcases y with y | ⟨y1, y2⟩
              · exact Or.inl (Or.inl y)
              · by_cases w : i = j
                · exact Or.inr w
                · exact Or.inl (Or.inr ⟨by omega, y2⟩)
  have loop1 : ∀ m j, j + m = na → ∀ (h1 : mm_H), fx h h1 [(134, 39), (135, 39)] [] → dn h h1 → rB (h_oi h1 134 39) A → rB (h_oi h1 135 39) (rO1 fit j no A O) → w_p 0 (2, 2, mc_X2_reachFurther) 2 [(0, .ref 39), (1, .int (nI j))] [] h1 Q := by
    intro m
    induction m with
    | zero =>
      intro j hj h1 f d b1 b2
      have M1 := M.fx f (by decide) (by decide) (by decide)
      have ej : j = na := by omega
      subst ej
      refine t_X2_reachFurther_2 (f.sh sh (by decide)) _ (K2 := fun _ _ => False) (fun _ _ z => z.elim) (K44 := fun x hh => x = nI 0 ∧ hh = h1) (fun x hh q => ?_) ⟨fun _ => ⟨rfl, rfl⟩, fun c => absurd ?_ c⟩
      · obtain ⟨rfl, rfl⟩ := q
        exact loop2 j 0 (by omega) hh f d (b1.cong fun i hi => ⟨Or.inl, fun y => y.elim (fun w => w) (fun w => by omega)⟩) b2
      · rw [M1.2.1, i_le (by omega) (by omega)]
        exact Nat.le_refl _
    | succ m ih =>
      intro j hj h1 f d b1 b2
      have M1 := M.fx f (by decide) (by decide) (by decide)
      have Z1 := Z.fx f (by decide)
      have hv : vp_in (nI j) 10 := vp_in_nI (by omega) (by decide)
      refine t_X2_reachFurther_2 (f.sh sh (by decide)) _ (K2 := fun x hh => x = nI (j + 1) ∧ fx h hh [(134, 39), (135, 39)] [] ∧ dn h hh ∧ rB (h_oi hh 134 39) A ∧ rB (h_oi hh 135 39) (rO1 fit (j + 1) no A O)) (fun x hh q => ?_) (K44 := fun _ _ => False) (fun _ _ z => z.elim) ⟨fun c => ?_, fun _ => ?_⟩
      · obtain ⟨rfl, q1, q2, q3, q4⟩ := q
        exact ih (j + 1) (by omega) hh q1 q2 q3 q4
      · rw [M1.2.1, i_le (by omega) (by omega)] at c
        omega
      · rw [bit_sh _ (by omega), i_cl (by omega)]
        refine ⟨fun c => ⟨nI_1 j, f, d, b1, b2.cong fun i hi => ⟨fun y => y.elim Or.inl (fun ⟨w1, w, w2, w3, w4⟩ => Or.inr ⟨w1, w, by omega, w3, w4⟩), fun y => y.elim Or.inl (fun ⟨w1, w, w2, w3, w4⟩ => Or.inr ⟨w1, w, ?_, w3, w4⟩)⟩⟩, fun c => ⟨hv, nI_1 j, f.sI _ (by decide), d.sI _ (by decide), b1, fun i hi => ?_⟩⟩
        · have : w ≠ j := fun e => by
            rw [e] at w3
            have := (b1 j (by omega)).mpr w3
            rw [c] at this
            cases this
          omega
        · have c : bt (h_oi h1 134 39) j = true := by cases e3 : bt (h_oi h1 134 39) j with
            | true => rfl
            | false => exact absurd e3 c
          show bt (h_oi h1 135 39 ||| h_ai h1 40 j) i = true ↔ _
          rw [b_or, Bool.or_eq_true, b2 i hi]
          constructor
          · rintro (y | y)
            · exact y.elim Or.inl (fun ⟨w1, w, w2, w3, w4⟩ => Or.inr ⟨w1, w, by omega, w3, w4⟩)
            · by_cases w : i < no
              · rw [M1.fit (by omega) w] at y
                exact Or.inr ⟨w, j, by omega, (b1 j (by omega)).mp c, y⟩
              · rw [Z1 j (by omega) i (by omega) hi] at y
                cases y
          · rintro (y | ⟨w1, w, w2, w3, w4⟩)
            · exact Or.inl (Or.inl y)
            · by_cases e : w = j
              · right
                rw [M1.fit (by omega) w1, ← e]
                exact w4
              · exact Or.inl (Or.inr ⟨w1, w, by omega, w3, w4⟩)
  refine t_X2_reachFurther_0 sh (K2 := fun x hh => x = nI 0 ∧ hh = h) (fun x hh q => ?_) ⟨rfl, rfl⟩
  obtain ⟨rfl, rfl⟩ := q
  exact loop1 na 0 (by omega) hh (fx.rf _ _ _) (dn.rf _) hA (hO.cong fun i hi => ⟨Or.inl, fun y => y.elim (fun w => w) (fun ⟨_, _, w, _⟩ => by omega)⟩)
set_option maxHeartbeats 1000000 in
theorem c_reach {h : mm_H} {Q : Option Value → mm_H → Prop} {na no : Nat} {fit : Nat → Nat → Bool} {g : Nat → Option Nat} (sh : s_h h) (M : cM h na no fit) (Z : cMz h na no) (G : cG h na g) (hg : ∀ k o, g k = some o → o < no) (k : ∀ h', fx h h' [(134, 39), (135, 39)] [] → dn h h' → rB (h_oi h' 134 39) (rch fit g na no (na + 1)).1 → rB (h_oi h' 135 39) (rch fit g na no (na + 1)).2 → Q none h') : w_c 1 21 [.ref 39] h Q := by
  obtain ⟨hna, hno⟩ := M.1
  have loop2 : ∀ m j, j + m = na + 1 → ∀ (h1 : mm_H), fx h h1 [(134, 39), (135, 39)] [] → dn h h1 → rB (h_oi h1 134 39) (rch fit g na no j).1 → rB (h_oi h1 135 39) (rch fit g na no j).2 → w_p (0 + 1) (2, 2, mc_X2_reach) 51 [(0, .ref 39), (1, .int (nI j))] [] h1 Q := by
    intro m
    induction m with
    | zero =>
      intro j hj h1 f d b1 b2
      have M1 := M.fx f (by decide) (by decide) (by decide)
      have ej : j = na + 1 := by omega
      subst ej
      refine t_X2_reach_51 (f.sh sh (by decide)) _ (K51 := fun _ _ => False) (fun _ _ z => z.elim) ⟨fun _ => k h1 f d b1 b2, fun c => absurd ?_ c⟩
      rw [M1.2.1, i_lt (by omega) (by omega)]
      omega
    | succ m ih =>
      intro j hj h1 f d b1 b2
      have M1 := M.fx f (by decide) (by decide) (by decide)
      refine t_X2_reach_51 (f.sh sh (by decide)) _ (K51 := fun x hh => x = nI (j + 1) ∧ fx h hh [(134, 39), (135, 39)] [] ∧ dn h hh ∧ rB (h_oi hh 134 39) (rch fit g na no (j + 1)).1 ∧ rB (h_oi hh 135 39) (rch fit g na no (j + 1)).2) (fun x hh q => ?_) ⟨fun c => ?_, fun _ => ?_⟩
      · obtain ⟨rfl, q1, q2, q3, q4⟩ := q
        exact ih (j + 1) (by omega) hh q1 q2 q3 q4
      · rw [M1.2.1, i_lt (by omega) (by omega)] at c
        omega
      · refine c_further (f.sh sh (by decide)) M1 (Z.fx f (by decide)) (G.fx f (by decide)) hg b1 b2 (fun h3 f3 d3 r1 r2 => ?_)
        have f4 : fx h h3 [(134, 39), (135, 39)] [] := f.tr f3 (by decide) (by decide) (by decide) (by decide)
        exact ⟨rfl, f4.sh sh (by decide), nI_1 j, f4, d.tr d3, r1, r2⟩
  have loop1 : ∀ m j, j + m = na → ∀ (h1 : mm_H), fx h h1 [(134, 39), (135, 39)] [] → dn h h1 → rB (h_oi h1 134 39) (fun i => i < j ∧ g i = none) → rB (h_oi h1 135 39) (fun _ => False) → w_p (0 + 1) (2, 2, mc_X2_reach) 12 [(0, .ref 39), (1, .int (nI j))] [] h1 Q := by
    intro m
    induction m with
    | zero =>
      intro j hj h1 f d b1 b2
      have M1 := M.fx f (by decide) (by decide) (by decide)
      have ej : j = na := by omega
      subst ej
      refine t_X2_reach_12 (f.sh sh (by decide)) _ (K12 := fun _ _ => False) (fun _ _ z => z.elim) (K51 := fun x hh => x = nI 0 ∧ hh = h1) (fun x hh q => ?_) ⟨fun _ => ⟨rfl, rfl⟩, fun c => absurd ?_ c⟩
      · obtain ⟨rfl, rfl⟩ := q
        exact loop2 (j + 1) 0 (by omega) hh f d b1 b2
      · rw [M1.2.1, i_le (by omega) (by omega)]
        exact Nat.le_refl _
    | succ m ih =>
      intro j hj h1 f d b1 b2
      have M1 := M.fx f (by decide) (by decide) (by decide)
      have G1 := G.fx f (by decide)
      have hv : vp_in (nI j) 10 := vp_in_nI (by omega) (by decide)
      refine t_X2_reach_12 (f.sh sh (by decide)) _ (K12 := fun x hh => x = nI (j + 1) ∧ fx h hh [(134, 39), (135, 39)] [] ∧ dn h hh ∧ rB (h_oi hh 134 39) (fun i => i < j + 1 ∧ g i = none) ∧ rB (h_oi hh 135 39) (fun _ => False)) (fun x hh q => ?_) (K51 := fun _ _ => False) (fun _ _ z => z.elim) ⟨fun c => ?_, fun _ => ⟨hv, ?_⟩⟩
      · obtain ⟨rfl, q1, q2, q3, q4⟩ := q
        exact ih (j + 1) (by omega) hh q1 q2 q3 q4
      · rw [M1.2.1, i_le (by omega) (by omega)] at c
        omega
      · rw [i_cl (by omega), G1 j (by omega)]
        refine ⟨fun c => ⟨nI_1 j, f, d, b1.cong fun i hi => ⟨fun y => ⟨by omega, y.2⟩, fun y => ⟨?_, y.2⟩⟩, b2⟩, fun c => ⟨nI_1 j, f.sI _ (by decide), d.sI _ (by decide), (b1.or1 (k := j) (by omega)).cong fun i hi => ⟨fun y => ?_, fun y => ?_⟩, b2⟩⟩
        · have : i ≠ j := fun e => c (by rw [← e, y.2]; rfl)
          omega
        · rcases y with y | rfl
          · exact ⟨by omega, y.2⟩
          · refine ⟨by omega, ?_⟩
            cases e : g i with
            | none => rfl
            | some o =>
              rw [e] at c
              exact absurd c (oN_ne o (by have := hg i o e; omega))
        · by_cases w : i = j
          · exact Or.inr w
          · exact Or.inl ⟨by omega, y.2⟩
  refine t_X2_reach_0 (D := 0) sh (K12 := fun x hh => x = nI 0 ∧ hh = h_sI (h_sI h 134 39 0) 135 39 0) (fun x hh q => ?_) ⟨rfl, rfl⟩
  obtain ⟨rfl, rfl⟩ := q
  exact loop1 na 0 (by omega) _ (((fx.rf _ _ _).sI _ (by decide)).sI _ (by decide)) (((dn.rf _).sI _ (by decide)).sI _ (by decide)) (fun i hi => ⟨fun y => (by rw [show bt (h_oi (h_sI (h_sI h 134 39 0) 135 39 0) 134 39) i = bt 0 i from rfl, b_0] at y; cases y), fun y => by omega⟩) (fun i hi => ⟨fun y => (by rw [show bt (h_oi (h_sI (h_sI h 134 39 0) 135 39 0) 135 39) i = bt 0 i from rfl, b_0] at y; cases y), fun y => y.elim⟩)
theorem c_notReached {h : mm_H} {Q : Option Value → mm_H → Prop} {na no : Nat} {fit : Nat → Nat → Bool} (sh : s_h h) (M : cM h na no fit) {A : Nat → Prop} (hA : rB (h_oi h 134 39) A) (k : ∀ x, rB x (fun i => i < na ∧ ¬ A i) → Q (some (.int x)) h) : w_c 0 23 [.ref 39] h Q := by
  refine t_X2_asksNotReached_0 sh ?_
  rw [M.2.1]
  refine k _ (fun i hi => ?_)
  rw [b_and, bt_not _ hi, bt_all na M.1.1 i hi, Bool.and_eq_true, decide_eq_true_eq]
  have := hA i hi
  cases e : bt (h_oi h 134 39) i <;> simp [e] at this ⊢ <;> simp [this]
end
section
set_option maxRecDepth 20000 in
theorem t_X9_change_0 {h : mm_H} {Q : Option Value → mm_H → Prop} (sh : s_h h) (e : Int32) {K2 : Int32 → Int32 → mm_H → Prop} (k2 : ∀ (e : Int32) (x2 : Int32) (h : mm_H), K2 e x2 h → w_p 0 (9, 5, mc_X9_change) 2 [(0, .ref 44), (1, .int e), (2, .int x2)] [] h Q) 
    (F : K2 e e h) :
    w_c 0 138 [.ref 44, .int e] h Q := by
  refine w_ci (M := (9, 5, mc_X9_change)) rfl (Nat.le_of_ble_eq_true rfl) ?_
  show w_p _ _ 0 [(0, .ref 44), (1, .int e)] [] h Q
  refine w_b 2 2 [(2, .int e), (0, .ref 44), (1, .int e)] [] rfl ?_
  refine w_lo [0, 1, 2] [(0, .ref 44), (1, .int e), (2, .int e)] rfl rfl ?_
  exact k2 _ _ _ F

set_option maxRecDepth 20000 in
theorem t_X9_change_2 {h : mm_H} {Q : Option Value → mm_H → Prop} (sh : s_h h) (e : Int32) (x2 : Int32) {K2 : Int32 → Int32 → mm_H → Prop} (k2 : ∀ (e : Int32) (x2 : Int32) (h : mm_H), K2 e x2 h → w_p 0 (9, 5, mc_X9_change) 2 [(0, .ref 44), (1, .int e), (2, .int x2)] [] h Q) 
    (F : ((x2 = (-4) → Q none h) ∧ (¬ (x2 = (-4)) → (vp_in x2 10 ∧ (vp_in (h_ai h 64 x2.toNatClampNeg) 10 ∧ (vp_in (h_ai h 64 x2.toNatClampNeg) 10 ∧ (vp_in x2 10 ∧ K2 e (h_ai h 62 (h_ai h 64 x2.toNatClampNeg).toNatClampNeg) (h_sA (h_sA h 62 ((h_ai h 64 x2.toNatClampNeg).toNatClampNeg) x2) 63 x2.toNatClampNeg (h_ai h 64 x2.toNatClampNeg))))))))) :
    w_p 0 (9, 5, mc_X9_change) 2 [(0, .ref 44), (1, .int e), (2, .int x2)] [] h Q := by
  refine w_b 2 5 [(0, .ref 44), (1, .int e), (2, .int x2)] [.int (-4), .int x2] rfl ?_
  refine w_ic_eq (tgt := 43) (x := x2) (y := (-4)) rfl (by decide) ⟨fun c1 => ?_, fun c1 => ?_⟩
  · have F := F.1 c1
    exact w_vr rfl F
  · have F := F.2 c1
    refine w_b 1 9 [(0, .ref 44), (1, .int e), (2, .int x2)] [.ref 44] rfl ?_
    refine w_getS (b := 64) rfl rfl rfl (kd_44 sh) (or_611_44 sh) ?_
    refine w_b 1 13 [(0, .ref 44), (1, .int e), (2, .int x2)] [.int x2, .ref 64] rfl ?_
    obtain ⟨g2, F⟩ := F
    refine w_iald rfl (kd_64 sh) (by rw [show h_al h 64 = 10 from (al_64 sh)]; exact g2) ?_
    refine w_b 2 16 [(3, .int (h_ai h 64 x2.toNatClampNeg)), (0, .ref 44), (1, .int e), (2, .int x2)] [.ref 44] rfl ?_
    refine w_getS (b := 62) rfl rfl rfl (kd_44 sh) (or_609_44 sh) ?_
    refine w_b 1 20 [(3, .int (h_ai h 64 x2.toNatClampNeg)), (0, .ref 44), (1, .int e), (2, .int x2)] [.int (h_ai h 64 x2.toNatClampNeg), .ref 62] rfl ?_
    obtain ⟨g3, F⟩ := F
    refine w_iald rfl (kd_62 sh) (by rw [show h_al h 62 = 10 from (al_62 sh)]; exact g3) ?_
    refine w_b 2 24 [(4, .int (h_ai h 62 (h_ai h 64 x2.toNatClampNeg).toNatClampNeg)), (3, .int (h_ai h 64 x2.toNatClampNeg)), (0, .ref 44), (1, .int e), (2, .int x2)] [.ref 44] rfl ?_
    refine w_getS (b := 62) rfl rfl rfl (kd_44 sh) (or_609_44 sh) ?_
    refine w_b 2 29 [(4, .int (h_ai h 62 (h_ai h 64 x2.toNatClampNeg).toNatClampNeg)), (3, .int (h_ai h 64 x2.toNatClampNeg)), (0, .ref 44), (1, .int e), (2, .int x2)] [.int x2, .int (h_ai h 64 x2.toNatClampNeg), .ref 62] rfl ?_
    obtain ⟨g4, F⟩ := F
    refine w_iast rfl (kd_62 sh) (by decide) (by rw [show h_al h 62 = 10 from (al_62 sh)]; exact g4) ?_
    refine w_b 1 31 [(4, .int (h_ai h 62 (h_ai h 64 x2.toNatClampNeg).toNatClampNeg)), (3, .int (h_ai h 64 x2.toNatClampNeg)), (0, .ref 44), (1, .int e), (2, .int x2)] [.ref 44] rfl ?_
    refine w_getS (b := 63) rfl rfl rfl (kd_44 sh) (or_610_44 sh) ?_
    refine w_b 2 36 [(4, .int (h_ai h 62 (h_ai h 64 x2.toNatClampNeg).toNatClampNeg)), (3, .int (h_ai h 64 x2.toNatClampNeg)), (0, .ref 44), (1, .int e), (2, .int x2)] [.int (h_ai h 64 x2.toNatClampNeg), .int x2, .ref 63] rfl ?_
    obtain ⟨g5, F⟩ := F
    refine w_iast rfl (kd_63 sh) (by decide) (by rw [show h_al (h_sA h 62 ((h_ai h 64 x2.toNatClampNeg).toNatClampNeg) x2) 63 = 10 from (al_63 sh)]; exact g5) ?_
    refine w_b 3 2 [(2, .int (h_ai h 62 (h_ai h 64 x2.toNatClampNeg).toNatClampNeg)), (4, .int (h_ai h 62 (h_ai h 64 x2.toNatClampNeg).toNatClampNeg)), (3, .int (h_ai h 64 x2.toNatClampNeg)), (0, .ref 44), (1, .int e)] [] rfl ?_
    refine w_lo [0, 1, 2] [(0, .ref 44), (1, .int e), (2, .int (h_ai h 62 (h_ai h 64 x2.toNatClampNeg).toNatClampNeg))] rfl rfl ?_
    exact k2 _ _ _ F

set_option maxRecDepth 20000 in
theorem t_X9_grows_0 {D : Nat} {h : mm_H} {Q : Option Value → mm_H → Prop} (sh : s_h h) (start : Int32) (out : Int32) {K2 : Int32 → Int32 → Int32 → mm_H → Prop} (k2 : ∀ (start : Int32) (out : Int32) (x3 : Int32) (h : mm_H), K2 start out x3 h → w_p (D + 1) (9, 7, mc_X9_grows) 2 [(0, .ref 44), (1, .int start), (2, .int out), (3, .int x3)] [] h Q) 
    (F : K2 start out 0 h) :
    w_c (D + 1) 137 [.ref 44, .int start, .int out] h Q := by
  refine w_ci (M := (9, 7, mc_X9_grows)) rfl (Nat.le_of_ble_eq_true rfl) ?_
  show w_p _ _ 0 [(0, .ref 44), (1, .int start), (2, .int out)] [] h Q
  refine w_b 2 2 [(3, .int 0), (0, .ref 44), (1, .int start), (2, .int out)] [] rfl ?_
  refine w_lo [0, 1, 2, 3] [(0, .ref 44), (1, .int start), (2, .int out), (3, .int 0)] rfl rfl ?_
  exact k2 _ _ _ _ F

set_option maxRecDepth 20000 in
theorem t_X9_grows_2 {D : Nat} {h : mm_H} {Q : Option Value → mm_H → Prop} (sh : s_h h) (start : Int32) (out : Int32) (x3 : Int32) {K2 : Int32 → Int32 → Int32 → mm_H → Prop} (k2 : ∀ (start : Int32) (out : Int32) (x3 : Int32) (h : mm_H), K2 start out x3 h → w_p (D + 1) (9, 7, mc_X9_grows) 2 [(0, .ref 44), (1, .int start), (2, .int out), (3, .int x3)] [] h Q) {K36 : Int32 → Int32 → Int32 → Int32 → mm_H → Prop} (k36 : ∀ (start : Int32) (out : Int32) (x3 : Int32) (x4 : Int32) (h : mm_H), K36 start out x3 x4 h → w_p (D + 1) (9, 7, mc_X9_grows) 36 [(0, .ref 44), (1, .int start), (2, .int out), (3, .int x3), (4, .int x4)] [] h Q) 
    (F : (((h_oi h 604 44) ≤ x3 → (vp_in 0 20 ∧ K36 start out 1 0 (h_sA h 65 ((0 : Int32).toNatClampNeg) start))) ∧ (¬ ((h_oi h 604 44) ≤ x3) → (vp_in x3 10 ∧ K2 start out (x3 + 1) (h_sA h 64 x3.toNatClampNeg (-4)))))) :
    w_p (D + 1) (9, 7, mc_X9_grows) 2 [(0, .ref 44), (1, .int start), (2, .int out), (3, .int x3)] [] h Q := by
  refine w_b 2 4 [(0, .ref 44), (1, .int start), (2, .int out), (3, .int x3)] [.ref 44, .int x3] rfl ?_
  refine w_get (g := 604) rfl rfl rfl (kd_44 sh) ?_
  refine w_ic_ge (tgt := 24) (x := x3) (y := h_oi h 604 44) rfl (by decide) ⟨fun c1 => ?_, fun c1 => ?_⟩
  · have F := F.1 c1
    refine w_b 3 27 [(3, .int 1), (0, .ref 44), (1, .int start), (2, .int out)] [.ref 44] rfl ?_
    refine w_getS (b := 65) rfl rfl rfl (kd_44 sh) (or_612_44 sh) ?_
    refine w_b 2 32 [(3, .int 1), (0, .ref 44), (1, .int start), (2, .int out)] [.int start, .int 0, .ref 65] rfl ?_
    obtain ⟨g2, F⟩ := F
    refine w_iast rfl (kd_65 sh) (by decide) (by rw [show h_al h 65 = 20 from (al_65 sh)]; exact g2) ?_
    refine w_b 2 36 [(4, .int 0), (3, .int 1), (0, .ref 44), (1, .int start), (2, .int out)] [] rfl ?_
    refine w_lo [0, 1, 2, 3, 4] [(0, .ref 44), (1, .int start), (2, .int out), (3, .int 1), (4, .int 0)] rfl rfl ?_
    exact k36 _ _ _ _ _ F
  · have F := F.2 c1
    refine w_b 1 11 [(0, .ref 44), (1, .int start), (2, .int out), (3, .int x3)] [.ref 44] rfl ?_
    refine w_getS (b := 64) rfl rfl rfl (kd_44 sh) (or_611_44 sh) ?_
    refine w_b 2 17 [(0, .ref 44), (1, .int start), (2, .int out), (3, .int x3)] [.int (-4), .int x3, .ref 64] rfl ?_
    obtain ⟨g3, F⟩ := F
    refine w_iast rfl (kd_64 sh) (by decide) (by rw [show h_al h 64 = 10 from (al_64 sh)]; exact g3) ?_
    refine w_b 2 2 [(3, .int (x3 + 1)), (0, .ref 44), (1, .int start), (2, .int out)] [] rfl ?_
    refine w_lo [0, 1, 2, 3] [(0, .ref 44), (1, .int start), (2, .int out), (3, .int (x3 + 1))] rfl rfl ?_
    exact k2 _ _ _ _ F

set_option maxRecDepth 20000 in
theorem t_X9_grows_36 {D : Nat} {h : mm_H} {Q : Option Value → mm_H → Prop} (sh : s_h h) (start : Int32) (out : Int32) (x3 : Int32) (x4 : Int32) {K54 : Int32 → Int32 → Int32 → Int32 → Int32 → Int32 → mm_H → Prop} (k54 : ∀ (start : Int32) (out : Int32) (x3 : Int32) (x4 : Int32) (x5 : Int32) (x6 : Int32) (h : mm_H), K54 start out x3 x4 x5 x6 h → w_p (D + 1) (9, 7, mc_X9_grows) 54 [(0, .ref 44), (1, .int start), (2, .int out), (3, .int x3), (4, .int x4), (5, .int x5), (6, .int x6)] [] h Q) 
    (F : ((x3 ≤ x4 → Q (some (.int 0)) h) ∧ (¬ (x3 ≤ x4) → (vp_in x4 20 ∧ K54 start out x3 x4 (h_ai h 65 x4.toNatClampNeg) 0 h)))) :
    w_p (D + 1) (9, 7, mc_X9_grows) 36 [(0, .ref 44), (1, .int start), (2, .int out), (3, .int x3), (4, .int x4)] [] h Q := by
  refine w_b 2 39 [(0, .ref 44), (1, .int start), (2, .int out), (3, .int x3), (4, .int x4)] [.int x3, .int x4] rfl ?_
  refine w_ic_ge (tgt := 157) (x := x4) (y := x3) rfl (by decide) ⟨fun c1 => ?_, fun c1 => ?_⟩
  · have F := F.1 c1
    refine w_b 1 158 [(0, .ref 44), (1, .int start), (2, .int out), (3, .int x3), (4, .int x4)] [.int 0] rfl ?_
    exact w_br rfl (by decide) F
  · have F := F.2 c1
    refine w_b 1 43 [(0, .ref 44), (1, .int start), (2, .int out), (3, .int x3), (4, .int x4)] [.ref 44] rfl ?_
    refine w_getS (b := 65) rfl rfl rfl (kd_44 sh) (or_612_44 sh) ?_
    refine w_b 1 48 [(0, .ref 44), (1, .int start), (2, .int out), (3, .int x3), (4, .int x4)] [.int x4, .ref 65] rfl ?_
    obtain ⟨g2, F⟩ := F
    refine w_iald rfl (kd_65 sh) (by rw [show h_al h 65 = 20 from (al_65 sh)]; exact g2) ?_
    refine w_b 3 54 [(6, .int 0), (5, .int (h_ai h 65 x4.toNatClampNeg)), (0, .ref 44), (1, .int start), (2, .int out), (3, .int x3), (4, .int x4)] [] rfl ?_
    refine w_lo [0, 1, 2, 3, 4, 5, 6] [(0, .ref 44), (1, .int start), (2, .int out), (3, .int x3), (4, .int x4), (5, .int (h_ai h 65 x4.toNatClampNeg)), (6, .int 0)] rfl rfl ?_
    exact k54 _ _ _ _ _ _ _ F

set_option maxRecDepth 20000 in
theorem t_X9_grows_54 {D : Nat} {h : mm_H} {Q : Option Value → mm_H → Prop} (sh : s_h h) (start : Int32) (out : Int32) (x3 : Int32) (x4 : Int32) (x5 : Int32) (x6 : Int32) {K36 : Int32 → Int32 → Int32 → Int32 → mm_H → Prop} (k36 : ∀ (start : Int32) (out : Int32) (x3 : Int32) (x4 : Int32) (h : mm_H), K36 start out x3 x4 h → w_p (D + 1) (9, 7, mc_X9_grows) 36 [(0, .ref 44), (1, .int start), (2, .int out), (3, .int x3), (4, .int x4)] [] h Q) {K54 : Int32 → Int32 → Int32 → Int32 → Int32 → Int32 → mm_H → Prop} (k54 : ∀ (start : Int32) (out : Int32) (x3 : Int32) (x4 : Int32) (x5 : Int32) (x6 : Int32) (h : mm_H), K54 start out x3 x4 x5 x6 h → w_p (D + 1) (9, 7, mc_X9_grows) 54 [(0, .ref 44), (1, .int start), (2, .int out), (3, .int x3), (4, .int x4), (5, .int x5), (6, .int x6)] [] h Q) 
    (F : (((h_oi h 604 44) ≤ x6 → K36 start out x3 (x4 + 1) h) ∧ (¬ ((h_oi h 604 44) ≤ x6) → (vp_in (((10 : Int32) * x5) + x6) 100 ∧ (((h_ai h 61 (((10 : Int32) * x5) + x6).toNatClampNeg) = 0 → K54 start out x3 x4 x5 (x6 + 1) h) ∧ (¬ ((h_ai h 61 (((10 : Int32) * x5) + x6).toNatClampNeg) = 0) → (vp_in x6 10 ∧ ((¬ (h_ai h 64 x6.toNatClampNeg) = (-4) → K54 start out x3 x4 x5 (x6 + 1) h) ∧ ((h_ai h 64 x6.toNatClampNeg) = (-4) → ((¬ ((out >>> (x6 &&& 31)) &&& (1 : Int32)) = 0 → K54 start out x3 x4 x5 (x6 + 1) h) ∧ (((out >>> (x6 &&& 31)) &&& (1 : Int32)) = 0 → (vp_in x6 10 ∧ (vp_in x6 10 ∧ ((¬ (h_ai h 63 x6.toNatClampNeg) = (-4) → (vp_in x6 10 ∧ (vp_in x3 20 ∧ K54 start out (x3 + 1) x4 x5 (x6 + 1) (h_sA (h_sA h 64 x6.toNatClampNeg x5) 65 x3.toNatClampNeg (h_ai h 63 x6.toNatClampNeg))))) ∧ ((h_ai h 63 x6.toNatClampNeg) = (-4) → w_c D 138 [.ref 44, .int x6] (h_sA h 64 x6.toNatClampNeg x5) (fun r h12 => r = none ∧ s_h h12 ∧ Q (some (.int 1)) h12)))))))))))))))) :
    w_p (D + 1) (9, 7, mc_X9_grows) 54 [(0, .ref 44), (1, .int start), (2, .int out), (3, .int x3), (4, .int x4), (5, .int x5), (6, .int x6)] [] h Q := by
  refine w_b 2 57 [(0, .ref 44), (1, .int start), (2, .int out), (3, .int x3), (4, .int x4), (5, .int x5), (6, .int x6)] [.ref 44, .int x6] rfl ?_
  refine w_get (g := 604) rfl rfl rfl (kd_44 sh) ?_
  refine w_ic_ge (tgt := 151) (x := x6) (y := h_oi h 604 44) rfl (by decide) ⟨fun c1 => ?_, fun c1 => ?_⟩
  · have F := F.1 c1
    refine w_b 2 36 [(4, .int (x4 + 1)), (0, .ref 44), (1, .int start), (2, .int out), (3, .int x3), (5, .int x5), (6, .int x6)] [] rfl ?_
    refine w_lo [0, 1, 2, 3, 4] [(0, .ref 44), (1, .int start), (2, .int out), (3, .int x3), (4, .int (x4 + 1))] rfl rfl ?_
    exact k36 _ _ _ _ _ F
  · have F := F.2 c1
    refine w_b 1 64 [(0, .ref 44), (1, .int start), (2, .int out), (3, .int x3), (4, .int x4), (5, .int x5), (6, .int x6)] [.ref 44] rfl ?_
    refine w_getS (b := 61) rfl rfl rfl (kd_44 sh) (or_608_44 sh) ?_
    refine w_b 5 75 [(0, .ref 44), (1, .int start), (2, .int out), (3, .int x3), (4, .int x4), (5, .int x5), (6, .int x6)] [.int (((10 : Int32) * x5) + x6), .ref 61] rfl ?_
    obtain ⟨g2, F⟩ := F
    refine w_bald rfl (Or.inr (kd_61 sh)) (by rw [show h_al h 61 = 100 from (al_61 sh)]; exact g2) ?_
    refine w_if_eq (tgt := 145) (x := h_ai h 61 (((10 : Int32) * x5) + x6).toNatClampNeg) rfl (by decide) ⟨fun c3 => ?_, fun c3 => ?_⟩
    · have F := F.1 c3
      refine w_b 2 54 [(6, .int (x6 + 1)), (0, .ref 44), (1, .int start), (2, .int out), (3, .int x3), (4, .int x4), (5, .int x5)] [] rfl ?_
      refine w_lo [0, 1, 2, 3, 4, 5, 6] [(0, .ref 44), (1, .int start), (2, .int out), (3, .int x3), (4, .int x4), (5, .int x5), (6, .int (x6 + 1))] rfl rfl ?_
      exact k54 _ _ _ _ _ _ _ F
    · have F := F.2 c3
      refine w_b 1 80 [(0, .ref 44), (1, .int start), (2, .int out), (3, .int x3), (4, .int x4), (5, .int x5), (6, .int x6)] [.ref 44] rfl ?_
      refine w_getS (b := 64) rfl rfl rfl (kd_44 sh) (or_611_44 sh) ?_
      refine w_b 1 85 [(0, .ref 44), (1, .int start), (2, .int out), (3, .int x3), (4, .int x4), (5, .int x5), (6, .int x6)] [.int x6, .ref 64] rfl ?_
      obtain ⟨g4, F⟩ := F
      refine w_iald rfl (kd_64 sh) (by rw [show h_al h 64 = 10 from (al_64 sh)]; exact g4) ?_
      refine w_b 1 88 [(0, .ref 44), (1, .int start), (2, .int out), (3, .int x3), (4, .int x4), (5, .int x5), (6, .int x6)] [.int (-4), .int (h_ai h 64 x6.toNatClampNeg)] rfl ?_
      refine w_ic_ne (tgt := 145) (x := h_ai h 64 x6.toNatClampNeg) (y := (-4)) rfl (by decide) ⟨fun c5 => ?_, fun c5 => ?_⟩
      · have F := F.1 c5
        refine w_b 2 54 [(6, .int (x6 + 1)), (0, .ref 44), (1, .int start), (2, .int out), (3, .int x3), (4, .int x4), (5, .int x5)] [] rfl ?_
        refine w_lo [0, 1, 2, 3, 4, 5, 6] [(0, .ref 44), (1, .int start), (2, .int out), (3, .int x3), (4, .int x4), (5, .int x5), (6, .int (x6 + 1))] rfl rfl ?_
        exact k54 _ _ _ _ _ _ _ F
      · have F := F.2 (Decidable.not_not.mp c5)
        refine w_b 5 97 [(0, .ref 44), (1, .int start), (2, .int out), (3, .int x3), (4, .int x4), (5, .int x5), (6, .int x6)] [.int ((out >>> (x6 &&& 31)) &&& (1 : Int32))] rfl ?_
        refine w_if_ne (tgt := 145) (x := (out >>> (x6 &&& 31)) &&& (1 : Int32)) rfl (by decide) ⟨fun c6 => ?_, fun c6 => ?_⟩
        · have F := F.1 c6
          refine w_b 2 54 [(6, .int (x6 + 1)), (0, .ref 44), (1, .int start), (2, .int out), (3, .int x3), (4, .int x4), (5, .int x5)] [] rfl ?_
          refine w_lo [0, 1, 2, 3, 4, 5, 6] [(0, .ref 44), (1, .int start), (2, .int out), (3, .int x3), (4, .int x4), (5, .int x5), (6, .int (x6 + 1))] rfl rfl ?_
          exact k54 _ _ _ _ _ _ _ F
        · have F := F.2 (Decidable.not_not.mp c6)
          refine w_b 1 101 [(0, .ref 44), (1, .int start), (2, .int out), (3, .int x3), (4, .int x4), (5, .int x5), (6, .int x6)] [.ref 44] rfl ?_
          refine w_getS (b := 64) rfl rfl rfl (kd_44 sh) (or_611_44 sh) ?_
          refine w_b 2 108 [(0, .ref 44), (1, .int start), (2, .int out), (3, .int x3), (4, .int x4), (5, .int x5), (6, .int x6)] [.int x5, .int x6, .ref 64] rfl ?_
          obtain ⟨g7, F⟩ := F
          refine w_iast rfl (kd_64 sh) (by decide) (by rw [show h_al h 64 = 10 from (al_64 sh)]; exact g7) ?_
          refine w_b 1 110 [(0, .ref 44), (1, .int start), (2, .int out), (3, .int x3), (4, .int x4), (5, .int x5), (6, .int x6)] [.ref 44] rfl ?_
          refine w_getS (b := 63) rfl rfl rfl (kd_44 sh) (or_610_44 sh) ?_
          refine w_b 1 115 [(0, .ref 44), (1, .int start), (2, .int out), (3, .int x3), (4, .int x4), (5, .int x5), (6, .int x6)] [.int x6, .ref 63] rfl ?_
          obtain ⟨g8, F⟩ := F
          refine w_iald rfl (kd_63 sh) (by rw [show h_al (h_sA h 64 x6.toNatClampNeg x5) 63 = 10 from (al_63 sh)]; exact g8) ?_
          refine w_b 1 118 [(0, .ref 44), (1, .int start), (2, .int out), (3, .int x3), (4, .int x4), (5, .int x5), (6, .int x6)] [.int (-4), .int (h_ai h 63 x6.toNatClampNeg)] rfl ?_
          refine w_ic_ne (tgt := 129) (x := h_ai h 63 x6.toNatClampNeg) (y := (-4)) rfl (by decide) ⟨fun c9 => ?_, fun c9 => ?_⟩
          · have F := F.1 c9
            refine w_b 1 130 [(0, .ref 44), (1, .int start), (2, .int out), (3, .int x3), (4, .int x4), (5, .int x5), (6, .int x6)] [.ref 44] rfl ?_
            refine w_getS (b := 65) rfl rfl rfl (kd_44 sh) (or_612_44 sh) ?_
            refine w_b 2 135 [(0, .ref 44), (1, .int start), (2, .int out), (3, .int x3), (4, .int x4), (5, .int x5), (6, .int x6)] [.ref 44, .int x3, .ref 65] rfl ?_
            refine w_getS (b := 63) rfl rfl rfl (kd_44 sh) (or_610_44 sh) ?_
            refine w_b 1 140 [(0, .ref 44), (1, .int start), (2, .int out), (3, .int x3), (4, .int x4), (5, .int x5), (6, .int x6)] [.int x6, .ref 63, .int x3, .ref 65] rfl ?_
            obtain ⟨g10, F⟩ := F
            refine w_iald rfl (kd_63 sh) (by rw [show h_al (h_sA h 64 x6.toNatClampNeg x5) 63 = 10 from (al_63 sh)]; exact g10) ?_
            obtain ⟨g11, F⟩ := F
            refine w_iast rfl (kd_65 sh) (by decide) (by rw [show h_al (h_sA h 64 x6.toNatClampNeg x5) 65 = 20 from (al_65 sh)]; exact g11) ?_
            refine w_b 3 54 [(6, .int (x6 + 1)), (3, .int (x3 + 1)), (0, .ref 44), (1, .int start), (2, .int out), (4, .int x4), (5, .int x5)] [] rfl ?_
            refine w_lo [0, 1, 2, 3, 4, 5, 6] [(0, .ref 44), (1, .int start), (2, .int out), (3, .int (x3 + 1)), (4, .int x4), (5, .int x5), (6, .int (x6 + 1))] rfl rfl ?_
            exact k54 _ _ _ _ _ _ _ F
          · have F := F.2 (Decidable.not_not.mp c9)
            refine w_b 2 124 [(0, .ref 44), (1, .int start), (2, .int out), (3, .int x3), (4, .int x4), (5, .int x5), (6, .int x6)] [.int x6, .ref 44] rfl ?_
            refine w_cv (As := [.int x6]) (b := 44) (rest := []) rfl rfl rfl (Nat.le_of_ble_eq_true rfl) (kd_44 sh) (fun z => absurd z (by decide)) (dc := D) (by omega) (F.mono (fun r h12 F => ?_))
            obtain ⟨rfl, sh12, F⟩ := F
            show w_p _ _ 127 [(0, .ref 44), (1, .int start), (2, .int out), (3, .int x3), (4, .int x4), (5, .int x5), (6, .int x6)] [] h12 _
            refine w_b 1 128 [(0, .ref 44), (1, .int start), (2, .int out), (3, .int x3), (4, .int x4), (5, .int x5), (6, .int x6)] [.int 1] rfl ?_
            exact w_br rfl (by decide) F

/-! THE REFERENCE'S MATCHES -/
theorem e10 (a o : Nat) : (10 : Int32) * nI a + nI o = nI (10 * a + o) := by rw [show (10 : Int32) = nI 10 from rfl, pk_mul, nI_add]
def mC (h : mm_H) (na no : Nat) : Prop := (na ≤ 10 ∧ no ≤ 10) ∧ h_oi h 600 44 = nI na ∧ h_oi h 604 44 = nI no
def mF (h : mm_H) (na no : Nat) (fit : Nat → Nat → Bool) : Prop := ∀ a, a < na → ∀ o, o < no → h_ai h 61 (10 * a + o) = if fit a o then 1 else 0
def mTk (h : mm_H) (no : Nat) (t : Nat → Option Nat) : Prop := ∀ o, o < no → h_ai h 63 o = oN (t o)
def mMt (h : mm_H) (na : Nat) (w : Nat → Option Nat) : Prop := ∀ a, a < na → h_ai h 62 a = oN (w a)
def mCb (h : mm_H) (no : Nat) (cb : Nat → Option Nat) : Prop := ∀ o, o < no → h_ai h 64 o = oN (cb o)
def mLn (h : mm_H) (n : Nat) (ln : Nat → Nat) : Prop := ∀ i, i < n → h_ai h 65 i = nI (ln i)
theorem mC.fx {h h' : mm_H} {gs : List (Nat × Nat)} {as : List Nat} {na no : Nat} (H : mC h na no) (f : fx h h' gs as) (n1 : (600, 44) ∉ gs) (n2 : (604, 44) ∉ gs) : mC h' na no := by
  unfold mC at H ⊢
  rw [f.oi 600 44 (by decide) n1, f.oi 604 44 (by decide) n2]
  exact H
theorem mF.fx {h h' : mm_H} {gs : List (Nat × Nat)} {as : List Nat} {na no : Nat} {fit : Nat → Nat → Bool} (H : mF h na no fit) (f : fx h h' gs as) (n1 : 61 ∉ as) : mF h' na no fit := by
  unfold mF at H ⊢
  rw [f.ai 61 (by decide) n1]
  exact H
theorem mTk.fx {h h' : mm_H} {gs : List (Nat × Nat)} {as : List Nat} {no : Nat} {t : Nat → Option Nat} (H : mTk h no t) (f : fx h h' gs as) (n1 : 63 ∉ as) : mTk h' no t := by
  unfold mTk at H ⊢
  rw [f.ai 63 (by decide) n1]
  exact H
theorem mMt.fx {h h' : mm_H} {gs : List (Nat × Nat)} {as : List Nat} {na : Nat} {w : Nat → Option Nat} (H : mMt h na w) (f : fx h h' gs as) (n1 : 62 ∉ as) : mMt h' na w := by
  unfold mMt at H ⊢
  rw [f.ai 62 (by decide) n1]
  exact H
theorem mCb.fx {h h' : mm_H} {gs : List (Nat × Nat)} {as : List Nat} {no : Nat} {t : Nat → Option Nat} (H : mCb h no t) (f : fx h h' gs as) (n1 : 64 ∉ as) : mCb h' no t := by
  unfold mCb at H ⊢
  rw [f.ai 64 (by decide) n1]
  exact H
/-- matched and taken say the same -/
def cns (na no : Nat) (w t : Nat → Option Nat) : Prop := (∀ a, a < na → ∀ o, w a = some o → o < no ∧ t o = some a) ∧ ∀ o, o < no → ∀ a, t o = some a → a < na ∧ w a = some o
/-- one step along the way back: ask a gives up what it has and takes o -/
theorem cns_step {na no k lo : Nat} {fit : Nat → Nat → Bool} {F : Nat → Bool} {w t : Nat → Option Nat} {o o2 a : Nat} (hm : mtc fit lo k F no t) (hc : cns na no w t) (ho : o < no) (e0 : t o = none) (ha : a < na) (hw : w a = some o2) (hF : F o = true) (hf : fit a o = true) : mtc fit lo k F no (va_up (va_up t o (some a)) o2 none) ∧ cns na no (va_up w a (some o)) (va_up (va_up t o (some a)) o2 none) ∧ msz no (va_up (va_up t o (some a)) o2 none) = msz no t ∧ o2 < no ∧ o2 ≠ o := by
  obtain ⟨ho2, e2⟩ := hc.1 a ha o2 hw
  have hne : o2 ≠ o := fun z => by rw [z, e0] at e2; cases e2
  have key : ∀ i, va_up (va_up t o (some a)) o2 none i = if i = o2 then none else if i = o then some a else t i := fun i => by
    by_cases z : i = o2
    · rw [z, va_up_self, if_pos rfl]
    · rw [va_up_ne _ _ z, if_neg z]
      by_cases y : i = o
      · rw [y, va_up_self, if_pos rfl]
      · rw [va_up_ne _ _ y, if_neg y]
  have hr := (hm o2 ho2 a e2).1
  refine ⟨fun i hi b e => ?_, ⟨fun b hb i e => ?_, fun i hi b e => ?_⟩, ?_, ho2, hne⟩
  · rw [key] at e
    by_cases z : i = o2
    · rw [if_pos z] at e; cases e
    · rw [if_neg z] at e
      have uq : ∀ j, j < no → va_up (va_up t o (some a)) o2 none j = some b → j = i := fun j hj ej => by
        rw [key] at ej
        by_cases z3 : j = o2
        · rw [if_pos z3] at ej; cases ej
        · rw [if_neg z3] at ej
          by_cases y : i = o
          · rw [if_pos y] at e
            cases e
            by_cases y3 : j = o
            · rw [y3, y]
            · rw [if_neg y3] at ej
              exact absurd ((hm o2 ho2 a e2).2.2.2 j hj ej) z3
          · rw [if_neg y] at e
            by_cases y3 : j = o
            · rw [if_pos y3] at ej
              cases ej
              exact absurd ((hm o2 ho2 a e2).2.2.2 i hi e) z
            · rw [if_neg y3] at ej
              exact (hm i hi b e).2.2.2 j hj ej
      by_cases y : i = o
      · rw [if_pos y] at e
        cases e
        rw [y]
        rw [y] at uq
        exact ⟨hr, hF, hf, uq⟩
      · rw [if_neg y] at e
        obtain ⟨p1, p2, p3, _⟩ := hm i hi b e
        exact ⟨p1, p2, p3, uq⟩
  · by_cases z : b = a
    · rw [z, va_up_self] at e
      cases e
      exact ⟨ho, by rw [key, if_neg (fun y => hne y.symm), if_pos rfl, z]⟩
    · rw [va_up_ne _ _ z] at e
      obtain ⟨p1, p2⟩ := hc.1 b hb i e
      refine ⟨p1, ?_⟩
      rw [key, if_neg, if_neg]
      · exact p2
      · intro y; rw [y, e0] at p2; cases p2
      · intro y; rw [y, e2] at p2; cases p2; exact z rfl
  · rw [key] at e
    by_cases z : i = o2
    · rw [if_pos z] at e; cases e
    · rw [if_neg z] at e
      by_cases y : i = o
      · rw [if_pos y] at e
        cases e
        rw [va_up_self, y]
        exact ⟨ha, rfl⟩
      · rw [if_neg y] at e
        obtain ⟨p1, p2⟩ := hc.2 i hi b e
        refine ⟨p1, ?_⟩
        rw [va_up_ne]
        · exact p2
        · intro x
          rw [x, hw] at p2
          cases p2
          exact z rfl
  · unfold msz
    have c1 := mct_up (p := fun i => (t i).isSome) (q := fun i => (va_up t o (some a) i).isSome) ho (fun i _ z => by show (va_up t o (some a) i).isSome = _; rw [va_up_ne _ _ z])
    have c2 := mct_up (p := fun i => (va_up t o (some a) i).isSome) (q := fun i => (va_up (va_up t o (some a)) o2 none i).isSome) ho2 (fun i _ z => by show (va_up (va_up t o (some a)) o2 none i).isSome = _; rw [va_up_ne _ _ z])
    rw [if_neg (by show ¬ (t o).isSome = true; rw [e0]; decide), if_pos (by show (va_up t o (some a) o).isSome = true; rw [va_up_self]; rfl)] at c1
    rw [if_pos (by show (va_up t o (some a) o2).isSome = true; rw [va_up_ne _ _ hne, e2]; rfl), if_neg (by show ¬ (va_up (va_up t o (some a)) o2 none o2).isSome = true; rw [va_up_self]; decide)] at c2
    omega
theorem cns_last {na no k lo : Nat} {fit : Nat → Nat → Bool} {F : Nat → Bool} {w t : Nat → Option Nat} {o : Nat} (hm : mtc fit lo k F no t) (hc : cns na no w t) (ho : o < no) (e0 : t o = none) (hk : k < na) (hlo : lo ≤ k) (hF : F o = true) (hf : fit k o = true) : mtc fit lo (k + 1) F no (va_up t o (some k)) ∧ cns na no (va_up w k (some o)) (va_up t o (some k)) ∧ msz no (va_up t o (some k)) = msz no t + 1 := by
  refine ⟨fun i hi b e => ?_, ⟨fun b hb i e => ?_, fun i hi b e => ?_⟩, ?_⟩
  · by_cases z : i = o
    · rw [z, va_up_self] at e
      cases e
      rw [z]
      refine ⟨⟨hlo, by omega⟩, hF, hf, fun j hj ej => ?_⟩
      by_cases y : j = o
      · exact y
      · rw [va_up_ne _ _ y] at ej
        have := (hm j hj k ej).1
        omega
    · rw [va_up_ne _ _ z] at e
      obtain ⟨p1, p2, p3, p4⟩ := hm i hi b e
      refine ⟨⟨p1.1, by omega⟩, p2, p3, fun j hj ej => ?_⟩
      by_cases y : j = o
      · rw [y, va_up_self] at ej
        cases ej
        omega
      · rw [va_up_ne _ _ y] at ej
        exact p4 j hj ej
  · by_cases z : b = k
    · rw [z, va_up_self] at e
      cases e
      rw [va_up_self, z]
      exact ⟨ho, rfl⟩
    · rw [va_up_ne _ _ z] at e
      obtain ⟨p1, p2⟩ := hc.1 b hb i e
      refine ⟨p1, ?_⟩
      rw [va_up_ne]
      · exact p2
      · intro y; rw [y, e0] at p2; cases p2
  · by_cases z : i = o
    · rw [z, va_up_self] at e
      cases e
      rw [va_up_self, z]
      exact ⟨hk, rfl⟩
    · rw [va_up_ne _ _ z] at e
      obtain ⟨p1, p2⟩ := hc.2 i hi b e
      have := (hm i hi b e).1
      exact ⟨p1, by rw [va_up_ne _ _ (by omega)]; exact p2⟩
  · unfold msz
    have c1 := mct_up (p := fun i => (t i).isSome) (q := fun i => (va_up t o (some k) i).isSome) ho (fun i _ z => by show (va_up t o (some k) i).isSome = _; rw [va_up_ne _ _ z])
    rw [if_neg (by show ¬ (t o).isSome = true; rw [e0]; decide), if_pos (by show (va_up t o (some k) o).isSome = true; rw [va_up_self]; rfl)] at c1
    omega
/-- the offers that came by asks: their times, and what they came by -/
def cby (fit : Nat → Nat → Bool) (F : Nat → Bool) (no k : Nat) (t cb : Nat → Option Nat) (ti : Nat → Nat) (o : Nat) : Prop := ∀ a, cb o = some a → F o = true ∧ fit a o = true ∧ a ≤ k ∧ (a = k ∨ ∃ o2, o2 < no ∧ (cb o2).isSome = true ∧ t o2 = some a ∧ ti o2 < ti o)
set_option maxHeartbeats 1000000 in
theorem m_change {na no lo k s : Nat} {fit : Nat → Nat → Bool} {F : Nat → Bool} {t cb : Nat → Option Nat} {ti : Nat → Nat} (hna : na ≤ 10) (hno : no ≤ 10) (hk : k < na) (hlo : lo ≤ k) (hcb : ∀ o, o < no → cby fit F no k t cb ti o) (e : Int32) : ∀ (B : Nat) {h : mm_H} {Q : Option Value → mm_H → Prop} {tt w : Nat → Option Nat} {o : Nat}, ti o ≤ B → s_h h → mCb h no cb → mMt h na w → (∀ i, i < no → i ≠ o → h_ai h 63 i = oN (tt i)) → mtc fit lo k F no tt → msz no tt = s → cns na no w tt → o < no → tt o = none → (cb o).isSome = true → (∀ i, i < no → (cb i).isSome = true → ti i < ti o → tt i = t i) →
    (∀ h' t2 w2, fx h h' [] [62, 63] → dn h h' → mTk h' no t2 → mMt h' na w2 → cns na no w2 t2 → mtc fit lo (k + 1) F no t2 → msz no t2 = s + 1 → Q none h') → w_p 0 (9, 5, mc_X9_change) 2 [(0, .ref 44), (1, .int e), (2, .int (nI o))] [] h Q := by
  intro B
  induction B with
  | zero => 
    intro h Q tt w o hB sh Cb Mt Tk hm hs hc ho e0 hco hag kk
    cases eo : cb o with
    | none => rw [eo] at hco; cases hco
    | some a =>
      obtain ⟨p1, p2, p3, p4⟩ := hcb o ho a eo
      have ha : a = k := p4.elim (fun z => z) (fun ⟨o2, _, _, _, z⟩ => by omega)
      subst ha
      have hwk : w a = none := by
        cases ew : w a with
        | none => rfl
        | some o2 =>
          obtain ⟨q1, q2⟩ := hc.1 a hk o2 ew
          have := (hm o2 q1 a q2).1
          omega
      have hv : vp_in (nI o) 10 := vp_in_nI (by omega) (by decide)
      have hva : vp_in (nI a) 10 := vp_in_nI (by omega) (by decide)
      have ecl : (nI o).toNatClampNeg = o := i_cl (by omega)
      have ecb : h_ai h 64 o = nI a := by rw [Cb o ho, eo]; rfl
      have ecla : (nI a).toNatClampNeg = a := i_cl (by omega)
      obtain ⟨l1, l2, l3⟩ := cns_last hm hc ho e0 hk hlo p1 p2
      have emt : h_ai h 62 a = -4 := by rw [Mt a hk, hwk]; rfl
      refine t_X9_change_2 sh _ _ (K2 := fun x y hh => x = e ∧ y = -4 ∧ hh = h_sA (h_sA h 62 a (nI o)) 63 o (nI a)) (fun x y hh q => ?_) ⟨fun z => absurd z (oN_ne o (by omega)), fun _ => ?_⟩
      · obtain ⟨rfl, rfl, rfl⟩ := q
        have f1 : fx h (h_sA (h_sA h 62 a (nI o)) 63 o (nI a)) [] [62, 63] := ((fx.rf _ _ _).sA _ _ (by decide)).sA _ _ (by decide)
        refine t_X9_change_2 (f1.sh sh (by decide)) _ _ (K2 := fun _ _ _ => False) (fun _ _ _ z => z.elim) ⟨fun _ => ?_, fun z => absurd rfl z⟩
        refine kk _ _ _ f1 (((dn.rf _).sA _ _ (by decide)).sA _ _ (by decide)) (fun i hi => ?_) (fun b hb => ?_) l2 l1 (by rw [l3, hs])
        · show va_up (h_ai h 63) o (nI a) i = _
          by_cases z : i = o
          · rw [z, va_up_self, va_up_self]; rfl
          · rw [va_up_ne _ _ z, va_up_ne _ _ z]; exact Tk i hi z
        · show va_up (h_ai h 62) a (nI o) b = _
          by_cases z : b = a
          · rw [z, va_up_self, va_up_self]; rfl
          · rw [va_up_ne _ _ z, va_up_ne _ _ z]; exact Mt b hb
      · rw [ecl, ecb, ecla, emt]
        exact ⟨hv, hva, hva, hv, rfl, rfl, rfl⟩
  | succ B ih =>
    intro h Q tt w o hB sh Cb Mt Tk hm hs hc ho e0 hco hag kk
    cases eo : cb o with
    | none => rw [eo] at hco; cases hco
    | some a =>
      obtain ⟨p1, p2, p3, p4⟩ := hcb o ho a eo
      have han : a < na := by omega
      have hv : vp_in (nI o) 10 := vp_in_nI (by omega) (by decide)
      have hva : vp_in (nI a) 10 := vp_in_nI (by omega) (by decide)
      have ecl : (nI o).toNatClampNeg = o := i_cl (by omega)
      have ecb : h_ai h 64 o = nI a := by rw [Cb o ho, eo]; rfl
      have ecla : (nI a).toNatClampNeg = a := i_cl (by omega)
      have f1 : fx h (h_sA (h_sA h 62 a (nI o)) 63 o (nI a)) [] [62, 63] := ((fx.rf _ _ _).sA _ _ (by decide)).sA _ _ (by decide)
      have d1 : dn h (h_sA (h_sA h 62 a (nI o)) 63 o (nI a)) := ((dn.rf _).sA _ _ (by decide)).sA _ _ (by decide)
      have r2 : mMt (h_sA (h_sA h 62 a (nI o)) 63 o (nI a)) na (va_up w a (some o)) := fun b hb => by
        show va_up (h_ai h 62) a (nI o) b = _
        by_cases z : b = a
        · rw [z, va_up_self, va_up_self]; rfl
        · rw [va_up_ne _ _ z, va_up_ne _ _ z]; exact Mt b hb
      have r1 : ∀ i, i < no → h_ai (h_sA (h_sA h 62 a (nI o)) 63 o (nI a)) 63 i = oN (va_up tt o (some a) i) := fun i hi => by
        show va_up (h_ai h 63) o (nI a) i = _
        by_cases z : i = o
        · rw [z, va_up_self, va_up_self]; rfl
        · rw [va_up_ne _ _ z, va_up_ne _ _ z]; exact Tk i hi z
      have emt : h_ai h 62 a = oN (w a) := Mt a han
      refine t_X9_change_2 sh _ _ (K2 := fun x y hh => x = e ∧ y = oN (w a) ∧ hh = h_sA (h_sA h 62 a (nI o)) 63 o (nI a)) (fun x y hh q => ?_) ⟨fun z => absurd z (oN_ne o (by omega)), fun _ => ?_⟩
      · obtain ⟨rfl, rfl, rfl⟩ := q
        by_cases hak : a = k
        · have hwk : w a = none := by
            cases ew : w a with
            | none => rfl
            | some o2 =>
              obtain ⟨q1, q2⟩ := hc.1 a han o2 ew
              have := (hm o2 q1 a q2).1
              omega
          subst hak
          obtain ⟨l1, l2, l3⟩ := cns_last hm hc ho e0 hk hlo p1 p2
          rw [hwk]
          refine t_X9_change_2 (f1.sh sh (by decide)) _ _ (K2 := fun _ _ _ => False) (fun _ _ _ z => z.elim) ⟨fun _ => ?_, fun z => absurd rfl z⟩
          exact kk _ _ _ f1 d1 r1 r2 l2 l1 (by rw [l3, hs])
        · obtain ⟨o2, ho2, hc2, ht2, hti⟩ := p4.resolve_left hak
          have et2 := hag o2 ho2 hc2 hti
          have hw2 : w a = some o2 := (hc.2 o2 ho2 a (et2.trans ht2)).2
          obtain ⟨l1, l2, l3, l4, l5⟩ := cns_step hm hc ho e0 han hw2 p1 p2
          rw [hw2]
          refine ih (o := o2) (tt := va_up (va_up tt o (some a)) o2 none) (by omega) (f1.sh sh (by decide)) (Cb.fx f1 (by decide)) r2 (fun i hi z => ?_) l1 (by rw [l3, hs]) l2 ho2 (va_up_self _ _ _) hc2 (fun i hi z1 z2 => ?_) (fun h' t2 w2 f2 d2 k1 k2 k3 k4 k5 => kk h' t2 w2 (f1.tr f2 (by decide) (by decide) (by decide) (by decide)) (d1.tr d2) k1 k2 k3 k4 k5)
          · rw [va_up_ne _ _ z]
            exact r1 i hi
          · rw [va_up_ne _ _ (fun y => by rw [y] at z2; omega), va_up_ne _ _ (fun y => by rw [y] at z2; omega)]
            exact hag i hi z1 (by omega)
      · rw [ecl, ecb, ecla, emt]
        exact ⟨hv, hva, hva, hv, rfl, rfl, rfl⟩
end
section
/-! THE REFERENCE'S SEARCH -/
def bI (fit : Nat → Nat → Bool) (F : Nat → Bool) (no k : Nat) (t : Nat → Option Nat) (n : Nat) (cb : Nat → Option Nat) (ti ln : Nat → Nat) : Prop := n = 1 + fb_ct (fun o => (cb o).isSome) no ∧ ln 0 = k ∧ (∀ i, 0 < i → i < n → ∃ o, o < no ∧ (cb o).isSome = true ∧ t o = some (ln i) ∧ ti o = i) ∧ ∀ o, o < no → cby fit F no k t cb ti o ∧ ((cb o).isSome = true → ti o < n ∧ t o = some (ln (ti o)))
section
variable {fit : Nat → Nat → Bool} {F : Nat → Bool} {lo no k n : Nat} {t cb : Nat → Option Nat} {ti ln : Nat → Nat}
theorem bI_ln (hm : mtc fit lo k F no t) (H : bI fit F no k t n cb ti ln) {i : Nat} (hi : i < n) : ln i ≤ k := by
  by_cases z : i = 0
  · rw [z, H.2.1]; exact Nat.le_refl _
  · obtain ⟨o, ho, _, e, _⟩ := H.2.2.1 i (by omega) hi
    have := (hm o ho _ e).1
    omega
theorem bI_cby (hm : mtc fit lo k F no t) (H : bI fit F no k t n cb ti ln) {i j : Nat} (hi : i < n) (hj : j < no) (e : cb j = none) (hF : F j = true) (hf : fit (ln i) j = true) : ∀ o, o < no → cby fit F no k t (va_up cb j (some (ln i))) (va_up ti j n) o := by
  intro o ho a ea
  by_cases z : o = j
  · rw [z, va_up_self] at ea
    cases ea
    rw [z, va_up_self]
    refine ⟨hF, hf, bI_ln hm H hi, ?_⟩
    by_cases y : i = 0
    · left; rw [y]; exact H.2.1
    · right
      obtain ⟨o2, ho2, c2, t2, e2⟩ := H.2.2.1 i (by omega) hi
      have hne : o2 ≠ j := fun w => by rw [w, e] at c2; cases c2
      exact ⟨o2, ho2, by rw [va_up_ne _ _ hne]; exact c2, t2, by rw [va_up_ne _ _ hne, e2]; exact hi⟩
  · rw [va_up_ne _ _ z] at ea
    obtain ⟨p1, p2, p3, p4⟩ := (H.2.2.2 o ho).1 a ea
    refine ⟨p1, p2, p3, p4.imp (fun y => y) (fun ⟨o2, ho2, c2, t2, e2⟩ => ?_)⟩
    have hne : o2 ≠ j := fun w => by rw [w, e] at c2; cases c2
    exact ⟨o2, ho2, by rw [va_up_ne _ _ hne]; exact c2, t2, by rw [va_up_ne _ _ hne, va_up_ne _ _ z]; exact e2⟩
theorem bI_mark (hm : mtc fit lo k F no t) (H : bI fit F no k t n cb ti ln) {i j b : Nat} (hi : i < n) (hj : j < no) (e : cb j = none) (hF : F j = true) (hf : fit (ln i) j = true) (et : t j = some b) : bI fit F no k t (n + 1) (va_up cb j (some (ln i))) (va_up ti j n) (va_up ln n b) := by
  have hc := bI_cby hm H hi hj e hF hf
  refine ⟨?_, ?_, fun i' h0 hi' => ?_, fun o ho => ⟨hc o ho, fun y => ?_⟩⟩
  · have c1 := mct_up (p := fun i => (cb i).isSome) (q := fun o => (va_up cb j (some (ln i)) o).isSome) hj (fun o _ z => by show (va_up cb j (some (ln i)) o).isSome = _; rw [va_up_ne _ _ z])
    rw [if_neg (by show ¬ (cb j).isSome = true; rw [e]; decide), if_pos (by show (va_up cb j (some (ln i)) j).isSome = true; rw [va_up_self]; rfl)] at c1
    have := H.1
    omega
  · rw [va_up_ne _ _ (by omega)]; exact H.2.1
  · by_cases z : i' = n
    · rw [z, va_up_self]
      exact ⟨j, hj, by rw [va_up_self]; rfl, et, va_up_self _ _ _⟩
    · obtain ⟨o2, ho2, c2, t2, e2⟩ := H.2.2.1 i' h0 (by omega)
      have hne : o2 ≠ j := fun w => by rw [w, e] at c2; cases c2
      exact ⟨o2, ho2, by rw [va_up_ne _ _ hne]; exact c2, by rw [va_up_ne _ _ z]; exact t2, by rw [va_up_ne _ _ hne]; exact e2⟩
  · by_cases z : o = j
    · rw [z, va_up_self, va_up_self]
      exact ⟨by omega, et⟩
    · rw [va_up_ne _ _ z] at y
      obtain ⟨q1, q2⟩ := (H.2.2.2 o ho).2 y
      rw [va_up_ne _ _ z, va_up_ne _ _ (by omega)]
      exact ⟨by omega, q2⟩
theorem bI_n (H : bI fit F no k t n cb ti ln) : n ≤ no + 1 := by
  have := fb_ct_le (fun o => (cb o).isSome) no
  have := H.1
  omega
end
set_option maxHeartbeats 2000000 in
theorem m_grows {h : mm_H} {Q : Option Value → mm_H → Prop} {na no lo k s : Nat} {fit : Nat → Nat → Bool} {F : Nat → Bool} {t w : Nat → Option Nat} {out : Int32} (sh : s_h h) (C : mC h na no) (Ft : mF h na no fit) (Tk : mTk h no t) (Mt : mMt h na w) (hc : cns na no w t) (hm : mtc fit lo k F no t) (hF : ∀ o, o < no → bt out o = !F o) (hs : msz no t = s) (hk : k < na) (hlo : lo ≤ k)
    (kF : ∀ h', fx h h' [] [62, 63, 64, 65] → dn h h' → mTk h' no t → mMt h' na w → (∃ (V : Nat → Prop) (T : Nat → Bool), V k ∧ (∀ a, V a → ∀ o, o < no → F o = true → fit a o = true → T o = true) ∧ ∀ o, o < no → T o = true → ∃ a, t o = some a ∧ V a) → Q (some (.int 0)) h')
    (kT : ∀ h' t2 w2, fx h h' [] [62, 63, 64, 65] → dn h h' → mTk h' no t2 → mMt h' na w2 → cns na no w2 t2 → mtc fit lo (k + 1) F no t2 → msz no t2 = s + 1 → Q (some (.int 1)) h') : w_c 1 137 [.ref 44, .int (nI k), .int out] h Q := by
  obtain ⟨hna, hno⟩ := C.1
  have loop2 : ∀ m i, i + m = 12 → ∀ (h1 : mm_H) (n : Nat) (cb : Nat → Option Nat) (ti ln : Nat → Nat), fx h h1 [] [64, 65] → dn h h1 → mCb h1 no cb → mLn h1 n ln → bI fit F no k t n cb ti ln → i ≤ n → (∀ i', i' < i → ∀ o, o < no → F o = true → fit (ln i') o = true → (cb o).isSome = true) → w_p (0 + 1) (9, 7, mc_X9_grows) 36 [(0, .ref 44), (1, .int (nI k)), (2, .int out), (3, .int (nI n)), (4, .int (nI i))] [] h1 Q := by
    intro m
    induction m with
    | zero =>
      intro i hi h1 n cb ti ln f d Cb Ln H hin cl
      have := bI_n H
      omega
    | succ m ih =>
      intro i hi h1 n cb ti ln f d Cb Ln H hin cl
      have hn := bI_n H
      by_cases hend : n ≤ i
      · have ei : i = n := by omega
        subst ei
        refine t_X9_grows_36 (f.sh sh (by decide)) _ _ _ _ (K54 := fun _ _ _ _ _ _ _ => False) (fun _ _ _ _ _ _ _ z => z.elim) ⟨fun _ => ?_, fun c => absurd ?_ c⟩
        · have f4 : fx h h1 [] [62, 63, 64, 65] := f.tr (fx.rf _ [] []) (by decide) (by decide) (by decide) (by decide)
          refine kF h1 f4 d (Tk.fx f (by decide)) (Mt.fx f (by decide)) ⟨fun a => ∃ i', i' < i ∧ ln i' = a, fun o => (cb o).isSome, ⟨0, ?_, H.2.1⟩, fun a ⟨i', h1, h2⟩ o ho y1 y2 => cl i' h1 o ho y1 (by rw [h2]; exact y2), fun o ho y => ?_⟩
          · have := H.1; omega
          · obtain ⟨q1, q2⟩ := (H.2.2.2 o ho).2 y
            exact ⟨_, q2, _, q1, rfl⟩
        · exact (i_le (by omega) (by omega)).mpr (Nat.le_refl _)
      · have inner : ∀ m2 j, j + m2 = no → ∀ (h1 : mm_H) (n : Nat) (cb : Nat → Option Nat) (ti ln : Nat → Nat), fx h h1 [] [64, 65] → dn h h1 → mCb h1 no cb → mLn h1 n ln → bI fit F no k t n cb ti ln → i < n → (∀ i', i' < i → ∀ o, o < no → F o = true → fit (ln i') o = true → (cb o).isSome = true) → (∀ o, o < j → F o = true → fit (ln i) o = true → (cb o).isSome = true) → w_p (0 + 1) (9, 7, mc_X9_grows) 54 [(0, .ref 44), (1, .int (nI k)), (2, .int out), (3, .int (nI n)), (4, .int (nI i)), (5, .int (nI (ln i))), (6, .int (nI j))] [] h1 Q := by
          intro m2
          induction m2 with
          | zero =>
            intro j hj h1 n cb ti ln f d Cb Ln H hin cl cl2
            have C1 := C.fx f (by decide) (by decide)
            refine t_X9_grows_54 (f.sh sh (by decide)) _ _ _ _ _ _ (K36 := fun x1 x2 x3 x4 hh => x1 = nI k ∧ x2 = out ∧ x3 = nI n ∧ x4 = nI (i + 1) ∧ hh = h1) (fun x1 x2 x3 x4 hh q => ?_) (K54 := fun _ _ _ _ _ _ _ => False) (fun _ _ _ _ _ _ _ z => z.elim) ⟨fun _ => ⟨rfl, rfl, rfl, nI_1 i, rfl⟩, fun c => absurd ?_ c⟩
            · obtain ⟨rfl, rfl, rfl, rfl, rfl⟩ := q
              refine ih (i + 1) (by omega) hh n cb ti ln f d Cb Ln H hin (fun i' hi' o ho y1 y2 => ?_)
              by_cases z : i' = i
              · rw [z] at y2; exact cl2 o (by omega) y1 y2
              · exact cl i' (by omega) o ho y1 y2
            · rw [C1.2.2, i_le (by omega) (by omega)]
              omega
          | succ m2 ih2 =>
            intro j hj h1 n cb ti ln f d Cb Ln H hin cl cl2
            have hn := bI_n H
            have C1 := C.fx f (by decide) (by decide)
            have Ft1 := Ft.fx f (by decide)
            have Tk1 := Tk.fx f (by decide)
            have hlnk := bI_ln hm H hin
            have hv : vp_in (nI j) 10 := vp_in_nI (by omega) (by decide)
            have ej : (nI j).toNatClampNeg = j := i_cl (by omega)
            refine t_X9_grows_54 (f.sh sh (by decide)) _ _ _ _ _ _ (K36 := fun _ _ _ _ _ => False) (fun _ _ _ _ _ z => z.elim) (K54 := fun x1 x2 x3 x4 x5 x6 hh => x1 = nI k ∧ x2 = out ∧ x4 = nI i ∧ x6 = nI (j + 1) ∧ ∃ n cb ti ln, x3 = nI n ∧ x5 = nI (ln i) ∧ fx h hh [] [64, 65] ∧ dn h hh ∧ mCb hh no cb ∧ mLn hh n ln ∧ bI fit F no k t n cb ti ln ∧ i < n ∧ (∀ i', i' < i → ∀ o, o < no → F o = true → fit (ln i') o = true → (cb o).isSome = true) ∧ (∀ o, o < j + 1 → F o = true → fit (ln i) o = true → (cb o).isSome = true)) (fun x1 x2 x3 x4 x5 x6 hh q => ?_) ⟨fun c => ?_, fun _ => ?_⟩
            · obtain ⟨rfl, rfl, rfl, rfl, n2, cb2, ti2, ln2, rfl, rfl, q1, q2, q3, q4, q5, q6, q7, q8⟩ := q
              exact ih2 (j + 1) (by omega) hh n2 cb2 ti2 ln2 q1 q2 q3 q4 q5 q6 q7 q8
            · rw [C1.2.2, i_le (by omega) (by omega)] at c
              omega
            · rw [e10, i_cl (by omega), Ft1 (ln i) (by omega) j (by omega)]
              have stay : (F j = true → fit (ln i) j = true → (cb j).isSome = true) → (nI k = nI k ∧ out = out ∧ nI i = nI i ∧ nI j + 1 = nI (j + 1) ∧ ∃ n' cb ti ln', nI n = nI n' ∧ nI (ln i) = nI (ln' i) ∧ fx h h1 [] [64, 65] ∧ dn h h1 ∧ mCb h1 no cb ∧ mLn h1 n' ln' ∧ bI fit F no k t n' cb ti ln' ∧ i < n' ∧ (∀ i', i' < i → ∀ o, o < no → F o = true → fit (ln' i') o = true → (cb o).isSome = true) ∧ (∀ o, o < j + 1 → F o = true → fit (ln' i) o = true → (cb o).isSome = true)) := fun z => ⟨rfl, rfl, rfl, nI_1 j, n, cb, ti, ln, rfl, rfl, f, d, Cb, Ln, H, hin, cl, fun o ho y1 y2 => by
                by_cases x : o = j
                · subst x; exact z y1 y2
                · exact cl2 o (by omega) y1 y2⟩
              refine ⟨vp_in_nI (by omega) (by decide), fun c => stay (fun _ y => ?_), fun c => ⟨hv, ?_⟩⟩
              · rw [y, if_pos rfl] at c; exact absurd c (by decide)
              · have hf : fit (ln i) j = true := by
                  cases e : fit (ln i) j with
                  | true => rfl
                  | false => rw [e] at c; exact absurd rfl c
                rw [ej, Cb j (by omega)]
                cases ec : cb j with
                | some a =>
                  refine ⟨fun _ => stay (fun _ _ => by rw [ec]; rfl), fun z => absurd z (oN_ne a ?_)⟩
                  have := ((H.2.2.2 j (by omega)).1 a ec).2.2.1
                  omega
                | none =>
                  refine ⟨fun z => absurd rfl z, fun _ => ?_⟩
                  rw [bit_sh _ (by omega), hF j (by omega)]
                  refine ⟨fun c => stay (fun y _ => ?_), fun c => ⟨hv, hv, ?_⟩⟩
                  · rw [y] at c; exact absurd rfl c
                  · have hFj : F j = true := by
                      cases e : F j with
                      | true => rfl
                      | false => rw [e] at c; cases c
                    rw [Tk1 j (by omega)]
                    have f2 : fx h (h_sA h1 64 j (nI (ln i))) [] [64, 65] := f.sA _ _ (by decide)
                    have d2 : dn h (h_sA h1 64 j (nI (ln i))) := d.sA _ _ (by decide)
                    have Cb2 : mCb (h_sA h1 64 j (nI (ln i))) no (va_up cb j (some (ln i))) := fun o ho => by
                      show va_up (h_ai h1 64) j (nI (ln i)) o = _
                      by_cases z : o = j
                      · rw [z, va_up_self, va_up_self]; rfl
                      · rw [va_up_ne _ _ z, va_up_ne _ _ z]; exact Cb o ho
                    cases et : t j with
                    | some b =>
                      have hb := (hm j (by omega) b et).1
                      refine ⟨fun _ => ⟨hv, vp_in_nI (by omega) (by decide), rfl, rfl, rfl, nI_1 j, n + 1, va_up cb j (some (ln i)), va_up ti j n, va_up ln n b, nI_1 n, by rw [va_up_ne _ _ (by omega)], ?_⟩, fun z => absurd z (oN_ne b (by omega))⟩
                      rw [i_cl (by omega)]
                      have f3 : fx h (h_sA (h_sA h1 64 j (nI (ln i))) 65 n (nI b)) [] [64, 65] := f2.sA _ _ (by decide)
                      refine ⟨f3, d2.sA _ _ (by decide), fun o ho => Cb2 o ho, fun x hx => ?_, bI_mark hm H hin (by omega) ec hFj hf et, by omega, fun i' hi' o ho y1 y2 => ?_, fun o ho y1 y2 => ?_⟩
                      · show va_up (h_ai h1 65) n (nI b) x = _
                        by_cases z : x = n
                        · rw [z, va_up_self, va_up_self]
                        · rw [va_up_ne _ _ z, va_up_ne _ _ z]; exact Ln x (by omega)
                      · rw [va_up_ne _ _ (by omega)] at y2
                        by_cases z : o = j
                        · rw [z, va_up_self]; rfl
                        · rw [va_up_ne _ _ z]; exact cl i' hi' o ho y1 y2
                      · rw [va_up_ne _ _ (by omega)] at y2
                        by_cases z : o = j
                        · rw [z, va_up_self]; rfl
                        · rw [va_up_ne _ _ z]; exact cl2 o (by omega) y1 y2
                    | none =>
                      refine ⟨fun z => absurd rfl z, fun _ => ?_⟩
                      refine t_X9_change_0 (f2.sh sh (by decide)) _ (K2 := fun x y hh => x = nI j ∧ y = nI j ∧ hh = h_sA h1 64 j (nI (ln i))) (fun x y hh q => ?_) ⟨rfl, rfl, rfl⟩
                      obtain ⟨rfl, rfl, rfl⟩ := q
                      refine m_change (s := s) hna hno hk hlo (bI_cby hm H hin (by omega) ec hFj hf) _ _ (Nat.le_refl _) (f2.sh sh (by decide)) Cb2 (Mt.fx f2 (by decide)) (fun o ho _ => (Tk.fx f2 (by decide)) o ho) hm hs hc (by omega) et (by rw [va_up_self]; rfl) (fun _ _ _ _ => rfl) (fun h5 t2 w2 f5 d5 k1 k2 k3 k4 k5 => ?_)
                      have f6 : fx h h5 [] [62, 63, 64, 65] := f2.tr f5 (by decide) (by decide) (by decide) (by decide)
                      exact ⟨rfl, f6.sh sh (by decide), kT h5 t2 w2 f6 (d2.tr d5) k1 k2 k3 k4 k5⟩
        refine t_X9_grows_36 (f.sh sh (by decide)) _ _ _ _ (K54 := fun x1 x2 x3 x4 x5 x6 hh => x1 = nI k ∧ x2 = out ∧ x3 = nI n ∧ x4 = nI i ∧ x5 = nI (ln i) ∧ x6 = nI 0 ∧ hh = h1) (fun x1 x2 x3 x4 x5 x6 hh q => ?_) ⟨fun c => ?_, fun _ => ⟨vp_in_nI (by omega) (by decide), rfl, rfl, rfl, rfl, ?_, rfl, rfl⟩⟩
        · obtain ⟨rfl, rfl, rfl, rfl, rfl, rfl, rfl⟩ := q
          exact inner no 0 (by omega) hh n cb ti ln f d Cb Ln H (by omega) cl (fun o ho => by omega)
        · have := (i_le (by omega) (by omega)).mp c
          omega
        · rw [i_cl (by omega)]
          exact Ln i (by omega)
  have loop1 : ∀ m j, j + m = no → ∀ (h1 : mm_H), fx h h1 [] [64, 65] → dn h h1 → (∀ o, o < j → h_ai h1 64 o = -4) → w_p (0 + 1) (9, 7, mc_X9_grows) 2 [(0, .ref 44), (1, .int (nI k)), (2, .int out), (3, .int (nI j))] [] h1 Q := by
    intro m
    induction m with
    | zero =>
      intro j hj h1 f d r
      have C1 := C.fx f (by decide) (by decide)
      refine t_X9_grows_2 (f.sh sh (by decide)) _ _ _ (K2 := fun _ _ _ _ => False) (fun _ _ _ _ z => z.elim) (K36 := fun x1 x2 x3 x4 hh => x1 = nI k ∧ x2 = out ∧ x3 = nI 1 ∧ x4 = nI 0 ∧ hh = h_sA h1 65 0 (nI k)) (fun x1 x2 x3 x4 hh q => ?_) ⟨fun _ => ⟨vp_in_nI (n := 0) (by decide) (by decide), rfl, rfl, rfl, rfl, rfl⟩, fun c => absurd ?_ c⟩
      · obtain ⟨rfl, rfl, rfl, rfl, rfl⟩ := q
        refine loop2 12 0 rfl _ 1 (fun _ => none) (fun _ => 0) (fun _ => k) (f.sA _ _ (by decide)) (d.sA _ _ (by decide)) (fun o ho => r o (by omega)) (fun i hi => ?_) ⟨?_, rfl, fun i h0 hi => by omega, fun o ho => ⟨fun a e => (by cases e), fun z => (by cases z)⟩⟩ (by omega) (fun i' hi' => by omega)
        · show va_up (h_ai h1 65) 0 (nI k) i = _
          rw [show i = 0 by omega, va_up_self]
        · rw [(fb_ct_zero (p := fun o => ((fun _ : Nat => (none : Option Nat)) o).isSome)).mpr (fun _ _ => rfl)]
      · rw [C1.2.2, i_le (by omega) (by omega)]
        omega
    | succ m ih =>
      intro j hj h1 f d r
      have C1 := C.fx f (by decide) (by decide)
      refine t_X9_grows_2 (f.sh sh (by decide)) _ _ _ (K2 := fun x1 x2 x3 hh => x1 = nI k ∧ x2 = out ∧ x3 = nI (j + 1) ∧ fx h hh [] [64, 65] ∧ dn h hh ∧ (∀ o, o < j + 1 → h_ai hh 64 o = -4)) (fun x1 x2 x3 hh q => ?_) (K36 := fun _ _ _ _ _ => False) (fun _ _ _ _ _ z => z.elim) ⟨fun c => ?_, fun _ => ⟨vp_in_nI (by omega) (by decide), rfl, rfl, nI_1 j, f.sA _ _ (by decide), d.sA _ _ (by decide), fun o ho => ?_⟩⟩
      · obtain ⟨rfl, rfl, rfl, q1, q2, q3⟩ := q
        exact ih (j + 1) (by omega) hh q1 q2 q3
      · rw [C1.2.2, i_le (by omega) (by omega)] at c
        omega
      · show va_up (h_ai h1 64) (nI j).toNatClampNeg (-4) o = -4
        rw [i_cl (by omega)]
        by_cases z : o = j
        · rw [z, va_up_self]
        · rw [va_up_ne _ _ z]; exact r o (by omega)
  refine t_X9_grows_0 (D := 0) sh _ _ (K2 := fun x1 x2 x3 hh => x1 = nI k ∧ x2 = out ∧ x3 = nI 0 ∧ hh = h) (fun x1 x2 x3 hh q => ?_) ⟨rfl, rfl, rfl, rfl⟩
  obtain ⟨rfl, rfl, rfl, rfl⟩ := q
  exact loop1 no 0 (by omega) hh (fx.rf _ _ _) (dn.rf _) (fun o ho => by omega)
end
section
set_option maxRecDepth 20000 in
theorem t_X9_most_0 {D : Nat} {h : mm_H} {Q : Option Value → mm_H → Prop} (sh : s_h h) (first : Int32) (out : Int32) {K2 : Int32 → Int32 → Int32 → mm_H → Prop} (k2 : ∀ (first : Int32) (out : Int32) (x3 : Int32) (h : mm_H), K2 first out x3 h → w_p (D + 1) (9, 5, mc_X9_most) 2 [(0, .ref 44), (1, .int first), (2, .int out), (3, .int x3)] [] h Q) 
    (F : K2 first out 0 h) :
    w_c (D + 1) 139 [.ref 44, .int first, .int out] h Q := by
  refine w_ci (M := (9, 5, mc_X9_most)) rfl (Nat.le_of_ble_eq_true rfl) ?_
  show w_p _ _ 0 [(0, .ref 44), (1, .int first), (2, .int out)] [] h Q
  refine w_b 2 2 [(3, .int 0), (0, .ref 44), (1, .int first), (2, .int out)] [] rfl ?_
  refine w_lo [0, 1, 2, 3] [(0, .ref 44), (1, .int first), (2, .int out), (3, .int 0)] rfl rfl ?_
  exact k2 _ _ _ _ F

set_option maxRecDepth 20000 in
theorem t_X9_most_2 {D : Nat} {h : mm_H} {Q : Option Value → mm_H → Prop} (sh : s_h h) (first : Int32) (out : Int32) (x3 : Int32) {K2 : Int32 → Int32 → Int32 → mm_H → Prop} (k2 : ∀ (first : Int32) (out : Int32) (x3 : Int32) (h : mm_H), K2 first out x3 h → w_p (D + 1) (9, 5, mc_X9_most) 2 [(0, .ref 44), (1, .int first), (2, .int out), (3, .int x3)] [] h Q) {K26 : Int32 → Int32 → Int32 → mm_H → Prop} (k26 : ∀ (first : Int32) (out : Int32) (x3 : Int32) (h : mm_H), K26 first out x3 h → w_p (D + 1) (9, 5, mc_X9_most) 26 [(0, .ref 44), (1, .int first), (2, .int out), (3, .int x3)] [] h Q) 
    (F : (((h_oi h 600 44) ≤ x3 → K26 first out 0 h) ∧ (¬ ((h_oi h 600 44) ≤ x3) → (vp_in x3 10 ∧ K2 first out (x3 + 1) (h_sA h 62 x3.toNatClampNeg (-4)))))) :
    w_p (D + 1) (9, 5, mc_X9_most) 2 [(0, .ref 44), (1, .int first), (2, .int out), (3, .int x3)] [] h Q := by
  refine w_b 2 4 [(0, .ref 44), (1, .int first), (2, .int out), (3, .int x3)] [.ref 44, .int x3] rfl ?_
  refine w_get (g := 600) rfl rfl rfl (kd_44 sh) ?_
  refine w_ic_ge (tgt := 24) (x := x3) (y := h_oi h 600 44) rfl (by decide) ⟨fun c1 => ?_, fun c1 => ?_⟩
  · have F := F.1 c1
    refine w_b 2 26 [(3, .int 0), (0, .ref 44), (1, .int first), (2, .int out)] [] rfl ?_
    refine w_lo [0, 1, 2, 3] [(0, .ref 44), (1, .int first), (2, .int out), (3, .int 0)] rfl rfl ?_
    exact k26 _ _ _ _ F
  · have F := F.2 c1
    refine w_b 1 11 [(0, .ref 44), (1, .int first), (2, .int out), (3, .int x3)] [.ref 44] rfl ?_
    refine w_getS (b := 62) rfl rfl rfl (kd_44 sh) (or_609_44 sh) ?_
    refine w_b 2 17 [(0, .ref 44), (1, .int first), (2, .int out), (3, .int x3)] [.int (-4), .int x3, .ref 62] rfl ?_
    obtain ⟨g2, F⟩ := F
    refine w_iast rfl (kd_62 sh) (by decide) (by rw [show h_al h 62 = 10 from (al_62 sh)]; exact g2) ?_
    refine w_b 2 2 [(3, .int (x3 + 1)), (0, .ref 44), (1, .int first), (2, .int out)] [] rfl ?_
    refine w_lo [0, 1, 2, 3] [(0, .ref 44), (1, .int first), (2, .int out), (3, .int (x3 + 1))] rfl rfl ?_
    exact k2 _ _ _ _ F

set_option maxRecDepth 20000 in
theorem t_X9_most_26 {D : Nat} {h : mm_H} {Q : Option Value → mm_H → Prop} (sh : s_h h) (first : Int32) (out : Int32) (x3 : Int32) {K26 : Int32 → Int32 → Int32 → mm_H → Prop} (k26 : ∀ (first : Int32) (out : Int32) (x3 : Int32) (h : mm_H), K26 first out x3 h → w_p (D + 1) (9, 5, mc_X9_most) 26 [(0, .ref 44), (1, .int first), (2, .int out), (3, .int x3)] [] h Q) {K53 : Int32 → Int32 → Int32 → Int32 → mm_H → Prop} (k53 : ∀ (first : Int32) (out : Int32) (x3 : Int32) (x4 : Int32) (h : mm_H), K53 first out x3 x4 h → w_p (D + 1) (9, 5, mc_X9_most) 53 [(0, .ref 44), (1, .int first), (2, .int out), (3, .int x3), (4, .int x4)] [] h Q) 
    (F : (((h_oi h 604 44) ≤ x3 → K53 first out 0 first h) ∧ (¬ ((h_oi h 604 44) ≤ x3) → (vp_in x3 10 ∧ K26 first out (x3 + 1) (h_sA h 63 x3.toNatClampNeg (-4)))))) :
    w_p (D + 1) (9, 5, mc_X9_most) 26 [(0, .ref 44), (1, .int first), (2, .int out), (3, .int x3)] [] h Q := by
  refine w_b 2 28 [(0, .ref 44), (1, .int first), (2, .int out), (3, .int x3)] [.ref 44, .int x3] rfl ?_
  refine w_get (g := 604) rfl rfl rfl (kd_44 sh) ?_
  refine w_ic_ge (tgt := 48) (x := x3) (y := h_oi h 604 44) rfl (by decide) ⟨fun c1 => ?_, fun c1 => ?_⟩
  · have F := F.1 c1
    refine w_b 4 53 [(4, .int first), (3, .int 0), (0, .ref 44), (1, .int first), (2, .int out)] [] rfl ?_
    refine w_lo [0, 1, 2, 3, 4] [(0, .ref 44), (1, .int first), (2, .int out), (3, .int 0), (4, .int first)] rfl rfl ?_
    exact k53 _ _ _ _ _ F
  · have F := F.2 c1
    refine w_b 1 35 [(0, .ref 44), (1, .int first), (2, .int out), (3, .int x3)] [.ref 44] rfl ?_
    refine w_getS (b := 63) rfl rfl rfl (kd_44 sh) (or_610_44 sh) ?_
    refine w_b 2 41 [(0, .ref 44), (1, .int first), (2, .int out), (3, .int x3)] [.int (-4), .int x3, .ref 63] rfl ?_
    obtain ⟨g2, F⟩ := F
    refine w_iast rfl (kd_63 sh) (by decide) (by rw [show h_al h 63 = 10 from (al_63 sh)]; exact g2) ?_
    refine w_b 2 26 [(3, .int (x3 + 1)), (0, .ref 44), (1, .int first), (2, .int out)] [] rfl ?_
    refine w_lo [0, 1, 2, 3] [(0, .ref 44), (1, .int first), (2, .int out), (3, .int (x3 + 1))] rfl rfl ?_
    exact k26 _ _ _ _ F

set_option maxRecDepth 20000 in
theorem t_X9_most_53 {D : Nat} {h : mm_H} {Q : Option Value → mm_H → Prop} (sh : s_h h) (first : Int32) (out : Int32) (x3 : Int32) (x4 : Int32) {K53 : Int32 → Int32 → Int32 → Int32 → mm_H → Prop} (k53 : ∀ (first : Int32) (out : Int32) (x3 : Int32) (x4 : Int32) (h : mm_H), K53 first out x3 x4 h → w_p (D + 1) (9, 5, mc_X9_most) 53 [(0, .ref 44), (1, .int first), (2, .int out), (3, .int x3), (4, .int x4)] [] h Q) 
    (F : (((h_oi h 600 44) ≤ x4 → Q (some (.int x3)) h) ∧ (¬ ((h_oi h 600 44) ≤ x4) → w_c D 137 [.ref 44, .int x4, .int out] h (fun r h2 => ∃ z3 : Int32, r = some (.int z3) ∧ s_h h2 ∧ ((z3 = 0 → K53 first out (x3 + 0) (x4 + 1) h2) ∧ (¬ (z3 = 0) → K53 first out (x3 + 1) (x4 + 1) h2)))))) :
    w_p (D + 1) (9, 5, mc_X9_most) 53 [(0, .ref 44), (1, .int first), (2, .int out), (3, .int x3), (4, .int x4)] [] h Q := by
  refine w_b 2 56 [(0, .ref 44), (1, .int first), (2, .int out), (3, .int x3), (4, .int x4)] [.ref 44, .int x4] rfl ?_
  refine w_get (g := 600) rfl rfl rfl (kd_44 sh) ?_
  refine w_ic_ge (tgt := 86) (x := x4) (y := h_oi h 600 44) rfl (by decide) ⟨fun c1 => ?_, fun c1 => ?_⟩
  · have F := F.1 c1
    refine w_b 1 87 [(0, .ref 44), (1, .int first), (2, .int out), (3, .int x3), (4, .int x4)] [.int x3] rfl ?_
    exact w_ir rfl F
  · have F := F.2 c1
    refine w_b 4 67 [(0, .ref 44), (1, .int first), (2, .int out), (3, .int x3), (4, .int x4)] [.int out, .int x4, .ref 44, .int x3] rfl ?_
    refine w_cv (As := [.int x4, .int out]) (b := 44) (rest := [.int x3]) rfl rfl rfl (Nat.le_of_ble_eq_true rfl) (kd_44 sh) (fun z => absurd z (by decide)) (dc := D) (by omega) (F.mono (fun r h2 F => ?_))
    obtain ⟨z3, rfl, sh2, F⟩ := F
    show w_p _ _ 70 [(0, .ref 44), (1, .int first), (2, .int out), (3, .int x3), (4, .int x4)] [.int z3, .int x3] h2 _
    refine w_if_eq (tgt := 77) (x := z3) rfl (by decide) ⟨fun c4 => ?_, fun c4 => ?_⟩
    · have F := F.1 c4
      refine w_b 5 53 [(4, .int (x4 + 1)), (3, .int (x3 + 0)), (0, .ref 44), (1, .int first), (2, .int out)] [] rfl ?_
      refine w_lo [0, 1, 2, 3, 4] [(0, .ref 44), (1, .int first), (2, .int out), (3, .int (x3 + 0)), (4, .int (x4 + 1))] rfl rfl ?_
      exact k53 _ _ _ _ _ F
    · have F := F.2 c4
      refine w_b 6 53 [(4, .int (x4 + 1)), (3, .int (x3 + 1)), (0, .ref 44), (1, .int first), (2, .int out)] [] rfl ?_
      refine w_lo [0, 1, 2, 3, 4] [(0, .ref 44), (1, .int first), (2, .int out), (3, .int (x3 + 1)), (4, .int (x4 + 1))] rfl rfl ?_
      exact k53 _ _ _ _ _ F

set_option maxRecDepth 20000 in
theorem t_X9_matches_0 {D : Nat} {h : mm_H} {Q : Option Value → mm_H → Prop} (sh : s_h h) {K27 : Int32 → Int32 → Int32 → Int32 → mm_H → Prop} (k27 : ∀ (x1 : Int32) (x2 : Int32) (x3 : Int32) (x4 : Int32) (h : mm_H), K27 x1 x2 x3 x4 h → w_p (D + 1) (9, 6, mc_X9_matches) 27 [(0, .ref 44), (1, .int x1), (2, .int x2), (3, .int x3), (4, .int x4)] [] h Q) 
    (F : w_c D 116 [.ref 44, .int (h_oi h 588 44), .int 4] h (fun r h1 => ∃ z2 : Int32, r = some (.int z2) ∧ s_h h1 ∧ w_c D 136 [.ref 44, .int z2] h1 (fun r h3 => r = none ∧ s_h h3 ∧ w_c D 139 [.ref 44, .int 0, .int 0] h3 (fun r h4 => ∃ z5 : Int32, r = some (.int z5) ∧ s_h h4 ∧ K27 z5 0 0 0 h4)))) :
    w_c (D + 1) 140 [.ref 44] h Q := by
  refine w_ci (M := (9, 6, mc_X9_matches)) rfl (Nat.le_of_ble_eq_true rfl) ?_
  show w_p _ _ 0 [(0, .ref 44)] [] h Q
  refine w_b 3 3 [(0, .ref 44)] [.ref 44, .ref 44, .ref 44] rfl ?_
  refine w_get (g := 588) rfl rfl rfl (kd_44 sh) ?_
  refine w_b 1 7 [(0, .ref 44)] [.int 4, .int (h_oi h 588 44), .ref 44, .ref 44] rfl ?_
  refine w_cv (As := [.int (h_oi h 588 44), .int 4]) (b := 44) (rest := [.ref 44]) rfl rfl rfl (Nat.le_of_ble_eq_true rfl) (kd_44 sh) (fun z => absurd z (by decide)) (dc := D) (by omega) (F.mono (fun r h1 F => ?_))
  obtain ⟨z2, rfl, sh1, F⟩ := F
  show w_p _ _ 10 [(0, .ref 44)] [.int z2, .ref 44] h1 _
  refine w_cv (As := [.int z2]) (b := 44) (rest := []) rfl rfl rfl (Nat.le_of_ble_eq_true rfl) (kd_44 sh1) (fun z => absurd z (by decide)) (dc := D) (by omega) (F.mono (fun r h3 F => ?_))
  obtain ⟨rfl, sh3, F⟩ := F
  show w_p _ _ 13 [(0, .ref 44)] [] h3 _
  refine w_b 3 16 [(0, .ref 44)] [.int 0, .int 0, .ref 44] rfl ?_
  refine w_cv (As := [.int 0, .int 0]) (b := 44) (rest := []) rfl rfl rfl (Nat.le_of_ble_eq_true rfl) (kd_44 sh3) (fun z => absurd z (by decide)) (dc := D) (by omega) (F.mono (fun r h4 F => ?_))
  obtain ⟨z5, rfl, sh4, F⟩ := F
  show w_p _ _ 19 [(0, .ref 44)] [.int z5] h4 _
  refine w_b 7 27 [(4, .int 0), (3, .int 0), (2, .int 0), (1, .int z5), (0, .ref 44)] [] rfl ?_
  refine w_lo [0, 1, 2, 3, 4] [(0, .ref 44), (1, .int z5), (2, .int 0), (3, .int 0), (4, .int 0)] rfl rfl ?_
  exact k27 _ _ _ _ _ F

set_option maxRecDepth 20000 in
theorem t_X9_matches_27 {D : Nat} {h : mm_H} {Q : Option Value → mm_H → Prop} (sh : s_h h) (x1 : Int32) (x2 : Int32) (x3 : Int32) (x4 : Int32) {K48 : Int32 → Int32 → Int32 → Int32 → Int32 → mm_H → Prop} (k48 : ∀ (x1 : Int32) (x2 : Int32) (x3 : Int32) (x4 : Int32) (x5 : Int32) (h : mm_H), K48 x1 x2 x3 x4 x5 h → w_p (D + 1) (9, 6, mc_X9_matches) 48 [(0, .ref 44), (1, .int x1), (2, .int x2), (3, .int x3), (4, .int x4), (5, .int x5)] [] h Q) 
    (F : (((h_oi h 600 44) ≤ x4 → Q (some (.int x1)) h) ∧ (¬ ((h_oi h 600 44) ≤ x4) → (vp_in x4 10 ∧ K48 x1 x2 x3 x4 0 (h_sA h 66 x4.toNatClampNeg (-4)))))) :
    w_p (D + 1) (9, 6, mc_X9_matches) 27 [(0, .ref 44), (1, .int x1), (2, .int x2), (3, .int x3), (4, .int x4)] [] h Q := by
  refine w_b 2 30 [(0, .ref 44), (1, .int x1), (2, .int x2), (3, .int x3), (4, .int x4)] [.ref 44, .int x4] rfl ?_
  refine w_get (g := 600) rfl rfl rfl (kd_44 sh) ?_
  refine w_ic_ge (tgt := 147) (x := x4) (y := h_oi h 600 44) rfl (by decide) ⟨fun c1 => ?_, fun c1 => ?_⟩
  · have F := F.1 c1
    refine w_b 1 148 [(0, .ref 44), (1, .int x1), (2, .int x2), (3, .int x3), (4, .int x4)] [.int x1] rfl ?_
    exact w_ir rfl F
  · have F := F.2 c1
    refine w_b 1 37 [(0, .ref 44), (1, .int x1), (2, .int x2), (3, .int x3), (4, .int x4)] [.ref 44] rfl ?_
    refine w_getS (b := 66) rfl rfl rfl (kd_44 sh) (or_613_44 sh) ?_
    refine w_b 2 44 [(0, .ref 44), (1, .int x1), (2, .int x2), (3, .int x3), (4, .int x4)] [.int (-4), .int x4, .ref 66] rfl ?_
    obtain ⟨g2, F⟩ := F
    refine w_iast rfl (kd_66 sh) (by decide) (by rw [show h_al h 66 = 10 from (al_66 sh)]; exact g2) ?_
    refine w_b 2 48 [(5, .int 0), (0, .ref 44), (1, .int x1), (2, .int x2), (3, .int x3), (4, .int x4)] [] rfl ?_
    refine w_lo [0, 1, 2, 3, 4, 5] [(0, .ref 44), (1, .int x1), (2, .int x2), (3, .int x3), (4, .int x4), (5, .int 0)] rfl rfl ?_
    exact k48 _ _ _ _ _ _ F

set_option maxRecDepth 20000 in
theorem t_X9_matches_48 {D : Nat} {h : mm_H} {Q : Option Value → mm_H → Prop} (sh : s_h h) (x1 : Int32) (x2 : Int32) (x3 : Int32) (x4 : Int32) (x5 : Int32) {K27 : Int32 → Int32 → Int32 → Int32 → mm_H → Prop} (k27 : ∀ (x1 : Int32) (x2 : Int32) (x3 : Int32) (x4 : Int32) (h : mm_H), K27 x1 x2 x3 x4 h → w_p (D + 1) (9, 6, mc_X9_matches) 27 [(0, .ref 44), (1, .int x1), (2, .int x2), (3, .int x3), (4, .int x4)] [] h Q) {K48 : Int32 → Int32 → Int32 → Int32 → Int32 → mm_H → Prop} (k48 : ∀ (x1 : Int32) (x2 : Int32) (x3 : Int32) (x4 : Int32) (x5 : Int32) (h : mm_H), K48 x1 x2 x3 x4 x5 h → w_p (D + 1) (9, 6, mc_X9_matches) 48 [(0, .ref 44), (1, .int x1), (2, .int x2), (3, .int x3), (4, .int x4), (5, .int x5)] [] h Q) 
    (F : (((h_oi h 604 44) ≤ x5 → K27 x1 x2 x3 (x4 + 1) h) ∧ (¬ ((h_oi h 604 44) ≤ x5) → (vp_in x4 10 ∧ ((¬ (h_ai h 66 x4.toNatClampNeg) = (-4) → K27 x1 x2 x3 (x4 + 1) h) ∧ ((h_ai h 66 x4.toNatClampNeg) = (-4) → (vp_in (((10 : Int32) * x4) + x5) 100 ∧ (((h_ai h 61 (((10 : Int32) * x4) + x5).toNatClampNeg) = 0 → K48 x1 x2 x3 x4 (x5 + 1) h) ∧ (¬ ((h_ai h 61 (((10 : Int32) * x4) + x5).toNatClampNeg) = 0) → ((¬ ((x3 >>> (x5 &&& 31)) &&& (1 : Int32)) = 0 → K48 x1 x2 x3 x4 (x5 + 1) h) ∧ (((x3 >>> (x5 &&& 31)) &&& (1 : Int32)) = 0 → w_c D 139 [.ref 44, .int (x4 + 1), .int (x3 ||| ((1 : Int32) <<< (x5 &&& 31)))] h (fun r h7 => ∃ z8 : Int32, r = some (.int z8) ∧ s_h h7 ∧ ((¬ ((x2 + 1) + z8) = x1 → K48 x1 x2 x3 x4 (x5 + 1) h7) ∧ (((x2 + 1) + z8) = x1 → (vp_in x4 10 ∧ K48 x1 (x2 + 1) (x3 ||| ((1 : Int32) <<< (x5 &&& 31))) x4 (x5 + 1) (h_sA h7 66 x4.toNatClampNeg x5)))))))))))))))) :
    w_p (D + 1) (9, 6, mc_X9_matches) 48 [(0, .ref 44), (1, .int x1), (2, .int x2), (3, .int x3), (4, .int x4), (5, .int x5)] [] h Q := by
  refine w_b 2 51 [(0, .ref 44), (1, .int x1), (2, .int x2), (3, .int x3), (4, .int x4), (5, .int x5)] [.ref 44, .int x5] rfl ?_
  refine w_get (g := 604) rfl rfl rfl (kd_44 sh) ?_
  refine w_ic_ge (tgt := 141) (x := x5) (y := h_oi h 604 44) rfl (by decide) ⟨fun c1 => ?_, fun c1 => ?_⟩
  · have F := F.1 c1
    refine w_b 2 27 [(4, .int (x4 + 1)), (0, .ref 44), (1, .int x1), (2, .int x2), (3, .int x3), (5, .int x5)] [] rfl ?_
    refine w_lo [0, 1, 2, 3, 4] [(0, .ref 44), (1, .int x1), (2, .int x2), (3, .int x3), (4, .int (x4 + 1))] rfl rfl ?_
    exact k27 _ _ _ _ _ F
  · have F := F.2 c1
    refine w_b 1 58 [(0, .ref 44), (1, .int x1), (2, .int x2), (3, .int x3), (4, .int x4), (5, .int x5)] [.ref 44] rfl ?_
    refine w_getS (b := 66) rfl rfl rfl (kd_44 sh) (or_613_44 sh) ?_
    refine w_b 1 63 [(0, .ref 44), (1, .int x1), (2, .int x2), (3, .int x3), (4, .int x4), (5, .int x5)] [.int x4, .ref 66] rfl ?_
    obtain ⟨g2, F⟩ := F
    refine w_iald rfl (kd_66 sh) (by rw [show h_al h 66 = 10 from (al_66 sh)]; exact g2) ?_
    refine w_b 1 66 [(0, .ref 44), (1, .int x1), (2, .int x2), (3, .int x3), (4, .int x4), (5, .int x5)] [.int (-4), .int (h_ai h 66 x4.toNatClampNeg)] rfl ?_
    refine w_ic_ne (tgt := 141) (x := h_ai h 66 x4.toNatClampNeg) (y := (-4)) rfl (by decide) ⟨fun c3 => ?_, fun c3 => ?_⟩
    · have F := F.1 c3
      refine w_b 2 27 [(4, .int (x4 + 1)), (0, .ref 44), (1, .int x1), (2, .int x2), (3, .int x3), (5, .int x5)] [] rfl ?_
      refine w_lo [0, 1, 2, 3, 4] [(0, .ref 44), (1, .int x1), (2, .int x2), (3, .int x3), (4, .int (x4 + 1))] rfl rfl ?_
      exact k27 _ _ _ _ _ F
    · have F := F.2 (Decidable.not_not.mp c3)
      refine w_b 1 70 [(0, .ref 44), (1, .int x1), (2, .int x2), (3, .int x3), (4, .int x4), (5, .int x5)] [.ref 44] rfl ?_
      refine w_getS (b := 61) rfl rfl rfl (kd_44 sh) (or_608_44 sh) ?_
      refine w_b 5 81 [(0, .ref 44), (1, .int x1), (2, .int x2), (3, .int x3), (4, .int x4), (5, .int x5)] [.int (((10 : Int32) * x4) + x5), .ref 61] rfl ?_
      obtain ⟨g4, F⟩ := F
      refine w_bald rfl (Or.inr (kd_61 sh)) (by rw [show h_al h 61 = 100 from (al_61 sh)]; exact g4) ?_
      refine w_if_eq (tgt := 135) (x := h_ai h 61 (((10 : Int32) * x4) + x5).toNatClampNeg) rfl (by decide) ⟨fun c5 => ?_, fun c5 => ?_⟩
      · have F := F.1 c5
        refine w_b 2 48 [(5, .int (x5 + 1)), (0, .ref 44), (1, .int x1), (2, .int x2), (3, .int x3), (4, .int x4)] [] rfl ?_
        refine w_lo [0, 1, 2, 3, 4, 5] [(0, .ref 44), (1, .int x1), (2, .int x2), (3, .int x3), (4, .int x4), (5, .int (x5 + 1))] rfl rfl ?_
        exact k48 _ _ _ _ _ _ F
      · have F := F.2 c5
        refine w_b 5 91 [(0, .ref 44), (1, .int x1), (2, .int x2), (3, .int x3), (4, .int x4), (5, .int x5)] [.int ((x3 >>> (x5 &&& 31)) &&& (1 : Int32))] rfl ?_
        refine w_if_ne (tgt := 135) (x := (x3 >>> (x5 &&& 31)) &&& (1 : Int32)) rfl (by decide) ⟨fun c6 => ?_, fun c6 => ?_⟩
        · have F := F.1 c6
          refine w_b 2 48 [(5, .int (x5 + 1)), (0, .ref 44), (1, .int x1), (2, .int x2), (3, .int x3), (4, .int x4)] [] rfl ?_
          refine w_lo [0, 1, 2, 3, 4, 5] [(0, .ref 44), (1, .int x1), (2, .int x2), (3, .int x3), (4, .int x4), (5, .int (x5 + 1))] rfl rfl ?_
          exact k48 _ _ _ _ _ _ F
        · have F := F.2 (Decidable.not_not.mp c6)
          refine w_b 12 108 [(0, .ref 44), (1, .int x1), (2, .int x2), (3, .int x3), (4, .int x4), (5, .int x5)] [.int (x3 ||| ((1 : Int32) <<< (x5 &&& 31))), .int (x4 + 1), .ref 44, .int (x2 + 1)] rfl ?_
          refine w_cv (As := [.int (x4 + 1), .int (x3 ||| ((1 : Int32) <<< (x5 &&& 31)))]) (b := 44) (rest := [.int (x2 + 1)]) rfl rfl rfl (Nat.le_of_ble_eq_true rfl) (kd_44 sh) (fun z => absurd z (by decide)) (dc := D) (by omega) (F.mono (fun r h7 F => ?_))
          obtain ⟨z8, rfl, sh7, F⟩ := F
          show w_p _ _ 111 [(0, .ref 44), (1, .int x1), (2, .int x2), (3, .int x3), (4, .int x4), (5, .int x5)] [.int z8, .int (x2 + 1)] h7 _
          refine w_b 2 113 [(0, .ref 44), (1, .int x1), (2, .int x2), (3, .int x3), (4, .int x4), (5, .int x5)] [.int x1, .int ((x2 + 1) + z8)] rfl ?_
          refine w_ic_ne (tgt := 135) (x := (x2 + 1) + z8) (y := x1) rfl (by decide) ⟨fun c9 => ?_, fun c9 => ?_⟩
          · have F := F.1 c9
            refine w_b 2 48 [(5, .int (x5 + 1)), (0, .ref 44), (1, .int x1), (2, .int x2), (3, .int x3), (4, .int x4)] [] rfl ?_
            refine w_lo [0, 1, 2, 3, 4, 5] [(0, .ref 44), (1, .int x1), (2, .int x2), (3, .int x3), (4, .int x4), (5, .int (x5 + 1))] rfl rfl ?_
            exact k48 _ _ _ _ _ _ F
          · have F := F.2 (Decidable.not_not.mp c9)
            refine w_b 1 117 [(0, .ref 44), (1, .int x1), (2, .int x2), (3, .int x3), (4, .int x4), (5, .int x5)] [.ref 44] rfl ?_
            refine w_getS (b := 66) rfl rfl rfl (kd_44 sh7) (or_613_44 sh7) ?_
            refine w_b 2 124 [(0, .ref 44), (1, .int x1), (2, .int x2), (3, .int x3), (4, .int x4), (5, .int x5)] [.int x5, .int x4, .ref 66] rfl ?_
            obtain ⟨g10, F⟩ := F
            refine w_iast rfl (kd_66 sh7) (by decide) (by rw [show h_al h7 66 = 10 from (al_66 sh7)]; exact g10) ?_
            refine w_b 9 48 [(5, .int (x5 + 1)), (3, .int (x3 ||| ((1 : Int32) <<< (x5 &&& 31)))), (2, .int (x2 + 1)), (0, .ref 44), (1, .int x1), (4, .int x4)] [] rfl ?_
            refine w_lo [0, 1, 2, 3, 4, 5] [(0, .ref 44), (1, .int x1), (2, .int (x2 + 1)), (3, .int (x3 ||| ((1 : Int32) <<< (x5 &&& 31)))), (4, .int x4), (5, .int (x5 + 1))] rfl rfl ?_
            exact k48 _ _ _ _ _ _ F

set_option maxRecDepth 20000 in
theorem t_X9_why_0 {D : Nat} {h : mm_H} {Q : Option Value → mm_H → Prop} (sh : s_h h) (what : Int32) {K24 : Int32 → Int32 → Int32 → Int32 → mm_H → Prop} (k24 : ∀ (what : Int32) (x2 : Int32) (x3 : Int32) (x4 : Int32) (h : mm_H), K24 what x2 x3 x4 h → w_p (D + 1) (9, 7, mc_X9_why) 24 [(0, .ref 44), (1, .int what), (2, .int x2), (3, .int x3), (4, .int x4)] [] h Q) 
    (F : ((¬ (f_in what.toInt64 (Int64.ofNat 0) (Int64.ofNat 1)) = 0 → w_c D 140 [.ref 44] h (fun r h2 => ∃ z3 : Int32, r = some (.int z3) ∧ s_h h2 ∧ K24 what 0 0 0 h2)) ∧ ((f_in what.toInt64 (Int64.ofNat 0) (Int64.ofNat 1)) = 0 → Q (some (.int (-1))) h))) :
    w_c (D + 1) 143 [.ref 44, .int what] h Q := by
  refine w_ci (M := (9, 7, mc_X9_why)) rfl (Nat.le_of_ble_eq_true rfl) ?_
  show w_p _ _ 0 [(0, .ref 44), (1, .int what)] [] h Q
  refine w_b 4 4 [(0, .ref 44), (1, .int what)] [.long (Int64.ofNat 1), .long (Int64.ofNat 0), .long what.toInt64] rfl ?_
  refine w_cs (As := [.long what.toInt64, .long (Int64.ofNat 0), .long (Int64.ofNat 1)]) (rest := []) rfl rfl rfl (Nat.le_of_ble_eq_true rfl) (dc := 0) (by omega) (sp_in  ?_)
  show w_p _ _ 7 [(0, .ref 44), (1, .int what)] [.int (f_in what.toInt64 (Int64.ofNat 0) (Int64.ofNat 1))] h _
  refine w_if_ne (tgt := 12) (x := f_in what.toInt64 (Int64.ofNat 0) (Int64.ofNat 1)) rfl (by decide) ⟨fun c1 => ?_, fun c1 => ?_⟩
  · have F := F.1 c1
    refine w_b 1 13 [(0, .ref 44), (1, .int what)] [.ref 44] rfl ?_
    refine w_cv (As := []) (b := 44) (rest := []) rfl rfl rfl (Nat.le_of_ble_eq_true rfl) (kd_44 sh) (fun z => absurd z (by decide)) (dc := D) (by omega) (F.mono (fun r h2 F => ?_))
    obtain ⟨z3, rfl, sh2, F⟩ := F
    show w_p _ _ 16 [(0, .ref 44), (1, .int what)] [.int z3] h2 _
    refine w_b 7 24 [(4, .int 0), (3, .int 0), (2, .int 0), (0, .ref 44), (1, .int what)] [] rfl ?_
    refine w_lo [0, 1, 2, 3, 4] [(0, .ref 44), (1, .int what), (2, .int 0), (3, .int 0), (4, .int 0)] rfl rfl ?_
    exact k24 _ _ _ _ _ F
  · have F := F.2 (Decidable.not_not.mp c1)
    refine w_b 1 11 [(0, .ref 44), (1, .int what)] [.int (-1)] rfl ?_
    exact w_ir rfl F

set_option maxRecDepth 20000 in
theorem t_X9_why_24 {D : Nat} {h : mm_H} {Q : Option Value → mm_H → Prop} (sh : s_h h) (what : Int32) (x2 : Int32) (x3 : Int32) (x4 : Int32) {K24 : Int32 → Int32 → Int32 → Int32 → mm_H → Prop} (k24 : ∀ (what : Int32) (x2 : Int32) (x3 : Int32) (x4 : Int32) (h : mm_H), K24 what x2 x3 x4 h → w_p (D + 1) (9, 7, mc_X9_why) 24 [(0, .ref 44), (1, .int what), (2, .int x2), (3, .int x3), (4, .int x4)] [] h Q) {K65 : Int32 → Int32 → Int32 → Int32 → mm_H → Prop} (k65 : ∀ (what : Int32) (x2 : Int32) (x3 : Int32) (x4 : Int32) (h : mm_H), K65 what x2 x3 x4 h → w_p (D + 1) (9, 7, mc_X9_why) 65 [(0, .ref 44), (1, .int what), (2, .int x2), (3, .int x3), (4, .int x4)] [] h Q) 
    (F : (((h_oi h 600 44) ≤ x4 → K65 what x2 x3 0 h) ∧ (¬ ((h_oi h 600 44) ≤ x4) → (vp_in x4 10 ∧ ((¬ (h_ai h 66 x4.toNatClampNeg) = (-4) → K24 what (x2 ||| (0 : Int32)) x3 (x4 + 1) h) ∧ ((h_ai h 66 x4.toNatClampNeg) = (-4) → K24 what (x2 ||| ((1 : Int32) <<< (x4 &&& 31))) x3 (x4 + 1) h)))))) :
    w_p (D + 1) (9, 7, mc_X9_why) 24 [(0, .ref 44), (1, .int what), (2, .int x2), (3, .int x3), (4, .int x4)] [] h Q := by
  refine w_b 2 27 [(0, .ref 44), (1, .int what), (2, .int x2), (3, .int x3), (4, .int x4)] [.ref 44, .int x4] rfl ?_
  refine w_get (g := 600) rfl rfl rfl (kd_44 sh) ?_
  refine w_ic_ge (tgt := 62) (x := x4) (y := h_oi h 600 44) rfl (by decide) ⟨fun c1 => ?_, fun c1 => ?_⟩
  · have F := F.1 c1
    refine w_b 2 65 [(4, .int 0), (0, .ref 44), (1, .int what), (2, .int x2), (3, .int x3)] [] rfl ?_
    refine w_lo [0, 1, 2, 3, 4] [(0, .ref 44), (1, .int what), (2, .int x2), (3, .int x3), (4, .int 0)] rfl rfl ?_
    exact k65 _ _ _ _ _ F
  · have F := F.2 c1
    refine w_b 2 35 [(0, .ref 44), (1, .int what), (2, .int x2), (3, .int x3), (4, .int x4)] [.ref 44, .int x2] rfl ?_
    refine w_getS (b := 66) rfl rfl rfl (kd_44 sh) (or_613_44 sh) ?_
    refine w_b 1 40 [(0, .ref 44), (1, .int what), (2, .int x2), (3, .int x3), (4, .int x4)] [.int x4, .ref 66, .int x2] rfl ?_
    obtain ⟨g2, F⟩ := F
    refine w_iald rfl (kd_66 sh) (by rw [show h_al h 66 = 10 from (al_66 sh)]; exact g2) ?_
    refine w_b 1 43 [(0, .ref 44), (1, .int what), (2, .int x2), (3, .int x3), (4, .int x4)] [.int (-4), .int (h_ai h 66 x4.toNatClampNeg), .int x2] rfl ?_
    refine w_ic_ne (tgt := 53) (x := h_ai h 66 x4.toNatClampNeg) (y := (-4)) rfl (by decide) ⟨fun c3 => ?_, fun c3 => ?_⟩
    · have F := F.1 c3
      refine w_b 5 24 [(4, .int (x4 + 1)), (2, .int (x2 ||| (0 : Int32))), (0, .ref 44), (1, .int what), (3, .int x3)] [] rfl ?_
      refine w_lo [0, 1, 2, 3, 4] [(0, .ref 44), (1, .int what), (2, .int (x2 ||| (0 : Int32))), (3, .int x3), (4, .int (x4 + 1))] rfl rfl ?_
      exact k24 _ _ _ _ _ F
    · have F := F.2 (Decidable.not_not.mp c3)
      refine w_b 8 24 [(4, .int (x4 + 1)), (2, .int (x2 ||| ((1 : Int32) <<< (x4 &&& 31)))), (0, .ref 44), (1, .int what), (3, .int x3)] [] rfl ?_
      refine w_lo [0, 1, 2, 3, 4] [(0, .ref 44), (1, .int what), (2, .int (x2 ||| ((1 : Int32) <<< (x4 &&& 31)))), (3, .int x3), (4, .int (x4 + 1))] rfl rfl ?_
      exact k24 _ _ _ _ _ F

set_option maxRecDepth 20000 in
theorem t_X9_why_65 {D : Nat} {h : mm_H} {Q : Option Value → mm_H → Prop} (sh : s_h h) (what : Int32) (x2 : Int32) (x3 : Int32) (x4 : Int32) {K75 : Int32 → Int32 → Int32 → Int32 → Int32 → mm_H → Prop} (k75 : ∀ (what : Int32) (x2 : Int32) (x3 : Int32) (x4 : Int32) (x5 : Int32) (h : mm_H), K75 what x2 x3 x4 x5 h → w_p (D + 1) (9, 7, mc_X9_why) 75 [(0, .ref 44), (1, .int what), (2, .int x2), (3, .int x3), (4, .int x4), (5, .int x5)] [] h Q) 
    (F : ((20 ≤ x4 → ((¬ what = 1 → Q (some (.int ((((1 : Int32) <<< ((h_oi h 600 44) &&& 31)) - (1 : Int32)) - x2))) h) ∧ (what = 1 → Q (some (.int x3)) h))) ∧ (¬ (20 ≤ x4) → K75 what x2 x3 x4 0 h))) :
    w_p (D + 1) (9, 7, mc_X9_why) 65 [(0, .ref 44), (1, .int what), (2, .int x2), (3, .int x3), (4, .int x4)] [] h Q := by
  refine w_b 2 69 [(0, .ref 44), (1, .int what), (2, .int x2), (3, .int x3), (4, .int x4)] [.int 20, .int x4] rfl ?_
  refine w_ic_ge (tgt := 207) (x := x4) (y := 20) rfl (by decide) ⟨fun c1 => ?_, fun c1 => ?_⟩
  · have F := F.1 c1
    refine w_b 2 209 [(0, .ref 44), (1, .int what), (2, .int x2), (3, .int x3), (4, .int x4)] [.int 1, .int what] rfl ?_
    refine w_ic_ne (tgt := 216) (x := what) (y := 1) rfl (by decide) ⟨fun c2 => ?_, fun c2 => ?_⟩
    · have F := F.1 c2
      refine w_b 2 218 [(0, .ref 44), (1, .int what), (2, .int x2), (3, .int x3), (4, .int x4)] [.ref 44, .int 1] rfl ?_
      refine w_get (g := 600) rfl rfl rfl (kd_44 sh) ?_
      refine w_b 5 226 [(0, .ref 44), (1, .int what), (2, .int x2), (3, .int x3), (4, .int x4)] [.int ((((1 : Int32) <<< ((h_oi h 600 44) &&& 31)) - (1 : Int32)) - x2)] rfl ?_
      exact w_ir rfl F
    · have F := F.2 (Decidable.not_not.mp c2)
      refine w_b 2 226 [(0, .ref 44), (1, .int what), (2, .int x2), (3, .int x3), (4, .int x4)] [.int x3] rfl ?_
      exact w_ir rfl F
  · have F := F.2 c1
    refine w_b 2 75 [(5, .int 0), (0, .ref 44), (1, .int what), (2, .int x2), (3, .int x3), (4, .int x4)] [] rfl ?_
    refine w_lo [0, 1, 2, 3, 4, 5] [(0, .ref 44), (1, .int what), (2, .int x2), (3, .int x3), (4, .int x4), (5, .int 0)] rfl rfl ?_
    exact k75 _ _ _ _ _ _ F

set_option maxRecDepth 20000 in
theorem t_X9_why_75 {D : Nat} {h : mm_H} {Q : Option Value → mm_H → Prop} (sh : s_h h) (what : Int32) (x2 : Int32) (x3 : Int32) (x4 : Int32) (x5 : Int32) {K87 : Int32 → Int32 → Int32 → Int32 → Int32 → Int32 → mm_H → Prop} (k87 : ∀ (what : Int32) (x2 : Int32) (x3 : Int32) (x4 : Int32) (x5 : Int32) (x6 : Int32) (h : mm_H), K87 what x2 x3 x4 x5 x6 h → w_p (D + 1) (9, 7, mc_X9_why) 87 [(0, .ref 44), (1, .int what), (2, .int x2), (3, .int x3), (4, .int x4), (5, .int x5), (6, .int x6)] [] h Q) {K148 : Int32 → Int32 → Int32 → Int32 → Int32 → mm_H → Prop} (k148 : ∀ (what : Int32) (x2 : Int32) (x3 : Int32) (x4 : Int32) (x5 : Int32) (h : mm_H), K148 what x2 x3 x4 x5 h → w_p (D + 1) (9, 7, mc_X9_why) 148 [(0, .ref 44), (1, .int what), (2, .int x2), (3, .int x3), (4, .int x4), (5, .int x5)] [] h Q) 
    (F : (((h_oi h 600 44) ≤ x5 → K148 what x2 x3 x4 0 h) ∧ (¬ ((h_oi h 600 44) ≤ x5) → K87 what x2 x3 x4 x5 0 h))) :
    w_p (D + 1) (9, 7, mc_X9_why) 75 [(0, .ref 44), (1, .int what), (2, .int x2), (3, .int x3), (4, .int x4), (5, .int x5)] [] h Q := by
  refine w_b 2 78 [(0, .ref 44), (1, .int what), (2, .int x2), (3, .int x3), (4, .int x4), (5, .int x5)] [.ref 44, .int x5] rfl ?_
  refine w_get (g := 600) rfl rfl rfl (kd_44 sh) ?_
  refine w_ic_ge (tgt := 145) (x := x5) (y := h_oi h 600 44) rfl (by decide) ⟨fun c1 => ?_, fun c1 => ?_⟩
  · have F := F.1 c1
    refine w_b 2 148 [(5, .int 0), (0, .ref 44), (1, .int what), (2, .int x2), (3, .int x3), (4, .int x4)] [] rfl ?_
    refine w_lo [0, 1, 2, 3, 4, 5] [(0, .ref 44), (1, .int what), (2, .int x2), (3, .int x3), (4, .int x4), (5, .int 0)] rfl rfl ?_
    exact k148 _ _ _ _ _ _ F
  · have F := F.2 c1
    refine w_b 2 87 [(6, .int 0), (0, .ref 44), (1, .int what), (2, .int x2), (3, .int x3), (4, .int x4), (5, .int x5)] [] rfl ?_
    refine w_lo [0, 1, 2, 3, 4, 5, 6] [(0, .ref 44), (1, .int what), (2, .int x2), (3, .int x3), (4, .int x4), (5, .int x5), (6, .int 0)] rfl rfl ?_
    exact k87 _ _ _ _ _ _ _ F

set_option maxRecDepth 20000 in
theorem t_X9_why_87 {D : Nat} {h : mm_H} {Q : Option Value → mm_H → Prop} (sh : s_h h) (what : Int32) (x2 : Int32) (x3 : Int32) (x4 : Int32) (x5 : Int32) (x6 : Int32) {K75 : Int32 → Int32 → Int32 → Int32 → Int32 → mm_H → Prop} (k75 : ∀ (what : Int32) (x2 : Int32) (x3 : Int32) (x4 : Int32) (x5 : Int32) (h : mm_H), K75 what x2 x3 x4 x5 h → w_p (D + 1) (9, 7, mc_X9_why) 75 [(0, .ref 44), (1, .int what), (2, .int x2), (3, .int x3), (4, .int x4), (5, .int x5)] [] h Q) {K87 : Int32 → Int32 → Int32 → Int32 → Int32 → Int32 → mm_H → Prop} (k87 : ∀ (what : Int32) (x2 : Int32) (x3 : Int32) (x4 : Int32) (x5 : Int32) (x6 : Int32) (h : mm_H), K87 what x2 x3 x4 x5 x6 h → w_p (D + 1) (9, 7, mc_X9_why) 87 [(0, .ref 44), (1, .int what), (2, .int x2), (3, .int x3), (4, .int x4), (5, .int x5), (6, .int x6)] [] h Q) 
    (F : (((h_oi h 604 44) ≤ x6 → K75 what x2 x3 x4 (x5 + 1) h) ∧ (¬ ((h_oi h 604 44) ≤ x6) → ((¬ ((x2 >>> (x5 &&& 31)) &&& (1 : Int32)) = 1 → K87 what x2 (x3 ||| (0 : Int32)) x4 x5 (x6 + 1) h) ∧ (((x2 >>> (x5 &&& 31)) &&& (1 : Int32)) = 1 → (vp_in (((10 : Int32) * x5) + x6) 100 ∧ (((h_ai h 61 (((10 : Int32) * x5) + x6).toNatClampNeg) = 0 → K87 what x2 (x3 ||| (0 : Int32)) x4 x5 (x6 + 1) h) ∧ (¬ ((h_ai h 61 (((10 : Int32) * x5) + x6).toNatClampNeg) = 0) → K87 what x2 (x3 ||| ((1 : Int32) <<< (x6 &&& 31))) x4 x5 (x6 + 1) h)))))))) :
    w_p (D + 1) (9, 7, mc_X9_why) 87 [(0, .ref 44), (1, .int what), (2, .int x2), (3, .int x3), (4, .int x4), (5, .int x5), (6, .int x6)] [] h Q := by
  refine w_b 2 90 [(0, .ref 44), (1, .int what), (2, .int x2), (3, .int x3), (4, .int x4), (5, .int x5), (6, .int x6)] [.ref 44, .int x6] rfl ?_
  refine w_get (g := 604) rfl rfl rfl (kd_44 sh) ?_
  refine w_ic_ge (tgt := 139) (x := x6) (y := h_oi h 604 44) rfl (by decide) ⟨fun c1 => ?_, fun c1 => ?_⟩
  · have F := F.1 c1
    refine w_b 2 75 [(5, .int (x5 + 1)), (0, .ref 44), (1, .int what), (2, .int x2), (3, .int x3), (4, .int x4), (6, .int x6)] [] rfl ?_
    refine w_lo [0, 1, 2, 3, 4, 5] [(0, .ref 44), (1, .int what), (2, .int x2), (3, .int x3), (4, .int x4), (5, .int (x5 + 1))] rfl rfl ?_
    exact k75 _ _ _ _ _ _ F
  · have F := F.2 c1
    refine w_b 7 104 [(0, .ref 44), (1, .int what), (2, .int x2), (3, .int x3), (4, .int x4), (5, .int x5), (6, .int x6)] [.int 1, .int ((x2 >>> (x5 &&& 31)) &&& (1 : Int32)), .int x3] rfl ?_
    refine w_ic_ne (tgt := 130) (x := (x2 >>> (x5 &&& 31)) &&& (1 : Int32)) (y := 1) rfl (by decide) ⟨fun c2 => ?_, fun c2 => ?_⟩
    · have F := F.1 c2
      refine w_b 5 87 [(6, .int (x6 + 1)), (3, .int (x3 ||| (0 : Int32))), (0, .ref 44), (1, .int what), (2, .int x2), (4, .int x4), (5, .int x5)] [] rfl ?_
      refine w_lo [0, 1, 2, 3, 4, 5, 6] [(0, .ref 44), (1, .int what), (2, .int x2), (3, .int (x3 ||| (0 : Int32))), (4, .int x4), (5, .int x5), (6, .int (x6 + 1))] rfl rfl ?_
      exact k87 _ _ _ _ _ _ _ F
    · have F := F.2 (Decidable.not_not.mp c2)
      refine w_b 1 108 [(0, .ref 44), (1, .int what), (2, .int x2), (3, .int x3), (4, .int x4), (5, .int x5), (6, .int x6)] [.ref 44, .int x3] rfl ?_
      refine w_getS (b := 61) rfl rfl rfl (kd_44 sh) (or_608_44 sh) ?_
      refine w_b 5 119 [(0, .ref 44), (1, .int what), (2, .int x2), (3, .int x3), (4, .int x4), (5, .int x5), (6, .int x6)] [.int (((10 : Int32) * x5) + x6), .ref 61, .int x3] rfl ?_
      obtain ⟨g3, F⟩ := F
      refine w_bald rfl (Or.inr (kd_61 sh)) (by rw [show h_al h 61 = 100 from (al_61 sh)]; exact g3) ?_
      refine w_if_eq (tgt := 130) (x := h_ai h 61 (((10 : Int32) * x5) + x6).toNatClampNeg) rfl (by decide) ⟨fun c4 => ?_, fun c4 => ?_⟩
      · have F := F.1 c4
        refine w_b 5 87 [(6, .int (x6 + 1)), (3, .int (x3 ||| (0 : Int32))), (0, .ref 44), (1, .int what), (2, .int x2), (4, .int x4), (5, .int x5)] [] rfl ?_
        refine w_lo [0, 1, 2, 3, 4, 5, 6] [(0, .ref 44), (1, .int what), (2, .int x2), (3, .int (x3 ||| (0 : Int32))), (4, .int x4), (5, .int x5), (6, .int (x6 + 1))] rfl rfl ?_
        exact k87 _ _ _ _ _ _ _ F
      · have F := F.2 c4
        refine w_b 8 87 [(6, .int (x6 + 1)), (3, .int (x3 ||| ((1 : Int32) <<< (x6 &&& 31)))), (0, .ref 44), (1, .int what), (2, .int x2), (4, .int x4), (5, .int x5)] [] rfl ?_
        refine w_lo [0, 1, 2, 3, 4, 5, 6] [(0, .ref 44), (1, .int what), (2, .int x2), (3, .int (x3 ||| ((1 : Int32) <<< (x6 &&& 31)))), (4, .int x4), (5, .int x5), (6, .int (x6 + 1))] rfl rfl ?_
        exact k87 _ _ _ _ _ _ _ F

set_option maxRecDepth 20000 in
theorem t_X9_why_148 {D : Nat} {h : mm_H} {Q : Option Value → mm_H → Prop} (sh : s_h h) (what : Int32) (x2 : Int32) (x3 : Int32) (x4 : Int32) (x5 : Int32) {K65 : Int32 → Int32 → Int32 → Int32 → mm_H → Prop} (k65 : ∀ (what : Int32) (x2 : Int32) (x3 : Int32) (x4 : Int32) (h : mm_H), K65 what x2 x3 x4 h → w_p (D + 1) (9, 7, mc_X9_why) 65 [(0, .ref 44), (1, .int what), (2, .int x2), (3, .int x3), (4, .int x4)] [] h Q) {K148 : Int32 → Int32 → Int32 → Int32 → Int32 → mm_H → Prop} (k148 : ∀ (what : Int32) (x2 : Int32) (x3 : Int32) (x4 : Int32) (x5 : Int32) (h : mm_H), K148 what x2 x3 x4 x5 h → w_p (D + 1) (9, 7, mc_X9_why) 148 [(0, .ref 44), (1, .int what), (2, .int x2), (3, .int x3), (4, .int x4), (5, .int x5)] [] h Q) 
    (F : (((h_oi h 600 44) ≤ x5 → K65 what x2 x3 (x4 + 1) h) ∧ (¬ ((h_oi h 600 44) ≤ x5) → (vp_in x5 10 ∧ (((h_ai h 66 x5.toNatClampNeg) = (-4) → K148 what (x2 ||| (0 : Int32)) x3 x4 (x5 + 1) h) ∧ (¬ ((h_ai h 66 x5.toNatClampNeg) = (-4)) → (vp_in x5 10 ∧ ((¬ ((x3 >>> ((h_ai h 66 x5.toNatClampNeg) &&& 31)) &&& (1 : Int32)) = 1 → K148 what (x2 ||| (0 : Int32)) x3 x4 (x5 + 1) h) ∧ (((x3 >>> ((h_ai h 66 x5.toNatClampNeg) &&& 31)) &&& (1 : Int32)) = 1 → K148 what (x2 ||| ((1 : Int32) <<< (x5 &&& 31))) x3 x4 (x5 + 1) h))))))))) :
    w_p (D + 1) (9, 7, mc_X9_why) 148 [(0, .ref 44), (1, .int what), (2, .int x2), (3, .int x3), (4, .int x4), (5, .int x5)] [] h Q := by
  refine w_b 2 151 [(0, .ref 44), (1, .int what), (2, .int x2), (3, .int x3), (4, .int x4), (5, .int x5)] [.ref 44, .int x5] rfl ?_
  refine w_get (g := 600) rfl rfl rfl (kd_44 sh) ?_
  refine w_ic_ge (tgt := 201) (x := x5) (y := h_oi h 600 44) rfl (by decide) ⟨fun c1 => ?_, fun c1 => ?_⟩
  · have F := F.1 c1
    refine w_b 2 65 [(4, .int (x4 + 1)), (0, .ref 44), (1, .int what), (2, .int x2), (3, .int x3), (5, .int x5)] [] rfl ?_
    refine w_lo [0, 1, 2, 3, 4] [(0, .ref 44), (1, .int what), (2, .int x2), (3, .int x3), (4, .int (x4 + 1))] rfl rfl ?_
    exact k65 _ _ _ _ _ F
  · have F := F.2 c1
    refine w_b 2 159 [(0, .ref 44), (1, .int what), (2, .int x2), (3, .int x3), (4, .int x4), (5, .int x5)] [.ref 44, .int x2] rfl ?_
    refine w_getS (b := 66) rfl rfl rfl (kd_44 sh) (or_613_44 sh) ?_
    refine w_b 1 164 [(0, .ref 44), (1, .int what), (2, .int x2), (3, .int x3), (4, .int x4), (5, .int x5)] [.int x5, .ref 66, .int x2] rfl ?_
    obtain ⟨g2, F⟩ := F
    refine w_iald rfl (kd_66 sh) (by rw [show h_al h 66 = 10 from (al_66 sh)]; exact g2) ?_
    refine w_b 1 167 [(0, .ref 44), (1, .int what), (2, .int x2), (3, .int x3), (4, .int x4), (5, .int x5)] [.int (-4), .int (h_ai h 66 x5.toNatClampNeg), .int x2] rfl ?_
    refine w_ic_eq (tgt := 192) (x := h_ai h 66 x5.toNatClampNeg) (y := (-4)) rfl (by decide) ⟨fun c3 => ?_, fun c3 => ?_⟩
    · have F := F.1 c3
      refine w_b 5 148 [(5, .int (x5 + 1)), (2, .int (x2 ||| (0 : Int32))), (0, .ref 44), (1, .int what), (3, .int x3), (4, .int x4)] [] rfl ?_
      refine w_lo [0, 1, 2, 3, 4, 5] [(0, .ref 44), (1, .int what), (2, .int (x2 ||| (0 : Int32))), (3, .int x3), (4, .int x4), (5, .int (x5 + 1))] rfl rfl ?_
      exact k148 _ _ _ _ _ _ F
    · have F := F.2 c3
      refine w_b 2 172 [(0, .ref 44), (1, .int what), (2, .int x2), (3, .int x3), (4, .int x4), (5, .int x5)] [.ref 44, .int x3, .int x2] rfl ?_
      refine w_getS (b := 66) rfl rfl rfl (kd_44 sh) (or_613_44 sh) ?_
      refine w_b 1 177 [(0, .ref 44), (1, .int what), (2, .int x2), (3, .int x3), (4, .int x4), (5, .int x5)] [.int x5, .ref 66, .int x3, .int x2] rfl ?_
      obtain ⟨g4, F⟩ := F
      refine w_iald rfl (kd_66 sh) (by rw [show h_al h 66 = 10 from (al_66 sh)]; exact g4) ?_
      refine w_b 4 182 [(0, .ref 44), (1, .int what), (2, .int x2), (3, .int x3), (4, .int x4), (5, .int x5)] [.int 1, .int ((x3 >>> ((h_ai h 66 x5.toNatClampNeg) &&& 31)) &&& (1 : Int32)), .int x2] rfl ?_
      refine w_ic_ne (tgt := 192) (x := (x3 >>> ((h_ai h 66 x5.toNatClampNeg) &&& 31)) &&& (1 : Int32)) (y := 1) rfl (by decide) ⟨fun c5 => ?_, fun c5 => ?_⟩
      · have F := F.1 c5
        refine w_b 5 148 [(5, .int (x5 + 1)), (2, .int (x2 ||| (0 : Int32))), (0, .ref 44), (1, .int what), (3, .int x3), (4, .int x4)] [] rfl ?_
        refine w_lo [0, 1, 2, 3, 4, 5] [(0, .ref 44), (1, .int what), (2, .int (x2 ||| (0 : Int32))), (3, .int x3), (4, .int x4), (5, .int (x5 + 1))] rfl rfl ?_
        exact k148 _ _ _ _ _ _ F
      · have F := F.2 (Decidable.not_not.mp c5)
        refine w_b 8 148 [(5, .int (x5 + 1)), (2, .int (x2 ||| ((1 : Int32) <<< (x5 &&& 31)))), (0, .ref 44), (1, .int what), (3, .int x3), (4, .int x4)] [] rfl ?_
        refine w_lo [0, 1, 2, 3, 4, 5] [(0, .ref 44), (1, .int what), (2, .int (x2 ||| ((1 : Int32) <<< (x5 &&& 31)))), (3, .int x3), (4, .int x4), (5, .int (x5 + 1))] rfl rfl ?_
        exact k148 _ _ _ _ _ _ F

set_option maxHeartbeats 1000000 in
theorem m_most {h : mm_H} {Q : Option Value → mm_H → Prop} {na no : Nat} {fit : Nat → Nat → Bool} {F : Nat → Bool} {first : Nat} {out : Int32} (sh : s_h h) (C : mC h na no) (Ft : mF h na no fit) (hf : first ≤ na) (hF : ∀ o, o < no → bt out o = !F o) (k : ∀ h', fx h h' [] [62, 63, 64, 65] → dn h h' → Q (some (.int (nI (mN fit first na F no)))) h') : w_c 2 139 [.ref 44, .int (nI first), .int out] h Q := by
  obtain ⟨hna, hno⟩ := C.1
  have loop3 : ∀ m j, j + m = na → first ≤ j → ∀ (h1 : mm_H) (t w : Nat → Option Nat) (s : Nat), fx h h1 [] [62, 63, 64, 65] → dn h h1 → mTk h1 no t → mMt h1 na w → cns na no w t → mtc fit first j F no t → (∀ t, mtc fit first j F no t → msz no t ≤ s) → msz no t = s → w_p (1 + 1) (9, 5, mc_X9_most) 53 [(0, .ref 44), (1, .int (nI first)), (2, .int out), (3, .int (nI s)), (4, .int (nI j))] [] h1 Q := by
    intro m
    induction m with
    | zero =>
      intro j hj hfj h1 t w s f d Tk Mt hc m1 m2 m3
      have C1 := C.fx f (by decide) (by decide)
      have ej : j = na := by omega
      subst ej
      refine t_X9_most_53 (f.sh sh (by decide)) _ _ _ _ (K53 := fun _ _ _ _ _ => False) (fun _ _ _ _ _ z => z.elim) ⟨fun _ => ?_, fun c => absurd ?_ c⟩
      · rw [← mN_eq (s := s) ⟨⟨t, m1, m3⟩, m2⟩]
        exact k h1 f d
      · rw [C1.2.1, i_le (by omega) (by omega)]
        exact Nat.le_refl _
    | succ m ih =>
      intro j hj hfj h1 t w s f d Tk Mt hc m1 m2 m3
      have C1 := C.fx f (by decide) (by decide)
      refine t_X9_most_53 (f.sh sh (by decide)) _ _ _ _ (K53 := fun x1 x2 x3 x4 hh => x1 = nI first ∧ x2 = out ∧ x4 = nI (j + 1) ∧ ∃ t w s, x3 = nI s ∧ fx h hh [] [62, 63, 64, 65] ∧ dn h hh ∧ mTk hh no t ∧ mMt hh na w ∧ cns na no w t ∧ mtc fit first (j + 1) F no t ∧ (∀ t, mtc fit first (j + 1) F no t → msz no t ≤ s) ∧ msz no t = s) (fun x1 x2 x3 x4 hh q => ?_) ⟨fun c => ?_, fun _ => ?_⟩
      · obtain ⟨rfl, rfl, rfl, t2, w2, s2, rfl, q1, q2, q3, q4, q5, q6, q7, q8⟩ := q
        exact ih (j + 1) (by omega) (by omega) hh t2 w2 s2 q1 q2 q3 q4 q5 q6 q7 q8
      · rw [C1.2.1, i_le (by omega) (by omega)] at c
        omega
      · refine m_grows (f.sh sh (by decide)) C1 (Ft.fx f (by decide)) Tk Mt hc m1 hF m3 (by omega) hfj (fun h3 f3 d3 k1 k2 k3 => ?_) (fun h3 t2 w2 f3 d3 k1 k2 k3 k4 k5 => ?_)
        · have f4 : fx h h3 [] [62, 63, 64, 65] := f.tr f3 (by decide) (by decide) (by decide) (by decide)
          obtain ⟨V, T, v1, v2, v3⟩ := k3
          have mm := mx_no m1 m2 m3 V T v1 v2 v3
          exact ⟨0, rfl, f4.sh sh (by decide), fun _ => ⟨rfl, rfl, nI_1 j, t, w, s, Int32.add_zero _, f4, d.tr d3, k1, k2, hc, mm.1, mm.2, m3⟩, fun z => absurd rfl z⟩
        · have f4 : fx h h3 [] [62, 63, 64, 65] := f.tr f3 (by decide) (by decide) (by decide) (by decide)
          exact ⟨1, rfl, f4.sh sh (by decide), fun z => absurd z (by decide), fun _ => ⟨rfl, rfl, nI_1 j, t2, w2, s + 1, nI_1 s, f4, d.tr d3, k1, k2, k3, k4, mx_yes m2 k4 k5, k5⟩⟩
  have loop2 : ∀ m j, j + m = no → ∀ (h1 : mm_H), fx h h1 [] [62, 63, 64, 65] → dn h h1 → (∀ a, a < na → h_ai h1 62 a = -4) → (∀ o, o < j → h_ai h1 63 o = -4) → w_p (1 + 1) (9, 5, mc_X9_most) 26 [(0, .ref 44), (1, .int (nI first)), (2, .int out), (3, .int (nI j))] [] h1 Q := by
    intro m
    induction m with
    | zero =>
      intro j hj h1 f d r1 r2
      have C1 := C.fx f (by decide) (by decide)
      refine t_X9_most_26 (f.sh sh (by decide)) _ _ _ (K26 := fun _ _ _ _ => False) (fun _ _ _ _ z => z.elim) (K53 := fun x1 x2 x3 x4 hh => x1 = nI first ∧ x2 = out ∧ x3 = nI 0 ∧ x4 = nI first ∧ hh = h1) (fun x1 x2 x3 x4 hh q => ?_) ⟨fun _ => ⟨rfl, rfl, rfl, rfl, rfl⟩, fun c => absurd ?_ c⟩
      · obtain ⟨rfl, rfl, rfl, rfl, rfl⟩ := q
        have m0 := mx_0 (fit := fit) (lo := first) (F := F) (no := no)
        exact loop3 (na - first) first (by omega) (Nat.le_refl _) hh (fun _ => none) (fun _ => none) 0 f d (fun o ho => r2 o (by omega)) (fun a ha => r1 a ha) ⟨fun a _ o e => (by cases e), fun o _ a e => (by cases e)⟩ m0.2.1 m0.1.2 m0.2.2
      · rw [C1.2.2, i_le (by omega) (by omega)]
        omega
    | succ m ih =>
      intro j hj h1 f d r1 r2
      have C1 := C.fx f (by decide) (by decide)
      refine t_X9_most_26 (f.sh sh (by decide)) _ _ _ (K26 := fun x1 x2 x3 hh => x1 = nI first ∧ x2 = out ∧ x3 = nI (j + 1) ∧ fx h hh [] [62, 63, 64, 65] ∧ dn h hh ∧ (∀ a, a < na → h_ai hh 62 a = -4) ∧ (∀ o, o < j + 1 → h_ai hh 63 o = -4)) (fun x1 x2 x3 hh q => ?_) (K53 := fun _ _ _ _ _ => False) (fun _ _ _ _ _ z => z.elim) ⟨fun c => ?_, fun _ => ⟨vp_in_nI (by omega) (by decide), rfl, rfl, nI_1 j, f.sA _ _ (by decide), d.sA _ _ (by decide), fun a ha => r1 a ha, fun o ho => ?_⟩⟩
      · obtain ⟨rfl, rfl, rfl, q1, q2, q3, q4⟩ := q
        exact ih (j + 1) (by omega) hh q1 q2 q3 q4
      · rw [C1.2.2, i_le (by omega) (by omega)] at c
        omega
      · show va_up (h_ai h1 63) (nI j).toNatClampNeg (-4) o = -4
        rw [i_cl (by omega)]
        by_cases z : o = j
        · rw [z, va_up_self]
        · rw [va_up_ne _ _ z]; exact r2 o (by omega)
  have loop1 : ∀ m j, j + m = na → ∀ (h1 : mm_H), fx h h1 [] [62, 63, 64, 65] → dn h h1 → (∀ a, a < j → h_ai h1 62 a = -4) → w_p (1 + 1) (9, 5, mc_X9_most) 2 [(0, .ref 44), (1, .int (nI first)), (2, .int out), (3, .int (nI j))] [] h1 Q := by
    intro m
    induction m with
    | zero =>
      intro j hj h1 f d r
      have C1 := C.fx f (by decide) (by decide)
      refine t_X9_most_2 (f.sh sh (by decide)) _ _ _ (K2 := fun _ _ _ _ => False) (fun _ _ _ _ z => z.elim) (K26 := fun x1 x2 x3 hh => x1 = nI first ∧ x2 = out ∧ x3 = nI 0 ∧ hh = h1) (fun x1 x2 x3 hh q => ?_) ⟨fun _ => ⟨rfl, rfl, rfl, rfl⟩, fun c => absurd ?_ c⟩
      · obtain ⟨rfl, rfl, rfl, rfl⟩ := q
        exact loop2 no 0 (by omega) hh f d (fun a ha => r a (by omega)) (fun o ho => by omega)
      · rw [C1.2.1, i_le (by omega) (by omega)]
        omega
    | succ m ih =>
      intro j hj h1 f d r
      have C1 := C.fx f (by decide) (by decide)
      refine t_X9_most_2 (f.sh sh (by decide)) _ _ _ (K2 := fun x1 x2 x3 hh => x1 = nI first ∧ x2 = out ∧ x3 = nI (j + 1) ∧ fx h hh [] [62, 63, 64, 65] ∧ dn h hh ∧ (∀ a, a < j + 1 → h_ai hh 62 a = -4)) (fun x1 x2 x3 hh q => ?_) (K26 := fun _ _ _ _ => False) (fun _ _ _ _ z => z.elim) ⟨fun c => ?_, fun _ => ⟨vp_in_nI (by omega) (by decide), rfl, rfl, nI_1 j, f.sA _ _ (by decide), d.sA _ _ (by decide), fun o ho => ?_⟩⟩
      · obtain ⟨rfl, rfl, rfl, q1, q2, q3⟩ := q
        exact ih (j + 1) (by omega) hh q1 q2 q3
      · rw [C1.2.1, i_le (by omega) (by omega)] at c
        omega
      · show va_up (h_ai h1 62) (nI j).toNatClampNeg (-4) o = -4
        rw [i_cl (by omega)]
        by_cases z : o = j
        · rw [z, va_up_self]
        · rw [va_up_ne _ _ z]; exact r o (by omega)
  refine t_X9_most_0 (D := 1) sh _ _ (K2 := fun x1 x2 x3 hh => x1 = nI first ∧ x2 = out ∧ x3 = nI 0 ∧ hh = h) (fun x1 x2 x3 hh q => ?_) ⟨rfl, rfl, rfl, rfl⟩
  obtain ⟨rfl, rfl, rfl, rfl⟩ := q
  exact loop1 na 0 (by omega) hh (fx.rf _ _ _) (dn.rf _) (fun o ho => by omega)
def mGm (h : mm_H) (na : Nat) (g : Nat → Option Nat) : Prop := ∀ a, a < na → h_ai h 66 a = oN (g a)
theorem mGm.fx {h h' : mm_H} {gs : List (Nat × Nat)} {as : List Nat} {na : Nat} {g : Nat → Option Nat} (H : mGm h na g) (f : fx h h' gs as) (n1 : 66 ∉ as) : mGm h' na g := by
  unfold mGm at H ⊢
  rw [f.ai 66 (by decide) n1]
  exact H
set_option maxHeartbeats 2000000 in
theorem m_matchL {h : mm_H} {Q : Option Value → mm_H → Prop} {na no D : Nat} {fit : Nat → Nat → Bool} (hD : 2 ≤ D) (sh : s_h h) (C : mC h na no) (Ft : mF h na no fit) (k : ∀ h', fx h h' [] [62, 63, 64, 65, 66] → dn h h' → mGm h' na (mg fit na no) → Q (some (.int (nI (mA fit na no)))) h') : w_p (D + 1) (9, 6, mc_X9_matches) 27 [(0, .ref 44), (1, .int (nI (mA fit na no))), (2, .int (nI 0)), (3, .int 0), (4, .int (nI 0))] [] h Q := by
  obtain ⟨hna, hno⟩ := C.1
  have hA : mA fit na no ≤ no := mN_le
  have loop : ∀ m j, j + m = na → ∀ (h1 : mm_H) (out : Int32), fx h h1 [] [62, 63, 64, 65, 66] → dn h h1 → (∀ o, o < no → bt out o = !(mst fit na no (mA fit na no) j).1 o) → (∀ a, a < j → h_ai h1 66 a = oN (mg fit na no a)) → w_p (D + 1) (9, 6, mc_X9_matches) 27 [(0, .ref 44), (1, .int (nI (mA fit na no))), (2, .int (nI (mst fit na no (mA fit na no) j).2)), (3, .int out), (4, .int (nI j))] [] h1 Q := by
    intro m
    induction m with
    | zero =>
      intro j hj h1 out f d hF g1
      have C1 := C.fx f (by decide) (by decide)
      refine t_X9_matches_27 (f.sh sh (by decide)) _ _ _ _ (K48 := fun _ _ _ _ _ _ => False) (fun _ _ _ _ _ _ z => z.elim) ⟨fun _ => k h1 f d (fun a ha => g1 a (by omega)), fun c => absurd ?_ c⟩
      rw [C1.2.1, i_le (by omega) (by omega)]
      omega
    | succ m ih =>
      intro j hj h1 out f d hF g1
      have C1 := C.fx f (by decide) (by decide)
      have hmd := mst_le fit na no (mA fit na no) j
      have hv : vp_in (nI j) 10 := vp_in_nI (by omega) (by decide)
      have ecl : (nI j).toNatClampNeg = j := i_cl (by omega)
      have found : ∀ i, i ≤ no → ∀ (h2 : mm_H) (out2 : Int32), fx h h2 [] [62, 63, 64, 65, 66] → dn h h2 → (∀ o, o < no → bt out2 o = !(mst fit na no (mA fit na no) (j + 1)).1 o) → (∀ a, a < j + 1 → h_ai h2 66 a = oN (mg fit na no a)) → (i < no → mg fit na no j ≠ none) → w_p (D + 1) (9, 6, mc_X9_matches) 48 [(0, .ref 44), (1, .int (nI (mA fit na no))), (2, .int (nI (mst fit na no (mA fit na no) (j + 1)).2)), (3, .int out2), (4, .int (nI j)), (5, .int (nI i))] [] h2 Q := by
        intro i hi h2 out2 f2 d2 hF2 g2 hnn
        have C2 := C.fx f2 (by decide) (by decide)
        refine t_X9_matches_48 (f2.sh sh (by decide)) _ _ _ _ _ (K27 := fun x1 x2 x3 x4 hh => x1 = nI (mA fit na no) ∧ x2 = nI (mst fit na no (mA fit na no) (j + 1)).2 ∧ x3 = out2 ∧ x4 = nI (j + 1) ∧ hh = h2) (fun x1 x2 x3 x4 hh q => ?_) (K48 := fun _ _ _ _ _ _ => False) (fun _ _ _ _ _ _ z => z.elim) ⟨fun _ => ⟨rfl, rfl, rfl, nI_1 j, rfl⟩, fun c => ⟨hv, fun _ => ⟨rfl, rfl, rfl, nI_1 j, rfl⟩, fun c2 => ?_⟩⟩
        · obtain ⟨rfl, rfl, rfl, rfl, rfl⟩ := q
          exact ih (j + 1) (by omega) hh x3 f2 d2 hF2 g2
        · rw [C2.2.2, i_le (by omega) (by omega)] at c
          rw [ecl, g2 j (by omega)] at c2
          cases e : mg fit na no j with
          | none => exact absurd e (hnn (by omega))
          | some o =>
            rw [e] at c2
            exact absurd c2 (oN_ne o (by have := mg_lt e; omega))
      have inner : ∀ m2 i, i + m2 = no → ∀ (h2 : mm_H), fx h h2 [] [62, 63, 64, 65, 66] → dn h h2 → (∀ a, a < j → h_ai h2 66 a = oN (mg fit na no a)) → h_ai h2 66 j = -4 → (∀ i', i' < i → mpk fit na no (mA fit na no) j (mst fit na no (mA fit na no) j).1 (mst fit na no (mA fit na no) j).2 i' = false) → w_p (D + 1) (9, 6, mc_X9_matches) 48 [(0, .ref 44), (1, .int (nI (mA fit na no))), (2, .int (nI (mst fit na no (mA fit na no) j).2)), (3, .int out), (4, .int (nI j)), (5, .int (nI i))] [] h2 Q := by
        intro m2
        induction m2 with
        | zero =>
          intro i hi h2 f2 d2 g2 g3 r
          have en : mg fit na no j = none := mpick_none (fun i' hi' => r i' (by omega))
          have em := mg_none en
          have := found i (by omega) h2 out f2 d2 (by rw [em]; exact hF) (fun a ha => by
            by_cases z : a = j
            · rw [z, g3, en]; rfl
            · exact g2 a (by omega)) (fun z => by omega)
          rw [em] at this
          exact this
        | succ m2 ih2 =>
          intro i hi h2 f2 d2 g2 g3 r
          have C2 := C.fx f2 (by decide) (by decide)
          have Ft2 := Ft.fx f2 (by decide)
          refine t_X9_matches_48 (f2.sh sh (by decide)) _ _ _ _ _ (K27 := fun _ _ _ _ _ => False) (fun _ _ _ _ _ z => z.elim) (K48 := fun x1 x2 x3 x4 x5 hh => x1 = nI (mA fit na no) ∧ x4 = nI j ∧ x5 = nI (i + 1) ∧ fx h hh [] [62, 63, 64, 65, 66] ∧ dn h hh ∧ ((x2 = nI (mst fit na no (mA fit na no) j).2 ∧ x3 = out ∧ (∀ a, a < j → h_ai hh 66 a = oN (mg fit na no a)) ∧ h_ai hh 66 j = -4 ∧ (∀ i', i' < i + 1 → mpk fit na no (mA fit na no) j (mst fit na no (mA fit na no) j).1 (mst fit na no (mA fit na no) j).2 i' = false)) ∨ (x2 = nI (mst fit na no (mA fit na no) (j + 1)).2 ∧ (∀ o, o < no → bt x3 o = !(mst fit na no (mA fit na no) (j + 1)).1 o) ∧ (∀ a, a < j + 1 → h_ai hh 66 a = oN (mg fit na no a)) ∧ mg fit na no j ≠ none))) (fun x1 x2 x3 x4 x5 hh q => ?_) ⟨fun c => ?_, fun c => ⟨hv, fun c2 => ?_, fun _ => ?_⟩⟩
          · obtain ⟨rfl, rfl, rfl, q1, q2, (⟨rfl, rfl, q3, q4, q5⟩ | ⟨rfl, q3, q4, q5⟩)⟩ := q
            · exact ih2 (i + 1) (by omega) hh q1 q2 q3 q4 q5
            · exact found (i + 1) (by omega) hh x3 q1 q2 q3 q4 (fun _ => q5)
          · rw [C2.2.2, i_le (by omega) (by omega)] at c
            omega
          · rw [ecl] at c2
            exact absurd g3 c2
          · rw [e10, i_cl (a := 10 * j + i) (by omega), Ft2 j (by omega) i (by omega)]
            have stay : mpk fit na no (mA fit na no) j (mst fit na no (mA fit na no) j).1 (mst fit na no (mA fit na no) j).2 i = false → ∀ i', i' < i + 1 → mpk fit na no (mA fit na no) j (mst fit na no (mA fit na no) j).1 (mst fit na no (mA fit na no) j).2 i' = false := fun z i' hi' => by
              by_cases y : i' = i
              · rw [y]; exact z
              · exact r i' (by omega)
            refine ⟨vp_in_nI (by omega) (by decide), fun c => ⟨rfl, rfl, nI_1 i, f2, d2, Or.inl ⟨rfl, rfl, g2, g3, stay ?_⟩⟩, fun c => ?_⟩
            · cases e : fit j i with
              | true => rw [e] at c; exact absurd c (by decide)
              | false => unfold mpk; rw [e]; rfl
            · have hf : fit j i = true := by
                cases e : fit j i with
                | true => rfl
                | false => rw [e] at c; exact absurd rfl c
              rw [bit_sh _ (by omega), hF i (by omega)]
              refine ⟨fun c => ⟨rfl, rfl, nI_1 i, f2, d2, Or.inl ⟨rfl, rfl, g2, g3, stay ?_⟩⟩, fun c => ?_⟩
              · cases e : (mst fit na no (mA fit na no) j).1 i with
                | true => rw [e] at c; exact absurd rfl c
                | false => unfold mpk; rw [e, hf]; rfl
              · have hFi : (mst fit na no (mA fit na no) j).1 i = true := by
                  cases e : (mst fit na no (mA fit na no) j).1 i with
                  | true => rfl
                  | false => rw [e] at c; cases c
                rw [nI_1 j]
                have hF' : ∀ o, o < no → bt (out ||| ((1 : Int32) <<< (nI i &&& 31))) o = !(va_up (mst fit na no (mA fit na no) j).1 i false) o := fun o ho => by
                  rw [b_or, bt_1 (by omega), hF o ho]
                  by_cases z : o = i
                  · rw [z, va_up_self]; simp
                  · rw [va_up_ne _ _ z]; simp [z]
                refine (m_most (F := va_up (mst fit na no (mA fit na no) j).1 i false) (f2.sh sh (by decide)) C2 Ft2 (by omega) hF' (fun h3 f3 d3 => ?_)).up hD
                have f4 : fx h h3 [] [62, 63, 64, 65, 66] := f2.tr f3 (by decide) (by decide) (by decide) (by decide)
                have e66 : h_ai h3 66 = h_ai h2 66 := f3.ai 66 (by decide) (by decide)
                have hr : mN fit (j + 1) na (va_up (mst fit na no (mA fit na no) j).1 i false) no ≤ no := mN_le
                refine ⟨_, rfl, f4.sh sh (by decide), fun c3 => ⟨rfl, rfl, nI_1 i, f4, d2.tr d3, Or.inl ⟨rfl, rfl, fun a ha => by rw [e66]; exact g2 a ha, by rw [e66]; exact g3, stay ?_⟩⟩, fun c3 => ?_⟩
                · cases e : mpk fit na no (mA fit na no) j (mst fit na no (mA fit na no) j).1 (mst fit na no (mA fit na no) j).2 i with
                  | false => rfl
                  | true =>
                    have := (mpk_md e).2.2
                    rw [nI_1, nI_add, this] at c3
                    exact absurd rfl c3
                · rw [nI_1, nI_add, nI_eqI (by omega) (by omega)] at c3
                  have hp : mg fit na no j = some i := mpick_some (by omega) (mpk_eq.mpr ⟨⟨hf, hFi⟩, c3⟩) r
                  refine ⟨hv, rfl, rfl, nI_1 i, f4.sA _ _ (by decide), (d2.tr d3).sA _ _ (by decide), Or.inr ⟨?_, ?_, fun a ha => ?_, by rw [hp]; exact fun z => by cases z⟩⟩
                  · rw [mg_some hp, nI_1]
                  · rw [mg_some hp]
                    exact hF'
                  · show va_up (h_ai h3 66) (nI j).toNatClampNeg (nI i) a = _
                    rw [ecl]
                    by_cases z : a = j
                    · rw [z, va_up_self, hp]; rfl
                    · rw [va_up_ne _ _ z, e66]; exact g2 a (by omega)
      refine t_X9_matches_27 (f.sh sh (by decide)) _ _ _ _ (K48 := fun x1 x2 x3 x4 x5 hh => x1 = nI (mA fit na no) ∧ x2 = nI (mst fit na no (mA fit na no) j).2 ∧ x3 = out ∧ x4 = nI j ∧ x5 = nI 0 ∧ hh = h_sA h1 66 j (-4)) (fun x1 x2 x3 x4 x5 hh q => ?_) ⟨fun c => ?_, fun _ => ⟨hv, rfl, rfl, rfl, rfl, rfl, by rw [ecl]⟩⟩
      · obtain ⟨rfl, rfl, rfl, rfl, rfl, rfl⟩ := q
        refine inner no 0 (by omega) _ (f.sA _ _ (by decide)) (d.sA _ _ (by decide)) (fun a ha => ?_) (va_up_self _ _ _) (fun i' hi' => by omega)
        show va_up (h_ai h1 66) j (-4) a = _
        rw [va_up_ne _ _ (by omega)]
        exact g1 a ha
      · rw [C1.2.1, i_le (by omega) (by omega)] at c
        omega
  exact loop na 0 (by omega) h 0 (fx.rf _ _ _) (dn.rf _) (fun o ho => b_0 o) (fun a ha => by omega)
end
section
theorem sub_mask {m x : Int32} (h : ∀ i, i < 32 → bt x i = true → bt m i = true) : m - x = m &&& (x ^^^ (-1)) := by
  have e : (m &&& (x ^^^ (-1))) + x = m := by
    apply Int32.toBitVec_inj.mp
    show (m &&& (x ^^^ (-1))).toBitVec + x.toBitVec = m.toBitVec
    have z : (m &&& (x ^^^ (-1))).toBitVec &&& x.toBitVec = 0#32 := by
      have : ((m &&& (x ^^^ (-1))) &&& x) = 0 := b_ext fun i hi => by
        rw [b_and, b_and, bt_not _ hi, b_0]
        cases bt x i <;> simp
      exact congrArg Int32.toBitVec this
    rw [BitVec.add_eq_or_of_and_eq_zero _ _ z]
    have : ((m &&& (x ^^^ (-1))) ||| x) = m := b_ext fun i hi => by
      rw [b_or, b_and, bt_not _ hi]
      have := h i hi
      cases e1 : bt x i <;> cases e2 : bt m i <;> simp [e1, e2] at this ⊢
    exact congrArg Int32.toBitVec this
  have e2 : ((m &&& (x ^^^ (-1))) + x) - x = m &&& (x ^^^ (-1)) := Int32.add_sub_cancel _ _
  rw [e] at e2
  exact e2
theorem or0 (x : Int32) : x ||| 0 = x := b_ext fun i hi => by rw [b_or, b_0, Bool.or_false]
set_option maxHeartbeats 2000000 in
theorem m_whyL {h : mm_H} {Q : Option Value → mm_H → Prop} {na no D : Nat} {fit : Nat → Nat → Bool} {g : Nat → Option Nat} {what : Int32} (sh : s_h h) (C : mC h na no) (Ft : mF h na no fit) (Gm : mGm h na g) (hg : ∀ k o, g k = some o → o < no) (k0 : ¬ what = 1 → ∀ x, rB x (fun i => i < na ∧ ¬ (rch fit g na no (na + 1)).1 i) → Q (some (.int x)) h) (k1 : what = 1 → ∀ x, rB x (rch fit g na no (na + 1)).2 → Q (some (.int x)) h) : w_p (D + 1) (9, 7, mc_X9_why) 24 [(0, .ref 44), (1, .int what), (2, .int 0), (3, .int 0), (4, .int (nI 0))] [] h Q := by
  obtain ⟨hna, hno⟩ := C.1
  have rounds : ∀ m t, t + m = 20 → ∀ (ax ox : Int32), rB ax (rch fit g na no t).1 → rB ox (rch fit g na no t).2 → w_p (D + 1) (9, 7, mc_X9_why) 65 [(0, .ref 44), (1, .int what), (2, .int ax), (3, .int ox), (4, .int (nI t))] [] h Q := by
    intro m
    induction m with
    | zero =>
      intro t ht ax ox b1 b2
      have et : t = 20 := by omega
      subst et
      rw [rch_fin (n := 20) (by omega)] at b1 b2
      refine t_X9_why_65 sh _ _ _ _ (K75 := fun _ _ _ _ _ _ => False) (fun _ _ _ _ _ _ z => z.elim) ⟨fun _ => ⟨fun c => ?_, fun c => k1 c _ b2⟩, fun c => absurd ?_ c⟩
      · refine k0 c _ (fun i hi => ?_)
        rw [C.2.1, sub_mask, b_and, bt_not _ hi, bt_all na hna i hi, Bool.and_eq_true, decide_eq_true_eq]
        · have := b1 i hi
          cases e : bt ax i <;> simp [e] at this ⊢ <;> simp [this]
        · intro j hj y
          rw [bt_all na hna j hj]
          exact decide_eq_true ((rch_lt _).1 j ((b1 j hj).mp y))
      · decide
    | succ m ih =>
      intro t ht ax ox b1 b2
      have last : ∀ m j, j + m = na → ∀ (ax2 ox2 : Int32), rB ax2 (rA1 g j (rch fit g na no t).1 (rch fit g na no (t + 1)).2) → rB ox2 (rch fit g na no (t + 1)).2 → w_p (D + 1) (9, 7, mc_X9_why) 148 [(0, .ref 44), (1, .int what), (2, .int ax2), (3, .int ox2), (4, .int (nI t)), (5, .int (nI j))] [] h Q := by
        intro m
        induction m with
        | zero =>
          intro j hj ax2 ox2 c1 c2
          have ej : j = na := by omega
          subst ej
          refine t_X9_why_148 sh _ _ _ _ _ (K65 := fun x1 x2 x3 x4 hh => x1 = what ∧ x2 = ax2 ∧ x3 = ox2 ∧ x4 = nI (t + 1) ∧ hh = h) (fun x1 x2 x3 x4 hh q => ?_) (K148 := fun _ _ _ _ _ _ => False) (fun _ _ _ _ _ _ z => z.elim) ⟨fun _ => ⟨rfl, rfl, rfl, nI_1 t, rfl⟩, fun c => absurd ?_ c⟩
          · obtain ⟨rfl, rfl, rfl, rfl, rfl⟩ := q
            exact ih (t + 1) (by omega) _ _ c1 c2
          · rw [C.2.1, i_le (by omega) (by omega)]
            exact Nat.le_refl _
        | succ m ih2 =>
          intro j hj ax2 ox2 c1 c2
          have hv : vp_in (nI j) 10 := vp_in_nI (by omega) (by decide)
          refine t_X9_why_148 sh _ _ _ _ _ (K65 := fun _ _ _ _ _ => False) (fun _ _ _ _ _ z => z.elim) (K148 := fun x1 x2 x3 x4 x5 hh => x1 = what ∧ rB x2 (rA1 g (j + 1) (rch fit g na no t).1 (rch fit g na no (t + 1)).2) ∧ x3 = ox2 ∧ x4 = nI t ∧ x5 = nI (j + 1) ∧ hh = h) (fun x1 x2 x3 x4 x5 hh q => ?_) ⟨fun c => ?_, fun _ => ⟨hv, ?_⟩⟩
          · obtain ⟨rfl, q1, rfl, rfl, rfl, rfl⟩ := q
            exact ih2 (j + 1) (by omega) _ _ q1 c2
          · rw [C.2.1, i_le (by omega) (by omega)] at c
            omega
          · rw [i_cl (by omega), Gm j (by omega), or0]
            have same : (¬ ∃ o, g j = some o ∧ (rch fit g na no (t + 1)).2 o) → rB ax2 (rA1 g (j + 1) (rch fit g na no t).1 (rch fit g na no (t + 1)).2) := fun z => c1.cong fun i hi => ⟨fun y => y.elim Or.inl (fun w => Or.inr ⟨by omega, w.2⟩), fun y => y.elim Or.inl (fun w => Or.inr ⟨by
              have : i ≠ j := fun e => z (by rw [← e]; exact w.2)
              omega, w.2⟩)⟩
            cases e : g j with
            | none => exact ⟨fun _ => ⟨rfl, same (fun ⟨o, eo, _⟩ => by rw [e] at eo; cases eo), rfl, rfl, nI_1 j, rfl⟩, fun z => absurd rfl z⟩
            | some o =>
              have ho := hg j o e
              refine ⟨fun z => absurd z (oN_ne o (by omega)), fun _ => ⟨hv, ?_⟩⟩
              show (¬ (ox2 >>> (nI o &&& 31)) &&& 1 = 1 → _) ∧ ((ox2 >>> (nI o &&& 31)) &&& 1 = 1 → _)
              rw [bit_sh1 _ (by omega)]
              refine ⟨fun c => ⟨rfl, same (fun ⟨o2, eo, w⟩ => ?_), rfl, rfl, nI_1 j, rfl⟩, fun c => ⟨rfl, ?_, rfl, rfl, nI_1 j, rfl⟩⟩
              · rw [e] at eo
                cases eo
                exact c ((c2 o (by omega)).mpr w)
              · refine (c1.or1 (k := j) (by omega)).cong fun i hi => ⟨fun y => ?_, fun y => ?_⟩
                · rcases y with y | rfl
                  · exact y.elim Or.inl (fun w => Or.inr ⟨by omega, w.2⟩)
                  · exact Or.inr ⟨by omega, o, e, (c2 o (by omega)).mp c⟩
                · rcases y with y | ⟨y1, y2⟩
                  · exact Or.inl (Or.inl y)
                  · by_cases w : i = j
                    · exact Or.inr w
                    · exact Or.inl (Or.inr ⟨by omega, y2⟩)
      have mid : ∀ m j, j + m = na → ∀ (ox2 : Int32), rB ox2 (rO1 fit j no (rch fit g na no t).1 (rch fit g na no t).2) → w_p (D + 1) (9, 7, mc_X9_why) 75 [(0, .ref 44), (1, .int what), (2, .int ax), (3, .int ox2), (4, .int (nI t)), (5, .int (nI j))] [] h Q := by
        intro m
        induction m with
        | zero =>
          intro j hj ox2 c2
          have ej : j = na := by omega
          subst ej
          refine t_X9_why_75 sh _ _ _ _ _ (K87 := fun _ _ _ _ _ _ _ => False) (fun _ _ _ _ _ _ _ z => z.elim) (K148 := fun x1 x2 x3 x4 x5 hh => x1 = what ∧ x2 = ax ∧ x3 = ox2 ∧ x4 = nI t ∧ x5 = nI 0 ∧ hh = h) (fun x1 x2 x3 x4 x5 hh q => ?_) ⟨fun _ => ⟨rfl, rfl, rfl, rfl, rfl, rfl⟩, fun c => absurd ?_ c⟩
          · obtain ⟨rfl, rfl, rfl, rfl, rfl, rfl⟩ := q
            exact last j 0 (by omega) _ _ (b1.cong fun i hi => ⟨Or.inl, fun y => y.elim (fun w => w) (fun w => by omega)⟩) c2
          · rw [C.2.1, i_le (by omega) (by omega)]
            exact Nat.le_refl _
        | succ m ih2 =>
          intro j hj ox2 c2
          have inner : ∀ m2 i, i + m2 = no → ∀ (ox3 : Int32), rB ox3 (fun o => rO1 fit j no (rch fit g na no t).1 (rch fit g na no t).2 o ∨ (o < i ∧ (rch fit g na no t).1 j ∧ fit j o = true)) → w_p (D + 1) (9, 7, mc_X9_why) 87 [(0, .ref 44), (1, .int what), (2, .int ax), (3, .int ox3), (4, .int (nI t)), (5, .int (nI j)), (6, .int (nI i))] [] h Q := by
            intro m2
            induction m2 with
            | zero =>
              intro i hi ox3 c3
              refine t_X9_why_87 sh _ _ _ _ _ _ (K75 := fun x1 x2 x3 x4 x5 hh => x1 = what ∧ x2 = ax ∧ x3 = ox3 ∧ x4 = nI t ∧ x5 = nI (j + 1) ∧ hh = h) (fun x1 x2 x3 x4 x5 hh q => ?_) (K87 := fun _ _ _ _ _ _ _ => False) (fun _ _ _ _ _ _ _ z => z.elim) ⟨fun _ => ⟨rfl, rfl, rfl, rfl, nI_1 j, rfl⟩, fun c => absurd ?_ c⟩
              · obtain ⟨rfl, rfl, rfl, rfl, rfl, rfl⟩ := q
                refine ih2 (j + 1) (by omega) _ (c3.cong fun o ho => ⟨fun y => ?_, fun y => ?_⟩)
                · rcases y with (y | ⟨w1, w, w2, w3, w4⟩) | ⟨y1, y2, y3⟩
                  · exact Or.inl y
                  · exact Or.inr ⟨w1, w, by omega, w3, w4⟩
                  · exact Or.inr ⟨by omega, j, by omega, y2, y3⟩
                · rcases y with y | ⟨w1, w, w2, w3, w4⟩
                  · exact Or.inl (Or.inl y)
                  · by_cases z : w = j
                    · rw [z] at w3 w4
                      exact Or.inr ⟨by omega, w3, w4⟩
                    · exact Or.inl (Or.inr ⟨w1, w, by omega, w3, w4⟩)
              · rw [C.2.2, i_le (by omega) (by omega)]
                omega
            | succ m2 ih3 =>
              intro i hi ox3 c3
              refine t_X9_why_87 sh _ _ _ _ _ _ (K75 := fun _ _ _ _ _ _ => False) (fun _ _ _ _ _ _ z => z.elim) (K87 := fun x1 x2 x3 x4 x5 x6 hh => x1 = what ∧ x2 = ax ∧ rB x3 (fun o => rO1 fit j no (rch fit g na no t).1 (rch fit g na no t).2 o ∨ (o < i + 1 ∧ (rch fit g na no t).1 j ∧ fit j o = true)) ∧ x4 = nI t ∧ x5 = nI j ∧ x6 = nI (i + 1) ∧ hh = h) (fun x1 x2 x3 x4 x5 x6 hh q => ?_) ⟨fun c => ?_, fun _ => ?_⟩
              · obtain ⟨rfl, rfl, q1, rfl, rfl, rfl, rfl⟩ := q
                exact ih3 (i + 1) (by omega) _ q1
              · rw [C.2.2, i_le (by omega) (by omega)] at c
                omega
              · rw [bit_sh1 _ (by omega), e10, i_cl (a := 10 * j + i) (by omega), Ft j (by omega) i (by omega), or0]
                have same : ¬ ((rch fit g na no t).1 j ∧ fit j i = true) → rB ox3 (fun o => rO1 fit j no (rch fit g na no t).1 (rch fit g na no t).2 o ∨ (o < i + 1 ∧ (rch fit g na no t).1 j ∧ fit j o = true)) := fun z => c3.cong fun o ho => ⟨fun y => y.elim Or.inl (fun w => Or.inr ⟨by omega, w.2⟩), fun y => y.elim Or.inl (fun w => Or.inr ⟨by
                  have : o ≠ i := fun e => z (by rw [← e]; exact w.2)
                  omega, w.2⟩)⟩
                refine ⟨fun c => ⟨rfl, rfl, same (fun z => c ((b1 j (by omega)).mpr z.1)), rfl, rfl, nI_1 i, rfl⟩, fun c => ⟨vp_in_nI (by omega) (by decide), fun c4 => ⟨rfl, rfl, same (fun z => ?_), rfl, rfl, nI_1 i, rfl⟩, fun c4 => ⟨rfl, rfl, ?_, rfl, rfl, nI_1 i, rfl⟩⟩⟩
                · rw [z.2, if_pos rfl] at c4
                  exact absurd c4 (by decide)
                · have hf : fit j i = true := by
                    cases e : fit j i with
                    | true => rfl
                    | false => rw [e] at c4; exact absurd rfl c4
                  refine (c3.or1 (k := i) (by omega)).cong fun o ho => ⟨fun y => ?_, fun y => ?_⟩
                  · rcases y with (y | y) | rfl
                    · exact Or.inl y
                    · exact Or.inr ⟨by omega, y.2⟩
                    · exact Or.inr ⟨by omega, (b1 j (by omega)).mp c, hf⟩
                  · rcases y with y | y
                    · exact Or.inl (Or.inl y)
                    · by_cases z : o = i
                      · exact Or.inr z
                      · exact Or.inl (Or.inr ⟨by omega, y.2⟩)
          refine t_X9_why_75 sh _ _ _ _ _ (K87 := fun x1 x2 x3 x4 x5 x6 hh => x1 = what ∧ x2 = ax ∧ x3 = ox2 ∧ x4 = nI t ∧ x5 = nI j ∧ x6 = nI 0 ∧ hh = h) (fun x1 x2 x3 x4 x5 x6 hh q => ?_) (K148 := fun _ _ _ _ _ _ => False) (fun _ _ _ _ _ _ z => z.elim) ⟨fun c => ?_, fun _ => ⟨rfl, rfl, rfl, rfl, rfl, rfl, rfl⟩⟩
          · obtain ⟨rfl, rfl, rfl, rfl, rfl, rfl, rfl⟩ := q
            exact inner no 0 (by omega) _ (c2.cong fun o ho => ⟨Or.inl, fun y => y.elim (fun w => w) (fun w => by omega)⟩)
          · rw [C.2.1, i_le (by omega) (by omega)] at c
            omega
      refine t_X9_why_65 sh _ _ _ _ (K75 := fun x1 x2 x3 x4 x5 hh => x1 = what ∧ x2 = ax ∧ x3 = ox ∧ x4 = nI t ∧ x5 = nI 0 ∧ hh = h) (fun x1 x2 x3 x4 x5 hh q => ?_) ⟨fun c => ?_, fun _ => ⟨rfl, rfl, rfl, rfl, rfl, rfl⟩⟩
      · obtain ⟨rfl, rfl, rfl, rfl, rfl, rfl⟩ := q
        exact mid na 0 (by omega) _ (b2.cong fun i hi => ⟨Or.inl, fun y => y.elim (fun w => w) (fun ⟨_, _, w, _⟩ => by omega)⟩)
      · have := (i_le (a := 20) (by decide) (by omega)).mp c
        omega
  have first : ∀ m j, j + m = na → ∀ (ax : Int32), rB ax (fun i => i < j ∧ g i = none) → w_p (D + 1) (9, 7, mc_X9_why) 24 [(0, .ref 44), (1, .int what), (2, .int ax), (3, .int 0), (4, .int (nI j))] [] h Q := by
    intro m
    induction m with
    | zero =>
      intro j hj ax b1
      have ej : j = na := by omega
      subst ej
      refine t_X9_why_24 sh _ _ _ _ (K24 := fun _ _ _ _ _ => False) (fun _ _ _ _ _ z => z.elim) (K65 := fun x1 x2 x3 x4 hh => x1 = what ∧ x2 = ax ∧ x3 = 0 ∧ x4 = nI 0 ∧ hh = h) (fun x1 x2 x3 x4 hh q => ?_) ⟨fun _ => ⟨rfl, rfl, rfl, rfl, rfl⟩, fun c => absurd ?_ c⟩
      · obtain ⟨rfl, rfl, rfl, rfl, rfl⟩ := q
        exact rounds 20 0 rfl _ _ b1 (fun i hi => ⟨fun y => (by rw [b_0] at y; cases y), fun y => y.elim⟩)
      · rw [C.2.1, i_le (by omega) (by omega)]
        exact Nat.le_refl _
    | succ m ih =>
      intro j hj ax b1
      refine t_X9_why_24 sh _ _ _ _ (K24 := fun x1 x2 x3 x4 hh => x1 = what ∧ rB x2 (fun i => i < j + 1 ∧ g i = none) ∧ x3 = 0 ∧ x4 = nI (j + 1) ∧ hh = h) (fun x1 x2 x3 x4 hh q => ?_) (K65 := fun _ _ _ _ _ => False) (fun _ _ _ _ _ z => z.elim) ⟨fun c => ?_, fun _ => ⟨vp_in_nI (by omega) (by decide), ?_⟩⟩
      · obtain ⟨rfl, q1, rfl, rfl, rfl⟩ := q
        exact ih (j + 1) (by omega) _ q1
      · rw [C.2.1, i_le (by omega) (by omega)] at c
        omega
      · rw [i_cl (by omega), Gm j (by omega), or0]
        refine ⟨fun c => ⟨rfl, b1.cong fun i hi => ⟨fun y => ⟨by omega, y.2⟩, fun y => ⟨?_, y.2⟩⟩, rfl, nI_1 j, rfl⟩, fun c => ⟨rfl, (b1.or1 (k := j) (by omega)).cong fun i hi => ⟨fun y => ?_, fun y => ?_⟩, rfl, nI_1 j, rfl⟩⟩
        · have : i ≠ j := fun e => c (by rw [← e, y.2]; rfl)
          omega
        · rcases y with y | rfl
          · exact ⟨by omega, y.2⟩
          · refine ⟨by omega, ?_⟩
            cases e : g i with
            | none => rfl
            | some o =>
              rw [e] at c
              exact absurd c (oN_ne o (by have := hg i o e; omega))
        · by_cases w : i = j
          · exact Or.inr w
          · exact Or.inl ⟨by omega, y.2⟩
  exact first na 0 (by omega) 0 (fun i hi => ⟨fun y => (by rw [b_0] at y; cases y), fun y => by omega⟩)
end
section
/-! WHAT IS MADE LATER: frames -/
def h_cp (h : mm_H) (a N : Nat) : mm_H := (va_up (h_kd h) (h_n h) 20, h_oi h, h_or h, va_up (h_al h) (h_n h) N, va_up (h_ai h) (h_n h) (fun i => if i < h_al h a then h_ai h a i else 0), va_up (h_ar h) (h_n h) (fun _ => none), h_n h + 1, h_s h + N)
theorem w_copy {h : mm_H} {Q : Option Value → mm_H → Prop} {a : Nat} {x : Int32} (hk : h_kd h a = 20) (h1 : ¬ x < 0) (h2 : x.toNatClampNeg ≤ 100000000) (h3 : h_al h a < x.toNatClampNeg) (k : Q (some (.ref (h_n h))) (h_cp h a x.toNatClampNeg)) : w_c 20 154 [.ref a, .int x] h Q :=
  ⟨0, (some (.ref (h_n h)), h_cp h a x.toNatClampNeg), Or.inr ⟨rfl, Nat.le_refl _, Or.inl ⟨rfl, a, x, rfl, hk, h1, h2, h3, rfl, rfl⟩⟩, k⟩
/-- all that stood before stays but for these addresses; kinds and lengths always stay -/
def ex (h h' : mm_H) (P : Nat → Prop) : Prop := h_n h ≤ h_n h' ∧ ∀ a, a < h_n h → (h_kd h' a = h_kd h a ∧ h_al h' a = h_al h a) ∧ (¬ P a → h_ai h' a = h_ai h a ∧ h_ar h' a = h_ar h a ∧ ∀ g, h_or h' g a = h_or h g a ∧ h_oi h' g a = h_oi h g a)
theorem ex.rf (h : mm_H) (P : Nat → Prop) : ex h h P := ⟨Nat.le_refl _, fun _ _ => ⟨⟨rfl, rfl⟩, fun _ => ⟨rfl, rfl, fun _ => ⟨rfl, rfl⟩⟩⟩⟩
theorem ex.tr {h h1 h2 : mm_H} {P P2 P3 : Nat → Prop} (f : ex h h1 P) (f2 : ex h1 h2 P2) (i1 : ∀ a, P a → P3 a) (i2 : ∀ a, a < h_n h → P2 a → P3 a) : ex h h2 P3 := by
  refine ⟨Nat.le_trans f.1 f2.1, fun a ha => ?_⟩
  obtain ⟨⟨p1, p2⟩, p3⟩ := f.2 a ha
  obtain ⟨⟨q1, q2⟩, q3⟩ := f2.2 a (Nat.lt_of_lt_of_le ha f.1)
  refine ⟨⟨q1.trans p1, q2.trans p2⟩, fun z => ?_⟩
  obtain ⟨r1, r2, r3⟩ := p3 (fun y => z (i1 a y))
  obtain ⟨s1, s2, s3⟩ := q3 (fun y => z (i2 a ha y))
  exact ⟨s1.trans r1, s2.trans r2, fun g => ⟨(s3 g).1.trans (r3 g).1, (s3 g).2.trans (r3 g).2⟩⟩
theorem ex.mono {h h1 : mm_H} {P P3 : Nat → Prop} (f : ex h h1 P) (i1 : ∀ a, a < h_n h → P a → P3 a) : ex h h1 P3 := ⟨f.1, fun a ha => ⟨(f.2 a ha).1, fun z => (f.2 a ha).2 (fun y => z (i1 a ha y))⟩⟩
theorem oi_self (h : mm_H) (g a : Nat) (x : Int32) : h_oi (h_sI h g a x) g a = x := by
  show va_up (h_oi h) g (va_up (h_oi h g) a x) g a = x
  rw [va_up_self, va_up_self]
theorem oi_neA {h : mm_H} {g a b : Nat} {x : Int32} (e : b ≠ a) (g2 : Nat) : h_oi (h_sI h g a x) g2 b = h_oi h g2 b := by
  show va_up (h_oi h) g (va_up (h_oi h g) a x) g2 b = _
  by_cases z : g2 = g
  · rw [z, va_up_self, va_up_ne _ _ e]
  · rw [va_up_ne _ _ z]
theorem oi_neG {h : mm_H} {g a g2 : Nat} {x : Int32} (e : g2 ≠ g) (b : Nat) : h_oi (h_sI h g a x) g2 b = h_oi h g2 b := by
  show va_up (h_oi h) g (va_up (h_oi h g) a x) g2 b = _
  rw [va_up_ne _ _ e]
theorem or_self (h : mm_H) (g a : Nat) (x : Option Nat) : h_or (h_sR h g a x) g a = x := by
  show va_up (h_or h) g (va_up (h_or h g) a x) g a = x
  rw [va_up_self, va_up_self]
theorem or_neA {h : mm_H} {g a b : Nat} {x : Option Nat} (e : b ≠ a) (g2 : Nat) : h_or (h_sR h g a x) g2 b = h_or h g2 b := by
  show va_up (h_or h) g (va_up (h_or h g) a x) g2 b = _
  by_cases z : g2 = g
  · rw [z, va_up_self, va_up_ne _ _ e]
  · rw [va_up_ne _ _ z]
theorem or_neG {h : mm_H} {g a g2 : Nat} {x : Option Nat} (e : g2 ≠ g) (b : Nat) : h_or (h_sR h g a x) g2 b = h_or h g2 b := by
  show va_up (h_or h) g (va_up (h_or h g) a x) g2 b = _
  rw [va_up_ne _ _ e]
theorem ai_self (h : mm_H) (a i : Nat) (x : Int32) : h_ai (h_sA h a i x) a = va_up (h_ai h a) i x := by
  show va_up (h_ai h) a (va_up (h_ai h a) i x) a = _
  rw [va_up_self]
theorem ai_ne {h : mm_H} {a b : Nat} {i : Nat} {x : Int32} (e : b ≠ a) : h_ai (h_sA h a i x) b = h_ai h b := by
  show va_up (h_ai h) a (va_up (h_ai h a) i x) b = _
  rw [va_up_ne _ _ e]
theorem ar_self (h : mm_H) (a i : Nat) (x : Option Nat) : h_ar (h_sQ h a i x) a = va_up (h_ar h a) i x := by
  show va_up (h_ar h) a (va_up (h_ar h a) i x) a = _
  rw [va_up_self]
theorem ar_ne {h : mm_H} {a b : Nat} {i : Nat} {x : Option Nat} (e : b ≠ a) : h_ar (h_sQ h a i x) b = h_ar h b := by
  show va_up (h_ar h) a (va_up (h_ar h a) i x) b = _
  rw [va_up_ne _ _ e]
theorem ex.sI {h h' : mm_H} {P : Nat → Prop} (f : ex h h' P) {g a : Nat} (x : Int32) (ha : P a ∨ h_n h ≤ a) : ex h (h_sI h' g a x) P := by
  refine ⟨f.1, fun b hb => ⟨(f.2 b hb).1, fun z => ?_⟩⟩
  obtain ⟨p1, p2, p3⟩ := (f.2 b hb).2 z
  have e : b ≠ a := fun e => by
    subst e
    rcases ha with ha | ha
    · exact z ha
    · omega
  exact ⟨p1, p2, fun g2 => ⟨(p3 g2).1, (oi_neA e g2).trans (p3 g2).2⟩⟩
theorem ex.sR {h h' : mm_H} {P : Nat → Prop} (f : ex h h' P) {g a : Nat} (x : Option Nat) (ha : P a ∨ h_n h ≤ a) : ex h (h_sR h' g a x) P := by
  refine ⟨f.1, fun b hb => ⟨(f.2 b hb).1, fun z => ?_⟩⟩
  obtain ⟨p1, p2, p3⟩ := (f.2 b hb).2 z
  have e : b ≠ a := fun e => by
    subst e
    rcases ha with ha | ha
    · exact z ha
    · omega
  exact ⟨p1, p2, fun g2 => ⟨(or_neA e g2).trans (p3 g2).1, (p3 g2).2⟩⟩
theorem ex.sA {h h' : mm_H} {P : Nat → Prop} (f : ex h h' P) {a : Nat} (i : Nat) (x : Int32) (ha : P a ∨ h_n h ≤ a) : ex h (h_sA h' a i x) P := by
  refine ⟨f.1, fun b hb => ⟨(f.2 b hb).1, fun z => ?_⟩⟩
  obtain ⟨p1, p2, p3⟩ := (f.2 b hb).2 z
  have e : b ≠ a := fun e => by
    subst e
    rcases ha with ha | ha
    · exact z ha
    · omega
  exact ⟨(ai_ne e).trans p1, p2, p3⟩
theorem ex.sQ {h h' : mm_H} {P : Nat → Prop} (f : ex h h' P) {a : Nat} (i : Nat) (x : Option Nat) (ha : P a ∨ h_n h ≤ a) : ex h (h_sQ h' a i x) P := by
  refine ⟨f.1, fun b hb => ⟨(f.2 b hb).1, fun z => ?_⟩⟩
  obtain ⟨p1, p2, p3⟩ := (f.2 b hb).2 z
  have e : b ≠ a := fun e => by
    subst e
    rcases ha with ha | ha
    · exact z ha
    · omega
  exact ⟨p1, (ar_ne e).trans p2, p3⟩
theorem ex.nO {h h' : mm_H} {P : Nat → Prop} (f : ex h h' P) (ci N : Nat) : ex h (h_nO h' ci N) P := by
  refine ⟨Nat.le_succ_of_le f.1, fun b hb => ?_⟩
  have hne : b ≠ h_n h' := by have := f.1; omega
  obtain ⟨⟨q1, q2⟩, q3⟩ := f.2 b hb
  refine ⟨⟨(va_up_ne (h_kd h') (ci + 1) hne).trans q1, q2⟩, fun z => ?_⟩
  obtain ⟨p1, p2, p3⟩ := q3 z
  exact ⟨p1, p2, fun g => ⟨(va_up_ne (h_or h' g) none hne).trans (p3 g).1, (va_up_ne (h_oi h' g) 0 hne).trans (p3 g).2⟩⟩
theorem ex.nA {h h' : mm_H} {P : Nat → Prop} (f : ex h h' P) (κ N : Nat) : ex h (h_nA h' κ N) P := by
  refine ⟨Nat.le_succ_of_le f.1, fun b hb => ?_⟩
  have hne : b ≠ h_n h' := by have := f.1; omega
  obtain ⟨⟨q1, q2⟩, q3⟩ := f.2 b hb
  refine ⟨⟨(va_up_ne (h_kd h') κ hne).trans q1, (va_up_ne (h_al h') N hne).trans q2⟩, fun z => ?_⟩
  obtain ⟨p1, p2, p3⟩ := q3 z
  exact ⟨(va_up_ne (h_ai h') _ hne).trans p1, (va_up_ne (h_ar h') _ hne).trans p2, p3⟩
theorem ex.cp {h h' : mm_H} {P : Nat → Prop} (f : ex h h' P) (a N : Nat) : ex h (h_cp h' a N) P := by
  refine ⟨Nat.le_succ_of_le f.1, fun b hb => ?_⟩
  have hne : b ≠ h_n h' := by have := f.1; omega
  obtain ⟨⟨q1, q2⟩, q3⟩ := f.2 b hb
  refine ⟨⟨(va_up_ne (h_kd h') 20 hne).trans q1, (va_up_ne (h_al h') N hne).trans q2⟩, fun z => ?_⟩
  obtain ⟨p1, p2, p3⟩ := q3 z
  exact ⟨(va_up_ne (h_ai h') _ hne).trans p1, (va_up_ne (h_ar h') _ hne).trans p2, p3⟩
theorem ex.fx {h h' : mm_H} {P : Nat → Prop} (f : ex h h' P) (s : s_h h) (hP : ∀ a, a < 70 → ¬ P a) (gs : List (Nat × Nat)) (as : List Nat) : fx h h' gs as := by
  refine ⟨fun a ha => ?_, f.1⟩
  obtain ⟨⟨p1, p2⟩, p3⟩ := f.2 a (Nat.lt_of_lt_of_le ha (n_70 s))
  obtain ⟨q1, q2, q3⟩ := p3 (hP a ha)
  exact ⟨p1, p2, fun g => (q3 g).1, fun _ => q1, fun _ => q2, fun g _ => (q3 g).2⟩
theorem ex.sh {h h' : mm_H} {P : Nat → Prop} (f : ex h h' P) (s : s_h h) (hP : ∀ a, a < 70 → ¬ P a) : s_h h' := (f.fx s hP [] []).sh s (by decide)
theorem dn.ex {h h' : mm_H} {gs : List (Nat × Nat)} {as : List Nat} (d : dn h h') (f : fx h h' gs as) : ex h h' (fun a => a < 70) := by
  refine ⟨Nat.le_of_eq d.1.symm, fun a ha => ?_⟩
  by_cases z : a < 70
  · obtain ⟨p1, p2, _⟩ := f.1 a z
    exact ⟨⟨p1, p2⟩, fun y => absurd z y⟩
  · obtain ⟨p1, p2, p3, p4⟩ := d.2.2.1 a (by omega)
    exact ⟨⟨p1, p2⟩, fun _ => ⟨p3, p4, fun g => d.2.2.2 g a (by omega)⟩⟩
theorem fx.nO {h h' : mm_H} {gs : List (Nat × Nat)} {as : List Nat} (f : fx h h' gs as) (s : 70 ≤ h_n h) (ci N : Nat) : fx h (h_nO h' ci N) gs as := by
  refine ⟨fun a ha => ?_, Nat.le_succ_of_le f.2⟩
  have hne : a ≠ h_n h' := by have := f.2; omega
  obtain ⟨p1, p2, p3, p4, p5, p6⟩ := f.1 a ha
  exact ⟨(va_up_ne (h_kd h') (ci + 1) hne).trans p1, p2, fun g => (va_up_ne (h_or h' g) none hne).trans (p3 g), p4, p5, fun g hg => (va_up_ne (h_oi h' g) 0 hne).trans (p6 g hg)⟩
theorem fx.nA {h h' : mm_H} {gs : List (Nat × Nat)} {as : List Nat} (f : fx h h' gs as) (s : 70 ≤ h_n h) (κ N : Nat) : fx h (h_nA h' κ N) gs as := by
  refine ⟨fun a ha => ?_, Nat.le_succ_of_le f.2⟩
  have hne : a ≠ h_n h' := by have := f.2; omega
  obtain ⟨p1, p2, p3, p4, p5, p6⟩ := f.1 a ha
  exact ⟨(va_up_ne (h_kd h') κ hne).trans p1, (va_up_ne (h_al h') N hne).trans p2, p3, fun hn => (va_up_ne (h_ai h') _ hne).trans (p4 hn), fun hn => (va_up_ne (h_ar h') _ hne).trans (p5 hn), p6⟩
theorem fx.sR {h h' : mm_H} {gs : List (Nat × Nat)} {as : List Nat} (f : fx h h' gs as) {g a : Nat} (x : Option Nat) (ha : 70 ≤ a) : fx h (h_sR h' g a x) gs as := by
  refine ⟨fun b hb => ?_, f.2⟩
  obtain ⟨p1, p2, p3, p4, p5, p6⟩ := f.1 b hb
  exact ⟨p1, p2, fun g2 => (or_neA (by omega) g2).trans (p3 g2), p4, p5, p6⟩
theorem fx.sQ {h h' : mm_H} {gs : List (Nat × Nat)} {as : List Nat} (f : fx h h' gs as) {a : Nat} (i : Nat) (x : Option Nat) (hm : a ∈ as ∨ 70 ≤ a) : fx h (h_sQ h' a i x) gs as := by
  refine ⟨fun b hb => ?_, f.2⟩
  obtain ⟨p1, p2, p3, p4, p5, p6⟩ := f.1 b hb
  refine ⟨p1, p2, p3, p4, fun hn => ?_, p6⟩
  have e : b ≠ a := fun e => by
    subst e
    rcases hm with hm | hm
    · exact hn hm
    · omega
  exact (ar_ne e).trans (p5 hn)
/-! THE PURSE: heaps m of days hd and notes hn, in arrays d and n of room c -/
def pK (h : mm_H) (p d n c : Nat) : Prop := (h_kd h p = 4 ∧ h_kd h d = 20 ∧ h_kd h n = 20) ∧ (h_or h 192 p = some d ∧ h_or h 193 p = some n) ∧ (h_al h d = c ∧ h_al h n = c) ∧ (70 ≤ p ∧ 70 ≤ d ∧ 70 ≤ n ∧ p < h_n h ∧ d < h_n h ∧ n < h_n h ∧ d ≠ n) ∧ 4 ≤ c ∧ c ≤ 4096
def pA (h : mm_H) (p d n c m : Nat) (hd hn : Nat → Nat) : Prop := pK h p d n c ∧ m ≤ c ∧ h_oi h 194 p = nI m ∧ ∀ i, i < m → h_ai h d i = nI (hd i) ∧ h_ai h n i = nI (hn i)
theorem pK.ne {h : mm_H} {p d n c : Nat} (H : pK h p d n c) : p ≠ d ∧ p ≠ n ∧ d ≠ n := by
  obtain ⟨⟨k1, k2, k3⟩, _, _, ⟨_, _, _, _, _, _, e⟩, _⟩ := H
  refine ⟨fun z => ?_, fun z => ?_, e⟩
  · rw [z, k2] at k1; cases k1
  · rw [z, k3] at k1; cases k1
theorem pK.ex {h h' : mm_H} {P : Nat → Prop} {p d n c : Nat} (H : pK h p d n c) (f : ex h h' P) (n1 : ¬ P p) : pK h' p d n c := by
  obtain ⟨⟨k1, k2, k3⟩, ⟨r1, r2⟩, ⟨l1, l2⟩, ⟨b1, b2, b3, b4, b5, b6, b7⟩, hc⟩ := H
  have f1 := f.2 p b4
  have f2 := f.2 d b5
  have f3 := f.2 n b6
  have hn' := f.1
  exact ⟨⟨f1.1.1.trans k1, f2.1.1.trans k2, f3.1.1.trans k3⟩, ⟨((f1.2 n1).2.2 192).1.trans r1, ((f1.2 n1).2.2 193).1.trans r2⟩, ⟨f2.1.2.trans l1, f3.1.2.trans l2⟩, ⟨b1, b2, b3, by omega, by omega, by omega, b7⟩, hc⟩
theorem pA.ex {h h' : mm_H} {P : Nat → Prop} {p d n c m : Nat} {hd hn : Nat → Nat} (H : pA h p d n c m hd hn) (f : ex h h' P) (n1 : ¬ P p) (n2 : ¬ P d) (n3 : ¬ P n) : pA h' p d n c m hd hn := by
  obtain ⟨K, hc, hm, hv⟩ := H
  have K' := K.ex f n1
  obtain ⟨_, _, _, ⟨b1, b2, b3, b4, b5, b6, b7⟩, _⟩ := K
  refine ⟨K', hc, (((f.2 p b4).2 n1).2.2 194).2.trans hm, fun i hi => ?_⟩
  rw [((f.2 d b5).2 n2).1, ((f.2 n b6).2 n3).1]
  exact hv i hi
/-- the heaps of a purse are its notes by day -/
def pL (m : Nat) (hd hn nt : Nat → Nat) : Prop := (∀ i j, i < j → j < m → hd i < hd j) ∧ (∀ i, i < m → hd i ≤ 2000 ∧ 0 < hn i ∧ nt (hd i) = hn i) ∧ ∀ d, 0 < nt d → ∃ i, i < m ∧ hd i = d
theorem pL_sum {m : Nat} {hd hn nt : Nat → Nat} (H : pL m hd hn nt) : ∀ (x i : Nat), i ≤ m → (∀ j, j < i → hd j < x) → (∀ j, i ≤ j → j < m → x ≤ hd j) → fb_sm nt x = fb_sm hn i
  | 0, i, hi, h1, _ => by
    cases i with
    | zero => rfl
    | succ i => exact absurd (h1 i (by omega)) (by omega)
  | x + 1, i, hi, h1, h2 => by
    rw [fb_sm_succ]
    by_cases z : ∃ j, j < m ∧ hd j = x
    · obtain ⟨j, hj, e⟩ := z
      have hji : j < i := by
        rcases Nat.lt_or_ge j i with y | y
        · exact y
        · have := h2 j y hj
          omega
      have hl : j = i - 1 := by
        rcases Nat.lt_or_ge j (i - 1) with y | y
        · have q1 := H.1 j (i - 1) y (by omega)
          have q2 := h1 (i - 1) (by omega)
          omega
        · omega
      have ih := pL_sum H x (i - 1) (by omega) (fun j' hj' => by have := H.1 j' j (by omega) hj; omega) (fun j' hj' hm' => by
        rcases Nat.eq_or_lt_of_le hj' with y | y
        · rw [← y, ← hl]; omega
        · have := H.1 j j' (by omega) hm'
          omega)
      have e2 := (H.2.1 j hj).2.2
      rw [e] at e2
      rw [ih, e2, hl]
      have : i = (i - 1) + 1 := by omega
      conv => rhs; rw [this, fb_sm_succ]
    · have e0 : nt x = 0 := by
        rcases Nat.eq_zero_or_pos (nt x) with y | y
        · exact y
        · exact absurd (H.2.2 x y) z
      rw [e0, Nat.add_zero]
      refine pL_sum H x i hi (fun j hj => ?_) (fun j hj hm' => by have := h2 j hj hm'; omega)
      have q1 := h1 j hj
      have q2 : hd j ≠ x := fun y => z ⟨j, by omega, y⟩
      omega
theorem pL_at {m : Nat} {hd hn nt : Nat → Nat} (H : pL m hd hn nt) {i : Nat} (hi : i < m) : fb_sm nt (hd i) = fb_sm hn i := pL_sum H _ i (by omega) (fun j hj => H.1 j i hj hi) (fun j hj hm => by
  rcases Nat.eq_or_lt_of_le hj with y | y
  · rw [y]; exact Nat.le_refl _
  · exact Nat.le_of_lt (H.1 i j y hm))
theorem pL_all {m : Nat} {hd hn nt : Nat → Nat} (H : pL m hd hn nt) : fb_sm nt 2001 = fb_sm hn m := pL_sum H _ m (Nat.le_refl _) (fun j hj => by have := (H.2.1 j hj).1; omega) (fun j hj hm => by omega)
theorem pL_len {m : Nat} {hd hn nt : Nat → Nat} (H : pL m hd hn nt) : m ≤ 2001 := fb_holes 2001 m hd (fun i hi => by have := (H.2.1 i hi).1; omega) (fun i j hij hj => by have := H.1 i j hij hj; omega)
theorem pL_mono {m : Nat} {hd hn nt : Nat → Nat} (H : pL m hd hn nt) {i j : Nat} (hij : i ≤ j) (hj : j < m) : hd i ≤ hd j := by
  rcases Nat.eq_or_lt_of_le hij with y | y
  · rw [y]; exact Nat.le_refl _
  · exact Nat.le_of_lt (H.1 i j y hj)
theorem pL_no {m : Nat} {hd hn nt : Nat → Nat} (H : pL m hd hn nt) {d : Nat} (h : ∀ i, i < m → hd i ≠ d) : nt d = 0 := by
  rcases Nat.eq_zero_or_pos (nt d) with y | y
  · exact y
  · obtain ⟨i, hi, e⟩ := H.2.2 d y
    exact absurd e (h i hi)
/-- a heap grows -/
theorem pL_add {m : Nat} {hd hn nt : Nat → Nat} (H : pL m hd hn nt) {i : Nat} (hi : i < m) (v : Nat) (hv : 0 < v) : pL m hd (va_up hn i v) (va_up nt (hd i) v) := by
  refine ⟨H.1, fun j hj => ?_, fun d hd' => ?_⟩
  · by_cases z : j = i
    · rw [z, va_up_self, va_up_self]
      exact ⟨(H.2.1 i hi).1, hv, rfl⟩
    · have hne : hd j ≠ hd i := by
        rcases Nat.lt_or_ge j i with y | y
        · have := H.1 j i y hi; omega
        · have := H.1 i j (by omega) hj; omega
      rw [va_up_ne _ _ z, va_up_ne _ _ hne]
      exact H.2.1 j hj
  · by_cases z : d = hd i
    · exact ⟨i, hi, z.symm⟩
    · rw [va_up_ne _ _ z] at hd'
      exact H.2.2 d hd'
/-- a new heap -/
def ins (f : Nat → Nat) (at' v : Nat) : Nat → Nat := fun i => if i < at' then f i else if i = at' then v else f (i - 1)
theorem pL_ins {m : Nat} {hd hn nt : Nat → Nat} (H : pL m hd hn nt) {at' day v : Nat} (ha : at' ≤ m) (hday : day ≤ 2000) (hv : 0 < v) (h1 : ∀ j, j < at' → hd j < day) (h2 : ∀ j, at' ≤ j → j < m → day < hd j) : pL (m + 1) (ins hd at' day) (ins hn at' v) (va_up nt day v) := by
  have a1 : ∀ (f : Nat → Nat) (x i : Nat), i < at' → ins f at' x i = f i := fun f x i hi => if_pos hi
  have a2 : ∀ (f : Nat → Nat) (x : Nat), ins f at' x at' = x := fun f x => by
    show (if at' < at' then f at' else if at' = at' then x else f (at' - 1)) = x
    rw [if_neg (Nat.lt_irrefl _), if_pos rfl]
  have a3 : ∀ (f : Nat → Nat) (x i : Nat), at' < i → ins f at' x i = f (i - 1) := fun f x i hi => by
    show (if i < at' then f i else if i = at' then x else f (i - 1)) = _
    rw [if_neg (by omega), if_neg (by omega)]
  refine ⟨fun i j hij hj => ?_, fun i hi => ?_, fun d hd' => ?_⟩
  · rcases Nat.lt_trichotomy j at' with y | y | y
    · rw [a1 _ _ _ y, a1 _ _ _ (by omega)]; exact H.1 i j hij (by omega)
    · subst y; rw [a2, a1 _ _ _ hij]; exact h1 i hij
    · rw [a3 _ _ _ y]
      rcases Nat.lt_trichotomy i at' with w | w | w
      · rw [a1 _ _ _ w]
        have := h1 i w
        have := h2 (j - 1) (by omega) (by omega)
        omega
      · subst w; rw [a2]; exact h2 (j - 1) (by omega) (by omega)
      · rw [a3 _ _ _ w]; exact H.1 (i - 1) (j - 1) (by omega) (by omega)
  · rcases Nat.lt_trichotomy i at' with w | w | w
    · rw [a1 _ _ _ w, a1 _ _ _ w, va_up_ne _ _ (by have := h1 i w; omega)]
      exact H.2.1 i (by omega)
    · subst w; rw [a2, a2, va_up_self]; exact ⟨hday, hv, rfl⟩
    · rw [a3 _ _ _ w, a3 _ _ _ w, va_up_ne _ _ (by have := h2 (i - 1) (by omega) (by omega); omega)]
      exact H.2.1 (i - 1) (by omega)
  · by_cases z : d = day
    · exact ⟨at', by omega, by rw [a2]; exact z.symm⟩
    · rw [va_up_ne _ _ z] at hd'
      obtain ⟨i, hi, e⟩ := H.2.2 d hd'
      by_cases w : i < at'
      · exact ⟨i, by omega, by rw [a1 _ _ _ w]; exact e⟩
      · exact ⟨i + 1, by omega, by rw [a3 _ _ _ (by omega)]; exact e⟩
/-- the oldest heaps go -/
theorem pL_cut {m : Nat} {hd hn nt : Nat → Nat} (H : pL m hd hn nt) {e : Nat} (he : e ≤ m) : pL (m - e) (fun i => hd (i + e)) (fun i => hn (i + e)) (fun d => if e < m ∧ hd e ≤ d then nt d else 0) := by
  refine ⟨fun i j hij hj => H.1 (i + e) (j + e) (by omega) (by omega), fun i hi => ?_, fun d hd' => ?_⟩
  · refine ⟨(H.2.1 (i + e) (by omega)).1, (H.2.1 (i + e) (by omega)).2.1, ?_⟩
    show (if e < m ∧ hd e ≤ hd (i + e) then nt (hd (i + e)) else 0) = _
    rw [if_pos ⟨by omega, pL_mono H (by omega) (by omega)⟩]
    exact (H.2.1 (i + e) (by omega)).2.2
  · by_cases z : e < m ∧ hd e ≤ d
    · have hd' : 0 < (if e < m ∧ hd e ≤ d then nt d else 0) := hd'
      rw [if_pos z] at hd'
      obtain ⟨i, hi, e2⟩ := H.2.2 d hd'
      have : e ≤ i := by
        rcases Nat.lt_or_ge i e with y | y
        · have := H.1 i e y z.1
          omega
        · exact y
      exact ⟨i - e, by omega, by show hd (i - e + e) = d; rw [Nat.sub_add_cancel this]; exact e2⟩
    · have hd' : 0 < (if e < m ∧ hd e ≤ d then nt d else 0) := hd'
      rw [if_neg z] at hd'
      omega
/-- a purse with its notes by day -/
def pS (h : mm_H) (p d n c : Nat) (nt : Nat → Nat) : Prop := ∃ m hd hn, pA h p d n c m hd hn ∧ pL m hd hn nt ∧ h_oi h 195 p = nI (fb_sm nt 2001) ∧ fb_sm nt 2001 ≤ 100000000
theorem pS.ex {h h' : mm_H} {P : Nat → Prop} {p d n c : Nat} {nt : Nat → Nat} (H : pS h p d n c nt) (f : ex h h' P) (n1 : ¬ P p) (n2 : ¬ P d) (n3 : ¬ P n) : pS h' p d n c nt := by
  obtain ⟨m, hd, hn, A, L, T, B⟩ := H
  refine ⟨m, hd, hn, A.ex f n1 n2 n3, L, ?_, B⟩
  obtain ⟨⟨_, _, _, ⟨_, _, _, b4, _⟩, _⟩, _⟩ := A
  exact (((f.2 p b4).2 n1).2.2 195).2.trans T
theorem pS.k {h : mm_H} {p d n c : Nat} {nt : Nat → Nat} (H : pS h p d n c nt) : pK h p d n c := by
  obtain ⟨_, _, _, A, _⟩ := H
  exact A.1
/-- room stays -/
def rm (h h' : mm_H) : Prop := h_n h' = h_n h ∧ h_s h' = h_s h
/-- room grows with the purse's room -/
def gr (h : mm_H) (c : Nat) (h' : mm_H) (c' : Nat) : Prop := h_s h' = h_s h + 4 * (c' - c) ∧ h_n h' + c ≤ h_n h + c' ∧ c ≤ c'
end
section
set_option maxRecDepth 20000 in
theorem t_X3_oldestDay_0 {h : mm_H} {Q : Option Value → mm_H → Prop} (sh : s_h h) (p : Nat) {pd pn cp : Nat} (kp : h_kd h p = 4) (kd : h_kd h pd = 20) (kn : h_kd h pn = 20) (rd : h_or h 192 p = some pd) (rn : h_or h 193 p = some pn) (ad : h_al h pd = cp) (an : h_al h pn = cp) (hp : 16 ≤ p) (hd : 16 ≤ pd) (hn : 16 ≤ pn)
    (F : (((h_oi h 194 p) ≤ 0 → Q (some (.int (-4))) h) ∧ (¬ ((h_oi h 194 p) ≤ 0) → (vp_in 0 cp ∧ Q (some (.int (h_ai h pd (0 : Int32).toNatClampNeg))) h)))) :
    w_c 0 25 [.ref p] h Q := by
  refine w_ci (M := (3, 1, mc_X3_oldestDay)) rfl (Nat.le_of_ble_eq_true rfl) ?_
  show w_p _ _ 0 [(0, .ref p)] [] h Q
  refine w_b 1 1 [(0, .ref p)] [.ref p] rfl ?_
  refine w_get (g := 194) rfl rfl rfl kp ?_
  refine w_if_le (tgt := 16) (x := h_oi h 194 p) rfl (by decide) ⟨fun c1 => ?_, fun c1 => ?_⟩
  · have F := F.1 c1
    refine w_b 1 18 [(0, .ref p)] [.int (-4)] rfl ?_
    exact w_ir rfl F
  · have F := F.2 c1
    refine w_b 1 8 [(0, .ref p)] [.ref p] rfl ?_
    refine w_getS (b := pd) rfl rfl rfl kp (rd) ?_
    refine w_b 1 12 [(0, .ref p)] [.int 0, .ref pd] rfl ?_
    obtain ⟨g2, F⟩ := F
    refine w_iald rfl kd (by rw [show h_al h pd = cp from ad]; exact g2) ?_
    refine w_b 1 18 [(0, .ref p)] [.int (h_ai h pd (0 : Int32).toNatClampNeg)] rfl ?_
    exact w_ir rfl F

set_option maxRecDepth 20000 in
theorem t_X3_notesOfOldestDay_0 {h : mm_H} {Q : Option Value → mm_H → Prop} (sh : s_h h) (p : Nat) {pd pn cp : Nat} (kp : h_kd h p = 4) (kd : h_kd h pd = 20) (kn : h_kd h pn = 20) (rd : h_or h 192 p = some pd) (rn : h_or h 193 p = some pn) (ad : h_al h pd = cp) (an : h_al h pn = cp) (hp : 16 ≤ p) (hd : 16 ≤ pd) (hn : 16 ≤ pn)
    (F : (((h_oi h 194 p) ≤ 0 → Q (some (.int 0)) h) ∧ (¬ ((h_oi h 194 p) ≤ 0) → (vp_in 0 cp ∧ Q (some (.int (h_ai h pn (0 : Int32).toNatClampNeg))) h)))) :
    w_c 0 26 [.ref p] h Q := by
  refine w_ci (M := (3, 1, mc_X3_notesOfOldestDay)) rfl (Nat.le_of_ble_eq_true rfl) ?_
  show w_p _ _ 0 [(0, .ref p)] [] h Q
  refine w_b 1 1 [(0, .ref p)] [.ref p] rfl ?_
  refine w_get (g := 194) rfl rfl rfl kp ?_
  refine w_if_le (tgt := 16) (x := h_oi h 194 p) rfl (by decide) ⟨fun c1 => ?_, fun c1 => ?_⟩
  · have F := F.1 c1
    refine w_b 1 17 [(0, .ref p)] [.int 0] rfl ?_
    exact w_ir rfl F
  · have F := F.2 c1
    refine w_b 1 8 [(0, .ref p)] [.ref p] rfl ?_
    refine w_getS (b := pn) rfl rfl rfl kp (rn) ?_
    refine w_b 1 12 [(0, .ref p)] [.int 0, .ref pn] rfl ?_
    obtain ⟨g2, F⟩ := F
    refine w_iald rfl kn (by rw [show h_al h pn = cp from an]; exact g2) ?_
    refine w_b 1 17 [(0, .ref p)] [.int (h_ai h pn (0 : Int32).toNatClampNeg)] rfl ?_
    exact w_ir rfl F

set_option maxRecDepth 20000 in
theorem t_X3_removeOldestHeaps_0 {h : mm_H} {Q : Option Value → mm_H → Prop} (sh : s_h h) (p : Nat) (em : Int32) {K2 : Nat → Int32 → Int32 → mm_H → Prop} (k2 : ∀ (p : Nat) (em : Int32) (x2 : Int32) (h : mm_H), K2 p em x2 h → w_p 0 (3, 3, mc_X3_removeOldestHeaps) 2 [(0, .ref p), (1, .int em), (2, .int x2)] [] h Q) {pd pn cp : Nat} (kp : h_kd h p = 4) (kd : h_kd h pd = 20) (kn : h_kd h pn = 20) (rd : h_or h 192 p = some pd) (rn : h_or h 193 p = some pn) (ad : h_al h pd = cp) (an : h_al h pn = cp) (hp : 16 ≤ p) (hd : 16 ≤ pd) (hn : 16 ≤ pn)
    (F : K2 p em em h) :
    w_c 0 32 [.ref p, .int em] h Q := by
  refine w_ci (M := (3, 3, mc_X3_removeOldestHeaps)) rfl (Nat.le_of_ble_eq_true rfl) ?_
  show w_p _ _ 0 [(0, .ref p), (1, .int em)] [] h Q
  refine w_b 2 2 [(2, .int em), (0, .ref p), (1, .int em)] [] rfl ?_
  refine w_lo [0, 1, 2] [(0, .ref p), (1, .int em), (2, .int em)] rfl rfl ?_
  exact k2 _ _ _ _ F

set_option maxRecDepth 20000 in
theorem t_X3_removeOldestHeaps_2 {h : mm_H} {Q : Option Value → mm_H → Prop} (sh : s_h h) (p : Nat) (em : Int32) (x2 : Int32) {K2 : Nat → Int32 → Int32 → mm_H → Prop} (k2 : ∀ (p : Nat) (em : Int32) (x2 : Int32) (h : mm_H), K2 p em x2 h → w_p 0 (3, 3, mc_X3_removeOldestHeaps) 2 [(0, .ref p), (1, .int em), (2, .int x2)] [] h Q) {pd pn cp : Nat} (kp : h_kd h p = 4) (kd : h_kd h pd = 20) (kn : h_kd h pn = 20) (rd : h_or h 192 p = some pd) (rn : h_or h 193 p = some pn) (ad : h_al h pd = cp) (an : h_al h pn = cp) (hp : 16 ≤ p) (hd : 16 ≤ pd) (hn : 16 ≤ pn)
    (F : (((h_oi h 194 p) ≤ x2 → Q none (h_sI h 194 p ((h_oi h 194 p) - em))) ∧ (¬ ((h_oi h 194 p) ≤ x2) → (vp_in x2 cp ∧ (vp_in (x2 - em) cp ∧ (vp_in x2 cp ∧ (vp_in (x2 - em) cp ∧ K2 p em (x2 + 1) (h_sA (h_sA h pd ((x2 - em).toNatClampNeg) (h_ai h pd x2.toNatClampNeg)) pn ((x2 - em).toNatClampNeg) (h_ai (h_sA h pd ((x2 - em).toNatClampNeg) (h_ai h pd x2.toNatClampNeg)) pn x2.toNatClampNeg))))))))) :
    w_p 0 (3, 3, mc_X3_removeOldestHeaps) 2 [(0, .ref p), (1, .int em), (2, .int x2)] [] h Q := by
  refine w_b 2 4 [(0, .ref p), (1, .int em), (2, .int x2)] [.ref p, .int x2] rfl ?_
  refine w_get (g := 194) rfl rfl rfl kp ?_
  refine w_ic_ge (tgt := 44) (x := x2) (y := h_oi h 194 p) rfl (by decide) ⟨fun c1 => ?_, fun c1 => ?_⟩
  · have F := F.1 c1
    refine w_b 2 46 [(0, .ref p), (1, .int em), (2, .int x2)] [.ref p, .ref p] rfl ?_
    refine w_get (g := 194) rfl rfl rfl kp ?_
    refine w_b 2 51 [(0, .ref p), (1, .int em), (2, .int x2)] [.int ((h_oi h 194 p) - em), .ref p] rfl ?_
    refine w_put (g := 194) (x := (h_oi h 194 p) - em) rfl rfl rfl kp hp ?_
    exact w_vr rfl F
  · have F := F.2 c1
    refine w_b 1 11 [(0, .ref p), (1, .int em), (2, .int x2)] [.ref p] rfl ?_
    refine w_getS (b := pd) rfl rfl rfl kp (rd) ?_
    refine w_b 4 18 [(0, .ref p), (1, .int em), (2, .int x2)] [.ref p, .int (x2 - em), .ref pd] rfl ?_
    refine w_getS (b := pd) rfl rfl rfl kp (rd) ?_
    refine w_b 1 22 [(0, .ref p), (1, .int em), (2, .int x2)] [.int x2, .ref pd, .int (x2 - em), .ref pd] rfl ?_
    obtain ⟨g2, F⟩ := F
    refine w_iald rfl kd (by rw [show h_al h pd = cp from ad]; exact g2) ?_
    obtain ⟨g3, F⟩ := F
    refine w_iast rfl kd hd (by rw [show h_al h pd = cp from ad]; exact g3) ?_
    refine w_b 1 25 [(0, .ref p), (1, .int em), (2, .int x2)] [.ref p] rfl ?_
    refine w_getS (b := pn) rfl rfl rfl kp (rn) ?_
    refine w_b 4 32 [(0, .ref p), (1, .int em), (2, .int x2)] [.ref p, .int (x2 - em), .ref pn] rfl ?_
    refine w_getS (b := pn) rfl rfl rfl kp (rn) ?_
    refine w_b 1 36 [(0, .ref p), (1, .int em), (2, .int x2)] [.int x2, .ref pn, .int (x2 - em), .ref pn] rfl ?_
    obtain ⟨g4, F⟩ := F
    refine w_iald rfl kn (by rw [show h_al (h_sA h pd ((x2 - em).toNatClampNeg) (h_ai h pd x2.toNatClampNeg)) pn = cp from an]; exact g4) ?_
    obtain ⟨g5, F⟩ := F
    refine w_iast rfl kn hn (by rw [show h_al (h_sA h pd ((x2 - em).toNatClampNeg) (h_ai h pd x2.toNatClampNeg)) pn = cp from an]; exact g5) ?_
    refine w_b 2 2 [(2, .int (x2 + 1)), (0, .ref p), (1, .int em)] [] rfl ?_
    refine w_lo [0, 1, 2] [(0, .ref p), (1, .int em), (2, .int (x2 + 1))] rfl rfl ?_
    exact k2 _ _ _ _ F

set_option maxRecDepth 20000 in
theorem t_X3_dropBefore_0 {D : Nat} {h : mm_H} {Q : Option Value → mm_H → Prop} (sh : s_h h) (p : Nat) (day : Int32) {K7 : Nat → Int32 → Int32 → Int32 → Int32 → mm_H → Prop} (k7 : ∀ (p : Nat) (day : Int32) (x2 : Int32) (x3 : Int32) (x4 : Int32) (h : mm_H), K7 p day x2 x3 x4 h → w_p (D + 1) (3, 5, mc_X3_dropBefore) 7 [(0, .ref p), (1, .int day), (2, .int x2), (3, .int x3), (4, .int x4)] [] h Q) {pd pn cp : Nat} (kp : h_kd h p = 4) (kd : h_kd h pd = 20) (kn : h_kd h pn = 20) (rd : h_or h 192 p = some pd) (rn : h_or h 193 p = some pn) (ad : h_al h pd = cp) (an : h_al h pn = cp) (hp : 16 ≤ p) (hd : 16 ≤ pd) (hn : 16 ≤ pn)
    (F : K7 p day 0 0 0 h) :
    w_c (D + 1) 31 [.ref p, .int day] h Q := by
  refine w_ci (M := (3, 5, mc_X3_dropBefore)) rfl (Nat.le_of_ble_eq_true rfl) ?_
  show w_p _ _ 0 [(0, .ref p), (1, .int day)] [] h Q
  refine w_b 6 7 [(4, .int 0), (3, .int 0), (2, .int 0), (0, .ref p), (1, .int day)] [] rfl ?_
  refine w_lo [0, 1, 2, 3, 4] [(0, .ref p), (1, .int day), (2, .int 0), (3, .int 0), (4, .int 0)] rfl rfl ?_
  exact k7 _ _ _ _ _ _ F

set_option maxRecDepth 20000 in
theorem t_X3_dropBefore_7 {D : Nat} {h : mm_H} {Q : Option Value → mm_H → Prop} (sh : s_h h) (p : Nat) (day : Int32) (x2 : Int32) (x3 : Int32) (x4 : Int32) {K7 : Nat → Int32 → Int32 → Int32 → Int32 → mm_H → Prop} (k7 : ∀ (p : Nat) (day : Int32) (x2 : Int32) (x3 : Int32) (x4 : Int32) (h : mm_H), K7 p day x2 x3 x4 h → w_p (D + 1) (3, 5, mc_X3_dropBefore) 7 [(0, .ref p), (1, .int day), (2, .int x2), (3, .int x3), (4, .int x4)] [] h Q) {pd pn cp : Nat} (kp : h_kd h p = 4) (kd : h_kd h pd = 20) (kn : h_kd h pn = 20) (rd : h_or h 192 p = some pd) (rn : h_or h 193 p = some pn) (ad : h_al h pd = cp) (an : h_al h pn = cp) (hp : 16 ≤ p) (hd : 16 ≤ pd) (hn : 16 ≤ pn)
    (F : (((h_oi h 194 p) ≤ x4 → w_c D 32 [.ref p, .int x3] (h_sI h 195 p ((h_oi h 195 p) - x2)) (fun r h2 => r = none ∧ s_h h2 ∧ Q (some (.int x2)) h2)) ∧ (¬ ((h_oi h 194 p) ≤ x4) → (vp_in x4 cp ∧ ((day ≤ (h_ai h pd x4.toNatClampNeg) → w_c D 32 [.ref p, .int x3] (h_sI h 195 p ((h_oi h 195 p) - x2)) (fun r h5 => r = none ∧ s_h h5 ∧ Q (some (.int x2)) h5)) ∧ (¬ (day ≤ (h_ai h pd x4.toNatClampNeg)) → (vp_in x4 cp ∧ K7 p day (x2 + (h_ai h pn x4.toNatClampNeg)) (x3 + 1) (x4 + 1) h))))))) :
    w_p (D + 1) (3, 5, mc_X3_dropBefore) 7 [(0, .ref p), (1, .int day), (2, .int x2), (3, .int x3), (4, .int x4)] [] h Q := by
  refine w_b 2 10 [(0, .ref p), (1, .int day), (2, .int x2), (3, .int x3), (4, .int x4)] [.ref p, .int x4] rfl ?_
  refine w_get (g := 194) rfl rfl rfl kp ?_
  refine w_ic_ge (tgt := 46) (x := x4) (y := h_oi h 194 p) rfl (by decide) ⟨fun c1 => ?_, fun c1 => ?_⟩
  · have F := F.1 c1
    refine w_b 2 48 [(0, .ref p), (1, .int day), (2, .int x2), (3, .int x3), (4, .int x4)] [.ref p, .ref p] rfl ?_
    refine w_get (g := 195) rfl rfl rfl kp ?_
    refine w_b 2 53 [(0, .ref p), (1, .int day), (2, .int x2), (3, .int x3), (4, .int x4)] [.int ((h_oi h 195 p) - x2), .ref p] rfl ?_
    refine w_put (g := 195) (x := (h_oi h 195 p) - x2) rfl rfl rfl kp hp ?_
    refine w_b 2 58 [(0, .ref p), (1, .int day), (2, .int x2), (3, .int x3), (4, .int x4)] [.int x3, .ref p] rfl ?_
    refine w_cv (As := [.int x3]) (b := p) (rest := []) rfl rfl rfl (Nat.le_of_ble_eq_true rfl) kp (fun z => absurd z (by decide)) (dc := D) (by omega) (F.mono (fun r h2 F => ?_))
    obtain ⟨rfl, sh2, F⟩ := F
    show w_p _ _ 61 [(0, .ref p), (1, .int day), (2, .int x2), (3, .int x3), (4, .int x4)] [] h2 _
    refine w_b 1 62 [(0, .ref p), (1, .int day), (2, .int x2), (3, .int x3), (4, .int x4)] [.int x2] rfl ?_
    exact w_ir rfl F
  · have F := F.2 c1
    refine w_b 1 17 [(0, .ref p), (1, .int day), (2, .int x2), (3, .int x3), (4, .int x4)] [.ref p] rfl ?_
    refine w_getS (b := pd) rfl rfl rfl kp (rd) ?_
    refine w_b 1 22 [(0, .ref p), (1, .int day), (2, .int x2), (3, .int x3), (4, .int x4)] [.int x4, .ref pd] rfl ?_
    obtain ⟨g3, F⟩ := F
    refine w_iald rfl kd (by rw [show h_al h pd = cp from ad]; exact g3) ?_
    refine w_b 1 24 [(0, .ref p), (1, .int day), (2, .int x2), (3, .int x3), (4, .int x4)] [.int day, .int (h_ai h pd x4.toNatClampNeg)] rfl ?_
    refine w_ic_ge (tgt := 46) (x := h_ai h pd x4.toNatClampNeg) (y := day) rfl (by decide) ⟨fun c4 => ?_, fun c4 => ?_⟩
    · have F := F.1 c4
      refine w_b 2 48 [(0, .ref p), (1, .int day), (2, .int x2), (3, .int x3), (4, .int x4)] [.ref p, .ref p] rfl ?_
      refine w_get (g := 195) rfl rfl rfl kp ?_
      refine w_b 2 53 [(0, .ref p), (1, .int day), (2, .int x2), (3, .int x3), (4, .int x4)] [.int ((h_oi h 195 p) - x2), .ref p] rfl ?_
      refine w_put (g := 195) (x := (h_oi h 195 p) - x2) rfl rfl rfl kp hp ?_
      refine w_b 2 58 [(0, .ref p), (1, .int day), (2, .int x2), (3, .int x3), (4, .int x4)] [.int x3, .ref p] rfl ?_
      refine w_cv (As := [.int x3]) (b := p) (rest := []) rfl rfl rfl (Nat.le_of_ble_eq_true rfl) kp (fun z => absurd z (by decide)) (dc := D) (by omega) (F.mono (fun r h5 F => ?_))
      obtain ⟨rfl, sh5, F⟩ := F
      show w_p _ _ 61 [(0, .ref p), (1, .int day), (2, .int x2), (3, .int x3), (4, .int x4)] [] h5 _
      refine w_b 1 62 [(0, .ref p), (1, .int day), (2, .int x2), (3, .int x3), (4, .int x4)] [.int x2] rfl ?_
      exact w_ir rfl F
    · have F := F.2 c4
      refine w_b 2 29 [(0, .ref p), (1, .int day), (2, .int x2), (3, .int x3), (4, .int x4)] [.ref p, .int x2] rfl ?_
      refine w_getS (b := pn) rfl rfl rfl kp (rn) ?_
      refine w_b 1 34 [(0, .ref p), (1, .int day), (2, .int x2), (3, .int x3), (4, .int x4)] [.int x4, .ref pn, .int x2] rfl ?_
      obtain ⟨g6, F⟩ := F
      refine w_iald rfl kn (by rw [show h_al h pn = cp from an]; exact g6) ?_
      refine w_b 5 7 [(4, .int (x4 + 1)), (3, .int (x3 + 1)), (2, .int (x2 + (h_ai h pn x4.toNatClampNeg))), (0, .ref p), (1, .int day)] [] rfl ?_
      refine w_lo [0, 1, 2, 3, 4] [(0, .ref p), (1, .int day), (2, .int (x2 + (h_ai h pn x4.toNatClampNeg))), (3, .int (x3 + 1)), (4, .int (x4 + 1))] rfl rfl ?_
      exact k7 _ _ _ _ _ _ F

set_option maxRecDepth 20000 in
theorem t_X3_dropNewest_0 {D : Nat} {h : mm_H} {Q : Option Value → mm_H → Prop} (sh : s_h h) (p : Nat) (am : Int32) {K9 : Nat → Int32 → Int32 → Int32 → mm_H → Prop} (k9 : ∀ (p : Nat) (am : Int32) (x2 : Int32) (x3 : Int32) (h : mm_H), K9 p am x2 x3 h → w_p (D + 1) (3, 5, mc_X3_dropNewest) 9 [(0, .ref p), (1, .int am), (2, .int x2), (3, .int x3)] [] h Q) {pd pn cp : Nat} (kp : h_kd h p = 4) (kd : h_kd h pd = 20) (kn : h_kd h pn = 20) (rd : h_or h 192 p = some pd) (rn : h_or h 193 p = some pn) (ad : h_al h pd = cp) (an : h_al h pn = cp) (hp : 16 ≤ p) (hd : 16 ≤ pd) (hn : 16 ≤ pn)
    (F : K9 p am am ((h_oi h 194 p) - (1 : Int32)) h) :
    w_c (D + 1) 30 [.ref p, .int am] h Q := by
  refine w_ci (M := (3, 5, mc_X3_dropNewest)) rfl (Nat.le_of_ble_eq_true rfl) ?_
  show w_p _ _ 0 [(0, .ref p), (1, .int am)] [] h Q
  refine w_b 3 3 [(2, .int am), (0, .ref p), (1, .int am)] [.ref p] rfl ?_
  refine w_get (g := 194) rfl rfl rfl kp ?_
  refine w_b 3 9 [(3, .int ((h_oi h 194 p) - (1 : Int32))), (2, .int am), (0, .ref p), (1, .int am)] [] rfl ?_
  refine w_lo [0, 1, 2, 3] [(0, .ref p), (1, .int am), (2, .int am), (3, .int ((h_oi h 194 p) - (1 : Int32)))] rfl rfl ?_
  exact k9 _ _ _ _ _ F

set_option maxRecDepth 20000 in
theorem t_X3_dropNewest_9 {D : Nat} {h : mm_H} {Q : Option Value → mm_H → Prop} (sh : s_h h) (p : Nat) (am : Int32) (x2 : Int32) (x3 : Int32) {K9 : Nat → Int32 → Int32 → Int32 → mm_H → Prop} (k9 : ∀ (p : Nat) (am : Int32) (x2 : Int32) (x3 : Int32) (h : mm_H), K9 p am x2 x3 h → w_p (D + 1) (3, 5, mc_X3_dropNewest) 9 [(0, .ref p), (1, .int am), (2, .int x2), (3, .int x3)] [] h Q) {pd pn cp : Nat} (kp : h_kd h p = 4) (kd : h_kd h pd = 20) (kn : h_kd h pn = 20) (rd : h_or h 192 p = some pd) (rn : h_or h 193 p = some pn) (ad : h_al h pd = cp) (an : h_al h pn = cp) (hp : 16 ≤ p) (hd : 16 ≤ pd) (hn : 16 ≤ pn)
    (F : ((x3 < 0 → Q none h) ∧ (¬ (x3 < 0) → ((x2 ≤ 0 → Q none h) ∧ (¬ (x2 ≤ 0) → (vp_in x3 cp ∧ (vp_in x3 cp ∧ (vp_in x3 cp ∧ (vp_in x3 cp ∧ ((¬ (h_ai (h_sA h pn x3.toNatClampNeg ((h_ai h pn x3.toNatClampNeg) - (if (h_ai h pn x3.toNatClampNeg) < x2 then (h_ai h pn x3.toNatClampNeg) else x2))) pn x3.toNatClampNeg) = 0 → K9 p am (x2 - (if (h_ai h pn x3.toNatClampNeg) < x2 then (h_ai h pn x3.toNatClampNeg) else x2)) (x3 + (-1)) (h_sI (h_sA h pn x3.toNatClampNeg ((h_ai h pn x3.toNatClampNeg) - (if (h_ai h pn x3.toNatClampNeg) < x2 then (h_ai h pn x3.toNatClampNeg) else x2))) 195 p ((h_oi h 195 p) - (if (h_ai h pn x3.toNatClampNeg) < x2 then (h_ai h pn x3.toNatClampNeg) else x2)))) ∧ ((h_ai (h_sA h pn x3.toNatClampNeg ((h_ai h pn x3.toNatClampNeg) - (if (h_ai h pn x3.toNatClampNeg) < x2 then (h_ai h pn x3.toNatClampNeg) else x2))) pn x3.toNatClampNeg) = 0 → K9 p am (x2 - (if (h_ai h pn x3.toNatClampNeg) < x2 then (h_ai h pn x3.toNatClampNeg) else x2)) (x3 + (-1)) (h_sI (h_sI (h_sA h pn x3.toNatClampNeg ((h_ai h pn x3.toNatClampNeg) - (if (h_ai h pn x3.toNatClampNeg) < x2 then (h_ai h pn x3.toNatClampNeg) else x2))) 195 p ((h_oi h 195 p) - (if (h_ai h pn x3.toNatClampNeg) < x2 then (h_ai h pn x3.toNatClampNeg) else x2))) 194 p x3)))))))))))) :
    w_p (D + 1) (3, 5, mc_X3_dropNewest) 9 [(0, .ref p), (1, .int am), (2, .int x2), (3, .int x3)] [] h Q := by
  refine w_b 1 10 [(0, .ref p), (1, .int am), (2, .int x2), (3, .int x3)] [.int x3] rfl ?_
  refine w_if_lt (tgt := 76) (x := x3) rfl (by decide) ⟨fun c1 => ?_, fun c1 => ?_⟩
  · have F := F.1 c1
    exact w_vr rfl F
  · have F := F.2 c1
    refine w_b 1 14 [(0, .ref p), (1, .int am), (2, .int x2), (3, .int x3)] [.int x2] rfl ?_
    refine w_if_le (tgt := 76) (x := x2) rfl (by decide) ⟨fun c2 => ?_, fun c2 => ?_⟩
    · have F := F.1 c2
      exact w_vr rfl F
    · have F := F.2 c2
      refine w_b 2 19 [(0, .ref p), (1, .int am), (2, .int x2), (3, .int x3)] [.ref p, .int x2] rfl ?_
      refine w_getS (b := pn) rfl rfl rfl kp (rn) ?_
      refine w_b 1 23 [(0, .ref p), (1, .int am), (2, .int x2), (3, .int x3)] [.int x3, .ref pn, .int x2] rfl ?_
      obtain ⟨g3, F⟩ := F
      refine w_iald rfl kn (by rw [show h_al h pn = cp from an]; exact g3) ?_
      refine w_min (x := x2) (y := h_ai h pn x3.toNatClampNeg) rfl (Nat.le_of_ble_eq_true rfl) ?_
      refine w_b 2 30 [(4, .int (if (h_ai h pn x3.toNatClampNeg) < x2 then (h_ai h pn x3.toNatClampNeg) else x2)), (0, .ref p), (1, .int am), (2, .int x2), (3, .int x3)] [.ref p] rfl ?_
      refine w_getS (b := pn) rfl rfl rfl kp (rn) ?_
      refine w_b 2 35 [(4, .int (if (h_ai h pn x3.toNatClampNeg) < x2 then (h_ai h pn x3.toNatClampNeg) else x2)), (0, .ref p), (1, .int am), (2, .int x2), (3, .int x3)] [.int x3, .ref pn, .int x3, .ref pn] rfl ?_
      obtain ⟨g4, F⟩ := F
      refine w_iald rfl kn (by rw [show h_al h pn = cp from an]; exact g4) ?_
      refine w_b 2 39 [(4, .int (if (h_ai h pn x3.toNatClampNeg) < x2 then (h_ai h pn x3.toNatClampNeg) else x2)), (0, .ref p), (1, .int am), (2, .int x2), (3, .int x3)] [.int ((h_ai h pn x3.toNatClampNeg) - (if (h_ai h pn x3.toNatClampNeg) < x2 then (h_ai h pn x3.toNatClampNeg) else x2)), .int x3, .ref pn] rfl ?_
      obtain ⟨g5, F⟩ := F
      refine w_iast rfl kn hn (by rw [show h_al h pn = cp from an]; exact g5) ?_
      refine w_b 6 47 [(2, .int (x2 - (if (h_ai h pn x3.toNatClampNeg) < x2 then (h_ai h pn x3.toNatClampNeg) else x2))), (4, .int (if (h_ai h pn x3.toNatClampNeg) < x2 then (h_ai h pn x3.toNatClampNeg) else x2)), (0, .ref p), (1, .int am), (3, .int x3)] [.ref p, .ref p] rfl ?_
      refine w_get (g := 195) rfl rfl rfl kp ?_
      refine w_b 2 53 [(2, .int (x2 - (if (h_ai h pn x3.toNatClampNeg) < x2 then (h_ai h pn x3.toNatClampNeg) else x2))), (4, .int (if (h_ai h pn x3.toNatClampNeg) < x2 then (h_ai h pn x3.toNatClampNeg) else x2)), (0, .ref p), (1, .int am), (3, .int x3)] [.int ((h_oi h 195 p) - (if (h_ai h pn x3.toNatClampNeg) < x2 then (h_ai h pn x3.toNatClampNeg) else x2)), .ref p] rfl ?_
      refine w_put (g := 195) (x := (h_oi h 195 p) - (if (h_ai h pn x3.toNatClampNeg) < x2 then (h_ai h pn x3.toNatClampNeg) else x2)) rfl rfl rfl kp hp ?_
      refine w_b 1 57 [(2, .int (x2 - (if (h_ai h pn x3.toNatClampNeg) < x2 then (h_ai h pn x3.toNatClampNeg) else x2))), (4, .int (if (h_ai h pn x3.toNatClampNeg) < x2 then (h_ai h pn x3.toNatClampNeg) else x2)), (0, .ref p), (1, .int am), (3, .int x3)] [.ref p] rfl ?_
      refine w_getS (b := pn) rfl rfl rfl kp (rn) ?_
      refine w_b 1 61 [(2, .int (x2 - (if (h_ai h pn x3.toNatClampNeg) < x2 then (h_ai h pn x3.toNatClampNeg) else x2))), (4, .int (if (h_ai h pn x3.toNatClampNeg) < x2 then (h_ai h pn x3.toNatClampNeg) else x2)), (0, .ref p), (1, .int am), (3, .int x3)] [.int x3, .ref pn] rfl ?_
      obtain ⟨g6, F⟩ := F
      refine w_iald rfl kn (by rw [show h_al (h_sI (h_sA h pn x3.toNatClampNeg ((h_ai h pn x3.toNatClampNeg) - (if (h_ai h pn x3.toNatClampNeg) < x2 then (h_ai h pn x3.toNatClampNeg) else x2))) 195 p ((h_oi h 195 p) - (if (h_ai h pn x3.toNatClampNeg) < x2 then (h_ai h pn x3.toNatClampNeg) else x2))) pn = cp from an]; exact g6) ?_
      refine w_if_ne (tgt := 70) (x := h_ai (h_sA h pn x3.toNatClampNeg ((h_ai h pn x3.toNatClampNeg) - (if (h_ai h pn x3.toNatClampNeg) < x2 then (h_ai h pn x3.toNatClampNeg) else x2))) pn x3.toNatClampNeg) rfl (by decide) ⟨fun c7 => ?_, fun c7 => ?_⟩
      · have F := F.1 c7
        refine w_b 2 9 [(3, .int (x3 + (-1))), (2, .int (x2 - (if (h_ai h pn x3.toNatClampNeg) < x2 then (h_ai h pn x3.toNatClampNeg) else x2))), (4, .int (if (h_ai h pn x3.toNatClampNeg) < x2 then (h_ai h pn x3.toNatClampNeg) else x2)), (0, .ref p), (1, .int am)] [] rfl ?_
        refine w_lo [0, 1, 2, 3] [(0, .ref p), (1, .int am), (2, .int (x2 - (if (h_ai h pn x3.toNatClampNeg) < x2 then (h_ai h pn x3.toNatClampNeg) else x2))), (3, .int (x3 + (-1)))] rfl rfl ?_
        exact k9 _ _ _ _ _ F
      · have F := F.2 (Decidable.not_not.mp c7)
        refine w_b 2 67 [(2, .int (x2 - (if (h_ai h pn x3.toNatClampNeg) < x2 then (h_ai h pn x3.toNatClampNeg) else x2))), (4, .int (if (h_ai h pn x3.toNatClampNeg) < x2 then (h_ai h pn x3.toNatClampNeg) else x2)), (0, .ref p), (1, .int am), (3, .int x3)] [.int x3, .ref p] rfl ?_
        refine w_put (g := 194) (x := x3) rfl rfl rfl kp hp ?_
        refine w_b 2 9 [(3, .int (x3 + (-1))), (2, .int (x2 - (if (h_ai h pn x3.toNatClampNeg) < x2 then (h_ai h pn x3.toNatClampNeg) else x2))), (4, .int (if (h_ai h pn x3.toNatClampNeg) < x2 then (h_ai h pn x3.toNatClampNeg) else x2)), (0, .ref p), (1, .int am)] [] rfl ?_
        refine w_lo [0, 1, 2, 3] [(0, .ref p), (1, .int am), (2, .int (x2 - (if (h_ai h pn x3.toNatClampNeg) < x2 then (h_ai h pn x3.toNatClampNeg) else x2))), (3, .int (x3 + (-1)))] rfl rfl ?_
        exact k9 _ _ _ _ _ F

/-! THE PURSE'S METHODS -/
theorem nI_sub {a b : Nat} (h : b ≤ a) : nI a - nI b = nI (a - b) := by
  have e : nI (a - b) + nI b = nI a := by rw [nI_add, Nat.sub_add_cancel h]
  rw [← e, Int32.add_sub_cancel]
theorem s_h.ex {h h' : mm_H} {P : Nat → Prop} (s : s_h h) (f : ex h h' P) (hP : ∀ a, P a → 70 ≤ a) : s_h h' := f.sh s (fun a ha y => by have := hP a y; omega)
def p3 (p d n : Nat) : Nat → Prop := fun a => a = p ∨ a = d ∨ a = n
theorem p3_70 {h : mm_H} {p d n c : Nat} (K : pK h p d n c) : ∀ a, p3 p d n a → 70 ≤ a := by
  obtain ⟨_, _, _, ⟨b1, b2, b3, _⟩, _⟩ := K
  rintro a (rfl | rfl | rfl) <;> assumption
set_option maxHeartbeats 1000000 in
theorem c_rmold {h : mm_H} {Q : Option Value → mm_H → Prop} {p d n c m e : Nat} {hd hn : Nat → Nat} (sh : s_h h) (A : pA h p d n c m hd hn) (he : e ≤ m) (k : ∀ h', ex h h' (p3 p d n) → rm h h' → pA h' p d n c (m - e) (fun i => hd (i + e)) (fun i => hn (i + e)) → h_oi h' 195 p = h_oi h 195 p → Q none h') : w_c 0 32 [.ref p, .int (nI e)] h Q := by
  obtain ⟨K, hmc, hm, hv⟩ := id A
  obtain ⟨e1, e2, e3⟩ := K.ne
  obtain ⟨_, _, _, ⟨b1, b2, b3, b4, b5, b6, b7⟩, c1, c2⟩ := id K
  have loop : ∀ w j, e + j + w = m → ∀ h1 : mm_H, ex h h1 (p3 p d n) → rm h h1 → pK h1 p d n c → h_oi h1 194 p = nI m → h_oi h1 195 p = h_oi h 195 p → (∀ i, i < j → h_ai h1 d i = nI (hd (i + e)) ∧ h_ai h1 n i = nI (hn (i + e))) → (∀ i, j ≤ i → h_ai h1 d i = h_ai h d i ∧ h_ai h1 n i = h_ai h n i) → w_p 0 (3, 3, mc_X3_removeOldestHeaps) 2 [(0, .ref p), (1, .int (nI e)), (2, .int (nI (e + j)))] [] h1 Q := by
    intro w
    induction w with
    | zero =>
      intro j hj h1 f r K1 m1 t1 q1 q2
      obtain ⟨⟨k1, k2, k3⟩, ⟨r1, r2⟩, ⟨l1, l2⟩, _⟩ := id K1
      refine t_X3_removeOldestHeaps_2 (s_h.ex sh f (p3_70 K)) p _ _ (K2 := fun _ _ _ _ => False) (fun _ _ _ _ z => z.elim) k1 k2 k3 r1 r2 l1 l2 (by omega) (by omega) (by omega) ⟨fun _ => ?_, fun z => absurd ?_ z⟩
      · rw [m1, nI_sub he]
        refine k _ (f.sI _ (Or.inl (Or.inl rfl))) r ⟨K1, by omega, oi_self _ _ _ _, fun i hi => ?_⟩ (by rw [oi_neG (by decide)]; exact t1)
        exact q1 i (by omega)
      · rw [m1, i_le (by omega) (by omega)]
        omega
    | succ w ih =>
      intro j hj h1 f r K1 m1 t1 q1 q2
      obtain ⟨⟨k1, k2, k3⟩, ⟨r1, r2⟩, ⟨l1, l2⟩, _⟩ := id K1
      have v1 : vp_in (nI (e + j)) c := vp_in_nI (by omega) (by omega)
      have v2 : vp_in (nI (e + j) - nI e) c := by rw [nI_sub (by omega)]; exact vp_in_nI (by omega) (by omega)
      have x1 : (nI (e + j) - nI e).toNatClampNeg = j := by rw [nI_sub (by omega), i_cl (by omega)]; omega
      have x2 : (nI (e + j)).toNatClampNeg = e + j := i_cl (by omega)
      refine t_X3_removeOldestHeaps_2 (s_h.ex sh f (p3_70 K)) p _ _ (K2 := fun x y z hh => x = p ∧ y = nI e ∧ z = nI (e + (j + 1)) ∧ ex h hh (p3 p d n) ∧ rm h hh ∧ pK hh p d n c ∧ h_oi hh 194 p = nI m ∧ h_oi hh 195 p = h_oi h 195 p ∧ (∀ i, i < j + 1 → h_ai hh d i = nI (hd (i + e)) ∧ h_ai hh n i = nI (hn (i + e))) ∧ (∀ i, j + 1 ≤ i → h_ai hh d i = h_ai h d i ∧ h_ai hh n i = h_ai h n i)) (fun x y z hh q => ?_) k1 k2 k3 r1 r2 l1 l2 (by omega) (by omega) (by omega) ⟨fun z => ?_, fun _ => ⟨v1, v2, v1, v2, rfl, rfl, nI_1 (e + j), ?_⟩⟩
      · obtain ⟨rfl, rfl, rfl, z1, z2, z3, z4, z5, z6, z7⟩ := q
        exact ih (j + 1) (by omega) hh z1 z2 z3 z4 z5 z6 z7
      · rw [m1, i_le (by omega) (by omega)] at z
        omega
      · rw [x1, x2, ai_ne e3.symm]
        refine ⟨(f.sA _ _ (Or.inl (Or.inr (Or.inl rfl)))).sA _ _ (Or.inl (Or.inr (Or.inr rfl))), r, K1, m1, t1, fun i hi => ?_, fun i hi => ?_⟩
        · rw [ai_ne e3, ai_self, ai_self, ai_ne e3.symm]
          by_cases z : i = j
          · rw [z, va_up_self, va_up_self, (q2 (e + j) (by omega)).1, (q2 (e + j) (by omega)).2, Nat.add_comm e j]
            exact hv (j + e) (by omega)
          · rw [va_up_ne _ _ z, va_up_ne _ _ z]
            exact q1 i (by omega)
        · rw [ai_ne e3, ai_self, ai_self, ai_ne e3.symm, va_up_ne _ _ (by omega), va_up_ne _ _ (by omega)]
          exact q2 i (by omega)
  obtain ⟨⟨k1, k2, k3⟩, ⟨r1, r2⟩, ⟨l1, l2⟩, _⟩ := id K
  refine t_X3_removeOldestHeaps_0 sh p _ (K2 := fun x y z hh => x = p ∧ y = nI e ∧ z = nI (e + 0) ∧ hh = h) (fun x y z hh q => ?_) k1 k2 k3 r1 r2 l1 l2 (by omega) (by omega) (by omega) ⟨rfl, rfl, rfl, rfl⟩
  obtain ⟨rfl, rfl, rfl, rfl⟩ := q
  exact loop (m - e) 0 (by omega) hh (ex.rf _ _) ⟨rfl, rfl⟩ K hm rfl (fun i hi => by omega) (fun i _ => ⟨rfl, rfl⟩)
theorem pL_cutB {m : Nat} {hd hn nt : Nat → Nat} (H : pL m hd hn nt) {e b : Nat} (he : e ≤ m) (h1 : ∀ j, j < e → hd j < b) (h2 : ∀ j, e ≤ j → j < m → b ≤ hd j) : pL (m - e) (fun i => hd (i + e)) (fun i => hn (i + e)) (fun x => if b ≤ x then nt x else 0) := by
  have := pL_cut H he
  have ef : (fun x => if e < m ∧ hd e ≤ x then nt x else 0) = fun x => if b ≤ x then nt x else 0 := funext fun x => by
    by_cases z : b ≤ x
    · rw [if_pos z]
      by_cases y : e < m ∧ hd e ≤ x
      · rw [if_pos y]
      · rw [if_neg y]
        refine (pL_no H (fun i hi w => y ?_)).symm
        have hei : e ≤ i := by
          rcases Nat.lt_or_ge i e with u | u
          · have := h1 i u; omega
          · exact u
        have := pL_mono H hei hi
        exact ⟨by omega, by omega⟩
    · rw [if_neg z, if_neg]
      intro y
      have := h2 e (Nat.le_refl _) y.1
      omega
  rw [ef] at this
  exact this
theorem fb_sm_lt (f : Nat → Nat) {i j : Nat} (h : i ≤ j) : fb_sm f i ≤ fb_sm f j := by
  have := fb_sm_mono f i (j - i)
  rwa [show i + (j - i) = j by omega] at this
theorem fb_sm_cut (nt : Nat → Nat) (b : Nat) : ∀ x, b ≤ x → fb_sm (fun y => if b ≤ y then nt y else 0) x = fb_sm nt x - fb_sm nt b := by
  intro x hx
  have h0 : ∀ y, y ≤ b → fb_sm (fun y => if b ≤ y then nt y else 0) y = 0 := by
    intro y
    induction y with
    | zero => intro _; rfl
    | succ y ih =>
      intro hy
      rw [fb_sm_succ, ih (by omega), if_neg (by omega)]
  have : ∀ w, fb_sm (fun y => if b ≤ y then nt y else 0) (b + w) + fb_sm nt b = fb_sm nt (b + w) := by
    intro w
    induction w with
    | zero => rw [Nat.add_zero, h0 b (Nat.le_refl _), Nat.zero_add]
    | succ w ih =>
      rw [show b + (w + 1) = (b + w) + 1 by omega, fb_sm_succ, fb_sm_succ, if_pos (by omega)]
      omega
  have := this (x - b)
  rw [show b + (x - b) = x by omega] at this
  omega
set_option maxHeartbeats 1000000 in
theorem c_dropB {h : mm_H} {Q : Option Value → mm_H → Prop} {p d n c b : Nat} {nt : Nat → Nat} {x : Int32} (sh : s_h h) (P : pS h p d n c nt) (hb : b ≤ 2000) (hx : ∀ v, v ≤ 2000 → (x ≤ nI v ↔ b ≤ v)) (k : ∀ h', ex h h' (p3 p d n) → rm h h' → pS h' p d n c (fun y => if b ≤ y then nt y else 0) → Q (some (.int (nI (fb_sm nt b)))) h') : w_c 1 31 [.ref p, .int x] h Q := by
  obtain ⟨m, hd, hn, A, L, T, B⟩ := P
  obtain ⟨K, hmc, hm, hv⟩ := id A
  obtain ⟨e1, e2, e3⟩ := K.ne
  obtain ⟨⟨k1, k2, k3⟩, ⟨r1, r2⟩, ⟨l1, l2⟩, ⟨b1, b2, b3, b4, b5, b6, b7⟩, c1, c2⟩ := id K
  have fin : ∀ i, i ≤ m → (∀ j, j < i → hd j < b) → (∀ j, i ≤ j → j < m → b ≤ hd j) → w_c 0 32 [.ref p, .int (nI i)] (h_sI h 195 p (h_oi h 195 p - nI (fb_sm hn i))) (fun r h2 => r = none ∧ s_h h2 ∧ Q (some (.int (nI (fb_sm hn i)))) h2) := by
    intro i hi h1 h2
    have es : fb_sm nt b = fb_sm hn i := pL_sum L b i hi h1 h2
    have hle : fb_sm nt b ≤ fb_sm nt 2001 := fb_sm_lt nt (by omega)
    have f1 : ex h (h_sI h 195 p (h_oi h 195 p - nI (fb_sm hn i))) (p3 p d n) := (ex.rf _ _).sI _ (Or.inl (Or.inl rfl))
    have s1 := s_h.ex sh f1 (p3_70 K)
    have A1 : pA (h_sI h 195 p (h_oi h 195 p - nI (fb_sm hn i))) p d n c m hd hn := ⟨K, hmc, (oi_neG (by decide) p).trans hm, hv⟩
    refine c_rmold s1 A1 hi (fun h' f2 g2 A2 t2 => ⟨rfl, s_h.ex s1 f2 (p3_70 K), ?_⟩)
    rw [← es]
    refine k h' (f1.tr f2 (fun _ z => z) (fun _ _ z => z)) g2 ⟨m - i, _, _, A2, pL_cutB L hi h1 h2, ?_, ?_⟩
    · rw [t2, oi_self, T, ← es, nI_sub hle, fb_sm_cut nt b 2001 (by omega)]
    · rw [fb_sm_cut nt b 2001 (by omega)]
      omega
  have loop : ∀ w i, i + w = m → (∀ j, j < i → hd j < b) → w_p (0 + 1) (3, 5, mc_X3_dropBefore) 7 [(0, .ref p), (1, .int x), (2, .int (nI (fb_sm hn i))), (3, .int (nI i)), (4, .int (nI i))] [] h Q := by
    intro w
    induction w with
    | zero =>
      intro i hi h1
      refine t_X3_dropBefore_7 (D := 0) sh p _ _ _ _ (K7 := fun _ _ _ _ _ _ => False) (fun _ _ _ _ _ _ z => z.elim) k1 k2 k3 r1 r2 l1 l2 (by omega) (by omega) (by omega) ⟨fun _ => fin i (by omega) h1 (fun j _ _ => by omega), fun z => absurd ?_ z⟩
      rw [hm, i_le (by omega) (by omega)]
      omega
    | succ w ih =>
      intro i hi h1
      have v1 : vp_in (nI i) c := vp_in_nI (by omega) (by omega)
      have hdi := (L.2.1 i (by omega)).1
      refine t_X3_dropBefore_7 (D := 0) sh p _ _ _ _ (K7 := fun y1 y2 y3 y4 y5 hh => y1 = p ∧ y2 = x ∧ y3 = nI (fb_sm hn (i + 1)) ∧ y4 = nI (i + 1) ∧ y5 = nI (i + 1) ∧ hh = h ∧ hd i < b) (fun y1 y2 y3 y4 y5 hh q => ?_) k1 k2 k3 r1 r2 l1 l2 (by omega) (by omega) (by omega) ⟨fun z => ?_, fun _ => ⟨v1, ?_⟩⟩
      · obtain ⟨rfl, rfl, rfl, rfl, rfl, rfl, hlt⟩ := q
        refine ih (i + 1) (by omega) (fun j hj => ?_)
        by_cases z : j = i
        · rw [z]; exact hlt
        · exact h1 j (by omega)
      · rw [hm, i_le (by omega) (by omega)] at z
        omega
      · rw [i_cl (by omega), (hv i (by omega)).1, hx _ hdi, (hv i (by omega)).2]
        refine ⟨fun z => fin i (by omega) h1 (fun j hj hjm => by have := pL_mono L hj hjm; omega), fun z => ⟨v1, rfl, rfl, ?_, nI_1 i, nI_1 i, rfl, by omega⟩⟩
        rw [nI_add]
        rfl
  refine t_X3_dropBefore_0 (D := 0) sh p _ (K7 := fun y1 y2 y3 y4 y5 hh => y1 = p ∧ y2 = x ∧ y3 = nI (fb_sm hn 0) ∧ y4 = nI 0 ∧ y5 = nI 0 ∧ hh = h) (fun y1 y2 y3 y4 y5 hh q => ?_) k1 k2 k3 r1 r2 l1 l2 (by omega) (by omega) (by omega) ⟨rfl, rfl, rfl, rfl, rfl, rfl⟩
  obtain ⟨rfl, rfl, rfl, rfl, rfl, rfl⟩ := q
  exact loop m 0 (by omega) (fun j hj => by omega)
end
section
set_option maxRecDepth 20000 in
theorem t_X3_insertHeap_0 {D : Nat} {h : mm_H} {Q : Option Value → mm_H → Prop} (sh : s_h h) (p : Nat) (at0 : Int32) (day : Int32) (am : Int32) {K46 : Nat → Int32 → Int32 → Int32 → mm_H → Prop} (k46 : ∀ (p : Nat) (at0 : Int32) (day : Int32) (am : Int32) (h : mm_H), K46 p at0 day am h → w_p (D + 1) (3, 5, mc_X3_insertHeap) 46 [(0, .ref p), (1, .int at0), (2, .int day), (3, .int am)] [] h Q) {pd pn cp : Nat} (kp : h_kd h p = 4) (kd : h_kd h pd = 20) (kn : h_kd h pn = 20) (rd : h_or h 192 p = some pd) (rn : h_or h 193 p = some pn) (ad : h_al h pd = cp) (an : h_al h pn = cp) (hp : 16 ≤ p) (hd : 16 ≤ pd) (hn : 16 ≤ pn)
    (F : (((h_oi h 194 p) < (Int32.ofNat cp) → K46 p at0 day am h) ∧ (¬ ((h_oi h 194 p) < (Int32.ofNat cp)) → w_c D 154 [.ref pd, .int ((h_oi h 194 p) * (2 : Int32))] h (fun r h2 => ∃ z3 : Option Nat, r = some (va_rf z3) ∧ s_h h2 ∧ (h_kd h2 p = 4 ∧ (h_kd (h_sR h2 192 p z3) p = 4 ∧ (h_kd (h_sR h2 192 p z3) p = 4 ∧ w_c D 154 [va_rf (h_or (h_sR h2 192 p z3) 193 p), .int ((h_oi h2 194 p) * (2 : Int32))] (h_sR h2 192 p z3) (fun r h7 => ∃ z8 : Option Nat, r = some (va_rf z8) ∧ s_h h7 ∧ (h_kd h7 p = 4 ∧ K46 p at0 day am (h_sR h7 193 p z8)))))))))) :
    w_c (D + 1) 28 [.ref p, .int at0, .int day, .int am] h Q := by
  refine w_ci (M := (3, 5, mc_X3_insertHeap)) rfl (Nat.le_of_ble_eq_true rfl) ?_
  show w_p _ _ 0 [(0, .ref p), (1, .int at0), (2, .int day), (3, .int am)] [] h Q
  refine w_b 1 1 [(0, .ref p), (1, .int at0), (2, .int day), (3, .int am)] [.ref p] rfl ?_
  refine w_get (g := 194) rfl rfl rfl kp ?_
  refine w_b 1 5 [(0, .ref p), (1, .int at0), (2, .int day), (3, .int am)] [.ref p, .int (h_oi h 194 p)] rfl ?_
  refine w_getS (b := pd) rfl rfl rfl kp (rd) ?_
  refine w_alen rfl (by rw [show _ = 20 from kd]; decide) ?_
  rw [show h_al h pd = cp from ad]
  refine w_ic_lt (tgt := 46) (x := h_oi h 194 p) (y := Int32.ofNat cp) rfl (by decide) ⟨fun c1 => ?_, fun c1 => ?_⟩
  · have F := F.1 c1
    exact k46 _ _ _ _ _ F
  · have F := F.2 c1
    refine w_b 2 14 [(0, .ref p), (1, .int at0), (2, .int day), (3, .int am)] [.ref p, .ref p] rfl ?_
    refine w_getS (b := pd) rfl rfl rfl kp (rd) ?_
    refine w_b 1 18 [(0, .ref p), (1, .int at0), (2, .int day), (3, .int am)] [.ref p, .ref pd, .ref p] rfl ?_
    refine w_get (g := 194) rfl rfl rfl kp ?_
    refine w_b 2 23 [(0, .ref p), (1, .int at0), (2, .int day), (3, .int am)] [.int ((h_oi h 194 p) * (2 : Int32)), .ref pd, .ref p] rfl ?_
    refine w_cs (As := [.ref pd, .int ((h_oi h 194 p) * (2 : Int32))]) (rest := [.ref p]) rfl rfl rfl (Nat.le_of_ble_eq_true rfl) (dc := D) (by omega) (F.mono (fun r h2 F => ?_))
    obtain ⟨z3, rfl, sh2, F⟩ := F
    show w_p _ _ 26 [(0, .ref p), (1, .int at0), (2, .int day), (3, .int am)] [va_rf z3, .ref p] h2 _
    obtain ⟨g4, F⟩ := F
    refine w_putR (g := 192) (x := z3) rfl rfl rfl g4 hp ?_
    refine w_b 2 31 [(0, .ref p), (1, .int at0), (2, .int day), (3, .int am)] [.ref p, .ref p] rfl ?_
    obtain ⟨g5, F⟩ := F
    refine w_getR (g := 193) rfl rfl rfl g5 ?_
    refine w_b 1 35 [(0, .ref p), (1, .int at0), (2, .int day), (3, .int am)] [.ref p, va_rf (h_or (h_sR h2 192 p z3) 193 p), .ref p] rfl ?_
    obtain ⟨g6, F⟩ := F
    refine w_get (g := 194) rfl rfl rfl g6 ?_
    refine w_b 2 40 [(0, .ref p), (1, .int at0), (2, .int day), (3, .int am)] [.int ((h_oi h2 194 p) * (2 : Int32)), va_rf (h_or (h_sR h2 192 p z3) 193 p), .ref p] rfl ?_
    refine w_cs (As := [va_rf (h_or (h_sR h2 192 p z3) 193 p), .int ((h_oi h2 194 p) * (2 : Int32))]) (rest := [.ref p]) rfl rfl rfl (Nat.le_of_ble_eq_true rfl) (dc := D) (by omega) (F.mono (fun r h7 F => ?_))
    obtain ⟨z8, rfl, sh7, F⟩ := F
    show w_p _ _ 43 [(0, .ref p), (1, .int at0), (2, .int day), (3, .int am)] [va_rf z8, .ref p] h7 _
    obtain ⟨g9, F⟩ := F
    refine w_putR (g := 193) (x := z8) rfl rfl rfl g9 hp ?_
    exact k46 _ _ _ _ _ F

set_option maxRecDepth 20000 in
theorem t_X3_insertHeap_46 {D : Nat} {h : mm_H} {Q : Option Value → mm_H → Prop} (sh : s_h h) (p : Nat) (at0 : Int32) (day : Int32) (am : Int32) {K52 : Nat → Int32 → Int32 → Int32 → Int32 → mm_H → Prop} (k52 : ∀ (p : Nat) (at0 : Int32) (day : Int32) (am : Int32) (x4 : Int32) (h : mm_H), K52 p at0 day am x4 h → w_p (D + 1) (3, 5, mc_X3_insertHeap) 52 [(0, .ref p), (1, .int at0), (2, .int day), (3, .int am), (4, .int x4)] [] h Q) {pd pn cp : Nat} (kp : h_kd h p = 4) (kd : h_kd h pd = 20) (kn : h_kd h pn = 20) (rd : h_or h 192 p = some pd) (rn : h_or h 193 p = some pn) (ad : h_al h pd = cp) (an : h_al h pn = cp) (hp : 16 ≤ p) (hd : 16 ≤ pd) (hn : 16 ≤ pn)
    (F : K52 p at0 day am (h_oi h 194 p) h) :
    w_p (D + 1) (3, 5, mc_X3_insertHeap) 46 [(0, .ref p), (1, .int at0), (2, .int day), (3, .int am)] [] h Q := by
  refine w_b 1 47 [(0, .ref p), (1, .int at0), (2, .int day), (3, .int am)] [.ref p] rfl ?_
  refine w_get (g := 194) rfl rfl rfl kp ?_
  refine w_b 1 52 [(4, .int (h_oi h 194 p)), (0, .ref p), (1, .int at0), (2, .int day), (3, .int am)] [] rfl ?_
  refine w_lo [0, 1, 2, 3, 4] [(0, .ref p), (1, .int at0), (2, .int day), (3, .int am), (4, .int (h_oi h 194 p))] rfl rfl ?_
  exact k52 _ _ _ _ _ _ F

set_option maxRecDepth 20000 in
theorem t_X3_insertHeap_52 {D : Nat} {h : mm_H} {Q : Option Value → mm_H → Prop} (sh : s_h h) (p : Nat) (at0 : Int32) (day : Int32) (am : Int32) (x4 : Int32) {K52 : Nat → Int32 → Int32 → Int32 → Int32 → mm_H → Prop} (k52 : ∀ (p : Nat) (at0 : Int32) (day : Int32) (am : Int32) (x4 : Int32) (h : mm_H), K52 p at0 day am x4 h → w_p (D + 1) (3, 5, mc_X3_insertHeap) 52 [(0, .ref p), (1, .int at0), (2, .int day), (3, .int am), (4, .int x4)] [] h Q) {pd pn cp : Nat} (kp : h_kd h p = 4) (kd : h_kd h pd = 20) (kn : h_kd h pn = 20) (rd : h_or h 192 p = some pd) (rn : h_or h 193 p = some pn) (ad : h_al h pd = cp) (an : h_al h pn = cp) (hp : 16 ≤ p) (hd : 16 ≤ pd) (hn : 16 ≤ pn)
    (F : ((x4 ≤ at0 → (vp_in at0 cp ∧ (vp_in at0 cp ∧ Q none (h_sI (h_sA (h_sA h pd at0.toNatClampNeg day) pn at0.toNatClampNeg am) 194 p ((h_oi h 194 p) + 1))))) ∧ (¬ (x4 ≤ at0) → (vp_in (x4 - (1 : Int32)) cp ∧ (vp_in x4 cp ∧ (vp_in (x4 - (1 : Int32)) cp ∧ (vp_in x4 cp ∧ K52 p at0 day am (x4 + (-1)) (h_sA (h_sA h pd x4.toNatClampNeg (h_ai h pd (x4 - (1 : Int32)).toNatClampNeg)) pn x4.toNatClampNeg (h_ai (h_sA h pd x4.toNatClampNeg (h_ai h pd (x4 - (1 : Int32)).toNatClampNeg)) pn (x4 - (1 : Int32)).toNatClampNeg))))))))) :
    w_p (D + 1) (3, 5, mc_X3_insertHeap) 52 [(0, .ref p), (1, .int at0), (2, .int day), (3, .int am), (4, .int x4)] [] h Q := by
  refine w_b 2 55 [(0, .ref p), (1, .int at0), (2, .int day), (3, .int am), (4, .int x4)] [.int at0, .int x4] rfl ?_
  refine w_ic_le (tgt := 96) (x := x4) (y := at0) rfl (by decide) ⟨fun c1 => ?_, fun c1 => ?_⟩
  · have F := F.1 c1
    refine w_b 1 97 [(0, .ref p), (1, .int at0), (2, .int day), (3, .int am), (4, .int x4)] [.ref p] rfl ?_
    refine w_getS (b := pd) rfl rfl rfl kp (rd) ?_
    refine w_b 2 102 [(0, .ref p), (1, .int at0), (2, .int day), (3, .int am), (4, .int x4)] [.int day, .int at0, .ref pd] rfl ?_
    obtain ⟨g2, F⟩ := F
    refine w_iast rfl kd hd (by rw [show h_al h pd = cp from ad]; exact g2) ?_
    refine w_b 1 104 [(0, .ref p), (1, .int at0), (2, .int day), (3, .int am), (4, .int x4)] [.ref p] rfl ?_
    refine w_getS (b := pn) rfl rfl rfl kp (rn) ?_
    refine w_b 2 109 [(0, .ref p), (1, .int at0), (2, .int day), (3, .int am), (4, .int x4)] [.int am, .int at0, .ref pn] rfl ?_
    obtain ⟨g3, F⟩ := F
    refine w_iast rfl kn hn (by rw [show h_al (h_sA h pd at0.toNatClampNeg day) pn = cp from an]; exact g3) ?_
    refine w_b 2 112 [(0, .ref p), (1, .int at0), (2, .int day), (3, .int am), (4, .int x4)] [.ref p, .ref p] rfl ?_
    refine w_get (g := 194) rfl rfl rfl kp ?_
    refine w_b 2 117 [(0, .ref p), (1, .int at0), (2, .int day), (3, .int am), (4, .int x4)] [.int ((h_oi h 194 p) + 1), .ref p] rfl ?_
    refine w_put (g := 194) (x := (h_oi h 194 p) + 1) rfl rfl rfl kp hp ?_
    exact w_vr rfl F
  · have F := F.2 c1
    refine w_b 1 59 [(0, .ref p), (1, .int at0), (2, .int day), (3, .int am), (4, .int x4)] [.ref p] rfl ?_
    refine w_getS (b := pd) rfl rfl rfl kp (rd) ?_
    refine w_b 2 65 [(0, .ref p), (1, .int at0), (2, .int day), (3, .int am), (4, .int x4)] [.ref p, .int x4, .ref pd] rfl ?_
    refine w_getS (b := pd) rfl rfl rfl kp (rd) ?_
    refine w_b 3 72 [(0, .ref p), (1, .int at0), (2, .int day), (3, .int am), (4, .int x4)] [.int (x4 - (1 : Int32)), .ref pd, .int x4, .ref pd] rfl ?_
    obtain ⟨g4, F⟩ := F
    refine w_iald rfl kd (by rw [show h_al h pd = cp from ad]; exact g4) ?_
    obtain ⟨g5, F⟩ := F
    refine w_iast rfl kd hd (by rw [show h_al h pd = cp from ad]; exact g5) ?_
    refine w_b 1 75 [(0, .ref p), (1, .int at0), (2, .int day), (3, .int am), (4, .int x4)] [.ref p] rfl ?_
    refine w_getS (b := pn) rfl rfl rfl kp (rn) ?_
    refine w_b 2 81 [(0, .ref p), (1, .int at0), (2, .int day), (3, .int am), (4, .int x4)] [.ref p, .int x4, .ref pn] rfl ?_
    refine w_getS (b := pn) rfl rfl rfl kp (rn) ?_
    refine w_b 3 88 [(0, .ref p), (1, .int at0), (2, .int day), (3, .int am), (4, .int x4)] [.int (x4 - (1 : Int32)), .ref pn, .int x4, .ref pn] rfl ?_
    obtain ⟨g6, F⟩ := F
    refine w_iald rfl kn (by rw [show h_al (h_sA h pd x4.toNatClampNeg (h_ai h pd (x4 - (1 : Int32)).toNatClampNeg)) pn = cp from an]; exact g6) ?_
    obtain ⟨g7, F⟩ := F
    refine w_iast rfl kn hn (by rw [show h_al (h_sA h pd x4.toNatClampNeg (h_ai h pd (x4 - (1 : Int32)).toNatClampNeg)) pn = cp from an]; exact g7) ?_
    refine w_b 2 52 [(4, .int (x4 + (-1))), (0, .ref p), (1, .int at0), (2, .int day), (3, .int am)] [] rfl ?_
    refine w_lo [0, 1, 2, 3, 4] [(0, .ref p), (1, .int at0), (2, .int day), (3, .int am), (4, .int (x4 + (-1)))] rfl rfl ?_
    exact k52 _ _ _ _ _ _ F

set_option maxRecDepth 20000 in
theorem t_X3_put_0 {D : Nat} {h : mm_H} {Q : Option Value → mm_H → Prop} (sh : s_h h) (p : Nat) (day : Int32) (am : Int32) {K20 : Nat → Int32 → Int32 → Int32 → mm_H → Prop} (k20 : ∀ (p : Nat) (day : Int32) (am : Int32) (x3 : Int32) (h : mm_H), K20 p day am x3 h → w_p (D + 1) (3, 4, mc_X3_put) 20 [(0, .ref p), (1, .int day), (2, .int am), (3, .int x3)] [] h Q) {pd pn cp : Nat} (kp : h_kd h p = 4) (kd : h_kd h pd = 20) (kn : h_kd h pn = 20) (rd : h_or h 192 p = some pd) (rn : h_or h 193 p = some pn) (ad : h_al h pd = cp) (an : h_al h pn = cp) (hp : 16 ≤ p) (hd : 16 ≤ pd) (hn : 16 ≤ pn)
    (F : ((0 < am → K20 p day am (h_oi h 194 p) (h_sI h 195 p ((h_oi h 195 p) + am))) ∧ (¬ (0 < am) → Q none h))) :
    w_c (D + 1) 27 [.ref p, .int day, .int am] h Q := by
  refine w_ci (M := (3, 4, mc_X3_put)) rfl (Nat.le_of_ble_eq_true rfl) ?_
  show w_p _ _ 0 [(0, .ref p), (1, .int day), (2, .int am)] [] h Q
  refine w_b 1 1 [(0, .ref p), (1, .int day), (2, .int am)] [.int am] rfl ?_
  refine w_if_gt (tgt := 5) (x := am) rfl (by decide) ⟨fun c1 => ?_, fun c1 => ?_⟩
  · have F := F.1 c1
    refine w_b 2 7 [(0, .ref p), (1, .int day), (2, .int am)] [.ref p, .ref p] rfl ?_
    refine w_get (g := 195) rfl rfl rfl kp ?_
    refine w_b 2 12 [(0, .ref p), (1, .int day), (2, .int am)] [.int ((h_oi h 195 p) + am), .ref p] rfl ?_
    refine w_put (g := 195) (x := (h_oi h 195 p) + am) rfl rfl rfl kp hp ?_
    refine w_b 1 16 [(0, .ref p), (1, .int day), (2, .int am)] [.ref p] rfl ?_
    refine w_get (g := 194) rfl rfl rfl kp ?_
    refine w_b 1 20 [(3, .int (h_oi h 194 p)), (0, .ref p), (1, .int day), (2, .int am)] [] rfl ?_
    refine w_lo [0, 1, 2, 3] [(0, .ref p), (1, .int day), (2, .int am), (3, .int (h_oi h 194 p))] rfl rfl ?_
    exact k20 _ _ _ _ _ F
  · have F := F.2 c1
    exact w_vr rfl F

set_option maxRecDepth 20000 in
theorem t_X3_put_20 {D : Nat} {h : mm_H} {Q : Option Value → mm_H → Prop} (sh : s_h h) (p : Nat) (day : Int32) (am : Int32) (x3 : Int32) {K20 : Nat → Int32 → Int32 → Int32 → mm_H → Prop} (k20 : ∀ (p : Nat) (day : Int32) (am : Int32) (x3 : Int32) (h : mm_H), K20 p day am x3 h → w_p (D + 1) (3, 4, mc_X3_put) 20 [(0, .ref p), (1, .int day), (2, .int am), (3, .int x3)] [] h Q) {pd pn cp : Nat} (kp : h_kd h p = 4) (kd : h_kd h pd = 20) (kn : h_kd h pn = 20) (rd : h_or h 192 p = some pd) (rn : h_or h 193 p = some pn) (ad : h_al h pd = cp) (an : h_al h pn = cp) (hp : 16 ≤ p) (hd : 16 ≤ pd) (hn : 16 ≤ pn)
    (F : ((x3 ≤ 0 → ((x3 ≤ 0 → w_c D 28 [.ref p, .int x3, .int day, .int am] h (fun r h3 => r = none ∧ s_h h3 ∧ Q none h3)) ∧ (¬ (x3 ≤ 0) → (vp_in (x3 - (1 : Int32)) cp ∧ ((¬ (h_ai h pd (x3 - (1 : Int32)).toNatClampNeg) = day → w_c D 28 [.ref p, .int x3, .int day, .int am] h (fun r h6 => r = none ∧ s_h h6 ∧ Q none h6)) ∧ ((h_ai h pd (x3 - (1 : Int32)).toNatClampNeg) = day → (vp_in (x3 - (1 : Int32)) cp ∧ (vp_in (x3 - (1 : Int32)) cp ∧ Q none (h_sA h pn ((x3 - (1 : Int32)).toNatClampNeg) ((h_ai h pn (x3 - (1 : Int32)).toNatClampNeg) + am)))))))))) ∧ (¬ (x3 ≤ 0) → (vp_in (x3 - (1 : Int32)) cp ∧ (((h_ai h pd (x3 - (1 : Int32)).toNatClampNeg) ≤ day → ((x3 ≤ 0 → w_c D 28 [.ref p, .int x3, .int day, .int am] h (fun r h12 => r = none ∧ s_h h12 ∧ Q none h12)) ∧ (¬ (x3 ≤ 0) → (vp_in (x3 - (1 : Int32)) cp ∧ ((¬ (h_ai h pd (x3 - (1 : Int32)).toNatClampNeg) = day → w_c D 28 [.ref p, .int x3, .int day, .int am] h (fun r h15 => r = none ∧ s_h h15 ∧ Q none h15)) ∧ ((h_ai h pd (x3 - (1 : Int32)).toNatClampNeg) = day → (vp_in (x3 - (1 : Int32)) cp ∧ (vp_in (x3 - (1 : Int32)) cp ∧ Q none (h_sA h pn ((x3 - (1 : Int32)).toNatClampNeg) ((h_ai h pn (x3 - (1 : Int32)).toNatClampNeg) + am)))))))))) ∧ (¬ ((h_ai h pd (x3 - (1 : Int32)).toNatClampNeg) ≤ day) → K20 p day am (x3 + (-1)) h)))))) :
    w_p (D + 1) (3, 4, mc_X3_put) 20 [(0, .ref p), (1, .int day), (2, .int am), (3, .int x3)] [] h Q := by
  refine w_b 1 21 [(0, .ref p), (1, .int day), (2, .int am), (3, .int x3)] [.int x3] rfl ?_
  refine w_if_le (tgt := 42) (x := x3) rfl (by decide) ⟨fun c1 => ?_, fun c1 => ?_⟩
  · have F := F.1 c1
    refine w_b 1 43 [(0, .ref p), (1, .int day), (2, .int am), (3, .int x3)] [.int x3] rfl ?_
    refine w_if_le (tgt := 73) (x := x3) rfl (by decide) ⟨fun c2 => ?_, fun c2 => ?_⟩
    · have F := F.1 c2
      refine w_b 4 77 [(0, .ref p), (1, .int day), (2, .int am), (3, .int x3)] [.int am, .int day, .int x3, .ref p] rfl ?_
      refine w_cv (As := [.int x3, .int day, .int am]) (b := p) (rest := []) rfl rfl rfl (Nat.le_of_ble_eq_true rfl) kp (fun z => absurd z (by decide)) (dc := D) (by omega) (F.mono (fun r h3 F => ?_))
      obtain ⟨rfl, sh3, F⟩ := F
      show w_p _ _ 80 [(0, .ref p), (1, .int day), (2, .int am), (3, .int x3)] [] h3 _
      exact w_vr rfl F
    · have F := F.2 c2
      refine w_b 1 47 [(0, .ref p), (1, .int day), (2, .int am), (3, .int x3)] [.ref p] rfl ?_
      refine w_getS (b := pd) rfl rfl rfl kp (rd) ?_
      refine w_b 3 53 [(0, .ref p), (1, .int day), (2, .int am), (3, .int x3)] [.int (x3 - (1 : Int32)), .ref pd] rfl ?_
      obtain ⟨g4, F⟩ := F
      refine w_iald rfl kd (by rw [show h_al h pd = cp from ad]; exact g4) ?_
      refine w_b 1 55 [(0, .ref p), (1, .int day), (2, .int am), (3, .int x3)] [.int day, .int (h_ai h pd (x3 - (1 : Int32)).toNatClampNeg)] rfl ?_
      refine w_ic_ne (tgt := 73) (x := h_ai h pd (x3 - (1 : Int32)).toNatClampNeg) (y := day) rfl (by decide) ⟨fun c5 => ?_, fun c5 => ?_⟩
      · have F := F.1 c5
        refine w_b 4 77 [(0, .ref p), (1, .int day), (2, .int am), (3, .int x3)] [.int am, .int day, .int x3, .ref p] rfl ?_
        refine w_cv (As := [.int x3, .int day, .int am]) (b := p) (rest := []) rfl rfl rfl (Nat.le_of_ble_eq_true rfl) kp (fun z => absurd z (by decide)) (dc := D) (by omega) (F.mono (fun r h6 F => ?_))
        obtain ⟨rfl, sh6, F⟩ := F
        show w_p _ _ 80 [(0, .ref p), (1, .int day), (2, .int am), (3, .int x3)] [] h6 _
        exact w_vr rfl F
      · have F := F.2 (Decidable.not_not.mp c5)
        refine w_b 1 59 [(0, .ref p), (1, .int day), (2, .int am), (3, .int x3)] [.ref p] rfl ?_
        refine w_getS (b := pn) rfl rfl rfl kp (rn) ?_
        refine w_b 4 66 [(0, .ref p), (1, .int day), (2, .int am), (3, .int x3)] [.int (x3 - (1 : Int32)), .ref pn, .int (x3 - (1 : Int32)), .ref pn] rfl ?_
        obtain ⟨g7, F⟩ := F
        refine w_iald rfl kn (by rw [show h_al h pn = cp from an]; exact g7) ?_
        refine w_b 2 69 [(0, .ref p), (1, .int day), (2, .int am), (3, .int x3)] [.int ((h_ai h pn (x3 - (1 : Int32)).toNatClampNeg) + am), .int (x3 - (1 : Int32)), .ref pn] rfl ?_
        obtain ⟨g8, F⟩ := F
        refine w_iast rfl kn hn (by rw [show h_al h pn = cp from an]; exact g8) ?_
        refine w_b 1 80 [(0, .ref p), (1, .int day), (2, .int am), (3, .int x3)] [] rfl ?_
        exact w_vr rfl F
  · have F := F.2 c1
    refine w_b 1 25 [(0, .ref p), (1, .int day), (2, .int am), (3, .int x3)] [.ref p] rfl ?_
    refine w_getS (b := pd) rfl rfl rfl kp (rd) ?_
    refine w_b 3 31 [(0, .ref p), (1, .int day), (2, .int am), (3, .int x3)] [.int (x3 - (1 : Int32)), .ref pd] rfl ?_
    obtain ⟨g9, F⟩ := F
    refine w_iald rfl kd (by rw [show h_al h pd = cp from ad]; exact g9) ?_
    refine w_b 1 33 [(0, .ref p), (1, .int day), (2, .int am), (3, .int x3)] [.int day, .int (h_ai h pd (x3 - (1 : Int32)).toNatClampNeg)] rfl ?_
    refine w_ic_le (tgt := 42) (x := h_ai h pd (x3 - (1 : Int32)).toNatClampNeg) (y := day) rfl (by decide) ⟨fun c10 => ?_, fun c10 => ?_⟩
    · have F := F.1 c10
      refine w_b 1 43 [(0, .ref p), (1, .int day), (2, .int am), (3, .int x3)] [.int x3] rfl ?_
      refine w_if_le (tgt := 73) (x := x3) rfl (by decide) ⟨fun c11 => ?_, fun c11 => ?_⟩
      · have F := F.1 c11
        refine w_b 4 77 [(0, .ref p), (1, .int day), (2, .int am), (3, .int x3)] [.int am, .int day, .int x3, .ref p] rfl ?_
        refine w_cv (As := [.int x3, .int day, .int am]) (b := p) (rest := []) rfl rfl rfl (Nat.le_of_ble_eq_true rfl) kp (fun z => absurd z (by decide)) (dc := D) (by omega) (F.mono (fun r h12 F => ?_))
        obtain ⟨rfl, sh12, F⟩ := F
        show w_p _ _ 80 [(0, .ref p), (1, .int day), (2, .int am), (3, .int x3)] [] h12 _
        exact w_vr rfl F
      · have F := F.2 c11
        refine w_b 1 47 [(0, .ref p), (1, .int day), (2, .int am), (3, .int x3)] [.ref p] rfl ?_
        refine w_getS (b := pd) rfl rfl rfl kp (rd) ?_
        refine w_b 3 53 [(0, .ref p), (1, .int day), (2, .int am), (3, .int x3)] [.int (x3 - (1 : Int32)), .ref pd] rfl ?_
        obtain ⟨g13, F⟩ := F
        refine w_iald rfl kd (by rw [show h_al h pd = cp from ad]; exact g13) ?_
        refine w_b 1 55 [(0, .ref p), (1, .int day), (2, .int am), (3, .int x3)] [.int day, .int (h_ai h pd (x3 - (1 : Int32)).toNatClampNeg)] rfl ?_
        refine w_ic_ne (tgt := 73) (x := h_ai h pd (x3 - (1 : Int32)).toNatClampNeg) (y := day) rfl (by decide) ⟨fun c14 => ?_, fun c14 => ?_⟩
        · have F := F.1 c14
          refine w_b 4 77 [(0, .ref p), (1, .int day), (2, .int am), (3, .int x3)] [.int am, .int day, .int x3, .ref p] rfl ?_
          refine w_cv (As := [.int x3, .int day, .int am]) (b := p) (rest := []) rfl rfl rfl (Nat.le_of_ble_eq_true rfl) kp (fun z => absurd z (by decide)) (dc := D) (by omega) (F.mono (fun r h15 F => ?_))
          obtain ⟨rfl, sh15, F⟩ := F
          show w_p _ _ 80 [(0, .ref p), (1, .int day), (2, .int am), (3, .int x3)] [] h15 _
          exact w_vr rfl F
        · have F := F.2 (Decidable.not_not.mp c14)
          refine w_b 1 59 [(0, .ref p), (1, .int day), (2, .int am), (3, .int x3)] [.ref p] rfl ?_
          refine w_getS (b := pn) rfl rfl rfl kp (rn) ?_
          refine w_b 4 66 [(0, .ref p), (1, .int day), (2, .int am), (3, .int x3)] [.int (x3 - (1 : Int32)), .ref pn, .int (x3 - (1 : Int32)), .ref pn] rfl ?_
          obtain ⟨g16, F⟩ := F
          refine w_iald rfl kn (by rw [show h_al h pn = cp from an]; exact g16) ?_
          refine w_b 2 69 [(0, .ref p), (1, .int day), (2, .int am), (3, .int x3)] [.int ((h_ai h pn (x3 - (1 : Int32)).toNatClampNeg) + am), .int (x3 - (1 : Int32)), .ref pn] rfl ?_
          obtain ⟨g17, F⟩ := F
          refine w_iast rfl kn hn (by rw [show h_al h pn = cp from an]; exact g17) ?_
          refine w_b 1 80 [(0, .ref p), (1, .int day), (2, .int am), (3, .int x3)] [] rfl ?_
          exact w_vr rfl F
    · have F := F.2 c10
      refine w_b 2 20 [(3, .int (x3 + (-1))), (0, .ref p), (1, .int day), (2, .int am)] [] rfl ?_
      refine w_lo [0, 1, 2, 3] [(0, .ref p), (1, .int day), (2, .int am), (3, .int (x3 + (-1)))] rfl rfl ?_
      exact k20 _ _ _ _ _ F

theorem cp_kd_ne {h : mm_H} {a N b : Nat} (e : b ≠ h_n h) : h_kd (h_cp h a N) b = h_kd h b := va_up_ne _ _ e
theorem cp_kd (h : mm_H) (a N : Nat) : h_kd (h_cp h a N) (h_n h) = 20 := va_up_self _ _ _
theorem cp_al_ne {h : mm_H} {a N b : Nat} (e : b ≠ h_n h) : h_al (h_cp h a N) b = h_al h b := va_up_ne _ _ e
theorem cp_al (h : mm_H) (a N : Nat) : h_al (h_cp h a N) (h_n h) = N := va_up_self _ _ _
theorem cp_ai_ne {h : mm_H} {a N b : Nat} (e : b ≠ h_n h) : h_ai (h_cp h a N) b = h_ai h b := va_up_ne _ _ e
theorem cp_ai (h : mm_H) (a N : Nat) : h_ai (h_cp h a N) (h_n h) = fun i => if i < h_al h a then h_ai h a i else 0 := va_up_self _ _ _
theorem sm_up (f : Nat → Nat) {i v : Nat} {n : Nat} (hi : i < n) : fb_sm (va_up f i v) n + f i = fb_sm f n + v := by
  have e : va_up f i v = fun k => if k = i then v else f k := funext fun k => by
    by_cases z : k = i
    · rw [z, va_up_self, if_pos rfl]
    · rw [va_up_ne _ _ z, if_neg z]
  rw [e]
  exact fb_sm_upd f v hi
theorem ins_lt {f : Nat → Nat} {a v i : Nat} (h : i < a) : ins f a v i = f i := if_pos h
theorem ins_at (f : Nat → Nat) (a v : Nat) : ins f a v a = v := by
  show (if a < a then f a else if a = a then v else f (a - 1)) = v
  rw [if_neg (Nat.lt_irrefl _), if_pos rfl]
theorem ins_gt {f : Nat → Nat} {a v i : Nat} (h : a < i) : ins f a v i = f (i - 1) := by
  show (if i < a then f i else if i = a then v else f (i - 1)) = _
  rw [if_neg (by omega), if_neg (by omega)]
set_option maxHeartbeats 1000000 in
theorem c_ins46 {h : mm_H} {Q : Option Value → mm_H → Prop} {p d n c m at0 day v D : Nat} {hd hn : Nat → Nat} (sh : s_h h) (A : pA h p d n c m hd hn) (hmc : m < c) (ha : at0 ≤ m) (k : ∀ h', ex h h' (p3 p d n) → rm h h' → pA h' p d n c (m + 1) (ins hd at0 day) (ins hn at0 v) → h_oi h' 195 p = h_oi h 195 p → Q none h') : w_p (D + 1) (3, 5, mc_X3_insertHeap) 46 [(0, .ref p), (1, .int (nI at0)), (2, .int (nI day)), (3, .int (nI v))] [] h Q := by
  obtain ⟨K, _, hm, hv⟩ := id A
  obtain ⟨e1, e2, e3⟩ := K.ne
  obtain ⟨⟨k1, k2, k3⟩, ⟨r1, r2⟩, ⟨l1, l2⟩, ⟨b1, b2, b3, b4, b5, b6, b7⟩, c1, c2⟩ := id K
  have loop : ∀ w, at0 + w ≤ m → ∀ h1 : mm_H, ex h h1 (p3 p d n) → rm h h1 → pK h1 p d n c → h_oi h1 194 p = nI m → h_oi h1 195 p = h_oi h 195 p → (∀ i, i ≤ at0 + w → h_ai h1 d i = h_ai h d i ∧ h_ai h1 n i = h_ai h n i) → (∀ i, at0 + w < i → i ≤ m → h_ai h1 d i = nI (hd (i - 1)) ∧ h_ai h1 n i = nI (hn (i - 1))) → w_p (D + 1) (3, 5, mc_X3_insertHeap) 52 [(0, .ref p), (1, .int (nI at0)), (2, .int (nI day)), (3, .int (nI v)), (4, .int (nI (at0 + w)))] [] h1 Q := by
    intro w
    induction w with
    | zero =>
      intro hw h1 f r K1 m1 t1 q1 q2
      obtain ⟨⟨k1, k2, k3⟩, ⟨r1, r2⟩, ⟨l1, l2⟩, _⟩ := id K1
      have v1 : vp_in (nI at0) c := vp_in_nI (by omega) (by omega)
      refine t_X3_insertHeap_52 (s_h.ex sh f (p3_70 K)) p _ _ _ _ (K52 := fun _ _ _ _ _ _ => False) (fun _ _ _ _ _ _ z => z.elim) k1 k2 k3 r1 r2 l1 l2 (by omega) (by omega) (by omega) ⟨fun _ => ⟨v1, v1, ?_⟩, fun z => absurd ?_ z⟩
      · rw [i_cl (by omega), m1, nI_1]
        refine k _ (((f.sA _ _ (Or.inl (Or.inr (Or.inl rfl)))).sA _ _ (Or.inl (Or.inr (Or.inr rfl)))).sI _ (Or.inl (Or.inl rfl))) r ⟨K1, by omega, oi_self _ _ _ _, fun i hi => ?_⟩ ((oi_neG (by decide) p).trans t1)
        show h_ai (h_sA (h_sA h1 d at0 (nI day)) n at0 (nI v)) d i = _ ∧ h_ai (h_sA (h_sA h1 d at0 (nI day)) n at0 (nI v)) n i = _
        rw [ai_ne e3, ai_self, ai_self, ai_ne e3.symm]
        rcases Nat.lt_trichotomy i at0 with y | y | y
        · rw [va_up_ne _ _ (by omega), va_up_ne _ _ (by omega), ins_lt y, ins_lt y, (q1 i (by omega)).1, (q1 i (by omega)).2]
          exact hv i (by omega)
        · subst y
          rw [va_up_self, va_up_self, ins_at, ins_at]
          exact ⟨rfl, rfl⟩
        · rw [va_up_ne _ _ (by omega), va_up_ne _ _ (by omega), ins_gt y, ins_gt y]
          exact q2 i (by omega) (by omega)
      · exact (i_le (by omega) (by omega)).mpr (Nat.le_refl _)
    | succ w ih =>
      intro hw h1 f r K1 m1 t1 q1 q2
      obtain ⟨⟨k1, k2, k3⟩, ⟨r1, r2⟩, ⟨l1, l2⟩, _⟩ := id K1
      have x0 : nI (at0 + (w + 1)) - 1 = nI (at0 + w) := nI_sub1 (by omega)
      have v1 : vp_in (nI (at0 + (w + 1)) - 1) c := by rw [x0]; exact vp_in_nI (by omega) (by omega)
      have v2 : vp_in (nI (at0 + (w + 1))) c := vp_in_nI (by omega) (by omega)
      refine t_X3_insertHeap_52 (s_h.ex sh f (p3_70 K)) p _ _ _ _ (K52 := fun y1 y2 y3 y4 y5 hh => y1 = p ∧ y2 = nI at0 ∧ y3 = nI day ∧ y4 = nI v ∧ y5 = nI (at0 + w) ∧ ex h hh (p3 p d n) ∧ rm h hh ∧ pK hh p d n c ∧ h_oi hh 194 p = nI m ∧ h_oi hh 195 p = h_oi h 195 p ∧ (∀ i, i ≤ at0 + w → h_ai hh d i = h_ai h d i ∧ h_ai hh n i = h_ai h n i) ∧ (∀ i, at0 + w < i → i ≤ m → h_ai hh d i = nI (hd (i - 1)) ∧ h_ai hh n i = nI (hn (i - 1)))) (fun y1 y2 y3 y4 y5 hh q => ?_) k1 k2 k3 r1 r2 l1 l2 (by omega) (by omega) (by omega) ⟨fun z => ?_, fun _ => ⟨v1, v2, v1, v2, rfl, rfl, rfl, rfl, ?_, ?_⟩⟩
      · obtain ⟨rfl, rfl, rfl, rfl, rfl, z1, z2, z3, z4, z5, z6, z7⟩ := q
        exact ih (by omega) hh z1 z2 z3 z4 z5 z6 z7
      · have := (i_le (by omega) (by omega)).mp z
        omega
      · rw [nI_m1 (by omega)]
        rfl
      · rw [x0, i_cl (a := at0 + w) (by omega), i_cl (a := at0 + (w + 1)) (by omega), ai_ne e3.symm]
        refine ⟨(f.sA _ _ (Or.inl (Or.inr (Or.inl rfl)))).sA _ _ (Or.inl (Or.inr (Or.inr rfl))), r, K1, m1, t1, fun i hi => ?_, fun i hi hi2 => ?_⟩
        · rw [ai_ne e3, ai_self, ai_self, ai_ne e3.symm, va_up_ne _ _ (by omega), va_up_ne _ _ (by omega)]
          exact q1 i (by omega)
        · rw [ai_ne e3, ai_self, ai_self, ai_ne e3.symm]
          by_cases z : i = at0 + (w + 1)
          · rw [z, va_up_self, va_up_self, (q1 (at0 + w) (by omega)).1, (q1 (at0 + w) (by omega)).2]
            exact hv (at0 + w) (by omega)
          · rw [va_up_ne _ _ z, va_up_ne _ _ z]
            exact q2 i (by omega) hi2
  refine t_X3_insertHeap_46 sh p _ _ _ (K52 := fun y1 y2 y3 y4 y5 hh => y1 = p ∧ y2 = nI at0 ∧ y3 = nI day ∧ y4 = nI v ∧ y5 = nI (at0 + (m - at0)) ∧ hh = h) (fun y1 y2 y3 y4 y5 hh q => ?_) k1 k2 k3 r1 r2 l1 l2 (by omega) (by omega) (by omega) ⟨rfl, rfl, rfl, rfl, ?_, rfl⟩
  · obtain ⟨rfl, rfl, rfl, rfl, rfl, rfl⟩ := q
    exact loop (m - at0) (by omega) hh (ex.rf _ _) ⟨rfl, rfl⟩ K hm rfl (fun i _ => ⟨rfl, rfl⟩) (fun i hi hi2 => by omega)
  · rw [hm, show at0 + (m - at0) = m by omega]
set_option maxHeartbeats 1000000 in
theorem c_ins {h : mm_H} {Q : Option Value → mm_H → Prop} {p d n c m at0 day v : Nat} {hd hn : Nat → Nat} (sh : s_h h) (A : pA h p d n c m hd hn) (hm1 : m ≤ 2001) (ha : at0 ≤ m) (k : ∀ h' d' n' c', ex h h' (p3 p d n) → pA h' p d' n' c' (m + 1) (ins hd at0 day) (ins hn at0 v) → (d' = d ∨ h_n h ≤ d') → (n' = n ∨ h_n h ≤ n') → gr h c h' c' → h_oi h' 195 p = h_oi h 195 p → Q none h') : w_c 21 28 [.ref p, .int (nI at0), .int (nI day), .int (nI v)] h Q := by
  obtain ⟨K, hmc, hm, hv⟩ := id A
  obtain ⟨e1, e2, e3⟩ := K.ne
  obtain ⟨⟨k1, k2, k3⟩, ⟨r1, r2⟩, ⟨l1, l2⟩, ⟨b1, b2, b3, b4, b5, b6, b7⟩, c1, c2⟩ := id K
  refine t_X3_insertHeap_0 (D := 20) sh p _ _ _ (K46 := fun y1 y2 y3 y4 hh => y1 = p ∧ y2 = nI at0 ∧ y3 = nI day ∧ y4 = nI v ∧ s_h hh ∧ ex h hh (p3 p d n) ∧ ∃ d' n' c', pA hh p d' n' c' m hd hn ∧ m < c' ∧ (d' = d ∨ h_n h ≤ d') ∧ (n' = n ∨ h_n h ≤ n') ∧ gr h c hh c' ∧ h_oi hh 195 p = h_oi h 195 p) (fun y1 y2 y3 y4 hh q => ?_) k1 k2 k3 r1 r2 l1 l2 (by omega) (by omega) (by omega) ⟨fun z => ?_, fun z => ?_⟩
  · obtain ⟨rfl, rfl, rfl, rfl, sh1, f1, d', n', c', A1, hlt, hd1, hn1, g1, t1⟩ := q
    refine c_ins46 sh1 A1 hlt ha (fun h' f2 r2' A2 t2 => k h' d' n' c' (f1.tr f2 (fun _ z => z) (fun a ha2 z => ?_)) A2 hd1 hn1 ?_ (t2.trans t1))
    · rcases z with z | z | z
      · exact Or.inl z
      · rcases hd1 with w | w
        · exact Or.inr (Or.inl (by rw [z, w]))
        · omega
      · rcases hn1 with w | w
        · exact Or.inr (Or.inr (by rw [z, w]))
        · omega
    · obtain ⟨g2, g3, g4⟩ := g1
      exact ⟨by rw [r2'.2]; exact g2, by rw [r2'.1]; exact g3, g4⟩
  · rw [hm] at z
    have := (i_lt (by omega) (by omega)).mp z
    exact ⟨rfl, rfl, rfl, rfl, sh, ex.rf _ _, d, n, c, A, this, Or.inl rfl, Or.inl rfl, ⟨by omega, by omega, Nat.le_refl _⟩, rfl⟩
  · rw [hm] at z ⊢
    have hcm : m = c := by
      have : ¬ m < c := fun y => z ((i_lt (by omega) (by omega)).mpr y)
      omega
    have em : nI m * 2 = nI (m * 2) := pk_mul m 2
    rw [em]
    have ecl : (nI (m * 2)).toNatClampNeg = m * 2 := i_cl (by omega)
    refine w_copy k2 (nI_pos (by omega)) (by rw [ecl]; omega) (by rw [ecl, l1]; omega) ?_
    rw [ecl]
    have f1 : ex h (h_cp h d (m * 2)) (p3 p d n) := (ex.rf _ _).cp _ _
    have ep : p ≠ h_n h := by omega
    have kp1 : h_kd (h_cp h d (m * 2)) p = 4 := (cp_kd_ne (a := d) (N := m * 2) ep).trans k1
    have f2 : ex h (h_sR (h_cp h d (m * 2)) 192 p (some (h_n h))) (p3 p d n) := f1.sR _ (Or.inl (Or.inl rfl))
    refine ⟨some (h_n h), rfl, s_h.ex sh f1 (p3_70 K), kp1, kp1, kp1, ?_⟩
    rw [show h_or (h_sR (h_cp h d (m * 2)) 192 p (some (h_n h))) 193 p = some n from (or_neG (by decide) p).trans r2, show h_oi (h_cp h d (m * 2)) 194 p = nI m from hm, em]
    have kn2 : h_kd (h_sR (h_cp h d (m * 2)) 192 p (some (h_n h))) n = 20 := (cp_kd_ne (a := d) (N := m * 2) (by omega)).trans k3
    have ln2 : h_al (h_sR (h_cp h d (m * 2)) 192 p (some (h_n h))) n = c := (cp_al_ne (a := d) (N := m * 2) (by omega)).trans l2
    refine w_copy kn2 (nI_pos (by omega)) (by rw [ecl]; omega) (by rw [ecl, ln2]; omega) ?_
    rw [ecl]
    have f3 : ex h (h_cp (h_sR (h_cp h d (m * 2)) 192 p (some (h_n h))) n (m * 2)) (p3 p d n) := f2.cp _ _
    have f4 : ex h (h_sR (h_cp (h_sR (h_cp h d (m * 2)) 192 p (some (h_n h))) n (m * 2)) 193 p (some (h_n h + 1))) (p3 p d n) := f3.sR _ (Or.inl (Or.inl rfl))
    have ep3 : p ≠ h_n (h_sR (h_cp h d (m * 2)) 192 p (some (h_n h))) := by show p ≠ h_n h + 1; omega
    have kp3 : h_kd (h_cp (h_sR (h_cp h d (m * 2)) 192 p (some (h_n h))) n (m * 2)) p = 4 := (cp_kd_ne (a := n) (N := m * 2) ep3).trans kp1
    have ed3 : h_n h ≠ h_n (h_sR (h_cp h d (m * 2)) 192 p (some (h_n h))) := by show h_n h ≠ h_n h + 1; omega
    have ro0 : h_or (h_cp (h_sR (h_cp h d (m * 2)) 192 p (some (h_n h))) n (m * 2)) 192 p = some (h_n h) := or_self (h_cp h d (m * 2)) 192 p (some (h_n h))
    have ro1 : h_or (h_sR (h_cp (h_sR (h_cp h d (m * 2)) 192 p (some (h_n h))) n (m * 2)) 193 p (some (h_n h + 1))) 192 p = some (h_n h) := (or_neG (by decide) p).trans ro0
    refine ⟨some (h_n h + 1), rfl, s_h.ex sh f3 (p3_70 K), kp3, rfl, rfl, rfl, rfl, s_h.ex sh f4 (p3_70 K), f4, h_n h, h_n h + 1, m * 2, ⟨⟨⟨kp3, (cp_kd_ne (a := n) (N := m * 2) ed3).trans (cp_kd h d (m * 2)), cp_kd (h_sR (h_cp h d (m * 2)) 192 p (some (h_n h))) n (m * 2)⟩, ⟨ro1, or_self _ _ _ _⟩, ⟨(cp_al_ne (a := n) (N := m * 2) ed3).trans (cp_al h d (m * 2)), cp_al (h_sR (h_cp h d (m * 2)) 192 p (some (h_n h))) n (m * 2)⟩, ⟨b1, by omega, by omega, ?_, ?_, ?_, by omega⟩, by omega, by omega⟩, by omega, hm, fun i hi => ?_⟩, by omega, Or.inr (Nat.le_refl _), Or.inr (Nat.le_succ _), ⟨?_, ?_, by omega⟩, rfl⟩
    · show p < h_n h + 1 + 1; omega
    · show h_n h < h_n h + 1 + 1; omega
    · show h_n h + 1 < h_n h + 1 + 1; omega
    · show h_ai (h_cp (h_sR (h_cp h d (m * 2)) 192 p (some (h_n h))) n (m * 2)) (h_n h) i = _ ∧ h_ai (h_cp (h_sR (h_cp h d (m * 2)) 192 p (some (h_n h))) n (m * 2)) (h_n h + 1) i = _
      rw [cp_ai_ne ed3, show h_ai (h_sR (h_cp h d (m * 2)) 192 p (some (h_n h))) (h_n h) = fun i => if i < h_al h d then h_ai h d i else 0 from cp_ai h d (m * 2), show h_ai (h_cp (h_sR (h_cp h d (m * 2)) 192 p (some (h_n h))) n (m * 2)) (h_n h + 1) = fun i => if i < h_al (h_sR (h_cp h d (m * 2)) 192 p (some (h_n h))) n then h_ai (h_sR (h_cp h d (m * 2)) 192 p (some (h_n h))) n i else 0 from cp_ai _ n (m * 2)]
      show (if i < h_al h d then h_ai h d i else 0) = _ ∧ (if i < h_al (h_sR (h_cp h d (m * 2)) 192 p (some (h_n h))) n then h_ai (h_sR (h_cp h d (m * 2)) 192 p (some (h_n h))) n i else 0) = _
      rw [if_pos (by omega), if_pos (by omega), show h_ai (h_sR (h_cp h d (m * 2)) 192 p (some (h_n h))) n = h_ai h n from cp_ai_ne (a := d) (N := m * 2) (by omega)]
      exact hv i hi
    · show h_s h + m * 2 + m * 2 = _
      omega
    · show h_n h + 1 + 1 + c ≤ _
      omega
end
section
theorem up_same {f : Nat → Nat} {i : Nat} : va_up f i (f i) = f := funext fun k => by
  by_cases z : k = i
  · rw [z, va_up_self]
  · rw [va_up_ne _ _ z]
set_option maxHeartbeats 1000000 in
theorem c_put {h : mm_H} {Q : Option Value → mm_H → Prop} {p d n c day v : Nat} {nt : Nat → Nat} (sh : s_h h) (P : pS h p d n c nt) (hday : day ≤ 2000) (hv0 : fb_sm nt 2001 + v ≤ 100000000) (k : ∀ h' d' n' c', ex h h' (p3 p d n) → pS h' p d' n' c' (va_up nt day (nt day + v)) → (d' = d ∨ h_n h ≤ d') → (n' = n ∨ h_n h ≤ n') → gr h c h' c' → Q none h') : w_c 22 27 [.ref p, .int (nI day), .int (nI v)] h Q := by
  obtain ⟨m, hd, hn, A, L, T, B⟩ := id P
  obtain ⟨K, hmc, hm, hv⟩ := id A
  obtain ⟨e1, e2, e3⟩ := K.ne
  obtain ⟨⟨k1, k2, k3⟩, ⟨r1, r2⟩, ⟨l1, l2⟩, ⟨b1, b2, b3, b4, b5, b6, b7⟩, c1, c2⟩ := id K
  have hm1 := pL_len L
  have f1 : ex h (h_sI h 195 p (nI (fb_sm nt 2001 + v))) (p3 p d n) := (ex.rf _ _).sI _ (Or.inl (Or.inl rfl))
  have sh1 := s_h.ex sh f1 (p3_70 K)
  have A1 : pA (h_sI h 195 p (nI (fb_sm nt 2001 + v))) p d n c m hd hn := ⟨K, hmc, (oi_neG (by decide) p).trans hm, hv⟩
  have t1 : h_oi (h_sI h 195 p (nI (fb_sm nt 2001 + v))) 195 p = nI (fb_sm nt 2001 + v) := oi_self _ _ _ _
  have hsum : fb_sm (va_up nt day (nt day + v)) 2001 = fb_sm nt 2001 + v := by
    have := sm_up nt (i := day) (v := nt day + v) (n := 2001) (by omega)
    omega
  by_cases hv1 : v = 0
  · subst hv1
    refine t_X3_put_0 (D := 21) sh p _ _ (K20 := fun _ _ _ _ _ => False) (fun _ _ _ _ _ z => z.elim) k1 k2 k3 r1 r2 l1 l2 (by omega) (by omega) (by omega) ⟨fun z => absurd z (by decide), fun _ => ?_⟩
    refine k h d n c (ex.rf _ _) ?_ (Or.inl rfl) (Or.inl rfl) ⟨by omega, by omega, Nat.le_refl _⟩
    rw [Nat.add_zero, up_same]
    exact P
  have tail : ∀ i, i ≤ m → (∀ j, i ≤ j → j < m → nI day < nI (hd j)) → (0 < i → hd (i - 1) ≤ day) →
      ((nI i ≤ 0 → w_c 21 28 [.ref p, .int (nI i), .int (nI day), .int (nI v)] (h_sI h 195 p (nI (fb_sm nt 2001 + v))) (fun r h3 => r = none ∧ s_h h3 ∧ Q none h3)) ∧ (¬ (nI i ≤ 0) → (vp_in (nI i - (1 : Int32)) c ∧ ((¬ (h_ai (h_sI h 195 p (nI (fb_sm nt 2001 + v))) d (nI i - (1 : Int32)).toNatClampNeg) = nI day → w_c 21 28 [.ref p, .int (nI i), .int (nI day), .int (nI v)] (h_sI h 195 p (nI (fb_sm nt 2001 + v))) (fun r h6 => r = none ∧ s_h h6 ∧ Q none h6)) ∧ ((h_ai (h_sI h 195 p (nI (fb_sm nt 2001 + v))) d (nI i - (1 : Int32)).toNatClampNeg) = nI day → (vp_in (nI i - (1 : Int32)) c ∧ (vp_in (nI i - (1 : Int32)) c ∧ Q none (h_sA (h_sI h 195 p (nI (fb_sm nt 2001 + v))) n ((nI i - (1 : Int32)).toNatClampNeg) ((h_ai (h_sI h 195 p (nI (fb_sm nt 2001 + v))) n (nI i - (1 : Int32)).toNatClampNeg) + nI v))))))))) := by
    intro i hi hgt hle
    have hgt : ∀ j, i ≤ j → j < m → day < hd j := fun j hj hjm => (i_lt (by omega) (by have := (L.2.1 j hjm).1; omega)).mp (hgt j hj hjm)
    have insert : (0 < i → hd (i - 1) ≠ day) → w_c 21 28 [.ref p, .int (nI i), .int (nI day), .int (nI v)] (h_sI h 195 p (nI (fb_sm nt 2001 + v))) (fun r h3 => r = none ∧ s_h h3 ∧ Q none h3) := by
      intro hne
      have hlt : ∀ j, j < i → hd j < day := fun j hj => by
        have q1 := pL_mono L (i := j) (j := i - 1) (by omega) (by omega)
        have q2 := hle (by omega)
        have q3 := hne (by omega)
        omega
      have e0 : nt day = 0 := pL_no L (fun j hj y => by
        rcases Nat.lt_or_ge j i with w | w
        · have := hlt j w; omega
        · have := hgt j w hj; omega)
      refine c_ins sh1 A1 hm1 hi (fun h' d' n' c' f2 A2 q1 q2 q3 t2 => ⟨rfl, s_h.ex sh1 f2 (p3_70 K), ?_⟩)
      refine k h' d' n' c' (f1.tr f2 (fun _ z => z) (fun _ _ z => z)) ⟨m + 1, _, _, A2, ?_, ?_, ?_⟩ q1 q2 q3
      · rw [e0, Nat.zero_add]
        exact pL_ins L hi hday (by omega) hlt hgt
      · rw [t2, t1, hsum]
      · rw [hsum]; exact hv0
    refine ⟨fun z => ?_, fun z => ?_⟩
    · have := (i_le (b := 0) (by omega) (by decide)).mp z
      exact insert (fun y => by omega)
    · have hi0 : 0 < i := by
        rcases Nat.eq_zero_or_pos i with y | y
        · rw [y] at z; exact absurd (by decide) z
        · exact y
      have x0 : nI i - 1 = nI (i - 1) := nI_sub1 hi0
      rw [x0, i_cl (by omega)]
      have v1 : vp_in (nI (i - 1)) c := vp_in_nI (by omega) (by omega)
      have hdi := (L.2.1 (i - 1) (by omega)).1
      have ed : h_ai (h_sI h 195 p (nI (fb_sm nt 2001 + v))) d (i - 1) = nI (hd (i - 1)) := (hv (i - 1) (by omega)).1
      have en : h_ai (h_sI h 195 p (nI (fb_sm nt 2001 + v))) n (i - 1) = nI (hn (i - 1)) := (hv (i - 1) (by omega)).2
      rw [ed, en, nI_eqI (by omega) (by omega), nI_add]
      refine ⟨v1, fun y => insert (fun _ => y), fun y => ⟨v1, v1, ?_⟩⟩
      have hnt := (L.2.1 (i - 1) (by omega)).2
      rw [y] at hnt
      refine k _ d n c (f1.sA _ _ (Or.inl (Or.inr (Or.inr rfl)))) ⟨m, hd, va_up hn (i - 1) (hn (i - 1) + v), ⟨K, hmc, A1.2.2.1, fun j hj => ?_⟩, ?_, t1.trans (by rw [hsum]), by rw [hsum]; exact hv0⟩ (Or.inl rfl) (Or.inl rfl) ⟨by show h_s h = _; omega, by show h_n h + c ≤ _; omega, Nat.le_refl _⟩
      · rw [ai_ne e3, ai_self]
        refine ⟨(hv j hj).1, ?_⟩
        by_cases w : j = i - 1
        · rw [w, va_up_self, va_up_self]
        · rw [va_up_ne _ _ w, va_up_ne _ _ w]; exact (hv j hj).2
      · have := pL_add L (i := i - 1) (by omega) (hn (i - 1) + v) (by omega)
        rw [y] at this
        rw [hnt.2]
        exact this
  have loop : ∀ w i, i = w → i ≤ m → (∀ j, i ≤ j → j < m → nI day < nI (hd j)) → w_p (21 + 1) (3, 4, mc_X3_put) 20 [(0, .ref p), (1, .int (nI day)), (2, .int (nI v)), (3, .int (nI i))] [] (h_sI h 195 p (nI (fb_sm nt 2001 + v))) Q := by
    intro w
    induction w with
    | zero =>
      intro i hw hi hgt
      subst hw
      refine t_X3_put_20 (D := 21) sh1 p _ _ _ (K20 := fun _ _ _ _ _ => False) (fun _ _ _ _ _ z => z.elim) k1 k2 k3 r1 r2 l1 l2 (by omega) (by omega) (by omega) ⟨fun _ => tail 0 hi hgt (fun y => by omega), fun z => absurd (by decide) z⟩
    | succ w ih =>
      intro i hw hi hgt
      have x0 : nI i - 1 = nI (i - 1) := nI_sub1 (by omega)
      have x1 : (nI i - 1).toNatClampNeg = i - 1 := by rw [x0]; exact i_cl (by omega)
      have v1 : vp_in (nI i - 1) c := by rw [x0]; exact vp_in_nI (by omega) (by omega)
      have hdi := (L.2.1 (i - 1) (by omega)).1
      have ed : h_ai (h_sI h 195 p (nI (fb_sm nt 2001 + v))) d (nI i - 1).toNatClampNeg = nI (hd (i - 1)) := by rw [x1]; exact (hv (i - 1) (by omega)).1
      refine t_X3_put_20 (D := 21) sh1 p _ _ _ (K20 := fun y1 y2 y3 y4 hh => y1 = p ∧ y2 = nI day ∧ y3 = nI v ∧ y4 = nI (i - 1) ∧ hh = h_sI h 195 p (nI (fb_sm nt 2001 + v)) ∧ day < hd (i - 1)) (fun y1 y2 y3 y4 hh q => ?_) k1 k2 k3 r1 r2 l1 l2 (by omega) (by omega) (by omega) ⟨fun z => ?_, fun _ => ⟨v1, fun z => ?_, fun z => ⟨rfl, rfl, rfl, nI_m1 (by omega), rfl, ?_⟩⟩⟩
      · obtain ⟨rfl, rfl, rfl, rfl, rfl, hlt⟩ := q
        refine ih (i - 1) (by omega) (by omega) (fun j hj hjm => ?_)
        by_cases y : j = i - 1
        · rw [y]; exact (i_lt (by omega) (by omega)).mpr hlt
        · exact hgt j (by omega) hjm
      · have := (i_le (b := 0) (by omega) (by decide)).mp z
        omega
      · rw [ed, i_le (by omega) (by omega)] at z
        exact tail i hi hgt (fun _ => z)
      · rw [ed, i_le (by omega) (by omega)] at z
        omega
  refine t_X3_put_0 (D := 21) sh p _ _ (K20 := fun y1 y2 y3 y4 hh => y1 = p ∧ y2 = nI day ∧ y3 = nI v ∧ y4 = nI m ∧ hh = h_sI h 195 p (nI (fb_sm nt 2001 + v))) (fun y1 y2 y3 y4 hh q => ?_) k1 k2 k3 r1 r2 l1 l2 (by omega) (by omega) (by omega) ⟨fun _ => ⟨rfl, rfl, rfl, hm, by rw [T, nI_add]⟩, fun z => absurd ((i_lt (a := 0) (by decide) (by omega)).mpr (by omega)) z⟩
  obtain ⟨rfl, rfl, rfl, rfl, rfl⟩ := q
  exact loop m m rfl (Nat.le_refl _) (fun j hj hjm => by omega)
end
