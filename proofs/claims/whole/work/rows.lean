section
-- ===== PART A: goes FIRST, ahead of the names: the tables' words, and 'selects' of the private methods out of them =====
/-- a private method of a class that the tables say can be made, by its rows of tables_1 -/
def lw_okq (q : MethodName × Nat) : Prop := (q.1.cls ≠ "java/lang/invoke/MethodHandle" ∧ q.1.cls ≠ "java/lang/invoke/VarHandle") ∧ Cond.instantiable q.1.cls q.2 ∈ tables_1 ∧ Cond.privateMethod q.1 ∈ tables_1 ∧ Cond.instanceMethod q.1 ∈ tables_1
theorem lw_p0 : lw_okq (⟨"KnowsLeast", "putOnTape", "(I)V"⟩, 12) := ⟨⟨by decide +kernel, by decide +kernel⟩, List.mem_of_getElem? (i := 23) (by decide +kernel), List.mem_of_getElem? (i := 396) (by decide +kernel), List.mem_of_getElem? (i := 397) (by decide +kernel)⟩
theorem lw_p1 : lw_okq (⟨"KnowsLeast$Reader", "kind", "()I"⟩, 7) := ⟨⟨by decide +kernel, by decide +kernel⟩, List.mem_of_getElem? (i := 31) (by decide +kernel), List.mem_of_getElem? (i := 514) (by decide +kernel), List.mem_of_getElem? (i := 515) (by decide +kernel)⟩
theorem lw_p2 : lw_okq (⟨"KnowsLeast$Reader", "readLine", "()V"⟩, 7) := ⟨⟨by decide +kernel, by decide +kernel⟩, List.mem_of_getElem? (i := 31) (by decide +kernel), List.mem_of_getElem? (i := 518) (by decide +kernel), List.mem_of_getElem? (i := 519) (by decide +kernel)⟩
theorem lw_p3 : lw_okq (⟨"KnowsLeast$Reader", "readWorld", "()V"⟩, 7) := ⟨⟨by decide +kernel, by decide +kernel⟩, List.mem_of_getElem? (i := 31) (by decide +kernel), List.mem_of_getElem? (i := 522) (by decide +kernel), List.mem_of_getElem? (i := 523) (by decide +kernel)⟩
theorem lw_p4 : lw_okq (⟨"KnowsLeast$Reader", "refuse", "(I)V"⟩, 7) := ⟨⟨by decide +kernel, by decide +kernel⟩, List.mem_of_getElem? (i := 31) (by decide +kernel), List.mem_of_getElem? (i := 526) (by decide +kernel), List.mem_of_getElem? (i := 527) (by decide +kernel)⟩
theorem lw_p5 : lw_okq (⟨"KnowsLeast$Reader", "goOn", "()V"⟩, 7) := ⟨⟨by decide +kernel, by decide +kernel⟩, List.mem_of_getElem? (i := 31) (by decide +kernel), List.mem_of_getElem? (i := 530) (by decide +kernel), List.mem_of_getElem? (i := 531) (by decide +kernel)⟩
theorem lw_p6 : lw_okq (⟨"KnowsLeast$Reader", "takeNumber", "(II)I"⟩, 7) := ⟨⟨by decide +kernel, by decide +kernel⟩, List.mem_of_getElem? (i := 31) (by decide +kernel), List.mem_of_getElem? (i := 534) (by decide +kernel), List.mem_of_getElem? (i := 535) (by decide +kernel)⟩
theorem lw_p7 : lw_okq (⟨"KnowsLeast$Reader", "readFact", "()V"⟩, 7) := ⟨⟨by decide +kernel, by decide +kernel⟩, List.mem_of_getElem? (i := 31) (by decide +kernel), List.mem_of_getElem? (i := 538) (by decide +kernel), List.mem_of_getElem? (i := 539) (by decide +kernel)⟩
theorem lw_p8 : lw_okq (⟨"KnowsLeast$Reader", "take", "(I)V"⟩, 7) := ⟨⟨by decide +kernel, by decide +kernel⟩, List.mem_of_getElem? (i := 31) (by decide +kernel), List.mem_of_getElem? (i := 542) (by decide +kernel), List.mem_of_getElem? (i := 543) (by decide +kernel)⟩
theorem lw_p9 : lw_okq (⟨"KnowsLeast$Reader", "readTruth", "(I)V"⟩, 7) := ⟨⟨by decide +kernel, by decide +kernel⟩, List.mem_of_getElem? (i := 31) (by decide +kernel), List.mem_of_getElem? (i := 546) (by decide +kernel), List.mem_of_getElem? (i := 547) (by decide +kernel)⟩
theorem lw_p10 : lw_okq (⟨"KnowsLeast$Reader", "readBoth", "(I)V"⟩, 7) := ⟨⟨by decide +kernel, by decide +kernel⟩, List.mem_of_getElem? (i := 31) (by decide +kernel), List.mem_of_getElem? (i := 550) (by decide +kernel), List.mem_of_getElem? (i := 551) (by decide +kernel)⟩
theorem lw_p11 : lw_okq (⟨"KnowsLeast$Reader", "readUnit", "(I)V"⟩, 7) := ⟨⟨by decide +kernel, by decide +kernel⟩, List.mem_of_getElem? (i := 31) (by decide +kernel), List.mem_of_getElem? (i := 554) (by decide +kernel), List.mem_of_getElem? (i := 555) (by decide +kernel)⟩
theorem lw_p12 : lw_okq (⟨"KnowsLeast$Reader", "readSum", "(I)V"⟩, 7) := ⟨⟨by decide +kernel, by decide +kernel⟩, List.mem_of_getElem? (i := 31) (by decide +kernel), List.mem_of_getElem? (i := 558) (by decide +kernel), List.mem_of_getElem? (i := 559) (by decide +kernel)⟩
theorem lw_p13 : lw_okq (⟨"KnowsLeast$Reader", "readTerm", "(I)V"⟩, 7) := ⟨⟨by decide +kernel, by decide +kernel⟩, List.mem_of_getElem? (i := 31) (by decide +kernel), List.mem_of_getElem? (i := 562) (by decide +kernel), List.mem_of_getElem? (i := 563) (by decide +kernel)⟩
theorem lw_p14 : lw_okq (⟨"KnowsLeast$Reader", "readAtom", "(I)V"⟩, 7) := ⟨⟨by decide +kernel, by decide +kernel⟩, List.mem_of_getElem? (i := 31) (by decide +kernel), List.mem_of_getElem? (i := 566) (by decide +kernel), List.mem_of_getElem? (i := 567) (by decide +kernel)⟩
theorem lw_p15 : lw_okq (⟨"KnowsLeast$Reader", "isTooDeep", "(I)Z"⟩, 7) := ⟨⟨by decide +kernel, by decide +kernel⟩, List.mem_of_getElem? (i := 31) (by decide +kernel), List.mem_of_getElem? (i := 574) (by decide +kernel), List.mem_of_getElem? (i := 575) (by decide +kernel)⟩
def lw_privs_1 : List (MethodName × Nat) := [(⟨"KnowsLeast", "putOnTape", "(I)V"⟩, 12), (⟨"KnowsLeast$Reader", "kind", "()I"⟩, 7), (⟨"KnowsLeast$Reader", "readLine", "()V"⟩, 7), (⟨"KnowsLeast$Reader", "readWorld", "()V"⟩, 7), (⟨"KnowsLeast$Reader", "refuse", "(I)V"⟩, 7), (⟨"KnowsLeast$Reader", "goOn", "()V"⟩, 7), (⟨"KnowsLeast$Reader", "takeNumber", "(II)I"⟩, 7), (⟨"KnowsLeast$Reader", "readFact", "()V"⟩, 7), (⟨"KnowsLeast$Reader", "take", "(I)V"⟩, 7), (⟨"KnowsLeast$Reader", "readTruth", "(I)V"⟩, 7), (⟨"KnowsLeast$Reader", "readBoth", "(I)V"⟩, 7), (⟨"KnowsLeast$Reader", "readUnit", "(I)V"⟩, 7), (⟨"KnowsLeast$Reader", "readSum", "(I)V"⟩, 7), (⟨"KnowsLeast$Reader", "readTerm", "(I)V"⟩, 7), (⟨"KnowsLeast$Reader", "readAtom", "(I)V"⟩, 7), (⟨"KnowsLeast$Reader", "isTooDeep", "(I)Z"⟩, 7)]
theorem lw_r1 : ∀ q ∈ lw_privs_1, lw_okq q := List.forall_mem_cons.mpr ⟨lw_p0, List.forall_mem_cons.mpr ⟨lw_p1, List.forall_mem_cons.mpr ⟨lw_p2, List.forall_mem_cons.mpr ⟨lw_p3, List.forall_mem_cons.mpr ⟨lw_p4, List.forall_mem_cons.mpr ⟨lw_p5, List.forall_mem_cons.mpr ⟨lw_p6, List.forall_mem_cons.mpr ⟨lw_p7, List.forall_mem_cons.mpr ⟨lw_p8, List.forall_mem_cons.mpr ⟨lw_p9, List.forall_mem_cons.mpr ⟨lw_p10, List.forall_mem_cons.mpr ⟨lw_p11, List.forall_mem_cons.mpr ⟨lw_p12, List.forall_mem_cons.mpr ⟨lw_p13, List.forall_mem_cons.mpr ⟨lw_p14, List.forall_mem_cons.mpr ⟨lw_p15, fun _ h => absurd h List.not_mem_nil⟩⟩⟩⟩⟩⟩⟩⟩⟩⟩⟩⟩⟩⟩⟩⟩
theorem lw_p16 : lw_okq (⟨"KnowsLeast$Reader", "readPerson", "()V"⟩, 7) := ⟨⟨by decide +kernel, by decide +kernel⟩, List.mem_of_getElem? (i := 31) (by decide +kernel), List.mem_of_getElem? (i := 582) (by decide +kernel), List.mem_of_getElem? (i := 583) (by decide +kernel)⟩
theorem lw_p17 : lw_okq (⟨"KnowsLeast$Reader", "readRoad", "()V"⟩, 7) := ⟨⟨by decide +kernel, by decide +kernel⟩, List.mem_of_getElem? (i := 31) (by decide +kernel), List.mem_of_getElem? (i := 586) (by decide +kernel), List.mem_of_getElem? (i := 587) (by decide +kernel)⟩
theorem lw_p18 : lw_okq (⟨"KnowsLeast$Reader", "readHint", "()V"⟩, 7) := ⟨⟨by decide +kernel, by decide +kernel⟩, List.mem_of_getElem? (i := 31) (by decide +kernel), List.mem_of_getElem? (i := 590) (by decide +kernel), List.mem_of_getElem? (i := 591) (by decide +kernel)⟩
theorem lw_p19 : lw_okq (⟨"KnowsLeast$Formulas", "valueIn", "(LKnowsLeast$Land;III)I"⟩, 4) := ⟨⟨by decide +kernel, by decide +kernel⟩, List.mem_of_getElem? (i := 62) (by decide +kernel), List.mem_of_getElem? (i := 598) (by decide +kernel), List.mem_of_getElem? (i := 599) (by decide +kernel)⟩
theorem lw_p20 : lw_okq (⟨"KnowsLeast", "isWorld", "(I)Z"⟩, 12) := ⟨⟨by decide +kernel, by decide +kernel⟩, List.mem_of_getElem? (i := 23) (by decide +kernel), List.mem_of_getElem? (i := 646) (by decide +kernel), List.mem_of_getElem? (i := 647) (by decide +kernel)⟩
theorem lw_p21 : lw_okq (⟨"KnowsLeast", "isFact", "(I)Z"⟩, 12) := ⟨⟨by decide +kernel, by decide +kernel⟩, List.mem_of_getElem? (i := 23) (by decide +kernel), List.mem_of_getElem? (i := 658) (by decide +kernel), List.mem_of_getElem? (i := 659) (by decide +kernel)⟩
theorem lw_p22 : lw_okq (⟨"KnowsLeast", "isPerson", "(I)Z"⟩, 12) := ⟨⟨by decide +kernel, by decide +kernel⟩, List.mem_of_getElem? (i := 23) (by decide +kernel), List.mem_of_getElem? (i := 666) (by decide +kernel), List.mem_of_getElem? (i := 667) (by decide +kernel)⟩
theorem lw_p23 : lw_okq (⟨"KnowsLeast", "possibleTo", "(I)I"⟩, 12) := ⟨⟨by decide +kernel, by decide +kernel⟩, List.mem_of_getElem? (i := 23) (by decide +kernel), List.mem_of_getElem? (i := 670) (by decide +kernel), List.mem_of_getElem? (i := 671) (by decide +kernel)⟩
theorem lw_p24 : lw_okq (⟨"KnowsLeast$State", "passDay", "(LKnowsLeast$Land;)Z"⟩, 4) := ⟨⟨by decide +kernel, by decide +kernel⟩, List.mem_of_getElem? (i := 155) (by decide +kernel), List.mem_of_getElem? (i := 744) (by decide +kernel), List.mem_of_getElem? (i := 745) (by decide +kernel)⟩
theorem lw_p25 : lw_okq (⟨"KnowsLeast$State", "isDone", "(LKnowsLeast$Land;I)Z"⟩, 4) := ⟨⟨by decide +kernel, by decide +kernel⟩, List.mem_of_getElem? (i := 155) (by decide +kernel), List.mem_of_getElem? (i := 788) (by decide +kernel), List.mem_of_getElem? (i := 789) (by decide +kernel)⟩
theorem lw_p26 : lw_okq (⟨"KnowsLeast$State", "draw", "(I)I"⟩, 4) := ⟨⟨by decide +kernel, by decide +kernel⟩, List.mem_of_getElem? (i := 155) (by decide +kernel), List.mem_of_getElem? (i := 823) (by decide +kernel), List.mem_of_getElem? (i := 824) (by decide +kernel)⟩
theorem lw_p27 : lw_okq (⟨"KnowsLeast", "reached", "(I)I"⟩, 12) := ⟨⟨by decide +kernel, by decide +kernel⟩, List.mem_of_getElem? (i := 23) (by decide +kernel), List.mem_of_getElem? (i := 832) (by decide +kernel), List.mem_of_getElem? (i := 833) (by decide +kernel)⟩
theorem lw_p28 : lw_okq (⟨"KnowsLeast", "possibleTogether", "(I)I"⟩, 12) := ⟨⟨by decide +kernel, by decide +kernel⟩, List.mem_of_getElem? (i := 23) (by decide +kernel), List.mem_of_getElem? (i := 856) (by decide +kernel), List.mem_of_getElem? (i := 857) (by decide +kernel)⟩
theorem lw_p29 : lw_okq (⟨"KnowsLeast", "amount", "(II)I"⟩, 12) := ⟨⟨by decide +kernel, by decide +kernel⟩, List.mem_of_getElem? (i := 23) (by decide +kernel), List.mem_of_getElem? (i := 878) (by decide +kernel), List.mem_of_getElem? (i := 879) (by decide +kernel)⟩
theorem lw_p30 : lw_okq (⟨"KnowsLeast$Showing", "findExtremes", "(LKnowsLeast$Land;II)V"⟩, 6) := ⟨⟨by decide +kernel, by decide +kernel⟩, List.mem_of_getElem? (i := 228) (by decide +kernel), List.mem_of_getElem? (i := 909) (by decide +kernel), List.mem_of_getElem? (i := 910) (by decide +kernel)⟩
theorem lw_p31 : lw_okq (⟨"KnowsLeast$Showing", "findBest", "(LKnowsLeast$Land;II)V"⟩, 6) := ⟨⟨by decide +kernel, by decide +kernel⟩, List.mem_of_getElem? (i := 228) (by decide +kernel), List.mem_of_getElem? (i := 915) (by decide +kernel), List.mem_of_getElem? (i := 916) (by decide +kernel)⟩
def lw_privs_2 : List (MethodName × Nat) := [(⟨"KnowsLeast$Reader", "readPerson", "()V"⟩, 7), (⟨"KnowsLeast$Reader", "readRoad", "()V"⟩, 7), (⟨"KnowsLeast$Reader", "readHint", "()V"⟩, 7), (⟨"KnowsLeast$Formulas", "valueIn", "(LKnowsLeast$Land;III)I"⟩, 4), (⟨"KnowsLeast", "isWorld", "(I)Z"⟩, 12), (⟨"KnowsLeast", "isFact", "(I)Z"⟩, 12), (⟨"KnowsLeast", "isPerson", "(I)Z"⟩, 12), (⟨"KnowsLeast", "possibleTo", "(I)I"⟩, 12), (⟨"KnowsLeast$State", "passDay", "(LKnowsLeast$Land;)Z"⟩, 4), (⟨"KnowsLeast$State", "isDone", "(LKnowsLeast$Land;I)Z"⟩, 4), (⟨"KnowsLeast$State", "draw", "(I)I"⟩, 4), (⟨"KnowsLeast", "reached", "(I)I"⟩, 12), (⟨"KnowsLeast", "possibleTogether", "(I)I"⟩, 12), (⟨"KnowsLeast", "amount", "(II)I"⟩, 12), (⟨"KnowsLeast$Showing", "findExtremes", "(LKnowsLeast$Land;II)V"⟩, 6), (⟨"KnowsLeast$Showing", "findBest", "(LKnowsLeast$Land;II)V"⟩, 6)]
theorem lw_r2 : ∀ q ∈ lw_privs_2, lw_okq q := List.forall_mem_cons.mpr ⟨lw_p16, List.forall_mem_cons.mpr ⟨lw_p17, List.forall_mem_cons.mpr ⟨lw_p18, List.forall_mem_cons.mpr ⟨lw_p19, List.forall_mem_cons.mpr ⟨lw_p20, List.forall_mem_cons.mpr ⟨lw_p21, List.forall_mem_cons.mpr ⟨lw_p22, List.forall_mem_cons.mpr ⟨lw_p23, List.forall_mem_cons.mpr ⟨lw_p24, List.forall_mem_cons.mpr ⟨lw_p25, List.forall_mem_cons.mpr ⟨lw_p26, List.forall_mem_cons.mpr ⟨lw_p27, List.forall_mem_cons.mpr ⟨lw_p28, List.forall_mem_cons.mpr ⟨lw_p29, List.forall_mem_cons.mpr ⟨lw_p30, List.forall_mem_cons.mpr ⟨lw_p31, fun _ h => absurd h List.not_mem_nil⟩⟩⟩⟩⟩⟩⟩⟩⟩⟩⟩⟩⟩⟩⟩⟩
theorem lw_p32 : lw_okq (⟨"KnowsLeast$Showing", "takeIfBetter", "(II)V"⟩, 6) := ⟨⟨by decide +kernel, by decide +kernel⟩, List.mem_of_getElem? (i := 228) (by decide +kernel), List.mem_of_getElem? (i := 924) (by decide +kernel), List.mem_of_getElem? (i := 925) (by decide +kernel)⟩
theorem lw_p33 : lw_okq (⟨"KnowsLeast$Showing", "isAhead", "(II)Z"⟩, 6) := ⟨⟨by decide +kernel, by decide +kernel⟩, List.mem_of_getElem? (i := 228) (by decide +kernel), List.mem_of_getElem? (i := 928) (by decide +kernel), List.mem_of_getElem? (i := 929) (by decide +kernel)⟩
theorem lw_p34 : lw_okq (⟨"KnowsLeast", "nextAbove", "(II)I"⟩, 12) := ⟨⟨by decide +kernel, by decide +kernel⟩, List.mem_of_getElem? (i := 23) (by decide +kernel), List.mem_of_getElem? (i := 936) (by decide +kernel), List.mem_of_getElem? (i := 937) (by decide +kernel)⟩
theorem lw_p35 : lw_okq (⟨"KnowsLeast$Parties", "choose", "(I)I"⟩, 9) := ⟨⟨by decide +kernel, by decide +kernel⟩, List.mem_of_getElem? (i := 255) (by decide +kernel), List.mem_of_getElem? (i := 951) (by decide +kernel), List.mem_of_getElem? (i := 952) (by decide +kernel)⟩
theorem lw_p36 : lw_okq (⟨"KnowsLeast$Parties", "mostOf", "(I)I"⟩, 9) := ⟨⟨by decide +kernel, by decide +kernel⟩, List.mem_of_getElem? (i := 255) (by decide +kernel), List.mem_of_getElem? (i := 955) (by decide +kernel), List.mem_of_getElem? (i := 956) (by decide +kernel)⟩
theorem lw_p37 : lw_okq (⟨"KnowsLeast$Parties", "takeBack", "(II)V"⟩, 9) := ⟨⟨by decide +kernel, by decide +kernel⟩, List.mem_of_getElem? (i := 255) (by decide +kernel), List.mem_of_getElem? (i := 959) (by decide +kernel), List.mem_of_getElem? (i := 960) (by decide +kernel)⟩
theorem lw_p38 : lw_okq (⟨"KnowsLeast$Parties", "canGet", "(II)Z"⟩, 9) := ⟨⟨by decide +kernel, by decide +kernel⟩, List.mem_of_getElem? (i := 255) (by decide +kernel), List.mem_of_getElem? (i := 967) (by decide +kernel), List.mem_of_getElem? (i := 968) (by decide +kernel)⟩
theorem lw_p39 : lw_okq (⟨"KnowsLeast$Trial", "fewestBehind", "(LKnowsLeast$Land;III)I"⟩, 2) := ⟨⟨by decide +kernel, by decide +kernel⟩, List.mem_of_getElem? (i := 293) (by decide +kernel), List.mem_of_getElem? (i := 987) (by decide +kernel), List.mem_of_getElem? (i := 988) (by decide +kernel)⟩
theorem lw_p40 : lw_okq (⟨"KnowsLeast$Trial", "fewestBy", "(LKnowsLeast$Land;IIII)I"⟩, 2) := ⟨⟨by decide +kernel, by decide +kernel⟩, List.mem_of_getElem? (i := 293) (by decide +kernel), List.mem_of_getElem? (i := 992) (by decide +kernel), List.mem_of_getElem? (i := 993) (by decide +kernel)⟩
theorem lw_p41 : lw_okq (⟨"KnowsLeast", "justiceBy", "(I)I"⟩, 12) := ⟨⟨by decide +kernel, by decide +kernel⟩, List.mem_of_getElem? (i := 23) (by decide +kernel), List.mem_of_getElem? (i := 1019) (by decide +kernel), List.mem_of_getElem? (i := 1020) (by decide +kernel)⟩
theorem lw_p42 : lw_okq (⟨"KnowsLeast", "daysTill", "(II)I"⟩, 12) := ⟨⟨by decide +kernel, by decide +kernel⟩, List.mem_of_getElem? (i := 23) (by decide +kernel), List.mem_of_getElem? (i := 1031) (by decide +kernel), List.mem_of_getElem? (i := 1032) (by decide +kernel)⟩
theorem lw_p43 : lw_okq (⟨"KnowsLeast", "refusedAsked", "(I)I"⟩, 12) := ⟨⟨by decide +kernel, by decide +kernel⟩, List.mem_of_getElem? (i := 23) (by decide +kernel), List.mem_of_getElem? (i := 1051) (by decide +kernel), List.mem_of_getElem? (i := 1052) (by decide +kernel)⟩
theorem lw_p44 : lw_okq (⟨"KnowsLeast", "isFitting", "(ILKnowsLeast$Row;)Z"⟩, 12) := ⟨⟨by decide +kernel, by decide +kernel⟩, List.mem_of_getElem? (i := 23) (by decide +kernel), List.mem_of_getElem? (i := 1055) (by decide +kernel), List.mem_of_getElem? (i := 1056) (by decide +kernel)⟩
theorem lw_p45 : lw_okq (⟨"KnowsLeast", "rowsToAsk", "(II)I"⟩, 12) := ⟨⟨by decide +kernel, by decide +kernel⟩, List.mem_of_getElem? (i := 23) (by decide +kernel), List.mem_of_getElem? (i := 1069) (by decide +kernel), List.mem_of_getElem? (i := 1070) (by decide +kernel)⟩
theorem lw_p46 : lw_okq (⟨"KnowsLeastModel", "next", "()V"⟩, 35) := ⟨⟨by decide +kernel, by decide +kernel⟩, List.mem_of_getElem? (i := 1118) (by decide +kernel), List.mem_of_getElem? (i := 1242) (by decide +kernel), List.mem_of_getElem? (i := 1243) (by decide +kernel)⟩
theorem lw_p47 : lw_okq (⟨"KnowsLeastModel", "see", "(I)I"⟩, 35) := ⟨⟨by decide +kernel, by decide +kernel⟩, List.mem_of_getElem? (i := 1118) (by decide +kernel), List.mem_of_getElem? (i := 1246) (by decide +kernel), List.mem_of_getElem? (i := 1247) (by decide +kernel)⟩
def lw_privs_3 : List (MethodName × Nat) := [(⟨"KnowsLeast$Showing", "takeIfBetter", "(II)V"⟩, 6), (⟨"KnowsLeast$Showing", "isAhead", "(II)Z"⟩, 6), (⟨"KnowsLeast", "nextAbove", "(II)I"⟩, 12), (⟨"KnowsLeast$Parties", "choose", "(I)I"⟩, 9), (⟨"KnowsLeast$Parties", "mostOf", "(I)I"⟩, 9), (⟨"KnowsLeast$Parties", "takeBack", "(II)V"⟩, 9), (⟨"KnowsLeast$Parties", "canGet", "(II)Z"⟩, 9), (⟨"KnowsLeast$Trial", "fewestBehind", "(LKnowsLeast$Land;III)I"⟩, 2), (⟨"KnowsLeast$Trial", "fewestBy", "(LKnowsLeast$Land;IIII)I"⟩, 2), (⟨"KnowsLeast", "justiceBy", "(I)I"⟩, 12), (⟨"KnowsLeast", "daysTill", "(II)I"⟩, 12), (⟨"KnowsLeast", "refusedAsked", "(I)I"⟩, 12), (⟨"KnowsLeast", "isFitting", "(ILKnowsLeast$Row;)Z"⟩, 12), (⟨"KnowsLeast", "rowsToAsk", "(II)I"⟩, 12), (⟨"KnowsLeastModel", "next", "()V"⟩, 35), (⟨"KnowsLeastModel", "see", "(I)I"⟩, 35)]
theorem lw_r3 : ∀ q ∈ lw_privs_3, lw_okq q := List.forall_mem_cons.mpr ⟨lw_p32, List.forall_mem_cons.mpr ⟨lw_p33, List.forall_mem_cons.mpr ⟨lw_p34, List.forall_mem_cons.mpr ⟨lw_p35, List.forall_mem_cons.mpr ⟨lw_p36, List.forall_mem_cons.mpr ⟨lw_p37, List.forall_mem_cons.mpr ⟨lw_p38, List.forall_mem_cons.mpr ⟨lw_p39, List.forall_mem_cons.mpr ⟨lw_p40, List.forall_mem_cons.mpr ⟨lw_p41, List.forall_mem_cons.mpr ⟨lw_p42, List.forall_mem_cons.mpr ⟨lw_p43, List.forall_mem_cons.mpr ⟨lw_p44, List.forall_mem_cons.mpr ⟨lw_p45, List.forall_mem_cons.mpr ⟨lw_p46, List.forall_mem_cons.mpr ⟨lw_p47, fun _ h => absurd h List.not_mem_nil⟩⟩⟩⟩⟩⟩⟩⟩⟩⟩⟩⟩⟩⟩⟩⟩
theorem lw_p48 : lw_okq (⟨"KnowsLeastModel", "keyAt", "()I"⟩, 35) := ⟨⟨by decide +kernel, by decide +kernel⟩, List.mem_of_getElem? (i := 1118) (by decide +kernel), List.mem_of_getElem? (i := 1253) (by decide +kernel), List.mem_of_getElem? (i := 1254) (by decide +kernel)⟩
theorem lw_p49 : lw_okq (⟨"KnowsLeastModel", "is", "(I)Z"⟩, 35) := ⟨⟨by decide +kernel, by decide +kernel⟩, List.mem_of_getElem? (i := 1118) (by decide +kernel), List.mem_of_getElem? (i := 1264) (by decide +kernel), List.mem_of_getElem? (i := 1265) (by decide +kernel)⟩
theorem lw_p50 : lw_okq (⟨"KnowsLeastModel", "readWorld", "()V"⟩, 35) := ⟨⟨by decide +kernel, by decide +kernel⟩, List.mem_of_getElem? (i := 1118) (by decide +kernel), List.mem_of_getElem? (i := 1268) (by decide +kernel), List.mem_of_getElem? (i := 1269) (by decide +kernel)⟩
theorem lw_p51 : lw_okq (⟨"KnowsLeastModel", "fails", "(I)V"⟩, 35) := ⟨⟨by decide +kernel, by decide +kernel⟩, List.mem_of_getElem? (i := 1118) (by decide +kernel), List.mem_of_getElem? (i := 1272) (by decide +kernel), List.mem_of_getElem? (i := 1273) (by decide +kernel)⟩
theorem lw_p52 : lw_okq (⟨"KnowsLeastModel", "takes", "(II)I"⟩, 35) := ⟨⟨by decide +kernel, by decide +kernel⟩, List.mem_of_getElem? (i := 1118) (by decide +kernel), List.mem_of_getElem? (i := 1276) (by decide +kernel), List.mem_of_getElem? (i := 1277) (by decide +kernel)⟩
theorem lw_p53 : lw_okq (⟨"KnowsLeastModel", "eats", "(I)Z"⟩, 35) := ⟨⟨by decide +kernel, by decide +kernel⟩, List.mem_of_getElem? (i := 1118) (by decide +kernel), List.mem_of_getElem? (i := 1280) (by decide +kernel), List.mem_of_getElem? (i := 1281) (by decide +kernel)⟩
theorem lw_p54 : lw_okq (⟨"KnowsLeastModel", "readFact", "()V"⟩, 35) := ⟨⟨by decide +kernel, by decide +kernel⟩, List.mem_of_getElem? (i := 1118) (by decide +kernel), List.mem_of_getElem? (i := 1284) (by decide +kernel), List.mem_of_getElem? (i := 1285) (by decide +kernel)⟩
theorem lw_p55 : lw_okq (⟨"KnowsLeastModel", "readTruth", "(I)V"⟩, 35) := ⟨⟨by decide +kernel, by decide +kernel⟩, List.mem_of_getElem? (i := 1118) (by decide +kernel), List.mem_of_getElem? (i := 1288) (by decide +kernel), List.mem_of_getElem? (i := 1289) (by decide +kernel)⟩
theorem lw_p56 : lw_okq (⟨"KnowsLeastModel", "readBoth", "(I)V"⟩, 35) := ⟨⟨by decide +kernel, by decide +kernel⟩, List.mem_of_getElem? (i := 1118) (by decide +kernel), List.mem_of_getElem? (i := 1292) (by decide +kernel), List.mem_of_getElem? (i := 1293) (by decide +kernel)⟩
theorem lw_p57 : lw_okq (⟨"KnowsLeastModel", "readUnit", "(I)V"⟩, 35) := ⟨⟨by decide +kernel, by decide +kernel⟩, List.mem_of_getElem? (i := 1118) (by decide +kernel), List.mem_of_getElem? (i := 1296) (by decide +kernel), List.mem_of_getElem? (i := 1297) (by decide +kernel)⟩
theorem lw_p58 : lw_okq (⟨"KnowsLeastModel", "goesIn", "(I)Z"⟩, 35) := ⟨⟨by decide +kernel, by decide +kernel⟩, List.mem_of_getElem? (i := 1118) (by decide +kernel), List.mem_of_getElem? (i := 1300) (by decide +kernel), List.mem_of_getElem? (i := 1301) (by decide +kernel)⟩
theorem lw_p59 : lw_okq (⟨"KnowsLeastModel", "tells", "(I)V"⟩, 35) := ⟨⟨by decide +kernel, by decide +kernel⟩, List.mem_of_getElem? (i := 1118) (by decide +kernel), List.mem_of_getElem? (i := 1304) (by decide +kernel), List.mem_of_getElem? (i := 1305) (by decide +kernel)⟩
theorem lw_p60 : lw_okq (⟨"KnowsLeastModel", "readSum", "(I)V"⟩, 35) := ⟨⟨by decide +kernel, by decide +kernel⟩, List.mem_of_getElem? (i := 1118) (by decide +kernel), List.mem_of_getElem? (i := 1308) (by decide +kernel), List.mem_of_getElem? (i := 1309) (by decide +kernel)⟩
theorem lw_p61 : lw_okq (⟨"KnowsLeastModel", "readTerm", "(I)V"⟩, 35) := ⟨⟨by decide +kernel, by decide +kernel⟩, List.mem_of_getElem? (i := 1118) (by decide +kernel), List.mem_of_getElem? (i := 1312) (by decide +kernel), List.mem_of_getElem? (i := 1313) (by decide +kernel)⟩
theorem lw_p62 : lw_okq (⟨"KnowsLeastModel", "readAtom", "(I)V"⟩, 35) := ⟨⟨by decide +kernel, by decide +kernel⟩, List.mem_of_getElem? (i := 1118) (by decide +kernel), List.mem_of_getElem? (i := 1316) (by decide +kernel), List.mem_of_getElem? (i := 1317) (by decide +kernel)⟩
theorem lw_p63 : lw_okq (⟨"KnowsLeastModel", "readPerson", "()V"⟩, 35) := ⟨⟨by decide +kernel, by decide +kernel⟩, List.mem_of_getElem? (i := 1118) (by decide +kernel), List.mem_of_getElem? (i := 1323) (by decide +kernel), List.mem_of_getElem? (i := 1324) (by decide +kernel)⟩
def lw_privs_4 : List (MethodName × Nat) := [(⟨"KnowsLeastModel", "keyAt", "()I"⟩, 35), (⟨"KnowsLeastModel", "is", "(I)Z"⟩, 35), (⟨"KnowsLeastModel", "readWorld", "()V"⟩, 35), (⟨"KnowsLeastModel", "fails", "(I)V"⟩, 35), (⟨"KnowsLeastModel", "takes", "(II)I"⟩, 35), (⟨"KnowsLeastModel", "eats", "(I)Z"⟩, 35), (⟨"KnowsLeastModel", "readFact", "()V"⟩, 35), (⟨"KnowsLeastModel", "readTruth", "(I)V"⟩, 35), (⟨"KnowsLeastModel", "readBoth", "(I)V"⟩, 35), (⟨"KnowsLeastModel", "readUnit", "(I)V"⟩, 35), (⟨"KnowsLeastModel", "goesIn", "(I)Z"⟩, 35), (⟨"KnowsLeastModel", "tells", "(I)V"⟩, 35), (⟨"KnowsLeastModel", "readSum", "(I)V"⟩, 35), (⟨"KnowsLeastModel", "readTerm", "(I)V"⟩, 35), (⟨"KnowsLeastModel", "readAtom", "(I)V"⟩, 35), (⟨"KnowsLeastModel", "readPerson", "()V"⟩, 35)]
theorem lw_r4 : ∀ q ∈ lw_privs_4, lw_okq q := List.forall_mem_cons.mpr ⟨lw_p48, List.forall_mem_cons.mpr ⟨lw_p49, List.forall_mem_cons.mpr ⟨lw_p50, List.forall_mem_cons.mpr ⟨lw_p51, List.forall_mem_cons.mpr ⟨lw_p52, List.forall_mem_cons.mpr ⟨lw_p53, List.forall_mem_cons.mpr ⟨lw_p54, List.forall_mem_cons.mpr ⟨lw_p55, List.forall_mem_cons.mpr ⟨lw_p56, List.forall_mem_cons.mpr ⟨lw_p57, List.forall_mem_cons.mpr ⟨lw_p58, List.forall_mem_cons.mpr ⟨lw_p59, List.forall_mem_cons.mpr ⟨lw_p60, List.forall_mem_cons.mpr ⟨lw_p61, List.forall_mem_cons.mpr ⟨lw_p62, List.forall_mem_cons.mpr ⟨lw_p63, fun _ h => absurd h List.not_mem_nil⟩⟩⟩⟩⟩⟩⟩⟩⟩⟩⟩⟩⟩⟩⟩⟩
theorem lw_p64 : lw_okq (⟨"KnowsLeastModel", "readRoad", "()V"⟩, 35) := ⟨⟨by decide +kernel, by decide +kernel⟩, List.mem_of_getElem? (i := 1118) (by decide +kernel), List.mem_of_getElem? (i := 1327) (by decide +kernel), List.mem_of_getElem? (i := 1328) (by decide +kernel)⟩
theorem lw_p65 : lw_okq (⟨"KnowsLeastModel", "readHint", "()V"⟩, 35) := ⟨⟨by decide +kernel, by decide +kernel⟩, List.mem_of_getElem? (i := 1118) (by decide +kernel), List.mem_of_getElem? (i := 1331) (by decide +kernel), List.mem_of_getElem? (i := 1332) (by decide +kernel)⟩
theorem lw_p66 : lw_okq (⟨"KnowsLeastModel", "holdsIn", "(II)Z"⟩, 35) := ⟨⟨by decide +kernel, by decide +kernel⟩, List.mem_of_getElem? (i := 1118) (by decide +kernel), List.mem_of_getElem? (i := 1335) (by decide +kernel), List.mem_of_getElem? (i := 1336) (by decide +kernel)⟩
theorem lw_p67 : lw_okq (⟨"KnowsLeastModel", "wordOf", "(II)I"⟩, 35) := ⟨⟨by decide +kernel, by decide +kernel⟩, List.mem_of_getElem? (i := 1118) (by decide +kernel), List.mem_of_getElem? (i := 1339) (by decide +kernel), List.mem_of_getElem? (i := 1340) (by decide +kernel)⟩
theorem lw_p68 : lw_okq (⟨"KnowsLeastModel", "isWorld", "(I)Z"⟩, 35) := ⟨⟨by decide +kernel, by decide +kernel⟩, List.mem_of_getElem? (i := 1118) (by decide +kernel), List.mem_of_getElem? (i := 1356) (by decide +kernel), List.mem_of_getElem? (i := 1357) (by decide +kernel)⟩
theorem lw_p69 : lw_okq (⟨"KnowsLeastModel", "factsOf", "(I)I"⟩, 35) := ⟨⟨by decide +kernel, by decide +kernel⟩, List.mem_of_getElem? (i := 1118) (by decide +kernel), List.mem_of_getElem? (i := 1360) (by decide +kernel), List.mem_of_getElem? (i := 1361) (by decide +kernel)⟩
theorem lw_p70 : lw_okq (⟨"KnowsLeastModel", "isFact", "(J)Z"⟩, 35) := ⟨⟨by decide +kernel, by decide +kernel⟩, List.mem_of_getElem? (i := 1118) (by decide +kernel), List.mem_of_getElem? (i := 1371) (by decide +kernel), List.mem_of_getElem? (i := 1372) (by decide +kernel)⟩
theorem lw_p71 : lw_okq (⟨"KnowsLeastModel", "isPerson", "(J)Z"⟩, 35) := ⟨⟨by decide +kernel, by decide +kernel⟩, List.mem_of_getElem? (i := 1118) (by decide +kernel), List.mem_of_getElem? (i := 1379) (by decide +kernel), List.mem_of_getElem? (i := 1380) (by decide +kernel)⟩
theorem lw_p72 : lw_okq (⟨"KnowsLeastModel", "cellNow", "(I)I"⟩, 35) := ⟨⟨by decide +kernel, by decide +kernel⟩, List.mem_of_getElem? (i := 1118) (by decide +kernel), List.mem_of_getElem? (i := 1383) (by decide +kernel), List.mem_of_getElem? (i := 1384) (by decide +kernel)⟩
theorem lw_p73 : lw_okq (⟨"KnowsLeastModel", "cellOf", "(II)I"⟩, 35) := ⟨⟨by decide +kernel, by decide +kernel⟩, List.mem_of_getElem? (i := 1118) (by decide +kernel), List.mem_of_getElem? (i := 1387) (by decide +kernel), List.mem_of_getElem? (i := 1388) (by decide +kernel)⟩
theorem lw_p74 : lw_okq (⟨"KnowsLeastModel", "worlds", "()I"⟩, 35) := ⟨⟨by decide +kernel, by decide +kernel⟩, List.mem_of_getElem? (i := 1118) (by decide +kernel), List.mem_of_getElem? (i := 1391) (by decide +kernel), List.mem_of_getElem? (i := 1392) (by decide +kernel)⟩
theorem lw_p75 : lw_okq (⟨"KnowsLeastModel", "knownIn", "(I)I"⟩, 35) := ⟨⟨by decide +kernel, by decide +kernel⟩, List.mem_of_getElem? (i := 1118) (by decide +kernel), List.mem_of_getElem? (i := 1395) (by decide +kernel), List.mem_of_getElem? (i := 1396) (by decide +kernel)⟩
theorem lw_p76 : lw_okq (⟨"KnowsLeastModel", "guilty", "()I"⟩, 35) := ⟨⟨by decide +kernel, by decide +kernel⟩, List.mem_of_getElem? (i := 1118) (by decide +kernel), List.mem_of_getElem? (i := 1402) (by decide +kernel), List.mem_of_getElem? (i := 1403) (by decide +kernel)⟩
theorem lw_p77 : lw_okq (⟨"KnowsLeastModel", "keeps", "()V"⟩, 35) := ⟨⟨by decide +kernel, by decide +kernel⟩, List.mem_of_getElem? (i := 1118) (by decide +kernel), List.mem_of_getElem? (i := 1422) (by decide +kernel), List.mem_of_getElem? (i := 1423) (by decide +kernel)⟩
theorem lw_p78 : lw_okq (⟨"KnowsLeastModel", "notes", "()V"⟩, 35) := ⟨⟨by decide +kernel, by decide +kernel⟩, List.mem_of_getElem? (i := 1118) (by decide +kernel), List.mem_of_getElem? (i := 1426) (by decide +kernel), List.mem_of_getElem? (i := 1427) (by decide +kernel)⟩
theorem lw_p79 : lw_okq (⟨"KnowsLeastModel", "asks", "(II)I"⟩, 35) := ⟨⟨by decide +kernel, by decide +kernel⟩, List.mem_of_getElem? (i := 1118) (by decide +kernel), List.mem_of_getElem? (i := 1437) (by decide +kernel), List.mem_of_getElem? (i := 1438) (by decide +kernel)⟩
def lw_privs_5 : List (MethodName × Nat) := [(⟨"KnowsLeastModel", "readRoad", "()V"⟩, 35), (⟨"KnowsLeastModel", "readHint", "()V"⟩, 35), (⟨"KnowsLeastModel", "holdsIn", "(II)Z"⟩, 35), (⟨"KnowsLeastModel", "wordOf", "(II)I"⟩, 35), (⟨"KnowsLeastModel", "isWorld", "(I)Z"⟩, 35), (⟨"KnowsLeastModel", "factsOf", "(I)I"⟩, 35), (⟨"KnowsLeastModel", "isFact", "(J)Z"⟩, 35), (⟨"KnowsLeastModel", "isPerson", "(J)Z"⟩, 35), (⟨"KnowsLeastModel", "cellNow", "(I)I"⟩, 35), (⟨"KnowsLeastModel", "cellOf", "(II)I"⟩, 35), (⟨"KnowsLeastModel", "worlds", "()I"⟩, 35), (⟨"KnowsLeastModel", "knownIn", "(I)I"⟩, 35), (⟨"KnowsLeastModel", "guilty", "()I"⟩, 35), (⟨"KnowsLeastModel", "keeps", "()V"⟩, 35), (⟨"KnowsLeastModel", "notes", "()V"⟩, 35), (⟨"KnowsLeastModel", "asks", "(II)I"⟩, 35)]
theorem lw_r5 : ∀ q ∈ lw_privs_5, lw_okq q := List.forall_mem_cons.mpr ⟨lw_p64, List.forall_mem_cons.mpr ⟨lw_p65, List.forall_mem_cons.mpr ⟨lw_p66, List.forall_mem_cons.mpr ⟨lw_p67, List.forall_mem_cons.mpr ⟨lw_p68, List.forall_mem_cons.mpr ⟨lw_p69, List.forall_mem_cons.mpr ⟨lw_p70, List.forall_mem_cons.mpr ⟨lw_p71, List.forall_mem_cons.mpr ⟨lw_p72, List.forall_mem_cons.mpr ⟨lw_p73, List.forall_mem_cons.mpr ⟨lw_p74, List.forall_mem_cons.mpr ⟨lw_p75, List.forall_mem_cons.mpr ⟨lw_p76, List.forall_mem_cons.mpr ⟨lw_p77, List.forall_mem_cons.mpr ⟨lw_p78, List.forall_mem_cons.mpr ⟨lw_p79, fun _ h => absurd h List.not_mem_nil⟩⟩⟩⟩⟩⟩⟩⟩⟩⟩⟩⟩⟩⟩⟩⟩
theorem lw_p80 : lw_okq (⟨"KnowsLeastModel", "knowsNow", "(II)Z"⟩, 35) := ⟨⟨by decide +kernel, by decide +kernel⟩, List.mem_of_getElem? (i := 1118) (by decide +kernel), List.mem_of_getElem? (i := 1441) (by decide +kernel), List.mem_of_getElem? (i := 1442) (by decide +kernel)⟩
theorem lw_p81 : lw_okq (⟨"KnowsLeastModel", "daysOne", "()Z"⟩, 35) := ⟨⟨by decide +kernel, by decide +kernel⟩, List.mem_of_getElem? (i := 1118) (by decide +kernel), List.mem_of_getElem? (i := 1450) (by decide +kernel), List.mem_of_getElem? (i := 1451) (by decide +kernel)⟩
theorem lw_p82 : lw_okq (⟨"KnowsLeastModel", "doesAll", "(I)I"⟩, 35) := ⟨⟨by decide +kernel, by decide +kernel⟩, List.mem_of_getElem? (i := 1118) (by decide +kernel), List.mem_of_getElem? (i := 1467) (by decide +kernel), List.mem_of_getElem? (i := 1468) (by decide +kernel)⟩
theorem lw_p83 : lw_okq (⟨"KnowsLeastModel", "leastOf", "(II)I"⟩, 35) := ⟨⟨by decide +kernel, by decide +kernel⟩, List.mem_of_getElem? (i := 1118) (by decide +kernel), List.mem_of_getElem? (i := 1475) (by decide +kernel), List.mem_of_getElem? (i := 1476) (by decide +kernel)⟩
theorem lw_p84 : lw_okq (⟨"KnowsLeastModel", "measureOf", "(II)I"⟩, 35) := ⟨⟨by decide +kernel, by decide +kernel⟩, List.mem_of_getElem? (i := 1118) (by decide +kernel), List.mem_of_getElem? (i := 1479) (by decide +kernel), List.mem_of_getElem? (i := 1480) (by decide +kernel)⟩
theorem lw_p85 : lw_okq (⟨"KnowsLeastModel", "weightOf", "(I)I"⟩, 35) := ⟨⟨by decide +kernel, by decide +kernel⟩, List.mem_of_getElem? (i := 1118) (by decide +kernel), List.mem_of_getElem? (i := 1483) (by decide +kernel), List.mem_of_getElem? (i := 1484) (by decide +kernel)⟩
theorem lw_p86 : lw_okq (⟨"KnowsLeastModel", "isAgain", "()V"⟩, 35) := ⟨⟨by decide +kernel, by decide +kernel⟩, List.mem_of_getElem? (i := 1118) (by decide +kernel), List.mem_of_getElem? (i := 1487) (by decide +kernel), List.mem_of_getElem? (i := 1488) (by decide +kernel)⟩
theorem lw_p87 : lw_okq (⟨"KnowsLeastModel", "comes", "()V"⟩, 35) := ⟨⟨by decide +kernel, by decide +kernel⟩, List.mem_of_getElem? (i := 1118) (by decide +kernel), List.mem_of_getElem? (i := 1499) (by decide +kernel), List.mem_of_getElem? (i := 1500) (by decide +kernel)⟩
theorem lw_p88 : lw_okq (⟨"KnowsLeastModel", "draw", "(I)I"⟩, 35) := ⟨⟨by decide +kernel, by decide +kernel⟩, List.mem_of_getElem? (i := 1118) (by decide +kernel), List.mem_of_getElem? (i := 1503) (by decide +kernel), List.mem_of_getElem? (i := 1504) (by decide +kernel)⟩
theorem lw_p89 : lw_okq (⟨"KnowsLeastModel", "depthOf", "(I)I"⟩, 35) := ⟨⟨by decide +kernel, by decide +kernel⟩, List.mem_of_getElem? (i := 1118) (by decide +kernel), List.mem_of_getElem? (i := 1516) (by decide +kernel), List.mem_of_getElem? (i := 1517) (by decide +kernel)⟩
theorem lw_p90 : lw_okq (⟨"KnowsLeastModel", "knownBy", "(I)I"⟩, 35) := ⟨⟨by decide +kernel, by decide +kernel⟩, List.mem_of_getElem? (i := 1118) (by decide +kernel), List.mem_of_getElem? (i := 1520) (by decide +kernel), List.mem_of_getElem? (i := 1521) (by decide +kernel)⟩
theorem lw_p91 : lw_okq (⟨"KnowsLeastModel", "togetherOf", "(I)I"⟩, 35) := ⟨⟨by decide +kernel, by decide +kernel⟩, List.mem_of_getElem? (i := 1118) (by decide +kernel), List.mem_of_getElem? (i := 1537) (by decide +kernel), List.mem_of_getElem? (i := 1538) (by decide +kernel)⟩
theorem lw_p92 : lw_okq (⟨"KnowsLeastModel", "measureNow", "(II)I"⟩, 35) := ⟨⟨by decide +kernel, by decide +kernel⟩, List.mem_of_getElem? (i := 1118) (by decide +kernel), List.mem_of_getElem? (i := 1553) (by decide +kernel), List.mem_of_getElem? (i := 1554) (by decide +kernel)⟩
theorem lw_p93 : lw_okq (⟨"KnowsLeastModel", "laysShown", "(I)Z"⟩, 35) := ⟨⟨by decide +kernel, by decide +kernel⟩, List.mem_of_getElem? (i := 1118) (by decide +kernel), List.mem_of_getElem? (i := 1573) (by decide +kernel), List.mem_of_getElem? (i := 1574) (by decide +kernel)⟩
theorem lw_p94 : lw_okq (⟨"KnowsLeastModel", "laysTold", "()V"⟩, 35) := ⟨⟨by decide +kernel, by decide +kernel⟩, List.mem_of_getElem? (i := 1118) (by decide +kernel), List.mem_of_getElem? (i := 1577) (by decide +kernel), List.mem_of_getElem? (i := 1578) (by decide +kernel)⟩
theorem lw_p95 : lw_okq (⟨"KnowsLeastModel", "couldBe", "(II)V"⟩, 35) := ⟨⟨by decide +kernel, by decide +kernel⟩, List.mem_of_getElem? (i := 1118) (by decide +kernel), List.mem_of_getElem? (i := 1581) (by decide +kernel), List.mem_of_getElem? (i := 1582) (by decide +kernel)⟩
def lw_privs_6 : List (MethodName × Nat) := [(⟨"KnowsLeastModel", "knowsNow", "(II)Z"⟩, 35), (⟨"KnowsLeastModel", "daysOne", "()Z"⟩, 35), (⟨"KnowsLeastModel", "doesAll", "(I)I"⟩, 35), (⟨"KnowsLeastModel", "leastOf", "(II)I"⟩, 35), (⟨"KnowsLeastModel", "measureOf", "(II)I"⟩, 35), (⟨"KnowsLeastModel", "weightOf", "(I)I"⟩, 35), (⟨"KnowsLeastModel", "isAgain", "()V"⟩, 35), (⟨"KnowsLeastModel", "comes", "()V"⟩, 35), (⟨"KnowsLeastModel", "draw", "(I)I"⟩, 35), (⟨"KnowsLeastModel", "depthOf", "(I)I"⟩, 35), (⟨"KnowsLeastModel", "knownBy", "(I)I"⟩, 35), (⟨"KnowsLeastModel", "togetherOf", "(I)I"⟩, 35), (⟨"KnowsLeastModel", "measureNow", "(II)I"⟩, 35), (⟨"KnowsLeastModel", "laysShown", "(I)Z"⟩, 35), (⟨"KnowsLeastModel", "laysTold", "()V"⟩, 35), (⟨"KnowsLeastModel", "couldBe", "(II)V"⟩, 35)]
theorem lw_r6 : ∀ q ∈ lw_privs_6, lw_okq q := List.forall_mem_cons.mpr ⟨lw_p80, List.forall_mem_cons.mpr ⟨lw_p81, List.forall_mem_cons.mpr ⟨lw_p82, List.forall_mem_cons.mpr ⟨lw_p83, List.forall_mem_cons.mpr ⟨lw_p84, List.forall_mem_cons.mpr ⟨lw_p85, List.forall_mem_cons.mpr ⟨lw_p86, List.forall_mem_cons.mpr ⟨lw_p87, List.forall_mem_cons.mpr ⟨lw_p88, List.forall_mem_cons.mpr ⟨lw_p89, List.forall_mem_cons.mpr ⟨lw_p90, List.forall_mem_cons.mpr ⟨lw_p91, List.forall_mem_cons.mpr ⟨lw_p92, List.forall_mem_cons.mpr ⟨lw_p93, List.forall_mem_cons.mpr ⟨lw_p94, List.forall_mem_cons.mpr ⟨lw_p95, fun _ h => absurd h List.not_mem_nil⟩⟩⟩⟩⟩⟩⟩⟩⟩⟩⟩⟩⟩⟩⟩⟩
theorem lw_p96 : lw_okq (⟨"KnowsLeastModel", "askedFor", "(II)I"⟩, 35) := ⟨⟨by decide +kernel, by decide +kernel⟩, List.mem_of_getElem? (i := 1118) (by decide +kernel), List.mem_of_getElem? (i := 1585) (by decide +kernel), List.mem_of_getElem? (i := 1586) (by decide +kernel)⟩
theorem lw_p97 : lw_okq (⟨"KnowsLeastModel", "isBetter", "()Z"⟩, 35) := ⟨⟨by decide +kernel, by decide +kernel⟩, List.mem_of_getElem? (i := 1118) (by decide +kernel), List.mem_of_getElem? (i := 1589) (by decide +kernel), List.mem_of_getElem? (i := 1590) (by decide +kernel)⟩
theorem lw_p98 : lw_okq (⟨"KnowsLeastModel", "askedMany", "([I)I"⟩, 35) := ⟨⟨by decide +kernel, by decide +kernel⟩, List.mem_of_getElem? (i := 1118) (by decide +kernel), List.mem_of_getElem? (i := 1593) (by decide +kernel), List.mem_of_getElem? (i := 1594) (by decide +kernel)⟩
theorem lw_p99 : lw_okq (⟨"KnowsLeastModel", "choices", "()I"⟩, 35) := ⟨⟨by decide +kernel, by decide +kernel⟩, List.mem_of_getElem? (i := 1118) (by decide +kernel), List.mem_of_getElem? (i := 1605) (by decide +kernel), List.mem_of_getElem? (i := 1606) (by decide +kernel)⟩
theorem lw_p100 : lw_okq (⟨"KnowsLeastModel", "tellsChoice", "(I)V"⟩, 35) := ⟨⟨by decide +kernel, by decide +kernel⟩, List.mem_of_getElem? (i := 1118) (by decide +kernel), List.mem_of_getElem? (i := 1609) (by decide +kernel), List.mem_of_getElem? (i := 1610) (by decide +kernel)⟩
theorem lw_p101 : lw_okq (⟨"KnowsLeastModel", "isRest", "(IIII)Z"⟩, 35) := ⟨⟨by decide +kernel, by decide +kernel⟩, List.mem_of_getElem? (i := 1118) (by decide +kernel), List.mem_of_getElem? (i := 1613) (by decide +kernel), List.mem_of_getElem? (i := 1614) (by decide +kernel)⟩
theorem lw_p102 : lw_okq (⟨"KnowsLeastModel", "codeOf", "(I)I"⟩, 35) := ⟨⟨by decide +kernel, by decide +kernel⟩, List.mem_of_getElem? (i := 1118) (by decide +kernel), List.mem_of_getElem? (i := 1617) (by decide +kernel), List.mem_of_getElem? (i := 1618) (by decide +kernel)⟩
theorem lw_p103 : lw_okq (⟨"KnowsLeastModel", "worstOf", "(I)I"⟩, 35) := ⟨⟨by decide +kernel, by decide +kernel⟩, List.mem_of_getElem? (i := 1118) (by decide +kernel), List.mem_of_getElem? (i := 1629) (by decide +kernel), List.mem_of_getElem? (i := 1630) (by decide +kernel)⟩
theorem lw_p104 : lw_okq (⟨"KnowsLeastModel", "worstBy", "(II)I"⟩, 35) := ⟨⟨by decide +kernel, by decide +kernel⟩, List.mem_of_getElem? (i := 1118) (by decide +kernel), List.mem_of_getElem? (i := 1633) (by decide +kernel), List.mem_of_getElem? (i := 1634) (by decide +kernel)⟩
theorem lw_p105 : lw_okq (⟨"KnowsLeastModel", "isRight", "(II)Z"⟩, 35) := ⟨⟨by decide +kernel, by decide +kernel⟩, List.mem_of_getElem? (i := 1118) (by decide +kernel), List.mem_of_getElem? (i := 1645) (by decide +kernel), List.mem_of_getElem? (i := 1646) (by decide +kernel)⟩
theorem lw_p106 : lw_okq (⟨"KnowsLeastModel", "justiceOf", "(I)I"⟩, 35) := ⟨⟨by decide +kernel, by decide +kernel⟩, List.mem_of_getElem? (i := 1118) (by decide +kernel), List.mem_of_getElem? (i := 1653) (by decide +kernel), List.mem_of_getElem? (i := 1654) (by decide +kernel)⟩
theorem lw_p107 : lw_okq (⟨"KnowsLeastModel", "newsOf", "(II)I"⟩, 35) := ⟨⟨by decide +kernel, by decide +kernel⟩, List.mem_of_getElem? (i := 1118) (by decide +kernel), List.mem_of_getElem? (i := 1665) (by decide +kernel), List.mem_of_getElem? (i := 1666) (by decide +kernel)⟩
theorem lw_p108 : lw_okq (⟨"KnowsLeastModel", "noRow", "(I)I"⟩, 35) := ⟨⟨by decide +kernel, by decide +kernel⟩, List.mem_of_getElem? (i := 1118) (by decide +kernel), List.mem_of_getElem? (i := 1685) (by decide +kernel), List.mem_of_getElem? (i := 1686) (by decide +kernel)⟩
theorem lw_p109 : lw_okq (⟨"KnowsLeastModel", "isFit", "(II)Z"⟩, 35) := ⟨⟨by decide +kernel, by decide +kernel⟩, List.mem_of_getElem? (i := 1118) (by decide +kernel), List.mem_of_getElem? (i := 1690) (by decide +kernel), List.mem_of_getElem? (i := 1691) (by decide +kernel)⟩
theorem lw_p110 : lw_okq (⟨"KnowsLeastModel", "rowsFrom", "(II)I"⟩, 35) := ⟨⟨by decide +kernel, by decide +kernel⟩, List.mem_of_getElem? (i := 1118) (by decide +kernel), List.mem_of_getElem? (i := 1703) (by decide +kernel), List.mem_of_getElem? (i := 1704) (by decide +kernel)⟩
theorem lw_p111 : lw_okq (⟨"KnowsLeastModel", "roadMany", "()I"⟩, 35) := ⟨⟨by decide +kernel, by decide +kernel⟩, List.mem_of_getElem? (i := 1118) (by decide +kernel), List.mem_of_getElem? (i := 1738) (by decide +kernel), List.mem_of_getElem? (i := 1739) (by decide +kernel)⟩
def lw_privs_7 : List (MethodName × Nat) := [(⟨"KnowsLeastModel", "askedFor", "(II)I"⟩, 35), (⟨"KnowsLeastModel", "isBetter", "()Z"⟩, 35), (⟨"KnowsLeastModel", "askedMany", "([I)I"⟩, 35), (⟨"KnowsLeastModel", "choices", "()I"⟩, 35), (⟨"KnowsLeastModel", "tellsChoice", "(I)V"⟩, 35), (⟨"KnowsLeastModel", "isRest", "(IIII)Z"⟩, 35), (⟨"KnowsLeastModel", "codeOf", "(I)I"⟩, 35), (⟨"KnowsLeastModel", "worstOf", "(I)I"⟩, 35), (⟨"KnowsLeastModel", "worstBy", "(II)I"⟩, 35), (⟨"KnowsLeastModel", "isRight", "(II)Z"⟩, 35), (⟨"KnowsLeastModel", "justiceOf", "(I)I"⟩, 35), (⟨"KnowsLeastModel", "newsOf", "(II)I"⟩, 35), (⟨"KnowsLeastModel", "noRow", "(I)I"⟩, 35), (⟨"KnowsLeastModel", "isFit", "(II)Z"⟩, 35), (⟨"KnowsLeastModel", "rowsFrom", "(II)I"⟩, 35), (⟨"KnowsLeastModel", "roadMany", "()I"⟩, 35)]
theorem lw_r7 : ∀ q ∈ lw_privs_7, lw_okq q := List.forall_mem_cons.mpr ⟨lw_p96, List.forall_mem_cons.mpr ⟨lw_p97, List.forall_mem_cons.mpr ⟨lw_p98, List.forall_mem_cons.mpr ⟨lw_p99, List.forall_mem_cons.mpr ⟨lw_p100, List.forall_mem_cons.mpr ⟨lw_p101, List.forall_mem_cons.mpr ⟨lw_p102, List.forall_mem_cons.mpr ⟨lw_p103, List.forall_mem_cons.mpr ⟨lw_p104, List.forall_mem_cons.mpr ⟨lw_p105, List.forall_mem_cons.mpr ⟨lw_p106, List.forall_mem_cons.mpr ⟨lw_p107, List.forall_mem_cons.mpr ⟨lw_p108, List.forall_mem_cons.mpr ⟨lw_p109, List.forall_mem_cons.mpr ⟨lw_p110, List.forall_mem_cons.mpr ⟨lw_p111, fun _ h => absurd h List.not_mem_nil⟩⟩⟩⟩⟩⟩⟩⟩⟩⟩⟩⟩⟩⟩⟩⟩
def lw_privs : List (MethodName × Nat) := lw_privs_1 ++ (lw_privs_2 ++ (lw_privs_3 ++ (lw_privs_4 ++ (lw_privs_5 ++ (lw_privs_6 ++ (lw_privs_7))))))
def lw_tbl : List Cond := k2_sels lw_privs ++ tables_1
theorem lw_privs_ok : ∀ q ∈ lw_privs, lw_okq q := by
  show ∀ q ∈ lw_privs_1 ++ (lw_privs_2 ++ (lw_privs_3 ++ (lw_privs_4 ++ (lw_privs_5 ++ (lw_privs_6 ++ (lw_privs_7)))))), lw_okq q
  exact List.forall_mem_append.mpr ⟨lw_r1, List.forall_mem_append.mpr ⟨lw_r2, List.forall_mem_append.mpr ⟨lw_r3, List.forall_mem_append.mpr ⟨lw_r4, List.forall_mem_append.mpr ⟨lw_r5, List.forall_mem_append.mpr ⟨lw_r6, lw_r7⟩⟩⟩⟩⟩⟩
end
section
def RX0 : String := "KnowsLeast$Formulas"
def TX0 : u_T := fun k => match k with
  | 0 => ("KnowsLeast$Formulas", "codes", "[I", true)
  | 1 => ("KnowsLeast$Formulas", "ends", "[I", true)
  | 2 => ("KnowsLeast$Formulas", "stack", "[I", true)
  | _ => ("KnowsLeast$Formulas", "length", "I", false)
def tyX0 : Nat → FieldType := fun k => match k with
  | 0 => .array .int
  | 1 => .array .int
  | 2 => .array .int
  | _ => .int
theorem nmX0 : ∀ a, a < 4 → ∀ b, b < 4 → a ≠ b → (TX0 a).2.1 ≠ (TX0 b).2.1 := by decide +kernel
theorem tyX0_ok : ∀ k, k < 4 → parseFieldDescriptor (TX0 k).2.2.1 = some (tyX0 k) := by decide +kernel
abbrev cX0_init : ByteArray := prog_2_method_1_code
def yX0_init : MethodName := ⟨RX0, "<init>", "()V"⟩
abbrev cX0_clear : ByteArray := prog_2_method_2_code
def yX0_clear : MethodName := ⟨RX0, "clear", "()V"⟩
abbrev cX0_add : ByteArray := prog_2_method_3_code
def yX0_add : MethodName := ⟨RX0, "add", "(I)V"⟩
abbrev cX0_end : ByteArray := prog_2_method_4_code
def yX0_end : MethodName := ⟨RX0, "end", "(I)V"⟩
abbrev cX0_settle : ByteArray := prog_2_method_5_code
def yX0_settle : MethodName := ⟨RX0, "settle", "(LKnowsLeast$Land;)V"⟩
abbrev cX0_valueIn : ByteArray := prog_2_method_6_code
def yX0_valueIn : MethodName := ⟨RX0, "valueIn", "(LKnowsLeast$Land;III)I"⟩
abbrev cX0_isAtom : ByteArray := prog_2_method_7_code
def yX0_isAtom : MethodName := ⟨RX0, "isAtom", "(I)Z"⟩
abbrev cX0_atomOf : ByteArray := prog_2_method_8_code
def yX0_atomOf : MethodName := ⟨RX0, "atomOf", "(LKnowsLeast$Land;II)I"⟩
abbrev cX0_joined : ByteArray := prog_2_method_9_code
def yX0_joined : MethodName := ⟨RX0, "joined", "(III)I"⟩
abbrev cX0_kept : ByteArray := prog_2_method_10_code
def yX0_kept : MethodName := ⟨RX0, "kept", "(J)I"⟩
def RX1 : String := "KnowsLeast$Image"
def TX1 : u_T := fun k => match k with
  | 0 => ("KnowsLeast$Image", "land", "LKnowsLeast$Land;", true)
  | 1 => ("KnowsLeast$Image", "state", "LKnowsLeast$State;", true)
  | _ => ("KnowsLeast$Image", "made", "Z", false)
def tyX1 : Nat → FieldType := fun k => match k with
  | 0 => .object "KnowsLeast$Land"
  | 1 => .object "KnowsLeast$State"
  | _ => .boolean
theorem nmX1 : ∀ a, a < 3 → ∀ b, b < 3 → a ≠ b → (TX1 a).2.1 ≠ (TX1 b).2.1 := by decide +kernel
theorem tyX1_ok : ∀ k, k < 3 → parseFieldDescriptor (TX1 k).2.2.1 = some (tyX1 k) := by decide +kernel
abbrev cX1_init : ByteArray := prog_3_method_1_code
def yX1_init : MethodName := ⟨RX1, "<init>", "()V"⟩
def RX2 : String := "KnowsLeast$Land"
def TX2 : u_T := fun k => match k with
  | 0 => ("KnowsLeast$Land", "numbers", "[I", true)
  | 1 => ("KnowsLeast$Land", "weights", "[I", true)
  | 2 => ("KnowsLeast$Land", "holding", "[I", true)
  | 3 => ("KnowsLeast$Land", "hinted", "[I", true)
  | 4 => ("KnowsLeast$Land", "roads", "[I", true)
  | 5 => ("KnowsLeast$Land", "guilty", "I", false)
  | 6 => ("KnowsLeast$Land", "worlds", "I", false)
  | 7 => ("KnowsLeast$Land", "facts", "I", false)
  | 8 => ("KnowsLeast$Land", "people", "I", false)
  | _ => ("KnowsLeast$Land", "lines", "I", false)
def tyX2 : Nat → FieldType := fun k => match k with
  | 0 => .array .int
  | 1 => .array .int
  | 2 => .array .int
  | 3 => .array .int
  | 4 => .array .int
  | 5 => .int
  | 6 => .int
  | 7 => .int
  | 8 => .int
  | _ => .int
theorem nmX2 : ∀ a, a < 10 → ∀ b, b < 10 → a ≠ b → (TX2 a).2.1 ≠ (TX2 b).2.1 := by decide +kernel
theorem tyX2_ok : ∀ k, k < 10 → parseFieldDescriptor (TX2 k).2.2.1 = some (tyX2 k) := by decide +kernel
abbrev cX2_init : ByteArray := prog_4_method_1_code
def yX2_init : MethodName := ⟨RX2, "<init>", "()V"⟩
abbrev cX2_clear : ByteArray := prog_4_method_2_code
def yX2_clear : MethodName := ⟨RX2, "clear", "()V"⟩
abbrev cX2_become : ByteArray := prog_4_method_3_code
def yX2_become : MethodName := ⟨RX2, "become", "(LKnowsLeast$Land;)V"⟩
abbrev cX2_allWorlds : ByteArray := prog_4_method_4_code
def yX2_allWorlds : MethodName := ⟨RX2, "allWorlds", "()I"⟩
abbrev cX2_allFacts : ByteArray := prog_4_method_5_code
def yX2_allFacts : MethodName := ⟨RX2, "allFacts", "()I"⟩
abbrev cX2_factsIn : ByteArray := prog_4_method_6_code
def yX2_factsIn : MethodName := ⟨RX2, "factsIn", "(I)I"⟩
abbrev cX2_countRoads : ByteArray := prog_4_method_7_code
def yX2_countRoads : MethodName := ⟨RX2, "countRoads", "()I"⟩
abbrev cX2_sideOf : ByteArray := prog_4_method_8_code
def yX2_sideOf : MethodName := ⟨RX2, "sideOf", "(II)I"⟩
abbrev cX2_possible : ByteArray := prog_4_method_9_code
def yX2_possible : MethodName := ⟨RX2, "possible", "(II)I"⟩
abbrev cX2_isKnown : ByteArray := prog_4_method_10_code
def yX2_isKnown : MethodName := ⟨RX2, "isKnown", "(II)Z"⟩
abbrev cX2_knownBy : ByteArray := prog_4_method_11_code
def yX2_knownBy : MethodName := ⟨RX2, "knownBy", "(I)I"⟩
abbrev cX2_isGuiltKnown : ByteArray := prog_4_method_12_code
def yX2_isGuiltKnown : MethodName := ⟨RX2, "isGuiltKnown", "(I)Z"⟩
abbrev cX2_weightOf : ByteArray := prog_4_method_13_code
def yX2_weightOf : MethodName := ⟨RX2, "weightOf", "(I)I"⟩
abbrev cX2_amountOf : ByteArray := prog_4_method_14_code
def yX2_amountOf : MethodName := ⟨RX2, "amountOf", "(II)I"⟩
abbrev cX2_leastBy : ByteArray := prog_4_method_15_code
def yX2_leastBy : MethodName := ⟨RX2, "leastBy", "(I[II)I"⟩
abbrev cX2_isRight : ByteArray := prog_4_method_16_code
def yX2_isRight : MethodName := ⟨RX2, "isRight", "(II)Z"⟩
abbrev cX2_stepFrom : ByteArray := prog_4_method_17_code
def yX2_stepFrom : MethodName := ⟨RX2, "stepFrom", "(I[I)I"⟩
abbrev cX2_isDeed : ByteArray := prog_4_method_18_code
def yX2_isDeed : MethodName := ⟨RX2, "isDeed", "(J)Z"⟩
abbrev cX2_deedsAhead : ByteArray := prog_4_method_19_code
def yX2_deedsAhead : MethodName := ⟨RX2, "deedsAhead", "(LKnowsLeast$Row;)I"⟩
def RX3 : String := "KnowsLeast$Parties"
def TX3 : u_T := fun k => match k with
  | 0 => ("KnowsLeast$Parties", "amounts", "[I", true)
  | 1 => ("KnowsLeast$Parties", "judges", "[I", true)
  | 2 => ("KnowsLeast$Parties", "told", "[I", true)
  | 3 => ("KnowsLeast$Parties", "canFirst", "[Z", true)
  | 4 => ("KnowsLeast$Parties", "choices", "I", false)
  | 5 => ("KnowsLeast$Parties", "facts", "I", false)
  | 6 => ("KnowsLeast$Parties", "first", "I", false)
  | 7 => ("KnowsLeast$Parties", "second", "I", false)
  | _ => ("KnowsLeast$Parties", "judge", "I", false)
def tyX3 : Nat → FieldType := fun k => match k with
  | 0 => .array .int
  | 1 => .array .int
  | 2 => .array .int
  | 3 => .array .boolean
  | 4 => .int
  | 5 => .int
  | 6 => .int
  | 7 => .int
  | _ => .int
theorem nmX3 : ∀ a, a < 9 → ∀ b, b < 9 → a ≠ b → (TX3 a).2.1 ≠ (TX3 b).2.1 := by decide +kernel
theorem tyX3_ok : ∀ k, k < 9 → parseFieldDescriptor (TX3 k).2.2.1 = some (tyX3 k) := by decide +kernel
abbrev cX3_init : ByteArray := prog_5_method_1_code
def yX3_init : MethodName := ⟨RX3, "<init>", "()V"⟩
abbrev cX3_judgeAll : ByteArray := prog_5_method_2_code
def yX3_judgeAll : MethodName := ⟨RX3, "judgeAll", "(LKnowsLeast$Land;LKnowsLeast$State;I)V"⟩
abbrev cX3_choose : ByteArray := prog_5_method_3_code
def yX3_choose : MethodName := ⟨RX3, "choose", "(I)I"⟩
abbrev cX3_takeBack : ByteArray := prog_5_method_4_code
def yX3_takeBack : MethodName := ⟨RX3, "takeBack", "(II)V"⟩
abbrev cX3_mostOf : ByteArray := prog_5_method_5_code
def yX3_mostOf : MethodName := ⟨RX3, "mostOf", "(I)I"⟩
abbrev cX3_findRest : ByteArray := prog_5_method_6_code
def yX3_findRest : MethodName := ⟨RX3, "findRest", "(II)Z"⟩
abbrev cX3_canGet : ByteArray := prog_5_method_7_code
def yX3_canGet : MethodName := ⟨RX3, "canGet", "(II)Z"⟩
abbrev cX3_choice : ByteArray := prog_5_method_8_code
def yX3_choice : MethodName := ⟨RX3, "choice", "(I)I"⟩
def RX4 : String := "KnowsLeast$Past"
def TX4 : u_T := fun k => match k with
  | 0 => ("KnowsLeast$Past", "kept", "[I", true)
  | _ => ("KnowsLeast$Past", "size", "I", false)
def tyX4 : Nat → FieldType := fun k => match k with
  | 0 => .array .int
  | _ => .int
theorem nmX4 : ∀ a, a < 2 → ∀ b, b < 2 → a ≠ b → (TX4 a).2.1 ≠ (TX4 b).2.1 := by decide +kernel
theorem tyX4_ok : ∀ k, k < 2 → parseFieldDescriptor (TX4 k).2.2.1 = some (tyX4 k) := by decide +kernel
abbrev cX4_init : ByteArray := prog_6_method_1_code
def yX4_init : MethodName := ⟨RX4, "<init>", "()V"⟩
abbrev cX4_forget : ByteArray := prog_6_method_2_code
def yX4_forget : MethodName := ⟨RX4, "forget", "()V"⟩
abbrev cX4_keep : ByteArray := prog_6_method_3_code
def yX4_keep : MethodName := ⟨RX4, "keep", "(LKnowsLeast$State;)V"⟩
abbrev cX4_goBack : ByteArray := prog_6_method_4_code
def yX4_goBack : MethodName := ⟨RX4, "goBack", "(LKnowsLeast$State;I)V"⟩
def RX5 : String := "KnowsLeast$Reader"
def TX5 : u_T := fun k => match k with
  | 0 => ("KnowsLeast$Reader", "tokens", "LKnowsLeast$Tokens;", true)
  | 1 => ("KnowsLeast$Reader", "formulas", "LKnowsLeast$Formulas;", true)
  | 2 => ("KnowsLeast$Reader", "land", "LKnowsLeast$Land;", true)
  | 3 => ("KnowsLeast$Reader", "state", "LKnowsLeast$State;", true)
  | 4 => ("KnowsLeast$Reader", "fault", "I", false)
  | 5 => ("KnowsLeast$Reader", "place", "I", false)
  | _ => ("KnowsLeast$Reader", "at", "I", false)
def tyX5 : Nat → FieldType := fun k => match k with
  | 0 => .object "KnowsLeast$Tokens"
  | 1 => .object "KnowsLeast$Formulas"
  | 2 => .object "KnowsLeast$Land"
  | 3 => .object "KnowsLeast$State"
  | 4 => .int
  | 5 => .int
  | _ => .int
theorem nmX5 : ∀ a, a < 7 → ∀ b, b < 7 → a ≠ b → (TX5 a).2.1 ≠ (TX5 b).2.1 := by decide +kernel
theorem tyX5_ok : ∀ k, k < 7 → parseFieldDescriptor (TX5 k).2.2.1 = some (tyX5 k) := by decide +kernel
abbrev cX5_init : ByteArray := prog_7_method_1_code
def yX5_init : MethodName := ⟨RX5, "<init>", "()V"⟩
abbrev cX5_read : ByteArray := prog_7_method_2_code
def yX5_read : MethodName := ⟨RX5, "read", "([BI)I"⟩
abbrev cX5_kind : ByteArray := prog_7_method_3_code
def yX5_kind : MethodName := ⟨RX5, "kind", "()I"⟩
abbrev cX5_goOn : ByteArray := prog_7_method_4_code
def yX5_goOn : MethodName := ⟨RX5, "goOn", "()V"⟩
abbrev cX5_refuse : ByteArray := prog_7_method_5_code
def yX5_refuse : MethodName := ⟨RX5, "refuse", "(I)V"⟩
abbrev cX5_take : ByteArray := prog_7_method_6_code
def yX5_take : MethodName := ⟨RX5, "take", "(I)V"⟩
abbrev cX5_takeNumber : ByteArray := prog_7_method_7_code
def yX5_takeNumber : MethodName := ⟨RX5, "takeNumber", "(II)I"⟩
abbrev cX5_readLine : ByteArray := prog_7_method_8_code
def yX5_readLine : MethodName := ⟨RX5, "readLine", "()V"⟩
abbrev cX5_readWorld : ByteArray := prog_7_method_9_code
def yX5_readWorld : MethodName := ⟨RX5, "readWorld", "()V"⟩
abbrev cX5_readFact : ByteArray := prog_7_method_10_code
def yX5_readFact : MethodName := ⟨RX5, "readFact", "()V"⟩
abbrev cX5_readPerson : ByteArray := prog_7_method_11_code
def yX5_readPerson : MethodName := ⟨RX5, "readPerson", "()V"⟩
abbrev cX5_readRoad : ByteArray := prog_7_method_12_code
def yX5_readRoad : MethodName := ⟨RX5, "readRoad", "()V"⟩
abbrev cX5_readHint : ByteArray := prog_7_method_13_code
def yX5_readHint : MethodName := ⟨RX5, "readHint", "()V"⟩
abbrev cX5_isTooDeep : ByteArray := prog_7_method_14_code
def yX5_isTooDeep : MethodName := ⟨RX5, "isTooDeep", "(I)Z"⟩
abbrev cX5_readTruth : ByteArray := prog_7_method_15_code
def yX5_readTruth : MethodName := ⟨RX5, "readTruth", "(I)V"⟩
abbrev cX5_readBoth : ByteArray := prog_7_method_16_code
def yX5_readBoth : MethodName := ⟨RX5, "readBoth", "(I)V"⟩
abbrev cX5_readUnit : ByteArray := prog_7_method_17_code
def yX5_readUnit : MethodName := ⟨RX5, "readUnit", "(I)V"⟩
abbrev cX5_readSum : ByteArray := prog_7_method_18_code
def yX5_readSum : MethodName := ⟨RX5, "readSum", "(I)V"⟩
abbrev cX5_readTerm : ByteArray := prog_7_method_19_code
def yX5_readTerm : MethodName := ⟨RX5, "readTerm", "(I)V"⟩
abbrev cX5_readAtom : ByteArray := prog_7_method_20_code
def yX5_readAtom : MethodName := ⟨RX5, "readAtom", "(I)V"⟩
def RX6 : String := "KnowsLeast$Row"
def TX6 : u_T := fun k => match k with
  | 0 => ("KnowsLeast$Row", "numbers", "[J", true)
  | 1 => ("KnowsLeast$Row", "length", "I", false)
  | _ => ("KnowsLeast$Row", "sort", "I", false)
def tyX6 : Nat → FieldType := fun k => match k with
  | 0 => .array .long
  | 1 => .int
  | _ => .int
theorem nmX6 : ∀ a, a < 3 → ∀ b, b < 3 → a ≠ b → (TX6 a).2.1 ≠ (TX6 b).2.1 := by decide +kernel
theorem tyX6_ok : ∀ k, k < 3 → parseFieldDescriptor (TX6 k).2.2.1 = some (tyX6 k) := by decide +kernel
abbrev cX6_init : ByteArray := prog_8_method_1_code
def yX6_init : MethodName := ⟨RX6, "<init>", "()V"⟩
abbrev cX6_isMissing : ByteArray := prog_8_method_2_code
def yX6_isMissing : MethodName := ⟨RX6, "isMissing", "()Z"⟩
abbrev cX6_renew : ByteArray := prog_8_method_3_code
def yX6_renew : MethodName := ⟨RX6, "renew", "(II)V"⟩
abbrev cX6_put : ByteArray := prog_8_method_4_code
def yX6_put : MethodName := ⟨RX6, "put", "(IJ)V"⟩
def RX7 : String := "KnowsLeast$Showing"
def TX7 : u_T := fun k => match k with
  | 0 => ("KnowsLeast$Showing", "holds", "[I", true)
  | 1 => ("KnowsLeast$Showing", "known", "[I", true)
  | 2 => ("KnowsLeast$Showing", "extreme", "[I", true)
  | 3 => ("KnowsLeast$Showing", "best", "[I", true)
  | 4 => ("KnowsLeast$Showing", "asked", "[I", true)
  | _ => ("KnowsLeast$Showing", "total", "I", false)
def tyX7 : Nat → FieldType := fun k => match k with
  | 0 => .array .int
  | 1 => .array .int
  | 2 => .array .int
  | 3 => .array .int
  | 4 => .array .int
  | _ => .int
theorem nmX7 : ∀ a, a < 6 → ∀ b, b < 6 → a ≠ b → (TX7 a).2.1 ≠ (TX7 b).2.1 := by decide +kernel
theorem tyX7_ok : ∀ k, k < 6 → parseFieldDescriptor (TX7 k).2.2.1 = some (tyX7 k) := by decide +kernel
abbrev cX7_init : ByteArray := prog_9_method_1_code
def yX7_init : MethodName := ⟨RX7, "<init>", "()V"⟩
abbrev cX7_find : ByteArray := prog_9_method_2_code
def yX7_find : MethodName := ⟨RX7, "find", "(LKnowsLeast$Land;LKnowsLeast$State;I)V"⟩
abbrev cX7_findExtremes : ByteArray := prog_9_method_3_code
def yX7_findExtremes : MethodName := ⟨RX7, "findExtremes", "(LKnowsLeast$Land;II)V"⟩
abbrev cX7_findBest : ByteArray := prog_9_method_4_code
def yX7_findBest : MethodName := ⟨RX7, "findBest", "(LKnowsLeast$Land;II)V"⟩
abbrev cX7_takeIfBetter : ByteArray := prog_9_method_5_code
def yX7_takeIfBetter : MethodName := ⟨RX7, "takeIfBetter", "(II)V"⟩
abbrev cX7_isAhead : ByteArray := prog_9_method_6_code
def yX7_isAhead : MethodName := ⟨RX7, "isAhead", "(II)Z"⟩
def RX8 : String := "KnowsLeast$State"
def TX8 : u_T := fun k => match k with
  | 0 => ("KnowsLeast$State", "told", "[I", true)
  | 1 => ("KnowsLeast$State", "morning", "[I", true)
  | 2 => ("KnowsLeast$State", "truth", "I", false)
  | _ => ("KnowsLeast$State", "drawn", "I", false)
def tyX8 : Nat → FieldType := fun k => match k with
  | 0 => .array .int
  | 1 => .array .int
  | 2 => .int
  | _ => .int
theorem nmX8 : ∀ a, a < 4 → ∀ b, b < 4 → a ≠ b → (TX8 a).2.1 ≠ (TX8 b).2.1 := by decide +kernel
theorem tyX8_ok : ∀ k, k < 4 → parseFieldDescriptor (TX8 k).2.2.1 = some (tyX8 k) := by decide +kernel
abbrev cX8_init : ByteArray := prog_10_method_1_code
def yX8_init : MethodName := ⟨RX8, "<init>", "()V"⟩
abbrev cX8_clear : ByteArray := prog_10_method_2_code
def yX8_clear : MethodName := ⟨RX8, "clear", "()V"⟩
abbrev cX8_become : ByteArray := prog_10_method_3_code
def yX8_become : MethodName := ⟨RX8, "become", "(LKnowsLeast$State;)V"⟩
abbrev cX8_isAsked : ByteArray := prog_10_method_4_code
def yX8_isAsked : MethodName := ⟨RX8, "isAsked", "(LKnowsLeast$Land;II)Z"⟩
abbrev cX8_passDay : ByteArray := prog_10_method_5_code
def yX8_passDay : MethodName := ⟨RX8, "passDay", "(LKnowsLeast$Land;)Z"⟩
abbrev cX8_passDays : ByteArray := prog_10_method_6_code
def yX8_passDays : MethodName := ⟨RX8, "passDays", "(LKnowsLeast$Land;I)I"⟩
abbrev cX8_doDeeds : ByteArray := prog_10_method_7_code
def yX8_doDeeds : MethodName := ⟨RX8, "doDeeds", "(LKnowsLeast$Land;LKnowsLeast$Row;I)I"⟩
abbrev cX8_isDone : ByteArray := prog_10_method_8_code
def yX8_isDone : MethodName := ⟨RX8, "isDone", "(LKnowsLeast$Land;I)Z"⟩
abbrev cX8_draw : ByteArray := prog_10_method_9_code
def yX8_draw : MethodName := ⟨RX8, "draw", "(I)I"⟩
abbrev cX8_passYear : ByteArray := prog_10_method_10_code
def yX8_passYear : MethodName := ⟨RX8, "passYear", "(LKnowsLeast$Land;II)V"⟩
def RX9 : String := "KnowsLeast$Tokens"
def TX9 : u_T := fun k => match k with
  | 0 => ("KnowsLeast$Tokens", "kinds", "[I", true)
  | 1 => ("KnowsLeast$Tokens", "starts", "[I", true)
  | 2 => ("KnowsLeast$Tokens", "values", "[I", true)
  | _ => ("KnowsLeast$Tokens", "last", "I", false)
def tyX9 : Nat → FieldType := fun k => match k with
  | 0 => .array .int
  | 1 => .array .int
  | 2 => .array .int
  | _ => .int
theorem nmX9 : ∀ a, a < 4 → ∀ b, b < 4 → a ≠ b → (TX9 a).2.1 ≠ (TX9 b).2.1 := by decide +kernel
theorem tyX9_ok : ∀ k, k < 4 → parseFieldDescriptor (TX9 k).2.2.1 = some (tyX9 k) := by decide +kernel
abbrev cX9_init : ByteArray := prog_11_method_1_code
def yX9_init : MethodName := ⟨RX9, "<init>", "()V"⟩
abbrev cX9_cut : ByteArray := prog_11_method_2_code
def yX9_cut : MethodName := ⟨RX9, "cut", "([BI)V"⟩
abbrev cX9_isLetter : ByteArray := prog_11_method_3_code
def yX9_isLetter : MethodName := ⟨RX9, "isLetter", "(I)Z"⟩
abbrev cX9_isDigit : ByteArray := prog_11_method_4_code
def yX9_isDigit : MethodName := ⟨RX9, "isDigit", "(I)Z"⟩
abbrev cX9_endOf : ByteArray := prog_11_method_5_code
def yX9_endOf : MethodName := ⟨RX9, "endOf", "([BII)I"⟩
abbrev cX9_valueOf : ByteArray := prog_11_method_6_code
def yX9_valueOf : MethodName := ⟨RX9, "valueOf", "([BII)I"⟩
abbrev cX9_kindOf : ByteArray := prog_11_method_7_code
def yX9_kindOf : MethodName := ⟨RX9, "kindOf", "([BII)I"⟩
abbrev cX9_wordKind : ByteArray := prog_11_method_8_code
def yX9_wordKind : MethodName := ⟨RX9, "wordKind", "([BII)I"⟩
abbrev cX9_spelled : ByteArray := prog_11_method_9_code
def yX9_spelled : MethodName := ⟨RX9, "spelled", "([BIILjava/lang/String;I)I"⟩
def RX10 : String := "KnowsLeast$Trial"
def TX10 : u_T := fun k => match k with
  | 0 => ("KnowsLeast$Trial", "found", "[I", true)
  | _ => ("KnowsLeast$Trial", "trials", "I", false)
def tyX10 : Nat → FieldType := fun k => match k with
  | 0 => .array .int
  | _ => .int
theorem nmX10 : ∀ a, a < 2 → ∀ b, b < 2 → a ≠ b → (TX10 a).2.1 ≠ (TX10 b).2.1 := by decide +kernel
theorem tyX10_ok : ∀ k, k < 2 → parseFieldDescriptor (TX10 k).2.2.1 = some (tyX10 k) := by decide +kernel
abbrev cX10_init : ByteArray := prog_12_method_1_code
def yX10_init : MethodName := ⟨RX10, "<init>", "()V"⟩
abbrev cX10_fewestFacts : ByteArray := prog_12_method_2_code
def yX10_fewestFacts : MethodName := ⟨RX10, "fewestFacts", "(LKnowsLeast$Land;I)I"⟩
abbrev cX10_firstFact : ByteArray := prog_12_method_3_code
def yX10_firstFact : MethodName := ⟨RX10, "firstFact", "(LKnowsLeast$Land;II)I"⟩
abbrev cX10_fewestBehind : ByteArray := prog_12_method_4_code
def yX10_fewestBehind : MethodName := ⟨RX10, "fewestBehind", "(LKnowsLeast$Land;III)I"⟩
abbrev cX10_fewestBy : ByteArray := prog_12_method_5_code
def yX10_fewestBy : MethodName := ⟨RX10, "fewestBy", "(LKnowsLeast$Land;IIII)I"⟩
def RX11 : String := "KnowsLeast"
def TX11 : u_T := fun k => match k with
  | 0 => ("KnowsLeast", "tape", "[B", true)
  | 1 => ("KnowsLeast", "reader", "LKnowsLeast$Reader;", true)
  | 2 => ("KnowsLeast", "land", "LKnowsLeast$Land;", true)
  | 3 => ("KnowsLeast", "state", "LKnowsLeast$State;", true)
  | 4 => ("KnowsLeast", "spare", "LKnowsLeast$State;", true)
  | 5 => ("KnowsLeast", "past", "LKnowsLeast$Past;", true)
  | 6 => ("KnowsLeast", "showing", "LKnowsLeast$Showing;", true)
  | 7 => ("KnowsLeast", "sides", "LKnowsLeast$Parties;", true)
  | 8 => ("KnowsLeast", "court", "LKnowsLeast$Trial;", true)
  | 9 => ("KnowsLeast", "rows", "[LKnowsLeast$Row;", true)
  | 10 => ("KnowsLeast", "images", "[LKnowsLeast$Image;", true)
  | _ => ("KnowsLeast", "taped", "I", false)
def tyX11 : Nat → FieldType := fun k => match k with
  | 0 => .array .byte
  | 1 => .object "KnowsLeast$Reader"
  | 2 => .object "KnowsLeast$Land"
  | 3 => .object "KnowsLeast$State"
  | 4 => .object "KnowsLeast$State"
  | 5 => .object "KnowsLeast$Past"
  | 6 => .object "KnowsLeast$Showing"
  | 7 => .object "KnowsLeast$Parties"
  | 8 => .object "KnowsLeast$Trial"
  | 9 => .array (.object "KnowsLeast$Row")
  | 10 => .array (.object "KnowsLeast$Image")
  | _ => .int
theorem nmX11 : ∀ a, a < 12 → ∀ b, b < 12 → a ≠ b → (TX11 a).2.1 ≠ (TX11 b).2.1 := by decide +kernel
theorem tyX11_ok : ∀ k, k < 12 → parseFieldDescriptor (TX11 k).2.2.1 = some (tyX11 k) := by decide +kernel
abbrev cX11_init : ByteArray := prog_1_method_1_code
def yX11_init : MethodName := ⟨RX11, "<init>", "()V"⟩
abbrev cX11_feed : ByteArray := prog_1_method_2_code
def yX11_feed : MethodName := ⟨RX11, "feed", "(IIIII)I"⟩
abbrev cX11_putOnTape : ByteArray := prog_1_method_3_code
def yX11_putOnTape : MethodName := ⟨RX11, "putOnTape", "(I)V"⟩
abbrev cX11_land : ByteArray := prog_1_method_4_code
def yX11_land : MethodName := ⟨RX11, "land", "(I)I"⟩
abbrev cX11_fault : ByteArray := prog_1_method_5_code
def yX11_fault : MethodName := ⟨RX11, "fault", "(I)I"⟩
abbrev cX11_world : ByteArray := prog_1_method_6_code
def yX11_world : MethodName := ⟨RX11, "world", "(II)I"⟩
abbrev cX11_fact : ByteArray := prog_1_method_7_code
def yX11_fact : MethodName := ⟨RX11, "fact", "(I)I"⟩
abbrev cX11_person : ByteArray := prog_1_method_8_code
def yX11_person : MethodName := ⟨RX11, "person", "(II)I"⟩
abbrev cX11_hints : ByteArray := prog_1_method_9_code
def yX11_hints : MethodName := ⟨RX11, "hints", "(I)I"⟩
abbrev cX11_knows : ByteArray := prog_1_method_10_code
def yX11_knows : MethodName := ⟨RX11, "knows", "(II)I"⟩
abbrev cX11_cell : ByteArray := prog_1_method_11_code
def yX11_cell : MethodName := ⟨RX11, "cell", "(II)I"⟩
abbrev cX11_isWorld : ByteArray := prog_1_method_12_code
def yX11_isWorld : MethodName := ⟨RX11, "isWorld", "(I)Z"⟩
abbrev cX11_isFact : ByteArray := prog_1_method_13_code
def yX11_isFact : MethodName := ⟨RX11, "isFact", "(I)Z"⟩
abbrev cX11_isPerson : ByteArray := prog_1_method_14_code
def yX11_isPerson : MethodName := ⟨RX11, "isPerson", "(I)Z"⟩
abbrev cX11_isMeasure : ByteArray := prog_1_method_15_code
def yX11_isMeasure : MethodName := ⟨RX11, "isMeasure", "(I)Z"⟩
abbrev cX11_isRow : ByteArray := prog_1_method_16_code
def yX11_isRow : MethodName := ⟨RX11, "isRow", "(I)Z"⟩
abbrev cX11_possibleTo : ByteArray := prog_1_method_17_code
def yX11_possibleTo : MethodName := ⟨RX11, "possibleTo", "(I)I"⟩
abbrev cX11_tell : ByteArray := prog_1_method_18_code
def yX11_tell : MethodName := ⟨RX11, "tell", "(II)I"⟩
abbrev cX11_ask : ByteArray := prog_1_method_19_code
def yX11_ask : MethodName := ⟨RX11, "ask", "(II)I"⟩
abbrev cX11_days : ByteArray := prog_1_method_20_code
def yX11_days : MethodName := ⟨RX11, "days", "(I)I"⟩
abbrev cX11_isTrue : ByteArray := prog_1_method_21_code
def yX11_isTrue : MethodName := ⟨RX11, "isTrue", "(I)I"⟩
abbrev cX11_undo : ByteArray := prog_1_method_22_code
def yX11_undo : MethodName := ⟨RX11, "undo", "(I)I"⟩
abbrev cX11_judge : ByteArray := prog_1_method_23_code
def yX11_judge : MethodName := ⟨RX11, "judge", "(II)I"⟩
abbrev cX11_perform : ByteArray := prog_1_method_24_code
def yX11_perform : MethodName := ⟨RX11, "perform", "(I)I"⟩
abbrev cX11_year : ByteArray := prog_1_method_25_code
def yX11_year : MethodName := ⟨RX11, "year", "(II)I"⟩
abbrev cX11_everyone : ByteArray := prog_1_method_26_code
def yX11_everyone : MethodName := ⟨RX11, "everyone", "(I)I"⟩
abbrev cX11_depth : ByteArray := prog_1_method_27_code
def yX11_depth : MethodName := ⟨RX11, "depth", "(I)I"⟩
abbrev cX11_common : ByteArray := prog_1_method_28_code
def yX11_common : MethodName := ⟨RX11, "common", "()I"⟩
abbrev cX11_reach : ByteArray := prog_1_method_29_code
def yX11_reach : MethodName := ⟨RX11, "reach", "(I)I"⟩
abbrev cX11_reached : ByteArray := prog_1_method_30_code
def yX11_reached : MethodName := ⟨RX11, "reached", "(I)I"⟩
abbrev cX11_together : ByteArray := prog_1_method_31_code
def yX11_together : MethodName := ⟨RX11, "together", "(I)I"⟩
abbrev cX11_possibleTogether : ByteArray := prog_1_method_32_code
def yX11_possibleTogether : MethodName := ⟨RX11, "possibleTogether", "(I)I"⟩
abbrev cX11_witnesses : ByteArray := prog_1_method_33_code
def yX11_witnesses : MethodName := ⟨RX11, "witnesses", "()I"⟩
abbrev cX11_parting : ByteArray := prog_1_method_34_code
def yX11_parting : MethodName := ⟨RX11, "parting", "(II)I"⟩
abbrev cX11_isFewer : ByteArray := prog_1_method_35_code
def yX11_isFewer : MethodName := ⟨RX11, "isFewer", "(II)Z"⟩
abbrev cX11_measure : ByteArray := prog_1_method_36_code
def yX11_measure : MethodName := ⟨RX11, "measure", "(II)I"⟩
abbrev cX11_amount : ByteArray := prog_1_method_37_code
def yX11_amount : MethodName := ⟨RX11, "amount", "(II)I"⟩
abbrev cX11_least : ByteArray := prog_1_method_38_code
def yX11_least : MethodName := ⟨RX11, "least", "(I)I"⟩
abbrev cX11_seats : ByteArray := prog_1_method_39_code
def yX11_seats : MethodName := ⟨RX11, "seats", "(II)I"⟩
abbrev cX11_differ : ByteArray := prog_1_method_40_code
def yX11_differ : MethodName := ⟨RX11, "differ", "(II)I"⟩
abbrev cX11_shown : ByteArray := prog_1_method_41_code
def yX11_shown : MethodName := ⟨RX11, "shown", "(II)I"⟩
abbrev cX11_appeals : ByteArray := prog_1_method_42_code
def yX11_appeals : MethodName := ⟨RX11, "appeals", "(III)I"⟩
abbrev cX11_nextAbove : ByteArray := prog_1_method_43_code
def yX11_nextAbove : MethodName := ⟨RX11, "nextAbove", "(II)I"⟩
abbrev cX11_parties : ByteArray := prog_1_method_44_code
def yX11_parties : MethodName := ⟨RX11, "parties", "(IIII)I"⟩
abbrev cX11_inform : ByteArray := prog_1_method_45_code
def yX11_inform : MethodName := ⟨RX11, "inform", "(II)I"⟩
abbrev cX11_trial : ByteArray := prog_1_method_46_code
def yX11_trial : MethodName := ⟨RX11, "trial", "(II)I"⟩
abbrev cX11_brief : ByteArray := prog_1_method_47_code
def yX11_brief : MethodName := ⟨RX11, "brief", "(I)I"⟩
abbrev cX11_right : ByteArray := prog_1_method_48_code
def yX11_right : MethodName := ⟨RX11, "right", "(I)I"⟩
abbrev cX11_justice : ByteArray := prog_1_method_49_code
def yX11_justice : MethodName := ⟨RX11, "justice", "(I)I"⟩
abbrev cX11_justiceBy : ByteArray := prog_1_method_50_code
def yX11_justiceBy : MethodName := ⟨RX11, "justiceBy", "(I)I"⟩
abbrev cX11_bestLaw : ByteArray := prog_1_method_51_code
def yX11_bestLaw : MethodName := ⟨RX11, "bestLaw", "()I"⟩
abbrev cX11_news : ByteArray := prog_1_method_52_code
def yX11_news : MethodName := ⟨RX11, "news", "(II)I"⟩
abbrev cX11_daysTill : ByteArray := prog_1_method_53_code
def yX11_daysTill : MethodName := ⟨RX11, "daysTill", "(II)I"⟩
abbrev cX11_latest : ByteArray := prog_1_method_54_code
def yX11_latest : MethodName := ⟨RX11, "latest", "(I)I"⟩
abbrev cX11_leastIn : ByteArray := prog_1_method_55_code
def yX11_leastIn : MethodName := ⟨RX11, "leastIn", "(II)I"⟩
abbrev cX11_calm : ByteArray := prog_1_method_56_code
def yX11_calm : MethodName := ⟨RX11, "calm", "()I"⟩
abbrev cX11_fitting : ByteArray := prog_1_method_57_code
def yX11_fitting : MethodName := ⟨RX11, "fitting", "(I)I"⟩
abbrev cX11_sure : ByteArray := prog_1_method_58_code
def yX11_sure : MethodName := ⟨RX11, "sure", "(I)I"⟩
abbrev cX11_refusedAsked : ByteArray := prog_1_method_59_code
def yX11_refusedAsked : MethodName := ⟨RX11, "refusedAsked", "(I)I"⟩
abbrev cX11_isFitting : ByteArray := prog_1_method_60_code
def yX11_isFitting : MethodName := ⟨RX11, "isFitting", "(ILKnowsLeast$Row;)Z"⟩
abbrev cX11_questions : ByteArray := prog_1_method_61_code
def yX11_questions : MethodName := ⟨RX11, "questions", "(II)I"⟩
abbrev cX11_rowsToAsk : ByteArray := prog_1_method_62_code
def yX11_rowsToAsk : MethodName := ⟨RX11, "rowsToAsk", "(II)I"⟩
abbrev cX11_numbers : ByteArray := prog_1_method_63_code
def yX11_numbers : MethodName := ⟨RX11, "numbers", "(III)I"⟩
abbrev cX11_write : ByteArray := prog_1_method_64_code
def yX11_write : MethodName := ⟨RX11, "write", "(IIJ)J"⟩
abbrev cX11_copy : ByteArray := prog_1_method_65_code
def yX11_copy : MethodName := ⟨RX11, "copy", "(I)I"⟩
abbrev cX11_image : ByteArray := prog_1_method_66_code
def yX11_image : MethodName := ⟨RX11, "image", "(I)I"⟩
abbrev cX11_restore : ByteArray := prog_1_method_67_code
def yX11_restore : MethodName := ⟨RX11, "restore", "(I)I"⟩
abbrev cX11_count : ByteArray := prog_1_method_68_code
def yX11_count : MethodName := ⟨RX11, "count", "(I)I"⟩
def RX12 : String := "KnowsLeastModel"
def TX12 : u_T := fun k => match k with
  | 0 => ("KnowsLeastModel", "thrown", "I", false)
  | 1 => ("KnowsLeastModel", "all", "[I", true)
  | 2 => ("KnowsLeastModel", "hasImage", "[Z", true)
  | 3 => ("KnowsLeastModel", "tape", "[I", true)
  | 4 => ("KnowsLeastModel", "fresh", "[I", true)
  | 5 => ("KnowsLeastModel", "codes", "[I", true)
  | 6 => ("KnowsLeastModel", "factFrom", "[I", true)
  | 7 => ("KnowsLeastModel", "factMany", "[I", true)
  | 8 => ("KnowsLeastModel", "taped", "I", false)
  | 9 => ("KnowsLeastModel", "at", "I", false)
  | 10 => ("KnowsLeastModel", "behind", "I", false)
  | 11 => ("KnowsLeastModel", "size", "I", false)
  | 12 => ("KnowsLeastModel", "kind", "I", false)
  | 13 => ("KnowsLeastModel", "number", "I", false)
  | 14 => ("KnowsLeastModel", "wrong", "I", false)
  | 15 => ("KnowsLeastModel", "wrongAt", "I", false)
  | 16 => ("KnowsLeastModel", "faultKind", "I", false)
  | 17 => ("KnowsLeastModel", "faultPlace", "I", false)
  | 18 => ("KnowsLeastModel", "codeMany", "I", false)
  | 19 => ("KnowsLeastModel", "reckoned", "[I", true)
  | 20 => ("KnowsLeastModel", "was", "[I", true)
  | 21 => ("KnowsLeastModel", "heard", "[I", true)
  | 22 => ("KnowsLeastModel", "knewMany", "I", false)
  | 23 => ("KnowsLeastModel", "x", "I", false)
  | 24 => ("KnowsLeastModel", "knownOf", "[I", true)
  | 25 => ("KnowsLeastModel", "sizeOf", "[I", true)
  | 26 => ("KnowsLeastModel", "leastBy", "[I", true)
  | 27 => ("KnowsLeastModel", "mostBy", "[I", true)
  | 28 => ("KnowsLeastModel", "questions", "[I", true)
  | 29 => ("KnowsLeastModel", "best", "[I", true)
  | 30 => ("KnowsLeastModel", "judges", "[I", true)
  | 31 => ("KnowsLeastModel", "worst", "[I", true)
  | 32 => ("KnowsLeastModel", "rowSort", "[I", true)
  | 33 => ("KnowsLeastModel", "rowMany", "[I", true)
  | _ => ("KnowsLeastModel", "numbers", "[J", true)
def tyX12 : Nat → FieldType := fun k => match k with
  | 0 => .int
  | 1 => .array .int
  | 2 => .array .boolean
  | 3 => .array .int
  | 4 => .array .int
  | 5 => .array .int
  | 6 => .array .int
  | 7 => .array .int
  | 8 => .int
  | 9 => .int
  | 10 => .int
  | 11 => .int
  | 12 => .int
  | 13 => .int
  | 14 => .int
  | 15 => .int
  | 16 => .int
  | 17 => .int
  | 18 => .int
  | 19 => .array .int
  | 20 => .array .int
  | 21 => .array .int
  | 22 => .int
  | 23 => .int
  | 24 => .array .int
  | 25 => .array .int
  | 26 => .array .int
  | 27 => .array .int
  | 28 => .array .int
  | 29 => .array .int
  | 30 => .array .int
  | 31 => .array .int
  | 32 => .array .int
  | 33 => .array .int
  | _ => .array .long
theorem nmX12 : ∀ a, a < 35 → ∀ b, b < 35 → a ≠ b → (TX12 a).2.1 ≠ (TX12 b).2.1 := by decide +kernel
theorem tyX12_ok : ∀ k, k < 35 → parseFieldDescriptor (TX12 k).2.2.1 = some (tyX12 k) := by decide +kernel
abbrev cX12_within : ByteArray := prog_14_method_2_code
def yX12_within : MethodName := ⟨RX12, "within", "(JJJ)Z"⟩
abbrev cX12_init : ByteArray := prog_14_method_3_code
def yX12_init : MethodName := ⟨RX12, "<init>", "()V"⟩
abbrev cX12_feed : ByteArray := prog_14_method_4_code
def yX12_feed : MethodName := ⟨RX12, "feed", "(IIIII)I"⟩
abbrev cX12_see : ByteArray := prog_14_method_5_code
def yX12_see : MethodName := ⟨RX12, "see", "(I)I"⟩
abbrev cX12_isSmall : ByteArray := prog_14_method_6_code
def yX12_isSmall : MethodName := ⟨RX12, "isSmall", "(I)Z"⟩
abbrev cX12_isDigit : ByteArray := prog_14_method_7_code
def yX12_isDigit : MethodName := ⟨RX12, "isDigit", "(I)Z"⟩
abbrev cX12_keyAt : ByteArray := prog_14_method_8_code
def yX12_keyAt : MethodName := ⟨RX12, "keyAt", "()I"⟩
abbrev cX12_next : ByteArray := prog_14_method_9_code
def yX12_next : MethodName := ⟨RX12, "next", "()V"⟩
abbrev cX12_fails : ByteArray := prog_14_method_10_code
def yX12_fails : MethodName := ⟨RX12, "fails", "(I)V"⟩
abbrev cX12_is : ByteArray := prog_14_method_11_code
def yX12_is : MethodName := ⟨RX12, "is", "(I)Z"⟩
abbrev cX12_eats : ByteArray := prog_14_method_12_code
def yX12_eats : MethodName := ⟨RX12, "eats", "(I)Z"⟩
abbrev cX12_takes : ByteArray := prog_14_method_13_code
def yX12_takes : MethodName := ⟨RX12, "takes", "(II)I"⟩
abbrev cX12_isIn : ByteArray := prog_14_method_14_code
def yX12_isIn : MethodName := ⟨RX12, "isIn", "(JI)Z"⟩
abbrev cX12_readWorld : ByteArray := prog_14_method_15_code
def yX12_readWorld : MethodName := ⟨RX12, "readWorld", "()V"⟩
abbrev cX12_readPerson : ByteArray := prog_14_method_16_code
def yX12_readPerson : MethodName := ⟨RX12, "readPerson", "()V"⟩
abbrev cX12_readRoad : ByteArray := prog_14_method_17_code
def yX12_readRoad : MethodName := ⟨RX12, "readRoad", "()V"⟩
abbrev cX12_readHint : ByteArray := prog_14_method_18_code
def yX12_readHint : MethodName := ⟨RX12, "readHint", "()V"⟩
abbrev cX12_tells : ByteArray := prog_14_method_19_code
def yX12_tells : MethodName := ⟨RX12, "tells", "(I)V"⟩
abbrev cX12_goesIn : ByteArray := prog_14_method_20_code
def yX12_goesIn : MethodName := ⟨RX12, "goesIn", "(I)Z"⟩
abbrev cX12_readAtom : ByteArray := prog_14_method_21_code
def yX12_readAtom : MethodName := ⟨RX12, "readAtom", "(I)V"⟩
abbrev cX12_readTerm : ByteArray := prog_14_method_22_code
def yX12_readTerm : MethodName := ⟨RX12, "readTerm", "(I)V"⟩
abbrev cX12_readSum : ByteArray := prog_14_method_23_code
def yX12_readSum : MethodName := ⟨RX12, "readSum", "(I)V"⟩
abbrev cX12_readUnit : ByteArray := prog_14_method_24_code
def yX12_readUnit : MethodName := ⟨RX12, "readUnit", "(I)V"⟩
abbrev cX12_readBoth : ByteArray := prog_14_method_25_code
def yX12_readBoth : MethodName := ⟨RX12, "readBoth", "(I)V"⟩
abbrev cX12_readTruth : ByteArray := prog_14_method_26_code
def yX12_readTruth : MethodName := ⟨RX12, "readTruth", "(I)V"⟩
abbrev cX12_readFact : ByteArray := prog_14_method_27_code
def yX12_readFact : MethodName := ⟨RX12, "readFact", "()V"⟩
abbrev cX12_wordOf : ByteArray := prog_14_method_28_code
def yX12_wordOf : MethodName := ⟨RX12, "wordOf", "(II)I"⟩
abbrev cX12_between : ByteArray := prog_14_method_29_code
def yX12_between : MethodName := ⟨RX12, "between", "(III)I"⟩
abbrev cX12_holdsIn : ByteArray := prog_14_method_30_code
def yX12_holdsIn : MethodName := ⟨RX12, "holdsIn", "(II)Z"⟩
abbrev cX12_land : ByteArray := prog_14_method_31_code
def yX12_land : MethodName := ⟨RX12, "land", "(I)I"⟩
abbrev cX12_fault : ByteArray := prog_14_method_32_code
def yX12_fault : MethodName := ⟨RX12, "fault", "(I)I"⟩
abbrev cX12_isWorld : ByteArray := prog_14_method_33_code
def yX12_isWorld : MethodName := ⟨RX12, "isWorld", "(I)Z"⟩
abbrev cX12_isFact : ByteArray := prog_14_method_34_code
def yX12_isFact : MethodName := ⟨RX12, "isFact", "(J)Z"⟩
abbrev cX12_isPerson : ByteArray := prog_14_method_35_code
def yX12_isPerson : MethodName := ⟨RX12, "isPerson", "(J)Z"⟩
abbrev cX12_worlds : ByteArray := prog_14_method_36_code
def yX12_worlds : MethodName := ⟨RX12, "worlds", "()I"⟩
abbrev cX12_bitsOf : ByteArray := prog_14_method_37_code
def yX12_bitsOf : MethodName := ⟨RX12, "bitsOf", "(I)I"⟩
abbrev cX12_factsOf : ByteArray := prog_14_method_38_code
def yX12_factsOf : MethodName := ⟨RX12, "factsOf", "(I)I"⟩
abbrev cX12_cellOf : ByteArray := prog_14_method_39_code
def yX12_cellOf : MethodName := ⟨RX12, "cellOf", "(II)I"⟩
abbrev cX12_guilty : ByteArray := prog_14_method_40_code
def yX12_guilty : MethodName := ⟨RX12, "guilty", "()I"⟩
abbrev cX12_isPlain : ByteArray := prog_14_method_41_code
def yX12_isPlain : MethodName := ⟨RX12, "isPlain", "(II)Z"⟩
abbrev cX12_knownIn : ByteArray := prog_14_method_42_code
def yX12_knownIn : MethodName := ⟨RX12, "knownIn", "(I)I"⟩
abbrev cX12_cellNow : ByteArray := prog_14_method_43_code
def yX12_cellNow : MethodName := ⟨RX12, "cellNow", "(I)I"⟩
abbrev cX12_world : ByteArray := prog_14_method_44_code
def yX12_world : MethodName := ⟨RX12, "world", "(II)I"⟩
abbrev cX12_fact : ByteArray := prog_14_method_45_code
def yX12_fact : MethodName := ⟨RX12, "fact", "(I)I"⟩
abbrev cX12_person : ByteArray := prog_14_method_46_code
def yX12_person : MethodName := ⟨RX12, "person", "(II)I"⟩
abbrev cX12_hints : ByteArray := prog_14_method_47_code
def yX12_hints : MethodName := ⟨RX12, "hints", "(I)I"⟩
abbrev cX12_knows : ByteArray := prog_14_method_48_code
def yX12_knows : MethodName := ⟨RX12, "knows", "(II)I"⟩
abbrev cX12_cell : ByteArray := prog_14_method_49_code
def yX12_cell : MethodName := ⟨RX12, "cell", "(II)I"⟩
abbrev cX12_keeps : ByteArray := prog_14_method_50_code
def yX12_keeps : MethodName := ⟨RX12, "keeps", "()V"⟩
abbrev cX12_isAgain : ByteArray := prog_14_method_51_code
def yX12_isAgain : MethodName := ⟨RX12, "isAgain", "()V"⟩
abbrev cX12_notes : ByteArray := prog_14_method_52_code
def yX12_notes : MethodName := ⟨RX12, "notes", "()V"⟩
abbrev cX12_knowsNow : ByteArray := prog_14_method_53_code
def yX12_knowsNow : MethodName := ⟨RX12, "knowsNow", "(II)Z"⟩
abbrev cX12_asks : ByteArray := prog_14_method_54_code
def yX12_asks : MethodName := ⟨RX12, "asks", "(II)I"⟩
abbrev cX12_daysOne : ByteArray := prog_14_method_55_code
def yX12_daysOne : MethodName := ⟨RX12, "daysOne", "()Z"⟩
abbrev cX12_tell : ByteArray := prog_14_method_56_code
def yX12_tell : MethodName := ⟨RX12, "tell", "(II)I"⟩
abbrev cX12_ask : ByteArray := prog_14_method_57_code
def yX12_ask : MethodName := ⟨RX12, "ask", "(II)I"⟩
abbrev cX12_days : ByteArray := prog_14_method_58_code
def yX12_days : MethodName := ⟨RX12, "days", "(I)I"⟩
abbrev cX12_isTrue : ByteArray := prog_14_method_59_code
def yX12_isTrue : MethodName := ⟨RX12, "isTrue", "(I)I"⟩
abbrev cX12_undo : ByteArray := prog_14_method_60_code
def yX12_undo : MethodName := ⟨RX12, "undo", "(I)I"⟩
abbrev cX12_doesAll : ByteArray := prog_14_method_61_code
def yX12_doesAll : MethodName := ⟨RX12, "doesAll", "(I)I"⟩
abbrev cX12_judge : ByteArray := prog_14_method_62_code
def yX12_judge : MethodName := ⟨RX12, "judge", "(II)I"⟩
abbrev cX12_perform : ByteArray := prog_14_method_63_code
def yX12_perform : MethodName := ⟨RX12, "perform", "(I)I"⟩
abbrev cX12_draw : ByteArray := prog_14_method_64_code
def yX12_draw : MethodName := ⟨RX12, "draw", "(I)I"⟩
abbrev cX12_comes : ByteArray := prog_14_method_65_code
def yX12_comes : MethodName := ⟨RX12, "comes", "()V"⟩
abbrev cX12_year : ByteArray := prog_14_method_66_code
def yX12_year : MethodName := ⟨RX12, "year", "(II)I"⟩
abbrev cX12_everyone : ByteArray := prog_14_method_67_code
def yX12_everyone : MethodName := ⟨RX12, "everyone", "(I)I"⟩
abbrev cX12_knownBy : ByteArray := prog_14_method_68_code
def yX12_knownBy : MethodName := ⟨RX12, "knownBy", "(I)I"⟩
abbrev cX12_depthOf : ByteArray := prog_14_method_69_code
def yX12_depthOf : MethodName := ⟨RX12, "depthOf", "(I)I"⟩
abbrev cX12_depth : ByteArray := prog_14_method_70_code
def yX12_depth : MethodName := ⟨RX12, "depth", "(I)I"⟩
abbrev cX12_common : ByteArray := prog_14_method_71_code
def yX12_common : MethodName := ⟨RX12, "common", "()I"⟩
abbrev cX12_reach : ByteArray := prog_14_method_72_code
def yX12_reach : MethodName := ⟨RX12, "reach", "(I)I"⟩
abbrev cX12_togetherOf : ByteArray := prog_14_method_73_code
def yX12_togetherOf : MethodName := ⟨RX12, "togetherOf", "(I)I"⟩
abbrev cX12_together : ByteArray := prog_14_method_74_code
def yX12_together : MethodName := ⟨RX12, "together", "(I)I"⟩
abbrev cX12_witnesses : ByteArray := prog_14_method_75_code
def yX12_witnesses : MethodName := ⟨RX12, "witnesses", "()I"⟩
abbrev cX12_parting : ByteArray := prog_14_method_76_code
def yX12_parting : MethodName := ⟨RX12, "parting", "(II)I"⟩
abbrev cX12_weightOf : ByteArray := prog_14_method_77_code
def yX12_weightOf : MethodName := ⟨RX12, "weightOf", "(I)I"⟩
abbrev cX12_measureOf : ByteArray := prog_14_method_78_code
def yX12_measureOf : MethodName := ⟨RX12, "measureOf", "(II)I"⟩
abbrev cX12_leastOf : ByteArray := prog_14_method_79_code
def yX12_leastOf : MethodName := ⟨RX12, "leastOf", "(II)I"⟩
abbrev cX12_measureNow : ByteArray := prog_14_method_80_code
def yX12_measureNow : MethodName := ⟨RX12, "measureNow", "(II)I"⟩
abbrev cX12_measure : ByteArray := prog_14_method_81_code
def yX12_measure : MethodName := ⟨RX12, "measure", "(II)I"⟩
abbrev cX12_least : ByteArray := prog_14_method_82_code
def yX12_least : MethodName := ⟨RX12, "least", "(I)I"⟩
abbrev cX12_seats : ByteArray := prog_14_method_83_code
def yX12_seats : MethodName := ⟨RX12, "seats", "(II)I"⟩
abbrev cX12_differ : ByteArray := prog_14_method_84_code
def yX12_differ : MethodName := ⟨RX12, "differ", "(II)I"⟩
abbrev cX12_laysTold : ByteArray := prog_14_method_85_code
def yX12_laysTold : MethodName := ⟨RX12, "laysTold", "()V"⟩
abbrev cX12_couldBe : ByteArray := prog_14_method_86_code
def yX12_couldBe : MethodName := ⟨RX12, "couldBe", "(II)V"⟩
abbrev cX12_askedMany : ByteArray := prog_14_method_87_code
def yX12_askedMany : MethodName := ⟨RX12, "askedMany", "([I)I"⟩
abbrev cX12_isBetter : ByteArray := prog_14_method_88_code
def yX12_isBetter : MethodName := ⟨RX12, "isBetter", "()Z"⟩
abbrev cX12_askedFor : ByteArray := prog_14_method_89_code
def yX12_askedFor : MethodName := ⟨RX12, "askedFor", "(II)I"⟩
abbrev cX12_laysShown : ByteArray := prog_14_method_90_code
def yX12_laysShown : MethodName := ⟨RX12, "laysShown", "(I)Z"⟩
abbrev cX12_shown : ByteArray := prog_14_method_91_code
def yX12_shown : MethodName := ⟨RX12, "shown", "(II)I"⟩
abbrev cX12_appeals : ByteArray := prog_14_method_92_code
def yX12_appeals : MethodName := ⟨RX12, "appeals", "(III)I"⟩
abbrev cX12_choices : ByteArray := prog_14_method_93_code
def yX12_choices : MethodName := ⟨RX12, "choices", "()I"⟩
abbrev cX12_tellsChoice : ByteArray := prog_14_method_94_code
def yX12_tellsChoice : MethodName := ⟨RX12, "tellsChoice", "(I)V"⟩
abbrev cX12_codeOf : ByteArray := prog_14_method_95_code
def yX12_codeOf : MethodName := ⟨RX12, "codeOf", "(I)I"⟩
abbrev cX12_isRest : ByteArray := prog_14_method_96_code
def yX12_isRest : MethodName := ⟨RX12, "isRest", "(IIII)Z"⟩
abbrev cX12_parties : ByteArray := prog_14_method_97_code
def yX12_parties : MethodName := ⟨RX12, "parties", "(IIII)I"⟩
abbrev cX12_inform : ByteArray := prog_14_method_98_code
def yX12_inform : MethodName := ⟨RX12, "inform", "(II)I"⟩
abbrev cX12_worstOf : ByteArray := prog_14_method_99_code
def yX12_worstOf : MethodName := ⟨RX12, "worstOf", "(I)I"⟩
abbrev cX12_worstBy : ByteArray := prog_14_method_100_code
def yX12_worstBy : MethodName := ⟨RX12, "worstBy", "(II)I"⟩
abbrev cX12_trial : ByteArray := prog_14_method_101_code
def yX12_trial : MethodName := ⟨RX12, "trial", "(II)I"⟩
abbrev cX12_brief : ByteArray := prog_14_method_102_code
def yX12_brief : MethodName := ⟨RX12, "brief", "(I)I"⟩
abbrev cX12_isRight : ByteArray := prog_14_method_103_code
def yX12_isRight : MethodName := ⟨RX12, "isRight", "(II)Z"⟩
abbrev cX12_right : ByteArray := prog_14_method_104_code
def yX12_right : MethodName := ⟨RX12, "right", "(I)I"⟩
abbrev cX12_justiceOf : ByteArray := prog_14_method_105_code
def yX12_justiceOf : MethodName := ⟨RX12, "justiceOf", "(I)I"⟩
abbrev cX12_justice : ByteArray := prog_14_method_106_code
def yX12_justice : MethodName := ⟨RX12, "justice", "(I)I"⟩
abbrev cX12_bestLaw : ByteArray := prog_14_method_107_code
def yX12_bestLaw : MethodName := ⟨RX12, "bestLaw", "()I"⟩
abbrev cX12_newsOf : ByteArray := prog_14_method_108_code
def yX12_newsOf : MethodName := ⟨RX12, "newsOf", "(II)I"⟩
abbrev cX12_news : ByteArray := prog_14_method_109_code
def yX12_news : MethodName := ⟨RX12, "news", "(II)I"⟩
abbrev cX12_latest : ByteArray := prog_14_method_110_code
def yX12_latest : MethodName := ⟨RX12, "latest", "(I)I"⟩
abbrev cX12_leastIn : ByteArray := prog_14_method_111_code
def yX12_leastIn : MethodName := ⟨RX12, "leastIn", "(II)I"⟩
abbrev cX12_calm : ByteArray := prog_14_method_112_code
def yX12_calm : MethodName := ⟨RX12, "calm", "()I"⟩
abbrev cX12_noRow : ByteArray := prog_14_method_113_code
def yX12_noRow : MethodName := ⟨RX12, "noRow", "(I)I"⟩
abbrev cX12_isFit : ByteArray := prog_14_method_114_code
def yX12_isFit : MethodName := ⟨RX12, "isFit", "(II)Z"⟩
abbrev cX12_fitting : ByteArray := prog_14_method_115_code
def yX12_fitting : MethodName := ⟨RX12, "fitting", "(I)I"⟩
abbrev cX12_sure : ByteArray := prog_14_method_116_code
def yX12_sure : MethodName := ⟨RX12, "sure", "(I)I"⟩
abbrev cX12_rowsFrom : ByteArray := prog_14_method_117_code
def yX12_rowsFrom : MethodName := ⟨RX12, "rowsFrom", "(II)I"⟩
abbrev cX12_questions : ByteArray := prog_14_method_118_code
def yX12_questions : MethodName := ⟨RX12, "questions", "(II)I"⟩
abbrev cX12_cut : ByteArray := prog_14_method_119_code
def yX12_cut : MethodName := ⟨RX12, "cut", "(JI)J"⟩
abbrev cX12_numbers : ByteArray := prog_14_method_120_code
def yX12_numbers : MethodName := ⟨RX12, "numbers", "(III)I"⟩
abbrev cX12_write : ByteArray := prog_14_method_121_code
def yX12_write : MethodName := ⟨RX12, "write", "(IIJ)J"⟩
abbrev cX12_copy : ByteArray := prog_14_method_122_code
def yX12_copy : MethodName := ⟨RX12, "copy", "(I)I"⟩
abbrev cX12_image : ByteArray := prog_14_method_123_code
def yX12_image : MethodName := ⟨RX12, "image", "(I)I"⟩
abbrev cX12_restore : ByteArray := prog_14_method_124_code
def yX12_restore : MethodName := ⟨RX12, "restore", "(I)I"⟩
abbrev cX12_roadMany : ByteArray := prog_14_method_125_code
def yX12_roadMany : MethodName := ⟨RX12, "roadMany", "()I"⟩
abbrev cX12_count : ByteArray := prog_14_method_126_code
def yX12_count : MethodName := ⟨RX12, "count", "(I)I"⟩
def RJx145de : String := "java/io/Serializable"
def TJx145de : u_T := fun k => match k with
  | _ => ("", "", "", false)
def tyJx145de : Nat → FieldType := fun k => match k with
  | _ => .int
def RJx9f9b0 : String := "java/lang/CharSequence"
def TJx9f9b0 : u_T := fun k => match k with
  | _ => ("", "", "", false)
def tyJx9f9b0 : Nat → FieldType := fun k => match k with
  | _ => .int
def RJxb160c : String := "java/lang/Comparable"
def TJxb160c : u_T := fun k => match k with
  | _ => ("", "", "", false)
def tyJxb160c : Nat → FieldType := fun k => match k with
  | _ => .int
def RJ6 : String := "java/lang/Integer"
def TJ6 : u_T := fun k => match k with
  | _ => ("", "", "", false)
def tyJ6 : Nat → FieldType := fun k => match k with
  | _ => .int
abbrev cJ6_compare_7cf53 : ByteArray := prog_15_method_40_code
def yJ6_compare_7cf53 : MethodName := ⟨RJ6, "compare", "(II)I"⟩
abbrev cJ6_bitCount_0f7a4 : ByteArray := prog_15_method_49_code
def yJ6_bitCount_0f7a4 : MethodName := ⟨RJ6, "bitCount", "(I)I"⟩
def RJ9 : String := "java/lang/Math"
def TJ9 : u_T := fun k => match k with
  | _ => ("", "", "", false)
def tyJ9 : Nat → FieldType := fun k => match k with
  | _ => .int
abbrev cJ9_max_7cf53 : ByteArray := prog_16_method_65_code
def yJ9_max_7cf53 : MethodName := ⟨RJ9, "max", "(II)I"⟩
abbrev cJ9_max_f86c9 : ByteArray := prog_16_method_66_code
def yJ9_max_f86c9 : MethodName := ⟨RJ9, "max", "(JJ)J"⟩
abbrev cJ9_min_7cf53 : ByteArray := prog_16_method_69_code
def yJ9_min_7cf53 : MethodName := ⟨RJ9, "min", "(II)I"⟩
abbrev cJ9_min_f86c9 : ByteArray := prog_16_method_70_code
def yJ9_min_f86c9 : MethodName := ⟨RJ9, "min", "(JJ)J"⟩
def RJ0 : String := "java/lang/String"
def TJ0 : u_T := fun k => match k with
  | _ => ("", "", "", false)
def tyJ0 : Nat → FieldType := fun k => match k with
  | _ => .int
abbrev cJ0_length_8abf5 : ByteArray := prog_17_method_54_code
def yJ0_length_8abf5 : MethodName := ⟨RJ0, "length", "()I"⟩
abbrev cJ0_charAt_5068e : ByteArray := prog_17_method_56_code
def yJ0_charAt_5068e : MethodName := ⟨RJ0, "charAt", "(I)C"⟩
abbrev cJ0_coder_7d493 : ByteArray := prog_17_method_152_code
def yJ0_coder_7d493 : MethodName := ⟨RJ0, "coder", "()B"⟩
abbrev cJ0_isLatin1_aae02 : ByteArray := prog_17_method_154_code
def yJ0_isLatin1_aae02 : MethodName := ⟨RJ0, "isLatin1", "()Z"⟩
abbrev cJ0_checkIndex_df160 : ByteArray := prog_17_method_155_code
def yJ0_checkIndex_df160 : MethodName := ⟨RJ0, "checkIndex", "(II)V"⟩
def RJ1 : String := "java/lang/StringLatin1"
def TJ1 : u_T := fun k => match k with
  | _ => ("", "", "", false)
def tyJ1 : Nat → FieldType := fun k => match k with
  | _ => .int
abbrev cJ1_charAt_3b067 : ByteArray := prog_18_method_2_code
def yJ1_charAt_3b067 : MethodName := ⟨RJ1, "charAt", "([BI)C"⟩
def RJ2 : String := "java/lang/StringUTF16"
def TJ2 : u_T := fun k => match k with
  | _ => ("", "", "", false)
def tyJ2 : Nat → FieldType := fun k => match k with
  | _ => .int
abbrev cJ2_getChar_3b067 : ByteArray := prog_19_method_5_code
def yJ2_getChar_3b067 : MethodName := ⟨RJ2, "getChar", "([BI)C"⟩
abbrev cJ2_length_9d52b : ByteArray := prog_19_method_6_code
def yJ2_length_9d52b : MethodName := ⟨RJ2, "length", "([B)I"⟩
abbrev cJ2_charAt_3b067 : ByteArray := prog_19_method_83_code
def yJ2_charAt_3b067 : MethodName := ⟨RJ2, "charAt", "([BI)C"⟩
abbrev cJ2_checkIndex_2214a : ByteArray := prog_19_method_91_code
def yJ2_checkIndex_2214a : MethodName := ⟨RJ2, "checkIndex", "(I[B)V"⟩
def RJ10 : String := "java/lang/System"
def TJ10 : u_T := fun k => match k with
  | _ => ("", "", "", false)
def tyJ10 : Nat → FieldType := fun k => match k with
  | _ => .int
def RJxfd54e : String := "java/lang/constant/Constable"
def TJxfd54e : u_T := fun k => match k with
  | _ => ("", "", "", false)
def tyJxfd54e : Nat → FieldType := fun k => match k with
  | _ => .int
def RJx3cf43 : String := "java/lang/constant/ConstantDesc"
def TJx3cf43 : u_T := fun k => match k with
  | _ => ("", "", "", false)
def tyJx3cf43 : Nat → FieldType := fun k => match k with
  | _ => .int
def RJ7 : String := "java/util/Arrays"
def TJ7 : u_T := fun k => match k with
  | _ => ("", "", "", false)
def tyJ7 : Nat → FieldType := fun k => match k with
  | _ => .int
abbrev cJ7_fill_d0a16 : ByteArray := prog_21_method_101_code
def yJ7_fill_d0a16 : MethodName := ⟨RJ7, "fill", "([JJ)V"⟩
abbrev cJ7_fill_53178 : ByteArray := prog_21_method_103_code
def yJ7_fill_53178 : MethodName := ⟨RJ7, "fill", "([II)V"⟩
def RJ3 : String := "jdk/internal/util/Preconditions"
def TJ3 : u_T := fun k => match k with
  | _ => ("", "", "", false)
def tyJ3 : Nat → FieldType := fun k => match k with
  | _ => .int
abbrev cJ3_checkIndex_8e157 : ByteArray := prog_22_method_11_code
def yJ3_checkIndex_8e157 : MethodName := ⟨RJ3, "checkIndex", "(IILjava/util/function/BiFunction;)I"⟩
def RL : String := "KnowsLeastLaw"
abbrev cL_law : ByteArray := code
abbrev vwCl : List vw_C := [(RX0, TX0, 4), (RX1, TX1, 3), (RX2, TX2, 10), (RX3, TX3, 9), (RX4, TX4, 2), (RX5, TX5, 7), (RX6, TX6, 3), (RX7, TX7, 6), (RX8, TX8, 4), (RX9, TX9, 4), (RX10, TX10, 2), (RX11, TX11, 12), (RX12, TX12, 35)]
end
section
theorem dJ6_compare_7cf53_0 : decode cJ6_compare_7cf53 0 = .ok (.iload_n 0, 1) := by decide +kernel
theorem dJ6_compare_7cf53_1 : decode cJ6_compare_7cf53 1 = .ok (.iload_n 1, 1) := by decide +kernel
theorem dJ6_compare_7cf53_2 : decode cJ6_compare_7cf53 2 = .ok (.if_icmp .ge 7, 3) := by decide +kernel
theorem dJ6_compare_7cf53_5 : decode cJ6_compare_7cf53 5 = .ok (.iconst (-1), 1) := by decide +kernel
theorem dJ6_compare_7cf53_6 : decode cJ6_compare_7cf53 6 = .ok (.goto 13, 3) := by decide +kernel
theorem dJ6_compare_7cf53_9 : decode cJ6_compare_7cf53 9 = .ok (.iload_n 0, 1) := by decide +kernel
theorem dJ6_compare_7cf53_10 : decode cJ6_compare_7cf53 10 = .ok (.iload_n 1, 1) := by decide +kernel
theorem dJ6_compare_7cf53_11 : decode cJ6_compare_7cf53 11 = .ok (.if_icmp .ne 7, 3) := by decide +kernel
theorem dJ6_compare_7cf53_14 : decode cJ6_compare_7cf53 14 = .ok (.iconst 0, 1) := by decide +kernel
theorem dJ6_compare_7cf53_15 : decode cJ6_compare_7cf53 15 = .ok (.goto 4, 3) := by decide +kernel
theorem dJ6_compare_7cf53_18 : decode cJ6_compare_7cf53 18 = .ok (.iconst 1, 1) := by decide +kernel
theorem dJ6_compare_7cf53_19 : decode cJ6_compare_7cf53 19 = .ok (.ireturn, 1) := by decide +kernel
theorem dJ6_bitCount_0f7a4_0 : decode cJ6_bitCount_0f7a4 0 = .ok (.iload_n 0, 1) := by decide +kernel
theorem dJ6_bitCount_0f7a4_1 : decode cJ6_bitCount_0f7a4 1 = .ok (.iload_n 0, 1) := by decide +kernel
theorem dJ6_bitCount_0f7a4_2 : decode cJ6_bitCount_0f7a4 2 = .ok (.iconst 1, 1) := by decide +kernel
theorem dJ6_bitCount_0f7a4_3 : decode cJ6_bitCount_0f7a4 3 = .ok (.iushr, 1) := by decide +kernel
theorem dJ6_bitCount_0f7a4_4 : decode cJ6_bitCount_0f7a4 4 = .ok (.ldc_w 265, 3) := by decide +kernel
theorem dJ6_bitCount_0f7a4_7 : decode cJ6_bitCount_0f7a4 7 = .ok (.iand, 1) := by decide +kernel
theorem dJ6_bitCount_0f7a4_8 : decode cJ6_bitCount_0f7a4 8 = .ok (.isub, 1) := by decide +kernel
theorem dJ6_bitCount_0f7a4_9 : decode cJ6_bitCount_0f7a4 9 = .ok (.istore_n 0, 1) := by decide +kernel
theorem dJ6_bitCount_0f7a4_10 : decode cJ6_bitCount_0f7a4 10 = .ok (.iload_n 0, 1) := by decide +kernel
theorem dJ6_bitCount_0f7a4_11 : decode cJ6_bitCount_0f7a4 11 = .ok (.ldc_w 266, 3) := by decide +kernel
theorem dJ6_bitCount_0f7a4_14 : decode cJ6_bitCount_0f7a4 14 = .ok (.iand, 1) := by decide +kernel
theorem dJ6_bitCount_0f7a4_15 : decode cJ6_bitCount_0f7a4 15 = .ok (.iload_n 0, 1) := by decide +kernel
theorem dJ6_bitCount_0f7a4_16 : decode cJ6_bitCount_0f7a4 16 = .ok (.iconst 2, 1) := by decide +kernel
theorem dJ6_bitCount_0f7a4_17 : decode cJ6_bitCount_0f7a4 17 = .ok (.iushr, 1) := by decide +kernel
theorem dJ6_bitCount_0f7a4_18 : decode cJ6_bitCount_0f7a4 18 = .ok (.ldc_w 266, 3) := by decide +kernel
theorem dJ6_bitCount_0f7a4_21 : decode cJ6_bitCount_0f7a4 21 = .ok (.iand, 1) := by decide +kernel
theorem dJ6_bitCount_0f7a4_22 : decode cJ6_bitCount_0f7a4 22 = .ok (.iadd, 1) := by decide +kernel
theorem dJ6_bitCount_0f7a4_23 : decode cJ6_bitCount_0f7a4 23 = .ok (.istore_n 0, 1) := by decide +kernel
theorem dJ6_bitCount_0f7a4_24 : decode cJ6_bitCount_0f7a4 24 = .ok (.iload_n 0, 1) := by decide +kernel
theorem dJ6_bitCount_0f7a4_25 : decode cJ6_bitCount_0f7a4 25 = .ok (.iload_n 0, 1) := by decide +kernel
theorem dJ6_bitCount_0f7a4_26 : decode cJ6_bitCount_0f7a4 26 = .ok (.iconst 4, 1) := by decide +kernel
theorem dJ6_bitCount_0f7a4_27 : decode cJ6_bitCount_0f7a4 27 = .ok (.iushr, 1) := by decide +kernel
theorem dJ6_bitCount_0f7a4_28 : decode cJ6_bitCount_0f7a4 28 = .ok (.iadd, 1) := by decide +kernel
theorem dJ6_bitCount_0f7a4_29 : decode cJ6_bitCount_0f7a4 29 = .ok (.ldc_w 267, 3) := by decide +kernel
theorem dJ6_bitCount_0f7a4_32 : decode cJ6_bitCount_0f7a4 32 = .ok (.iand, 1) := by decide +kernel
theorem dJ6_bitCount_0f7a4_33 : decode cJ6_bitCount_0f7a4 33 = .ok (.istore_n 0, 1) := by decide +kernel
theorem dJ6_bitCount_0f7a4_34 : decode cJ6_bitCount_0f7a4 34 = .ok (.iload_n 0, 1) := by decide +kernel
theorem dJ6_bitCount_0f7a4_35 : decode cJ6_bitCount_0f7a4 35 = .ok (.iload_n 0, 1) := by decide +kernel
theorem dJ6_bitCount_0f7a4_36 : decode cJ6_bitCount_0f7a4 36 = .ok (.bipush 8, 2) := by decide +kernel
theorem dJ6_bitCount_0f7a4_38 : decode cJ6_bitCount_0f7a4 38 = .ok (.iushr, 1) := by decide +kernel
theorem dJ6_bitCount_0f7a4_39 : decode cJ6_bitCount_0f7a4 39 = .ok (.iadd, 1) := by decide +kernel
theorem dJ6_bitCount_0f7a4_40 : decode cJ6_bitCount_0f7a4 40 = .ok (.istore_n 0, 1) := by decide +kernel
theorem dJ6_bitCount_0f7a4_41 : decode cJ6_bitCount_0f7a4 41 = .ok (.iload_n 0, 1) := by decide +kernel
theorem dJ6_bitCount_0f7a4_42 : decode cJ6_bitCount_0f7a4 42 = .ok (.iload_n 0, 1) := by decide +kernel
theorem dJ6_bitCount_0f7a4_43 : decode cJ6_bitCount_0f7a4 43 = .ok (.bipush 16, 2) := by decide +kernel
theorem dJ6_bitCount_0f7a4_45 : decode cJ6_bitCount_0f7a4 45 = .ok (.iushr, 1) := by decide +kernel
theorem dJ6_bitCount_0f7a4_46 : decode cJ6_bitCount_0f7a4 46 = .ok (.iadd, 1) := by decide +kernel
theorem dJ6_bitCount_0f7a4_47 : decode cJ6_bitCount_0f7a4 47 = .ok (.istore_n 0, 1) := by decide +kernel
theorem dJ6_bitCount_0f7a4_48 : decode cJ6_bitCount_0f7a4 48 = .ok (.iload_n 0, 1) := by decide +kernel
theorem dJ6_bitCount_0f7a4_49 : decode cJ6_bitCount_0f7a4 49 = .ok (.bipush 63, 2) := by decide +kernel
theorem dJ6_bitCount_0f7a4_51 : decode cJ6_bitCount_0f7a4 51 = .ok (.iand, 1) := by decide +kernel
theorem dJ6_bitCount_0f7a4_52 : decode cJ6_bitCount_0f7a4 52 = .ok (.ireturn, 1) := by decide +kernel
theorem dJ9_max_7cf53_0 : decode cJ9_max_7cf53 0 = .ok (.iload_n 0, 1) := by decide +kernel
theorem dJ9_max_7cf53_1 : decode cJ9_max_7cf53 1 = .ok (.iload_n 1, 1) := by decide +kernel
theorem dJ9_max_7cf53_2 : decode cJ9_max_7cf53 2 = .ok (.if_icmp .lt 7, 3) := by decide +kernel
theorem dJ9_max_7cf53_5 : decode cJ9_max_7cf53 5 = .ok (.iload_n 0, 1) := by decide +kernel
theorem dJ9_max_7cf53_6 : decode cJ9_max_7cf53 6 = .ok (.goto 4, 3) := by decide +kernel
theorem dJ9_max_7cf53_9 : decode cJ9_max_7cf53 9 = .ok (.iload_n 1, 1) := by decide +kernel
theorem dJ9_max_7cf53_10 : decode cJ9_max_7cf53 10 = .ok (.ireturn, 1) := by decide +kernel
theorem dJ9_max_f86c9_0 : decode cJ9_max_f86c9 0 = .ok (.lload_n 0, 1) := by decide +kernel
theorem dJ9_max_f86c9_1 : decode cJ9_max_f86c9 1 = .ok (.lload_n 2, 1) := by decide +kernel
theorem dJ9_max_f86c9_2 : decode cJ9_max_f86c9 2 = .ok (.lcmp, 1) := by decide +kernel
theorem dJ9_max_f86c9_3 : decode cJ9_max_f86c9 3 = .ok (.ifCond .lt 7, 3) := by decide +kernel
theorem dJ9_max_f86c9_6 : decode cJ9_max_f86c9 6 = .ok (.lload_n 0, 1) := by decide +kernel
theorem dJ9_max_f86c9_7 : decode cJ9_max_f86c9 7 = .ok (.goto 4, 3) := by decide +kernel
theorem dJ9_max_f86c9_10 : decode cJ9_max_f86c9 10 = .ok (.lload_n 2, 1) := by decide +kernel
theorem dJ9_max_f86c9_11 : decode cJ9_max_f86c9 11 = .ok (.lreturn, 1) := by decide +kernel
theorem dJ9_min_7cf53_0 : decode cJ9_min_7cf53 0 = .ok (.iload_n 0, 1) := by decide +kernel
theorem dJ9_min_7cf53_1 : decode cJ9_min_7cf53 1 = .ok (.iload_n 1, 1) := by decide +kernel
theorem dJ9_min_7cf53_2 : decode cJ9_min_7cf53 2 = .ok (.if_icmp .gt 7, 3) := by decide +kernel
theorem dJ9_min_7cf53_5 : decode cJ9_min_7cf53 5 = .ok (.iload_n 0, 1) := by decide +kernel
theorem dJ9_min_7cf53_6 : decode cJ9_min_7cf53 6 = .ok (.goto 4, 3) := by decide +kernel
theorem dJ9_min_7cf53_9 : decode cJ9_min_7cf53 9 = .ok (.iload_n 1, 1) := by decide +kernel
theorem dJ9_min_7cf53_10 : decode cJ9_min_7cf53 10 = .ok (.ireturn, 1) := by decide +kernel
theorem dJ9_min_f86c9_0 : decode cJ9_min_f86c9 0 = .ok (.lload_n 0, 1) := by decide +kernel
theorem dJ9_min_f86c9_1 : decode cJ9_min_f86c9 1 = .ok (.lload_n 2, 1) := by decide +kernel
theorem dJ9_min_f86c9_2 : decode cJ9_min_f86c9 2 = .ok (.lcmp, 1) := by decide +kernel
theorem dJ9_min_f86c9_3 : decode cJ9_min_f86c9 3 = .ok (.ifCond .gt 7, 3) := by decide +kernel
theorem dJ9_min_f86c9_6 : decode cJ9_min_f86c9 6 = .ok (.lload_n 0, 1) := by decide +kernel
theorem dJ9_min_f86c9_7 : decode cJ9_min_f86c9 7 = .ok (.goto 4, 3) := by decide +kernel
theorem dJ9_min_f86c9_10 : decode cJ9_min_f86c9 10 = .ok (.lload_n 2, 1) := by decide +kernel
theorem dJ9_min_f86c9_11 : decode cJ9_min_f86c9 11 = .ok (.lreturn, 1) := by decide +kernel
theorem dJ0_length_8abf5_0 : decode cJ0_length_8abf5 0 = .ok (.aload_n 0, 1) := by decide +kernel
theorem dJ0_length_8abf5_1 : decode cJ0_length_8abf5 1 = .ok (.getfield 9, 3) := by decide +kernel
theorem dJ0_length_8abf5_4 : decode cJ0_length_8abf5 4 = .ok (.arraylength, 1) := by decide +kernel
theorem dJ0_length_8abf5_5 : decode cJ0_length_8abf5 5 = .ok (.aload_n 0, 1) := by decide +kernel
theorem dJ0_length_8abf5_6 : decode cJ0_length_8abf5 6 = .ok (.invokevirtual 335, 3) := by decide +kernel
theorem dJ0_length_8abf5_9 : decode cJ0_length_8abf5 9 = .ok (.ishr, 1) := by decide +kernel
theorem dJ0_length_8abf5_10 : decode cJ0_length_8abf5 10 = .ok (.ireturn, 1) := by decide +kernel
theorem dJ0_charAt_5068e_0 : decode cJ0_charAt_5068e 0 = .ok (.aload_n 0, 1) := by decide +kernel
theorem dJ0_charAt_5068e_1 : decode cJ0_charAt_5068e 1 = .ok (.invokevirtual 492, 3) := by decide +kernel
theorem dJ0_charAt_5068e_4 : decode cJ0_charAt_5068e 4 = .ok (.ifCond .eq 12, 3) := by decide +kernel
theorem dJ0_charAt_5068e_7 : decode cJ0_charAt_5068e 7 = .ok (.aload_n 0, 1) := by decide +kernel
theorem dJ0_charAt_5068e_8 : decode cJ0_charAt_5068e 8 = .ok (.getfield 9, 3) := by decide +kernel
theorem dJ0_charAt_5068e_11 : decode cJ0_charAt_5068e 11 = .ok (.iload_n 1, 1) := by decide +kernel
theorem dJ0_charAt_5068e_12 : decode cJ0_charAt_5068e 12 = .ok (.invokestatic 495, 3) := by decide +kernel
theorem dJ0_charAt_5068e_15 : decode cJ0_charAt_5068e 15 = .ok (.ireturn, 1) := by decide +kernel
theorem dJ0_charAt_5068e_16 : decode cJ0_charAt_5068e 16 = .ok (.aload_n 0, 1) := by decide +kernel
theorem dJ0_charAt_5068e_17 : decode cJ0_charAt_5068e 17 = .ok (.getfield 9, 3) := by decide +kernel
theorem dJ0_charAt_5068e_20 : decode cJ0_charAt_5068e 20 = .ok (.iload_n 1, 1) := by decide +kernel
theorem dJ0_charAt_5068e_21 : decode cJ0_charAt_5068e 21 = .ok (.invokestatic 498, 3) := by decide +kernel
theorem dJ0_charAt_5068e_24 : decode cJ0_charAt_5068e 24 = .ok (.ireturn, 1) := by decide +kernel
theorem dJ0_coder_7d493_0 : decode cJ0_coder_7d493 0 = .ok (.getstatic 38, 3) := by decide +kernel
theorem dJ0_coder_7d493_3 : decode cJ0_coder_7d493 3 = .ok (.ifCond .eq 10, 3) := by decide +kernel
theorem dJ0_coder_7d493_6 : decode cJ0_coder_7d493 6 = .ok (.aload_n 0, 1) := by decide +kernel
theorem dJ0_coder_7d493_7 : decode cJ0_coder_7d493 7 = .ok (.getfield 15, 3) := by decide +kernel
theorem dJ0_coder_7d493_10 : decode cJ0_coder_7d493 10 = .ok (.goto 4, 3) := by decide +kernel
theorem dJ0_coder_7d493_13 : decode cJ0_coder_7d493 13 = .ok (.iconst 1, 1) := by decide +kernel
theorem dJ0_coder_7d493_14 : decode cJ0_coder_7d493 14 = .ok (.ireturn, 1) := by decide +kernel
theorem dJ0_isLatin1_aae02_0 : decode cJ0_isLatin1_aae02 0 = .ok (.getstatic 38, 3) := by decide +kernel
theorem dJ0_isLatin1_aae02_3 : decode cJ0_isLatin1_aae02 3 = .ok (.ifCond .eq 14, 3) := by decide +kernel
theorem dJ0_isLatin1_aae02_6 : decode cJ0_isLatin1_aae02 6 = .ok (.aload_n 0, 1) := by decide +kernel
theorem dJ0_isLatin1_aae02_7 : decode cJ0_isLatin1_aae02 7 = .ok (.getfield 15, 3) := by decide +kernel
theorem dJ0_isLatin1_aae02_10 : decode cJ0_isLatin1_aae02 10 = .ok (.ifCond .ne 7, 3) := by decide +kernel
theorem dJ0_isLatin1_aae02_13 : decode cJ0_isLatin1_aae02 13 = .ok (.iconst 1, 1) := by decide +kernel
theorem dJ0_isLatin1_aae02_14 : decode cJ0_isLatin1_aae02 14 = .ok (.goto 4, 3) := by decide +kernel
theorem dJ0_isLatin1_aae02_17 : decode cJ0_isLatin1_aae02 17 = .ok (.iconst 0, 1) := by decide +kernel
theorem dJ0_isLatin1_aae02_18 : decode cJ0_isLatin1_aae02 18 = .ok (.ireturn, 1) := by decide +kernel
theorem dJ0_checkIndex_df160_0 : decode cJ0_checkIndex_df160 0 = .ok (.iload_n 0, 1) := by decide +kernel
theorem dJ0_checkIndex_df160_1 : decode cJ0_checkIndex_df160 1 = .ok (.iload_n 1, 1) := by decide +kernel
theorem dJ0_checkIndex_df160_2 : decode cJ0_checkIndex_df160 2 = .ok (.getstatic 1053, 3) := by decide +kernel
theorem dJ0_checkIndex_df160_5 : decode cJ0_checkIndex_df160 5 = .ok (.invokestatic 1059, 3) := by decide +kernel
theorem dJ0_checkIndex_df160_8 : decode cJ0_checkIndex_df160 8 = .ok (.pop, 1) := by decide +kernel
theorem dJ0_checkIndex_df160_9 : decode cJ0_checkIndex_df160 9 = .ok (.return_, 1) := by decide +kernel
theorem dJ1_charAt_3b067_0 : decode cJ1_charAt_3b067 0 = .ok (.iload_n 1, 1) := by decide +kernel
theorem dJ1_charAt_3b067_1 : decode cJ1_charAt_3b067 1 = .ok (.aload_n 0, 1) := by decide +kernel
theorem dJ1_charAt_3b067_2 : decode cJ1_charAt_3b067 2 = .ok (.arraylength, 1) := by decide +kernel
theorem dJ1_charAt_3b067_3 : decode cJ1_charAt_3b067 3 = .ok (.invokestatic 9, 3) := by decide +kernel
theorem dJ1_charAt_3b067_6 : decode cJ1_charAt_3b067 6 = .ok (.aload_n 0, 1) := by decide +kernel
theorem dJ1_charAt_3b067_7 : decode cJ1_charAt_3b067 7 = .ok (.iload_n 1, 1) := by decide +kernel
theorem dJ1_charAt_3b067_8 : decode cJ1_charAt_3b067 8 = .ok (.baload, 1) := by decide +kernel
theorem dJ1_charAt_3b067_9 : decode cJ1_charAt_3b067 9 = .ok (.sipush 255, 3) := by decide +kernel
theorem dJ1_charAt_3b067_12 : decode cJ1_charAt_3b067 12 = .ok (.iand, 1) := by decide +kernel
theorem dJ1_charAt_3b067_13 : decode cJ1_charAt_3b067 13 = .ok (.i2c, 1) := by decide +kernel
theorem dJ1_charAt_3b067_14 : decode cJ1_charAt_3b067 14 = .ok (.ireturn, 1) := by decide +kernel
theorem dJ2_getChar_3b067_0 : decode cJ2_getChar_3b067 0 = .ok (.getstatic 44, 3) := by decide +kernel
theorem dJ2_getChar_3b067_3 : decode cJ2_getChar_3b067 3 = .ok (.ifCond .ne 25, 3) := by decide +kernel
theorem dJ2_getChar_3b067_6 : decode cJ2_getChar_3b067 6 = .ok (.iload_n 1, 1) := by decide +kernel
theorem dJ2_getChar_3b067_7 : decode cJ2_getChar_3b067 7 = .ok (.ifCond .lt 11, 3) := by decide +kernel
theorem dJ2_getChar_3b067_10 : decode cJ2_getChar_3b067 10 = .ok (.iload_n 1, 1) := by decide +kernel
theorem dJ2_getChar_3b067_11 : decode cJ2_getChar_3b067 11 = .ok (.aload_n 0, 1) := by decide +kernel
theorem dJ2_getChar_3b067_12 : decode cJ2_getChar_3b067 12 = .ok (.invokestatic 48, 3) := by decide +kernel
theorem dJ2_getChar_3b067_15 : decode cJ2_getChar_3b067 15 = .ok (.if_icmp .lt 13, 3) := by decide +kernel
theorem dJ2_getChar_3b067_18 : decode cJ2_getChar_3b067 18 = .ok (.new 52, 3) := by decide +kernel
theorem dJ2_getChar_3b067_21 : decode cJ2_getChar_3b067 21 = .ok (.dup, 1) := by decide +kernel
theorem dJ2_getChar_3b067_22 : decode cJ2_getChar_3b067 22 = .ok (.ldc 54, 2) := by decide +kernel
theorem dJ2_getChar_3b067_24 : decode cJ2_getChar_3b067 24 = .ok (.invokespecial 56, 3) := by decide +kernel
theorem dJ2_getChar_3b067_27 : decode cJ2_getChar_3b067 27 = .ok (.athrow, 1) := by decide +kernel
theorem dJ2_getChar_3b067_28 : decode cJ2_getChar_3b067 28 = .ok (.iload_n 1, 1) := by decide +kernel
theorem dJ2_getChar_3b067_29 : decode cJ2_getChar_3b067 29 = .ok (.iconst 1, 1) := by decide +kernel
theorem dJ2_getChar_3b067_30 : decode cJ2_getChar_3b067 30 = .ok (.ishl, 1) := by decide +kernel
theorem dJ2_getChar_3b067_31 : decode cJ2_getChar_3b067 31 = .ok (.istore_n 1, 1) := by decide +kernel
theorem dJ2_getChar_3b067_32 : decode cJ2_getChar_3b067 32 = .ok (.aload_n 0, 1) := by decide +kernel
theorem dJ2_getChar_3b067_33 : decode cJ2_getChar_3b067 33 = .ok (.iload_n 1, 1) := by decide +kernel
theorem dJ2_getChar_3b067_34 : decode cJ2_getChar_3b067 34 = .ok (.iinc 1 1, 3) := by decide +kernel
theorem dJ2_getChar_3b067_37 : decode cJ2_getChar_3b067 37 = .ok (.baload, 1) := by decide +kernel
theorem dJ2_getChar_3b067_38 : decode cJ2_getChar_3b067 38 = .ok (.sipush 255, 3) := by decide +kernel
theorem dJ2_getChar_3b067_41 : decode cJ2_getChar_3b067 41 = .ok (.iand, 1) := by decide +kernel
theorem dJ2_getChar_3b067_42 : decode cJ2_getChar_3b067 42 = .ok (.getstatic 59, 3) := by decide +kernel
theorem dJ2_getChar_3b067_45 : decode cJ2_getChar_3b067 45 = .ok (.ishl, 1) := by decide +kernel
theorem dJ2_getChar_3b067_46 : decode cJ2_getChar_3b067 46 = .ok (.aload_n 0, 1) := by decide +kernel
theorem dJ2_getChar_3b067_47 : decode cJ2_getChar_3b067 47 = .ok (.iload_n 1, 1) := by decide +kernel
theorem dJ2_getChar_3b067_48 : decode cJ2_getChar_3b067 48 = .ok (.baload, 1) := by decide +kernel
theorem dJ2_getChar_3b067_49 : decode cJ2_getChar_3b067 49 = .ok (.sipush 255, 3) := by decide +kernel
theorem dJ2_getChar_3b067_52 : decode cJ2_getChar_3b067 52 = .ok (.iand, 1) := by decide +kernel
theorem dJ2_getChar_3b067_53 : decode cJ2_getChar_3b067 53 = .ok (.getstatic 63, 3) := by decide +kernel
theorem dJ2_getChar_3b067_56 : decode cJ2_getChar_3b067 56 = .ok (.ishl, 1) := by decide +kernel
theorem dJ2_getChar_3b067_57 : decode cJ2_getChar_3b067 57 = .ok (.ior, 1) := by decide +kernel
theorem dJ2_getChar_3b067_58 : decode cJ2_getChar_3b067 58 = .ok (.i2c, 1) := by decide +kernel
theorem dJ2_getChar_3b067_59 : decode cJ2_getChar_3b067 59 = .ok (.ireturn, 1) := by decide +kernel
theorem dJ2_length_9d52b_0 : decode cJ2_length_9d52b 0 = .ok (.aload_n 0, 1) := by decide +kernel
theorem dJ2_length_9d52b_1 : decode cJ2_length_9d52b 1 = .ok (.arraylength, 1) := by decide +kernel
theorem dJ2_length_9d52b_2 : decode cJ2_length_9d52b 2 = .ok (.iconst 1, 1) := by decide +kernel
theorem dJ2_length_9d52b_3 : decode cJ2_length_9d52b 3 = .ok (.ishr, 1) := by decide +kernel
theorem dJ2_length_9d52b_4 : decode cJ2_length_9d52b 4 = .ok (.ireturn, 1) := by decide +kernel
theorem dJ2_charAt_3b067_0 : decode cJ2_charAt_3b067 0 = .ok (.iload_n 1, 1) := by decide +kernel
theorem dJ2_charAt_3b067_1 : decode cJ2_charAt_3b067 1 = .ok (.aload_n 0, 1) := by decide +kernel
theorem dJ2_charAt_3b067_2 : decode cJ2_charAt_3b067 2 = .ok (.invokestatic 67, 3) := by decide +kernel
theorem dJ2_charAt_3b067_5 : decode cJ2_charAt_3b067 5 = .ok (.aload_n 0, 1) := by decide +kernel
theorem dJ2_charAt_3b067_6 : decode cJ2_charAt_3b067 6 = .ok (.iload_n 1, 1) := by decide +kernel
theorem dJ2_charAt_3b067_7 : decode cJ2_charAt_3b067 7 = .ok (.invokestatic 71, 3) := by decide +kernel
theorem dJ2_charAt_3b067_10 : decode cJ2_charAt_3b067 10 = .ok (.ireturn, 1) := by decide +kernel
theorem dJ2_checkIndex_2214a_0 : decode cJ2_checkIndex_2214a 0 = .ok (.iload_n 0, 1) := by decide +kernel
theorem dJ2_checkIndex_2214a_1 : decode cJ2_checkIndex_2214a 1 = .ok (.aload_n 1, 1) := by decide +kernel
theorem dJ2_checkIndex_2214a_2 : decode cJ2_checkIndex_2214a 2 = .ok (.invokestatic 48, 3) := by decide +kernel
theorem dJ2_checkIndex_2214a_5 : decode cJ2_checkIndex_2214a 5 = .ok (.invokestatic 414, 3) := by decide +kernel
theorem dJ2_checkIndex_2214a_8 : decode cJ2_checkIndex_2214a 8 = .ok (.return_, 1) := by decide +kernel
theorem dJ7_fill_d0a16_0 : decode cJ7_fill_d0a16 0 = .ok (.iconst 0, 1) := by decide +kernel
theorem dJ7_fill_d0a16_1 : decode cJ7_fill_d0a16 1 = .ok (.istore_n 3, 1) := by decide +kernel
theorem dJ7_fill_d0a16_2 : decode cJ7_fill_d0a16 2 = .ok (.aload_n 0, 1) := by decide +kernel
theorem dJ7_fill_d0a16_3 : decode cJ7_fill_d0a16 3 = .ok (.arraylength, 1) := by decide +kernel
theorem dJ7_fill_d0a16_4 : decode cJ7_fill_d0a16 4 = .ok (.istore 4, 2) := by decide +kernel
theorem dJ7_fill_d0a16_6 : decode cJ7_fill_d0a16 6 = .ok (.iload_n 3, 1) := by decide +kernel
theorem dJ7_fill_d0a16_7 : decode cJ7_fill_d0a16 7 = .ok (.iload 4, 2) := by decide +kernel
theorem dJ7_fill_d0a16_9 : decode cJ7_fill_d0a16 9 = .ok (.if_icmp .ge 13, 3) := by decide +kernel
theorem dJ7_fill_d0a16_12 : decode cJ7_fill_d0a16 12 = .ok (.aload_n 0, 1) := by decide +kernel
theorem dJ7_fill_d0a16_13 : decode cJ7_fill_d0a16 13 = .ok (.iload_n 3, 1) := by decide +kernel
theorem dJ7_fill_d0a16_14 : decode cJ7_fill_d0a16 14 = .ok (.lload_n 1, 1) := by decide +kernel
theorem dJ7_fill_d0a16_15 : decode cJ7_fill_d0a16 15 = .ok (.lastore, 1) := by decide +kernel
theorem dJ7_fill_d0a16_16 : decode cJ7_fill_d0a16 16 = .ok (.iinc 3 1, 3) := by decide +kernel
theorem dJ7_fill_d0a16_19 : decode cJ7_fill_d0a16 19 = .ok (.goto (-13), 3) := by decide +kernel
theorem dJ7_fill_d0a16_22 : decode cJ7_fill_d0a16 22 = .ok (.return_, 1) := by decide +kernel
theorem dJ7_fill_53178_0 : decode cJ7_fill_53178 0 = .ok (.iconst 0, 1) := by decide +kernel
theorem dJ7_fill_53178_1 : decode cJ7_fill_53178 1 = .ok (.istore_n 2, 1) := by decide +kernel
theorem dJ7_fill_53178_2 : decode cJ7_fill_53178 2 = .ok (.aload_n 0, 1) := by decide +kernel
theorem dJ7_fill_53178_3 : decode cJ7_fill_53178 3 = .ok (.arraylength, 1) := by decide +kernel
theorem dJ7_fill_53178_4 : decode cJ7_fill_53178 4 = .ok (.istore_n 3, 1) := by decide +kernel
theorem dJ7_fill_53178_5 : decode cJ7_fill_53178 5 = .ok (.iload_n 2, 1) := by decide +kernel
theorem dJ7_fill_53178_6 : decode cJ7_fill_53178 6 = .ok (.iload_n 3, 1) := by decide +kernel
theorem dJ7_fill_53178_7 : decode cJ7_fill_53178 7 = .ok (.if_icmp .ge 13, 3) := by decide +kernel
theorem dJ7_fill_53178_10 : decode cJ7_fill_53178 10 = .ok (.aload_n 0, 1) := by decide +kernel
theorem dJ7_fill_53178_11 : decode cJ7_fill_53178 11 = .ok (.iload_n 2, 1) := by decide +kernel
theorem dJ7_fill_53178_12 : decode cJ7_fill_53178 12 = .ok (.iload_n 1, 1) := by decide +kernel
theorem dJ7_fill_53178_13 : decode cJ7_fill_53178 13 = .ok (.iastore, 1) := by decide +kernel
theorem dJ7_fill_53178_14 : decode cJ7_fill_53178 14 = .ok (.iinc 2 1, 3) := by decide +kernel
theorem dJ7_fill_53178_17 : decode cJ7_fill_53178 17 = .ok (.goto (-12), 3) := by decide +kernel
theorem dJ7_fill_53178_20 : decode cJ7_fill_53178 20 = .ok (.return_, 1) := by decide +kernel
theorem dJ3_checkIndex_8e157_0 : decode cJ3_checkIndex_8e157 0 = .ok (.iload_n 0, 1) := by decide +kernel
theorem dJ3_checkIndex_8e157_1 : decode cJ3_checkIndex_8e157 1 = .ok (.ifCond .lt 8, 3) := by decide +kernel
theorem dJ3_checkIndex_8e157_4 : decode cJ3_checkIndex_8e157 4 = .ok (.iload_n 0, 1) := by decide +kernel
theorem dJ3_checkIndex_8e157_5 : decode cJ3_checkIndex_8e157 5 = .ok (.iload_n 1, 1) := by decide +kernel
theorem dJ3_checkIndex_8e157_6 : decode cJ3_checkIndex_8e157 6 = .ok (.if_icmp .lt 10, 3) := by decide +kernel
theorem dJ3_checkIndex_8e157_9 : decode cJ3_checkIndex_8e157 9 = .ok (.aload_n 2, 1) := by decide +kernel
theorem dJ3_checkIndex_8e157_10 : decode cJ3_checkIndex_8e157 10 = .ok (.iload_n 0, 1) := by decide +kernel
theorem dJ3_checkIndex_8e157_11 : decode cJ3_checkIndex_8e157 11 = .ok (.iload_n 1, 1) := by decide +kernel
theorem dJ3_checkIndex_8e157_12 : decode cJ3_checkIndex_8e157 12 = .ok (.invokestatic 95, 3) := by decide +kernel
theorem dJ3_checkIndex_8e157_15 : decode cJ3_checkIndex_8e157 15 = .ok (.athrow, 1) := by decide +kernel
theorem dJ3_checkIndex_8e157_16 : decode cJ3_checkIndex_8e157 16 = .ok (.iload_n 0, 1) := by decide +kernel
theorem dJ3_checkIndex_8e157_17 : decode cJ3_checkIndex_8e157 17 = .ok (.ireturn, 1) := by decide +kernel
theorem dX0_init_0 : decode cX0_init 0 = .ok (.aload_n 0, 1) := by decide +kernel
theorem dX0_init_1 : decode cX0_init 1 = .ok (.invokespecial 3, 3) := by decide +kernel
theorem dX0_init_4 : decode cX0_init 4 = .ok (.aload_n 0, 1) := by decide +kernel
theorem dX0_init_5 : decode cX0_init 5 = .ok (.sipush 901, 3) := by decide +kernel
theorem dX0_init_8 : decode cX0_init 8 = .ok (.newarray .int, 2) := by decide +kernel
theorem dX0_init_10 : decode cX0_init 10 = .ok (.putfield 9, 3) := by decide +kernel
theorem dX0_init_13 : decode cX0_init 13 = .ok (.aload_n 0, 1) := by decide +kernel
theorem dX0_init_14 : decode cX0_init 14 = .ok (.bipush 8, 2) := by decide +kernel
theorem dX0_init_16 : decode cX0_init 16 = .ok (.newarray .int, 2) := by decide +kernel
theorem dX0_init_18 : decode cX0_init 18 = .ok (.putfield 15, 3) := by decide +kernel
theorem dX0_init_21 : decode cX0_init 21 = .ok (.aload_n 0, 1) := by decide +kernel
theorem dX0_init_22 : decode cX0_init 22 = .ok (.bipush 64, 2) := by decide +kernel
theorem dX0_init_24 : decode cX0_init 24 = .ok (.newarray .int, 2) := by decide +kernel
theorem dX0_init_26 : decode cX0_init 26 = .ok (.putfield 18, 3) := by decide +kernel
theorem dX0_init_29 : decode cX0_init 29 = .ok (.return_, 1) := by decide +kernel
theorem dX0_clear_0 : decode cX0_clear 0 = .ok (.aload_n 0, 1) := by decide +kernel
theorem dX0_clear_1 : decode cX0_clear 1 = .ok (.iconst 0, 1) := by decide +kernel
theorem dX0_clear_2 : decode cX0_clear 2 = .ok (.putfield 21, 3) := by decide +kernel
theorem dX0_clear_5 : decode cX0_clear 5 = .ok (.return_, 1) := by decide +kernel
theorem dX0_add_0 : decode cX0_add 0 = .ok (.aload_n 0, 1) := by decide +kernel
theorem dX0_add_1 : decode cX0_add 1 = .ok (.getfield 21, 3) := by decide +kernel
theorem dX0_add_4 : decode cX0_add 4 = .ok (.aload_n 0, 1) := by decide +kernel
theorem dX0_add_5 : decode cX0_add 5 = .ok (.getfield 9, 3) := by decide +kernel
theorem dX0_add_8 : decode cX0_add 8 = .ok (.arraylength, 1) := by decide +kernel
theorem dX0_add_9 : decode cX0_add 9 = .ok (.if_icmp .ge 23, 3) := by decide +kernel
theorem dX0_add_12 : decode cX0_add 12 = .ok (.aload_n 0, 1) := by decide +kernel
theorem dX0_add_13 : decode cX0_add 13 = .ok (.getfield 9, 3) := by decide +kernel
theorem dX0_add_16 : decode cX0_add 16 = .ok (.aload_n 0, 1) := by decide +kernel
theorem dX0_add_17 : decode cX0_add 17 = .ok (.getfield 21, 3) := by decide +kernel
theorem dX0_add_20 : decode cX0_add 20 = .ok (.iload_n 1, 1) := by decide +kernel
theorem dX0_add_21 : decode cX0_add 21 = .ok (.iastore, 1) := by decide +kernel
theorem dX0_add_22 : decode cX0_add 22 = .ok (.aload_n 0, 1) := by decide +kernel
theorem dX0_add_23 : decode cX0_add 23 = .ok (.dup, 1) := by decide +kernel
theorem dX0_add_24 : decode cX0_add 24 = .ok (.getfield 21, 3) := by decide +kernel
theorem dX0_add_27 : decode cX0_add 27 = .ok (.iconst 1, 1) := by decide +kernel
theorem dX0_add_28 : decode cX0_add 28 = .ok (.iadd, 1) := by decide +kernel
theorem dX0_add_29 : decode cX0_add 29 = .ok (.putfield 21, 3) := by decide +kernel
theorem dX0_add_32 : decode cX0_add 32 = .ok (.return_, 1) := by decide +kernel
theorem dX0_end_0 : decode cX0_end 0 = .ok (.iload_n 1, 1) := by decide +kernel
theorem dX0_end_1 : decode cX0_end 1 = .ok (.ifCond .lt 19, 3) := by decide +kernel
theorem dX0_end_4 : decode cX0_end 4 = .ok (.iload_n 1, 1) := by decide +kernel
theorem dX0_end_5 : decode cX0_end 5 = .ok (.bipush 8, 2) := by decide +kernel
theorem dX0_end_7 : decode cX0_end 7 = .ok (.if_icmp .ge 13, 3) := by decide +kernel
theorem dX0_end_10 : decode cX0_end 10 = .ok (.aload_n 0, 1) := by decide +kernel
theorem dX0_end_11 : decode cX0_end 11 = .ok (.getfield 15, 3) := by decide +kernel
theorem dX0_end_14 : decode cX0_end 14 = .ok (.iload_n 1, 1) := by decide +kernel
theorem dX0_end_15 : decode cX0_end 15 = .ok (.aload_n 0, 1) := by decide +kernel
theorem dX0_end_16 : decode cX0_end 16 = .ok (.getfield 21, 3) := by decide +kernel
theorem dX0_end_19 : decode cX0_end 19 = .ok (.iastore, 1) := by decide +kernel
theorem dX0_end_20 : decode cX0_end 20 = .ok (.return_, 1) := by decide +kernel
theorem dX0_settle_0 : decode cX0_settle 0 = .ok (.iconst 0, 1) := by decide +kernel
theorem dX0_settle_1 : decode cX0_settle 1 = .ok (.istore_n 2, 1) := by decide +kernel
theorem dX0_settle_2 : decode cX0_settle 2 = .ok (.iconst 0, 1) := by decide +kernel
theorem dX0_settle_3 : decode cX0_settle 3 = .ok (.istore_n 3, 1) := by decide +kernel
theorem dX0_settle_4 : decode cX0_settle 4 = .ok (.iload_n 3, 1) := by decide +kernel
theorem dX0_settle_5 : decode cX0_settle 5 = .ok (.aload_n 1, 1) := by decide +kernel
theorem dX0_settle_6 : decode cX0_settle 6 = .ok (.getfield 25, 3) := by decide +kernel
theorem dX0_settle_9 : decode cX0_settle 9 = .ok (.if_icmp .ge 72, 3) := by decide +kernel
theorem dX0_settle_12 : decode cX0_settle 12 = .ok (.aload_n 1, 1) := by decide +kernel
theorem dX0_settle_13 : decode cX0_settle 13 = .ok (.getfield 30, 3) := by decide +kernel
theorem dX0_settle_16 : decode cX0_settle 16 = .ok (.iload_n 3, 1) := by decide +kernel
theorem dX0_settle_17 : decode cX0_settle 17 = .ok (.iconst 0, 1) := by decide +kernel
theorem dX0_settle_18 : decode cX0_settle 18 = .ok (.iastore, 1) := by decide +kernel
theorem dX0_settle_19 : decode cX0_settle 19 = .ok (.iconst 0, 1) := by decide +kernel
theorem dX0_settle_20 : decode cX0_settle 20 = .ok (.istore 4, 2) := by decide +kernel
theorem dX0_settle_22 : decode cX0_settle 22 = .ok (.iload 4, 2) := by decide +kernel
theorem dX0_settle_24 : decode cX0_settle 24 = .ok (.aload_n 1, 1) := by decide +kernel
theorem dX0_settle_25 : decode cX0_settle 25 = .ok (.getfield 33, 3) := by decide +kernel
theorem dX0_settle_28 : decode cX0_settle 28 = .ok (.if_icmp .ge 40, 3) := by decide +kernel
theorem dX0_settle_31 : decode cX0_settle 31 = .ok (.aload_n 0, 1) := by decide +kernel
theorem dX0_settle_32 : decode cX0_settle 32 = .ok (.aload_n 1, 1) := by decide +kernel
theorem dX0_settle_33 : decode cX0_settle 33 = .ok (.iload 4, 2) := by decide +kernel
theorem dX0_settle_35 : decode cX0_settle 35 = .ok (.iload_n 2, 1) := by decide +kernel
theorem dX0_settle_36 : decode cX0_settle 36 = .ok (.aload_n 0, 1) := by decide +kernel
theorem dX0_settle_37 : decode cX0_settle 37 = .ok (.getfield 15, 3) := by decide +kernel
theorem dX0_settle_40 : decode cX0_settle 40 = .ok (.iload_n 3, 1) := by decide +kernel
theorem dX0_settle_41 : decode cX0_settle 41 = .ok (.iaload, 1) := by decide +kernel
theorem dX0_settle_42 : decode cX0_settle 42 = .ok (.invokevirtual 36, 3) := by decide +kernel
theorem dX0_settle_45 : decode cX0_settle 45 = .ok (.iconst 1, 1) := by decide +kernel
theorem dX0_settle_46 : decode cX0_settle 46 = .ok (.if_icmp .ne 16, 3) := by decide +kernel
theorem dX0_settle_49 : decode cX0_settle 49 = .ok (.aload_n 1, 1) := by decide +kernel
theorem dX0_settle_50 : decode cX0_settle 50 = .ok (.getfield 30, 3) := by decide +kernel
theorem dX0_settle_53 : decode cX0_settle 53 = .ok (.iload_n 3, 1) := by decide +kernel
theorem dX0_settle_54 : decode cX0_settle 54 = .ok (.dup2, 1) := by decide +kernel
theorem dX0_settle_55 : decode cX0_settle 55 = .ok (.iaload, 1) := by decide +kernel
theorem dX0_settle_56 : decode cX0_settle 56 = .ok (.iconst 1, 1) := by decide +kernel
theorem dX0_settle_57 : decode cX0_settle 57 = .ok (.iload 4, 2) := by decide +kernel
theorem dX0_settle_59 : decode cX0_settle 59 = .ok (.ishl, 1) := by decide +kernel
theorem dX0_settle_60 : decode cX0_settle 60 = .ok (.ior, 1) := by decide +kernel
theorem dX0_settle_61 : decode cX0_settle 61 = .ok (.iastore, 1) := by decide +kernel
theorem dX0_settle_62 : decode cX0_settle 62 = .ok (.iinc 4 1, 3) := by decide +kernel
theorem dX0_settle_65 : decode cX0_settle 65 = .ok (.goto (-43), 3) := by decide +kernel
theorem dX0_settle_68 : decode cX0_settle 68 = .ok (.aload_n 0, 1) := by decide +kernel
theorem dX0_settle_69 : decode cX0_settle 69 = .ok (.getfield 15, 3) := by decide +kernel
theorem dX0_settle_72 : decode cX0_settle 72 = .ok (.iload_n 3, 1) := by decide +kernel
theorem dX0_settle_73 : decode cX0_settle 73 = .ok (.iaload, 1) := by decide +kernel
theorem dX0_settle_74 : decode cX0_settle 74 = .ok (.istore_n 2, 1) := by decide +kernel
theorem dX0_settle_75 : decode cX0_settle 75 = .ok (.iinc 3 1, 3) := by decide +kernel
theorem dX0_settle_78 : decode cX0_settle 78 = .ok (.goto (-74), 3) := by decide +kernel
theorem dX0_settle_81 : decode cX0_settle 81 = .ok (.return_, 1) := by decide +kernel
theorem dX0_valueIn_0 : decode cX0_valueIn 0 = .ok (.iconst 0, 1) := by decide +kernel
theorem dX0_valueIn_1 : decode cX0_valueIn 1 = .ok (.istore 5, 2) := by decide +kernel
theorem dX0_valueIn_3 : decode cX0_valueIn 3 = .ok (.iload_n 3, 1) := by decide +kernel
theorem dX0_valueIn_4 : decode cX0_valueIn 4 = .ok (.istore 6, 2) := by decide +kernel
theorem dX0_valueIn_6 : decode cX0_valueIn 6 = .ok (.iload 6, 2) := by decide +kernel
theorem dX0_valueIn_8 : decode cX0_valueIn 8 = .ok (.iload 4, 2) := by decide +kernel
theorem dX0_valueIn_10 : decode cX0_valueIn 10 = .ok (.if_icmp .ge 146, 3) := by decide +kernel
theorem dX0_valueIn_13 : decode cX0_valueIn 13 = .ok (.aload_n 0, 1) := by decide +kernel
theorem dX0_valueIn_14 : decode cX0_valueIn 14 = .ok (.getfield 9, 3) := by decide +kernel
theorem dX0_valueIn_17 : decode cX0_valueIn 17 = .ok (.iload 6, 2) := by decide +kernel
theorem dX0_valueIn_19 : decode cX0_valueIn 19 = .ok (.iaload, 1) := by decide +kernel
theorem dX0_valueIn_20 : decode cX0_valueIn 20 = .ok (.istore 7, 2) := by decide +kernel
theorem dX0_valueIn_22 : decode cX0_valueIn 22 = .ok (.iload 7, 2) := by decide +kernel
theorem dX0_valueIn_24 : decode cX0_valueIn 24 = .ok (.ifCond .ge 12, 3) := by decide +kernel
theorem dX0_valueIn_27 : decode cX0_valueIn 27 = .ok (.iload 7, 2) := by decide +kernel
theorem dX0_valueIn_29 : decode cX0_valueIn 29 = .ok (.ineg, 1) := by decide +kernel
theorem dX0_valueIn_30 : decode cX0_valueIn 30 = .ok (.invokestatic 40, 3) := by decide +kernel
theorem dX0_valueIn_33 : decode cX0_valueIn 33 = .ok (.ifCond .eq 41, 3) := by decide +kernel
theorem dX0_valueIn_36 : decode cX0_valueIn 36 = .ok (.iload 5, 2) := by decide +kernel
theorem dX0_valueIn_38 : decode cX0_valueIn 38 = .ok (.bipush 64, 2) := by decide +kernel
theorem dX0_valueIn_40 : decode cX0_valueIn 40 = .ok (.if_icmp .ge 110, 3) := by decide +kernel
theorem dX0_valueIn_43 : decode cX0_valueIn 43 = .ok (.aload_n 0, 1) := by decide +kernel
theorem dX0_valueIn_44 : decode cX0_valueIn 44 = .ok (.getfield 18, 3) := by decide +kernel
theorem dX0_valueIn_47 : decode cX0_valueIn 47 = .ok (.iload 5, 2) := by decide +kernel
theorem dX0_valueIn_49 : decode cX0_valueIn 49 = .ok (.iload 7, 2) := by decide +kernel
theorem dX0_valueIn_51 : decode cX0_valueIn 51 = .ok (.ifCond .lt 8, 3) := by decide +kernel
theorem dX0_valueIn_54 : decode cX0_valueIn 54 = .ok (.iload 7, 2) := by decide +kernel
theorem dX0_valueIn_56 : decode cX0_valueIn 56 = .ok (.goto 11, 3) := by decide +kernel
theorem dX0_valueIn_59 : decode cX0_valueIn 59 = .ok (.aload_n 1, 1) := by decide +kernel
theorem dX0_valueIn_60 : decode cX0_valueIn 60 = .ok (.iload_n 2, 1) := by decide +kernel
theorem dX0_valueIn_61 : decode cX0_valueIn 61 = .ok (.iload 7, 2) := by decide +kernel
theorem dX0_valueIn_63 : decode cX0_valueIn 63 = .ok (.ineg, 1) := by decide +kernel
theorem dX0_valueIn_64 : decode cX0_valueIn 64 = .ok (.invokestatic 44, 3) := by decide +kernel
theorem dX0_valueIn_67 : decode cX0_valueIn 67 = .ok (.iastore, 1) := by decide +kernel
theorem dX0_valueIn_68 : decode cX0_valueIn 68 = .ok (.iinc 5 1, 3) := by decide +kernel
theorem dX0_valueIn_71 : decode cX0_valueIn 71 = .ok (.goto 79, 3) := by decide +kernel
theorem dX0_valueIn_74 : decode cX0_valueIn 74 = .ok (.iload 7, 2) := by decide +kernel
theorem dX0_valueIn_76 : decode cX0_valueIn 76 = .ok (.bipush (-110), 2) := by decide +kernel
theorem dX0_valueIn_78 : decode cX0_valueIn 78 = .ok (.if_icmp .ne 32, 3) := by decide +kernel
theorem dX0_valueIn_81 : decode cX0_valueIn 81 = .ok (.iload 5, 2) := by decide +kernel
theorem dX0_valueIn_83 : decode cX0_valueIn 83 = .ok (.iconst 1, 1) := by decide +kernel
theorem dX0_valueIn_84 : decode cX0_valueIn 84 = .ok (.if_icmp .lt 66, 3) := by decide +kernel
theorem dX0_valueIn_87 : decode cX0_valueIn 87 = .ok (.aload_n 0, 1) := by decide +kernel
theorem dX0_valueIn_88 : decode cX0_valueIn 88 = .ok (.getfield 18, 3) := by decide +kernel
theorem dX0_valueIn_91 : decode cX0_valueIn 91 = .ok (.iload 5, 2) := by decide +kernel
theorem dX0_valueIn_93 : decode cX0_valueIn 93 = .ok (.iconst 1, 1) := by decide +kernel
theorem dX0_valueIn_94 : decode cX0_valueIn 94 = .ok (.isub, 1) := by decide +kernel
theorem dX0_valueIn_95 : decode cX0_valueIn 95 = .ok (.iconst 1, 1) := by decide +kernel
theorem dX0_valueIn_96 : decode cX0_valueIn 96 = .ok (.aload_n 0, 1) := by decide +kernel
theorem dX0_valueIn_97 : decode cX0_valueIn 97 = .ok (.getfield 18, 3) := by decide +kernel
theorem dX0_valueIn_100 : decode cX0_valueIn 100 = .ok (.iload 5, 2) := by decide +kernel
theorem dX0_valueIn_102 : decode cX0_valueIn 102 = .ok (.iconst 1, 1) := by decide +kernel
theorem dX0_valueIn_103 : decode cX0_valueIn 103 = .ok (.isub, 1) := by decide +kernel
theorem dX0_valueIn_104 : decode cX0_valueIn 104 = .ok (.iaload, 1) := by decide +kernel
theorem dX0_valueIn_105 : decode cX0_valueIn 105 = .ok (.isub, 1) := by decide +kernel
theorem dX0_valueIn_106 : decode cX0_valueIn 106 = .ok (.iastore, 1) := by decide +kernel
theorem dX0_valueIn_107 : decode cX0_valueIn 107 = .ok (.goto 43, 3) := by decide +kernel
theorem dX0_valueIn_110 : decode cX0_valueIn 110 = .ok (.iload 5, 2) := by decide +kernel
theorem dX0_valueIn_112 : decode cX0_valueIn 112 = .ok (.iconst 2, 1) := by decide +kernel
theorem dX0_valueIn_113 : decode cX0_valueIn 113 = .ok (.if_icmp .lt 37, 3) := by decide +kernel
theorem dX0_valueIn_116 : decode cX0_valueIn 116 = .ok (.iinc 5 (-1), 3) := by decide +kernel
theorem dX0_valueIn_119 : decode cX0_valueIn 119 = .ok (.aload_n 0, 1) := by decide +kernel
theorem dX0_valueIn_120 : decode cX0_valueIn 120 = .ok (.getfield 18, 3) := by decide +kernel
theorem dX0_valueIn_123 : decode cX0_valueIn 123 = .ok (.iload 5, 2) := by decide +kernel
theorem dX0_valueIn_125 : decode cX0_valueIn 125 = .ok (.iconst 1, 1) := by decide +kernel
theorem dX0_valueIn_126 : decode cX0_valueIn 126 = .ok (.isub, 1) := by decide +kernel
theorem dX0_valueIn_127 : decode cX0_valueIn 127 = .ok (.iload 7, 2) := by decide +kernel
theorem dX0_valueIn_129 : decode cX0_valueIn 129 = .ok (.ineg, 1) := by decide +kernel
theorem dX0_valueIn_130 : decode cX0_valueIn 130 = .ok (.aload_n 0, 1) := by decide +kernel
theorem dX0_valueIn_131 : decode cX0_valueIn 131 = .ok (.getfield 18, 3) := by decide +kernel
theorem dX0_valueIn_134 : decode cX0_valueIn 134 = .ok (.iload 5, 2) := by decide +kernel
theorem dX0_valueIn_136 : decode cX0_valueIn 136 = .ok (.iconst 1, 1) := by decide +kernel
theorem dX0_valueIn_137 : decode cX0_valueIn 137 = .ok (.isub, 1) := by decide +kernel
theorem dX0_valueIn_138 : decode cX0_valueIn 138 = .ok (.iaload, 1) := by decide +kernel
theorem dX0_valueIn_139 : decode cX0_valueIn 139 = .ok (.aload_n 0, 1) := by decide +kernel
theorem dX0_valueIn_140 : decode cX0_valueIn 140 = .ok (.getfield 18, 3) := by decide +kernel
theorem dX0_valueIn_143 : decode cX0_valueIn 143 = .ok (.iload 5, 2) := by decide +kernel
theorem dX0_valueIn_145 : decode cX0_valueIn 145 = .ok (.iaload, 1) := by decide +kernel
theorem dX0_valueIn_146 : decode cX0_valueIn 146 = .ok (.invokestatic 50, 3) := by decide +kernel
theorem dX0_valueIn_149 : decode cX0_valueIn 149 = .ok (.iastore, 1) := by decide +kernel
theorem dX0_valueIn_150 : decode cX0_valueIn 150 = .ok (.iinc 6 1, 3) := by decide +kernel
theorem dX0_valueIn_153 : decode cX0_valueIn 153 = .ok (.goto (-147), 3) := by decide +kernel
theorem dX0_valueIn_156 : decode cX0_valueIn 156 = .ok (.aload_n 0, 1) := by decide +kernel
theorem dX0_valueIn_157 : decode cX0_valueIn 157 = .ok (.getfield 18, 3) := by decide +kernel
theorem dX0_valueIn_160 : decode cX0_valueIn 160 = .ok (.iconst 0, 1) := by decide +kernel
theorem dX0_valueIn_161 : decode cX0_valueIn 161 = .ok (.iaload, 1) := by decide +kernel
theorem dX0_valueIn_162 : decode cX0_valueIn 162 = .ok (.ireturn, 1) := by decide +kernel
theorem dX0_isAtom_0 : decode cX0_isAtom 0 = .ok (.iload_n 0, 1) := by decide +kernel
theorem dX0_isAtom_1 : decode cX0_isAtom 1 = .ok (.bipush 113, 2) := by decide +kernel
theorem dX0_isAtom_3 : decode cX0_isAtom 3 = .ok (.if_icmp .lt 9, 3) := by decide +kernel
theorem dX0_isAtom_6 : decode cX0_isAtom 6 = .ok (.iload_n 0, 1) := by decide +kernel
theorem dX0_isAtom_7 : decode cX0_isAtom 7 = .ok (.bipush 115, 2) := by decide +kernel
theorem dX0_isAtom_9 : decode cX0_isAtom 9 = .ok (.if_icmp .le 15, 3) := by decide +kernel
theorem dX0_isAtom_12 : decode cX0_isAtom 12 = .ok (.iload_n 0, 1) := by decide +kernel
theorem dX0_isAtom_13 : decode cX0_isAtom 13 = .ok (.bipush 101, 2) := by decide +kernel
theorem dX0_isAtom_15 : decode cX0_isAtom 15 = .ok (.if_icmp .lt 13, 3) := by decide +kernel
theorem dX0_isAtom_18 : decode cX0_isAtom 18 = .ok (.iload_n 0, 1) := by decide +kernel
theorem dX0_isAtom_19 : decode cX0_isAtom 19 = .ok (.bipush 103, 2) := by decide +kernel
theorem dX0_isAtom_21 : decode cX0_isAtom 21 = .ok (.if_icmp .gt 7, 3) := by decide +kernel
theorem dX0_isAtom_24 : decode cX0_isAtom 24 = .ok (.iconst 1, 1) := by decide +kernel
theorem dX0_isAtom_25 : decode cX0_isAtom 25 = .ok (.goto 4, 3) := by decide +kernel
theorem dX0_isAtom_28 : decode cX0_isAtom 28 = .ok (.iconst 0, 1) := by decide +kernel
theorem dX0_isAtom_29 : decode cX0_isAtom 29 = .ok (.ireturn, 1) := by decide +kernel
theorem dX0_atomOf_0 : decode cX0_atomOf 0 = .ok (.iload_n 2, 1) := by decide +kernel
theorem dX0_atomOf_1 : decode cX0_atomOf 1 = .ok (.tableswitch 115 101 115 #[106, 108, 115, 115, 115, 115, 115, 115, 115, 115, 115, 115, 75, 84, 95], 75) := by decide +kernel
theorem dX0_atomOf_76 : decode cX0_atomOf 76 = .ok (.aload_n 0, 1) := by decide +kernel
theorem dX0_atomOf_77 : decode cX0_atomOf 77 = .ok (.getfield 54, 3) := by decide +kernel
theorem dX0_atomOf_80 : decode cX0_atomOf 80 = .ok (.iconst 3, 1) := by decide +kernel
theorem dX0_atomOf_81 : decode cX0_atomOf 81 = .ok (.iload_n 1, 1) := by decide +kernel
theorem dX0_atomOf_82 : decode cX0_atomOf 82 = .ok (.imul, 1) := by decide +kernel
theorem dX0_atomOf_83 : decode cX0_atomOf 83 = .ok (.iaload, 1) := by decide +kernel
theorem dX0_atomOf_84 : decode cX0_atomOf 84 = .ok (.ireturn, 1) := by decide +kernel
theorem dX0_atomOf_85 : decode cX0_atomOf 85 = .ok (.aload_n 0, 1) := by decide +kernel
theorem dX0_atomOf_86 : decode cX0_atomOf 86 = .ok (.getfield 54, 3) := by decide +kernel
theorem dX0_atomOf_89 : decode cX0_atomOf 89 = .ok (.iconst 3, 1) := by decide +kernel
theorem dX0_atomOf_90 : decode cX0_atomOf 90 = .ok (.iload_n 1, 1) := by decide +kernel
theorem dX0_atomOf_91 : decode cX0_atomOf 91 = .ok (.imul, 1) := by decide +kernel
theorem dX0_atomOf_92 : decode cX0_atomOf 92 = .ok (.iconst 1, 1) := by decide +kernel
theorem dX0_atomOf_93 : decode cX0_atomOf 93 = .ok (.iadd, 1) := by decide +kernel
theorem dX0_atomOf_94 : decode cX0_atomOf 94 = .ok (.iaload, 1) := by decide +kernel
theorem dX0_atomOf_95 : decode cX0_atomOf 95 = .ok (.ireturn, 1) := by decide +kernel
theorem dX0_atomOf_96 : decode cX0_atomOf 96 = .ok (.aload_n 0, 1) := by decide +kernel
theorem dX0_atomOf_97 : decode cX0_atomOf 97 = .ok (.getfield 54, 3) := by decide +kernel
theorem dX0_atomOf_100 : decode cX0_atomOf 100 = .ok (.iconst 3, 1) := by decide +kernel
theorem dX0_atomOf_101 : decode cX0_atomOf 101 = .ok (.iload_n 1, 1) := by decide +kernel
theorem dX0_atomOf_102 : decode cX0_atomOf 102 = .ok (.imul, 1) := by decide +kernel
theorem dX0_atomOf_103 : decode cX0_atomOf 103 = .ok (.iconst 2, 1) := by decide +kernel
theorem dX0_atomOf_104 : decode cX0_atomOf 104 = .ok (.iadd, 1) := by decide +kernel
theorem dX0_atomOf_105 : decode cX0_atomOf 105 = .ok (.iaload, 1) := by decide +kernel
theorem dX0_atomOf_106 : decode cX0_atomOf 106 = .ok (.ireturn, 1) := by decide +kernel
theorem dX0_atomOf_107 : decode cX0_atomOf 107 = .ok (.iload_n 1, 1) := by decide +kernel
theorem dX0_atomOf_108 : decode cX0_atomOf 108 = .ok (.ireturn, 1) := by decide +kernel
theorem dX0_atomOf_109 : decode cX0_atomOf 109 = .ok (.aload_n 0, 1) := by decide +kernel
theorem dX0_atomOf_110 : decode cX0_atomOf 110 = .ok (.getfield 57, 3) := by decide +kernel
theorem dX0_atomOf_113 : decode cX0_atomOf 113 = .ok (.iload_n 1, 1) := by decide +kernel
theorem dX0_atomOf_114 : decode cX0_atomOf 114 = .ok (.iaload, 1) := by decide +kernel
theorem dX0_atomOf_115 : decode cX0_atomOf 115 = .ok (.ireturn, 1) := by decide +kernel
theorem dX0_atomOf_116 : decode cX0_atomOf 116 = .ok (.aload_n 0, 1) := by decide +kernel
theorem dX0_atomOf_117 : decode cX0_atomOf 117 = .ok (.getfield 60, 3) := by decide +kernel
theorem dX0_atomOf_120 : decode cX0_atomOf 120 = .ok (.iload_n 1, 1) := by decide +kernel
theorem dX0_atomOf_121 : decode cX0_atomOf 121 = .ok (.ishr, 1) := by decide +kernel
theorem dX0_atomOf_122 : decode cX0_atomOf 122 = .ok (.iconst 1, 1) := by decide +kernel
theorem dX0_atomOf_123 : decode cX0_atomOf 123 = .ok (.iand, 1) := by decide +kernel
theorem dX0_atomOf_124 : decode cX0_atomOf 124 = .ok (.ireturn, 1) := by decide +kernel
theorem dX0_joined_0 : decode cX0_joined 0 = .ok (.iload_n 0, 1) := by decide +kernel
theorem dX0_joined_1 : decode cX0_joined 1 = .ok (.lookupswitch 131 #[(42, 85), (43, 67), (45, 76), (60, 105), (61, 94), (62, 116), (111, 127)], 67) := by decide +kernel
theorem dX0_joined_68 : decode cX0_joined 68 = .ok (.iload_n 1, 1) := by decide +kernel
theorem dX0_joined_69 : decode cX0_joined 69 = .ok (.i2l, 1) := by decide +kernel
theorem dX0_joined_70 : decode cX0_joined 70 = .ok (.iload_n 2, 1) := by decide +kernel
theorem dX0_joined_71 : decode cX0_joined 71 = .ok (.i2l, 1) := by decide +kernel
theorem dX0_joined_72 : decode cX0_joined 72 = .ok (.ladd, 1) := by decide +kernel
theorem dX0_joined_73 : decode cX0_joined 73 = .ok (.invokestatic 63, 3) := by decide +kernel
theorem dX0_joined_76 : decode cX0_joined 76 = .ok (.ireturn, 1) := by decide +kernel
theorem dX0_joined_77 : decode cX0_joined 77 = .ok (.iload_n 1, 1) := by decide +kernel
theorem dX0_joined_78 : decode cX0_joined 78 = .ok (.i2l, 1) := by decide +kernel
theorem dX0_joined_79 : decode cX0_joined 79 = .ok (.iload_n 2, 1) := by decide +kernel
theorem dX0_joined_80 : decode cX0_joined 80 = .ok (.i2l, 1) := by decide +kernel
theorem dX0_joined_81 : decode cX0_joined 81 = .ok (.lsub, 1) := by decide +kernel
theorem dX0_joined_82 : decode cX0_joined 82 = .ok (.invokestatic 63, 3) := by decide +kernel
theorem dX0_joined_85 : decode cX0_joined 85 = .ok (.ireturn, 1) := by decide +kernel
theorem dX0_joined_86 : decode cX0_joined 86 = .ok (.iload_n 1, 1) := by decide +kernel
theorem dX0_joined_87 : decode cX0_joined 87 = .ok (.i2l, 1) := by decide +kernel
theorem dX0_joined_88 : decode cX0_joined 88 = .ok (.iload_n 2, 1) := by decide +kernel
theorem dX0_joined_89 : decode cX0_joined 89 = .ok (.i2l, 1) := by decide +kernel
theorem dX0_joined_90 : decode cX0_joined 90 = .ok (.lmul, 1) := by decide +kernel
theorem dX0_joined_91 : decode cX0_joined 91 = .ok (.invokestatic 63, 3) := by decide +kernel
theorem dX0_joined_94 : decode cX0_joined 94 = .ok (.ireturn, 1) := by decide +kernel
theorem dX0_joined_95 : decode cX0_joined 95 = .ok (.iload_n 1, 1) := by decide +kernel
theorem dX0_joined_96 : decode cX0_joined 96 = .ok (.iload_n 2, 1) := by decide +kernel
theorem dX0_joined_97 : decode cX0_joined 97 = .ok (.if_icmp .ne 7, 3) := by decide +kernel
theorem dX0_joined_100 : decode cX0_joined 100 = .ok (.iconst 1, 1) := by decide +kernel
theorem dX0_joined_101 : decode cX0_joined 101 = .ok (.goto 4, 3) := by decide +kernel
theorem dX0_joined_104 : decode cX0_joined 104 = .ok (.iconst 0, 1) := by decide +kernel
theorem dX0_joined_105 : decode cX0_joined 105 = .ok (.ireturn, 1) := by decide +kernel
theorem dX0_joined_106 : decode cX0_joined 106 = .ok (.iload_n 1, 1) := by decide +kernel
theorem dX0_joined_107 : decode cX0_joined 107 = .ok (.iload_n 2, 1) := by decide +kernel
theorem dX0_joined_108 : decode cX0_joined 108 = .ok (.if_icmp .ge 7, 3) := by decide +kernel
theorem dX0_joined_111 : decode cX0_joined 111 = .ok (.iconst 1, 1) := by decide +kernel
theorem dX0_joined_112 : decode cX0_joined 112 = .ok (.goto 4, 3) := by decide +kernel
theorem dX0_joined_115 : decode cX0_joined 115 = .ok (.iconst 0, 1) := by decide +kernel
theorem dX0_joined_116 : decode cX0_joined 116 = .ok (.ireturn, 1) := by decide +kernel
theorem dX0_joined_117 : decode cX0_joined 117 = .ok (.iload_n 1, 1) := by decide +kernel
theorem dX0_joined_118 : decode cX0_joined 118 = .ok (.iload_n 2, 1) := by decide +kernel
theorem dX0_joined_119 : decode cX0_joined 119 = .ok (.if_icmp .le 7, 3) := by decide +kernel
theorem dX0_joined_122 : decode cX0_joined 122 = .ok (.iconst 1, 1) := by decide +kernel
theorem dX0_joined_123 : decode cX0_joined 123 = .ok (.goto 4, 3) := by decide +kernel
theorem dX0_joined_126 : decode cX0_joined 126 = .ok (.iconst 0, 1) := by decide +kernel
theorem dX0_joined_127 : decode cX0_joined 127 = .ok (.ireturn, 1) := by decide +kernel
theorem dX0_joined_128 : decode cX0_joined 128 = .ok (.iload_n 1, 1) := by decide +kernel
theorem dX0_joined_129 : decode cX0_joined 129 = .ok (.iload_n 2, 1) := by decide +kernel
theorem dX0_joined_130 : decode cX0_joined 130 = .ok (.iand, 1) := by decide +kernel
theorem dX0_joined_131 : decode cX0_joined 131 = .ok (.ireturn, 1) := by decide +kernel
theorem dX0_joined_132 : decode cX0_joined 132 = .ok (.iload_n 1, 1) := by decide +kernel
theorem dX0_joined_133 : decode cX0_joined 133 = .ok (.iload_n 2, 1) := by decide +kernel
theorem dX0_joined_134 : decode cX0_joined 134 = .ok (.ior, 1) := by decide +kernel
theorem dX0_joined_135 : decode cX0_joined 135 = .ok (.ireturn, 1) := by decide +kernel
theorem dX0_kept_0 : decode cX0_kept 0 = .ok (.ldc2_w 67, 3) := by decide +kernel
theorem dX0_kept_3 : decode cX0_kept 3 = .ok (.ldc2_w 69, 3) := by decide +kernel
theorem dX0_kept_6 : decode cX0_kept 6 = .ok (.lload_n 0, 1) := by decide +kernel
theorem dX0_kept_7 : decode cX0_kept 7 = .ok (.invokestatic 71, 3) := by decide +kernel
theorem dX0_kept_10 : decode cX0_kept 10 = .ok (.invokestatic 77, 3) := by decide +kernel
theorem dX0_kept_13 : decode cX0_kept 13 = .ok (.l2i, 1) := by decide +kernel
theorem dX0_kept_14 : decode cX0_kept 14 = .ok (.ireturn, 1) := by decide +kernel
theorem dX1_init_0 : decode cX1_init 0 = .ok (.aload_n 0, 1) := by decide +kernel
theorem dX1_init_1 : decode cX1_init 1 = .ok (.invokespecial 1, 3) := by decide +kernel
theorem dX1_init_4 : decode cX1_init 4 = .ok (.aload_n 0, 1) := by decide +kernel
theorem dX1_init_5 : decode cX1_init 5 = .ok (.new 7, 3) := by decide +kernel
theorem dX1_init_8 : decode cX1_init 8 = .ok (.dup, 1) := by decide +kernel
theorem dX1_init_9 : decode cX1_init 9 = .ok (.invokespecial 9, 3) := by decide +kernel
theorem dX1_init_12 : decode cX1_init 12 = .ok (.putfield 10, 3) := by decide +kernel
theorem dX1_init_15 : decode cX1_init 15 = .ok (.aload_n 0, 1) := by decide +kernel
theorem dX1_init_16 : decode cX1_init 16 = .ok (.new 16, 3) := by decide +kernel
theorem dX1_init_19 : decode cX1_init 19 = .ok (.dup, 1) := by decide +kernel
theorem dX1_init_20 : decode cX1_init 20 = .ok (.invokespecial 18, 3) := by decide +kernel
theorem dX1_init_23 : decode cX1_init 23 = .ok (.putfield 19, 3) := by decide +kernel
theorem dX1_init_26 : decode cX1_init 26 = .ok (.return_, 1) := by decide +kernel
theorem dX2_init_0 : decode cX2_init 0 = .ok (.aload_n 0, 1) := by decide +kernel
theorem dX2_init_1 : decode cX2_init 1 = .ok (.invokespecial 3, 3) := by decide +kernel
theorem dX2_init_4 : decode cX2_init 4 = .ok (.aload_n 0, 1) := by decide +kernel
theorem dX2_init_5 : decode cX2_init 5 = .ok (.bipush 48, 2) := by decide +kernel
theorem dX2_init_7 : decode cX2_init 7 = .ok (.newarray .int, 2) := by decide +kernel
theorem dX2_init_9 : decode cX2_init 9 = .ok (.putfield 9, 3) := by decide +kernel
theorem dX2_init_12 : decode cX2_init 12 = .ok (.aload_n 0, 1) := by decide +kernel
theorem dX2_init_13 : decode cX2_init 13 = .ok (.bipush 16, 2) := by decide +kernel
theorem dX2_init_15 : decode cX2_init 15 = .ok (.newarray .int, 2) := by decide +kernel
theorem dX2_init_17 : decode cX2_init 17 = .ok (.putfield 15, 3) := by decide +kernel
theorem dX2_init_20 : decode cX2_init 20 = .ok (.aload_n 0, 1) := by decide +kernel
theorem dX2_init_21 : decode cX2_init 21 = .ok (.bipush 8, 2) := by decide +kernel
theorem dX2_init_23 : decode cX2_init 23 = .ok (.newarray .int, 2) := by decide +kernel
theorem dX2_init_25 : decode cX2_init 25 = .ok (.putfield 18, 3) := by decide +kernel
theorem dX2_init_28 : decode cX2_init 28 = .ok (.aload_n 0, 1) := by decide +kernel
theorem dX2_init_29 : decode cX2_init 29 = .ok (.bipush 8, 2) := by decide +kernel
theorem dX2_init_31 : decode cX2_init 31 = .ok (.newarray .int, 2) := by decide +kernel
theorem dX2_init_33 : decode cX2_init 33 = .ok (.putfield 21, 3) := by decide +kernel
theorem dX2_init_36 : decode cX2_init 36 = .ok (.aload_n 0, 1) := by decide +kernel
theorem dX2_init_37 : decode cX2_init 37 = .ok (.bipush 6, 2) := by decide +kernel
theorem dX2_init_39 : decode cX2_init 39 = .ok (.newarray .int, 2) := by decide +kernel
theorem dX2_init_41 : decode cX2_init 41 = .ok (.putfield 24, 3) := by decide +kernel
theorem dX2_init_44 : decode cX2_init 44 = .ok (.return_, 1) := by decide +kernel
theorem dX2_clear_0 : decode cX2_clear 0 = .ok (.aload_n 0, 1) := by decide +kernel
theorem dX2_clear_1 : decode cX2_clear 1 = .ok (.getfield 21, 3) := by decide +kernel
theorem dX2_clear_4 : decode cX2_clear 4 = .ok (.iconst 0, 1) := by decide +kernel
theorem dX2_clear_5 : decode cX2_clear 5 = .ok (.invokestatic 27, 3) := by decide +kernel
theorem dX2_clear_8 : decode cX2_clear 8 = .ok (.aload_n 0, 1) := by decide +kernel
theorem dX2_clear_9 : decode cX2_clear 9 = .ok (.getfield 24, 3) := by decide +kernel
theorem dX2_clear_12 : decode cX2_clear 12 = .ok (.iconst 0, 1) := by decide +kernel
theorem dX2_clear_13 : decode cX2_clear 13 = .ok (.invokestatic 27, 3) := by decide +kernel
theorem dX2_clear_16 : decode cX2_clear 16 = .ok (.aload_n 0, 1) := by decide +kernel
theorem dX2_clear_17 : decode cX2_clear 17 = .ok (.iconst 0, 1) := by decide +kernel
theorem dX2_clear_18 : decode cX2_clear 18 = .ok (.putfield 33, 3) := by decide +kernel
theorem dX2_clear_21 : decode cX2_clear 21 = .ok (.aload_n 0, 1) := by decide +kernel
theorem dX2_clear_22 : decode cX2_clear 22 = .ok (.iconst 0, 1) := by decide +kernel
theorem dX2_clear_23 : decode cX2_clear 23 = .ok (.putfield 37, 3) := by decide +kernel
theorem dX2_clear_26 : decode cX2_clear 26 = .ok (.aload_n 0, 1) := by decide +kernel
theorem dX2_clear_27 : decode cX2_clear 27 = .ok (.iconst 0, 1) := by decide +kernel
theorem dX2_clear_28 : decode cX2_clear 28 = .ok (.putfield 40, 3) := by decide +kernel
theorem dX2_clear_31 : decode cX2_clear 31 = .ok (.aload_n 0, 1) := by decide +kernel
theorem dX2_clear_32 : decode cX2_clear 32 = .ok (.iconst 0, 1) := by decide +kernel
theorem dX2_clear_33 : decode cX2_clear 33 = .ok (.putfield 43, 3) := by decide +kernel
theorem dX2_clear_36 : decode cX2_clear 36 = .ok (.aload_n 0, 1) := by decide +kernel
theorem dX2_clear_37 : decode cX2_clear 37 = .ok (.iconst 0, 1) := by decide +kernel
theorem dX2_clear_38 : decode cX2_clear 38 = .ok (.putfield 46, 3) := by decide +kernel
theorem dX2_clear_41 : decode cX2_clear 41 = .ok (.return_, 1) := by decide +kernel
theorem dX2_become_0 : decode cX2_become 0 = .ok (.aload_n 1, 1) := by decide +kernel
theorem dX2_become_1 : decode cX2_become 1 = .ok (.getfield 9, 3) := by decide +kernel
theorem dX2_become_4 : decode cX2_become 4 = .ok (.iconst 0, 1) := by decide +kernel
theorem dX2_become_5 : decode cX2_become 5 = .ok (.aload_n 0, 1) := by decide +kernel
theorem dX2_become_6 : decode cX2_become 6 = .ok (.getfield 9, 3) := by decide +kernel
theorem dX2_become_9 : decode cX2_become 9 = .ok (.iconst 0, 1) := by decide +kernel
theorem dX2_become_10 : decode cX2_become 10 = .ok (.bipush 48, 2) := by decide +kernel
theorem dX2_become_12 : decode cX2_become 12 = .ok (.invokestatic 49, 3) := by decide +kernel
theorem dX2_become_15 : decode cX2_become 15 = .ok (.aload_n 1, 1) := by decide +kernel
theorem dX2_become_16 : decode cX2_become 16 = .ok (.getfield 15, 3) := by decide +kernel
theorem dX2_become_19 : decode cX2_become 19 = .ok (.iconst 0, 1) := by decide +kernel
theorem dX2_become_20 : decode cX2_become 20 = .ok (.aload_n 0, 1) := by decide +kernel
theorem dX2_become_21 : decode cX2_become 21 = .ok (.getfield 15, 3) := by decide +kernel
theorem dX2_become_24 : decode cX2_become 24 = .ok (.iconst 0, 1) := by decide +kernel
theorem dX2_become_25 : decode cX2_become 25 = .ok (.bipush 16, 2) := by decide +kernel
theorem dX2_become_27 : decode cX2_become 27 = .ok (.invokestatic 49, 3) := by decide +kernel
theorem dX2_become_30 : decode cX2_become 30 = .ok (.aload_n 1, 1) := by decide +kernel
theorem dX2_become_31 : decode cX2_become 31 = .ok (.getfield 18, 3) := by decide +kernel
theorem dX2_become_34 : decode cX2_become 34 = .ok (.iconst 0, 1) := by decide +kernel
theorem dX2_become_35 : decode cX2_become 35 = .ok (.aload_n 0, 1) := by decide +kernel
theorem dX2_become_36 : decode cX2_become 36 = .ok (.getfield 18, 3) := by decide +kernel
theorem dX2_become_39 : decode cX2_become 39 = .ok (.iconst 0, 1) := by decide +kernel
theorem dX2_become_40 : decode cX2_become 40 = .ok (.bipush 8, 2) := by decide +kernel
theorem dX2_become_42 : decode cX2_become 42 = .ok (.invokestatic 49, 3) := by decide +kernel
theorem dX2_become_45 : decode cX2_become 45 = .ok (.aload_n 1, 1) := by decide +kernel
theorem dX2_become_46 : decode cX2_become 46 = .ok (.getfield 21, 3) := by decide +kernel
theorem dX2_become_49 : decode cX2_become 49 = .ok (.iconst 0, 1) := by decide +kernel
theorem dX2_become_50 : decode cX2_become 50 = .ok (.aload_n 0, 1) := by decide +kernel
theorem dX2_become_51 : decode cX2_become 51 = .ok (.getfield 21, 3) := by decide +kernel
theorem dX2_become_54 : decode cX2_become 54 = .ok (.iconst 0, 1) := by decide +kernel
theorem dX2_become_55 : decode cX2_become 55 = .ok (.bipush 8, 2) := by decide +kernel
theorem dX2_become_57 : decode cX2_become 57 = .ok (.invokestatic 49, 3) := by decide +kernel
theorem dX2_become_60 : decode cX2_become 60 = .ok (.aload_n 1, 1) := by decide +kernel
theorem dX2_become_61 : decode cX2_become 61 = .ok (.getfield 24, 3) := by decide +kernel
theorem dX2_become_64 : decode cX2_become 64 = .ok (.iconst 0, 1) := by decide +kernel
theorem dX2_become_65 : decode cX2_become 65 = .ok (.aload_n 0, 1) := by decide +kernel
theorem dX2_become_66 : decode cX2_become 66 = .ok (.getfield 24, 3) := by decide +kernel
theorem dX2_become_69 : decode cX2_become 69 = .ok (.iconst 0, 1) := by decide +kernel
theorem dX2_become_70 : decode cX2_become 70 = .ok (.bipush 6, 2) := by decide +kernel
theorem dX2_become_72 : decode cX2_become 72 = .ok (.invokestatic 49, 3) := by decide +kernel
theorem dX2_become_75 : decode cX2_become 75 = .ok (.aload_n 0, 1) := by decide +kernel
theorem dX2_become_76 : decode cX2_become 76 = .ok (.aload_n 1, 1) := by decide +kernel
theorem dX2_become_77 : decode cX2_become 77 = .ok (.getfield 33, 3) := by decide +kernel
theorem dX2_become_80 : decode cX2_become 80 = .ok (.putfield 33, 3) := by decide +kernel
theorem dX2_become_83 : decode cX2_become 83 = .ok (.aload_n 0, 1) := by decide +kernel
theorem dX2_become_84 : decode cX2_become 84 = .ok (.aload_n 1, 1) := by decide +kernel
theorem dX2_become_85 : decode cX2_become 85 = .ok (.getfield 37, 3) := by decide +kernel
theorem dX2_become_88 : decode cX2_become 88 = .ok (.putfield 37, 3) := by decide +kernel
theorem dX2_become_91 : decode cX2_become 91 = .ok (.aload_n 0, 1) := by decide +kernel
theorem dX2_become_92 : decode cX2_become 92 = .ok (.aload_n 1, 1) := by decide +kernel
theorem dX2_become_93 : decode cX2_become 93 = .ok (.getfield 40, 3) := by decide +kernel
theorem dX2_become_96 : decode cX2_become 96 = .ok (.putfield 40, 3) := by decide +kernel
theorem dX2_become_99 : decode cX2_become 99 = .ok (.aload_n 0, 1) := by decide +kernel
theorem dX2_become_100 : decode cX2_become 100 = .ok (.aload_n 1, 1) := by decide +kernel
theorem dX2_become_101 : decode cX2_become 101 = .ok (.getfield 43, 3) := by decide +kernel
theorem dX2_become_104 : decode cX2_become 104 = .ok (.putfield 43, 3) := by decide +kernel
theorem dX2_become_107 : decode cX2_become 107 = .ok (.aload_n 0, 1) := by decide +kernel
theorem dX2_become_108 : decode cX2_become 108 = .ok (.aload_n 1, 1) := by decide +kernel
theorem dX2_become_109 : decode cX2_become 109 = .ok (.getfield 46, 3) := by decide +kernel
theorem dX2_become_112 : decode cX2_become 112 = .ok (.putfield 46, 3) := by decide +kernel
theorem dX2_become_115 : decode cX2_become 115 = .ok (.return_, 1) := by decide +kernel
theorem dX2_allWorlds_0 : decode cX2_allWorlds 0 = .ok (.iconst 1, 1) := by decide +kernel
theorem dX2_allWorlds_1 : decode cX2_allWorlds 1 = .ok (.aload_n 0, 1) := by decide +kernel
theorem dX2_allWorlds_2 : decode cX2_allWorlds 2 = .ok (.getfield 37, 3) := by decide +kernel
theorem dX2_allWorlds_5 : decode cX2_allWorlds 5 = .ok (.ishl, 1) := by decide +kernel
theorem dX2_allWorlds_6 : decode cX2_allWorlds 6 = .ok (.iconst 1, 1) := by decide +kernel
theorem dX2_allWorlds_7 : decode cX2_allWorlds 7 = .ok (.isub, 1) := by decide +kernel
theorem dX2_allWorlds_8 : decode cX2_allWorlds 8 = .ok (.ireturn, 1) := by decide +kernel
theorem dX2_allFacts_0 : decode cX2_allFacts 0 = .ok (.iconst 1, 1) := by decide +kernel
theorem dX2_allFacts_1 : decode cX2_allFacts 1 = .ok (.aload_n 0, 1) := by decide +kernel
theorem dX2_allFacts_2 : decode cX2_allFacts 2 = .ok (.getfield 40, 3) := by decide +kernel
theorem dX2_allFacts_5 : decode cX2_allFacts 5 = .ok (.ishl, 1) := by decide +kernel
theorem dX2_allFacts_6 : decode cX2_allFacts 6 = .ok (.iconst 1, 1) := by decide +kernel
theorem dX2_allFacts_7 : decode cX2_allFacts 7 = .ok (.isub, 1) := by decide +kernel
theorem dX2_allFacts_8 : decode cX2_allFacts 8 = .ok (.ireturn, 1) := by decide +kernel
theorem dX2_factsIn_0 : decode cX2_factsIn 0 = .ok (.iconst 0, 1) := by decide +kernel
theorem dX2_factsIn_1 : decode cX2_factsIn 1 = .ok (.istore_n 2, 1) := by decide +kernel
theorem dX2_factsIn_2 : decode cX2_factsIn 2 = .ok (.iconst 0, 1) := by decide +kernel
theorem dX2_factsIn_3 : decode cX2_factsIn 3 = .ok (.istore_n 3, 1) := by decide +kernel
theorem dX2_factsIn_4 : decode cX2_factsIn 4 = .ok (.iload_n 3, 1) := by decide +kernel
theorem dX2_factsIn_5 : decode cX2_factsIn 5 = .ok (.aload_n 0, 1) := by decide +kernel
theorem dX2_factsIn_6 : decode cX2_factsIn 6 = .ok (.getfield 40, 3) := by decide +kernel
theorem dX2_factsIn_9 : decode cX2_factsIn 9 = .ok (.if_icmp .ge 24, 3) := by decide +kernel
theorem dX2_factsIn_12 : decode cX2_factsIn 12 = .ok (.iload_n 2, 1) := by decide +kernel
theorem dX2_factsIn_13 : decode cX2_factsIn 13 = .ok (.aload_n 0, 1) := by decide +kernel
theorem dX2_factsIn_14 : decode cX2_factsIn 14 = .ok (.getfield 18, 3) := by decide +kernel
theorem dX2_factsIn_17 : decode cX2_factsIn 17 = .ok (.iload_n 3, 1) := by decide +kernel
theorem dX2_factsIn_18 : decode cX2_factsIn 18 = .ok (.iaload, 1) := by decide +kernel
theorem dX2_factsIn_19 : decode cX2_factsIn 19 = .ok (.iload_n 1, 1) := by decide +kernel
theorem dX2_factsIn_20 : decode cX2_factsIn 20 = .ok (.ishr, 1) := by decide +kernel
theorem dX2_factsIn_21 : decode cX2_factsIn 21 = .ok (.iconst 1, 1) := by decide +kernel
theorem dX2_factsIn_22 : decode cX2_factsIn 22 = .ok (.iand, 1) := by decide +kernel
theorem dX2_factsIn_23 : decode cX2_factsIn 23 = .ok (.iload_n 3, 1) := by decide +kernel
theorem dX2_factsIn_24 : decode cX2_factsIn 24 = .ok (.ishl, 1) := by decide +kernel
theorem dX2_factsIn_25 : decode cX2_factsIn 25 = .ok (.ior, 1) := by decide +kernel
theorem dX2_factsIn_26 : decode cX2_factsIn 26 = .ok (.istore_n 2, 1) := by decide +kernel
theorem dX2_factsIn_27 : decode cX2_factsIn 27 = .ok (.iinc 3 1, 3) := by decide +kernel
theorem dX2_factsIn_30 : decode cX2_factsIn 30 = .ok (.goto (-26), 3) := by decide +kernel
theorem dX2_factsIn_33 : decode cX2_factsIn 33 = .ok (.iload_n 2, 1) := by decide +kernel
theorem dX2_factsIn_34 : decode cX2_factsIn 34 = .ok (.ireturn, 1) := by decide +kernel
theorem dX2_countRoads_0 : decode cX2_countRoads 0 = .ok (.iconst 0, 1) := by decide +kernel
theorem dX2_countRoads_1 : decode cX2_countRoads 1 = .ok (.istore_n 1, 1) := by decide +kernel
theorem dX2_countRoads_2 : decode cX2_countRoads 2 = .ok (.iconst 0, 1) := by decide +kernel
theorem dX2_countRoads_3 : decode cX2_countRoads 3 = .ok (.istore_n 2, 1) := by decide +kernel
theorem dX2_countRoads_4 : decode cX2_countRoads 4 = .ok (.iload_n 2, 1) := by decide +kernel
theorem dX2_countRoads_5 : decode cX2_countRoads 5 = .ok (.aload_n 0, 1) := by decide +kernel
theorem dX2_countRoads_6 : decode cX2_countRoads 6 = .ok (.getfield 43, 3) := by decide +kernel
theorem dX2_countRoads_9 : decode cX2_countRoads 9 = .ok (.if_icmp .ge 21, 3) := by decide +kernel
theorem dX2_countRoads_12 : decode cX2_countRoads 12 = .ok (.iload_n 1, 1) := by decide +kernel
theorem dX2_countRoads_13 : decode cX2_countRoads 13 = .ok (.aload_n 0, 1) := by decide +kernel
theorem dX2_countRoads_14 : decode cX2_countRoads 14 = .ok (.getfield 24, 3) := by decide +kernel
theorem dX2_countRoads_17 : decode cX2_countRoads 17 = .ok (.iload_n 2, 1) := by decide +kernel
theorem dX2_countRoads_18 : decode cX2_countRoads 18 = .ok (.iaload, 1) := by decide +kernel
theorem dX2_countRoads_19 : decode cX2_countRoads 19 = .ok (.invokestatic 55, 3) := by decide +kernel
theorem dX2_countRoads_22 : decode cX2_countRoads 22 = .ok (.iadd, 1) := by decide +kernel
theorem dX2_countRoads_23 : decode cX2_countRoads 23 = .ok (.istore_n 1, 1) := by decide +kernel
theorem dX2_countRoads_24 : decode cX2_countRoads 24 = .ok (.iinc 2 1, 3) := by decide +kernel
theorem dX2_countRoads_27 : decode cX2_countRoads 27 = .ok (.goto (-23), 3) := by decide +kernel
theorem dX2_countRoads_30 : decode cX2_countRoads 30 = .ok (.iload_n 1, 1) := by decide +kernel
theorem dX2_countRoads_31 : decode cX2_countRoads 31 = .ok (.iconst 2, 1) := by decide +kernel
theorem dX2_countRoads_32 : decode cX2_countRoads 32 = .ok (.idiv, 1) := by decide +kernel
theorem dX2_countRoads_33 : decode cX2_countRoads 33 = .ok (.ireturn, 1) := by decide +kernel
theorem dX2_sideOf_0 : decode cX2_sideOf 0 = .ok (.aload_n 0, 1) := by decide +kernel
theorem dX2_sideOf_1 : decode cX2_sideOf 1 = .ok (.getfield 18, 3) := by decide +kernel
theorem dX2_sideOf_4 : decode cX2_sideOf 4 = .ok (.iload_n 1, 1) := by decide +kernel
theorem dX2_sideOf_5 : decode cX2_sideOf 5 = .ok (.iaload, 1) := by decide +kernel
theorem dX2_sideOf_6 : decode cX2_sideOf 6 = .ok (.iload_n 2, 1) := by decide +kernel
theorem dX2_sideOf_7 : decode cX2_sideOf 7 = .ok (.ishr, 1) := by decide +kernel
theorem dX2_sideOf_8 : decode cX2_sideOf 8 = .ok (.iconst 1, 1) := by decide +kernel
theorem dX2_sideOf_9 : decode cX2_sideOf 9 = .ok (.iand, 1) := by decide +kernel
theorem dX2_sideOf_10 : decode cX2_sideOf 10 = .ok (.iconst 1, 1) := by decide +kernel
theorem dX2_sideOf_11 : decode cX2_sideOf 11 = .ok (.if_icmp .ne 12, 3) := by decide +kernel
theorem dX2_sideOf_14 : decode cX2_sideOf 14 = .ok (.aload_n 0, 1) := by decide +kernel
theorem dX2_sideOf_15 : decode cX2_sideOf 15 = .ok (.getfield 18, 3) := by decide +kernel
theorem dX2_sideOf_18 : decode cX2_sideOf 18 = .ok (.iload_n 1, 1) := by decide +kernel
theorem dX2_sideOf_19 : decode cX2_sideOf 19 = .ok (.iaload, 1) := by decide +kernel
theorem dX2_sideOf_20 : decode cX2_sideOf 20 = .ok (.goto 11, 3) := by decide +kernel
theorem dX2_sideOf_23 : decode cX2_sideOf 23 = .ok (.aload_n 0, 1) := by decide +kernel
theorem dX2_sideOf_24 : decode cX2_sideOf 24 = .ok (.getfield 18, 3) := by decide +kernel
theorem dX2_sideOf_27 : decode cX2_sideOf 27 = .ok (.iload_n 1, 1) := by decide +kernel
theorem dX2_sideOf_28 : decode cX2_sideOf 28 = .ok (.iaload, 1) := by decide +kernel
theorem dX2_sideOf_29 : decode cX2_sideOf 29 = .ok (.iconst (-1), 1) := by decide +kernel
theorem dX2_sideOf_30 : decode cX2_sideOf 30 = .ok (.ixor, 1) := by decide +kernel
theorem dX2_sideOf_31 : decode cX2_sideOf 31 = .ok (.ireturn, 1) := by decide +kernel
theorem dX2_possible_0 : decode cX2_possible 0 = .ok (.aload_n 0, 1) := by decide +kernel
theorem dX2_possible_1 : decode cX2_possible 1 = .ok (.invokevirtual 61, 3) := by decide +kernel
theorem dX2_possible_4 : decode cX2_possible 4 = .ok (.istore_n 3, 1) := by decide +kernel
theorem dX2_possible_5 : decode cX2_possible 5 = .ok (.iconst 0, 1) := by decide +kernel
theorem dX2_possible_6 : decode cX2_possible 6 = .ok (.istore 4, 2) := by decide +kernel
theorem dX2_possible_8 : decode cX2_possible 8 = .ok (.iload 4, 2) := by decide +kernel
theorem dX2_possible_10 : decode cX2_possible 10 = .ok (.aload_n 0, 1) := by decide +kernel
theorem dX2_possible_11 : decode cX2_possible 11 = .ok (.getfield 40, 3) := by decide +kernel
theorem dX2_possible_14 : decode cX2_possible 14 = .ok (.if_icmp .ge 29, 3) := by decide +kernel
theorem dX2_possible_17 : decode cX2_possible 17 = .ok (.iload_n 1, 1) := by decide +kernel
theorem dX2_possible_18 : decode cX2_possible 18 = .ok (.iload 4, 2) := by decide +kernel
theorem dX2_possible_20 : decode cX2_possible 20 = .ok (.ishr, 1) := by decide +kernel
theorem dX2_possible_21 : decode cX2_possible 21 = .ok (.iconst 1, 1) := by decide +kernel
theorem dX2_possible_22 : decode cX2_possible 22 = .ok (.iand, 1) := by decide +kernel
theorem dX2_possible_23 : decode cX2_possible 23 = .ok (.iconst 1, 1) := by decide +kernel
theorem dX2_possible_24 : decode cX2_possible 24 = .ok (.if_icmp .ne 13, 3) := by decide +kernel
theorem dX2_possible_27 : decode cX2_possible 27 = .ok (.iload_n 3, 1) := by decide +kernel
theorem dX2_possible_28 : decode cX2_possible 28 = .ok (.aload_n 0, 1) := by decide +kernel
theorem dX2_possible_29 : decode cX2_possible 29 = .ok (.iload 4, 2) := by decide +kernel
theorem dX2_possible_31 : decode cX2_possible 31 = .ok (.iload_n 2, 1) := by decide +kernel
theorem dX2_possible_32 : decode cX2_possible 32 = .ok (.invokevirtual 65, 3) := by decide +kernel
theorem dX2_possible_35 : decode cX2_possible 35 = .ok (.iand, 1) := by decide +kernel
theorem dX2_possible_36 : decode cX2_possible 36 = .ok (.istore_n 3, 1) := by decide +kernel
theorem dX2_possible_37 : decode cX2_possible 37 = .ok (.iinc 4 1, 3) := by decide +kernel
theorem dX2_possible_40 : decode cX2_possible 40 = .ok (.goto (-32), 3) := by decide +kernel
theorem dX2_possible_43 : decode cX2_possible 43 = .ok (.iload_n 3, 1) := by decide +kernel
theorem dX2_possible_44 : decode cX2_possible 44 = .ok (.ireturn, 1) := by decide +kernel
theorem dX2_isKnown_0 : decode cX2_isKnown 0 = .ok (.iload_n 2, 1) := by decide +kernel
theorem dX2_isKnown_1 : decode cX2_isKnown 1 = .ok (.aload_n 0, 1) := by decide +kernel
theorem dX2_isKnown_2 : decode cX2_isKnown 2 = .ok (.getfield 18, 3) := by decide +kernel
theorem dX2_isKnown_5 : decode cX2_isKnown 5 = .ok (.iload_n 1, 1) := by decide +kernel
theorem dX2_isKnown_6 : decode cX2_isKnown 6 = .ok (.iaload, 1) := by decide +kernel
theorem dX2_isKnown_7 : decode cX2_isKnown 7 = .ok (.iand, 1) := by decide +kernel
theorem dX2_isKnown_8 : decode cX2_isKnown 8 = .ok (.istore_n 3, 1) := by decide +kernel
theorem dX2_isKnown_9 : decode cX2_isKnown 9 = .ok (.iload_n 3, 1) := by decide +kernel
theorem dX2_isKnown_10 : decode cX2_isKnown 10 = .ok (.ifCond .eq 8, 3) := by decide +kernel
theorem dX2_isKnown_13 : decode cX2_isKnown 13 = .ok (.iload_n 3, 1) := by decide +kernel
theorem dX2_isKnown_14 : decode cX2_isKnown 14 = .ok (.iload_n 2, 1) := by decide +kernel
theorem dX2_isKnown_15 : decode cX2_isKnown 15 = .ok (.if_icmp .ne 7, 3) := by decide +kernel
theorem dX2_isKnown_18 : decode cX2_isKnown 18 = .ok (.iconst 1, 1) := by decide +kernel
theorem dX2_isKnown_19 : decode cX2_isKnown 19 = .ok (.goto 4, 3) := by decide +kernel
theorem dX2_isKnown_22 : decode cX2_isKnown 22 = .ok (.iconst 0, 1) := by decide +kernel
theorem dX2_isKnown_23 : decode cX2_isKnown 23 = .ok (.ireturn, 1) := by decide +kernel
theorem dX2_knownBy_0 : decode cX2_knownBy 0 = .ok (.iconst 0, 1) := by decide +kernel
theorem dX2_knownBy_1 : decode cX2_knownBy 1 = .ok (.istore_n 2, 1) := by decide +kernel
theorem dX2_knownBy_2 : decode cX2_knownBy 2 = .ok (.iconst 0, 1) := by decide +kernel
theorem dX2_knownBy_3 : decode cX2_knownBy 3 = .ok (.istore_n 3, 1) := by decide +kernel
theorem dX2_knownBy_4 : decode cX2_knownBy 4 = .ok (.iload_n 3, 1) := by decide +kernel
theorem dX2_knownBy_5 : decode cX2_knownBy 5 = .ok (.aload_n 0, 1) := by decide +kernel
theorem dX2_knownBy_6 : decode cX2_knownBy 6 = .ok (.getfield 40, 3) := by decide +kernel
theorem dX2_knownBy_9 : decode cX2_knownBy 9 = .ok (.if_icmp .ge 24, 3) := by decide +kernel
theorem dX2_knownBy_12 : decode cX2_knownBy 12 = .ok (.aload_n 0, 1) := by decide +kernel
theorem dX2_knownBy_13 : decode cX2_knownBy 13 = .ok (.iload_n 3, 1) := by decide +kernel
theorem dX2_knownBy_14 : decode cX2_knownBy 14 = .ok (.iload_n 1, 1) := by decide +kernel
theorem dX2_knownBy_15 : decode cX2_knownBy 15 = .ok (.invokevirtual 69, 3) := by decide +kernel
theorem dX2_knownBy_18 : decode cX2_knownBy 18 = .ok (.ifCond .eq 9, 3) := by decide +kernel
theorem dX2_knownBy_21 : decode cX2_knownBy 21 = .ok (.iload_n 2, 1) := by decide +kernel
theorem dX2_knownBy_22 : decode cX2_knownBy 22 = .ok (.iconst 1, 1) := by decide +kernel
theorem dX2_knownBy_23 : decode cX2_knownBy 23 = .ok (.iload_n 3, 1) := by decide +kernel
theorem dX2_knownBy_24 : decode cX2_knownBy 24 = .ok (.ishl, 1) := by decide +kernel
theorem dX2_knownBy_25 : decode cX2_knownBy 25 = .ok (.ior, 1) := by decide +kernel
theorem dX2_knownBy_26 : decode cX2_knownBy 26 = .ok (.istore_n 2, 1) := by decide +kernel
theorem dX2_knownBy_27 : decode cX2_knownBy 27 = .ok (.iinc 3 1, 3) := by decide +kernel
theorem dX2_knownBy_30 : decode cX2_knownBy 30 = .ok (.goto (-26), 3) := by decide +kernel
theorem dX2_knownBy_33 : decode cX2_knownBy 33 = .ok (.iload_n 2, 1) := by decide +kernel
theorem dX2_knownBy_34 : decode cX2_knownBy 34 = .ok (.ireturn, 1) := by decide +kernel
theorem dX2_isGuiltKnown_0 : decode cX2_isGuiltKnown 0 = .ok (.iload_n 1, 1) := by decide +kernel
theorem dX2_isGuiltKnown_1 : decode cX2_isGuiltKnown 1 = .ok (.aload_n 0, 1) := by decide +kernel
theorem dX2_isGuiltKnown_2 : decode cX2_isGuiltKnown 2 = .ok (.getfield 33, 3) := by decide +kernel
theorem dX2_isGuiltKnown_5 : decode cX2_isGuiltKnown 5 = .ok (.iand, 1) := by decide +kernel
theorem dX2_isGuiltKnown_6 : decode cX2_isGuiltKnown 6 = .ok (.istore_n 2, 1) := by decide +kernel
theorem dX2_isGuiltKnown_7 : decode cX2_isGuiltKnown 7 = .ok (.iload_n 2, 1) := by decide +kernel
theorem dX2_isGuiltKnown_8 : decode cX2_isGuiltKnown 8 = .ok (.ifCond .eq 8, 3) := by decide +kernel
theorem dX2_isGuiltKnown_11 : decode cX2_isGuiltKnown 11 = .ok (.iload_n 2, 1) := by decide +kernel
theorem dX2_isGuiltKnown_12 : decode cX2_isGuiltKnown 12 = .ok (.iload_n 1, 1) := by decide +kernel
theorem dX2_isGuiltKnown_13 : decode cX2_isGuiltKnown 13 = .ok (.if_icmp .ne 7, 3) := by decide +kernel
theorem dX2_isGuiltKnown_16 : decode cX2_isGuiltKnown 16 = .ok (.iconst 1, 1) := by decide +kernel
theorem dX2_isGuiltKnown_17 : decode cX2_isGuiltKnown 17 = .ok (.goto 4, 3) := by decide +kernel
theorem dX2_isGuiltKnown_20 : decode cX2_isGuiltKnown 20 = .ok (.iconst 0, 1) := by decide +kernel
theorem dX2_isGuiltKnown_21 : decode cX2_isGuiltKnown 21 = .ok (.ireturn, 1) := by decide +kernel
theorem dX2_weightOf_0 : decode cX2_weightOf 0 = .ok (.iconst 0, 1) := by decide +kernel
theorem dX2_weightOf_1 : decode cX2_weightOf 1 = .ok (.istore_n 2, 1) := by decide +kernel
theorem dX2_weightOf_2 : decode cX2_weightOf 2 = .ok (.iconst 0, 1) := by decide +kernel
theorem dX2_weightOf_3 : decode cX2_weightOf 3 = .ok (.istore_n 3, 1) := by decide +kernel
theorem dX2_weightOf_4 : decode cX2_weightOf 4 = .ok (.iload_n 3, 1) := by decide +kernel
theorem dX2_weightOf_5 : decode cX2_weightOf 5 = .ok (.aload_n 0, 1) := by decide +kernel
theorem dX2_weightOf_6 : decode cX2_weightOf 6 = .ok (.getfield 37, 3) := by decide +kernel
theorem dX2_weightOf_9 : decode cX2_weightOf 9 = .ok (.if_icmp .ge 27, 3) := by decide +kernel
theorem dX2_weightOf_12 : decode cX2_weightOf 12 = .ok (.iload_n 1, 1) := by decide +kernel
theorem dX2_weightOf_13 : decode cX2_weightOf 13 = .ok (.iload_n 3, 1) := by decide +kernel
theorem dX2_weightOf_14 : decode cX2_weightOf 14 = .ok (.ishr, 1) := by decide +kernel
theorem dX2_weightOf_15 : decode cX2_weightOf 15 = .ok (.iconst 1, 1) := by decide +kernel
theorem dX2_weightOf_16 : decode cX2_weightOf 16 = .ok (.iand, 1) := by decide +kernel
theorem dX2_weightOf_17 : decode cX2_weightOf 17 = .ok (.iconst 1, 1) := by decide +kernel
theorem dX2_weightOf_18 : decode cX2_weightOf 18 = .ok (.if_icmp .ne 12, 3) := by decide +kernel
theorem dX2_weightOf_21 : decode cX2_weightOf 21 = .ok (.iload_n 2, 1) := by decide +kernel
theorem dX2_weightOf_22 : decode cX2_weightOf 22 = .ok (.aload_n 0, 1) := by decide +kernel
theorem dX2_weightOf_23 : decode cX2_weightOf 23 = .ok (.getfield 15, 3) := by decide +kernel
theorem dX2_weightOf_26 : decode cX2_weightOf 26 = .ok (.iload_n 3, 1) := by decide +kernel
theorem dX2_weightOf_27 : decode cX2_weightOf 27 = .ok (.iaload, 1) := by decide +kernel
theorem dX2_weightOf_28 : decode cX2_weightOf 28 = .ok (.iadd, 1) := by decide +kernel
theorem dX2_weightOf_29 : decode cX2_weightOf 29 = .ok (.istore_n 2, 1) := by decide +kernel
theorem dX2_weightOf_30 : decode cX2_weightOf 30 = .ok (.iinc 3 1, 3) := by decide +kernel
theorem dX2_weightOf_33 : decode cX2_weightOf 33 = .ok (.goto (-29), 3) := by decide +kernel
theorem dX2_weightOf_36 : decode cX2_weightOf 36 = .ok (.iload_n 2, 1) := by decide +kernel
theorem dX2_weightOf_37 : decode cX2_weightOf 37 = .ok (.ireturn, 1) := by decide +kernel
theorem dX2_amountOf_0 : decode cX2_amountOf 0 = .ok (.iload_n 1, 1) := by decide +kernel
theorem dX2_amountOf_1 : decode cX2_amountOf 1 = .ok (.tableswitch 62 0 2 #[27, 32, 56], 27) := by decide +kernel
theorem dX2_amountOf_28 : decode cX2_amountOf 28 = .ok (.iload_n 2, 1) := by decide +kernel
theorem dX2_amountOf_29 : decode cX2_amountOf 29 = .ok (.invokestatic 55, 3) := by decide +kernel
theorem dX2_amountOf_32 : decode cX2_amountOf 32 = .ok (.ireturn, 1) := by decide +kernel
theorem dX2_amountOf_33 : decode cX2_amountOf 33 = .ok (.iload_n 2, 1) := by decide +kernel
theorem dX2_amountOf_34 : decode cX2_amountOf 34 = .ok (.aload_n 0, 1) := by decide +kernel
theorem dX2_amountOf_35 : decode cX2_amountOf 35 = .ok (.getfield 33, 3) := by decide +kernel
theorem dX2_amountOf_38 : decode cX2_amountOf 38 = .ok (.iand, 1) := by decide +kernel
theorem dX2_amountOf_39 : decode cX2_amountOf 39 = .ok (.invokestatic 55, 3) := by decide +kernel
theorem dX2_amountOf_42 : decode cX2_amountOf 42 = .ok (.iload_n 2, 1) := by decide +kernel
theorem dX2_amountOf_43 : decode cX2_amountOf 43 = .ok (.aload_n 0, 1) := by decide +kernel
theorem dX2_amountOf_44 : decode cX2_amountOf 44 = .ok (.getfield 33, 3) := by decide +kernel
theorem dX2_amountOf_47 : decode cX2_amountOf 47 = .ok (.iconst (-1), 1) := by decide +kernel
theorem dX2_amountOf_48 : decode cX2_amountOf 48 = .ok (.ixor, 1) := by decide +kernel
theorem dX2_amountOf_49 : decode cX2_amountOf 49 = .ok (.iand, 1) := by decide +kernel
theorem dX2_amountOf_50 : decode cX2_amountOf 50 = .ok (.invokestatic 55, 3) := by decide +kernel
theorem dX2_amountOf_53 : decode cX2_amountOf 53 = .ok (.invokestatic 73, 3) := by decide +kernel
theorem dX2_amountOf_56 : decode cX2_amountOf 56 = .ok (.ireturn, 1) := by decide +kernel
theorem dX2_amountOf_57 : decode cX2_amountOf 57 = .ok (.aload_n 0, 1) := by decide +kernel
theorem dX2_amountOf_58 : decode cX2_amountOf 58 = .ok (.iload_n 2, 1) := by decide +kernel
theorem dX2_amountOf_59 : decode cX2_amountOf 59 = .ok (.invokevirtual 78, 3) := by decide +kernel
theorem dX2_amountOf_62 : decode cX2_amountOf 62 = .ok (.ireturn, 1) := by decide +kernel
theorem dX2_amountOf_63 : decode cX2_amountOf 63 = .ok (.aload_n 0, 1) := by decide +kernel
theorem dX2_amountOf_64 : decode cX2_amountOf 64 = .ok (.getfield 40, 3) := by decide +kernel
theorem dX2_amountOf_67 : decode cX2_amountOf 67 = .ok (.aload_n 0, 1) := by decide +kernel
theorem dX2_amountOf_68 : decode cX2_amountOf 68 = .ok (.iload_n 2, 1) := by decide +kernel
theorem dX2_amountOf_69 : decode cX2_amountOf 69 = .ok (.invokevirtual 81, 3) := by decide +kernel
theorem dX2_amountOf_72 : decode cX2_amountOf 72 = .ok (.invokestatic 55, 3) := by decide +kernel
theorem dX2_amountOf_75 : decode cX2_amountOf 75 = .ok (.isub, 1) := by decide +kernel
theorem dX2_amountOf_76 : decode cX2_amountOf 76 = .ok (.ireturn, 1) := by decide +kernel
theorem dX2_leastBy_0 : decode cX2_leastBy 0 = .ok (.iconst (-1), 1) := by decide +kernel
theorem dX2_leastBy_1 : decode cX2_leastBy 1 = .ok (.istore 4, 2) := by decide +kernel
theorem dX2_leastBy_3 : decode cX2_leastBy 3 = .ok (.iconst (-1), 1) := by decide +kernel
theorem dX2_leastBy_4 : decode cX2_leastBy 4 = .ok (.istore 5, 2) := by decide +kernel
theorem dX2_leastBy_6 : decode cX2_leastBy 6 = .ok (.iconst 0, 1) := by decide +kernel
theorem dX2_leastBy_7 : decode cX2_leastBy 7 = .ok (.istore 6, 2) := by decide +kernel
theorem dX2_leastBy_9 : decode cX2_leastBy 9 = .ok (.iload 6, 2) := by decide +kernel
theorem dX2_leastBy_11 : decode cX2_leastBy 11 = .ok (.aload_n 0, 1) := by decide +kernel
theorem dX2_leastBy_12 : decode cX2_leastBy 12 = .ok (.getfield 43, 3) := by decide +kernel
theorem dX2_leastBy_15 : decode cX2_leastBy 15 = .ok (.if_icmp .ge 40, 3) := by decide +kernel
theorem dX2_leastBy_18 : decode cX2_leastBy 18 = .ok (.aload_n 0, 1) := by decide +kernel
theorem dX2_leastBy_19 : decode cX2_leastBy 19 = .ok (.iload_n 1, 1) := by decide +kernel
theorem dX2_leastBy_20 : decode cX2_leastBy 20 = .ok (.aload_n 0, 1) := by decide +kernel
theorem dX2_leastBy_21 : decode cX2_leastBy 21 = .ok (.aload_n 2, 1) := by decide +kernel
theorem dX2_leastBy_22 : decode cX2_leastBy 22 = .ok (.iload 6, 2) := by decide +kernel
theorem dX2_leastBy_24 : decode cX2_leastBy 24 = .ok (.iaload, 1) := by decide +kernel
theorem dX2_leastBy_25 : decode cX2_leastBy 25 = .ok (.iload_n 3, 1) := by decide +kernel
theorem dX2_leastBy_26 : decode cX2_leastBy 26 = .ok (.invokevirtual 84, 3) := by decide +kernel
theorem dX2_leastBy_29 : decode cX2_leastBy 29 = .ok (.invokevirtual 87, 3) := by decide +kernel
theorem dX2_leastBy_32 : decode cX2_leastBy 32 = .ok (.istore 7, 2) := by decide +kernel
theorem dX2_leastBy_34 : decode cX2_leastBy 34 = .ok (.iload 7, 2) := by decide +kernel
theorem dX2_leastBy_36 : decode cX2_leastBy 36 = .ok (.iload 5, 2) := by decide +kernel
theorem dX2_leastBy_38 : decode cX2_leastBy 38 = .ok (.if_icmp .le 11, 3) := by decide +kernel
theorem dX2_leastBy_41 : decode cX2_leastBy 41 = .ok (.iload 6, 2) := by decide +kernel
theorem dX2_leastBy_43 : decode cX2_leastBy 43 = .ok (.istore 4, 2) := by decide +kernel
theorem dX2_leastBy_45 : decode cX2_leastBy 45 = .ok (.iload 7, 2) := by decide +kernel
theorem dX2_leastBy_47 : decode cX2_leastBy 47 = .ok (.istore 5, 2) := by decide +kernel
theorem dX2_leastBy_49 : decode cX2_leastBy 49 = .ok (.iinc 6 1, 3) := by decide +kernel
theorem dX2_leastBy_52 : decode cX2_leastBy 52 = .ok (.goto (-43), 3) := by decide +kernel
theorem dX2_leastBy_55 : decode cX2_leastBy 55 = .ok (.iload 4, 2) := by decide +kernel
theorem dX2_leastBy_57 : decode cX2_leastBy 57 = .ok (.ireturn, 1) := by decide +kernel
theorem dX2_isRight_0 : decode cX2_isRight 0 = .ok (.aload_n 0, 1) := by decide +kernel
theorem dX2_isRight_1 : decode cX2_isRight 1 = .ok (.iload_n 1, 1) := by decide +kernel
theorem dX2_isRight_2 : decode cX2_isRight 2 = .ok (.iload_n 2, 1) := by decide +kernel
theorem dX2_isRight_3 : decode cX2_isRight 3 = .ok (.invokevirtual 84, 3) := by decide +kernel
theorem dX2_isRight_6 : decode cX2_isRight 6 = .ok (.istore_n 3, 1) := by decide +kernel
theorem dX2_isRight_7 : decode cX2_isRight 7 = .ok (.aload_n 0, 1) := by decide +kernel
theorem dX2_isRight_8 : decode cX2_isRight 8 = .ok (.getfield 33, 3) := by decide +kernel
theorem dX2_isRight_11 : decode cX2_isRight 11 = .ok (.iload_n 2, 1) := by decide +kernel
theorem dX2_isRight_12 : decode cX2_isRight 12 = .ok (.ishr, 1) := by decide +kernel
theorem dX2_isRight_13 : decode cX2_isRight 13 = .ok (.iconst 1, 1) := by decide +kernel
theorem dX2_isRight_14 : decode cX2_isRight 14 = .ok (.iand, 1) := by decide +kernel
theorem dX2_isRight_15 : decode cX2_isRight 15 = .ok (.iconst 1, 1) := by decide +kernel
theorem dX2_isRight_16 : decode cX2_isRight 16 = .ok (.if_icmp .ne 12, 3) := by decide +kernel
theorem dX2_isRight_19 : decode cX2_isRight 19 = .ok (.iload_n 3, 1) := by decide +kernel
theorem dX2_isRight_20 : decode cX2_isRight 20 = .ok (.aload_n 0, 1) := by decide +kernel
theorem dX2_isRight_21 : decode cX2_isRight 21 = .ok (.getfield 33, 3) := by decide +kernel
theorem dX2_isRight_24 : decode cX2_isRight 24 = .ok (.iand, 1) := by decide +kernel
theorem dX2_isRight_25 : decode cX2_isRight 25 = .ok (.goto 11, 3) := by decide +kernel
theorem dX2_isRight_28 : decode cX2_isRight 28 = .ok (.iload_n 3, 1) := by decide +kernel
theorem dX2_isRight_29 : decode cX2_isRight 29 = .ok (.aload_n 0, 1) := by decide +kernel
theorem dX2_isRight_30 : decode cX2_isRight 30 = .ok (.getfield 33, 3) := by decide +kernel
theorem dX2_isRight_33 : decode cX2_isRight 33 = .ok (.iconst (-1), 1) := by decide +kernel
theorem dX2_isRight_34 : decode cX2_isRight 34 = .ok (.ixor, 1) := by decide +kernel
theorem dX2_isRight_35 : decode cX2_isRight 35 = .ok (.iand, 1) := by decide +kernel
theorem dX2_isRight_36 : decode cX2_isRight 36 = .ok (.istore 4, 2) := by decide +kernel
theorem dX2_isRight_38 : decode cX2_isRight 38 = .ok (.aload_n 0, 1) := by decide +kernel
theorem dX2_isRight_39 : decode cX2_isRight 39 = .ok (.iload 4, 2) := by decide +kernel
theorem dX2_isRight_41 : decode cX2_isRight 41 = .ok (.invokevirtual 78, 3) := by decide +kernel
theorem dX2_isRight_44 : decode cX2_isRight 44 = .ok (.aload_n 0, 1) := by decide +kernel
theorem dX2_isRight_45 : decode cX2_isRight 45 = .ok (.iload_n 3, 1) := by decide +kernel
theorem dX2_isRight_46 : decode cX2_isRight 46 = .ok (.iload 4, 2) := by decide +kernel
theorem dX2_isRight_48 : decode cX2_isRight 48 = .ok (.iconst (-1), 1) := by decide +kernel
theorem dX2_isRight_49 : decode cX2_isRight 49 = .ok (.ixor, 1) := by decide +kernel
theorem dX2_isRight_50 : decode cX2_isRight 50 = .ok (.iand, 1) := by decide +kernel
theorem dX2_isRight_51 : decode cX2_isRight 51 = .ok (.invokevirtual 78, 3) := by decide +kernel
theorem dX2_isRight_54 : decode cX2_isRight 54 = .ok (.if_icmp .le 7, 3) := by decide +kernel
theorem dX2_isRight_57 : decode cX2_isRight 57 = .ok (.iconst 1, 1) := by decide +kernel
theorem dX2_isRight_58 : decode cX2_isRight 58 = .ok (.goto 4, 3) := by decide +kernel
theorem dX2_isRight_61 : decode cX2_isRight 61 = .ok (.iconst 0, 1) := by decide +kernel
theorem dX2_isRight_62 : decode cX2_isRight 62 = .ok (.ireturn, 1) := by decide +kernel
theorem dX2_stepFrom_0 : decode cX2_stepFrom 0 = .ok (.iload_n 1, 1) := by decide +kernel
theorem dX2_stepFrom_1 : decode cX2_stepFrom 1 = .ok (.istore_n 3, 1) := by decide +kernel
theorem dX2_stepFrom_2 : decode cX2_stepFrom 2 = .ok (.iconst 0, 1) := by decide +kernel
theorem dX2_stepFrom_3 : decode cX2_stepFrom 3 = .ok (.istore 4, 2) := by decide +kernel
theorem dX2_stepFrom_5 : decode cX2_stepFrom 5 = .ok (.iload 4, 2) := by decide +kernel
theorem dX2_stepFrom_7 : decode cX2_stepFrom 7 = .ok (.aload_n 0, 1) := by decide +kernel
theorem dX2_stepFrom_8 : decode cX2_stepFrom 8 = .ok (.getfield 43, 3) := by decide +kernel
theorem dX2_stepFrom_11 : decode cX2_stepFrom 11 = .ok (.if_icmp .ge 50, 3) := by decide +kernel
theorem dX2_stepFrom_14 : decode cX2_stepFrom 14 = .ok (.iconst 0, 1) := by decide +kernel
theorem dX2_stepFrom_15 : decode cX2_stepFrom 15 = .ok (.istore 5, 2) := by decide +kernel
theorem dX2_stepFrom_17 : decode cX2_stepFrom 17 = .ok (.iload 5, 2) := by decide +kernel
theorem dX2_stepFrom_19 : decode cX2_stepFrom 19 = .ok (.aload_n 0, 1) := by decide +kernel
theorem dX2_stepFrom_20 : decode cX2_stepFrom 20 = .ok (.getfield 37, 3) := by decide +kernel
theorem dX2_stepFrom_23 : decode cX2_stepFrom 23 = .ok (.if_icmp .ge 32, 3) := by decide +kernel
theorem dX2_stepFrom_26 : decode cX2_stepFrom 26 = .ok (.iload_n 1, 1) := by decide +kernel
theorem dX2_stepFrom_27 : decode cX2_stepFrom 27 = .ok (.iload 5, 2) := by decide +kernel
theorem dX2_stepFrom_29 : decode cX2_stepFrom 29 = .ok (.ishr, 1) := by decide +kernel
theorem dX2_stepFrom_30 : decode cX2_stepFrom 30 = .ok (.iconst 1, 1) := by decide +kernel
theorem dX2_stepFrom_31 : decode cX2_stepFrom 31 = .ok (.iand, 1) := by decide +kernel
theorem dX2_stepFrom_32 : decode cX2_stepFrom 32 = .ok (.iconst 1, 1) := by decide +kernel
theorem dX2_stepFrom_33 : decode cX2_stepFrom 33 = .ok (.if_icmp .ne 16, 3) := by decide +kernel
theorem dX2_stepFrom_36 : decode cX2_stepFrom 36 = .ok (.iload_n 3, 1) := by decide +kernel
theorem dX2_stepFrom_37 : decode cX2_stepFrom 37 = .ok (.aload_n 0, 1) := by decide +kernel
theorem dX2_stepFrom_38 : decode cX2_stepFrom 38 = .ok (.aload_n 2, 1) := by decide +kernel
theorem dX2_stepFrom_39 : decode cX2_stepFrom 39 = .ok (.iload 4, 2) := by decide +kernel
theorem dX2_stepFrom_41 : decode cX2_stepFrom 41 = .ok (.iaload, 1) := by decide +kernel
theorem dX2_stepFrom_42 : decode cX2_stepFrom 42 = .ok (.iload 5, 2) := by decide +kernel
theorem dX2_stepFrom_44 : decode cX2_stepFrom 44 = .ok (.invokevirtual 84, 3) := by decide +kernel
theorem dX2_stepFrom_47 : decode cX2_stepFrom 47 = .ok (.ior, 1) := by decide +kernel
theorem dX2_stepFrom_48 : decode cX2_stepFrom 48 = .ok (.istore_n 3, 1) := by decide +kernel
theorem dX2_stepFrom_49 : decode cX2_stepFrom 49 = .ok (.iinc 5 1, 3) := by decide +kernel
theorem dX2_stepFrom_52 : decode cX2_stepFrom 52 = .ok (.goto (-35), 3) := by decide +kernel
theorem dX2_stepFrom_55 : decode cX2_stepFrom 55 = .ok (.iinc 4 1, 3) := by decide +kernel
theorem dX2_stepFrom_58 : decode cX2_stepFrom 58 = .ok (.goto (-53), 3) := by decide +kernel
theorem dX2_stepFrom_61 : decode cX2_stepFrom 61 = .ok (.iload_n 3, 1) := by decide +kernel
theorem dX2_stepFrom_62 : decode cX2_stepFrom 62 = .ok (.ireturn, 1) := by decide +kernel
theorem dX2_isDeed_0 : decode cX2_isDeed 0 = .ok (.lload_n 1, 1) := by decide +kernel
theorem dX2_isDeed_1 : decode cX2_isDeed 1 = .ok (.ldc2_w 90, 3) := by decide +kernel
theorem dX2_isDeed_4 : decode cX2_isDeed 4 = .ok (.lcmp, 1) := by decide +kernel
theorem dX2_isDeed_5 : decode cX2_isDeed 5 = .ok (.ifCond .ne 5, 3) := by decide +kernel
theorem dX2_isDeed_8 : decode cX2_isDeed 8 = .ok (.iconst 1, 1) := by decide +kernel
theorem dX2_isDeed_9 : decode cX2_isDeed 9 = .ok (.ireturn, 1) := by decide +kernel
theorem dX2_isDeed_10 : decode cX2_isDeed 10 = .ok (.lload_n 1, 1) := by decide +kernel
theorem dX2_isDeed_11 : decode cX2_isDeed 11 = .ok (.lconst 0, 1) := by decide +kernel
theorem dX2_isDeed_12 : decode cX2_isDeed 12 = .ok (.lcmp, 1) := by decide +kernel
theorem dX2_isDeed_13 : decode cX2_isDeed 13 = .ok (.ifCond .lt 47, 3) := by decide +kernel
theorem dX2_isDeed_16 : decode cX2_isDeed 16 = .ok (.lload_n 1, 1) := by decide +kernel
theorem dX2_isDeed_17 : decode cX2_isDeed 17 = .ok (.ldc2_w 92, 3) := by decide +kernel
theorem dX2_isDeed_20 : decode cX2_isDeed 20 = .ok (.lcmp, 1) := by decide +kernel
theorem dX2_isDeed_21 : decode cX2_isDeed 21 = .ok (.ifCond .ge 39, 3) := by decide +kernel
theorem dX2_isDeed_24 : decode cX2_isDeed 24 = .ok (.lload_n 1, 1) := by decide +kernel
theorem dX2_isDeed_25 : decode cX2_isDeed 25 = .ok (.ldc2_w 94, 3) := by decide +kernel
theorem dX2_isDeed_28 : decode cX2_isDeed 28 = .ok (.lrem, 1) := by decide +kernel
theorem dX2_isDeed_29 : decode cX2_isDeed 29 = .ok (.ldc2_w 96, 3) := by decide +kernel
theorem dX2_isDeed_32 : decode cX2_isDeed 32 = .ok (.ldiv, 1) := by decide +kernel
theorem dX2_isDeed_33 : decode cX2_isDeed 33 = .ok (.aload_n 0, 1) := by decide +kernel
theorem dX2_isDeed_34 : decode cX2_isDeed 34 = .ok (.getfield 43, 3) := by decide +kernel
theorem dX2_isDeed_37 : decode cX2_isDeed 37 = .ok (.i2l, 1) := by decide +kernel
theorem dX2_isDeed_38 : decode cX2_isDeed 38 = .ok (.lcmp, 1) := by decide +kernel
theorem dX2_isDeed_39 : decode cX2_isDeed 39 = .ok (.ifCond .ge 21, 3) := by decide +kernel
theorem dX2_isDeed_42 : decode cX2_isDeed 42 = .ok (.lload_n 1, 1) := by decide +kernel
theorem dX2_isDeed_43 : decode cX2_isDeed 43 = .ok (.ldc2_w 96, 3) := by decide +kernel
theorem dX2_isDeed_46 : decode cX2_isDeed 46 = .ok (.lrem, 1) := by decide +kernel
theorem dX2_isDeed_47 : decode cX2_isDeed 47 = .ok (.aload_n 0, 1) := by decide +kernel
theorem dX2_isDeed_48 : decode cX2_isDeed 48 = .ok (.getfield 40, 3) := by decide +kernel
theorem dX2_isDeed_51 : decode cX2_isDeed 51 = .ok (.i2l, 1) := by decide +kernel
theorem dX2_isDeed_52 : decode cX2_isDeed 52 = .ok (.lcmp, 1) := by decide +kernel
theorem dX2_isDeed_53 : decode cX2_isDeed 53 = .ok (.ifCond .ge 7, 3) := by decide +kernel
theorem dX2_isDeed_56 : decode cX2_isDeed 56 = .ok (.iconst 1, 1) := by decide +kernel
theorem dX2_isDeed_57 : decode cX2_isDeed 57 = .ok (.goto 4, 3) := by decide +kernel
theorem dX2_isDeed_60 : decode cX2_isDeed 60 = .ok (.iconst 0, 1) := by decide +kernel
theorem dX2_isDeed_61 : decode cX2_isDeed 61 = .ok (.ireturn, 1) := by decide +kernel
theorem dX2_deedsAhead_0 : decode cX2_deedsAhead 0 = .ok (.iconst 0, 1) := by decide +kernel
theorem dX2_deedsAhead_1 : decode cX2_deedsAhead 1 = .ok (.istore_n 2, 1) := by decide +kernel
theorem dX2_deedsAhead_2 : decode cX2_deedsAhead 2 = .ok (.iload_n 2, 1) := by decide +kernel
theorem dX2_deedsAhead_3 : decode cX2_deedsAhead 3 = .ok (.aload_n 1, 1) := by decide +kernel
theorem dX2_deedsAhead_4 : decode cX2_deedsAhead 4 = .ok (.getfield 98, 3) := by decide +kernel
theorem dX2_deedsAhead_7 : decode cX2_deedsAhead 7 = .ok (.if_icmp .ge 22, 3) := by decide +kernel
theorem dX2_deedsAhead_10 : decode cX2_deedsAhead 10 = .ok (.aload_n 0, 1) := by decide +kernel
theorem dX2_deedsAhead_11 : decode cX2_deedsAhead 11 = .ok (.aload_n 1, 1) := by decide +kernel
theorem dX2_deedsAhead_12 : decode cX2_deedsAhead 12 = .ok (.getfield 103, 3) := by decide +kernel
theorem dX2_deedsAhead_15 : decode cX2_deedsAhead 15 = .ok (.iload_n 2, 1) := by decide +kernel
theorem dX2_deedsAhead_16 : decode cX2_deedsAhead 16 = .ok (.laload, 1) := by decide +kernel
theorem dX2_deedsAhead_17 : decode cX2_deedsAhead 17 = .ok (.invokevirtual 106, 3) := by decide +kernel
theorem dX2_deedsAhead_20 : decode cX2_deedsAhead 20 = .ok (.ifCond .eq 9, 3) := by decide +kernel
theorem dX2_deedsAhead_23 : decode cX2_deedsAhead 23 = .ok (.iinc 2 1, 3) := by decide +kernel
theorem dX2_deedsAhead_26 : decode cX2_deedsAhead 26 = .ok (.goto (-24), 3) := by decide +kernel
theorem dX2_deedsAhead_29 : decode cX2_deedsAhead 29 = .ok (.iload_n 2, 1) := by decide +kernel
theorem dX2_deedsAhead_30 : decode cX2_deedsAhead 30 = .ok (.ireturn, 1) := by decide +kernel
theorem dX3_init_0 : decode cX3_init 0 = .ok (.aload_n 0, 1) := by decide +kernel
theorem dX3_init_1 : decode cX3_init 1 = .ok (.invokespecial 3, 3) := by decide +kernel
theorem dX3_init_4 : decode cX3_init 4 = .ok (.aload_n 0, 1) := by decide +kernel
theorem dX3_init_5 : decode cX3_init 5 = .ok (.sipush 256, 3) := by decide +kernel
theorem dX3_init_8 : decode cX3_init 8 = .ok (.newarray .int, 2) := by decide +kernel
theorem dX3_init_10 : decode cX3_init 10 = .ok (.putfield 9, 3) := by decide +kernel
theorem dX3_init_13 : decode cX3_init 13 = .ok (.aload_n 0, 1) := by decide +kernel
theorem dX3_init_14 : decode cX3_init 14 = .ok (.sipush 2401, 3) := by decide +kernel
theorem dX3_init_17 : decode cX3_init 17 = .ok (.newarray .int, 2) := by decide +kernel
theorem dX3_init_19 : decode cX3_init 19 = .ok (.putfield 15, 3) := by decide +kernel
theorem dX3_init_22 : decode cX3_init 22 = .ok (.aload_n 0, 1) := by decide +kernel
theorem dX3_init_23 : decode cX3_init 23 = .ok (.bipush 6, 2) := by decide +kernel
theorem dX3_init_25 : decode cX3_init 25 = .ok (.newarray .int, 2) := by decide +kernel
theorem dX3_init_27 : decode cX3_init 27 = .ok (.putfield 18, 3) := by decide +kernel
theorem dX3_init_30 : decode cX3_init 30 = .ok (.aload_n 0, 1) := by decide +kernel
theorem dX3_init_31 : decode cX3_init 31 = .ok (.bipush 49, 2) := by decide +kernel
theorem dX3_init_33 : decode cX3_init 33 = .ok (.newarray .boolean, 2) := by decide +kernel
theorem dX3_init_35 : decode cX3_init 35 = .ok (.putfield 21, 3) := by decide +kernel
theorem dX3_init_38 : decode cX3_init 38 = .ok (.return_, 1) := by decide +kernel
theorem dX3_judgeAll_0 : decode cX3_judgeAll 0 = .ok (.aload_n 0, 1) := by decide +kernel
theorem dX3_judgeAll_1 : decode cX3_judgeAll 1 = .ok (.aload_n 1, 1) := by decide +kernel
theorem dX3_judgeAll_2 : decode cX3_judgeAll 2 = .ok (.getfield 25, 3) := by decide +kernel
theorem dX3_judgeAll_5 : decode cX3_judgeAll 5 = .ok (.putfield 31, 3) := by decide +kernel
theorem dX3_judgeAll_8 : decode cX3_judgeAll 8 = .ok (.aload_n 0, 1) := by decide +kernel
theorem dX3_judgeAll_9 : decode cX3_judgeAll 9 = .ok (.iconst 1, 1) := by decide +kernel
theorem dX3_judgeAll_10 : decode cX3_judgeAll 10 = .ok (.aload_n 1, 1) := by decide +kernel
theorem dX3_judgeAll_11 : decode cX3_judgeAll 11 = .ok (.getfield 32, 3) := by decide +kernel
theorem dX3_judgeAll_14 : decode cX3_judgeAll 14 = .ok (.aload_n 1, 1) := by decide +kernel
theorem dX3_judgeAll_15 : decode cX3_judgeAll 15 = .ok (.getfield 25, 3) := by decide +kernel
theorem dX3_judgeAll_18 : decode cX3_judgeAll 18 = .ok (.imul, 1) := by decide +kernel
theorem dX3_judgeAll_19 : decode cX3_judgeAll 19 = .ok (.iadd, 1) := by decide +kernel
theorem dX3_judgeAll_20 : decode cX3_judgeAll 20 = .ok (.putfield 35, 3) := by decide +kernel
theorem dX3_judgeAll_23 : decode cX3_judgeAll 23 = .ok (.iconst 0, 1) := by decide +kernel
theorem dX3_judgeAll_24 : decode cX3_judgeAll 24 = .ok (.istore 4, 2) := by decide +kernel
theorem dX3_judgeAll_26 : decode cX3_judgeAll 26 = .ok (.iload 4, 2) := by decide +kernel
theorem dX3_judgeAll_28 : decode cX3_judgeAll 28 = .ok (.iconst 1, 1) := by decide +kernel
theorem dX3_judgeAll_29 : decode cX3_judgeAll 29 = .ok (.aload_n 1, 1) := by decide +kernel
theorem dX3_judgeAll_30 : decode cX3_judgeAll 30 = .ok (.getfield 25, 3) := by decide +kernel
theorem dX3_judgeAll_33 : decode cX3_judgeAll 33 = .ok (.ishl, 1) := by decide +kernel
theorem dX3_judgeAll_34 : decode cX3_judgeAll 34 = .ok (.if_icmp .ge 31, 3) := by decide +kernel
theorem dX3_judgeAll_37 : decode cX3_judgeAll 37 = .ok (.aload_n 0, 1) := by decide +kernel
theorem dX3_judgeAll_38 : decode cX3_judgeAll 38 = .ok (.getfield 9, 3) := by decide +kernel
theorem dX3_judgeAll_41 : decode cX3_judgeAll 41 = .ok (.iload 4, 2) := by decide +kernel
theorem dX3_judgeAll_43 : decode cX3_judgeAll 43 = .ok (.aload_n 1, 1) := by decide +kernel
theorem dX3_judgeAll_44 : decode cX3_judgeAll 44 = .ok (.iload_n 3, 1) := by decide +kernel
theorem dX3_judgeAll_45 : decode cX3_judgeAll 45 = .ok (.aload_n 1, 1) := by decide +kernel
theorem dX3_judgeAll_46 : decode cX3_judgeAll 46 = .ok (.iload 4, 2) := by decide +kernel
theorem dX3_judgeAll_48 : decode cX3_judgeAll 48 = .ok (.aload_n 2, 1) := by decide +kernel
theorem dX3_judgeAll_49 : decode cX3_judgeAll 49 = .ok (.getfield 38, 3) := by decide +kernel
theorem dX3_judgeAll_52 : decode cX3_judgeAll 52 = .ok (.invokevirtual 43, 3) := by decide +kernel
theorem dX3_judgeAll_55 : decode cX3_judgeAll 55 = .ok (.invokevirtual 47, 3) := by decide +kernel
theorem dX3_judgeAll_58 : decode cX3_judgeAll 58 = .ok (.iastore, 1) := by decide +kernel
theorem dX3_judgeAll_59 : decode cX3_judgeAll 59 = .ok (.iinc 4 1, 3) := by decide +kernel
theorem dX3_judgeAll_62 : decode cX3_judgeAll 62 = .ok (.goto (-36), 3) := by decide +kernel
theorem dX3_judgeAll_65 : decode cX3_judgeAll 65 = .ok (.aload_n 2, 1) := by decide +kernel
theorem dX3_judgeAll_66 : decode cX3_judgeAll 66 = .ok (.getfield 50, 3) := by decide +kernel
theorem dX3_judgeAll_69 : decode cX3_judgeAll 69 = .ok (.iconst 0, 1) := by decide +kernel
theorem dX3_judgeAll_70 : decode cX3_judgeAll 70 = .ok (.aload_n 0, 1) := by decide +kernel
theorem dX3_judgeAll_71 : decode cX3_judgeAll 71 = .ok (.getfield 18, 3) := by decide +kernel
theorem dX3_judgeAll_74 : decode cX3_judgeAll 74 = .ok (.iconst 0, 1) := by decide +kernel
theorem dX3_judgeAll_75 : decode cX3_judgeAll 75 = .ok (.bipush 6, 2) := by decide +kernel
theorem dX3_judgeAll_77 : decode cX3_judgeAll 77 = .ok (.invokestatic 51, 3) := by decide +kernel
theorem dX3_judgeAll_80 : decode cX3_judgeAll 80 = .ok (.iconst 0, 1) := by decide +kernel
theorem dX3_judgeAll_81 : decode cX3_judgeAll 81 = .ok (.istore 4, 2) := by decide +kernel
theorem dX3_judgeAll_83 : decode cX3_judgeAll 83 = .ok (.iload 4, 2) := by decide +kernel
theorem dX3_judgeAll_85 : decode cX3_judgeAll 85 = .ok (.aload_n 0, 1) := by decide +kernel
theorem dX3_judgeAll_86 : decode cX3_judgeAll 86 = .ok (.getfield 35, 3) := by decide +kernel
theorem dX3_judgeAll_89 : decode cX3_judgeAll 89 = .ok (.if_icmp .ge 104, 3) := by decide +kernel
theorem dX3_judgeAll_92 : decode cX3_judgeAll 92 = .ok (.aload_n 0, 1) := by decide +kernel
theorem dX3_judgeAll_93 : decode cX3_judgeAll 93 = .ok (.iload 4, 2) := by decide +kernel
theorem dX3_judgeAll_95 : decode cX3_judgeAll 95 = .ok (.invokevirtual 57, 3) := by decide +kernel
theorem dX3_judgeAll_98 : decode cX3_judgeAll 98 = .ok (.istore 5, 2) := by decide +kernel
theorem dX3_judgeAll_100 : decode cX3_judgeAll 100 = .ok (.iload 4, 2) := by decide +kernel
theorem dX3_judgeAll_102 : decode cX3_judgeAll 102 = .ok (.istore 6, 2) := by decide +kernel
theorem dX3_judgeAll_104 : decode cX3_judgeAll 104 = .ok (.iload 6, 2) := by decide +kernel
theorem dX3_judgeAll_106 : decode cX3_judgeAll 106 = .ok (.aload_n 0, 1) := by decide +kernel
theorem dX3_judgeAll_107 : decode cX3_judgeAll 107 = .ok (.getfield 35, 3) := by decide +kernel
theorem dX3_judgeAll_110 : decode cX3_judgeAll 110 = .ok (.if_icmp .ge 69, 3) := by decide +kernel
theorem dX3_judgeAll_113 : decode cX3_judgeAll 113 = .ok (.aload_n 0, 1) := by decide +kernel
theorem dX3_judgeAll_114 : decode cX3_judgeAll 114 = .ok (.iload 6, 2) := by decide +kernel
theorem dX3_judgeAll_116 : decode cX3_judgeAll 116 = .ok (.invokevirtual 57, 3) := by decide +kernel
theorem dX3_judgeAll_119 : decode cX3_judgeAll 119 = .ok (.istore 7, 2) := by decide +kernel
theorem dX3_judgeAll_121 : decode cX3_judgeAll 121 = .ok (.aload_n 0, 1) := by decide +kernel
theorem dX3_judgeAll_122 : decode cX3_judgeAll 122 = .ok (.aload_n 1, 1) := by decide +kernel
theorem dX3_judgeAll_123 : decode cX3_judgeAll 123 = .ok (.getfield 32, 3) := by decide +kernel
theorem dX3_judgeAll_126 : decode cX3_judgeAll 126 = .ok (.invokevirtual 61, 3) := by decide +kernel
theorem dX3_judgeAll_129 : decode cX3_judgeAll 129 = .ok (.istore 8, 2) := by decide +kernel
theorem dX3_judgeAll_131 : decode cX3_judgeAll 131 = .ok (.aload_n 0, 1) := by decide +kernel
theorem dX3_judgeAll_132 : decode cX3_judgeAll 132 = .ok (.getfield 15, 3) := by decide +kernel
theorem dX3_judgeAll_135 : decode cX3_judgeAll 135 = .ok (.iload 4, 2) := by decide +kernel
theorem dX3_judgeAll_137 : decode cX3_judgeAll 137 = .ok (.aload_n 0, 1) := by decide +kernel
theorem dX3_judgeAll_138 : decode cX3_judgeAll 138 = .ok (.getfield 35, 3) := by decide +kernel
theorem dX3_judgeAll_141 : decode cX3_judgeAll 141 = .ok (.imul, 1) := by decide +kernel
theorem dX3_judgeAll_142 : decode cX3_judgeAll 142 = .ok (.iload 6, 2) := by decide +kernel
theorem dX3_judgeAll_144 : decode cX3_judgeAll 144 = .ok (.iadd, 1) := by decide +kernel
theorem dX3_judgeAll_145 : decode cX3_judgeAll 145 = .ok (.iload 8, 2) := by decide +kernel
theorem dX3_judgeAll_147 : decode cX3_judgeAll 147 = .ok (.iastore, 1) := by decide +kernel
theorem dX3_judgeAll_148 : decode cX3_judgeAll 148 = .ok (.aload_n 0, 1) := by decide +kernel
theorem dX3_judgeAll_149 : decode cX3_judgeAll 149 = .ok (.getfield 15, 3) := by decide +kernel
theorem dX3_judgeAll_152 : decode cX3_judgeAll 152 = .ok (.iload 6, 2) := by decide +kernel
theorem dX3_judgeAll_154 : decode cX3_judgeAll 154 = .ok (.aload_n 0, 1) := by decide +kernel
theorem dX3_judgeAll_155 : decode cX3_judgeAll 155 = .ok (.getfield 35, 3) := by decide +kernel
theorem dX3_judgeAll_158 : decode cX3_judgeAll 158 = .ok (.imul, 1) := by decide +kernel
theorem dX3_judgeAll_159 : decode cX3_judgeAll 159 = .ok (.iload 4, 2) := by decide +kernel
theorem dX3_judgeAll_161 : decode cX3_judgeAll 161 = .ok (.iadd, 1) := by decide +kernel
theorem dX3_judgeAll_162 : decode cX3_judgeAll 162 = .ok (.iload 8, 2) := by decide +kernel
theorem dX3_judgeAll_164 : decode cX3_judgeAll 164 = .ok (.iastore, 1) := by decide +kernel
theorem dX3_judgeAll_165 : decode cX3_judgeAll 165 = .ok (.aload_n 0, 1) := by decide +kernel
theorem dX3_judgeAll_166 : decode cX3_judgeAll 166 = .ok (.iload 6, 2) := by decide +kernel
theorem dX3_judgeAll_168 : decode cX3_judgeAll 168 = .ok (.iload 7, 2) := by decide +kernel
theorem dX3_judgeAll_170 : decode cX3_judgeAll 170 = .ok (.invokevirtual 64, 3) := by decide +kernel
theorem dX3_judgeAll_173 : decode cX3_judgeAll 173 = .ok (.iinc 6 1, 3) := by decide +kernel
theorem dX3_judgeAll_176 : decode cX3_judgeAll 176 = .ok (.goto (-72), 3) := by decide +kernel
theorem dX3_judgeAll_179 : decode cX3_judgeAll 179 = .ok (.aload_n 0, 1) := by decide +kernel
theorem dX3_judgeAll_180 : decode cX3_judgeAll 180 = .ok (.iload 4, 2) := by decide +kernel
theorem dX3_judgeAll_182 : decode cX3_judgeAll 182 = .ok (.iload 5, 2) := by decide +kernel
theorem dX3_judgeAll_184 : decode cX3_judgeAll 184 = .ok (.invokevirtual 64, 3) := by decide +kernel
theorem dX3_judgeAll_187 : decode cX3_judgeAll 187 = .ok (.iinc 4 1, 3) := by decide +kernel
theorem dX3_judgeAll_190 : decode cX3_judgeAll 190 = .ok (.goto (-107), 3) := by decide +kernel
theorem dX3_judgeAll_193 : decode cX3_judgeAll 193 = .ok (.return_, 1) := by decide +kernel
theorem dX3_choose_0 : decode cX3_choose 0 = .ok (.iload_n 1, 1) := by decide +kernel
theorem dX3_choose_1 : decode cX3_choose 1 = .ok (.ifCond .le 10, 3) := by decide +kernel
theorem dX3_choose_4 : decode cX3_choose 4 = .ok (.aload_n 0, 1) := by decide +kernel
theorem dX3_choose_5 : decode cX3_choose 5 = .ok (.getfield 31, 3) := by decide +kernel
theorem dX3_choose_8 : decode cX3_choose 8 = .ok (.ifCond .gt 5, 3) := by decide +kernel
theorem dX3_choose_11 : decode cX3_choose 11 = .ok (.iconst 0, 1) := by decide +kernel
theorem dX3_choose_12 : decode cX3_choose 12 = .ok (.ireturn, 1) := by decide +kernel
theorem dX3_choose_13 : decode cX3_choose 13 = .ok (.iload_n 1, 1) := by decide +kernel
theorem dX3_choose_14 : decode cX3_choose 14 = .ok (.iconst 1, 1) := by decide +kernel
theorem dX3_choose_15 : decode cX3_choose 15 = .ok (.isub, 1) := by decide +kernel
theorem dX3_choose_16 : decode cX3_choose 16 = .ok (.aload_n 0, 1) := by decide +kernel
theorem dX3_choose_17 : decode cX3_choose 17 = .ok (.getfield 31, 3) := by decide +kernel
theorem dX3_choose_20 : decode cX3_choose 20 = .ok (.idiv, 1) := by decide +kernel
theorem dX3_choose_21 : decode cX3_choose 21 = .ok (.istore_n 2, 1) := by decide +kernel
theorem dX3_choose_22 : decode cX3_choose 22 = .ok (.aload_n 0, 1) := by decide +kernel
theorem dX3_choose_23 : decode cX3_choose 23 = .ok (.getfield 18, 3) := by decide +kernel
theorem dX3_choose_26 : decode cX3_choose 26 = .ok (.iload_n 2, 1) := by decide +kernel
theorem dX3_choose_27 : decode cX3_choose 27 = .ok (.iaload, 1) := by decide +kernel
theorem dX3_choose_28 : decode cX3_choose 28 = .ok (.istore_n 3, 1) := by decide +kernel
theorem dX3_choose_29 : decode cX3_choose 29 = .ok (.aload_n 0, 1) := by decide +kernel
theorem dX3_choose_30 : decode cX3_choose 30 = .ok (.getfield 18, 3) := by decide +kernel
theorem dX3_choose_33 : decode cX3_choose 33 = .ok (.iload_n 2, 1) := by decide +kernel
theorem dX3_choose_34 : decode cX3_choose 34 = .ok (.dup2, 1) := by decide +kernel
theorem dX3_choose_35 : decode cX3_choose 35 = .ok (.iaload, 1) := by decide +kernel
theorem dX3_choose_36 : decode cX3_choose 36 = .ok (.iconst 1, 1) := by decide +kernel
theorem dX3_choose_37 : decode cX3_choose 37 = .ok (.iload_n 1, 1) := by decide +kernel
theorem dX3_choose_38 : decode cX3_choose 38 = .ok (.iconst 1, 1) := by decide +kernel
theorem dX3_choose_39 : decode cX3_choose 39 = .ok (.isub, 1) := by decide +kernel
theorem dX3_choose_40 : decode cX3_choose 40 = .ok (.aload_n 0, 1) := by decide +kernel
theorem dX3_choose_41 : decode cX3_choose 41 = .ok (.getfield 31, 3) := by decide +kernel
theorem dX3_choose_44 : decode cX3_choose 44 = .ok (.irem, 1) := by decide +kernel
theorem dX3_choose_45 : decode cX3_choose 45 = .ok (.ishl, 1) := by decide +kernel
theorem dX3_choose_46 : decode cX3_choose 46 = .ok (.ior, 1) := by decide +kernel
theorem dX3_choose_47 : decode cX3_choose 47 = .ok (.iastore, 1) := by decide +kernel
theorem dX3_choose_48 : decode cX3_choose 48 = .ok (.iload_n 3, 1) := by decide +kernel
theorem dX3_choose_49 : decode cX3_choose 49 = .ok (.ireturn, 1) := by decide +kernel
theorem dX3_takeBack_0 : decode cX3_takeBack 0 = .ok (.iload_n 1, 1) := by decide +kernel
theorem dX3_takeBack_1 : decode cX3_takeBack 1 = .ok (.ifCond .le 24, 3) := by decide +kernel
theorem dX3_takeBack_4 : decode cX3_takeBack 4 = .ok (.aload_n 0, 1) := by decide +kernel
theorem dX3_takeBack_5 : decode cX3_takeBack 5 = .ok (.getfield 31, 3) := by decide +kernel
theorem dX3_takeBack_8 : decode cX3_takeBack 8 = .ok (.ifCond .le 17, 3) := by decide +kernel
theorem dX3_takeBack_11 : decode cX3_takeBack 11 = .ok (.aload_n 0, 1) := by decide +kernel
theorem dX3_takeBack_12 : decode cX3_takeBack 12 = .ok (.getfield 18, 3) := by decide +kernel
theorem dX3_takeBack_15 : decode cX3_takeBack 15 = .ok (.iload_n 1, 1) := by decide +kernel
theorem dX3_takeBack_16 : decode cX3_takeBack 16 = .ok (.iconst 1, 1) := by decide +kernel
theorem dX3_takeBack_17 : decode cX3_takeBack 17 = .ok (.isub, 1) := by decide +kernel
theorem dX3_takeBack_18 : decode cX3_takeBack 18 = .ok (.aload_n 0, 1) := by decide +kernel
theorem dX3_takeBack_19 : decode cX3_takeBack 19 = .ok (.getfield 31, 3) := by decide +kernel
theorem dX3_takeBack_22 : decode cX3_takeBack 22 = .ok (.idiv, 1) := by decide +kernel
theorem dX3_takeBack_23 : decode cX3_takeBack 23 = .ok (.iload_n 2, 1) := by decide +kernel
theorem dX3_takeBack_24 : decode cX3_takeBack 24 = .ok (.iastore, 1) := by decide +kernel
theorem dX3_takeBack_25 : decode cX3_takeBack 25 = .ok (.return_, 1) := by decide +kernel
theorem dX3_mostOf_0 : decode cX3_mostOf 0 = .ok (.iconst 0, 1) := by decide +kernel
theorem dX3_mostOf_1 : decode cX3_mostOf 1 = .ok (.istore_n 2, 1) := by decide +kernel
theorem dX3_mostOf_2 : decode cX3_mostOf 2 = .ok (.iconst 1, 1) := by decide +kernel
theorem dX3_mostOf_3 : decode cX3_mostOf 3 = .ok (.istore_n 3, 1) := by decide +kernel
theorem dX3_mostOf_4 : decode cX3_mostOf 4 = .ok (.iload_n 3, 1) := by decide +kernel
theorem dX3_mostOf_5 : decode cX3_mostOf 5 = .ok (.iload_n 1, 1) := by decide +kernel
theorem dX3_mostOf_6 : decode cX3_mostOf 6 = .ok (.if_icmp .ge 36, 3) := by decide +kernel
theorem dX3_mostOf_9 : decode cX3_mostOf 9 = .ok (.aload_n 0, 1) := by decide +kernel
theorem dX3_mostOf_10 : decode cX3_mostOf 10 = .ok (.getfield 9, 3) := by decide +kernel
theorem dX3_mostOf_13 : decode cX3_mostOf 13 = .ok (.aload_n 0, 1) := by decide +kernel
theorem dX3_mostOf_14 : decode cX3_mostOf 14 = .ok (.getfield 18, 3) := by decide +kernel
theorem dX3_mostOf_17 : decode cX3_mostOf 17 = .ok (.iload_n 3, 1) := by decide +kernel
theorem dX3_mostOf_18 : decode cX3_mostOf 18 = .ok (.iaload, 1) := by decide +kernel
theorem dX3_mostOf_19 : decode cX3_mostOf 19 = .ok (.iaload, 1) := by decide +kernel
theorem dX3_mostOf_20 : decode cX3_mostOf 20 = .ok (.aload_n 0, 1) := by decide +kernel
theorem dX3_mostOf_21 : decode cX3_mostOf 21 = .ok (.getfield 9, 3) := by decide +kernel
theorem dX3_mostOf_24 : decode cX3_mostOf 24 = .ok (.aload_n 0, 1) := by decide +kernel
theorem dX3_mostOf_25 : decode cX3_mostOf 25 = .ok (.getfield 18, 3) := by decide +kernel
theorem dX3_mostOf_28 : decode cX3_mostOf 28 = .ok (.iload_n 2, 1) := by decide +kernel
theorem dX3_mostOf_29 : decode cX3_mostOf 29 = .ok (.iaload, 1) := by decide +kernel
theorem dX3_mostOf_30 : decode cX3_mostOf 30 = .ok (.iaload, 1) := by decide +kernel
theorem dX3_mostOf_31 : decode cX3_mostOf 31 = .ok (.if_icmp .le 5, 3) := by decide +kernel
theorem dX3_mostOf_34 : decode cX3_mostOf 34 = .ok (.iload_n 3, 1) := by decide +kernel
theorem dX3_mostOf_35 : decode cX3_mostOf 35 = .ok (.istore_n 2, 1) := by decide +kernel
theorem dX3_mostOf_36 : decode cX3_mostOf 36 = .ok (.iinc 3 1, 3) := by decide +kernel
theorem dX3_mostOf_39 : decode cX3_mostOf 39 = .ok (.goto (-35), 3) := by decide +kernel
theorem dX3_mostOf_42 : decode cX3_mostOf 42 = .ok (.iload_n 2, 1) := by decide +kernel
theorem dX3_mostOf_43 : decode cX3_mostOf 43 = .ok (.ireturn, 1) := by decide +kernel
theorem dX3_findRest_0 : decode cX3_findRest 0 = .ok (.iconst 0, 1) := by decide +kernel
theorem dX3_findRest_1 : decode cX3_findRest 1 = .ok (.istore_n 3, 1) := by decide +kernel
theorem dX3_findRest_2 : decode cX3_findRest 2 = .ok (.iload_n 3, 1) := by decide +kernel
theorem dX3_findRest_3 : decode cX3_findRest 3 = .ok (.aload_n 0, 1) := by decide +kernel
theorem dX3_findRest_4 : decode cX3_findRest 4 = .ok (.getfield 35, 3) := by decide +kernel
theorem dX3_findRest_7 : decode cX3_findRest 7 = .ok (.if_icmp .ge 21, 3) := by decide +kernel
theorem dX3_findRest_10 : decode cX3_findRest 10 = .ok (.aload_n 0, 1) := by decide +kernel
theorem dX3_findRest_11 : decode cX3_findRest 11 = .ok (.getfield 21, 3) := by decide +kernel
theorem dX3_findRest_14 : decode cX3_findRest 14 = .ok (.iload_n 3, 1) := by decide +kernel
theorem dX3_findRest_15 : decode cX3_findRest 15 = .ok (.aload_n 0, 1) := by decide +kernel
theorem dX3_findRest_16 : decode cX3_findRest 16 = .ok (.iload_n 3, 1) := by decide +kernel
theorem dX3_findRest_17 : decode cX3_findRest 17 = .ok (.iload_n 1, 1) := by decide +kernel
theorem dX3_findRest_18 : decode cX3_findRest 18 = .ok (.invokevirtual 68, 3) := by decide +kernel
theorem dX3_findRest_21 : decode cX3_findRest 21 = .ok (.bastore, 1) := by decide +kernel
theorem dX3_findRest_22 : decode cX3_findRest 22 = .ok (.iinc 3 1, 3) := by decide +kernel
theorem dX3_findRest_25 : decode cX3_findRest 25 = .ok (.goto (-23), 3) := by decide +kernel
theorem dX3_findRest_28 : decode cX3_findRest 28 = .ok (.iconst 0, 1) := by decide +kernel
theorem dX3_findRest_29 : decode cX3_findRest 29 = .ok (.istore_n 3, 1) := by decide +kernel
theorem dX3_findRest_30 : decode cX3_findRest 30 = .ok (.iload_n 3, 1) := by decide +kernel
theorem dX3_findRest_31 : decode cX3_findRest 31 = .ok (.aload_n 0, 1) := by decide +kernel
theorem dX3_findRest_32 : decode cX3_findRest 32 = .ok (.getfield 35, 3) := by decide +kernel
theorem dX3_findRest_35 : decode cX3_findRest 35 = .ok (.if_icmp .ge 97, 3) := by decide +kernel
theorem dX3_findRest_38 : decode cX3_findRest 38 = .ok (.aload_n 0, 1) := by decide +kernel
theorem dX3_findRest_39 : decode cX3_findRest 39 = .ok (.iload_n 3, 1) := by decide +kernel
theorem dX3_findRest_40 : decode cX3_findRest 40 = .ok (.iload_n 2, 1) := by decide +kernel
theorem dX3_findRest_41 : decode cX3_findRest 41 = .ok (.invokevirtual 68, 3) := by decide +kernel
theorem dX3_findRest_44 : decode cX3_findRest 44 = .ok (.istore 4, 2) := by decide +kernel
theorem dX3_findRest_46 : decode cX3_findRest 46 = .ok (.iconst 0, 1) := by decide +kernel
theorem dX3_findRest_47 : decode cX3_findRest 47 = .ok (.istore 5, 2) := by decide +kernel
theorem dX3_findRest_49 : decode cX3_findRest 49 = .ok (.iload 5, 2) := by decide +kernel
theorem dX3_findRest_51 : decode cX3_findRest 51 = .ok (.aload_n 0, 1) := by decide +kernel
theorem dX3_findRest_52 : decode cX3_findRest 52 = .ok (.getfield 35, 3) := by decide +kernel
theorem dX3_findRest_55 : decode cX3_findRest 55 = .ok (.if_icmp .ge 71, 3) := by decide +kernel
theorem dX3_findRest_58 : decode cX3_findRest 58 = .ok (.aload_n 0, 1) := by decide +kernel
theorem dX3_findRest_59 : decode cX3_findRest 59 = .ok (.getfield 15, 3) := by decide +kernel
theorem dX3_findRest_62 : decode cX3_findRest 62 = .ok (.iload_n 3, 1) := by decide +kernel
theorem dX3_findRest_63 : decode cX3_findRest 63 = .ok (.aload_n 0, 1) := by decide +kernel
theorem dX3_findRest_64 : decode cX3_findRest 64 = .ok (.getfield 35, 3) := by decide +kernel
theorem dX3_findRest_67 : decode cX3_findRest 67 = .ok (.imul, 1) := by decide +kernel
theorem dX3_findRest_68 : decode cX3_findRest 68 = .ok (.iload 5, 2) := by decide +kernel
theorem dX3_findRest_70 : decode cX3_findRest 70 = .ok (.iadd, 1) := by decide +kernel
theorem dX3_findRest_71 : decode cX3_findRest 71 = .ok (.iaload, 1) := by decide +kernel
theorem dX3_findRest_72 : decode cX3_findRest 72 = .ok (.istore 6, 2) := by decide +kernel
theorem dX3_findRest_74 : decode cX3_findRest 74 = .ok (.iload 6, 2) := by decide +kernel
theorem dX3_findRest_76 : decode cX3_findRest 76 = .ok (.iload_n 1, 1) := by decide +kernel
theorem dX3_findRest_77 : decode cX3_findRest 77 = .ok (.if_icmp .eq 13, 3) := by decide +kernel
theorem dX3_findRest_80 : decode cX3_findRest 80 = .ok (.aload_n 0, 1) := by decide +kernel
theorem dX3_findRest_81 : decode cX3_findRest 81 = .ok (.getfield 21, 3) := by decide +kernel
theorem dX3_findRest_84 : decode cX3_findRest 84 = .ok (.iload 5, 2) := by decide +kernel
theorem dX3_findRest_86 : decode cX3_findRest 86 = .ok (.baload, 1) := by decide +kernel
theorem dX3_findRest_87 : decode cX3_findRest 87 = .ok (.ifCond .ne 33, 3) := by decide +kernel
theorem dX3_findRest_90 : decode cX3_findRest 90 = .ok (.iload 6, 2) := by decide +kernel
theorem dX3_findRest_92 : decode cX3_findRest 92 = .ok (.iload_n 2, 1) := by decide +kernel
theorem dX3_findRest_93 : decode cX3_findRest 93 = .ok (.if_icmp .eq 8, 3) := by decide +kernel
theorem dX3_findRest_96 : decode cX3_findRest 96 = .ok (.iload 4, 2) := by decide +kernel
theorem dX3_findRest_98 : decode cX3_findRest 98 = .ok (.ifCond .ne 22, 3) := by decide +kernel
theorem dX3_findRest_101 : decode cX3_findRest 101 = .ok (.aload_n 0, 1) := by decide +kernel
theorem dX3_findRest_102 : decode cX3_findRest 102 = .ok (.iload_n 3, 1) := by decide +kernel
theorem dX3_findRest_103 : decode cX3_findRest 103 = .ok (.putfield 72, 3) := by decide +kernel
theorem dX3_findRest_106 : decode cX3_findRest 106 = .ok (.aload_n 0, 1) := by decide +kernel
theorem dX3_findRest_107 : decode cX3_findRest 107 = .ok (.iload 5, 2) := by decide +kernel
theorem dX3_findRest_109 : decode cX3_findRest 109 = .ok (.putfield 75, 3) := by decide +kernel
theorem dX3_findRest_112 : decode cX3_findRest 112 = .ok (.aload_n 0, 1) := by decide +kernel
theorem dX3_findRest_113 : decode cX3_findRest 113 = .ok (.iload 6, 2) := by decide +kernel
theorem dX3_findRest_115 : decode cX3_findRest 115 = .ok (.putfield 78, 3) := by decide +kernel
theorem dX3_findRest_118 : decode cX3_findRest 118 = .ok (.iconst 1, 1) := by decide +kernel
theorem dX3_findRest_119 : decode cX3_findRest 119 = .ok (.ireturn, 1) := by decide +kernel
theorem dX3_findRest_120 : decode cX3_findRest 120 = .ok (.iinc 5 1, 3) := by decide +kernel
theorem dX3_findRest_123 : decode cX3_findRest 123 = .ok (.goto (-74), 3) := by decide +kernel
theorem dX3_findRest_126 : decode cX3_findRest 126 = .ok (.iinc 3 1, 3) := by decide +kernel
theorem dX3_findRest_129 : decode cX3_findRest 129 = .ok (.goto (-99), 3) := by decide +kernel
theorem dX3_findRest_132 : decode cX3_findRest 132 = .ok (.iconst 0, 1) := by decide +kernel
theorem dX3_findRest_133 : decode cX3_findRest 133 = .ok (.ireturn, 1) := by decide +kernel
theorem dX3_canGet_0 : decode cX3_canGet 0 = .ok (.iconst 0, 1) := by decide +kernel
theorem dX3_canGet_1 : decode cX3_canGet 1 = .ok (.istore_n 3, 1) := by decide +kernel
theorem dX3_canGet_2 : decode cX3_canGet 2 = .ok (.iload_n 3, 1) := by decide +kernel
theorem dX3_canGet_3 : decode cX3_canGet 3 = .ok (.aload_n 0, 1) := by decide +kernel
theorem dX3_canGet_4 : decode cX3_canGet 4 = .ok (.getfield 35, 3) := by decide +kernel
theorem dX3_canGet_7 : decode cX3_canGet 7 = .ok (.if_icmp .ge 28, 3) := by decide +kernel
theorem dX3_canGet_10 : decode cX3_canGet 10 = .ok (.aload_n 0, 1) := by decide +kernel
theorem dX3_canGet_11 : decode cX3_canGet 11 = .ok (.getfield 15, 3) := by decide +kernel
theorem dX3_canGet_14 : decode cX3_canGet 14 = .ok (.iload_n 1, 1) := by decide +kernel
theorem dX3_canGet_15 : decode cX3_canGet 15 = .ok (.aload_n 0, 1) := by decide +kernel
theorem dX3_canGet_16 : decode cX3_canGet 16 = .ok (.getfield 35, 3) := by decide +kernel
theorem dX3_canGet_19 : decode cX3_canGet 19 = .ok (.imul, 1) := by decide +kernel
theorem dX3_canGet_20 : decode cX3_canGet 20 = .ok (.iload_n 3, 1) := by decide +kernel
theorem dX3_canGet_21 : decode cX3_canGet 21 = .ok (.iadd, 1) := by decide +kernel
theorem dX3_canGet_22 : decode cX3_canGet 22 = .ok (.iaload, 1) := by decide +kernel
theorem dX3_canGet_23 : decode cX3_canGet 23 = .ok (.iload_n 2, 1) := by decide +kernel
theorem dX3_canGet_24 : decode cX3_canGet 24 = .ok (.if_icmp .ne 5, 3) := by decide +kernel
theorem dX3_canGet_27 : decode cX3_canGet 27 = .ok (.iconst 1, 1) := by decide +kernel
theorem dX3_canGet_28 : decode cX3_canGet 28 = .ok (.ireturn, 1) := by decide +kernel
theorem dX3_canGet_29 : decode cX3_canGet 29 = .ok (.iinc 3 1, 3) := by decide +kernel
theorem dX3_canGet_32 : decode cX3_canGet 32 = .ok (.goto (-30), 3) := by decide +kernel
theorem dX3_canGet_35 : decode cX3_canGet 35 = .ok (.iconst 0, 1) := by decide +kernel
theorem dX3_canGet_36 : decode cX3_canGet 36 = .ok (.ireturn, 1) := by decide +kernel
theorem dX3_choice_0 : decode cX3_choice 0 = .ok (.iload_n 1, 1) := by decide +kernel
theorem dX3_choice_1 : decode cX3_choice 1 = .ok (.ifCond .le 10, 3) := by decide +kernel
theorem dX3_choice_4 : decode cX3_choice 4 = .ok (.aload_n 0, 1) := by decide +kernel
theorem dX3_choice_5 : decode cX3_choice 5 = .ok (.getfield 31, 3) := by decide +kernel
theorem dX3_choice_8 : decode cX3_choice 8 = .ok (.ifCond .gt 6, 3) := by decide +kernel
theorem dX3_choice_11 : decode cX3_choice 11 = .ok (.bipush (-100), 2) := by decide +kernel
theorem dX3_choice_13 : decode cX3_choice 13 = .ok (.ireturn, 1) := by decide +kernel
theorem dX3_choice_14 : decode cX3_choice 14 = .ok (.bipush 10, 2) := by decide +kernel
theorem dX3_choice_16 : decode cX3_choice 16 = .ok (.iload_n 1, 1) := by decide +kernel
theorem dX3_choice_17 : decode cX3_choice 17 = .ok (.iconst 1, 1) := by decide +kernel
theorem dX3_choice_18 : decode cX3_choice 18 = .ok (.isub, 1) := by decide +kernel
theorem dX3_choice_19 : decode cX3_choice 19 = .ok (.aload_n 0, 1) := by decide +kernel
theorem dX3_choice_20 : decode cX3_choice 20 = .ok (.getfield 31, 3) := by decide +kernel
theorem dX3_choice_23 : decode cX3_choice 23 = .ok (.idiv, 1) := by decide +kernel
theorem dX3_choice_24 : decode cX3_choice 24 = .ok (.imul, 1) := by decide +kernel
theorem dX3_choice_25 : decode cX3_choice 25 = .ok (.iload_n 1, 1) := by decide +kernel
theorem dX3_choice_26 : decode cX3_choice 26 = .ok (.iconst 1, 1) := by decide +kernel
theorem dX3_choice_27 : decode cX3_choice 27 = .ok (.isub, 1) := by decide +kernel
theorem dX3_choice_28 : decode cX3_choice 28 = .ok (.aload_n 0, 1) := by decide +kernel
theorem dX3_choice_29 : decode cX3_choice 29 = .ok (.getfield 31, 3) := by decide +kernel
theorem dX3_choice_32 : decode cX3_choice 32 = .ok (.irem, 1) := by decide +kernel
theorem dX3_choice_33 : decode cX3_choice 33 = .ok (.iadd, 1) := by decide +kernel
theorem dX3_choice_34 : decode cX3_choice 34 = .ok (.ireturn, 1) := by decide +kernel
theorem dX4_init_0 : decode cX4_init 0 = .ok (.aload_n 0, 1) := by decide +kernel
theorem dX4_init_1 : decode cX4_init 1 = .ok (.invokespecial 3, 3) := by decide +kernel
theorem dX4_init_4 : decode cX4_init 4 = .ok (.aload_n 0, 1) := by decide +kernel
theorem dX4_init_5 : decode cX4_init 5 = .ok (.bipush 84, 2) := by decide +kernel
theorem dX4_init_7 : decode cX4_init 7 = .ok (.newarray .int, 2) := by decide +kernel
theorem dX4_init_9 : decode cX4_init 9 = .ok (.putfield 11, 3) := by decide +kernel
theorem dX4_init_12 : decode cX4_init 12 = .ok (.return_, 1) := by decide +kernel
theorem dX4_forget_0 : decode cX4_forget 0 = .ok (.aload_n 0, 1) := by decide +kernel
theorem dX4_forget_1 : decode cX4_forget 1 = .ok (.iconst 0, 1) := by decide +kernel
theorem dX4_forget_2 : decode cX4_forget 2 = .ok (.putfield 15, 3) := by decide +kernel
theorem dX4_forget_5 : decode cX4_forget 5 = .ok (.return_, 1) := by decide +kernel
theorem dX4_keep_0 : decode cX4_keep 0 = .ok (.aload_n 0, 1) := by decide +kernel
theorem dX4_keep_1 : decode cX4_keep 1 = .ok (.getfield 15, 3) := by decide +kernel
theorem dX4_keep_4 : decode cX4_keep 4 = .ok (.bipush 12, 2) := by decide +kernel
theorem dX4_keep_6 : decode cX4_keep 6 = .ok (.if_icmp .lt 25, 3) := by decide +kernel
theorem dX4_keep_9 : decode cX4_keep 9 = .ok (.aload_n 0, 1) := by decide +kernel
theorem dX4_keep_10 : decode cX4_keep 10 = .ok (.getfield 11, 3) := by decide +kernel
theorem dX4_keep_13 : decode cX4_keep 13 = .ok (.bipush 7, 2) := by decide +kernel
theorem dX4_keep_15 : decode cX4_keep 15 = .ok (.aload_n 0, 1) := by decide +kernel
theorem dX4_keep_16 : decode cX4_keep 16 = .ok (.getfield 11, 3) := by decide +kernel
theorem dX4_keep_19 : decode cX4_keep 19 = .ok (.iconst 0, 1) := by decide +kernel
theorem dX4_keep_20 : decode cX4_keep 20 = .ok (.bipush 77, 2) := by decide +kernel
theorem dX4_keep_22 : decode cX4_keep 22 = .ok (.invokestatic 19, 3) := by decide +kernel
theorem dX4_keep_25 : decode cX4_keep 25 = .ok (.aload_n 0, 1) := by decide +kernel
theorem dX4_keep_26 : decode cX4_keep 26 = .ok (.bipush 11, 2) := by decide +kernel
theorem dX4_keep_28 : decode cX4_keep 28 = .ok (.putfield 15, 3) := by decide +kernel
theorem dX4_keep_31 : decode cX4_keep 31 = .ok (.aload_n 1, 1) := by decide +kernel
theorem dX4_keep_32 : decode cX4_keep 32 = .ok (.getfield 25, 3) := by decide +kernel
theorem dX4_keep_35 : decode cX4_keep 35 = .ok (.iconst 0, 1) := by decide +kernel
theorem dX4_keep_36 : decode cX4_keep 36 = .ok (.aload_n 0, 1) := by decide +kernel
theorem dX4_keep_37 : decode cX4_keep 37 = .ok (.getfield 11, 3) := by decide +kernel
theorem dX4_keep_40 : decode cX4_keep 40 = .ok (.aload_n 0, 1) := by decide +kernel
theorem dX4_keep_41 : decode cX4_keep 41 = .ok (.getfield 15, 3) := by decide +kernel
theorem dX4_keep_44 : decode cX4_keep 44 = .ok (.bipush 7, 2) := by decide +kernel
theorem dX4_keep_46 : decode cX4_keep 46 = .ok (.imul, 1) := by decide +kernel
theorem dX4_keep_47 : decode cX4_keep 47 = .ok (.bipush 6, 2) := by decide +kernel
theorem dX4_keep_49 : decode cX4_keep 49 = .ok (.invokestatic 19, 3) := by decide +kernel
theorem dX4_keep_52 : decode cX4_keep 52 = .ok (.aload_n 0, 1) := by decide +kernel
theorem dX4_keep_53 : decode cX4_keep 53 = .ok (.getfield 11, 3) := by decide +kernel
theorem dX4_keep_56 : decode cX4_keep 56 = .ok (.aload_n 0, 1) := by decide +kernel
theorem dX4_keep_57 : decode cX4_keep 57 = .ok (.getfield 15, 3) := by decide +kernel
theorem dX4_keep_60 : decode cX4_keep 60 = .ok (.bipush 7, 2) := by decide +kernel
theorem dX4_keep_62 : decode cX4_keep 62 = .ok (.imul, 1) := by decide +kernel
theorem dX4_keep_63 : decode cX4_keep 63 = .ok (.bipush 6, 2) := by decide +kernel
theorem dX4_keep_65 : decode cX4_keep 65 = .ok (.iadd, 1) := by decide +kernel
theorem dX4_keep_66 : decode cX4_keep 66 = .ok (.aload_n 1, 1) := by decide +kernel
theorem dX4_keep_67 : decode cX4_keep 67 = .ok (.getfield 30, 3) := by decide +kernel
theorem dX4_keep_70 : decode cX4_keep 70 = .ok (.iastore, 1) := by decide +kernel
theorem dX4_keep_71 : decode cX4_keep 71 = .ok (.aload_n 0, 1) := by decide +kernel
theorem dX4_keep_72 : decode cX4_keep 72 = .ok (.dup, 1) := by decide +kernel
theorem dX4_keep_73 : decode cX4_keep 73 = .ok (.getfield 15, 3) := by decide +kernel
theorem dX4_keep_76 : decode cX4_keep 76 = .ok (.iconst 1, 1) := by decide +kernel
theorem dX4_keep_77 : decode cX4_keep 77 = .ok (.iadd, 1) := by decide +kernel
theorem dX4_keep_78 : decode cX4_keep 78 = .ok (.putfield 15, 3) := by decide +kernel
theorem dX4_keep_81 : decode cX4_keep 81 = .ok (.return_, 1) := by decide +kernel
theorem dX4_goBack_0 : decode cX4_goBack 0 = .ok (.iload_n 2, 1) := by decide +kernel
theorem dX4_goBack_1 : decode cX4_goBack 1 = .ok (.iconst 1, 1) := by decide +kernel
theorem dX4_goBack_2 : decode cX4_goBack 2 = .ok (.if_icmp .lt 11, 3) := by decide +kernel
theorem dX4_goBack_5 : decode cX4_goBack 5 = .ok (.iload_n 2, 1) := by decide +kernel
theorem dX4_goBack_6 : decode cX4_goBack 6 = .ok (.aload_n 0, 1) := by decide +kernel
theorem dX4_goBack_7 : decode cX4_goBack 7 = .ok (.getfield 15, 3) := by decide +kernel
theorem dX4_goBack_10 : decode cX4_goBack 10 = .ok (.if_icmp .le 4, 3) := by decide +kernel
theorem dX4_goBack_13 : decode cX4_goBack 13 = .ok (.return_, 1) := by decide +kernel
theorem dX4_goBack_14 : decode cX4_goBack 14 = .ok (.aload_n 0, 1) := by decide +kernel
theorem dX4_goBack_15 : decode cX4_goBack 15 = .ok (.dup, 1) := by decide +kernel
theorem dX4_goBack_16 : decode cX4_goBack 16 = .ok (.getfield 15, 3) := by decide +kernel
theorem dX4_goBack_19 : decode cX4_goBack 19 = .ok (.iload_n 2, 1) := by decide +kernel
theorem dX4_goBack_20 : decode cX4_goBack 20 = .ok (.isub, 1) := by decide +kernel
theorem dX4_goBack_21 : decode cX4_goBack 21 = .ok (.putfield 15, 3) := by decide +kernel
theorem dX4_goBack_24 : decode cX4_goBack 24 = .ok (.aload_n 0, 1) := by decide +kernel
theorem dX4_goBack_25 : decode cX4_goBack 25 = .ok (.getfield 11, 3) := by decide +kernel
theorem dX4_goBack_28 : decode cX4_goBack 28 = .ok (.aload_n 0, 1) := by decide +kernel
theorem dX4_goBack_29 : decode cX4_goBack 29 = .ok (.getfield 15, 3) := by decide +kernel
theorem dX4_goBack_32 : decode cX4_goBack 32 = .ok (.bipush 7, 2) := by decide +kernel
theorem dX4_goBack_34 : decode cX4_goBack 34 = .ok (.imul, 1) := by decide +kernel
theorem dX4_goBack_35 : decode cX4_goBack 35 = .ok (.aload_n 1, 1) := by decide +kernel
theorem dX4_goBack_36 : decode cX4_goBack 36 = .ok (.getfield 25, 3) := by decide +kernel
theorem dX4_goBack_39 : decode cX4_goBack 39 = .ok (.iconst 0, 1) := by decide +kernel
theorem dX4_goBack_40 : decode cX4_goBack 40 = .ok (.bipush 6, 2) := by decide +kernel
theorem dX4_goBack_42 : decode cX4_goBack 42 = .ok (.invokestatic 19, 3) := by decide +kernel
theorem dX4_goBack_45 : decode cX4_goBack 45 = .ok (.aload_n 1, 1) := by decide +kernel
theorem dX4_goBack_46 : decode cX4_goBack 46 = .ok (.aload_n 0, 1) := by decide +kernel
theorem dX4_goBack_47 : decode cX4_goBack 47 = .ok (.getfield 11, 3) := by decide +kernel
theorem dX4_goBack_50 : decode cX4_goBack 50 = .ok (.aload_n 0, 1) := by decide +kernel
theorem dX4_goBack_51 : decode cX4_goBack 51 = .ok (.getfield 15, 3) := by decide +kernel
theorem dX4_goBack_54 : decode cX4_goBack 54 = .ok (.bipush 7, 2) := by decide +kernel
theorem dX4_goBack_56 : decode cX4_goBack 56 = .ok (.imul, 1) := by decide +kernel
theorem dX4_goBack_57 : decode cX4_goBack 57 = .ok (.bipush 6, 2) := by decide +kernel
theorem dX4_goBack_59 : decode cX4_goBack 59 = .ok (.iadd, 1) := by decide +kernel
theorem dX4_goBack_60 : decode cX4_goBack 60 = .ok (.iaload, 1) := by decide +kernel
theorem dX4_goBack_61 : decode cX4_goBack 61 = .ok (.putfield 30, 3) := by decide +kernel
theorem dX4_goBack_64 : decode cX4_goBack 64 = .ok (.return_, 1) := by decide +kernel
theorem dX5_init_0 : decode cX5_init 0 = .ok (.aload_n 0, 1) := by decide +kernel
theorem dX5_init_1 : decode cX5_init 1 = .ok (.invokespecial 3, 3) := by decide +kernel
theorem dX5_init_4 : decode cX5_init 4 = .ok (.aload_n 0, 1) := by decide +kernel
theorem dX5_init_5 : decode cX5_init 5 = .ok (.new 9, 3) := by decide +kernel
theorem dX5_init_8 : decode cX5_init 8 = .ok (.dup, 1) := by decide +kernel
theorem dX5_init_9 : decode cX5_init 9 = .ok (.invokespecial 11, 3) := by decide +kernel
theorem dX5_init_12 : decode cX5_init 12 = .ok (.putfield 12, 3) := by decide +kernel
theorem dX5_init_15 : decode cX5_init 15 = .ok (.aload_n 0, 1) := by decide +kernel
theorem dX5_init_16 : decode cX5_init 16 = .ok (.new 18, 3) := by decide +kernel
theorem dX5_init_19 : decode cX5_init 19 = .ok (.dup, 1) := by decide +kernel
theorem dX5_init_20 : decode cX5_init 20 = .ok (.invokespecial 20, 3) := by decide +kernel
theorem dX5_init_23 : decode cX5_init 23 = .ok (.putfield 21, 3) := by decide +kernel
theorem dX5_init_26 : decode cX5_init 26 = .ok (.aload_n 0, 1) := by decide +kernel
theorem dX5_init_27 : decode cX5_init 27 = .ok (.new 25, 3) := by decide +kernel
theorem dX5_init_30 : decode cX5_init 30 = .ok (.dup, 1) := by decide +kernel
theorem dX5_init_31 : decode cX5_init 31 = .ok (.invokespecial 27, 3) := by decide +kernel
theorem dX5_init_34 : decode cX5_init 34 = .ok (.putfield 28, 3) := by decide +kernel
theorem dX5_init_37 : decode cX5_init 37 = .ok (.aload_n 0, 1) := by decide +kernel
theorem dX5_init_38 : decode cX5_init 38 = .ok (.new 32, 3) := by decide +kernel
theorem dX5_init_41 : decode cX5_init 41 = .ok (.dup, 1) := by decide +kernel
theorem dX5_init_42 : decode cX5_init 42 = .ok (.invokespecial 34, 3) := by decide +kernel
theorem dX5_init_45 : decode cX5_init 45 = .ok (.putfield 35, 3) := by decide +kernel
theorem dX5_init_48 : decode cX5_init 48 = .ok (.aload_n 0, 1) := by decide +kernel
theorem dX5_init_49 : decode cX5_init 49 = .ok (.iconst (-1), 1) := by decide +kernel
theorem dX5_init_50 : decode cX5_init 50 = .ok (.putfield 39, 3) := by decide +kernel
theorem dX5_init_53 : decode cX5_init 53 = .ok (.return_, 1) := by decide +kernel
theorem dX5_read_0 : decode cX5_read 0 = .ok (.aload_n 0, 1) := by decide +kernel
theorem dX5_read_1 : decode cX5_read 1 = .ok (.getfield 28, 3) := by decide +kernel
theorem dX5_read_4 : decode cX5_read 4 = .ok (.invokevirtual 43, 3) := by decide +kernel
theorem dX5_read_7 : decode cX5_read 7 = .ok (.aload_n 0, 1) := by decide +kernel
theorem dX5_read_8 : decode cX5_read 8 = .ok (.getfield 35, 3) := by decide +kernel
theorem dX5_read_11 : decode cX5_read 11 = .ok (.invokevirtual 46, 3) := by decide +kernel
theorem dX5_read_14 : decode cX5_read 14 = .ok (.aload_n 0, 1) := by decide +kernel
theorem dX5_read_15 : decode cX5_read 15 = .ok (.getfield 21, 3) := by decide +kernel
theorem dX5_read_18 : decode cX5_read 18 = .ok (.invokevirtual 47, 3) := by decide +kernel
theorem dX5_read_21 : decode cX5_read 21 = .ok (.aload_n 0, 1) := by decide +kernel
theorem dX5_read_22 : decode cX5_read 22 = .ok (.getfield 12, 3) := by decide +kernel
theorem dX5_read_25 : decode cX5_read 25 = .ok (.aload_n 1, 1) := by decide +kernel
theorem dX5_read_26 : decode cX5_read 26 = .ok (.iload_n 2, 1) := by decide +kernel
theorem dX5_read_27 : decode cX5_read 27 = .ok (.invokevirtual 48, 3) := by decide +kernel
theorem dX5_read_30 : decode cX5_read 30 = .ok (.aload_n 0, 1) := by decide +kernel
theorem dX5_read_31 : decode cX5_read 31 = .ok (.iconst 0, 1) := by decide +kernel
theorem dX5_read_32 : decode cX5_read 32 = .ok (.putfield 52, 3) := by decide +kernel
theorem dX5_read_35 : decode cX5_read 35 = .ok (.aload_n 0, 1) := by decide +kernel
theorem dX5_read_36 : decode cX5_read 36 = .ok (.iconst (-1), 1) := by decide +kernel
theorem dX5_read_37 : decode cX5_read 37 = .ok (.putfield 39, 3) := by decide +kernel
theorem dX5_read_40 : decode cX5_read 40 = .ok (.aload_n 0, 1) := by decide +kernel
theorem dX5_read_41 : decode cX5_read 41 = .ok (.iconst 0, 1) := by decide +kernel
theorem dX5_read_42 : decode cX5_read 42 = .ok (.putfield 55, 3) := by decide +kernel
theorem dX5_read_45 : decode cX5_read 45 = .ok (.iconst 0, 1) := by decide +kernel
theorem dX5_read_46 : decode cX5_read 46 = .ok (.istore_n 3, 1) := by decide +kernel
theorem dX5_read_47 : decode cX5_read 47 = .ok (.iload_n 3, 1) := by decide +kernel
theorem dX5_read_48 : decode cX5_read 48 = .ok (.iload_n 2, 1) := by decide +kernel
theorem dX5_read_49 : decode cX5_read 49 = .ok (.if_icmp .gt 20, 3) := by decide +kernel
theorem dX5_read_52 : decode cX5_read 52 = .ok (.aload_n 0, 1) := by decide +kernel
theorem dX5_read_53 : decode cX5_read 53 = .ok (.invokevirtual 58, 3) := by decide +kernel
theorem dX5_read_56 : decode cX5_read 56 = .ok (.ifCond .eq 13, 3) := by decide +kernel
theorem dX5_read_59 : decode cX5_read 59 = .ok (.aload_n 0, 1) := by decide +kernel
theorem dX5_read_60 : decode cX5_read 60 = .ok (.invokevirtual 62, 3) := by decide +kernel
theorem dX5_read_63 : decode cX5_read 63 = .ok (.iinc 3 1, 3) := by decide +kernel
theorem dX5_read_66 : decode cX5_read 66 = .ok (.goto (-19), 3) := by decide +kernel
theorem dX5_read_69 : decode cX5_read 69 = .ok (.aload_n 0, 1) := by decide +kernel
theorem dX5_read_70 : decode cX5_read 70 = .ok (.getfield 52, 3) := by decide +kernel
theorem dX5_read_73 : decode cX5_read 73 = .ok (.ifCond .ne 14, 3) := by decide +kernel
theorem dX5_read_76 : decode cX5_read 76 = .ok (.aload_n 0, 1) := by decide +kernel
theorem dX5_read_77 : decode cX5_read 77 = .ok (.getfield 21, 3) := by decide +kernel
theorem dX5_read_80 : decode cX5_read 80 = .ok (.aload_n 0, 1) := by decide +kernel
theorem dX5_read_81 : decode cX5_read 81 = .ok (.getfield 28, 3) := by decide +kernel
theorem dX5_read_84 : decode cX5_read 84 = .ok (.invokevirtual 65, 3) := by decide +kernel
theorem dX5_read_87 : decode cX5_read 87 = .ok (.aload_n 0, 1) := by decide +kernel
theorem dX5_read_88 : decode cX5_read 88 = .ok (.getfield 52, 3) := by decide +kernel
theorem dX5_read_91 : decode cX5_read 91 = .ok (.ireturn, 1) := by decide +kernel
theorem dX5_kind_0 : decode cX5_kind 0 = .ok (.aload_n 0, 1) := by decide +kernel
theorem dX5_kind_1 : decode cX5_kind 1 = .ok (.getfield 12, 3) := by decide +kernel
theorem dX5_kind_4 : decode cX5_kind 4 = .ok (.getfield 69, 3) := by decide +kernel
theorem dX5_kind_7 : decode cX5_kind 7 = .ok (.aload_n 0, 1) := by decide +kernel
theorem dX5_kind_8 : decode cX5_kind 8 = .ok (.getfield 55, 3) := by decide +kernel
theorem dX5_kind_11 : decode cX5_kind 11 = .ok (.iaload, 1) := by decide +kernel
theorem dX5_kind_12 : decode cX5_kind 12 = .ok (.ireturn, 1) := by decide +kernel
theorem dX5_goOn_0 : decode cX5_goOn 0 = .ok (.aload_n 0, 1) := by decide +kernel
theorem dX5_goOn_1 : decode cX5_goOn 1 = .ok (.getfield 55, 3) := by decide +kernel
theorem dX5_goOn_4 : decode cX5_goOn 4 = .ok (.aload_n 0, 1) := by decide +kernel
theorem dX5_goOn_5 : decode cX5_goOn 5 = .ok (.getfield 12, 3) := by decide +kernel
theorem dX5_goOn_8 : decode cX5_goOn 8 = .ok (.getfield 73, 3) := by decide +kernel
theorem dX5_goOn_11 : decode cX5_goOn 11 = .ok (.if_icmp .ge 13, 3) := by decide +kernel
theorem dX5_goOn_14 : decode cX5_goOn 14 = .ok (.aload_n 0, 1) := by decide +kernel
theorem dX5_goOn_15 : decode cX5_goOn 15 = .ok (.dup, 1) := by decide +kernel
theorem dX5_goOn_16 : decode cX5_goOn 16 = .ok (.getfield 55, 3) := by decide +kernel
theorem dX5_goOn_19 : decode cX5_goOn 19 = .ok (.iconst 1, 1) := by decide +kernel
theorem dX5_goOn_20 : decode cX5_goOn 20 = .ok (.iadd, 1) := by decide +kernel
theorem dX5_goOn_21 : decode cX5_goOn 21 = .ok (.putfield 55, 3) := by decide +kernel
theorem dX5_goOn_24 : decode cX5_goOn 24 = .ok (.return_, 1) := by decide +kernel
theorem dX5_refuse_0 : decode cX5_refuse 0 = .ok (.aload_n 0, 1) := by decide +kernel
theorem dX5_refuse_1 : decode cX5_refuse 1 = .ok (.getfield 52, 3) := by decide +kernel
theorem dX5_refuse_4 : decode cX5_refuse 4 = .ok (.ifCond .ne 44, 3) := by decide +kernel
theorem dX5_refuse_7 : decode cX5_refuse 7 = .ok (.aload_n 0, 1) := by decide +kernel
theorem dX5_refuse_8 : decode cX5_refuse 8 = .ok (.aload_n 0, 1) := by decide +kernel
theorem dX5_refuse_9 : decode cX5_refuse 9 = .ok (.getfield 12, 3) := by decide +kernel
theorem dX5_refuse_12 : decode cX5_refuse 12 = .ok (.getfield 69, 3) := by decide +kernel
theorem dX5_refuse_15 : decode cX5_refuse 15 = .ok (.aload_n 0, 1) := by decide +kernel
theorem dX5_refuse_16 : decode cX5_refuse 16 = .ok (.getfield 55, 3) := by decide +kernel
theorem dX5_refuse_19 : decode cX5_refuse 19 = .ok (.iaload, 1) := by decide +kernel
theorem dX5_refuse_20 : decode cX5_refuse 20 = .ok (.iconst 1, 1) := by decide +kernel
theorem dX5_refuse_21 : decode cX5_refuse 21 = .ok (.if_icmp .ne 7, 3) := by decide +kernel
theorem dX5_refuse_24 : decode cX5_refuse 24 = .ok (.iconst 1, 1) := by decide +kernel
theorem dX5_refuse_25 : decode cX5_refuse 25 = .ok (.goto 4, 3) := by decide +kernel
theorem dX5_refuse_28 : decode cX5_refuse 28 = .ok (.iload_n 1, 1) := by decide +kernel
theorem dX5_refuse_29 : decode cX5_refuse 29 = .ok (.putfield 52, 3) := by decide +kernel
theorem dX5_refuse_32 : decode cX5_refuse 32 = .ok (.aload_n 0, 1) := by decide +kernel
theorem dX5_refuse_33 : decode cX5_refuse 33 = .ok (.aload_n 0, 1) := by decide +kernel
theorem dX5_refuse_34 : decode cX5_refuse 34 = .ok (.getfield 12, 3) := by decide +kernel
theorem dX5_refuse_37 : decode cX5_refuse 37 = .ok (.getfield 76, 3) := by decide +kernel
theorem dX5_refuse_40 : decode cX5_refuse 40 = .ok (.aload_n 0, 1) := by decide +kernel
theorem dX5_refuse_41 : decode cX5_refuse 41 = .ok (.getfield 55, 3) := by decide +kernel
theorem dX5_refuse_44 : decode cX5_refuse 44 = .ok (.iaload, 1) := by decide +kernel
theorem dX5_refuse_45 : decode cX5_refuse 45 = .ok (.putfield 39, 3) := by decide +kernel
theorem dX5_refuse_48 : decode cX5_refuse 48 = .ok (.aload_n 0, 1) := by decide +kernel
theorem dX5_refuse_49 : decode cX5_refuse 49 = .ok (.aload_n 0, 1) := by decide +kernel
theorem dX5_refuse_50 : decode cX5_refuse 50 = .ok (.getfield 12, 3) := by decide +kernel
theorem dX5_refuse_53 : decode cX5_refuse 53 = .ok (.getfield 73, 3) := by decide +kernel
theorem dX5_refuse_56 : decode cX5_refuse 56 = .ok (.putfield 55, 3) := by decide +kernel
theorem dX5_refuse_59 : decode cX5_refuse 59 = .ok (.return_, 1) := by decide +kernel
theorem dX5_take_0 : decode cX5_take 0 = .ok (.aload_n 0, 1) := by decide +kernel
theorem dX5_take_1 : decode cX5_take 1 = .ok (.invokevirtual 58, 3) := by decide +kernel
theorem dX5_take_4 : decode cX5_take 4 = .ok (.iload_n 1, 1) := by decide +kernel
theorem dX5_take_5 : decode cX5_take 5 = .ok (.if_icmp .ne 10, 3) := by decide +kernel
theorem dX5_take_8 : decode cX5_take 8 = .ok (.aload_n 0, 1) := by decide +kernel
theorem dX5_take_9 : decode cX5_take 9 = .ok (.invokevirtual 79, 3) := by decide +kernel
theorem dX5_take_12 : decode cX5_take 12 = .ok (.goto 8, 3) := by decide +kernel
theorem dX5_take_15 : decode cX5_take 15 = .ok (.aload_n 0, 1) := by decide +kernel
theorem dX5_take_16 : decode cX5_take 16 = .ok (.iconst 2, 1) := by decide +kernel
theorem dX5_take_17 : decode cX5_take 17 = .ok (.invokevirtual 82, 3) := by decide +kernel
theorem dX5_take_20 : decode cX5_take 20 = .ok (.return_, 1) := by decide +kernel
theorem dX5_takeNumber_0 : decode cX5_takeNumber 0 = .ok (.aload_n 0, 1) := by decide +kernel
theorem dX5_takeNumber_1 : decode cX5_takeNumber 1 = .ok (.invokevirtual 58, 3) := by decide +kernel
theorem dX5_takeNumber_4 : decode cX5_takeNumber 4 = .ok (.iconst 2, 1) := by decide +kernel
theorem dX5_takeNumber_5 : decode cX5_takeNumber 5 = .ok (.if_icmp .eq 10, 3) := by decide +kernel
theorem dX5_takeNumber_8 : decode cX5_takeNumber 8 = .ok (.aload_n 0, 1) := by decide +kernel
theorem dX5_takeNumber_9 : decode cX5_takeNumber 9 = .ok (.iconst 2, 1) := by decide +kernel
theorem dX5_takeNumber_10 : decode cX5_takeNumber 10 = .ok (.invokevirtual 82, 3) := by decide +kernel
theorem dX5_takeNumber_13 : decode cX5_takeNumber 13 = .ok (.iload_n 1, 1) := by decide +kernel
theorem dX5_takeNumber_14 : decode cX5_takeNumber 14 = .ok (.ireturn, 1) := by decide +kernel
theorem dX5_takeNumber_15 : decode cX5_takeNumber 15 = .ok (.aload_n 0, 1) := by decide +kernel
theorem dX5_takeNumber_16 : decode cX5_takeNumber 16 = .ok (.getfield 12, 3) := by decide +kernel
theorem dX5_takeNumber_19 : decode cX5_takeNumber 19 = .ok (.getfield 86, 3) := by decide +kernel
theorem dX5_takeNumber_22 : decode cX5_takeNumber 22 = .ok (.aload_n 0, 1) := by decide +kernel
theorem dX5_takeNumber_23 : decode cX5_takeNumber 23 = .ok (.getfield 55, 3) := by decide +kernel
theorem dX5_takeNumber_26 : decode cX5_takeNumber 26 = .ok (.iaload, 1) := by decide +kernel
theorem dX5_takeNumber_27 : decode cX5_takeNumber 27 = .ok (.istore_n 3, 1) := by decide +kernel
theorem dX5_takeNumber_28 : decode cX5_takeNumber 28 = .ok (.iload_n 3, 1) := by decide +kernel
theorem dX5_takeNumber_29 : decode cX5_takeNumber 29 = .ok (.iload_n 1, 1) := by decide +kernel
theorem dX5_takeNumber_30 : decode cX5_takeNumber 30 = .ok (.if_icmp .lt 8, 3) := by decide +kernel
theorem dX5_takeNumber_33 : decode cX5_takeNumber 33 = .ok (.iload_n 3, 1) := by decide +kernel
theorem dX5_takeNumber_34 : decode cX5_takeNumber 34 = .ok (.iload_n 2, 1) := by decide +kernel
theorem dX5_takeNumber_35 : decode cX5_takeNumber 35 = .ok (.if_icmp .le 10, 3) := by decide +kernel
theorem dX5_takeNumber_38 : decode cX5_takeNumber 38 = .ok (.aload_n 0, 1) := by decide +kernel
theorem dX5_takeNumber_39 : decode cX5_takeNumber 39 = .ok (.iconst 3, 1) := by decide +kernel
theorem dX5_takeNumber_40 : decode cX5_takeNumber 40 = .ok (.invokevirtual 82, 3) := by decide +kernel
theorem dX5_takeNumber_43 : decode cX5_takeNumber 43 = .ok (.iload_n 1, 1) := by decide +kernel
theorem dX5_takeNumber_44 : decode cX5_takeNumber 44 = .ok (.ireturn, 1) := by decide +kernel
theorem dX5_takeNumber_45 : decode cX5_takeNumber 45 = .ok (.aload_n 0, 1) := by decide +kernel
theorem dX5_takeNumber_46 : decode cX5_takeNumber 46 = .ok (.invokevirtual 79, 3) := by decide +kernel
theorem dX5_takeNumber_49 : decode cX5_takeNumber 49 = .ok (.iload_n 3, 1) := by decide +kernel
theorem dX5_takeNumber_50 : decode cX5_takeNumber 50 = .ok (.ireturn, 1) := by decide +kernel
theorem dX5_readLine_0 : decode cX5_readLine 0 = .ok (.aload_n 0, 1) := by decide +kernel
theorem dX5_readLine_1 : decode cX5_readLine 1 = .ok (.invokevirtual 58, 3) := by decide +kernel
theorem dX5_readLine_4 : decode cX5_readLine 4 = .ok (.tableswitch 115 101 109 #[52, 115, 115, 59, 66, 115, 73, 80, 87], 52) := by decide +kernel
theorem dX5_readLine_56 : decode cX5_readLine 56 = .ok (.aload_n 0, 1) := by decide +kernel
theorem dX5_readLine_57 : decode cX5_readLine 57 = .ok (.invokevirtual 89, 3) := by decide +kernel
theorem dX5_readLine_60 : decode cX5_readLine 60 = .ok (.goto 64, 3) := by decide +kernel
theorem dX5_readLine_63 : decode cX5_readLine 63 = .ok (.aload_n 0, 1) := by decide +kernel
theorem dX5_readLine_64 : decode cX5_readLine 64 = .ok (.invokevirtual 92, 3) := by decide +kernel
theorem dX5_readLine_67 : decode cX5_readLine 67 = .ok (.goto 57, 3) := by decide +kernel
theorem dX5_readLine_70 : decode cX5_readLine 70 = .ok (.aload_n 0, 1) := by decide +kernel
theorem dX5_readLine_71 : decode cX5_readLine 71 = .ok (.invokevirtual 95, 3) := by decide +kernel
theorem dX5_readLine_74 : decode cX5_readLine 74 = .ok (.goto 50, 3) := by decide +kernel
theorem dX5_readLine_77 : decode cX5_readLine 77 = .ok (.aload_n 0, 1) := by decide +kernel
theorem dX5_readLine_78 : decode cX5_readLine 78 = .ok (.invokevirtual 98, 3) := by decide +kernel
theorem dX5_readLine_81 : decode cX5_readLine 81 = .ok (.goto 43, 3) := by decide +kernel
theorem dX5_readLine_84 : decode cX5_readLine 84 = .ok (.aload_n 0, 1) := by decide +kernel
theorem dX5_readLine_85 : decode cX5_readLine 85 = .ok (.invokevirtual 101, 3) := by decide +kernel
theorem dX5_readLine_88 : decode cX5_readLine 88 = .ok (.goto 36, 3) := by decide +kernel
theorem dX5_readLine_91 : decode cX5_readLine 91 = .ok (.aload_n 0, 1) := by decide +kernel
theorem dX5_readLine_92 : decode cX5_readLine 92 = .ok (.invokevirtual 79, 3) := by decide +kernel
theorem dX5_readLine_95 : decode cX5_readLine 95 = .ok (.aload_n 0, 1) := by decide +kernel
theorem dX5_readLine_96 : decode cX5_readLine 96 = .ok (.getfield 35, 3) := by decide +kernel
theorem dX5_readLine_99 : decode cX5_readLine 99 = .ok (.aload_n 0, 1) := by decide +kernel
theorem dX5_readLine_100 : decode cX5_readLine 100 = .ok (.iconst 0, 1) := by decide +kernel
theorem dX5_readLine_101 : decode cX5_readLine 101 = .ok (.aload_n 0, 1) := by decide +kernel
theorem dX5_readLine_102 : decode cX5_readLine 102 = .ok (.getfield 28, 3) := by decide +kernel
theorem dX5_readLine_105 : decode cX5_readLine 105 = .ok (.getfield 104, 3) := by decide +kernel
theorem dX5_readLine_108 : decode cX5_readLine 108 = .ok (.iconst 1, 1) := by decide +kernel
theorem dX5_readLine_109 : decode cX5_readLine 109 = .ok (.isub, 1) := by decide +kernel
theorem dX5_readLine_110 : decode cX5_readLine 110 = .ok (.invokevirtual 107, 3) := by decide +kernel
theorem dX5_readLine_113 : decode cX5_readLine 113 = .ok (.putfield 111, 3) := by decide +kernel
theorem dX5_readLine_116 : decode cX5_readLine 116 = .ok (.goto 8, 3) := by decide +kernel
theorem dX5_readLine_119 : decode cX5_readLine 119 = .ok (.aload_n 0, 1) := by decide +kernel
theorem dX5_readLine_120 : decode cX5_readLine 120 = .ok (.iconst 2, 1) := by decide +kernel
theorem dX5_readLine_121 : decode cX5_readLine 121 = .ok (.invokevirtual 82, 3) := by decide +kernel
theorem dX5_readLine_124 : decode cX5_readLine 124 = .ok (.aload_n 0, 1) := by decide +kernel
theorem dX5_readLine_125 : decode cX5_readLine 125 = .ok (.bipush 59, 2) := by decide +kernel
theorem dX5_readLine_127 : decode cX5_readLine 127 = .ok (.invokevirtual 114, 3) := by decide +kernel
theorem dX5_readLine_130 : decode cX5_readLine 130 = .ok (.aload_n 0, 1) := by decide +kernel
theorem dX5_readLine_131 : decode cX5_readLine 131 = .ok (.getfield 28, 3) := by decide +kernel
theorem dX5_readLine_134 : decode cX5_readLine 134 = .ok (.dup, 1) := by decide +kernel
theorem dX5_readLine_135 : decode cX5_readLine 135 = .ok (.getfield 117, 3) := by decide +kernel
theorem dX5_readLine_138 : decode cX5_readLine 138 = .ok (.iconst 1, 1) := by decide +kernel
theorem dX5_readLine_139 : decode cX5_readLine 139 = .ok (.iadd, 1) := by decide +kernel
theorem dX5_readLine_140 : decode cX5_readLine 140 = .ok (.putfield 117, 3) := by decide +kernel
theorem dX5_readLine_143 : decode cX5_readLine 143 = .ok (.return_, 1) := by decide +kernel
theorem dX5_readWorld_0 : decode cX5_readWorld 0 = .ok (.aload_n 0, 1) := by decide +kernel
theorem dX5_readWorld_1 : decode cX5_readWorld 1 = .ok (.getfield 28, 3) := by decide +kernel
theorem dX5_readWorld_4 : decode cX5_readWorld 4 = .ok (.getfield 104, 3) := by decide +kernel
theorem dX5_readWorld_7 : decode cX5_readWorld 7 = .ok (.istore_n 1, 1) := by decide +kernel
theorem dX5_readWorld_8 : decode cX5_readWorld 8 = .ok (.iload_n 1, 1) := by decide +kernel
theorem dX5_readWorld_9 : decode cX5_readWorld 9 = .ok (.bipush 16, 2) := by decide +kernel
theorem dX5_readWorld_11 : decode cX5_readWorld 11 = .ok (.if_icmp .lt 9, 3) := by decide +kernel
theorem dX5_readWorld_14 : decode cX5_readWorld 14 = .ok (.aload_n 0, 1) := by decide +kernel
theorem dX5_readWorld_15 : decode cX5_readWorld 15 = .ok (.iconst 4, 1) := by decide +kernel
theorem dX5_readWorld_16 : decode cX5_readWorld 16 = .ok (.invokevirtual 82, 3) := by decide +kernel
theorem dX5_readWorld_19 : decode cX5_readWorld 19 = .ok (.return_, 1) := by decide +kernel
theorem dX5_readWorld_20 : decode cX5_readWorld 20 = .ok (.aload_n 0, 1) := by decide +kernel
theorem dX5_readWorld_21 : decode cX5_readWorld 21 = .ok (.invokevirtual 79, 3) := by decide +kernel
theorem dX5_readWorld_24 : decode cX5_readWorld 24 = .ok (.iconst 0, 1) := by decide +kernel
theorem dX5_readWorld_25 : decode cX5_readWorld 25 = .ok (.istore_n 2, 1) := by decide +kernel
theorem dX5_readWorld_26 : decode cX5_readWorld 26 = .ok (.iload_n 2, 1) := by decide +kernel
theorem dX5_readWorld_27 : decode cX5_readWorld 27 = .ok (.iconst 3, 1) := by decide +kernel
theorem dX5_readWorld_28 : decode cX5_readWorld 28 = .ok (.if_icmp .ge 29, 3) := by decide +kernel
theorem dX5_readWorld_31 : decode cX5_readWorld 31 = .ok (.aload_n 0, 1) := by decide +kernel
theorem dX5_readWorld_32 : decode cX5_readWorld 32 = .ok (.getfield 28, 3) := by decide +kernel
theorem dX5_readWorld_35 : decode cX5_readWorld 35 = .ok (.getfield 120, 3) := by decide +kernel
theorem dX5_readWorld_38 : decode cX5_readWorld 38 = .ok (.iconst 3, 1) := by decide +kernel
theorem dX5_readWorld_39 : decode cX5_readWorld 39 = .ok (.iload_n 1, 1) := by decide +kernel
theorem dX5_readWorld_40 : decode cX5_readWorld 40 = .ok (.imul, 1) := by decide +kernel
theorem dX5_readWorld_41 : decode cX5_readWorld 41 = .ok (.iload_n 2, 1) := by decide +kernel
theorem dX5_readWorld_42 : decode cX5_readWorld 42 = .ok (.iadd, 1) := by decide +kernel
theorem dX5_readWorld_43 : decode cX5_readWorld 43 = .ok (.aload_n 0, 1) := by decide +kernel
theorem dX5_readWorld_44 : decode cX5_readWorld 44 = .ok (.iconst 0, 1) := by decide +kernel
theorem dX5_readWorld_45 : decode cX5_readWorld 45 = .ok (.bipush 99, 2) := by decide +kernel
theorem dX5_readWorld_47 : decode cX5_readWorld 47 = .ok (.invokevirtual 107, 3) := by decide +kernel
theorem dX5_readWorld_50 : decode cX5_readWorld 50 = .ok (.iastore, 1) := by decide +kernel
theorem dX5_readWorld_51 : decode cX5_readWorld 51 = .ok (.iinc 2 1, 3) := by decide +kernel
theorem dX5_readWorld_54 : decode cX5_readWorld 54 = .ok (.goto (-28), 3) := by decide +kernel
theorem dX5_readWorld_57 : decode cX5_readWorld 57 = .ok (.aload_n 0, 1) := by decide +kernel
theorem dX5_readWorld_58 : decode cX5_readWorld 58 = .ok (.getfield 28, 3) := by decide +kernel
theorem dX5_readWorld_61 : decode cX5_readWorld 61 = .ok (.getfield 123, 3) := by decide +kernel
theorem dX5_readWorld_64 : decode cX5_readWorld 64 = .ok (.iload_n 1, 1) := by decide +kernel
theorem dX5_readWorld_65 : decode cX5_readWorld 65 = .ok (.iconst 1, 1) := by decide +kernel
theorem dX5_readWorld_66 : decode cX5_readWorld 66 = .ok (.iastore, 1) := by decide +kernel
theorem dX5_readWorld_67 : decode cX5_readWorld 67 = .ok (.aload_n 0, 1) := by decide +kernel
theorem dX5_readWorld_68 : decode cX5_readWorld 68 = .ok (.invokevirtual 58, 3) := by decide +kernel
theorem dX5_readWorld_71 : decode cX5_readWorld 71 = .ok (.bipush 102, 2) := by decide +kernel
theorem dX5_readWorld_73 : decode cX5_readWorld 73 = .ok (.if_icmp .ne 23, 3) := by decide +kernel
theorem dX5_readWorld_76 : decode cX5_readWorld 76 = .ok (.aload_n 0, 1) := by decide +kernel
theorem dX5_readWorld_77 : decode cX5_readWorld 77 = .ok (.invokevirtual 79, 3) := by decide +kernel
theorem dX5_readWorld_80 : decode cX5_readWorld 80 = .ok (.aload_n 0, 1) := by decide +kernel
theorem dX5_readWorld_81 : decode cX5_readWorld 81 = .ok (.getfield 28, 3) := by decide +kernel
theorem dX5_readWorld_84 : decode cX5_readWorld 84 = .ok (.getfield 123, 3) := by decide +kernel
theorem dX5_readWorld_87 : decode cX5_readWorld 87 = .ok (.iload_n 1, 1) := by decide +kernel
theorem dX5_readWorld_88 : decode cX5_readWorld 88 = .ok (.aload_n 0, 1) := by decide +kernel
theorem dX5_readWorld_89 : decode cX5_readWorld 89 = .ok (.iconst 1, 1) := by decide +kernel
theorem dX5_readWorld_90 : decode cX5_readWorld 90 = .ok (.bipush 9, 2) := by decide +kernel
theorem dX5_readWorld_92 : decode cX5_readWorld 92 = .ok (.invokevirtual 107, 3) := by decide +kernel
theorem dX5_readWorld_95 : decode cX5_readWorld 95 = .ok (.iastore, 1) := by decide +kernel
theorem dX5_readWorld_96 : decode cX5_readWorld 96 = .ok (.aload_n 0, 1) := by decide +kernel
theorem dX5_readWorld_97 : decode cX5_readWorld 97 = .ok (.invokevirtual 58, 3) := by decide +kernel
theorem dX5_readWorld_100 : decode cX5_readWorld 100 = .ok (.bipush 103, 2) := by decide +kernel
theorem dX5_readWorld_102 : decode cX5_readWorld 102 = .ok (.if_icmp .ne 22, 3) := by decide +kernel
theorem dX5_readWorld_105 : decode cX5_readWorld 105 = .ok (.aload_n 0, 1) := by decide +kernel
theorem dX5_readWorld_106 : decode cX5_readWorld 106 = .ok (.invokevirtual 79, 3) := by decide +kernel
theorem dX5_readWorld_109 : decode cX5_readWorld 109 = .ok (.aload_n 0, 1) := by decide +kernel
theorem dX5_readWorld_110 : decode cX5_readWorld 110 = .ok (.getfield 28, 3) := by decide +kernel
theorem dX5_readWorld_113 : decode cX5_readWorld 113 = .ok (.dup, 1) := by decide +kernel
theorem dX5_readWorld_114 : decode cX5_readWorld 114 = .ok (.getfield 126, 3) := by decide +kernel
theorem dX5_readWorld_117 : decode cX5_readWorld 117 = .ok (.iconst 1, 1) := by decide +kernel
theorem dX5_readWorld_118 : decode cX5_readWorld 118 = .ok (.iload_n 1, 1) := by decide +kernel
theorem dX5_readWorld_119 : decode cX5_readWorld 119 = .ok (.ishl, 1) := by decide +kernel
theorem dX5_readWorld_120 : decode cX5_readWorld 120 = .ok (.ior, 1) := by decide +kernel
theorem dX5_readWorld_121 : decode cX5_readWorld 121 = .ok (.putfield 126, 3) := by decide +kernel
theorem dX5_readWorld_124 : decode cX5_readWorld 124 = .ok (.aload_n 0, 1) := by decide +kernel
theorem dX5_readWorld_125 : decode cX5_readWorld 125 = .ok (.getfield 28, 3) := by decide +kernel
theorem dX5_readWorld_128 : decode cX5_readWorld 128 = .ok (.dup, 1) := by decide +kernel
theorem dX5_readWorld_129 : decode cX5_readWorld 129 = .ok (.getfield 104, 3) := by decide +kernel
theorem dX5_readWorld_132 : decode cX5_readWorld 132 = .ok (.iconst 1, 1) := by decide +kernel
theorem dX5_readWorld_133 : decode cX5_readWorld 133 = .ok (.iadd, 1) := by decide +kernel
theorem dX5_readWorld_134 : decode cX5_readWorld 134 = .ok (.putfield 104, 3) := by decide +kernel
theorem dX5_readWorld_137 : decode cX5_readWorld 137 = .ok (.return_, 1) := by decide +kernel
theorem dX5_readFact_0 : decode cX5_readFact 0 = .ok (.aload_n 0, 1) := by decide +kernel
theorem dX5_readFact_1 : decode cX5_readFact 1 = .ok (.getfield 28, 3) := by decide +kernel
theorem dX5_readFact_4 : decode cX5_readFact 4 = .ok (.getfield 129, 3) := by decide +kernel
theorem dX5_readFact_7 : decode cX5_readFact 7 = .ok (.bipush 8, 2) := by decide +kernel
theorem dX5_readFact_9 : decode cX5_readFact 9 = .ok (.if_icmp .lt 9, 3) := by decide +kernel
theorem dX5_readFact_12 : decode cX5_readFact 12 = .ok (.aload_n 0, 1) := by decide +kernel
theorem dX5_readFact_13 : decode cX5_readFact 13 = .ok (.iconst 4, 1) := by decide +kernel
theorem dX5_readFact_14 : decode cX5_readFact 14 = .ok (.invokevirtual 82, 3) := by decide +kernel
theorem dX5_readFact_17 : decode cX5_readFact 17 = .ok (.return_, 1) := by decide +kernel
theorem dX5_readFact_18 : decode cX5_readFact 18 = .ok (.aload_n 0, 1) := by decide +kernel
theorem dX5_readFact_19 : decode cX5_readFact 19 = .ok (.invokevirtual 79, 3) := by decide +kernel
theorem dX5_readFact_22 : decode cX5_readFact 22 = .ok (.aload_n 0, 1) := by decide +kernel
theorem dX5_readFact_23 : decode cX5_readFact 23 = .ok (.bipush 58, 2) := by decide +kernel
theorem dX5_readFact_25 : decode cX5_readFact 25 = .ok (.invokevirtual 114, 3) := by decide +kernel
theorem dX5_readFact_28 : decode cX5_readFact 28 = .ok (.aload_n 0, 1) := by decide +kernel
theorem dX5_readFact_29 : decode cX5_readFact 29 = .ok (.iconst 0, 1) := by decide +kernel
theorem dX5_readFact_30 : decode cX5_readFact 30 = .ok (.invokevirtual 132, 3) := by decide +kernel
theorem dX5_readFact_33 : decode cX5_readFact 33 = .ok (.aload_n 0, 1) := by decide +kernel
theorem dX5_readFact_34 : decode cX5_readFact 34 = .ok (.getfield 21, 3) := by decide +kernel
theorem dX5_readFact_37 : decode cX5_readFact 37 = .ok (.aload_n 0, 1) := by decide +kernel
theorem dX5_readFact_38 : decode cX5_readFact 38 = .ok (.getfield 28, 3) := by decide +kernel
theorem dX5_readFact_41 : decode cX5_readFact 41 = .ok (.getfield 129, 3) := by decide +kernel
theorem dX5_readFact_44 : decode cX5_readFact 44 = .ok (.invokevirtual 135, 3) := by decide +kernel
theorem dX5_readFact_47 : decode cX5_readFact 47 = .ok (.aload_n 0, 1) := by decide +kernel
theorem dX5_readFact_48 : decode cX5_readFact 48 = .ok (.getfield 28, 3) := by decide +kernel
theorem dX5_readFact_51 : decode cX5_readFact 51 = .ok (.dup, 1) := by decide +kernel
theorem dX5_readFact_52 : decode cX5_readFact 52 = .ok (.getfield 129, 3) := by decide +kernel
theorem dX5_readFact_55 : decode cX5_readFact 55 = .ok (.iconst 1, 1) := by decide +kernel
theorem dX5_readFact_56 : decode cX5_readFact 56 = .ok (.iadd, 1) := by decide +kernel
theorem dX5_readFact_57 : decode cX5_readFact 57 = .ok (.putfield 129, 3) := by decide +kernel
theorem dX5_readFact_60 : decode cX5_readFact 60 = .ok (.return_, 1) := by decide +kernel
theorem dX5_readPerson_0 : decode cX5_readPerson 0 = .ok (.aload_n 0, 1) := by decide +kernel
theorem dX5_readPerson_1 : decode cX5_readPerson 1 = .ok (.getfield 28, 3) := by decide +kernel
theorem dX5_readPerson_4 : decode cX5_readPerson 4 = .ok (.getfield 138, 3) := by decide +kernel
theorem dX5_readPerson_7 : decode cX5_readPerson 7 = .ok (.istore_n 1, 1) := by decide +kernel
theorem dX5_readPerson_8 : decode cX5_readPerson 8 = .ok (.iload_n 1, 1) := by decide +kernel
theorem dX5_readPerson_9 : decode cX5_readPerson 9 = .ok (.bipush 6, 2) := by decide +kernel
theorem dX5_readPerson_11 : decode cX5_readPerson 11 = .ok (.if_icmp .lt 9, 3) := by decide +kernel
theorem dX5_readPerson_14 : decode cX5_readPerson 14 = .ok (.aload_n 0, 1) := by decide +kernel
theorem dX5_readPerson_15 : decode cX5_readPerson 15 = .ok (.iconst 4, 1) := by decide +kernel
theorem dX5_readPerson_16 : decode cX5_readPerson 16 = .ok (.invokevirtual 82, 3) := by decide +kernel
theorem dX5_readPerson_19 : decode cX5_readPerson 19 = .ok (.return_, 1) := by decide +kernel
theorem dX5_readPerson_20 : decode cX5_readPerson 20 = .ok (.aload_n 0, 1) := by decide +kernel
theorem dX5_readPerson_21 : decode cX5_readPerson 21 = .ok (.invokevirtual 79, 3) := by decide +kernel
theorem dX5_readPerson_24 : decode cX5_readPerson 24 = .ok (.aload_n 0, 1) := by decide +kernel
theorem dX5_readPerson_25 : decode cX5_readPerson 25 = .ok (.invokevirtual 58, 3) := by decide +kernel
theorem dX5_readPerson_28 : decode cX5_readPerson 28 = .ok (.bipush 106, 2) := by decide +kernel
theorem dX5_readPerson_30 : decode cX5_readPerson 30 = .ok (.if_icmp .ne 83, 3) := by decide +kernel
theorem dX5_readPerson_33 : decode cX5_readPerson 33 = .ok (.aload_n 0, 1) := by decide +kernel
theorem dX5_readPerson_34 : decode cX5_readPerson 34 = .ok (.invokevirtual 79, 3) := by decide +kernel
theorem dX5_readPerson_37 : decode cX5_readPerson 37 = .ok (.aload_n 0, 1) := by decide +kernel
theorem dX5_readPerson_38 : decode cX5_readPerson 38 = .ok (.getfield 35, 3) := by decide +kernel
theorem dX5_readPerson_41 : decode cX5_readPerson 41 = .ok (.getfield 141, 3) := by decide +kernel
theorem dX5_readPerson_44 : decode cX5_readPerson 44 = .ok (.iload_n 1, 1) := by decide +kernel
theorem dX5_readPerson_45 : decode cX5_readPerson 45 = .ok (.iconst 1, 1) := by decide +kernel
theorem dX5_readPerson_46 : decode cX5_readPerson 46 = .ok (.aload_n 0, 1) := by decide +kernel
theorem dX5_readPerson_47 : decode cX5_readPerson 47 = .ok (.iconst 0, 1) := by decide +kernel
theorem dX5_readPerson_48 : decode cX5_readPerson 48 = .ok (.aload_n 0, 1) := by decide +kernel
theorem dX5_readPerson_49 : decode cX5_readPerson 49 = .ok (.getfield 28, 3) := by decide +kernel
theorem dX5_readPerson_52 : decode cX5_readPerson 52 = .ok (.getfield 129, 3) := by decide +kernel
theorem dX5_readPerson_55 : decode cX5_readPerson 55 = .ok (.iconst 1, 1) := by decide +kernel
theorem dX5_readPerson_56 : decode cX5_readPerson 56 = .ok (.isub, 1) := by decide +kernel
theorem dX5_readPerson_57 : decode cX5_readPerson 57 = .ok (.invokevirtual 107, 3) := by decide +kernel
theorem dX5_readPerson_60 : decode cX5_readPerson 60 = .ok (.ishl, 1) := by decide +kernel
theorem dX5_readPerson_61 : decode cX5_readPerson 61 = .ok (.iastore, 1) := by decide +kernel
theorem dX5_readPerson_62 : decode cX5_readPerson 62 = .ok (.iconst 0, 1) := by decide +kernel
theorem dX5_readPerson_63 : decode cX5_readPerson 63 = .ok (.istore_n 2, 1) := by decide +kernel
theorem dX5_readPerson_64 : decode cX5_readPerson 64 = .ok (.iload_n 2, 1) := by decide +kernel
theorem dX5_readPerson_65 : decode cX5_readPerson 65 = .ok (.sipush 900, 3) := by decide +kernel
theorem dX5_readPerson_68 : decode cX5_readPerson 68 = .ok (.if_icmp .ge 45, 3) := by decide +kernel
theorem dX5_readPerson_71 : decode cX5_readPerson 71 = .ok (.aload_n 0, 1) := by decide +kernel
theorem dX5_readPerson_72 : decode cX5_readPerson 72 = .ok (.invokevirtual 58, 3) := by decide +kernel
theorem dX5_readPerson_75 : decode cX5_readPerson 75 = .ok (.iconst 2, 1) := by decide +kernel
theorem dX5_readPerson_76 : decode cX5_readPerson 76 = .ok (.if_icmp .ne 37, 3) := by decide +kernel
theorem dX5_readPerson_79 : decode cX5_readPerson 79 = .ok (.aload_n 0, 1) := by decide +kernel
theorem dX5_readPerson_80 : decode cX5_readPerson 80 = .ok (.getfield 35, 3) := by decide +kernel
theorem dX5_readPerson_83 : decode cX5_readPerson 83 = .ok (.getfield 141, 3) := by decide +kernel
theorem dX5_readPerson_86 : decode cX5_readPerson 86 = .ok (.iload_n 1, 1) := by decide +kernel
theorem dX5_readPerson_87 : decode cX5_readPerson 87 = .ok (.dup2, 1) := by decide +kernel
theorem dX5_readPerson_88 : decode cX5_readPerson 88 = .ok (.iaload, 1) := by decide +kernel
theorem dX5_readPerson_89 : decode cX5_readPerson 89 = .ok (.iconst 1, 1) := by decide +kernel
theorem dX5_readPerson_90 : decode cX5_readPerson 90 = .ok (.aload_n 0, 1) := by decide +kernel
theorem dX5_readPerson_91 : decode cX5_readPerson 91 = .ok (.iconst 0, 1) := by decide +kernel
theorem dX5_readPerson_92 : decode cX5_readPerson 92 = .ok (.aload_n 0, 1) := by decide +kernel
theorem dX5_readPerson_93 : decode cX5_readPerson 93 = .ok (.getfield 28, 3) := by decide +kernel
theorem dX5_readPerson_96 : decode cX5_readPerson 96 = .ok (.getfield 129, 3) := by decide +kernel
theorem dX5_readPerson_99 : decode cX5_readPerson 99 = .ok (.iconst 1, 1) := by decide +kernel
theorem dX5_readPerson_100 : decode cX5_readPerson 100 = .ok (.isub, 1) := by decide +kernel
theorem dX5_readPerson_101 : decode cX5_readPerson 101 = .ok (.invokevirtual 107, 3) := by decide +kernel
theorem dX5_readPerson_104 : decode cX5_readPerson 104 = .ok (.ishl, 1) := by decide +kernel
theorem dX5_readPerson_105 : decode cX5_readPerson 105 = .ok (.ior, 1) := by decide +kernel
theorem dX5_readPerson_106 : decode cX5_readPerson 106 = .ok (.iastore, 1) := by decide +kernel
theorem dX5_readPerson_107 : decode cX5_readPerson 107 = .ok (.iinc 2 1, 3) := by decide +kernel
theorem dX5_readPerson_110 : decode cX5_readPerson 110 = .ok (.goto (-46), 3) := by decide +kernel
theorem dX5_readPerson_113 : decode cX5_readPerson 113 = .ok (.aload_n 0, 1) := by decide +kernel
theorem dX5_readPerson_114 : decode cX5_readPerson 114 = .ok (.getfield 28, 3) := by decide +kernel
theorem dX5_readPerson_117 : decode cX5_readPerson 117 = .ok (.dup, 1) := by decide +kernel
theorem dX5_readPerson_118 : decode cX5_readPerson 118 = .ok (.getfield 138, 3) := by decide +kernel
theorem dX5_readPerson_121 : decode cX5_readPerson 121 = .ok (.iconst 1, 1) := by decide +kernel
theorem dX5_readPerson_122 : decode cX5_readPerson 122 = .ok (.iadd, 1) := by decide +kernel
theorem dX5_readPerson_123 : decode cX5_readPerson 123 = .ok (.putfield 138, 3) := by decide +kernel
theorem dX5_readPerson_126 : decode cX5_readPerson 126 = .ok (.return_, 1) := by decide +kernel
theorem dX5_readRoad_0 : decode cX5_readRoad 0 = .ok (.aload_n 0, 1) := by decide +kernel
theorem dX5_readRoad_1 : decode cX5_readRoad 1 = .ok (.invokevirtual 79, 3) := by decide +kernel
theorem dX5_readRoad_4 : decode cX5_readRoad 4 = .ok (.aload_n 0, 1) := by decide +kernel
theorem dX5_readRoad_5 : decode cX5_readRoad 5 = .ok (.iconst 0, 1) := by decide +kernel
theorem dX5_readRoad_6 : decode cX5_readRoad 6 = .ok (.aload_n 0, 1) := by decide +kernel
theorem dX5_readRoad_7 : decode cX5_readRoad 7 = .ok (.getfield 28, 3) := by decide +kernel
theorem dX5_readRoad_10 : decode cX5_readRoad 10 = .ok (.getfield 138, 3) := by decide +kernel
theorem dX5_readRoad_13 : decode cX5_readRoad 13 = .ok (.iconst 1, 1) := by decide +kernel
theorem dX5_readRoad_14 : decode cX5_readRoad 14 = .ok (.isub, 1) := by decide +kernel
theorem dX5_readRoad_15 : decode cX5_readRoad 15 = .ok (.invokevirtual 107, 3) := by decide +kernel
theorem dX5_readRoad_18 : decode cX5_readRoad 18 = .ok (.istore_n 1, 1) := by decide +kernel
theorem dX5_readRoad_19 : decode cX5_readRoad 19 = .ok (.aload_n 0, 1) := by decide +kernel
theorem dX5_readRoad_20 : decode cX5_readRoad 20 = .ok (.invokevirtual 58, 3) := by decide +kernel
theorem dX5_readRoad_23 : decode cX5_readRoad 23 = .ok (.iconst 2, 1) := by decide +kernel
theorem dX5_readRoad_24 : decode cX5_readRoad 24 = .ok (.if_icmp .ne 24, 3) := by decide +kernel
theorem dX5_readRoad_27 : decode cX5_readRoad 27 = .ok (.aload_n 0, 1) := by decide +kernel
theorem dX5_readRoad_28 : decode cX5_readRoad 28 = .ok (.getfield 12, 3) := by decide +kernel
theorem dX5_readRoad_31 : decode cX5_readRoad 31 = .ok (.getfield 86, 3) := by decide +kernel
theorem dX5_readRoad_34 : decode cX5_readRoad 34 = .ok (.aload_n 0, 1) := by decide +kernel
theorem dX5_readRoad_35 : decode cX5_readRoad 35 = .ok (.getfield 55, 3) := by decide +kernel
theorem dX5_readRoad_38 : decode cX5_readRoad 38 = .ok (.iaload, 1) := by decide +kernel
theorem dX5_readRoad_39 : decode cX5_readRoad 39 = .ok (.iload_n 1, 1) := by decide +kernel
theorem dX5_readRoad_40 : decode cX5_readRoad 40 = .ok (.if_icmp .ne 8, 3) := by decide +kernel
theorem dX5_readRoad_43 : decode cX5_readRoad 43 = .ok (.aload_n 0, 1) := by decide +kernel
theorem dX5_readRoad_44 : decode cX5_readRoad 44 = .ok (.iconst 3, 1) := by decide +kernel
theorem dX5_readRoad_45 : decode cX5_readRoad 45 = .ok (.invokevirtual 82, 3) := by decide +kernel
theorem dX5_readRoad_48 : decode cX5_readRoad 48 = .ok (.aload_n 0, 1) := by decide +kernel
theorem dX5_readRoad_49 : decode cX5_readRoad 49 = .ok (.iconst 0, 1) := by decide +kernel
theorem dX5_readRoad_50 : decode cX5_readRoad 50 = .ok (.aload_n 0, 1) := by decide +kernel
theorem dX5_readRoad_51 : decode cX5_readRoad 51 = .ok (.getfield 28, 3) := by decide +kernel
theorem dX5_readRoad_54 : decode cX5_readRoad 54 = .ok (.getfield 138, 3) := by decide +kernel
theorem dX5_readRoad_57 : decode cX5_readRoad 57 = .ok (.iconst 1, 1) := by decide +kernel
theorem dX5_readRoad_58 : decode cX5_readRoad 58 = .ok (.isub, 1) := by decide +kernel
theorem dX5_readRoad_59 : decode cX5_readRoad 59 = .ok (.invokevirtual 107, 3) := by decide +kernel
theorem dX5_readRoad_62 : decode cX5_readRoad 62 = .ok (.istore_n 2, 1) := by decide +kernel
theorem dX5_readRoad_63 : decode cX5_readRoad 63 = .ok (.aload_n 0, 1) := by decide +kernel
theorem dX5_readRoad_64 : decode cX5_readRoad 64 = .ok (.getfield 52, 3) := by decide +kernel
theorem dX5_readRoad_67 : decode cX5_readRoad 67 = .ok (.ifCond .ne 33, 3) := by decide +kernel
theorem dX5_readRoad_70 : decode cX5_readRoad 70 = .ok (.aload_n 0, 1) := by decide +kernel
theorem dX5_readRoad_71 : decode cX5_readRoad 71 = .ok (.getfield 28, 3) := by decide +kernel
theorem dX5_readRoad_74 : decode cX5_readRoad 74 = .ok (.getfield 144, 3) := by decide +kernel
theorem dX5_readRoad_77 : decode cX5_readRoad 77 = .ok (.iload_n 1, 1) := by decide +kernel
theorem dX5_readRoad_78 : decode cX5_readRoad 78 = .ok (.dup2, 1) := by decide +kernel
theorem dX5_readRoad_79 : decode cX5_readRoad 79 = .ok (.iaload, 1) := by decide +kernel
theorem dX5_readRoad_80 : decode cX5_readRoad 80 = .ok (.iconst 1, 1) := by decide +kernel
theorem dX5_readRoad_81 : decode cX5_readRoad 81 = .ok (.iload_n 2, 1) := by decide +kernel
theorem dX5_readRoad_82 : decode cX5_readRoad 82 = .ok (.ishl, 1) := by decide +kernel
theorem dX5_readRoad_83 : decode cX5_readRoad 83 = .ok (.ior, 1) := by decide +kernel
theorem dX5_readRoad_84 : decode cX5_readRoad 84 = .ok (.iastore, 1) := by decide +kernel
theorem dX5_readRoad_85 : decode cX5_readRoad 85 = .ok (.aload_n 0, 1) := by decide +kernel
theorem dX5_readRoad_86 : decode cX5_readRoad 86 = .ok (.getfield 28, 3) := by decide +kernel
theorem dX5_readRoad_89 : decode cX5_readRoad 89 = .ok (.getfield 144, 3) := by decide +kernel
theorem dX5_readRoad_92 : decode cX5_readRoad 92 = .ok (.iload_n 2, 1) := by decide +kernel
theorem dX5_readRoad_93 : decode cX5_readRoad 93 = .ok (.dup2, 1) := by decide +kernel
theorem dX5_readRoad_94 : decode cX5_readRoad 94 = .ok (.iaload, 1) := by decide +kernel
theorem dX5_readRoad_95 : decode cX5_readRoad 95 = .ok (.iconst 1, 1) := by decide +kernel
theorem dX5_readRoad_96 : decode cX5_readRoad 96 = .ok (.iload_n 1, 1) := by decide +kernel
theorem dX5_readRoad_97 : decode cX5_readRoad 97 = .ok (.ishl, 1) := by decide +kernel
theorem dX5_readRoad_98 : decode cX5_readRoad 98 = .ok (.ior, 1) := by decide +kernel
theorem dX5_readRoad_99 : decode cX5_readRoad 99 = .ok (.iastore, 1) := by decide +kernel
theorem dX5_readRoad_100 : decode cX5_readRoad 100 = .ok (.return_, 1) := by decide +kernel
theorem dX5_readHint_0 : decode cX5_readHint 0 = .ok (.aload_n 0, 1) := by decide +kernel
theorem dX5_readHint_1 : decode cX5_readHint 1 = .ok (.invokevirtual 79, 3) := by decide +kernel
theorem dX5_readHint_4 : decode cX5_readHint 4 = .ok (.aload_n 0, 1) := by decide +kernel
theorem dX5_readHint_5 : decode cX5_readHint 5 = .ok (.iconst 0, 1) := by decide +kernel
theorem dX5_readHint_6 : decode cX5_readHint 6 = .ok (.aload_n 0, 1) := by decide +kernel
theorem dX5_readHint_7 : decode cX5_readHint 7 = .ok (.getfield 28, 3) := by decide +kernel
theorem dX5_readHint_10 : decode cX5_readHint 10 = .ok (.getfield 129, 3) := by decide +kernel
theorem dX5_readHint_13 : decode cX5_readHint 13 = .ok (.iconst 1, 1) := by decide +kernel
theorem dX5_readHint_14 : decode cX5_readHint 14 = .ok (.isub, 1) := by decide +kernel
theorem dX5_readHint_15 : decode cX5_readHint 15 = .ok (.invokevirtual 107, 3) := by decide +kernel
theorem dX5_readHint_18 : decode cX5_readHint 18 = .ok (.istore_n 1, 1) := by decide +kernel
theorem dX5_readHint_19 : decode cX5_readHint 19 = .ok (.aload_n 0, 1) := by decide +kernel
theorem dX5_readHint_20 : decode cX5_readHint 20 = .ok (.getfield 28, 3) := by decide +kernel
theorem dX5_readHint_23 : decode cX5_readHint 23 = .ok (.getfield 147, 3) := by decide +kernel
theorem dX5_readHint_26 : decode cX5_readHint 26 = .ok (.iload_n 1, 1) := by decide +kernel
theorem dX5_readHint_27 : decode cX5_readHint 27 = .ok (.dup2, 1) := by decide +kernel
theorem dX5_readHint_28 : decode cX5_readHint 28 = .ok (.iaload, 1) := by decide +kernel
theorem dX5_readHint_29 : decode cX5_readHint 29 = .ok (.iconst 1, 1) := by decide +kernel
theorem dX5_readHint_30 : decode cX5_readHint 30 = .ok (.aload_n 0, 1) := by decide +kernel
theorem dX5_readHint_31 : decode cX5_readHint 31 = .ok (.iconst 0, 1) := by decide +kernel
theorem dX5_readHint_32 : decode cX5_readHint 32 = .ok (.aload_n 0, 1) := by decide +kernel
theorem dX5_readHint_33 : decode cX5_readHint 33 = .ok (.getfield 28, 3) := by decide +kernel
theorem dX5_readHint_36 : decode cX5_readHint 36 = .ok (.getfield 129, 3) := by decide +kernel
theorem dX5_readHint_39 : decode cX5_readHint 39 = .ok (.iconst 1, 1) := by decide +kernel
theorem dX5_readHint_40 : decode cX5_readHint 40 = .ok (.isub, 1) := by decide +kernel
theorem dX5_readHint_41 : decode cX5_readHint 41 = .ok (.invokevirtual 107, 3) := by decide +kernel
theorem dX5_readHint_44 : decode cX5_readHint 44 = .ok (.ishl, 1) := by decide +kernel
theorem dX5_readHint_45 : decode cX5_readHint 45 = .ok (.ior, 1) := by decide +kernel
theorem dX5_readHint_46 : decode cX5_readHint 46 = .ok (.iastore, 1) := by decide +kernel
theorem dX5_readHint_47 : decode cX5_readHint 47 = .ok (.return_, 1) := by decide +kernel
theorem dX5_isTooDeep_0 : decode cX5_isTooDeep 0 = .ok (.iload_n 1, 1) := by decide +kernel
theorem dX5_isTooDeep_1 : decode cX5_isTooDeep 1 = .ok (.bipush 6, 2) := by decide +kernel
theorem dX5_isTooDeep_3 : decode cX5_isTooDeep 3 = .ok (.if_icmp .lt 10, 3) := by decide +kernel
theorem dX5_isTooDeep_6 : decode cX5_isTooDeep 6 = .ok (.aload_n 0, 1) := by decide +kernel
theorem dX5_isTooDeep_7 : decode cX5_isTooDeep 7 = .ok (.iconst 4, 1) := by decide +kernel
theorem dX5_isTooDeep_8 : decode cX5_isTooDeep 8 = .ok (.invokevirtual 82, 3) := by decide +kernel
theorem dX5_isTooDeep_11 : decode cX5_isTooDeep 11 = .ok (.iconst 1, 1) := by decide +kernel
theorem dX5_isTooDeep_12 : decode cX5_isTooDeep 12 = .ok (.ireturn, 1) := by decide +kernel
theorem dX5_isTooDeep_13 : decode cX5_isTooDeep 13 = .ok (.iconst 0, 1) := by decide +kernel
theorem dX5_isTooDeep_14 : decode cX5_isTooDeep 14 = .ok (.ireturn, 1) := by decide +kernel
theorem dX5_readTruth_0 : decode cX5_readTruth 0 = .ok (.aload_n 0, 1) := by decide +kernel
theorem dX5_readTruth_1 : decode cX5_readTruth 1 = .ok (.iload_n 1, 1) := by decide +kernel
theorem dX5_readTruth_2 : decode cX5_readTruth 2 = .ok (.invokevirtual 150, 3) := by decide +kernel
theorem dX5_readTruth_5 : decode cX5_readTruth 5 = .ok (.iconst 0, 1) := by decide +kernel
theorem dX5_readTruth_6 : decode cX5_readTruth 6 = .ok (.istore_n 2, 1) := by decide +kernel
theorem dX5_readTruth_7 : decode cX5_readTruth 7 = .ok (.iload_n 2, 1) := by decide +kernel
theorem dX5_readTruth_8 : decode cX5_readTruth 8 = .ok (.sipush 900, 3) := by decide +kernel
theorem dX5_readTruth_11 : decode cX5_readTruth 11 = .ok (.if_icmp .ge 36, 3) := by decide +kernel
theorem dX5_readTruth_14 : decode cX5_readTruth 14 = .ok (.aload_n 0, 1) := by decide +kernel
theorem dX5_readTruth_15 : decode cX5_readTruth 15 = .ok (.invokevirtual 58, 3) := by decide +kernel
theorem dX5_readTruth_18 : decode cX5_readTruth 18 = .ok (.bipush 112, 2) := by decide +kernel
theorem dX5_readTruth_20 : decode cX5_readTruth 20 = .ok (.if_icmp .ne 27, 3) := by decide +kernel
theorem dX5_readTruth_23 : decode cX5_readTruth 23 = .ok (.aload_n 0, 1) := by decide +kernel
theorem dX5_readTruth_24 : decode cX5_readTruth 24 = .ok (.invokevirtual 79, 3) := by decide +kernel
theorem dX5_readTruth_27 : decode cX5_readTruth 27 = .ok (.aload_n 0, 1) := by decide +kernel
theorem dX5_readTruth_28 : decode cX5_readTruth 28 = .ok (.iload_n 1, 1) := by decide +kernel
theorem dX5_readTruth_29 : decode cX5_readTruth 29 = .ok (.invokevirtual 150, 3) := by decide +kernel
theorem dX5_readTruth_32 : decode cX5_readTruth 32 = .ok (.aload_n 0, 1) := by decide +kernel
theorem dX5_readTruth_33 : decode cX5_readTruth 33 = .ok (.getfield 21, 3) := by decide +kernel
theorem dX5_readTruth_36 : decode cX5_readTruth 36 = .ok (.bipush (-112), 2) := by decide +kernel
theorem dX5_readTruth_38 : decode cX5_readTruth 38 = .ok (.invokevirtual 153, 3) := by decide +kernel
theorem dX5_readTruth_41 : decode cX5_readTruth 41 = .ok (.iinc 2 1, 3) := by decide +kernel
theorem dX5_readTruth_44 : decode cX5_readTruth 44 = .ok (.goto (-37), 3) := by decide +kernel
theorem dX5_readTruth_47 : decode cX5_readTruth 47 = .ok (.return_, 1) := by decide +kernel
theorem dX5_readBoth_0 : decode cX5_readBoth 0 = .ok (.aload_n 0, 1) := by decide +kernel
theorem dX5_readBoth_1 : decode cX5_readBoth 1 = .ok (.iload_n 1, 1) := by decide +kernel
theorem dX5_readBoth_2 : decode cX5_readBoth 2 = .ok (.invokevirtual 156, 3) := by decide +kernel
theorem dX5_readBoth_5 : decode cX5_readBoth 5 = .ok (.iconst 0, 1) := by decide +kernel
theorem dX5_readBoth_6 : decode cX5_readBoth 6 = .ok (.istore_n 2, 1) := by decide +kernel
theorem dX5_readBoth_7 : decode cX5_readBoth 7 = .ok (.iload_n 2, 1) := by decide +kernel
theorem dX5_readBoth_8 : decode cX5_readBoth 8 = .ok (.sipush 900, 3) := by decide +kernel
theorem dX5_readBoth_11 : decode cX5_readBoth 11 = .ok (.if_icmp .ge 36, 3) := by decide +kernel
theorem dX5_readBoth_14 : decode cX5_readBoth 14 = .ok (.aload_n 0, 1) := by decide +kernel
theorem dX5_readBoth_15 : decode cX5_readBoth 15 = .ok (.invokevirtual 58, 3) := by decide +kernel
theorem dX5_readBoth_18 : decode cX5_readBoth 18 = .ok (.bipush 111, 2) := by decide +kernel
theorem dX5_readBoth_20 : decode cX5_readBoth 20 = .ok (.if_icmp .ne 27, 3) := by decide +kernel
theorem dX5_readBoth_23 : decode cX5_readBoth 23 = .ok (.aload_n 0, 1) := by decide +kernel
theorem dX5_readBoth_24 : decode cX5_readBoth 24 = .ok (.invokevirtual 79, 3) := by decide +kernel
theorem dX5_readBoth_27 : decode cX5_readBoth 27 = .ok (.aload_n 0, 1) := by decide +kernel
theorem dX5_readBoth_28 : decode cX5_readBoth 28 = .ok (.iload_n 1, 1) := by decide +kernel
theorem dX5_readBoth_29 : decode cX5_readBoth 29 = .ok (.invokevirtual 156, 3) := by decide +kernel
theorem dX5_readBoth_32 : decode cX5_readBoth 32 = .ok (.aload_n 0, 1) := by decide +kernel
theorem dX5_readBoth_33 : decode cX5_readBoth 33 = .ok (.getfield 21, 3) := by decide +kernel
theorem dX5_readBoth_36 : decode cX5_readBoth 36 = .ok (.bipush (-111), 2) := by decide +kernel
theorem dX5_readBoth_38 : decode cX5_readBoth 38 = .ok (.invokevirtual 153, 3) := by decide +kernel
theorem dX5_readBoth_41 : decode cX5_readBoth 41 = .ok (.iinc 2 1, 3) := by decide +kernel
theorem dX5_readBoth_44 : decode cX5_readBoth 44 = .ok (.goto (-37), 3) := by decide +kernel
theorem dX5_readBoth_47 : decode cX5_readBoth 47 = .ok (.return_, 1) := by decide +kernel
theorem dX5_readUnit_0 : decode cX5_readUnit 0 = .ok (.aload_n 0, 1) := by decide +kernel
theorem dX5_readUnit_1 : decode cX5_readUnit 1 = .ok (.invokevirtual 58, 3) := by decide +kernel
theorem dX5_readUnit_4 : decode cX5_readUnit 4 = .ok (.istore_n 2, 1) := by decide +kernel
theorem dX5_readUnit_5 : decode cX5_readUnit 5 = .ok (.iload_n 2, 1) := by decide +kernel
theorem dX5_readUnit_6 : decode cX5_readUnit 6 = .ok (.bipush 110, 2) := by decide +kernel
theorem dX5_readUnit_8 : decode cX5_readUnit 8 = .ok (.if_icmp .eq 66, 3) := by decide +kernel
theorem dX5_readUnit_11 : decode cX5_readUnit 11 = .ok (.iload_n 2, 1) := by decide +kernel
theorem dX5_readUnit_12 : decode cX5_readUnit 12 = .ok (.bipush 91, 2) := by decide +kernel
theorem dX5_readUnit_14 : decode cX5_readUnit 14 = .ok (.if_icmp .eq 60, 3) := by decide +kernel
theorem dX5_readUnit_17 : decode cX5_readUnit 17 = .ok (.aload_n 0, 1) := by decide +kernel
theorem dX5_readUnit_18 : decode cX5_readUnit 18 = .ok (.iload_n 1, 1) := by decide +kernel
theorem dX5_readUnit_19 : decode cX5_readUnit 19 = .ok (.invokevirtual 159, 3) := by decide +kernel
theorem dX5_readUnit_22 : decode cX5_readUnit 22 = .ok (.aload_n 0, 1) := by decide +kernel
theorem dX5_readUnit_23 : decode cX5_readUnit 23 = .ok (.invokevirtual 58, 3) := by decide +kernel
theorem dX5_readUnit_26 : decode cX5_readUnit 26 = .ok (.istore_n 3, 1) := by decide +kernel
theorem dX5_readUnit_27 : decode cX5_readUnit 27 = .ok (.iload_n 3, 1) := by decide +kernel
theorem dX5_readUnit_28 : decode cX5_readUnit 28 = .ok (.bipush 61, 2) := by decide +kernel
theorem dX5_readUnit_30 : decode cX5_readUnit 30 = .ok (.if_icmp .eq 15, 3) := by decide +kernel
theorem dX5_readUnit_33 : decode cX5_readUnit 33 = .ok (.iload_n 3, 1) := by decide +kernel
theorem dX5_readUnit_34 : decode cX5_readUnit 34 = .ok (.bipush 60, 2) := by decide +kernel
theorem dX5_readUnit_36 : decode cX5_readUnit 36 = .ok (.if_icmp .eq 9, 3) := by decide +kernel
theorem dX5_readUnit_39 : decode cX5_readUnit 39 = .ok (.iload_n 3, 1) := by decide +kernel
theorem dX5_readUnit_40 : decode cX5_readUnit 40 = .ok (.bipush 62, 2) := by decide +kernel
theorem dX5_readUnit_42 : decode cX5_readUnit 42 = .ok (.if_icmp .ne 24, 3) := by decide +kernel
theorem dX5_readUnit_45 : decode cX5_readUnit 45 = .ok (.aload_n 0, 1) := by decide +kernel
theorem dX5_readUnit_46 : decode cX5_readUnit 46 = .ok (.invokevirtual 79, 3) := by decide +kernel
theorem dX5_readUnit_49 : decode cX5_readUnit 49 = .ok (.aload_n 0, 1) := by decide +kernel
theorem dX5_readUnit_50 : decode cX5_readUnit 50 = .ok (.iload_n 1, 1) := by decide +kernel
theorem dX5_readUnit_51 : decode cX5_readUnit 51 = .ok (.invokevirtual 159, 3) := by decide +kernel
theorem dX5_readUnit_54 : decode cX5_readUnit 54 = .ok (.aload_n 0, 1) := by decide +kernel
theorem dX5_readUnit_55 : decode cX5_readUnit 55 = .ok (.getfield 21, 3) := by decide +kernel
theorem dX5_readUnit_58 : decode cX5_readUnit 58 = .ok (.iload_n 3, 1) := by decide +kernel
theorem dX5_readUnit_59 : decode cX5_readUnit 59 = .ok (.ineg, 1) := by decide +kernel
theorem dX5_readUnit_60 : decode cX5_readUnit 60 = .ok (.invokevirtual 153, 3) := by decide +kernel
theorem dX5_readUnit_63 : decode cX5_readUnit 63 = .ok (.goto 8, 3) := by decide +kernel
theorem dX5_readUnit_66 : decode cX5_readUnit 66 = .ok (.aload_n 0, 1) := by decide +kernel
theorem dX5_readUnit_67 : decode cX5_readUnit 67 = .ok (.iconst 2, 1) := by decide +kernel
theorem dX5_readUnit_68 : decode cX5_readUnit 68 = .ok (.invokevirtual 82, 3) := by decide +kernel
theorem dX5_readUnit_71 : decode cX5_readUnit 71 = .ok (.goto 53, 3) := by decide +kernel
theorem dX5_readUnit_74 : decode cX5_readUnit 74 = .ok (.aload_n 0, 1) := by decide +kernel
theorem dX5_readUnit_75 : decode cX5_readUnit 75 = .ok (.iload_n 1, 1) := by decide +kernel
theorem dX5_readUnit_76 : decode cX5_readUnit 76 = .ok (.invokevirtual 162, 3) := by decide +kernel
theorem dX5_readUnit_79 : decode cX5_readUnit 79 = .ok (.ifCond .ne 45, 3) := by decide +kernel
theorem dX5_readUnit_82 : decode cX5_readUnit 82 = .ok (.aload_n 0, 1) := by decide +kernel
theorem dX5_readUnit_83 : decode cX5_readUnit 83 = .ok (.invokevirtual 79, 3) := by decide +kernel
theorem dX5_readUnit_86 : decode cX5_readUnit 86 = .ok (.iload_n 2, 1) := by decide +kernel
theorem dX5_readUnit_87 : decode cX5_readUnit 87 = .ok (.bipush 110, 2) := by decide +kernel
theorem dX5_readUnit_89 : decode cX5_readUnit 89 = .ok (.if_icmp .ne 22, 3) := by decide +kernel
theorem dX5_readUnit_92 : decode cX5_readUnit 92 = .ok (.aload_n 0, 1) := by decide +kernel
theorem dX5_readUnit_93 : decode cX5_readUnit 93 = .ok (.iload_n 1, 1) := by decide +kernel
theorem dX5_readUnit_94 : decode cX5_readUnit 94 = .ok (.iconst 1, 1) := by decide +kernel
theorem dX5_readUnit_95 : decode cX5_readUnit 95 = .ok (.iadd, 1) := by decide +kernel
theorem dX5_readUnit_96 : decode cX5_readUnit 96 = .ok (.invokevirtual 156, 3) := by decide +kernel
theorem dX5_readUnit_99 : decode cX5_readUnit 99 = .ok (.aload_n 0, 1) := by decide +kernel
theorem dX5_readUnit_100 : decode cX5_readUnit 100 = .ok (.getfield 21, 3) := by decide +kernel
theorem dX5_readUnit_103 : decode cX5_readUnit 103 = .ok (.bipush (-110), 2) := by decide +kernel
theorem dX5_readUnit_105 : decode cX5_readUnit 105 = .ok (.invokevirtual 153, 3) := by decide +kernel
theorem dX5_readUnit_108 : decode cX5_readUnit 108 = .ok (.goto 16, 3) := by decide +kernel
theorem dX5_readUnit_111 : decode cX5_readUnit 111 = .ok (.aload_n 0, 1) := by decide +kernel
theorem dX5_readUnit_112 : decode cX5_readUnit 112 = .ok (.iload_n 1, 1) := by decide +kernel
theorem dX5_readUnit_113 : decode cX5_readUnit 113 = .ok (.iconst 1, 1) := by decide +kernel
theorem dX5_readUnit_114 : decode cX5_readUnit 114 = .ok (.iadd, 1) := by decide +kernel
theorem dX5_readUnit_115 : decode cX5_readUnit 115 = .ok (.invokevirtual 132, 3) := by decide +kernel
theorem dX5_readUnit_118 : decode cX5_readUnit 118 = .ok (.aload_n 0, 1) := by decide +kernel
theorem dX5_readUnit_119 : decode cX5_readUnit 119 = .ok (.bipush 93, 2) := by decide +kernel
theorem dX5_readUnit_121 : decode cX5_readUnit 121 = .ok (.invokevirtual 114, 3) := by decide +kernel
theorem dX5_readUnit_124 : decode cX5_readUnit 124 = .ok (.return_, 1) := by decide +kernel
theorem dX5_readSum_0 : decode cX5_readSum 0 = .ok (.aload_n 0, 1) := by decide +kernel
theorem dX5_readSum_1 : decode cX5_readSum 1 = .ok (.iload_n 1, 1) := by decide +kernel
theorem dX5_readSum_2 : decode cX5_readSum 2 = .ok (.invokevirtual 166, 3) := by decide +kernel
theorem dX5_readSum_5 : decode cX5_readSum 5 = .ok (.iconst 0, 1) := by decide +kernel
theorem dX5_readSum_6 : decode cX5_readSum 6 = .ok (.istore_n 2, 1) := by decide +kernel
theorem dX5_readSum_7 : decode cX5_readSum 7 = .ok (.iload_n 2, 1) := by decide +kernel
theorem dX5_readSum_8 : decode cX5_readSum 8 = .ok (.sipush 900, 3) := by decide +kernel
theorem dX5_readSum_11 : decode cX5_readSum 11 = .ok (.if_icmp .ge 50, 3) := by decide +kernel
theorem dX5_readSum_14 : decode cX5_readSum 14 = .ok (.aload_n 0, 1) := by decide +kernel
theorem dX5_readSum_15 : decode cX5_readSum 15 = .ok (.invokevirtual 58, 3) := by decide +kernel
theorem dX5_readSum_18 : decode cX5_readSum 18 = .ok (.bipush 43, 2) := by decide +kernel
theorem dX5_readSum_20 : decode cX5_readSum 20 = .ok (.if_icmp .eq 12, 3) := by decide +kernel
theorem dX5_readSum_23 : decode cX5_readSum 23 = .ok (.aload_n 0, 1) := by decide +kernel
theorem dX5_readSum_24 : decode cX5_readSum 24 = .ok (.invokevirtual 58, 3) := by decide +kernel
theorem dX5_readSum_27 : decode cX5_readSum 27 = .ok (.bipush 45, 2) := by decide +kernel
theorem dX5_readSum_29 : decode cX5_readSum 29 = .ok (.if_icmp .ne 32, 3) := by decide +kernel
theorem dX5_readSum_32 : decode cX5_readSum 32 = .ok (.aload_n 0, 1) := by decide +kernel
theorem dX5_readSum_33 : decode cX5_readSum 33 = .ok (.invokevirtual 58, 3) := by decide +kernel
theorem dX5_readSum_36 : decode cX5_readSum 36 = .ok (.istore_n 3, 1) := by decide +kernel
theorem dX5_readSum_37 : decode cX5_readSum 37 = .ok (.aload_n 0, 1) := by decide +kernel
theorem dX5_readSum_38 : decode cX5_readSum 38 = .ok (.invokevirtual 79, 3) := by decide +kernel
theorem dX5_readSum_41 : decode cX5_readSum 41 = .ok (.aload_n 0, 1) := by decide +kernel
theorem dX5_readSum_42 : decode cX5_readSum 42 = .ok (.iload_n 1, 1) := by decide +kernel
theorem dX5_readSum_43 : decode cX5_readSum 43 = .ok (.invokevirtual 166, 3) := by decide +kernel
theorem dX5_readSum_46 : decode cX5_readSum 46 = .ok (.aload_n 0, 1) := by decide +kernel
theorem dX5_readSum_47 : decode cX5_readSum 47 = .ok (.getfield 21, 3) := by decide +kernel
theorem dX5_readSum_50 : decode cX5_readSum 50 = .ok (.iload_n 3, 1) := by decide +kernel
theorem dX5_readSum_51 : decode cX5_readSum 51 = .ok (.ineg, 1) := by decide +kernel
theorem dX5_readSum_52 : decode cX5_readSum 52 = .ok (.invokevirtual 153, 3) := by decide +kernel
theorem dX5_readSum_55 : decode cX5_readSum 55 = .ok (.iinc 2 1, 3) := by decide +kernel
theorem dX5_readSum_58 : decode cX5_readSum 58 = .ok (.goto (-51), 3) := by decide +kernel
theorem dX5_readSum_61 : decode cX5_readSum 61 = .ok (.return_, 1) := by decide +kernel
theorem dX5_readTerm_0 : decode cX5_readTerm 0 = .ok (.aload_n 0, 1) := by decide +kernel
theorem dX5_readTerm_1 : decode cX5_readTerm 1 = .ok (.iload_n 1, 1) := by decide +kernel
theorem dX5_readTerm_2 : decode cX5_readTerm 2 = .ok (.invokevirtual 169, 3) := by decide +kernel
theorem dX5_readTerm_5 : decode cX5_readTerm 5 = .ok (.iconst 0, 1) := by decide +kernel
theorem dX5_readTerm_6 : decode cX5_readTerm 6 = .ok (.istore_n 2, 1) := by decide +kernel
theorem dX5_readTerm_7 : decode cX5_readTerm 7 = .ok (.iload_n 2, 1) := by decide +kernel
theorem dX5_readTerm_8 : decode cX5_readTerm 8 = .ok (.sipush 900, 3) := by decide +kernel
theorem dX5_readTerm_11 : decode cX5_readTerm 11 = .ok (.if_icmp .ge 36, 3) := by decide +kernel
theorem dX5_readTerm_14 : decode cX5_readTerm 14 = .ok (.aload_n 0, 1) := by decide +kernel
theorem dX5_readTerm_15 : decode cX5_readTerm 15 = .ok (.invokevirtual 58, 3) := by decide +kernel
theorem dX5_readTerm_18 : decode cX5_readTerm 18 = .ok (.bipush 42, 2) := by decide +kernel
theorem dX5_readTerm_20 : decode cX5_readTerm 20 = .ok (.if_icmp .ne 27, 3) := by decide +kernel
theorem dX5_readTerm_23 : decode cX5_readTerm 23 = .ok (.aload_n 0, 1) := by decide +kernel
theorem dX5_readTerm_24 : decode cX5_readTerm 24 = .ok (.invokevirtual 79, 3) := by decide +kernel
theorem dX5_readTerm_27 : decode cX5_readTerm 27 = .ok (.aload_n 0, 1) := by decide +kernel
theorem dX5_readTerm_28 : decode cX5_readTerm 28 = .ok (.iload_n 1, 1) := by decide +kernel
theorem dX5_readTerm_29 : decode cX5_readTerm 29 = .ok (.invokevirtual 169, 3) := by decide +kernel
theorem dX5_readTerm_32 : decode cX5_readTerm 32 = .ok (.aload_n 0, 1) := by decide +kernel
theorem dX5_readTerm_33 : decode cX5_readTerm 33 = .ok (.getfield 21, 3) := by decide +kernel
theorem dX5_readTerm_36 : decode cX5_readTerm 36 = .ok (.bipush (-42), 2) := by decide +kernel
theorem dX5_readTerm_38 : decode cX5_readTerm 38 = .ok (.invokevirtual 153, 3) := by decide +kernel
theorem dX5_readTerm_41 : decode cX5_readTerm 41 = .ok (.iinc 2 1, 3) := by decide +kernel
theorem dX5_readTerm_44 : decode cX5_readTerm 44 = .ok (.goto (-37), 3) := by decide +kernel
theorem dX5_readTerm_47 : decode cX5_readTerm 47 = .ok (.return_, 1) := by decide +kernel
theorem dX5_readAtom_0 : decode cX5_readAtom 0 = .ok (.aload_n 0, 1) := by decide +kernel
theorem dX5_readAtom_1 : decode cX5_readAtom 1 = .ok (.invokevirtual 58, 3) := by decide +kernel
theorem dX5_readAtom_4 : decode cX5_readAtom 4 = .ok (.lookupswitch 149 #[(2, 76), (40, 121), (101, 102), (102, 102), (103, 102), (113, 102), (114, 102), (115, 102)], 76) := by decide +kernel
theorem dX5_readAtom_80 : decode cX5_readAtom 80 = .ok (.aload_n 0, 1) := by decide +kernel
theorem dX5_readAtom_81 : decode cX5_readAtom 81 = .ok (.getfield 21, 3) := by decide +kernel
theorem dX5_readAtom_84 : decode cX5_readAtom 84 = .ok (.aload_n 0, 1) := by decide +kernel
theorem dX5_readAtom_85 : decode cX5_readAtom 85 = .ok (.getfield 12, 3) := by decide +kernel
theorem dX5_readAtom_88 : decode cX5_readAtom 88 = .ok (.getfield 86, 3) := by decide +kernel
theorem dX5_readAtom_91 : decode cX5_readAtom 91 = .ok (.aload_n 0, 1) := by decide +kernel
theorem dX5_readAtom_92 : decode cX5_readAtom 92 = .ok (.getfield 55, 3) := by decide +kernel
theorem dX5_readAtom_95 : decode cX5_readAtom 95 = .ok (.iaload, 1) := by decide +kernel
theorem dX5_readAtom_96 : decode cX5_readAtom 96 = .ok (.invokevirtual 153, 3) := by decide +kernel
theorem dX5_readAtom_99 : decode cX5_readAtom 99 = .ok (.aload_n 0, 1) := by decide +kernel
theorem dX5_readAtom_100 : decode cX5_readAtom 100 = .ok (.invokevirtual 79, 3) := by decide +kernel
theorem dX5_readAtom_103 : decode cX5_readAtom 103 = .ok (.goto 55, 3) := by decide +kernel
theorem dX5_readAtom_106 : decode cX5_readAtom 106 = .ok (.aload_n 0, 1) := by decide +kernel
theorem dX5_readAtom_107 : decode cX5_readAtom 107 = .ok (.getfield 21, 3) := by decide +kernel
theorem dX5_readAtom_110 : decode cX5_readAtom 110 = .ok (.aload_n 0, 1) := by decide +kernel
theorem dX5_readAtom_111 : decode cX5_readAtom 111 = .ok (.invokevirtual 58, 3) := by decide +kernel
theorem dX5_readAtom_114 : decode cX5_readAtom 114 = .ok (.ineg, 1) := by decide +kernel
theorem dX5_readAtom_115 : decode cX5_readAtom 115 = .ok (.invokevirtual 153, 3) := by decide +kernel
theorem dX5_readAtom_118 : decode cX5_readAtom 118 = .ok (.aload_n 0, 1) := by decide +kernel
theorem dX5_readAtom_119 : decode cX5_readAtom 119 = .ok (.invokevirtual 79, 3) := by decide +kernel
theorem dX5_readAtom_122 : decode cX5_readAtom 122 = .ok (.goto 36, 3) := by decide +kernel
theorem dX5_readAtom_125 : decode cX5_readAtom 125 = .ok (.aload_n 0, 1) := by decide +kernel
theorem dX5_readAtom_126 : decode cX5_readAtom 126 = .ok (.iload_n 1, 1) := by decide +kernel
theorem dX5_readAtom_127 : decode cX5_readAtom 127 = .ok (.invokevirtual 162, 3) := by decide +kernel
theorem dX5_readAtom_130 : decode cX5_readAtom 130 = .ok (.ifCond .ne 28, 3) := by decide +kernel
theorem dX5_readAtom_133 : decode cX5_readAtom 133 = .ok (.aload_n 0, 1) := by decide +kernel
theorem dX5_readAtom_134 : decode cX5_readAtom 134 = .ok (.invokevirtual 79, 3) := by decide +kernel
theorem dX5_readAtom_137 : decode cX5_readAtom 137 = .ok (.aload_n 0, 1) := by decide +kernel
theorem dX5_readAtom_138 : decode cX5_readAtom 138 = .ok (.iload_n 1, 1) := by decide +kernel
theorem dX5_readAtom_139 : decode cX5_readAtom 139 = .ok (.iconst 1, 1) := by decide +kernel
theorem dX5_readAtom_140 : decode cX5_readAtom 140 = .ok (.iadd, 1) := by decide +kernel
theorem dX5_readAtom_141 : decode cX5_readAtom 141 = .ok (.invokevirtual 159, 3) := by decide +kernel
theorem dX5_readAtom_144 : decode cX5_readAtom 144 = .ok (.aload_n 0, 1) := by decide +kernel
theorem dX5_readAtom_145 : decode cX5_readAtom 145 = .ok (.bipush 41, 2) := by decide +kernel
theorem dX5_readAtom_147 : decode cX5_readAtom 147 = .ok (.invokevirtual 114, 3) := by decide +kernel
theorem dX5_readAtom_150 : decode cX5_readAtom 150 = .ok (.goto 8, 3) := by decide +kernel
theorem dX5_readAtom_153 : decode cX5_readAtom 153 = .ok (.aload_n 0, 1) := by decide +kernel
theorem dX5_readAtom_154 : decode cX5_readAtom 154 = .ok (.iconst 2, 1) := by decide +kernel
theorem dX5_readAtom_155 : decode cX5_readAtom 155 = .ok (.invokevirtual 82, 3) := by decide +kernel
theorem dX5_readAtom_158 : decode cX5_readAtom 158 = .ok (.return_, 1) := by decide +kernel
theorem dX6_init_0 : decode cX6_init 0 = .ok (.aload_n 0, 1) := by decide +kernel
theorem dX6_init_1 : decode cX6_init 1 = .ok (.invokespecial 3, 3) := by decide +kernel
theorem dX6_init_4 : decode cX6_init 4 = .ok (.aload_n 0, 1) := by decide +kernel
theorem dX6_init_5 : decode cX6_init 5 = .ok (.bipush 40, 2) := by decide +kernel
theorem dX6_init_7 : decode cX6_init 7 = .ok (.newarray .long, 2) := by decide +kernel
theorem dX6_init_9 : decode cX6_init 9 = .ok (.putfield 9, 3) := by decide +kernel
theorem dX6_init_12 : decode cX6_init 12 = .ok (.aload_n 0, 1) := by decide +kernel
theorem dX6_init_13 : decode cX6_init 13 = .ok (.iconst (-1), 1) := by decide +kernel
theorem dX6_init_14 : decode cX6_init 14 = .ok (.putfield 15, 3) := by decide +kernel
theorem dX6_init_17 : decode cX6_init 17 = .ok (.return_, 1) := by decide +kernel
theorem dX6_isMissing_0 : decode cX6_isMissing 0 = .ok (.aload_n 0, 1) := by decide +kernel
theorem dX6_isMissing_1 : decode cX6_isMissing 1 = .ok (.getfield 15, 3) := by decide +kernel
theorem dX6_isMissing_4 : decode cX6_isMissing 4 = .ok (.ifCond .ge 7, 3) := by decide +kernel
theorem dX6_isMissing_7 : decode cX6_isMissing 7 = .ok (.iconst 1, 1) := by decide +kernel
theorem dX6_isMissing_8 : decode cX6_isMissing 8 = .ok (.goto 4, 3) := by decide +kernel
theorem dX6_isMissing_11 : decode cX6_isMissing 11 = .ok (.iconst 0, 1) := by decide +kernel
theorem dX6_isMissing_12 : decode cX6_isMissing 12 = .ok (.ireturn, 1) := by decide +kernel
theorem dX6_renew_0 : decode cX6_renew 0 = .ok (.aload_n 0, 1) := by decide +kernel
theorem dX6_renew_1 : decode cX6_renew 1 = .ok (.getfield 9, 3) := by decide +kernel
theorem dX6_renew_4 : decode cX6_renew 4 = .ok (.lconst 0, 1) := by decide +kernel
theorem dX6_renew_5 : decode cX6_renew 5 = .ok (.invokestatic 19, 3) := by decide +kernel
theorem dX6_renew_8 : decode cX6_renew 8 = .ok (.aload_n 0, 1) := by decide +kernel
theorem dX6_renew_9 : decode cX6_renew 9 = .ok (.iload_n 1, 1) := by decide +kernel
theorem dX6_renew_10 : decode cX6_renew 10 = .ok (.putfield 25, 3) := by decide +kernel
theorem dX6_renew_13 : decode cX6_renew 13 = .ok (.aload_n 0, 1) := by decide +kernel
theorem dX6_renew_14 : decode cX6_renew 14 = .ok (.iload_n 2, 1) := by decide +kernel
theorem dX6_renew_15 : decode cX6_renew 15 = .ok (.putfield 15, 3) := by decide +kernel
theorem dX6_renew_18 : decode cX6_renew 18 = .ok (.return_, 1) := by decide +kernel
theorem dX6_put_0 : decode cX6_put 0 = .ok (.iload_n 1, 1) := by decide +kernel
theorem dX6_put_1 : decode cX6_put 1 = .ok (.ifCond .lt 11, 3) := by decide +kernel
theorem dX6_put_4 : decode cX6_put 4 = .ok (.iload_n 1, 1) := by decide +kernel
theorem dX6_put_5 : decode cX6_put 5 = .ok (.aload_n 0, 1) := by decide +kernel
theorem dX6_put_6 : decode cX6_put 6 = .ok (.getfield 15, 3) := by decide +kernel
theorem dX6_put_9 : decode cX6_put 9 = .ok (.if_icmp .lt 4, 3) := by decide +kernel
theorem dX6_put_12 : decode cX6_put 12 = .ok (.return_, 1) := by decide +kernel
theorem dX6_put_13 : decode cX6_put 13 = .ok (.aload_n 0, 1) := by decide +kernel
theorem dX6_put_14 : decode cX6_put 14 = .ok (.getfield 25, 3) := by decide +kernel
theorem dX6_put_17 : decode cX6_put 17 = .ok (.tableswitch 65 0 2 #[27, 40, 53], 27) := by decide +kernel
theorem dX6_put_44 : decode cX6_put 44 = .ok (.aload_n 0, 1) := by decide +kernel
theorem dX6_put_45 : decode cX6_put 45 = .ok (.getfield 9, 3) := by decide +kernel
theorem dX6_put_48 : decode cX6_put 48 = .ok (.iload_n 1, 1) := by decide +kernel
theorem dX6_put_49 : decode cX6_put 49 = .ok (.lload_n 2, 1) := by decide +kernel
theorem dX6_put_50 : decode cX6_put 50 = .ok (.l2i, 1) := by decide +kernel
theorem dX6_put_51 : decode cX6_put 51 = .ok (.i2b, 1) := by decide +kernel
theorem dX6_put_52 : decode cX6_put 52 = .ok (.i2l, 1) := by decide +kernel
theorem dX6_put_53 : decode cX6_put 53 = .ok (.lastore, 1) := by decide +kernel
theorem dX6_put_54 : decode cX6_put 54 = .ok (.goto 35, 3) := by decide +kernel
theorem dX6_put_57 : decode cX6_put 57 = .ok (.aload_n 0, 1) := by decide +kernel
theorem dX6_put_58 : decode cX6_put 58 = .ok (.getfield 9, 3) := by decide +kernel
theorem dX6_put_61 : decode cX6_put 61 = .ok (.iload_n 1, 1) := by decide +kernel
theorem dX6_put_62 : decode cX6_put 62 = .ok (.lload_n 2, 1) := by decide +kernel
theorem dX6_put_63 : decode cX6_put 63 = .ok (.l2i, 1) := by decide +kernel
theorem dX6_put_64 : decode cX6_put 64 = .ok (.i2s, 1) := by decide +kernel
theorem dX6_put_65 : decode cX6_put 65 = .ok (.i2l, 1) := by decide +kernel
theorem dX6_put_66 : decode cX6_put 66 = .ok (.lastore, 1) := by decide +kernel
theorem dX6_put_67 : decode cX6_put 67 = .ok (.goto 22, 3) := by decide +kernel
theorem dX6_put_70 : decode cX6_put 70 = .ok (.aload_n 0, 1) := by decide +kernel
theorem dX6_put_71 : decode cX6_put 71 = .ok (.getfield 9, 3) := by decide +kernel
theorem dX6_put_74 : decode cX6_put 74 = .ok (.iload_n 1, 1) := by decide +kernel
theorem dX6_put_75 : decode cX6_put 75 = .ok (.lload_n 2, 1) := by decide +kernel
theorem dX6_put_76 : decode cX6_put 76 = .ok (.l2i, 1) := by decide +kernel
theorem dX6_put_77 : decode cX6_put 77 = .ok (.i2l, 1) := by decide +kernel
theorem dX6_put_78 : decode cX6_put 78 = .ok (.lastore, 1) := by decide +kernel
theorem dX6_put_79 : decode cX6_put 79 = .ok (.goto 10, 3) := by decide +kernel
theorem dX6_put_82 : decode cX6_put 82 = .ok (.aload_n 0, 1) := by decide +kernel
theorem dX6_put_83 : decode cX6_put 83 = .ok (.getfield 9, 3) := by decide +kernel
theorem dX6_put_86 : decode cX6_put 86 = .ok (.iload_n 1, 1) := by decide +kernel
theorem dX6_put_87 : decode cX6_put 87 = .ok (.lload_n 2, 1) := by decide +kernel
theorem dX6_put_88 : decode cX6_put 88 = .ok (.lastore, 1) := by decide +kernel
theorem dX6_put_89 : decode cX6_put 89 = .ok (.return_, 1) := by decide +kernel
theorem dX7_init_0 : decode cX7_init 0 = .ok (.aload_n 0, 1) := by decide +kernel
theorem dX7_init_1 : decode cX7_init 1 = .ok (.invokespecial 3, 3) := by decide +kernel
theorem dX7_init_4 : decode cX7_init 4 = .ok (.aload_n 0, 1) := by decide +kernel
theorem dX7_init_5 : decode cX7_init 5 = .ok (.sipush 256, 3) := by decide +kernel
theorem dX7_init_8 : decode cX7_init 8 = .ok (.newarray .int, 2) := by decide +kernel
theorem dX7_init_10 : decode cX7_init 10 = .ok (.putfield 9, 3) := by decide +kernel
theorem dX7_init_13 : decode cX7_init 13 = .ok (.aload_n 0, 1) := by decide +kernel
theorem dX7_init_14 : decode cX7_init 14 = .ok (.sipush 256, 3) := by decide +kernel
theorem dX7_init_17 : decode cX7_init 17 = .ok (.newarray .int, 2) := by decide +kernel
theorem dX7_init_19 : decode cX7_init 19 = .ok (.putfield 15, 3) := by decide +kernel
theorem dX7_init_22 : decode cX7_init 22 = .ok (.aload_n 0, 1) := by decide +kernel
theorem dX7_init_23 : decode cX7_init 23 = .ok (.sipush 256, 3) := by decide +kernel
theorem dX7_init_26 : decode cX7_init 26 = .ok (.newarray .int, 2) := by decide +kernel
theorem dX7_init_28 : decode cX7_init 28 = .ok (.putfield 18, 3) := by decide +kernel
theorem dX7_init_31 : decode cX7_init 31 = .ok (.aload_n 0, 1) := by decide +kernel
theorem dX7_init_32 : decode cX7_init 32 = .ok (.bipush 102, 2) := by decide +kernel
theorem dX7_init_34 : decode cX7_init 34 = .ok (.newarray .int, 2) := by decide +kernel
theorem dX7_init_36 : decode cX7_init 36 = .ok (.putfield 21, 3) := by decide +kernel
theorem dX7_init_39 : decode cX7_init 39 = .ok (.aload_n 0, 1) := by decide +kernel
theorem dX7_init_40 : decode cX7_init 40 = .ok (.bipush 6, 2) := by decide +kernel
theorem dX7_init_42 : decode cX7_init 42 = .ok (.newarray .int, 2) := by decide +kernel
theorem dX7_init_44 : decode cX7_init 44 = .ok (.putfield 24, 3) := by decide +kernel
theorem dX7_init_47 : decode cX7_init 47 = .ok (.return_, 1) := by decide +kernel
theorem dX7_find_0 : decode cX7_find 0 = .ok (.iconst 0, 1) := by decide +kernel
theorem dX7_find_1 : decode cX7_find 1 = .ok (.istore 4, 2) := by decide +kernel
theorem dX7_find_3 : decode cX7_find 3 = .ok (.iload 4, 2) := by decide +kernel
theorem dX7_find_5 : decode cX7_find 5 = .ok (.iconst 1, 1) := by decide +kernel
theorem dX7_find_6 : decode cX7_find 6 = .ok (.aload_n 1, 1) := by decide +kernel
theorem dX7_find_7 : decode cX7_find 7 = .ok (.getfield 27, 3) := by decide +kernel
theorem dX7_find_10 : decode cX7_find 10 = .ok (.ishl, 1) := by decide +kernel
theorem dX7_find_11 : decode cX7_find 11 = .ok (.if_icmp .ge 46, 3) := by decide +kernel
theorem dX7_find_14 : decode cX7_find 14 = .ok (.aload_n 1, 1) := by decide +kernel
theorem dX7_find_15 : decode cX7_find 15 = .ok (.iload 4, 2) := by decide +kernel
theorem dX7_find_17 : decode cX7_find 17 = .ok (.aload_n 2, 1) := by decide +kernel
theorem dX7_find_18 : decode cX7_find 18 = .ok (.getfield 33, 3) := by decide +kernel
theorem dX7_find_21 : decode cX7_find 21 = .ok (.invokevirtual 38, 3) := by decide +kernel
theorem dX7_find_24 : decode cX7_find 24 = .ok (.istore 5, 2) := by decide +kernel
theorem dX7_find_26 : decode cX7_find 26 = .ok (.aload_n 0, 1) := by decide +kernel
theorem dX7_find_27 : decode cX7_find 27 = .ok (.getfield 9, 3) := by decide +kernel
theorem dX7_find_30 : decode cX7_find 30 = .ok (.iload 4, 2) := by decide +kernel
theorem dX7_find_32 : decode cX7_find 32 = .ok (.iload 5, 2) := by decide +kernel
theorem dX7_find_34 : decode cX7_find 34 = .ok (.invokestatic 42, 3) := by decide +kernel
theorem dX7_find_37 : decode cX7_find 37 = .ok (.iastore, 1) := by decide +kernel
theorem dX7_find_38 : decode cX7_find 38 = .ok (.aload_n 0, 1) := by decide +kernel
theorem dX7_find_39 : decode cX7_find 39 = .ok (.getfield 15, 3) := by decide +kernel
theorem dX7_find_42 : decode cX7_find 42 = .ok (.iload 4, 2) := by decide +kernel
theorem dX7_find_44 : decode cX7_find 44 = .ok (.aload_n 1, 1) := by decide +kernel
theorem dX7_find_45 : decode cX7_find 45 = .ok (.iload 5, 2) := by decide +kernel
theorem dX7_find_47 : decode cX7_find 47 = .ok (.invokevirtual 48, 3) := by decide +kernel
theorem dX7_find_50 : decode cX7_find 50 = .ok (.iastore, 1) := by decide +kernel
theorem dX7_find_51 : decode cX7_find 51 = .ok (.iinc 4 1, 3) := by decide +kernel
theorem dX7_find_54 : decode cX7_find 54 = .ok (.goto (-51), 3) := by decide +kernel
theorem dX7_find_57 : decode cX7_find 57 = .ok (.iconst 0, 1) := by decide +kernel
theorem dX7_find_58 : decode cX7_find 58 = .ok (.istore 4, 2) := by decide +kernel
theorem dX7_find_60 : decode cX7_find 60 = .ok (.iload 4, 2) := by decide +kernel
theorem dX7_find_62 : decode cX7_find 62 = .ok (.aload_n 1, 1) := by decide +kernel
theorem dX7_find_63 : decode cX7_find 63 = .ok (.getfield 51, 3) := by decide +kernel
theorem dX7_find_66 : decode cX7_find 66 = .ok (.if_icmp .ge 50, 3) := by decide +kernel
theorem dX7_find_69 : decode cX7_find 69 = .ok (.iload 4, 2) := by decide +kernel
theorem dX7_find_71 : decode cX7_find 71 = .ok (.iload_n 3, 1) := by decide +kernel
theorem dX7_find_72 : decode cX7_find 72 = .ok (.if_icmp .ne 7, 3) := by decide +kernel
theorem dX7_find_75 : decode cX7_find 75 = .ok (.iconst (-1), 1) := by decide +kernel
theorem dX7_find_76 : decode cX7_find 76 = .ok (.goto 4, 3) := by decide +kernel
theorem dX7_find_79 : decode cX7_find 79 = .ok (.iconst 1, 1) := by decide +kernel
theorem dX7_find_80 : decode cX7_find 80 = .ok (.istore 5, 2) := by decide +kernel
theorem dX7_find_82 : decode cX7_find 82 = .ok (.aload_n 0, 1) := by decide +kernel
theorem dX7_find_83 : decode cX7_find 83 = .ok (.aload_n 1, 1) := by decide +kernel
theorem dX7_find_84 : decode cX7_find 84 = .ok (.aload_n 0, 1) := by decide +kernel
theorem dX7_find_85 : decode cX7_find 85 = .ok (.getfield 15, 3) := by decide +kernel
theorem dX7_find_88 : decode cX7_find 88 = .ok (.aload_n 2, 1) := by decide +kernel
theorem dX7_find_89 : decode cX7_find 89 = .ok (.getfield 54, 3) := by decide +kernel
theorem dX7_find_92 : decode cX7_find 92 = .ok (.iload 4, 2) := by decide +kernel
theorem dX7_find_94 : decode cX7_find 94 = .ok (.iaload, 1) := by decide +kernel
theorem dX7_find_95 : decode cX7_find 95 = .ok (.iaload, 1) := by decide +kernel
theorem dX7_find_96 : decode cX7_find 96 = .ok (.iload 5, 2) := by decide +kernel
theorem dX7_find_98 : decode cX7_find 98 = .ok (.invokevirtual 57, 3) := by decide +kernel
theorem dX7_find_101 : decode cX7_find 101 = .ok (.aload_n 0, 1) := by decide +kernel
theorem dX7_find_102 : decode cX7_find 102 = .ok (.aload_n 1, 1) := by decide +kernel
theorem dX7_find_103 : decode cX7_find 103 = .ok (.iload 4, 2) := by decide +kernel
theorem dX7_find_105 : decode cX7_find 105 = .ok (.iload 5, 2) := by decide +kernel
theorem dX7_find_107 : decode cX7_find 107 = .ok (.invokevirtual 61, 3) := by decide +kernel
theorem dX7_find_110 : decode cX7_find 110 = .ok (.iinc 4 1, 3) := by decide +kernel
theorem dX7_find_113 : decode cX7_find 113 = .ok (.goto (-53), 3) := by decide +kernel
theorem dX7_find_116 : decode cX7_find 116 = .ok (.aload_n 0, 1) := by decide +kernel
theorem dX7_find_117 : decode cX7_find 117 = .ok (.iconst (-1), 1) := by decide +kernel
theorem dX7_find_118 : decode cX7_find 118 = .ok (.putfield 64, 3) := by decide +kernel
theorem dX7_find_121 : decode cX7_find 121 = .ok (.iconst 0, 1) := by decide +kernel
theorem dX7_find_122 : decode cX7_find 122 = .ok (.istore 4, 2) := by decide +kernel
theorem dX7_find_124 : decode cX7_find 124 = .ok (.iload 4, 2) := by decide +kernel
theorem dX7_find_126 : decode cX7_find 126 = .ok (.aload_n 1, 1) := by decide +kernel
theorem dX7_find_127 : decode cX7_find 127 = .ok (.getfield 67, 3) := by decide +kernel
theorem dX7_find_130 : decode cX7_find 130 = .ok (.if_icmp .gt 19, 3) := by decide +kernel
theorem dX7_find_133 : decode cX7_find 133 = .ok (.aload_n 0, 1) := by decide +kernel
theorem dX7_find_134 : decode cX7_find 134 = .ok (.aload_n 1, 1) := by decide +kernel
theorem dX7_find_135 : decode cX7_find 135 = .ok (.getfield 51, 3) := by decide +kernel
theorem dX7_find_138 : decode cX7_find 138 = .ok (.iload 4, 2) := by decide +kernel
theorem dX7_find_140 : decode cX7_find 140 = .ok (.invokevirtual 70, 3) := by decide +kernel
theorem dX7_find_143 : decode cX7_find 143 = .ok (.iinc 4 1, 3) := by decide +kernel
theorem dX7_find_146 : decode cX7_find 146 = .ok (.goto (-22), 3) := by decide +kernel
theorem dX7_find_149 : decode cX7_find 149 = .ok (.return_, 1) := by decide +kernel
theorem dX7_findExtremes_0 : decode cX7_findExtremes 0 = .ok (.iconst 1, 1) := by decide +kernel
theorem dX7_findExtremes_1 : decode cX7_findExtremes 1 = .ok (.aload_n 1, 1) := by decide +kernel
theorem dX7_findExtremes_2 : decode cX7_findExtremes 2 = .ok (.getfield 27, 3) := by decide +kernel
theorem dX7_findExtremes_5 : decode cX7_findExtremes 5 = .ok (.ishl, 1) := by decide +kernel
theorem dX7_findExtremes_6 : decode cX7_findExtremes 6 = .ok (.istore 4, 2) := by decide +kernel
theorem dX7_findExtremes_8 : decode cX7_findExtremes 8 = .ok (.aload_n 0, 1) := by decide +kernel
theorem dX7_findExtremes_9 : decode cX7_findExtremes 9 = .ok (.getfield 18, 3) := by decide +kernel
theorem dX7_findExtremes_12 : decode cX7_findExtremes 12 = .ok (.sipush (-1000), 3) := by decide +kernel
theorem dX7_findExtremes_15 : decode cX7_findExtremes 15 = .ok (.invokestatic 74, 3) := by decide +kernel
theorem dX7_findExtremes_18 : decode cX7_findExtremes 18 = .ok (.iconst 0, 1) := by decide +kernel
theorem dX7_findExtremes_19 : decode cX7_findExtremes 19 = .ok (.istore 5, 2) := by decide +kernel
theorem dX7_findExtremes_21 : decode cX7_findExtremes 21 = .ok (.iload 5, 2) := by decide +kernel
theorem dX7_findExtremes_23 : decode cX7_findExtremes 23 = .ok (.iload 4, 2) := by decide +kernel
theorem dX7_findExtremes_25 : decode cX7_findExtremes 25 = .ok (.if_icmp .ge 46, 3) := by decide +kernel
theorem dX7_findExtremes_28 : decode cX7_findExtremes 28 = .ok (.aload_n 0, 1) := by decide +kernel
theorem dX7_findExtremes_29 : decode cX7_findExtremes 29 = .ok (.getfield 15, 3) := by decide +kernel
theorem dX7_findExtremes_32 : decode cX7_findExtremes 32 = .ok (.iload 5, 2) := by decide +kernel
theorem dX7_findExtremes_34 : decode cX7_findExtremes 34 = .ok (.iaload, 1) := by decide +kernel
theorem dX7_findExtremes_35 : decode cX7_findExtremes 35 = .ok (.iload_n 2, 1) := by decide +kernel
theorem dX7_findExtremes_36 : decode cX7_findExtremes 36 = .ok (.ixor, 1) := by decide +kernel
theorem dX7_findExtremes_37 : decode cX7_findExtremes 37 = .ok (.istore 6, 2) := by decide +kernel
theorem dX7_findExtremes_39 : decode cX7_findExtremes 39 = .ok (.aload_n 0, 1) := by decide +kernel
theorem dX7_findExtremes_40 : decode cX7_findExtremes 40 = .ok (.getfield 18, 3) := by decide +kernel
theorem dX7_findExtremes_43 : decode cX7_findExtremes 43 = .ok (.iload 6, 2) := by decide +kernel
theorem dX7_findExtremes_45 : decode cX7_findExtremes 45 = .ok (.aload_n 0, 1) := by decide +kernel
theorem dX7_findExtremes_46 : decode cX7_findExtremes 46 = .ok (.getfield 18, 3) := by decide +kernel
theorem dX7_findExtremes_49 : decode cX7_findExtremes 49 = .ok (.iload 6, 2) := by decide +kernel
theorem dX7_findExtremes_51 : decode cX7_findExtremes 51 = .ok (.iaload, 1) := by decide +kernel
theorem dX7_findExtremes_52 : decode cX7_findExtremes 52 = .ok (.iload_n 3, 1) := by decide +kernel
theorem dX7_findExtremes_53 : decode cX7_findExtremes 53 = .ok (.aload_n 0, 1) := by decide +kernel
theorem dX7_findExtremes_54 : decode cX7_findExtremes 54 = .ok (.getfield 9, 3) := by decide +kernel
theorem dX7_findExtremes_57 : decode cX7_findExtremes 57 = .ok (.iload 5, 2) := by decide +kernel
theorem dX7_findExtremes_59 : decode cX7_findExtremes 59 = .ok (.iaload, 1) := by decide +kernel
theorem dX7_findExtremes_60 : decode cX7_findExtremes 60 = .ok (.imul, 1) := by decide +kernel
theorem dX7_findExtremes_61 : decode cX7_findExtremes 61 = .ok (.invokestatic 80, 3) := by decide +kernel
theorem dX7_findExtremes_64 : decode cX7_findExtremes 64 = .ok (.iastore, 1) := by decide +kernel
theorem dX7_findExtremes_65 : decode cX7_findExtremes 65 = .ok (.iinc 5 1, 3) := by decide +kernel
theorem dX7_findExtremes_68 : decode cX7_findExtremes 68 = .ok (.goto (-47), 3) := by decide +kernel
theorem dX7_findExtremes_71 : decode cX7_findExtremes 71 = .ok (.iconst 0, 1) := by decide +kernel
theorem dX7_findExtremes_72 : decode cX7_findExtremes 72 = .ok (.istore 5, 2) := by decide +kernel
theorem dX7_findExtremes_74 : decode cX7_findExtremes 74 = .ok (.iload 5, 2) := by decide +kernel
theorem dX7_findExtremes_76 : decode cX7_findExtremes 76 = .ok (.aload_n 1, 1) := by decide +kernel
theorem dX7_findExtremes_77 : decode cX7_findExtremes 77 = .ok (.getfield 27, 3) := by decide +kernel
theorem dX7_findExtremes_80 : decode cX7_findExtremes 80 = .ok (.if_icmp .ge 65, 3) := by decide +kernel
theorem dX7_findExtremes_83 : decode cX7_findExtremes 83 = .ok (.iconst 0, 1) := by decide +kernel
theorem dX7_findExtremes_84 : decode cX7_findExtremes 84 = .ok (.istore 6, 2) := by decide +kernel
theorem dX7_findExtremes_86 : decode cX7_findExtremes 86 = .ok (.iload 6, 2) := by decide +kernel
theorem dX7_findExtremes_88 : decode cX7_findExtremes 88 = .ok (.iload 4, 2) := by decide +kernel
theorem dX7_findExtremes_90 : decode cX7_findExtremes 90 = .ok (.if_icmp .ge 49, 3) := by decide +kernel
theorem dX7_findExtremes_93 : decode cX7_findExtremes 93 = .ok (.iload 6, 2) := by decide +kernel
theorem dX7_findExtremes_95 : decode cX7_findExtremes 95 = .ok (.iload 5, 2) := by decide +kernel
theorem dX7_findExtremes_97 : decode cX7_findExtremes 97 = .ok (.ishr, 1) := by decide +kernel
theorem dX7_findExtremes_98 : decode cX7_findExtremes 98 = .ok (.iconst 1, 1) := by decide +kernel
theorem dX7_findExtremes_99 : decode cX7_findExtremes 99 = .ok (.iand, 1) := by decide +kernel
theorem dX7_findExtremes_100 : decode cX7_findExtremes 100 = .ok (.iconst 1, 1) := by decide +kernel
theorem dX7_findExtremes_101 : decode cX7_findExtremes 101 = .ok (.if_icmp .ne 32, 3) := by decide +kernel
theorem dX7_findExtremes_104 : decode cX7_findExtremes 104 = .ok (.aload_n 0, 1) := by decide +kernel
theorem dX7_findExtremes_105 : decode cX7_findExtremes 105 = .ok (.getfield 18, 3) := by decide +kernel
theorem dX7_findExtremes_108 : decode cX7_findExtremes 108 = .ok (.iload 6, 2) := by decide +kernel
theorem dX7_findExtremes_110 : decode cX7_findExtremes 110 = .ok (.aload_n 0, 1) := by decide +kernel
theorem dX7_findExtremes_111 : decode cX7_findExtremes 111 = .ok (.getfield 18, 3) := by decide +kernel
theorem dX7_findExtremes_114 : decode cX7_findExtremes 114 = .ok (.iload 6, 2) := by decide +kernel
theorem dX7_findExtremes_116 : decode cX7_findExtremes 116 = .ok (.iaload, 1) := by decide +kernel
theorem dX7_findExtremes_117 : decode cX7_findExtremes 117 = .ok (.aload_n 0, 1) := by decide +kernel
theorem dX7_findExtremes_118 : decode cX7_findExtremes 118 = .ok (.getfield 18, 3) := by decide +kernel
theorem dX7_findExtremes_121 : decode cX7_findExtremes 121 = .ok (.iload 6, 2) := by decide +kernel
theorem dX7_findExtremes_123 : decode cX7_findExtremes 123 = .ok (.iconst 1, 1) := by decide +kernel
theorem dX7_findExtremes_124 : decode cX7_findExtremes 124 = .ok (.iload 5, 2) := by decide +kernel
theorem dX7_findExtremes_126 : decode cX7_findExtremes 126 = .ok (.ishl, 1) := by decide +kernel
theorem dX7_findExtremes_127 : decode cX7_findExtremes 127 = .ok (.ixor, 1) := by decide +kernel
theorem dX7_findExtremes_128 : decode cX7_findExtremes 128 = .ok (.iaload, 1) := by decide +kernel
theorem dX7_findExtremes_129 : decode cX7_findExtremes 129 = .ok (.invokestatic 80, 3) := by decide +kernel
theorem dX7_findExtremes_132 : decode cX7_findExtremes 132 = .ok (.iastore, 1) := by decide +kernel
theorem dX7_findExtremes_133 : decode cX7_findExtremes 133 = .ok (.iinc 6 1, 3) := by decide +kernel
theorem dX7_findExtremes_136 : decode cX7_findExtremes 136 = .ok (.goto (-50), 3) := by decide +kernel
theorem dX7_findExtremes_139 : decode cX7_findExtremes 139 = .ok (.iinc 5 1, 3) := by decide +kernel
theorem dX7_findExtremes_142 : decode cX7_findExtremes 142 = .ok (.goto (-68), 3) := by decide +kernel
theorem dX7_findExtremes_145 : decode cX7_findExtremes 145 = .ok (.return_, 1) := by decide +kernel
theorem dX7_findBest_0 : decode cX7_findBest 0 = .ok (.iload_n 2, 1) := by decide +kernel
theorem dX7_findBest_1 : decode cX7_findBest 1 = .ok (.bipush 17, 2) := by decide +kernel
theorem dX7_findBest_3 : decode cX7_findBest 3 = .ok (.imul, 1) := by decide +kernel
theorem dX7_findBest_4 : decode cX7_findBest 4 = .ok (.istore 4, 2) := by decide +kernel
theorem dX7_findBest_6 : decode cX7_findBest 6 = .ok (.iconst 0, 1) := by decide +kernel
theorem dX7_findBest_7 : decode cX7_findBest 7 = .ok (.istore 5, 2) := by decide +kernel
theorem dX7_findBest_9 : decode cX7_findBest 9 = .ok (.iload 5, 2) := by decide +kernel
theorem dX7_findBest_11 : decode cX7_findBest 11 = .ok (.bipush 17, 2) := by decide +kernel
theorem dX7_findBest_13 : decode cX7_findBest 13 = .ok (.if_icmp .ge 20, 3) := by decide +kernel
theorem dX7_findBest_16 : decode cX7_findBest 16 = .ok (.aload_n 0, 1) := by decide +kernel
theorem dX7_findBest_17 : decode cX7_findBest 17 = .ok (.getfield 21, 3) := by decide +kernel
theorem dX7_findBest_20 : decode cX7_findBest 20 = .ok (.iload 4, 2) := by decide +kernel
theorem dX7_findBest_22 : decode cX7_findBest 22 = .ok (.iload 5, 2) := by decide +kernel
theorem dX7_findBest_24 : decode cX7_findBest 24 = .ok (.iadd, 1) := by decide +kernel
theorem dX7_findBest_25 : decode cX7_findBest 25 = .ok (.iconst (-1), 1) := by decide +kernel
theorem dX7_findBest_26 : decode cX7_findBest 26 = .ok (.iastore, 1) := by decide +kernel
theorem dX7_findBest_27 : decode cX7_findBest 27 = .ok (.iinc 5 1, 3) := by decide +kernel
theorem dX7_findBest_30 : decode cX7_findBest 30 = .ok (.goto (-21), 3) := by decide +kernel
theorem dX7_findBest_33 : decode cX7_findBest 33 = .ok (.iconst 0, 1) := by decide +kernel
theorem dX7_findBest_34 : decode cX7_findBest 34 = .ok (.istore 5, 2) := by decide +kernel
theorem dX7_findBest_36 : decode cX7_findBest 36 = .ok (.iload 5, 2) := by decide +kernel
theorem dX7_findBest_38 : decode cX7_findBest 38 = .ok (.iconst 1, 1) := by decide +kernel
theorem dX7_findBest_39 : decode cX7_findBest 39 = .ok (.aload_n 1, 1) := by decide +kernel
theorem dX7_findBest_40 : decode cX7_findBest 40 = .ok (.getfield 27, 3) := by decide +kernel
theorem dX7_findBest_43 : decode cX7_findBest 43 = .ok (.ishl, 1) := by decide +kernel
theorem dX7_findBest_44 : decode cX7_findBest 44 = .ok (.if_icmp .ge 69, 3) := by decide +kernel
theorem dX7_findBest_47 : decode cX7_findBest 47 = .ok (.iload_n 3, 1) := by decide +kernel
theorem dX7_findBest_48 : decode cX7_findBest 48 = .ok (.aload_n 0, 1) := by decide +kernel
theorem dX7_findBest_49 : decode cX7_findBest 49 = .ok (.getfield 18, 3) := by decide +kernel
theorem dX7_findBest_52 : decode cX7_findBest 52 = .ok (.aload_n 1, 1) := by decide +kernel
theorem dX7_findBest_53 : decode cX7_findBest 53 = .ok (.invokevirtual 85, 3) := by decide +kernel
theorem dX7_findBest_56 : decode cX7_findBest 56 = .ok (.iload 5, 2) := by decide +kernel
theorem dX7_findBest_58 : decode cX7_findBest 58 = .ok (.iconst (-1), 1) := by decide +kernel
theorem dX7_findBest_59 : decode cX7_findBest 59 = .ok (.ixor, 1) := by decide +kernel
theorem dX7_findBest_60 : decode cX7_findBest 60 = .ok (.iand, 1) := by decide +kernel
theorem dX7_findBest_61 : decode cX7_findBest 61 = .ok (.iaload, 1) := by decide +kernel
theorem dX7_findBest_62 : decode cX7_findBest 62 = .ok (.imul, 1) := by decide +kernel
theorem dX7_findBest_63 : decode cX7_findBest 63 = .ok (.istore 6, 2) := by decide +kernel
theorem dX7_findBest_65 : decode cX7_findBest 65 = .ok (.iload 6, 2) := by decide +kernel
theorem dX7_findBest_67 : decode cX7_findBest 67 = .ok (.ifCond .lt 40, 3) := by decide +kernel
theorem dX7_findBest_70 : decode cX7_findBest 70 = .ok (.iload 6, 2) := by decide +kernel
theorem dX7_findBest_72 : decode cX7_findBest 72 = .ok (.bipush 17, 2) := by decide +kernel
theorem dX7_findBest_74 : decode cX7_findBest 74 = .ok (.if_icmp .ge 33, 3) := by decide +kernel
theorem dX7_findBest_77 : decode cX7_findBest 77 = .ok (.iload 5, 2) := by decide +kernel
theorem dX7_findBest_79 : decode cX7_findBest 79 = .ok (.aload_n 0, 1) := by decide +kernel
theorem dX7_findBest_80 : decode cX7_findBest 80 = .ok (.getfield 21, 3) := by decide +kernel
theorem dX7_findBest_83 : decode cX7_findBest 83 = .ok (.iload 4, 2) := by decide +kernel
theorem dX7_findBest_85 : decode cX7_findBest 85 = .ok (.iload 6, 2) := by decide +kernel
theorem dX7_findBest_87 : decode cX7_findBest 87 = .ok (.iadd, 1) := by decide +kernel
theorem dX7_findBest_88 : decode cX7_findBest 88 = .ok (.iaload, 1) := by decide +kernel
theorem dX7_findBest_89 : decode cX7_findBest 89 = .ok (.invokestatic 89, 3) := by decide +kernel
theorem dX7_findBest_92 : decode cX7_findBest 92 = .ok (.ifCond .eq 15, 3) := by decide +kernel
theorem dX7_findBest_95 : decode cX7_findBest 95 = .ok (.aload_n 0, 1) := by decide +kernel
theorem dX7_findBest_96 : decode cX7_findBest 96 = .ok (.getfield 21, 3) := by decide +kernel
theorem dX7_findBest_99 : decode cX7_findBest 99 = .ok (.iload 4, 2) := by decide +kernel
theorem dX7_findBest_101 : decode cX7_findBest 101 = .ok (.iload 6, 2) := by decide +kernel
theorem dX7_findBest_103 : decode cX7_findBest 103 = .ok (.iadd, 1) := by decide +kernel
theorem dX7_findBest_104 : decode cX7_findBest 104 = .ok (.iload 5, 2) := by decide +kernel
theorem dX7_findBest_106 : decode cX7_findBest 106 = .ok (.iastore, 1) := by decide +kernel
theorem dX7_findBest_107 : decode cX7_findBest 107 = .ok (.iinc 5 1, 3) := by decide +kernel
theorem dX7_findBest_110 : decode cX7_findBest 110 = .ok (.goto (-74), 3) := by decide +kernel
theorem dX7_findBest_113 : decode cX7_findBest 113 = .ok (.iconst 1, 1) := by decide +kernel
theorem dX7_findBest_114 : decode cX7_findBest 114 = .ok (.istore 5, 2) := by decide +kernel
theorem dX7_findBest_116 : decode cX7_findBest 116 = .ok (.iload 5, 2) := by decide +kernel
theorem dX7_findBest_118 : decode cX7_findBest 118 = .ok (.bipush 17, 2) := by decide +kernel
theorem dX7_findBest_120 : decode cX7_findBest 120 = .ok (.if_icmp .ge 75, 3) := by decide +kernel
theorem dX7_findBest_123 : decode cX7_findBest 123 = .ok (.iload_n 3, 1) := by decide +kernel
theorem dX7_findBest_124 : decode cX7_findBest 124 = .ok (.ifCond .le 8, 3) := by decide +kernel
theorem dX7_findBest_127 : decode cX7_findBest 127 = .ok (.iload 5, 2) := by decide +kernel
theorem dX7_findBest_129 : decode cX7_findBest 129 = .ok (.goto 8, 3) := by decide +kernel
theorem dX7_findBest_132 : decode cX7_findBest 132 = .ok (.bipush 16, 2) := by decide +kernel
theorem dX7_findBest_134 : decode cX7_findBest 134 = .ok (.iload 5, 2) := by decide +kernel
theorem dX7_findBest_136 : decode cX7_findBest 136 = .ok (.isub, 1) := by decide +kernel
theorem dX7_findBest_137 : decode cX7_findBest 137 = .ok (.istore 6, 2) := by decide +kernel
theorem dX7_findBest_139 : decode cX7_findBest 139 = .ok (.aload_n 0, 1) := by decide +kernel
theorem dX7_findBest_140 : decode cX7_findBest 140 = .ok (.getfield 21, 3) := by decide +kernel
theorem dX7_findBest_143 : decode cX7_findBest 143 = .ok (.iload 4, 2) := by decide +kernel
theorem dX7_findBest_145 : decode cX7_findBest 145 = .ok (.iload 6, 2) := by decide +kernel
theorem dX7_findBest_147 : decode cX7_findBest 147 = .ok (.iadd, 1) := by decide +kernel
theorem dX7_findBest_148 : decode cX7_findBest 148 = .ok (.iload_n 3, 1) := by decide +kernel
theorem dX7_findBest_149 : decode cX7_findBest 149 = .ok (.isub, 1) := by decide +kernel
theorem dX7_findBest_150 : decode cX7_findBest 150 = .ok (.iaload, 1) := by decide +kernel
theorem dX7_findBest_151 : decode cX7_findBest 151 = .ok (.istore 7, 2) := by decide +kernel
theorem dX7_findBest_153 : decode cX7_findBest 153 = .ok (.iload 7, 2) := by decide +kernel
theorem dX7_findBest_155 : decode cX7_findBest 155 = .ok (.iconst (-1), 1) := by decide +kernel
theorem dX7_findBest_156 : decode cX7_findBest 156 = .ok (.if_icmp .eq 33, 3) := by decide +kernel
theorem dX7_findBest_159 : decode cX7_findBest 159 = .ok (.iload 7, 2) := by decide +kernel
theorem dX7_findBest_161 : decode cX7_findBest 161 = .ok (.aload_n 0, 1) := by decide +kernel
theorem dX7_findBest_162 : decode cX7_findBest 162 = .ok (.getfield 21, 3) := by decide +kernel
theorem dX7_findBest_165 : decode cX7_findBest 165 = .ok (.iload 4, 2) := by decide +kernel
theorem dX7_findBest_167 : decode cX7_findBest 167 = .ok (.iload 6, 2) := by decide +kernel
theorem dX7_findBest_169 : decode cX7_findBest 169 = .ok (.iadd, 1) := by decide +kernel
theorem dX7_findBest_170 : decode cX7_findBest 170 = .ok (.iaload, 1) := by decide +kernel
theorem dX7_findBest_171 : decode cX7_findBest 171 = .ok (.invokestatic 89, 3) := by decide +kernel
theorem dX7_findBest_174 : decode cX7_findBest 174 = .ok (.ifCond .eq 15, 3) := by decide +kernel
theorem dX7_findBest_177 : decode cX7_findBest 177 = .ok (.aload_n 0, 1) := by decide +kernel
theorem dX7_findBest_178 : decode cX7_findBest 178 = .ok (.getfield 21, 3) := by decide +kernel
theorem dX7_findBest_181 : decode cX7_findBest 181 = .ok (.iload 4, 2) := by decide +kernel
theorem dX7_findBest_183 : decode cX7_findBest 183 = .ok (.iload 6, 2) := by decide +kernel
theorem dX7_findBest_185 : decode cX7_findBest 185 = .ok (.iadd, 1) := by decide +kernel
theorem dX7_findBest_186 : decode cX7_findBest 186 = .ok (.iload 7, 2) := by decide +kernel
theorem dX7_findBest_188 : decode cX7_findBest 188 = .ok (.iastore, 1) := by decide +kernel
theorem dX7_findBest_189 : decode cX7_findBest 189 = .ok (.iinc 5 1, 3) := by decide +kernel
theorem dX7_findBest_192 : decode cX7_findBest 192 = .ok (.goto (-76), 3) := by decide +kernel
theorem dX7_findBest_195 : decode cX7_findBest 195 = .ok (.return_, 1) := by decide +kernel
theorem dX7_takeIfBetter_0 : decode cX7_takeIfBetter 0 = .ok (.iconst 0, 1) := by decide +kernel
theorem dX7_takeIfBetter_1 : decode cX7_takeIfBetter 1 = .ok (.istore_n 3, 1) := by decide +kernel
theorem dX7_takeIfBetter_2 : decode cX7_takeIfBetter 2 = .ok (.iconst 0, 1) := by decide +kernel
theorem dX7_takeIfBetter_3 : decode cX7_takeIfBetter 3 = .ok (.istore 4, 2) := by decide +kernel
theorem dX7_takeIfBetter_5 : decode cX7_takeIfBetter 5 = .ok (.iload 4, 2) := by decide +kernel
theorem dX7_takeIfBetter_7 : decode cX7_takeIfBetter 7 = .ok (.iload_n 1, 1) := by decide +kernel
theorem dX7_takeIfBetter_8 : decode cX7_takeIfBetter 8 = .ok (.if_icmp .ge 38, 3) := by decide +kernel
theorem dX7_takeIfBetter_11 : decode cX7_takeIfBetter 11 = .ok (.aload_n 0, 1) := by decide +kernel
theorem dX7_takeIfBetter_12 : decode cX7_takeIfBetter 12 = .ok (.getfield 21, 3) := by decide +kernel
theorem dX7_takeIfBetter_15 : decode cX7_takeIfBetter 15 = .ok (.iload 4, 2) := by decide +kernel
theorem dX7_takeIfBetter_17 : decode cX7_takeIfBetter 17 = .ok (.bipush 17, 2) := by decide +kernel
theorem dX7_takeIfBetter_19 : decode cX7_takeIfBetter 19 = .ok (.imul, 1) := by decide +kernel
theorem dX7_takeIfBetter_20 : decode cX7_takeIfBetter 20 = .ok (.iload_n 2, 1) := by decide +kernel
theorem dX7_takeIfBetter_21 : decode cX7_takeIfBetter 21 = .ok (.iadd, 1) := by decide +kernel
theorem dX7_takeIfBetter_22 : decode cX7_takeIfBetter 22 = .ok (.iaload, 1) := by decide +kernel
theorem dX7_takeIfBetter_23 : decode cX7_takeIfBetter 23 = .ok (.istore 5, 2) := by decide +kernel
theorem dX7_takeIfBetter_25 : decode cX7_takeIfBetter 25 = .ok (.iload 5, 2) := by decide +kernel
theorem dX7_takeIfBetter_27 : decode cX7_takeIfBetter 27 = .ok (.iconst (-1), 1) := by decide +kernel
theorem dX7_takeIfBetter_28 : decode cX7_takeIfBetter 28 = .ok (.if_icmp .ne 4, 3) := by decide +kernel
theorem dX7_takeIfBetter_31 : decode cX7_takeIfBetter 31 = .ok (.return_, 1) := by decide +kernel
theorem dX7_takeIfBetter_32 : decode cX7_takeIfBetter 32 = .ok (.iload_n 3, 1) := by decide +kernel
theorem dX7_takeIfBetter_33 : decode cX7_takeIfBetter 33 = .ok (.iload 5, 2) := by decide +kernel
theorem dX7_takeIfBetter_35 : decode cX7_takeIfBetter 35 = .ok (.invokestatic 42, 3) := by decide +kernel
theorem dX7_takeIfBetter_38 : decode cX7_takeIfBetter 38 = .ok (.iadd, 1) := by decide +kernel
theorem dX7_takeIfBetter_39 : decode cX7_takeIfBetter 39 = .ok (.istore_n 3, 1) := by decide +kernel
theorem dX7_takeIfBetter_40 : decode cX7_takeIfBetter 40 = .ok (.iinc 4 1, 3) := by decide +kernel
theorem dX7_takeIfBetter_43 : decode cX7_takeIfBetter 43 = .ok (.goto (-38), 3) := by decide +kernel
theorem dX7_takeIfBetter_46 : decode cX7_takeIfBetter 46 = .ok (.aload_n 0, 1) := by decide +kernel
theorem dX7_takeIfBetter_47 : decode cX7_takeIfBetter 47 = .ok (.getfield 64, 3) := by decide +kernel
theorem dX7_takeIfBetter_50 : decode cX7_takeIfBetter 50 = .ok (.iconst (-1), 1) := by decide +kernel
theorem dX7_takeIfBetter_51 : decode cX7_takeIfBetter 51 = .ok (.if_icmp .eq 28, 3) := by decide +kernel
theorem dX7_takeIfBetter_54 : decode cX7_takeIfBetter 54 = .ok (.iload_n 3, 1) := by decide +kernel
theorem dX7_takeIfBetter_55 : decode cX7_takeIfBetter 55 = .ok (.aload_n 0, 1) := by decide +kernel
theorem dX7_takeIfBetter_56 : decode cX7_takeIfBetter 56 = .ok (.getfield 64, 3) := by decide +kernel
theorem dX7_takeIfBetter_59 : decode cX7_takeIfBetter 59 = .ok (.if_icmp .lt 20, 3) := by decide +kernel
theorem dX7_takeIfBetter_62 : decode cX7_takeIfBetter 62 = .ok (.iload_n 3, 1) := by decide +kernel
theorem dX7_takeIfBetter_63 : decode cX7_takeIfBetter 63 = .ok (.aload_n 0, 1) := by decide +kernel
theorem dX7_takeIfBetter_64 : decode cX7_takeIfBetter 64 = .ok (.getfield 64, 3) := by decide +kernel
theorem dX7_takeIfBetter_67 : decode cX7_takeIfBetter 67 = .ok (.if_icmp .ne 51, 3) := by decide +kernel
theorem dX7_takeIfBetter_70 : decode cX7_takeIfBetter 70 = .ok (.aload_n 0, 1) := by decide +kernel
theorem dX7_takeIfBetter_71 : decode cX7_takeIfBetter 71 = .ok (.iload_n 1, 1) := by decide +kernel
theorem dX7_takeIfBetter_72 : decode cX7_takeIfBetter 72 = .ok (.iload_n 2, 1) := by decide +kernel
theorem dX7_takeIfBetter_73 : decode cX7_takeIfBetter 73 = .ok (.invokevirtual 93, 3) := by decide +kernel
theorem dX7_takeIfBetter_76 : decode cX7_takeIfBetter 76 = .ok (.ifCond .eq 42, 3) := by decide +kernel
theorem dX7_takeIfBetter_79 : decode cX7_takeIfBetter 79 = .ok (.aload_n 0, 1) := by decide +kernel
theorem dX7_takeIfBetter_80 : decode cX7_takeIfBetter 80 = .ok (.iload_n 3, 1) := by decide +kernel
theorem dX7_takeIfBetter_81 : decode cX7_takeIfBetter 81 = .ok (.putfield 64, 3) := by decide +kernel
theorem dX7_takeIfBetter_84 : decode cX7_takeIfBetter 84 = .ok (.iconst 0, 1) := by decide +kernel
theorem dX7_takeIfBetter_85 : decode cX7_takeIfBetter 85 = .ok (.istore 4, 2) := by decide +kernel
theorem dX7_takeIfBetter_87 : decode cX7_takeIfBetter 87 = .ok (.iload 4, 2) := by decide +kernel
theorem dX7_takeIfBetter_89 : decode cX7_takeIfBetter 89 = .ok (.iload_n 1, 1) := by decide +kernel
theorem dX7_takeIfBetter_90 : decode cX7_takeIfBetter 90 = .ok (.if_icmp .ge 28, 3) := by decide +kernel
theorem dX7_takeIfBetter_93 : decode cX7_takeIfBetter 93 = .ok (.aload_n 0, 1) := by decide +kernel
theorem dX7_takeIfBetter_94 : decode cX7_takeIfBetter 94 = .ok (.getfield 24, 3) := by decide +kernel
theorem dX7_takeIfBetter_97 : decode cX7_takeIfBetter 97 = .ok (.iload 4, 2) := by decide +kernel
theorem dX7_takeIfBetter_99 : decode cX7_takeIfBetter 99 = .ok (.aload_n 0, 1) := by decide +kernel
theorem dX7_takeIfBetter_100 : decode cX7_takeIfBetter 100 = .ok (.getfield 21, 3) := by decide +kernel
theorem dX7_takeIfBetter_103 : decode cX7_takeIfBetter 103 = .ok (.iload 4, 2) := by decide +kernel
theorem dX7_takeIfBetter_105 : decode cX7_takeIfBetter 105 = .ok (.bipush 17, 2) := by decide +kernel
theorem dX7_takeIfBetter_107 : decode cX7_takeIfBetter 107 = .ok (.imul, 1) := by decide +kernel
theorem dX7_takeIfBetter_108 : decode cX7_takeIfBetter 108 = .ok (.iload_n 2, 1) := by decide +kernel
theorem dX7_takeIfBetter_109 : decode cX7_takeIfBetter 109 = .ok (.iadd, 1) := by decide +kernel
theorem dX7_takeIfBetter_110 : decode cX7_takeIfBetter 110 = .ok (.iaload, 1) := by decide +kernel
theorem dX7_takeIfBetter_111 : decode cX7_takeIfBetter 111 = .ok (.iastore, 1) := by decide +kernel
theorem dX7_takeIfBetter_112 : decode cX7_takeIfBetter 112 = .ok (.iinc 4 1, 3) := by decide +kernel
theorem dX7_takeIfBetter_115 : decode cX7_takeIfBetter 115 = .ok (.goto (-28), 3) := by decide +kernel
theorem dX7_takeIfBetter_118 : decode cX7_takeIfBetter 118 = .ok (.return_, 1) := by decide +kernel
theorem dX7_isAhead_0 : decode cX7_isAhead 0 = .ok (.iconst 0, 1) := by decide +kernel
theorem dX7_isAhead_1 : decode cX7_isAhead 1 = .ok (.istore_n 3, 1) := by decide +kernel
theorem dX7_isAhead_2 : decode cX7_isAhead 2 = .ok (.iload_n 3, 1) := by decide +kernel
theorem dX7_isAhead_3 : decode cX7_isAhead 3 = .ok (.iload_n 1, 1) := by decide +kernel
theorem dX7_isAhead_4 : decode cX7_isAhead 4 = .ok (.if_icmp .ge 50, 3) := by decide +kernel
theorem dX7_isAhead_7 : decode cX7_isAhead 7 = .ok (.aload_n 0, 1) := by decide +kernel
theorem dX7_isAhead_8 : decode cX7_isAhead 8 = .ok (.getfield 21, 3) := by decide +kernel
theorem dX7_isAhead_11 : decode cX7_isAhead 11 = .ok (.iload_n 3, 1) := by decide +kernel
theorem dX7_isAhead_12 : decode cX7_isAhead 12 = .ok (.bipush 17, 2) := by decide +kernel
theorem dX7_isAhead_14 : decode cX7_isAhead 14 = .ok (.imul, 1) := by decide +kernel
theorem dX7_isAhead_15 : decode cX7_isAhead 15 = .ok (.iload_n 2, 1) := by decide +kernel
theorem dX7_isAhead_16 : decode cX7_isAhead 16 = .ok (.iadd, 1) := by decide +kernel
theorem dX7_isAhead_17 : decode cX7_isAhead 17 = .ok (.iaload, 1) := by decide +kernel
theorem dX7_isAhead_18 : decode cX7_isAhead 18 = .ok (.istore 4, 2) := by decide +kernel
theorem dX7_isAhead_20 : decode cX7_isAhead 20 = .ok (.iload 4, 2) := by decide +kernel
theorem dX7_isAhead_22 : decode cX7_isAhead 22 = .ok (.aload_n 0, 1) := by decide +kernel
theorem dX7_isAhead_23 : decode cX7_isAhead 23 = .ok (.getfield 24, 3) := by decide +kernel
theorem dX7_isAhead_26 : decode cX7_isAhead 26 = .ok (.iload_n 3, 1) := by decide +kernel
theorem dX7_isAhead_27 : decode cX7_isAhead 27 = .ok (.iaload, 1) := by decide +kernel
theorem dX7_isAhead_28 : decode cX7_isAhead 28 = .ok (.if_icmp .eq 20, 3) := by decide +kernel
theorem dX7_isAhead_31 : decode cX7_isAhead 31 = .ok (.iload 4, 2) := by decide +kernel
theorem dX7_isAhead_33 : decode cX7_isAhead 33 = .ok (.aload_n 0, 1) := by decide +kernel
theorem dX7_isAhead_34 : decode cX7_isAhead 34 = .ok (.getfield 24, 3) := by decide +kernel
theorem dX7_isAhead_37 : decode cX7_isAhead 37 = .ok (.iload_n 3, 1) := by decide +kernel
theorem dX7_isAhead_38 : decode cX7_isAhead 38 = .ok (.iaload, 1) := by decide +kernel
theorem dX7_isAhead_39 : decode cX7_isAhead 39 = .ok (.if_icmp .ge 7, 3) := by decide +kernel
theorem dX7_isAhead_42 : decode cX7_isAhead 42 = .ok (.iconst 1, 1) := by decide +kernel
theorem dX7_isAhead_43 : decode cX7_isAhead 43 = .ok (.goto 4, 3) := by decide +kernel
theorem dX7_isAhead_46 : decode cX7_isAhead 46 = .ok (.iconst 0, 1) := by decide +kernel
theorem dX7_isAhead_47 : decode cX7_isAhead 47 = .ok (.ireturn, 1) := by decide +kernel
theorem dX7_isAhead_48 : decode cX7_isAhead 48 = .ok (.iinc 3 1, 3) := by decide +kernel
theorem dX7_isAhead_51 : decode cX7_isAhead 51 = .ok (.goto (-49), 3) := by decide +kernel
theorem dX7_isAhead_54 : decode cX7_isAhead 54 = .ok (.iconst 0, 1) := by decide +kernel
theorem dX7_isAhead_55 : decode cX7_isAhead 55 = .ok (.ireturn, 1) := by decide +kernel
theorem dX8_init_0 : decode cX8_init 0 = .ok (.aload_n 0, 1) := by decide +kernel
theorem dX8_init_1 : decode cX8_init 1 = .ok (.invokespecial 3, 3) := by decide +kernel
theorem dX8_init_4 : decode cX8_init 4 = .ok (.aload_n 0, 1) := by decide +kernel
theorem dX8_init_5 : decode cX8_init 5 = .ok (.bipush 6, 2) := by decide +kernel
theorem dX8_init_7 : decode cX8_init 7 = .ok (.newarray .int, 2) := by decide +kernel
theorem dX8_init_9 : decode cX8_init 9 = .ok (.putfield 9, 3) := by decide +kernel
theorem dX8_init_12 : decode cX8_init 12 = .ok (.aload_n 0, 1) := by decide +kernel
theorem dX8_init_13 : decode cX8_init 13 = .ok (.bipush 6, 2) := by decide +kernel
theorem dX8_init_15 : decode cX8_init 15 = .ok (.newarray .int, 2) := by decide +kernel
theorem dX8_init_17 : decode cX8_init 17 = .ok (.putfield 15, 3) := by decide +kernel
theorem dX8_init_20 : decode cX8_init 20 = .ok (.return_, 1) := by decide +kernel
theorem dX8_clear_0 : decode cX8_clear 0 = .ok (.aload_n 0, 1) := by decide +kernel
theorem dX8_clear_1 : decode cX8_clear 1 = .ok (.getfield 9, 3) := by decide +kernel
theorem dX8_clear_4 : decode cX8_clear 4 = .ok (.iconst 0, 1) := by decide +kernel
theorem dX8_clear_5 : decode cX8_clear 5 = .ok (.invokestatic 18, 3) := by decide +kernel
theorem dX8_clear_8 : decode cX8_clear 8 = .ok (.aload_n 0, 1) := by decide +kernel
theorem dX8_clear_9 : decode cX8_clear 9 = .ok (.iconst 0, 1) := by decide +kernel
theorem dX8_clear_10 : decode cX8_clear 10 = .ok (.putfield 24, 3) := by decide +kernel
theorem dX8_clear_13 : decode cX8_clear 13 = .ok (.return_, 1) := by decide +kernel
theorem dX8_become_0 : decode cX8_become 0 = .ok (.aload_n 1, 1) := by decide +kernel
theorem dX8_become_1 : decode cX8_become 1 = .ok (.getfield 9, 3) := by decide +kernel
theorem dX8_become_4 : decode cX8_become 4 = .ok (.iconst 0, 1) := by decide +kernel
theorem dX8_become_5 : decode cX8_become 5 = .ok (.aload_n 0, 1) := by decide +kernel
theorem dX8_become_6 : decode cX8_become 6 = .ok (.getfield 9, 3) := by decide +kernel
theorem dX8_become_9 : decode cX8_become 9 = .ok (.iconst 0, 1) := by decide +kernel
theorem dX8_become_10 : decode cX8_become 10 = .ok (.bipush 6, 2) := by decide +kernel
theorem dX8_become_12 : decode cX8_become 12 = .ok (.invokestatic 28, 3) := by decide +kernel
theorem dX8_become_15 : decode cX8_become 15 = .ok (.aload_n 0, 1) := by decide +kernel
theorem dX8_become_16 : decode cX8_become 16 = .ok (.aload_n 1, 1) := by decide +kernel
theorem dX8_become_17 : decode cX8_become 17 = .ok (.getfield 24, 3) := by decide +kernel
theorem dX8_become_20 : decode cX8_become 20 = .ok (.putfield 24, 3) := by decide +kernel
theorem dX8_become_23 : decode cX8_become 23 = .ok (.return_, 1) := by decide +kernel
theorem dX8_isAsked_0 : decode cX8_isAsked 0 = .ok (.aload_n 1, 1) := by decide +kernel
theorem dX8_isAsked_1 : decode cX8_isAsked 1 = .ok (.iload_n 3, 1) := by decide +kernel
theorem dX8_isAsked_2 : decode cX8_isAsked 2 = .ok (.aload_n 1, 1) := by decide +kernel
theorem dX8_isAsked_3 : decode cX8_isAsked 3 = .ok (.aload_n 0, 1) := by decide +kernel
theorem dX8_isAsked_4 : decode cX8_isAsked 4 = .ok (.getfield 9, 3) := by decide +kernel
theorem dX8_isAsked_7 : decode cX8_isAsked 7 = .ok (.iload_n 2, 1) := by decide +kernel
theorem dX8_isAsked_8 : decode cX8_isAsked 8 = .ok (.iaload, 1) := by decide +kernel
theorem dX8_isAsked_9 : decode cX8_isAsked 9 = .ok (.aload_n 0, 1) := by decide +kernel
theorem dX8_isAsked_10 : decode cX8_isAsked 10 = .ok (.getfield 24, 3) := by decide +kernel
theorem dX8_isAsked_13 : decode cX8_isAsked 13 = .ok (.invokevirtual 34, 3) := by decide +kernel
theorem dX8_isAsked_16 : decode cX8_isAsked 16 = .ok (.invokevirtual 40, 3) := by decide +kernel
theorem dX8_isAsked_19 : decode cX8_isAsked 19 = .ok (.istore 4, 2) := by decide +kernel
theorem dX8_isAsked_21 : decode cX8_isAsked 21 = .ok (.aload_n 0, 1) := by decide +kernel
theorem dX8_isAsked_22 : decode cX8_isAsked 22 = .ok (.getfield 9, 3) := by decide +kernel
theorem dX8_isAsked_25 : decode cX8_isAsked 25 = .ok (.iload_n 2, 1) := by decide +kernel
theorem dX8_isAsked_26 : decode cX8_isAsked 26 = .ok (.dup2, 1) := by decide +kernel
theorem dX8_isAsked_27 : decode cX8_isAsked 27 = .ok (.iaload, 1) := by decide +kernel
theorem dX8_isAsked_28 : decode cX8_isAsked 28 = .ok (.aload_n 1, 1) := by decide +kernel
theorem dX8_isAsked_29 : decode cX8_isAsked 29 = .ok (.getfield 44, 3) := by decide +kernel
theorem dX8_isAsked_32 : decode cX8_isAsked 32 = .ok (.iload_n 3, 1) := by decide +kernel
theorem dX8_isAsked_33 : decode cX8_isAsked 33 = .ok (.iaload, 1) := by decide +kernel
theorem dX8_isAsked_34 : decode cX8_isAsked 34 = .ok (.ior, 1) := by decide +kernel
theorem dX8_isAsked_35 : decode cX8_isAsked 35 = .ok (.iastore, 1) := by decide +kernel
theorem dX8_isAsked_36 : decode cX8_isAsked 36 = .ok (.iload 4, 2) := by decide +kernel
theorem dX8_isAsked_38 : decode cX8_isAsked 38 = .ok (.ireturn, 1) := by decide +kernel
theorem dX8_passDay_0 : decode cX8_passDay 0 = .ok (.aload_n 0, 1) := by decide +kernel
theorem dX8_passDay_1 : decode cX8_passDay 1 = .ok (.getfield 9, 3) := by decide +kernel
theorem dX8_passDay_4 : decode cX8_passDay 4 = .ok (.iconst 0, 1) := by decide +kernel
theorem dX8_passDay_5 : decode cX8_passDay 5 = .ok (.aload_n 0, 1) := by decide +kernel
theorem dX8_passDay_6 : decode cX8_passDay 6 = .ok (.getfield 15, 3) := by decide +kernel
theorem dX8_passDay_9 : decode cX8_passDay 9 = .ok (.iconst 0, 1) := by decide +kernel
theorem dX8_passDay_10 : decode cX8_passDay 10 = .ok (.bipush 6, 2) := by decide +kernel
theorem dX8_passDay_12 : decode cX8_passDay 12 = .ok (.invokestatic 28, 3) := by decide +kernel
theorem dX8_passDay_15 : decode cX8_passDay 15 = .ok (.iconst 0, 1) := by decide +kernel
theorem dX8_passDay_16 : decode cX8_passDay 16 = .ok (.istore_n 2, 1) := by decide +kernel
theorem dX8_passDay_17 : decode cX8_passDay 17 = .ok (.iconst 0, 1) := by decide +kernel
theorem dX8_passDay_18 : decode cX8_passDay 18 = .ok (.istore_n 3, 1) := by decide +kernel
theorem dX8_passDay_19 : decode cX8_passDay 19 = .ok (.iload_n 3, 1) := by decide +kernel
theorem dX8_passDay_20 : decode cX8_passDay 20 = .ok (.aload_n 1, 1) := by decide +kernel
theorem dX8_passDay_21 : decode cX8_passDay 21 = .ok (.getfield 47, 3) := by decide +kernel
theorem dX8_passDay_24 : decode cX8_passDay 24 = .ok (.if_icmp .ge 81, 3) := by decide +kernel
theorem dX8_passDay_27 : decode cX8_passDay 27 = .ok (.iconst 0, 1) := by decide +kernel
theorem dX8_passDay_28 : decode cX8_passDay 28 = .ok (.istore 4, 2) := by decide +kernel
theorem dX8_passDay_30 : decode cX8_passDay 30 = .ok (.iload 4, 2) := by decide +kernel
theorem dX8_passDay_32 : decode cX8_passDay 32 = .ok (.aload_n 1, 1) := by decide +kernel
theorem dX8_passDay_33 : decode cX8_passDay 33 = .ok (.getfield 47, 3) := by decide +kernel
theorem dX8_passDay_36 : decode cX8_passDay 36 = .ok (.if_icmp .ge 40, 3) := by decide +kernel
theorem dX8_passDay_39 : decode cX8_passDay 39 = .ok (.aload_n 1, 1) := by decide +kernel
theorem dX8_passDay_40 : decode cX8_passDay 40 = .ok (.getfield 50, 3) := by decide +kernel
theorem dX8_passDay_43 : decode cX8_passDay 43 = .ok (.iload_n 3, 1) := by decide +kernel
theorem dX8_passDay_44 : decode cX8_passDay 44 = .ok (.iaload, 1) := by decide +kernel
theorem dX8_passDay_45 : decode cX8_passDay 45 = .ok (.iload 4, 2) := by decide +kernel
theorem dX8_passDay_47 : decode cX8_passDay 47 = .ok (.ishr, 1) := by decide +kernel
theorem dX8_passDay_48 : decode cX8_passDay 48 = .ok (.iconst 1, 1) := by decide +kernel
theorem dX8_passDay_49 : decode cX8_passDay 49 = .ok (.iand, 1) := by decide +kernel
theorem dX8_passDay_50 : decode cX8_passDay 50 = .ok (.iconst 1, 1) := by decide +kernel
theorem dX8_passDay_51 : decode cX8_passDay 51 = .ok (.if_icmp .ne 19, 3) := by decide +kernel
theorem dX8_passDay_54 : decode cX8_passDay 54 = .ok (.aload_n 0, 1) := by decide +kernel
theorem dX8_passDay_55 : decode cX8_passDay 55 = .ok (.getfield 9, 3) := by decide +kernel
theorem dX8_passDay_58 : decode cX8_passDay 58 = .ok (.iload_n 3, 1) := by decide +kernel
theorem dX8_passDay_59 : decode cX8_passDay 59 = .ok (.dup2, 1) := by decide +kernel
theorem dX8_passDay_60 : decode cX8_passDay 60 = .ok (.iaload, 1) := by decide +kernel
theorem dX8_passDay_61 : decode cX8_passDay 61 = .ok (.aload_n 0, 1) := by decide +kernel
theorem dX8_passDay_62 : decode cX8_passDay 62 = .ok (.getfield 15, 3) := by decide +kernel
theorem dX8_passDay_65 : decode cX8_passDay 65 = .ok (.iload 4, 2) := by decide +kernel
theorem dX8_passDay_67 : decode cX8_passDay 67 = .ok (.iaload, 1) := by decide +kernel
theorem dX8_passDay_68 : decode cX8_passDay 68 = .ok (.ior, 1) := by decide +kernel
theorem dX8_passDay_69 : decode cX8_passDay 69 = .ok (.iastore, 1) := by decide +kernel
theorem dX8_passDay_70 : decode cX8_passDay 70 = .ok (.iinc 4 1, 3) := by decide +kernel
theorem dX8_passDay_73 : decode cX8_passDay 73 = .ok (.goto (-43), 3) := by decide +kernel
theorem dX8_passDay_76 : decode cX8_passDay 76 = .ok (.iload_n 2, 1) := by decide +kernel
theorem dX8_passDay_77 : decode cX8_passDay 77 = .ok (.aload_n 0, 1) := by decide +kernel
theorem dX8_passDay_78 : decode cX8_passDay 78 = .ok (.getfield 9, 3) := by decide +kernel
theorem dX8_passDay_81 : decode cX8_passDay 81 = .ok (.iload_n 3, 1) := by decide +kernel
theorem dX8_passDay_82 : decode cX8_passDay 82 = .ok (.iaload, 1) := by decide +kernel
theorem dX8_passDay_83 : decode cX8_passDay 83 = .ok (.aload_n 0, 1) := by decide +kernel
theorem dX8_passDay_84 : decode cX8_passDay 84 = .ok (.getfield 15, 3) := by decide +kernel
theorem dX8_passDay_87 : decode cX8_passDay 87 = .ok (.iload_n 3, 1) := by decide +kernel
theorem dX8_passDay_88 : decode cX8_passDay 88 = .ok (.iaload, 1) := by decide +kernel
theorem dX8_passDay_89 : decode cX8_passDay 89 = .ok (.if_icmp .eq 7, 3) := by decide +kernel
theorem dX8_passDay_92 : decode cX8_passDay 92 = .ok (.iconst 1, 1) := by decide +kernel
theorem dX8_passDay_93 : decode cX8_passDay 93 = .ok (.goto 4, 3) := by decide +kernel
theorem dX8_passDay_96 : decode cX8_passDay 96 = .ok (.iconst 0, 1) := by decide +kernel
theorem dX8_passDay_97 : decode cX8_passDay 97 = .ok (.ior, 1) := by decide +kernel
theorem dX8_passDay_98 : decode cX8_passDay 98 = .ok (.istore_n 2, 1) := by decide +kernel
theorem dX8_passDay_99 : decode cX8_passDay 99 = .ok (.iinc 3 1, 3) := by decide +kernel
theorem dX8_passDay_102 : decode cX8_passDay 102 = .ok (.goto (-83), 3) := by decide +kernel
theorem dX8_passDay_105 : decode cX8_passDay 105 = .ok (.iload_n 2, 1) := by decide +kernel
theorem dX8_passDay_106 : decode cX8_passDay 106 = .ok (.ireturn, 1) := by decide +kernel
theorem dX8_passDays_0 : decode cX8_passDays 0 = .ok (.iconst 0, 1) := by decide +kernel
theorem dX8_passDays_1 : decode cX8_passDays 1 = .ok (.istore_n 3, 1) := by decide +kernel
theorem dX8_passDays_2 : decode cX8_passDays 2 = .ok (.iload_n 3, 1) := by decide +kernel
theorem dX8_passDays_3 : decode cX8_passDays 3 = .ok (.iload_n 2, 1) := by decide +kernel
theorem dX8_passDays_4 : decode cX8_passDays 4 = .ok (.if_icmp .ge 19, 3) := by decide +kernel
theorem dX8_passDays_7 : decode cX8_passDays 7 = .ok (.aload_n 0, 1) := by decide +kernel
theorem dX8_passDays_8 : decode cX8_passDays 8 = .ok (.aload_n 1, 1) := by decide +kernel
theorem dX8_passDays_9 : decode cX8_passDays 9 = .ok (.invokevirtual 53, 3) := by decide +kernel
theorem dX8_passDays_12 : decode cX8_passDays 12 = .ok (.ifCond .ne 5, 3) := by decide +kernel
theorem dX8_passDays_15 : decode cX8_passDays 15 = .ok (.iload_n 3, 1) := by decide +kernel
theorem dX8_passDays_16 : decode cX8_passDays 16 = .ok (.ireturn, 1) := by decide +kernel
theorem dX8_passDays_17 : decode cX8_passDays 17 = .ok (.iinc 3 1, 3) := by decide +kernel
theorem dX8_passDays_20 : decode cX8_passDays 20 = .ok (.goto (-18), 3) := by decide +kernel
theorem dX8_passDays_23 : decode cX8_passDays 23 = .ok (.iload_n 2, 1) := by decide +kernel
theorem dX8_passDays_24 : decode cX8_passDays 24 = .ok (.ireturn, 1) := by decide +kernel
theorem dX8_doDeeds_0 : decode cX8_doDeeds 0 = .ok (.iconst 0, 1) := by decide +kernel
theorem dX8_doDeeds_1 : decode cX8_doDeeds 1 = .ok (.istore 4, 2) := by decide +kernel
theorem dX8_doDeeds_3 : decode cX8_doDeeds 3 = .ok (.iconst 0, 1) := by decide +kernel
theorem dX8_doDeeds_4 : decode cX8_doDeeds 4 = .ok (.istore 5, 2) := by decide +kernel
theorem dX8_doDeeds_6 : decode cX8_doDeeds 6 = .ok (.iload 5, 2) := by decide +kernel
theorem dX8_doDeeds_8 : decode cX8_doDeeds 8 = .ok (.iload_n 3, 1) := by decide +kernel
theorem dX8_doDeeds_9 : decode cX8_doDeeds 9 = .ok (.if_icmp .ge 51, 3) := by decide +kernel
theorem dX8_doDeeds_12 : decode cX8_doDeeds 12 = .ok (.iload 5, 2) := by decide +kernel
theorem dX8_doDeeds_14 : decode cX8_doDeeds 14 = .ok (.aload_n 2, 1) := by decide +kernel
theorem dX8_doDeeds_15 : decode cX8_doDeeds 15 = .ok (.getfield 57, 3) := by decide +kernel
theorem dX8_doDeeds_18 : decode cX8_doDeeds 18 = .ok (.if_icmp .ge 42, 3) := by decide +kernel
theorem dX8_doDeeds_21 : decode cX8_doDeeds 21 = .ok (.aload_n 1, 1) := by decide +kernel
theorem dX8_doDeeds_22 : decode cX8_doDeeds 22 = .ok (.aload_n 2, 1) := by decide +kernel
theorem dX8_doDeeds_23 : decode cX8_doDeeds 23 = .ok (.getfield 62, 3) := by decide +kernel
theorem dX8_doDeeds_26 : decode cX8_doDeeds 26 = .ok (.iload 5, 2) := by decide +kernel
theorem dX8_doDeeds_28 : decode cX8_doDeeds 28 = .ok (.laload, 1) := by decide +kernel
theorem dX8_doDeeds_29 : decode cX8_doDeeds 29 = .ok (.invokevirtual 66, 3) := by decide +kernel
theorem dX8_doDeeds_32 : decode cX8_doDeeds 32 = .ok (.ifCond .eq 22, 3) := by decide +kernel
theorem dX8_doDeeds_35 : decode cX8_doDeeds 35 = .ok (.aload_n 0, 1) := by decide +kernel
theorem dX8_doDeeds_36 : decode cX8_doDeeds 36 = .ok (.aload_n 1, 1) := by decide +kernel
theorem dX8_doDeeds_37 : decode cX8_doDeeds 37 = .ok (.aload_n 2, 1) := by decide +kernel
theorem dX8_doDeeds_38 : decode cX8_doDeeds 38 = .ok (.getfield 62, 3) := by decide +kernel
theorem dX8_doDeeds_41 : decode cX8_doDeeds 41 = .ok (.iload 5, 2) := by decide +kernel
theorem dX8_doDeeds_43 : decode cX8_doDeeds 43 = .ok (.laload, 1) := by decide +kernel
theorem dX8_doDeeds_44 : decode cX8_doDeeds 44 = .ok (.l2i, 1) := by decide +kernel
theorem dX8_doDeeds_45 : decode cX8_doDeeds 45 = .ok (.invokevirtual 70, 3) := by decide +kernel
theorem dX8_doDeeds_48 : decode cX8_doDeeds 48 = .ok (.ifCond .eq 6, 3) := by decide +kernel
theorem dX8_doDeeds_51 : decode cX8_doDeeds 51 = .ok (.iinc 4 1, 3) := by decide +kernel
theorem dX8_doDeeds_54 : decode cX8_doDeeds 54 = .ok (.iinc 5 1, 3) := by decide +kernel
theorem dX8_doDeeds_57 : decode cX8_doDeeds 57 = .ok (.goto (-51), 3) := by decide +kernel
theorem dX8_doDeeds_60 : decode cX8_doDeeds 60 = .ok (.iload 4, 2) := by decide +kernel
theorem dX8_doDeeds_62 : decode cX8_doDeeds 62 = .ok (.ireturn, 1) := by decide +kernel
theorem dX8_isDone_0 : decode cX8_isDone 0 = .ok (.iload_n 2, 1) := by decide +kernel
theorem dX8_isDone_1 : decode cX8_isDone 1 = .ok (.iconst (-1), 1) := by decide +kernel
theorem dX8_isDone_2 : decode cX8_isDone 2 = .ok (.if_icmp .ne 11, 3) := by decide +kernel
theorem dX8_isDone_5 : decode cX8_isDone 5 = .ok (.aload_n 0, 1) := by decide +kernel
theorem dX8_isDone_6 : decode cX8_isDone 6 = .ok (.aload_n 1, 1) := by decide +kernel
theorem dX8_isDone_7 : decode cX8_isDone 7 = .ok (.invokevirtual 53, 3) := by decide +kernel
theorem dX8_isDone_10 : decode cX8_isDone 10 = .ok (.pop, 1) := by decide +kernel
theorem dX8_isDone_11 : decode cX8_isDone 11 = .ok (.iconst 0, 1) := by decide +kernel
theorem dX8_isDone_12 : decode cX8_isDone 12 = .ok (.ireturn, 1) := by decide +kernel
theorem dX8_isDone_13 : decode cX8_isDone 13 = .ok (.iload_n 2, 1) := by decide +kernel
theorem dX8_isDone_14 : decode cX8_isDone 14 = .ok (.bipush 100, 2) := by decide +kernel
theorem dX8_isDone_16 : decode cX8_isDone 16 = .ok (.irem, 1) := by decide +kernel
theorem dX8_isDone_17 : decode cX8_isDone 17 = .ok (.bipush 10, 2) := by decide +kernel
theorem dX8_isDone_19 : decode cX8_isDone 19 = .ok (.idiv, 1) := by decide +kernel
theorem dX8_isDone_20 : decode cX8_isDone 20 = .ok (.istore_n 3, 1) := by decide +kernel
theorem dX8_isDone_21 : decode cX8_isDone 21 = .ok (.iload_n 2, 1) := by decide +kernel
theorem dX8_isDone_22 : decode cX8_isDone 22 = .ok (.bipush 10, 2) := by decide +kernel
theorem dX8_isDone_24 : decode cX8_isDone 24 = .ok (.irem, 1) := by decide +kernel
theorem dX8_isDone_25 : decode cX8_isDone 25 = .ok (.istore 4, 2) := by decide +kernel
theorem dX8_isDone_27 : decode cX8_isDone 27 = .ok (.iload_n 2, 1) := by decide +kernel
theorem dX8_isDone_28 : decode cX8_isDone 28 = .ok (.bipush 100, 2) := by decide +kernel
theorem dX8_isDone_30 : decode cX8_isDone 30 = .ok (.if_icmp .lt 12, 3) := by decide +kernel
theorem dX8_isDone_33 : decode cX8_isDone 33 = .ok (.aload_n 0, 1) := by decide +kernel
theorem dX8_isDone_34 : decode cX8_isDone 34 = .ok (.aload_n 1, 1) := by decide +kernel
theorem dX8_isDone_35 : decode cX8_isDone 35 = .ok (.iload_n 3, 1) := by decide +kernel
theorem dX8_isDone_36 : decode cX8_isDone 36 = .ok (.iload 4, 2) := by decide +kernel
theorem dX8_isDone_38 : decode cX8_isDone 38 = .ok (.invokevirtual 74, 3) := by decide +kernel
theorem dX8_isDone_41 : decode cX8_isDone 41 = .ok (.ireturn, 1) := by decide +kernel
theorem dX8_isDone_42 : decode cX8_isDone 42 = .ok (.aload_n 0, 1) := by decide +kernel
theorem dX8_isDone_43 : decode cX8_isDone 43 = .ok (.getfield 9, 3) := by decide +kernel
theorem dX8_isDone_46 : decode cX8_isDone 46 = .ok (.iload_n 3, 1) := by decide +kernel
theorem dX8_isDone_47 : decode cX8_isDone 47 = .ok (.dup2, 1) := by decide +kernel
theorem dX8_isDone_48 : decode cX8_isDone 48 = .ok (.iaload, 1) := by decide +kernel
theorem dX8_isDone_49 : decode cX8_isDone 49 = .ok (.iconst 1, 1) := by decide +kernel
theorem dX8_isDone_50 : decode cX8_isDone 50 = .ok (.iload 4, 2) := by decide +kernel
theorem dX8_isDone_52 : decode cX8_isDone 52 = .ok (.ishl, 1) := by decide +kernel
theorem dX8_isDone_53 : decode cX8_isDone 53 = .ok (.ior, 1) := by decide +kernel
theorem dX8_isDone_54 : decode cX8_isDone 54 = .ok (.iastore, 1) := by decide +kernel
theorem dX8_isDone_55 : decode cX8_isDone 55 = .ok (.iconst 0, 1) := by decide +kernel
theorem dX8_isDone_56 : decode cX8_isDone 56 = .ok (.ireturn, 1) := by decide +kernel
theorem dX8_draw_0 : decode cX8_draw 0 = .ok (.aload_n 0, 1) := by decide +kernel
theorem dX8_draw_1 : decode cX8_draw 1 = .ok (.ldc 78, 2) := by decide +kernel
theorem dX8_draw_3 : decode cX8_draw 3 = .ok (.aload_n 0, 1) := by decide +kernel
theorem dX8_draw_4 : decode cX8_draw 4 = .ok (.getfield 79, 3) := by decide +kernel
theorem dX8_draw_7 : decode cX8_draw 7 = .ok (.imul, 1) := by decide +kernel
theorem dX8_draw_8 : decode cX8_draw 8 = .ok (.sipush 12345, 3) := by decide +kernel
theorem dX8_draw_11 : decode cX8_draw 11 = .ok (.iadd, 1) := by decide +kernel
theorem dX8_draw_12 : decode cX8_draw 12 = .ok (.putfield 79, 3) := by decide +kernel
theorem dX8_draw_15 : decode cX8_draw 15 = .ok (.iload_n 1, 1) := by decide +kernel
theorem dX8_draw_16 : decode cX8_draw 16 = .ok (.ifCond .le 15, 3) := by decide +kernel
theorem dX8_draw_19 : decode cX8_draw 19 = .ok (.aload_n 0, 1) := by decide +kernel
theorem dX8_draw_20 : decode cX8_draw 20 = .ok (.getfield 79, 3) := by decide +kernel
theorem dX8_draw_23 : decode cX8_draw 23 = .ok (.bipush 16, 2) := by decide +kernel
theorem dX8_draw_25 : decode cX8_draw 25 = .ok (.iushr, 1) := by decide +kernel
theorem dX8_draw_26 : decode cX8_draw 26 = .ok (.iload_n 1, 1) := by decide +kernel
theorem dX8_draw_27 : decode cX8_draw 27 = .ok (.irem, 1) := by decide +kernel
theorem dX8_draw_28 : decode cX8_draw 28 = .ok (.goto 4, 3) := by decide +kernel
theorem dX8_draw_31 : decode cX8_draw 31 = .ok (.iconst 0, 1) := by decide +kernel
theorem dX8_draw_32 : decode cX8_draw 32 = .ok (.ireturn, 1) := by decide +kernel
theorem dX8_passYear_0 : decode cX8_passYear 0 = .ok (.aload_n 0, 1) := by decide +kernel
theorem dX8_passYear_1 : decode cX8_passYear 1 = .ok (.iload_n 2, 1) := by decide +kernel
theorem dX8_passYear_2 : decode cX8_passYear 2 = .ok (.putfield 79, 3) := by decide +kernel
theorem dX8_passYear_5 : decode cX8_passYear 5 = .ok (.iconst 0, 1) := by decide +kernel
theorem dX8_passYear_6 : decode cX8_passYear 6 = .ok (.istore 4, 2) := by decide +kernel
theorem dX8_passYear_8 : decode cX8_passYear 8 = .ok (.iload 4, 2) := by decide +kernel
theorem dX8_passYear_10 : decode cX8_passYear 10 = .ok (.iload_n 3, 1) := by decide +kernel
theorem dX8_passYear_11 : decode cX8_passYear 11 = .ok (.if_icmp .ge 104, 3) := by decide +kernel
theorem dX8_passYear_14 : decode cX8_passYear 14 = .ok (.aload_n 0, 1) := by decide +kernel
theorem dX8_passYear_15 : decode cX8_passYear 15 = .ok (.iconst 4, 1) := by decide +kernel
theorem dX8_passYear_16 : decode cX8_passYear 16 = .ok (.invokevirtual 82, 3) := by decide +kernel
theorem dX8_passYear_19 : decode cX8_passYear 19 = .ok (.istore 5, 2) := by decide +kernel
theorem dX8_passYear_21 : decode cX8_passYear 21 = .ok (.iload 5, 2) := by decide +kernel
theorem dX8_passYear_23 : decode cX8_passYear 23 = .ok (.ifCond .ne 12, 3) := by decide +kernel
theorem dX8_passYear_26 : decode cX8_passYear 26 = .ok (.aload_n 0, 1) := by decide +kernel
theorem dX8_passYear_27 : decode cX8_passYear 27 = .ok (.aload_n 1, 1) := by decide +kernel
theorem dX8_passYear_28 : decode cX8_passYear 28 = .ok (.invokevirtual 53, 3) := by decide +kernel
theorem dX8_passYear_31 : decode cX8_passYear 31 = .ok (.pop, 1) := by decide +kernel
theorem dX8_passYear_32 : decode cX8_passYear 32 = .ok (.goto 77, 3) := by decide +kernel
theorem dX8_passYear_35 : decode cX8_passYear 35 = .ok (.iload 5, 2) := by decide +kernel
theorem dX8_passYear_37 : decode cX8_passYear 37 = .ok (.iconst 1, 1) := by decide +kernel
theorem dX8_passYear_38 : decode cX8_passYear 38 = .ok (.if_icmp .ne 18, 3) := by decide +kernel
theorem dX8_passYear_41 : decode cX8_passYear 41 = .ok (.aload_n 0, 1) := by decide +kernel
theorem dX8_passYear_42 : decode cX8_passYear 42 = .ok (.aload_n 0, 1) := by decide +kernel
theorem dX8_passYear_43 : decode cX8_passYear 43 = .ok (.aload_n 1, 1) := by decide +kernel
theorem dX8_passYear_44 : decode cX8_passYear 44 = .ok (.getfield 86, 3) := by decide +kernel
theorem dX8_passYear_47 : decode cX8_passYear 47 = .ok (.invokevirtual 82, 3) := by decide +kernel
theorem dX8_passYear_50 : decode cX8_passYear 50 = .ok (.putfield 24, 3) := by decide +kernel
theorem dX8_passYear_53 : decode cX8_passYear 53 = .ok (.goto 56, 3) := by decide +kernel
theorem dX8_passYear_56 : decode cX8_passYear 56 = .ok (.aload_n 0, 1) := by decide +kernel
theorem dX8_passYear_57 : decode cX8_passYear 57 = .ok (.aload_n 1, 1) := by decide +kernel
theorem dX8_passYear_58 : decode cX8_passYear 58 = .ok (.getfield 47, 3) := by decide +kernel
theorem dX8_passYear_61 : decode cX8_passYear 61 = .ok (.invokevirtual 82, 3) := by decide +kernel
theorem dX8_passYear_64 : decode cX8_passYear 64 = .ok (.istore 6, 2) := by decide +kernel
theorem dX8_passYear_66 : decode cX8_passYear 66 = .ok (.aload_n 0, 1) := by decide +kernel
theorem dX8_passYear_67 : decode cX8_passYear 67 = .ok (.aload_n 1, 1) := by decide +kernel
theorem dX8_passYear_68 : decode cX8_passYear 68 = .ok (.getfield 89, 3) := by decide +kernel
theorem dX8_passYear_71 : decode cX8_passYear 71 = .ok (.invokevirtual 82, 3) := by decide +kernel
theorem dX8_passYear_74 : decode cX8_passYear 74 = .ok (.istore 7, 2) := by decide +kernel
theorem dX8_passYear_76 : decode cX8_passYear 76 = .ok (.iload 5, 2) := by decide +kernel
theorem dX8_passYear_78 : decode cX8_passYear 78 = .ok (.iconst 2, 1) := by decide +kernel
theorem dX8_passYear_79 : decode cX8_passYear 79 = .ok (.if_icmp .ne 16, 3) := by decide +kernel
theorem dX8_passYear_82 : decode cX8_passYear 82 = .ok (.aload_n 0, 1) := by decide +kernel
theorem dX8_passYear_83 : decode cX8_passYear 83 = .ok (.aload_n 1, 1) := by decide +kernel
theorem dX8_passYear_84 : decode cX8_passYear 84 = .ok (.iload 6, 2) := by decide +kernel
theorem dX8_passYear_86 : decode cX8_passYear 86 = .ok (.iload 7, 2) := by decide +kernel
theorem dX8_passYear_88 : decode cX8_passYear 88 = .ok (.invokevirtual 74, 3) := by decide +kernel
theorem dX8_passYear_91 : decode cX8_passYear 91 = .ok (.pop, 1) := by decide +kernel
theorem dX8_passYear_92 : decode cX8_passYear 92 = .ok (.goto 17, 3) := by decide +kernel
theorem dX8_passYear_95 : decode cX8_passYear 95 = .ok (.aload_n 0, 1) := by decide +kernel
theorem dX8_passYear_96 : decode cX8_passYear 96 = .ok (.getfield 9, 3) := by decide +kernel
theorem dX8_passYear_99 : decode cX8_passYear 99 = .ok (.iload 6, 2) := by decide +kernel
theorem dX8_passYear_101 : decode cX8_passYear 101 = .ok (.dup2, 1) := by decide +kernel
theorem dX8_passYear_102 : decode cX8_passYear 102 = .ok (.iaload, 1) := by decide +kernel
theorem dX8_passYear_103 : decode cX8_passYear 103 = .ok (.iconst 1, 1) := by decide +kernel
theorem dX8_passYear_104 : decode cX8_passYear 104 = .ok (.iload 7, 2) := by decide +kernel
theorem dX8_passYear_106 : decode cX8_passYear 106 = .ok (.ishl, 1) := by decide +kernel
theorem dX8_passYear_107 : decode cX8_passYear 107 = .ok (.ior, 1) := by decide +kernel
theorem dX8_passYear_108 : decode cX8_passYear 108 = .ok (.iastore, 1) := by decide +kernel
theorem dX8_passYear_109 : decode cX8_passYear 109 = .ok (.iinc 4 1, 3) := by decide +kernel
theorem dX8_passYear_112 : decode cX8_passYear 112 = .ok (.goto (-104), 3) := by decide +kernel
theorem dX8_passYear_115 : decode cX8_passYear 115 = .ok (.return_, 1) := by decide +kernel
theorem dX9_init_0 : decode cX9_init 0 = .ok (.aload_n 0, 1) := by decide +kernel
theorem dX9_init_1 : decode cX9_init 1 = .ok (.invokespecial 3, 3) := by decide +kernel
theorem dX9_init_4 : decode cX9_init 4 = .ok (.aload_n 0, 1) := by decide +kernel
theorem dX9_init_5 : decode cX9_init 5 = .ok (.sipush 901, 3) := by decide +kernel
theorem dX9_init_8 : decode cX9_init 8 = .ok (.newarray .int, 2) := by decide +kernel
theorem dX9_init_10 : decode cX9_init 10 = .ok (.putfield 9, 3) := by decide +kernel
theorem dX9_init_13 : decode cX9_init 13 = .ok (.aload_n 0, 1) := by decide +kernel
theorem dX9_init_14 : decode cX9_init 14 = .ok (.sipush 901, 3) := by decide +kernel
theorem dX9_init_17 : decode cX9_init 17 = .ok (.newarray .int, 2) := by decide +kernel
theorem dX9_init_19 : decode cX9_init 19 = .ok (.putfield 15, 3) := by decide +kernel
theorem dX9_init_22 : decode cX9_init 22 = .ok (.aload_n 0, 1) := by decide +kernel
theorem dX9_init_23 : decode cX9_init 23 = .ok (.sipush 901, 3) := by decide +kernel
theorem dX9_init_26 : decode cX9_init 26 = .ok (.newarray .int, 2) := by decide +kernel
theorem dX9_init_28 : decode cX9_init 28 = .ok (.putfield 18, 3) := by decide +kernel
theorem dX9_init_31 : decode cX9_init 31 = .ok (.return_, 1) := by decide +kernel
theorem dX9_cut_0 : decode cX9_cut 0 = .ok (.aload_n 0, 1) := by decide +kernel
theorem dX9_cut_1 : decode cX9_cut 1 = .ok (.iconst 0, 1) := by decide +kernel
theorem dX9_cut_2 : decode cX9_cut 2 = .ok (.putfield 21, 3) := by decide +kernel
theorem dX9_cut_5 : decode cX9_cut 5 = .ok (.iconst 0, 1) := by decide +kernel
theorem dX9_cut_6 : decode cX9_cut 6 = .ok (.istore_n 3, 1) := by decide +kernel
theorem dX9_cut_7 : decode cX9_cut 7 = .ok (.iconst 0, 1) := by decide +kernel
theorem dX9_cut_8 : decode cX9_cut 8 = .ok (.istore 4, 2) := by decide +kernel
theorem dX9_cut_10 : decode cX9_cut 10 = .ok (.iload 4, 2) := by decide +kernel
theorem dX9_cut_12 : decode cX9_cut 12 = .ok (.iload_n 2, 1) := by decide +kernel
theorem dX9_cut_13 : decode cX9_cut 13 = .ok (.if_icmp .ge 116, 3) := by decide +kernel
theorem dX9_cut_16 : decode cX9_cut 16 = .ok (.iload_n 3, 1) := by decide +kernel
theorem dX9_cut_17 : decode cX9_cut 17 = .ok (.iload_n 2, 1) := by decide +kernel
theorem dX9_cut_18 : decode cX9_cut 18 = .ok (.if_icmp .ge 111, 3) := by decide +kernel
theorem dX9_cut_21 : decode cX9_cut 21 = .ok (.aload_n 1, 1) := by decide +kernel
theorem dX9_cut_22 : decode cX9_cut 22 = .ok (.iload_n 3, 1) := by decide +kernel
theorem dX9_cut_23 : decode cX9_cut 23 = .ok (.baload, 1) := by decide +kernel
theorem dX9_cut_24 : decode cX9_cut 24 = .ok (.bipush 32, 2) := by decide +kernel
theorem dX9_cut_26 : decode cX9_cut 26 = .ok (.if_icmp .eq 11, 3) := by decide +kernel
theorem dX9_cut_29 : decode cX9_cut 29 = .ok (.aload_n 1, 1) := by decide +kernel
theorem dX9_cut_30 : decode cX9_cut 30 = .ok (.iload_n 3, 1) := by decide +kernel
theorem dX9_cut_31 : decode cX9_cut 31 = .ok (.baload, 1) := by decide +kernel
theorem dX9_cut_32 : decode cX9_cut 32 = .ok (.bipush 10, 2) := by decide +kernel
theorem dX9_cut_34 : decode cX9_cut 34 = .ok (.if_icmp .ne 9, 3) := by decide +kernel
theorem dX9_cut_37 : decode cX9_cut 37 = .ok (.iinc 3 1, 3) := by decide +kernel
theorem dX9_cut_40 : decode cX9_cut 40 = .ok (.goto 83, 3) := by decide +kernel
theorem dX9_cut_43 : decode cX9_cut 43 = .ok (.aload_n 1, 1) := by decide +kernel
theorem dX9_cut_44 : decode cX9_cut 44 = .ok (.iload_n 3, 1) := by decide +kernel
theorem dX9_cut_45 : decode cX9_cut 45 = .ok (.iload_n 2, 1) := by decide +kernel
theorem dX9_cut_46 : decode cX9_cut 46 = .ok (.invokestatic 25, 3) := by decide +kernel
theorem dX9_cut_49 : decode cX9_cut 49 = .ok (.istore 5, 2) := by decide +kernel
theorem dX9_cut_51 : decode cX9_cut 51 = .ok (.aload_n 0, 1) := by decide +kernel
theorem dX9_cut_52 : decode cX9_cut 52 = .ok (.getfield 15, 3) := by decide +kernel
theorem dX9_cut_55 : decode cX9_cut 55 = .ok (.aload_n 0, 1) := by decide +kernel
theorem dX9_cut_56 : decode cX9_cut 56 = .ok (.getfield 21, 3) := by decide +kernel
theorem dX9_cut_59 : decode cX9_cut 59 = .ok (.iload_n 3, 1) := by decide +kernel
theorem dX9_cut_60 : decode cX9_cut 60 = .ok (.iastore, 1) := by decide +kernel
theorem dX9_cut_61 : decode cX9_cut 61 = .ok (.aload_n 0, 1) := by decide +kernel
theorem dX9_cut_62 : decode cX9_cut 62 = .ok (.getfield 9, 3) := by decide +kernel
theorem dX9_cut_65 : decode cX9_cut 65 = .ok (.aload_n 0, 1) := by decide +kernel
theorem dX9_cut_66 : decode cX9_cut 66 = .ok (.getfield 21, 3) := by decide +kernel
theorem dX9_cut_69 : decode cX9_cut 69 = .ok (.aload_n 1, 1) := by decide +kernel
theorem dX9_cut_70 : decode cX9_cut 70 = .ok (.iload_n 3, 1) := by decide +kernel
theorem dX9_cut_71 : decode cX9_cut 71 = .ok (.iload 5, 2) := by decide +kernel
theorem dX9_cut_73 : decode cX9_cut 73 = .ok (.invokestatic 29, 3) := by decide +kernel
theorem dX9_cut_76 : decode cX9_cut 76 = .ok (.iastore, 1) := by decide +kernel
theorem dX9_cut_77 : decode cX9_cut 77 = .ok (.aload_n 0, 1) := by decide +kernel
theorem dX9_cut_78 : decode cX9_cut 78 = .ok (.getfield 18, 3) := by decide +kernel
theorem dX9_cut_81 : decode cX9_cut 81 = .ok (.aload_n 0, 1) := by decide +kernel
theorem dX9_cut_82 : decode cX9_cut 82 = .ok (.getfield 21, 3) := by decide +kernel
theorem dX9_cut_85 : decode cX9_cut 85 = .ok (.aload_n 0, 1) := by decide +kernel
theorem dX9_cut_86 : decode cX9_cut 86 = .ok (.getfield 9, 3) := by decide +kernel
theorem dX9_cut_89 : decode cX9_cut 89 = .ok (.aload_n 0, 1) := by decide +kernel
theorem dX9_cut_90 : decode cX9_cut 90 = .ok (.getfield 21, 3) := by decide +kernel
theorem dX9_cut_93 : decode cX9_cut 93 = .ok (.iaload, 1) := by decide +kernel
theorem dX9_cut_94 : decode cX9_cut 94 = .ok (.iconst 2, 1) := by decide +kernel
theorem dX9_cut_95 : decode cX9_cut 95 = .ok (.if_icmp .ne 13, 3) := by decide +kernel
theorem dX9_cut_98 : decode cX9_cut 98 = .ok (.aload_n 1, 1) := by decide +kernel
theorem dX9_cut_99 : decode cX9_cut 99 = .ok (.iload_n 3, 1) := by decide +kernel
theorem dX9_cut_100 : decode cX9_cut 100 = .ok (.iload 5, 2) := by decide +kernel
theorem dX9_cut_102 : decode cX9_cut 102 = .ok (.invokestatic 32, 3) := by decide +kernel
theorem dX9_cut_105 : decode cX9_cut 105 = .ok (.goto 4, 3) := by decide +kernel
theorem dX9_cut_108 : decode cX9_cut 108 = .ok (.iconst 0, 1) := by decide +kernel
theorem dX9_cut_109 : decode cX9_cut 109 = .ok (.iastore, 1) := by decide +kernel
theorem dX9_cut_110 : decode cX9_cut 110 = .ok (.aload_n 0, 1) := by decide +kernel
theorem dX9_cut_111 : decode cX9_cut 111 = .ok (.dup, 1) := by decide +kernel
theorem dX9_cut_112 : decode cX9_cut 112 = .ok (.getfield 21, 3) := by decide +kernel
theorem dX9_cut_115 : decode cX9_cut 115 = .ok (.iconst 1, 1) := by decide +kernel
theorem dX9_cut_116 : decode cX9_cut 116 = .ok (.iadd, 1) := by decide +kernel
theorem dX9_cut_117 : decode cX9_cut 117 = .ok (.putfield 21, 3) := by decide +kernel
theorem dX9_cut_120 : decode cX9_cut 120 = .ok (.iload 5, 2) := by decide +kernel
theorem dX9_cut_122 : decode cX9_cut 122 = .ok (.istore_n 3, 1) := by decide +kernel
theorem dX9_cut_123 : decode cX9_cut 123 = .ok (.iinc 4 1, 3) := by decide +kernel
theorem dX9_cut_126 : decode cX9_cut 126 = .ok (.goto (-116), 3) := by decide +kernel
theorem dX9_cut_129 : decode cX9_cut 129 = .ok (.aload_n 0, 1) := by decide +kernel
theorem dX9_cut_130 : decode cX9_cut 130 = .ok (.getfield 15, 3) := by decide +kernel
theorem dX9_cut_133 : decode cX9_cut 133 = .ok (.aload_n 0, 1) := by decide +kernel
theorem dX9_cut_134 : decode cX9_cut 134 = .ok (.getfield 21, 3) := by decide +kernel
theorem dX9_cut_137 : decode cX9_cut 137 = .ok (.iload_n 2, 1) := by decide +kernel
theorem dX9_cut_138 : decode cX9_cut 138 = .ok (.iastore, 1) := by decide +kernel
theorem dX9_cut_139 : decode cX9_cut 139 = .ok (.aload_n 0, 1) := by decide +kernel
theorem dX9_cut_140 : decode cX9_cut 140 = .ok (.getfield 9, 3) := by decide +kernel
theorem dX9_cut_143 : decode cX9_cut 143 = .ok (.aload_n 0, 1) := by decide +kernel
theorem dX9_cut_144 : decode cX9_cut 144 = .ok (.getfield 21, 3) := by decide +kernel
theorem dX9_cut_147 : decode cX9_cut 147 = .ok (.iconst 0, 1) := by decide +kernel
theorem dX9_cut_148 : decode cX9_cut 148 = .ok (.iastore, 1) := by decide +kernel
theorem dX9_cut_149 : decode cX9_cut 149 = .ok (.aload_n 0, 1) := by decide +kernel
theorem dX9_cut_150 : decode cX9_cut 150 = .ok (.getfield 18, 3) := by decide +kernel
theorem dX9_cut_153 : decode cX9_cut 153 = .ok (.aload_n 0, 1) := by decide +kernel
theorem dX9_cut_154 : decode cX9_cut 154 = .ok (.getfield 21, 3) := by decide +kernel
theorem dX9_cut_157 : decode cX9_cut 157 = .ok (.iconst 0, 1) := by decide +kernel
theorem dX9_cut_158 : decode cX9_cut 158 = .ok (.iastore, 1) := by decide +kernel
theorem dX9_cut_159 : decode cX9_cut 159 = .ok (.return_, 1) := by decide +kernel
theorem dX9_isLetter_0 : decode cX9_isLetter 0 = .ok (.iload_n 0, 1) := by decide +kernel
theorem dX9_isLetter_1 : decode cX9_isLetter 1 = .ok (.bipush 97, 2) := by decide +kernel
theorem dX9_isLetter_3 : decode cX9_isLetter 3 = .ok (.if_icmp .lt 13, 3) := by decide +kernel
theorem dX9_isLetter_6 : decode cX9_isLetter 6 = .ok (.iload_n 0, 1) := by decide +kernel
theorem dX9_isLetter_7 : decode cX9_isLetter 7 = .ok (.bipush 122, 2) := by decide +kernel
theorem dX9_isLetter_9 : decode cX9_isLetter 9 = .ok (.if_icmp .gt 7, 3) := by decide +kernel
theorem dX9_isLetter_12 : decode cX9_isLetter 12 = .ok (.iconst 1, 1) := by decide +kernel
theorem dX9_isLetter_13 : decode cX9_isLetter 13 = .ok (.goto 4, 3) := by decide +kernel
theorem dX9_isLetter_16 : decode cX9_isLetter 16 = .ok (.iconst 0, 1) := by decide +kernel
theorem dX9_isLetter_17 : decode cX9_isLetter 17 = .ok (.ireturn, 1) := by decide +kernel
theorem dX9_isDigit_0 : decode cX9_isDigit 0 = .ok (.iload_n 0, 1) := by decide +kernel
theorem dX9_isDigit_1 : decode cX9_isDigit 1 = .ok (.bipush 48, 2) := by decide +kernel
theorem dX9_isDigit_3 : decode cX9_isDigit 3 = .ok (.if_icmp .lt 13, 3) := by decide +kernel
theorem dX9_isDigit_6 : decode cX9_isDigit 6 = .ok (.iload_n 0, 1) := by decide +kernel
theorem dX9_isDigit_7 : decode cX9_isDigit 7 = .ok (.bipush 57, 2) := by decide +kernel
theorem dX9_isDigit_9 : decode cX9_isDigit 9 = .ok (.if_icmp .gt 7, 3) := by decide +kernel
theorem dX9_isDigit_12 : decode cX9_isDigit 12 = .ok (.iconst 1, 1) := by decide +kernel
theorem dX9_isDigit_13 : decode cX9_isDigit 13 = .ok (.goto 4, 3) := by decide +kernel
theorem dX9_isDigit_16 : decode cX9_isDigit 16 = .ok (.iconst 0, 1) := by decide +kernel
theorem dX9_isDigit_17 : decode cX9_isDigit 17 = .ok (.ireturn, 1) := by decide +kernel
theorem dX9_endOf_0 : decode cX9_endOf 0 = .ok (.iload_n 1, 1) := by decide +kernel
theorem dX9_endOf_1 : decode cX9_endOf 1 = .ok (.iconst 1, 1) := by decide +kernel
theorem dX9_endOf_2 : decode cX9_endOf 2 = .ok (.iadd, 1) := by decide +kernel
theorem dX9_endOf_3 : decode cX9_endOf 3 = .ok (.istore_n 3, 1) := by decide +kernel
theorem dX9_endOf_4 : decode cX9_endOf 4 = .ok (.aload_n 0, 1) := by decide +kernel
theorem dX9_endOf_5 : decode cX9_endOf 5 = .ok (.iload_n 1, 1) := by decide +kernel
theorem dX9_endOf_6 : decode cX9_endOf 6 = .ok (.baload, 1) := by decide +kernel
theorem dX9_endOf_7 : decode cX9_endOf 7 = .ok (.invokestatic 35, 3) := by decide +kernel
theorem dX9_endOf_10 : decode cX9_endOf 10 = .ok (.ifCond .eq 23, 3) := by decide +kernel
theorem dX9_endOf_13 : decode cX9_endOf 13 = .ok (.iload_n 3, 1) := by decide +kernel
theorem dX9_endOf_14 : decode cX9_endOf 14 = .ok (.iload_n 2, 1) := by decide +kernel
theorem dX9_endOf_15 : decode cX9_endOf 15 = .ok (.if_icmp .ge 47, 3) := by decide +kernel
theorem dX9_endOf_18 : decode cX9_endOf 18 = .ok (.aload_n 0, 1) := by decide +kernel
theorem dX9_endOf_19 : decode cX9_endOf 19 = .ok (.iload_n 3, 1) := by decide +kernel
theorem dX9_endOf_20 : decode cX9_endOf 20 = .ok (.baload, 1) := by decide +kernel
theorem dX9_endOf_21 : decode cX9_endOf 21 = .ok (.invokestatic 35, 3) := by decide +kernel
theorem dX9_endOf_24 : decode cX9_endOf 24 = .ok (.ifCond .eq 38, 3) := by decide +kernel
theorem dX9_endOf_27 : decode cX9_endOf 27 = .ok (.iinc 3 1, 3) := by decide +kernel
theorem dX9_endOf_30 : decode cX9_endOf 30 = .ok (.goto (-17), 3) := by decide +kernel
theorem dX9_endOf_33 : decode cX9_endOf 33 = .ok (.aload_n 0, 1) := by decide +kernel
theorem dX9_endOf_34 : decode cX9_endOf 34 = .ok (.iload_n 1, 1) := by decide +kernel
theorem dX9_endOf_35 : decode cX9_endOf 35 = .ok (.baload, 1) := by decide +kernel
theorem dX9_endOf_36 : decode cX9_endOf 36 = .ok (.invokestatic 39, 3) := by decide +kernel
theorem dX9_endOf_39 : decode cX9_endOf 39 = .ok (.ifCond .eq 23, 3) := by decide +kernel
theorem dX9_endOf_42 : decode cX9_endOf 42 = .ok (.iload_n 3, 1) := by decide +kernel
theorem dX9_endOf_43 : decode cX9_endOf 43 = .ok (.iload_n 2, 1) := by decide +kernel
theorem dX9_endOf_44 : decode cX9_endOf 44 = .ok (.if_icmp .ge 18, 3) := by decide +kernel
theorem dX9_endOf_47 : decode cX9_endOf 47 = .ok (.aload_n 0, 1) := by decide +kernel
theorem dX9_endOf_48 : decode cX9_endOf 48 = .ok (.iload_n 3, 1) := by decide +kernel
theorem dX9_endOf_49 : decode cX9_endOf 49 = .ok (.baload, 1) := by decide +kernel
theorem dX9_endOf_50 : decode cX9_endOf 50 = .ok (.invokestatic 39, 3) := by decide +kernel
theorem dX9_endOf_53 : decode cX9_endOf 53 = .ok (.ifCond .eq 9, 3) := by decide +kernel
theorem dX9_endOf_56 : decode cX9_endOf 56 = .ok (.iinc 3 1, 3) := by decide +kernel
theorem dX9_endOf_59 : decode cX9_endOf 59 = .ok (.goto (-17), 3) := by decide +kernel
theorem dX9_endOf_62 : decode cX9_endOf 62 = .ok (.iload_n 3, 1) := by decide +kernel
theorem dX9_endOf_63 : decode cX9_endOf 63 = .ok (.ireturn, 1) := by decide +kernel
theorem dX9_valueOf_0 : decode cX9_valueOf 0 = .ok (.iconst 0, 1) := by decide +kernel
theorem dX9_valueOf_1 : decode cX9_valueOf 1 = .ok (.istore_n 3, 1) := by decide +kernel
theorem dX9_valueOf_2 : decode cX9_valueOf 2 = .ok (.iload_n 1, 1) := by decide +kernel
theorem dX9_valueOf_3 : decode cX9_valueOf 3 = .ok (.istore 4, 2) := by decide +kernel
theorem dX9_valueOf_5 : decode cX9_valueOf 5 = .ok (.iload 4, 2) := by decide +kernel
theorem dX9_valueOf_7 : decode cX9_valueOf 7 = .ok (.iload_n 2, 1) := by decide +kernel
theorem dX9_valueOf_8 : decode cX9_valueOf 8 = .ok (.if_icmp .ge 22, 3) := by decide +kernel
theorem dX9_valueOf_11 : decode cX9_valueOf 11 = .ok (.bipush 10, 2) := by decide +kernel
theorem dX9_valueOf_13 : decode cX9_valueOf 13 = .ok (.iload_n 3, 1) := by decide +kernel
theorem dX9_valueOf_14 : decode cX9_valueOf 14 = .ok (.imul, 1) := by decide +kernel
theorem dX9_valueOf_15 : decode cX9_valueOf 15 = .ok (.aload_n 0, 1) := by decide +kernel
theorem dX9_valueOf_16 : decode cX9_valueOf 16 = .ok (.iload 4, 2) := by decide +kernel
theorem dX9_valueOf_18 : decode cX9_valueOf 18 = .ok (.baload, 1) := by decide +kernel
theorem dX9_valueOf_19 : decode cX9_valueOf 19 = .ok (.iadd, 1) := by decide +kernel
theorem dX9_valueOf_20 : decode cX9_valueOf 20 = .ok (.bipush 48, 2) := by decide +kernel
theorem dX9_valueOf_22 : decode cX9_valueOf 22 = .ok (.isub, 1) := by decide +kernel
theorem dX9_valueOf_23 : decode cX9_valueOf 23 = .ok (.istore_n 3, 1) := by decide +kernel
theorem dX9_valueOf_24 : decode cX9_valueOf 24 = .ok (.iinc 4 1, 3) := by decide +kernel
theorem dX9_valueOf_27 : decode cX9_valueOf 27 = .ok (.goto (-22), 3) := by decide +kernel
theorem dX9_valueOf_30 : decode cX9_valueOf 30 = .ok (.iload_n 3, 1) := by decide +kernel
theorem dX9_valueOf_31 : decode cX9_valueOf 31 = .ok (.ireturn, 1) := by decide +kernel
theorem dX9_kindOf_0 : decode cX9_kindOf 0 = .ok (.aload_n 0, 1) := by decide +kernel
theorem dX9_kindOf_1 : decode cX9_kindOf 1 = .ok (.iload_n 1, 1) := by decide +kernel
theorem dX9_kindOf_2 : decode cX9_kindOf 2 = .ok (.baload, 1) := by decide +kernel
theorem dX9_kindOf_3 : decode cX9_kindOf 3 = .ok (.istore_n 3, 1) := by decide +kernel
theorem dX9_kindOf_4 : decode cX9_kindOf 4 = .ok (.iload_n 3, 1) := by decide +kernel
theorem dX9_kindOf_5 : decode cX9_kindOf 5 = .ok (.invokestatic 39, 3) := by decide +kernel
theorem dX9_kindOf_8 : decode cX9_kindOf 8 = .ok (.ifCond .eq 16, 3) := by decide +kernel
theorem dX9_kindOf_11 : decode cX9_kindOf 11 = .ok (.iload_n 2, 1) := by decide +kernel
theorem dX9_kindOf_12 : decode cX9_kindOf 12 = .ok (.iload_n 1, 1) := by decide +kernel
theorem dX9_kindOf_13 : decode cX9_kindOf 13 = .ok (.isub, 1) := by decide +kernel
theorem dX9_kindOf_14 : decode cX9_kindOf 14 = .ok (.iconst 3, 1) := by decide +kernel
theorem dX9_kindOf_15 : decode cX9_kindOf 15 = .ok (.if_icmp .gt 7, 3) := by decide +kernel
theorem dX9_kindOf_18 : decode cX9_kindOf 18 = .ok (.iconst 2, 1) := by decide +kernel
theorem dX9_kindOf_19 : decode cX9_kindOf 19 = .ok (.goto 4, 3) := by decide +kernel
theorem dX9_kindOf_22 : decode cX9_kindOf 22 = .ok (.iconst 1, 1) := by decide +kernel
theorem dX9_kindOf_23 : decode cX9_kindOf 23 = .ok (.ireturn, 1) := by decide +kernel
theorem dX9_kindOf_24 : decode cX9_kindOf 24 = .ok (.iload_n 3, 1) := by decide +kernel
theorem dX9_kindOf_25 : decode cX9_kindOf 25 = .ok (.invokestatic 35, 3) := by decide +kernel
theorem dX9_kindOf_28 : decode cX9_kindOf 28 = .ok (.ifCond .eq 10, 3) := by decide +kernel
theorem dX9_kindOf_31 : decode cX9_kindOf 31 = .ok (.aload_n 0, 1) := by decide +kernel
theorem dX9_kindOf_32 : decode cX9_kindOf 32 = .ok (.iload_n 1, 1) := by decide +kernel
theorem dX9_kindOf_33 : decode cX9_kindOf 33 = .ok (.iload_n 2, 1) := by decide +kernel
theorem dX9_kindOf_34 : decode cX9_kindOf 34 = .ok (.invokestatic 42, 3) := by decide +kernel
theorem dX9_kindOf_37 : decode cX9_kindOf 37 = .ok (.ireturn, 1) := by decide +kernel
theorem dX9_kindOf_38 : decode cX9_kindOf 38 = .ok (.iload_n 3, 1) := by decide +kernel
theorem dX9_kindOf_39 : decode cX9_kindOf 39 = .ok (.lookupswitch 107 #[(40, 105), (41, 105), (42, 105), (43, 105), (45, 105), (58, 105), (59, 105), (60, 105), (61, 105), (62, 105), (91, 105), (93, 105)], 105) := by decide +kernel
theorem dX9_kindOf_144 : decode cX9_kindOf 144 = .ok (.iload_n 3, 1) := by decide +kernel
theorem dX9_kindOf_145 : decode cX9_kindOf 145 = .ok (.ireturn, 1) := by decide +kernel
theorem dX9_kindOf_146 : decode cX9_kindOf 146 = .ok (.iconst 1, 1) := by decide +kernel
theorem dX9_kindOf_147 : decode cX9_kindOf 147 = .ok (.ireturn, 1) := by decide +kernel
theorem dX9_wordKind_0 : decode cX9_wordKind 0 = .ok (.aload_n 0, 1) := by decide +kernel
theorem dX9_wordKind_1 : decode cX9_wordKind 1 = .ok (.iload_n 1, 1) := by decide +kernel
theorem dX9_wordKind_2 : decode cX9_wordKind 2 = .ok (.baload, 1) := by decide +kernel
theorem dX9_wordKind_3 : decode cX9_wordKind 3 = .ok (.tableswitch 275 97 119 #[105, 128, 139, 275, 275, 150, 161, 172, 275, 275, 275, 275, 275, 183, 194, 205, 275, 216, 275, 227, 275, 275, 251], 105) := by decide +kernel
theorem dX9_wordKind_108 : decode cX9_wordKind 108 = .ok (.iload_n 2, 1) := by decide +kernel
theorem dX9_wordKind_109 : decode cX9_wordKind 109 = .ok (.iload_n 1, 1) := by decide +kernel
theorem dX9_wordKind_110 : decode cX9_wordKind 110 = .ok (.isub, 1) := by decide +kernel
theorem dX9_wordKind_111 : decode cX9_wordKind 111 = .ok (.iconst 1, 1) := by decide +kernel
theorem dX9_wordKind_112 : decode cX9_wordKind 112 = .ok (.if_icmp .ne 8, 3) := by decide +kernel
theorem dX9_wordKind_115 : decode cX9_wordKind 115 = .ok (.bipush 113, 2) := by decide +kernel
theorem dX9_wordKind_117 : decode cX9_wordKind 117 = .ok (.goto 13, 3) := by decide +kernel
theorem dX9_wordKind_120 : decode cX9_wordKind 120 = .ok (.aload_n 0, 1) := by decide +kernel
theorem dX9_wordKind_121 : decode cX9_wordKind 121 = .ok (.iload_n 1, 1) := by decide +kernel
theorem dX9_wordKind_122 : decode cX9_wordKind 122 = .ok (.iload_n 2, 1) := by decide +kernel
theorem dX9_wordKind_123 : decode cX9_wordKind 123 = .ok (.ldc 45, 2) := by decide +kernel
theorem dX9_wordKind_125 : decode cX9_wordKind 125 = .ok (.bipush 111, 2) := by decide +kernel
theorem dX9_wordKind_127 : decode cX9_wordKind 127 = .ok (.invokestatic 47, 3) := by decide +kernel
theorem dX9_wordKind_130 : decode cX9_wordKind 130 = .ok (.ireturn, 1) := by decide +kernel
theorem dX9_wordKind_131 : decode cX9_wordKind 131 = .ok (.aload_n 0, 1) := by decide +kernel
theorem dX9_wordKind_132 : decode cX9_wordKind 132 = .ok (.iload_n 1, 1) := by decide +kernel
theorem dX9_wordKind_133 : decode cX9_wordKind 133 = .ok (.iload_n 2, 1) := by decide +kernel
theorem dX9_wordKind_134 : decode cX9_wordKind 134 = .ok (.ldc 51, 2) := by decide +kernel
theorem dX9_wordKind_136 : decode cX9_wordKind 136 = .ok (.bipush 114, 2) := by decide +kernel
theorem dX9_wordKind_138 : decode cX9_wordKind 138 = .ok (.invokestatic 47, 3) := by decide +kernel
theorem dX9_wordKind_141 : decode cX9_wordKind 141 = .ok (.ireturn, 1) := by decide +kernel
theorem dX9_wordKind_142 : decode cX9_wordKind 142 = .ok (.aload_n 0, 1) := by decide +kernel
theorem dX9_wordKind_143 : decode cX9_wordKind 143 = .ok (.iload_n 1, 1) := by decide +kernel
theorem dX9_wordKind_144 : decode cX9_wordKind 144 = .ok (.iload_n 2, 1) := by decide +kernel
theorem dX9_wordKind_145 : decode cX9_wordKind 145 = .ok (.ldc 53, 2) := by decide +kernel
theorem dX9_wordKind_147 : decode cX9_wordKind 147 = .ok (.bipush 115, 2) := by decide +kernel
theorem dX9_wordKind_149 : decode cX9_wordKind 149 = .ok (.invokestatic 47, 3) := by decide +kernel
theorem dX9_wordKind_152 : decode cX9_wordKind 152 = .ok (.ireturn, 1) := by decide +kernel
theorem dX9_wordKind_153 : decode cX9_wordKind 153 = .ok (.aload_n 0, 1) := by decide +kernel
theorem dX9_wordKind_154 : decode cX9_wordKind 154 = .ok (.iload_n 1, 1) := by decide +kernel
theorem dX9_wordKind_155 : decode cX9_wordKind 155 = .ok (.iload_n 2, 1) := by decide +kernel
theorem dX9_wordKind_156 : decode cX9_wordKind 156 = .ok (.ldc 55, 2) := by decide +kernel
theorem dX9_wordKind_158 : decode cX9_wordKind 158 = .ok (.bipush 104, 2) := by decide +kernel
theorem dX9_wordKind_160 : decode cX9_wordKind 160 = .ok (.invokestatic 47, 3) := by decide +kernel
theorem dX9_wordKind_163 : decode cX9_wordKind 163 = .ok (.ireturn, 1) := by decide +kernel
theorem dX9_wordKind_164 : decode cX9_wordKind 164 = .ok (.aload_n 0, 1) := by decide +kernel
theorem dX9_wordKind_165 : decode cX9_wordKind 165 = .ok (.iload_n 1, 1) := by decide +kernel
theorem dX9_wordKind_166 : decode cX9_wordKind 166 = .ok (.iload_n 2, 1) := by decide +kernel
theorem dX9_wordKind_167 : decode cX9_wordKind 167 = .ok (.ldc 57, 2) := by decide +kernel
theorem dX9_wordKind_169 : decode cX9_wordKind 169 = .ok (.bipush 103, 2) := by decide +kernel
theorem dX9_wordKind_171 : decode cX9_wordKind 171 = .ok (.invokestatic 47, 3) := by decide +kernel
theorem dX9_wordKind_174 : decode cX9_wordKind 174 = .ok (.ireturn, 1) := by decide +kernel
theorem dX9_wordKind_175 : decode cX9_wordKind 175 = .ok (.aload_n 0, 1) := by decide +kernel
theorem dX9_wordKind_176 : decode cX9_wordKind 176 = .ok (.iload_n 1, 1) := by decide +kernel
theorem dX9_wordKind_177 : decode cX9_wordKind 177 = .ok (.iload_n 2, 1) := by decide +kernel
theorem dX9_wordKind_178 : decode cX9_wordKind 178 = .ok (.ldc 59, 2) := by decide +kernel
theorem dX9_wordKind_180 : decode cX9_wordKind 180 = .ok (.bipush 108, 2) := by decide +kernel
theorem dX9_wordKind_182 : decode cX9_wordKind 182 = .ok (.invokestatic 47, 3) := by decide +kernel
theorem dX9_wordKind_185 : decode cX9_wordKind 185 = .ok (.ireturn, 1) := by decide +kernel
theorem dX9_wordKind_186 : decode cX9_wordKind 186 = .ok (.aload_n 0, 1) := by decide +kernel
theorem dX9_wordKind_187 : decode cX9_wordKind 187 = .ok (.iload_n 1, 1) := by decide +kernel
theorem dX9_wordKind_188 : decode cX9_wordKind 188 = .ok (.iload_n 2, 1) := by decide +kernel
theorem dX9_wordKind_189 : decode cX9_wordKind 189 = .ok (.ldc 61, 2) := by decide +kernel
theorem dX9_wordKind_191 : decode cX9_wordKind 191 = .ok (.bipush 110, 2) := by decide +kernel
theorem dX9_wordKind_193 : decode cX9_wordKind 193 = .ok (.invokestatic 47, 3) := by decide +kernel
theorem dX9_wordKind_196 : decode cX9_wordKind 196 = .ok (.ireturn, 1) := by decide +kernel
theorem dX9_wordKind_197 : decode cX9_wordKind 197 = .ok (.aload_n 0, 1) := by decide +kernel
theorem dX9_wordKind_198 : decode cX9_wordKind 198 = .ok (.iload_n 1, 1) := by decide +kernel
theorem dX9_wordKind_199 : decode cX9_wordKind 199 = .ok (.iload_n 2, 1) := by decide +kernel
theorem dX9_wordKind_200 : decode cX9_wordKind 200 = .ok (.ldc 63, 2) := by decide +kernel
theorem dX9_wordKind_202 : decode cX9_wordKind 202 = .ok (.bipush 112, 2) := by decide +kernel
theorem dX9_wordKind_204 : decode cX9_wordKind 204 = .ok (.invokestatic 47, 3) := by decide +kernel
theorem dX9_wordKind_207 : decode cX9_wordKind 207 = .ok (.ireturn, 1) := by decide +kernel
theorem dX9_wordKind_208 : decode cX9_wordKind 208 = .ok (.aload_n 0, 1) := by decide +kernel
theorem dX9_wordKind_209 : decode cX9_wordKind 209 = .ok (.iload_n 1, 1) := by decide +kernel
theorem dX9_wordKind_210 : decode cX9_wordKind 210 = .ok (.iload_n 2, 1) := by decide +kernel
theorem dX9_wordKind_211 : decode cX9_wordKind 211 = .ok (.ldc 65, 2) := by decide +kernel
theorem dX9_wordKind_213 : decode cX9_wordKind 213 = .ok (.bipush 105, 2) := by decide +kernel
theorem dX9_wordKind_215 : decode cX9_wordKind 215 = .ok (.invokestatic 47, 3) := by decide +kernel
theorem dX9_wordKind_218 : decode cX9_wordKind 218 = .ok (.ireturn, 1) := by decide +kernel
theorem dX9_wordKind_219 : decode cX9_wordKind 219 = .ok (.aload_n 0, 1) := by decide +kernel
theorem dX9_wordKind_220 : decode cX9_wordKind 220 = .ok (.iload_n 1, 1) := by decide +kernel
theorem dX9_wordKind_221 : decode cX9_wordKind 221 = .ok (.iload_n 2, 1) := by decide +kernel
theorem dX9_wordKind_222 : decode cX9_wordKind 222 = .ok (.ldc 67, 2) := by decide +kernel
theorem dX9_wordKind_224 : decode cX9_wordKind 224 = .ok (.bipush 107, 2) := by decide +kernel
theorem dX9_wordKind_226 : decode cX9_wordKind 226 = .ok (.invokestatic 47, 3) := by decide +kernel
theorem dX9_wordKind_229 : decode cX9_wordKind 229 = .ok (.ireturn, 1) := by decide +kernel
theorem dX9_wordKind_230 : decode cX9_wordKind 230 = .ok (.aload_n 0, 1) := by decide +kernel
theorem dX9_wordKind_231 : decode cX9_wordKind 231 = .ok (.iload_n 1, 1) := by decide +kernel
theorem dX9_wordKind_232 : decode cX9_wordKind 232 = .ok (.iload_n 2, 1) := by decide +kernel
theorem dX9_wordKind_233 : decode cX9_wordKind 233 = .ok (.ldc 69, 2) := by decide +kernel
theorem dX9_wordKind_235 : decode cX9_wordKind 235 = .ok (.bipush 106, 2) := by decide +kernel
theorem dX9_wordKind_237 : decode cX9_wordKind 237 = .ok (.invokestatic 47, 3) := by decide +kernel
theorem dX9_wordKind_240 : decode cX9_wordKind 240 = .ok (.aload_n 0, 1) := by decide +kernel
theorem dX9_wordKind_241 : decode cX9_wordKind 241 = .ok (.iload_n 1, 1) := by decide +kernel
theorem dX9_wordKind_242 : decode cX9_wordKind 242 = .ok (.iload_n 2, 1) := by decide +kernel
theorem dX9_wordKind_243 : decode cX9_wordKind 243 = .ok (.ldc 71, 2) := by decide +kernel
theorem dX9_wordKind_245 : decode cX9_wordKind 245 = .ok (.bipush 109, 2) := by decide +kernel
theorem dX9_wordKind_247 : decode cX9_wordKind 247 = .ok (.invokestatic 47, 3) := by decide +kernel
theorem dX9_wordKind_250 : decode cX9_wordKind 250 = .ok (.invokestatic 73, 3) := by decide +kernel
theorem dX9_wordKind_253 : decode cX9_wordKind 253 = .ok (.ireturn, 1) := by decide +kernel
theorem dX9_wordKind_254 : decode cX9_wordKind 254 = .ok (.aload_n 0, 1) := by decide +kernel
theorem dX9_wordKind_255 : decode cX9_wordKind 255 = .ok (.iload_n 1, 1) := by decide +kernel
theorem dX9_wordKind_256 : decode cX9_wordKind 256 = .ok (.iload_n 2, 1) := by decide +kernel
theorem dX9_wordKind_257 : decode cX9_wordKind 257 = .ok (.ldc 79, 2) := by decide +kernel
theorem dX9_wordKind_259 : decode cX9_wordKind 259 = .ok (.bipush 101, 2) := by decide +kernel
theorem dX9_wordKind_261 : decode cX9_wordKind 261 = .ok (.invokestatic 47, 3) := by decide +kernel
theorem dX9_wordKind_264 : decode cX9_wordKind 264 = .ok (.aload_n 0, 1) := by decide +kernel
theorem dX9_wordKind_265 : decode cX9_wordKind 265 = .ok (.iload_n 1, 1) := by decide +kernel
theorem dX9_wordKind_266 : decode cX9_wordKind 266 = .ok (.iload_n 2, 1) := by decide +kernel
theorem dX9_wordKind_267 : decode cX9_wordKind 267 = .ok (.ldc 81, 2) := by decide +kernel
theorem dX9_wordKind_269 : decode cX9_wordKind 269 = .ok (.bipush 102, 2) := by decide +kernel
theorem dX9_wordKind_271 : decode cX9_wordKind 271 = .ok (.invokestatic 47, 3) := by decide +kernel
theorem dX9_wordKind_274 : decode cX9_wordKind 274 = .ok (.invokestatic 73, 3) := by decide +kernel
theorem dX9_wordKind_277 : decode cX9_wordKind 277 = .ok (.ireturn, 1) := by decide +kernel
theorem dX9_wordKind_278 : decode cX9_wordKind 278 = .ok (.iconst 3, 1) := by decide +kernel
theorem dX9_wordKind_279 : decode cX9_wordKind 279 = .ok (.ireturn, 1) := by decide +kernel
theorem dX9_spelled_0 : decode cX9_spelled 0 = .ok (.iload_n 2, 1) := by decide +kernel
theorem dX9_spelled_1 : decode cX9_spelled 1 = .ok (.iload_n 1, 1) := by decide +kernel
theorem dX9_spelled_2 : decode cX9_spelled 2 = .ok (.isub, 1) := by decide +kernel
theorem dX9_spelled_3 : decode cX9_spelled 3 = .ok (.aload_n 3, 1) := by decide +kernel
theorem dX9_spelled_4 : decode cX9_spelled 4 = .ok (.invokevirtual 83, 3) := by decide +kernel
theorem dX9_spelled_7 : decode cX9_spelled 7 = .ok (.if_icmp .eq 5, 3) := by decide +kernel
theorem dX9_spelled_10 : decode cX9_spelled 10 = .ok (.iconst 3, 1) := by decide +kernel
theorem dX9_spelled_11 : decode cX9_spelled 11 = .ok (.ireturn, 1) := by decide +kernel
theorem dX9_spelled_12 : decode cX9_spelled 12 = .ok (.iload_n 1, 1) := by decide +kernel
theorem dX9_spelled_13 : decode cX9_spelled 13 = .ok (.istore 5, 2) := by decide +kernel
theorem dX9_spelled_15 : decode cX9_spelled 15 = .ok (.iload 5, 2) := by decide +kernel
theorem dX9_spelled_17 : decode cX9_spelled 17 = .ok (.iload_n 2, 1) := by decide +kernel
theorem dX9_spelled_18 : decode cX9_spelled 18 = .ok (.if_icmp .ge 26, 3) := by decide +kernel
theorem dX9_spelled_21 : decode cX9_spelled 21 = .ok (.aload_n 0, 1) := by decide +kernel
theorem dX9_spelled_22 : decode cX9_spelled 22 = .ok (.iload 5, 2) := by decide +kernel
theorem dX9_spelled_24 : decode cX9_spelled 24 = .ok (.baload, 1) := by decide +kernel
theorem dX9_spelled_25 : decode cX9_spelled 25 = .ok (.aload_n 3, 1) := by decide +kernel
theorem dX9_spelled_26 : decode cX9_spelled 26 = .ok (.iload 5, 2) := by decide +kernel
theorem dX9_spelled_28 : decode cX9_spelled 28 = .ok (.iload_n 1, 1) := by decide +kernel
theorem dX9_spelled_29 : decode cX9_spelled 29 = .ok (.isub, 1) := by decide +kernel
theorem dX9_spelled_30 : decode cX9_spelled 30 = .ok (.invokevirtual 89, 3) := by decide +kernel
theorem dX9_spelled_33 : decode cX9_spelled 33 = .ok (.if_icmp .eq 5, 3) := by decide +kernel
theorem dX9_spelled_36 : decode cX9_spelled 36 = .ok (.iconst 3, 1) := by decide +kernel
theorem dX9_spelled_37 : decode cX9_spelled 37 = .ok (.ireturn, 1) := by decide +kernel
theorem dX9_spelled_38 : decode cX9_spelled 38 = .ok (.iinc 5 1, 3) := by decide +kernel
theorem dX9_spelled_41 : decode cX9_spelled 41 = .ok (.goto (-26), 3) := by decide +kernel
theorem dX9_spelled_44 : decode cX9_spelled 44 = .ok (.iload 4, 2) := by decide +kernel
theorem dX9_spelled_46 : decode cX9_spelled 46 = .ok (.ireturn, 1) := by decide +kernel
theorem dX10_init_0 : decode cX10_init 0 = .ok (.aload_n 0, 1) := by decide +kernel
theorem dX10_init_1 : decode cX10_init 1 = .ok (.invokespecial 3, 3) := by decide +kernel
theorem dX10_init_4 : decode cX10_init 4 = .ok (.aload_n 0, 1) := by decide +kernel
theorem dX10_init_5 : decode cX10_init 5 = .ok (.getstatic 9, 3) := by decide +kernel
theorem dX10_init_8 : decode cX10_init 8 = .ok (.bipush 8, 2) := by decide +kernel
theorem dX10_init_10 : decode cX10_init 10 = .ok (.iaload, 1) := by decide +kernel
theorem dX10_init_11 : decode cX10_init 11 = .ok (.newarray .int, 2) := by decide +kernel
theorem dX10_init_13 : decode cX10_init 13 = .ok (.putfield 15, 3) := by decide +kernel
theorem dX10_init_16 : decode cX10_init 16 = .ok (.return_, 1) := by decide +kernel
theorem dX10_fewestFacts_0 : decode cX10_fewestFacts 0 = .ok (.aload_n 0, 1) := by decide +kernel
theorem dX10_fewestFacts_1 : decode cX10_fewestFacts 1 = .ok (.dup, 1) := by decide +kernel
theorem dX10_fewestFacts_2 : decode cX10_fewestFacts 2 = .ok (.getfield 18, 3) := by decide +kernel
theorem dX10_fewestFacts_5 : decode cX10_fewestFacts 5 = .ok (.iconst 1, 1) := by decide +kernel
theorem dX10_fewestFacts_6 : decode cX10_fewestFacts 6 = .ok (.iadd, 1) := by decide +kernel
theorem dX10_fewestFacts_7 : decode cX10_fewestFacts 7 = .ok (.putfield 18, 3) := by decide +kernel
theorem dX10_fewestFacts_10 : decode cX10_fewestFacts 10 = .ok (.aload_n 0, 1) := by decide +kernel
theorem dX10_fewestFacts_11 : decode cX10_fewestFacts 11 = .ok (.aload_n 1, 1) := by decide +kernel
theorem dX10_fewestFacts_12 : decode cX10_fewestFacts 12 = .ok (.iload_n 2, 1) := by decide +kernel
theorem dX10_fewestFacts_13 : decode cX10_fewestFacts 13 = .ok (.iconst 0, 1) := by decide +kernel
theorem dX10_fewestFacts_14 : decode cX10_fewestFacts 14 = .ok (.iconst 0, 1) := by decide +kernel
theorem dX10_fewestFacts_15 : decode cX10_fewestFacts 15 = .ok (.invokevirtual 22, 3) := by decide +kernel
theorem dX10_fewestFacts_18 : decode cX10_fewestFacts 18 = .ok (.istore_n 3, 1) := by decide +kernel
theorem dX10_fewestFacts_19 : decode cX10_fewestFacts 19 = .ok (.iload_n 3, 1) := by decide +kernel
theorem dX10_fewestFacts_20 : decode cX10_fewestFacts 20 = .ok (.bipush 100, 2) := by decide +kernel
theorem dX10_fewestFacts_22 : decode cX10_fewestFacts 22 = .ok (.if_icmp .lt 7, 3) := by decide +kernel
theorem dX10_fewestFacts_25 : decode cX10_fewestFacts 25 = .ok (.iconst (-1), 1) := by decide +kernel
theorem dX10_fewestFacts_26 : decode cX10_fewestFacts 26 = .ok (.goto 4, 3) := by decide +kernel
theorem dX10_fewestFacts_29 : decode cX10_fewestFacts 29 = .ok (.iload_n 3, 1) := by decide +kernel
theorem dX10_fewestFacts_30 : decode cX10_fewestFacts 30 = .ok (.ireturn, 1) := by decide +kernel
theorem dX10_firstFact_0 : decode cX10_firstFact 0 = .ok (.iconst 0, 1) := by decide +kernel
theorem dX10_firstFact_1 : decode cX10_firstFact 1 = .ok (.istore 4, 2) := by decide +kernel
theorem dX10_firstFact_3 : decode cX10_firstFact 3 = .ok (.iload 4, 2) := by decide +kernel
theorem dX10_firstFact_5 : decode cX10_firstFact 5 = .ok (.aload_n 1, 1) := by decide +kernel
theorem dX10_firstFact_6 : decode cX10_firstFact 6 = .ok (.getfield 26, 3) := by decide +kernel
theorem dX10_firstFact_9 : decode cX10_firstFact 9 = .ok (.if_icmp .ge 26, 3) := by decide +kernel
theorem dX10_firstFact_12 : decode cX10_firstFact 12 = .ok (.aload_n 0, 1) := by decide +kernel
theorem dX10_firstFact_13 : decode cX10_firstFact 13 = .ok (.aload_n 1, 1) := by decide +kernel
theorem dX10_firstFact_14 : decode cX10_firstFact 14 = .ok (.iload_n 2, 1) := by decide +kernel
theorem dX10_firstFact_15 : decode cX10_firstFact 15 = .ok (.iload 4, 2) := by decide +kernel
theorem dX10_firstFact_17 : decode cX10_firstFact 17 = .ok (.iconst 0, 1) := by decide +kernel
theorem dX10_firstFact_18 : decode cX10_firstFact 18 = .ok (.iconst 0, 1) := by decide +kernel
theorem dX10_firstFact_19 : decode cX10_firstFact 19 = .ok (.invokevirtual 31, 3) := by decide +kernel
theorem dX10_firstFact_22 : decode cX10_firstFact 22 = .ok (.iload_n 3, 1) := by decide +kernel
theorem dX10_firstFact_23 : decode cX10_firstFact 23 = .ok (.if_icmp .ne 6, 3) := by decide +kernel
theorem dX10_firstFact_26 : decode cX10_firstFact 26 = .ok (.iload 4, 2) := by decide +kernel
theorem dX10_firstFact_28 : decode cX10_firstFact 28 = .ok (.ireturn, 1) := by decide +kernel
theorem dX10_firstFact_29 : decode cX10_firstFact 29 = .ok (.iinc 4 1, 3) := by decide +kernel
theorem dX10_firstFact_32 : decode cX10_firstFact 32 = .ok (.goto (-29), 3) := by decide +kernel
theorem dX10_firstFact_35 : decode cX10_firstFact 35 = .ok (.iconst (-1), 1) := by decide +kernel
theorem dX10_firstFact_36 : decode cX10_firstFact 36 = .ok (.ireturn, 1) := by decide +kernel
theorem dX10_fewestBehind_0 : decode cX10_fewestBehind 0 = .ok (.aload_n 1, 1) := by decide +kernel
theorem dX10_fewestBehind_1 : decode cX10_fewestBehind 1 = .ok (.iload_n 2, 1) := by decide +kernel
theorem dX10_fewestBehind_2 : decode cX10_fewestBehind 2 = .ok (.invokevirtual 35, 3) := by decide +kernel
theorem dX10_fewestBehind_5 : decode cX10_fewestBehind 5 = .ok (.ifCond .eq 5, 3) := by decide +kernel
theorem dX10_fewestBehind_8 : decode cX10_fewestBehind 8 = .ok (.iconst 0, 1) := by decide +kernel
theorem dX10_fewestBehind_9 : decode cX10_fewestBehind 9 = .ok (.ireturn, 1) := by decide +kernel
theorem dX10_fewestBehind_10 : decode cX10_fewestBehind 10 = .ok (.iload 4, 2) := by decide +kernel
theorem dX10_fewestBehind_12 : decode cX10_fewestBehind 12 = .ok (.bipush 8, 2) := by decide +kernel
theorem dX10_fewestBehind_14 : decode cX10_fewestBehind 14 = .ok (.if_icmp .ge 16, 3) := by decide +kernel
theorem dX10_fewestBehind_17 : decode cX10_fewestBehind 17 = .ok (.iload_n 3, 1) := by decide +kernel
theorem dX10_fewestBehind_18 : decode cX10_fewestBehind 18 = .ok (.ifCond .lt 12, 3) := by decide +kernel
theorem dX10_fewestBehind_21 : decode cX10_fewestBehind 21 = .ok (.iload_n 3, 1) := by decide +kernel
theorem dX10_fewestBehind_22 : decode cX10_fewestBehind 22 = .ok (.aload_n 0, 1) := by decide +kernel
theorem dX10_fewestBehind_23 : decode cX10_fewestBehind 23 = .ok (.getfield 15, 3) := by decide +kernel
theorem dX10_fewestBehind_26 : decode cX10_fewestBehind 26 = .ok (.arraylength, 1) := by decide +kernel
theorem dX10_fewestBehind_27 : decode cX10_fewestBehind 27 = .ok (.if_icmp .lt 6, 3) := by decide +kernel
theorem dX10_fewestBehind_30 : decode cX10_fewestBehind 30 = .ok (.bipush 100, 2) := by decide +kernel
theorem dX10_fewestBehind_32 : decode cX10_fewestBehind 32 = .ok (.ireturn, 1) := by decide +kernel
theorem dX10_fewestBehind_33 : decode cX10_fewestBehind 33 = .ok (.aload_n 0, 1) := by decide +kernel
theorem dX10_fewestBehind_34 : decode cX10_fewestBehind 34 = .ok (.getfield 15, 3) := by decide +kernel
theorem dX10_fewestBehind_37 : decode cX10_fewestBehind 37 = .ok (.iload_n 3, 1) := by decide +kernel
theorem dX10_fewestBehind_38 : decode cX10_fewestBehind 38 = .ok (.iaload, 1) := by decide +kernel
theorem dX10_fewestBehind_39 : decode cX10_fewestBehind 39 = .ok (.bipush 7, 2) := by decide +kernel
theorem dX10_fewestBehind_41 : decode cX10_fewestBehind 41 = .ok (.ishr, 1) := by decide +kernel
theorem dX10_fewestBehind_42 : decode cX10_fewestBehind 42 = .ok (.aload_n 0, 1) := by decide +kernel
theorem dX10_fewestBehind_43 : decode cX10_fewestBehind 43 = .ok (.getfield 18, 3) := by decide +kernel
theorem dX10_fewestBehind_46 : decode cX10_fewestBehind 46 = .ok (.if_icmp .ne 13, 3) := by decide +kernel
theorem dX10_fewestBehind_49 : decode cX10_fewestBehind 49 = .ok (.aload_n 0, 1) := by decide +kernel
theorem dX10_fewestBehind_50 : decode cX10_fewestBehind 50 = .ok (.getfield 15, 3) := by decide +kernel
theorem dX10_fewestBehind_53 : decode cX10_fewestBehind 53 = .ok (.iload_n 3, 1) := by decide +kernel
theorem dX10_fewestBehind_54 : decode cX10_fewestBehind 54 = .ok (.iaload, 1) := by decide +kernel
theorem dX10_fewestBehind_55 : decode cX10_fewestBehind 55 = .ok (.bipush 127, 2) := by decide +kernel
theorem dX10_fewestBehind_57 : decode cX10_fewestBehind 57 = .ok (.iand, 1) := by decide +kernel
theorem dX10_fewestBehind_58 : decode cX10_fewestBehind 58 = .ok (.ireturn, 1) := by decide +kernel
theorem dX10_fewestBehind_59 : decode cX10_fewestBehind 59 = .ok (.bipush 100, 2) := by decide +kernel
theorem dX10_fewestBehind_61 : decode cX10_fewestBehind 61 = .ok (.istore 5, 2) := by decide +kernel
theorem dX10_fewestBehind_63 : decode cX10_fewestBehind 63 = .ok (.iconst 0, 1) := by decide +kernel
theorem dX10_fewestBehind_64 : decode cX10_fewestBehind 64 = .ok (.istore 6, 2) := by decide +kernel
theorem dX10_fewestBehind_66 : decode cX10_fewestBehind 66 = .ok (.iload 6, 2) := by decide +kernel
theorem dX10_fewestBehind_68 : decode cX10_fewestBehind 68 = .ok (.aload_n 1, 1) := by decide +kernel
theorem dX10_fewestBehind_69 : decode cX10_fewestBehind 69 = .ok (.getfield 26, 3) := by decide +kernel
theorem dX10_fewestBehind_72 : decode cX10_fewestBehind 72 = .ok (.if_icmp .ge 27, 3) := by decide +kernel
theorem dX10_fewestBehind_75 : decode cX10_fewestBehind 75 = .ok (.iload 5, 2) := by decide +kernel
theorem dX10_fewestBehind_77 : decode cX10_fewestBehind 77 = .ok (.aload_n 0, 1) := by decide +kernel
theorem dX10_fewestBehind_78 : decode cX10_fewestBehind 78 = .ok (.aload_n 1, 1) := by decide +kernel
theorem dX10_fewestBehind_79 : decode cX10_fewestBehind 79 = .ok (.iload_n 2, 1) := by decide +kernel
theorem dX10_fewestBehind_80 : decode cX10_fewestBehind 80 = .ok (.iload 6, 2) := by decide +kernel
theorem dX10_fewestBehind_82 : decode cX10_fewestBehind 82 = .ok (.iload_n 3, 1) := by decide +kernel
theorem dX10_fewestBehind_83 : decode cX10_fewestBehind 83 = .ok (.iload 4, 2) := by decide +kernel
theorem dX10_fewestBehind_85 : decode cX10_fewestBehind 85 = .ok (.invokevirtual 31, 3) := by decide +kernel
theorem dX10_fewestBehind_88 : decode cX10_fewestBehind 88 = .ok (.invokestatic 39, 3) := by decide +kernel
theorem dX10_fewestBehind_91 : decode cX10_fewestBehind 91 = .ok (.istore 5, 2) := by decide +kernel
theorem dX10_fewestBehind_93 : decode cX10_fewestBehind 93 = .ok (.iinc 6 1, 3) := by decide +kernel
theorem dX10_fewestBehind_96 : decode cX10_fewestBehind 96 = .ok (.goto (-30), 3) := by decide +kernel
theorem dX10_fewestBehind_99 : decode cX10_fewestBehind 99 = .ok (.aload_n 0, 1) := by decide +kernel
theorem dX10_fewestBehind_100 : decode cX10_fewestBehind 100 = .ok (.getfield 15, 3) := by decide +kernel
theorem dX10_fewestBehind_103 : decode cX10_fewestBehind 103 = .ok (.iload_n 3, 1) := by decide +kernel
theorem dX10_fewestBehind_104 : decode cX10_fewestBehind 104 = .ok (.aload_n 0, 1) := by decide +kernel
theorem dX10_fewestBehind_105 : decode cX10_fewestBehind 105 = .ok (.getfield 18, 3) := by decide +kernel
theorem dX10_fewestBehind_108 : decode cX10_fewestBehind 108 = .ok (.bipush 7, 2) := by decide +kernel
theorem dX10_fewestBehind_110 : decode cX10_fewestBehind 110 = .ok (.ishl, 1) := by decide +kernel
theorem dX10_fewestBehind_111 : decode cX10_fewestBehind 111 = .ok (.iload 5, 2) := by decide +kernel
theorem dX10_fewestBehind_113 : decode cX10_fewestBehind 113 = .ok (.ior, 1) := by decide +kernel
theorem dX10_fewestBehind_114 : decode cX10_fewestBehind 114 = .ok (.iastore, 1) := by decide +kernel
theorem dX10_fewestBehind_115 : decode cX10_fewestBehind 115 = .ok (.iload 5, 2) := by decide +kernel
theorem dX10_fewestBehind_117 : decode cX10_fewestBehind 117 = .ok (.ireturn, 1) := by decide +kernel
theorem dX10_fewestBy_0 : decode cX10_fewestBy 0 = .ok (.aload_n 1, 1) := by decide +kernel
theorem dX10_fewestBy_1 : decode cX10_fewestBy 1 = .ok (.iload_n 3, 1) := by decide +kernel
theorem dX10_fewestBy_2 : decode cX10_fewestBy 2 = .ok (.iload_n 2, 1) := by decide +kernel
theorem dX10_fewestBy_3 : decode cX10_fewestBy 3 = .ok (.invokevirtual 45, 3) := by decide +kernel
theorem dX10_fewestBy_6 : decode cX10_fewestBy 6 = .ok (.ifCond .eq 6, 3) := by decide +kernel
theorem dX10_fewestBy_9 : decode cX10_fewestBy 9 = .ok (.bipush 100, 2) := by decide +kernel
theorem dX10_fewestBy_11 : decode cX10_fewestBy 11 = .ok (.ireturn, 1) := by decide +kernel
theorem dX10_fewestBy_12 : decode cX10_fewestBy 12 = .ok (.aload_n 0, 1) := by decide +kernel
theorem dX10_fewestBy_13 : decode cX10_fewestBy 13 = .ok (.aload_n 1, 1) := by decide +kernel
theorem dX10_fewestBy_14 : decode cX10_fewestBy 14 = .ok (.iload_n 2, 1) := by decide +kernel
theorem dX10_fewestBy_15 : decode cX10_fewestBy 15 = .ok (.aload_n 1, 1) := by decide +kernel
theorem dX10_fewestBy_16 : decode cX10_fewestBy 16 = .ok (.getfield 49, 3) := by decide +kernel
theorem dX10_fewestBy_19 : decode cX10_fewestBy 19 = .ok (.iload_n 3, 1) := by decide +kernel
theorem dX10_fewestBy_20 : decode cX10_fewestBy 20 = .ok (.iaload, 1) := by decide +kernel
theorem dX10_fewestBy_21 : decode cX10_fewestBy 21 = .ok (.iand, 1) := by decide +kernel
theorem dX10_fewestBy_22 : decode cX10_fewestBy 22 = .ok (.iload 4, 2) := by decide +kernel
theorem dX10_fewestBy_24 : decode cX10_fewestBy 24 = .ok (.getstatic 9, 3) := by decide +kernel
theorem dX10_fewestBy_27 : decode cX10_fewestBy 27 = .ok (.iload_n 3, 1) := by decide +kernel
theorem dX10_fewestBy_28 : decode cX10_fewestBy 28 = .ok (.iaload, 1) := by decide +kernel
theorem dX10_fewestBy_29 : decode cX10_fewestBy 29 = .ok (.iadd, 1) := by decide +kernel
theorem dX10_fewestBy_30 : decode cX10_fewestBy 30 = .ok (.iload 5, 2) := by decide +kernel
theorem dX10_fewestBy_32 : decode cX10_fewestBy 32 = .ok (.iconst 1, 1) := by decide +kernel
theorem dX10_fewestBy_33 : decode cX10_fewestBy 33 = .ok (.iadd, 1) := by decide +kernel
theorem dX10_fewestBy_34 : decode cX10_fewestBy 34 = .ok (.invokevirtual 22, 3) := by decide +kernel
theorem dX10_fewestBy_37 : decode cX10_fewestBy 37 = .ok (.istore 6, 2) := by decide +kernel
theorem dX10_fewestBy_39 : decode cX10_fewestBy 39 = .ok (.aload_n 0, 1) := by decide +kernel
theorem dX10_fewestBy_40 : decode cX10_fewestBy 40 = .ok (.aload_n 1, 1) := by decide +kernel
theorem dX10_fewestBy_41 : decode cX10_fewestBy 41 = .ok (.iload_n 2, 1) := by decide +kernel
theorem dX10_fewestBy_42 : decode cX10_fewestBy 42 = .ok (.aload_n 1, 1) := by decide +kernel
theorem dX10_fewestBy_43 : decode cX10_fewestBy 43 = .ok (.getfield 49, 3) := by decide +kernel
theorem dX10_fewestBy_46 : decode cX10_fewestBy 46 = .ok (.iload_n 3, 1) := by decide +kernel
theorem dX10_fewestBy_47 : decode cX10_fewestBy 47 = .ok (.iaload, 1) := by decide +kernel
theorem dX10_fewestBy_48 : decode cX10_fewestBy 48 = .ok (.iconst (-1), 1) := by decide +kernel
theorem dX10_fewestBy_49 : decode cX10_fewestBy 49 = .ok (.ixor, 1) := by decide +kernel
theorem dX10_fewestBy_50 : decode cX10_fewestBy 50 = .ok (.iand, 1) := by decide +kernel
theorem dX10_fewestBy_51 : decode cX10_fewestBy 51 = .ok (.iload 4, 2) := by decide +kernel
theorem dX10_fewestBy_53 : decode cX10_fewestBy 53 = .ok (.iconst 2, 1) := by decide +kernel
theorem dX10_fewestBy_54 : decode cX10_fewestBy 54 = .ok (.getstatic 9, 3) := by decide +kernel
theorem dX10_fewestBy_57 : decode cX10_fewestBy 57 = .ok (.iload_n 3, 1) := by decide +kernel
theorem dX10_fewestBy_58 : decode cX10_fewestBy 58 = .ok (.iaload, 1) := by decide +kernel
theorem dX10_fewestBy_59 : decode cX10_fewestBy 59 = .ok (.imul, 1) := by decide +kernel
theorem dX10_fewestBy_60 : decode cX10_fewestBy 60 = .ok (.iadd, 1) := by decide +kernel
theorem dX10_fewestBy_61 : decode cX10_fewestBy 61 = .ok (.iload 5, 2) := by decide +kernel
theorem dX10_fewestBy_63 : decode cX10_fewestBy 63 = .ok (.iconst 1, 1) := by decide +kernel
theorem dX10_fewestBy_64 : decode cX10_fewestBy 64 = .ok (.iadd, 1) := by decide +kernel
theorem dX10_fewestBy_65 : decode cX10_fewestBy 65 = .ok (.invokevirtual 22, 3) := by decide +kernel
theorem dX10_fewestBy_68 : decode cX10_fewestBy 68 = .ok (.istore 7, 2) := by decide +kernel
theorem dX10_fewestBy_70 : decode cX10_fewestBy 70 = .ok (.bipush 100, 2) := by decide +kernel
theorem dX10_fewestBy_72 : decode cX10_fewestBy 72 = .ok (.iconst 1, 1) := by decide +kernel
theorem dX10_fewestBy_73 : decode cX10_fewestBy 73 = .ok (.iload 6, 2) := by decide +kernel
theorem dX10_fewestBy_75 : decode cX10_fewestBy 75 = .ok (.iload 7, 2) := by decide +kernel
theorem dX10_fewestBy_77 : decode cX10_fewestBy 77 = .ok (.invokestatic 52, 3) := by decide +kernel
theorem dX10_fewestBy_80 : decode cX10_fewestBy 80 = .ok (.iadd, 1) := by decide +kernel
theorem dX10_fewestBy_81 : decode cX10_fewestBy 81 = .ok (.invokestatic 39, 3) := by decide +kernel
theorem dX10_fewestBy_84 : decode cX10_fewestBy 84 = .ok (.ireturn, 1) := by decide +kernel
end
section
def pcn (n : Nat) : Nat :=
  let a := n - ((n >>> 1) &&& 1431655765)
  let b := (a &&& 858993459) + ((a >>> 2) &&& 858993459)
  let c := (b + b >>> 4) &&& 252645135
  let e := c + c >>> 8
  (e + e >>> 16) &&& 63
def ctn (n : Nat) : Nat := n % 2 + n / 2 % 2 + n / 4 % 2 + n / 8 % 2 + n / 16 % 2 + n / 32 % 2 + n / 64 % 2 + n / 128 % 2 + n / 256 % 2 + n / 512 % 2 + n / 1024 % 2 + n / 2048 % 2 + n / 4096 % 2 + n / 8192 % 2 + n / 16384 % 2 + n / 32768 % 2
def pck : Nat → Bool
  | 0 => true
  | n + 1 => pck n && (let rec go : Nat → Bool
      | 0 => true
      | k + 1 => go k && Nat.beq (pcn (256 * n + k)) (ctn (256 * n + k))
    go 256)
set_option maxRecDepth 100000 in
theorem pck_ok : pck 256 = true := by decide +kernel
end
section
/-! ===== the tables' good words ===== -/
def TB : List Cond := lw_tbl.filter goodWord
theorem tin_0 {w : Cond} (h : w ∈ k2_sels lw_privs) : w ∈ lw_tbl := List.mem_append_left _ h
theorem tin_1 {w : Cond} (h : w ∈ tables_1_1) : w ∈ lw_tbl := List.mem_append_right _ (List.mem_append_left _ h)
theorem tin_2 {w : Cond} (h : w ∈ tables_1_2) : w ∈ lw_tbl := List.mem_append_right _ (List.mem_append_right _ (List.mem_append_left _ h))
theorem tin_3 {w : Cond} (h : w ∈ tables_1_3) : w ∈ lw_tbl := List.mem_append_right _ (List.mem_append_right _ (List.mem_append_right _ (List.mem_append_left _ h)))
theorem tin_4 {w : Cond} (h : w ∈ tables_1_4) : w ∈ lw_tbl := List.mem_append_right _ (List.mem_append_right _ (List.mem_append_right _ (List.mem_append_right _ (List.mem_append_left _ h))))
theorem tin_5 {w : Cond} (h : w ∈ tables_1_5) : w ∈ lw_tbl := List.mem_append_right _ (List.mem_append_right _ (List.mem_append_right _ (List.mem_append_right _ (List.mem_append_right _ (List.mem_append_left _ h)))))
theorem tin_6 {w : Cond} (h : w ∈ tables_1_6) : w ∈ lw_tbl := List.mem_append_right _ (List.mem_append_right _ (List.mem_append_right _ (List.mem_append_right _ (List.mem_append_right _ (List.mem_append_right _ (List.mem_append_left _ h))))))
theorem tin_7 {w : Cond} (h : w ∈ tables_1_7) : w ∈ lw_tbl := List.mem_append_right _ (List.mem_append_right _ (List.mem_append_right _ (List.mem_append_right _ (List.mem_append_right _ (List.mem_append_right _ (List.mem_append_right _ (List.mem_append_left _ h)))))))
theorem tin_8 {w : Cond} (h : w ∈ tables_1_8) : w ∈ lw_tbl := List.mem_append_right _ (List.mem_append_right _ (List.mem_append_right _ (List.mem_append_right _ (List.mem_append_right _ (List.mem_append_right _ (List.mem_append_right _ (List.mem_append_right _ h)))))))
theorem TB_of {w : Cond} (h : w ∈ lw_tbl) (g : goodWord w = true) : w ∈ TB := List.mem_filter.mpr ⟨h, g⟩
theorem TB_at {w : Cond} {l : List Cond} (i : Nat) (h : l[i]? = some w) : w ∈ l := List.mem_of_getElem? h
theorem TB_ok {args : Array Value} {s : State} (h : ∀ w ∈ lw_tbl, w.before args s = true) : ∀ w ∈ TB, w.before args s = true := fun w hw => h w (List.mem_filter.mp hw).1
theorem TB_good {w : Cond} (h : w ∈ TB) : (w.onTables && w.keeps) = true ∨ ∃ ty, w = .arrayClass ty := good_of_word (List.mem_filter.mp h).2
/-! ===== the world: all cells made since the law's start, by their numbers ===== -/
abbrev HT : Type := Nat → va_E
abbrev GT : Type := (Launch × va_G) × (Nat × Nat) × Heap × (Nat → ClassId) × (Nat × (Nat → Nat) × (Nat → Nat))
abbrev GT.l (G : GT) : Launch := G.1.1
abbrev GT.D (G : GT) : va_G := G.1.2
abbrev GT.b0 (G : GT) : Nat := G.2.1.1
abbrev GT.nC (_ : GT) : Nat := 99
abbrev GT.H0 (G : GT) : Heap := G.2.2.1
abbrev GT.ci (G : GT) : Nat → ClassId := G.2.2.2.1
abbrev GT.t3 (G : GT) : Nat := G.2.2.2.2.1
abbrev GT.adK (G : GT) : Nat → Nat := G.2.2.2.2.2.1
abbrev GT.adV (G : GT) : Nat → Nat := G.2.2.2.2.2.2
def GA (G : GT) : Nat → Prop := fun q => G.b0 ≤ q
def tysG (G : GT) : List (ClassId × FieldType) := [(G.ci 0, .int), (G.ci 1, .byte), (G.ci 2, .long), (G.ci 3, .boolean), (G.ci 4, .object "KnowsLeast$Row"), (G.ci 5, .object "KnowsLeast$Image")]
def wl (G : GT) (h : HT) : va_W := (List.range G.nC).map (fun k => (G.b0 + k, h k))
theorem wl_at {G : GT} {h : HT} {k : Nat} (hk : k < G.nC) : (wl G h)[k]? = some (G.b0 + k, h k) := by
  simp [wl, hk]
theorem wl_lt {G : GT} {h : HT} {k : Nat} {q : Nat × va_E} (hk : (wl G h)[k]? = some q) : k < G.nC ∧ q = (G.b0 + k, h k) := by
  have h1 := (List.getElem?_eq_some_iff.mp hk).1
  have h2 : k < G.nC := by simpa [wl] using h1
  rw [wl_at h2] at hk
  exact ⟨h2, (Option.some.inj hk).symm⟩
theorem wl_D {G : GT} {h : HT} : va_D (GA G) (wl G h) := by
  refine ⟨fun i j p q hi hj e => ?_, fun k q hk => ?_⟩
  · obtain ⟨-, rfl⟩ := wl_lt hi
    obtain ⟨-, rfl⟩ := wl_lt hj
    exact Nat.add_left_cancel e
  · obtain ⟨-, rfl⟩ := wl_lt hk
    exact Nat.le_add_right _ _
theorem wl_set {G : GT} {h : HT} {k : Nat} {e : va_E} (hk : k < G.nC) : (wl G h).set k (G.b0 + k, e) = wl G (va_up h k e) := by
  apply List.ext_getElem?
  intro i
  by_cases hi : i < G.nC
  · rw [wl_at hi]
    by_cases hik : k = i
    · subst hik
      rw [List.getElem?_set_self (by simpa [wl] using hi)]
      simp [va_up]
    · rw [List.getElem?_set_ne hik, wl_at hi]
      simp [va_up, Ne.symm hik]
  · rw [List.getElem?_eq_none (by simpa [wl] using Nat.le_of_not_lt hi), List.getElem?_eq_none (by simpa [wl] using Nat.le_of_not_lt hi)]
def HP (G : GT) (h : HT) (H : Heap) : Prop := G.b0 ≤ H.size ∧ (∀ q : Nat, q < G.b0 → H[q]? = G.H0[q]?) ∧ va_P G.D vwCl (wl G h) H
/-! ===== what the tables and the old cells hold ===== -/
def t3f : Nat → Value := fun j => .int (([1, 3, 9, 27, 81, 243, 729, 2187, 6561] : List Int32).getD j 0)
def strs : List (String × Nat × String) := [("KnowsLeast$Tokens", 45, "and"), ("KnowsLeast$Tokens", 51, "b"), ("KnowsLeast$Tokens", 53, "c"), ("KnowsLeast$Tokens", 55, "fact"), ("KnowsLeast$Tokens", 57, "guilty"), ("KnowsLeast$Tokens", 59, "hint"), ("KnowsLeast$Tokens", 61, "not"), ("KnowsLeast$Tokens", 63, "or"), ("KnowsLeast$Tokens", 65, "person"), ("KnowsLeast$Tokens", 67, "road"), ("KnowsLeast$Tokens", 69, "told"), ("KnowsLeast$Tokens", 71, "true"), ("KnowsLeast$Tokens", 79, "world"), ("KnowsLeast$Tokens", 81, "weight"), ("KnowsLeastModel", 89, " world weight guilty fact person told road hint true or and not a b c "), ("KnowsLeastModel", 127, ";:+-*()[]=<>")]
def slen : List Nat := strs.map (fun q => q.2.2.length)
def sbyt : List (List Int32) := strs.map (fun q => q.2.2.toList.map (fun c => Int32.ofNat c.toNat))
def Kn (G : GT) (U : State) : Prop := va_K G.D vwCl (tysG G) U ∧ va_Z "KnowsLeast$Trial" "THREES" "[I" (.ref G.t3) (GA G) U G.H0 ∧ va_T .int G.t3 9 t3f (GA G) U G.H0 ∧ va_Z "java/lang/String" "COMPACT_STRINGS" "Z" (.int 1) (GA G) U G.H0 ∧ va_Zq "jdk/internal/util/Preconditions" "SIOOBE_FORMATTER" "Ljava/util/function/BiFunction;" (GA G) U G.H0 ∧ vk_S 16 slen sbyt G.adK G.adV (GA G) U G.H0 ∧ (∀ (i : Nat) (q : String × Nat × String), strs[i]? = some q → vk_R q.1 q.2.1 q.2.2 (G.adK i) U) ∧ va_Nw (.methodLinkNest RX7 89 yX11_isFewer RX11) U
theorem Kn.warm {G : GT} {s U : State} (hW : s.WarmedH U.vm) (h : Kn G s) : Kn G U :=
  ⟨h.1.moved hW.alike, h.2.1.moved hW.alike, h.2.2.1.moved hW.alike, h.2.2.2.1.moved hW.alike, h.2.2.2.2.1.moved hW.alike, h.2.2.2.2.2.1.moved hW.alike, fun i q hq => (h.2.2.2.2.2.2.1 i q hq).warm hW, h.2.2.2.2.2.2.2.warmM hW⟩
theorem Kn.same {G : GT} {s U : State} (hv : U.vm = s.vm) (h : Kn G s) : Kn G U := by
  have ha : s.vm.Alike U.vm := by rw [hv]; exact Vm.Alike.refl _
  exact ⟨h.1.moved ha, h.2.1.moved ha, h.2.2.1.moved ha, h.2.2.2.1.moved ha, h.2.2.2.2.1.moved ha, h.2.2.2.2.2.1.moved ha, fun i q hq => (h.2.2.2.2.2.2.1 i q hq).same hv, h.2.2.2.2.2.2.2.same rfl hv.symm⟩
/-! ===== locals by their places ===== -/
abbrev LT : Type := List (Option Value)
def lvl : Nat → LT → List (Nat × Value)
  | _, [] => []
  | i, none :: t => lvl (i + 1) t
  | i, some v :: t => (i, v) :: lvl (i + 1) t
theorem lvl_iff : ∀ (ls : LT) (j k : Nat) (v : Value), (k, v) ∈ lvl j ls ↔ ∃ n, k = j + n ∧ ls[n]? = some (some v)
  | [], j, k, v => by simp [lvl]
  | none :: t, j, k, v => by
    rw [lvl, lvl_iff t (j + 1) k v]
    constructor
    · rintro ⟨n, h1, h2⟩
      exact ⟨n + 1, by omega, by simpa using h2⟩
    · rintro ⟨n, h1, h2⟩
      cases n with
      | zero => simp at h2
      | succ n => exact ⟨n, by omega, by simpa using h2⟩
  | some w :: t, j, k, v => by
    rw [lvl, List.mem_cons, lvl_iff t (j + 1) k v]
    constructor
    · rintro (h | ⟨n, h1, h2⟩)
      · cases h
        exact ⟨0, by omega, by simp⟩
      · exact ⟨n + 1, by omega, by simpa using h2⟩
    · rintro ⟨n, h1, h2⟩
      cases n with
      | zero =>
        simp at h2
        subst h2
        left
        simp at h1
        rw [h1]
      | succ n => exact Or.inr ⟨n, by omega, by simpa using h2⟩
def LH (lsA : Array Slot) (nL : Nat) (ls : LT) : Prop := lv_has lsA nL (lvl 0 ls)
theorem LH.get {lsA : Array Slot} {nL : Nat} {ls : LT} (h : LH lsA nL ls) {i : Nat} {v : Value} (hi : ls[i]? = some (some v)) : lsA[i]? = some (.val v) :=
  h.2.2 (i, v) ((lvl_iff ls 0 i v).mpr ⟨i, by omega, hi⟩)
def okst (ls : LT) : Nat → Bool
  | 0 => true
  | i + 1 => match ls[i]? with
    | some (some v) => v.category == 1
    | _ => true
theorem okst_1 {ls : LT} {i n : Nat} {v : Value} (h : okst ls i = true) (e : n + 1 = i) (hv : ls[n]? = some (some v)) : ¬ v.category = 2 := by
  subst e
  simp only [okst, hv, beq_iff_eq] at h
  omega
theorem LH.of {lsA : Array Slot} {nL : Nat} {ls : LT} {l : List (Nat × Value)} (h : lv_has lsA nL l) (hs : ∀ (n : Nat) (v : Value), ls[n]? = some (some v) → (n, v) ∈ l) : LH lsA nL ls :=
  ⟨h.1, h.2.1, fun q hq => h.2.2 q (by
    obtain ⟨n, h1, h2⟩ := (lvl_iff ls 0 q.1 q.2).mp hq
    have := hs n q.2 h2
    have e : n = q.1 := by omega
    rw [e] at this
    exact this)⟩
theorem LH.st1 {lsA : Array Slot} {nL : Nat} {ls : LT} {i : Nat} {v : Value} (ho : okst ls i = true) (h : lv_has lsA nL ((i, v) :: (lvl 0 ls).filter (fun q => !(q.1 == i) && !(q.1 + 1 == i && q.2.category == 2)))) : LH lsA nL (ls.set i (some v)) := by
  refine LH.of h fun n w hw => ?_
  by_cases hn : i = n
  · subst hn
    have hl : i < ls.length := by simpa using (List.getElem?_eq_some_iff.mp hw).1
    rw [List.getElem?_set_self hl] at hw
    cases hw
    exact List.mem_cons_self
  · rw [List.getElem?_set_ne hn] at hw
    refine List.mem_cons_of_mem _ (List.mem_filter.mpr ⟨(lvl_iff ls 0 n w).mpr ⟨n, by omega, hw⟩, ?_⟩)
    simp only [Bool.and_eq_true, Bool.not_eq_true', beq_eq_false_iff_ne, ne_eq, Bool.and_eq_false_iff]
    refine ⟨fun e => hn e.symm, ?_⟩
    by_cases e : n + 1 = i
    · exact Or.inr (okst_1 ho e hw)
    · exact Or.inl e
theorem LH.st2 {lsA : Array Slot} {nL : Nat} {ls : LT} {i : Nat} {v : Value} (ho : okst ls i = true) (h : lv_has lsA nL ((i, v) :: (lvl 0 ls).filter (fun q => !(q.1 == i) && (!(q.1 == i + 1) && !(q.1 + 1 == i && q.2.category == 2))))) : LH lsA nL ((ls.set i (some v)).set (i + 1) none) := by
  refine LH.of h fun n w hw => ?_
  by_cases hn1 : i + 1 = n
  · subst hn1
    by_cases hl : i + 1 < (ls.set i (some v)).length
    · rw [List.getElem?_set_self hl] at hw
      cases hw
    · rw [List.getElem?_eq_none (by simpa using Nat.le_of_not_lt hl)] at hw
      cases hw
  · rw [List.getElem?_set_ne hn1] at hw
    by_cases hn : i = n
    · subst hn
      have hl : i < ls.length := by simpa using (List.getElem?_eq_some_iff.mp hw).1
      rw [List.getElem?_set_self hl] at hw
      cases hw
      exact List.mem_cons_self
    · rw [List.getElem?_set_ne hn] at hw
      refine List.mem_cons_of_mem _ (List.mem_filter.mpr ⟨(lvl_iff ls 0 n w).mpr ⟨n, by omega, hw⟩, ?_⟩)
      simp only [Bool.and_eq_true, Bool.not_eq_true', beq_eq_false_iff_ne, ne_eq, Bool.and_eq_false_iff]
      refine ⟨fun e => hn e.symm, fun e => hn1 e.symm, ?_⟩
      by_cases e : n + 1 = i
      · exact Or.inr (okst_1 ho e hw)
      · exact Or.inl e
def locA : List Value → LT
  | [] => []
  | v :: t => if v.category = 2 then some v :: none :: locA t else some v :: locA t
theorem locA_lvl : ∀ (av : List Value) (i : Nat) (k : Nat), lvl i (locA av ++ List.replicate k none) = lv_args i av
  | [], i, k => by
    have : ∀ (k i : Nat), lvl i (List.replicate k none) = [] := by
      intro k
      induction k with
      | zero => intro i; rfl
      | succ k ih => intro i; rw [List.replicate_succ, lvl, ih]
    simpa [locA, lv_args] using this k i
  | v :: t, i, k => by
    by_cases hc : v.category = 2
    · simp only [locA, lv_args, hc, if_true, List.cons_append, lvl]
      rw [locA_lvl t (i + 1 + 1) k]
    · simp only [locA, lv_args, hc, if_false, List.cons_append, lvl]
      rw [locA_lvl t (i + 1) k]
/-! ===== a point in a method's body ===== -/
abbrev QT : Type := Program → Env → Room → State → MethodId → Array Value → List Frame → Method → Code → Nat → Nat → State → Prop
def EnvOk (G : GT) (own : String) (cc : ByteArray) (nL : Nat) (ret : Option FieldType) (d : Nat) (p : Program) (R : Room) (s : State) (m : MethodId) (args : Array Value) (meth : Method) (c : Code) (cells slots : Nat) : Prop :=
  p.tables.exec = Jvm.exec ∧ c.code = cc ∧ c.maxLocals = nL ∧ meth.sig.returnType = ret ∧ meth.locks = false ∧ s.vm.findClass own = some m.cls ∧ (∀ w ∈ TB, w.before args s = true) ∧ Kn G s ∧ (G.b0 ≤ s.heap.size ∧ ∀ q : Nat, q < G.b0 → s.heap[q]? = G.H0[q]?) ∧ (d ≤ R.frames ∧ 100 * d ≤ R.locals) ∧ (cells ≤ R.cells ∧ slots ≤ R.slots)
def BB (G : GT) (own : String) (cc : ByteArray) (nL : Nat) (ret : Option FieldType) (d : Nat) (Q : QT) (pc : Nat) (ls : LT) (st : List Value) (h : HT) : Prop :=
  ∀ (p : Program) (e : Env) (R : Room) (s : State) (m : MethodId) (args : Array Value) (below : List Frame) (meth : Method) (c : Code) (cells slots : Nat), EnvOk G own cc nL ret d p R s m args meth c cells slots → ∀ (H : Heap) (locs : List Loc) (lsA : Array Slot), HP G h H → va_S (GA G) s.heap H locs → LH lsA nL ls → W p G.l e R s m args below meth c H locs cells slots (Q p e R s m args below meth c cells slots) (F0 m pc lsA st)
theorem mkHP {G : GT} {s : State} {H : Heap} {locs : List Loc} {h : HT} (hs : G.b0 ≤ s.heap.size ∧ ∀ q : Nat, q < G.b0 → s.heap[q]? = G.H0[q]?) (hS : va_S (GA G) s.heap H locs) (hP : va_P G.D vwCl (wl G h) H) : HP G h H :=
  ⟨Nat.le_trans hs.1 hS.1, fun q hq => (hS.2.1 q (Nat.lt_of_lt_of_le hq hs.1) (Nat.not_le.mpr hq)).trans (hs.2 q hq), hP⟩
def QcOf (G : GT) (Post : Option Value → HT → Prop) : Array Value → State → Outcome → State → Prop := fun _ st oc t => (∃ (r : Option Value) (h' : HT), oc = .returned r ∧ Post r h' ∧ HP G h' t.heap) ∧ va_F (GA G) st t
def QM (G : GT) (Post : Option Value → HT → Prop) : QT := fun _ _ _ s _ args below _ _ cells slots => MQ below (QcOf G Post) args s cells slots (GA G)
abbrev MT : Type := MethodName × ByteArray × Nat × Option FieldType
def Rm (d : Nat) : Room := { frames := d, cells := 0, slots := 0, locals := 100 * d }
/-- a method's contract: from the world h, with these arguments, it returns, and Post holds of the answer and the world then -/
def Fn (G : GT) (d : Nat) (M : MT) (av : List Value) (h : HT) (Post : Option Value → HT → Prop) : Prop :=
  Met G.l M.1 (Cond.code M.1 M.2.1 M.2.2.1 M.2.2.2 :: TB) (Rm d) (va_Pc av (fun U => HP G h U.heap ∧ Kn G U)) (QcOf G Post) 0 0 (GA G)
def Ret (v : Option Value) (h' : HT) : Option Value → HT → Prop := fun r g => r = v ∧ g = h'
theorem fn_of {G : GT} {d : Nat} {y : MethodName} {cc : ByteArray} {nL : Nat} {ret : Option FieldType} {av : List Value} {h : HT} {Post : Option Value → HT → Prop} (hy : plainName y.cls = true) (hn : (lg_sl av).length ≤ nL) {ls : LT} (k : Nat) (hls : locA av ++ List.replicate k none = ls)
    (body : BB G y.cls cc nL ret d (QM G Post) 0 ls [] h) : Fn G d (y, cc, nL, ret) av h Post := by
  refine Met.ofW (cc := cc) (maxL := nL) (ret := ret) hy rfl ?_
  intro p e s m args below meth c s₁ B hml hv
  obtain ⟨rfl, hH, hK⟩ := hv
  have hts := atoms_spec (ws := Cond.code y cc nL ret :: TB) B.pre
  have hown : s.vm.findClass y.cls = some m.cls := findClass_of_methodNamed B.named
  have hl := lv_entry av (n := nL) hn
  rw [lg_entry_eq]
  refine body p e _ s m _ below meth c 0 0 ⟨B.exec, B.bytes, hml, B.returns, B.notSynchronized, hown, fun w hw => hts w (List.mem_cons_of_mem _ hw), hK, ⟨hH.1, hH.2.1⟩, ⟨Nat.le_refl _, Nat.le_refl _⟩, ⟨Nat.le_refl _, Nat.le_refl _⟩⟩ s.heap [] _ hH va_S.rf ?_
  unfold LH
  rw [← hls, locA_lvl av 0 k]
  exact hl
end
section
section Rules
variable {G : GT} {own : String} {cc : ByteArray} {nL : Nat} {ret : Option FieldType} {d : Nat} {Q : QT} {pc : Nat} {ls : LT} {st : List Value} {h : HT}
theorem b_iconst {n : Int} {v : Int32} (hd : decode cc pc = .ok (.iconst n, 1)) (hv : Int32.ofInt n = v) (k : BB G own cc nL ret d Q (pc + 1) ls (.int v :: st) h) : BB G own cc nL ret d Q (pc) ls (st) h :=
  fun p e R s m args below meth c cells slots E H locs lsA hH hS hl => lv_iconst E.1 E.2.1 hd hv (k p e R s m args below meth c cells slots E H locs lsA hH hS hl)
theorem b_bipush {n : Int} {v : Int32} (hd : decode cc pc = .ok (.bipush n, 2)) (hv : (Int8.ofInt n).toInt32 = v) (k : BB G own cc nL ret d Q (pc + 2) ls (.int v :: st) h) : BB G own cc nL ret d Q (pc) ls (st) h :=
  fun p e R s m args below meth c cells slots E H locs lsA hH hS hl => lv_bipush E.1 E.2.1 hd hv (k p e R s m args below meth c cells slots E H locs lsA hH hS hl)
theorem b_sipush {n : Int} {v : Int32} (hd : decode cc pc = .ok (.sipush n, 3)) (hv : (Int16.ofInt n).toInt32 = v) (k : BB G own cc nL ret d Q (pc + 3) ls (.int v :: st) h) : BB G own cc nL ret d Q (pc) ls (st) h :=
  fun p e R s m args below meth c cells slots E H locs lsA hH hS hl => lv_sipush E.1 E.2.1 hd hv (k p e R s m args below meth c cells slots E H locs lsA hH hS hl)
theorem b_lconst {n : Fin 2} {v : Int64} (hd : decode cc pc = .ok (.lconst n, 1)) (hv : Int64.ofNat (n : Nat) = v) (k : BB G own cc nL ret d Q (pc + 1) ls (.long v :: st) h) : BB G own cc nL ret d Q (pc) ls (st) h :=
  fun p e R s m args below meth c cells slots E H locs lsA hH hS hl => lv_lconst E.1 E.2.1 hd hv (k p e R s m args below meth c cells slots E H locs lsA hH hS hl)
theorem b_iload_n {kk : Fin 4} {x : Int32} (hd : decode cc pc = .ok (.iload_n kk, 1)) (hi : ls[(kk : Nat)]? = some (some (.int x))) (k : BB G own cc nL ret d Q (pc + 1) ls (.int x :: st) h) : BB G own cc nL ret d Q (pc) ls (st) h :=
  fun p e R s m args below meth c cells slots E H locs lsA hH hS hl => lv_iload_n E.1 E.2.1 hd rfl (hl.get hi) (k p e R s m args below meth c cells slots E H locs lsA hH hS hl)
theorem b_iload {i : Nat} {x : Int32} (hd : decode cc pc = .ok (.iload i, 2)) (hi : ls[i]? = some (some (.int x))) (k : BB G own cc nL ret d Q (pc + 2) ls (.int x :: st) h) : BB G own cc nL ret d Q (pc) ls (st) h :=
  fun p e R s m args below meth c cells slots E H locs lsA hH hS hl => lv_iload E.1 E.2.1 hd (hl.get hi) (k p e R s m args below meth c cells slots E H locs lsA hH hS hl)
theorem b_lload_n {kk : Fin 4} {x : Int64} (hd : decode cc pc = .ok (.lload_n kk, 1)) (hi : ls[(kk : Nat)]? = some (some (.long x))) (k : BB G own cc nL ret d Q (pc + 1) ls (.long x :: st) h) : BB G own cc nL ret d Q (pc) ls (st) h :=
  fun p e R s m args below meth c cells slots E H locs lsA hH hS hl => lv_lload_n E.1 E.2.1 hd rfl (hl.get hi) (k p e R s m args below meth c cells slots E H locs lsA hH hS hl)
theorem b_lload {i : Nat} {x : Int64} (hd : decode cc pc = .ok (.lload i, 2)) (hi : ls[i]? = some (some (.long x))) (k : BB G own cc nL ret d Q (pc + 2) ls (.long x :: st) h) : BB G own cc nL ret d Q (pc) ls (st) h :=
  fun p e R s m args below meth c cells slots E H locs lsA hH hS hl => lv_lload E.1 E.2.1 hd (hl.get hi) (k p e R s m args below meth c cells slots E H locs lsA hH hS hl)
theorem b_aload_n {kk : Fin 4} {x : Nat} (hd : decode cc pc = .ok (.aload_n kk, 1)) (hi : ls[(kk : Nat)]? = some (some (.ref x))) (k : BB G own cc nL ret d Q (pc + 1) ls (.ref x :: st) h) : BB G own cc nL ret d Q (pc) ls (st) h :=
  fun p e R s m args below meth c cells slots E H locs lsA hH hS hl => lv_aload_n E.1 E.2.1 hd rfl (hl.get hi) (k p e R s m args below meth c cells slots E H locs lsA hH hS hl)
theorem b_aload {i : Nat} {x : Nat} (hd : decode cc pc = .ok (.aload i, 2)) (hi : ls[i]? = some (some (.ref x))) (k : BB G own cc nL ret d Q (pc + 2) ls (.ref x :: st) h) : BB G own cc nL ret d Q (pc) ls (st) h :=
  fun p e R s m args below meth c cells slots E H locs lsA hH hS hl => lv_aload E.1 E.2.1 hd (hl.get hi) (k p e R s m args below meth c cells slots E H locs lsA hH hS hl)
theorem b_istore_n {kk : Fin 4} {x : Int32} (hd : decode cc pc = .ok (.istore_n kk, 1)) (hn : (kk : Nat) < nL) (ho : okst ls (kk : Nat) = true) (k : BB G own cc nL ret d Q (pc + 1) (ls.set (kk : Nat) (some (.int x))) (st) h) : BB G own cc nL ret d Q (pc) ls (.int x :: st) h :=
  fun p e R s m args below meth c cells slots E H locs lsA hH hS hl => lv_istore_n E.1 E.2.1 hd rfl hl hn rfl (fun lsA' hl' => k p e R s m args below meth c cells slots E H locs lsA' hH hS (LH.st1 ho hl'))
theorem b_istore {i : Nat} {x : Int32} (hd : decode cc pc = .ok (.istore i, 2)) (hn : i < nL) (ho : okst ls i = true) (k : BB G own cc nL ret d Q (pc + 2) (ls.set i (some (.int x))) (st) h) : BB G own cc nL ret d Q (pc) ls (.int x :: st) h :=
  fun p e R s m args below meth c cells slots E H locs lsA hH hS hl => lv_istore E.1 E.2.1 hd hl hn rfl (fun lsA' hl' => k p e R s m args below meth c cells slots E H locs lsA' hH hS (LH.st1 ho hl'))
theorem b_astore_n {kk : Fin 4} {x : Nat} (hd : decode cc pc = .ok (.astore_n kk, 1)) (hn : (kk : Nat) < nL) (ho : okst ls (kk : Nat) = true) (k : BB G own cc nL ret d Q (pc + 1) (ls.set (kk : Nat) (some (.ref x))) (st) h) : BB G own cc nL ret d Q (pc) ls (.ref x :: st) h :=
  fun p e R s m args below meth c cells slots E H locs lsA hH hS hl => lv_astore_n E.1 E.2.1 hd rfl hl hn rfl (fun lsA' hl' => k p e R s m args below meth c cells slots E H locs lsA' hH hS (LH.st1 ho hl'))
theorem b_astore {i : Nat} {x : Nat} (hd : decode cc pc = .ok (.astore i, 2)) (hn : i < nL) (ho : okst ls i = true) (k : BB G own cc nL ret d Q (pc + 2) (ls.set i (some (.ref x))) (st) h) : BB G own cc nL ret d Q (pc) ls (.ref x :: st) h :=
  fun p e R s m args below meth c cells slots E H locs lsA hH hS hl => lv_astore E.1 E.2.1 hd hl hn rfl (fun lsA' hl' => k p e R s m args below meth c cells slots E H locs lsA' hH hS (LH.st1 ho hl'))
theorem b_lstore_n {kk : Fin 4} {x : Int64} (hd : decode cc pc = .ok (.lstore_n kk, 1)) (hn : (kk : Nat) + 1 < nL) (ho : okst ls (kk : Nat) = true) (k : BB G own cc nL ret d Q (pc + 1) ((ls.set (kk : Nat) (some (.long x))).set ((kk : Nat) + 1) none) (st) h) : BB G own cc nL ret d Q (pc) ls (.long x :: st) h :=
  fun p e R s m args below meth c cells slots E H locs lsA hH hS hl => lv_lstore_n E.1 E.2.1 hd rfl hl hn rfl (fun lsA' hl' => k p e R s m args below meth c cells slots E H locs lsA' hH hS (LH.st2 ho hl'))
theorem b_lstore {i : Nat} {x : Int64} (hd : decode cc pc = .ok (.lstore i, 2)) (hn : i + 1 < nL) (ho : okst ls i = true) (k : BB G own cc nL ret d Q (pc + 2) ((ls.set i (some (.long x))).set (i + 1) none) (st) h) : BB G own cc nL ret d Q (pc) ls (.long x :: st) h :=
  fun p e R s m args below meth c cells slots E H locs lsA hH hS hl => lv_lstore E.1 E.2.1 hd hl hn rfl (fun lsA' hl' => k p e R s m args below meth c cells slots E H locs lsA' hH hS (LH.st2 ho hl'))
theorem lvl_at {ls : LT} {i : Nat} {v : Value} (hi : ls[i]? = some (some v)) : ∃ k : Nat, (lvl 0 ls)[k]? = some (i, v) := List.getElem?_of_mem ((lvl_iff ls 0 i v).mpr ⟨i, by omega, hi⟩)
theorem b_iinc {i : Nat} {n : Int} {x v : Int32} (hd : decode cc pc = .ok (.iinc i n, 3)) (hi : ls[i]? = some (some (.int x))) (hv : x + Int32.ofInt n = v) (hn : i < nL) (ho : okst ls i = true) (k : BB G own cc nL ret d Q (pc + 3) (ls.set i (some (.int v))) (st) h) : BB G own cc nL ret d Q (pc) ls (st) h := by
  intro p e R s m args below meth c cells slots E H locs lsA hH hS hl
  obtain ⟨k0, hk0⟩ := lvl_at hi
  exact lv_iinc E.1 E.2.1 hd hl hk0 hv hn rfl (fun lsA' hl' => k p e R s m args below meth c cells slots E H locs lsA' hH hS (LH.st1 ho hl'))
theorem b_iadd {x y : Int32} (hd : decode cc pc = .ok (.iadd, 1)) (k : BB G own cc nL ret d Q (pc + 1) ls (.int (x + y) :: st) h) : BB G own cc nL ret d Q (pc) ls (.int y :: .int x :: st) h :=
  fun p e R s m args below meth c cells slots E H locs lsA hH hS hl => lv_iadd E.1 E.2.1 hd (k p e R s m args below meth c cells slots E H locs lsA hH hS hl)
theorem b_isub {x y : Int32} (hd : decode cc pc = .ok (.isub, 1)) (k : BB G own cc nL ret d Q (pc + 1) ls (.int (x - y) :: st) h) : BB G own cc nL ret d Q (pc) ls (.int y :: .int x :: st) h :=
  fun p e R s m args below meth c cells slots E H locs lsA hH hS hl => lv_isub E.1 E.2.1 hd (k p e R s m args below meth c cells slots E H locs lsA hH hS hl)
theorem b_imul {x y : Int32} (hd : decode cc pc = .ok (.imul, 1)) (k : BB G own cc nL ret d Q (pc + 1) ls (.int (x * y) :: st) h) : BB G own cc nL ret d Q (pc) ls (.int y :: .int x :: st) h :=
  fun p e R s m args below meth c cells slots E H locs lsA hH hS hl => lv_imul E.1 E.2.1 hd (k p e R s m args below meth c cells slots E H locs lsA hH hS hl)
theorem b_iand {x y : Int32} (hd : decode cc pc = .ok (.iand, 1)) (k : BB G own cc nL ret d Q (pc + 1) ls (.int (x &&& y) :: st) h) : BB G own cc nL ret d Q (pc) ls (.int y :: .int x :: st) h :=
  fun p e R s m args below meth c cells slots E H locs lsA hH hS hl => lv_iand E.1 E.2.1 hd (k p e R s m args below meth c cells slots E H locs lsA hH hS hl)
theorem b_ior {x y : Int32} (hd : decode cc pc = .ok (.ior, 1)) (k : BB G own cc nL ret d Q (pc + 1) ls (.int (x ||| y) :: st) h) : BB G own cc nL ret d Q (pc) ls (.int y :: .int x :: st) h :=
  fun p e R s m args below meth c cells slots E H locs lsA hH hS hl => lv_ior E.1 E.2.1 hd (k p e R s m args below meth c cells slots E H locs lsA hH hS hl)
theorem b_ixor {x y : Int32} (hd : decode cc pc = .ok (.ixor, 1)) (k : BB G own cc nL ret d Q (pc + 1) ls (.int (x ^^^ y) :: st) h) : BB G own cc nL ret d Q (pc) ls (.int y :: .int x :: st) h :=
  fun p e R s m args below meth c cells slots E H locs lsA hH hS hl => lv_ixor E.1 E.2.1 hd (k p e R s m args below meth c cells slots E H locs lsA hH hS hl)
theorem b_ishl {x y : Int32} (hd : decode cc pc = .ok (.ishl, 1)) (k : BB G own cc nL ret d Q (pc + 1) ls (.int (x <<< (y &&& 31)) :: st) h) : BB G own cc nL ret d Q (pc) ls (.int y :: .int x :: st) h :=
  fun p e R s m args below meth c cells slots E H locs lsA hH hS hl => lv_ishl E.1 E.2.1 hd (k p e R s m args below meth c cells slots E H locs lsA hH hS hl)
theorem b_ishr {x y : Int32} (hd : decode cc pc = .ok (.ishr, 1)) (k : BB G own cc nL ret d Q (pc + 1) ls (.int (x >>> (y &&& 31)) :: st) h) : BB G own cc nL ret d Q (pc) ls (.int y :: .int x :: st) h :=
  fun p e R s m args below meth c cells slots E H locs lsA hH hS hl => lv_ishr E.1 E.2.1 hd (k p e R s m args below meth c cells slots E H locs lsA hH hS hl)
theorem b_ladd {x y : Int64} (hd : decode cc pc = .ok (.ladd, 1)) (k : BB G own cc nL ret d Q (pc + 1) ls (.long (x + y) :: st) h) : BB G own cc nL ret d Q (pc) ls (.long y :: .long x :: st) h :=
  fun p e R s m args below meth c cells slots E H locs lsA hH hS hl => lv_ladd E.1 E.2.1 hd (k p e R s m args below meth c cells slots E H locs lsA hH hS hl)
theorem b_lsub {x y : Int64} (hd : decode cc pc = .ok (.lsub, 1)) (k : BB G own cc nL ret d Q (pc + 1) ls (.long (x - y) :: st) h) : BB G own cc nL ret d Q (pc) ls (.long y :: .long x :: st) h :=
  fun p e R s m args below meth c cells slots E H locs lsA hH hS hl => lv_lsub E.1 E.2.1 hd (k p e R s m args below meth c cells slots E H locs lsA hH hS hl)
theorem b_lmul {x y : Int64} (hd : decode cc pc = .ok (.lmul, 1)) (k : BB G own cc nL ret d Q (pc + 1) ls (.long (x * y) :: st) h) : BB G own cc nL ret d Q (pc) ls (.long y :: .long x :: st) h :=
  fun p e R s m args below meth c cells slots E H locs lsA hH hS hl => lv_lmul E.1 E.2.1 hd (k p e R s m args below meth c cells slots E H locs lsA hH hS hl)
theorem b_land {x y : Int64} (hd : decode cc pc = .ok (.land, 1)) (k : BB G own cc nL ret d Q (pc + 1) ls (.long (x &&& y) :: st) h) : BB G own cc nL ret d Q (pc) ls (.long y :: .long x :: st) h :=
  fun p e R s m args below meth c cells slots E H locs lsA hH hS hl => lv_land E.1 E.2.1 hd (k p e R s m args below meth c cells slots E H locs lsA hH hS hl)
theorem b_lor {x y : Int64} (hd : decode cc pc = .ok (.lor, 1)) (k : BB G own cc nL ret d Q (pc + 1) ls (.long (x ||| y) :: st) h) : BB G own cc nL ret d Q (pc) ls (.long y :: .long x :: st) h :=
  fun p e R s m args below meth c cells slots E H locs lsA hH hS hl => lv_lor E.1 E.2.1 hd (k p e R s m args below meth c cells slots E H locs lsA hH hS hl)
theorem b_idiv {x y : Int32} (hd : decode cc pc = .ok (.idiv, 1)) (hne : ¬ y = 0) (k : BB G own cc nL ret d Q (pc + 1) ls (.int (x / y) :: st) h) : BB G own cc nL ret d Q (pc) ls (.int y :: .int x :: st) h :=
  fun p e R s m args below meth c cells slots E H locs lsA hH hS hl => lv_idiv E.1 E.2.1 hd hne (k p e R s m args below meth c cells slots E H locs lsA hH hS hl)
theorem b_irem {x y : Int32} (hd : decode cc pc = .ok (.irem, 1)) (hne : ¬ y = 0) (k : BB G own cc nL ret d Q (pc + 1) ls (.int (x - x / y * y) :: st) h) : BB G own cc nL ret d Q (pc) ls (.int y :: .int x :: st) h :=
  fun p e R s m args below meth c cells slots E H locs lsA hH hS hl => lv_irem E.1 E.2.1 hd hne (k p e R s m args below meth c cells slots E H locs lsA hH hS hl)
theorem b_ldiv {x y : Int64} (hd : decode cc pc = .ok (.ldiv, 1)) (hne : ¬ y = 0) (k : BB G own cc nL ret d Q (pc + 1) ls (.long (x / y) :: st) h) : BB G own cc nL ret d Q (pc) ls (.long y :: .long x :: st) h :=
  fun p e R s m args below meth c cells slots E H locs lsA hH hS hl => lv_ldiv E.1 E.2.1 hd hne (k p e R s m args below meth c cells slots E H locs lsA hH hS hl)
theorem b_lrem {x y : Int64} (hd : decode cc pc = .ok (.lrem, 1)) (hne : ¬ y = 0) (k : BB G own cc nL ret d Q (pc + 1) ls (.long (x - x / y * y) :: st) h) : BB G own cc nL ret d Q (pc) ls (.long y :: .long x :: st) h :=
  fun p e R s m args below meth c cells slots E H locs lsA hH hS hl => lv_lrem E.1 E.2.1 hd hne (k p e R s m args below meth c cells slots E H locs lsA hH hS hl)
theorem b_ineg {x : Int32} (hd : decode cc pc = .ok (.ineg, 1)) (k : BB G own cc nL ret d Q (pc + 1) ls (.int (-x) :: st) h) : BB G own cc nL ret d Q (pc) ls (.int x :: st) h :=
  fun p e R s m args below meth c cells slots E H locs lsA hH hS hl => lv_ineg E.1 E.2.1 hd (k p e R s m args below meth c cells slots E H locs lsA hH hS hl)
theorem b_iushr {x y : Int32} (hd : decode cc pc = .ok (.iushr, 1)) (k : BB G own cc nL ret d Q (pc + 1) ls (.int ((x.toUInt32 >>> (y.toUInt32 &&& Int32.toUInt32 31)).toInt32) :: st) h) : BB G own cc nL ret d Q (pc) ls (.int y :: .int x :: st) h :=
  fun p e R s m args below meth c cells slots E H locs lsA hH hS hl => lv_iushr E.1 E.2.1 hd rfl (k p e R s m args below meth c cells slots E H locs lsA hH hS hl)
theorem b_lshl {x : Int64} {y : Int32} (hd : decode cc pc = .ok (.lshl, 1)) (k : BB G own cc nL ret d Q (pc + 1) ls (.long (x <<< (y.toInt64 &&& 63)) :: st) h) : BB G own cc nL ret d Q (pc) ls (.int y :: .long x :: st) h :=
  fun p e R s m args below meth c cells slots E H locs lsA hH hS hl => lv_lshl E.1 E.2.1 hd rfl (k p e R s m args below meth c cells slots E H locs lsA hH hS hl)
theorem b_lshr {x : Int64} {y : Int32} (hd : decode cc pc = .ok (.lshr, 1)) (k : BB G own cc nL ret d Q (pc + 1) ls (.long (x >>> (y.toInt64 &&& 63)) :: st) h) : BB G own cc nL ret d Q (pc) ls (.int y :: .long x :: st) h :=
  fun p e R s m args below meth c cells slots E H locs lsA hH hS hl => lv_lshr E.1 E.2.1 hd rfl (k p e R s m args below meth c cells slots E H locs lsA hH hS hl)
theorem b_i2l {x : Int32} (hd : decode cc pc = .ok (.i2l, 1)) (k : BB G own cc nL ret d Q (pc + 1) ls (.long x.toInt64 :: st) h) : BB G own cc nL ret d Q (pc) ls (.int x :: st) h :=
  fun p e R s m args below meth c cells slots E H locs lsA hH hS hl => lv_i2l E.1 E.2.1 hd rfl (k p e R s m args below meth c cells slots E H locs lsA hH hS hl)
theorem b_l2i {x : Int64} (hd : decode cc pc = .ok (.l2i, 1)) (k : BB G own cc nL ret d Q (pc + 1) ls (.int x.toInt32 :: st) h) : BB G own cc nL ret d Q (pc) ls (.long x :: st) h :=
  fun p e R s m args below meth c cells slots E H locs lsA hH hS hl => lv_l2i E.1 E.2.1 hd rfl (k p e R s m args below meth c cells slots E H locs lsA hH hS hl)
theorem b_i2b {x : Int32} (hd : decode cc pc = .ok (.i2b, 1)) (k : BB G own cc nL ret d Q (pc + 1) ls (.int x.toInt8.toInt32 :: st) h) : BB G own cc nL ret d Q (pc) ls (.int x :: st) h :=
  fun p e R s m args below meth c cells slots E H locs lsA hH hS hl => lv_i2b E.1 E.2.1 hd rfl (k p e R s m args below meth c cells slots E H locs lsA hH hS hl)
theorem b_i2s {x : Int32} (hd : decode cc pc = .ok (.i2s, 1)) (k : BB G own cc nL ret d Q (pc + 1) ls (.int x.toInt16.toInt32 :: st) h) : BB G own cc nL ret d Q (pc) ls (.int x :: st) h :=
  fun p e R s m args below meth c cells slots E H locs lsA hH hS hl => lv_i2s E.1 E.2.1 hd rfl (k p e R s m args below meth c cells slots E H locs lsA hH hS hl)
theorem b_i2c {x : Int32} (hd : decode cc pc = .ok (.i2c, 1)) (k : BB G own cc nL ret d Q (pc + 1) ls (.int (x.toUInt32 % 65536).toInt32 :: st) h) : BB G own cc nL ret d Q (pc) ls (.int x :: st) h :=
  fun p e R s m args below meth c cells slots E H locs lsA hH hS hl => lv_i2c E.1 E.2.1 hd rfl (k p e R s m args below meth c cells slots E H locs lsA hH hS hl)
theorem b_lcmp {x y : Int64} (hd : decode cc pc = .ok (.lcmp, 1)) (k : BB G own cc nL ret d Q (pc + 1) ls (.int (lg_cmp x y) :: st) h) : BB G own cc nL ret d Q (pc) ls (.long y :: .long x :: st) h :=
  fun p e R s m args below meth c cells slots E H locs lsA hH hS hl => W.lcmp E.1 E.2.1 hd (k p e R s m args below meth c cells slots E H locs lsA hH hS hl)
theorem b_dup {v : Value} (hd : decode cc pc = .ok (.dup, 1)) (hv : v.category = 1) (k : BB G own cc nL ret d Q (pc + 1) ls (v :: v :: st) h) : BB G own cc nL ret d Q (pc) ls (v :: st) h :=
  fun p e R s m args below meth c cells slots E H locs lsA hH hS hl => lv_dup E.1 E.2.1 hd hv (k p e R s m args below meth c cells slots E H locs lsA hH hS hl)
theorem b_pop {v : Value} (hd : decode cc pc = .ok (.pop, 1)) (hv : v.category = 1) (k : BB G own cc nL ret d Q (pc + 1) ls (st) h) : BB G own cc nL ret d Q (pc) ls (v :: st) h :=
  fun p e R s m args below meth c cells slots E H locs lsA hH hS hl => lv_pop E.1 E.2.1 hd hv (k p e R s m args below meth c cells slots E H locs lsA hH hS hl)
theorem b_dup2 {v w : Value} (hd : decode cc pc = .ok (.dup2, 1)) (hv : v.category = 1) (hw : w.category = 1) (k : BB G own cc nL ret d Q (pc + 1) ls (v :: w :: v :: w :: st) h) : BB G own cc nL ret d Q (pc) ls (v :: w :: st) h :=
  fun p e R s m args below meth c cells slots E H locs lsA hH hS hl => lv_dup2_11 E.1 E.2.1 hd hv hw (k p e R s m args below meth c cells slots E H locs lsA hH hS hl)
theorem b_dup2l {v : Value} (hd : decode cc pc = .ok (.dup2, 1)) (hv : v.category = 2) (k : BB G own cc nL ret d Q (pc + 1) ls (v :: v :: st) h) : BB G own cc nL ret d Q (pc) ls (v :: st) h :=
  fun p e R s m args below meth c cells slots E H locs lsA hH hS hl => lv_dup2_2 E.1 E.2.1 hd hv (k p e R s m args below meth c cells slots E H locs lsA hH hS hl)
theorem b_if_eq {x : Int32} {off : Int} (tgt : Nat) (hd : decode cc pc = .ok (.ifCond .eq off, 3)) (ht : (pc : Int) + off = (tgt : Int)) (kt : x = 0 → BB G own cc nL ret d Q (tgt) ls (st) h) (kf : ¬ x = 0 → BB G own cc nL ret d Q (pc + 3) ls (st) h) : BB G own cc nL ret d Q (pc) ls (.int x :: st) h :=
  fun p e R s m args below meth c cells slots E H locs lsA hH hS hl => lv_if_eq E.1 E.2.1 hd ht (fun h1 => kt h1 p e R s m args below meth c cells slots E H locs lsA hH hS hl) (fun h1 => kf h1 p e R s m args below meth c cells slots E H locs lsA hH hS hl)
theorem b_if_eq_t {x : Int32} {off : Int} (tgt : Nat) (hd : decode cc pc = .ok (.ifCond .eq off, 3)) (ht : (pc : Int) + off = (tgt : Int)) (hc : x = 0) (kt : BB G own cc nL ret d Q (tgt) ls (st) h) : BB G own cc nL ret d Q (pc) ls (.int x :: st) h :=
  b_if_eq tgt hd ht (fun _ => kt) (fun h1 => absurd hc (h1))
theorem b_if_eq_f {x : Int32} {off : Int} (tgt : Nat) (hd : decode cc pc = .ok (.ifCond .eq off, 3)) (ht : (pc : Int) + off = (tgt : Int)) (hc : ¬ x = 0) (kf : BB G own cc nL ret d Q (pc + 3) ls (st) h) : BB G own cc nL ret d Q (pc) ls (.int x :: st) h :=
  b_if_eq tgt hd ht (fun h1 => absurd h1 hc) (fun _ => kf)
theorem b_icmp_eq {x y : Int32} {off : Int} (tgt : Nat) (hd : decode cc pc = .ok (.if_icmp .eq off, 3)) (ht : (pc : Int) + off = (tgt : Int)) (kt : x = y → BB G own cc nL ret d Q (tgt) ls (st) h) (kf : ¬ x = y → BB G own cc nL ret d Q (pc + 3) ls (st) h) : BB G own cc nL ret d Q (pc) ls (.int y :: .int x :: st) h :=
  fun p e R s m args below meth c cells slots E H locs lsA hH hS hl => lv_icmp_eq E.1 E.2.1 hd ht (fun h1 => kt h1 p e R s m args below meth c cells slots E H locs lsA hH hS hl) (fun h1 => kf h1 p e R s m args below meth c cells slots E H locs lsA hH hS hl)
theorem b_icmp_eq_t {x y : Int32} {off : Int} (tgt : Nat) (hd : decode cc pc = .ok (.if_icmp .eq off, 3)) (ht : (pc : Int) + off = (tgt : Int)) (hc : x = y) (kt : BB G own cc nL ret d Q (tgt) ls (st) h) : BB G own cc nL ret d Q (pc) ls (.int y :: .int x :: st) h :=
  b_icmp_eq tgt hd ht (fun _ => kt) (fun h1 => absurd hc (h1))
theorem b_icmp_eq_f {x y : Int32} {off : Int} (tgt : Nat) (hd : decode cc pc = .ok (.if_icmp .eq off, 3)) (ht : (pc : Int) + off = (tgt : Int)) (hc : ¬ x = y) (kf : BB G own cc nL ret d Q (pc + 3) ls (st) h) : BB G own cc nL ret d Q (pc) ls (.int y :: .int x :: st) h :=
  b_icmp_eq tgt hd ht (fun h1 => absurd h1 hc) (fun _ => kf)
theorem b_if_ne {x : Int32} {off : Int} (tgt : Nat) (hd : decode cc pc = .ok (.ifCond .ne off, 3)) (ht : (pc : Int) + off = (tgt : Int)) (kt : ¬ x = 0 → BB G own cc nL ret d Q (tgt) ls (st) h) (kf : x = 0 → BB G own cc nL ret d Q (pc + 3) ls (st) h) : BB G own cc nL ret d Q (pc) ls (.int x :: st) h :=
  fun p e R s m args below meth c cells slots E H locs lsA hH hS hl => lv_if_ne E.1 E.2.1 hd ht (fun h1 => kt h1 p e R s m args below meth c cells slots E H locs lsA hH hS hl) (fun h1 => kf h1 p e R s m args below meth c cells slots E H locs lsA hH hS hl)
theorem b_if_ne_t {x : Int32} {off : Int} (tgt : Nat) (hd : decode cc pc = .ok (.ifCond .ne off, 3)) (ht : (pc : Int) + off = (tgt : Int)) (hc : ¬ x = 0) (kt : BB G own cc nL ret d Q (tgt) ls (st) h) : BB G own cc nL ret d Q (pc) ls (.int x :: st) h :=
  b_if_ne tgt hd ht (fun _ => kt) (fun h1 => absurd hc (fun z => z h1))
theorem b_if_ne_f {x : Int32} {off : Int} (tgt : Nat) (hd : decode cc pc = .ok (.ifCond .ne off, 3)) (ht : (pc : Int) + off = (tgt : Int)) (hc : x = 0) (kf : BB G own cc nL ret d Q (pc + 3) ls (st) h) : BB G own cc nL ret d Q (pc) ls (.int x :: st) h :=
  b_if_ne tgt hd ht (fun h1 => absurd hc h1) (fun _ => kf)
theorem b_icmp_ne {x y : Int32} {off : Int} (tgt : Nat) (hd : decode cc pc = .ok (.if_icmp .ne off, 3)) (ht : (pc : Int) + off = (tgt : Int)) (kt : ¬ x = y → BB G own cc nL ret d Q (tgt) ls (st) h) (kf : x = y → BB G own cc nL ret d Q (pc + 3) ls (st) h) : BB G own cc nL ret d Q (pc) ls (.int y :: .int x :: st) h :=
  fun p e R s m args below meth c cells slots E H locs lsA hH hS hl => lv_icmp_ne E.1 E.2.1 hd ht (fun h1 => kt h1 p e R s m args below meth c cells slots E H locs lsA hH hS hl) (fun h1 => kf h1 p e R s m args below meth c cells slots E H locs lsA hH hS hl)
theorem b_icmp_ne_t {x y : Int32} {off : Int} (tgt : Nat) (hd : decode cc pc = .ok (.if_icmp .ne off, 3)) (ht : (pc : Int) + off = (tgt : Int)) (hc : ¬ x = y) (kt : BB G own cc nL ret d Q (tgt) ls (st) h) : BB G own cc nL ret d Q (pc) ls (.int y :: .int x :: st) h :=
  b_icmp_ne tgt hd ht (fun _ => kt) (fun h1 => absurd hc (fun z => z h1))
theorem b_icmp_ne_f {x y : Int32} {off : Int} (tgt : Nat) (hd : decode cc pc = .ok (.if_icmp .ne off, 3)) (ht : (pc : Int) + off = (tgt : Int)) (hc : x = y) (kf : BB G own cc nL ret d Q (pc + 3) ls (st) h) : BB G own cc nL ret d Q (pc) ls (.int y :: .int x :: st) h :=
  b_icmp_ne tgt hd ht (fun h1 => absurd hc h1) (fun _ => kf)
theorem b_if_lt {x : Int32} {off : Int} (tgt : Nat) (hd : decode cc pc = .ok (.ifCond .lt off, 3)) (ht : (pc : Int) + off = (tgt : Int)) (kt : x < 0 → BB G own cc nL ret d Q (tgt) ls (st) h) (kf : ¬ x < 0 → BB G own cc nL ret d Q (pc + 3) ls (st) h) : BB G own cc nL ret d Q (pc) ls (.int x :: st) h :=
  fun p e R s m args below meth c cells slots E H locs lsA hH hS hl => lv_if_lt E.1 E.2.1 hd ht (fun h1 => kt h1 p e R s m args below meth c cells slots E H locs lsA hH hS hl) (fun h1 => kf h1 p e R s m args below meth c cells slots E H locs lsA hH hS hl)
theorem b_if_lt_t {x : Int32} {off : Int} (tgt : Nat) (hd : decode cc pc = .ok (.ifCond .lt off, 3)) (ht : (pc : Int) + off = (tgt : Int)) (hc : x < 0) (kt : BB G own cc nL ret d Q (tgt) ls (st) h) : BB G own cc nL ret d Q (pc) ls (.int x :: st) h :=
  b_if_lt tgt hd ht (fun _ => kt) (fun h1 => absurd hc (h1))
theorem b_if_lt_f {x : Int32} {off : Int} (tgt : Nat) (hd : decode cc pc = .ok (.ifCond .lt off, 3)) (ht : (pc : Int) + off = (tgt : Int)) (hc : ¬ x < 0) (kf : BB G own cc nL ret d Q (pc + 3) ls (st) h) : BB G own cc nL ret d Q (pc) ls (.int x :: st) h :=
  b_if_lt tgt hd ht (fun h1 => absurd h1 hc) (fun _ => kf)
theorem b_icmp_lt {x y : Int32} {off : Int} (tgt : Nat) (hd : decode cc pc = .ok (.if_icmp .lt off, 3)) (ht : (pc : Int) + off = (tgt : Int)) (kt : x < y → BB G own cc nL ret d Q (tgt) ls (st) h) (kf : ¬ x < y → BB G own cc nL ret d Q (pc + 3) ls (st) h) : BB G own cc nL ret d Q (pc) ls (.int y :: .int x :: st) h :=
  fun p e R s m args below meth c cells slots E H locs lsA hH hS hl => lv_icmp_lt E.1 E.2.1 hd ht (fun h1 => kt h1 p e R s m args below meth c cells slots E H locs lsA hH hS hl) (fun h1 => kf h1 p e R s m args below meth c cells slots E H locs lsA hH hS hl)
theorem b_icmp_lt_t {x y : Int32} {off : Int} (tgt : Nat) (hd : decode cc pc = .ok (.if_icmp .lt off, 3)) (ht : (pc : Int) + off = (tgt : Int)) (hc : x < y) (kt : BB G own cc nL ret d Q (tgt) ls (st) h) : BB G own cc nL ret d Q (pc) ls (.int y :: .int x :: st) h :=
  b_icmp_lt tgt hd ht (fun _ => kt) (fun h1 => absurd hc (h1))
theorem b_icmp_lt_f {x y : Int32} {off : Int} (tgt : Nat) (hd : decode cc pc = .ok (.if_icmp .lt off, 3)) (ht : (pc : Int) + off = (tgt : Int)) (hc : ¬ x < y) (kf : BB G own cc nL ret d Q (pc + 3) ls (st) h) : BB G own cc nL ret d Q (pc) ls (.int y :: .int x :: st) h :=
  b_icmp_lt tgt hd ht (fun h1 => absurd h1 hc) (fun _ => kf)
theorem b_if_ge {x : Int32} {off : Int} (tgt : Nat) (hd : decode cc pc = .ok (.ifCond .ge off, 3)) (ht : (pc : Int) + off = (tgt : Int)) (kt : 0 ≤ x → BB G own cc nL ret d Q (tgt) ls (st) h) (kf : ¬ 0 ≤ x → BB G own cc nL ret d Q (pc + 3) ls (st) h) : BB G own cc nL ret d Q (pc) ls (.int x :: st) h :=
  fun p e R s m args below meth c cells slots E H locs lsA hH hS hl => lv_if_ge E.1 E.2.1 hd ht (fun h1 => kt h1 p e R s m args below meth c cells slots E H locs lsA hH hS hl) (fun h1 => kf h1 p e R s m args below meth c cells slots E H locs lsA hH hS hl)
theorem b_if_ge_t {x : Int32} {off : Int} (tgt : Nat) (hd : decode cc pc = .ok (.ifCond .ge off, 3)) (ht : (pc : Int) + off = (tgt : Int)) (hc : 0 ≤ x) (kt : BB G own cc nL ret d Q (tgt) ls (st) h) : BB G own cc nL ret d Q (pc) ls (.int x :: st) h :=
  b_if_ge tgt hd ht (fun _ => kt) (fun h1 => absurd hc (h1))
theorem b_if_ge_f {x : Int32} {off : Int} (tgt : Nat) (hd : decode cc pc = .ok (.ifCond .ge off, 3)) (ht : (pc : Int) + off = (tgt : Int)) (hc : ¬ 0 ≤ x) (kf : BB G own cc nL ret d Q (pc + 3) ls (st) h) : BB G own cc nL ret d Q (pc) ls (.int x :: st) h :=
  b_if_ge tgt hd ht (fun h1 => absurd h1 hc) (fun _ => kf)
theorem b_icmp_ge {x y : Int32} {off : Int} (tgt : Nat) (hd : decode cc pc = .ok (.if_icmp .ge off, 3)) (ht : (pc : Int) + off = (tgt : Int)) (kt : y ≤ x → BB G own cc nL ret d Q (tgt) ls (st) h) (kf : ¬ y ≤ x → BB G own cc nL ret d Q (pc + 3) ls (st) h) : BB G own cc nL ret d Q (pc) ls (.int y :: .int x :: st) h :=
  fun p e R s m args below meth c cells slots E H locs lsA hH hS hl => lv_icmp_ge E.1 E.2.1 hd ht (fun h1 => kt h1 p e R s m args below meth c cells slots E H locs lsA hH hS hl) (fun h1 => kf h1 p e R s m args below meth c cells slots E H locs lsA hH hS hl)
theorem b_icmp_ge_t {x y : Int32} {off : Int} (tgt : Nat) (hd : decode cc pc = .ok (.if_icmp .ge off, 3)) (ht : (pc : Int) + off = (tgt : Int)) (hc : y ≤ x) (kt : BB G own cc nL ret d Q (tgt) ls (st) h) : BB G own cc nL ret d Q (pc) ls (.int y :: .int x :: st) h :=
  b_icmp_ge tgt hd ht (fun _ => kt) (fun h1 => absurd hc (h1))
theorem b_icmp_ge_f {x y : Int32} {off : Int} (tgt : Nat) (hd : decode cc pc = .ok (.if_icmp .ge off, 3)) (ht : (pc : Int) + off = (tgt : Int)) (hc : ¬ y ≤ x) (kf : BB G own cc nL ret d Q (pc + 3) ls (st) h) : BB G own cc nL ret d Q (pc) ls (.int y :: .int x :: st) h :=
  b_icmp_ge tgt hd ht (fun h1 => absurd h1 hc) (fun _ => kf)
theorem b_if_gt {x : Int32} {off : Int} (tgt : Nat) (hd : decode cc pc = .ok (.ifCond .gt off, 3)) (ht : (pc : Int) + off = (tgt : Int)) (kt : 0 < x → BB G own cc nL ret d Q (tgt) ls (st) h) (kf : ¬ 0 < x → BB G own cc nL ret d Q (pc + 3) ls (st) h) : BB G own cc nL ret d Q (pc) ls (.int x :: st) h :=
  fun p e R s m args below meth c cells slots E H locs lsA hH hS hl => lv_if_gt E.1 E.2.1 hd ht (fun h1 => kt h1 p e R s m args below meth c cells slots E H locs lsA hH hS hl) (fun h1 => kf h1 p e R s m args below meth c cells slots E H locs lsA hH hS hl)
theorem b_if_gt_t {x : Int32} {off : Int} (tgt : Nat) (hd : decode cc pc = .ok (.ifCond .gt off, 3)) (ht : (pc : Int) + off = (tgt : Int)) (hc : 0 < x) (kt : BB G own cc nL ret d Q (tgt) ls (st) h) : BB G own cc nL ret d Q (pc) ls (.int x :: st) h :=
  b_if_gt tgt hd ht (fun _ => kt) (fun h1 => absurd hc (h1))
theorem b_if_gt_f {x : Int32} {off : Int} (tgt : Nat) (hd : decode cc pc = .ok (.ifCond .gt off, 3)) (ht : (pc : Int) + off = (tgt : Int)) (hc : ¬ 0 < x) (kf : BB G own cc nL ret d Q (pc + 3) ls (st) h) : BB G own cc nL ret d Q (pc) ls (.int x :: st) h :=
  b_if_gt tgt hd ht (fun h1 => absurd h1 hc) (fun _ => kf)
theorem b_icmp_gt {x y : Int32} {off : Int} (tgt : Nat) (hd : decode cc pc = .ok (.if_icmp .gt off, 3)) (ht : (pc : Int) + off = (tgt : Int)) (kt : y < x → BB G own cc nL ret d Q (tgt) ls (st) h) (kf : ¬ y < x → BB G own cc nL ret d Q (pc + 3) ls (st) h) : BB G own cc nL ret d Q (pc) ls (.int y :: .int x :: st) h :=
  fun p e R s m args below meth c cells slots E H locs lsA hH hS hl => lv_icmp_gt E.1 E.2.1 hd ht (fun h1 => kt h1 p e R s m args below meth c cells slots E H locs lsA hH hS hl) (fun h1 => kf h1 p e R s m args below meth c cells slots E H locs lsA hH hS hl)
theorem b_icmp_gt_t {x y : Int32} {off : Int} (tgt : Nat) (hd : decode cc pc = .ok (.if_icmp .gt off, 3)) (ht : (pc : Int) + off = (tgt : Int)) (hc : y < x) (kt : BB G own cc nL ret d Q (tgt) ls (st) h) : BB G own cc nL ret d Q (pc) ls (.int y :: .int x :: st) h :=
  b_icmp_gt tgt hd ht (fun _ => kt) (fun h1 => absurd hc (h1))
theorem b_icmp_gt_f {x y : Int32} {off : Int} (tgt : Nat) (hd : decode cc pc = .ok (.if_icmp .gt off, 3)) (ht : (pc : Int) + off = (tgt : Int)) (hc : ¬ y < x) (kf : BB G own cc nL ret d Q (pc + 3) ls (st) h) : BB G own cc nL ret d Q (pc) ls (.int y :: .int x :: st) h :=
  b_icmp_gt tgt hd ht (fun h1 => absurd h1 hc) (fun _ => kf)
theorem b_if_le {x : Int32} {off : Int} (tgt : Nat) (hd : decode cc pc = .ok (.ifCond .le off, 3)) (ht : (pc : Int) + off = (tgt : Int)) (kt : x ≤ 0 → BB G own cc nL ret d Q (tgt) ls (st) h) (kf : ¬ x ≤ 0 → BB G own cc nL ret d Q (pc + 3) ls (st) h) : BB G own cc nL ret d Q (pc) ls (.int x :: st) h :=
  fun p e R s m args below meth c cells slots E H locs lsA hH hS hl => lv_if_le E.1 E.2.1 hd ht (fun h1 => kt h1 p e R s m args below meth c cells slots E H locs lsA hH hS hl) (fun h1 => kf h1 p e R s m args below meth c cells slots E H locs lsA hH hS hl)
theorem b_if_le_t {x : Int32} {off : Int} (tgt : Nat) (hd : decode cc pc = .ok (.ifCond .le off, 3)) (ht : (pc : Int) + off = (tgt : Int)) (hc : x ≤ 0) (kt : BB G own cc nL ret d Q (tgt) ls (st) h) : BB G own cc nL ret d Q (pc) ls (.int x :: st) h :=
  b_if_le tgt hd ht (fun _ => kt) (fun h1 => absurd hc (h1))
theorem b_if_le_f {x : Int32} {off : Int} (tgt : Nat) (hd : decode cc pc = .ok (.ifCond .le off, 3)) (ht : (pc : Int) + off = (tgt : Int)) (hc : ¬ x ≤ 0) (kf : BB G own cc nL ret d Q (pc + 3) ls (st) h) : BB G own cc nL ret d Q (pc) ls (.int x :: st) h :=
  b_if_le tgt hd ht (fun h1 => absurd h1 hc) (fun _ => kf)
theorem b_icmp_le {x y : Int32} {off : Int} (tgt : Nat) (hd : decode cc pc = .ok (.if_icmp .le off, 3)) (ht : (pc : Int) + off = (tgt : Int)) (kt : x ≤ y → BB G own cc nL ret d Q (tgt) ls (st) h) (kf : ¬ x ≤ y → BB G own cc nL ret d Q (pc + 3) ls (st) h) : BB G own cc nL ret d Q (pc) ls (.int y :: .int x :: st) h :=
  fun p e R s m args below meth c cells slots E H locs lsA hH hS hl => lv_icmp_le E.1 E.2.1 hd ht (fun h1 => kt h1 p e R s m args below meth c cells slots E H locs lsA hH hS hl) (fun h1 => kf h1 p e R s m args below meth c cells slots E H locs lsA hH hS hl)
theorem b_icmp_le_t {x y : Int32} {off : Int} (tgt : Nat) (hd : decode cc pc = .ok (.if_icmp .le off, 3)) (ht : (pc : Int) + off = (tgt : Int)) (hc : x ≤ y) (kt : BB G own cc nL ret d Q (tgt) ls (st) h) : BB G own cc nL ret d Q (pc) ls (.int y :: .int x :: st) h :=
  b_icmp_le tgt hd ht (fun _ => kt) (fun h1 => absurd hc (h1))
theorem b_icmp_le_f {x y : Int32} {off : Int} (tgt : Nat) (hd : decode cc pc = .ok (.if_icmp .le off, 3)) (ht : (pc : Int) + off = (tgt : Int)) (hc : ¬ x ≤ y) (kf : BB G own cc nL ret d Q (pc + 3) ls (st) h) : BB G own cc nL ret d Q (pc) ls (.int y :: .int x :: st) h :=
  b_icmp_le tgt hd ht (fun h1 => absurd h1 hc) (fun _ => kf)
theorem b_goto {off : Int} (tgt : Nat) (hd : decode cc pc = .ok (.goto off, 3)) (ht : (pc : Int) + off = (tgt : Int)) (k : BB G own cc nL ret d Q (tgt) ls (st) h) : BB G own cc nL ret d Q (pc) ls (st) h :=
  fun p e R s m args below meth c cells slots E H locs lsA hH hS hl => lv_goto E.1 E.2.1 hd ht (k p e R s m args below meth c cells slots E H locs lsA hH hS hl)
theorem b_tableIn {dflt lo hi : Int} {offs : Array Int} {len : Nat} {x : Int32} {off : Int} (tgt : Nat) (hd : decode cc pc = .ok (.tableswitch dflt lo hi offs, len)) (h1 : ¬ x.toInt < lo) (h2 : ¬ hi < x.toInt) (ho : offs[(x.toInt - lo).toNat]? = some off) (ht : (pc : Int) + off = (tgt : Int)) (k : BB G own cc nL ret d Q (tgt) ls (st) h) : BB G own cc nL ret d Q (pc) ls (.int x :: st) h :=
  fun p e R s m args below meth c cells slots E H locs lsA hH hS hl => lv_tableIn E.1 E.2.1 hd h1 h2 ho ht (k p e R s m args below meth c cells slots E H locs lsA hH hS hl)
theorem b_tableOut {dflt lo hi : Int} {offs : Array Int} {len : Nat} {x : Int32} (tgt : Nat) (hd : decode cc pc = .ok (.tableswitch dflt lo hi offs, len)) (h1 : x.toInt < lo ∨ hi < x.toInt) (ht : (pc : Int) + dflt = (tgt : Int)) (k : BB G own cc nL ret d Q (tgt) ls (st) h) : BB G own cc nL ret d Q (pc) ls (.int x :: st) h :=
  fun p e R s m args below meth c cells slots E H locs lsA hH hS hl => lv_tableOut E.1 E.2.1 hd h1 ht (k p e R s m args below meth c cells slots E H locs lsA hH hS hl)
theorem b_lookup {dflt : Int} {ps : Array (Int × Int)} {len : Nat} {x : Int32} {off : Int} (tgt : Nat) (hd : decode cc pc = .ok (.lookupswitch dflt ps, len)) (hp : (ps.toList.zip (ps.toList.drop 1)).all (fun (a, next) => a.1 < next.1) = true) (ho : Op.lookupswitch.offset ps.toList dflt x.toInt = off) (ht : (pc : Int) + off = (tgt : Int)) (k : BB G own cc nL ret d Q (tgt) ls (st) h) : BB G own cc nL ret d Q (pc) ls (.int x :: st) h :=
  fun p e R s m args below meth c cells slots E H locs lsA hH hS hl => lv_lookup E.1 E.2.1 hd hp ho ht (k p e R s m args below meth c cells slots E H locs lsA hH hS hl)
theorem b_ldc {i : Nat} {v : Int32} (hd : decode cc pc = .ok (.ldc i, 2)) (hw : Cond.constant own i v ∈ TB) (k : BB G own cc nL ret d Q (pc + 2) ls (.int v :: st) h) : BB G own cc nL ret d Q (pc) ls (st) h :=
  fun p e R s m args below meth c cells slots E H locs lsA hH hS hl => lv_ldc E.1 E.2.1 E.2.2.2.2.2.1 (E.2.2.2.2.2.2.1 _ hw) hd (k p e R s m args below meth c cells slots E H locs lsA hH hS hl)
theorem b_ldc2 {i : Nat} {v : Int64} (hd : decode cc pc = .ok (.ldc2_w i, 3)) (hw : Cond.constantLong own i v ∈ TB) (k : BB G own cc nL ret d Q (pc + 3) ls (.long v :: st) h) : BB G own cc nL ret d Q (pc) ls (st) h :=
  fun p e R s m args below meth c cells slots E H locs lsA hH hS hl => W.ldc2 E.1 E.2.1 E.2.2.2.2.2.1 (E.2.2.2.2.2.2.1 _ hw) (g := F0 m pc lsA st) rfl hd (k p e R s m args below meth c cells slots E H locs lsA hH hS hl)
theorem b_ldcS {i q : Nat} {tx : String} (hd : decode cc pc = .ok (.ldc i, 2)) (hq : strs[q]? = some (own, i, tx)) (k : BB G own cc nL ret d Q (pc + 2) ls (.ref (G.adK q) :: st) h) : BB G own cc nL ret d Q (pc) ls (st) h :=
  fun p e R s m args below meth c cells slots E H locs lsA hH hS hl => va_ldcS E.1 E.2.1 E.2.2.2.2.2.1 (E.2.2.2.2.2.2.2.1.2.2.2.2.2.2.1 q _ hq) hd (k p e R s m args below meth c cells slots E H locs lsA hH hS hl)
theorem b_iret {Post : Option Value → HT → Prop} {x : Int32} (hd : decode cc pc = .ok (.ireturn, 1)) (hp : Post (some (.int x)) h) : BB G own cc nL (some .int) d (QM G Post) pc ls [.int x] h :=
  fun p e R s m args below meth c cells slots E H locs lsA hH hS hl => W.iret E.1 E.2.1 E.2.2.2.1 (fun t ht hW => ⟨⟨_, _, rfl, hp, by rw [ht]; exact hH⟩, hS.F ht⟩) hS.2.2 hd (hlocks := E.2.2.2.2.1)
theorem b_lret {Post : Option Value → HT → Prop} {x : Int64} (hd : decode cc pc = .ok (.lreturn, 1)) (hp : Post (some (.long x)) h) : BB G own cc nL (some .long) d (QM G Post) pc ls [.long x] h :=
  fun p e R s m args below meth c cells slots E H locs lsA hH hS hl => W.lret E.1 E.2.1 E.2.2.2.1 (fun t ht hW => ⟨⟨_, _, rfl, hp, by rw [ht]; exact hH⟩, hS.F ht⟩) hS.2.2 hd (hlocks := E.2.2.2.2.1)
theorem b_zret {Post : Option Value → HT → Prop} {ty : FieldType} {x : Int32} (hd : decode cc pc = .ok (.ireturn, 1)) (hn : narrow ty (.int x) = .int x) (hp : Post (some (.int x)) h) : BB G own cc nL (some ty) d (QM G Post) pc ls [.int x] h :=
  fun p e R s m args below meth c cells slots E H locs lsA hH hS hl => W.zret E.1 E.2.1 E.2.2.2.1 hn (fun t ht hW => ⟨⟨_, _, rfl, hp, by rw [ht]; exact hH⟩, hS.F ht⟩) hS.2.2 hd (hlocks := E.2.2.2.2.1)
theorem b_vret {Post : Option Value → HT → Prop} (hd : decode cc pc = .ok (.return_, 1)) (hp : Post none h) : BB G own cc nL none d (QM G Post) pc ls [] h :=
  fun p e R s m args below meth c cells slots E H locs lsA hH hS hl => W.vret E.1 E.2.1 E.2.2.2.1 (fun t ht hW => ⟨⟨_, _, rfl, hp, by rw [ht]; exact hH⟩, hS.F ht⟩) hS.2.2 hd (hlocks := E.2.2.2.2.1)
/-- a field that a class's code names: number j of class number ci -/
def GF (own : String) (idx ci j : Nat) : Prop := ∃ (C : String) (T : u_T) (N : Nat), vwCl[ci]? = some (C, T, N) ∧ j < N ∧ (∀ w ∈ u_ws C T N, w ∈ TB) ∧ Cond.fieldLink own idx (T j).1 (T j).2.1 (T j).2.2.1 ∈ TB
def GFw (own : String) (idx ci j : Nat) : Prop := ∃ (C : String) (T : u_T) (N : Nat) (ty0 : Nat → FieldType), vwCl[ci]? = some (C, T, N) ∧ j < N ∧ (∀ w ∈ u_ws C T N, w ∈ TB) ∧ Cond.fieldLink own idx (T j).1 (T j).2.1 (T j).2.2.1 ∈ TB ∧ (∀ k, k < N → parseFieldDescriptor (T k).2.2.1 = some (ty0 k)) ∧ (∀ a, a < N → ∀ b, b < N → a ≠ b → (T a).2.1 ≠ (T b).2.1) ∧ (T j).2.2.2 = false ∧ (ty0 j = .int ∨ ty0 j = .boolean)
theorem b_getf {idx ci j a : Nat} {fs : List Value} {v : Value} (hd : decode cc pc = .ok (.getfield idx, 3)) (hg : GF own idx ci j) (ha : a < G.nC) (he : h a = .inr (ci, fs)) (hv : fs[j]? = some v) (k : BB G own cc nL ret d Q (pc + 3) ls (v :: st) h) : BB G own cc nL ret d Q (pc) ls (.ref (G.b0 + a) :: st) h := by
  obtain ⟨C, T, N, hc, hj, hin, hlk⟩ := hg
  exact fun p e R s m args below meth c cells slots E H locs lsA hH hS hl => va_get E.1 E.2.1 E.2.2.2.2.2.2.1 hin E.2.2.2.2.2.1 E.2.2.2.2.2.2.2.1.1 hH.2.2 a (by rw [wl_at ha, he]) hc j hj (E.2.2.2.2.2.2.1 _ hlk) (fun _ h9 => h9) hv hd (k p e R s m args below meth c cells slots E H locs lsA hH hS hl)
theorem b_putf {idx ci j a : Nat} {fs : List Value} {x : Int32} (hd : decode cc pc = .ok (.putfield idx, 3)) (hg : GFw own idx ci j) (ha : a < G.nC) (he : h a = .inr (ci, fs)) (hl : j < fs.length) (hx : x = 0 ∨ x = 1 ∨ ∃ C T N, vwCl[ci]? = some (C, T, N) ∧ parseFieldDescriptor (T j).2.2.1 = some .int) (k : BB G own cc nL ret d Q (pc + 3) ls (st) (va_up h a (.inr (ci, fs.set j (.int x))))) : BB G own cc nL ret d Q (pc) ls (.int x :: .ref (G.b0 + a) :: st) h := by
  obtain ⟨C, T, N, ty0, hc, hj, hin, hlk, hty, hnm, hfin, hint⟩ := hg
  have hd2 : parseFieldDescriptor (T j).2.2.1 = some (ty0 j) := hty j hj
  have hnf : narrow (ty0 j) (.int x) = .int x ∧ fits (ty0 j) (.int x) = true := by
    rcases hint with e | e
    · rw [e]; exact ⟨rfl, rfl⟩
    · rw [e]
      rcases hx with rfl | rfl | ⟨C', T', N', hc', hp'⟩
      · exact ⟨by decide, by decide⟩
      · exact ⟨by decide, by decide⟩
      · cases hc.symm.trans hc'
        rw [hd2, e] at hp'
        cases hp'
  exact fun p e R s m args below meth c cells slots E H locs lsA hH hS hl' => va_put (H0 := s.heap) E.1 E.2.1 E.2.2.2.2.2.2.1 hin ty0 hty hnm E.2.2.2.2.2.1 E.2.2.2.2.2.2.2.1.1 hH.2.2 wl_D hS a (by rw [wl_at ha, he]) hc j hj (E.2.2.2.2.2.2.1 _ hlk) (fun _ h9 => h9) hfin hd2 hnf.1 hnf.2 hl hd (fun H1 locs1 hP1 hD1 hS1 => k p e R s m args below meth c cells slots E H1 locs1 lsA (mkHP E.2.2.2.2.2.2.2.2.1 hS1 (by rw [wl_set ha] at hP1; exact hP1)) hS1 hl')
theorem b_iald {a n j : Nat} {f : Nat → Int32} {i : Int32} (hd : decode cc pc = .ok (.iaload, 1)) (ha : a < G.nC) (he : h a = .inl (G.ci 0, n, .inl f)) (hi : i = nI j) (hj : j < n) (hn : n < 2 ^ 31) (k : BB G own cc nL ret d Q (pc + 1) ls (.int (f j) :: st) h) : BB G own cc nL ret d Q (pc) ls (.int i :: .ref (G.b0 + a) :: st) h := by
  subst hi
  have hin : vp_in (nI j) n := vp_in_nI hj hn
  have k' : BB G own cc nL ret d Q (pc + 1) ls (.int (f (nI j).toNatClampNeg) :: st) h := by rw [nI_clamp (Nat.lt_trans hj hn)]; exact k
  exact fun p e R s m args below meth c cells slots E H locs lsA hH hS hl => va_iald E.1 E.2.1 E.2.2.2.2.2.2.2.1.1 hH.2.2 a 0 (by rw [wl_at ha, he]) rfl hin hd (k' p e R s m args below meth c cells slots E H locs lsA hH hS hl)
theorem b_bald {a n j : Nat} {f : Nat → Int32} {i : Int32} (hd : decode cc pc = .ok (.baload, 1)) (ha : a < G.nC) (he : h a = .inl (G.ci 1, n, .inl f)) (hi : i = nI j) (hj : j < n) (hn : n < 2 ^ 31) (k : BB G own cc nL ret d Q (pc + 1) ls (.int (f j) :: st) h) : BB G own cc nL ret d Q (pc) ls (.int i :: .ref (G.b0 + a) :: st) h := by
  subst hi
  have hin : vp_in (nI j) n := vp_in_nI hj hn
  have k' : BB G own cc nL ret d Q (pc + 1) ls (.int (f (nI j).toNatClampNeg) :: st) h := by rw [nI_clamp (Nat.lt_trans hj hn)]; exact k
  exact fun p e R s m args below meth c cells slots E H locs lsA hH hS hl => va_bald E.1 E.2.1 E.2.2.2.2.2.2.2.1.1 hH.2.2 a 1 (by rw [wl_at ha, he]) rfl hin hd (k' p e R s m args below meth c cells slots E H locs lsA hH hS hl)
theorem b_zald {a n j : Nat} {f : Nat → Int32} {i : Int32} (hd : decode cc pc = .ok (.baload, 1)) (ha : a < G.nC) (he : h a = .inl (G.ci 3, n, .inl f)) (hi : i = nI j) (hj : j < n) (hn : n < 2 ^ 31) (k : BB G own cc nL ret d Q (pc + 1) ls (.int (f j) :: st) h) : BB G own cc nL ret d Q (pc) ls (.int i :: .ref (G.b0 + a) :: st) h := by
  subst hi
  have hin : vp_in (nI j) n := vp_in_nI hj hn
  have k' : BB G own cc nL ret d Q (pc + 1) ls (.int (f (nI j).toNatClampNeg) :: st) h := by rw [nI_clamp (Nat.lt_trans hj hn)]; exact k
  exact fun p e R s m args below meth c cells slots E H locs lsA hH hS hl => va_zald E.1 E.2.1 E.2.2.2.2.2.2.2.1.1 hH.2.2 a 3 (by rw [wl_at ha, he]) rfl hin hd (k' p e R s m args below meth c cells slots E H locs lsA hH hS hl)
theorem b_lald {a n j : Nat} {f : Nat → Int64} {i : Int32} (hd : decode cc pc = .ok (.laload, 1)) (ha : a < G.nC) (he : h a = .inl (G.ci 2, n, .inr (.inl f))) (hi : i = nI j) (hj : j < n) (hn : n < 2 ^ 31) (k : BB G own cc nL ret d Q (pc + 1) ls (.long (f j) :: st) h) : BB G own cc nL ret d Q (pc) ls (.int i :: .ref (G.b0 + a) :: st) h := by
  subst hi
  have hin : vp_in (nI j) n := vp_in_nI hj hn
  have k' : BB G own cc nL ret d Q (pc + 1) ls (.long (f (nI j).toNatClampNeg) :: st) h := by rw [nI_clamp (Nat.lt_trans hj hn)]; exact k
  exact fun p e R s m args below meth c cells slots E H locs lsA hH hS hl => va_lald E.1 E.2.1 E.2.2.2.2.2.2.2.1.1 hH.2.2 a 2 (by rw [wl_at ha, he]) rfl hin hd (k' p e R s m args below meth c cells slots E H locs lsA hH hS hl)
theorem b_iast {a n j : Nat} {f : Nat → Int32} {i : Int32} {x : Int32} (hd : decode cc pc = .ok (.iastore, 1)) (ha : a < G.nC) (he : h a = .inl (G.ci 0, n, .inl f)) (hi : i = nI j) (hj : j < n) (hn : n < 2 ^ 31) (k : BB G own cc nL ret d Q (pc + 1) ls (st) (va_up h a (.inl (G.ci 0, n, .inl (upd f j x))))) : BB G own cc nL ret d Q (pc) ls (.int x :: .int i :: .ref (G.b0 + a) :: st) h := by
  subst hi
  have hin : vp_in (nI j) n := vp_in_nI hj hn
  have hcl : (nI j).toNatClampNeg = j := nI_clamp (Nat.lt_trans hj hn)
  exact fun p e R s m args below meth c cells slots E H locs lsA hH hS hl => va_iast (H0 := s.heap) E.1 E.2.1 E.2.2.2.2.2.2.2.1.1 hH.2.2 wl_D hS a 0 (by rw [wl_at ha, he]) rfl hin hd (fun H1 locs1 hP1 hD1 hS1 => k p e R s m args below meth c cells slots E H1 locs1 lsA (mkHP E.2.2.2.2.2.2.2.2.1 hS1 (by rw [wl_set ha, hcl] at hP1; exact hP1)) hS1 hl)
theorem b_last {a n j : Nat} {f : Nat → Int64} {i : Int32} {x : Int64} (hd : decode cc pc = .ok (.lastore, 1)) (ha : a < G.nC) (he : h a = .inl (G.ci 2, n, .inr (.inl f))) (hi : i = nI j) (hj : j < n) (hn : n < 2 ^ 31) (k : BB G own cc nL ret d Q (pc + 1) ls (st) (va_up h a (.inl (G.ci 2, n, .inr (.inl (vp_updL f j x)))))) : BB G own cc nL ret d Q (pc) ls (.long x :: .int i :: .ref (G.b0 + a) :: st) h := by
  subst hi
  have hin : vp_in (nI j) n := vp_in_nI hj hn
  have hcl : (nI j).toNatClampNeg = j := nI_clamp (Nat.lt_trans hj hn)
  exact fun p e R s m args below meth c cells slots E H locs lsA hH hS hl => va_last (H0 := s.heap) E.1 E.2.1 E.2.2.2.2.2.2.2.1.1 hH.2.2 wl_D hS a 2 (by rw [wl_at ha, he]) rfl hin hd (fun H1 locs1 hP1 hD1 hS1 => k p e R s m args below meth c cells slots E H1 locs1 lsA (mkHP E.2.2.2.2.2.2.2.2.1 hS1 (by rw [wl_set ha, hcl] at hP1; exact hP1)) hS1 hl)
theorem b_bast {a n j : Nat} {f : Nat → Int32} {i : Int32} {x : Int32} (hd : decode cc pc = .ok (.bastore, 1)) (ha : a < G.nC) (he : h a = .inl (G.ci 1, n, .inl f)) (hi : i = nI j) (hj : j < n) (hn : n < 2 ^ 31) (k : BB G own cc nL ret d Q (pc + 1) ls (st) (va_up h a (.inl (G.ci 1, n, .inl (upd f j (vp_nar .byte x)))))) : BB G own cc nL ret d Q (pc) ls (.int x :: .int i :: .ref (G.b0 + a) :: st) h := by
  subst hi
  have hin : vp_in (nI j) n := vp_in_nI hj hn
  have hcl : (nI j).toNatClampNeg = j := nI_clamp (Nat.lt_trans hj hn)
  exact fun p e R s m args below meth c cells slots E H locs lsA hH hS hl => va_bast (H0 := s.heap) E.1 E.2.1 E.2.2.2.2.2.2.2.1.1 hH.2.2 wl_D hS a 1 (by rw [wl_at ha, he]) rfl hin hd (fun H1 locs1 hP1 hD1 hS1 => k p e R s m args below meth c cells slots E H1 locs1 lsA (mkHP E.2.2.2.2.2.2.2.2.1 hS1 (by rw [wl_set ha, hcl] at hP1; exact hP1)) hS1 hl)
theorem b_zast {a n j : Nat} {f : Nat → Int32} {i : Int32} {x : Int32} (hd : decode cc pc = .ok (.bastore, 1)) (ha : a < G.nC) (he : h a = .inl (G.ci 3, n, .inl f)) (hi : i = nI j) (hj : j < n) (hn : n < 2 ^ 31) (k : BB G own cc nL ret d Q (pc + 1) ls (st) (va_up h a (.inl (G.ci 3, n, .inl (upd f j (vp_nar .boolean x)))))) : BB G own cc nL ret d Q (pc) ls (.int x :: .int i :: .ref (G.b0 + a) :: st) h := by
  subst hi
  have hin : vp_in (nI j) n := vp_in_nI hj hn
  have hcl : (nI j).toNatClampNeg = j := nI_clamp (Nat.lt_trans hj hn)
  exact fun p e R s m args below meth c cells slots E H locs lsA hH hS hl => va_zast (H0 := s.heap) E.1 E.2.1 E.2.2.2.2.2.2.2.1.1 hH.2.2 wl_D hS a 3 (by rw [wl_at ha, he]) rfl hin hd (fun H1 locs1 hP1 hD1 hS1 => k p e R s m args below meth c cells slots E H1 locs1 lsA (mkHP E.2.2.2.2.2.2.2.2.1 hS1 (by rw [wl_set ha, hcl] at hP1; exact hP1)) hS1 hl)
theorem b_aald {a n j b t0 : Nat} {C : String} {f : Nat → Option Nat} {i : Int32} (hd : decode cc pc = .ok (.aaload, 1)) (ha : a < G.nC) (he : h a = .inl (G.ci t0, n, .inr (.inr (.inr (.inr f))))) (ht : (tysG G)[t0]? = some (G.ci t0, .object C)) (hi : i = nI j) (hj : j < n) (hn : n < 2 ^ 31) (hf : f j = some b) (k : BB G own cc nL ret d Q (pc + 1) ls (.ref b :: st) h) : BB G own cc nL ret d Q (pc) ls (.int i :: .ref (G.b0 + a) :: st) h := by
  subst hi
  have hin : vp_in (nI j) n := vp_in_nI hj hn
  have k' : BB G own cc nL ret d Q (pc + 1) ls (va_rf (f (nI j).toNatClampNeg) :: st) h := by rw [nI_clamp (Nat.lt_trans hj hn), hf]; exact k
  exact fun p e R s m args below meth c cells slots E H locs lsA hH hS hl => va_aldq E.1 E.2.1 E.2.2.2.2.2.2.2.1.1 hH.2.2 a t0 (by rw [wl_at ha, he]) ht hin hd (k' p e R s m args below meth c cells slots E H locs lsA hH hS hl)
theorem b_alen {a t0 : Nat} {x : vp_A} {ty : FieldType} (hd : decode cc pc = .ok (.arraylength, 1)) (ha : a < G.nC) (he : h a = .inl (G.ci t0, x)) (ht : (tysG G)[t0]? = some (G.ci t0, ty)) (k : BB G own cc nL ret d Q (pc + 1) ls (.int (nI x.1) :: st) h) : BB G own cc nL ret d Q (pc) ls (.ref (G.b0 + a) :: st) h :=
  fun p e R s m args below meth c cells slots E H locs lsA hH hS hl => va_alen E.1 E.2.1 E.2.2.2.2.2.2.2.1.1 hH.2.2 a t0 (by rw [wl_at ha, he]) ht rfl hd (k p e R s m args below meth c cells slots E H locs lsA hH hS hl)
end Rules
end
section
section Calls
variable {G : GT} {own : String} {cc : ByteArray} {nL : Nat} {ret : Option FieldType} {d : Nat} {Q : QT} {pc : Nat} {ls : LT} {st : List Value} {h : HT}
/-- what the tables say of a method of ours: of an instance, of a class -/
def MKv (M : MT) (n : Nat) : Prop := Cond.instanceMethod M.1 ∈ TB ∧ Cond.selects M.1.cls M.1 M.1 ∈ TB ∧ Cond.initialized M.1.cls ∈ TB ∧ Cond.code M.1 M.2.1 M.2.2.1 M.2.2.2 ∈ TB ∧ (M.1.cls ≠ "java/lang/invoke/MethodHandle" ∧ M.1.cls ≠ "java/lang/invoke/VarHandle") ∧ (parseMethodDescriptor M.1.desc).map (fun d => d.parameters.length) = some n ∧ M.2.2.1 ≤ 80
def MKs (M : MT) (n : Nat) : Prop := Cond.static M.1 ∈ TB ∧ Cond.initialized M.1.cls ∈ TB ∧ Cond.code M.1 M.2.1 M.2.2.1 M.2.2.2 ∈ TB ∧ (M.1.cls ≠ "java/lang/invoke/MethodHandle" ∧ M.1.cls ≠ "java/lang/invoke/VarHandle") ∧ (parseMethodDescriptor M.1.desc).map (fun d => d.parameters.length) = some n ∧ M.2.2.1 ≤ 80
theorem tb_pay {args : Array Value} {s : State} (hts : ∀ w ∈ TB, w.before args s = true) {M : MT} (hc : Cond.code M.1 M.2.1 M.2.2.1 M.2.2.2 ∈ TB) : ∀ w ∈ (Cond.code M.1 M.2.1 M.2.2.1 M.2.2.2 :: TB), ∀ (a' : Array Value) (U : State), s.WarmedH U.vm → w.before a' U = true := by
  intro w hw a' U hW
  have hm : w ∈ TB := by
    rcases List.mem_cons.mp hw with rfl | hw
    · exact hc
    · exact hw
  exact word_at hW (TB_good hm) (hts w hm)
theorem tb_len {y : MethodName} {n : Nat} (h2 : (parseMethodDescriptor y.desc).map (fun d => d.parameters.length) = some n) : ∀ sig, parseMethodDescriptor y.desc = some sig → n = sig.parameters.length := by
  intro sig h
  rw [h] at h2
  exact (Option.some.inj h2).symm
theorem fn_blind {G : GT} {av : List Value} {h : HT} : FrameBlind (va_Pc av (fun U => HP G h U.heap ∧ Kn G U)) := fun a U g mk q => ⟨q.1, q.2.1, Kn.same rfl q.2.2⟩
/-- behind a call -/
theorem bb_after {Post : Option Value → HT → Prop} {p : Program} {e : Env} {R : Room} {s : State} {m : MethodId} {args : Array Value} {below : List Frame} {meth : Method} {c : Code} {cells slots : Nat} {H : Heap} {locs : List Loc} {lsA : Array Slot} {st0 : List Value} {a : Array Value}
    (E : EnvOk G own cc nL ret d p R s m args meth c cells slots) (hS : va_S (GA G) s.heap H locs) (hl : LH lsA nL ls)
    (hr : va_Run p G.l e R s m args below meth c H locs cells slots 0 0 (F0 m pc lsA st0) st (QcOf G Post a) (GA G))
    (k : ∀ (r : Option Value) (h' : HT), Post r h' → BB G own cc nL ret d Q (pc + 3) ls (r.toList ++ st) h') : W p G.l e R s m args below meth c H locs cells slots (Q p e R s m args below meth c cells slots) (F0 m pc lsA st0) := by
  intro T hT X
  obtain ⟨v, st₀, t, T', L, h0, X', hL, e1, e2, ⟨⟨r, h', hv, hp, hH'⟩, hz, hk⟩, stp⟩ := hr T hT X
  cases hv
  rw [h0] at hz hk
  have hS' : va_S (GA G) s.heap T'.heap (locs ++ L) := ⟨Nat.le_trans hS.1 (by rw [e1]; exact hz), fun q h1 h2 => by rw [e1, hk q (Nat.lt_of_lt_of_le h1 hS.1) h2]; exact hS.2.1 q h1 h2, fun q hq => by
    rcases List.mem_append.mp hq with h | h
    · exact hS.2.2 q h
    · exact hL q h⟩
  obtain ⟨t2, a1, b1⟩ := k v h' hp p e R s m args below meth c cells slots E T'.heap (locs ++ L) lsA (by rw [e1]; exact hH') hS' hl T' rfl X'
  exact ⟨t2, stp t2 a1, b1⟩
theorem b_callV {Post : Option Value → HT → Prop} {M : MT} {idx n ci a : Nat} {fs : List Value} {q : vw_C} (As : List Value) {st0 : List Value} (hd : decode cc pc = .ok (.invokevirtual idx, 3)) (mk : MKv M n) (hlk : Cond.methodLink own idx M.1 ∈ TB) (ha : a < G.nC) (he : h a = .inr (ci, fs)) (hc : vwCl[ci]? = some q) (hq : q.1 = M.1.cls)
    (hM : Fn G d M (.ref (G.b0 + a) :: As) h Post) (hn : As.length = n) (hst : st0 = As.reverse ++ .ref (G.b0 + a) :: st) (hw : (st.map fun v => v.category).sum ≤ 8)
    (k : ∀ (r : Option Value) (h' : HT), Post r h' → BB G own cc nL ret (d + 1) Q (pc + 3) ls (r.toList ++ st) h') : BB G own cc nL ret (d + 1) Q pc ls st0 h := by
  intro p e R s m args below meth c cells slots E H locs lsA hH hS hl
  obtain ⟨mk1, mk2, mk3, mk4, mk5, mk6, mk7⟩ := mk
  have hts := E.2.2.2.2.2.2.1
  have hR := E.2.2.2.2.2.2.2.2.2.1
  have hC := E.2.2.2.2.2.2.2.2.2.2
  refine bb_after E hS hl (va_runV (As := As) (rest := st) (C := M.1.cls) (n := n) (index := idx) (Ts := TB) (own := own) ⟨E.1, E.2.1, E.2.2.1, E.2.2.2.2.2.1, hts⟩ hM ⟨⟨rfl, rfl, hR.1, ?_, tb_pay hts mk4, List.mem_cons_self, hts _ mk4, hts _ mk3, mk5, tb_len mk6, hts _ hlk⟩, hts _ mk1, hts _ mk2⟩ ⟨fn_blind, ?_, fun U hU hW => ⟨rfl, by rw [hU]; exact hH, E.2.2.2.2.2.2.2.1.warm hW⟩⟩ rfl hn hl.1 hst (lv_room hw) hd ⟨hC.1, hC.2⟩) k
  · have h2 := hR.2
    show 8 + (M.2.2.1 + 11) + 100 * d ≤ R.locals
    omega
  · rw [← hq]
    exact va_recv E.2.2.2.2.2.2.2.1.1 hH.2.2 hc (q0 := a) (by rw [wl_at ha, he])
theorem b_callS {Post : Option Value → HT → Prop} {M : MT} {idx n : Nat} (As : List Value) {st0 : List Value} (hd : decode cc pc = .ok (.invokestatic idx, 3)) (mk : MKs M n) (hlk : Cond.methodLink own idx M.1 ∈ TB)
    (hM : Fn G d M As h Post) (hn : As.length = n) (hst : st0 = As.reverse ++ st) (hw : (st.map fun v => v.category).sum ≤ 8)
    (k : ∀ (r : Option Value) (h' : HT), Post r h' → BB G own cc nL ret (d + 1) Q (pc + 3) ls (r.toList ++ st) h') : BB G own cc nL ret (d + 1) Q pc ls st0 h := by
  intro p e R s m args below meth c cells slots E H locs lsA hH hS hl
  obtain ⟨mk1, mk3, mk4, mk5, mk6, mk7⟩ := mk
  have hts := E.2.2.2.2.2.2.1
  have hR := E.2.2.2.2.2.2.2.2.2.1
  have hC := E.2.2.2.2.2.2.2.2.2.2
  refine bb_after E hS hl (va_runS (As := As) (rest := st) (n := n) (index := idx) (Ts := TB) (own := own) ⟨E.1, E.2.1, E.2.2.1, E.2.2.2.2.2.1, hts⟩ hM ⟨⟨rfl, rfl, hR.1, ?_, tb_pay hts mk4, List.mem_cons_self, hts _ mk4, hts _ mk3, mk5, tb_len mk6, hts _ hlk⟩, hts _ mk1⟩ ⟨fn_blind, fun U hU hW => ⟨rfl, by rw [hU]; exact hH, E.2.2.2.2.2.2.2.1.warm hW⟩⟩ rfl hn hl.1 hst (lv_room hw) hd ⟨hC.1, hC.2⟩) k
  have h2 := hR.2
  show 8 + (M.2.2.1 + 11) + 100 * d ≤ R.locals
  omega
/-- a private static method of another class of the nest -/
theorem b_callSN {Post : Option Value → HT → Prop} {M : MT} {idx n : Nat} {host : String} (As : List Value) {st0 : List Value} (hd : decode cc pc = .ok (.invokestatic idx, 3)) (mk : MKs M n) (hlk : ∀ U, Kn G U → va_Nw (.methodLinkNest own idx M.1 host) U)
    (hM : Fn G d M As h Post) (hn : As.length = n) (hst : st0 = As.reverse ++ st) (hw : (st.map fun v => v.category).sum ≤ 8)
    (k : ∀ (r : Option Value) (h' : HT), Post r h' → BB G own cc nL ret (d + 1) Q (pc + 3) ls (r.toList ++ st) h') : BB G own cc nL ret (d + 1) Q pc ls st0 h := by
  intro p e R s m args below meth c cells slots E H locs lsA hH hS hl
  obtain ⟨mk1, mk3, mk4, mk5, mk6, mk7⟩ := mk
  have hts := E.2.2.2.2.2.2.1
  have hR := E.2.2.2.2.2.2.2.2.2.1
  have hC := E.2.2.2.2.2.2.2.2.2.2
  refine bb_after E hS hl (va_runSN (As := As) (rest := st) (n := n) (index := idx) (Ts := TB) (own := own) ⟨E.1, E.2.1, E.2.2.1, E.2.2.2.2.2.1, hts⟩ hM ⟨⟨⟨rfl, rfl, hR.1, ?_, tb_pay hts mk4, List.mem_cons_self⟩, hts _ mk4, hts _ mk3, mk5, tb_len mk6, va_Nw.use rfl (hlk s E.2.2.2.2.2.2.2.1)⟩, hts _ mk1, trivial⟩ ⟨fn_blind, fun U hU hW => ⟨rfl, by rw [hU]; exact hH, E.2.2.2.2.2.2.2.1.warm hW⟩⟩ rfl hn hl.1 hst (lv_room hw) hd ⟨hC.1, hC.2⟩) k
  have h2 := hR.2
  show 8 + (M.2.2.1 + 11) + 100 * d ≤ R.locals
  omega
/-- answers that are told: the same with 'Ret' -/
theorem b_callVr {M : MT} {idx n ci a : Nat} {fs : List Value} {q : vw_C} {v : Option Value} {h' : HT} (As : List Value) {st0 : List Value} (hd : decode cc pc = .ok (.invokevirtual idx, 3)) (mk : MKv M n) (hlk : Cond.methodLink own idx M.1 ∈ TB) (ha : a < G.nC) (he : h a = .inr (ci, fs)) (hc : vwCl[ci]? = some q) (hq : q.1 = M.1.cls)
    (hM : Fn G d M (.ref (G.b0 + a) :: As) h (Ret v h')) (hn : As.length = n) (hst : st0 = As.reverse ++ .ref (G.b0 + a) :: st) (hw : (st.map fun v => v.category).sum ≤ 8)
    (k : BB G own cc nL ret (d + 1) Q (pc + 3) ls (v.toList ++ st) h') : BB G own cc nL ret (d + 1) Q pc ls st0 h :=
  b_callV As hd mk hlk ha he hc hq hM hn hst hw (fun r g hp => by obtain ⟨rfl, rfl⟩ := hp; exact k)
theorem b_callSr {M : MT} {idx n : Nat} {v : Option Value} {h' : HT} (As : List Value) {st0 : List Value} (hd : decode cc pc = .ok (.invokestatic idx, 3)) (mk : MKs M n) (hlk : Cond.methodLink own idx M.1 ∈ TB)
    (hM : Fn G d M As h (Ret v h')) (hn : As.length = n) (hst : st0 = As.reverse ++ st) (hw : (st.map fun v => v.category).sum ≤ 8)
    (k : BB G own cc nL ret (d + 1) Q (pc + 3) ls (v.toList ++ st) h') : BB G own cc nL ret (d + 1) Q pc ls st0 h :=
  b_callS As hd mk hlk hM hn hst hw (fun r g hp => by obtain ⟨rfl, rfl⟩ := hp; exact k)
/-- a weaker end -/
theorem Fn.mono {M : MT} {av : List Value} {P P' : Option Value → HT → Prop} (hM : Fn G d M av h P) (hp : ∀ r g, P r g → P' r g) : Fn G d M av h P' := by
  intro p e ha hc hk s m args below hf hfit hP
  intro hK
  obtain ⟨k, o, h1, h2, h3, ⟨⟨r, h', q1, q2, q3⟩, q4⟩, q5⟩ := hM p e ha hc hk s m args below hf hfit hP hK
  exact ⟨k, o, h1, h2, h3, ⟨⟨r, h', q1, hp _ _ q2, q3⟩, q4⟩, q5⟩
end Calls
end
section
theorem TB_all {C : String} {T : u_T} {N : Nat} (h : (u_ws C T N).all (fun w => decide (w ∈ lw_tbl) && goodWord w) = true) : ∀ w ∈ u_ws C T N, w ∈ TB := fun w hw => by
  have h1 := List.all_eq_true.mp h w hw
  simp only [Bool.and_eq_true, decide_eq_true_eq] at h1
  exact List.mem_filter.mpr ⟨h1.1, h1.2⟩
theorem uX0 : ∀ w ∈ u_ws RX0 TX0 4, w ∈ TB := TB_all (by decide +kernel)
theorem uX1 : ∀ w ∈ u_ws RX1 TX1 3, w ∈ TB := TB_all (by decide +kernel)
theorem uX2 : ∀ w ∈ u_ws RX2 TX2 10, w ∈ TB := TB_all (by decide +kernel)
theorem uX3 : ∀ w ∈ u_ws RX3 TX3 9, w ∈ TB := TB_all (by decide +kernel)
theorem uX4 : ∀ w ∈ u_ws RX4 TX4 2, w ∈ TB := TB_all (by decide +kernel)
theorem uX5 : ∀ w ∈ u_ws RX5 TX5 7, w ∈ TB := TB_all (by decide +kernel)
theorem uX6 : ∀ w ∈ u_ws RX6 TX6 3, w ∈ TB := TB_all (by decide +kernel)
theorem uX7 : ∀ w ∈ u_ws RX7 TX7 6, w ∈ TB := TB_all (by decide +kernel)
theorem uX8 : ∀ w ∈ u_ws RX8 TX8 4, w ∈ TB := TB_all (by decide +kernel)
theorem uX9 : ∀ w ∈ u_ws RX9 TX9 4, w ∈ TB := TB_all (by decide +kernel)
theorem uX10 : ∀ w ∈ u_ws RX10 TX10 2, w ∈ TB := TB_all (by decide +kernel)
theorem uX11 : ∀ w ∈ u_ws RX11 TX11 12, w ∈ TB := TB_all (by decide +kernel)
theorem uX12 : ∀ w ∈ u_ws RX12 TX12 35, w ∈ TB := TB_all (by decide +kernel)
set_option maxRecDepth 100000 in
theorem iniX11 : Cond.initialized RX11 ∈ TB := TB_of (tin_1 (TB_at 1 rfl)) rfl
set_option maxRecDepth 100000 in
theorem iniX0 : Cond.initialized RX0 ∈ TB := TB_of (tin_1 (TB_at 4 rfl)) rfl
set_option maxRecDepth 100000 in
theorem iniX1 : Cond.initialized RX1 ∈ TB := TB_of (tin_1 (TB_at 12 rfl)) rfl
set_option maxRecDepth 100000 in
theorem iniX2 : Cond.initialized RX2 ∈ TB := TB_of (tin_1 (TB_at 5 rfl)) rfl
set_option maxRecDepth 100000 in
theorem iniX3 : Cond.initialized RX3 ∈ TB := TB_of (tin_1 (TB_at 9 rfl)) rfl
set_option maxRecDepth 100000 in
theorem iniX4 : Cond.initialized RX4 ∈ TB := TB_of (tin_1 (TB_at 7 rfl)) rfl
set_option maxRecDepth 100000 in
theorem iniX5 : Cond.initialized RX5 ∈ TB := TB_of (tin_1 (TB_at 2 rfl)) rfl
set_option maxRecDepth 100000 in
theorem iniX6 : Cond.initialized RX6 ∈ TB := TB_of (tin_1 (TB_at 11 rfl)) rfl
set_option maxRecDepth 100000 in
theorem iniX7 : Cond.initialized RX7 ∈ TB := TB_of (tin_1 (TB_at 8 rfl)) rfl
set_option maxRecDepth 100000 in
theorem iniX8 : Cond.initialized RX8 ∈ TB := TB_of (tin_1 (TB_at 6 rfl)) rfl
set_option maxRecDepth 100000 in
theorem iniX9 : Cond.initialized RX9 ∈ TB := TB_of (tin_1 (TB_at 3 rfl)) rfl
set_option maxRecDepth 100000 in
theorem iniX10 : Cond.initialized RX10 ∈ TB := TB_of (tin_1 (TB_at 10 rfl)) rfl
set_option maxRecDepth 100000 in
theorem iniL : Cond.initialized RL ∈ TB := TB_of (tin_1 (TB_at 0 rfl)) rfl
set_option maxRecDepth 100000 in
theorem iniX12 : Cond.initialized RX12 ∈ TB := TB_of (tin_1 (TB_at 13 rfl)) rfl
set_option maxRecDepth 100000 in
theorem iniJ6 : Cond.initialized RJ6 ∈ TB := TB_of (tin_1 (TB_at 21 rfl)) rfl
set_option maxRecDepth 100000 in
theorem iniJ9 : Cond.initialized RJ9 ∈ TB := TB_of (tin_1 (TB_at 19 rfl)) rfl
set_option maxRecDepth 100000 in
theorem iniJ0 : Cond.initialized RJ0 ∈ TB := TB_of (tin_1 (TB_at 15 rfl)) rfl
set_option maxRecDepth 100000 in
theorem iniJ1 : Cond.initialized RJ1 ∈ TB := TB_of (tin_1 (TB_at 16 rfl)) rfl
set_option maxRecDepth 100000 in
theorem iniJ2 : Cond.initialized RJ2 ∈ TB := TB_of (tin_1 (TB_at 18 rfl)) rfl
set_option maxRecDepth 100000 in
theorem iniJ10 : Cond.initialized RJ10 ∈ TB := TB_of (tin_1 (TB_at 20 rfl)) rfl
set_option maxRecDepth 100000 in
theorem iniJ7 : Cond.initialized RJ7 ∈ TB := TB_of (tin_1 (TB_at 14 rfl)) rfl
set_option maxRecDepth 100000 in
theorem iniJ3 : Cond.initialized RJ3 ∈ TB := TB_of (tin_1 (TB_at 17 rfl)) rfl
abbrev mX0_init : MT := (yX0_init, cX0_init, 1, none)
abbrev mX0_clear : MT := (yX0_clear, cX0_clear, 1, none)
set_option maxRecDepth 100000 in
theorem cdX0_clear : Cond.code yX0_clear cX0_clear 1 none ∈ TB := TB_of (tin_2 (TB_at 182 rfl)) rfl
set_option maxRecDepth 100000 in
theorem imX0_clear : Cond.instanceMethod yX0_clear ∈ TB := TB_of (tin_2 (TB_at 180 rfl)) rfl
set_option maxRecDepth 100000 in
theorem seX0_clear : Cond.selects RX0 yX0_clear yX0_clear ∈ TB := TB_of (tin_2 (TB_at 181 rfl)) rfl
theorem kX0_clear : MKv mX0_clear 0 := ⟨imX0_clear, seX0_clear, iniX0, cdX0_clear, ⟨by decide +kernel, by decide +kernel⟩, by decide +kernel, by decide⟩
abbrev mX0_add : MT := (yX0_add, cX0_add, 2, none)
set_option maxRecDepth 100000 in
theorem cdX0_add : Cond.code yX0_add cX0_add 2 none ∈ TB := TB_of (tin_3 (TB_at 92 rfl)) rfl
set_option maxRecDepth 100000 in
theorem imX0_add : Cond.instanceMethod yX0_add ∈ TB := TB_of (tin_3 (TB_at 90 rfl)) rfl
set_option maxRecDepth 100000 in
theorem seX0_add : Cond.selects RX0 yX0_add yX0_add ∈ TB := TB_of (tin_3 (TB_at 91 rfl)) rfl
theorem kX0_add : MKv mX0_add 1 := ⟨imX0_add, seX0_add, iniX0, cdX0_add, ⟨by decide +kernel, by decide +kernel⟩, by decide +kernel, by decide⟩
abbrev mX0_end : MT := (yX0_end, cX0_end, 2, none)
set_option maxRecDepth 100000 in
theorem cdX0_end : Cond.code yX0_end cX0_end 2 none ∈ TB := TB_of (tin_3 (TB_at 100 rfl)) rfl
set_option maxRecDepth 100000 in
theorem imX0_end : Cond.instanceMethod yX0_end ∈ TB := TB_of (tin_3 (TB_at 98 rfl)) rfl
set_option maxRecDepth 100000 in
theorem seX0_end : Cond.selects RX0 yX0_end yX0_end ∈ TB := TB_of (tin_3 (TB_at 99 rfl)) rfl
theorem kX0_end : MKv mX0_end 1 := ⟨imX0_end, seX0_end, iniX0, cdX0_end, ⟨by decide +kernel, by decide +kernel⟩, by decide +kernel, by decide⟩
abbrev mX0_settle : MT := (yX0_settle, cX0_settle, 5, none)
set_option maxRecDepth 100000 in
theorem cdX0_settle : Cond.code yX0_settle cX0_settle 5 none ∈ TB := TB_of (tin_3 (TB_at 116 rfl)) rfl
set_option maxRecDepth 100000 in
theorem imX0_settle : Cond.instanceMethod yX0_settle ∈ TB := TB_of (tin_3 (TB_at 114 rfl)) rfl
set_option maxRecDepth 100000 in
theorem seX0_settle : Cond.selects RX0 yX0_settle yX0_settle ∈ TB := TB_of (tin_3 (TB_at 115 rfl)) rfl
theorem kX0_settle : MKv mX0_settle 1 := ⟨imX0_settle, seX0_settle, iniX0, cdX0_settle, ⟨by decide +kernel, by decide +kernel⟩, by decide +kernel, by decide⟩
abbrev mX0_valueIn : MT := (yX0_valueIn, cX0_valueIn, 8, (some .int))
set_option maxRecDepth 100000 in
theorem cdX0_valueIn : Cond.code yX0_valueIn cX0_valueIn 8 (some .int) ∈ TB := TB_of (tin_3 (TB_at 120 rfl)) rfl
set_option maxRecDepth 100000 in
theorem imX0_valueIn : Cond.instanceMethod yX0_valueIn ∈ TB := TB_of (tin_3 (TB_at 119 rfl)) rfl
set_option maxRecDepth 100000 in
theorem seX0_valueIn : Cond.selects RX0 yX0_valueIn yX0_valueIn ∈ TB := TB_of (tin_0 (TB_at 19 rfl)) rfl
theorem kX0_valueIn : MKv mX0_valueIn 4 := ⟨imX0_valueIn, seX0_valueIn, iniX0, cdX0_valueIn, ⟨by decide +kernel, by decide +kernel⟩, by decide +kernel, by decide⟩
abbrev mX0_isAtom : MT := (yX0_isAtom, cX0_isAtom, 1, (some .boolean))
set_option maxRecDepth 100000 in
theorem cdX0_isAtom : Cond.code yX0_isAtom cX0_isAtom 1 (some .boolean) ∈ TB := TB_of (tin_3 (TB_at 123 rfl)) rfl
set_option maxRecDepth 100000 in
theorem stX0_isAtom : Cond.static yX0_isAtom ∈ TB := TB_of (tin_3 (TB_at 122 rfl)) rfl
theorem kX0_isAtom : MKs mX0_isAtom 1 := ⟨stX0_isAtom, iniX0, cdX0_isAtom, ⟨by decide +kernel, by decide +kernel⟩, by decide +kernel, by decide⟩
abbrev mX0_atomOf : MT := (yX0_atomOf, cX0_atomOf, 3, (some .int))
set_option maxRecDepth 100000 in
theorem cdX0_atomOf : Cond.code yX0_atomOf cX0_atomOf 3 (some .int) ∈ TB := TB_of (tin_3 (TB_at 126 rfl)) rfl
set_option maxRecDepth 100000 in
theorem stX0_atomOf : Cond.static yX0_atomOf ∈ TB := TB_of (tin_3 (TB_at 125 rfl)) rfl
theorem kX0_atomOf : MKs mX0_atomOf 3 := ⟨stX0_atomOf, iniX0, cdX0_atomOf, ⟨by decide +kernel, by decide +kernel⟩, by decide +kernel, by decide⟩
abbrev mX0_joined : MT := (yX0_joined, cX0_joined, 3, (some .int))
set_option maxRecDepth 100000 in
theorem cdX0_joined : Cond.code yX0_joined cX0_joined 3 (some .int) ∈ TB := TB_of (tin_3 (TB_at 129 rfl)) rfl
set_option maxRecDepth 100000 in
theorem stX0_joined : Cond.static yX0_joined ∈ TB := TB_of (tin_3 (TB_at 128 rfl)) rfl
theorem kX0_joined : MKs mX0_joined 3 := ⟨stX0_joined, iniX0, cdX0_joined, ⟨by decide +kernel, by decide +kernel⟩, by decide +kernel, by decide⟩
abbrev mX0_kept : MT := (yX0_kept, cX0_kept, 2, (some .int))
set_option maxRecDepth 100000 in
theorem cdX0_kept : Cond.code yX0_kept cX0_kept 2 (some .int) ∈ TB := TB_of (tin_3 (TB_at 132 rfl)) rfl
set_option maxRecDepth 100000 in
theorem stX0_kept : Cond.static yX0_kept ∈ TB := TB_of (tin_3 (TB_at 131 rfl)) rfl
theorem kX0_kept : MKs mX0_kept 1 := ⟨stX0_kept, iniX0, cdX0_kept, ⟨by decide +kernel, by decide +kernel⟩, by decide +kernel, by decide⟩
abbrev mX1_init : MT := (yX1_init, cX1_init, 1, none)
abbrev mX2_init : MT := (yX2_init, cX2_init, 1, none)
abbrev mX2_clear : MT := (yX2_clear, cX2_clear, 1, none)
set_option maxRecDepth 100000 in
theorem cdX2_clear : Cond.code yX2_clear cX2_clear 1 none ∈ TB := TB_of (tin_2 (TB_at 170 rfl)) rfl
set_option maxRecDepth 100000 in
theorem imX2_clear : Cond.instanceMethod yX2_clear ∈ TB := TB_of (tin_2 (TB_at 168 rfl)) rfl
set_option maxRecDepth 100000 in
theorem seX2_clear : Cond.selects RX2 yX2_clear yX2_clear ∈ TB := TB_of (tin_2 (TB_at 169 rfl)) rfl
theorem kX2_clear : MKv mX2_clear 0 := ⟨imX2_clear, seX2_clear, iniX2, cdX2_clear, ⟨by decide +kernel, by decide +kernel⟩, by decide +kernel, by decide⟩
abbrev mX2_become : MT := (yX2_become, cX2_become, 2, none)
set_option maxRecDepth 100000 in
theorem cdX2_become : Cond.code yX2_become cX2_become 2 none ∈ TB := TB_of (tin_3 (TB_at 144 rfl)) rfl
set_option maxRecDepth 100000 in
theorem imX2_become : Cond.instanceMethod yX2_become ∈ TB := TB_of (tin_3 (TB_at 142 rfl)) rfl
set_option maxRecDepth 100000 in
theorem seX2_become : Cond.selects RX2 yX2_become yX2_become ∈ TB := TB_of (tin_3 (TB_at 143 rfl)) rfl
theorem kX2_become : MKv mX2_become 1 := ⟨imX2_become, seX2_become, iniX2, cdX2_become, ⟨by decide +kernel, by decide +kernel⟩, by decide +kernel, by decide⟩
abbrev mX2_allWorlds : MT := (yX2_allWorlds, cX2_allWorlds, 1, (some .int))
set_option maxRecDepth 100000 in
theorem cdX2_allWorlds : Cond.code yX2_allWorlds cX2_allWorlds 1 (some .int) ∈ TB := TB_of (tin_3 (TB_at 200 rfl)) rfl
set_option maxRecDepth 100000 in
theorem imX2_allWorlds : Cond.instanceMethod yX2_allWorlds ∈ TB := TB_of (tin_3 (TB_at 198 rfl)) rfl
set_option maxRecDepth 100000 in
theorem seX2_allWorlds : Cond.selects RX2 yX2_allWorlds yX2_allWorlds ∈ TB := TB_of (tin_3 (TB_at 199 rfl)) rfl
theorem kX2_allWorlds : MKv mX2_allWorlds 0 := ⟨imX2_allWorlds, seX2_allWorlds, iniX2, cdX2_allWorlds, ⟨by decide +kernel, by decide +kernel⟩, by decide +kernel, by decide⟩
abbrev mX2_allFacts : MT := (yX2_allFacts, cX2_allFacts, 1, (some .int))
set_option maxRecDepth 100000 in
theorem cdX2_allFacts : Cond.code yX2_allFacts cX2_allFacts 1 (some .int) ∈ TB := TB_of (tin_4 (TB_at 201 rfl)) rfl
set_option maxRecDepth 100000 in
theorem imX2_allFacts : Cond.instanceMethod yX2_allFacts ∈ TB := TB_of (tin_4 (TB_at 199 rfl)) rfl
set_option maxRecDepth 100000 in
theorem seX2_allFacts : Cond.selects RX2 yX2_allFacts yX2_allFacts ∈ TB := TB_of (tin_4 (TB_at 200 rfl)) rfl
theorem kX2_allFacts : MKv mX2_allFacts 0 := ⟨imX2_allFacts, seX2_allFacts, iniX2, cdX2_allFacts, ⟨by decide +kernel, by decide +kernel⟩, by decide +kernel, by decide⟩
abbrev mX2_factsIn : MT := (yX2_factsIn, cX2_factsIn, 4, (some .int))
set_option maxRecDepth 100000 in
theorem cdX2_factsIn : Cond.code yX2_factsIn cX2_factsIn 4 (some .int) ∈ TB := TB_of (tin_3 (TB_at 172 rfl)) rfl
set_option maxRecDepth 100000 in
theorem imX2_factsIn : Cond.instanceMethod yX2_factsIn ∈ TB := TB_of (tin_3 (TB_at 170 rfl)) rfl
set_option maxRecDepth 100000 in
theorem seX2_factsIn : Cond.selects RX2 yX2_factsIn yX2_factsIn ∈ TB := TB_of (tin_3 (TB_at 171 rfl)) rfl
theorem kX2_factsIn : MKv mX2_factsIn 1 := ⟨imX2_factsIn, seX2_factsIn, iniX2, cdX2_factsIn, ⟨by decide +kernel, by decide +kernel⟩, by decide +kernel, by decide⟩
abbrev mX2_countRoads : MT := (yX2_countRoads, cX2_countRoads, 3, (some .int))
set_option maxRecDepth 100000 in
theorem cdX2_countRoads : Cond.code yX2_countRoads cX2_countRoads 3 (some .int) ∈ TB := TB_of (tin_5 (TB_at 154 rfl)) rfl
set_option maxRecDepth 100000 in
theorem imX2_countRoads : Cond.instanceMethod yX2_countRoads ∈ TB := TB_of (tin_5 (TB_at 152 rfl)) rfl
set_option maxRecDepth 100000 in
theorem seX2_countRoads : Cond.selects RX2 yX2_countRoads yX2_countRoads ∈ TB := TB_of (tin_5 (TB_at 153 rfl)) rfl
theorem kX2_countRoads : MKv mX2_countRoads 0 := ⟨imX2_countRoads, seX2_countRoads, iniX2, cdX2_countRoads, ⟨by decide +kernel, by decide +kernel⟩, by decide +kernel, by decide⟩
abbrev mX2_sideOf : MT := (yX2_sideOf, cX2_sideOf, 3, (some .int))
set_option maxRecDepth 100000 in
theorem cdX2_sideOf : Cond.code yX2_sideOf cX2_sideOf 3 (some .int) ∈ TB := TB_of (tin_3 (TB_at 204 rfl)) rfl
set_option maxRecDepth 100000 in
theorem imX2_sideOf : Cond.instanceMethod yX2_sideOf ∈ TB := TB_of (tin_3 (TB_at 202 rfl)) rfl
set_option maxRecDepth 100000 in
theorem seX2_sideOf : Cond.selects RX2 yX2_sideOf yX2_sideOf ∈ TB := TB_of (tin_3 (TB_at 203 rfl)) rfl
theorem kX2_sideOf : MKv mX2_sideOf 2 := ⟨imX2_sideOf, seX2_sideOf, iniX2, cdX2_sideOf, ⟨by decide +kernel, by decide +kernel⟩, by decide +kernel, by decide⟩
abbrev mX2_possible : MT := (yX2_possible, cX2_possible, 5, (some .int))
set_option maxRecDepth 100000 in
theorem cdX2_possible : Cond.code yX2_possible cX2_possible 5 (some .int) ∈ TB := TB_of (tin_3 (TB_at 196 rfl)) rfl
set_option maxRecDepth 100000 in
theorem imX2_possible : Cond.instanceMethod yX2_possible ∈ TB := TB_of (tin_3 (TB_at 194 rfl)) rfl
set_option maxRecDepth 100000 in
theorem seX2_possible : Cond.selects RX2 yX2_possible yX2_possible ∈ TB := TB_of (tin_3 (TB_at 195 rfl)) rfl
theorem kX2_possible : MKv mX2_possible 2 := ⟨imX2_possible, seX2_possible, iniX2, cdX2_possible, ⟨by decide +kernel, by decide +kernel⟩, by decide +kernel, by decide⟩
abbrev mX2_isKnown : MT := (yX2_isKnown, cX2_isKnown, 4, (some .boolean))
set_option maxRecDepth 100000 in
theorem cdX2_isKnown : Cond.code yX2_isKnown cX2_isKnown 4 (some .boolean) ∈ TB := TB_of (tin_3 (TB_at 212 rfl)) rfl
set_option maxRecDepth 100000 in
theorem imX2_isKnown : Cond.instanceMethod yX2_isKnown ∈ TB := TB_of (tin_3 (TB_at 210 rfl)) rfl
set_option maxRecDepth 100000 in
theorem seX2_isKnown : Cond.selects RX2 yX2_isKnown yX2_isKnown ∈ TB := TB_of (tin_3 (TB_at 211 rfl)) rfl
theorem kX2_isKnown : MKv mX2_isKnown 2 := ⟨imX2_isKnown, seX2_isKnown, iniX2, cdX2_isKnown, ⟨by decide +kernel, by decide +kernel⟩, by decide +kernel, by decide⟩
abbrev mX2_knownBy : MT := (yX2_knownBy, cX2_knownBy, 4, (some .int))
set_option maxRecDepth 100000 in
theorem cdX2_knownBy : Cond.code yX2_knownBy cX2_knownBy 4 (some .int) ∈ TB := TB_of (tin_3 (TB_at 208 rfl)) rfl
set_option maxRecDepth 100000 in
theorem imX2_knownBy : Cond.instanceMethod yX2_knownBy ∈ TB := TB_of (tin_3 (TB_at 206 rfl)) rfl
set_option maxRecDepth 100000 in
theorem seX2_knownBy : Cond.selects RX2 yX2_knownBy yX2_knownBy ∈ TB := TB_of (tin_3 (TB_at 207 rfl)) rfl
theorem kX2_knownBy : MKv mX2_knownBy 1 := ⟨imX2_knownBy, seX2_knownBy, iniX2, cdX2_knownBy, ⟨by decide +kernel, by decide +kernel⟩, by decide +kernel, by decide⟩
abbrev mX2_isGuiltKnown : MT := (yX2_isGuiltKnown, cX2_isGuiltKnown, 3, (some .boolean))
set_option maxRecDepth 100000 in
theorem cdX2_isGuiltKnown : Cond.code yX2_isGuiltKnown cX2_isGuiltKnown 3 (some .boolean) ∈ TB := TB_of (tin_3 (TB_at 216 rfl)) rfl
set_option maxRecDepth 100000 in
theorem imX2_isGuiltKnown : Cond.instanceMethod yX2_isGuiltKnown ∈ TB := TB_of (tin_3 (TB_at 214 rfl)) rfl
set_option maxRecDepth 100000 in
theorem seX2_isGuiltKnown : Cond.selects RX2 yX2_isGuiltKnown yX2_isGuiltKnown ∈ TB := TB_of (tin_3 (TB_at 215 rfl)) rfl
theorem kX2_isGuiltKnown : MKv mX2_isGuiltKnown 1 := ⟨imX2_isGuiltKnown, seX2_isGuiltKnown, iniX2, cdX2_isGuiltKnown, ⟨by decide +kernel, by decide +kernel⟩, by decide +kernel, by decide⟩
abbrev mX2_weightOf : MT := (yX2_weightOf, cX2_weightOf, 4, (some .int))
set_option maxRecDepth 100000 in
theorem cdX2_weightOf : Cond.code yX2_weightOf cX2_weightOf 4 (some .int) ∈ TB := TB_of (tin_4 (TB_at 88 rfl)) rfl
set_option maxRecDepth 100000 in
theorem imX2_weightOf : Cond.instanceMethod yX2_weightOf ∈ TB := TB_of (tin_4 (TB_at 86 rfl)) rfl
set_option maxRecDepth 100000 in
theorem seX2_weightOf : Cond.selects RX2 yX2_weightOf yX2_weightOf ∈ TB := TB_of (tin_4 (TB_at 87 rfl)) rfl
theorem kX2_weightOf : MKv mX2_weightOf 1 := ⟨imX2_weightOf, seX2_weightOf, iniX2, cdX2_weightOf, ⟨by decide +kernel, by decide +kernel⟩, by decide +kernel, by decide⟩
abbrev mX2_amountOf : MT := (yX2_amountOf, cX2_amountOf, 3, (some .int))
set_option maxRecDepth 100000 in
theorem cdX2_amountOf : Cond.code yX2_amountOf cX2_amountOf 3 (some .int) ∈ TB := TB_of (tin_4 (TB_at 80 rfl)) rfl
set_option maxRecDepth 100000 in
theorem imX2_amountOf : Cond.instanceMethod yX2_amountOf ∈ TB := TB_of (tin_4 (TB_at 78 rfl)) rfl
set_option maxRecDepth 100000 in
theorem seX2_amountOf : Cond.selects RX2 yX2_amountOf yX2_amountOf ∈ TB := TB_of (tin_4 (TB_at 79 rfl)) rfl
theorem kX2_amountOf : MKv mX2_amountOf 2 := ⟨imX2_amountOf, seX2_amountOf, iniX2, cdX2_amountOf, ⟨by decide +kernel, by decide +kernel⟩, by decide +kernel, by decide⟩
abbrev mX2_leastBy : MT := (yX2_leastBy, cX2_leastBy, 8, (some .int))
set_option maxRecDepth 100000 in
theorem cdX2_leastBy : Cond.code yX2_leastBy cX2_leastBy 8 (some .int) ∈ TB := TB_of (tin_4 (TB_at 75 rfl)) rfl
set_option maxRecDepth 100000 in
theorem imX2_leastBy : Cond.instanceMethod yX2_leastBy ∈ TB := TB_of (tin_4 (TB_at 73 rfl)) rfl
set_option maxRecDepth 100000 in
theorem seX2_leastBy : Cond.selects RX2 yX2_leastBy yX2_leastBy ∈ TB := TB_of (tin_4 (TB_at 74 rfl)) rfl
theorem kX2_leastBy : MKv mX2_leastBy 3 := ⟨imX2_leastBy, seX2_leastBy, iniX2, cdX2_leastBy, ⟨by decide +kernel, by decide +kernel⟩, by decide +kernel, by decide⟩
abbrev mX2_isRight : MT := (yX2_isRight, cX2_isRight, 5, (some .boolean))
set_option maxRecDepth 100000 in
theorem cdX2_isRight : Cond.code yX2_isRight cX2_isRight 5 (some .boolean) ∈ TB := TB_of (tin_5 (TB_at 53 rfl)) rfl
set_option maxRecDepth 100000 in
theorem imX2_isRight : Cond.instanceMethod yX2_isRight ∈ TB := TB_of (tin_5 (TB_at 51 rfl)) rfl
set_option maxRecDepth 100000 in
theorem seX2_isRight : Cond.selects RX2 yX2_isRight yX2_isRight ∈ TB := TB_of (tin_5 (TB_at 52 rfl)) rfl
theorem kX2_isRight : MKv mX2_isRight 2 := ⟨imX2_isRight, seX2_isRight, iniX2, cdX2_isRight, ⟨by decide +kernel, by decide +kernel⟩, by decide +kernel, by decide⟩
abbrev mX2_stepFrom : MT := (yX2_stepFrom, cX2_stepFrom, 6, (some .int))
set_option maxRecDepth 100000 in
theorem cdX2_stepFrom : Cond.code yX2_stepFrom cX2_stepFrom 6 (some .int) ∈ TB := TB_of (tin_4 (TB_at 118 rfl)) rfl
set_option maxRecDepth 100000 in
theorem imX2_stepFrom : Cond.instanceMethod yX2_stepFrom ∈ TB := TB_of (tin_4 (TB_at 116 rfl)) rfl
set_option maxRecDepth 100000 in
theorem seX2_stepFrom : Cond.selects RX2 yX2_stepFrom yX2_stepFrom ∈ TB := TB_of (tin_4 (TB_at 117 rfl)) rfl
theorem kX2_stepFrom : MKv mX2_stepFrom 2 := ⟨imX2_stepFrom, seX2_stepFrom, iniX2, cdX2_stepFrom, ⟨by decide +kernel, by decide +kernel⟩, by decide +kernel, by decide⟩
abbrev mX2_isDeed : MT := (yX2_isDeed, cX2_isDeed, 3, (some .boolean))
set_option maxRecDepth 100000 in
theorem cdX2_isDeed : Cond.code yX2_isDeed cX2_isDeed 3 (some .boolean) ∈ TB := TB_of (tin_4 (TB_at 57 rfl)) rfl
set_option maxRecDepth 100000 in
theorem imX2_isDeed : Cond.instanceMethod yX2_isDeed ∈ TB := TB_of (tin_4 (TB_at 55 rfl)) rfl
set_option maxRecDepth 100000 in
theorem seX2_isDeed : Cond.selects RX2 yX2_isDeed yX2_isDeed ∈ TB := TB_of (tin_4 (TB_at 56 rfl)) rfl
theorem kX2_isDeed : MKv mX2_isDeed 1 := ⟨imX2_isDeed, seX2_isDeed, iniX2, cdX2_isDeed, ⟨by decide +kernel, by decide +kernel⟩, by decide +kernel, by decide⟩
abbrev mX2_deedsAhead : MT := (yX2_deedsAhead, cX2_deedsAhead, 3, (some .int))
set_option maxRecDepth 100000 in
theorem cdX2_deedsAhead : Cond.code yX2_deedsAhead cX2_deedsAhead 3 (some .int) ∈ TB := TB_of (tin_4 (TB_at 53 rfl)) rfl
set_option maxRecDepth 100000 in
theorem imX2_deedsAhead : Cond.instanceMethod yX2_deedsAhead ∈ TB := TB_of (tin_4 (TB_at 51 rfl)) rfl
set_option maxRecDepth 100000 in
theorem seX2_deedsAhead : Cond.selects RX2 yX2_deedsAhead yX2_deedsAhead ∈ TB := TB_of (tin_4 (TB_at 52 rfl)) rfl
theorem kX2_deedsAhead : MKv mX2_deedsAhead 1 := ⟨imX2_deedsAhead, seX2_deedsAhead, iniX2, cdX2_deedsAhead, ⟨by decide +kernel, by decide +kernel⟩, by decide +kernel, by decide⟩
abbrev mX3_init : MT := (yX3_init, cX3_init, 1, none)
abbrev mX3_judgeAll : MT := (yX3_judgeAll, cX3_judgeAll, 9, none)
set_option maxRecDepth 100000 in
theorem cdX3_judgeAll : Cond.code yX3_judgeAll cX3_judgeAll 9 none ∈ TB := TB_of (tin_4 (TB_at 226 rfl)) rfl
set_option maxRecDepth 100000 in
theorem imX3_judgeAll : Cond.instanceMethod yX3_judgeAll ∈ TB := TB_of (tin_4 (TB_at 224 rfl)) rfl
set_option maxRecDepth 100000 in
theorem seX3_judgeAll : Cond.selects RX3 yX3_judgeAll yX3_judgeAll ∈ TB := TB_of (tin_4 (TB_at 225 rfl)) rfl
theorem kX3_judgeAll : MKv mX3_judgeAll 3 := ⟨imX3_judgeAll, seX3_judgeAll, iniX3, cdX3_judgeAll, ⟨by decide +kernel, by decide +kernel⟩, by decide +kernel, by decide⟩
abbrev mX3_choose : MT := (yX3_choose, cX3_choose, 4, (some .int))
set_option maxRecDepth 100000 in
theorem cdX3_choose : Cond.code yX3_choose cX3_choose 4 (some .int) ∈ TB := TB_of (tin_4 (TB_at 233 rfl)) rfl
set_option maxRecDepth 100000 in
theorem imX3_choose : Cond.instanceMethod yX3_choose ∈ TB := TB_of (tin_4 (TB_at 232 rfl)) rfl
set_option maxRecDepth 100000 in
theorem seX3_choose : Cond.selects RX3 yX3_choose yX3_choose ∈ TB := TB_of (tin_0 (TB_at 35 rfl)) rfl
theorem kX3_choose : MKv mX3_choose 1 := ⟨imX3_choose, seX3_choose, iniX3, cdX3_choose, ⟨by decide +kernel, by decide +kernel⟩, by decide +kernel, by decide⟩
abbrev mX3_takeBack : MT := (yX3_takeBack, cX3_takeBack, 3, none)
set_option maxRecDepth 100000 in
theorem cdX3_takeBack : Cond.code yX3_takeBack cX3_takeBack 3 none ∈ TB := TB_of (tin_5 (TB_at 1 rfl)) rfl
set_option maxRecDepth 100000 in
theorem imX3_takeBack : Cond.instanceMethod yX3_takeBack ∈ TB := TB_of (tin_5 (TB_at 0 rfl)) rfl
set_option maxRecDepth 100000 in
theorem seX3_takeBack : Cond.selects RX3 yX3_takeBack yX3_takeBack ∈ TB := TB_of (tin_0 (TB_at 37 rfl)) rfl
theorem kX3_takeBack : MKv mX3_takeBack 2 := ⟨imX3_takeBack, seX3_takeBack, iniX3, cdX3_takeBack, ⟨by decide +kernel, by decide +kernel⟩, by decide +kernel, by decide⟩
abbrev mX3_mostOf : MT := (yX3_mostOf, cX3_mostOf, 4, (some .int))
set_option maxRecDepth 100000 in
theorem cdX3_mostOf : Cond.code yX3_mostOf cX3_mostOf 4 (some .int) ∈ TB := TB_of (tin_4 (TB_at 237 rfl)) rfl
set_option maxRecDepth 100000 in
theorem imX3_mostOf : Cond.instanceMethod yX3_mostOf ∈ TB := TB_of (tin_4 (TB_at 236 rfl)) rfl
set_option maxRecDepth 100000 in
theorem seX3_mostOf : Cond.selects RX3 yX3_mostOf yX3_mostOf ∈ TB := TB_of (tin_0 (TB_at 36 rfl)) rfl
theorem kX3_mostOf : MKv mX3_mostOf 1 := ⟨imX3_mostOf, seX3_mostOf, iniX3, cdX3_mostOf, ⟨by decide +kernel, by decide +kernel⟩, by decide +kernel, by decide⟩
abbrev mX3_findRest : MT := (yX3_findRest, cX3_findRest, 7, (some .boolean))
set_option maxRecDepth 100000 in
theorem cdX3_findRest : Cond.code yX3_findRest cX3_findRest 7 (some .boolean) ∈ TB := TB_of (tin_5 (TB_at 5 rfl)) rfl
set_option maxRecDepth 100000 in
theorem imX3_findRest : Cond.instanceMethod yX3_findRest ∈ TB := TB_of (tin_5 (TB_at 3 rfl)) rfl
set_option maxRecDepth 100000 in
theorem seX3_findRest : Cond.selects RX3 yX3_findRest yX3_findRest ∈ TB := TB_of (tin_5 (TB_at 4 rfl)) rfl
theorem kX3_findRest : MKv mX3_findRest 2 := ⟨imX3_findRest, seX3_findRest, iniX3, cdX3_findRest, ⟨by decide +kernel, by decide +kernel⟩, by decide +kernel, by decide⟩
abbrev mX3_canGet : MT := (yX3_canGet, cX3_canGet, 4, (some .boolean))
set_option maxRecDepth 100000 in
theorem cdX3_canGet : Cond.code yX3_canGet cX3_canGet 4 (some .boolean) ∈ TB := TB_of (tin_5 (TB_at 9 rfl)) rfl
set_option maxRecDepth 100000 in
theorem imX3_canGet : Cond.instanceMethod yX3_canGet ∈ TB := TB_of (tin_5 (TB_at 8 rfl)) rfl
set_option maxRecDepth 100000 in
theorem seX3_canGet : Cond.selects RX3 yX3_canGet yX3_canGet ∈ TB := TB_of (tin_0 (TB_at 38 rfl)) rfl
theorem kX3_canGet : MKv mX3_canGet 2 := ⟨imX3_canGet, seX3_canGet, iniX3, cdX3_canGet, ⟨by decide +kernel, by decide +kernel⟩, by decide +kernel, by decide⟩
abbrev mX3_choice : MT := (yX3_choice, cX3_choice, 2, (some .int))
set_option maxRecDepth 100000 in
theorem cdX3_choice : Cond.code yX3_choice cX3_choice 2 (some .int) ∈ TB := TB_of (tin_5 (TB_at 13 rfl)) rfl
set_option maxRecDepth 100000 in
theorem imX3_choice : Cond.instanceMethod yX3_choice ∈ TB := TB_of (tin_5 (TB_at 11 rfl)) rfl
set_option maxRecDepth 100000 in
theorem seX3_choice : Cond.selects RX3 yX3_choice yX3_choice ∈ TB := TB_of (tin_5 (TB_at 12 rfl)) rfl
theorem kX3_choice : MKv mX3_choice 1 := ⟨imX3_choice, seX3_choice, iniX3, cdX3_choice, ⟨by decide +kernel, by decide +kernel⟩, by decide +kernel, by decide⟩
abbrev mX4_init : MT := (yX4_init, cX4_init, 1, none)
abbrev mX4_forget : MT := (yX4_forget, cX4_forget, 1, none)
set_option maxRecDepth 100000 in
theorem cdX4_forget : Cond.code yX4_forget cX4_forget 1 none ∈ TB := TB_of (tin_3 (TB_at 156 rfl)) rfl
set_option maxRecDepth 100000 in
theorem imX4_forget : Cond.instanceMethod yX4_forget ∈ TB := TB_of (tin_3 (TB_at 154 rfl)) rfl
set_option maxRecDepth 100000 in
theorem seX4_forget : Cond.selects RX4 yX4_forget yX4_forget ∈ TB := TB_of (tin_3 (TB_at 155 rfl)) rfl
theorem kX4_forget : MKv mX4_forget 0 := ⟨imX4_forget, seX4_forget, iniX4, cdX4_forget, ⟨by decide +kernel, by decide +kernel⟩, by decide +kernel, by decide⟩
abbrev mX4_keep : MT := (yX4_keep, cX4_keep, 2, none)
set_option maxRecDepth 100000 in
theorem cdX4_keep : Cond.code yX4_keep cX4_keep 2 none ∈ TB := TB_of (tin_3 (TB_at 237 rfl)) rfl
set_option maxRecDepth 100000 in
theorem imX4_keep : Cond.instanceMethod yX4_keep ∈ TB := TB_of (tin_3 (TB_at 235 rfl)) rfl
set_option maxRecDepth 100000 in
theorem seX4_keep : Cond.selects RX4 yX4_keep yX4_keep ∈ TB := TB_of (tin_3 (TB_at 236 rfl)) rfl
theorem kX4_keep : MKv mX4_keep 1 := ⟨imX4_keep, seX4_keep, iniX4, cdX4_keep, ⟨by decide +kernel, by decide +kernel⟩, by decide +kernel, by decide⟩
abbrev mX4_goBack : MT := (yX4_goBack, cX4_goBack, 3, none)
set_option maxRecDepth 100000 in
theorem cdX4_goBack : Cond.code yX4_goBack cX4_goBack 3 none ∈ TB := TB_of (tin_4 (TB_at 38 rfl)) rfl
set_option maxRecDepth 100000 in
theorem imX4_goBack : Cond.instanceMethod yX4_goBack ∈ TB := TB_of (tin_4 (TB_at 36 rfl)) rfl
set_option maxRecDepth 100000 in
theorem seX4_goBack : Cond.selects RX4 yX4_goBack yX4_goBack ∈ TB := TB_of (tin_4 (TB_at 37 rfl)) rfl
theorem kX4_goBack : MKv mX4_goBack 2 := ⟨imX4_goBack, seX4_goBack, iniX4, cdX4_goBack, ⟨by decide +kernel, by decide +kernel⟩, by decide +kernel, by decide⟩
abbrev mX5_init : MT := (yX5_init, cX5_init, 1, none)
abbrev mX5_read : MT := (yX5_read, cX5_read, 4, (some .int))
set_option maxRecDepth 100000 in
theorem cdX5_read : Cond.code yX5_read cX5_read 4 (some .int) ∈ TB := TB_of (tin_2 (TB_at 166 rfl)) rfl
set_option maxRecDepth 100000 in
theorem imX5_read : Cond.instanceMethod yX5_read ∈ TB := TB_of (tin_2 (TB_at 164 rfl)) rfl
set_option maxRecDepth 100000 in
theorem seX5_read : Cond.selects RX5 yX5_read yX5_read ∈ TB := TB_of (tin_2 (TB_at 165 rfl)) rfl
theorem kX5_read : MKv mX5_read 2 := ⟨imX5_read, seX5_read, iniX5, cdX5_read, ⟨by decide +kernel, by decide +kernel⟩, by decide +kernel, by decide⟩
abbrev mX5_kind : MT := (yX5_kind, cX5_kind, 1, (some .int))
set_option maxRecDepth 100000 in
theorem cdX5_kind : Cond.code yX5_kind cX5_kind 1 (some .int) ∈ TB := TB_of (tin_3 (TB_at 36 rfl)) rfl
set_option maxRecDepth 100000 in
theorem imX5_kind : Cond.instanceMethod yX5_kind ∈ TB := TB_of (tin_3 (TB_at 35 rfl)) rfl
set_option maxRecDepth 100000 in
theorem seX5_kind : Cond.selects RX5 yX5_kind yX5_kind ∈ TB := TB_of (tin_0 (TB_at 1 rfl)) rfl
theorem kX5_kind : MKv mX5_kind 0 := ⟨imX5_kind, seX5_kind, iniX5, cdX5_kind, ⟨by decide +kernel, by decide +kernel⟩, by decide +kernel, by decide⟩
abbrev mX5_goOn : MT := (yX5_goOn, cX5_goOn, 1, none)
set_option maxRecDepth 100000 in
theorem cdX5_goOn : Cond.code yX5_goOn cX5_goOn 1 none ∈ TB := TB_of (tin_3 (TB_at 52 rfl)) rfl
set_option maxRecDepth 100000 in
theorem imX5_goOn : Cond.instanceMethod yX5_goOn ∈ TB := TB_of (tin_3 (TB_at 51 rfl)) rfl
set_option maxRecDepth 100000 in
theorem seX5_goOn : Cond.selects RX5 yX5_goOn yX5_goOn ∈ TB := TB_of (tin_0 (TB_at 5 rfl)) rfl
theorem kX5_goOn : MKv mX5_goOn 0 := ⟨imX5_goOn, seX5_goOn, iniX5, cdX5_goOn, ⟨by decide +kernel, by decide +kernel⟩, by decide +kernel, by decide⟩
abbrev mX5_refuse : MT := (yX5_refuse, cX5_refuse, 2, none)
set_option maxRecDepth 100000 in
theorem cdX5_refuse : Cond.code yX5_refuse cX5_refuse 2 none ∈ TB := TB_of (tin_3 (TB_at 48 rfl)) rfl
set_option maxRecDepth 100000 in
theorem imX5_refuse : Cond.instanceMethod yX5_refuse ∈ TB := TB_of (tin_3 (TB_at 47 rfl)) rfl
set_option maxRecDepth 100000 in
theorem seX5_refuse : Cond.selects RX5 yX5_refuse yX5_refuse ∈ TB := TB_of (tin_0 (TB_at 4 rfl)) rfl
theorem kX5_refuse : MKv mX5_refuse 1 := ⟨imX5_refuse, seX5_refuse, iniX5, cdX5_refuse, ⟨by decide +kernel, by decide +kernel⟩, by decide +kernel, by decide⟩
abbrev mX5_take : MT := (yX5_take, cX5_take, 2, none)
set_option maxRecDepth 100000 in
theorem cdX5_take : Cond.code yX5_take cX5_take 2 none ∈ TB := TB_of (tin_3 (TB_at 64 rfl)) rfl
set_option maxRecDepth 100000 in
theorem imX5_take : Cond.instanceMethod yX5_take ∈ TB := TB_of (tin_3 (TB_at 63 rfl)) rfl
set_option maxRecDepth 100000 in
theorem seX5_take : Cond.selects RX5 yX5_take yX5_take ∈ TB := TB_of (tin_0 (TB_at 8 rfl)) rfl
theorem kX5_take : MKv mX5_take 1 := ⟨imX5_take, seX5_take, iniX5, cdX5_take, ⟨by decide +kernel, by decide +kernel⟩, by decide +kernel, by decide⟩
abbrev mX5_takeNumber : MT := (yX5_takeNumber, cX5_takeNumber, 4, (some .int))
set_option maxRecDepth 100000 in
theorem cdX5_takeNumber : Cond.code yX5_takeNumber cX5_takeNumber 4 (some .int) ∈ TB := TB_of (tin_3 (TB_at 56 rfl)) rfl
set_option maxRecDepth 100000 in
theorem imX5_takeNumber : Cond.instanceMethod yX5_takeNumber ∈ TB := TB_of (tin_3 (TB_at 55 rfl)) rfl
set_option maxRecDepth 100000 in
theorem seX5_takeNumber : Cond.selects RX5 yX5_takeNumber yX5_takeNumber ∈ TB := TB_of (tin_0 (TB_at 6 rfl)) rfl
theorem kX5_takeNumber : MKv mX5_takeNumber 2 := ⟨imX5_takeNumber, seX5_takeNumber, iniX5, cdX5_takeNumber, ⟨by decide +kernel, by decide +kernel⟩, by decide +kernel, by decide⟩
abbrev mX5_readLine : MT := (yX5_readLine, cX5_readLine, 1, none)
set_option maxRecDepth 100000 in
theorem cdX5_readLine : Cond.code yX5_readLine cX5_readLine 1 none ∈ TB := TB_of (tin_3 (TB_at 40 rfl)) rfl
set_option maxRecDepth 100000 in
theorem imX5_readLine : Cond.instanceMethod yX5_readLine ∈ TB := TB_of (tin_3 (TB_at 39 rfl)) rfl
set_option maxRecDepth 100000 in
theorem seX5_readLine : Cond.selects RX5 yX5_readLine yX5_readLine ∈ TB := TB_of (tin_0 (TB_at 2 rfl)) rfl
theorem kX5_readLine : MKv mX5_readLine 0 := ⟨imX5_readLine, seX5_readLine, iniX5, cdX5_readLine, ⟨by decide +kernel, by decide +kernel⟩, by decide +kernel, by decide⟩
abbrev mX5_readWorld : MT := (yX5_readWorld, cX5_readWorld, 3, none)
set_option maxRecDepth 100000 in
theorem cdX5_readWorld : Cond.code yX5_readWorld cX5_readWorld 3 none ∈ TB := TB_of (tin_3 (TB_at 44 rfl)) rfl
set_option maxRecDepth 100000 in
theorem imX5_readWorld : Cond.instanceMethod yX5_readWorld ∈ TB := TB_of (tin_3 (TB_at 43 rfl)) rfl
set_option maxRecDepth 100000 in
theorem seX5_readWorld : Cond.selects RX5 yX5_readWorld yX5_readWorld ∈ TB := TB_of (tin_0 (TB_at 3 rfl)) rfl
theorem kX5_readWorld : MKv mX5_readWorld 0 := ⟨imX5_readWorld, seX5_readWorld, iniX5, cdX5_readWorld, ⟨by decide +kernel, by decide +kernel⟩, by decide +kernel, by decide⟩
abbrev mX5_readFact : MT := (yX5_readFact, cX5_readFact, 1, none)
set_option maxRecDepth 100000 in
theorem cdX5_readFact : Cond.code yX5_readFact cX5_readFact 1 none ∈ TB := TB_of (tin_3 (TB_at 60 rfl)) rfl
set_option maxRecDepth 100000 in
theorem imX5_readFact : Cond.instanceMethod yX5_readFact ∈ TB := TB_of (tin_3 (TB_at 59 rfl)) rfl
set_option maxRecDepth 100000 in
theorem seX5_readFact : Cond.selects RX5 yX5_readFact yX5_readFact ∈ TB := TB_of (tin_0 (TB_at 7 rfl)) rfl
theorem kX5_readFact : MKv mX5_readFact 0 := ⟨imX5_readFact, seX5_readFact, iniX5, cdX5_readFact, ⟨by decide +kernel, by decide +kernel⟩, by decide +kernel, by decide⟩
abbrev mX5_readPerson : MT := (yX5_readPerson, cX5_readPerson, 3, none)
set_option maxRecDepth 100000 in
theorem cdX5_readPerson : Cond.code yX5_readPerson cX5_readPerson 3 none ∈ TB := TB_of (tin_3 (TB_at 104 rfl)) rfl
set_option maxRecDepth 100000 in
theorem imX5_readPerson : Cond.instanceMethod yX5_readPerson ∈ TB := TB_of (tin_3 (TB_at 103 rfl)) rfl
set_option maxRecDepth 100000 in
theorem seX5_readPerson : Cond.selects RX5 yX5_readPerson yX5_readPerson ∈ TB := TB_of (tin_0 (TB_at 16 rfl)) rfl
theorem kX5_readPerson : MKv mX5_readPerson 0 := ⟨imX5_readPerson, seX5_readPerson, iniX5, cdX5_readPerson, ⟨by decide +kernel, by decide +kernel⟩, by decide +kernel, by decide⟩
abbrev mX5_readRoad : MT := (yX5_readRoad, cX5_readRoad, 3, none)
set_option maxRecDepth 100000 in
theorem cdX5_readRoad : Cond.code yX5_readRoad cX5_readRoad 3 none ∈ TB := TB_of (tin_3 (TB_at 108 rfl)) rfl
set_option maxRecDepth 100000 in
theorem imX5_readRoad : Cond.instanceMethod yX5_readRoad ∈ TB := TB_of (tin_3 (TB_at 107 rfl)) rfl
set_option maxRecDepth 100000 in
theorem seX5_readRoad : Cond.selects RX5 yX5_readRoad yX5_readRoad ∈ TB := TB_of (tin_0 (TB_at 17 rfl)) rfl
theorem kX5_readRoad : MKv mX5_readRoad 0 := ⟨imX5_readRoad, seX5_readRoad, iniX5, cdX5_readRoad, ⟨by decide +kernel, by decide +kernel⟩, by decide +kernel, by decide⟩
abbrev mX5_readHint : MT := (yX5_readHint, cX5_readHint, 2, none)
set_option maxRecDepth 100000 in
theorem cdX5_readHint : Cond.code yX5_readHint cX5_readHint 2 none ∈ TB := TB_of (tin_3 (TB_at 112 rfl)) rfl
set_option maxRecDepth 100000 in
theorem imX5_readHint : Cond.instanceMethod yX5_readHint ∈ TB := TB_of (tin_3 (TB_at 111 rfl)) rfl
set_option maxRecDepth 100000 in
theorem seX5_readHint : Cond.selects RX5 yX5_readHint yX5_readHint ∈ TB := TB_of (tin_0 (TB_at 18 rfl)) rfl
theorem kX5_readHint : MKv mX5_readHint 0 := ⟨imX5_readHint, seX5_readHint, iniX5, cdX5_readHint, ⟨by decide +kernel, by decide +kernel⟩, by decide +kernel, by decide⟩
abbrev mX5_isTooDeep : MT := (yX5_isTooDeep, cX5_isTooDeep, 2, (some .boolean))
set_option maxRecDepth 100000 in
theorem cdX5_isTooDeep : Cond.code yX5_isTooDeep cX5_isTooDeep 2 (some .boolean) ∈ TB := TB_of (tin_3 (TB_at 96 rfl)) rfl
set_option maxRecDepth 100000 in
theorem imX5_isTooDeep : Cond.instanceMethod yX5_isTooDeep ∈ TB := TB_of (tin_3 (TB_at 95 rfl)) rfl
set_option maxRecDepth 100000 in
theorem seX5_isTooDeep : Cond.selects RX5 yX5_isTooDeep yX5_isTooDeep ∈ TB := TB_of (tin_0 (TB_at 15 rfl)) rfl
theorem kX5_isTooDeep : MKv mX5_isTooDeep 1 := ⟨imX5_isTooDeep, seX5_isTooDeep, iniX5, cdX5_isTooDeep, ⟨by decide +kernel, by decide +kernel⟩, by decide +kernel, by decide⟩
abbrev mX5_readTruth : MT := (yX5_readTruth, cX5_readTruth, 3, none)
set_option maxRecDepth 100000 in
theorem cdX5_readTruth : Cond.code yX5_readTruth cX5_readTruth 3 none ∈ TB := TB_of (tin_3 (TB_at 68 rfl)) rfl
set_option maxRecDepth 100000 in
theorem imX5_readTruth : Cond.instanceMethod yX5_readTruth ∈ TB := TB_of (tin_3 (TB_at 67 rfl)) rfl
set_option maxRecDepth 100000 in
theorem seX5_readTruth : Cond.selects RX5 yX5_readTruth yX5_readTruth ∈ TB := TB_of (tin_0 (TB_at 9 rfl)) rfl
theorem kX5_readTruth : MKv mX5_readTruth 1 := ⟨imX5_readTruth, seX5_readTruth, iniX5, cdX5_readTruth, ⟨by decide +kernel, by decide +kernel⟩, by decide +kernel, by decide⟩
abbrev mX5_readBoth : MT := (yX5_readBoth, cX5_readBoth, 3, none)
set_option maxRecDepth 100000 in
theorem cdX5_readBoth : Cond.code yX5_readBoth cX5_readBoth 3 none ∈ TB := TB_of (tin_3 (TB_at 72 rfl)) rfl
set_option maxRecDepth 100000 in
theorem imX5_readBoth : Cond.instanceMethod yX5_readBoth ∈ TB := TB_of (tin_3 (TB_at 71 rfl)) rfl
set_option maxRecDepth 100000 in
theorem seX5_readBoth : Cond.selects RX5 yX5_readBoth yX5_readBoth ∈ TB := TB_of (tin_0 (TB_at 10 rfl)) rfl
theorem kX5_readBoth : MKv mX5_readBoth 1 := ⟨imX5_readBoth, seX5_readBoth, iniX5, cdX5_readBoth, ⟨by decide +kernel, by decide +kernel⟩, by decide +kernel, by decide⟩
abbrev mX5_readUnit : MT := (yX5_readUnit, cX5_readUnit, 4, none)
set_option maxRecDepth 100000 in
theorem cdX5_readUnit : Cond.code yX5_readUnit cX5_readUnit 4 none ∈ TB := TB_of (tin_3 (TB_at 76 rfl)) rfl
set_option maxRecDepth 100000 in
theorem imX5_readUnit : Cond.instanceMethod yX5_readUnit ∈ TB := TB_of (tin_3 (TB_at 75 rfl)) rfl
set_option maxRecDepth 100000 in
theorem seX5_readUnit : Cond.selects RX5 yX5_readUnit yX5_readUnit ∈ TB := TB_of (tin_0 (TB_at 11 rfl)) rfl
theorem kX5_readUnit : MKv mX5_readUnit 1 := ⟨imX5_readUnit, seX5_readUnit, iniX5, cdX5_readUnit, ⟨by decide +kernel, by decide +kernel⟩, by decide +kernel, by decide⟩
abbrev mX5_readSum : MT := (yX5_readSum, cX5_readSum, 4, none)
set_option maxRecDepth 100000 in
theorem cdX5_readSum : Cond.code yX5_readSum cX5_readSum 4 none ∈ TB := TB_of (tin_3 (TB_at 80 rfl)) rfl
set_option maxRecDepth 100000 in
theorem imX5_readSum : Cond.instanceMethod yX5_readSum ∈ TB := TB_of (tin_3 (TB_at 79 rfl)) rfl
set_option maxRecDepth 100000 in
theorem seX5_readSum : Cond.selects RX5 yX5_readSum yX5_readSum ∈ TB := TB_of (tin_0 (TB_at 12 rfl)) rfl
theorem kX5_readSum : MKv mX5_readSum 1 := ⟨imX5_readSum, seX5_readSum, iniX5, cdX5_readSum, ⟨by decide +kernel, by decide +kernel⟩, by decide +kernel, by decide⟩
abbrev mX5_readTerm : MT := (yX5_readTerm, cX5_readTerm, 3, none)
set_option maxRecDepth 100000 in
theorem cdX5_readTerm : Cond.code yX5_readTerm cX5_readTerm 3 none ∈ TB := TB_of (tin_3 (TB_at 84 rfl)) rfl
set_option maxRecDepth 100000 in
theorem imX5_readTerm : Cond.instanceMethod yX5_readTerm ∈ TB := TB_of (tin_3 (TB_at 83 rfl)) rfl
set_option maxRecDepth 100000 in
theorem seX5_readTerm : Cond.selects RX5 yX5_readTerm yX5_readTerm ∈ TB := TB_of (tin_0 (TB_at 13 rfl)) rfl
theorem kX5_readTerm : MKv mX5_readTerm 1 := ⟨imX5_readTerm, seX5_readTerm, iniX5, cdX5_readTerm, ⟨by decide +kernel, by decide +kernel⟩, by decide +kernel, by decide⟩
abbrev mX5_readAtom : MT := (yX5_readAtom, cX5_readAtom, 2, none)
set_option maxRecDepth 100000 in
theorem cdX5_readAtom : Cond.code yX5_readAtom cX5_readAtom 2 none ∈ TB := TB_of (tin_3 (TB_at 88 rfl)) rfl
set_option maxRecDepth 100000 in
theorem imX5_readAtom : Cond.instanceMethod yX5_readAtom ∈ TB := TB_of (tin_3 (TB_at 87 rfl)) rfl
set_option maxRecDepth 100000 in
theorem seX5_readAtom : Cond.selects RX5 yX5_readAtom yX5_readAtom ∈ TB := TB_of (tin_0 (TB_at 14 rfl)) rfl
theorem kX5_readAtom : MKv mX5_readAtom 1 := ⟨imX5_readAtom, seX5_readAtom, iniX5, cdX5_readAtom, ⟨by decide +kernel, by decide +kernel⟩, by decide +kernel, by decide⟩
abbrev mX6_init : MT := (yX6_init, cX6_init, 1, none)
abbrev mX6_isMissing : MT := (yX6_isMissing, cX6_isMissing, 1, (some .boolean))
set_option maxRecDepth 100000 in
theorem cdX6_isMissing : Cond.code yX6_isMissing cX6_isMissing 1 (some .boolean) ∈ TB := TB_of (tin_4 (TB_at 49 rfl)) rfl
set_option maxRecDepth 100000 in
theorem imX6_isMissing : Cond.instanceMethod yX6_isMissing ∈ TB := TB_of (tin_4 (TB_at 47 rfl)) rfl
set_option maxRecDepth 100000 in
theorem seX6_isMissing : Cond.selects RX6 yX6_isMissing yX6_isMissing ∈ TB := TB_of (tin_4 (TB_at 48 rfl)) rfl
theorem kX6_isMissing : MKv mX6_isMissing 0 := ⟨imX6_isMissing, seX6_isMissing, iniX6, cdX6_isMissing, ⟨by decide +kernel, by decide +kernel⟩, by decide +kernel, by decide⟩
abbrev mX6_renew : MT := (yX6_renew, cX6_renew, 3, none)
set_option maxRecDepth 100000 in
theorem cdX6_renew : Cond.code yX6_renew cX6_renew 3 none ∈ TB := TB_of (tin_5 (TB_at 119 rfl)) rfl
set_option maxRecDepth 100000 in
theorem imX6_renew : Cond.instanceMethod yX6_renew ∈ TB := TB_of (tin_5 (TB_at 117 rfl)) rfl
set_option maxRecDepth 100000 in
theorem seX6_renew : Cond.selects RX6 yX6_renew yX6_renew ∈ TB := TB_of (tin_5 (TB_at 118 rfl)) rfl
theorem kX6_renew : MKv mX6_renew 2 := ⟨imX6_renew, seX6_renew, iniX6, cdX6_renew, ⟨by decide +kernel, by decide +kernel⟩, by decide +kernel, by decide⟩
abbrev mX6_put : MT := (yX6_put, cX6_put, 4, none)
set_option maxRecDepth 100000 in
theorem cdX6_put : Cond.code yX6_put cX6_put 4 none ∈ TB := TB_of (tin_5 (TB_at 133 rfl)) rfl
set_option maxRecDepth 100000 in
theorem imX6_put : Cond.instanceMethod yX6_put ∈ TB := TB_of (tin_5 (TB_at 131 rfl)) rfl
set_option maxRecDepth 100000 in
theorem seX6_put : Cond.selects RX6 yX6_put yX6_put ∈ TB := TB_of (tin_5 (TB_at 132 rfl)) rfl
theorem kX6_put : MKv mX6_put 2 := ⟨imX6_put, seX6_put, iniX6, cdX6_put, ⟨by decide +kernel, by decide +kernel⟩, by decide +kernel, by decide⟩
abbrev mX7_init : MT := (yX7_init, cX7_init, 1, none)
abbrev mX7_find : MT := (yX7_find, cX7_find, 6, none)
set_option maxRecDepth 100000 in
theorem cdX7_find : Cond.code yX7_find cX7_find 6 none ∈ TB := TB_of (tin_4 (TB_at 184 rfl)) rfl
set_option maxRecDepth 100000 in
theorem imX7_find : Cond.instanceMethod yX7_find ∈ TB := TB_of (tin_4 (TB_at 182 rfl)) rfl
set_option maxRecDepth 100000 in
theorem seX7_find : Cond.selects RX7 yX7_find yX7_find ∈ TB := TB_of (tin_4 (TB_at 183 rfl)) rfl
theorem kX7_find : MKv mX7_find 3 := ⟨imX7_find, seX7_find, iniX7, cdX7_find, ⟨by decide +kernel, by decide +kernel⟩, by decide +kernel, by decide⟩
abbrev mX7_findExtremes : MT := (yX7_findExtremes, cX7_findExtremes, 7, none)
set_option maxRecDepth 100000 in
theorem cdX7_findExtremes : Cond.code yX7_findExtremes cX7_findExtremes 7 none ∈ TB := TB_of (tin_4 (TB_at 191 rfl)) rfl
set_option maxRecDepth 100000 in
theorem imX7_findExtremes : Cond.instanceMethod yX7_findExtremes ∈ TB := TB_of (tin_4 (TB_at 190 rfl)) rfl
set_option maxRecDepth 100000 in
theorem seX7_findExtremes : Cond.selects RX7 yX7_findExtremes yX7_findExtremes ∈ TB := TB_of (tin_0 (TB_at 30 rfl)) rfl
theorem kX7_findExtremes : MKv mX7_findExtremes 3 := ⟨imX7_findExtremes, seX7_findExtremes, iniX7, cdX7_findExtremes, ⟨by decide +kernel, by decide +kernel⟩, by decide +kernel, by decide⟩
abbrev mX7_findBest : MT := (yX7_findBest, cX7_findBest, 8, none)
set_option maxRecDepth 100000 in
theorem cdX7_findBest : Cond.code yX7_findBest cX7_findBest 8 none ∈ TB := TB_of (tin_4 (TB_at 197 rfl)) rfl
set_option maxRecDepth 100000 in
theorem imX7_findBest : Cond.instanceMethod yX7_findBest ∈ TB := TB_of (tin_4 (TB_at 196 rfl)) rfl
set_option maxRecDepth 100000 in
theorem seX7_findBest : Cond.selects RX7 yX7_findBest yX7_findBest ∈ TB := TB_of (tin_0 (TB_at 31 rfl)) rfl
theorem kX7_findBest : MKv mX7_findBest 3 := ⟨imX7_findBest, seX7_findBest, iniX7, cdX7_findBest, ⟨by decide +kernel, by decide +kernel⟩, by decide +kernel, by decide⟩
abbrev mX7_takeIfBetter : MT := (yX7_takeIfBetter, cX7_takeIfBetter, 6, none)
set_option maxRecDepth 100000 in
theorem cdX7_takeIfBetter : Cond.code yX7_takeIfBetter cX7_takeIfBetter 6 none ∈ TB := TB_of (tin_4 (TB_at 206 rfl)) rfl
set_option maxRecDepth 100000 in
theorem imX7_takeIfBetter : Cond.instanceMethod yX7_takeIfBetter ∈ TB := TB_of (tin_4 (TB_at 205 rfl)) rfl
set_option maxRecDepth 100000 in
theorem seX7_takeIfBetter : Cond.selects RX7 yX7_takeIfBetter yX7_takeIfBetter ∈ TB := TB_of (tin_0 (TB_at 32 rfl)) rfl
theorem kX7_takeIfBetter : MKv mX7_takeIfBetter 2 := ⟨imX7_takeIfBetter, seX7_takeIfBetter, iniX7, cdX7_takeIfBetter, ⟨by decide +kernel, by decide +kernel⟩, by decide +kernel, by decide⟩
abbrev mX7_isAhead : MT := (yX7_isAhead, cX7_isAhead, 5, (some .boolean))
set_option maxRecDepth 100000 in
theorem cdX7_isAhead : Cond.code yX7_isAhead cX7_isAhead 5 (some .boolean) ∈ TB := TB_of (tin_4 (TB_at 210 rfl)) rfl
set_option maxRecDepth 100000 in
theorem imX7_isAhead : Cond.instanceMethod yX7_isAhead ∈ TB := TB_of (tin_4 (TB_at 209 rfl)) rfl
set_option maxRecDepth 100000 in
theorem seX7_isAhead : Cond.selects RX7 yX7_isAhead yX7_isAhead ∈ TB := TB_of (tin_0 (TB_at 33 rfl)) rfl
theorem kX7_isAhead : MKv mX7_isAhead 2 := ⟨imX7_isAhead, seX7_isAhead, iniX7, cdX7_isAhead, ⟨by decide +kernel, by decide +kernel⟩, by decide +kernel, by decide⟩
abbrev mX8_init : MT := (yX8_init, cX8_init, 1, none)
abbrev mX8_clear : MT := (yX8_clear, cX8_clear, 1, none)
set_option maxRecDepth 100000 in
theorem cdX8_clear : Cond.code yX8_clear cX8_clear 1 none ∈ TB := TB_of (tin_2 (TB_at 177 rfl)) rfl
set_option maxRecDepth 100000 in
theorem imX8_clear : Cond.instanceMethod yX8_clear ∈ TB := TB_of (tin_2 (TB_at 175 rfl)) rfl
set_option maxRecDepth 100000 in
theorem seX8_clear : Cond.selects RX8 yX8_clear yX8_clear ∈ TB := TB_of (tin_2 (TB_at 176 rfl)) rfl
theorem kX8_clear : MKv mX8_clear 0 := ⟨imX8_clear, seX8_clear, iniX8, cdX8_clear, ⟨by decide +kernel, by decide +kernel⟩, by decide +kernel, by decide⟩
abbrev mX8_become : MT := (yX8_become, cX8_become, 2, none)
set_option maxRecDepth 100000 in
theorem cdX8_become : Cond.code yX8_become cX8_become 2 none ∈ TB := TB_of (tin_3 (TB_at 151 rfl)) rfl
set_option maxRecDepth 100000 in
theorem imX8_become : Cond.instanceMethod yX8_become ∈ TB := TB_of (tin_3 (TB_at 149 rfl)) rfl
set_option maxRecDepth 100000 in
theorem seX8_become : Cond.selects RX8 yX8_become yX8_become ∈ TB := TB_of (tin_3 (TB_at 150 rfl)) rfl
theorem kX8_become : MKv mX8_become 1 := ⟨imX8_become, seX8_become, iniX8, cdX8_become, ⟨by decide +kernel, by decide +kernel⟩, by decide +kernel, by decide⟩
abbrev mX8_isAsked : MT := (yX8_isAsked, cX8_isAsked, 5, (some .boolean))
set_option maxRecDepth 100000 in
theorem cdX8_isAsked : Cond.code yX8_isAsked cX8_isAsked 5 (some .boolean) ∈ TB := TB_of (tin_4 (TB_at 12 rfl)) rfl
set_option maxRecDepth 100000 in
theorem imX8_isAsked : Cond.instanceMethod yX8_isAsked ∈ TB := TB_of (tin_4 (TB_at 10 rfl)) rfl
set_option maxRecDepth 100000 in
theorem seX8_isAsked : Cond.selects RX8 yX8_isAsked yX8_isAsked ∈ TB := TB_of (tin_4 (TB_at 11 rfl)) rfl
theorem kX8_isAsked : MKv mX8_isAsked 3 := ⟨imX8_isAsked, seX8_isAsked, iniX8, cdX8_isAsked, ⟨by decide +kernel, by decide +kernel⟩, by decide +kernel, by decide⟩
abbrev mX8_passDay : MT := (yX8_passDay, cX8_passDay, 5, (some .boolean))
set_option maxRecDepth 100000 in
theorem cdX8_passDay : Cond.code yX8_passDay cX8_passDay 5 (some .boolean) ∈ TB := TB_of (tin_4 (TB_at 26 rfl)) rfl
set_option maxRecDepth 100000 in
theorem imX8_passDay : Cond.instanceMethod yX8_passDay ∈ TB := TB_of (tin_4 (TB_at 25 rfl)) rfl
set_option maxRecDepth 100000 in
theorem seX8_passDay : Cond.selects RX8 yX8_passDay yX8_passDay ∈ TB := TB_of (tin_0 (TB_at 24 rfl)) rfl
theorem kX8_passDay : MKv mX8_passDay 1 := ⟨imX8_passDay, seX8_passDay, iniX8, cdX8_passDay, ⟨by decide +kernel, by decide +kernel⟩, by decide +kernel, by decide⟩
abbrev mX8_passDays : MT := (yX8_passDays, cX8_passDays, 4, (some .int))
set_option maxRecDepth 100000 in
theorem cdX8_passDays : Cond.code yX8_passDays cX8_passDays 4 (some .int) ∈ TB := TB_of (tin_4 (TB_at 22 rfl)) rfl
set_option maxRecDepth 100000 in
theorem imX8_passDays : Cond.instanceMethod yX8_passDays ∈ TB := TB_of (tin_4 (TB_at 20 rfl)) rfl
set_option maxRecDepth 100000 in
theorem seX8_passDays : Cond.selects RX8 yX8_passDays yX8_passDays ∈ TB := TB_of (tin_4 (TB_at 21 rfl)) rfl
theorem kX8_passDays : MKv mX8_passDays 2 := ⟨imX8_passDays, seX8_passDays, iniX8, cdX8_passDays, ⟨by decide +kernel, by decide +kernel⟩, by decide +kernel, by decide⟩
abbrev mX8_doDeeds : MT := (yX8_doDeeds, cX8_doDeeds, 6, (some .int))
set_option maxRecDepth 100000 in
theorem cdX8_doDeeds : Cond.code yX8_doDeeds cX8_doDeeds 6 (some .int) ∈ TB := TB_of (tin_4 (TB_at 65 rfl)) rfl
set_option maxRecDepth 100000 in
theorem imX8_doDeeds : Cond.instanceMethod yX8_doDeeds ∈ TB := TB_of (tin_4 (TB_at 63 rfl)) rfl
set_option maxRecDepth 100000 in
theorem seX8_doDeeds : Cond.selects RX8 yX8_doDeeds yX8_doDeeds ∈ TB := TB_of (tin_4 (TB_at 64 rfl)) rfl
theorem kX8_doDeeds : MKv mX8_doDeeds 3 := ⟨imX8_doDeeds, seX8_doDeeds, iniX8, cdX8_doDeeds, ⟨by decide +kernel, by decide +kernel⟩, by decide +kernel, by decide⟩
abbrev mX8_isDone : MT := (yX8_isDone, cX8_isDone, 5, (some .boolean))
set_option maxRecDepth 100000 in
theorem cdX8_isDone : Cond.code yX8_isDone cX8_isDone 5 (some .boolean) ∈ TB := TB_of (tin_4 (TB_at 70 rfl)) rfl
set_option maxRecDepth 100000 in
theorem imX8_isDone : Cond.instanceMethod yX8_isDone ∈ TB := TB_of (tin_4 (TB_at 69 rfl)) rfl
set_option maxRecDepth 100000 in
theorem seX8_isDone : Cond.selects RX8 yX8_isDone yX8_isDone ∈ TB := TB_of (tin_0 (TB_at 25 rfl)) rfl
theorem kX8_isDone : MKv mX8_isDone 2 := ⟨imX8_isDone, seX8_isDone, iniX8, cdX8_isDone, ⟨by decide +kernel, by decide +kernel⟩, by decide +kernel, by decide⟩
abbrev mX8_draw : MT := (yX8_draw, cX8_draw, 2, (some .int))
set_option maxRecDepth 100000 in
theorem cdX8_draw : Cond.code yX8_draw cX8_draw 2 (some .int) ∈ TB := TB_of (tin_4 (TB_at 105 rfl)) rfl
set_option maxRecDepth 100000 in
theorem imX8_draw : Cond.instanceMethod yX8_draw ∈ TB := TB_of (tin_4 (TB_at 104 rfl)) rfl
set_option maxRecDepth 100000 in
theorem seX8_draw : Cond.selects RX8 yX8_draw yX8_draw ∈ TB := TB_of (tin_0 (TB_at 26 rfl)) rfl
theorem kX8_draw : MKv mX8_draw 1 := ⟨imX8_draw, seX8_draw, iniX8, cdX8_draw, ⟨by decide +kernel, by decide +kernel⟩, by decide +kernel, by decide⟩
abbrev mX8_passYear : MT := (yX8_passYear, cX8_passYear, 8, none)
set_option maxRecDepth 100000 in
theorem cdX8_passYear : Cond.code yX8_passYear cX8_passYear 8 none ∈ TB := TB_of (tin_4 (TB_at 101 rfl)) rfl
set_option maxRecDepth 100000 in
theorem imX8_passYear : Cond.instanceMethod yX8_passYear ∈ TB := TB_of (tin_4 (TB_at 99 rfl)) rfl
set_option maxRecDepth 100000 in
theorem seX8_passYear : Cond.selects RX8 yX8_passYear yX8_passYear ∈ TB := TB_of (tin_4 (TB_at 100 rfl)) rfl
theorem kX8_passYear : MKv mX8_passYear 3 := ⟨imX8_passYear, seX8_passYear, iniX8, cdX8_passYear, ⟨by decide +kernel, by decide +kernel⟩, by decide +kernel, by decide⟩
abbrev mX9_init : MT := (yX9_init, cX9_init, 1, none)
abbrev mX9_cut : MT := (yX9_cut, cX9_cut, 6, none)
set_option maxRecDepth 100000 in
theorem cdX9_cut : Cond.code yX9_cut cX9_cut 6 none ∈ TB := TB_of (tin_2 (TB_at 186 rfl)) rfl
set_option maxRecDepth 100000 in
theorem imX9_cut : Cond.instanceMethod yX9_cut ∈ TB := TB_of (tin_2 (TB_at 184 rfl)) rfl
set_option maxRecDepth 100000 in
theorem seX9_cut : Cond.selects RX9 yX9_cut yX9_cut ∈ TB := TB_of (tin_2 (TB_at 185 rfl)) rfl
theorem kX9_cut : MKv mX9_cut 2 := ⟨imX9_cut, seX9_cut, iniX9, cdX9_cut, ⟨by decide +kernel, by decide +kernel⟩, by decide +kernel, by decide⟩
abbrev mX9_isLetter : MT := (yX9_isLetter, cX9_isLetter, 1, (some .boolean))
set_option maxRecDepth 100000 in
theorem cdX9_isLetter : Cond.code yX9_isLetter cX9_isLetter 1 (some .boolean) ∈ TB := TB_of (tin_2 (TB_at 192 rfl)) rfl
set_option maxRecDepth 100000 in
theorem stX9_isLetter : Cond.static yX9_isLetter ∈ TB := TB_of (tin_2 (TB_at 191 rfl)) rfl
theorem kX9_isLetter : MKs mX9_isLetter 1 := ⟨stX9_isLetter, iniX9, cdX9_isLetter, ⟨by decide +kernel, by decide +kernel⟩, by decide +kernel, by decide⟩
abbrev mX9_isDigit : MT := (yX9_isDigit, cX9_isDigit, 1, (some .boolean))
set_option maxRecDepth 100000 in
theorem cdX9_isDigit : Cond.code yX9_isDigit cX9_isDigit 1 (some .boolean) ∈ TB := TB_of (tin_2 (TB_at 195 rfl)) rfl
set_option maxRecDepth 100000 in
theorem stX9_isDigit : Cond.static yX9_isDigit ∈ TB := TB_of (tin_2 (TB_at 194 rfl)) rfl
theorem kX9_isDigit : MKs mX9_isDigit 1 := ⟨stX9_isDigit, iniX9, cdX9_isDigit, ⟨by decide +kernel, by decide +kernel⟩, by decide +kernel, by decide⟩
abbrev mX9_endOf : MT := (yX9_endOf, cX9_endOf, 4, (some .int))
set_option maxRecDepth 100000 in
theorem cdX9_endOf : Cond.code yX9_endOf cX9_endOf 4 (some .int) ∈ TB := TB_of (tin_2 (TB_at 189 rfl)) rfl
set_option maxRecDepth 100000 in
theorem stX9_endOf : Cond.static yX9_endOf ∈ TB := TB_of (tin_2 (TB_at 188 rfl)) rfl
theorem kX9_endOf : MKs mX9_endOf 3 := ⟨stX9_endOf, iniX9, cdX9_endOf, ⟨by decide +kernel, by decide +kernel⟩, by decide +kernel, by decide⟩
abbrev mX9_valueOf : MT := (yX9_valueOf, cX9_valueOf, 5, (some .int))
set_option maxRecDepth 100000 in
theorem cdX9_valueOf : Cond.code yX9_valueOf cX9_valueOf 5 (some .int) ∈ TB := TB_of (tin_3 (TB_at 32 rfl)) rfl
set_option maxRecDepth 100000 in
theorem stX9_valueOf : Cond.static yX9_valueOf ∈ TB := TB_of (tin_3 (TB_at 31 rfl)) rfl
theorem kX9_valueOf : MKs mX9_valueOf 3 := ⟨stX9_valueOf, iniX9, cdX9_valueOf, ⟨by decide +kernel, by decide +kernel⟩, by decide +kernel, by decide⟩
abbrev mX9_kindOf : MT := (yX9_kindOf, cX9_kindOf, 4, (some .int))
set_option maxRecDepth 100000 in
theorem cdX9_kindOf : Cond.code yX9_kindOf cX9_kindOf 4 (some .int) ∈ TB := TB_of (tin_2 (TB_at 198 rfl)) rfl
set_option maxRecDepth 100000 in
theorem stX9_kindOf : Cond.static yX9_kindOf ∈ TB := TB_of (tin_2 (TB_at 197 rfl)) rfl
theorem kX9_kindOf : MKs mX9_kindOf 3 := ⟨stX9_kindOf, iniX9, cdX9_kindOf, ⟨by decide +kernel, by decide +kernel⟩, by decide +kernel, by decide⟩
abbrev mX9_wordKind : MT := (yX9_wordKind, cX9_wordKind, 3, (some .int))
set_option maxRecDepth 100000 in
theorem cdX9_wordKind : Cond.code yX9_wordKind cX9_wordKind 3 (some .int) ∈ TB := TB_of (tin_2 (TB_at 201 rfl)) rfl
set_option maxRecDepth 100000 in
theorem stX9_wordKind : Cond.static yX9_wordKind ∈ TB := TB_of (tin_2 (TB_at 200 rfl)) rfl
theorem kX9_wordKind : MKs mX9_wordKind 3 := ⟨stX9_wordKind, iniX9, cdX9_wordKind, ⟨by decide +kernel, by decide +kernel⟩, by decide +kernel, by decide⟩
abbrev mX9_spelled : MT := (yX9_spelled, cX9_spelled, 6, (some .int))
set_option maxRecDepth 100000 in
theorem cdX9_spelled : Cond.code yX9_spelled cX9_spelled 6 (some .int) ∈ TB := TB_of (tin_2 (TB_at 205 rfl)) rfl
set_option maxRecDepth 100000 in
theorem stX9_spelled : Cond.static yX9_spelled ∈ TB := TB_of (tin_2 (TB_at 204 rfl)) rfl
theorem kX9_spelled : MKs mX9_spelled 5 := ⟨stX9_spelled, iniX9, cdX9_spelled, ⟨by decide +kernel, by decide +kernel⟩, by decide +kernel, by decide⟩
abbrev mX10_init : MT := (yX10_init, cX10_init, 1, none)
abbrev mX10_fewestFacts : MT := (yX10_fewestFacts, cX10_fewestFacts, 4, (some .int))
set_option maxRecDepth 100000 in
theorem cdX10_fewestFacts : Cond.code yX10_fewestFacts cX10_fewestFacts 4 (some .int) ∈ TB := TB_of (tin_5 (TB_at 25 rfl)) rfl
set_option maxRecDepth 100000 in
theorem imX10_fewestFacts : Cond.instanceMethod yX10_fewestFacts ∈ TB := TB_of (tin_5 (TB_at 23 rfl)) rfl
set_option maxRecDepth 100000 in
theorem seX10_fewestFacts : Cond.selects RX10 yX10_fewestFacts yX10_fewestFacts ∈ TB := TB_of (tin_5 (TB_at 24 rfl)) rfl
theorem kX10_fewestFacts : MKv mX10_fewestFacts 2 := ⟨imX10_fewestFacts, seX10_fewestFacts, iniX10, cdX10_fewestFacts, ⟨by decide +kernel, by decide +kernel⟩, by decide +kernel, by decide⟩
abbrev mX10_firstFact : MT := (yX10_firstFact, cX10_firstFact, 5, (some .int))
set_option maxRecDepth 100000 in
theorem cdX10_firstFact : Cond.code yX10_firstFact cX10_firstFact 5 (some .int) ∈ TB := TB_of (tin_5 (TB_at 41 rfl)) rfl
set_option maxRecDepth 100000 in
theorem imX10_firstFact : Cond.instanceMethod yX10_firstFact ∈ TB := TB_of (tin_5 (TB_at 39 rfl)) rfl
set_option maxRecDepth 100000 in
theorem seX10_firstFact : Cond.selects RX10 yX10_firstFact yX10_firstFact ∈ TB := TB_of (tin_5 (TB_at 40 rfl)) rfl
theorem kX10_firstFact : MKv mX10_firstFact 3 := ⟨imX10_firstFact, seX10_firstFact, iniX10, cdX10_firstFact, ⟨by decide +kernel, by decide +kernel⟩, by decide +kernel, by decide⟩
abbrev mX10_fewestBehind : MT := (yX10_fewestBehind, cX10_fewestBehind, 7, (some .int))
set_option maxRecDepth 100000 in
theorem cdX10_fewestBehind : Cond.code yX10_fewestBehind cX10_fewestBehind 7 (some .int) ∈ TB := TB_of (tin_5 (TB_at 29 rfl)) rfl
set_option maxRecDepth 100000 in
theorem imX10_fewestBehind : Cond.instanceMethod yX10_fewestBehind ∈ TB := TB_of (tin_5 (TB_at 28 rfl)) rfl
set_option maxRecDepth 100000 in
theorem seX10_fewestBehind : Cond.selects RX10 yX10_fewestBehind yX10_fewestBehind ∈ TB := TB_of (tin_0 (TB_at 39 rfl)) rfl
theorem kX10_fewestBehind : MKv mX10_fewestBehind 4 := ⟨imX10_fewestBehind, seX10_fewestBehind, iniX10, cdX10_fewestBehind, ⟨by decide +kernel, by decide +kernel⟩, by decide +kernel, by decide⟩
abbrev mX10_fewestBy : MT := (yX10_fewestBy, cX10_fewestBy, 8, (some .int))
set_option maxRecDepth 100000 in
theorem cdX10_fewestBy : Cond.code yX10_fewestBy cX10_fewestBy 8 (some .int) ∈ TB := TB_of (tin_5 (TB_at 34 rfl)) rfl
set_option maxRecDepth 100000 in
theorem imX10_fewestBy : Cond.instanceMethod yX10_fewestBy ∈ TB := TB_of (tin_5 (TB_at 33 rfl)) rfl
set_option maxRecDepth 100000 in
theorem seX10_fewestBy : Cond.selects RX10 yX10_fewestBy yX10_fewestBy ∈ TB := TB_of (tin_0 (TB_at 40 rfl)) rfl
theorem kX10_fewestBy : MKv mX10_fewestBy 5 := ⟨imX10_fewestBy, seX10_fewestBy, iniX10, cdX10_fewestBy, ⟨by decide +kernel, by decide +kernel⟩, by decide +kernel, by decide⟩
abbrev mX11_init : MT := (yX11_init, cX11_init, 2, none)
abbrev mX11_feed : MT := (yX11_feed, cX11_feed, 6, (some .int))
set_option maxRecDepth 100000 in
theorem cdX11_feed : Cond.code yX11_feed cX11_feed 6 (some .int) ∈ TB := TB_of (tin_2 (TB_at 154 rfl)) rfl
set_option maxRecDepth 100000 in
theorem imX11_feed : Cond.instanceMethod yX11_feed ∈ TB := TB_of (tin_2 (TB_at 152 rfl)) rfl
set_option maxRecDepth 100000 in
theorem seX11_feed : Cond.selects RX11 yX11_feed yX11_feed ∈ TB := TB_of (tin_2 (TB_at 153 rfl)) rfl
theorem kX11_feed : MKv mX11_feed 5 := ⟨imX11_feed, seX11_feed, iniX11, cdX11_feed, ⟨by decide +kernel, by decide +kernel⟩, by decide +kernel, by decide⟩
abbrev mX11_putOnTape : MT := (yX11_putOnTape, cX11_putOnTape, 3, none)
set_option maxRecDepth 100000 in
theorem cdX11_putOnTape : Cond.code yX11_putOnTape cX11_putOnTape 3 none ∈ TB := TB_of (tin_2 (TB_at 158 rfl)) rfl
set_option maxRecDepth 100000 in
theorem imX11_putOnTape : Cond.instanceMethod yX11_putOnTape ∈ TB := TB_of (tin_2 (TB_at 157 rfl)) rfl
set_option maxRecDepth 100000 in
theorem seX11_putOnTape : Cond.selects RX11 yX11_putOnTape yX11_putOnTape ∈ TB := TB_of (tin_0 (TB_at 0 rfl)) rfl
theorem kX11_putOnTape : MKv mX11_putOnTape 1 := ⟨imX11_putOnTape, seX11_putOnTape, iniX11, cdX11_putOnTape, ⟨by decide +kernel, by decide +kernel⟩, by decide +kernel, by decide⟩
abbrev mX11_land : MT := (yX11_land, cX11_land, 2, (some .int))
set_option maxRecDepth 100000 in
theorem cdX11_land : Cond.code yX11_land cX11_land 2 (some .int) ∈ TB := TB_of (tin_2 (TB_at 162 rfl)) rfl
set_option maxRecDepth 100000 in
theorem imX11_land : Cond.instanceMethod yX11_land ∈ TB := TB_of (tin_2 (TB_at 160 rfl)) rfl
set_option maxRecDepth 100000 in
theorem seX11_land : Cond.selects RX11 yX11_land yX11_land ∈ TB := TB_of (tin_2 (TB_at 161 rfl)) rfl
theorem kX11_land : MKv mX11_land 1 := ⟨imX11_land, seX11_land, iniX11, cdX11_land, ⟨by decide +kernel, by decide +kernel⟩, by decide +kernel, by decide⟩
abbrev mX11_fault : MT := (yX11_fault, cX11_fault, 2, (some .int))
set_option maxRecDepth 100000 in
theorem cdX11_fault : Cond.code yX11_fault cX11_fault 2 (some .int) ∈ TB := TB_of (tin_3 (TB_at 160 rfl)) rfl
set_option maxRecDepth 100000 in
theorem imX11_fault : Cond.instanceMethod yX11_fault ∈ TB := TB_of (tin_3 (TB_at 158 rfl)) rfl
set_option maxRecDepth 100000 in
theorem seX11_fault : Cond.selects RX11 yX11_fault yX11_fault ∈ TB := TB_of (tin_3 (TB_at 159 rfl)) rfl
theorem kX11_fault : MKv mX11_fault 1 := ⟨imX11_fault, seX11_fault, iniX11, cdX11_fault, ⟨by decide +kernel, by decide +kernel⟩, by decide +kernel, by decide⟩
abbrev mX11_world : MT := (yX11_world, cX11_world, 3, (some .int))
set_option maxRecDepth 100000 in
theorem cdX11_world : Cond.code yX11_world cX11_world 3 (some .int) ∈ TB := TB_of (tin_3 (TB_at 164 rfl)) rfl
set_option maxRecDepth 100000 in
theorem imX11_world : Cond.instanceMethod yX11_world ∈ TB := TB_of (tin_3 (TB_at 162 rfl)) rfl
set_option maxRecDepth 100000 in
theorem seX11_world : Cond.selects RX11 yX11_world yX11_world ∈ TB := TB_of (tin_3 (TB_at 163 rfl)) rfl
theorem kX11_world : MKv mX11_world 2 := ⟨imX11_world, seX11_world, iniX11, cdX11_world, ⟨by decide +kernel, by decide +kernel⟩, by decide +kernel, by decide⟩
abbrev mX11_fact : MT := (yX11_fact, cX11_fact, 2, (some .int))
set_option maxRecDepth 100000 in
theorem cdX11_fact : Cond.code yX11_fact cX11_fact 2 (some .int) ∈ TB := TB_of (tin_3 (TB_at 176 rfl)) rfl
set_option maxRecDepth 100000 in
theorem imX11_fact : Cond.instanceMethod yX11_fact ∈ TB := TB_of (tin_3 (TB_at 174 rfl)) rfl
set_option maxRecDepth 100000 in
theorem seX11_fact : Cond.selects RX11 yX11_fact yX11_fact ∈ TB := TB_of (tin_3 (TB_at 175 rfl)) rfl
theorem kX11_fact : MKv mX11_fact 1 := ⟨imX11_fact, seX11_fact, iniX11, cdX11_fact, ⟨by decide +kernel, by decide +kernel⟩, by decide +kernel, by decide⟩
abbrev mX11_person : MT := (yX11_person, cX11_person, 4, (some .int))
set_option maxRecDepth 100000 in
theorem cdX11_person : Cond.code yX11_person cX11_person 4 (some .int) ∈ TB := TB_of (tin_3 (TB_at 184 rfl)) rfl
set_option maxRecDepth 100000 in
theorem imX11_person : Cond.instanceMethod yX11_person ∈ TB := TB_of (tin_3 (TB_at 182 rfl)) rfl
set_option maxRecDepth 100000 in
theorem seX11_person : Cond.selects RX11 yX11_person yX11_person ∈ TB := TB_of (tin_3 (TB_at 183 rfl)) rfl
theorem kX11_person : MKv mX11_person 2 := ⟨imX11_person, seX11_person, iniX11, cdX11_person, ⟨by decide +kernel, by decide +kernel⟩, by decide +kernel, by decide⟩
abbrev mX11_hints : MT := (yX11_hints, cX11_hints, 2, (some .int))
set_option maxRecDepth 100000 in
theorem cdX11_hints : Cond.code yX11_hints cX11_hints 2 (some .int) ∈ TB := TB_of (tin_3 (TB_at 220 rfl)) rfl
set_option maxRecDepth 100000 in
theorem imX11_hints : Cond.instanceMethod yX11_hints ∈ TB := TB_of (tin_3 (TB_at 218 rfl)) rfl
set_option maxRecDepth 100000 in
theorem seX11_hints : Cond.selects RX11 yX11_hints yX11_hints ∈ TB := TB_of (tin_3 (TB_at 219 rfl)) rfl
theorem kX11_hints : MKv mX11_hints 1 := ⟨imX11_hints, seX11_hints, iniX11, cdX11_hints, ⟨by decide +kernel, by decide +kernel⟩, by decide +kernel, by decide⟩
abbrev mX11_knows : MT := (yX11_knows, cX11_knows, 4, (some .int))
set_option maxRecDepth 100000 in
theorem cdX11_knows : Cond.code yX11_knows cX11_knows 4 (some .int) ∈ TB := TB_of (tin_3 (TB_at 224 rfl)) rfl
set_option maxRecDepth 100000 in
theorem imX11_knows : Cond.instanceMethod yX11_knows ∈ TB := TB_of (tin_3 (TB_at 222 rfl)) rfl
set_option maxRecDepth 100000 in
theorem seX11_knows : Cond.selects RX11 yX11_knows yX11_knows ∈ TB := TB_of (tin_3 (TB_at 223 rfl)) rfl
theorem kX11_knows : MKv mX11_knows 2 := ⟨imX11_knows, seX11_knows, iniX11, cdX11_knows, ⟨by decide +kernel, by decide +kernel⟩, by decide +kernel, by decide⟩
abbrev mX11_cell : MT := (yX11_cell, cX11_cell, 3, (some .int))
set_option maxRecDepth 100000 in
theorem cdX11_cell : Cond.code yX11_cell cX11_cell 3 (some .int) ∈ TB := TB_of (tin_3 (TB_at 229 rfl)) rfl
set_option maxRecDepth 100000 in
theorem imX11_cell : Cond.instanceMethod yX11_cell ∈ TB := TB_of (tin_3 (TB_at 227 rfl)) rfl
set_option maxRecDepth 100000 in
theorem seX11_cell : Cond.selects RX11 yX11_cell yX11_cell ∈ TB := TB_of (tin_3 (TB_at 228 rfl)) rfl
theorem kX11_cell : MKv mX11_cell 2 := ⟨imX11_cell, seX11_cell, iniX11, cdX11_cell, ⟨by decide +kernel, by decide +kernel⟩, by decide +kernel, by decide⟩
abbrev mX11_isWorld : MT := (yX11_isWorld, cX11_isWorld, 2, (some .boolean))
set_option maxRecDepth 100000 in
theorem cdX11_isWorld : Cond.code yX11_isWorld cX11_isWorld 2 (some .boolean) ∈ TB := TB_of (tin_3 (TB_at 168 rfl)) rfl
set_option maxRecDepth 100000 in
theorem imX11_isWorld : Cond.instanceMethod yX11_isWorld ∈ TB := TB_of (tin_3 (TB_at 167 rfl)) rfl
set_option maxRecDepth 100000 in
theorem seX11_isWorld : Cond.selects RX11 yX11_isWorld yX11_isWorld ∈ TB := TB_of (tin_0 (TB_at 20 rfl)) rfl
theorem kX11_isWorld : MKv mX11_isWorld 1 := ⟨imX11_isWorld, seX11_isWorld, iniX11, cdX11_isWorld, ⟨by decide +kernel, by decide +kernel⟩, by decide +kernel, by decide⟩
abbrev mX11_isFact : MT := (yX11_isFact, cX11_isFact, 2, (some .boolean))
set_option maxRecDepth 100000 in
theorem cdX11_isFact : Cond.code yX11_isFact cX11_isFact 2 (some .boolean) ∈ TB := TB_of (tin_3 (TB_at 180 rfl)) rfl
set_option maxRecDepth 100000 in
theorem imX11_isFact : Cond.instanceMethod yX11_isFact ∈ TB := TB_of (tin_3 (TB_at 179 rfl)) rfl
set_option maxRecDepth 100000 in
theorem seX11_isFact : Cond.selects RX11 yX11_isFact yX11_isFact ∈ TB := TB_of (tin_0 (TB_at 21 rfl)) rfl
theorem kX11_isFact : MKv mX11_isFact 1 := ⟨imX11_isFact, seX11_isFact, iniX11, cdX11_isFact, ⟨by decide +kernel, by decide +kernel⟩, by decide +kernel, by decide⟩
abbrev mX11_isPerson : MT := (yX11_isPerson, cX11_isPerson, 2, (some .boolean))
set_option maxRecDepth 100000 in
theorem cdX11_isPerson : Cond.code yX11_isPerson cX11_isPerson 2 (some .boolean) ∈ TB := TB_of (tin_3 (TB_at 188 rfl)) rfl
set_option maxRecDepth 100000 in
theorem imX11_isPerson : Cond.instanceMethod yX11_isPerson ∈ TB := TB_of (tin_3 (TB_at 187 rfl)) rfl
set_option maxRecDepth 100000 in
theorem seX11_isPerson : Cond.selects RX11 yX11_isPerson yX11_isPerson ∈ TB := TB_of (tin_0 (TB_at 22 rfl)) rfl
theorem kX11_isPerson : MKv mX11_isPerson 1 := ⟨imX11_isPerson, seX11_isPerson, iniX11, cdX11_isPerson, ⟨by decide +kernel, by decide +kernel⟩, by decide +kernel, by decide⟩
abbrev mX11_isMeasure : MT := (yX11_isMeasure, cX11_isMeasure, 1, (some .boolean))
set_option maxRecDepth 100000 in
theorem cdX11_isMeasure : Cond.code yX11_isMeasure cX11_isMeasure 1 (some .boolean) ∈ TB := TB_of (tin_4 (TB_at 156 rfl)) rfl
set_option maxRecDepth 100000 in
theorem stX11_isMeasure : Cond.static yX11_isMeasure ∈ TB := TB_of (tin_4 (TB_at 155 rfl)) rfl
theorem kX11_isMeasure : MKs mX11_isMeasure 1 := ⟨stX11_isMeasure, iniX11, cdX11_isMeasure, ⟨by decide +kernel, by decide +kernel⟩, by decide +kernel, by decide⟩
abbrev mX11_isRow : MT := (yX11_isRow, cX11_isRow, 1, (some .boolean))
set_option maxRecDepth 100000 in
theorem cdX11_isRow : Cond.code yX11_isRow cX11_isRow 1 (some .boolean) ∈ TB := TB_of (tin_4 (TB_at 45 rfl)) rfl
set_option maxRecDepth 100000 in
theorem stX11_isRow : Cond.static yX11_isRow ∈ TB := TB_of (tin_4 (TB_at 44 rfl)) rfl
theorem kX11_isRow : MKs mX11_isRow 1 := ⟨stX11_isRow, iniX11, cdX11_isRow, ⟨by decide +kernel, by decide +kernel⟩, by decide +kernel, by decide⟩
abbrev mX11_possibleTo : MT := (yX11_possibleTo, cX11_possibleTo, 2, (some .int))
set_option maxRecDepth 100000 in
theorem cdX11_possibleTo : Cond.code yX11_possibleTo cX11_possibleTo 2 (some .int) ∈ TB := TB_of (tin_3 (TB_at 192 rfl)) rfl
set_option maxRecDepth 100000 in
theorem imX11_possibleTo : Cond.instanceMethod yX11_possibleTo ∈ TB := TB_of (tin_3 (TB_at 191 rfl)) rfl
set_option maxRecDepth 100000 in
theorem seX11_possibleTo : Cond.selects RX11 yX11_possibleTo yX11_possibleTo ∈ TB := TB_of (tin_0 (TB_at 23 rfl)) rfl
theorem kX11_possibleTo : MKv mX11_possibleTo 1 := ⟨imX11_possibleTo, seX11_possibleTo, iniX11, cdX11_possibleTo, ⟨by decide +kernel, by decide +kernel⟩, by decide +kernel, by decide⟩
abbrev mX11_tell : MT := (yX11_tell, cX11_tell, 3, (some .int))
set_option maxRecDepth 100000 in
theorem cdX11_tell : Cond.code yX11_tell cX11_tell 3 (some .int) ∈ TB := TB_of (tin_3 (TB_at 233 rfl)) rfl
set_option maxRecDepth 100000 in
theorem imX11_tell : Cond.instanceMethod yX11_tell ∈ TB := TB_of (tin_3 (TB_at 231 rfl)) rfl
set_option maxRecDepth 100000 in
theorem seX11_tell : Cond.selects RX11 yX11_tell yX11_tell ∈ TB := TB_of (tin_3 (TB_at 232 rfl)) rfl
theorem kX11_tell : MKv mX11_tell 2 := ⟨imX11_tell, seX11_tell, iniX11, cdX11_tell, ⟨by decide +kernel, by decide +kernel⟩, by decide +kernel, by decide⟩
abbrev mX11_ask : MT := (yX11_ask, cX11_ask, 3, (some .int))
set_option maxRecDepth 100000 in
theorem cdX11_ask : Cond.code yX11_ask cX11_ask 3 (some .int) ∈ TB := TB_of (tin_4 (TB_at 8 rfl)) rfl
set_option maxRecDepth 100000 in
theorem imX11_ask : Cond.instanceMethod yX11_ask ∈ TB := TB_of (tin_4 (TB_at 6 rfl)) rfl
set_option maxRecDepth 100000 in
theorem seX11_ask : Cond.selects RX11 yX11_ask yX11_ask ∈ TB := TB_of (tin_4 (TB_at 7 rfl)) rfl
theorem kX11_ask : MKv mX11_ask 2 := ⟨imX11_ask, seX11_ask, iniX11, cdX11_ask, ⟨by decide +kernel, by decide +kernel⟩, by decide +kernel, by decide⟩
abbrev mX11_days : MT := (yX11_days, cX11_days, 4, (some .int))
set_option maxRecDepth 100000 in
theorem cdX11_days : Cond.code yX11_days cX11_days 4 (some .int) ∈ TB := TB_of (tin_4 (TB_at 18 rfl)) rfl
set_option maxRecDepth 100000 in
theorem imX11_days : Cond.instanceMethod yX11_days ∈ TB := TB_of (tin_4 (TB_at 16 rfl)) rfl
set_option maxRecDepth 100000 in
theorem seX11_days : Cond.selects RX11 yX11_days yX11_days ∈ TB := TB_of (tin_4 (TB_at 17 rfl)) rfl
theorem kX11_days : MKv mX11_days 1 := ⟨imX11_days, seX11_days, iniX11, cdX11_days, ⟨by decide +kernel, by decide +kernel⟩, by decide +kernel, by decide⟩
abbrev mX11_isTrue : MT := (yX11_isTrue, cX11_isTrue, 3, (some .int))
set_option maxRecDepth 100000 in
theorem cdX11_isTrue : Cond.code yX11_isTrue cX11_isTrue 3 (some .int) ∈ TB := TB_of (tin_4 (TB_at 30 rfl)) rfl
set_option maxRecDepth 100000 in
theorem imX11_isTrue : Cond.instanceMethod yX11_isTrue ∈ TB := TB_of (tin_4 (TB_at 28 rfl)) rfl
set_option maxRecDepth 100000 in
theorem seX11_isTrue : Cond.selects RX11 yX11_isTrue yX11_isTrue ∈ TB := TB_of (tin_4 (TB_at 29 rfl)) rfl
theorem kX11_isTrue : MKv mX11_isTrue 1 := ⟨imX11_isTrue, seX11_isTrue, iniX11, cdX11_isTrue, ⟨by decide +kernel, by decide +kernel⟩, by decide +kernel, by decide⟩
abbrev mX11_undo : MT := (yX11_undo, cX11_undo, 2, (some .int))
set_option maxRecDepth 100000 in
theorem cdX11_undo : Cond.code yX11_undo cX11_undo 2 (some .int) ∈ TB := TB_of (tin_4 (TB_at 34 rfl)) rfl
set_option maxRecDepth 100000 in
theorem imX11_undo : Cond.instanceMethod yX11_undo ∈ TB := TB_of (tin_4 (TB_at 32 rfl)) rfl
set_option maxRecDepth 100000 in
theorem seX11_undo : Cond.selects RX11 yX11_undo yX11_undo ∈ TB := TB_of (tin_4 (TB_at 33 rfl)) rfl
theorem kX11_undo : MKv mX11_undo 1 := ⟨imX11_undo, seX11_undo, iniX11, cdX11_undo, ⟨by decide +kernel, by decide +kernel⟩, by decide +kernel, by decide⟩
abbrev mX11_judge : MT := (yX11_judge, cX11_judge, 5, (some .int))
set_option maxRecDepth 100000 in
theorem cdX11_judge : Cond.code yX11_judge cX11_judge 5 (some .int) ∈ TB := TB_of (tin_4 (TB_at 42 rfl)) rfl
set_option maxRecDepth 100000 in
theorem imX11_judge : Cond.instanceMethod yX11_judge ∈ TB := TB_of (tin_4 (TB_at 40 rfl)) rfl
set_option maxRecDepth 100000 in
theorem seX11_judge : Cond.selects RX11 yX11_judge yX11_judge ∈ TB := TB_of (tin_4 (TB_at 41 rfl)) rfl
theorem kX11_judge : MKv mX11_judge 2 := ⟨imX11_judge, seX11_judge, iniX11, cdX11_judge, ⟨by decide +kernel, by decide +kernel⟩, by decide +kernel, by decide⟩
abbrev mX11_perform : MT := (yX11_perform, cX11_perform, 3, (some .int))
set_option maxRecDepth 100000 in
theorem cdX11_perform : Cond.code yX11_perform cX11_perform 3 (some .int) ∈ TB := TB_of (tin_4 (TB_at 93 rfl)) rfl
set_option maxRecDepth 100000 in
theorem imX11_perform : Cond.instanceMethod yX11_perform ∈ TB := TB_of (tin_4 (TB_at 91 rfl)) rfl
set_option maxRecDepth 100000 in
theorem seX11_perform : Cond.selects RX11 yX11_perform yX11_perform ∈ TB := TB_of (tin_4 (TB_at 92 rfl)) rfl
theorem kX11_perform : MKv mX11_perform 1 := ⟨imX11_perform, seX11_perform, iniX11, cdX11_perform, ⟨by decide +kernel, by decide +kernel⟩, by decide +kernel, by decide⟩
abbrev mX11_year : MT := (yX11_year, cX11_year, 3, (some .int))
set_option maxRecDepth 100000 in
theorem cdX11_year : Cond.code yX11_year cX11_year 3 (some .int) ∈ TB := TB_of (tin_4 (TB_at 97 rfl)) rfl
set_option maxRecDepth 100000 in
theorem imX11_year : Cond.instanceMethod yX11_year ∈ TB := TB_of (tin_4 (TB_at 95 rfl)) rfl
set_option maxRecDepth 100000 in
theorem seX11_year : Cond.selects RX11 yX11_year yX11_year ∈ TB := TB_of (tin_4 (TB_at 96 rfl)) rfl
theorem kX11_year : MKv mX11_year 2 := ⟨imX11_year, seX11_year, iniX11, cdX11_year, ⟨by decide +kernel, by decide +kernel⟩, by decide +kernel, by decide⟩
abbrev mX11_everyone : MT := (yX11_everyone, cX11_everyone, 2, (some .int))
set_option maxRecDepth 100000 in
theorem cdX11_everyone : Cond.code yX11_everyone cX11_everyone 2 (some .int) ∈ TB := TB_of (tin_4 (TB_at 110 rfl)) rfl
set_option maxRecDepth 100000 in
theorem imX11_everyone : Cond.instanceMethod yX11_everyone ∈ TB := TB_of (tin_4 (TB_at 108 rfl)) rfl
set_option maxRecDepth 100000 in
theorem seX11_everyone : Cond.selects RX11 yX11_everyone yX11_everyone ∈ TB := TB_of (tin_4 (TB_at 109 rfl)) rfl
theorem kX11_everyone : MKv mX11_everyone 1 := ⟨imX11_everyone, seX11_everyone, iniX11, cdX11_everyone, ⟨by decide +kernel, by decide +kernel⟩, by decide +kernel, by decide⟩
abbrev mX11_depth : MT := (yX11_depth, cX11_depth, 5, (some .int))
set_option maxRecDepth 100000 in
theorem cdX11_depth : Cond.code yX11_depth cX11_depth 5 (some .int) ∈ TB := TB_of (tin_4 (TB_at 122 rfl)) rfl
set_option maxRecDepth 100000 in
theorem imX11_depth : Cond.instanceMethod yX11_depth ∈ TB := TB_of (tin_4 (TB_at 120 rfl)) rfl
set_option maxRecDepth 100000 in
theorem seX11_depth : Cond.selects RX11 yX11_depth yX11_depth ∈ TB := TB_of (tin_4 (TB_at 121 rfl)) rfl
theorem kX11_depth : MKv mX11_depth 1 := ⟨imX11_depth, seX11_depth, iniX11, cdX11_depth, ⟨by decide +kernel, by decide +kernel⟩, by decide +kernel, by decide⟩
abbrev mX11_common : MT := (yX11_common, cX11_common, 1, (some .int))
set_option maxRecDepth 100000 in
theorem cdX11_common : Cond.code yX11_common cX11_common 1 (some .int) ∈ TB := TB_of (tin_4 (TB_at 126 rfl)) rfl
set_option maxRecDepth 100000 in
theorem imX11_common : Cond.instanceMethod yX11_common ∈ TB := TB_of (tin_4 (TB_at 124 rfl)) rfl
set_option maxRecDepth 100000 in
theorem seX11_common : Cond.selects RX11 yX11_common yX11_common ∈ TB := TB_of (tin_4 (TB_at 125 rfl)) rfl
theorem kX11_common : MKv mX11_common 0 := ⟨imX11_common, seX11_common, iniX11, cdX11_common, ⟨by decide +kernel, by decide +kernel⟩, by decide +kernel, by decide⟩
abbrev mX11_reach : MT := (yX11_reach, cX11_reach, 2, (some .int))
set_option maxRecDepth 100000 in
theorem cdX11_reach : Cond.code yX11_reach cX11_reach 2 (some .int) ∈ TB := TB_of (tin_4 (TB_at 130 rfl)) rfl
set_option maxRecDepth 100000 in
theorem imX11_reach : Cond.instanceMethod yX11_reach ∈ TB := TB_of (tin_4 (TB_at 128 rfl)) rfl
set_option maxRecDepth 100000 in
theorem seX11_reach : Cond.selects RX11 yX11_reach yX11_reach ∈ TB := TB_of (tin_4 (TB_at 129 rfl)) rfl
theorem kX11_reach : MKv mX11_reach 1 := ⟨imX11_reach, seX11_reach, iniX11, cdX11_reach, ⟨by decide +kernel, by decide +kernel⟩, by decide +kernel, by decide⟩
abbrev mX11_reached : MT := (yX11_reached, cX11_reached, 5, (some .int))
set_option maxRecDepth 100000 in
theorem cdX11_reached : Cond.code yX11_reached cX11_reached 5 (some .int) ∈ TB := TB_of (tin_4 (TB_at 114 rfl)) rfl
set_option maxRecDepth 100000 in
theorem imX11_reached : Cond.instanceMethod yX11_reached ∈ TB := TB_of (tin_4 (TB_at 113 rfl)) rfl
set_option maxRecDepth 100000 in
theorem seX11_reached : Cond.selects RX11 yX11_reached yX11_reached ∈ TB := TB_of (tin_0 (TB_at 27 rfl)) rfl
theorem kX11_reached : MKv mX11_reached 1 := ⟨imX11_reached, seX11_reached, iniX11, cdX11_reached, ⟨by decide +kernel, by decide +kernel⟩, by decide +kernel, by decide⟩
abbrev mX11_together : MT := (yX11_together, cX11_together, 2, (some .int))
set_option maxRecDepth 100000 in
theorem cdX11_together : Cond.code yX11_together cX11_together 2 (some .int) ∈ TB := TB_of (tin_4 (TB_at 134 rfl)) rfl
set_option maxRecDepth 100000 in
theorem imX11_together : Cond.instanceMethod yX11_together ∈ TB := TB_of (tin_4 (TB_at 132 rfl)) rfl
set_option maxRecDepth 100000 in
theorem seX11_together : Cond.selects RX11 yX11_together yX11_together ∈ TB := TB_of (tin_4 (TB_at 133 rfl)) rfl
theorem kX11_together : MKv mX11_together 1 := ⟨imX11_together, seX11_together, iniX11, cdX11_together, ⟨by decide +kernel, by decide +kernel⟩, by decide +kernel, by decide⟩
abbrev mX11_possibleTogether : MT := (yX11_possibleTogether, cX11_possibleTogether, 4, (some .int))
set_option maxRecDepth 100000 in
theorem cdX11_possibleTogether : Cond.code yX11_possibleTogether cX11_possibleTogether 4 (some .int) ∈ TB := TB_of (tin_4 (TB_at 138 rfl)) rfl
set_option maxRecDepth 100000 in
theorem imX11_possibleTogether : Cond.instanceMethod yX11_possibleTogether ∈ TB := TB_of (tin_4 (TB_at 137 rfl)) rfl
set_option maxRecDepth 100000 in
theorem seX11_possibleTogether : Cond.selects RX11 yX11_possibleTogether yX11_possibleTogether ∈ TB := TB_of (tin_0 (TB_at 28 rfl)) rfl
theorem kX11_possibleTogether : MKv mX11_possibleTogether 1 := ⟨imX11_possibleTogether, seX11_possibleTogether, iniX11, cdX11_possibleTogether, ⟨by decide +kernel, by decide +kernel⟩, by decide +kernel, by decide⟩
abbrev mX11_witnesses : MT := (yX11_witnesses, cX11_witnesses, 3, (some .int))
set_option maxRecDepth 100000 in
theorem cdX11_witnesses : Cond.code yX11_witnesses cX11_witnesses 3 (some .int) ∈ TB := TB_of (tin_4 (TB_at 142 rfl)) rfl
set_option maxRecDepth 100000 in
theorem imX11_witnesses : Cond.instanceMethod yX11_witnesses ∈ TB := TB_of (tin_4 (TB_at 140 rfl)) rfl
set_option maxRecDepth 100000 in
theorem seX11_witnesses : Cond.selects RX11 yX11_witnesses yX11_witnesses ∈ TB := TB_of (tin_4 (TB_at 141 rfl)) rfl
theorem kX11_witnesses : MKv mX11_witnesses 0 := ⟨imX11_witnesses, seX11_witnesses, iniX11, cdX11_witnesses, ⟨by decide +kernel, by decide +kernel⟩, by decide +kernel, by decide⟩
abbrev mX11_parting : MT := (yX11_parting, cX11_parting, 3, (some .int))
set_option maxRecDepth 100000 in
theorem cdX11_parting : Cond.code yX11_parting cX11_parting 3 (some .int) ∈ TB := TB_of (tin_4 (TB_at 149 rfl)) rfl
set_option maxRecDepth 100000 in
theorem imX11_parting : Cond.instanceMethod yX11_parting ∈ TB := TB_of (tin_4 (TB_at 147 rfl)) rfl
set_option maxRecDepth 100000 in
theorem seX11_parting : Cond.selects RX11 yX11_parting yX11_parting ∈ TB := TB_of (tin_4 (TB_at 148 rfl)) rfl
theorem kX11_parting : MKv mX11_parting 2 := ⟨imX11_parting, seX11_parting, iniX11, cdX11_parting, ⟨by decide +kernel, by decide +kernel⟩, by decide +kernel, by decide⟩
abbrev mX11_isFewer : MT := (yX11_isFewer, cX11_isFewer, 3, (some .boolean))
set_option maxRecDepth 100000 in
theorem cdX11_isFewer : Cond.code yX11_isFewer cX11_isFewer 3 (some .boolean) ∈ TB := TB_of (tin_4 (TB_at 145 rfl)) rfl
set_option maxRecDepth 100000 in
theorem stX11_isFewer : Cond.static yX11_isFewer ∈ TB := TB_of (tin_4 (TB_at 144 rfl)) rfl
theorem kX11_isFewer : MKs mX11_isFewer 2 := ⟨stX11_isFewer, iniX11, cdX11_isFewer, ⟨by decide +kernel, by decide +kernel⟩, by decide +kernel, by decide⟩
abbrev mX11_measure : MT := (yX11_measure, cX11_measure, 3, (some .int))
set_option maxRecDepth 100000 in
theorem cdX11_measure : Cond.code yX11_measure cX11_measure 3 (some .int) ∈ TB := TB_of (tin_4 (TB_at 153 rfl)) rfl
set_option maxRecDepth 100000 in
theorem imX11_measure : Cond.instanceMethod yX11_measure ∈ TB := TB_of (tin_4 (TB_at 151 rfl)) rfl
set_option maxRecDepth 100000 in
theorem seX11_measure : Cond.selects RX11 yX11_measure yX11_measure ∈ TB := TB_of (tin_4 (TB_at 152 rfl)) rfl
theorem kX11_measure : MKv mX11_measure 2 := ⟨imX11_measure, seX11_measure, iniX11, cdX11_measure, ⟨by decide +kernel, by decide +kernel⟩, by decide +kernel, by decide⟩
abbrev mX11_amount : MT := (yX11_amount, cX11_amount, 3, (some .int))
set_option maxRecDepth 100000 in
theorem cdX11_amount : Cond.code yX11_amount cX11_amount 3 (some .int) ∈ TB := TB_of (tin_4 (TB_at 160 rfl)) rfl
set_option maxRecDepth 100000 in
theorem imX11_amount : Cond.instanceMethod yX11_amount ∈ TB := TB_of (tin_4 (TB_at 159 rfl)) rfl
set_option maxRecDepth 100000 in
theorem seX11_amount : Cond.selects RX11 yX11_amount yX11_amount ∈ TB := TB_of (tin_0 (TB_at 29 rfl)) rfl
theorem kX11_amount : MKv mX11_amount 2 := ⟨imX11_amount, seX11_amount, iniX11, cdX11_amount, ⟨by decide +kernel, by decide +kernel⟩, by decide +kernel, by decide⟩
abbrev mX11_least : MT := (yX11_least, cX11_least, 2, (some .int))
set_option maxRecDepth 100000 in
theorem cdX11_least : Cond.code yX11_least cX11_least 2 (some .int) ∈ TB := TB_of (tin_4 (TB_at 165 rfl)) rfl
set_option maxRecDepth 100000 in
theorem imX11_least : Cond.instanceMethod yX11_least ∈ TB := TB_of (tin_4 (TB_at 163 rfl)) rfl
set_option maxRecDepth 100000 in
theorem seX11_least : Cond.selects RX11 yX11_least yX11_least ∈ TB := TB_of (tin_4 (TB_at 164 rfl)) rfl
theorem kX11_least : MKv mX11_least 1 := ⟨imX11_least, seX11_least, iniX11, cdX11_least, ⟨by decide +kernel, by decide +kernel⟩, by decide +kernel, by decide⟩
abbrev mX11_seats : MT := (yX11_seats, cX11_seats, 5, (some .int))
set_option maxRecDepth 100000 in
theorem cdX11_seats : Cond.code yX11_seats cX11_seats 5 (some .int) ∈ TB := TB_of (tin_4 (TB_at 169 rfl)) rfl
set_option maxRecDepth 100000 in
theorem imX11_seats : Cond.instanceMethod yX11_seats ∈ TB := TB_of (tin_4 (TB_at 167 rfl)) rfl
set_option maxRecDepth 100000 in
theorem seX11_seats : Cond.selects RX11 yX11_seats yX11_seats ∈ TB := TB_of (tin_4 (TB_at 168 rfl)) rfl
theorem kX11_seats : MKv mX11_seats 2 := ⟨imX11_seats, seX11_seats, iniX11, cdX11_seats, ⟨by decide +kernel, by decide +kernel⟩, by decide +kernel, by decide⟩
abbrev mX11_differ : MT := (yX11_differ, cX11_differ, 8, (some .int))
set_option maxRecDepth 100000 in
theorem cdX11_differ : Cond.code yX11_differ cX11_differ 8 (some .int) ∈ TB := TB_of (tin_4 (TB_at 173 rfl)) rfl
set_option maxRecDepth 100000 in
theorem imX11_differ : Cond.instanceMethod yX11_differ ∈ TB := TB_of (tin_4 (TB_at 171 rfl)) rfl
set_option maxRecDepth 100000 in
theorem seX11_differ : Cond.selects RX11 yX11_differ yX11_differ ∈ TB := TB_of (tin_4 (TB_at 172 rfl)) rfl
theorem kX11_differ : MKv mX11_differ 2 := ⟨imX11_differ, seX11_differ, iniX11, cdX11_differ, ⟨by decide +kernel, by decide +kernel⟩, by decide +kernel, by decide⟩
abbrev mX11_shown : MT := (yX11_shown, cX11_shown, 3, (some .int))
set_option maxRecDepth 100000 in
theorem cdX11_shown : Cond.code yX11_shown cX11_shown 3 (some .int) ∈ TB := TB_of (tin_4 (TB_at 180 rfl)) rfl
set_option maxRecDepth 100000 in
theorem imX11_shown : Cond.instanceMethod yX11_shown ∈ TB := TB_of (tin_4 (TB_at 178 rfl)) rfl
set_option maxRecDepth 100000 in
theorem seX11_shown : Cond.selects RX11 yX11_shown yX11_shown ∈ TB := TB_of (tin_4 (TB_at 179 rfl)) rfl
theorem kX11_shown : MKv mX11_shown 2 := ⟨imX11_shown, seX11_shown, iniX11, cdX11_shown, ⟨by decide +kernel, by decide +kernel⟩, by decide +kernel, by decide⟩
abbrev mX11_appeals : MT := (yX11_appeals, cX11_appeals, 7, (some .int))
set_option maxRecDepth 100000 in
theorem cdX11_appeals : Cond.code yX11_appeals cX11_appeals 7 (some .int) ∈ TB := TB_of (tin_4 (TB_at 214 rfl)) rfl
set_option maxRecDepth 100000 in
theorem imX11_appeals : Cond.instanceMethod yX11_appeals ∈ TB := TB_of (tin_4 (TB_at 212 rfl)) rfl
set_option maxRecDepth 100000 in
theorem seX11_appeals : Cond.selects RX11 yX11_appeals yX11_appeals ∈ TB := TB_of (tin_4 (TB_at 213 rfl)) rfl
theorem kX11_appeals : MKv mX11_appeals 3 := ⟨imX11_appeals, seX11_appeals, iniX11, cdX11_appeals, ⟨by decide +kernel, by decide +kernel⟩, by decide +kernel, by decide⟩
abbrev mX11_nextAbove : MT := (yX11_nextAbove, cX11_nextAbove, 8, (some .int))
set_option maxRecDepth 100000 in
theorem cdX11_nextAbove : Cond.code yX11_nextAbove cX11_nextAbove 8 (some .int) ∈ TB := TB_of (tin_4 (TB_at 218 rfl)) rfl
set_option maxRecDepth 100000 in
theorem imX11_nextAbove : Cond.instanceMethod yX11_nextAbove ∈ TB := TB_of (tin_4 (TB_at 217 rfl)) rfl
set_option maxRecDepth 100000 in
theorem seX11_nextAbove : Cond.selects RX11 yX11_nextAbove yX11_nextAbove ∈ TB := TB_of (tin_0 (TB_at 34 rfl)) rfl
theorem kX11_nextAbove : MKv mX11_nextAbove 2 := ⟨imX11_nextAbove, seX11_nextAbove, iniX11, cdX11_nextAbove, ⟨by decide +kernel, by decide +kernel⟩, by decide +kernel, by decide⟩
abbrev mX11_parties : MT := (yX11_parties, cX11_parties, 5, (some .int))
set_option maxRecDepth 100000 in
theorem cdX11_parties : Cond.code yX11_parties cX11_parties 5 (some .int) ∈ TB := TB_of (tin_4 (TB_at 222 rfl)) rfl
set_option maxRecDepth 100000 in
theorem imX11_parties : Cond.instanceMethod yX11_parties ∈ TB := TB_of (tin_4 (TB_at 220 rfl)) rfl
set_option maxRecDepth 100000 in
theorem seX11_parties : Cond.selects RX11 yX11_parties yX11_parties ∈ TB := TB_of (tin_4 (TB_at 221 rfl)) rfl
theorem kX11_parties : MKv mX11_parties 4 := ⟨imX11_parties, seX11_parties, iniX11, cdX11_parties, ⟨by decide +kernel, by decide +kernel⟩, by decide +kernel, by decide⟩
abbrev mX11_inform : MT := (yX11_inform, cX11_inform, 5, (some .int))
set_option maxRecDepth 100000 in
theorem cdX11_inform : Cond.code yX11_inform cX11_inform 5 (some .int) ∈ TB := TB_of (tin_5 (TB_at 17 rfl)) rfl
set_option maxRecDepth 100000 in
theorem imX11_inform : Cond.instanceMethod yX11_inform ∈ TB := TB_of (tin_5 (TB_at 15 rfl)) rfl
set_option maxRecDepth 100000 in
theorem seX11_inform : Cond.selects RX11 yX11_inform yX11_inform ∈ TB := TB_of (tin_5 (TB_at 16 rfl)) rfl
theorem kX11_inform : MKv mX11_inform 2 := ⟨imX11_inform, seX11_inform, iniX11, cdX11_inform, ⟨by decide +kernel, by decide +kernel⟩, by decide +kernel, by decide⟩
abbrev mX11_trial : MT := (yX11_trial, cX11_trial, 5, (some .int))
set_option maxRecDepth 100000 in
theorem cdX11_trial : Cond.code yX11_trial cX11_trial 5 (some .int) ∈ TB := TB_of (tin_5 (TB_at 21 rfl)) rfl
set_option maxRecDepth 100000 in
theorem imX11_trial : Cond.instanceMethod yX11_trial ∈ TB := TB_of (tin_5 (TB_at 19 rfl)) rfl
set_option maxRecDepth 100000 in
theorem seX11_trial : Cond.selects RX11 yX11_trial yX11_trial ∈ TB := TB_of (tin_5 (TB_at 20 rfl)) rfl
theorem kX11_trial : MKv mX11_trial 2 := ⟨imX11_trial, seX11_trial, iniX11, cdX11_trial, ⟨by decide +kernel, by decide +kernel⟩, by decide +kernel, by decide⟩
abbrev mX11_brief : MT := (yX11_brief, cX11_brief, 4, (some .int))
set_option maxRecDepth 100000 in
theorem cdX11_brief : Cond.code yX11_brief cX11_brief 4 (some .int) ∈ TB := TB_of (tin_5 (TB_at 45 rfl)) rfl
set_option maxRecDepth 100000 in
theorem imX11_brief : Cond.instanceMethod yX11_brief ∈ TB := TB_of (tin_5 (TB_at 43 rfl)) rfl
set_option maxRecDepth 100000 in
theorem seX11_brief : Cond.selects RX11 yX11_brief yX11_brief ∈ TB := TB_of (tin_5 (TB_at 44 rfl)) rfl
theorem kX11_brief : MKv mX11_brief 1 := ⟨imX11_brief, seX11_brief, iniX11, cdX11_brief, ⟨by decide +kernel, by decide +kernel⟩, by decide +kernel, by decide⟩
abbrev mX11_right : MT := (yX11_right, cX11_right, 4, (some .int))
set_option maxRecDepth 100000 in
theorem cdX11_right : Cond.code yX11_right cX11_right 4 (some .int) ∈ TB := TB_of (tin_5 (TB_at 49 rfl)) rfl
set_option maxRecDepth 100000 in
theorem imX11_right : Cond.instanceMethod yX11_right ∈ TB := TB_of (tin_5 (TB_at 47 rfl)) rfl
set_option maxRecDepth 100000 in
theorem seX11_right : Cond.selects RX11 yX11_right yX11_right ∈ TB := TB_of (tin_5 (TB_at 48 rfl)) rfl
theorem kX11_right : MKv mX11_right 1 := ⟨imX11_right, seX11_right, iniX11, cdX11_right, ⟨by decide +kernel, by decide +kernel⟩, by decide +kernel, by decide⟩
abbrev mX11_justice : MT := (yX11_justice, cX11_justice, 2, (some .int))
set_option maxRecDepth 100000 in
theorem cdX11_justice : Cond.code yX11_justice cX11_justice 2 (some .int) ∈ TB := TB_of (tin_5 (TB_at 57 rfl)) rfl
set_option maxRecDepth 100000 in
theorem imX11_justice : Cond.instanceMethod yX11_justice ∈ TB := TB_of (tin_5 (TB_at 55 rfl)) rfl
set_option maxRecDepth 100000 in
theorem seX11_justice : Cond.selects RX11 yX11_justice yX11_justice ∈ TB := TB_of (tin_5 (TB_at 56 rfl)) rfl
theorem kX11_justice : MKv mX11_justice 1 := ⟨imX11_justice, seX11_justice, iniX11, cdX11_justice, ⟨by decide +kernel, by decide +kernel⟩, by decide +kernel, by decide⟩
abbrev mX11_justiceBy : MT := (yX11_justiceBy, cX11_justiceBy, 5, (some .int))
set_option maxRecDepth 100000 in
theorem cdX11_justiceBy : Cond.code yX11_justiceBy cX11_justiceBy 5 (some .int) ∈ TB := TB_of (tin_5 (TB_at 61 rfl)) rfl
set_option maxRecDepth 100000 in
theorem imX11_justiceBy : Cond.instanceMethod yX11_justiceBy ∈ TB := TB_of (tin_5 (TB_at 60 rfl)) rfl
set_option maxRecDepth 100000 in
theorem seX11_justiceBy : Cond.selects RX11 yX11_justiceBy yX11_justiceBy ∈ TB := TB_of (tin_0 (TB_at 41 rfl)) rfl
theorem kX11_justiceBy : MKv mX11_justiceBy 1 := ⟨imX11_justiceBy, seX11_justiceBy, iniX11, cdX11_justiceBy, ⟨by decide +kernel, by decide +kernel⟩, by decide +kernel, by decide⟩
abbrev mX11_bestLaw : MT := (yX11_bestLaw, cX11_bestLaw, 5, (some .int))
set_option maxRecDepth 100000 in
theorem cdX11_bestLaw : Cond.code yX11_bestLaw cX11_bestLaw 5 (some .int) ∈ TB := TB_of (tin_5 (TB_at 65 rfl)) rfl
set_option maxRecDepth 100000 in
theorem imX11_bestLaw : Cond.instanceMethod yX11_bestLaw ∈ TB := TB_of (tin_5 (TB_at 63 rfl)) rfl
set_option maxRecDepth 100000 in
theorem seX11_bestLaw : Cond.selects RX11 yX11_bestLaw yX11_bestLaw ∈ TB := TB_of (tin_5 (TB_at 64 rfl)) rfl
theorem kX11_bestLaw : MKv mX11_bestLaw 0 := ⟨imX11_bestLaw, seX11_bestLaw, iniX11, cdX11_bestLaw, ⟨by decide +kernel, by decide +kernel⟩, by decide +kernel, by decide⟩
abbrev mX11_news : MT := (yX11_news, cX11_news, 3, (some .int))
set_option maxRecDepth 100000 in
theorem cdX11_news : Cond.code yX11_news cX11_news 3 (some .int) ∈ TB := TB_of (tin_5 (TB_at 69 rfl)) rfl
set_option maxRecDepth 100000 in
theorem imX11_news : Cond.instanceMethod yX11_news ∈ TB := TB_of (tin_5 (TB_at 67 rfl)) rfl
set_option maxRecDepth 100000 in
theorem seX11_news : Cond.selects RX11 yX11_news yX11_news ∈ TB := TB_of (tin_5 (TB_at 68 rfl)) rfl
theorem kX11_news : MKv mX11_news 2 := ⟨imX11_news, seX11_news, iniX11, cdX11_news, ⟨by decide +kernel, by decide +kernel⟩, by decide +kernel, by decide⟩
abbrev mX11_daysTill : MT := (yX11_daysTill, cX11_daysTill, 4, (some .int))
set_option maxRecDepth 100000 in
theorem cdX11_daysTill : Cond.code yX11_daysTill cX11_daysTill 4 (some .int) ∈ TB := TB_of (tin_5 (TB_at 73 rfl)) rfl
set_option maxRecDepth 100000 in
theorem imX11_daysTill : Cond.instanceMethod yX11_daysTill ∈ TB := TB_of (tin_5 (TB_at 72 rfl)) rfl
set_option maxRecDepth 100000 in
theorem seX11_daysTill : Cond.selects RX11 yX11_daysTill yX11_daysTill ∈ TB := TB_of (tin_0 (TB_at 42 rfl)) rfl
theorem kX11_daysTill : MKv mX11_daysTill 2 := ⟨imX11_daysTill, seX11_daysTill, iniX11, cdX11_daysTill, ⟨by decide +kernel, by decide +kernel⟩, by decide +kernel, by decide⟩
abbrev mX11_latest : MT := (yX11_latest, cX11_latest, 6, (some .int))
set_option maxRecDepth 100000 in
theorem cdX11_latest : Cond.code yX11_latest cX11_latest 6 (some .int) ∈ TB := TB_of (tin_5 (TB_at 77 rfl)) rfl
set_option maxRecDepth 100000 in
theorem imX11_latest : Cond.instanceMethod yX11_latest ∈ TB := TB_of (tin_5 (TB_at 75 rfl)) rfl
set_option maxRecDepth 100000 in
theorem seX11_latest : Cond.selects RX11 yX11_latest yX11_latest ∈ TB := TB_of (tin_5 (TB_at 76 rfl)) rfl
theorem kX11_latest : MKv mX11_latest 1 := ⟨imX11_latest, seX11_latest, iniX11, cdX11_latest, ⟨by decide +kernel, by decide +kernel⟩, by decide +kernel, by decide⟩
abbrev mX11_leastIn : MT := (yX11_leastIn, cX11_leastIn, 3, (some .int))
set_option maxRecDepth 100000 in
theorem cdX11_leastIn : Cond.code yX11_leastIn cX11_leastIn 3 (some .int) ∈ TB := TB_of (tin_5 (TB_at 81 rfl)) rfl
set_option maxRecDepth 100000 in
theorem imX11_leastIn : Cond.instanceMethod yX11_leastIn ∈ TB := TB_of (tin_5 (TB_at 79 rfl)) rfl
set_option maxRecDepth 100000 in
theorem seX11_leastIn : Cond.selects RX11 yX11_leastIn yX11_leastIn ∈ TB := TB_of (tin_5 (TB_at 80 rfl)) rfl
theorem kX11_leastIn : MKv mX11_leastIn 2 := ⟨imX11_leastIn, seX11_leastIn, iniX11, cdX11_leastIn, ⟨by decide +kernel, by decide +kernel⟩, by decide +kernel, by decide⟩
abbrev mX11_calm : MT := (yX11_calm, cX11_calm, 1, (some .int))
set_option maxRecDepth 100000 in
theorem cdX11_calm : Cond.code yX11_calm cX11_calm 1 (some .int) ∈ TB := TB_of (tin_5 (TB_at 85 rfl)) rfl
set_option maxRecDepth 100000 in
theorem imX11_calm : Cond.instanceMethod yX11_calm ∈ TB := TB_of (tin_5 (TB_at 83 rfl)) rfl
set_option maxRecDepth 100000 in
theorem seX11_calm : Cond.selects RX11 yX11_calm yX11_calm ∈ TB := TB_of (tin_5 (TB_at 84 rfl)) rfl
theorem kX11_calm : MKv mX11_calm 0 := ⟨imX11_calm, seX11_calm, iniX11, cdX11_calm, ⟨by decide +kernel, by decide +kernel⟩, by decide +kernel, by decide⟩
abbrev mX11_fitting : MT := (yX11_fitting, cX11_fitting, 5, (some .int))
set_option maxRecDepth 100000 in
theorem cdX11_fitting : Cond.code yX11_fitting cX11_fitting 5 (some .int) ∈ TB := TB_of (tin_5 (TB_at 89 rfl)) rfl
set_option maxRecDepth 100000 in
theorem imX11_fitting : Cond.instanceMethod yX11_fitting ∈ TB := TB_of (tin_5 (TB_at 87 rfl)) rfl
set_option maxRecDepth 100000 in
theorem seX11_fitting : Cond.selects RX11 yX11_fitting yX11_fitting ∈ TB := TB_of (tin_5 (TB_at 88 rfl)) rfl
theorem kX11_fitting : MKv mX11_fitting 1 := ⟨imX11_fitting, seX11_fitting, iniX11, cdX11_fitting, ⟨by decide +kernel, by decide +kernel⟩, by decide +kernel, by decide⟩
abbrev mX11_sure : MT := (yX11_sure, cX11_sure, 6, (some .int))
set_option maxRecDepth 100000 in
theorem cdX11_sure : Cond.code yX11_sure cX11_sure 6 (some .int) ∈ TB := TB_of (tin_5 (TB_at 102 rfl)) rfl
set_option maxRecDepth 100000 in
theorem imX11_sure : Cond.instanceMethod yX11_sure ∈ TB := TB_of (tin_5 (TB_at 100 rfl)) rfl
set_option maxRecDepth 100000 in
theorem seX11_sure : Cond.selects RX11 yX11_sure yX11_sure ∈ TB := TB_of (tin_5 (TB_at 101 rfl)) rfl
theorem kX11_sure : MKv mX11_sure 1 := ⟨imX11_sure, seX11_sure, iniX11, cdX11_sure, ⟨by decide +kernel, by decide +kernel⟩, by decide +kernel, by decide⟩
abbrev mX11_refusedAsked : MT := (yX11_refusedAsked, cX11_refusedAsked, 6, (some .int))
set_option maxRecDepth 100000 in
theorem cdX11_refusedAsked : Cond.code yX11_refusedAsked cX11_refusedAsked 6 (some .int) ∈ TB := TB_of (tin_5 (TB_at 93 rfl)) rfl
set_option maxRecDepth 100000 in
theorem imX11_refusedAsked : Cond.instanceMethod yX11_refusedAsked ∈ TB := TB_of (tin_5 (TB_at 92 rfl)) rfl
set_option maxRecDepth 100000 in
theorem seX11_refusedAsked : Cond.selects RX11 yX11_refusedAsked yX11_refusedAsked ∈ TB := TB_of (tin_0 (TB_at 43 rfl)) rfl
theorem kX11_refusedAsked : MKv mX11_refusedAsked 1 := ⟨imX11_refusedAsked, seX11_refusedAsked, iniX11, cdX11_refusedAsked, ⟨by decide +kernel, by decide +kernel⟩, by decide +kernel, by decide⟩
abbrev mX11_isFitting : MT := (yX11_isFitting, cX11_isFitting, 6, (some .boolean))
set_option maxRecDepth 100000 in
theorem cdX11_isFitting : Cond.code yX11_isFitting cX11_isFitting 6 (some .boolean) ∈ TB := TB_of (tin_5 (TB_at 97 rfl)) rfl
set_option maxRecDepth 100000 in
theorem imX11_isFitting : Cond.instanceMethod yX11_isFitting ∈ TB := TB_of (tin_5 (TB_at 96 rfl)) rfl
set_option maxRecDepth 100000 in
theorem seX11_isFitting : Cond.selects RX11 yX11_isFitting yX11_isFitting ∈ TB := TB_of (tin_0 (TB_at 44 rfl)) rfl
theorem kX11_isFitting : MKv mX11_isFitting 2 := ⟨imX11_isFitting, seX11_isFitting, iniX11, cdX11_isFitting, ⟨by decide +kernel, by decide +kernel⟩, by decide +kernel, by decide⟩
abbrev mX11_questions : MT := (yX11_questions, cX11_questions, 3, (some .int))
set_option maxRecDepth 100000 in
theorem cdX11_questions : Cond.code yX11_questions cX11_questions 3 (some .int) ∈ TB := TB_of (tin_5 (TB_at 107 rfl)) rfl
set_option maxRecDepth 100000 in
theorem imX11_questions : Cond.instanceMethod yX11_questions ∈ TB := TB_of (tin_5 (TB_at 105 rfl)) rfl
set_option maxRecDepth 100000 in
theorem seX11_questions : Cond.selects RX11 yX11_questions yX11_questions ∈ TB := TB_of (tin_5 (TB_at 106 rfl)) rfl
theorem kX11_questions : MKv mX11_questions 2 := ⟨imX11_questions, seX11_questions, iniX11, cdX11_questions, ⟨by decide +kernel, by decide +kernel⟩, by decide +kernel, by decide⟩
abbrev mX11_rowsToAsk : MT := (yX11_rowsToAsk, cX11_rowsToAsk, 6, (some .int))
set_option maxRecDepth 100000 in
theorem cdX11_rowsToAsk : Cond.code yX11_rowsToAsk cX11_rowsToAsk 6 (some .int) ∈ TB := TB_of (tin_5 (TB_at 111 rfl)) rfl
set_option maxRecDepth 100000 in
theorem imX11_rowsToAsk : Cond.instanceMethod yX11_rowsToAsk ∈ TB := TB_of (tin_5 (TB_at 110 rfl)) rfl
set_option maxRecDepth 100000 in
theorem seX11_rowsToAsk : Cond.selects RX11 yX11_rowsToAsk yX11_rowsToAsk ∈ TB := TB_of (tin_0 (TB_at 45 rfl)) rfl
theorem kX11_rowsToAsk : MKv mX11_rowsToAsk 2 := ⟨imX11_rowsToAsk, seX11_rowsToAsk, iniX11, cdX11_rowsToAsk, ⟨by decide +kernel, by decide +kernel⟩, by decide +kernel, by decide⟩
abbrev mX11_numbers : MT := (yX11_numbers, cX11_numbers, 4, (some .int))
set_option maxRecDepth 100000 in
theorem cdX11_numbers : Cond.code yX11_numbers cX11_numbers 4 (some .int) ∈ TB := TB_of (tin_5 (TB_at 115 rfl)) rfl
set_option maxRecDepth 100000 in
theorem imX11_numbers : Cond.instanceMethod yX11_numbers ∈ TB := TB_of (tin_5 (TB_at 113 rfl)) rfl
set_option maxRecDepth 100000 in
theorem seX11_numbers : Cond.selects RX11 yX11_numbers yX11_numbers ∈ TB := TB_of (tin_5 (TB_at 114 rfl)) rfl
theorem kX11_numbers : MKv mX11_numbers 3 := ⟨imX11_numbers, seX11_numbers, iniX11, cdX11_numbers, ⟨by decide +kernel, by decide +kernel⟩, by decide +kernel, by decide⟩
abbrev mX11_write : MT := (yX11_write, cX11_write, 5, (some .long))
set_option maxRecDepth 100000 in
theorem cdX11_write : Cond.code yX11_write cX11_write 5 (some .long) ∈ TB := TB_of (tin_5 (TB_at 126 rfl)) rfl
set_option maxRecDepth 100000 in
theorem imX11_write : Cond.instanceMethod yX11_write ∈ TB := TB_of (tin_5 (TB_at 124 rfl)) rfl
set_option maxRecDepth 100000 in
theorem seX11_write : Cond.selects RX11 yX11_write yX11_write ∈ TB := TB_of (tin_5 (TB_at 125 rfl)) rfl
theorem kX11_write : MKv mX11_write 3 := ⟨imX11_write, seX11_write, iniX11, cdX11_write, ⟨by decide +kernel, by decide +kernel⟩, by decide +kernel, by decide⟩
abbrev mX11_copy : MT := (yX11_copy, cX11_copy, 4, (some .int))
set_option maxRecDepth 100000 in
theorem cdX11_copy : Cond.code yX11_copy cX11_copy 4 (some .int) ∈ TB := TB_of (tin_5 (TB_at 137 rfl)) rfl
set_option maxRecDepth 100000 in
theorem imX11_copy : Cond.instanceMethod yX11_copy ∈ TB := TB_of (tin_5 (TB_at 135 rfl)) rfl
set_option maxRecDepth 100000 in
theorem seX11_copy : Cond.selects RX11 yX11_copy yX11_copy ∈ TB := TB_of (tin_5 (TB_at 136 rfl)) rfl
theorem kX11_copy : MKv mX11_copy 1 := ⟨imX11_copy, seX11_copy, iniX11, cdX11_copy, ⟨by decide +kernel, by decide +kernel⟩, by decide +kernel, by decide⟩
abbrev mX11_image : MT := (yX11_image, cX11_image, 2, (some .int))
set_option maxRecDepth 100000 in
theorem cdX11_image : Cond.code yX11_image cX11_image 2 (some .int) ∈ TB := TB_of (tin_5 (TB_at 142 rfl)) rfl
set_option maxRecDepth 100000 in
theorem imX11_image : Cond.instanceMethod yX11_image ∈ TB := TB_of (tin_5 (TB_at 140 rfl)) rfl
set_option maxRecDepth 100000 in
theorem seX11_image : Cond.selects RX11 yX11_image yX11_image ∈ TB := TB_of (tin_5 (TB_at 141 rfl)) rfl
theorem kX11_image : MKv mX11_image 1 := ⟨imX11_image, seX11_image, iniX11, cdX11_image, ⟨by decide +kernel, by decide +kernel⟩, by decide +kernel, by decide⟩
abbrev mX11_restore : MT := (yX11_restore, cX11_restore, 2, (some .int))
set_option maxRecDepth 100000 in
theorem cdX11_restore : Cond.code yX11_restore cX11_restore 2 (some .int) ∈ TB := TB_of (tin_5 (TB_at 146 rfl)) rfl
set_option maxRecDepth 100000 in
theorem imX11_restore : Cond.instanceMethod yX11_restore ∈ TB := TB_of (tin_5 (TB_at 144 rfl)) rfl
set_option maxRecDepth 100000 in
theorem seX11_restore : Cond.selects RX11 yX11_restore yX11_restore ∈ TB := TB_of (tin_5 (TB_at 145 rfl)) rfl
theorem kX11_restore : MKv mX11_restore 1 := ⟨imX11_restore, seX11_restore, iniX11, cdX11_restore, ⟨by decide +kernel, by decide +kernel⟩, by decide +kernel, by decide⟩
abbrev mX11_count : MT := (yX11_count, cX11_count, 2, (some .int))
set_option maxRecDepth 100000 in
theorem cdX11_count : Cond.code yX11_count cX11_count 2 (some .int) ∈ TB := TB_of (tin_5 (TB_at 150 rfl)) rfl
set_option maxRecDepth 100000 in
theorem imX11_count : Cond.instanceMethod yX11_count ∈ TB := TB_of (tin_5 (TB_at 148 rfl)) rfl
set_option maxRecDepth 100000 in
theorem seX11_count : Cond.selects RX11 yX11_count yX11_count ∈ TB := TB_of (tin_5 (TB_at 149 rfl)) rfl
theorem kX11_count : MKv mX11_count 1 := ⟨imX11_count, seX11_count, iniX11, cdX11_count, ⟨by decide +kernel, by decide +kernel⟩, by decide +kernel, by decide⟩
abbrev mX12_within : MT := (yX12_within, cX12_within, 6, (some .boolean))
set_option maxRecDepth 100000 in
theorem cdX12_within : Cond.code yX12_within cX12_within 6 (some .boolean) ∈ TB := TB_of (tin_6 (TB_at 40 rfl)) rfl
set_option maxRecDepth 100000 in
theorem stX12_within : Cond.static yX12_within ∈ TB := TB_of (tin_6 (TB_at 39 rfl)) rfl
theorem kX12_within : MKs mX12_within 3 := ⟨stX12_within, iniX12, cdX12_within, ⟨by decide +kernel, by decide +kernel⟩, by decide +kernel, by decide⟩
abbrev mX12_init : MT := (yX12_init, cX12_init, 1, none)
abbrev mX12_feed : MT := (yX12_feed, cX12_feed, 8, (some .int))
set_option maxRecDepth 100000 in
theorem cdX12_feed : Cond.code yX12_feed cX12_feed 8 (some .int) ∈ TB := TB_of (tin_6 (TB_at 33 rfl)) rfl
set_option maxRecDepth 100000 in
theorem imX12_feed : Cond.instanceMethod yX12_feed ∈ TB := TB_of (tin_6 (TB_at 31 rfl)) rfl
set_option maxRecDepth 100000 in
theorem seX12_feed : Cond.selects RX12 yX12_feed yX12_feed ∈ TB := TB_of (tin_6 (TB_at 32 rfl)) rfl
theorem kX12_feed : MKv mX12_feed 5 := ⟨imX12_feed, seX12_feed, iniX12, cdX12_feed, ⟨by decide +kernel, by decide +kernel⟩, by decide +kernel, by decide⟩
abbrev mX12_see : MT := (yX12_see, cX12_see, 2, (some .int))
set_option maxRecDepth 100000 in
theorem cdX12_see : Cond.code yX12_see cX12_see 2 (some .int) ∈ TB := TB_of (tin_6 (TB_at 48 rfl)) rfl
set_option maxRecDepth 100000 in
theorem imX12_see : Cond.instanceMethod yX12_see ∈ TB := TB_of (tin_6 (TB_at 47 rfl)) rfl
set_option maxRecDepth 100000 in
theorem seX12_see : Cond.selects RX12 yX12_see yX12_see ∈ TB := TB_of (tin_0 (TB_at 47 rfl)) rfl
theorem kX12_see : MKv mX12_see 1 := ⟨imX12_see, seX12_see, iniX12, cdX12_see, ⟨by decide +kernel, by decide +kernel⟩, by decide +kernel, by decide⟩
abbrev mX12_isSmall : MT := (yX12_isSmall, cX12_isSmall, 1, (some .boolean))
set_option maxRecDepth 100000 in
theorem cdX12_isSmall : Cond.code yX12_isSmall cX12_isSmall 1 (some .boolean) ∈ TB := TB_of (tin_6 (TB_at 51 rfl)) rfl
set_option maxRecDepth 100000 in
theorem stX12_isSmall : Cond.static yX12_isSmall ∈ TB := TB_of (tin_6 (TB_at 50 rfl)) rfl
theorem kX12_isSmall : MKs mX12_isSmall 1 := ⟨stX12_isSmall, iniX12, cdX12_isSmall, ⟨by decide +kernel, by decide +kernel⟩, by decide +kernel, by decide⟩
abbrev mX12_isDigit : MT := (yX12_isDigit, cX12_isDigit, 1, (some .boolean))
set_option maxRecDepth 100000 in
theorem cdX12_isDigit : Cond.code yX12_isDigit cX12_isDigit 1 (some .boolean) ∈ TB := TB_of (tin_6 (TB_at 61 rfl)) rfl
set_option maxRecDepth 100000 in
theorem stX12_isDigit : Cond.static yX12_isDigit ∈ TB := TB_of (tin_6 (TB_at 60 rfl)) rfl
theorem kX12_isDigit : MKs mX12_isDigit 1 := ⟨stX12_isDigit, iniX12, cdX12_isDigit, ⟨by decide +kernel, by decide +kernel⟩, by decide +kernel, by decide⟩
abbrev mX12_keyAt : MT := (yX12_keyAt, cX12_keyAt, 4, (some .int))
set_option maxRecDepth 100000 in
theorem cdX12_keyAt : Cond.code yX12_keyAt cX12_keyAt 4 (some .int) ∈ TB := TB_of (tin_6 (TB_at 55 rfl)) rfl
set_option maxRecDepth 100000 in
theorem imX12_keyAt : Cond.instanceMethod yX12_keyAt ∈ TB := TB_of (tin_6 (TB_at 54 rfl)) rfl
set_option maxRecDepth 100000 in
theorem seX12_keyAt : Cond.selects RX12 yX12_keyAt yX12_keyAt ∈ TB := TB_of (tin_0 (TB_at 48 rfl)) rfl
theorem kX12_keyAt : MKv mX12_keyAt 0 := ⟨imX12_keyAt, seX12_keyAt, iniX12, cdX12_keyAt, ⟨by decide +kernel, by decide +kernel⟩, by decide +kernel, by decide⟩
abbrev mX12_next : MT := (yX12_next, cX12_next, 2, none)
set_option maxRecDepth 100000 in
theorem cdX12_next : Cond.code yX12_next cX12_next 2 none ∈ TB := TB_of (tin_6 (TB_at 44 rfl)) rfl
set_option maxRecDepth 100000 in
theorem imX12_next : Cond.instanceMethod yX12_next ∈ TB := TB_of (tin_6 (TB_at 43 rfl)) rfl
set_option maxRecDepth 100000 in
theorem seX12_next : Cond.selects RX12 yX12_next yX12_next ∈ TB := TB_of (tin_0 (TB_at 46 rfl)) rfl
theorem kX12_next : MKv mX12_next 0 := ⟨imX12_next, seX12_next, iniX12, cdX12_next, ⟨by decide +kernel, by decide +kernel⟩, by decide +kernel, by decide⟩
abbrev mX12_fails : MT := (yX12_fails, cX12_fails, 2, none)
set_option maxRecDepth 100000 in
theorem cdX12_fails : Cond.code yX12_fails cX12_fails 2 none ∈ TB := TB_of (tin_6 (TB_at 74 rfl)) rfl
set_option maxRecDepth 100000 in
theorem imX12_fails : Cond.instanceMethod yX12_fails ∈ TB := TB_of (tin_6 (TB_at 73 rfl)) rfl
set_option maxRecDepth 100000 in
theorem seX12_fails : Cond.selects RX12 yX12_fails yX12_fails ∈ TB := TB_of (tin_0 (TB_at 51 rfl)) rfl
theorem kX12_fails : MKv mX12_fails 1 := ⟨imX12_fails, seX12_fails, iniX12, cdX12_fails, ⟨by decide +kernel, by decide +kernel⟩, by decide +kernel, by decide⟩
abbrev mX12_is : MT := (yX12_is, cX12_is, 2, (some .boolean))
set_option maxRecDepth 100000 in
theorem cdX12_is : Cond.code yX12_is cX12_is 2 (some .boolean) ∈ TB := TB_of (tin_6 (TB_at 66 rfl)) rfl
set_option maxRecDepth 100000 in
theorem imX12_is : Cond.instanceMethod yX12_is ∈ TB := TB_of (tin_6 (TB_at 65 rfl)) rfl
set_option maxRecDepth 100000 in
theorem seX12_is : Cond.selects RX12 yX12_is yX12_is ∈ TB := TB_of (tin_0 (TB_at 49 rfl)) rfl
theorem kX12_is : MKv mX12_is 1 := ⟨imX12_is, seX12_is, iniX12, cdX12_is, ⟨by decide +kernel, by decide +kernel⟩, by decide +kernel, by decide⟩
abbrev mX12_eats : MT := (yX12_eats, cX12_eats, 2, (some .boolean))
set_option maxRecDepth 100000 in
theorem cdX12_eats : Cond.code yX12_eats cX12_eats 2 (some .boolean) ∈ TB := TB_of (tin_6 (TB_at 82 rfl)) rfl
set_option maxRecDepth 100000 in
theorem imX12_eats : Cond.instanceMethod yX12_eats ∈ TB := TB_of (tin_6 (TB_at 81 rfl)) rfl
set_option maxRecDepth 100000 in
theorem seX12_eats : Cond.selects RX12 yX12_eats yX12_eats ∈ TB := TB_of (tin_0 (TB_at 53 rfl)) rfl
theorem kX12_eats : MKv mX12_eats 1 := ⟨imX12_eats, seX12_eats, iniX12, cdX12_eats, ⟨by decide +kernel, by decide +kernel⟩, by decide +kernel, by decide⟩
abbrev mX12_takes : MT := (yX12_takes, cX12_takes, 4, (some .int))
set_option maxRecDepth 100000 in
theorem cdX12_takes : Cond.code yX12_takes cX12_takes 4 (some .int) ∈ TB := TB_of (tin_6 (TB_at 78 rfl)) rfl
set_option maxRecDepth 100000 in
theorem imX12_takes : Cond.instanceMethod yX12_takes ∈ TB := TB_of (tin_6 (TB_at 77 rfl)) rfl
set_option maxRecDepth 100000 in
theorem seX12_takes : Cond.selects RX12 yX12_takes yX12_takes ∈ TB := TB_of (tin_0 (TB_at 52 rfl)) rfl
theorem kX12_takes : MKv mX12_takes 2 := ⟨imX12_takes, seX12_takes, iniX12, cdX12_takes, ⟨by decide +kernel, by decide +kernel⟩, by decide +kernel, by decide⟩
abbrev mX12_isIn : MT := (yX12_isIn, cX12_isIn, 3, (some .boolean))
set_option maxRecDepth 100000 in
theorem cdX12_isIn : Cond.code yX12_isIn cX12_isIn 3 (some .boolean) ∈ TB := TB_of (tin_6 (TB_at 165 rfl)) rfl
set_option maxRecDepth 100000 in
theorem stX12_isIn : Cond.static yX12_isIn ∈ TB := TB_of (tin_6 (TB_at 164 rfl)) rfl
theorem kX12_isIn : MKs mX12_isIn 2 := ⟨stX12_isIn, iniX12, cdX12_isIn, ⟨by decide +kernel, by decide +kernel⟩, by decide +kernel, by decide⟩
abbrev mX12_readWorld : MT := (yX12_readWorld, cX12_readWorld, 4, none)
set_option maxRecDepth 100000 in
theorem cdX12_readWorld : Cond.code yX12_readWorld cX12_readWorld 4 none ∈ TB := TB_of (tin_6 (TB_at 70 rfl)) rfl
set_option maxRecDepth 100000 in
theorem imX12_readWorld : Cond.instanceMethod yX12_readWorld ∈ TB := TB_of (tin_6 (TB_at 69 rfl)) rfl
set_option maxRecDepth 100000 in
theorem seX12_readWorld : Cond.selects RX12 yX12_readWorld yX12_readWorld ∈ TB := TB_of (tin_0 (TB_at 50 rfl)) rfl
theorem kX12_readWorld : MKv mX12_readWorld 0 := ⟨imX12_readWorld, seX12_readWorld, iniX12, cdX12_readWorld, ⟨by decide +kernel, by decide +kernel⟩, by decide +kernel, by decide⟩
abbrev mX12_readPerson : MT := (yX12_readPerson, cX12_readPerson, 5, none)
set_option maxRecDepth 100000 in
theorem cdX12_readPerson : Cond.code yX12_readPerson cX12_readPerson 5 none ∈ TB := TB_of (tin_6 (TB_at 125 rfl)) rfl
set_option maxRecDepth 100000 in
theorem imX12_readPerson : Cond.instanceMethod yX12_readPerson ∈ TB := TB_of (tin_6 (TB_at 124 rfl)) rfl
set_option maxRecDepth 100000 in
theorem seX12_readPerson : Cond.selects RX12 yX12_readPerson yX12_readPerson ∈ TB := TB_of (tin_0 (TB_at 63 rfl)) rfl
theorem kX12_readPerson : MKv mX12_readPerson 0 := ⟨imX12_readPerson, seX12_readPerson, iniX12, cdX12_readPerson, ⟨by decide +kernel, by decide +kernel⟩, by decide +kernel, by decide⟩
abbrev mX12_readRoad : MT := (yX12_readRoad, cX12_readRoad, 3, none)
set_option maxRecDepth 100000 in
theorem cdX12_readRoad : Cond.code yX12_readRoad cX12_readRoad 3 none ∈ TB := TB_of (tin_6 (TB_at 129 rfl)) rfl
set_option maxRecDepth 100000 in
theorem imX12_readRoad : Cond.instanceMethod yX12_readRoad ∈ TB := TB_of (tin_6 (TB_at 128 rfl)) rfl
set_option maxRecDepth 100000 in
theorem seX12_readRoad : Cond.selects RX12 yX12_readRoad yX12_readRoad ∈ TB := TB_of (tin_0 (TB_at 64 rfl)) rfl
theorem kX12_readRoad : MKv mX12_readRoad 0 := ⟨imX12_readRoad, seX12_readRoad, iniX12, cdX12_readRoad, ⟨by decide +kernel, by decide +kernel⟩, by decide +kernel, by decide⟩
abbrev mX12_readHint : MT := (yX12_readHint, cX12_readHint, 3, none)
set_option maxRecDepth 100000 in
theorem cdX12_readHint : Cond.code yX12_readHint cX12_readHint 3 none ∈ TB := TB_of (tin_6 (TB_at 133 rfl)) rfl
set_option maxRecDepth 100000 in
theorem imX12_readHint : Cond.instanceMethod yX12_readHint ∈ TB := TB_of (tin_6 (TB_at 132 rfl)) rfl
set_option maxRecDepth 100000 in
theorem seX12_readHint : Cond.selects RX12 yX12_readHint yX12_readHint ∈ TB := TB_of (tin_0 (TB_at 65 rfl)) rfl
theorem kX12_readHint : MKv mX12_readHint 0 := ⟨imX12_readHint, seX12_readHint, iniX12, cdX12_readHint, ⟨by decide +kernel, by decide +kernel⟩, by decide +kernel, by decide⟩
abbrev mX12_tells : MT := (yX12_tells, cX12_tells, 2, none)
set_option maxRecDepth 100000 in
theorem cdX12_tells : Cond.code yX12_tells cX12_tells 2 none ∈ TB := TB_of (tin_6 (TB_at 106 rfl)) rfl
set_option maxRecDepth 100000 in
theorem imX12_tells : Cond.instanceMethod yX12_tells ∈ TB := TB_of (tin_6 (TB_at 105 rfl)) rfl
set_option maxRecDepth 100000 in
theorem seX12_tells : Cond.selects RX12 yX12_tells yX12_tells ∈ TB := TB_of (tin_0 (TB_at 59 rfl)) rfl
theorem kX12_tells : MKv mX12_tells 1 := ⟨imX12_tells, seX12_tells, iniX12, cdX12_tells, ⟨by decide +kernel, by decide +kernel⟩, by decide +kernel, by decide⟩
abbrev mX12_goesIn : MT := (yX12_goesIn, cX12_goesIn, 2, (some .boolean))
set_option maxRecDepth 100000 in
theorem cdX12_goesIn : Cond.code yX12_goesIn cX12_goesIn 2 (some .boolean) ∈ TB := TB_of (tin_6 (TB_at 102 rfl)) rfl
set_option maxRecDepth 100000 in
theorem imX12_goesIn : Cond.instanceMethod yX12_goesIn ∈ TB := TB_of (tin_6 (TB_at 101 rfl)) rfl
set_option maxRecDepth 100000 in
theorem seX12_goesIn : Cond.selects RX12 yX12_goesIn yX12_goesIn ∈ TB := TB_of (tin_0 (TB_at 58 rfl)) rfl
theorem kX12_goesIn : MKv mX12_goesIn 1 := ⟨imX12_goesIn, seX12_goesIn, iniX12, cdX12_goesIn, ⟨by decide +kernel, by decide +kernel⟩, by decide +kernel, by decide⟩
abbrev mX12_readAtom : MT := (yX12_readAtom, cX12_readAtom, 2, none)
set_option maxRecDepth 100000 in
theorem cdX12_readAtom : Cond.code yX12_readAtom cX12_readAtom 2 none ∈ TB := TB_of (tin_6 (TB_at 118 rfl)) rfl
set_option maxRecDepth 100000 in
theorem imX12_readAtom : Cond.instanceMethod yX12_readAtom ∈ TB := TB_of (tin_6 (TB_at 117 rfl)) rfl
set_option maxRecDepth 100000 in
theorem seX12_readAtom : Cond.selects RX12 yX12_readAtom yX12_readAtom ∈ TB := TB_of (tin_0 (TB_at 62 rfl)) rfl
theorem kX12_readAtom : MKv mX12_readAtom 1 := ⟨imX12_readAtom, seX12_readAtom, iniX12, cdX12_readAtom, ⟨by decide +kernel, by decide +kernel⟩, by decide +kernel, by decide⟩
abbrev mX12_readTerm : MT := (yX12_readTerm, cX12_readTerm, 2, none)
set_option maxRecDepth 100000 in
theorem cdX12_readTerm : Cond.code yX12_readTerm cX12_readTerm 2 none ∈ TB := TB_of (tin_6 (TB_at 114 rfl)) rfl
set_option maxRecDepth 100000 in
theorem imX12_readTerm : Cond.instanceMethod yX12_readTerm ∈ TB := TB_of (tin_6 (TB_at 113 rfl)) rfl
set_option maxRecDepth 100000 in
theorem seX12_readTerm : Cond.selects RX12 yX12_readTerm yX12_readTerm ∈ TB := TB_of (tin_0 (TB_at 61 rfl)) rfl
theorem kX12_readTerm : MKv mX12_readTerm 1 := ⟨imX12_readTerm, seX12_readTerm, iniX12, cdX12_readTerm, ⟨by decide +kernel, by decide +kernel⟩, by decide +kernel, by decide⟩
abbrev mX12_readSum : MT := (yX12_readSum, cX12_readSum, 3, none)
set_option maxRecDepth 100000 in
theorem cdX12_readSum : Cond.code yX12_readSum cX12_readSum 3 none ∈ TB := TB_of (tin_6 (TB_at 110 rfl)) rfl
set_option maxRecDepth 100000 in
theorem imX12_readSum : Cond.instanceMethod yX12_readSum ∈ TB := TB_of (tin_6 (TB_at 109 rfl)) rfl
set_option maxRecDepth 100000 in
theorem seX12_readSum : Cond.selects RX12 yX12_readSum yX12_readSum ∈ TB := TB_of (tin_0 (TB_at 60 rfl)) rfl
theorem kX12_readSum : MKv mX12_readSum 1 := ⟨imX12_readSum, seX12_readSum, iniX12, cdX12_readSum, ⟨by decide +kernel, by decide +kernel⟩, by decide +kernel, by decide⟩
abbrev mX12_readUnit : MT := (yX12_readUnit, cX12_readUnit, 3, none)
set_option maxRecDepth 100000 in
theorem cdX12_readUnit : Cond.code yX12_readUnit cX12_readUnit 3 none ∈ TB := TB_of (tin_6 (TB_at 98 rfl)) rfl
set_option maxRecDepth 100000 in
theorem imX12_readUnit : Cond.instanceMethod yX12_readUnit ∈ TB := TB_of (tin_6 (TB_at 97 rfl)) rfl
set_option maxRecDepth 100000 in
theorem seX12_readUnit : Cond.selects RX12 yX12_readUnit yX12_readUnit ∈ TB := TB_of (tin_0 (TB_at 57 rfl)) rfl
theorem kX12_readUnit : MKv mX12_readUnit 1 := ⟨imX12_readUnit, seX12_readUnit, iniX12, cdX12_readUnit, ⟨by decide +kernel, by decide +kernel⟩, by decide +kernel, by decide⟩
abbrev mX12_readBoth : MT := (yX12_readBoth, cX12_readBoth, 2, none)
set_option maxRecDepth 100000 in
theorem cdX12_readBoth : Cond.code yX12_readBoth cX12_readBoth 2 none ∈ TB := TB_of (tin_6 (TB_at 94 rfl)) rfl
set_option maxRecDepth 100000 in
theorem imX12_readBoth : Cond.instanceMethod yX12_readBoth ∈ TB := TB_of (tin_6 (TB_at 93 rfl)) rfl
set_option maxRecDepth 100000 in
theorem seX12_readBoth : Cond.selects RX12 yX12_readBoth yX12_readBoth ∈ TB := TB_of (tin_0 (TB_at 56 rfl)) rfl
theorem kX12_readBoth : MKv mX12_readBoth 1 := ⟨imX12_readBoth, seX12_readBoth, iniX12, cdX12_readBoth, ⟨by decide +kernel, by decide +kernel⟩, by decide +kernel, by decide⟩
abbrev mX12_readTruth : MT := (yX12_readTruth, cX12_readTruth, 2, none)
set_option maxRecDepth 100000 in
theorem cdX12_readTruth : Cond.code yX12_readTruth cX12_readTruth 2 none ∈ TB := TB_of (tin_6 (TB_at 90 rfl)) rfl
set_option maxRecDepth 100000 in
theorem imX12_readTruth : Cond.instanceMethod yX12_readTruth ∈ TB := TB_of (tin_6 (TB_at 89 rfl)) rfl
set_option maxRecDepth 100000 in
theorem seX12_readTruth : Cond.selects RX12 yX12_readTruth yX12_readTruth ∈ TB := TB_of (tin_0 (TB_at 55 rfl)) rfl
theorem kX12_readTruth : MKv mX12_readTruth 1 := ⟨imX12_readTruth, seX12_readTruth, iniX12, cdX12_readTruth, ⟨by decide +kernel, by decide +kernel⟩, by decide +kernel, by decide⟩
abbrev mX12_readFact : MT := (yX12_readFact, cX12_readFact, 2, none)
set_option maxRecDepth 100000 in
theorem cdX12_readFact : Cond.code yX12_readFact cX12_readFact 2 none ∈ TB := TB_of (tin_6 (TB_at 86 rfl)) rfl
set_option maxRecDepth 100000 in
theorem imX12_readFact : Cond.instanceMethod yX12_readFact ∈ TB := TB_of (tin_6 (TB_at 85 rfl)) rfl
set_option maxRecDepth 100000 in
theorem seX12_readFact : Cond.selects RX12 yX12_readFact yX12_readFact ∈ TB := TB_of (tin_0 (TB_at 54 rfl)) rfl
theorem kX12_readFact : MKv mX12_readFact 0 := ⟨imX12_readFact, seX12_readFact, iniX12, cdX12_readFact, ⟨by decide +kernel, by decide +kernel⟩, by decide +kernel, by decide⟩
abbrev mX12_wordOf : MT := (yX12_wordOf, cX12_wordOf, 4, (some .int))
set_option maxRecDepth 100000 in
theorem cdX12_wordOf : Cond.code yX12_wordOf cX12_wordOf 4 (some .int) ∈ TB := TB_of (tin_6 (TB_at 141 rfl)) rfl
set_option maxRecDepth 100000 in
theorem imX12_wordOf : Cond.instanceMethod yX12_wordOf ∈ TB := TB_of (tin_6 (TB_at 140 rfl)) rfl
set_option maxRecDepth 100000 in
theorem seX12_wordOf : Cond.selects RX12 yX12_wordOf yX12_wordOf ∈ TB := TB_of (tin_0 (TB_at 67 rfl)) rfl
theorem kX12_wordOf : MKv mX12_wordOf 2 := ⟨imX12_wordOf, seX12_wordOf, iniX12, cdX12_wordOf, ⟨by decide +kernel, by decide +kernel⟩, by decide +kernel, by decide⟩
abbrev mX12_between : MT := (yX12_between, cX12_between, 5, (some .int))
set_option maxRecDepth 100000 in
theorem cdX12_between : Cond.code yX12_between cX12_between 5 (some .int) ∈ TB := TB_of (tin_6 (TB_at 144 rfl)) rfl
set_option maxRecDepth 100000 in
theorem stX12_between : Cond.static yX12_between ∈ TB := TB_of (tin_6 (TB_at 143 rfl)) rfl
theorem kX12_between : MKs mX12_between 3 := ⟨stX12_between, iniX12, cdX12_between, ⟨by decide +kernel, by decide +kernel⟩, by decide +kernel, by decide⟩
abbrev mX12_holdsIn : MT := (yX12_holdsIn, cX12_holdsIn, 6, (some .boolean))
set_option maxRecDepth 100000 in
theorem cdX12_holdsIn : Cond.code yX12_holdsIn cX12_holdsIn 6 (some .boolean) ∈ TB := TB_of (tin_6 (TB_at 137 rfl)) rfl
set_option maxRecDepth 100000 in
theorem imX12_holdsIn : Cond.instanceMethod yX12_holdsIn ∈ TB := TB_of (tin_6 (TB_at 136 rfl)) rfl
set_option maxRecDepth 100000 in
theorem seX12_holdsIn : Cond.selects RX12 yX12_holdsIn yX12_holdsIn ∈ TB := TB_of (tin_0 (TB_at 66 rfl)) rfl
theorem kX12_holdsIn : MKv mX12_holdsIn 2 := ⟨imX12_holdsIn, seX12_holdsIn, iniX12, cdX12_holdsIn, ⟨by decide +kernel, by decide +kernel⟩, by decide +kernel, by decide⟩
abbrev mX12_land : MT := (yX12_land, cX12_land, 4, (some .int))
set_option maxRecDepth 100000 in
theorem cdX12_land : Cond.code yX12_land cX12_land 4 (some .int) ∈ TB := TB_of (tin_6 (TB_at 37 rfl)) rfl
set_option maxRecDepth 100000 in
theorem imX12_land : Cond.instanceMethod yX12_land ∈ TB := TB_of (tin_6 (TB_at 35 rfl)) rfl
set_option maxRecDepth 100000 in
theorem seX12_land : Cond.selects RX12 yX12_land yX12_land ∈ TB := TB_of (tin_6 (TB_at 36 rfl)) rfl
theorem kX12_land : MKv mX12_land 1 := ⟨imX12_land, seX12_land, iniX12, cdX12_land, ⟨by decide +kernel, by decide +kernel⟩, by decide +kernel, by decide⟩
abbrev mX12_fault : MT := (yX12_fault, cX12_fault, 2, (some .int))
set_option maxRecDepth 100000 in
theorem cdX12_fault : Cond.code yX12_fault cX12_fault 2 (some .int) ∈ TB := TB_of (tin_6 (TB_at 150 rfl)) rfl
set_option maxRecDepth 100000 in
theorem imX12_fault : Cond.instanceMethod yX12_fault ∈ TB := TB_of (tin_6 (TB_at 148 rfl)) rfl
set_option maxRecDepth 100000 in
theorem seX12_fault : Cond.selects RX12 yX12_fault yX12_fault ∈ TB := TB_of (tin_6 (TB_at 149 rfl)) rfl
theorem kX12_fault : MKv mX12_fault 1 := ⟨imX12_fault, seX12_fault, iniX12, cdX12_fault, ⟨by decide +kernel, by decide +kernel⟩, by decide +kernel, by decide⟩
abbrev mX12_isWorld : MT := (yX12_isWorld, cX12_isWorld, 2, (some .boolean))
set_option maxRecDepth 100000 in
theorem cdX12_isWorld : Cond.code yX12_isWorld cX12_isWorld 2 (some .boolean) ∈ TB := TB_of (tin_6 (TB_at 158 rfl)) rfl
set_option maxRecDepth 100000 in
theorem imX12_isWorld : Cond.instanceMethod yX12_isWorld ∈ TB := TB_of (tin_6 (TB_at 157 rfl)) rfl
set_option maxRecDepth 100000 in
theorem seX12_isWorld : Cond.selects RX12 yX12_isWorld yX12_isWorld ∈ TB := TB_of (tin_0 (TB_at 68 rfl)) rfl
theorem kX12_isWorld : MKv mX12_isWorld 1 := ⟨imX12_isWorld, seX12_isWorld, iniX12, cdX12_isWorld, ⟨by decide +kernel, by decide +kernel⟩, by decide +kernel, by decide⟩
abbrev mX12_isFact : MT := (yX12_isFact, cX12_isFact, 3, (some .boolean))
set_option maxRecDepth 100000 in
theorem cdX12_isFact : Cond.code yX12_isFact cX12_isFact 3 (some .boolean) ∈ TB := TB_of (tin_6 (TB_at 173 rfl)) rfl
set_option maxRecDepth 100000 in
theorem imX12_isFact : Cond.instanceMethod yX12_isFact ∈ TB := TB_of (tin_6 (TB_at 172 rfl)) rfl
set_option maxRecDepth 100000 in
theorem seX12_isFact : Cond.selects RX12 yX12_isFact yX12_isFact ∈ TB := TB_of (tin_0 (TB_at 70 rfl)) rfl
theorem kX12_isFact : MKv mX12_isFact 1 := ⟨imX12_isFact, seX12_isFact, iniX12, cdX12_isFact, ⟨by decide +kernel, by decide +kernel⟩, by decide +kernel, by decide⟩
abbrev mX12_isPerson : MT := (yX12_isPerson, cX12_isPerson, 3, (some .boolean))
set_option maxRecDepth 100000 in
theorem cdX12_isPerson : Cond.code yX12_isPerson cX12_isPerson 3 (some .boolean) ∈ TB := TB_of (tin_6 (TB_at 181 rfl)) rfl
set_option maxRecDepth 100000 in
theorem imX12_isPerson : Cond.instanceMethod yX12_isPerson ∈ TB := TB_of (tin_6 (TB_at 180 rfl)) rfl
set_option maxRecDepth 100000 in
theorem seX12_isPerson : Cond.selects RX12 yX12_isPerson yX12_isPerson ∈ TB := TB_of (tin_0 (TB_at 71 rfl)) rfl
theorem kX12_isPerson : MKv mX12_isPerson 1 := ⟨imX12_isPerson, seX12_isPerson, iniX12, cdX12_isPerson, ⟨by decide +kernel, by decide +kernel⟩, by decide +kernel, by decide⟩
abbrev mX12_worlds : MT := (yX12_worlds, cX12_worlds, 1, (some .int))
set_option maxRecDepth 100000 in
theorem cdX12_worlds : Cond.code yX12_worlds cX12_worlds 1 (some .int) ∈ TB := TB_of (tin_6 (TB_at 193 rfl)) rfl
set_option maxRecDepth 100000 in
theorem imX12_worlds : Cond.instanceMethod yX12_worlds ∈ TB := TB_of (tin_6 (TB_at 192 rfl)) rfl
set_option maxRecDepth 100000 in
theorem seX12_worlds : Cond.selects RX12 yX12_worlds yX12_worlds ∈ TB := TB_of (tin_0 (TB_at 74 rfl)) rfl
theorem kX12_worlds : MKv mX12_worlds 0 := ⟨imX12_worlds, seX12_worlds, iniX12, cdX12_worlds, ⟨by decide +kernel, by decide +kernel⟩, by decide +kernel, by decide⟩
abbrev mX12_bitsOf : MT := (yX12_bitsOf, cX12_bitsOf, 3, (some .int))
set_option maxRecDepth 100000 in
theorem cdX12_bitsOf : Cond.code yX12_bitsOf cX12_bitsOf 3 (some .int) ∈ TB := TB_of (tin_6 (TB_at 231 rfl)) rfl
set_option maxRecDepth 100000 in
theorem stX12_bitsOf : Cond.static yX12_bitsOf ∈ TB := TB_of (tin_6 (TB_at 230 rfl)) rfl
theorem kX12_bitsOf : MKs mX12_bitsOf 1 := ⟨stX12_bitsOf, iniX12, cdX12_bitsOf, ⟨by decide +kernel, by decide +kernel⟩, by decide +kernel, by decide⟩
abbrev mX12_factsOf : MT := (yX12_factsOf, cX12_factsOf, 4, (some .int))
set_option maxRecDepth 100000 in
theorem cdX12_factsOf : Cond.code yX12_factsOf cX12_factsOf 4 (some .int) ∈ TB := TB_of (tin_6 (TB_at 162 rfl)) rfl
set_option maxRecDepth 100000 in
theorem imX12_factsOf : Cond.instanceMethod yX12_factsOf ∈ TB := TB_of (tin_6 (TB_at 161 rfl)) rfl
set_option maxRecDepth 100000 in
theorem seX12_factsOf : Cond.selects RX12 yX12_factsOf yX12_factsOf ∈ TB := TB_of (tin_0 (TB_at 69 rfl)) rfl
theorem kX12_factsOf : MKv mX12_factsOf 1 := ⟨imX12_factsOf, seX12_factsOf, iniX12, cdX12_factsOf, ⟨by decide +kernel, by decide +kernel⟩, by decide +kernel, by decide⟩
abbrev mX12_cellOf : MT := (yX12_cellOf, cX12_cellOf, 5, (some .int))
set_option maxRecDepth 100000 in
theorem cdX12_cellOf : Cond.code yX12_cellOf cX12_cellOf 5 (some .int) ∈ TB := TB_of (tin_6 (TB_at 189 rfl)) rfl
set_option maxRecDepth 100000 in
theorem imX12_cellOf : Cond.instanceMethod yX12_cellOf ∈ TB := TB_of (tin_6 (TB_at 188 rfl)) rfl
set_option maxRecDepth 100000 in
theorem seX12_cellOf : Cond.selects RX12 yX12_cellOf yX12_cellOf ∈ TB := TB_of (tin_0 (TB_at 73 rfl)) rfl
theorem kX12_cellOf : MKv mX12_cellOf 2 := ⟨imX12_cellOf, seX12_cellOf, iniX12, cdX12_cellOf, ⟨by decide +kernel, by decide +kernel⟩, by decide +kernel, by decide⟩
abbrev mX12_guilty : MT := (yX12_guilty, cX12_guilty, 3, (some .int))
set_option maxRecDepth 100000 in
theorem cdX12_guilty : Cond.code yX12_guilty cX12_guilty 3 (some .int) ∈ TB := TB_of (tin_6 (TB_at 204 rfl)) rfl
set_option maxRecDepth 100000 in
theorem imX12_guilty : Cond.instanceMethod yX12_guilty ∈ TB := TB_of (tin_6 (TB_at 203 rfl)) rfl
set_option maxRecDepth 100000 in
theorem seX12_guilty : Cond.selects RX12 yX12_guilty yX12_guilty ∈ TB := TB_of (tin_0 (TB_at 76 rfl)) rfl
theorem kX12_guilty : MKv mX12_guilty 0 := ⟨imX12_guilty, seX12_guilty, iniX12, cdX12_guilty, ⟨by decide +kernel, by decide +kernel⟩, by decide +kernel, by decide⟩
abbrev mX12_isPlain : MT := (yX12_isPlain, cX12_isPlain, 2, (some .boolean))
set_option maxRecDepth 100000 in
theorem cdX12_isPlain : Cond.code yX12_isPlain cX12_isPlain 2 (some .boolean) ∈ TB := TB_of (tin_6 (TB_at 200 rfl)) rfl
set_option maxRecDepth 100000 in
theorem stX12_isPlain : Cond.static yX12_isPlain ∈ TB := TB_of (tin_6 (TB_at 199 rfl)) rfl
theorem kX12_isPlain : MKs mX12_isPlain 2 := ⟨stX12_isPlain, iniX12, cdX12_isPlain, ⟨by decide +kernel, by decide +kernel⟩, by decide +kernel, by decide⟩
abbrev mX12_knownIn : MT := (yX12_knownIn, cX12_knownIn, 4, (some .int))
set_option maxRecDepth 100000 in
theorem cdX12_knownIn : Cond.code yX12_knownIn cX12_knownIn 4 (some .int) ∈ TB := TB_of (tin_6 (TB_at 197 rfl)) rfl
set_option maxRecDepth 100000 in
theorem imX12_knownIn : Cond.instanceMethod yX12_knownIn ∈ TB := TB_of (tin_6 (TB_at 196 rfl)) rfl
set_option maxRecDepth 100000 in
theorem seX12_knownIn : Cond.selects RX12 yX12_knownIn yX12_knownIn ∈ TB := TB_of (tin_0 (TB_at 75 rfl)) rfl
theorem kX12_knownIn : MKv mX12_knownIn 1 := ⟨imX12_knownIn, seX12_knownIn, iniX12, cdX12_knownIn, ⟨by decide +kernel, by decide +kernel⟩, by decide +kernel, by decide⟩
abbrev mX12_cellNow : MT := (yX12_cellNow, cX12_cellNow, 2, (some .int))
set_option maxRecDepth 100000 in
theorem cdX12_cellNow : Cond.code yX12_cellNow cX12_cellNow 2 (some .int) ∈ TB := TB_of (tin_6 (TB_at 185 rfl)) rfl
set_option maxRecDepth 100000 in
theorem imX12_cellNow : Cond.instanceMethod yX12_cellNow ∈ TB := TB_of (tin_6 (TB_at 184 rfl)) rfl
set_option maxRecDepth 100000 in
theorem seX12_cellNow : Cond.selects RX12 yX12_cellNow yX12_cellNow ∈ TB := TB_of (tin_0 (TB_at 72 rfl)) rfl
theorem kX12_cellNow : MKv mX12_cellNow 1 := ⟨imX12_cellNow, seX12_cellNow, iniX12, cdX12_cellNow, ⟨by decide +kernel, by decide +kernel⟩, by decide +kernel, by decide⟩
abbrev mX12_world : MT := (yX12_world, cX12_world, 3, (some .int))
set_option maxRecDepth 100000 in
theorem cdX12_world : Cond.code yX12_world cX12_world 3 (some .int) ∈ TB := TB_of (tin_6 (TB_at 154 rfl)) rfl
set_option maxRecDepth 100000 in
theorem imX12_world : Cond.instanceMethod yX12_world ∈ TB := TB_of (tin_6 (TB_at 152 rfl)) rfl
set_option maxRecDepth 100000 in
theorem seX12_world : Cond.selects RX12 yX12_world yX12_world ∈ TB := TB_of (tin_6 (TB_at 153 rfl)) rfl
theorem kX12_world : MKv mX12_world 2 := ⟨imX12_world, seX12_world, iniX12, cdX12_world, ⟨by decide +kernel, by decide +kernel⟩, by decide +kernel, by decide⟩
abbrev mX12_fact : MT := (yX12_fact, cX12_fact, 2, (some .int))
set_option maxRecDepth 100000 in
theorem cdX12_fact : Cond.code yX12_fact cX12_fact 2 (some .int) ∈ TB := TB_of (tin_6 (TB_at 169 rfl)) rfl
set_option maxRecDepth 100000 in
theorem imX12_fact : Cond.instanceMethod yX12_fact ∈ TB := TB_of (tin_6 (TB_at 167 rfl)) rfl
set_option maxRecDepth 100000 in
theorem seX12_fact : Cond.selects RX12 yX12_fact yX12_fact ∈ TB := TB_of (tin_6 (TB_at 168 rfl)) rfl
theorem kX12_fact : MKv mX12_fact 1 := ⟨imX12_fact, seX12_fact, iniX12, cdX12_fact, ⟨by decide +kernel, by decide +kernel⟩, by decide +kernel, by decide⟩
abbrev mX12_person : MT := (yX12_person, cX12_person, 3, (some .int))
set_option maxRecDepth 100000 in
theorem cdX12_person : Cond.code yX12_person cX12_person 3 (some .int) ∈ TB := TB_of (tin_6 (TB_at 177 rfl)) rfl
set_option maxRecDepth 100000 in
theorem imX12_person : Cond.instanceMethod yX12_person ∈ TB := TB_of (tin_6 (TB_at 175 rfl)) rfl
set_option maxRecDepth 100000 in
theorem seX12_person : Cond.selects RX12 yX12_person yX12_person ∈ TB := TB_of (tin_6 (TB_at 176 rfl)) rfl
theorem kX12_person : MKv mX12_person 2 := ⟨imX12_person, seX12_person, iniX12, cdX12_person, ⟨by decide +kernel, by decide +kernel⟩, by decide +kernel, by decide⟩
abbrev mX12_hints : MT := (yX12_hints, cX12_hints, 2, (some .int))
set_option maxRecDepth 100000 in
theorem cdX12_hints : Cond.code yX12_hints cX12_hints 2 (some .int) ∈ TB := TB_of (tin_6 (TB_at 208 rfl)) rfl
set_option maxRecDepth 100000 in
theorem imX12_hints : Cond.instanceMethod yX12_hints ∈ TB := TB_of (tin_6 (TB_at 206 rfl)) rfl
set_option maxRecDepth 100000 in
theorem seX12_hints : Cond.selects RX12 yX12_hints yX12_hints ∈ TB := TB_of (tin_6 (TB_at 207 rfl)) rfl
theorem kX12_hints : MKv mX12_hints 1 := ⟨imX12_hints, seX12_hints, iniX12, cdX12_hints, ⟨by decide +kernel, by decide +kernel⟩, by decide +kernel, by decide⟩
abbrev mX12_knows : MT := (yX12_knows, cX12_knows, 4, (some .int))
set_option maxRecDepth 100000 in
theorem cdX12_knows : Cond.code yX12_knows cX12_knows 4 (some .int) ∈ TB := TB_of (tin_6 (TB_at 212 rfl)) rfl
set_option maxRecDepth 100000 in
theorem imX12_knows : Cond.instanceMethod yX12_knows ∈ TB := TB_of (tin_6 (TB_at 210 rfl)) rfl
set_option maxRecDepth 100000 in
theorem seX12_knows : Cond.selects RX12 yX12_knows yX12_knows ∈ TB := TB_of (tin_6 (TB_at 211 rfl)) rfl
theorem kX12_knows : MKv mX12_knows 2 := ⟨imX12_knows, seX12_knows, iniX12, cdX12_knows, ⟨by decide +kernel, by decide +kernel⟩, by decide +kernel, by decide⟩
abbrev mX12_cell : MT := (yX12_cell, cX12_cell, 3, (some .int))
set_option maxRecDepth 100000 in
theorem cdX12_cell : Cond.code yX12_cell cX12_cell 3 (some .int) ∈ TB := TB_of (tin_6 (TB_at 216 rfl)) rfl
set_option maxRecDepth 100000 in
theorem imX12_cell : Cond.instanceMethod yX12_cell ∈ TB := TB_of (tin_6 (TB_at 214 rfl)) rfl
set_option maxRecDepth 100000 in
theorem seX12_cell : Cond.selects RX12 yX12_cell yX12_cell ∈ TB := TB_of (tin_6 (TB_at 215 rfl)) rfl
theorem kX12_cell : MKv mX12_cell 2 := ⟨imX12_cell, seX12_cell, iniX12, cdX12_cell, ⟨by decide +kernel, by decide +kernel⟩, by decide +kernel, by decide⟩
abbrev mX12_keeps : MT := (yX12_keeps, cX12_keeps, 2, none)
set_option maxRecDepth 100000 in
theorem cdX12_keeps : Cond.code yX12_keeps cX12_keeps 2 none ∈ TB := TB_of (tin_6 (TB_at 224 rfl)) rfl
set_option maxRecDepth 100000 in
theorem imX12_keeps : Cond.instanceMethod yX12_keeps ∈ TB := TB_of (tin_6 (TB_at 223 rfl)) rfl
set_option maxRecDepth 100000 in
theorem seX12_keeps : Cond.selects RX12 yX12_keeps yX12_keeps ∈ TB := TB_of (tin_0 (TB_at 77 rfl)) rfl
theorem kX12_keeps : MKv mX12_keeps 0 := ⟨imX12_keeps, seX12_keeps, iniX12, cdX12_keeps, ⟨by decide +kernel, by decide +kernel⟩, by decide +kernel, by decide⟩
abbrev mX12_isAgain : MT := (yX12_isAgain, cX12_isAgain, 2, none)
set_option maxRecDepth 100000 in
theorem cdX12_isAgain : Cond.code yX12_isAgain cX12_isAgain 2 none ∈ TB := TB_of (tin_7 (TB_at 49 rfl)) rfl
set_option maxRecDepth 100000 in
theorem imX12_isAgain : Cond.instanceMethod yX12_isAgain ∈ TB := TB_of (tin_7 (TB_at 48 rfl)) rfl
set_option maxRecDepth 100000 in
theorem seX12_isAgain : Cond.selects RX12 yX12_isAgain yX12_isAgain ∈ TB := TB_of (tin_0 (TB_at 86 rfl)) rfl
theorem kX12_isAgain : MKv mX12_isAgain 0 := ⟨imX12_isAgain, seX12_isAgain, iniX12, cdX12_isAgain, ⟨by decide +kernel, by decide +kernel⟩, by decide +kernel, by decide⟩
abbrev mX12_notes : MT := (yX12_notes, cX12_notes, 2, none)
set_option maxRecDepth 100000 in
theorem cdX12_notes : Cond.code yX12_notes cX12_notes 2 none ∈ TB := TB_of (tin_6 (TB_at 228 rfl)) rfl
set_option maxRecDepth 100000 in
theorem imX12_notes : Cond.instanceMethod yX12_notes ∈ TB := TB_of (tin_6 (TB_at 227 rfl)) rfl
set_option maxRecDepth 100000 in
theorem seX12_notes : Cond.selects RX12 yX12_notes yX12_notes ∈ TB := TB_of (tin_0 (TB_at 78 rfl)) rfl
theorem kX12_notes : MKv mX12_notes 0 := ⟨imX12_notes, seX12_notes, iniX12, cdX12_notes, ⟨by decide +kernel, by decide +kernel⟩, by decide +kernel, by decide⟩
abbrev mX12_knowsNow : MT := (yX12_knowsNow, cX12_knowsNow, 3, (some .boolean))
set_option maxRecDepth 100000 in
theorem cdX12_knowsNow : Cond.code yX12_knowsNow cX12_knowsNow 3 (some .boolean) ∈ TB := TB_of (tin_7 (TB_at 3 rfl)) rfl
set_option maxRecDepth 100000 in
theorem imX12_knowsNow : Cond.instanceMethod yX12_knowsNow ∈ TB := TB_of (tin_7 (TB_at 2 rfl)) rfl
set_option maxRecDepth 100000 in
theorem seX12_knowsNow : Cond.selects RX12 yX12_knowsNow yX12_knowsNow ∈ TB := TB_of (tin_0 (TB_at 80 rfl)) rfl
theorem kX12_knowsNow : MKv mX12_knowsNow 2 := ⟨imX12_knowsNow, seX12_knowsNow, iniX12, cdX12_knowsNow, ⟨by decide +kernel, by decide +kernel⟩, by decide +kernel, by decide⟩
abbrev mX12_asks : MT := (yX12_asks, cX12_asks, 4, (some .int))
set_option maxRecDepth 100000 in
theorem cdX12_asks : Cond.code yX12_asks cX12_asks 4 (some .int) ∈ TB := TB_of (tin_6 (TB_at 239 rfl)) rfl
set_option maxRecDepth 100000 in
theorem imX12_asks : Cond.instanceMethod yX12_asks ∈ TB := TB_of (tin_6 (TB_at 238 rfl)) rfl
set_option maxRecDepth 100000 in
theorem seX12_asks : Cond.selects RX12 yX12_asks yX12_asks ∈ TB := TB_of (tin_0 (TB_at 79 rfl)) rfl
theorem kX12_asks : MKv mX12_asks 2 := ⟨imX12_asks, seX12_asks, iniX12, cdX12_asks, ⟨by decide +kernel, by decide +kernel⟩, by decide +kernel, by decide⟩
abbrev mX12_daysOne : MT := (yX12_daysOne, cX12_daysOne, 4, (some .boolean))
set_option maxRecDepth 100000 in
theorem cdX12_daysOne : Cond.code yX12_daysOne cX12_daysOne 4 (some .boolean) ∈ TB := TB_of (tin_7 (TB_at 12 rfl)) rfl
set_option maxRecDepth 100000 in
theorem imX12_daysOne : Cond.instanceMethod yX12_daysOne ∈ TB := TB_of (tin_7 (TB_at 11 rfl)) rfl
set_option maxRecDepth 100000 in
theorem seX12_daysOne : Cond.selects RX12 yX12_daysOne yX12_daysOne ∈ TB := TB_of (tin_0 (TB_at 81 rfl)) rfl
theorem kX12_daysOne : MKv mX12_daysOne 0 := ⟨imX12_daysOne, seX12_daysOne, iniX12, cdX12_daysOne, ⟨by decide +kernel, by decide +kernel⟩, by decide +kernel, by decide⟩
abbrev mX12_tell : MT := (yX12_tell, cX12_tell, 3, (some .int))
set_option maxRecDepth 100000 in
theorem cdX12_tell : Cond.code yX12_tell cX12_tell 3 (some .int) ∈ TB := TB_of (tin_6 (TB_at 220 rfl)) rfl
set_option maxRecDepth 100000 in
theorem imX12_tell : Cond.instanceMethod yX12_tell ∈ TB := TB_of (tin_6 (TB_at 218 rfl)) rfl
set_option maxRecDepth 100000 in
theorem seX12_tell : Cond.selects RX12 yX12_tell yX12_tell ∈ TB := TB_of (tin_6 (TB_at 219 rfl)) rfl
theorem kX12_tell : MKv mX12_tell 2 := ⟨imX12_tell, seX12_tell, iniX12, cdX12_tell, ⟨by decide +kernel, by decide +kernel⟩, by decide +kernel, by decide⟩
abbrev mX12_ask : MT := (yX12_ask, cX12_ask, 4, (some .int))
set_option maxRecDepth 100000 in
theorem cdX12_ask : Cond.code yX12_ask cX12_ask 4 (some .int) ∈ TB := TB_of (tin_6 (TB_at 235 rfl)) rfl
set_option maxRecDepth 100000 in
theorem imX12_ask : Cond.instanceMethod yX12_ask ∈ TB := TB_of (tin_6 (TB_at 233 rfl)) rfl
set_option maxRecDepth 100000 in
theorem seX12_ask : Cond.selects RX12 yX12_ask yX12_ask ∈ TB := TB_of (tin_6 (TB_at 234 rfl)) rfl
theorem kX12_ask : MKv mX12_ask 2 := ⟨imX12_ask, seX12_ask, iniX12, cdX12_ask, ⟨by decide +kernel, by decide +kernel⟩, by decide +kernel, by decide⟩
abbrev mX12_days : MT := (yX12_days, cX12_days, 4, (some .int))
set_option maxRecDepth 100000 in
theorem cdX12_days : Cond.code yX12_days cX12_days 4 (some .int) ∈ TB := TB_of (tin_7 (TB_at 7 rfl)) rfl
set_option maxRecDepth 100000 in
theorem imX12_days : Cond.instanceMethod yX12_days ∈ TB := TB_of (tin_7 (TB_at 5 rfl)) rfl
set_option maxRecDepth 100000 in
theorem seX12_days : Cond.selects RX12 yX12_days yX12_days ∈ TB := TB_of (tin_7 (TB_at 6 rfl)) rfl
theorem kX12_days : MKv mX12_days 1 := ⟨imX12_days, seX12_days, iniX12, cdX12_days, ⟨by decide +kernel, by decide +kernel⟩, by decide +kernel, by decide⟩
abbrev mX12_isTrue : MT := (yX12_isTrue, cX12_isTrue, 2, (some .int))
set_option maxRecDepth 100000 in
theorem cdX12_isTrue : Cond.code yX12_isTrue cX12_isTrue 2 (some .int) ∈ TB := TB_of (tin_7 (TB_at 16 rfl)) rfl
set_option maxRecDepth 100000 in
theorem imX12_isTrue : Cond.instanceMethod yX12_isTrue ∈ TB := TB_of (tin_7 (TB_at 14 rfl)) rfl
set_option maxRecDepth 100000 in
theorem seX12_isTrue : Cond.selects RX12 yX12_isTrue yX12_isTrue ∈ TB := TB_of (tin_7 (TB_at 15 rfl)) rfl
theorem kX12_isTrue : MKv mX12_isTrue 1 := ⟨imX12_isTrue, seX12_isTrue, iniX12, cdX12_isTrue, ⟨by decide +kernel, by decide +kernel⟩, by decide +kernel, by decide⟩
abbrev mX12_undo : MT := (yX12_undo, cX12_undo, 3, (some .int))
set_option maxRecDepth 100000 in
theorem cdX12_undo : Cond.code yX12_undo cX12_undo 3 (some .int) ∈ TB := TB_of (tin_7 (TB_at 20 rfl)) rfl
set_option maxRecDepth 100000 in
theorem imX12_undo : Cond.instanceMethod yX12_undo ∈ TB := TB_of (tin_7 (TB_at 18 rfl)) rfl
set_option maxRecDepth 100000 in
theorem seX12_undo : Cond.selects RX12 yX12_undo yX12_undo ∈ TB := TB_of (tin_7 (TB_at 19 rfl)) rfl
theorem kX12_undo : MKv mX12_undo 1 := ⟨imX12_undo, seX12_undo, iniX12, cdX12_undo, ⟨by decide +kernel, by decide +kernel⟩, by decide +kernel, by decide⟩
abbrev mX12_doesAll : MT := (yX12_doesAll, cX12_doesAll, 9, (some .int))
set_option maxRecDepth 100000 in
theorem cdX12_doesAll : Cond.code yX12_doesAll cX12_doesAll 9 (some .int) ∈ TB := TB_of (tin_7 (TB_at 29 rfl)) rfl
set_option maxRecDepth 100000 in
theorem imX12_doesAll : Cond.instanceMethod yX12_doesAll ∈ TB := TB_of (tin_7 (TB_at 28 rfl)) rfl
set_option maxRecDepth 100000 in
theorem seX12_doesAll : Cond.selects RX12 yX12_doesAll yX12_doesAll ∈ TB := TB_of (tin_0 (TB_at 82 rfl)) rfl
theorem kX12_doesAll : MKv mX12_doesAll 1 := ⟨imX12_doesAll, seX12_doesAll, iniX12, cdX12_doesAll, ⟨by decide +kernel, by decide +kernel⟩, by decide +kernel, by decide⟩
abbrev mX12_judge : MT := (yX12_judge, cX12_judge, 5, (some .int))
set_option maxRecDepth 100000 in
theorem cdX12_judge : Cond.code yX12_judge cX12_judge 5 (some .int) ∈ TB := TB_of (tin_7 (TB_at 24 rfl)) rfl
set_option maxRecDepth 100000 in
theorem imX12_judge : Cond.instanceMethod yX12_judge ∈ TB := TB_of (tin_7 (TB_at 22 rfl)) rfl
set_option maxRecDepth 100000 in
theorem seX12_judge : Cond.selects RX12 yX12_judge yX12_judge ∈ TB := TB_of (tin_7 (TB_at 23 rfl)) rfl
theorem kX12_judge : MKv mX12_judge 2 := ⟨imX12_judge, seX12_judge, iniX12, cdX12_judge, ⟨by decide +kernel, by decide +kernel⟩, by decide +kernel, by decide⟩
abbrev mX12_perform : MT := (yX12_perform, cX12_perform, 3, (some .int))
set_option maxRecDepth 100000 in
theorem cdX12_perform : Cond.code yX12_perform cX12_perform 3 (some .int) ∈ TB := TB_of (tin_7 (TB_at 53 rfl)) rfl
set_option maxRecDepth 100000 in
theorem imX12_perform : Cond.instanceMethod yX12_perform ∈ TB := TB_of (tin_7 (TB_at 51 rfl)) rfl
set_option maxRecDepth 100000 in
theorem seX12_perform : Cond.selects RX12 yX12_perform yX12_perform ∈ TB := TB_of (tin_7 (TB_at 52 rfl)) rfl
theorem kX12_perform : MKv mX12_perform 1 := ⟨imX12_perform, seX12_perform, iniX12, cdX12_perform, ⟨by decide +kernel, by decide +kernel⟩, by decide +kernel, by decide⟩
abbrev mX12_draw : MT := (yX12_draw, cX12_draw, 2, (some .int))
set_option maxRecDepth 100000 in
theorem cdX12_draw : Cond.code yX12_draw cX12_draw 2 (some .int) ∈ TB := TB_of (tin_7 (TB_at 65 rfl)) rfl
set_option maxRecDepth 100000 in
theorem imX12_draw : Cond.instanceMethod yX12_draw ∈ TB := TB_of (tin_7 (TB_at 64 rfl)) rfl
set_option maxRecDepth 100000 in
theorem seX12_draw : Cond.selects RX12 yX12_draw yX12_draw ∈ TB := TB_of (tin_0 (TB_at 88 rfl)) rfl
theorem kX12_draw : MKv mX12_draw 1 := ⟨imX12_draw, seX12_draw, iniX12, cdX12_draw, ⟨by decide +kernel, by decide +kernel⟩, by decide +kernel, by decide⟩
abbrev mX12_comes : MT := (yX12_comes, cX12_comes, 4, none)
set_option maxRecDepth 100000 in
theorem cdX12_comes : Cond.code yX12_comes cX12_comes 4 none ∈ TB := TB_of (tin_7 (TB_at 61 rfl)) rfl
set_option maxRecDepth 100000 in
theorem imX12_comes : Cond.instanceMethod yX12_comes ∈ TB := TB_of (tin_7 (TB_at 60 rfl)) rfl
set_option maxRecDepth 100000 in
theorem seX12_comes : Cond.selects RX12 yX12_comes yX12_comes ∈ TB := TB_of (tin_0 (TB_at 87 rfl)) rfl
theorem kX12_comes : MKv mX12_comes 0 := ⟨imX12_comes, seX12_comes, iniX12, cdX12_comes, ⟨by decide +kernel, by decide +kernel⟩, by decide +kernel, by decide⟩
abbrev mX12_year : MT := (yX12_year, cX12_year, 4, (some .int))
set_option maxRecDepth 100000 in
theorem cdX12_year : Cond.code yX12_year cX12_year 4 (some .int) ∈ TB := TB_of (tin_7 (TB_at 57 rfl)) rfl
set_option maxRecDepth 100000 in
theorem imX12_year : Cond.instanceMethod yX12_year ∈ TB := TB_of (tin_7 (TB_at 55 rfl)) rfl
set_option maxRecDepth 100000 in
theorem seX12_year : Cond.selects RX12 yX12_year yX12_year ∈ TB := TB_of (tin_7 (TB_at 56 rfl)) rfl
theorem kX12_year : MKv mX12_year 2 := ⟨imX12_year, seX12_year, iniX12, cdX12_year, ⟨by decide +kernel, by decide +kernel⟩, by decide +kernel, by decide⟩
abbrev mX12_everyone : MT := (yX12_everyone, cX12_everyone, 3, (some .int))
set_option maxRecDepth 100000 in
theorem cdX12_everyone : Cond.code yX12_everyone cX12_everyone 3 (some .int) ∈ TB := TB_of (tin_7 (TB_at 70 rfl)) rfl
set_option maxRecDepth 100000 in
theorem imX12_everyone : Cond.instanceMethod yX12_everyone ∈ TB := TB_of (tin_7 (TB_at 68 rfl)) rfl
set_option maxRecDepth 100000 in
theorem seX12_everyone : Cond.selects RX12 yX12_everyone yX12_everyone ∈ TB := TB_of (tin_7 (TB_at 69 rfl)) rfl
theorem kX12_everyone : MKv mX12_everyone 1 := ⟨imX12_everyone, seX12_everyone, iniX12, cdX12_everyone, ⟨by decide +kernel, by decide +kernel⟩, by decide +kernel, by decide⟩
abbrev mX12_knownBy : MT := (yX12_knownBy, cX12_knownBy, 6, (some .int))
set_option maxRecDepth 100000 in
theorem cdX12_knownBy : Cond.code yX12_knownBy cX12_knownBy 6 (some .int) ∈ TB := TB_of (tin_7 (TB_at 82 rfl)) rfl
set_option maxRecDepth 100000 in
theorem imX12_knownBy : Cond.instanceMethod yX12_knownBy ∈ TB := TB_of (tin_7 (TB_at 81 rfl)) rfl
set_option maxRecDepth 100000 in
theorem seX12_knownBy : Cond.selects RX12 yX12_knownBy yX12_knownBy ∈ TB := TB_of (tin_0 (TB_at 90 rfl)) rfl
theorem kX12_knownBy : MKv mX12_knownBy 1 := ⟨imX12_knownBy, seX12_knownBy, iniX12, cdX12_knownBy, ⟨by decide +kernel, by decide +kernel⟩, by decide +kernel, by decide⟩
abbrev mX12_depthOf : MT := (yX12_depthOf, cX12_depthOf, 5, (some .int))
set_option maxRecDepth 100000 in
theorem cdX12_depthOf : Cond.code yX12_depthOf cX12_depthOf 5 (some .int) ∈ TB := TB_of (tin_7 (TB_at 78 rfl)) rfl
set_option maxRecDepth 100000 in
theorem imX12_depthOf : Cond.instanceMethod yX12_depthOf ∈ TB := TB_of (tin_7 (TB_at 77 rfl)) rfl
set_option maxRecDepth 100000 in
theorem seX12_depthOf : Cond.selects RX12 yX12_depthOf yX12_depthOf ∈ TB := TB_of (tin_0 (TB_at 89 rfl)) rfl
theorem kX12_depthOf : MKv mX12_depthOf 1 := ⟨imX12_depthOf, seX12_depthOf, iniX12, cdX12_depthOf, ⟨by decide +kernel, by decide +kernel⟩, by decide +kernel, by decide⟩
abbrev mX12_depth : MT := (yX12_depth, cX12_depth, 2, (some .int))
set_option maxRecDepth 100000 in
theorem cdX12_depth : Cond.code yX12_depth cX12_depth 2 (some .int) ∈ TB := TB_of (tin_7 (TB_at 74 rfl)) rfl
set_option maxRecDepth 100000 in
theorem imX12_depth : Cond.instanceMethod yX12_depth ∈ TB := TB_of (tin_7 (TB_at 72 rfl)) rfl
set_option maxRecDepth 100000 in
theorem seX12_depth : Cond.selects RX12 yX12_depth yX12_depth ∈ TB := TB_of (tin_7 (TB_at 73 rfl)) rfl
theorem kX12_depth : MKv mX12_depth 1 := ⟨imX12_depth, seX12_depth, iniX12, cdX12_depth, ⟨by decide +kernel, by decide +kernel⟩, by decide +kernel, by decide⟩
abbrev mX12_common : MT := (yX12_common, cX12_common, 3, (some .int))
set_option maxRecDepth 100000 in
theorem cdX12_common : Cond.code yX12_common cX12_common 3 (some .int) ∈ TB := TB_of (tin_7 (TB_at 86 rfl)) rfl
set_option maxRecDepth 100000 in
theorem imX12_common : Cond.instanceMethod yX12_common ∈ TB := TB_of (tin_7 (TB_at 84 rfl)) rfl
set_option maxRecDepth 100000 in
theorem seX12_common : Cond.selects RX12 yX12_common yX12_common ∈ TB := TB_of (tin_7 (TB_at 85 rfl)) rfl
theorem kX12_common : MKv mX12_common 0 := ⟨imX12_common, seX12_common, iniX12, cdX12_common, ⟨by decide +kernel, by decide +kernel⟩, by decide +kernel, by decide⟩
abbrev mX12_reach : MT := (yX12_reach, cX12_reach, 7, (some .int))
set_option maxRecDepth 100000 in
theorem cdX12_reach : Cond.code yX12_reach cX12_reach 7 (some .int) ∈ TB := TB_of (tin_7 (TB_at 90 rfl)) rfl
set_option maxRecDepth 100000 in
theorem imX12_reach : Cond.instanceMethod yX12_reach ∈ TB := TB_of (tin_7 (TB_at 88 rfl)) rfl
set_option maxRecDepth 100000 in
theorem seX12_reach : Cond.selects RX12 yX12_reach yX12_reach ∈ TB := TB_of (tin_7 (TB_at 89 rfl)) rfl
theorem kX12_reach : MKv mX12_reach 1 := ⟨imX12_reach, seX12_reach, iniX12, cdX12_reach, ⟨by decide +kernel, by decide +kernel⟩, by decide +kernel, by decide⟩
abbrev mX12_togetherOf : MT := (yX12_togetherOf, cX12_togetherOf, 4, (some .int))
set_option maxRecDepth 100000 in
theorem cdX12_togetherOf : Cond.code yX12_togetherOf cX12_togetherOf 4 (some .int) ∈ TB := TB_of (tin_7 (TB_at 99 rfl)) rfl
set_option maxRecDepth 100000 in
theorem imX12_togetherOf : Cond.instanceMethod yX12_togetherOf ∈ TB := TB_of (tin_7 (TB_at 98 rfl)) rfl
set_option maxRecDepth 100000 in
theorem seX12_togetherOf : Cond.selects RX12 yX12_togetherOf yX12_togetherOf ∈ TB := TB_of (tin_0 (TB_at 91 rfl)) rfl
theorem kX12_togetherOf : MKv mX12_togetherOf 1 := ⟨imX12_togetherOf, seX12_togetherOf, iniX12, cdX12_togetherOf, ⟨by decide +kernel, by decide +kernel⟩, by decide +kernel, by decide⟩
abbrev mX12_together : MT := (yX12_together, cX12_together, 2, (some .int))
set_option maxRecDepth 100000 in
theorem cdX12_together : Cond.code yX12_together cX12_together 2 (some .int) ∈ TB := TB_of (tin_7 (TB_at 95 rfl)) rfl
set_option maxRecDepth 100000 in
theorem imX12_together : Cond.instanceMethod yX12_together ∈ TB := TB_of (tin_7 (TB_at 93 rfl)) rfl
set_option maxRecDepth 100000 in
theorem seX12_together : Cond.selects RX12 yX12_together yX12_together ∈ TB := TB_of (tin_7 (TB_at 94 rfl)) rfl
theorem kX12_together : MKv mX12_together 1 := ⟨imX12_together, seX12_together, iniX12, cdX12_together, ⟨by decide +kernel, by decide +kernel⟩, by decide +kernel, by decide⟩
abbrev mX12_witnesses : MT := (yX12_witnesses, cX12_witnesses, 3, (some .int))
set_option maxRecDepth 100000 in
theorem cdX12_witnesses : Cond.code yX12_witnesses cX12_witnesses 3 (some .int) ∈ TB := TB_of (tin_7 (TB_at 103 rfl)) rfl
set_option maxRecDepth 100000 in
theorem imX12_witnesses : Cond.instanceMethod yX12_witnesses ∈ TB := TB_of (tin_7 (TB_at 101 rfl)) rfl
set_option maxRecDepth 100000 in
theorem seX12_witnesses : Cond.selects RX12 yX12_witnesses yX12_witnesses ∈ TB := TB_of (tin_7 (TB_at 102 rfl)) rfl
theorem kX12_witnesses : MKv mX12_witnesses 0 := ⟨imX12_witnesses, seX12_witnesses, iniX12, cdX12_witnesses, ⟨by decide +kernel, by decide +kernel⟩, by decide +kernel, by decide⟩
abbrev mX12_parting : MT := (yX12_parting, cX12_parting, 3, (some .int))
set_option maxRecDepth 100000 in
theorem cdX12_parting : Cond.code yX12_parting cX12_parting 3 (some .int) ∈ TB := TB_of (tin_7 (TB_at 107 rfl)) rfl
set_option maxRecDepth 100000 in
theorem imX12_parting : Cond.instanceMethod yX12_parting ∈ TB := TB_of (tin_7 (TB_at 105 rfl)) rfl
set_option maxRecDepth 100000 in
theorem seX12_parting : Cond.selects RX12 yX12_parting yX12_parting ∈ TB := TB_of (tin_7 (TB_at 106 rfl)) rfl
theorem kX12_parting : MKv mX12_parting 2 := ⟨imX12_parting, seX12_parting, iniX12, cdX12_parting, ⟨by decide +kernel, by decide +kernel⟩, by decide +kernel, by decide⟩
abbrev mX12_weightOf : MT := (yX12_weightOf, cX12_weightOf, 4, (some .int))
set_option maxRecDepth 100000 in
theorem cdX12_weightOf : Cond.code yX12_weightOf cX12_weightOf 4 (some .int) ∈ TB := TB_of (tin_7 (TB_at 45 rfl)) rfl
set_option maxRecDepth 100000 in
theorem imX12_weightOf : Cond.instanceMethod yX12_weightOf ∈ TB := TB_of (tin_7 (TB_at 44 rfl)) rfl
set_option maxRecDepth 100000 in
theorem seX12_weightOf : Cond.selects RX12 yX12_weightOf yX12_weightOf ∈ TB := TB_of (tin_0 (TB_at 85 rfl)) rfl
theorem kX12_weightOf : MKv mX12_weightOf 1 := ⟨imX12_weightOf, seX12_weightOf, iniX12, cdX12_weightOf, ⟨by decide +kernel, by decide +kernel⟩, by decide +kernel, by decide⟩
abbrev mX12_measureOf : MT := (yX12_measureOf, cX12_measureOf, 5, (some .int))
set_option maxRecDepth 100000 in
theorem cdX12_measureOf : Cond.code yX12_measureOf cX12_measureOf 5 (some .int) ∈ TB := TB_of (tin_7 (TB_at 41 rfl)) rfl
set_option maxRecDepth 100000 in
theorem imX12_measureOf : Cond.instanceMethod yX12_measureOf ∈ TB := TB_of (tin_7 (TB_at 40 rfl)) rfl
set_option maxRecDepth 100000 in
theorem seX12_measureOf : Cond.selects RX12 yX12_measureOf yX12_measureOf ∈ TB := TB_of (tin_0 (TB_at 84 rfl)) rfl
theorem kX12_measureOf : MKv mX12_measureOf 2 := ⟨imX12_measureOf, seX12_measureOf, iniX12, cdX12_measureOf, ⟨by decide +kernel, by decide +kernel⟩, by decide +kernel, by decide⟩
abbrev mX12_leastOf : MT := (yX12_leastOf, cX12_leastOf, 7, (some .int))
set_option maxRecDepth 100000 in
theorem cdX12_leastOf : Cond.code yX12_leastOf cX12_leastOf 7 (some .int) ∈ TB := TB_of (tin_7 (TB_at 37 rfl)) rfl
set_option maxRecDepth 100000 in
theorem imX12_leastOf : Cond.instanceMethod yX12_leastOf ∈ TB := TB_of (tin_7 (TB_at 36 rfl)) rfl
set_option maxRecDepth 100000 in
theorem seX12_leastOf : Cond.selects RX12 yX12_leastOf yX12_leastOf ∈ TB := TB_of (tin_0 (TB_at 83 rfl)) rfl
theorem kX12_leastOf : MKv mX12_leastOf 2 := ⟨imX12_leastOf, seX12_leastOf, iniX12, cdX12_leastOf, ⟨by decide +kernel, by decide +kernel⟩, by decide +kernel, by decide⟩
abbrev mX12_measureNow : MT := (yX12_measureNow, cX12_measureNow, 3, (some .int))
set_option maxRecDepth 100000 in
theorem cdX12_measureNow : Cond.code yX12_measureNow cX12_measureNow 3 (some .int) ∈ TB := TB_of (tin_7 (TB_at 115 rfl)) rfl
set_option maxRecDepth 100000 in
theorem imX12_measureNow : Cond.instanceMethod yX12_measureNow ∈ TB := TB_of (tin_7 (TB_at 114 rfl)) rfl
set_option maxRecDepth 100000 in
theorem seX12_measureNow : Cond.selects RX12 yX12_measureNow yX12_measureNow ∈ TB := TB_of (tin_0 (TB_at 92 rfl)) rfl
theorem kX12_measureNow : MKv mX12_measureNow 2 := ⟨imX12_measureNow, seX12_measureNow, iniX12, cdX12_measureNow, ⟨by decide +kernel, by decide +kernel⟩, by decide +kernel, by decide⟩
abbrev mX12_measure : MT := (yX12_measure, cX12_measure, 3, (some .int))
set_option maxRecDepth 100000 in
theorem cdX12_measure : Cond.code yX12_measure cX12_measure 3 (some .int) ∈ TB := TB_of (tin_7 (TB_at 111 rfl)) rfl
set_option maxRecDepth 100000 in
theorem imX12_measure : Cond.instanceMethod yX12_measure ∈ TB := TB_of (tin_7 (TB_at 109 rfl)) rfl
set_option maxRecDepth 100000 in
theorem seX12_measure : Cond.selects RX12 yX12_measure yX12_measure ∈ TB := TB_of (tin_7 (TB_at 110 rfl)) rfl
theorem kX12_measure : MKv mX12_measure 2 := ⟨imX12_measure, seX12_measure, iniX12, cdX12_measure, ⟨by decide +kernel, by decide +kernel⟩, by decide +kernel, by decide⟩
abbrev mX12_least : MT := (yX12_least, cX12_least, 2, (some .int))
set_option maxRecDepth 100000 in
theorem cdX12_least : Cond.code yX12_least cX12_least 2 (some .int) ∈ TB := TB_of (tin_7 (TB_at 119 rfl)) rfl
set_option maxRecDepth 100000 in
theorem imX12_least : Cond.instanceMethod yX12_least ∈ TB := TB_of (tin_7 (TB_at 117 rfl)) rfl
set_option maxRecDepth 100000 in
theorem seX12_least : Cond.selects RX12 yX12_least yX12_least ∈ TB := TB_of (tin_7 (TB_at 118 rfl)) rfl
theorem kX12_least : MKv mX12_least 1 := ⟨imX12_least, seX12_least, iniX12, cdX12_least, ⟨by decide +kernel, by decide +kernel⟩, by decide +kernel, by decide⟩
abbrev mX12_seats : MT := (yX12_seats, cX12_seats, 5, (some .int))
set_option maxRecDepth 100000 in
theorem cdX12_seats : Cond.code yX12_seats cX12_seats 5 (some .int) ∈ TB := TB_of (tin_7 (TB_at 123 rfl)) rfl
set_option maxRecDepth 100000 in
theorem imX12_seats : Cond.instanceMethod yX12_seats ∈ TB := TB_of (tin_7 (TB_at 121 rfl)) rfl
set_option maxRecDepth 100000 in
theorem seX12_seats : Cond.selects RX12 yX12_seats yX12_seats ∈ TB := TB_of (tin_7 (TB_at 122 rfl)) rfl
theorem kX12_seats : MKv mX12_seats 2 := ⟨imX12_seats, seX12_seats, iniX12, cdX12_seats, ⟨by decide +kernel, by decide +kernel⟩, by decide +kernel, by decide⟩
abbrev mX12_differ : MT := (yX12_differ, cX12_differ, 6, (some .int))
set_option maxRecDepth 100000 in
theorem cdX12_differ : Cond.code yX12_differ cX12_differ 6 (some .int) ∈ TB := TB_of (tin_7 (TB_at 127 rfl)) rfl
set_option maxRecDepth 100000 in
theorem imX12_differ : Cond.instanceMethod yX12_differ ∈ TB := TB_of (tin_7 (TB_at 125 rfl)) rfl
set_option maxRecDepth 100000 in
theorem seX12_differ : Cond.selects RX12 yX12_differ yX12_differ ∈ TB := TB_of (tin_7 (TB_at 126 rfl)) rfl
theorem kX12_differ : MKv mX12_differ 2 := ⟨imX12_differ, seX12_differ, iniX12, cdX12_differ, ⟨by decide +kernel, by decide +kernel⟩, by decide +kernel, by decide⟩
abbrev mX12_laysTold : MT := (yX12_laysTold, cX12_laysTold, 3, none)
set_option maxRecDepth 100000 in
theorem cdX12_laysTold : Cond.code yX12_laysTold cX12_laysTold 3 none ∈ TB := TB_of (tin_7 (TB_at 139 rfl)) rfl
set_option maxRecDepth 100000 in
theorem imX12_laysTold : Cond.instanceMethod yX12_laysTold ∈ TB := TB_of (tin_7 (TB_at 138 rfl)) rfl
set_option maxRecDepth 100000 in
theorem seX12_laysTold : Cond.selects RX12 yX12_laysTold yX12_laysTold ∈ TB := TB_of (tin_0 (TB_at 94 rfl)) rfl
theorem kX12_laysTold : MKv mX12_laysTold 0 := ⟨imX12_laysTold, seX12_laysTold, iniX12, cdX12_laysTold, ⟨by decide +kernel, by decide +kernel⟩, by decide +kernel, by decide⟩
abbrev mX12_couldBe : MT := (yX12_couldBe, cX12_couldBe, 7, none)
set_option maxRecDepth 100000 in
theorem cdX12_couldBe : Cond.code yX12_couldBe cX12_couldBe 7 none ∈ TB := TB_of (tin_7 (TB_at 143 rfl)) rfl
set_option maxRecDepth 100000 in
theorem imX12_couldBe : Cond.instanceMethod yX12_couldBe ∈ TB := TB_of (tin_7 (TB_at 142 rfl)) rfl
set_option maxRecDepth 100000 in
theorem seX12_couldBe : Cond.selects RX12 yX12_couldBe yX12_couldBe ∈ TB := TB_of (tin_0 (TB_at 95 rfl)) rfl
theorem kX12_couldBe : MKv mX12_couldBe 2 := ⟨imX12_couldBe, seX12_couldBe, iniX12, cdX12_couldBe, ⟨by decide +kernel, by decide +kernel⟩, by decide +kernel, by decide⟩
abbrev mX12_askedMany : MT := (yX12_askedMany, cX12_askedMany, 4, (some .int))
set_option maxRecDepth 100000 in
theorem cdX12_askedMany : Cond.code yX12_askedMany cX12_askedMany 4 (some .int) ∈ TB := TB_of (tin_7 (TB_at 155 rfl)) rfl
set_option maxRecDepth 100000 in
theorem imX12_askedMany : Cond.instanceMethod yX12_askedMany ∈ TB := TB_of (tin_7 (TB_at 154 rfl)) rfl
set_option maxRecDepth 100000 in
theorem seX12_askedMany : Cond.selects RX12 yX12_askedMany yX12_askedMany ∈ TB := TB_of (tin_0 (TB_at 98 rfl)) rfl
theorem kX12_askedMany : MKv mX12_askedMany 1 := ⟨imX12_askedMany, seX12_askedMany, iniX12, cdX12_askedMany, ⟨by decide +kernel, by decide +kernel⟩, by decide +kernel, by decide⟩
abbrev mX12_isBetter : MT := (yX12_isBetter, cX12_isBetter, 3, (some .boolean))
set_option maxRecDepth 100000 in
theorem cdX12_isBetter : Cond.code yX12_isBetter cX12_isBetter 3 (some .boolean) ∈ TB := TB_of (tin_7 (TB_at 151 rfl)) rfl
set_option maxRecDepth 100000 in
theorem imX12_isBetter : Cond.instanceMethod yX12_isBetter ∈ TB := TB_of (tin_7 (TB_at 150 rfl)) rfl
set_option maxRecDepth 100000 in
theorem seX12_isBetter : Cond.selects RX12 yX12_isBetter yX12_isBetter ∈ TB := TB_of (tin_0 (TB_at 97 rfl)) rfl
theorem kX12_isBetter : MKv mX12_isBetter 0 := ⟨imX12_isBetter, seX12_isBetter, iniX12, cdX12_isBetter, ⟨by decide +kernel, by decide +kernel⟩, by decide +kernel, by decide⟩
abbrev mX12_askedFor : MT := (yX12_askedFor, cX12_askedFor, 5, (some .int))
set_option maxRecDepth 100000 in
theorem cdX12_askedFor : Cond.code yX12_askedFor cX12_askedFor 5 (some .int) ∈ TB := TB_of (tin_7 (TB_at 147 rfl)) rfl
set_option maxRecDepth 100000 in
theorem imX12_askedFor : Cond.instanceMethod yX12_askedFor ∈ TB := TB_of (tin_7 (TB_at 146 rfl)) rfl
set_option maxRecDepth 100000 in
theorem seX12_askedFor : Cond.selects RX12 yX12_askedFor yX12_askedFor ∈ TB := TB_of (tin_0 (TB_at 96 rfl)) rfl
theorem kX12_askedFor : MKv mX12_askedFor 2 := ⟨imX12_askedFor, seX12_askedFor, iniX12, cdX12_askedFor, ⟨by decide +kernel, by decide +kernel⟩, by decide +kernel, by decide⟩
abbrev mX12_laysShown : MT := (yX12_laysShown, cX12_laysShown, 7, (some .boolean))
set_option maxRecDepth 100000 in
theorem cdX12_laysShown : Cond.code yX12_laysShown cX12_laysShown 7 (some .boolean) ∈ TB := TB_of (tin_7 (TB_at 135 rfl)) rfl
set_option maxRecDepth 100000 in
theorem imX12_laysShown : Cond.instanceMethod yX12_laysShown ∈ TB := TB_of (tin_7 (TB_at 134 rfl)) rfl
set_option maxRecDepth 100000 in
theorem seX12_laysShown : Cond.selects RX12 yX12_laysShown yX12_laysShown ∈ TB := TB_of (tin_0 (TB_at 93 rfl)) rfl
theorem kX12_laysShown : MKv mX12_laysShown 1 := ⟨imX12_laysShown, seX12_laysShown, iniX12, cdX12_laysShown, ⟨by decide +kernel, by decide +kernel⟩, by decide +kernel, by decide⟩
abbrev mX12_shown : MT := (yX12_shown, cX12_shown, 3, (some .int))
set_option maxRecDepth 100000 in
theorem cdX12_shown : Cond.code yX12_shown cX12_shown 3 (some .int) ∈ TB := TB_of (tin_7 (TB_at 131 rfl)) rfl
set_option maxRecDepth 100000 in
theorem imX12_shown : Cond.instanceMethod yX12_shown ∈ TB := TB_of (tin_7 (TB_at 129 rfl)) rfl
set_option maxRecDepth 100000 in
theorem seX12_shown : Cond.selects RX12 yX12_shown yX12_shown ∈ TB := TB_of (tin_7 (TB_at 130 rfl)) rfl
theorem kX12_shown : MKv mX12_shown 2 := ⟨imX12_shown, seX12_shown, iniX12, cdX12_shown, ⟨by decide +kernel, by decide +kernel⟩, by decide +kernel, by decide⟩
abbrev mX12_appeals : MT := (yX12_appeals, cX12_appeals, 8, (some .int))
set_option maxRecDepth 100000 in
theorem cdX12_appeals : Cond.code yX12_appeals cX12_appeals 8 (some .int) ∈ TB := TB_of (tin_7 (TB_at 159 rfl)) rfl
set_option maxRecDepth 100000 in
theorem imX12_appeals : Cond.instanceMethod yX12_appeals ∈ TB := TB_of (tin_7 (TB_at 157 rfl)) rfl
set_option maxRecDepth 100000 in
theorem seX12_appeals : Cond.selects RX12 yX12_appeals yX12_appeals ∈ TB := TB_of (tin_7 (TB_at 158 rfl)) rfl
theorem kX12_appeals : MKv mX12_appeals 3 := ⟨imX12_appeals, seX12_appeals, iniX12, cdX12_appeals, ⟨by decide +kernel, by decide +kernel⟩, by decide +kernel, by decide⟩
abbrev mX12_choices : MT := (yX12_choices, cX12_choices, 1, (some .int))
set_option maxRecDepth 100000 in
theorem cdX12_choices : Cond.code yX12_choices cX12_choices 1 (some .int) ∈ TB := TB_of (tin_7 (TB_at 167 rfl)) rfl
set_option maxRecDepth 100000 in
theorem imX12_choices : Cond.instanceMethod yX12_choices ∈ TB := TB_of (tin_7 (TB_at 166 rfl)) rfl
set_option maxRecDepth 100000 in
theorem seX12_choices : Cond.selects RX12 yX12_choices yX12_choices ∈ TB := TB_of (tin_0 (TB_at 99 rfl)) rfl
theorem kX12_choices : MKv mX12_choices 0 := ⟨imX12_choices, seX12_choices, iniX12, cdX12_choices, ⟨by decide +kernel, by decide +kernel⟩, by decide +kernel, by decide⟩
abbrev mX12_tellsChoice : MT := (yX12_tellsChoice, cX12_tellsChoice, 2, none)
set_option maxRecDepth 100000 in
theorem cdX12_tellsChoice : Cond.code yX12_tellsChoice cX12_tellsChoice 2 none ∈ TB := TB_of (tin_7 (TB_at 171 rfl)) rfl
set_option maxRecDepth 100000 in
theorem imX12_tellsChoice : Cond.instanceMethod yX12_tellsChoice ∈ TB := TB_of (tin_7 (TB_at 170 rfl)) rfl
set_option maxRecDepth 100000 in
theorem seX12_tellsChoice : Cond.selects RX12 yX12_tellsChoice yX12_tellsChoice ∈ TB := TB_of (tin_0 (TB_at 100 rfl)) rfl
theorem kX12_tellsChoice : MKv mX12_tellsChoice 1 := ⟨imX12_tellsChoice, seX12_tellsChoice, iniX12, cdX12_tellsChoice, ⟨by decide +kernel, by decide +kernel⟩, by decide +kernel, by decide⟩
abbrev mX12_codeOf : MT := (yX12_codeOf, cX12_codeOf, 2, (some .int))
set_option maxRecDepth 100000 in
theorem cdX12_codeOf : Cond.code yX12_codeOf cX12_codeOf 2 (some .int) ∈ TB := TB_of (tin_7 (TB_at 179 rfl)) rfl
set_option maxRecDepth 100000 in
theorem imX12_codeOf : Cond.instanceMethod yX12_codeOf ∈ TB := TB_of (tin_7 (TB_at 178 rfl)) rfl
set_option maxRecDepth 100000 in
theorem seX12_codeOf : Cond.selects RX12 yX12_codeOf yX12_codeOf ∈ TB := TB_of (tin_0 (TB_at 102 rfl)) rfl
theorem kX12_codeOf : MKv mX12_codeOf 1 := ⟨imX12_codeOf, seX12_codeOf, iniX12, cdX12_codeOf, ⟨by decide +kernel, by decide +kernel⟩, by decide +kernel, by decide⟩
abbrev mX12_isRest : MT := (yX12_isRest, cX12_isRest, 7, (some .boolean))
set_option maxRecDepth 100000 in
theorem cdX12_isRest : Cond.code yX12_isRest cX12_isRest 7 (some .boolean) ∈ TB := TB_of (tin_7 (TB_at 175 rfl)) rfl
set_option maxRecDepth 100000 in
theorem imX12_isRest : Cond.instanceMethod yX12_isRest ∈ TB := TB_of (tin_7 (TB_at 174 rfl)) rfl
set_option maxRecDepth 100000 in
theorem seX12_isRest : Cond.selects RX12 yX12_isRest yX12_isRest ∈ TB := TB_of (tin_0 (TB_at 101 rfl)) rfl
theorem kX12_isRest : MKv mX12_isRest 4 := ⟨imX12_isRest, seX12_isRest, iniX12, cdX12_isRest, ⟨by decide +kernel, by decide +kernel⟩, by decide +kernel, by decide⟩
abbrev mX12_parties : MT := (yX12_parties, cX12_parties, 7, (some .int))
set_option maxRecDepth 100000 in
theorem cdX12_parties : Cond.code yX12_parties cX12_parties 7 (some .int) ∈ TB := TB_of (tin_7 (TB_at 163 rfl)) rfl
set_option maxRecDepth 100000 in
theorem imX12_parties : Cond.instanceMethod yX12_parties ∈ TB := TB_of (tin_7 (TB_at 161 rfl)) rfl
set_option maxRecDepth 100000 in
theorem seX12_parties : Cond.selects RX12 yX12_parties yX12_parties ∈ TB := TB_of (tin_7 (TB_at 162 rfl)) rfl
theorem kX12_parties : MKv mX12_parties 4 := ⟨imX12_parties, seX12_parties, iniX12, cdX12_parties, ⟨by decide +kernel, by decide +kernel⟩, by decide +kernel, by decide⟩
abbrev mX12_inform : MT := (yX12_inform, cX12_inform, 5, (some .int))
set_option maxRecDepth 100000 in
theorem cdX12_inform : Cond.code yX12_inform cX12_inform 5 (some .int) ∈ TB := TB_of (tin_7 (TB_at 183 rfl)) rfl
set_option maxRecDepth 100000 in
theorem imX12_inform : Cond.instanceMethod yX12_inform ∈ TB := TB_of (tin_7 (TB_at 181 rfl)) rfl
set_option maxRecDepth 100000 in
theorem seX12_inform : Cond.selects RX12 yX12_inform yX12_inform ∈ TB := TB_of (tin_7 (TB_at 182 rfl)) rfl
theorem kX12_inform : MKv mX12_inform 2 := ⟨imX12_inform, seX12_inform, iniX12, cdX12_inform, ⟨by decide +kernel, by decide +kernel⟩, by decide +kernel, by decide⟩
abbrev mX12_worstOf : MT := (yX12_worstOf, cX12_worstOf, 5, (some .int))
set_option maxRecDepth 100000 in
theorem cdX12_worstOf : Cond.code yX12_worstOf cX12_worstOf 5 (some .int) ∈ TB := TB_of (tin_7 (TB_at 191 rfl)) rfl
set_option maxRecDepth 100000 in
theorem imX12_worstOf : Cond.instanceMethod yX12_worstOf ∈ TB := TB_of (tin_7 (TB_at 190 rfl)) rfl
set_option maxRecDepth 100000 in
theorem seX12_worstOf : Cond.selects RX12 yX12_worstOf yX12_worstOf ∈ TB := TB_of (tin_0 (TB_at 103 rfl)) rfl
theorem kX12_worstOf : MKv mX12_worstOf 1 := ⟨imX12_worstOf, seX12_worstOf, iniX12, cdX12_worstOf, ⟨by decide +kernel, by decide +kernel⟩, by decide +kernel, by decide⟩
abbrev mX12_worstBy : MT := (yX12_worstBy, cX12_worstBy, 6, (some .int))
set_option maxRecDepth 100000 in
theorem cdX12_worstBy : Cond.code yX12_worstBy cX12_worstBy 6 (some .int) ∈ TB := TB_of (tin_7 (TB_at 195 rfl)) rfl
set_option maxRecDepth 100000 in
theorem imX12_worstBy : Cond.instanceMethod yX12_worstBy ∈ TB := TB_of (tin_7 (TB_at 194 rfl)) rfl
set_option maxRecDepth 100000 in
theorem seX12_worstBy : Cond.selects RX12 yX12_worstBy yX12_worstBy ∈ TB := TB_of (tin_0 (TB_at 104 rfl)) rfl
theorem kX12_worstBy : MKv mX12_worstBy 2 := ⟨imX12_worstBy, seX12_worstBy, iniX12, cdX12_worstBy, ⟨by decide +kernel, by decide +kernel⟩, by decide +kernel, by decide⟩
abbrev mX12_trial : MT := (yX12_trial, cX12_trial, 6, (some .int))
set_option maxRecDepth 100000 in
theorem cdX12_trial : Cond.code yX12_trial cX12_trial 6 (some .int) ∈ TB := TB_of (tin_7 (TB_at 187 rfl)) rfl
set_option maxRecDepth 100000 in
theorem imX12_trial : Cond.instanceMethod yX12_trial ∈ TB := TB_of (tin_7 (TB_at 185 rfl)) rfl
set_option maxRecDepth 100000 in
theorem seX12_trial : Cond.selects RX12 yX12_trial yX12_trial ∈ TB := TB_of (tin_7 (TB_at 186 rfl)) rfl
theorem kX12_trial : MKv mX12_trial 2 := ⟨imX12_trial, seX12_trial, iniX12, cdX12_trial, ⟨by decide +kernel, by decide +kernel⟩, by decide +kernel, by decide⟩
abbrev mX12_brief : MT := (yX12_brief, cX12_brief, 4, (some .int))
set_option maxRecDepth 100000 in
theorem cdX12_brief : Cond.code yX12_brief cX12_brief 4 (some .int) ∈ TB := TB_of (tin_7 (TB_at 199 rfl)) rfl
set_option maxRecDepth 100000 in
theorem imX12_brief : Cond.instanceMethod yX12_brief ∈ TB := TB_of (tin_7 (TB_at 197 rfl)) rfl
set_option maxRecDepth 100000 in
theorem seX12_brief : Cond.selects RX12 yX12_brief yX12_brief ∈ TB := TB_of (tin_7 (TB_at 198 rfl)) rfl
theorem kX12_brief : MKv mX12_brief 1 := ⟨imX12_brief, seX12_brief, iniX12, cdX12_brief, ⟨by decide +kernel, by decide +kernel⟩, by decide +kernel, by decide⟩
abbrev mX12_isRight : MT := (yX12_isRight, cX12_isRight, 5, (some .boolean))
set_option maxRecDepth 100000 in
theorem cdX12_isRight : Cond.code yX12_isRight cX12_isRight 5 (some .boolean) ∈ TB := TB_of (tin_7 (TB_at 207 rfl)) rfl
set_option maxRecDepth 100000 in
theorem imX12_isRight : Cond.instanceMethod yX12_isRight ∈ TB := TB_of (tin_7 (TB_at 206 rfl)) rfl
set_option maxRecDepth 100000 in
theorem seX12_isRight : Cond.selects RX12 yX12_isRight yX12_isRight ∈ TB := TB_of (tin_0 (TB_at 105 rfl)) rfl
theorem kX12_isRight : MKv mX12_isRight 2 := ⟨imX12_isRight, seX12_isRight, iniX12, cdX12_isRight, ⟨by decide +kernel, by decide +kernel⟩, by decide +kernel, by decide⟩
abbrev mX12_right : MT := (yX12_right, cX12_right, 4, (some .int))
set_option maxRecDepth 100000 in
theorem cdX12_right : Cond.code yX12_right cX12_right 4 (some .int) ∈ TB := TB_of (tin_7 (TB_at 203 rfl)) rfl
set_option maxRecDepth 100000 in
theorem imX12_right : Cond.instanceMethod yX12_right ∈ TB := TB_of (tin_7 (TB_at 201 rfl)) rfl
set_option maxRecDepth 100000 in
theorem seX12_right : Cond.selects RX12 yX12_right yX12_right ∈ TB := TB_of (tin_7 (TB_at 202 rfl)) rfl
theorem kX12_right : MKv mX12_right 1 := ⟨imX12_right, seX12_right, iniX12, cdX12_right, ⟨by decide +kernel, by decide +kernel⟩, by decide +kernel, by decide⟩
abbrev mX12_justiceOf : MT := (yX12_justiceOf, cX12_justiceOf, 4, (some .int))
set_option maxRecDepth 100000 in
theorem cdX12_justiceOf : Cond.code yX12_justiceOf cX12_justiceOf 4 (some .int) ∈ TB := TB_of (tin_7 (TB_at 215 rfl)) rfl
set_option maxRecDepth 100000 in
theorem imX12_justiceOf : Cond.instanceMethod yX12_justiceOf ∈ TB := TB_of (tin_7 (TB_at 214 rfl)) rfl
set_option maxRecDepth 100000 in
theorem seX12_justiceOf : Cond.selects RX12 yX12_justiceOf yX12_justiceOf ∈ TB := TB_of (tin_0 (TB_at 106 rfl)) rfl
theorem kX12_justiceOf : MKv mX12_justiceOf 1 := ⟨imX12_justiceOf, seX12_justiceOf, iniX12, cdX12_justiceOf, ⟨by decide +kernel, by decide +kernel⟩, by decide +kernel, by decide⟩
abbrev mX12_justice : MT := (yX12_justice, cX12_justice, 2, (some .int))
set_option maxRecDepth 100000 in
theorem cdX12_justice : Cond.code yX12_justice cX12_justice 2 (some .int) ∈ TB := TB_of (tin_7 (TB_at 211 rfl)) rfl
set_option maxRecDepth 100000 in
theorem imX12_justice : Cond.instanceMethod yX12_justice ∈ TB := TB_of (tin_7 (TB_at 209 rfl)) rfl
set_option maxRecDepth 100000 in
theorem seX12_justice : Cond.selects RX12 yX12_justice yX12_justice ∈ TB := TB_of (tin_7 (TB_at 210 rfl)) rfl
theorem kX12_justice : MKv mX12_justice 1 := ⟨imX12_justice, seX12_justice, iniX12, cdX12_justice, ⟨by decide +kernel, by decide +kernel⟩, by decide +kernel, by decide⟩
abbrev mX12_bestLaw : MT := (yX12_bestLaw, cX12_bestLaw, 3, (some .int))
set_option maxRecDepth 100000 in
theorem cdX12_bestLaw : Cond.code yX12_bestLaw cX12_bestLaw 3 (some .int) ∈ TB := TB_of (tin_7 (TB_at 219 rfl)) rfl
set_option maxRecDepth 100000 in
theorem imX12_bestLaw : Cond.instanceMethod yX12_bestLaw ∈ TB := TB_of (tin_7 (TB_at 217 rfl)) rfl
set_option maxRecDepth 100000 in
theorem seX12_bestLaw : Cond.selects RX12 yX12_bestLaw yX12_bestLaw ∈ TB := TB_of (tin_7 (TB_at 218 rfl)) rfl
theorem kX12_bestLaw : MKv mX12_bestLaw 0 := ⟨imX12_bestLaw, seX12_bestLaw, iniX12, cdX12_bestLaw, ⟨by decide +kernel, by decide +kernel⟩, by decide +kernel, by decide⟩
abbrev mX12_newsOf : MT := (yX12_newsOf, cX12_newsOf, 6, (some .int))
set_option maxRecDepth 100000 in
theorem cdX12_newsOf : Cond.code yX12_newsOf cX12_newsOf 6 (some .int) ∈ TB := TB_of (tin_7 (TB_at 227 rfl)) rfl
set_option maxRecDepth 100000 in
theorem imX12_newsOf : Cond.instanceMethod yX12_newsOf ∈ TB := TB_of (tin_7 (TB_at 226 rfl)) rfl
set_option maxRecDepth 100000 in
theorem seX12_newsOf : Cond.selects RX12 yX12_newsOf yX12_newsOf ∈ TB := TB_of (tin_0 (TB_at 107 rfl)) rfl
theorem kX12_newsOf : MKv mX12_newsOf 2 := ⟨imX12_newsOf, seX12_newsOf, iniX12, cdX12_newsOf, ⟨by decide +kernel, by decide +kernel⟩, by decide +kernel, by decide⟩
abbrev mX12_news : MT := (yX12_news, cX12_news, 3, (some .int))
set_option maxRecDepth 100000 in
theorem cdX12_news : Cond.code yX12_news cX12_news 3 (some .int) ∈ TB := TB_of (tin_7 (TB_at 223 rfl)) rfl
set_option maxRecDepth 100000 in
theorem imX12_news : Cond.instanceMethod yX12_news ∈ TB := TB_of (tin_7 (TB_at 221 rfl)) rfl
set_option maxRecDepth 100000 in
theorem seX12_news : Cond.selects RX12 yX12_news yX12_news ∈ TB := TB_of (tin_7 (TB_at 222 rfl)) rfl
theorem kX12_news : MKv mX12_news 2 := ⟨imX12_news, seX12_news, iniX12, cdX12_news, ⟨by decide +kernel, by decide +kernel⟩, by decide +kernel, by decide⟩
abbrev mX12_latest : MT := (yX12_latest, cX12_latest, 6, (some .int))
set_option maxRecDepth 100000 in
theorem cdX12_latest : Cond.code yX12_latest cX12_latest 6 (some .int) ∈ TB := TB_of (tin_7 (TB_at 231 rfl)) rfl
set_option maxRecDepth 100000 in
theorem imX12_latest : Cond.instanceMethod yX12_latest ∈ TB := TB_of (tin_7 (TB_at 229 rfl)) rfl
set_option maxRecDepth 100000 in
theorem seX12_latest : Cond.selects RX12 yX12_latest yX12_latest ∈ TB := TB_of (tin_7 (TB_at 230 rfl)) rfl
theorem kX12_latest : MKv mX12_latest 1 := ⟨imX12_latest, seX12_latest, iniX12, cdX12_latest, ⟨by decide +kernel, by decide +kernel⟩, by decide +kernel, by decide⟩
abbrev mX12_leastIn : MT := (yX12_leastIn, cX12_leastIn, 4, (some .int))
set_option maxRecDepth 100000 in
theorem cdX12_leastIn : Cond.code yX12_leastIn cX12_leastIn 4 (some .int) ∈ TB := TB_of (tin_7 (TB_at 235 rfl)) rfl
set_option maxRecDepth 100000 in
theorem imX12_leastIn : Cond.instanceMethod yX12_leastIn ∈ TB := TB_of (tin_7 (TB_at 233 rfl)) rfl
set_option maxRecDepth 100000 in
theorem seX12_leastIn : Cond.selects RX12 yX12_leastIn yX12_leastIn ∈ TB := TB_of (tin_7 (TB_at 234 rfl)) rfl
theorem kX12_leastIn : MKv mX12_leastIn 2 := ⟨imX12_leastIn, seX12_leastIn, iniX12, cdX12_leastIn, ⟨by decide +kernel, by decide +kernel⟩, by decide +kernel, by decide⟩
abbrev mX12_calm : MT := (yX12_calm, cX12_calm, 2, (some .int))
set_option maxRecDepth 100000 in
theorem cdX12_calm : Cond.code yX12_calm cX12_calm 2 (some .int) ∈ TB := TB_of (tin_7 (TB_at 239 rfl)) rfl
set_option maxRecDepth 100000 in
theorem imX12_calm : Cond.instanceMethod yX12_calm ∈ TB := TB_of (tin_7 (TB_at 237 rfl)) rfl
set_option maxRecDepth 100000 in
theorem seX12_calm : Cond.selects RX12 yX12_calm yX12_calm ∈ TB := TB_of (tin_7 (TB_at 238 rfl)) rfl
theorem kX12_calm : MKv mX12_calm 0 := ⟨imX12_calm, seX12_calm, iniX12, cdX12_calm, ⟨by decide +kernel, by decide +kernel⟩, by decide +kernel, by decide⟩
abbrev mX12_noRow : MT := (yX12_noRow, cX12_noRow, 3, (some .int))
set_option maxRecDepth 100000 in
theorem cdX12_noRow : Cond.code yX12_noRow cX12_noRow 3 (some .int) ∈ TB := TB_of (tin_8 (TB_at 7 rfl)) rfl
set_option maxRecDepth 100000 in
theorem imX12_noRow : Cond.instanceMethod yX12_noRow ∈ TB := TB_of (tin_8 (TB_at 6 rfl)) rfl
set_option maxRecDepth 100000 in
theorem seX12_noRow : Cond.selects RX12 yX12_noRow yX12_noRow ∈ TB := TB_of (tin_0 (TB_at 108 rfl)) rfl
theorem kX12_noRow : MKv mX12_noRow 1 := ⟨imX12_noRow, seX12_noRow, iniX12, cdX12_noRow, ⟨by decide +kernel, by decide +kernel⟩, by decide +kernel, by decide⟩
abbrev mX12_isFit : MT := (yX12_isFit, cX12_isFit, 6, (some .boolean))
set_option maxRecDepth 100000 in
theorem cdX12_isFit : Cond.code yX12_isFit cX12_isFit 6 (some .boolean) ∈ TB := TB_of (tin_8 (TB_at 12 rfl)) rfl
set_option maxRecDepth 100000 in
theorem imX12_isFit : Cond.instanceMethod yX12_isFit ∈ TB := TB_of (tin_8 (TB_at 11 rfl)) rfl
set_option maxRecDepth 100000 in
theorem seX12_isFit : Cond.selects RX12 yX12_isFit yX12_isFit ∈ TB := TB_of (tin_0 (TB_at 109 rfl)) rfl
theorem kX12_isFit : MKv mX12_isFit 2 := ⟨imX12_isFit, seX12_isFit, iniX12, cdX12_isFit, ⟨by decide +kernel, by decide +kernel⟩, by decide +kernel, by decide⟩
abbrev mX12_fitting : MT := (yX12_fitting, cX12_fitting, 5, (some .int))
set_option maxRecDepth 100000 in
theorem cdX12_fitting : Cond.code yX12_fitting cX12_fitting 5 (some .int) ∈ TB := TB_of (tin_8 (TB_at 3 rfl)) rfl
set_option maxRecDepth 100000 in
theorem imX12_fitting : Cond.instanceMethod yX12_fitting ∈ TB := TB_of (tin_8 (TB_at 1 rfl)) rfl
set_option maxRecDepth 100000 in
theorem seX12_fitting : Cond.selects RX12 yX12_fitting yX12_fitting ∈ TB := TB_of (tin_8 (TB_at 2 rfl)) rfl
theorem kX12_fitting : MKv mX12_fitting 1 := ⟨imX12_fitting, seX12_fitting, iniX12, cdX12_fitting, ⟨by decide +kernel, by decide +kernel⟩, by decide +kernel, by decide⟩
abbrev mX12_sure : MT := (yX12_sure, cX12_sure, 5, (some .int))
set_option maxRecDepth 100000 in
theorem cdX12_sure : Cond.code yX12_sure cX12_sure 5 (some .int) ∈ TB := TB_of (tin_8 (TB_at 16 rfl)) rfl
set_option maxRecDepth 100000 in
theorem imX12_sure : Cond.instanceMethod yX12_sure ∈ TB := TB_of (tin_8 (TB_at 14 rfl)) rfl
set_option maxRecDepth 100000 in
theorem seX12_sure : Cond.selects RX12 yX12_sure yX12_sure ∈ TB := TB_of (tin_8 (TB_at 15 rfl)) rfl
theorem kX12_sure : MKv mX12_sure 1 := ⟨imX12_sure, seX12_sure, iniX12, cdX12_sure, ⟨by decide +kernel, by decide +kernel⟩, by decide +kernel, by decide⟩
abbrev mX12_rowsFrom : MT := (yX12_rowsFrom, cX12_rowsFrom, 6, (some .int))
set_option maxRecDepth 100000 in
theorem cdX12_rowsFrom : Cond.code yX12_rowsFrom cX12_rowsFrom 6 (some .int) ∈ TB := TB_of (tin_8 (TB_at 25 rfl)) rfl
set_option maxRecDepth 100000 in
theorem imX12_rowsFrom : Cond.instanceMethod yX12_rowsFrom ∈ TB := TB_of (tin_8 (TB_at 24 rfl)) rfl
set_option maxRecDepth 100000 in
theorem seX12_rowsFrom : Cond.selects RX12 yX12_rowsFrom yX12_rowsFrom ∈ TB := TB_of (tin_0 (TB_at 110 rfl)) rfl
theorem kX12_rowsFrom : MKv mX12_rowsFrom 2 := ⟨imX12_rowsFrom, seX12_rowsFrom, iniX12, cdX12_rowsFrom, ⟨by decide +kernel, by decide +kernel⟩, by decide +kernel, by decide⟩
abbrev mX12_questions : MT := (yX12_questions, cX12_questions, 3, (some .int))
set_option maxRecDepth 100000 in
theorem cdX12_questions : Cond.code yX12_questions cX12_questions 3 (some .int) ∈ TB := TB_of (tin_8 (TB_at 20 rfl)) rfl
set_option maxRecDepth 100000 in
theorem imX12_questions : Cond.instanceMethod yX12_questions ∈ TB := TB_of (tin_8 (TB_at 18 rfl)) rfl
set_option maxRecDepth 100000 in
theorem seX12_questions : Cond.selects RX12 yX12_questions yX12_questions ∈ TB := TB_of (tin_8 (TB_at 19 rfl)) rfl
theorem kX12_questions : MKv mX12_questions 2 := ⟨imX12_questions, seX12_questions, iniX12, cdX12_questions, ⟨by decide +kernel, by decide +kernel⟩, by decide +kernel, by decide⟩
abbrev mX12_cut : MT := (yX12_cut, cX12_cut, 3, (some .long))
set_option maxRecDepth 100000 in
theorem cdX12_cut : Cond.code yX12_cut cX12_cut 3 (some .long) ∈ TB := TB_of (tin_8 (TB_at 40 rfl)) rfl
set_option maxRecDepth 100000 in
theorem stX12_cut : Cond.static yX12_cut ∈ TB := TB_of (tin_8 (TB_at 39 rfl)) rfl
theorem kX12_cut : MKs mX12_cut 2 := ⟨stX12_cut, iniX12, cdX12_cut, ⟨by decide +kernel, by decide +kernel⟩, by decide +kernel, by decide⟩
abbrev mX12_numbers : MT := (yX12_numbers, cX12_numbers, 5, (some .int))
set_option maxRecDepth 100000 in
theorem cdX12_numbers : Cond.code yX12_numbers cX12_numbers 5 (some .int) ∈ TB := TB_of (tin_8 (TB_at 29 rfl)) rfl
set_option maxRecDepth 100000 in
theorem imX12_numbers : Cond.instanceMethod yX12_numbers ∈ TB := TB_of (tin_8 (TB_at 27 rfl)) rfl
set_option maxRecDepth 100000 in
theorem seX12_numbers : Cond.selects RX12 yX12_numbers yX12_numbers ∈ TB := TB_of (tin_8 (TB_at 28 rfl)) rfl
theorem kX12_numbers : MKv mX12_numbers 3 := ⟨imX12_numbers, seX12_numbers, iniX12, cdX12_numbers, ⟨by decide +kernel, by decide +kernel⟩, by decide +kernel, by decide⟩
abbrev mX12_write : MT := (yX12_write, cX12_write, 5, (some .long))
set_option maxRecDepth 100000 in
theorem cdX12_write : Cond.code yX12_write cX12_write 5 (some .long) ∈ TB := TB_of (tin_8 (TB_at 34 rfl)) rfl
set_option maxRecDepth 100000 in
theorem imX12_write : Cond.instanceMethod yX12_write ∈ TB := TB_of (tin_8 (TB_at 32 rfl)) rfl
set_option maxRecDepth 100000 in
theorem seX12_write : Cond.selects RX12 yX12_write yX12_write ∈ TB := TB_of (tin_8 (TB_at 33 rfl)) rfl
theorem kX12_write : MKv mX12_write 3 := ⟨imX12_write, seX12_write, iniX12, cdX12_write, ⟨by decide +kernel, by decide +kernel⟩, by decide +kernel, by decide⟩
abbrev mX12_copy : MT := (yX12_copy, cX12_copy, 4, (some .int))
set_option maxRecDepth 100000 in
theorem cdX12_copy : Cond.code yX12_copy cX12_copy 4 (some .int) ∈ TB := TB_of (tin_8 (TB_at 44 rfl)) rfl
set_option maxRecDepth 100000 in
theorem imX12_copy : Cond.instanceMethod yX12_copy ∈ TB := TB_of (tin_8 (TB_at 42 rfl)) rfl
set_option maxRecDepth 100000 in
theorem seX12_copy : Cond.selects RX12 yX12_copy yX12_copy ∈ TB := TB_of (tin_8 (TB_at 43 rfl)) rfl
theorem kX12_copy : MKv mX12_copy 1 := ⟨imX12_copy, seX12_copy, iniX12, cdX12_copy, ⟨by decide +kernel, by decide +kernel⟩, by decide +kernel, by decide⟩
abbrev mX12_image : MT := (yX12_image, cX12_image, 3, (some .int))
set_option maxRecDepth 100000 in
theorem cdX12_image : Cond.code yX12_image cX12_image 3 (some .int) ∈ TB := TB_of (tin_8 (TB_at 48 rfl)) rfl
set_option maxRecDepth 100000 in
theorem imX12_image : Cond.instanceMethod yX12_image ∈ TB := TB_of (tin_8 (TB_at 46 rfl)) rfl
set_option maxRecDepth 100000 in
theorem seX12_image : Cond.selects RX12 yX12_image yX12_image ∈ TB := TB_of (tin_8 (TB_at 47 rfl)) rfl
theorem kX12_image : MKv mX12_image 1 := ⟨imX12_image, seX12_image, iniX12, cdX12_image, ⟨by decide +kernel, by decide +kernel⟩, by decide +kernel, by decide⟩
abbrev mX12_restore : MT := (yX12_restore, cX12_restore, 3, (some .int))
set_option maxRecDepth 100000 in
theorem cdX12_restore : Cond.code yX12_restore cX12_restore 3 (some .int) ∈ TB := TB_of (tin_8 (TB_at 52 rfl)) rfl
set_option maxRecDepth 100000 in
theorem imX12_restore : Cond.instanceMethod yX12_restore ∈ TB := TB_of (tin_8 (TB_at 50 rfl)) rfl
set_option maxRecDepth 100000 in
theorem seX12_restore : Cond.selects RX12 yX12_restore yX12_restore ∈ TB := TB_of (tin_8 (TB_at 51 rfl)) rfl
theorem kX12_restore : MKv mX12_restore 1 := ⟨imX12_restore, seX12_restore, iniX12, cdX12_restore, ⟨by decide +kernel, by decide +kernel⟩, by decide +kernel, by decide⟩
abbrev mX12_roadMany : MT := (yX12_roadMany, cX12_roadMany, 3, (some .int))
set_option maxRecDepth 100000 in
theorem cdX12_roadMany : Cond.code yX12_roadMany cX12_roadMany 3 (some .int) ∈ TB := TB_of (tin_8 (TB_at 60 rfl)) rfl
set_option maxRecDepth 100000 in
theorem imX12_roadMany : Cond.instanceMethod yX12_roadMany ∈ TB := TB_of (tin_8 (TB_at 59 rfl)) rfl
set_option maxRecDepth 100000 in
theorem seX12_roadMany : Cond.selects RX12 yX12_roadMany yX12_roadMany ∈ TB := TB_of (tin_0 (TB_at 111 rfl)) rfl
theorem kX12_roadMany : MKv mX12_roadMany 0 := ⟨imX12_roadMany, seX12_roadMany, iniX12, cdX12_roadMany, ⟨by decide +kernel, by decide +kernel⟩, by decide +kernel, by decide⟩
abbrev mX12_count : MT := (yX12_count, cX12_count, 2, (some .int))
set_option maxRecDepth 100000 in
theorem cdX12_count : Cond.code yX12_count cX12_count 2 (some .int) ∈ TB := TB_of (tin_8 (TB_at 56 rfl)) rfl
set_option maxRecDepth 100000 in
theorem imX12_count : Cond.instanceMethod yX12_count ∈ TB := TB_of (tin_8 (TB_at 54 rfl)) rfl
set_option maxRecDepth 100000 in
theorem seX12_count : Cond.selects RX12 yX12_count yX12_count ∈ TB := TB_of (tin_8 (TB_at 55 rfl)) rfl
theorem kX12_count : MKv mX12_count 1 := ⟨imX12_count, seX12_count, iniX12, cdX12_count, ⟨by decide +kernel, by decide +kernel⟩, by decide +kernel, by decide⟩
abbrev mJ6_compare_7cf53 : MT := (yJ6_compare_7cf53, cJ6_compare_7cf53, 2, (some .int))
set_option maxRecDepth 100000 in
theorem cdJ6_compare_7cf53 : Cond.code yJ6_compare_7cf53 cJ6_compare_7cf53 2 (some .int) ∈ TB := TB_of (tin_4 (TB_at 176 rfl)) rfl
set_option maxRecDepth 100000 in
theorem stJ6_compare_7cf53 : Cond.static yJ6_compare_7cf53 ∈ TB := TB_of (tin_4 (TB_at 175 rfl)) rfl
theorem kJ6_compare_7cf53 : MKs mJ6_compare_7cf53 2 := ⟨stJ6_compare_7cf53, iniJ6, cdJ6_compare_7cf53, ⟨by decide +kernel, by decide +kernel⟩, by decide +kernel, by decide⟩
abbrev mJ6_bitCount_0f7a4 : MT := (yJ6_bitCount_0f7a4, cJ6_bitCount_0f7a4, 1, (some .int))
set_option maxRecDepth 100000 in
theorem cdJ6_bitCount_0f7a4 : Cond.code yJ6_bitCount_0f7a4 cJ6_bitCount_0f7a4 1 (some .int) ∈ TB := TB_of (tin_4 (TB_at 1 rfl)) rfl
set_option maxRecDepth 100000 in
theorem stJ6_bitCount_0f7a4 : Cond.static yJ6_bitCount_0f7a4 ∈ TB := TB_of (tin_4 (TB_at 0 rfl)) rfl
theorem kJ6_bitCount_0f7a4 : MKs mJ6_bitCount_0f7a4 1 := ⟨stJ6_bitCount_0f7a4, iniJ6, cdJ6_bitCount_0f7a4, ⟨by decide +kernel, by decide +kernel⟩, by decide +kernel, by decide⟩
abbrev mJ9_max_7cf53 : MT := (yJ9_max_7cf53, cJ9_max_7cf53, 2, (some .int))
set_option maxRecDepth 100000 in
theorem cdJ9_max_7cf53 : Cond.code yJ9_max_7cf53 cJ9_max_7cf53 2 (some .int) ∈ TB := TB_of (tin_3 (TB_at 27 rfl)) rfl
set_option maxRecDepth 100000 in
theorem stJ9_max_7cf53 : Cond.static yJ9_max_7cf53 ∈ TB := TB_of (tin_3 (TB_at 26 rfl)) rfl
theorem kJ9_max_7cf53 : MKs mJ9_max_7cf53 2 := ⟨stJ9_max_7cf53, iniJ9, cdJ9_max_7cf53, ⟨by decide +kernel, by decide +kernel⟩, by decide +kernel, by decide⟩
abbrev mJ9_max_f86c9 : MT := (yJ9_max_f86c9, cJ9_max_f86c9, 4, (some .long))
set_option maxRecDepth 100000 in
theorem cdJ9_max_f86c9 : Cond.code yJ9_max_f86c9 cJ9_max_f86c9 4 (some .long) ∈ TB := TB_of (tin_3 (TB_at 140 rfl)) rfl
set_option maxRecDepth 100000 in
theorem stJ9_max_f86c9 : Cond.static yJ9_max_f86c9 ∈ TB := TB_of (tin_3 (TB_at 139 rfl)) rfl
theorem kJ9_max_f86c9 : MKs mJ9_max_f86c9 2 := ⟨stJ9_max_f86c9, iniJ9, cdJ9_max_f86c9, ⟨by decide +kernel, by decide +kernel⟩, by decide +kernel, by decide⟩
abbrev mJ9_min_7cf53 : MT := (yJ9_min_7cf53, cJ9_min_7cf53, 2, (some .int))
set_option maxRecDepth 100000 in
theorem cdJ9_min_7cf53 : Cond.code yJ9_min_7cf53 cJ9_min_7cf53 2 (some .int) ∈ TB := TB_of (tin_4 (TB_at 84 rfl)) rfl
set_option maxRecDepth 100000 in
theorem stJ9_min_7cf53 : Cond.static yJ9_min_7cf53 ∈ TB := TB_of (tin_4 (TB_at 83 rfl)) rfl
theorem kJ9_min_7cf53 : MKs mJ9_min_7cf53 2 := ⟨stJ9_min_7cf53, iniJ9, cdJ9_min_7cf53, ⟨by decide +kernel, by decide +kernel⟩, by decide +kernel, by decide⟩
abbrev mJ9_min_f86c9 : MT := (yJ9_min_f86c9, cJ9_min_f86c9, 4, (some .long))
set_option maxRecDepth 100000 in
theorem cdJ9_min_f86c9 : Cond.code yJ9_min_f86c9 cJ9_min_f86c9 4 (some .long) ∈ TB := TB_of (tin_3 (TB_at 137 rfl)) rfl
set_option maxRecDepth 100000 in
theorem stJ9_min_f86c9 : Cond.static yJ9_min_f86c9 ∈ TB := TB_of (tin_3 (TB_at 136 rfl)) rfl
theorem kJ9_min_f86c9 : MKs mJ9_min_f86c9 2 := ⟨stJ9_min_f86c9, iniJ9, cdJ9_min_f86c9, ⟨by decide +kernel, by decide +kernel⟩, by decide +kernel, by decide⟩
abbrev mJ0_length_8abf5 : MT := (yJ0_length_8abf5, cJ0_length_8abf5, 1, (some .int))
set_option maxRecDepth 100000 in
theorem cdJ0_length_8abf5 : Cond.code yJ0_length_8abf5 cJ0_length_8abf5 1 (some .int) ∈ TB := TB_of (tin_2 (TB_at 209 rfl)) rfl
set_option maxRecDepth 100000 in
theorem imJ0_length_8abf5 : Cond.instanceMethod yJ0_length_8abf5 ∈ TB := TB_of (tin_2 (TB_at 207 rfl)) rfl
set_option maxRecDepth 100000 in
theorem seJ0_length_8abf5 : Cond.selects RJ0 yJ0_length_8abf5 yJ0_length_8abf5 ∈ TB := TB_of (tin_2 (TB_at 208 rfl)) rfl
theorem kJ0_length_8abf5 : MKv mJ0_length_8abf5 0 := ⟨imJ0_length_8abf5, seJ0_length_8abf5, iniJ0, cdJ0_length_8abf5, ⟨by decide +kernel, by decide +kernel⟩, by decide +kernel, by decide⟩
abbrev mJ0_charAt_5068e : MT := (yJ0_charAt_5068e, cJ0_charAt_5068e, 2, (some .char))
set_option maxRecDepth 100000 in
theorem cdJ0_charAt_5068e : Cond.code yJ0_charAt_5068e cJ0_charAt_5068e 2 (some .char) ∈ TB := TB_of (tin_2 (TB_at 219 rfl)) rfl
set_option maxRecDepth 100000 in
theorem imJ0_charAt_5068e : Cond.instanceMethod yJ0_charAt_5068e ∈ TB := TB_of (tin_2 (TB_at 217 rfl)) rfl
set_option maxRecDepth 100000 in
theorem seJ0_charAt_5068e : Cond.selects RJ0 yJ0_charAt_5068e yJ0_charAt_5068e ∈ TB := TB_of (tin_2 (TB_at 218 rfl)) rfl
theorem kJ0_charAt_5068e : MKv mJ0_charAt_5068e 1 := ⟨imJ0_charAt_5068e, seJ0_charAt_5068e, iniJ0, cdJ0_charAt_5068e, ⟨by decide +kernel, by decide +kernel⟩, by decide +kernel, by decide⟩
abbrev mJ0_coder_7d493 : MT := (yJ0_coder_7d493, cJ0_coder_7d493, 1, (some .byte))
set_option maxRecDepth 100000 in
theorem cdJ0_coder_7d493 : Cond.code yJ0_coder_7d493 cJ0_coder_7d493 1 (some .byte) ∈ TB := TB_of (tin_2 (TB_at 213 rfl)) rfl
set_option maxRecDepth 100000 in
theorem imJ0_coder_7d493 : Cond.instanceMethod yJ0_coder_7d493 ∈ TB := TB_of (tin_2 (TB_at 211 rfl)) rfl
set_option maxRecDepth 100000 in
theorem seJ0_coder_7d493 : Cond.selects RJ0 yJ0_coder_7d493 yJ0_coder_7d493 ∈ TB := TB_of (tin_2 (TB_at 212 rfl)) rfl
theorem kJ0_coder_7d493 : MKv mJ0_coder_7d493 0 := ⟨imJ0_coder_7d493, seJ0_coder_7d493, iniJ0, cdJ0_coder_7d493, ⟨by decide +kernel, by decide +kernel⟩, by decide +kernel, by decide⟩
abbrev mJ0_isLatin1_aae02 : MT := (yJ0_isLatin1_aae02, cJ0_isLatin1_aae02, 1, (some .boolean))
set_option maxRecDepth 100000 in
theorem cdJ0_isLatin1_aae02 : Cond.code yJ0_isLatin1_aae02 cJ0_isLatin1_aae02 1 (some .boolean) ∈ TB := TB_of (tin_2 (TB_at 223 rfl)) rfl
set_option maxRecDepth 100000 in
theorem imJ0_isLatin1_aae02 : Cond.instanceMethod yJ0_isLatin1_aae02 ∈ TB := TB_of (tin_2 (TB_at 221 rfl)) rfl
set_option maxRecDepth 100000 in
theorem seJ0_isLatin1_aae02 : Cond.selects RJ0 yJ0_isLatin1_aae02 yJ0_isLatin1_aae02 ∈ TB := TB_of (tin_2 (TB_at 222 rfl)) rfl
theorem kJ0_isLatin1_aae02 : MKv mJ0_isLatin1_aae02 0 := ⟨imJ0_isLatin1_aae02, seJ0_isLatin1_aae02, iniJ0, cdJ0_isLatin1_aae02, ⟨by decide +kernel, by decide +kernel⟩, by decide +kernel, by decide⟩
abbrev mJ0_checkIndex_df160 : MT := (yJ0_checkIndex_df160, cJ0_checkIndex_df160, 2, none)
set_option maxRecDepth 100000 in
theorem cdJ0_checkIndex_df160 : Cond.code yJ0_checkIndex_df160 cJ0_checkIndex_df160 2 none ∈ TB := TB_of (tin_2 (TB_at 229 rfl)) rfl
set_option maxRecDepth 100000 in
theorem stJ0_checkIndex_df160 : Cond.static yJ0_checkIndex_df160 ∈ TB := TB_of (tin_2 (TB_at 228 rfl)) rfl
theorem kJ0_checkIndex_df160 : MKs mJ0_checkIndex_df160 2 := ⟨stJ0_checkIndex_df160, iniJ0, cdJ0_checkIndex_df160, ⟨by decide +kernel, by decide +kernel⟩, by decide +kernel, by decide⟩
abbrev mJ1_charAt_3b067 : MT := (yJ1_charAt_3b067, cJ1_charAt_3b067, 2, (some .char))
set_option maxRecDepth 100000 in
theorem cdJ1_charAt_3b067 : Cond.code yJ1_charAt_3b067 cJ1_charAt_3b067 2 (some .char) ∈ TB := TB_of (tin_2 (TB_at 226 rfl)) rfl
set_option maxRecDepth 100000 in
theorem stJ1_charAt_3b067 : Cond.static yJ1_charAt_3b067 ∈ TB := TB_of (tin_2 (TB_at 225 rfl)) rfl
theorem kJ1_charAt_3b067 : MKs mJ1_charAt_3b067 2 := ⟨stJ1_charAt_3b067, iniJ1, cdJ1_charAt_3b067, ⟨by decide +kernel, by decide +kernel⟩, by decide +kernel, by decide⟩
abbrev mJ2_getChar_3b067 : MT := (yJ2_getChar_3b067, cJ2_getChar_3b067, 2, (some .char))
set_option maxRecDepth 100000 in
theorem cdJ2_getChar_3b067 : Cond.code yJ2_getChar_3b067 cJ2_getChar_3b067 2 (some .char) ∈ TB := TB_of (tin_3 (TB_at 7 rfl)) rfl
set_option maxRecDepth 100000 in
theorem stJ2_getChar_3b067 : Cond.static yJ2_getChar_3b067 ∈ TB := TB_of (tin_3 (TB_at 6 rfl)) rfl
theorem kJ2_getChar_3b067 : MKs mJ2_getChar_3b067 2 := ⟨stJ2_getChar_3b067, iniJ2, cdJ2_getChar_3b067, ⟨by decide +kernel, by decide +kernel⟩, by decide +kernel, by decide⟩
abbrev mJ2_length_9d52b : MT := (yJ2_length_9d52b, cJ2_length_9d52b, 1, (some .int))
set_option maxRecDepth 100000 in
theorem cdJ2_length_9d52b : Cond.code yJ2_length_9d52b cJ2_length_9d52b 1 (some .int) ∈ TB := TB_of (tin_3 (TB_at 3 rfl)) rfl
set_option maxRecDepth 100000 in
theorem stJ2_length_9d52b : Cond.static yJ2_length_9d52b ∈ TB := TB_of (tin_3 (TB_at 2 rfl)) rfl
theorem kJ2_length_9d52b : MKs mJ2_length_9d52b 1 := ⟨stJ2_length_9d52b, iniJ2, cdJ2_length_9d52b, ⟨by decide +kernel, by decide +kernel⟩, by decide +kernel, by decide⟩
abbrev mJ2_charAt_3b067 : MT := (yJ2_charAt_3b067, cJ2_charAt_3b067, 2, (some .char))
set_option maxRecDepth 100000 in
theorem cdJ2_charAt_3b067 : Cond.code yJ2_charAt_3b067 cJ2_charAt_3b067 2 (some .char) ∈ TB := TB_of (tin_2 (TB_at 237 rfl)) rfl
set_option maxRecDepth 100000 in
theorem stJ2_charAt_3b067 : Cond.static yJ2_charAt_3b067 ∈ TB := TB_of (tin_2 (TB_at 236 rfl)) rfl
theorem kJ2_charAt_3b067 : MKs mJ2_charAt_3b067 2 := ⟨stJ2_charAt_3b067, iniJ2, cdJ2_charAt_3b067, ⟨by decide +kernel, by decide +kernel⟩, by decide +kernel, by decide⟩
abbrev mJ2_checkIndex_2214a : MT := (yJ2_checkIndex_2214a, cJ2_checkIndex_2214a, 2, none)
set_option maxRecDepth 100000 in
theorem cdJ2_checkIndex_2214a : Cond.code yJ2_checkIndex_2214a cJ2_checkIndex_2214a 2 none ∈ TB := TB_of (tin_3 (TB_at 0 rfl)) rfl
set_option maxRecDepth 100000 in
theorem stJ2_checkIndex_2214a : Cond.static yJ2_checkIndex_2214a ∈ TB := TB_of (tin_2 (TB_at 239 rfl)) rfl
theorem kJ2_checkIndex_2214a : MKs mJ2_checkIndex_2214a 2 := ⟨stJ2_checkIndex_2214a, iniJ2, cdJ2_checkIndex_2214a, ⟨by decide +kernel, by decide +kernel⟩, by decide +kernel, by decide⟩
abbrev mJ7_fill_d0a16 : MT := (yJ7_fill_d0a16, cJ7_fill_d0a16, 5, none)
set_option maxRecDepth 100000 in
theorem cdJ7_fill_d0a16 : Cond.code yJ7_fill_d0a16 cJ7_fill_d0a16 5 none ∈ TB := TB_of (tin_5 (TB_at 122 rfl)) rfl
set_option maxRecDepth 100000 in
theorem stJ7_fill_d0a16 : Cond.static yJ7_fill_d0a16 ∈ TB := TB_of (tin_5 (TB_at 121 rfl)) rfl
theorem kJ7_fill_d0a16 : MKs mJ7_fill_d0a16 2 := ⟨stJ7_fill_d0a16, iniJ7, cdJ7_fill_d0a16, ⟨by decide +kernel, by decide +kernel⟩, by decide +kernel, by decide⟩
abbrev mJ7_fill_53178 : MT := (yJ7_fill_53178, cJ7_fill_53178, 4, none)
set_option maxRecDepth 100000 in
theorem cdJ7_fill_53178 : Cond.code yJ7_fill_53178 cJ7_fill_53178 4 none ∈ TB := TB_of (tin_2 (TB_at 173 rfl)) rfl
set_option maxRecDepth 100000 in
theorem stJ7_fill_53178 : Cond.static yJ7_fill_53178 ∈ TB := TB_of (tin_2 (TB_at 172 rfl)) rfl
theorem kJ7_fill_53178 : MKs mJ7_fill_53178 2 := ⟨stJ7_fill_53178, iniJ7, cdJ7_fill_53178, ⟨by decide +kernel, by decide +kernel⟩, by decide +kernel, by decide⟩
abbrev mJ3_checkIndex_8e157 : MT := (yJ3_checkIndex_8e157, cJ3_checkIndex_8e157, 3, (some .int))
set_option maxRecDepth 100000 in
theorem cdJ3_checkIndex_8e157 : Cond.code yJ3_checkIndex_8e157 cJ3_checkIndex_8e157 3 (some .int) ∈ TB := TB_of (tin_2 (TB_at 234 rfl)) rfl
set_option maxRecDepth 100000 in
theorem stJ3_checkIndex_8e157 : Cond.static yJ3_checkIndex_8e157 ∈ TB := TB_of (tin_2 (TB_at 233 rfl)) rfl
theorem kJ3_checkIndex_8e157 : MKs mJ3_checkIndex_8e157 3 := ⟨stJ3_checkIndex_8e157, iniJ3, cdJ3_checkIndex_8e157, ⟨by decide +kernel, by decide +kernel⟩, by decide +kernel, by decide⟩
set_option maxRecDepth 100000 in
theorem lL_9 : Cond.methodLink RL 9 yX11_init ∈ TB := TB_of (tin_1 (TB_at 24 rfl)) rfl
set_option maxRecDepth 100000 in
theorem lX11_15 : Cond.methodLink RX11 15 yX5_init ∈ TB := TB_of (tin_1 (TB_at 32 rfl)) rfl
set_option maxRecDepth 100000 in
theorem lX5_11 : Cond.methodLink RX5 11 yX9_init ∈ TB := TB_of (tin_1 (TB_at 38 rfl)) rfl
set_option maxRecDepth 100000 in
theorem flX9_9 : Cond.fieldLink RX9 9 "KnowsLeast$Tokens" "kinds" "[I" ∈ TB := TB_of (tin_1 (TB_at 42 rfl)) rfl
theorem fX9_9 : GF RX9 9 9 0 := ⟨RX9, TX9, 4, rfl, by decide, uX9, flX9_9⟩
set_option maxRecDepth 100000 in
theorem flX5_69 : Cond.fieldLink RX5 69 "KnowsLeast$Tokens" "kinds" "[I" ∈ TB := TB_of (tin_1 (TB_at 43 rfl)) rfl
theorem fX5_69 : GF RX5 69 9 0 := ⟨RX9, TX9, 4, rfl, by decide, uX9, flX5_69⟩
set_option maxRecDepth 100000 in
theorem flX9_15 : Cond.fieldLink RX9 15 "KnowsLeast$Tokens" "starts" "[I" ∈ TB := TB_of (tin_1 (TB_at 44 rfl)) rfl
theorem fX9_15 : GF RX9 15 9 1 := ⟨RX9, TX9, 4, rfl, by decide, uX9, flX9_15⟩
set_option maxRecDepth 100000 in
theorem flX5_76 : Cond.fieldLink RX5 76 "KnowsLeast$Tokens" "starts" "[I" ∈ TB := TB_of (tin_1 (TB_at 45 rfl)) rfl
theorem fX5_76 : GF RX5 76 9 1 := ⟨RX9, TX9, 4, rfl, by decide, uX9, flX5_76⟩
set_option maxRecDepth 100000 in
theorem flX9_18 : Cond.fieldLink RX9 18 "KnowsLeast$Tokens" "values" "[I" ∈ TB := TB_of (tin_1 (TB_at 46 rfl)) rfl
theorem fX9_18 : GF RX9 18 9 2 := ⟨RX9, TX9, 4, rfl, by decide, uX9, flX9_18⟩
set_option maxRecDepth 100000 in
theorem flX5_86 : Cond.fieldLink RX5 86 "KnowsLeast$Tokens" "values" "[I" ∈ TB := TB_of (tin_1 (TB_at 47 rfl)) rfl
theorem fX5_86 : GF RX5 86 9 2 := ⟨RX9, TX9, 4, rfl, by decide, uX9, flX5_86⟩
set_option maxRecDepth 100000 in
theorem flX9_21 : Cond.fieldLink RX9 21 "KnowsLeast$Tokens" "last" "I" ∈ TB := TB_of (tin_1 (TB_at 48 rfl)) rfl
theorem fX9_21 : GF RX9 21 9 3 := ⟨RX9, TX9, 4, rfl, by decide, uX9, flX9_21⟩
theorem wX9_21 : GFw RX9 21 9 3 := ⟨RX9, TX9, 4, tyX9, rfl, by decide, uX9, flX9_21, tyX9_ok, nmX9, rfl, Or.inl rfl⟩
set_option maxRecDepth 100000 in
theorem flX5_73 : Cond.fieldLink RX5 73 "KnowsLeast$Tokens" "last" "I" ∈ TB := TB_of (tin_1 (TB_at 49 rfl)) rfl
theorem fX5_73 : GF RX5 73 9 3 := ⟨RX9, TX9, 4, rfl, by decide, uX9, flX5_73⟩
theorem wX5_73 : GFw RX5 73 9 3 := ⟨RX9, TX9, 4, tyX9, rfl, by decide, uX9, flX5_73, tyX9_ok, nmX9, rfl, Or.inl rfl⟩
set_option maxRecDepth 100000 in
theorem lX5_20 : Cond.methodLink RX5 20 yX0_init ∈ TB := TB_of (tin_1 (TB_at 63 rfl)) rfl
set_option maxRecDepth 100000 in
theorem flX0_9 : Cond.fieldLink RX0 9 "KnowsLeast$Formulas" "codes" "[I" ∈ TB := TB_of (tin_1 (TB_at 67 rfl)) rfl
theorem fX0_9 : GF RX0 9 0 0 := ⟨RX0, TX0, 4, rfl, by decide, uX0, flX0_9⟩
set_option maxRecDepth 100000 in
theorem flX0_15 : Cond.fieldLink RX0 15 "KnowsLeast$Formulas" "ends" "[I" ∈ TB := TB_of (tin_1 (TB_at 68 rfl)) rfl
theorem fX0_15 : GF RX0 15 0 1 := ⟨RX0, TX0, 4, rfl, by decide, uX0, flX0_15⟩
set_option maxRecDepth 100000 in
theorem flX0_18 : Cond.fieldLink RX0 18 "KnowsLeast$Formulas" "stack" "[I" ∈ TB := TB_of (tin_1 (TB_at 69 rfl)) rfl
theorem fX0_18 : GF RX0 18 0 2 := ⟨RX0, TX0, 4, rfl, by decide, uX0, flX0_18⟩
set_option maxRecDepth 100000 in
theorem flX0_21 : Cond.fieldLink RX0 21 "KnowsLeast$Formulas" "length" "I" ∈ TB := TB_of (tin_1 (TB_at 70 rfl)) rfl
theorem fX0_21 : GF RX0 21 0 3 := ⟨RX0, TX0, 4, rfl, by decide, uX0, flX0_21⟩
theorem wX0_21 : GFw RX0 21 0 3 := ⟨RX0, TX0, 4, tyX0, rfl, by decide, uX0, flX0_21, tyX0_ok, nmX0, rfl, Or.inl rfl⟩
set_option maxRecDepth 100000 in
theorem lX5_27 : Cond.methodLink RX5 27 yX2_init ∈ TB := TB_of (tin_1 (TB_at 82 rfl)) rfl
set_option maxRecDepth 100000 in
theorem flX2_9 : Cond.fieldLink RX2 9 "KnowsLeast$Land" "numbers" "[I" ∈ TB := TB_of (tin_1 (TB_at 86 rfl)) rfl
theorem fX2_9 : GF RX2 9 2 0 := ⟨RX2, TX2, 10, rfl, by decide, uX2, flX2_9⟩
set_option maxRecDepth 100000 in
theorem flX11_116 : Cond.fieldLink RX11 116 "KnowsLeast$Land" "numbers" "[I" ∈ TB := TB_of (tin_1 (TB_at 87 rfl)) rfl
theorem fX11_116 : GF RX11 116 2 0 := ⟨RX2, TX2, 10, rfl, by decide, uX2, flX11_116⟩
set_option maxRecDepth 100000 in
theorem flX0_54 : Cond.fieldLink RX0 54 "KnowsLeast$Land" "numbers" "[I" ∈ TB := TB_of (tin_1 (TB_at 88 rfl)) rfl
theorem fX0_54 : GF RX0 54 2 0 := ⟨RX2, TX2, 10, rfl, by decide, uX2, flX0_54⟩
set_option maxRecDepth 100000 in
theorem flX5_120 : Cond.fieldLink RX5 120 "KnowsLeast$Land" "numbers" "[I" ∈ TB := TB_of (tin_1 (TB_at 89 rfl)) rfl
theorem fX5_120 : GF RX5 120 2 0 := ⟨RX2, TX2, 10, rfl, by decide, uX2, flX5_120⟩
set_option maxRecDepth 100000 in
theorem flX2_15 : Cond.fieldLink RX2 15 "KnowsLeast$Land" "weights" "[I" ∈ TB := TB_of (tin_1 (TB_at 90 rfl)) rfl
theorem fX2_15 : GF RX2 15 2 1 := ⟨RX2, TX2, 10, rfl, by decide, uX2, flX2_15⟩
set_option maxRecDepth 100000 in
theorem flX11_120 : Cond.fieldLink RX11 120 "KnowsLeast$Land" "weights" "[I" ∈ TB := TB_of (tin_1 (TB_at 91 rfl)) rfl
theorem fX11_120 : GF RX11 120 2 1 := ⟨RX2, TX2, 10, rfl, by decide, uX2, flX11_120⟩
set_option maxRecDepth 100000 in
theorem flX0_57 : Cond.fieldLink RX0 57 "KnowsLeast$Land" "weights" "[I" ∈ TB := TB_of (tin_1 (TB_at 92 rfl)) rfl
theorem fX0_57 : GF RX0 57 2 1 := ⟨RX2, TX2, 10, rfl, by decide, uX2, flX0_57⟩
set_option maxRecDepth 100000 in
theorem flX5_123 : Cond.fieldLink RX5 123 "KnowsLeast$Land" "weights" "[I" ∈ TB := TB_of (tin_1 (TB_at 93 rfl)) rfl
theorem fX5_123 : GF RX5 123 2 1 := ⟨RX2, TX2, 10, rfl, by decide, uX2, flX5_123⟩
set_option maxRecDepth 100000 in
theorem flX2_18 : Cond.fieldLink RX2 18 "KnowsLeast$Land" "holding" "[I" ∈ TB := TB_of (tin_1 (TB_at 94 rfl)) rfl
theorem fX2_18 : GF RX2 18 2 2 := ⟨RX2, TX2, 10, rfl, by decide, uX2, flX2_18⟩
set_option maxRecDepth 100000 in
theorem flX0_30 : Cond.fieldLink RX0 30 "KnowsLeast$Land" "holding" "[I" ∈ TB := TB_of (tin_1 (TB_at 95 rfl)) rfl
theorem fX0_30 : GF RX0 30 2 2 := ⟨RX2, TX2, 10, rfl, by decide, uX2, flX0_30⟩
set_option maxRecDepth 100000 in
theorem flX10_49 : Cond.fieldLink RX10 49 "KnowsLeast$Land" "holding" "[I" ∈ TB := TB_of (tin_1 (TB_at 96 rfl)) rfl
theorem fX10_49 : GF RX10 49 2 2 := ⟨RX2, TX2, 10, rfl, by decide, uX2, flX10_49⟩
set_option maxRecDepth 100000 in
theorem flX11_133 : Cond.fieldLink RX11 133 "KnowsLeast$Land" "holding" "[I" ∈ TB := TB_of (tin_1 (TB_at 97 rfl)) rfl
theorem fX11_133 : GF RX11 133 2 2 := ⟨RX2, TX2, 10, rfl, by decide, uX2, flX11_133⟩
set_option maxRecDepth 100000 in
theorem flX2_21 : Cond.fieldLink RX2 21 "KnowsLeast$Land" "hinted" "[I" ∈ TB := TB_of (tin_1 (TB_at 98 rfl)) rfl
theorem fX2_21 : GF RX2 21 2 3 := ⟨RX2, TX2, 10, rfl, by decide, uX2, flX2_21⟩
set_option maxRecDepth 100000 in
theorem flX8_44 : Cond.fieldLink RX8 44 "KnowsLeast$Land" "hinted" "[I" ∈ TB := TB_of (tin_1 (TB_at 99 rfl)) rfl
theorem fX8_44 : GF RX8 44 2 3 := ⟨RX2, TX2, 10, rfl, by decide, uX2, flX8_44⟩
set_option maxRecDepth 100000 in
theorem flX11_154 : Cond.fieldLink RX11 154 "KnowsLeast$Land" "hinted" "[I" ∈ TB := TB_of (tin_1 (TB_at 100 rfl)) rfl
theorem fX11_154 : GF RX11 154 2 3 := ⟨RX2, TX2, 10, rfl, by decide, uX2, flX11_154⟩
set_option maxRecDepth 100000 in
theorem flX5_147 : Cond.fieldLink RX5 147 "KnowsLeast$Land" "hinted" "[I" ∈ TB := TB_of (tin_1 (TB_at 101 rfl)) rfl
theorem fX5_147 : GF RX5 147 2 3 := ⟨RX2, TX2, 10, rfl, by decide, uX2, flX5_147⟩
set_option maxRecDepth 100000 in
theorem flX2_24 : Cond.fieldLink RX2 24 "KnowsLeast$Land" "roads" "[I" ∈ TB := TB_of (tin_1 (TB_at 102 rfl)) rfl
theorem fX2_24 : GF RX2 24 2 4 := ⟨RX2, TX2, 10, rfl, by decide, uX2, flX2_24⟩
set_option maxRecDepth 100000 in
theorem flX8_50 : Cond.fieldLink RX8 50 "KnowsLeast$Land" "roads" "[I" ∈ TB := TB_of (tin_1 (TB_at 103 rfl)) rfl
theorem fX8_50 : GF RX8 50 2 4 := ⟨RX2, TX2, 10, rfl, by decide, uX2, flX8_50⟩
set_option maxRecDepth 100000 in
theorem flX11_151 : Cond.fieldLink RX11 151 "KnowsLeast$Land" "roads" "[I" ∈ TB := TB_of (tin_1 (TB_at 104 rfl)) rfl
theorem fX11_151 : GF RX11 151 2 4 := ⟨RX2, TX2, 10, rfl, by decide, uX2, flX11_151⟩
set_option maxRecDepth 100000 in
theorem flX5_144 : Cond.fieldLink RX5 144 "KnowsLeast$Land" "roads" "[I" ∈ TB := TB_of (tin_1 (TB_at 105 rfl)) rfl
theorem fX5_144 : GF RX5 144 2 4 := ⟨RX2, TX2, 10, rfl, by decide, uX2, flX5_144⟩
set_option maxRecDepth 100000 in
theorem flX2_33 : Cond.fieldLink RX2 33 "KnowsLeast$Land" "guilty" "I" ∈ TB := TB_of (tin_1 (TB_at 106 rfl)) rfl
theorem fX2_33 : GF RX2 33 2 5 := ⟨RX2, TX2, 10, rfl, by decide, uX2, flX2_33⟩
theorem wX2_33 : GFw RX2 33 2 5 := ⟨RX2, TX2, 10, tyX2, rfl, by decide, uX2, flX2_33, tyX2_ok, nmX2, rfl, Or.inl rfl⟩
set_option maxRecDepth 100000 in
theorem flX11_123 : Cond.fieldLink RX11 123 "KnowsLeast$Land" "guilty" "I" ∈ TB := TB_of (tin_1 (TB_at 107 rfl)) rfl
theorem fX11_123 : GF RX11 123 2 5 := ⟨RX2, TX2, 10, rfl, by decide, uX2, flX11_123⟩
theorem wX11_123 : GFw RX11 123 2 5 := ⟨RX2, TX2, 10, tyX2, rfl, by decide, uX2, flX11_123, tyX2_ok, nmX2, rfl, Or.inl rfl⟩
set_option maxRecDepth 100000 in
theorem flX0_60 : Cond.fieldLink RX0 60 "KnowsLeast$Land" "guilty" "I" ∈ TB := TB_of (tin_1 (TB_at 108 rfl)) rfl
theorem fX0_60 : GF RX0 60 2 5 := ⟨RX2, TX2, 10, rfl, by decide, uX2, flX0_60⟩
theorem wX0_60 : GFw RX0 60 2 5 := ⟨RX2, TX2, 10, tyX2, rfl, by decide, uX2, flX0_60, tyX2_ok, nmX2, rfl, Or.inl rfl⟩
set_option maxRecDepth 100000 in
theorem flX5_126 : Cond.fieldLink RX5 126 "KnowsLeast$Land" "guilty" "I" ∈ TB := TB_of (tin_1 (TB_at 109 rfl)) rfl
theorem fX5_126 : GF RX5 126 2 5 := ⟨RX2, TX2, 10, rfl, by decide, uX2, flX5_126⟩
theorem wX5_126 : GFw RX5 126 2 5 := ⟨RX2, TX2, 10, tyX2, rfl, by decide, uX2, flX5_126, tyX2_ok, nmX2, rfl, Or.inl rfl⟩
set_option maxRecDepth 100000 in
theorem flX2_37 : Cond.fieldLink RX2 37 "KnowsLeast$Land" "worlds" "I" ∈ TB := TB_of (tin_1 (TB_at 110 rfl)) rfl
theorem fX2_37 : GF RX2 37 2 6 := ⟨RX2, TX2, 10, rfl, by decide, uX2, flX2_37⟩
theorem wX2_37 : GFw RX2 37 2 6 := ⟨RX2, TX2, 10, tyX2, rfl, by decide, uX2, flX2_37, tyX2_ok, nmX2, rfl, Or.inl rfl⟩
set_option maxRecDepth 100000 in
theorem flX7_67 : Cond.fieldLink RX7 67 "KnowsLeast$Land" "worlds" "I" ∈ TB := TB_of (tin_1 (TB_at 111 rfl)) rfl
theorem fX7_67 : GF RX7 67 2 6 := ⟨RX2, TX2, 10, rfl, by decide, uX2, flX7_67⟩
theorem wX7_67 : GFw RX7 67 2 6 := ⟨RX2, TX2, 10, tyX2, rfl, by decide, uX2, flX7_67, tyX2_ok, nmX2, rfl, Or.inl rfl⟩
set_option maxRecDepth 100000 in
theorem flX0_33 : Cond.fieldLink RX0 33 "KnowsLeast$Land" "worlds" "I" ∈ TB := TB_of (tin_1 (TB_at 112 rfl)) rfl
theorem fX0_33 : GF RX0 33 2 6 := ⟨RX2, TX2, 10, rfl, by decide, uX2, flX0_33⟩
theorem wX0_33 : GFw RX0 33 2 6 := ⟨RX2, TX2, 10, tyX2, rfl, by decide, uX2, flX0_33, tyX2_ok, nmX2, rfl, Or.inl rfl⟩
set_option maxRecDepth 100000 in
theorem flX5_104 : Cond.fieldLink RX5 104 "KnowsLeast$Land" "worlds" "I" ∈ TB := TB_of (tin_1 (TB_at 113 rfl)) rfl
theorem fX5_104 : GF RX5 104 2 6 := ⟨RX2, TX2, 10, rfl, by decide, uX2, flX5_104⟩
theorem wX5_104 : GFw RX5 104 2 6 := ⟨RX2, TX2, 10, tyX2, rfl, by decide, uX2, flX5_104, tyX2_ok, nmX2, rfl, Or.inl rfl⟩
set_option maxRecDepth 100000 in
theorem flX8_86 : Cond.fieldLink RX8 86 "KnowsLeast$Land" "worlds" "I" ∈ TB := TB_of (tin_1 (TB_at 114 rfl)) rfl
theorem fX8_86 : GF RX8 86 2 6 := ⟨RX2, TX2, 10, rfl, by decide, uX2, flX8_86⟩
theorem wX8_86 : GFw RX8 86 2 6 := ⟨RX2, TX2, 10, tyX2, rfl, by decide, uX2, flX8_86, tyX2_ok, nmX2, rfl, Or.inl rfl⟩
set_option maxRecDepth 100000 in
theorem flX11_165 : Cond.fieldLink RX11 165 "KnowsLeast$Land" "worlds" "I" ∈ TB := TB_of (tin_1 (TB_at 115 rfl)) rfl
theorem fX11_165 : GF RX11 165 2 6 := ⟨RX2, TX2, 10, rfl, by decide, uX2, flX11_165⟩
theorem wX11_165 : GFw RX11 165 2 6 := ⟨RX2, TX2, 10, tyX2, rfl, by decide, uX2, flX11_165, tyX2_ok, nmX2, rfl, Or.inl rfl⟩
set_option maxRecDepth 100000 in
theorem flX3_25 : Cond.fieldLink RX3 25 "KnowsLeast$Land" "facts" "I" ∈ TB := TB_of (tin_1 (TB_at 116 rfl)) rfl
theorem fX3_25 : GF RX3 25 2 7 := ⟨RX2, TX2, 10, rfl, by decide, uX2, flX3_25⟩
theorem wX3_25 : GFw RX3 25 2 7 := ⟨RX2, TX2, 10, tyX2, rfl, by decide, uX2, flX3_25, tyX2_ok, nmX2, rfl, Or.inl rfl⟩
set_option maxRecDepth 100000 in
theorem flX7_27 : Cond.fieldLink RX7 27 "KnowsLeast$Land" "facts" "I" ∈ TB := TB_of (tin_1 (TB_at 117 rfl)) rfl
theorem fX7_27 : GF RX7 27 2 7 := ⟨RX2, TX2, 10, rfl, by decide, uX2, flX7_27⟩
theorem wX7_27 : GFw RX7 27 2 7 := ⟨RX2, TX2, 10, tyX2, rfl, by decide, uX2, flX7_27, tyX2_ok, nmX2, rfl, Or.inl rfl⟩
set_option maxRecDepth 100000 in
theorem flX2_40 : Cond.fieldLink RX2 40 "KnowsLeast$Land" "facts" "I" ∈ TB := TB_of (tin_1 (TB_at 118 rfl)) rfl
theorem fX2_40 : GF RX2 40 2 7 := ⟨RX2, TX2, 10, rfl, by decide, uX2, flX2_40⟩
theorem wX2_40 : GFw RX2 40 2 7 := ⟨RX2, TX2, 10, tyX2, rfl, by decide, uX2, flX2_40, tyX2_ok, nmX2, rfl, Or.inl rfl⟩
set_option maxRecDepth 100000 in
theorem flX10_26 : Cond.fieldLink RX10 26 "KnowsLeast$Land" "facts" "I" ∈ TB := TB_of (tin_1 (TB_at 119 rfl)) rfl
theorem fX10_26 : GF RX10 26 2 7 := ⟨RX2, TX2, 10, rfl, by decide, uX2, flX10_26⟩
theorem wX10_26 : GFw RX10 26 2 7 := ⟨RX2, TX2, 10, tyX2, rfl, by decide, uX2, flX10_26, tyX2_ok, nmX2, rfl, Or.inl rfl⟩
set_option maxRecDepth 100000 in
theorem flX0_25 : Cond.fieldLink RX0 25 "KnowsLeast$Land" "facts" "I" ∈ TB := TB_of (tin_1 (TB_at 120 rfl)) rfl
theorem fX0_25 : GF RX0 25 2 7 := ⟨RX2, TX2, 10, rfl, by decide, uX2, flX0_25⟩
theorem wX0_25 : GFw RX0 25 2 7 := ⟨RX2, TX2, 10, tyX2, rfl, by decide, uX2, flX0_25, tyX2_ok, nmX2, rfl, Or.inl rfl⟩
set_option maxRecDepth 100000 in
theorem flX5_129 : Cond.fieldLink RX5 129 "KnowsLeast$Land" "facts" "I" ∈ TB := TB_of (tin_1 (TB_at 121 rfl)) rfl
theorem fX5_129 : GF RX5 129 2 7 := ⟨RX2, TX2, 10, rfl, by decide, uX2, flX5_129⟩
theorem wX5_129 : GFw RX5 129 2 7 := ⟨RX2, TX2, 10, tyX2, rfl, by decide, uX2, flX5_129, tyX2_ok, nmX2, rfl, Or.inl rfl⟩
set_option maxRecDepth 100000 in
theorem flX8_89 : Cond.fieldLink RX8 89 "KnowsLeast$Land" "facts" "I" ∈ TB := TB_of (tin_1 (TB_at 122 rfl)) rfl
theorem fX8_89 : GF RX8 89 2 7 := ⟨RX2, TX2, 10, rfl, by decide, uX2, flX8_89⟩
theorem wX8_89 : GFw RX8 89 2 7 := ⟨RX2, TX2, 10, tyX2, rfl, by decide, uX2, flX8_89, tyX2_ok, nmX2, rfl, Or.inl rfl⟩
set_option maxRecDepth 100000 in
theorem flX11_168 : Cond.fieldLink RX11 168 "KnowsLeast$Land" "facts" "I" ∈ TB := TB_of (tin_1 (TB_at 123 rfl)) rfl
theorem fX11_168 : GF RX11 168 2 7 := ⟨RX2, TX2, 10, rfl, by decide, uX2, flX11_168⟩
theorem wX11_168 : GFw RX11 168 2 7 := ⟨RX2, TX2, 10, tyX2, rfl, by decide, uX2, flX11_168, tyX2_ok, nmX2, rfl, Or.inl rfl⟩
set_option maxRecDepth 100000 in
theorem flX3_32 : Cond.fieldLink RX3 32 "KnowsLeast$Land" "people" "I" ∈ TB := TB_of (tin_1 (TB_at 124 rfl)) rfl
theorem fX3_32 : GF RX3 32 2 8 := ⟨RX2, TX2, 10, rfl, by decide, uX2, flX3_32⟩
theorem wX3_32 : GFw RX3 32 2 8 := ⟨RX2, TX2, 10, tyX2, rfl, by decide, uX2, flX3_32, tyX2_ok, nmX2, rfl, Or.inl rfl⟩
set_option maxRecDepth 100000 in
theorem flX2_43 : Cond.fieldLink RX2 43 "KnowsLeast$Land" "people" "I" ∈ TB := TB_of (tin_1 (TB_at 125 rfl)) rfl
theorem fX2_43 : GF RX2 43 2 8 := ⟨RX2, TX2, 10, rfl, by decide, uX2, flX2_43⟩
theorem wX2_43 : GFw RX2 43 2 8 := ⟨RX2, TX2, 10, tyX2, rfl, by decide, uX2, flX2_43, tyX2_ok, nmX2, rfl, Or.inl rfl⟩
set_option maxRecDepth 100000 in
theorem flX7_51 : Cond.fieldLink RX7 51 "KnowsLeast$Land" "people" "I" ∈ TB := TB_of (tin_1 (TB_at 126 rfl)) rfl
theorem fX7_51 : GF RX7 51 2 8 := ⟨RX2, TX2, 10, rfl, by decide, uX2, flX7_51⟩
theorem wX7_51 : GFw RX7 51 2 8 := ⟨RX2, TX2, 10, tyX2, rfl, by decide, uX2, flX7_51, tyX2_ok, nmX2, rfl, Or.inl rfl⟩
set_option maxRecDepth 100000 in
theorem flX8_47 : Cond.fieldLink RX8 47 "KnowsLeast$Land" "people" "I" ∈ TB := TB_of (tin_1 (TB_at 127 rfl)) rfl
theorem fX8_47 : GF RX8 47 2 8 := ⟨RX2, TX2, 10, rfl, by decide, uX2, flX8_47⟩
theorem wX8_47 : GFw RX8 47 2 8 := ⟨RX2, TX2, 10, tyX2, rfl, by decide, uX2, flX8_47, tyX2_ok, nmX2, rfl, Or.inl rfl⟩
set_option maxRecDepth 100000 in
theorem flX5_138 : Cond.fieldLink RX5 138 "KnowsLeast$Land" "people" "I" ∈ TB := TB_of (tin_1 (TB_at 128 rfl)) rfl
theorem fX5_138 : GF RX5 138 2 8 := ⟨RX2, TX2, 10, rfl, by decide, uX2, flX5_138⟩
theorem wX5_138 : GFw RX5 138 2 8 := ⟨RX2, TX2, 10, tyX2, rfl, by decide, uX2, flX5_138, tyX2_ok, nmX2, rfl, Or.inl rfl⟩
set_option maxRecDepth 100000 in
theorem flX11_171 : Cond.fieldLink RX11 171 "KnowsLeast$Land" "people" "I" ∈ TB := TB_of (tin_1 (TB_at 129 rfl)) rfl
theorem fX11_171 : GF RX11 171 2 8 := ⟨RX2, TX2, 10, rfl, by decide, uX2, flX11_171⟩
theorem wX11_171 : GFw RX11 171 2 8 := ⟨RX2, TX2, 10, tyX2, rfl, by decide, uX2, flX11_171, tyX2_ok, nmX2, rfl, Or.inl rfl⟩
set_option maxRecDepth 100000 in
theorem flX2_46 : Cond.fieldLink RX2 46 "KnowsLeast$Land" "lines" "I" ∈ TB := TB_of (tin_1 (TB_at 130 rfl)) rfl
theorem fX2_46 : GF RX2 46 2 9 := ⟨RX2, TX2, 10, rfl, by decide, uX2, flX2_46⟩
theorem wX2_46 : GFw RX2 46 2 9 := ⟨RX2, TX2, 10, tyX2, rfl, by decide, uX2, flX2_46, tyX2_ok, nmX2, rfl, Or.inl rfl⟩
set_option maxRecDepth 100000 in
theorem flX11_106 : Cond.fieldLink RX11 106 "KnowsLeast$Land" "lines" "I" ∈ TB := TB_of (tin_1 (TB_at 131 rfl)) rfl
theorem fX11_106 : GF RX11 106 2 9 := ⟨RX2, TX2, 10, rfl, by decide, uX2, flX11_106⟩
theorem wX11_106 : GFw RX11 106 2 9 := ⟨RX2, TX2, 10, tyX2, rfl, by decide, uX2, flX11_106, tyX2_ok, nmX2, rfl, Or.inl rfl⟩
set_option maxRecDepth 100000 in
theorem flX5_117 : Cond.fieldLink RX5 117 "KnowsLeast$Land" "lines" "I" ∈ TB := TB_of (tin_1 (TB_at 132 rfl)) rfl
theorem fX5_117 : GF RX5 117 2 9 := ⟨RX2, TX2, 10, rfl, by decide, uX2, flX5_117⟩
theorem wX5_117 : GFw RX5 117 2 9 := ⟨RX2, TX2, 10, tyX2, rfl, by decide, uX2, flX5_117, tyX2_ok, nmX2, rfl, Or.inl rfl⟩
set_option maxRecDepth 100000 in
theorem lX5_34 : Cond.methodLink RX5 34 yX8_init ∈ TB := TB_of (tin_1 (TB_at 156 rfl)) rfl
set_option maxRecDepth 100000 in
theorem flX8_9 : Cond.fieldLink RX8 9 "KnowsLeast$State" "told" "[I" ∈ TB := TB_of (tin_1 (TB_at 160 rfl)) rfl
theorem fX8_9 : GF RX8 9 8 0 := ⟨RX8, TX8, 4, rfl, by decide, uX8, flX8_9⟩
set_option maxRecDepth 100000 in
theorem flX3_50 : Cond.fieldLink RX3 50 "KnowsLeast$State" "told" "[I" ∈ TB := TB_of (tin_1 (TB_at 161 rfl)) rfl
theorem fX3_50 : GF RX3 50 8 0 := ⟨RX8, TX8, 4, rfl, by decide, uX8, flX3_50⟩
set_option maxRecDepth 100000 in
theorem flX7_54 : Cond.fieldLink RX7 54 "KnowsLeast$State" "told" "[I" ∈ TB := TB_of (tin_1 (TB_at 162 rfl)) rfl
theorem fX7_54 : GF RX7 54 8 0 := ⟨RX8, TX8, 4, rfl, by decide, uX8, flX7_54⟩
set_option maxRecDepth 100000 in
theorem flX4_25 : Cond.fieldLink RX4 25 "KnowsLeast$State" "told" "[I" ∈ TB := TB_of (tin_1 (TB_at 163 rfl)) rfl
theorem fX4_25 : GF RX4 25 8 0 := ⟨RX8, TX8, 4, rfl, by decide, uX8, flX4_25⟩
set_option maxRecDepth 100000 in
theorem flX11_142 : Cond.fieldLink RX11 142 "KnowsLeast$State" "told" "[I" ∈ TB := TB_of (tin_1 (TB_at 164 rfl)) rfl
theorem fX11_142 : GF RX11 142 8 0 := ⟨RX8, TX8, 4, rfl, by decide, uX8, flX11_142⟩
set_option maxRecDepth 100000 in
theorem flX5_141 : Cond.fieldLink RX5 141 "KnowsLeast$State" "told" "[I" ∈ TB := TB_of (tin_1 (TB_at 165 rfl)) rfl
theorem fX5_141 : GF RX5 141 8 0 := ⟨RX8, TX8, 4, rfl, by decide, uX8, flX5_141⟩
set_option maxRecDepth 100000 in
theorem flX8_15 : Cond.fieldLink RX8 15 "KnowsLeast$State" "morning" "[I" ∈ TB := TB_of (tin_1 (TB_at 166 rfl)) rfl
theorem fX8_15 : GF RX8 15 8 1 := ⟨RX8, TX8, 4, rfl, by decide, uX8, flX8_15⟩
set_option maxRecDepth 100000 in
theorem flX8_24 : Cond.fieldLink RX8 24 "KnowsLeast$State" "truth" "I" ∈ TB := TB_of (tin_1 (TB_at 167 rfl)) rfl
theorem fX8_24 : GF RX8 24 8 2 := ⟨RX8, TX8, 4, rfl, by decide, uX8, flX8_24⟩
theorem wX8_24 : GFw RX8 24 8 2 := ⟨RX8, TX8, 4, tyX8, rfl, by decide, uX8, flX8_24, tyX8_ok, nmX8, rfl, Or.inl rfl⟩
set_option maxRecDepth 100000 in
theorem flX7_33 : Cond.fieldLink RX7 33 "KnowsLeast$State" "truth" "I" ∈ TB := TB_of (tin_1 (TB_at 168 rfl)) rfl
theorem fX7_33 : GF RX7 33 8 2 := ⟨RX8, TX8, 4, rfl, by decide, uX8, flX7_33⟩
theorem wX7_33 : GFw RX7 33 8 2 := ⟨RX8, TX8, 4, tyX8, rfl, by decide, uX8, flX7_33, tyX8_ok, nmX8, rfl, Or.inl rfl⟩
set_option maxRecDepth 100000 in
theorem flX3_38 : Cond.fieldLink RX3 38 "KnowsLeast$State" "truth" "I" ∈ TB := TB_of (tin_1 (TB_at 169 rfl)) rfl
theorem fX3_38 : GF RX3 38 8 2 := ⟨RX8, TX8, 4, rfl, by decide, uX8, flX3_38⟩
theorem wX3_38 : GFw RX3 38 8 2 := ⟨RX8, TX8, 4, tyX8, rfl, by decide, uX8, flX3_38, tyX8_ok, nmX8, rfl, Or.inl rfl⟩
set_option maxRecDepth 100000 in
theorem flX4_30 : Cond.fieldLink RX4 30 "KnowsLeast$State" "truth" "I" ∈ TB := TB_of (tin_1 (TB_at 170 rfl)) rfl
theorem fX4_30 : GF RX4 30 8 2 := ⟨RX8, TX8, 4, rfl, by decide, uX8, flX4_30⟩
theorem wX4_30 : GFw RX4 30 8 2 := ⟨RX8, TX8, 4, tyX8, rfl, by decide, uX8, flX4_30, tyX8_ok, nmX8, rfl, Or.inl rfl⟩
set_option maxRecDepth 100000 in
theorem flX5_111 : Cond.fieldLink RX5 111 "KnowsLeast$State" "truth" "I" ∈ TB := TB_of (tin_1 (TB_at 171 rfl)) rfl
theorem fX5_111 : GF RX5 111 8 2 := ⟨RX8, TX8, 4, rfl, by decide, uX8, flX5_111⟩
theorem wX5_111 : GFw RX5 111 8 2 := ⟨RX8, TX8, 4, tyX8, rfl, by decide, uX8, flX5_111, tyX8_ok, nmX8, rfl, Or.inl rfl⟩
set_option maxRecDepth 100000 in
theorem flX11_174 : Cond.fieldLink RX11 174 "KnowsLeast$State" "truth" "I" ∈ TB := TB_of (tin_1 (TB_at 172 rfl)) rfl
theorem fX11_174 : GF RX11 174 8 2 := ⟨RX8, TX8, 4, rfl, by decide, uX8, flX11_174⟩
theorem wX11_174 : GFw RX11 174 8 2 := ⟨RX8, TX8, 4, tyX8, rfl, by decide, uX8, flX11_174, tyX8_ok, nmX8, rfl, Or.inl rfl⟩
set_option maxRecDepth 100000 in
theorem flX8_79 : Cond.fieldLink RX8 79 "KnowsLeast$State" "drawn" "I" ∈ TB := TB_of (tin_1 (TB_at 173 rfl)) rfl
theorem fX8_79 : GF RX8 79 8 3 := ⟨RX8, TX8, 4, rfl, by decide, uX8, flX8_79⟩
theorem wX8_79 : GFw RX8 79 8 3 := ⟨RX8, TX8, 4, tyX8, rfl, by decide, uX8, flX8_79, tyX8_ok, nmX8, rfl, Or.inl rfl⟩
set_option maxRecDepth 100000 in
theorem flX5_12 : Cond.fieldLink RX5 12 "KnowsLeast$Reader" "tokens" "LKnowsLeast$Tokens;" ∈ TB := TB_of (tin_1 (TB_at 183 rfl)) rfl
theorem fX5_12 : GF RX5 12 5 0 := ⟨RX5, TX5, 7, rfl, by decide, uX5, flX5_12⟩
set_option maxRecDepth 100000 in
theorem flX5_21 : Cond.fieldLink RX5 21 "KnowsLeast$Reader" "formulas" "LKnowsLeast$Formulas;" ∈ TB := TB_of (tin_1 (TB_at 184 rfl)) rfl
theorem fX5_21 : GF RX5 21 5 1 := ⟨RX5, TX5, 7, rfl, by decide, uX5, flX5_21⟩
set_option maxRecDepth 100000 in
theorem flX5_28 : Cond.fieldLink RX5 28 "KnowsLeast$Reader" "land" "LKnowsLeast$Land;" ∈ TB := TB_of (tin_1 (TB_at 185 rfl)) rfl
theorem fX5_28 : GF RX5 28 5 2 := ⟨RX5, TX5, 7, rfl, by decide, uX5, flX5_28⟩
set_option maxRecDepth 100000 in
theorem flX11_94 : Cond.fieldLink RX11 94 "KnowsLeast$Reader" "land" "LKnowsLeast$Land;" ∈ TB := TB_of (tin_1 (TB_at 186 rfl)) rfl
theorem fX11_94 : GF RX11 94 5 2 := ⟨RX5, TX5, 7, rfl, by decide, uX5, flX11_94⟩
set_option maxRecDepth 100000 in
theorem flX5_35 : Cond.fieldLink RX5 35 "KnowsLeast$Reader" "state" "LKnowsLeast$State;" ∈ TB := TB_of (tin_1 (TB_at 187 rfl)) rfl
theorem fX5_35 : GF RX5 35 5 3 := ⟨RX5, TX5, 7, rfl, by decide, uX5, flX5_35⟩
set_option maxRecDepth 100000 in
theorem flX11_99 : Cond.fieldLink RX11 99 "KnowsLeast$Reader" "state" "LKnowsLeast$State;" ∈ TB := TB_of (tin_1 (TB_at 188 rfl)) rfl
theorem fX11_99 : GF RX11 99 5 3 := ⟨RX5, TX5, 7, rfl, by decide, uX5, flX11_99⟩
set_option maxRecDepth 100000 in
theorem flX5_52 : Cond.fieldLink RX5 52 "KnowsLeast$Reader" "fault" "I" ∈ TB := TB_of (tin_1 (TB_at 189 rfl)) rfl
theorem fX5_52 : GF RX5 52 5 4 := ⟨RX5, TX5, 7, rfl, by decide, uX5, flX5_52⟩
theorem wX5_52 : GFw RX5 52 5 4 := ⟨RX5, TX5, 7, tyX5, rfl, by decide, uX5, flX5_52, tyX5_ok, nmX5, rfl, Or.inl rfl⟩
set_option maxRecDepth 100000 in
theorem flX11_91 : Cond.fieldLink RX11 91 "KnowsLeast$Reader" "fault" "I" ∈ TB := TB_of (tin_1 (TB_at 190 rfl)) rfl
theorem fX11_91 : GF RX11 91 5 4 := ⟨RX5, TX5, 7, rfl, by decide, uX5, flX11_91⟩
theorem wX11_91 : GFw RX11 91 5 4 := ⟨RX5, TX5, 7, tyX5, rfl, by decide, uX5, flX11_91, tyX5_ok, nmX5, rfl, Or.inl rfl⟩
set_option maxRecDepth 100000 in
theorem flX5_39 : Cond.fieldLink RX5 39 "KnowsLeast$Reader" "place" "I" ∈ TB := TB_of (tin_1 (TB_at 191 rfl)) rfl
theorem fX5_39 : GF RX5 39 5 5 := ⟨RX5, TX5, 7, rfl, by decide, uX5, flX5_39⟩
theorem wX5_39 : GFw RX5 39 5 5 := ⟨RX5, TX5, 7, tyX5, rfl, by decide, uX5, flX5_39, tyX5_ok, nmX5, rfl, Or.inl rfl⟩
set_option maxRecDepth 100000 in
theorem flX11_109 : Cond.fieldLink RX11 109 "KnowsLeast$Reader" "place" "I" ∈ TB := TB_of (tin_1 (TB_at 192 rfl)) rfl
theorem fX11_109 : GF RX11 109 5 5 := ⟨RX5, TX5, 7, rfl, by decide, uX5, flX11_109⟩
theorem wX11_109 : GFw RX11 109 5 5 := ⟨RX5, TX5, 7, tyX5, rfl, by decide, uX5, flX11_109, tyX5_ok, nmX5, rfl, Or.inl rfl⟩
set_option maxRecDepth 100000 in
theorem flX5_55 : Cond.fieldLink RX5 55 "KnowsLeast$Reader" "at" "I" ∈ TB := TB_of (tin_1 (TB_at 193 rfl)) rfl
theorem fX5_55 : GF RX5 55 5 6 := ⟨RX5, TX5, 7, rfl, by decide, uX5, flX5_55⟩
theorem wX5_55 : GFw RX5 55 5 6 := ⟨RX5, TX5, 7, tyX5, rfl, by decide, uX5, flX5_55, tyX5_ok, nmX5, rfl, Or.inl rfl⟩
set_option maxRecDepth 100000 in
theorem lX11_22 : Cond.methodLink RX11 22 yX2_init ∈ TB := TB_of (tin_1 (TB_at 210 rfl)) rfl
set_option maxRecDepth 100000 in
theorem lX11_29 : Cond.methodLink RX11 29 yX8_init ∈ TB := TB_of (tin_1 (TB_at 212 rfl)) rfl
set_option maxRecDepth 100000 in
theorem lX11_39 : Cond.methodLink RX11 39 yX4_init ∈ TB := TB_of (tin_1 (TB_at 215 rfl)) rfl
set_option maxRecDepth 100000 in
theorem flX4_11 : Cond.fieldLink RX4 11 "KnowsLeast$Past" "kept" "[I" ∈ TB := TB_of (tin_1 (TB_at 219 rfl)) rfl
theorem fX4_11 : GF RX4 11 4 0 := ⟨RX4, TX4, 2, rfl, by decide, uX4, flX4_11⟩
set_option maxRecDepth 100000 in
theorem flX4_15 : Cond.fieldLink RX4 15 "KnowsLeast$Past" "size" "I" ∈ TB := TB_of (tin_1 (TB_at 220 rfl)) rfl
theorem fX4_15 : GF RX4 15 4 1 := ⟨RX4, TX4, 2, rfl, by decide, uX4, flX4_15⟩
theorem wX4_15 : GFw RX4 15 4 1 := ⟨RX4, TX4, 2, tyX4, rfl, by decide, uX4, flX4_15, tyX4_ok, nmX4, rfl, Or.inl rfl⟩
set_option maxRecDepth 100000 in
theorem flX11_193 : Cond.fieldLink RX11 193 "KnowsLeast$Past" "size" "I" ∈ TB := TB_of (tin_1 (TB_at 221 rfl)) rfl
theorem fX11_193 : GF RX11 193 4 1 := ⟨RX4, TX4, 2, rfl, by decide, uX4, flX11_193⟩
theorem wX11_193 : GFw RX11 193 4 1 := ⟨RX4, TX4, 2, tyX4, rfl, by decide, uX4, flX11_193, tyX4_ok, nmX4, rfl, Or.inl rfl⟩
set_option maxRecDepth 100000 in
theorem lX11_46 : Cond.methodLink RX11 46 yX7_init ∈ TB := TB_of (tin_1 (TB_at 229 rfl)) rfl
set_option maxRecDepth 100000 in
theorem flX7_9 : Cond.fieldLink RX7 9 "KnowsLeast$Showing" "holds" "[I" ∈ TB := TB_of (tin_1 (TB_at 233 rfl)) rfl
theorem fX7_9 : GF RX7 9 7 0 := ⟨RX7, TX7, 6, rfl, by decide, uX7, flX7_9⟩
set_option maxRecDepth 100000 in
theorem flX7_15 : Cond.fieldLink RX7 15 "KnowsLeast$Showing" "known" "[I" ∈ TB := TB_of (tin_1 (TB_at 234 rfl)) rfl
theorem fX7_15 : GF RX7 15 7 1 := ⟨RX7, TX7, 6, rfl, by decide, uX7, flX7_15⟩
set_option maxRecDepth 100000 in
theorem flX7_18 : Cond.fieldLink RX7 18 "KnowsLeast$Showing" "extreme" "[I" ∈ TB := TB_of (tin_1 (TB_at 235 rfl)) rfl
theorem fX7_18 : GF RX7 18 7 2 := ⟨RX7, TX7, 6, rfl, by decide, uX7, flX7_18⟩
set_option maxRecDepth 100000 in
theorem flX7_21 : Cond.fieldLink RX7 21 "KnowsLeast$Showing" "best" "[I" ∈ TB := TB_of (tin_1 (TB_at 236 rfl)) rfl
theorem fX7_21 : GF RX7 21 7 3 := ⟨RX7, TX7, 6, rfl, by decide, uX7, flX7_21⟩
set_option maxRecDepth 100000 in
theorem flX7_24 : Cond.fieldLink RX7 24 "KnowsLeast$Showing" "asked" "[I" ∈ TB := TB_of (tin_1 (TB_at 237 rfl)) rfl
theorem fX7_24 : GF RX7 24 7 4 := ⟨RX7, TX7, 6, rfl, by decide, uX7, flX7_24⟩
set_option maxRecDepth 100000 in
theorem flX11_258 : Cond.fieldLink RX11 258 "KnowsLeast$Showing" "asked" "[I" ∈ TB := TB_of (tin_1 (TB_at 238 rfl)) rfl
theorem fX11_258 : GF RX11 258 7 4 := ⟨RX7, TX7, 6, rfl, by decide, uX7, flX11_258⟩
set_option maxRecDepth 100000 in
theorem flX7_64 : Cond.fieldLink RX7 64 "KnowsLeast$Showing" "total" "I" ∈ TB := TB_of (tin_1 (TB_at 239 rfl)) rfl
theorem fX7_64 : GF RX7 64 7 5 := ⟨RX7, TX7, 6, rfl, by decide, uX7, flX7_64⟩
theorem wX7_64 : GFw RX7 64 7 5 := ⟨RX7, TX7, 6, tyX7, rfl, by decide, uX7, flX7_64, tyX7_ok, nmX7, rfl, Or.inl rfl⟩
set_option maxRecDepth 100000 in
theorem flX11_255 : Cond.fieldLink RX11 255 "KnowsLeast$Showing" "total" "I" ∈ TB := TB_of (tin_2 (TB_at 0 rfl)) rfl
theorem fX11_255 : GF RX11 255 7 5 := ⟨RX7, TX7, 6, rfl, by decide, uX7, flX11_255⟩
theorem wX11_255 : GFw RX11 255 7 5 := ⟨RX7, TX7, 6, tyX7, rfl, by decide, uX7, flX11_255, tyX7_ok, nmX7, rfl, Or.inl rfl⟩
set_option maxRecDepth 100000 in
theorem lX11_53 : Cond.methodLink RX11 53 yX3_init ∈ TB := TB_of (tin_2 (TB_at 16 rfl)) rfl
set_option maxRecDepth 100000 in
theorem flX3_9 : Cond.fieldLink RX3 9 "KnowsLeast$Parties" "amounts" "[I" ∈ TB := TB_of (tin_2 (TB_at 20 rfl)) rfl
theorem fX3_9 : GF RX3 9 3 0 := ⟨RX3, TX3, 9, rfl, by decide, uX3, flX3_9⟩
set_option maxRecDepth 100000 in
theorem flX3_15 : Cond.fieldLink RX3 15 "KnowsLeast$Parties" "judges" "[I" ∈ TB := TB_of (tin_2 (TB_at 21 rfl)) rfl
theorem fX3_15 : GF RX3 15 3 1 := ⟨RX3, TX3, 9, rfl, by decide, uX3, flX3_15⟩
set_option maxRecDepth 100000 in
theorem flX3_18 : Cond.fieldLink RX3 18 "KnowsLeast$Parties" "told" "[I" ∈ TB := TB_of (tin_2 (TB_at 22 rfl)) rfl
theorem fX3_18 : GF RX3 18 3 2 := ⟨RX3, TX3, 9, rfl, by decide, uX3, flX3_18⟩
set_option maxRecDepth 100000 in
theorem flX3_21 : Cond.fieldLink RX3 21 "KnowsLeast$Parties" "canFirst" "[Z" ∈ TB := TB_of (tin_2 (TB_at 23 rfl)) rfl
theorem fX3_21 : GF RX3 21 3 3 := ⟨RX3, TX3, 9, rfl, by decide, uX3, flX3_21⟩
set_option maxRecDepth 100000 in
theorem flX3_35 : Cond.fieldLink RX3 35 "KnowsLeast$Parties" "choices" "I" ∈ TB := TB_of (tin_2 (TB_at 24 rfl)) rfl
theorem fX3_35 : GF RX3 35 3 4 := ⟨RX3, TX3, 9, rfl, by decide, uX3, flX3_35⟩
theorem wX3_35 : GFw RX3 35 3 4 := ⟨RX3, TX3, 9, tyX3, rfl, by decide, uX3, flX3_35, tyX3_ok, nmX3, rfl, Or.inl rfl⟩
set_option maxRecDepth 100000 in
theorem flX3_31 : Cond.fieldLink RX3 31 "KnowsLeast$Parties" "facts" "I" ∈ TB := TB_of (tin_2 (TB_at 25 rfl)) rfl
theorem fX3_31 : GF RX3 31 3 5 := ⟨RX3, TX3, 9, rfl, by decide, uX3, flX3_31⟩
theorem wX3_31 : GFw RX3 31 3 5 := ⟨RX3, TX3, 9, tyX3, rfl, by decide, uX3, flX3_31, tyX3_ok, nmX3, rfl, Or.inl rfl⟩
set_option maxRecDepth 100000 in
theorem flX3_72 : Cond.fieldLink RX3 72 "KnowsLeast$Parties" "first" "I" ∈ TB := TB_of (tin_2 (TB_at 26 rfl)) rfl
theorem fX3_72 : GF RX3 72 3 6 := ⟨RX3, TX3, 9, rfl, by decide, uX3, flX3_72⟩
theorem wX3_72 : GFw RX3 72 3 6 := ⟨RX3, TX3, 9, tyX3, rfl, by decide, uX3, flX3_72, tyX3_ok, nmX3, rfl, Or.inl rfl⟩
set_option maxRecDepth 100000 in
theorem flX11_273 : Cond.fieldLink RX11 273 "KnowsLeast$Parties" "first" "I" ∈ TB := TB_of (tin_2 (TB_at 27 rfl)) rfl
theorem fX11_273 : GF RX11 273 3 6 := ⟨RX3, TX3, 9, rfl, by decide, uX3, flX11_273⟩
theorem wX11_273 : GFw RX11 273 3 6 := ⟨RX3, TX3, 9, tyX3, rfl, by decide, uX3, flX11_273, tyX3_ok, nmX3, rfl, Or.inl rfl⟩
set_option maxRecDepth 100000 in
theorem flX3_75 : Cond.fieldLink RX3 75 "KnowsLeast$Parties" "second" "I" ∈ TB := TB_of (tin_2 (TB_at 28 rfl)) rfl
theorem fX3_75 : GF RX3 75 3 7 := ⟨RX3, TX3, 9, rfl, by decide, uX3, flX3_75⟩
theorem wX3_75 : GFw RX3 75 3 7 := ⟨RX3, TX3, 9, tyX3, rfl, by decide, uX3, flX3_75, tyX3_ok, nmX3, rfl, Or.inl rfl⟩
set_option maxRecDepth 100000 in
theorem flX11_276 : Cond.fieldLink RX11 276 "KnowsLeast$Parties" "second" "I" ∈ TB := TB_of (tin_2 (TB_at 29 rfl)) rfl
theorem fX11_276 : GF RX11 276 3 7 := ⟨RX3, TX3, 9, rfl, by decide, uX3, flX11_276⟩
theorem wX11_276 : GFw RX11 276 3 7 := ⟨RX3, TX3, 9, tyX3, rfl, by decide, uX3, flX11_276, tyX3_ok, nmX3, rfl, Or.inl rfl⟩
set_option maxRecDepth 100000 in
theorem flX3_78 : Cond.fieldLink RX3 78 "KnowsLeast$Parties" "judge" "I" ∈ TB := TB_of (tin_2 (TB_at 30 rfl)) rfl
theorem fX3_78 : GF RX3 78 3 8 := ⟨RX3, TX3, 9, rfl, by decide, uX3, flX3_78⟩
theorem wX3_78 : GFw RX3 78 3 8 := ⟨RX3, TX3, 9, tyX3, rfl, by decide, uX3, flX3_78, tyX3_ok, nmX3, rfl, Or.inl rfl⟩
set_option maxRecDepth 100000 in
theorem flX11_270 : Cond.fieldLink RX11 270 "KnowsLeast$Parties" "judge" "I" ∈ TB := TB_of (tin_2 (TB_at 31 rfl)) rfl
theorem fX11_270 : GF RX11 270 3 8 := ⟨RX3, TX3, 9, rfl, by decide, uX3, flX11_270⟩
theorem wX11_270 : GFw RX11 270 3 8 := ⟨RX3, TX3, 9, tyX3, rfl, by decide, uX3, flX11_270, tyX3_ok, nmX3, rfl, Or.inl rfl⟩
set_option maxRecDepth 100000 in
theorem lX11_60 : Cond.methodLink RX11 60 yX10_init ∈ TB := TB_of (tin_2 (TB_at 54 rfl)) rfl
set_option maxRecDepth 100000 in
theorem flX10_9 : Cond.fieldLink RX10 9 "KnowsLeast$Trial" "THREES" "[I" ∈ TB := TB_of (tin_2 (TB_at 58 rfl)) rfl
set_option maxRecDepth 100000 in
theorem flX10_15 : Cond.fieldLink RX10 15 "KnowsLeast$Trial" "found" "[I" ∈ TB := TB_of (tin_2 (TB_at 60 rfl)) rfl
theorem fX10_15 : GF RX10 15 10 0 := ⟨RX10, TX10, 2, rfl, by decide, uX10, flX10_15⟩
set_option maxRecDepth 100000 in
theorem flX10_18 : Cond.fieldLink RX10 18 "KnowsLeast$Trial" "trials" "I" ∈ TB := TB_of (tin_2 (TB_at 61 rfl)) rfl
theorem fX10_18 : GF RX10 18 10 1 := ⟨RX10, TX10, 2, rfl, by decide, uX10, flX10_18⟩
theorem wX10_18 : GFw RX10 18 10 1 := ⟨RX10, TX10, 2, tyX10, rfl, by decide, uX10, flX10_18, tyX10_ok, nmX10, rfl, Or.inl rfl⟩
set_option maxRecDepth 100000 in
theorem lX11_77 : Cond.methodLink RX11 77 yX6_init ∈ TB := TB_of (tin_2 (TB_at 72 rfl)) rfl
set_option maxRecDepth 100000 in
theorem flX6_9 : Cond.fieldLink RX6 9 "KnowsLeast$Row" "numbers" "[J" ∈ TB := TB_of (tin_2 (TB_at 76 rfl)) rfl
theorem fX6_9 : GF RX6 9 6 0 := ⟨RX6, TX6, 3, rfl, by decide, uX6, flX6_9⟩
set_option maxRecDepth 100000 in
theorem flX8_62 : Cond.fieldLink RX8 62 "KnowsLeast$Row" "numbers" "[J" ∈ TB := TB_of (tin_2 (TB_at 77 rfl)) rfl
theorem fX8_62 : GF RX8 62 6 0 := ⟨RX6, TX6, 3, rfl, by decide, uX6, flX8_62⟩
set_option maxRecDepth 100000 in
theorem flX2_103 : Cond.fieldLink RX2 103 "KnowsLeast$Row" "numbers" "[J" ∈ TB := TB_of (tin_2 (TB_at 78 rfl)) rfl
theorem fX2_103 : GF RX2 103 6 0 := ⟨RX6, TX6, 3, rfl, by decide, uX6, flX2_103⟩
set_option maxRecDepth 100000 in
theorem flX11_309 : Cond.fieldLink RX11 309 "KnowsLeast$Row" "numbers" "[J" ∈ TB := TB_of (tin_2 (TB_at 79 rfl)) rfl
theorem fX11_309 : GF RX11 309 6 0 := ⟨RX6, TX6, 3, rfl, by decide, uX6, flX11_309⟩
set_option maxRecDepth 100000 in
theorem flX6_15 : Cond.fieldLink RX6 15 "KnowsLeast$Row" "length" "I" ∈ TB := TB_of (tin_2 (TB_at 80 rfl)) rfl
theorem fX6_15 : GF RX6 15 6 1 := ⟨RX6, TX6, 3, rfl, by decide, uX6, flX6_15⟩
theorem wX6_15 : GFw RX6 15 6 1 := ⟨RX6, TX6, 3, tyX6, rfl, by decide, uX6, flX6_15, tyX6_ok, nmX6, rfl, Or.inl rfl⟩
set_option maxRecDepth 100000 in
theorem flX8_57 : Cond.fieldLink RX8 57 "KnowsLeast$Row" "length" "I" ∈ TB := TB_of (tin_2 (TB_at 81 rfl)) rfl
theorem fX8_57 : GF RX8 57 6 1 := ⟨RX6, TX6, 3, rfl, by decide, uX6, flX8_57⟩
theorem wX8_57 : GFw RX8 57 6 1 := ⟨RX6, TX6, 3, tyX6, rfl, by decide, uX6, flX8_57, tyX6_ok, nmX6, rfl, Or.inl rfl⟩
set_option maxRecDepth 100000 in
theorem flX2_98 : Cond.fieldLink RX2 98 "KnowsLeast$Row" "length" "I" ∈ TB := TB_of (tin_2 (TB_at 82 rfl)) rfl
theorem fX2_98 : GF RX2 98 6 1 := ⟨RX6, TX6, 3, rfl, by decide, uX6, flX2_98⟩
theorem wX2_98 : GFw RX2 98 6 1 := ⟨RX6, TX6, 3, tyX6, rfl, by decide, uX6, flX2_98, tyX6_ok, nmX6, rfl, Or.inl rfl⟩
set_option maxRecDepth 100000 in
theorem flX11_211 : Cond.fieldLink RX11 211 "KnowsLeast$Row" "length" "I" ∈ TB := TB_of (tin_2 (TB_at 83 rfl)) rfl
theorem fX11_211 : GF RX11 211 6 1 := ⟨RX6, TX6, 3, rfl, by decide, uX6, flX11_211⟩
theorem wX11_211 : GFw RX11 211 6 1 := ⟨RX6, TX6, 3, tyX6, rfl, by decide, uX6, flX11_211, tyX6_ok, nmX6, rfl, Or.inl rfl⟩
set_option maxRecDepth 100000 in
theorem flX6_25 : Cond.fieldLink RX6 25 "KnowsLeast$Row" "sort" "I" ∈ TB := TB_of (tin_2 (TB_at 84 rfl)) rfl
theorem fX6_25 : GF RX6 25 6 2 := ⟨RX6, TX6, 3, rfl, by decide, uX6, flX6_25⟩
theorem wX6_25 : GFw RX6 25 6 2 := ⟨RX6, TX6, 3, tyX6, rfl, by decide, uX6, flX6_25, tyX6_ok, nmX6, rfl, Or.inl rfl⟩
set_option maxRecDepth 100000 in
theorem lX11_78 : Cond.methodLink RX11 78 yX1_init ∈ TB := TB_of (tin_2 (TB_at 94 rfl)) rfl
set_option maxRecDepth 100000 in
theorem lX1_9 : Cond.methodLink RX1 9 yX2_init ∈ TB := TB_of (tin_2 (TB_at 99 rfl)) rfl
set_option maxRecDepth 100000 in
theorem lX1_18 : Cond.methodLink RX1 18 yX8_init ∈ TB := TB_of (tin_2 (TB_at 101 rfl)) rfl
set_option maxRecDepth 100000 in
theorem flX1_10 : Cond.fieldLink RX1 10 "KnowsLeast$Image" "land" "LKnowsLeast$Land;" ∈ TB := TB_of (tin_2 (TB_at 102 rfl)) rfl
theorem fX1_10 : GF RX1 10 1 0 := ⟨RX1, TX1, 3, rfl, by decide, uX1, flX1_10⟩
set_option maxRecDepth 100000 in
theorem flX11_337 : Cond.fieldLink RX11 337 "KnowsLeast$Image" "land" "LKnowsLeast$Land;" ∈ TB := TB_of (tin_2 (TB_at 103 rfl)) rfl
theorem fX11_337 : GF RX11 337 1 0 := ⟨RX1, TX1, 3, rfl, by decide, uX1, flX11_337⟩
set_option maxRecDepth 100000 in
theorem flX1_19 : Cond.fieldLink RX1 19 "KnowsLeast$Image" "state" "LKnowsLeast$State;" ∈ TB := TB_of (tin_2 (TB_at 104 rfl)) rfl
theorem fX1_19 : GF RX1 19 1 1 := ⟨RX1, TX1, 3, rfl, by decide, uX1, flX1_19⟩
set_option maxRecDepth 100000 in
theorem flX11_338 : Cond.fieldLink RX11 338 "KnowsLeast$Image" "state" "LKnowsLeast$State;" ∈ TB := TB_of (tin_2 (TB_at 105 rfl)) rfl
theorem fX11_338 : GF RX11 338 1 1 := ⟨RX1, TX1, 3, rfl, by decide, uX1, flX11_338⟩
set_option maxRecDepth 100000 in
theorem flX11_339 : Cond.fieldLink RX11 339 "KnowsLeast$Image" "made" "Z" ∈ TB := TB_of (tin_2 (TB_at 106 rfl)) rfl
theorem fX11_339 : GF RX11 339 1 2 := ⟨RX1, TX1, 3, rfl, by decide, uX1, flX11_339⟩
theorem wX11_339 : GFw RX11 339 1 2 := ⟨RX1, TX1, 3, tyX1, rfl, by decide, uX1, flX11_339, tyX1_ok, nmX1, rfl, Or.inr rfl⟩
set_option maxRecDepth 100000 in
theorem flX11_9 : Cond.fieldLink RX11 9 "KnowsLeast" "tape" "[B" ∈ TB := TB_of (tin_2 (TB_at 114 rfl)) rfl
theorem fX11_9 : GF RX11 9 11 0 := ⟨RX11, TX11, 12, rfl, by decide, uX11, flX11_9⟩
set_option maxRecDepth 100000 in
theorem flX11_16 : Cond.fieldLink RX11 16 "KnowsLeast" "reader" "LKnowsLeast$Reader;" ∈ TB := TB_of (tin_2 (TB_at 115 rfl)) rfl
theorem fX11_16 : GF RX11 16 11 1 := ⟨RX11, TX11, 12, rfl, by decide, uX11, flX11_16⟩
set_option maxRecDepth 100000 in
theorem flX11_23 : Cond.fieldLink RX11 23 "KnowsLeast" "land" "LKnowsLeast$Land;" ∈ TB := TB_of (tin_2 (TB_at 116 rfl)) rfl
theorem fX11_23 : GF RX11 23 11 2 := ⟨RX11, TX11, 12, rfl, by decide, uX11, flX11_23⟩
set_option maxRecDepth 100000 in
theorem flX11_30 : Cond.fieldLink RX11 30 "KnowsLeast" "state" "LKnowsLeast$State;" ∈ TB := TB_of (tin_2 (TB_at 117 rfl)) rfl
theorem fX11_30 : GF RX11 30 11 3 := ⟨RX11, TX11, 12, rfl, by decide, uX11, flX11_30⟩
set_option maxRecDepth 100000 in
theorem flX11_34 : Cond.fieldLink RX11 34 "KnowsLeast" "spare" "LKnowsLeast$State;" ∈ TB := TB_of (tin_2 (TB_at 118 rfl)) rfl
theorem fX11_34 : GF RX11 34 11 4 := ⟨RX11, TX11, 12, rfl, by decide, uX11, flX11_34⟩
set_option maxRecDepth 100000 in
theorem flX11_40 : Cond.fieldLink RX11 40 "KnowsLeast" "past" "LKnowsLeast$Past;" ∈ TB := TB_of (tin_2 (TB_at 119 rfl)) rfl
theorem fX11_40 : GF RX11 40 11 5 := ⟨RX11, TX11, 12, rfl, by decide, uX11, flX11_40⟩
set_option maxRecDepth 100000 in
theorem flX11_47 : Cond.fieldLink RX11 47 "KnowsLeast" "showing" "LKnowsLeast$Showing;" ∈ TB := TB_of (tin_2 (TB_at 120 rfl)) rfl
theorem fX11_47 : GF RX11 47 11 6 := ⟨RX11, TX11, 12, rfl, by decide, uX11, flX11_47⟩
set_option maxRecDepth 100000 in
theorem flX11_54 : Cond.fieldLink RX11 54 "KnowsLeast" "sides" "LKnowsLeast$Parties;" ∈ TB := TB_of (tin_2 (TB_at 121 rfl)) rfl
theorem fX11_54 : GF RX11 54 11 7 := ⟨RX11, TX11, 12, rfl, by decide, uX11, flX11_54⟩
set_option maxRecDepth 100000 in
theorem flX11_61 : Cond.fieldLink RX11 61 "KnowsLeast" "court" "LKnowsLeast$Trial;" ∈ TB := TB_of (tin_2 (TB_at 122 rfl)) rfl
theorem fX11_61 : GF RX11 61 11 8 := ⟨RX11, TX11, 12, rfl, by decide, uX11, flX11_61⟩
set_option maxRecDepth 100000 in
theorem flX11_67 : Cond.fieldLink RX11 67 "KnowsLeast" "rows" "[LKnowsLeast$Row;" ∈ TB := TB_of (tin_2 (TB_at 123 rfl)) rfl
theorem fX11_67 : GF RX11 67 11 9 := ⟨RX11, TX11, 12, rfl, by decide, uX11, flX11_67⟩
set_option maxRecDepth 100000 in
theorem flX11_73 : Cond.fieldLink RX11 73 "KnowsLeast" "images" "[LKnowsLeast$Image;" ∈ TB := TB_of (tin_2 (TB_at 124 rfl)) rfl
theorem fX11_73 : GF RX11 73 11 10 := ⟨RX11, TX11, 12, rfl, by decide, uX11, flX11_73⟩
set_option maxRecDepth 100000 in
theorem flX11_79 : Cond.fieldLink RX11 79 "KnowsLeast" "taped" "I" ∈ TB := TB_of (tin_2 (TB_at 125 rfl)) rfl
theorem fX11_79 : GF RX11 79 11 11 := ⟨RX11, TX11, 12, rfl, by decide, uX11, flX11_79⟩
theorem wX11_79 : GFw RX11 79 11 11 := ⟨RX11, TX11, 12, tyX11, rfl, by decide, uX11, flX11_79, tyX11_ok, nmX11, rfl, Or.inl rfl⟩
set_option maxRecDepth 100000 in
theorem lL_13 : Cond.methodLink RL 13 yX11_feed ∈ TB := TB_of (tin_2 (TB_at 151 rfl)) rfl
set_option maxRecDepth 100000 in
theorem lX11_83 : Cond.methodLink RX11 83 yX11_putOnTape ∈ TB := TB_of (tin_2 (TB_at 155 rfl)) rfl
set_option maxRecDepth 100000 in
theorem lL_18 : Cond.methodLink RL 18 yX11_land ∈ TB := TB_of (tin_2 (TB_at 159 rfl)) rfl
set_option maxRecDepth 100000 in
theorem lX11_87 : Cond.methodLink RX11 87 yX5_read ∈ TB := TB_of (tin_2 (TB_at 163 rfl)) rfl
set_option maxRecDepth 100000 in
theorem lX5_43 : Cond.methodLink RX5 43 yX2_clear ∈ TB := TB_of (tin_2 (TB_at 167 rfl)) rfl
set_option maxRecDepth 100000 in
theorem lX2_27 : Cond.methodLink RX2 27 yJ7_fill_53178 ∈ TB := TB_of (tin_2 (TB_at 171 rfl)) rfl
set_option maxRecDepth 100000 in
theorem lX5_46 : Cond.methodLink RX5 46 yX8_clear ∈ TB := TB_of (tin_2 (TB_at 174 rfl)) rfl
set_option maxRecDepth 100000 in
theorem lX8_18 : Cond.methodLink RX8 18 yJ7_fill_53178 ∈ TB := TB_of (tin_2 (TB_at 178 rfl)) rfl
set_option maxRecDepth 100000 in
theorem lX5_47 : Cond.methodLink RX5 47 yX0_clear ∈ TB := TB_of (tin_2 (TB_at 179 rfl)) rfl
set_option maxRecDepth 100000 in
theorem lX5_48 : Cond.methodLink RX5 48 yX9_cut ∈ TB := TB_of (tin_2 (TB_at 183 rfl)) rfl
set_option maxRecDepth 100000 in
theorem lX9_25 : Cond.methodLink RX9 25 yX9_endOf ∈ TB := TB_of (tin_2 (TB_at 187 rfl)) rfl
set_option maxRecDepth 100000 in
theorem lX9_35 : Cond.methodLink RX9 35 yX9_isLetter ∈ TB := TB_of (tin_2 (TB_at 190 rfl)) rfl
set_option maxRecDepth 100000 in
theorem lX9_39 : Cond.methodLink RX9 39 yX9_isDigit ∈ TB := TB_of (tin_2 (TB_at 193 rfl)) rfl
set_option maxRecDepth 100000 in
theorem lX9_29 : Cond.methodLink RX9 29 yX9_kindOf ∈ TB := TB_of (tin_2 (TB_at 196 rfl)) rfl
set_option maxRecDepth 100000 in
theorem lX9_42 : Cond.methodLink RX9 42 yX9_wordKind ∈ TB := TB_of (tin_2 (TB_at 199 rfl)) rfl
set_option maxRecDepth 100000 in
theorem lX9_47 : Cond.methodLink RX9 47 yX9_spelled ∈ TB := TB_of (tin_2 (TB_at 203 rfl)) rfl
set_option maxRecDepth 100000 in
theorem lX9_83 : Cond.methodLink RX9 83 yJ0_length_8abf5 ∈ TB := TB_of (tin_2 (TB_at 206 rfl)) rfl
set_option maxRecDepth 100000 in
theorem lJ0_335 : Cond.methodLink RJ0 335 yJ0_coder_7d493 ∈ TB := TB_of (tin_2 (TB_at 210 rfl)) rfl
set_option maxRecDepth 100000 in
theorem flJ0_38 : Cond.fieldLink RJ0 38 "java/lang/String" "COMPACT_STRINGS" "Z" ∈ TB := TB_of (tin_2 (TB_at 214 rfl)) rfl
set_option maxRecDepth 100000 in
theorem lX9_89 : Cond.methodLink RX9 89 yJ0_charAt_5068e ∈ TB := TB_of (tin_2 (TB_at 216 rfl)) rfl
set_option maxRecDepth 100000 in
theorem lJ0_492 : Cond.methodLink RJ0 492 yJ0_isLatin1_aae02 ∈ TB := TB_of (tin_2 (TB_at 220 rfl)) rfl
set_option maxRecDepth 100000 in
theorem lJ0_495 : Cond.methodLink RJ0 495 yJ1_charAt_3b067 ∈ TB := TB_of (tin_2 (TB_at 224 rfl)) rfl
set_option maxRecDepth 100000 in
theorem lJ1_9 : Cond.methodLink RJ1 9 yJ0_checkIndex_df160 ∈ TB := TB_of (tin_2 (TB_at 227 rfl)) rfl
set_option maxRecDepth 100000 in
theorem flJ0_1053 : Cond.fieldLink RJ0 1053 "jdk/internal/util/Preconditions" "SIOOBE_FORMATTER" "Ljava/util/function/BiFunction;" ∈ TB := TB_of (tin_2 (TB_at 230 rfl)) rfl
set_option maxRecDepth 100000 in
theorem lJ0_1059 : Cond.methodLink RJ0 1059 yJ3_checkIndex_8e157 ∈ TB := TB_of (tin_2 (TB_at 232 rfl)) rfl
set_option maxRecDepth 100000 in
theorem lJ0_498 : Cond.methodLink RJ0 498 yJ2_charAt_3b067 ∈ TB := TB_of (tin_2 (TB_at 235 rfl)) rfl
set_option maxRecDepth 100000 in
theorem lJ2_67 : Cond.methodLink RJ2 67 yJ2_checkIndex_2214a ∈ TB := TB_of (tin_2 (TB_at 238 rfl)) rfl
set_option maxRecDepth 100000 in
theorem lJ2_48 : Cond.methodLink RJ2 48 yJ2_length_9d52b ∈ TB := TB_of (tin_3 (TB_at 1 rfl)) rfl
set_option maxRecDepth 100000 in
theorem lJ2_414 : Cond.methodLink RJ2 414 yJ0_checkIndex_df160 ∈ TB := TB_of (tin_3 (TB_at 4 rfl)) rfl
set_option maxRecDepth 100000 in
theorem lJ2_71 : Cond.methodLink RJ2 71 yJ2_getChar_3b067 ∈ TB := TB_of (tin_3 (TB_at 5 rfl)) rfl
set_option maxRecDepth 100000 in
theorem flJ2_44 : Cond.fieldLink RJ2 44 "java/lang/StringUTF16" "$assertionsDisabled" "Z" ∈ TB := TB_of (tin_3 (TB_at 8 rfl)) rfl
set_option maxRecDepth 100000 in
theorem flJ2_59 : Cond.fieldLink RJ2 59 "java/lang/StringUTF16" "HI_BYTE_SHIFT" "I" ∈ TB := TB_of (tin_3 (TB_at 10 rfl)) rfl
set_option maxRecDepth 100000 in
theorem flJ2_63 : Cond.fieldLink RJ2 63 "java/lang/StringUTF16" "LO_BYTE_SHIFT" "I" ∈ TB := TB_of (tin_3 (TB_at 12 rfl)) rfl
set_option maxRecDepth 100000 in
theorem lX9_73 : Cond.methodLink RX9 73 yJ9_max_7cf53 ∈ TB := TB_of (tin_3 (TB_at 25 rfl)) rfl
set_option maxRecDepth 100000 in
theorem lX9_32 : Cond.methodLink RX9 32 yX9_valueOf ∈ TB := TB_of (tin_3 (TB_at 30 rfl)) rfl
set_option maxRecDepth 100000 in
theorem lX5_58 : Cond.methodLink RX5 58 yX5_kind ∈ TB := TB_of (tin_3 (TB_at 33 rfl)) rfl
set_option maxRecDepth 100000 in
theorem lX5_62 : Cond.methodLink RX5 62 yX5_readLine ∈ TB := TB_of (tin_3 (TB_at 37 rfl)) rfl
set_option maxRecDepth 100000 in
theorem lX5_89 : Cond.methodLink RX5 89 yX5_readWorld ∈ TB := TB_of (tin_3 (TB_at 41 rfl)) rfl
set_option maxRecDepth 100000 in
theorem lX5_82 : Cond.methodLink RX5 82 yX5_refuse ∈ TB := TB_of (tin_3 (TB_at 45 rfl)) rfl
set_option maxRecDepth 100000 in
theorem lX5_79 : Cond.methodLink RX5 79 yX5_goOn ∈ TB := TB_of (tin_3 (TB_at 49 rfl)) rfl
set_option maxRecDepth 100000 in
theorem lX5_107 : Cond.methodLink RX5 107 yX5_takeNumber ∈ TB := TB_of (tin_3 (TB_at 53 rfl)) rfl
set_option maxRecDepth 100000 in
theorem lX5_92 : Cond.methodLink RX5 92 yX5_readFact ∈ TB := TB_of (tin_3 (TB_at 57 rfl)) rfl
set_option maxRecDepth 100000 in
theorem lX5_114 : Cond.methodLink RX5 114 yX5_take ∈ TB := TB_of (tin_3 (TB_at 61 rfl)) rfl
set_option maxRecDepth 100000 in
theorem lX5_132 : Cond.methodLink RX5 132 yX5_readTruth ∈ TB := TB_of (tin_3 (TB_at 65 rfl)) rfl
set_option maxRecDepth 100000 in
theorem lX5_150 : Cond.methodLink RX5 150 yX5_readBoth ∈ TB := TB_of (tin_3 (TB_at 69 rfl)) rfl
set_option maxRecDepth 100000 in
theorem lX5_156 : Cond.methodLink RX5 156 yX5_readUnit ∈ TB := TB_of (tin_3 (TB_at 73 rfl)) rfl
set_option maxRecDepth 100000 in
theorem lX5_159 : Cond.methodLink RX5 159 yX5_readSum ∈ TB := TB_of (tin_3 (TB_at 77 rfl)) rfl
set_option maxRecDepth 100000 in
theorem lX5_166 : Cond.methodLink RX5 166 yX5_readTerm ∈ TB := TB_of (tin_3 (TB_at 81 rfl)) rfl
set_option maxRecDepth 100000 in
theorem lX5_169 : Cond.methodLink RX5 169 yX5_readAtom ∈ TB := TB_of (tin_3 (TB_at 85 rfl)) rfl
set_option maxRecDepth 100000 in
theorem lX5_153 : Cond.methodLink RX5 153 yX0_add ∈ TB := TB_of (tin_3 (TB_at 89 rfl)) rfl
set_option maxRecDepth 100000 in
theorem lX5_162 : Cond.methodLink RX5 162 yX5_isTooDeep ∈ TB := TB_of (tin_3 (TB_at 93 rfl)) rfl
set_option maxRecDepth 100000 in
theorem lX5_135 : Cond.methodLink RX5 135 yX0_end ∈ TB := TB_of (tin_3 (TB_at 97 rfl)) rfl
set_option maxRecDepth 100000 in
theorem lX5_95 : Cond.methodLink RX5 95 yX5_readPerson ∈ TB := TB_of (tin_3 (TB_at 101 rfl)) rfl
set_option maxRecDepth 100000 in
theorem lX5_98 : Cond.methodLink RX5 98 yX5_readRoad ∈ TB := TB_of (tin_3 (TB_at 105 rfl)) rfl
set_option maxRecDepth 100000 in
theorem lX5_101 : Cond.methodLink RX5 101 yX5_readHint ∈ TB := TB_of (tin_3 (TB_at 109 rfl)) rfl
set_option maxRecDepth 100000 in
theorem lX5_65 : Cond.methodLink RX5 65 yX0_settle ∈ TB := TB_of (tin_3 (TB_at 113 rfl)) rfl
set_option maxRecDepth 100000 in
theorem lX0_36 : Cond.methodLink RX0 36 yX0_valueIn ∈ TB := TB_of (tin_3 (TB_at 117 rfl)) rfl
set_option maxRecDepth 100000 in
theorem lX0_40 : Cond.methodLink RX0 40 yX0_isAtom ∈ TB := TB_of (tin_3 (TB_at 121 rfl)) rfl
set_option maxRecDepth 100000 in
theorem lX0_44 : Cond.methodLink RX0 44 yX0_atomOf ∈ TB := TB_of (tin_3 (TB_at 124 rfl)) rfl
set_option maxRecDepth 100000 in
theorem lX0_50 : Cond.methodLink RX0 50 yX0_joined ∈ TB := TB_of (tin_3 (TB_at 127 rfl)) rfl
set_option maxRecDepth 100000 in
theorem lX0_63 : Cond.methodLink RX0 63 yX0_kept ∈ TB := TB_of (tin_3 (TB_at 130 rfl)) rfl
set_option maxRecDepth 100000 in
theorem cvX0_67 : Cond.constantLong RX0 67 (-1000000) ∈ TB := TB_of (tin_3 (TB_at 133 rfl)) rfl
set_option maxRecDepth 100000 in
theorem cvX0_69 : Cond.constantLong RX0 69 (1000000) ∈ TB := TB_of (tin_3 (TB_at 134 rfl)) rfl
set_option maxRecDepth 100000 in
theorem lX0_71 : Cond.methodLink RX0 71 yJ9_min_f86c9 ∈ TB := TB_of (tin_3 (TB_at 135 rfl)) rfl
set_option maxRecDepth 100000 in
theorem lX0_77 : Cond.methodLink RX0 77 yJ9_max_f86c9 ∈ TB := TB_of (tin_3 (TB_at 138 rfl)) rfl
set_option maxRecDepth 100000 in
theorem lX11_95 : Cond.methodLink RX11 95 yX2_become ∈ TB := TB_of (tin_3 (TB_at 141 rfl)) rfl
set_option maxRecDepth 100000 in
theorem lX11_100 : Cond.methodLink RX11 100 yX8_become ∈ TB := TB_of (tin_3 (TB_at 148 rfl)) rfl
set_option maxRecDepth 100000 in
theorem lX11_103 : Cond.methodLink RX11 103 yX4_forget ∈ TB := TB_of (tin_3 (TB_at 153 rfl)) rfl
set_option maxRecDepth 100000 in
theorem lL_23 : Cond.methodLink RL 23 yX11_fault ∈ TB := TB_of (tin_3 (TB_at 157 rfl)) rfl
set_option maxRecDepth 100000 in
theorem lL_27 : Cond.methodLink RL 27 yX11_world ∈ TB := TB_of (tin_3 (TB_at 161 rfl)) rfl
set_option maxRecDepth 100000 in
theorem lX11_112 : Cond.methodLink RX11 112 yX11_isWorld ∈ TB := TB_of (tin_3 (TB_at 165 rfl)) rfl
set_option maxRecDepth 100000 in
theorem lX11_126 : Cond.methodLink RX11 126 yX2_factsIn ∈ TB := TB_of (tin_3 (TB_at 169 rfl)) rfl
set_option maxRecDepth 100000 in
theorem lL_32 : Cond.methodLink RL 32 yX11_fact ∈ TB := TB_of (tin_3 (TB_at 173 rfl)) rfl
set_option maxRecDepth 100000 in
theorem lX11_130 : Cond.methodLink RX11 130 yX11_isFact ∈ TB := TB_of (tin_3 (TB_at 177 rfl)) rfl
set_option maxRecDepth 100000 in
theorem lL_36 : Cond.methodLink RL 36 yX11_person ∈ TB := TB_of (tin_3 (TB_at 181 rfl)) rfl
set_option maxRecDepth 100000 in
theorem lX11_136 : Cond.methodLink RX11 136 yX11_isPerson ∈ TB := TB_of (tin_3 (TB_at 185 rfl)) rfl
set_option maxRecDepth 100000 in
theorem lX11_139 : Cond.methodLink RX11 139 yX11_possibleTo ∈ TB := TB_of (tin_3 (TB_at 189 rfl)) rfl
set_option maxRecDepth 100000 in
theorem lX11_161 : Cond.methodLink RX11 161 yX2_possible ∈ TB := TB_of (tin_3 (TB_at 193 rfl)) rfl
set_option maxRecDepth 100000 in
theorem lX2_61 : Cond.methodLink RX2 61 yX2_allWorlds ∈ TB := TB_of (tin_3 (TB_at 197 rfl)) rfl
set_option maxRecDepth 100000 in
theorem lX2_65 : Cond.methodLink RX2 65 yX2_sideOf ∈ TB := TB_of (tin_3 (TB_at 201 rfl)) rfl
set_option maxRecDepth 100000 in
theorem lX11_145 : Cond.methodLink RX11 145 yX2_knownBy ∈ TB := TB_of (tin_3 (TB_at 205 rfl)) rfl
set_option maxRecDepth 100000 in
theorem lX2_69 : Cond.methodLink RX2 69 yX2_isKnown ∈ TB := TB_of (tin_3 (TB_at 209 rfl)) rfl
set_option maxRecDepth 100000 in
theorem lX11_148 : Cond.methodLink RX11 148 yX2_isGuiltKnown ∈ TB := TB_of (tin_3 (TB_at 213 rfl)) rfl
set_option maxRecDepth 100000 in
theorem lL_40 : Cond.methodLink RL 40 yX11_hints ∈ TB := TB_of (tin_3 (TB_at 217 rfl)) rfl
set_option maxRecDepth 100000 in
theorem lL_44 : Cond.methodLink RL 44 yX11_knows ∈ TB := TB_of (tin_3 (TB_at 221 rfl)) rfl
set_option maxRecDepth 100000 in
theorem lX11_157 : Cond.methodLink RX11 157 yX2_isKnown ∈ TB := TB_of (tin_3 (TB_at 225 rfl)) rfl
set_option maxRecDepth 100000 in
theorem lL_48 : Cond.methodLink RL 48 yX11_cell ∈ TB := TB_of (tin_3 (TB_at 226 rfl)) rfl
set_option maxRecDepth 100000 in
theorem lL_52 : Cond.methodLink RL 52 yX11_tell ∈ TB := TB_of (tin_3 (TB_at 230 rfl)) rfl
set_option maxRecDepth 100000 in
theorem lX11_177 : Cond.methodLink RX11 177 yX4_keep ∈ TB := TB_of (tin_3 (TB_at 234 rfl)) rfl
set_option maxRecDepth 100000 in
theorem lX11_180 : Cond.methodLink RX11 180 yJ6_bitCount_0f7a4 ∈ TB := TB_of (tin_3 (TB_at 239 rfl)) rfl
set_option maxRecDepth 100000 in
theorem cvJ6_265 : Cond.constant RJ6 265 (1431655765) ∈ TB := TB_of (tin_4 (TB_at 2 rfl)) rfl
set_option maxRecDepth 100000 in
theorem cvJ6_266 : Cond.constant RJ6 266 (858993459) ∈ TB := TB_of (tin_4 (TB_at 3 rfl)) rfl
set_option maxRecDepth 100000 in
theorem cvJ6_267 : Cond.constant RJ6 267 (252645135) ∈ TB := TB_of (tin_4 (TB_at 4 rfl)) rfl
set_option maxRecDepth 100000 in
theorem lL_56 : Cond.methodLink RL 56 yX11_ask ∈ TB := TB_of (tin_4 (TB_at 5 rfl)) rfl
set_option maxRecDepth 100000 in
theorem lX11_185 : Cond.methodLink RX11 185 yX8_isAsked ∈ TB := TB_of (tin_4 (TB_at 9 rfl)) rfl
set_option maxRecDepth 100000 in
theorem lX8_34 : Cond.methodLink RX8 34 yX2_possible ∈ TB := TB_of (tin_4 (TB_at 13 rfl)) rfl
set_option maxRecDepth 100000 in
theorem lX8_40 : Cond.methodLink RX8 40 yX2_isKnown ∈ TB := TB_of (tin_4 (TB_at 14 rfl)) rfl
set_option maxRecDepth 100000 in
theorem lL_60 : Cond.methodLink RL 60 yX11_days ∈ TB := TB_of (tin_4 (TB_at 15 rfl)) rfl
set_option maxRecDepth 100000 in
theorem lX11_189 : Cond.methodLink RX11 189 yX8_passDays ∈ TB := TB_of (tin_4 (TB_at 19 rfl)) rfl
set_option maxRecDepth 100000 in
theorem lX8_53 : Cond.methodLink RX8 53 yX8_passDay ∈ TB := TB_of (tin_4 (TB_at 23 rfl)) rfl
set_option maxRecDepth 100000 in
theorem lL_64 : Cond.methodLink RL 64 yX11_isTrue ∈ TB := TB_of (tin_4 (TB_at 27 rfl)) rfl
set_option maxRecDepth 100000 in
theorem lL_68 : Cond.methodLink RL 68 yX11_undo ∈ TB := TB_of (tin_4 (TB_at 31 rfl)) rfl
set_option maxRecDepth 100000 in
theorem lX11_196 : Cond.methodLink RX11 196 yX4_goBack ∈ TB := TB_of (tin_4 (TB_at 35 rfl)) rfl
set_option maxRecDepth 100000 in
theorem lL_72 : Cond.methodLink RL 72 yX11_judge ∈ TB := TB_of (tin_4 (TB_at 39 rfl)) rfl
set_option maxRecDepth 100000 in
theorem lX11_200 : Cond.methodLink RX11 200 yX11_isRow ∈ TB := TB_of (tin_4 (TB_at 43 rfl)) rfl
set_option maxRecDepth 100000 in
theorem lX11_203 : Cond.methodLink RX11 203 yX6_isMissing ∈ TB := TB_of (tin_4 (TB_at 46 rfl)) rfl
set_option maxRecDepth 100000 in
theorem lX11_207 : Cond.methodLink RX11 207 yX2_deedsAhead ∈ TB := TB_of (tin_4 (TB_at 50 rfl)) rfl
set_option maxRecDepth 100000 in
theorem lX2_106 : Cond.methodLink RX2 106 yX2_isDeed ∈ TB := TB_of (tin_4 (TB_at 54 rfl)) rfl
set_option maxRecDepth 100000 in
theorem cvX2_90 : Cond.constantLong RX2 90 (-1) ∈ TB := TB_of (tin_4 (TB_at 58 rfl)) rfl
set_option maxRecDepth 100000 in
theorem cvX2_92 : Cond.constantLong RX2 92 (200) ∈ TB := TB_of (tin_4 (TB_at 59 rfl)) rfl
set_option maxRecDepth 100000 in
theorem cvX2_94 : Cond.constantLong RX2 94 (100) ∈ TB := TB_of (tin_4 (TB_at 60 rfl)) rfl
set_option maxRecDepth 100000 in
theorem cvX2_96 : Cond.constantLong RX2 96 (10) ∈ TB := TB_of (tin_4 (TB_at 61 rfl)) rfl
set_option maxRecDepth 100000 in
theorem lX11_214 : Cond.methodLink RX11 214 yX8_doDeeds ∈ TB := TB_of (tin_4 (TB_at 62 rfl)) rfl
set_option maxRecDepth 100000 in
theorem lX8_66 : Cond.methodLink RX8 66 yX2_isDeed ∈ TB := TB_of (tin_4 (TB_at 66 rfl)) rfl
set_option maxRecDepth 100000 in
theorem lX8_70 : Cond.methodLink RX8 70 yX8_isDone ∈ TB := TB_of (tin_4 (TB_at 67 rfl)) rfl
set_option maxRecDepth 100000 in
theorem lX8_74 : Cond.methodLink RX8 74 yX8_isAsked ∈ TB := TB_of (tin_4 (TB_at 71 rfl)) rfl
set_option maxRecDepth 100000 in
theorem lX11_218 : Cond.methodLink RX11 218 yX2_leastBy ∈ TB := TB_of (tin_4 (TB_at 72 rfl)) rfl
set_option maxRecDepth 100000 in
theorem lX2_84 : Cond.methodLink RX2 84 yX2_possible ∈ TB := TB_of (tin_4 (TB_at 76 rfl)) rfl
set_option maxRecDepth 100000 in
theorem lX2_87 : Cond.methodLink RX2 87 yX2_amountOf ∈ TB := TB_of (tin_4 (TB_at 77 rfl)) rfl
set_option maxRecDepth 100000 in
theorem lX2_55 : Cond.methodLink RX2 55 yJ6_bitCount_0f7a4 ∈ TB := TB_of (tin_4 (TB_at 81 rfl)) rfl
set_option maxRecDepth 100000 in
theorem lX2_73 : Cond.methodLink RX2 73 yJ9_min_7cf53 ∈ TB := TB_of (tin_4 (TB_at 82 rfl)) rfl
set_option maxRecDepth 100000 in
theorem lX2_78 : Cond.methodLink RX2 78 yX2_weightOf ∈ TB := TB_of (tin_4 (TB_at 85 rfl)) rfl
set_option maxRecDepth 100000 in
theorem lX2_81 : Cond.methodLink RX2 81 yX2_knownBy ∈ TB := TB_of (tin_4 (TB_at 89 rfl)) rfl
set_option maxRecDepth 100000 in
theorem lL_76 : Cond.methodLink RL 76 yX11_perform ∈ TB := TB_of (tin_4 (TB_at 90 rfl)) rfl
set_option maxRecDepth 100000 in
theorem lL_80 : Cond.methodLink RL 80 yX11_year ∈ TB := TB_of (tin_4 (TB_at 94 rfl)) rfl
set_option maxRecDepth 100000 in
theorem lX11_222 : Cond.methodLink RX11 222 yX8_passYear ∈ TB := TB_of (tin_4 (TB_at 98 rfl)) rfl
set_option maxRecDepth 100000 in
theorem lX8_82 : Cond.methodLink RX8 82 yX8_draw ∈ TB := TB_of (tin_4 (TB_at 102 rfl)) rfl
set_option maxRecDepth 100000 in
theorem cvX8_78 : Cond.constant RX8 78 (1103515245) ∈ TB := TB_of (tin_4 (TB_at 106 rfl)) rfl
set_option maxRecDepth 100000 in
theorem lL_84 : Cond.methodLink RL 84 yX11_everyone ∈ TB := TB_of (tin_4 (TB_at 107 rfl)) rfl
set_option maxRecDepth 100000 in
theorem lX11_226 : Cond.methodLink RX11 226 yX11_reached ∈ TB := TB_of (tin_4 (TB_at 111 rfl)) rfl
set_option maxRecDepth 100000 in
theorem lX11_229 : Cond.methodLink RX11 229 yX2_stepFrom ∈ TB := TB_of (tin_4 (TB_at 115 rfl)) rfl
set_option maxRecDepth 100000 in
theorem lL_88 : Cond.methodLink RL 88 yX11_depth ∈ TB := TB_of (tin_4 (TB_at 119 rfl)) rfl
set_option maxRecDepth 100000 in
theorem lL_92 : Cond.methodLink RL 92 yX11_common ∈ TB := TB_of (tin_4 (TB_at 123 rfl)) rfl
set_option maxRecDepth 100000 in
theorem lL_97 : Cond.methodLink RL 97 yX11_reach ∈ TB := TB_of (tin_4 (TB_at 127 rfl)) rfl
set_option maxRecDepth 100000 in
theorem lL_101 : Cond.methodLink RL 101 yX11_together ∈ TB := TB_of (tin_4 (TB_at 131 rfl)) rfl
set_option maxRecDepth 100000 in
theorem lX11_233 : Cond.methodLink RX11 233 yX11_possibleTogether ∈ TB := TB_of (tin_4 (TB_at 135 rfl)) rfl
set_option maxRecDepth 100000 in
theorem lL_105 : Cond.methodLink RL 105 yX11_witnesses ∈ TB := TB_of (tin_4 (TB_at 139 rfl)) rfl
set_option maxRecDepth 100000 in
theorem lX11_236 : Cond.methodLink RX11 236 yX11_isFewer ∈ TB := TB_of (tin_4 (TB_at 143 rfl)) rfl
set_option maxRecDepth 100000 in
theorem lL_109 : Cond.methodLink RL 109 yX11_parting ∈ TB := TB_of (tin_4 (TB_at 146 rfl)) rfl
set_option maxRecDepth 100000 in
theorem lL_113 : Cond.methodLink RL 113 yX11_measure ∈ TB := TB_of (tin_4 (TB_at 150 rfl)) rfl
set_option maxRecDepth 100000 in
theorem lX11_239 : Cond.methodLink RX11 239 yX11_isMeasure ∈ TB := TB_of (tin_4 (TB_at 154 rfl)) rfl
set_option maxRecDepth 100000 in
theorem lX11_242 : Cond.methodLink RX11 242 yX11_amount ∈ TB := TB_of (tin_4 (TB_at 157 rfl)) rfl
set_option maxRecDepth 100000 in
theorem lX11_245 : Cond.methodLink RX11 245 yX2_amountOf ∈ TB := TB_of (tin_4 (TB_at 161 rfl)) rfl
set_option maxRecDepth 100000 in
theorem lL_117 : Cond.methodLink RL 117 yX11_least ∈ TB := TB_of (tin_4 (TB_at 162 rfl)) rfl
set_option maxRecDepth 100000 in
theorem lL_121 : Cond.methodLink RL 121 yX11_seats ∈ TB := TB_of (tin_4 (TB_at 166 rfl)) rfl
set_option maxRecDepth 100000 in
theorem lL_125 : Cond.methodLink RL 125 yX11_differ ∈ TB := TB_of (tin_4 (TB_at 170 rfl)) rfl
set_option maxRecDepth 100000 in
theorem lX11_248 : Cond.methodLink RX11 248 yJ6_compare_7cf53 ∈ TB := TB_of (tin_4 (TB_at 174 rfl)) rfl
set_option maxRecDepth 100000 in
theorem lL_129 : Cond.methodLink RL 129 yX11_shown ∈ TB := TB_of (tin_4 (TB_at 177 rfl)) rfl
set_option maxRecDepth 100000 in
theorem lX11_251 : Cond.methodLink RX11 251 yX7_find ∈ TB := TB_of (tin_4 (TB_at 181 rfl)) rfl
set_option maxRecDepth 100000 in
theorem lX7_38 : Cond.methodLink RX7 38 yX2_possible ∈ TB := TB_of (tin_4 (TB_at 185 rfl)) rfl
set_option maxRecDepth 100000 in
theorem lX7_42 : Cond.methodLink RX7 42 yJ6_bitCount_0f7a4 ∈ TB := TB_of (tin_4 (TB_at 186 rfl)) rfl
set_option maxRecDepth 100000 in
theorem lX7_48 : Cond.methodLink RX7 48 yX2_knownBy ∈ TB := TB_of (tin_4 (TB_at 187 rfl)) rfl
set_option maxRecDepth 100000 in
theorem lX7_57 : Cond.methodLink RX7 57 yX7_findExtremes ∈ TB := TB_of (tin_4 (TB_at 188 rfl)) rfl
set_option maxRecDepth 100000 in
theorem lX7_74 : Cond.methodLink RX7 74 yJ7_fill_53178 ∈ TB := TB_of (tin_4 (TB_at 192 rfl)) rfl
set_option maxRecDepth 100000 in
theorem lX7_80 : Cond.methodLink RX7 80 yJ9_max_7cf53 ∈ TB := TB_of (tin_4 (TB_at 193 rfl)) rfl
set_option maxRecDepth 100000 in
theorem lX7_61 : Cond.methodLink RX7 61 yX7_findBest ∈ TB := TB_of (tin_4 (TB_at 194 rfl)) rfl
set_option maxRecDepth 100000 in
theorem lX7_85 : Cond.methodLink RX7 85 yX2_allFacts ∈ TB := TB_of (tin_4 (TB_at 198 rfl)) rfl
theorem lX7_89 : ∀ (G : GT) (U : State), Kn G U → va_Nw (.methodLinkNest RX7 89 yX11_isFewer RX11) U := fun G U h => h.2.2.2.2.2.2.2
set_option maxRecDepth 100000 in
theorem lX7_70 : Cond.methodLink RX7 70 yX7_takeIfBetter ∈ TB := TB_of (tin_4 (TB_at 203 rfl)) rfl
set_option maxRecDepth 100000 in
theorem lX7_93 : Cond.methodLink RX7 93 yX7_isAhead ∈ TB := TB_of (tin_4 (TB_at 207 rfl)) rfl
set_option maxRecDepth 100000 in
theorem lL_133 : Cond.methodLink RL 133 yX11_appeals ∈ TB := TB_of (tin_4 (TB_at 211 rfl)) rfl
set_option maxRecDepth 100000 in
theorem lX11_261 : Cond.methodLink RX11 261 yX11_nextAbove ∈ TB := TB_of (tin_4 (TB_at 215 rfl)) rfl
set_option maxRecDepth 100000 in
theorem lL_138 : Cond.methodLink RL 138 yX11_parties ∈ TB := TB_of (tin_4 (TB_at 219 rfl)) rfl
set_option maxRecDepth 100000 in
theorem lX11_264 : Cond.methodLink RX11 264 yX3_judgeAll ∈ TB := TB_of (tin_4 (TB_at 223 rfl)) rfl
set_option maxRecDepth 100000 in
theorem lX3_43 : Cond.methodLink RX3 43 yX2_possible ∈ TB := TB_of (tin_4 (TB_at 227 rfl)) rfl
set_option maxRecDepth 100000 in
theorem lX3_47 : Cond.methodLink RX3 47 yX2_amountOf ∈ TB := TB_of (tin_4 (TB_at 228 rfl)) rfl
set_option maxRecDepth 100000 in
theorem lX3_57 : Cond.methodLink RX3 57 yX3_choose ∈ TB := TB_of (tin_4 (TB_at 230 rfl)) rfl
set_option maxRecDepth 100000 in
theorem lX3_61 : Cond.methodLink RX3 61 yX3_mostOf ∈ TB := TB_of (tin_4 (TB_at 234 rfl)) rfl
set_option maxRecDepth 100000 in
theorem lX3_64 : Cond.methodLink RX3 64 yX3_takeBack ∈ TB := TB_of (tin_4 (TB_at 238 rfl)) rfl
set_option maxRecDepth 100000 in
theorem lX11_267 : Cond.methodLink RX11 267 yX3_findRest ∈ TB := TB_of (tin_5 (TB_at 2 rfl)) rfl
set_option maxRecDepth 100000 in
theorem lX3_68 : Cond.methodLink RX3 68 yX3_canGet ∈ TB := TB_of (tin_5 (TB_at 6 rfl)) rfl
set_option maxRecDepth 100000 in
theorem lX11_279 : Cond.methodLink RX11 279 yX3_choice ∈ TB := TB_of (tin_5 (TB_at 10 rfl)) rfl
set_option maxRecDepth 100000 in
theorem lL_143 : Cond.methodLink RL 143 yX11_inform ∈ TB := TB_of (tin_5 (TB_at 14 rfl)) rfl
set_option maxRecDepth 100000 in
theorem lL_147 : Cond.methodLink RL 147 yX11_trial ∈ TB := TB_of (tin_5 (TB_at 18 rfl)) rfl
set_option maxRecDepth 100000 in
theorem lX11_282 : Cond.methodLink RX11 282 yX10_fewestFacts ∈ TB := TB_of (tin_5 (TB_at 22 rfl)) rfl
set_option maxRecDepth 100000 in
theorem lX10_22 : Cond.methodLink RX10 22 yX10_fewestBehind ∈ TB := TB_of (tin_5 (TB_at 26 rfl)) rfl
set_option maxRecDepth 100000 in
theorem lX10_35 : Cond.methodLink RX10 35 yX2_isGuiltKnown ∈ TB := TB_of (tin_5 (TB_at 30 rfl)) rfl
set_option maxRecDepth 100000 in
theorem lX10_31 : Cond.methodLink RX10 31 yX10_fewestBy ∈ TB := TB_of (tin_5 (TB_at 31 rfl)) rfl
set_option maxRecDepth 100000 in
theorem lX10_45 : Cond.methodLink RX10 45 yX2_isKnown ∈ TB := TB_of (tin_5 (TB_at 35 rfl)) rfl
set_option maxRecDepth 100000 in
theorem lX10_52 : Cond.methodLink RX10 52 yJ9_max_7cf53 ∈ TB := TB_of (tin_5 (TB_at 36 rfl)) rfl
set_option maxRecDepth 100000 in
theorem lX10_39 : Cond.methodLink RX10 39 yJ9_min_7cf53 ∈ TB := TB_of (tin_5 (TB_at 37 rfl)) rfl
set_option maxRecDepth 100000 in
theorem lX11_285 : Cond.methodLink RX11 285 yX10_firstFact ∈ TB := TB_of (tin_5 (TB_at 38 rfl)) rfl
set_option maxRecDepth 100000 in
theorem lL_151 : Cond.methodLink RL 151 yX11_brief ∈ TB := TB_of (tin_5 (TB_at 42 rfl)) rfl
set_option maxRecDepth 100000 in
theorem lL_155 : Cond.methodLink RL 155 yX11_right ∈ TB := TB_of (tin_5 (TB_at 46 rfl)) rfl
set_option maxRecDepth 100000 in
theorem lX11_289 : Cond.methodLink RX11 289 yX2_isRight ∈ TB := TB_of (tin_5 (TB_at 50 rfl)) rfl
set_option maxRecDepth 100000 in
theorem lL_159 : Cond.methodLink RL 159 yX11_justice ∈ TB := TB_of (tin_5 (TB_at 54 rfl)) rfl
set_option maxRecDepth 100000 in
theorem lX11_292 : Cond.methodLink RX11 292 yX11_justiceBy ∈ TB := TB_of (tin_5 (TB_at 58 rfl)) rfl
set_option maxRecDepth 100000 in
theorem lL_163 : Cond.methodLink RL 163 yX11_bestLaw ∈ TB := TB_of (tin_5 (TB_at 62 rfl)) rfl
set_option maxRecDepth 100000 in
theorem lL_167 : Cond.methodLink RL 167 yX11_news ∈ TB := TB_of (tin_5 (TB_at 66 rfl)) rfl
set_option maxRecDepth 100000 in
theorem lX11_295 : Cond.methodLink RX11 295 yX11_daysTill ∈ TB := TB_of (tin_5 (TB_at 70 rfl)) rfl
set_option maxRecDepth 100000 in
theorem lL_171 : Cond.methodLink RL 171 yX11_latest ∈ TB := TB_of (tin_5 (TB_at 74 rfl)) rfl
set_option maxRecDepth 100000 in
theorem lL_175 : Cond.methodLink RL 175 yX11_leastIn ∈ TB := TB_of (tin_5 (TB_at 78 rfl)) rfl
set_option maxRecDepth 100000 in
theorem lL_179 : Cond.methodLink RL 179 yX11_calm ∈ TB := TB_of (tin_5 (TB_at 82 rfl)) rfl
set_option maxRecDepth 100000 in
theorem lL_183 : Cond.methodLink RL 183 yX11_fitting ∈ TB := TB_of (tin_5 (TB_at 86 rfl)) rfl
set_option maxRecDepth 100000 in
theorem lX11_298 : Cond.methodLink RX11 298 yX11_refusedAsked ∈ TB := TB_of (tin_5 (TB_at 90 rfl)) rfl
set_option maxRecDepth 100000 in
theorem lX11_301 : Cond.methodLink RX11 301 yX11_isFitting ∈ TB := TB_of (tin_5 (TB_at 94 rfl)) rfl
set_option maxRecDepth 100000 in
theorem lX11_312 : Cond.methodLink RX11 312 yX2_sideOf ∈ TB := TB_of (tin_5 (TB_at 98 rfl)) rfl
set_option maxRecDepth 100000 in
theorem lL_187 : Cond.methodLink RL 187 yX11_sure ∈ TB := TB_of (tin_5 (TB_at 99 rfl)) rfl
set_option maxRecDepth 100000 in
theorem lX11_305 : Cond.methodLink RX11 305 yX2_allFacts ∈ TB := TB_of (tin_5 (TB_at 103 rfl)) rfl
set_option maxRecDepth 100000 in
theorem lL_191 : Cond.methodLink RL 191 yX11_questions ∈ TB := TB_of (tin_5 (TB_at 104 rfl)) rfl
set_option maxRecDepth 100000 in
theorem lX11_315 : Cond.methodLink RX11 315 yX11_rowsToAsk ∈ TB := TB_of (tin_5 (TB_at 108 rfl)) rfl
set_option maxRecDepth 100000 in
theorem lL_195 : Cond.methodLink RL 195 yX11_numbers ∈ TB := TB_of (tin_5 (TB_at 112 rfl)) rfl
set_option maxRecDepth 100000 in
theorem lX11_318 : Cond.methodLink RX11 318 yX6_renew ∈ TB := TB_of (tin_5 (TB_at 116 rfl)) rfl
set_option maxRecDepth 100000 in
theorem lX6_19 : Cond.methodLink RX6 19 yJ7_fill_d0a16 ∈ TB := TB_of (tin_5 (TB_at 120 rfl)) rfl
set_option maxRecDepth 100000 in
theorem lL_201 : Cond.methodLink RL 201 yX11_write ∈ TB := TB_of (tin_5 (TB_at 123 rfl)) rfl
set_option maxRecDepth 100000 in
theorem cvX11_322 : Cond.constantLong RX11 322 (-2) ∈ TB := TB_of (tin_5 (TB_at 127 rfl)) rfl
set_option maxRecDepth 100000 in
theorem cvX11_324 : Cond.constantLong RX11 324 (-6) ∈ TB := TB_of (tin_5 (TB_at 128 rfl)) rfl
set_option maxRecDepth 100000 in
theorem cvX11_326 : Cond.constantLong RX11 326 (-7) ∈ TB := TB_of (tin_5 (TB_at 129 rfl)) rfl
set_option maxRecDepth 100000 in
theorem lX11_328 : Cond.methodLink RX11 328 yX6_put ∈ TB := TB_of (tin_5 (TB_at 130 rfl)) rfl
set_option maxRecDepth 100000 in
theorem lL_206 : Cond.methodLink RL 206 yX11_copy ∈ TB := TB_of (tin_5 (TB_at 134 rfl)) rfl
set_option maxRecDepth 100000 in
theorem lX11_332 : Cond.methodLink RX11 332 yJ9_min_7cf53 ∈ TB := TB_of (tin_5 (TB_at 138 rfl)) rfl
set_option maxRecDepth 100000 in
theorem lL_210 : Cond.methodLink RL 210 yX11_image ∈ TB := TB_of (tin_5 (TB_at 139 rfl)) rfl
set_option maxRecDepth 100000 in
theorem lL_214 : Cond.methodLink RL 214 yX11_restore ∈ TB := TB_of (tin_5 (TB_at 143 rfl)) rfl
set_option maxRecDepth 100000 in
theorem lL_218 : Cond.methodLink RL 218 yX11_count ∈ TB := TB_of (tin_5 (TB_at 147 rfl)) rfl
set_option maxRecDepth 100000 in
theorem lX11_343 : Cond.methodLink RX11 343 yX2_countRoads ∈ TB := TB_of (tin_5 (TB_at 151 rfl)) rfl
set_option maxRecDepth 100000 in
theorem lX11_346 : Cond.methodLink RX11 346 yX2_allWorlds ∈ TB := TB_of (tin_5 (TB_at 155 rfl)) rfl
set_option maxRecDepth 100000 in
theorem lX11_349 : Cond.methodLink RX11 349 yX2_weightOf ∈ TB := TB_of (tin_5 (TB_at 156 rfl)) rfl
set_option maxRecDepth 100000 in
theorem lL_12 : Cond.methodLink RL 12 yX12_init ∈ TB := TB_of (tin_5 (TB_at 159 rfl)) rfl
set_option maxRecDepth 100000 in
theorem cvX12_69 : Cond.constant RX12 69 (65536) ∈ TB := TB_of (tin_5 (TB_at 163 rfl)) rfl
set_option maxRecDepth 100000 in
theorem flX12_1 : Cond.fieldLink RX12 1 "KnowsLeastModel" "thrown" "I" ∈ TB := TB_of (tin_5 (TB_at 164 rfl)) rfl
theorem fX12_1 : GF RX12 1 12 0 := ⟨RX12, TX12, 35, rfl, by decide, uX12, flX12_1⟩
theorem wX12_1 : GFw RX12 1 12 0 := ⟨RX12, TX12, 35, tyX12, rfl, by decide, uX12, flX12_1, tyX12_ok, nmX12, rfl, Or.inl rfl⟩
set_option maxRecDepth 100000 in
theorem flX12_13 : Cond.fieldLink RX12 13 "KnowsLeastModel" "all" "[I" ∈ TB := TB_of (tin_5 (TB_at 165 rfl)) rfl
theorem fX12_13 : GF RX12 13 12 1 := ⟨RX12, TX12, 35, rfl, by decide, uX12, flX12_13⟩
set_option maxRecDepth 100000 in
theorem flX12_17 : Cond.fieldLink RX12 17 "KnowsLeastModel" "hasImage" "[Z" ∈ TB := TB_of (tin_5 (TB_at 166 rfl)) rfl
theorem fX12_17 : GF RX12 17 12 2 := ⟨RX12, TX12, 35, rfl, by decide, uX12, flX12_17⟩
set_option maxRecDepth 100000 in
theorem flX12_21 : Cond.fieldLink RX12 21 "KnowsLeastModel" "tape" "[I" ∈ TB := TB_of (tin_5 (TB_at 167 rfl)) rfl
theorem fX12_21 : GF RX12 21 12 3 := ⟨RX12, TX12, 35, rfl, by decide, uX12, flX12_21⟩
set_option maxRecDepth 100000 in
theorem flX12_24 : Cond.fieldLink RX12 24 "KnowsLeastModel" "fresh" "[I" ∈ TB := TB_of (tin_5 (TB_at 168 rfl)) rfl
theorem fX12_24 : GF RX12 24 12 4 := ⟨RX12, TX12, 35, rfl, by decide, uX12, flX12_24⟩
set_option maxRecDepth 100000 in
theorem flX12_27 : Cond.fieldLink RX12 27 "KnowsLeastModel" "codes" "[I" ∈ TB := TB_of (tin_5 (TB_at 169 rfl)) rfl
theorem fX12_27 : GF RX12 27 12 5 := ⟨RX12, TX12, 35, rfl, by decide, uX12, flX12_27⟩
set_option maxRecDepth 100000 in
theorem flX12_30 : Cond.fieldLink RX12 30 "KnowsLeastModel" "factFrom" "[I" ∈ TB := TB_of (tin_5 (TB_at 170 rfl)) rfl
theorem fX12_30 : GF RX12 30 12 6 := ⟨RX12, TX12, 35, rfl, by decide, uX12, flX12_30⟩
set_option maxRecDepth 100000 in
theorem flX12_33 : Cond.fieldLink RX12 33 "KnowsLeastModel" "factMany" "[I" ∈ TB := TB_of (tin_5 (TB_at 171 rfl)) rfl
theorem fX12_33 : GF RX12 33 12 7 := ⟨RX12, TX12, 35, rfl, by decide, uX12, flX12_33⟩
set_option maxRecDepth 100000 in
theorem flX12_83 : Cond.fieldLink RX12 83 "KnowsLeastModel" "taped" "I" ∈ TB := TB_of (tin_5 (TB_at 172 rfl)) rfl
theorem fX12_83 : GF RX12 83 12 8 := ⟨RX12, TX12, 35, rfl, by decide, uX12, flX12_83⟩
theorem wX12_83 : GFw RX12 83 12 8 := ⟨RX12, TX12, 35, tyX12, rfl, by decide, uX12, flX12_83, tyX12_ok, nmX12, rfl, Or.inl rfl⟩
set_option maxRecDepth 100000 in
theorem flX12_101 : Cond.fieldLink RX12 101 "KnowsLeastModel" "at" "I" ∈ TB := TB_of (tin_5 (TB_at 173 rfl)) rfl
theorem fX12_101 : GF RX12 101 12 9 := ⟨RX12, TX12, 35, rfl, by decide, uX12, flX12_101⟩
theorem wX12_101 : GFw RX12 101 12 9 := ⟨RX12, TX12, 35, tyX12, rfl, by decide, uX12, flX12_101, tyX12_ok, nmX12, rfl, Or.inl rfl⟩
set_option maxRecDepth 100000 in
theorem flX12_104 : Cond.fieldLink RX12 104 "KnowsLeastModel" "behind" "I" ∈ TB := TB_of (tin_5 (TB_at 174 rfl)) rfl
theorem fX12_104 : GF RX12 104 12 10 := ⟨RX12, TX12, 35, rfl, by decide, uX12, flX12_104⟩
theorem wX12_104 : GFw RX12 104 12 10 := ⟨RX12, TX12, 35, tyX12, rfl, by decide, uX12, flX12_104, tyX12_ok, nmX12, rfl, Or.inl rfl⟩
set_option maxRecDepth 100000 in
theorem flX12_86 : Cond.fieldLink RX12 86 "KnowsLeastModel" "size" "I" ∈ TB := TB_of (tin_5 (TB_at 175 rfl)) rfl
theorem fX12_86 : GF RX12 86 12 11 := ⟨RX12, TX12, 35, rfl, by decide, uX12, flX12_86⟩
theorem wX12_86 : GFw RX12 86 12 11 := ⟨RX12, TX12, 35, tyX12, rfl, by decide, uX12, flX12_86, tyX12_ok, nmX12, rfl, Or.inl rfl⟩
set_option maxRecDepth 100000 in
theorem flX12_111 : Cond.fieldLink RX12 111 "KnowsLeastModel" "kind" "I" ∈ TB := TB_of (tin_5 (TB_at 176 rfl)) rfl
theorem fX12_111 : GF RX12 111 12 12 := ⟨RX12, TX12, 35, rfl, by decide, uX12, flX12_111⟩
theorem wX12_111 : GFw RX12 111 12 12 := ⟨RX12, TX12, 35, tyX12, rfl, by decide, uX12, flX12_111, tyX12_ok, nmX12, rfl, Or.inl rfl⟩
set_option maxRecDepth 100000 in
theorem flX12_124 : Cond.fieldLink RX12 124 "KnowsLeastModel" "number" "I" ∈ TB := TB_of (tin_5 (TB_at 177 rfl)) rfl
theorem fX12_124 : GF RX12 124 12 13 := ⟨RX12, TX12, 35, rfl, by decide, uX12, flX12_124⟩
theorem wX12_124 : GFw RX12 124 12 13 := ⟨RX12, TX12, 35, tyX12, rfl, by decide, uX12, flX12_124, tyX12_ok, nmX12, rfl, Or.inl rfl⟩
set_option maxRecDepth 100000 in
theorem flX12_129 : Cond.fieldLink RX12 129 "KnowsLeastModel" "wrong" "I" ∈ TB := TB_of (tin_5 (TB_at 178 rfl)) rfl
theorem fX12_129 : GF RX12 129 12 14 := ⟨RX12, TX12, 35, rfl, by decide, uX12, flX12_129⟩
theorem wX12_129 : GFw RX12 129 12 14 := ⟨RX12, TX12, 35, tyX12, rfl, by decide, uX12, flX12_129, tyX12_ok, nmX12, rfl, Or.inl rfl⟩
set_option maxRecDepth 100000 in
theorem flX12_132 : Cond.fieldLink RX12 132 "KnowsLeastModel" "wrongAt" "I" ∈ TB := TB_of (tin_5 (TB_at 179 rfl)) rfl
theorem fX12_132 : GF RX12 132 12 15 := ⟨RX12, TX12, 35, rfl, by decide, uX12, flX12_132⟩
theorem wX12_132 : GFw RX12 132 12 15 := ⟨RX12, TX12, 35, tyX12, rfl, by decide, uX12, flX12_132, tyX12_ok, nmX12, rfl, Or.inl rfl⟩
set_option maxRecDepth 100000 in
theorem flX12_215 : Cond.fieldLink RX12 215 "KnowsLeastModel" "faultKind" "I" ∈ TB := TB_of (tin_5 (TB_at 180 rfl)) rfl
theorem fX12_215 : GF RX12 215 12 16 := ⟨RX12, TX12, 35, rfl, by decide, uX12, flX12_215⟩
theorem wX12_215 : GFw RX12 215 12 16 := ⟨RX12, TX12, 35, tyX12, rfl, by decide, uX12, flX12_215, tyX12_ok, nmX12, rfl, Or.inl rfl⟩
set_option maxRecDepth 100000 in
theorem flX12_36 : Cond.fieldLink RX12 36 "KnowsLeastModel" "faultPlace" "I" ∈ TB := TB_of (tin_5 (TB_at 181 rfl)) rfl
theorem fX12_36 : GF RX12 36 12 17 := ⟨RX12, TX12, 35, rfl, by decide, uX12, flX12_36⟩
theorem wX12_36 : GFw RX12 36 12 17 := ⟨RX12, TX12, 35, tyX12, rfl, by decide, uX12, flX12_36, tyX12_ok, nmX12, rfl, Or.inl rfl⟩
set_option maxRecDepth 100000 in
theorem flX12_156 : Cond.fieldLink RX12 156 "KnowsLeastModel" "codeMany" "I" ∈ TB := TB_of (tin_5 (TB_at 182 rfl)) rfl
theorem fX12_156 : GF RX12 156 12 18 := ⟨RX12, TX12, 35, rfl, by decide, uX12, flX12_156⟩
theorem wX12_156 : GFw RX12 156 12 18 := ⟨RX12, TX12, 35, tyX12, rfl, by decide, uX12, flX12_156, tyX12_ok, nmX12, rfl, Or.inl rfl⟩
set_option maxRecDepth 100000 in
theorem flX12_39 : Cond.fieldLink RX12 39 "KnowsLeastModel" "reckoned" "[I" ∈ TB := TB_of (tin_5 (TB_at 183 rfl)) rfl
theorem fX12_39 : GF RX12 39 12 19 := ⟨RX12, TX12, 35, rfl, by decide, uX12, flX12_39⟩
set_option maxRecDepth 100000 in
theorem flX12_42 : Cond.fieldLink RX12 42 "KnowsLeastModel" "was" "[I" ∈ TB := TB_of (tin_5 (TB_at 184 rfl)) rfl
theorem fX12_42 : GF RX12 42 12 20 := ⟨RX12, TX12, 35, rfl, by decide, uX12, flX12_42⟩
set_option maxRecDepth 100000 in
theorem flX12_45 : Cond.fieldLink RX12 45 "KnowsLeastModel" "heard" "[I" ∈ TB := TB_of (tin_5 (TB_at 185 rfl)) rfl
theorem fX12_45 : GF RX12 45 12 21 := ⟨RX12, TX12, 35, rfl, by decide, uX12, flX12_45⟩
set_option maxRecDepth 100000 in
theorem flX12_278 : Cond.fieldLink RX12 278 "KnowsLeastModel" "knewMany" "I" ∈ TB := TB_of (tin_5 (TB_at 186 rfl)) rfl
theorem fX12_278 : GF RX12 278 12 22 := ⟨RX12, TX12, 35, rfl, by decide, uX12, flX12_278⟩
theorem wX12_278 : GFw RX12 278 12 22 := ⟨RX12, TX12, 35, tyX12, rfl, by decide, uX12, flX12_278, tyX12_ok, nmX12, rfl, Or.inl rfl⟩
set_option maxRecDepth 100000 in
theorem flX12_301 : Cond.fieldLink RX12 301 "KnowsLeastModel" "x" "I" ∈ TB := TB_of (tin_5 (TB_at 187 rfl)) rfl
theorem fX12_301 : GF RX12 301 12 23 := ⟨RX12, TX12, 35, rfl, by decide, uX12, flX12_301⟩
theorem wX12_301 : GFw RX12 301 12 23 := ⟨RX12, TX12, 35, tyX12, rfl, by decide, uX12, flX12_301, tyX12_ok, nmX12, rfl, Or.inl rfl⟩
set_option maxRecDepth 100000 in
theorem flX12_48 : Cond.fieldLink RX12 48 "KnowsLeastModel" "knownOf" "[I" ∈ TB := TB_of (tin_5 (TB_at 188 rfl)) rfl
theorem fX12_48 : GF RX12 48 12 24 := ⟨RX12, TX12, 35, rfl, by decide, uX12, flX12_48⟩
set_option maxRecDepth 100000 in
theorem flX12_51 : Cond.fieldLink RX12 51 "KnowsLeastModel" "sizeOf" "[I" ∈ TB := TB_of (tin_5 (TB_at 189 rfl)) rfl
theorem fX12_51 : GF RX12 51 12 25 := ⟨RX12, TX12, 35, rfl, by decide, uX12, flX12_51⟩
set_option maxRecDepth 100000 in
theorem flX12_54 : Cond.fieldLink RX12 54 "KnowsLeastModel" "leastBy" "[I" ∈ TB := TB_of (tin_5 (TB_at 190 rfl)) rfl
theorem fX12_54 : GF RX12 54 12 26 := ⟨RX12, TX12, 35, rfl, by decide, uX12, flX12_54⟩
set_option maxRecDepth 100000 in
theorem flX12_57 : Cond.fieldLink RX12 57 "KnowsLeastModel" "mostBy" "[I" ∈ TB := TB_of (tin_5 (TB_at 191 rfl)) rfl
theorem fX12_57 : GF RX12 57 12 27 := ⟨RX12, TX12, 35, rfl, by decide, uX12, flX12_57⟩
set_option maxRecDepth 100000 in
theorem flX12_60 : Cond.fieldLink RX12 60 "KnowsLeastModel" "questions" "[I" ∈ TB := TB_of (tin_5 (TB_at 192 rfl)) rfl
theorem fX12_60 : GF RX12 60 12 28 := ⟨RX12, TX12, 35, rfl, by decide, uX12, flX12_60⟩
set_option maxRecDepth 100000 in
theorem flX12_63 : Cond.fieldLink RX12 63 "KnowsLeastModel" "best" "[I" ∈ TB := TB_of (tin_5 (TB_at 193 rfl)) rfl
theorem fX12_63 : GF RX12 63 12 29 := ⟨RX12, TX12, 35, rfl, by decide, uX12, flX12_63⟩
set_option maxRecDepth 100000 in
theorem flX12_66 : Cond.fieldLink RX12 66 "KnowsLeastModel" "judges" "[I" ∈ TB := TB_of (tin_5 (TB_at 194 rfl)) rfl
theorem fX12_66 : GF RX12 66 12 30 := ⟨RX12, TX12, 35, rfl, by decide, uX12, flX12_66⟩
set_option maxRecDepth 100000 in
theorem flX12_70 : Cond.fieldLink RX12 70 "KnowsLeastModel" "worst" "[I" ∈ TB := TB_of (tin_5 (TB_at 195 rfl)) rfl
theorem fX12_70 : GF RX12 70 12 31 := ⟨RX12, TX12, 35, rfl, by decide, uX12, flX12_70⟩
set_option maxRecDepth 100000 in
theorem flX12_73 : Cond.fieldLink RX12 73 "KnowsLeastModel" "rowSort" "[I" ∈ TB := TB_of (tin_5 (TB_at 196 rfl)) rfl
theorem fX12_73 : GF RX12 73 12 32 := ⟨RX12, TX12, 35, rfl, by decide, uX12, flX12_73⟩
set_option maxRecDepth 100000 in
theorem flX12_76 : Cond.fieldLink RX12 76 "KnowsLeastModel" "rowMany" "[I" ∈ TB := TB_of (tin_5 (TB_at 197 rfl)) rfl
theorem fX12_76 : GF RX12 76 12 33 := ⟨RX12, TX12, 35, rfl, by decide, uX12, flX12_76⟩
set_option maxRecDepth 100000 in
theorem flX12_79 : Cond.fieldLink RX12 79 "KnowsLeastModel" "numbers" "[J" ∈ TB := TB_of (tin_5 (TB_at 198 rfl)) rfl
theorem fX12_79 : GF RX12 79 12 34 := ⟨RX12, TX12, 35, rfl, by decide, uX12, flX12_79⟩
set_option maxRecDepth 100000 in
theorem lL_17 : Cond.methodLink RL 17 yX12_feed ∈ TB := TB_of (tin_6 (TB_at 30 rfl)) rfl
set_option maxRecDepth 100000 in
theorem lL_22 : Cond.methodLink RL 22 yX12_land ∈ TB := TB_of (tin_6 (TB_at 34 rfl)) rfl
set_option maxRecDepth 100000 in
theorem lX12_145 : Cond.methodLink RX12 145 yX12_within ∈ TB := TB_of (tin_6 (TB_at 38 rfl)) rfl
set_option maxRecDepth 100000 in
theorem lX12_138 : Cond.methodLink RX12 138 yX12_next ∈ TB := TB_of (tin_6 (TB_at 41 rfl)) rfl
set_option maxRecDepth 100000 in
theorem lX12_107 : Cond.methodLink RX12 107 yX12_see ∈ TB := TB_of (tin_6 (TB_at 45 rfl)) rfl
set_option maxRecDepth 100000 in
theorem lX12_114 : Cond.methodLink RX12 114 yX12_isSmall ∈ TB := TB_of (tin_6 (TB_at 49 rfl)) rfl
set_option maxRecDepth 100000 in
theorem lX12_118 : Cond.methodLink RX12 118 yX12_keyAt ∈ TB := TB_of (tin_6 (TB_at 52 rfl)) rfl
set_option maxRecDepth 100000 in
theorem lX12_91 : Cond.methodLink RX12 91 yJ0_length_8abf5 ∈ TB := TB_of (tin_6 (TB_at 57 rfl)) rfl
set_option maxRecDepth 100000 in
theorem lX12_97 : Cond.methodLink RX12 97 yJ0_charAt_5068e ∈ TB := TB_of (tin_6 (TB_at 58 rfl)) rfl
set_option maxRecDepth 100000 in
theorem lX12_121 : Cond.methodLink RX12 121 yX12_isDigit ∈ TB := TB_of (tin_6 (TB_at 59 rfl)) rfl
set_option maxRecDepth 100000 in
theorem lX12_135 : Cond.methodLink RX12 135 yX12_is ∈ TB := TB_of (tin_6 (TB_at 63 rfl)) rfl
set_option maxRecDepth 100000 in
theorem lX12_200 : Cond.methodLink RX12 200 yX12_readWorld ∈ TB := TB_of (tin_6 (TB_at 67 rfl)) rfl
set_option maxRecDepth 100000 in
theorem lX12_141 : Cond.methodLink RX12 141 yX12_fails ∈ TB := TB_of (tin_6 (TB_at 71 rfl)) rfl
set_option maxRecDepth 100000 in
theorem lX12_149 : Cond.methodLink RX12 149 yX12_takes ∈ TB := TB_of (tin_6 (TB_at 75 rfl)) rfl
set_option maxRecDepth 100000 in
theorem lX12_153 : Cond.methodLink RX12 153 yX12_eats ∈ TB := TB_of (tin_6 (TB_at 79 rfl)) rfl
set_option maxRecDepth 100000 in
theorem lX12_203 : Cond.methodLink RX12 203 yX12_readFact ∈ TB := TB_of (tin_6 (TB_at 83 rfl)) rfl
set_option maxRecDepth 100000 in
theorem lX12_183 : Cond.methodLink RX12 183 yX12_readTruth ∈ TB := TB_of (tin_6 (TB_at 87 rfl)) rfl
set_option maxRecDepth 100000 in
theorem lX12_186 : Cond.methodLink RX12 186 yX12_readBoth ∈ TB := TB_of (tin_6 (TB_at 91 rfl)) rfl
set_option maxRecDepth 100000 in
theorem lX12_180 : Cond.methodLink RX12 180 yX12_readUnit ∈ TB := TB_of (tin_6 (TB_at 95 rfl)) rfl
set_option maxRecDepth 100000 in
theorem lX12_168 : Cond.methodLink RX12 168 yX12_goesIn ∈ TB := TB_of (tin_6 (TB_at 99 rfl)) rfl
set_option maxRecDepth 100000 in
theorem lX12_159 : Cond.methodLink RX12 159 yX12_tells ∈ TB := TB_of (tin_6 (TB_at 103 rfl)) rfl
set_option maxRecDepth 100000 in
theorem lX12_171 : Cond.methodLink RX12 171 yX12_readSum ∈ TB := TB_of (tin_6 (TB_at 107 rfl)) rfl
set_option maxRecDepth 100000 in
theorem lX12_177 : Cond.methodLink RX12 177 yX12_readTerm ∈ TB := TB_of (tin_6 (TB_at 111 rfl)) rfl
set_option maxRecDepth 100000 in
theorem lX12_174 : Cond.methodLink RX12 174 yX12_readAtom ∈ TB := TB_of (tin_6 (TB_at 115 rfl)) rfl
set_option maxRecDepth 100000 in
theorem cvX12_162 : Cond.constantLong RX12 162 (2) ∈ TB := TB_of (tin_6 (TB_at 119 rfl)) rfl
set_option maxRecDepth 100000 in
theorem cvX12_164 : Cond.constantLong RX12 164 (12) ∈ TB := TB_of (tin_6 (TB_at 120 rfl)) rfl
set_option maxRecDepth 100000 in
theorem cvX12_166 : Cond.constantLong RX12 166 (14) ∈ TB := TB_of (tin_6 (TB_at 121 rfl)) rfl
set_option maxRecDepth 100000 in
theorem lX12_206 : Cond.methodLink RX12 206 yX12_readPerson ∈ TB := TB_of (tin_6 (TB_at 122 rfl)) rfl
set_option maxRecDepth 100000 in
theorem lX12_209 : Cond.methodLink RX12 209 yX12_readRoad ∈ TB := TB_of (tin_6 (TB_at 126 rfl)) rfl
set_option maxRecDepth 100000 in
theorem lX12_212 : Cond.methodLink RX12 212 yX12_readHint ∈ TB := TB_of (tin_6 (TB_at 130 rfl)) rfl
set_option maxRecDepth 100000 in
theorem lX12_218 : Cond.methodLink RX12 218 yX12_holdsIn ∈ TB := TB_of (tin_6 (TB_at 134 rfl)) rfl
set_option maxRecDepth 100000 in
theorem lX12_193 : Cond.methodLink RX12 193 yX12_wordOf ∈ TB := TB_of (tin_6 (TB_at 138 rfl)) rfl
set_option maxRecDepth 100000 in
theorem lX12_196 : Cond.methodLink RX12 196 yX12_between ∈ TB := TB_of (tin_6 (TB_at 142 rfl)) rfl
set_option maxRecDepth 100000 in
theorem cvX12_189 : Cond.constantLong RX12 189 (1000000) ∈ TB := TB_of (tin_6 (TB_at 145 rfl)) rfl
set_option maxRecDepth 100000 in
theorem cvX12_191 : Cond.constantLong RX12 191 (-1000000) ∈ TB := TB_of (tin_6 (TB_at 146 rfl)) rfl
set_option maxRecDepth 100000 in
theorem lL_26 : Cond.methodLink RL 26 yX12_fault ∈ TB := TB_of (tin_6 (TB_at 147 rfl)) rfl
set_option maxRecDepth 100000 in
theorem lL_31 : Cond.methodLink RL 31 yX12_world ∈ TB := TB_of (tin_6 (TB_at 151 rfl)) rfl
set_option maxRecDepth 100000 in
theorem lX12_235 : Cond.methodLink RX12 235 yX12_isWorld ∈ TB := TB_of (tin_6 (TB_at 155 rfl)) rfl
set_option maxRecDepth 100000 in
theorem lX12_238 : Cond.methodLink RX12 238 yX12_factsOf ∈ TB := TB_of (tin_6 (TB_at 159 rfl)) rfl
set_option maxRecDepth 100000 in
theorem lX12_222 : Cond.methodLink RX12 222 yX12_isIn ∈ TB := TB_of (tin_6 (TB_at 163 rfl)) rfl
set_option maxRecDepth 100000 in
theorem lL_35 : Cond.methodLink RL 35 yX12_fact ∈ TB := TB_of (tin_6 (TB_at 166 rfl)) rfl
set_option maxRecDepth 100000 in
theorem lX12_241 : Cond.methodLink RX12 241 yX12_isFact ∈ TB := TB_of (tin_6 (TB_at 170 rfl)) rfl
set_option maxRecDepth 100000 in
theorem lL_39 : Cond.methodLink RL 39 yX12_person ∈ TB := TB_of (tin_6 (TB_at 174 rfl)) rfl
set_option maxRecDepth 100000 in
theorem lX12_245 : Cond.methodLink RX12 245 yX12_isPerson ∈ TB := TB_of (tin_6 (TB_at 178 rfl)) rfl
set_option maxRecDepth 100000 in
theorem lX12_248 : Cond.methodLink RX12 248 yX12_cellNow ∈ TB := TB_of (tin_6 (TB_at 182 rfl)) rfl
set_option maxRecDepth 100000 in
theorem lX12_232 : Cond.methodLink RX12 232 yX12_cellOf ∈ TB := TB_of (tin_6 (TB_at 186 rfl)) rfl
set_option maxRecDepth 100000 in
theorem lX12_226 : Cond.methodLink RX12 226 yX12_worlds ∈ TB := TB_of (tin_6 (TB_at 190 rfl)) rfl
set_option maxRecDepth 100000 in
theorem lX12_251 : Cond.methodLink RX12 251 yX12_knownIn ∈ TB := TB_of (tin_6 (TB_at 194 rfl)) rfl
set_option maxRecDepth 100000 in
theorem lX12_229 : Cond.methodLink RX12 229 yX12_isPlain ∈ TB := TB_of (tin_6 (TB_at 198 rfl)) rfl
set_option maxRecDepth 100000 in
theorem lX12_254 : Cond.methodLink RX12 254 yX12_guilty ∈ TB := TB_of (tin_6 (TB_at 201 rfl)) rfl
set_option maxRecDepth 100000 in
theorem lL_43 : Cond.methodLink RL 43 yX12_hints ∈ TB := TB_of (tin_6 (TB_at 205 rfl)) rfl
set_option maxRecDepth 100000 in
theorem lL_47 : Cond.methodLink RL 47 yX12_knows ∈ TB := TB_of (tin_6 (TB_at 209 rfl)) rfl
set_option maxRecDepth 100000 in
theorem lL_51 : Cond.methodLink RL 51 yX12_cell ∈ TB := TB_of (tin_6 (TB_at 213 rfl)) rfl
set_option maxRecDepth 100000 in
theorem lL_55 : Cond.methodLink RL 55 yX12_tell ∈ TB := TB_of (tin_6 (TB_at 217 rfl)) rfl
set_option maxRecDepth 100000 in
theorem lX12_260 : Cond.methodLink RX12 260 yX12_keeps ∈ TB := TB_of (tin_6 (TB_at 221 rfl)) rfl
set_option maxRecDepth 100000 in
theorem lX12_263 : Cond.methodLink RX12 263 yX12_notes ∈ TB := TB_of (tin_6 (TB_at 225 rfl)) rfl
set_option maxRecDepth 100000 in
theorem lX12_266 : Cond.methodLink RX12 266 yX12_bitsOf ∈ TB := TB_of (tin_6 (TB_at 229 rfl)) rfl
set_option maxRecDepth 100000 in
theorem lL_59 : Cond.methodLink RL 59 yX12_ask ∈ TB := TB_of (tin_6 (TB_at 232 rfl)) rfl
set_option maxRecDepth 100000 in
theorem lX12_269 : Cond.methodLink RX12 269 yX12_asks ∈ TB := TB_of (tin_6 (TB_at 236 rfl)) rfl
set_option maxRecDepth 100000 in
theorem lX12_257 : Cond.methodLink RX12 257 yX12_knowsNow ∈ TB := TB_of (tin_7 (TB_at 0 rfl)) rfl
set_option maxRecDepth 100000 in
theorem lL_63 : Cond.methodLink RL 63 yX12_days ∈ TB := TB_of (tin_7 (TB_at 4 rfl)) rfl
set_option maxRecDepth 100000 in
theorem cvX12_272 : Cond.constantLong RX12 272 (60) ∈ TB := TB_of (tin_7 (TB_at 8 rfl)) rfl
set_option maxRecDepth 100000 in
theorem lX12_274 : Cond.methodLink RX12 274 yX12_daysOne ∈ TB := TB_of (tin_7 (TB_at 9 rfl)) rfl
set_option maxRecDepth 100000 in
theorem lL_67 : Cond.methodLink RL 67 yX12_isTrue ∈ TB := TB_of (tin_7 (TB_at 13 rfl)) rfl
set_option maxRecDepth 100000 in
theorem lL_71 : Cond.methodLink RL 71 yX12_undo ∈ TB := TB_of (tin_7 (TB_at 17 rfl)) rfl
set_option maxRecDepth 100000 in
theorem lL_75 : Cond.methodLink RL 75 yX12_judge ∈ TB := TB_of (tin_7 (TB_at 21 rfl)) rfl
set_option maxRecDepth 100000 in
theorem cvX12_289 : Cond.constantLong RX12 289 (3) ∈ TB := TB_of (tin_7 (TB_at 25 rfl)) rfl
set_option maxRecDepth 100000 in
theorem lX12_291 : Cond.methodLink RX12 291 yX12_doesAll ∈ TB := TB_of (tin_7 (TB_at 26 rfl)) rfl
set_option maxRecDepth 100000 in
theorem cvX12_281 : Cond.constantLong RX12 281 (-1) ∈ TB := TB_of (tin_7 (TB_at 30 rfl)) rfl
set_option maxRecDepth 100000 in
theorem cvX12_283 : Cond.constantLong RX12 283 (100) ∈ TB := TB_of (tin_7 (TB_at 31 rfl)) rfl
set_option maxRecDepth 100000 in
theorem cvX12_285 : Cond.constantLong RX12 285 (10) ∈ TB := TB_of (tin_7 (TB_at 32 rfl)) rfl
set_option maxRecDepth 100000 in
theorem cvX12_287 : Cond.constantLong RX12 287 (199) ∈ TB := TB_of (tin_7 (TB_at 33 rfl)) rfl
set_option maxRecDepth 100000 in
theorem lX12_294 : Cond.methodLink RX12 294 yX12_leastOf ∈ TB := TB_of (tin_7 (TB_at 34 rfl)) rfl
set_option maxRecDepth 100000 in
theorem lX12_324 : Cond.methodLink RX12 324 yX12_measureOf ∈ TB := TB_of (tin_7 (TB_at 38 rfl)) rfl
set_option maxRecDepth 100000 in
theorem lX12_321 : Cond.methodLink RX12 321 yX12_weightOf ∈ TB := TB_of (tin_7 (TB_at 42 rfl)) rfl
set_option maxRecDepth 100000 in
theorem lX12_297 : Cond.methodLink RX12 297 yX12_isAgain ∈ TB := TB_of (tin_7 (TB_at 46 rfl)) rfl
set_option maxRecDepth 100000 in
theorem lL_79 : Cond.methodLink RL 79 yX12_perform ∈ TB := TB_of (tin_7 (TB_at 50 rfl)) rfl
set_option maxRecDepth 100000 in
theorem lL_83 : Cond.methodLink RL 83 yX12_year ∈ TB := TB_of (tin_7 (TB_at 54 rfl)) rfl
set_option maxRecDepth 100000 in
theorem lX12_307 : Cond.methodLink RX12 307 yX12_comes ∈ TB := TB_of (tin_7 (TB_at 58 rfl)) rfl
set_option maxRecDepth 100000 in
theorem lX12_304 : Cond.methodLink RX12 304 yX12_draw ∈ TB := TB_of (tin_7 (TB_at 62 rfl)) rfl
set_option maxRecDepth 100000 in
theorem cvX12_300 : Cond.constant RX12 300 (1103515245) ∈ TB := TB_of (tin_7 (TB_at 66 rfl)) rfl
set_option maxRecDepth 100000 in
theorem lL_87 : Cond.methodLink RL 87 yX12_everyone ∈ TB := TB_of (tin_7 (TB_at 67 rfl)) rfl
set_option maxRecDepth 100000 in
theorem lL_91 : Cond.methodLink RL 91 yX12_depth ∈ TB := TB_of (tin_7 (TB_at 71 rfl)) rfl
set_option maxRecDepth 100000 in
theorem lX12_313 : Cond.methodLink RX12 313 yX12_depthOf ∈ TB := TB_of (tin_7 (TB_at 75 rfl)) rfl
set_option maxRecDepth 100000 in
theorem lX12_310 : Cond.methodLink RX12 310 yX12_knownBy ∈ TB := TB_of (tin_7 (TB_at 79 rfl)) rfl
set_option maxRecDepth 100000 in
theorem lL_96 : Cond.methodLink RL 96 yX12_common ∈ TB := TB_of (tin_7 (TB_at 83 rfl)) rfl
set_option maxRecDepth 100000 in
theorem lL_100 : Cond.methodLink RL 100 yX12_reach ∈ TB := TB_of (tin_7 (TB_at 87 rfl)) rfl
set_option maxRecDepth 100000 in
theorem cvX12_316 : Cond.constantLong RX12 316 (20) ∈ TB := TB_of (tin_7 (TB_at 91 rfl)) rfl
set_option maxRecDepth 100000 in
theorem lL_104 : Cond.methodLink RL 104 yX12_together ∈ TB := TB_of (tin_7 (TB_at 92 rfl)) rfl
set_option maxRecDepth 100000 in
theorem lX12_318 : Cond.methodLink RX12 318 yX12_togetherOf ∈ TB := TB_of (tin_7 (TB_at 96 rfl)) rfl
set_option maxRecDepth 100000 in
theorem lL_108 : Cond.methodLink RL 108 yX12_witnesses ∈ TB := TB_of (tin_7 (TB_at 100 rfl)) rfl
set_option maxRecDepth 100000 in
theorem lL_112 : Cond.methodLink RL 112 yX12_parting ∈ TB := TB_of (tin_7 (TB_at 104 rfl)) rfl
set_option maxRecDepth 100000 in
theorem lL_116 : Cond.methodLink RL 116 yX12_measure ∈ TB := TB_of (tin_7 (TB_at 108 rfl)) rfl
set_option maxRecDepth 100000 in
theorem lX12_327 : Cond.methodLink RX12 327 yX12_measureNow ∈ TB := TB_of (tin_7 (TB_at 112 rfl)) rfl
set_option maxRecDepth 100000 in
theorem lL_120 : Cond.methodLink RL 120 yX12_least ∈ TB := TB_of (tin_7 (TB_at 116 rfl)) rfl
set_option maxRecDepth 100000 in
theorem lL_124 : Cond.methodLink RL 124 yX12_seats ∈ TB := TB_of (tin_7 (TB_at 120 rfl)) rfl
set_option maxRecDepth 100000 in
theorem lL_128 : Cond.methodLink RL 128 yX12_differ ∈ TB := TB_of (tin_7 (TB_at 124 rfl)) rfl
set_option maxRecDepth 100000 in
theorem lL_132 : Cond.methodLink RL 132 yX12_shown ∈ TB := TB_of (tin_7 (TB_at 128 rfl)) rfl
set_option maxRecDepth 100000 in
theorem lX12_347 : Cond.methodLink RX12 347 yX12_laysShown ∈ TB := TB_of (tin_7 (TB_at 132 rfl)) rfl
set_option maxRecDepth 100000 in
theorem lX12_338 : Cond.methodLink RX12 338 yX12_laysTold ∈ TB := TB_of (tin_7 (TB_at 136 rfl)) rfl
set_option maxRecDepth 100000 in
theorem lX12_330 : Cond.methodLink RX12 330 yX12_couldBe ∈ TB := TB_of (tin_7 (TB_at 140 rfl)) rfl
set_option maxRecDepth 100000 in
theorem lX12_341 : Cond.methodLink RX12 341 yX12_askedFor ∈ TB := TB_of (tin_7 (TB_at 144 rfl)) rfl
set_option maxRecDepth 100000 in
theorem lX12_344 : Cond.methodLink RX12 344 yX12_isBetter ∈ TB := TB_of (tin_7 (TB_at 148 rfl)) rfl
set_option maxRecDepth 100000 in
theorem lX12_334 : Cond.methodLink RX12 334 yX12_askedMany ∈ TB := TB_of (tin_7 (TB_at 152 rfl)) rfl
set_option maxRecDepth 100000 in
theorem lL_137 : Cond.methodLink RL 137 yX12_appeals ∈ TB := TB_of (tin_7 (TB_at 156 rfl)) rfl
set_option maxRecDepth 100000 in
theorem lL_142 : Cond.methodLink RL 142 yX12_parties ∈ TB := TB_of (tin_7 (TB_at 160 rfl)) rfl
set_option maxRecDepth 100000 in
theorem lX12_350 : Cond.methodLink RX12 350 yX12_choices ∈ TB := TB_of (tin_7 (TB_at 164 rfl)) rfl
set_option maxRecDepth 100000 in
theorem lX12_353 : Cond.methodLink RX12 353 yX12_tellsChoice ∈ TB := TB_of (tin_7 (TB_at 168 rfl)) rfl
set_option maxRecDepth 100000 in
theorem lX12_356 : Cond.methodLink RX12 356 yX12_isRest ∈ TB := TB_of (tin_7 (TB_at 172 rfl)) rfl
set_option maxRecDepth 100000 in
theorem lX12_360 : Cond.methodLink RX12 360 yX12_codeOf ∈ TB := TB_of (tin_7 (TB_at 176 rfl)) rfl
set_option maxRecDepth 100000 in
theorem lL_146 : Cond.methodLink RL 146 yX12_inform ∈ TB := TB_of (tin_7 (TB_at 180 rfl)) rfl
set_option maxRecDepth 100000 in
theorem lL_150 : Cond.methodLink RL 150 yX12_trial ∈ TB := TB_of (tin_7 (TB_at 184 rfl)) rfl
set_option maxRecDepth 100000 in
theorem lX12_366 : Cond.methodLink RX12 366 yX12_worstOf ∈ TB := TB_of (tin_7 (TB_at 188 rfl)) rfl
set_option maxRecDepth 100000 in
theorem lX12_363 : Cond.methodLink RX12 363 yX12_worstBy ∈ TB := TB_of (tin_7 (TB_at 192 rfl)) rfl
set_option maxRecDepth 100000 in
theorem lL_154 : Cond.methodLink RL 154 yX12_brief ∈ TB := TB_of (tin_7 (TB_at 196 rfl)) rfl
set_option maxRecDepth 100000 in
theorem lL_158 : Cond.methodLink RL 158 yX12_right ∈ TB := TB_of (tin_7 (TB_at 200 rfl)) rfl
set_option maxRecDepth 100000 in
theorem lX12_369 : Cond.methodLink RX12 369 yX12_isRight ∈ TB := TB_of (tin_7 (TB_at 204 rfl)) rfl
set_option maxRecDepth 100000 in
theorem lL_162 : Cond.methodLink RL 162 yX12_justice ∈ TB := TB_of (tin_7 (TB_at 208 rfl)) rfl
set_option maxRecDepth 100000 in
theorem lX12_372 : Cond.methodLink RX12 372 yX12_justiceOf ∈ TB := TB_of (tin_7 (TB_at 212 rfl)) rfl
set_option maxRecDepth 100000 in
theorem lL_166 : Cond.methodLink RL 166 yX12_bestLaw ∈ TB := TB_of (tin_7 (TB_at 216 rfl)) rfl
set_option maxRecDepth 100000 in
theorem lL_170 : Cond.methodLink RL 170 yX12_news ∈ TB := TB_of (tin_7 (TB_at 220 rfl)) rfl
set_option maxRecDepth 100000 in
theorem lX12_375 : Cond.methodLink RX12 375 yX12_newsOf ∈ TB := TB_of (tin_7 (TB_at 224 rfl)) rfl
set_option maxRecDepth 100000 in
theorem lL_174 : Cond.methodLink RL 174 yX12_latest ∈ TB := TB_of (tin_7 (TB_at 228 rfl)) rfl
set_option maxRecDepth 100000 in
theorem lL_178 : Cond.methodLink RL 178 yX12_leastIn ∈ TB := TB_of (tin_7 (TB_at 232 rfl)) rfl
set_option maxRecDepth 100000 in
theorem lL_182 : Cond.methodLink RL 182 yX12_calm ∈ TB := TB_of (tin_7 (TB_at 236 rfl)) rfl
set_option maxRecDepth 100000 in
theorem lL_186 : Cond.methodLink RL 186 yX12_fitting ∈ TB := TB_of (tin_8 (TB_at 0 rfl)) rfl
set_option maxRecDepth 100000 in
theorem lX12_380 : Cond.methodLink RX12 380 yX12_noRow ∈ TB := TB_of (tin_8 (TB_at 4 rfl)) rfl
set_option maxRecDepth 100000 in
theorem cvX12_378 : Cond.constantLong RX12 378 (8) ∈ TB := TB_of (tin_8 (TB_at 8 rfl)) rfl
set_option maxRecDepth 100000 in
theorem lX12_383 : Cond.methodLink RX12 383 yX12_isFit ∈ TB := TB_of (tin_8 (TB_at 9 rfl)) rfl
set_option maxRecDepth 100000 in
theorem lL_190 : Cond.methodLink RL 190 yX12_sure ∈ TB := TB_of (tin_8 (TB_at 13 rfl)) rfl
set_option maxRecDepth 100000 in
theorem lL_194 : Cond.methodLink RL 194 yX12_questions ∈ TB := TB_of (tin_8 (TB_at 17 rfl)) rfl
set_option maxRecDepth 100000 in
theorem cvX12_389 : Cond.constantLong RX12 389 (4) ∈ TB := TB_of (tin_8 (TB_at 21 rfl)) rfl
set_option maxRecDepth 100000 in
theorem lX12_386 : Cond.methodLink RX12 386 yX12_rowsFrom ∈ TB := TB_of (tin_8 (TB_at 22 rfl)) rfl
set_option maxRecDepth 100000 in
theorem lL_198 : Cond.methodLink RL 198 yX12_numbers ∈ TB := TB_of (tin_8 (TB_at 26 rfl)) rfl
set_option maxRecDepth 100000 in
theorem cvX12_391 : Cond.constantLong RX12 391 (40) ∈ TB := TB_of (tin_8 (TB_at 30 rfl)) rfl
set_option maxRecDepth 100000 in
theorem lL_205 : Cond.methodLink RL 205 yX12_write ∈ TB := TB_of (tin_8 (TB_at 31 rfl)) rfl
set_option maxRecDepth 100000 in
theorem cvX12_393 : Cond.constantLong RX12 393 (-2) ∈ TB := TB_of (tin_8 (TB_at 35 rfl)) rfl
set_option maxRecDepth 100000 in
theorem cvX12_395 : Cond.constantLong RX12 395 (-6) ∈ TB := TB_of (tin_8 (TB_at 36 rfl)) rfl
set_option maxRecDepth 100000 in
theorem cvX12_397 : Cond.constantLong RX12 397 (-7) ∈ TB := TB_of (tin_8 (TB_at 37 rfl)) rfl
set_option maxRecDepth 100000 in
theorem lX12_399 : Cond.methodLink RX12 399 yX12_cut ∈ TB := TB_of (tin_8 (TB_at 38 rfl)) rfl
set_option maxRecDepth 100000 in
theorem lL_209 : Cond.methodLink RL 209 yX12_copy ∈ TB := TB_of (tin_8 (TB_at 41 rfl)) rfl
set_option maxRecDepth 100000 in
theorem lL_213 : Cond.methodLink RL 213 yX12_image ∈ TB := TB_of (tin_8 (TB_at 45 rfl)) rfl
set_option maxRecDepth 100000 in
theorem lL_217 : Cond.methodLink RL 217 yX12_restore ∈ TB := TB_of (tin_8 (TB_at 49 rfl)) rfl
set_option maxRecDepth 100000 in
theorem lL_221 : Cond.methodLink RL 221 yX12_count ∈ TB := TB_of (tin_8 (TB_at 53 rfl)) rfl
set_option maxRecDepth 100000 in
theorem lX12_403 : Cond.methodLink RX12 403 yX12_roadMany ∈ TB := TB_of (tin_8 (TB_at 57 rfl)) rfl
set_option maxRecDepth 100000 in
theorem cvL_199 : Cond.constantLong RL 199 (4294967295) ∈ TB := TB_of (tin_8 (TB_at 61 rfl)) rfl
set_option maxRecDepth 100000 in
theorem flJ0_9 : Cond.fieldLink RJ0 9 "java/lang/String" "value" "[B" ∈ TB := TB_of (tin_8 (TB_at 62 rfl)) rfl
set_option maxRecDepth 100000 in
theorem flJ0_15 : Cond.fieldLink RJ0 15 "java/lang/String" "coder" "B" ∈ TB := TB_of (tin_8 (TB_at 63 rfl)) rfl
set_option maxRecDepth 100000 in
theorem cp_nat : Cond.native arraycopyName ∈ TB := TB_of (tin_3 (TB_at 147 rfl)) rfl
set_option maxRecDepth 100000 in
theorem cp_st : Cond.static arraycopyName ∈ TB := TB_of (tin_3 (TB_at 146 rfl)) rfl
set_option maxRecDepth 100000 in
theorem lX2_49 : Cond.methodLink RX2 49 arraycopyName ∈ TB := TB_of (tin_3 (TB_at 145 rfl)) rfl
set_option maxRecDepth 100000 in
theorem lX8_28 : Cond.methodLink RX8 28 arraycopyName ∈ TB := TB_of (tin_3 (TB_at 152 rfl)) rfl
set_option maxRecDepth 100000 in
theorem lX4_19 : Cond.methodLink RX4 19 arraycopyName ∈ TB := TB_of (tin_3 (TB_at 238 rfl)) rfl
set_option maxRecDepth 100000 in
theorem lX3_51 : Cond.methodLink RX3 51 arraycopyName ∈ TB := TB_of (tin_4 (TB_at 229 rfl)) rfl
theorem tfX0_3 : ∃ C T N, vwCl[0]? = some (C, T, N) ∧ parseFieldDescriptor (T 3).2.2.1 = some .int := ⟨_, _, _, rfl, by decide +kernel⟩
theorem tfX2_5 : ∃ C T N, vwCl[2]? = some (C, T, N) ∧ parseFieldDescriptor (T 5).2.2.1 = some .int := ⟨_, _, _, rfl, by decide +kernel⟩
theorem tfX2_6 : ∃ C T N, vwCl[2]? = some (C, T, N) ∧ parseFieldDescriptor (T 6).2.2.1 = some .int := ⟨_, _, _, rfl, by decide +kernel⟩
theorem tfX2_7 : ∃ C T N, vwCl[2]? = some (C, T, N) ∧ parseFieldDescriptor (T 7).2.2.1 = some .int := ⟨_, _, _, rfl, by decide +kernel⟩
theorem tfX2_8 : ∃ C T N, vwCl[2]? = some (C, T, N) ∧ parseFieldDescriptor (T 8).2.2.1 = some .int := ⟨_, _, _, rfl, by decide +kernel⟩
theorem tfX2_9 : ∃ C T N, vwCl[2]? = some (C, T, N) ∧ parseFieldDescriptor (T 9).2.2.1 = some .int := ⟨_, _, _, rfl, by decide +kernel⟩
theorem tfX3_4 : ∃ C T N, vwCl[3]? = some (C, T, N) ∧ parseFieldDescriptor (T 4).2.2.1 = some .int := ⟨_, _, _, rfl, by decide +kernel⟩
theorem tfX3_5 : ∃ C T N, vwCl[3]? = some (C, T, N) ∧ parseFieldDescriptor (T 5).2.2.1 = some .int := ⟨_, _, _, rfl, by decide +kernel⟩
theorem tfX3_6 : ∃ C T N, vwCl[3]? = some (C, T, N) ∧ parseFieldDescriptor (T 6).2.2.1 = some .int := ⟨_, _, _, rfl, by decide +kernel⟩
theorem tfX3_7 : ∃ C T N, vwCl[3]? = some (C, T, N) ∧ parseFieldDescriptor (T 7).2.2.1 = some .int := ⟨_, _, _, rfl, by decide +kernel⟩
theorem tfX3_8 : ∃ C T N, vwCl[3]? = some (C, T, N) ∧ parseFieldDescriptor (T 8).2.2.1 = some .int := ⟨_, _, _, rfl, by decide +kernel⟩
theorem tfX4_1 : ∃ C T N, vwCl[4]? = some (C, T, N) ∧ parseFieldDescriptor (T 1).2.2.1 = some .int := ⟨_, _, _, rfl, by decide +kernel⟩
theorem tfX5_4 : ∃ C T N, vwCl[5]? = some (C, T, N) ∧ parseFieldDescriptor (T 4).2.2.1 = some .int := ⟨_, _, _, rfl, by decide +kernel⟩
theorem tfX5_5 : ∃ C T N, vwCl[5]? = some (C, T, N) ∧ parseFieldDescriptor (T 5).2.2.1 = some .int := ⟨_, _, _, rfl, by decide +kernel⟩
theorem tfX5_6 : ∃ C T N, vwCl[5]? = some (C, T, N) ∧ parseFieldDescriptor (T 6).2.2.1 = some .int := ⟨_, _, _, rfl, by decide +kernel⟩
theorem tfX6_1 : ∃ C T N, vwCl[6]? = some (C, T, N) ∧ parseFieldDescriptor (T 1).2.2.1 = some .int := ⟨_, _, _, rfl, by decide +kernel⟩
theorem tfX6_2 : ∃ C T N, vwCl[6]? = some (C, T, N) ∧ parseFieldDescriptor (T 2).2.2.1 = some .int := ⟨_, _, _, rfl, by decide +kernel⟩
theorem tfX7_5 : ∃ C T N, vwCl[7]? = some (C, T, N) ∧ parseFieldDescriptor (T 5).2.2.1 = some .int := ⟨_, _, _, rfl, by decide +kernel⟩
theorem tfX8_2 : ∃ C T N, vwCl[8]? = some (C, T, N) ∧ parseFieldDescriptor (T 2).2.2.1 = some .int := ⟨_, _, _, rfl, by decide +kernel⟩
theorem tfX8_3 : ∃ C T N, vwCl[8]? = some (C, T, N) ∧ parseFieldDescriptor (T 3).2.2.1 = some .int := ⟨_, _, _, rfl, by decide +kernel⟩
theorem tfX9_3 : ∃ C T N, vwCl[9]? = some (C, T, N) ∧ parseFieldDescriptor (T 3).2.2.1 = some .int := ⟨_, _, _, rfl, by decide +kernel⟩
theorem tfX10_1 : ∃ C T N, vwCl[10]? = some (C, T, N) ∧ parseFieldDescriptor (T 1).2.2.1 = some .int := ⟨_, _, _, rfl, by decide +kernel⟩
theorem tfX11_11 : ∃ C T N, vwCl[11]? = some (C, T, N) ∧ parseFieldDescriptor (T 11).2.2.1 = some .int := ⟨_, _, _, rfl, by decide +kernel⟩
theorem tfX12_0 : ∃ C T N, vwCl[12]? = some (C, T, N) ∧ parseFieldDescriptor (T 0).2.2.1 = some .int := ⟨_, _, _, rfl, by decide +kernel⟩
theorem tfX12_8 : ∃ C T N, vwCl[12]? = some (C, T, N) ∧ parseFieldDescriptor (T 8).2.2.1 = some .int := ⟨_, _, _, rfl, by decide +kernel⟩
theorem tfX12_9 : ∃ C T N, vwCl[12]? = some (C, T, N) ∧ parseFieldDescriptor (T 9).2.2.1 = some .int := ⟨_, _, _, rfl, by decide +kernel⟩
theorem tfX12_10 : ∃ C T N, vwCl[12]? = some (C, T, N) ∧ parseFieldDescriptor (T 10).2.2.1 = some .int := ⟨_, _, _, rfl, by decide +kernel⟩
theorem tfX12_11 : ∃ C T N, vwCl[12]? = some (C, T, N) ∧ parseFieldDescriptor (T 11).2.2.1 = some .int := ⟨_, _, _, rfl, by decide +kernel⟩
theorem tfX12_12 : ∃ C T N, vwCl[12]? = some (C, T, N) ∧ parseFieldDescriptor (T 12).2.2.1 = some .int := ⟨_, _, _, rfl, by decide +kernel⟩
theorem tfX12_13 : ∃ C T N, vwCl[12]? = some (C, T, N) ∧ parseFieldDescriptor (T 13).2.2.1 = some .int := ⟨_, _, _, rfl, by decide +kernel⟩
theorem tfX12_14 : ∃ C T N, vwCl[12]? = some (C, T, N) ∧ parseFieldDescriptor (T 14).2.2.1 = some .int := ⟨_, _, _, rfl, by decide +kernel⟩
theorem tfX12_15 : ∃ C T N, vwCl[12]? = some (C, T, N) ∧ parseFieldDescriptor (T 15).2.2.1 = some .int := ⟨_, _, _, rfl, by decide +kernel⟩
theorem tfX12_16 : ∃ C T N, vwCl[12]? = some (C, T, N) ∧ parseFieldDescriptor (T 16).2.2.1 = some .int := ⟨_, _, _, rfl, by decide +kernel⟩
theorem tfX12_17 : ∃ C T N, vwCl[12]? = some (C, T, N) ∧ parseFieldDescriptor (T 17).2.2.1 = some .int := ⟨_, _, _, rfl, by decide +kernel⟩
theorem tfX12_18 : ∃ C T N, vwCl[12]? = some (C, T, N) ∧ parseFieldDescriptor (T 18).2.2.1 = some .int := ⟨_, _, _, rfl, by decide +kernel⟩
theorem tfX12_22 : ∃ C T N, vwCl[12]? = some (C, T, N) ∧ parseFieldDescriptor (T 22).2.2.1 = some .int := ⟨_, _, _, rfl, by decide +kernel⟩
theorem tfX12_23 : ∃ C T N, vwCl[12]? = some (C, T, N) ∧ parseFieldDescriptor (T 23).2.2.1 = some .int := ⟨_, _, _, rfl, by decide +kernel⟩
end
section
/-! ===== the cells by their numbers ===== -/
abbrev ST : Type := Nat → Nat → Int32
abbrev SL : Type := Nat → Nat → Int64
def fl0 (b a : Nat) (f : Nat → Int32) : List Value := [.ref (b + (a + 1)), .ref (b + (a + 2)), .ref (b + (a + 3)), .int (f 3)]
theorem fl0_s3 {b a : Nat} (f : Nat → Int32) (x : Int32) : (fl0 b a f).set 3 (.int x) = fl0 b a (upd f 3 x) := rfl
def fl1 (b a : Nat) (f : Nat → Int32) : List Value := [.ref (b + (a + 1)), .ref (b + (a + 7)), .int (f 2)]
theorem fl1_s2 {b a : Nat} (f : Nat → Int32) (x : Int32) : (fl1 b a f).set 2 (.int x) = fl1 b a (upd f 2 x) := rfl
def fl2 (b a : Nat) (f : Nat → Int32) : List Value := [.ref (b + (a + 1)), .ref (b + (a + 2)), .ref (b + (a + 3)), .ref (b + (a + 4)), .ref (b + (a + 5)), .int (f 5), .int (f 6), .int (f 7), .int (f 8), .int (f 9)]
theorem fl2_s5 {b a : Nat} (f : Nat → Int32) (x : Int32) : (fl2 b a f).set 5 (.int x) = fl2 b a (upd f 5 x) := rfl
theorem fl2_s6 {b a : Nat} (f : Nat → Int32) (x : Int32) : (fl2 b a f).set 6 (.int x) = fl2 b a (upd f 6 x) := rfl
theorem fl2_s7 {b a : Nat} (f : Nat → Int32) (x : Int32) : (fl2 b a f).set 7 (.int x) = fl2 b a (upd f 7 x) := rfl
theorem fl2_s8 {b a : Nat} (f : Nat → Int32) (x : Int32) : (fl2 b a f).set 8 (.int x) = fl2 b a (upd f 8 x) := rfl
theorem fl2_s9 {b a : Nat} (f : Nat → Int32) (x : Int32) : (fl2 b a f).set 9 (.int x) = fl2 b a (upd f 9 x) := rfl
def fl3 (b a : Nat) (f : Nat → Int32) : List Value := [.ref (b + (a + 1)), .ref (b + (a + 2)), .ref (b + (a + 3)), .ref (b + (a + 4)), .int (f 4), .int (f 5), .int (f 6), .int (f 7), .int (f 8)]
theorem fl3_s4 {b a : Nat} (f : Nat → Int32) (x : Int32) : (fl3 b a f).set 4 (.int x) = fl3 b a (upd f 4 x) := rfl
theorem fl3_s5 {b a : Nat} (f : Nat → Int32) (x : Int32) : (fl3 b a f).set 5 (.int x) = fl3 b a (upd f 5 x) := rfl
theorem fl3_s6 {b a : Nat} (f : Nat → Int32) (x : Int32) : (fl3 b a f).set 6 (.int x) = fl3 b a (upd f 6 x) := rfl
theorem fl3_s7 {b a : Nat} (f : Nat → Int32) (x : Int32) : (fl3 b a f).set 7 (.int x) = fl3 b a (upd f 7 x) := rfl
theorem fl3_s8 {b a : Nat} (f : Nat → Int32) (x : Int32) : (fl3 b a f).set 8 (.int x) = fl3 b a (upd f 8 x) := rfl
def fl4 (b a : Nat) (f : Nat → Int32) : List Value := [.ref (b + (a + 1)), .int (f 1)]
theorem fl4_s1 {b a : Nat} (f : Nat → Int32) (x : Int32) : (fl4 b a f).set 1 (.int x) = fl4 b a (upd f 1 x) := rfl
def fl5 (b a : Nat) (f : Nat → Int32) : List Value := [.ref (b + (a + 1)), .ref (b + (a + 5)), .ref (b + (a + 9)), .ref (b + (a + 15)), .int (f 4), .int (f 5), .int (f 6)]
theorem fl5_s4 {b a : Nat} (f : Nat → Int32) (x : Int32) : (fl5 b a f).set 4 (.int x) = fl5 b a (upd f 4 x) := rfl
theorem fl5_s5 {b a : Nat} (f : Nat → Int32) (x : Int32) : (fl5 b a f).set 5 (.int x) = fl5 b a (upd f 5 x) := rfl
theorem fl5_s6 {b a : Nat} (f : Nat → Int32) (x : Int32) : (fl5 b a f).set 6 (.int x) = fl5 b a (upd f 6 x) := rfl
def fl6 (b a : Nat) (f : Nat → Int32) : List Value := [.ref (b + (a + 1)), .int (f 1), .int (f 2)]
theorem fl6_s1 {b a : Nat} (f : Nat → Int32) (x : Int32) : (fl6 b a f).set 1 (.int x) = fl6 b a (upd f 1 x) := rfl
theorem fl6_s2 {b a : Nat} (f : Nat → Int32) (x : Int32) : (fl6 b a f).set 2 (.int x) = fl6 b a (upd f 2 x) := rfl
def fl7 (b a : Nat) (f : Nat → Int32) : List Value := [.ref (b + (a + 1)), .ref (b + (a + 2)), .ref (b + (a + 3)), .ref (b + (a + 4)), .ref (b + (a + 5)), .int (f 5)]
theorem fl7_s5 {b a : Nat} (f : Nat → Int32) (x : Int32) : (fl7 b a f).set 5 (.int x) = fl7 b a (upd f 5 x) := rfl
def fl8 (b a : Nat) (f : Nat → Int32) : List Value := [.ref (b + (a + 1)), .ref (b + (a + 2)), .int (f 2), .int (f 3)]
theorem fl8_s2 {b a : Nat} (f : Nat → Int32) (x : Int32) : (fl8 b a f).set 2 (.int x) = fl8 b a (upd f 2 x) := rfl
theorem fl8_s3 {b a : Nat} (f : Nat → Int32) (x : Int32) : (fl8 b a f).set 3 (.int x) = fl8 b a (upd f 3 x) := rfl
def fl9 (b a : Nat) (f : Nat → Int32) : List Value := [.ref (b + (a + 1)), .ref (b + (a + 2)), .ref (b + (a + 3)), .int (f 3)]
theorem fl9_s3 {b a : Nat} (f : Nat → Int32) (x : Int32) : (fl9 b a f).set 3 (.int x) = fl9 b a (upd f 3 x) := rfl
def fl10 (b a : Nat) (f : Nat → Int32) : List Value := [.ref (b + (a + 1)), .int (f 1)]
theorem fl10_s1 {b a : Nat} (f : Nat → Int32) (x : Int32) : (fl10 b a f).set 1 (.int x) = fl10 b a (upd f 1 x) := rfl
def fl11 (b a : Nat) (f : Nat → Int32) : List Value := [.ref (b + (a + 1)), .ref (b + (a + 2)), .ref (b + (a + 20)), .ref (b + (a + 26)), .ref (b + (a + 29)), .ref (b + (a + 32)), .ref (b + (a + 34)), .ref (b + (a + 40)), .ref (b + (a + 45)), .ref (b + (a + 47)), .ref (b + (a + 48)), .int (f 11)]
theorem fl11_s11 {b a : Nat} (f : Nat → Int32) (x : Int32) : (fl11 b a f).set 11 (.int x) = fl11 b a (upd f 11 x) := rfl
def fl12 (b a : Nat) (f : Nat → Int32) : List Value := [.int (f 0), .ref (b + (a + 1)), .ref (b + (a + 2)), .ref (b + (a + 3)), .ref (b + (a + 4)), .ref (b + (a + 5)), .ref (b + (a + 6)), .ref (b + (a + 7)), .int (f 8), .int (f 9), .int (f 10), .int (f 11), .int (f 12), .int (f 13), .int (f 14), .int (f 15), .int (f 16), .int (f 17), .int (f 18), .ref (b + (a + 8)), .ref (b + (a + 9)), .ref (b + (a + 10)), .int (f 22), .int (f 23), .ref (b + (a + 11)), .ref (b + (a + 12)), .ref (b + (a + 13)), .ref (b + (a + 14)), .ref (b + (a + 15)), .ref (b + (a + 16)), .ref (b + (a + 17)), .ref (b + (a + 18)), .ref (b + (a + 19)), .ref (b + (a + 20)), .ref (b + (a + 21))]
theorem fl12_s0 {b a : Nat} (f : Nat → Int32) (x : Int32) : (fl12 b a f).set 0 (.int x) = fl12 b a (upd f 0 x) := rfl
theorem fl12_s8 {b a : Nat} (f : Nat → Int32) (x : Int32) : (fl12 b a f).set 8 (.int x) = fl12 b a (upd f 8 x) := rfl
theorem fl12_s9 {b a : Nat} (f : Nat → Int32) (x : Int32) : (fl12 b a f).set 9 (.int x) = fl12 b a (upd f 9 x) := rfl
theorem fl12_s10 {b a : Nat} (f : Nat → Int32) (x : Int32) : (fl12 b a f).set 10 (.int x) = fl12 b a (upd f 10 x) := rfl
theorem fl12_s11 {b a : Nat} (f : Nat → Int32) (x : Int32) : (fl12 b a f).set 11 (.int x) = fl12 b a (upd f 11 x) := rfl
theorem fl12_s12 {b a : Nat} (f : Nat → Int32) (x : Int32) : (fl12 b a f).set 12 (.int x) = fl12 b a (upd f 12 x) := rfl
theorem fl12_s13 {b a : Nat} (f : Nat → Int32) (x : Int32) : (fl12 b a f).set 13 (.int x) = fl12 b a (upd f 13 x) := rfl
theorem fl12_s14 {b a : Nat} (f : Nat → Int32) (x : Int32) : (fl12 b a f).set 14 (.int x) = fl12 b a (upd f 14 x) := rfl
theorem fl12_s15 {b a : Nat} (f : Nat → Int32) (x : Int32) : (fl12 b a f).set 15 (.int x) = fl12 b a (upd f 15 x) := rfl
theorem fl12_s16 {b a : Nat} (f : Nat → Int32) (x : Int32) : (fl12 b a f).set 16 (.int x) = fl12 b a (upd f 16 x) := rfl
theorem fl12_s17 {b a : Nat} (f : Nat → Int32) (x : Int32) : (fl12 b a f).set 17 (.int x) = fl12 b a (upd f 17 x) := rfl
theorem fl12_s18 {b a : Nat} (f : Nat → Int32) (x : Int32) : (fl12 b a f).set 18 (.int x) = fl12 b a (upd f 18 x) := rfl
theorem fl12_s22 {b a : Nat} (f : Nat → Int32) (x : Int32) : (fl12 b a f).set 22 (.int x) = fl12 b a (upd f 22 x) := rfl
theorem fl12_s23 {b a : Nat} (f : Nat → Int32) (x : Int32) : (fl12 b a f).set 23 (.int x) = fl12 b a (upd f 23 x) := rfl
def cel (G : GT) (a : Nat) (f : Nat → Int32) (l : Nat → Int64) : va_E := match a with
  | 0 => .inr (11, fl11 G.b0 0 f)
  | 1 => .inl (G.ci 1, 900, .inl f)
  | 2 => .inr (5, fl5 G.b0 2 f)
  | 3 => .inr (9, fl9 G.b0 3 f)
  | 4 => .inl (G.ci 0, 901, .inl f)
  | 5 => .inl (G.ci 0, 901, .inl f)
  | 6 => .inl (G.ci 0, 901, .inl f)
  | 7 => .inr (0, fl0 G.b0 7 f)
  | 8 => .inl (G.ci 0, 901, .inl f)
  | 9 => .inl (G.ci 0, 8, .inl f)
  | 10 => .inl (G.ci 0, 64, .inl f)
  | 11 => .inr (2, fl2 G.b0 11 f)
  | 12 => .inl (G.ci 0, 48, .inl f)
  | 13 => .inl (G.ci 0, 16, .inl f)
  | 14 => .inl (G.ci 0, 8, .inl f)
  | 15 => .inl (G.ci 0, 8, .inl f)
  | 16 => .inl (G.ci 0, 6, .inl f)
  | 17 => .inr (8, fl8 G.b0 17 f)
  | 18 => .inl (G.ci 0, 6, .inl f)
  | 19 => .inl (G.ci 0, 6, .inl f)
  | 20 => .inr (2, fl2 G.b0 20 f)
  | 21 => .inl (G.ci 0, 48, .inl f)
  | 22 => .inl (G.ci 0, 16, .inl f)
  | 23 => .inl (G.ci 0, 8, .inl f)
  | 24 => .inl (G.ci 0, 8, .inl f)
  | 25 => .inl (G.ci 0, 6, .inl f)
  | 26 => .inr (8, fl8 G.b0 26 f)
  | 27 => .inl (G.ci 0, 6, .inl f)
  | 28 => .inl (G.ci 0, 6, .inl f)
  | 29 => .inr (8, fl8 G.b0 29 f)
  | 30 => .inl (G.ci 0, 6, .inl f)
  | 31 => .inl (G.ci 0, 6, .inl f)
  | 32 => .inr (4, fl4 G.b0 32 f)
  | 33 => .inl (G.ci 0, 84, .inl f)
  | 34 => .inr (7, fl7 G.b0 34 f)
  | 35 => .inl (G.ci 0, 256, .inl f)
  | 36 => .inl (G.ci 0, 256, .inl f)
  | 37 => .inl (G.ci 0, 256, .inl f)
  | 38 => .inl (G.ci 0, 102, .inl f)
  | 39 => .inl (G.ci 0, 6, .inl f)
  | 40 => .inr (3, fl3 G.b0 40 f)
  | 41 => .inl (G.ci 0, 256, .inl f)
  | 42 => .inl (G.ci 0, 2401, .inl f)
  | 43 => .inl (G.ci 0, 6, .inl f)
  | 44 => .inl (G.ci 3, 49, .inl f)
  | 45 => .inr (10, fl10 G.b0 45 f)
  | 46 => .inl (G.ci 0, 6561, .inl f)
  | 47 => .inl (G.ci 4, 4, .inr (.inr (.inr (.inr (fun i => (([49, 51, 53, 55] : List Nat)[i]?).map (fun x => G.b0 + x))))))
  | 48 => .inl (G.ci 5, 2, .inr (.inr (.inr (.inr (fun i => (([57, 67] : List Nat)[i]?).map (fun x => G.b0 + x))))))
  | 49 => .inr (6, fl6 G.b0 49 f)
  | 50 => .inl (G.ci 2, 40, .inr (.inl l))
  | 51 => .inr (6, fl6 G.b0 51 f)
  | 52 => .inl (G.ci 2, 40, .inr (.inl l))
  | 53 => .inr (6, fl6 G.b0 53 f)
  | 54 => .inl (G.ci 2, 40, .inr (.inl l))
  | 55 => .inr (6, fl6 G.b0 55 f)
  | 56 => .inl (G.ci 2, 40, .inr (.inl l))
  | 57 => .inr (1, fl1 G.b0 57 f)
  | 58 => .inr (2, fl2 G.b0 58 f)
  | 59 => .inl (G.ci 0, 48, .inl f)
  | 60 => .inl (G.ci 0, 16, .inl f)
  | 61 => .inl (G.ci 0, 8, .inl f)
  | 62 => .inl (G.ci 0, 8, .inl f)
  | 63 => .inl (G.ci 0, 6, .inl f)
  | 64 => .inr (8, fl8 G.b0 64 f)
  | 65 => .inl (G.ci 0, 6, .inl f)
  | 66 => .inl (G.ci 0, 6, .inl f)
  | 67 => .inr (1, fl1 G.b0 67 f)
  | 68 => .inr (2, fl2 G.b0 68 f)
  | 69 => .inl (G.ci 0, 48, .inl f)
  | 70 => .inl (G.ci 0, 16, .inl f)
  | 71 => .inl (G.ci 0, 8, .inl f)
  | 72 => .inl (G.ci 0, 8, .inl f)
  | 73 => .inl (G.ci 0, 6, .inl f)
  | 74 => .inr (8, fl8 G.b0 74 f)
  | 75 => .inl (G.ci 0, 6, .inl f)
  | 76 => .inl (G.ci 0, 6, .inl f)
  | 77 => .inr (12, fl12 G.b0 77 f)
  | 78 => .inl (G.ci 0, 594, .inl f)
  | 79 => .inl (G.ci 3, 2, .inl f)
  | 80 => .inl (G.ci 0, 900, .inl f)
  | 81 => .inl (G.ci 0, 198, .inl f)
  | 82 => .inl (G.ci 0, 900, .inl f)
  | 83 => .inl (G.ci 0, 8, .inl f)
  | 84 => .inl (G.ci 0, 8, .inl f)
  | 85 => .inl (G.ci 0, 900, .inl f)
  | 86 => .inl (G.ci 0, 7, .inl f)
  | 87 => .inl (G.ci 0, 6, .inl f)
  | 88 => .inl (G.ci 0, 256, .inl f)
  | 89 => .inl (G.ci 0, 256, .inl f)
  | 90 => .inl (G.ci 0, 1536, .inl f)
  | 91 => .inl (G.ci 0, 1536, .inl f)
  | 92 => .inl (G.ci 0, 6, .inl f)
  | 93 => .inl (G.ci 0, 6, .inl f)
  | 94 => .inl (G.ci 0, 2401, .inl f)
  | 95 => .inl (G.ci 0, 65536, .inl f)
  | 96 => .inl (G.ci 0, 4, .inl f)
  | 97 => .inl (G.ci 0, 4, .inl f)
  | 98 => .inl (G.ci 2, 160, .inr (.inl l))
  | _ => .inl (G.ci 0, 0, .inl f)
def sh (G : GT) (σ : ST) (μ : SL) : HT := fun a => cel G a (σ a) (μ a)
def pt (σ : ST) (a j : Nat) (x : Int32) : ST := fun p q => if p = a ∧ q = j then x else σ p q
def ptL (μ : SL) (a j : Nat) (x : Int64) : SL := fun p q => if p = a ∧ q = j then x else μ p q
theorem pt_eq (σ : ST) (a j : Nat) (x : Int32) : va_up σ a (upd (σ a) j x) = pt σ a j x := by
  funext p q
  by_cases hp : p = a
  · subst hp
    by_cases hq : q = j
    · simp [va_up, upd, pt, hq]
    · simp [va_up, upd, pt, hq]
  · simp [va_up, pt, hp]
theorem ptL_eq (σ : SL) (a j : Nat) (x : Int64) : va_up σ a (vp_updL (σ a) j x) = ptL σ a j x := by
  funext p q
  by_cases hp : p = a
  · subst hp
    by_cases hq : q = j
    · simp [va_up, vp_updL, ptL, hq]
    · simp [va_up, vp_updL, ptL, hq]
  · simp [va_up, ptL, hp]
theorem pt_s (σ : ST) (a j : Nat) (x : Int32) : pt σ a j x a j = x := by simp [pt]
theorem pt_a {σ : ST} {a j b k : Nat} {x : Int32} (h : b ≠ a) : pt σ a j x b k = σ b k := by simp [pt, h]
theorem pt_j {σ : ST} {a j b k : Nat} {x : Int32} (h : k ≠ j) : pt σ a j x b k = σ b k := by simp [pt, h]
theorem pt_r {σ : ST} {a j b : Nat} {x : Int32} (h : b ≠ a) : pt σ a j x b = σ b := by funext k; exact pt_a h
theorem sh_up {G : GT} {σ : ST} {μ : SL} {a : Nat} {f : Nat → Int32} {e : va_E} (he : e = cel G a f (μ a)) : va_up (sh G σ μ) a e = sh G (va_up σ a f) μ := by
  funext k
  by_cases hk : k = a
  · subst hk; simp [va_up, sh, he]
  · simp [va_up, sh, hk]
theorem sh_upL {G : GT} {σ : ST} {μ : SL} {a : Nat} {f : Nat → Int64} {e : va_E} (he : e = cel G a (σ a) f) : va_up (sh G σ μ) a e = sh G σ (va_up μ a f) := by
  funext k
  by_cases hk : k = a
  · subst hk; simp [va_up, sh, he]
  · simp [va_up, sh, hk]
def AI (G : GT) (a n : Nat) : Prop := a < 99 ∧ n < 2 ^ 31 ∧ ∀ f l, cel G a f l = .inl (G.ci 0, n, .inl f)
def AB (G : GT) (a n : Nat) : Prop := a < 99 ∧ n < 2 ^ 31 ∧ ∀ f l, cel G a f l = .inl (G.ci 1, n, .inl f)
def AZ (G : GT) (a n : Nat) : Prop := a < 99 ∧ n < 2 ^ 31 ∧ ∀ f l, cel G a f l = .inl (G.ci 3, n, .inl f)
def AL (G : GT) (a n : Nat) : Prop := a < 99 ∧ n < 2 ^ 31 ∧ ∀ f l, cel G a f l = .inl (G.ci 2, n, .inr (.inl l))
def AO (G : GT) (a ci : Nat) (fl : (Nat → Int32) → List Value) : Prop := a < 99 ∧ ∀ f l, cel G a f l = .inr (ci, fl f)
theorem a0 {G : GT} : AO G 0 11 (fl11 G.b0 0) := ⟨by decide, fun _ _ => rfl⟩
theorem a1 {G : GT} : AB G 1 900 := ⟨by decide, by decide, fun _ _ => rfl⟩
theorem a2 {G : GT} : AO G 2 5 (fl5 G.b0 2) := ⟨by decide, fun _ _ => rfl⟩
theorem a3 {G : GT} : AO G 3 9 (fl9 G.b0 3) := ⟨by decide, fun _ _ => rfl⟩
theorem a4 {G : GT} : AI G 4 901 := ⟨by decide, by decide, fun _ _ => rfl⟩
theorem a5 {G : GT} : AI G 5 901 := ⟨by decide, by decide, fun _ _ => rfl⟩
theorem a6 {G : GT} : AI G 6 901 := ⟨by decide, by decide, fun _ _ => rfl⟩
theorem a7 {G : GT} : AO G 7 0 (fl0 G.b0 7) := ⟨by decide, fun _ _ => rfl⟩
theorem a8 {G : GT} : AI G 8 901 := ⟨by decide, by decide, fun _ _ => rfl⟩
theorem a9 {G : GT} : AI G 9 8 := ⟨by decide, by decide, fun _ _ => rfl⟩
theorem a10 {G : GT} : AI G 10 64 := ⟨by decide, by decide, fun _ _ => rfl⟩
theorem a11 {G : GT} : AO G 11 2 (fl2 G.b0 11) := ⟨by decide, fun _ _ => rfl⟩
theorem a12 {G : GT} : AI G 12 48 := ⟨by decide, by decide, fun _ _ => rfl⟩
theorem a13 {G : GT} : AI G 13 16 := ⟨by decide, by decide, fun _ _ => rfl⟩
theorem a14 {G : GT} : AI G 14 8 := ⟨by decide, by decide, fun _ _ => rfl⟩
theorem a15 {G : GT} : AI G 15 8 := ⟨by decide, by decide, fun _ _ => rfl⟩
theorem a16 {G : GT} : AI G 16 6 := ⟨by decide, by decide, fun _ _ => rfl⟩
theorem a17 {G : GT} : AO G 17 8 (fl8 G.b0 17) := ⟨by decide, fun _ _ => rfl⟩
theorem a18 {G : GT} : AI G 18 6 := ⟨by decide, by decide, fun _ _ => rfl⟩
theorem a19 {G : GT} : AI G 19 6 := ⟨by decide, by decide, fun _ _ => rfl⟩
theorem a20 {G : GT} : AO G 20 2 (fl2 G.b0 20) := ⟨by decide, fun _ _ => rfl⟩
theorem a21 {G : GT} : AI G 21 48 := ⟨by decide, by decide, fun _ _ => rfl⟩
theorem a22 {G : GT} : AI G 22 16 := ⟨by decide, by decide, fun _ _ => rfl⟩
theorem a23 {G : GT} : AI G 23 8 := ⟨by decide, by decide, fun _ _ => rfl⟩
theorem a24 {G : GT} : AI G 24 8 := ⟨by decide, by decide, fun _ _ => rfl⟩
theorem a25 {G : GT} : AI G 25 6 := ⟨by decide, by decide, fun _ _ => rfl⟩
theorem a26 {G : GT} : AO G 26 8 (fl8 G.b0 26) := ⟨by decide, fun _ _ => rfl⟩
theorem a27 {G : GT} : AI G 27 6 := ⟨by decide, by decide, fun _ _ => rfl⟩
theorem a28 {G : GT} : AI G 28 6 := ⟨by decide, by decide, fun _ _ => rfl⟩
theorem a29 {G : GT} : AO G 29 8 (fl8 G.b0 29) := ⟨by decide, fun _ _ => rfl⟩
theorem a30 {G : GT} : AI G 30 6 := ⟨by decide, by decide, fun _ _ => rfl⟩
theorem a31 {G : GT} : AI G 31 6 := ⟨by decide, by decide, fun _ _ => rfl⟩
theorem a32 {G : GT} : AO G 32 4 (fl4 G.b0 32) := ⟨by decide, fun _ _ => rfl⟩
theorem a33 {G : GT} : AI G 33 84 := ⟨by decide, by decide, fun _ _ => rfl⟩
theorem a34 {G : GT} : AO G 34 7 (fl7 G.b0 34) := ⟨by decide, fun _ _ => rfl⟩
theorem a35 {G : GT} : AI G 35 256 := ⟨by decide, by decide, fun _ _ => rfl⟩
theorem a36 {G : GT} : AI G 36 256 := ⟨by decide, by decide, fun _ _ => rfl⟩
theorem a37 {G : GT} : AI G 37 256 := ⟨by decide, by decide, fun _ _ => rfl⟩
theorem a38 {G : GT} : AI G 38 102 := ⟨by decide, by decide, fun _ _ => rfl⟩
theorem a39 {G : GT} : AI G 39 6 := ⟨by decide, by decide, fun _ _ => rfl⟩
theorem a40 {G : GT} : AO G 40 3 (fl3 G.b0 40) := ⟨by decide, fun _ _ => rfl⟩
theorem a41 {G : GT} : AI G 41 256 := ⟨by decide, by decide, fun _ _ => rfl⟩
theorem a42 {G : GT} : AI G 42 2401 := ⟨by decide, by decide, fun _ _ => rfl⟩
theorem a43 {G : GT} : AI G 43 6 := ⟨by decide, by decide, fun _ _ => rfl⟩
theorem a44 {G : GT} : AZ G 44 49 := ⟨by decide, by decide, fun _ _ => rfl⟩
theorem a45 {G : GT} : AO G 45 10 (fl10 G.b0 45) := ⟨by decide, fun _ _ => rfl⟩
theorem a46 {G : GT} : AI G 46 6561 := ⟨by decide, by decide, fun _ _ => rfl⟩
theorem a47 {G : GT} {σ : ST} {μ : SL} : sh G σ μ 47 = .inl (G.ci 4, 4, .inr (.inr (.inr (.inr (fun i => (([49, 51, 53, 55] : List Nat)[i]?).map (fun x => G.b0 + x)))))) := rfl
theorem a48 {G : GT} {σ : ST} {μ : SL} : sh G σ μ 48 = .inl (G.ci 5, 2, .inr (.inr (.inr (.inr (fun i => (([57, 67] : List Nat)[i]?).map (fun x => G.b0 + x)))))) := rfl
theorem a49 {G : GT} : AO G 49 6 (fl6 G.b0 49) := ⟨by decide, fun _ _ => rfl⟩
theorem a50 {G : GT} : AL G 50 40 := ⟨by decide, by decide, fun _ _ => rfl⟩
theorem a51 {G : GT} : AO G 51 6 (fl6 G.b0 51) := ⟨by decide, fun _ _ => rfl⟩
theorem a52 {G : GT} : AL G 52 40 := ⟨by decide, by decide, fun _ _ => rfl⟩
theorem a53 {G : GT} : AO G 53 6 (fl6 G.b0 53) := ⟨by decide, fun _ _ => rfl⟩
theorem a54 {G : GT} : AL G 54 40 := ⟨by decide, by decide, fun _ _ => rfl⟩
theorem a55 {G : GT} : AO G 55 6 (fl6 G.b0 55) := ⟨by decide, fun _ _ => rfl⟩
theorem a56 {G : GT} : AL G 56 40 := ⟨by decide, by decide, fun _ _ => rfl⟩
theorem a57 {G : GT} : AO G 57 1 (fl1 G.b0 57) := ⟨by decide, fun _ _ => rfl⟩
theorem a58 {G : GT} : AO G 58 2 (fl2 G.b0 58) := ⟨by decide, fun _ _ => rfl⟩
theorem a59 {G : GT} : AI G 59 48 := ⟨by decide, by decide, fun _ _ => rfl⟩
theorem a60 {G : GT} : AI G 60 16 := ⟨by decide, by decide, fun _ _ => rfl⟩
theorem a61 {G : GT} : AI G 61 8 := ⟨by decide, by decide, fun _ _ => rfl⟩
theorem a62 {G : GT} : AI G 62 8 := ⟨by decide, by decide, fun _ _ => rfl⟩
theorem a63 {G : GT} : AI G 63 6 := ⟨by decide, by decide, fun _ _ => rfl⟩
theorem a64 {G : GT} : AO G 64 8 (fl8 G.b0 64) := ⟨by decide, fun _ _ => rfl⟩
theorem a65 {G : GT} : AI G 65 6 := ⟨by decide, by decide, fun _ _ => rfl⟩
theorem a66 {G : GT} : AI G 66 6 := ⟨by decide, by decide, fun _ _ => rfl⟩
theorem a67 {G : GT} : AO G 67 1 (fl1 G.b0 67) := ⟨by decide, fun _ _ => rfl⟩
theorem a68 {G : GT} : AO G 68 2 (fl2 G.b0 68) := ⟨by decide, fun _ _ => rfl⟩
theorem a69 {G : GT} : AI G 69 48 := ⟨by decide, by decide, fun _ _ => rfl⟩
theorem a70 {G : GT} : AI G 70 16 := ⟨by decide, by decide, fun _ _ => rfl⟩
theorem a71 {G : GT} : AI G 71 8 := ⟨by decide, by decide, fun _ _ => rfl⟩
theorem a72 {G : GT} : AI G 72 8 := ⟨by decide, by decide, fun _ _ => rfl⟩
theorem a73 {G : GT} : AI G 73 6 := ⟨by decide, by decide, fun _ _ => rfl⟩
theorem a74 {G : GT} : AO G 74 8 (fl8 G.b0 74) := ⟨by decide, fun _ _ => rfl⟩
theorem a75 {G : GT} : AI G 75 6 := ⟨by decide, by decide, fun _ _ => rfl⟩
theorem a76 {G : GT} : AI G 76 6 := ⟨by decide, by decide, fun _ _ => rfl⟩
theorem a77 {G : GT} : AO G 77 12 (fl12 G.b0 77) := ⟨by decide, fun _ _ => rfl⟩
theorem a78 {G : GT} : AI G 78 594 := ⟨by decide, by decide, fun _ _ => rfl⟩
theorem a79 {G : GT} : AZ G 79 2 := ⟨by decide, by decide, fun _ _ => rfl⟩
theorem a80 {G : GT} : AI G 80 900 := ⟨by decide, by decide, fun _ _ => rfl⟩
theorem a81 {G : GT} : AI G 81 198 := ⟨by decide, by decide, fun _ _ => rfl⟩
theorem a82 {G : GT} : AI G 82 900 := ⟨by decide, by decide, fun _ _ => rfl⟩
theorem a83 {G : GT} : AI G 83 8 := ⟨by decide, by decide, fun _ _ => rfl⟩
theorem a84 {G : GT} : AI G 84 8 := ⟨by decide, by decide, fun _ _ => rfl⟩
theorem a85 {G : GT} : AI G 85 900 := ⟨by decide, by decide, fun _ _ => rfl⟩
theorem a86 {G : GT} : AI G 86 7 := ⟨by decide, by decide, fun _ _ => rfl⟩
theorem a87 {G : GT} : AI G 87 6 := ⟨by decide, by decide, fun _ _ => rfl⟩
theorem a88 {G : GT} : AI G 88 256 := ⟨by decide, by decide, fun _ _ => rfl⟩
theorem a89 {G : GT} : AI G 89 256 := ⟨by decide, by decide, fun _ _ => rfl⟩
theorem a90 {G : GT} : AI G 90 1536 := ⟨by decide, by decide, fun _ _ => rfl⟩
theorem a91 {G : GT} : AI G 91 1536 := ⟨by decide, by decide, fun _ _ => rfl⟩
theorem a92 {G : GT} : AI G 92 6 := ⟨by decide, by decide, fun _ _ => rfl⟩
theorem a93 {G : GT} : AI G 93 6 := ⟨by decide, by decide, fun _ _ => rfl⟩
theorem a94 {G : GT} : AI G 94 2401 := ⟨by decide, by decide, fun _ _ => rfl⟩
theorem a95 {G : GT} : AI G 95 65536 := ⟨by decide, by decide, fun _ _ => rfl⟩
theorem a96 {G : GT} : AI G 96 4 := ⟨by decide, by decide, fun _ _ => rfl⟩
theorem a97 {G : GT} : AI G 97 4 := ⟨by decide, by decide, fun _ _ => rfl⟩
theorem a98 {G : GT} : AL G 98 160 := ⟨by decide, by decide, fun _ _ => rfl⟩
def Lnd (G : GT) (a : Nat) : Prop := AO G a 2 (fl2 G.b0 a) ∧ AI G (a + 1) 48 ∧ AI G (a + 2) 16 ∧ AI G (a + 3) 8 ∧ AI G (a + 4) 8 ∧ AI G (a + 5) 6
def Sta (G : GT) (a : Nat) : Prop := AO G a 8 (fl8 G.b0 a) ∧ AI G (a + 1) 6 ∧ AI G (a + 2) 6
def Rwo (G : GT) (a : Nat) : Prop := AO G a 6 (fl6 G.b0 a) ∧ AL G (a + 1) 40
theorem ln11 {G : GT} : Lnd G 11 := ⟨a11, a12, a13, a14, a15, a16⟩
theorem ln20 {G : GT} : Lnd G 20 := ⟨a20, a21, a22, a23, a24, a25⟩
theorem ln58 {G : GT} : Lnd G 58 := ⟨a58, a59, a60, a61, a62, a63⟩
theorem ln68 {G : GT} : Lnd G 68 := ⟨a68, a69, a70, a71, a72, a73⟩
theorem sa17 {G : GT} : Sta G 17 := ⟨a17, a18, a19⟩
theorem sa26 {G : GT} : Sta G 26 := ⟨a26, a27, a28⟩
theorem sa29 {G : GT} : Sta G 29 := ⟨a29, a30, a31⟩
theorem sa64 {G : GT} : Sta G 64 := ⟨a64, a65, a66⟩
theorem sa74 {G : GT} : Sta G 74 := ⟨a74, a75, a76⟩
theorem rw49 {G : GT} : Rwo G 49 := ⟨a49, a50⟩
theorem rw51 {G : GT} : Rwo G 51 := ⟨a51, a52⟩
theorem rw53 {G : GT} : Rwo G 53 := ⟨a53, a54⟩
theorem rw55 {G : GT} : Rwo G 55 := ⟨a55, a56⟩
section Cells
variable {G : GT} {own : String} {cc : ByteArray} {nL : Nat} {ret : Option FieldType} {d : Nat} {Q : QT} {pc : Nat} {ls : LT} {st : List Value} {σ : ST} {μ : SL}
theorem g_get {idx ci j a : Nat} {fl : (Nat → Int32) → List Value} {v : Value} (hd : decode cc pc = .ok (.getfield idx, 3)) (hg : GF own idx ci j) (hA : AO G a ci fl) (hv : (fl (σ a))[j]? = some v) (k : BB G own cc nL ret d Q (pc + 3) ls (v :: st) (sh G σ μ)) : BB G own cc nL ret d Q pc ls (.ref (G.b0 + a) :: st) (sh G σ μ) :=
  b_getf hd hg hA.1 (hA.2 _ _) hv k
/-- an int field whose value is known -/
theorem g_geti {idx ci j a : Nat} {fl : (Nat → Int32) → List Value} {x : Int32} (hd : decode cc pc = .ok (.getfield idx, 3)) (hg : GF own idx ci j) (hA : AO G a ci fl) (hv : (fl (σ a))[j]? = some (.int (σ a j))) (hx : σ a j = x) (k : BB G own cc nL ret d Q (pc + 3) ls (.int x :: st) (sh G σ μ)) : BB G own cc nL ret d Q pc ls (.ref (G.b0 + a) :: st) (sh G σ μ) := by
  subst hx
  exact b_getf hd hg hA.1 (hA.2 _ _) hv k
theorem g_put {idx ci j a : Nat} {fl : (Nat → Int32) → List Value} {x : Int32} (hd : decode cc pc = .ok (.putfield idx, 3)) (hg : GFw own idx ci j) (hA : AO G a ci fl) (ht : ∃ C T N, vwCl[ci]? = some (C, T, N) ∧ parseFieldDescriptor (T j).2.2.1 = some .int) (hl : j < (fl (σ a)).length) (hs : (fl (σ a)).set j (.int x) = fl (upd (σ a) j x)) (k : BB G own cc nL ret d Q (pc + 3) ls st (sh G (pt σ a j x) μ)) : BB G own cc nL ret d Q pc ls (.int x :: .ref (G.b0 + a) :: st) (sh G σ μ) := by
  refine b_putf hd hg hA.1 (hA.2 _ _) hl (Or.inr (Or.inr ht)) ?_
  rw [sh_up (f := upd (σ a) j x) (by rw [hA.2, hs]), pt_eq]
  exact k
theorem g_putz {idx ci j a : Nat} {fl : (Nat → Int32) → List Value} {x : Int32} (hd : decode cc pc = .ok (.putfield idx, 3)) (hg : GFw own idx ci j) (hA : AO G a ci fl) (hx : x = 0 ∨ x = 1) (hl : j < (fl (σ a)).length) (hs : (fl (σ a)).set j (.int x) = fl (upd (σ a) j x)) (k : BB G own cc nL ret d Q (pc + 3) ls st (sh G (pt σ a j x) μ)) : BB G own cc nL ret d Q pc ls (.int x :: .ref (G.b0 + a) :: st) (sh G σ μ) := by
  refine b_putf hd hg hA.1 (hA.2 _ _) hl (hx.elim Or.inl (fun e => Or.inr (Or.inl e))) ?_
  rw [sh_up (f := upd (σ a) j x) (by rw [hA.2, hs]), pt_eq]
  exact k
theorem g_iald {a n j : Nat} {i : Int32} (hd : decode cc pc = .ok (.iaload, 1)) (hA : AI G a n) (hi : i = nI j) (hj : j < n) (k : BB G own cc nL ret d Q (pc + 1) ls (.int (σ a j) :: st) (sh G σ μ)) : BB G own cc nL ret d Q pc ls (.int i :: .ref (G.b0 + a) :: st) (sh G σ μ) :=
  b_iald hd hA.1 (hA.2.2 _ _) hi hj hA.2.1 k
theorem g_bald {a n j : Nat} {i : Int32} (hd : decode cc pc = .ok (.baload, 1)) (hA : AB G a n) (hi : i = nI j) (hj : j < n) (k : BB G own cc nL ret d Q (pc + 1) ls (.int (σ a j) :: st) (sh G σ μ)) : BB G own cc nL ret d Q pc ls (.int i :: .ref (G.b0 + a) :: st) (sh G σ μ) :=
  b_bald hd hA.1 (hA.2.2 _ _) hi hj hA.2.1 k
theorem g_zald {a n j : Nat} {i : Int32} (hd : decode cc pc = .ok (.baload, 1)) (hA : AZ G a n) (hi : i = nI j) (hj : j < n) (k : BB G own cc nL ret d Q (pc + 1) ls (.int (σ a j) :: st) (sh G σ μ)) : BB G own cc nL ret d Q pc ls (.int i :: .ref (G.b0 + a) :: st) (sh G σ μ) :=
  b_zald hd hA.1 (hA.2.2 _ _) hi hj hA.2.1 k
theorem g_lald {a n j : Nat} {i : Int32} (hd : decode cc pc = .ok (.laload, 1)) (hA : AL G a n) (hi : i = nI j) (hj : j < n) (k : BB G own cc nL ret d Q (pc + 1) ls (.long (μ a j) :: st) (sh G σ μ)) : BB G own cc nL ret d Q pc ls (.int i :: .ref (G.b0 + a) :: st) (sh G σ μ) :=
  b_lald hd hA.1 (hA.2.2 _ _) hi hj hA.2.1 k
theorem g_iast {a n j : Nat} {i x : Int32} (hd : decode cc pc = .ok (.iastore, 1)) (hA : AI G a n) (hi : i = nI j) (hj : j < n) (k : BB G own cc nL ret d Q (pc + 1) ls st (sh G (pt σ a j x) μ)) : BB G own cc nL ret d Q pc ls (.int x :: .int i :: .ref (G.b0 + a) :: st) (sh G σ μ) := by
  refine b_iast hd hA.1 (hA.2.2 _ _) hi hj hA.2.1 ?_
  rw [sh_up (f := upd (σ a) j x) (by rw [hA.2.2]), pt_eq]
  exact k
theorem g_bast {a n j : Nat} {i x : Int32} (hd : decode cc pc = .ok (.bastore, 1)) (hA : AB G a n) (hi : i = nI j) (hj : j < n) (k : BB G own cc nL ret d Q (pc + 1) ls st (sh G (pt σ a j (vp_nar .byte x)) μ)) : BB G own cc nL ret d Q pc ls (.int x :: .int i :: .ref (G.b0 + a) :: st) (sh G σ μ) := by
  refine b_bast hd hA.1 (hA.2.2 _ _) hi hj hA.2.1 ?_
  rw [sh_up (f := upd (σ a) j (vp_nar .byte x)) (by rw [hA.2.2]), pt_eq]
  exact k
theorem g_zast {a n j : Nat} {i x : Int32} (hd : decode cc pc = .ok (.bastore, 1)) (hA : AZ G a n) (hi : i = nI j) (hj : j < n) (k : BB G own cc nL ret d Q (pc + 1) ls st (sh G (pt σ a j (vp_nar .boolean x)) μ)) : BB G own cc nL ret d Q pc ls (.int x :: .int i :: .ref (G.b0 + a) :: st) (sh G σ μ) := by
  refine b_zast hd hA.1 (hA.2.2 _ _) hi hj hA.2.1 ?_
  rw [sh_up (f := upd (σ a) j (vp_nar .boolean x)) (by rw [hA.2.2]), pt_eq]
  exact k
theorem g_last {a n j : Nat} {i : Int32} {x : Int64} (hd : decode cc pc = .ok (.lastore, 1)) (hA : AL G a n) (hi : i = nI j) (hj : j < n) (k : BB G own cc nL ret d Q (pc + 1) ls st (sh G σ (ptL μ a j x))) : BB G own cc nL ret d Q pc ls (.long x :: .int i :: .ref (G.b0 + a) :: st) (sh G σ μ) := by
  refine b_last hd hA.1 (hA.2.2 _ _) hi hj hA.2.1 ?_
  rw [sh_upL (f := vp_updL (μ a) j x) (by rw [hA.2.2]), ptL_eq]
  exact k
theorem g_aald {a n j b t0 : Nat} {C : String} {f : Nat → Option Nat} {i : Int32} (hd : decode cc pc = .ok (.aaload, 1)) (ha : a < 99) (he : sh G σ μ a = .inl (G.ci t0, n, .inr (.inr (.inr (.inr f))))) (ht : (tysG G)[t0]? = some (G.ci t0, .object C)) (hi : i = nI j) (hj : j < n) (hn : n < 2 ^ 31) (hf : f j = some (G.b0 + b)) (k : BB G own cc nL ret d Q (pc + 1) ls (.ref (G.b0 + b) :: st) (sh G σ μ)) : BB G own cc nL ret d Q pc ls (.int i :: .ref (G.b0 + a) :: st) (sh G σ μ) :=
  b_aald hd ha he ht hi hj hn hf k
theorem g_ilen {a n : Nat} (hd : decode cc pc = .ok (.arraylength, 1)) (hA : AI G a n) (k : BB G own cc nL ret d Q (pc + 1) ls (.int (nI n) :: st) (sh G σ μ)) : BB G own cc nL ret d Q pc ls (.ref (G.b0 + a) :: st) (sh G σ μ) :=
  b_alen (t0 := 0) (ty := .int) hd hA.1 (hA.2.2 _ _) rfl k
theorem g_llen {a n : Nat} (hd : decode cc pc = .ok (.arraylength, 1)) (hA : AL G a n) (k : BB G own cc nL ret d Q (pc + 1) ls (.int (nI n) :: st) (sh G σ μ)) : BB G own cc nL ret d Q pc ls (.ref (G.b0 + a) :: st) (sh G σ μ) :=
  b_alen (t0 := 2) (ty := .long) hd hA.1 (hA.2.2 _ _) rfl k
theorem g_blen {a n : Nat} (hd : decode cc pc = .ok (.arraylength, 1)) (hA : AB G a n) (k : BB G own cc nL ret d Q (pc + 1) ls (.int (nI n) :: st) (sh G σ μ)) : BB G own cc nL ret d Q pc ls (.ref (G.b0 + a) :: st) (sh G σ μ) :=
  b_alen (t0 := 1) (ty := .byte) hd hA.1 (hA.2.2 _ _) rfl k
/-- calls, told by 'Ret', over cells -/
theorem g_callV {M : MT} {idx n ci a : Nat} {fl : (Nat → Int32) → List Value} {q : vw_C} {v : Option Value} {h' : HT} (As : List Value) {st0 : List Value} (hd : decode cc pc = .ok (.invokevirtual idx, 3)) (mk : MKv M n) (hlk : Cond.methodLink own idx M.1 ∈ TB) (hA : AO G a ci fl) (hc : vwCl[ci]? = some q) (hq : q.1 = M.1.cls)
    (hM : Fn G d M (.ref (G.b0 + a) :: As) (sh G σ μ) (Ret v h')) (hn : As.length = n) (hst : st0 = As.reverse ++ .ref (G.b0 + a) :: st) (hw : (st.map fun v => v.category).sum ≤ 8)
    (k : BB G own cc nL ret (d + 1) Q (pc + 3) ls (v.toList ++ st) h') : BB G own cc nL ret (d + 1) Q pc ls st0 (sh G σ μ) :=
  b_callVr As hd mk hlk hA.1 (hA.2 _ _) hc hq hM hn hst hw k
theorem g_callVp {Post : Option Value → HT → Prop} {M : MT} {idx n ci a : Nat} {fl : (Nat → Int32) → List Value} {q : vw_C} (As : List Value) {st0 : List Value} (hd : decode cc pc = .ok (.invokevirtual idx, 3)) (mk : MKv M n) (hlk : Cond.methodLink own idx M.1 ∈ TB) (hA : AO G a ci fl) (hc : vwCl[ci]? = some q) (hq : q.1 = M.1.cls)
    (hM : Fn G d M (.ref (G.b0 + a) :: As) (sh G σ μ) Post) (hn : As.length = n) (hst : st0 = As.reverse ++ .ref (G.b0 + a) :: st) (hw : (st.map fun v => v.category).sum ≤ 8)
    (k : ∀ (r : Option Value) (h' : HT), Post r h' → BB G own cc nL ret (d + 1) Q (pc + 3) ls (r.toList ++ st) h') : BB G own cc nL ret (d + 1) Q pc ls st0 (sh G σ μ) :=
  b_callV As hd mk hlk hA.1 (hA.2 _ _) hc hq hM hn hst hw k
/-- THREES -/
theorem g_gets3 {idx : Nat} (hd : decode cc pc = .ok (.getstatic idx, 3)) (hlk : Cond.fieldLink own idx "KnowsLeast$Trial" "THREES" "[I" ∈ TB) {h : HT} (k : BB G own cc nL ret d Q (pc + 3) ls (.ref G.t3 :: st) h) : BB G own cc nL ret d Q pc ls st h :=
  fun p e R s m args below meth c cells slots E H locs lsA hH hS hl => va_gets E.1 E.2.1 (E.2.2.2.2.2.2.2.1.2.1.kept (fun a ha hA => E.2.2.2.2.2.2.2.2.1.2 a (Nat.not_le.mp hA))) hS E.2.2.2.2.2.1 (E.2.2.2.2.2.2.1 _ hlk) (fun _ h9 => h9) hd (k p e R s m args below meth c cells slots E H locs lsA hH hS hl)
theorem g_t3ld {j : Nat} {i x : Int32} (hd : decode cc pc = .ok (.iaload, 1)) (hi : i = nI j) (hj : j < 9) (hx : t3f j = .int x) {h : HT} (k : BB G own cc nL ret d Q (pc + 1) ls (.int x :: st) h) : BB G own cc nL ret d Q pc ls (.int i :: .ref G.t3 :: st) h := by
  subst hi
  have hin : vp_in (nI j) 9 := vp_in_nI hj (by decide)
  exact fun p e R s m args below meth c cells slots E H locs lsA hH hS hl => va_ti E.1 E.2.1 (E.2.2.2.2.2.2.2.1.2.2.1.kept (fun a ha hA => E.2.2.2.2.2.2.2.2.1.2 a (Nat.not_le.mp hA))) hS hin (by rw [nI_clamp (by omega)]; exact hx) hd (k p e R s m args below meth c cells slots E H locs lsA hH hS hl)
/-- System.arraycopy over int arrays -/
def cpy (σ : ST) (a0 sp a dp n : Nat) : ST := va_up σ a (va_cpy (σ a0) (σ a) sp dp n)
theorem g_copy {idx a0 a n0 n1 sp dp n : Nat} {isp idp im : Int32} (hd : decode cc pc = .ok (.invokestatic idx, 3)) (hlk : Cond.methodLink own idx arraycopyName ∈ TB) (h0 : AI G a0 n0) (h1 : AI G a n1) (hsp : isp = nI sp) (hdp : idp = nI dp) (hm : im = nI n) (b0 : sp + n ≤ n0) (b1 : dp + n ≤ n1) (hw : (st.map fun v => v.category).sum ≤ 8)
    (k : BB G own cc nL ret (d + 1) Q (pc + 3) ls st (sh G (cpy σ a0 sp a dp n) μ)) : BB G own cc nL ret (d + 1) Q pc ls (.int im :: .int idp :: .ref (G.b0 + a) :: .int isp :: .ref (G.b0 + a0) :: st) (sh G σ μ) := by
  subst hsp; subst hdp; subst hm
  have l0 := h0.2.1
  have l1 := h1.2.1
  have c1 : (nI sp).toNatClampNeg = sp := nI_clamp (by omega)
  have c2 : (nI dp).toNatClampNeg = dp := nI_clamp (by omega)
  have c3 : (nI n).toNatClampNeg = n := nI_clamp (by omega)
  intro p e R s m args below meth c cells slots E H locs lsA hH hS hl
  have hR := E.2.2.2.2.2.2.2.2.2.1
  refine va_copyi (H0 := s.heap) E.1 E.2.1 (E.2.2.1.trans hl.1.symm) E.2.2.2.2.2.1 (E.2.2.2.2.2.2.1 _ hlk) (E.2.2.2.2.2.2.1 _ cp_nat) (E.2.2.2.2.2.2.1 _ cp_st) (E.2.2.2.2.2.2.1 _ iniJ10) E.2.2.2.2.2.2.2.1.1 hH.2.2 wl_D hS a0 a 0 0 (by rw [wl_at h0.1]; show some (G.b0 + a0, cel G a0 (σ a0) (μ a0)) = _; rw [h0.2.2]) (by rw [wl_at h1.1]; show some (G.b0 + a, cel G a (σ a) (μ a)) = _; rw [h1.2.2]) rfl rfl rfl (nI_pos (by omega)) (nI_pos (by omega)) (nI_pos (by omega)) (by rw [c1, c3]; exact b0) (by rw [c2, c3]; exact b1) (fun _ _ => rfl) (by omega) ?_ hd (fun H1 locs1 hP1 hD1 hS1 => ?_)
  · have h9 : nativeFrameWords "java/lang/System" "arraycopy" 5 ≤ 70 := by decide
    omega
  · refine k p e R s m args below meth c cells slots E H1 locs1 lsA (mkHP E.2.2.2.2.2.2.2.2.1 hS1 ?_) hS1 hl
    rw [wl_set h1.1, c1, c2, c3] at hP1
    rw [sh_up (f := va_cpy (σ a0) (σ a) sp dp n) (by rw [h1.2.2])] at hP1
    exact hP1
end Cells
end
section
/-! ===== Int32 by its bits: bt x i ===== -/
def bt (x : Int32) (i : Nat) : Bool := x.toBitVec.getLsbD i
theorem b_ext {x y : Int32} (h : ∀ i, i < 32 → bt x i = bt y i) : x = y := Int32.toBitVec_inj.mp (BitVec.eq_of_getLsbD_eq (fun i hi => h i hi))
theorem b_or (x y : Int32) (i : Nat) : bt (x ||| y) i = (bt x i || bt y i) := by unfold bt; rw [Int32.toBitVec_or, BitVec.getLsbD_or]
theorem b_and (x y : Int32) (i : Nat) : bt (x &&& y) i = (bt x i && bt y i) := by unfold bt; rw [Int32.toBitVec_and, BitVec.getLsbD_and]
theorem b_xor (x y : Int32) (i : Nat) : bt (x ^^^ y) i = (bt x i ^^ bt y i) := by unfold bt; rw [Int32.toBitVec_xor, BitVec.getLsbD_xor]
theorem b_big {x : Int32} {i : Nat} (h : 32 ≤ i) : bt x i = false := BitVec.getLsbD_of_ge _ _ h
theorem b_255 (i : Nat) : bt 255 i = decide (i < 8) := by
  rcases Nat.lt_or_ge i 32 with h | h
  · exact (by decide +kernel : ∀ i, i < 32 → bt 255 i = decide (i < 8)) i h
  · rw [b_big h, decide_eq_false (by omega)]
theorem b_65535 (i : Nat) : bt 65535 i = decide (i < 16) := by
  rcases Nat.lt_or_ge i 32 with h | h
  · exact (by decide +kernel : ∀ i, i < 32 → bt 65535 i = decide (i < 16)) i h
  · rw [b_big h, decide_eq_false (by omega)]
theorem b_m1 : ∀ i, i < 32 → bt (-1) i = true := by decide +kernel
theorem b_0 (i : Nat) : bt 0 i = false := BitVec.getLsbD_zero
theorem s_l : ∀ n, n < 32 → ((nI n &&& 31).toBitVec.smod 32).toNat = n := by decide +kernel
theorem s_u : ∀ n, n < 32 → (((nI n).toUInt32 &&& Int32.toUInt32 31).toBitVec % 32).toNat = n := by decide +kernel
theorem b_shl (n : Nat) (hn : n < 32) (x : Int32) {i : Nat} (hi : i < 32) : bt (x <<< (nI n &&& 31)) i = (decide (n ≤ i) && bt x (i - n)) := by
  unfold bt
  rw [Int32.toBitVec_shiftLeft]
  show (x.toBitVec <<< ((nI n &&& 31).toBitVec.smod 32).toNat).getLsbD i = _
  rw [s_l n hn, BitVec.getLsbD_shiftLeft]
  rcases Nat.lt_or_ge i n with h | h
  · simp [h, Nat.not_le.mpr h]
  · simp [hi, h, Nat.not_lt.mpr h]
theorem b_ushr (n : Nat) (hn : n < 32) (x : Int32) (i : Nat) : bt ((x.toUInt32 >>> ((nI n).toUInt32 &&& Int32.toUInt32 31)).toInt32) i = bt x (n + i) := by
  show (x.toUInt32 >>> ((nI n).toUInt32 &&& Int32.toUInt32 31)).toBitVec.getLsbD i = x.toUInt32.toBitVec.getLsbD (n + i)
  rw [UInt32.toBitVec_shiftRight]
  show (x.toUInt32.toBitVec >>> (((nI n).toUInt32 &&& Int32.toUInt32 31).toBitVec % 32).toNat).getLsbD i = _
  rw [s_u n hn, BitVec.getLsbD_ushiftRight]
theorem b_sshr (n : Nat) (hn : n < 32) (x : Int32) {i : Nat} (hi : i < 32) : bt (x >>> (nI n &&& 31)) i = if n + i < 32 then bt x (n + i) else bt x 31 := by
  unfold bt
  rw [Int32.toBitVec_shiftRight]
  show (x.toBitVec.sshiftRight ((nI n &&& 31).toBitVec.smod 32).toNat).getLsbD i = _
  rw [s_l n hn, BitVec.getLsbD_sshiftRight, BitVec.msb_eq_getLsbD_last]
  simp [hi]

theorem nI_k (a k : Nat) : nI a + Int32.ofInt (k : Int) = nI (a + k) := by
  rw [← nI_add]
  rfl
section NRules
variable {G : GT} {own : String} {cc : ByteArray} {nL : Nat} {ret : Option FieldType} {d : Nat} {Q : QT} {pc : Nat} {ls : LT} {st : List Value} {h : HT}
theorem b_iaddN {x y : Nat} (hd : decode cc pc = .ok (.iadd, 1)) (k : BB G own cc nL ret d Q (pc + 1) ls (.int (nI (x + y)) :: st) h) : BB G own cc nL ret d Q pc ls (.int (nI y) :: .int (nI x) :: st) h := by
  refine b_iadd hd ?_
  rw [nI_add]; exact k
theorem b_imulN {x y : Nat} (hd : decode cc pc = .ok (.imul, 1)) (k : BB G own cc nL ret d Q (pc + 1) ls (.int (nI (x * y)) :: st) h) : BB G own cc nL ret d Q pc ls (.int (nI y) :: .int (nI x) :: st) h := by
  refine b_imul hd ?_
  rw [pk_mul]; exact k
/-- another name for the value on top -/
theorem b_top {x y : Int32} (e : x = y) (k : BB G own cc nL ret d Q pc ls (.int y :: st) h) : BB G own cc nL ret d Q pc ls (.int x :: st) h := by rw [e]; exact k
theorem b_top2 {x y : Int32} {v : Value} (e : x = y) (k : BB G own cc nL ret d Q pc ls (v :: .int y :: st) h) : BB G own cc nL ret d Q pc ls (v :: .int x :: st) h := by rw [e]; exact k
theorem b_topJ {x y : Int64} (e : x = y) (k : BB G own cc nL ret d Q pc ls (.long y :: st) h) : BB G own cc nL ret d Q pc ls (.long x :: st) h := by rw [e]; exact k
theorem b_heap {h h' : HT} (e : h = h') (k : BB G own cc nL ret d Q pc ls st h') : BB G own cc nL ret d Q pc ls st h := by rw [e]; exact k
end NRules
theorem b_1 (i : Nat) : bt (nI 1) i = decide (i = 0) := by
  rcases Nat.lt_or_ge i 32 with h | h
  · exact (by decide +kernel : ∀ i, i < 32 → bt (nI 1) i = decide (i = 0)) i h
  · rw [b_big h, decide_eq_false (by omega)]
theorem b_n0 (i : Nat) : bt (nI 0) i = false := b_0 i
theorem b_one (x : Int32) : x &&& nI 1 = nI 1 ↔ bt x 0 = true := by
  constructor
  · intro h
    have := congrArg (fun z => bt z 0) h
    simpa [b_and, b_1] using this
  · intro h
    apply b_ext
    intro i hi
    rw [b_and, b_1]
    by_cases h0 : i = 0
    · subst h0; simp [h]
    · simp [h0]
theorem b_one0 (x : Int32) : x &&& nI 1 = if bt x 0 then nI 1 else nI 0 := by
  apply b_ext
  intro i hi
  rw [b_and, b_1]
  by_cases h0 : i = 0
  · subst h0
    cases h : bt x 0 <;> simp [b_1, b_n0]
  · cases h : bt x 0 <;> simp [b_1, b_n0, h0]
/-- the bit k of x, as (x >> k & 1) == 1 asks it -/
theorem b_test {x : Int32} {k : Nat} (hk : k < 32) : (x >>> (nI k &&& 31)) &&& nI 1 = nI 1 ↔ bt x k = true := by
  rw [b_one, b_sshr k hk x (by omega)]
  simp [hk]
theorem b_testv {x : Int32} {k : Nat} (hk : k < 32) : (x >>> (nI k &&& 31)) &&& nI 1 = if bt x k then nI 1 else nI 0 := by
  rw [b_one0, b_sshr k hk x (by omega)]
  simp [hk]
/-- 1 << k -/
theorem b_bit {k : Nat} (hk : k < 32) {i : Nat} (hi : i < 32) : bt (nI 1 <<< (nI k &&& 31)) i = decide (i = k) := by
  rw [b_shl k hk _ hi, b_1]
  by_cases h : i = k
  · subst h; simp
  · by_cases h2 : k ≤ i
    · have : ¬ i - k = 0 := by omega
      simp [h, h2, this]
    · simp [h, h2]
section MoreRules
variable {G : GT} {own : String} {cc : ByteArray} {nL : Nat} {ret : Option FieldType} {d : Nat} {Q : QT} {pc : Nat} {ls : LT} {st : List Value} {h : HT}
theorem b_ldcw {i : Nat} {v : Int32} (hd : decode cc pc = .ok (.ldc_w i, 3)) (hw : Cond.constant own i v ∈ TB) (k : BB G own cc nL ret d Q (pc + 3) ls (.int v :: st) h) : BB G own cc nL ret d Q pc ls st h :=
  fun p e R s m args below meth c cells slots E H locs lsA hH hS hl => lv_ldcw E.1 E.2.1 E.2.2.2.2.2.1 (E.2.2.2.2.2.2.1 _ hw) hd (k p e R s m args below meth c cells slots E H locs lsA hH hS hl)
end MoreRules
def bI (b : Bool) : Int32 := if b then nI 1 else nI 0
theorem bI_n (b : Bool) : narrow .boolean (.int (bI b)) = .int (bI b) := by cases b <;> decide
theorem bI_0 (b : Bool) : bI b = 0 ↔ b = false := by cases b <;> decide
theorem bI_1 (b : Bool) : ¬ bI b = 0 ↔ b = true := by cases b <;> decide
def cnt (x : Int32) : Nat → Nat
  | 0 => 0
  | k + 1 => cnt x k + if bt x k then 1 else 0
theorem cnt_le (x : Int32) : ∀ k, cnt x k ≤ k
  | 0 => Nat.le_refl 0
  | k + 1 => by
    have := cnt_le x k
    unfold cnt
    split <;> omega
theorem pck_all : ∀ n, pck n = true → ∀ h, h < n → ∀ k, k < 256 → pcn (256 * h + k) = ctn (256 * h + k)
  | 0, _, h, hh, _, _ => absurd hh (Nat.not_lt_zero h)
  | n + 1, hp, h, hh, k, hk => by
    simp only [pck, Bool.and_eq_true] at hp
    rcases Nat.lt_or_ge h n with q | q
    · exact pck_all n hp.1 h q k hk
    · have e : h = n := by omega
      subst e
      have key : ∀ m, pck.go h m = true → ∀ k, k < m → pcn (256 * h + k) = ctn (256 * h + k) := by
        intro m
        induction m with
        | zero => intro _ k hk; omega
        | succ m ih =>
          intro hg k hk
          simp only [pck.go, Bool.and_eq_true] at hg
          rcases Nat.lt_or_ge k m with q2 | q2
          · exact ih hg.1 k q2
          · have e2 : k = m := by omega
            subst e2
            exact Nat.eq_of_beq_eq_true hg.2
      exact key 256 hp.2 k hk
theorem pcn_ok {n : Nat} (h : n < 65536) : pcn n = ctn n := by
  have := pck_all 256 pck_ok (n / 256) (by omega) (n % 256) (by omega)
  rwa [show 256 * (n / 256) + n % 256 = n by omega] at this
theorem bt_nI {n k : Nat} (hk : k < 32) : bt (nI n) k = n.testBit k := by
  show (BitVec.ofNat 32 n).getLsbD k = _
  rw [BitVec.getLsbD_ofNat]
  simp [hk]
theorem cnt_ctn (n : Nat) : cnt (nI n) 16 = ctn n := by
  have e : ∀ k, k < 16 → (if bt (nI n) k then 1 else 0) = n / 2 ^ k % 2 := by
    intro k hk
    rw [bt_nI (by omega), Nat.testBit_eq_decide_div_mod_eq]
    rcases Nat.mod_two_eq_zero_or_one (n / 2 ^ k) with h | h <;> simp [h]
  simp only [cnt, e 0 (by omega), e 1 (by omega), e 2 (by omega), e 3 (by omega), e 4 (by omega), e 5 (by omega), e 6 (by omega), e 7 (by omega), e 8 (by omega), e 9 (by omega), e 10 (by omega), e 11 (by omega), e 12 (by omega), e 13 (by omega), e 14 (by omega), e 15 (by omega), ctn]
  simp
/-- no bit from k on -/
def lo (k : Nat) (x : Int32) : Prop := ∀ i, k ≤ i → i < 32 → bt x i = false
theorem lo_nat {k : Nat} {x : Int32} (hk : k < 32) (h : lo k x) : ∃ n, n < 2 ^ k ∧ x = nI n := by
  refine ⟨x.toBitVec.toNat, Nat.lt_pow_two_of_testBit _ (fun i hi => ?_), ?_⟩
  · rcases Nat.lt_or_ge i 32 with q | q
    · exact h i hi q
    · exact b_big (x := x) q
  · apply Int32.toBitVec_inj.mp
    show x.toBitVec = BitVec.ofNat 32 x.toBitVec.toNat
    simp
theorem lo_and {k : Nat} {x y : Int32} (h : lo k x) : lo k (x &&& y) := fun i h1 h2 => by rw [b_and, h i h1 h2]; rfl
theorem lo_and' {k : Nat} {x y : Int32} (h : lo k y) : lo k (x &&& y) := fun i h1 h2 => by rw [b_and, h i h1 h2]; simp
theorem lo_or {k : Nat} {x y : Int32} (h : lo k x) (h' : lo k y) : lo k (x ||| y) := fun i h1 h2 => by rw [b_or, h i h1 h2, h' i h1 h2]; rfl
theorem lo_mono {k k' : Nat} {x : Int32} (h : lo k x) (hk : k ≤ k') : lo k' x := fun i h1 h2 => h i (by omega) h2
theorem lo_0 (k : Nat) : lo k (nI 0) := fun i _ _ => b_n0 i
theorem lo_bit {k j : Nat} (hj : j < k) (hk : k < 32) : lo k (nI 1 <<< (nI j &&& 31)) := fun i h1 h2 => by rw [b_bit (by omega) h2]; simp; omega
theorem nI_sub {a b : Nat} (h : b ≤ a) : nI a - nI b = nI (a - b) := pk_sub h
theorem nI_and (a b : Nat) : nI a &&& nI b = nI (a &&& b) := by
  apply Int32.toBitVec_inj.1
  show BitVec.ofNat 32 a &&& BitVec.ofNat 32 b = BitVec.ofNat 32 (a &&& b)
  apply BitVec.eq_of_getLsbD_eq
  intro i hi
  simp [hi]
theorem nI_ush {n k : Nat} (hn : n < 2 ^ 32) (hk : k < 32) : ((nI n).toUInt32 >>> ((nI k).toUInt32 &&& Int32.toUInt32 31)).toInt32 = nI (n >>> k) := by
  rw [pk_ushrN hn (nI k) k (s_u k hk), Nat.shiftRight_eq_div_pow]
theorem pc_val {n : Nat} (h : n < 65536) :
    ((let a := nI n - ((((nI n).toUInt32 >>> ((nI 1).toUInt32 &&& Int32.toUInt32 31)).toInt32) &&& 1431655765)
      let b := (a &&& 858993459) + ((a.toUInt32 >>> ((nI 2).toUInt32 &&& Int32.toUInt32 31)).toInt32 &&& 858993459)
      let c := (b + (b.toUInt32 >>> ((nI 4).toUInt32 &&& Int32.toUInt32 31)).toInt32) &&& 252645135
      let e := c + (c.toUInt32 >>> ((nI 8).toUInt32 &&& Int32.toUInt32 31)).toInt32
      (e + (e.toUInt32 >>> ((nI 16).toUInt32 &&& Int32.toUInt32 31)).toInt32) &&& nI 63)) = nI (cnt (nI n) 16) := by
  have e1 : (1431655765 : Int32) = nI 1431655765 := rfl
  have e2 : (858993459 : Int32) = nI 858993459 := rfl
  have e3 : (252645135 : Int32) = nI 252645135 := rfl
  have s1 : (n >>> 1) &&& 1431655765 ≤ n := Nat.le_trans Nat.and_le_left (by rw [Nat.shiftRight_eq_div_pow]; omega)
  have hA : n - ((n >>> 1) &&& 1431655765) < 65536 := by omega
  rw [cnt_ctn, ← pcn_ok h]
  simp only [e1, e2, e3]
  rw [nI_ush (by omega) (by omega), nI_and, nI_sub s1]
  generalize hAe : n - ((n >>> 1) &&& 1431655765) = A at hA
  have b1 : A &&& 858993459 ≤ A := Nat.and_le_left
  have b2 : (A >>> 2) &&& 858993459 ≤ A := Nat.le_trans Nat.and_le_left (by rw [Nat.shiftRight_eq_div_pow]; omega)
  rw [nI_and, nI_ush (by omega) (by omega), nI_and, nI_add]
  generalize hBe : (A &&& 858993459) + ((A >>> 2) &&& 858993459) = B
  have hB : B < 131072 := by omega
  have b3 : B >>> 4 ≤ B := by rw [Nat.shiftRight_eq_div_pow]; omega
  have b4 : (B + B >>> 4) &&& 252645135 ≤ B + B >>> 4 := Nat.and_le_left
  rw [nI_ush (by omega) (by omega), nI_add, nI_and]
  generalize hCe : (B + B >>> 4) &&& 252645135 = C at b4
  have b5 : C >>> 8 ≤ C := by rw [Nat.shiftRight_eq_div_pow]; omega
  rw [nI_ush (by omega) (by omega), nI_add]
  generalize hEe : C + C >>> 8 = E
  have b6 : E >>> 16 ≤ E := by rw [Nat.shiftRight_eq_div_pow]; omega
  rw [nI_ush (by omega) (by omega), nI_add, nI_and]
  simp only [pcn, hAe, hBe, hCe, hEe]
end
section
/-! ===== the JDK's own: bitCount, min, max, compare, fill ===== -/
theorem c_bitCountN {G : GT} {d n : Nat} {h : HT} (hn : n < 65536) : Fn G d mJ6_bitCount_0f7a4 [.int (nI n)] h (Ret (some (.int (nI (cnt (nI n) 16)))) h) := by
  refine fn_of (ls := [some (.int (nI n))]) (by decide +kernel) (Nat.le_of_ble_eq_true rfl) 0 rfl ?_
  refine b_iload_n dJ6_bitCount_0f7a4_0 rfl ?_
  refine b_iload_n dJ6_bitCount_0f7a4_1 rfl ?_
  refine b_iconst (v := nI 1) dJ6_bitCount_0f7a4_2 (by decide) ?_
  refine b_iushr dJ6_bitCount_0f7a4_3 ?_
  refine b_ldcw dJ6_bitCount_0f7a4_4 cvJ6_265 ?_
  refine b_iand dJ6_bitCount_0f7a4_7 ?_
  refine b_isub dJ6_bitCount_0f7a4_8 ?_
  refine b_istore_n dJ6_bitCount_0f7a4_9 (by decide) rfl ?_
  refine b_iload_n dJ6_bitCount_0f7a4_10 rfl ?_
  refine b_ldcw dJ6_bitCount_0f7a4_11 cvJ6_266 ?_
  refine b_iand dJ6_bitCount_0f7a4_14 ?_
  refine b_iload_n dJ6_bitCount_0f7a4_15 rfl ?_
  refine b_iconst (v := nI 2) dJ6_bitCount_0f7a4_16 (by decide) ?_
  refine b_iushr dJ6_bitCount_0f7a4_17 ?_
  refine b_ldcw dJ6_bitCount_0f7a4_18 cvJ6_266 ?_
  refine b_iand dJ6_bitCount_0f7a4_21 ?_
  refine b_iadd dJ6_bitCount_0f7a4_22 ?_
  refine b_istore_n dJ6_bitCount_0f7a4_23 (by decide) rfl ?_
  refine b_iload_n dJ6_bitCount_0f7a4_24 rfl ?_
  refine b_iload_n dJ6_bitCount_0f7a4_25 rfl ?_
  refine b_iconst (v := nI 4) dJ6_bitCount_0f7a4_26 (by decide) ?_
  refine b_iushr dJ6_bitCount_0f7a4_27 ?_
  refine b_iadd dJ6_bitCount_0f7a4_28 ?_
  refine b_ldcw dJ6_bitCount_0f7a4_29 cvJ6_267 ?_
  refine b_iand dJ6_bitCount_0f7a4_32 ?_
  refine b_istore_n dJ6_bitCount_0f7a4_33 (by decide) rfl ?_
  refine b_iload_n dJ6_bitCount_0f7a4_34 rfl ?_
  refine b_iload_n dJ6_bitCount_0f7a4_35 rfl ?_
  refine b_bipush (v := nI 8) dJ6_bitCount_0f7a4_36 (by decide) ?_
  refine b_iushr dJ6_bitCount_0f7a4_38 ?_
  refine b_iadd dJ6_bitCount_0f7a4_39 ?_
  refine b_istore_n dJ6_bitCount_0f7a4_40 (by decide) rfl ?_
  refine b_iload_n dJ6_bitCount_0f7a4_41 rfl ?_
  refine b_iload_n dJ6_bitCount_0f7a4_42 rfl ?_
  refine b_bipush (v := nI 16) dJ6_bitCount_0f7a4_43 (by decide) ?_
  refine b_iushr dJ6_bitCount_0f7a4_45 ?_
  refine b_iadd dJ6_bitCount_0f7a4_46 ?_
  refine b_istore_n dJ6_bitCount_0f7a4_47 (by decide) rfl ?_
  refine b_iload_n dJ6_bitCount_0f7a4_48 rfl ?_
  refine b_bipush (v := nI 63) dJ6_bitCount_0f7a4_49 (by decide) ?_
  refine b_iand dJ6_bitCount_0f7a4_51 ?_
  exact b_iret dJ6_bitCount_0f7a4_52 ⟨congrArg (fun z => some (Value.int z)) (pc_val hn), rfl⟩
theorem c_bitCount {G : GT} {d : Nat} {h : HT} {x : Int32} (hx : lo 16 x) : Fn G d mJ6_bitCount_0f7a4 [.int x] h (Ret (some (.int (nI (cnt x 16)))) h) := by
  obtain ⟨n, hn, rfl⟩ := lo_nat (by omega) hx
  exact c_bitCountN hn
def mMin (x y : Int32) : Int32 := if y < x then y else x
def mMax (x y : Int32) : Int32 := if x < y then y else x
theorem mx_code : Cond.code Lib.Math.max.name Lib.Math.max.code 2 (some .int) ∈ TB := by
  have e : Cond.code Lib.Math.max.name Lib.Math.max.code 2 (some .int) = Cond.code yJ9_max_7cf53 cJ9_max_7cf53 2 (some .int) := by decide +kernel
  rw [e]; exact cdJ9_max_7cf53
theorem mn_code : Cond.code Lib.Math.min.name Lib.Math.min.code 2 (some .int) ∈ TB := by
  have e : Cond.code Lib.Math.min.name Lib.Math.min.code 2 (some .int) = Cond.code yJ9_min_7cf53 cJ9_min_7cf53 2 (some .int) := by decide +kernel
  rw [e]; exact cdJ9_min_7cf53
theorem mxl_code : Cond.code Lib.MathLoose.max_long.x Lib.MathLoose.max_long.code 4 (some .long) ∈ TB := by
  have e : Cond.code Lib.MathLoose.max_long.x Lib.MathLoose.max_long.code 4 (some .long) = Cond.code yJ9_max_f86c9 cJ9_max_f86c9 4 (some .long) := by decide +kernel
  rw [e]; exact cdJ9_max_f86c9
theorem mnl_code : Cond.code Lib.MathLoose.min_long.x Lib.MathLoose.min_long.code 4 (some .long) ∈ TB := by
  have e : Cond.code Lib.MathLoose.min_long.x Lib.MathLoose.min_long.code 4 (some .long) = Cond.code yJ9_min_f86c9 cJ9_min_f86c9 4 (some .long) := by decide +kernel
  rw [e]; exact cdJ9_min_f86c9
section MathRules
variable {G : GT} {own : String} {cc : ByteArray} {nL : Nat} {ret : Option FieldType} {d : Nat} {Q : QT} {pc : Nat} {ls : LT} {st : List Value} {h : HT}
theorem b_mmax {idx : Nat} {x y : Int32} (hd : decode cc pc = .ok (.invokestatic idx, 3)) (hlk : Cond.methodLink own idx yJ9_max_7cf53 ∈ TB) (hw : (st.map fun v => v.category).sum ≤ 8) (k : BB G own cc nL ret (d + 1) Q (pc + 3) ls (.int (mMax x y) :: st) h) : BB G own cc nL ret (d + 1) Q pc ls (.int y :: .int x :: st) h :=
  fun p e R s m args below meth c cells slots E H locs lsA hH hS hl => va_mmax E.1 E.2.1 (E.2.2.1.trans hl.1.symm) E.2.2.2.2.2.1 (E.2.2.2.2.2.2.1 _ hlk) (E.2.2.2.2.2.2.1 _ stJ9_max_7cf53) (E.2.2.2.2.2.2.1 _ iniJ9) (E.2.2.2.2.2.2.1 _ mx_code) (by have := E.2.2.2.2.2.2.2.2.2.1; omega) (by have := E.2.2.2.2.2.2.2.2.2.1; omega) E.2.2.2.2.2.2.2.2.2.2.1 E.2.2.2.2.2.2.2.2.2.2.2 hd (k p e R s m args below meth c cells slots E H locs lsA hH hS hl)
theorem b_mmin {idx : Nat} {x y : Int32} (hd : decode cc pc = .ok (.invokestatic idx, 3)) (hlk : Cond.methodLink own idx yJ9_min_7cf53 ∈ TB) (hw : (st.map fun v => v.category).sum ≤ 8) (k : BB G own cc nL ret (d + 1) Q (pc + 3) ls (.int (mMin x y) :: st) h) : BB G own cc nL ret (d + 1) Q pc ls (.int y :: .int x :: st) h :=
  fun p e R s m args below meth c cells slots E H locs lsA hH hS hl => va_mmin E.1 E.2.1 (E.2.2.1.trans hl.1.symm) E.2.2.2.2.2.1 (E.2.2.2.2.2.2.1 _ hlk) (E.2.2.2.2.2.2.1 _ stJ9_min_7cf53) (E.2.2.2.2.2.2.1 _ iniJ9) (E.2.2.2.2.2.2.1 _ mn_code) (by have := E.2.2.2.2.2.2.2.2.2.1; omega) (by have := E.2.2.2.2.2.2.2.2.2.1; omega) E.2.2.2.2.2.2.2.2.2.2.1 E.2.2.2.2.2.2.2.2.2.2.2 hd (k p e R s m args below meth c cells slots E H locs lsA hH hS hl)
def mMaxL (x y : Int64) : Int64 := if y < x then x else y
def mMinL (x y : Int64) : Int64 := if y < x then y else x
theorem b_mmaxl {idx : Nat} {x y : Int64} (hd : decode cc pc = .ok (.invokestatic idx, 3)) (hlk : Cond.methodLink own idx yJ9_max_f86c9 ∈ TB) (hw : (st.map fun v => v.category).sum ≤ 8) (k : BB G own cc nL ret (d + 1) Q (pc + 3) ls (.long (mMaxL x y) :: st) h) : BB G own cc nL ret (d + 1) Q pc ls (.long y :: .long x :: st) h :=
  fun p e R s m args below meth c cells slots E H locs lsA hH hS hl => va_mmax_long E.1 E.2.1 (E.2.2.1.trans hl.1.symm) E.2.2.2.2.2.1 (E.2.2.2.2.2.2.1 _ hlk) (E.2.2.2.2.2.2.1 _ stJ9_max_f86c9) (E.2.2.2.2.2.2.1 _ iniJ9) (E.2.2.2.2.2.2.1 _ mxl_code) (by have := E.2.2.2.2.2.2.2.2.2.1; omega) (by have := E.2.2.2.2.2.2.2.2.2.1; omega) E.2.2.2.2.2.2.2.2.2.2.1 E.2.2.2.2.2.2.2.2.2.2.2 hd (k p e R s m args below meth c cells slots E H locs lsA hH hS hl)
theorem b_mminl {idx : Nat} {x y : Int64} (hd : decode cc pc = .ok (.invokestatic idx, 3)) (hlk : Cond.methodLink own idx yJ9_min_f86c9 ∈ TB) (hw : (st.map fun v => v.category).sum ≤ 8) (k : BB G own cc nL ret (d + 1) Q (pc + 3) ls (.long (mMinL x y) :: st) h) : BB G own cc nL ret (d + 1) Q pc ls (.long y :: .long x :: st) h :=
  fun p e R s m args below meth c cells slots E H locs lsA hH hS hl => va_mmin_long E.1 E.2.1 (E.2.2.1.trans hl.1.symm) E.2.2.2.2.2.1 (E.2.2.2.2.2.2.1 _ hlk) (E.2.2.2.2.2.2.1 _ stJ9_min_f86c9) (E.2.2.2.2.2.2.1 _ iniJ9) (E.2.2.2.2.2.2.1 _ mnl_code) (by have := E.2.2.2.2.2.2.2.2.2.1; omega) (by have := E.2.2.2.2.2.2.2.2.2.1; omega) E.2.2.2.2.2.2.2.2.2.2.1 E.2.2.2.2.2.2.2.2.2.2.2 hd (k p e R s m args below meth c cells slots E H locs lsA hH hS hl)
end MathRules
def mCmp (x y : Int32) : Int32 := if x < y then -1 else if x = y then nI 0 else nI 1
theorem c_compare {G : GT} {d : Nat} {h : HT} {x y : Int32} : Fn G d mJ6_compare_7cf53 [.int x, .int y] h (Ret (some (.int (mCmp x y))) h) := by
  refine fn_of (ls := [some (.int x), some (.int y)]) (by decide +kernel) (Nat.le_of_ble_eq_true rfl) 0 rfl ?_
  refine b_iload_n dJ6_compare_7cf53_0 rfl ?_
  refine b_iload_n dJ6_compare_7cf53_1 rfl ?_
  refine b_icmp_ge 9 dJ6_compare_7cf53_2 (by decide) (fun c1 => ?_) (fun c1 => ?_)
  · skip
    refine b_iload_n dJ6_compare_7cf53_9 rfl ?_
    refine b_iload_n dJ6_compare_7cf53_10 rfl ?_
    have c0 : ¬ x < y := fun z => by
      have := Int32.not_le.mpr z
      exact this c1
    refine b_icmp_ne 18 dJ6_compare_7cf53_11 (by decide) (fun c2 => ?_) (fun c2 => ?_)
    · skip
      refine b_iconst (v := nI 1) dJ6_compare_7cf53_18 (by decide) ?_
      exact b_iret dJ6_compare_7cf53_19 ⟨by simp [mCmp, c0, c2], rfl⟩
    · skip
      refine b_iconst (v := nI 0) dJ6_compare_7cf53_14 (by decide) ?_
      refine b_goto 19 dJ6_compare_7cf53_15 (by decide) ?_
      exact b_iret dJ6_compare_7cf53_19 ⟨by simp [mCmp, c0, c2], rfl⟩
  · skip
    refine b_iconst (v := -1) dJ6_compare_7cf53_5 (by decide) ?_
    refine b_goto 19 dJ6_compare_7cf53_6 (by decide) ?_
    exact b_iret dJ6_compare_7cf53_19 ⟨by simp [mCmp, Int32.not_le.mp c1], rfl⟩
/-- a row's first n places hold x -/
def flS (σ : ST) (a n : Nat) (x : Int32) : ST := fun p q => if p = a ∧ q < n then x else σ p q
theorem flS_0 (σ : ST) (a : Nat) (x : Int32) : flS σ a 0 x = σ := by funext p q; simp [flS]
theorem flS_s (σ : ST) (a n : Nat) (x : Int32) : pt (flS σ a n x) a n x = flS σ a (n + 1) x := by
  funext p q
  by_cases hp : p = a
  · by_cases hq : q = n
    · simp [pt, flS, hp, hq]
    · have : (q < n + 1) = (q < n) := by simp; omega
      simp [pt, flS, hp, hq, this]
  · simp [pt, flS, hp]
theorem c_fill {G : GT} {d : Nat} {σ : ST} {μ : SL} {a m : Nat} {x : Int32} (hA : AI G a m) : Fn G d mJ7_fill_53178 [.ref (G.b0 + a), .int x] (sh G σ μ) (Ret none (sh G (flS σ a m x) μ)) := by
  have hm := hA.2.1
  refine fn_of (ls := [some (.ref (G.b0 + a)), some (.int x), none, none]) (by decide +kernel) (Nat.le_of_ble_eq_true rfl) 2 rfl ?_
  refine b_iconst (v := nI 0) dJ7_fill_53178_0 (by decide) ?_
  refine b_istore_n dJ7_fill_53178_1 (by decide) rfl ?_
  refine b_aload_n dJ7_fill_53178_2 rfl ?_
  refine g_ilen dJ7_fill_53178_3 hA ?_
  refine b_istore_n dJ7_fill_53178_4 (by decide) rfl ?_
  have lp : ∀ (n i : Nat), i + n = m → BB G RJ7 cJ7_fill_53178 4 none d (QM G (Ret none (sh G (flS σ a m x) μ))) 5 [some (.ref (G.b0 + a)), some (.int x), some (.int (nI i)), some (.int (nI m))] [] (sh G (flS σ a i x) μ) := by
    intro n
    induction n with
    | zero =>
      intro i hi
      refine b_iload_n dJ7_fill_53178_5 rfl ?_
      refine b_iload_n dJ7_fill_53178_6 rfl ?_
      refine b_icmp_ge_t 20 dJ7_fill_53178_7 (by decide) (nI_le (by omega) (by omega)) ?_
      exact b_vret dJ7_fill_53178_20 ⟨rfl, by rw [show i = m by omega]⟩
    | succ n ih =>
      intro i hi
      refine b_iload_n dJ7_fill_53178_5 rfl ?_
      refine b_iload_n dJ7_fill_53178_6 rfl ?_
      refine b_icmp_ge_f 20 dJ7_fill_53178_7 (by decide) (nI_ge (by omega) (by omega)) ?_
      refine b_aload_n dJ7_fill_53178_10 rfl ?_
      refine b_iload_n dJ7_fill_53178_11 rfl ?_
      refine b_iload_n dJ7_fill_53178_12 rfl ?_
      refine g_iast dJ7_fill_53178_13 hA rfl (by omega) ?_
      refine b_iinc dJ7_fill_53178_14 rfl (nI_1 _) (by decide) rfl ?_
      refine b_goto 5 dJ7_fill_53178_17 (by decide) ?_
      rw [flS_s]
      exact ih (i + 1) (by omega)
  have h0 := lp m 0 (by omega)
  rw [flS_0] at h0
  exact h0
def flL (μ : SL) (a n : Nat) (x : Int64) : SL := fun p q => if p = a ∧ q < n then x else μ p q
theorem flL_0 (σ : SL) (a : Nat) (x : Int64) : flL σ a 0 x = σ := by funext p q; simp [flL]
theorem flL_s (σ : SL) (a n : Nat) (x : Int64) : ptL (flL σ a n x) a n x = flL σ a (n + 1) x := by
  funext p q
  by_cases hp : p = a
  · by_cases hq : q = n
    · simp [ptL, flL, hp, hq]
    · have : (q < n + 1) = (q < n) := by simp; omega
      simp [ptL, flL, hp, hq, this]
  · simp [ptL, flL, hp]
theorem c_fillL {G : GT} {d : Nat} {σ : ST} {μ : SL} {a m : Nat} {x : Int64} (hA : AL G a m) : Fn G d mJ7_fill_d0a16 [.ref (G.b0 + a), .long x] (sh G σ μ) (Ret none (sh G σ (flL μ a m x))) := by
  have hm := hA.2.1
  refine fn_of (ls := [some (.ref (G.b0 + a)), some (.long x), none, none, none]) (by decide +kernel) (Nat.le_of_ble_eq_true rfl) 2 rfl ?_
  refine b_iconst (v := nI 0) dJ7_fill_d0a16_0 (by decide) ?_
  refine b_istore_n dJ7_fill_d0a16_1 (by decide) rfl ?_
  refine b_aload_n dJ7_fill_d0a16_2 rfl ?_
  refine g_llen dJ7_fill_d0a16_3 hA ?_
  refine b_istore dJ7_fill_d0a16_4 (by decide) rfl ?_
  have lp : ∀ (n i : Nat), i + n = m → BB G RJ7 cJ7_fill_d0a16 5 none d (QM G (Ret none (sh G σ (flL μ a m x)))) 6 [some (.ref (G.b0 + a)), some (.long x), none, some (.int (nI i)), some (.int (nI m))] [] (sh G σ (flL μ a i x)) := by
    intro n
    induction n with
    | zero =>
      intro i hi
      refine b_iload_n dJ7_fill_d0a16_6 rfl ?_
      refine b_iload dJ7_fill_d0a16_7 rfl ?_
      refine b_icmp_ge_t 22 dJ7_fill_d0a16_9 (by decide) (nI_le (by omega) (by omega)) ?_
      exact b_vret dJ7_fill_d0a16_22 ⟨rfl, by rw [show i = m by omega]⟩
    | succ n ih =>
      intro i hi
      refine b_iload_n dJ7_fill_d0a16_6 rfl ?_
      refine b_iload dJ7_fill_d0a16_7 rfl ?_
      refine b_icmp_ge_f 22 dJ7_fill_d0a16_9 (by decide) (nI_ge (by omega) (by omega)) ?_
      refine b_aload_n dJ7_fill_d0a16_12 rfl ?_
      refine b_iload_n dJ7_fill_d0a16_13 rfl ?_
      refine b_lload_n dJ7_fill_d0a16_14 rfl ?_
      refine g_last dJ7_fill_d0a16_15 hA rfl (by omega) ?_
      refine b_iinc dJ7_fill_d0a16_16 rfl (nI_1 _) (by decide) rfl ?_
      refine b_goto 6 dJ7_fill_d0a16_19 (by decide) ?_
      rw [flL_s]
      exact ih (i + 1) (by omega)
  have h0 := lp m 0 (by omega)
  rw [flL_0] at h0
  exact h0
end
section
/-! ===== Land: what is read ===== -/
/-- a land's counts -/
def LV (σ : ST) (a W F P : Nat) : Prop := σ a 6 = nI W ∧ σ a 7 = nI F ∧ σ a 8 = nI P ∧ W ≤ 16 ∧ F ≤ 8 ∧ P ≤ 6
def mAll (n : Nat) : Int32 := nI 1 <<< (nI n &&& 31) - nI 1
def mSide (hold : Nat → Int32) (f : Nat) (w : Nat) : Int32 := if bt (hold f) w then hold f else hold f ^^^ (-1)
def mPoss (hold : Nat → Int32) (W : Nat) (told : Int32) (w : Nat) : Nat → Int32
  | 0 => mAll W
  | f + 1 => if bt told f then mPoss hold W told w f &&& mSide hold f w else mPoss hold W told w f
def mKn (H : Int32) (p : Int32) : Bool := decide (p &&& H = 0) || decide (p &&& H = p)
def mKnown (hold : Nat → Int32) (p : Int32) : Nat → Int32
  | 0 => nI 0
  | f + 1 => if mKn (hold f) p then mKnown hold p f ||| (nI 1 <<< (nI f &&& 31)) else mKnown hold p f
theorem c_allWorlds {G : GT} {d : Nat} {σ : ST} {μ : SL} {a W : Nat} (La : Lnd G a) (hW : σ a 6 = nI W) : Fn G d mX2_allWorlds [.ref (G.b0 + a)] (sh G σ μ) (Ret (some (.int (mAll W))) (sh G σ μ)) := by
  refine fn_of (ls := [some (.ref (G.b0 + a))]) (by decide +kernel) (Nat.le_of_ble_eq_true rfl) 0 rfl ?_
  refine b_iconst (v := nI 1) dX2_allWorlds_0 (by decide) ?_
  refine b_aload_n dX2_allWorlds_1 rfl ?_
  refine g_geti dX2_allWorlds_2 fX2_37 La.1 rfl hW ?_
  refine b_ishl dX2_allWorlds_5 ?_
  refine b_iconst (v := nI 1) dX2_allWorlds_6 (by decide) ?_
  refine b_isub dX2_allWorlds_7 ?_
  exact b_iret dX2_allWorlds_8 ⟨rfl, rfl⟩
theorem c_allFacts {G : GT} {d : Nat} {σ : ST} {μ : SL} {a F : Nat} (La : Lnd G a) (hF : σ a 7 = nI F) : Fn G d mX2_allFacts [.ref (G.b0 + a)] (sh G σ μ) (Ret (some (.int (mAll F))) (sh G σ μ)) := by
  refine fn_of (ls := [some (.ref (G.b0 + a))]) (by decide +kernel) (Nat.le_of_ble_eq_true rfl) 0 rfl ?_
  refine b_iconst (v := nI 1) dX2_allFacts_0 (by decide) ?_
  refine b_aload_n dX2_allFacts_1 rfl ?_
  refine g_geti dX2_allFacts_2 fX2_40 La.1 rfl hF ?_
  refine b_ishl dX2_allFacts_5 ?_
  refine b_iconst (v := nI 1) dX2_allFacts_6 (by decide) ?_
  refine b_isub dX2_allFacts_7 ?_
  exact b_iret dX2_allFacts_8 ⟨rfl, rfl⟩
theorem c_sideOf {G : GT} {d : Nat} {σ : ST} {μ : SL} {a f w : Nat} (La : Lnd G a) (hf : f < 8) (hw : w < 32) : Fn G d mX2_sideOf [.ref (G.b0 + a), .int (nI f), .int (nI w)] (sh G σ μ) (Ret (some (.int (mSide (σ (a + 3)) f w))) (sh G σ μ)) := by
  refine fn_of (ls := [some (.ref (G.b0 + a)), some (.int (nI f)), some (.int (nI w))]) (by decide +kernel) (Nat.le_of_ble_eq_true rfl) 0 rfl ?_
  refine b_aload_n dX2_sideOf_0 rfl ?_
  refine g_get dX2_sideOf_1 fX2_18 La.1 rfl ?_
  refine b_iload_n dX2_sideOf_4 rfl ?_
  refine g_iald dX2_sideOf_5 La.2.2.2.1 rfl (by omega) ?_
  refine b_iload_n dX2_sideOf_6 rfl ?_
  refine b_ishr dX2_sideOf_7 ?_
  refine b_iconst (v := nI 1) dX2_sideOf_8 (by decide) ?_
  refine b_iand dX2_sideOf_9 ?_
  refine b_iconst (v := nI 1) dX2_sideOf_10 (by decide) ?_
  refine b_icmp_ne 23 dX2_sideOf_11 (by decide) (fun c1 => ?_) (fun c1 => ?_)
  · skip
    refine b_aload_n dX2_sideOf_23 rfl ?_
    refine g_get dX2_sideOf_24 fX2_18 La.1 rfl ?_
    refine b_iload_n dX2_sideOf_27 rfl ?_
    refine g_iald dX2_sideOf_28 La.2.2.2.1 rfl (by omega) ?_
    refine b_iconst (v := -1) dX2_sideOf_29 (by decide) ?_
    refine b_ixor dX2_sideOf_30 ?_
    have c2 : ¬ bt (σ (a + 3) f) w = true := fun z => c1 ((b_test hw).mpr z)
    exact b_iret dX2_sideOf_31 ⟨by simp [mSide, c2], rfl⟩
  · skip
    refine b_aload_n dX2_sideOf_14 rfl ?_
    refine g_get dX2_sideOf_15 fX2_18 La.1 rfl ?_
    refine b_iload_n dX2_sideOf_18 rfl ?_
    refine g_iald dX2_sideOf_19 La.2.2.2.1 rfl (by omega) ?_
    refine b_goto 31 dX2_sideOf_20 (by decide) ?_
    have c2 := (b_test hw).mp c1
    exact b_iret dX2_sideOf_31 ⟨by simp [mSide, c2], rfl⟩
theorem c_possible {G : GT} {d : Nat} {σ : ST} {μ : SL} {a W F P w : Nat} {told : Int32} (La : Lnd G a) (hL : LV σ a W F P) (hw : w < 32) : Fn G (d + 1) mX2_possible [.ref (G.b0 + a), .int told, .int (nI w)] (sh G σ μ) (Ret (some (.int (mPoss (σ (a + 3)) W told w F))) (sh G σ μ)) := by
  obtain ⟨hW, hF, hP, hW16, hF8, hP6⟩ := hL
  refine fn_of (ls := [some (.ref (G.b0 + a)), some (.int told), some (.int (nI w)), none, none]) (by decide +kernel) (Nat.le_of_ble_eq_true rfl) 2 rfl ?_
  refine b_aload_n dX2_possible_0 rfl ?_
  refine g_callV [] dX2_possible_1 kX2_allWorlds lX2_61 La.1 rfl rfl (c_allWorlds La hW) rfl rfl (Nat.le_of_ble_eq_true rfl) ?_
  refine b_istore_n dX2_possible_4 (by decide) rfl ?_
  refine b_iconst (v := nI 0) dX2_possible_5 (by decide) ?_
  refine b_istore dX2_possible_6 (by decide) rfl ?_
  have lp : ∀ (n i : Nat) (x : Int32), i + n = F → x = mPoss (σ (a + 3)) W told w i → BB G RX2 cX2_possible 5 (some .int) (d + 1) (QM G (Ret (some (.int (mPoss (σ (a + 3)) W told w F))) (sh G σ μ))) 8 [some (.ref (G.b0 + a)), some (.int told), some (.int (nI w)), some (.int x), some (.int (nI i))] [] (sh G σ μ) := by
    intro n
    induction n with
    | zero =>
      intro i x hi hx
      refine b_iload dX2_possible_8 rfl ?_
      refine b_aload_n dX2_possible_10 rfl ?_
      refine g_geti dX2_possible_11 fX2_40 La.1 rfl hF ?_
      refine b_icmp_ge_t 43 dX2_possible_14 (by decide) (nI_le (by omega) (by omega)) ?_
      refine b_iload_n dX2_possible_43 rfl ?_
      exact b_iret dX2_possible_44 ⟨by rw [hx, show i = F by omega], rfl⟩
    | succ n ih =>
      intro i x hi hx
      refine b_iload dX2_possible_8 rfl ?_
      refine b_aload_n dX2_possible_10 rfl ?_
      refine g_geti dX2_possible_11 fX2_40 La.1 rfl hF ?_
      refine b_icmp_ge_f 43 dX2_possible_14 (by decide) (nI_ge (by omega) (by omega)) ?_
      refine b_iload_n dX2_possible_17 rfl ?_
      refine b_iload dX2_possible_18 rfl ?_
      refine b_ishr dX2_possible_20 ?_
      refine b_iconst (v := nI 1) dX2_possible_21 (by decide) ?_
      refine b_iand dX2_possible_22 ?_
      refine b_iconst (v := nI 1) dX2_possible_23 (by decide) ?_
      refine b_icmp_ne 37 dX2_possible_24 (by decide) (fun c1 => ?_) (fun c1 => ?_)
      · skip
        refine b_iinc dX2_possible_37 rfl (nI_1 _) (by decide) rfl ?_
        refine b_goto 8 dX2_possible_40 (by decide) ?_
        have c2 : ¬ bt told i = true := fun z => c1 ((b_test (by omega)).mpr z)
        exact ih (i + 1) _ (by omega) (by simp [mPoss, c2, hx])
      · skip
        refine b_iload_n dX2_possible_27 rfl ?_
        refine b_aload_n dX2_possible_28 rfl ?_
        refine b_iload dX2_possible_29 rfl ?_
        refine b_iload_n dX2_possible_31 rfl ?_
        refine g_callV [.int (nI i), .int (nI w)] dX2_possible_32 kX2_sideOf lX2_65 La.1 rfl rfl (c_sideOf La (by omega) hw) rfl rfl (Nat.le_of_ble_eq_true rfl) ?_
        refine b_iand dX2_possible_35 ?_
        refine b_istore_n dX2_possible_36 (by decide) rfl ?_
        refine b_iinc dX2_possible_37 rfl (nI_1 _) (by decide) rfl ?_
        refine b_goto 8 dX2_possible_40 (by decide) ?_
        have c2 := (b_test (by omega)).mp c1
        exact ih (i + 1) _ (by omega) (by simp [mPoss, c2, hx])
  exact lp F 0 _ (by omega) rfl
theorem c_isKnown {G : GT} {d : Nat} {σ : ST} {μ : SL} {a f : Nat} {q : Int32} (La : Lnd G a) (hf : f < 8) : Fn G d mX2_isKnown [.ref (G.b0 + a), .int (nI f), .int q] (sh G σ μ) (Ret (some (.int (bI (mKn (σ (a + 3) f) q)))) (sh G σ μ)) := by
  refine fn_of (ls := [some (.ref (G.b0 + a)), some (.int (nI f)), some (.int q), none]) (by decide +kernel) (Nat.le_of_ble_eq_true rfl) 1 rfl ?_
  refine b_iload_n dX2_isKnown_0 rfl ?_
  refine b_aload_n dX2_isKnown_1 rfl ?_
  refine g_get dX2_isKnown_2 fX2_18 La.1 rfl ?_
  refine b_iload_n dX2_isKnown_5 rfl ?_
  refine g_iald dX2_isKnown_6 La.2.2.2.1 rfl (by omega) ?_
  refine b_iand dX2_isKnown_7 ?_
  refine b_istore_n dX2_isKnown_8 (by decide) rfl ?_
  refine b_iload_n dX2_isKnown_9 rfl ?_
  refine b_if_eq 18 dX2_isKnown_10 (by decide) (fun c1 => ?_) (fun c1 => ?_)
  · skip
    refine b_iconst (v := nI 1) dX2_isKnown_18 (by decide) ?_
    refine b_goto 23 dX2_isKnown_19 (by decide) ?_
    exact b_zret dX2_isKnown_23 rfl ⟨by simp [mKn, c1, bI], rfl⟩
  · skip
    refine b_iload_n dX2_isKnown_13 rfl ?_
    refine b_iload_n dX2_isKnown_14 rfl ?_
    refine b_icmp_ne 22 dX2_isKnown_15 (by decide) (fun c2 => ?_) (fun c2 => ?_)
    · skip
      refine b_iconst (v := nI 0) dX2_isKnown_22 (by decide) ?_
      exact b_zret dX2_isKnown_23 rfl ⟨by simp [mKn, c1, c2, bI], rfl⟩
    · skip
      refine b_iconst (v := nI 1) dX2_isKnown_18 (by decide) ?_
      refine b_goto 23 dX2_isKnown_19 (by decide) ?_
      exact b_zret dX2_isKnown_23 rfl ⟨by simp [mKn, c2, bI], rfl⟩
theorem c_knownBy {G : GT} {d : Nat} {σ : ST} {μ : SL} {a W F P : Nat} {q : Int32} (La : Lnd G a) (hL : LV σ a W F P) : Fn G (d + 1) mX2_knownBy [.ref (G.b0 + a), .int q] (sh G σ μ) (Ret (some (.int (mKnown (σ (a + 3)) q F))) (sh G σ μ)) := by
  obtain ⟨hW, hF, hP, hW16, hF8, hP6⟩ := hL
  refine fn_of (ls := [some (.ref (G.b0 + a)), some (.int q), none, none]) (by decide +kernel) (Nat.le_of_ble_eq_true rfl) 2 rfl ?_
  refine b_iconst (v := nI 0) dX2_knownBy_0 (by decide) ?_
  refine b_istore_n dX2_knownBy_1 (by decide) rfl ?_
  refine b_iconst (v := nI 0) dX2_knownBy_2 (by decide) ?_
  refine b_istore_n dX2_knownBy_3 (by decide) rfl ?_
  have lp : ∀ (n i : Nat) (x : Int32), i + n = F → x = mKnown (σ (a + 3)) q i → BB G RX2 cX2_knownBy 4 (some .int) (d + 1) (QM G (Ret (some (.int (mKnown (σ (a + 3)) q F))) (sh G σ μ))) 4 [some (.ref (G.b0 + a)), some (.int q), some (.int x), some (.int (nI i))] [] (sh G σ μ) := by
    intro n
    induction n with
    | zero =>
      intro i x hi hx
      refine b_iload_n dX2_knownBy_4 rfl ?_
      refine b_aload_n dX2_knownBy_5 rfl ?_
      refine g_geti dX2_knownBy_6 fX2_40 La.1 rfl hF ?_
      refine b_icmp_ge_t 33 dX2_knownBy_9 (by decide) (nI_le (by omega) (by omega)) ?_
      refine b_iload_n dX2_knownBy_33 rfl ?_
      exact b_iret dX2_knownBy_34 ⟨by rw [hx, show i = F by omega], rfl⟩
    | succ n ih =>
      intro i x hi hx
      refine b_iload_n dX2_knownBy_4 rfl ?_
      refine b_aload_n dX2_knownBy_5 rfl ?_
      refine g_geti dX2_knownBy_6 fX2_40 La.1 rfl hF ?_
      refine b_icmp_ge_f 33 dX2_knownBy_9 (by decide) (nI_ge (by omega) (by omega)) ?_
      refine b_aload_n dX2_knownBy_12 rfl ?_
      refine b_iload_n dX2_knownBy_13 rfl ?_
      refine b_iload_n dX2_knownBy_14 rfl ?_
      refine g_callV [.int (nI i), .int q] dX2_knownBy_15 kX2_isKnown lX2_69 La.1 rfl rfl (c_isKnown La (by omega)) rfl rfl (Nat.le_of_ble_eq_true rfl) ?_
      refine b_if_eq 27 dX2_knownBy_18 (by decide) (fun c1 => ?_) (fun c1 => ?_)
      · skip
        refine b_iinc dX2_knownBy_27 rfl (nI_1 _) (by decide) rfl ?_
        refine b_goto 4 dX2_knownBy_30 (by decide) ?_
        exact ih (i + 1) _ (by omega) (by simp [mKnown, (bI_0 _).mp c1, hx])
      · skip
        refine b_iload_n dX2_knownBy_21 rfl ?_
        refine b_iconst (v := nI 1) dX2_knownBy_22 (by decide) ?_
        refine b_iload_n dX2_knownBy_23 rfl ?_
        refine b_ishl dX2_knownBy_24 ?_
        refine b_ior dX2_knownBy_25 ?_
        refine b_istore_n dX2_knownBy_26 (by decide) rfl ?_
        refine b_iinc dX2_knownBy_27 rfl (nI_1 _) (by decide) rfl ?_
        refine b_goto 4 dX2_knownBy_30 (by decide) ?_
        exact ih (i + 1) _ (by omega) (by simp [mKnown, (bI_1 _).mp c1, hx])
  exact lp F 0 _ (by omega) rfl
theorem c_isGuiltKnown {G : GT} {d : Nat} {σ : ST} {μ : SL} {a : Nat} {q : Int32} (La : Lnd G a) : Fn G d mX2_isGuiltKnown [.ref (G.b0 + a), .int q] (sh G σ μ) (Ret (some (.int (bI (mKn (σ a 5) q)))) (sh G σ μ)) := by
  refine fn_of (ls := [some (.ref (G.b0 + a)), some (.int q), none]) (by decide +kernel) (Nat.le_of_ble_eq_true rfl) 1 rfl ?_
  refine b_iload_n dX2_isGuiltKnown_0 rfl ?_
  refine b_aload_n dX2_isGuiltKnown_1 rfl ?_
  refine g_get dX2_isGuiltKnown_2 fX2_33 La.1 rfl ?_
  refine b_iand dX2_isGuiltKnown_5 ?_
  refine b_istore_n dX2_isGuiltKnown_6 (by decide) rfl ?_
  refine b_iload_n dX2_isGuiltKnown_7 rfl ?_
  refine b_if_eq 16 dX2_isGuiltKnown_8 (by decide) (fun c1 => ?_) (fun c1 => ?_)
  · skip
    refine b_iconst (v := nI 1) dX2_isGuiltKnown_16 (by decide) ?_
    refine b_goto 21 dX2_isGuiltKnown_17 (by decide) ?_
    exact b_zret dX2_isGuiltKnown_21 rfl ⟨by simp [mKn, c1, bI], rfl⟩
  · skip
    refine b_iload_n dX2_isGuiltKnown_11 rfl ?_
    refine b_iload_n dX2_isGuiltKnown_12 rfl ?_
    refine b_icmp_ne 20 dX2_isGuiltKnown_13 (by decide) (fun c2 => ?_) (fun c2 => ?_)
    · skip
      refine b_iconst (v := nI 0) dX2_isGuiltKnown_20 (by decide) ?_
      exact b_zret dX2_isGuiltKnown_21 rfl ⟨by simp [mKn, c1, c2, bI], rfl⟩
    · skip
      refine b_iconst (v := nI 1) dX2_isGuiltKnown_16 (by decide) ?_
      refine b_goto 21 dX2_isGuiltKnown_17 (by decide) ?_
      exact b_zret dX2_isGuiltKnown_21 rfl ⟨by simp [mKn, c2, bI], rfl⟩
def mFacts (hold : Nat → Int32) (w : Nat) : Nat → Int32
  | 0 => nI 0
  | f + 1 => if bt (hold f) w then mFacts hold w f ||| (nI 1 <<< (nI f &&& 31)) else mFacts hold w f
theorem or_0 (x : Int32) : x ||| (nI 0) = x := by
  apply b_ext; intro i hi; rw [b_or, b_n0]; simp
theorem shl_0 {k : Nat} (hk : k < 32) : nI 0 <<< (nI k &&& 31) = nI 0 := by
  apply b_ext; intro i hi; rw [b_shl k hk _ hi, b_n0, b_n0]; simp
theorem c_factsIn {G : GT} {d : Nat} {σ : ST} {μ : SL} {a W F P w : Nat} (La : Lnd G a) (hL : LV σ a W F P) (hw : w < 32) : Fn G d mX2_factsIn [.ref (G.b0 + a), .int (nI w)] (sh G σ μ) (Ret (some (.int (mFacts (σ (a + 3)) w F))) (sh G σ μ)) := by
  obtain ⟨hW, hF, hP, hW16, hF8, hP6⟩ := hL
  refine fn_of (ls := [some (.ref (G.b0 + a)), some (.int (nI w)), none, none]) (by decide +kernel) (Nat.le_of_ble_eq_true rfl) 2 rfl ?_
  refine b_iconst (v := nI 0) dX2_factsIn_0 (by decide) ?_
  refine b_istore_n dX2_factsIn_1 (by decide) rfl ?_
  refine b_iconst (v := nI 0) dX2_factsIn_2 (by decide) ?_
  refine b_istore_n dX2_factsIn_3 (by decide) rfl ?_
  have lp : ∀ (n i : Nat) (x : Int32), i + n = F → x = mFacts (σ (a + 3)) w i → BB G RX2 cX2_factsIn 4 (some .int) d (QM G (Ret (some (.int (mFacts (σ (a + 3)) w F))) (sh G σ μ))) 4 [some (.ref (G.b0 + a)), some (.int (nI w)), some (.int x), some (.int (nI i))] [] (sh G σ μ) := by
    intro n
    induction n with
    | zero =>
      intro i x hi hx
      refine b_iload_n dX2_factsIn_4 rfl ?_
      refine b_aload_n dX2_factsIn_5 rfl ?_
      refine g_geti dX2_factsIn_6 fX2_40 La.1 rfl hF ?_
      refine b_icmp_ge_t 33 dX2_factsIn_9 (by decide) (nI_le (by omega) (by omega)) ?_
      refine b_iload_n dX2_factsIn_33 rfl ?_
      exact b_iret dX2_factsIn_34 ⟨by rw [hx, show i = F by omega], rfl⟩
    | succ n ih =>
      intro i x hi hx
      refine b_iload_n dX2_factsIn_4 rfl ?_
      refine b_aload_n dX2_factsIn_5 rfl ?_
      refine g_geti dX2_factsIn_6 fX2_40 La.1 rfl hF ?_
      refine b_icmp_ge_f 33 dX2_factsIn_9 (by decide) (nI_ge (by omega) (by omega)) ?_
      refine b_iload_n dX2_factsIn_12 rfl ?_
      refine b_aload_n dX2_factsIn_13 rfl ?_
      refine g_get dX2_factsIn_14 fX2_18 La.1 rfl ?_
      refine b_iload_n dX2_factsIn_17 rfl ?_
      refine g_iald dX2_factsIn_18 La.2.2.2.1 rfl (by omega) ?_
      refine b_iload_n dX2_factsIn_19 rfl ?_
      refine b_ishr dX2_factsIn_20 ?_
      refine b_iconst (v := nI 1) dX2_factsIn_21 (by decide) ?_
      refine b_iand dX2_factsIn_22 ?_
      refine b_iload_n dX2_factsIn_23 rfl ?_
      refine b_ishl dX2_factsIn_24 ?_
      refine b_ior dX2_factsIn_25 ?_
      refine b_istore_n dX2_factsIn_26 (by decide) rfl ?_
      refine b_iinc dX2_factsIn_27 rfl (nI_1 _) (by decide) rfl ?_
      refine b_goto 4 dX2_factsIn_30 (by decide) ?_
      refine ih (i + 1) _ (by omega) ?_
      rw [b_testv hw, hx, mFacts]
      cases hb : bt (σ (a + 3) i) w
      · simp [shl_0 (show i < 32 by omega), or_0]
      · simp
  exact lp F 0 _ (by omega) rfl
def mWt (wt : Nat → Int32) (s : Int32) : Nat → Int32
  | 0 => nI 0
  | w + 1 => if bt s w then mWt wt s w + wt w else mWt wt s w
theorem c_weightOf {G : GT} {d : Nat} {σ : ST} {μ : SL} {a W F P : Nat} {q : Int32} (La : Lnd G a) (hL : LV σ a W F P) : Fn G d mX2_weightOf [.ref (G.b0 + a), .int q] (sh G σ μ) (Ret (some (.int (mWt (σ (a + 2)) q W))) (sh G σ μ)) := by
  obtain ⟨hW, hF, hP, hW16, hF8, hP6⟩ := hL
  refine fn_of (ls := [some (.ref (G.b0 + a)), some (.int q), none, none]) (by decide +kernel) (Nat.le_of_ble_eq_true rfl) 2 rfl ?_
  refine b_iconst (v := nI 0) dX2_weightOf_0 (by decide) ?_
  refine b_istore_n dX2_weightOf_1 (by decide) rfl ?_
  refine b_iconst (v := nI 0) dX2_weightOf_2 (by decide) ?_
  refine b_istore_n dX2_weightOf_3 (by decide) rfl ?_
  have lp : ∀ (n i : Nat) (x : Int32), i + n = W → x = mWt (σ (a + 2)) q i → BB G RX2 cX2_weightOf 4 (some .int) d (QM G (Ret (some (.int (mWt (σ (a + 2)) q W))) (sh G σ μ))) 4 [some (.ref (G.b0 + a)), some (.int q), some (.int x), some (.int (nI i))] [] (sh G σ μ) := by
    intro n
    induction n with
    | zero =>
      intro i x hi hx
      refine b_iload_n dX2_weightOf_4 rfl ?_
      refine b_aload_n dX2_weightOf_5 rfl ?_
      refine g_geti dX2_weightOf_6 fX2_37 La.1 rfl hW ?_
      refine b_icmp_ge_t 36 dX2_weightOf_9 (by decide) (nI_le (by omega) (by omega)) ?_
      refine b_iload_n dX2_weightOf_36 rfl ?_
      exact b_iret dX2_weightOf_37 ⟨by rw [hx, show i = W by omega], rfl⟩
    | succ n ih =>
      intro i x hi hx
      refine b_iload_n dX2_weightOf_4 rfl ?_
      refine b_aload_n dX2_weightOf_5 rfl ?_
      refine g_geti dX2_weightOf_6 fX2_37 La.1 rfl hW ?_
      refine b_icmp_ge_f 36 dX2_weightOf_9 (by decide) (nI_ge (by omega) (by omega)) ?_
      refine b_iload_n dX2_weightOf_12 rfl ?_
      refine b_iload_n dX2_weightOf_13 rfl ?_
      refine b_ishr dX2_weightOf_14 ?_
      refine b_iconst (v := nI 1) dX2_weightOf_15 (by decide) ?_
      refine b_iand dX2_weightOf_16 ?_
      refine b_iconst (v := nI 1) dX2_weightOf_17 (by decide) ?_
      refine b_icmp_ne 30 dX2_weightOf_18 (by decide) (fun c1 => ?_) (fun c1 => ?_)
      · skip
        refine b_iinc dX2_weightOf_30 rfl (nI_1 _) (by decide) rfl ?_
        refine b_goto 4 dX2_weightOf_33 (by decide) ?_
        have c2 : ¬ bt q i = true := fun z => c1 ((b_test (by omega)).mpr z)
        exact ih (i + 1) _ (by omega) (by simp [mWt, c2, hx])
      · skip
        refine b_iload_n dX2_weightOf_21 rfl ?_
        refine b_aload_n dX2_weightOf_22 rfl ?_
        refine g_get dX2_weightOf_23 fX2_15 La.1 rfl ?_
        refine b_iload_n dX2_weightOf_26 rfl ?_
        refine g_iald dX2_weightOf_27 La.2.2.1 rfl (by omega) ?_
        refine b_iadd dX2_weightOf_28 ?_
        refine b_istore_n dX2_weightOf_29 (by decide) rfl ?_
        refine b_iinc dX2_weightOf_30 rfl (nI_1 _) (by decide) rfl ?_
        refine b_goto 4 dX2_weightOf_33 (by decide) ?_
        have c2 := (b_test (by omega)).mp c1
        exact ih (i + 1) _ (by omega) (by simp [mWt, c2, hx])
  exact lp W 0 _ (by omega) rfl
def mRoads (road : Nat → Int32) : Nat → Nat
  | 0 => 0
  | p + 1 => mRoads road p + cnt (road p) 16
theorem mRoads_le (road : Nat → Int32) : ∀ p, mRoads road p ≤ 16 * p
  | 0 => Nat.le_refl 0
  | p + 1 => by
    have h1 := mRoads_le road p
    have h2 := cnt_le (road p) 16
    unfold mRoads
    omega
theorem c_countRoads {G : GT} {d : Nat} {σ : ST} {μ : SL} {a W F P : Nat} (La : Lnd G a) (hL : LV σ a W F P) (hr : ∀ p, p < P → lo 16 (σ (a + 5) p)) : Fn G (d + 1) mX2_countRoads [.ref (G.b0 + a)] (sh G σ μ) (Ret (some (.int (nI (mRoads (σ (a + 5)) P / 2)))) (sh G σ μ)) := by
  obtain ⟨hW, hF, hP, hW16, hF8, hP6⟩ := hL
  refine fn_of (ls := [some (.ref (G.b0 + a)), none, none]) (by decide +kernel) (Nat.le_of_ble_eq_true rfl) 2 rfl ?_
  refine b_iconst (v := nI 0) dX2_countRoads_0 (by decide) ?_
  refine b_istore_n dX2_countRoads_1 (by decide) rfl ?_
  refine b_iconst (v := nI 0) dX2_countRoads_2 (by decide) ?_
  refine b_istore_n dX2_countRoads_3 (by decide) rfl ?_
  have lp : ∀ (n i : Nat), i + n = P → BB G RX2 cX2_countRoads 3 (some .int) (d + 1) (QM G (Ret (some (.int (nI (mRoads (σ (a + 5)) P / 2)))) (sh G σ μ))) 4 [some (.ref (G.b0 + a)), some (.int (nI (mRoads (σ (a + 5)) i))), some (.int (nI i))] [] (sh G σ μ) := by
    intro n
    induction n with
    | zero =>
      intro i hi
      refine b_iload_n dX2_countRoads_4 rfl ?_
      refine b_aload_n dX2_countRoads_5 rfl ?_
      refine g_geti dX2_countRoads_6 fX2_43 La.1 rfl hP ?_
      refine b_icmp_ge_t 30 dX2_countRoads_9 (by decide) (nI_le (by omega) (by omega)) ?_
      refine b_iload_n dX2_countRoads_30 rfl ?_
      refine b_iconst (v := nI 2) dX2_countRoads_31 (by decide) ?_
      have hb := mRoads_le (σ (a + 5)) i
      refine b_idiv dX2_countRoads_32 (nI_ne0 (by omega) (by omega)) ?_
      refine b_iret dX2_countRoads_33 ⟨?_, rfl⟩
      rw [pk_div (by omega) (by omega) (by omega), show i = P by omega]
    | succ n ih =>
      intro i hi
      refine b_iload_n dX2_countRoads_4 rfl ?_
      refine b_aload_n dX2_countRoads_5 rfl ?_
      refine g_geti dX2_countRoads_6 fX2_43 La.1 rfl hP ?_
      refine b_icmp_ge_f 30 dX2_countRoads_9 (by decide) (nI_ge (by omega) (by omega)) ?_
      refine b_iload_n dX2_countRoads_12 rfl ?_
      refine b_aload_n dX2_countRoads_13 rfl ?_
      refine g_get dX2_countRoads_14 fX2_24 La.1 rfl ?_
      refine b_iload_n dX2_countRoads_17 rfl ?_
      refine g_iald dX2_countRoads_18 La.2.2.2.2.2 rfl (by omega) ?_
      refine b_callSr [.int (σ (a + 5) i)] dX2_countRoads_19 kJ6_bitCount_0f7a4 lX2_55 (c_bitCount (hr i (by omega))) rfl rfl (Nat.le_of_ble_eq_true rfl) ?_
      refine b_iaddN dX2_countRoads_22 ?_
      refine b_istore_n dX2_countRoads_23 (by decide) rfl ?_
      refine b_iinc dX2_countRoads_24 rfl (nI_1 _) (by decide) rfl ?_
      refine b_goto 4 dX2_countRoads_27 (by decide) ?_
      exact ih (i + 1) (by omega)
  exact lp P 0 (by omega)
/-- the measures -/
def mAmt (hold wt : Nat → Int32) (gl : Int32) (W F m : Nat) (p : Int32) : Int32 :=
  if m = 0 then nI (cnt p 16) else if m = 1 then mMin (nI (cnt (p &&& gl) 16)) (nI (cnt (p &&& (gl ^^^ (-1))) 16)) else if m = 2 then mWt wt p W else nI F - nI (cnt (mKnown hold p F) 16)
theorem lo_known (hold : Nat → Int32) (p : Int32) : ∀ n, n < 32 → lo n (mKnown hold p n)
  | 0, _ => fun i _ _ => b_n0 i
  | n + 1, h => by
    have ih := lo_mono (lo_known hold p n (by omega)) (Nat.le_succ n)
    unfold mKnown
    split
    · exact lo_or ih (lo_bit (by omega) h)
    · exact ih
theorem c_amountOf {G : GT} {d : Nat} {σ : ST} {μ : SL} {a W F P m : Nat} {q : Int32} (La : Lnd G a) (hL : LV σ a W F P) (hm : m < 4) (hq : lo 16 q) : Fn G (d + 2) mX2_amountOf [.ref (G.b0 + a), .int (nI m), .int q] (sh G σ μ) (Ret (some (.int (mAmt (σ (a + 3)) (σ (a + 2)) (σ a 5) W F m q))) (sh G σ μ)) := by
  have hL' := hL
  obtain ⟨hW, hF, hP, hW16, hF8, hP6⟩ := hL
  refine fn_of (ls := [some (.ref (G.b0 + a)), some (.int (nI m)), some (.int q)]) (by decide +kernel) (Nat.le_of_ble_eq_true rfl) 0 rfl ?_
  refine b_iload_n dX2_amountOf_0 rfl ?_
  have hmi : (nI m).toInt = (m : Int) := nI_toInt (by omega)
  rcases (show m = 0 ∨ m = 1 ∨ m = 2 ∨ m = 3 by omega) with rfl | rfl | rfl | rfl
  · refine b_tableIn 28 dX2_amountOf_1 (by rw [hmi]; decide) (by rw [hmi]; decide) (by rw [hmi]; rfl) (by decide) ?_
    refine b_iload_n dX2_amountOf_28 rfl ?_
    refine b_callSr [.int q] dX2_amountOf_29 kJ6_bitCount_0f7a4 lX2_55 (c_bitCount hq) rfl rfl (Nat.le_of_ble_eq_true rfl) ?_
    exact b_iret dX2_amountOf_32 ⟨by simp [mAmt], rfl⟩
  · refine b_tableIn 33 dX2_amountOf_1 (by rw [hmi]; decide) (by rw [hmi]; decide) (by rw [hmi]; rfl) (by decide) ?_
    refine b_iload_n dX2_amountOf_33 rfl ?_
    refine b_aload_n dX2_amountOf_34 rfl ?_
    refine g_get dX2_amountOf_35 fX2_33 La.1 rfl ?_
    refine b_iand dX2_amountOf_38 ?_
    refine b_callSr [.int (q &&& (σ a 5))] dX2_amountOf_39 kJ6_bitCount_0f7a4 lX2_55 (c_bitCount (lo_and hq)) rfl rfl (Nat.le_of_ble_eq_true rfl) ?_
    refine b_iload_n dX2_amountOf_42 rfl ?_
    refine b_aload_n dX2_amountOf_43 rfl ?_
    refine g_get dX2_amountOf_44 fX2_33 La.1 rfl ?_
    refine b_iconst (v := -1) dX2_amountOf_47 (by decide) ?_
    refine b_ixor dX2_amountOf_48 ?_
    refine b_iand dX2_amountOf_49 ?_
    refine b_callSr [.int (q &&& ((σ a 5) ^^^ ((-1))))] dX2_amountOf_50 kJ6_bitCount_0f7a4 lX2_55 (c_bitCount (lo_and hq)) rfl rfl (Nat.le_of_ble_eq_true rfl) ?_
    refine b_mmin dX2_amountOf_53 lX2_73 (Nat.le_of_ble_eq_true rfl) ?_
    exact b_iret dX2_amountOf_56 ⟨by simp [mAmt], rfl⟩
  · refine b_tableIn 57 dX2_amountOf_1 (by rw [hmi]; decide) (by rw [hmi]; decide) (by rw [hmi]; rfl) (by decide) ?_
    refine b_aload_n dX2_amountOf_57 rfl ?_
    refine b_iload_n dX2_amountOf_58 rfl ?_
    refine g_callV [.int q] dX2_amountOf_59 kX2_weightOf lX2_78 La.1 rfl rfl (c_weightOf La hL') rfl rfl (Nat.le_of_ble_eq_true rfl) ?_
    exact b_iret dX2_amountOf_62 ⟨by simp [mAmt], rfl⟩
  · refine b_tableOut 63 dX2_amountOf_1 (by rw [hmi]; decide) (by decide) ?_
    refine b_aload_n dX2_amountOf_63 rfl ?_
    refine g_geti dX2_amountOf_64 fX2_40 La.1 rfl hF ?_
    refine b_aload_n dX2_amountOf_67 rfl ?_
    refine b_iload_n dX2_amountOf_68 rfl ?_
    refine g_callV [.int q] dX2_amountOf_69 kX2_knownBy lX2_81 La.1 rfl rfl (c_knownBy La hL') rfl rfl (Nat.le_of_ble_eq_true rfl) ?_
    refine b_callSr [.int _] dX2_amountOf_72 kJ6_bitCount_0f7a4 lX2_55 (c_bitCount (lo_mono (lo_known _ _ F (by omega)) (by omega))) rfl rfl (Nat.le_of_ble_eq_true rfl) ?_
    refine b_isub dX2_amountOf_75 ?_
    exact b_iret dX2_amountOf_76 ⟨by simp [mAmt], rfl⟩
end
section
/-! ===== Land: who is least, right, steps, deeds; clear, become ===== -/
theorem bt_all {n i : Nat} (hn : n ≤ 30) (hi : i < 32) : bt (mAll n) i = decide (i < n) := by
  have e : mAll n = nI (2 ^ n - 1) := by
    unfold mAll
    have h1 : 1 * 2 ^ n < 2 ^ 32 := by rw [Nat.one_mul]; exact Nat.pow_lt_pow_right (by omega) (by omega)
    have h2 : 1 ≤ 2 ^ n := Nat.one_le_two_pow
    rw [pk_shlN (nI n &&& 31) n (s_l n (by omega)) h1, Nat.one_mul, nI_sub h2]
  rw [e, bt_nI hi, Nat.testBit_two_pow_sub_one]
theorem lo_all {n : Nat} (hn : n ≤ 30) : lo n (mAll n) := fun i h1 h2 => by rw [bt_all hn h2]; simp; omega
theorem lo_poss {hold : Nat → Int32} {W : Nat} {told : Int32} {w : Nat} (hW : W ≤ 30) : ∀ n, lo W (mPoss hold W told w n)
  | 0 => lo_all hW
  | n + 1 => by
    unfold mPoss
    split
    · exact lo_and (lo_poss hW n)
    · exact lo_poss hW n
def mLst (amt : Nat → Int32) : Nat → Int32 × Int32
  | 0 => (-1, -1)
  | p + 1 => if amt p ≤ (mLst amt p).2 then mLst amt p else (nI p, amt p)
def mLeast (hold wt : Nat → Int32) (gl : Int32) (W F P m : Nat) (told : Nat → Int32) (w : Nat) : Int32 := (mLst (fun p => mAmt hold wt gl W F m (mPoss hold W (told p) w F)) P).1
theorem c_leastBy {G : GT} {d : Nat} {σ : ST} {μ : SL} {a t W F P m w : Nat} (La : Lnd G a) (At : AI G t 6) (hL : LV σ a W F P) (hm : m < 4) (hw : w < 32) : Fn G (d + 3) mX2_leastBy [.ref (G.b0 + a), .int (nI m), .ref (G.b0 + t), .int (nI w)] (sh G σ μ) (Ret (some (.int (mLeast (σ (a + 3)) (σ (a + 2)) (σ a 5) W F P m (σ t) w))) (sh G σ μ)) := by
  have hL' := hL
  obtain ⟨hW, hF, hP, hW16, hF8, hP6⟩ := hL
  refine fn_of (ls := [some (.ref (G.b0 + a)), some (.int (nI m)), some (.ref (G.b0 + t)), some (.int (nI w)), none, none, none, none]) (by decide +kernel) (Nat.le_of_ble_eq_true rfl) 4 rfl ?_
  refine b_iconst (v := -1) dX2_leastBy_0 (by decide) ?_
  refine b_istore dX2_leastBy_1 (by decide) rfl ?_
  refine b_iconst (v := -1) dX2_leastBy_3 (by decide) ?_
  refine b_istore dX2_leastBy_4 (by decide) rfl ?_
  refine b_iconst (v := nI 0) dX2_leastBy_6 (by decide) ?_
  refine b_istore dX2_leastBy_7 (by decide) rfl ?_
  have lp : ∀ (n i : Nat) (x y : Int32) (z : Option Value), i + n = P → (x, y) = mLst (fun p => mAmt (σ (a + 3)) (σ (a + 2)) (σ a 5) W F m (mPoss (σ (a + 3)) W (σ t p) w F)) i → BB G RX2 cX2_leastBy 8 (some .int) (d + 3) (QM G (Ret (some (.int (mLeast (σ (a + 3)) (σ (a + 2)) (σ a 5) W F P m (σ t) w))) (sh G σ μ))) 9 [some (.ref (G.b0 + a)), some (.int (nI m)), some (.ref (G.b0 + t)), some (.int (nI w)), some (.int x), some (.int y), some (.int (nI i)), z] [] (sh G σ μ) := by
    intro n
    induction n with
    | zero =>
      intro i x y z hi hx
      refine b_iload dX2_leastBy_9 rfl ?_
      refine b_aload_n dX2_leastBy_11 rfl ?_
      refine g_geti dX2_leastBy_12 fX2_43 La.1 rfl hP ?_
      refine b_icmp_ge_t 55 dX2_leastBy_15 (by decide) (nI_le (by omega) (by omega)) ?_
      refine b_iload dX2_leastBy_55 rfl ?_
      exact b_iret dX2_leastBy_57 ⟨by rw [mLeast, show P = i by omega, ← hx], rfl⟩
    | succ n ih =>
      intro i x y z hi hx
      refine b_iload dX2_leastBy_9 rfl ?_
      refine b_aload_n dX2_leastBy_11 rfl ?_
      refine g_geti dX2_leastBy_12 fX2_43 La.1 rfl hP ?_
      refine b_icmp_ge_f 55 dX2_leastBy_15 (by decide) (nI_ge (by omega) (by omega)) ?_
      refine b_aload_n dX2_leastBy_18 rfl ?_
      refine b_iload_n dX2_leastBy_19 rfl ?_
      refine b_aload_n dX2_leastBy_20 rfl ?_
      refine b_aload_n dX2_leastBy_21 rfl ?_
      refine b_iload dX2_leastBy_22 rfl ?_
      refine g_iald dX2_leastBy_24 At rfl (by omega) ?_
      refine b_iload_n dX2_leastBy_25 rfl ?_
      refine g_callV [.int (σ t i), .int (nI w)] dX2_leastBy_26 kX2_possible lX2_84 La.1 rfl rfl (c_possible La hL' hw) rfl rfl (Nat.le_of_ble_eq_true rfl) ?_
      refine g_callV [.int (nI m), .int (mPoss (σ (a + 3)) W (σ t i) w F)] dX2_leastBy_29 kX2_amountOf lX2_87 La.1 rfl rfl (c_amountOf La hL' hm (lo_mono (lo_poss (by omega) _) hW16)) rfl rfl (Nat.le_of_ble_eq_true rfl) ?_
      refine b_istore dX2_leastBy_32 (by decide) rfl ?_
      refine b_iload dX2_leastBy_34 rfl ?_
      refine b_iload dX2_leastBy_36 rfl ?_
      refine b_icmp_le 49 dX2_leastBy_38 (by decide) (fun c1 => ?_) (fun c1 => ?_)
      · skip
        refine b_iinc dX2_leastBy_49 rfl (nI_1 _) (by decide) rfl ?_
        refine b_goto 9 dX2_leastBy_52 (by decide) ?_
        exact ih (i + 1) _ _ _ (by omega) (by rw [mLst, ← hx, if_pos c1])
      · skip
        refine b_iload dX2_leastBy_41 rfl ?_
        refine b_istore dX2_leastBy_43 (by decide) rfl ?_
        refine b_iload dX2_leastBy_45 rfl ?_
        refine b_istore dX2_leastBy_47 (by decide) rfl ?_
        refine b_iinc dX2_leastBy_49 rfl (nI_1 _) (by decide) rfl ?_
        refine b_goto 9 dX2_leastBy_52 (by decide) ?_
        exact ih (i + 1) _ _ _ (by omega) (by rw [mLst, ← hx, if_neg c1])
  exact lp P 0 _ _ _ (by omega) rfl
def mAlike (gl s : Int32) (w : Nat) : Int32 := if bt gl w then s &&& gl else s &&& (gl ^^^ (-1))
def mRight (hold wt : Nat → Int32) (gl : Int32) (W F : Nat) (told : Int32) (w : Nat) : Bool := decide (mWt wt (mPoss hold W told w F &&& (mAlike gl (mPoss hold W told w F) w ^^^ (-1))) W < mWt wt (mAlike gl (mPoss hold W told w F) w) W)
theorem c_isRight {G : GT} {d : Nat} {σ : ST} {μ : SL} {a W F P w : Nat} {told : Int32} (La : Lnd G a) (hL : LV σ a W F P) (hw : w < 32) : Fn G (d + 2) mX2_isRight [.ref (G.b0 + a), .int told, .int (nI w)] (sh G σ μ) (Ret (some (.int (bI (mRight (σ (a + 3)) (σ (a + 2)) (σ a 5) W F told w)))) (sh G σ μ)) := by
  refine fn_of (ls := [some (.ref (G.b0 + a)), some (.int told), some (.int (nI w)), none, none]) (by decide +kernel) (Nat.le_of_ble_eq_true rfl) 2 rfl ?_
  refine b_aload_n dX2_isRight_0 rfl ?_
  refine b_iload_n dX2_isRight_1 rfl ?_
  refine b_iload_n dX2_isRight_2 rfl ?_
  refine g_callV [.int told, .int (nI w)] dX2_isRight_3 kX2_possible lX2_84 La.1 rfl rfl (c_possible La hL hw) rfl rfl (Nat.le_of_ble_eq_true rfl) ?_
  refine b_istore_n dX2_isRight_6 (by decide) rfl ?_
  refine b_aload_n dX2_isRight_7 rfl ?_
  refine g_get dX2_isRight_8 fX2_33 La.1 rfl ?_
  refine b_iload_n dX2_isRight_11 rfl ?_
  refine b_ishr dX2_isRight_12 ?_
  refine b_iconst (v := nI 1) dX2_isRight_13 (by decide) ?_
  refine b_iand dX2_isRight_14 ?_
  refine b_iconst (v := nI 1) dX2_isRight_15 (by decide) ?_
  have J : ∀ al : Int32, al = mAlike (σ a 5) (mPoss (σ (a + 3)) W told w F) w → BB G RX2 cX2_isRight 5 (some .boolean) (d + 2) (QM G (Ret (some (.int (bI (mRight (σ (a + 3)) (σ (a + 2)) (σ a 5) W F told w)))) (sh G σ μ))) 36 [some (.ref (G.b0 + a)), some (.int told), some (.int (nI w)), some (.int (mPoss (σ (a + 3)) W told w F)), none] [.int al] (sh G σ μ) := by
    intro al hal
    refine b_istore dX2_isRight_36 (by decide) rfl ?_
    refine b_aload_n dX2_isRight_38 rfl ?_
    refine b_iload dX2_isRight_39 rfl ?_
    refine g_callV [.int al] dX2_isRight_41 kX2_weightOf lX2_78 La.1 rfl rfl (c_weightOf La hL) rfl rfl (Nat.le_of_ble_eq_true rfl) ?_
    refine b_aload_n dX2_isRight_44 rfl ?_
    refine b_iload_n dX2_isRight_45 rfl ?_
    refine b_iload dX2_isRight_46 rfl ?_
    refine b_iconst (v := -1) dX2_isRight_48 (by decide) ?_
    refine b_ixor dX2_isRight_49 ?_
    refine b_iand dX2_isRight_50 ?_
    refine g_callV [.int ((mPoss (σ (a + 3)) W told w F) &&& (al ^^^ ((-1))))] dX2_isRight_51 kX2_weightOf lX2_78 La.1 rfl rfl (c_weightOf La hL) rfl rfl (Nat.le_of_ble_eq_true rfl) ?_
    refine b_icmp_le 61 dX2_isRight_54 (by decide) (fun c2 => ?_) (fun c2 => ?_)
    · skip
      refine b_iconst (v := nI 0) dX2_isRight_61 (by decide) ?_
      exact b_zret dX2_isRight_62 rfl ⟨by rw [mRight, ← hal, decide_eq_false (Int32.not_lt.mpr c2)]; rfl, rfl⟩
    · skip
      refine b_iconst (v := nI 1) dX2_isRight_57 (by decide) ?_
      refine b_goto 62 dX2_isRight_58 (by decide) ?_
      exact b_zret dX2_isRight_62 rfl ⟨by rw [mRight, ← hal, decide_eq_true (Int32.not_le.mp c2)]; rfl, rfl⟩
  refine b_icmp_ne 28 dX2_isRight_16 (by decide) (fun c1 => ?_) (fun c1 => ?_)
  · skip
    refine b_iload_n dX2_isRight_28 rfl ?_
    refine b_aload_n dX2_isRight_29 rfl ?_
    refine g_get dX2_isRight_30 fX2_33 La.1 rfl ?_
    refine b_iconst (v := -1) dX2_isRight_33 (by decide) ?_
    refine b_ixor dX2_isRight_34 ?_
    refine b_iand dX2_isRight_35 ?_
    have c2 : ¬ bt (σ a 5) w = true := fun z => c1 ((b_test hw).mpr z)
    refine J _ ?_
    simp [mAlike, c2]
  · skip
    refine b_iload_n dX2_isRight_19 rfl ?_
    refine b_aload_n dX2_isRight_20 rfl ?_
    refine g_get dX2_isRight_21 fX2_33 La.1 rfl ?_
    refine b_iand dX2_isRight_24 ?_
    refine b_goto 36 dX2_isRight_25 (by decide) ?_
    have c2 := (b_test hw).mp c1
    refine J _ ?_
    simp [mAlike, c2]
def mSt1 (hold : Nat → Int32) (W F : Nat) (s to0 told : Int32) : Nat → Int32
  | 0 => to0
  | w + 1 => if bt s w then mSt1 hold W F s to0 told w ||| mPoss hold W told w F else mSt1 hold W F s to0 told w
def mSt (hold : Nat → Int32) (W F : Nat) (told : Nat → Int32) (s : Int32) : Nat → Int32
  | 0 => s
  | p + 1 => mSt1 hold W F s (mSt hold W F told s p) (told p) W
theorem c_stepFrom {G : GT} {d : Nat} {σ : ST} {μ : SL} {a t W F P : Nat} {s : Int32} (La : Lnd G a) (At : AI G t 6) (hL : LV σ a W F P) : Fn G (d + 2) mX2_stepFrom [.ref (G.b0 + a), .int s, .ref (G.b0 + t)] (sh G σ μ) (Ret (some (.int (mSt (σ (a + 3)) W F (σ t) s P))) (sh G σ μ)) := by
  have hL' := hL
  obtain ⟨hW, hF, hP, hW16, hF8, hP6⟩ := hL
  refine fn_of (ls := [some (.ref (G.b0 + a)), some (.int s), some (.ref (G.b0 + t)), none, none, none]) (by decide +kernel) (Nat.le_of_ble_eq_true rfl) 3 rfl ?_
  refine b_iload_n dX2_stepFrom_0 rfl ?_
  refine b_istore_n dX2_stepFrom_1 (by decide) rfl ?_
  refine b_iconst (v := nI 0) dX2_stepFrom_2 (by decide) ?_
  refine b_istore dX2_stepFrom_3 (by decide) rfl ?_
  have lp : ∀ (n i : Nat) (x : Int32) (z : Option Value), i + n = P → x = mSt (σ (a + 3)) W F (σ t) s i → BB G RX2 cX2_stepFrom 6 (some .int) (d + 2) (QM G (Ret (some (.int (mSt (σ (a + 3)) W F (σ t) s P))) (sh G σ μ))) 5 [some (.ref (G.b0 + a)), some (.int s), some (.ref (G.b0 + t)), some (.int x), some (.int (nI i)), z] [] (sh G σ μ) := by
    intro n
    induction n with
    | zero =>
      intro i x z hi hx
      refine b_iload dX2_stepFrom_5 rfl ?_
      refine b_aload_n dX2_stepFrom_7 rfl ?_
      refine g_geti dX2_stepFrom_8 fX2_43 La.1 rfl hP ?_
      refine b_icmp_ge_t 61 dX2_stepFrom_11 (by decide) (nI_le (by omega) (by omega)) ?_
      refine b_iload_n dX2_stepFrom_61 rfl ?_
      exact b_iret dX2_stepFrom_62 ⟨by rw [hx, show i = P by omega], rfl⟩
    | succ n ih =>
      intro i x z hi hx
      refine b_iload dX2_stepFrom_5 rfl ?_
      refine b_aload_n dX2_stepFrom_7 rfl ?_
      refine g_geti dX2_stepFrom_8 fX2_43 La.1 rfl hP ?_
      refine b_icmp_ge_f 61 dX2_stepFrom_11 (by decide) (nI_ge (by omega) (by omega)) ?_
      refine b_iconst (v := nI 0) dX2_stepFrom_14 (by decide) ?_
      refine b_istore dX2_stepFrom_15 (by decide) rfl ?_
      have lq : ∀ (k j : Nat) (y : Int32), j + k = W → y = mSt1 (σ (a + 3)) W F s x (σ t i) j → BB G RX2 cX2_stepFrom 6 (some .int) (d + 2) (QM G (Ret (some (.int (mSt (σ (a + 3)) W F (σ t) s P))) (sh G σ μ))) 17 [some (.ref (G.b0 + a)), some (.int s), some (.ref (G.b0 + t)), some (.int y), some (.int (nI i)), some (.int (nI j))] [] (sh G σ μ) := by
        intro k
        induction k with
        | zero =>
          intro j y hj hy
          refine b_iload dX2_stepFrom_17 rfl ?_
          refine b_aload_n dX2_stepFrom_19 rfl ?_
          refine g_geti dX2_stepFrom_20 fX2_37 La.1 rfl hW ?_
          refine b_icmp_ge_t 55 dX2_stepFrom_23 (by decide) (nI_le (by omega) (by omega)) ?_
          refine b_iinc dX2_stepFrom_55 rfl (nI_1 _) (by decide) rfl ?_
          refine b_goto 5 dX2_stepFrom_58 (by decide) ?_
          exact ih (i + 1) _ _ (by omega) (by rw [mSt, ← hx, hy, show j = W by omega])
        | succ k ihk =>
          intro j y hj hy
          refine b_iload dX2_stepFrom_17 rfl ?_
          refine b_aload_n dX2_stepFrom_19 rfl ?_
          refine g_geti dX2_stepFrom_20 fX2_37 La.1 rfl hW ?_
          refine b_icmp_ge_f 55 dX2_stepFrom_23 (by decide) (nI_ge (by omega) (by omega)) ?_
          refine b_iload_n dX2_stepFrom_26 rfl ?_
          refine b_iload dX2_stepFrom_27 rfl ?_
          refine b_ishr dX2_stepFrom_29 ?_
          refine b_iconst (v := nI 1) dX2_stepFrom_30 (by decide) ?_
          refine b_iand dX2_stepFrom_31 ?_
          refine b_iconst (v := nI 1) dX2_stepFrom_32 (by decide) ?_
          refine b_icmp_ne 49 dX2_stepFrom_33 (by decide) (fun c1 => ?_) (fun c1 => ?_)
          · skip
            refine b_iinc dX2_stepFrom_49 rfl (nI_1 _) (by decide) rfl ?_
            refine b_goto 17 dX2_stepFrom_52 (by decide) ?_
            have c2 : ¬ bt s j = true := fun z => c1 ((b_test (by omega)).mpr z)
            exact ihk (j + 1) _ (by omega) (by simp [mSt1, c2, hy])
          · skip
            refine b_iload_n dX2_stepFrom_36 rfl ?_
            refine b_aload_n dX2_stepFrom_37 rfl ?_
            refine b_aload_n dX2_stepFrom_38 rfl ?_
            refine b_iload dX2_stepFrom_39 rfl ?_
            refine g_iald dX2_stepFrom_41 At rfl (by omega) ?_
            refine b_iload dX2_stepFrom_42 rfl ?_
            refine g_callV [.int (σ t i), .int (nI j)] dX2_stepFrom_44 kX2_possible lX2_84 La.1 rfl rfl (c_possible La hL' (by omega)) rfl rfl (Nat.le_of_ble_eq_true rfl) ?_
            refine b_ior dX2_stepFrom_47 ?_
            refine b_istore_n dX2_stepFrom_48 (by decide) rfl ?_
            refine b_iinc dX2_stepFrom_49 rfl (nI_1 _) (by decide) rfl ?_
            refine b_goto 17 dX2_stepFrom_52 (by decide) ?_
            have c2 := (b_test (by omega)).mp c1
            exact ihk (j + 1) _ (by omega) (by simp [mSt1, c2, hy])
      exact lq W 0 _ (by omega) rfl
  exact lp P 0 _ _ (by omega) rfl
/-- deeds: -1, or 0 to 199 with its person and its fact in the land -/
def mDeed (F P : Nat) (v : Int64) : Bool := decide (v = -1) || (decide (0 ≤ v.toInt) && decide (v.toInt < 200) && decide (v.toInt.toNat % 100 / 10 < P) && decide (v.toInt.toNat % 10 < F))
theorem mDeed_lN (F P n : Nat) (hn : n < 2 ^ 31) : mDeed F P (lN n) = (decide (n < 200) && decide (n % 100 / 10 < P) && decide (n % 10 < F)) := by
  have h1 : (lN n).toInt = (n : Int) := lN_toInt hn
  have h2 : ¬ lN n = -1 := fun z => by
    have := congrArg Int64.toInt z
    rw [h1] at this
    have h3 : (-1 : Int64).toInt = -1 := by decide
    rw [h3] at this
    omega
  have h4 : (n : Int).toNat = n := Int.toNat_natCast n
  simp only [mDeed, h1, h2, h4, decide_false, Bool.false_or]
  have h5 : ((n : Int) < 200) = (n < 200) := by simp; omega
  simp [h5]
theorem c_isDeed {G : GT} {d : Nat} {σ : ST} {μ : SL} {a W F P : Nat} {v : Int64} (La : Lnd G a) (hL : LV σ a W F P) : Fn G d mX2_isDeed [.ref (G.b0 + a), .long v] (sh G σ μ) (Ret (some (.int (bI (mDeed F P v)))) (sh G σ μ)) := by
  obtain ⟨hW, hF, hP, hW16, hF8, hP6⟩ := hL
  refine fn_of (ls := [some (.ref (G.b0 + a)), some (.long v), none]) (by decide +kernel) (Nat.le_of_ble_eq_true rfl) 0 rfl ?_
  refine b_lload_n dX2_isDeed_0 rfl ?_
  refine b_ldc2 dX2_isDeed_1 cvX2_90 ?_
  refine b_lcmp dX2_isDeed_4 ?_
  refine b_if_ne 10 dX2_isDeed_5 (by decide) (fun c1 => ?_) (fun c1 => ?_)
  · skip
    refine b_lload_n dX2_isDeed_10 rfl ?_
    refine b_lconst (v := 0) dX2_isDeed_11 (by decide) ?_
    refine b_lcmp dX2_isDeed_12 ?_
    have n1 : ¬ v = -1 := fun z => c1 ((lg_cmp_eq _ _).mpr z)
    refine b_if_lt 60 dX2_isDeed_13 (by decide) (fun c2 => ?_) (fun c2 => ?_)
    · skip
      refine b_iconst (v := nI 0) dX2_isDeed_60 (by decide) ?_
      have h0 : ¬ 0 ≤ v.toInt := fun z => Int64.not_le.mpr ((lg_cmp_lt _ _).mp c2) (Int64.le_iff_toInt_le.mpr z)
      exact b_zret dX2_isDeed_61 rfl ⟨by simp [mDeed, n1, h0, bI], rfl⟩
    · skip
      refine b_lload_n dX2_isDeed_16 rfl ?_
      refine b_ldc2 dX2_isDeed_17 cvX2_92 ?_
      refine b_lcmp dX2_isDeed_20 ?_
      have h0 : ¬ v < 0 := fun z => c2 ((lg_cmp_lt _ _).mpr z)
      obtain ⟨n, hn, rfl⟩ := pk_lOf h0
      refine b_if_ge 60 dX2_isDeed_21 (by decide) (fun c3 => ?_) (fun c3 => ?_)
      · skip
        refine b_iconst (v := nI 0) dX2_isDeed_60 (by decide) ?_
        have h3 := (lg_cmp_ge _ _).mp c3
        have h4 : ¬ n < 200 := fun z => by
          have h5 := (pk_lLE (a := 200) (b := n) (by omega) hn).mp h3
          omega
        have h6 : ¬ (lN n).toInt < 200 := by rw [pk_lT hn]; omega
        exact b_zret dX2_isDeed_61 rfl ⟨by simp [mDeed, n1, h6, bI], rfl⟩
      · skip
        have h3 : ¬ (lN 200 ≤ lN n) := fun z => c3 ((lg_cmp_ge _ _).mpr z)
        have h4 : n < 200 := Nat.not_le.mp (fun z => h3 ((pk_lLE (by omega) hn).mpr z))
        refine b_lload_n dX2_isDeed_24 rfl ?_
        refine b_ldc2 dX2_isDeed_25 cvX2_94 ?_
        refine b_lrem dX2_isDeed_28 (by decide) ?_
        refine b_topJ (y := lN (n % 100)) (pk_lRem (a := n) (b := 100) hn (by omega) (by omega)) ?_
        refine b_ldc2 dX2_isDeed_29 cvX2_96 ?_
        refine b_ldiv dX2_isDeed_32 (by decide) ?_
        refine b_topJ (y := lN (n % 100 / 10)) (pk_lDiv (a := n % 100) (b := 10) (by omega) (by omega) (by omega)) ?_
        refine b_aload_n dX2_isDeed_33 rfl ?_
        refine g_geti dX2_isDeed_34 fX2_43 La.1 rfl hP ?_
        refine b_i2l dX2_isDeed_37 ?_
        refine b_lcmp dX2_isDeed_38 ?_
        refine b_if_ge 60 dX2_isDeed_39 (by decide) (fun c4 => ?_) (fun c4 => ?_)
        · skip
          refine b_iconst (v := nI 0) dX2_isDeed_60 (by decide) ?_
          have h5 := (lg_cmp_ge _ _).mp c4
          rw [nI_l (by omega), lN_le (by omega) (by omega)] at h5
          exact b_zret dX2_isDeed_61 rfl ⟨by rw [mDeed_lN F P n (by omega)]; simp [bI]; omega, rfl⟩
        · skip
          have h5 : ¬ (nI P).toInt64 ≤ lN (n % 100 / 10) := fun z => c4 ((lg_cmp_ge _ _).mpr z)
          rw [nI_l (by omega), lN_le (by omega) (by omega)] at h5
          refine b_lload_n dX2_isDeed_42 rfl ?_
          refine b_ldc2 dX2_isDeed_43 cvX2_96 ?_
          refine b_lrem dX2_isDeed_46 (by decide) ?_
          refine b_topJ (y := lN (n % 10)) (pk_lRem (a := n) (b := 10) hn (by omega) (by omega)) ?_
          refine b_aload_n dX2_isDeed_47 rfl ?_
          refine g_geti dX2_isDeed_48 fX2_40 La.1 rfl hF ?_
          refine b_i2l dX2_isDeed_51 ?_
          refine b_lcmp dX2_isDeed_52 ?_
          refine b_if_ge 60 dX2_isDeed_53 (by decide) (fun c5 => ?_) (fun c5 => ?_)
          · skip
            refine b_iconst (v := nI 0) dX2_isDeed_60 (by decide) ?_
            have h6 := (lg_cmp_ge _ _).mp c5
            rw [nI_l (by omega), lN_le (by omega) (by omega)] at h6
            exact b_zret dX2_isDeed_61 rfl ⟨by rw [mDeed_lN F P n (by omega)]; simp [bI]; omega, rfl⟩
          · skip
            have h6 : ¬ (nI F).toInt64 ≤ lN (n % 10) := fun z => c5 ((lg_cmp_ge _ _).mpr z)
            rw [nI_l (by omega), lN_le (by omega) (by omega)] at h6
            refine b_iconst (v := nI 1) dX2_isDeed_56 (by decide) ?_
            refine b_goto 61 dX2_isDeed_57 (by decide) ?_
            exact b_zret dX2_isDeed_61 rfl ⟨by rw [mDeed_lN F P n (by omega)]; simp [bI]; omega, rfl⟩
  · skip
    refine b_iconst (v := nI 1) dX2_isDeed_8 (by decide) ?_
    have n1 : v = -1 := (lg_cmp_eq _ _).mp c1
    exact b_zret dX2_isDeed_9 rfl ⟨by simp [mDeed, n1, bI], rfl⟩
end
section
/-! ===== Land: deedsAhead, clear, become ===== -/
/-- the first place from i on (n looked at) that is no deed -/
def mAbleF (F P : Nat) (v : Nat → Int64) : Nat → Nat → Nat
  | 0, i => i
  | n + 1, i => if mDeed F P (v i) then mAbleF F P v n (i + 1) else i
def mAble (F P : Nat) (v : Nat → Int64) (len : Nat) : Nat := mAbleF F P v len 0
theorem c_deedsAhead {G : GT} {d : Nat} {σ : ST} {μ : SL} {a r W F P len : Nat} (La : Lnd G a) (Rr : Rwo G r) (hL : LV σ a W F P) (hlen : σ r 1 = nI len) (hl40 : len ≤ 40) : Fn G (d + 1) mX2_deedsAhead [.ref (G.b0 + a), .ref (G.b0 + r)] (sh G σ μ) (Ret (some (.int (nI (mAble F P (μ (r + 1)) len)))) (sh G σ μ)) := by
  refine fn_of (ls := [some (.ref (G.b0 + a)), some (.ref (G.b0 + r)), none]) (by decide +kernel) (Nat.le_of_ble_eq_true rfl) 1 rfl ?_
  refine b_iconst (v := nI 0) dX2_deedsAhead_0 (by decide) ?_
  refine b_istore_n dX2_deedsAhead_1 (by decide) rfl ?_
  have lp : ∀ (n i : Nat), i + n = len → mAbleF F P (μ (r + 1)) n i = mAble F P (μ (r + 1)) len → BB G RX2 cX2_deedsAhead 3 (some .int) (d + 1) (QM G (Ret (some (.int (nI (mAble F P (μ (r + 1)) len)))) (sh G σ μ))) 2 [some (.ref (G.b0 + a)), some (.ref (G.b0 + r)), some (.int (nI i))] [] (sh G σ μ) := by
    intro n
    induction n with
    | zero =>
      intro i hi hx
      refine b_iload_n dX2_deedsAhead_2 rfl ?_
      refine b_aload_n dX2_deedsAhead_3 rfl ?_
      refine g_geti dX2_deedsAhead_4 fX2_98 Rr.1 rfl hlen ?_
      refine b_icmp_ge_t 29 dX2_deedsAhead_7 (by decide) (nI_le (by omega) (by omega)) ?_
      refine b_iload_n dX2_deedsAhead_29 rfl ?_
      exact b_iret dX2_deedsAhead_30 ⟨by rw [← hx]; rfl, rfl⟩
    | succ n ih =>
      intro i hi hx
      refine b_iload_n dX2_deedsAhead_2 rfl ?_
      refine b_aload_n dX2_deedsAhead_3 rfl ?_
      refine g_geti dX2_deedsAhead_4 fX2_98 Rr.1 rfl hlen ?_
      refine b_icmp_ge_f 29 dX2_deedsAhead_7 (by decide) (nI_ge (by omega) (by omega)) ?_
      refine b_aload_n dX2_deedsAhead_10 rfl ?_
      refine b_aload_n dX2_deedsAhead_11 rfl ?_
      refine g_get dX2_deedsAhead_12 fX2_103 Rr.1 rfl ?_
      refine b_iload_n dX2_deedsAhead_15 rfl ?_
      refine g_lald dX2_deedsAhead_16 Rr.2 rfl (by omega) ?_
      refine g_callV [.long (μ (r + 1) i)] dX2_deedsAhead_17 kX2_isDeed lX2_106 La.1 rfl rfl (c_isDeed La hL) rfl rfl (Nat.le_of_ble_eq_true rfl) ?_
      refine b_if_eq 29 dX2_deedsAhead_20 (by decide) (fun c1 => ?_) (fun c1 => ?_)
      · skip
        refine b_iload_n dX2_deedsAhead_29 rfl ?_
        exact b_iret dX2_deedsAhead_30 ⟨by rw [← hx, mAbleF, (bI_0 _).mp c1]; rfl, rfl⟩
      · skip
        refine b_iinc dX2_deedsAhead_23 rfl (nI_1 _) (by decide) rfl ?_
        refine b_goto 2 dX2_deedsAhead_26 (by decide) ?_
        exact ih (i + 1) (by omega) (by rw [← hx, mAbleF, (bI_1 _).mp c1]; rfl)
  exact lp len 0 (by omega) rfl
/-! states with several places changed -/
theorem cpy_at (σ : ST) (a0 sp a dp n c q : Nat) : cpy σ a0 sp a dp n c q = if c = a ∧ dp ≤ q ∧ q < dp + n then σ a0 (sp + (q - dp)) else σ c q := by
  unfold cpy va_up va_cpy
  by_cases hc : c = a
  · subst hc; simp
  · simp [hc]
theorem pt_at (σ : ST) (a j c q : Nat) (x : Int32) : pt σ a j x c q = if c = a ∧ q = j then x else σ c q := rfl
theorem flS_at (σ : ST) (a n c q : Nat) (x : Int32) : flS σ a n x c q = if c = a ∧ q < n then x else σ c q := rfl
def clrL (σ : ST) (a : Nat) : ST := fun c q =>
  if (c = a ∧ 5 ≤ q ∧ q ≤ 9) ∨ (c = a + 4 ∧ q < 8) ∨ (c = a + 5 ∧ q < 6) then nI 0 else σ c q
theorem c_Lclear {G : GT} {d : Nat} {σ : ST} {μ : SL} {a : Nat} (La : Lnd G a) : Fn G (d + 1) mX2_clear [.ref (G.b0 + a)] (sh G σ μ) (Ret none (sh G (clrL σ a) μ)) := by
  refine fn_of (ls := [some (.ref (G.b0 + a))]) (by decide +kernel) (Nat.le_of_ble_eq_true rfl) 0 rfl ?_
  refine b_aload_n dX2_clear_0 rfl ?_
  refine g_get dX2_clear_1 fX2_21 La.1 rfl ?_
  refine b_iconst (v := nI 0) dX2_clear_4 (by decide) ?_
  refine b_callSr [.ref (G.b0 + (a + 4)), .int (nI 0)] dX2_clear_5 kJ7_fill_53178 lX2_27 (c_fill La.2.2.2.2.1) rfl rfl (Nat.le_of_ble_eq_true rfl) ?_
  refine b_aload_n dX2_clear_8 rfl ?_
  refine g_get dX2_clear_9 fX2_24 La.1 rfl ?_
  refine b_iconst (v := nI 0) dX2_clear_12 (by decide) ?_
  refine b_callSr [.ref (G.b0 + (a + 5)), .int (nI 0)] dX2_clear_13 kJ7_fill_53178 lX2_27 (c_fill La.2.2.2.2.2) rfl rfl (Nat.le_of_ble_eq_true rfl) ?_
  refine b_aload_n dX2_clear_16 rfl ?_
  refine b_iconst (v := nI 0) dX2_clear_17 (by decide) ?_
  refine g_put dX2_clear_18 wX2_33 La.1 tfX2_5 (Nat.le_of_ble_eq_true rfl) rfl ?_
  refine b_aload_n dX2_clear_21 rfl ?_
  refine b_iconst (v := nI 0) dX2_clear_22 (by decide) ?_
  refine g_put dX2_clear_23 wX2_37 La.1 tfX2_6 (Nat.le_of_ble_eq_true rfl) rfl ?_
  refine b_aload_n dX2_clear_26 rfl ?_
  refine b_iconst (v := nI 0) dX2_clear_27 (by decide) ?_
  refine g_put dX2_clear_28 wX2_40 La.1 tfX2_7 (Nat.le_of_ble_eq_true rfl) rfl ?_
  refine b_aload_n dX2_clear_31 rfl ?_
  refine b_iconst (v := nI 0) dX2_clear_32 (by decide) ?_
  refine g_put dX2_clear_33 wX2_43 La.1 tfX2_8 (Nat.le_of_ble_eq_true rfl) rfl ?_
  refine b_aload_n dX2_clear_36 rfl ?_
  refine b_iconst (v := nI 0) dX2_clear_37 (by decide) ?_
  refine g_put dX2_clear_38 wX2_46 La.1 tfX2_9 (Nat.le_of_ble_eq_true rfl) rfl ?_
  exact b_vret dX2_clear_41 ⟨rfl, congrArg (fun z => sh G z μ) (by funext c q; simp only [pt_at, flS_at, clrL]; grind (splits := 60))⟩
def bcmL (σ : ST) (o a : Nat) : ST := fun c q =>
  if c = a ∧ 5 ≤ q ∧ q ≤ 9 then σ o q
  else if c = a + 1 ∧ q < 48 then σ (o + 1) q else if c = a + 2 ∧ q < 16 then σ (o + 2) q else if c = a + 3 ∧ q < 8 then σ (o + 3) q
  else if c = a + 4 ∧ q < 8 then σ (o + 4) q else if c = a + 5 ∧ q < 6 then σ (o + 5) q else σ c q
theorem c_Lbecome {G : GT} {d : Nat} {σ : ST} {μ : SL} {a o : Nat} (La : Lnd G a) (Lo : Lnd G o) (hao : a + 5 < o ∨ o + 5 < a) : Fn G (d + 1) mX2_become [.ref (G.b0 + a), .ref (G.b0 + o)] (sh G σ μ) (Ret none (sh G (bcmL σ o a) μ)) := by
  refine fn_of (ls := [some (.ref (G.b0 + a)), some (.ref (G.b0 + o))]) (by decide +kernel) (Nat.le_of_ble_eq_true rfl) 0 rfl ?_
  refine b_aload_n dX2_become_0 rfl ?_
  refine g_get dX2_become_1 fX2_9 Lo.1 rfl ?_
  refine b_iconst (v := nI 0) dX2_become_4 (by decide) ?_
  refine b_aload_n dX2_become_5 rfl ?_
  refine g_get dX2_become_6 fX2_9 La.1 rfl ?_
  refine b_iconst (v := nI 0) dX2_become_9 (by decide) ?_
  refine b_bipush (v := nI 48) dX2_become_10 (by decide) ?_
  refine g_copy dX2_become_12 lX2_49 Lo.2.1 La.2.1 rfl rfl rfl (by omega) (by omega) (Nat.le_of_ble_eq_true rfl) ?_
  refine b_aload_n dX2_become_15 rfl ?_
  refine g_get dX2_become_16 fX2_15 Lo.1 rfl ?_
  refine b_iconst (v := nI 0) dX2_become_19 (by decide) ?_
  refine b_aload_n dX2_become_20 rfl ?_
  refine g_get dX2_become_21 fX2_15 La.1 rfl ?_
  refine b_iconst (v := nI 0) dX2_become_24 (by decide) ?_
  refine b_bipush (v := nI 16) dX2_become_25 (by decide) ?_
  refine g_copy dX2_become_27 lX2_49 Lo.2.2.1 La.2.2.1 rfl rfl rfl (by omega) (by omega) (Nat.le_of_ble_eq_true rfl) ?_
  refine b_aload_n dX2_become_30 rfl ?_
  refine g_get dX2_become_31 fX2_18 Lo.1 rfl ?_
  refine b_iconst (v := nI 0) dX2_become_34 (by decide) ?_
  refine b_aload_n dX2_become_35 rfl ?_
  refine g_get dX2_become_36 fX2_18 La.1 rfl ?_
  refine b_iconst (v := nI 0) dX2_become_39 (by decide) ?_
  refine b_bipush (v := nI 8) dX2_become_40 (by decide) ?_
  refine g_copy dX2_become_42 lX2_49 Lo.2.2.2.1 La.2.2.2.1 rfl rfl rfl (by omega) (by omega) (Nat.le_of_ble_eq_true rfl) ?_
  refine b_aload_n dX2_become_45 rfl ?_
  refine g_get dX2_become_46 fX2_21 Lo.1 rfl ?_
  refine b_iconst (v := nI 0) dX2_become_49 (by decide) ?_
  refine b_aload_n dX2_become_50 rfl ?_
  refine g_get dX2_become_51 fX2_21 La.1 rfl ?_
  refine b_iconst (v := nI 0) dX2_become_54 (by decide) ?_
  refine b_bipush (v := nI 8) dX2_become_55 (by decide) ?_
  refine g_copy dX2_become_57 lX2_49 Lo.2.2.2.2.1 La.2.2.2.2.1 rfl rfl rfl (by omega) (by omega) (Nat.le_of_ble_eq_true rfl) ?_
  refine b_aload_n dX2_become_60 rfl ?_
  refine g_get dX2_become_61 fX2_24 Lo.1 rfl ?_
  refine b_iconst (v := nI 0) dX2_become_64 (by decide) ?_
  refine b_aload_n dX2_become_65 rfl ?_
  refine g_get dX2_become_66 fX2_24 La.1 rfl ?_
  refine b_iconst (v := nI 0) dX2_become_69 (by decide) ?_
  refine b_bipush (v := nI 6) dX2_become_70 (by decide) ?_
  refine g_copy dX2_become_72 lX2_49 Lo.2.2.2.2.2 La.2.2.2.2.2 rfl rfl rfl (by omega) (by omega) (Nat.le_of_ble_eq_true rfl) ?_
  refine b_aload_n dX2_become_75 rfl ?_
  refine b_aload_n dX2_become_76 rfl ?_
  refine g_get dX2_become_77 fX2_33 Lo.1 rfl ?_
  refine g_put dX2_become_80 wX2_33 La.1 tfX2_5 (Nat.le_of_ble_eq_true rfl) rfl ?_
  refine b_aload_n dX2_become_83 rfl ?_
  refine b_aload_n dX2_become_84 rfl ?_
  refine g_get dX2_become_85 fX2_37 Lo.1 rfl ?_
  refine g_put dX2_become_88 wX2_37 La.1 tfX2_6 (Nat.le_of_ble_eq_true rfl) rfl ?_
  refine b_aload_n dX2_become_91 rfl ?_
  refine b_aload_n dX2_become_92 rfl ?_
  refine g_get dX2_become_93 fX2_40 Lo.1 rfl ?_
  refine g_put dX2_become_96 wX2_40 La.1 tfX2_7 (Nat.le_of_ble_eq_true rfl) rfl ?_
  refine b_aload_n dX2_become_99 rfl ?_
  refine b_aload_n dX2_become_100 rfl ?_
  refine g_get dX2_become_101 fX2_43 Lo.1 rfl ?_
  refine g_put dX2_become_104 wX2_43 La.1 tfX2_8 (Nat.le_of_ble_eq_true rfl) rfl ?_
  refine b_aload_n dX2_become_107 rfl ?_
  refine b_aload_n dX2_become_108 rfl ?_
  refine g_get dX2_become_109 fX2_46 Lo.1 rfl ?_
  refine g_put dX2_become_112 wX2_46 La.1 tfX2_9 (Nat.le_of_ble_eq_true rfl) rfl ?_
  exact b_vret dX2_become_115 ⟨rfl, congrArg (fun z => sh G z μ) (by funext c q; simp only [pt_at, cpy_at, bcmL]; grind (splits := 60))⟩
def bcmS (σ : ST) (o b : Nat) : ST := fun c q => if c = b + 1 ∧ q < 6 then σ (o + 1) q else if c = b ∧ q = 2 then σ o 2 else σ c q
theorem c_Sbecome {G : GT} {d : Nat} {σ : ST} {μ : SL} {b o : Nat} (Sb : Sta G b) (So : Sta G o) (hao : b + 2 < o ∨ o + 2 < b) : Fn G (d + 1) mX8_become [.ref (G.b0 + b), .ref (G.b0 + o)] (sh G σ μ) (Ret none (sh G (bcmS σ o b) μ)) := by
  refine fn_of (ls := [some (.ref (G.b0 + b)), some (.ref (G.b0 + o))]) (by decide +kernel) (Nat.le_of_ble_eq_true rfl) 0 rfl ?_
  refine b_aload_n dX8_become_0 rfl ?_
  refine g_get dX8_become_1 fX8_9 So.1 rfl ?_
  refine b_iconst (v := nI 0) dX8_become_4 (by decide) ?_
  refine b_aload_n dX8_become_5 rfl ?_
  refine g_get dX8_become_6 fX8_9 Sb.1 rfl ?_
  refine b_iconst (v := nI 0) dX8_become_9 (by decide) ?_
  refine b_bipush (v := nI 6) dX8_become_10 (by decide) ?_
  refine g_copy dX8_become_12 lX8_28 So.2.1 Sb.2.1 rfl rfl rfl (by omega) (by omega) (Nat.le_of_ble_eq_true rfl) ?_
  refine b_aload_n dX8_become_15 rfl ?_
  refine b_aload_n dX8_become_16 rfl ?_
  refine g_get dX8_become_17 fX8_24 So.1 rfl ?_
  refine g_put dX8_become_20 wX8_24 Sb.1 tfX8_2 (Nat.le_of_ble_eq_true rfl) rfl ?_
  exact b_vret dX8_become_23 ⟨rfl, congrArg (fun z => sh G z μ) (by funext c q; simp only [pt_at, cpy_at, bcmS]; grind (splits := 60))⟩
def clrS (σ : ST) (b : Nat) : ST := fun c q => if (c = b + 1 ∧ q < 6) ∨ (c = b ∧ q = 2) then nI 0 else σ c q
theorem c_Sclear {G : GT} {d : Nat} {σ : ST} {μ : SL} {b : Nat} (Sb : Sta G b) : Fn G (d + 1) mX8_clear [.ref (G.b0 + b)] (sh G σ μ) (Ret none (sh G (clrS σ b) μ)) := by
  refine fn_of (ls := [some (.ref (G.b0 + b))]) (by decide +kernel) (Nat.le_of_ble_eq_true rfl) 0 rfl ?_
  refine b_aload_n dX8_clear_0 rfl ?_
  refine g_get dX8_clear_1 fX8_9 Sb.1 rfl ?_
  refine b_iconst (v := nI 0) dX8_clear_4 (by decide) ?_
  refine b_callSr [.ref (G.b0 + (b + 1)), .int (nI 0)] dX8_clear_5 kJ7_fill_53178 lX8_18 (c_fill Sb.2.1) rfl rfl (Nat.le_of_ble_eq_true rfl) ?_
  refine b_aload_n dX8_clear_8 rfl ?_
  refine b_iconst (v := nI 0) dX8_clear_9 (by decide) ?_
  refine g_put dX8_clear_10 wX8_24 Sb.1 tfX8_2 (Nat.le_of_ble_eq_true rfl) rfl ?_
  exact b_vret dX8_clear_13 ⟨rfl, congrArg (fun z => sh G z μ) (by funext c q; simp only [pt_at, flS_at, clrS]; grind (splits := 60))⟩
end
section
/-! ===== State: asked, days ===== -/
def askS (σ : ST) (a b p f : Nat) : ST := pt σ (b + 1) p (σ (b + 1) p ||| σ (a + 4) f)
def mAskK (σ : ST) (a b W F t p f : Nat) : Bool := mKn (σ (a + 3) f) (mPoss (σ (a + 3)) W (σ (b + 1) p) t F)
theorem c_isAsked {G : GT} {d : Nat} {σ : ST} {μ : SL} {a b W F P t p f : Nat} (Sb : Sta G b) (La : Lnd G a) (hL : LV σ a W F P) (ht : σ b 2 = nI t) (ht32 : t < 32) (hp : p < 6) (hf : f < 8) : Fn G (d + 2) mX8_isAsked [.ref (G.b0 + b), .ref (G.b0 + a), .int (nI p), .int (nI f)] (sh G σ μ) (Ret (some (.int (bI (mAskK σ a b W F t p f)))) (sh G (askS σ a b p f) μ)) := by
  refine fn_of (ls := [some (.ref (G.b0 + b)), some (.ref (G.b0 + a)), some (.int (nI p)), some (.int (nI f)), none]) (by decide +kernel) (Nat.le_of_ble_eq_true rfl) 1 rfl ?_
  refine b_aload_n dX8_isAsked_0 rfl ?_
  refine b_iload_n dX8_isAsked_1 rfl ?_
  refine b_aload_n dX8_isAsked_2 rfl ?_
  refine b_aload_n dX8_isAsked_3 rfl ?_
  refine g_get dX8_isAsked_4 fX8_9 Sb.1 rfl ?_
  refine b_iload_n dX8_isAsked_7 rfl ?_
  refine g_iald dX8_isAsked_8 Sb.2.1 rfl (by omega) ?_
  refine b_aload_n dX8_isAsked_9 rfl ?_
  refine g_geti dX8_isAsked_10 fX8_24 Sb.1 rfl ht ?_
  refine g_callV [.int (σ (b + 1) p), .int (nI t)] dX8_isAsked_13 kX2_possible lX8_34 La.1 rfl rfl (c_possible La hL ht32) rfl rfl (Nat.le_of_ble_eq_true rfl) ?_
  refine g_callV [.int (nI f), .int (mPoss (σ (a + 3)) W (σ (b + 1) p) t F)] dX8_isAsked_16 kX2_isKnown lX8_40 La.1 rfl rfl (c_isKnown La hf) rfl rfl (Nat.le_of_ble_eq_true rfl) ?_
  refine b_istore dX8_isAsked_19 (by decide) rfl ?_
  refine b_aload_n dX8_isAsked_21 rfl ?_
  refine g_get dX8_isAsked_22 fX8_9 Sb.1 rfl ?_
  refine b_iload_n dX8_isAsked_25 rfl ?_
  refine b_dup2 dX8_isAsked_26 rfl rfl ?_
  refine g_iald dX8_isAsked_27 Sb.2.1 rfl (by omega) ?_
  refine b_aload_n dX8_isAsked_28 rfl ?_
  refine g_get dX8_isAsked_29 fX8_44 La.1 rfl ?_
  refine b_iload_n dX8_isAsked_32 rfl ?_
  refine g_iald dX8_isAsked_33 La.2.2.2.2.1 rfl (by omega) ?_
  refine b_ior dX8_isAsked_34 ?_
  refine g_iast dX8_isAsked_35 Sb.2.1 rfl (by omega) ?_
  refine b_iload dX8_isAsked_36 rfl ?_
  exact b_zret dX8_isAsked_38 (bI_n _) ⟨rfl, rfl⟩
/-- what one was told when the day is over, q neighbours looked at -/
def mDay1 (road told : Nat → Int32) (p : Nat) : Nat → Int32
  | 0 => told p
  | q + 1 => if bt (road p) q then mDay1 road told p q ||| told q else mDay1 road told p q
def dayS (σ : ST) (a b P p : Nat) : ST := fun c q => if c = b + 1 ∧ q < p then mDay1 (σ (a + 5)) (σ (b + 1)) q P else if c = b + 2 ∧ q < 6 then σ (b + 1) q else σ c q
def mDayB (road told : Nat → Int32) (P : Nat) : Nat → Bool
  | 0 => false
  | p + 1 => mDayB road told P p || !decide (mDay1 road told p P = told p)
theorem dayS_0 (σ : ST) (a b P : Nat) : cpy σ (b + 1) 0 (b + 2) 0 6 = dayS σ a b P 0 := by
  funext c q
  simp only [cpy_at, dayS]
  by_cases h : c = b + 2 ∧ q < 6
  · simp [h]
  · simp [h]
theorem dayS_fr {σ : ST} {a b P p c q : Nat} (h1 : c ≠ b + 1) (h2 : c ≠ b + 2) : dayS σ a b P p c q = σ c q := by simp [dayS, h1, h2]
theorem dayS_mo {σ : ST} {a b P p q : Nat} (h : q < 6) : dayS σ a b P p (b + 2) q = σ (b + 1) q := by simp [dayS, h]
theorem dayS_to {σ : ST} {a b P p q : Nat} (h : p ≤ q) : dayS σ a b P p (b + 1) q = σ (b + 1) q := by simp [dayS, Nat.not_lt.mpr h]
theorem pt_self (σ : ST) (a j : Nat) {x : Int32} (h : x = σ a j) : pt σ a j x = σ := by
  funext c q
  simp only [pt_at]
  split
  · rename_i h1; rw [h, h1.1, h1.2]
  · rfl
theorem pt_pt (σ : ST) (a j : Nat) (x y : Int32) : pt (pt σ a j x) a j y = pt σ a j y := by
  funext c q
  simp only [pt_at]
  split <;> simp_all
theorem dayS_s (σ : ST) (a b P p : Nat) : pt (dayS σ a b P p) (b + 1) p (mDay1 (σ (a + 5)) (σ (b + 1)) p P) = dayS σ a b P (p + 1) := by
  funext c q
  simp only [pt_at, dayS]
  by_cases h : c = b + 1
  · by_cases h2 : q = p
    · subst h2; simp [h]
    · have : (q < p + 1) = (q < p) := by simp; omega
      simp [h, h2, this]
  · simp [h]
theorem bI_or (a b : Bool) : bI a ||| bI b = bI (a || b) := by cases a <;> cases b <;> decide
section Sig
variable {G : GT} {own : String} {cc : ByteArray} {nL : Nat} {ret : Option FieldType} {d : Nat} {Q : QT} {pc : Nat} {ls : LT} {st : List Value} {σ σ' : ST} {μ : SL}
theorem b_sig (e : σ = σ') (k : BB G own cc nL ret d Q pc ls st (sh G σ' μ)) : BB G own cc nL ret d Q pc ls st (sh G σ μ) := by rw [e]; exact k
end Sig
theorem c_passDay {G : GT} {d : Nat} {σ : ST} {μ : SL} {a b W F P : Nat} (Sb : Sta G b) (La : Lnd G a) (hL : LV σ a W F P) (hab : a + 5 < b ∨ b + 2 < a) : Fn G (d + 1) mX8_passDay [.ref (G.b0 + b), .ref (G.b0 + a)] (sh G σ μ) (Ret (some (.int (bI (mDayB (σ (a + 5)) (σ (b + 1)) P P)))) (sh G (dayS σ a b P P) μ)) := by
  obtain ⟨hW, hF, hP, hW16, hF8, hP6⟩ := hL
  refine fn_of (ls := [some (.ref (G.b0 + b)), some (.ref (G.b0 + a)), none, none, none]) (by decide +kernel) (Nat.le_of_ble_eq_true rfl) 3 rfl ?_
  refine b_aload_n dX8_passDay_0 rfl ?_
  refine g_get dX8_passDay_1 fX8_9 Sb.1 rfl ?_
  refine b_iconst (v := nI 0) dX8_passDay_4 (by decide) ?_
  refine b_aload_n dX8_passDay_5 rfl ?_
  refine g_get dX8_passDay_6 fX8_15 Sb.1 rfl ?_
  refine b_iconst (v := nI 0) dX8_passDay_9 (by decide) ?_
  refine b_bipush (v := nI 6) dX8_passDay_10 (by decide) ?_
  refine g_copy dX8_passDay_12 lX8_28 Sb.2.1 Sb.2.2 rfl rfl rfl (by omega) (by omega) (Nat.le_of_ble_eq_true rfl) ?_
  refine b_sig (dayS_0 σ a b P) ?_
  refine b_iconst (v := nI 0) dX8_passDay_15 (by decide) ?_
  refine b_istore_n dX8_passDay_16 (by decide) rfl ?_
  refine b_iconst (v := nI 0) dX8_passDay_17 (by decide) ?_
  refine b_istore_n dX8_passDay_18 (by decide) rfl ?_
  have lp : ∀ (n i : Nat) (x : Int32) (z : Option Value), i + n = P → x = bI (mDayB (σ (a + 5)) (σ (b + 1)) P i) → BB G RX8 cX8_passDay 5 (some .boolean) (d + 1) (QM G (Ret (some (.int (bI (mDayB (σ (a + 5)) (σ (b + 1)) P P)))) (sh G (dayS σ a b P P) μ))) 19 [some (.ref (G.b0 + b)), some (.ref (G.b0 + a)), some (.int x), some (.int (nI i)), z] [] (sh G (dayS σ a b P i) μ) := by
    intro n
    induction n with
    | zero =>
      intro i x z hi hx
      refine b_iload_n dX8_passDay_19 rfl ?_
      refine b_aload_n dX8_passDay_20 rfl ?_
      refine g_geti dX8_passDay_21 fX8_47 La.1 rfl ((dayS_fr (by omega) (by omega)).trans hP) ?_
      refine b_icmp_ge_t 105 dX8_passDay_24 (by decide) (nI_le (by omega) (by omega)) ?_
      refine b_iload_n dX8_passDay_105 rfl ?_
      exact b_zret dX8_passDay_106 (by rw [hx]; exact bI_n _) ⟨by rw [hx, show i = P by omega], by rw [show i = P by omega]⟩
    | succ n ih =>
      intro i x z hi hx
      refine b_iload_n dX8_passDay_19 rfl ?_
      refine b_aload_n dX8_passDay_20 rfl ?_
      refine g_geti dX8_passDay_21 fX8_47 La.1 rfl ((dayS_fr (by omega) (by omega)).trans hP) ?_
      refine b_icmp_ge_f 105 dX8_passDay_24 (by decide) (nI_ge (by omega) (by omega)) ?_
      refine b_iconst (v := nI 0) dX8_passDay_27 (by decide) ?_
      refine b_istore dX8_passDay_28 (by decide) rfl ?_
      have lq : ∀ (k j : Nat), j + k = P → BB G RX8 cX8_passDay 5 (some .boolean) (d + 1) (QM G (Ret (some (.int (bI (mDayB (σ (a + 5)) (σ (b + 1)) P P)))) (sh G (dayS σ a b P P) μ))) 30 [some (.ref (G.b0 + b)), some (.ref (G.b0 + a)), some (.int x), some (.int (nI i)), some (.int (nI j))] [] (sh G (pt (dayS σ a b P i) (b + 1) i (mDay1 (σ (a + 5)) (σ (b + 1)) i j)) μ) := by
        intro k
        induction k with
        | zero =>
          intro j hj
          refine b_iload dX8_passDay_30 rfl ?_
          refine b_aload_n dX8_passDay_32 rfl ?_
          refine g_geti dX8_passDay_33 fX8_47 La.1 rfl ((pt_a (by omega)).trans ((dayS_fr (by omega) (by omega)).trans hP)) ?_
          refine b_icmp_ge_t 76 dX8_passDay_36 (by decide) (nI_le (by omega) (by omega)) ?_
          have ej : j = P := by omega
          subst ej
          refine b_sig (dayS_s σ a b j i) ?_
          refine b_iload_n dX8_passDay_76 rfl ?_
          refine b_aload_n dX8_passDay_77 rfl ?_
          refine g_get dX8_passDay_78 fX8_9 Sb.1 rfl ?_
          refine b_iload_n dX8_passDay_81 rfl ?_
          refine g_iald dX8_passDay_82 Sb.2.1 rfl (by omega) ?_
          refine b_aload_n dX8_passDay_83 rfl ?_
          refine g_get dX8_passDay_84 fX8_15 Sb.1 rfl ?_
          refine b_iload_n dX8_passDay_87 rfl ?_
          refine g_iald dX8_passDay_88 Sb.2.2 rfl (by omega) ?_
          have e1 : dayS σ a b j (i + 1) (b + 1) i = mDay1 (σ (a + 5)) (σ (b + 1)) i j := by simp [dayS]
          have e2 : dayS σ a b j (i + 1) (b + 2) i = σ (b + 1) i := dayS_mo (by omega)
          refine b_icmp_eq 96 dX8_passDay_89 (by decide) (fun c1 => ?_) (fun c1 => ?_)
          · skip
            refine b_iconst (v := nI 0) dX8_passDay_96 (by decide) ?_
            refine b_ior dX8_passDay_97 ?_
            refine b_istore_n dX8_passDay_98 (by decide) rfl ?_
            refine b_iinc dX8_passDay_99 rfl (nI_1 _) (by decide) rfl ?_
            refine b_goto 19 dX8_passDay_102 (by decide) ?_
            rw [e1, e2] at c1
            have e3 : (mDayB (σ (a + 5)) (σ (b + 1)) j i || false) = mDayB (σ (a + 5)) (σ (b + 1)) j (i + 1) := by simp [mDayB, c1]
            exact ih (i + 1) _ _ (by omega) (by rw [hx, ← e3, ← bI_or]; rfl)
          · skip
            refine b_iconst (v := nI 1) dX8_passDay_92 (by decide) ?_
            refine b_goto 97 dX8_passDay_93 (by decide) ?_
            refine b_ior dX8_passDay_97 ?_
            refine b_istore_n dX8_passDay_98 (by decide) rfl ?_
            refine b_iinc dX8_passDay_99 rfl (nI_1 _) (by decide) rfl ?_
            refine b_goto 19 dX8_passDay_102 (by decide) ?_
            rw [e1, e2] at c1
            have e3 : (mDayB (σ (a + 5)) (σ (b + 1)) j i || true) = mDayB (σ (a + 5)) (σ (b + 1)) j (i + 1) := by simp [mDayB, c1]
            exact ih (i + 1) _ _ (by omega) (by rw [hx, ← e3, ← bI_or]; rfl)
        | succ k ihk =>
          intro j hj
          refine b_iload dX8_passDay_30 rfl ?_
          refine b_aload_n dX8_passDay_32 rfl ?_
          refine g_geti dX8_passDay_33 fX8_47 La.1 rfl ((pt_a (by omega)).trans ((dayS_fr (by omega) (by omega)).trans hP)) ?_
          refine b_icmp_ge_f 76 dX8_passDay_36 (by decide) (nI_ge (by omega) (by omega)) ?_
          refine b_aload_n dX8_passDay_39 rfl ?_
          refine g_get dX8_passDay_40 fX8_50 La.1 rfl ?_
          refine b_iload_n dX8_passDay_43 rfl ?_
          refine g_iald dX8_passDay_44 La.2.2.2.2.2 rfl (by omega) ?_
          refine b_iload dX8_passDay_45 rfl ?_
          refine b_ishr dX8_passDay_47 ?_
          refine b_iconst (v := nI 1) dX8_passDay_48 (by decide) ?_
          refine b_iand dX8_passDay_49 ?_
          refine b_iconst (v := nI 1) dX8_passDay_50 (by decide) ?_
          have e0 : pt (dayS σ a b P i) (b + 1) i (mDay1 (σ (a + 5)) (σ (b + 1)) i j) (a + 5) i = σ (a + 5) i := (pt_a (by omega)).trans (dayS_fr (by omega) (by omega))
          refine b_icmp_ne 70 dX8_passDay_51 (by decide) (fun c1 => ?_) (fun c1 => ?_)
          · skip
            refine b_iinc dX8_passDay_70 rfl (nI_1 _) (by decide) rfl ?_
            refine b_goto 30 dX8_passDay_73 (by decide) ?_
            rw [e0] at c1
            have c2 : ¬ bt (σ (a + 5) i) j = true := fun z => c1 ((b_test (by omega)).mpr z)
            have e1 : mDay1 (σ (a + 5)) (σ (b + 1)) i j = mDay1 (σ (a + 5)) (σ (b + 1)) i (j + 1) := by simp [mDay1, c2]
            rw [e1]
            exact ihk (j + 1) (by omega)
          · skip
            refine b_aload_n dX8_passDay_54 rfl ?_
            refine g_get dX8_passDay_55 fX8_9 Sb.1 rfl ?_
            refine b_iload_n dX8_passDay_58 rfl ?_
            refine b_dup2 dX8_passDay_59 rfl rfl ?_
            refine g_iald dX8_passDay_60 Sb.2.1 rfl (by omega) ?_
            refine b_aload_n dX8_passDay_61 rfl ?_
            refine g_get dX8_passDay_62 fX8_15 Sb.1 rfl ?_
            refine b_iload dX8_passDay_65 rfl ?_
            refine g_iald dX8_passDay_67 Sb.2.2 rfl (by omega) ?_
            refine b_ior dX8_passDay_68 ?_
            refine g_iast dX8_passDay_69 Sb.2.1 rfl (by omega) ?_
            refine b_iinc dX8_passDay_70 rfl (nI_1 _) (by decide) rfl ?_
            refine b_goto 30 dX8_passDay_73 (by decide) ?_
            rw [e0] at c1
            have c2 := (b_test (by omega)).mp c1
            have e1 : mDay1 (σ (a + 5)) (σ (b + 1)) i (j + 1) = mDay1 (σ (a + 5)) (σ (b + 1)) i j ||| σ (b + 1) j := by simp [mDay1, c2]
            have e2 : pt (dayS σ a b P i) (b + 1) i (mDay1 (σ (a + 5)) (σ (b + 1)) i j) (b + 2) j = σ (b + 1) j := (pt_a (by omega)).trans (dayS_mo (by omega))
            refine b_sig (σ' := pt (dayS σ a b P i) (b + 1) i (mDay1 (σ (a + 5)) (σ (b + 1)) i (j + 1))) (by rw [pt_pt, pt_s, e2, e1]) ?_
            exact ihk (j + 1) (by omega)
      have h0 := lq P 0 (by omega)
      refine b_sig (σ' := pt (dayS σ a b P i) (b + 1) i (mDay1 (σ (a + 5)) (σ (b + 1)) i 0)) (pt_self _ _ _ (by rw [dayS_to (Nat.le_refl i)]; rfl)).symm ?_
      exact h0
  exact lp P 0 _ _ (by omega) rfl
end
section
/-! ===== State: days, deeds, draws, a year ===== -/
theorem LV_of {σ σ' : ST} {a W F P : Nat} (h : LV σ a W F P) (e : ∀ q, σ' a q = σ a q) : LV σ' a W F P := ⟨(e 6).trans h.1, (e 7).trans h.2.1, (e 8).trans h.2.2.1, h.2.2.2⟩
/-- n days, till one brings nothing: the state then, the days that brought something -/
def pdS (a b P : Nat) : Nat → ST → ST × Nat
  | 0, σ => (σ, 0)
  | n + 1, σ => if mDayB (σ (a + 5)) (σ (b + 1)) P P then ((pdS a b P n (dayS σ a b P P)).1, (pdS a b P n (dayS σ a b P P)).2 + 1) else (dayS σ a b P P, 0)
theorem pdS_le (a b P : Nat) : ∀ n σ, (pdS a b P n σ).2 ≤ n
  | 0, _ => Nat.le_refl 0
  | n + 1, σ => by
    unfold pdS
    split
    · exact Nat.succ_le_succ (pdS_le a b P n _)
    · exact Nat.zero_le _
theorem c_passDays {G : GT} {d : Nat} {σ : ST} {μ : SL} {a b W F P n : Nat} (Sb : Sta G b) (La : Lnd G a) (hL : LV σ a W F P) (hab : a + 5 < b ∨ b + 2 < a) (hn : n < 2 ^ 30) : Fn G (d + 2) mX8_passDays [.ref (G.b0 + b), .ref (G.b0 + a), .int (nI n)] (sh G σ μ) (Ret (some (.int (nI (pdS a b P n σ).2))) (sh G (pdS a b P n σ).1 μ)) := by
  refine fn_of (ls := [some (.ref (G.b0 + b)), some (.ref (G.b0 + a)), some (.int (nI n)), none]) (by decide +kernel) (Nat.le_of_ble_eq_true rfl) 1 rfl ?_
  refine b_iconst (v := nI 0) dX8_passDays_0 (by decide) ?_
  refine b_istore_n dX8_passDays_1 (by decide) rfl ?_
  have lp : ∀ (k i : Nat) (s : ST), i + k = n → LV s a W F P → i + (pdS a b P k s).2 = (pdS a b P n σ).2 → (pdS a b P k s).1 = (pdS a b P n σ).1 → BB G RX8 cX8_passDays 4 (some .int) (d + 2) (QM G (Ret (some (.int (nI (pdS a b P n σ).2))) (sh G (pdS a b P n σ).1 μ))) 2 [some (.ref (G.b0 + b)), some (.ref (G.b0 + a)), some (.int (nI n)), some (.int (nI i))] [] (sh G s μ) := by
    intro k
    induction k with
    | zero =>
      intro i s hi hs h1 h2
      refine b_iload_n dX8_passDays_2 rfl ?_
      refine b_iload_n dX8_passDays_3 rfl ?_
      refine b_icmp_ge_t 23 dX8_passDays_4 (by decide) (nI_le (by omega) (by omega)) ?_
      refine b_iload_n dX8_passDays_23 rfl ?_
      exact b_iret dX8_passDays_24 ⟨by rw [← h1, pdS, show i = n by omega]; rfl, by rw [← h2]; rfl⟩
    | succ k ih =>
      intro i s hi hs h1 h2
      refine b_iload_n dX8_passDays_2 rfl ?_
      refine b_iload_n dX8_passDays_3 rfl ?_
      refine b_icmp_ge_f 23 dX8_passDays_4 (by decide) (nI_ge (by omega) (by omega)) ?_
      refine b_aload_n dX8_passDays_7 rfl ?_
      refine b_aload_n dX8_passDays_8 rfl ?_
      refine g_callV [.ref (G.b0 + a)] dX8_passDays_9 kX8_passDay lX8_53 Sb.1 rfl rfl (c_passDay Sb La hs hab) rfl rfl (Nat.le_of_ble_eq_true rfl) ?_
      refine b_if_ne 17 dX8_passDays_12 (by decide) (fun c1 => ?_) (fun c1 => ?_)
      · skip
        refine b_iinc dX8_passDays_17 rfl (nI_1 _) (by decide) rfl ?_
        refine b_goto 2 dX8_passDays_20 (by decide) ?_
        have c2 := (bI_1 _).mp c1
        rw [pdS, if_pos c2] at h1 h2
        exact ih (i + 1) _ (by omega) (LV_of hs (fun q => dayS_fr (by omega) (by omega))) (by rw [← h1]; show _ = i + (_ + 1); omega) h2
      · skip
        refine b_iload_n dX8_passDays_15 rfl ?_
        have c2 := (bI_0 _).mp c1
        rw [pdS, if_neg (by rw [c2]; decide)] at h1 h2
        exact b_iret dX8_passDays_16 ⟨by rw [← h1]; rfl, by rw [← h2]⟩
  exact lp n 0 σ (by omega) hL (by omega) rfl
/-- a deed done -/
def dnS (a b P : Nat) (x : Int32) (σ : ST) : ST :=
  if x = -1 then dayS σ a b P P
  else if x.toNatClampNeg < 100 then pt σ (b + 1) (x.toNatClampNeg % 100 / 10) (σ (b + 1) (x.toNatClampNeg % 100 / 10) ||| (nI 1 <<< (nI (x.toNatClampNeg % 10) &&& 31)))
  else askS σ a b (x.toNatClampNeg % 100 / 10) (x.toNatClampNeg % 10)
def dnK (a b W F t : Nat) (x : Int32) (σ : ST) : Bool :=
  if x = -1 then false else if x.toNatClampNeg < 100 then false else mAskK σ a b W F t (x.toNatClampNeg % 100 / 10) (x.toNatClampNeg % 10)
def okD (F P : Nat) (x : Int32) : Prop := x = -1 ∨ ∃ n : Nat, x = nI n ∧ n < 200 ∧ n % 100 / 10 < P ∧ n % 10 < F
theorem nI_m1 {n : Nat} (h : n < 2 ^ 31) : ¬ nI n = -1 := fun z => by
  have h1 := congrArg Int32.toInt z
  rw [nI_toInt h] at h1
  have h3 : (-1 : Int32).toInt = -1 := by decide
  rw [h3] at h1
  omega
theorem c_isDone {G : GT} {d : Nat} {σ : ST} {μ : SL} {a b W F P t : Nat} {x : Int32} (Sb : Sta G b) (La : Lnd G a) (hL : LV σ a W F P) (hab : a + 5 < b ∨ b + 2 < a) (ht : σ b 2 = nI t) (ht32 : t < 32) (hx : okD F P x) : Fn G (d + 3) mX8_isDone [.ref (G.b0 + b), .ref (G.b0 + a), .int x] (sh G σ μ) (Ret (some (.int (bI (dnK a b W F t x σ)))) (sh G (dnS a b P x σ) μ)) := by
  have hL' := hL
  obtain ⟨hW, hF, hP, hW16, hF8, hP6⟩ := hL
  refine fn_of (ls := [some (.ref (G.b0 + b)), some (.ref (G.b0 + a)), some (.int x), none, none]) (by decide +kernel) (Nat.le_of_ble_eq_true rfl) 2 rfl ?_
  refine b_iload_n dX8_isDone_0 rfl ?_
  refine b_iconst (v := -1) dX8_isDone_1 (by decide) ?_
  refine b_icmp_ne 13 dX8_isDone_2 (by decide) (fun c1 => ?_) (fun c1 => ?_)
  · skip
    rcases hx with rfl | ⟨n, rfl, hn, h1, h2⟩
    · exact absurd rfl c1
    refine b_iload_n dX8_isDone_13 rfl ?_
    refine b_bipush (v := nI 100) dX8_isDone_14 (by decide) ?_
    have c0 : (nI n).toNatClampNeg = n := nI_clamp (by omega)
    refine b_irem dX8_isDone_16 (nI_ne0 (by omega) (by omega)) ?_
    refine b_top (y := nI (n % 100)) (pk_rem (by omega) (by omega) (by omega)) ?_
    refine b_bipush (v := nI 10) dX8_isDone_17 (by decide) ?_
    refine b_idiv dX8_isDone_19 (nI_ne0 (by omega) (by omega)) ?_
    refine b_top (y := nI (n % 100 / 10)) (pk_div (by omega) (by omega) (by omega)) ?_
    refine b_istore_n dX8_isDone_20 (by decide) rfl ?_
    refine b_iload_n dX8_isDone_21 rfl ?_
    refine b_bipush (v := nI 10) dX8_isDone_22 (by decide) ?_
    refine b_irem dX8_isDone_24 (nI_ne0 (by omega) (by omega)) ?_
    refine b_top (y := nI (n % 10)) (pk_rem (by omega) (by omega) (by omega)) ?_
    refine b_istore dX8_isDone_25 (by decide) rfl ?_
    refine b_iload_n dX8_isDone_27 rfl ?_
    refine b_bipush (v := nI 100) dX8_isDone_28 (by decide) ?_
    refine b_icmp_lt 42 dX8_isDone_30 (by decide) (fun c2 => ?_) (fun c2 => ?_)
    · skip
      refine b_aload_n dX8_isDone_42 rfl ?_
      refine g_get dX8_isDone_43 fX8_9 Sb.1 rfl ?_
      refine b_iload_n dX8_isDone_46 rfl ?_
      refine b_dup2 dX8_isDone_47 rfl rfl ?_
      refine g_iald dX8_isDone_48 Sb.2.1 rfl (by omega) ?_
      refine b_iconst (v := nI 1) dX8_isDone_49 (by decide) ?_
      refine b_iload dX8_isDone_50 rfl ?_
      refine b_ishl dX8_isDone_52 ?_
      refine b_ior dX8_isDone_53 ?_
      refine g_iast dX8_isDone_54 Sb.2.1 rfl (by omega) ?_
      refine b_iconst (v := nI 0) dX8_isDone_55 (by decide) ?_
      rw [nI_ltI (by omega) (by omega)] at c2
      exact b_zret dX8_isDone_56 rfl ⟨by simp [dnK, c1, c0, c2, bI], by simp [dnS, c1, c0, c2]⟩
    · skip
      refine b_aload_n dX8_isDone_33 rfl ?_
      refine b_aload_n dX8_isDone_34 rfl ?_
      refine b_iload_n dX8_isDone_35 rfl ?_
      refine b_iload dX8_isDone_36 rfl ?_
      rw [nI_ltI (by omega) (by omega)] at c2
      refine g_callV [.ref (G.b0 + a), .int (nI (n % 100 / 10)), .int (nI (n % 10))] dX8_isDone_38 kX8_isAsked lX8_74 Sb.1 rfl rfl (c_isAsked Sb La hL' ht ht32 (by omega) (by omega)) rfl rfl (Nat.le_of_ble_eq_true rfl) ?_
      exact b_zret dX8_isDone_41 (bI_n _) ⟨by simp [dnK, c1, c0, c2], by simp [dnS, c1, c0, c2]⟩
  · skip
    subst c1
    refine b_aload_n dX8_isDone_5 rfl ?_
    refine b_aload_n dX8_isDone_6 rfl ?_
    refine g_callV [.ref (G.b0 + a)] dX8_isDone_7 kX8_passDay lX8_53 Sb.1 rfl rfl (c_passDay Sb La hL' hab) rfl rfl (Nat.le_of_ble_eq_true rfl) ?_
    refine b_pop dX8_isDone_10 rfl ?_
    refine b_iconst (v := nI 0) dX8_isDone_11 (by decide) ?_
    exact b_zret dX8_isDone_12 rfl ⟨rfl, rfl⟩
def ddS (a b P : Nat) (v : Nat → Int64) (σ : ST) : Nat → ST
  | 0 => σ
  | i + 1 => dnS a b P (v i).toInt32 (ddS a b P v σ i)
def ddK (a b W F P t : Nat) (v : Nat → Int64) (σ : ST) : Nat → Nat
  | 0 => 0
  | i + 1 => ddK a b W F P t v σ i + if dnK a b W F t (v i).toInt32 (ddS a b P v σ i) then 1 else 0
theorem dnS_fr {a b P : Nat} {x : Int32} {σ : ST} {c q : Nat} (h1 : c ≠ b + 1) (h2 : c ≠ b + 2) : dnS a b P x σ c q = σ c q := by
  unfold dnS askS
  split
  · exact dayS_fr h1 h2
  · split
    · exact pt_a h1
    · exact pt_a h1
theorem ddS_fr {a b P : Nat} {v : Nat → Int64} {σ : ST} {c q : Nat} (h1 : c ≠ b + 1) (h2 : c ≠ b + 2) : ∀ i, ddS a b P v σ i c q = σ c q
  | 0 => rfl
  | i + 1 => (dnS_fr h1 h2).trans (ddS_fr h1 h2 i)
theorem okD_of {F P : Nat} {v : Int64} (h : mDeed F P v = true) : okD F P v.toInt32 := by
  by_cases h1 : v = -1
  · left; rw [h1]; decide
  · right
    simp only [mDeed, h1, decide_false, Bool.false_or, Bool.and_eq_true, decide_eq_true_eq] at h
    obtain ⟨⟨⟨h2, h3⟩, h4⟩, h5⟩ := h
    have h6 : ¬ v < 0 := fun z => by
      have := Int64.lt_iff_toInt_lt.mp z
      have e : (0 : Int64).toInt = 0 := by decide
      rw [e] at this
      omega
    obtain ⟨n, hn, rfl⟩ := pk_lOf h6
    rw [pk_lT hn] at h2 h3 h4 h5
    rw [Int.toNat_natCast] at h4 h5
    exact ⟨n, lN_i n, by omega, h4, h5⟩
theorem ddK_le (a b W F P t : Nat) (v : Nat → Int64) (σ : ST) : ∀ i, ddK a b W F P t v σ i ≤ i
  | 0 => Nat.le_refl 0
  | i + 1 => by
    have := ddK_le a b W F P t v σ i
    unfold ddK
    split <;> omega
theorem c_doDeeds {G : GT} {d : Nat} {σ : ST} {μ : SL} {a b r W F P t n len : Nat} (Sb : Sta G b) (La : Lnd G a) (Rr : Rwo G r) (hL : LV σ a W F P) (hab : a + 5 < b ∨ b + 2 < a) (hr : r < b ∨ b + 2 < r) (ht : σ b 2 = nI t) (ht32 : t < 32) (hlen : σ r 1 = nI len) (hl40 : len ≤ 40) (hn : n ≤ len) (hv : ∀ i, i < n → mDeed F P (μ (r + 1) i) = true) : Fn G (d + 4) mX8_doDeeds [.ref (G.b0 + b), .ref (G.b0 + a), .ref (G.b0 + r), .int (nI n)] (sh G σ μ) (Ret (some (.int (nI (ddK a b W F P t (μ (r + 1)) σ n)))) (sh G (ddS a b P (μ (r + 1)) σ n) μ)) := by
  refine fn_of (ls := [some (.ref (G.b0 + b)), some (.ref (G.b0 + a)), some (.ref (G.b0 + r)), some (.int (nI n)), none, none]) (by decide +kernel) (Nat.le_of_ble_eq_true rfl) 2 rfl ?_
  refine b_iconst (v := nI 0) dX8_doDeeds_0 (by decide) ?_
  refine b_istore dX8_doDeeds_1 (by decide) rfl ?_
  refine b_iconst (v := nI 0) dX8_doDeeds_3 (by decide) ?_
  refine b_istore dX8_doDeeds_4 (by decide) rfl ?_
  have lp : ∀ (k i : Nat), i + k = n → BB G RX8 cX8_doDeeds 6 (some .int) (d + 4) (QM G (Ret (some (.int (nI (ddK a b W F P t (μ (r + 1)) σ n)))) (sh G (ddS a b P (μ (r + 1)) σ n) μ))) 6 [some (.ref (G.b0 + b)), some (.ref (G.b0 + a)), some (.ref (G.b0 + r)), some (.int (nI n)), some (.int (nI (ddK a b W F P t (μ (r + 1)) σ i))), some (.int (nI i))] [] (sh G (ddS a b P (μ (r + 1)) σ i) μ) := by
    intro k
    induction k with
    | zero =>
      intro i hi
      refine b_iload dX8_doDeeds_6 rfl ?_
      refine b_iload_n dX8_doDeeds_8 rfl ?_
      refine b_icmp_ge_t 60 dX8_doDeeds_9 (by decide) (nI_le (by omega) (by omega)) ?_
      refine b_iload dX8_doDeeds_60 rfl ?_
      exact b_iret dX8_doDeeds_62 ⟨by rw [show i = n by omega], by rw [show i = n by omega]⟩
    | succ k ih =>
      intro i hi
      have hs : LV (ddS a b P (μ (r + 1)) σ i) a W F P := LV_of hL (fun q => ddS_fr (by omega) (by omega) i)
      refine b_iload dX8_doDeeds_6 rfl ?_
      refine b_iload_n dX8_doDeeds_8 rfl ?_
      refine b_icmp_ge_f 60 dX8_doDeeds_9 (by decide) (nI_ge (by omega) (by omega)) ?_
      refine b_iload dX8_doDeeds_12 rfl ?_
      refine b_aload_n dX8_doDeeds_14 rfl ?_
      refine g_geti dX8_doDeeds_15 fX8_57 Rr.1 rfl ((ddS_fr (by omega) (by omega) i).trans hlen) ?_
      refine b_icmp_ge_f 60 dX8_doDeeds_18 (by decide) (nI_ge (by omega) (by omega)) ?_
      refine b_aload_n dX8_doDeeds_21 rfl ?_
      refine b_aload_n dX8_doDeeds_22 rfl ?_
      refine g_get dX8_doDeeds_23 fX8_62 Rr.1 rfl ?_
      refine b_iload dX8_doDeeds_26 rfl ?_
      refine g_lald dX8_doDeeds_28 Rr.2 rfl (by omega) ?_
      refine g_callV [.long (μ (r + 1) i)] dX8_doDeeds_29 kX2_isDeed lX8_66 La.1 rfl rfl (c_isDeed La hs) rfl rfl (Nat.le_of_ble_eq_true rfl) ?_
      refine b_if_eq_f 54 dX8_doDeeds_32 (by decide) (by rw [hv i (by omega)]; decide) ?_
      refine b_aload_n dX8_doDeeds_35 rfl ?_
      refine b_aload_n dX8_doDeeds_36 rfl ?_
      refine b_aload_n dX8_doDeeds_37 rfl ?_
      refine g_get dX8_doDeeds_38 fX8_62 Rr.1 rfl ?_
      refine b_iload dX8_doDeeds_41 rfl ?_
      refine g_lald dX8_doDeeds_43 Rr.2 rfl (by omega) ?_
      refine b_l2i dX8_doDeeds_44 ?_
      refine g_callV [.ref (G.b0 + a), .int ((μ (r + 1) i).toInt32)] dX8_doDeeds_45 kX8_isDone lX8_70 Sb.1 rfl rfl (c_isDone Sb La hs hab ((ddS_fr (by omega) (by omega) i).trans ht) ht32 (okD_of (hv i (by omega)))) rfl rfl (Nat.le_of_ble_eq_true rfl) ?_
      refine b_if_eq 54 dX8_doDeeds_48 (by decide) (fun c1 => ?_) (fun c1 => ?_)
      · skip
        refine b_iinc dX8_doDeeds_54 rfl (nI_1 _) (by decide) rfl ?_
        refine b_goto 6 dX8_doDeeds_57 (by decide) ?_
        have e : ddK a b W F P t (μ (r + 1)) σ i = ddK a b W F P t (μ (r + 1)) σ (i + 1) := by rw [ddK, (bI_0 _).mp c1]; rfl
        rw [e]
        exact ih (i + 1) (by omega)
      · skip
        refine b_iinc dX8_doDeeds_51 rfl (nI_1 _) (by decide) rfl ?_
        refine b_iinc dX8_doDeeds_54 rfl (nI_1 _) (by decide) rfl ?_
        refine b_goto 6 dX8_doDeeds_57 (by decide) ?_
        have e : ddK a b W F P t (μ (r + 1)) σ i + 1 = ddK a b W F P t (μ (r + 1)) σ (i + 1) := by rw [ddK, (bI_1 _).mp c1]; rfl
        rw [e]
        exact ih (i + 1) (by omega)
  exact lp n 0 (by omega)
/-! draws -/
def mX (x : Int32) : Int32 := 1103515245 * x + nI 12345
def mDr (x : Int32) (n : Nat) : Nat := x.toBitVec.toNat / 65536 % n
theorem ush16 (x : Int32) : (x.toUInt32 >>> ((nI 16).toUInt32 &&& Int32.toUInt32 31)).toInt32 = nI (x.toBitVec.toNat / 65536) := by
  have e : x = nI x.toBitVec.toNat := by
    apply Int32.toBitVec_inj.mp
    show x.toBitVec = BitVec.ofNat 32 x.toBitVec.toNat
    simp
  have h := x.toBitVec.isLt
  generalize x.toBitVec.toNat = n at e h
  subst e
  rw [nI_ush (by omega) (by omega), Nat.shiftRight_eq_div_pow]
theorem c_draw {G : GT} {d : Nat} {σ : ST} {μ : SL} {b n : Nat} (Sb : Sta G b) (h0 : 0 < n) (hn : n < 2 ^ 30) : Fn G d mX8_draw [.ref (G.b0 + b), .int (nI n)] (sh G σ μ) (Ret (some (.int (nI (mDr (mX (σ b 3)) n)))) (sh G (pt σ b 3 (mX (σ b 3))) μ)) := by
  refine fn_of (ls := [some (.ref (G.b0 + b)), some (.int (nI n))]) (by decide +kernel) (Nat.le_of_ble_eq_true rfl) 0 rfl ?_
  refine b_aload_n dX8_draw_0 rfl ?_
  refine b_ldc dX8_draw_1 cvX8_78 ?_
  refine b_aload_n dX8_draw_3 rfl ?_
  refine g_get dX8_draw_4 fX8_79 Sb.1 rfl ?_
  refine b_imul dX8_draw_7 ?_
  refine b_sipush (v := nI 12345) dX8_draw_8 (by decide) ?_
  refine b_iadd dX8_draw_11 ?_
  refine g_put dX8_draw_12 wX8_79 Sb.1 tfX8_3 (Nat.le_of_ble_eq_true rfl) rfl ?_
  refine b_iload_n dX8_draw_15 rfl ?_
  refine b_if_le_f 31 dX8_draw_16 (by decide) (nI_nle h0 (by omega)) ?_
  refine b_aload_n dX8_draw_19 rfl ?_
  refine g_get dX8_draw_20 fX8_79 Sb.1 rfl ?_
  refine b_bipush (v := nI 16) dX8_draw_23 (by decide) ?_
  refine b_iushr dX8_draw_25 ?_
  refine b_iload_n dX8_draw_26 rfl ?_
  refine b_irem dX8_draw_27 (nI_ne0 h0 (by omega)) ?_
  refine b_goto 32 dX8_draw_28 (by decide) ?_
  refine b_iret dX8_draw_32 ⟨?_, rfl⟩
  have e : pt σ b 3 (mX (σ b 3)) b 3 = mX (σ b 3) := pt_s _ _ _ _
  have h1 := (mX (σ b 3)).toBitVec.isLt
  show some (Value.int ((((pt σ b 3 (mX (σ b 3)) b 3).toUInt32 >>> ((nI 16).toUInt32 &&& Int32.toUInt32 31)).toInt32 - ((pt σ b 3 (mX (σ b 3)) b 3).toUInt32 >>> ((nI 16).toUInt32 &&& Int32.toUInt32 31)).toInt32 / nI n * nI n))) = _
  rw [e, ush16, pk_rem (by omega) h0 (by omega)]
  rfl
end
section
/-! ===== State: a year; Past; Row ===== -/
def yrS (a b W F P : Nat) (σ : ST) : ST :=
  if mDr (mX (σ b 3)) 4 = 0 then dayS (pt σ b 3 (mX (σ b 3))) a b P P
  else if mDr (mX (σ b 3)) 4 = 1 then pt (pt σ b 3 (mX (mX (σ b 3)))) b 2 (nI (mDr (mX (mX (σ b 3))) W))
  else if mDr (mX (σ b 3)) 4 = 2 then askS (pt σ b 3 (mX (mX (mX (σ b 3))))) a b (mDr (mX (mX (σ b 3))) P) (mDr (mX (mX (mX (σ b 3)))) F)
  else pt (pt σ b 3 (mX (mX (mX (σ b 3))))) (b + 1) (mDr (mX (mX (σ b 3))) P) (pt σ b 3 (mX (mX (mX (σ b 3)))) (b + 1) (mDr (mX (mX (σ b 3))) P) ||| (nI 1 <<< (nI (mDr (mX (mX (mX (σ b 3)))) F) &&& 31)))
def yearS (a b W F P : Nat) : Nat → ST → ST
  | 0, σ => σ
  | n + 1, σ => yearS a b W F P n (yrS a b W F P σ)
theorem yrS_fr {a b W F P : Nat} {σ : ST} {c q : Nat} (h0 : c ≠ b) (h1 : c ≠ b + 1) (h2 : c ≠ b + 2) : yrS a b W F P σ c q = σ c q := by
  unfold yrS askS
  split
  · exact (dayS_fr h1 h2).trans (pt_a h0)
  · split
    · exact (pt_a h0).trans (pt_a h0)
    · split
      · exact (pt_a h1).trans (pt_a h0)
      · exact (pt_a h1).trans (pt_a h0)
theorem mDr_lt {x : Int32} {n : Nat} (h : 0 < n) : mDr x n < n := Nat.mod_lt _ h
theorem yrS_t {a b W F P t : Nat} {σ : ST} (hW : 0 < W) (ht : σ b 2 = nI t) (htW : t < W) : ∃ t', t' < W ∧ yrS a b W F P σ b 2 = nI t' := by
  unfold yrS askS
  split
  · exact ⟨t, htW, by rw [dayS_fr (by omega) (by omega), pt_j (by omega)]; exact ht⟩
  · split
    · exact ⟨_, mDr_lt hW, pt_s _ _ _ _⟩
    · split
      · exact ⟨t, htW, by rw [pt_a (by omega), pt_j (by omega)]; exact ht⟩
      · exact ⟨t, htW, by rw [pt_a (by omega), pt_j (by omega)]; exact ht⟩
theorem pt2 (σ : ST) (b : Nat) (x : Int32) : pt (pt σ b 3 x) b 3 (mX (pt σ b 3 x b 3)) = pt σ b 3 (mX x) := by rw [pt_s, pt_pt]
theorem c_passYear {G : GT} {d : Nat} {σ : ST} {μ : SL} {a b W F P n t : Nat} {seed : Int32} (Sb : Sta G b) (La : Lnd G a) (hL : LV σ a W F P) (hab : a + 5 < b ∨ b + 2 < a) (hW0 : 0 < W) (hF0 : 0 < F) (hP0 : 0 < P) (ht : σ b 2 = nI t) (htW : t < W) (hn : n < 2 ^ 30) : Fn G (d + 3) mX8_passYear [.ref (G.b0 + b), .ref (G.b0 + a), .int seed, .int (nI n)] (sh G σ μ) (Ret none (sh G (yearS a b W F P n (pt σ b 3 seed)) μ)) := by
  refine fn_of (ls := [some (.ref (G.b0 + b)), some (.ref (G.b0 + a)), some (.int seed), some (.int (nI n)), none, none, none, none]) (by decide +kernel) (Nat.le_of_ble_eq_true rfl) 4 rfl ?_
  refine b_aload_n dX8_passYear_0 rfl ?_
  refine b_iload_n dX8_passYear_1 rfl ?_
  refine g_put dX8_passYear_2 wX8_79 Sb.1 tfX8_3 (Nat.le_of_ble_eq_true rfl) rfl ?_
  refine b_iconst (v := nI 0) dX8_passYear_5 (by decide) ?_
  refine b_istore dX8_passYear_6 (by decide) rfl ?_
  have lp : ∀ (k i : Nat) (s : ST) (z1 z2 z3 : Option Value), i + k = n → LV s a W F P → (∃ t, t < W ∧ s b 2 = nI t) → yearS a b W F P k s = yearS a b W F P n (pt σ b 3 seed) → okst [some (.ref (G.b0 + b)), some (.ref (G.b0 + a)), some (.int seed), some (.int (nI n)), some (.int (nI i)), z1, z2, z3] 6 = true → okst [some (.ref (G.b0 + b)), some (.ref (G.b0 + a)), some (.int seed), some (.int (nI n)), some (.int (nI i)), z1, z2, z3] 7 = true → BB G RX8 cX8_passYear 8 none (d + 3) (QM G (Ret none (sh G (yearS a b W F P n (pt σ b 3 seed)) μ))) 8 [some (.ref (G.b0 + b)), some (.ref (G.b0 + a)), some (.int seed), some (.int (nI n)), some (.int (nI i)), z1, z2, z3] [] (sh G s μ) := by
    intro k
    induction k with
    | zero =>
      intro i s z1 z2 z3 hi hs hst he o1 o2
      refine b_iload dX8_passYear_8 rfl ?_
      refine b_iload_n dX8_passYear_10 rfl ?_
      refine b_icmp_ge_t 115 dX8_passYear_11 (by decide) (nI_le (by omega) (by omega)) ?_
      exact b_vret dX8_passYear_115 ⟨rfl, by rw [← he]; rfl⟩
    | succ k ih =>
      intro i s z1 z2 z3 hi hs hst he o1 o2
      obtain ⟨t, htW, ht⟩ := hst
      have hs' := hs
      obtain ⟨hW, hF, hP, hW16, hF8, hP6⟩ := hs'
      have hnext : LV (yrS a b W F P s) a W F P := LV_of hs (fun q => yrS_fr (by omega) (by omega) (by omega))
      have htn := yrS_t (a := a) (F := F) (P := P) hW0 ht htW
      have hm4 := mDr_lt (x := mX (s b 3)) (n := 4) (by omega)
      refine b_iload dX8_passYear_8 rfl ?_
      refine b_iload_n dX8_passYear_10 rfl ?_
      refine b_icmp_ge_f 115 dX8_passYear_11 (by decide) (nI_ge (by omega) (by omega)) ?_
      refine b_aload_n dX8_passYear_14 rfl ?_
      refine b_iconst (v := nI 4) dX8_passYear_15 (by decide) ?_
      refine g_callV [.int (nI 4)] dX8_passYear_16 kX8_draw lX8_82 Sb.1 rfl rfl (c_draw Sb (by omega) (by omega)) rfl rfl (Nat.le_of_ble_eq_true rfl) ?_
      have hs1 : LV (pt s b 3 (mX (s b 3))) a W F P := LV_of hs (fun q => pt_a (by omega))
      refine b_istore dX8_passYear_19 (by decide) rfl ?_
      refine b_iload dX8_passYear_21 rfl ?_
      refine b_if_ne 35 dX8_passYear_23 (by decide) (fun c1 => ?_) (fun c1 => ?_)
      · skip
        refine b_iload dX8_passYear_35 rfl ?_
        refine b_iconst (v := nI 1) dX8_passYear_37 (by decide) ?_
        have d0 : ¬ mDr (mX (s b 3)) 4 = 0 := fun z => c1 (by rw [z]; rfl)
        refine b_icmp_ne 56 dX8_passYear_38 (by decide) (fun c2 => ?_) (fun c2 => ?_)
        · skip
          have d1 : ¬ mDr (mX (s b 3)) 4 = 1 := fun z => c2 (by rw [z])
          refine b_aload_n dX8_passYear_56 rfl ?_
          refine b_aload_n dX8_passYear_57 rfl ?_
          refine g_geti (x := nI P) dX8_passYear_58 fX8_47 La.1 rfl ((pt_a (by omega)).trans hP) ?_
          refine g_callV [.int (nI P)] dX8_passYear_61 kX8_draw lX8_82 Sb.1 rfl rfl (c_draw Sb hP0 (by omega)) rfl rfl (Nat.le_of_ble_eq_true rfl) ?_
          refine b_sig (pt2 s b _) ?_
          refine b_top (y := nI (mDr (mX (mX (s b 3))) P)) (by rw [pt_s]) ?_
          refine b_istore dX8_passYear_64 (by decide) rfl ?_
          refine b_aload_n dX8_passYear_66 rfl ?_
          refine b_aload_n dX8_passYear_67 rfl ?_
          refine g_geti (x := nI F) dX8_passYear_68 fX8_89 La.1 rfl ((pt_a (by omega)).trans hF) ?_
          refine g_callV [.int (nI F)] dX8_passYear_71 kX8_draw lX8_82 Sb.1 rfl rfl (c_draw Sb hF0 (by omega)) rfl rfl (Nat.le_of_ble_eq_true rfl) ?_
          refine b_sig (pt2 s b _) ?_
          refine b_top (y := nI (mDr (mX (mX (mX (s b 3)))) F)) (by rw [pt_s]) ?_
          have hp6 := mDr_lt (x := mX (mX (s b 3))) hP0
          have hf8 := mDr_lt (x := mX (mX (mX (s b 3)))) hF0
          refine b_istore dX8_passYear_74 (by decide) rfl ?_
          refine b_iload dX8_passYear_76 rfl ?_
          refine b_iconst (v := nI 2) dX8_passYear_78 (by decide) ?_
          refine b_icmp_ne 95 dX8_passYear_79 (by decide) (fun c3 => ?_) (fun c3 => ?_)
          · skip
            have d2 : ¬ mDr (mX (s b 3)) 4 = 2 := fun z => c3 (by rw [z])
            refine b_aload_n dX8_passYear_95 rfl ?_
            refine g_get dX8_passYear_96 fX8_9 Sb.1 rfl ?_
            refine b_iload dX8_passYear_99 rfl ?_
            refine b_dup2 dX8_passYear_101 rfl rfl ?_
            refine g_iald dX8_passYear_102 Sb.2.1 rfl (by omega) ?_
            refine b_iconst (v := nI 1) dX8_passYear_103 (by decide) ?_
            refine b_iload dX8_passYear_104 rfl ?_
            refine b_ishl dX8_passYear_106 ?_
            refine b_ior dX8_passYear_107 ?_
            refine g_iast dX8_passYear_108 Sb.2.1 rfl (by omega) ?_
            refine b_iinc dX8_passYear_109 rfl (nI_1 _) (by decide) rfl ?_
            refine b_goto 8 dX8_passYear_112 (by decide) ?_
            have e : yrS a b W F P s = pt (pt s b 3 (mX (mX (mX (s b 3))))) (b + 1) (mDr (mX (mX (s b 3))) P) (pt s b 3 (mX (mX (mX (s b 3)))) (b + 1) (mDr (mX (mX (s b 3))) P) ||| (nI 1 <<< (nI (mDr (mX (mX (mX (s b 3)))) F) &&& 31))) := by rw [yrS, if_neg d0, if_neg d1, if_neg d2]
            rw [e] at hnext htn
            rw [yearS, e] at he
            exact ih (i + 1) _ _ _ _ (by omega) hnext htn he rfl rfl
          · skip
            refine b_aload_n dX8_passYear_82 rfl ?_
            refine b_aload_n dX8_passYear_83 rfl ?_
            refine b_iload dX8_passYear_84 rfl ?_
            refine b_iload dX8_passYear_86 rfl ?_
            have d2 : mDr (mX (s b 3)) 4 = 2 := by rw [nI_eq (by omega) (by omega)] at c3; exact c3
            refine g_callV [.ref (G.b0 + a), .int (nI (mDr (mX (mX (s b 3))) P)), .int (nI (mDr (mX (mX (mX (s b 3)))) F))] dX8_passYear_88 kX8_isAsked lX8_74 Sb.1 rfl rfl (c_isAsked Sb La (LV_of hs (fun q => pt_a (by omega))) ((pt_j (by omega)).trans ht) (by omega) (by omega) (by omega)) rfl rfl (Nat.le_of_ble_eq_true rfl) ?_
            refine b_pop dX8_passYear_91 rfl ?_
            refine b_goto 109 dX8_passYear_92 (by decide) ?_
            refine b_iinc dX8_passYear_109 rfl (nI_1 _) (by decide) rfl ?_
            refine b_goto 8 dX8_passYear_112 (by decide) ?_
            have e : yrS a b W F P s = askS (pt s b 3 (mX (mX (mX (s b 3))))) a b (mDr (mX (mX (s b 3))) P) (mDr (mX (mX (mX (s b 3)))) F) := by rw [yrS, if_neg d0, if_neg d1, if_pos d2]
            rw [e] at hnext htn
            rw [yearS, e] at he
            exact ih (i + 1) _ _ _ _ (by omega) hnext htn he rfl rfl
        · skip
          have d1 : mDr (mX (s b 3)) 4 = 1 := by rw [nI_eq (by omega) (by omega)] at c2; exact c2
          refine b_aload_n dX8_passYear_41 rfl ?_
          refine b_aload_n dX8_passYear_42 rfl ?_
          refine b_aload_n dX8_passYear_43 rfl ?_
          refine g_geti (x := nI W) dX8_passYear_44 fX8_86 La.1 rfl ((pt_a (by omega)).trans hW) ?_
          refine g_callV [.int (nI W)] dX8_passYear_47 kX8_draw lX8_82 Sb.1 rfl rfl (c_draw Sb hW0 (by omega)) rfl rfl (Nat.le_of_ble_eq_true rfl) ?_
          refine b_sig (pt2 s b _) ?_
          refine b_top (y := nI (mDr (mX (mX (s b 3))) W)) (by rw [pt_s]) ?_
          refine g_put dX8_passYear_50 wX8_24 Sb.1 tfX8_2 (Nat.le_of_ble_eq_true rfl) rfl ?_
          refine b_goto 109 dX8_passYear_53 (by decide) ?_
          refine b_iinc dX8_passYear_109 rfl (nI_1 _) (by decide) rfl ?_
          refine b_goto 8 dX8_passYear_112 (by decide) ?_
          have e : yrS a b W F P s = pt (pt s b 3 (mX (mX (s b 3)))) b 2 (nI (mDr (mX (mX (s b 3))) W)) := by rw [yrS, if_neg d0, if_pos d1]
          rw [e] at hnext htn
          rw [yearS, e] at he
          exact ih (i + 1) _ _ _ _ (by omega) hnext htn he rfl o2
      · skip
        have d0 : mDr (mX (s b 3)) 4 = 0 := by
          rw [← nI_0, nI_eq (by omega) (by omega)] at c1; exact c1
        refine b_aload_n dX8_passYear_26 rfl ?_
        refine b_aload_n dX8_passYear_27 rfl ?_
        refine g_callV [.ref (G.b0 + a)] dX8_passYear_28 kX8_passDay lX8_53 Sb.1 rfl rfl (c_passDay Sb La hs1 hab) rfl rfl (Nat.le_of_ble_eq_true rfl) ?_
        refine b_pop dX8_passYear_31 rfl ?_
        refine b_goto 109 dX8_passYear_32 (by decide) ?_
        refine b_iinc dX8_passYear_109 rfl (nI_1 _) (by decide) rfl ?_
        refine b_goto 8 dX8_passYear_112 (by decide) ?_
        have e : yrS a b W F P s = dayS (pt s b 3 (mX (s b 3))) a b P P := by rw [yrS, if_pos d0]
        rw [e] at hnext htn
        rw [yearS, e] at he
        exact ih (i + 1) _ _ _ _ (by omega) hnext htn he rfl o2
  exact lp n 0 _ _ _ _ (by omega) (LV_of hL (fun q => pt_a (by omega))) ⟨t, htW, (pt_j (by omega)).trans ht⟩ rfl rfl rfl
/-! ===== Past ===== -/
theorem c_forget {G : GT} {d : Nat} {σ : ST} {μ : SL} : Fn G d mX4_forget [.ref (G.b0 + 32)] (sh G σ μ) (Ret none (sh G (pt σ 32 1 (nI 0)) μ)) := by
  refine fn_of (ls := [some (.ref (G.b0 + 32))]) (by decide +kernel) (Nat.le_of_ble_eq_true rfl) 0 rfl ?_
  refine b_aload_n dX4_forget_0 rfl ?_
  refine b_iconst (v := nI 0) dX4_forget_1 (by decide) ?_
  refine g_put dX4_forget_2 wX4_15 a32 tfX4_1 (Nat.le_of_ble_eq_true rfl) rfl ?_
  exact b_vret dX4_forget_5 ⟨rfl, rfl⟩
def keepS (sz : Nat) (σ : ST) : ST := fun c q =>
  if c = 32 ∧ q = 1 then nI (if sz < 12 then sz + 1 else 12)
  else if sz < 12 then (if c = 33 ∧ sz * 7 ≤ q ∧ q < sz * 7 + 6 then σ 27 (q - sz * 7) else if c = 33 ∧ q = sz * 7 + 6 then σ 26 2 else σ c q)
  else (if c = 33 ∧ q < 77 then σ 33 (q + 7) else if c = 33 ∧ 77 ≤ q ∧ q < 83 then σ 27 (q - 77) else if c = 33 ∧ q = 83 then σ 26 2 else σ c q)
theorem c_keep {G : GT} {d : Nat} {σ : ST} {μ : SL} {sz : Nat} (hz : σ 32 1 = nI sz) (hz12 : sz ≤ 12) : Fn G (d + 1) mX4_keep [.ref (G.b0 + 32), .ref (G.b0 + 26)] (sh G σ μ) (Ret none (sh G (keepS sz σ) μ)) := by
  refine fn_of (ls := [some (.ref (G.b0 + 32)), some (.ref (G.b0 + 26))]) (by decide +kernel) (Nat.le_of_ble_eq_true rfl) 0 rfl ?_
  refine b_aload_n dX4_keep_0 rfl ?_
  refine g_geti (x := nI sz) dX4_keep_1 fX4_15 a32 rfl hz ?_
  refine b_bipush (v := nI 12) dX4_keep_4 (by decide) ?_
  refine b_icmp_lt 31 dX4_keep_6 (by decide) (fun c1 => ?_) (fun c1 => ?_)
  · skip
    rw [nI_ltI (by omega) (by omega)] at c1
    refine b_aload_n dX4_keep_31 rfl ?_
    refine g_get dX4_keep_32 fX4_25 a26 rfl ?_
    refine b_iconst (v := nI 0) dX4_keep_35 (by decide) ?_
    refine b_aload_n dX4_keep_36 rfl ?_
    refine g_get dX4_keep_37 fX4_11 a32 rfl ?_
    refine b_aload_n dX4_keep_40 rfl ?_
    refine g_geti (x := nI sz) dX4_keep_41 fX4_15 a32 rfl hz ?_
    refine b_bipush (v := nI 7) dX4_keep_44 (by decide) ?_
    refine b_imulN dX4_keep_46 ?_
    refine b_bipush (v := nI 6) dX4_keep_47 (by decide) ?_
    refine g_copy dX4_keep_49 lX4_19 a27 a33 rfl rfl rfl (by omega) (by omega) (Nat.le_of_ble_eq_true rfl) ?_
    refine b_aload_n dX4_keep_52 rfl ?_
    refine g_get dX4_keep_53 fX4_11 a32 rfl ?_
    refine b_aload_n dX4_keep_56 rfl ?_
    refine g_geti (x := nI sz) dX4_keep_57 fX4_15 a32 rfl (by simp [pt_at, cpy_at, hz]) ?_
    refine b_bipush (v := nI 7) dX4_keep_60 (by decide) ?_
    refine b_imulN dX4_keep_62 ?_
    refine b_bipush (v := nI 6) dX4_keep_63 (by decide) ?_
    refine b_iaddN dX4_keep_65 ?_
    refine b_aload_n dX4_keep_66 rfl ?_
    refine g_get dX4_keep_67 fX4_30 a26 rfl ?_
    refine g_iast dX4_keep_70 a33 rfl (by omega) ?_
    refine b_aload_n dX4_keep_71 rfl ?_
    refine b_dup dX4_keep_72 rfl ?_
    refine g_geti (x := nI sz) dX4_keep_73 fX4_15 a32 rfl (by simp [pt_at, cpy_at, hz]) ?_
    refine b_iconst (v := nI 1) dX4_keep_76 (by decide) ?_
    refine b_iaddN dX4_keep_77 ?_
    refine g_put dX4_keep_78 wX4_15 a32 tfX4_1 (Nat.le_of_ble_eq_true rfl) rfl ?_
    exact b_vret dX4_keep_81 ⟨rfl, congrArg (fun z => sh G z μ) (by funext c q; simp only [pt_at, cpy_at, keepS]; grind (splits := 60))⟩
  · skip
    rw [nI_ltI (by omega) (by omega)] at c1
    refine b_aload_n dX4_keep_9 rfl ?_
    refine g_get dX4_keep_10 fX4_11 a32 rfl ?_
    refine b_bipush (v := nI 7) dX4_keep_13 (by decide) ?_
    refine b_aload_n dX4_keep_15 rfl ?_
    refine g_get dX4_keep_16 fX4_11 a32 rfl ?_
    refine b_iconst (v := nI 0) dX4_keep_19 (by decide) ?_
    refine b_bipush (v := nI 77) dX4_keep_20 (by decide) ?_
    refine g_copy dX4_keep_22 lX4_19 a33 a33 rfl rfl rfl (by omega) (by omega) (Nat.le_of_ble_eq_true rfl) ?_
    refine b_aload_n dX4_keep_25 rfl ?_
    refine b_bipush (v := nI 11) dX4_keep_26 (by decide) ?_
    refine g_put dX4_keep_28 wX4_15 a32 tfX4_1 (Nat.le_of_ble_eq_true rfl) rfl ?_
    refine b_aload_n dX4_keep_31 rfl ?_
    refine g_get dX4_keep_32 fX4_25 a26 rfl ?_
    refine b_iconst (v := nI 0) dX4_keep_35 (by decide) ?_
    refine b_aload_n dX4_keep_36 rfl ?_
    refine g_get dX4_keep_37 fX4_11 a32 rfl ?_
    refine b_aload_n dX4_keep_40 rfl ?_
    refine g_geti (x := nI 11) dX4_keep_41 fX4_15 a32 rfl (by simp [pt_at, cpy_at]) ?_
    refine b_bipush (v := nI 7) dX4_keep_44 (by decide) ?_
    refine b_imulN dX4_keep_46 ?_
    refine b_bipush (v := nI 6) dX4_keep_47 (by decide) ?_
    refine g_copy dX4_keep_49 lX4_19 a27 a33 rfl rfl rfl (by omega) (by omega) (Nat.le_of_ble_eq_true rfl) ?_
    refine b_aload_n dX4_keep_52 rfl ?_
    refine g_get dX4_keep_53 fX4_11 a32 rfl ?_
    refine b_aload_n dX4_keep_56 rfl ?_
    refine g_geti (x := nI 11) dX4_keep_57 fX4_15 a32 rfl (by simp [pt_at, cpy_at]) ?_
    refine b_bipush (v := nI 7) dX4_keep_60 (by decide) ?_
    refine b_imulN dX4_keep_62 ?_
    refine b_bipush (v := nI 6) dX4_keep_63 (by decide) ?_
    refine b_iaddN dX4_keep_65 ?_
    refine b_aload_n dX4_keep_66 rfl ?_
    refine g_get dX4_keep_67 fX4_30 a26 rfl ?_
    refine g_iast dX4_keep_70 a33 rfl (by omega) ?_
    refine b_aload_n dX4_keep_71 rfl ?_
    refine b_dup dX4_keep_72 rfl ?_
    refine g_geti (x := nI 11) dX4_keep_73 fX4_15 a32 rfl (by simp [pt_at, cpy_at]) ?_
    refine b_iconst (v := nI 1) dX4_keep_76 (by decide) ?_
    refine b_iaddN dX4_keep_77 ?_
    refine g_put dX4_keep_78 wX4_15 a32 tfX4_1 (Nat.le_of_ble_eq_true rfl) rfl ?_
    exact b_vret dX4_keep_81 ⟨rfl, congrArg (fun z => sh G z μ) (by funext c q; simp only [pt_at, cpy_at, keepS]; grind (splits := 60))⟩
def gobS (sz : Nat) (σ : ST) : ST := fun c q => if c = 32 ∧ q = 1 then nI sz else if c = 27 ∧ q < 6 then σ 33 (sz * 7 + q) else if c = 26 ∧ q = 2 then σ 33 (sz * 7 + 6) else σ c q
theorem c_goBack {G : GT} {d : Nat} {σ : ST} {μ : SL} {sz n : Nat} (hz : σ 32 1 = nI sz) (hz12 : sz ≤ 12) (h1 : 1 ≤ n) (hn : n ≤ sz) : Fn G (d + 1) mX4_goBack [.ref (G.b0 + 32), .ref (G.b0 + 26), .int (nI n)] (sh G σ μ) (Ret none (sh G (gobS (sz - n) σ) μ)) := by
  refine fn_of (ls := [some (.ref (G.b0 + 32)), some (.ref (G.b0 + 26)), some (.int (nI n))]) (by decide +kernel) (Nat.le_of_ble_eq_true rfl) 0 rfl ?_
  refine b_iload_n dX4_goBack_0 rfl ?_
  refine b_iconst (v := nI 1) dX4_goBack_1 (by decide) ?_
  refine b_icmp_lt_f 13 dX4_goBack_2 (by decide) (nI_nlt h1 (by omega)) ?_
  refine b_iload_n dX4_goBack_5 rfl ?_
  refine b_aload_n dX4_goBack_6 rfl ?_
  refine g_geti (x := nI sz) dX4_goBack_7 fX4_15 a32 rfl hz ?_
  refine b_icmp_le_t 14 dX4_goBack_10 (by decide) (nI_le hn (by omega)) ?_
  refine b_aload_n dX4_goBack_14 rfl ?_
  refine b_dup dX4_goBack_15 rfl ?_
  refine g_geti (x := nI sz) dX4_goBack_16 fX4_15 a32 rfl hz ?_
  refine b_iload_n dX4_goBack_19 rfl ?_
  refine b_isub dX4_goBack_20 ?_
  refine b_top (nI_sub hn) ?_
  refine g_put dX4_goBack_21 wX4_15 a32 tfX4_1 (Nat.le_of_ble_eq_true rfl) rfl ?_
  refine b_aload_n dX4_goBack_24 rfl ?_
  refine g_get dX4_goBack_25 fX4_11 a32 rfl ?_
  refine b_aload_n dX4_goBack_28 rfl ?_
  refine g_geti (x := nI (sz - n)) dX4_goBack_29 fX4_15 a32 rfl (by simp [pt_at, cpy_at]) ?_
  refine b_bipush (v := nI 7) dX4_goBack_32 (by decide) ?_
  refine b_imulN dX4_goBack_34 ?_
  refine b_aload_n dX4_goBack_35 rfl ?_
  refine g_get dX4_goBack_36 fX4_25 a26 rfl ?_
  refine b_iconst (v := nI 0) dX4_goBack_39 (by decide) ?_
  refine b_bipush (v := nI 6) dX4_goBack_40 (by decide) ?_
  refine g_copy dX4_goBack_42 lX4_19 a33 a27 rfl rfl rfl (by omega) (by omega) (Nat.le_of_ble_eq_true rfl) ?_
  refine b_aload_n dX4_goBack_45 rfl ?_
  refine b_aload_n dX4_goBack_46 rfl ?_
  refine g_get dX4_goBack_47 fX4_11 a32 rfl ?_
  refine b_aload_n dX4_goBack_50 rfl ?_
  refine g_geti (x := nI (sz - n)) dX4_goBack_51 fX4_15 a32 rfl (by simp [pt_at, cpy_at]) ?_
  refine b_bipush (v := nI 7) dX4_goBack_54 (by decide) ?_
  refine b_imulN dX4_goBack_56 ?_
  refine b_bipush (v := nI 6) dX4_goBack_57 (by decide) ?_
  refine b_iaddN dX4_goBack_59 ?_
  refine g_iald dX4_goBack_60 a33 rfl (by omega) ?_
  refine g_put dX4_goBack_61 wX4_30 a26 tfX8_2 (Nat.le_of_ble_eq_true rfl) rfl ?_
  exact b_vret dX4_goBack_64 ⟨rfl, congrArg (fun z => sh G z μ) (by funext c q; simp only [pt_at, cpy_at, gobS]; grind (splits := 60))⟩
/-! ===== Row ===== -/
def mMiss (x : Int32) : Bool := decide (x < 0)
theorem c_isMissing {G : GT} {d : Nat} {σ : ST} {μ : SL} {r : Nat} (Rr : Rwo G r) : Fn G d mX6_isMissing [.ref (G.b0 + r)] (sh G σ μ) (Ret (some (.int (bI (mMiss (σ r 1))))) (sh G σ μ)) := by
  refine fn_of (ls := [some (.ref (G.b0 + r))]) (by decide +kernel) (Nat.le_of_ble_eq_true rfl) 0 rfl ?_
  refine b_aload_n dX6_isMissing_0 rfl ?_
  refine g_get dX6_isMissing_1 fX6_15 Rr.1 rfl ?_
  refine b_if_ge 11 dX6_isMissing_4 (by decide) (fun c1 => ?_) (fun c1 => ?_)
  · skip
    refine b_iconst (v := nI 0) dX6_isMissing_11 (by decide) ?_
    exact b_zret dX6_isMissing_12 rfl ⟨by rw [mMiss, decide_eq_false (Int32.not_lt.mpr c1)]; rfl, rfl⟩
  · skip
    refine b_iconst (v := nI 1) dX6_isMissing_7 (by decide) ?_
    refine b_goto 12 dX6_isMissing_8 (by decide) ?_
    exact b_zret dX6_isMissing_12 rfl ⟨by rw [mMiss, decide_eq_true (Int32.not_le.mp c1)]; rfl, rfl⟩
theorem c_renew {G : GT} {d : Nat} {σ : ST} {μ : SL} {r : Nat} {sort n : Int32} (Rr : Rwo G r) : Fn G (d + 1) mX6_renew [.ref (G.b0 + r), .int sort, .int n] (sh G σ μ) (Ret none (sh G (pt (pt σ r 2 sort) r 1 n) (flL μ (r + 1) 40 0))) := by
  refine fn_of (ls := [some (.ref (G.b0 + r)), some (.int sort), some (.int n)]) (by decide +kernel) (Nat.le_of_ble_eq_true rfl) 0 rfl ?_
  refine b_aload_n dX6_renew_0 rfl ?_
  refine g_get dX6_renew_1 fX6_9 Rr.1 rfl ?_
  refine b_lconst (v := 0) dX6_renew_4 (by decide) ?_
  refine b_callSr [.ref (G.b0 + (r + 1)), .long 0] dX6_renew_5 kJ7_fill_d0a16 lX6_19 (c_fillL Rr.2) rfl rfl (Nat.le_of_ble_eq_true rfl) ?_
  refine b_aload_n dX6_renew_8 rfl ?_
  refine b_iload_n dX6_renew_9 rfl ?_
  refine g_put dX6_renew_10 wX6_25 Rr.1 tfX6_2 (Nat.le_of_ble_eq_true rfl) rfl ?_
  refine b_aload_n dX6_renew_13 rfl ?_
  refine b_iload_n dX6_renew_14 rfl ?_
  refine g_put dX6_renew_15 wX6_15 Rr.1 tfX6_1 (Nat.le_of_ble_eq_true rfl) rfl ?_
  exact b_vret dX6_renew_18 ⟨rfl, rfl⟩
/-- a number cut to a sort -/
def mCut (sort : Nat) (v : Int64) : Int64 := if sort = 0 then v.toInt32.toInt8.toInt32.toInt64 else if sort = 1 then v.toInt32.toInt16.toInt32.toInt64 else if sort = 2 then v.toInt32.toInt64 else v
theorem c_put {G : GT} {d : Nat} {σ : ST} {μ : SL} {r i len sort : Nat} {v : Int64} (Rr : Rwo G r) (hlen : σ r 1 = nI len) (hsort : σ r 2 = nI sort) (hi : i < len) (hl40 : len ≤ 40) (hs4 : sort < 4) : Fn G d mX6_put [.ref (G.b0 + r), .int (nI i), .long v] (sh G σ μ) (Ret none (sh G σ (ptL μ (r + 1) i (mCut sort v)))) := by
  refine fn_of (ls := [some (.ref (G.b0 + r)), some (.int (nI i)), some (.long v), none]) (by decide +kernel) (Nat.le_of_ble_eq_true rfl) 0 rfl ?_
  refine b_iload_n dX6_put_0 rfl ?_
  refine b_if_lt_f 12 dX6_put_1 (by decide) (nI_pos (by omega)) ?_
  refine b_iload_n dX6_put_4 rfl ?_
  refine b_aload_n dX6_put_5 rfl ?_
  refine g_geti (x := nI len) dX6_put_6 fX6_15 Rr.1 rfl hlen ?_
  refine b_icmp_lt_t 13 dX6_put_9 (by decide) (nI_lt hi (by omega)) ?_
  refine b_aload_n dX6_put_13 rfl ?_
  refine g_geti (x := nI sort) dX6_put_14 fX6_25 Rr.1 rfl hsort ?_
  have hmi : (nI sort).toInt = (sort : Int) := nI_toInt (by omega)
  rcases (show sort = 0 ∨ sort = 1 ∨ sort = 2 ∨ sort = 3 by omega) with rfl | rfl | rfl | rfl
  · refine b_tableIn 44 dX6_put_17 (by rw [hmi]; decide) (by rw [hmi]; decide) (by rw [hmi]; rfl) (by decide) ?_
    refine b_aload_n dX6_put_44 rfl ?_
    refine g_get dX6_put_45 fX6_9 Rr.1 rfl ?_
    refine b_iload_n dX6_put_48 rfl ?_
    refine b_lload_n dX6_put_49 rfl ?_
    refine b_l2i dX6_put_50 ?_
    refine b_i2b dX6_put_51 ?_
    refine b_i2l dX6_put_52 ?_
    refine g_last dX6_put_53 Rr.2 rfl (by omega) ?_
    refine b_goto 89 dX6_put_54 (by decide) ?_
    exact b_vret dX6_put_89 ⟨rfl, by simp [mCut]⟩
  · refine b_tableIn 57 dX6_put_17 (by rw [hmi]; decide) (by rw [hmi]; decide) (by rw [hmi]; rfl) (by decide) ?_
    refine b_aload_n dX6_put_57 rfl ?_
    refine g_get dX6_put_58 fX6_9 Rr.1 rfl ?_
    refine b_iload_n dX6_put_61 rfl ?_
    refine b_lload_n dX6_put_62 rfl ?_
    refine b_l2i dX6_put_63 ?_
    refine b_i2s dX6_put_64 ?_
    refine b_i2l dX6_put_65 ?_
    refine g_last dX6_put_66 Rr.2 rfl (by omega) ?_
    refine b_goto 89 dX6_put_67 (by decide) ?_
    exact b_vret dX6_put_89 ⟨rfl, by simp [mCut]⟩
  · refine b_tableIn 70 dX6_put_17 (by rw [hmi]; decide) (by rw [hmi]; decide) (by rw [hmi]; rfl) (by decide) ?_
    refine b_aload_n dX6_put_70 rfl ?_
    refine g_get dX6_put_71 fX6_9 Rr.1 rfl ?_
    refine b_iload_n dX6_put_74 rfl ?_
    refine b_lload_n dX6_put_75 rfl ?_
    refine b_l2i dX6_put_76 ?_
    refine b_i2l dX6_put_77 ?_
    refine g_last dX6_put_78 Rr.2 rfl (by omega) ?_
    refine b_goto 89 dX6_put_79 (by decide) ?_
    exact b_vret dX6_put_89 ⟨rfl, by simp [mCut]⟩
  · refine b_tableOut 82 dX6_put_17 (by rw [hmi]; decide) (by decide) ?_
    refine b_aload_n dX6_put_82 rfl ?_
    refine g_get dX6_put_83 fX6_9 Rr.1 rfl ?_
    refine b_iload_n dX6_put_86 rfl ?_
    refine b_lload_n dX6_put_87 rfl ?_
    refine g_last dX6_put_88 Rr.2 rfl (by omega) ?_
    exact b_vret dX6_put_89 ⟨rfl, by simp [mCut]⟩
end
